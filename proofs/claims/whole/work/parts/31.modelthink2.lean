/-! who is barefoot stays so -/
def cnt (p : Nat → Bool) : Nat → Nat
  | 0 => 0
  | n + 1 => cnt p n + (if p n = true then 1 else 0)
theorem popa_all : ((List.range 12).all fun i => (List.range 64).all fun a => (List.range 64).all fun b => decide (2 ^ i ≤ 64 * a + b) || decide (sPop (nI (64 * a + b + 2 ^ i)) = sPop (nI (64 * a + b)) + 1)) = true := by decide +kernel
theorem popa_n {i m : Nat} (hi : i < 12) (h : m < 2 ^ i) : sPop (nI (m + 2 ^ i)) = sPop (nI m) + 1 := by
  have h12 : 2 ^ i ≤ 2 ^ 11 := Nat.pow_le_pow_right (by decide) (by omega)
  have h1 := List.all_eq_true.mp (List.all_eq_true.mp (List.all_eq_true.mp popa_all i (List.mem_range.mpr hi)) (m / 64) (List.mem_range.mpr (by omega))) (m % 64) (List.mem_range.mpr (by omega))
  rw [show 64 * (m / 64) + m % 64 = m by omega, Bool.or_eq_true, decide_eq_true_iff, decide_eq_true_iff] at h1
  exact h1.resolve_left (by omega)
theorem pop_cnt {p : Nat → Bool} : ∀ {i : Nat}, i ≤ 12 → sPop (bitsF p i) = nI (cnt p i)
  | 0, _ => (by decide : sPop 0 = nI 0)
  | i + 1, hi => by
    have ih := pop_cnt (p := p) (i := i) (by omega)
    obtain ⟨m, hm, e⟩ := bits_lt (p := p) (i := i) (by omega)
    show _ = nI (cnt p i + (if p i = true then 1 else 0))
    by_cases h : p i = true
    · rw [bitsF_t h, if_pos h, e, or_n (by omega) hm, popa_n (by omega) hm, ← e, ih, nI_1]
    · rw [bitsF_f h, if_neg h, ih]
      rfl
theorem cnt_mono {p q : Nat → Bool} : ∀ {n : Nat}, (∀ d, d < n → p d = true → q d = true) → cnt p n ≤ cnt q n
  | 0, _ => Nat.le_refl 0
  | n + 1, h => by
    have ih := cnt_mono (n := n) (fun d hd => h d (by omega))
    show cnt p n + (if p n = true then 1 else 0) ≤ cnt q n + (if q n = true then 1 else 0)
    by_cases e : p n = true
    · rw [if_pos e, if_pos (h n (by omega) e)]
      omega
    · rw [if_neg e]
      omega
theorem cnt_le {p : Nat → Bool} : ∀ n, cnt p n ≤ n
  | 0 => Nat.le_refl 0
  | n + 1 => by
    have := cnt_le (p := p) n
    show cnt p n + (if p n = true then 1 else 0) ≤ n + 1
    split <;> omega
theorem sStep_3 {g : WT} {h : HT} {d e : Nat} (hde : e ≠ d) : sStep g h d 3 e = h 3 e := by
  unfold sStep sSt2 sSt1
  rw [up2_n (by decide), up2_s, upd_n hde, up2_n (by decide), up2_n (by decide)]
theorem sWk_3 {g : WT} {d e : Nat} (hde : e ≠ d) : ∀ (n : Nat) (h : HT), sWk g d n h 3 e = h 3 e
  | 0, _ => rfl
  | n + 1, h => by
    unfold sWk
    split
    · rw [sWk_3 hde n, sStep_3 hde]
    · rfl
theorem sWalk_0 {g : WT} {h : HT} {d : Nat} (h0 : h 3 d = 0) : sWalk g h d = h := by
  unfold sWalk
  rw [show sGoes h d = 0 from if_pos h0]
  rfl
theorem sDs_3 {g : WT} {h : HT} {e : Nat} (h0 : h 3 e = 0) : ∀ k, sDs g h k 3 e = 0
  | 0 => h0
  | k + 1 => by
    show sWalk g (sDs g h k) k 3 e = 0
    have ih := sDs_3 (g := g) h0 k
    by_cases q : e = k
    · subst q
      rw [sWalk_0 ih, ih]
    · unfold sWalk
      rw [sWk_3 q, ih]
theorem sHours_3 {g : WT} {h : HT} {e : Nat} (h0 : h 3 e = 0) : ∀ k, sHours g h k 3 e = 0
  | 0 => h0
  | k + 1 => by
    show sHour g (sHours g h k) 3 e = 0
    unfold sHour
    rw [up2_n (by decide), sLook_f (by decide), sDs_3 (sHours_3 h0 k)]
theorem bare_mono {g : WT} {h : HT} (hi : HI h) (k : Nat) : ¬ sPop (sBare (sHours g h k)) < sPop (sBare h) := by
  unfold sBare
  rw [sHours_N, pop_cnt hi.n.1, pop_cnt hi.n.1]
  have h1 := cnt_mono (p := fun d => decide (h 3 d = 0)) (q := fun d => decide (sHours g h k 3 d = 0)) (n := sN h) (fun d _ hd => decide_eq_true (sHours_3 (of_decide_eq_true hd) k))
  have h2 := cnt_le (p := fun d => decide (h 3 d = 0)) (sN h)
  have h3 := cnt_le (p := fun d => decide (sHours g h k 3 d = 0)) (sN h)
  have := hi.n.1
  exact fun z => by have := n_lt (by omega) (by omega) z; omega
theorem thr_e {g : WT} {h : HT} (hi : HI h) {k : Nat} (hne : ¬ sPop (sBare (sHours g h k)) = sPop (sBare h)) : sPop (sBare h) < sPop (sBare (sHours g h k)) :=
  Int32.not_le.mp (fun z => hne (Int32.le_antisymm z (Int32.not_lt.mp (bare_mono hi k))))
/-- the first i hours leave nobody more barefoot -/
def thQ (g : WT) (h : HT) (i : Nat) : Prop := ∀ j, j < i → sPop (sBare (sHours g h j)) = sPop (sBare h)
theorem thr_a {g : WT} {h : HT} : ∀ (m i j : Nat), m + i = 201 → i ≤ j → j ≤ 200 → (∀ q, i ≤ q → q < j → ¬ sPop (sBare h) < sPop (sBare (sHours g h q))) → sPop (sBare h) < sPop (sBare (sHours g h j)) → thrL g h m i = nI j
  | 0, i, j, h1, h2, h3, _, _ => by omega
  | m + 1, i, j, h1, h2, h3, hq, hj => by
    by_cases e : i = j
    · subst e
      exact if_pos hj
    · exact (if_neg (hq i (by omega) (by omega))).trans (thr_a m (i + 1) j (by omega) (by omega) h3 (fun q h4 h5 => hq q (by omega) h5) hj)
theorem thr_b {g : WT} {h : HT} : ∀ (m i : Nat), m + i = 201 → (∀ q, i ≤ q → q ≤ 200 → ¬ sPop (sBare h) < sPop (sBare (sHours g h q))) → thrL g h m i = -1000000005
  | 0, _, _, _ => rfl
  | m + 1, i, h1, hq => (if_neg (hq i (by omega) (by omega))).trans (thr_b m (i + 1) (by omega) (fun q h4 h5 => hq q (by omega) h5))
theorem thr_t {g : WT} {h : HT} (hi : HI h) {i : Nat} (h2 : i ≤ 200) (hne : ¬ sPop (sBare (sHours g h i)) = sPop (sBare (sHours g h 0))) (hQ : thQ g h i) : aThrough g h = nI i := by
  have h1 : 1 ≤ i := Nat.pos_of_ne_zero (fun q => hne (by rw [q]))
  exact thr_a 200 1 i (by omega) h1 h2 (fun q h4 h5 z => by rw [hQ q h5] at z; exact Int32.lt_irrefl z) (thr_e hi hne)
theorem thr_n {g : WT} {h : HT} {i : Nat} (h2 : 200 < i) (hQ : thQ g h i) : aThrough g h = -1000000005 := thr_b 200 1 (by omega) (fun q h4 h5 z => by rw [hQ q (by omega)] at z; exact Int32.lt_irrefl z)
theorem thQ_s {g : WT} {h : HT} {i : Nat} (hQ : thQ g h i) (e : sPop (sBare (sHours g h i)) = sPop (sBare (sHours g h 0))) : thQ g h (i + 1) := fun j hj => by
  by_cases q : j = i
  · rw [q]; exact e
  · exact hQ j (by omega)
set_option maxRecDepth 100000 in
set_option maxHeartbeats 4000000 in
theorem c_X8_through (B : BT) (μ : Nat → Nat → Int32) (δ : Nat → Int64) (h : HT) (T : Nat → Int32) (hi : HI h) (σ : ST) (hTR : TR σ h T) : MI B yX8_through cX8_through 3 (some .int) ({ frames := 5, cells := 0, slots := 0, locals := 117 }) [.ref (aB B 0)] (up1 μ 1 (en h T)) δ (fun r μ' δ' => r = aThrough (gC σ (h 9 0)) h ∧ ∃ μ2, Jm μ μ2 ∧ μ' = up1 μ2 1 (en h T) ∧ δ' = δ) := by
  refine MX.of2 RX8 (by decide) rfl ⟨rfl, rfl⟩ (Nat.le_of_ble_eq_true rfl) (by rfl) (fun k ho hr hk => ?_)
  show XM B k (up1 μ 1 (en h T)) δ 0 [some (.ref (aB B 0)), none, none] []
  rw [MW_0]
  refine x_ald0 ho dX8_through_0 ?_
  refine vMV0 ho cs_X8_178 (w_thinks B _ _ _ _ _ _) rfl ⟨rfl, rfl⟩ ⟨Nat.le_of_ble_eq_true rfl, Nat.le_of_ble_eq_true rfl⟩ (Nat.le_of_ble_eq_true rfl) dX8_through_1 (fun s1 t1 p1 => ?_)
  obtain ⟨rfl, e_⟩ := p1
  subst t1
  refine x_ald0 ho dX8_through_4 ?_
  refine vMI0 ho cs_X8_175 (w_bare B _ _ _ _ (sHours (gC σ (h 9 0)) h 0) _ hi) rfl ⟨rfl, rfl⟩ ⟨Nat.le_of_ble_eq_true rfl, Nat.le_of_ble_eq_true rfl⟩ (Nat.le_of_ble_eq_true rfl) dX8_through_5 (fun r5 s5 t5 p5 => ?_)
  obtain ⟨rfl, rfl, e_⟩ := p5
  subst t5
  refine sMI1 ho cs_X8_160 (c_X8_manyOf B _ _ _ (pop_b (by rw [sHours_N]; exact hi.n.1)).1) ⟨rfl, rfl⟩ ⟨Nat.le_of_ble_eq_true rfl, Nat.le_of_ble_eq_true rfl⟩ (Nat.le_of_ble_eq_true rfl) dX8_through_8 (fun r8 s8 t8 p8 => ?_)
  obtain ⟨rfl, rfl, e_⟩ := p8
  subst t8
  rw [show nI (mo 13 (sBare (sHours (gC σ (h 9 0)) h 0))) = (sPop (sBare (sHours (gC σ (h 9 0)) h 0))) from (pop_b (by rw [sHours_N]; exact hi.n.1)).2]
  refine x_ist1 ho dX8_through_11 (by rw [hk]; decide) rfl ?_
  refine x_iconst (v := 0) ho dX8_through_12 rfl ?_
  refine x_ist2 ho dX8_through_13 (by rw [hk]; decide) rfl ?_
  have K42 : ∀ i stk fc, i ≤ 201 → (i ≤ 200 → aThrough (gC σ (h 9 0)) h = nI i) → (200 < i → aThrough (gC σ (h 9 0)) h = -1000000005) → XM B k (MW (up1 μ 4 (en h T)) stk fc (sHours (gC σ (h 9 0)) h i) T) δ 42 [some (.ref (aB B 0)), some (.int (sPop (sBare (sHours (gC σ (h 9 0)) h 0)))), some (.int (nI i))] [] := by
    intro i stk fc hi1 k1 k2
    refine x_ald0 ho dX8_through_42 ?_
    refine vMV0 ho cs_X8_181 (w_putsBack B _ _ _ _ _ _ _) rfl ⟨rfl, rfl⟩ ⟨Nat.le_of_ble_eq_true rfl, Nat.le_of_ble_eq_true rfl⟩ (Nat.le_of_ble_eq_true rfl) dX8_through_43 (fun s43 t43 p43 => ?_)
    obtain ⟨rfl, e_⟩ := p43
    subst t43
    refine x_ild2 ho dX8_through_46 ?_
    refine x_sipush (v := 200) ho dX8_through_47 rfl ?_
    refine x_icmp_le 58 ho dX8_through_50 (by decide) (fun c50 => ?_) (fun c50 => ?_)
    · have c50 := n_le (b := 200) (by omega) (by decide) c50
      have ev := k1 c50
      refine x_ild2 ho dX8_through_58 ?_
      refine x_iret ho hr ?_ dX8_through_59
      obtain ⟨μ2, j1, j2⟩ := MW4_J (μ := μ) (stk := stk) (fc := fc) (b := en h T) (h := h) (T := T)
      exact ⟨_, _, _, rfl, rfl, ev.symm, μ2, j1, j2, rfl⟩
    · have c50 := n_nle (b := 200) (by omega) (by decide) c50
      have ev := k2 c50
      refine x_ldc ho kc_X8_150 dX8_through_53 ?_
      refine x_goto 59 ho dX8_through_55 (by decide) ?_
      refine x_iret ho hr ?_ dX8_through_59
      obtain ⟨μ2, j1, j2⟩ := MW4_J (μ := μ) (stk := stk) (fc := fc) (b := en h T) (h := h) (T := T)
      exact ⟨_, _, _, rfl, rfl, ev.symm, μ2, j1, j2, rfl⟩
  have loop : ∀ (f i : Nat) (stk fc : Nat → Int32), 201 < f + i → i ≤ 201 → thQ (gC σ (h 9 0)) h i → XM B k (MW (up1 μ 4 (en h T)) stk fc (sHours (gC σ (h 9 0)) h i) T) δ 14 [some (.ref (aB B 0)), some (.int (sPop (sBare (sHours (gC σ (h 9 0)) h 0)))), some (.int (nI i))] [] := by
    intro f
    induction f with
    | zero => intro i stk fc h1 h2; omega
    | succ f ih =>
      intro i stk fc h1 h2 hQ
      refine x_ild2 ho dX8_through_14 ?_
      refine x_sipush (v := 200) ho dX8_through_15 rfl ?_
      refine x_icmp_gt 42 ho dX8_through_18 (by decide) (fun c18 => ?_) (fun c18 => ?_)
      · have c18 := n_lt (a := 200) (by decide) (by omega) c18
        first | exact K42 i stk fc (by omega) (fun z => by omega) (fun z => thr_n z hQ) | exact K42 i stk fc (by omega) (fun z => thr_t hi z c29 hQ) (fun z => by omega)
      · have c18 := n_nlt (a := 200) (b := i) (by decide) (by omega) c18
        refine x_ald0 ho dX8_through_21 ?_
        refine vMI0 ho cs_X8_175 (w_bare B _ _ _ _ (sHours (gC σ (h 9 0)) h i) _ (hi.hours gC_GR i)) rfl ⟨rfl, rfl⟩ ⟨Nat.le_of_ble_eq_true rfl, Nat.le_of_ble_eq_true rfl⟩ (Nat.le_of_ble_eq_true rfl) dX8_through_22 (fun r22 s22 t22 p22 => ?_)
        obtain ⟨rfl, rfl, e_⟩ := p22
        subst t22
        refine sMI1 ho cs_X8_160 (c_X8_manyOf B _ _ _ (pop_b (by rw [sHours_N]; exact hi.n.1)).1) ⟨rfl, rfl⟩ ⟨Nat.le_of_ble_eq_true rfl, Nat.le_of_ble_eq_true rfl⟩ (Nat.le_of_ble_eq_true rfl) dX8_through_25 (fun r25 s25 t25 p25 => ?_)
        obtain ⟨rfl, rfl, e_⟩ := p25
        subst t25
        rw [show nI (mo 13 (sBare (sHours (gC σ (h 9 0)) h i))) = (sPop (sBare (sHours (gC σ (h 9 0)) h i))) from (pop_b (by rw [sHours_N]; exact hi.n.1)).2]
        refine x_ild1 ho dX8_through_28 ?_
        refine x_icmp_ne 42 ho dX8_through_29 (by decide) (fun c29 => ?_) (fun c29 => ?_)
        · first | exact K42 i stk fc (by omega) (fun z => by omega) (fun z => thr_n z hQ) | exact K42 i stk fc (by omega) (fun z => thr_t hi z c29 hQ) (fun z => by omega)
        · refine x_ald0 ho dX8_through_32 ?_
          refine vMV0 ho cs_X8_163 (c_X8_hour B _ _ (sHours (gC σ (h 9 0)) h i) T _ _ σ (TR_e hTR sHours_14 sHours_9) (hi.hours gC_GR i)) rfl ⟨rfl, rfl⟩ ⟨Nat.le_of_ble_eq_true rfl, Nat.le_of_ble_eq_true rfl⟩ (Nat.le_of_ble_eq_true rfl) dX8_through_33 (fun s33 t33 p33 => ?_)
          rw [show (sHours (gC σ (h 9 0)) h i) 9 = h 9 from sHours_9] at p33
          obtain ⟨stk, fc, rfl, e_⟩ := p33
          subst t33
          refine x_inc2 (y := 1) ho dX8_through_36 (by rw [hk]; decide) rfl rfl ?_
          refine x_goto 14 ho dX8_through_39 (by decide) ?_
          rw [nI_1 i]
          exact ih (i + 1) stk fc (by omega) (by omega) (thQ_s hQ c29)
  exact loop 202 0 _ _ (by omega) (by omega) (fun j hj => absurd hj (Nat.not_lt_zero j))
