/-! longs -/
theorem lh_set2 {ls' : Array Slot} {nL i : Nat} {L : List (Option Value)} {v : Value} (hc : c1o L[i - 1]? = true) (hi0 : i ≠ 0) (hnone : ∀ w, L[i + 1]? ≠ some (some w)) (h : lv_has ls' nL ((i, v) :: (lhl L).filter (fun q => !(q.1 == i) && (!(q.1 == i + 1) && !(q.1 + 1 == i && q.2.category == 2))))) : lh ls' nL (L.set i (some v)) := by
  refine lh_of h (fun j w hw => ?_)
  by_cases e : j = i
  · subst e
    have hl : j < (L.set j (some v)).length := (List.getElem?_eq_some_iff.mp hw).1
    rw [List.getElem?_set_self (by simpa using hl)] at hw
    cases hw
    exact List.mem_cons_self
  · rw [List.getElem?_set_ne (fun q => e q.symm)] at hw
    refine List.mem_cons_of_mem _ (List.mem_filter.mpr ⟨lhl_mem.mpr hw, ?_⟩)
    have e1 : (j == i) = false := by simp [e]
    have e3 : (j == i + 1) = false := by
      simp only [beq_eq_false_iff_ne]
      exact fun q => hnone w (by rw [← q]; exact hw)
    rw [e1, e3]
    by_cases e2 : j + 1 = i
    · rw [show i - 1 = j by omega, hw] at hc
      have h2 : w.category ≠ 2 := by simpa [c1o] using hc
      simp [h2]
    · simp [e2]
section XL39
variable {G : GT} {k : KT} {cc : ByteArray} {own : String} {rm : Room} {ce : Nat → va_E} {pc : Nat} {st : List Value}
theorem x_lld7 {a0 a1 a2 a3 a4 a5 a6 : Option Value} {t : List (Option Value)} {x : Int64} (h : Ok G k cc own rm) (hdg : decode cc pc = .ok (.lload 7, 2)) (kk : X G k ce (pc + 2) (a0 :: a1 :: a2 :: a3 :: a4 :: a5 :: a6 :: some (.long x) :: t) (.long x :: st)) : X G k ce pc (a0 :: a1 :: a2 :: a3 :: a4 :: a5 :: a6 :: some (.long x) :: t) st := fun H locs ls hP hD hS hl => lv_lload h.1 h.2.1 hdg (hl.2.2 7 _ rfl) (kk H locs ls hP hD hS hl)
theorem x_lst7 {a0 a1 a2 a3 a4 a5 a6 b : Option Value} {x : Int64} (h : Ok G k cc own rm) (hdg : decode cc pc = .ok (.lstore 7, 2)) (hn : 8 < kL k) (hq : c1o (some a6) = true) (kk : X G k ce (pc + 2) [a0, a1, a2, a3, a4, a5, a6, some (.long x), none] st) : X G k ce pc [a0, a1, a2, a3, a4, a5, a6, b, none] (.long x :: st) := fun H locs ls hP hD hS hl => lv_lstore h.1 h.2.1 hdg (lh_has hl) hn rfl (fun ls' hl' => kk H locs ls' hP hD hS (lh_set2 (i := 7) (L := [a0, a1, a2, a3, a4, a5, a6, b, none]) hq (by decide) (fun w hw => by simp at hw) hl'))
end XL39
theorem lg_ge {x y : Int64} : 0 ≤ lg_cmp x y ↔ ¬ x < y := by
  unfold lg_cmp
  by_cases h1 : x > y
  · rw [if_pos h1]
    refine ⟨fun _ => ?_, fun _ => by decide⟩
    rw [gt_iff_lt, Int64.lt_iff_toInt_lt] at h1
    rw [Int64.lt_iff_toInt_lt]
    omega
  · rw [if_neg h1]
    by_cases h2 : x = y
    · rw [if_pos h2, h2]
      refine ⟨fun _ => ?_, fun _ => by decide⟩
      rw [Int64.lt_iff_toInt_lt]
      omega
    · rw [if_neg h2]
      refine ⟨fun q => absurd q (by decide), fun q => ?_⟩
      exfalso
      rw [gt_iff_lt, Int64.lt_iff_toInt_lt] at h1
      rw [Int64.lt_iff_toInt_lt] at q
      exact h2 (Int64.toInt_inj.mp (by omega))
theorem l_off {v s : Int32} (hv : -99999 ≤ v.toInt ∧ v.toInt ≤ 99999) (hs : rg s 0 999) : (v.toInt64 - s.toInt64).toInt = v.toInt - s.toInt := by
  have h := rg_ti hs (by decide)
  rw [Int64.toInt_sub, Int32.toInt_toInt64, Int32.toInt_toInt64, Int.bmod_eq_of_le (by omega) (by omega)]
theorem c_abs {v s : Int32} (hv : -99999 ≤ v.toInt ∧ v.toInt ≤ 99999) (hs : rg s 0 999) : (jab (s - v)).toInt = (v.toInt - s.toInt).natAbs := by
  have h := rg_ti hs (by decide)
  have e : (s - v).toInt = s.toInt - v.toInt := by rw [Int32.toInt_sub, Int.bmod_eq_of_le (by omega) (by omega)]
  unfold jab
  by_cases q : 0 ≤ s - v
  · rw [if_pos q, e]
    rw [Int32.le_iff_toInt_le, e, show (0 : Int32).toInt = 0 from rfl] at q
    omega
  · rw [if_neg q, Int32.toInt_sub, e, show (0 : Int32).toInt = 0 from rfl, Int.bmod_eq_of_le (by omega) (by omega)]
    rw [Int32.le_iff_toInt_le, e, show (0 : Int32).toInt = 0 from rfl] at q
    omega
theorem l_abs {v s : Int32} {z : Int64} (hv : -99999 ≤ v.toInt ∧ v.toInt ≤ 99999) (hs : rg s 0 999) (hz : (z = v.toInt64 - s.toInt64 ∧ 0 ≤ lg_cmp (v.toInt64 - s.toInt64) 0) ∨ (z = -(v.toInt64 - s.toInt64) ∧ ¬ 0 ≤ lg_cmp (v.toInt64 - s.toInt64) 0)) : z.toInt = (v.toInt - s.toInt).natAbs := by
  have h := rg_ti hs (by decide)
  have e := l_off hv hs
  rcases hz with ⟨rfl, q⟩ | ⟨rfl, q⟩
  · have q := lg_ge.mp q
    rw [Int64.lt_iff_toInt_lt, e, show (0 : Int64).toInt = 0 from rfl] at q
    rw [e]
    omega
  · have q := Decidable.not_not.mp (fun y => q (lg_ge.mpr y))
    rw [Int64.lt_iff_toInt_lt, e, show (0 : Int64).toInt = 0 from rfl] at q
    rw [Int64.toInt_neg, e, Int.bmod_eq_of_le (by omega) (by omega)]
    omega
/-- the differences, in longs and in ints -/
def DR (N : Nat) (b : Int) (δ : Nat → Int64) (tl : Nat → Int32) : Prop := ∀ d, d < N → (δ d).toInt = (tl d).toInt ∧ 0 ≤ (tl d).toInt ∧ (tl d).toInt ≤ b
def DI (N d' : Nat) (b : Int) (δ : Nat → Int64) (tl : Nat → Int32) : Prop := ∀ d, d < N → (δ d).toInt = (tl d).toInt ∧ 0 ≤ (tl d).toInt ∧ (tl d).toInt ≤ (if d < d' then b + 101000 else b)
theorem DI.of {N : Nat} {b : Int} {δ : Nat → Int64} {tl : Nat → Int32} (h : DR N b δ tl) : DI N 0 b δ tl := fun d hd => by
  obtain ⟨h1, h2, h3⟩ := h d hd
  exact ⟨h1, h2, by rw [if_neg (Nat.not_lt_zero d)]; exact h3⟩
theorem DI.to {N : Nat} {b : Int} {δ : Nat → Int64} {tl : Nat → Int32} (h : DI N N b δ tl) : DR N (b + 101000) δ tl := fun d hd => by
  obtain ⟨h1, h2, h3⟩ := h d hd
  rw [if_pos hd] at h3
  exact ⟨h1, h2, h3⟩
theorem DI.skip {N d' : Nat} {b : Int} {δ : Nat → Int64} {tl : Nat → Int32} (h : DI N d' b δ tl) (hd' : d' < N) (hb : 0 ≤ b) (hb2 : b ≤ 2424000) : DI N (d' + 1) b (vp_updL δ d' (δ d' + 0)) tl := fun d hd => by
  obtain ⟨h1, h2, h3⟩ := h d hd
  have e : vp_updL δ d' (δ d' + 0) d = δ d := by
    unfold vp_updL
    by_cases q : d = d'
    · rw [if_pos q, q, Int64.add_zero]
    · rw [if_neg q]
  rw [e]
  refine ⟨h1, h2, ?_⟩
  split <;> split at h3 <;> omega
theorem DI.add {N d' : Nat} {b : Int} {δ : Nat → Int64} {tl : Nat → Int32} {v s : Int32} {z : Int64} (h : DI N d' b δ tl) (hd' : d' < N) (hb : 0 ≤ b) (hb2 : b ≤ 2424000) (hv : -99999 ≤ v.toInt ∧ v.toInt ≤ 99999) (hs : rg s 0 999) (hz : z.toInt = (v.toInt - s.toInt).natAbs) : DI N (d' + 1) b (vp_updL δ d' (δ d' + z)) (upd tl d' (tl d' + jab (s - v))) := fun d hd => by
  have hr := rg_ti hs (by decide)
  have hc := c_abs hv hs
  by_cases q : d = d'
  · subst q
    obtain ⟨h1, h2, h3⟩ := h d hd
    rw [if_neg (Nat.lt_irrefl d)] at h3
    have e1 : vp_updL δ d (δ d + z) d = δ d + z := if_pos rfl
    have e2 : (δ d + z).toInt = (δ d).toInt + z.toInt := by rw [Int64.toInt_add, Int.bmod_eq_of_le (by omega) (by omega)]
    have e3 : (tl d + jab (s - v)).toInt = (tl d).toInt + (jab (s - v)).toInt := by rw [Int32.toInt_add, Int.bmod_eq_of_le (by omega) (by omega)]
    rw [e1, upd_s, e2, e3, if_pos (Nat.lt_succ_self d)]
    omega
  · obtain ⟨h1, h2, h3⟩ := h d hd
    have e1 : vp_updL δ d' (δ d' + z) d = δ d := if_neg q
    rw [e1, upd_n q]
    refine ⟨h1, h2, ?_⟩
    split <;> split at h3 <;> omega
theorem DR.w {N : Nat} {b b' : Int} {δ : Nat → Int64} {tl : Nat → Int32} (h : DR N b δ tl) (hb : b ≤ b') : DR N b' δ tl := fun d hd => ⟨(h d hd).1, (h d hd).2.1, Int.le_trans (h d hd).2.2 hb⟩
section XN39
variable {B : BT} {k : KT} {cc : ByteArray} {own : String} {rm : Room} {μ : ST} {δ : Nat → Int64} {pc : Nat} {L : List (Option Value)} {st : List Value}
theorem xm_laldN {i : Int32} (m : Nat) (hi : i = nI m) (hm : m < 12) (h : Ok (GM B) k cc own rm) (hdg : decode cc pc = .ok (.laload, 1)) (kk : XM B k μ δ (pc + 1) L (.long (δ m) :: st)) : XM B k μ δ pc L (.int i :: .ref (aB B 6) :: st) := by
  subst hi
  refine xm_lald h (rg_in (rg_nI (Nat.zero_le m) (Nat.le_refl m)) hm (by decide)) hdg ?_
  rw [show (nI m).toNatClampNeg = m from ix_n (by omega)]
  exact kk
theorem xm_lastN {i : Int32} {x : Int64} (m : Nat) (hi : i = nI m) (hm : m < 12) (h : Ok (GM B) k cc own rm) (hdg : decode cc pc = .ok (.lastore, 1)) (kk : XM B k μ (vp_updL δ m x) (pc + 1) L st) : XM B k μ δ pc L (.long x :: .int i :: .ref (aB B 6) :: st) := by
  subst hi
  refine xm_last h (rg_in (rg_nI (Nat.zero_le m) (Nat.le_refl m)) hm (by decide)) hdg ?_
  rw [show (nI m).toNatClampNeg = m from ix_n (by omega)]
  exact kk
end XN39
theorem dfT_0 {g : WT} {h : HT} {row : Nat → Int32} : dfT g h row 0 = fun _ => 0 := rfl
theorem DR.zero {N : Nat} {δ : Nat → Int64} (h : ∀ d, d < N → δ d = 0) : DR N 0 δ (fun _ => 0) := fun d hd => by
  rw [h d hd]
  show (0 : Int64).toInt = (0 : Int32).toInt ∧ 0 ≤ (0 : Int32).toInt ∧ (0 : Int32).toInt ≤ 0
  decide
theorem DR.lt {N : Nat} {b : Int} {δ : Nat → Int64} {tl : Nat → Int32} (h : DR N b δ tl) {x y : Nat} (hx : x < N) (hy : y < N) : δ x < δ y ↔ tl x < tl y := by
  rw [Int64.lt_iff_toInt_lt, Int32.lt_iff_toInt_lt, (h x hx).1, (h y hy).1]
theorem DR.at {N : Nat} {b : Int} {δ : Nat → Int64} {tl : Nat → Int32} (h : DR N b δ tl) {x : Nat} (hx : x < N) : (δ x).toInt32 = tl x := by
  refine Int32.toInt_inj.mp ?_
  have h1 := Int32.toInt_lt (tl x)
  have h2 := Int32.le_toInt (tl x)
  rw [Int64.toInt_toInt32, (h x hx).1, Int.bmod_eq_of_le (by omega) (by omega)]
set_option maxRecDepth 100000 in
set_option maxHeartbeats 4000000 in
theorem c_X8_whose (B : BT) (μ : Nat → Nat → Int32) (δ : Nat → Int64) (h : HT) (T : Nat → Int32) (hi : HI h) (σ : ST) (hTR : TR σ h T) (hS : ShR σ μ) (x w : Int32) : MI B yX8_whose cX8_whose 9 (some .int) ({ frames := 5, cells := 0, slots := 0, locals := 117 }) [.ref (aB B 0), .int x, .int w] (up1 μ 1 (en h T)) δ (fun r μ' δ' => r = aWhose (gC σ (h 9 0)) σ h x w ∧ ∃ μ2, Jm μ μ2 ∧ μ' = up1 μ2 1 (en h T)) := by
  refine MX.of2 RX8 (by decide) rfl ⟨rfl, rfl⟩ (Nat.le_of_ble_eq_true rfl) (by rfl) (fun k ho hr hk => ?_)
  show XM B k (up1 μ 1 (en h T)) δ 0 [some (.ref (aB B 0)), some (.int x), some (.int w), none, none, none, none, none, none] []
  refine x_ild1 ho dX8_whose_0 ?_
  refine sMI1 ho cs_X8_184 (c_X8_isSheet B _ _ _) ⟨rfl, rfl⟩ ⟨Nat.le_of_ble_eq_true rfl, Nat.le_of_ble_eq_true rfl⟩ (Nat.le_of_ble_eq_true rfl) dX8_whose_1 (fun r1 s1 t1 p1 => ?_)
  obtain ⟨rfl, rfl, e_⟩ := p1
  subst t1
  refine x_if_eq 16 ho dX8_whose_4 (by decide) (fun c4 => ?_) (fun c4 => ?_)
  · have c4 := bI_0.mp c4
    refine x_ldc ho kc_X8_94 dX8_whose_16 ?_
    refine x_iret ho hr ?_ dX8_whose_18
    exact ⟨_, _, _, rfl, rfl, by unfold aWhose; rw [if_neg (by first | exact fun z => c4 (dk.mp z.1) | exact fun z => c13 z.2)], μ, Jm.rf, rfl⟩
  · have c4 := bI_n.mp c4
    have c4' := dk.mpr c4
    obtain ⟨r, r4, rfl⟩ := isQ_of c4
    obtain ⟨s15, s16, s17, ssrt, ⟨m, hm24, em⟩, spl⟩ := hS r r4
    refine x_ild2 ho dX8_whose_7 ?_
    refine x_iconst (v := 0) ho dX8_whose_8 rfl ?_
    refine x_iconst (v := 1) ho dX8_whose_9 rfl ?_
    refine sMI3 ho cs_X8_82 (c_X8_in B _ _ _ _ _) ⟨rfl, rfl⟩ ⟨Nat.le_of_ble_eq_true rfl, Nat.le_of_ble_eq_true rfl⟩ (Nat.le_of_ble_eq_true rfl) dX8_whose_10 (fun r10 s10 t10 p10 => ?_)
    obtain ⟨rfl, rfl, e_⟩ := p10
    subst t10
    rw [m2]
    refine x_if_ne 19 ho dX8_whose_13 (by decide) (fun c13 => ?_) (fun c13 => ?_)
    · have c13 := bI_n.mp c13
      refine x_ald0 ho dX8_whose_19 ?_
      refine r_X8_55 ho dX8_whose_20 ?_
      refine x_ild1 ho dX8_whose_23 ?_
      refine xm_ialdN (r) (rfl) 15 (by show r < 4; omega) ho (by decide) (fun _ => rfl) dX8_whose_24 ?_
      change XM B k _ _ _ _ (.int (μ 15 (r)) :: _)
      rw [s15]
      refine x_if_ge 31 ho dX8_whose_25 (by decide) (fun c25 => ?_) (fun c25 => ?_)
      · have ne : ¬ σ (54 + 2 * r) 0 = -1 := fun e => by rw [e] at c25; exact absurd c25 (by decide)
        have eA : aWhose (gC σ (h 9 0)) σ h (nI r) w = if h 0 0 = 0 then -1000000005 else if w = 0 then nI (bsm (dfT (gC σ (h 9 0)) h (σ (54 + 2 * r + 1)) m) (sN h - 1)) else (dfT (gC σ (h 9 0)) h (σ (54 + 2 * r + 1)) m) (bsm (dfT (gC σ (h 9 0)) h (σ (54 + 2 * r + 1)) m) (sN h - 1)) := by
          unfold aWhose
          rw [if_pos ⟨c4', c13⟩, ix_n (n := r) (by omega), if_neg ne, em, ix_n (n := m) (by omega)]
        obtain ⟨hN12, hN⟩ := hi.n
        rw [MW_0]
        refine x_ald0 ho dX8_whose_31 ?_
        refine vMV0 ho cs_X8_178 (w_thinks B _ _ _ _ _ _) rfl ⟨rfl, rfl⟩ ⟨Nat.le_of_ble_eq_true rfl, Nat.le_of_ble_eq_true rfl⟩ (Nat.le_of_ble_eq_true rfl) dX8_whose_32 (fun s32 t32 p32 => ?_)
        obtain ⟨rfl, e_⟩ := p32
        subst t32
        refine x_ald0 ho dX8_whose_35 ?_
        refine r_X8_9 ho dX8_whose_36 ?_
        refine x_iconst (v := 1) ho dX8_whose_39 rfl ?_
        refine m_ldW (1) (rfl) (by omega) ho dX8_whose_40 ?_
        change XM B k _ _ _ _ (.int (h 0 0) :: _)
        rw [hN]
        refine x_ist3 ho dX8_whose_41 (by rw [hk]; decide) rfl ?_
        refine x_iconst (v := 0) ho dX8_whose_42 rfl ?_
        refine x_ist4 ho dX8_whose_43 (by rw [hk]; decide) rfl ?_
        have best : ∀ (stk fc : Nat → Int32) (δ : Nat → Int64), DR (sN h) 2424000 δ (dfT (gC σ (h 9 0)) h (σ (54 + 2 * r + 1)) m) → ∀ (f b : Nat), sN h < f + b → (b = 0 ∨ b + 1 ≤ sN h) → XM B k (MW (up1 μ 4 (en h T)) stk fc h T) δ 178 [some (.ref (aB B 0)), some (.int (nI r)), some (.int w), some (.int (nI (sN h))), some (.int (nI (bsm (dfT (gC σ (h 9 0)) h (σ (54 + 2 * r + 1)) m) b))), some (.int (nI (b + 1))), none, none, none] [] := by
          intro stk fc δ hD f
          induction f with
          | zero =>
            intro b h1 h2
            exfalso
            omega
          | succ f ih =>
            intro b h1 h2
            refine x_ild5 ho dX8_whose_178 ?_
            refine x_ild3 ho dX8_whose_180 ?_
            refine x_icmp_ge 217 ho dX8_whose_181 (by decide) (fun c181 => ?_) (fun c181 => ?_)
            · have c181 := n_le (by omega) (by omega) c181
              have eb : b + 1 = sN h ∨ sN h = 0 := by omega
              refine x_ild3 ho dX8_whose_217 ?_
              refine x_if_ne 226 ho dX8_whose_218 (by decide) (fun c218 => ?_) (fun c218 => ?_)
              · have n0 : ¬ h 0 0 = 0 := fun e => c218 (hN.symm.trans e)
                have n1 : b = sN h - 1 := eb.elim (fun z => by omega) (fun z => absurd (by rw [z]; rfl) c218)
                subst n1
                refine x_ild2 ho dX8_whose_226 ?_
                refine x_if_ne 235 ho dX8_whose_227 (by decide) (fun c227 => ?_) (fun c227 => ?_)
                · refine x_ald0 ho dX8_whose_235 ?_
                  refine r_X8_25 ho dX8_whose_236 ?_
                  refine x_ild4 ho dX8_whose_239 ?_
                  refine xm_laldN ((bsm (dfT (gC σ (h 9 0)) h (σ (54 + 2 * r + 1)) m) (sN h - 1))) (rfl) (by have := bsm_le (tl := (dfT (gC σ (h 9 0)) h (σ (54 + 2 * r + 1)) m)) (sN h - 1); have : sN h ≠ 0 := fun z => c218 (by rw [z]; rfl); omega) ho dX8_whose_241 ?_
                  refine x_l2i ho dX8_whose_242 ?_
                  rw [hD.at (by have := bsm_le (tl := (dfT (gC σ (h 9 0)) h (σ (54 + 2 * r + 1)) m)) (sN h - 1); have : sN h ≠ 0 := fun z => c218 (by rw [z]; rfl); omega)]
                  refine x_iret ho hr ?_ dX8_whose_243
                  first | (obtain ⟨μ2, j1, j2⟩ := MW4_J (μ := μ) (stk := stk) (fc := fc) (b := en h T) (h := h) (T := T); exact ⟨_, _, _, rfl, rfl, by rw [eA, if_pos n0], μ2, j1, j2⟩) | (obtain ⟨μ2, j1, j2⟩ := MW4_J (μ := μ) (stk := stk) (fc := fc) (b := en h T) (h := h) (T := T); exact ⟨_, _, _, rfl, rfl, by rw [eA, if_neg n0, if_pos c227], μ2, j1, j2⟩) | (obtain ⟨μ2, j1, j2⟩ := MW4_J (μ := μ) (stk := stk) (fc := fc) (b := en h T) (h := h) (T := T); exact ⟨_, _, _, rfl, rfl, by rw [eA, if_neg n0, if_neg c227], μ2, j1, j2⟩)
                · refine x_ild4 ho dX8_whose_230 ?_
                  refine x_goto 243 ho dX8_whose_232 (by decide) ?_
                  refine x_iret ho hr ?_ dX8_whose_243
                  first | (obtain ⟨μ2, j1, j2⟩ := MW4_J (μ := μ) (stk := stk) (fc := fc) (b := en h T) (h := h) (T := T); exact ⟨_, _, _, rfl, rfl, by rw [eA, if_pos n0], μ2, j1, j2⟩) | (obtain ⟨μ2, j1, j2⟩ := MW4_J (μ := μ) (stk := stk) (fc := fc) (b := en h T) (h := h) (T := T); exact ⟨_, _, _, rfl, rfl, by rw [eA, if_neg n0, if_pos c227], μ2, j1, j2⟩) | (obtain ⟨μ2, j1, j2⟩ := MW4_J (μ := μ) (stk := stk) (fc := fc) (b := en h T) (h := h) (T := T); exact ⟨_, _, _, rfl, rfl, by rw [eA, if_neg n0, if_neg c227], μ2, j1, j2⟩)
              · have n0 : h 0 0 = 0 := hN.trans c218
                refine x_ldc ho kc_X8_150 dX8_whose_221 ?_
                refine x_goto 243 ho dX8_whose_223 (by decide) ?_
                refine x_iret ho hr ?_ dX8_whose_243
                first | (obtain ⟨μ2, j1, j2⟩ := MW4_J (μ := μ) (stk := stk) (fc := fc) (b := en h T) (h := h) (T := T); exact ⟨_, _, _, rfl, rfl, by rw [eA, if_pos n0], μ2, j1, j2⟩) | (obtain ⟨μ2, j1, j2⟩ := MW4_J (μ := μ) (stk := stk) (fc := fc) (b := en h T) (h := h) (T := T); exact ⟨_, _, _, rfl, rfl, by rw [eA, if_neg n0, if_pos c227], μ2, j1, j2⟩) | (obtain ⟨μ2, j1, j2⟩ := MW4_J (μ := μ) (stk := stk) (fc := fc) (b := en h T) (h := h) (T := T); exact ⟨_, _, _, rfl, rfl, by rw [eA, if_neg n0, if_neg c227], μ2, j1, j2⟩)
            · have c181 := n_nle (by omega) (by omega) c181
              refine x_ald0 ho dX8_whose_184 ?_
              refine r_X8_25 ho dX8_whose_185 ?_
              refine x_ild5 ho dX8_whose_188 ?_
              refine xm_laldN (b + 1) (rfl) (by omega) ho dX8_whose_190 ?_
              refine x_ald0 ho dX8_whose_191 ?_
              refine r_X8_25 ho dX8_whose_192 ?_
              refine x_ild4 ho dX8_whose_195 ?_
              refine xm_laldN ((bsm (dfT (gC σ (h 9 0)) h (σ (54 + 2 * r + 1)) m) b)) (rfl) (by have := bsm_le (tl := (dfT (gC σ (h 9 0)) h (σ (54 + 2 * r + 1)) m)) b; omega) ho dX8_whose_197 ?_
              refine x_lcmp ho dX8_whose_198 ?_
              refine x_if_ge 207 ho dX8_whose_199 (by decide) (fun c199 => ?_) (fun c199 => ?_)
              · have eb : bsm (dfT (gC σ (h 9 0)) h (σ (54 + 2 * r + 1)) m) (b + 1) = bsm (dfT (gC σ (h 9 0)) h (σ (54 + 2 * r + 1)) m) b := if_neg (fun z => lg_ge.mp c199 ((hD.lt c181 (by have := bsm_le (tl := (dfT (gC σ (h 9 0)) h (σ (54 + 2 * r + 1)) m)) b; omega)).mpr z))
                refine x_ild4 ho dX8_whose_207 ?_
                refine x_ist4 ho dX8_whose_209 (by rw [hk]; decide) rfl ?_
                refine x_inc5 (y := 1) ho dX8_whose_211 (by rw [hk]; decide) rfl rfl ?_
                refine x_goto 178 ho dX8_whose_214 (by decide) ?_
                rw [nI_1 (b + 1)]
                have ih := ih (b + 1) (by omega) (by omega)
                rw [eb] at ih
                exact ih
              · have eb : bsm (dfT (gC σ (h 9 0)) h (σ (54 + 2 * r + 1)) m) (b + 1) = b + 1 := if_pos ((hD.lt c181 (by have := bsm_le (tl := (dfT (gC σ (h 9 0)) h (σ (54 + 2 * r + 1)) m)) b; omega)).mp (Decidable.not_not.mp (fun z => c199 (lg_ge.mpr z))))
                refine x_ild5 ho dX8_whose_202 ?_
                refine x_goto 209 ho dX8_whose_204 (by decide) ?_
                refine x_ist4 ho dX8_whose_209 (by rw [hk]; decide) rfl ?_
                refine x_inc5 (y := 1) ho dX8_whose_211 (by rw [hk]; decide) rfl rfl ?_
                refine x_goto 178 ho dX8_whose_214 (by decide) ?_
                rw [nI_1 (b + 1)]
                have ih := ih (b + 1) (by omega) (by omega)
                rw [eb] at ih
                exact ih
        have outl : ∀ (f i : Nat) (stk fc : Nat → Int32) (δ : Nat → Int64), m < f + i → i ≤ m → DR (sN h) (101000 * i) δ (dfT (gC σ (h 9 0)) h (σ (54 + 2 * r + 1)) i) → XM B k (MW (up1 μ 4 (en h T)) stk fc (sHours (gC σ (h 9 0)) h i) T) δ 68 [some (.ref (aB B 0)), some (.int (nI r)), some (.int w), some (.int (nI (sN h))), some (.int (nI i)), none, none, none, none] [] := by
          intro f
          induction f with
          | zero => intro i stk fc δ h1 h2; omega
          | succ f ih =>
            intro i stk fc δ h1 h2 hDR
            refine x_ild4 ho dX8_whose_68 ?_
            refine x_ald0 ho dX8_whose_70 ?_
            refine r_X8_58 ho dX8_whose_71 ?_
            refine x_ild1 ho dX8_whose_74 ?_
            refine xm_ialdN (r) (rfl) 16 (by show r < 4; omega) ho (by decide) (fun _ => rfl) dX8_whose_75 ?_
            change XM B k _ _ _ _ (.int (μ 16 (r)) :: _)
            rw [s16, em]
            refine x_icmp_ge 168 ho dX8_whose_76 (by decide) (fun c76 => ?_) (fun c76 => ?_)
            · have c76 := n_le (by omega) (by omega) c76
              have ei : i = m := by omega
              subst ei
              refine x_ald0 ho dX8_whose_168 ?_
              refine vMV0 ho cs_X8_181 (w_putsBack B _ _ _ _ _ _ _) rfl ⟨rfl, rfl⟩ ⟨Nat.le_of_ble_eq_true rfl, Nat.le_of_ble_eq_true rfl⟩ (Nat.le_of_ble_eq_true rfl) dX8_whose_169 (fun s169 t169 p169 => ?_)
              obtain ⟨rfl, e_⟩ := p169
              subst t169
              refine x_iconst (v := 0) ho dX8_whose_172 rfl ?_
              refine x_ist4 ho dX8_whose_173 (by rw [hk]; decide) rfl ?_
              refine x_iconst (v := 1) ho dX8_whose_175 rfl ?_
              refine x_ist5 ho dX8_whose_176 (by rw [hk]; decide) rfl ?_
              exact best stk fc _ (hDR.w (by omega)) (sN h + 1) 0 (by omega) (Or.inl rfl)
            · have c76 := n_nle (by omega) (by omega) c76
              refine x_ald0 ho dX8_whose_79 ?_
              refine r_X8_61 ho dX8_whose_80 ?_
              refine x_bipush (v := 24) ho dX8_whose_83 rfl ?_
              refine x_ild1 ho dX8_whose_85 ?_
              refine x_imul ho dX8_whose_86 ?_
              refine x_ild4 ho dX8_whose_87 ?_
              refine x_iadd ho dX8_whose_89 ?_
              refine xm_ialdN (24 * r + i) (ix24 r i) 17 (by show 24 * r + i < 96; omega) ho (by decide) (fun _ => rfl) dX8_whose_90 ?_
              change XM B k _ _ _ _ (.int (μ 17 (24 * r + i)) :: _)
              rw [s17 i (by omega)]
              refine x_ist5 ho dX8_whose_91 (by rw [hk]; decide) rfl ?_
              refine x_iconst (v := 0) ho dX8_whose_93 rfl ?_
              refine x_ist6 ho dX8_whose_94 (by rw [hk]; decide) rfl ?_
              have inn : ∀ (f2 d : Nat) (δ : Nat → Int64), sN h < f2 + d → d ≤ sN h → DI (sN h) d (101000 * i) δ (if ((σ (54 + 2 * r + 1)) i) = -1000000005 then (dfT (gC σ (h 9 0)) h (σ (54 + 2 * r + 1)) i) else (dfD (sHours (gC σ (h 9 0)) h i) ((σ (54 + 2 * r + 1)) i) (dfT (gC σ (h 9 0)) h (σ (54 + 2 * r + 1)) i) d)) → XM B k (MW (up1 μ 4 (en h T)) stk fc (sHours (gC σ (h 9 0)) h i) T) δ 96 [some (.ref (aB B 0)), some (.int (nI r)), some (.int w), some (.int (nI (sN h))), some (.int (nI i)), some (.int ((σ (54 + 2 * r + 1)) i)), some (.int (nI d)), none, none] [] := by
                intro f2
                induction f2 with
                | zero => intro d δ h1 h2; omega
                | succ f2 ihd =>
                  intro d δ h1 h2 hDI
                  refine x_ild6 ho dX8_whose_96 ?_
                  refine x_ild3 ho dX8_whose_98 ?_
                  refine x_icmp_ge 158 ho dX8_whose_99 (by decide) (fun c99 => ?_) (fun c99 => ?_)
                  · have c99 := n_le (by omega) (by omega) c99
                    have ed : d = sN h := by omega
                    subst ed
                    refine x_ald0 ho dX8_whose_158 ?_
                    refine vMV0 ho cs_X8_163 (c_X8_hour B _ _ (sHours (gC σ (h 9 0)) h i) T _ _ σ (TR_e hTR sHours_14 sHours_9) (hi.hours gC_GR i)) rfl ⟨rfl, rfl⟩ ⟨Nat.le_of_ble_eq_true rfl, Nat.le_of_ble_eq_true rfl⟩ (Nat.le_of_ble_eq_true rfl) dX8_whose_159 (fun s159 t159 p159 => ?_)
                    rw [show (sHours (gC σ (h 9 0)) h i) 9 = h 9 from sHours_9] at p159
                    obtain ⟨stk, fc, rfl, e_⟩ := p159
                    subst t159
                    refine x_inc4 (y := 1) ho dX8_whose_162 (by rw [hk]; decide) rfl rfl ?_
                    refine x_goto 68 ho dX8_whose_165 (by decide) ?_
                    rw [nI_1 i]
                    refine x_loc (Lsb.s (Lsb.s (Lsb.s (Lsb.s (Lsb.s (Lsb.n (Lsb.n (Lsb.s (Lsb.s Lsb.e))))))))) ?_
                    exact ih (i + 1) stk fc _ (by omega) (by omega) (by
                      have z := hDI.to
                      have e : (dfT (gC σ (h 9 0)) h (σ (54 + 2 * r + 1)) (i + 1)) = (if ((σ (54 + 2 * r + 1)) i) = -1000000005 then (dfT (gC σ (h 9 0)) h (σ (54 + 2 * r + 1)) i) else (dfD (sHours (gC σ (h 9 0)) h i) ((σ (54 + 2 * r + 1)) i) (dfT (gC σ (h 9 0)) h (σ (54 + 2 * r + 1)) i) (sN h))) := rfl
                      rw [e]
                      exact z.w (by omega))
                  · have c99 := n_nle (by omega) (by omega) c99
                    have hso := (HI.hours (g := (gC σ (h 9 0))) gC_GR hi i).sole (d := d) (by omega)
                    refine x_ild5 ho dX8_whose_102 ?_
                    refine x_i2l ho dX8_whose_104 ?_
                    refine x_ald0 ho dX8_whose_105 ?_
                    refine x_ild6 ho dX8_whose_106 ?_
                    refine x_iconst (v := 2) ho dX8_whose_108 rfl ?_
                    refine vMI2 ho cs_X8_104 (w_of B _ _ _ _ _ _ d 2 (by omega) (by decide)) rfl ⟨rfl, rfl⟩ ⟨Nat.le_of_ble_eq_true rfl, Nat.le_of_ble_eq_true rfl⟩ (Nat.le_of_ble_eq_true rfl) dX8_whose_109 (fun r109 s109 t109 p109 => ?_)
                    obtain ⟨rfl, rfl, e_⟩ := p109
                    subst t109
                    refine x_i2l ho dX8_whose_112 ?_
                    refine x_lsub ho dX8_whose_113 ?_
                    refine x_lst7 ho dX8_whose_114 (by rw [hk]; decide) rfl ?_
                    refine x_ald0 ho dX8_whose_116 ?_
                    refine r_X8_25 ho dX8_whose_117 ?_
                    refine x_ild6 ho dX8_whose_120 ?_
                    refine x_dup2 ho dX8_whose_122 rfl rfl ?_
                    refine xm_laldN (d) (rfl) (by omega) ho dX8_whose_123 ?_
                    refine x_ild5 ho dX8_whose_124 ?_
                    refine x_ldc ho kc_X8_150 dX8_whose_126 ?_
                    refine x_icmp_ne 135 ho dX8_whose_128 (by decide) (fun c128 => ?_) (fun c128 => ?_)
                    · have hv : -99999 ≤ ((σ (54 + 2 * r + 1)) i).toInt ∧ ((σ (54 + 2 * r + 1)) i).toInt ≤ 99999 := (spl i (by omega)).resolve_left c128
                      have hs' : ∀ z : Int64, z.toInt = (((σ (54 + 2 * r + 1)) i).toInt - ((sHours (gC σ (h 9 0)) h i) 3 d).toInt).natAbs → DI (sN h) (d + 1) (101000 * i) (vp_updL δ d (δ d + z)) (if ((σ (54 + 2 * r + 1)) i) = -1000000005 then (dfT (gC σ (h 9 0)) h (σ (54 + 2 * r + 1)) i) else (dfD (sHours (gC σ (h 9 0)) h i) ((σ (54 + 2 * r + 1)) i) (dfT (gC σ (h 9 0)) h (σ (54 + 2 * r + 1)) i) (d + 1))) := by
                        intro z hz
                        rw [if_neg c128] at hDI ⊢
                        exact hDI.add c99 (by omega) (by omega) hv hso hz
                      refine x_lld7 ho dX8_whose_135 ?_
                      refine x_lconst (v := 0) ho dX8_whose_137 rfl ?_
                      refine x_lcmp ho dX8_whose_138 ?_
                      refine x_if_ge 148 ho dX8_whose_139 (by decide) (fun c139 => ?_) (fun c139 => ?_)
                      · have hs' := hs' _ (l_abs hv hso (Or.inl ⟨rfl, c139⟩))
                        refine x_lld7 ho dX8_whose_148 ?_
                        refine x_ladd ho dX8_whose_150 ?_
                        refine xm_lastN (d) (rfl) (by omega) ho dX8_whose_151 ?_
                        refine x_inc6 (y := 1) ho dX8_whose_152 (by rw [hk]; decide) rfl rfl ?_
                        refine x_goto 96 ho dX8_whose_155 (by decide) ?_
                        rw [nI_1 d]
                        refine x_loc (Lsb.s (Lsb.s (Lsb.s (Lsb.s (Lsb.s (Lsb.s (Lsb.s (Lsb.n (Lsb.n Lsb.e))))))))) ?_
                        exact ihd (d + 1) _ (by omega) (by omega) hs'
                      · have hs' := hs' _ (l_abs hv hso (Or.inr ⟨rfl, c139⟩))
                        refine x_lld7 ho dX8_whose_142 ?_
                        refine x_lneg ho dX8_whose_144 ?_
                        refine x_goto 150 ho dX8_whose_145 (by decide) ?_
                        refine x_ladd ho dX8_whose_150 ?_
                        refine xm_lastN (d) (rfl) (by omega) ho dX8_whose_151 ?_
                        refine x_inc6 (y := 1) ho dX8_whose_152 (by rw [hk]; decide) rfl rfl ?_
                        refine x_goto 96 ho dX8_whose_155 (by decide) ?_
                        rw [nI_1 d]
                        refine x_loc (Lsb.s (Lsb.s (Lsb.s (Lsb.s (Lsb.s (Lsb.s (Lsb.s (Lsb.n (Lsb.n Lsb.e))))))))) ?_
                        exact ihd (d + 1) _ (by omega) (by omega) hs'
                    · have hs' : DI (sN h) (d + 1) (101000 * i) (vp_updL δ d (δ d + 0)) (if ((σ (54 + 2 * r + 1)) i) = -1000000005 then (dfT (gC σ (h 9 0)) h (σ (54 + 2 * r + 1)) i) else (dfD (sHours (gC σ (h 9 0)) h i) ((σ (54 + 2 * r + 1)) i) (dfT (gC σ (h 9 0)) h (σ (54 + 2 * r + 1)) i) (d + 1))) := by
                        rw [if_pos c128] at hDI ⊢
                        exact hDI.skip c99 (by omega) (by omega)
                      refine x_lconst (v := 0) ho dX8_whose_131 rfl ?_
                      refine x_goto 150 ho dX8_whose_132 (by decide) ?_
                      refine x_ladd ho dX8_whose_150 ?_
                      refine xm_lastN (d) (rfl) (by omega) ho dX8_whose_151 ?_
                      refine x_inc6 (y := 1) ho dX8_whose_152 (by rw [hk]; decide) rfl rfl ?_
                      refine x_goto 96 ho dX8_whose_155 (by decide) ?_
                      rw [nI_1 d]
                      refine x_loc (Lsb.s (Lsb.s (Lsb.s (Lsb.s (Lsb.s (Lsb.s (Lsb.s (Lsb.n (Lsb.n Lsb.e))))))))) ?_
                      exact ihd (d + 1) _ (by omega) (by omega) hs'
              exact inn (sN h + 1) 0 _ (by omega) (by omega) (by
                have z := hDR.w (b' := 101000 * i) (by omega)
                have z := DI.of z
                by_cases q : ((σ (54 + 2 * r + 1)) i) = -1000000005
                · rw [if_pos q]; exact z
                · rw [if_neg q]; exact z)
        have zero : ∀ (f i : Nat) (δ : Nat → Int64), sN h < f + i → i ≤ sN h → (∀ j, j < i → δ j = 0) → XM B k (MW (up1 μ 4 (en h T)) (μ 13) (μ 14) h T) δ 45 [some (.ref (aB B 0)), some (.int (nI r)), some (.int w), some (.int (nI (sN h))), some (.int (nI i)), none, none, none, none] [] := by
          intro f
          induction f with
          | zero => intro i δ h1 h2; omega
          | succ f ih =>
            intro i δ h1 h2 hz
            refine x_ild4 ho dX8_whose_45 ?_
            refine x_ild3 ho dX8_whose_47 ?_
            refine x_icmp_ge 65 ho dX8_whose_48 (by decide) (fun c48 => ?_) (fun c48 => ?_)
            · have c48 := n_le (by omega) (by omega) c48
              have ei : i = sN h := by omega
              subst ei
              refine x_iconst (v := 0) ho dX8_whose_65 rfl ?_
              refine x_ist4 ho dX8_whose_66 (by rw [hk]; decide) rfl ?_
              exact outl (m + 1) 0 _ _ _ (by omega) (by omega) ((DR.zero hz).w (by omega))
            · have c48 := n_nle (by omega) (by omega) c48
              refine x_ald0 ho dX8_whose_51 ?_
              refine r_X8_25 ho dX8_whose_52 ?_
              refine x_ild4 ho dX8_whose_55 ?_
              refine x_lconst (v := 0) ho dX8_whose_57 rfl ?_
              refine xm_lastN (i) (rfl) (by omega) ho dX8_whose_58 ?_
              refine x_inc4 (y := 1) ho dX8_whose_59 (by rw [hk]; decide) rfl rfl ?_
              refine x_goto 45 ho dX8_whose_62 (by decide) ?_
              rw [nI_1 i]
              exact ih (i + 1) _ (by omega) (by omega) (fun j hj => by
                unfold vp_updL
                by_cases q : j = i
                · rw [if_pos q]
                · rw [if_neg q]
                  exact hz j (by omega))
        exact zero (sN h + 1) 0 _ (by omega) (by omega) (fun j hj => absurd hj (Nat.not_lt_zero j))
      · have ee : σ (54 + 2 * r) 0 = -1 := by
          rcases ssrt with e | e | e
          · exact e
          · rw [e] at c25; exact absurd (by decide) c25
          · rw [e] at c25; exact absurd (by decide) c25
        refine x_ldc ho kc_X8_187 dX8_whose_28 ?_
        refine x_iret ho hr ?_ dX8_whose_30
        exact ⟨_, _, _, rfl, rfl, by unfold aWhose; rw [if_pos ⟨c4', c13⟩, ix_n (n := r) (by omega), if_pos ee], μ, Jm.rf, rfl⟩
    · have c13 := bI_0.mp c13
      refine x_ldc ho kc_X8_94 dX8_whose_16 ?_
      refine x_iret ho hr ?_ dX8_whose_18
      exact ⟨_, _, _, rfl, rfl, by unfold aWhose; rw [if_neg (by first | exact fun z => c4 (dk.mp z.1) | exact fun z => c13 z.2)], μ, Jm.rf, rfl⟩
