/-! ===== drawers: more things than places ===== -/
theorem fb_holes : ∀ (m n : Nat) (f : Nat → Nat), (∀ i, i < n → f i < m) → (∀ i j, i < j → j < n → f i ≠ f j) → n ≤ m := by
  intro m
  induction m with
  | zero =>
    intro n f h1 _
    rcases Nat.eq_zero_or_pos n with h | h
    · omega
    · exact absurd (h1 0 h) (Nat.not_lt_zero _)
  | succ m ih =>
    intro n f h1 h2
    by_cases hx : ∃ i, i < n ∧ f i = m
    · obtain ⟨a, ha, hfa⟩ := hx
      have hg := ih (n - 1) (fun i => if i < a then f i else f (i + 1)) (by
        intro i hi
        by_cases q : i < a
        · simp only [if_pos q]
          have b1 := h1 i (by omega)
          have b2 := h2 i a q ha
          omega
        · simp only [if_neg q]
          have b1 := h1 (i + 1) (by omega)
          have b2 := h2 a (i + 1) (by omega) (by omega)
          omega) (by
        intro i j hij hj
        by_cases q : i < a
        · by_cases r : j < a
          · simp only [if_pos q, if_pos r]
            exact h2 i j hij (by omega)
          · simp only [if_pos q, if_neg r]
            exact h2 i (j + 1) (by omega) (by omega)
        · have r : ¬ j < a := by omega
          simp only [if_neg q, if_neg r]
          exact h2 (i + 1) (j + 1) (by omega) (by omega))
      omega
    · have hg := ih n f (fun i hi => by
        have b1 := h1 i hi
        have b2 : f i ≠ m := fun e => hx ⟨i, hi, e⟩
        omega) h2
      omega
/-- two of them in one place -/
theorem fb_twice {m n : Nat} {f : Nat → Nat} (h : ∀ i, i < n → f i < m) (hm : m < n) : ∃ i j, i < j ∧ j < n ∧ f i = f j := by
  refine Classical.byContradiction fun hx => ?_
  have := fb_holes m n f h (fun i j hij hj e => hx ⟨i, j, hij, hj, e⟩)
  omega

/-! a way in ten rooms comes back -/
theorem itL_add {h : HT} {x : Int32} {i : Nat} : ∀ k, itL h x (i + k) = itL h (itL h x i) k
  | 0 => rfl
  | k + 1 => congrArg (fun z => h 7 (ix z)) (itL_add k)
theorem itL_pig {h : HT} (hi : HI h) {x : Int32} (hx : rg x 0 9) : ∃ i j, i < j ∧ j ≤ 10 ∧ itL h x i = itL h x j := by
  obtain ⟨i, j, hij, hj, e⟩ := fb_twice (m := 10) (n := 11) (f := fun n => ix (itL h x n)) (fun n _ => by have := rg_ix (itL_rg hi hx n) (by decide); show ix (itL h x n) < 10; omega) (by decide)
  have e1 := (rg_ix (itL_rg hi hx i) (by decide)).2.2
  have e2 := (rg_ix (itL_rg hi hx j) (by decide)).2.2
  exact ⟨i, j, hij, by omega, e1.trans ((congrArg nI e).trans e2.symm)⟩
theorem itL_ring {h : HT} (hi : HI h) {x : Int32} (hx : rg x 0 9) : ∃ p, 1 ≤ p ∧ p ≤ 10 ∧ itL h (itL h x 10) p = itL h x 10 := by
  obtain ⟨i, j, hij, hj, e⟩ := itL_pig hi hx
  refine ⟨j - i, by omega, by omega, ?_⟩
  rw [← itL_add, show 10 + (j - i) = j + (10 - i) by omega, itL_add, ← e, ← itL_add, show i + (10 - i) = 10 by omega]
theorem itL_back {h : HT} (hi : HI h) {x : Int32} (hx : rg x 0 9) : ∃ k, k < 10 ∧ itL h x 10 = itL h x k := by
  obtain ⟨i, j, hij, hj, e⟩ := itL_pig hi hx
  refine ⟨i + (10 - j), by omega, ?_⟩
  rw [itL_add, e, ← itL_add, show j + (10 - j) = 10 by omega]
theorem itL_1 {h : HT} {x : Int32} {k : Nat} : itL h x (k + 1) = itL h (h 7 (ix x)) k := by
  rw [Nat.add_comm, itL_add]
  rfl
theorem wz_rg {h : HT} {y : Int32} : ∀ (m n : Nat) (z : Int32), (∃ q, q ≤ m ∧ itL h z q = y) → wzL h y (m + 1) n z = nI (rgL h y m z + n)
  | 0, n, z, hq => by
    obtain ⟨q, hq, e⟩ := hq
    obtain rfl : q = 0 := by omega
    rw [show rgL h y 0 z + n = n from Nat.zero_add n]
    exact if_pos (show z = y from e)
  | m + 1, n, z, hq => by
    obtain ⟨q, hq, e⟩ := hq
    by_cases hz : z = y
    · rw [show wzL h y (m + 1 + 1) n z = nI n from if_pos hz, show rgL h y (m + 1) z = 0 from if_pos hz, Nat.zero_add]
    · obtain ⟨q, rfl⟩ : ∃ q', q = q' + 1 := by
        cases q with
        | zero => exact absurd e hz
        | succ q => exact ⟨q, rfl⟩
      rw [show wzL h y (m + 1 + 1) n z = wzL h y (m + 1) (n + 1) (h 7 (ix z)) from if_neg hz, show rgL h y (m + 1) z = rgL h y m (h 7 (ix z)) + 1 from if_neg hz, wz_rg m (n + 1) _ ⟨q, by omega, by rw [← itL_1]; exact e⟩]
      congr 1
      omega
theorem wzA_ring {h : HT} (hi : HI h) {x : Int32} (hx : rg x 0 9) : wzA h (itL h x 10) (itL h x 10) = sRing h x := by
  obtain ⟨p, h1, h2, e⟩ := itL_ring hi hx
  unfold wzA sRing
  exact wz_rg 9 1 _ ⟨p - 1, by omega, by rw [← itL_1, show p - 1 + 1 = p by omega]; exact e⟩
theorem wz_wy {h : HT} {y : Int32} : ∀ (m n : Nat) (z : Int32), m + n < 2 ^ 31 → (if wzL h y m n z < 0 then (-1000000005 : Int32) else wzL h y m n z) = wyL h y m n z
  | 0, n, z, _ => rfl
  | m + 1, n, z, hn => by
    by_cases hz : z = y
    · rw [show wzL h y (m + 1) n z = nI n from if_pos hz, show wyL h y (m + 1) n z = nI n from if_pos hz, if_neg (nI_n0 n (by omega))]
    · rw [show wzL h y (m + 1) n z = wzL h y m (n + 1) (h 7 (ix z)) from if_neg hz, show wyL h y (m + 1) n z = wyL h y m (n + 1) (h 7 (ix z)) from if_neg hz]
      exact wz_wy m (n + 1) _ (by omega)
theorem wy_last {h : HT} {y : Int32} : ∀ (m n : Nat) (z : Int32), (itL h z m = y → ∃ q, q < m ∧ itL h z q = y) → wyL h y (m + 1) n z = wyL h y m n z
  | 0, n, z, hq => if_neg (fun e => by obtain ⟨q, h1, -⟩ := hq e; exact absurd h1 (Nat.not_lt_zero q))
  | m + 1, n, z, hq => by
    by_cases hz : z = y
    · exact (if_pos hz).trans (if_pos hz).symm
    · refine (if_neg hz).trans (Eq.trans ?_ (if_neg hz).symm)
      exact wy_last m (n + 1) _ (fun e => by
        obtain ⟨q, h1, h2⟩ := hq (by rw [itL_1]; exact e)
        cases q with
        | zero => exact absurd h2 hz
        | succ q => exact ⟨q, by omega, by rw [← itL_1]; exact h2⟩)
theorem wzA_ways {h : HT} (hi : HI h) {x y : Int32} (hx : rg x 0 9) (hxy : ¬ x = y) : (if wzA h x y < 0 then (-1000000005 : Int32) else wzA h x y) = sWays h x y := by
  unfold wzA sWays
  rw [wz_wy 10 1 _ (by decide), show wyL h y 10 0 x = wyL h y 9 1 (h 7 (ix x)) from if_neg hxy]
  refine wy_last 9 1 _ (fun e => ?_)
  obtain ⟨k, h1, h2⟩ := itL_back hi hx
  rw [← itL_1] at e
  cases k with
  | zero => exact absurd (h2.symm.trans e) hxy
  | succ k => exact ⟨k, by omega, by rw [← itL_1, ← h2]; exact e⟩
theorem isR_rg {e : Nat} (he : e < 10) : rg (nI e) 0 9 := rg_nI (Nat.zero_le _) (by omega)
set_option maxRecDepth 100000 in
set_option maxHeartbeats 4000000 in
theorem c_X8_round (B : BT) (μ : Nat → Nat → Int32) (δ : Nat → Int64) (h : HT) (T : Nat → Int32) (hi : HI h) (p : Int32) : MI B yX8_round cX8_round 4 (some .int) ({ frames := 2, cells := 0, slots := 0, locals := 42 }) [.ref (aB B 0), .int p] (up1 μ 1 (en h T)) δ (fun r μ' δ' => r = aRound h p ∧ μ' = up1 μ 1 (en h T) ∧ δ' = δ) := by
  refine MX.of2 RX8 (by decide) rfl ⟨rfl, rfl⟩ (Nat.le_of_ble_eq_true rfl) (by rfl) (fun k ho hr hk => ?_)
  show XM B k (up1 μ 1 (en h T)) δ 0 [some (.ref (aB B 0)), some (.int p), none, none] []
  refine x_ild1 ho dX8_round_0 ?_
  refine sMI1 ho cs_X8_141 (c_X8_isRoom B _ _ _) ⟨rfl, rfl⟩ ⟨Nat.le_of_ble_eq_true rfl, Nat.le_of_ble_eq_true rfl⟩ (Nat.le_of_ble_eq_true rfl) dX8_round_1 (fun r1 s1 t1 p1 => ?_)
  obtain ⟨rfl, rfl, e_⟩ := p1
  subst t1
  refine x_if_ne 10 ho dX8_round_4 (by decide) (fun c4 => ?_) (fun c4 => ?_)
  · have c4 := bI_n.mp c4
    obtain ⟨e, he, rfl⟩ := isR_of c4
    have ee : ix (nI e) = e := ix_n (by omega)
    refine x_ild1 ho dX8_round_10 ?_
    refine x_ist2 ho dX8_round_11 (by rw [hk]; decide) rfl ?_
    refine x_iconst (v := 0) ho dX8_round_12 rfl ?_
    refine x_ist3 ho dX8_round_13 (by rw [hk]; decide) rfl ?_
    have loop : ∀ (f i : Nat), 10 < f + i → i ≤ 10 → XM B k (up1 μ 1 (en h T)) δ 14 [some (.ref (aB B 0)), some (.int (nI e)), some (.int (itL h (nI e) i)), some (.int (nI i))] [] := by
      intro f
      induction f with
      | zero => intro i h1 h2; omega
      | succ f ih =>
        intro i h1 h2
        refine x_ild3 ho dX8_round_14 ?_
        refine x_bipush (v := 10) ho dX8_round_15 rfl ?_
        refine x_icmp_ge 36 ho dX8_round_17 (by decide) (fun c17 => ?_) (fun c17 => ?_)
        · have c17 := n_le (a := 10) (by decide) (by omega) c17
          have ei : i = 10 := by omega
          subst ei
          refine x_ald0 ho dX8_round_36 ?_
          refine x_ild2 ho dX8_round_37 ?_
          refine x_ild2 ho dX8_round_38 ?_
          refine vMI2 ho cs_X8_147 (c_X8_waysTo B _ _ _ _ hi _ _ (itL_rg hi (isR_rg he) 10)) rfl ⟨rfl, rfl⟩ ⟨Nat.le_of_ble_eq_true rfl, Nat.le_of_ble_eq_true rfl⟩ (Nat.le_of_ble_eq_true rfl) dX8_round_39 (fun r39 s39 t39 p39 => ?_)
          obtain ⟨rfl, rfl, rfl⟩ := p39
          refine x_iret ho hr ?_ dX8_round_42
          refine ⟨_, _, _, rfl, rfl, ?_, rfl, rfl⟩
          rw [show aRound h (nI e) = sRing h (nI e) from if_pos c4]
          exact wzA_ring hi (isR_rg he)
        · have c17 := n_nle (a := 10) (b := i) (by decide) (by omega) c17
          have hI := rg_ix (itL_rg hi (isR_rg he) i) (by decide)
          refine x_ald0 ho dX8_round_20 ?_
          refine r_X8_9 ho dX8_round_21 ?_
          refine x_bipush (v := 17) ho dX8_round_24 rfl ?_
          refine x_ild2 ho dX8_round_26 ?_
          refine x_iadd ho dX8_round_27 ?_
          refine m_ld (17 + ix (itL h (nI e) i)) (by rw [hI.2.2, ix_n (by omega)]; exact nI_add 17 _) (by omega) ho dX8_round_28 ?_
          rw [en_ld (by omega)]
          refine x_ist2 ho dX8_round_29 (by rw [hk]; decide) rfl ?_
          refine x_inc3 (y := 1) ho dX8_round_30 (by rw [hk]; decide) rfl rfl ?_
          refine x_goto 14 ho dX8_round_33 (by decide) ?_
          rw [nI_1 i]
          exact ih (i + 1) (by omega) (by omega)
    exact loop 11 0 (by omega) (by omega)
  · have c4 := bI_0.mp c4
    refine x_ldc ho kc_X8_94 dX8_round_7 ?_
    refine x_iret ho hr ?_ dX8_round_9
    exact ⟨_, _, _, rfl, rfl, by unfold aRound; rw [if_neg c4], rfl, rfl⟩
set_option maxRecDepth 100000 in
set_option maxHeartbeats 4000000 in
theorem c_X8_to (B : BT) (μ : Nat → Nat → Int32) (δ : Nat → Int64) (h : HT) (T : Nat → Int32) (hi : HI h) (p s : Int32) : MI B yX8_to cX8_to 4 (some .int) ({ frames := 2, cells := 0, slots := 0, locals := 42 }) [.ref (aB B 0), .int p, .int s] (up1 μ 1 (en h T)) δ (fun r μ' δ' => r = aTo h p s ∧ μ' = up1 μ 1 (en h T) ∧ δ' = δ) := by
  refine MX.of2 RX8 (by decide) rfl ⟨rfl, rfl⟩ (Nat.le_of_ble_eq_true rfl) (by rfl) (fun k ho hr hk => ?_)
  show XM B k (up1 μ 1 (en h T)) δ 0 [some (.ref (aB B 0)), some (.int p), some (.int s), none] []
  refine x_ild1 ho dX8_to_0 ?_
  refine sMI1 ho cs_X8_141 (c_X8_isRoom B _ _ _) ⟨rfl, rfl⟩ ⟨Nat.le_of_ble_eq_true rfl, Nat.le_of_ble_eq_true rfl⟩ (Nat.le_of_ble_eq_true rfl) dX8_to_1 (fun r1 s1 t1 p1 => ?_)
  obtain ⟨rfl, rfl, e_⟩ := p1
  subst t1
  refine x_if_eq 14 ho dX8_to_4 (by decide) (fun c4 => ?_) (fun c4 => ?_)
  · have c4 := bI_0.mp c4
    refine x_ldc ho kc_X8_94 dX8_to_14 ?_
    refine x_iret ho hr ?_ dX8_to_16
    exact ⟨_, _, _, rfl, rfl, by unfold aTo; rw [if_neg (by first | exact fun z => c4 z.1 | exact fun z => c11 z.2)], rfl, rfl⟩
  · have c4 := bI_n.mp c4
    obtain ⟨e, he, rfl⟩ := isR_of c4
    have ee : ix (nI e) = e := ix_n (by omega)
    refine x_ild2 ho dX8_to_7 ?_
    refine sMI1 ho cs_X8_141 (c_X8_isRoom B _ _ _) ⟨rfl, rfl⟩ ⟨Nat.le_of_ble_eq_true rfl, Nat.le_of_ble_eq_true rfl⟩ (Nat.le_of_ble_eq_true rfl) dX8_to_8 (fun r8 s8 t8 p8 => ?_)
    obtain ⟨rfl, rfl, e_⟩ := p8
    subst t8
    refine x_if_ne 17 ho dX8_to_11 (by decide) (fun c11 => ?_) (fun c11 => ?_)
    · have c11 := bI_n.mp c11
      obtain ⟨e2, he2, rfl⟩ := isR_of c11
      have ee2 : ix (nI e2) = e2 := ix_n (by omega)
      refine x_ild1 ho dX8_to_17 ?_
      refine x_ild2 ho dX8_to_18 ?_
      refine x_icmp_ne 26 ho dX8_to_19 (by decide) (fun c19 => ?_) (fun c19 => ?_)
      · refine x_ald0 ho dX8_to_26 ?_
        refine x_ild1 ho dX8_to_27 ?_
        refine x_ild2 ho dX8_to_28 ?_
        refine vMI2 ho cs_X8_147 (c_X8_waysTo B _ _ _ _ hi _ _ (isR_rg he)) rfl ⟨rfl, rfl⟩ ⟨Nat.le_of_ble_eq_true rfl, Nat.le_of_ble_eq_true rfl⟩ (Nat.le_of_ble_eq_true rfl) dX8_to_29 (fun r29 s29 t29 p29 => ?_)
        obtain ⟨rfl, rfl, rfl⟩ := p29
        refine x_ist3 ho dX8_to_32 (by rw [hk]; decide) rfl ?_
        refine x_ild3 ho dX8_to_33 ?_
        refine x_if_ge 42 ho dX8_to_34 (by decide) (fun c34 => ?_) (fun c34 => ?_)
        · refine x_ild3 ho dX8_to_42 ?_
          refine x_iret ho hr ?_ dX8_to_43
          refine ⟨_, _, _, rfl, rfl, ?_, rfl, rfl⟩
          rw [show aTo h (nI e) (nI e2) = sWays h (nI e) (nI e2) from if_pos ⟨c4, c11⟩]
          first | exact (absurd c34 (by decide)) | (rw [← wzA_ways hi (isR_rg he) c19, if_neg (Int32.not_lt.mpr c34)]) | (rw [← wzA_ways hi (isR_rg he) c19, if_pos (Int32.not_le.mp c34)]) | exact (if_pos c19).symm
        · refine x_ldc ho kc_X8_150 dX8_to_37 ?_
          refine x_goto 43 ho dX8_to_39 (by decide) ?_
          refine x_iret ho hr ?_ dX8_to_43
          refine ⟨_, _, _, rfl, rfl, ?_, rfl, rfl⟩
          rw [show aTo h (nI e) (nI e2) = sWays h (nI e) (nI e2) from if_pos ⟨c4, c11⟩]
          first | exact (absurd c34 (by decide)) | (rw [← wzA_ways hi (isR_rg he) c19, if_neg (Int32.not_lt.mpr c34)]) | (rw [← wzA_ways hi (isR_rg he) c19, if_pos (Int32.not_le.mp c34)]) | exact (if_pos c19).symm
      · refine x_iconst (v := 0) ho dX8_to_22 rfl ?_
        refine x_goto 32 ho dX8_to_23 (by decide) ?_
        refine x_ist3 ho dX8_to_32 (by rw [hk]; decide) rfl ?_
        refine x_ild3 ho dX8_to_33 ?_
        refine x_if_ge 42 ho dX8_to_34 (by decide) (fun c34 => ?_) (fun c34 => ?_)
        · refine x_ild3 ho dX8_to_42 ?_
          refine x_iret ho hr ?_ dX8_to_43
          refine ⟨_, _, _, rfl, rfl, ?_, rfl, rfl⟩
          rw [show aTo h (nI e) (nI e2) = sWays h (nI e) (nI e2) from if_pos ⟨c4, c11⟩]
          first | exact (absurd c34 (by decide)) | (rw [← wzA_ways hi (isR_rg he) c19, if_neg (Int32.not_lt.mpr c34)]) | (rw [← wzA_ways hi (isR_rg he) c19, if_pos (Int32.not_le.mp c34)]) | exact (if_pos c19).symm
        · refine x_ldc ho kc_X8_150 dX8_to_37 ?_
          refine x_goto 43 ho dX8_to_39 (by decide) ?_
          refine x_iret ho hr ?_ dX8_to_43
          refine ⟨_, _, _, rfl, rfl, ?_, rfl, rfl⟩
          rw [show aTo h (nI e) (nI e2) = sWays h (nI e) (nI e2) from if_pos ⟨c4, c11⟩]
          first | exact (absurd c34 (by decide)) | (rw [← wzA_ways hi (isR_rg he) c19, if_neg (Int32.not_lt.mpr c34)]) | (rw [← wzA_ways hi (isR_rg he) c19, if_pos (Int32.not_le.mp c34)]) | exact (if_pos c19).symm
    · have c11 := bI_0.mp c11
      refine x_ldc ho kc_X8_94 dX8_to_14 ?_
      refine x_iret ho hr ?_ dX8_to_16
      exact ⟨_, _, _, rfl, rfl, by unfold aTo; rw [if_neg (by first | exact fun z => c4 z.1 | exact fun z => c11 z.2)], rfl, rfl⟩
def mCount (μ : ST) (h : HT) (w : Int32) : Int32 := if w = 0 then h 0 0 else if w = 1 then h 0 12 else if w = 2 then h 0 9 else if w = 3 then h 0 14 else if w = 4 then μ 0 34 else if w = 5 then μ 0 8 else if w = 6 then h 0 13 else -1000000001
set_option maxRecDepth 100000 in
set_option maxHeartbeats 4000000 in
theorem c_X8_count (B : BT) (μ : Nat → Nat → Int32) (δ : Nat → Int64) (h : HT) (T : Nat → Int32) (w : Int32) : MI B yX8_count cX8_count 2 (some .int) ({ frames := 0, cells := 0, slots := 0, locals := 0 }) [.ref (aB B 0), .int w] (up1 μ 1 (en h T)) δ (fun r μ' δ' => r = mCount μ h w ∧ μ' = up1 μ 1 (en h T) ∧ δ' = δ) := by
  refine MX.of2 RX8 (by decide) rfl ⟨rfl, rfl⟩ (Nat.le_of_ble_eq_true rfl) (by rfl) (fun k ho hr hk => ?_)
  show XM B k (up1 μ 1 (en h T)) δ 0 [some (.ref (aB B 0)), some (.int w)] []
  refine x_ild1 ho dX8_count_0 ?_
  refine x_topi (fun y1 ey1 => ?_)
  by_cases q1_0 : y1 = 0
  · rw [q1_0] at ey1 ⊢
    refine x_tin 44 ho dX8_count_1 (by decide) (by decide) (by rfl) (by decide) ?_
    refine x_ald0 ho dX8_count_44 ?_
    refine r_X8_9 ho dX8_count_45 ?_
    refine x_iconst (v := 1) ho dX8_count_48 rfl ?_
    refine m_ld (1) (rfl) (by omega) ho dX8_count_49 ?_
    change XM B k _ _ _ _ (.int (h 0 0) :: _)
    refine x_iret ho hr ?_ dX8_count_50
    subst ey1
    first | exact ⟨_, _, _, rfl, rfl, rfl, rfl, rfl⟩ | (refine ⟨_, _, _, rfl, rfl, ?_, rfl, rfl⟩; unfold mCount; rw [if_neg q1_0, if_neg q1_1, if_neg q1_2, if_neg q1_3, if_neg q1_4, if_neg q1_5, if_neg q1_6])
  · skip
    by_cases q1_1 : y1 = 1
    · rw [q1_1] at ey1 ⊢
      refine x_tin 51 ho dX8_count_1 (by decide) (by decide) (by rfl) (by decide) ?_
      refine x_ald0 ho dX8_count_51 ?_
      refine r_X8_9 ho dX8_count_52 ?_
      refine x_iconst (v := 2) ho dX8_count_55 rfl ?_
      refine m_ld (2) (rfl) (by omega) ho dX8_count_56 ?_
      change XM B k _ _ _ _ (.int (h 0 12) :: _)
      refine x_iret ho hr ?_ dX8_count_57
      subst ey1
      first | exact ⟨_, _, _, rfl, rfl, rfl, rfl, rfl⟩ | (refine ⟨_, _, _, rfl, rfl, ?_, rfl, rfl⟩; unfold mCount; rw [if_neg q1_0, if_neg q1_1, if_neg q1_2, if_neg q1_3, if_neg q1_4, if_neg q1_5, if_neg q1_6])
    · skip
      by_cases q1_2 : y1 = 2
      · rw [q1_2] at ey1 ⊢
        refine x_tin 58 ho dX8_count_1 (by decide) (by decide) (by rfl) (by decide) ?_
        refine x_ald0 ho dX8_count_58 ?_
        refine r_X8_9 ho dX8_count_59 ?_
        refine x_iconst (v := 3) ho dX8_count_62 rfl ?_
        refine m_ld (3) (rfl) (by omega) ho dX8_count_63 ?_
        change XM B k _ _ _ _ (.int (h 0 9) :: _)
        refine x_iret ho hr ?_ dX8_count_64
        subst ey1
        first | exact ⟨_, _, _, rfl, rfl, rfl, rfl, rfl⟩ | (refine ⟨_, _, _, rfl, rfl, ?_, rfl, rfl⟩; unfold mCount; rw [if_neg q1_0, if_neg q1_1, if_neg q1_2, if_neg q1_3, if_neg q1_4, if_neg q1_5, if_neg q1_6])
      · skip
        by_cases q1_3 : y1 = 3
        · rw [q1_3] at ey1 ⊢
          refine x_tin 65 ho dX8_count_1 (by decide) (by decide) (by rfl) (by decide) ?_
          refine x_ald0 ho dX8_count_65 ?_
          refine r_X8_9 ho dX8_count_66 ?_
          refine x_bipush (v := 6) ho dX8_count_69 rfl ?_
          refine m_ld (6) (rfl) (by omega) ho dX8_count_71 ?_
          change XM B k _ _ _ _ (.int (h 0 14) :: _)
          refine x_iret ho hr ?_ dX8_count_72
          subst ey1
          first | exact ⟨_, _, _, rfl, rfl, rfl, rfl, rfl⟩ | (refine ⟨_, _, _, rfl, rfl, ?_, rfl, rfl⟩; unfold mCount; rw [if_neg q1_0, if_neg q1_1, if_neg q1_2, if_neg q1_3, if_neg q1_4, if_neg q1_5, if_neg q1_6])
        · skip
          by_cases q1_4 : y1 = 4
          · rw [q1_4] at ey1 ⊢
            refine x_tin 73 ho dX8_count_1 (by decide) (by decide) (by rfl) (by decide) ?_
            refine x_ald0 ho dX8_count_73 ?_
            refine r_X8_264 ho dX8_count_74 ?_
            refine x_iret ho hr ?_ dX8_count_77
            subst ey1
            first | exact ⟨_, _, _, rfl, rfl, rfl, rfl, rfl⟩ | (refine ⟨_, _, _, rfl, rfl, ?_, rfl, rfl⟩; unfold mCount; rw [if_neg q1_0, if_neg q1_1, if_neg q1_2, if_neg q1_3, if_neg q1_4, if_neg q1_5, if_neg q1_6])
          · skip
            by_cases q1_5 : y1 = 5
            · rw [q1_5] at ey1 ⊢
              refine x_tin 78 ho dX8_count_1 (by decide) (by decide) (by rfl) (by decide) ?_
              refine x_ald0 ho dX8_count_78 ?_
              refine r_X8_188 ho dX8_count_79 ?_
              refine x_iret ho hr ?_ dX8_count_82
              subst ey1
              first | exact ⟨_, _, _, rfl, rfl, rfl, rfl, rfl⟩ | (refine ⟨_, _, _, rfl, rfl, ?_, rfl, rfl⟩; unfold mCount; rw [if_neg q1_0, if_neg q1_1, if_neg q1_2, if_neg q1_3, if_neg q1_4, if_neg q1_5, if_neg q1_6])
            · skip
              by_cases q1_6 : y1 = 6
              · rw [q1_6] at ey1 ⊢
                refine x_tin 83 ho dX8_count_1 (by decide) (by decide) (by rfl) (by decide) ?_
                refine x_ald0 ho dX8_count_83 ?_
                refine r_X8_9 ho dX8_count_84 ?_
                refine x_iconst (v := 0) ho dX8_count_87 rfl ?_
                refine m_ld (0) (rfl) (by omega) ho dX8_count_88 ?_
                change XM B k _ _ _ _ (.int (h 0 13) :: _)
                refine x_iret ho hr ?_ dX8_count_89
                subst ey1
                first | exact ⟨_, _, _, rfl, rfl, rfl, rfl, rfl⟩ | (refine ⟨_, _, _, rfl, rfl, ?_, rfl, rfl⟩; unfold mCount; rw [if_neg q1_0, if_neg q1_1, if_neg q1_2, if_neg q1_3, if_neg q1_4, if_neg q1_5, if_neg q1_6])
              · skip
                refine x_tout 90 ho dX8_count_1 (by have tq1_0 := lv_neT q1_0 (a := 0) (by decide); have tq1_1 := lv_neT q1_1 (a := 1) (by decide); have tq1_2 := lv_neT q1_2 (a := 2) (by decide); have tq1_3 := lv_neT q1_3 (a := 3) (by decide); have tq1_4 := lv_neT q1_4 (a := 4) (by decide); have tq1_5 := lv_neT q1_5 (a := 5) (by decide); have tq1_6 := lv_neT q1_6 (a := 6) (by decide); omega) (by decide) ?_
                refine x_ldc ho kc_X8_94 dX8_count_90 ?_
                refine x_iret ho hr ?_ dX8_count_92
                subst ey1
                first | exact ⟨_, _, _, rfl, rfl, rfl, rfl, rfl⟩ | (refine ⟨_, _, _, rfl, rfl, ?_, rfl, rfl⟩; unfold mCount; rw [if_neg q1_0, if_neg q1_1, if_neg q1_2, if_neg q1_3, if_neg q1_4, if_neg q1_5, if_neg q1_6])
theorem en_sl {h : HT} {T : Nat → Int32} {m : Nat} (hm : m < 2) : en h T (4 + m) = h 0 (10 + m) := by
  rcases (by omega : m = 0 ∨ m = 1) with rfl | rfl <;> rfl
set_option maxRecDepth 100000 in
set_option maxHeartbeats 4000000 in
theorem c_X8_house (B : BT) (μ : Nat → Nat → Int32) (δ : Nat → Int64) (h : HT) (T : Nat → Int32) (hi : HI h) (w : Int32) : MI B yX8_house cX8_house 4 (some .int) ({ frames := 2, cells := 0, slots := 0, locals := 45 }) [.ref (aB B 0), .int w] (up1 μ 1 (en h T)) δ (fun r μ' δ' => r = aHouse h w ∧ μ' = up1 μ 1 (en h T) ∧ δ' = δ) := by
  refine MX.of2 RX8 (by decide) rfl ⟨rfl, rfl⟩ (Nat.le_of_ble_eq_true rfl) (by rfl) (fun k ho hr hk => ?_)
  show XM B k (up1 μ 1 (en h T)) δ 0 [some (.ref (aB B 0)), some (.int w), none, none] []
  have K40 : ∀ m, m < 2 → w = nI m → XM B k (up1 μ 1 (en h T)) δ 40 [some (.ref (aB B 0)), some (.int (nI m)), some (.int 0), none] [] := by
    intro m hm ew
    refine x_ald0 ho dX8_house_40 ?_
    refine r_X8_9 ho dX8_house_41 ?_
    refine x_iconst (v := 4) ho dX8_house_44 rfl ?_
    refine x_ild1 ho dX8_house_45 ?_
    refine x_iadd ho dX8_house_46 ?_
    refine m_ld (4 + m) (nI_add 4 m) (by omega) ho dX8_house_47 ?_
    rw [en_sl hm]
    refine x_iret ho hr ?_ dX8_house_48
    refine ⟨_, _, _, rfl, rfl, ?_, rfl, rfl⟩
    subst ew
    unfold aHouse
    rcases (by omega : m = 0 ∨ m = 1) with rfl | rfl
    · exact (if_pos rfl).symm
    · rw [if_neg (by decide)]
      exact (if_pos rfl).symm
  refine x_iconst (v := 0) ho dX8_house_0 rfl ?_
  refine x_ist2 ho dX8_house_1 (by rw [hk]; decide) rfl ?_
  refine x_ild1 ho dX8_house_2 ?_
  refine x_topi (fun y3 ey3 => ?_)
  by_cases q3_0 : y3 = 0
  · rw [q3_0] at ey3 ⊢
    refine x_tin 40 ho dX8_house_3 (by decide) (by decide) (by rfl) (by decide) ?_
    subst ey3
    first | exact K40 0 (by decide) rfl | exact K40 1 (by decide) rfl
  · skip
    by_cases q3_1 : y3 = 1
    · rw [q3_1] at ey3 ⊢
      refine x_tin 40 ho dX8_house_3 (by decide) (by decide) (by rfl) (by decide) ?_
      subst ey3
      first | exact K40 0 (by decide) rfl | exact K40 1 (by decide) rfl
    · skip
      by_cases q3_2 : y3 = 2
      · rw [q3_2] at ey3 ⊢
        refine x_tin 49 ho dX8_house_3 (by decide) (by decide) (by rfl) (by decide) ?_
        refine x_ald0 ho dX8_house_49 ?_
        refine vMI0 ho cs_X8_172 (c_X8_marks B _ _ _ _) rfl ⟨rfl, rfl⟩ ⟨Nat.le_of_ble_eq_true rfl, Nat.le_of_ble_eq_true rfl⟩ (Nat.le_of_ble_eq_true rfl) dX8_house_50 (fun r50 s50 t50 p50 => ?_)
        obtain ⟨rfl, rfl, rfl⟩ := p50
        refine x_iret ho hr ?_ dX8_house_53
        subst ey3
        refine ⟨_, _, _, rfl, rfl, ?_, rfl, rfl⟩
        unfold aHouse
        rw [if_neg (by decide), if_neg (by decide), if_pos rfl]
      · skip
        by_cases q3_3 : y3 = 3
        · rw [q3_3] at ey3 ⊢
          refine x_tin 54 ho dX8_house_3 (by decide) (by decide) (by rfl) (by decide) ?_
          refine x_ald0 ho dX8_house_54 ?_
          refine x_iconst (v := 2) ho dX8_house_55 rfl ?_
          refine vMI1 ho cs_X8_166 (c_X8_sumOf B _ _ _ _ hi 2 (by decide)) rfl ⟨rfl, rfl⟩ ⟨Nat.le_of_ble_eq_true rfl, Nat.le_of_ble_eq_true rfl⟩ (Nat.le_of_ble_eq_true rfl) dX8_house_56 (fun r56 s56 t56 p56 => ?_)
          obtain ⟨rfl, rfl, rfl⟩ := p56
          refine x_iret ho hr ?_ dX8_house_59
          subst ey3
          refine ⟨_, _, _, rfl, rfl, ?_, rfl, rfl⟩
          unfold aHouse
          rw [if_neg (by decide), if_neg (by decide), if_neg (by decide), if_pos rfl]
        · skip
          by_cases q3_4 : y3 = 4
          · rw [q3_4] at ey3 ⊢
            refine x_tin 60 ho dX8_house_3 (by decide) (by decide) (by rfl) (by decide) ?_
            refine x_ald0 ho dX8_house_60 ?_
            refine vMI0 ho cs_X8_175 (c_X8_bare B _ _ _ _ hi) rfl ⟨rfl, rfl⟩ ⟨Nat.le_of_ble_eq_true rfl, Nat.le_of_ble_eq_true rfl⟩ (Nat.le_of_ble_eq_true rfl) dX8_house_61 (fun r61 s61 t61 p61 => ?_)
            obtain ⟨rfl, rfl, rfl⟩ := p61
            refine x_iret ho hr ?_ dX8_house_64
            subst ey3
            refine ⟨_, _, _, rfl, rfl, ?_, rfl, rfl⟩
            unfold aHouse
            rw [if_neg (by decide), if_neg (by decide), if_neg (by decide), if_neg (by decide), if_pos rfl]
          · skip
            by_cases q3_5 : y3 = 5
            · rw [q3_5] at ey3 ⊢
              refine x_tin 65 ho dX8_house_3 (by decide) (by decide) (by rfl) (by decide) ?_
              refine x_iconst (v := 0) ho dX8_house_65 rfl ?_
              refine x_ist3 ho dX8_house_66 (by rw [hk]; decide) rfl ?_
              subst ey3
              have loop : ∀ (f i : Nat), 10 < f + i → i ≤ 10 → XM B k (up1 μ 1 (en h T)) δ 67 [some (.ref (aB B 0)), some (.int 5), some (.int (bitsF (fun r => decide (0 < h 8 r)) i)), some (.int (nI i))] [] := by
                intro f
                induction f with
                | zero => intro i h1 h2; omega
                | succ f ih =>
                  intro i h1 h2
                  refine x_ild3 ho dX8_house_67 ?_
                  refine x_bipush (v := 10) ho dX8_house_68 rfl ?_
                  refine x_icmp_ge 101 ho dX8_house_70 (by decide) (fun c70 => ?_) (fun c70 => ?_)
                  · have c70 := n_le (a := 10) (by decide) (by omega) c70
                    have ei : i = 10 := by omega
                    subst ei
                    refine x_ild2 ho dX8_house_101 ?_
                    refine x_iret ho hr ?_ dX8_house_102
                    refine ⟨_, _, _, rfl, rfl, ?_, rfl, rfl⟩
                    unfold aHouse
                    rw [if_neg (by decide), if_neg (by decide), if_neg (by decide), if_neg (by decide), if_neg (by decide), if_pos rfl]
                    unfold sMarked
                    rfl
                  · have c70 := n_nle (a := 10) (b := i) (by decide) (by omega) c70
                    refine x_ild2 ho dX8_house_73 ?_
                    refine x_ald0 ho dX8_house_74 ?_
                    refine r_X8_9 ho dX8_house_75 ?_
                    refine x_bipush (v := 27) ho dX8_house_78 rfl ?_
                    refine x_ild3 ho dX8_house_80 ?_
                    refine x_iadd ho dX8_house_81 ?_
                    refine m_ld (27 + i) (nI_add 27 i) (by omega) ho dX8_house_82 ?_
                    rw [en_mk (by omega)]
                    refine x_if_le 92 ho dX8_house_83 (by decide) (fun c83 => ?_) (fun c83 => ?_)
                    · have c83 : ¬ 0 < h 8 i := Int32.not_lt.mpr c83
                      have eb : bitsF (fun r => decide (0 < h 8 r)) (i + 1) = bitsF (fun r => decide (0 < h 8 r)) i ||| 0 := by rw [bitsF_f (by simpa using c83), Int32.or_zero]
                      refine x_iconst (v := 0) ho dX8_house_92 rfl ?_
                      refine x_ior ho dX8_house_93 ?_
                      refine x_ist2 ho dX8_house_94 (by rw [hk]; decide) rfl ?_
                      refine x_inc3 (y := 1) ho dX8_house_95 (by rw [hk]; decide) rfl rfl ?_
                      refine x_goto 67 ho dX8_house_98 (by decide) ?_
                      rw [nI_1 i, ← eb]
                      exact ih (i + 1) (by omega) (by omega)
                    · have c83 : 0 < h 8 i := Int32.not_le.mp c83
                      have eb : bitsF (fun r => decide (0 < h 8 r)) (i + 1) = bitsF (fun r => decide (0 < h 8 r)) i ||| ((1 : Int32) <<< (nI i &&& 31)) := bitsF_t (by simpa using c83)
                      refine x_iconst (v := 1) ho dX8_house_86 rfl ?_
                      refine x_ild3 ho dX8_house_87 ?_
                      refine x_ishl ho dX8_house_88 ?_
                      refine x_goto 93 ho dX8_house_89 (by decide) ?_
                      refine x_ior ho dX8_house_93 ?_
                      refine x_ist2 ho dX8_house_94 (by rw [hk]; decide) rfl ?_
                      refine x_inc3 (y := 1) ho dX8_house_95 (by rw [hk]; decide) rfl rfl ?_
                      refine x_goto 67 ho dX8_house_98 (by decide) ?_
                      rw [nI_1 i, ← eb]
                      exact ih (i + 1) (by omega) (by omega)
              exact loop 11 0 (by omega) (by omega)
            · skip
              refine x_tout 103 ho dX8_house_3 (by have tq3_0 := lv_neT q3_0 (a := 0) (by decide); have tq3_1 := lv_neT q3_1 (a := 1) (by decide); have tq3_2 := lv_neT q3_2 (a := 2) (by decide); have tq3_3 := lv_neT q3_3 (a := 3) (by decide); have tq3_4 := lv_neT q3_4 (a := 4) (by decide); have tq3_5 := lv_neT q3_5 (a := 5) (by decide); omega) (by decide) ?_
              refine x_ldc ho kc_X8_94 dX8_house_103 ?_
              refine x_iret ho hr ?_ dX8_house_105
              subst ey3
              refine ⟨_, _, _, rfl, rfl, ?_, rfl, rfl⟩
              unfold aHouse
              rw [if_neg q3_0, if_neg q3_1, if_neg q3_2, if_neg q3_3, if_neg q3_4, if_neg q3_5]
set_option maxRecDepth 100000 in
set_option maxHeartbeats 4000000 in
theorem c_X8_fee (B : BT) (μ : Nat → Nat → Int32) (δ : Nat → Int64) (h : HT) (T : Nat → Int32) (σ : ST) (hTR : TR σ h T) : MI B yX8_fee cX8_fee 2 (some .int) ({ frames := 2, cells := 0, slots := 0, locals := 47 }) [.ref (aB B 0)] (up1 μ 1 (en h T)) δ (fun r μ' δ' => r = aFee σ h ∧ ∃ μ2, Jm μ μ2 ∧ μ' = up1 μ2 1 (en h T) ∧ δ' = δ) := by
  refine MX.of2 RX8 (by decide) rfl ⟨rfl, rfl⟩ (Nat.le_of_ble_eq_true rfl) (by rfl) (fun k ho hr hk => ?_)
  show XM B k (up1 μ 1 (en h T)) δ 0 [some (.ref (aB B 0)), none] []
  rw [MW_0]
  refine x_ald0 ho dX8_fee_0 ?_
  refine x_iconst (v := 1) ho dX8_fee_1 rfl ?_
  refine vMI1 ho cs_X8_100 (w_counts B _ _ _ _ _ _ σ hTR 1 (by decide)) rfl ⟨rfl, rfl⟩ ⟨Nat.le_of_ble_eq_true rfl, Nat.le_of_ble_eq_true rfl⟩ (Nat.le_of_ble_eq_true rfl) dX8_fee_2 (fun r2 s2 t2 p2 => ?_)
  obtain ⟨rfl, rfl, rfl⟩ := p2
  refine x_ist1 ho dX8_fee_5 (by rw [hk]; decide) rfl ?_
  refine x_ald0 ho dX8_fee_6 ?_
  refine r_X8_52 ho dX8_fee_7 ?_
  refine x_iconst (v := 0) ho dX8_fee_10 rfl ?_
  refine x_ald0 ho dX8_fee_11 ?_
  refine r_X8_9 ho dX8_fee_12 ?_
  refine x_iconst (v := 4) ho dX8_fee_15 rfl ?_
  refine m_ldW (4) (rfl) (by omega) ho dX8_fee_16 ?_
  change XM B k _ _ _ _ (.int (h 0 10) :: _)
  refine xm_iastN (0) (rfl) 14 (by decide) ho (by decide) (by decide) (fun _ => rfl) dX8_fee_17 ?_
  rw [MW_14]
  refine x_ald0 ho dX8_fee_18 ?_
  refine r_X8_52 ho dX8_fee_19 ?_
  refine x_iconst (v := 1) ho dX8_fee_22 rfl ?_
  refine x_ald0 ho dX8_fee_23 ?_
  refine r_X8_9 ho dX8_fee_24 ?_
  refine x_iconst (v := 5) ho dX8_fee_27 rfl ?_
  refine m_ldW (5) (rfl) (by omega) ho dX8_fee_28 ?_
  change XM B k _ _ _ _ (.int (h 0 11) :: _)
  refine xm_iastN (1) (rfl) 14 (by decide) ho (by decide) (by decide) (fun _ => rfl) dX8_fee_29 ?_
  rw [MW_14]
  refine x_ild1 ho dX8_fee_30 ?_
  refine x_if_ge 43 ho dX8_fee_31 (by decide) (fun c31 => ?_) (fun c31 => ?_)
  · obtain ⟨t, ht14, et, ek, hx⟩ := TR_txt hTR (key := 1) (by decide) c31
    have e0 : aFee σ h = TxV σ t 0 (h 0 10) (h 0 11) := by
      unfold aFee
      rw [if_neg (Int32.not_lt.mpr c31), et, ix_n (by omega)]
    rw [et]
    refine x_ald0 ho dX8_fee_43 ?_
    refine x_ild1 ho dX8_fee_44 ?_
    refine vMI1 ho cs_X8_108 (c_X8_worksOut B μ _ h T _ _ σ t 1 ht14 hx ek (by decide) 0 (h 0 10) (h 0 11) ⟨rfl, rfl⟩) rfl ⟨rfl, rfl⟩ ⟨Nat.le_of_ble_eq_true rfl, Nat.le_of_ble_eq_true rfl⟩ (Nat.le_of_ble_eq_true rfl) dX8_fee_45 (fun r45 s45 t45 p45 => ?_)
    obtain ⟨rfl, stk, e_, rfl⟩ := p45
    subst e_
    refine x_iret ho hr ?_ dX8_fee_48
    first | (obtain ⟨μ2, j1, j2⟩ := MW_J (μ := μ) (stk := stk) (fc := (upd (upd (μ 14) 0 (h 0 10)) 1 (h 0 11))) (h := h) (T := T); exact ⟨_, _, _, rfl, rfl, e0.symm, μ2, j1, j2, rfl⟩) | (obtain ⟨μ2, j1, j2⟩ := MW_J (μ := μ) (stk := (μ 13)) (fc := (upd (upd (μ 14) 0 (h 0 10)) 1 (h 0 11))) (h := h) (T := T); exact ⟨_, _, _, rfl, rfl, e0.symm, μ2, j1, j2, rfl⟩)
  · have e0 : aFee σ h = h 0 10 := by
      unfold aFee
      rw [if_pos (Int32.not_le.mp c31)]
    refine x_ald0 ho dX8_fee_34 ?_
    refine r_X8_9 ho dX8_fee_35 ?_
    refine x_iconst (v := 4) ho dX8_fee_38 rfl ?_
    refine m_ldW (4) (rfl) (by omega) ho dX8_fee_39 ?_
    change XM B k _ _ _ _ (.int (h 0 10) :: _)
    refine x_goto 48 ho dX8_fee_40 (by decide) ?_
    refine x_iret ho hr ?_ dX8_fee_48
    first | (obtain ⟨μ2, j1, j2⟩ := MW_J (μ := μ) (stk := stk) (fc := (upd (upd (μ 14) 0 (h 0 10)) 1 (h 0 11))) (h := h) (T := T); exact ⟨_, _, _, rfl, rfl, e0.symm, μ2, j1, j2, rfl⟩) | (obtain ⟨μ2, j1, j2⟩ := MW_J (μ := μ) (stk := (μ 13)) (fc := (upd (upd (μ 14) 0 (h 0 10)) 1 (h 0 11))) (h := h) (T := T); exact ⟨_, _, _, rfl, rfl, e0.symm, μ2, j1, j2, rfl⟩)
set_option maxRecDepth 100000 in
set_option maxHeartbeats 4000000 in
theorem c_X8_fine (B : BT) (μ : Nat → Nat → Int32) (δ : Nat → Int64) (h : HT) (T : Nat → Int32) (hi : HI h) (σ : ST) (hTR : TR σ h T) (x : Int32) : MI B yX8_fine cX8_fine 3 (some .int) ({ frames := 2, cells := 0, slots := 0, locals := 47 }) [.ref (aB B 0), .int x] (up1 μ 1 (en h T)) δ (fun r μ' δ' => r = aFine σ h x ∧ ∃ μ2, Jm μ μ2 ∧ μ' = up1 μ2 1 (en h T) ∧ δ' = δ) := by
  refine MX.of2 RX8 (by decide) rfl ⟨rfl, rfl⟩ (Nat.le_of_ble_eq_true rfl) (by rfl) (fun k ho hr hk => ?_)
  show XM B k (up1 μ 1 (en h T)) δ 0 [some (.ref (aB B 0)), some (.int x), none] []
  refine x_ald0 ho dX8_fine_0 ?_
  refine x_ild1 ho dX8_fine_1 ?_
  refine vMI1 ho cs_X8_115 (c_X8_isDancer B _ _ _ _ hi _) rfl ⟨rfl, rfl⟩ ⟨Nat.le_of_ble_eq_true rfl, Nat.le_of_ble_eq_true rfl⟩ (Nat.le_of_ble_eq_true rfl) dX8_fine_2 (fun r2 s2 t2 p2 => ?_)
  obtain ⟨rfl, rfl, e_⟩ := p2
  subst t2
  refine x_if_ne 11 ho dX8_fine_5 (by decide) (fun c5 => ?_) (fun c5 => ?_)
  · have c5 := bI_n.mp c5
    obtain ⟨d, hd, rfl⟩ := isD_of c5 hi
    have hd12 := hi.n.1
    have ed : ix (nI d) = d := ix_n (by omega)
    rw [MW_0]
    refine x_ald0 ho dX8_fine_11 ?_
    refine x_iconst (v := 2) ho dX8_fine_12 rfl ?_
    refine vMI1 ho cs_X8_100 (w_counts B _ _ _ _ _ _ σ hTR 2 (by decide)) rfl ⟨rfl, rfl⟩ ⟨Nat.le_of_ble_eq_true rfl, Nat.le_of_ble_eq_true rfl⟩ (Nat.le_of_ble_eq_true rfl) dX8_fine_13 (fun r13 s13 t13 p13 => ?_)
    obtain ⟨rfl, rfl, rfl⟩ := p13
    refine x_ist2 ho dX8_fine_16 (by rw [hk]; decide) rfl ?_
    refine x_ald0 ho dX8_fine_17 ?_
    refine r_X8_52 ho dX8_fine_18 ?_
    refine x_iconst (v := 0) ho dX8_fine_21 rfl ?_
    refine x_ald0 ho dX8_fine_22 ?_
    refine x_ild1 ho dX8_fine_23 ?_
    refine x_iconst (v := 2) ho dX8_fine_24 rfl ?_
    refine vMI2 ho cs_X8_104 (w_of B _ _ _ _ _ _ d 2 (by omega) (by decide)) rfl ⟨rfl, rfl⟩ ⟨Nat.le_of_ble_eq_true rfl, Nat.le_of_ble_eq_true rfl⟩ (Nat.le_of_ble_eq_true rfl) dX8_fine_25 (fun r25 s25 t25 p25 => ?_)
    obtain ⟨rfl, rfl, rfl⟩ := p25
    refine xm_iastN (0) (rfl) 14 (by decide) ho (by decide) (by decide) (fun _ => rfl) dX8_fine_28 ?_
    rw [MW_14]
    refine x_ald0 ho dX8_fine_29 ?_
    refine r_X8_52 ho dX8_fine_30 ?_
    refine x_iconst (v := 1) ho dX8_fine_33 rfl ?_
    refine x_ald0 ho dX8_fine_34 ?_
    refine x_ild1 ho dX8_fine_35 ?_
    refine x_iconst (v := 4) ho dX8_fine_36 rfl ?_
    refine vMI2 ho cs_X8_104 (w_of B _ _ _ _ _ _ d 4 (by omega) (by decide)) rfl ⟨rfl, rfl⟩ ⟨Nat.le_of_ble_eq_true rfl, Nat.le_of_ble_eq_true rfl⟩ (Nat.le_of_ble_eq_true rfl) dX8_fine_37 (fun r37 s37 t37 p37 => ?_)
    obtain ⟨rfl, rfl, rfl⟩ := p37
    refine xm_iastN (1) (rfl) 14 (by decide) ho (by decide) (by decide) (fun _ => rfl) dX8_fine_40 ?_
    rw [MW_14]
    refine x_ild2 ho dX8_fine_41 ?_
    refine x_if_ge 54 ho dX8_fine_42 (by decide) (fun c42 => ?_) (fun c42 => ?_)
    · obtain ⟨t, ht14, et, ek, hx⟩ := TR_txt hTR (key := 2) (by decide) c42
      have e0 : aFine σ h (nI d) = TxV σ t 0 (h 3 d) (h 5 d) := by
        unfold aFine
        rw [if_pos c5, if_neg (Int32.not_lt.mpr c42), et, ix_n (n := t) (by omega), ed]
      rw [et]
      refine x_ald0 ho dX8_fine_54 ?_
      refine x_ild2 ho dX8_fine_55 ?_
      refine vMI1 ho cs_X8_108 (c_X8_worksOut B μ _ h T _ _ σ t 2 ht14 hx ek (by decide) 0 (h 3 d) (h 5 d) ⟨rfl, rfl⟩) rfl ⟨rfl, rfl⟩ ⟨Nat.le_of_ble_eq_true rfl, Nat.le_of_ble_eq_true rfl⟩ (Nat.le_of_ble_eq_true rfl) dX8_fine_56 (fun r56 s56 t56 p56 => ?_)
      obtain ⟨rfl, stk, e_, rfl⟩ := p56
      subst e_
      refine x_iret ho hr ?_ dX8_fine_59
      first | (obtain ⟨μ2, j1, j2⟩ := MW_J (μ := μ) (stk := stk) (fc := (upd (upd (μ 14) 0 (h 3 d)) 1 (h 5 d))) (h := h) (T := T); exact ⟨_, _, _, rfl, rfl, e0.symm, μ2, j1, j2, rfl⟩) | (obtain ⟨μ2, j1, j2⟩ := MW_J (μ := μ) (stk := (μ 13)) (fc := (upd (upd (μ 14) 0 (h 3 d)) 1 (h 5 d))) (h := h) (T := T); exact ⟨_, _, _, rfl, rfl, e0.symm, μ2, j1, j2, rfl⟩)
    · have e0 : aFine σ h (nI d) = h 5 d := by
        unfold aFine
        rw [if_pos c5, if_pos (Int32.not_le.mp c42), ed]
      refine x_ald0 ho dX8_fine_45 ?_
      refine x_ild1 ho dX8_fine_46 ?_
      refine x_iconst (v := 4) ho dX8_fine_47 rfl ?_
      refine vMI2 ho cs_X8_104 (w_of B _ _ _ _ _ _ d 4 (by omega) (by decide)) rfl ⟨rfl, rfl⟩ ⟨Nat.le_of_ble_eq_true rfl, Nat.le_of_ble_eq_true rfl⟩ (Nat.le_of_ble_eq_true rfl) dX8_fine_48 (fun r48 s48 t48 p48 => ?_)
      obtain ⟨rfl, rfl, rfl⟩ := p48
      refine x_goto 59 ho dX8_fine_51 (by decide) ?_
      refine x_iret ho hr ?_ dX8_fine_59
      first | (obtain ⟨μ2, j1, j2⟩ := MW_J (μ := μ) (stk := stk) (fc := (upd (upd (μ 14) 0 (h 3 d)) 1 (h 5 d))) (h := h) (T := T); exact ⟨_, _, _, rfl, rfl, e0.symm, μ2, j1, j2, rfl⟩) | (obtain ⟨μ2, j1, j2⟩ := MW_J (μ := μ) (stk := (μ 13)) (fc := (upd (upd (μ 14) 0 (h 3 d)) 1 (h 5 d))) (h := h) (T := T); exact ⟨_, _, _, rfl, rfl, e0.symm, μ2, j1, j2, rfl⟩)
  · have c5 := bI_0.mp c5
    refine x_ldc ho kc_X8_94 dX8_fine_8 ?_
    refine x_iret ho hr ?_ dX8_fine_10
    exact ⟨_, _, _, rfl, rfl, by unfold aFine; rw [if_neg c5], μ, Jm.rf, rfl, rfl⟩
def mWhy (h : HT) (x : Int32) : Int32 := if ¬ x < 0 ∧ x < 3 then (if 0 ≤ h 9 (ix x) then h 9 (ix x) else -1000000005) else -1000000001
theorem in02 {x : Int32} (h : ¬ x < 0 ∧ x ≤ 2) : ∃ n, n < 3 ∧ x = nI n := by
  obtain ⟨n, hn, rfl⟩ := nI_of h.1
  have h2 := n_le (b := 2) hn (by decide) h.2
  exact ⟨n, by omega, rfl⟩
theorem lt3 {x : Int32} : x ≤ 2 ↔ x < 3 := by
  rw [Int32.lt_iff_toInt_lt, Int32.le_iff_toInt_le, show (2 : Int32).toInt = 2 from rfl, show (3 : Int32).toInt = 3 from rfl]
  omega
set_option maxRecDepth 100000 in
set_option maxHeartbeats 4000000 in
theorem c_X8_why (B : BT) (μ : Nat → Nat → Int32) (δ : Nat → Int64) (h : HT) (T : Nat → Int32) (σ : ST) (hTR : TR σ h T) (x : Int32) : MI B yX8_why cX8_why 3 (some .int) ({ frames := 1, cells := 0, slots := 0, locals := 22 }) [.ref (aB B 0), .int x] (up1 μ 1 (en h T)) δ (fun r μ' δ' => r = mWhy h x ∧ μ' = up1 μ 1 (en h T) ∧ δ' = δ) := by
  refine MX.of2 RX8 (by decide) rfl ⟨rfl, rfl⟩ (Nat.le_of_ble_eq_true rfl) (by rfl) (fun k ho hr hk => ?_)
  show XM B k (up1 μ 1 (en h T)) δ 0 [some (.ref (aB B 0)), some (.int x), none] []
  refine x_ild1 ho dX8_why_0 ?_
  refine x_iconst (v := 0) ho dX8_why_1 rfl ?_
  refine x_iconst (v := 2) ho dX8_why_2 rfl ?_
  refine sMI3 ho cs_X8_82 (c_X8_in B _ _ _ _ _) ⟨rfl, rfl⟩ ⟨Nat.le_of_ble_eq_true rfl, Nat.le_of_ble_eq_true rfl⟩ (Nat.le_of_ble_eq_true rfl) dX8_why_3 (fun r3 s3 t3 p3 => ?_)
  obtain ⟨rfl, rfl, rfl⟩ := p3
  rw [mle]
  refine x_if_ne 12 ho dX8_why_6 (by decide) (fun c6 => ?_) (fun c6 => ?_)
  · have c6 := bI_n.mp c6
    obtain ⟨n, hn, rfl⟩ := in02 c6
    have e0 : mWhy h (nI n) = if 0 ≤ h 9 n then h 9 n else -1000000005 := by
      unfold mWhy
      rw [if_pos ⟨c6.1, lt3.mp c6.2⟩, ix_n (by omega)]
    refine x_ald0 ho dX8_why_12 ?_
    refine x_ild1 ho dX8_why_13 ?_
    refine vMI1 ho cs_X8_100 (c_X8_counts B _ _ _ _ σ hTR n hn) rfl ⟨rfl, rfl⟩ ⟨Nat.le_of_ble_eq_true rfl, Nat.le_of_ble_eq_true rfl⟩ (Nat.le_of_ble_eq_true rfl) dX8_why_14 (fun r14 s14 t14 p14 => ?_)
    obtain ⟨rfl, rfl, rfl⟩ := p14
    refine x_ist2 ho dX8_why_17 (by rw [hk]; decide) rfl ?_
    refine x_ild2 ho dX8_why_18 ?_
    refine x_if_ge 27 ho dX8_why_19 (by decide) (fun c19 => ?_) (fun c19 => ?_)
    · refine x_ild2 ho dX8_why_27 ?_
      refine x_iret ho hr ?_ dX8_why_28
      first | exact ⟨_, _, _, rfl, rfl, by rw [e0, if_pos c19], rfl, rfl⟩ | exact ⟨_, _, _, rfl, rfl, by rw [e0, if_neg c19], rfl, rfl⟩
    · refine x_ldc ho kc_X8_150 dX8_why_22 ?_
      refine x_goto 28 ho dX8_why_24 (by decide) ?_
      refine x_iret ho hr ?_ dX8_why_28
      first | exact ⟨_, _, _, rfl, rfl, by rw [e0, if_pos c19], rfl, rfl⟩ | exact ⟨_, _, _, rfl, rfl, by rw [e0, if_neg c19], rfl, rfl⟩
  · have c6 := bI_0.mp c6
    refine x_ldc ho kc_X8_94 dX8_why_9 ?_
    refine x_iret ho hr ?_ dX8_why_11
    exact ⟨_, _, _, rfl, rfl, by unfold mWhy; rw [if_neg (fun z => c6 ⟨z.1, lt3.mpr z.2⟩)], rfl, rfl⟩
def mTextTold (σ : ST) (h : HT) (x w : Int32) : Int32 := if ¬ x < 0 ∧ ¬ h 0 14 ≤ x ∧ is2 w = true then (if w = 0 then σ 37 (ix x) else σ 38 (ix x)) else -1000000001
theorem lsub1 {x : Int32} {N : Nat} (hN : N < 2 ^ 30) (h0 : ¬ x < 0) : ¬ nI N - 1 < x ↔ ¬ nI N ≤ x := by
  obtain ⟨j, hj, rfl⟩ := nI_of h0
  rw [Int32.lt_iff_toInt_lt, Int32.le_iff_toInt_le, show (1 : Int32) = nI 1 from rfl, pk_sub_toInt (by omega) (by omega), nI_toInt hj, nI_toInt (by omega)]
  omega
set_option maxRecDepth 100000 in
set_option maxHeartbeats 4000000 in
theorem c_X8_textTold (B : BT) (μ : Nat → Nat → Int32) (δ : Nat → Int64) (h : HT) (T : Nat → Int32) (σ : ST) (hTR : TR σ h T) (x w : Int32) : MI B yX8_textTold cX8_textTold 3 (some .int) ({ frames := 1, cells := 0, slots := 0, locals := 22 }) [.ref (aB B 0), .int x, .int w] (up1 μ 1 (en h T)) δ (fun r μ' δ' => r = mTextTold σ h x w ∧ μ' = up1 μ 1 (en h T) ∧ δ' = δ) := by
  refine MX.of2 RX8 (by decide) rfl ⟨rfl, rfl⟩ (Nat.le_of_ble_eq_true rfl) (by rfl) (fun k ho hr hk => ?_)
  show XM B k (up1 μ 1 (en h T)) δ 0 [some (.ref (aB B 0)), some (.int x), some (.int w)] []
  obtain ⟨N, hN14, hN, hTx, hl⟩ := hTR
  refine x_ild1 ho dX8_textTold_0 ?_
  refine x_iconst (v := 0) ho dX8_textTold_1 rfl ?_
  refine x_ald0 ho dX8_textTold_2 ?_
  refine r_X8_9 ho dX8_textTold_3 ?_
  refine x_bipush (v := 6) ho dX8_textTold_6 rfl ?_
  refine m_ld (6) (rfl) (by omega) ho dX8_textTold_8 ?_
  change XM B k _ _ _ _ (.int (h 0 14) :: _)
  rw [hN]
  refine x_iconst (v := 1) ho dX8_textTold_9 rfl ?_
  refine x_isub ho dX8_textTold_10 ?_
  refine sMI3 ho cs_X8_82 (c_X8_in B _ _ _ _ _) ⟨rfl, rfl⟩ ⟨Nat.le_of_ble_eq_true rfl, Nat.le_of_ble_eq_true rfl⟩ (Nat.le_of_ble_eq_true rfl) dX8_textTold_11 (fun r11 s11 t11 p11 => ?_)
  obtain ⟨rfl, rfl, rfl⟩ := p11
  refine x_if_eq 26 ho dX8_textTold_14 (by decide) (fun c14 => ?_) (fun c14 => ?_)
  · have c14 := bI_0.mp c14
    refine x_ldc ho kc_X8_94 dX8_textTold_26 ?_
    refine x_iret ho hr ?_ dX8_textTold_28
    exact ⟨_, _, _, rfl, rfl, by unfold mTextTold; rw [if_neg (by first | exact fun z => c23 z.2.2 | exact fun z => c14 ⟨z.1, (lsub1 (by omega) z.1).mpr (by rw [← hN]; exact z.2.1)⟩)], rfl, rfl⟩
  · have c14 := bI_n.mp c14
    have c14' := (lsub1 (by omega) c14.1).mp c14.2
    obtain ⟨t, ht, rfl⟩ := nI_of c14.1
    have htN := n_nle (by omega) ht c14'
    obtain ⟨n, key, hn96, hk3, e36, e37, hw, hT0, hT1, -⟩ := hTx t htN
    refine x_ild2 ho dX8_textTold_17 ?_
    refine x_iconst (v := 0) ho dX8_textTold_18 rfl ?_
    refine x_iconst (v := 1) ho dX8_textTold_19 rfl ?_
    refine sMI3 ho cs_X8_82 (c_X8_in B _ _ _ _ _) ⟨rfl, rfl⟩ ⟨Nat.le_of_ble_eq_true rfl, Nat.le_of_ble_eq_true rfl⟩ (Nat.le_of_ble_eq_true rfl) dX8_textTold_20 (fun r20 s20 t20 p20 => ?_)
    obtain ⟨rfl, rfl, rfl⟩ := p20
    rw [m2]
    refine x_if_ne 29 ho dX8_textTold_23 (by decide) (fun c23 => ?_) (fun c23 => ?_)
    · have c23 := bI_n.mp c23
      have e0 : mTextTold σ h (nI t) w = if w = 0 then σ 37 t else σ 38 t := by
        unfold mTextTold
        rw [if_pos ⟨c14.1, by rw [hN]; exact c14', c23⟩, ix_n (by omega)]
      refine x_ild2 ho dX8_textTold_29 ?_
      refine x_if_ne 51 ho dX8_textTold_30 (by decide) (fun c30 => ?_) (fun c30 => ?_)
      · refine x_ald0 ho dX8_textTold_51 ?_
        refine r_X8_9 ho dX8_textTold_52 ?_
        refine x_bipush (v := 97) ho dX8_textTold_55 rfl ?_
        refine x_iconst (v := 2) ho dX8_textTold_57 rfl ?_
        refine x_ild1 ho dX8_textTold_58 ?_
        refine x_imul ho dX8_textTold_59 ?_
        refine x_iadd ho dX8_textTold_60 ?_
        refine x_iconst (v := 1) ho dX8_textTold_61 rfl ?_
        refine x_iadd ho dX8_textTold_62 ?_
        refine m_ld (97 + (2 * t + 1)) (by rw [ix97]; exact (nI_1 _).trans rfl) (by omega) ho dX8_textTold_63 ?_
        rw [en_T, hT1]
        refine x_iret ho hr ?_ dX8_textTold_64
        first | exact ⟨_, _, _, rfl, rfl, by rw [e0, if_pos c30], rfl, rfl⟩ | exact ⟨_, _, _, rfl, rfl, by rw [e0, if_neg c30], rfl, rfl⟩
      · refine x_ald0 ho dX8_textTold_33 ?_
        refine r_X8_9 ho dX8_textTold_34 ?_
        refine x_bipush (v := 97) ho dX8_textTold_37 rfl ?_
        refine x_iconst (v := 2) ho dX8_textTold_39 rfl ?_
        refine x_ild1 ho dX8_textTold_40 ?_
        refine x_imul ho dX8_textTold_41 ?_
        refine x_iadd ho dX8_textTold_42 ?_
        refine m_ld (97 + 2 * t) (ix97 t) (by omega) ho dX8_textTold_43 ?_
        rw [en_T, hT0]
        refine x_sipush (v := 1000) ho dX8_textTold_44 rfl ?_
        refine x_idiv ho dX8_textTold_47 (by decide) ?_
        rw [div_k hk3 hn96, ← e37]
        refine x_goto 64 ho dX8_textTold_48 (by decide) ?_
        refine x_iret ho hr ?_ dX8_textTold_64
        first | exact ⟨_, _, _, rfl, rfl, by rw [e0, if_pos c30], rfl, rfl⟩ | exact ⟨_, _, _, rfl, rfl, by rw [e0, if_neg c30], rfl, rfl⟩
    · have c23 := bI_0.mp c23
      refine x_ldc ho kc_X8_94 dX8_textTold_26 ?_
      refine x_iret ho hr ?_ dX8_textTold_28
      exact ⟨_, _, _, rfl, rfl, by unfold mTextTold; rw [if_neg (by first | exact fun z => c23 z.2.2 | exact fun z => c14 ⟨z.1, (lsub1 (by omega) z.1).mpr (by rw [← hN]; exact z.2.1)⟩)], rfl, rfl⟩
