/-! one call, in both: what stands beside the house -/
theorem RT.rest {σ μ σ' μ' : ST} {T : Nat → Int32} (h : RT σ μ T) (e1 : ∀ q, q < 20 ∨ (36 ≤ q ∧ q ≤ 53 ∧ q ≠ 39) → σ' q = σ q) (e2 : σ' 30 2 = σ 30 2) (e3 : μ' 0 3 = μ 0 3) (e4 : μ' 1 = μ 1) (e5 : μ' 2 = μ 2) (e6 : ∀ q, q = 8 ∨ q = 9 → μ' q = μ q) : R0 σ' μ' T ∧ R1 σ' μ' ∧ KC μ' := by
  obtain ⟨⟨a1, a2, a3⟩, ⟨b1, b2⟩, c1, d1, f1, g1, k1⟩ := h
  have n0 : ∀ f, f < 10 → hs σ' 0 f = hs σ 0 f := fun f hf => e1 (10 * 0 + f) (Or.inl (by omega))
  have n1 : ∀ f, f < 10 → hs σ' 1 f = hs σ 1 f := fun f hf => e1 (10 * 1 + f) (Or.inl (by omega))
  have e36 := e1 36 (Or.inr (by decide))
  have e37 := e1 37 (Or.inr (by decide))
  have e38 := e1 38 (Or.inr (by decide))
  have e40 : ∀ t, t < 14 → σ' (40 + t) = σ (40 + t) := fun t ht => e1 (40 + t) (Or.inr ⟨by omega, by omega, by omega⟩)
  refine ⟨⟨by rw [e4, a1]; exact (en_x n0).symm, TR_f a2 (by rw [n0 0 (by decide)]) (by rw [n0 9 (by decide)]) e36 e37 e38 e40, GH_x a3 n0⟩, ⟨by rw [e2, e3]; exact b1, fun q => ?_⟩, k1.fr e6⟩
  rw [e2] at q
  obtain ⟨Ti, i1, i2, i3, i4⟩ := b2 q
  exact ⟨Ti, by rw [e5, i1]; exact (en_x n1).symm, TR_f i2 (by rw [n1 0 (by decide)]) (by rw [n1 9 (by decide)]) e36 e37 e38 e40, GH_x i3 n1, by rw [n1 0 (by decide), n0 0 (by decide)]; exact i4⟩
theorem RS9 {σ μ : ST} {T : Nat → Int32} (h : RT σ μ T) : ∀ r, r < 9 → RS σ r := fun r hr => by
  by_cases q : r < 4
  · exact (h.2.2.1 r q).2.2.2.2.1
  · have z := (h.2.2.2.1 (r - 4) (by omega)).2.2.2.2
    rwa [show 4 + (r - 4) = r by omega] at z
theorem isQ_ix {x : Int32} (h : isQ x = true) : ix x < 4 := by
  obtain ⟨d, hd, rfl⟩ := isQ_of h
  rw [ix_n (by omega)]
  exact hd
theorem isL_ix {x : Int32} (h : isL x = true) : ix x < 5 := by
  obtain ⟨d, hd, rfl⟩ := isL_of h
  rw [ix_n (by omega)]
  exact hd
theorem f_sheet {σ : ST} {x s n : Int32} {q : Nat} (hq : q < 54 ∨ 62 ≤ q) : (aSheet σ x s n).2 q = σ q := by
  unfold aSheet
  split
  · rename_i hc
    have := isQ_ix hc.1
    split
    · exact zR_o (by omega) (by omega)
    · split
      · rfl
      · split
        · rfl
        · exact zR_o (by omega) (by omega)
  · rfl
theorem f_mark {σ : ST} {x p v : Int32} {q : Nat} (hq : q < 54 ∨ 62 ≤ q) : (aMark σ x p v).2 q = σ q := by
  unfold aMark
  split
  · rename_i hc
    have := isQ_ix hc
    (repeat' split) <;> first | rfl | exact up2_n (by omega)
  · rfl
theorem f_copy {σ : ST} {x p y z n : Int32} {q : Nat} (hq : q < 54 ∨ 62 ≤ q) : (aCopy σ x p y z n).2 q = σ q := by
  unfold aCopy
  split
  · rename_i hc
    have := isQ_ix hc.2
    (repeat' split) <;> first | rfl | exact up1_n (by omega)
  · rfl
theorem f_lay {σ : ST} {x th y : Int32} {q : Nat} (hq : q < 62 ∨ 77 ≤ q) : (aLay σ x th y).2 q = σ q := by
  unfold aLay
  split
  · rename_i hc
    have := isL_ix hc
    split
    · exact up2_n (by omega)
    · split
      · split
        · unfold lyD
          exact (up2_n (by omega)).trans ((up2_n (by omega)).trans (up2_n (by omega)))
        · rfl
      · split
        · split
          · split
            · rfl
            · unfold lyR
              exact (up2_n (by omega)).trans ((up1_n (by omega)).trans ((up2_n (by omega)).trans (up2_n (by omega))))
          · rfl
        · split
          · exact (up2_n (by omega)).trans (up2_n (by omega))
          · rfl
  · rfl
theorem st_sheet (B1 B2 : BT) {σ μ : ST} (δ : Nat → Int64) (h : Rel σ μ) (x s n : Int32) : BothP (fun P => CI B1 yX7_sheet cX7_sheet 5 (some .int) ({ frames := 1, cells := 0, slots := 0, locals := 23 }) [.ref (aB B1 30), .int x, .int s, .int n] σ P) (fun Q => MI B2 yX8_sheet cX8_sheet 5 (some .int) ({ frames := 2, cells := 0, slots := 0, locals := 42 }) [.ref (aB B2 0), .int x, .int s, .int n] μ δ Q) := by
  obtain ⟨T, hR⟩ := h
  have hg := hR.1.2.2
  have hTR := hR.1.2.1
  have hi := hg.1
  have em : up1 μ 1 (en (hs σ 0) T) = μ := by rw [← hR.1.1, up1_self]
  have c := c_X7_sheet B1 σ  x s n
  have m := c_X8_sheet B2 μ δ σ hR.2.2.1 x s n
  refine ⟨_, _, c, m, ?_⟩
  rintro r σ' r' μ' δ' ⟨rfl, rfl⟩ ⟨rfl, hS, hf, rfl⟩
  obtain ⟨k0, k1, k2⟩ := hR.rest (σ' := (aSheet σ x s n).2) (μ' := μ') (fun q hq => f_sheet (by omega)) (by rw [f_sheet (by omega)]) (by rw [hf 0 (by decide) (by decide) (by decide)]) (hf 1 (by decide) (by decide) (by decide)) (hf 2 (by decide) (by decide) (by decide)) (fun q hq => hf q (by omega) (by omega) (by omega))
  refine ⟨rfl, T, k0, k1, hS, hR.2.2.2.1.fr (fun q h1 h2 => f_sheet (by omega)) (fun q h1 h2 => hf q (by omega) (by omega) (by omega)), ?_, ?_, k2⟩
  · unfold R4
    rw [f_sheet (q := 33) (by omega), f_sheet (q := 32) (by omega), hf 7 (by decide) (by decide) (by decide), hf 0 (by decide) (by decide) (by decide)]
    exact hR.2.2.2.2.1
  · unfold R5
    rw [f_sheet (q := 77) (by omega), f_sheet (q := 30) (by omega), hf 23 (by decide) (by decide) (by decide), hf 0 (by decide) (by decide) (by decide)]
    exact hR.2.2.2.2.2.1
theorem st_mark (B1 B2 : BT) {σ μ : ST} (δ : Nat → Int64) (h : Rel σ μ) (x p v : Int32) : BothP (fun P => CI B1 yX7_mark cX7_mark 5 (some .int) ({ frames := 1, cells := 0, slots := 0, locals := 22 }) [.ref (aB B1 30), .int x, .int p, .int v] σ P) (fun Q => MI B2 yX8_mark cX8_mark 4 (some .int) ({ frames := 2, cells := 0, slots := 0, locals := 42 }) [.ref (aB B2 0), .int x, .int p, .int v] μ δ Q) := by
  obtain ⟨T, hR⟩ := h
  have hg := hR.1.2.2
  have hTR := hR.1.2.1
  have hi := hg.1
  have em : up1 μ 1 (en (hs σ 0) T) = μ := by rw [← hR.1.1, up1_self]
  have c := c_X7_mark B1 σ (RS9 hR) x p v
  have m := c_X8_mark B2 μ δ σ hR.2.2.1 x p v
  refine ⟨_, _, c, m, ?_⟩
  rintro r σ' r' μ' δ' ⟨rfl, rfl⟩ ⟨rfl, hS, hf, rfl⟩
  obtain ⟨k0, k1, k2⟩ := hR.rest (σ' := (aMark σ x p v).2) (μ' := μ') (fun q hq => f_mark (by omega)) (by rw [f_mark (by omega)]) (by rw [hf 0 (by decide) (by decide) (by decide)]) (hf 1 (by decide) (by decide) (by decide)) (hf 2 (by decide) (by decide) (by decide)) (fun q hq => hf q (by omega) (by omega) (by omega))
  refine ⟨rfl, T, k0, k1, hS, hR.2.2.2.1.fr (fun q h1 h2 => f_mark (by omega)) (fun q h1 h2 => hf q (by omega) (by omega) (by omega)), ?_, ?_, k2⟩
  · unfold R4
    rw [f_mark (q := 33) (by omega), f_mark (q := 32) (by omega), hf 7 (by decide) (by decide) (by decide), hf 0 (by decide) (by decide) (by decide)]
    exact hR.2.2.2.2.1
  · unfold R5
    rw [f_mark (q := 77) (by omega), f_mark (q := 30) (by omega), hf 23 (by decide) (by decide) (by decide), hf 0 (by decide) (by decide) (by decide)]
    exact hR.2.2.2.2.2.1
theorem st_copy (B1 B2 : BT) {σ μ : ST} (δ : Nat → Int64) (h : Rel σ μ) (x p y q n : Int32) : BothP (fun P => CI B1 yX7_copy cX7_copy 8 (some .int) ({ frames := 2, cells := 0, slots := 0, locals := 105 }) [.ref (aB B1 30), .int x, .int p, .int y, .int q, .int n] σ P) (fun Q => MI B2 yX8_copy cX8_copy 7 (some .int) ({ frames := 2, cells := 0, slots := 0, locals := 42 }) [.ref (aB B2 0), .int x, .int p, .int y, .int q, .int n] μ δ Q) := by
  obtain ⟨T, hR⟩ := h
  have hg := hR.1.2.2
  have hTR := hR.1.2.1
  have hi := hg.1
  have em : up1 μ 1 (en (hs σ 0) T) = μ := by rw [← hR.1.1, up1_self]
  have c := c_X7_copy B1 σ (RS9 hR) x p y q n
  have m := c_X8_copy B2 μ δ σ hR.2.2.1 x p y q n
  refine ⟨_, _, c, m, ?_⟩
  rintro r σ' r' μ' δ' ⟨rfl, rfl⟩ ⟨rfl, hS, hf, rfl⟩
  obtain ⟨k0, k1, k2⟩ := hR.rest (σ' := (aCopy σ x p y q n).2) (μ' := μ') (fun q hq => f_copy (by omega)) (by rw [f_copy (by omega)]) (by rw [hf 0 (by decide) (by decide)]) (hf 1 (by decide) (by decide)) (hf 2 (by decide) (by decide)) (fun q hq => hf q (by omega) (by omega))
  refine ⟨rfl, T, k0, k1, hS, hR.2.2.2.1.fr (fun q h1 h2 => f_copy (by omega)) (fun q h1 h2 => hf q (by omega) (by omega)), ?_, ?_, k2⟩
  · unfold R4
    rw [f_copy (q := 33) (by omega), f_copy (q := 32) (by omega), hf 7 (by decide) (by decide), hf 0 (by decide) (by decide)]
    exact hR.2.2.2.2.1
  · unfold R5
    rw [f_copy (q := 77) (by omega), f_copy (q := 30) (by omega), hf 23 (by decide) (by decide), hf 0 (by decide) (by decide)]
    exact hR.2.2.2.2.2.1
theorem st_lay (B1 B2 : BT) {σ μ : ST} (δ : Nat → Int64) (h : Rel σ μ) (x th y : Int32) : BothP (fun P => CI B1 yX7_lay cX7_lay 7 (some .int) ({ frames := 3, cells := 0, slots := 0, locals := 126 }) [.ref (aB B1 30), .int x, .int th, .int y] σ P) (fun Q => MI B2 yX8_lay cX8_lay 6 (some .int) ({ frames := 2, cells := 0, slots := 0, locals := 44 }) [.ref (aB B2 0), .int x, .int th, .int y] μ δ Q) := by
  obtain ⟨T, hR⟩ := h
  have hg := hR.1.2.2
  have hTR := hR.1.2.1
  have hi := hg.1
  have em : up1 μ 1 (en (hs σ 0) T) = μ := by rw [← hR.1.1, up1_self]
  have c := c_X7_lay B1 σ hi x th y
  have m := c_X8_lay B2 μ δ σ T hi hR.2.2.2.1 hR.2.2.1 x th y
  rw [em] at m
  refine ⟨_, _, c, m, ?_⟩
  rintro r σ' r' μ' δ' ⟨rfl, rfl⟩ ⟨rfl, μ2, rfl, hS, hf, rfl⟩
  have e1 : up1 μ2 1 (en (hs σ 0) T) = μ2 := by rw [← hR.1.1, ← hf 1 (by decide) (by decide) (by decide) (by decide), up1_self]
  rw [e1]
  obtain ⟨k0, k1, k2⟩ := hR.rest (σ' := (aLay σ x th y).2) (μ' := μ2) (fun q hq => f_lay (by omega)) (by rw [f_lay (by omega)]) (by rw [hf 0 (by decide) (by decide) (by decide) (by decide)]) (hf 1 (by decide) (by decide) (by decide) (by decide)) (hf 2 (by decide) (by decide) (by decide) (by decide)) (fun q hq => hf q (by omega) (by omega) (by omega) (by omega))
  refine ⟨rfl, T, k0, k1, hR.2.2.1.fr (fun q h1 h2 => f_lay (by omega)) (fun q h1 h2 => hf q (by omega) (by omega) (by omega) (by omega)), hS, ?_, ?_, k2⟩
  · unfold R4
    rw [f_lay (q := 33) (by omega), f_lay (q := 32) (by omega), hf 7 (by decide) (by decide) (by decide) (by decide), hf 0 (by decide) (by decide) (by decide) (by decide)]
    exact hR.2.2.2.2.1
  · unfold R5
    rw [f_lay (q := 77) (by omega), f_lay (q := 30) (by omega), hf 23 (by decide) (by decide) (by decide) (by decide), hf 0 (by decide) (by decide) (by decide) (by decide)]
    exact hR.2.2.2.2.2.1
theorem st_ask (B1 B2 : BT) {σ μ : ST} (δ : Nat → Int64) (h : Rel σ μ) (x kd : Int32) : BothP (fun P => CI B1 yX7_ask cX7_ask 4 (some .int) ({ frames := 1, cells := 0, slots := 0, locals := 21 }) [.ref (aB B1 30), .int x, .int kd] σ P) (fun Q => MI B2 yX8_ask cX8_ask 3 (some .int) ({ frames := 2, cells := 0, slots := 0, locals := 42 }) [.ref (aB B2 0), .int x, .int kd] μ δ Q) := by
  obtain ⟨T, hR⟩ := h
  have hg := hR.1.2.2
  have hTR := hR.1.2.1
  have hi := hg.1
  have em : up1 μ 1 (en (hs σ 0) T) = μ := by rw [← hR.1.1, up1_self]
  have c := c_X7_ask B1 σ  x kd
  have m := c_X8_ask B2 μ δ σ hR.2.2.2.1 x kd
  refine ⟨_, _, c, m, ?_⟩
  rintro r σ' r' μ' δ' ⟨rfl, rfl⟩ ⟨rfl, rfl, rfl⟩
  exact ⟨rfl, T, hR⟩
theorem st_item (B1 B2 : BT) {σ μ : ST} (δ : Nat → Int64) (h : Rel σ μ) (x p : Int32) : BothP (fun P => CI B1 yX7_item cX7_item 4 (some .int) ({ frames := 1, cells := 0, slots := 0, locals := 22 }) [.ref (aB B1 30), .int x, .int p] σ P) (fun Q => MI B2 yX8_item cX8_item 4 (some .int) ({ frames := 2, cells := 0, slots := 0, locals := 42 }) [.ref (aB B2 0), .int x, .int p] μ δ Q) := by
  obtain ⟨T, hR⟩ := h
  have hg := hR.1.2.2
  have hTR := hR.1.2.1
  have hi := hg.1
  have em : up1 μ 1 (en (hs σ 0) T) = μ := by rw [← hR.1.1, up1_self]
  have c := c_X7_item B1 σ (RS9 hR) x p
  have m := c_X8_item B2 μ δ σ hR.2.2.2.1 x p
  refine ⟨_, _, c, m, ?_⟩
  rintro r σ' r' μ' δ' ⟨rfl, rfl⟩ ⟨rfl, rfl, rfl⟩
  exact ⟨rfl, T, hR⟩
theorem st_rest (B1 B2 : BT) {σ μ : ST} (δ : Nat → Int64) (h : Rel σ μ) (x n : Int32) : BothP (fun P => CI B1 yX7_rest cX7_rest 4 (some .int) ({ frames := 1, cells := 0, slots := 0, locals := 21 }) [.ref (aB B1 30), .int x, .int n] σ P) (fun Q => MI B2 yX8_rest cX8_rest 3 (some .int) ({ frames := 2, cells := 0, slots := 0, locals := 42 }) [.ref (aB B2 0), .int x, .int n] μ δ Q) := by
  obtain ⟨T, hR⟩ := h
  have hg := hR.1.2.2
  have hTR := hR.1.2.1
  have hi := hg.1
  have em : up1 μ 1 (en (hs σ 0) T) = μ := by rw [← hR.1.1, up1_self]
  have c := c_X7_rest B1 σ  x n
  have m := c_X8_rest B2 μ δ σ hR.2.2.2.1 x n
  refine ⟨_, _, c, m, ?_⟩
  rintro r σ' r' μ' δ' ⟨rfl, rfl⟩ ⟨rfl, rfl, rfl⟩
  exact ⟨rfl, T, hR⟩
theorem st_reads (B1 B2 : BT) {σ μ : ST} (δ : Nat → Int64) (h : Rel σ μ) (x : Int32) : BothP (fun P => CI B1 yX7_reads cX7_reads 4 (some .int) ({ frames := 1, cells := 0, slots := 0, locals := 21 }) [.ref (aB B1 30), .int x] σ P) (fun Q => MI B2 yX8_reads cX8_reads 4 (some .int) ({ frames := 2, cells := 0, slots := 0, locals := 42 }) [.ref (aB B2 0), .int x] μ δ Q) := by
  obtain ⟨T, hR⟩ := h
  have hg := hR.1.2.2
  have hTR := hR.1.2.1
  have hi := hg.1
  have em : up1 μ 1 (en (hs σ 0) T) = μ := by rw [← hR.1.1, up1_self]
  have c := c_X7_reads B1 σ (RS9 hR) x
  have m := c_X8_reads B2 μ δ (hs σ 0) T σ hR.2.2.1 x
  rw [em] at m
  refine ⟨_, _, c, m, ?_⟩
  rintro r σ' r' μ' δ' ⟨rfl, rfl⟩ ⟨rfl, rfl, rfl⟩
  exact ⟨rfl, T, hR⟩
theorem pour_e {σ : ST} (x : Int32) : (aPour σ x).1 = (mPour σ (hs σ 0) x).1 ∧ (∀ f, f < 10 → hs (aPour σ x).2 0 f = (mPour σ (hs σ 0) x).2 f) ∧ ∀ q, 10 ≤ q → (aPour σ x).2 q = σ q := by
  unfold aPour mPour
  split
  · split
    · exact ⟨rfl, fun _ _ => rfl, fun _ _ => rfl⟩
    · refine ⟨rfl, fun f hf => ?_, fun q hq => up1_n (by omega)⟩
      show up1 σ 6 _ (10 * 0 + f) = up1 (hs σ 0) 6 _ f
      rw [show 10 * 0 + f = f by omega]
      by_cases q : f = 6
      · rw [q, up1_s, up1_s]
        rfl
      · rw [up1_n q, up1_n q]
        show σ f = σ (10 * 0 + f)
        rw [show 10 * 0 + f = f by omega]
  · exact ⟨rfl, fun _ _ => rfl, fun _ _ => rfl⟩
theorem g_pour {σ : ST} {h : HT} (hg : GH h) (x : Int32) : Gd3 h (mPour σ h x).2 := by
  unfold mPour
  split
  · split
    · exact Gd3.rf hg
    · show Gd3 h (up1 h 6 (prH σ h (ix x)).1)
      exact ⟨hg.pour, up1_n (show 9 ≠ 6 by decide), by rw [up1_n (show 0 ≠ 6 by decide)]⟩
  · exact Gd3.rf hg
theorem st_pour (B1 B2 : BT) {σ μ : ST} (δ : Nat → Int64) (h : Rel σ μ) (x : Int32) : BothP (fun P => CI B1 yX7_pour cX7_pour 6 (some .int) ({ frames := 3, cells := 0, slots := 0, locals := 106 }) [.ref (aB B1 30), .int x] σ P) (fun Q => MI B2 yX8_pour cX8_pour 6 (some .int) ({ frames := 2, cells := 0, slots := 0, locals := 42 }) [.ref (aB B2 0), .int x] μ δ Q) := by
  obtain ⟨T, hR⟩ := h
  have hg := hR.1.2.2
  have hTR := hR.1.2.1
  have hi := hg.1
  have em : up1 μ 1 (en (hs σ 0) T) = μ := by rw [← hR.1.1, up1_self]
  have c := c_X7_pour B1 σ (RS9 hR) x
  have m := c_X8_pour B2 μ δ (hs σ 0) T σ hR.2.2.1 x
  rw [em] at m
  refine ⟨_, _, c, m, ?_⟩
  rintro r σ' r' μ' δ' ⟨rfl, rfl⟩ ⟨rfl, rfl, rfl⟩
  obtain ⟨p1, p2, p3⟩ := pour_e (σ := σ) x
  obtain ⟨g1, g2, g3⟩ := g_pour (σ := σ) hg x
  exact ⟨p1, T, hR.house (fun q hq => p3 q (by omega)) (fun q hq => up1_n (by omega)) p2 up1_s g1 g2 g3⟩
theorem st_tell (B1 B2 : BT) {σ μ : ST} (δ : Nat → Int64) (h : Rel σ μ) (v : Int32) : BothP (fun P => CI B1 yX7_tell cX7_tell 2 (some .int) ({ frames := 0, cells := 0, slots := 0, locals := 0 }) [.ref (aB B1 30), .int v] σ P) (fun Q => MI B2 yX8_tell cX8_tell 2 (some .int) ({ frames := 0, cells := 0, slots := 0, locals := 0 }) [.ref (aB B2 0), .int v] μ δ Q) := by
  obtain ⟨T, hR⟩ := h
  have hg := hR.1.2.2
  have hTR := hR.1.2.1
  have hi := hg.1
  have em : up1 μ 1 (en (hs σ 0) T) = μ := by rw [← hR.1.1, up1_self]
  obtain ⟨g77, w, g2, g3, g4⟩ := hR.2.2.2.2.2.1
  have c := c_X7_tell B1 σ ⟨w, g4, g2⟩ v
  have m := c_X8_tell B2 μ δ w g3 g4 v
  refine ⟨_, _, c, m, ?_⟩
  rintro r σ' r' μ' δ' ⟨rfl, rfl⟩ ⟨e1, rfl⟩
  by_cases w6 : w < 60
  · rw [if_pos w6] at e1
    obtain ⟨rfl, rfl⟩ := Prod.mk.inj e1
    have e2 : aTell σ v = (nI (w + 1), up2 (up2 σ 77 w v) 30 11 (nI (w + 1))) := by
      unfold aTell
      rw [g2, if_pos (show nI w < (60 : Int32) from nI_lt (b := 60) w6 (by decide)), nI_1, ix_n (by omega)]
    rw [e2]
    show _ = _ ∧ Rel (up2 (up2 σ 77 w v) 30 11 (nI (w + 1))) (up2 (up2 μ 23 w v) 0 34 (nI (w + 1)))
    obtain ⟨k0, k1, k2⟩ := hR.rest (σ' := up2 (up2 σ 77 w v) 30 11 (nI (w + 1))) (μ' := up2 (up2 μ 23 w v) 0 34 (nI (w + 1))) (fun q hq => by rw [up2_n (by omega), up2_n (by omega)]) (by rw [up2_s, upd_n (by decide), up2_n (by decide)]) (by rw [up2_s, upd_n (by decide), up2_n (by decide)]) (by rw [up2_n (by decide), up2_n (by decide)]) (by rw [up2_n (by decide), up2_n (by decide)]) (fun q hq => by rw [up2_n (by omega), up2_n (by omega)])
    refine ⟨rfl, T, k0, k1, hR.2.2.1.fr (fun q h1 h2 => by rw [up2_n (by omega), up2_n (by omega)]) (fun q h1 h2 => by rw [up2_n (by omega), up2_n (by omega)]), hR.2.2.2.1.fr (fun q h1 h2 => by rw [up2_n (by omega), up2_n (by omega)]) (fun q h1 h2 => by rw [up2_n (by omega), up2_n (by omega)]), ?_, ⟨?_, w + 1, ?_, ?_, by omega⟩, k2⟩
    · obtain ⟨f1, n, f2, f3, f4⟩ := hR.2.2.2.2.1
      refine ⟨by rw [up2_n (by decide), up2_n (by decide), up2_n (by decide), up2_n (by decide)]; exact f1, n, by rw [up2_n (by decide), up2_n (by decide)]; exact f2, by rw [up2_s, upd_n (by decide), up2_n (by decide)]; exact f3, f4⟩
    · rw [up2_n (by decide), up2_s, up2_n (by decide), up2_s, g77]
    · rw [up2_s, upd_s]
    · rw [up2_s, upd_s]
  · rw [if_neg w6] at e1
    obtain ⟨rfl, rfl⟩ := Prod.mk.inj e1
    have e2 : aTell σ v = (-1000000003, σ) := by
      unfold aTell
      rw [g2, if_neg (fun z : nI w < (60 : Int32) => w6 (n_lt (b := 60) (by omega) (by decide) z))]
    rw [e2]
    exact ⟨rfl, T, hR⟩
theorem st_trim (B1 B2 : BT) {σ μ : ST} (δ : Nat → Int64) (h : Rel σ μ) (v : Int32) : BothP (fun P => CI B1 yX7_trim cX7_trim 2 (some .int) ({ frames := 0, cells := 0, slots := 0, locals := 0 }) [.ref (aB B1 30), .int v] σ P) (fun Q => MI B2 yX8_trim cX8_trim 2 (some .int) ({ frames := 1, cells := 0, slots := 0, locals := 22 }) [.ref (aB B2 0), .int v] μ δ Q) := by
  obtain ⟨T, hR⟩ := h
  have hg := hR.1.2.2
  have hTR := hR.1.2.1
  have hi := hg.1
  have em : up1 μ 1 (en (hs σ 0) T) = μ := by rw [← hR.1.1, up1_self]
  obtain ⟨f1, n, f2, f3, f4⟩ := hR.2.2.2.2.1
  have c := c_X7_trim B1 σ v
  have m := c_X8_trim B2 μ δ v
  refine ⟨_, _, c, m, ?_⟩
  rintro r σ' r' μ' δ' ⟨rfl, rfl⟩ ⟨e1, rfl⟩
  by_cases q : ¬ v < 0 ∧ v ≤ σ 32 1
  · have q' : ¬ v < 0 ∧ v ≤ μ 0 8 := by rw [f3, ← f2]; exact q
    rw [if_pos q'] at e1
    obtain ⟨rfl, rfl⟩ := Prod.mk.inj e1
    rw [show aTrim σ r' = (r', up2 σ 32 1 r') from if_pos q]
    obtain ⟨j, hj, rfl⟩ := nI_of q.1
    have q2 := q.2
    rw [f2] at q2
    have hjn := n_le hj (by omega) q2
    show _ = _ ∧ Rel (up2 σ 32 1 (nI j)) (up2 μ 0 8 (nI j))
    obtain ⟨k0, k1, k2⟩ := hR.rest (σ' := up2 σ 32 1 (nI j)) (μ' := up2 μ 0 8 (nI j)) (fun q hq => by rw [up2_n (by omega)]) (by rw [up2_n (by decide)]) (by rw [up2_s, upd_n (by decide)]) (by rw [up2_n (by decide)]) (by rw [up2_n (by decide)]) (fun q hq => by rw [up2_n (by omega)])
    refine ⟨rfl, T, k0, k1, hR.2.2.1.fr (fun q h1 h2 => up2_n (by omega)) (fun q h1 h2 => up2_n (by omega)), hR.2.2.2.1.fr (fun q h1 h2 => up2_n (by omega)) (fun q h1 h2 => up2_n (by omega)), ⟨by rw [up2_n (by decide), up2_n (by decide)]; exact f1, j, by rw [up2_s, upd_s], by rw [up2_s, upd_s], by omega⟩, ?_, k2⟩
    obtain ⟨g1, w, g2, g3, g4⟩ := hR.2.2.2.2.2.1
    exact ⟨by rw [up2_n (by decide), up2_n (by decide)]; exact g1, w, by rw [up2_n (by decide)]; exact g2, by rw [up2_s, upd_n (by decide)]; exact g3, g4⟩
  · have q' : ¬ (¬ v < 0 ∧ v ≤ μ 0 8) := by rw [f3, ← f2]; exact q
    rw [if_neg q'] at e1
    obtain ⟨rfl, rfl⟩ := Prod.mk.inj e1
    rw [show aTrim σ v = (-1000000001, σ) from if_neg q]
    exact ⟨rfl, T, hR⟩
theorem st_feed (B1 B2 : BT) {σ μ : ST} (δ : Nat → Int64) (h : Rel σ μ) (a b c : Int32) : BothP (fun P => CI B1 yX7_feed cX7_feed 4 (some .int) ({ frames := 1, cells := 0, slots := 0, locals := 22 }) [.ref (aB B1 30), .int a, .int b, .int c] σ P) (fun Q => MI B2 yX8_feed cX8_feed 6 (some .int) ({ frames := 0, cells := 0, slots := 0, locals := 0 }) [.ref (aB B2 0), .int a, .int b, .int c] μ δ Q) := by
  obtain ⟨T, hR⟩ := h
  have hg := hR.1.2.2
  have hTR := hR.1.2.1
  have hi := hg.1
  have em : up1 μ 1 (en (hs σ 0) T) = μ := by rw [← hR.1.1, up1_self]
  obtain ⟨f1, n, f2, f3, f4⟩ := hR.2.2.2.2.1
  have cc := c_X7_feed B1 σ n f2 f4 a b c
  have m := c_X8_feed B2 μ δ n f3 f4 a b c
  refine ⟨_, _, cc, m, ?_⟩
  intro r σ' r' μ' δ' e0 hq
  obtain ⟨e1, rfl⟩ := hq
  by_cases q : n + 12 ≤ 96
  · rw [if_pos q] at e1
    have e0 : (r, σ') = (nI (n + 12), fdS σ n a b c) := e0.trans (if_pos q)
    obtain ⟨rfl, rfl⟩ := Prod.mk.inj e1
    obtain ⟨rfl, rfl⟩ := Prod.mk.inj e0
    have es : fdS σ n a b c = up1 (up2 σ 32 1 (nI (n + 12))) 33 (by4 (by4 (by4 (μ 7) n a 4) (n + 4) b 4) (n + 8) c 4) := by unfold fdS; rw [f1]
    rw [es]
    obtain ⟨k0, k1, k2⟩ := hR.rest (σ' := up1 (up2 σ 32 1 (nI (n + 12))) 33 (by4 (by4 (by4 (μ 7) n a 4) (n + 4) b 4) (n + 8) c 4)) (μ' := up2 (up1 μ 7 (by4 (by4 (by4 (μ 7) n a 4) (n + 4) b 4) (n + 8) c 4)) 0 8 (nI (n + 12))) (fun q hq => by rw [up1_n (by omega), up2_n (by omega)]) (by rw [up1_n (by decide), up2_n (by decide)]) (by rw [up2_s, upd_n (by decide), up1_n (by decide)]) (by rw [up2_n (by decide), up1_n (by decide)]) (by rw [up2_n (by decide), up1_n (by decide)]) (fun q hq => by rw [up2_n (by omega), up1_n (by omega)])
    refine ⟨rfl, T, k0, k1, hR.2.2.1.fr (fun q h1 h2 => by rw [up1_n (by omega), up2_n (by omega)]) (fun q h1 h2 => by rw [up2_n (by omega), up1_n (by omega)]), hR.2.2.2.1.fr (fun q h1 h2 => by rw [up1_n (by omega), up2_n (by omega)]) (fun q h1 h2 => by rw [up2_n (by omega), up1_n (by omega)]), ⟨by rw [up1_s, up2_n (by decide), up1_s], n + 12, by rw [up1_n (by decide), up2_s, upd_s], by rw [up2_s, upd_s], q⟩, ?_, k2⟩
    obtain ⟨g1, w, g2, g3, g4⟩ := hR.2.2.2.2.2.1
    exact ⟨by rw [up1_n (by decide), up2_n (by decide), up2_n (by decide), up1_n (by decide)]; exact g1, w, by rw [up1_n (by decide), up2_n (by decide)]; exact g2, by rw [up2_s, upd_n (by decide), up1_n (by decide)]; exact g3, g4⟩
  · rw [if_neg q] at e1
    have e0 : (r, σ') = (-1000000003, σ) := e0.trans (if_neg q)
    obtain ⟨rfl, rfl⟩ := Prod.mk.inj e1
    obtain ⟨rfl, rfl⟩ := Prod.mk.inj e0
    exact ⟨rfl, T, hR⟩
theorem st_keep (B1 B2 : BT) {σ μ : ST} (δ : Nat → Int64) (h : Rel σ μ) : BothP (fun P => CI B1 yX7_keep cX7_keep 1 (some .int) ({ frames := 3, cells := 0, slots := 0, locals := 126 }) [.ref (aB B1 30)] σ P) (fun Q => MI B2 yX8_keep cX8_keep 1 (some .int) ({ frames := 1, cells := 0, slots := 0, locals := 22 }) [.ref (aB B2 0)] μ δ Q) := by
  obtain ⟨T, hR⟩ := h
  have hg := hR.1.2.2
  have hTR := hR.1.2.1
  have hi := hg.1
  have em : up1 μ 1 (en (hs σ 0) T) = μ := by rw [← hR.1.1, up1_self]
  have c := c_X7_keep B1 σ
  have m := c_X8_keep B2 μ δ
  refine ⟨_, _, c, m, ?_⟩
  rintro r σ' r' μ' δ' ⟨rfl, rfl⟩ ⟨rfl, rfl, rfl⟩
  obtain ⟨⟨a1, a2, a3⟩, ⟨b1, b2⟩, c1, d1, ⟨f1, n, f2, f3, f4⟩, ⟨g1, w, g2, g3, g4⟩, k1⟩ := hR
  have eo : ∀ q, q ≠ 30 → (q < 10 ∨ 20 ≤ q) → aKeep σ q = σ q := fun q h1 h2 => by unfold aKeep; rw [up2_n h1]; exact if_neg (by omega)
  have e30 : ∀ i, i ≠ 2 → aKeep σ 30 i = σ 30 i := fun i h1 => by unfold aKeep; rw [up2_s, upd_n h1]; rfl
  have n0 : ∀ f, f < 10 → hs (aKeep σ) 0 f = hs σ 0 f := fun f hf => eo (10 * 0 + f) (by omega) (Or.inl (by omega))
  have n1 : ∀ f, f < 10 → hs (aKeep σ) 1 f = hs σ 0 f := fun f hf => by
    show aKeep σ (10 * 1 + f) = _
    unfold aKeep
    rw [up2_n (by omega)]
    exact sH_at hf
  have hTR' : ∀ h', h' 0 14 = hs σ 0 0 14 → h' 9 = hs σ 0 9 → TR (aKeep σ) h' T := fun h' q1 q2 => TR_f a2 q1 q2 (eo 36 (by decide) (by decide)) (eo 37 (by decide) (by decide)) (eo 38 (by decide) (by decide)) (fun t ht => eo _ (by omega) (Or.inr (by omega)))
  refine ⟨by rw [a1]; rfl, T, ⟨by rw [up2_n (by decide), up1_n (by decide), a1]; exact (en_x n0).symm, hTR' _ (by rw [n0 0 (by decide)]) (by rw [n0 9 (by decide)]), GH_x a3 n0⟩, ⟨by unfold aKeep; rw [up2_s, upd_s, up2_s, upd_s], fun _ => ⟨T, by rw [up2_n (by decide), up1_s, a1]; exact (en_x n1).symm, hTR' _ (by rw [n1 0 (by decide)]) (by rw [n1 9 (by decide)]), GH_x a3 n1, by rw [n1 0 (by decide), n0 0 (by decide)]; exact Nat.le_refl _⟩⟩, c1.fr (fun q h1 h2 => eo q (by omega) (by omega)) (fun q h1 h2 => by rw [up2_n (by omega), up1_n (by omega)]), d1.fr (fun q h1 h2 => eo q (by omega) (by omega)) (fun q h1 h2 => by rw [up2_n (by omega), up1_n (by omega)]), ⟨by rw [eo 33 (by decide) (by decide), up2_n (by decide), up1_n (by decide)]; exact f1, n, by rw [eo 32 (by decide) (by decide)]; exact f2, by rw [up2_s, upd_n (by decide), up1_n (by decide)]; exact f3, f4⟩, ⟨by rw [eo 77 (by decide) (by decide), up2_n (by decide), up1_n (by decide)]; exact g1, w, by rw [e30 11 (by decide)]; exact g2, by rw [up2_s, upd_n (by decide), up1_n (by decide)]; exact g3, g4⟩, k1.fr (fun q hq => by rw [up2_n (by omega), up1_n (by omega)])⟩
theorem st_back (B1 B2 : BT) {σ μ : ST} (δ : Nat → Int64) (h : Rel σ μ) : BothP (fun P => CI B1 yX7_back cX7_back 1 (some .int) ({ frames := 3, cells := 0, slots := 0, locals := 126 }) [.ref (aB B1 30)] σ P) (fun Q => MI B2 yX8_back cX8_back 1 (some .int) ({ frames := 1, cells := 0, slots := 0, locals := 22 }) [.ref (aB B2 0)] μ δ Q) := by
  obtain ⟨T, hR⟩ := h
  have hg := hR.1.2.2
  have hTR := hR.1.2.1
  have hi := hg.1
  have em : up1 μ 1 (en (hs σ 0) T) = μ := by rw [← hR.1.1, up1_self]
  have c := c_X7_back B1 σ
  have m := c_X8_back B2 μ δ
  refine ⟨_, _, c, m, ?_⟩
  rintro r σ' r' μ' δ' ⟨rfl, rfl⟩ ⟨e0, rfl⟩
  obtain ⟨⟨a1, a2, a3⟩, ⟨b1, b2⟩, c1, d1, f1, g1, k1⟩ := id hR
  by_cases q : σ 30 2 = 0
  · rw [if_pos (by rw [← b1]; exact q)] at e0
    obtain ⟨rfl, rfl⟩ := Prod.mk.inj e0
    rw [show aBack σ = (-1000000002, σ) from if_pos q]
    exact ⟨rfl, T, hR⟩
  · rw [if_neg (by rw [← b1]; exact q)] at e0
    obtain ⟨rfl, rfl⟩ := Prod.mk.inj e0
    rw [show aBack σ = (σ 10 0, sH σ 0 (hs σ 1)) from if_neg q]
    obtain ⟨Ti, i1, i2, i3, i4⟩ := b2 q
    have eo : ∀ q, 10 ≤ q → sH σ 0 (hs σ 1) q = σ q := fun q h1 => if_neg (by omega)
    have n0 : ∀ f, f < 10 → hs (sH σ 0 (hs σ 1)) 0 f = hs σ 1 f := fun f hf => show sH σ 0 (hs σ 1) (10 * 0 + f) = hs σ 1 f from sH_at hf
    have n1 : ∀ f, f < 10 → hs (sH σ 0 (hs σ 1)) 1 f = hs σ 1 f := fun f hf => eo (10 * 1 + f) (by omega)
    have hTR' : ∀ h', h' 0 14 = hs σ 1 0 14 → h' 9 = hs σ 1 9 → TR (sH σ 0 (hs σ 1)) h' Ti := fun h' q1 q2 => TR_f i2 q1 q2 (eo 36 (by decide)) (eo 37 (by decide)) (eo 38 (by decide)) (fun t ht => eo _ (by omega))
    show _ = _ ∧ Rel (sH σ 0 (hs σ 1)) (up1 μ 1 (μ 2))
    refine ⟨by rw [i1]; rfl, Ti, ⟨by rw [up1_s, i1]; exact (en_x n0).symm, hTR' _ (by rw [n0 0 (by decide)]) (by rw [n0 9 (by decide)]), GH_x i3 n0⟩, ⟨by rw [eo 30 (by decide), up1_n (by decide)]; exact b1, fun _ => ⟨Ti, by rw [up1_n (by decide), i1]; exact (en_x n1).symm, hTR' _ (by rw [n1 0 (by decide)]) (by rw [n1 9 (by decide)]), GH_x i3 n1, by rw [n1 0 (by decide), n0 0 (by decide)]; exact Nat.le_refl _⟩⟩, c1.fr (fun q h1 h2 => eo q (by omega)) (fun q h1 h2 => up1_n (by omega)), d1.fr (fun q h1 h2 => eo q (by omega)) (fun q h1 h2 => up1_n (by omega)), ?_, ?_, k1.fr (fun q hq => up1_n (by omega))⟩
    · unfold R4
      rw [eo 33 (by decide), eo 32 (by decide), up1_n (by decide), up1_n (by decide)]
      exact f1
    · unfold R5
      rw [eo 77 (by decide), eo 30 (by decide), up1_n (by decide), up1_n (by decide)]
      exact g1
theorem st_check (B1 B2 : BT) {σ μ : ST} (δ : Nat → Int64) (h : Rel σ μ) (n : Int32) : BothP (fun P => CI B1 yX7_check cX7_check 6 (some .int) ({ frames := 6, cells := 0, slots := 0, locals := 178 }) [.ref (aB B1 30), .int n] σ P) (fun Q => MI B2 yX8_check cX8_check 6 (some .int) ({ frames := 5, cells := 0, slots := 0, locals := 117 }) [.ref (aB B2 0), .int n] μ δ Q) := by
  obtain ⟨T, hR⟩ := h
  have hg := hR.1.2.2
  have hTR := hR.1.2.1
  have hi := hg.1
  have em : up1 μ 1 (en (hs σ 0) T) = μ := by rw [← hR.1.1, up1_self]
  obtain ⟨⟨a1, a2, a3⟩, ⟨b1, b2⟩, c1, d1, f1, ⟨g1, w, g2, g3, g4⟩, k1⟩ := id hR
  obtain ⟨H, hH, hH9⟩ : ∃ H, (σ 30 2 ≠ 0 → σ 10 12 = nI H) ∧ H ≤ 9999 := by
    by_cases q : σ 30 2 = 0
    · exact ⟨0, fun z => absurd q z, by omega⟩
    · obtain ⟨Ti, i1, i2, ⟨-, H, s, e1, e2, -⟩, i4⟩ := b2 q
      exact ⟨H, fun _ => e1, e2⟩
  have c := c_X7_check B1 σ (fun q => by obtain ⟨Ti, i1, i2, i3, i4⟩ := b2 q; exact i3.1) (fun q => by obtain ⟨Ti, i1, i2, i3, i4⟩ := b2 q; exact TR_CT i2 (key := 0) (by decide)) H hH hH9 w g2 g4 n
  obtain ⟨Ti, hTi⟩ : ∃ Ti, ¬ σ 30 2 = 0 → μ 2 = en (hs σ 1) Ti ∧ TR σ (hs σ 1) Ti ∧ HI (hs σ 1) ∧ ∃ H, hs σ 1 0 12 = nI H ∧ H ≤ 9999 := by
    by_cases q : σ 30 2 = 0
    · exact ⟨T, fun z => absurd q z⟩
    · obtain ⟨Ti, i1, i2, ⟨j0, H, s, e1, e2, -⟩, i4⟩ := b2 q
      exact ⟨Ti, fun _ => ⟨i1, i2, j0, H, e1, e2⟩⟩
  have m := c_X8_check B2 μ δ (hs σ 0) T σ Ti w g3 g2 g4 (fun j _ => by rw [g1]) b1 hTi n
  rw [em] at m
  refine ⟨_, _, c, m, ?_⟩
  rintro r σ' r' μ' δ' ⟨rfl, hJ⟩ ⟨rfl, μ2, hM, rfl, rfl⟩
  have eo : ∀ q, q ≠ 30 → (q < 20 ∨ (32 ≤ q ∧ q ≠ 39)) → σ' q = σ q := fun q h1 h2 => by rw [hJ q (by omega), up2_n h1]
  have e30 : σ' 30 = upd (σ 30) 11 0 := by rw [hJ 30 (by omega), up2_s]
  have mo : ∀ q, q ≠ 0 → q ≠ 1 → q ≠ 3 → q ≠ 13 → q ≠ 14 → up1 μ2 1 (en (hs σ 0) T) q = μ q := fun q h0 h1 h2 h3 h4 => by rw [up1_n h1, hM q h1 h2 h3 h4, up2_n h0]
  have m0 : up1 μ2 1 (en (hs σ 0) T) 0 = upd (μ 0) 34 0 := by rw [up1_n (by decide), hM 0 (by decide) (by decide) (by decide) (by decide), up2_s]
  obtain ⟨k0, k1, k2⟩ := hR.rest (σ' := σ') (μ' := up1 μ2 1 (en (hs σ 0) T)) (fun q hq => eo q (by omega) (by omega)) (by rw [e30, upd_n (by decide)]) (by rw [m0, upd_n (by decide)]) (by rw [up1_s, a1]) (mo 2 (by decide) (by decide) (by decide) (by decide) (by decide)) (fun q hq => mo q (by omega) (by omega) (by omega) (by omega) (by omega))
  refine ⟨rfl, T, k0, k1, c1.fr (fun q h1 h2 => eo q (by omega) (by omega)) (fun q h1 h2 => mo q (by omega) (by omega) (by omega) (by omega) (by omega)), d1.fr (fun q h1 h2 => eo q (by omega) (by omega)) (fun q h1 h2 => mo q (by omega) (by omega) (by omega) (by omega) (by omega)), ?_, ⟨by rw [eo 77 (by decide) (by decide), mo 23 (by decide) (by decide) (by decide) (by decide) (by decide)]; exact g1, 0, by rw [e30, upd_s]; rfl, by rw [m0, upd_s]; rfl, by omega⟩, k2⟩
  obtain ⟨h1, n2, h2, h3, h4⟩ := f1
  exact ⟨by rw [eo 33 (by decide) (by decide), mo 7 (by decide) (by decide) (by decide) (by decide) (by decide)]; exact h1, n2, by rw [eo 32 (by decide) (by decide)]; exact h2, by rw [m0, upd_n (by decide)]; exact h3, h4⟩
