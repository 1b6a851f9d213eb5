/-! the model thinks, and puts back -/
theorem MW_4 {μ : ST} {stk fc b : Nat → Int32} {h : HT} {T : Nat → Int32} : up1 (up1 (up1 (up1 μ 13 stk) 14 fc) 4 b) 1 (en h T) = MW (up1 μ 4 b) stk fc h T := by
  unfold MW
  rw [up1_comm (p := 14) (q := 4) (by decide), up1_comm (p := 13) (q := 4) (by decide)]
theorem MW4_J {μ : ST} {stk fc b : Nat → Int32} {h : HT} {T : Nat → Int32} : ∃ μ2, Jm μ μ2 ∧ MW (up1 μ 4 b) stk fc h T = up1 μ2 1 (en h T) := ⟨up1 (up1 (up1 μ 4 b) 13 stk) 14 fc, fun q h1 h2 h3 _ => by rw [up1_n h2, up1_n h1, up1_n h3], rfl⟩
theorem w_thinks (B : BT) (μ : ST) (δ : Nat → Int64) (stk fc : Nat → Int32) (h : HT) (T : Nat → Int32) : MV B yX8_thinks cX8_thinks 2 none ({ frames := 0, cells := 0, slots := 0, locals := 0 }) [.ref (aB B 0)] (MW μ stk fc h T) δ (fun μ' δ' => μ' = MW (up1 μ 4 (en h T)) stk fc h T ∧ δ' = δ) := by
  have z := c_X8_thinks B (up1 (up1 μ 13 stk) 14 fc) δ h T (up1 (up1 μ 13 stk) 14 fc 4)
  rw [up1_self] at z
  refine MX.mono z (fun v ce' hp => ?_)
  obtain ⟨μ', δ', e1, e2, e3, e4⟩ := hp
  exact ⟨μ', δ', e1, e2, e3.trans MW_4, e4⟩
theorem w_putsBack (B : BT) (μ : ST) (δ : Nat → Int64) (stk fc : Nat → Int32) (h : HT) (T : Nat → Int32) (h' : HT) : MV B yX8_putsBack cX8_putsBack 2 none ({ frames := 0, cells := 0, slots := 0, locals := 0 }) [.ref (aB B 0)] (MW (up1 μ 4 (en h T)) stk fc h' T) δ (fun μ' δ' => μ' = MW (up1 μ 4 (en h T)) stk fc h T ∧ δ' = δ) := by
  have z := c_X8_putsBack B (up1 (up1 μ 13 stk) 14 fc) δ h T h'
  rw [MW_4] at z
  refine MX.mono z (fun v ce' hp => ?_)
  obtain ⟨μ', δ', e1, e2, e3, e4⟩ := hp
  exact ⟨μ', δ', e1, e2, e3.trans MW_4, e4⟩
