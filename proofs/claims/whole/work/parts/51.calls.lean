/-! one call, in both -/
def BothP (C : (Int32 → ST → Prop) → Prop) (M : (Int32 → ST → (Nat → Int64) → Prop) → Prop) : Prop := ∃ (P : Int32 → ST → Prop) (Q : Int32 → ST → (Nat → Int64) → Prop), C P ∧ M Q ∧ ∀ r σ' r' μ' δ', P r σ' → Q r' μ' δ' → r = r' ∧ Rel σ' μ'
theorem isR_lim {v : Int32} (h : isR v = true) : rg v 0 9 := by
  obtain ⟨d, hd, rfl⟩ := isR_of h
  exact rg_nI (Nat.zero_le _) (by omega)
theorem le_rg {v : Int32} {m : Nat} (hm : m < 2 ^ 31) (h : ¬ v < 0 ∧ ¬ nI m < v) : rg v 0 m := by
  obtain ⟨j, hj, rfl⟩ := nI_of h.1
  exact rg_nI (Nat.zero_le _) (n_nlt hm hj h.2)
def Gd3 (h h' : HT) : Prop := GH h' ∧ h' 9 = h 9 ∧ h' 0 14 = h 0 14
theorem Gd3.rf {h : HT} (hg : GH h) : Gd3 h h := ⟨hg, rfl, rfl⟩
theorem Gd3.up {h : HT} (hg : GH h) {f k : Nat} {v : Int32} (h0 : f ≠ 0) (h9 : f ≠ 9) (hv : lim f ≠ 0 → rg v 0 (lim f)) : Gd3 h (up2 h f k v) := ⟨hg.up h0 hv, up2_n h9.symm, by rw [up2_n h0.symm]⟩
theorem Gd3.up0 {h : HT} (hg : GH h) {k : Nat} {v : Int32} (h0 : k ≠ 0 ∧ k ≠ 10 ∧ k ≠ 12) (h14 : k ≠ 14) : Gd3 h (up2 h 0 k v) := ⟨hg.up0 h0, up2_n (by decide), by rw [up2_s, upd_n h14.symm]⟩
theorem g_dancer {h : HT} (hg : GH h) (kd ar so st : Int32) : Gd3 h (aDancer h kd ar so st).2 := by
  unfold aDancer
  split
  · rename_i hc
    split
    · rename_i h12
      have hn := hg.1.n
      rw [hn.2] at h12
      exact ⟨hg.join (n_lt (b := 12) (by omega) (by decide) h12) (isR_lim hc.2.1) (le_rg (m := 999) (by decide) (dk.mpr hc.2.2.1)) (le_rg (m := 5) (by decide) (dk.mpr hc.2.2.2)), (show sJoin h kd ar so st 9 = h 9 from sJoin_f (by decide)), (show sJoin h kd ar so st 0 14 = h 0 14 from sJoin_0 (by decide))⟩
    · exact Gd3.rf hg
  · exact Gd3.rf hg
theorem g_turns {h : HT} (hg : GH h) (x kd : Int32) : Gd3 h (aTurns h x kd).2 := by
  unfold aTurns
  split
  · exact Gd3.up hg (by decide) (by decide) (fun q => absurd rfl q)
  · exact Gd3.rf hg
theorem g_set {h : HT} (hg : GH h) (x w v : Int32) : Gd3 h (aSet h x w v).2 := by
  unfold aSet
  split
  · split
    · rename_i hc
      exact Gd3.up hg (by decide) (by decide) (fun _ => isR_lim hc.2)
    · split
      · rename_i hc
        exact Gd3.up hg (by decide) (by decide) (fun _ => le_rg (m := 999) (by decide) (dk.mpr hc.2))
      · split
        · rename_i hc
          exact Gd3.up hg (by decide) (by decide) (fun _ => le_rg (m := 5) (by decide) (dk.mpr hc.2))
        · exact Gd3.rf hg
  · exact Gd3.rf hg
theorem g_room {h : HT} (hg : GH h) (p w v : Int32) : Gd3 h (aRoom h p w v).2 := by
  unfold aRoom
  split
  · split
    · rename_i hc
      exact Gd3.up hg (by decide) (by decide) (fun _ => le_rg (m := 9) (by decide) hc.2)
    · split
      · rename_i hc
        exact Gd3.up hg (by decide) (by decide) (fun _ => isR_lim hc.2)
      · exact Gd3.rf hg
  · exact Gd3.rf hg
theorem g_sweep {h : HT} (hg : GH h) (p : Int32) : Gd3 h (aSweep h p).2 := by
  unfold aSweep
  split
  · exact Gd3.up hg (by decide) (by decide) (fun q => absurd rfl q)
  · exact Gd3.rf hg
theorem g_watch {h : HT} (hg : GH h) (v : Int32) : Gd3 h (aWatch h v).2 := by
  unfold aWatch
  split
  · exact Gd3.up0 hg (by decide) (by decide)
  · exact Gd3.rf hg
theorem g_seed {h : HT} (hg : GH h) (v : Int32) : Gd3 h (aSeed h v).2 := Gd3.up0 hg (by decide) (by decide)
theorem g_deal {h : HT} (hg : GH h) (n : Int32) : Gd3 h (aDeal h n).2 := by
  unfold aDeal
  split
  · have h1 : sN h + aDealN h n ≤ 12 := by
      have := hg.1.n.1
      unfold aDealN
      omega
    have h2 := sLots_o (h := h) (aDealN h n)
    exact ⟨hg.lots _ h1, h2.1, h2.2⟩
  · exact Gd3.rf hg
theorem g_hours {g : WT} (hgr : GR g) {h : HT} (hg : GH h) (n : Int32) : Gd3 h (aHours g h n).2 := by
  unfold aHours
  split
  · refine ⟨hg.hours hgr ?_, sHours_9, sHours_14⟩
    obtain ⟨-, H, s, e1, e2, -⟩ := hg
    unfold aHoursN
    rw [e1, ix_n (by omega)]
    omega
  · exact Gd3.rf hg
theorem st_dancer (B1 B2 : BT) {σ μ : ST} (δ : Nat → Int64) (h : Rel σ μ) (kd ar so st : Int32) : BothP (fun P => CI B1 yX7_dancer cX7_dancer 5 (some .int) ({ frames := 1, cells := 0, slots := 0, locals := 25 }) [.ref (aB B1 30), .int kd, .int ar, .int so, .int st] σ P) (fun Q => MI B2 yX8_dancer cX8_dancer 5 (some .int) ({ frames := 2, cells := 0, slots := 0, locals := 48 }) [.ref (aB B2 0), .int kd, .int ar, .int so, .int st] μ δ Q) := by
  obtain ⟨T, hR⟩ := h
  have hg := hR.1.2.2
  have hTR := hR.1.2.1
  have hi := hg.1
  have c := c_X7_dancer B1 σ (hs σ 0) hi kd ar so st
  rw [sH_hs] at c
  have m := c_X8_dancer B2 μ δ (hs σ 0) T hi kd ar so st
  rw [← hR.1.1, up1_self] at m
  refine ⟨_, _, c, m, ?_⟩
  rintro r σ' r' μ' δ' ⟨rfl, rfl⟩ ⟨rfl, rfl, rfl⟩
  obtain ⟨g1, g2, g3⟩ := g_dancer hg kd ar so st
  exact ⟨rfl, hR.hh Jk.rf Jm.rf g1 g2 g3⟩
theorem st_turns (B1 B2 : BT) {σ μ : ST} (δ : Nat → Int64) (h : Rel σ μ) (x kd : Int32) : BothP (fun P => CI B1 yX7_turns cX7_turns 3 (some .int) ({ frames := 1, cells := 0, slots := 0, locals := 23 }) [.ref (aB B1 30), .int x, .int kd] σ P) (fun Q => MI B2 yX8_turns cX8_turns 3 (some .int) ({ frames := 2, cells := 0, slots := 0, locals := 43 }) [.ref (aB B2 0), .int x, .int kd] μ δ Q) := by
  obtain ⟨T, hR⟩ := h
  have hg := hR.1.2.2
  have hTR := hR.1.2.1
  have hi := hg.1
  have c := c_X7_turns B1 σ (hs σ 0) hi x kd
  rw [sH_hs] at c
  have m := c_X8_turns B2 μ δ (hs σ 0) T hi x kd
  rw [← hR.1.1, up1_self] at m
  refine ⟨_, _, c, m, ?_⟩
  rintro r σ' r' μ' δ' ⟨rfl, rfl⟩ ⟨rfl, rfl, rfl⟩
  obtain ⟨g1, g2, g3⟩ := g_turns hg x kd
  exact ⟨rfl, hR.hh Jk.rf Jm.rf g1 g2 g3⟩
theorem st_set (B1 B2 : BT) {σ μ : ST} (δ : Nat → Int64) (h : Rel σ μ) (x w v : Int32) : BothP (fun P => CI B1 yX7_set cX7_set 4 (some .int) ({ frames := 1, cells := 0, slots := 0, locals := 23 }) [.ref (aB B1 30), .int x, .int w, .int v] σ P) (fun Q => MI B2 yX8_set cX8_set 4 (some .int) ({ frames := 2, cells := 0, slots := 0, locals := 43 }) [.ref (aB B2 0), .int x, .int w, .int v] μ δ Q) := by
  obtain ⟨T, hR⟩ := h
  have hg := hR.1.2.2
  have hTR := hR.1.2.1
  have hi := hg.1
  have c := c_X7_set B1 σ (hs σ 0) hi x w v
  rw [sH_hs] at c
  have m := c_X8_set B2 μ δ (hs σ 0) T hi x w v
  rw [← hR.1.1, up1_self] at m
  refine ⟨_, _, c, m, ?_⟩
  rintro r σ' r' μ' δ' ⟨rfl, rfl⟩ ⟨rfl, rfl, rfl⟩
  obtain ⟨g1, g2, g3⟩ := g_set hg x w v
  exact ⟨rfl, hR.hh Jk.rf Jm.rf g1 g2 g3⟩
theorem st_room (B1 B2 : BT) {σ μ : ST} (δ : Nat → Int64) (h : Rel σ μ) (p w v : Int32) : BothP (fun P => CI B1 yX7_room cX7_room 4 (some .int) ({ frames := 1, cells := 0, slots := 0, locals := 23 }) [.ref (aB B1 30), .int p, .int w, .int v] σ P) (fun Q => MI B2 yX8_room cX8_room 4 (some .int) ({ frames := 2, cells := 0, slots := 0, locals := 42 }) [.ref (aB B2 0), .int p, .int w, .int v] μ δ Q) := by
  obtain ⟨T, hR⟩ := h
  have hg := hR.1.2.2
  have hTR := hR.1.2.1
  have hi := hg.1
  have c := c_X7_room B1 σ (hs σ 0)  p w v
  rw [sH_hs] at c
  have m := c_X8_room B2 μ δ (hs σ 0) T  p w v
  rw [← hR.1.1, up1_self] at m
  refine ⟨_, _, c, m, ?_⟩
  rintro r σ' r' μ' δ' ⟨rfl, rfl⟩ ⟨rfl, rfl, rfl⟩
  obtain ⟨g1, g2, g3⟩ := g_room hg p w v
  exact ⟨rfl, hR.hh Jk.rf Jm.rf g1 g2 g3⟩
theorem st_sweep (B1 B2 : BT) {σ μ : ST} (δ : Nat → Int64) (h : Rel σ μ) (p : Int32) : BothP (fun P => CI B1 yX7_sweep cX7_sweep 2 (some .int) ({ frames := 1, cells := 0, slots := 0, locals := 23 }) [.ref (aB B1 30), .int p] σ P) (fun Q => MI B2 yX8_sweep cX8_sweep 2 (some .int) ({ frames := 2, cells := 0, slots := 0, locals := 42 }) [.ref (aB B2 0), .int p] μ δ Q) := by
  obtain ⟨T, hR⟩ := h
  have hg := hR.1.2.2
  have hTR := hR.1.2.1
  have hi := hg.1
  have c := c_X7_sweep B1 σ (hs σ 0)  p
  rw [sH_hs] at c
  have m := c_X8_sweep B2 μ δ (hs σ 0) T  p
  rw [← hR.1.1, up1_self] at m
  refine ⟨_, _, c, m, ?_⟩
  rintro r σ' r' μ' δ' ⟨rfl, rfl⟩ ⟨rfl, rfl, rfl⟩
  obtain ⟨g1, g2, g3⟩ := g_sweep hg p
  exact ⟨rfl, hR.hh Jk.rf Jm.rf g1 g2 g3⟩
theorem st_watch (B1 B2 : BT) {σ μ : ST} (δ : Nat → Int64) (h : Rel σ μ) (v : Int32) : BothP (fun P => CI B1 yX7_watch cX7_watch 3 (some .int) ({ frames := 0, cells := 0, slots := 0, locals := 0 }) [.ref (aB B1 30), .int v] σ P) (fun Q => MI B2 yX8_watch cX8_watch 2 (some .int) ({ frames := 1, cells := 0, slots := 0, locals := 23 }) [.ref (aB B2 0), .int v] μ δ Q) := by
  obtain ⟨T, hR⟩ := h
  have hg := hR.1.2.2
  have hTR := hR.1.2.1
  have hi := hg.1
  have c := c_X7_watch B1 σ (hs σ 0)  v
  rw [sH_hs] at c
  have m := c_X8_watch B2 μ δ (hs σ 0) T  v
  rw [← hR.1.1, up1_self] at m
  refine ⟨_, _, c, m, ?_⟩
  rintro r σ' r' μ' δ' ⟨rfl, rfl⟩ ⟨rfl, rfl, rfl⟩
  obtain ⟨g1, g2, g3⟩ := g_watch hg v
  exact ⟨rfl, hR.hh Jk.rf Jm.rf g1 g2 g3⟩
theorem st_seed (B1 B2 : BT) {σ μ : ST} (δ : Nat → Int64) (h : Rel σ μ) (v : Int32) : BothP (fun P => CI B1 yX7_seed cX7_seed 3 (some .int) ({ frames := 0, cells := 0, slots := 0, locals := 0 }) [.ref (aB B1 30), .int v] σ P) (fun Q => MI B2 yX8_seed cX8_seed 2 (some .int) ({ frames := 1, cells := 0, slots := 0, locals := 23 }) [.ref (aB B2 0), .int v] μ δ Q) := by
  obtain ⟨T, hR⟩ := h
  have hg := hR.1.2.2
  have hTR := hR.1.2.1
  have hi := hg.1
  have c := c_X7_seed B1 σ (hs σ 0)  v
  rw [sH_hs] at c
  have m := c_X8_seed B2 μ δ (hs σ 0) T  v
  rw [← hR.1.1, up1_self] at m
  refine ⟨_, _, c, m, ?_⟩
  rintro r σ' r' μ' δ' ⟨rfl, rfl⟩ ⟨rfl, rfl, rfl⟩
  obtain ⟨g1, g2, g3⟩ := g_seed hg v
  exact ⟨rfl, hR.hh Jk.rf Jm.rf g1 g2 g3⟩
theorem st_deal (B1 B2 : BT) {σ μ : ST} (δ : Nat → Int64) (h : Rel σ μ) (n : Int32) : BothP (fun P => CI B1 yX7_deal cX7_deal 4 (some .int) ({ frames := 2, cells := 0, slots := 0, locals := 85 }) [.ref (aB B1 30), .int n] σ P) (fun Q => MI B2 yX8_deal cX8_deal 7 (some .int) ({ frames := 2, cells := 0, slots := 0, locals := 48 }) [.ref (aB B2 0), .int n] μ δ Q) := by
  obtain ⟨T, hR⟩ := h
  have hg := hR.1.2.2
  have hTR := hR.1.2.1
  have hi := hg.1
  have c := c_X7_deal B1 σ (hs σ 0) hi n
  rw [sH_hs] at c
  have m := c_X8_deal B2 μ δ (hs σ 0) T hi n
  rw [← hR.1.1, up1_self] at m
  refine ⟨_, _, c, m, ?_⟩
  rintro r σ' r' μ' δ' ⟨rfl, rfl⟩ ⟨rfl, rfl, rfl⟩
  obtain ⟨g1, g2, g3⟩ := g_deal hg n
  exact ⟨rfl, hR.hh Jk.rf Jm.rf g1 g2 g3⟩
theorem st_as (B1 B2 : BT) {σ μ : ST} (δ : Nat → Int64) (h : Rel σ μ) (x kd : Int32) : BothP (fun P => CI B1 yX7_as cX7_as 3 (some .int) ({ frames := 1, cells := 0, slots := 0, locals := 21 }) [.ref (aB B1 30), .int x, .int kd] σ P) (fun Q => MI B2 yX8_as cX8_as 3 (some .int) ({ frames := 2, cells := 0, slots := 0, locals := 43 }) [.ref (aB B2 0), .int x, .int kd] μ δ Q) := by
  obtain ⟨T, hR⟩ := h
  have hg := hR.1.2.2
  have hTR := hR.1.2.1
  have hi := hg.1
  have c := c_X7_as B1 σ (hs σ 0) hi x kd
  rw [sH_hs] at c
  have m := c_X8_as B2 μ δ (hs σ 0) T hi x kd
  rw [← hR.1.1, up1_self] at m
  refine ⟨_, _, c, m, ?_⟩
  rintro r σ' r' μ' δ' ⟨rfl, rfl⟩ ⟨rfl, rfl, rfl⟩
  exact ⟨rfl, T, hR⟩
theorem st_at (B1 B2 : BT) {σ μ : ST} (δ : Nat → Int64) (h : Rel σ μ) (p : Int32) : BothP (fun P => CI B1 yX7_at cX7_at 2 (some .int) ({ frames := 1, cells := 0, slots := 0, locals := 23 }) [.ref (aB B1 30), .int p] σ P) (fun Q => MI B2 yX8_at cX8_at 2 (some .int) ({ frames := 2, cells := 0, slots := 0, locals := 45 }) [.ref (aB B2 0), .int p] μ δ Q) := by
  obtain ⟨T, hR⟩ := h
  have hg := hR.1.2.2
  have hTR := hR.1.2.1
  have hi := hg.1
  have c := c_X7_at B1 σ (hs σ 0) hi p
  rw [sH_hs] at c
  have m := c_X8_at B2 μ δ (hs σ 0) T hi p
  rw [← hR.1.1, up1_self] at m
  refine ⟨_, _, c, m, ?_⟩
  rintro r σ' r' μ' δ' ⟨rfl, rfl⟩ ⟨rfl, rfl, rfl⟩
  exact ⟨rfl, T, hR⟩
theorem st_round (B1 B2 : BT) {σ μ : ST} (δ : Nat → Int64) (h : Rel σ μ) (p : Int32) : BothP (fun P => CI B1 yX7_round cX7_round 2 (some .int) ({ frames := 1, cells := 0, slots := 0, locals := 24 }) [.ref (aB B1 30), .int p] σ P) (fun Q => MI B2 yX8_round cX8_round 4 (some .int) ({ frames := 2, cells := 0, slots := 0, locals := 42 }) [.ref (aB B2 0), .int p] μ δ Q) := by
  obtain ⟨T, hR⟩ := h
  have hg := hR.1.2.2
  have hTR := hR.1.2.1
  have hi := hg.1
  have c := c_X7_round B1 σ (hs σ 0) hi p
  rw [sH_hs] at c
  have m := c_X8_round B2 μ δ (hs σ 0) T hi p
  rw [← hR.1.1, up1_self] at m
  refine ⟨_, _, c, m, ?_⟩
  rintro r σ' r' μ' δ' ⟨rfl, rfl⟩ ⟨rfl, rfl, rfl⟩
  exact ⟨rfl, T, hR⟩
theorem st_to (B1 B2 : BT) {σ μ : ST} (δ : Nat → Int64) (h : Rel σ μ) (p s : Int32) : BothP (fun P => CI B1 yX7_to cX7_to 3 (some .int) ({ frames := 1, cells := 0, slots := 0, locals := 24 }) [.ref (aB B1 30), .int p, .int s] σ P) (fun Q => MI B2 yX8_to cX8_to 4 (some .int) ({ frames := 2, cells := 0, slots := 0, locals := 42 }) [.ref (aB B2 0), .int p, .int s] μ δ Q) := by
  obtain ⟨T, hR⟩ := h
  have hg := hR.1.2.2
  have hTR := hR.1.2.1
  have hi := hg.1
  have c := c_X7_to B1 σ (hs σ 0) hi p s
  rw [sH_hs] at c
  have m := c_X8_to B2 μ δ (hs σ 0) T hi p s
  rw [← hR.1.1, up1_self] at m
  refine ⟨_, _, c, m, ?_⟩
  rintro r σ' r' μ' δ' ⟨rfl, rfl⟩ ⟨rfl, rfl, rfl⟩
  exact ⟨rfl, T, hR⟩
theorem st_house (B1 B2 : BT) {σ μ : ST} (δ : Nat → Int64) (h : Rel σ μ) (w : Int32) : BothP (fun P => CI B1 yX7_house cX7_house 2 (some .int) ({ frames := 1, cells := 0, slots := 0, locals := 22 }) [.ref (aB B1 30), .int w] σ P) (fun Q => MI B2 yX8_house cX8_house 4 (some .int) ({ frames := 2, cells := 0, slots := 0, locals := 45 }) [.ref (aB B2 0), .int w] μ δ Q) := by
  obtain ⟨T, hR⟩ := h
  have hg := hR.1.2.2
  have hTR := hR.1.2.1
  have hi := hg.1
  have c := c_X7_house B1 σ (hs σ 0) hi w
  rw [sH_hs] at c
  have m := c_X8_house B2 μ δ (hs σ 0) T hi w
  rw [← hR.1.1, up1_self] at m
  refine ⟨_, _, c, m, ?_⟩
  rintro r σ' r' μ' δ' ⟨rfl, rfl⟩ ⟨rfl, rfl, rfl⟩
  exact ⟨rfl, T, hR⟩
theorem st_told (B1 B2 : BT) {σ μ : ST} (δ : Nat → Int64) (h : Rel σ μ) (x w : Int32) : BothP (fun P => CI B1 yX7_told cX7_told 3 (some .int) ({ frames := 4, cells := 0, slots := 0, locals := 131 }) [.ref (aB B1 30), .int x, .int w] σ P) (fun Q => MI B2 yX8_told cX8_told 3 (some .int) ({ frames := 3, cells := 0, slots := 0, locals := 71 }) [.ref (aB B2 0), .int x, .int w] μ δ Q) := by
  obtain ⟨T, hR⟩ := h
  have hg := hR.1.2.2
  have hTR := hR.1.2.1
  have hi := hg.1
  have c := c_X7_told B1 σ (hs σ 0) hi (TR_CT hTR (key := 0) (by decide)) x w
  rw [sH_hs] at c
  have m := c_X8_told B2 μ δ (hs σ 0) T hi σ hTR x w
  rw [show up1 μ 1 (en (hs σ 0) T) = μ by rw [← hR.1.1, up1_self]] at m
  refine ⟨_, _, c, m, ?_⟩
  rintro r σ' r' μ' δ' ⟨rfl, σ2, j1, rfl⟩ ⟨rfl, μ2, j2, rfl, rfl⟩
  exact ⟨rfl, hR.same j1 j2⟩
theorem st_behind (B1 B2 : BT) {σ μ : ST} (δ : Nat → Int64) (h : Rel σ μ) (n w : Int32) : BothP (fun P => CI B1 yX7_behind cX7_behind 4 (some .int) ({ frames := 7, cells := 0, slots := 0, locals := 202 }) [.ref (aB B1 30), .int n, .int w] σ P) (fun Q => MI B2 yX8_behind cX8_behind 4 (some .int) ({ frames := 6, cells := 0, slots := 0, locals := 139 }) [.ref (aB B2 0), .int n, .int w] μ δ Q) := by
  obtain ⟨T, hR⟩ := h
  have hg := hR.1.2.2
  have hTR := hR.1.2.1
  have hi := hg.1
  have c := c_X7_behind B1 σ (hs σ 0) hi (TR_CT hTR (key := 0) (by decide)) n w
  rw [sH_hs] at c
  have m := c_X8_behind B2 μ δ (hs σ 0) T hi σ hTR n w
  rw [show up1 μ 1 (en (hs σ 0) T) = μ by rw [← hR.1.1, up1_self]] at m
  refine ⟨_, _, c, m, ?_⟩
  rintro r σ' r' μ' δ' ⟨rfl, σ2, j1, rfl⟩ ⟨rfl, μ2, j2, rfl, rfl⟩
  exact ⟨rfl, hR.same j1 j2⟩
theorem st_through (B1 B2 : BT) {σ μ : ST} (δ : Nat → Int64) (h : Rel σ μ) : BothP (fun P => CI B1 yX7_through cX7_through 3 (some .int) ({ frames := 6, cells := 0, slots := 0, locals := 178 }) [.ref (aB B1 30)] σ P) (fun Q => MI B2 yX8_through cX8_through 3 (some .int) ({ frames := 5, cells := 0, slots := 0, locals := 117 }) [.ref (aB B2 0)] μ δ Q) := by
  obtain ⟨T, hR⟩ := h
  have hg := hR.1.2.2
  have hTR := hR.1.2.1
  have hi := hg.1
  have c := c_X7_through B1 σ (hs σ 0) hi (TR_CT hTR (key := 0) (by decide)) 
  rw [sH_hs] at c
  have m := c_X8_through B2 μ δ (hs σ 0) T hi σ hTR 
  rw [show up1 μ 1 (en (hs σ 0) T) = μ by rw [← hR.1.1, up1_self]] at m
  refine ⟨_, _, c, m, ?_⟩
  rintro r σ' r' μ' δ' ⟨rfl, σ2, j1, rfl⟩ ⟨rfl, μ2, j2, rfl, rfl⟩
  exact ⟨rfl, hR.same j1 j2⟩
theorem st_post (B1 B2 : BT) {σ μ : ST} (δ : Nat → Int64) (h : Rel σ μ) (n w : Int32) : BothP (fun P => CI B1 yX7_post cX7_post 5 (some .int) ({ frames := 6, cells := 0, slots := 0, locals := 178 }) [.ref (aB B1 30), .int n, .int w] σ P) (fun Q => MI B2 yX8_post cX8_post 5 (some .int) ({ frames := 5, cells := 0, slots := 0, locals := 117 }) [.ref (aB B2 0), .int n, .int w] μ δ Q) := by
  obtain ⟨T, hR⟩ := h
  have hg := hR.1.2.2
  have hTR := hR.1.2.1
  have hi := hg.1
  have c := c_X7_post B1 σ (hs σ 0) hi (TR_CT hTR (key := 0) (by decide)) n w
  rw [sH_hs] at c
  have m := c_X8_post B2 μ δ (hs σ 0) T hi σ hTR n w
  rw [show up1 μ 1 (en (hs σ 0) T) = μ by rw [← hR.1.1, up1_self]] at m
  refine ⟨_, _, c, m, ?_⟩
  rintro r σ' r' μ' δ' ⟨rfl, σ2, j1, rfl⟩ ⟨rfl, μ2, j2, rfl, rfl⟩
  exact ⟨rfl, hR.same j1 j2⟩
theorem st_began (B1 B2 : BT) {σ μ : ST} (δ : Nat → Int64) (h : Rel σ μ) (x n : Int32) : BothP (fun P => CI B1 yX7_began cX7_began 6 (some .int) ({ frames := 5, cells := 0, slots := 0, locals := 155 }) [.ref (aB B1 30), .int x, .int n] σ P) (fun Q => MI B2 yX8_began cX8_began 6 (some .int) ({ frames := 6, cells := 0, slots := 0, locals := 139 }) [.ref (aB B2 0), .int x, .int n] μ δ Q) := by
  obtain ⟨T, hR⟩ := h
  have hg := hR.1.2.2
  have hTR := hR.1.2.1
  have hi := hg.1
  have c := c_X7_began B1 σ (hs σ 0) hi (TR_CT hTR (key := 0) (by decide)) x n
  rw [sH_hs] at c
  have m := c_X8_began B2 μ δ (hs σ 0) T hi σ hTR x n
  rw [show up1 μ 1 (en (hs σ 0) T) = μ by rw [← hR.1.1, up1_self]] at m
  refine ⟨_, _, c, m, ?_⟩
  rintro r σ' r' μ' δ' ⟨rfl, σ2, j1, rfl⟩ ⟨rfl, μ2, j2, rfl, rfl⟩
  exact ⟨rfl, hR.same j1 j2⟩
theorem st_mended (B1 B2 : BT) {σ μ : ST} (δ : Nat → Int64) (h : Rel σ μ) (n w : Int32) : BothP (fun P => CI B1 yX7_mended cX7_mended 7 (some .int) ({ frames := 7, cells := 0, slots := 0, locals := 202 }) [.ref (aB B1 30), .int n, .int w] σ P) (fun Q => MI B2 yX8_mended cX8_mended 7 (some .int) ({ frames := 6, cells := 0, slots := 0, locals := 139 }) [.ref (aB B2 0), .int n, .int w] μ δ Q) := by
  obtain ⟨T, hR⟩ := h
  have hg := hR.1.2.2
  have hTR := hR.1.2.1
  have hi := hg.1
  have c := c_X7_mended B1 σ (hs σ 0) hi (TR_CT hTR (key := 0) (by decide)) n w
  rw [sH_hs] at c
  have m := c_X8_mended B2 μ δ (hs σ 0) T hi σ hTR n w
  rw [show up1 μ 1 (en (hs σ 0) T) = μ by rw [← hR.1.1, up1_self]] at m
  refine ⟨_, _, c, m, ?_⟩
  rintro r σ' r' μ' δ' ⟨rfl, σ2, j1, rfl⟩ ⟨rfl, μ2, j2, rfl, rfl⟩
  exact ⟨rfl, hR.same j1 j2⟩
theorem st_meets (B1 B2 : BT) {σ μ : ST} (δ : Nat → Int64) (h : Rel σ μ) (x y n : Int32) : BothP (fun P => CI B1 yX7_meets cX7_meets 5 (some .int) ({ frames := 6, cells := 0, slots := 0, locals := 178 }) [.ref (aB B1 30), .int x, .int y, .int n] σ P) (fun Q => MI B2 yX8_meets cX8_meets 5 (some .int) ({ frames := 5, cells := 0, slots := 0, locals := 117 }) [.ref (aB B2 0), .int x, .int y, .int n] μ δ Q) := by
  obtain ⟨T, hR⟩ := h
  have hg := hR.1.2.2
  have hTR := hR.1.2.1
  have hi := hg.1
  have c := c_X7_meets B1 σ (hs σ 0) hi (TR_CT hTR (key := 0) (by decide)) x y n
  rw [sH_hs] at c
  have m := c_X8_meets B2 μ δ (hs σ 0) T hi σ hTR x y n
  rw [show up1 μ 1 (en (hs σ 0) T) = μ by rw [← hR.1.1, up1_self]] at m
  refine ⟨_, _, c, m, ?_⟩
  rintro r σ' r' μ' δ' ⟨rfl, σ2, j1, rfl⟩ ⟨rfl, μ2, j2, rfl, rfl⟩
  exact ⟨rfl, hR.same j1 j2⟩
theorem st_leads (B1 B2 : BT) {σ μ : ST} (δ : Nat → Int64) (h : Rel σ μ) (p n w : Int32) : BothP (fun P => CI B1 yX7_leads cX7_leads 7 (some .int) ({ frames := 7, cells := 0, slots := 0, locals := 202 }) [.ref (aB B1 30), .int p, .int n, .int w] σ P) (fun Q => MI B2 yX8_leads cX8_leads 8 (some .int) ({ frames := 6, cells := 0, slots := 0, locals := 139 }) [.ref (aB B2 0), .int p, .int n, .int w] μ δ Q) := by
  obtain ⟨T, hR⟩ := h
  have hg := hR.1.2.2
  have hTR := hR.1.2.1
  have hi := hg.1
  obtain ⟨-, H, s, e1, e2, e3, e4⟩ := hR.1.2.2
  have c := c_X7_leads B1 σ (hs σ 0) hi (TR_CT hTR (key := 0) (by decide)) p n w
  rw [sH_hs] at c
  have m := c_X8_leads B2 μ δ (hs σ 0) T hi σ hTR s e3 (by omega) p n w
  rw [show up1 μ 1 (en (hs σ 0) T) = μ by rw [← hR.1.1, up1_self]] at m
  refine ⟨_, _, c, m, ?_⟩
  rintro r σ' r' μ' δ' ⟨rfl, σ2, j1, rfl⟩ ⟨rfl, μ2, j2, rfl, rfl⟩
  exact ⟨rfl, hR.same j1 j2⟩
theorem st_fee (B1 B2 : BT) {σ μ : ST} (δ : Nat → Int64) (h : Rel σ μ) : BothP (fun P => CI B1 yX7_fee cX7_fee 2 (some .int) ({ frames := 2, cells := 0, slots := 0, locals := 51 }) [.ref (aB B1 30)] σ P) (fun Q => MI B2 yX8_fee cX8_fee 2 (some .int) ({ frames := 2, cells := 0, slots := 0, locals := 47 }) [.ref (aB B2 0)] μ δ Q) := by
  obtain ⟨T, hR⟩ := h
  have hg := hR.1.2.2
  have hTR := hR.1.2.1
  have hi := hg.1
  have c := c_X7_fee B1 σ (hs σ 0) (TR_CT hTR (key := 1) (by decide)) 
  rw [sH_hs] at c
  have m := c_X8_fee B2 μ δ (hs σ 0) T σ hTR 
  rw [show up1 μ 1 (en (hs σ 0) T) = μ by rw [← hR.1.1, up1_self]] at m
  refine ⟨_, _, c, m, ?_⟩
  rintro r σ' r' μ' δ' ⟨rfl, σ2, j1, rfl⟩ ⟨rfl, μ2, j2, rfl, rfl⟩
  exact ⟨rfl, hR.same j1 j2⟩
theorem st_fine (B1 B2 : BT) {σ μ : ST} (δ : Nat → Int64) (h : Rel σ μ) (x : Int32) : BothP (fun P => CI B1 yX7_fine cX7_fine 3 (some .int) ({ frames := 2, cells := 0, slots := 0, locals := 51 }) [.ref (aB B1 30), .int x] σ P) (fun Q => MI B2 yX8_fine cX8_fine 3 (some .int) ({ frames := 2, cells := 0, slots := 0, locals := 47 }) [.ref (aB B2 0), .int x] μ δ Q) := by
  obtain ⟨T, hR⟩ := h
  have hg := hR.1.2.2
  have hTR := hR.1.2.1
  have hi := hg.1
  have c := c_X7_fine B1 σ (hs σ 0) hi (TR_CT hTR (key := 2) (by decide)) x
  rw [sH_hs] at c
  have m := c_X8_fine B2 μ δ (hs σ 0) T hi σ hTR x
  rw [show up1 μ 1 (en (hs σ 0) T) = μ by rw [← hR.1.1, up1_self]] at m
  refine ⟨_, _, c, m, ?_⟩
  rintro r σ' r' μ' δ' ⟨rfl, σ2, j1, rfl⟩ ⟨rfl, μ2, j2, rfl, rfl⟩
  exact ⟨rfl, hR.same j1 j2⟩

theorem st_hours (B1 B2 : BT) {σ μ : ST} (δ : Nat → Int64) (h : Rel σ μ) (n : Int32) : BothP (fun P => CI B1 yX7_hours cX7_hours 2 (some .int) ({ frames := 7, cells := 0, slots := 0, locals := 202 }) [.ref (aB B1 30), .int n] σ P) (fun Q => MI B2 yX8_hours cX8_hours 3 (some .int) ({ frames := 6, cells := 0, slots := 0, locals := 139 }) [.ref (aB B2 0), .int n] μ δ Q) := by
  obtain ⟨T, hR⟩ := h
  have hg := hR.1.2.2
  have hTR := hR.1.2.1
  have hi := hg.1
  obtain ⟨-, H, s, e1, e2, e3, e4⟩ := hR.1.2.2
  have c := c_X7_hours B1 σ (hs σ 0) hi (TR_CT hTR (key := 0) (by decide)) H e1 e2 n
  rw [sH_hs] at c
  have m := c_X8_hours B2 μ δ (hs σ 0) T hi σ hTR H e1 e2 n
  rw [show up1 μ 1 (en (hs σ 0) T) = μ by rw [← hR.1.1, up1_self]] at m
  refine ⟨_, _, c, m, ?_⟩
  rintro r σ' r' μ' δ' ⟨rfl, σ2, j1, rfl⟩ ⟨rfl, μ2, j2, rfl, rfl⟩
  obtain ⟨g1, g2, g3⟩ := g_hours gC_GR hg n
  exact ⟨rfl, hR.hh j1 j2 g1 g2 g3⟩
theorem st_whose (B1 B2 : BT) {σ μ : ST} (δ : Nat → Int64) (h : Rel σ μ) (x w : Int32) : BothP (fun P => CI B1 yX7_whose cX7_whose 6 (some .int) ({ frames := 7, cells := 0, slots := 0, locals := 201 }) [.ref (aB B1 30), .int x, .int w] σ P) (fun Q => MI B2 yX8_whose cX8_whose 9 (some .int) ({ frames := 5, cells := 0, slots := 0, locals := 117 }) [.ref (aB B2 0), .int x, .int w] μ δ Q) := by
  obtain ⟨T, hR⟩ := h
  have hg := hR.1.2.2
  have hTR := hR.1.2.1
  have hi := hg.1
  have c := c_X7_whose B1 σ (hs σ 0) hi (TR_CT hTR (key := 0) (by decide)) (fun t ht => (hR.2.2.1 t ht).2.2.2.2.1) x w
  rw [sH_hs] at c
  have m := c_X8_whose B2 μ δ (hs σ 0) T hi σ hTR hR.2.2.1 x w
  rw [show up1 μ 1 (en (hs σ 0) T) = μ by rw [← hR.1.1, up1_self]] at m
  refine ⟨_, _, c, m, ?_⟩
  rintro r σ' r' μ' δ' ⟨rfl, σ2, j1, rfl⟩ ⟨rfl, μ2, j2, rfl⟩
  exact ⟨rfl, hR.same j1 j2⟩
theorem cnt_e {σ μ : ST} {T : Nat → Int32} (hR : RT σ μ T) (w : Int32) : aCount σ w = mCount μ (hs σ 0) w := by
  obtain ⟨-, -, -, -, ⟨-, n, f2, f3, -⟩, ⟨-, v, g2, g3, -⟩, -⟩ := hR
  unfold aCount mCount
  rw [g2, g3, f2, f3]
  rfl
theorem st_count (B1 B2 : BT) {σ μ : ST} (δ : Nat → Int64) (h : Rel σ μ) (w : Int32) : BothP (fun P => CI B1 yX7_count cX7_count 2 (some .int) ({ frames := 0, cells := 0, slots := 0, locals := 0 }) [.ref (aB B1 30), .int w] σ P) (fun Q => MI B2 yX8_count cX8_count 2 (some .int) ({ frames := 0, cells := 0, slots := 0, locals := 0 }) [.ref (aB B2 0), .int w] μ δ Q) := by
  obtain ⟨T, hR⟩ := h
  have hg := hR.1.2.2
  have hTR := hR.1.2.1
  have hi := hg.1
  have c := c_X7_count B1 σ w
  have m := c_X8_count B2 μ δ (hs σ 0) T w
  rw [← hR.1.1, up1_self] at m
  refine ⟨_, _, c, m, ?_⟩
  rintro r σ' r' μ' δ' ⟨rfl, rfl⟩ ⟨rfl, rfl, rfl⟩
  exact ⟨cnt_e hR w, T, hR⟩
theorem st_why (B1 B2 : BT) {σ μ : ST} (δ : Nat → Int64) (h : Rel σ μ) (x : Int32) : BothP (fun P => CI B1 yX7_why cX7_why 2 (some .int) ({ frames := 0, cells := 0, slots := 0, locals := 0 }) [.ref (aB B1 30), .int x] σ P) (fun Q => MI B2 yX8_why cX8_why 3 (some .int) ({ frames := 1, cells := 0, slots := 0, locals := 22 }) [.ref (aB B2 0), .int x] μ δ Q) := by
  obtain ⟨T, hR⟩ := h
  have hg := hR.1.2.2
  have hTR := hR.1.2.1
  have hi := hg.1
  have c := c_X7_why B1 σ x
  have m := c_X8_why B2 μ δ (hs σ 0) T σ hTR x
  rw [← hR.1.1, up1_self] at m
  refine ⟨_, _, c, m, ?_⟩
  rintro r σ' r' μ' δ' ⟨rfl, rfl⟩ ⟨rfl, rfl, rfl⟩
  exact ⟨rfl, T, hR⟩
theorem st_textTold (B1 B2 : BT) {σ μ : ST} (δ : Nat → Int64) (h : Rel σ μ) (x w : Int32) : BothP (fun P => CI B1 yX7_textTold cX7_textTold 3 (some .int) ({ frames := 1, cells := 0, slots := 0, locals := 20 }) [.ref (aB B1 30), .int x, .int w] σ P) (fun Q => MI B2 yX8_textTold cX8_textTold 3 (some .int) ({ frames := 1, cells := 0, slots := 0, locals := 22 }) [.ref (aB B2 0), .int x, .int w] μ δ Q) := by
  obtain ⟨T, hR⟩ := h
  have hg := hR.1.2.2
  have hTR := hR.1.2.1
  have hi := hg.1
  obtain ⟨N, hN14, hN, -, -⟩ := hR.1.2.1
  have c := c_X7_textTold B1 σ N hN hN14 x w
  have m := c_X8_textTold B2 μ δ (hs σ 0) T σ hTR x w
  rw [← hR.1.1, up1_self] at m
  refine ⟨_, _, c, m, ?_⟩
  rintro r σ' r' μ' δ' ⟨rfl, rfl⟩ ⟨rfl, rfl, rfl⟩
  exact ⟨rfl, T, hR⟩
