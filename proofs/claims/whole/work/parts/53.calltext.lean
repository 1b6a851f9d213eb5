/-! one call in both: text -/
theorem txR_o {σ : ST} {n q : Nat} (h : q ≠ 32 ∧ q ≠ 34 ∧ q ≠ 35) : txR σ n q = σ q := by
  obtain ⟨h1, h2, h3⟩ := h
  unfold txR RSt T3
  rw [up2_n h1, up1_n h3, up2_n h2, up2_n h2, up2_n h1, up2_n h1, up2_n h1, up2_n h2]
theorem txR_32 {σ : ST} {n : Nat} : txR σ n 32 1 = 0 := by
  unfold txR
  rw [up2_s, upd_s]
theorem txN_o {σ : ST} {n t q : Nat} (h : q ≠ 0 ∧ q ≠ 9 ∧ q ≠ 32 ∧ q ≠ 34 ∧ q ≠ 35 ∧ q ≠ 36 ∧ q ≠ 37 ∧ q ≠ 38 ∧ q ≠ 40 + t) : txN σ n t q = σ q := by
  obtain ⟨h1, h2, h3, h4, h5, h6, h7, h8, h9⟩ := h
  unfold txN txP
  rw [up2_n h2, up2_n h1, up2_n h8, up2_n h7, up2_n h6, up1_n h9, txR_o ⟨h3, h4, h5⟩]
theorem txN_f {σ : ST} {n t q : Nat} (ht : t < 14) (h : q = 36 ∨ q = 37 ∨ q = 38) {i : Nat} (hi : i ≠ t) : txN σ n t q i = σ q i := by
  unfold txN txP
  rw [up2_n (by omega), up2_n (by omega)]
  rcases h with rfl | rfl | rfl
  · rw [up2_n (by decide), up2_n (by decide), up2_s, upd_n hi, up1_n (by omega), txR_o (by decide)]
  · rw [up2_n (by decide), up2_s, upd_n hi, up2_n (by decide), up1_n (by omega), txR_o (by decide)]
  · rw [up2_s, upd_n hi, up2_n (by decide), up2_n (by decide), up1_n (by omega), txR_o (by decide)]
theorem txN_at {σ : ST} {n t : Nat} (ht : t < 14) : txN σ n t 36 t = nI (pTS (σ 33) n (σ 35)).2.2.1 ∧ txN σ n t 37 t = pTk (σ 33) n (σ 35) ∧ txN σ n t 38 t = nI (pTS (σ 33) n (σ 35)).2.2.2 ∧ txN σ n t (40 + t) = va_cpy (pTS (σ 33) n (σ 35)).2.1 (σ (40 + t)) 0 0 (pTS (σ 33) n (σ 35)).2.2.1 ∧ txN σ n t 32 1 = 0 := by
  unfold txN txP
  refine ⟨?_, ?_, ?_, ?_, ?_⟩
  · rw [up2_n (by decide), up2_n (by decide), up2_n (by decide), up2_n (by decide), up2_s, upd_s]
  · rw [up2_n (by decide), up2_n (by decide), up2_n (by decide), up2_s, upd_s]
  · rw [up2_n (by decide), up2_n (by decide), up2_s, upd_s]
  · rw [up2_n (by omega), up2_n (by omega), up2_n (by omega), up2_n (by omega), up2_n (by omega), up1_s]
  · rw [up2_n (by decide), up2_n (by decide), up2_n (by decide), up2_n (by decide), up2_n (by decide), up1_n (by omega), txR_32]
theorem txN_h {σ : ST} {n t : Nat} (ht : t < 14) {f : Nat} (hf : f < 10) : hs (txN σ n t) 0 f = up2 (up2 (hs σ 0) 0 14 (nI (t + 1))) 9 (ix (pTk (σ 33) n (σ 35))) (nI t) f := by
  have e : ∀ g, g < 10 → txP σ n t (10 * 0 + g) = σ (10 * 0 + g) := fun g hg => by
    unfold txP
    rw [up2_n (by omega), up2_n (by omega), up2_n (by omega), up1_n (by omega), txR_o (by omega)]
  show up2 (up2 (txP σ n t) (10 * 0 + 0) 14 (nI (t + 1))) (10 * 0 + 9) (ix (pTk (σ 33) n (σ 35))) (nI t) (10 * 0 + f) = _
  by_cases q9 : f = 9
  · subst q9
    rw [up2_s, up2_s, up2_n (by decide), up2_n (by decide), e 9 (by decide)]
    rfl
  · rw [up2_n (by omega), up2_n q9]
    by_cases q0 : f = 0
    · subst q0
      rw [up2_s, up2_s, e 0 (by decide)]
      rfl
    · rw [up2_n (by omega), up2_n q0, e f hf]
      rfl
theorem en_y {h h' : HT} {T : Nat → Int32} (e : ∀ f, f < 9 → h' f = h f) : en h' T = en h T := by
  funext k
  unfold en
  by_cases h1 : k < 97
  · rw [if_pos h1, if_pos h1, e 0 (by decide), e 6 (by decide), e 7 (by decide), e 8 (by decide), e ((k - 37) % 5 + 1) (by omega)]
  · rw [if_neg h1, if_neg h1]
theorem TR_p {σ σ' : ST} {h h' : HT} {T : Nat → Int32} {M : Nat} (hTR : TR σ h T) (hM : ix (h 0 14) ≤ M) (e0 : h' 0 14 = h 0 14) (e9 : h' 9 = h 9) (e : ∀ t, t < M → σ' 36 t = σ 36 t ∧ σ' 37 t = σ 37 t ∧ σ' 38 t = σ 38 t ∧ σ' (40 + t) = σ (40 + t)) : TR σ' h' T := by
  obtain ⟨N, h1, h2, h3, h4⟩ := hTR
  rw [h2, ix_n (by omega)] at hM
  refine ⟨N, h1, by rw [e0]; exact h2, fun t ht => ?_, fun key hk => ?_⟩
  · obtain ⟨w1, w2, w3, w4⟩ := e t (by omega)
    exact TxRel_f (h3 t ht) w1 w2 w3 w4 (fun _ _ => rfl)
  · rw [e9, h4 key hk]
    exact (lastK_f (fun t ht => (e t (by omega)).2.1)).symm
theorem dep_c {c c' : Nat → Int32} {n : Nat} (h : wfT c n) (e : ∀ j, j < n → c' j = c j) : wfT c' n := by
  obtain ⟨h1, h2, h3, h4⟩ := h
  refine ⟨h1, h2, fun i hi => ?_, by rw [dep_eq e]; exact h4⟩
  rw [e i hi, dep_eq (fun j hj => e j (by omega))]
  exact h3 i hi
theorem EX_o {μ μ' : ST} {h : HT} {T : Nat → Int32} (h1 : EX μ h T μ') : μ' 1 = en h T ∧ (∀ q, q ≠ 0 → q ≠ 1 → q ≠ 10 → q ≠ 11 → q ≠ 12 → μ' q = μ q) ∧ μ' 0 3 = μ 0 3 ∧ μ' 0 34 = μ 0 34 ∧ μ' 0 8 = 0 := by
  obtain ⟨s, e, k, v, d, ky, nc, na, hd, c, w, t, rfl⟩ := h1
  refine ⟨by rw [TG_f (by decide), up1_s], fun q h0 h1 h2 h3 h4 => by rw [TG_f ⟨h0, h2, h3, h4⟩, up1_n h1, up2_n h0], ?_, ?_, ?_⟩ <;> rfl
theorem RT.text0 {σ μ μ' : ST} {T : Nat → Int32} {n : Nat} (h : RT σ μ T) (hE : EX μ (hs σ 0) T μ') : RT (txR σ n) μ' T := by
  obtain ⟨m1, m2, m3, m4, m5⟩ := EX_o hE
  obtain ⟨k0, k1, k2⟩ := h.rest (σ' := txR σ n) (μ' := μ') (fun q hq => txR_o (by omega)) (by rw [txR_o (by decide)]) m3 (by rw [m1, h.1.1]) (m2 2 (by decide) (by decide) (by decide) (by decide) (by decide)) (fun q hq => m2 q (by omega) (by omega) (by omega) (by omega) (by omega))
  obtain ⟨g1, w, g2, g3, g4⟩ := h.2.2.2.2.2.1
  refine ⟨k0, k1, h.2.2.1.fr (fun q h1 h2 => txR_o (by omega)) (fun q h1 h2 => m2 q (by omega) (by omega) (by omega) (by omega) (by omega)), h.2.2.2.1.fr (fun q h1 h2 => txR_o (by omega)) (fun q h1 h2 => m2 q (by omega) (by omega) (by omega) (by omega) (by omega)), ⟨?_, 0, txR_32, m5, by omega⟩, ⟨?_, w, ?_, ?_, g4⟩, k2⟩
  · rw [txR_o (by decide), m2 7 (by decide) (by decide) (by decide) (by decide) (by decide)]
    exact h.2.2.2.2.1.1
  · rw [txR_o (by decide), m2 23 (by decide) (by decide) (by decide) (by decide) (by decide)]
    exact g1
  · rw [txR_o (by decide)]
    exact g2
  · rw [m4]
    exact g3
theorem Tn_o {T : Nat → Int32} {N key nc na : Nat} {c : Nat → Int32} (hN : N < 14) (hc : nc ≤ 96) {t j : Nat} (ht : t < N) (hj : j = 2 * t ∨ j = 2 * t + 1 ∨ (28 + 96 * t ≤ j ∧ j < 28 + 96 * t + 96)) : Tn T N key nc na c j = T j := by
  unfold Tn
  rw [pk_cpy_out (by omega), upd_n (by omega), upd_n (by omega)]
theorem RT.text1 {σ μ μ' : ST} {T : Nat → Int32} {n N key nc na : Nat} {c : Nat → Int32} (h : RT σ μ T) (hn : n ≤ 96) (hN : hs σ 0 0 14 = nI N) (hN14 : N < 14) (hB : pTB (σ 33) n (σ 35) = true) (hk : key < 3) (hky : pTk (σ 33) n (σ 35) = nI key) (hC : CRM key (pTS (σ 33) n (σ 35)) nc c na) (hnc : nc ≤ 96) (hE : EX μ (up2 (hs σ 0) 0 14 (nI (N + 1))) (Tn T N key nc na c) μ') : RT (txN σ n N) μ' (Tn T N key nc na c) := by
  obtain ⟨m1, m2, m3, m4, m5⟩ := EX_o hE
  obtain ⟨⟨a1, a2, a3⟩, ⟨b1, b2⟩, c1, d1, ⟨f1, -, -, -, -⟩, ⟨g1, w, g2, g3, g4⟩, k1⟩ := h
  have so : ∀ q, (10 ≤ q ∧ q < 32) ∨ q = 33 ∨ 54 ≤ q → txN σ n N q = σ q := fun q hq => txN_o (by omega)
  have st : ∀ t, t < N → txN σ n N 36 t = σ 36 t ∧ txN σ n N 37 t = σ 37 t ∧ txN σ n N 38 t = σ 38 t ∧ txN σ n N (40 + t) = σ (40 + t) := fun t ht => ⟨txN_f hN14 (by omega) (by omega), txN_f hN14 (by omega) (by omega), txN_f hN14 (by omega) (by omega), txN_o (by omega)⟩
  have sh : ∀ f, f < 10 → hs (txN σ n N) 0 f = up2 (up2 (hs σ 0) 0 14 (nI (N + 1))) 9 (ix (pTk (σ 33) n (σ 35))) (nI N) f := fun f hf => txN_h hN14 hf
  have sh1 : ∀ f, f < 10 → hs (txN σ n N) 1 f = hs σ 1 f := fun f hf => so (10 * 1 + f) (by omega)
  obtain ⟨v1, v2, v3, v4, v5⟩ := txN_at (σ := σ) (n := n) hN14
  obtain ⟨r1, r2, r3⟩ := hC
  obtain ⟨w1, w2⟩ := wf_E hn hk hky hB
  rw [r1] at v1 v4 w1 w2
  rw [r2] at v3
  rw [hky] at v2 sh
  rw [ix_n (by omega)] at sh
  have s14 : hs (txN σ n N) 0 0 14 = nI (N + 1) := by rw [sh 0 (by decide), up2_n (by decide), up2_s, upd_s]
  have c4 : ∀ j, j < nc → txN σ n N (40 + N) j = (pTS (σ 33) n (σ 35)).2.1 j := fun j hj => by rw [v4, pk_cpy_in (by omega) (by omega), Nat.zero_add, Nat.sub_zero]
  refine ⟨⟨?_, ?_, ?_⟩, ⟨?_, fun q => ?_⟩, c1.fr (fun q h1 h2 => so q (by omega)) (fun q h1 h2 => m2 q (by omega) (by omega) (by omega) (by omega) (by omega)), d1.fr (fun q h1 h2 => so q (by omega)) (fun q h1 h2 => m2 q (by omega) (by omega) (by omega) (by omega) (by omega)), ⟨?_, 0, v5, m5, by omega⟩, ⟨?_, w, ?_, ?_, g4⟩, k1.fr (fun q hq => m2 q (by omega) (by omega) (by omega) (by omega) (by omega))⟩
  · rw [m1]
    exact (en_y (fun f hf => by rw [sh f (by omega), up2_n (by omega)])).symm
  · obtain ⟨N', h1, h2, h3, h4⟩ := a2
    have eN : N' = N := by
      have z : ix (nI N') = ix (nI N) := by rw [← h2, hN]
      rwa [ix_n (by omega), ix_n (by omega)] at z
    subst eN
    refine ⟨N' + 1, by omega, s14, fun t ht => ?_, fun key' hk' => ?_⟩
    · by_cases q : t = N'
      · subst q
        refine ⟨nc, key, hnc, hk, v1, v2, dep_c w1 c4, ?_, ?_, fun k hkk => ?_⟩
        · unfold Tn
          rw [pk_cpy_out (by omega), upd_n (by omega), upd_s]
        · unfold Tn
          rw [pk_cpy_out (by omega), upd_s, v3]
        · rw [c4 k hkk]
          refine ⟨?_, w2 k hkk⟩
          unfold Tn
          rw [pk_cpy_in (by omega) (by omega), ← r3 k hkk]
          congr 1
          omega
      · obtain ⟨z1, z2, z3, z4⟩ := st t (by omega)
        exact TxRel_f (h3 t (by omega)) z1 z2 z3 z4 (fun j hj => Tn_o hN14 hnc (by omega) hj)
    · rw [sh 9 (by decide), up2_s, up2_n (by decide)]
      show upd (hs σ 0 9) key (nI N') key' = if txN σ n N' 37 N' = nI key' then nI N' else lastK (txN σ n N') key' N'
      rw [v2]
      by_cases q : key' = key
      · subst q
        rw [upd_s, if_pos rfl]
      · rw [upd_n q, if_neg (fun z => q (by have z2 : ix (nI key) = ix (nI key') := by rw [z]
                                            rw [ix_n (by omega), ix_n (by omega)] at z2
                                            exact z2.symm)), h4 key' hk']
        exact (lastK_f (fun t ht => (st t ht).2.1)).symm
  · exact GH_x ((a3.up0 (k := 14) (v := nI (N + 1)) (by decide)).up (f := 9) (k := key) (v := nI N) (by decide) (fun q => absurd rfl q)) sh
  · rw [so 30 (by decide), m3]
    exact b1
  · rw [so 30 (by decide)] at q
    obtain ⟨Ti, i1, i2, i3, i4⟩ := b2 q
    rw [hN, ix_n (by omega)] at i4
    refine ⟨Ti, ?_, TR_p i2 i4 (by rw [sh1 0 (by decide)]) (sh1 9 (by decide)) st, GH_x i3 sh1, ?_⟩
    · rw [m2 2 (by decide) (by decide) (by decide) (by decide) (by decide), i1]
      exact (en_x sh1).symm
    · rw [sh1 0 (by decide), s14, ix_n (by omega)]
      omega
  · rw [so 33 (by decide), m2 7 (by decide) (by decide) (by decide) (by decide) (by decide)]
    exact f1
  · rw [so 77 (by decide), m2 23 (by decide) (by decide) (by decide) (by decide) (by decide)]
    exact g1
  · rw [so 30 (by decide)]
    exact g2
  · rw [m4]
    exact g3
theorem st_text (B1 B2 : BT) {σ μ : ST} (δ : Nat → Int64) (h : Rel σ μ) : BothP (fun P => CI B1 yX7_text cX7_text 3 (some .int) ({ frames := 95, cells := 0, slots := 0, locals := 4200 }) [.ref (aB B1 30)] σ P) (fun Q => MI B2 yX8_text cX8_text 4 (some .int) ({ frames := 4, cells := 0, slots := 0, locals := 87 }) [.ref (aB B2 0)] μ δ Q) := by
  obtain ⟨T, hR⟩ := h
  obtain ⟨f1, n, f2, f3, f4⟩ := id hR.2.2.2.2.1
  obtain ⟨N, hN14, hN, -, -⟩ := id hR.1.2.1
  have em : up1 μ 1 (en (hs σ 0) T) = μ := by rw [← hR.1.1, up1_self]
  have c := c_X7_text B1 σ n f2 f4 N hN hN14
  have m := c_X8_text B2 μ δ (hs σ 0) T n N f3 f4 hR.2.2.2.2.2.2 hN hN14 (σ 35)
  rw [em] at m
  refine ⟨_, _, c, m, ?_⟩
  rintro r σ' r' μ' δ' ⟨rfl, rfl⟩ ⟨hq, rfl⟩
  rw [← f1] at hq
  obtain ⟨hB, rfl, hE⟩ | ⟨hB, hq⟩ := hq
  · rw [show aText σ n N = (-100 - nI (tS (σ 33) n (pTS (σ 33) n (σ 35)).1), txR σ n) from if_neg (by rw [hB]; decide)]
    exact ⟨rfl, T, hR.text0 hE⟩
  · obtain ⟨h14, rfl, hE⟩ | ⟨h14, rfl, key, nc, na, cc, hk, hky, hC, hnc, hE⟩ := hq
    · rw [show aText σ n N = (-1000000003, txR σ n) from (if_pos hB).trans (if_neg (by omega))]
      exact ⟨rfl, T, hR.text0 hE⟩
    · rw [show aText σ n N = (nI N, txN σ n N) from (if_pos hB).trans (if_pos h14)]
      exact ⟨rfl, _, hR.text1 f4 hN h14 hB hk hky hC hnc hE⟩
