/-! the relation of the two states -/
theorem dz_0 (z : Int32) : ¬ dz z < 0 := by
  have h1 : (dz z).toBitVec.msb = false := by
    rw [BitVec.msb_eq_getLsbD_last]
    exact (b_ushr 8 (by decide) (nz z) 31).trans (b_big (by decide))
  have h2 : (dz z).toInt = ((dz z).toBitVec.toNat : Int) := BitVec.toInt_eq_toNat_of_msb h1
  rw [Int32.lt_iff_toInt_lt, h2, show (0 : Int32).toInt = 0 from rfl]
  omega
theorem jrem_n {j m : Nat} (hj : j < 2 ^ 31) (h0 : 0 < m) (hm : m < 2 ^ 31) : jrem (nI j) (nI m) = nI (j % m) := by
  unfold jrem
  rw [pk_div (a := j) (d := m) (by omega) (by omega) (by omega), show nI (j / m) * nI m = nI (j / m * m) from pk_mul (j / m) m]
  have e : j = j % m + j / m * m := by rw [Nat.mul_comm]; exact (Nat.mod_add_div j m).symm
  rw [show nI j = nI (j % m) + nI (j / m * m) by rw [nI_add, ← e], Int32.add_sub_cancel]
theorem jrem_rg (z : Int32) {m : Nat} (h0 : 0 < m) (hm : m < 2 ^ 31) : rg (jrem (dz z) (nI m)) 0 (m - 1) := by
  obtain ⟨j, hj, e⟩ := nI_of (dz_0 z)
  rw [e, jrem_n hj h0 hm]
  exact rg_nI (Nat.zero_le _) (by have := Nat.mod_lt j h0; omega)
/-- what always holds of a house that the calls see -/
def GH (h : HT) : Prop := HI h ∧ ∃ H s, h 0 12 = nI H ∧ H ≤ 9999 ∧ h 0 10 = nI s ∧ s ≤ 13 * H
theorem HI_x {h h' : HT} (hi : HI h) (e : ∀ f, f < 10 → h' f = h f) : HI h' := by
  obtain ⟨⟨N, h1, h2⟩, h3⟩ := hi
  refine ⟨⟨N, h1, by rw [e 0 (by decide)]; exact h2⟩, fun f k hk hl => ?_⟩
  have hf : f < 10 := Decidable.byContradiction (fun q => hl (by unfold lim; rw [if_neg (by omega), if_neg (by omega), if_neg (by omega), if_neg (by omega), if_neg (by omega)]))
  rw [e f hf]
  exact h3 f k hk hl
theorem GH_x {h h' : HT} (hg : GH h) (e : ∀ f, f < 10 → h' f = h f) : GH h' := by
  obtain ⟨h1, H, s, h2, h3, h4, h5⟩ := hg
  exact ⟨HI_x h1 e, H, s, by rw [e 0 (by decide)]; exact h2, h3, by rw [e 0 (by decide)]; exact h4, h5⟩
theorem en_x {h h' : HT} {T : Nat → Int32} (e : ∀ f, f < 10 → h' f = h f) : en h' T = en h T := by
  funext k
  unfold en
  by_cases h1 : k < 97
  · rw [if_pos h1, if_pos h1, e 0 (by decide), e 6 (by decide), e 7 (by decide), e 8 (by decide), e ((k - 37) % 5 + 1) (by omega)]
  · rw [if_neg h1, if_neg h1]
theorem GH.up {h : HT} (hg : GH h) {f k : Nat} {v : Int32} (h0 : f ≠ 0) (hv : lim f ≠ 0 → rg v 0 (lim f)) : GH (up2 h f k v) := by
  obtain ⟨h1, H, s, h2, h3, h4, h5⟩ := hg
  exact ⟨h1.up h0 hv, H, s, by rw [up2_n (fun q => h0 q.symm)]; exact h2, h3, by rw [up2_n (fun q => h0 q.symm)]; exact h4, h5⟩
theorem GH.up0 {h : HT} (hg : GH h) {k : Nat} {v : Int32} (h0 : k ≠ 0 ∧ k ≠ 10 ∧ k ≠ 12) : GH (up2 h 0 k v) := by
  obtain ⟨h1, H, s, h2, h3, h4, h5⟩ := hg
  exact ⟨h1.up0 h0.1, H, s, by rw [up2_s, upd_n (fun q => h0.2.2 q.symm)]; exact h2, h3, by rw [up2_s, upd_n (fun q => h0.2.1 q.symm)]; exact h4, h5⟩
theorem sJoin_0 {h : HT} {kd ar so st : Int32} {k : Nat} (hk : k ≠ 0) : sJoin h kd ar so st 0 k = h 0 k := by
  unfold sJoin
  rw [up2_s, upd_n hk, up2_n (by decide), up2_n (by decide), up2_n (by decide), up2_n (by decide), up2_n (by decide)]
theorem sJoin_f {h : HT} {kd ar so st : Int32} {f : Nat} (hf : 6 ≤ f) : sJoin h kd ar so st f = h f := by
  unfold sJoin
  rw [up2_n (by omega), up2_n (by omega), up2_n (by omega), up2_n (by omega), up2_n (by omega), up2_n (by omega)]
theorem GH.join {h : HT} (hg : GH h) (hN : sN h < 12) {kd ar so st : Int32} (ha : rg ar 0 9) (hs : rg so 0 999) (ht : rg st 0 5) : GH (sJoin h kd ar so st) := by
  obtain ⟨hi, H, s, h2, h3, h4, h5⟩ := hg
  have hn := hi.n
  refine ⟨?_, H, s, by rw [sJoin_0 (by decide)]; exact h2, h3, by rw [sJoin_0 (by decide)]; exact h4, h5⟩
  have h6 : HI (up2 (up2 (up2 (up2 (up2 h 1 (sN h) kd) 2 (sN h) ar) 3 (sN h) so) 4 (sN h) st) 5 (sN h) 0) := ((((hi.up (by decide) (fun q => absurd rfl q)).up (by decide) (fun _ => ha)).up (by decide) (fun _ => hs)).up (by decide) (fun _ => ht)).up (by decide) (fun q => absurd rfl q)
  refine ⟨⟨sN h + 1, by omega, ?_⟩, fun f k hk hl => ?_⟩
  · unfold sJoin
    rw [up2_s, upd_s, hn.2, nI_1]
  · have hf : f ≠ 0 := fun q => hl (by rw [q]; rfl)
    unfold sJoin
    rw [up2_n hf]
    exact h6.2 f k hk hl
theorem GH.z {h : HT} (hg : GH h) : GH (sZ h) := hg.up0 (by decide)
theorem GH.lot {h : HT} (hg : GH h) (hN : sN h < 12) : GH (sLot h) := by
  refine (((hg.z).z).z).z.join (show sN (sZ (sZ (sZ (sZ h)))) < 12 from hN) (jrem_rg _ (m := 10) (by decide) (by decide)) ?_ (jrem_rg _ (m := 6) (by decide) (by decide))
  obtain ⟨j, e, -, hj⟩ := jrem_rg (sZ2 h 0 13) (m := 200) (by decide) (by decide)
  refine ⟨1 + j, ?_, Nat.zero_le _, by omega⟩
  show 1 + jrem (dz (sZ2 h 0 13)) (nI 200) = nI (1 + j)
  rw [e]
  exact nI_add 1 j
theorem GH.lots {h : HT} (hg : GH h) : ∀ n, sN h + n ≤ 12 → GH (sLots h n)
  | 0, _ => hg
  | n + 1, hn => (GH.lots hg n (by omega)).lot (by rw [(sLots_N hg.1.n.2 n (by omega)).1]; omega)
theorem sLots_o {h : HT} : ∀ n, sLots h n 9 = h 9 ∧ sLots h n 0 14 = h 0 14
  | 0 => ⟨rfl, rfl⟩
  | n + 1 => by
    have ih := sLots_o (h := h) n
    refine ⟨?_, ?_⟩
    · show sLot (sLots h n) 9 = h 9
      rw [← ih.1]
      exact sJoin_f (by decide)
    · show sLot (sLots h n) 0 14 = h 0 14
      rw [← ih.2]
      exact sJoin_0 (by decide)
theorem sHours_12 {g : WT} {h : HT} {H : Nat} (hH : h 0 12 = nI H) : ∀ k, sHours g h k 0 12 = nI (H + k)
  | 0 => hH
  | k + 1 => by
    show sHour g (sHours g h k) 0 12 = _
    unfold sHour
    rw [up2_s, upd_s, sLook_0 (by decide), sDs_f (by decide), sHours_12 hH k, nI_1]
    rfl
theorem GH.hours {g : WT} (hgr : GR g) {h : HT} (hg : GH h) {k : Nat} (hk : ix (h 0 12) + k ≤ 9999) : GH (sHours g h k) := by
  obtain ⟨hi, H, s, h2, h3, h4, h5⟩ := hg
  rw [h2, ix_n (by omega)] at hk
  obtain ⟨s', e1, e2, e3⟩ := sHours_10 hgr hi h4 k
  exact ⟨hi.hours hgr k, H + k, s', sHours_12 h2 k, hk, e1, by omega⟩
theorem prF_rg {row fl : Nat → Int32} (hf : ∀ k, k < 10 → rg (fl k) 0 9) : ∀ i k, k < 10 → rg ((prF row fl i).1 k) 0 9
  | 0, k, hk => hf k hk
  | i + 1, k, hk => by
    unfold prF
    split
    · exact prF_rg hf i k hk
    · show rg (upd (prF row fl i).1 i (jheld (row i) 9) k) 0 9
      unfold upd
      split
      · unfold jheld jmx jmn
        obtain ⟨x, hx⟩ : ∃ x, row i = x := ⟨_, rfl⟩
        rw [hx]
        by_cases h1 : 9 < x
        · rw [if_pos h1, if_pos (by decide)]
          exact ⟨9, rfl, by omega, Nat.le_refl 9⟩
        · rw [if_neg h1]
          by_cases h2 : (0 : Int32) < x
          · rw [if_pos h2]
            rw [Int32.lt_iff_toInt_lt, show (9 : Int32).toInt = 9 from rfl] at h1
            rw [Int32.lt_iff_toInt_lt, show (0 : Int32).toInt = 0 from rfl] at h2
            exact rg_t (by omega) (by omega) (by decide)
          · rw [if_neg h2]
            exact ⟨0, rfl, Nat.le_refl 0, by omega⟩
      · exact prF_rg hf i k hk
theorem GH.pour {h : HT} (hg : GH h) {row : Nat → Int32} {m : Nat} : GH (up1 h 6 (prF row (h 6) m).1) := by
  obtain ⟨⟨h0, h1⟩, H, s, h2, h3, h4, h5⟩ := hg
  refine ⟨⟨h0, fun f k hk hl => ?_⟩, H, s, h2, h3, h4, h5⟩
  by_cases q : f = 6
  · subst q
    rw [up1_s]
    exact prF_rg (fun k hk => h1 6 k hk (by decide)) m k hk
  · rw [up1_n q]
    exact h1 f k hk hl
/-- the relation -/
def R0 (σ μ : ST) (T : Nat → Int32) : Prop := μ 1 = en (hs σ 0) T ∧ TR σ (hs σ 0) T ∧ GH (hs σ 0)
def R1 (σ μ : ST) : Prop := σ 30 2 = μ 0 3 ∧ (¬ σ 30 2 = 0 → ∃ Ti, μ 2 = en (hs σ 1) Ti ∧ TR σ (hs σ 1) Ti ∧ GH (hs σ 1) ∧ ix (hs σ 1 0 14) ≤ ix (hs σ 0 0 14))
def R4 (σ μ : ST) : Prop := σ 33 = μ 7 ∧ ∃ n, σ 32 1 = nI n ∧ μ 0 8 = nI n ∧ n ≤ 96
def R5 (σ μ : ST) : Prop := σ 77 = μ 23 ∧ ∃ w, σ 30 11 = nI w ∧ μ 0 34 = nI w ∧ w ≤ 60
def RT (σ μ : ST) (T : Nat → Int32) : Prop := R0 σ μ T ∧ R1 σ μ ∧ ShR σ μ ∧ SlR σ μ ∧ R4 σ μ ∧ R5 σ μ ∧ KC μ
def Rel (σ μ : ST) : Prop := ∃ T, RT σ μ T
/-- all that the relation sees but the house now -/
def FrS (σ σ' : ST) : Prop := ∀ q, (10 ≤ q ∧ q < 20) ∨ q = 30 ∨ (32 ≤ q ∧ q ≠ 34 ∧ q ≠ 35 ∧ q ≠ 39) → σ' q = σ q
def FrM (μ μ' : ST) : Prop := ∀ q, q = 0 ∨ q = 2 ∨ (7 ≤ q ∧ q ≤ 9) ∨ (15 ≤ q ∧ q ≤ 21) ∨ q = 23 → μ' q = μ q
theorem TxRel_f {σ σ' : ST} {T T' : Nat → Int32} {t : Nat} (h : TxRel σ T t) (e36 : σ' 36 t = σ 36 t) (e37 : σ' 37 t = σ 37 t) (e38 : σ' 38 t = σ 38 t) (e40 : σ' (40 + t) = σ (40 + t)) (eT : ∀ j, j = 2 * t ∨ j = 2 * t + 1 ∨ (28 + 96 * t ≤ j ∧ j < 28 + 96 * t + 96) → T' j = T j) : TxRel σ' T' t := by
  obtain ⟨n, key, h1, h2, h3, h4, h5, h6, h7, h8⟩ := h
  refine ⟨n, key, h1, h2, by rw [e36]; exact h3, by rw [e37]; exact h4, by rw [e40]; exact h5, by rw [eT _ (Or.inl rfl)]; exact h6, by rw [eT _ (Or.inr (Or.inl rfl)), e38]; exact h7, fun k hk => ?_⟩
  rw [eT _ (Or.inr (Or.inr ⟨by omega, by omega⟩)), e40]
  exact h8 k hk
theorem lastK_f {σ σ' : ST} {key : Nat} : ∀ {N : Nat}, (∀ t, t < N → σ' 37 t = σ 37 t) → lastK σ' key N = lastK σ key N
  | 0, _ => rfl
  | N + 1, h => by
    show (if σ' 37 N = nI key then nI N else lastK σ' key N) = if σ 37 N = nI key then nI N else lastK σ key N
    rw [h N (by omega), lastK_f (fun t ht => h t (by omega))]
theorem TR_f {σ σ' : ST} {h h' : HT} {T : Nat → Int32} (hTR : TR σ h T) (e0 : h' 0 14 = h 0 14) (e9 : h' 9 = h 9) (e36 : σ' 36 = σ 36) (e37 : σ' 37 = σ 37) (e38 : σ' 38 = σ 38) (e40 : ∀ t, t < 14 → σ' (40 + t) = σ (40 + t)) : TR σ' h' T := by
  obtain ⟨N, h1, h2, h3, h4⟩ := hTR
  refine ⟨N, h1, by rw [e0]; exact h2, fun t ht => TxRel_f (h3 t ht) (by rw [e36]) (by rw [e37]) (by rw [e38]) (e40 t (by omega)) (fun _ _ => rfl), fun key hk => ?_⟩
  rw [e9, h4 key hk]
  exact (lastK_f (fun t _ => by rw [e37])).symm
theorem ShR.fr {σ μ σ' μ' : ST} (h : ShR σ μ) (e1 : ∀ q, 54 ≤ q → q < 62 → σ' q = σ q) (e2 : ∀ q, 15 ≤ q → q ≤ 17 → μ' q = μ q) : ShR σ' μ' := fun r hr => (h r hr).keep (e1 _ (by omega) (by omega)) (e1 _ (by omega) (by omega)) (by rw [e2 15 (by omega) (by omega)]) (by rw [e2 16 (by omega) (by omega)]) (fun p _ => by rw [e2 17 (by omega) (by omega)])
theorem SlR.fr {σ μ σ' μ' : ST} (h : SlR σ μ) (e1 : ∀ q, 62 ≤ q → q < 77 → σ' q = σ q) (e2 : ∀ q, 18 ≤ q → q ≤ 21 → μ' q = μ q) : SlR σ' μ' := by
  intro i hi
  obtain ⟨a1, a2, a3, a4, a5⟩ := h i hi
  have s1 := e1 (72 + i) (by omega) (by omega)
  have s2 := e1 (54 + 2 * (4 + i)) (by omega) (by omega)
  have s3 := e1 (54 + 2 * (4 + i) + 1) (by omega) (by omega)
  refine ⟨by rw [e2 18 (by omega) (by omega), s1]; exact a1, fun q => ?_, fun q => ?_, fun q => ?_, RS_e a5 s2⟩
  · rw [s1] at q ⊢
    rw [e2 19 (by omega) (by omega), e2 20 (by omega) (by omega)]
    exact a2 q
  · rw [s1] at q
    rw [e2 19 (by omega) (by omega), e2 21 (by omega) (by omega), s2, s3]
    exact a3 q
  · rw [s1] at q ⊢
    rw [e2 19 (by omega) (by omega)]
    exact a4 q
theorem KC.fr {μ μ' : ST} (h : KC μ) (e : ∀ q, q = 8 ∨ q = 9 → μ' q = μ q) : KC μ' := by
  unfold KC
  rw [e 8 (Or.inl rfl), e 9 (Or.inr rfl)]
  exact h
/-- a call that changes the house alone -/
theorem RT.house {σ μ σ' μ' : ST} {T : Nat → Int32} {h' : HT} (h : RT σ μ T) (hs' : FrS σ σ') (hm' : FrM μ μ') (eh : ∀ f, f < 10 → hs σ' 0 f = h' f) (em : μ' 1 = en h' T) (hg : GH h') (e9 : h' 9 = hs σ 0 9) (e14 : h' 0 14 = hs σ 0 0 14) : RT σ' μ' T := by
  obtain ⟨⟨a1, a2, a3⟩, ⟨b1, b2⟩, c1, d1, ⟨f1, n, f2, f3, f4⟩, ⟨g1, w, g2, g3, g4⟩, k1⟩ := h
  have q30 := hs' 30 (Or.inr (Or.inl rfl))
  have m0 := hm' 0 (Or.inl rfl)
  have e1 : hs σ' 1 = hs σ 1 ∨ True := Or.inr trivial
  have ei : ∀ f, f < 10 → hs σ' 1 f = hs σ 1 f := fun f hf => hs' (10 * 1 + f) (Or.inl ⟨by omega, by omega⟩)
  have e36 := hs' 36 (Or.inr (Or.inr (by decide)))
  have e37 := hs' 37 (Or.inr (Or.inr (by decide)))
  have e38 := hs' 38 (Or.inr (Or.inr (by decide)))
  have e40 : ∀ t, t < 14 → σ' (40 + t) = σ (40 + t) := fun t ht => hs' (40 + t) (Or.inr (Or.inr ⟨by omega, by omega, by omega, by omega⟩))
  refine ⟨⟨by rw [em]; exact (en_x eh).symm, TR_f a2 (by rw [eh 0 (by decide)]; exact e14) (by rw [eh 9 (by decide)]; exact e9) e36 e37 e38 e40, GH_x hg eh⟩, ⟨by rw [q30, m0]; exact b1, fun q => ?_⟩, c1.fr (fun q h1 h2 => hs' q (Or.inr (Or.inr ⟨by omega, by omega, by omega, by omega⟩))) (fun q h1 h2 => hm' q (by omega)), d1.fr (fun q h1 h2 => hs' q (Or.inr (Or.inr ⟨by omega, by omega, by omega, by omega⟩))) (fun q h1 h2 => hm' q (by omega)), ⟨by rw [hs' 33 (Or.inr (Or.inr (by decide))), hm' 7 (by omega)]; exact f1, n, by rw [hs' 32 (Or.inr (Or.inr (by decide)))]; exact f2, by rw [m0]; exact f3, f4⟩, ⟨by rw [hs' 77 (Or.inr (Or.inr (by decide))), hm' 23 (by omega)]; exact g1, w, by rw [q30]; exact g2, by rw [m0]; exact g3, g4⟩, k1.fr (fun q h1 => hm' q (by omega))⟩
  rw [q30] at q
  obtain ⟨Ti, i1, i2, i3, i4⟩ := b2 q
  refine ⟨Ti, by rw [hm' 2 (by omega), i1]; exact (en_x ei).symm, TR_f i2 (by rw [ei 0 (by decide)]) (by rw [ei 9 (by decide)]) e36 e37 e38 e40, GH_x i3 ei, ?_⟩
  rw [ei 0 (by decide), eh 0 (by decide), e14]
  exact i4
theorem Jk.fr {σ σ2 : ST} {h' : HT} (h : Jk σ σ2) : FrS σ (sH σ2 0 h') := fun q hq => by
  rw [show sH σ2 0 h' q = σ2 q from if_neg (by omega)]
  exact h q (by omega)
theorem Jm.fr {μ μ2 : ST} {f : Nat → Int32} (h : Jm μ μ2) : FrM μ (up1 μ2 1 f) := fun q hq => by
  rw [up1_n (by omega)]
  exact h q (by omega) (by omega) (by omega) (by omega)
theorem RT.hh {σ μ σ2 μ2 : ST} {T : Nat → Int32} {h' : HT} (h : RT σ μ T) (hj : Jk σ σ2) (hm : Jm μ μ2) (hg : GH h') (e9 : h' 9 = hs σ 0 9) (e14 : h' 0 14 = hs σ 0 0 14) : Rel (sH σ2 0 h') (up1 μ2 1 (en h' T)) := ⟨T, h.house hj.fr hm.fr (fun f hf => show sH σ2 0 h' (10 * 0 + f) = h' f from sH_at hf) up1_s hg e9 e14⟩
theorem RT.same {σ μ σ2 μ2 : ST} {T : Nat → Int32} (h : RT σ μ T) (hj : Jk σ σ2) (hm : Jm μ μ2) : Rel (sH σ2 0 (hs σ 0)) (up1 μ2 1 (en (hs σ 0) T)) := h.hh hj hm h.1.2.2 rfl rfl
