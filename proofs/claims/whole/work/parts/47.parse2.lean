/-! parts, chains -/
theorem ext_all {b : Nat → Int32} {n : Nat} {s : Int32} : ∀ (f i j : Nat), i ≤ j → j < extT b n s f i → sortB (b j) = s
  | 0, i, j, h1, h2 => by
    have h2 : j < i := h2
    omega
  | f + 1, i, j, h1, h2 => by
    by_cases hc : i < n ∧ sortB (b i) = s
    · have e : extT b n s (f + 1) i = extT b n s f (i + 1) := if_pos hc
      rw [e] at h2
      by_cases q : j = i
      · rw [q]; exact hc.2
      · exact ext_all f (i + 1) j (by omega) h2
    · have e : extT b n s (f + 1) i = i := if_neg hc
      rw [e] at h2
      omega
theorem tK_2 {b : Nat → Int32} {n p : Nat} (h : tK b n p = 2) : ¬ n ≤ tS b n p ∧ sortB (b (tS b n p)) = 2 ∧ tE b n p - tS b n p ≤ 4 := by
  unfold tK at h
  split at h
  · exact absurd h (by decide)
  · split at h
    · exact absurd h (by decide)
    · split at h
      · exact absurd h (by decide)
      · rename_i h1 h2 h3
        refine ⟨h1, h, ?_⟩
        have h4 : ¬ 4 < tE b n p - tS b n p := fun z => h3 (Or.inr ⟨h, z⟩)
        omega
theorem tK_1 {b : Nat → Int32} {n p : Nat} (h : tK b n p = 1) : ¬ n ≤ tS b n p := by
  intro z
  rw [tK_0 z] at h
  exact absurd h (by decide)
theorem numF_n {b : Nat → Int32} {s : Nat} : ∀ k, k ≤ 4 → (∀ j, j < k → ¬ b (s + j) < 48 ∧ ¬ 57 < b (s + j)) → ∃ m, m < 10 ^ k ∧ numF b s k = nI m
  | 0, _, _ => ⟨0, by decide, rfl⟩
  | k + 1, hk, h => by
    obtain ⟨m, hm, e⟩ := numF_n k (by omega) (fun j hj => h j (by omega))
    obtain ⟨h1, h2⟩ := h k (by omega)
    have hp : 10 ^ k ≤ 10 ^ 3 := Nat.pow_le_pow_right (by decide) (by omega)
    obtain ⟨j, hj, ej⟩ := nI_of (x := b (s + k)) (fun z => h1 (Int32.lt_trans z (by decide)))
    rw [ej] at h1 h2
    have h1 := n_nlt (b := 48) hj (by decide) h1
    have h2 := n_nlt (a := 57) (by decide) hj h2
    refine ⟨m * 10 + (j - 48), by rw [Nat.pow_succ]; omega, ?_⟩
    show numF b s k * 10 + b (s + k) - 48 = _
    rw [e, ej, show nI m * 10 = nI (m * 10) from pk_mul m 10, nI_add, show nI (m * 10 + j) - 48 = nI (m * 10 + j - 48) from sub_nI (b := 48) (by omega)]
    congr 1
    omega
theorem num_ok {b : Nat → Int32} {n p : Nat} (hp : p ≤ n) (h : tK b n p = 2) : ∃ m, m < 10000 ∧ numF b (tS b n p) (tE b n p - tS b n p) = nI m := by
  obtain ⟨h1, h2, h3⟩ := tK_2 h
  have hE := tE_b (b := b) hp
  obtain ⟨m, hm, e⟩ := numF_n (b := b) (s := tS b n p) (tE b n p - tS b n p) h3 (fun j hj => by
    have e1 := tE_s h1 (by rw [h2]; decide)
    rw [h2] at e1
    exact sB2.mp (ext_all (s := 2) (n - tS b n p) (tS b n p) (tS b n p + j) (by omega) (by rw [← e1]; omega)))
  have : 10 ^ (tE b n p - tS b n p) ≤ 10 ^ 4 := Nat.pow_le_pow_right (by decide) h3
  exact ⟨m, by omega, e⟩
theorem wd_1 {b : Nat → Int32} {n i : Nat} {x : Int32} {S : PS} (hi : lenJ.getD i 0 = 1) (hx : (bytJ.getD i []).getD 0 0 = x) : pWd b n S i = true ↔ tK b n S.1 = 1 ∧ tE b n S.1 - tS b n S.1 = 1 ∧ b (tS b n S.1) = x := by
  constructor
  · intro h
    refine ⟨Decidable.byContradiction (fun q => wdP_f (Or.inl q) h), Decidable.byContradiction (fun q => wdP_f (Or.inr (Or.inl (by rw [hi]; exact q))) h), Decidable.byContradiction (fun q => wdP_f (Or.inr (Or.inr ⟨0, by omega, by rw [hx]; exact q⟩)) h)⟩
  · rintro ⟨h1, h2, h3⟩
    refine wdP_t h1 (by rw [hi]; exact h2) (fun j hj => ?_)
    obtain rfl : j = 0 := by omega
    rw [hx]
    exact h3
theorem nmK_e {key : Nat} (hk : key < 3) (x : Int32) : ((if x = 115 then (-3 : Int32) else if x = 102 ∧ nI key = 0 then -2 else if x = 100 ∧ ¬ nI key = 1 then -4 else if x = 108 ∧ nI key = 1 then -4 else -1) = -1 ∧ ¬ 0 ≤ nmF (nI key) x) ∨ (¬ (if x = 115 then (-3 : Int32) else if x = 102 ∧ nI key = 0 then -2 else if x = 100 ∧ ¬ nI key = 1 then -4 else if x = 108 ∧ nI key = 1 then -4 else -1) = -1 ∧ 0 ≤ nmF (nI key) x ∧ 10000 + nmF (nI key) x = trC key (if x = 115 then (-3 : Int32) else if x = 102 ∧ nI key = 0 then -2 else if x = 100 ∧ ¬ nI key = 1 then -4 else if x = 108 ∧ nI key = 1 then -4 else -1) ∧ okC key (if x = 115 then (-3 : Int32) else if x = 102 ∧ nI key = 0 then -2 else if x = 100 ∧ ¬ nI key = 1 then -4 else if x = 108 ∧ nI key = 1 then -4 else -1)) := by
  have o2 : okC 0 (-2) := Or.inr (Or.inl ⟨rfl, rfl⟩)
  have o3 : ∀ k, okC k (-3) := fun k => Or.inr (Or.inr (Or.inl rfl))
  have o4 : ∀ k, okC k (-4) := fun k => Or.inr (Or.inr (Or.inr (Or.inl rfl)))
  by_cases h1 : x = 115
  · subst h1
    rcases (by omega : key = 0 ∨ key = 1 ∨ key = 2) with rfl | rfl | rfl <;> exact Or.inr ⟨by decide, by decide, by decide, o3 _⟩
  · by_cases h2 : x = 102
    · subst h2
      rcases (by omega : key = 0 ∨ key = 1 ∨ key = 2) with rfl | rfl | rfl
      · exact Or.inr ⟨by decide, by decide, by decide, o2⟩
      · exact Or.inl ⟨by decide, by decide⟩
      · exact Or.inl ⟨by decide, by decide⟩
    · by_cases h3 : x = 100
      · subst h3
        rcases (by omega : key = 0 ∨ key = 1 ∨ key = 2) with rfl | rfl | rfl
        · exact Or.inr ⟨by decide, by decide, by decide, o4 _⟩
        · exact Or.inl ⟨by decide, by decide⟩
        · exact Or.inr ⟨by decide, by decide, by decide, o4 _⟩
      · by_cases h4 : x = 108
        · subst h4
          rcases (by omega : key = 0 ∨ key = 1 ∨ key = 2) with rfl | rfl | rfl
          · exact Or.inl ⟨by decide, by decide⟩
          · exact Or.inr ⟨by decide, by decide, by decide, o4 _⟩
          · exact Or.inl ⟨by decide, by decide⟩
        · refine Or.inl ⟨?_, ?_⟩
          · rw [if_neg h1, if_neg (fun z => h2 z.1), if_neg (fun z => h3 z.1), if_neg (fun z => h4 z.1)]
          · rw [show nmF (nI key) x = -1 by unfold nmF; rw [if_neg h2, if_neg h1, if_neg h3, if_neg h4, if_neg h1, if_neg h1, if_neg h3]; (repeat' split) <;> rfl]
            decide
theorem atom_e {b : Nat → Int32} {n key : Nat} (hk : key < 3) {S : PS} (hS : S.1 ≤ n) : (pAtom b n (nI key) S = -1 ∧ ¬ mPt b n (nI key) S.1) ∨ (¬ pAtom b n (nI key) S = -1 ∧ mPt b n (nI key) S.1 ∧ mAt b n (nI key) S.1 = trC key (pAtom b n (nI key) S) ∧ okC key (pAtom b n (nI key) S)) := by
  by_cases h2 : tK b n S.1 = 2
  · have e1 : pAtom b n (nI key) S = pNum b n S := if_pos h2
    obtain ⟨m, hm, e⟩ := num_ok hS h2
    have e2 : pNum b n S = nI m := e
    have e3 : mAt b n (nI key) S.1 = nI m := (if_pos h2).trans e
    rw [e1, e2, e3]
    refine Or.inr ⟨fun z => ?_, Or.inl h2, ?_, Or.inl ⟨m, hm, rfl⟩⟩
    · have := nI_0le (n := m) (by omega)
      rw [z] at this
      exact absurd this (by decide)
    · exact (if_pos (nI_0le (by omega))).symm
  · have e1 : pAtom b n (nI key) S = pName b n (nI key) S := if_neg h2
    rw [e1]
    unfold pName
    have w3 := wd_1 (b := b) (n := n) (i := 3) (x := 115) (S := S) rfl rfl
    have w4 := wd_1 (b := b) (n := n) (i := 4) (x := 102) (S := S) rfl rfl
    have w5 := wd_1 (b := b) (n := n) (i := 5) (x := 100) (S := S) rfl rfl
    have w6 := wd_1 (b := b) (n := n) (i := 6) (x := 108) (S := S) rfl rfl
    simp only [propext w3, propext w4, propext w5, propext w6]
    by_cases hL : tK b n S.1 = 1 ∧ tE b n S.1 - tS b n S.1 = 1
    · have hz := nmK_e hk (b (tS b n S.1))
      simp only [hL.1, hL.2, true_and]
      rcases hz with ⟨z1, z2⟩ | ⟨z1, z2, z3, z4⟩
      · exact Or.inl ⟨z1, fun y => y.elim h2 (fun y => z2 y.2.2)⟩
      · exact Or.inr ⟨z1, Or.inr ⟨hL.1, hL.2, z2⟩, (if_neg h2).trans z3, z4⟩
    · refine Or.inl ⟨?_, fun y => y.elim h2 (fun y => hL ⟨y.1, y.2.1⟩)⟩
      rw [if_neg (fun z => hL ⟨z.1, z.2.1⟩), if_neg (fun z => hL ⟨z.1.1, z.1.2.1⟩), if_neg (fun z => hL ⟨z.1.1, z.1.2.1⟩), if_neg (fun z => hL ⟨z.1.1, z.1.2.1⟩)]
theorem adv {b : Nat → Int32} {n p : Nat} (hp : p ≤ n) (h : ¬ tK b n p = 0) : p < tE b n p ∧ tE b n p ≤ n := by
  have h1 := tS_b (b := b) hp
  have h2 := tE_b (b := b) hp
  have h3 : tS b n p < n := Decidable.byContradiction (fun z => h (tK_0 (by omega)))
  have := h2.2.2 h3
  omega
theorem sgQ_end {b : Nat → Int32} {n p : Nat} (hp : p ≤ n) (h : n ≤ p) : sgQ b n p = 0 := by
  refine Decidable.byContradiction (fun z => ?_)
  have h1 := sgP_3 z
  rw [tK_0 (by have := tS_b (b := b) hp; omega)] at h1
  exact absurd h1 (by decide)
theorem mPt_0 {b : Nat → Int32} {n p : Nat} {ky : Int32} (h : mPt b n ky p) : ¬ tK b n p = 0 ∧ ¬ tK b n p = 3 := h.elim (fun q => by rw [q]; decide) (fun q => by rw [q.1]; decide)
/-- the sign that comes next is not one of these levels; or it's a second test -/
def NJ (b : Nat → Int32) (n lvl p : Nat) (tst : Bool) : Prop := ¬ sgQ b n p = 0 → rkN (sgQ b n p) ≤ lvl ∨ (rkN (sgQ b n p) = 3 ∧ lvl ≤ 2 ∧ tst = true)
def ChS (b : Nat → Int32) (n key : Nat) (PF : Nat → Prop) (A : AT) (d : Nat) : Prop := ∀ (lvl o t : Nat) (S : PS) (nc : Nat) (c : Nat → Int32) (na : Nat) (W : List Int32) (T : Nat → Bool) (R : Bool × PS), lvl ≤ 5 → o ≤ 8 → t ≤ 8 → mu lvl o t < d → CRM key S nc c na → IV n S.1 nc W o t → BS lvl W → (lvl ≤ 2 → T o = false) → pr b n (nI key) d lvl o t S = R →
  (R.1 = false → PF R.2.1) →
  (R.1 = true → ∀ (a : List Int32) (nc' : Nat) (c' : Nat → Int32) (T' : Nat → Bool), Pd lvl a → CRM key R.2 (mPs a nc' c').1 (mPs a nc' c').2 R.2.2.2.2 → IV n R.2.1 nc' (a ++ W) o t → (∀ j, j < o → T' j = T j) → (3 ≤ lvl → T' o = T o) → NJ b n lvl R.2.1 (T' o) → A R.2.1 nc' c' R.2.2.2.2 (a ++ W) o t false T') →
  A S.1 nc c na W o t true T
def PcS (b : Nat → Int32) (n key : Nat) (PF : Nat → Prop) (A : AT) (d : Nat) : Prop := ∀ (o t : Nat) (S : PS) (nc : Nat) (c : Nat → Int32) (na : Nat) (W0 : List Int32) (k : Nat) (T : Nat → Bool) (R : Bool × PS), o ≤ 8 → t ≤ 8 → mu 6 o t < d → CRM key S nc c na → IV n S.1 nc (ns k ++ W0) o t → BS 5 W0 → pr b n (nI key) d 6 o t S = R →
  (R.1 = false → PF R.2.1) →
  (R.1 = true → ∀ (nc' : Nat) (c' : Nat → Int32) (T' : Nat → Bool), CK key R.2 k nc' c' R.2.2.2.2 → IV n R.2.1 nc' W0 o (cntN W0) → (∀ j, j ≤ o → T' j = T j) → A R.2.1 nc' c' R.2.2.2.2 W0 o (cntN W0) false T') →
  A S.1 nc c na (ns k ++ W0) o t true T
section PARSE
variable {b : Nat → Int32} {n key : Nat} {PF : Nat → Prop} {PT : Nat → (Nat → Int32) → Nat → Prop} {A : AT}
theorem ns_cnt (k : Nat) : cntN (ns k) = k ∧ cntO (ns k) = 0 ∧ (ns k).length = k := by
  induction k with
  | zero => exact ⟨rfl, rfl, rfl⟩
  | succ k ih =>
    refine ⟨?_, ?_, List.length_replicate⟩
    · show cntN (ns k) + 1 = k + 1
      rw [ih.1]
    · show cntO (ns k) + 0 = 0
      rw [ih.2.1]
theorem pc_s (hn : n ≤ 96) (hk : key < 3) (hCl : Cl b n (nI key) PF PT A) {d : Nat} (hC : ChS b n key PF A d) (hP : PcS b n key PF A d) : PcS b n key PF A (d + 1) := by
  obtain ⟨h_not, h_open, h_part, h_bad, h_close, h_sign, h_bad2, h_end⟩ := hCl
  intro o t S nc c na W0 k T R ho ht hmu hCR hIV hBS eR hF hS
  obtain ⟨hp, hb, ho8, hcO, hnt⟩ := hIV
  have hIV : IV n S.1 nc (ns k ++ W0) o t := ⟨hp, hb, ho8, hcO, hnt⟩
  obtain ⟨nk1, nk2, nk3⟩ := ns_cnt k
  rw [cntN_app, nk1] at hnt
  rw [cntO_app, nk2, Nat.zero_add] at hcO
  rw [List.length_append, nk3] at hb
  have hmuE : mu 6 o t = 7 * (8 - o) + (8 - t) + 0 := rfl
  rw [pr_6] at eR
  by_cases s1 : pSg b n S 33 = true
  · obtain ⟨hK, hv⟩ := pSg_t.mp s1
    have ha := adv (b := b) hp (by rw [hK]; decide)
    rw [if_pos s1] at eR
    by_cases t8 : t < 8
    · rw [if_pos t8] at eR
      refine h_not S.1 nc c na _ o t T hIV hK hv t8 ?_
      have e1 : cntN (-10 :: (ns k ++ W0)) = t + 1 := by
        show cntN (ns k ++ W0) + 1 = _
        rw [cntN_app, nk1]
        omega
      rw [e1, ← ns_s]
      refine hP o (t + 1) (pStep b n S) nc c na W0 (k + 1) T (pr b n (nI key) d 6 o (t + 1) (pStep b n S)) ho (by omega) (by show 7 * (8 - o) + (8 - (t + 1)) + 0 < d; omega) hCR ⟨ha.2, ?_, ho8, ?_, ?_⟩ hBS rfl (fun q => ?_) (fun q nc' c' T' hCK hI hT => ?_)
      · rw [List.length_append, (ns_cnt (k + 1)).2.2]
        show nc + (k + 1 + W0.length) < tE b n S.1
        omega
      · rw [cntO_app, (ns_cnt (k + 1)).2.1]
        omega
      · rw [cntN_app, (ns_cnt (k + 1)).1]
        omega
      · rw [if_neg (by rw [q]; decide)] at eR
        subst eR
        exact hF rfl
      · rw [if_pos q] at eR
        subst eR
        have hlen : (pr b n (nI key) d 6 o (t + 1) (pStep b n S)).2.2.2.1 < 96 := by
          have h1 := hCK.1
          have h2 := hI.2.1
          have h3 := hI.1
          omega
        have hS := hS rfl nc' c' T'
        rw [show ((true, pPut (pr b n (nI key) d 6 o (t + 1) (pStep b n S)).2 (-5)) : Bool × PS).2.1 = (pr b n (nI key) d 6 o (t + 1) (pStep b n S)).2.1 from pPut_1, show ((true, pPut (pr b n (nI key) d 6 o (t + 1) (pStep b n S)).2 (-5)) : Bool × PS).2.2.2.2 = (pr b n (nI key) d 6 o (t + 1) (pStep b n S)).2.2.2.2 from pPut_3] at hS
        exact hS (hCK.put hlen) hI hT
    · rw [if_neg t8] at eR
      subst eR
      exact h_bad S.1 nc c na _ o t T hIV (fun z => t8 z.2.2) (fun z => absurd (hv.symm.trans z.2.1) (by decide)) (fun z => (mPt_0 z).2 hK) (hF rfl)
  · rw [if_neg s1] at eR
    have n1 : ¬ (tK b n S.1 = 3 ∧ b (tS b n S.1) = 33 ∧ t < 8) := fun z => s1 (pSg_t.mpr ⟨z.1, z.2.1⟩)
    by_cases s2 : pSg b n S 40 = true
    · obtain ⟨hK, hv⟩ := pSg_t.mp s2
      have ha := adv (b := b) hp (by rw [hK]; decide)
      rw [if_pos s2] at eR
      by_cases o8 : o < 8
      · rw [if_pos o8] at eR
        refine h_open S.1 nc c na _ o t T hIV hK hv o8 ?_
        have e1 : cntN (-11 :: (ns k ++ W0)) = t := by
          show cntN (ns k ++ W0) + 0 = _
          rw [cntN_app, nk1]
          omega
        rw [e1]
        have eT : uT T (o + 1) false (o + 1) = false := if_pos rfl
        refine hC 0 (o + 1) t (pStep b n S) nc c na (-11 :: (ns k ++ W0)) (uT T (o + 1) false) (pr b n (nI key) d 0 (o + 1) t (pStep b n S)) (by omega) (by omega) ht (by show 7 * (8 - (o + 1)) + (8 - t) + 6 < d; omega) hCR ⟨ha.2, ?_, by omega, ?_, e1.symm⟩ (fun x W' e => Or.inl (List.cons.inj e).1.symm) (fun _ => eT) rfl (fun q => ?_) (fun q a nc' c' T' hPd hCR2 hI hT1 hT2 hNJ => ?_)
        · show nc + ((ns k ++ W0).length + 1) < tE b n S.1
          rw [List.length_append, nk3]
          omega
        · show cntO (ns k ++ W0) + 1 = o + 1
          rw [cntO_app, nk2]
          omega
        · rw [if_neg (fun z => absurd (q.symm.trans z.1) (by decide))] at eR
          subst eR
          exact hF rfl
        · obtain ⟨i1, i2, i3, i4, i5⟩ := hI
          have hI : IV n (pr b n (nI key) d 0 (o + 1) t (pStep b n S)).2.1 nc' (a ++ -11 :: (ns k ++ W0)) (o + 1) t := ⟨i1, i2, i3, i4, i5⟩
          by_cases s3 : pSg b n (pr b n (nI key) d 0 (o + 1) t (pStep b n S)).2 41 = true
          · rw [if_pos ⟨q, s3⟩] at eR
            subst eR
            obtain ⟨hK3, hv3⟩ := pSg_t.mp s3
            have ha3 := adv (b := b) i1 (by rw [hK3]; decide)
            have m0 : mSet 0 (a ++ -11 :: (ns k ++ W0)) nc' c' = (-11 :: (ns k ++ W0), (mPs a nc' c').1, (mPs a nc' c').2) := by
              rw [mSet_app (fun x hx => ⟨(hPd x hx).1, Nat.zero_le _⟩)]
              exact if_neg (fun z => z.1 rfl)
            have hck := CRM.nots (k := k) hCR2
            have hk1 := hck.1
            have hm1 := mPs_1 a nc' c'
            have hsz := hCR2.1
            rw [List.length_append, List.length_cons, List.length_append, nk3] at i2
            refine h_close _ nc' c' _ _ (o + 1) t T' (ns k ++ W0) _ _ W0 _ _ hI hK3 hv3 (by omega) m0 (mSet_ns hBS) ?_
            refine hS rfl _ _ T' hck ⟨ha3.2, ?_, by omega, ?_, rfl⟩ (fun j hj => by rw [hT1 j (by omega)]; exact if_neg (by omega))
            · show (mPs (ns k) (mPs a nc' c').1 (mPs a nc' c').2).1 + W0.length < tE b n (pr b n (nI key) d 0 (o + 1) t (pStep b n S)).2.1
              rw [mPs_1, hm1, nk3]
              omega
            · omega
          · rw [if_neg (fun z => s3 z.2)] at eR
            subst eR
            by_cases hK0 : tK b n (pr b n (nI key) d 0 (o + 1) t (pStep b n S)).2.1 = 0
            · exact h_end _ nc' c' _ _ (o + 1) t T' _ _ _ hI hK0 rfl (fun z => by omega) (fun _ => hF rfl)
            · refine h_bad2 _ nc' c' _ _ (o + 1) t T' hI hK0 (fun z => s3 (pSg_t.mpr ⟨z.1, z.2.1⟩)) ?_ (hF rfl)
              by_cases hs : sgQ b n (pr b n (nI key) d 0 (o + 1) t (pStep b n S)).2.1 = 0
              · exact Or.inl hs
              · rcases hNJ hs with z | z
                · have := (sgQ_rk hs).1
                  omega
                · exact Or.inr ⟨z.1, z.2.2⟩
      · rw [if_neg o8] at eR
        subst eR
        exact h_bad S.1 nc c na _ o t T hIV n1 (fun z => o8 z.2.2) (fun z => (mPt_0 z).2 hK) (hF rfl)
    · rw [if_neg s2] at eR
      have n2 : ¬ (tK b n S.1 = 3 ∧ b (tS b n S.1) = 40 ∧ o < 8) := fun z => s2 (pSg_t.mpr ⟨z.1, z.2.1⟩)
      rcases atom_e (b := b) hk hp with ⟨z1, z2⟩ | ⟨z1, z2, z3, z4⟩
      · rw [if_pos z1] at eR
        subst eR
        exact h_bad S.1 nc c na _ o t T hIV n1 n2 z2 (hF rfl)
      · rw [if_neg z1] at eR
        subst eR
        have ha := adv (b := b) hp (mPt_0 z2).1
        have hput := CRM.put (q := pAtom b n (nI key) S) hCR (by omega)
        have hput2 : CRM key (pStep b n (pOne (pPut S (pAtom b n (nI key) S)))) (nc + 1) (upd c nc (mAt b n (nI key) S.1)) (na + 1) := by
          rw [z3]
          exact ⟨hput.1, congrArg (· + 1) hput.2.1, hput.2.2⟩
        have hck := CRM.nots (k := k) hput2
        have hna : (pStep b n (pOne (pPut S (pAtom b n (nI key) S)))).2.2.2 = na + 1 := hput2.2.1
        have hp1 : (pStep b n (pOne (pPut S (pAtom b n (nI key) S)))).1 = tE b n S.1 := by
          show tE b n (pOne (pPut S (pAtom b n (nI key) S))).1 = _
          rw [show (pOne (pPut S (pAtom b n (nI key) S))).1 = S.1 from pPut_1]
        have hS := hS rfl _ _ T (by rw [hna]; exact hck)
        rw [show ((true, pStep b n (pOne (pPut S (pAtom b n (nI key) S)))) : Bool × PS).2.1 = tE b n S.1 from hp1, show ((true, pStep b n (pOne (pPut S (pAtom b n (nI key) S)))) : Bool × PS).2.2.2.2 = na + 1 from hna] at hS
        refine h_part S.1 nc c na _ o t T W0 _ _ hIV z2 (mSet_ns hBS) (hS ⟨ha.2, ?_, ho8, hcO, rfl⟩ (fun j hj => rfl))
        rw [mPs_1, nk3]
        omega
theorem loop_s (hn : n ≤ 96) (hCl : Cl b n (nI key) PF PT A) {d : Nat} (hC : ChS b n key PF A d) {lvl o t : Nat} (hl : lvl ≤ 4) (ho : o ≤ 8) (ht : t ≤ 8) (hmu : mu (lvl + 1) o t < d) : ∀ (i : Nat) (S : PS) (a : List Int32) (nc : Nat) (c : Nat → Int32) (W : List Int32) (T : Nat → Bool) (R : Bool × PS), pLoop (pr b n (nI key) d (lvl + 1) o t) (pJoin b n (nI lvl)) (pStep b n) i S = R → BS lvl W → Pd lvl a → CRM key S (mPs a nc c).1 (mPs a nc c).2 S.2.2.2 → IV n S.1 nc (a ++ W) o t → NJ b n (lvl + 1) S.1 (T o) → (lvl = 2 → i ≤ 1 ∧ (i = 1 → T o = false) ∧ (i = 0 → T o = true)) → (lvl ≠ 2 → n ≤ S.1 + i) →
    (R.1 = false → PF R.2.1) →
    (R.1 = true → ∀ (a : List Int32) (nc' : Nat) (c' : Nat → Int32) (T' : Nat → Bool), Pd lvl a → CRM key R.2 (mPs a nc' c').1 (mPs a nc' c').2 R.2.2.2.2 → IV n R.2.1 nc' (a ++ W) o t → (∀ j, j < o → T' j = T j) → (3 ≤ lvl → T' o = T o) → NJ b n lvl R.2.1 (T' o) → A R.2.1 nc' c' R.2.2.2.2 (a ++ W) o t false T') →
    A S.1 nc c S.2.2.2 (a ++ W) o t false T := by
  have hCl2 := hCl
  obtain ⟨h_not, h_open, h_part, h_bad, h_close, h_sign, h_bad2, h_end⟩ := hCl
  intro i
  induction i with
  | zero =>
    intro S a nc c W T R eR hBS hPd hCR hIV hNJ h2 h96 hF hS
    subst eR
    refine hS rfl a nc c T hPd hCR hIV (fun _ _ => rfl) (fun _ => rfl) (fun hs => ?_)
    by_cases q : lvl = 2
    · rcases hNJ hs with z | z
      · by_cases q3 : rkN (sgQ b n S.1) = 3
        · exact Or.inr ⟨q3, by omega, (h2 q).2.2 rfl⟩
        · refine Or.inl ?_
          show rkN (sgQ b n S.1) ≤ lvl
          omega
      · exact Or.inr ⟨z.1, by omega, z.2.2⟩
    · exact absurd (sgQ_end hIV.1 (h96 q)) hs
  | succ i ih =>
    intro S a nc c W T R eR hBS hPd hCR hIV hNJ h2 h96 hF hS
    obtain ⟨hp, hb, ho8, hcO, hnt⟩ := hIV
    have hIV : IV n S.1 nc (a ++ W) o t := ⟨hp, hb, ho8, hcO, hnt⟩
    have hp0 := Pd_0 hPd
    rw [cntO_app, hp0.2, Nat.zero_add] at hcO
    rw [cntN_app, hp0.1, Nat.zero_add] at hnt
    rw [List.length_append] at hb
    have hm1 := mPs_1 a nc c
    rcases join_e (b := b) (n := n) (S := S) (key := key) hl with ⟨j1, j2⟩ | ⟨j1, j2, j3, j4, j5, j6⟩
    · have e1 : pLoop (pr b n (nI key) d (lvl + 1) o t) (pJoin b n (nI lvl)) (pStep b n) (i + 1) S = (true, S) := if_pos j1
      rw [e1] at eR
      subst eR
      refine hS rfl a nc c T hPd hCR hIV (fun _ _ => rfl) (fun _ => rfl) (fun hs => ?_)
      have := j2 hs
      rcases hNJ hs with z | z
      · refine Or.inl ?_
        show rkN (sgQ b n S.1) ≤ lvl
        omega
      · exact Or.inr ⟨z.1, by omega, z.2.2⟩
    · have e1 : pLoop (pr b n (nI key) d (lvl + 1) o t) (pJoin b n (nI lvl)) (pStep b n) (i + 1) S = if (pr b n (nI key) d (lvl + 1) o t (pStep b n S)).1 = true then pLoop (pr b n (nI key) d (lvl + 1) o t) (pJoin b n (nI lvl)) (pStep b n) i (pPut (pr b n (nI key) d (lvl + 1) o t (pStep b n S)).2 (pJoin b n (nI lvl) S)) else (false, (pr b n (nI key) d (lvl + 1) o t (pStep b n S)).2) := if_neg j1
      rw [e1] at eR
      have hK : ¬ tK b n S.1 = 0 := by rw [sgP_3 j3]; decide
      have ha := adv (b := b) hp hK
      have hok : pOk n S := ⟨hp, by have := hCR.1; omega⟩
      have hmono := pr_mono (b := b) (n := n) (key := nI key) d (lvl + 1) o t (pStep b n S) (pStep_ok hok)
      have hst : (pStep b n S).1 = tE b n S.1 := rfl
      refine h_sign S.1 nc c _ _ o t T W (mPs a nc c).1 (mPs a nc c).2 hIV j3 (fun z => ?_) ?_ ?_
      · have q2 : lvl = 2 := by omega
        have q1 : i + 1 = 1 := by have := (h2 q2).1; omega
        exact absurd (((h2 q2).2.1 q1).symm.trans z.2) Bool.false_ne_true
      · rw [j4, mSet_app (fun x hx => ⟨(hPd x hx).1, (hPd x hx).2.2⟩)]
        exact mSet_BS (L := lvl + 1) hBS (by omega)
      · have eT : uT T o (decide (rkN (sgQ b n S.1) = 3) || (decide (3 < rkN (sgQ b n S.1)) && T o)) o = (decide (rkN (sgQ b n S.1) = 3) || (decide (3 < rkN (sgQ b n S.1)) && T o)) := if_pos rfl
        refine hC (lvl + 1) o t (pStep b n S) _ _ _ (sgQ b n S.1 :: W) _ (pr b n (nI key) d (lvl + 1) o t (pStep b n S)) (by omega) ho ht hmu ⟨hCR.1, hCR.2.1, hCR.2.2⟩ ⟨ha.2, ?_, ho8, ?_, ?_⟩ (fun x W' e => Or.inr (by rw [← (List.cons.inj e).1, j4]; exact Nat.le_refl _)) (fun q => ?_) rfl (fun q => ?_) (fun q a2 nc2 c2 T2 hPd2 hCR2 hI2 hT1 hT2 hNJ2 => ?_)
        · show (mPs a nc c).1 + (W.length + 1) < tE b n S.1
          omega
        · show cntO W + (if sgQ b n S.1 = -11 then 1 else 0) = o
          rw [if_neg j6]
          omega
        · show t = cntN W + (if sgQ b n S.1 = -10 then 1 else 0)
          rw [if_neg j5]
          omega
        · rw [eT, j4, decide_eq_false (by omega), decide_eq_false (by omega)]
          rfl
        · rw [if_neg (by rw [q]; decide)] at eR
          subst eR
          exact hF rfl
        · rw [if_pos q] at eR
          have hlen : (mPs a2 nc2 c2).1 < 96 := by
            have h1 := mPs_1 a2 nc2 c2
            have h2 := hI2.2.1
            have h3 := hI2.1
            rw [List.length_append, List.length_cons] at h2
            omega
          have hput := CRM.put (q := pJoin b n (nI lvl) S) hCR2 hlen
          have eap : a2 ++ sgQ b n S.1 :: W = (a2 ++ [sgQ b n S.1]) ++ W := by rw [List.append_assoc]; rfl
          have em : mPs (a2 ++ [sgQ b n S.1]) nc2 c2 = ((mPs a2 nc2 c2).1 + 1, upd (mPs a2 nc2 c2).2 (mPs a2 nc2 c2).1 (trC key (pJoin b n (nI lvl) S))) := by
            rw [mPs_app, j2]
            rfl
          have ih := ih (pPut (pr b n (nI key) d (lvl + 1) o t (pStep b n S)).2 (pJoin b n (nI lvl) S)) (a2 ++ [sgQ b n S.1]) nc2 c2 W T2 R eR hBS (fun x hx => ?_) ?_ ?_ ?_ (fun q2 => ⟨by have := (h2 q2).1; omega, fun z => by have := (h2 q2).1; omega, fun _ => ?_⟩) (fun q2 => ?_) hF (fun q3 a3 nc3 c3 T3 k1 k2 k3 k4 k5 k6 => hS q3 a3 nc3 c3 T3 k1 k2 k3 (fun j hj => by rw [k4 j hj, hT1 j hj]; exact if_neg (by omega)) (fun q4 => by rw [k5 q4, hT2 (by omega), eT, j4, decide_eq_false (by omega), decide_eq_true (by omega)]; rfl) k6)
          · rw [pPut_1, pPut_3, ← eap] at ih
            exact ih
          · rcases List.mem_append.mp hx with z | z
            · have h1 := hPd2 x z
              exact ⟨h1.1, h1.2.1, by omega⟩
            · rw [List.mem_singleton.mp z]
              exact ⟨j6, j5, by omega⟩
          · rw [em, pPut_3]
            exact hput
          · rw [pPut_1, ← eap]
            exact hI2
          · rw [pPut_1]
            exact hNJ2
          · subst q2
            rw [hT2 (by decide), eT, j4]
            rfl
          · rw [pPut_1]
            have := h96 q2
            omega
theorem ch_s (hn : n ≤ 96) (hCl : Cl b n (nI key) PF PT A) {d : Nat} (hC : ChS b n key PF A d) (hP : PcS b n key PF A d) : ChS b n key PF A (d + 1) := by
  intro lvl o t S nc c na W T R hl ho ht hmu hCR hIV hBS hT eR hF hS
  by_cases h5 : lvl = 5
  · subst h5
    rw [pr_5] at eR
    refine hP o t S nc c na W 0 T R ho ht (by have : mu 5 o t = 7 * (8 - o) + (8 - t) + 1 := rfl; show 7 * (8 - o) + (8 - t) + 0 < d; omega) hCR hIV hBS eR hF (fun q nc' c' T' hCK hI hT' => ?_)
    have ent : cntN W = t := hIV.2.2.2.2.symm
    rw [ent] at hI ⊢
    exact hS q [] nc' c' T' (fun x hx => by cases hx) (CK_0 hCK) hI (fun j hj => hT' j (by omega)) (fun _ => hT' o (Nat.le_refl o)) (fun hs => Or.inl (sgQ_rk hs).2)
  · have h4 : lvl ≤ 4 := by omega
    rw [pr_lo h4] at eR
    have hmu2 : mu (lvl + 1) o t < d := by
      have e1 : mu lvl o t = 7 * (8 - o) + (8 - t) + (6 - lvl) := rfl
      have e2 : mu (lvl + 1) o t = 7 * (8 - o) + (8 - t) + (6 - (lvl + 1)) := rfl
      omega
    refine hC (lvl + 1) o t S nc c na W T (pr b n (nI key) d (lvl + 1) o t S) (by omega) ho ht hmu2 hCR hIV (fun x W' e => (hBS x W' e).imp id (fun z => by omega)) (fun q => hT (by omega)) rfl (fun q => ?_) (fun q a nc' c' T' hPd hCR2 hI hT1 hT2 hNJ => ?_)
    · rw [if_neg (by rw [q]; decide)] at eR
      subst eR
      exact hF rfl
    · rw [if_pos q] at eR
      refine loop_s hn hCl hC h4 ho ht hmu2 _ _ a nc' c' W T' R eR hBS (fun x hx => ⟨(hPd x hx).1, (hPd x hx).2.1, by have := (hPd x hx).2.2; omega⟩) hCR2 hI hNJ (fun q2 => ?_) (fun q2 => ?_) hF (fun q3 a3 nc3 c3 T3 k1 k2 k3 k4 k5 k6 => hS q3 a3 nc3 c3 T3 k1 k2 k3 (fun j hj => by rw [k4 j hj, hT1 j hj]) (fun q4 => by rw [k5 q4, hT2 (by omega)]) k6)
      · rw [if_pos q2]
        exact ⟨Nat.le_refl 1, fun _ => by rw [hT2 (by omega)]; exact hT (by omega), fun z => absurd z (by decide)⟩
      · rw [if_neg q2]
        omega
theorem parse (hn : n ≤ 96) (hk : key < 3) (hCl : Cl b n (nI key) PF PT A) : ∀ d, ChS b n key PF A d ∧ PcS b n key PF A d
  | 0 => ⟨fun lvl o t S nc c na W T R hl ho ht hmu => absurd hmu (Nat.not_lt_zero _), fun o t S nc c na W0 k T R ho ht hmu => absurd hmu (Nat.not_lt_zero _)⟩
  | d + 1 => by
    obtain ⟨h1, h2⟩ := parse hn hk hCl d
    exact ⟨ch_s hn hCl h1 h2, pc_s hn hk hCl h1 h2⟩
end PARSE
/-- the whole: what the class takes, the model takes -/
theorem parse_E {b : Nat → Int32} {n key : Nat} {cs : Nat → Int32} (hn : n ≤ 96) (hk : key < 3) (hky : pTk b n cs = nI key) (hp0 : 0 < tE b n 0) (A : AT) (hCl : Cl b n (nI key) (fun p => pTB b n cs = false ∧ p = (pTS b n cs).1) (fun nc c na => pTB b n cs = true ∧ CRM key (pTS b n cs) nc c na) A) (c : Nat → Int32) : A (tE b n 0) 0 c 0 [] 0 0 true (fun _ => false) := by
  have h0 : 0 ≤ pTk b n cs := by rw [hky]; exact nI_0le (by omega)
  have eS : pTS b n cs = (pTr b n cs).2 := if_pos h0
  have hE := tE_b (b := b) (n := n) (p := 0) (Nat.zero_le n)
  have hr : pr b n (nI key) 71 0 0 0 (pStep b n (pS0 cs)) = pTr b n cs := by unfold pTr; rw [hky]
  obtain ⟨hch, -⟩ := parse hn hk hCl 71
  obtain ⟨h_not, h_open, h_part, h_bad, h_close, h_sign, h_bad2, h_end⟩ := hCl
  refine hch 0 0 0 (pStep b n (pS0 cs)) 0 c 0 [] (fun _ => false) (pTr b n cs) (by omega) (by omega) (by omega) (by decide) ⟨rfl, rfl, fun j hj => absurd hj (Nat.not_lt_zero j)⟩ ⟨hE.2.1, hp0, by omega, rfl, rfl⟩ (fun x W' e => by cases e) (fun _ => rfl) hr (fun q => ⟨pTB_r (by rw [q]; decide), by rw [eS]⟩) (fun q a nc' c' T' hPd hCR hI hT1 hT2 hNJ => ?_)
  by_cases hK : tK b n (pTr b n cs).2.1 = 0
  · refine h_end _ nc' c' _ _ 0 0 T' _ _ _ hI hK (mSet_app (fun x hx => ⟨(hPd x hx).1, Nat.zero_le _⟩)) (fun _ => ⟨pTB_t h0 q hK, ?_⟩) (fun z => absurd rfl z)
    rw [eS]
    exact hCR
  · refine h_bad2 _ nc' c' _ _ 0 0 T' hI hK (fun z => absurd z.2.2 (Nat.lt_irrefl 0)) ?_ ⟨pTB_k hK, by rw [eS]⟩
    by_cases hs : sgQ b n (pTr b n cs).2.1 = 0
    · exact Or.inl hs
    · rcases hNJ hs with z | z
      · have := (sgQ_rk hs).1
        omega
      · exact Or.inr ⟨z.1, z.2.2⟩
