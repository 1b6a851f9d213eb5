/-! the model's steps and the class's descent -/
/-- the model's codes say the class's -/
def CRM (key : Nat) (S : PS) (nc : Nat) (c : Nat → Int32) (na : Nat) : Prop := S.2.2.1 = nc ∧ S.2.2.2 = na ∧ ∀ j, j < nc → c j = trC key (S.2.1 j)
def mPs : List Int32 → Nat → (Nat → Int32) → Nat × (Nat → Int32)
  | [], nc, c => (nc, c)
  | x :: W, nc, c => mPs W (nc + 1) (upd c nc x)
theorem mPs_1 : ∀ (a : List Int32) (nc : Nat) (c : Nat → Int32), (mPs a nc c).1 = nc + a.length
  | [], _, _ => rfl
  | x :: a, nc, c => by
    show (mPs a (nc + 1) (upd c nc x)).1 = _
    rw [mPs_1]
    simp
    omega
theorem mPs_lo : ∀ (a : List Int32) (nc : Nat) (c : Nat → Int32) (j : Nat), j < nc → (mPs a nc c).2 j = c j
  | [], _, _, _, _ => rfl
  | x :: a, nc, c, j, h => by
    show (mPs a (nc + 1) (upd c nc x)).2 j = _
    rw [mPs_lo a _ _ j (by omega), upd_n (by omega)]
theorem mPs_app : ∀ (a a' : List Int32) (nc : Nat) (c : Nat → Int32), mPs (a ++ a') nc c = mPs a' (mPs a nc c).1 (mPs a nc c).2
  | [], _, _, _ => rfl
  | x :: a, a', nc, c => mPs_app a a' (nc + 1) (upd c nc x)
/-- a base that a settling of more than lvl leaves alone -/
def BS (lvl : Nat) (W : List Int32) : Prop := ∀ x W', W = x :: W' → x = -11 ∨ rkN x ≤ lvl
def Pd (lvl : Nat) (a : List Int32) : Prop := ∀ x, x ∈ a → x ≠ -11 ∧ x ≠ -10 ∧ lvl + 1 ≤ rkN x
theorem mSet_BS {L : Nat} {W : List Int32} {nc : Nat} {c : Nat → Int32} (h : BS (L - 1) W) (hL : 1 ≤ L) : mSet L W nc c = (W, nc, c) := by
  cases W with
  | nil => rfl
  | cons x W =>
    refine if_neg (fun z => ?_)
    rcases h x W rfl with q | q
    · exact z.1 q
    · have := z.2; omega
theorem mSet_app {L : Nat} : ∀ {a W : List Int32} {nc : Nat} {c : Nat → Int32}, (∀ x, x ∈ a → x ≠ -11 ∧ L ≤ rkN x) → mSet L (a ++ W) nc c = mSet L W (mPs a nc c).1 (mPs a nc c).2
  | [], _, _, _, _ => rfl
  | x :: a, W, nc, c, h => by
    have h1 := h x List.mem_cons_self
    show (if ¬ x = -11 ∧ L ≤ rkN x then mSet L (a ++ W) (nc + 1) (upd c nc x) else (x :: (a ++ W), nc, c)) = _
    rw [if_pos h1, mSet_app (fun y hy => h y (List.mem_cons_of_mem _ hy))]
    rfl
theorem cntN_app : ∀ (a W : List Int32), cntN (a ++ W) = cntN a + cntN W
  | [], W => (Nat.zero_add _).symm
  | x :: a, W => by
    show cntN (a ++ W) + _ = cntN a + _ + cntN W
    rw [cntN_app a W]
    omega
theorem cntO_app : ∀ (a W : List Int32), cntO (a ++ W) = cntO a + cntO W
  | [], W => (Nat.zero_add _).symm
  | x :: a, W => by
    show cntO (a ++ W) + _ = cntO a + _ + cntO W
    rw [cntO_app a W]
    omega
theorem Pd_0 {lvl : Nat} : ∀ {a : List Int32}, Pd lvl a → cntN a = 0 ∧ cntO a = 0
  | [], _ => ⟨rfl, rfl⟩
  | x :: a, h => by
    have h1 := h x List.mem_cons_self
    have h2 := Pd_0 (lvl := lvl) (a := a) (fun y hy => h y (List.mem_cons_of_mem _ hy))
    refine ⟨?_, ?_⟩
    · show cntN a + (if x = -10 then 1 else 0) = 0
      rw [if_neg h1.2.1, h2.1]
    · show cntO a + (if x = -11 then 1 else 0) = 0
      rw [if_neg h1.1, h2.2]
/-- nots -/
def ns (k : Nat) : List Int32 := List.replicate k (-10)
theorem ns_s (k : Nat) (W : List Int32) : ns (k + 1) ++ W = -10 :: (ns k ++ W) := rfl
theorem ns_m {k : Nat} {x : Int32} (h : x ∈ ns k) : x ≠ -11 ∧ 6 ≤ rkN x := by
  rw [List.eq_of_mem_replicate h]
  decide
theorem mSet_ns {k : Nat} {W0 : List Int32} {nc : Nat} {c : Nat → Int32} (h : BS 5 W0) : mSet 6 (ns k ++ W0) nc c = (W0, (mPs (ns k) nc c).1, (mPs (ns k) nc c).2) := by
  rw [mSet_app (fun x hx => ns_m hx), mSet_BS (L := 6) h (by decide)]
theorem ns_at : ∀ (k nc : Nat) (c : Nat → Int32) (j : Nat), nc ≤ j → j < nc + k → (mPs (ns k) nc c).2 j = -10
  | 0, nc, c, j, h1, h2 => by omega
  | k + 1, nc, c, j, h1, h2 => by
    show (mPs (ns k) (nc + 1) (upd c nc (-10))).2 j = -10
    by_cases e : j = nc
    · rw [mPs_lo _ _ _ _ (by omega), e, upd_s]
    · exact ns_at k (nc + 1) _ j (by omega) (by omega)
/-- the class's codes, k nots behind them -/
def CK (key : Nat) (S : PS) (k nc : Nat) (c : Nat → Int32) (na : Nat) : Prop := nc = S.2.2.1 + k ∧ S.2.2.2 = na ∧ (∀ j, j < S.2.2.1 → c j = trC key (S.2.1 j)) ∧ ∀ j, S.2.2.1 ≤ j → j < S.2.2.1 + k → c j = -10
theorem CRM.nots {key : Nat} {S : PS} {k nc : Nat} {c : Nat → Int32} {na : Nat} (h : CRM key S nc c na) : CK key S k (mPs (ns k) nc c).1 (mPs (ns k) nc c).2 na := by
  obtain ⟨h1, h2, h3⟩ := h
  subst h1
  refine ⟨by rw [mPs_1]; unfold ns; rw [List.length_replicate], h2, fun j hj => by rw [mPs_lo _ _ _ _ hj, h3 j hj], fun j h4 h5 => ns_at k _ c j h4 h5⟩
theorem CK.put {key : Nat} {S : PS} {k nc : Nat} {c : Nat → Int32} {na : Nat} (h : CK key S (k + 1) nc c na) (hs : S.2.2.1 < 96) : CK key (pPut S (-5)) k nc c na := by
  obtain ⟨h1, h2, h3, h4⟩ := h
  have e : pPut S (-5) = (S.1, upd S.2.1 S.2.2.1 (-5), S.2.2.1 + 1, S.2.2.2) := if_neg (by omega)
  rw [e]
  refine ⟨by show nc = S.2.2.1 + 1 + k; omega, h2, fun j hj => ?_, fun j h5 h6 => h4 j (by have : S.2.2.1 + 1 ≤ j := h5; omega) (by have : j < S.2.2.1 + 1 + k := h6; omega)⟩
  show c j = trC key (upd S.2.1 S.2.2.1 (-5) j)
  by_cases q : j = S.2.2.1
  · rw [q, upd_s, h4 _ (Nat.le_refl _) (by omega)]
    rfl
  · rw [upd_n q]
    exact h3 j (by have : j < S.2.2.1 + 1 := hj; omega)
theorem CRM.put {key : Nat} {S : PS} {nc : Nat} {c : Nat → Int32} {na : Nat} {q : Int32} (h : CRM key S nc c na) (hs : nc < 96) : CRM key (pPut S q) (nc + 1) (upd c nc (trC key q)) na := by
  obtain ⟨h1, h2, h3⟩ := h
  subst h1
  have e : pPut S q = (S.1, upd S.2.1 S.2.2.1 q, S.2.2.1 + 1, S.2.2.2) := if_neg (by omega)
  rw [e]
  refine ⟨rfl, h2, fun j hj => ?_⟩
  show upd c S.2.2.1 (trC key q) j = trC key (upd S.2.1 S.2.2.1 q j)
  by_cases z : j = S.2.2.1
  · rw [z, upd_s, upd_s]
  · rw [upd_n z, upd_n z]
    exact h3 j (by omega)
theorem CK_0 {key : Nat} {S : PS} {nc : Nat} {c : Nat → Int32} {na : Nat} (h : CK key S 0 nc c na) : CRM key S nc c na := by
  obtain ⟨h1, h2, h3, -⟩ := h
  exact ⟨by omega, h2, fun j hj => h3 j (by omega)⟩
theorem pPut_1 {S : PS} {q : Int32} : (pPut S q).1 = S.1 := by unfold pPut; split <;> rfl
theorem pPut_3 {S : PS} {q : Int32} : (pPut S q).2.2.2 = S.2.2.2 := by unfold pPut; split <;> rfl
/-- signs -/
theorem pSg_t {b : Nat → Int32} {n : Nat} {S : PS} {x : Int32} : pSg b n S x = true ↔ tK b n S.1 = 3 ∧ b (tS b n S.1) = x := by
  unfold pSg sgP
  simp only [Bool.and_eq_true, decide_eq_true_eq]
theorem join_e {b : Nat → Int32} {n : Nat} {S : PS} {lvl key : Nat} (hl : lvl ≤ 4) : (pJoin b n (nI lvl) S = -1 ∧ (¬ sgQ b n S.1 = 0 → ¬ rkN (sgQ b n S.1) = lvl + 1)) ∨ (¬ pJoin b n (nI lvl) S = -1 ∧ sgQ b n S.1 = trC key (pJoin b n (nI lvl) S) ∧ ¬ sgQ b n S.1 = 0 ∧ rkN (sgQ b n S.1) = lvl + 1 ∧ sgQ b n S.1 ≠ -10 ∧ sgQ b n S.1 ≠ -11) := by
  by_cases hK : tK b n S.1 = 3
  · have e1 : sgQ b n S.1 = sgF (b (tS b n S.1)) := if_pos hK
    have e2 : ∀ x, (pSg b n S x = true) = (b (tS b n S.1) = x) := fun x => propext ⟨fun z => (pSg_t.mp z).2, fun z => pSg_t.mpr ⟨hK, z⟩⟩
    rw [e1]
    unfold pJoin
    simp only [e2]
    generalize b (tS b n S.1) = x
    by_cases h1 : x = 124
    · subst h1
      rcases (by omega : lvl = 0 ∨ lvl = 1 ∨ lvl = 2 ∨ lvl = 3 ∨ lvl = 4) with rfl | rfl | rfl | rfl | rfl
      · exact Or.inr ⟨by decide, rfl, by decide, by decide, by decide, by decide⟩
      · exact Or.inl ⟨by decide, fun _ => by decide⟩
      · exact Or.inl ⟨by decide, fun _ => by decide⟩
      · exact Or.inl ⟨by decide, fun _ => by decide⟩
      · exact Or.inl ⟨by decide, fun _ => by decide⟩
    by_cases h2 : x = 38
    · subst h2
      rcases (by omega : lvl = 0 ∨ lvl = 1 ∨ lvl = 2 ∨ lvl = 3 ∨ lvl = 4) with rfl | rfl | rfl | rfl | rfl
      · exact Or.inl ⟨by decide, fun _ => by decide⟩
      · exact Or.inr ⟨by decide, rfl, by decide, by decide, by decide, by decide⟩
      · exact Or.inl ⟨by decide, fun _ => by decide⟩
      · exact Or.inl ⟨by decide, fun _ => by decide⟩
      · exact Or.inl ⟨by decide, fun _ => by decide⟩
    by_cases h3 : x = 60
    · subst h3
      rcases (by omega : lvl = 0 ∨ lvl = 1 ∨ lvl = 2 ∨ lvl = 3 ∨ lvl = 4) with rfl | rfl | rfl | rfl | rfl
      · exact Or.inl ⟨by decide, fun _ => by decide⟩
      · exact Or.inl ⟨by decide, fun _ => by decide⟩
      · exact Or.inr ⟨by decide, rfl, by decide, by decide, by decide, by decide⟩
      · exact Or.inl ⟨by decide, fun _ => by decide⟩
      · exact Or.inl ⟨by decide, fun _ => by decide⟩
    by_cases h4 : x = 61
    · subst h4
      rcases (by omega : lvl = 0 ∨ lvl = 1 ∨ lvl = 2 ∨ lvl = 3 ∨ lvl = 4) with rfl | rfl | rfl | rfl | rfl
      · exact Or.inl ⟨by decide, fun _ => by decide⟩
      · exact Or.inl ⟨by decide, fun _ => by decide⟩
      · exact Or.inr ⟨by decide, rfl, by decide, by decide, by decide, by decide⟩
      · exact Or.inl ⟨by decide, fun _ => by decide⟩
      · exact Or.inl ⟨by decide, fun _ => by decide⟩
    by_cases h5 : x = 62
    · subst h5
      rcases (by omega : lvl = 0 ∨ lvl = 1 ∨ lvl = 2 ∨ lvl = 3 ∨ lvl = 4) with rfl | rfl | rfl | rfl | rfl
      · exact Or.inl ⟨by decide, fun _ => by decide⟩
      · exact Or.inl ⟨by decide, fun _ => by decide⟩
      · exact Or.inr ⟨by decide, rfl, by decide, by decide, by decide, by decide⟩
      · exact Or.inl ⟨by decide, fun _ => by decide⟩
      · exact Or.inl ⟨by decide, fun _ => by decide⟩
    by_cases h6 : x = 43
    · subst h6
      rcases (by omega : lvl = 0 ∨ lvl = 1 ∨ lvl = 2 ∨ lvl = 3 ∨ lvl = 4) with rfl | rfl | rfl | rfl | rfl
      · exact Or.inl ⟨by decide, fun _ => by decide⟩
      · exact Or.inl ⟨by decide, fun _ => by decide⟩
      · exact Or.inl ⟨by decide, fun _ => by decide⟩
      · exact Or.inr ⟨by decide, rfl, by decide, by decide, by decide, by decide⟩
      · exact Or.inl ⟨by decide, fun _ => by decide⟩
    by_cases h7 : x = 45
    · subst h7
      rcases (by omega : lvl = 0 ∨ lvl = 1 ∨ lvl = 2 ∨ lvl = 3 ∨ lvl = 4) with rfl | rfl | rfl | rfl | rfl
      · exact Or.inl ⟨by decide, fun _ => by decide⟩
      · exact Or.inl ⟨by decide, fun _ => by decide⟩
      · exact Or.inl ⟨by decide, fun _ => by decide⟩
      · exact Or.inr ⟨by decide, rfl, by decide, by decide, by decide, by decide⟩
      · exact Or.inl ⟨by decide, fun _ => by decide⟩
    by_cases h8 : x = 42
    · subst h8
      rcases (by omega : lvl = 0 ∨ lvl = 1 ∨ lvl = 2 ∨ lvl = 3 ∨ lvl = 4) with rfl | rfl | rfl | rfl | rfl
      · exact Or.inl ⟨by decide, fun _ => by decide⟩
      · exact Or.inl ⟨by decide, fun _ => by decide⟩
      · exact Or.inl ⟨by decide, fun _ => by decide⟩
      · exact Or.inl ⟨by decide, fun _ => by decide⟩
      · exact Or.inr ⟨by decide, rfl, by decide, by decide, by decide, by decide⟩
    by_cases h9 : x = 47
    · subst h9
      rcases (by omega : lvl = 0 ∨ lvl = 1 ∨ lvl = 2 ∨ lvl = 3 ∨ lvl = 4) with rfl | rfl | rfl | rfl | rfl
      · exact Or.inl ⟨by decide, fun _ => by decide⟩
      · exact Or.inl ⟨by decide, fun _ => by decide⟩
      · exact Or.inl ⟨by decide, fun _ => by decide⟩
      · exact Or.inl ⟨by decide, fun _ => by decide⟩
      · exact Or.inr ⟨by decide, rfl, by decide, by decide, by decide, by decide⟩
    refine Or.inl ⟨?_, fun z => absurd (show sgF x = 0 by unfold sgF; rw [if_neg h2, if_neg h8, if_neg h6, if_neg h7, if_neg h9, if_neg h3, if_neg h4, if_neg h5, if_neg h1]) z⟩
    rw [if_neg h1, if_neg h2, if_neg h3, if_neg h4, if_neg h5, if_neg h6, if_neg h7, if_neg h8, if_neg h9]
    (repeat' split) <;> rfl
  · have e1 : sgQ b n S.1 = 0 := if_neg hK
    have e2 : ∀ x, ¬ pSg b n S x = true := fun x z => hK (pSg_t.mp z).1
    refine Or.inl ⟨?_, fun z => absurd e1 z⟩
    unfold pJoin
    rw [if_neg (e2 _), if_neg (e2 _), if_neg (e2 _), if_neg (e2 _), if_neg (e2 _), if_neg (e2 _), if_neg (e2 _), if_neg (e2 _), if_neg (e2 _)]
    (repeat' split) <;> rfl
theorem sgQ_rk {b : Nat → Int32} {n p : Nat} (h : ¬ sgQ b n p = 0) : 1 ≤ rkN (sgQ b n p) ∧ rkN (sgQ b n p) ≤ 5 := by
  have hK := sgP_3 h
  have e1 : sgQ b n p = sgF (b (tS b n p)) := if_pos hK
  rw [e1] at h ⊢
  unfold sgF at h ⊢
  revert h
  (repeat' split) <;> decide
/-- the place never goes back -/
theorem pLoop_mono {F : PS → Bool × PS} {J : PS → Int32} {st : PS → PS} {n : Nat} (hF : ∀ S, pOk n S → S.1 ≤ (F S).2.1) (hok : ∀ S, pOk n S → pOk n (F S).2) (hs : ∀ S, pOk n S → S.1 ≤ (st S).1 ∧ pOk n (st S)) : ∀ i S, pOk n S → S.1 ≤ (pLoop F J st i S).2.1
  | 0, S, _ => Nat.le_refl _
  | i + 1, S, h => by
    unfold pLoop
    have h1 := hs S h
    have h2 := hF _ h1.2
    have h3 := hok _ h1.2
    split
    · exact Nat.le_refl _
    · split
      · have := pLoop_mono (J := J) hF hok hs i (pPut (F (st S)).2 (J S)) (pPut_ok h3)
        rw [pPut_1] at this
        omega
      · show S.1 ≤ (F (st S)).2.1
        omega
theorem pStep_mono {b : Nat → Int32} {n : Nat} {S : PS} (h : pOk n S) : S.1 ≤ (pStep b n S).1 := by
  have h1 := tS_b (b := b) h.1
  have h2 := tE_b (b := b) h.1
  show S.1 ≤ tE b n S.1
  omega
theorem pr_mono {b : Nat → Int32} {n : Nat} {key : Int32} : ∀ d lvl o t S, pOk n S → S.1 ≤ (pr b n key d lvl o t S).2.1
  | 0, _, _, _, S, h => Nat.le_refl _
  | d + 1, lvl, o, t, S, h => by
    have ih := fun lvl o t S h => pr_mono (b := b) (n := n) (key := key) d lvl o t S h
    have io := fun lvl o t S h => pr_ok (b := b) (n := n) (key := key) d lvl o t S h
    have hs := pStep_mono (b := b) h
    have ho := pStep_ok (b := b) h
    unfold pr
    split
    · have h1 := ih (lvl + 1) o t S h
      split
      · have h2 := pLoop_mono (F := pr b n key d (lvl + 1) o t) (J := pJoin b n (nI lvl)) (st := pStep b n) (fun S h => ih _ _ _ S h) (fun S h => io _ _ _ S h) (fun S h => ⟨pStep_mono h, pStep_ok h⟩) (if lvl = 2 then 1 else 96) _ (io (lvl + 1) o t S h)
        omega
      · exact h1
    · split
      · exact ih _ _ _ S h
      · split
        · have h1 := ih 6 o (t + 1) _ ho
          split
          · split
            · show S.1 ≤ (pPut _ _).1
              rw [pPut_1]
              omega
            · show S.1 ≤ (pr b n key d 6 o (t + 1) (pStep b n S)).2.1
              omega
          · exact Nat.le_refl _
        · split
          · have h1 := ih 0 (o + 1) t _ ho
            have h2 := pStep_mono (b := b) (io 0 (o + 1) t _ ho)
            split
            · split
              · show S.1 ≤ (pStep b n (pr b n key d 0 (o + 1) t (pStep b n S)).2).1
                omega
              · show S.1 ≤ (pr b n key d 0 (o + 1) t (pStep b n S)).2.1
                omega
            · exact Nat.le_refl _
          · split
            · exact Nat.le_refl _
            · have h1 := pStep_mono (b := b) (S := pOne (pPut S (pAtom b n key S))) (pOne_ok (pPut_ok h))
              have h2 : (pOne (pPut S (pAtom b n key S))).1 = S.1 := pPut_1
              show S.1 ≤ (pStep b n (pOne (pPut S (pAtom b n key S)))).1
              omega
