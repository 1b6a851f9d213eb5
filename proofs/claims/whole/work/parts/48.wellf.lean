/-! a row that the class takes is whole -/
def Gd (key : Nat) (c : Nat → Int32) (a e : Nat) : Prop := a ≤ e ∧ (∀ i, a ≤ i → i < e → okC key (c i) ∧ (¬ c i ≤ -5 ∨ (c i = -5 ∧ dep c a + 1 ≤ dep c i) ∨ (c i ≤ -5 ∧ ¬ c i = -5 ∧ dep c a + 2 ≤ dep c i))) ∧ dep c e = dep c a + 1
theorem dep_eq {c c' : Nat → Int32} : ∀ {e : Nat}, (∀ j, j < e → c' j = c j) → dep c' e = dep c e
  | 0, _ => rfl
  | e + 1, h => by
    show (if ¬ c' e ≤ -5 then dep c' e + 1 else if c' e = -5 then dep c' e else dep c' e - 1) = if ¬ c e ≤ -5 then dep c e + 1 else if c e = -5 then dep c e else dep c e - 1
    rw [h e (by omega), dep_eq (fun j hj => h j (by omega))]
theorem Gd.eq {key : Nat} {c c' : Nat → Int32} {a e : Nat} (h : Gd key c a e) (he : ∀ j, j < e → c' j = c j) : Gd key c' a e := by
  obtain ⟨h1, h2, h3⟩ := h
  have ea : dep c' a = dep c a := dep_eq (fun j hj => he j (by omega))
  refine ⟨h1, fun i hi hie => ?_, by rw [dep_eq he, ea, h3]⟩
  rw [he i hie, ea, dep_eq (fun j hj => he j (by omega))]
  exact h2 i hi hie
theorem Gd.atom {key : Nat} {c : Nat → Int32} {a : Nat} {q : Int32} (ho : okC key q) (hq : ¬ q ≤ -5) : Gd key (upd c a q) a (a + 1) := by
  refine ⟨by omega, fun i h1 h2 => ?_, ?_⟩
  · obtain rfl : i = a := by omega
    rw [upd_s]
    exact ⟨ho, Or.inl hq⟩
  · show (if ¬ upd c a q a ≤ -5 then dep (upd c a q) a + 1 else _) = _
    rw [upd_s, if_pos hq]
theorem Gd.not {key : Nat} {c : Nat → Int32} {a e : Nat} (h : Gd key c a e) : Gd key (upd c e (-5)) a (e + 1) := by
  have h' := h.eq (c' := upd c e (-5)) (fun j hj => upd_n (by omega))
  obtain ⟨h1, h2, h3⟩ := h'
  refine ⟨by omega, fun i hi hie => ?_, ?_⟩
  · by_cases q : i = e
    · subst q
      rw [upd_s]
      exact ⟨Or.inr (Or.inr (Or.inr (Or.inr (Or.inl rfl)))), Or.inr (Or.inl ⟨rfl, by omega⟩)⟩
    · exact h2 i hi (by omega)
  · show (if ¬ upd c e (-5) e ≤ -5 then dep (upd c e (-5)) e + 1 else if upd c e (-5) e = -5 then dep (upd c e (-5)) e else _) = _
    rw [upd_s, if_neg (fun z => z (Int32.le_refl _)), if_pos rfl, h3]
theorem Gd.join {key : Nat} {c : Nat → Int32} {a m e : Nat} {q : Int32} (h : Gd key c a m) (h2 : Gd key c m e) (ho : okC key q) (hq : q ≤ -5) (hq5 : ¬ q = -5) : Gd key (upd c e q) a (e + 1) := by
  have k1 := h.eq (c' := upd c e q) (fun j hj => upd_n (by have := h2.1; omega))
  have k2 := h2.eq (c' := upd c e q) (fun j hj => upd_n (by omega))
  obtain ⟨a1, a2, a3⟩ := k1
  obtain ⟨b1, b2, b3⟩ := k2
  refine ⟨by omega, fun i hi hie => ?_, ?_⟩
  · by_cases z : i = e
    · subst z
      rw [upd_s]
      exact ⟨ho, Or.inr (Or.inr ⟨hq, hq5, by omega⟩)⟩
    · by_cases z2 : i < m
      · exact a2 i hi z2
      · obtain ⟨o1, o2⟩ := b2 i (by omega) (by omega)
        refine ⟨o1, ?_⟩
        rcases o2 with y | ⟨y, y2⟩ | ⟨y, y2, y3⟩
        · exact Or.inl y
        · exact Or.inr (Or.inl ⟨y, by omega⟩)
        · exact Or.inr (Or.inr ⟨y, y2, by omega⟩)
  · show (if ¬ upd c e q e ≤ -5 then dep (upd c e q) e + 1 else if upd c e q e = -5 then dep (upd c e q) e else dep (upd c e q) e - 1) = _
    rw [upd_s, if_neg (fun z => z hq), if_neg hq5]
    omega
theorem join_ok {b : Nat → Int32} {n key : Nat} {lvl : Int32} {S : PS} (h : ¬ pJoin b n lvl S = -1) : okC key (pJoin b n lvl S) ∧ pJoin b n lvl S ≤ -5 ∧ ¬ pJoin b n lvl S = -5 ∧ tK b n S.1 = 3 := by
  have hK : ∀ x, pSg b n S x = true → tK b n S.1 = 3 := fun x z => (pSg_t.mp z).1
  unfold pJoin at h ⊢
  revert h
  unfold okC
  (repeat' split) <;> intro h
  all_goals first
    | exact absurd rfl h
    | exact ⟨by simp, by decide, by decide, hK _ (by assumption)⟩
theorem atom_ge {b : Nat → Int32} {n key : Nat} (hk : key < 3) {S : PS} (hS : S.1 ≤ n) (h : ¬ pAtom b n (nI key) S = -1) : okC key (pAtom b n (nI key) S) ∧ ¬ pAtom b n (nI key) S ≤ -5 ∧ ¬ tK b n S.1 = 0 := by
  rcases atom_e (b := b) hk hS with ⟨z1, -⟩ | ⟨-, z2, z3, z4⟩
  · exact absurd z1 h
  · refine ⟨z4, fun q => ?_, (mPt_0 z2).1⟩
    have h1 := okC_lt z4 q
    rw [← z3] at h1
    unfold mAt at h1
    by_cases h2 : tK b n S.1 = 2
    · obtain ⟨m, hm, e⟩ := num_ok hS h2
      rw [if_pos h2, e] at h1
      exact nI_n0 m (by omega) h1
    · rw [if_neg h2] at h1
      have h3 := (z2.resolve_left h2).2.2
      revert h1 h3
      unfold nmF
      (repeat' split) <;> decide
/-- from S the class came to S', and all between is whole if ok -/
def St (n key : Nat) (S S' : PS) (ok : Bool) : Prop := S'.1 ≤ n ∧ S.2.2.1 ≤ S'.2.2.1 ∧ S'.2.2.1 + S.1 ≤ S.2.2.1 + S'.1 ∧ (∀ j, j < S.2.2.1 → S'.2.1 j = S.2.1 j) ∧ (ok = true → Gd key S'.2.1 S.2.2.1 S'.2.2.1)
theorem pPut_e {S : PS} {q : Int32} (h : S.2.2.1 < 96) : pPut S q = (S.1, upd S.2.1 S.2.2.1 q, S.2.2.1 + 1, S.2.2.2) := if_neg (by omega)
section WF48
variable {b : Nat → Int32} {n key : Nat}
def GF (n key : Nat) (F : PS → Bool × PS) : Prop := ∀ S : PS, S.1 ≤ n → S.2.2.1 ≤ S.1 → St n key S (F S).2 (F S).1
theorem loop_g (hn : n ≤ 96) (lvl : Int32) {F : PS → Bool × PS} (hF : GF n key F) : ∀ (i : Nat) (S0 S : PS), S.1 ≤ n → S.2.2.1 ≤ S.1 → St n key S0 S true → St n key S0 (pLoop F (pJoin b n lvl) (pStep b n) i S).2 (pLoop F (pJoin b n lvl) (pStep b n) i S).1
  | 0, S0, S, _, _, h => h
  | i + 1, S0, S, hp, hb, h => by
    by_cases j1 : pJoin b n lvl S = -1
    · rw [show pLoop F (pJoin b n lvl) (pStep b n) (i + 1) S = (true, S) from if_pos j1]
      exact h
    · obtain ⟨q1, q2, q3, q4⟩ := join_ok (key := key) j1
      have ha := adv (b := b) hp (by rw [q4]; decide)
      have e1 : pLoop F (pJoin b n lvl) (pStep b n) (i + 1) S = if (F (pStep b n S)).1 = true then pLoop F (pJoin b n lvl) (pStep b n) i (pPut (F (pStep b n S)).2 (pJoin b n lvl S)) else (false, (F (pStep b n S)).2) := if_neg j1
      rw [e1]
      obtain ⟨f1, f2, f3, f4, f5⟩ := hF (pStep b n S) ha.2 (by show S.2.2.1 ≤ tE b n S.1; omega)
      obtain ⟨s1, s2, s3, s4, s5⟩ := h
      have f2 : S.2.2.1 ≤ (F (pStep b n S)).2.2.2.1 := f2
      have f3 : (F (pStep b n S)).2.2.2.1 + tE b n S.1 ≤ S.2.2.1 + (F (pStep b n S)).2.1 := f3
      have f4 : ∀ j, j < S.2.2.1 → (F (pStep b n S)).2.2.1 j = S.2.1 j := f4
      by_cases g : (F (pStep b n S)).1 = true
      · rw [if_pos g]
        have f5 : Gd key (F (pStep b n S)).2.2.1 S.2.2.1 (F (pStep b n S)).2.2.2.1 := f5 g
        have e2 := pPut_e (S := (F (pStep b n S)).2) (q := pJoin b n lvl S) (by omega)
        rw [e2]
        refine loop_g hn lvl hF i S0 _ f1 (by show (F (pStep b n S)).2.2.2.1 + 1 ≤ (F (pStep b n S)).2.1; omega) ⟨f1, by show S0.2.2.1 ≤ (F (pStep b n S)).2.2.2.1 + 1; omega, by show (F (pStep b n S)).2.2.2.1 + 1 + S0.1 ≤ S0.2.2.1 + (F (pStep b n S)).2.1; omega, fun j hj => ?_, fun _ => ?_⟩
        · show upd (F (pStep b n S)).2.2.1 (F (pStep b n S)).2.2.2.1 (pJoin b n lvl S) j = S0.2.1 j
          rw [upd_n (by omega), f4 j (by omega), s4 j hj]
        · exact ((s5 rfl).eq f4).join f5 q1 q2 q3
      · rw [if_neg g]
        refine ⟨f1, by show S0.2.2.1 ≤ (F (pStep b n S)).2.2.2.1; omega, by show (F (pStep b n S)).2.2.2.1 + S0.1 ≤ S0.2.2.1 + (F (pStep b n S)).2.1; omega, fun j hj => ?_, fun z => by cases z⟩
        show (F (pStep b n S)).2.2.1 j = S0.2.1 j
        rw [f4 j (by omega), s4 j hj]
theorem pr_g (hn : n ≤ 96) (hk : key < 3) : ∀ d lvl o t, GF n key (pr b n (nI key) d lvl o t)
  | 0, _, _, _ => fun S hp hb => ⟨hp, Nat.le_refl _, Nat.le_refl _, fun _ _ => rfl, fun z => by cases z⟩
  | d + 1, lvl, o, t => by
    intro S hp hb
    have ih := fun lvl o t => pr_g hn hk d lvl o t
    have rf : St n key S S false := ⟨hp, Nat.le_refl _, Nat.le_refl _, fun _ _ => rfl, fun z => by cases z⟩
    by_cases h4 : lvl ≤ 4
    · rw [pr_lo h4]
      have h1 := ih (lvl + 1) o t S hp hb
      by_cases g : (pr b n (nI key) d (lvl + 1) o t S).1 = true
      · rw [if_pos g]
        rw [g] at h1
        exact loop_g hn (nI lvl) (ih (lvl + 1) o t) _ S _ h1.1 (by have := h1.2.2.1; omega) h1
      · rw [if_neg g]
        rw [Bool.eq_false_iff.mpr g] at h1
        exact h1
    · by_cases h5 : lvl = 5
      · subst h5
        rw [pr_5]
        exact ih 6 o t S hp hb
      · have e6 : pr b n (nI key) (d + 1) lvl o t S = pr b n (nI key) (d + 1) 6 o t S := by
          unfold pr
          rw [if_neg h4, if_neg h5]
          rfl
        rw [e6, pr_6]
        by_cases s1 : pSg b n S 33 = true
        · have ha := adv (b := b) hp (by rw [(pSg_t.mp s1).1]; decide)
          rw [if_pos s1]
          by_cases t8 : t < 8
          · rw [if_pos t8]
            obtain ⟨f1, f2, f3, f4, f5⟩ := ih 6 o (t + 1) (pStep b n S) ha.2 (by show S.2.2.1 ≤ tE b n S.1; omega)
            have f2 : S.2.2.1 ≤ (pr b n (nI key) d 6 o (t + 1) (pStep b n S)).2.2.2.1 := f2
            have f3 : (pr b n (nI key) d 6 o (t + 1) (pStep b n S)).2.2.2.1 + tE b n S.1 ≤ S.2.2.1 + (pr b n (nI key) d 6 o (t + 1) (pStep b n S)).2.1 := f3
            have f4 : ∀ j, j < S.2.2.1 → (pr b n (nI key) d 6 o (t + 1) (pStep b n S)).2.2.1 j = S.2.1 j := f4
            by_cases g : (pr b n (nI key) d 6 o (t + 1) (pStep b n S)).1 = true
            · rw [if_pos g]
              have f5 : Gd key (pr b n (nI key) d 6 o (t + 1) (pStep b n S)).2.2.1 S.2.2.1 (pr b n (nI key) d 6 o (t + 1) (pStep b n S)).2.2.2.1 := f5 g
              rw [pPut_e (S := (pr b n (nI key) d 6 o (t + 1) (pStep b n S)).2) (by omega)]
              refine ⟨f1, by show S.2.2.1 ≤ (pr b n (nI key) d 6 o (t + 1) (pStep b n S)).2.2.2.1 + 1; omega, by show (pr b n (nI key) d 6 o (t + 1) (pStep b n S)).2.2.2.1 + 1 + S.1 ≤ S.2.2.1 + (pr b n (nI key) d 6 o (t + 1) (pStep b n S)).2.1; omega, fun j hj => ?_, fun _ => f5.not⟩
              show upd _ _ _ j = S.2.1 j
              rw [upd_n (by omega), f4 j hj]
            · rw [if_neg g]
              exact ⟨f1, f2, by show (pr b n (nI key) d 6 o (t + 1) (pStep b n S)).2.2.2.1 + S.1 ≤ S.2.2.1 + (pr b n (nI key) d 6 o (t + 1) (pStep b n S)).2.1; omega, f4, fun z => by cases z⟩
          · rw [if_neg t8]
            exact rf
        · rw [if_neg s1]
          by_cases s2 : pSg b n S 40 = true
          · have ha := adv (b := b) hp (by rw [(pSg_t.mp s2).1]; decide)
            rw [if_pos s2]
            by_cases o8 : o < 8
            · rw [if_pos o8]
              obtain ⟨f1, f2, f3, f4, f5⟩ := ih 0 (o + 1) t (pStep b n S) ha.2 (by show S.2.2.1 ≤ tE b n S.1; omega)
              have f2 : S.2.2.1 ≤ (pr b n (nI key) d 0 (o + 1) t (pStep b n S)).2.2.2.1 := f2
              have f3 : (pr b n (nI key) d 0 (o + 1) t (pStep b n S)).2.2.2.1 + tE b n S.1 ≤ S.2.2.1 + (pr b n (nI key) d 0 (o + 1) t (pStep b n S)).2.1 := f3
              have f4 : ∀ j, j < S.2.2.1 → (pr b n (nI key) d 0 (o + 1) t (pStep b n S)).2.2.1 j = S.2.1 j := f4
              by_cases g : (pr b n (nI key) d 0 (o + 1) t (pStep b n S)).1 = true ∧ pSg b n (pr b n (nI key) d 0 (o + 1) t (pStep b n S)).2 41 = true
              · rw [if_pos g]
                have hb2 := adv (b := b) f1 (by rw [(pSg_t.mp g.2).1]; decide)
                exact ⟨hb2.2, f2, by show (pr b n (nI key) d 0 (o + 1) t (pStep b n S)).2.2.2.1 + S.1 ≤ S.2.2.1 + tE b n (pr b n (nI key) d 0 (o + 1) t (pStep b n S)).2.1; omega, f4, fun _ => f5 g.1⟩
              · rw [if_neg g]
                exact ⟨f1, f2, by show (pr b n (nI key) d 0 (o + 1) t (pStep b n S)).2.2.2.1 + S.1 ≤ S.2.2.1 + (pr b n (nI key) d 0 (o + 1) t (pStep b n S)).2.1; omega, f4, fun z => by cases z⟩
            · rw [if_neg o8]
              exact rf
          · rw [if_neg s2]
            by_cases z1 : pAtom b n (nI key) S = -1
            · rw [if_pos z1]
              exact rf
            · rw [if_neg z1]
              obtain ⟨q1, q2, q3⟩ := atom_ge (b := b) hk hp z1
              have ha := adv (b := b) hp q3
              rw [pPut_e (S := S) (by omega)]
              refine ⟨ha.2, by show S.2.2.1 ≤ S.2.2.1 + 1; omega, by show S.2.2.1 + 1 + S.1 ≤ S.2.2.1 + tE b n S.1; omega, fun j hj => upd_n (by omega), fun _ => Gd.atom q1 q2⟩
theorem wf_E {cs : Nat → Int32} (hn : n ≤ 96) (hk : key < 3) (hky : pTk b n cs = nI key) (h : pTB b n cs = true) : wfT (pTS b n cs).2.1 (pTS b n cs).2.2.1 ∧ ∀ k, k < (pTS b n cs).2.2.1 → okC key ((pTS b n cs).2.1 k) := by
  have h0 : 0 ≤ pTk b n cs := by rw [hky]; exact nI_0le (by omega)
  have eS : pTS b n cs = (pTr b n cs).2 := if_pos h0
  have hE := tE_b (b := b) (n := n) (p := 0) (Nat.zero_le n)
  have hr : pr b n (nI key) 71 0 0 0 (pStep b n (pS0 cs)) = pTr b n cs := by unfold pTr; rw [hky]
  have ht : (pTr b n cs).1 = true := Decidable.byContradiction (fun q => by rw [pTB_r q] at h; cases h)
  obtain ⟨f1, f2, f3, f4, f5⟩ := pr_g (b := b) hn hk 71 0 0 0 (pStep b n (pS0 cs)) hE.2.1 (Nat.zero_le _)
  rw [hr] at f1 f2 f3 f4 f5
  rw [eS]
  have f3 : (pTr b n cs).2.2.2.1 + tE b n 0 ≤ 0 + (pTr b n cs).2.1 := f3
  obtain ⟨g1, g2, g3⟩ : Gd key (pTr b n cs).2.2.1 0 (pTr b n cs).2.2.2.1 := f5 ht
  have g3 : dep (pTr b n cs).2.2.1 (pTr b n cs).2.2.2.1 = 1 := g3
  refine ⟨⟨Nat.pos_of_ne_zero (fun z => ?_), by omega, fun i hi => ?_, g3⟩, fun k hk => (g2 k (Nat.zero_le k) hk).1⟩
  · rw [z] at g3
    exact absurd (show (0 : Nat) = 1 from g3) (by decide)
  · have := (g2 i (Nat.zero_le i) hi).2
    have e0 : dep (pTr b n cs).2.2.1 0 = 0 := rfl
    rw [e0] at this
    rcases this with y | ⟨y, y2⟩ | ⟨y, y2, y3⟩
    · exact Or.inl y
    · exact Or.inr (Or.inl ⟨y, by omega⟩)
    · exact Or.inr (Or.inr ⟨y, y2, by omega⟩)
end WF48
