/-! the Reader: the place p behind which the next word stands, the codes, how many, how many pieces -/
abbrev PS : Type := Nat × (Nat → Int32) × Nat × Nat
def pStep (b : Nat → Int32) (n : Nat) (S : PS) : PS := (tE b n S.1, S.2)
def pPut (S : PS) (c : Int32) : PS := if 96 ≤ S.2.2.1 then S else (S.1, upd S.2.1 S.2.2.1 c, S.2.2.1 + 1, S.2.2.2)
def pOne (S : PS) : PS := (S.1, S.2.1, S.2.2.1, S.2.2.2 + 1)
def pSg (b : Nat → Int32) (n : Nat) (S : PS) (c : Int32) : Bool := sgP b (tS b n S.1) (tK b n S.1) c
def pWd (b : Nat → Int32) (n : Nat) (S : PS) (i : Nat) : Bool := wdP b (tS b n S.1) (tE b n S.1) (tK b n S.1) i
def pNum (b : Nat → Int32) (n : Nat) (S : PS) : Int32 := numF b (tS b n S.1) (tE b n S.1 - tS b n S.1)
def pName (b : Nat → Int32) (n : Nat) (key : Int32) (S : PS) : Int32 := if pWd b n S 3 = true then -3 else if pWd b n S 4 = true ∧ key = 0 then -2 else if pWd b n S 5 = true ∧ ¬ key = 1 then -4 else if pWd b n S 6 = true ∧ key = 1 then -4 else -1
def pKey (b : Nat → Int32) (n : Nat) (S : PS) : Int32 := if pWd b n S 0 = true then 0 else if pWd b n S 1 = true then 1 else if pWd b n S 2 = true then 2 else -1
def pJoin (b : Nat → Int32) (n : Nat) (lvl : Int32) (S : PS) : Int32 :=
  if lvl = 0 then (if pSg b n S 124 = true then -6 else -1)
  else if lvl = 1 then (if pSg b n S 38 = true then -7 else -1)
  else if lvl = 2 then (if pSg b n S 60 = true then -8 else if pSg b n S 61 = true then -9 else if pSg b n S 62 = true then -10 else -1)
  else if lvl = 3 then (if pSg b n S 43 = true then -11 else if pSg b n S 45 = true then -12 else -1)
  else (if pSg b n S 42 = true then -13 else if pSg b n S 47 = true then -14 else -1)
def pAtom (b : Nat → Int32) (n : Nat) (key : Int32) (S : PS) : Int32 := if tK b n S.1 = 2 then pNum b n S else pName b n key S
def pLoop (F : PS → Bool × PS) (J : PS → Int32) (st : PS → PS) : Nat → PS → Bool × PS
  | 0, S => (true, S)
  | i + 1, S => if J S = -1 then (true, S) else if (F (st S)).1 = true then pLoop F J st i (pPut (F (st S)).2 (J S)) else (false, (F (st S)).2)
/-- lvl 0 .. 4: a level of E; 5: its innermost; 6: a piece -/
def pr (b : Nat → Int32) (n : Nat) (key : Int32) : Nat → Nat → Nat → Nat → PS → Bool × PS
  | 0, _, _, _, S => (false, S)
  | d + 1, lvl, o, t, S =>
    if lvl ≤ 4 then
      (if (pr b n key d (lvl + 1) o t S).1 = true then pLoop (pr b n key d (lvl + 1) o t) (pJoin b n (nI lvl)) (pStep b n) (if lvl = 2 then 1 else 96) (pr b n key d (lvl + 1) o t S).2
       else (false, (pr b n key d (lvl + 1) o t S).2))
    else if lvl = 5 then pr b n key d 6 o t S
    else if pSg b n S 33 = true then
      (if t < 8 then (if (pr b n key d 6 o (t + 1) (pStep b n S)).1 = true then (true, pPut (pr b n key d 6 o (t + 1) (pStep b n S)).2 (-5)) else (false, (pr b n key d 6 o (t + 1) (pStep b n S)).2)) else (false, S))
    else if pSg b n S 40 = true then
      (if o < 8 then (if (pr b n key d 0 (o + 1) t (pStep b n S)).1 = true ∧ pSg b n (pr b n key d 0 (o + 1) t (pStep b n S)).2 41 = true then (true, pStep b n (pr b n key d 0 (o + 1) t (pStep b n S)).2) else (false, (pr b n key d 0 (o + 1) t (pStep b n S)).2)) else (false, S))
    else if (pAtom b n key S) = -1 then (false, S)
    else (true, pStep b n (pOne (pPut S (pAtom b n key S))))
def pOk (n : Nat) (S : PS) : Prop := S.1 ≤ n ∧ S.2.2.1 ≤ 96
theorem pStep_ok {b : Nat → Int32} {n : Nat} {S : PS} (h : pOk n S) : pOk n (pStep b n S) := ⟨(tE_b h.1).2.1, h.2⟩
theorem pPut_ok {n : Nat} {S : PS} {c : Int32} (h : pOk n S) : pOk n (pPut S c) := by
  unfold pPut
  split
  · exact h
  · exact ⟨h.1, by show S.2.2.1 + 1 ≤ 96; omega⟩
theorem pOne_ok {n : Nat} {S : PS} (h : pOk n S) : pOk n (pOne S) := h
theorem pLoop_ok {n : Nat} {F : PS → Bool × PS} {J : PS → Int32} {st : PS → PS} (hF : ∀ S, pOk n S → pOk n (F S).2) (hs : ∀ S, pOk n S → pOk n (st S)) : ∀ i S, pOk n S → pOk n (pLoop F J st i S).2
  | 0, S, h => h
  | i + 1, S, h => by
    unfold pLoop
    split
    · exact h
    · split
      · exact pLoop_ok hF hs i _ (pPut_ok (hF _ (hs _ h)))
      · exact hF _ (hs _ h)
theorem pr_ok {b : Nat → Int32} {n : Nat} {key : Int32} : ∀ d lvl o t S, pOk n S → pOk n (pr b n key d lvl o t S).2
  | 0, _, _, _, S, h => h
  | d + 1, lvl, o, t, S, h => by
    have ih := fun lvl o t S h => pr_ok (b := b) (n := n) (key := key) d lvl o t S h
    unfold pr
    split
    · split
      · exact pLoop_ok (fun S h => ih _ _ _ S h) (fun S h => pStep_ok h) _ _ (ih _ _ _ S h)
      · exact ih _ _ _ S h
    · split
      · exact ih _ _ _ S h
      · split
        · split
          · split
            · exact pPut_ok (ih _ _ _ _ (pStep_ok h))
            · exact ih _ _ _ _ (pStep_ok h)
          · exact h
        · split
          · split
            · split
              · exact pStep_ok (ih _ _ _ _ (pStep_ok h))
              · exact ih _ _ _ _ (pStep_ok h)
            · exact h
          · split
            · exact h
            · exact pStep_ok (pOne_ok (pPut_ok h))
/-- the Reader and the tape in that state -/
def RSt (σ : Nat → Nat → Int32) (n : Nat) (S : PS) : Nat → Nat → Int32 := up1 (up2 (up2 (T3 σ (nI (tS (σ 33) n S.1)) (nI (tE (σ 33) n S.1)) (tK (σ 33) n S.1)) 34 1 (nI S.2.2.1)) 34 2 (nI S.2.2.2)) 35 S.2.1
theorem RSt_step {σ : Nat → Nat → Int32} {n : Nat} {S : PS} : T3 (RSt σ n S) (nI (tS (σ 33) n (tE (σ 33) n S.1))) (nI (tE (σ 33) n (tE (σ 33) n S.1))) (tK (σ 33) n (tE (σ 33) n S.1)) = RSt σ n (pStep (σ 33) n S) := by
  funext q i
  unfold RSt pStep T3 up1 up2 upd
  by_cases h1 : q = 32 <;> by_cases h2 : q = 34 <;> by_cases h3 : q = 35 <;> by_cases h4 : i = 2 <;> by_cases h5 : i = 3 <;> by_cases h6 : i = 4 <;> simp_all
theorem RSt_put {σ : Nat → Nat → Int32} {n : Nat} {S : PS} {c : Int32} (h : ¬ 96 ≤ S.2.2.1) : up2 (up2 (RSt σ n S) 35 S.2.2.1 c) 34 1 (nI (S.2.2.1 + 1)) = RSt σ n (pPut S c) := by
  unfold pPut
  rw [if_neg h]
  funext q i
  unfold RSt T3 up1 up2 upd
  by_cases h1 : q = 32 <;> by_cases h2 : q = 34 <;> by_cases h3 : q = 35 <;> by_cases h4 : i = 1 <;> by_cases h5 : i = 2 <;> simp_all
theorem RSt_one {σ : Nat → Nat → Int32} {n : Nat} {S : PS} : up2 (RSt σ n S) 34 2 (nI (S.2.2.2 + 1)) = RSt σ n (pOne S) := by
  funext q i
  unfold RSt pOne T3 up1 up2 upd
  by_cases h1 : q = 32 <;> by_cases h2 : q = 34 <;> by_cases h3 : q = 35 <;> by_cases h4 : i = 1 <;> by_cases h5 : i = 2 <;> simp_all
def rmD (d : Nat) : Room := { frames := d + 10, cells := 0, slots := 0, locals := 40 * d + 1000 }
/-- what a step of the Reader needs -/
def RP (σ : Nat → Nat → Int32) (n : Nat) (S : PS) : Prop := σ 32 1 = nI n ∧ n ≤ 96 ∧ pOk n S
theorem RP.ok {σ : Nat → Nat → Int32} {n : Nat} {S S' : PS} (h : RP σ n S) (h' : pOk n S') : RP σ n S' := ⟨h.1, h.2.1, h'⟩
set_option maxRecDepth 100000 in
set_option maxHeartbeats 4000000 in
theorem c_X3_put (B : BT) (σ : Nat → Nat → Int32) (n : Nat) (S : PS) (hp : RP σ n S) (c : Int32) : CV B yX3_put cX3_put 2 none ({ frames := 0, cells := 0, slots := 0, locals := 0 }) [.ref (aB B 34), .int c] (RSt σ n S) (fun σ' => σ' = RSt σ n (pPut S c)) := by
  refine MX.of2 RX3 (by decide) rfl ⟨rfl, rfl⟩ (Nat.le_of_ble_eq_true rfl) (by rfl) (fun k h hr hk => ?_)
  show XC B k (RSt σ n S) 0 [some (.ref (aB B 34)), some (.int c)] []
  refine x_ald0 h dX3_put_0 ?_
  refine r_X3_15 h dX3_put_1 ?_
  refine x_bipush (v := 96) h dX3_put_4 rfl ?_
  refine x_icmp_lt 10 h dX3_put_6 (by decide) (fun c6 => ?_) (fun c6 => ?_)
  · have c6 := n_lt (b := 96) (by have := hp.2.2.2; omega) (by omega) c6
    refine x_ald0 h dX3_put_10 ?_
    refine r_X3_9 h dX3_put_11 ?_
    refine x_ald0 h dX3_put_14 ?_
    refine r_X3_15 h dX3_put_15 ?_
    refine x_ild1 h dX3_put_18 ?_
    refine xc_iastN (S.2.2.1) (rfl) (by omega) (by decide) h 35 (⟨by decide, fun _ _ => rfl⟩ : ArrC 35 96) dX3_put_19 ?_
    refine x_ald0 h dX3_put_20 ?_
    refine x_dup h dX3_put_21 rfl ?_
    refine r_X3_15 h dX3_put_22 ?_
    refine x_iconst (v := 1) h dX3_put_25 rfl ?_
    refine x_iadd h dX3_put_26 ?_
    refine w_X3_15 h dX3_put_27 ?_
    change XC B k (up2 (up2 (RSt σ n S) 35 S.2.2.1 c) 34 1 (nI S.2.2.1 + 1)) 30 _ _
    rw [nI_1, RSt_put (by omega)]
    refine x_vret h hr ?_ dX3_put_30
    exact ⟨_, rfl, rfl, rfl⟩
  · have c6 := n_nlt (b := 96) (by have := hp.2.2.2; omega) (by omega) c6
    refine x_vret h hr ?_ dX3_put_9
    refine ⟨_, rfl, rfl, ?_⟩
    unfold pPut
    rw [if_pos c6]
theorem tK3 {b : Nat → Int32} {n p : Nat} (h : tK b n p = 3) : ¬ n ≤ tS b n p := fun q => by
  unfold tK at h
  rw [if_pos q] at h
  exact absurd h (by decide)
theorem sgs {σ : Nat → Nat → Int32} {n : Nat} {S : PS} (hp : RP σ n S) : RSt σ n S 32 4 = 3 → tS (σ 33) n S.1 < 96 := fun h => by
  have h1 := tK3 (b := σ 33) (n := n) (p := S.1) h
  have := hp.2.1
  omega
set_option maxRecDepth 100000 in
set_option maxHeartbeats 4000000 in
theorem c_X3_keyOf (B : BT) (σ : Nat → Nat → Int32) (n : Nat) (S : PS) (hp : RP σ n S) : CI B yX3_keyOf cX3_keyOf 1 (some .int) ({ frames := 7, cells := 0, slots := 0, locals := 447 }) [.ref (aB B 32)] (RSt σ n S) (fun r σ' => r = pKey (σ 33) n S ∧ σ' = RSt σ n S) := by
  refine MX.of2 RX3 (by decide) rfl ⟨rfl, rfl⟩ (Nat.le_of_ble_eq_true rfl) (by rfl) (fun k h hr hk => ?_)
  show XC B k (RSt σ n S) 0 [some (.ref (aB B 32))] []
  refine x_ald0 h dX3_keyOf_0 ?_
  refine x_ldcs h 0 (by decide) dX3_keyOf_1 ?_
  refine vCI1 32 h cs_X3_46 (c_X6_isWord B (RSt σ n S) _ _ rfl rfl (tE_b (b := σ 33) hp.2.2.1).1 (by have := (tE_b (b := σ 33) hp.2.2.1).2.1; have := hp.2.1; omega) 0 (by decide)) (⟨by decide, fun _ _ => rfl⟩ : ObjC 32 5) rfl ⟨rfl, rfl⟩ ⟨Nat.le_of_ble_eq_true rfl, Nat.le_of_ble_eq_true rfl⟩ (Nat.le_of_ble_eq_true rfl) dX3_keyOf_3 (fun r3 s3 p3 => ?_)
  obtain ⟨rfl, rfl⟩ := p3
  refine x_if_eq 11 h dX3_keyOf_6 (by decide) (fun c6 => ?_) (fun c6 => ?_)
  · have c6 := bI_0.mp c6
    have c6 : ¬ pWd (σ 33) n S 0 = true := c6
    refine x_ald0 h dX3_keyOf_11 ?_
    refine x_ldcs h 1 (by decide) dX3_keyOf_12 ?_
    refine vCI1 32 h cs_X3_46 (c_X6_isWord B (RSt σ n S) _ _ rfl rfl (tE_b (b := σ 33) hp.2.2.1).1 (by have := (tE_b (b := σ 33) hp.2.2.1).2.1; have := hp.2.1; omega) 1 (by decide)) (⟨by decide, fun _ _ => rfl⟩ : ObjC 32 5) rfl ⟨rfl, rfl⟩ ⟨Nat.le_of_ble_eq_true rfl, Nat.le_of_ble_eq_true rfl⟩ (Nat.le_of_ble_eq_true rfl) dX3_keyOf_14 (fun r14 s14 p14 => ?_)
    obtain ⟨rfl, rfl⟩ := p14
    refine x_if_eq 22 h dX3_keyOf_17 (by decide) (fun c17 => ?_) (fun c17 => ?_)
    · have c17 := bI_0.mp c17
      have c17 : ¬ pWd (σ 33) n S 1 = true := c17
      refine x_ald0 h dX3_keyOf_22 ?_
      refine x_ldcs h 2 (by decide) dX3_keyOf_23 ?_
      refine vCI1 32 h cs_X3_46 (c_X6_isWord B (RSt σ n S) _ _ rfl rfl (tE_b (b := σ 33) hp.2.2.1).1 (by have := (tE_b (b := σ 33) hp.2.2.1).2.1; have := hp.2.1; omega) 2 (by decide)) (⟨by decide, fun _ _ => rfl⟩ : ObjC 32 5) rfl ⟨rfl, rfl⟩ ⟨Nat.le_of_ble_eq_true rfl, Nat.le_of_ble_eq_true rfl⟩ (Nat.le_of_ble_eq_true rfl) dX3_keyOf_25 (fun r25 s25 p25 => ?_)
      obtain ⟨rfl, rfl⟩ := p25
      refine x_if_eq 35 h dX3_keyOf_28 (by decide) (fun c28 => ?_) (fun c28 => ?_)
      · have c28 := bI_0.mp c28
        have c28 : ¬ pWd (σ 33) n S 2 = true := c28
        refine x_iconst (v := (-1)) h dX3_keyOf_35 rfl ?_
        refine x_iret h hr ?_ dX3_keyOf_36
        exact ⟨_, _, rfl, rfl, by simp_all [pKey], rfl⟩
      · have c28 := bI_n.mp c28
        have c28 : pWd (σ 33) n S 2 = true := c28
        refine x_iconst (v := 2) h dX3_keyOf_31 rfl ?_
        refine x_goto 36 h dX3_keyOf_32 (by decide) ?_
        refine x_iret h hr ?_ dX3_keyOf_36
        exact ⟨_, _, rfl, rfl, by simp_all [pKey], rfl⟩
    · have c17 := bI_n.mp c17
      have c17 : pWd (σ 33) n S 1 = true := c17
      refine x_iconst (v := 1) h dX3_keyOf_20 rfl ?_
      refine x_iret h hr ?_ dX3_keyOf_21
      exact ⟨_, _, rfl, rfl, by simp_all [pKey], rfl⟩
  · have c6 := bI_n.mp c6
    have c6 : pWd (σ 33) n S 0 = true := c6
    refine x_iconst (v := 0) h dX3_keyOf_9 rfl ?_
    refine x_iret h hr ?_ dX3_keyOf_10
    exact ⟨_, _, rfl, rfl, by simp_all [pKey], rfl⟩
set_option maxRecDepth 100000 in
set_option maxHeartbeats 4000000 in
theorem c_X3_nameOf (B : BT) (σ : Nat → Nat → Int32) (n : Nat) (S : PS) (hp : RP σ n S) (key : Int32) (hk9 : σ 34 3 = key) : CI B yX3_nameOf cX3_nameOf 2 (some .int) ({ frames := 7, cells := 0, slots := 0, locals := 447 }) [.ref (aB B 34), .ref (aB B 32)] (RSt σ n S) (fun r σ' => r = pName (σ 33) n key S ∧ σ' = RSt σ n S) := by
  refine MX.of2 RX3 (by decide) rfl ⟨rfl, rfl⟩ (Nat.le_of_ble_eq_true rfl) (by rfl) (fun k h hr hk => ?_)
  show XC B k (RSt σ n S) 0 [some (.ref (aB B 34)), some (.ref (aB B 32))] []
  refine x_ald1 h dX3_nameOf_0 ?_
  refine x_ldcs h 3 (by decide) dX3_nameOf_1 ?_
  refine vCI1 32 h cs_X3_46 (c_X6_isWord B (RSt σ n S) _ _ rfl rfl (tE_b (b := σ 33) hp.2.2.1).1 (by have := (tE_b (b := σ 33) hp.2.2.1).2.1; have := hp.2.1; omega) 3 (by decide)) (⟨by decide, fun _ _ => rfl⟩ : ObjC 32 5) rfl ⟨rfl, rfl⟩ ⟨Nat.le_of_ble_eq_true rfl, Nat.le_of_ble_eq_true rfl⟩ (Nat.le_of_ble_eq_true rfl) dX3_nameOf_3 (fun r3 s3 p3 => ?_)
  obtain ⟨rfl, rfl⟩ := p3
  refine x_if_eq 12 h dX3_nameOf_6 (by decide) (fun c6 => ?_) (fun c6 => ?_)
  · have c6 := bI_0.mp c6
    have c6 : ¬ pWd (σ 33) n S 3 = true := c6
    refine x_ald1 h dX3_nameOf_12 ?_
    refine x_ldcs h 4 (by decide) dX3_nameOf_13 ?_
    refine vCI1 32 h cs_X3_46 (c_X6_isWord B (RSt σ n S) _ _ rfl rfl (tE_b (b := σ 33) hp.2.2.1).1 (by have := (tE_b (b := σ 33) hp.2.2.1).2.1; have := hp.2.1; omega) 4 (by decide)) (⟨by decide, fun _ _ => rfl⟩ : ObjC 32 5) rfl ⟨rfl, rfl⟩ ⟨Nat.le_of_ble_eq_true rfl, Nat.le_of_ble_eq_true rfl⟩ (Nat.le_of_ble_eq_true rfl) dX3_nameOf_15 (fun r15 s15 p15 => ?_)
    obtain ⟨rfl, rfl⟩ := p15
    refine x_if_eq 31 h dX3_nameOf_18 (by decide) (fun c18 => ?_) (fun c18 => ?_)
    · have c18 := bI_0.mp c18
      have c18 : ¬ pWd (σ 33) n S 4 = true := c18
      refine x_ald1 h dX3_nameOf_31 ?_
      refine x_ldcs h 5 (by decide) dX3_nameOf_32 ?_
      refine vCI1 32 h cs_X3_46 (c_X6_isWord B (RSt σ n S) _ _ rfl rfl (tE_b (b := σ 33) hp.2.2.1).1 (by have := (tE_b (b := σ 33) hp.2.2.1).2.1; have := hp.2.1; omega) 5 (by decide)) (⟨by decide, fun _ _ => rfl⟩ : ObjC 32 5) rfl ⟨rfl, rfl⟩ ⟨Nat.le_of_ble_eq_true rfl, Nat.le_of_ble_eq_true rfl⟩ (Nat.le_of_ble_eq_true rfl) dX3_nameOf_34 (fun r34 s34 p34 => ?_)
      obtain ⟨rfl, rfl⟩ := p34
      refine x_if_eq 51 h dX3_nameOf_37 (by decide) (fun c37 => ?_) (fun c37 => ?_)
      · have c37 := bI_0.mp c37
        have c37 : ¬ pWd (σ 33) n S 5 = true := c37
        refine x_ald1 h dX3_nameOf_51 ?_
        refine x_ldcs h 6 (by decide) dX3_nameOf_52 ?_
        refine vCI1 32 h cs_X3_46 (c_X6_isWord B (RSt σ n S) _ _ rfl rfl (tE_b (b := σ 33) hp.2.2.1).1 (by have := (tE_b (b := σ 33) hp.2.2.1).2.1; have := hp.2.1; omega) 6 (by decide)) (⟨by decide, fun _ _ => rfl⟩ : ObjC 32 5) rfl ⟨rfl, rfl⟩ ⟨Nat.le_of_ble_eq_true rfl, Nat.le_of_ble_eq_true rfl⟩ (Nat.le_of_ble_eq_true rfl) dX3_nameOf_54 (fun r54 s54 p54 => ?_)
        obtain ⟨rfl, rfl⟩ := p54
        refine x_if_eq 73 h dX3_nameOf_57 (by decide) (fun c57 => ?_) (fun c57 => ?_)
        · have c57 := bI_0.mp c57
          have c57 : ¬ pWd (σ 33) n S 6 = true := c57
          refine x_iconst (v := (-1)) h dX3_nameOf_73 rfl ?_
          refine x_iret h hr ?_ dX3_nameOf_74
          exact ⟨_, _, rfl, rfl, by simp_all [pName], rfl⟩
        · have c57 := bI_n.mp c57
          have c57 : pWd (σ 33) n S 6 = true := c57
          refine x_ald0 h dX3_nameOf_60 ?_
          refine r_X3_22 h dX3_nameOf_61 ?_
          refine x_iconst (v := 1) h dX3_nameOf_64 rfl ?_
          refine x_icmp_ne 73 h dX3_nameOf_65 (by decide) (fun c65 => ?_) (fun c65 => ?_)
          · have c65 : ¬ key = 1 := by rw [← hk9]; exact c65
            refine x_iconst (v := (-1)) h dX3_nameOf_73 rfl ?_
            refine x_iret h hr ?_ dX3_nameOf_74
            exact ⟨_, _, rfl, rfl, by simp_all [pName], rfl⟩
          · have c65 : key = 1 := by rw [← hk9]; exact c65
            refine x_bipush (v := (-4)) h dX3_nameOf_68 rfl ?_
            refine x_goto 74 h dX3_nameOf_70 (by decide) ?_
            refine x_iret h hr ?_ dX3_nameOf_74
            exact ⟨_, _, rfl, rfl, by simp_all [pName], rfl⟩
      · have c37 := bI_n.mp c37
        have c37 : pWd (σ 33) n S 5 = true := c37
        refine x_ald0 h dX3_nameOf_40 ?_
        refine r_X3_22 h dX3_nameOf_41 ?_
        refine x_iconst (v := 1) h dX3_nameOf_44 rfl ?_
        refine x_icmp_eq 51 h dX3_nameOf_45 (by decide) (fun c45 => ?_) (fun c45 => ?_)
        · have c45 : key = 1 := by rw [← hk9]; exact c45
          refine x_ald1 h dX3_nameOf_51 ?_
          refine x_ldcs h 6 (by decide) dX3_nameOf_52 ?_
          refine vCI1 32 h cs_X3_46 (c_X6_isWord B (RSt σ n S) _ _ rfl rfl (tE_b (b := σ 33) hp.2.2.1).1 (by have := (tE_b (b := σ 33) hp.2.2.1).2.1; have := hp.2.1; omega) 6 (by decide)) (⟨by decide, fun _ _ => rfl⟩ : ObjC 32 5) rfl ⟨rfl, rfl⟩ ⟨Nat.le_of_ble_eq_true rfl, Nat.le_of_ble_eq_true rfl⟩ (Nat.le_of_ble_eq_true rfl) dX3_nameOf_54 (fun r54 s54 p54 => ?_)
          obtain ⟨rfl, rfl⟩ := p54
          refine x_if_eq 73 h dX3_nameOf_57 (by decide) (fun c57 => ?_) (fun c57 => ?_)
          · have c57 := bI_0.mp c57
            have c57 : ¬ pWd (σ 33) n S 6 = true := c57
            refine x_iconst (v := (-1)) h dX3_nameOf_73 rfl ?_
            refine x_iret h hr ?_ dX3_nameOf_74
            exact ⟨_, _, rfl, rfl, by simp_all [pName], rfl⟩
          · have c57 := bI_n.mp c57
            have c57 : pWd (σ 33) n S 6 = true := c57
            refine x_ald0 h dX3_nameOf_60 ?_
            refine r_X3_22 h dX3_nameOf_61 ?_
            refine x_iconst (v := 1) h dX3_nameOf_64 rfl ?_
            refine x_icmp_ne 73 h dX3_nameOf_65 (by decide) (fun c65 => ?_) (fun c65 => ?_)
            · have c65 : ¬ key = 1 := by rw [← hk9]; exact c65
              refine x_iconst (v := (-1)) h dX3_nameOf_73 rfl ?_
              refine x_iret h hr ?_ dX3_nameOf_74
              exact ⟨_, _, rfl, rfl, by simp_all [pName], rfl⟩
            · have c65 : key = 1 := by rw [← hk9]; exact c65
              refine x_bipush (v := (-4)) h dX3_nameOf_68 rfl ?_
              refine x_goto 74 h dX3_nameOf_70 (by decide) ?_
              refine x_iret h hr ?_ dX3_nameOf_74
              exact ⟨_, _, rfl, rfl, by simp_all [pName], rfl⟩
        · have c45 : ¬ key = 1 := by rw [← hk9]; exact c45
          refine x_bipush (v := (-4)) h dX3_nameOf_48 rfl ?_
          refine x_iret h hr ?_ dX3_nameOf_50
          exact ⟨_, _, rfl, rfl, by simp_all [pName], rfl⟩
    · have c18 := bI_n.mp c18
      have c18 : pWd (σ 33) n S 4 = true := c18
      refine x_ald0 h dX3_nameOf_21 ?_
      refine r_X3_22 h dX3_nameOf_22 ?_
      refine x_if_ne 31 h dX3_nameOf_25 (by decide) (fun c25 => ?_) (fun c25 => ?_)
      · have c25 : ¬ key = 0 := by rw [← hk9]; exact c25
        refine x_ald1 h dX3_nameOf_31 ?_
        refine x_ldcs h 5 (by decide) dX3_nameOf_32 ?_
        refine vCI1 32 h cs_X3_46 (c_X6_isWord B (RSt σ n S) _ _ rfl rfl (tE_b (b := σ 33) hp.2.2.1).1 (by have := (tE_b (b := σ 33) hp.2.2.1).2.1; have := hp.2.1; omega) 5 (by decide)) (⟨by decide, fun _ _ => rfl⟩ : ObjC 32 5) rfl ⟨rfl, rfl⟩ ⟨Nat.le_of_ble_eq_true rfl, Nat.le_of_ble_eq_true rfl⟩ (Nat.le_of_ble_eq_true rfl) dX3_nameOf_34 (fun r34 s34 p34 => ?_)
        obtain ⟨rfl, rfl⟩ := p34
        refine x_if_eq 51 h dX3_nameOf_37 (by decide) (fun c37 => ?_) (fun c37 => ?_)
        · have c37 := bI_0.mp c37
          have c37 : ¬ pWd (σ 33) n S 5 = true := c37
          refine x_ald1 h dX3_nameOf_51 ?_
          refine x_ldcs h 6 (by decide) dX3_nameOf_52 ?_
          refine vCI1 32 h cs_X3_46 (c_X6_isWord B (RSt σ n S) _ _ rfl rfl (tE_b (b := σ 33) hp.2.2.1).1 (by have := (tE_b (b := σ 33) hp.2.2.1).2.1; have := hp.2.1; omega) 6 (by decide)) (⟨by decide, fun _ _ => rfl⟩ : ObjC 32 5) rfl ⟨rfl, rfl⟩ ⟨Nat.le_of_ble_eq_true rfl, Nat.le_of_ble_eq_true rfl⟩ (Nat.le_of_ble_eq_true rfl) dX3_nameOf_54 (fun r54 s54 p54 => ?_)
          obtain ⟨rfl, rfl⟩ := p54
          refine x_if_eq 73 h dX3_nameOf_57 (by decide) (fun c57 => ?_) (fun c57 => ?_)
          · have c57 := bI_0.mp c57
            have c57 : ¬ pWd (σ 33) n S 6 = true := c57
            refine x_iconst (v := (-1)) h dX3_nameOf_73 rfl ?_
            refine x_iret h hr ?_ dX3_nameOf_74
            exact ⟨_, _, rfl, rfl, by simp_all [pName], rfl⟩
          · have c57 := bI_n.mp c57
            have c57 : pWd (σ 33) n S 6 = true := c57
            refine x_ald0 h dX3_nameOf_60 ?_
            refine r_X3_22 h dX3_nameOf_61 ?_
            refine x_iconst (v := 1) h dX3_nameOf_64 rfl ?_
            refine x_icmp_ne 73 h dX3_nameOf_65 (by decide) (fun c65 => ?_) (fun c65 => ?_)
            · have c65 : ¬ key = 1 := by rw [← hk9]; exact c65
              refine x_iconst (v := (-1)) h dX3_nameOf_73 rfl ?_
              refine x_iret h hr ?_ dX3_nameOf_74
              exact ⟨_, _, rfl, rfl, by simp_all [pName], rfl⟩
            · have c65 : key = 1 := by rw [← hk9]; exact c65
              refine x_bipush (v := (-4)) h dX3_nameOf_68 rfl ?_
              refine x_goto 74 h dX3_nameOf_70 (by decide) ?_
              refine x_iret h hr ?_ dX3_nameOf_74
              exact ⟨_, _, rfl, rfl, by simp_all [pName], rfl⟩
        · have c37 := bI_n.mp c37
          have c37 : pWd (σ 33) n S 5 = true := c37
          refine x_ald0 h dX3_nameOf_40 ?_
          refine r_X3_22 h dX3_nameOf_41 ?_
          refine x_iconst (v := 1) h dX3_nameOf_44 rfl ?_
          refine x_icmp_eq 51 h dX3_nameOf_45 (by decide) (fun c45 => ?_) (fun c45 => ?_)
          · have c45 : key = 1 := by rw [← hk9]; exact c45
            refine x_ald1 h dX3_nameOf_51 ?_
            refine x_ldcs h 6 (by decide) dX3_nameOf_52 ?_
            refine vCI1 32 h cs_X3_46 (c_X6_isWord B (RSt σ n S) _ _ rfl rfl (tE_b (b := σ 33) hp.2.2.1).1 (by have := (tE_b (b := σ 33) hp.2.2.1).2.1; have := hp.2.1; omega) 6 (by decide)) (⟨by decide, fun _ _ => rfl⟩ : ObjC 32 5) rfl ⟨rfl, rfl⟩ ⟨Nat.le_of_ble_eq_true rfl, Nat.le_of_ble_eq_true rfl⟩ (Nat.le_of_ble_eq_true rfl) dX3_nameOf_54 (fun r54 s54 p54 => ?_)
            obtain ⟨rfl, rfl⟩ := p54
            refine x_if_eq 73 h dX3_nameOf_57 (by decide) (fun c57 => ?_) (fun c57 => ?_)
            · have c57 := bI_0.mp c57
              have c57 : ¬ pWd (σ 33) n S 6 = true := c57
              refine x_iconst (v := (-1)) h dX3_nameOf_73 rfl ?_
              refine x_iret h hr ?_ dX3_nameOf_74
              exact ⟨_, _, rfl, rfl, by simp_all [pName], rfl⟩
            · have c57 := bI_n.mp c57
              have c57 : pWd (σ 33) n S 6 = true := c57
              refine x_ald0 h dX3_nameOf_60 ?_
              refine r_X3_22 h dX3_nameOf_61 ?_
              refine x_iconst (v := 1) h dX3_nameOf_64 rfl ?_
              refine x_icmp_ne 73 h dX3_nameOf_65 (by decide) (fun c65 => ?_) (fun c65 => ?_)
              · have c65 : ¬ key = 1 := by rw [← hk9]; exact c65
                refine x_iconst (v := (-1)) h dX3_nameOf_73 rfl ?_
                refine x_iret h hr ?_ dX3_nameOf_74
                exact ⟨_, _, rfl, rfl, by simp_all [pName], rfl⟩
              · have c65 : key = 1 := by rw [← hk9]; exact c65
                refine x_bipush (v := (-4)) h dX3_nameOf_68 rfl ?_
                refine x_goto 74 h dX3_nameOf_70 (by decide) ?_
                refine x_iret h hr ?_ dX3_nameOf_74
                exact ⟨_, _, rfl, rfl, by simp_all [pName], rfl⟩
          · have c45 : ¬ key = 1 := by rw [← hk9]; exact c45
            refine x_bipush (v := (-4)) h dX3_nameOf_48 rfl ?_
            refine x_iret h hr ?_ dX3_nameOf_50
            exact ⟨_, _, rfl, rfl, by simp_all [pName], rfl⟩
      · have c25 : key = 0 := by rw [← hk9]; exact c25
        refine x_bipush (v := (-2)) h dX3_nameOf_28 rfl ?_
        refine x_iret h hr ?_ dX3_nameOf_30
        exact ⟨_, _, rfl, rfl, by simp_all [pName], rfl⟩
  · have c6 := bI_n.mp c6
    have c6 : pWd (σ 33) n S 3 = true := c6
    refine x_bipush (v := (-3)) h dX3_nameOf_9 rfl ?_
    refine x_iret h hr ?_ dX3_nameOf_11
    exact ⟨_, _, rfl, rfl, by simp_all [pName], rfl⟩
set_option maxRecDepth 100000 in
set_option maxHeartbeats 4000000 in
theorem c_X3_joinOf (B : BT) (σ : Nat → Nat → Int32) (n : Nat) (S : PS) (hp : RP σ n S) (lvl : Int32) : CI B yX3_joinOf cX3_joinOf 2 (some .int) ({ frames := 1, cells := 0, slots := 0, locals := 21 }) [.ref (aB B 32), .int lvl] (RSt σ n S) (fun r σ' => r = pJoin (σ 33) n lvl S ∧ σ' = RSt σ n S) := by
  refine MX.of2 RX3 (by decide) rfl ⟨rfl, rfl⟩ (Nat.le_of_ble_eq_true rfl) (by rfl) (fun k h hr hk => ?_)
  show XC B k (RSt σ n S) 0 [some (.ref (aB B 32)), some (.int lvl)] []
  refine x_ild1 h dX3_joinOf_0 ?_
  refine x_topi (fun y1 ey1 => ?_)
  by_cases q1_0 : y1 = 0
  · rw [q1_0] at ey1 ⊢
    refine x_tin 32 h dX3_joinOf_1 (by decide) (by decide) (by rfl) (by decide) ?_
    refine x_ald0 h dX3_joinOf_32 ?_
    refine x_bipush (v := 124) h dX3_joinOf_33 rfl ?_
    refine vCI1 32 h cs_X3_68 (c_X6_isSign B (RSt σ n S) (tS (σ 33) n S.1) rfl (sgs hp) _) (⟨by decide, fun _ _ => rfl⟩ : ObjC 32 5) rfl ⟨rfl, rfl⟩ ⟨Nat.le_of_ble_eq_true rfl, Nat.le_of_ble_eq_true rfl⟩ (Nat.le_of_ble_eq_true rfl) dX3_joinOf_35 (fun r35 s35 p35 => ?_)
    obtain ⟨rfl, rfl⟩ := p35
    refine x_if_eq 46 h dX3_joinOf_38 (by decide) (fun c38 => ?_) (fun c38 => ?_)
    · have c38 := bI_0.mp c38
      have c38 : ¬ pSg (σ 33) n S 124 = true := c38
      refine x_iconst (v := (-1)) h dX3_joinOf_46 rfl ?_
      refine x_iret h hr ?_ dX3_joinOf_47
      subst ey1
      exact ⟨_, _, rfl, rfl, by simp_all [pJoin], rfl⟩
    · have c38 := bI_n.mp c38
      have c38 : pSg (σ 33) n S 124 = true := c38
      refine x_bipush (v := (-6)) h dX3_joinOf_41 rfl ?_
      refine x_goto 47 h dX3_joinOf_43 (by decide) ?_
      refine x_iret h hr ?_ dX3_joinOf_47
      subst ey1
      exact ⟨_, _, rfl, rfl, by simp_all [pJoin], rfl⟩
  · skip
    by_cases q1_1 : y1 = 1
    · rw [q1_1] at ey1 ⊢
      refine x_tin 48 h dX3_joinOf_1 (by decide) (by decide) (by rfl) (by decide) ?_
      refine x_ald0 h dX3_joinOf_48 ?_
      refine x_bipush (v := 38) h dX3_joinOf_49 rfl ?_
      refine vCI1 32 h cs_X3_68 (c_X6_isSign B (RSt σ n S) (tS (σ 33) n S.1) rfl (sgs hp) _) (⟨by decide, fun _ _ => rfl⟩ : ObjC 32 5) rfl ⟨rfl, rfl⟩ ⟨Nat.le_of_ble_eq_true rfl, Nat.le_of_ble_eq_true rfl⟩ (Nat.le_of_ble_eq_true rfl) dX3_joinOf_51 (fun r51 s51 p51 => ?_)
      obtain ⟨rfl, rfl⟩ := p51
      refine x_if_eq 62 h dX3_joinOf_54 (by decide) (fun c54 => ?_) (fun c54 => ?_)
      · have c54 := bI_0.mp c54
        have c54 : ¬ pSg (σ 33) n S 38 = true := c54
        refine x_iconst (v := (-1)) h dX3_joinOf_62 rfl ?_
        refine x_iret h hr ?_ dX3_joinOf_63
        subst ey1
        exact ⟨_, _, rfl, rfl, by simp_all [pJoin], rfl⟩
      · have c54 := bI_n.mp c54
        have c54 : pSg (σ 33) n S 38 = true := c54
        refine x_bipush (v := (-7)) h dX3_joinOf_57 rfl ?_
        refine x_goto 63 h dX3_joinOf_59 (by decide) ?_
        refine x_iret h hr ?_ dX3_joinOf_63
        subst ey1
        exact ⟨_, _, rfl, rfl, by simp_all [pJoin], rfl⟩
    · skip
      by_cases q1_2 : y1 = 2
      · rw [q1_2] at ey1 ⊢
        refine x_tin 64 h dX3_joinOf_1 (by decide) (by decide) (by rfl) (by decide) ?_
        refine x_ald0 h dX3_joinOf_64 ?_
        refine x_bipush (v := 60) h dX3_joinOf_65 rfl ?_
        refine vCI1 32 h cs_X3_68 (c_X6_isSign B (RSt σ n S) (tS (σ 33) n S.1) rfl (sgs hp) _) (⟨by decide, fun _ _ => rfl⟩ : ObjC 32 5) rfl ⟨rfl, rfl⟩ ⟨Nat.le_of_ble_eq_true rfl, Nat.le_of_ble_eq_true rfl⟩ (Nat.le_of_ble_eq_true rfl) dX3_joinOf_67 (fun r67 s67 p67 => ?_)
        obtain ⟨rfl, rfl⟩ := p67
        refine x_if_eq 76 h dX3_joinOf_70 (by decide) (fun c70 => ?_) (fun c70 => ?_)
        · have c70 := bI_0.mp c70
          have c70 : ¬ pSg (σ 33) n S 60 = true := c70
          refine x_ald0 h dX3_joinOf_76 ?_
          refine x_bipush (v := 61) h dX3_joinOf_77 rfl ?_
          refine vCI1 32 h cs_X3_68 (c_X6_isSign B (RSt σ n S) (tS (σ 33) n S.1) rfl (sgs hp) _) (⟨by decide, fun _ _ => rfl⟩ : ObjC 32 5) rfl ⟨rfl, rfl⟩ ⟨Nat.le_of_ble_eq_true rfl, Nat.le_of_ble_eq_true rfl⟩ (Nat.le_of_ble_eq_true rfl) dX3_joinOf_79 (fun r79 s79 p79 => ?_)
          obtain ⟨rfl, rfl⟩ := p79
          refine x_if_eq 88 h dX3_joinOf_82 (by decide) (fun c82 => ?_) (fun c82 => ?_)
          · have c82 := bI_0.mp c82
            have c82 : ¬ pSg (σ 33) n S 61 = true := c82
            refine x_ald0 h dX3_joinOf_88 ?_
            refine x_bipush (v := 62) h dX3_joinOf_89 rfl ?_
            refine vCI1 32 h cs_X3_68 (c_X6_isSign B (RSt σ n S) (tS (σ 33) n S.1) rfl (sgs hp) _) (⟨by decide, fun _ _ => rfl⟩ : ObjC 32 5) rfl ⟨rfl, rfl⟩ ⟨Nat.le_of_ble_eq_true rfl, Nat.le_of_ble_eq_true rfl⟩ (Nat.le_of_ble_eq_true rfl) dX3_joinOf_91 (fun r91 s91 p91 => ?_)
            obtain ⟨rfl, rfl⟩ := p91
            refine x_if_eq 102 h dX3_joinOf_94 (by decide) (fun c94 => ?_) (fun c94 => ?_)
            · have c94 := bI_0.mp c94
              have c94 : ¬ pSg (σ 33) n S 62 = true := c94
              refine x_iconst (v := (-1)) h dX3_joinOf_102 rfl ?_
              refine x_iret h hr ?_ dX3_joinOf_103
              subst ey1
              exact ⟨_, _, rfl, rfl, by simp_all [pJoin], rfl⟩
            · have c94 := bI_n.mp c94
              have c94 : pSg (σ 33) n S 62 = true := c94
              refine x_bipush (v := (-10)) h dX3_joinOf_97 rfl ?_
              refine x_goto 103 h dX3_joinOf_99 (by decide) ?_
              refine x_iret h hr ?_ dX3_joinOf_103
              subst ey1
              exact ⟨_, _, rfl, rfl, by simp_all [pJoin], rfl⟩
          · have c82 := bI_n.mp c82
            have c82 : pSg (σ 33) n S 61 = true := c82
            refine x_bipush (v := (-9)) h dX3_joinOf_85 rfl ?_
            refine x_iret h hr ?_ dX3_joinOf_87
            subst ey1
            exact ⟨_, _, rfl, rfl, by simp_all [pJoin], rfl⟩
        · have c70 := bI_n.mp c70
          have c70 : pSg (σ 33) n S 60 = true := c70
          refine x_bipush (v := (-8)) h dX3_joinOf_73 rfl ?_
          refine x_iret h hr ?_ dX3_joinOf_75
          subst ey1
          exact ⟨_, _, rfl, rfl, by simp_all [pJoin], rfl⟩
      · skip
        by_cases q1_3 : y1 = 3
        · rw [q1_3] at ey1 ⊢
          refine x_tin 104 h dX3_joinOf_1 (by decide) (by decide) (by rfl) (by decide) ?_
          refine x_ald0 h dX3_joinOf_104 ?_
          refine x_bipush (v := 43) h dX3_joinOf_105 rfl ?_
          refine vCI1 32 h cs_X3_68 (c_X6_isSign B (RSt σ n S) (tS (σ 33) n S.1) rfl (sgs hp) _) (⟨by decide, fun _ _ => rfl⟩ : ObjC 32 5) rfl ⟨rfl, rfl⟩ ⟨Nat.le_of_ble_eq_true rfl, Nat.le_of_ble_eq_true rfl⟩ (Nat.le_of_ble_eq_true rfl) dX3_joinOf_107 (fun r107 s107 p107 => ?_)
          obtain ⟨rfl, rfl⟩ := p107
          refine x_if_eq 116 h dX3_joinOf_110 (by decide) (fun c110 => ?_) (fun c110 => ?_)
          · have c110 := bI_0.mp c110
            have c110 : ¬ pSg (σ 33) n S 43 = true := c110
            refine x_ald0 h dX3_joinOf_116 ?_
            refine x_bipush (v := 45) h dX3_joinOf_117 rfl ?_
            refine vCI1 32 h cs_X3_68 (c_X6_isSign B (RSt σ n S) (tS (σ 33) n S.1) rfl (sgs hp) _) (⟨by decide, fun _ _ => rfl⟩ : ObjC 32 5) rfl ⟨rfl, rfl⟩ ⟨Nat.le_of_ble_eq_true rfl, Nat.le_of_ble_eq_true rfl⟩ (Nat.le_of_ble_eq_true rfl) dX3_joinOf_119 (fun r119 s119 p119 => ?_)
            obtain ⟨rfl, rfl⟩ := p119
            refine x_if_eq 130 h dX3_joinOf_122 (by decide) (fun c122 => ?_) (fun c122 => ?_)
            · have c122 := bI_0.mp c122
              have c122 : ¬ pSg (σ 33) n S 45 = true := c122
              refine x_iconst (v := (-1)) h dX3_joinOf_130 rfl ?_
              refine x_iret h hr ?_ dX3_joinOf_131
              subst ey1
              exact ⟨_, _, rfl, rfl, by simp_all [pJoin], rfl⟩
            · have c122 := bI_n.mp c122
              have c122 : pSg (σ 33) n S 45 = true := c122
              refine x_bipush (v := (-12)) h dX3_joinOf_125 rfl ?_
              refine x_goto 131 h dX3_joinOf_127 (by decide) ?_
              refine x_iret h hr ?_ dX3_joinOf_131
              subst ey1
              exact ⟨_, _, rfl, rfl, by simp_all [pJoin], rfl⟩
          · have c110 := bI_n.mp c110
            have c110 : pSg (σ 33) n S 43 = true := c110
            refine x_bipush (v := (-11)) h dX3_joinOf_113 rfl ?_
            refine x_iret h hr ?_ dX3_joinOf_115
            subst ey1
            exact ⟨_, _, rfl, rfl, by simp_all [pJoin], rfl⟩
        · skip
          refine x_tout 132 h dX3_joinOf_1 (by have tq1_0 := lv_neT q1_0 (a := 0) (by decide); have tq1_1 := lv_neT q1_1 (a := 1) (by decide); have tq1_2 := lv_neT q1_2 (a := 2) (by decide); have tq1_3 := lv_neT q1_3 (a := 3) (by decide); omega) (by decide) ?_
          refine x_ald0 h dX3_joinOf_132 ?_
          refine x_bipush (v := 42) h dX3_joinOf_133 rfl ?_
          refine vCI1 32 h cs_X3_68 (c_X6_isSign B (RSt σ n S) (tS (σ 33) n S.1) rfl (sgs hp) _) (⟨by decide, fun _ _ => rfl⟩ : ObjC 32 5) rfl ⟨rfl, rfl⟩ ⟨Nat.le_of_ble_eq_true rfl, Nat.le_of_ble_eq_true rfl⟩ (Nat.le_of_ble_eq_true rfl) dX3_joinOf_135 (fun r135 s135 p135 => ?_)
          obtain ⟨rfl, rfl⟩ := p135
          refine x_if_eq 144 h dX3_joinOf_138 (by decide) (fun c138 => ?_) (fun c138 => ?_)
          · have c138 := bI_0.mp c138
            have c138 : ¬ pSg (σ 33) n S 42 = true := c138
            refine x_ald0 h dX3_joinOf_144 ?_
            refine x_bipush (v := 47) h dX3_joinOf_145 rfl ?_
            refine vCI1 32 h cs_X3_68 (c_X6_isSign B (RSt σ n S) (tS (σ 33) n S.1) rfl (sgs hp) _) (⟨by decide, fun _ _ => rfl⟩ : ObjC 32 5) rfl ⟨rfl, rfl⟩ ⟨Nat.le_of_ble_eq_true rfl, Nat.le_of_ble_eq_true rfl⟩ (Nat.le_of_ble_eq_true rfl) dX3_joinOf_147 (fun r147 s147 p147 => ?_)
            obtain ⟨rfl, rfl⟩ := p147
            refine x_if_eq 158 h dX3_joinOf_150 (by decide) (fun c150 => ?_) (fun c150 => ?_)
            · have c150 := bI_0.mp c150
              have c150 : ¬ pSg (σ 33) n S 47 = true := c150
              refine x_iconst (v := (-1)) h dX3_joinOf_158 rfl ?_
              refine x_iret h hr ?_ dX3_joinOf_159
              subst ey1
              exact ⟨_, _, rfl, rfl, by simp_all [pJoin], rfl⟩
            · have c150 := bI_n.mp c150
              have c150 : pSg (σ 33) n S 47 = true := c150
              refine x_bipush (v := (-14)) h dX3_joinOf_153 rfl ?_
              refine x_goto 159 h dX3_joinOf_155 (by decide) ?_
              refine x_iret h hr ?_ dX3_joinOf_159
              subst ey1
              exact ⟨_, _, rfl, rfl, by simp_all [pJoin], rfl⟩
          · have c138 := bI_n.mp c138
            have c138 : pSg (σ 33) n S 42 = true := c138
            refine x_bipush (v := (-13)) h dX3_joinOf_141 rfl ?_
            refine x_iret h hr ?_ dX3_joinOf_143
            subst ey1
            exact ⟨_, _, rfl, rfl, by simp_all [pJoin], rfl⟩
