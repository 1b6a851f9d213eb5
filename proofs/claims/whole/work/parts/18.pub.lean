/-! the class's calls: the state is sH σ 0 hh, hh the house as it stands -/
def isD (hh : HT) (x : Int32) : Bool := decide (¬ x < 0 ∧ ¬ hh 0 0 ≤ x)
def isR (x : Int32) : Bool := decide (¬ x < 0 ∧ ¬ 10 ≤ x)
def isK (x : Int32) : Bool := decide (¬ x < 0 ∧ ¬ 6 ≤ x)
def isS (x : Int32) : Bool := decide (¬ x < 0 ∧ ¬ 999 < x)
def isT (x : Int32) : Bool := decide (¬ x < 0 ∧ ¬ 5 < x)
def isSh (x : Int32) : Bool := decide (¬ x < 1 ∧ ¬ 60 < x)
def is2 (x : Int32) : Bool := decide (x = 0 ∨ x = 1)
theorem bI_iff {P Q : Prop} [Decidable P] [Decidable Q] (h : P ↔ Q) : bI P = bI Q := by
  by_cases q : P
  · rw [bI_t q, bI_t (h.mp q)]
  · rw [bI_f q, bI_f (fun z => q (h.mpr z))]
theorem dk {P : Prop} [Decidable P] : P ↔ decide P = true := decide_eq_true_iff.symm
theorem bR {x : Int32} : bI (¬ x < 0 ∧ ¬ 10 ≤ x) = bI (isR x = true) := bI_iff dk
theorem bK {x : Int32} : bI (¬ x < 0 ∧ ¬ 6 ≤ x) = bI (isK x = true) := bI_iff dk
theorem bS {x : Int32} : bI (¬ x < 0 ∧ ¬ 999 < x) = bI (isS x = true) := bI_iff dk
theorem bT {x : Int32} : bI (¬ x < 0 ∧ ¬ 5 < x) = bI (isT x = true) := bI_iff dk
theorem bSh {x : Int32} : bI (¬ x < 1 ∧ ¬ 60 < x) = bI (isSh x = true) := bI_iff dk
theorem b2 {x : Int32} : bI (x = 0 ∨ x = 1) = bI (is2 x = true) := bI_iff dk
theorem bD {σ : Nat → Nat → Int32} {hh : HT} {x : Int32} : bI (¬ x < 0 ∧ ¬ sH σ 0 hh 0 0 ≤ x) = bI (isD hh x = true) := bI_iff (dk (P := ¬ x < 0 ∧ ¬ hh 0 0 ≤ x))
theorem isD_of {hh : HT} {x : Int32} (h : isD hh x = true) (hi : HI hh) : ∃ d, d < sN hh ∧ x = nI d := by
  have h := dk.mpr h
  have h1 := hi.n
  have h2 := h.2
  rw [h1.2] at h2
  exact in_of (by omega) h.1 h2
theorem isR_of {x : Int32} (h : isR x = true) : ∃ d, d < 10 ∧ x = nI d := in_of (n := 10) (by decide) (dk.mpr h).1 (dk.mpr h).2
/-- all but the scratch says the same -/
def Jk (σ σ' : Nat → Nat → Int32) : Prop := ∀ q, q < 20 ∨ q = 30 ∨ (32 ≤ q ∧ q ≠ 39) → σ' q = σ q
theorem Jk.rf {σ : Nat → Nat → Int32} : Jk σ σ := fun _ _ => rfl
theorem Jk.stk {σ : Nat → Nat → Int32} {f : Nat → Int32} : Jk σ (up1 σ 39 f) := fun q hq => up1_n (by omega)
def aDancer (hh : HT) (kd ar so st : Int32) : Int32 × HT := if isK kd = true ∧ isR ar = true ∧ isS so = true ∧ isT st = true then (if hh 0 0 < 12 then (hh 0 0, sJoin hh kd ar so st) else (-1000000003, hh)) else (-1000000001, hh)
def aTold (g : WT) (hh : HT) (x w : Int32) : Int32 := if isD hh x = true then (if w = 0 then hh 1 (ix x) else if w = 1 then hh 2 (ix x) else if w = 2 then hh 3 (ix x) else if w = 3 then hh 4 (ix x) else if w = 4 then hh 5 (ix x) else if w = 5 then sGoes hh (ix x) else if w = 6 then sWears g hh (ix x) else if w = 7 then sLeaves hh (ix x) else if w = 8 then kWorth (hh 1 (ix x)) (hh 3 (ix x)) else -1000000001) else -1000000001
def aAs (hh : HT) (x kd : Int32) : Int32 := if isD hh x = true ∧ isK kd = true then (if kIsOfB (hh 1 (ix x)) kd = true then hh 3 (ix x) else -1000000012) else -1000000001
def aTurns (hh : HT) (x kd : Int32) : Int32 × HT := if isD hh x = true ∧ isK kd = true then (hh 1 (ix x), up2 hh 1 (ix x) kd) else (-1000000001, hh)
def aSet (hh : HT) (x w v : Int32) : Int32 × HT := if isD hh x = true then (if w = 1 ∧ isR v = true then (hh 2 (ix x), up2 hh 2 (ix x) v) else if w = 2 ∧ isS v = true then (hh 3 (ix x), up2 hh 3 (ix x) v) else if w = 3 ∧ isT v = true then (hh 4 (ix x), up2 hh 4 (ix x) v) else (-1000000001, hh)) else (-1000000001, hh)
def aRoom (hh : HT) (r w v : Int32) : Int32 × HT := if isR r = true then (if w = 0 ∧ (¬ v < 0 ∧ ¬ 9 < v) then (hh 6 (ix r), up2 hh 6 (ix r) v) else if w = 1 ∧ isR v = true then (hh 7 (ix r), up2 hh 7 (ix r) v) else (-1000000001, hh)) else (-1000000001, hh)
def aSweep (hh : HT) (r : Int32) : Int32 × HT := if isR r = true then (hh 8 (ix r), up2 hh 8 (ix r) 0) else (-1000000001, hh)
def aWatch (hh : HT) (v : Int32) : Int32 × HT := if ¬ v < 0 ∧ v ≤ 100 then (hh 0 9, up2 hh 0 9 v) else (-1000000001, hh)
def aAt (hh : HT) (r : Int32) : Int32 := if isR r = true then sAt hh r else -1000000001
def aRound (hh : HT) (r : Int32) : Int32 := if isR r = true then sRing hh r else -1000000001
def aTo (hh : HT) (r s : Int32) : Int32 := if isR r = true ∧ isR s = true then sWays hh r s else -1000000001
def aSeed (hh : HT) (v : Int32) : Int32 × HT := (hh 0 13, up2 hh 0 13 v)
def sLots (hh : HT) : Nat → HT
  | 0 => hh
  | n + 1 => sLot (sLots hh n)
def aDealN (hh : HT) (n : Int32) : Nat := min (ix n) (12 - sN hh)
def aDeal (hh : HT) (n : Int32) : Int32 × HT := if ¬ n < 1 ∧ n ≤ 12 then (nI (aDealN hh n), sLots hh (aDealN hh n)) else (-1000000001, hh)
def aHoursN (hh : HT) (n : Int32) : Nat := min (ix n) (9999 - ix (hh 0 12))
def aHours (g : WT) (hh : HT) (n : Int32) : Int32 × HT := if ¬ n < 1 ∧ n ≤ 100 then (sGoneH g hh (aHoursN hh n), sHours g hh (aHoursN hh n)) else (-1000000001, hh)
def aHouse (hh : HT) (w : Int32) : Int32 := if w = 0 then hh 0 10 else if w = 1 then hh 0 11 else if w = 2 then sMarks hh else if w = 3 then sSum hh 3 else if w = 4 then sBare hh else if w = 5 then sMarked hh else -1000000001
theorem min_nI {a b : Nat} (ha : a < 2 ^ 31) (hb : b < 2 ^ 31) : jmn (nI a) (nI b) = nI (min a b) := by
  unfold jmn
  by_cases h : nI b < nI a
  · rw [if_pos h, Nat.min_eq_right (by have := n_lt hb ha h; omega)]
  · rw [if_neg h, Nat.min_eq_left (by have := n_nlt hb ha h; omega)]
theorem sub_nI {a b : Nat} (h : b ≤ a) : nI a - nI b = nI (a - b) := by
  have e : nI a = nI (a - b) + nI b := by rw [nI_add, Nat.sub_add_cancel h]
  rw [e, Int32.add_sub_cancel]
theorem sLot_0 {h : HT} : sLot h 0 0 = h 0 0 + 1 := rfl
theorem sLot_N {h : HT} (hN : h 0 0 = nI (sN h)) (hN12 : sN h < 12) : sN (sLot h) = sN h + 1 ∧ sLot h 0 0 = nI (sN h + 1) := by
  have e : sLot h 0 0 = nI (sN h + 1) := by rw [sLot_0, hN, nI_1]
  exact ⟨by unfold sN at e ⊢; rw [e, ix_n (by unfold sN at hN12; omega)], e⟩
theorem sLots_N {h : HT} (hN : h 0 0 = nI (sN h)) : ∀ n, sN h + n ≤ 12 → sN (sLots h n) = sN h + n ∧ sLots h n 0 0 = nI (sN h + n)
  | 0, _ => ⟨rfl, hN⟩
  | n + 1, hn => by
    have ih := sLots_N hN n (by omega)
    have h1 := sLot_N (h := sLots h n) (by rw [ih.1, ih.2]) (by omega)
    rw [ih.1] at h1
    exact h1
set_option maxRecDepth 100000 in
set_option maxHeartbeats 4000000 in
theorem c_X7_dancer (B : BT) (σ : Nat → Nat → Int32) (hh : HT) (hi : HI hh) (kd ar so st : Int32) : CI B yX7_dancer cX7_dancer 5 (some .int) ({ frames := 1, cells := 0, slots := 0, locals := 25 }) [.ref (aB B 30), .int kd, .int ar, .int so, .int st] (sH σ 0 hh) (fun r σ' => r = (aDancer hh kd ar so st).1 ∧ σ' = sH σ 0 (aDancer hh kd ar so st).2) := by
  refine MX.of2 RX7 (by decide) rfl ⟨rfl, rfl⟩ (Nat.le_of_ble_eq_true rfl) (by rfl) (fun k h hr hk => ?_)
  show XC B k (sH σ 0 hh) 0 [some (.ref (aB B 30)), some (.int kd), some (.int ar), some (.int so), some (.int st)] []
  refine x_ild1 h dX7_dancer_0 ?_
  refine sCI1 h cs_X7_72 (c_X7_isKind B _ _) ⟨rfl, rfl⟩ ⟨Nat.le_of_ble_eq_true rfl, Nat.le_of_ble_eq_true rfl⟩ (Nat.le_of_ble_eq_true rfl) dX7_dancer_1 (fun r1 s1 p1 => ?_)
  obtain ⟨rfl, rfl⟩ := p1
  rw [bK]
  refine x_if_eq 29 h dX7_dancer_4 (by decide) (fun c4 => ?_) (fun c4 => ?_)
  · have c4 := bI_0.mp c4
    refine x_ldc h kc_X7_85 dX7_dancer_29 ?_
    refine x_iret h hr ?_ dX7_dancer_31
    refine ⟨_, _, rfl, rfl, ?_, ?_⟩ <;> simp_all [-Int32.not_lt, -Int32.not_le, aDancer]
  · have c4 := bI_n.mp c4
    refine x_ild2 h dX7_dancer_7 ?_
    refine sCI1 h cs_X7_76 (c_X7_isRoom B _ _) ⟨rfl, rfl⟩ ⟨Nat.le_of_ble_eq_true rfl, Nat.le_of_ble_eq_true rfl⟩ (Nat.le_of_ble_eq_true rfl) dX7_dancer_8 (fun r8 s8 p8 => ?_)
    obtain ⟨rfl, rfl⟩ := p8
    rw [bR]
    refine x_if_eq 29 h dX7_dancer_11 (by decide) (fun c11 => ?_) (fun c11 => ?_)
    · have c11 := bI_0.mp c11
      refine x_ldc h kc_X7_85 dX7_dancer_29 ?_
      refine x_iret h hr ?_ dX7_dancer_31
      refine ⟨_, _, rfl, rfl, ?_, ?_⟩ <;> simp_all [-Int32.not_lt, -Int32.not_le, aDancer]
    · have c11 := bI_n.mp c11
      refine x_ild3 h dX7_dancer_14 ?_
      refine sCI1 h cs_X7_79 (c_X7_isSole B _ _) ⟨rfl, rfl⟩ ⟨Nat.le_of_ble_eq_true rfl, Nat.le_of_ble_eq_true rfl⟩ (Nat.le_of_ble_eq_true rfl) dX7_dancer_15 (fun r15 s15 p15 => ?_)
      obtain ⟨rfl, rfl⟩ := p15
      rw [bS]
      refine x_if_eq 29 h dX7_dancer_18 (by decide) (fun c18 => ?_) (fun c18 => ?_)
      · have c18 := bI_0.mp c18
        refine x_ldc h kc_X7_85 dX7_dancer_29 ?_
        refine x_iret h hr ?_ dX7_dancer_31
        refine ⟨_, _, rfl, rfl, ?_, ?_⟩ <;> simp_all [-Int32.not_lt, -Int32.not_le, aDancer]
      · have c18 := bI_n.mp c18
        refine x_ild4 h dX7_dancer_21 ?_
        refine sCI1 h cs_X7_82 (c_X7_isSteps B _ _) ⟨rfl, rfl⟩ ⟨Nat.le_of_ble_eq_true rfl, Nat.le_of_ble_eq_true rfl⟩ (Nat.le_of_ble_eq_true rfl) dX7_dancer_23 (fun r23 s23 p23 => ?_)
        obtain ⟨rfl, rfl⟩ := p23
        rw [bT]
        refine x_if_ne 32 h dX7_dancer_26 (by decide) (fun c26 => ?_) (fun c26 => ?_)
        · have c26 := bI_n.mp c26
          refine x_ald0 h dX7_dancer_32 ?_
          refine r_X7_10 h dX7_dancer_33 ?_
          refine r0_X7_86 h dX7_dancer_36 ?_
          change XC B k _ _ _ (.int (hh 0 0) :: _)
          refine x_bipush (v := 12) h dX7_dancer_39 rfl ?_
          refine x_icmp_lt 47 h dX7_dancer_41 (by decide) (fun c41 => ?_) (fun c41 => ?_)
          · have c41 : hh 0 0 < 12 := c41
            have hn := hi.n
            have hn12 : sN hh < 12 := by have c41' := c41; rw [hn.2] at c41'; exact n_lt (b := 12) (by omega) (by omega) c41'
            refine x_ald0 h dX7_dancer_47 ?_
            refine r_X7_10 h dX7_dancer_48 ?_
            refine x_ild1 h dX7_dancer_51 ?_
            refine x_ild2 h dX7_dancer_52 ?_
            refine x_ild3 h dX7_dancer_53 ?_
            refine x_ild4 h dX7_dancer_54 ?_
            refine vCI4 (10 * 0) h cs_X7_90 (c_X0_join B (by decide) _ _ _ _ _ _ hn.2 hn12) (obj_h (by decide)) rfl ⟨rfl, rfl⟩ ⟨Nat.le_of_ble_eq_true rfl, Nat.le_of_ble_eq_true rfl⟩ (Nat.le_of_ble_eq_true rfl) dX7_dancer_56 (fun r56 s56 p56 => ?_)
            obtain ⟨rfl, rfl⟩ := p56
            refine x_iret h hr ?_ dX7_dancer_59
            refine ⟨_, _, rfl, rfl, ?_, ?_⟩ <;> simp_all [-Int32.not_lt, -Int32.not_le, aDancer]
          · have c41 : ¬ hh 0 0 < 12 := c41
            refine x_ldc h kc_X7_89 dX7_dancer_44 ?_
            refine x_iret h hr ?_ dX7_dancer_46
            refine ⟨_, _, rfl, rfl, ?_, ?_⟩ <;> simp_all [-Int32.not_lt, -Int32.not_le, aDancer]
        · have c26 := bI_0.mp c26
          refine x_ldc h kc_X7_85 dX7_dancer_29 ?_
          refine x_iret h hr ?_ dX7_dancer_31
          refine ⟨_, _, rfl, rfl, ?_, ?_⟩ <;> simp_all [-Int32.not_lt, -Int32.not_le, aDancer]
set_option maxRecDepth 100000 in
set_option maxHeartbeats 4000000 in
theorem c_X7_told (B : BT) (σ : Nat → Nat → Int32) (hh : HT) (hi : HI hh) (hT : CT σ (hh 9 0)) (x w : Int32) : CI B yX7_told cX7_told 3 (some .int) ({ frames := 4, cells := 0, slots := 0, locals := 131 }) [.ref (aB B 30), .int x, .int w] (sH σ 0 hh) (fun r σ' => r = aTold (gC σ (hh 9 0)) hh x w ∧ ∃ σ2, Jk σ σ2 ∧ σ' = sH σ2 0 hh) := by
  refine MX.of2 RX7 (by decide) rfl ⟨rfl, rfl⟩ (Nat.le_of_ble_eq_true rfl) (by rfl) (fun k h hr hk => ?_)
  show XC B k (sH σ 0 hh) 0 [some (.ref (aB B 30)), some (.int x), some (.int w)] []
  refine x_ald0 h dX7_told_0 ?_
  refine x_ild1 h dX7_told_1 ?_
  refine vCI1 30 h cs_X7_94 (c_X7_isDancer B _ _) (⟨by decide, fun _ _ => rfl⟩ : ObjC 30 6) rfl ⟨rfl, rfl⟩ ⟨Nat.le_of_ble_eq_true rfl, Nat.le_of_ble_eq_true rfl⟩ (Nat.le_of_ble_eq_true rfl) dX7_told_2 (fun r2 s2 p2 => ?_)
  obtain ⟨rfl, rfl⟩ := p2
  rw [bD]
  refine x_if_ne 11 h dX7_told_5 (by decide) (fun c5 => ?_) (fun c5 => ?_)
  · have c5 := bI_n.mp c5
    obtain ⟨d, hd, rfl⟩ := isD_of c5 hi
    have hd12 := hi.n.1
    have ed : ix (nI d) = d := ix_n (by omega)
    refine x_ild2 h dX7_told_11 ?_
    refine x_topi (fun y12 ey12 => ?_)
    by_cases q12_0 : y12 = 0
    · rw [q12_0] at ey12 ⊢
      refine x_tin 64 h dX7_told_12 (by decide) (by decide) (by rfl) (by decide) ?_
      refine x_ald0 h dX7_told_64 ?_
      refine r_X7_10 h dX7_told_65 ?_
      refine r0_X7_97 h dX7_told_68 ?_
      refine x_ild1 h dX7_told_71 ?_
      refine xc_ialdN (d) (rfl) (by omega) (by decide) h 1 (⟨by decide, fun _ _ => rfl⟩ : ArrC 1 12) dX7_told_72 ?_
      change XC B k _ _ _ (.int (hh 1 (d)) :: _)
      refine x_iret h hr ?_ dX7_told_73
      subst ey12
      exact ⟨_, _, rfl, rfl, by simp_all [-Int32.not_lt, -Int32.not_le, aTold], σ, Jk.rf, rfl⟩
    · skip
      by_cases q12_1 : y12 = 1
      · rw [q12_1] at ey12 ⊢
        refine x_tin 74 h dX7_told_12 (by decide) (by decide) (by rfl) (by decide) ?_
        refine x_ald0 h dX7_told_74 ?_
        refine r_X7_10 h dX7_told_75 ?_
        refine r0_X7_100 h dX7_told_78 ?_
        refine x_ild1 h dX7_told_81 ?_
        refine xc_ialdN (d) (rfl) (by omega) (by decide) h 2 (⟨by decide, fun _ _ => rfl⟩ : ArrC 2 12) dX7_told_82 ?_
        change XC B k _ _ _ (.int (hh 2 (d)) :: _)
        refine x_iret h hr ?_ dX7_told_83
        subst ey12
        exact ⟨_, _, rfl, rfl, by simp_all [-Int32.not_lt, -Int32.not_le, aTold], σ, Jk.rf, rfl⟩
      · skip
        by_cases q12_2 : y12 = 2
        · rw [q12_2] at ey12 ⊢
          refine x_tin 84 h dX7_told_12 (by decide) (by decide) (by rfl) (by decide) ?_
          refine x_ald0 h dX7_told_84 ?_
          refine r_X7_10 h dX7_told_85 ?_
          refine r0_X7_103 h dX7_told_88 ?_
          refine x_ild1 h dX7_told_91 ?_
          refine xc_ialdN (d) (rfl) (by omega) (by decide) h 3 (⟨by decide, fun _ _ => rfl⟩ : ArrC 3 12) dX7_told_92 ?_
          change XC B k _ _ _ (.int (hh 3 (d)) :: _)
          refine x_iret h hr ?_ dX7_told_93
          subst ey12
          exact ⟨_, _, rfl, rfl, by simp_all [-Int32.not_lt, -Int32.not_le, aTold], σ, Jk.rf, rfl⟩
        · skip
          by_cases q12_3 : y12 = 3
          · rw [q12_3] at ey12 ⊢
            refine x_tin 94 h dX7_told_12 (by decide) (by decide) (by rfl) (by decide) ?_
            refine x_ald0 h dX7_told_94 ?_
            refine r_X7_10 h dX7_told_95 ?_
            refine r0_X7_106 h dX7_told_98 ?_
            refine x_ild1 h dX7_told_101 ?_
            refine xc_ialdN (d) (rfl) (by omega) (by decide) h 4 (⟨by decide, fun _ _ => rfl⟩ : ArrC 4 12) dX7_told_102 ?_
            change XC B k _ _ _ (.int (hh 4 (d)) :: _)
            refine x_iret h hr ?_ dX7_told_103
            subst ey12
            exact ⟨_, _, rfl, rfl, by simp_all [-Int32.not_lt, -Int32.not_le, aTold], σ, Jk.rf, rfl⟩
          · skip
            by_cases q12_4 : y12 = 4
            · rw [q12_4] at ey12 ⊢
              refine x_tin 104 h dX7_told_12 (by decide) (by decide) (by rfl) (by decide) ?_
              refine x_ald0 h dX7_told_104 ?_
              refine r_X7_10 h dX7_told_105 ?_
              refine r0_X7_109 h dX7_told_108 ?_
              refine x_ild1 h dX7_told_111 ?_
              refine xc_ialdN (d) (rfl) (by omega) (by decide) h 5 (⟨by decide, fun _ _ => rfl⟩ : ArrC 5 12) dX7_told_112 ?_
              change XC B k _ _ _ (.int (hh 5 (d)) :: _)
              refine x_iret h hr ?_ dX7_told_113
              subst ey12
              exact ⟨_, _, rfl, rfl, by simp_all [-Int32.not_lt, -Int32.not_le, aTold], σ, Jk.rf, rfl⟩
            · skip
              by_cases q12_5 : y12 = 5
              · rw [q12_5] at ey12 ⊢
                refine x_tin 114 h dX7_told_12 (by decide) (by decide) (by rfl) (by decide) ?_
                refine x_ald0 h dX7_told_114 ?_
                refine r_X7_10 h dX7_told_115 ?_
                refine x_ild1 h dX7_told_118 ?_
                refine vCI1 (10 * 0) h cs_X7_112 (c_X0_goesNext B (by decide) _ _ d (by omega)) (obj_h (by decide)) rfl ⟨rfl, rfl⟩ ⟨Nat.le_of_ble_eq_true rfl, Nat.le_of_ble_eq_true rfl⟩ (Nat.le_of_ble_eq_true rfl) dX7_told_119 (fun r119 s119 p119 => ?_)
                obtain ⟨rfl, rfl⟩ := p119
                refine x_iret h hr ?_ dX7_told_122
                subst ey12
                exact ⟨_, _, rfl, rfl, by simp_all [-Int32.not_lt, -Int32.not_le, aTold], σ, Jk.rf, rfl⟩
              · skip
                by_cases q12_6 : y12 = 6
                · rw [q12_6] at ey12 ⊢
                  refine x_tin 123 h dX7_told_12 (by decide) (by decide) (by rfl) (by decide) ?_
                  refine x_ald0 h dX7_told_123 ?_
                  refine r_X7_10 h dX7_told_124 ?_
                  refine x_ild1 h dX7_told_127 ?_
                  refine x_ald0 h dX7_told_128 ?_
                  refine r_X7_47 h dX7_told_129 ?_
                  refine vCI2 (10 * 0) h cs_X7_116 (c_X0_wearsHere B (by decide) _ _ hi hT d (by omega)) (obj_h (by decide)) rfl ⟨rfl, rfl⟩ ⟨Nat.le_of_ble_eq_true rfl, Nat.le_of_ble_eq_true rfl⟩ (Nat.le_of_ble_eq_true rfl) dX7_told_132 (fun r132 s132 p132 => ?_)
                  obtain ⟨rfl, stkp132c, rfl⟩ := p132
                  refine x_iret h hr ?_ dX7_told_135
                  subst ey12
                  exact ⟨_, _, rfl, rfl, by simp_all [aTold], _, Jk.stk, rfl⟩
                · skip
                  by_cases q12_7 : y12 = 7
                  · rw [q12_7] at ey12 ⊢
                    refine x_tin 136 h dX7_told_12 (by decide) (by decide) (by rfl) (by decide) ?_
                    refine x_ald0 h dX7_told_136 ?_
                    refine r_X7_10 h dX7_told_137 ?_
                    refine x_ild1 h dX7_told_140 ?_
                    refine vCI1 (10 * 0) h cs_X7_120 (c_X0_leavesHere B (by decide) _ _ hi d (by omega)) (obj_h (by decide)) rfl ⟨rfl, rfl⟩ ⟨Nat.le_of_ble_eq_true rfl, Nat.le_of_ble_eq_true rfl⟩ (Nat.le_of_ble_eq_true rfl) dX7_told_141 (fun r141 s141 p141 => ?_)
                    obtain ⟨rfl, rfl⟩ := p141
                    refine x_iret h hr ?_ dX7_told_144
                    subst ey12
                    exact ⟨_, _, rfl, rfl, by simp_all [-Int32.not_lt, -Int32.not_le, aTold], σ, Jk.rf, rfl⟩
                  · skip
                    by_cases q12_8 : y12 = 8
                    · rw [q12_8] at ey12 ⊢
                      refine x_tin 145 h dX7_told_12 (by decide) (by decide) (by rfl) (by decide) ?_
                      refine x_ald0 h dX7_told_145 ?_
                      refine r_X7_10 h dX7_told_146 ?_
                      refine r0_X7_97 h dX7_told_149 ?_
                      refine x_ild1 h dX7_told_152 ?_
                      refine xc_ialdN (d) (rfl) (by omega) (by decide) h 1 (⟨by decide, fun _ _ => rfl⟩ : ArrC 1 12) dX7_told_153 ?_
                      change XC B k _ _ _ (.int (hh 1 (d)) :: _)
                      refine x_ald0 h dX7_told_154 ?_
                      refine r_X7_10 h dX7_told_155 ?_
                      refine r0_X7_103 h dX7_told_158 ?_
                      refine x_ild1 h dX7_told_161 ?_
                      refine xc_ialdN (d) (rfl) (by omega) (by decide) h 3 (⟨by decide, fun _ _ => rfl⟩ : ArrC 3 12) dX7_told_162 ?_
                      change XC B k _ _ _ (.int (hh 3 (d)) :: _)
                      refine sCI2 h cs_X7_123 (c_X1_worth B _ _ _) ⟨rfl, rfl⟩ ⟨Nat.le_of_ble_eq_true rfl, Nat.le_of_ble_eq_true rfl⟩ (Nat.le_of_ble_eq_true rfl) dX7_told_163 (fun r163 s163 p163 => ?_)
                      obtain ⟨rfl, rfl⟩ := p163
                      refine x_iret h hr ?_ dX7_told_166
                      subst ey12
                      exact ⟨_, _, rfl, rfl, by simp_all [-Int32.not_lt, -Int32.not_le, aTold], σ, Jk.rf, rfl⟩
                    · skip
                      refine x_tout 167 h dX7_told_12 (by have tq12_0 := lv_neT q12_0 (a := 0) (by decide); have tq12_1 := lv_neT q12_1 (a := 1) (by decide); have tq12_2 := lv_neT q12_2 (a := 2) (by decide); have tq12_3 := lv_neT q12_3 (a := 3) (by decide); have tq12_4 := lv_neT q12_4 (a := 4) (by decide); have tq12_5 := lv_neT q12_5 (a := 5) (by decide); have tq12_6 := lv_neT q12_6 (a := 6) (by decide); have tq12_7 := lv_neT q12_7 (a := 7) (by decide); have tq12_8 := lv_neT q12_8 (a := 8) (by decide); omega) (by decide) ?_
                      refine x_ldc h kc_X7_85 dX7_told_167 ?_
                      refine x_iret h hr ?_ dX7_told_169
                      subst ey12
                      exact ⟨_, _, rfl, rfl, by simp_all [-Int32.not_lt, -Int32.not_le, aTold], σ, Jk.rf, rfl⟩
  · have c5 := bI_0.mp c5
    refine x_ldc h kc_X7_85 dX7_told_8 ?_
    refine x_iret h hr ?_ dX7_told_10
    exact ⟨_, _, rfl, rfl, by simp_all [-Int32.not_lt, -Int32.not_le, aTold], σ, Jk.rf, rfl⟩
set_option maxRecDepth 100000 in
set_option maxHeartbeats 4000000 in
theorem c_X7_as (B : BT) (σ : Nat → Nat → Int32) (hh : HT) (hi : HI hh) (x kd : Int32) : CI B yX7_as cX7_as 3 (some .int) ({ frames := 1, cells := 0, slots := 0, locals := 21 }) [.ref (aB B 30), .int x, .int kd] (sH σ 0 hh) (fun r σ' => r = aAs hh x kd ∧ σ' = sH σ 0 hh) := by
  refine MX.of2 RX7 (by decide) rfl ⟨rfl, rfl⟩ (Nat.le_of_ble_eq_true rfl) (by rfl) (fun k h hr hk => ?_)
  show XC B k (sH σ 0 hh) 0 [some (.ref (aB B 30)), some (.int x), some (.int kd)] []
  refine x_ald0 h dX7_as_0 ?_
  refine x_ild1 h dX7_as_1 ?_
  refine vCI1 30 h cs_X7_94 (c_X7_isDancer B _ _) (⟨by decide, fun _ _ => rfl⟩ : ObjC 30 6) rfl ⟨rfl, rfl⟩ ⟨Nat.le_of_ble_eq_true rfl, Nat.le_of_ble_eq_true rfl⟩ (Nat.le_of_ble_eq_true rfl) dX7_as_2 (fun r2 s2 p2 => ?_)
  obtain ⟨rfl, rfl⟩ := p2
  rw [bD]
  refine x_if_eq 15 h dX7_as_5 (by decide) (fun c5 => ?_) (fun c5 => ?_)
  · have c5 := bI_0.mp c5
    refine x_ldc h kc_X7_85 dX7_as_15 ?_
    refine x_iret h hr ?_ dX7_as_17
    exact ⟨_, _, rfl, rfl, by simp_all [-Int32.not_lt, -Int32.not_le, aAs], rfl⟩
  · have c5 := bI_n.mp c5
    obtain ⟨d, hd, rfl⟩ := isD_of c5 hi
    have hd12 := hi.n.1
    have ed : ix (nI d) = d := ix_n (by omega)
    refine x_ild2 h dX7_as_8 ?_
    refine sCI1 h cs_X7_72 (c_X7_isKind B _ _) ⟨rfl, rfl⟩ ⟨Nat.le_of_ble_eq_true rfl, Nat.le_of_ble_eq_true rfl⟩ (Nat.le_of_ble_eq_true rfl) dX7_as_9 (fun r9 s9 p9 => ?_)
    obtain ⟨rfl, rfl⟩ := p9
    rw [bK]
    refine x_if_ne 18 h dX7_as_12 (by decide) (fun c12 => ?_) (fun c12 => ?_)
    · have c12 := bI_n.mp c12
      refine x_ald0 h dX7_as_18 ?_
      refine r_X7_10 h dX7_as_19 ?_
      refine r0_X7_97 h dX7_as_22 ?_
      refine x_ild1 h dX7_as_25 ?_
      refine xc_ialdN (d) (rfl) (by omega) (by decide) h 1 (⟨by decide, fun _ _ => rfl⟩ : ArrC 1 12) dX7_as_26 ?_
      change XC B k _ _ _ (.int (hh 1 (d)) :: _)
      refine x_ild2 h dX7_as_27 ?_
      refine sCI2 h cs_X7_129 (c_X1_isOf B _ _ _) ⟨rfl, rfl⟩ ⟨Nat.le_of_ble_eq_true rfl, Nat.le_of_ble_eq_true rfl⟩ (Nat.le_of_ble_eq_true rfl) dX7_as_28 (fun r28 s28 p28 => ?_)
      obtain ⟨rfl, rfl⟩ := p28
      refine x_if_eq 46 h dX7_as_31 (by decide) (fun c31 => ?_) (fun c31 => ?_)
      · have c31 := bI_0.mp c31
        refine x_ldc h kc_X7_133 dX7_as_46 ?_
        refine x_iret h hr ?_ dX7_as_48
        exact ⟨_, _, rfl, rfl, by simp_all [-Int32.not_lt, -Int32.not_le, aAs], rfl⟩
      · have c31 := bI_n.mp c31
        refine x_ald0 h dX7_as_34 ?_
        refine r_X7_10 h dX7_as_35 ?_
        refine r0_X7_103 h dX7_as_38 ?_
        refine x_ild1 h dX7_as_41 ?_
        refine xc_ialdN (d) (rfl) (by omega) (by decide) h 3 (⟨by decide, fun _ _ => rfl⟩ : ArrC 3 12) dX7_as_42 ?_
        change XC B k _ _ _ (.int (hh 3 (d)) :: _)
        refine x_goto 48 h dX7_as_43 (by decide) ?_
        refine x_iret h hr ?_ dX7_as_48
        exact ⟨_, _, rfl, rfl, by simp_all [-Int32.not_lt, -Int32.not_le, aAs], rfl⟩
    · have c12 := bI_0.mp c12
      refine x_ldc h kc_X7_85 dX7_as_15 ?_
      refine x_iret h hr ?_ dX7_as_17
      exact ⟨_, _, rfl, rfl, by simp_all [-Int32.not_lt, -Int32.not_le, aAs], rfl⟩
set_option maxRecDepth 100000 in
set_option maxHeartbeats 4000000 in
theorem c_X7_turns (B : BT) (σ : Nat → Nat → Int32) (hh : HT) (hi : HI hh) (x kd : Int32) : CI B yX7_turns cX7_turns 3 (some .int) ({ frames := 1, cells := 0, slots := 0, locals := 23 }) [.ref (aB B 30), .int x, .int kd] (sH σ 0 hh) (fun r σ' => r = (aTurns hh x kd).1 ∧ σ' = sH σ 0 (aTurns hh x kd).2) := by
  refine MX.of2 RX7 (by decide) rfl ⟨rfl, rfl⟩ (Nat.le_of_ble_eq_true rfl) (by rfl) (fun k h hr hk => ?_)
  show XC B k (sH σ 0 hh) 0 [some (.ref (aB B 30)), some (.int x), some (.int kd)] []
  refine x_ald0 h dX7_turns_0 ?_
  refine x_ild1 h dX7_turns_1 ?_
  refine vCI1 30 h cs_X7_94 (c_X7_isDancer B _ _) (⟨by decide, fun _ _ => rfl⟩ : ObjC 30 6) rfl ⟨rfl, rfl⟩ ⟨Nat.le_of_ble_eq_true rfl, Nat.le_of_ble_eq_true rfl⟩ (Nat.le_of_ble_eq_true rfl) dX7_turns_2 (fun r2 s2 p2 => ?_)
  obtain ⟨rfl, rfl⟩ := p2
  rw [bD]
  refine x_if_eq 15 h dX7_turns_5 (by decide) (fun c5 => ?_) (fun c5 => ?_)
  · have c5 := bI_0.mp c5
    refine x_ldc h kc_X7_85 dX7_turns_15 ?_
    refine x_iret h hr ?_ dX7_turns_17
    refine ⟨_, _, rfl, rfl, ?_, ?_⟩ <;> simp_all [-Int32.not_lt, -Int32.not_le, aTurns]
  · have c5 := bI_n.mp c5
    obtain ⟨d, hd, rfl⟩ := isD_of c5 hi
    have hd12 := hi.n.1
    have ed : ix (nI d) = d := ix_n (by omega)
    refine x_ild2 h dX7_turns_8 ?_
    refine sCI1 h cs_X7_72 (c_X7_isKind B _ _) ⟨rfl, rfl⟩ ⟨Nat.le_of_ble_eq_true rfl, Nat.le_of_ble_eq_true rfl⟩ (Nat.le_of_ble_eq_true rfl) dX7_turns_9 (fun r9 s9 p9 => ?_)
    obtain ⟨rfl, rfl⟩ := p9
    rw [bK]
    refine x_if_ne 18 h dX7_turns_12 (by decide) (fun c12 => ?_) (fun c12 => ?_)
    · have c12 := bI_n.mp c12
      refine x_ald0 h dX7_turns_18 ?_
      refine r_X7_10 h dX7_turns_19 ?_
      refine r0_X7_97 h dX7_turns_22 ?_
      refine x_ild1 h dX7_turns_25 ?_
      refine x_ild2 h dX7_turns_26 ?_
      refine sCI3 h cs_X7_134 (c_X7_changed B _ 1 12 d (⟨by decide, fun _ _ => rfl⟩ : ArrC 1 12) (by omega) (by decide) _) ⟨rfl, rfl⟩ ⟨Nat.le_of_ble_eq_true rfl, Nat.le_of_ble_eq_true rfl⟩ (Nat.le_of_ble_eq_true rfl) dX7_turns_27 (fun r27 s27 p27 => ?_)
      obtain ⟨rfl, rfl⟩ := p27
      change XC B k (up2 (sH σ 0 hh) (10 * 0 + 1) d kd) _ _ [.int (hh 1 d)]
      rw [sH_up (by decide)]
      refine x_iret h hr ?_ dX7_turns_30
      refine ⟨_, _, rfl, rfl, ?_, ?_⟩ <;> simp_all [-Int32.not_lt, -Int32.not_le, aTurns]
    · have c12 := bI_0.mp c12
      refine x_ldc h kc_X7_85 dX7_turns_15 ?_
      refine x_iret h hr ?_ dX7_turns_17
      refine ⟨_, _, rfl, rfl, ?_, ?_⟩ <;> simp_all [-Int32.not_lt, -Int32.not_le, aTurns]
set_option maxRecDepth 100000 in
set_option maxHeartbeats 4000000 in
theorem c_X7_set (B : BT) (σ : Nat → Nat → Int32) (hh : HT) (hi : HI hh) (x w v : Int32) : CI B yX7_set cX7_set 4 (some .int) ({ frames := 1, cells := 0, slots := 0, locals := 23 }) [.ref (aB B 30), .int x, .int w, .int v] (sH σ 0 hh) (fun r σ' => r = (aSet hh x w v).1 ∧ σ' = sH σ 0 (aSet hh x w v).2) := by
  refine MX.of2 RX7 (by decide) rfl ⟨rfl, rfl⟩ (Nat.le_of_ble_eq_true rfl) (by rfl) (fun k h hr hk => ?_)
  show XC B k (sH σ 0 hh) 0 [some (.ref (aB B 30)), some (.int x), some (.int w), some (.int v)] []
  refine x_ald0 h dX7_set_0 ?_
  refine x_ild1 h dX7_set_1 ?_
  refine vCI1 30 h cs_X7_94 (c_X7_isDancer B _ _) (⟨by decide, fun _ _ => rfl⟩ : ObjC 30 6) rfl ⟨rfl, rfl⟩ ⟨Nat.le_of_ble_eq_true rfl, Nat.le_of_ble_eq_true rfl⟩ (Nat.le_of_ble_eq_true rfl) dX7_set_2 (fun r2 s2 p2 => ?_)
  obtain ⟨rfl, rfl⟩ := p2
  rw [bD]
  refine x_if_ne 11 h dX7_set_5 (by decide) (fun c5 => ?_) (fun c5 => ?_)
  · have c5 := bI_n.mp c5
    obtain ⟨d, hd, rfl⟩ := isD_of c5 hi
    have hd12 := hi.n.1
    have ed : ix (nI d) = d := ix_n (by omega)
    refine x_ild2 h dX7_set_11 ?_
    refine x_topi (fun y12 ey12 => ?_)
    by_cases q12_1 : y12 = 1
    · rw [q12_1] at ey12 ⊢
      refine x_tin 40 h dX7_set_12 (by decide) (by decide) (by rfl) (by decide) ?_
      refine x_ild3 h dX7_set_40 ?_
      refine sCI1 h cs_X7_76 (c_X7_isRoom B _ _) ⟨rfl, rfl⟩ ⟨Nat.le_of_ble_eq_true rfl, Nat.le_of_ble_eq_true rfl⟩ (Nat.le_of_ble_eq_true rfl) dX7_set_41 (fun r41 s41 p41 => ?_)
      obtain ⟨rfl, rfl⟩ := p41
      rw [bR]
      refine x_if_eq 62 h dX7_set_44 (by decide) (fun c44 => ?_) (fun c44 => ?_)
      · have c44 := bI_0.mp c44
        refine x_ldc h kc_X7_85 dX7_set_62 ?_
        refine x_iret h hr ?_ dX7_set_64
        subst ey12
        refine ⟨_, _, rfl, rfl, ?_, ?_⟩ <;> simp_all [-Int32.not_lt, -Int32.not_le, aSet]
      · have c44 := bI_n.mp c44
        refine x_ald0 h dX7_set_47 ?_
        refine r_X7_10 h dX7_set_48 ?_
        refine r0_X7_100 h dX7_set_51 ?_
        refine x_ild1 h dX7_set_54 ?_
        refine x_ild3 h dX7_set_55 ?_
        refine sCI3 h cs_X7_134 (c_X7_changed B _ 2 12 d (⟨by decide, fun _ _ => rfl⟩ : ArrC 2 12) (by omega) (by decide) _) ⟨rfl, rfl⟩ ⟨Nat.le_of_ble_eq_true rfl, Nat.le_of_ble_eq_true rfl⟩ (Nat.le_of_ble_eq_true rfl) dX7_set_56 (fun r56 s56 p56 => ?_)
        obtain ⟨rfl, rfl⟩ := p56
        change XC B k (up2 (sH σ 0 hh) (10 * 0 + 2) d v) _ _ [.int (hh 2 d)]
        rw [sH_up (by decide)]
        refine x_goto 64 h dX7_set_59 (by decide) ?_
        refine x_iret h hr ?_ dX7_set_64
        subst ey12
        refine ⟨_, _, rfl, rfl, ?_, ?_⟩ <;> simp_all [-Int32.not_lt, -Int32.not_le, aSet]
    · skip
      by_cases q12_2 : y12 = 2
      · rw [q12_2] at ey12 ⊢
        refine x_tin 65 h dX7_set_12 (by decide) (by decide) (by rfl) (by decide) ?_
        refine x_ild3 h dX7_set_65 ?_
        refine sCI1 h cs_X7_79 (c_X7_isSole B _ _) ⟨rfl, rfl⟩ ⟨Nat.le_of_ble_eq_true rfl, Nat.le_of_ble_eq_true rfl⟩ (Nat.le_of_ble_eq_true rfl) dX7_set_66 (fun r66 s66 p66 => ?_)
        obtain ⟨rfl, rfl⟩ := p66
        rw [bS]
        refine x_if_eq 87 h dX7_set_69 (by decide) (fun c69 => ?_) (fun c69 => ?_)
        · have c69 := bI_0.mp c69
          refine x_ldc h kc_X7_85 dX7_set_87 ?_
          refine x_iret h hr ?_ dX7_set_89
          subst ey12
          refine ⟨_, _, rfl, rfl, ?_, ?_⟩ <;> simp_all [-Int32.not_lt, -Int32.not_le, aSet]
        · have c69 := bI_n.mp c69
          refine x_ald0 h dX7_set_72 ?_
          refine r_X7_10 h dX7_set_73 ?_
          refine r0_X7_103 h dX7_set_76 ?_
          refine x_ild1 h dX7_set_79 ?_
          refine x_ild3 h dX7_set_80 ?_
          refine sCI3 h cs_X7_134 (c_X7_changed B _ 3 12 d (⟨by decide, fun _ _ => rfl⟩ : ArrC 3 12) (by omega) (by decide) _) ⟨rfl, rfl⟩ ⟨Nat.le_of_ble_eq_true rfl, Nat.le_of_ble_eq_true rfl⟩ (Nat.le_of_ble_eq_true rfl) dX7_set_81 (fun r81 s81 p81 => ?_)
          obtain ⟨rfl, rfl⟩ := p81
          change XC B k (up2 (sH σ 0 hh) (10 * 0 + 3) d v) _ _ [.int (hh 3 d)]
          rw [sH_up (by decide)]
          refine x_goto 89 h dX7_set_84 (by decide) ?_
          refine x_iret h hr ?_ dX7_set_89
          subst ey12
          refine ⟨_, _, rfl, rfl, ?_, ?_⟩ <;> simp_all [-Int32.not_lt, -Int32.not_le, aSet]
      · skip
        by_cases q12_3 : y12 = 3
        · rw [q12_3] at ey12 ⊢
          refine x_tin 90 h dX7_set_12 (by decide) (by decide) (by rfl) (by decide) ?_
          refine x_ild3 h dX7_set_90 ?_
          refine sCI1 h cs_X7_82 (c_X7_isSteps B _ _) ⟨rfl, rfl⟩ ⟨Nat.le_of_ble_eq_true rfl, Nat.le_of_ble_eq_true rfl⟩ (Nat.le_of_ble_eq_true rfl) dX7_set_91 (fun r91 s91 p91 => ?_)
          obtain ⟨rfl, rfl⟩ := p91
          rw [bT]
          refine x_if_eq 112 h dX7_set_94 (by decide) (fun c94 => ?_) (fun c94 => ?_)
          · have c94 := bI_0.mp c94
            refine x_ldc h kc_X7_85 dX7_set_112 ?_
            refine x_iret h hr ?_ dX7_set_114
            subst ey12
            refine ⟨_, _, rfl, rfl, ?_, ?_⟩ <;> simp_all [-Int32.not_lt, -Int32.not_le, aSet]
          · have c94 := bI_n.mp c94
            refine x_ald0 h dX7_set_97 ?_
            refine r_X7_10 h dX7_set_98 ?_
            refine r0_X7_106 h dX7_set_101 ?_
            refine x_ild1 h dX7_set_104 ?_
            refine x_ild3 h dX7_set_105 ?_
            refine sCI3 h cs_X7_134 (c_X7_changed B _ 4 12 d (⟨by decide, fun _ _ => rfl⟩ : ArrC 4 12) (by omega) (by decide) _) ⟨rfl, rfl⟩ ⟨Nat.le_of_ble_eq_true rfl, Nat.le_of_ble_eq_true rfl⟩ (Nat.le_of_ble_eq_true rfl) dX7_set_106 (fun r106 s106 p106 => ?_)
            obtain ⟨rfl, rfl⟩ := p106
            change XC B k (up2 (sH σ 0 hh) (10 * 0 + 4) d v) _ _ [.int (hh 4 d)]
            rw [sH_up (by decide)]
            refine x_goto 114 h dX7_set_109 (by decide) ?_
            refine x_iret h hr ?_ dX7_set_114
            subst ey12
            refine ⟨_, _, rfl, rfl, ?_, ?_⟩ <;> simp_all [-Int32.not_lt, -Int32.not_le, aSet]
        · skip
          refine x_tout 115 h dX7_set_12 (by have tq12_1 := lv_neT q12_1 (a := 1) (by decide); have tq12_2 := lv_neT q12_2 (a := 2) (by decide); have tq12_3 := lv_neT q12_3 (a := 3) (by decide); omega) (by decide) ?_
          refine x_ldc h kc_X7_85 dX7_set_115 ?_
          refine x_iret h hr ?_ dX7_set_117
          subst ey12
          refine ⟨_, _, rfl, rfl, ?_, ?_⟩ <;> simp_all [-Int32.not_lt, -Int32.not_le, aSet]
  · have c5 := bI_0.mp c5
    refine x_ldc h kc_X7_85 dX7_set_8 ?_
    refine x_iret h hr ?_ dX7_set_10
    refine ⟨_, _, rfl, rfl, ?_, ?_⟩ <;> simp_all [-Int32.not_lt, -Int32.not_le, aSet]
set_option maxRecDepth 100000 in
set_option maxHeartbeats 4000000 in
theorem c_X7_room (B : BT) (σ : Nat → Nat → Int32) (hh : HT) (p w v : Int32) : CI B yX7_room cX7_room 4 (some .int) ({ frames := 1, cells := 0, slots := 0, locals := 23 }) [.ref (aB B 30), .int p, .int w, .int v] (sH σ 0 hh) (fun r σ' => r = (aRoom hh p w v).1 ∧ σ' = sH σ 0 (aRoom hh p w v).2) := by
  refine MX.of2 RX7 (by decide) rfl ⟨rfl, rfl⟩ (Nat.le_of_ble_eq_true rfl) (by rfl) (fun k h hr hk => ?_)
  show XC B k (sH σ 0 hh) 0 [some (.ref (aB B 30)), some (.int p), some (.int w), some (.int v)] []
  refine x_ild1 h dX7_room_0 ?_
  refine sCI1 h cs_X7_76 (c_X7_isRoom B _ _) ⟨rfl, rfl⟩ ⟨Nat.le_of_ble_eq_true rfl, Nat.le_of_ble_eq_true rfl⟩ (Nat.le_of_ble_eq_true rfl) dX7_room_1 (fun r1 s1 p1 => ?_)
  obtain ⟨rfl, rfl⟩ := p1
  rw [bR]
  refine x_if_ne 10 h dX7_room_4 (by decide) (fun c4 => ?_) (fun c4 => ?_)
  · have c4 := bI_n.mp c4
    obtain ⟨e, he, rfl⟩ := isR_of c4
    have ee : ix (nI e) = e := ix_n (by omega)
    refine x_ild2 h dX7_room_10 ?_
    refine x_topi (fun y11 ey11 => ?_)
    by_cases q11_0 : y11 = 0
    · rw [q11_0] at ey11 ⊢
      refine x_lk 36 h dX7_room_11 (by decide) (by rfl) (by decide) ?_
      refine x_ild3 h dX7_room_36 ?_
      refine x_if_lt 61 h dX7_room_37 (by decide) (fun c37 => ?_) (fun c37 => ?_)
      · refine x_ldc h kc_X7_85 dX7_room_61 ?_
        refine x_iret h hr ?_ dX7_room_63
        subst ey11
        refine ⟨_, _, rfl, rfl, ?_, ?_⟩ <;> simp_all [-Int32.not_lt, -Int32.not_le, aRoom]
      · refine x_ild3 h dX7_room_40 ?_
        refine x_bipush (v := 9) h dX7_room_41 rfl ?_
        refine x_icmp_gt 61 h dX7_room_43 (by decide) (fun c43 => ?_) (fun c43 => ?_)
        · refine x_ldc h kc_X7_85 dX7_room_61 ?_
          refine x_iret h hr ?_ dX7_room_63
          subst ey11
          refine ⟨_, _, rfl, rfl, ?_, ?_⟩ <;> simp_all [-Int32.not_lt, -Int32.not_le, aRoom]
        · refine x_ald0 h dX7_room_46 ?_
          refine r_X7_10 h dX7_room_47 ?_
          refine r0_X7_138 h dX7_room_50 ?_
          refine x_ild1 h dX7_room_53 ?_
          refine x_ild3 h dX7_room_54 ?_
          refine sCI3 h cs_X7_134 (c_X7_changed B _ 6 10 e (⟨by decide, fun _ _ => rfl⟩ : ArrC 6 10) (by omega) (by decide) _) ⟨rfl, rfl⟩ ⟨Nat.le_of_ble_eq_true rfl, Nat.le_of_ble_eq_true rfl⟩ (Nat.le_of_ble_eq_true rfl) dX7_room_55 (fun r55 s55 p55 => ?_)
          obtain ⟨rfl, rfl⟩ := p55
          change XC B k (up2 (sH σ 0 hh) (10 * 0 + 6) e v) _ _ [.int (hh 6 e)]
          rw [sH_up (by decide)]
          refine x_goto 63 h dX7_room_58 (by decide) ?_
          refine x_iret h hr ?_ dX7_room_63
          subst ey11
          refine ⟨_, _, rfl, rfl, ?_, ?_⟩ <;> simp_all [-Int32.not_lt, -Int32.not_le, aRoom]
    · skip
      by_cases q11_1 : y11 = 1
      · rw [q11_1] at ey11 ⊢
        refine x_lk 64 h dX7_room_11 (by decide) (by rfl) (by decide) ?_
        refine x_ild3 h dX7_room_64 ?_
        refine sCI1 h cs_X7_76 (c_X7_isRoom B _ _) ⟨rfl, rfl⟩ ⟨Nat.le_of_ble_eq_true rfl, Nat.le_of_ble_eq_true rfl⟩ (Nat.le_of_ble_eq_true rfl) dX7_room_65 (fun r65 s65 p65 => ?_)
        obtain ⟨rfl, rfl⟩ := p65
        rw [bR]
        refine x_if_eq 86 h dX7_room_68 (by decide) (fun c68 => ?_) (fun c68 => ?_)
        · have c68 := bI_0.mp c68
          refine x_ldc h kc_X7_85 dX7_room_86 ?_
          refine x_iret h hr ?_ dX7_room_88
          subst ey11
          refine ⟨_, _, rfl, rfl, ?_, ?_⟩ <;> simp_all [-Int32.not_lt, -Int32.not_le, aRoom]
        · have c68 := bI_n.mp c68
          refine x_ald0 h dX7_room_71 ?_
          refine r_X7_10 h dX7_room_72 ?_
          refine r0_X7_141 h dX7_room_75 ?_
          refine x_ild1 h dX7_room_78 ?_
          refine x_ild3 h dX7_room_79 ?_
          refine sCI3 h cs_X7_134 (c_X7_changed B _ 7 10 e (⟨by decide, fun _ _ => rfl⟩ : ArrC 7 10) (by omega) (by decide) _) ⟨rfl, rfl⟩ ⟨Nat.le_of_ble_eq_true rfl, Nat.le_of_ble_eq_true rfl⟩ (Nat.le_of_ble_eq_true rfl) dX7_room_80 (fun r80 s80 p80 => ?_)
          obtain ⟨rfl, rfl⟩ := p80
          change XC B k (up2 (sH σ 0 hh) (10 * 0 + 7) e v) _ _ [.int (hh 7 e)]
          rw [sH_up (by decide)]
          refine x_goto 88 h dX7_room_83 (by decide) ?_
          refine x_iret h hr ?_ dX7_room_88
          subst ey11
          refine ⟨_, _, rfl, rfl, ?_, ?_⟩ <;> simp_all [-Int32.not_lt, -Int32.not_le, aRoom]
      · skip
        refine x_lk (off := 78) 89 h dX7_room_11 (by decide) (by show Op.lookupswitch.offset [_, _] _ _ = _; rw [lv_osw q11_0 (by decide), lv_osw q11_1 (by decide)] <;> rfl) (by decide) ?_
        refine x_ldc h kc_X7_85 dX7_room_89 ?_
        refine x_iret h hr ?_ dX7_room_91
        subst ey11
        refine ⟨_, _, rfl, rfl, ?_, ?_⟩ <;> simp_all [-Int32.not_lt, -Int32.not_le, aRoom]
  · have c4 := bI_0.mp c4
    refine x_ldc h kc_X7_85 dX7_room_7 ?_
    refine x_iret h hr ?_ dX7_room_9
    refine ⟨_, _, rfl, rfl, ?_, ?_⟩ <;> simp_all [-Int32.not_lt, -Int32.not_le, aRoom]
set_option maxRecDepth 100000 in
set_option maxHeartbeats 4000000 in
theorem c_X7_sweep (B : BT) (σ : Nat → Nat → Int32) (hh : HT) (p : Int32) : CI B yX7_sweep cX7_sweep 2 (some .int) ({ frames := 1, cells := 0, slots := 0, locals := 23 }) [.ref (aB B 30), .int p] (sH σ 0 hh) (fun r σ' => r = (aSweep hh p).1 ∧ σ' = sH σ 0 (aSweep hh p).2) := by
  refine MX.of2 RX7 (by decide) rfl ⟨rfl, rfl⟩ (Nat.le_of_ble_eq_true rfl) (by rfl) (fun k h hr hk => ?_)
  show XC B k (sH σ 0 hh) 0 [some (.ref (aB B 30)), some (.int p)] []
  refine x_ild1 h dX7_sweep_0 ?_
  refine sCI1 h cs_X7_76 (c_X7_isRoom B _ _) ⟨rfl, rfl⟩ ⟨Nat.le_of_ble_eq_true rfl, Nat.le_of_ble_eq_true rfl⟩ (Nat.le_of_ble_eq_true rfl) dX7_sweep_1 (fun r1 s1 p1 => ?_)
  obtain ⟨rfl, rfl⟩ := p1
  rw [bR]
  refine x_if_eq 22 h dX7_sweep_4 (by decide) (fun c4 => ?_) (fun c4 => ?_)
  · have c4 := bI_0.mp c4
    refine x_ldc h kc_X7_85 dX7_sweep_22 ?_
    refine x_iret h hr ?_ dX7_sweep_24
    refine ⟨_, _, rfl, rfl, ?_, ?_⟩ <;> simp_all [-Int32.not_lt, -Int32.not_le, aSweep]
  · have c4 := bI_n.mp c4
    obtain ⟨e, he, rfl⟩ := isR_of c4
    have ee : ix (nI e) = e := ix_n (by omega)
    refine x_ald0 h dX7_sweep_7 ?_
    refine r_X7_10 h dX7_sweep_8 ?_
    refine r0_X7_144 h dX7_sweep_11 ?_
    refine x_ild1 h dX7_sweep_14 ?_
    refine x_iconst (v := 0) h dX7_sweep_15 rfl ?_
    refine sCI3 h cs_X7_134 (c_X7_changed B _ 8 10 e (⟨by decide, fun _ _ => rfl⟩ : ArrC 8 10) (by omega) (by decide) _) ⟨rfl, rfl⟩ ⟨Nat.le_of_ble_eq_true rfl, Nat.le_of_ble_eq_true rfl⟩ (Nat.le_of_ble_eq_true rfl) dX7_sweep_16 (fun r16 s16 p16 => ?_)
    obtain ⟨rfl, rfl⟩ := p16
    change XC B k (up2 (sH σ 0 hh) (10 * 0 + 8) e 0) _ _ [.int (hh 8 e)]
    rw [sH_up (by decide)]
    refine x_goto 24 h dX7_sweep_19 (by decide) ?_
    refine x_iret h hr ?_ dX7_sweep_24
    refine ⟨_, _, rfl, rfl, ?_, ?_⟩ <;> simp_all [-Int32.not_lt, -Int32.not_le, aSweep]
set_option maxRecDepth 100000 in
set_option maxHeartbeats 4000000 in
theorem c_X7_watch (B : BT) (σ : Nat → Nat → Int32) (hh : HT) (v : Int32) : CI B yX7_watch cX7_watch 3 (some .int) ({ frames := 0, cells := 0, slots := 0, locals := 0 }) [.ref (aB B 30), .int v] (sH σ 0 hh) (fun r σ' => r = (aWatch hh v).1 ∧ σ' = sH σ 0 (aWatch hh v).2) := by
  refine MX.of2 RX7 (by decide) rfl ⟨rfl, rfl⟩ (Nat.le_of_ble_eq_true rfl) (by rfl) (fun k h hr hk => ?_)
  show XC B k (sH σ 0 hh) 0 [some (.ref (aB B 30)), some (.int v), none] []
  refine x_ild1 h dX7_watch_0 ?_
  refine x_if_lt 10 h dX7_watch_1 (by decide) (fun c1 => ?_) (fun c1 => ?_)
  · refine x_ldc h kc_X7_85 dX7_watch_10 ?_
    refine x_iret h hr ?_ dX7_watch_12
    refine ⟨_, _, rfl, rfl, ?_, ?_⟩ <;> simp_all [-Int32.not_lt, -Int32.not_le, aWatch]
  · refine x_ild1 h dX7_watch_4 ?_
    refine x_bipush (v := 100) h dX7_watch_5 rfl ?_
    refine x_icmp_le 13 h dX7_watch_7 (by decide) (fun c7 => ?_) (fun c7 => ?_)
    · refine x_ald0 h dX7_watch_13 ?_
      refine r_X7_10 h dX7_watch_14 ?_
      refine r0_X7_147 h dX7_watch_17 ?_
      change XC B k _ _ _ (.int (hh 0 9) :: _)
      refine x_ist2 h dX7_watch_20 (by rw [hk]; decide) rfl ?_
      refine x_ald0 h dX7_watch_21 ?_
      refine r_X7_10 h dX7_watch_22 ?_
      refine x_ild1 h dX7_watch_25 ?_
      refine w0_X7_147 h dX7_watch_26 ?_
      change XC B k (up2 (sH σ 0 hh) (10 * 0 + 0) 9 v) _ _ _
      rw [sH_up (by decide)]
      refine x_ild2 h dX7_watch_29 ?_
      refine x_iret h hr ?_ dX7_watch_30
      refine ⟨_, _, rfl, rfl, ?_, ?_⟩ <;> simp_all [-Int32.not_lt, -Int32.not_le, aWatch]
    · refine x_ldc h kc_X7_85 dX7_watch_10 ?_
      refine x_iret h hr ?_ dX7_watch_12
      refine ⟨_, _, rfl, rfl, ?_, ?_⟩ <;> simp_all [-Int32.not_lt, -Int32.not_le, aWatch]
set_option maxRecDepth 100000 in
set_option maxHeartbeats 4000000 in
theorem c_X7_at (B : BT) (σ : Nat → Nat → Int32) (hh : HT) (hi : HI hh) (p : Int32) : CI B yX7_at cX7_at 2 (some .int) ({ frames := 1, cells := 0, slots := 0, locals := 23 }) [.ref (aB B 30), .int p] (sH σ 0 hh) (fun r σ' => r = aAt hh p ∧ σ' = sH σ 0 hh) := by
  refine MX.of2 RX7 (by decide) rfl ⟨rfl, rfl⟩ (Nat.le_of_ble_eq_true rfl) (by rfl) (fun k h hr hk => ?_)
  show XC B k (sH σ 0 hh) 0 [some (.ref (aB B 30)), some (.int p)] []
  refine x_ild1 h dX7_at_0 ?_
  refine sCI1 h cs_X7_76 (c_X7_isRoom B _ _) ⟨rfl, rfl⟩ ⟨Nat.le_of_ble_eq_true rfl, Nat.le_of_ble_eq_true rfl⟩ (Nat.le_of_ble_eq_true rfl) dX7_at_1 (fun r1 s1 p1 => ?_)
  obtain ⟨rfl, rfl⟩ := p1
  rw [bR]
  refine x_if_eq 18 h dX7_at_4 (by decide) (fun c4 => ?_) (fun c4 => ?_)
  · have c4 := bI_0.mp c4
    refine x_ldc h kc_X7_85 dX7_at_18 ?_
    refine x_iret h hr ?_ dX7_at_20
    exact ⟨_, _, rfl, rfl, by simp_all [-Int32.not_lt, -Int32.not_le, aAt], rfl⟩
  · have c4 := bI_n.mp c4
    refine x_ald0 h dX7_at_7 ?_
    refine r_X7_10 h dX7_at_8 ?_
    refine x_ild1 h dX7_at_11 ?_
    refine vCI1 (10 * 0) h cs_X7_150 (c_X0_dancersAt B (by decide) _ _ hi p) (obj_h (by decide)) rfl ⟨rfl, rfl⟩ ⟨Nat.le_of_ble_eq_true rfl, Nat.le_of_ble_eq_true rfl⟩ (Nat.le_of_ble_eq_true rfl) dX7_at_12 (fun r12 s12 p12 => ?_)
    obtain ⟨rfl, rfl⟩ := p12
    refine x_goto 20 h dX7_at_15 (by decide) ?_
    refine x_iret h hr ?_ dX7_at_20
    exact ⟨_, _, rfl, rfl, by simp_all [-Int32.not_lt, -Int32.not_le, aAt], rfl⟩
set_option maxRecDepth 100000 in
set_option maxHeartbeats 4000000 in
theorem c_X7_round (B : BT) (σ : Nat → Nat → Int32) (hh : HT) (hi : HI hh) (p : Int32) : CI B yX7_round cX7_round 2 (some .int) ({ frames := 1, cells := 0, slots := 0, locals := 24 }) [.ref (aB B 30), .int p] (sH σ 0 hh) (fun r σ' => r = aRound hh p ∧ σ' = sH σ 0 hh) := by
  refine MX.of2 RX7 (by decide) rfl ⟨rfl, rfl⟩ (Nat.le_of_ble_eq_true rfl) (by rfl) (fun k h hr hk => ?_)
  show XC B k (sH σ 0 hh) 0 [some (.ref (aB B 30)), some (.int p)] []
  refine x_ild1 h dX7_round_0 ?_
  refine sCI1 h cs_X7_76 (c_X7_isRoom B _ _) ⟨rfl, rfl⟩ ⟨Nat.le_of_ble_eq_true rfl, Nat.le_of_ble_eq_true rfl⟩ (Nat.le_of_ble_eq_true rfl) dX7_round_1 (fun r1 s1 p1 => ?_)
  obtain ⟨rfl, rfl⟩ := p1
  rw [bR]
  refine x_if_eq 18 h dX7_round_4 (by decide) (fun c4 => ?_) (fun c4 => ?_)
  · have c4 := bI_0.mp c4
    refine x_ldc h kc_X7_85 dX7_round_18 ?_
    refine x_iret h hr ?_ dX7_round_20
    exact ⟨_, _, rfl, rfl, by simp_all [-Int32.not_lt, -Int32.not_le, aRound], rfl⟩
  · have c4 := bI_n.mp c4
    obtain ⟨e, he, rfl⟩ := isR_of c4
    have ee : ix (nI e) = e := ix_n (by omega)
    refine x_ald0 h dX7_round_7 ?_
    refine r_X7_10 h dX7_round_8 ?_
    refine x_ild1 h dX7_round_11 ?_
    refine vCI1 (10 * 0) h cs_X7_153 (c_X0_ringFrom B (by decide) _ _ hi _ (rg_nI (Nat.zero_le _) (by omega))) (obj_h (by decide)) rfl ⟨rfl, rfl⟩ ⟨Nat.le_of_ble_eq_true rfl, Nat.le_of_ble_eq_true rfl⟩ (Nat.le_of_ble_eq_true rfl) dX7_round_12 (fun r12 s12 p12 => ?_)
    obtain ⟨rfl, rfl⟩ := p12
    refine x_goto 20 h dX7_round_15 (by decide) ?_
    refine x_iret h hr ?_ dX7_round_20
    exact ⟨_, _, rfl, rfl, by simp_all [-Int32.not_lt, -Int32.not_le, aRound], rfl⟩
set_option maxRecDepth 100000 in
set_option maxHeartbeats 4000000 in
theorem c_X7_to (B : BT) (σ : Nat → Nat → Int32) (hh : HT) (hi : HI hh) (p s : Int32) : CI B yX7_to cX7_to 3 (some .int) ({ frames := 1, cells := 0, slots := 0, locals := 24 }) [.ref (aB B 30), .int p, .int s] (sH σ 0 hh) (fun r σ' => r = aTo hh p s ∧ σ' = sH σ 0 hh) := by
  refine MX.of2 RX7 (by decide) rfl ⟨rfl, rfl⟩ (Nat.le_of_ble_eq_true rfl) (by rfl) (fun k h hr hk => ?_)
  show XC B k (sH σ 0 hh) 0 [some (.ref (aB B 30)), some (.int p), some (.int s)] []
  refine x_ild1 h dX7_to_0 ?_
  refine sCI1 h cs_X7_76 (c_X7_isRoom B _ _) ⟨rfl, rfl⟩ ⟨Nat.le_of_ble_eq_true rfl, Nat.le_of_ble_eq_true rfl⟩ (Nat.le_of_ble_eq_true rfl) dX7_to_1 (fun r1 s1 p1 => ?_)
  obtain ⟨rfl, rfl⟩ := p1
  rw [bR]
  refine x_if_eq 14 h dX7_to_4 (by decide) (fun c4 => ?_) (fun c4 => ?_)
  · have c4 := bI_0.mp c4
    refine x_ldc h kc_X7_85 dX7_to_14 ?_
    refine x_iret h hr ?_ dX7_to_16
    exact ⟨_, _, rfl, rfl, by simp_all [-Int32.not_lt, -Int32.not_le, aTo], rfl⟩
  · have c4 := bI_n.mp c4
    obtain ⟨e, he, rfl⟩ := isR_of c4
    have ee : ix (nI e) = e := ix_n (by omega)
    refine x_ild2 h dX7_to_7 ?_
    refine sCI1 h cs_X7_76 (c_X7_isRoom B _ _) ⟨rfl, rfl⟩ ⟨Nat.le_of_ble_eq_true rfl, Nat.le_of_ble_eq_true rfl⟩ (Nat.le_of_ble_eq_true rfl) dX7_to_8 (fun r8 s8 p8 => ?_)
    obtain ⟨rfl, rfl⟩ := p8
    rw [bR]
    refine x_if_ne 17 h dX7_to_11 (by decide) (fun c11 => ?_) (fun c11 => ?_)
    · have c11 := bI_n.mp c11
      refine x_ald0 h dX7_to_17 ?_
      refine r_X7_10 h dX7_to_18 ?_
      refine x_ild1 h dX7_to_21 ?_
      refine x_ild2 h dX7_to_22 ?_
      refine vCI2 (10 * 0) h cs_X7_156 (c_X0_waysBetween B (by decide) _ _ hi _ s (rg_nI (Nat.zero_le _) (by omega))) (obj_h (by decide)) rfl ⟨rfl, rfl⟩ ⟨Nat.le_of_ble_eq_true rfl, Nat.le_of_ble_eq_true rfl⟩ (Nat.le_of_ble_eq_true rfl) dX7_to_23 (fun r23 s23 p23 => ?_)
      obtain ⟨rfl, rfl⟩ := p23
      refine x_iret h hr ?_ dX7_to_26
      exact ⟨_, _, rfl, rfl, by simp_all [-Int32.not_lt, -Int32.not_le, aTo], rfl⟩
    · have c11 := bI_0.mp c11
      refine x_ldc h kc_X7_85 dX7_to_14 ?_
      refine x_iret h hr ?_ dX7_to_16
      exact ⟨_, _, rfl, rfl, by simp_all [-Int32.not_lt, -Int32.not_le, aTo], rfl⟩
set_option maxRecDepth 100000 in
set_option maxHeartbeats 4000000 in
theorem c_X7_seed (B : BT) (σ : Nat → Nat → Int32) (hh : HT) (v : Int32) : CI B yX7_seed cX7_seed 3 (some .int) ({ frames := 0, cells := 0, slots := 0, locals := 0 }) [.ref (aB B 30), .int v] (sH σ 0 hh) (fun r σ' => r = (aSeed hh v).1 ∧ σ' = sH σ 0 (aSeed hh v).2) := by
  refine MX.of2 RX7 (by decide) rfl ⟨rfl, rfl⟩ (Nat.le_of_ble_eq_true rfl) (by rfl) (fun k h hr hk => ?_)
  show XC B k (sH σ 0 hh) 0 [some (.ref (aB B 30)), some (.int v), none] []
  refine x_ald0 h dX7_seed_0 ?_
  refine r_X7_10 h dX7_seed_1 ?_
  refine r0_X7_168 h dX7_seed_4 ?_
  change XC B k _ _ _ (.int (hh 0 13) :: _)
  refine x_ist2 h dX7_seed_7 (by rw [hk]; decide) rfl ?_
  refine x_ald0 h dX7_seed_8 ?_
  refine r_X7_10 h dX7_seed_9 ?_
  refine x_ild1 h dX7_seed_12 ?_
  refine w0_X7_168 h dX7_seed_13 ?_
  change XC B k (up2 (sH σ 0 hh) (10 * 0 + 0) 13 v) _ _ _
  rw [sH_up (by decide)]
  refine x_ild2 h dX7_seed_16 ?_
  refine x_iret h hr ?_ dX7_seed_17
  refine ⟨_, _, rfl, rfl, ?_, ?_⟩ <;> simp_all [-Int32.not_lt, -Int32.not_le, aSeed]
set_option maxRecDepth 100000 in
set_option maxHeartbeats 4000000 in
theorem c_X7_house (B : BT) (σ : Nat → Nat → Int32) (hh : HT) (hi : HI hh) (w : Int32) : CI B yX7_house cX7_house 2 (some .int) ({ frames := 1, cells := 0, slots := 0, locals := 22 }) [.ref (aB B 30), .int w] (sH σ 0 hh) (fun r σ' => r = aHouse hh w ∧ σ' = sH σ 0 hh) := by
  refine MX.of2 RX7 (by decide) rfl ⟨rfl, rfl⟩ (Nat.le_of_ble_eq_true rfl) (by rfl) (fun k h hr hk => ?_)
  show XC B k (sH σ 0 hh) 0 [some (.ref (aB B 30)), some (.int w)] []
  refine x_ild1 h dX7_house_0 ?_
  refine x_topi (fun y1 ey1 => ?_)
  by_cases q1_0 : y1 = 0
  · rw [q1_0] at ey1 ⊢
    refine x_tin 40 h dX7_house_1 (by decide) (by decide) (by rfl) (by decide) ?_
    refine x_ald0 h dX7_house_40 ?_
    refine r_X7_10 h dX7_house_41 ?_
    refine r0_X7_177 h dX7_house_44 ?_
    change XC B k _ _ _ (.int (hh 0 10) :: _)
    refine x_iret h hr ?_ dX7_house_47
    subst ey1
    exact ⟨_, _, rfl, rfl, by simp_all [-Int32.not_lt, -Int32.not_le, aHouse], rfl⟩
  · skip
    by_cases q1_1 : y1 = 1
    · rw [q1_1] at ey1 ⊢
      refine x_tin 48 h dX7_house_1 (by decide) (by decide) (by rfl) (by decide) ?_
      refine x_ald0 h dX7_house_48 ?_
      refine r_X7_10 h dX7_house_49 ?_
      refine r0_X7_180 h dX7_house_52 ?_
      change XC B k _ _ _ (.int (hh 0 11) :: _)
      refine x_iret h hr ?_ dX7_house_55
      subst ey1
      exact ⟨_, _, rfl, rfl, by simp_all [-Int32.not_lt, -Int32.not_le, aHouse], rfl⟩
    · skip
      by_cases q1_2 : y1 = 2
      · rw [q1_2] at ey1 ⊢
        refine x_tin 56 h dX7_house_1 (by decide) (by decide) (by rfl) (by decide) ?_
        refine x_ald0 h dX7_house_56 ?_
        refine r_X7_10 h dX7_house_57 ?_
        refine vCI0 (10 * 0) h cs_X7_183 (c_X0_allMarks B (by decide) _ _) (obj_h (by decide)) rfl ⟨rfl, rfl⟩ ⟨Nat.le_of_ble_eq_true rfl, Nat.le_of_ble_eq_true rfl⟩ (Nat.le_of_ble_eq_true rfl) dX7_house_60 (fun r60 s60 p60 => ?_)
        obtain ⟨rfl, rfl⟩ := p60
        refine x_iret h hr ?_ dX7_house_63
        subst ey1
        exact ⟨_, _, rfl, rfl, by simp_all [-Int32.not_lt, -Int32.not_le, aHouse], rfl⟩
      · skip
        by_cases q1_3 : y1 = 3
        · rw [q1_3] at ey1 ⊢
          refine x_tin 64 h dX7_house_1 (by decide) (by decide) (by rfl) (by decide) ?_
          refine x_ald0 h dX7_house_64 ?_
          refine r_X7_10 h dX7_house_65 ?_
          refine vCI0 (10 * 0) h cs_X7_186 (c_X0_allSoles B (by decide) _ _ hi) (obj_h (by decide)) rfl ⟨rfl, rfl⟩ ⟨Nat.le_of_ble_eq_true rfl, Nat.le_of_ble_eq_true rfl⟩ (Nat.le_of_ble_eq_true rfl) dX7_house_68 (fun r68 s68 p68 => ?_)
          obtain ⟨rfl, rfl⟩ := p68
          refine x_iret h hr ?_ dX7_house_71
          subst ey1
          exact ⟨_, _, rfl, rfl, by simp_all [-Int32.not_lt, -Int32.not_le, aHouse], rfl⟩
        · skip
          by_cases q1_4 : y1 = 4
          · rw [q1_4] at ey1 ⊢
            refine x_tin 72 h dX7_house_1 (by decide) (by decide) (by rfl) (by decide) ?_
            refine x_ald0 h dX7_house_72 ?_
            refine r_X7_10 h dX7_house_73 ?_
            refine vCI0 (10 * 0) h cs_X7_189 (c_X0_barefoot B (by decide) _ _ hi) (obj_h (by decide)) rfl ⟨rfl, rfl⟩ ⟨Nat.le_of_ble_eq_true rfl, Nat.le_of_ble_eq_true rfl⟩ (Nat.le_of_ble_eq_true rfl) dX7_house_76 (fun r76 s76 p76 => ?_)
            obtain ⟨rfl, rfl⟩ := p76
            refine x_iret h hr ?_ dX7_house_79
            subst ey1
            exact ⟨_, _, rfl, rfl, by simp_all [-Int32.not_lt, -Int32.not_le, aHouse], rfl⟩
          · skip
            by_cases q1_5 : y1 = 5
            · rw [q1_5] at ey1 ⊢
              refine x_tin 80 h dX7_house_1 (by decide) (by decide) (by rfl) (by decide) ?_
              refine x_ald0 h dX7_house_80 ?_
              refine r_X7_10 h dX7_house_81 ?_
              refine vCI0 (10 * 0) h cs_X7_192 (c_X0_roomsWithMarks B (by decide) _ _) (obj_h (by decide)) rfl ⟨rfl, rfl⟩ ⟨Nat.le_of_ble_eq_true rfl, Nat.le_of_ble_eq_true rfl⟩ (Nat.le_of_ble_eq_true rfl) dX7_house_84 (fun r84 s84 p84 => ?_)
              obtain ⟨rfl, rfl⟩ := p84
              refine x_iret h hr ?_ dX7_house_87
              subst ey1
              exact ⟨_, _, rfl, rfl, by simp_all [-Int32.not_lt, -Int32.not_le, aHouse], rfl⟩
            · skip
              refine x_tout 88 h dX7_house_1 (by have tq1_0 := lv_neT q1_0 (a := 0) (by decide); have tq1_1 := lv_neT q1_1 (a := 1) (by decide); have tq1_2 := lv_neT q1_2 (a := 2) (by decide); have tq1_3 := lv_neT q1_3 (a := 3) (by decide); have tq1_4 := lv_neT q1_4 (a := 4) (by decide); have tq1_5 := lv_neT q1_5 (a := 5) (by decide); omega) (by decide) ?_
              refine x_ldc h kc_X7_85 dX7_house_88 ?_
              refine x_iret h hr ?_ dX7_house_90
              subst ey1
              exact ⟨_, _, rfl, rfl, by simp_all [-Int32.not_lt, -Int32.not_le, aHouse], rfl⟩
set_option maxRecDepth 100000 in
set_option maxHeartbeats 4000000 in
theorem c_X7_hours (B : BT) (σ : Nat → Nat → Int32) (hh : HT) (hi : HI hh) (hT : CT σ (hh 9 0)) (H : Nat) (hH : hh 0 12 = nI H) (hH9 : H ≤ 9999) (n : Int32) : CI B yX7_hours cX7_hours 2 (some .int) ({ frames := 7, cells := 0, slots := 0, locals := 202 }) [.ref (aB B 30), .int n] (sH σ 0 hh) (fun r σ' => r = (aHours (gC σ (hh 9 0)) hh n).1 ∧ ∃ σ2, Jk σ σ2 ∧ σ' = sH σ2 0 (aHours (gC σ (hh 9 0)) hh n).2) := by
  refine MX.of2 RX7 (by decide) rfl ⟨rfl, rfl⟩ (Nat.le_of_ble_eq_true rfl) (by rfl) (fun k h hr hk => ?_)
  show XC B k (sH σ 0 hh) 0 [some (.ref (aB B 30)), some (.int n)] []
  refine x_ild1 h dX7_hours_0 ?_
  refine x_iconst (v := 1) h dX7_hours_1 rfl ?_
  refine x_icmp_lt 11 h dX7_hours_2 (by decide) (fun c2 => ?_) (fun c2 => ?_)
  · refine x_ldc h kc_X7_85 dX7_hours_11 ?_
    refine x_iret h hr ?_ dX7_hours_13
    refine ⟨_, _, rfl, rfl, ?_, σ, Jk.rf, ?_⟩ <;> simp_all [-Int32.not_lt, -Int32.not_le, aHours]
  · refine x_ild1 h dX7_hours_5 ?_
    refine x_bipush (v := 100) h dX7_hours_6 rfl ?_
    refine x_icmp_le 14 h dX7_hours_8 (by decide) (fun c8 => ?_) (fun c8 => ?_)
    · obtain ⟨m, hm, rfl⟩ := nI_of (x := n) (fun z => c2 (Int32.lt_trans z (by decide)))
      have c8m := n_le (b := 100) hm (by decide) c8
      have em : aHoursN hh (nI m) = min m (9999 - H) := by unfold aHoursN; rw [ix_n hm, hH, ix_n (by omega)]
      refine x_ald0 h dX7_hours_14 ?_
      refine r_X7_10 h dX7_hours_15 ?_
      refine x_ild1 h dX7_hours_18 ?_
      refine x_sipush (v := 9999) h dX7_hours_19 rfl ?_
      refine x_ald0 h dX7_hours_22 ?_
      refine r_X7_10 h dX7_hours_23 ?_
      refine r0_X7_171 h dX7_hours_26 ?_
      change XC B k _ _ _ (.int (hh 0 12) :: _)
      refine x_isub h dX7_hours_29 ?_
      refine x_min h ul_X7_159 ⟨Nat.le_of_ble_eq_true rfl, Nat.le_of_ble_eq_true rfl⟩ dX7_hours_30 ?_
      rw [hH, show (9999 : Int32) = nI 9999 from rfl, sub_nI hH9, min_nI (by omega) (by omega), ← em]
      refine x_ald0 h dX7_hours_33 ?_
      refine r_X7_47 h dX7_hours_34 ?_
      refine vCI2 (10 * 0) h cs_X7_174 (c_X0_passHours B (by decide) _ _ hi hT _ (by omega)) (obj_h (by decide)) rfl ⟨rfl, rfl⟩ ⟨Nat.le_of_ble_eq_true rfl, Nat.le_of_ble_eq_true rfl⟩ (Nat.le_of_ble_eq_true rfl) dX7_hours_37 (fun r37 s37 p37 => ?_)
      obtain ⟨rfl, stkp37c, rfl⟩ := p37
      refine x_iret h hr ?_ dX7_hours_40
      refine ⟨_, _, rfl, rfl, ?_⟩
      rw [show aHours (gC σ (hh 9 0)) hh (nI m) = (sGoneH (gC σ (hh 9 0)) hh (aHoursN hh (nI m)), sHours (gC σ (hh 9 0)) hh (aHoursN hh (nI m))) from if_pos ⟨c2, c8⟩]
      exact ⟨rfl, _, Jk.stk, rfl⟩
    · refine x_ldc h kc_X7_85 dX7_hours_11 ?_
      refine x_iret h hr ?_ dX7_hours_13
      refine ⟨_, _, rfl, rfl, ?_, σ, Jk.rf, ?_⟩ <;> simp_all [-Int32.not_lt, -Int32.not_le, aHours]
set_option maxRecDepth 100000 in
set_option maxHeartbeats 4000000 in
theorem c_X7_deal (B : BT) (σ : Nat → Nat → Int32) (hh : HT) (hi : HI hh) (n : Int32) : CI B yX7_deal cX7_deal 4 (some .int) ({ frames := 2, cells := 0, slots := 0, locals := 85 }) [.ref (aB B 30), .int n] (sH σ 0 hh) (fun r σ' => r = (aDeal hh n).1 ∧ σ' = sH σ 0 (aDeal hh n).2) := by
  refine MX.of2 RX7 (by decide) rfl ⟨rfl, rfl⟩ (Nat.le_of_ble_eq_true rfl) (by rfl) (fun k h hr hk => ?_)
  show XC B k (sH σ 0 hh) 0 [some (.ref (aB B 30)), some (.int n), none, none] []
  refine x_ild1 h dX7_deal_0 ?_
  refine x_iconst (v := 1) h dX7_deal_1 rfl ?_
  refine x_icmp_lt 11 h dX7_deal_2 (by decide) (fun c2 => ?_) (fun c2 => ?_)
  · refine x_ldc h kc_X7_85 dX7_deal_11 ?_
    refine x_iret h hr ?_ dX7_deal_13
    refine ⟨_, _, rfl, rfl, ?_, ?_⟩ <;> simp_all [-Int32.not_lt, -Int32.not_le, aDeal]
  · refine x_ild1 h dX7_deal_5 ?_
    refine x_bipush (v := 12) h dX7_deal_6 rfl ?_
    refine x_icmp_le 14 h dX7_deal_8 (by decide) (fun c8 => ?_) (fun c8 => ?_)
    · obtain ⟨m, hm, rfl⟩ := nI_of (x := n) (fun z => c2 (Int32.lt_trans z (by decide)))
      have c8m := n_le (b := 12) hm (by decide) c8
      have hn := hi.n
      have em : aDealN hh (nI m) = min m (12 - sN hh) := by unfold aDealN; rw [ix_n hm]
      have hc12 : sN hh + aDealN hh (nI m) ≤ 12 := by rw [em]; omega
      refine x_ild1 h dX7_deal_14 ?_
      refine x_bipush (v := 12) h dX7_deal_15 rfl ?_
      refine x_ald0 h dX7_deal_17 ?_
      refine r_X7_10 h dX7_deal_18 ?_
      refine r0_X7_86 h dX7_deal_21 ?_
      change XC B k _ _ _ (.int (hh 0 0) :: _)
      refine x_isub h dX7_deal_24 ?_
      refine x_min h ul_X7_159 ⟨Nat.le_of_ble_eq_true rfl, Nat.le_of_ble_eq_true rfl⟩ dX7_deal_25 ?_
      rw [hn.2, show (12 : Int32) = nI 12 from rfl, sub_nI hn.1, min_nI (by omega) (by omega), ← em]
      refine x_ist2 h dX7_deal_28 (by rw [hk]; decide) rfl ?_
      refine x_iconst (v := 0) h dX7_deal_29 rfl ?_
      refine x_ist3 h dX7_deal_30 (by rw [hk]; decide) rfl ?_
      have loop : ∀ (f i : Nat), aDealN hh (nI m) < f + i → i ≤ aDealN hh (nI m) → XC B k (sH σ 0 (sLots hh i)) 31 [some (.ref (aB B 30)), some (.int (nI m)), some (.int (nI (aDealN hh (nI m)))), some (.int (nI i))] [] := by
        intro f
        induction f with
        | zero => intro i h1 h2; omega
        | succ f ih =>
          intro i h1 h2
          refine x_ild3 h dX7_deal_31 ?_
          refine x_ild2 h dX7_deal_32 ?_
          refine x_icmp_ge 50 h dX7_deal_33 (by decide) (fun c33 => ?_) (fun c33 => ?_)
          · have c33 := n_le (by omega) (by omega) c33
            have ei : i = aDealN hh (nI m) := by omega
            subst ei
            refine x_ild2 h dX7_deal_50 ?_
            refine x_iret h hr ?_ dX7_deal_51
            refine ⟨_, _, rfl, rfl, ?_⟩
            rw [show aDeal hh (nI m) = (nI (aDealN hh (nI m)), sLots hh (aDealN hh (nI m))) from if_pos ⟨c2, c8⟩]
            exact ⟨rfl, rfl⟩
          · have c33 := n_nle (by omega) (by omega) c33
            have hL := sLots_N hn.2 i (by omega)
            refine x_ald0 h dX7_deal_36 ?_
            refine r_X7_10 h dX7_deal_37 ?_
            refine vCI0 (10 * 0) h cs_X7_164 (c_X0_joinByLot B (by decide) _ _ (by rw [hL.1, hL.2]) (by omega)) (obj_h (by decide)) rfl ⟨rfl, rfl⟩ ⟨Nat.le_of_ble_eq_true rfl, Nat.le_of_ble_eq_true rfl⟩ (Nat.le_of_ble_eq_true rfl) dX7_deal_40 (fun r40 s40 p40 => ?_)
            obtain ⟨rfl, rfl⟩ := p40
            refine x_pop h dX7_deal_43 rfl ?_
            refine x_inc3 (y := 1) h dX7_deal_44 (by rw [hk]; decide) rfl rfl ?_
            refine x_goto 31 h dX7_deal_47 (by decide) ?_
            change XC B k (sH σ 0 (sLots hh (i + 1))) 31 _ _
            rw [nI_1 i]
            exact ih (i + 1) (by omega) (by omega)
      exact loop (aDealN hh (nI m) + 1) 0 (by omega) (by omega)
    · refine x_ldc h kc_X7_85 dX7_deal_11 ?_
      refine x_iret h hr ?_ dX7_deal_13
      refine ⟨_, _, rfl, rfl, ?_, ?_⟩ <;> simp_all [-Int32.not_lt, -Int32.not_le, aDeal]
