/-! the calls that don't stand in a house -/
theorem bDs {σ : Nat → Nat → Int32} {x : Int32} : bI (¬ x < 0 ∧ ¬ σ 0 0 ≤ x) = bI (isD (hs σ 0) x = true) := bI_iff (dk (P := ¬ x < 0 ∧ ¬ σ 0 0 ≤ x))
def isQ (x : Int32) : Bool := decide (¬ x < 0 ∧ ¬ 4 ≤ x)
def isL (x : Int32) : Bool := decide (¬ x < 0 ∧ ¬ 5 ≤ x)
theorem isQ_n {t : Nat} (h : t < 4) : isQ (nI t) = true := by
  rcases (by omega : t = 0 ∨ t = 1 ∨ t = 2 ∨ t = 3) with rfl | rfl | rfl | rfl <;> rfl
theorem isL_n {t : Nat} (h : t < 5) : isL (nI t) = true := by
  rcases (by omega : t = 0 ∨ t = 1 ∨ t = 2 ∨ t = 3 ∨ t = 4) with rfl | rfl | rfl | rfl | rfl <;> rfl
theorem isQ_f {x : Int32} (h : ¬ (¬ x < 0 ∧ ¬ 4 ≤ x)) : isQ x = false := decide_eq_false h
theorem isL_f {x : Int32} (h : ¬ (¬ x < 0 ∧ ¬ 5 ≤ x)) : isL x = false := decide_eq_false h
def hasP (σ : Nat → Nat → Int32) (r : Nat) (x y : Int32) : Bool := decide (¬ x < 0 ∧ ¬ y < 0 ∧ ¬ σ (54 + 2 * r) 1 - x < y)
theorem bH {σ : Nat → Nat → Int32} {r : Nat} {x y : Int32} : bI (¬ x < 0 ∧ ¬ y < 0 ∧ ¬ σ (54 + 2 * r) 1 - x < y) = bI (hasP σ r x y = true) := bI_iff dk
theorem hasP_of {σ : Nat → Nat → Int32} {r : Nat} {x y : Int32} (h : hasP σ r x y = true) (hr : RS σ r) : ∃ m i j, m ≤ 24 ∧ σ (54 + 2 * r) 1 = nI m ∧ x = nI i ∧ y = nI j ∧ i + j ≤ m := by
  have h := dk.mpr h
  obtain ⟨m, hm, e⟩ := hr
  obtain ⟨i, hi, rfl⟩ := nI_of h.1
  obtain ⟨j, hj, rfl⟩ := nI_of h.2.1
  refine ⟨m, i, j, hm, e, rfl, rfl, ?_⟩
  have h2 := h.2.2
  rw [e, Int32.lt_iff_toInt_lt, Int32.toInt_sub, nI_toInt (by omega), nI_toInt hi, nI_toInt hj, Int.bmod_eq_of_le (by omega) (by omega)] at h2
  omega
def zR (σ : Nat → Nat → Int32) (r : Nat) (s n : Int32) : Nat → Nat → Int32 := up1 (up2 (up2 σ (54 + 2 * r) 0 s) (54 + 2 * r) 1 n) (54 + 2 * r + 1) (fun _ => 0)
abbrev ST : Type := Nat → Nat → Int32
def aTrim (σ : ST) (v : Int32) : Int32 × ST := if ¬ v < 0 ∧ v ≤ σ 32 1 then (v, up2 σ 32 1 v) else (-1000000001, σ)
def aTextTold (σ : ST) (x w : Int32) : Int32 := if ¬ x < 0 ∧ ¬ σ 0 14 ≤ x ∧ is2 w = true then (if w = 0 then σ 37 (ix x) else σ 38 (ix x)) else -1000000001
def aWhy (σ : ST) (x : Int32) : Int32 := if ¬ x < 0 ∧ x < 3 then (if 0 ≤ σ 9 (ix x) then σ 9 (ix x) else -1000000005) else -1000000001
def aSheet (σ : ST) (x s n : Int32) : Int32 × ST := if isQ x = true ∧ ¬ s < -1 ∧ s ≤ 1 then (if s = -1 then (0, zR σ (ix x) (-1) 0) else if ¬ n ≤ 24 then (-1000000001, σ) else if ¬ 0 ≤ n then (-1000000014, σ) else (n, zR σ (ix x) s n)) else (-1000000001, σ)
def aMark (σ : ST) (x p v : Int32) : Int32 × ST := if isQ x = true then (if σ (54 + 2 * ix x) 0 = -1 then (-1000000011, σ) else if hasP σ (ix x) p 1 = true then
    (if σ (54 + 2 * ix x) 0 = 0 then (if v = -1000000005 then (-1000000012, σ) else (1, up2 σ (54 + 2 * ix x + 1) (ix p) v.toInt16.toInt32))
     else if ¬ v = -1000000005 ∧ (v < -99999 ∨ ¬ v ≤ 99999) then (-1000000001, σ) else (1, up2 σ (54 + 2 * ix x + 1) (ix p) v)) else (-1000000013, σ)) else (-1000000001, σ)
def aCopy (σ : ST) (x p y q n : Int32) : Int32 × ST := if isQ x = true ∧ isQ y = true then (if σ (54 + 2 * ix x) 0 = -1 ∨ σ (54 + 2 * ix y) 0 = -1 then (-1000000011, σ) else if σ (54 + 2 * ix x) 0 = σ (54 + 2 * ix y) 0 then
    (if hasP σ (ix x) p n = true ∧ hasP σ (ix y) q n = true then (n, up1 σ (54 + 2 * ix y + 1) (va_cpy (σ (54 + 2 * ix x + 1)) (σ (54 + 2 * ix y + 1)) (ix p) (ix q) (ix n))) else (-1000000013, σ)) else (-1000000012, σ)) else (-1000000001, σ)
def lyD (σ : ST) (s d : Nat) : ST := up2 (up2 (up2 σ (72 + s) 1 (σ 1 d)) (72 + s) 2 (σ 3 d)) (72 + s) 0 1
def lyR (σ : ST) (s r : Nat) : ST := up2 (up1 (up2 (up2 σ (54 + 2 * (4 + s)) 0 (σ (54 + 2 * r) 0)) (54 + 2 * (4 + s)) 1 (σ (54 + 2 * r) 1)) (54 + 2 * (4 + s) + 1) (σ (54 + 2 * r + 1))) (72 + s) 0 2
def aLay (σ : ST) (x th y : Int32) : Int32 × ST := if isL x = true then (if th = 0 then (σ (72 + ix x) 0, up2 σ (72 + ix x) 0 0)
    else if th = 1 then (if isD (hs σ 0) y = true then (σ (72 + ix x) 0, lyD σ (ix x) (ix y)) else (-1000000001, σ))
    else if th = 2 then (if isQ y = true then (if σ (54 + 2 * ix y) 0 = -1 then (-1000000011, σ) else (σ (72 + ix x) 0, lyR σ (ix x) (ix y))) else (-1000000001, σ))
    else if th = 3 then (σ (72 + ix x) 0, up2 (up2 σ (72 + ix x) 3 y) (72 + ix x) 0 3) else (-1000000001, σ)) else (-1000000001, σ)
def aAsk (σ : ST) (x kd : Int32) : Int32 := if isL x = true ∧ isK kd = true then (if σ (72 + ix x) 0 = 0 then -1000000011 else if σ (72 + ix x) 0 = 1 ∧ kIsOfB (σ (72 + ix x) 1) kd = true then kWorth (σ (72 + ix x) 1) (σ (72 + ix x) 2) else -1000000012) else -1000000001
def aItem (σ : ST) (x p : Int32) : Int32 := if isL x = true then (if σ (72 + ix x) 0 = 0 then -1000000011 else if σ (72 + ix x) 0 = 2 then (if hasP σ (4 + ix x) p 1 = true then (if σ (54 + 2 * (4 + ix x) + 1) (ix p) = -1000000005 then -1000000012 else σ (54 + 2 * (4 + ix x) + 1) (ix p)) else -1000000013) else -1000000012) else -1000000001
def aRest (σ : ST) (x n : Int32) : Int32 := if isL x = true then (if σ (72 + ix x) 0 = 0 then -1000000011 else if σ (72 + ix x) 0 = 3 then (if n = 0 then -1000000002 else jrem (σ (72 + ix x) 3) n) else -1000000012) else -1000000001
def aTell (σ : ST) (v : Int32) : Int32 × ST := if σ 30 11 < 60 then (σ 30 11 + 1, up2 (up2 σ 77 (ix (σ 30 11)) v) 30 11 (σ 30 11 + 1)) else (-1000000003, σ)
def aKeep (σ : ST) : ST := up2 (sH σ 1 (hs σ 0)) 30 2 1
def aBack (σ : ST) : Int32 × ST := if σ 30 2 = 0 then (-1000000002, σ) else (σ 10 0, sH σ 0 (hs σ 1))
def aCount (σ : ST) (w : Int32) : Int32 := if w = 0 then σ 0 0 else if w = 1 then σ 0 12 else if w = 2 then σ 0 9 else if w = 3 then σ 0 14 else if w = 4 then σ 30 11 else if w = 5 then σ 32 1 else if w = 6 then σ 0 13 else -1000000001
set_option maxRecDepth 100000 in
set_option maxHeartbeats 4000000 in
theorem c_X7_trim (B : BT) (σ : ST) (v : Int32) : CI B yX7_trim cX7_trim 2 (some .int) ({ frames := 0, cells := 0, slots := 0, locals := 0 }) [.ref (aB B 30), .int v] σ (fun w σ' => w = (aTrim σ v).1 ∧ σ' = (aTrim σ v).2) := by
  refine MX.of2 RX7 (by decide) rfl ⟨rfl, rfl⟩ (Nat.le_of_ble_eq_true rfl) (by rfl) (fun k h hr hk => ?_)
  show XC B k σ 0 [some (.ref (aB B 30)), some (.int v)] []
  refine x_ild1 h dX7_trim_0 ?_
  refine x_if_lt 15 h dX7_trim_1 (by decide) (fun c1 => ?_) (fun c1 => ?_)
  · refine x_ldc h kc_X7_85 dX7_trim_15 ?_
    refine x_iret h hr ?_ dX7_trim_17
    refine ⟨_, _, rfl, rfl, ?_, ?_⟩ <;> simp_all [-Int32.not_lt, -Int32.not_le, aTrim]
  · refine x_ild1 h dX7_trim_4 ?_
    refine x_ald0 h dX7_trim_5 ?_
    refine r_X7_33 h dX7_trim_6 ?_
    refine r_X7_241 h dX7_trim_9 ?_
    refine x_icmp_le 18 h dX7_trim_12 (by decide) (fun c12 => ?_) (fun c12 => ?_)
    · refine x_ald0 h dX7_trim_18 ?_
      refine r_X7_33 h dX7_trim_19 ?_
      refine x_ild1 h dX7_trim_22 ?_
      refine w_X7_241 h dX7_trim_23 ?_
      refine x_ild1 h dX7_trim_26 ?_
      refine x_iret h hr ?_ dX7_trim_27
      refine ⟨_, _, rfl, rfl, ?_, ?_⟩ <;> simp_all [-Int32.not_lt, -Int32.not_le, aTrim]
    · refine x_ldc h kc_X7_85 dX7_trim_15 ?_
      refine x_iret h hr ?_ dX7_trim_17
      refine ⟨_, _, rfl, rfl, ?_, ?_⟩ <;> simp_all [-Int32.not_lt, -Int32.not_le, aTrim]
set_option maxRecDepth 100000 in
set_option maxHeartbeats 4000000 in
theorem c_X7_textTold (B : BT) (σ : ST) (t : Nat) (ht : σ 0 14 = nI t) (ht14 : t ≤ 14) (x w : Int32) : CI B yX7_textTold cX7_textTold 3 (some .int) ({ frames := 1, cells := 0, slots := 0, locals := 20 }) [.ref (aB B 30), .int x, .int w] σ (fun v σ' => v = aTextTold σ x w ∧ σ' = σ) := by
  refine MX.of2 RX7 (by decide) rfl ⟨rfl, rfl⟩ (Nat.le_of_ble_eq_true rfl) (by rfl) (fun k h hr hk => ?_)
  show XC B k σ 0 [some (.ref (aB B 30)), some (.int x), some (.int w)] []
  refine x_ild1 h dX7_textTold_0 ?_
  refine x_if_lt 22 h dX7_textTold_1 (by decide) (fun c1 => ?_) (fun c1 => ?_)
  · refine x_ldc h kc_X7_85 dX7_textTold_22 ?_
    refine x_iret h hr ?_ dX7_textTold_24
    exact ⟨_, _, rfl, rfl, by simp_all [-Int32.not_lt, -Int32.not_le, aTextTold], rfl⟩
  · refine x_ild1 h dX7_textTold_4 ?_
    refine x_ald0 h dX7_textTold_5 ?_
    refine r_X7_10 h dX7_textTold_6 ?_
    refine r0_X7_255 h dX7_textTold_9 ?_
    refine x_icmp_ge 22 h dX7_textTold_12 (by decide) (fun c12 => ?_) (fun c12 => ?_)
    · skip
      refine x_ldc h kc_X7_85 dX7_textTold_22 ?_
      refine x_iret h hr ?_ dX7_textTold_24
      exact ⟨_, _, rfl, rfl, by simp_all [-Int32.not_lt, -Int32.not_le, aTextTold], rfl⟩
    · have c12' := c12
      obtain ⟨i, hi, rfl⟩ := in_of (x := x) (n := t) (by omega) c1 (by rw [← ht]; exact c12)
      have ei : ix (nI i) = i := ix_n (by omega)
      refine x_ild2 h dX7_textTold_15 ?_
      refine sCI1 h cs_X7_212 (c_X7_isOneOfTwo B _ _) ⟨rfl, rfl⟩ ⟨Nat.le_of_ble_eq_true rfl, Nat.le_of_ble_eq_true rfl⟩ (Nat.le_of_ble_eq_true rfl) dX7_textTold_16 (fun r16 s16 p16 => ?_)
      obtain ⟨rfl, rfl⟩ := p16
      rw [b2]
      refine x_if_ne 25 h dX7_textTold_19 (by decide) (fun c19 => ?_) (fun c19 => ?_)
      · have c19 := bI_n.mp c19
        refine x_ild2 h dX7_textTold_25 ?_
        refine x_if_ne 41 h dX7_textTold_26 (by decide) (fun c26 => ?_) (fun c26 => ?_)
        · refine x_ald0 h dX7_textTold_41 ?_
          refine r_X7_47 h dX7_textTold_42 ?_
          refine r_X7_268 h dX7_textTold_45 ?_
          refine x_ild1 h dX7_textTold_48 ?_
          refine xc_ialdN (i) (rfl) (by omega) (by decide) h 38 (⟨by decide, fun _ _ => rfl⟩ : ArrC 38 14) dX7_textTold_49 ?_
          refine x_iret h hr ?_ dX7_textTold_50
          exact ⟨_, _, rfl, rfl, by simp_all [-Int32.not_lt, -Int32.not_le, aTextTold], rfl⟩
        · refine x_ald0 h dX7_textTold_29 ?_
          refine r_X7_47 h dX7_textTold_30 ?_
          refine r_X7_265 h dX7_textTold_33 ?_
          refine x_ild1 h dX7_textTold_36 ?_
          refine xc_ialdN (i) (rfl) (by omega) (by decide) h 37 (⟨by decide, fun _ _ => rfl⟩ : ArrC 37 14) dX7_textTold_37 ?_
          refine x_goto 50 h dX7_textTold_38 (by decide) ?_
          refine x_iret h hr ?_ dX7_textTold_50
          exact ⟨_, _, rfl, rfl, by simp_all [-Int32.not_lt, -Int32.not_le, aTextTold], rfl⟩
      · have c19 := bI_0.mp c19
        refine x_ldc h kc_X7_85 dX7_textTold_22 ?_
        refine x_iret h hr ?_ dX7_textTold_24
        exact ⟨_, _, rfl, rfl, by simp_all [-Int32.not_lt, -Int32.not_le, aTextTold], rfl⟩
set_option maxRecDepth 100000 in
set_option maxHeartbeats 4000000 in
theorem c_X7_why (B : BT) (σ : ST) (x : Int32) : CI B yX7_why cX7_why 2 (some .int) ({ frames := 0, cells := 0, slots := 0, locals := 0 }) [.ref (aB B 30), .int x] σ (fun v σ' => v = aWhy σ x ∧ σ' = σ) := by
  refine MX.of2 RX7 (by decide) rfl ⟨rfl, rfl⟩ (Nat.le_of_ble_eq_true rfl) (by rfl) (fun k h hr hk => ?_)
  show XC B k σ 0 [some (.ref (aB B 30)), some (.int x)] []
  refine x_ild1 h dX7_why_0 ?_
  refine x_if_lt 9 h dX7_why_1 (by decide) (fun c1 => ?_) (fun c1 => ?_)
  · refine x_ldc h kc_X7_85 dX7_why_9 ?_
    refine x_iret h hr ?_ dX7_why_11
    exact ⟨_, _, rfl, rfl, by simp_all [-Int32.not_lt, -Int32.not_le, aWhy], rfl⟩
  · refine x_ild1 h dX7_why_4 ?_
    refine x_iconst (v := 3) h dX7_why_5 rfl ?_
    refine x_icmp_lt 12 h dX7_why_6 (by decide) (fun c6 => ?_) (fun c6 => ?_)
    · obtain ⟨i, hi, rfl⟩ := in_of (x := x) (n := 3) (by omega) c1 (Int32.not_le.mpr c6)
      have ei : ix (nI i) = i := ix_n (by omega)
      refine x_ald0 h dX7_why_12 ?_
      refine r_X7_10 h dX7_why_13 ?_
      refine r0_X7_235 h dX7_why_16 ?_
      refine x_ild1 h dX7_why_19 ?_
      refine xc_ialdN (i) (rfl) (by omega) (by decide) h 9 (⟨by decide, fun _ _ => rfl⟩ : ArrC 9 3) dX7_why_20 ?_
      refine x_if_ge 29 h dX7_why_21 (by decide) (fun c21 => ?_) (fun c21 => ?_)
      · refine x_ald0 h dX7_why_29 ?_
        refine r_X7_10 h dX7_why_30 ?_
        refine r0_X7_235 h dX7_why_33 ?_
        refine x_ild1 h dX7_why_36 ?_
        refine xc_ialdN (i) (rfl) (by omega) (by decide) h 9 (⟨by decide, fun _ _ => rfl⟩ : ArrC 9 3) dX7_why_37 ?_
        refine x_iret h hr ?_ dX7_why_38
        exact ⟨_, _, rfl, rfl, by simp_all [-Int32.not_lt, -Int32.not_le, aWhy], rfl⟩
      · refine x_ldc h kc_X7_208 dX7_why_24 ?_
        refine x_goto 38 h dX7_why_26 (by decide) ?_
        refine x_iret h hr ?_ dX7_why_38
        exact ⟨_, _, rfl, rfl, by simp_all [-Int32.not_lt, -Int32.not_le, aWhy], rfl⟩
    · refine x_ldc h kc_X7_85 dX7_why_9 ?_
      refine x_iret h hr ?_ dX7_why_11
      exact ⟨_, _, rfl, rfl, by simp_all [-Int32.not_lt, -Int32.not_le, aWhy], rfl⟩
set_option maxRecDepth 100000 in
set_option maxHeartbeats 4000000 in
theorem c_X7_sheet (B : BT) (σ : ST) (x s n : Int32) : CI B yX7_sheet cX7_sheet 5 (some .int) ({ frames := 1, cells := 0, slots := 0, locals := 23 }) [.ref (aB B 30), .int x, .int s, .int n] σ (fun v σ' => v = (aSheet σ x s n).1 ∧ σ' = (aSheet σ x s n).2) := by
  refine MX.of2 RX7 (by decide) rfl ⟨rfl, rfl⟩ (Nat.le_of_ble_eq_true rfl) (by rfl) (fun k h hr hk => ?_)
  show XC B k σ 0 [some (.ref (aB B 30)), some (.int x), some (.int s), some (.int n), none] []
  refine x_ald0 h dX7_sheet_0 ?_
  refine x_ild1 h dX7_sheet_1 ?_
  refine vCR1 30 h cs_X7_222 (c_X7_sheetOf B _ _) (⟨by decide, fun _ _ => rfl⟩ : ObjC 30 6) rfl ⟨rfl, rfl⟩ ⟨Nat.le_of_ble_eq_true rfl, Nat.le_of_ble_eq_true rfl⟩ (Nat.le_of_ble_eq_true rfl) dX7_sheet_2 (fun r2 s2 p2 => ?_)
  obtain ⟨rfl, ⟨t, ht, rfl, rfl⟩ | ⟨hxt, rfl⟩⟩ := p2
  · have et : ix (nI t) = t := ix_n (by omega)
    have qt := isQ_n ht
    refine x_ast4 h dX7_sheet_5 (by rw [hk]; decide) rfl ?_
    refine x_ald4 h dX7_sheet_7 ?_
    refine x_ifnull_r h dX7_sheet_9 ?_
    refine x_ild2 h dX7_sheet_12 ?_
    refine x_iconst (v := (-1)) h dX7_sheet_13 rfl ?_
    refine x_icmp_lt 22 h dX7_sheet_14 (by decide) (fun c14 => ?_) (fun c14 => ?_)
    · refine x_ldc h kc_X7_85 dX7_sheet_22 ?_
      refine x_iret h hr ?_ dX7_sheet_24
      refine ⟨_, _, rfl, rfl, ?_, ?_⟩ <;> simp_all [-Int32.not_lt, -Int32.not_le, aSheet, zR]
    · refine x_ild2 h dX7_sheet_17 ?_
      refine x_iconst (v := 1) h dX7_sheet_18 rfl ?_
      refine x_icmp_le 25 h dX7_sheet_19 (by decide) (fun c19 => ?_) (fun c19 => ?_)
      · refine x_ild2 h dX7_sheet_25 ?_
        refine x_iconst (v := (-1)) h dX7_sheet_26 rfl ?_
        refine x_icmp_ne 39 h dX7_sheet_27 (by decide) (fun c27 => ?_) (fun c27 => ?_)
        · refine x_ild3 h dX7_sheet_39 ?_
          refine x_bipush (v := 24) h dX7_sheet_40 rfl ?_
          refine x_icmp_le 48 h dX7_sheet_42 (by decide) (fun c42 => ?_) (fun c42 => ?_)
          · refine x_ild3 h dX7_sheet_48 ?_
            refine x_if_ge 56 h dX7_sheet_49 (by decide) (fun c49 => ?_) (fun c49 => ?_)
            · refine x_ald4 h dX7_sheet_56 ?_
              refine x_ild2 h dX7_sheet_58 ?_
              refine x_ild3 h dX7_sheet_59 ?_
              refine vCV2 (54 + 2 * t) h cs_X7_271 (c_X4_becomeZeros B (by omega) _ _ _) (obj_r (by omega)) rfl ⟨rfl, rfl⟩ ⟨Nat.le_of_ble_eq_true rfl, Nat.le_of_ble_eq_true rfl⟩ (Nat.le_of_ble_eq_true rfl) dX7_sheet_60 (fun s60 p60 => ?_)
              obtain rfl := p60
              refine x_ild3 h dX7_sheet_63 ?_
              refine x_iret h hr ?_ dX7_sheet_64
              refine ⟨_, _, rfl, rfl, ?_, ?_⟩ <;> simp_all [-Int32.not_lt, -Int32.not_le, aSheet, zR]
            · refine x_ldcw h kc_X7_275 dX7_sheet_52 ?_
              refine x_iret h hr ?_ dX7_sheet_55
              refine ⟨_, _, rfl, rfl, ?_, ?_⟩ <;> simp_all [-Int32.not_lt, -Int32.not_le, aSheet, zR]
          · refine x_ldc h kc_X7_85 dX7_sheet_45 ?_
            refine x_iret h hr ?_ dX7_sheet_47
            refine ⟨_, _, rfl, rfl, ?_, ?_⟩ <;> simp_all [-Int32.not_lt, -Int32.not_le, aSheet, zR]
        · refine x_ald4 h dX7_sheet_30 ?_
          refine x_iconst (v := (-1)) h dX7_sheet_32 rfl ?_
          refine x_iconst (v := 0) h dX7_sheet_33 rfl ?_
          refine vCV2 (54 + 2 * t) h cs_X7_271 (c_X4_becomeZeros B (by omega) _ _ _) (obj_r (by omega)) rfl ⟨rfl, rfl⟩ ⟨Nat.le_of_ble_eq_true rfl, Nat.le_of_ble_eq_true rfl⟩ (Nat.le_of_ble_eq_true rfl) dX7_sheet_34 (fun s34 p34 => ?_)
          obtain rfl := p34
          refine x_iconst (v := 0) h dX7_sheet_37 rfl ?_
          refine x_iret h hr ?_ dX7_sheet_38
          refine ⟨_, _, rfl, rfl, ?_, ?_⟩ <;> simp_all [-Int32.not_lt, -Int32.not_le, aSheet, zR]
      · refine x_ldc h kc_X7_85 dX7_sheet_22 ?_
        refine x_iret h hr ?_ dX7_sheet_24
        refine ⟨_, _, rfl, rfl, ?_, ?_⟩ <;> simp_all [-Int32.not_lt, -Int32.not_le, aSheet, zR]
  · have qt := isQ_f hxt
    refine x_asn4 h dX7_sheet_5 (by rw [hk]; decide) rfl ?_
    refine x_aln4 h dX7_sheet_7 ?_
    refine x_ifnull_n 22 h dX7_sheet_9 (by decide) ?_
    refine x_ldc h kc_X7_85 dX7_sheet_22 ?_
    refine x_iret h hr ?_ dX7_sheet_24
    refine ⟨_, _, rfl, rfl, ?_, ?_⟩ <;> simp_all [-Int32.not_lt, -Int32.not_le, aSheet, zR]
set_option maxRecDepth 100000 in
set_option maxHeartbeats 4000000 in
theorem c_X7_mark (B : BT) (σ : ST) (hRS : ∀ r, r < 9 → RS σ r) (x p v : Int32) : CI B yX7_mark cX7_mark 5 (some .int) ({ frames := 1, cells := 0, slots := 0, locals := 22 }) [.ref (aB B 30), .int x, .int p, .int v] σ (fun w σ' => w = (aMark σ x p v).1 ∧ σ' = (aMark σ x p v).2) := by
  refine MX.of2 RX7 (by decide) rfl ⟨rfl, rfl⟩ (Nat.le_of_ble_eq_true rfl) (by rfl) (fun k h hr hk => ?_)
  show XC B k σ 0 [some (.ref (aB B 30)), some (.int x), some (.int p), some (.int v), none] []
  refine x_ald0 h dX7_mark_0 ?_
  refine x_ild1 h dX7_mark_1 ?_
  refine vCR1 30 h cs_X7_222 (c_X7_sheetOf B _ _) (⟨by decide, fun _ _ => rfl⟩ : ObjC 30 6) rfl ⟨rfl, rfl⟩ ⟨Nat.le_of_ble_eq_true rfl, Nat.le_of_ble_eq_true rfl⟩ (Nat.le_of_ble_eq_true rfl) dX7_mark_2 (fun r2 s2 p2 => ?_)
  obtain ⟨rfl, ⟨t, ht, rfl, rfl⟩ | ⟨hxt, rfl⟩⟩ := p2
  · have et : ix (nI t) = t := ix_n (by omega)
    have qt := isQ_n ht
    refine x_ast4 h dX7_mark_5 (by rw [hk]; decide) rfl ?_
    refine x_ald4 h dX7_mark_7 ?_
    refine x_ifnonnull_r 15 h dX7_mark_9 (by decide) ?_
    refine x_ald4 h dX7_mark_15 ?_
    refine vCI0 (54 + 2 * t) h cs_X7_226 (c_X4_isMissing B (by omega) _) (obj_r (by omega)) rfl ⟨rfl, rfl⟩ ⟨Nat.le_of_ble_eq_true rfl, Nat.le_of_ble_eq_true rfl⟩ (Nat.le_of_ble_eq_true rfl) dX7_mark_17 (fun r17 s17 p17 => ?_)
    obtain ⟨rfl, rfl⟩ := p17
    refine x_if_eq 26 h dX7_mark_20 (by decide) (fun c20 => ?_) (fun c20 => ?_)
    · have c20 := bI_0.mp c20
      refine x_ald4 h dX7_mark_26 ?_
      refine x_ild2 h dX7_mark_28 ?_
      refine x_iconst (v := 1) h dX7_mark_29 rfl ?_
      refine vCI2 (54 + 2 * t) h cs_X7_276 (c_X4_hasPlaces B (by omega) _ _ _) (obj_r (by omega)) rfl ⟨rfl, rfl⟩ ⟨Nat.le_of_ble_eq_true rfl, Nat.le_of_ble_eq_true rfl⟩ (Nat.le_of_ble_eq_true rfl) dX7_mark_30 (fun r30 s30 p30 => ?_)
      obtain ⟨rfl, rfl⟩ := p30
      rw [bH]
      refine x_if_ne 40 h dX7_mark_33 (by decide) (fun c33 => ?_) (fun c33 => ?_)
      · have c33 := bI_n.mp c33
        obtain ⟨m, i, j, hm24, hm, rfl, ej, him⟩ := hasP_of c33 (hRS t (by omega))
        have ej1 : j = 1 := by
          by_cases q : j < 2 ^ 31
          · exact (n_eq (a := 1) (b := j) (by decide) q ej).symm
          · omega
        have ei : ix (nI i) = i := ix_n (by omega)
        refine x_ald4 h dX7_mark_40 ?_
        refine r_X7_280 (j := t) (by omega) h dX7_mark_42 ?_
        refine x_if_ne 68 h dX7_mark_45 (by decide) (fun c45 => ?_) (fun c45 => ?_)
        · refine x_ild3 h dX7_mark_68 ?_
          refine x_ldc h kc_X7_208 dX7_mark_69 ?_
          refine x_icmp_eq 91 h dX7_mark_71 (by decide) (fun c71 => ?_) (fun c71 => ?_)
          · refine x_ald4 h dX7_mark_91 ?_
            refine r_X7_283 (j := t) (by omega) h dX7_mark_93 ?_
            refine x_ild2 h dX7_mark_96 ?_
            refine x_ild3 h dX7_mark_97 ?_
            refine xc_iastN (i) (rfl) (by omega) (by decide) h (54 + 2 * t + 1) (arr_r (by omega)) dX7_mark_98 ?_
            refine x_iconst (v := 1) h dX7_mark_99 rfl ?_
            refine x_iret h hr ?_ dX7_mark_100
            refine ⟨_, _, rfl, rfl, ?_, ?_⟩ <;> simp_all [-Int32.not_lt, -Int32.not_le, aMark]
          · refine x_ild3 h dX7_mark_74 ?_
            refine x_ldcw h kc_X7_286 dX7_mark_75 ?_
            refine x_icmp_lt 88 h dX7_mark_78 (by decide) (fun c78 => ?_) (fun c78 => ?_)
            · refine x_ldc h kc_X7_85 dX7_mark_88 ?_
              refine x_iret h hr ?_ dX7_mark_90
              refine ⟨_, _, rfl, rfl, ?_, ?_⟩ <;> simp_all [-Int32.not_lt, -Int32.not_le, aMark]
            · refine x_ild3 h dX7_mark_81 ?_
              refine x_ldcw h kc_X7_287 dX7_mark_82 ?_
              refine x_icmp_le 91 h dX7_mark_85 (by decide) (fun c85 => ?_) (fun c85 => ?_)
              · refine x_ald4 h dX7_mark_91 ?_
                refine r_X7_283 (j := t) (by omega) h dX7_mark_93 ?_
                refine x_ild2 h dX7_mark_96 ?_
                refine x_ild3 h dX7_mark_97 ?_
                refine xc_iastN (i) (rfl) (by omega) (by decide) h (54 + 2 * t + 1) (arr_r (by omega)) dX7_mark_98 ?_
                refine x_iconst (v := 1) h dX7_mark_99 rfl ?_
                refine x_iret h hr ?_ dX7_mark_100
                refine ⟨_, _, rfl, rfl, ?_, ?_⟩ <;> simp_all [-Int32.not_lt, -Int32.not_le, aMark]
              · refine x_ldc h kc_X7_85 dX7_mark_88 ?_
                refine x_iret h hr ?_ dX7_mark_90
                refine ⟨_, _, rfl, rfl, ?_, ?_⟩ <;> simp_all [-Int32.not_lt, -Int32.not_le, aMark]
        · refine x_ild3 h dX7_mark_48 ?_
          refine x_ldc h kc_X7_208 dX7_mark_49 ?_
          refine x_icmp_ne 57 h dX7_mark_51 (by decide) (fun c51 => ?_) (fun c51 => ?_)
          · refine x_ald4 h dX7_mark_57 ?_
            refine r_X7_283 (j := t) (by omega) h dX7_mark_59 ?_
            refine x_ild2 h dX7_mark_62 ?_
            refine x_ild3 h dX7_mark_63 ?_
            refine x_i2s h dX7_mark_64 ?_
            refine xc_iastN (i) (rfl) (by omega) (by decide) h (54 + 2 * t + 1) (arr_r (by omega)) dX7_mark_65 ?_
            refine x_iconst (v := 1) h dX7_mark_66 rfl ?_
            refine x_iret h hr ?_ dX7_mark_67
            refine ⟨_, _, rfl, rfl, ?_, ?_⟩ <;> simp_all [-Int32.not_lt, -Int32.not_le, aMark]
          · refine x_ldc h kc_X7_133 dX7_mark_54 ?_
            refine x_iret h hr ?_ dX7_mark_56
            refine ⟨_, _, rfl, rfl, ?_, ?_⟩ <;> simp_all [-Int32.not_lt, -Int32.not_le, aMark]
      · have c33 := bI_0.mp c33
        refine x_ldcw h kc_X7_279 dX7_mark_36 ?_
        refine x_iret h hr ?_ dX7_mark_39
        refine ⟨_, _, rfl, rfl, ?_, ?_⟩ <;> simp_all [-Int32.not_lt, -Int32.not_le, aMark]
    · have c20 := bI_n.mp c20
      refine x_ldc h kc_X7_230 dX7_mark_23 ?_
      refine x_iret h hr ?_ dX7_mark_25
      refine ⟨_, _, rfl, rfl, ?_, ?_⟩ <;> simp_all [-Int32.not_lt, -Int32.not_le, aMark]
  · have qt := isQ_f hxt
    refine x_asn4 h dX7_mark_5 (by rw [hk]; decide) rfl ?_
    refine x_aln4 h dX7_mark_7 ?_
    refine x_ifnonnull_n h dX7_mark_9 ?_
    refine x_ldc h kc_X7_85 dX7_mark_12 ?_
    refine x_iret h hr ?_ dX7_mark_14
    refine ⟨_, _, rfl, rfl, ?_, ?_⟩ <;> simp_all [-Int32.not_lt, -Int32.not_le, aMark]
set_option maxRecDepth 100000 in
set_option maxHeartbeats 4000000 in
theorem c_X7_ask (B : BT) (σ : ST) (x kd : Int32) : CI B yX7_ask cX7_ask 4 (some .int) ({ frames := 1, cells := 0, slots := 0, locals := 21 }) [.ref (aB B 30), .int x, .int kd] σ (fun v σ' => v = aAsk σ x kd ∧ σ' = σ) := by
  refine MX.of2 RX7 (by decide) rfl ⟨rfl, rfl⟩ (Nat.le_of_ble_eq_true rfl) (by rfl) (fun k h hr hk => ?_)
  show XC B k σ 0 [some (.ref (aB B 30)), some (.int x), some (.int kd), none] []
  refine x_ald0 h dX7_ask_0 ?_
  refine x_ild1 h dX7_ask_1 ?_
  refine vCR1 30 h cs_X7_303 (c_X7_slotOf B _ _) (⟨by decide, fun _ _ => rfl⟩ : ObjC 30 6) rfl ⟨rfl, rfl⟩ ⟨Nat.le_of_ble_eq_true rfl, Nat.le_of_ble_eq_true rfl⟩ (Nat.le_of_ble_eq_true rfl) dX7_ask_2 (fun r2 s2 p2 => ?_)
  obtain ⟨rfl, ⟨t, ht, rfl, rfl⟩ | ⟨hxt, rfl⟩⟩ := p2
  · have et : ix (nI t) = t := ix_n (by omega)
    have qt := isL_n ht
    refine x_ast3 h dX7_ask_5 (by rw [hk]; decide) rfl ?_
    refine x_ald3 h dX7_ask_6 ?_
    refine x_ifnull_r h dX7_ask_7 ?_
    refine x_ild2 h dX7_ask_10 ?_
    refine sCI1 h cs_X7_72 (c_X7_isKind B _ _) ⟨rfl, rfl⟩ ⟨Nat.le_of_ble_eq_true rfl, Nat.le_of_ble_eq_true rfl⟩ (Nat.le_of_ble_eq_true rfl) dX7_ask_11 (fun r11 s11 p11 => ?_)
    obtain ⟨rfl, rfl⟩ := p11
    rw [bK]
    refine x_if_ne 20 h dX7_ask_14 (by decide) (fun c14 => ?_) (fun c14 => ?_)
    · have c14 := bI_n.mp c14
      refine x_ald3 h dX7_ask_20 ?_
      refine r_X7_307 (j := t) ht h dX7_ask_21 ?_
      refine x_if_ne 30 h dX7_ask_24 (by decide) (fun c24 => ?_) (fun c24 => ?_)
      · refine x_ald3 h dX7_ask_30 ?_
        refine r_X7_307 (j := t) ht h dX7_ask_31 ?_
        refine x_iconst (v := 1) h dX7_ask_34 rfl ?_
        refine x_icmp_ne 49 h dX7_ask_35 (by decide) (fun c35 => ?_) (fun c35 => ?_)
        · refine x_ldc h kc_X7_133 dX7_ask_49 ?_
          refine x_iret h hr ?_ dX7_ask_51
          exact ⟨_, _, rfl, rfl, by simp_all [-Int32.not_lt, -Int32.not_le, aAsk], rfl⟩
        · refine x_ald3 h dX7_ask_38 ?_
          refine r_X7_310 (j := t) ht h dX7_ask_39 ?_
          refine x_ild2 h dX7_ask_42 ?_
          refine sCI2 h cs_X7_129 (c_X1_isOf B _ _ _) ⟨rfl, rfl⟩ ⟨Nat.le_of_ble_eq_true rfl, Nat.le_of_ble_eq_true rfl⟩ (Nat.le_of_ble_eq_true rfl) dX7_ask_43 (fun r43 s43 p43 => ?_)
          obtain ⟨rfl, rfl⟩ := p43
          refine x_if_ne 52 h dX7_ask_46 (by decide) (fun c46 => ?_) (fun c46 => ?_)
          · have c46 := bI_n.mp c46
            refine x_ald3 h dX7_ask_52 ?_
            refine r_X7_310 (j := t) ht h dX7_ask_53 ?_
            refine x_ald3 h dX7_ask_56 ?_
            refine r_X7_312 (j := t) ht h dX7_ask_57 ?_
            refine sCI2 h cs_X7_123 (c_X1_worth B _ _ _) ⟨rfl, rfl⟩ ⟨Nat.le_of_ble_eq_true rfl, Nat.le_of_ble_eq_true rfl⟩ (Nat.le_of_ble_eq_true rfl) dX7_ask_60 (fun r60 s60 p60 => ?_)
            obtain ⟨rfl, rfl⟩ := p60
            refine x_iret h hr ?_ dX7_ask_63
            exact ⟨_, _, rfl, rfl, by simp_all [-Int32.not_lt, -Int32.not_le, aAsk], rfl⟩
          · have c46 := bI_0.mp c46
            refine x_ldc h kc_X7_133 dX7_ask_49 ?_
            refine x_iret h hr ?_ dX7_ask_51
            exact ⟨_, _, rfl, rfl, by simp_all [-Int32.not_lt, -Int32.not_le, aAsk], rfl⟩
      · refine x_ldc h kc_X7_230 dX7_ask_27 ?_
        refine x_iret h hr ?_ dX7_ask_29
        exact ⟨_, _, rfl, rfl, by simp_all [-Int32.not_lt, -Int32.not_le, aAsk], rfl⟩
    · have c14 := bI_0.mp c14
      refine x_ldc h kc_X7_85 dX7_ask_17 ?_
      refine x_iret h hr ?_ dX7_ask_19
      exact ⟨_, _, rfl, rfl, by simp_all [-Int32.not_lt, -Int32.not_le, aAsk], rfl⟩
  · have qt := isL_f hxt
    refine x_asn3 h dX7_ask_5 (by rw [hk]; decide) rfl ?_
    refine x_aln3 h dX7_ask_6 ?_
    refine x_ifnull_n 17 h dX7_ask_7 (by decide) ?_
    refine x_ldc h kc_X7_85 dX7_ask_17 ?_
    refine x_iret h hr ?_ dX7_ask_19
    exact ⟨_, _, rfl, rfl, by simp_all [-Int32.not_lt, -Int32.not_le, aAsk], rfl⟩
set_option maxRecDepth 100000 in
set_option maxHeartbeats 4000000 in
theorem c_X7_item (B : BT) (σ : ST) (hRS : ∀ r, r < 9 → RS σ r) (x p : Int32) : CI B yX7_item cX7_item 4 (some .int) ({ frames := 1, cells := 0, slots := 0, locals := 22 }) [.ref (aB B 30), .int x, .int p] σ (fun v σ' => v = aItem σ x p ∧ σ' = σ) := by
  refine MX.of2 RX7 (by decide) rfl ⟨rfl, rfl⟩ (Nat.le_of_ble_eq_true rfl) (by rfl) (fun k h hr hk => ?_)
  show XC B k σ 0 [some (.ref (aB B 30)), some (.int x), some (.int p), none] []
  refine x_ald0 h dX7_item_0 ?_
  refine x_ild1 h dX7_item_1 ?_
  refine vCR1 30 h cs_X7_303 (c_X7_slotOf B _ _) (⟨by decide, fun _ _ => rfl⟩ : ObjC 30 6) rfl ⟨rfl, rfl⟩ ⟨Nat.le_of_ble_eq_true rfl, Nat.le_of_ble_eq_true rfl⟩ (Nat.le_of_ble_eq_true rfl) dX7_item_2 (fun r2 s2 p2 => ?_)
  obtain ⟨rfl, ⟨t, ht, rfl, rfl⟩ | ⟨hxt, rfl⟩⟩ := p2
  · have et : ix (nI t) = t := ix_n (by omega)
    have qt := isL_n ht
    refine x_ast3 h dX7_item_5 (by rw [hk]; decide) rfl ?_
    refine x_ald3 h dX7_item_6 ?_
    refine x_ifnonnull_r 13 h dX7_item_7 (by decide) ?_
    refine x_ald3 h dX7_item_13 ?_
    refine r_X7_307 (j := t) ht h dX7_item_14 ?_
    refine x_if_ne 23 h dX7_item_17 (by decide) (fun c17 => ?_) (fun c17 => ?_)
    · refine x_ald3 h dX7_item_23 ?_
      refine r_X7_307 (j := t) ht h dX7_item_24 ?_
      refine x_iconst (v := 2) h dX7_item_27 rfl ?_
      refine x_icmp_eq 34 h dX7_item_28 (by decide) (fun c28 => ?_) (fun c28 => ?_)
      · refine x_ald3 h dX7_item_34 ?_
        refine r_X7_314 (j := t) ht h dX7_item_35 ?_
        refine x_ild2 h dX7_item_38 ?_
        refine x_iconst (v := 1) h dX7_item_39 rfl ?_
        refine vCI2 (54 + 2 * (4 + t)) h cs_X7_276 (c_X4_hasPlaces B (by have := ht; omega) _ _ _) (obj_r (by have := ht; omega)) rfl ⟨rfl, rfl⟩ ⟨Nat.le_of_ble_eq_true rfl, Nat.le_of_ble_eq_true rfl⟩ (Nat.le_of_ble_eq_true rfl) dX7_item_40 (fun r40 s40 p40 => ?_)
        obtain ⟨rfl, rfl⟩ := p40
        rw [bH]
        refine x_if_ne 50 h dX7_item_43 (by decide) (fun c43 => ?_) (fun c43 => ?_)
        · have c43 := bI_n.mp c43
          obtain ⟨m, i, j, hm24, hm, rfl, ej, him⟩ := hasP_of c43 (hRS (4 + t) (by omega))
          have ej1 : j = 1 := by
            by_cases q : j < 2 ^ 31
            · exact (n_eq (a := 1) (b := j) (by decide) q ej).symm
            · omega
          have ei : ix (nI i) = i := ix_n (by omega)
          refine x_ald3 h dX7_item_50 ?_
          refine r_X7_314 (j := t) ht h dX7_item_51 ?_
          refine x_ild2 h dX7_item_54 ?_
          refine vCI1 (54 + 2 * (4 + t)) h cs_X7_291 (c_X4_isNumber B (by have := ht; omega) _ i (by omega)) (obj_r (by have := ht; omega)) rfl ⟨rfl, rfl⟩ ⟨Nat.le_of_ble_eq_true rfl, Nat.le_of_ble_eq_true rfl⟩ (Nat.le_of_ble_eq_true rfl) dX7_item_55 (fun r55 s55 p55 => ?_)
          obtain ⟨rfl, rfl⟩ := p55
          refine x_if_eq 73 h dX7_item_58 (by decide) (fun c58 => ?_) (fun c58 => ?_)
          · have c58 := bI_0.mp c58
            refine x_ldc h kc_X7_133 dX7_item_73 ?_
            refine x_iret h hr ?_ dX7_item_75
            exact ⟨_, _, rfl, rfl, by simp_all [-Int32.not_lt, -Int32.not_le, aItem], rfl⟩
          · have c58 := bI_n.mp c58
            refine x_ald3 h dX7_item_61 ?_
            refine r_X7_314 (j := t) ht h dX7_item_62 ?_
            refine r_X7_283 (j := (4 + t)) (by have := ht; omega) h dX7_item_65 ?_
            refine x_ild2 h dX7_item_68 ?_
            refine xc_ialdN (i) (rfl) (by omega) (by decide) h (54 + 2 * (4 + t) + 1) (arr_r (by have := ht; omega)) dX7_item_69 ?_
            refine x_goto 75 h dX7_item_70 (by decide) ?_
            refine x_iret h hr ?_ dX7_item_75
            exact ⟨_, _, rfl, rfl, by simp_all [-Int32.not_lt, -Int32.not_le, aItem], rfl⟩
        · have c43 := bI_0.mp c43
          refine x_ldcw h kc_X7_279 dX7_item_46 ?_
          refine x_iret h hr ?_ dX7_item_49
          exact ⟨_, _, rfl, rfl, by simp_all [-Int32.not_lt, -Int32.not_le, aItem], rfl⟩
      · refine x_ldc h kc_X7_133 dX7_item_31 ?_
        refine x_iret h hr ?_ dX7_item_33
        exact ⟨_, _, rfl, rfl, by simp_all [-Int32.not_lt, -Int32.not_le, aItem], rfl⟩
    · refine x_ldc h kc_X7_230 dX7_item_20 ?_
      refine x_iret h hr ?_ dX7_item_22
      exact ⟨_, _, rfl, rfl, by simp_all [-Int32.not_lt, -Int32.not_le, aItem], rfl⟩
  · have qt := isL_f hxt
    refine x_asn3 h dX7_item_5 (by rw [hk]; decide) rfl ?_
    refine x_aln3 h dX7_item_6 ?_
    refine x_ifnonnull_n h dX7_item_7 ?_
    refine x_ldc h kc_X7_85 dX7_item_10 ?_
    refine x_iret h hr ?_ dX7_item_12
    exact ⟨_, _, rfl, rfl, by simp_all [-Int32.not_lt, -Int32.not_le, aItem], rfl⟩
set_option maxRecDepth 100000 in
set_option maxHeartbeats 4000000 in
theorem c_X7_rest (B : BT) (σ : ST) (x n : Int32) : CI B yX7_rest cX7_rest 4 (some .int) ({ frames := 1, cells := 0, slots := 0, locals := 21 }) [.ref (aB B 30), .int x, .int n] σ (fun v σ' => v = aRest σ x n ∧ σ' = σ) := by
  refine MX.of2 RX7 (by decide) rfl ⟨rfl, rfl⟩ (Nat.le_of_ble_eq_true rfl) (by rfl) (fun k h hr hk => ?_)
  show XC B k σ 0 [some (.ref (aB B 30)), some (.int x), some (.int n), none] []
  refine x_ald0 h dX7_rest_0 ?_
  refine x_ild1 h dX7_rest_1 ?_
  refine vCR1 30 h cs_X7_303 (c_X7_slotOf B _ _) (⟨by decide, fun _ _ => rfl⟩ : ObjC 30 6) rfl ⟨rfl, rfl⟩ ⟨Nat.le_of_ble_eq_true rfl, Nat.le_of_ble_eq_true rfl⟩ (Nat.le_of_ble_eq_true rfl) dX7_rest_2 (fun r2 s2 p2 => ?_)
  obtain ⟨rfl, ⟨t, ht, rfl, rfl⟩ | ⟨hxt, rfl⟩⟩ := p2
  · have et : ix (nI t) = t := ix_n (by omega)
    have qt := isL_n ht
    refine x_ast3 h dX7_rest_5 (by rw [hk]; decide) rfl ?_
    refine x_ald3 h dX7_rest_6 ?_
    refine x_ifnonnull_r 13 h dX7_rest_7 (by decide) ?_
    refine x_ald3 h dX7_rest_13 ?_
    refine r_X7_307 (j := t) ht h dX7_rest_14 ?_
    refine x_if_ne 23 h dX7_rest_17 (by decide) (fun c17 => ?_) (fun c17 => ?_)
    · refine x_ald3 h dX7_rest_23 ?_
      refine r_X7_307 (j := t) ht h dX7_rest_24 ?_
      refine x_iconst (v := 3) h dX7_rest_27 rfl ?_
      refine x_icmp_eq 34 h dX7_rest_28 (by decide) (fun c28 => ?_) (fun c28 => ?_)
      · refine x_ild2 h dX7_rest_34 ?_
        refine x_if_ne 44 h dX7_rest_35 (by decide) (fun c35 => ?_) (fun c35 => ?_)
        · refine x_ald3 h dX7_rest_44 ?_
          refine r_X7_320 (j := t) ht h dX7_rest_45 ?_
          refine x_ild2 h dX7_rest_48 ?_
          refine x_irem h dX7_rest_49 (c35) ?_
          refine x_iret h hr ?_ dX7_rest_50
          exact ⟨_, _, rfl, rfl, by simp_all [-Int32.not_lt, -Int32.not_le, aRest], rfl⟩
        · refine x_ldcw h kc_X7_323 dX7_rest_38 ?_
          refine x_goto 50 h dX7_rest_41 (by decide) ?_
          refine x_iret h hr ?_ dX7_rest_50
          exact ⟨_, _, rfl, rfl, by simp_all [-Int32.not_lt, -Int32.not_le, aRest], rfl⟩
      · refine x_ldc h kc_X7_133 dX7_rest_31 ?_
        refine x_iret h hr ?_ dX7_rest_33
        exact ⟨_, _, rfl, rfl, by simp_all [-Int32.not_lt, -Int32.not_le, aRest], rfl⟩
    · refine x_ldc h kc_X7_230 dX7_rest_20 ?_
      refine x_iret h hr ?_ dX7_rest_22
      exact ⟨_, _, rfl, rfl, by simp_all [-Int32.not_lt, -Int32.not_le, aRest], rfl⟩
  · have qt := isL_f hxt
    refine x_asn3 h dX7_rest_5 (by rw [hk]; decide) rfl ?_
    refine x_aln3 h dX7_rest_6 ?_
    refine x_ifnonnull_n h dX7_rest_7 ?_
    refine x_ldc h kc_X7_85 dX7_rest_10 ?_
    refine x_iret h hr ?_ dX7_rest_12
    exact ⟨_, _, rfl, rfl, by simp_all [-Int32.not_lt, -Int32.not_le, aRest], rfl⟩
set_option maxRecDepth 100000 in
set_option maxHeartbeats 4000000 in
theorem c_X7_tell (B : BT) (σ : ST) (hw : ∃ n, n ≤ 60 ∧ σ 30 11 = nI n) (v : Int32) : CI B yX7_tell cX7_tell 2 (some .int) ({ frames := 0, cells := 0, slots := 0, locals := 0 }) [.ref (aB B 30), .int v] σ (fun w σ' => w = (aTell σ v).1 ∧ σ' = (aTell σ v).2) := by
  refine MX.of2 RX7 (by decide) rfl ⟨rfl, rfl⟩ (Nat.le_of_ble_eq_true rfl) (by rfl) (fun k h hr hk => ?_)
  show XC B k σ 0 [some (.ref (aB B 30)), some (.int v)] []
  refine x_ald0 h dX7_tell_0 ?_
  refine r_X7_66 h dX7_tell_1 ?_
  refine x_bipush (v := 60) h dX7_tell_4 rfl ?_
  refine x_icmp_lt 12 h dX7_tell_6 (by decide) (fun c6 => ?_) (fun c6 => ?_)
  · obtain ⟨n, hn, en⟩ := hw
    have hn60 := n_lt (a := n) (b := 60) (by omega) (by decide) (by rw [← en]; exact c6)
    have ei : ix (σ 30 11) = n := by rw [en, ix_n (by omega)]
    refine x_ald0 h dX7_tell_12 ?_
    refine r_X7_63 h dX7_tell_13 ?_
    refine x_ald0 h dX7_tell_16 ?_
    refine r_X7_66 h dX7_tell_17 ?_
    refine x_ild1 h dX7_tell_20 ?_
    refine xc_iastN (n) (en) (by omega) (by decide) h 77 (⟨by decide, fun _ _ => rfl⟩ : ArrC 77 60) dX7_tell_21 ?_
    refine x_ald0 h dX7_tell_22 ?_
    refine x_dup h dX7_tell_23 rfl ?_
    refine r_X7_66 h dX7_tell_24 ?_
    refine x_iconst (v := 1) h dX7_tell_27 rfl ?_
    refine x_iadd h dX7_tell_28 ?_
    refine w_X7_66 h dX7_tell_29 ?_
    refine x_ald0 h dX7_tell_32 ?_
    refine r_X7_66 h dX7_tell_33 ?_
    refine x_iret h hr ?_ dX7_tell_36
    have e9 : aTell σ v = (σ 30 11 + 1, up2 (up2 σ 77 n v) 30 11 (σ 30 11 + 1)) := by
      unfold aTell
      rw [if_pos c6, ei]
    exact ⟨_, _, rfl, rfl, by rw [e9]; rfl, by rw [e9]; rfl⟩
  · refine x_ldc h kc_X7_89 dX7_tell_9 ?_
    refine x_iret h hr ?_ dX7_tell_11
    refine ⟨_, _, rfl, rfl, ?_, ?_⟩ <;> simp_all [-Int32.not_lt, -Int32.not_le, aTell]
set_option maxRecDepth 100000 in
set_option maxHeartbeats 4000000 in
theorem c_X7_count (B : BT) (σ : ST) (w : Int32) : CI B yX7_count cX7_count 2 (some .int) ({ frames := 0, cells := 0, slots := 0, locals := 0 }) [.ref (aB B 30), .int w] σ (fun v σ' => v = aCount σ w ∧ σ' = σ) := by
  refine MX.of2 RX7 (by decide) rfl ⟨rfl, rfl⟩ (Nat.le_of_ble_eq_true rfl) (by rfl) (fun k h hr hk => ?_)
  show XC B k σ 0 [some (.ref (aB B 30)), some (.int w)] []
  refine x_ild1 h dX7_count_0 ?_
  refine x_topi (fun y1 ey1 => ?_)
  by_cases q1_0 : y1 = 0
  · rw [q1_0] at ey1 ⊢
    refine x_tin 44 h dX7_count_1 (by decide) (by decide) (by rfl) (by decide) ?_
    refine x_ald0 h dX7_count_44 ?_
    refine r_X7_10 h dX7_count_45 ?_
    refine r0_X7_86 h dX7_count_48 ?_
    refine x_iret h hr ?_ dX7_count_51
    subst ey1
    exact ⟨_, _, rfl, rfl, by simp_all [-Int32.not_lt, -Int32.not_le, aCount], rfl⟩
  · skip
    by_cases q1_1 : y1 = 1
    · rw [q1_1] at ey1 ⊢
      refine x_tin 52 h dX7_count_1 (by decide) (by decide) (by rfl) (by decide) ?_
      refine x_ald0 h dX7_count_52 ?_
      refine r_X7_10 h dX7_count_53 ?_
      refine r0_X7_171 h dX7_count_56 ?_
      refine x_iret h hr ?_ dX7_count_59
      subst ey1
      exact ⟨_, _, rfl, rfl, by simp_all [-Int32.not_lt, -Int32.not_le, aCount], rfl⟩
    · skip
      by_cases q1_2 : y1 = 2
      · rw [q1_2] at ey1 ⊢
        refine x_tin 60 h dX7_count_1 (by decide) (by decide) (by rfl) (by decide) ?_
        refine x_ald0 h dX7_count_60 ?_
        refine r_X7_10 h dX7_count_61 ?_
        refine r0_X7_147 h dX7_count_64 ?_
        refine x_iret h hr ?_ dX7_count_67
        subst ey1
        exact ⟨_, _, rfl, rfl, by simp_all [-Int32.not_lt, -Int32.not_le, aCount], rfl⟩
      · skip
        by_cases q1_3 : y1 = 3
        · rw [q1_3] at ey1 ⊢
          refine x_tin 68 h dX7_count_1 (by decide) (by decide) (by rfl) (by decide) ?_
          refine x_ald0 h dX7_count_68 ?_
          refine r_X7_10 h dX7_count_69 ?_
          refine r0_X7_255 h dX7_count_72 ?_
          refine x_iret h hr ?_ dX7_count_75
          subst ey1
          exact ⟨_, _, rfl, rfl, by simp_all [-Int32.not_lt, -Int32.not_le, aCount], rfl⟩
        · skip
          by_cases q1_4 : y1 = 4
          · rw [q1_4] at ey1 ⊢
            refine x_tin 76 h dX7_count_1 (by decide) (by decide) (by rfl) (by decide) ?_
            refine x_ald0 h dX7_count_76 ?_
            refine r_X7_66 h dX7_count_77 ?_
            refine x_iret h hr ?_ dX7_count_80
            subst ey1
            exact ⟨_, _, rfl, rfl, by simp_all [-Int32.not_lt, -Int32.not_le, aCount], rfl⟩
          · skip
            by_cases q1_5 : y1 = 5
            · rw [q1_5] at ey1 ⊢
              refine x_tin 81 h dX7_count_1 (by decide) (by decide) (by rfl) (by decide) ?_
              refine x_ald0 h dX7_count_81 ?_
              refine r_X7_33 h dX7_count_82 ?_
              refine r_X7_241 h dX7_count_85 ?_
              refine x_iret h hr ?_ dX7_count_88
              subst ey1
              exact ⟨_, _, rfl, rfl, by simp_all [-Int32.not_lt, -Int32.not_le, aCount], rfl⟩
            · skip
              by_cases q1_6 : y1 = 6
              · rw [q1_6] at ey1 ⊢
                refine x_tin 89 h dX7_count_1 (by decide) (by decide) (by rfl) (by decide) ?_
                refine x_ald0 h dX7_count_89 ?_
                refine r_X7_10 h dX7_count_90 ?_
                refine r0_X7_168 h dX7_count_93 ?_
                refine x_iret h hr ?_ dX7_count_96
                subst ey1
                exact ⟨_, _, rfl, rfl, by simp_all [-Int32.not_lt, -Int32.not_le, aCount], rfl⟩
              · skip
                refine x_tout 97 h dX7_count_1 (by have tq1_0 := lv_neT q1_0 (a := 0) (by decide); have tq1_1 := lv_neT q1_1 (a := 1) (by decide); have tq1_2 := lv_neT q1_2 (a := 2) (by decide); have tq1_3 := lv_neT q1_3 (a := 3) (by decide); have tq1_4 := lv_neT q1_4 (a := 4) (by decide); have tq1_5 := lv_neT q1_5 (a := 5) (by decide); have tq1_6 := lv_neT q1_6 (a := 6) (by decide); omega) (by decide) ?_
                refine x_ldc h kc_X7_85 dX7_count_97 ?_
                refine x_iret h hr ?_ dX7_count_99
                subst ey1
                exact ⟨_, _, rfl, rfl, by simp_all [-Int32.not_lt, -Int32.not_le, aCount], rfl⟩
theorem csB {B : BT} {y : MethodName} {cc : ByteArray} {nL : Nat} {ret : Option FieldType} {rm : Room} {av : List Value} {σ : ST} {j : Nat} {Q : ST → Prop} (h : CV B y cc nL ret rm av (sH σ j (hs σ j)) Q) : CV B y cc nL ret rm av σ Q := by rwa [sH_hs] at h
set_option maxRecDepth 100000 in
set_option maxHeartbeats 4000000 in
theorem c_X7_keep (B : BT) (σ : ST) : CI B yX7_keep cX7_keep 1 (some .int) ({ frames := 3, cells := 0, slots := 0, locals := 126 }) [.ref (aB B 30)] σ (fun v σ' => v = σ 0 0 ∧ σ' = aKeep σ) := by
  refine MX.of2 RX7 (by decide) rfl ⟨rfl, rfl⟩ (Nat.le_of_ble_eq_true rfl) (by rfl) (fun k h hr hk => ?_)
  show XC B k σ 0 [some (.ref (aB B 30))] []
  refine x_ald0 h dX7_keep_0 ?_
  refine r_X7_16 h dX7_keep_1 ?_
  refine x_ald0 h dX7_keep_4 ?_
  refine r_X7_10 h dX7_keep_5 ?_
  refine vCV1 (10 * 1) h cs_X7_195 (csB (c_X0_become B (j := 1) (by decide) (i := 0) (by decide) (by decide) _ _)) (obj_h (by decide)) rfl ⟨rfl, rfl⟩ ⟨Nat.le_of_ble_eq_true rfl, Nat.le_of_ble_eq_true rfl⟩ (Nat.le_of_ble_eq_true rfl) dX7_keep_8 (fun s8 p8 => ?_)
  obtain rfl := p8
  refine x_ald0 h dX7_keep_11 ?_
  refine x_iconst (v := 1) h dX7_keep_12 rfl ?_
  refine w_X7_19 h (by decide) dX7_keep_13 ?_
  refine x_ald0 h dX7_keep_16 ?_
  refine r_X7_10 h dX7_keep_17 ?_
  refine r0_X7_86 h dX7_keep_20 ?_
  refine x_iret h hr ?_ dX7_keep_23
  exact ⟨_, _, rfl, rfl, rfl, rfl⟩
set_option maxRecDepth 100000 in
set_option maxHeartbeats 4000000 in
theorem c_X7_back (B : BT) (σ : ST) : CI B yX7_back cX7_back 1 (some .int) ({ frames := 3, cells := 0, slots := 0, locals := 126 }) [.ref (aB B 30)] σ (fun v σ' => v = (aBack σ).1 ∧ σ' = (aBack σ).2) := by
  refine MX.of2 RX7 (by decide) rfl ⟨rfl, rfl⟩ (Nat.le_of_ble_eq_true rfl) (by rfl) (fun k h hr hk => ?_)
  show XC B k σ 0 [some (.ref (aB B 30))] []
  refine x_ald0 h dX7_back_0 ?_
  refine r_X7_19 h dX7_back_1 ?_
  refine x_if_ne 11 h dX7_back_4 (by decide) (fun c4 => ?_) (fun c4 => ?_)
  · refine x_ald0 h dX7_back_11 ?_
    refine r_X7_10 h dX7_back_12 ?_
    refine x_ald0 h dX7_back_15 ?_
    refine r_X7_16 h dX7_back_16 ?_
    refine vCV1 (10 * 0) h cs_X7_195 (csB (c_X0_become B (j := 0) (by decide) (i := 1) (by decide) (by decide) _ _)) (obj_h (by decide)) rfl ⟨rfl, rfl⟩ ⟨Nat.le_of_ble_eq_true rfl, Nat.le_of_ble_eq_true rfl⟩ (Nat.le_of_ble_eq_true rfl) dX7_back_19 (fun s19 p19 => ?_)
    obtain rfl := p19
    refine x_ald0 h dX7_back_22 ?_
    refine r_X7_10 h dX7_back_23 ?_
    refine r0_X7_86 h dX7_back_26 ?_
    refine x_iret h hr ?_ dX7_back_29
    first | exact ⟨_, _, rfl, rfl, (by unfold aBack; rw [if_pos c4]), (by unfold aBack; rw [if_pos c4])⟩ | exact ⟨_, _, rfl, rfl, (by unfold aBack; rw [if_neg c4]; rfl), (by unfold aBack; rw [if_neg c4])⟩
  · skip
    refine x_ldcw h kc_X7_323 dX7_back_7 ?_
    refine x_iret h hr ?_ dX7_back_10
    first | exact ⟨_, _, rfl, rfl, (by unfold aBack; rw [if_pos c4]), (by unfold aBack; rw [if_pos c4])⟩ | exact ⟨_, _, rfl, rfl, (by unfold aBack; rw [if_neg c4]; rfl), (by unfold aBack; rw [if_neg c4])⟩
