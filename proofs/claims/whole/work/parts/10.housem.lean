/-! a House's methods -/
def sJoin (h : HT) (kd at' so st : Int32) : HT := up2 (up2 (up2 (up2 (up2 (up2 h 1 (sN h) kd) 2 (sN h) at') 3 (sN h) so) 4 (sN h) st) 5 (sN h) 0) 0 0 (h 0 0 + 1)
def sZ2 (h : HT) : HT := sZ (sZ h)
def sZ3 (h : HT) : HT := sZ (sZ2 h)
def sLot (h : HT) : HT := sJoin (sZ (sZ3 h)) (jrem (dz (h 0 13)) 6) (jrem (dz (sZ h 0 13)) 10) (1 + jrem (dz (sZ2 h 0 13)) 200) (jrem (dz (sZ3 h 0 13)) 6)
/-- what the class takes a wear text for -/
def gC (σ : Nat → Nat → Int32) (ct : Int32) : WT := fun f s d => if 0 ≤ ct then jheld (TxV σ (ix ct) f s d) 99 else f
/-- the text that counts is one -/
def CT (σ : Nat → Nat → Int32) (ct : Int32) : Prop := 0 ≤ ct → ∃ t, ct = nI t ∧ TxOK σ t
theorem sH_o {σ : Nat → Nat → Int32} {j q : Nat} {h : HT} (hj : j < 3) (hq : 30 ≤ q) : sH σ j h q = σ q := by
  unfold sH
  rw [if_neg (by omega)]
theorem TxOK_sH {σ : Nat → Nat → Int32} {j t : Nat} {h : HT} (hj : j < 3) : TxOK (sH σ j h) t ↔ TxOK σ t := by
  unfold TxOK
  rw [sH_o hj (by omega), sH_o hj (by omega)]
theorem TxV_sH {σ : Nat → Nat → Int32} {j t : Nat} {h : HT} (hj : j < 3) : TxV (sH σ j h) t = TxV σ t := by
  funext a b e
  unfold TxV
  rw [sH_o hj (by omega), sH_o hj (by omega)]
theorem TxOK_39 {σ : Nat → Nat → Int32} {t : Nat} {f : Nat → Int32} : TxOK (up1 σ 39 f) t ↔ TxOK σ t := by
  unfold TxOK
  constructor
  · rintro ⟨h1, n, h2, h3⟩
    exact ⟨h1, n, h2, by rwa [up1_n (by omega)] at h3⟩
  · rintro ⟨h1, n, h2, h3⟩
    exact ⟨h1, n, h2, by rwa [up1_n (by omega)]⟩
theorem TxV_39 {σ : Nat → Nat → Int32} {t : Nat} {f : Nat → Int32} (ht : t < 14) : TxV (up1 σ 39 f) t = TxV σ t := by
  funext a b e
  unfold TxV
  rw [up1_n (by omega), up1_n (by omega)]
theorem CT_39 {σ : Nat → Nat → Int32} {ct : Int32} {f : Nat → Int32} (h : CT σ ct) : CT (up1 σ 39 f) ct := fun q => by
  obtain ⟨t, h1, h2⟩ := h q
  exact ⟨t, h1, TxOK_39.mpr h2⟩
theorem gC_39 {σ : Nat → Nat → Int32} {ct : Int32} {f : Nat → Int32} (h : CT σ ct) : gC (up1 σ 39 f) ct = gC σ ct := by
  funext a b e
  unfold gC
  by_cases q : 0 ≤ ct
  · obtain ⟨t, h1, h2⟩ := h q
    have ht : t < 14 := h2.1
    rw [if_pos q, if_pos q, h1, ix_n (by omega), TxV_39 ht]
  · rw [if_neg q, if_neg q]
theorem jheld_rg (v : Int32) : rg (jheld v 99) 0 99 := by
  unfold jheld jmn
  by_cases h : (99 : Int32) < v
  · rw [if_pos h]
    exact ⟨99, rfl, by omega, by omega⟩
  · rw [if_neg h]
    have h1 : ¬ (99 : Int32).toInt < v.toInt := fun q => h (Int32.lt_iff_toInt_lt.mpr q)
    have h2 : (99 : Int32).toInt = 99 := rfl
    rw [h2] at h1
    obtain ⟨n, e, hn⟩ := jmx0 (x := v) rfl (by omega)
    rw [e]
    exact rg_nI (by omega) (by omega)
theorem gC_GR {σ : Nat → Nat → Int32} {ct : Int32} : GR (gC σ ct) := fun f s d hf => by
  unfold gC
  split
  · exact jheld_rg _
  · exact rg_w hf (by omega) (by omega)

set_option maxRecDepth 100000 in
set_option maxHeartbeats 4000000 in
theorem c_X1_leaves (B : BT) (σ : Nat → Nat → Int32) (kind floor : Int32) : CI B yX1_leaves cX1_leaves 3 (some .int) ({ frames := 0, cells := 0, slots := 0, locals := 0 }) [.int kind, .int floor] σ (fun r σ' => r = kLeaves kind floor ∧ σ' = σ) := by
  refine MX.of2 RX1 (by decide) rfl ⟨rfl, rfl⟩ (Nat.le_of_ble_eq_true rfl) (by rfl) (fun k h hr hk => ?_)
  show XC B k σ 0 [some (.int kind), some (.int floor), none] []
  refine x_ild1 h dX1_leaves_0 ?_
  refine x_iconst (v := 5) h dX1_leaves_1 rfl ?_
  refine x_icmp_lt 9 h dX1_leaves_2 (by decide) (fun c2 => ?_) (fun c2 => ?_)
  · refine x_iconst (v := 0) h dX1_leaves_9 rfl ?_
    refine x_ist2 h dX1_leaves_10 (by rw [hk]; decide) rfl ?_
    refine x_ild0 h dX1_leaves_11 ?_
    refine x_topi (fun y12 ey12 => ?_)
    by_cases q12_2 : y12 = 2
    · rw [q12_2] at ey12 ⊢
      refine x_tin 42 h dX1_leaves_12 (by decide) (by decide) (by rfl) (by decide) ?_
      refine x_ild2 h dX1_leaves_42 ?_
      refine x_iconst (v := 1) h dX1_leaves_43 rfl ?_
      refine x_iadd h dX1_leaves_44 ?_
      refine x_iret h hr ?_ dX1_leaves_45
      subst ey12
      exact ⟨_, _, rfl, rfl, by simp_all [kLeaves], rfl⟩
    · skip
      by_cases q12_3 : y12 = 3
      · rw [q12_3] at ey12 ⊢
        refine x_tin 40 h dX1_leaves_12 (by decide) (by decide) (by rfl) (by decide) ?_
        refine x_iconst (v := 0) h dX1_leaves_40 rfl ?_
        refine x_iret h hr ?_ dX1_leaves_41
        subst ey12
        exact ⟨_, _, rfl, rfl, by simp_all [kLeaves], rfl⟩
      · skip
        by_cases q12_4 : y12 = 4
        · rw [q12_4] at ey12 ⊢
          refine x_tin 46 h dX1_leaves_12 (by decide) (by decide) (by rfl) (by decide) ?_
          refine x_ild2 h dX1_leaves_46 ?_
          refine x_iconst (v := 1) h dX1_leaves_47 rfl ?_
          refine x_iadd h dX1_leaves_48 ?_
          refine x_iret h hr ?_ dX1_leaves_49
          subst ey12
          exact ⟨_, _, rfl, rfl, by simp_all [kLeaves], rfl⟩
        · skip
          refine x_tout 50 h dX1_leaves_12 (by have tq12_2 := lv_neT q12_2 (a := 2) (by decide); have tq12_3 := lv_neT q12_3 (a := 3) (by decide); have tq12_4 := lv_neT q12_4 (a := 4) (by decide); omega) (by decide) ?_
          refine x_ild2 h dX1_leaves_50 ?_
          refine x_iret h hr ?_ dX1_leaves_51
          subst ey12
          exact ⟨_, _, rfl, rfl, by simp_all [kLeaves], rfl⟩
  · refine x_iconst (v := 1) h dX1_leaves_5 rfl ?_
    refine x_goto 10 h dX1_leaves_6 (by decide) ?_
    refine x_ist2 h dX1_leaves_10 (by rw [hk]; decide) rfl ?_
    refine x_ild0 h dX1_leaves_11 ?_
    refine x_topi (fun y12 ey12 => ?_)
    by_cases q12_2 : y12 = 2
    · rw [q12_2] at ey12 ⊢
      refine x_tin 42 h dX1_leaves_12 (by decide) (by decide) (by rfl) (by decide) ?_
      refine x_ild2 h dX1_leaves_42 ?_
      refine x_iconst (v := 1) h dX1_leaves_43 rfl ?_
      refine x_iadd h dX1_leaves_44 ?_
      refine x_iret h hr ?_ dX1_leaves_45
      subst ey12
      exact ⟨_, _, rfl, rfl, by simp_all [kLeaves], rfl⟩
    · skip
      by_cases q12_3 : y12 = 3
      · rw [q12_3] at ey12 ⊢
        refine x_tin 40 h dX1_leaves_12 (by decide) (by decide) (by rfl) (by decide) ?_
        refine x_iconst (v := 0) h dX1_leaves_40 rfl ?_
        refine x_iret h hr ?_ dX1_leaves_41
        subst ey12
        exact ⟨_, _, rfl, rfl, by simp_all [kLeaves], rfl⟩
      · skip
        by_cases q12_4 : y12 = 4
        · rw [q12_4] at ey12 ⊢
          refine x_tin 46 h dX1_leaves_12 (by decide) (by decide) (by rfl) (by decide) ?_
          refine x_ild2 h dX1_leaves_46 ?_
          refine x_iconst (v := 1) h dX1_leaves_47 rfl ?_
          refine x_iadd h dX1_leaves_48 ?_
          refine x_iret h hr ?_ dX1_leaves_49
          subst ey12
          exact ⟨_, _, rfl, rfl, by simp_all [kLeaves], rfl⟩
        · skip
          refine x_tout 50 h dX1_leaves_12 (by have tq12_2 := lv_neT q12_2 (a := 2) (by decide); have tq12_3 := lv_neT q12_3 (a := 3) (by decide); have tq12_4 := lv_neT q12_4 (a := 4) (by decide); omega) (by decide) ?_
          refine x_ild2 h dX1_leaves_50 ?_
          refine x_iret h hr ?_ dX1_leaves_51
          subst ey12
          exact ⟨_, _, rfl, rfl, by simp_all [kLeaves], rfl⟩
set_option maxRecDepth 100000 in
set_option maxHeartbeats 4000000 in
theorem c_X0_draw (B : BT) {j : Nat} (hj : j < 3) (σ : Nat → Nat → Int32) (hh : HT) : CI B yX0_draw cX0_draw 1 (some .int) ({ frames := 0, cells := 0, slots := 0, locals := 0 }) [.ref (aB B (10 * j))] (sH σ j hh) (fun r σ' => r = dz (hh 0 13) ∧ σ' = sH σ j (sZ hh)) := by
  refine MX.of2 RX0 (by decide) rfl ⟨rfl, rfl⟩ (Nat.le_of_ble_eq_true rfl) (by rfl) (fun k h hr hk => ?_)
  show XC B k (sH σ j hh) 0 [some (.ref (aB B (10 * j)))] []
  refine x_ald0 h dX0_draw_0 ?_
  refine x_ald0 h dX0_draw_1 ?_
  refine rh_X0_52 hj h dX0_draw_2 ?_
  refine x_ldc h kc_X0_77 dX0_draw_5 ?_
  refine x_imul h dX0_draw_7 ?_
  refine x_sipush (v := 12345) h dX0_draw_8 rfl ?_
  refine x_iadd h dX0_draw_11 ?_
  refine wh_X0_52 hj h dX0_draw_12 ?_
  refine x_ald0 h dX0_draw_15 ?_
  refine rh_X0_52 hj h dX0_draw_16 ?_
  refine x_bipush (v := 8) h dX0_draw_19 rfl ?_
  refine x_iushr h dX0_draw_21 ?_
  refine x_iret h hr ?_ dX0_draw_22
  exact ⟨_, _, rfl, rfl, rfl, rfl⟩
set_option maxRecDepth 100000 in
set_option maxHeartbeats 4000000 in
theorem c_X0_join (B : BT) {j : Nat} (hj : j < 3) (σ : Nat → Nat → Int32) (hh : HT) (kd ar so st : Int32) (hN : hh 0 0 = nI (sN hh)) (hN12 : sN hh < 12) : CI B yX0_join cX0_join 6 (some .int) ({ frames := 0, cells := 0, slots := 0, locals := 0 }) [.ref (aB B (10 * j)), .int kd, .int ar, .int so, .int st] (sH σ j hh) (fun r σ' => r = hh 0 0 ∧ σ' = sH σ j (sJoin hh kd ar so st)) := by
  refine MX.of2 RX0 (by decide) rfl ⟨rfl, rfl⟩ (Nat.le_of_ble_eq_true rfl) (by rfl) (fun k h hr hk => ?_)
  show XC B k (sH σ j hh) 0 [some (.ref (aB B (10 * j))), some (.int kd), some (.int ar), some (.int so), some (.int st), none] []
  refine x_ald0 h dX0_join_0 ?_
  refine rh_X0_9 hj h dX0_join_1 ?_
  refine x_ist5 h dX0_join_4 (by rw [hk]; decide) rfl ?_
  refine x_ald0 h dX0_join_6 ?_
  refine r_X0_15 hj h dX0_join_7 ?_
  refine x_ild5 h dX0_join_10 ?_
  refine x_ild1 h dX0_join_12 ?_
  refine xh_iastN (sN hh) (hN) 1 (hN12) h hj (by decide) (by decide) dX0_join_13 ?_
  refine x_ald0 h dX0_join_14 ?_
  refine r_X0_19 hj h dX0_join_15 ?_
  refine x_ild5 h dX0_join_18 ?_
  refine x_ild2 h dX0_join_20 ?_
  refine xh_iastN (sN hh) (hN) 2 (hN12) h hj (by decide) (by decide) dX0_join_21 ?_
  refine x_ald0 h dX0_join_22 ?_
  refine r_X0_22 hj h dX0_join_23 ?_
  refine x_ild5 h dX0_join_26 ?_
  refine x_ild3 h dX0_join_28 ?_
  refine xh_iastN (sN hh) (hN) 3 (hN12) h hj (by decide) (by decide) dX0_join_29 ?_
  refine x_ald0 h dX0_join_30 ?_
  refine r_X0_25 hj h dX0_join_31 ?_
  refine x_ild5 h dX0_join_34 ?_
  refine x_ild4 h dX0_join_36 ?_
  refine xh_iastN (sN hh) (hN) 4 (hN12) h hj (by decide) (by decide) dX0_join_38 ?_
  refine x_ald0 h dX0_join_39 ?_
  refine r_X0_28 hj h dX0_join_40 ?_
  refine x_ild5 h dX0_join_43 ?_
  refine x_iconst (v := 0) h dX0_join_45 rfl ?_
  refine xh_iastN (sN hh) (hN) 5 (hN12) h hj (by decide) (by decide) dX0_join_46 ?_
  refine x_ald0 h dX0_join_47 ?_
  refine x_dup h dX0_join_48 rfl ?_
  refine rh_X0_9 hj h dX0_join_49 ?_
  refine x_iconst (v := 1) h dX0_join_52 rfl ?_
  refine x_iadd h dX0_join_53 ?_
  refine wh_X0_9 hj h dX0_join_54 ?_
  refine x_ild5 h dX0_join_57 ?_
  refine x_iret h hr ?_ dX0_join_59
  exact ⟨_, _, rfl, rfl, rfl, rfl⟩
set_option maxRecDepth 100000 in
set_option maxHeartbeats 4000000 in
theorem c_X0_joinByLot (B : BT) {j : Nat} (hj : j < 3) (σ : Nat → Nat → Int32) (hh : HT) (hN : hh 0 0 = nI (sN hh)) (hN12 : sN hh < 12) : CI B yX0_joinByLot cX0_joinByLot 5 (some .int) ({ frames := 1, cells := 0, slots := 0, locals := 25 }) [.ref (aB B (10 * j))] (sH σ j hh) (fun r σ' => r = hh 0 0 ∧ σ' = sH σ j (sLot hh)) := by
  refine MX.of2 RX0 (by decide) rfl ⟨rfl, rfl⟩ (Nat.le_of_ble_eq_true rfl) (by rfl) (fun k h hr hk => ?_)
  show XC B k (sH σ j hh) 0 [some (.ref (aB B (10 * j))), none, none, none, none] []
  refine x_ald0 h dX0_joinByLot_0 ?_
  refine vCI0 (10 * j) h cs_X0_67 (c_X0_draw B hj _ _) (obj_h hj) rfl ⟨rfl, rfl⟩ ⟨Nat.le_of_ble_eq_true rfl, Nat.le_of_ble_eq_true rfl⟩ (Nat.le_of_ble_eq_true rfl) dX0_joinByLot_1 (fun r1 s1 p1 => ?_)
  obtain ⟨rfl, rfl⟩ := p1
  refine x_bipush (v := 6) h dX0_joinByLot_4 rfl ?_
  refine x_irem h dX0_joinByLot_6 (by decide) ?_
  refine x_ist1 h dX0_joinByLot_7 (by rw [hk]; decide) rfl ?_
  refine x_ald0 h dX0_joinByLot_8 ?_
  refine vCI0 (10 * j) h cs_X0_67 (c_X0_draw B hj _ _) (obj_h hj) rfl ⟨rfl, rfl⟩ ⟨Nat.le_of_ble_eq_true rfl, Nat.le_of_ble_eq_true rfl⟩ (Nat.le_of_ble_eq_true rfl) dX0_joinByLot_9 (fun r9 s9 p9 => ?_)
  obtain ⟨rfl, rfl⟩ := p9
  refine x_bipush (v := 10) h dX0_joinByLot_12 rfl ?_
  refine x_irem h dX0_joinByLot_14 (by decide) ?_
  refine x_ist2 h dX0_joinByLot_15 (by rw [hk]; decide) rfl ?_
  refine x_iconst (v := 1) h dX0_joinByLot_16 rfl ?_
  refine x_ald0 h dX0_joinByLot_17 ?_
  refine vCI0 (10 * j) h cs_X0_67 (c_X0_draw B hj _ _) (obj_h hj) rfl ⟨rfl, rfl⟩ ⟨Nat.le_of_ble_eq_true rfl, Nat.le_of_ble_eq_true rfl⟩ (Nat.le_of_ble_eq_true rfl) dX0_joinByLot_18 (fun r18 s18 p18 => ?_)
  obtain ⟨rfl, rfl⟩ := p18
  refine x_sipush (v := 200) h dX0_joinByLot_21 rfl ?_
  refine x_irem h dX0_joinByLot_24 (by decide) ?_
  refine x_iadd h dX0_joinByLot_25 ?_
  refine x_ist3 h dX0_joinByLot_26 (by rw [hk]; decide) rfl ?_
  refine x_ald0 h dX0_joinByLot_27 ?_
  refine vCI0 (10 * j) h cs_X0_67 (c_X0_draw B hj _ _) (obj_h hj) rfl ⟨rfl, rfl⟩ ⟨Nat.le_of_ble_eq_true rfl, Nat.le_of_ble_eq_true rfl⟩ (Nat.le_of_ble_eq_true rfl) dX0_joinByLot_28 (fun r28 s28 p28 => ?_)
  obtain ⟨rfl, rfl⟩ := p28
  refine x_bipush (v := 6) h dX0_joinByLot_31 rfl ?_
  refine x_irem h dX0_joinByLot_33 (by decide) ?_
  refine x_ist4 h dX0_joinByLot_34 (by rw [hk]; decide) rfl ?_
  refine x_ald0 h dX0_joinByLot_36 ?_
  refine x_ild1 h dX0_joinByLot_37 ?_
  refine x_ild2 h dX0_joinByLot_38 ?_
  refine x_ild3 h dX0_joinByLot_39 ?_
  refine x_ild4 h dX0_joinByLot_40 ?_
  refine vCI4 (10 * j) h cs_X0_73 (c_X0_join B hj _ _ _ _ _ _ hN hN12) (obj_h hj) rfl ⟨rfl, rfl⟩ ⟨Nat.le_of_ble_eq_true rfl, Nat.le_of_ble_eq_true rfl⟩ (Nat.le_of_ble_eq_true rfl) dX0_joinByLot_42 (fun r42 s42 p42 => ?_)
  obtain ⟨rfl, rfl⟩ := p42
  refine x_iret h hr ?_ dX0_joinByLot_45
  exact ⟨_, _, rfl, rfl, rfl, rfl⟩
set_option maxRecDepth 100000 in
set_option maxHeartbeats 4000000 in
theorem c_X0_goesNext (B : BT) {j : Nat} (hj : j < 3) (σ : Nat → Nat → Int32) (hh : HT) (d : Nat) (hd : d < 12) : CI B yX0_goesNext cX0_goesNext 2 (some .int) ({ frames := 3, cells := 0, slots := 0, locals := 107 }) [.ref (aB B (10 * j)), .int (nI d)] (sH σ j hh) (fun r σ' => r = sGoes hh d ∧ σ' = sH σ j hh) := by
  refine MX.of2 RX0 (by decide) rfl ⟨rfl, rfl⟩ (Nat.le_of_ble_eq_true rfl) (by rfl) (fun k h hr hk => ?_)
  show XC B k (sH σ j hh) 0 [some (.ref (aB B (10 * j))), some (.int (nI d))] []
  refine x_ald0 h dX0_goesNext_0 ?_
  refine r_X0_22 hj h dX0_goesNext_1 ?_
  refine x_ild1 h dX0_goesNext_4 ?_
  refine xh_ialdN (d) (rfl) 3 (hd) h hj (by decide) (by decide) dX0_goesNext_5 ?_
  refine x_if_ne 13 h dX0_goesNext_6 (by decide) (fun c6 => ?_) (fun c6 => ?_)
  · refine x_ald0 h dX0_goesNext_13 ?_
    refine r_X0_15 hj h dX0_goesNext_14 ?_
    refine x_ild1 h dX0_goesNext_17 ?_
    refine xh_ialdN (d) (rfl) 1 (hd) h hj (by decide) (by decide) dX0_goesNext_18 ?_
    refine x_ald0 h dX0_goesNext_19 ?_
    refine r_X0_25 hj h dX0_goesNext_20 ?_
    refine x_ild1 h dX0_goesNext_23 ?_
    refine xh_ialdN (d) (rfl) 4 (hd) h hj (by decide) (by decide) dX0_goesNext_24 ?_
    refine x_ald0 h dX0_goesNext_25 ?_
    refine rh_X0_49 hj h dX0_goesNext_26 ?_
    refine sCI3 h cs_X0_78 (c_X1_goes B _ _ _ _) ⟨rfl, rfl⟩ ⟨Nat.le_of_ble_eq_true rfl, Nat.le_of_ble_eq_true rfl⟩ (Nat.le_of_ble_eq_true rfl) dX0_goesNext_29 (fun r29 s29 p29 => ?_)
    obtain ⟨rfl, rfl⟩ := p29
    refine x_iret h hr ?_ dX0_goesNext_32
    exact ⟨_, _, rfl, rfl, by simp [sGoes, c6], rfl⟩
  · refine x_iconst (v := 0) h dX0_goesNext_9 rfl ?_
    refine x_goto 32 h dX0_goesNext_10 (by decide) ?_
    refine x_iret h hr ?_ dX0_goesNext_32
    exact ⟨_, _, rfl, rfl, by simp [sGoes, c6], rfl⟩
set_option maxRecDepth 100000 in
set_option maxHeartbeats 4000000 in
theorem c_X0_leavesHere (B : BT) {j : Nat} (hj : j < 3) (σ : Nat → Nat → Int32) (hh : HT) (hi : HI hh) (d : Nat) (hd : d < 12) : CI B yX0_leavesHere cX0_leavesHere 2 (some .int) ({ frames := 1, cells := 0, slots := 0, locals := 22 }) [.ref (aB B (10 * j)), .int (nI d)] (sH σ j hh) (fun r σ' => r = sLeaves hh d ∧ σ' = sH σ j hh) := by
  refine MX.of2 RX0 (by decide) rfl ⟨rfl, rfl⟩ (Nat.le_of_ble_eq_true rfl) (by rfl) (fun k h hr hk => ?_)
  show XC B k (sH σ j hh) 0 [some (.ref (aB B (10 * j))), some (.int (nI d))] []
  refine x_ald0 h dX0_leavesHere_0 ?_
  refine r_X0_15 hj h dX0_leavesHere_1 ?_
  refine x_ild1 h dX0_leavesHere_4 ?_
  refine xh_ialdN (d) (rfl) 1 (hd) h hj (by decide) (by decide) dX0_leavesHere_5 ?_
  refine x_ald0 h dX0_leavesHere_6 ?_
  refine r_X0_31 hj h dX0_leavesHere_7 ?_
  refine x_ald0 h dX0_leavesHere_10 ?_
  refine r_X0_19 hj h dX0_leavesHere_11 ?_
  refine x_ild1 h dX0_leavesHere_14 ?_
  refine xh_ialdN (d) (rfl) 2 (hd) h hj (by decide) (by decide) dX0_leavesHere_15 ?_
  refine xh_iald h hj 6 (by decide) (by decide) (rg_in (hi.at hd) (by decide) (by decide)) dX0_leavesHere_16 ?_
  refine sCI2 h cs_X0_94 (c_X1_leaves B _ _ _) ⟨rfl, rfl⟩ ⟨Nat.le_of_ble_eq_true rfl, Nat.le_of_ble_eq_true rfl⟩ (Nat.le_of_ble_eq_true rfl) dX0_leavesHere_17 (fun r17 s17 p17 => ?_)
  obtain ⟨rfl, rfl⟩ := p17
  refine x_iret h hr ?_ dX0_leavesHere_20
  exact ⟨_, _, rfl, rfl, rfl, rfl⟩
set_option maxRecDepth 100000 in
set_option maxHeartbeats 4000000 in
theorem c_X0_wearsHere (B : BT) {j : Nat} (hj : j < 3) (σ : Nat → Nat → Int32) (hh : HT) (hi : HI hh) (hT : CT σ (hh 9 0)) (d : Nat) (hd : d < 12) : CI B yX0_wearsHere cX0_wearsHere 6 (some .int) ({ frames := 3, cells := 0, slots := 0, locals := 106 }) [.ref (aB B (10 * j)), .int (nI d), .ref (aB B 78)] (sH σ j hh) (fun r σ' => r = sWears (gC σ (hh 9 0)) hh d ∧ ∃ stk, σ' = sH (up1 σ 39 stk) j hh) := by
  refine MX.of2 RX0 (by decide) rfl ⟨rfl, rfl⟩ (Nat.le_of_ble_eq_true rfl) (by rfl) (fun k h hr hk => ?_)
  show XC B k (sH σ j hh) 0 [some (.ref (aB B (10 * j))), some (.int (nI d)), some (.ref (aB B 78)), none, none, none] []
  refine x_ald0 h dX0_wearsHere_0 ?_
  refine r_X0_31 hj h dX0_wearsHere_1 ?_
  refine x_ald0 h dX0_wearsHere_4 ?_
  refine r_X0_19 hj h dX0_wearsHere_5 ?_
  refine x_ild1 h dX0_wearsHere_8 ?_
  refine xh_ialdN (d) (rfl) 2 (hd) h hj (by decide) (by decide) dX0_wearsHere_9 ?_
  refine xh_iald h hj 6 (by decide) (by decide) (rg_in (hi.at hd) (by decide) (by decide)) dX0_wearsHere_10 ?_
  refine x_ist3 h dX0_wearsHere_11 (by rw [hk]; decide) rfl ?_
  refine x_ald0 h dX0_wearsHere_12 ?_
  refine r_X0_58 hj h dX0_wearsHere_13 ?_
  refine x_iconst (v := 0) h dX0_wearsHere_16 rfl ?_
  refine xh_ialdN (0) (rfl) 9 (by decide) h hj (by decide) (by decide) dX0_wearsHere_17 ?_
  refine x_ist4 h dX0_wearsHere_18 (by rw [hk]; decide) rfl ?_
  refine x_ild4 h dX0_wearsHere_20 ?_
  refine x_if_ge 29 h dX0_wearsHere_22 (by decide) (fun c22 => ?_) (fun c22 => ?_)
  · obtain ⟨t, et, ht⟩ := hT c22
    have ht14 := ht.1
    rw [et]
    refine x_ald2 h dX0_wearsHere_29 ?_
    refine x_ild4 h dX0_wearsHere_30 ?_
    refine x_ild3 h dX0_wearsHere_32 ?_
    refine x_ald0 h dX0_wearsHere_33 ?_
    refine r_X0_22 hj h dX0_wearsHere_34 ?_
    refine x_ild1 h dX0_wearsHere_37 ?_
    refine xh_ialdN (d) (rfl) 3 (hd) h hj (by decide) (by decide) dX0_wearsHere_38 ?_
    refine x_ald0 h dX0_wearsHere_39 ?_
    refine r_X0_28 hj h dX0_wearsHere_40 ?_
    refine x_ild1 h dX0_wearsHere_43 ?_
    refine xh_ialdN (d) (rfl) 5 (hd) h hj (by decide) (by decide) dX0_wearsHere_44 ?_
    refine vCI4 78 h cs_X0_82 (c_X2_gives B _ _ _ _ _ ((TxOK_sH hj).mpr ht)) (⟨by decide, fun _ _ => rfl⟩ : ObjC 78 1) rfl ⟨rfl, rfl⟩ ⟨Nat.le_of_ble_eq_true rfl, Nat.le_of_ble_eq_true rfl⟩ (Nat.le_of_ble_eq_true rfl) dX0_wearsHere_45 (fun r45 s45 p45 => ?_)
    obtain ⟨rfl, stk, rfl⟩ := p45
    rw [sH_up1o (by omega), TxV_sH hj]
    refine x_bipush (v := 99) h dX0_wearsHere_48 rfl ?_
    refine sHeld h (c_X7_held B _ _ _) ⟨rfl, rfl⟩ ⟨Nat.le_of_ble_eq_true rfl, Nat.le_of_ble_eq_true rfl⟩ (Nat.le_of_ble_eq_true rfl) dX0_wearsHere_50 (fun r50 s50 p50 => ?_)
    obtain ⟨rfl, rfl⟩ := p50
    have ex : ∃ x stk', x = gC σ (hh 9 0) (hh 6 (ix (hh 2 d))) (hh 3 d) (hh 5 d) ∧ x = jheld (TxV σ t (hh 6 (hh 2 d).toNatClampNeg) (hh 3 d) (hh 5 d)) 99 ∧ sH (up1 σ 39 stk) j hh = sH (up1 σ 39 stk') j hh := ⟨_, stk, by unfold gC; rw [if_pos c22, et, ix_n (by omega)]; rfl, rfl, rfl⟩
    refine x_ist5 h dX0_wearsHere_53 (by rw [hk]; decide) rfl ?_
    refine x_ald0 h dX0_wearsHere_55 ?_
    refine r_X0_15 hj h dX0_wearsHere_56 ?_
    refine x_ild1 h dX0_wearsHere_59 ?_
    refine xh_ialdN (d) (rfl) 1 (hd) h hj (by decide) (by decide) dX0_wearsHere_60 ?_
    refine x_ild5 h dX0_wearsHere_61 ?_
    refine sCI2 h cs_X0_91 (c_X1_wears B _ _ _) ⟨rfl, rfl⟩ ⟨Nat.le_of_ble_eq_true rfl, Nat.le_of_ble_eq_true rfl⟩ (Nat.le_of_ble_eq_true rfl) dX0_wearsHere_63 (fun r63 s63 p63 => ?_)
    obtain ⟨rfl, rfl⟩ := p63
    refine x_iret h hr ?_ dX0_wearsHere_66
    obtain ⟨x, stk', e1, e2, e3⟩ := ex
    exact ⟨_, _, rfl, rfl, by rw [← e2, e1]; rfl, ⟨stk', e3⟩⟩
  · have ex : ∃ x stk, x = gC σ (hh 9 0) (hh 6 (ix (hh 2 d))) (hh 3 d) (hh 5 d) ∧ x = hh 6 (hh 2 d).toNatClampNeg ∧ sH σ j hh = sH (up1 σ 39 stk) j hh := ⟨_, σ 39, by unfold gC; rw [if_neg c22]; rfl, rfl, by rw [up1_self]⟩
    refine x_ild3 h dX0_wearsHere_25 ?_
    refine x_goto 53 h dX0_wearsHere_26 (by decide) ?_
    refine x_ist5 h dX0_wearsHere_53 (by rw [hk]; decide) rfl ?_
    refine x_ald0 h dX0_wearsHere_55 ?_
    refine r_X0_15 hj h dX0_wearsHere_56 ?_
    refine x_ild1 h dX0_wearsHere_59 ?_
    refine xh_ialdN (d) (rfl) 1 (hd) h hj (by decide) (by decide) dX0_wearsHere_60 ?_
    refine x_ild5 h dX0_wearsHere_61 ?_
    refine sCI2 h cs_X0_91 (c_X1_wears B _ _ _) ⟨rfl, rfl⟩ ⟨Nat.le_of_ble_eq_true rfl, Nat.le_of_ble_eq_true rfl⟩ (Nat.le_of_ble_eq_true rfl) dX0_wearsHere_63 (fun r63 s63 p63 => ?_)
    obtain ⟨rfl, rfl⟩ := p63
    refine x_iret h hr ?_ dX0_wearsHere_66
    obtain ⟨x, stk', e1, e2, e3⟩ := ex
    exact ⟨_, _, rfl, rfl, by rw [← e2, e1]; rfl, ⟨stk', e3⟩⟩
theorem sSt1_9 {h : HT} {d : Nat} : sSt1 h d 9 = h 9 := rfl
set_option maxRecDepth 100000 in
set_option maxHeartbeats 4000000 in
theorem c_X0_walk (B : BT) {j : Nat} (hj : j < 3) (σ : Nat → Nat → Int32) (hh : HT) (hi : HI hh) (hT : CT σ (hh 9 0)) (d : Nat) (hd : d < 12) : CI B yX0_walk cX0_walk 5 (some .int) ({ frames := 4, cells := 0, slots := 0, locals := 131 }) [.ref (aB B (10 * j)), .int (nI d), .ref (aB B 78)] (sH σ j hh) (fun r σ' => r = nI (sGone (gC σ (hh 9 0)) hh d) ∧ ∃ stk, σ' = sH (up1 σ 39 stk) j (sWalk (gC σ (hh 9 0)) hh d)) := by
  refine MX.of2 RX0 (by decide) rfl ⟨rfl, rfl⟩ (Nat.le_of_ble_eq_true rfl) (by rfl) (fun k h hr hk => ?_)
  show XC B k (sH σ j hh) 0 [some (.ref (aB B (10 * j))), some (.int (nI d)), some (.ref (aB B 78)), none, none] []
  obtain ⟨w, hw, -, hw7⟩ := sGoes_rg hi hd
  have hw2 : ix (sGoes hh d) = w := by rw [hw, ix_n (by omega)]
  have loop : ∀ (f m i : Nat) (h' : HT) (stk : Nat → Int32), m < f → m + i = w → HI h' → h' 9 = hh 9 → sWk (gC σ (hh 9 0)) d w hh = sWk (gC σ (hh 9 0)) d m h' → sWc (gC σ (hh 9 0)) d w hh = i + sWc (gC σ (hh 9 0)) d m h' → XC B k (sH (up1 σ 39 stk) j h') 9 [some (.ref (aB B (10 * j))), some (.int (nI d)), some (.ref (aB B 78)), some (.int (nI w)), some (.int (nI i))] [] := by
    intro f
    induction f with
    | zero => intro m i h' stk h1; omega
    | succ f ih =>
      intro m i h' stk h1 h2 hi1 h9 e1 e2
      refine x_ild4 h dX0_walk_9 ?_
      refine x_ild3 h dX0_walk_11 ?_
      refine x_icmp_ge 99 h dX0_walk_12 (by decide) (fun c12 => ?_) (fun c12 => ?_)
      · have c12 := n_le (by omega) (by omega) c12
        have em : m = 0 := by omega
        subst em
        refine x_ild4 h dX0_walk_99 ?_
        refine x_iret h hr ?_ dX0_walk_101
        refine ⟨_, _, rfl, rfl, ?_, stk, ?_⟩
        · unfold sGone
          rw [hw2, e2]
          first | rfl | (rw [show sWc (gC σ (hh 9 0)) d (m + 1) h' = 0 from if_neg c21']; rfl)
        · unfold sWalk
          rw [hw2, e1]
          first | rfl | (rw [show sWk (gC σ (hh 9 0)) d (m + 1) h' = h' from if_neg c21'])
      · have c12 := n_nle (by omega) (by omega) c12
        obtain ⟨m, rfl⟩ : ∃ m', m = m' + 1 := ⟨m - 1, by omega⟩
        refine x_ald0 h dX0_walk_15 ?_
        refine r_X0_22 hj h dX0_walk_16 ?_
        refine x_ild1 h dX0_walk_19 ?_
        refine xh_ialdN (d) (rfl) 3 (hd) h hj (by decide) (by decide) dX0_walk_20 ?_
        refine x_if_le 99 h dX0_walk_21 (by decide) (fun c21 => ?_) (fun c21 => ?_)
        · have c21' : ¬ 0 < h' 3 d := fun q => Int32.lt_irrefl (Int32.lt_of_lt_of_le q c21)
          refine x_ild4 h dX0_walk_99 ?_
          refine x_iret h hr ?_ dX0_walk_101
          refine ⟨_, _, rfl, rfl, ?_, stk, ?_⟩
          · unfold sGone
            rw [hw2, e2]
            first | rfl | (rw [show sWc (gC σ (hh 9 0)) d (m + 1) h' = 0 from if_neg c21']; rfl)
          · unfold sWalk
            rw [hw2, e1]
            first | rfl | (rw [show sWk (gC σ (hh 9 0)) d (m + 1) h' = h' from if_neg c21'])
        · have c21' : 0 < h' 3 d := Int32.not_le.mp c21
          have hi9 := hi1.st1 hd
          have hi2 := hi1.st2 gC_GR hd (g := gC σ (hh 9 0))
          refine x_ald0 h dX0_walk_24 ?_
          refine r_X0_19 hj h dX0_walk_25 ?_
          refine x_ild1 h dX0_walk_28 ?_
          refine x_ald0 h dX0_walk_29 ?_
          refine r_X0_34 hj h dX0_walk_30 ?_
          refine x_ald0 h dX0_walk_33 ?_
          refine r_X0_19 hj h dX0_walk_34 ?_
          refine x_ild1 h dX0_walk_37 ?_
          refine xh_ialdN (d) (rfl) 2 (hd) h hj (by decide) (by decide) dX0_walk_38 ?_
          refine xh_iald h hj 7 (by decide) (by decide) (rg_in (hi1.at hd) (by decide) (by decide)) dX0_walk_39 ?_
          refine xh_iastN (d) (rfl) 2 (hd) h hj (by decide) (by decide) dX0_walk_40 ?_
          refine x_ald0 h dX0_walk_41 ?_
          refine r_X0_28 hj h dX0_walk_42 ?_
          refine x_ild1 h dX0_walk_45 ?_
          refine x_dup2 h dX0_walk_46 rfl rfl ?_
          refine xh_ialdN (d) (rfl) 5 (hd) h hj (by decide) (by decide) dX0_walk_47 ?_
          refine x_iconst (v := 1) h dX0_walk_48 rfl ?_
          refine x_iadd h dX0_walk_49 ?_
          refine xh_iastN (d) (rfl) 5 (hd) h hj (by decide) (by decide) dX0_walk_50 ?_
          change XC B k (sH (up1 σ 39 stk) j (sSt1 h' d)) 51 _ _
          refine x_ald0 h dX0_walk_51 ?_
          refine r_X0_22 hj h dX0_walk_52 ?_
          refine x_ild1 h dX0_walk_55 ?_
          refine x_iconst (v := 0) h dX0_walk_56 rfl ?_
          refine x_ald0 h dX0_walk_57 ?_
          refine r_X0_22 hj h dX0_walk_58 ?_
          refine x_ild1 h dX0_walk_61 ?_
          refine xh_ialdN (d) (rfl) 3 (hd) h hj (by decide) (by decide) dX0_walk_62 ?_
          refine x_ald0 h dX0_walk_63 ?_
          refine x_ild1 h dX0_walk_64 ?_
          refine x_ald2 h dX0_walk_65 ?_
          refine vCI2 (10 * j) h cs_X0_101 (c_X0_wearsHere B hj _ _ hi9 (by rw [sSt1_9, h9]; exact CT_39 hT) d hd) (obj_h hj) rfl ⟨rfl, rfl⟩ ⟨Nat.le_of_ble_eq_true rfl, Nat.le_of_ble_eq_true rfl⟩ (Nat.le_of_ble_eq_true rfl) dX0_walk_66 (fun r66 s66 p66 => ?_)
          rw [sSt1_9, h9, gC_39 hT] at p66
          obtain ⟨rfl, stk2, rfl⟩ := p66
          rw [up1_up1]
          refine x_isub h dX0_walk_69 ?_
          refine x_max h ul_X0_105 ⟨Nat.le_of_ble_eq_true rfl, Nat.le_of_ble_eq_true rfl⟩ dX0_walk_70 ?_
          refine xh_iastN (d) (rfl) 3 (hd) h hj (by decide) (by decide) dX0_walk_73 ?_
          change XC B k (sH (up1 σ 39 stk2) j (sSt2 (gC σ (hh 9 0)) h' d)) 74 _ _
          refine x_ald0 h dX0_walk_74 ?_
          refine r_X0_37 hj h dX0_walk_75 ?_
          refine x_ald0 h dX0_walk_78 ?_
          refine r_X0_19 hj h dX0_walk_79 ?_
          refine x_ild1 h dX0_walk_82 ?_
          refine xh_ialdN (d) (rfl) 2 (hd) h hj (by decide) (by decide) dX0_walk_83 ?_
          refine x_dup2 h dX0_walk_84 rfl rfl ?_
          refine xh_iald h hj 8 (by decide) (by decide) (rg_in (hi2.at hd) (by decide) (by decide)) dX0_walk_85 ?_
          refine x_ald0 h dX0_walk_86 ?_
          refine x_ild1 h dX0_walk_87 ?_
          refine vCI1 (10 * j) h cs_X0_110 (c_X0_leavesHere B hj _ _ hi2 d hd) (obj_h hj) rfl ⟨rfl, rfl⟩ ⟨Nat.le_of_ble_eq_true rfl, Nat.le_of_ble_eq_true rfl⟩ (Nat.le_of_ble_eq_true rfl) dX0_walk_88 (fun r88 s88 p88 => ?_)
          obtain ⟨rfl, rfl⟩ := p88
          refine x_iadd h dX0_walk_91 ?_
          refine xh_iast h hj 8 (by decide) (by decide) (rg_in (hi2.at hd) (by decide) (by decide)) dX0_walk_92 ?_
          change XC B k (sH (up1 σ 39 stk2) j (sStep (gC σ (hh 9 0)) h' d)) 93 _ _
          refine x_inc4 (y := 1) h dX0_walk_93 (by rw [hk]; decide) rfl rfl ?_
          refine x_goto 9 h dX0_walk_96 (by decide) ?_
          rw [nI_1 i]
          exact ih m (i + 1) (sStep (gC σ (hh 9 0)) h' d) stk2 (by omega) (by omega) (hi1.step gC_GR hd) (by rw [sStep_f (by decide)]; exact h9) (by rw [e1]; exact if_pos c21') (by rw [e2]; show i + sWc (gC σ (hh 9 0)) d (m + 1) h' = _; rw [show sWc (gC σ (hh 9 0)) d (m + 1) h' = sWc (gC σ (hh 9 0)) d m (sStep (gC σ (hh 9 0)) h' d) + 1 from if_pos c21']; omega)
  have loop := loop (w + 1) w 0 hh (σ 39) (by omega) (by omega) hi rfl rfl (by omega)
  rw [up1_self] at loop
  refine x_ald0 h dX0_walk_0 ?_
  refine x_ild1 h dX0_walk_1 ?_
  refine vCI1 (10 * j) h cs_X0_97 (c_X0_goesNext B hj _ _ d hd) (obj_h hj) rfl ⟨rfl, rfl⟩ ⟨Nat.le_of_ble_eq_true rfl, Nat.le_of_ble_eq_true rfl⟩ (Nat.le_of_ble_eq_true rfl) dX0_walk_2 (fun r2 s2 p2 => ?_)
  obtain ⟨rfl, rfl⟩ := p2
  refine x_ist3 h dX0_walk_5 (by rw [hk]; decide) rfl ?_
  refine x_iconst (v := 0) h dX0_walk_6 rfl ?_
  refine x_ist4 h dX0_walk_7 (by rw [hk]; decide) rfl ?_
  rw [hw]
  exact loop
