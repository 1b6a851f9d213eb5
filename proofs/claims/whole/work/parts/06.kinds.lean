/-! Kinds; the class's small functions -/
def kIsOf (kind asked : Int32) : Prop := kind = asked ∨ asked = 0 ∨ (kind = 3 ∧ asked = 1) ∨ (kind = 4 ∧ asked = 2)
def kIsOfB (kind asked : Int32) : Bool := decide (kind = asked) || decide (asked = 0) || (decide (kind = 3) && decide (asked = 1)) || (decide (kind = 4) && decide (asked = 2))
def kWears (kind a : Int32) : Int32 := if kind = 1 then a / 2 else if kind = 2 then a * 2 else if kind = 3 then jmx 0 (a / 2 - 1) else if kind = 4 then a * 2 + 3 else if kind = 5 then a + 1 else a
def kGoes (kind steps hour : Int32) : Int32 := if kind = 1 then jmx 0 (steps - 1) else if kind = 3 then jmx 0 (steps - 1) + 2 else if kind = 4 then steps / 2 else if kind = 5 then (if jrem hour 12 = 11 then steps + 1 else steps) else steps
def kLeaves (kind floor : Int32) : Int32 := if kind = 3 then 0 else if kind = 2 ∨ kind = 4 then (if 5 ≤ floor then 1 else 0) + 1 else if 5 ≤ floor then 1 else 0
def kWorth (kind sole : Int32) : Int32 := if kind = 1 then sole + 8 else if kind = 2 then 999 - sole else if kind = 3 then (sole + 8) * 2 else if kind = 4 then 999 - sole - 7 else if kind = 5 then 12 else sole
def jheld (v m : Int32) : Int32 := jmx 0 (jmn v m)

set_option maxRecDepth 100000 in
set_option maxHeartbeats 4000000 in
theorem c_X1_isOf (B : BT) (σ : Nat → Nat → Int32) (kind asked : Int32) : CI B yX1_isOf cX1_isOf 2 (some .boolean) ({ frames := 0, cells := 0, slots := 0, locals := 0 }) [.int kind, .int asked] σ (fun r σ' => r = bI (kIsOfB kind asked = true) ∧ σ' = σ) := by
  refine MX.of2 RX1 (by decide) rfl ⟨rfl, rfl⟩ (Nat.le_of_ble_eq_true rfl) (by rfl) (fun k h hr hk => ?_)
  show XC B k σ 0 [some (.int kind), some (.int asked)] []
  refine x_ild0 h dX1_isOf_0 ?_
  refine x_ild1 h dX1_isOf_1 ?_
  refine x_icmp_eq 9 h dX1_isOf_2 (by decide) (fun c2 => ?_) (fun c2 => ?_)
  · refine x_iconst (v := 1) h dX1_isOf_9 rfl ?_
    refine x_zret h hr (by decide) ?_ dX1_isOf_10
    exact ⟨_, _, rfl, rfl, by simp_all [bI, kIsOfB], rfl⟩
  · refine x_ild1 h dX1_isOf_5 ?_
    refine x_if_ne 11 h dX1_isOf_6 (by decide) (fun c6 => ?_) (fun c6 => ?_)
    · refine x_ild0 h dX1_isOf_11 ?_
      refine x_iconst (v := 3) h dX1_isOf_12 rfl ?_
      refine x_icmp_ne 21 h dX1_isOf_13 (by decide) (fun c13 => ?_) (fun c13 => ?_)
      · refine x_ild0 h dX1_isOf_21 ?_
        refine x_iconst (v := 4) h dX1_isOf_22 rfl ?_
        refine x_icmp_ne 35 h dX1_isOf_23 (by decide) (fun c23 => ?_) (fun c23 => ?_)
        · refine x_iconst (v := 0) h dX1_isOf_35 rfl ?_
          refine x_zret h hr (by decide) ?_ dX1_isOf_36
          exact ⟨_, _, rfl, rfl, by simp_all [bI, kIsOfB], rfl⟩
        · refine x_ild1 h dX1_isOf_26 ?_
          refine x_iconst (v := 2) h dX1_isOf_27 rfl ?_
          refine x_icmp_ne 35 h dX1_isOf_28 (by decide) (fun c28 => ?_) (fun c28 => ?_)
          · refine x_iconst (v := 0) h dX1_isOf_35 rfl ?_
            refine x_zret h hr (by decide) ?_ dX1_isOf_36
            exact ⟨_, _, rfl, rfl, by simp_all [bI, kIsOfB], rfl⟩
          · refine x_iconst (v := 1) h dX1_isOf_31 rfl ?_
            refine x_goto 36 h dX1_isOf_32 (by decide) ?_
            refine x_zret h hr (by decide) ?_ dX1_isOf_36
            exact ⟨_, _, rfl, rfl, by simp_all [bI, kIsOfB], rfl⟩
      · refine x_ild1 h dX1_isOf_16 ?_
        refine x_iconst (v := 1) h dX1_isOf_17 rfl ?_
        refine x_icmp_eq 31 h dX1_isOf_18 (by decide) (fun c18 => ?_) (fun c18 => ?_)
        · refine x_iconst (v := 1) h dX1_isOf_31 rfl ?_
          refine x_goto 36 h dX1_isOf_32 (by decide) ?_
          refine x_zret h hr (by decide) ?_ dX1_isOf_36
          exact ⟨_, _, rfl, rfl, by simp_all [bI, kIsOfB], rfl⟩
        · refine x_ild0 h dX1_isOf_21 ?_
          refine x_iconst (v := 4) h dX1_isOf_22 rfl ?_
          refine x_icmp_ne 35 h dX1_isOf_23 (by decide) (fun c23 => ?_) (fun c23 => ?_)
          · refine x_iconst (v := 0) h dX1_isOf_35 rfl ?_
            refine x_zret h hr (by decide) ?_ dX1_isOf_36
            exact ⟨_, _, rfl, rfl, by simp_all [bI, kIsOfB], rfl⟩
          · refine x_ild1 h dX1_isOf_26 ?_
            refine x_iconst (v := 2) h dX1_isOf_27 rfl ?_
            refine x_icmp_ne 35 h dX1_isOf_28 (by decide) (fun c28 => ?_) (fun c28 => ?_)
            · refine x_iconst (v := 0) h dX1_isOf_35 rfl ?_
              refine x_zret h hr (by decide) ?_ dX1_isOf_36
              exact ⟨_, _, rfl, rfl, by simp_all [bI, kIsOfB], rfl⟩
            · refine x_iconst (v := 1) h dX1_isOf_31 rfl ?_
              refine x_goto 36 h dX1_isOf_32 (by decide) ?_
              refine x_zret h hr (by decide) ?_ dX1_isOf_36
              exact ⟨_, _, rfl, rfl, by simp_all [bI, kIsOfB], rfl⟩
    · refine x_iconst (v := 1) h dX1_isOf_9 rfl ?_
      refine x_zret h hr (by decide) ?_ dX1_isOf_10
      exact ⟨_, _, rfl, rfl, by simp_all [bI, kIsOfB], rfl⟩
set_option maxRecDepth 100000 in
set_option maxHeartbeats 4000000 in
theorem c_X1_wears (B : BT) (σ : Nat → Nat → Int32) (kind a : Int32) : CI B yX1_wears cX1_wears 2 (some .int) ({ frames := 2, cells := 0, slots := 0, locals := 85 }) [.int kind, .int a] σ (fun r σ' => r = kWears kind a ∧ σ' = σ) := by
  refine MX.of2 RX1 (by decide) rfl ⟨rfl, rfl⟩ (Nat.le_of_ble_eq_true rfl) (by rfl) (fun k h hr hk => ?_)
  show XC B k σ 0 [some (.int kind), some (.int a)] []
  refine x_ild0 h dX1_wears_0 ?_
  refine x_topi (fun y1 ey1 => ?_)
  by_cases q1_1 : y1 = 1
  · rw [q1_1] at ey1 ⊢
    refine x_tin 36 h dX1_wears_1 (by decide) (by decide) (by rfl) (by decide) ?_
    refine x_ild1 h dX1_wears_36 ?_
    refine x_iconst (v := 2) h dX1_wears_37 rfl ?_
    refine x_idiv h dX1_wears_38 (by decide) ?_
    refine x_iret h hr ?_ dX1_wears_39
    subst ey1
    exact ⟨_, _, rfl, rfl, by simp_all [kWears], rfl⟩
  · skip
    by_cases q1_2 : y1 = 2
    · rw [q1_2] at ey1 ⊢
      refine x_tin 50 h dX1_wears_1 (by decide) (by decide) (by rfl) (by decide) ?_
      refine x_ild1 h dX1_wears_50 ?_
      refine x_iconst (v := 2) h dX1_wears_51 rfl ?_
      refine x_imul h dX1_wears_52 ?_
      refine x_iret h hr ?_ dX1_wears_53
      subst ey1
      exact ⟨_, _, rfl, rfl, by simp_all [kWears], rfl⟩
    · skip
      by_cases q1_3 : y1 = 3
      · rw [q1_3] at ey1 ⊢
        refine x_tin 40 h dX1_wears_1 (by decide) (by decide) (by rfl) (by decide) ?_
        refine x_iconst (v := 0) h dX1_wears_40 rfl ?_
        refine x_ild1 h dX1_wears_41 ?_
        refine x_iconst (v := 2) h dX1_wears_42 rfl ?_
        refine x_idiv h dX1_wears_43 (by decide) ?_
        refine x_iconst (v := 1) h dX1_wears_44 rfl ?_
        refine x_isub h dX1_wears_45 ?_
        refine x_max h ul_X1_11 ⟨Nat.le_of_ble_eq_true rfl, Nat.le_of_ble_eq_true rfl⟩ dX1_wears_46 ?_
        refine x_iret h hr ?_ dX1_wears_49
        subst ey1
        exact ⟨_, _, rfl, rfl, by simp_all [kWears], rfl⟩
      · skip
        by_cases q1_4 : y1 = 4
        · rw [q1_4] at ey1 ⊢
          refine x_tin 54 h dX1_wears_1 (by decide) (by decide) (by rfl) (by decide) ?_
          refine x_ild1 h dX1_wears_54 ?_
          refine x_iconst (v := 2) h dX1_wears_55 rfl ?_
          refine x_imul h dX1_wears_56 ?_
          refine x_iconst (v := 3) h dX1_wears_57 rfl ?_
          refine x_iadd h dX1_wears_58 ?_
          refine x_iret h hr ?_ dX1_wears_59
          subst ey1
          exact ⟨_, _, rfl, rfl, by simp_all [kWears], rfl⟩
        · skip
          by_cases q1_5 : y1 = 5
          · rw [q1_5] at ey1 ⊢
            refine x_tin 60 h dX1_wears_1 (by decide) (by decide) (by rfl) (by decide) ?_
            refine x_ild1 h dX1_wears_60 ?_
            refine x_iconst (v := 1) h dX1_wears_61 rfl ?_
            refine x_iadd h dX1_wears_62 ?_
            refine x_iret h hr ?_ dX1_wears_63
            subst ey1
            exact ⟨_, _, rfl, rfl, by simp_all [kWears], rfl⟩
          · skip
            refine x_tout 64 h dX1_wears_1 (by have tq1_1 := lv_neT q1_1 (a := 1) (by decide); have tq1_2 := lv_neT q1_2 (a := 2) (by decide); have tq1_3 := lv_neT q1_3 (a := 3) (by decide); have tq1_4 := lv_neT q1_4 (a := 4) (by decide); have tq1_5 := lv_neT q1_5 (a := 5) (by decide); omega) (by decide) ?_
            refine x_ild1 h dX1_wears_64 ?_
            refine x_iret h hr ?_ dX1_wears_65
            subst ey1
            exact ⟨_, _, rfl, rfl, by simp_all [kWears], rfl⟩
set_option maxRecDepth 100000 in
set_option maxHeartbeats 4000000 in
theorem c_X1_goes (B : BT) (σ : Nat → Nat → Int32) (kind steps hour : Int32) : CI B yX1_goes cX1_goes 3 (some .int) ({ frames := 2, cells := 0, slots := 0, locals := 85 }) [.int kind, .int steps, .int hour] σ (fun r σ' => r = kGoes kind steps hour ∧ σ' = σ) := by
  refine MX.of2 RX1 (by decide) rfl ⟨rfl, rfl⟩ (Nat.le_of_ble_eq_true rfl) (by rfl) (fun k h hr hk => ?_)
  show XC B k σ 0 [some (.int kind), some (.int steps), some (.int hour)] []
  refine x_ild0 h dX1_goes_0 ?_
  refine x_topi (fun y1 ey1 => ?_)
  by_cases q1_1 : y1 = 1
  · rw [q1_1] at ey1 ⊢
    refine x_tin 36 h dX1_goes_1 (by decide) (by decide) (by rfl) (by decide) ?_
    refine x_iconst (v := 0) h dX1_goes_36 rfl ?_
    refine x_ild1 h dX1_goes_37 ?_
    refine x_iconst (v := 1) h dX1_goes_38 rfl ?_
    refine x_isub h dX1_goes_39 ?_
    refine x_max h ul_X1_11 ⟨Nat.le_of_ble_eq_true rfl, Nat.le_of_ble_eq_true rfl⟩ dX1_goes_40 ?_
    refine x_iret h hr ?_ dX1_goes_43
    subst ey1
    exact ⟨_, _, rfl, rfl, by simp_all [kGoes], rfl⟩
  · skip
    by_cases q1_2 : y1 = 2
    · rw [q1_2] at ey1 ⊢
      refine x_tin 75 h dX1_goes_1 (by decide) (by decide) (by rfl) (by decide) ?_
      refine x_ild1 h dX1_goes_75 ?_
      refine x_iret h hr ?_ dX1_goes_76
      subst ey1
      exact ⟨_, _, rfl, rfl, by simp_all [kGoes], rfl⟩
    · skip
      by_cases q1_3 : y1 = 3
      · rw [q1_3] at ey1 ⊢
        refine x_tin 44 h dX1_goes_1 (by decide) (by decide) (by rfl) (by decide) ?_
        refine x_iconst (v := 0) h dX1_goes_44 rfl ?_
        refine x_ild1 h dX1_goes_45 ?_
        refine x_iconst (v := 1) h dX1_goes_46 rfl ?_
        refine x_isub h dX1_goes_47 ?_
        refine x_max h ul_X1_11 ⟨Nat.le_of_ble_eq_true rfl, Nat.le_of_ble_eq_true rfl⟩ dX1_goes_48 ?_
        refine x_iconst (v := 2) h dX1_goes_51 rfl ?_
        refine x_iadd h dX1_goes_52 ?_
        refine x_iret h hr ?_ dX1_goes_53
        subst ey1
        exact ⟨_, _, rfl, rfl, by simp_all [kGoes], rfl⟩
      · skip
        by_cases q1_4 : y1 = 4
        · rw [q1_4] at ey1 ⊢
          refine x_tin 54 h dX1_goes_1 (by decide) (by decide) (by rfl) (by decide) ?_
          refine x_ild1 h dX1_goes_54 ?_
          refine x_iconst (v := 2) h dX1_goes_55 rfl ?_
          refine x_idiv h dX1_goes_56 (by decide) ?_
          refine x_iret h hr ?_ dX1_goes_57
          subst ey1
          exact ⟨_, _, rfl, rfl, by simp_all [kGoes], rfl⟩
        · skip
          by_cases q1_5 : y1 = 5
          · rw [q1_5] at ey1 ⊢
            refine x_tin 58 h dX1_goes_1 (by decide) (by decide) (by rfl) (by decide) ?_
            refine x_ild2 h dX1_goes_58 ?_
            refine x_bipush (v := 12) h dX1_goes_59 rfl ?_
            refine x_irem h dX1_goes_61 (by decide) ?_
            refine x_bipush (v := 11) h dX1_goes_62 rfl ?_
            refine x_icmp_ne 73 h dX1_goes_64 (by decide) (fun c64 => ?_) (fun c64 => ?_)
            · refine x_ild1 h dX1_goes_73 ?_
              refine x_iret h hr ?_ dX1_goes_74
              subst ey1
              exact ⟨_, _, rfl, rfl, by simp_all [kGoes], rfl⟩
            · refine x_ild1 h dX1_goes_67 ?_
              refine x_iconst (v := 1) h dX1_goes_68 rfl ?_
              refine x_iadd h dX1_goes_69 ?_
              refine x_goto 74 h dX1_goes_70 (by decide) ?_
              refine x_iret h hr ?_ dX1_goes_74
              subst ey1
              exact ⟨_, _, rfl, rfl, by simp_all [kGoes], rfl⟩
          · skip
            refine x_tout 75 h dX1_goes_1 (by have tq1_1 := lv_neT q1_1 (a := 1) (by decide); have tq1_2 := lv_neT q1_2 (a := 2) (by decide); have tq1_3 := lv_neT q1_3 (a := 3) (by decide); have tq1_4 := lv_neT q1_4 (a := 4) (by decide); have tq1_5 := lv_neT q1_5 (a := 5) (by decide); omega) (by decide) ?_
            refine x_ild1 h dX1_goes_75 ?_
            refine x_iret h hr ?_ dX1_goes_76
            subst ey1
            exact ⟨_, _, rfl, rfl, by simp_all [kGoes], rfl⟩
set_option maxRecDepth 100000 in
set_option maxHeartbeats 4000000 in
theorem c_X1_worth (B : BT) (σ : Nat → Nat → Int32) (kind sole : Int32) : CI B yX1_worth cX1_worth 2 (some .int) ({ frames := 0, cells := 0, slots := 0, locals := 0 }) [.int kind, .int sole] σ (fun r σ' => r = kWorth kind sole ∧ σ' = σ) := by
  refine MX.of2 RX1 (by decide) rfl ⟨rfl, rfl⟩ (Nat.le_of_ble_eq_true rfl) (by rfl) (fun k h hr hk => ?_)
  show XC B k σ 0 [some (.int kind), some (.int sole)] []
  refine x_ild0 h dX1_worth_0 ?_
  refine x_topi (fun y1 ey1 => ?_)
  by_cases q1_1 : y1 = 1
  · rw [q1_1] at ey1 ⊢
    refine x_tin 36 h dX1_worth_1 (by decide) (by decide) (by rfl) (by decide) ?_
    refine x_ild1 h dX1_worth_36 ?_
    refine x_bipush (v := 8) h dX1_worth_37 rfl ?_
    refine x_iadd h dX1_worth_39 ?_
    refine x_iret h hr ?_ dX1_worth_40
    subst ey1
    exact ⟨_, _, rfl, rfl, by simp_all [kWorth], rfl⟩
  · skip
    by_cases q1_2 : y1 = 2
    · rw [q1_2] at ey1 ⊢
      refine x_tin 48 h dX1_worth_1 (by decide) (by decide) (by rfl) (by decide) ?_
      refine x_sipush (v := 999) h dX1_worth_48 rfl ?_
      refine x_ild1 h dX1_worth_51 ?_
      refine x_isub h dX1_worth_52 ?_
      refine x_iret h hr ?_ dX1_worth_53
      subst ey1
      exact ⟨_, _, rfl, rfl, by simp_all [kWorth], rfl⟩
    · skip
      by_cases q1_3 : y1 = 3
      · rw [q1_3] at ey1 ⊢
        refine x_tin 41 h dX1_worth_1 (by decide) (by decide) (by rfl) (by decide) ?_
        refine x_ild1 h dX1_worth_41 ?_
        refine x_bipush (v := 8) h dX1_worth_42 rfl ?_
        refine x_iadd h dX1_worth_44 ?_
        refine x_iconst (v := 2) h dX1_worth_45 rfl ?_
        refine x_imul h dX1_worth_46 ?_
        refine x_iret h hr ?_ dX1_worth_47
        subst ey1
        exact ⟨_, _, rfl, rfl, by simp_all [kWorth], rfl⟩
      · skip
        by_cases q1_4 : y1 = 4
        · rw [q1_4] at ey1 ⊢
          refine x_tin 54 h dX1_worth_1 (by decide) (by decide) (by rfl) (by decide) ?_
          refine x_sipush (v := 999) h dX1_worth_54 rfl ?_
          refine x_ild1 h dX1_worth_57 ?_
          refine x_isub h dX1_worth_58 ?_
          refine x_bipush (v := 7) h dX1_worth_59 rfl ?_
          refine x_isub h dX1_worth_61 ?_
          refine x_iret h hr ?_ dX1_worth_62
          subst ey1
          exact ⟨_, _, rfl, rfl, by simp_all [kWorth], rfl⟩
        · skip
          by_cases q1_5 : y1 = 5
          · rw [q1_5] at ey1 ⊢
            refine x_tin 63 h dX1_worth_1 (by decide) (by decide) (by rfl) (by decide) ?_
            refine x_bipush (v := 12) h dX1_worth_63 rfl ?_
            refine x_iret h hr ?_ dX1_worth_65
            subst ey1
            exact ⟨_, _, rfl, rfl, by simp_all [kWorth], rfl⟩
          · skip
            refine x_tout 66 h dX1_worth_1 (by have tq1_1 := lv_neT q1_1 (a := 1) (by decide); have tq1_2 := lv_neT q1_2 (a := 2) (by decide); have tq1_3 := lv_neT q1_3 (a := 3) (by decide); have tq1_4 := lv_neT q1_4 (a := 4) (by decide); have tq1_5 := lv_neT q1_5 (a := 5) (by decide); omega) (by decide) ?_
            refine x_ild1 h dX1_worth_66 ?_
            refine x_iret h hr ?_ dX1_worth_67
            subst ey1
            exact ⟨_, _, rfl, rfl, by simp_all [kWorth], rfl⟩
