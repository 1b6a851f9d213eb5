/-! a House's methods, the rest -/
theorem bitsF_t {c : Nat → Bool} {n : Nat} (h : c n = true) : bitsF c (n + 1) = bitsF c n ||| ((1 : Int32) <<< (nI n &&& 31)) := if_pos h
theorem bitsF_f {c : Nat → Bool} {n : Nat} (h : ¬ c n = true) : bitsF c (n + 1) = bitsF c n := if_neg h
theorem sumF_s {f : Nat → Int32} {n : Nat} : sumF f (n + 1) = sumF f n + f n := rfl
set_option maxRecDepth 100000 in
set_option maxHeartbeats 4000000 in
theorem c_J6_bitCount_0f7a4 (B : BT) (σ : Nat → Nat → Int32) (x : Int32) : CI B yJ6_bitCount_0f7a4 cJ6_bitCount_0f7a4 1 (some .int) ({ frames := 0, cells := 0, slots := 0, locals := 0 }) [.int x] σ (fun r σ' => r = sPop x ∧ σ' = σ) := by
  refine MX.of2 RJ6 (by decide) rfl ⟨rfl, rfl⟩ (Nat.le_of_ble_eq_true rfl) (by rfl) (fun k h hr hk => ?_)
  show XC B k σ 0 [some (.int x)] []
  refine x_ild0 h dJ6_bitCount_0f7a4_0 ?_
  refine x_ild0 h dJ6_bitCount_0f7a4_1 ?_
  refine x_iconst (v := 1) h dJ6_bitCount_0f7a4_2 rfl ?_
  refine x_iushr h dJ6_bitCount_0f7a4_3 ?_
  refine x_ldcw h kc_J6_265 dJ6_bitCount_0f7a4_4 ?_
  refine x_iand h dJ6_bitCount_0f7a4_7 ?_
  refine x_isub h dJ6_bitCount_0f7a4_8 ?_
  refine x_ist0 h dJ6_bitCount_0f7a4_9 (by rw [hk]; decide) ?_
  refine x_ild0 h dJ6_bitCount_0f7a4_10 ?_
  refine x_ldcw h kc_J6_266 dJ6_bitCount_0f7a4_11 ?_
  refine x_iand h dJ6_bitCount_0f7a4_14 ?_
  refine x_ild0 h dJ6_bitCount_0f7a4_15 ?_
  refine x_iconst (v := 2) h dJ6_bitCount_0f7a4_16 rfl ?_
  refine x_iushr h dJ6_bitCount_0f7a4_17 ?_
  refine x_ldcw h kc_J6_266 dJ6_bitCount_0f7a4_18 ?_
  refine x_iand h dJ6_bitCount_0f7a4_21 ?_
  refine x_iadd h dJ6_bitCount_0f7a4_22 ?_
  refine x_ist0 h dJ6_bitCount_0f7a4_23 (by rw [hk]; decide) ?_
  refine x_ild0 h dJ6_bitCount_0f7a4_24 ?_
  refine x_ild0 h dJ6_bitCount_0f7a4_25 ?_
  refine x_iconst (v := 4) h dJ6_bitCount_0f7a4_26 rfl ?_
  refine x_iushr h dJ6_bitCount_0f7a4_27 ?_
  refine x_iadd h dJ6_bitCount_0f7a4_28 ?_
  refine x_ldcw h kc_J6_267 dJ6_bitCount_0f7a4_29 ?_
  refine x_iand h dJ6_bitCount_0f7a4_32 ?_
  refine x_ist0 h dJ6_bitCount_0f7a4_33 (by rw [hk]; decide) ?_
  refine x_ild0 h dJ6_bitCount_0f7a4_34 ?_
  refine x_ild0 h dJ6_bitCount_0f7a4_35 ?_
  refine x_bipush (v := 8) h dJ6_bitCount_0f7a4_36 rfl ?_
  refine x_iushr h dJ6_bitCount_0f7a4_38 ?_
  refine x_iadd h dJ6_bitCount_0f7a4_39 ?_
  refine x_ist0 h dJ6_bitCount_0f7a4_40 (by rw [hk]; decide) ?_
  refine x_ild0 h dJ6_bitCount_0f7a4_41 ?_
  refine x_ild0 h dJ6_bitCount_0f7a4_42 ?_
  refine x_bipush (v := 16) h dJ6_bitCount_0f7a4_43 rfl ?_
  refine x_iushr h dJ6_bitCount_0f7a4_45 ?_
  refine x_iadd h dJ6_bitCount_0f7a4_46 ?_
  refine x_ist0 h dJ6_bitCount_0f7a4_47 (by rw [hk]; decide) ?_
  refine x_ild0 h dJ6_bitCount_0f7a4_48 ?_
  refine x_bipush (v := 63) h dJ6_bitCount_0f7a4_49 rfl ?_
  refine x_iand h dJ6_bitCount_0f7a4_51 ?_
  refine x_iret h hr ?_ dJ6_bitCount_0f7a4_52
  exact ⟨_, _, rfl, rfl, rfl, rfl⟩
set_option maxRecDepth 100000 in
set_option maxHeartbeats 4000000 in
theorem c_X0_barefoot (B : BT) {j : Nat} (hj : j < 3) (σ : Nat → Nat → Int32) (hh : HT) (hi : HI hh) : CI B yX0_barefoot cX0_barefoot 3 (some .int) ({ frames := 0, cells := 0, slots := 0, locals := 0 }) [.ref (aB B (10 * j))] (sH σ j hh) (fun r σ' => r = sBare hh ∧ σ' = sH σ j hh) := by
  refine MX.of2 RX0 (by decide) rfl ⟨rfl, rfl⟩ (Nat.le_of_ble_eq_true rfl) (by rfl) (fun k h hr hk => ?_)
  show XC B k (sH σ j hh) 0 [some (.ref (aB B (10 * j))), none, none] []
  obtain ⟨hN12, hN⟩ := hi.n
  have loop : ∀ (f i : Nat), sN hh < f + i → i ≤ sN hh → XC B k (sH σ j hh) 4 [some (.ref (aB B (10 * j))), some (.int (bitsF (fun d => decide (hh 3 d = 0)) i)), some (.int (nI i))] [] := by
    intro f
    induction f with
    | zero => intro i h1 h2; omega
    | succ f ih =>
      intro i h1 h2
      refine x_ild2 h dX0_barefoot_4 ?_
      refine x_ald0 h dX0_barefoot_5 ?_
      refine rh_X0_9 hj h dX0_barefoot_6 ?_
      refine x_icmp_ge 33 h dX0_barefoot_9 (by decide) (fun c9 => ?_) (fun c9 => ?_)
      · rw [hN] at c9
        have c9 := n_le (by omega) (by omega) c9
        have ei : i = sN hh := by omega
        subst ei
        refine x_ild1 h dX0_barefoot_33 ?_
        refine x_iret h hr ?_ dX0_barefoot_34
        exact ⟨_, _, rfl, rfl, rfl, rfl⟩
      · rw [hN] at c9
        have c9 := n_nle (by omega) (by omega) c9
        refine x_ald0 h dX0_barefoot_12 ?_
        refine r_X0_22 hj h dX0_barefoot_13 ?_
        refine x_ild2 h dX0_barefoot_16 ?_
        refine xh_ialdN (i) (rfl) 3 (by show i < 12; omega) h hj (by decide) (by decide) dX0_barefoot_17 ?_
        refine x_if_ne 27 h dX0_barefoot_18 (by decide) (fun c18 => ?_) (fun c18 => ?_)
        · have eb : bitsF (fun d => decide (hh 3 d = 0)) (i + 1) = bitsF (fun d => decide (hh 3 d = 0)) i := bitsF_f (by simpa using c18)
          refine x_inc2 (y := 1) h dX0_barefoot_27 (by rw [hk]; decide) rfl rfl ?_
          refine x_goto 4 h dX0_barefoot_30 (by decide) ?_
          rw [nI_1 i, ← eb]
          exact ih (i + 1) (by omega) (by omega)
        · have eb : bitsF (fun d => decide (hh 3 d = 0)) (i + 1) = bitsF (fun d => decide (hh 3 d = 0)) i ||| ((1 : Int32) <<< (nI i &&& 31)) := bitsF_t (by simpa using c18)
          refine x_ild1 h dX0_barefoot_21 ?_
          refine x_iconst (v := 1) h dX0_barefoot_22 rfl ?_
          refine x_ild2 h dX0_barefoot_23 ?_
          refine x_ishl h dX0_barefoot_24 ?_
          refine x_ior h dX0_barefoot_25 ?_
          refine x_ist1 h dX0_barefoot_26 (by rw [hk]; decide) rfl ?_
          refine x_inc2 (y := 1) h dX0_barefoot_27 (by rw [hk]; decide) rfl rfl ?_
          refine x_goto 4 h dX0_barefoot_30 (by decide) ?_
          rw [nI_1 i, ← eb]
          exact ih (i + 1) (by omega) (by omega)
  have loop := loop (sN hh + 1) 0 (by omega) (by omega)
  refine x_iconst (v := 0) h dX0_barefoot_0 rfl ?_
  refine x_ist1 h dX0_barefoot_1 (by rw [hk]; decide) rfl ?_
  refine x_iconst (v := 0) h dX0_barefoot_2 rfl ?_
  refine x_ist2 h dX0_barefoot_3 (by rw [hk]; decide) rfl ?_
  exact loop
set_option maxRecDepth 100000 in
set_option maxHeartbeats 4000000 in
theorem c_X0_dancersAt (B : BT) {j : Nat} (hj : j < 3) (σ : Nat → Nat → Int32) (hh : HT) (hi : HI hh) (x : Int32) : CI B yX0_dancersAt cX0_dancersAt 4 (some .int) ({ frames := 0, cells := 0, slots := 0, locals := 0 }) [.ref (aB B (10 * j)), .int x] (sH σ j hh) (fun r σ' => r = sAt hh x ∧ σ' = sH σ j hh) := by
  refine MX.of2 RX0 (by decide) rfl ⟨rfl, rfl⟩ (Nat.le_of_ble_eq_true rfl) (by rfl) (fun k h hr hk => ?_)
  show XC B k (sH σ j hh) 0 [some (.ref (aB B (10 * j))), some (.int x), none, none] []
  obtain ⟨hN12, hN⟩ := hi.n
  have loop : ∀ (f i : Nat), sN hh < f + i → i ≤ sN hh → XC B k (sH σ j hh) 4 [some (.ref (aB B (10 * j))), some (.int x), some (.int (bitsF (fun d => decide (hh 2 d = x)) i)), some (.int (nI i))] [] := by
    intro f
    induction f with
    | zero => intro i h1 h2; omega
    | succ f ih =>
      intro i h1 h2
      refine x_ild3 h dX0_dancersAt_4 ?_
      refine x_ald0 h dX0_dancersAt_5 ?_
      refine rh_X0_9 hj h dX0_dancersAt_6 ?_
      refine x_icmp_ge 34 h dX0_dancersAt_9 (by decide) (fun c9 => ?_) (fun c9 => ?_)
      · rw [hN] at c9
        have c9 := n_le (by omega) (by omega) c9
        have ei : i = sN hh := by omega
        subst ei
        refine x_ild2 h dX0_dancersAt_34 ?_
        refine x_iret h hr ?_ dX0_dancersAt_35
        exact ⟨_, _, rfl, rfl, rfl, rfl⟩
      · rw [hN] at c9
        have c9 := n_nle (by omega) (by omega) c9
        refine x_ald0 h dX0_dancersAt_12 ?_
        refine r_X0_19 hj h dX0_dancersAt_13 ?_
        refine x_ild3 h dX0_dancersAt_16 ?_
        refine xh_ialdN (i) (rfl) 2 (by show i < 12; omega) h hj (by decide) (by decide) dX0_dancersAt_17 ?_
        refine x_ild1 h dX0_dancersAt_18 ?_
        refine x_icmp_ne 28 h dX0_dancersAt_19 (by decide) (fun c19 => ?_) (fun c19 => ?_)
        · have eb : bitsF (fun d => decide (hh 2 d = x)) (i + 1) = bitsF (fun d => decide (hh 2 d = x)) i := bitsF_f (by simpa using c19)
          refine x_inc3 (y := 1) h dX0_dancersAt_28 (by rw [hk]; decide) rfl rfl ?_
          refine x_goto 4 h dX0_dancersAt_31 (by decide) ?_
          rw [nI_1 i, ← eb]
          exact ih (i + 1) (by omega) (by omega)
        · have eb : bitsF (fun d => decide (hh 2 d = x)) (i + 1) = bitsF (fun d => decide (hh 2 d = x)) i ||| ((1 : Int32) <<< (nI i &&& 31)) := bitsF_t (by simpa using c19)
          refine x_ild2 h dX0_dancersAt_22 ?_
          refine x_iconst (v := 1) h dX0_dancersAt_23 rfl ?_
          refine x_ild3 h dX0_dancersAt_24 ?_
          refine x_ishl h dX0_dancersAt_25 ?_
          refine x_ior h dX0_dancersAt_26 ?_
          refine x_ist2 h dX0_dancersAt_27 (by rw [hk]; decide) rfl ?_
          refine x_inc3 (y := 1) h dX0_dancersAt_28 (by rw [hk]; decide) rfl rfl ?_
          refine x_goto 4 h dX0_dancersAt_31 (by decide) ?_
          rw [nI_1 i, ← eb]
          exact ih (i + 1) (by omega) (by omega)
  have loop := loop (sN hh + 1) 0 (by omega) (by omega)
  refine x_iconst (v := 0) h dX0_dancersAt_0 rfl ?_
  refine x_ist2 h dX0_dancersAt_1 (by rw [hk]; decide) rfl ?_
  refine x_iconst (v := 0) h dX0_dancersAt_2 rfl ?_
  refine x_ist3 h dX0_dancersAt_3 (by rw [hk]; decide) rfl ?_
  exact loop
set_option maxRecDepth 100000 in
set_option maxHeartbeats 4000000 in
theorem c_X0_roomsWithMarks (B : BT) {j : Nat} (hj : j < 3) (σ : Nat → Nat → Int32) (hh : HT) : CI B yX0_roomsWithMarks cX0_roomsWithMarks 3 (some .int) ({ frames := 0, cells := 0, slots := 0, locals := 0 }) [.ref (aB B (10 * j))] (sH σ j hh) (fun r σ' => r = sMarked hh ∧ σ' = sH σ j hh) := by
  refine MX.of2 RX0 (by decide) rfl ⟨rfl, rfl⟩ (Nat.le_of_ble_eq_true rfl) (by rfl) (fun k h hr hk => ?_)
  show XC B k (sH σ j hh) 0 [some (.ref (aB B (10 * j))), none, none] []
  have loop : ∀ (f i : Nat), 10 < f + i → i ≤ 10 → XC B k (sH σ j hh) 4 [some (.ref (aB B (10 * j))), some (.int (bitsF (fun r => decide (0 < hh 8 r)) i)), some (.int (nI i))] [] := by
    intro f
    induction f with
    | zero => intro i h1 h2; omega
    | succ f ih =>
      intro i h1 h2
      refine x_ild2 h dX0_roomsWithMarks_4 ?_
      refine x_bipush (v := 10) h dX0_roomsWithMarks_5 rfl ?_
      refine x_icmp_ge 31 h dX0_roomsWithMarks_7 (by decide) (fun c7 => ?_) (fun c7 => ?_)
      · have c7 := n_le (a := 10) (by omega) (by omega) c7
        have ei : i = 10 := by omega
        subst ei
        refine x_ild1 h dX0_roomsWithMarks_31 ?_
        refine x_iret h hr ?_ dX0_roomsWithMarks_32
        exact ⟨_, _, rfl, rfl, rfl, rfl⟩
      · have c7 := n_nle (b := i) (a := 10) (by omega) (by omega) c7
        refine x_ald0 h dX0_roomsWithMarks_10 ?_
        refine r_X0_37 hj h dX0_roomsWithMarks_11 ?_
        refine x_ild2 h dX0_roomsWithMarks_14 ?_
        refine xh_ialdN (i) (rfl) 8 (by show i < 10; omega) h hj (by decide) (by decide) dX0_roomsWithMarks_15 ?_
        refine x_if_le 25 h dX0_roomsWithMarks_16 (by decide) (fun c16 => ?_) (fun c16 => ?_)
        · have eb : bitsF (fun r => decide (0 < hh 8 r)) (i + 1) = bitsF (fun r => decide (0 < hh 8 r)) i := bitsF_f (by simpa using Int32.not_lt.mpr c16)
          refine x_inc2 (y := 1) h dX0_roomsWithMarks_25 (by rw [hk]; decide) rfl rfl ?_
          refine x_goto 4 h dX0_roomsWithMarks_28 (by decide) ?_
          rw [nI_1 i, ← eb]
          exact ih (i + 1) (by omega) (by omega)
        · have eb : bitsF (fun r => decide (0 < hh 8 r)) (i + 1) = bitsF (fun r => decide (0 < hh 8 r)) i ||| ((1 : Int32) <<< (nI i &&& 31)) := bitsF_t (by simpa using Int32.not_le.mp c16)
          refine x_ild1 h dX0_roomsWithMarks_19 ?_
          refine x_iconst (v := 1) h dX0_roomsWithMarks_20 rfl ?_
          refine x_ild2 h dX0_roomsWithMarks_21 ?_
          refine x_ishl h dX0_roomsWithMarks_22 ?_
          refine x_ior h dX0_roomsWithMarks_23 ?_
          refine x_ist1 h dX0_roomsWithMarks_24 (by rw [hk]; decide) rfl ?_
          refine x_inc2 (y := 1) h dX0_roomsWithMarks_25 (by rw [hk]; decide) rfl rfl ?_
          refine x_goto 4 h dX0_roomsWithMarks_28 (by decide) ?_
          rw [nI_1 i, ← eb]
          exact ih (i + 1) (by omega) (by omega)
  have loop := loop (10 + 1) 0 (by omega) (by omega)
  refine x_iconst (v := 0) h dX0_roomsWithMarks_0 rfl ?_
  refine x_ist1 h dX0_roomsWithMarks_1 (by rw [hk]; decide) rfl ?_
  refine x_iconst (v := 0) h dX0_roomsWithMarks_2 rfl ?_
  refine x_ist2 h dX0_roomsWithMarks_3 (by rw [hk]; decide) rfl ?_
  exact loop
set_option maxRecDepth 100000 in
set_option maxHeartbeats 4000000 in
theorem c_X0_allMarks (B : BT) {j : Nat} (hj : j < 3) (σ : Nat → Nat → Int32) (hh : HT) : CI B yX0_allMarks cX0_allMarks 3 (some .int) ({ frames := 0, cells := 0, slots := 0, locals := 0 }) [.ref (aB B (10 * j))] (sH σ j hh) (fun r σ' => r = sMarks hh ∧ σ' = sH σ j hh) := by
  refine MX.of2 RX0 (by decide) rfl ⟨rfl, rfl⟩ (Nat.le_of_ble_eq_true rfl) (by rfl) (fun k h hr hk => ?_)
  show XC B k (sH σ j hh) 0 [some (.ref (aB B (10 * j))), none, none] []
  have loop : ∀ (f i : Nat), 10 < f + i → i ≤ 10 → XC B k (sH σ j hh) 4 [some (.ref (aB B (10 * j))), some (.int (sumF (hh 8) i)), some (.int (nI i))] [] := by
    intro f
    induction f with
    | zero => intro i h1 h2; omega
    | succ f ih =>
      intro i h1 h2
      refine x_ild2 h dX0_allMarks_4 ?_
      refine x_bipush (v := 10) h dX0_allMarks_5 rfl ?_
      refine x_icmp_ge 25 h dX0_allMarks_7 (by decide) (fun c7 => ?_) (fun c7 => ?_)
      · have c7 := n_le (a := 10) (by omega) (by omega) c7
        have ei : i = 10 := by omega
        subst ei
        refine x_ild1 h dX0_allMarks_25 ?_
        refine x_iret h hr ?_ dX0_allMarks_26
        exact ⟨_, _, rfl, rfl, rfl, rfl⟩
      · have c7 := n_nle (b := i) (a := 10) (by omega) (by omega) c7
        refine x_ild1 h dX0_allMarks_10 ?_
        refine x_ald0 h dX0_allMarks_11 ?_
        refine r_X0_37 hj h dX0_allMarks_12 ?_
        refine x_ild2 h dX0_allMarks_15 ?_
        refine xh_ialdN (i) (rfl) 8 (by show i < 10; omega) h hj (by decide) (by decide) dX0_allMarks_16 ?_
        refine x_iadd h dX0_allMarks_17 ?_
        have eb : sumF (hh 8) (i + 1) = sumF (hh 8) i + hh 8 i := rfl
        refine x_ist1 h dX0_allMarks_18 (by rw [hk]; decide) rfl ?_
        refine x_inc2 (y := 1) h dX0_allMarks_19 (by rw [hk]; decide) rfl rfl ?_
        refine x_goto 4 h dX0_allMarks_22 (by decide) ?_
        rw [nI_1 i, ← eb]
        exact ih (i + 1) (by omega) (by omega)
  have loop := loop (10 + 1) 0 (by omega) (by omega)
  refine x_iconst (v := 0) h dX0_allMarks_0 rfl ?_
  refine x_ist1 h dX0_allMarks_1 (by rw [hk]; decide) rfl ?_
  refine x_iconst (v := 0) h dX0_allMarks_2 rfl ?_
  refine x_ist2 h dX0_allMarks_3 (by rw [hk]; decide) rfl ?_
  exact loop
set_option maxRecDepth 100000 in
set_option maxHeartbeats 4000000 in
theorem c_X0_allSoles (B : BT) {j : Nat} (hj : j < 3) (σ : Nat → Nat → Int32) (hh : HT) (hi : HI hh) : CI B yX0_allSoles cX0_allSoles 3 (some .int) ({ frames := 0, cells := 0, slots := 0, locals := 0 }) [.ref (aB B (10 * j))] (sH σ j hh) (fun r σ' => r = sSum hh 3 ∧ σ' = sH σ j hh) := by
  refine MX.of2 RX0 (by decide) rfl ⟨rfl, rfl⟩ (Nat.le_of_ble_eq_true rfl) (by rfl) (fun k h hr hk => ?_)
  show XC B k (sH σ j hh) 0 [some (.ref (aB B (10 * j))), none, none] []
  obtain ⟨hN12, hN⟩ := hi.n
  have loop : ∀ (f i : Nat), sN hh < f + i → i ≤ sN hh → XC B k (sH σ j hh) 4 [some (.ref (aB B (10 * j))), some (.int (sumF (hh 3) i)), some (.int (nI i))] [] := by
    intro f
    induction f with
    | zero => intro i h1 h2; omega
    | succ f ih =>
      intro i h1 h2
      refine x_ild2 h dX0_allSoles_4 ?_
      refine x_ald0 h dX0_allSoles_5 ?_
      refine rh_X0_9 hj h dX0_allSoles_6 ?_
      refine x_icmp_ge 27 h dX0_allSoles_9 (by decide) (fun c9 => ?_) (fun c9 => ?_)
      · rw [hN] at c9
        have c9 := n_le (by omega) (by omega) c9
        have ei : i = sN hh := by omega
        subst ei
        refine x_ild1 h dX0_allSoles_27 ?_
        refine x_iret h hr ?_ dX0_allSoles_28
        exact ⟨_, _, rfl, rfl, rfl, rfl⟩
      · rw [hN] at c9
        have c9 := n_nle (by omega) (by omega) c9
        refine x_ild1 h dX0_allSoles_12 ?_
        refine x_ald0 h dX0_allSoles_13 ?_
        refine r_X0_22 hj h dX0_allSoles_14 ?_
        refine x_ild2 h dX0_allSoles_17 ?_
        refine xh_ialdN (i) (rfl) 3 (by show i < 12; omega) h hj (by decide) (by decide) dX0_allSoles_18 ?_
        refine x_iadd h dX0_allSoles_19 ?_
        have eb : sumF (hh 3) (i + 1) = sumF (hh 3) i + hh 3 i := rfl
        refine x_ist1 h dX0_allSoles_20 (by rw [hk]; decide) rfl ?_
        refine x_inc2 (y := 1) h dX0_allSoles_21 (by rw [hk]; decide) rfl rfl ?_
        refine x_goto 4 h dX0_allSoles_24 (by decide) ?_
        rw [nI_1 i, ← eb]
        exact ih (i + 1) (by omega) (by omega)
  have loop := loop (sN hh + 1) 0 (by omega) (by omega)
  refine x_iconst (v := 0) h dX0_allSoles_0 rfl ?_
  refine x_ist1 h dX0_allSoles_1 (by rw [hk]; decide) rfl ?_
  refine x_iconst (v := 0) h dX0_allSoles_2 rfl ?_
  refine x_ist2 h dX0_allSoles_3 (by rw [hk]; decide) rfl ?_
  exact loop
set_option maxRecDepth 100000 in
set_option maxHeartbeats 4000000 in
theorem c_X0_passHour (B : BT) {j : Nat} (hj : j < 3) (σ : Nat → Nat → Int32) (hh : HT) (hi : HI hh) (hT : CT σ (hh 9 0)) : CI B yX0_passHour cX0_passHour 4 (some .int) ({ frames := 5, cells := 0, slots := 0, locals := 155 }) [.ref (aB B (10 * j)), .ref (aB B 78)] (sH σ j hh) (fun r σ' => r = sGs (gC σ (hh 9 0)) hh (sN hh) ∧ ∃ stk, σ' = sH (up1 σ 39 stk) j (sHour (gC σ (hh 9 0)) hh)) := by
  refine MX.of2 RX0 (by decide) rfl ⟨rfl, rfl⟩ (Nat.le_of_ble_eq_true rfl) (by rfl) (fun k h hr hk => ?_)
  show XC B k (sH σ j hh) 0 [some (.ref (aB B (10 * j))), some (.ref (aB B 78)), none, none] []
  obtain ⟨hN12, hN⟩ := hi.n
  have loop : ∀ (f i : Nat) (stk : Nat → Int32), sN hh < f + i → i ≤ sN hh → XC B k (sH (up1 σ 39 stk) j (sDs (gC σ (hh 9 0)) hh i)) 4 [some (.ref (aB B (10 * j))), some (.ref (aB B 78)), some (.int (sGs (gC σ (hh 9 0)) hh i)), some (.int (nI i))] [] := by
    intro f
    induction f with
    | zero => intro i stk h1 h2; omega
    | succ f ih =>
      intro i stk h1 h2
      refine x_ild3 h dX0_passHour_4 ?_
      refine x_ald0 h dX0_passHour_5 ?_
      refine rh_X0_9 hj h dX0_passHour_6 ?_
      refine x_icmp_ge 27 h dX0_passHour_9 (by decide) (fun c9 => ?_) (fun c9 => ?_)
      · have c9 : sDs (gC σ (hh 9 0)) hh i 0 0 ≤ nI i := c9
        rw [sDs_f (by decide), hN] at c9
        have c9 := n_le (by omega) (by omega) c9
        have ei : i = sN hh := by omega
        subst ei
        have hi2 := hi.ds gC_GR (sN hh) (g := (gC σ (hh 9 0))) hN12
        refine x_ald0 h dX0_passHour_27 ?_
        refine vCI0 (10 * j) h cs_X0_67 (c_X0_draw B hj _ _) (obj_h hj) rfl ⟨rfl, rfl⟩ ⟨Nat.le_of_ble_eq_true rfl, Nat.le_of_ble_eq_true rfl⟩ (Nat.le_of_ble_eq_true rfl) dX0_passHour_28 (fun r28 s28 p28 => ?_)
        obtain ⟨rfl, rfl⟩ := p28
        refine x_bipush (v := 100) h dX0_passHour_31 rfl ?_
        refine x_irem h dX0_passHour_33 (by decide) ?_
        refine x_ald0 h dX0_passHour_34 ?_
        refine rh_X0_40 hj h dX0_passHour_35 ?_
        refine x_icmp_ge 74 h dX0_passHour_38 (by decide) (fun c38 => ?_) (fun c38 => ?_)
        · have c38 : ¬ jrem (dz (sDs (gC σ (hh 9 0)) hh (sN hh) 0 13)) 100 < sDs (gC σ (hh 9 0)) hh (sN hh) 0 9 := Int32.not_lt.mpr c38
          have el : sZ (sDs (gC σ (hh 9 0)) hh (sN hh)) = sLook (sDs (gC σ (hh 9 0)) hh (sN hh)) := (if_neg c38).symm
          rw [el]
          refine x_ald0 h dX0_passHour_74 ?_
          refine x_dup h dX0_passHour_75 rfl ?_
          refine rh_X0_49 hj h dX0_passHour_76 ?_
          refine x_iconst (v := 1) h dX0_passHour_79 rfl ?_
          refine x_iadd h dX0_passHour_80 ?_
          refine wh_X0_49 hj h dX0_passHour_81 ?_
          refine x_ild2 h dX0_passHour_84 ?_
          refine x_iret h hr ?_ dX0_passHour_85
          exact ⟨_, _, rfl, rfl, rfl, stk, rfl⟩
        · have c38 : jrem (dz (sDs (gC σ (hh 9 0)) hh (sN hh) 0 13)) 100 < sDs (gC σ (hh 9 0)) hh (sN hh) 0 9 := Int32.not_le.mp c38
          refine x_ald0 h dX0_passHour_41 ?_
          refine x_dup h dX0_passHour_42 rfl ?_
          refine rh_X0_46 hj h dX0_passHour_43 ?_
          refine x_iconst (v := 1) h dX0_passHour_46 rfl ?_
          refine x_iadd h dX0_passHour_47 ?_
          refine wh_X0_46 hj h dX0_passHour_48 ?_
          refine x_ald0 h dX0_passHour_51 ?_
          refine x_dup h dX0_passHour_52 rfl ?_
          refine rh_X0_43 hj h dX0_passHour_53 ?_
          refine x_ald0 h dX0_passHour_56 ?_
          refine x_ald0 h dX0_passHour_57 ?_
          refine vCI0 (10 * j) h cs_X0_67 (c_X0_draw B hj _ _) (obj_h hj) rfl ⟨rfl, rfl⟩ ⟨Nat.le_of_ble_eq_true rfl, Nat.le_of_ble_eq_true rfl⟩ (Nat.le_of_ble_eq_true rfl) dX0_passHour_58 (fun r58 s58 p58 => ?_)
          obtain ⟨rfl, rfl⟩ := p58
          refine x_bipush (v := 10) h dX0_passHour_61 rfl ?_
          refine x_irem h dX0_passHour_63 (by decide) ?_
          refine vCI1 (10 * j) h cs_X0_116 (c_X0_dancersAt B hj _ _ ((hi2.z.up0 (k := 11) (by decide)).z) _) (obj_h hj) rfl ⟨rfl, rfl⟩ ⟨Nat.le_of_ble_eq_true rfl, Nat.le_of_ble_eq_true rfl⟩ (Nat.le_of_ble_eq_true rfl) dX0_passHour_64 (fun r64 s64 p64 => ?_)
          obtain ⟨rfl, rfl⟩ := p64
          refine sCI1 h cs_X0_119 (c_J6_bitCount_0f7a4 B _ _) ⟨rfl, rfl⟩ ⟨Nat.le_of_ble_eq_true rfl, Nat.le_of_ble_eq_true rfl⟩ (Nat.le_of_ble_eq_true rfl) dX0_passHour_67 (fun r67 s67 p67 => ?_)
          obtain ⟨rfl, rfl⟩ := p67
          refine x_iadd h dX0_passHour_70 ?_
          refine wh_X0_43 hj h dX0_passHour_71 ?_
          have el : up2 (sZ (up2 (sZ (sDs (gC σ (hh 9 0)) hh (sN hh))) 0 11 (sDs (gC σ (hh 9 0)) hh (sN hh) 0 11 + 1))) 0 10 (sDs (gC σ (hh 9 0)) hh (sN hh) 0 10 + sPop (sAt (sDs (gC σ (hh 9 0)) hh (sN hh)) (jrem (dz (nz (sDs (gC σ (hh 9 0)) hh (sN hh) 0 13))) 10))) = sLook (sDs (gC σ (hh 9 0)) hh (sN hh)) := (if_pos c38).symm
          change XC B k (sH (up1 σ 39 stk) j (up2 (sZ (up2 (sZ (sDs (gC σ (hh 9 0)) hh (sN hh))) 0 11 (sDs (gC σ (hh 9 0)) hh (sN hh) 0 11 + 1))) 0 10 (sDs (gC σ (hh 9 0)) hh (sN hh) 0 10 + sPop (sAt (sDs (gC σ (hh 9 0)) hh (sN hh)) (jrem (dz (nz (sDs (gC σ (hh 9 0)) hh (sN hh) 0 13))) 10))))) 74 _ _
          rw [el]
          refine x_ald0 h dX0_passHour_74 ?_
          refine x_dup h dX0_passHour_75 rfl ?_
          refine rh_X0_49 hj h dX0_passHour_76 ?_
          refine x_iconst (v := 1) h dX0_passHour_79 rfl ?_
          refine x_iadd h dX0_passHour_80 ?_
          refine wh_X0_49 hj h dX0_passHour_81 ?_
          refine x_ild2 h dX0_passHour_84 ?_
          refine x_iret h hr ?_ dX0_passHour_85
          exact ⟨_, _, rfl, rfl, rfl, stk, rfl⟩
      · have c9 : ¬ sDs (gC σ (hh 9 0)) hh i 0 0 ≤ nI i := c9
        rw [sDs_f (by decide), hN] at c9
        have c9 := n_nle (by omega) (by omega) c9
        have hi1 := hi.ds gC_GR i (g := (gC σ (hh 9 0))) (by omega)
        refine x_ild2 h dX0_passHour_12 ?_
        refine x_ald0 h dX0_passHour_13 ?_
        refine x_ild3 h dX0_passHour_14 ?_
        refine x_ald1 h dX0_passHour_15 ?_
        refine vCI2 (10 * j) h cs_X0_113 (c_X0_walk B hj _ _ hi1 (by rw [sDs_f (by decide)]; exact CT_39 hT) i (by omega)) (obj_h hj) rfl ⟨rfl, rfl⟩ ⟨Nat.le_of_ble_eq_true rfl, Nat.le_of_ble_eq_true rfl⟩ (Nat.le_of_ble_eq_true rfl) dX0_passHour_16 (fun r16 s16 p16 => ?_)
        rw [sDs_f (by decide), gC_39 hT] at p16
        obtain ⟨rfl, stk2, rfl⟩ := p16
        rw [up1_up1]
        change XC B k (sH (up1 σ 39 stk2) j (sDs (gC σ (hh 9 0)) hh (i + 1))) 19 _ _
        refine x_iadd h dX0_passHour_19 ?_
        refine x_ist2 h dX0_passHour_20 (by rw [hk]; decide) rfl ?_
        refine x_inc3 (y := 1) h dX0_passHour_21 (by rw [hk]; decide) rfl rfl ?_
        refine x_goto 4 h dX0_passHour_24 (by decide) ?_
        change XC B k (sH (up1 σ 39 stk2) j (sDs (gC σ (hh 9 0)) hh (i + 1))) 4 [_, _, some (.int (sGs (gC σ (hh 9 0)) hh (i + 1))), some (.int (nI i + 1))] []
        rw [nI_1 i]
        exact ih (i + 1) stk2 (by omega) (by omega)
  have loop := loop (sN hh + 1) 0 (σ 39) (by omega) (by omega)
  rw [up1_self] at loop
  refine x_iconst (v := 0) h dX0_passHour_0 rfl ?_
  refine x_ist2 h dX0_passHour_1 (by rw [hk]; decide) rfl ?_
  refine x_iconst (v := 0) h dX0_passHour_2 rfl ?_
  refine x_ist3 h dX0_passHour_3 (by rw [hk]; decide) rfl ?_
  exact loop
theorem sLook_f {h : HT} {f : Nat} (hf : f ≠ 0) : sLook h f = h f := by
  unfold sLook
  split
  · rw [up2_n hf]
    unfold sZ
    rw [up2_n hf, up2_n hf, up2_n hf]
  · unfold sZ
    rw [up2_n hf]
theorem sHour_f {g : WT} {h : HT} {f : Nat} (hf : f ≠ 0 ∧ f ≠ 2 ∧ f ≠ 3 ∧ f ≠ 5 ∧ f ≠ 8) : sHour g h f = h f := by
  unfold sHour
  rw [up2_n hf.1, sLook_f hf.1, sDs_f hf.2]
theorem sHours_f {g : WT} {h : HT} {f : Nat} (hf : f ≠ 0 ∧ f ≠ 2 ∧ f ≠ 3 ∧ f ≠ 5 ∧ f ≠ 8) : ∀ n, sHours g h n f = h f
  | 0 => rfl
  | n + 1 => by
    unfold sHours
    rw [sHour_f hf, sHours_f hf n]
theorem sHours_9 {g : WT} {h : HT} {n : Nat} : sHours g h n 9 = h 9 := sHours_f (by decide) n
set_option maxRecDepth 100000 in
set_option maxHeartbeats 4000000 in
theorem c_X0_passHours (B : BT) {j : Nat} (hj : j < 3) (σ : Nat → Nat → Int32) (hh : HT) (hi : HI hh) (hT : CT σ (hh 9 0)) (n : Nat) (hn : n < 2 ^ 30) : CI B yX0_passHours cX0_passHours 5 (some .int) ({ frames := 6, cells := 0, slots := 0, locals := 178 }) [.ref (aB B (10 * j)), .int (nI n), .ref (aB B 78)] (sH σ j hh) (fun r σ' => r = sGoneH (gC σ (hh 9 0)) hh n ∧ ∃ stk, σ' = sH (up1 σ 39 stk) j (sHours (gC σ (hh 9 0)) hh n)) := by
  refine MX.of2 RX0 (by decide) rfl ⟨rfl, rfl⟩ (Nat.le_of_ble_eq_true rfl) (by rfl) (fun k h hr hk => ?_)
  show XC B k (sH σ j hh) 0 [some (.ref (aB B (10 * j))), some (.int (nI n)), some (.ref (aB B 78)), none, none] []
  have loop : ∀ (f i : Nat) (stk : Nat → Int32), n < f + i → i ≤ n → XC B k (sH (up1 σ 39 stk) j (sHours (gC σ (hh 9 0)) hh i)) 5 [some (.ref (aB B (10 * j))), some (.int (nI n)), some (.ref (aB B 78)), some (.int (sGoneH (gC σ (hh 9 0)) hh i)), some (.int (nI i))] [] := by
    intro f
    induction f with
    | zero => intro i stk h1 h2; omega
    | succ f ih =>
      intro i stk h1 h2
      refine x_ild4 h dX0_passHours_5 ?_
      refine x_ild1 h dX0_passHours_7 ?_
      refine x_icmp_ge 25 h dX0_passHours_8 (by decide) (fun c8 => ?_) (fun c8 => ?_)
      · have c8 := n_le (by omega) (by omega) c8
        have ei : i = n := by omega
        subst ei
        refine x_ild3 h dX0_passHours_25 ?_
        refine x_iret h hr ?_ dX0_passHours_26
        exact ⟨_, _, rfl, rfl, rfl, stk, rfl⟩
      · have c8 := n_nle (by omega) (by omega) c8
        have hi1 := hi.hours gC_GR i (g := (gC σ (hh 9 0)))
        refine x_ild3 h dX0_passHours_11 ?_
        refine x_ald0 h dX0_passHours_12 ?_
        refine x_ald2 h dX0_passHours_13 ?_
        refine vCI1 (10 * j) h cs_X0_124 (c_X0_passHour B hj _ _ hi1 (by rw [sHours_9]; exact CT_39 hT)) (obj_h hj) rfl ⟨rfl, rfl⟩ ⟨Nat.le_of_ble_eq_true rfl, Nat.le_of_ble_eq_true rfl⟩ (Nat.le_of_ble_eq_true rfl) dX0_passHours_14 (fun r14 s14 p14 => ?_)
        rw [sHours_9, gC_39 hT] at p14
        obtain ⟨rfl, stk2, rfl⟩ := p14
        rw [up1_up1]
        change XC B k (sH (up1 σ 39 stk2) j (sHours (gC σ (hh 9 0)) hh (i + 1))) 17 _ _
        refine x_iadd h dX0_passHours_17 ?_
        refine x_ist3 h dX0_passHours_18 (by rw [hk]; decide) rfl ?_
        refine x_inc4 (y := 1) h dX0_passHours_19 (by rw [hk]; decide) rfl rfl ?_
        refine x_goto 5 h dX0_passHours_22 (by decide) ?_
        change XC B k (sH (up1 σ 39 stk2) j (sHours (gC σ (hh 9 0)) hh (i + 1))) 5 [_, _, _, some (.int (sGoneH (gC σ (hh 9 0)) hh (i + 1))), some (.int (nI i + 1))] []
        rw [nI_1 i]
        exact ih (i + 1) stk2 (by omega) (by omega)
  have loop := loop (n + 1) 0 (σ 39) (by omega) (by omega)
  rw [up1_self] at loop
  refine x_iconst (v := 0) h dX0_passHours_0 rfl ?_
  refine x_ist3 h dX0_passHours_1 (by rw [hk]; decide) rfl ?_
  refine x_iconst (v := 0) h dX0_passHours_2 rfl ?_
  refine x_ist4 h dX0_passHours_3 (by rw [hk]; decide) rfl ?_
  exact loop
