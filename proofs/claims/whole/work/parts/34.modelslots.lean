/-! slots -/
theorem hP1s {σ : ST} {r : Nat} {x : Int32} (h : RS σ r) : bI (¬ x < 0 ∧ ¬ σ (54 + 2 * r) 1 - 1 < x) = bI (hasP σ r x 1 = true) := hP1 h
theorem jrem_m1 (x : Int32) : jrem x (-1) = 0 := by
  unfold jrem
  rw [show x / -1 = -x from Int32.toInt_inj.mp (by rw [Int32.toInt_div, show (-1 : Int32).toInt = -1 from rfl, Int.tdiv_neg, Int.tdiv_one, Int32.toInt_neg]), Int32.mul_neg, Int32.mul_one, Int32.neg_neg, Int32.sub_self]
set_option maxRecDepth 100000 in
set_option maxHeartbeats 4000000 in
theorem c_X8_ask (B : BT) (μ : Nat → Nat → Int32) (δ : Nat → Int64) (σ : ST) (hL : SlR σ μ) (x kd : Int32) : MI B yX8_ask cX8_ask 3 (some .int) ({ frames := 2, cells := 0, slots := 0, locals := 42 }) [.ref (aB B 0), .int x, .int kd] μ δ (fun r μ' δ' => r = aAsk σ x kd ∧ μ' = μ ∧ δ' = δ) := by
  refine MX.of2 RX8 (by decide) rfl ⟨rfl, rfl⟩ (Nat.le_of_ble_eq_true rfl) (by rfl) (fun k ho hr hk => ?_)
  show XM B k μ δ 0 [some (.ref (aB B 0)), some (.int x), some (.int kd)] []
  refine x_ild1 ho dX8_ask_0 ?_
  refine sMI1 ho cs_X8_260 (c_X8_isSlot B _ _ _) ⟨rfl, rfl⟩ ⟨Nat.le_of_ble_eq_true rfl, Nat.le_of_ble_eq_true rfl⟩ (Nat.le_of_ble_eq_true rfl) dX8_ask_1 (fun r1 s1 t1 p1 => ?_)
  obtain ⟨rfl, rfl, rfl⟩ := p1
  refine x_if_eq 16 ho dX8_ask_4 (by decide) (fun c4 => ?_) (fun c4 => ?_)
  · have c4 := bI_0.mp c4
    refine x_ldc ho kc_X8_94 dX8_ask_16 ?_
    refine x_iret ho hr ?_ dX8_ask_18
    first | (refine ⟨_, _, _, rfl, rfl, ?_, rfl, rfl⟩; unfold aAsk; rw [if_neg (fun z => c4 z.1)]) | (refine ⟨_, _, _, rfl, rfl, ?_, rfl, rfl⟩; unfold aAsk; rw [if_neg (fun z => c13 z.2)])
  · have c4 := bI_n.mp c4
    obtain ⟨i, hi5, rfl⟩ := isL_of c4
    obtain ⟨l18, l1, l2, l3, lsz⟩ := hL i hi5
    refine x_ild2 ho dX8_ask_7 ?_
    refine x_iconst (v := 0) ho dX8_ask_8 rfl ?_
    refine x_iconst (v := 5) ho dX8_ask_9 rfl ?_
    refine sMI3 ho cs_X8_82 (c_X8_in B _ _ _ _ _) ⟨rfl, rfl⟩ ⟨Nat.le_of_ble_eq_true rfl, Nat.le_of_ble_eq_true rfl⟩ (Nat.le_of_ble_eq_true rfl) dX8_ask_10 (fun r10 s10 t10 p10 => ?_)
    obtain ⟨rfl, rfl, rfl⟩ := p10
    rw [mK]
    refine x_if_ne 19 ho dX8_ask_13 (by decide) (fun c13 => ?_) (fun c13 => ?_)
    · have c13 := bI_n.mp c13
      refine x_ald0 ho dX8_ask_19 ?_
      refine r_X8_64 ho dX8_ask_20 ?_
      refine x_ild1 ho dX8_ask_23 ?_
      refine xm_ialdN (i) (rfl) 18 (by show i < 5; omega) ho (by decide) (fun _ => rfl) dX8_ask_24 ?_
      rw [l18]
      refine x_if_ne 31 ho dX8_ask_25 (by decide) (fun c25 => ?_) (fun c25 => ?_)
      · refine x_ald0 ho dX8_ask_31 ?_
        refine r_X8_64 ho dX8_ask_32 ?_
        refine x_ild1 ho dX8_ask_35 ?_
        refine xm_ialdN (i) (rfl) 18 (by show i < 5; omega) ho (by decide) (fun _ => rfl) dX8_ask_36 ?_
        rw [l18]
        refine x_iconst (v := 1) ho dX8_ask_37 rfl ?_
        refine x_icmp_ne 63 ho dX8_ask_38 (by decide) (fun c38 => ?_) (fun c38 => ?_)
        · refine x_ldc ho kc_X8_137 dX8_ask_63 ?_
          refine x_iret ho hr ?_ dX8_ask_65
          first | (refine ⟨_, _, _, rfl, rfl, ?_, rfl, rfl⟩; unfold aAsk; rw [if_pos ⟨isL_n hi5, c13⟩, ix_n (n := i) (by omega), if_neg c25, if_pos (And.intro c38 c51)]) | (refine ⟨_, _, _, rfl, rfl, ?_, rfl, rfl⟩; unfold aAsk; rw [if_pos ⟨isL_n hi5, c13⟩, ix_n (n := i) (by omega), if_neg c25, if_neg (fun z => c51 z.2)]) | (refine ⟨_, _, _, rfl, rfl, ?_, rfl, rfl⟩; unfold aAsk; rw [if_pos ⟨isL_n hi5, c13⟩, ix_n (n := i) (by omega), if_neg c25, if_neg (fun z => c38 z.1)])
        · refine x_ald0 ho dX8_ask_41 ?_
          refine r_X8_67 ho dX8_ask_42 ?_
          refine x_ild1 ho dX8_ask_45 ?_
          refine xm_ialdN (i) (rfl) 19 (by show i < 5; omega) ho (by decide) (fun _ => rfl) dX8_ask_46 ?_
          rw [(l1 c38).1]
          refine x_ild2 ho dX8_ask_47 ?_
          refine sMI2 ho cs_X8_134 (c_X8_isUnder B _ _ _ _) ⟨rfl, rfl⟩ ⟨Nat.le_of_ble_eq_true rfl, Nat.le_of_ble_eq_true rfl⟩ (Nat.le_of_ble_eq_true rfl) dX8_ask_48 (fun r48 s48 t48 p48 => ?_)
          obtain ⟨rfl, rfl, rfl⟩ := p48
          refine x_if_eq 63 ho dX8_ask_51 (by decide) (fun c51 => ?_) (fun c51 => ?_)
          · have c51 := bI_0.mp c51
            refine x_ldc ho kc_X8_137 dX8_ask_63 ?_
            refine x_iret ho hr ?_ dX8_ask_65
            first | (refine ⟨_, _, _, rfl, rfl, ?_, rfl, rfl⟩; unfold aAsk; rw [if_pos ⟨isL_n hi5, c13⟩, ix_n (n := i) (by omega), if_neg c25, if_pos (And.intro c38 c51)]) | (refine ⟨_, _, _, rfl, rfl, ?_, rfl, rfl⟩; unfold aAsk; rw [if_pos ⟨isL_n hi5, c13⟩, ix_n (n := i) (by omega), if_neg c25, if_neg (fun z => c51 z.2)]) | (refine ⟨_, _, _, rfl, rfl, ?_, rfl, rfl⟩; unfold aAsk; rw [if_pos ⟨isL_n hi5, c13⟩, ix_n (n := i) (by omega), if_neg c25, if_neg (fun z => c38 z.1)])
          · have c51 := bI_n.mp c51
            refine x_ald0 ho dX8_ask_54 ?_
            refine r_X8_70 ho dX8_ask_55 ?_
            refine x_ild1 ho dX8_ask_58 ?_
            refine xm_ialdN (i) (rfl) 20 (by show i < 5; omega) ho (by decide) (fun _ => rfl) dX8_ask_59 ?_
            rw [(l1 c38).2]
            refine x_goto 65 ho dX8_ask_60 (by decide) ?_
            refine x_iret ho hr ?_ dX8_ask_65
            first | (refine ⟨_, _, _, rfl, rfl, ?_, rfl, rfl⟩; unfold aAsk; rw [if_pos ⟨isL_n hi5, c13⟩, ix_n (n := i) (by omega), if_neg c25, if_pos (And.intro c38 c51)]) | (refine ⟨_, _, _, rfl, rfl, ?_, rfl, rfl⟩; unfold aAsk; rw [if_pos ⟨isL_n hi5, c13⟩, ix_n (n := i) (by omega), if_neg c25, if_neg (fun z => c51 z.2)]) | (refine ⟨_, _, _, rfl, rfl, ?_, rfl, rfl⟩; unfold aAsk; rw [if_pos ⟨isL_n hi5, c13⟩, ix_n (n := i) (by omega), if_neg c25, if_neg (fun z => c38 z.1)])
      · refine x_ldc ho kc_X8_187 dX8_ask_28 ?_
        refine x_iret ho hr ?_ dX8_ask_30
        first | (refine ⟨_, _, _, rfl, rfl, ?_, rfl, rfl⟩; unfold aAsk; rw [if_pos ⟨isL_n hi5, c13⟩, ix_n (n := i) (by omega), if_pos c25])
    · have c13 := bI_0.mp c13
      refine x_ldc ho kc_X8_94 dX8_ask_16 ?_
      refine x_iret ho hr ?_ dX8_ask_18
      first | (refine ⟨_, _, _, rfl, rfl, ?_, rfl, rfl⟩; unfold aAsk; rw [if_neg (fun z => c4 z.1)]) | (refine ⟨_, _, _, rfl, rfl, ?_, rfl, rfl⟩; unfold aAsk; rw [if_neg (fun z => c13 z.2)])
set_option maxRecDepth 100000 in
set_option maxHeartbeats 4000000 in
theorem c_X8_item (B : BT) (μ : Nat → Nat → Int32) (δ : Nat → Int64) (σ : ST) (hL : SlR σ μ) (x p : Int32) : MI B yX8_item cX8_item 4 (some .int) ({ frames := 2, cells := 0, slots := 0, locals := 42 }) [.ref (aB B 0), .int x, .int p] μ δ (fun r μ' δ' => r = aItem σ x p ∧ μ' = μ ∧ δ' = δ) := by
  refine MX.of2 RX8 (by decide) rfl ⟨rfl, rfl⟩ (Nat.le_of_ble_eq_true rfl) (by rfl) (fun k ho hr hk => ?_)
  show XM B k μ δ 0 [some (.ref (aB B 0)), some (.int x), some (.int p), none] []
  refine x_ild1 ho dX8_item_0 ?_
  refine sMI1 ho cs_X8_260 (c_X8_isSlot B _ _ _) ⟨rfl, rfl⟩ ⟨Nat.le_of_ble_eq_true rfl, Nat.le_of_ble_eq_true rfl⟩ (Nat.le_of_ble_eq_true rfl) dX8_item_1 (fun r1 s1 t1 p1 => ?_)
  obtain ⟨rfl, rfl, rfl⟩ := p1
  refine x_if_ne 10 ho dX8_item_4 (by decide) (fun c4 => ?_) (fun c4 => ?_)
  · have c4 := bI_n.mp c4
    obtain ⟨i, hi5, rfl⟩ := isL_of c4
    obtain ⟨l18, l1, l2, l3, lsz⟩ := hL i hi5
    refine x_ald0 ho dX8_item_10 ?_
    refine r_X8_64 ho dX8_item_11 ?_
    refine x_ild1 ho dX8_item_14 ?_
    refine xm_ialdN (i) (rfl) 18 (by show i < 5; omega) ho (by decide) (fun _ => rfl) dX8_item_15 ?_
    rw [l18]
    refine x_if_ne 22 ho dX8_item_16 (by decide) (fun c16 => ?_) (fun c16 => ?_)
    · refine x_ald0 ho dX8_item_22 ?_
      refine r_X8_64 ho dX8_item_23 ?_
      refine x_ild1 ho dX8_item_26 ?_
      refine xm_ialdN (i) (rfl) 18 (by show i < 5; omega) ho (by decide) (fun _ => rfl) dX8_item_27 ?_
      rw [l18]
      refine x_iconst (v := 2) ho dX8_item_28 rfl ?_
      refine x_icmp_eq 35 ho dX8_item_29 (by decide) (fun c29 => ?_) (fun c29 => ?_)
      · refine x_ild2 ho dX8_item_35 ?_
        refine x_iconst (v := 0) ho dX8_item_36 rfl ?_
        refine x_ald0 ho dX8_item_37 ?_
        refine r_X8_67 ho dX8_item_38 ?_
        refine x_ild1 ho dX8_item_41 ?_
        refine xm_ialdN (i) (rfl) 19 (by show i < 5; omega) ho (by decide) (fun _ => rfl) dX8_item_42 ?_
        rw [(l2 c29).1]
        refine x_iconst (v := 1) ho dX8_item_43 rfl ?_
        refine x_isub ho dX8_item_44 ?_
        refine sMI3 ho cs_X8_82 (c_X8_in B _ _ _ _ _) ⟨rfl, rfl⟩ ⟨Nat.le_of_ble_eq_true rfl, Nat.le_of_ble_eq_true rfl⟩ (Nat.le_of_ble_eq_true rfl) dX8_item_45 (fun r45 s45 t45 p45 => ?_)
        obtain ⟨rfl, rfl, rfl⟩ := p45
        rw [hP1s lsz]
        refine x_if_ne 55 ho dX8_item_48 (by decide) (fun c48 => ?_) (fun c48 => ?_)
        · have c48 := bI_n.mp c48
          obtain ⟨j, hj, rfl⟩ := hasP_1 c48 lsz
          refine x_ald0 ho dX8_item_55 ?_
          refine r_X8_73 ho dX8_item_56 ?_
          refine x_bipush (v := 24) ho dX8_item_59 rfl ?_
          refine x_ild1 ho dX8_item_61 ?_
          refine x_imul ho dX8_item_62 ?_
          refine x_ild2 ho dX8_item_63 ?_
          refine x_iadd ho dX8_item_64 ?_
          refine xm_ialdN (24 * i + j) (ix24 i j) 21 (by show 24 * i + j < 120; omega) ho (by decide) (fun _ => rfl) dX8_item_65 ?_
          rw [(l2 c29).2 j hj]
          refine x_ist3 ho dX8_item_66 (by rw [hk]; decide) rfl ?_
          refine x_ild3 ho dX8_item_67 ?_
          refine x_ldc ho kc_X8_150 dX8_item_68 ?_
          refine x_icmp_ne 78 ho dX8_item_70 (by decide) (fun c70 => ?_) (fun c70 => ?_)
          · refine x_ild3 ho dX8_item_78 ?_
            refine x_iret ho hr ?_ dX8_item_79
            first | (refine ⟨_, _, _, rfl, rfl, ?_, rfl, rfl⟩; unfold aItem; rw [if_pos (isL_n hi5), ix_n (n := i) (by omega), if_neg c16, if_pos c29, if_pos c48, ix_n (n := j) (by omega), if_pos c70]) | (refine ⟨_, _, _, rfl, rfl, ?_, rfl, rfl⟩; unfold aItem; rw [if_pos (isL_n hi5), ix_n (n := i) (by omega), if_neg c16, if_pos c29, if_pos c48, ix_n (n := j) (by omega), if_neg c70])
          · refine x_ldc ho kc_X8_137 dX8_item_73 ?_
            refine x_goto 79 ho dX8_item_75 (by decide) ?_
            refine x_iret ho hr ?_ dX8_item_79
            first | (refine ⟨_, _, _, rfl, rfl, ?_, rfl, rfl⟩; unfold aItem; rw [if_pos (isL_n hi5), ix_n (n := i) (by omega), if_neg c16, if_pos c29, if_pos c48, ix_n (n := j) (by omega), if_pos c70]) | (refine ⟨_, _, _, rfl, rfl, ?_, rfl, rfl⟩; unfold aItem; rw [if_pos (isL_n hi5), ix_n (n := i) (by omega), if_neg c16, if_pos c29, if_pos c48, ix_n (n := j) (by omega), if_neg c70])
        · have c48 := bI_0.mp c48
          refine x_ldcw ho kc_X8_257 dX8_item_51 ?_
          refine x_iret ho hr ?_ dX8_item_54
          first | (refine ⟨_, _, _, rfl, rfl, ?_, rfl, rfl⟩; unfold aItem; rw [if_pos (isL_n hi5), ix_n (n := i) (by omega), if_neg c16, if_pos c29, if_neg c48])
      · refine x_ldc ho kc_X8_137 dX8_item_32 ?_
        refine x_iret ho hr ?_ dX8_item_34
        first | (refine ⟨_, _, _, rfl, rfl, ?_, rfl, rfl⟩; unfold aItem; rw [if_pos (isL_n hi5), ix_n (n := i) (by omega), if_neg c16, if_neg c29])
    · refine x_ldc ho kc_X8_187 dX8_item_19 ?_
      refine x_iret ho hr ?_ dX8_item_21
      first | (refine ⟨_, _, _, rfl, rfl, ?_, rfl, rfl⟩; unfold aItem; rw [if_pos (isL_n hi5), ix_n (n := i) (by omega), if_pos c16])
  · have c4 := bI_0.mp c4
    refine x_ldc ho kc_X8_94 dX8_item_7 ?_
    refine x_iret ho hr ?_ dX8_item_9
    first | (refine ⟨_, _, _, rfl, rfl, ?_, rfl, rfl⟩; unfold aItem; rw [if_neg c4])
set_option maxRecDepth 100000 in
set_option maxHeartbeats 4000000 in
theorem c_X8_rest (B : BT) (μ : Nat → Nat → Int32) (δ : Nat → Int64) (σ : ST) (hL : SlR σ μ) (x n : Int32) : MI B yX8_rest cX8_rest 3 (some .int) ({ frames := 2, cells := 0, slots := 0, locals := 42 }) [.ref (aB B 0), .int x, .int n] μ δ (fun r μ' δ' => r = aRest σ x n ∧ μ' = μ ∧ δ' = δ) := by
  refine MX.of2 RX8 (by decide) rfl ⟨rfl, rfl⟩ (Nat.le_of_ble_eq_true rfl) (by rfl) (fun k ho hr hk => ?_)
  show XM B k μ δ 0 [some (.ref (aB B 0)), some (.int x), some (.int n)] []
  refine x_ild1 ho dX8_rest_0 ?_
  refine sMI1 ho cs_X8_260 (c_X8_isSlot B _ _ _) ⟨rfl, rfl⟩ ⟨Nat.le_of_ble_eq_true rfl, Nat.le_of_ble_eq_true rfl⟩ (Nat.le_of_ble_eq_true rfl) dX8_rest_1 (fun r1 s1 t1 p1 => ?_)
  obtain ⟨rfl, rfl, rfl⟩ := p1
  refine x_if_ne 10 ho dX8_rest_4 (by decide) (fun c4 => ?_) (fun c4 => ?_)
  · have c4 := bI_n.mp c4
    obtain ⟨i, hi5, rfl⟩ := isL_of c4
    obtain ⟨l18, l1, l2, l3, lsz⟩ := hL i hi5
    refine x_ald0 ho dX8_rest_10 ?_
    refine r_X8_64 ho dX8_rest_11 ?_
    refine x_ild1 ho dX8_rest_14 ?_
    refine xm_ialdN (i) (rfl) 18 (by show i < 5; omega) ho (by decide) (fun _ => rfl) dX8_rest_15 ?_
    rw [l18]
    refine x_if_ne 22 ho dX8_rest_16 (by decide) (fun c16 => ?_) (fun c16 => ?_)
    · refine x_ald0 ho dX8_rest_22 ?_
      refine r_X8_64 ho dX8_rest_23 ?_
      refine x_ild1 ho dX8_rest_26 ?_
      refine xm_ialdN (i) (rfl) 18 (by show i < 5; omega) ho (by decide) (fun _ => rfl) dX8_rest_27 ?_
      rw [l18]
      refine x_iconst (v := 3) ho dX8_rest_28 rfl ?_
      refine x_icmp_eq 35 ho dX8_rest_29 (by decide) (fun c29 => ?_) (fun c29 => ?_)
      · refine x_ild2 ho dX8_rest_35 ?_
        refine x_if_ne 45 ho dX8_rest_36 (by decide) (fun c36 => ?_) (fun c36 => ?_)
        · refine x_ild2 ho dX8_rest_45 ?_
          refine x_iconst (v := (-1)) ho dX8_rest_46 rfl ?_
          refine x_icmp_ne 54 ho dX8_rest_47 (by decide) (fun c47 => ?_) (fun c47 => ?_)
          · refine x_ald0 ho dX8_rest_54 ?_
            refine r_X8_67 ho dX8_rest_55 ?_
            refine x_ild1 ho dX8_rest_58 ?_
            refine xm_ialdN (i) (rfl) 19 (by show i < 5; omega) ho (by decide) (fun _ => rfl) dX8_rest_59 ?_
            rw [l3 c29]
            refine x_ild2 ho dX8_rest_60 ?_
            refine x_irem ho dX8_rest_61 (c36) ?_
            refine x_iret ho hr ?_ dX8_rest_62
            first | (refine ⟨_, _, _, rfl, rfl, ?_, rfl, rfl⟩; unfold aRest; rw [if_pos (isL_n hi5), ix_n (n := i) (by omega), if_neg c16, if_pos c29, if_pos c36]) | (refine ⟨_, _, _, rfl, rfl, ?_, rfl, rfl⟩; unfold aRest; rw [if_pos (isL_n hi5), ix_n (n := i) (by omega), if_neg c16, if_pos c29, if_neg c36, c47, jrem_m1]) | (refine ⟨_, _, _, rfl, rfl, ?_, rfl, rfl⟩; unfold aRest; rw [if_pos (isL_n hi5), ix_n (n := i) (by omega), if_neg c16, if_pos c29, if_neg c36])
          · refine x_iconst (v := 0) ho dX8_rest_50 rfl ?_
            refine x_goto 62 ho dX8_rest_51 (by decide) ?_
            refine x_iret ho hr ?_ dX8_rest_62
            first | (refine ⟨_, _, _, rfl, rfl, ?_, rfl, rfl⟩; unfold aRest; rw [if_pos (isL_n hi5), ix_n (n := i) (by omega), if_neg c16, if_pos c29, if_pos c36]) | (refine ⟨_, _, _, rfl, rfl, ?_, rfl, rfl⟩; unfold aRest; rw [if_pos (isL_n hi5), ix_n (n := i) (by omega), if_neg c16, if_pos c29, if_neg c36, c47, jrem_m1]) | (refine ⟨_, _, _, rfl, rfl, ?_, rfl, rfl⟩; unfold aRest; rw [if_pos (isL_n hi5), ix_n (n := i) (by omega), if_neg c16, if_pos c29, if_neg c36])
        · refine x_ldcw ho kc_X8_263 dX8_rest_39 ?_
          refine x_goto 62 ho dX8_rest_42 (by decide) ?_
          refine x_iret ho hr ?_ dX8_rest_62
          first | (refine ⟨_, _, _, rfl, rfl, ?_, rfl, rfl⟩; unfold aRest; rw [if_pos (isL_n hi5), ix_n (n := i) (by omega), if_neg c16, if_pos c29, if_pos c36]) | (refine ⟨_, _, _, rfl, rfl, ?_, rfl, rfl⟩; unfold aRest; rw [if_pos (isL_n hi5), ix_n (n := i) (by omega), if_neg c16, if_pos c29, if_neg c36, c47, jrem_m1]) | (refine ⟨_, _, _, rfl, rfl, ?_, rfl, rfl⟩; unfold aRest; rw [if_pos (isL_n hi5), ix_n (n := i) (by omega), if_neg c16, if_pos c29, if_neg c36])
      · refine x_ldc ho kc_X8_137 dX8_rest_32 ?_
        refine x_iret ho hr ?_ dX8_rest_34
        first | (refine ⟨_, _, _, rfl, rfl, ?_, rfl, rfl⟩; unfold aRest; rw [if_pos (isL_n hi5), ix_n (n := i) (by omega), if_neg c16, if_neg c29])
    · refine x_ldc ho kc_X8_187 dX8_rest_19 ?_
      refine x_iret ho hr ?_ dX8_rest_21
      first | (refine ⟨_, _, _, rfl, rfl, ?_, rfl, rfl⟩; unfold aRest; rw [if_pos (isL_n hi5), ix_n (n := i) (by omega), if_pos c16])
  · have c4 := bI_0.mp c4
    refine x_ldc ho kc_X8_94 dX8_rest_7 ?_
    refine x_iret ho hr ?_ dX8_rest_9
    first | (refine ⟨_, _, _, rfl, rfl, ?_, rfl, rfl⟩; unfold aRest; rw [if_neg c4])
def prH (σ : ST) (h : HT) (t : Nat) : (Nat → Int32) × Int32 := prF (σ (54 + 2 * t + 1)) (h 6) (min 10 (ix (σ (54 + 2 * t) 1)))
def mPour (σ : ST) (h : HT) (x : Int32) : Int32 × HT := if isQ x = true then (if σ (54 + 2 * ix x) 0 = -1 then (-1000000011, h) else ((prH σ h (ix x)).2, up1 h 6 (prH σ h (ix x)).1)) else (-1000000001, h)
def mReads (σ : ST) (h : HT) (x : Int32) : Int32 := if isQ x = true then (if σ (54 + 2 * ix x) 0 = -1 then -1000000011 else rdL (σ (54 + 2 * ix x + 1)) (h 8) (ix (σ (54 + 2 * ix x) 1)) 0) else -1000000001
theorem upd_self {f : Nat → Int32} {i : Nat} : upd f i (f i) = f := by
  funext j
  unfold upd
  by_cases e : j = i
  · rw [if_pos e, e]
  · rw [if_neg e]
set_option maxRecDepth 100000 in
set_option maxHeartbeats 4000000 in
theorem c_X8_pour (B : BT) (μ : Nat → Nat → Int32) (δ : Nat → Int64) (h : HT) (T : Nat → Int32) (σ : ST) (hS : ShR σ μ) (x : Int32) : MI B yX8_pour cX8_pour 6 (some .int) ({ frames := 2, cells := 0, slots := 0, locals := 42 }) [.ref (aB B 0), .int x] (up1 μ 1 (en h T)) δ (fun r μ' δ' => r = (mPour σ h x).1 ∧ μ' = up1 μ 1 (en (mPour σ h x).2 T) ∧ δ' = δ) := by
  refine MX.of2 RX8 (by decide) rfl ⟨rfl, rfl⟩ (Nat.le_of_ble_eq_true rfl) (by rfl) (fun k ho hr hk => ?_)
  show XM B k (up1 μ 1 (en h T)) δ 0 [some (.ref (aB B 0)), some (.int x), none, none, none, none] []
  refine x_ild1 ho dX8_pour_0 ?_
  refine sMI1 ho cs_X8_184 (c_X8_isSheet B _ _ _) ⟨rfl, rfl⟩ ⟨Nat.le_of_ble_eq_true rfl, Nat.le_of_ble_eq_true rfl⟩ (Nat.le_of_ble_eq_true rfl) dX8_pour_1 (fun r1 s1 t1 p1 => ?_)
  obtain ⟨rfl, rfl, e_⟩ := p1
  subst t1
  refine x_if_ne 10 ho dX8_pour_4 (by decide) (fun c4 => ?_) (fun c4 => ?_)
  · have c4 := bI_n.mp c4
    obtain ⟨r, hr4, rfl⟩ := isQ_of c4
    obtain ⟨s15, s16, s17, ssrt, ⟨m, hm24, em⟩, spl⟩ := hS r hr4
    refine x_ald0 ho dX8_pour_10 ?_
    refine r_X8_55 ho dX8_pour_11 ?_
    refine x_ild1 ho dX8_pour_14 ?_
    refine xm_ialdN (r) (rfl) 15 (by show r < 4; omega) ho (by decide) (fun _ => rfl) dX8_pour_15 ?_
    change XM B k _ _ _ _ (.int (μ 15 (r)) :: _)
    rw [s15]
    refine x_if_ge 22 ho dX8_pour_16 (by decide) (fun c16 => ?_) (fun c16 => ?_)
    · have ne : ¬ σ (54 + 2 * r) 0 = -1 := fun e => by rw [e] at c16; exact absurd c16 (by decide)
      have e0 : mPour σ h (nI r) = ((prF (σ (54 + 2 * r + 1)) (h 6) (min 10 m)).2, up1 h 6 (prF (σ (54 + 2 * r + 1)) (h 6) (min 10 m)).1) := by
        unfold mPour prH
        rw [if_pos (isQ_n hr4), ix_n (n := r) (by omega), if_neg ne, em, ix_n (n := m) (by omega)]
      refine x_iconst (v := 0) ho dX8_pour_22 rfl ?_
      refine x_ist2 ho dX8_pour_23 (by rw [hk]; decide) rfl ?_
      refine x_iconst (v := 0) ho dX8_pour_24 rfl ?_
      refine x_ist3 ho dX8_pour_25 (by rw [hk]; decide) rfl ?_
      have loop : ∀ (f i : Nat), min 10 m < f + i → i ≤ min 10 m → XM B k (up1 μ 1 (en (up1 h 6 (prF (σ (54 + 2 * r + 1)) (h 6) i).1) T)) δ 26 [some (.ref (aB B 0)), some (.int (nI r)), some (.int (prF (σ (54 + 2 * r + 1)) (h 6) i).2), some (.int (nI i)), none, none] [] := by
        intro f
        induction f with
        | zero => intro i h1 h2; omega
        | succ f ih =>
          intro i h1 h2
          have K82 : ∀ v to, (upd (prF (σ (54 + 2 * r + 1)) (h 6) i).1 i to, if (prF (σ (54 + 2 * r + 1)) (h 6) i).1 i = to then (prF (σ (54 + 2 * r + 1)) (h 6) i).2 else (prF (σ (54 + 2 * r + 1)) (h 6) i).2 + 1) = (prF (σ (54 + 2 * r + 1)) (h 6) (i + 1)) → i < 10 → i < m → XM B k (up1 μ 1 (en (up1 h 6 (prF (σ (54 + 2 * r + 1)) (h 6) i).1) T)) δ 82 [some (.ref (aB B 0)), some (.int (nI r)), some (.int (prF (σ (54 + 2 * r + 1)) (h 6) i).2), some (.int (nI i)), some (.int v), none] [.int to] := by
            intro v to eF c39 c33
            refine x_ist5 ho dX8_pour_82 (by rw [hk]; decide) rfl ?_
            refine x_ild2 ho dX8_pour_84 ?_
            refine x_ald0 ho dX8_pour_85 ?_
            refine x_bipush (v := 7) ho dX8_pour_86 rfl ?_
            refine x_ild3 ho dX8_pour_88 ?_
            refine x_iadd ho dX8_pour_89 ?_
            rw [show (7 : Int32) + nI i = nI (7 + i) from nI_add 7 i]
            refine x_ild5 ho dX8_pour_90 ?_
            refine vMI2 ho cs_X8_138 (c_X8_becomes B _ _ (en (up1 h 6 (prF (σ (54 + 2 * r + 1)) (h 6) i).1) T) (7 + i) (by omega) _) rfl ⟨rfl, rfl⟩ ⟨Nat.le_of_ble_eq_true rfl, Nat.le_of_ble_eq_true rfl⟩ (Nat.le_of_ble_eq_true rfl) dX8_pour_92 (fun r92 s92 t92 p92 => ?_)
            obtain ⟨rfl, rfl, e_⟩ := p92
            subst t92
            rw [eu_fl (by omega), en_fl (by omega), up2_u1]
            change XM B k _ _ _ _ (.int ((prF (σ (54 + 2 * r + 1)) (h 6) i).1 i) :: _)
            refine x_ild5 ho dX8_pour_95 ?_
            refine x_icmp_ne 104 ho dX8_pour_97 (by decide) (fun c97 => ?_) (fun c97 => ?_)
            · refine x_iconst (v := 1) ho dX8_pour_104 rfl ?_
              refine x_iadd ho dX8_pour_105 ?_
              refine x_ist2 ho dX8_pour_106 (by rw [hk]; decide) rfl ?_
              refine x_inc3 (y := 1) ho dX8_pour_107 (by rw [hk]; decide) rfl rfl ?_
              refine x_goto 26 ho dX8_pour_110 (by decide) ?_
              rw [nI_1 i]
              refine x_loc (Lsb.s (Lsb.s (Lsb.s (Lsb.s (Lsb.n (Lsb.n Lsb.e)))))) ?_
              have ih := ih (i + 1) (by omega) (by omega)
              rw [← eF] at ih
              first | (rw [if_pos c97] at ih; rw [Int32.add_zero]; exact ih) | (rw [if_neg c97] at ih; exact ih)
            · refine x_iconst (v := 0) ho dX8_pour_100 rfl ?_
              refine x_goto 105 ho dX8_pour_101 (by decide) ?_
              refine x_iadd ho dX8_pour_105 ?_
              refine x_ist2 ho dX8_pour_106 (by rw [hk]; decide) rfl ?_
              refine x_inc3 (y := 1) ho dX8_pour_107 (by rw [hk]; decide) rfl rfl ?_
              refine x_goto 26 ho dX8_pour_110 (by decide) ?_
              rw [nI_1 i]
              refine x_loc (Lsb.s (Lsb.s (Lsb.s (Lsb.s (Lsb.n (Lsb.n Lsb.e)))))) ?_
              have ih := ih (i + 1) (by omega) (by omega)
              rw [← eF] at ih
              first | (rw [if_pos c97] at ih; rw [Int32.add_zero]; exact ih) | (rw [if_neg c97] at ih; exact ih)
          refine x_ild3 ho dX8_pour_26 ?_
          refine x_ald0 ho dX8_pour_27 ?_
          refine r_X8_58 ho dX8_pour_28 ?_
          refine x_ild1 ho dX8_pour_31 ?_
          refine xm_ialdN (r) (rfl) 16 (by show r < 4; omega) ho (by decide) (fun _ => rfl) dX8_pour_32 ?_
          change XM B k _ _ _ _ (.int (μ 16 (r)) :: _)
          rw [s16, em]
          refine x_icmp_ge 113 ho dX8_pour_33 (by decide) (fun c33 => ?_) (fun c33 => ?_)
          · have c33 := n_le (by omega) (by omega) c33
            have ei : i = min 10 m := by omega
            subst ei
            refine x_ild2 ho dX8_pour_113 ?_
            refine x_iret ho hr ?_ dX8_pour_114
            exact ⟨_, _, _, rfl, rfl, by rw [e0], by rw [e0], rfl⟩
          · have c33 := n_nle (by omega) (by omega) c33
            refine x_ild3 ho dX8_pour_36 ?_
            refine x_bipush (v := 10) ho dX8_pour_37 rfl ?_
            refine x_icmp_ge 113 ho dX8_pour_39 (by decide) (fun c39 => ?_) (fun c39 => ?_)
            · have c39 := n_le (a := 10) (by decide) (by omega) c39
              have ei : i = min 10 m := by omega
              subst ei
              refine x_ild2 ho dX8_pour_113 ?_
              refine x_iret ho hr ?_ dX8_pour_114
              exact ⟨_, _, _, rfl, rfl, by rw [e0], by rw [e0], rfl⟩
            · have c39 := n_nle (a := 10) (b := i) (by decide) (by omega) c39
              refine x_ald0 ho dX8_pour_42 ?_
              refine r_X8_61 ho dX8_pour_43 ?_
              refine x_bipush (v := 24) ho dX8_pour_46 rfl ?_
              refine x_ild1 ho dX8_pour_48 ?_
              refine x_imul ho dX8_pour_49 ?_
              refine x_ild3 ho dX8_pour_50 ?_
              refine x_iadd ho dX8_pour_51 ?_
              refine xm_ialdN (24 * r + i) (ix24 r i) 17 (by show 24 * r + i < 96; omega) ho (by decide) (fun _ => rfl) dX8_pour_52 ?_
              change XM B k _ _ _ _ (.int (μ 17 (24 * r + i)) :: _)
              rw [s17 i (by omega)]
              refine x_ist4 ho dX8_pour_53 (by rw [hk]; decide) rfl ?_
              refine x_ild4 ho dX8_pour_55 ?_
              refine x_ldc ho kc_X8_150 dX8_pour_57 ?_
              refine x_icmp_ne 74 ho dX8_pour_59 (by decide) (fun c59 => ?_) (fun c59 => ?_)
              · refine x_ild4 ho dX8_pour_74 ?_
                refine x_iconst (v := 0) ho dX8_pour_76 rfl ?_
                refine x_bipush (v := 9) ho dX8_pour_77 rfl ?_
                refine sMI3 ho cs_X8_111 (c_X8_within B _ _ _ _ _) ⟨rfl, rfl⟩ ⟨Nat.le_of_ble_eq_true rfl, Nat.le_of_ble_eq_true rfl⟩ (Nat.le_of_ble_eq_true rfl) dX8_pour_79 (fun r79 s79 t79 p79 => ?_)
                obtain ⟨rfl, rfl, e_⟩ := p79
                subst t79
                rw [show jwi ((σ (54 + 2 * r + 1)) i) 0 9 = jheld ((σ (54 + 2 * r + 1)) i) 9 from jwi_held (m := 9) (by decide)]
                first | exact K82 _ _ (by rw [upd_self, if_pos rfl]; exact (if_pos c59).symm) c39 c33 | exact K82 _ _ (if_neg c59).symm c39 c33
              · refine x_ald0 ho dX8_pour_62 ?_
                refine r_X8_9 ho dX8_pour_63 ?_
                refine x_bipush (v := 7) ho dX8_pour_66 rfl ?_
                refine x_ild3 ho dX8_pour_68 ?_
                refine x_iadd ho dX8_pour_69 ?_
                refine m_ld (7 + i) (nI_add 7 i) (by omega) ho dX8_pour_70 ?_
                rw [en_fl (by omega)]
                change XM B k _ _ _ _ (.int ((prF (σ (54 + 2 * r + 1)) (h 6) i).1 i) :: _)
                refine x_goto 82 ho dX8_pour_71 (by decide) ?_
                first | exact K82 _ _ (by rw [upd_self, if_pos rfl]; exact (if_pos c59).symm) c39 c33 | exact K82 _ _ (if_neg c59).symm c39 c33
      have loop := loop (min 10 m + 1) 0 (by omega) (by omega)
      rw [show up1 h 6 (prF (σ (54 + 2 * r + 1)) (h 6) 0).1 = h from up1_self] at loop
      exact loop
    · have ee : σ (54 + 2 * r) 0 = -1 := by
        rcases ssrt with e | e | e
        · exact e
        · rw [e] at c16; exact absurd (by decide) c16
        · rw [e] at c16; exact absurd (by decide) c16
      refine x_ldc ho kc_X8_187 dX8_pour_19 ?_
      refine x_iret ho hr ?_ dX8_pour_21
      have e0 : mPour σ h (nI r) = (-1000000011, h) := by unfold mPour; rw [if_pos (isQ_n hr4), ix_n (by omega), if_pos ee]
      exact ⟨_, _, _, rfl, rfl, by rw [e0], by rw [e0], rfl⟩
  · have c4 := bI_0.mp c4
    refine x_ldc ho kc_X8_94 dX8_pour_7 ?_
    refine x_iret ho hr ?_ dX8_pour_9
    exact ⟨_, _, _, rfl, rfl, by unfold mPour; rw [if_neg c4], by unfold mPour; rw [if_neg c4], rfl⟩
theorem isR_n {i : Nat} (hi : i < 2 ^ 31) : isR (nI i) = true ↔ i < 10 := by
  refine dk.symm.trans ⟨fun z => n_nle (by decide) hi z.2, fun z => ⟨nI_n0 i hi, fun q => ?_⟩⟩
  have := n_le (a := 10) (by decide) hi q
  omega
set_option maxRecDepth 100000 in
set_option maxHeartbeats 4000000 in
theorem c_X8_reads (B : BT) (μ : Nat → Nat → Int32) (δ : Nat → Int64) (h : HT) (T : Nat → Int32) (σ : ST) (hS : ShR σ μ) (x : Int32) : MI B yX8_reads cX8_reads 4 (some .int) ({ frames := 2, cells := 0, slots := 0, locals := 42 }) [.ref (aB B 0), .int x] (up1 μ 1 (en h T)) δ (fun r μ' δ' => r = mReads σ h x ∧ μ' = up1 μ 1 (en h T) ∧ δ' = δ) := by
  refine MX.of2 RX8 (by decide) rfl ⟨rfl, rfl⟩ (Nat.le_of_ble_eq_true rfl) (by rfl) (fun k ho hr hk => ?_)
  show XM B k (up1 μ 1 (en h T)) δ 0 [some (.ref (aB B 0)), some (.int x), none, none] []
  refine x_ild1 ho dX8_reads_0 ?_
  refine sMI1 ho cs_X8_184 (c_X8_isSheet B _ _ _) ⟨rfl, rfl⟩ ⟨Nat.le_of_ble_eq_true rfl, Nat.le_of_ble_eq_true rfl⟩ (Nat.le_of_ble_eq_true rfl) dX8_reads_1 (fun r1 s1 t1 p1 => ?_)
  obtain ⟨rfl, rfl, e_⟩ := p1
  subst t1
  refine x_if_ne 10 ho dX8_reads_4 (by decide) (fun c4 => ?_) (fun c4 => ?_)
  · have c4 := bI_n.mp c4
    obtain ⟨r, hr4, rfl⟩ := isQ_of c4
    obtain ⟨s15, s16, s17, ssrt, ⟨m, hm24, em⟩, spl⟩ := hS r hr4
    refine x_ald0 ho dX8_reads_10 ?_
    refine r_X8_55 ho dX8_reads_11 ?_
    refine x_ild1 ho dX8_reads_14 ?_
    refine xm_ialdN (r) (rfl) 15 (by show r < 4; omega) ho (by decide) (fun _ => rfl) dX8_reads_15 ?_
    change XM B k _ _ _ _ (.int (μ 15 (r)) :: _)
    rw [s15]
    refine x_if_ge 22 ho dX8_reads_16 (by decide) (fun c16 => ?_) (fun c16 => ?_)
    · have ne : ¬ σ (54 + 2 * r) 0 = -1 := fun e => by rw [e] at c16; exact absurd c16 (by decide)
      have e0 : mReads σ h (nI r) = rdL (σ (54 + 2 * r + 1)) (h 8) m 0 := by
        unfold mReads
        rw [if_pos (isQ_n hr4), ix_n (n := r) (by omega), if_neg ne, em, ix_n (n := m) (by omega)]
      refine x_iconst (v := 0) ho dX8_reads_22 rfl ?_
      refine x_ist2 ho dX8_reads_23 (by rw [hk]; decide) rfl ?_
      have loop : ∀ (f q i : Nat), q < f → q + i = m → mReads σ h (nI r) = rdL (σ (54 + 2 * r + 1)) (h 8) q i → XM B k (up1 μ 1 (en h T)) δ 24 [some (.ref (aB B 0)), some (.int (nI r)), some (.int (nI i)), none] [] := by
        intro f
        induction f with
        | zero => intro q i h1; omega
        | succ f ih =>
          intro q i h1 h2 e1
          refine x_ild2 ho dX8_reads_24 ?_
          refine x_ald0 ho dX8_reads_25 ?_
          refine r_X8_58 ho dX8_reads_26 ?_
          refine x_ild1 ho dX8_reads_29 ?_
          refine xm_ialdN (r) (rfl) 16 (by show r < 4; omega) ho (by decide) (fun _ => rfl) dX8_reads_30 ?_
          change XM B k _ _ _ _ (.int (μ 16 (r)) :: _)
          rw [s16, em]
          refine x_icmp_ge 80 ho dX8_reads_31 (by decide) (fun c31 => ?_) (fun c31 => ?_)
          · have c31 := n_le (by omega) (by omega) c31
            have eq0 : q = 0 := by omega
            subst eq0
            refine x_ldc ho kc_X8_150 dX8_reads_80 ?_
            refine x_iret ho hr ?_ dX8_reads_82
            exact ⟨_, _, _, rfl, rfl, e1.symm, rfl, rfl⟩
          · have c31 := n_nle (by omega) (by omega) c31
            obtain ⟨q, rfl⟩ : ∃ q', q = q' + 1 := ⟨q - 1, by omega⟩
            refine x_ald0 ho dX8_reads_34 ?_
            refine r_X8_61 ho dX8_reads_35 ?_
            refine x_bipush (v := 24) ho dX8_reads_38 rfl ?_
            refine x_ild1 ho dX8_reads_40 ?_
            refine x_imul ho dX8_reads_41 ?_
            refine x_ild2 ho dX8_reads_42 ?_
            refine x_iadd ho dX8_reads_43 ?_
            refine xm_ialdN (24 * r + i) (ix24 r i) 17 (by show 24 * r + i < 96; omega) ho (by decide) (fun _ => rfl) dX8_reads_44 ?_
            change XM B k _ _ _ _ (.int (μ 17 (24 * r + i)) :: _)
            rw [s17 i (by omega)]
            refine x_ist3 ho dX8_reads_45 (by rw [hk]; decide) rfl ?_
            refine x_ild3 ho dX8_reads_46 ?_
            refine x_ldc ho kc_X8_150 dX8_reads_47 ?_
            refine x_icmp_eq 74 ho dX8_reads_49 (by decide) (fun c49 => ?_) (fun c49 => ?_)
            · have e2 : rdL (σ (54 + 2 * r + 1)) (h 8) (q + 1) i = rdL (σ (54 + 2 * r + 1)) (h 8) q (i + 1) := if_neg (fun z => z.1 c49)
              refine x_inc2 (y := 1) ho dX8_reads_74 (by rw [hk]; decide) rfl rfl ?_
              refine x_goto 24 ho dX8_reads_77 (by decide) ?_
              rw [nI_1 i]
              refine x_loc (Lsb.s (Lsb.s (Lsb.s (Lsb.n Lsb.e)))) ?_
              exact ih q (i + 1) (by omega) (by omega) (e1.trans e2)
            · refine x_ild2 ho dX8_reads_52 ?_
              refine sMI1 ho cs_X8_141 (c_X8_isRoom B _ _ _) ⟨rfl, rfl⟩ ⟨Nat.le_of_ble_eq_true rfl, Nat.le_of_ble_eq_true rfl⟩ (Nat.le_of_ble_eq_true rfl) dX8_reads_53 (fun r53 s53 t53 p53 => ?_)
              obtain ⟨rfl, rfl, e_⟩ := p53
              subst t53
              refine x_if_eq 72 ho dX8_reads_56 (by decide) (fun c56 => ?_) (fun c56 => ?_)
              · have c56 := bI_0.mp c56
                have c56 : 10 ≤ i := Nat.le_of_not_lt (fun z => c56 ((isR_n (by omega)).mpr z))
                have e3 : rdL (σ (54 + 2 * r + 1)) (h 8) (q + 1) i = nI i := if_pos ⟨c49, Or.inl c56⟩
                refine x_ild2 ho dX8_reads_72 ?_
                refine x_iret ho hr ?_ dX8_reads_73
                exact ⟨_, _, _, rfl, rfl, (e1.trans e3).symm, rfl, rfl⟩
              · have c56 := bI_n.mp c56
                have c56 := (isR_n (by omega)).mp c56
                refine x_ild3 ho dX8_reads_59 ?_
                refine x_ald0 ho dX8_reads_60 ?_
                refine r_X8_9 ho dX8_reads_61 ?_
                refine x_bipush (v := 27) ho dX8_reads_64 rfl ?_
                refine x_ild2 ho dX8_reads_66 ?_
                refine x_iadd ho dX8_reads_67 ?_
                refine m_ld (27 + i) (nI_add 27 i) (by omega) ho dX8_reads_68 ?_
                rw [en_mk (by omega)]
                refine x_icmp_eq 74 ho dX8_reads_69 (by decide) (fun c69 => ?_) (fun c69 => ?_)
                · have e2 : rdL (σ (54 + 2 * r + 1)) (h 8) (q + 1) i = rdL (σ (54 + 2 * r + 1)) (h 8) q (i + 1) := if_neg (fun z => z.2.elim (fun y => by omega) (fun y => y c69))
                  refine x_inc2 (y := 1) ho dX8_reads_74 (by rw [hk]; decide) rfl rfl ?_
                  refine x_goto 24 ho dX8_reads_77 (by decide) ?_
                  rw [nI_1 i]
                  refine x_loc (Lsb.s (Lsb.s (Lsb.s (Lsb.n Lsb.e)))) ?_
                  exact ih q (i + 1) (by omega) (by omega) (e1.trans e2)
                · have e3 : rdL (σ (54 + 2 * r + 1)) (h 8) (q + 1) i = nI i := if_pos ⟨c49, Or.inr c69⟩
                  refine x_ild2 ho dX8_reads_72 ?_
                  refine x_iret ho hr ?_ dX8_reads_73
                  exact ⟨_, _, _, rfl, rfl, (e1.trans e3).symm, rfl, rfl⟩
      exact loop (m + 1) m 0 (by omega) (by omega) e0
    · have ee : σ (54 + 2 * r) 0 = -1 := by
        rcases ssrt with e | e | e
        · exact e
        · rw [e] at c16; exact absurd (by decide) c16
        · rw [e] at c16; exact absurd (by decide) c16
      refine x_ldc ho kc_X8_187 dX8_reads_19 ?_
      refine x_iret ho hr ?_ dX8_reads_21
      exact ⟨_, _, _, rfl, rfl, by unfold mReads; rw [if_pos (isQ_n hr4), ix_n (by omega), if_pos ee], rfl, rfl⟩
  · have c4 := bI_0.mp c4
    refine x_ldc ho kc_X8_94 dX8_reads_7 ?_
    refine x_iret ho hr ?_ dX8_reads_9
    exact ⟨_, _, _, rfl, rfl, by unfold mReads; rw [if_neg c4], rfl, rfl⟩
