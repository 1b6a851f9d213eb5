/-! the model's house -/
theorem up2_cf {g : Nat → Nat → Int32} {f i f' i' : Nat} {x y : Int32} (hf : f ≠ f') : up2 (up2 g f i x) f' i' y = up2 (up2 g f' i' y) f i x := by
  funext a b
  simp only [up2_a]
  by_cases h1 : a = f' ∧ b = i'
  · rw [if_pos h1, if_neg (fun z => hf (z.1.symm.trans h1.1)), if_pos h1]
  · rw [if_neg h1, if_neg h1]
theorem up2_c0 {g : Nat → Nat → Int32} {f i i' : Nat} {x y : Int32} (hi : i ≠ i') : up2 (up2 g f i x) f i' y = up2 (up2 g f i' y) f i x := by
  funext a b
  simp only [up2_a]
  by_cases h1 : a = f ∧ b = i'
  · rw [if_pos h1, if_neg (fun z => hi (z.2.symm.trans h1.2)), if_pos h1]
  · rw [if_neg h1, if_neg h1]
/-- a new dancer, as the model books it -/
theorem mJoin {h : HT} {kd ar so st : Int32} : up2 (up2 (up2 (up2 (up2 (up2 h 0 0 (h 0 0 + 1)) 1 (sN h) kd) 2 (sN h) ar) 3 (sN h) so) 4 (sN h) st) 5 (sN h) 0 = sJoin h kd ar so st := by
  unfold sJoin
  rw [up2_cf (f := 0) (f' := 1) (by decide), up2_cf (f := 0) (f' := 2) (by decide), up2_cf (f := 0) (f' := 3) (by decide), up2_cf (f := 0) (f' := 4) (by decide), up2_cf (f := 0) (f' := 5) (by decide)]
theorem gw {n : Nat} (h : n ≤ 5) : jwi (nI n - 1) 0 5 = jmx 0 (nI n - 1) := by
  rcases (by omega : n = 0 ∨ n = 1 ∨ n = 2 ∨ n = 3 ∨ n = 4 ∨ n = 5) with rfl | rfl | rfl | rfl | rfl | rfl <;> rfl
theorem wo7 {s : Int32} : (992 : Int32) - s = 999 - s - 7 := by
  rw [show (992 : Int32) = 999 - 7 from rfl, Int32.sub_eq_add_neg, Int32.sub_eq_add_neg, Int32.sub_eq_add_neg, Int32.sub_eq_add_neg, Int32.add_assoc, Int32.add_assoc, Int32.add_comm (-7)]
set_option maxRecDepth 100000 in
set_option maxHeartbeats 4000000 in
theorem c_X8_comes (B : BT) (μ : Nat → Nat → Int32) (δ : Nat → Int64) (h : HT) (T : Nat → Int32) (hN : h 0 0 = nI (sN h)) (hN12 : sN h < 12) (kd ar so st : Int32) : MI B yX8_comes cX8_comes 6 (some .int) ({ frames := 1, cells := 0, slots := 0, locals := 23 }) [.ref (aB B 0), .int kd, .int ar, .int so, .int st] (up1 μ 1 (en h T)) δ (fun r μ' δ' => r = h 0 0 ∧ μ' = up1 μ 1 (en (sJoin h kd ar so st) T) ∧ δ' = δ) := by
  refine MX.of2 RX8 (by decide) rfl ⟨rfl, rfl⟩ (Nat.le_of_ble_eq_true rfl) (by rfl) (fun k ho hr hk => ?_)
  show XM B k (up1 μ 1 (en h T)) δ 0 [some (.ref (aB B 0)), some (.int kd), some (.int ar), some (.int so), some (.int st), none] []
  refine x_ald0 ho dX8_comes_0 ?_
  refine r_X8_9 ho dX8_comes_1 ?_
  refine x_iconst (v := 1) ho dX8_comes_4 rfl ?_
  refine m_ld (1) (rfl) (by omega) ho dX8_comes_5 ?_
  change XM B k _ _ _ _ (.int (h 0 0) :: _)
  refine x_ist5 ho dX8_comes_6 (by rw [hk]; decide) rfl ?_
  refine x_ald0 ho dX8_comes_8 ?_
  refine r_X8_9 ho dX8_comes_9 ?_
  refine x_iconst (v := 1) ho dX8_comes_12 rfl ?_
  refine x_dup2 ho dX8_comes_13 rfl rfl ?_
  refine m_ld (1) (rfl) (by omega) ho dX8_comes_14 ?_
  change XM B k _ _ _ _ (.int (h 0 0) :: _)
  refine x_iconst (v := 1) ho dX8_comes_15 rfl ?_
  refine x_iadd ho dX8_comes_16 ?_
  refine m_st (1) (rfl) (by omega) ho dX8_comes_17 ?_
  rw [eu_1]
  rw [hN]
  refine x_ald0 ho dX8_comes_18 ?_
  refine x_ild5 ho dX8_comes_19 ?_
  refine x_iconst (v := 0) ho dX8_comes_21 rfl ?_
  refine x_ild1 ho dX8_comes_22 ?_
  refine vMV3 ho cs_X8_86 (c_X8_put B _ _ _ _ (sN h) 0 hN12 (by decide) _) rfl ⟨rfl, rfl⟩ ⟨Nat.le_of_ble_eq_true rfl, Nat.le_of_ble_eq_true rfl⟩ (Nat.le_of_ble_eq_true rfl) dX8_comes_23 (fun s23 t23 p23 => ?_)
  obtain ⟨rfl, rfl⟩ := p23
  refine x_ald0 ho dX8_comes_26 ?_
  refine x_ild5 ho dX8_comes_27 ?_
  refine x_iconst (v := 1) ho dX8_comes_29 rfl ?_
  refine x_ild2 ho dX8_comes_30 ?_
  refine vMV3 ho cs_X8_86 (c_X8_put B _ _ _ _ (sN h) 1 hN12 (by decide) _) rfl ⟨rfl, rfl⟩ ⟨Nat.le_of_ble_eq_true rfl, Nat.le_of_ble_eq_true rfl⟩ (Nat.le_of_ble_eq_true rfl) dX8_comes_31 (fun s31 t31 p31 => ?_)
  obtain ⟨rfl, rfl⟩ := p31
  refine x_ald0 ho dX8_comes_34 ?_
  refine x_ild5 ho dX8_comes_35 ?_
  refine x_iconst (v := 2) ho dX8_comes_37 rfl ?_
  refine x_ild3 ho dX8_comes_38 ?_
  refine vMV3 ho cs_X8_86 (c_X8_put B _ _ _ _ (sN h) 2 hN12 (by decide) _) rfl ⟨rfl, rfl⟩ ⟨Nat.le_of_ble_eq_true rfl, Nat.le_of_ble_eq_true rfl⟩ (Nat.le_of_ble_eq_true rfl) dX8_comes_39 (fun s39 t39 p39 => ?_)
  obtain ⟨rfl, rfl⟩ := p39
  refine x_ald0 ho dX8_comes_42 ?_
  refine x_ild5 ho dX8_comes_43 ?_
  refine x_iconst (v := 3) ho dX8_comes_45 rfl ?_
  refine x_ild4 ho dX8_comes_46 ?_
  refine vMV3 ho cs_X8_86 (c_X8_put B _ _ _ _ (sN h) 3 hN12 (by decide) _) rfl ⟨rfl, rfl⟩ ⟨Nat.le_of_ble_eq_true rfl, Nat.le_of_ble_eq_true rfl⟩ (Nat.le_of_ble_eq_true rfl) dX8_comes_48 (fun s48 t48 p48 => ?_)
  obtain ⟨rfl, rfl⟩ := p48
  refine x_ald0 ho dX8_comes_51 ?_
  refine x_ild5 ho dX8_comes_52 ?_
  refine x_iconst (v := 4) ho dX8_comes_54 rfl ?_
  refine x_iconst (v := 0) ho dX8_comes_55 rfl ?_
  refine vMV3 ho cs_X8_86 (c_X8_put B _ _ _ _ (sN h) 4 hN12 (by decide) _) rfl ⟨rfl, rfl⟩ ⟨Nat.le_of_ble_eq_true rfl, Nat.le_of_ble_eq_true rfl⟩ (Nat.le_of_ble_eq_true rfl) dX8_comes_56 (fun s56 t56 p56 => ?_)
  obtain ⟨rfl, rfl⟩ := p56
  refine x_ild5 ho dX8_comes_59 ?_
  refine x_iret ho hr ?_ dX8_comes_61
  refine ⟨_, _, _, rfl, rfl, hN.symm, ?_, rfl⟩
  rw [← mJoin, hN]
def isWhat (w v : Int32) : Bool := if w = 1 then isR v else if w = 2 then isS v else isT v
theorem mS {x : Int32} : bI (¬ x < 0 ∧ ¬ 999 < x) = bI (isS x = true) := bI_iff dk
theorem mT {x : Int32} : bI (¬ x < 0 ∧ ¬ 5 < x) = bI (isT x = true) := bI_iff dk
set_option maxRecDepth 100000 in
set_option maxHeartbeats 4000000 in
theorem c_X8_isOf (B : BT) (μ : Nat → Nat → Int32) (δ : Nat → Int64) (w v : Int32) : MI B yX8_isOf cX8_isOf 2 (some .boolean) ({ frames := 1, cells := 0, slots := 0, locals := 22 }) [.int w, .int v] μ δ (fun r μ' δ' => r = bI (isWhat w v = true) ∧ μ' = μ ∧ δ' = δ) := by
  refine MX.of2 RX8 (by decide) rfl ⟨rfl, rfl⟩ (Nat.le_of_ble_eq_true rfl) (by rfl) (fun k ho hr hk => ?_)
  show XM B k μ δ 0 [some (.int w), some (.int v)] []
  refine x_ild1 ho dX8_isOf_0 ?_
  refine x_iconst (v := 0) ho dX8_isOf_1 rfl ?_
  refine x_ild0 ho dX8_isOf_2 ?_
  refine x_iconst (v := 1) ho dX8_isOf_3 rfl ?_
  refine x_icmp_ne 12 ho dX8_isOf_4 (by decide) (fun c4 => ?_) (fun c4 => ?_)
  · refine x_ild0 ho dX8_isOf_12 ?_
    refine x_iconst (v := 2) ho dX8_isOf_13 rfl ?_
    refine x_icmp_ne 23 ho dX8_isOf_14 (by decide) (fun c14 => ?_) (fun c14 => ?_)
    · refine x_iconst (v := 5) ho dX8_isOf_23 rfl ?_
      refine sMI3 ho cs_X8_82 (c_X8_in B _ _ _ _ _) ⟨rfl, rfl⟩ ⟨Nat.le_of_ble_eq_true rfl, Nat.le_of_ble_eq_true rfl⟩ (Nat.le_of_ble_eq_true rfl) dX8_isOf_24 (fun r24 s24 t24 p24 => ?_)
      obtain ⟨rfl, rfl, rfl⟩ := p24
      refine x_zret ho hr bI_01 ?_ dX8_isOf_27
      refine ⟨_, _, _, rfl, rfl, ?_, rfl, rfl⟩
      unfold isWhat
      first | (rw [if_pos c4]; exact mR) | (rw [if_neg c4, if_pos c14]; exact mS) | (rw [if_neg c4, if_neg c14]; exact mT)
    · refine x_sipush (v := 999) ho dX8_isOf_17 rfl ?_
      refine x_goto 24 ho dX8_isOf_20 (by decide) ?_
      refine sMI3 ho cs_X8_82 (c_X8_in B _ _ _ _ _) ⟨rfl, rfl⟩ ⟨Nat.le_of_ble_eq_true rfl, Nat.le_of_ble_eq_true rfl⟩ (Nat.le_of_ble_eq_true rfl) dX8_isOf_24 (fun r24 s24 t24 p24 => ?_)
      obtain ⟨rfl, rfl, rfl⟩ := p24
      refine x_zret ho hr bI_01 ?_ dX8_isOf_27
      refine ⟨_, _, _, rfl, rfl, ?_, rfl, rfl⟩
      unfold isWhat
      first | (rw [if_pos c4]; exact mR) | (rw [if_neg c4, if_pos c14]; exact mS) | (rw [if_neg c4, if_neg c14]; exact mT)
  · refine x_bipush (v := 9) ho dX8_isOf_7 rfl ?_
    refine x_goto 24 ho dX8_isOf_9 (by decide) ?_
    refine sMI3 ho cs_X8_82 (c_X8_in B _ _ _ _ _) ⟨rfl, rfl⟩ ⟨Nat.le_of_ble_eq_true rfl, Nat.le_of_ble_eq_true rfl⟩ (Nat.le_of_ble_eq_true rfl) dX8_isOf_24 (fun r24 s24 t24 p24 => ?_)
    obtain ⟨rfl, rfl, rfl⟩ := p24
    refine x_zret ho hr bI_01 ?_ dX8_isOf_27
    refine ⟨_, _, _, rfl, rfl, ?_, rfl, rfl⟩
    unfold isWhat
    first | (rw [if_pos c4]; exact mR) | (rw [if_neg c4, if_pos c14]; exact mS) | (rw [if_neg c4, if_neg c14]; exact mT)
set_option maxRecDepth 100000 in
set_option maxHeartbeats 4000000 in
theorem c_X8_goesOf (B : BT) (μ : Nat → Nat → Int32) (δ : Nat → Int64) (h : HT) (T : Nat → Int32) (hi : HI h) (d : Nat) (hd : d < 12) : MI B yX8_goesOf cX8_goesOf 3 (some .int) ({ frames := 1, cells := 0, slots := 0, locals := 22 }) [.ref (aB B 0), .int (nI d)] (up1 μ 1 (en h T)) δ (fun r μ' δ' => r = sGoes h d ∧ μ' = up1 μ 1 (en h T) ∧ δ' = δ) := by
  refine MX.of2 RX8 (by decide) rfl ⟨rfl, rfl⟩ (Nat.le_of_ble_eq_true rfl) (by rfl) (fun k ho hr hk => ?_)
  show XM B k (up1 μ 1 (en h T)) δ 0 [some (.ref (aB B 0)), some (.int (nI d)), none] []
  obtain ⟨n, hn, -, hn5⟩ := hi.steps hd
  refine x_ald0 ho dX8_goesOf_0 ?_
  refine x_ild1 ho dX8_goesOf_1 ?_
  refine x_iconst (v := 3) ho dX8_goesOf_2 rfl ?_
  refine vMI2 ho cs_X8_104 (c_X8_of B _ _ _ _ d 3 hd (by decide)) rfl ⟨rfl, rfl⟩ ⟨Nat.le_of_ble_eq_true rfl, Nat.le_of_ble_eq_true rfl⟩ (Nat.le_of_ble_eq_true rfl) dX8_goesOf_3 (fun r3 s3 t3 p3 => ?_)
  obtain ⟨rfl, rfl, rfl⟩ := p3
  refine x_ist2 ho dX8_goesOf_6 (by rw [hk]; decide) rfl ?_
  refine x_ald0 ho dX8_goesOf_7 ?_
  refine x_ild1 ho dX8_goesOf_8 ?_
  refine x_iconst (v := 2) ho dX8_goesOf_9 rfl ?_
  refine vMI2 ho cs_X8_104 (c_X8_of B _ _ _ _ d 2 hd (by decide)) rfl ⟨rfl, rfl⟩ ⟨Nat.le_of_ble_eq_true rfl, Nat.le_of_ble_eq_true rfl⟩ (Nat.le_of_ble_eq_true rfl) dX8_goesOf_10 (fun r10 s10 t10 p10 => ?_)
  obtain ⟨rfl, rfl, rfl⟩ := p10
  refine x_if_ne 18 ho dX8_goesOf_13 (by decide) (fun c13 => ?_) (fun c13 => ?_)
  · refine x_ald0 ho dX8_goesOf_18 ?_
    refine x_ild1 ho dX8_goesOf_19 ?_
    refine x_iconst (v := 0) ho dX8_goesOf_20 rfl ?_
    refine vMI2 ho cs_X8_104 (c_X8_of B _ _ _ _ d 0 hd (by decide)) rfl ⟨rfl, rfl⟩ ⟨Nat.le_of_ble_eq_true rfl, Nat.le_of_ble_eq_true rfl⟩ (Nat.le_of_ble_eq_true rfl) dX8_goesOf_21 (fun r21 s21 t21 p21 => ?_)
    obtain ⟨rfl, rfl, rfl⟩ := p21
    refine x_topi (fun y24 ey24 => ?_)
    by_cases q24_1 : y24 = 1
    · rw [q24_1] at ey24 ⊢
      refine x_tin 60 ho dX8_goesOf_24 (by decide) (by decide) (by rfl) (by decide) ?_
      refine x_ild2 ho dX8_goesOf_60 ?_
      refine x_iconst (v := 1) ho dX8_goesOf_61 rfl ?_
      refine x_isub ho dX8_goesOf_62 ?_
      refine x_iconst (v := 0) ho dX8_goesOf_63 rfl ?_
      refine x_iconst (v := 5) ho dX8_goesOf_64 rfl ?_
      refine sMI3 ho cs_X8_111 (c_X8_within B _ _ _ _ _) ⟨rfl, rfl⟩ ⟨Nat.le_of_ble_eq_true rfl, Nat.le_of_ble_eq_true rfl⟩ (Nat.le_of_ble_eq_true rfl) dX8_goesOf_65 (fun r65 s65 t65 p65 => ?_)
      obtain ⟨rfl, rfl, rfl⟩ := p65
      refine x_iret ho hr ?_ dX8_goesOf_68
      refine ⟨_, _, _, rfl, rfl, ?_, rfl, rfl⟩
      have ek : h 1 d = _ := ey24.symm
      unfold sGoes kGoes
      rw [if_neg c13, ek]
      change _ = _
      rw [show h (3 + 1) d = nI n from hn]
      try rw [hn]
      first | rfl | (rw [gw hn5]; rfl) | (rw [if_neg q24_1, if_neg q24_3, if_neg q24_4, if_neg q24_5]) | (show _ = if jrem (h 0 12) 12 = 11 then nI n + 1 else nI n; rw [if_pos c95]) | (show _ = if jrem (h 0 12) 12 = 11 then nI n + 1 else nI n; rw [if_neg c95])
    · skip
      by_cases q24_2 : y24 = 2
      · rw [q24_2] at ey24 ⊢
        refine x_tin 106 ho dX8_goesOf_24 (by decide) (by decide) (by rfl) (by decide) ?_
        refine x_ild2 ho dX8_goesOf_106 ?_
        refine x_iret ho hr ?_ dX8_goesOf_107
        refine ⟨_, _, _, rfl, rfl, ?_, rfl, rfl⟩
        have ek : h 1 d = _ := ey24.symm
        unfold sGoes kGoes
        rw [if_neg c13, ek]
        change _ = _
        rw [show h (3 + 1) d = nI n from hn]
        try rw [hn]
        first | rfl | (rw [gw hn5]; rfl) | (rw [if_neg q24_1, if_neg q24_3, if_neg q24_4, if_neg q24_5]) | (show _ = if jrem (h 0 12) 12 = 11 then nI n + 1 else nI n; rw [if_pos c95]) | (show _ = if jrem (h 0 12) 12 = 11 then nI n + 1 else nI n; rw [if_neg c95])
      · skip
        by_cases q24_3 : y24 = 3
        · rw [q24_3] at ey24 ⊢
          refine x_tin 69 ho dX8_goesOf_24 (by decide) (by decide) (by rfl) (by decide) ?_
          refine x_ild2 ho dX8_goesOf_69 ?_
          refine x_iconst (v := 1) ho dX8_goesOf_70 rfl ?_
          refine x_isub ho dX8_goesOf_71 ?_
          refine x_iconst (v := 0) ho dX8_goesOf_72 rfl ?_
          refine x_iconst (v := 5) ho dX8_goesOf_73 rfl ?_
          refine sMI3 ho cs_X8_111 (c_X8_within B _ _ _ _ _) ⟨rfl, rfl⟩ ⟨Nat.le_of_ble_eq_true rfl, Nat.le_of_ble_eq_true rfl⟩ (Nat.le_of_ble_eq_true rfl) dX8_goesOf_74 (fun r74 s74 t74 p74 => ?_)
          obtain ⟨rfl, rfl, rfl⟩ := p74
          refine x_iconst (v := 2) ho dX8_goesOf_77 rfl ?_
          refine x_iadd ho dX8_goesOf_78 ?_
          refine x_iret ho hr ?_ dX8_goesOf_79
          refine ⟨_, _, _, rfl, rfl, ?_, rfl, rfl⟩
          have ek : h 1 d = _ := ey24.symm
          unfold sGoes kGoes
          rw [if_neg c13, ek]
          change _ = _
          rw [show h (3 + 1) d = nI n from hn]
          try rw [hn]
          first | rfl | (rw [gw hn5]; rfl) | (rw [if_neg q24_1, if_neg q24_3, if_neg q24_4, if_neg q24_5]) | (show _ = if jrem (h 0 12) 12 = 11 then nI n + 1 else nI n; rw [if_pos c95]) | (show _ = if jrem (h 0 12) 12 = 11 then nI n + 1 else nI n; rw [if_neg c95])
        · skip
          by_cases q24_4 : y24 = 4
          · rw [q24_4] at ey24 ⊢
            refine x_tin 80 ho dX8_goesOf_24 (by decide) (by decide) (by rfl) (by decide) ?_
            refine x_ild2 ho dX8_goesOf_80 ?_
            refine x_iconst (v := 2) ho dX8_goesOf_81 rfl ?_
            refine x_idiv ho dX8_goesOf_82 (by decide) ?_
            refine x_iret ho hr ?_ dX8_goesOf_83
            refine ⟨_, _, _, rfl, rfl, ?_, rfl, rfl⟩
            have ek : h 1 d = _ := ey24.symm
            unfold sGoes kGoes
            rw [if_neg c13, ek]
            change _ = _
            rw [show h (3 + 1) d = nI n from hn]
            try rw [hn]
            first | rfl | (rw [gw hn5]; rfl) | (rw [if_neg q24_1, if_neg q24_3, if_neg q24_4, if_neg q24_5]) | (show _ = if jrem (h 0 12) 12 = 11 then nI n + 1 else nI n; rw [if_pos c95]) | (show _ = if jrem (h 0 12) 12 = 11 then nI n + 1 else nI n; rw [if_neg c95])
          · skip
            by_cases q24_5 : y24 = 5
            · rw [q24_5] at ey24 ⊢
              refine x_tin 84 ho dX8_goesOf_24 (by decide) (by decide) (by rfl) (by decide) ?_
              refine x_ald0 ho dX8_goesOf_84 ?_
              refine r_X8_9 ho dX8_goesOf_85 ?_
              refine x_iconst (v := 2) ho dX8_goesOf_88 rfl ?_
              refine m_ld (2) (rfl) (by omega) ho dX8_goesOf_89 ?_
              change XM B k _ _ _ _ (.int (h 0 12) :: _)
              refine x_bipush (v := 12) ho dX8_goesOf_90 rfl ?_
              refine x_irem ho dX8_goesOf_92 (by decide) ?_
              refine x_bipush (v := 11) ho dX8_goesOf_93 rfl ?_
              refine x_icmp_ne 104 ho dX8_goesOf_95 (by decide) (fun c95 => ?_) (fun c95 => ?_)
              · refine x_ild2 ho dX8_goesOf_104 ?_
                refine x_iret ho hr ?_ dX8_goesOf_105
                refine ⟨_, _, _, rfl, rfl, ?_, rfl, rfl⟩
                have ek : h 1 d = _ := ey24.symm
                unfold sGoes kGoes
                rw [if_neg c13, ek]
                change _ = _
                rw [show h (3 + 1) d = nI n from hn]
                try rw [hn]
                first | rfl | (rw [gw hn5]; rfl) | (rw [if_neg q24_1, if_neg q24_3, if_neg q24_4, if_neg q24_5]) | (show _ = if jrem (h 0 12) 12 = 11 then nI n + 1 else nI n; rw [if_pos c95]) | (show _ = if jrem (h 0 12) 12 = 11 then nI n + 1 else nI n; rw [if_neg c95])
              · refine x_ild2 ho dX8_goesOf_98 ?_
                refine x_iconst (v := 1) ho dX8_goesOf_99 rfl ?_
                refine x_iadd ho dX8_goesOf_100 ?_
                refine x_goto 105 ho dX8_goesOf_101 (by decide) ?_
                refine x_iret ho hr ?_ dX8_goesOf_105
                refine ⟨_, _, _, rfl, rfl, ?_, rfl, rfl⟩
                have ek : h 1 d = _ := ey24.symm
                unfold sGoes kGoes
                rw [if_neg c13, ek]
                change _ = _
                rw [show h (3 + 1) d = nI n from hn]
                try rw [hn]
                first | rfl | (rw [gw hn5]; rfl) | (rw [if_neg q24_1, if_neg q24_3, if_neg q24_4, if_neg q24_5]) | (show _ = if jrem (h 0 12) 12 = 11 then nI n + 1 else nI n; rw [if_pos c95]) | (show _ = if jrem (h 0 12) 12 = 11 then nI n + 1 else nI n; rw [if_neg c95])
            · skip
              refine x_tout 106 ho dX8_goesOf_24 (by have tq24_1 := lv_neT q24_1 (a := 1) (by decide); have tq24_2 := lv_neT q24_2 (a := 2) (by decide); have tq24_3 := lv_neT q24_3 (a := 3) (by decide); have tq24_4 := lv_neT q24_4 (a := 4) (by decide); have tq24_5 := lv_neT q24_5 (a := 5) (by decide); omega) (by decide) ?_
              refine x_ild2 ho dX8_goesOf_106 ?_
              refine x_iret ho hr ?_ dX8_goesOf_107
              refine ⟨_, _, _, rfl, rfl, ?_, rfl, rfl⟩
              have ek : h 1 d = _ := ey24.symm
              unfold sGoes kGoes
              rw [if_neg c13, ek]
              change _ = _
              rw [show h (3 + 1) d = nI n from hn]
              try rw [hn]
              first | rfl | (rw [gw hn5]; rfl) | (rw [if_neg q24_1, if_neg q24_3, if_neg q24_4, if_neg q24_5]) | (show _ = if jrem (h 0 12) 12 = 11 then nI n + 1 else nI n; rw [if_pos c95]) | (show _ = if jrem (h 0 12) 12 = 11 then nI n + 1 else nI n; rw [if_neg c95])
  · refine x_iconst (v := 0) ho dX8_goesOf_16 rfl ?_
    refine x_iret ho hr ?_ dX8_goesOf_17
    exact ⟨_, _, _, rfl, rfl, (if_pos c13).symm, rfl, rfl⟩
set_option maxRecDepth 100000 in
set_option maxHeartbeats 4000000 in
theorem c_X8_leavesOn (B : BT) (μ : Nat → Nat → Int32) (δ : Nat → Int64) (h : HT) (T : Nat → Int32) (d : Nat) (hd : d < 12) (f : Int32) : MI B yX8_leavesOn cX8_leavesOn 4 (some .int) ({ frames := 1, cells := 0, slots := 0, locals := 22 }) [.ref (aB B 0), .int (nI d), .int f] (up1 μ 1 (en h T)) δ (fun r μ' δ' => r = kLeaves (h 1 d) f ∧ μ' = up1 μ 1 (en h T) ∧ δ' = δ) := by
  refine MX.of2 RX8 (by decide) rfl ⟨rfl, rfl⟩ (Nat.le_of_ble_eq_true rfl) (by rfl) (fun k ho hr hk => ?_)
  show XM B k (up1 μ 1 (en h T)) δ 0 [some (.ref (aB B 0)), some (.int (nI d)), some (.int f), none] []
  refine x_ild2 ho dX8_leavesOn_0 ?_
  refine x_iconst (v := 4) ho dX8_leavesOn_1 rfl ?_
  refine x_icmp_le 9 ho dX8_leavesOn_2 (by decide) (fun c2 => ?_) (fun c2 => ?_)
  · have c2 : ¬ 5 ≤ f := fun z => Int32.not_lt.mpr c2 ((lts1 (n := 4) (by decide)).mpr z)
    refine x_iconst (v := 0) ho dX8_leavesOn_9 rfl ?_
    refine x_ist3 ho dX8_leavesOn_10 (by rw [hk]; decide) rfl ?_
    refine x_ald0 ho dX8_leavesOn_11 ?_
    refine x_ild1 ho dX8_leavesOn_12 ?_
    refine x_iconst (v := 0) ho dX8_leavesOn_13 rfl ?_
    refine vMI2 ho cs_X8_104 (c_X8_of B _ _ _ _ d 0 hd (by decide)) rfl ⟨rfl, rfl⟩ ⟨Nat.le_of_ble_eq_true rfl, Nat.le_of_ble_eq_true rfl⟩ (Nat.le_of_ble_eq_true rfl) dX8_leavesOn_14 (fun r14 s14 t14 p14 => ?_)
    obtain ⟨rfl, rfl, rfl⟩ := p14
    refine x_topi (fun y17 ey17 => ?_)
    by_cases q17_2 : y17 = 2
    · rw [q17_2] at ey17 ⊢
      refine x_tin 46 ho dX8_leavesOn_17 (by decide) (by decide) (by rfl) (by decide) ?_
      refine x_ild3 ho dX8_leavesOn_46 ?_
      refine x_iconst (v := 1) ho dX8_leavesOn_47 rfl ?_
      refine x_iadd ho dX8_leavesOn_48 ?_
      refine x_iret ho hr ?_ dX8_leavesOn_49
      refine ⟨_, _, _, rfl, rfl, ?_, rfl, rfl⟩
      have ek : h 1 d = _ := ey17.symm
      rw [ek]
      unfold kLeaves
      first | rw [if_pos c2] | rw [if_neg c2]
      first | rfl | (rw [if_neg q17_3, if_neg (fun z => z.elim q17_2 q17_4)])
    · skip
      by_cases q17_3 : y17 = 3
      · rw [q17_3] at ey17 ⊢
        refine x_tin 44 ho dX8_leavesOn_17 (by decide) (by decide) (by rfl) (by decide) ?_
        refine x_iconst (v := 0) ho dX8_leavesOn_44 rfl ?_
        refine x_iret ho hr ?_ dX8_leavesOn_45
        refine ⟨_, _, _, rfl, rfl, ?_, rfl, rfl⟩
        have ek : h 1 d = _ := ey17.symm
        rw [ek]
        unfold kLeaves
        first | rw [if_pos c2] | rw [if_neg c2]
        first | rfl | (rw [if_neg q17_3, if_neg (fun z => z.elim q17_2 q17_4)])
      · skip
        by_cases q17_4 : y17 = 4
        · rw [q17_4] at ey17 ⊢
          refine x_tin 46 ho dX8_leavesOn_17 (by decide) (by decide) (by rfl) (by decide) ?_
          refine x_ild3 ho dX8_leavesOn_46 ?_
          refine x_iconst (v := 1) ho dX8_leavesOn_47 rfl ?_
          refine x_iadd ho dX8_leavesOn_48 ?_
          refine x_iret ho hr ?_ dX8_leavesOn_49
          refine ⟨_, _, _, rfl, rfl, ?_, rfl, rfl⟩
          have ek : h 1 d = _ := ey17.symm
          rw [ek]
          unfold kLeaves
          first | rw [if_pos c2] | rw [if_neg c2]
          first | rfl | (rw [if_neg q17_3, if_neg (fun z => z.elim q17_2 q17_4)])
        · skip
          refine x_tout 50 ho dX8_leavesOn_17 (by have tq17_2 := lv_neT q17_2 (a := 2) (by decide); have tq17_3 := lv_neT q17_3 (a := 3) (by decide); have tq17_4 := lv_neT q17_4 (a := 4) (by decide); omega) (by decide) ?_
          refine x_ild3 ho dX8_leavesOn_50 ?_
          refine x_iret ho hr ?_ dX8_leavesOn_51
          refine ⟨_, _, _, rfl, rfl, ?_, rfl, rfl⟩
          have ek : h 1 d = _ := ey17.symm
          rw [ek]
          unfold kLeaves
          first | rw [if_pos c2] | rw [if_neg c2]
          first | rfl | (rw [if_neg q17_3, if_neg (fun z => z.elim q17_2 q17_4)])
  · have c2 : 5 ≤ f := (lts1 (n := 4) (by decide)).mp (Int32.not_le.mp c2)
    refine x_iconst (v := 1) ho dX8_leavesOn_5 rfl ?_
    refine x_goto 10 ho dX8_leavesOn_6 (by decide) ?_
    refine x_ist3 ho dX8_leavesOn_10 (by rw [hk]; decide) rfl ?_
    refine x_ald0 ho dX8_leavesOn_11 ?_
    refine x_ild1 ho dX8_leavesOn_12 ?_
    refine x_iconst (v := 0) ho dX8_leavesOn_13 rfl ?_
    refine vMI2 ho cs_X8_104 (c_X8_of B _ _ _ _ d 0 hd (by decide)) rfl ⟨rfl, rfl⟩ ⟨Nat.le_of_ble_eq_true rfl, Nat.le_of_ble_eq_true rfl⟩ (Nat.le_of_ble_eq_true rfl) dX8_leavesOn_14 (fun r14 s14 t14 p14 => ?_)
    obtain ⟨rfl, rfl, rfl⟩ := p14
    refine x_topi (fun y17 ey17 => ?_)
    by_cases q17_2 : y17 = 2
    · rw [q17_2] at ey17 ⊢
      refine x_tin 46 ho dX8_leavesOn_17 (by decide) (by decide) (by rfl) (by decide) ?_
      refine x_ild3 ho dX8_leavesOn_46 ?_
      refine x_iconst (v := 1) ho dX8_leavesOn_47 rfl ?_
      refine x_iadd ho dX8_leavesOn_48 ?_
      refine x_iret ho hr ?_ dX8_leavesOn_49
      refine ⟨_, _, _, rfl, rfl, ?_, rfl, rfl⟩
      have ek : h 1 d = _ := ey17.symm
      rw [ek]
      unfold kLeaves
      first | rw [if_pos c2] | rw [if_neg c2]
      first | rfl | (rw [if_neg q17_3, if_neg (fun z => z.elim q17_2 q17_4)])
    · skip
      by_cases q17_3 : y17 = 3
      · rw [q17_3] at ey17 ⊢
        refine x_tin 44 ho dX8_leavesOn_17 (by decide) (by decide) (by rfl) (by decide) ?_
        refine x_iconst (v := 0) ho dX8_leavesOn_44 rfl ?_
        refine x_iret ho hr ?_ dX8_leavesOn_45
        refine ⟨_, _, _, rfl, rfl, ?_, rfl, rfl⟩
        have ek : h 1 d = _ := ey17.symm
        rw [ek]
        unfold kLeaves
        first | rw [if_pos c2] | rw [if_neg c2]
        first | rfl | (rw [if_neg q17_3, if_neg (fun z => z.elim q17_2 q17_4)])
      · skip
        by_cases q17_4 : y17 = 4
        · rw [q17_4] at ey17 ⊢
          refine x_tin 46 ho dX8_leavesOn_17 (by decide) (by decide) (by rfl) (by decide) ?_
          refine x_ild3 ho dX8_leavesOn_46 ?_
          refine x_iconst (v := 1) ho dX8_leavesOn_47 rfl ?_
          refine x_iadd ho dX8_leavesOn_48 ?_
          refine x_iret ho hr ?_ dX8_leavesOn_49
          refine ⟨_, _, _, rfl, rfl, ?_, rfl, rfl⟩
          have ek : h 1 d = _ := ey17.symm
          rw [ek]
          unfold kLeaves
          first | rw [if_pos c2] | rw [if_neg c2]
          first | rfl | (rw [if_neg q17_3, if_neg (fun z => z.elim q17_2 q17_4)])
        · skip
          refine x_tout 50 ho dX8_leavesOn_17 (by have tq17_2 := lv_neT q17_2 (a := 2) (by decide); have tq17_3 := lv_neT q17_3 (a := 3) (by decide); have tq17_4 := lv_neT q17_4 (a := 4) (by decide); omega) (by decide) ?_
          refine x_ild3 ho dX8_leavesOn_50 ?_
          refine x_iret ho hr ?_ dX8_leavesOn_51
          refine ⟨_, _, _, rfl, rfl, ?_, rfl, rfl⟩
          have ek : h 1 d = _ := ey17.symm
          rw [ek]
          unfold kLeaves
          first | rw [if_pos c2] | rw [if_neg c2]
          first | rfl | (rw [if_neg q17_3, if_neg (fun z => z.elim q17_2 q17_4)])
set_option maxRecDepth 100000 in
set_option maxHeartbeats 4000000 in
theorem c_X8_worthOf (B : BT) (μ : Nat → Nat → Int32) (δ : Nat → Int64) (h : HT) (T : Nat → Int32) (d : Nat) (hd : d < 12) : MI B yX8_worthOf cX8_worthOf 3 (some .int) ({ frames := 1, cells := 0, slots := 0, locals := 22 }) [.ref (aB B 0), .int (nI d)] (up1 μ 1 (en h T)) δ (fun r μ' δ' => r = kWorth (h 1 d) (h 3 d) ∧ μ' = up1 μ 1 (en h T) ∧ δ' = δ) := by
  refine MX.of2 RX8 (by decide) rfl ⟨rfl, rfl⟩ (Nat.le_of_ble_eq_true rfl) (by rfl) (fun k ho hr hk => ?_)
  show XM B k (up1 μ 1 (en h T)) δ 0 [some (.ref (aB B 0)), some (.int (nI d)), none] []
  refine x_ald0 ho dX8_worthOf_0 ?_
  refine x_ild1 ho dX8_worthOf_1 ?_
  refine x_iconst (v := 2) ho dX8_worthOf_2 rfl ?_
  refine vMI2 ho cs_X8_104 (c_X8_of B _ _ _ _ d 2 hd (by decide)) rfl ⟨rfl, rfl⟩ ⟨Nat.le_of_ble_eq_true rfl, Nat.le_of_ble_eq_true rfl⟩ (Nat.le_of_ble_eq_true rfl) dX8_worthOf_3 (fun r3 s3 t3 p3 => ?_)
  obtain ⟨rfl, rfl, rfl⟩ := p3
  refine x_ist2 ho dX8_worthOf_6 (by rw [hk]; decide) rfl ?_
  refine x_ald0 ho dX8_worthOf_7 ?_
  refine x_ild1 ho dX8_worthOf_8 ?_
  refine x_iconst (v := 0) ho dX8_worthOf_9 rfl ?_
  refine vMI2 ho cs_X8_104 (c_X8_of B _ _ _ _ d 0 hd (by decide)) rfl ⟨rfl, rfl⟩ ⟨Nat.le_of_ble_eq_true rfl, Nat.le_of_ble_eq_true rfl⟩ (Nat.le_of_ble_eq_true rfl) dX8_worthOf_10 (fun r10 s10 t10 p10 => ?_)
  obtain ⟨rfl, rfl, rfl⟩ := p10
  refine x_topi (fun y13 ey13 => ?_)
  by_cases q13_1 : y13 = 1
  · rw [q13_1] at ey13 ⊢
    refine x_tin 48 ho dX8_worthOf_13 (by decide) (by decide) (by rfl) (by decide) ?_
    refine x_ild2 ho dX8_worthOf_48 ?_
    refine x_bipush (v := 8) ho dX8_worthOf_49 rfl ?_
    refine x_iadd ho dX8_worthOf_51 ?_
    refine x_iret ho hr ?_ dX8_worthOf_52
    refine ⟨_, _, _, rfl, rfl, ?_, rfl, rfl⟩
    have ek : h 1 d = _ := ey13.symm
    rw [ek]
    unfold kWorth
    first | rfl | exact wo7 | exact Int32.mul_comm _ _ | (rw [if_neg q13_1, if_neg q13_2, if_neg q13_3, if_neg q13_4, if_neg q13_5])
  · skip
    by_cases q13_2 : y13 = 2
    · rw [q13_2] at ey13 ⊢
      refine x_tin 53 ho dX8_worthOf_13 (by decide) (by decide) (by rfl) (by decide) ?_
      refine x_sipush (v := 999) ho dX8_worthOf_53 rfl ?_
      refine x_ild2 ho dX8_worthOf_56 ?_
      refine x_isub ho dX8_worthOf_57 ?_
      refine x_iret ho hr ?_ dX8_worthOf_58
      refine ⟨_, _, _, rfl, rfl, ?_, rfl, rfl⟩
      have ek : h 1 d = _ := ey13.symm
      rw [ek]
      unfold kWorth
      first | rfl | exact wo7 | exact Int32.mul_comm _ _ | (rw [if_neg q13_1, if_neg q13_2, if_neg q13_3, if_neg q13_4, if_neg q13_5])
    · skip
      by_cases q13_3 : y13 = 3
      · rw [q13_3] at ey13 ⊢
        refine x_tin 59 ho dX8_worthOf_13 (by decide) (by decide) (by rfl) (by decide) ?_
        refine x_iconst (v := 2) ho dX8_worthOf_59 rfl ?_
        refine x_ild2 ho dX8_worthOf_60 ?_
        refine x_bipush (v := 8) ho dX8_worthOf_61 rfl ?_
        refine x_iadd ho dX8_worthOf_63 ?_
        refine x_imul ho dX8_worthOf_64 ?_
        refine x_iret ho hr ?_ dX8_worthOf_65
        refine ⟨_, _, _, rfl, rfl, ?_, rfl, rfl⟩
        have ek : h 1 d = _ := ey13.symm
        rw [ek]
        unfold kWorth
        first | rfl | exact wo7 | exact Int32.mul_comm _ _ | (rw [if_neg q13_1, if_neg q13_2, if_neg q13_3, if_neg q13_4, if_neg q13_5])
      · skip
        by_cases q13_4 : y13 = 4
        · rw [q13_4] at ey13 ⊢
          refine x_tin 66 ho dX8_worthOf_13 (by decide) (by decide) (by rfl) (by decide) ?_
          refine x_sipush (v := 992) ho dX8_worthOf_66 rfl ?_
          refine x_ild2 ho dX8_worthOf_69 ?_
          refine x_isub ho dX8_worthOf_70 ?_
          refine x_iret ho hr ?_ dX8_worthOf_71
          refine ⟨_, _, _, rfl, rfl, ?_, rfl, rfl⟩
          have ek : h 1 d = _ := ey13.symm
          rw [ek]
          unfold kWorth
          first | rfl | exact wo7 | exact Int32.mul_comm _ _ | (rw [if_neg q13_1, if_neg q13_2, if_neg q13_3, if_neg q13_4, if_neg q13_5])
        · skip
          by_cases q13_5 : y13 = 5
          · rw [q13_5] at ey13 ⊢
            refine x_tin 72 ho dX8_worthOf_13 (by decide) (by decide) (by rfl) (by decide) ?_
            refine x_bipush (v := 12) ho dX8_worthOf_72 rfl ?_
            refine x_iret ho hr ?_ dX8_worthOf_74
            refine ⟨_, _, _, rfl, rfl, ?_, rfl, rfl⟩
            have ek : h 1 d = _ := ey13.symm
            rw [ek]
            unfold kWorth
            first | rfl | exact wo7 | exact Int32.mul_comm _ _ | (rw [if_neg q13_1, if_neg q13_2, if_neg q13_3, if_neg q13_4, if_neg q13_5])
          · skip
            refine x_tout 75 ho dX8_worthOf_13 (by have tq13_1 := lv_neT q13_1 (a := 1) (by decide); have tq13_2 := lv_neT q13_2 (a := 2) (by decide); have tq13_3 := lv_neT q13_3 (a := 3) (by decide); have tq13_4 := lv_neT q13_4 (a := 4) (by decide); have tq13_5 := lv_neT q13_5 (a := 5) (by decide); omega) (by decide) ?_
            refine x_ild2 ho dX8_worthOf_75 ?_
            refine x_iret ho hr ?_ dX8_worthOf_76
            refine ⟨_, _, _, rfl, rfl, ?_, rfl, rfl⟩
            have ek : h 1 d = _ := ey13.symm
            rw [ek]
            unfold kWorth
            first | rfl | exact wo7 | exact Int32.mul_comm _ _ | (rw [if_neg q13_1, if_neg q13_2, if_neg q13_3, if_neg q13_4, if_neg q13_5])
set_option maxRecDepth 100000 in
set_option maxHeartbeats 4000000 in
theorem c_X8_floorUnder (B : BT) (μ : Nat → Nat → Int32) (δ : Nat → Int64) (h : HT) (T : Nat → Int32) (hi : HI h) (d : Nat) (hd : d < 12) : MI B yX8_floorUnder cX8_floorUnder 2 (some .int) ({ frames := 1, cells := 0, slots := 0, locals := 22 }) [.ref (aB B 0), .int (nI d)] (up1 μ 1 (en h T)) δ (fun r μ' δ' => r = h 6 (ix (h 2 d)) ∧ μ' = up1 μ 1 (en h T) ∧ δ' = δ) := by
  refine MX.of2 RX8 (by decide) rfl ⟨rfl, rfl⟩ (Nat.le_of_ble_eq_true rfl) (by rfl) (fun k ho hr hk => ?_)
  show XM B k (up1 μ 1 (en h T)) δ 0 [some (.ref (aB B 0)), some (.int (nI d))] []
  have ha := rg_ix (hi.at hd) (by decide)
  refine x_ald0 ho dX8_floorUnder_0 ?_
  refine r_X8_9 ho dX8_floorUnder_1 ?_
  refine x_bipush (v := 7) ho dX8_floorUnder_4 rfl ?_
  refine x_ald0 ho dX8_floorUnder_6 ?_
  refine x_ild1 ho dX8_floorUnder_7 ?_
  refine x_iconst (v := 1) ho dX8_floorUnder_8 rfl ?_
  refine vMI2 ho cs_X8_104 (c_X8_of B _ _ _ _ d 1 hd (by decide)) rfl ⟨rfl, rfl⟩ ⟨Nat.le_of_ble_eq_true rfl, Nat.le_of_ble_eq_true rfl⟩ (Nat.le_of_ble_eq_true rfl) dX8_floorUnder_9 (fun r9 s9 t9 p9 => ?_)
  obtain ⟨rfl, rfl, rfl⟩ := p9
  refine x_iadd ho dX8_floorUnder_12 ?_
  refine m_ld (7 + ix (h 2 d)) (by rw [ha.2.2, ix_n (by omega)]; exact nI_add 7 _) (by omega) ho dX8_floorUnder_13 ?_
  rw [en_fl (by omega)]
  refine x_iret ho hr ?_ dX8_floorUnder_14
  exact ⟨_, _, _, rfl, rfl, rfl, rfl, rfl⟩
set_option maxRecDepth 100000 in
set_option maxHeartbeats 4000000 in
theorem c_X8_isUnder (B : BT) (μ : Nat → Nat → Int32) (δ : Nat → Int64) (kd a : Int32) : MI B yX8_isUnder cX8_isUnder 2 (some .boolean) ({ frames := 0, cells := 0, slots := 0, locals := 0 }) [.int kd, .int a] μ δ (fun r μ' δ' => r = bI (kIsOfB kd a = true) ∧ μ' = μ ∧ δ' = δ) := by
  refine MX.of2 RX8 (by decide) rfl ⟨rfl, rfl⟩ (Nat.le_of_ble_eq_true rfl) (by rfl) (fun k ho hr hk => ?_)
  show XM B k μ δ 0 [some (.int kd), some (.int a)] []
  refine x_ild1 ho dX8_isUnder_0 ?_
  refine x_if_eq 29 ho dX8_isUnder_1 (by decide) (fun c1 => ?_) (fun c1 => ?_)
  · refine x_iconst (v := 1) ho dX8_isUnder_29 rfl ?_
    refine x_goto 34 ho dX8_isUnder_30 (by decide) ?_
    refine x_zret ho hr (by decide) ?_ dX8_isUnder_34
    exact ⟨_, _, _, rfl, rfl, bI_e (by simp_all [kIsOfB]), rfl, rfl⟩
  · refine x_ild0 ho dX8_isUnder_4 ?_
    refine x_ild1 ho dX8_isUnder_5 ?_
    refine x_icmp_eq 29 ho dX8_isUnder_6 (by decide) (fun c6 => ?_) (fun c6 => ?_)
    · refine x_iconst (v := 1) ho dX8_isUnder_29 rfl ?_
      refine x_goto 34 ho dX8_isUnder_30 (by decide) ?_
      refine x_zret ho hr (by decide) ?_ dX8_isUnder_34
      exact ⟨_, _, _, rfl, rfl, bI_e (by simp_all [kIsOfB]), rfl, rfl⟩
    · refine x_ild1 ho dX8_isUnder_9 ?_
      refine x_iconst (v := 1) ho dX8_isUnder_10 rfl ?_
      refine x_icmp_ne 19 ho dX8_isUnder_11 (by decide) (fun c11 => ?_) (fun c11 => ?_)
      · refine x_ild1 ho dX8_isUnder_19 ?_
        refine x_iconst (v := 2) ho dX8_isUnder_20 rfl ?_
        refine x_icmp_ne 33 ho dX8_isUnder_21 (by decide) (fun c21 => ?_) (fun c21 => ?_)
        · refine x_iconst (v := 0) ho dX8_isUnder_33 rfl ?_
          refine x_zret ho hr (by decide) ?_ dX8_isUnder_34
          exact ⟨_, _, _, rfl, rfl, bI_e (by simp_all [kIsOfB]), rfl, rfl⟩
        · refine x_ild0 ho dX8_isUnder_24 ?_
          refine x_iconst (v := 4) ho dX8_isUnder_25 rfl ?_
          refine x_icmp_ne 33 ho dX8_isUnder_26 (by decide) (fun c26 => ?_) (fun c26 => ?_)
          · refine x_iconst (v := 0) ho dX8_isUnder_33 rfl ?_
            refine x_zret ho hr (by decide) ?_ dX8_isUnder_34
            exact ⟨_, _, _, rfl, rfl, bI_e (by simp_all [kIsOfB]), rfl, rfl⟩
          · refine x_iconst (v := 1) ho dX8_isUnder_29 rfl ?_
            refine x_goto 34 ho dX8_isUnder_30 (by decide) ?_
            refine x_zret ho hr (by decide) ?_ dX8_isUnder_34
            exact ⟨_, _, _, rfl, rfl, bI_e (by simp_all [kIsOfB]), rfl, rfl⟩
      · refine x_ild0 ho dX8_isUnder_14 ?_
        refine x_iconst (v := 3) ho dX8_isUnder_15 rfl ?_
        refine x_icmp_eq 29 ho dX8_isUnder_16 (by decide) (fun c16 => ?_) (fun c16 => ?_)
        · refine x_iconst (v := 1) ho dX8_isUnder_29 rfl ?_
          refine x_goto 34 ho dX8_isUnder_30 (by decide) ?_
          refine x_zret ho hr (by decide) ?_ dX8_isUnder_34
          exact ⟨_, _, _, rfl, rfl, bI_e (by simp_all [kIsOfB]), rfl, rfl⟩
        · refine x_ild1 ho dX8_isUnder_19 ?_
          refine x_iconst (v := 2) ho dX8_isUnder_20 rfl ?_
          refine x_icmp_ne 33 ho dX8_isUnder_21 (by decide) (fun c21 => ?_) (fun c21 => ?_)
          · refine x_iconst (v := 0) ho dX8_isUnder_33 rfl ?_
            refine x_zret ho hr (by decide) ?_ dX8_isUnder_34
            exact ⟨_, _, _, rfl, rfl, bI_e (by simp_all [kIsOfB]), rfl, rfl⟩
          · refine x_ild0 ho dX8_isUnder_24 ?_
            refine x_iconst (v := 4) ho dX8_isUnder_25 rfl ?_
            refine x_icmp_ne 33 ho dX8_isUnder_26 (by decide) (fun c26 => ?_) (fun c26 => ?_)
            · refine x_iconst (v := 0) ho dX8_isUnder_33 rfl ?_
              refine x_zret ho hr (by decide) ?_ dX8_isUnder_34
              exact ⟨_, _, _, rfl, rfl, bI_e (by simp_all [kIsOfB]), rfl, rfl⟩
            · refine x_iconst (v := 1) ho dX8_isUnder_29 rfl ?_
              refine x_goto 34 ho dX8_isUnder_30 (by decide) ?_
              refine x_zret ho hr (by decide) ?_ dX8_isUnder_34
              exact ⟨_, _, _, rfl, rfl, bI_e (by simp_all [kIsOfB]), rfl, rfl⟩
set_option maxRecDepth 100000 in
set_option maxHeartbeats 4000000 in
theorem c_X8_draw (B : BT) (μ : Nat → Nat → Int32) (δ : Nat → Int64) (h : HT) (T : Nat → Int32) : MI B yX8_draw cX8_draw 1 (some .int) ({ frames := 0, cells := 0, slots := 0, locals := 0 }) [.ref (aB B 0)] (up1 μ 1 (en h T)) δ (fun r μ' δ' => r = dz (h 0 13) ∧ μ' = up1 μ 1 (en (sZ h) T) ∧ δ' = δ) := by
  refine MX.of2 RX8 (by decide) rfl ⟨rfl, rfl⟩ (Nat.le_of_ble_eq_true rfl) (by rfl) (fun k ho hr hk => ?_)
  show XM B k (up1 μ 1 (en h T)) δ 0 [some (.ref (aB B 0))] []
  refine x_ald0 ho dX8_draw_0 ?_
  refine r_X8_9 ho dX8_draw_1 ?_
  refine x_iconst (v := 0) ho dX8_draw_4 rfl ?_
  refine x_ald0 ho dX8_draw_5 ?_
  refine r_X8_9 ho dX8_draw_6 ?_
  refine x_iconst (v := 0) ho dX8_draw_9 rfl ?_
  refine m_ld (0) (rfl) (by omega) ho dX8_draw_10 ?_
  change XM B k _ _ _ _ (.int (h 0 13) :: _)
  refine x_ldc ho kc_X8_151 dX8_draw_11 ?_
  refine x_imul ho dX8_draw_13 ?_
  refine x_sipush (v := 12345) ho dX8_draw_14 rfl ?_
  refine x_iadd ho dX8_draw_17 ?_
  refine m_st (0) (rfl) (by omega) ho dX8_draw_18 ?_
  rw [eu_0]
  refine x_ald0 ho dX8_draw_19 ?_
  refine r_X8_9 ho dX8_draw_20 ?_
  refine x_iconst (v := 0) ho dX8_draw_23 rfl ?_
  refine m_ld (0) (rfl) (by omega) ho dX8_draw_24 ?_
  change XM B k _ _ _ _ (.int (nz (h 0 13)) :: _)
  refine x_bipush (v := 8) ho dX8_draw_25 rfl ?_
  refine x_iushr ho dX8_draw_27 ?_
  refine x_iret ho hr ?_ dX8_draw_28
  exact ⟨_, _, _, rfl, rfl, rfl, rfl, rfl⟩
set_option maxRecDepth 100000 in
set_option maxHeartbeats 4000000 in
theorem c_X8_those (B : BT) (μ : Nat → Nat → Int32) (δ : Nat → Int64) (h : HT) (T : Nat → Int32) (hi : HI h) (x : Int32) : MI B yX8_those cX8_those 4 (some .int) ({ frames := 1, cells := 0, slots := 0, locals := 22 }) [.ref (aB B 0), .int x] (up1 μ 1 (en h T)) δ (fun r μ' δ' => r = sAt h x ∧ μ' = up1 μ 1 (en h T) ∧ δ' = δ) := by
  refine MX.of2 RX8 (by decide) rfl ⟨rfl, rfl⟩ (Nat.le_of_ble_eq_true rfl) (by rfl) (fun k ho hr hk => ?_)
  show XM B k (up1 μ 1 (en h T)) δ 0 [some (.ref (aB B 0)), some (.int x), none, none] []
  obtain ⟨hN12, hN⟩ := hi.n
  have loop : ∀ (f i : Nat), sN h < f + i → i ≤ sN h → XM B k (up1 μ 1 (en h T)) δ 4 [some (.ref (aB B 0)), some (.int x), some (.int (bitsF (fun d => decide (h 2 d = x)) i)), some (.int (nI i))] [] := by
    intro f
    induction f with
    | zero => intro i h1 h2; omega
    | succ f ih =>
      intro i h1 h2
      refine x_ild3 ho dX8_those_4 ?_
      refine x_ald0 ho dX8_those_5 ?_
      refine r_X8_9 ho dX8_those_6 ?_
      refine x_iconst (v := 1) ho dX8_those_9 rfl ?_
      refine m_ld (1) (rfl) (by omega) ho dX8_those_10 ?_
      change XM B k _ _ _ _ (.int (h 0 0) :: _)
      refine x_icmp_ge 40 ho dX8_those_11 (by decide) (fun c11 => ?_) (fun c11 => ?_)
      · rw [hN] at c11
        have c11 := n_le (by omega) (by omega) c11
        have ei : i = sN h := by omega
        subst ei
        refine x_ild2 ho dX8_those_40 ?_
        refine x_iret ho hr ?_ dX8_those_41
        exact ⟨_, _, _, rfl, rfl, rfl, rfl, rfl⟩
      · rw [hN] at c11
        have c11 := n_nle (by omega) (by omega) c11
        refine x_ild2 ho dX8_those_14 ?_
        refine x_ald0 ho dX8_those_15 ?_
        refine x_ild3 ho dX8_those_16 ?_
        refine x_iconst (v := 1) ho dX8_those_17 rfl ?_
        refine vMI2 ho cs_X8_104 (c_X8_of B _ _ _ _ i 1 (by omega) (by decide)) rfl ⟨rfl, rfl⟩ ⟨Nat.le_of_ble_eq_true rfl, Nat.le_of_ble_eq_true rfl⟩ (Nat.le_of_ble_eq_true rfl) dX8_those_18 (fun r18 s18 t18 p18 => ?_)
        obtain ⟨rfl, rfl, rfl⟩ := p18
        refine x_ild1 ho dX8_those_21 ?_
        refine x_icmp_ne 31 ho dX8_those_22 (by decide) (fun c22 => ?_) (fun c22 => ?_)
        · have eb : bitsF (fun d => decide (h 2 d = x)) (i + 1) = bitsF (fun d => decide (h 2 d = x)) i ||| 0 := by rw [bitsF_f (by simpa using c22), Int32.or_zero]
          refine x_iconst (v := 0) ho dX8_those_31 rfl ?_
          refine x_ior ho dX8_those_32 ?_
          refine x_ist2 ho dX8_those_33 (by rw [hk]; decide) rfl ?_
          refine x_inc3 (y := 1) ho dX8_those_34 (by rw [hk]; decide) rfl rfl ?_
          refine x_goto 4 ho dX8_those_37 (by decide) ?_
          rw [nI_1 i, ← eb]
          exact ih (i + 1) (by omega) (by omega)
        · have eb : bitsF (fun d => decide (h 2 d = x)) (i + 1) = bitsF (fun d => decide (h 2 d = x)) i ||| ((1 : Int32) <<< (nI i &&& 31)) := bitsF_t (by simpa using c22)
          refine x_iconst (v := 1) ho dX8_those_25 rfl ?_
          refine x_ild3 ho dX8_those_26 ?_
          refine x_ishl ho dX8_those_27 ?_
          refine x_goto 32 ho dX8_those_28 (by decide) ?_
          refine x_ior ho dX8_those_32 ?_
          refine x_ist2 ho dX8_those_33 (by rw [hk]; decide) rfl ?_
          refine x_inc3 (y := 1) ho dX8_those_34 (by rw [hk]; decide) rfl rfl ?_
          refine x_goto 4 ho dX8_those_37 (by decide) ?_
          rw [nI_1 i, ← eb]
          exact ih (i + 1) (by omega) (by omega)
  have loop := loop (sN h + 1) 0 (by omega) (by omega)
  refine x_iconst (v := 0) ho dX8_those_0 rfl ?_
  refine x_ist2 ho dX8_those_1 (by rw [hk]; decide) rfl ?_
  refine x_iconst (v := 0) ho dX8_those_2 rfl ?_
  refine x_ist3 ho dX8_those_3 (by rw [hk]; decide) rfl ?_
  exact loop
set_option maxRecDepth 100000 in
set_option maxHeartbeats 4000000 in
theorem c_X8_bare (B : BT) (μ : Nat → Nat → Int32) (δ : Nat → Int64) (h : HT) (T : Nat → Int32) (hi : HI h) : MI B yX8_bare cX8_bare 3 (some .int) ({ frames := 1, cells := 0, slots := 0, locals := 22 }) [.ref (aB B 0)] (up1 μ 1 (en h T)) δ (fun r μ' δ' => r = sBare h ∧ μ' = up1 μ 1 (en h T) ∧ δ' = δ) := by
  refine MX.of2 RX8 (by decide) rfl ⟨rfl, rfl⟩ (Nat.le_of_ble_eq_true rfl) (by rfl) (fun k ho hr hk => ?_)
  show XM B k (up1 μ 1 (en h T)) δ 0 [some (.ref (aB B 0)), none, none] []
  obtain ⟨hN12, hN⟩ := hi.n
  have loop : ∀ (f i : Nat), sN h < f + i → i ≤ sN h → XM B k (up1 μ 1 (en h T)) δ 4 [some (.ref (aB B 0)), some (.int (bitsF (fun d => decide (h 3 d = 0)) i)), some (.int (nI i))] [] := by
    intro f
    induction f with
    | zero => intro i h1 h2; omega
    | succ f ih =>
      intro i h1 h2
      refine x_ild2 ho dX8_bare_4 ?_
      refine x_ald0 ho dX8_bare_5 ?_
      refine r_X8_9 ho dX8_bare_6 ?_
      refine x_iconst (v := 1) ho dX8_bare_9 rfl ?_
      refine m_ld (1) (rfl) (by omega) ho dX8_bare_10 ?_
      change XM B k _ _ _ _ (.int (h 0 0) :: _)
      refine x_icmp_ge 39 ho dX8_bare_11 (by decide) (fun c11 => ?_) (fun c11 => ?_)
      · rw [hN] at c11
        have c11 := n_le (by omega) (by omega) c11
        have ei : i = sN h := by omega
        subst ei
        refine x_ild1 ho dX8_bare_39 ?_
        refine x_iret ho hr ?_ dX8_bare_40
        exact ⟨_, _, _, rfl, rfl, rfl, rfl, rfl⟩
      · rw [hN] at c11
        have c11 := n_nle (by omega) (by omega) c11
        refine x_ild1 ho dX8_bare_14 ?_
        refine x_ald0 ho dX8_bare_15 ?_
        refine x_ild2 ho dX8_bare_16 ?_
        refine x_iconst (v := 2) ho dX8_bare_17 rfl ?_
        refine vMI2 ho cs_X8_104 (c_X8_of B _ _ _ _ i 2 (by omega) (by decide)) rfl ⟨rfl, rfl⟩ ⟨Nat.le_of_ble_eq_true rfl, Nat.le_of_ble_eq_true rfl⟩ (Nat.le_of_ble_eq_true rfl) dX8_bare_18 (fun r18 s18 t18 p18 => ?_)
        obtain ⟨rfl, rfl, rfl⟩ := p18
        refine x_if_ne 30 ho dX8_bare_21 (by decide) (fun c21 => ?_) (fun c21 => ?_)
        · have eb : bitsF (fun d => decide (h 3 d = 0)) (i + 1) = bitsF (fun d => decide (h 3 d = 0)) i ||| 0 := by rw [bitsF_f (by simpa using c21), Int32.or_zero]
          refine x_iconst (v := 0) ho dX8_bare_30 rfl ?_
          refine x_ior ho dX8_bare_31 ?_
          refine x_ist1 ho dX8_bare_32 (by rw [hk]; decide) rfl ?_
          refine x_inc2 (y := 1) ho dX8_bare_33 (by rw [hk]; decide) rfl rfl ?_
          refine x_goto 4 ho dX8_bare_36 (by decide) ?_
          rw [nI_1 i, ← eb]
          exact ih (i + 1) (by omega) (by omega)
        · have eb : bitsF (fun d => decide (h 3 d = 0)) (i + 1) = bitsF (fun d => decide (h 3 d = 0)) i ||| ((1 : Int32) <<< (nI i &&& 31)) := bitsF_t (by simpa using c21)
          refine x_iconst (v := 1) ho dX8_bare_24 rfl ?_
          refine x_ild2 ho dX8_bare_25 ?_
          refine x_ishl ho dX8_bare_26 ?_
          refine x_goto 31 ho dX8_bare_27 (by decide) ?_
          refine x_ior ho dX8_bare_31 ?_
          refine x_ist1 ho dX8_bare_32 (by rw [hk]; decide) rfl ?_
          refine x_inc2 (y := 1) ho dX8_bare_33 (by rw [hk]; decide) rfl rfl ?_
          refine x_goto 4 ho dX8_bare_36 (by decide) ?_
          rw [nI_1 i, ← eb]
          exact ih (i + 1) (by omega) (by omega)
  have loop := loop (sN h + 1) 0 (by omega) (by omega)
  refine x_iconst (v := 0) ho dX8_bare_0 rfl ?_
  refine x_ist1 ho dX8_bare_1 (by rw [hk]; decide) rfl ?_
  refine x_iconst (v := 0) ho dX8_bare_2 rfl ?_
  refine x_ist2 ho dX8_bare_3 (by rw [hk]; decide) rfl ?_
  exact loop
set_option maxRecDepth 100000 in
set_option maxHeartbeats 4000000 in
theorem c_X8_sumOf (B : BT) (μ : Nat → Nat → Int32) (δ : Nat → Int64) (h : HT) (T : Nat → Int32) (hi : HI h) (w : Nat) (hw : w < 5) : MI B yX8_sumOf cX8_sumOf 4 (some .int) ({ frames := 1, cells := 0, slots := 0, locals := 22 }) [.ref (aB B 0), .int (nI w)] (up1 μ 1 (en h T)) δ (fun r μ' δ' => r = sSum h (w + 1) ∧ μ' = up1 μ 1 (en h T) ∧ δ' = δ) := by
  refine MX.of2 RX8 (by decide) rfl ⟨rfl, rfl⟩ (Nat.le_of_ble_eq_true rfl) (by rfl) (fun k ho hr hk => ?_)
  show XM B k (up1 μ 1 (en h T)) δ 0 [some (.ref (aB B 0)), some (.int (nI w)), none, none] []
  obtain ⟨hN12, hN⟩ := hi.n
  have loop : ∀ (f i : Nat), sN h < f + i → i ≤ sN h → XM B k (up1 μ 1 (en h T)) δ 4 [some (.ref (aB B 0)), some (.int (nI w)), some (.int (sumF (h (w + 1)) i)), some (.int (nI i))] [] := by
    intro f
    induction f with
    | zero => intro i h1 h2; omega
    | succ f ih =>
      intro i h1 h2
      refine x_ild3 ho dX8_sumOf_4 ?_
      refine x_ald0 ho dX8_sumOf_5 ?_
      refine r_X8_9 ho dX8_sumOf_6 ?_
      refine x_iconst (v := 1) ho dX8_sumOf_9 rfl ?_
      refine m_ld (1) (rfl) (by omega) ho dX8_sumOf_10 ?_
      change XM B k _ _ _ _ (.int (h 0 0) :: _)
      refine x_icmp_ge 29 ho dX8_sumOf_11 (by decide) (fun c11 => ?_) (fun c11 => ?_)
      · rw [hN] at c11
        have c11 := n_le (by omega) (by omega) c11
        have ei : i = sN h := by omega
        subst ei
        refine x_ild2 ho dX8_sumOf_29 ?_
        refine x_iret ho hr ?_ dX8_sumOf_30
        exact ⟨_, _, _, rfl, rfl, rfl, rfl, rfl⟩
      · rw [hN] at c11
        have c11 := n_nle (by omega) (by omega) c11
        refine x_ild2 ho dX8_sumOf_14 ?_
        refine x_ald0 ho dX8_sumOf_15 ?_
        refine x_ild3 ho dX8_sumOf_16 ?_
        refine x_ild1 ho dX8_sumOf_17 ?_
        refine vMI2 ho cs_X8_104 (c_X8_of B _ _ _ _ i w (by omega) hw) rfl ⟨rfl, rfl⟩ ⟨Nat.le_of_ble_eq_true rfl, Nat.le_of_ble_eq_true rfl⟩ (Nat.le_of_ble_eq_true rfl) dX8_sumOf_18 (fun r18 s18 t18 p18 => ?_)
        obtain ⟨rfl, rfl, rfl⟩ := p18
        refine x_iadd ho dX8_sumOf_21 ?_
        have eb : sumF (h (w + 1)) (i + 1) = sumF (h (w + 1)) i + h (w + 1) i := rfl
        refine x_ist2 ho dX8_sumOf_22 (by rw [hk]; decide) rfl ?_
        refine x_inc3 (y := 1) ho dX8_sumOf_23 (by rw [hk]; decide) rfl rfl ?_
        refine x_goto 4 ho dX8_sumOf_26 (by decide) ?_
        rw [nI_1 i, ← eb]
        exact ih (i + 1) (by omega) (by omega)
  have loop := loop (sN h + 1) 0 (by omega) (by omega)
  refine x_iconst (v := 0) ho dX8_sumOf_0 rfl ?_
  refine x_ist2 ho dX8_sumOf_1 (by rw [hk]; decide) rfl ?_
  refine x_iconst (v := 0) ho dX8_sumOf_2 rfl ?_
  refine x_ist3 ho dX8_sumOf_3 (by rw [hk]; decide) rfl ?_
  exact loop
set_option maxRecDepth 100000 in
set_option maxHeartbeats 4000000 in
theorem c_X8_marks (B : BT) (μ : Nat → Nat → Int32) (δ : Nat → Int64) (h : HT) (T : Nat → Int32) : MI B yX8_marks cX8_marks 3 (some .int) ({ frames := 0, cells := 0, slots := 0, locals := 0 }) [.ref (aB B 0)] (up1 μ 1 (en h T)) δ (fun r μ' δ' => r = sMarks h ∧ μ' = up1 μ 1 (en h T) ∧ δ' = δ) := by
  refine MX.of2 RX8 (by decide) rfl ⟨rfl, rfl⟩ (Nat.le_of_ble_eq_true rfl) (by rfl) (fun k ho hr hk => ?_)
  show XM B k (up1 μ 1 (en h T)) δ 0 [some (.ref (aB B 0)), none, none] []
  have loop : ∀ (f i : Nat), 10 < f + i → i ≤ 10 → XM B k (up1 μ 1 (en h T)) δ 4 [some (.ref (aB B 0)), some (.int (sumF (h 8) i)), some (.int (nI i))] [] := by
    intro f
    induction f with
    | zero => intro i h1 h2; omega
    | succ f ih =>
      intro i h1 h2
      refine x_ild2 ho dX8_marks_4 ?_
      refine x_bipush (v := 10) ho dX8_marks_5 rfl ?_
      refine x_icmp_ge 28 ho dX8_marks_7 (by decide) (fun c7 => ?_) (fun c7 => ?_)
      · have c7 := n_le (a := 10) (by decide) (by omega) c7
        have ei : i = 10 := by omega
        subst ei
        refine x_ild1 ho dX8_marks_28 ?_
        refine x_iret ho hr ?_ dX8_marks_29
        exact ⟨_, _, _, rfl, rfl, rfl, rfl, rfl⟩
      · have c7 := n_nle (a := 10) (b := i) (by decide) (by omega) c7
        refine x_ild1 ho dX8_marks_10 ?_
        refine x_ald0 ho dX8_marks_11 ?_
        refine r_X8_9 ho dX8_marks_12 ?_
        refine x_bipush (v := 27) ho dX8_marks_15 rfl ?_
        refine x_ild2 ho dX8_marks_17 ?_
        refine x_iadd ho dX8_marks_18 ?_
        refine m_ld (27 + i) (nI_add 27 i) (by omega) ho dX8_marks_19 ?_
        rw [en_mk (by omega)]
        refine x_iadd ho dX8_marks_20 ?_
        have eb : sumF (h 8) (i + 1) = sumF (h 8) i + h 8 i := rfl
        refine x_ist1 ho dX8_marks_21 (by rw [hk]; decide) rfl ?_
        refine x_inc2 (y := 1) ho dX8_marks_22 (by rw [hk]; decide) rfl rfl ?_
        refine x_goto 4 ho dX8_marks_25 (by decide) ?_
        rw [nI_1 i, ← eb]
        exact ih (i + 1) (by omega) (by omega)
  have loop := loop (10 + 1) 0 (by omega) (by omega)
  refine x_iconst (v := 0) ho dX8_marks_0 rfl ?_
  refine x_ist1 ho dX8_marks_1 (by rw [hk]; decide) rfl ?_
  refine x_iconst (v := 0) ho dX8_marks_2 rfl ?_
  refine x_ist2 ho dX8_marks_3 (by rw [hk]; decide) rfl ?_
  exact loop
def wzL (h : HT) (y : Int32) : Nat → Nat → Int32 → Int32
  | 0, _, _ => -1
  | m + 1, n, x => if x = y then nI n else wzL h y m (n + 1) (h 7 (ix x))
def wzA (h : HT) (x y : Int32) : Int32 := wzL h y 10 1 (h 7 (ix x))
set_option maxRecDepth 100000 in
set_option maxHeartbeats 4000000 in
theorem c_X8_waysTo (B : BT) (μ : Nat → Nat → Int32) (δ : Nat → Int64) (h : HT) (T : Nat → Int32) (hi : HI h) (x y : Int32) (hx : rg x 0 9) : MI B yX8_waysTo cX8_waysTo 5 (some .int) ({ frames := 0, cells := 0, slots := 0, locals := 0 }) [.ref (aB B 0), .int x, .int y] (up1 μ 1 (en h T)) δ (fun r μ' δ' => r = wzA h x y ∧ μ' = up1 μ 1 (en h T) ∧ δ' = δ) := by
  refine MX.of2 RX8 (by decide) rfl ⟨rfl, rfl⟩ (Nat.le_of_ble_eq_true rfl) (by rfl) (fun k ho hr hk => ?_)
  show XM B k (up1 μ 1 (en h T)) δ 0 [some (.ref (aB B 0)), some (.int x), some (.int y), none, none] []
  have hx2 := rg_ix hx (by decide)
  have loop : ∀ (f m n : Nat) (y' : Int32), m < f → m + n = 10 → rg y' 0 9 → wzA h x y = wzL h y m (n + 1) y' → XM B k (up1 μ 1 (en h T)) δ 13 [some (.ref (aB B 0)), some (.int x), some (.int y), some (.int y'), some (.int (nI (n + 1)))] [] := by
    intro f
    induction f with
    | zero => intro m n y' h1; omega
    | succ f ih =>
      intro m n y' h1 h2 hy e1
      refine x_ild4 ho dX8_waysTo_13 ?_
      refine x_bipush (v := 10) ho dX8_waysTo_15 rfl ?_
      refine x_icmp_gt 44 ho dX8_waysTo_17 (by decide) (fun c17 => ?_) (fun c17 => ?_)
      · have c17 := n_nle (a := n + 1) (b := 10) (by omega) (by decide) (Int32.not_le.mpr c17)
        have em : m = 0 := by omega
        subst em
        refine x_iconst (v := (-1)) ho dX8_waysTo_44 rfl ?_
        refine x_iret ho hr ?_ dX8_waysTo_45
        exact ⟨_, _, _, rfl, rfl, e1.symm, rfl, rfl⟩
      · have c17 := n_le (a := n + 1) (b := 10) (by omega) (by decide) (Int32.not_lt.mp c17)
        obtain ⟨m, rfl⟩ : ∃ m', m = m' + 1 := ⟨m - 1, by omega⟩
        have hy2 := rg_ix hy (by decide)
        refine x_ild3 ho dX8_waysTo_20 ?_
        refine x_ild2 ho dX8_waysTo_21 ?_
        refine x_icmp_ne 28 ho dX8_waysTo_22 (by decide) (fun c22 => ?_) (fun c22 => ?_)
        · have e2 : wzL h y (m + 1) (n + 1) y' = wzL h y m (n + 1 + 1) (h 7 (ix y')) := if_neg c22
          refine x_ald0 ho dX8_waysTo_28 ?_
          refine r_X8_9 ho dX8_waysTo_29 ?_
          refine x_bipush (v := 17) ho dX8_waysTo_32 rfl ?_
          refine x_ild3 ho dX8_waysTo_34 ?_
          refine x_iadd ho dX8_waysTo_35 ?_
          refine m_ld (17 + ix y') (by rw [hy2.2.2, ix_n (by omega)]; exact nI_add 17 _) (by omega) ho dX8_waysTo_36 ?_
          rw [en_ld (by omega)]
          refine x_ist3 ho dX8_waysTo_37 (by rw [hk]; decide) rfl ?_
          refine x_inc4 (y := 1) ho dX8_waysTo_38 (by rw [hk]; decide) rfl rfl ?_
          refine x_goto 13 ho dX8_waysTo_41 (by decide) ?_
          rw [nI_1 (n + 1)]
          exact ih m (n + 1) _ (by omega) (by omega) (hi.leads (by omega)) (e1.trans e2)
        · have e2 : wzL h y (m + 1) (n + 1) y' = nI (n + 1) := if_pos c22
          refine x_ild4 ho dX8_waysTo_25 ?_
          refine x_iret ho hr ?_ dX8_waysTo_27
          exact ⟨_, _, _, rfl, rfl, (e1.trans e2).symm, rfl, rfl⟩
  have loop := loop 11 10 0 _ (by omega) (by omega) (hi.leads (by omega)) rfl
  refine x_ald0 ho dX8_waysTo_0 ?_
  refine r_X8_9 ho dX8_waysTo_1 ?_
  refine x_bipush (v := 17) ho dX8_waysTo_4 rfl ?_
  refine x_ild1 ho dX8_waysTo_6 ?_
  refine x_iadd ho dX8_waysTo_7 ?_
  refine m_ld (17 + ix x) (by rw [hx2.2.2, ix_n (by omega)]; exact nI_add 17 _) (by omega) ho dX8_waysTo_8 ?_
  rw [en_ld (by omega)]
  refine x_ist3 ho dX8_waysTo_9 (by rw [hk]; decide) rfl ?_
  refine x_iconst (v := 1) ho dX8_waysTo_10 rfl ?_
  refine x_ist4 ho dX8_waysTo_11 (by rw [hk]; decide) rfl ?_
  exact loop
/-- how many bits, one by one -/
def mo : Nat → Int32 → Nat
  | 0, _ => 0
  | n + 1, x => if x = 0 then 0 else mo n (x &&& (x - 1)) + 1
def mz : Nat → Int32 → Bool
  | 0, x => decide (x = 0)
  | n + 1, x => decide (x = 0) || mz n (x &&& (x - 1))
set_option maxRecDepth 100000 in
set_option maxHeartbeats 4000000 in
theorem c_X8_manyOf (B : BT) (μ : Nat → Nat → Int32) (δ : Nat → Int64) (x : Int32) (hz0 : mz 13 x = true) : MI B yX8_manyOf cX8_manyOf 3 (some .int) ({ frames := 0, cells := 0, slots := 0, locals := 0 }) [.int x] μ δ (fun r μ' δ' => r = nI (mo 13 x) ∧ μ' = μ ∧ δ' = δ) := by
  refine MX.of2 RX8 (by decide) rfl ⟨rfl, rfl⟩ (Nat.le_of_ble_eq_true rfl) (by rfl) (fun k ho hr hk => ?_)
  show XM B k μ δ 0 [some (.int x), none, none] []
  have loop : ∀ (f m n : Nat) (x' : Int32), m < f → mz m x' = true → mo 13 x = mo m x' + n → XM B k μ δ 4 [some (.int x), some (.int (nI n)), some (.int x')] [] := by
    intro f
    induction f with
    | zero => intro m n x' h1; omega
    | succ f ih =>
      intro m n x' h1 hz e1
      refine x_ild2 ho dX8_manyOf_4 ?_
      refine x_if_eq 20 ho dX8_manyOf_5 (by decide) (fun c5 => ?_) (fun c5 => ?_)
      · have e2 : mo m x' = 0 := by cases m with
          | zero => rfl
          | succ m => exact if_pos c5
        refine x_ild1 ho dX8_manyOf_20 ?_
        refine x_iret ho hr ?_ dX8_manyOf_21
        exact ⟨_, _, _, rfl, rfl, by rw [show nI (mo 13 x) = nI n by rw [e1, e2, Nat.zero_add]], rfl, rfl⟩
      · obtain ⟨m, rfl⟩ : ∃ m', m = m' + 1 := by
          cases m with
          | zero => exact absurd (of_decide_eq_true hz) c5
          | succ m => exact ⟨m, rfl⟩
        have e2 : mo (m + 1) x' = mo m (x' &&& (x' - 1)) + 1 := if_neg c5
        have hz' : mz m (x' &&& (x' - 1)) = true := by
          have hz := hz
          unfold mz at hz
          rw [decide_eq_false c5, Bool.false_or] at hz
          exact hz
        refine x_inc1 (y := 1) ho dX8_manyOf_8 (by rw [hk]; decide) rfl rfl ?_
        refine x_ild2 ho dX8_manyOf_11 ?_
        refine x_ild2 ho dX8_manyOf_12 ?_
        refine x_iconst (v := 1) ho dX8_manyOf_13 rfl ?_
        refine x_isub ho dX8_manyOf_14 ?_
        refine x_iand ho dX8_manyOf_15 ?_
        refine x_ist2 ho dX8_manyOf_16 (by rw [hk]; decide) rfl ?_
        refine x_goto 4 ho dX8_manyOf_17 (by decide) ?_
        rw [nI_1 n]
        exact ih m (n + 1) _ (by omega) hz' (by rw [e1, e2]; omega)
  have loop := loop 14 13 0 x (by omega) hz0 rfl
  refine x_iconst (v := 0) ho dX8_manyOf_0 rfl ?_
  refine x_ist1 ho dX8_manyOf_1 (by rw [hk]; decide) rfl ?_
  refine x_ild0 ho dX8_manyOf_2 ?_
  refine x_ist2 ho dX8_manyOf_3 (by rw [hk]; decide) rfl ?_
  exact loop
theorem up1_c {σ : Nat → Nat → Int32} {p q : Nat} {f g : Nat → Int32} (hpq : p ≠ q) : up1 (up1 σ p f) q g = up1 (up1 σ q g) p f := up1_comm hpq
/-- the first i of one row, the others of another one -/
def mixF (f g : Nat → Int32) (i : Nat) : Nat → Int32 := fun k => if k < i then f k else g k
theorem mixF_0 {f g : Nat → Int32} : mixF f g 0 = g := funext fun k => if_neg (Nat.not_lt_zero k)
theorem mixF_s {f g : Nat → Int32} {i : Nat} : upd (mixF f g i) i (f i) = mixF f g (i + 1) := by
  funext k
  unfold upd mixF
  by_cases e : k = i
  · rw [if_pos e, if_pos (by omega), e]
  · rw [if_neg e]
    by_cases e2 : k < i
    · rw [if_pos e2, if_pos (by omega)]
    · rw [if_neg e2, if_neg (by omega)]
set_option maxRecDepth 100000 in
set_option maxHeartbeats 4000000 in
theorem c_X8_thinks (B : BT) (μ : Nat → Nat → Int32) (δ : Nat → Int64) (h : HT) (T : Nat → Int32) (b4 : Nat → Int32) : MV B yX8_thinks cX8_thinks 2 none ({ frames := 0, cells := 0, slots := 0, locals := 0 }) [.ref (aB B 0)] (up1 (up1 μ 4 b4) 1 (en h T)) δ (fun μ' δ' => μ' = up1 (up1 μ 4 (en h T)) 1 (en h T) ∧ δ' = δ) := by
  refine MX.of2 RX8 (by decide) rfl ⟨rfl, rfl⟩ (Nat.le_of_ble_eq_true rfl) (by rfl) (fun k ho hr hk => ?_)
  show XM B k (up1 (up1 μ 4 b4) 1 (en h T)) δ 0 [some (.ref (aB B 0)), none] []
  have loop : ∀ (f i : Nat), 97 < f + i → i ≤ 97 → XM B k (up1 (up1 μ 4 (mixF (en h T) b4 i)) 1 (en h T)) δ 2 [some (.ref (aB B 0)), some (.int (nI i))] [] := by
    intro f
    induction f with
    | zero => intro i h1 h2; omega
    | succ f ih =>
      intro i h1 h2
      refine x_ild1 ho dX8_thinks_2 ?_
      refine x_bipush (v := 97) ho dX8_thinks_3 rfl ?_
      refine x_icmp_ge 26 ho dX8_thinks_5 (by decide) (fun c5 => ?_) (fun c5 => ?_)
      · have c5 := n_le (a := 97) (by decide) (by omega) c5
        have ei : i = 97 := by omega
        subst ei
        rw [up1_c (by decide)]
        refine xm_same1 (q := 4) (g := en h T) (fun _ => rfl) (fun j hj => if_pos hj) ?_
        rw [up1_c (by decide)]
        refine x_vret ho hr ?_ dX8_thinks_26
        exact ⟨_, _, rfl, rfl, rfl, rfl⟩
      · have c5 := n_nle (a := 97) (b := i) (by decide) (by omega) c5
        refine x_ald0 ho dX8_thinks_8 ?_
        refine r_X8_19 ho dX8_thinks_9 ?_
        refine x_ild1 ho dX8_thinks_12 ?_
        refine x_ald0 ho dX8_thinks_13 ?_
        refine r_X8_9 ho dX8_thinks_14 ?_
        refine x_ild1 ho dX8_thinks_17 ?_
        refine m_ld (i) (rfl) (by omega) ho dX8_thinks_18 ?_
        refine xm_iastN (i) (rfl) 4 (by show i < 97; omega) ho (by decide) (by decide) (fun _ => rfl) dX8_thinks_19 ?_
        rw [up1_c (by decide), up2_up1, mixF_s, up1_c (by decide)]
        refine x_inc1 (y := 1) ho dX8_thinks_20 (by rw [hk]; decide) rfl rfl ?_
        refine x_goto 2 ho dX8_thinks_23 (by decide) ?_
        rw [nI_1 i]
        exact ih (i + 1) (by omega) (by omega)
  have loop := loop 98 0 (by omega) (by omega)
  rw [mixF_0] at loop
  refine x_iconst (v := 0) ho dX8_thinks_0 rfl ?_
  refine x_ist1 ho dX8_thinks_1 (by rw [hk]; decide) rfl ?_
  exact loop
set_option maxRecDepth 100000 in
set_option maxHeartbeats 4000000 in
theorem c_X8_putsBack (B : BT) (μ : Nat → Nat → Int32) (δ : Nat → Int64) (h : HT) (T : Nat → Int32) (h' : HT) : MV B yX8_putsBack cX8_putsBack 2 none ({ frames := 0, cells := 0, slots := 0, locals := 0 }) [.ref (aB B 0)] (up1 (up1 μ 4 (en h T)) 1 (en h' T)) δ (fun μ' δ' => μ' = up1 (up1 μ 4 (en h T)) 1 (en h T) ∧ δ' = δ) := by
  refine MX.of2 RX8 (by decide) rfl ⟨rfl, rfl⟩ (Nat.le_of_ble_eq_true rfl) (by rfl) (fun k ho hr hk => ?_)
  show XM B k (up1 (up1 μ 4 (en h T)) 1 (en h' T)) δ 0 [some (.ref (aB B 0)), none] []
  have loop : ∀ (f i : Nat), 97 < f + i → i ≤ 97 → XM B k (up1 (up1 μ 4 (en h T)) 1 (mixF (en h T) (en h' T) i)) δ 2 [some (.ref (aB B 0)), some (.int (nI i))] [] := by
    intro f
    induction f with
    | zero => intro i h1 h2; omega
    | succ f ih =>
      intro i h1 h2
      refine x_ild1 ho dX8_putsBack_2 ?_
      refine x_bipush (v := 97) ho dX8_putsBack_3 rfl ?_
      refine x_icmp_ge 26 ho dX8_putsBack_5 (by decide) (fun c5 => ?_) (fun c5 => ?_)
      · have c5 := n_le (a := 97) (by decide) (by omega) c5
        have ei : i = 97 := by omega
        subst ei
        rw [show mixF (en h T) (en h' T) 97 = en h T by
              funext q
              unfold mixF
              by_cases e : q < 97
              · rw [if_pos e]
              · rw [if_neg e]
                unfold en
                rw [if_neg e, if_neg e]]
        refine x_vret ho hr ?_ dX8_putsBack_26
        exact ⟨_, _, rfl, rfl, rfl, rfl⟩
      · have c5 := n_nle (a := 97) (b := i) (by decide) (by omega) c5
        refine x_ald0 ho dX8_putsBack_8 ?_
        refine r_X8_9 ho dX8_putsBack_9 ?_
        refine x_ild1 ho dX8_putsBack_12 ?_
        refine x_ald0 ho dX8_putsBack_13 ?_
        refine r_X8_19 ho dX8_putsBack_14 ?_
        refine x_ild1 ho dX8_putsBack_17 ?_
        refine xm_ialdN (i) (rfl) 4 (by show i < 97; omega) ho (by decide) (fun _ => rfl) dX8_putsBack_18 ?_
        change XM B k _ _ _ _ (.int (en h T i) :: _)
        refine m_st (i) (rfl) (by omega) ho dX8_putsBack_19 ?_
        rw [mixF_s]
        refine x_inc1 (y := 1) ho dX8_putsBack_20 (by rw [hk]; decide) rfl rfl ?_
        refine x_goto 2 ho dX8_putsBack_23 (by decide) ?_
        rw [nI_1 i]
        exact ih (i + 1) (by omega) (by omega)
  have loop := loop 98 0 (by omega) (by omega)
  rw [mixF_0] at loop
  refine x_iconst (v := 0) ho dX8_putsBack_0 rfl ?_
  refine x_ist1 ho dX8_putsBack_1 (by rw [hk]; decide) rfl ?_
  exact loop
