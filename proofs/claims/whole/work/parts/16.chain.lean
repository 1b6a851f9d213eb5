/-! chain and piece, by the depth that is left -/
def mu (lvl o t : Nat) : Nat := 7 * (8 - o) + (8 - t) + (6 - lvl)
/-- what is said of chain, of piece -/
def ChainC (B : BT) (σ : Nat → Nat → Int32) (n : Nat) (key : Int32) (d : Nat) : Prop := ∀ (lvl o t : Nat) (S : PS), lvl ≤ 5 → o ≤ 8 → t ≤ 8 → mu lvl o t < d → RP σ n S →
  CI B yX3_chain cX3_chain 8 (some .boolean) (rmD d) [.ref (aB B 34), .ref (aB B 32), .int (nI lvl), .int (nI o), .int (nI t)] (RSt σ n S) (fun r σ' => r = bI ((pr (σ 33) n key d lvl o t S).1 = true) ∧ σ' = RSt σ n (pr (σ 33) n key d lvl o t S).2)
def PieceC (B : BT) (σ : Nat → Nat → Int32) (n : Nat) (key : Int32) (d : Nat) : Prop := ∀ (o t : Nat) (S : PS), o ≤ 8 → t ≤ 8 → mu 6 o t < d → RP σ n S →
  CI B yX3_piece cX3_piece 5 (some .boolean) (rmD d) [.ref (aB B 34), .ref (aB B 32), .int (nI o), .int (nI t)] (RSt σ n S) (fun r σ' => r = bI ((pr (σ 33) n key d 6 o t S).1 = true) ∧ σ' = RSt σ n (pr (σ 33) n key d 6 o t S).2)
theorem c_step_R (B : BT) {σ : Nat → Nat → Int32} {n : Nat} {S : PS} (hp : RP σ n S) : CV B yX6_step cX6_step 3 none ({ frames := 1, cells := 0, slots := 0, locals := 20 }) [.ref (aB B 32)] (RSt σ n S) (fun σ' => σ' = RSt σ n (pStep (σ 33) n S)) := by
  have h := c_X6_step B (RSt σ n S) (nI (tS (σ 33) n S.1)) (tK (σ 33) n S.1) n (tE (σ 33) n S.1) hp.1 hp.2.1 (tE_b hp.2.2.1).2.1
  rw [show T3 (RSt σ n S) (nI (tS (σ 33) n S.1)) (nI (tE (σ 33) n S.1)) (tK (σ 33) n S.1) = RSt σ n S from T3_id] at h
  rw [show T3 (RSt σ n S) (nI (tS (RSt σ n S 33) n (tE (σ 33) n S.1))) (nI (tE (RSt σ n S 33) n (tE (σ 33) n S.1))) (tK (RSt σ n S 33) n (tE (σ 33) n S.1)) = RSt σ n (pStep (σ 33) n S) from RSt_step] at h
  exact h
theorem pr_lo {b : Nat → Int32} {n : Nat} {key : Int32} {d lvl o t : Nat} {S : PS} (h : lvl ≤ 4) : pr b n key (d + 1) lvl o t S = if (pr b n key d (lvl + 1) o t S).1 = true then pLoop (pr b n key d (lvl + 1) o t) (pJoin b n (nI lvl)) (pStep b n) (if lvl = 2 then 1 else 96) (pr b n key d (lvl + 1) o t S).2 else (false, (pr b n key d (lvl + 1) o t S).2) := if_pos h
theorem pr_5 {b : Nat → Int32} {n : Nat} {key : Int32} {d o t : Nat} {S : PS} : pr b n key (d + 1) 5 o t S = pr b n key d 6 o t S := rfl
theorem pr_6 {b : Nat → Int32} {n : Nat} {key : Int32} {d o t : Nat} {S : PS} : pr b n key (d + 1) 6 o t S = if pSg b n S 33 = true then
      (if t < 8 then (if (pr b n key d 6 o (t + 1) (pStep b n S)).1 = true then (true, pPut (pr b n key d 6 o (t + 1) (pStep b n S)).2 (-5)) else (false, (pr b n key d 6 o (t + 1) (pStep b n S)).2)) else (false, S))
    else if pSg b n S 40 = true then
      (if o < 8 then (if (pr b n key d 0 (o + 1) t (pStep b n S)).1 = true ∧ pSg b n (pr b n key d 0 (o + 1) t (pStep b n S)).2 41 = true then (true, pStep b n (pr b n key d 0 (o + 1) t (pStep b n S)).2) else (false, (pr b n key d 0 (o + 1) t (pStep b n S)).2)) else (false, S))
    else if (pAtom b n key S) = -1 then (false, S)
    else (true, pStep b n (pOne (pPut S (pAtom b n key S)))) := rfl
theorem bI_x {P : Prop} [Decidable P] {x : Bool × PS} {b : Bool} {T : PS} (h : x = (b, T)) (hb : (b = true) ↔ P) : bI (x.1 = true) = bI P := by
  rw [h]
  by_cases q : P
  · rw [bI_t q, bI_t (hb.mpr q)]
  · rw [bI_f q, bI_f (fun z => q (hb.mp z))]
set_option maxRecDepth 100000 in
set_option maxHeartbeats 8000000 in
theorem piece_s (B : BT) (σ : Nat → Nat → Int32) (n : Nat) (key : Int32) (hk9 : σ 34 3 = key) (d : Nat) (hC : ChainC B σ n key d) (hP : PieceC B σ n key d) : PieceC B σ n key (d + 1) := by
  intro o t S ho ht hmu hp
  refine MX.of2 RX3 (by decide) rfl ⟨rfl, rfl⟩ (Nat.le_of_ble_eq_true rfl) (by rfl) (fun k h hr hk => ?_)
  show XC B k (RSt σ n S) 0 [some (.ref (aB B 34)), some (.ref (aB B 32)), some (.int (nI o)), some (.int (nI t)), none] []
  have K114 : ¬ pSg (σ 33) n S 33 = true → ¬ pSg (σ 33) n S 40 = true → XC B k (RSt σ n S) 114 [some (.ref (aB B 34)), some (.ref (aB B 32)), some (.int (nI o)), some (.int (nI t)), none] [.int (pAtom (σ 33) n key S)] := by
    intro c6 c49
    refine x_ist4 h dX3_piece_114 (by rw [hk]; decide) rfl ?_
    refine x_ild4 h dX3_piece_116 ?_
    refine x_iconst (v := (-1)) h dX3_piece_118 rfl ?_
    refine x_icmp_ne 124 h dX3_piece_119 (by decide) (fun c119 => ?_) (fun c119 => ?_)
    · refine x_ald0 h dX3_piece_124 ?_
      refine x_ild4 h dX3_piece_125 ?_
      refine vCV1 34 h cs_X3_64 (c_X3_put B σ n S hp _) (⟨by decide, fun _ _ => rfl⟩ : ObjC 34 2) rfl ⟨rfl, rfl⟩ ⟨by dsimp only [rmD]; omega, by dsimp only [rmD]; omega⟩ (Nat.le_of_ble_eq_true rfl) dX3_piece_127 (fun s127 p127 => ?_)
      obtain rfl := p127
      refine x_ald0 h dX3_piece_130 ?_
      refine x_dup h dX3_piece_131 rfl ?_
      refine r_X3_19 h dX3_piece_132 ?_
      refine x_iconst (v := 1) h dX3_piece_135 rfl ?_
      refine x_iadd h dX3_piece_136 ?_
      refine w_X3_19 h dX3_piece_137 ?_
      change XC B k (up2 (RSt σ n (pPut S (pAtom (σ 33) n key S))) 34 2 (nI (pPut S (pAtom (σ 33) n key S)).2.2.2 + 1)) 140 _ _
      rw [nI_1, RSt_one]
      refine x_ald1 h dX3_piece_140 ?_
      refine vCV0 32 h cs_X3_34 (c_step_R B (hp.ok (pOne_ok (pPut_ok hp.2.2)))) (⟨by decide, fun _ _ => rfl⟩ : ObjC 32 5) rfl ⟨rfl, rfl⟩ ⟨by dsimp only [rmD]; omega, by dsimp only [rmD]; omega⟩ (Nat.le_of_ble_eq_true rfl) dX3_piece_141 (fun s141 p141 => ?_)
      obtain rfl := p141
      refine x_iconst (v := 1) h dX3_piece_144 rfl ?_
      refine x_zret h hr (by decide) ?_ dX3_piece_145
      have e9 : pr (σ 33) n key (d + 1) 6 o t S = (true, pStep (σ 33) n (pOne (pPut S (pAtom (σ 33) n key S)))) := by
        rw [pr_6, if_neg c6, if_neg c49, if_neg c119]
      refine ⟨_, _, rfl, rfl, ?_, ?_⟩
      · rw [e9]; rfl
      · rw [e9]
    · refine x_iconst (v := 0) h dX3_piece_122 rfl ?_
      refine x_zret h hr (by decide) ?_ dX3_piece_123
      have e9 : pr (σ 33) n key (d + 1) 6 o t S = (false, S) := by
        rw [pr_6, if_neg c6, if_neg c49, if_pos c119]
      refine ⟨_, _, rfl, rfl, ?_, ?_⟩
      · rw [e9]; rfl
      · rw [e9]
  refine x_ald1 h dX3_piece_0 ?_
  refine x_bipush (v := 33) h dX3_piece_1 rfl ?_
  refine vCI1 32 h cs_X3_68 (c_X6_isSign B (RSt σ n S) (tS (σ 33) n S.1) rfl (sgs hp) _) (⟨by decide, fun _ _ => rfl⟩ : ObjC 32 5) rfl ⟨rfl, rfl⟩ ⟨by dsimp only [rmD]; omega, by dsimp only [rmD]; omega⟩ (Nat.le_of_ble_eq_true rfl) dX3_piece_3 (fun r3 s3 p3 => ?_)
  obtain ⟨rfl, rfl⟩ := p3
  refine x_if_eq 43 h dX3_piece_6 (by decide) (fun c6 => ?_) (fun c6 => ?_)
  · have c6 := bI_0.mp c6
    have c6 : ¬ pSg (σ 33) n S 33 = true := c6
    refine x_ald1 h dX3_piece_43 ?_
    refine x_bipush (v := 40) h dX3_piece_44 rfl ?_
    refine vCI1 32 h cs_X3_68 (c_X6_isSign B (RSt σ n S) (tS (σ 33) n S.1) rfl (sgs hp) _) (⟨by decide, fun _ _ => rfl⟩ : ObjC 32 5) rfl ⟨rfl, rfl⟩ ⟨by dsimp only [rmD]; omega, by dsimp only [rmD]; omega⟩ (Nat.le_of_ble_eq_true rfl) dX3_piece_46 (fun r46 s46 p46 => ?_)
    obtain ⟨rfl, rfl⟩ := p46
    refine x_if_eq 94 h dX3_piece_49 (by decide) (fun c49 => ?_) (fun c49 => ?_)
    · have c49 := bI_0.mp c49
      have c49 : ¬ pSg (σ 33) n S 40 = true := c49
      refine x_ald1 h dX3_piece_94 ?_
      refine r_X3_41 h dX3_piece_95 ?_
      refine x_iconst (v := 2) h dX3_piece_98 rfl ?_
      refine x_icmp_ne 109 h dX3_piece_99 (by decide) (fun c99 => ?_) (fun c99 => ?_)
      · have c99 : ¬ tK (σ 33) n S.1 = 2 := c99
        have ea : pName (σ 33) n key S = pAtom (σ 33) n key S := (if_neg c99).symm
        refine x_ald0 h dX3_piece_109 ?_
        refine x_ald1 h dX3_piece_110 ?_
        refine vCI1 34 h cs_X3_76 (c_X3_nameOf B σ n S hp key hk9) (⟨by decide, fun _ _ => rfl⟩ : ObjC 34 2) rfl ⟨rfl, rfl⟩ ⟨by dsimp only [rmD]; omega, by dsimp only [rmD]; omega⟩ (Nat.le_of_ble_eq_true rfl) dX3_piece_111 (fun r111 s111 p111 => ?_)
        obtain ⟨rfl, rfl⟩ := p111
        rw [ea]
        exact K114 c6 c49
      · have c99 : tK (σ 33) n S.1 = 2 := c99
        have ea : pNum (σ 33) n S = pAtom (σ 33) n key S := (if_pos c99).symm
        refine x_ald1 h dX3_piece_102 ?_
        refine vCI0 32 h cs_X3_72 (c_X6_number B (RSt σ n S) _ _ rfl rfl (tE_b (b := σ 33) hp.2.2.1).1 (by have := (tE_b (b := σ 33) hp.2.2.1).2.1; have := hp.2.1; omega)) (⟨by decide, fun _ _ => rfl⟩ : ObjC 32 5) rfl ⟨rfl, rfl⟩ ⟨by dsimp only [rmD]; omega, by dsimp only [rmD]; omega⟩ (Nat.le_of_ble_eq_true rfl) dX3_piece_103 (fun r103 s103 p103 => ?_)
        obtain ⟨rfl, rfl⟩ := p103
        change XC B k (RSt σ n S) 106 _ [.int (pNum (σ 33) n S)]
        rw [ea]
        refine x_goto 114 h dX3_piece_106 (by decide) ?_
        exact K114 c6 c49
    · have c49 := bI_n.mp c49
      have c49 : pSg (σ 33) n S 40 = true := c49
      refine x_ild2 h dX3_piece_52 ?_
      refine x_bipush (v := 8) h dX3_piece_53 rfl ?_
      refine x_icmp_lt 60 h dX3_piece_55 (by decide) (fun c55 => ?_) (fun c55 => ?_)
      · have c55 := n_lt (b := 8) (by omega) (by omega) c55
        refine x_ald1 h dX3_piece_60 ?_
        refine vCV0 32 h cs_X3_34 (c_step_R B hp) (⟨by decide, fun _ _ => rfl⟩ : ObjC 32 5) rfl ⟨rfl, rfl⟩ ⟨by dsimp only [rmD]; omega, by dsimp only [rmD]; omega⟩ (Nat.le_of_ble_eq_true rfl) dX3_piece_61 (fun s61 p61 => ?_)
        obtain rfl := p61
        refine x_ald0 h dX3_piece_64 ?_
        refine x_ald1 h dX3_piece_65 ?_
        refine x_iconst (v := 0) h dX3_piece_66 rfl ?_
        refine x_ild2 h dX3_piece_67 ?_
        refine x_iconst (v := 1) h dX3_piece_68 rfl ?_
        refine x_iadd h dX3_piece_69 ?_
        rw [nI_1 o]
        refine x_ild3 h dX3_piece_70 ?_
        refine vCI4 34 h cs_X3_37 (hC 0 (o + 1) t (pStep (σ 33) n S) (by omega) (by omega) (by omega) (by unfold mu at hmu ⊢; omega) (hp.ok (pStep_ok (b := σ 33) hp.2.2))) (⟨by decide, fun _ _ => rfl⟩ : ObjC 34 2) rfl ⟨rfl, rfl⟩ ⟨by dsimp only [rmD]; omega, by dsimp only [rmD]; omega⟩ (Nat.le_of_ble_eq_true rfl) dX3_piece_71 (fun r71 s71 p71 => ?_)
        obtain ⟨rfl, rfl⟩ := p71
        refine x_if_eq 86 h dX3_piece_74 (by decide) (fun c74 => ?_) (fun c74 => ?_)
        · have c74 := bI_0.mp c74
          refine x_iconst (v := 0) h dX3_piece_86 rfl ?_
          refine x_zret h hr (by decide) ?_ dX3_piece_87
          have e9 : pr (σ 33) n key (d + 1) 6 o t S = (false, (pr (σ 33) n key d 0 (o + 1) t (pStep (σ 33) n S)).2) := by
            rw [pr_6, if_neg c6, if_pos c49, if_pos c55, if_neg (by first | exact fun z => c74 z.1 | exact fun z => c83 z.2)]
          refine ⟨_, _, rfl, rfl, ?_, ?_⟩
          · rw [e9]; rfl
          · rw [e9]
        · have c74 := bI_n.mp c74
          refine x_ald1 h dX3_piece_77 ?_
          refine x_bipush (v := 41) h dX3_piece_78 rfl ?_
          refine vCI1 32 h cs_X3_68 (c_X6_isSign B (RSt σ n (pr (σ 33) n key d 0 (o + 1) t (pStep (σ 33) n S)).2) (tS (σ 33) n (pr (σ 33) n key d 0 (o + 1) t (pStep (σ 33) n S)).2.1) rfl (sgs ((hp.ok (pStep_ok (b := σ 33) hp.2.2)).ok (pr_ok _ _ _ _ _ (pStep_ok (b := σ 33) hp.2.2)))) _) (⟨by decide, fun _ _ => rfl⟩ : ObjC 32 5) rfl ⟨rfl, rfl⟩ ⟨by dsimp only [rmD]; omega, by dsimp only [rmD]; omega⟩ (Nat.le_of_ble_eq_true rfl) dX3_piece_80 (fun r80 s80 p80 => ?_)
          obtain ⟨rfl, rfl⟩ := p80
          refine x_if_ne 88 h dX3_piece_83 (by decide) (fun c83 => ?_) (fun c83 => ?_)
          · have c83 := bI_n.mp c83
            have c83 : pSg (σ 33) n (pr (σ 33) n key d 0 (o + 1) t (pStep (σ 33) n S)).2 41 = true := c83
            refine x_ald1 h dX3_piece_88 ?_
            refine vCV0 32 h cs_X3_34 (c_step_R B ((hp.ok (pStep_ok (b := σ 33) hp.2.2)).ok (pr_ok _ _ _ _ _ (pStep_ok (b := σ 33) hp.2.2)))) (⟨by decide, fun _ _ => rfl⟩ : ObjC 32 5) rfl ⟨rfl, rfl⟩ ⟨by dsimp only [rmD]; omega, by dsimp only [rmD]; omega⟩ (Nat.le_of_ble_eq_true rfl) dX3_piece_89 (fun s89 p89 => ?_)
            obtain rfl := p89
            refine x_iconst (v := 1) h dX3_piece_92 rfl ?_
            refine x_zret h hr (by decide) ?_ dX3_piece_93
            have e9 : pr (σ 33) n key (d + 1) 6 o t S = (true, pStep (σ 33) n (pr (σ 33) n key d 0 (o + 1) t (pStep (σ 33) n S)).2) := by
              rw [pr_6, if_neg c6, if_pos c49, if_pos c55, if_pos ⟨c74, c83⟩]
            refine ⟨_, _, rfl, rfl, ?_, ?_⟩
            · rw [e9]; rfl
            · rw [e9]
          · have c83 := bI_0.mp c83
            have c83 : ¬ pSg (σ 33) n (pr (σ 33) n key d 0 (o + 1) t (pStep (σ 33) n S)).2 41 = true := c83
            refine x_iconst (v := 0) h dX3_piece_86 rfl ?_
            refine x_zret h hr (by decide) ?_ dX3_piece_87
            have e9 : pr (σ 33) n key (d + 1) 6 o t S = (false, (pr (σ 33) n key d 0 (o + 1) t (pStep (σ 33) n S)).2) := by
              rw [pr_6, if_neg c6, if_pos c49, if_pos c55, if_neg (by first | exact fun z => c74 z.1 | exact fun z => c83 z.2)]
            refine ⟨_, _, rfl, rfl, ?_, ?_⟩
            · rw [e9]; rfl
            · rw [e9]
      · have c55 := n_nlt (b := 8) (by omega) (by omega) c55
        refine x_iconst (v := 0) h dX3_piece_58 rfl ?_
        refine x_zret h hr (by decide) ?_ dX3_piece_59
        have e9 : pr (σ 33) n key (d + 1) 6 o t S = (false, S) := by
          rw [pr_6, if_neg c6, if_pos c49, if_neg (by omega)]
        refine ⟨_, _, rfl, rfl, ?_, ?_⟩
        · rw [e9]; rfl
        · rw [e9]
  · have c6 := bI_n.mp c6
    have c6 : pSg (σ 33) n S 33 = true := c6
    refine x_ild3 h dX3_piece_9 ?_
    refine x_bipush (v := 8) h dX3_piece_10 rfl ?_
    refine x_icmp_lt 17 h dX3_piece_12 (by decide) (fun c12 => ?_) (fun c12 => ?_)
    · have c12 := n_lt (b := 8) (by omega) (by omega) c12
      refine x_ald1 h dX3_piece_17 ?_
      refine vCV0 32 h cs_X3_34 (c_step_R B hp) (⟨by decide, fun _ _ => rfl⟩ : ObjC 32 5) rfl ⟨rfl, rfl⟩ ⟨by dsimp only [rmD]; omega, by dsimp only [rmD]; omega⟩ (Nat.le_of_ble_eq_true rfl) dX3_piece_18 (fun s18 p18 => ?_)
      obtain rfl := p18
      refine x_ald0 h dX3_piece_21 ?_
      refine x_ald1 h dX3_piece_22 ?_
      refine x_ild2 h dX3_piece_23 ?_
      refine x_ild3 h dX3_piece_24 ?_
      refine x_iconst (v := 1) h dX3_piece_25 rfl ?_
      refine x_iadd h dX3_piece_26 ?_
      rw [nI_1 t]
      refine vCI3 34 h cs_X3_54 (hP o (t + 1) (pStep (σ 33) n S) (by omega) (by omega) (by unfold mu at hmu ⊢; omega) (hp.ok (pStep_ok (b := σ 33) hp.2.2))) (⟨by decide, fun _ _ => rfl⟩ : ObjC 34 2) rfl ⟨rfl, rfl⟩ ⟨by dsimp only [rmD]; omega, by dsimp only [rmD]; omega⟩ (Nat.le_of_ble_eq_true rfl) dX3_piece_27 (fun r27 s27 p27 => ?_)
      obtain ⟨rfl, rfl⟩ := p27
      refine x_if_ne 35 h dX3_piece_30 (by decide) (fun c30 => ?_) (fun c30 => ?_)
      · have c30 := bI_n.mp c30
        refine x_ald0 h dX3_piece_35 ?_
        refine x_bipush (v := (-5)) h dX3_piece_36 rfl ?_
        refine vCV1 34 h cs_X3_64 (c_X3_put B σ n (pr (σ 33) n key d 6 o (t + 1) (pStep (σ 33) n S)).2 ((hp.ok (pStep_ok (b := σ 33) hp.2.2)).ok (pr_ok _ _ _ _ _ (pStep_ok (b := σ 33) hp.2.2))) (-5)) (⟨by decide, fun _ _ => rfl⟩ : ObjC 34 2) rfl ⟨rfl, rfl⟩ ⟨by dsimp only [rmD]; omega, by dsimp only [rmD]; omega⟩ (Nat.le_of_ble_eq_true rfl) dX3_piece_38 (fun s38 p38 => ?_)
        obtain rfl := p38
        refine x_iconst (v := 1) h dX3_piece_41 rfl ?_
        refine x_zret h hr (by decide) ?_ dX3_piece_42
        have e9 : pr (σ 33) n key (d + 1) 6 o t S = (true, pPut (pr (σ 33) n key d 6 o (t + 1) (pStep (σ 33) n S)).2 (-5)) := by
          rw [pr_6, if_pos c6, if_pos c12, if_pos c30]
        refine ⟨_, _, rfl, rfl, ?_, ?_⟩
        · rw [e9]; rfl
        · rw [e9]
      · have c30 := bI_0.mp c30
        refine x_iconst (v := 0) h dX3_piece_33 rfl ?_
        refine x_zret h hr (by decide) ?_ dX3_piece_34
        have e9 : pr (σ 33) n key (d + 1) 6 o t S = (false, (pr (σ 33) n key d 6 o (t + 1) (pStep (σ 33) n S)).2) := by
          rw [pr_6, if_pos c6, if_pos c12, if_neg c30]
        refine ⟨_, _, rfl, rfl, ?_, ?_⟩
        · rw [e9]; rfl
        · rw [e9]
    · have c12 := n_nlt (b := 8) (by omega) (by omega) c12
      refine x_iconst (v := 0) h dX3_piece_15 rfl ?_
      refine x_zret h hr (by decide) ?_ dX3_piece_16
      have e9 : pr (σ 33) n key (d + 1) 6 o t S = (false, S) := by
        rw [pr_6, if_pos c6, if_neg (by omega)]
      refine ⟨_, _, rfl, rfl, ?_, ?_⟩
      · rw [e9]; rfl
      · rw [e9]
set_option maxRecDepth 100000 in
set_option maxHeartbeats 8000000 in
theorem chain_s (B : BT) (σ : Nat → Nat → Int32) (n : Nat) (key : Int32) (d : Nat) (hC : ChainC B σ n key d) (hP : PieceC B σ n key d) : ChainC B σ n key (d + 1) := by
  intro lvl o t S hl ho ht hmu hp
  refine MX.of2 RX3 (by decide) rfl ⟨rfl, rfl⟩ (Nat.le_of_ble_eq_true rfl) (by rfl) (fun k h hr hk => ?_)
  show XC B k (RSt σ n S) 0 [some (.ref (aB B 34)), some (.ref (aB B 32)), some (.int (nI lvl)), some (.int (nI o)), some (.int (nI t)), none, none, none] []
  have K41 : lvl ≤ 4 → (pr (σ 33) n key d (lvl + 1) o t S).1 = true → XC B k (RSt σ n (pr (σ 33) n key d (lvl + 1) o t S).2) 41 [some (.ref (aB B 34)), some (.ref (aB B 32)), some (.int (nI lvl)), some (.int (nI o)), some (.int (nI t)), none, none, none] [.int (nI (if lvl = 2 then 1 else 96))] := by
    intro hl4 c25
    have hRo := pr_ok (b := σ 33) (n := n) (key := key) d (lvl + 1) o t S hp.2.2
    have loop : ∀ (f m i : Nat) (S1 : PS), m < f → m + i = (if lvl = 2 then 1 else 96) → pOk n S1 → pr (σ 33) n key (d + 1) lvl o t S = pLoop (pr (σ 33) n key d (lvl + 1) o t) (pJoin (σ 33) n (nI lvl)) (pStep (σ 33) n) m S1 → XC B k (RSt σ n S1) 46 [some (.ref (aB B 34)), some (.ref (aB B 32)), some (.int (nI lvl)), some (.int (nI o)), some (.int (nI t)), some (.int (nI (if lvl = 2 then 1 else 96))), some (.int (nI i)), none] [] := by
      have hM : (if lvl = 2 then 1 else 96) ≤ 96 := by split <;> omega
      intro f
      induction f with
      | zero => intro m i S1 h1; omega
      | succ f ih =>
        intro m i S1 h1 h2 hS1 e0
        refine x_ild6 h dX3_chain_46 ?_
        refine x_ild5 h dX3_chain_48 ?_
        refine x_icmp_ge 100 h dX3_chain_50 (by decide) (fun c50 => ?_) (fun c50 => ?_)
        · have c50 := n_le (by omega) (by omega) c50
          have ei : m = 0 := by omega
          subst ei
          refine x_iconst (v := 1) h dX3_chain_100 rfl ?_
          refine x_zret h hr (by decide) ?_ dX3_chain_101
          exact ⟨_, _, rfl, rfl, by rw [e0]; rfl, by rw [e0]; rfl⟩
        · have c50 := n_nle (by omega) (by omega) c50
          obtain ⟨m, rfl⟩ : ∃ m', m = m' + 1 := ⟨m - 1, by omega⟩
          refine x_ald1 h dX3_chain_53 ?_
          refine x_ild2 h dX3_chain_54 ?_
          refine sCI2 h cs_X3_58 (c_X3_joinOf B σ n S1 (hp.ok hS1) _) ⟨rfl, rfl⟩ ⟨by dsimp only [rmD]; omega, by dsimp only [rmD]; omega⟩ (Nat.le_of_ble_eq_true rfl) dX3_chain_55 (fun r55 s55 p55 => ?_)
          obtain ⟨rfl, rfl⟩ := p55
          refine x_ist7 h dX3_chain_58 (by rw [hk]; decide) rfl ?_
          refine x_ild7 h dX3_chain_60 ?_
          refine x_iconst (v := (-1)) h dX3_chain_62 rfl ?_
          refine x_icmp_ne 68 h dX3_chain_63 (by decide) (fun c63 => ?_) (fun c63 => ?_)
          · have e1 : pLoop (pr (σ 33) n key d (lvl + 1) o t) (pJoin (σ 33) n (nI lvl)) (pStep (σ 33) n) (m + 1) S1 = if (pr (σ 33) n key d (lvl + 1) o t (pStep (σ 33) n S1)).1 = true then pLoop (pr (σ 33) n key d (lvl + 1) o t) (pJoin (σ 33) n (nI lvl)) (pStep (σ 33) n) m (pPut (pr (σ 33) n key d (lvl + 1) o t (pStep (σ 33) n S1)).2 ((pJoin (σ 33) n (nI lvl)) S1)) else (false, (pr (σ 33) n key d (lvl + 1) o t (pStep (σ 33) n S1)).2) := if_neg c63
            refine x_ald1 h dX3_chain_68 ?_
            refine vCV0 32 h cs_X3_34 (c_step_R B (hp.ok hS1)) (⟨by decide, fun _ _ => rfl⟩ : ObjC 32 5) rfl ⟨rfl, rfl⟩ ⟨by dsimp only [rmD]; omega, by dsimp only [rmD]; omega⟩ (Nat.le_of_ble_eq_true rfl) dX3_chain_69 (fun s69 p69 => ?_)
            obtain rfl := p69
            refine x_ald0 h dX3_chain_72 ?_
            refine x_ald1 h dX3_chain_73 ?_
            refine x_ild2 h dX3_chain_74 ?_
            refine x_iconst (v := 1) h dX3_chain_75 rfl ?_
            refine x_iadd h dX3_chain_76 ?_
            rw [nI_1 lvl]
            refine x_ild3 h dX3_chain_77 ?_
            refine x_ild4 h dX3_chain_78 ?_
            refine vCI4 34 h cs_X3_37 (hC (lvl + 1) o t (pStep (σ 33) n S1) (by omega) ho ht (by unfold mu at hmu ⊢; omega) (hp.ok (pStep_ok hS1))) (⟨by decide, fun _ _ => rfl⟩ : ObjC 34 2) rfl ⟨rfl, rfl⟩ ⟨by dsimp only [rmD]; omega, by dsimp only [rmD]; omega⟩ (Nat.le_of_ble_eq_true rfl) dX3_chain_80 (fun r80 s80 p80 => ?_)
            obtain ⟨rfl, rfl⟩ := p80
            refine x_if_ne 88 h dX3_chain_83 (by decide) (fun c83 => ?_) (fun c83 => ?_)
            · have c83 := bI_n.mp c83
              have e2 : pLoop (pr (σ 33) n key d (lvl + 1) o t) (pJoin (σ 33) n (nI lvl)) (pStep (σ 33) n) (m + 1) S1 = pLoop (pr (σ 33) n key d (lvl + 1) o t) (pJoin (σ 33) n (nI lvl)) (pStep (σ 33) n) m (pPut (pr (σ 33) n key d (lvl + 1) o t (pStep (σ 33) n S1)).2 ((pJoin (σ 33) n (nI lvl)) S1)) := e1.trans (if_pos c83)
              refine x_ald0 h dX3_chain_88 ?_
              refine x_ild7 h dX3_chain_89 ?_
              refine vCV1 34 h cs_X3_64 (c_X3_put B σ n (pr (σ 33) n key d (lvl + 1) o t (pStep (σ 33) n S1)).2 (hp.ok (pr_ok _ _ _ _ _ (pStep_ok hS1))) _) (⟨by decide, fun _ _ => rfl⟩ : ObjC 34 2) rfl ⟨rfl, rfl⟩ ⟨by dsimp only [rmD]; omega, by dsimp only [rmD]; omega⟩ (Nat.le_of_ble_eq_true rfl) dX3_chain_91 (fun s91 p91 => ?_)
              obtain rfl := p91
              refine x_inc6 (y := 1) h dX3_chain_94 (by rw [hk]; decide) rfl rfl ?_
              refine x_goto 46 h dX3_chain_97 (by decide) ?_
              rw [nI_1 i]
              refine x_loc (Lsb.s (Lsb.s (Lsb.s (Lsb.s (Lsb.s (Lsb.s (Lsb.s (Lsb.n Lsb.e)))))))) ?_
              exact ih m (i + 1) _ (by omega) (by omega) (pPut_ok (pr_ok _ _ _ _ _ (pStep_ok hS1))) (by rw [e0, e2])
            · have c83 := bI_0.mp c83
              have e2 : pLoop (pr (σ 33) n key d (lvl + 1) o t) (pJoin (σ 33) n (nI lvl)) (pStep (σ 33) n) (m + 1) S1 = (false, (pr (σ 33) n key d (lvl + 1) o t (pStep (σ 33) n S1)).2) := e1.trans (if_neg c83)
              refine x_iconst (v := 0) h dX3_chain_86 rfl ?_
              refine x_zret h hr (by decide) ?_ dX3_chain_87
              exact ⟨_, _, rfl, rfl, by rw [e0, e2]; rfl, by rw [e0, e2]⟩
          · have e1 : pLoop (pr (σ 33) n key d (lvl + 1) o t) (pJoin (σ 33) n (nI lvl)) (pStep (σ 33) n) (m + 1) S1 = (true, S1) := if_pos c63
            refine x_iconst (v := 1) h dX3_chain_66 rfl ?_
            refine x_zret h hr (by decide) ?_ dX3_chain_67
            exact ⟨_, _, rfl, rfl, by rw [e0, e1]; rfl, by rw [e0, e1]⟩
    have loop := loop ((if lvl = 2 then 1 else 96) + 1) (if lvl = 2 then 1 else 96) 0 (pr (σ 33) n key d (lvl + 1) o t S).2 (by omega) (by omega) hRo (by rw [pr_lo hl4, if_pos c25])
    refine x_ist5 h dX3_chain_41 (by rw [hk]; decide) rfl ?_
    refine x_iconst (v := 0) h dX3_chain_43 rfl ?_
    refine x_ist6 h dX3_chain_44 (by rw [hk]; decide) rfl ?_
    exact loop
  refine x_ild2 h dX3_chain_0 ?_
  refine x_iconst (v := 5) h dX3_chain_1 rfl ?_
  refine x_icmp_lt 14 h dX3_chain_2 (by decide) (fun c2 => ?_) (fun c2 => ?_)
  · have c2 := n_lt (b := 5) (by omega) (by omega) c2
    refine x_ald0 h dX3_chain_14 ?_
    refine x_ald1 h dX3_chain_15 ?_
    refine x_ild2 h dX3_chain_16 ?_
    refine x_iconst (v := 1) h dX3_chain_17 rfl ?_
    refine x_iadd h dX3_chain_18 ?_
    rw [nI_1 lvl]
    refine x_ild3 h dX3_chain_19 ?_
    refine x_ild4 h dX3_chain_20 ?_
    refine vCI4 34 h cs_X3_37 (hC (lvl + 1) o t S (by omega) ho ht (by unfold mu at hmu ⊢; omega) hp) (⟨by decide, fun _ _ => rfl⟩ : ObjC 34 2) rfl ⟨rfl, rfl⟩ ⟨by dsimp only [rmD]; omega, by dsimp only [rmD]; omega⟩ (Nat.le_of_ble_eq_true rfl) dX3_chain_22 (fun r22 s22 p22 => ?_)
    obtain ⟨rfl, rfl⟩ := p22
    refine x_if_ne 30 h dX3_chain_25 (by decide) (fun c25 => ?_) (fun c25 => ?_)
    · have c25 := bI_n.mp c25
      refine x_ild2 h dX3_chain_30 ?_
      refine x_iconst (v := 2) h dX3_chain_31 rfl ?_
      refine x_icmp_ne 39 h dX3_chain_32 (by decide) (fun c32 => ?_) (fun c32 => ?_)
      · have c32 : ¬ lvl = 2 := fun q => c32 (by rw [q]; rfl)
        have em : (if lvl = 2 then 1 else 96) = 96 := if_neg c32
        refine x_bipush (v := 96) h dX3_chain_39 rfl ?_
        rw [em] at K41
        exact K41 (by omega) c25
      · have c32 := n_eq (b := 2) (by omega) (by omega) c32
        have em : (if lvl = 2 then 1 else 96) = 1 := if_pos c32
        refine x_iconst (v := 1) h dX3_chain_35 rfl ?_
        refine x_goto 41 h dX3_chain_36 (by decide) ?_
        rw [em] at K41
        exact K41 (by omega) c25
    · have c25 := bI_0.mp c25
      refine x_iconst (v := 0) h dX3_chain_28 rfl ?_
      refine x_zret h hr (by decide) ?_ dX3_chain_29
      have e9 : pr (σ 33) n key (d + 1) lvl o t S = (false, (pr (σ 33) n key d (lvl + 1) o t S).2) := by
        rw [pr_lo (by omega), if_neg c25]
      refine ⟨_, _, rfl, rfl, ?_, ?_⟩
      · rw [e9]; rfl
      · rw [e9]
  · have c2 := n_nlt (b := 5) (by omega) (by omega) c2
    have el : lvl = 5 := by omega
    subst el
    refine x_ald0 h dX3_chain_5 ?_
    refine x_ald1 h dX3_chain_6 ?_
    refine x_ild3 h dX3_chain_7 ?_
    refine x_ild4 h dX3_chain_8 ?_
    refine vCI3 34 h cs_X3_54 (hP o t S ho ht (by unfold mu at hmu ⊢; omega) hp) (⟨by decide, fun _ _ => rfl⟩ : ObjC 34 2) rfl ⟨rfl, rfl⟩ ⟨by dsimp only [rmD]; omega, by dsimp only [rmD]; omega⟩ (Nat.le_of_ble_eq_true rfl) dX3_chain_10 (fun r10 s10 p10 => ?_)
    obtain ⟨rfl, rfl⟩ := p10
    refine x_zret h hr bI_01 ?_ dX3_chain_13
    exact ⟨_, _, rfl, rfl, by rw [pr_5], by rw [pr_5]⟩
theorem both (B : BT) (σ : Nat → Nat → Int32) (n : Nat) (key : Int32) (hk9 : σ 34 3 = key) : ∀ d, ChainC B σ n key d ∧ PieceC B σ n key d
  | 0 => ⟨fun _ _ _ _ _ _ _ h => absurd h (Nat.not_lt_zero _), fun _ _ _ _ _ h => absurd h (Nat.not_lt_zero _)⟩
  | d + 1 => ⟨chain_s B σ n key d (both B σ n key hk9 d).1 (both B σ n key hk9 d).2, piece_s B σ n key hk9 d (both B σ n key hk9 d).1 (both B σ n key hk9 d).2⟩
