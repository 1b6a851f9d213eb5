/-! the model thinks, and puts back -/
theorem MW_4 {μ : ST} {stk fc b : Nat → Int32} {h : HT} {T : Nat → Int32} : up1 (up1 (up1 (up1 μ 13 stk) 14 fc) 4 b) 1 (en h T) = MW (up1 μ 4 b) stk fc h T := by
  unfold MW
  rw [up1_comm (p := 14) (q := 4) (by decide), up1_comm (p := 13) (q := 4) (by decide)]
theorem MW4_J {μ : ST} {stk fc b : Nat → Int32} {h : HT} {T : Nat → Int32} : ∃ μ2, Jm μ μ2 ∧ MW (up1 μ 4 b) stk fc h T = up1 μ2 1 (en h T) := ⟨up1 (up1 (up1 μ 4 b) 13 stk) 14 fc, fun q h1 h2 h3 _ => by rw [up1_n h2, up1_n h1, up1_n h3], rfl⟩
theorem w_thinks (B : BT) (μ : ST) (δ : Nat → Int64) (stk fc : Nat → Int32) (h : HT) (T : Nat → Int32) : MV B yX8_thinks cX8_thinks 2 none ({ frames := 0, cells := 0, slots := 0, locals := 0 }) [.ref (aB B 0)] (MW μ stk fc h T) δ (fun μ' δ' => μ' = MW (up1 μ 4 (en h T)) stk fc h T ∧ δ' = δ) := by
  have z := c_X8_thinks B (up1 (up1 μ 13 stk) 14 fc) δ h T (up1 (up1 μ 13 stk) 14 fc 4)
  rw [up1_self] at z
  refine MX.mono z (fun v ce' hp => ?_)
  obtain ⟨μ', δ', e1, e2, e3, e4⟩ := hp
  exact ⟨μ', δ', e1, e2, e3.trans MW_4, e4⟩
theorem w_putsBack (B : BT) (μ : ST) (δ : Nat → Int64) (stk fc : Nat → Int32) (h : HT) (T : Nat → Int32) (h' : HT) : MV B yX8_putsBack cX8_putsBack 2 none ({ frames := 0, cells := 0, slots := 0, locals := 0 }) [.ref (aB B 0)] (MW (up1 μ 4 (en h T)) stk fc h' T) δ (fun μ' δ' => μ' = MW (up1 μ 4 (en h T)) stk fc h T ∧ δ' = δ) := by
  have z := c_X8_putsBack B (up1 (up1 μ 13 stk) 14 fc) δ h T h'
  rw [MW_4] at z
  refine MX.mono z (fun v ce' hp => ?_)
  obtain ⟨μ', δ', e1, e2, e3, e4⟩ := hp
  exact ⟨μ', δ', e1, e2, e3.trans MW_4, e4⟩
set_option maxRecDepth 100000 in
set_option maxHeartbeats 4000000 in
theorem c_X8_behind (B : BT) (μ : Nat → Nat → Int32) (δ : Nat → Int64) (h : HT) (T : Nat → Int32) (hi : HI h) (σ : ST) (hTR : TR σ h T) (n w : Int32) : MI B yX8_behind cX8_behind 4 (some .int) ({ frames := 6, cells := 0, slots := 0, locals := 139 }) [.ref (aB B 0), .int n, .int w] (up1 μ 1 (en h T)) δ (fun r μ' δ' => r = aBehind (gC σ (h 9 0)) h n w ∧ ∃ μ2, Jm μ μ2 ∧ μ' = up1 μ2 1 (en h T) ∧ δ' = δ) := by
  refine MX.of2 RX8 (by decide) rfl ⟨rfl, rfl⟩ (Nat.le_of_ble_eq_true rfl) (by rfl) (fun k ho hr hk => ?_)
  show XM B k (up1 μ 1 (en h T)) δ 0 [some (.ref (aB B 0)), some (.int n), some (.int w), none] []
  have K32 : (¬ n < 0 ∧ ¬ 100 < n) → isW h w = true → XM B k (up1 μ 1 (en h T)) δ 32 [some (.ref (aB B 0)), some (.int n), some (.int w), none] [] := by
    intro c7 hW
    obtain ⟨n', hn, rfl⟩ := nI_of c7.1
    have c7n := n_nlt (a := 100) (b := n') (by decide) hn c7.2
    have e0 : aBehind (gC σ (h 9 0)) h (nI n') w = (if w = 0 then (sHours (gC σ (h 9 0)) h n') 0 10 else if w = 1 then sMarks (sHours (gC σ (h 9 0)) h n') else if w = 2 then sBare (sHours (gC σ (h 9 0)) h n') else (sHours (gC σ (h 9 0)) h n') 2 (ix (w - 3))) := by
      rw [show aBehind (gC σ (h 9 0)) h (nI n') w = _ from if_pos ⟨c7, hW⟩, ix_n hn]
    rw [MW_0]
    refine x_ald0 ho dX8_behind_32 ?_
    refine vMV0 ho cs_X8_178 (w_thinks B _ _ _ _ _ _) rfl ⟨rfl, rfl⟩ ⟨Nat.le_of_ble_eq_true rfl, Nat.le_of_ble_eq_true rfl⟩ (Nat.le_of_ble_eq_true rfl) dX8_behind_33 (fun s33 t33 p33 => ?_)
    obtain ⟨rfl, rfl⟩ := p33
    refine x_ald0 ho dX8_behind_36 ?_
    refine x_ild1 ho dX8_behind_37 ?_
    refine vMV1 ho cs_X8_169 (c_X8_goesOn B _ _ _ _ _ _ σ hTR hi n' (by omega)) rfl ⟨rfl, rfl⟩ ⟨Nat.le_of_ble_eq_true rfl, Nat.le_of_ble_eq_true rfl⟩ (Nat.le_of_ble_eq_true rfl) dX8_behind_38 (fun s38 t38 p38 => ?_)
    obtain ⟨stk, fc, rfl, rfl⟩ := p38
    refine x_ild2 ho dX8_behind_41 ?_
    refine x_if_ne 54 ho dX8_behind_42 (by decide) (fun c42 => ?_) (fun c42 => ?_)
    · refine x_ild2 ho dX8_behind_54 ?_
      refine x_iconst (v := 1) ho dX8_behind_55 rfl ?_
      refine x_icmp_ne 66 ho dX8_behind_56 (by decide) (fun c56 => ?_) (fun c56 => ?_)
      · refine x_ild2 ho dX8_behind_66 ?_
        refine x_iconst (v := 2) ho dX8_behind_67 rfl ?_
        refine x_icmp_ne 78 ho dX8_behind_68 (by decide) (fun c68 => ?_) (fun c68 => ?_)
        · have hw3 := rg_ix (isW_d hi hW c42 c56 c68) (by decide)
          refine x_ald0 ho dX8_behind_78 ?_
          refine x_ild2 ho dX8_behind_79 ?_
          refine x_iconst (v := 3) ho dX8_behind_80 rfl ?_
          refine x_isub ho dX8_behind_81 ?_
          rw [show (w - 3 : Int32) = nI (ix (w - 3)) from hw3.2.2]
          refine x_iconst (v := 1) ho dX8_behind_82 rfl ?_
          refine vMI2 ho cs_X8_104 (w_of B _ _ _ _ _ _ (ix (w - 3)) 1 (by omega) (by decide)) rfl ⟨rfl, rfl⟩ ⟨Nat.le_of_ble_eq_true rfl, Nat.le_of_ble_eq_true rfl⟩ (Nat.le_of_ble_eq_true rfl) dX8_behind_83 (fun r83 s83 t83 p83 => ?_)
          obtain ⟨rfl, rfl, rfl⟩ := p83
          refine x_ist3 ho dX8_behind_86 (by rw [hk]; decide) rfl ?_
          refine x_ald0 ho dX8_behind_87 ?_
          refine vMV0 ho cs_X8_181 (w_putsBack B _ _ _ _ _ _ _) rfl ⟨rfl, rfl⟩ ⟨Nat.le_of_ble_eq_true rfl, Nat.le_of_ble_eq_true rfl⟩ (Nat.le_of_ble_eq_true rfl) dX8_behind_88 (fun s88 t88 p88 => ?_)
          obtain ⟨rfl, rfl⟩ := p88
          refine x_ild3 ho dX8_behind_91 ?_
          refine x_iret ho hr ?_ dX8_behind_92
          obtain ⟨μ2, j1, j2⟩ := MW4_J (μ := μ) (stk := stk) (fc := fc) (b := en h T) (h := h) (T := T)
          exact ⟨_, _, _, rfl, rfl, by rw [e0]; first | rw [if_pos c42] | rw [if_neg c42, if_pos c56] | rw [if_neg c42, if_neg c56, if_pos c68] | (rw [if_neg c42, if_neg c56, if_neg c68]), μ2, j1, j2, rfl⟩
        · refine x_ald0 ho dX8_behind_71 ?_
          refine vMI0 ho cs_X8_175 (w_bare B _ _ _ _ _ _ (hi.hours gC_GR n')) rfl ⟨rfl, rfl⟩ ⟨Nat.le_of_ble_eq_true rfl, Nat.le_of_ble_eq_true rfl⟩ (Nat.le_of_ble_eq_true rfl) dX8_behind_72 (fun r72 s72 t72 p72 => ?_)
          obtain ⟨rfl, rfl, rfl⟩ := p72
          refine x_goto 86 ho dX8_behind_75 (by decide) ?_
          refine x_ist3 ho dX8_behind_86 (by rw [hk]; decide) rfl ?_
          refine x_ald0 ho dX8_behind_87 ?_
          refine vMV0 ho cs_X8_181 (w_putsBack B _ _ _ _ _ _ _) rfl ⟨rfl, rfl⟩ ⟨Nat.le_of_ble_eq_true rfl, Nat.le_of_ble_eq_true rfl⟩ (Nat.le_of_ble_eq_true rfl) dX8_behind_88 (fun s88 t88 p88 => ?_)
          obtain ⟨rfl, rfl⟩ := p88
          refine x_ild3 ho dX8_behind_91 ?_
          refine x_iret ho hr ?_ dX8_behind_92
          obtain ⟨μ2, j1, j2⟩ := MW4_J (μ := μ) (stk := stk) (fc := fc) (b := en h T) (h := h) (T := T)
          exact ⟨_, _, _, rfl, rfl, by rw [e0]; first | rw [if_pos c42] | rw [if_neg c42, if_pos c56] | rw [if_neg c42, if_neg c56, if_pos c68] | (rw [if_neg c42, if_neg c56, if_neg c68]), μ2, j1, j2, rfl⟩
      · refine x_ald0 ho dX8_behind_59 ?_
        refine vMI0 ho cs_X8_172 (w_marks B _ _ _ _ _ _) rfl ⟨rfl, rfl⟩ ⟨Nat.le_of_ble_eq_true rfl, Nat.le_of_ble_eq_true rfl⟩ (Nat.le_of_ble_eq_true rfl) dX8_behind_60 (fun r60 s60 t60 p60 => ?_)
        obtain ⟨rfl, rfl, rfl⟩ := p60
        refine x_goto 86 ho dX8_behind_63 (by decide) ?_
        refine x_ist3 ho dX8_behind_86 (by rw [hk]; decide) rfl ?_
        refine x_ald0 ho dX8_behind_87 ?_
        refine vMV0 ho cs_X8_181 (w_putsBack B _ _ _ _ _ _ _) rfl ⟨rfl, rfl⟩ ⟨Nat.le_of_ble_eq_true rfl, Nat.le_of_ble_eq_true rfl⟩ (Nat.le_of_ble_eq_true rfl) dX8_behind_88 (fun s88 t88 p88 => ?_)
        obtain ⟨rfl, rfl⟩ := p88
        refine x_ild3 ho dX8_behind_91 ?_
        refine x_iret ho hr ?_ dX8_behind_92
        obtain ⟨μ2, j1, j2⟩ := MW4_J (μ := μ) (stk := stk) (fc := fc) (b := en h T) (h := h) (T := T)
        exact ⟨_, _, _, rfl, rfl, by rw [e0]; first | rw [if_pos c42] | rw [if_neg c42, if_pos c56] | rw [if_neg c42, if_neg c56, if_pos c68] | (rw [if_neg c42, if_neg c56, if_neg c68]), μ2, j1, j2, rfl⟩
    · refine x_ald0 ho dX8_behind_45 ?_
      refine r_X8_9 ho dX8_behind_46 ?_
      refine x_iconst (v := 4) ho dX8_behind_49 rfl ?_
      refine m_ldW (4) (rfl) (by omega) ho dX8_behind_50 ?_
      change XM B k _ _ _ _ (.int ((sHours (gC σ (h 9 0)) h n') 0 10) :: _)
      refine x_goto 86 ho dX8_behind_51 (by decide) ?_
      refine x_ist3 ho dX8_behind_86 (by rw [hk]; decide) rfl ?_
      refine x_ald0 ho dX8_behind_87 ?_
      refine vMV0 ho cs_X8_181 (w_putsBack B _ _ _ _ _ _ _) rfl ⟨rfl, rfl⟩ ⟨Nat.le_of_ble_eq_true rfl, Nat.le_of_ble_eq_true rfl⟩ (Nat.le_of_ble_eq_true rfl) dX8_behind_88 (fun s88 t88 p88 => ?_)
      obtain ⟨rfl, rfl⟩ := p88
      refine x_ild3 ho dX8_behind_91 ?_
      refine x_iret ho hr ?_ dX8_behind_92
      obtain ⟨μ2, j1, j2⟩ := MW4_J (μ := μ) (stk := stk) (fc := fc) (b := en h T) (h := h) (T := T)
      exact ⟨_, _, _, rfl, rfl, by rw [e0]; first | rw [if_pos c42] | rw [if_neg c42, if_pos c56] | rw [if_neg c42, if_neg c56, if_pos c68] | (rw [if_neg c42, if_neg c56, if_neg c68]), μ2, j1, j2, rfl⟩
  refine x_ild1 ho dX8_behind_0 ?_
  refine x_iconst (v := 0) ho dX8_behind_1 rfl ?_
  refine x_bipush (v := 100) ho dX8_behind_2 rfl ?_
  refine sMI3 ho cs_X8_82 (c_X8_in B _ _ _ _ _) ⟨rfl, rfl⟩ ⟨Nat.le_of_ble_eq_true rfl, Nat.le_of_ble_eq_true rfl⟩ (Nat.le_of_ble_eq_true rfl) dX8_behind_4 (fun r4 s4 t4 p4 => ?_)
  obtain ⟨rfl, rfl, e_⟩ := p4
  subst t4
  refine x_if_eq 29 ho dX8_behind_7 (by decide) (fun c7 => ?_) (fun c7 => ?_)
  · have c7 := bI_0.mp c7
    refine x_ldc ho kc_X8_94 dX8_behind_29 ?_
    refine x_iret ho hr ?_ dX8_behind_31
    exact ⟨_, _, _, rfl, rfl, by unfold aBehind; rw [if_neg (by first | exact fun z => c7 z.1 | exact fun z => absurd z.2 (by unfold isW; rw [Bool.eq_false_iff.mpr c26, decide_eq_false c16]; cases decide (¬ w < 0) <;> exact Bool.false_ne_true) | exact fun z => absurd z.2 (by unfold isW; rw [decide_eq_false (fun q => q c11)]; exact Bool.false_ne_true))], μ, Jm.rf, rfl, rfl⟩
  · have c7 := bI_n.mp c7
    skip
    refine x_ild2 ho dX8_behind_10 ?_
    refine x_if_lt 29 ho dX8_behind_11 (by decide) (fun c11 => ?_) (fun c11 => ?_)
    · refine x_ldc ho kc_X8_94 dX8_behind_29 ?_
      refine x_iret ho hr ?_ dX8_behind_31
      exact ⟨_, _, _, rfl, rfl, by unfold aBehind; rw [if_neg (by first | exact fun z => c7 z.1 | exact fun z => absurd z.2 (by unfold isW; rw [Bool.eq_false_iff.mpr c26, decide_eq_false c16]; cases decide (¬ w < 0) <;> exact Bool.false_ne_true) | exact fun z => absurd z.2 (by unfold isW; rw [decide_eq_false (fun q => q c11)]; exact Bool.false_ne_true))], μ, Jm.rf, rfl, rfl⟩
    · refine x_ild2 ho dX8_behind_14 ?_
      refine x_iconst (v := 2) ho dX8_behind_15 rfl ?_
      refine x_icmp_le 32 ho dX8_behind_16 (by decide) (fun c16 => ?_) (fun c16 => ?_)
      · first | exact K32 c7 (by unfold isW; rw [decide_eq_true c11, decide_eq_true c16]; rfl) | exact K32 c7 (by unfold isW; rw [decide_eq_true c11, c26, decide_eq_false c16]; rfl)
      · refine x_ald0 ho dX8_behind_19 ?_
        refine x_ild2 ho dX8_behind_20 ?_
        refine x_iconst (v := 3) ho dX8_behind_21 rfl ?_
        refine x_isub ho dX8_behind_22 ?_
        refine vMI1 ho cs_X8_115 (c_X8_isDancer B _ _ _ _ hi _) rfl ⟨rfl, rfl⟩ ⟨Nat.le_of_ble_eq_true rfl, Nat.le_of_ble_eq_true rfl⟩ (Nat.le_of_ble_eq_true rfl) dX8_behind_23 (fun r23 s23 t23 p23 => ?_)
        obtain ⟨rfl, rfl, e_⟩ := p23
        subst t23
        refine x_if_ne 32 ho dX8_behind_26 (by decide) (fun c26 => ?_) (fun c26 => ?_)
        · have c26 := bI_n.mp c26
          first | exact K32 c7 (by unfold isW; rw [decide_eq_true c11, decide_eq_true c16]; rfl) | exact K32 c7 (by unfold isW; rw [decide_eq_true c11, c26, decide_eq_false c16]; rfl)
        · have c26 := bI_0.mp c26
          refine x_ldc ho kc_X8_94 dX8_behind_29 ?_
          refine x_iret ho hr ?_ dX8_behind_31
          exact ⟨_, _, _, rfl, rfl, by unfold aBehind; rw [if_neg (by first | exact fun z => c7 z.1 | exact fun z => absurd z.2 (by unfold isW; rw [Bool.eq_false_iff.mpr c26, decide_eq_false c16]; cases decide (¬ w < 0) <;> exact Bool.false_ne_true) | exact fun z => absurd z.2 (by unfold isW; rw [decide_eq_false (fun q => q c11)]; exact Bool.false_ne_true))], μ, Jm.rf, rfl, rfl⟩
set_option maxRecDepth 100000 in
set_option maxHeartbeats 4000000 in
theorem c_X8_meets (B : BT) (μ : Nat → Nat → Int32) (δ : Nat → Int64) (h : HT) (T : Nat → Int32) (hi : HI h) (σ : ST) (hTR : TR σ h T) (x y n : Int32) : MI B yX8_meets cX8_meets 5 (some .int) ({ frames := 5, cells := 0, slots := 0, locals := 117 }) [.ref (aB B 0), .int x, .int y, .int n] (up1 μ 1 (en h T)) δ (fun r μ' δ' => r = aMeets (gC σ (h 9 0)) h x y n ∧ ∃ μ2, Jm μ μ2 ∧ μ' = up1 μ2 1 (en h T) ∧ δ' = δ) := by
  refine MX.of2 RX8 (by decide) rfl ⟨rfl, rfl⟩ (Nat.le_of_ble_eq_true rfl) (by rfl) (fun k ho hr hk => ?_)
  show XM B k (up1 μ 1 (en h T)) δ 0 [some (.ref (aB B 0)), some (.int x), some (.int y), some (.int n), none] []
  refine x_ald0 ho dX8_meets_0 ?_
  refine x_ild1 ho dX8_meets_1 ?_
  refine vMI1 ho cs_X8_115 (c_X8_isDancer B _ _ _ _ hi _) rfl ⟨rfl, rfl⟩ ⟨Nat.le_of_ble_eq_true rfl, Nat.le_of_ble_eq_true rfl⟩ (Nat.le_of_ble_eq_true rfl) dX8_meets_2 (fun r2 s2 t2 p2 => ?_)
  obtain ⟨rfl, rfl, e_⟩ := p2
  subst t2
  refine x_if_eq 31 ho dX8_meets_5 (by decide) (fun c5 => ?_) (fun c5 => ?_)
  · have c5 := bI_0.mp c5
    refine x_ldc ho kc_X8_94 dX8_meets_31 ?_
    refine x_iret ho hr ?_ dX8_meets_33
    exact ⟨_, _, _, rfl, rfl, by unfold aMeets; rw [if_neg (by first | exact fun z => c5 z.1 | exact fun z => c13 z.2.1 | exact fun z => z.2.2.1 c18 | exact fun z => c28 ⟨z.2.2.2.1, z.2.2.2.2⟩)], μ, Jm.rf, rfl, rfl⟩
  · have c5 := bI_n.mp c5
    obtain ⟨d, hd, rfl⟩ := isD_of c5 hi
    have hd12 := hi.n.1
    have ed : ix (nI d) = d := ix_n (by omega)
    refine x_ald0 ho dX8_meets_8 ?_
    refine x_ild2 ho dX8_meets_9 ?_
    refine vMI1 ho cs_X8_115 (c_X8_isDancer B _ _ _ _ hi _) rfl ⟨rfl, rfl⟩ ⟨Nat.le_of_ble_eq_true rfl, Nat.le_of_ble_eq_true rfl⟩ (Nat.le_of_ble_eq_true rfl) dX8_meets_10 (fun r10 s10 t10 p10 => ?_)
    obtain ⟨rfl, rfl, e_⟩ := p10
    subst t10
    refine x_if_eq 31 ho dX8_meets_13 (by decide) (fun c13 => ?_) (fun c13 => ?_)
    · have c13 := bI_0.mp c13
      refine x_ldc ho kc_X8_94 dX8_meets_31 ?_
      refine x_iret ho hr ?_ dX8_meets_33
      exact ⟨_, _, _, rfl, rfl, by unfold aMeets; rw [if_neg (by first | exact fun z => c5 z.1 | exact fun z => c13 z.2.1 | exact fun z => z.2.2.1 c18 | exact fun z => c28 ⟨z.2.2.2.1, z.2.2.2.2⟩)], μ, Jm.rf, rfl, rfl⟩
    · have c13 := bI_n.mp c13
      obtain ⟨e, he, rfl⟩ := isD_of c13 hi
      have he12 := hi.n.1
      have ee : ix (nI e) = e := ix_n (by omega)
      refine x_ild1 ho dX8_meets_16 ?_
      refine x_ild2 ho dX8_meets_17 ?_
      refine x_icmp_eq 31 ho dX8_meets_18 (by decide) (fun c18 => ?_) (fun c18 => ?_)
      · refine x_ldc ho kc_X8_94 dX8_meets_31 ?_
        refine x_iret ho hr ?_ dX8_meets_33
        exact ⟨_, _, _, rfl, rfl, by unfold aMeets; rw [if_neg (by first | exact fun z => c5 z.1 | exact fun z => c13 z.2.1 | exact fun z => z.2.2.1 c18 | exact fun z => c28 ⟨z.2.2.2.1, z.2.2.2.2⟩)], μ, Jm.rf, rfl, rfl⟩
      · refine x_ild3 ho dX8_meets_21 ?_
        refine x_iconst (v := 0) ho dX8_meets_22 rfl ?_
        refine x_bipush (v := 100) ho dX8_meets_23 rfl ?_
        refine sMI3 ho cs_X8_82 (c_X8_in B _ _ _ _ _) ⟨rfl, rfl⟩ ⟨Nat.le_of_ble_eq_true rfl, Nat.le_of_ble_eq_true rfl⟩ (Nat.le_of_ble_eq_true rfl) dX8_meets_25 (fun r25 s25 t25 p25 => ?_)
        obtain ⟨rfl, rfl, e_⟩ := p25
        subst t25
        rw [mle]
        refine x_if_ne 34 ho dX8_meets_28 (by decide) (fun c28 => ?_) (fun c28 => ?_)
        · have c28 := bI_n.mp c28
          have c28' := c28
          obtain ⟨n', hn, rfl⟩ := nI_of c28.1
          have c28n := n_le (b := 100) hn (by decide) c28.2
          have e0 : aMeets (gC σ (h 9 0)) h (nI d) (nI e) (nI n') = (mtL (gC σ (h 9 0)) h d e (n' + 1) 0) := by
            rw [show aMeets (gC σ (h 9 0)) h (nI d) (nI e) (nI n') = mtL (gC σ (h 9 0)) h (ix (nI d)) (ix (nI e)) (ix (nI n') + 1) 0 from if_pos ⟨c5, c13, c18, c28.1, c28.2⟩, ed, ee, ix_n hn]
          rw [MW_0]
          refine x_ald0 ho dX8_meets_34 ?_
          refine vMV0 ho cs_X8_178 (w_thinks B _ _ _ _ _ _) rfl ⟨rfl, rfl⟩ ⟨Nat.le_of_ble_eq_true rfl, Nat.le_of_ble_eq_true rfl⟩ (Nat.le_of_ble_eq_true rfl) dX8_meets_35 (fun s35 t35 p35 => ?_)
          obtain ⟨rfl, e_⟩ := p35
          subst t35
          refine x_iconst (v := 0) ho dX8_meets_38 rfl ?_
          refine x_ist4 ho dX8_meets_39 (by rw [hk]; decide) rfl ?_
          have K72 : ∀ i stk fc, i ≤ n' + 1 → (i ≤ n' → aMeets (gC σ (h 9 0)) h (nI d) (nI e) (nI n') = nI i) → (n' < i → aMeets (gC σ (h 9 0)) h (nI d) (nI e) (nI n') = -1000000005) → XM B k (MW (up1 μ 4 (en h T)) stk fc (sHours (gC σ (h 9 0)) h i) T) δ 72 [some (.ref (aB B 0)), some (.int (nI d)), some (.int (nI e)), some (.int (nI n')), some (.int (nI i))] [] := by
            intro i stk fc hi1 k1 k2
            refine x_ald0 ho dX8_meets_72 ?_
            refine vMV0 ho cs_X8_181 (w_putsBack B _ _ _ _ _ _ _) rfl ⟨rfl, rfl⟩ ⟨Nat.le_of_ble_eq_true rfl, Nat.le_of_ble_eq_true rfl⟩ (Nat.le_of_ble_eq_true rfl) dX8_meets_73 (fun s73 t73 p73 => ?_)
            obtain ⟨rfl, rfl⟩ := p73
            refine x_ild4 ho dX8_meets_76 ?_
            refine x_ild3 ho dX8_meets_78 ?_
            refine x_icmp_le 87 ho dX8_meets_79 (by decide) (fun c79 => ?_) (fun c79 => ?_)
            · have c79 := n_le (by omega) (by omega) c79
              have ev := k1 c79
              refine x_ild4 ho dX8_meets_87 ?_
              refine x_iret ho hr ?_ dX8_meets_89
              obtain ⟨μ2, j1, j2⟩ := MW4_J (μ := μ) (stk := stk) (fc := fc) (b := en h T) (h := h) (T := T)
              exact ⟨_, _, _, rfl, rfl, ev.symm, μ2, j1, j2, rfl⟩
            · have c79 := n_nle (by omega) (by omega) c79
              have ev := k2 c79
              refine x_ldc ho kc_X8_150 dX8_meets_82 ?_
              refine x_goto 89 ho dX8_meets_84 (by decide) ?_
              refine x_iret ho hr ?_ dX8_meets_89
              obtain ⟨μ2, j1, j2⟩ := MW4_J (μ := μ) (stk := stk) (fc := fc) (b := en h T) (h := h) (T := T)
              exact ⟨_, _, _, rfl, rfl, ev.symm, μ2, j1, j2, rfl⟩
          have loop : ∀ (f m i : Nat) (stk fc : Nat → Int32), m < f → m + i = n' + 1 → aMeets (gC σ (h 9 0)) h (nI d) (nI e) (nI n') = (mtL (gC σ (h 9 0)) h d e m i) → XM B k (MW (up1 μ 4 (en h T)) stk fc (sHours (gC σ (h 9 0)) h i) T) δ 41 [some (.ref (aB B 0)), some (.int (nI d)), some (.int (nI e)), some (.int (nI n')), some (.int (nI i))] [] := by
            intro f
            induction f with
            | zero => intro m i stk fc h1; omega
            | succ f ih =>
              intro m i stk fc h1 h2 e1
              refine x_ild4 ho dX8_meets_41 ?_
              refine x_ild3 ho dX8_meets_43 ?_
              refine x_icmp_gt 72 ho dX8_meets_44 (by decide) (fun c44 => ?_) (fun c44 => ?_)
              · have c44 := n_lt (by omega) (by omega) c44
                have em : m = 0 := by omega
                subst em
                first | exact K72 i stk fc (by omega) (fun _ => e1.trans e2) (fun z => by omega) | exact K72 i stk fc (by omega) (fun z => by omega) (fun _ => e1)
              · have c44 := n_nlt (by omega) (by omega) c44
                obtain ⟨m, rfl⟩ : ∃ m', m = m' + 1 := ⟨m - 1, by omega⟩
                refine x_ald0 ho dX8_meets_47 ?_
                refine x_ild1 ho dX8_meets_48 ?_
                refine x_iconst (v := 1) ho dX8_meets_49 rfl ?_
                refine vMI2 ho cs_X8_104 (w_of B _ _ _ _ _ _ d 1 (by omega) (by decide)) rfl ⟨rfl, rfl⟩ ⟨Nat.le_of_ble_eq_true rfl, Nat.le_of_ble_eq_true rfl⟩ (Nat.le_of_ble_eq_true rfl) dX8_meets_50 (fun r50 s50 t50 p50 => ?_)
                obtain ⟨rfl, rfl, rfl⟩ := p50
                refine x_ald0 ho dX8_meets_53 ?_
                refine x_ild2 ho dX8_meets_54 ?_
                refine x_iconst (v := 1) ho dX8_meets_55 rfl ?_
                refine vMI2 ho cs_X8_104 (w_of B _ _ _ _ _ _ e 1 (by omega) (by decide)) rfl ⟨rfl, rfl⟩ ⟨Nat.le_of_ble_eq_true rfl, Nat.le_of_ble_eq_true rfl⟩ (Nat.le_of_ble_eq_true rfl) dX8_meets_56 (fun r56 s56 t56 p56 => ?_)
                obtain ⟨rfl, rfl, rfl⟩ := p56
                refine x_icmp_eq 72 ho dX8_meets_59 (by decide) (fun c59 => ?_) (fun c59 => ?_)
                · have e2 : (mtL (gC σ (h 9 0)) h d e (m + 1) i) = nI i := if_pos c59
                  first | exact K72 i stk fc (by omega) (fun _ => e1.trans e2) (fun z => by omega) | exact K72 i stk fc (by omega) (fun z => by omega) (fun _ => e1)
                · have e2 : (mtL (gC σ (h 9 0)) h d e (m + 1) i) = (mtL (gC σ (h 9 0)) h d e m (i + 1)) := if_neg c59
                  refine x_ald0 ho dX8_meets_62 ?_
                  refine vMV0 ho cs_X8_163 (c_X8_hour B _ _ (sHours (gC σ (h 9 0)) h i) T _ _ σ (TR_e hTR sHours_14 sHours_9) (hi.hours gC_GR i)) rfl ⟨rfl, rfl⟩ ⟨Nat.le_of_ble_eq_true rfl, Nat.le_of_ble_eq_true rfl⟩ (Nat.le_of_ble_eq_true rfl) dX8_meets_63 (fun s63 t63 p63 => ?_)
                  rw [show (sHours (gC σ (h 9 0)) h i) 9 = h 9 from sHours_9] at p63
                  obtain ⟨stk, fc, rfl, rfl⟩ := p63
                  refine x_inc4 (y := 1) ho dX8_meets_66 (by rw [hk]; decide) rfl rfl ?_
                  refine x_goto 41 ho dX8_meets_69 (by decide) ?_
                  rw [nI_1 i]
                  exact ih m (i + 1) stk fc (by omega) (by omega) (e1.trans e2)
          exact loop (n' + 2) (n' + 1) 0 _ _ (by omega) (by omega) e0
        · have c28 := bI_0.mp c28
          refine x_ldc ho kc_X8_94 dX8_meets_31 ?_
          refine x_iret ho hr ?_ dX8_meets_33
          exact ⟨_, _, _, rfl, rfl, by unfold aMeets; rw [if_neg (by first | exact fun z => c5 z.1 | exact fun z => c13 z.2.1 | exact fun z => z.2.2.1 c18 | exact fun z => c28 ⟨z.2.2.2.1, z.2.2.2.2⟩)], μ, Jm.rf, rfl, rfl⟩
theorem sumF_rg {f : Nat → Int32} : ∀ {n : Nat}, n ≤ 12 → (∀ d, d < n → rg (f d) 0 999) → rg (sumF f n) 0 (999 * n)
  | 0, _, _ => ⟨0, rfl, by omega, by omega⟩
  | n + 1, hn, hf => by
    obtain ⟨a, e1, -, h1⟩ := sumF_rg (n := n) (by omega) (fun d hd => hf d (by omega))
    obtain ⟨b, e2, -, h2⟩ := hf n (by omega)
    exact ⟨a + b, by show sumF f n + f n = _; rw [e1, e2, nI_add], by omega, by omega⟩
theorem sSum_0 {h : HT} (hi : HI h) : 0 ≤ sSum h 3 := by
  obtain ⟨a, e, -, ha⟩ := sumF_rg (f := h 3) hi.n.1 (fun d hd => hi.sole (by have := hi.n.1; omega))
  have := hi.n.1
  unfold sSum
  rw [e]
  exact nI_0le (by omega)
theorem mSh {x : Int32} : bI (¬ x < 1 ∧ ¬ 60 < x) = bI (isSh x = true) := bSh
theorem m2 {x : Int32} : bI (¬ x < 0 ∧ ¬ 1 < x) = bI (is2 x = true) := by
  refine bI_iff ⟨fun q => dk.mp (in01 ⟨q.1, Int32.not_lt.mp q.2⟩), fun q => ?_⟩
  rcases dk.mpr q with rfl | rfl <;> decide
theorem mxL_le (f : Nat → Int32) (x : Int32) : ∀ r, (mxL f x r).1 ≤ r
  | 0 => Nat.le_refl 0
  | r + 1 => by
    have := mxL_le f x r
    unfold mxL
    split
    · exact Nat.le_succ r
    · omega
theorem mnL_le (f : Nat → Int32) (x : Int32) : ∀ r, (mnL f x r).1 ≤ r
  | 0 => Nat.le_refl 0
  | r + 1 => by
    have := mnL_le f x r
    unfold mnL
    split
    · exact Nat.le_succ r
    · omega
set_option maxRecDepth 100000 in
set_option maxHeartbeats 4000000 in
theorem c_X8_mended (B : BT) (μ : Nat → Nat → Int32) (δ : Nat → Int64) (h : HT) (T : Nat → Int32) (hi : HI h) (σ : ST) (hTR : TR σ h T) (n w : Int32) : MI B yX8_mended cX8_mended 7 (some .int) ({ frames := 6, cells := 0, slots := 0, locals := 139 }) [.ref (aB B 0), .int n, .int w] (up1 μ 1 (en h T)) δ (fun r μ' δ' => r = aMended (gC σ (h 9 0)) h n w ∧ ∃ μ2, Jm μ μ2 ∧ μ' = up1 μ2 1 (en h T) ∧ δ' = δ) := by
  refine MX.of2 RX8 (by decide) rfl ⟨rfl, rfl⟩ (Nat.le_of_ble_eq_true rfl) (by rfl) (fun k ho hr hk => ?_)
  show XM B k (up1 μ 1 (en h T)) δ 0 [some (.ref (aB B 0)), some (.int n), some (.int w), none, none, none, none] []
  refine x_ild1 ho dX8_mended_0 ?_
  refine x_iconst (v := 1) ho dX8_mended_1 rfl ?_
  refine x_bipush (v := 60) ho dX8_mended_2 rfl ?_
  refine sMI3 ho cs_X8_82 (c_X8_in B _ _ _ _ _) ⟨rfl, rfl⟩ ⟨Nat.le_of_ble_eq_true rfl, Nat.le_of_ble_eq_true rfl⟩ (Nat.le_of_ble_eq_true rfl) dX8_mended_4 (fun r4 s4 t4 p4 => ?_)
  obtain ⟨rfl, rfl, e_⟩ := p4
  subst t4
  rw [mSh]
  refine x_if_eq 19 ho dX8_mended_7 (by decide) (fun c7 => ?_) (fun c7 => ?_)
  · have c7 := bI_0.mp c7
    refine x_ldc ho kc_X8_94 dX8_mended_19 ?_
    refine x_iret ho hr ?_ dX8_mended_21
    exact ⟨_, _, _, rfl, rfl, by unfold aMended; rw [if_neg (by first | exact fun z => c7 z.1 | exact fun z => c16 z.2)], μ, Jm.rf, rfl, rfl⟩
  · have c7 := bI_n.mp c7
    obtain ⟨n', hn0, hn60, rfl⟩ := isSh_of c7
    refine x_ild2 ho dX8_mended_10 ?_
    refine x_iconst (v := 0) ho dX8_mended_11 rfl ?_
    refine x_iconst (v := 1) ho dX8_mended_12 rfl ?_
    refine sMI3 ho cs_X8_82 (c_X8_in B _ _ _ _ _) ⟨rfl, rfl⟩ ⟨Nat.le_of_ble_eq_true rfl, Nat.le_of_ble_eq_true rfl⟩ (Nat.le_of_ble_eq_true rfl) dX8_mended_13 (fun r13 s13 t13 p13 => ?_)
    obtain ⟨rfl, rfl, e_⟩ := p13
    subst t13
    rw [m2]
    refine x_if_ne 22 ho dX8_mended_16 (by decide) (fun c16 => ?_) (fun c16 => ?_)
    · have c16 := bI_n.mp c16
      have e0 : aMended (gC σ (h 9 0)) h (nI n') w = (if w = 0 then nI (mxL (fun r => sSum (sHours (gC σ (h 9 0)) (up2 h 6 r 0) n') 3) (-1) 10).1 else (mxL (fun r => sSum (sHours (gC σ (h 9 0)) (up2 h 6 r 0) n') 3) (-1) 10).2) := by
        rw [show aMended (gC σ (h 9 0)) h (nI n') w = _ from if_pos ⟨c7, c16⟩, ix_n (by omega)]
      rw [MW_0]
      refine x_ald0 ho dX8_mended_22 ?_
      refine vMV0 ho cs_X8_178 (w_thinks B _ _ _ _ _ _) rfl ⟨rfl, rfl⟩ ⟨Nat.le_of_ble_eq_true rfl, Nat.le_of_ble_eq_true rfl⟩ (Nat.le_of_ble_eq_true rfl) dX8_mended_23 (fun s23 t23 p23 => ?_)
      obtain ⟨rfl, e_⟩ := p23
      subst t23
      refine x_iconst (v := (-1)) ho dX8_mended_26 rfl ?_
      refine x_ist3 ho dX8_mended_27 (by rw [hk]; decide) rfl ?_
      refine x_iconst (v := 0) ho dX8_mended_28 rfl ?_
      refine x_ist4 ho dX8_mended_29 (by rw [hk]; decide) rfl ?_
      refine x_iconst (v := 0) ho dX8_mended_31 rfl ?_
      refine x_ist5 ho dX8_mended_32 (by rw [hk]; decide) rfl ?_
      have loop : ∀ (f i : Nat) (stk fc : Nat → Int32), 10 < f + i → i ≤ 10 → XM B k (MW (up1 μ 4 (en h T)) stk fc h T) δ 34 [some (.ref (aB B 0)), some (.int (nI n')), some (.int w), some (.int (if i = 0 then -1 else nI (mxL (fun r => sSum (sHours (gC σ (h 9 0)) (up2 h 6 r 0) n') 3) (-1) i).1)), some (.int (if i = 0 then 0 else (mxL (fun r => sSum (sHours (gC σ (h 9 0)) (up2 h 6 r 0) n') 3) (-1) i).2)), some (.int (nI i)), none] [] := by
        intro f
        induction f with
        | zero => intro i stk fc h1 h2; omega
        | succ f ih =>
          intro i stk fc h1 h2
          refine x_ild5 ho dX8_mended_34 ?_
          refine x_bipush (v := 10) ho dX8_mended_36 rfl ?_
          refine x_icmp_ge 92 ho dX8_mended_38 (by decide) (fun c38 => ?_) (fun c38 => ?_)
          · have c38 := n_le (a := 10) (by decide) (by omega) c38
            have ei : i = 10 := by omega
            subst ei
            rw [if_neg (by decide), if_neg (by decide)]
            refine x_ild2 ho dX8_mended_92 ?_
            refine x_if_ne 100 ho dX8_mended_93 (by decide) (fun c93 => ?_) (fun c93 => ?_)
            · refine x_ild4 ho dX8_mended_100 ?_
              refine x_iret ho hr ?_ dX8_mended_102
              obtain ⟨μ2, j1, j2⟩ := MW4_J (μ := μ) (stk := stk) (fc := fc) (b := en h T) (h := h) (T := T)
              exact ⟨_, _, _, rfl, rfl, by rw [e0]; first | exact (if_pos c93).symm | exact (if_neg c93).symm, μ2, j1, j2, rfl⟩
            · refine x_ild3 ho dX8_mended_96 ?_
              refine x_goto 102 ho dX8_mended_97 (by decide) ?_
              refine x_iret ho hr ?_ dX8_mended_102
              obtain ⟨μ2, j1, j2⟩ := MW4_J (μ := μ) (stk := stk) (fc := fc) (b := en h T) (h := h) (T := T)
              exact ⟨_, _, _, rfl, rfl, by rw [e0]; first | exact (if_pos c93).symm | exact (if_neg c93).symm, μ2, j1, j2, rfl⟩
          · have c38 := n_nle (a := 10) (b := i) (by decide) (by omega) c38
            have hi6 : HI (up2 h 6 i 0) := hi.up (by decide) (fun _ => rg_nI (n := 0) (by omega) (by omega))
            refine x_ald0 ho dX8_mended_41 ?_
            refine r_X8_9 ho dX8_mended_42 ?_
            refine x_bipush (v := 7) ho dX8_mended_45 rfl ?_
            refine x_ild5 ho dX8_mended_47 ?_
            refine x_iadd ho dX8_mended_49 ?_
            refine x_iconst (v := 0) ho dX8_mended_50 rfl ?_
            refine m_stW (7 + i) (nI_add 7 i) (by omega) (eu_fl (by omega)) ho dX8_mended_51 ?_
            refine x_ald0 ho dX8_mended_52 ?_
            refine x_ild1 ho dX8_mended_53 ?_
            refine vMV1 ho cs_X8_169 (c_X8_goesOn B _ _ (up2 h 6 i 0) T _ _ σ (TR_e hTR rfl rfl) hi6 n' (by omega)) rfl ⟨rfl, rfl⟩ ⟨Nat.le_of_ble_eq_true rfl, Nat.le_of_ble_eq_true rfl⟩ (Nat.le_of_ble_eq_true rfl) dX8_mended_54 (fun s54 t54 p54 => ?_)
            obtain ⟨stk, fc, rfl, e_⟩ := p54
            subst t54
            refine x_ald0 ho dX8_mended_57 ?_
            refine x_iconst (v := 2) ho dX8_mended_58 rfl ?_
            refine vMI1 ho cs_X8_166 (w_sumOf B _ _ _ _ (sHours (gC σ (h 9 0)) (up2 h 6 i 0) n') _ (hi6.hours gC_GR n') 2 (by decide)) rfl ⟨rfl, rfl⟩ ⟨Nat.le_of_ble_eq_true rfl, Nat.le_of_ble_eq_true rfl⟩ (Nat.le_of_ble_eq_true rfl) dX8_mended_59 (fun r59 s59 t59 p59 => ?_)
            obtain ⟨rfl, rfl, e_⟩ := p59
            subst t59
            refine x_ist6 ho dX8_mended_62 (by rw [hk]; decide) rfl ?_
            refine x_ald0 ho dX8_mended_64 ?_
            refine vMV0 ho cs_X8_181 (w_putsBack B _ _ _ _ _ _ _) rfl ⟨rfl, rfl⟩ ⟨Nat.le_of_ble_eq_true rfl, Nat.le_of_ble_eq_true rfl⟩ (Nat.le_of_ble_eq_true rfl) dX8_mended_65 (fun s65 t65 p65 => ?_)
            obtain ⟨rfl, e_⟩ := p65
            subst t65
            refine x_ild3 ho dX8_mended_68 ?_
            refine x_if_lt 79 ho dX8_mended_69 (by decide) (fun c69 => ?_) (fun c69 => ?_)
            · have i0 : i = 0 := Decidable.byContradiction (fun q => by
                rw [if_neg q] at c69
                exact nI_n0 _ (by have := mxL_le (fun r => sSum (sHours (gC σ (h 9 0)) (up2 h 6 r 0) n') 3) (-1) i; omega) c69)
              have e2 : (mxL (fun r => sSum (sHours (gC σ (h 9 0)) (up2 h 6 r 0) n') 3) (-1) (i + 1)) = (i, (fun r => sSum (sHours (gC σ (h 9 0)) (up2 h 6 r 0) n') 3) i) := if_pos (by subst i0; exact Int32.lt_of_lt_of_le (by decide : (-1 : Int32) < 0) (sSum_0 (hi6.hours gC_GR n')))
              refine x_ild5 ho dX8_mended_79 ?_
              refine x_ist3 ho dX8_mended_81 (by rw [hk]; decide) rfl ?_
              refine x_ild6 ho dX8_mended_82 ?_
              refine x_ist4 ho dX8_mended_84 (by rw [hk]; decide) rfl ?_
              refine x_inc5 (y := 1) ho dX8_mended_86 (by rw [hk]; decide) rfl rfl ?_
              refine x_goto 34 ho dX8_mended_89 (by decide) ?_
              rw [nI_1 i]
              refine x_loc (Lsb.s (Lsb.s (Lsb.s (Lsb.s (Lsb.s (Lsb.s (Lsb.n Lsb.e))))))) ?_
              have ih := ih (i + 1) stk fc (by omega) (by omega)
              rw [if_neg (Nat.succ_ne_zero i), if_neg (Nat.succ_ne_zero i), e2] at ih
              first | exact ih | (rw [if_neg i0]; exact ih)
            · have i0 : ¬ i = 0 := fun q => c69 (by rw [if_pos q]; decide)
              rw [if_neg i0, if_neg i0]
              refine x_ild6 ho dX8_mended_72 ?_
              refine x_ild4 ho dX8_mended_74 ?_
              refine x_icmp_le 86 ho dX8_mended_76 (by decide) (fun c76 => ?_) (fun c76 => ?_)
              · have e2 : (mxL (fun r => sSum (sHours (gC σ (h 9 0)) (up2 h 6 r 0) n') 3) (-1) (i + 1)) = (mxL (fun r => sSum (sHours (gC σ (h 9 0)) (up2 h 6 r 0) n') 3) (-1) i) := if_neg (Int32.not_lt.mpr c76)
                refine x_inc5 (y := 1) ho dX8_mended_86 (by rw [hk]; decide) rfl rfl ?_
                refine x_goto 34 ho dX8_mended_89 (by decide) ?_
                rw [nI_1 i]
                refine x_loc (Lsb.s (Lsb.s (Lsb.s (Lsb.s (Lsb.s (Lsb.s (Lsb.n Lsb.e))))))) ?_
                have ih := ih (i + 1) stk fc (by omega) (by omega)
                rw [if_neg (Nat.succ_ne_zero i), if_neg (Nat.succ_ne_zero i), e2] at ih
                first | exact ih | (rw [if_neg i0]; exact ih)
              · have e2 : (mxL (fun r => sSum (sHours (gC σ (h 9 0)) (up2 h 6 r 0) n') 3) (-1) (i + 1)) = (i, (fun r => sSum (sHours (gC σ (h 9 0)) (up2 h 6 r 0) n') 3) i) := if_pos (Int32.not_le.mp c76)
                refine x_ild5 ho dX8_mended_79 ?_
                refine x_ist3 ho dX8_mended_81 (by rw [hk]; decide) rfl ?_
                refine x_ild6 ho dX8_mended_82 ?_
                refine x_ist4 ho dX8_mended_84 (by rw [hk]; decide) rfl ?_
                refine x_inc5 (y := 1) ho dX8_mended_86 (by rw [hk]; decide) rfl rfl ?_
                refine x_goto 34 ho dX8_mended_89 (by decide) ?_
                rw [nI_1 i]
                refine x_loc (Lsb.s (Lsb.s (Lsb.s (Lsb.s (Lsb.s (Lsb.s (Lsb.n Lsb.e))))))) ?_
                have ih := ih (i + 1) stk fc (by omega) (by omega)
                rw [if_neg (Nat.succ_ne_zero i), if_neg (Nat.succ_ne_zero i), e2] at ih
                first | exact ih | (rw [if_neg i0]; exact ih)
      exact loop 11 0 _ _ (by omega) (by omega)
    · have c16 := bI_0.mp c16
      refine x_ldc ho kc_X8_94 dX8_mended_19 ?_
      refine x_iret ho hr ?_ dX8_mended_21
      exact ⟨_, _, _, rfl, rfl, by unfold aMended; rw [if_neg (by first | exact fun z => c7 z.1 | exact fun z => c16 z.2)], μ, Jm.rf, rfl, rfl⟩
theorem mo_le : ∀ (n : Nat) (x : Int32), mo n x ≤ n
  | 0, _ => Nat.le_refl 0
  | n + 1, x => by
    have := mo_le n (x &&& (x - 1))
    unfold mo
    split <;> omega
theorem sHour_10 {g : WT} (hg : GR g) {h : HT} (hi : HI h) {s : Nat} (hs : h 0 10 = nI s) : ∃ s', sHour g h 0 10 = nI s' ∧ s ≤ s' ∧ s' ≤ s + 13 := by
  have hN : sN (sDs g h (sN h)) ≤ 12 := by rw [sDs_N]; exact hi.n.1
  have h10 : sDs g h (sN h) 0 10 = nI s := by rw [sDs_f (by decide), hs]
  show ∃ s', sLook (sDs g h (sN h)) 0 10 = nI s' ∧ s ≤ s' ∧ s' ≤ s + 13
  unfold sLook
  split
  · refine ⟨s + mo 13 (sAt (sDs g h (sN h)) (jrem (dz (nz (sDs g h (sN h) 0 13))) 10)), ?_, by omega, by have := mo_le 13 (sAt (sDs g h (sN h)) (jrem (dz (nz (sDs g h (sN h) 0 13))) 10)); omega⟩
    rw [up2_s, upd_s, h10, ← nI_add]
    exact congrArg (nI s + ·) (pop_b hN).2.symm
  · exact ⟨s, by rw [sZ_e, up2_s, upd_n (by decide), h10], by omega, by omega⟩
theorem sHours_10 {g : WT} (hg : GR g) {h : HT} (hi : HI h) {s : Nat} (hs : h 0 10 = nI s) : ∀ n, ∃ s', sHours g h n 0 10 = nI s' ∧ s ≤ s' ∧ s' ≤ s + 13 * n
  | 0 => ⟨s, hs, by omega, by omega⟩
  | n + 1 => by
    obtain ⟨s1, e1, h1, h2⟩ := sHours_10 hg hi hs n
    obtain ⟨s2, e2, h3, h4⟩ := sHour_10 hg (hi.hours hg n) e1
    exact ⟨s2, e2, by omega, by omega⟩
set_option maxRecDepth 100000 in
set_option maxHeartbeats 4000000 in
theorem c_X8_leads (B : BT) (μ : Nat → Nat → Int32) (δ : Nat → Int64) (h : HT) (T : Nat → Int32) (hi : HI h) (σ : ST) (hTR : TR σ h T) (s : Nat) (hs : h 0 10 = nI s) (hs2 : s < 2 ^ 30) (p n w : Int32) : MI B yX8_leads cX8_leads 8 (some .int) ({ frames := 6, cells := 0, slots := 0, locals := 139 }) [.ref (aB B 0), .int p, .int n, .int w] (up1 μ 1 (en h T)) δ (fun r μ' δ' => r = aLeads (gC σ (h 9 0)) h p n w ∧ ∃ μ2, Jm μ μ2 ∧ μ' = up1 μ2 1 (en h T) ∧ δ' = δ) := by
  refine MX.of2 RX8 (by decide) rfl ⟨rfl, rfl⟩ (Nat.le_of_ble_eq_true rfl) (by rfl) (fun k ho hr hk => ?_)
  show XM B k (up1 μ 1 (en h T)) δ 0 [some (.ref (aB B 0)), some (.int p), some (.int n), some (.int w), none, none, none, none] []
  refine x_ild1 ho dX8_leads_0 ?_
  refine sMI1 ho cs_X8_141 (c_X8_isRoom B _ _ _) ⟨rfl, rfl⟩ ⟨Nat.le_of_ble_eq_true rfl, Nat.le_of_ble_eq_true rfl⟩ (Nat.le_of_ble_eq_true rfl) dX8_leads_1 (fun r1 s1 t1 p1 => ?_)
  obtain ⟨rfl, rfl, e_⟩ := p1
  subst t1
  refine x_if_eq 26 ho dX8_leads_4 (by decide) (fun c4 => ?_) (fun c4 => ?_)
  · have c4 := bI_0.mp c4
    refine x_ldc ho kc_X8_94 dX8_leads_26 ?_
    refine x_iret ho hr ?_ dX8_leads_28
    exact ⟨_, _, _, rfl, rfl, by unfold aLeads; rw [if_neg (by first | exact fun z => c4 z.1 | exact fun z => c14 z.2.1 | exact fun z => c23 z.2.2)], μ, Jm.rf, rfl, rfl⟩
  · have c4 := bI_n.mp c4
    obtain ⟨e, he, rfl⟩ := isR_of c4
    have ee : ix (nI e) = e := ix_n (by omega)
    refine x_ild2 ho dX8_leads_7 ?_
    refine x_iconst (v := 1) ho dX8_leads_8 rfl ?_
    refine x_bipush (v := 60) ho dX8_leads_9 rfl ?_
    refine sMI3 ho cs_X8_82 (c_X8_in B _ _ _ _ _) ⟨rfl, rfl⟩ ⟨Nat.le_of_ble_eq_true rfl, Nat.le_of_ble_eq_true rfl⟩ (Nat.le_of_ble_eq_true rfl) dX8_leads_11 (fun r11 s11 t11 p11 => ?_)
    obtain ⟨rfl, rfl, e_⟩ := p11
    subst t11
    rw [mSh]
    refine x_if_eq 26 ho dX8_leads_14 (by decide) (fun c14 => ?_) (fun c14 => ?_)
    · have c14 := bI_0.mp c14
      refine x_ldc ho kc_X8_94 dX8_leads_26 ?_
      refine x_iret ho hr ?_ dX8_leads_28
      exact ⟨_, _, _, rfl, rfl, by unfold aLeads; rw [if_neg (by first | exact fun z => c4 z.1 | exact fun z => c14 z.2.1 | exact fun z => c23 z.2.2)], μ, Jm.rf, rfl, rfl⟩
    · have c14 := bI_n.mp c14
      obtain ⟨n', hn0, hn60, rfl⟩ := isSh_of c14
      refine x_ild3 ho dX8_leads_17 ?_
      refine x_iconst (v := 0) ho dX8_leads_18 rfl ?_
      refine x_iconst (v := 1) ho dX8_leads_19 rfl ?_
      refine sMI3 ho cs_X8_82 (c_X8_in B _ _ _ _ _) ⟨rfl, rfl⟩ ⟨Nat.le_of_ble_eq_true rfl, Nat.le_of_ble_eq_true rfl⟩ (Nat.le_of_ble_eq_true rfl) dX8_leads_20 (fun r20 s20 t20 p20 => ?_)
      obtain ⟨rfl, rfl, e_⟩ := p20
      subst t20
      rw [m2]
      refine x_if_ne 29 ho dX8_leads_23 (by decide) (fun c23 => ?_) (fun c23 => ?_)
      · have c23 := bI_n.mp c23
        have e0 : aLeads (gC σ (h 9 0)) h (nI e) (nI n') w = (if w = 0 then nI (mnL (fun r => sHours (gC σ (h 9 0)) (up2 h 7 e (nI r)) n' 0 10) 2147483647 10).1 else (mnL (fun r => sHours (gC σ (h 9 0)) (up2 h 7 e (nI r)) n' 0 10) 2147483647 10).2) := by
          rw [show aLeads (gC σ (h 9 0)) h (nI e) (nI n') w = _ from if_pos ⟨c4, c14, c23⟩, ix_n (n := n') (by omega), ee]
        rw [MW_0]
        refine x_ald0 ho dX8_leads_29 ?_
        refine vMV0 ho cs_X8_178 (w_thinks B _ _ _ _ _ _) rfl ⟨rfl, rfl⟩ ⟨Nat.le_of_ble_eq_true rfl, Nat.le_of_ble_eq_true rfl⟩ (Nat.le_of_ble_eq_true rfl) dX8_leads_30 (fun s30 t30 p30 => ?_)
        obtain ⟨rfl, e_⟩ := p30
        subst t30
        refine x_iconst (v := (-1)) ho dX8_leads_33 rfl ?_
        refine x_ist4 ho dX8_leads_34 (by rw [hk]; decide) rfl ?_
        refine x_iconst (v := 0) ho dX8_leads_36 rfl ?_
        refine x_ist5 ho dX8_leads_37 (by rw [hk]; decide) rfl ?_
        refine x_iconst (v := 0) ho dX8_leads_39 rfl ?_
        refine x_ist6 ho dX8_leads_40 (by rw [hk]; decide) rfl ?_
        have loop : ∀ (f i : Nat) (stk fc : Nat → Int32), 10 < f + i → i ≤ 10 → XM B k (MW (up1 μ 4 (en h T)) stk fc h T) δ 42 [some (.ref (aB B 0)), some (.int (nI e)), some (.int (nI n')), some (.int w), some (.int (if i = 0 then -1 else nI (mnL (fun r => sHours (gC σ (h 9 0)) (up2 h 7 e (nI r)) n' 0 10) 2147483647 i).1)), some (.int (if i = 0 then 0 else (mnL (fun r => sHours (gC σ (h 9 0)) (up2 h 7 e (nI r)) n' 0 10) 2147483647 i).2)), some (.int (nI i)), none] [] := by
          intro f
          induction f with
          | zero => intro i stk fc h1 h2; omega
          | succ f ih =>
            intro i stk fc h1 h2
            refine x_ild6 ho dX8_leads_42 ?_
            refine x_bipush (v := 10) ho dX8_leads_44 rfl ?_
            refine x_icmp_ge 103 ho dX8_leads_46 (by decide) (fun c46 => ?_) (fun c46 => ?_)
            · have c46 := n_le (a := 10) (by decide) (by omega) c46
              have ei : i = 10 := by omega
              subst ei
              rw [if_neg (by decide), if_neg (by decide)]
              refine x_ild3 ho dX8_leads_103 ?_
              refine x_if_ne 112 ho dX8_leads_104 (by decide) (fun c104 => ?_) (fun c104 => ?_)
              · refine x_ild5 ho dX8_leads_112 ?_
                refine x_iret ho hr ?_ dX8_leads_114
                obtain ⟨μ2, j1, j2⟩ := MW4_J (μ := μ) (stk := stk) (fc := fc) (b := en h T) (h := h) (T := T)
                exact ⟨_, _, _, rfl, rfl, by rw [e0]; first | exact (if_pos c104).symm | exact (if_neg c104).symm, μ2, j1, j2, rfl⟩
              · refine x_ild4 ho dX8_leads_107 ?_
                refine x_goto 114 ho dX8_leads_109 (by decide) ?_
                refine x_iret ho hr ?_ dX8_leads_114
                obtain ⟨μ2, j1, j2⟩ := MW4_J (μ := μ) (stk := stk) (fc := fc) (b := en h T) (h := h) (T := T)
                exact ⟨_, _, _, rfl, rfl, by rw [e0]; first | exact (if_pos c104).symm | exact (if_neg c104).symm, μ2, j1, j2, rfl⟩
            · have c46 := n_nle (a := 10) (b := i) (by decide) (by omega) c46
              have hi6 : HI (up2 h 7 e (nI i)) := hi.up (by decide) (fun _ => rg_nI (by omega) (by show i ≤ 9; omega))
              refine x_ald0 ho dX8_leads_49 ?_
              refine r_X8_9 ho dX8_leads_50 ?_
              refine x_bipush (v := 17) ho dX8_leads_53 rfl ?_
              refine x_ild1 ho dX8_leads_55 ?_
              refine x_iadd ho dX8_leads_56 ?_
              refine x_ild6 ho dX8_leads_57 ?_
              refine m_stW (17 + e) (nI_add 17 e) (by omega) (eu_ld (by omega)) ho dX8_leads_59 ?_
              refine x_ald0 ho dX8_leads_60 ?_
              refine x_ild2 ho dX8_leads_61 ?_
              refine vMV1 ho cs_X8_169 (c_X8_goesOn B _ _ (up2 h 7 e (nI i)) T _ _ σ (TR_e hTR rfl rfl) hi6 n' (by omega)) rfl ⟨rfl, rfl⟩ ⟨Nat.le_of_ble_eq_true rfl, Nat.le_of_ble_eq_true rfl⟩ (Nat.le_of_ble_eq_true rfl) dX8_leads_62 (fun s62 t62 p62 => ?_)
              obtain ⟨stk, fc, rfl, e_⟩ := p62
              subst t62
              refine x_ald0 ho dX8_leads_65 ?_
              refine r_X8_9 ho dX8_leads_66 ?_
              refine x_iconst (v := 4) ho dX8_leads_69 rfl ?_
              refine m_ldW (4) (rfl) (by omega) ho dX8_leads_70 ?_
              change XM B k _ _ _ _ (.int ((sHours (gC σ (h 9 0)) (up2 h 7 e (nI i)) n') 0 10) :: _)
              refine x_ist7 ho dX8_leads_71 (by rw [hk]; decide) rfl ?_
              refine x_ald0 ho dX8_leads_73 ?_
              refine vMV0 ho cs_X8_181 (w_putsBack B _ _ _ _ _ _ _) rfl ⟨rfl, rfl⟩ ⟨Nat.le_of_ble_eq_true rfl, Nat.le_of_ble_eq_true rfl⟩ (Nat.le_of_ble_eq_true rfl) dX8_leads_74 (fun s74 t74 p74 => ?_)
              obtain ⟨rfl, e_⟩ := p74
              subst t74
              refine x_ild4 ho dX8_leads_77 ?_
              refine x_if_lt 89 ho dX8_leads_79 (by decide) (fun c79 => ?_) (fun c79 => ?_)
              · have i0 : i = 0 := Decidable.byContradiction (fun q => by
                  rw [if_neg q] at c79
                  exact nI_n0 _ (by have := mnL_le (fun r => sHours (gC σ (h 9 0)) (up2 h 7 e (nI r)) n' 0 10) 2147483647 i; omega) c79)
                have e2 : (mnL (fun r => sHours (gC σ (h 9 0)) (up2 h 7 e (nI r)) n' 0 10) 2147483647 (i + 1)) = (i, (fun r => sHours (gC σ (h 9 0)) (up2 h 7 e (nI r)) n' 0 10) i) := if_pos (by
                  subst i0
                  obtain ⟨s', es, -, hs'⟩ := sHours_10 gC_GR hi6 (g := (gC σ (h 9 0))) (s := s) hs n'
                  show (sHours (gC σ (h 9 0)) (up2 h 7 e (nI 0)) n') 0 10 < 2147483647
                  rw [es]
                  exact nI_lt (b := 2147483647) (by omega) (by decide))
                refine x_ild6 ho dX8_leads_89 ?_
                refine x_ist4 ho dX8_leads_91 (by rw [hk]; decide) rfl ?_
                refine x_ild7 ho dX8_leads_93 ?_
                refine x_ist5 ho dX8_leads_95 (by rw [hk]; decide) rfl ?_
                refine x_inc6 (y := 1) ho dX8_leads_97 (by rw [hk]; decide) rfl rfl ?_
                refine x_goto 42 ho dX8_leads_100 (by decide) ?_
                rw [nI_1 i]
                refine x_loc (Lsb.s (Lsb.s (Lsb.s (Lsb.s (Lsb.s (Lsb.s (Lsb.s (Lsb.n Lsb.e)))))))) ?_
                have ih := ih (i + 1) stk fc (by omega) (by omega)
                rw [if_neg (Nat.succ_ne_zero i), if_neg (Nat.succ_ne_zero i), e2] at ih
                first | exact ih | (rw [if_neg i0]; exact ih)
              · have i0 : ¬ i = 0 := fun q => c79 (by rw [if_pos q]; decide)
                rw [if_neg i0, if_neg i0]
                refine x_ild7 ho dX8_leads_82 ?_
                refine x_ild5 ho dX8_leads_84 ?_
                refine x_icmp_ge 97 ho dX8_leads_86 (by decide) (fun c86 => ?_) (fun c86 => ?_)
                · have e2 : (mnL (fun r => sHours (gC σ (h 9 0)) (up2 h 7 e (nI r)) n' 0 10) 2147483647 (i + 1)) = (mnL (fun r => sHours (gC σ (h 9 0)) (up2 h 7 e (nI r)) n' 0 10) 2147483647 i) := if_neg (Int32.not_lt.mpr c86)
                  refine x_inc6 (y := 1) ho dX8_leads_97 (by rw [hk]; decide) rfl rfl ?_
                  refine x_goto 42 ho dX8_leads_100 (by decide) ?_
                  rw [nI_1 i]
                  refine x_loc (Lsb.s (Lsb.s (Lsb.s (Lsb.s (Lsb.s (Lsb.s (Lsb.s (Lsb.n Lsb.e)))))))) ?_
                  have ih := ih (i + 1) stk fc (by omega) (by omega)
                  rw [if_neg (Nat.succ_ne_zero i), if_neg (Nat.succ_ne_zero i), e2] at ih
                  first | exact ih | (rw [if_neg i0]; exact ih)
                · have e2 : (mnL (fun r => sHours (gC σ (h 9 0)) (up2 h 7 e (nI r)) n' 0 10) 2147483647 (i + 1)) = (i, (fun r => sHours (gC σ (h 9 0)) (up2 h 7 e (nI r)) n' 0 10) i) := if_pos (Int32.not_le.mp c86)
                  refine x_ild6 ho dX8_leads_89 ?_
                  refine x_ist4 ho dX8_leads_91 (by rw [hk]; decide) rfl ?_
                  refine x_ild7 ho dX8_leads_93 ?_
                  refine x_ist5 ho dX8_leads_95 (by rw [hk]; decide) rfl ?_
                  refine x_inc6 (y := 1) ho dX8_leads_97 (by rw [hk]; decide) rfl rfl ?_
                  refine x_goto 42 ho dX8_leads_100 (by decide) ?_
                  rw [nI_1 i]
                  refine x_loc (Lsb.s (Lsb.s (Lsb.s (Lsb.s (Lsb.s (Lsb.s (Lsb.s (Lsb.n Lsb.e)))))))) ?_
                  have ih := ih (i + 1) stk fc (by omega) (by omega)
                  rw [if_neg (Nat.succ_ne_zero i), if_neg (Nat.succ_ne_zero i), e2] at ih
                  first | exact ih | (rw [if_neg i0]; exact ih)
        exact loop 11 0 _ _ (by omega) (by omega)
      · have c23 := bI_0.mp c23
        refine x_ldc ho kc_X8_94 dX8_leads_26 ?_
        refine x_iret ho hr ?_ dX8_leads_28
        exact ⟨_, _, _, rfl, rfl, by unfold aLeads; rw [if_neg (by first | exact fun z => c4 z.1 | exact fun z => c14 z.2.1 | exact fun z => c23 z.2.2)], μ, Jm.rf, rfl, rfl⟩
