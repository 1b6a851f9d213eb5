/-! the model thinks, and puts back -/
theorem MW_4 {μ : ST} {stk fc b : Nat → Int32} {h : HT} {T : Nat → Int32} : up1 (up1 (up1 (up1 μ 13 stk) 14 fc) 4 b) 1 (en h T) = MW (up1 μ 4 b) stk fc h T := by
  unfold MW
  rw [up1_comm (p := 14) (q := 4) (by decide), up1_comm (p := 13) (q := 4) (by decide)]
theorem MW4_J {μ : ST} {stk fc b : Nat → Int32} {h : HT} {T : Nat → Int32} : ∃ μ2, Jm μ μ2 ∧ MW (up1 μ 4 b) stk fc h T = up1 μ2 1 (en h T) := ⟨up1 (up1 (up1 μ 4 b) 13 stk) 14 fc, fun q h1 h2 h3 _ => by rw [up1_n h2, up1_n h1, up1_n h3], rfl⟩
theorem w_thinks (B : BT) (μ : ST) (δ : Nat → Int64) (stk fc : Nat → Int32) (h : HT) (T : Nat → Int32) : MV B yX8_thinks cX8_thinks 2 none ({ frames := 0, cells := 0, slots := 0, locals := 0 }) [.ref (aB B 0)] (MW μ stk fc h T) δ (fun μ' δ' => μ' = MW (up1 μ 4 (en h T)) stk fc h T ∧ δ' = δ) := by
  have z := c_X8_thinks B (up1 (up1 μ 13 stk) 14 fc) δ h T (up1 (up1 μ 13 stk) 14 fc 4)
  rw [up1_self] at z
  refine MX.mono z (fun v ce' hp => ?_)
  obtain ⟨μ', δ', e1, e2, e3, e4⟩ := hp
  exact ⟨μ', δ', e1, e2, e3.trans MW_4, e4⟩
theorem w_putsBack (B : BT) (μ : ST) (δ : Nat → Int64) (stk fc : Nat → Int32) (h : HT) (T : Nat → Int32) (h' : HT) : MV B yX8_putsBack cX8_putsBack 2 none ({ frames := 0, cells := 0, slots := 0, locals := 0 }) [.ref (aB B 0)] (MW (up1 μ 4 (en h T)) stk fc h' T) δ (fun μ' δ' => μ' = MW (up1 μ 4 (en h T)) stk fc h T ∧ δ' = δ) := by
  have z := c_X8_putsBack B (up1 (up1 μ 13 stk) 14 fc) δ h T h'
  rw [MW_4] at z
  refine MX.mono z (fun v ce' hp => ?_)
  obtain ⟨μ', δ', e1, e2, e3, e4⟩ := hp
  exact ⟨μ', δ', e1, e2, e3.trans MW_4, e4⟩
set_option maxRecDepth 100000 in
set_option maxHeartbeats 4000000 in
theorem c_X8_behind (B : BT) (μ : Nat → Nat → Int32) (δ : Nat → Int64) (h : HT) (T : Nat → Int32) (hi : HI h) (σ : ST) (hTR : TR σ h T) (n w : Int32) : MI B yX8_behind cX8_behind 4 (some .int) ({ frames := 6, cells := 0, slots := 0, locals := 139 }) [.ref (aB B 0), .int n, .int w] (up1 μ 1 (en h T)) δ (fun r μ' δ' => r = aBehind (gC σ (h 9 0)) h n w ∧ ∃ μ2, Jm μ μ2 ∧ μ' = up1 μ2 1 (en h T) ∧ δ' = δ) := by
  refine MX.of2 RX8 (by decide) rfl ⟨rfl, rfl⟩ (Nat.le_of_ble_eq_true rfl) (by rfl) (fun k ho hr hk => ?_)
  show XM B k (up1 μ 1 (en h T)) δ 0 [some (.ref (aB B 0)), some (.int n), some (.int w), none] []
  have K32 : (¬ n < 0 ∧ ¬ 100 < n) → isW h w = true → XM B k (up1 μ 1 (en h T)) δ 32 [some (.ref (aB B 0)), some (.int n), some (.int w), none] [] := by
    intro c7 hW
    obtain ⟨n', hn, rfl⟩ := nI_of c7.1
    have c7n := n_nlt (a := 100) (b := n') (by decide) hn c7.2
    have e0 : aBehind (gC σ (h 9 0)) h (nI n') w = (if w = 0 then (sHours (gC σ (h 9 0)) h n') 0 10 else if w = 1 then sMarks (sHours (gC σ (h 9 0)) h n') else if w = 2 then sBare (sHours (gC σ (h 9 0)) h n') else (sHours (gC σ (h 9 0)) h n') 2 (ix (w - 3))) := by
      rw [show aBehind (gC σ (h 9 0)) h (nI n') w = _ from if_pos ⟨c7, hW⟩, ix_n hn]
    rw [MW_0]
    refine x_ald0 ho dX8_behind_32 ?_
    refine vMV0 ho cs_X8_178 (w_thinks B _ _ _ _ _ _) rfl ⟨rfl, rfl⟩ ⟨Nat.le_of_ble_eq_true rfl, Nat.le_of_ble_eq_true rfl⟩ (Nat.le_of_ble_eq_true rfl) dX8_behind_33 (fun s33 t33 p33 => ?_)
    obtain ⟨rfl, rfl⟩ := p33
    refine x_ald0 ho dX8_behind_36 ?_
    refine x_ild1 ho dX8_behind_37 ?_
    refine vMV1 ho cs_X8_169 (c_X8_goesOn B _ _ _ _ _ _ σ hTR hi n' (by omega)) rfl ⟨rfl, rfl⟩ ⟨Nat.le_of_ble_eq_true rfl, Nat.le_of_ble_eq_true rfl⟩ (Nat.le_of_ble_eq_true rfl) dX8_behind_38 (fun s38 t38 p38 => ?_)
    obtain ⟨stk, fc, rfl, rfl⟩ := p38
    refine x_ild2 ho dX8_behind_41 ?_
    refine x_if_ne 54 ho dX8_behind_42 (by decide) (fun c42 => ?_) (fun c42 => ?_)
    · refine x_ild2 ho dX8_behind_54 ?_
      refine x_iconst (v := 1) ho dX8_behind_55 rfl ?_
      refine x_icmp_ne 66 ho dX8_behind_56 (by decide) (fun c56 => ?_) (fun c56 => ?_)
      · refine x_ild2 ho dX8_behind_66 ?_
        refine x_iconst (v := 2) ho dX8_behind_67 rfl ?_
        refine x_icmp_ne 78 ho dX8_behind_68 (by decide) (fun c68 => ?_) (fun c68 => ?_)
        · have hw3 := rg_ix (isW_d hi hW c42 c56 c68) (by decide)
          refine x_ald0 ho dX8_behind_78 ?_
          refine x_ild2 ho dX8_behind_79 ?_
          refine x_iconst (v := 3) ho dX8_behind_80 rfl ?_
          refine x_isub ho dX8_behind_81 ?_
          rw [show (w - 3 : Int32) = nI (ix (w - 3)) from hw3.2.2]
          refine x_iconst (v := 1) ho dX8_behind_82 rfl ?_
          refine vMI2 ho cs_X8_104 (w_of B _ _ _ _ _ _ (ix (w - 3)) 1 (by omega) (by decide)) rfl ⟨rfl, rfl⟩ ⟨Nat.le_of_ble_eq_true rfl, Nat.le_of_ble_eq_true rfl⟩ (Nat.le_of_ble_eq_true rfl) dX8_behind_83 (fun r83 s83 t83 p83 => ?_)
          obtain ⟨rfl, rfl, rfl⟩ := p83
          refine x_ist3 ho dX8_behind_86 (by rw [hk]; decide) rfl ?_
          refine x_ald0 ho dX8_behind_87 ?_
          refine vMV0 ho cs_X8_181 (w_putsBack B _ _ _ _ _ _ _) rfl ⟨rfl, rfl⟩ ⟨Nat.le_of_ble_eq_true rfl, Nat.le_of_ble_eq_true rfl⟩ (Nat.le_of_ble_eq_true rfl) dX8_behind_88 (fun s88 t88 p88 => ?_)
          obtain ⟨rfl, rfl⟩ := p88
          refine x_ild3 ho dX8_behind_91 ?_
          refine x_iret ho hr ?_ dX8_behind_92
          obtain ⟨μ2, j1, j2⟩ := MW4_J (μ := μ) (stk := stk) (fc := fc) (b := en h T) (h := h) (T := T)
          exact ⟨_, _, _, rfl, rfl, by rw [e0]; first | rw [if_pos c42] | rw [if_neg c42, if_pos c56] | rw [if_neg c42, if_neg c56, if_pos c68] | (rw [if_neg c42, if_neg c56, if_neg c68]), μ2, j1, j2, rfl⟩
        · refine x_ald0 ho dX8_behind_71 ?_
          refine vMI0 ho cs_X8_175 (w_bare B _ _ _ _ _ _ (hi.hours gC_GR n')) rfl ⟨rfl, rfl⟩ ⟨Nat.le_of_ble_eq_true rfl, Nat.le_of_ble_eq_true rfl⟩ (Nat.le_of_ble_eq_true rfl) dX8_behind_72 (fun r72 s72 t72 p72 => ?_)
          obtain ⟨rfl, rfl, rfl⟩ := p72
          refine x_goto 86 ho dX8_behind_75 (by decide) ?_
          refine x_ist3 ho dX8_behind_86 (by rw [hk]; decide) rfl ?_
          refine x_ald0 ho dX8_behind_87 ?_
          refine vMV0 ho cs_X8_181 (w_putsBack B _ _ _ _ _ _ _) rfl ⟨rfl, rfl⟩ ⟨Nat.le_of_ble_eq_true rfl, Nat.le_of_ble_eq_true rfl⟩ (Nat.le_of_ble_eq_true rfl) dX8_behind_88 (fun s88 t88 p88 => ?_)
          obtain ⟨rfl, rfl⟩ := p88
          refine x_ild3 ho dX8_behind_91 ?_
          refine x_iret ho hr ?_ dX8_behind_92
          obtain ⟨μ2, j1, j2⟩ := MW4_J (μ := μ) (stk := stk) (fc := fc) (b := en h T) (h := h) (T := T)
          exact ⟨_, _, _, rfl, rfl, by rw [e0]; first | rw [if_pos c42] | rw [if_neg c42, if_pos c56] | rw [if_neg c42, if_neg c56, if_pos c68] | (rw [if_neg c42, if_neg c56, if_neg c68]), μ2, j1, j2, rfl⟩
      · refine x_ald0 ho dX8_behind_59 ?_
        refine vMI0 ho cs_X8_172 (w_marks B _ _ _ _ _ _) rfl ⟨rfl, rfl⟩ ⟨Nat.le_of_ble_eq_true rfl, Nat.le_of_ble_eq_true rfl⟩ (Nat.le_of_ble_eq_true rfl) dX8_behind_60 (fun r60 s60 t60 p60 => ?_)
        obtain ⟨rfl, rfl, rfl⟩ := p60
        refine x_goto 86 ho dX8_behind_63 (by decide) ?_
        refine x_ist3 ho dX8_behind_86 (by rw [hk]; decide) rfl ?_
        refine x_ald0 ho dX8_behind_87 ?_
        refine vMV0 ho cs_X8_181 (w_putsBack B _ _ _ _ _ _ _) rfl ⟨rfl, rfl⟩ ⟨Nat.le_of_ble_eq_true rfl, Nat.le_of_ble_eq_true rfl⟩ (Nat.le_of_ble_eq_true rfl) dX8_behind_88 (fun s88 t88 p88 => ?_)
        obtain ⟨rfl, rfl⟩ := p88
        refine x_ild3 ho dX8_behind_91 ?_
        refine x_iret ho hr ?_ dX8_behind_92
        obtain ⟨μ2, j1, j2⟩ := MW4_J (μ := μ) (stk := stk) (fc := fc) (b := en h T) (h := h) (T := T)
        exact ⟨_, _, _, rfl, rfl, by rw [e0]; first | rw [if_pos c42] | rw [if_neg c42, if_pos c56] | rw [if_neg c42, if_neg c56, if_pos c68] | (rw [if_neg c42, if_neg c56, if_neg c68]), μ2, j1, j2, rfl⟩
    · refine x_ald0 ho dX8_behind_45 ?_
      refine r_X8_9 ho dX8_behind_46 ?_
      refine x_iconst (v := 4) ho dX8_behind_49 rfl ?_
      refine m_ldW (4) (rfl) (by omega) ho dX8_behind_50 ?_
      change XM B k _ _ _ _ (.int ((sHours (gC σ (h 9 0)) h n') 0 10) :: _)
      refine x_goto 86 ho dX8_behind_51 (by decide) ?_
      refine x_ist3 ho dX8_behind_86 (by rw [hk]; decide) rfl ?_
      refine x_ald0 ho dX8_behind_87 ?_
      refine vMV0 ho cs_X8_181 (w_putsBack B _ _ _ _ _ _ _) rfl ⟨rfl, rfl⟩ ⟨Nat.le_of_ble_eq_true rfl, Nat.le_of_ble_eq_true rfl⟩ (Nat.le_of_ble_eq_true rfl) dX8_behind_88 (fun s88 t88 p88 => ?_)
      obtain ⟨rfl, rfl⟩ := p88
      refine x_ild3 ho dX8_behind_91 ?_
      refine x_iret ho hr ?_ dX8_behind_92
      obtain ⟨μ2, j1, j2⟩ := MW4_J (μ := μ) (stk := stk) (fc := fc) (b := en h T) (h := h) (T := T)
      exact ⟨_, _, _, rfl, rfl, by rw [e0]; first | rw [if_pos c42] | rw [if_neg c42, if_pos c56] | rw [if_neg c42, if_neg c56, if_pos c68] | (rw [if_neg c42, if_neg c56, if_neg c68]), μ2, j1, j2, rfl⟩
  refine x_ild1 ho dX8_behind_0 ?_
  refine x_iconst (v := 0) ho dX8_behind_1 rfl ?_
  refine x_bipush (v := 100) ho dX8_behind_2 rfl ?_
  refine sMI3 ho cs_X8_82 (c_X8_in B _ _ _ _ _) ⟨rfl, rfl⟩ ⟨Nat.le_of_ble_eq_true rfl, Nat.le_of_ble_eq_true rfl⟩ (Nat.le_of_ble_eq_true rfl) dX8_behind_4 (fun r4 s4 t4 p4 => ?_)
  obtain ⟨rfl, rfl, e_⟩ := p4
  subst t4
  refine x_if_eq 29 ho dX8_behind_7 (by decide) (fun c7 => ?_) (fun c7 => ?_)
  · have c7 := bI_0.mp c7
    refine x_ldc ho kc_X8_94 dX8_behind_29 ?_
    refine x_iret ho hr ?_ dX8_behind_31
    exact ⟨_, _, _, rfl, rfl, by unfold aBehind; rw [if_neg (by first | exact fun z => c7 z.1 | exact fun z => absurd z.2 (by unfold isW; rw [Bool.eq_false_iff.mpr c26, decide_eq_false c16]; cases decide (¬ w < 0) <;> exact Bool.false_ne_true) | exact fun z => absurd z.2 (by unfold isW; rw [decide_eq_false (fun q => q c11)]; exact Bool.false_ne_true))], μ, Jm.rf, rfl, rfl⟩
  · have c7 := bI_n.mp c7
    skip
    refine x_ild2 ho dX8_behind_10 ?_
    refine x_if_lt 29 ho dX8_behind_11 (by decide) (fun c11 => ?_) (fun c11 => ?_)
    · refine x_ldc ho kc_X8_94 dX8_behind_29 ?_
      refine x_iret ho hr ?_ dX8_behind_31
      exact ⟨_, _, _, rfl, rfl, by unfold aBehind; rw [if_neg (by first | exact fun z => c7 z.1 | exact fun z => absurd z.2 (by unfold isW; rw [Bool.eq_false_iff.mpr c26, decide_eq_false c16]; cases decide (¬ w < 0) <;> exact Bool.false_ne_true) | exact fun z => absurd z.2 (by unfold isW; rw [decide_eq_false (fun q => q c11)]; exact Bool.false_ne_true))], μ, Jm.rf, rfl, rfl⟩
    · refine x_ild2 ho dX8_behind_14 ?_
      refine x_iconst (v := 2) ho dX8_behind_15 rfl ?_
      refine x_icmp_le 32 ho dX8_behind_16 (by decide) (fun c16 => ?_) (fun c16 => ?_)
      · first | exact K32 c7 (by unfold isW; rw [decide_eq_true c11, decide_eq_true c16]; rfl) | exact K32 c7 (by unfold isW; rw [decide_eq_true c11, c26, decide_eq_false c16]; rfl)
      · refine x_ald0 ho dX8_behind_19 ?_
        refine x_ild2 ho dX8_behind_20 ?_
        refine x_iconst (v := 3) ho dX8_behind_21 rfl ?_
        refine x_isub ho dX8_behind_22 ?_
        refine vMI1 ho cs_X8_115 (c_X8_isDancer B _ _ _ _ hi _) rfl ⟨rfl, rfl⟩ ⟨Nat.le_of_ble_eq_true rfl, Nat.le_of_ble_eq_true rfl⟩ (Nat.le_of_ble_eq_true rfl) dX8_behind_23 (fun r23 s23 t23 p23 => ?_)
        obtain ⟨rfl, rfl, e_⟩ := p23
        subst t23
        refine x_if_ne 32 ho dX8_behind_26 (by decide) (fun c26 => ?_) (fun c26 => ?_)
        · have c26 := bI_n.mp c26
          first | exact K32 c7 (by unfold isW; rw [decide_eq_true c11, decide_eq_true c16]; rfl) | exact K32 c7 (by unfold isW; rw [decide_eq_true c11, c26, decide_eq_false c16]; rfl)
        · have c26 := bI_0.mp c26
          refine x_ldc ho kc_X8_94 dX8_behind_29 ?_
          refine x_iret ho hr ?_ dX8_behind_31
          exact ⟨_, _, _, rfl, rfl, by unfold aBehind; rw [if_neg (by first | exact fun z => c7 z.1 | exact fun z => absurd z.2 (by unfold isW; rw [Bool.eq_false_iff.mpr c26, decide_eq_false c16]; cases decide (¬ w < 0) <;> exact Bool.false_ne_true) | exact fun z => absurd z.2 (by unfold isW; rw [decide_eq_false (fun q => q c11)]; exact Bool.false_ne_true))], μ, Jm.rf, rfl, rfl⟩
