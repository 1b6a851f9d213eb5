/-! the model's calls -/
theorem mle {x lo hi : Int32} : bI (¬ x < lo ∧ ¬ hi < x) = bI (¬ x < lo ∧ x ≤ hi) := bI_iff (and_congr_right (fun _ => Int32.not_lt))
theorem ix50 (d : Nat) : (37 : Int32) + 5 * nI d = nI (37 + 5 * d) := by
  rw [show (5 : Int32) * nI d = nI (5 * d) from pk_mul 5 d]
  exact nI_add 37 (5 * d)
theorem eu_d0 {h : HT} {T : Nat → Int32} {d : Nat} {v : Int32} (hd : d < 12) : upd (en h T) (37 + 5 * d) v = en (up2 h 1 d v) T := eu_d (w := 0) hd (by decide)
theorem en_d0 {h : HT} {T : Nat → Int32} {d : Nat} (hd : d < 12) : en h T (37 + 5 * d) = h 1 d := en_d (w := 0) hd (by decide)
theorem sLook_0 {h : HT} {k : Nat} (hk : k ≠ 10 ∧ k ≠ 11 ∧ k ≠ 13) : sLook h 0 k = h 0 k := by
  unfold sLook
  split
  · rw [up2_s, upd_n hk.1, sZ_e, up2_s, upd_n hk.2.2, up2_s, upd_n hk.2.1, sZ_e, up2_s, upd_n hk.2.2]
  · rw [sZ_e, up2_s, upd_n hk.2.2]
theorem sHours_14 {g : WT} {h : HT} : ∀ {n : Nat}, sHours g h n 0 14 = h 0 14
  | 0 => rfl
  | n + 1 => by
    show sHour g (sHours g h n) 0 14 = _
    unfold sHour
    rw [up2_s, upd_n (by decide), sLook_0 (by decide), sDs_f (by decide), sHours_14]
set_option maxRecDepth 100000 in
set_option maxHeartbeats 4000000 in
theorem c_X8_goesOn (B : BT) (μ : Nat → Nat → Int32) (δ : Nat → Int64) (h : HT) (T : Nat → Int32) (stk fc : Nat → Int32) (σ : ST) (hTR : TR σ h T) (hi : HI h) (n : Nat) (hn : n < 2 ^ 30) : MV B yX8_goesOn cX8_goesOn 3 none ({ frames := 5, cells := 0, slots := 0, locals := 117 }) [.ref (aB B 0), .int (nI n)] (MW μ stk fc h T) δ (fun μ' δ' => ∃ stk' fc', μ' = MW μ stk' fc' (sHours (gC σ (h 9 0)) h n) T ∧ δ' = δ) := by
  refine MX.of2 RX8 (by decide) rfl ⟨rfl, rfl⟩ (Nat.le_of_ble_eq_true rfl) (by rfl) (fun k ho hr hk => ?_)
  show XM B k (MW μ stk fc h T) δ 0 [some (.ref (aB B 0)), some (.int (nI n)), none] []
  have loop : ∀ (f i : Nat) (stk fc : Nat → Int32), n < f + i → i ≤ n → XM B k (MW μ stk fc (sHours (gC σ (h 9 0)) h i) T) δ 2 [some (.ref (aB B 0)), some (.int (nI n)), some (.int (nI i))] [] := by
    intro f
    induction f with
    | zero => intro i stk fc h1 h2; omega
    | succ f ih =>
      intro i stk fc h1 h2
      refine x_ild2 ho dX8_goesOn_2 ?_
      refine x_ild1 ho dX8_goesOn_3 ?_
      refine x_icmp_ge 17 ho dX8_goesOn_4 (by decide) (fun c4 => ?_) (fun c4 => ?_)
      · have c4 := n_le (by omega) (by omega) c4
        have ei : i = n := by omega
        subst ei
        refine x_vret ho hr ?_ dX8_goesOn_17
        exact ⟨_, _, rfl, rfl, stk, fc, rfl, rfl⟩
      · have c4 := n_nle (by omega) (by omega) c4
        refine x_ald0 ho dX8_goesOn_7 ?_
        refine vMV0 ho cs_X8_163 (c_X8_hour B _ _ _ _ _ _ σ (TR_e hTR (by rw [sHours_14]) sHours_9) (hi.hours gC_GR i)) rfl ⟨rfl, rfl⟩ ⟨Nat.le_of_ble_eq_true rfl, Nat.le_of_ble_eq_true rfl⟩ (Nat.le_of_ble_eq_true rfl) dX8_goesOn_8 (fun s8 t8 p8 => ?_)
        rw [show (sHours (gC σ (h 9 0)) h i) 9 = h 9 from sHours_9] at p8
        obtain ⟨stk, fc, rfl, rfl⟩ := p8
        refine x_inc2 (y := 1) ho dX8_goesOn_11 (by rw [hk]; decide) rfl rfl ?_
        refine x_goto 2 ho dX8_goesOn_14 (by decide) ?_
        rw [nI_1 i]
        exact ih (i + 1) stk fc (by omega) (by omega)
  have loop := loop (n + 1) 0 stk fc (by omega) (by omega)
  refine x_iconst (v := 0) ho dX8_goesOn_0 rfl ?_
  refine x_ist2 ho dX8_goesOn_1 (by rw [hk]; decide) rfl ?_
  exact loop
set_option maxRecDepth 100000 in
set_option maxHeartbeats 4000000 in
theorem c_X8_as (B : BT) (μ : Nat → Nat → Int32) (δ : Nat → Int64) (h : HT) (T : Nat → Int32) (hi : HI h) (x kd : Int32) : MI B yX8_as cX8_as 3 (some .int) ({ frames := 2, cells := 0, slots := 0, locals := 43 }) [.ref (aB B 0), .int x, .int kd] (up1 μ 1 (en h T)) δ (fun r μ' δ' => r = aAs h x kd ∧ μ' = up1 μ 1 (en h T) ∧ δ' = δ) := by
  refine MX.of2 RX8 (by decide) rfl ⟨rfl, rfl⟩ (Nat.le_of_ble_eq_true rfl) (by rfl) (fun k ho hr hk => ?_)
  show XM B k (up1 μ 1 (en h T)) δ 0 [some (.ref (aB B 0)), some (.int x), some (.int kd)] []
  refine x_ald0 ho dX8_as_0 ?_
  refine x_ild1 ho dX8_as_1 ?_
  refine vMI1 ho cs_X8_115 (c_X8_isDancer B _ _ _ _ hi _) rfl ⟨rfl, rfl⟩ ⟨Nat.le_of_ble_eq_true rfl, Nat.le_of_ble_eq_true rfl⟩ (Nat.le_of_ble_eq_true rfl) dX8_as_2 (fun r2 s2 t2 p2 => ?_)
  obtain ⟨rfl, rfl, rfl⟩ := p2
  refine x_if_eq 17 ho dX8_as_5 (by decide) (fun c5 => ?_) (fun c5 => ?_)
  · have c5 := bI_0.mp c5
    refine x_ldc ho kc_X8_94 dX8_as_17 ?_
    refine x_iret ho hr ?_ dX8_as_19
    exact ⟨_, _, _, rfl, rfl, by simp_all [-Int32.not_lt, -Int32.not_le, aAs], rfl, rfl⟩
  · have c5 := bI_n.mp c5
    obtain ⟨d, hd, rfl⟩ := isD_of c5 hi
    have hd12 := hi.n.1
    have ed : ix (nI d) = d := ix_n (by omega)
    refine x_ild2 ho dX8_as_8 ?_
    refine x_iconst (v := 0) ho dX8_as_9 rfl ?_
    refine x_iconst (v := 5) ho dX8_as_10 rfl ?_
    refine sMI3 ho cs_X8_82 (c_X8_in B _ _ _ _ _) ⟨rfl, rfl⟩ ⟨Nat.le_of_ble_eq_true rfl, Nat.le_of_ble_eq_true rfl⟩ (Nat.le_of_ble_eq_true rfl) dX8_as_11 (fun r11 s11 t11 p11 => ?_)
    obtain ⟨rfl, rfl, rfl⟩ := p11
    rw [mK]
    refine x_if_ne 20 ho dX8_as_14 (by decide) (fun c14 => ?_) (fun c14 => ?_)
    · have c14 := bI_n.mp c14
      refine x_ald0 ho dX8_as_20 ?_
      refine x_ild1 ho dX8_as_21 ?_
      refine x_iconst (v := 0) ho dX8_as_22 rfl ?_
      refine vMI2 ho cs_X8_104 (c_X8_of B _ _ _ _ d 0 (by omega) (by decide)) rfl ⟨rfl, rfl⟩ ⟨Nat.le_of_ble_eq_true rfl, Nat.le_of_ble_eq_true rfl⟩ (Nat.le_of_ble_eq_true rfl) dX8_as_23 (fun r23 s23 t23 p23 => ?_)
      obtain ⟨rfl, rfl, rfl⟩ := p23
      refine x_ild2 ho dX8_as_26 ?_
      refine sMI2 ho cs_X8_134 (c_X8_isUnder B _ _ _ _) ⟨rfl, rfl⟩ ⟨Nat.le_of_ble_eq_true rfl, Nat.le_of_ble_eq_true rfl⟩ (Nat.le_of_ble_eq_true rfl) dX8_as_27 (fun r27 s27 t27 p27 => ?_)
      obtain ⟨rfl, rfl, rfl⟩ := p27
      refine x_if_eq 42 ho dX8_as_30 (by decide) (fun c30 => ?_) (fun c30 => ?_)
      · have c30 := bI_0.mp c30
        refine x_ldc ho kc_X8_137 dX8_as_42 ?_
        refine x_iret ho hr ?_ dX8_as_44
        exact ⟨_, _, _, rfl, rfl, by simp_all [-Int32.not_lt, -Int32.not_le, aAs], rfl, rfl⟩
      · have c30 := bI_n.mp c30
        refine x_ald0 ho dX8_as_33 ?_
        refine x_ild1 ho dX8_as_34 ?_
        refine x_iconst (v := 2) ho dX8_as_35 rfl ?_
        refine vMI2 ho cs_X8_104 (c_X8_of B _ _ _ _ d 2 (by omega) (by decide)) rfl ⟨rfl, rfl⟩ ⟨Nat.le_of_ble_eq_true rfl, Nat.le_of_ble_eq_true rfl⟩ (Nat.le_of_ble_eq_true rfl) dX8_as_36 (fun r36 s36 t36 p36 => ?_)
        obtain ⟨rfl, rfl, rfl⟩ := p36
        refine x_goto 44 ho dX8_as_39 (by decide) ?_
        refine x_iret ho hr ?_ dX8_as_44
        exact ⟨_, _, _, rfl, rfl, by simp_all [-Int32.not_lt, -Int32.not_le, aAs], rfl, rfl⟩
    · have c14 := bI_0.mp c14
      refine x_ldc ho kc_X8_94 dX8_as_17 ?_
      refine x_iret ho hr ?_ dX8_as_19
      exact ⟨_, _, _, rfl, rfl, by simp_all [-Int32.not_lt, -Int32.not_le, aAs], rfl, rfl⟩
set_option maxRecDepth 100000 in
set_option maxHeartbeats 4000000 in
theorem c_X8_turns (B : BT) (μ : Nat → Nat → Int32) (δ : Nat → Int64) (h : HT) (T : Nat → Int32) (hi : HI h) (x kd : Int32) : MI B yX8_turns cX8_turns 3 (some .int) ({ frames := 2, cells := 0, slots := 0, locals := 43 }) [.ref (aB B 0), .int x, .int kd] (up1 μ 1 (en h T)) δ (fun r μ' δ' => r = (aTurns h x kd).1 ∧ μ' = up1 μ 1 (en (aTurns h x kd).2 T) ∧ δ' = δ) := by
  refine MX.of2 RX8 (by decide) rfl ⟨rfl, rfl⟩ (Nat.le_of_ble_eq_true rfl) (by rfl) (fun k ho hr hk => ?_)
  show XM B k (up1 μ 1 (en h T)) δ 0 [some (.ref (aB B 0)), some (.int x), some (.int kd)] []
  refine x_ald0 ho dX8_turns_0 ?_
  refine x_ild1 ho dX8_turns_1 ?_
  refine vMI1 ho cs_X8_115 (c_X8_isDancer B _ _ _ _ hi _) rfl ⟨rfl, rfl⟩ ⟨Nat.le_of_ble_eq_true rfl, Nat.le_of_ble_eq_true rfl⟩ (Nat.le_of_ble_eq_true rfl) dX8_turns_2 (fun r2 s2 t2 p2 => ?_)
  obtain ⟨rfl, rfl, rfl⟩ := p2
  refine x_if_eq 31 ho dX8_turns_5 (by decide) (fun c5 => ?_) (fun c5 => ?_)
  · have c5 := bI_0.mp c5
    refine x_ldc ho kc_X8_94 dX8_turns_31 ?_
    refine x_iret ho hr ?_ dX8_turns_33
    refine ⟨_, _, _, rfl, rfl, ?_, ?_, rfl⟩ <;> simp_all [-Int32.not_lt, -Int32.not_le, aTurns]
  · have c5 := bI_n.mp c5
    obtain ⟨d, hd, rfl⟩ := isD_of c5 hi
    have hd12 := hi.n.1
    have ed : ix (nI d) = d := ix_n (by omega)
    refine x_ild2 ho dX8_turns_8 ?_
    refine x_iconst (v := 0) ho dX8_turns_9 rfl ?_
    refine x_iconst (v := 5) ho dX8_turns_10 rfl ?_
    refine sMI3 ho cs_X8_82 (c_X8_in B _ _ _ _ _) ⟨rfl, rfl⟩ ⟨Nat.le_of_ble_eq_true rfl, Nat.le_of_ble_eq_true rfl⟩ (Nat.le_of_ble_eq_true rfl) dX8_turns_11 (fun r11 s11 t11 p11 => ?_)
    obtain ⟨rfl, rfl, rfl⟩ := p11
    rw [mK]
    refine x_if_eq 31 ho dX8_turns_14 (by decide) (fun c14 => ?_) (fun c14 => ?_)
    · have c14 := bI_0.mp c14
      refine x_ldc ho kc_X8_94 dX8_turns_31 ?_
      refine x_iret ho hr ?_ dX8_turns_33
      refine ⟨_, _, _, rfl, rfl, ?_, ?_, rfl⟩ <;> simp_all [-Int32.not_lt, -Int32.not_le, aTurns]
    · have c14 := bI_n.mp c14
      refine x_ald0 ho dX8_turns_17 ?_
      refine x_bipush (v := 37) ho dX8_turns_18 rfl ?_
      refine x_iconst (v := 5) ho dX8_turns_20 rfl ?_
      refine x_ild1 ho dX8_turns_21 ?_
      refine x_imul ho dX8_turns_22 ?_
      refine x_iadd ho dX8_turns_23 ?_
      rw [ix50]
      refine x_ild2 ho dX8_turns_24 ?_
      refine vMI2 ho cs_X8_138 (c_X8_becomes B _ _ (en h T) (37 + 5 * d) (by omega) _) rfl ⟨rfl, rfl⟩ ⟨Nat.le_of_ble_eq_true rfl, Nat.le_of_ble_eq_true rfl⟩ (Nat.le_of_ble_eq_true rfl) dX8_turns_25 (fun r25 s25 t25 p25 => ?_)
      obtain ⟨rfl, rfl, rfl⟩ := p25
      rw [eu_d0 (by omega), en_d0 (by omega)]
      refine x_goto 33 ho dX8_turns_28 (by decide) ?_
      refine x_iret ho hr ?_ dX8_turns_33
      refine ⟨_, _, _, rfl, rfl, ?_, ?_, rfl⟩ <;> simp_all [-Int32.not_lt, -Int32.not_le, aTurns]
set_option maxRecDepth 100000 in
set_option maxHeartbeats 4000000 in
theorem c_X8_sweep (B : BT) (μ : Nat → Nat → Int32) (δ : Nat → Int64) (h : HT) (T : Nat → Int32) (p : Int32) : MI B yX8_sweep cX8_sweep 2 (some .int) ({ frames := 2, cells := 0, slots := 0, locals := 42 }) [.ref (aB B 0), .int p] (up1 μ 1 (en h T)) δ (fun r μ' δ' => r = (aSweep h p).1 ∧ μ' = up1 μ 1 (en (aSweep h p).2 T) ∧ δ' = δ) := by
  refine MX.of2 RX8 (by decide) rfl ⟨rfl, rfl⟩ (Nat.le_of_ble_eq_true rfl) (by rfl) (fun k ho hr hk => ?_)
  show XM B k (up1 μ 1 (en h T)) δ 0 [some (.ref (aB B 0)), some (.int p)] []
  refine x_ild1 ho dX8_sweep_0 ?_
  refine sMI1 ho cs_X8_141 (c_X8_isRoom B _ _ _) ⟨rfl, rfl⟩ ⟨Nat.le_of_ble_eq_true rfl, Nat.le_of_ble_eq_true rfl⟩ (Nat.le_of_ble_eq_true rfl) dX8_sweep_1 (fun r1 s1 t1 p1 => ?_)
  obtain ⟨rfl, rfl, rfl⟩ := p1
  refine x_if_eq 19 ho dX8_sweep_4 (by decide) (fun c4 => ?_) (fun c4 => ?_)
  · have c4 := bI_0.mp c4
    refine x_ldc ho kc_X8_94 dX8_sweep_19 ?_
    refine x_iret ho hr ?_ dX8_sweep_21
    refine ⟨_, _, _, rfl, rfl, ?_, ?_, rfl⟩ <;> simp_all [-Int32.not_lt, -Int32.not_le, aSweep]
  · have c4 := bI_n.mp c4
    obtain ⟨e, he, rfl⟩ := isR_of c4
    have ee : ix (nI e) = e := ix_n (by omega)
    refine x_ald0 ho dX8_sweep_7 ?_
    refine x_bipush (v := 27) ho dX8_sweep_8 rfl ?_
    refine x_ild1 ho dX8_sweep_10 ?_
    refine x_iadd ho dX8_sweep_11 ?_
    rw [show (27 : Int32) + nI e = nI (27 + e) from nI_add 27 e]
    refine x_iconst (v := 0) ho dX8_sweep_12 rfl ?_
    refine vMI2 ho cs_X8_138 (c_X8_becomes B _ _ (en h T) (27 + e) (by omega) _) rfl ⟨rfl, rfl⟩ ⟨Nat.le_of_ble_eq_true rfl, Nat.le_of_ble_eq_true rfl⟩ (Nat.le_of_ble_eq_true rfl) dX8_sweep_13 (fun r13 s13 t13 p13 => ?_)
    obtain ⟨rfl, rfl, rfl⟩ := p13
    rw [eu_mk he, en_mk he]
    refine x_goto 21 ho dX8_sweep_16 (by decide) ?_
    refine x_iret ho hr ?_ dX8_sweep_21
    refine ⟨_, _, _, rfl, rfl, ?_, ?_, rfl⟩ <;> simp_all [-Int32.not_lt, -Int32.not_le, aSweep]
set_option maxRecDepth 100000 in
set_option maxHeartbeats 4000000 in
theorem c_X8_watch (B : BT) (μ : Nat → Nat → Int32) (δ : Nat → Int64) (h : HT) (T : Nat → Int32) (v : Int32) : MI B yX8_watch cX8_watch 2 (some .int) ({ frames := 1, cells := 0, slots := 0, locals := 23 }) [.ref (aB B 0), .int v] (up1 μ 1 (en h T)) δ (fun r μ' δ' => r = (aWatch h v).1 ∧ μ' = up1 μ 1 (en (aWatch h v).2 T) ∧ δ' = δ) := by
  refine MX.of2 RX8 (by decide) rfl ⟨rfl, rfl⟩ (Nat.le_of_ble_eq_true rfl) (by rfl) (fun k ho hr hk => ?_)
  show XM B k (up1 μ 1 (en h T)) δ 0 [some (.ref (aB B 0)), some (.int v)] []
  refine x_ild1 ho dX8_watch_0 ?_
  refine x_iconst (v := 0) ho dX8_watch_1 rfl ?_
  refine x_bipush (v := 100) ho dX8_watch_2 rfl ?_
  refine sMI3 ho cs_X8_82 (c_X8_in B _ _ _ _ _) ⟨rfl, rfl⟩ ⟨Nat.le_of_ble_eq_true rfl, Nat.le_of_ble_eq_true rfl⟩ (Nat.le_of_ble_eq_true rfl) dX8_watch_4 (fun r4 s4 t4 p4 => ?_)
  obtain ⟨rfl, rfl, rfl⟩ := p4
  rw [mle]
  refine x_if_eq 19 ho dX8_watch_7 (by decide) (fun c7 => ?_) (fun c7 => ?_)
  · have c7 := bI_0.mp c7
    refine x_ldc ho kc_X8_94 dX8_watch_19 ?_
    refine x_iret ho hr ?_ dX8_watch_21
    first | exact ⟨_, _, _, rfl, rfl, (by unfold aWatch; rw [if_neg c7]), (by unfold aWatch; rw [if_neg c7]), rfl⟩ | exact ⟨_, _, _, rfl, rfl, (by unfold aWatch; rw [if_pos c7]), (by unfold aWatch; rw [if_pos c7]), rfl⟩
  · have c7 := bI_n.mp c7
    refine x_ald0 ho dX8_watch_10 ?_
    refine x_iconst (v := 3) ho dX8_watch_11 rfl ?_
    refine x_ild1 ho dX8_watch_12 ?_
    refine vMI2 ho cs_X8_138 (c_X8_becomes B _ _ (en h T) 3 (by omega) _) rfl ⟨rfl, rfl⟩ ⟨Nat.le_of_ble_eq_true rfl, Nat.le_of_ble_eq_true rfl⟩ (Nat.le_of_ble_eq_true rfl) dX8_watch_13 (fun r13 s13 t13 p13 => ?_)
    obtain ⟨rfl, rfl, rfl⟩ := p13
    rw [eu_3]
    change XM B k _ _ _ _ [.int (h 0 9)]
    refine x_goto 21 ho dX8_watch_16 (by decide) ?_
    refine x_iret ho hr ?_ dX8_watch_21
    first | exact ⟨_, _, _, rfl, rfl, (by unfold aWatch; rw [if_neg c7]), (by unfold aWatch; rw [if_neg c7]), rfl⟩ | exact ⟨_, _, _, rfl, rfl, (by unfold aWatch; rw [if_pos c7]), (by unfold aWatch; rw [if_pos c7]), rfl⟩
set_option maxRecDepth 100000 in
set_option maxHeartbeats 4000000 in
theorem c_X8_at (B : BT) (μ : Nat → Nat → Int32) (δ : Nat → Int64) (h : HT) (T : Nat → Int32) (hi : HI h) (p : Int32) : MI B yX8_at cX8_at 2 (some .int) ({ frames := 2, cells := 0, slots := 0, locals := 45 }) [.ref (aB B 0), .int p] (up1 μ 1 (en h T)) δ (fun r μ' δ' => r = aAt h p ∧ μ' = up1 μ 1 (en h T) ∧ δ' = δ) := by
  refine MX.of2 RX8 (by decide) rfl ⟨rfl, rfl⟩ (Nat.le_of_ble_eq_true rfl) (by rfl) (fun k ho hr hk => ?_)
  show XM B k (up1 μ 1 (en h T)) δ 0 [some (.ref (aB B 0)), some (.int p)] []
  refine x_ild1 ho dX8_at_0 ?_
  refine sMI1 ho cs_X8_141 (c_X8_isRoom B _ _ _) ⟨rfl, rfl⟩ ⟨Nat.le_of_ble_eq_true rfl, Nat.le_of_ble_eq_true rfl⟩ (Nat.le_of_ble_eq_true rfl) dX8_at_1 (fun r1 s1 t1 p1 => ?_)
  obtain ⟨rfl, rfl, rfl⟩ := p1
  refine x_if_eq 15 ho dX8_at_4 (by decide) (fun c4 => ?_) (fun c4 => ?_)
  · have c4 := bI_0.mp c4
    refine x_ldc ho kc_X8_94 dX8_at_15 ?_
    refine x_iret ho hr ?_ dX8_at_17
    exact ⟨_, _, _, rfl, rfl, by simp_all [-Int32.not_lt, -Int32.not_le, aAt], rfl, rfl⟩
  · have c4 := bI_n.mp c4
    refine x_ald0 ho dX8_at_7 ?_
    refine x_ild1 ho dX8_at_8 ?_
    refine vMI1 ho cs_X8_144 (c_X8_those B _ _ _ _ hi _) rfl ⟨rfl, rfl⟩ ⟨Nat.le_of_ble_eq_true rfl, Nat.le_of_ble_eq_true rfl⟩ (Nat.le_of_ble_eq_true rfl) dX8_at_9 (fun r9 s9 t9 p9 => ?_)
    obtain ⟨rfl, rfl, rfl⟩ := p9
    refine x_goto 17 ho dX8_at_12 (by decide) ?_
    refine x_iret ho hr ?_ dX8_at_17
    exact ⟨_, _, _, rfl, rfl, by simp_all [-Int32.not_lt, -Int32.not_le, aAt], rfl, rfl⟩
set_option maxRecDepth 100000 in
set_option maxHeartbeats 4000000 in
theorem c_X8_seed (B : BT) (μ : Nat → Nat → Int32) (δ : Nat → Int64) (h : HT) (T : Nat → Int32) (v : Int32) : MI B yX8_seed cX8_seed 2 (some .int) ({ frames := 1, cells := 0, slots := 0, locals := 23 }) [.ref (aB B 0), .int v] (up1 μ 1 (en h T)) δ (fun r μ' δ' => r = (aSeed h v).1 ∧ μ' = up1 μ 1 (en (aSeed h v).2 T) ∧ δ' = δ) := by
  refine MX.of2 RX8 (by decide) rfl ⟨rfl, rfl⟩ (Nat.le_of_ble_eq_true rfl) (by rfl) (fun k ho hr hk => ?_)
  show XM B k (up1 μ 1 (en h T)) δ 0 [some (.ref (aB B 0)), some (.int v)] []
  refine x_ald0 ho dX8_seed_0 ?_
  refine x_iconst (v := 0) ho dX8_seed_1 rfl ?_
  refine x_ild1 ho dX8_seed_2 ?_
  refine vMI2 ho cs_X8_138 (c_X8_becomes B _ _ (en h T) (0) (by omega) _) rfl ⟨rfl, rfl⟩ ⟨Nat.le_of_ble_eq_true rfl, Nat.le_of_ble_eq_true rfl⟩ (Nat.le_of_ble_eq_true rfl) dX8_seed_3 (fun r3 s3 t3 p3 => ?_)
  obtain ⟨rfl, rfl, rfl⟩ := p3
  rw [eu_0]
  refine x_iret ho hr ?_ dX8_seed_6
  exact ⟨_, _, _, rfl, rfl, rfl, rfl, rfl⟩
theorem isWhat_1 {v : Int32} : isWhat 1 v = isR v := rfl
theorem isWhat_2 {v : Int32} : isWhat 2 v = isS v := rfl
theorem isWhat_3 {v : Int32} : isWhat 3 v = isT v := rfl
set_option maxRecDepth 100000 in
set_option maxHeartbeats 4000000 in
theorem c_X8_dancer (B : BT) (μ : Nat → Nat → Int32) (δ : Nat → Int64) (h : HT) (T : Nat → Int32) (hi : HI h) (kd ar so st : Int32) : MI B yX8_dancer cX8_dancer 5 (some .int) ({ frames := 2, cells := 0, slots := 0, locals := 48 }) [.ref (aB B 0), .int kd, .int ar, .int so, .int st] (up1 μ 1 (en h T)) δ (fun r μ' δ' => r = (aDancer h kd ar so st).1 ∧ μ' = up1 μ 1 (en (aDancer h kd ar so st).2 T) ∧ δ' = δ) := by
  refine MX.of2 RX8 (by decide) rfl ⟨rfl, rfl⟩ (Nat.le_of_ble_eq_true rfl) (by rfl) (fun k ho hr hk => ?_)
  show XM B k (up1 μ 1 (en h T)) δ 0 [some (.ref (aB B 0)), some (.int kd), some (.int ar), some (.int so), some (.int st)] []
  refine x_ild1 ho dX8_dancer_0 ?_
  refine x_iconst (v := 0) ho dX8_dancer_1 rfl ?_
  refine x_iconst (v := 5) ho dX8_dancer_2 rfl ?_
  refine sMI3 ho cs_X8_82 (c_X8_in B _ _ _ _ _) ⟨rfl, rfl⟩ ⟨Nat.le_of_ble_eq_true rfl, Nat.le_of_ble_eq_true rfl⟩ (Nat.le_of_ble_eq_true rfl) dX8_dancer_3 (fun r3 s3 t3 p3 => ?_)
  obtain ⟨rfl, rfl, rfl⟩ := p3
  rw [mK]
  refine x_if_eq 34 ho dX8_dancer_6 (by decide) (fun c6 => ?_) (fun c6 => ?_)
  · have c6 := bI_0.mp c6
    refine x_ldc ho kc_X8_94 dX8_dancer_34 ?_
    refine x_iret ho hr ?_ dX8_dancer_36
    refine ⟨_, _, _, rfl, rfl, ?_, ?_, rfl⟩ <;> simp_all [-Int32.not_lt, -Int32.not_le, aDancer]
  · have c6 := bI_n.mp c6
    refine x_iconst (v := 1) ho dX8_dancer_9 rfl ?_
    refine x_ild2 ho dX8_dancer_10 ?_
    refine sMI2 ho cs_X8_90 (c_X8_isOf B _ _ _ _) ⟨rfl, rfl⟩ ⟨Nat.le_of_ble_eq_true rfl, Nat.le_of_ble_eq_true rfl⟩ (Nat.le_of_ble_eq_true rfl) dX8_dancer_11 (fun r11 s11 t11 p11 => ?_)
    obtain ⟨rfl, rfl, rfl⟩ := p11
    rw [isWhat_1]
    refine x_if_eq 34 ho dX8_dancer_14 (by decide) (fun c14 => ?_) (fun c14 => ?_)
    · have c14 := bI_0.mp c14
      refine x_ldc ho kc_X8_94 dX8_dancer_34 ?_
      refine x_iret ho hr ?_ dX8_dancer_36
      refine ⟨_, _, _, rfl, rfl, ?_, ?_, rfl⟩ <;> simp_all [-Int32.not_lt, -Int32.not_le, aDancer]
    · have c14 := bI_n.mp c14
      refine x_iconst (v := 2) ho dX8_dancer_17 rfl ?_
      refine x_ild3 ho dX8_dancer_18 ?_
      refine sMI2 ho cs_X8_90 (c_X8_isOf B _ _ _ _) ⟨rfl, rfl⟩ ⟨Nat.le_of_ble_eq_true rfl, Nat.le_of_ble_eq_true rfl⟩ (Nat.le_of_ble_eq_true rfl) dX8_dancer_19 (fun r19 s19 t19 p19 => ?_)
      obtain ⟨rfl, rfl, rfl⟩ := p19
      rw [isWhat_2]
      refine x_if_eq 34 ho dX8_dancer_22 (by decide) (fun c22 => ?_) (fun c22 => ?_)
      · have c22 := bI_0.mp c22
        refine x_ldc ho kc_X8_94 dX8_dancer_34 ?_
        refine x_iret ho hr ?_ dX8_dancer_36
        refine ⟨_, _, _, rfl, rfl, ?_, ?_, rfl⟩ <;> simp_all [-Int32.not_lt, -Int32.not_le, aDancer]
      · have c22 := bI_n.mp c22
        refine x_iconst (v := 3) ho dX8_dancer_25 rfl ?_
        refine x_ild4 ho dX8_dancer_26 ?_
        refine sMI2 ho cs_X8_90 (c_X8_isOf B _ _ _ _) ⟨rfl, rfl⟩ ⟨Nat.le_of_ble_eq_true rfl, Nat.le_of_ble_eq_true rfl⟩ (Nat.le_of_ble_eq_true rfl) dX8_dancer_28 (fun r28 s28 t28 p28 => ?_)
        obtain ⟨rfl, rfl, rfl⟩ := p28
        rw [isWhat_3]
        refine x_if_ne 37 ho dX8_dancer_31 (by decide) (fun c31 => ?_) (fun c31 => ?_)
        · have c31 := bI_n.mp c31
          refine x_ald0 ho dX8_dancer_37 ?_
          refine r_X8_9 ho dX8_dancer_38 ?_
          refine x_iconst (v := 1) ho dX8_dancer_41 rfl ?_
          refine m_ld (1) (rfl) (by omega) ho dX8_dancer_42 ?_
          change XM B k _ _ _ _ (.int (h 0 0) :: _)
          refine x_bipush (v := 12) ho dX8_dancer_43 rfl ?_
          refine x_icmp_ne 53 ho dX8_dancer_45 (by decide) (fun c45 => ?_) (fun c45 => ?_)
          · have hn := hi.n
            have hn12 : sN h < 12 := Nat.lt_of_le_of_ne hn.1 (fun q => c45 (by rw [hn.2, q]; rfl))
            have c45' : h 0 0 < 12 := by rw [hn.2]; exact nI_lt (b := 12) hn12 (by decide)
            refine x_ald0 ho dX8_dancer_53 ?_
            refine x_ild1 ho dX8_dancer_54 ?_
            refine x_ild2 ho dX8_dancer_55 ?_
            refine x_ild3 ho dX8_dancer_56 ?_
            refine x_ild4 ho dX8_dancer_57 ?_
            refine vMI4 ho cs_X8_96 (c_X8_comes B _ _ _ _ hn.2 hn12 _ _ _ _) rfl ⟨rfl, rfl⟩ ⟨Nat.le_of_ble_eq_true rfl, Nat.le_of_ble_eq_true rfl⟩ (Nat.le_of_ble_eq_true rfl) dX8_dancer_59 (fun r59 s59 t59 p59 => ?_)
            obtain ⟨rfl, rfl, rfl⟩ := p59
            refine x_iret ho hr ?_ dX8_dancer_62
            first | exact ⟨_, _, _, rfl, rfl, by unfold aDancer; rw [if_pos ⟨c6, c14, c22, c31⟩, if_neg c45'], by unfold aDancer; rw [if_pos ⟨c6, c14, c22, c31⟩, if_neg c45'], rfl⟩ | exact ⟨_, _, _, rfl, rfl, by unfold aDancer; rw [if_pos ⟨c6, c14, c22, c31⟩, if_pos c45'], by unfold aDancer; rw [if_pos ⟨c6, c14, c22, c31⟩, if_pos c45'], rfl⟩
          · have c45' : ¬ h 0 0 < 12 := by rw [c45]; decide
            refine x_ldc ho kc_X8_95 dX8_dancer_48 ?_
            refine x_goto 62 ho dX8_dancer_50 (by decide) ?_
            refine x_iret ho hr ?_ dX8_dancer_62
            first | exact ⟨_, _, _, rfl, rfl, by unfold aDancer; rw [if_pos ⟨c6, c14, c22, c31⟩, if_neg c45'], by unfold aDancer; rw [if_pos ⟨c6, c14, c22, c31⟩, if_neg c45'], rfl⟩ | exact ⟨_, _, _, rfl, rfl, by unfold aDancer; rw [if_pos ⟨c6, c14, c22, c31⟩, if_pos c45'], by unfold aDancer; rw [if_pos ⟨c6, c14, c22, c31⟩, if_pos c45'], rfl⟩
        · have c31 := bI_0.mp c31
          refine x_ldc ho kc_X8_94 dX8_dancer_34 ?_
          refine x_iret ho hr ?_ dX8_dancer_36
          refine ⟨_, _, _, rfl, rfl, ?_, ?_, rfl⟩ <;> simp_all [-Int32.not_lt, -Int32.not_le, aDancer]
/-- all but the scratch of the model says the same -/
def Jm (μ μ' : ST) : Prop := ∀ q, q ≠ 13 → q ≠ 14 → q ≠ 4 → q ≠ 5 → μ' q = μ q
theorem Jm.rf {μ : ST} : Jm μ μ := fun _ _ _ _ _ => rfl
theorem MW_J {μ : ST} {stk fc : Nat → Int32} {h : HT} {T : Nat → Int32} : ∃ μ2, Jm μ μ2 ∧ MW μ stk fc h T = up1 μ2 1 (en h T) := ⟨up1 (up1 μ 13 stk) 14 fc, fun q h1 h2 _ _ => by rw [up1_n h2, up1_n h1], rfl⟩
theorem w_wearsOn (B : BT) (μ : ST) (δ : Nat → Int64) (h : HT) (T : Nat → Int32) (σ : ST) (hTR : TR σ h T) (d : Nat) (hd : d < 12) (f : Int32) (hf : rg f 0 9) : MI B yX8_wearsOn cX8_wearsOn 5 (some .int) ({ frames := 2, cells := 0, slots := 0, locals := 47 }) [.ref (aB B 0), .int (nI d), .int f] (up1 μ 1 (en h T)) δ (fun r μ' δ' => r = kWears (h 1 d) (gC σ (h 9 0) f (h 3 d) (h 5 d)) ∧ ∃ μ2, Jm μ μ2 ∧ μ' = up1 μ2 1 (en h T) ∧ δ' = δ) := by
  have z := c_X8_wearsOn B μ δ h T (μ 13) (μ 14) σ hTR d hd f hf
  rw [← MW_0] at z
  refine MX.mono z (fun v ce' hp => ?_)
  obtain ⟨r, μ', δ', e1, e2, e3, s1, s2, e4, e5⟩ := hp
  obtain ⟨μ2, j1, j2⟩ := MW_J (μ := μ) (stk := s1) (fc := s2) (h := h) (T := T)
  exact ⟨r, μ', δ', e1, e2, e3, μ2, j1, e4.trans j2, e5⟩
set_option maxRecDepth 100000 in
set_option maxHeartbeats 4000000 in
theorem c_X8_told (B : BT) (μ : Nat → Nat → Int32) (δ : Nat → Int64) (h : HT) (T : Nat → Int32) (hi : HI h) (σ : ST) (hTR : TR σ h T) (x w : Int32) : MI B yX8_told cX8_told 3 (some .int) ({ frames := 3, cells := 0, slots := 0, locals := 71 }) [.ref (aB B 0), .int x, .int w] (up1 μ 1 (en h T)) δ (fun r μ' δ' => r = aTold (gC σ (h 9 0)) h x w ∧ ∃ μ2, Jm μ μ2 ∧ μ' = up1 μ2 1 (en h T) ∧ δ' = δ) := by
  refine MX.of2 RX8 (by decide) rfl ⟨rfl, rfl⟩ (Nat.le_of_ble_eq_true rfl) (by rfl) (fun k ho hr hk => ?_)
  show XM B k (up1 μ 1 (en h T)) δ 0 [some (.ref (aB B 0)), some (.int x), some (.int w)] []
  refine x_ald0 ho dX8_told_0 ?_
  refine x_ild1 ho dX8_told_1 ?_
  refine vMI1 ho cs_X8_115 (c_X8_isDancer B _ _ _ _ hi _) rfl ⟨rfl, rfl⟩ ⟨Nat.le_of_ble_eq_true rfl, Nat.le_of_ble_eq_true rfl⟩ (Nat.le_of_ble_eq_true rfl) dX8_told_2 (fun r2 s2 t2 p2 => ?_)
  obtain ⟨rfl, rfl, rfl⟩ := p2
  refine x_if_ne 11 ho dX8_told_5 (by decide) (fun c5 => ?_) (fun c5 => ?_)
  · have c5 := bI_n.mp c5
    obtain ⟨d, hd, rfl⟩ := isD_of c5 hi
    have hd12 := hi.n.1
    have ed : ix (nI d) = d := ix_n (by omega)
    refine x_ild2 ho dX8_told_11 ?_
    refine x_topi (fun y12 ey12 => ?_)
    by_cases q12_0 : y12 = 0
    · rw [q12_0] at ey12 ⊢
      refine x_tin 64 ho dX8_told_12 (by decide) (by decide) (by rfl) (by decide) ?_
      subst ey12
      refine x_ald0 ho dX8_told_64 ?_
      refine x_ild1 ho dX8_told_65 ?_
      refine x_ild2 ho dX8_told_66 ?_
      first | (refine vMI2 ho cs_X8_104 (c_X8_of B _ _ _ _ d 0 (by omega) (by decide)) rfl ⟨rfl, rfl⟩ ⟨Nat.le_of_ble_eq_true rfl, Nat.le_of_ble_eq_true rfl⟩ (Nat.le_of_ble_eq_true rfl) dX8_told_67 (fun r67 s67 t67 p67 => ?_)) | (refine vMI2 ho cs_X8_104 (c_X8_of B _ _ _ _ d 1 (by omega) (by decide)) rfl ⟨rfl, rfl⟩ ⟨Nat.le_of_ble_eq_true rfl, Nat.le_of_ble_eq_true rfl⟩ (Nat.le_of_ble_eq_true rfl) dX8_told_67 (fun r67 s67 t67 p67 => ?_)) | (refine vMI2 ho cs_X8_104 (c_X8_of B _ _ _ _ d 2 (by omega) (by decide)) rfl ⟨rfl, rfl⟩ ⟨Nat.le_of_ble_eq_true rfl, Nat.le_of_ble_eq_true rfl⟩ (Nat.le_of_ble_eq_true rfl) dX8_told_67 (fun r67 s67 t67 p67 => ?_)) | (refine vMI2 ho cs_X8_104 (c_X8_of B _ _ _ _ d 3 (by omega) (by decide)) rfl ⟨rfl, rfl⟩ ⟨Nat.le_of_ble_eq_true rfl, Nat.le_of_ble_eq_true rfl⟩ (Nat.le_of_ble_eq_true rfl) dX8_told_67 (fun r67 s67 t67 p67 => ?_)) | (refine vMI2 ho cs_X8_104 (c_X8_of B _ _ _ _ d 4 (by omega) (by decide)) rfl ⟨rfl, rfl⟩ ⟨Nat.le_of_ble_eq_true rfl, Nat.le_of_ble_eq_true rfl⟩ (Nat.le_of_ble_eq_true rfl) dX8_told_67 (fun r67 s67 t67 p67 => ?_))
      obtain ⟨rfl, rfl, rfl⟩ := p67
      refine x_iret ho hr ?_ dX8_told_70
      exact ⟨_, _, _, rfl, rfl, by simp_all [aTold, sLeaves], μ, Jm.rf, rfl, rfl⟩
    · skip
      by_cases q12_1 : y12 = 1
      · rw [q12_1] at ey12 ⊢
        refine x_tin 64 ho dX8_told_12 (by decide) (by decide) (by rfl) (by decide) ?_
        subst ey12
        refine x_ald0 ho dX8_told_64 ?_
        refine x_ild1 ho dX8_told_65 ?_
        refine x_ild2 ho dX8_told_66 ?_
        first | (refine vMI2 ho cs_X8_104 (c_X8_of B _ _ _ _ d 0 (by omega) (by decide)) rfl ⟨rfl, rfl⟩ ⟨Nat.le_of_ble_eq_true rfl, Nat.le_of_ble_eq_true rfl⟩ (Nat.le_of_ble_eq_true rfl) dX8_told_67 (fun r67 s67 t67 p67 => ?_)) | (refine vMI2 ho cs_X8_104 (c_X8_of B _ _ _ _ d 1 (by omega) (by decide)) rfl ⟨rfl, rfl⟩ ⟨Nat.le_of_ble_eq_true rfl, Nat.le_of_ble_eq_true rfl⟩ (Nat.le_of_ble_eq_true rfl) dX8_told_67 (fun r67 s67 t67 p67 => ?_)) | (refine vMI2 ho cs_X8_104 (c_X8_of B _ _ _ _ d 2 (by omega) (by decide)) rfl ⟨rfl, rfl⟩ ⟨Nat.le_of_ble_eq_true rfl, Nat.le_of_ble_eq_true rfl⟩ (Nat.le_of_ble_eq_true rfl) dX8_told_67 (fun r67 s67 t67 p67 => ?_)) | (refine vMI2 ho cs_X8_104 (c_X8_of B _ _ _ _ d 3 (by omega) (by decide)) rfl ⟨rfl, rfl⟩ ⟨Nat.le_of_ble_eq_true rfl, Nat.le_of_ble_eq_true rfl⟩ (Nat.le_of_ble_eq_true rfl) dX8_told_67 (fun r67 s67 t67 p67 => ?_)) | (refine vMI2 ho cs_X8_104 (c_X8_of B _ _ _ _ d 4 (by omega) (by decide)) rfl ⟨rfl, rfl⟩ ⟨Nat.le_of_ble_eq_true rfl, Nat.le_of_ble_eq_true rfl⟩ (Nat.le_of_ble_eq_true rfl) dX8_told_67 (fun r67 s67 t67 p67 => ?_))
        obtain ⟨rfl, rfl, rfl⟩ := p67
        refine x_iret ho hr ?_ dX8_told_70
        exact ⟨_, _, _, rfl, rfl, by simp_all [aTold, sLeaves], μ, Jm.rf, rfl, rfl⟩
      · skip
        by_cases q12_2 : y12 = 2
        · rw [q12_2] at ey12 ⊢
          refine x_tin 64 ho dX8_told_12 (by decide) (by decide) (by rfl) (by decide) ?_
          subst ey12
          refine x_ald0 ho dX8_told_64 ?_
          refine x_ild1 ho dX8_told_65 ?_
          refine x_ild2 ho dX8_told_66 ?_
          first | (refine vMI2 ho cs_X8_104 (c_X8_of B _ _ _ _ d 0 (by omega) (by decide)) rfl ⟨rfl, rfl⟩ ⟨Nat.le_of_ble_eq_true rfl, Nat.le_of_ble_eq_true rfl⟩ (Nat.le_of_ble_eq_true rfl) dX8_told_67 (fun r67 s67 t67 p67 => ?_)) | (refine vMI2 ho cs_X8_104 (c_X8_of B _ _ _ _ d 1 (by omega) (by decide)) rfl ⟨rfl, rfl⟩ ⟨Nat.le_of_ble_eq_true rfl, Nat.le_of_ble_eq_true rfl⟩ (Nat.le_of_ble_eq_true rfl) dX8_told_67 (fun r67 s67 t67 p67 => ?_)) | (refine vMI2 ho cs_X8_104 (c_X8_of B _ _ _ _ d 2 (by omega) (by decide)) rfl ⟨rfl, rfl⟩ ⟨Nat.le_of_ble_eq_true rfl, Nat.le_of_ble_eq_true rfl⟩ (Nat.le_of_ble_eq_true rfl) dX8_told_67 (fun r67 s67 t67 p67 => ?_)) | (refine vMI2 ho cs_X8_104 (c_X8_of B _ _ _ _ d 3 (by omega) (by decide)) rfl ⟨rfl, rfl⟩ ⟨Nat.le_of_ble_eq_true rfl, Nat.le_of_ble_eq_true rfl⟩ (Nat.le_of_ble_eq_true rfl) dX8_told_67 (fun r67 s67 t67 p67 => ?_)) | (refine vMI2 ho cs_X8_104 (c_X8_of B _ _ _ _ d 4 (by omega) (by decide)) rfl ⟨rfl, rfl⟩ ⟨Nat.le_of_ble_eq_true rfl, Nat.le_of_ble_eq_true rfl⟩ (Nat.le_of_ble_eq_true rfl) dX8_told_67 (fun r67 s67 t67 p67 => ?_))
          obtain ⟨rfl, rfl, rfl⟩ := p67
          refine x_iret ho hr ?_ dX8_told_70
          exact ⟨_, _, _, rfl, rfl, by simp_all [aTold, sLeaves], μ, Jm.rf, rfl, rfl⟩
        · skip
          by_cases q12_3 : y12 = 3
          · rw [q12_3] at ey12 ⊢
            refine x_tin 64 ho dX8_told_12 (by decide) (by decide) (by rfl) (by decide) ?_
            subst ey12
            refine x_ald0 ho dX8_told_64 ?_
            refine x_ild1 ho dX8_told_65 ?_
            refine x_ild2 ho dX8_told_66 ?_
            first | (refine vMI2 ho cs_X8_104 (c_X8_of B _ _ _ _ d 0 (by omega) (by decide)) rfl ⟨rfl, rfl⟩ ⟨Nat.le_of_ble_eq_true rfl, Nat.le_of_ble_eq_true rfl⟩ (Nat.le_of_ble_eq_true rfl) dX8_told_67 (fun r67 s67 t67 p67 => ?_)) | (refine vMI2 ho cs_X8_104 (c_X8_of B _ _ _ _ d 1 (by omega) (by decide)) rfl ⟨rfl, rfl⟩ ⟨Nat.le_of_ble_eq_true rfl, Nat.le_of_ble_eq_true rfl⟩ (Nat.le_of_ble_eq_true rfl) dX8_told_67 (fun r67 s67 t67 p67 => ?_)) | (refine vMI2 ho cs_X8_104 (c_X8_of B _ _ _ _ d 2 (by omega) (by decide)) rfl ⟨rfl, rfl⟩ ⟨Nat.le_of_ble_eq_true rfl, Nat.le_of_ble_eq_true rfl⟩ (Nat.le_of_ble_eq_true rfl) dX8_told_67 (fun r67 s67 t67 p67 => ?_)) | (refine vMI2 ho cs_X8_104 (c_X8_of B _ _ _ _ d 3 (by omega) (by decide)) rfl ⟨rfl, rfl⟩ ⟨Nat.le_of_ble_eq_true rfl, Nat.le_of_ble_eq_true rfl⟩ (Nat.le_of_ble_eq_true rfl) dX8_told_67 (fun r67 s67 t67 p67 => ?_)) | (refine vMI2 ho cs_X8_104 (c_X8_of B _ _ _ _ d 4 (by omega) (by decide)) rfl ⟨rfl, rfl⟩ ⟨Nat.le_of_ble_eq_true rfl, Nat.le_of_ble_eq_true rfl⟩ (Nat.le_of_ble_eq_true rfl) dX8_told_67 (fun r67 s67 t67 p67 => ?_))
            obtain ⟨rfl, rfl, rfl⟩ := p67
            refine x_iret ho hr ?_ dX8_told_70
            exact ⟨_, _, _, rfl, rfl, by simp_all [aTold, sLeaves], μ, Jm.rf, rfl, rfl⟩
          · skip
            by_cases q12_4 : y12 = 4
            · rw [q12_4] at ey12 ⊢
              refine x_tin 64 ho dX8_told_12 (by decide) (by decide) (by rfl) (by decide) ?_
              subst ey12
              refine x_ald0 ho dX8_told_64 ?_
              refine x_ild1 ho dX8_told_65 ?_
              refine x_ild2 ho dX8_told_66 ?_
              first | (refine vMI2 ho cs_X8_104 (c_X8_of B _ _ _ _ d 0 (by omega) (by decide)) rfl ⟨rfl, rfl⟩ ⟨Nat.le_of_ble_eq_true rfl, Nat.le_of_ble_eq_true rfl⟩ (Nat.le_of_ble_eq_true rfl) dX8_told_67 (fun r67 s67 t67 p67 => ?_)) | (refine vMI2 ho cs_X8_104 (c_X8_of B _ _ _ _ d 1 (by omega) (by decide)) rfl ⟨rfl, rfl⟩ ⟨Nat.le_of_ble_eq_true rfl, Nat.le_of_ble_eq_true rfl⟩ (Nat.le_of_ble_eq_true rfl) dX8_told_67 (fun r67 s67 t67 p67 => ?_)) | (refine vMI2 ho cs_X8_104 (c_X8_of B _ _ _ _ d 2 (by omega) (by decide)) rfl ⟨rfl, rfl⟩ ⟨Nat.le_of_ble_eq_true rfl, Nat.le_of_ble_eq_true rfl⟩ (Nat.le_of_ble_eq_true rfl) dX8_told_67 (fun r67 s67 t67 p67 => ?_)) | (refine vMI2 ho cs_X8_104 (c_X8_of B _ _ _ _ d 3 (by omega) (by decide)) rfl ⟨rfl, rfl⟩ ⟨Nat.le_of_ble_eq_true rfl, Nat.le_of_ble_eq_true rfl⟩ (Nat.le_of_ble_eq_true rfl) dX8_told_67 (fun r67 s67 t67 p67 => ?_)) | (refine vMI2 ho cs_X8_104 (c_X8_of B _ _ _ _ d 4 (by omega) (by decide)) rfl ⟨rfl, rfl⟩ ⟨Nat.le_of_ble_eq_true rfl, Nat.le_of_ble_eq_true rfl⟩ (Nat.le_of_ble_eq_true rfl) dX8_told_67 (fun r67 s67 t67 p67 => ?_))
              obtain ⟨rfl, rfl, rfl⟩ := p67
              refine x_iret ho hr ?_ dX8_told_70
              exact ⟨_, _, _, rfl, rfl, by simp_all [aTold, sLeaves], μ, Jm.rf, rfl, rfl⟩
            · skip
              by_cases q12_5 : y12 = 5
              · rw [q12_5] at ey12 ⊢
                refine x_tin 71 ho dX8_told_12 (by decide) (by decide) (by rfl) (by decide) ?_
                refine x_ald0 ho dX8_told_71 ?_
                refine x_ild1 ho dX8_told_72 ?_
                refine vMI1 ho cs_X8_119 (c_X8_goesOf B _ _ _ _ hi d (by omega)) rfl ⟨rfl, rfl⟩ ⟨Nat.le_of_ble_eq_true rfl, Nat.le_of_ble_eq_true rfl⟩ (Nat.le_of_ble_eq_true rfl) dX8_told_73 (fun r73 s73 t73 p73 => ?_)
                obtain ⟨rfl, rfl, rfl⟩ := p73
                refine x_iret ho hr ?_ dX8_told_76
                subst ey12
                exact ⟨_, _, _, rfl, rfl, by simp_all [aTold, sLeaves], μ, Jm.rf, rfl, rfl⟩
              · skip
                by_cases q12_6 : y12 = 6
                · rw [q12_6] at ey12 ⊢
                  refine x_tin 77 ho dX8_told_12 (by decide) (by decide) (by rfl) (by decide) ?_
                  refine x_ald0 ho dX8_told_77 ?_
                  refine x_ild1 ho dX8_told_78 ?_
                  refine x_ald0 ho dX8_told_79 ?_
                  refine x_ild1 ho dX8_told_80 ?_
                  refine vMI1 ho cs_X8_122 (c_X8_floorUnder B _ _ _ _ hi d (by omega)) rfl ⟨rfl, rfl⟩ ⟨Nat.le_of_ble_eq_true rfl, Nat.le_of_ble_eq_true rfl⟩ (Nat.le_of_ble_eq_true rfl) dX8_told_81 (fun r81 s81 t81 p81 => ?_)
                  obtain ⟨rfl, rfl, rfl⟩ := p81
                  refine vMI2 ho cs_X8_125 (w_wearsOn B _ _ _ _ σ hTR d (by omega) _ (hi.floor (by have := rg_ix (hi.at (d := d) (by omega)) (by decide); omega))) rfl ⟨rfl, rfl⟩ ⟨Nat.le_of_ble_eq_true rfl, Nat.le_of_ble_eq_true rfl⟩ (Nat.le_of_ble_eq_true rfl) dX8_told_84 (fun r84 s84 t84 p84 => ?_)
                  obtain ⟨rfl, μ2, e14, rfl, rfl⟩ := p84
                  refine x_iret ho hr ?_ dX8_told_87
                  subst ey12
                  exact ⟨_, _, _, rfl, rfl, by simp_all [aTold, sWears], _, e14, rfl, rfl⟩
                · skip
                  by_cases q12_7 : y12 = 7
                  · rw [q12_7] at ey12 ⊢
                    refine x_tin 88 ho dX8_told_12 (by decide) (by decide) (by rfl) (by decide) ?_
                    refine x_ald0 ho dX8_told_88 ?_
                    refine x_ild1 ho dX8_told_89 ?_
                    refine x_ald0 ho dX8_told_90 ?_
                    refine x_ild1 ho dX8_told_91 ?_
                    refine vMI1 ho cs_X8_122 (c_X8_floorUnder B _ _ _ _ hi d (by omega)) rfl ⟨rfl, rfl⟩ ⟨Nat.le_of_ble_eq_true rfl, Nat.le_of_ble_eq_true rfl⟩ (Nat.le_of_ble_eq_true rfl) dX8_told_92 (fun r92 s92 t92 p92 => ?_)
                    obtain ⟨rfl, rfl, rfl⟩ := p92
                    refine vMI2 ho cs_X8_128 (c_X8_leavesOn B _ _ _ _ d (by omega) _) rfl ⟨rfl, rfl⟩ ⟨Nat.le_of_ble_eq_true rfl, Nat.le_of_ble_eq_true rfl⟩ (Nat.le_of_ble_eq_true rfl) dX8_told_95 (fun r95 s95 t95 p95 => ?_)
                    obtain ⟨rfl, rfl, rfl⟩ := p95
                    refine x_iret ho hr ?_ dX8_told_98
                    subst ey12
                    exact ⟨_, _, _, rfl, rfl, by simp_all [aTold, sLeaves], μ, Jm.rf, rfl, rfl⟩
                  · skip
                    by_cases q12_8 : y12 = 8
                    · rw [q12_8] at ey12 ⊢
                      refine x_tin 99 ho dX8_told_12 (by decide) (by decide) (by rfl) (by decide) ?_
                      refine x_ald0 ho dX8_told_99 ?_
                      refine x_ild1 ho dX8_told_100 ?_
                      refine vMI1 ho cs_X8_131 (c_X8_worthOf B _ _ _ _ d (by omega)) rfl ⟨rfl, rfl⟩ ⟨Nat.le_of_ble_eq_true rfl, Nat.le_of_ble_eq_true rfl⟩ (Nat.le_of_ble_eq_true rfl) dX8_told_101 (fun r101 s101 t101 p101 => ?_)
                      obtain ⟨rfl, rfl, rfl⟩ := p101
                      refine x_iret ho hr ?_ dX8_told_104
                      subst ey12
                      exact ⟨_, _, _, rfl, rfl, by simp_all [aTold, sLeaves], μ, Jm.rf, rfl, rfl⟩
                    · skip
                      refine x_tout 105 ho dX8_told_12 (by have tq12_0 := lv_neT q12_0 (a := 0) (by decide); have tq12_1 := lv_neT q12_1 (a := 1) (by decide); have tq12_2 := lv_neT q12_2 (a := 2) (by decide); have tq12_3 := lv_neT q12_3 (a := 3) (by decide); have tq12_4 := lv_neT q12_4 (a := 4) (by decide); have tq12_5 := lv_neT q12_5 (a := 5) (by decide); have tq12_6 := lv_neT q12_6 (a := 6) (by decide); have tq12_7 := lv_neT q12_7 (a := 7) (by decide); have tq12_8 := lv_neT q12_8 (a := 8) (by decide); omega) (by decide) ?_
                      refine x_ldc ho kc_X8_94 dX8_told_105 ?_
                      refine x_iret ho hr ?_ dX8_told_107
                      subst ey12
                      exact ⟨_, _, _, rfl, rfl, by simp_all [aTold, sLeaves], μ, Jm.rf, rfl, rfl⟩
  · have c5 := bI_0.mp c5
    refine x_ldc ho kc_X8_94 dX8_told_8 ?_
    refine x_iret ho hr ?_ dX8_told_10
    exact ⟨_, _, _, rfl, rfl, by simp_all [aTold, sLeaves], μ, Jm.rf, rfl, rfl⟩
theorem in13 {w : Int32} (h : ¬ w < 1 ∧ w ≤ 3) : w = 1 ∨ w = 2 ∨ w = 3 := by
  obtain ⟨n, hn, rfl⟩ := nI_of (x := w) (fun z => h.1 (Int32.lt_trans z (by decide)))
  have h1 := n_nlt (b := 1) hn (by decide) h.1
  have h2 := n_le (b := 3) hn (by decide) h.2
  rcases (by omega : n = 1 ∨ n = 2 ∨ n = 3) with rfl | rfl | rfl
  · exact Or.inl rfl
  · exact Or.inr (Or.inl rfl)
  · exact Or.inr (Or.inr rfl)
theorem in01 {w : Int32} (h : ¬ w < 0 ∧ w ≤ 1) : w = 0 ∨ w = 1 := by
  obtain ⟨n, hn, rfl⟩ := nI_of h.1
  have h2 := n_le (b := 1) hn (by decide) h.2
  rcases (by omega : n = 0 ∨ n = 1) with rfl | rfl
  · exact Or.inl rfl
  · exact Or.inr rfl
theorem aSet_f {h : HT} {x w v : Int32} (hh : ¬ (¬ w < 1 ∧ w ≤ 3)) : aSet h x w v = (-1000000001, h) := by
  unfold aSet
  split
  · rw [if_neg (fun z => hh (by rw [z.1]; decide)), if_neg (fun z => hh (by rw [z.1]; decide)), if_neg (fun z => hh (by rw [z.1]; decide))]
  · rfl
theorem aSet_d {h : HT} {x w v : Int32} (hd : ¬ isD h x = true) : aSet h x w v = (-1000000001, h) := if_neg hd
theorem aSet_v {h : HT} {x w v : Int32} (hw : ¬ w < 1 ∧ w ≤ 3) (hv : ¬ isWhat w v = true) : aSet h x w v = (-1000000001, h) := by
  unfold aSet
  split
  · rcases in13 hw with rfl | rfl | rfl
    · rw [if_neg (fun z => hv z.2), if_neg (fun z => absurd z.1 (by decide)), if_neg (fun z => absurd z.1 (by decide))]
    · rw [if_neg (fun z => absurd z.1 (by decide)), if_neg (fun z => hv z.2), if_neg (fun z => absurd z.1 (by decide))]
    · rw [if_neg (fun z => absurd z.1 (by decide)), if_neg (fun z => absurd z.1 (by decide)), if_neg (fun z => hv z.2)]
  · rfl
theorem aSet_t {h : HT} {d m : Nat} {v : Int32} (hd : isD h (nI d) = true) (ed : ix (nI d) = d) (hm : m = 1 ∨ m = 2 ∨ m = 3) (hv : isWhat (nI m) v = true) : aSet h (nI d) (nI m) v = (h (m + 1) d, up2 h (m + 1) d v) := by
  unfold aSet
  rw [if_pos hd, ed]
  rcases hm with rfl | rfl | rfl
  · rw [if_pos ⟨rfl, hv⟩]
  · rw [if_neg (fun z => absurd z.1 (by decide)), if_pos ⟨rfl, hv⟩]
  · rw [if_neg (fun z => absurd z.1 (by decide)), if_neg (fun z => absurd z.1 (by decide)), if_pos ⟨rfl, hv⟩]
set_option maxRecDepth 100000 in
set_option maxHeartbeats 4000000 in
theorem c_X8_set (B : BT) (μ : Nat → Nat → Int32) (δ : Nat → Int64) (h : HT) (T : Nat → Int32) (hi : HI h) (x w v : Int32) : MI B yX8_set cX8_set 4 (some .int) ({ frames := 2, cells := 0, slots := 0, locals := 43 }) [.ref (aB B 0), .int x, .int w, .int v] (up1 μ 1 (en h T)) δ (fun r μ' δ' => r = (aSet h x w v).1 ∧ μ' = up1 μ 1 (en (aSet h x w v).2 T) ∧ δ' = δ) := by
  refine MX.of2 RX8 (by decide) rfl ⟨rfl, rfl⟩ (Nat.le_of_ble_eq_true rfl) (by rfl) (fun k ho hr hk => ?_)
  show XM B k (up1 μ 1 (en h T)) δ 0 [some (.ref (aB B 0)), some (.int x), some (.int w), some (.int v)] []
  refine x_ald0 ho dX8_set_0 ?_
  refine x_ild1 ho dX8_set_1 ?_
  refine vMI1 ho cs_X8_115 (c_X8_isDancer B _ _ _ _ hi _) rfl ⟨rfl, rfl⟩ ⟨Nat.le_of_ble_eq_true rfl, Nat.le_of_ble_eq_true rfl⟩ (Nat.le_of_ble_eq_true rfl) dX8_set_2 (fun r2 s2 t2 p2 => ?_)
  obtain ⟨rfl, rfl, rfl⟩ := p2
  refine x_if_eq 41 ho dX8_set_5 (by decide) (fun c5 => ?_) (fun c5 => ?_)
  · have c5 := bI_0.mp c5
    refine x_ldc ho kc_X8_94 dX8_set_41 ?_
    refine x_iret ho hr ?_ dX8_set_43
    first | exact ⟨_, _, _, rfl, rfl, by rw [aSet_d c5], by rw [aSet_d c5], rfl⟩ | exact ⟨_, _, _, rfl, rfl, by rw [aSet_f c14], by rw [aSet_f c14], rfl⟩ | exact ⟨_, _, _, rfl, rfl, by rw [aSet_v c14 c22], by rw [aSet_v c14 c22], rfl⟩ | exact ⟨_, _, _, rfl, rfl, by rw [aSet_t c5 ed hm c22], by rw [aSet_t c5 ed hm c22], rfl⟩
  · have c5 := bI_n.mp c5
    obtain ⟨d, hd, rfl⟩ := isD_of c5 hi
    have hd12 := hi.n.1
    have ed : ix (nI d) = d := ix_n (by omega)
    refine x_ild2 ho dX8_set_8 ?_
    refine x_iconst (v := 1) ho dX8_set_9 rfl ?_
    refine x_iconst (v := 3) ho dX8_set_10 rfl ?_
    refine sMI3 ho cs_X8_82 (c_X8_in B _ _ _ _ _) ⟨rfl, rfl⟩ ⟨Nat.le_of_ble_eq_true rfl, Nat.le_of_ble_eq_true rfl⟩ (Nat.le_of_ble_eq_true rfl) dX8_set_11 (fun r11 s11 t11 p11 => ?_)
    obtain ⟨rfl, rfl, rfl⟩ := p11
    rw [mle]
    refine x_if_eq 41 ho dX8_set_14 (by decide) (fun c14 => ?_) (fun c14 => ?_)
    · have c14 := bI_0.mp c14
      refine x_ldc ho kc_X8_94 dX8_set_41 ?_
      refine x_iret ho hr ?_ dX8_set_43
      first | exact ⟨_, _, _, rfl, rfl, by rw [aSet_d c5], by rw [aSet_d c5], rfl⟩ | exact ⟨_, _, _, rfl, rfl, by rw [aSet_f c14], by rw [aSet_f c14], rfl⟩ | exact ⟨_, _, _, rfl, rfl, by rw [aSet_v c14 c22], by rw [aSet_v c14 c22], rfl⟩ | exact ⟨_, _, _, rfl, rfl, by rw [aSet_t c5 ed hm c22], by rw [aSet_t c5 ed hm c22], rfl⟩
    · have c14 := bI_n.mp c14
      refine x_ild2 ho dX8_set_17 ?_
      refine x_ild3 ho dX8_set_18 ?_
      refine sMI2 ho cs_X8_90 (c_X8_isOf B _ _ _ _) ⟨rfl, rfl⟩ ⟨Nat.le_of_ble_eq_true rfl, Nat.le_of_ble_eq_true rfl⟩ (Nat.le_of_ble_eq_true rfl) dX8_set_19 (fun r19 s19 t19 p19 => ?_)
      obtain ⟨rfl, rfl, rfl⟩ := p19
      refine x_if_eq 41 ho dX8_set_22 (by decide) (fun c22 => ?_) (fun c22 => ?_)
      · have c22 := bI_0.mp c22
        refine x_ldc ho kc_X8_94 dX8_set_41 ?_
        refine x_iret ho hr ?_ dX8_set_43
        first | exact ⟨_, _, _, rfl, rfl, by rw [aSet_d c5], by rw [aSet_d c5], rfl⟩ | exact ⟨_, _, _, rfl, rfl, by rw [aSet_f c14], by rw [aSet_f c14], rfl⟩ | exact ⟨_, _, _, rfl, rfl, by rw [aSet_v c14 c22], by rw [aSet_v c14 c22], rfl⟩ | exact ⟨_, _, _, rfl, rfl, by rw [aSet_t c5 ed hm c22], by rw [aSet_t c5 ed hm c22], rfl⟩
      · have c22 := bI_n.mp c22
        obtain ⟨m, hm, rfl⟩ : ∃ m, (m = 1 ∨ m = 2 ∨ m = 3) ∧ w = nI m := by
          rcases in13 c14 with rfl | rfl | rfl
          · exact ⟨1, Or.inl rfl, rfl⟩
          · exact ⟨2, Or.inr (Or.inl rfl), rfl⟩
          · exact ⟨3, Or.inr (Or.inr rfl), rfl⟩
        refine x_ald0 ho dX8_set_25 ?_
        refine x_bipush (v := 37) ho dX8_set_26 rfl ?_
        refine x_iconst (v := 5) ho dX8_set_28 rfl ?_
        refine x_ild1 ho dX8_set_29 ?_
        refine x_imul ho dX8_set_30 ?_
        refine x_iadd ho dX8_set_31 ?_
        refine x_ild2 ho dX8_set_32 ?_
        refine x_iadd ho dX8_set_33 ?_
        rw [ix5]
        refine x_ild3 ho dX8_set_34 ?_
        refine vMI2 ho cs_X8_138 (c_X8_becomes B _ _ (en h T) (37 + 5 * d + m) (by omega) _) rfl ⟨rfl, rfl⟩ ⟨Nat.le_of_ble_eq_true rfl, Nat.le_of_ble_eq_true rfl⟩ (Nat.le_of_ble_eq_true rfl) dX8_set_35 (fun r35 s35 t35 p35 => ?_)
        obtain ⟨rfl, rfl, rfl⟩ := p35
        rw [eu_d (by omega) (by omega), en_d (by omega) (by omega)]
        refine x_goto 43 ho dX8_set_38 (by decide) ?_
        refine x_iret ho hr ?_ dX8_set_43
        first | exact ⟨_, _, _, rfl, rfl, by rw [aSet_d c5], by rw [aSet_d c5], rfl⟩ | exact ⟨_, _, _, rfl, rfl, by rw [aSet_f c14], by rw [aSet_f c14], rfl⟩ | exact ⟨_, _, _, rfl, rfl, by rw [aSet_v c14 c22], by rw [aSet_v c14 c22], rfl⟩ | exact ⟨_, _, _, rfl, rfl, by rw [aSet_t c5 ed hm c22], by rw [aSet_t c5 ed hm c22], rfl⟩
theorem aRoom_f {h : HT} {p w v : Int32} (hh : ¬ (isR p = true ∧ (¬ w < 0 ∧ w ≤ 1) ∧ isR v = true)) : aRoom h p w v = (-1000000001, h) := by
  unfold aRoom
  split
  · rename_i h1
    rw [if_neg (fun z => hh ⟨h1, by rw [z.1]; decide, dk.mp ⟨z.2.1, fun q => z.2.2 ((lts1 (n := 9) (by decide)).mpr q)⟩⟩), if_neg (fun z => hh ⟨h1, by rw [z.1]; decide, z.2⟩)]
  · rfl
theorem ixr (m e : Nat) : (7 : Int32) + 10 * nI m + nI e = nI (7 + 10 * m + e) := by
  rw [show (10 : Int32) * nI m = nI (10 * m) from pk_mul 10 m, show (7 : Int32) + nI (10 * m) = nI (7 + 10 * m) from nI_add 7 _, nI_add]
theorem aRoom_t {h : HT} {e m : Nat} {v : Int32} (hp : isR (nI e) = true) (ee : ix (nI e) = e) (hm : m = 0 ∨ m = 1) (hv : isR v = true) : aRoom h (nI e) (nI m) v = (h (6 + m) e, up2 h (6 + m) e v) := by
  unfold aRoom
  rw [if_pos hp, ee]
  have hv' := dk.mpr hv
  rcases hm with rfl | rfl
  · rw [if_pos ⟨rfl, hv'.1, fun q => hv'.2 ((lts1 (n := 9) (by decide)).mp q)⟩]
  · rw [if_neg (fun z => absurd z.1 (by decide)), if_pos ⟨rfl, hv⟩]
theorem eu_rm {h : HT} {T : Nat → Int32} {e m : Nat} {v : Int32} (he : e < 10) (hm : m = 0 ∨ m = 1) : upd (en h T) (7 + 10 * m + e) v = en (up2 h (6 + m) e v) T ∧ en h T (7 + 10 * m + e) = h (6 + m) e := by
  rcases hm with rfl | rfl
  · exact ⟨eu_fl he, en_fl he⟩
  · exact ⟨eu_ld he, en_ld he⟩
set_option maxRecDepth 100000 in
set_option maxHeartbeats 4000000 in
theorem c_X8_room (B : BT) (μ : Nat → Nat → Int32) (δ : Nat → Int64) (h : HT) (T : Nat → Int32) (p w v : Int32) : MI B yX8_room cX8_room 4 (some .int) ({ frames := 2, cells := 0, slots := 0, locals := 42 }) [.ref (aB B 0), .int p, .int w, .int v] (up1 μ 1 (en h T)) δ (fun r μ' δ' => r = (aRoom h p w v).1 ∧ μ' = up1 μ 1 (en (aRoom h p w v).2 T) ∧ δ' = δ) := by
  refine MX.of2 RX8 (by decide) rfl ⟨rfl, rfl⟩ (Nat.le_of_ble_eq_true rfl) (by rfl) (fun k ho hr hk => ?_)
  show XM B k (up1 μ 1 (en h T)) δ 0 [some (.ref (aB B 0)), some (.int p), some (.int w), some (.int v)] []
  refine x_ild1 ho dX8_room_0 ?_
  refine sMI1 ho cs_X8_141 (c_X8_isRoom B _ _ _) ⟨rfl, rfl⟩ ⟨Nat.le_of_ble_eq_true rfl, Nat.le_of_ble_eq_true rfl⟩ (Nat.le_of_ble_eq_true rfl) dX8_room_1 (fun r1 s1 t1 p1 => ?_)
  obtain ⟨rfl, rfl, rfl⟩ := p1
  refine x_if_eq 43 ho dX8_room_4 (by decide) (fun c4 => ?_) (fun c4 => ?_)
  · have c4 := bI_0.mp c4
    refine x_ldc ho kc_X8_94 dX8_room_43 ?_
    refine x_iret ho hr ?_ dX8_room_45
    first | exact ⟨_, _, _, rfl, rfl, by rw [aRoom_f (fun z => c4 z.1)], by rw [aRoom_f (fun z => c4 z.1)], rfl⟩ | exact ⟨_, _, _, rfl, rfl, by rw [aRoom_f (fun z => c13 z.2.1)], by rw [aRoom_f (fun z => c13 z.2.1)], rfl⟩ | exact ⟨_, _, _, rfl, rfl, by rw [aRoom_f (fun z => c23 z.2.2)], by rw [aRoom_f (fun z => c23 z.2.2)], rfl⟩ | exact ⟨_, _, _, rfl, rfl, by rw [aRoom_t c4 ee hm c23], by rw [aRoom_t c4 ee hm c23], rfl⟩
  · have c4 := bI_n.mp c4
    obtain ⟨e, he, rfl⟩ := isR_of c4
    have ee : ix (nI e) = e := ix_n (by omega)
    refine x_ild2 ho dX8_room_7 ?_
    refine x_iconst (v := 0) ho dX8_room_8 rfl ?_
    refine x_iconst (v := 1) ho dX8_room_9 rfl ?_
    refine sMI3 ho cs_X8_82 (c_X8_in B _ _ _ _ _) ⟨rfl, rfl⟩ ⟨Nat.le_of_ble_eq_true rfl, Nat.le_of_ble_eq_true rfl⟩ (Nat.le_of_ble_eq_true rfl) dX8_room_10 (fun r10 s10 t10 p10 => ?_)
    obtain ⟨rfl, rfl, rfl⟩ := p10
    rw [mle]
    refine x_if_eq 43 ho dX8_room_13 (by decide) (fun c13 => ?_) (fun c13 => ?_)
    · have c13 := bI_0.mp c13
      refine x_ldc ho kc_X8_94 dX8_room_43 ?_
      refine x_iret ho hr ?_ dX8_room_45
      first | exact ⟨_, _, _, rfl, rfl, by rw [aRoom_f (fun z => c4 z.1)], by rw [aRoom_f (fun z => c4 z.1)], rfl⟩ | exact ⟨_, _, _, rfl, rfl, by rw [aRoom_f (fun z => c13 z.2.1)], by rw [aRoom_f (fun z => c13 z.2.1)], rfl⟩ | exact ⟨_, _, _, rfl, rfl, by rw [aRoom_f (fun z => c23 z.2.2)], by rw [aRoom_f (fun z => c23 z.2.2)], rfl⟩ | exact ⟨_, _, _, rfl, rfl, by rw [aRoom_t c4 ee hm c23], by rw [aRoom_t c4 ee hm c23], rfl⟩
    · have c13 := bI_n.mp c13
      refine x_ild3 ho dX8_room_16 ?_
      refine x_iconst (v := 0) ho dX8_room_17 rfl ?_
      refine x_bipush (v := 9) ho dX8_room_18 rfl ?_
      refine sMI3 ho cs_X8_82 (c_X8_in B _ _ _ _ _) ⟨rfl, rfl⟩ ⟨Nat.le_of_ble_eq_true rfl, Nat.le_of_ble_eq_true rfl⟩ (Nat.le_of_ble_eq_true rfl) dX8_room_20 (fun r20 s20 t20 p20 => ?_)
      obtain ⟨rfl, rfl, rfl⟩ := p20
      rw [mR]
      refine x_if_eq 43 ho dX8_room_23 (by decide) (fun c23 => ?_) (fun c23 => ?_)
      · have c23 := bI_0.mp c23
        refine x_ldc ho kc_X8_94 dX8_room_43 ?_
        refine x_iret ho hr ?_ dX8_room_45
        first | exact ⟨_, _, _, rfl, rfl, by rw [aRoom_f (fun z => c4 z.1)], by rw [aRoom_f (fun z => c4 z.1)], rfl⟩ | exact ⟨_, _, _, rfl, rfl, by rw [aRoom_f (fun z => c13 z.2.1)], by rw [aRoom_f (fun z => c13 z.2.1)], rfl⟩ | exact ⟨_, _, _, rfl, rfl, by rw [aRoom_f (fun z => c23 z.2.2)], by rw [aRoom_f (fun z => c23 z.2.2)], rfl⟩ | exact ⟨_, _, _, rfl, rfl, by rw [aRoom_t c4 ee hm c23], by rw [aRoom_t c4 ee hm c23], rfl⟩
      · have c23 := bI_n.mp c23
        obtain ⟨m, hm, rfl⟩ : ∃ m, (m = 0 ∨ m = 1) ∧ w = nI m := by
          rcases in01 c13 with rfl | rfl
          · exact ⟨0, Or.inl rfl, rfl⟩
          · exact ⟨1, Or.inr rfl, rfl⟩
        refine x_ald0 ho dX8_room_26 ?_
        refine x_bipush (v := 7) ho dX8_room_27 rfl ?_
        refine x_bipush (v := 10) ho dX8_room_29 rfl ?_
        refine x_ild2 ho dX8_room_31 ?_
        refine x_imul ho dX8_room_32 ?_
        refine x_iadd ho dX8_room_33 ?_
        refine x_ild1 ho dX8_room_34 ?_
        refine x_iadd ho dX8_room_35 ?_
        rw [ixr]
        refine x_ild3 ho dX8_room_36 ?_
        refine vMI2 ho cs_X8_138 (c_X8_becomes B _ _ (en h T) (7 + 10 * m + e) (by omega) _) rfl ⟨rfl, rfl⟩ ⟨Nat.le_of_ble_eq_true rfl, Nat.le_of_ble_eq_true rfl⟩ (Nat.le_of_ble_eq_true rfl) dX8_room_37 (fun r37 s37 t37 p37 => ?_)
        obtain ⟨rfl, rfl, rfl⟩ := p37
        rw [(eu_rm he hm).1, (eu_rm (v := 0) he hm).2]
        refine x_goto 45 ho dX8_room_40 (by decide) ?_
        refine x_iret ho hr ?_ dX8_room_45
        first | exact ⟨_, _, _, rfl, rfl, by rw [aRoom_f (fun z => c4 z.1)], by rw [aRoom_f (fun z => c4 z.1)], rfl⟩ | exact ⟨_, _, _, rfl, rfl, by rw [aRoom_f (fun z => c13 z.2.1)], by rw [aRoom_f (fun z => c13 z.2.1)], rfl⟩ | exact ⟨_, _, _, rfl, rfl, by rw [aRoom_f (fun z => c23 z.2.2)], by rw [aRoom_f (fun z => c23 z.2.2)], rfl⟩ | exact ⟨_, _, _, rfl, rfl, by rw [aRoom_t c4 ee hm c23], by rw [aRoom_t c4 ee hm c23], rfl⟩
theorem mLot {h : HT} (hN : sN h < 12) : sJoin (sZ (sZ (sZ (sZ h)))) (jrem (dz (h 0 13)) 6) (jrem (dz (sZ h 0 13)) 10) (1 + jrem (dz (sZ (sZ h) 0 13)) 200) (jrem (dz (sZ (sZ (sZ h)) 0 13)) 6) = sLot h := rfl
theorem aDealN_s {h : HT} {m : Nat} (hm : m < 2 ^ 31) : aDealN h (nI m) = min m (12 - sN h) := by unfold aDealN; rw [ix_n hm]
set_option maxRecDepth 100000 in
set_option maxHeartbeats 4000000 in
theorem c_X8_deal (B : BT) (μ : Nat → Nat → Int32) (δ : Nat → Int64) (h : HT) (T : Nat → Int32) (hi : HI h) (n : Int32) : MI B yX8_deal cX8_deal 7 (some .int) ({ frames := 2, cells := 0, slots := 0, locals := 48 }) [.ref (aB B 0), .int n] (up1 μ 1 (en h T)) δ (fun r μ' δ' => r = (aDeal h n).1 ∧ μ' = up1 μ 1 (en (aDeal h n).2 T) ∧ δ' = δ) := by
  refine MX.of2 RX8 (by decide) rfl ⟨rfl, rfl⟩ (Nat.le_of_ble_eq_true rfl) (by rfl) (fun k ho hr hk => ?_)
  show XM B k (up1 μ 1 (en h T)) δ 0 [some (.ref (aB B 0)), some (.int n), none, none, none, none, none] []
  refine x_ild1 ho dX8_deal_0 ?_
  refine x_iconst (v := 1) ho dX8_deal_1 rfl ?_
  refine x_bipush (v := 12) ho dX8_deal_2 rfl ?_
  refine sMI3 ho cs_X8_82 (c_X8_in B _ _ _ _ _) ⟨rfl, rfl⟩ ⟨Nat.le_of_ble_eq_true rfl, Nat.le_of_ble_eq_true rfl⟩ (Nat.le_of_ble_eq_true rfl) dX8_deal_4 (fun r4 s4 t4 p4 => ?_)
  obtain ⟨rfl, rfl, e_⟩ := p4
  subst t4
  rw [mle]
  refine x_if_ne 13 ho dX8_deal_7 (by decide) (fun c7 => ?_) (fun c7 => ?_)
  · have c7 := bI_n.mp c7
    obtain ⟨m, hm, rfl⟩ := nI_of (x := n) (fun z => c7.1 (Int32.lt_trans z (by decide)))
    have c7m := n_le (b := 12) hm (by decide) c7.2
    have hn := hi.n
    have e0 : aDeal h (nI m) = (nI (min m (12 - sN h)), sLots h (min m (12 - sN h))) := by
      unfold aDeal
      rw [if_pos c7, aDealN_s hm]
    refine x_iconst (v := 0) ho dX8_deal_13 rfl ?_
    refine x_ist2 ho dX8_deal_14 (by rw [hk]; decide) rfl ?_
    have loop : ∀ (f i : Nat), min m (12 - sN h) < f + i → i ≤ min m (12 - sN h) → XM B k (up1 μ 1 (en (sLots h i) T)) δ 15 [some (.ref (aB B 0)), some (.int (nI m)), some (.int (nI i)), none, none, none, none] [] := by
      intro f
      induction f with
      | zero => intro i h1 h2; omega
      | succ f ih =>
        intro i h1 h2
        refine x_ild2 ho dX8_deal_15 ?_
        refine x_ild1 ho dX8_deal_16 ?_
        refine x_icmp_ge 84 ho dX8_deal_17 (by decide) (fun c17 => ?_) (fun c17 => ?_)
        · have c17 := n_le (by omega) (by omega) c17
          have ei : i = min m (12 - sN h) := by omega
          subst ei
          refine x_ild2 ho dX8_deal_84 ?_
          refine x_iret ho hr ?_ dX8_deal_85
          exact ⟨_, _, _, rfl, rfl, by rw [e0], by rw [e0], rfl⟩
        · have c17 := n_nle (by omega) (by omega) c17
          have hL := sLots_N hn.2 i (by omega)
          refine x_ald0 ho dX8_deal_20 ?_
          refine r_X8_9 ho dX8_deal_21 ?_
          refine x_iconst (v := 1) ho dX8_deal_24 rfl ?_
          refine m_ld (1) (rfl) (by omega) ho dX8_deal_25 ?_
          change XM B k _ _ _ _ (.int ((sLots h i) 0 0) :: _)
          rw [hL.2]
          refine x_bipush (v := 12) ho dX8_deal_26 rfl ?_
          refine x_icmp_ge 84 ho dX8_deal_28 (by decide) (fun c28 => ?_) (fun c28 => ?_)
          · have c28 := n_le (a := 12) (by decide) (by omega) c28
            have ei : i = min m (12 - sN h) := by omega
            subst ei
            refine x_ild2 ho dX8_deal_84 ?_
            refine x_iret ho hr ?_ dX8_deal_85
            exact ⟨_, _, _, rfl, rfl, by rw [e0], by rw [e0], rfl⟩
          · have c28 := n_nle (a := 12) (b := sN h + i) (by decide) (by omega) c28
            refine x_ald0 ho dX8_deal_31 ?_
            refine vMI0 ho cs_X8_152 (c_X8_draw B _ _ _ _) rfl ⟨rfl, rfl⟩ ⟨Nat.le_of_ble_eq_true rfl, Nat.le_of_ble_eq_true rfl⟩ (Nat.le_of_ble_eq_true rfl) dX8_deal_32 (fun r32 s32 t32 p32 => ?_)
            obtain ⟨rfl, rfl, rfl⟩ := p32
            refine x_bipush (v := 6) ho dX8_deal_35 rfl ?_
            refine x_irem ho dX8_deal_37 (by decide) ?_
            refine x_ist3 ho dX8_deal_38 (by rw [hk]; decide) rfl ?_
            refine x_ald0 ho dX8_deal_39 ?_
            refine vMI0 ho cs_X8_152 (c_X8_draw B _ _ _ _) rfl ⟨rfl, rfl⟩ ⟨Nat.le_of_ble_eq_true rfl, Nat.le_of_ble_eq_true rfl⟩ (Nat.le_of_ble_eq_true rfl) dX8_deal_40 (fun r40 s40 t40 p40 => ?_)
            obtain ⟨rfl, rfl, rfl⟩ := p40
            refine x_bipush (v := 10) ho dX8_deal_43 rfl ?_
            refine x_irem ho dX8_deal_45 (by decide) ?_
            refine x_ist4 ho dX8_deal_46 (by rw [hk]; decide) rfl ?_
            refine x_iconst (v := 1) ho dX8_deal_48 rfl ?_
            refine x_ald0 ho dX8_deal_49 ?_
            refine vMI0 ho cs_X8_152 (c_X8_draw B _ _ _ _) rfl ⟨rfl, rfl⟩ ⟨Nat.le_of_ble_eq_true rfl, Nat.le_of_ble_eq_true rfl⟩ (Nat.le_of_ble_eq_true rfl) dX8_deal_50 (fun r50 s50 t50 p50 => ?_)
            obtain ⟨rfl, rfl, rfl⟩ := p50
            refine x_sipush (v := 200) ho dX8_deal_53 rfl ?_
            refine x_irem ho dX8_deal_56 (by decide) ?_
            refine x_iadd ho dX8_deal_57 ?_
            refine x_ist5 ho dX8_deal_58 (by rw [hk]; decide) rfl ?_
            refine x_ald0 ho dX8_deal_60 ?_
            refine x_ild3 ho dX8_deal_61 ?_
            refine x_ild4 ho dX8_deal_62 ?_
            refine x_ild5 ho dX8_deal_64 ?_
            refine x_ald0 ho dX8_deal_66 ?_
            refine vMI0 ho cs_X8_152 (c_X8_draw B _ _ _ _) rfl ⟨rfl, rfl⟩ ⟨Nat.le_of_ble_eq_true rfl, Nat.le_of_ble_eq_true rfl⟩ (Nat.le_of_ble_eq_true rfl) dX8_deal_67 (fun r67 s67 t67 p67 => ?_)
            obtain ⟨rfl, rfl, rfl⟩ := p67
            refine x_bipush (v := 6) ho dX8_deal_70 rfl ?_
            refine x_irem ho dX8_deal_72 (by decide) ?_
            refine vMI4 ho cs_X8_96 (c_X8_comes B _ _ (sZ (sZ (sZ (sZ (sLots h i))))) T (by show (sLots h i) 0 0 = nI (sN (sLots h i)); rw [hL.1, hL.2]) (by show sN (sLots h i) < 12; rw [hL.1]; exact c28) _ _ _ _) rfl ⟨rfl, rfl⟩ ⟨Nat.le_of_ble_eq_true rfl, Nat.le_of_ble_eq_true rfl⟩ (Nat.le_of_ble_eq_true rfl) dX8_deal_73 (fun r73 s73 t73 p73 => ?_)
            obtain ⟨rfl, rfl, rfl⟩ := p73
            rw [mLot (by rw [hL.1]; exact c28)]
            refine x_ist6 ho dX8_deal_76 (by rw [hk]; decide) rfl ?_
            refine x_inc2 (y := 1) ho dX8_deal_78 (by rw [hk]; decide) rfl rfl ?_
            refine x_goto 15 ho dX8_deal_81 (by decide) ?_
            change XM B k (up1 μ 1 (en (sLots h (i + 1)) T)) _ _ _ _
            rw [nI_1 i]
            refine x_loc (Lsb.s (Lsb.s (Lsb.s (Lsb.n (Lsb.n (Lsb.n (Lsb.n Lsb.e))))))) ?_
            exact ih (i + 1) (by omega) (by omega)
    exact loop (min m (12 - sN h) + 1) 0 (by omega) (by omega)
  · have c7 := bI_0.mp c7
    refine x_ldc ho kc_X8_94 dX8_deal_10 ?_
    refine x_iret ho hr ?_ dX8_deal_12
    exact ⟨_, _, _, rfl, rfl, by unfold aDeal; rw [if_neg c7], by unfold aDeal; rw [if_neg c7], rfl⟩
