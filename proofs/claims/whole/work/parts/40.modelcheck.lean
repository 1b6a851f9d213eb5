/-! check -/
theorem ck_0 {g : WT} {ih : HT} {wt : Nat → Int32} {w i : Nat} (hw : 2 * i ≤ w) : ckL g ih wt w 0 i = if 2 * i = w then 0 else nI (2 * i + 1) := by
  show (if 2 * i < w then nI (2 * i + 1) else 0) = _
  by_cases h : 2 * i = w
  · rw [if_pos h, if_neg (by omega)]
  · rw [if_neg h, if_pos (by omega)]
set_option maxRecDepth 100000 in
set_option maxHeartbeats 4000000 in
theorem c_X8_check (B : BT) (μ : Nat → Nat → Int32) (δ : Nat → Int64) (h : HT) (T : Nat → Int32) (σ : ST) (Ti : Nat → Int32) (w : Nat) (hw : μ 0 34 = nI w) (hw2 : σ 30 11 = nI w) (hw60 : w ≤ 60) (hwt : ∀ j, j < 60 → μ 23 j = σ 77 j) (hI3 : σ 30 2 = μ 0 3) (hI : ¬ σ 30 2 = 0 → μ 2 = en (hs σ 1) Ti ∧ TR σ (hs σ 1) Ti ∧ HI (hs σ 1) ∧ ∃ H, hs σ 1 0 12 = nI H ∧ H ≤ 9999) (n : Int32) : MI B yX8_check cX8_check 6 (some .int) ({ frames := 5, cells := 0, slots := 0, locals := 117 }) [.ref (aB B 0), .int n] (up1 μ 1 (en h T)) δ (fun r μ' δ' => r = aCheck σ n ∧ ∃ μ2, (∀ q, q ≠ 1 → q ≠ 3 → q ≠ 13 → q ≠ 14 → μ2 q = up2 μ 0 34 0 q) ∧ μ' = up1 μ2 1 (en h T) ∧ δ' = δ) := by
  refine MX.of2 RX8 (by decide) rfl ⟨rfl, rfl⟩ (Nat.le_of_ble_eq_true rfl) (by rfl) (fun k ho hr hk => ?_)
  show XM B k (up1 μ 1 (en h T)) δ 0 [some (.ref (aB B 0)), some (.int n), none, none, none, none] []
  refine x_ald0 ho dX8_check_0 ?_
  refine r_X8_264 ho dX8_check_1 ?_
  change XM B k _ _ _ _ (.int (μ 0 34) :: _)
  rw [hw]
  refine x_ist2 ho dX8_check_4 (by rw [hk]; decide) rfl ?_
  refine x_ald0 ho dX8_check_5 ?_
  refine x_iconst (v := 0) ho dX8_check_6 rfl ?_
  refine w_X8_264 ho dX8_check_7 ?_
  rw [up2_1o (by decide)]
  refine x_ild1 ho dX8_check_10 ?_
  refine x_iconst (v := 1) ho dX8_check_11 rfl ?_
  refine x_bipush (v := 30) ho dX8_check_12 rfl ?_
  refine sMI3 ho cs_X8_82 (c_X8_in B _ _ _ _ _) ⟨rfl, rfl⟩ ⟨Nat.le_of_ble_eq_true rfl, Nat.le_of_ble_eq_true rfl⟩ (Nat.le_of_ble_eq_true rfl) dX8_check_14 (fun r14 s14 t14 p14 => ?_)
  obtain ⟨rfl, rfl, e_⟩ := p14
  subst t14
  rw [mle]
  refine x_if_ne 23 ho dX8_check_17 (by decide) (fun c17 => ?_) (fun c17 => ?_)
  · have c17 := bI_n.mp c17
    obtain ⟨m, hm, rfl⟩ := nI_of (x := n) (fun z => c17.1 (Int32.lt_trans z (by decide)))
    have hm30 := n_le (b := 30) hm (by decide) c17.2
    refine x_ald0 ho dX8_check_23 ?_
    refine r_X8_267 ho dX8_check_24 ?_
    change XM B k _ _ _ _ (.int (μ 0 3) :: _)
    refine x_if_ne 34 ho dX8_check_27 (by decide) (fun c27 => ?_) (fun c27 => ?_)
    · have c27' : ¬ σ 30 2 = 0 := fun e => c27 (by rw [← hI3]; exact e)
      obtain ⟨e2, hTR, hi, H, hH, hH9⟩ := hI c27'
      refine x_ald0 ho dX8_check_34 ?_
      refine r_X8_9 ho dX8_check_35 ?_
      refine x_ald0 ho dX8_check_38 ?_
      refine r_X8_16 ho dX8_check_39 ?_
      refine sMV2 ho cs_X8_271 (c_X8_copyAll_13 B _ _) ⟨rfl, rfl⟩ ⟨Nat.le_of_ble_eq_true rfl, Nat.le_of_ble_eq_true rfl⟩ (Nat.le_of_ble_eq_true rfl) dX8_check_42 (fun s42 t42 p42 => ?_)
      obtain ⟨rfl, e_⟩ := p42
      subst t42
      refine x_ald0 ho dX8_check_45 ?_
      refine r_X8_13 ho dX8_check_46 ?_
      refine x_ald0 ho dX8_check_49 ?_
      refine r_X8_9 ho dX8_check_50 ?_
      refine sMV2 ho cs_X8_271 (c_X8_copyAll_21 B _ _) ⟨rfl, rfl⟩ ⟨Nat.le_of_ble_eq_true rfl, Nat.le_of_ble_eq_true rfl⟩ (Nat.le_of_ble_eq_true rfl) dX8_check_53 (fun s53 t53 p53 => ?_)
      obtain ⟨rfl, e_⟩ := p53
      subst t53
      rw [show up1 (up1 (up2 μ 0 34 0) 1 (en h T)) 3 (up1 (up2 μ 0 34 0) 1 (en h T) 1) 2 = en (hs σ 1) Ti from e2]
      change XM B k (up1 (up1 (up1 (up2 μ 0 34 0) 1 (en h T)) 3 (en h T)) 1 (en (hs σ 1) Ti)) _ _ _ _
      rw [MW_0]
      refine x_iconst (v := 2) ho dX8_check_56 rfl ?_
      refine x_sipush (v := 9999) ho dX8_check_57 rfl ?_
      refine x_ald0 ho dX8_check_60 ?_
      refine r_X8_9 ho dX8_check_61 ?_
      refine x_iconst (v := 2) ho dX8_check_64 rfl ?_
      refine m_ldW (2) (rfl) (by omega) ho dX8_check_65 ?_
      change XM B k _ _ _ _ (.int ((hs σ 1) 0 12) :: _)
      rw [hH]
      refine x_isub ho dX8_check_66 ?_
      refine x_iconst (v := 0) ho dX8_check_67 rfl ?_
      refine x_ild1 ho dX8_check_68 ?_
      refine sMI3 ho cs_X8_111 (c_X8_within B _ _ _ _ _) ⟨rfl, rfl⟩ ⟨Nat.le_of_ble_eq_true rfl, Nat.le_of_ble_eq_true rfl⟩ (Nat.le_of_ble_eq_true rfl) dX8_check_69 (fun r69 s69 t69 p69 => ?_)
      obtain ⟨rfl, rfl, e_⟩ := p69
      subst t69
      rw [show (9999 : Int32) = nI 9999 from rfl, sub_nI hH9, jwi_min (by omega) (by omega), show (2 : Int32) = nI 2 from rfl]
      refine x_imul ho dX8_check_72 ?_
      rw [show nI 2 * nI (min m (9999 - H)) = nI (2 * min m (9999 - H)) from pk_mul 2 _]
      refine x_ist3 ho dX8_check_73 (by rw [hk]; decide) rfl ?_
      refine x_iconst (v := 0) ho dX8_check_74 rfl ?_
      refine x_ist4 ho dX8_check_75 (by rw [hk]; decide) rfl ?_
      refine x_iconst (v := 0) ho dX8_check_77 rfl ?_
      refine x_ist5 ho dX8_check_78 (by rw [hk]; decide) rfl ?_
      obtain ⟨D, eD⟩ : ∃ D, D = min m (9999 - H) := ⟨_, rfl⟩
      rw [← eD]
      have hD30 : D ≤ 30 := by omega
      have e0 : aCheck σ (nI m) = ckL (gC σ ((hs σ 1) 9 0)) (hs σ 1) (σ 77) w D 0 := by
        unfold aCheck
        rw [if_pos c17, if_neg c27', hw2, ix_n (n := w) (by omega), show σ 10 12 = nI H from hH, ix_n (n := H) (by omega), ix_n (n := m) (by omega), ← eD]
        rfl
      have K181 : ∀ R i stk fc, R ≤ 60 → aCheck σ (nI m) = (if R = w ∧ R = 2 * D then 0 else nI (R + 1)) → XM B k (MW (up1 (up1 (up2 μ 0 34 0) 1 (en h T)) 3 (en h T)) stk fc (sHours (gC σ ((hs σ 1) 9 0)) (hs σ 1) i) Ti) δ 181 [some (.ref (aB B 0)), some (.int (nI m)), some (.int (nI w)), some (.int (nI (2 * D))), some (.int (nI R)), some (.int (nI i))] [] := by
        intro R i stk fc hR res
        refine x_ald0 ho dX8_check_181 ?_
        refine r_X8_16 ho dX8_check_182 ?_
        refine x_ald0 ho dX8_check_185 ?_
        refine r_X8_9 ho dX8_check_186 ?_
        refine sMV2 ho cs_X8_271 (c_X8_copyAll_31 B _ _) ⟨rfl, rfl⟩ ⟨Nat.le_of_ble_eq_true rfl, Nat.le_of_ble_eq_true rfl⟩ (Nat.le_of_ble_eq_true rfl) dX8_check_189 (fun s189 t189 p189 => ?_)
        obtain ⟨rfl, e_⟩ := p189
        subst t189
        rw [show (MW (up1 (up1 (up2 μ 0 34 0) 1 (en h T)) 3 (en h T)) stk fc (sHours (gC σ ((hs σ 1) 9 0)) (hs σ 1) i) Ti) 3 = (en h T) from rfl]
        refine x_ild4 ho dX8_check_192 ?_
        refine x_ild2 ho dX8_check_194 ?_
        refine x_icmp_ne 208 ho dX8_check_195 (by decide) (fun c195 => ?_) (fun c195 => ?_)
        · refine x_iconst (v := 1) ho dX8_check_208 rfl ?_
          refine x_ild4 ho dX8_check_209 ?_
          refine x_iadd ho dX8_check_211 ?_
          refine x_iret ho hr ?_ dX8_check_212
          have eR : (2 : Nat) = 2 := rfl
          refine ⟨_, _, _, rfl, rfl, ?_, MW (up1 (up1 (up2 μ 0 34 0) 1 (en h T)) 3 (en h T)) stk fc (sHours (gC σ ((hs σ 1) 9 0)) (hs σ 1) i) Ti, fun q h1 h3 h13 h14 => ?_, rfl, rfl⟩
          · rw [res]
            first | (have c195 := n_eq (by omega) (by omega) c195; have c201 := n_eq (by omega) (by omega) c201; exact (if_pos ⟨c195, c201⟩).symm) | (rw [one_nI]; exact (if_neg (fun z => c195 (congrArg nI z.1))).symm) | (rw [one_nI]; exact (if_neg (fun z => c201 (congrArg nI z.2))).symm)
          · unfold MW
            rw [up1_n h1, up1_n h14, up1_n h13, up1_n h3, up1_n h1]
        · refine x_ild4 ho dX8_check_198 ?_
          refine x_ild3 ho dX8_check_200 ?_
          refine x_icmp_ne 208 ho dX8_check_201 (by decide) (fun c201 => ?_) (fun c201 => ?_)
          · refine x_iconst (v := 1) ho dX8_check_208 rfl ?_
            refine x_ild4 ho dX8_check_209 ?_
            refine x_iadd ho dX8_check_211 ?_
            refine x_iret ho hr ?_ dX8_check_212
            have eR : (2 : Nat) = 2 := rfl
            refine ⟨_, _, _, rfl, rfl, ?_, MW (up1 (up1 (up2 μ 0 34 0) 1 (en h T)) 3 (en h T)) stk fc (sHours (gC σ ((hs σ 1) 9 0)) (hs σ 1) i) Ti, fun q h1 h3 h13 h14 => ?_, rfl, rfl⟩
            · rw [res]
              first | (have c195 := n_eq (by omega) (by omega) c195; have c201 := n_eq (by omega) (by omega) c201; exact (if_pos ⟨c195, c201⟩).symm) | (rw [one_nI]; exact (if_neg (fun z => c195 (congrArg nI z.1))).symm) | (rw [one_nI]; exact (if_neg (fun z => c201 (congrArg nI z.2))).symm)
            · unfold MW
              rw [up1_n h1, up1_n h14, up1_n h13, up1_n h3, up1_n h1]
          · refine x_iconst (v := 0) ho dX8_check_204 rfl ?_
            refine x_goto 212 ho dX8_check_205 (by decide) ?_
            refine x_iret ho hr ?_ dX8_check_212
            have eR : (2 : Nat) = 2 := rfl
            refine ⟨_, _, _, rfl, rfl, ?_, MW (up1 (up1 (up2 μ 0 34 0) 1 (en h T)) 3 (en h T)) stk fc (sHours (gC σ ((hs σ 1) 9 0)) (hs σ 1) i) Ti, fun q h1 h3 h13 h14 => ?_, rfl, rfl⟩
            · rw [res]
              first | (have c195 := n_eq (by omega) (by omega) c195; have c201 := n_eq (by omega) (by omega) c201; exact (if_pos ⟨c195, c201⟩).symm) | (rw [one_nI]; exact (if_neg (fun z => c195 (congrArg nI z.1))).symm) | (rw [one_nI]; exact (if_neg (fun z => c201 (congrArg nI z.2))).symm)
            · unfold MW
              rw [up1_n h1, up1_n h14, up1_n h13, up1_n h3, up1_n h1]
      have KB : ∀ R i stk fc, R < 2 * (i + 1) → i < D → aCheck σ (nI m) = nI (R + 1) → XM B k (MW (up1 (up1 (up2 μ 0 34 0) 1 (en h T)) 3 (en h T)) stk fc (sHours (gC σ ((hs σ 1) 9 0)) (hs σ 1) (i + 1)) Ti) δ 80 [some (.ref (aB B 0)), some (.int (nI m)), some (.int (nI w)), some (.int (nI (2 * D))), some (.int (nI R)), some (.int (nI (i + 1)))] [] := by
        intro R i stk fc hR hiD res
        refine x_iconst (v := 2) ho dX8_check_80 rfl ?_
        refine x_ild5 ho dX8_check_81 ?_
        refine x_imul ho dX8_check_83 ?_
        rw [show (2 : Int32) * nI (i + 1) = nI (2 * (i + 1)) from pk_mul 2 (i + 1)]
        refine x_ild3 ho dX8_check_84 ?_
        refine x_icmp_ge 181 ho dX8_check_85 (by decide) (fun c85 => ?_) (fun c85 => ?_)
        · exact K181 R (i + 1) stk fc (by omega) (by rw [res, if_neg (by omega)])
        · refine x_ild4 ho dX8_check_88 ?_
          refine x_iconst (v := 2) ho dX8_check_90 rfl ?_
          refine x_ild5 ho dX8_check_91 ?_
          refine x_imul ho dX8_check_93 ?_
          rw [show (2 : Int32) * nI (i + 1) = nI (2 * (i + 1)) from pk_mul 2 (i + 1)]
          refine x_icmp_ne 181 ho dX8_check_94 (by decide) (fun c94 => ?_) (fun c94 => ?_)
          · exact K181 R (i + 1) stk fc (by omega) (by rw [res, if_neg (by omega)])
          · exact absurd (n_eq (by omega) (by omega) c94) (by omega)
      have loop : ∀ (f i : Nat) (stk fc : Nat → Int32), D < f + i → i ≤ D → 2 * i ≤ w → aCheck σ (nI m) = ckL (gC σ ((hs σ 1) 9 0)) (hs σ 1) (σ 77) w (D - i) i → XM B k (MW (up1 (up1 (up2 μ 0 34 0) 1 (en h T)) 3 (en h T)) stk fc (sHours (gC σ ((hs σ 1) 9 0)) (hs σ 1) i) Ti) δ 80 [some (.ref (aB B 0)), some (.int (nI m)), some (.int (nI w)), some (.int (nI (2 * D))), some (.int (nI (2 * i))), some (.int (nI i))] [] := by
        intro f
        induction f with
        | zero => intro i stk fc h1 h2; omega
        | succ f ih =>
          intro i stk fc h1 h2 hw2i e1
          refine x_iconst (v := 2) ho dX8_check_80 rfl ?_
          refine x_ild5 ho dX8_check_81 ?_
          refine x_imul ho dX8_check_83 ?_
          rw [show (2 : Int32) * nI i = nI (2 * i) from pk_mul 2 i]
          refine x_ild3 ho dX8_check_84 ?_
          refine x_icmp_ge 181 ho dX8_check_85 (by decide) (fun c85 => ?_) (fun c85 => ?_)
          · have c85 := n_le (by omega) (by omega) c85
            have ei : i = D := by omega
            subst ei
            rw [Nat.sub_self] at e1
            exact K181 (2 * i) i stk fc (by omega) (by rw [e1, ck_0 hw2i]; by_cases z : 2 * i = w <;> simp [z])
          · have c85 := n_nle (by omega) (by omega) c85
            obtain ⟨q, eq⟩ : ∃ q, D - i = q + 1 := ⟨D - i - 1, by omega⟩
            rw [eq] at e1
            have eq2 : D - (i + 1) = q := by omega
            refine x_ild4 ho dX8_check_88 ?_
            refine x_iconst (v := 2) ho dX8_check_90 rfl ?_
            refine x_ild5 ho dX8_check_91 ?_
            refine x_imul ho dX8_check_93 ?_
            rw [show (2 : Int32) * nI i = nI (2 * i) from pk_mul 2 i]
            refine x_icmp_ne 181 ho dX8_check_94 (by decide) (fun c94 => ?_) (fun c94 => ?_)
            · exact absurd rfl c94
            · refine x_ald0 ho dX8_check_97 ?_
              refine vMV0 ho cs_X8_163 (c_X8_hour B _ _ (sHours (gC σ ((hs σ 1) 9 0)) (hs σ 1) i) Ti _ _ σ (TR_e hTR sHours_14 sHours_9) (hi.hours gC_GR i)) rfl ⟨rfl, rfl⟩ ⟨Nat.le_of_ble_eq_true rfl, Nat.le_of_ble_eq_true rfl⟩ (Nat.le_of_ble_eq_true rfl) dX8_check_98 (fun s98 t98 p98 => ?_)
              rw [show (sHours (gC σ ((hs σ 1) 9 0)) (hs σ 1) i) 9 = (hs σ 1) 9 from sHours_9] at p98
              obtain ⟨stk, fc, rfl, e_⟩ := p98
              subst t98
              have K172a : aCheck σ (nI m) = nI (2 * i + 1 + 1) → XM B k (MW (up1 (up1 (up2 μ 0 34 0) 1 (en h T)) 3 (en h T)) stk fc (sHours (gC σ ((hs σ 1) 9 0)) (hs σ 1) (i + 1)) Ti) δ 172 [some (.ref (aB B 0)), some (.int (nI m)), some (.int (nI w)), some (.int (nI (2 * D))), some (.int (nI (2 * i + 1))), some (.int (nI i))] [.int 0, .int (nI (2 * i + 1))] := by
                intro res
                refine x_iadd ho dX8_check_172 ?_
                rw [show nI (2 * i + 1) + 0 = nI (2 * i + 1) from Int32.add_zero _]
                refine x_ist4 ho dX8_check_173 (by rw [hk]; decide) rfl ?_
                refine x_inc5 (y := 1) ho dX8_check_175 (by rw [hk]; decide) rfl rfl ?_
                refine x_goto 80 ho dX8_check_178 (by decide) ?_
                rw [nI_1 i]
                exact KB (2 * i + 1) i stk fc (by omega) (by omega) res
              have K172b : 2 * (i + 1) ≤ w → aCheck σ (nI m) = ckL (gC σ ((hs σ 1) 9 0)) (hs σ 1) (σ 77) w (D - (i + 1)) (i + 1) → XM B k (MW (up1 (up1 (up2 μ 0 34 0) 1 (en h T)) 3 (en h T)) stk fc (sHours (gC σ ((hs σ 1) 9 0)) (hs σ 1) (i + 1)) Ti) δ 172 [some (.ref (aB B 0)), some (.int (nI m)), some (.int (nI w)), some (.int (nI (2 * D))), some (.int (nI (2 * i + 1))), some (.int (nI i))] [.int 1, .int (nI (2 * i + 1))] := by
                intro hw3 res
                refine x_iadd ho dX8_check_172 ?_
                rw [nI_1 (2 * i + 1)]
                refine x_ist4 ho dX8_check_173 (by rw [hk]; decide) rfl ?_
                refine x_inc5 (y := 1) ho dX8_check_175 (by rw [hk]; decide) rfl rfl ?_
                refine x_goto 80 ho dX8_check_178 (by decide) ?_
                rw [nI_1 i, show 2 * i + 1 + 1 = 2 * (i + 1) by omega]
                exact ih (i + 1) stk fc (by omega) (by omega) (by omega) res
              have K0 : aCheck σ (nI m) = nI (2 * i + 1) → XM B k (MW (up1 (up1 (up2 μ 0 34 0) 1 (en h T)) 3 (en h T)) stk fc (sHours (gC σ ((hs σ 1) 9 0)) (hs σ 1) (i + 1)) Ti) δ 129 [some (.ref (aB B 0)), some (.int (nI m)), some (.int (nI w)), some (.int (nI (2 * D))), some (.int (nI (2 * i))), some (.int (nI i))] [.int 0, .int (nI (2 * i))] := by
                intro res
                refine x_iadd ho dX8_check_129 ?_
                rw [show nI (2 * i) + 0 = nI (2 * i) from Int32.add_zero _]
                refine x_ist4 ho dX8_check_130 (by rw [hk]; decide) rfl ?_
                refine x_ild4 ho dX8_check_132 ?_
                refine x_ild4 ho dX8_check_134 ?_
                refine x_iconst (v := 2) ho dX8_check_136 rfl ?_
                refine x_ild5 ho dX8_check_137 ?_
                refine x_imul ho dX8_check_139 ?_
                rw [show (2 : Int32) * nI i = nI (2 * i) from pk_mul 2 i]
                refine x_iconst (v := 1) ho dX8_check_140 rfl ?_
                refine x_iadd ho dX8_check_141 ?_
                rw [nI_1 (2 * i)]
                refine x_icmp_ne 171 ho dX8_check_142 (by decide) (fun c142 => ?_) (fun c142 => ?_)
                · refine x_iconst (v := 0) ho dX8_check_171 rfl ?_
                  refine x_iadd ho dX8_check_172 ?_
                  rw [show nI (2 * i) + 0 = nI (2 * i) from Int32.add_zero _]
                  refine x_ist4 ho dX8_check_173 (by rw [hk]; decide) rfl ?_
                  refine x_inc5 (y := 1) ho dX8_check_175 (by rw [hk]; decide) rfl rfl ?_
                  refine x_goto 80 ho dX8_check_178 (by decide) ?_
                  rw [nI_1 i]
                  exact KB (2 * i) i stk fc (by omega) (by omega) res
                · exact absurd (n_eq (by omega) (by omega) c142) (by omega)
              have K1 : 2 * i < w → σ 77 (2 * i) = sSum (sHours (gC σ ((hs σ 1) 9 0)) (hs σ 1) (i + 1)) 3 → XM B k (MW (up1 (up1 (up2 μ 0 34 0) 1 (en h T)) 3 (en h T)) stk fc (sHours (gC σ ((hs σ 1) 9 0)) (hs σ 1) (i + 1)) Ti) δ 129 [some (.ref (aB B 0)), some (.int (nI m)), some (.int (nI w)), some (.int (nI (2 * D))), some (.int (nI (2 * i))), some (.int (nI i))] [.int 1, .int (nI (2 * i))] := by
                intro c106 ht
                have n1 : ¬ (w ≤ 2 * i ∨ ¬ σ 77 (2 * i) = sSum (sHours (gC σ ((hs σ 1) 9 0)) (hs σ 1) (i + 1)) 3) := fun z => z.elim (fun y => by omega) (fun y => y ht)
                have n2 : 2 * i + 1 < w → σ 77 (2 * i + 1) = (sHours (gC σ ((hs σ 1) 9 0)) (hs σ 1) (i + 1)) 0 10 → ¬ (w ≤ 2 * i + 1 ∨ ¬ σ 77 (2 * i + 1) = (sHours (gC σ ((hs σ 1) 9 0)) (hs σ 1) (i + 1)) 0 10) := fun y1 y2 z => z.elim (fun y => by omega) (fun y => y y2)
                refine x_iadd ho dX8_check_129 ?_
                rw [nI_1 (2 * i)]
                refine x_ist4 ho dX8_check_130 (by rw [hk]; decide) rfl ?_
                refine x_ild4 ho dX8_check_132 ?_
                refine x_ild4 ho dX8_check_134 ?_
                refine x_iconst (v := 2) ho dX8_check_136 rfl ?_
                refine x_ild5 ho dX8_check_137 ?_
                refine x_imul ho dX8_check_139 ?_
                rw [show (2 : Int32) * nI i = nI (2 * i) from pk_mul 2 i]
                refine x_iconst (v := 1) ho dX8_check_140 rfl ?_
                refine x_iadd ho dX8_check_141 ?_
                rw [nI_1 (2 * i)]
                refine x_icmp_ne 171 ho dX8_check_142 (by decide) (fun c142 => ?_) (fun c142 => ?_)
                · exact absurd rfl c142
                · refine x_ild4 ho dX8_check_145 ?_
                  refine x_ild2 ho dX8_check_147 ?_
                  refine x_icmp_ge 171 ho dX8_check_148 (by decide) (fun c148 => ?_) (fun c148 => ?_)
                  · have c148 := n_le (by omega) (by omega) c148
                    refine x_iconst (v := 0) ho dX8_check_171 rfl ?_
                    first | exact K172a (by rw [e1]; exact (if_neg n1).trans (if_pos (Or.inl c148))) | exact K172a (by rw [e1]; exact (if_neg n1).trans (if_pos (Or.inr c164))) | exact K172b (by omega) (by rw [e1, eq2]; exact (if_neg n1).trans (if_neg (n2 c148 c164)))
                  · have c148 := n_nle (by omega) (by omega) c148
                    refine x_ald0 ho dX8_check_151 ?_
                    refine r_X8_79 ho dX8_check_152 ?_
                    refine x_ild4 ho dX8_check_155 ?_
                    refine xm_ialdN (2 * i + 1) (rfl) 23 (by show 2 * i + 1 < 60; omega) ho (by decide) (fun _ => rfl) dX8_check_157 ?_
                    change XM B k _ _ _ _ (.int (μ 23 (2 * i + 1)) :: _)
                    rw [hwt _ (by omega)]
                    refine x_ald0 ho dX8_check_158 ?_
                    refine r_X8_9 ho dX8_check_159 ?_
                    refine x_iconst (v := 4) ho dX8_check_162 rfl ?_
                    refine m_ldW (4) (rfl) (by omega) ho dX8_check_163 ?_
                    change XM B k _ _ _ _ (.int ((sHours (gC σ ((hs σ 1) 9 0)) (hs σ 1) (i + 1)) 0 10) :: _)
                    refine x_icmp_ne 171 ho dX8_check_164 (by decide) (fun c164 => ?_) (fun c164 => ?_)
                    · refine x_iconst (v := 0) ho dX8_check_171 rfl ?_
                      first | exact K172a (by rw [e1]; exact (if_neg n1).trans (if_pos (Or.inl c148))) | exact K172a (by rw [e1]; exact (if_neg n1).trans (if_pos (Or.inr c164))) | exact K172b (by omega) (by rw [e1, eq2]; exact (if_neg n1).trans (if_neg (n2 c148 c164)))
                    · refine x_iconst (v := 1) ho dX8_check_167 rfl ?_
                      refine x_goto 172 ho dX8_check_168 (by decide) ?_
                      first | exact K172a (by rw [e1]; exact (if_neg n1).trans (if_pos (Or.inl c148))) | exact K172a (by rw [e1]; exact (if_neg n1).trans (if_pos (Or.inr c164))) | exact K172b (by omega) (by rw [e1, eq2]; exact (if_neg n1).trans (if_neg (n2 c148 c164)))
              refine x_ild4 ho dX8_check_101 ?_
              refine x_ild4 ho dX8_check_103 ?_
              refine x_ild2 ho dX8_check_105 ?_
              refine x_icmp_ge 128 ho dX8_check_106 (by decide) (fun c106 => ?_) (fun c106 => ?_)
              · have c106 := n_le (by omega) (by omega) c106
                refine x_iconst (v := 0) ho dX8_check_128 rfl ?_
                first | exact K0 (by rw [e1]; exact if_pos (Or.inl c106)) | exact K0 (by rw [e1]; exact if_pos (Or.inr c121)) | exact K1 c106 c121
              · have c106 := n_nle (by omega) (by omega) c106
                refine x_ald0 ho dX8_check_109 ?_
                refine r_X8_79 ho dX8_check_110 ?_
                refine x_ild4 ho dX8_check_113 ?_
                refine xm_ialdN (2 * i) (rfl) 23 (by show 2 * i < 60; omega) ho (by decide) (fun _ => rfl) dX8_check_115 ?_
                change XM B k _ _ _ _ (.int (μ 23 (2 * i)) :: _)
                rw [hwt _ (by omega)]
                refine x_ald0 ho dX8_check_116 ?_
                refine x_iconst (v := 2) ho dX8_check_117 rfl ?_
                refine vMI1 ho cs_X8_166 (w_sumOf B _ _ _ _ (sHours (gC σ ((hs σ 1) 9 0)) (hs σ 1) (i + 1)) _ (hi.hours gC_GR (i + 1)) 2 (by decide)) rfl ⟨rfl, rfl⟩ ⟨Nat.le_of_ble_eq_true rfl, Nat.le_of_ble_eq_true rfl⟩ (Nat.le_of_ble_eq_true rfl) dX8_check_118 (fun r118 s118 t118 p118 => ?_)
                obtain ⟨rfl, rfl, e_⟩ := p118
                subst t118
                refine x_icmp_ne 128 ho dX8_check_121 (by decide) (fun c121 => ?_) (fun c121 => ?_)
                · refine x_iconst (v := 0) ho dX8_check_128 rfl ?_
                  first | exact K0 (by rw [e1]; exact if_pos (Or.inl c106)) | exact K0 (by rw [e1]; exact if_pos (Or.inr c121)) | exact K1 c106 c121
                · refine x_iconst (v := 1) ho dX8_check_124 rfl ?_
                  refine x_goto 129 ho dX8_check_125 (by decide) ?_
                  first | exact K0 (by rw [e1]; exact if_pos (Or.inl c106)) | exact K0 (by rw [e1]; exact if_pos (Or.inr c121)) | exact K1 c106 c121
      exact loop (D + 1) 0 _ _ (by omega) (by omega) (by omega) e0
    · refine x_ldcw ho kc_X8_263 dX8_check_30 ?_
      refine x_iret ho hr ?_ dX8_check_33
      exact ⟨_, _, _, rfl, rfl, by unfold aCheck; rw [if_pos c17, if_pos (by rw [hI3]; exact c27)], up2 μ 0 34 0, fun _ _ _ _ _ => rfl, rfl, rfl⟩
  · have c17 := bI_0.mp c17
    refine x_ldc ho kc_X8_94 dX8_check_20 ?_
    refine x_iret ho hr ?_ dX8_check_22
    exact ⟨_, _, _, rfl, rfl, by unfold aCheck; rw [if_neg c17], up2 μ 0 34 0, fun _ _ _ _ _ => rfl, rfl, rfl⟩
