/-! sets of dancers, bit by bit -/
theorem pop_all : ((List.range 64).all fun a => (List.range 64).all fun b => mz 13 (nI (64 * a + b)) && decide (nI (mo 13 (nI (64 * a + b))) = sPop (nI (64 * a + b)))) = true := by decide +kernel
theorem pop_n {m : Nat} (h : m < 4096) : mz 13 (nI m) = true ∧ nI (mo 13 (nI m)) = sPop (nI m) := by
  have h1 := List.all_eq_true.mp (List.all_eq_true.mp pop_all (m / 64) (List.mem_range.mpr (by omega))) (m % 64) (List.mem_range.mpr (by omega))
  rw [show 64 * (m / 64) + m % 64 = m by omega, Bool.and_eq_true, decide_eq_true_iff] at h1
  exact h1
theorem or_all : ((List.range 12).all fun i => (List.range 64).all fun a => (List.range 64).all fun b => decide (2 ^ i ≤ 64 * a + b) || decide (nI (64 * a + b) ||| ((1 : Int32) <<< (nI i &&& 31)) = nI (64 * a + b + 2 ^ i))) = true := by decide +kernel
theorem or_n {i m : Nat} (hi : i < 12) (h : m < 2 ^ i) : nI m ||| ((1 : Int32) <<< (nI i &&& 31)) = nI (m + 2 ^ i) := by
  have h12 : 2 ^ i ≤ 2 ^ 11 := Nat.pow_le_pow_right (by decide) (by omega)
  have h1 := List.all_eq_true.mp (List.all_eq_true.mp (List.all_eq_true.mp or_all i (List.mem_range.mpr hi)) (m / 64) (List.mem_range.mpr (by omega))) (m % 64) (List.mem_range.mpr (by omega))
  rw [show 64 * (m / 64) + m % 64 = m by omega, Bool.or_eq_true, decide_eq_true_iff, decide_eq_true_iff] at h1
  exact h1.resolve_left (by omega)
theorem bits_lt {p : Nat → Bool} : ∀ {i : Nat}, i ≤ 12 → ∃ m, m < 2 ^ i ∧ bitsF p i = nI m
  | 0, _ => ⟨0, by decide, rfl⟩
  | i + 1, hi => by
    obtain ⟨m, hm, e⟩ := bits_lt (p := p) (i := i) (by omega)
    have h2 : 2 ^ (i + 1) = 2 ^ i + 2 ^ i := by omega
    by_cases h : p i = true
    · exact ⟨m + 2 ^ i, by omega, by rw [bitsF_t h, e, or_n (by omega) hm]⟩
    · exact ⟨m, by omega, by rw [bitsF_f h, e]⟩
theorem pop_b {p : Nat → Bool} {i : Nat} (hi : i ≤ 12) : mz 13 (bitsF p i) = true ∧ nI (mo 13 (bitsF p i)) = sPop (bitsF p i) := by
  obtain ⟨m, hm, e⟩ := bits_lt (p := p) hi
  have h12 : 2 ^ i ≤ 2 ^ 12 := Nat.pow_le_pow_right (by decide) hi
  rw [e]
  exact pop_n (by omega)
theorem sZ_e (g : HT) : sZ g = up2 g 0 13 (nz (g 0 13)) := rfl
theorem mLook {h : HT} {x y : Int32} : up2 (up2 (sZ (sZ h)) 0 11 x) 0 10 y = up2 (sZ (up2 (sZ h) 0 11 x)) 0 10 y := by
  have e : up2 (sZ h) 0 11 x 0 13 = sZ h 0 13 := by rw [up2_s, upd_n (by decide)]
  rw [sZ_e (up2 (sZ h) 0 11 x), e, sZ_e (sZ h), up2_c0 (i := 13) (i' := 11) (by decide)]
set_option maxRecDepth 100000 in
set_option maxHeartbeats 4000000 in
theorem c_X8_hour (B : BT) (μ : Nat → Nat → Int32) (δ : Nat → Int64) (h : HT) (T : Nat → Int32) (stk fc : Nat → Int32) (σ : ST) (hTR : TR σ h T) (hi : HI h) : MV B yX8_hour cX8_hour 4 none ({ frames := 4, cells := 0, slots := 0, locals := 94 }) [.ref (aB B 0)] (MW μ stk fc h T) δ (fun μ' δ' => ∃ stk' fc', μ' = MW μ stk' fc' (sHour (gC σ (h 9 0)) h) T ∧ δ' = δ) := by
  refine MX.of2 RX8 (by decide) rfl ⟨rfl, rfl⟩ (Nat.le_of_ble_eq_true rfl) (by rfl) (fun k ho hr hk => ?_)
  show XM B k (MW μ stk fc h T) δ 0 [some (.ref (aB B 0)), none, none, none] []
  obtain ⟨hN12, hN⟩ := hi.n
  have hi2 := hi.ds gC_GR (sN h) (g := (gC σ (h 9 0))) hN12
  have hND : sN (sDs (gC σ (h 9 0)) h (sN h)) ≤ 12 := by rw [sDs_N]; exact hN12
  have K51 : ∀ stk fc, XM B k (MW μ stk fc (sDs (gC σ (h 9 0)) h (sN h)) T) δ 51 [some (.ref (aB B 0)), none, none, none] [] := by
    intro stk fc
    have K102 : XM B k (MW μ stk fc (sLook (sDs (gC σ (h 9 0)) h (sN h))) T) δ 102 [some (.ref (aB B 0)), none, none, none] [] := by
      refine x_ald0 ho dX8_hour_102 ?_
      refine r_X8_9 ho dX8_hour_103 ?_
      refine x_iconst (v := 2) ho dX8_hour_106 rfl ?_
      refine x_dup2 ho dX8_hour_107 rfl rfl ?_
      refine m_ldW (2) (rfl) (by omega) ho dX8_hour_108 ?_
      change XM B k _ _ _ _ (.int ((sLook (sDs (gC σ (h 9 0)) h (sN h))) 0 12) :: _)
      refine x_iconst (v := 1) ho dX8_hour_109 rfl ?_
      refine x_iadd ho dX8_hour_110 ?_
      refine m_stW (2) (rfl) (by omega) (eu_2) ho dX8_hour_111 ?_
      refine x_vret ho hr ?_ dX8_hour_112
      exact ⟨_, _, rfl, rfl, stk, fc, rfl, rfl⟩
    refine x_ald0 ho dX8_hour_51 ?_
    refine vMI0 ho cs_X8_152 (w_draw B _ _ _ _ _ _) rfl ⟨rfl, rfl⟩ ⟨Nat.le_of_ble_eq_true rfl, Nat.le_of_ble_eq_true rfl⟩ (Nat.le_of_ble_eq_true rfl) dX8_hour_52 (fun r52 s52 t52 p52 => ?_)
    obtain ⟨rfl, rfl, rfl⟩ := p52
    refine x_bipush (v := 100) ho dX8_hour_55 rfl ?_
    refine x_irem ho dX8_hour_57 (by decide) ?_
    refine x_ald0 ho dX8_hour_58 ?_
    refine r_X8_9 ho dX8_hour_59 ?_
    refine x_iconst (v := 3) ho dX8_hour_62 rfl ?_
    refine m_ldW (3) (rfl) (by omega) ho dX8_hour_63 ?_
    change XM B k _ _ _ _ (.int ((sDs (gC σ (h 9 0)) h (sN h)) 0 9) :: _)
    refine x_icmp_ge 102 ho dX8_hour_64 (by decide) (fun c64 => ?_) (fun c64 => ?_)
    · have el : (sZ (sDs (gC σ (h 9 0)) h (sN h))) = (sLook (sDs (gC σ (h 9 0)) h (sN h))) := (if_neg (Int32.not_lt.mpr c64)).symm
      rw [el]
      first | exact K102 | (refine x_loc (Lsb.s (Lsb.n (Lsb.s (Lsb.s Lsb.e)))) ?_; exact K102)
    · have c64 : jrem (dz ((sDs (gC σ (h 9 0)) h (sN h)) 0 13)) 100 < (sDs (gC σ (h 9 0)) h (sN h)) 0 9 := Int32.not_le.mp c64
      refine x_ald0 ho dX8_hour_67 ?_
      refine vMI0 ho cs_X8_152 (w_draw B _ _ _ _ _ _) rfl ⟨rfl, rfl⟩ ⟨Nat.le_of_ble_eq_true rfl, Nat.le_of_ble_eq_true rfl⟩ (Nat.le_of_ble_eq_true rfl) dX8_hour_68 (fun r68 s68 t68 p68 => ?_)
      obtain ⟨rfl, rfl, rfl⟩ := p68
      refine x_bipush (v := 10) ho dX8_hour_71 rfl ?_
      refine x_irem ho dX8_hour_73 (by decide) ?_
      refine x_ist1 ho dX8_hour_74 (by rw [hk]; decide) rfl ?_
      refine x_ald0 ho dX8_hour_75 ?_
      refine r_X8_9 ho dX8_hour_76 ?_
      refine x_iconst (v := 5) ho dX8_hour_79 rfl ?_
      refine x_dup2 ho dX8_hour_80 rfl rfl ?_
      refine m_ldW (5) (rfl) (by omega) ho dX8_hour_81 ?_
      change XM B k _ _ _ _ (.int ((sDs (gC σ (h 9 0)) h (sN h)) 0 11) :: _)
      refine x_iconst (v := 1) ho dX8_hour_82 rfl ?_
      refine x_iadd ho dX8_hour_83 ?_
      refine m_stW (5) (rfl) (by omega) (eu_5) ho dX8_hour_84 ?_
      refine x_ald0 ho dX8_hour_85 ?_
      refine r_X8_9 ho dX8_hour_86 ?_
      refine x_iconst (v := 4) ho dX8_hour_89 rfl ?_
      refine x_dup2 ho dX8_hour_90 rfl rfl ?_
      refine m_ldW (4) (rfl) (by omega) ho dX8_hour_91 ?_
      change XM B k _ _ _ _ (.int ((sDs (gC σ (h 9 0)) h (sN h)) 0 10) :: _)
      refine x_ald0 ho dX8_hour_92 ?_
      refine x_ild1 ho dX8_hour_93 ?_
      refine vMI1 ho cs_X8_144 (w_those B _ _ _ _ _ _ ((((hi2.z).z).up0 (k := 11) (by decide))) _) rfl ⟨rfl, rfl⟩ ⟨Nat.le_of_ble_eq_true rfl, Nat.le_of_ble_eq_true rfl⟩ (Nat.le_of_ble_eq_true rfl) dX8_hour_94 (fun r94 s94 t94 p94 => ?_)
      obtain ⟨rfl, rfl, rfl⟩ := p94
      rw [show sAt (up2 (sZ (sZ (sDs (gC σ (h 9 0)) h (sN h)))) 0 11 ((sDs (gC σ (h 9 0)) h (sN h)) 0 11 + 1)) (jrem (dz ((sZ (sDs (gC σ (h 9 0)) h (sN h))) 0 13)) 10) = sAt (sDs (gC σ (h 9 0)) h (sN h)) (jrem (dz ((sZ (sDs (gC σ (h 9 0)) h (sN h))) 0 13)) 10) from rfl]
      refine sMI1 ho cs_X8_160 (c_X8_manyOf B _ _ _ (pop_b hND).1) ⟨rfl, rfl⟩ ⟨Nat.le_of_ble_eq_true rfl, Nat.le_of_ble_eq_true rfl⟩ (Nat.le_of_ble_eq_true rfl) dX8_hour_97 (fun r97 s97 t97 p97 => ?_)
      obtain ⟨rfl, rfl, rfl⟩ := p97
      rw [show nI (mo 13 (sAt (sDs (gC σ (h 9 0)) h (sN h)) (jrem (dz ((sZ (sDs (gC σ (h 9 0)) h (sN h))) 0 13)) 10))) = sPop (sAt (sDs (gC σ (h 9 0)) h (sN h)) (jrem (dz ((sZ (sDs (gC σ (h 9 0)) h (sN h))) 0 13)) 10)) from (pop_b hND).2]
      refine x_iadd ho dX8_hour_100 ?_
      refine m_stW (4) (rfl) (by omega) (eu_4) ho dX8_hour_101 ?_
      rw [mLook, show up2 (sZ (up2 (sZ (sDs (gC σ (h 9 0)) h (sN h))) 0 11 ((sDs (gC σ (h 9 0)) h (sN h)) 0 11 + 1))) 0 10 ((sDs (gC σ (h 9 0)) h (sN h)) 0 10 + sPop (sAt (sDs (gC σ (h 9 0)) h (sN h)) (jrem (dz ((sZ (sDs (gC σ (h 9 0)) h (sN h))) 0 13)) 10))) = (sLook (sDs (gC σ (h 9 0)) h (sN h))) from (if_pos c64).symm]
      first | exact K102 | (refine x_loc (Lsb.s (Lsb.n (Lsb.s (Lsb.s Lsb.e)))) ?_; exact K102)
  have loop : ∀ (f d : Nat) (stk fc : Nat → Int32), sN h < f + d → d ≤ sN h → XM B k (MW μ stk fc (sDs (gC σ (h 9 0)) h d) T) δ 2 [some (.ref (aB B 0)), some (.int (nI d)), none, none] [] := by
    intro f
    induction f with
    | zero => intro d stk fc h1 h2; omega
    | succ f ih =>
      intro d stk fc h1 h2
      refine x_ild1 ho dX8_hour_2 ?_
      refine x_ald0 ho dX8_hour_3 ?_
      refine r_X8_9 ho dX8_hour_4 ?_
      refine x_iconst (v := 1) ho dX8_hour_7 rfl ?_
      refine m_ldW (1) (rfl) (by omega) ho dX8_hour_8 ?_
      change XM B k _ _ _ _ (.int ((sDs (gC σ (h 9 0)) h d) 0 0) :: _)
      rw [sDs_f (by decide), hN]
      refine x_icmp_ge 51 ho dX8_hour_9 (by decide) (fun c9 => ?_) (fun c9 => ?_)
      · have c9 := n_le (by omega) (by omega) c9
        have ed : d = sN h := by omega
        subst ed
        refine x_loc (Lsb.s (Lsb.n (Lsb.s (Lsb.s Lsb.e)))) ?_; exact K51 stk fc
      · have c9 := n_nle (by omega) (by omega) c9
        have hiD := hi.ds gC_GR d (g := (gC σ (h 9 0))) (by omega)
        obtain ⟨w, hw, -, hw7⟩ := sGoes_rg hiD (d := d) (by omega)
        have hw2 : ix (sGoes (sDs (gC σ (h 9 0)) h d) d) = w := by rw [hw, ix_n (by omega)]
        refine x_ald0 ho dX8_hour_12 ?_
        refine x_ild1 ho dX8_hour_13 ?_
        refine vMI1 ho cs_X8_119 (w_goesOf B _ _ _ _ _ _ hiD d (by omega)) rfl ⟨rfl, rfl⟩ ⟨Nat.le_of_ble_eq_true rfl, Nat.le_of_ble_eq_true rfl⟩ (Nat.le_of_ble_eq_true rfl) dX8_hour_14 (fun r14 s14 t14 p14 => ?_)
        obtain ⟨rfl, rfl, e_⟩ := p14
        subst t14
        rw [hw]
        refine x_ist2 ho dX8_hour_17 (by rw [hk]; decide) rfl ?_
        refine x_iconst (v := 0) ho dX8_hour_18 rfl ?_
        refine x_ist3 ho dX8_hour_19 (by rw [hk]; decide) rfl ?_
        have K45 : ∀ stk fc, XM B k (MW μ stk fc (sDs (gC σ (h 9 0)) h (d + 1)) T) δ 45 [some (.ref (aB B 0)), some (.int (nI d)), none, none] [] := by
          intro stk fc
          refine x_inc1 (y := 1) ho dX8_hour_45 (by rw [hk]; decide) rfl rfl ?_
          refine x_goto 2 ho dX8_hour_48 (by decide) ?_
          rw [nI_1 d]
          exact ih (d + 1) stk fc (by omega) (by omega)
        have loopi : ∀ (f m i : Nat) (h' : HT) (stk fc : Nat → Int32), m < f → m + i = w → HI h' → h' 0 = (sDs (gC σ (h 9 0)) h d) 0 → h' 9 = h 9 → sWk (gC σ (h 9 0)) d w (sDs (gC σ (h 9 0)) h d) = sWk (gC σ (h 9 0)) d m h' → XM B k (MW μ stk fc h' T) δ 20 [some (.ref (aB B 0)), some (.int (nI d)), some (.int (nI w)), some (.int (nI i))] [] := by
          intro f
          induction f with
          | zero => intro m i h' stk fc h1; omega
          | succ f ihi =>
            intro m i h' stk fc h1 h2 hi1 h0 h9 e1
            have h14 : h' 0 14 = h 0 14 := by rw [h0, sDs_f (by decide)]
            refine x_ild3 ho dX8_hour_20 ?_
            refine x_ild2 ho dX8_hour_21 ?_
            refine x_icmp_ge 45 ho dX8_hour_22 (by decide) (fun c22 => ?_) (fun c22 => ?_)
            · have c22 := n_le (by omega) (by omega) c22
              have em : m = 0 := by omega
              subst em
              rw [show h' = (sDs (gC σ (h 9 0)) h (d + 1)) by
                show _ = sWalk (gC σ (h 9 0)) (sDs (gC σ (h 9 0)) h d) d
                unfold sWalk
                rw [hw2, e1]
                first | rfl | exact (if_neg c31').symm]
              refine x_loc (Lsb.s (Lsb.s (Lsb.n (Lsb.n Lsb.e)))) ?_
              exact K45 _ _
            · have c22 := n_nle (by omega) (by omega) c22
              obtain ⟨m, rfl⟩ : ∃ m', m = m' + 1 := ⟨m - 1, by omega⟩
              refine x_ald0 ho dX8_hour_25 ?_
              refine x_ild1 ho dX8_hour_26 ?_
              refine x_iconst (v := 2) ho dX8_hour_27 rfl ?_
              refine vMI2 ho cs_X8_104 (w_of B _ _ _ _ _ _ d 2 (by omega) (by decide)) rfl ⟨rfl, rfl⟩ ⟨Nat.le_of_ble_eq_true rfl, Nat.le_of_ble_eq_true rfl⟩ (Nat.le_of_ble_eq_true rfl) dX8_hour_28 (fun r28 s28 t28 p28 => ?_)
              obtain ⟨rfl, rfl, rfl⟩ := p28
              refine x_if_le 45 ho dX8_hour_31 (by decide) (fun c31 => ?_) (fun c31 => ?_)
              · have c31' : ¬ 0 < h' 3 d := fun q => Int32.lt_irrefl (Int32.lt_of_lt_of_le q c31)
                rw [show h' = (sDs (gC σ (h 9 0)) h (d + 1)) by
                  show _ = sWalk (gC σ (h 9 0)) (sDs (gC σ (h 9 0)) h d) d
                  unfold sWalk
                  rw [hw2, e1]
                  first | rfl | exact (if_neg c31').symm]
                refine x_loc (Lsb.s (Lsb.s (Lsb.n (Lsb.n Lsb.e)))) ?_
                exact K45 _ _
              · have c31' : 0 < h' 3 d := Int32.not_le.mp c31
                refine x_ald0 ho dX8_hour_34 ?_
                refine x_ild1 ho dX8_hour_35 ?_
                refine vMV1 ho cs_X8_156 (c_X8_steps B _ _ _ _ _ _ σ (TR_e hTR h14 h9) hi1 d (by omega)) rfl ⟨rfl, rfl⟩ ⟨Nat.le_of_ble_eq_true rfl, Nat.le_of_ble_eq_true rfl⟩ (Nat.le_of_ble_eq_true rfl) dX8_hour_36 (fun s36 t36 p36 => ?_)
                rw [h9] at p36
                obtain ⟨stk, fc, rfl, rfl⟩ := p36
                refine x_inc3 (y := 1) ho dX8_hour_39 (by rw [hk]; decide) rfl rfl ?_
                refine x_goto 20 ho dX8_hour_42 (by decide) ?_
                rw [nI_1 i]
                exact ihi m (i + 1) (sStep (gC σ (h 9 0)) h' d) stk fc (by omega) (by omega) (hi1.step gC_GR (by omega)) (by rw [sStep_f (by decide)]; exact h0) (by rw [sStep_f (by decide)]; exact h9) (by rw [e1]; exact if_pos c31')
        exact loopi (w + 1) w 0 (sDs (gC σ (h 9 0)) h d) stk fc (by omega) (by omega) hiD rfl (sDs_f (by decide) d) rfl
  have loop := loop (sN h + 1) 0 stk fc (by omega) (by omega)
  refine x_iconst (v := 0) ho dX8_hour_0 rfl ?_
  refine x_ist1 ho dX8_hour_1 (by rw [hk]; decide) rfl ?_
  exact loop
