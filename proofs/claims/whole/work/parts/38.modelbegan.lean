/-! one dancer alone -/
theorem sStep_2 {g : WT} {h : HT} {d : Nat} : sStep g h d 2 = upd (h 2) d (h 7 (ix (h 2 d))) := by
  unfold sStep sSt2 sSt1
  rw [up2_n (by decide), up2_n (by decide), up2_n (by decide), up2_s]
theorem sStep_3d {g : WT} {h : HT} {d : Nat} : sStep g h d 3 d = jmx 0 (h 3 d - kWears (h 1 d) (g (h 6 (ix (h 7 (ix (h 2 d))))) (h 3 d) (h 5 d + 1))) := by
  unfold sStep sSt2
  rw [up2_n (by decide), up2_s, upd_s]
  unfold sWears
  rw [show sSt1 h d 3 = h 3 by unfold sSt1; rw [up2_n (by decide), up2_n (by decide)], show sSt1 h d 1 = h 1 by unfold sSt1; rw [up2_n (by decide), up2_n (by decide)], show sSt1 h d 6 = h 6 by unfold sSt1; rw [up2_n (by decide), up2_n (by decide)], show sSt1 h d 2 d = h 7 (ix (h 2 d)) by unfold sSt1; rw [up2_n (by decide), up2_s, upd_s], show sSt1 h d 5 d = h 5 d + 1 by unfold sSt1; rw [up2_s, upd_s]]
/-- two houses that say the same of one dancer's way -/
def AG (d : Nat) (h1 h2 : HT) : Prop := h1 6 = h2 6 ∧ h1 7 = h2 7 ∧ h1 0 12 = h2 0 12 ∧ h1 1 d = h2 1 d ∧ h1 2 d = h2 2 d ∧ h1 3 d = h2 3 d ∧ h1 4 d = h2 4 d ∧ h1 5 d = h2 5 d
theorem AG.rf {d : Nat} {h : HT} : AG d h h := ⟨rfl, rfl, rfl, rfl, rfl, rfl, rfl, rfl⟩
theorem AG.step {g : WT} {d : Nat} {h1 h2 : HT} (h : AG d h1 h2) : AG d (sStep g h1 d) (sStep g h2 d) := by
  obtain ⟨a6, a7, a0, a1, a2, a3, a4, a5⟩ := h
  refine ⟨?_, ?_, ?_, ?_, ?_, ?_, ?_, ?_⟩
  · rw [sStep_f (by decide), sStep_f (by decide), a6]
  · rw [sStep_f (by decide), sStep_f (by decide), a7]
  · rw [sStep_f (by decide), sStep_f (by decide), a0]
  · rw [sStep_f (by decide), sStep_f (by decide), a1]
  · rw [sStep_2, sStep_2, upd_s, upd_s, a7, a2]
  · rw [sStep_3d, sStep_3d, a3, a1, a6, a7, a2, a5]
  · rw [sStep_f (by decide), sStep_f (by decide), a4]
  · rw [sStep_5, sStep_5, upd_s, upd_s, a5]
theorem AG.wk {g : WT} {d : Nat} : ∀ (n : Nat) {h1 h2 : HT}, AG d h1 h2 → AG d (sWk g d n h1) (sWk g d n h2)
  | 0, _, _, h => h
  | n + 1, h1, h2, h => by
    show AG d (if 0 < h1 3 d then sWk g d n (sStep g h1 d) else h1) (if 0 < h2 3 d then sWk g d n (sStep g h2 d) else h2)
    have a3 := h.2.2.2.2.2.1
    by_cases q : 0 < h1 3 d
    · rw [if_pos q, if_pos (by rw [← a3]; exact q)]
      exact AG.wk n h.step
    · rw [if_neg q, if_neg (by rw [← a3]; exact q)]
      exact h
theorem AG.walk {g : WT} {d : Nat} {h1 h2 : HT} (h : AG d h1 h2) : AG d (sWalk g h1 d) (sWalk g h2 d) := by
  unfold sWalk
  have e : sGoes h1 d = sGoes h2 d := by
    obtain ⟨-, -, a0, a1, -, a3, a4, -⟩ := h
    unfold sGoes
    rw [a0, a1, a3, a4]
  rw [e]
  exact h.wk _
theorem wk_oth {g : WT} {d e : Nat} (hde : d ≠ e) : ∀ (n : Nat) (h : HT), sWk g e n h 2 d = h 2 d ∧ sWk g e n h 3 d = h 3 d ∧ sWk g e n h 5 d = h 5 d
  | 0, _ => ⟨rfl, rfl, rfl⟩
  | n + 1, h => by
    show (if 0 < h 3 e then sWk g e n (sStep g h e) else h) 2 d = h 2 d ∧ (if 0 < h 3 e then sWk g e n (sStep g h e) else h) 3 d = h 3 d ∧ (if 0 < h 3 e then sWk g e n (sStep g h e) else h) 5 d = h 5 d
    by_cases q : 0 < h 3 e
    · rw [if_pos q]
      obtain ⟨b2, b3, b5⟩ := wk_oth hde n (sStep g h e)
      rw [b2, b3, b5, sStep_2, sStep_5, sStep_3 hde, upd_n hde, upd_n hde]
      exact ⟨rfl, rfl, rfl⟩
    · rw [if_neg q]
      exact ⟨rfl, rfl, rfl⟩
theorem AG.oth {g : WT} {d e : Nat} (hde : d ≠ e) {h1 h2 : HT} (h : AG d h1 h2) : AG d (sWalk g h1 e) h2 := by
  obtain ⟨a6, a7, a0, a1, a2, a3, a4, a5⟩ := h
  obtain ⟨b2, b3, b5⟩ := wk_oth (g := g) hde (ix (sGoes h1 e)) h1
  have hf : ∀ f, f ≠ 2 ∧ f ≠ 3 ∧ f ≠ 5 ∧ f ≠ 8 → sWalk g h1 e f = h1 f := fun f q => sWk_f q _ _
  refine ⟨by rw [hf 6 (by decide), a6], by rw [hf 7 (by decide), a7], by rw [hf 0 (by decide), a0], by rw [hf 1 (by decide), a1], ?_, ?_, by rw [hf 4 (by decide), a4], ?_⟩
  · unfold sWalk
    rw [b2, a2]
  · unfold sWalk
    rw [b3, a3]
  · unfold sWalk
    rw [b5, a5]
theorem AG.ds {g : WT} {d : Nat} {h1 h2 : HT} (h : AG d h1 h2) : ∀ k, AG d (sDs g h1 k) (if d < k then sWalk g h2 d else h2)
  | 0 => h
  | k + 1 => by
    have ih := AG.ds (g := g) h k
    show AG d (sWalk g (sDs g h1 k) k) _
    by_cases q : d < k
    · rw [if_pos q] at ih
      rw [if_pos (by omega)]
      exact ih.oth (by omega)
    · rw [if_neg q] at ih
      by_cases q2 : d = k
      · subst q2
        rw [if_pos (by omega)]
        exact ih.walk
      · rw [if_neg (by omega)]
        exact ih.oth q2
theorem AG.hour {g : WT} {d : Nat} {h1 h2 : HT} (h : AG d h1 h2) (hd : d < sN h1) : AG d (sHour g h1) (up2 (sWalk g h2 d) 0 12 (sWalk g h2 d 0 12 + 1)) := by
  have hk := h.ds (g := g) (sN h1)
  rw [if_pos hd] at hk
  obtain ⟨a6, a7, a0, a1, a2, a3, a4, a5⟩ := hk
  have hf : ∀ f, f ≠ 0 → sHour g h1 f = sDs g h1 (sN h1) f := fun f q => by
    unfold sHour
    rw [up2_n q, sLook_f q]
  have hw : ∀ f, f ≠ 0 → up2 (sWalk g h2 d) 0 12 (sWalk g h2 d 0 12 + 1) f = sWalk g h2 d f := fun f q => up2_n q
  refine ⟨by rw [hf 6 (by decide), hw 6 (by decide), a6], by rw [hf 7 (by decide), hw 7 (by decide), a7], ?_, by rw [hf 1 (by decide), hw 1 (by decide), a1], by rw [hf 2 (by decide), hw 2 (by decide), a2], by rw [hf 3 (by decide), hw 3 (by decide), a3], by rw [hf 4 (by decide), hw 4 (by decide), a4], by rw [hf 5 (by decide), hw 5 (by decide), a5]⟩
  unfold sHour
  rw [up2_s, upd_s, up2_s, upd_s, sLook_0 (by decide), a0]
theorem began_AG {g : WT} {h : HT} {d r : Nat} (hd : d < sN h) : ∀ n, AG d (sHours g (up2 h 2 d (nI r)) n) (bgH g h d r n)
  | 0 => AG.rf
  | n + 1 => (began_AG hd n).hour (by rw [sHours_N]; exact hd)
theorem began_e {g : WT} {h : HT} {d r n : Nat} (hd : d < sN h) : sHours g (up2 h 2 d (nI r)) n 2 d = bgH g h d r n 2 d := (began_AG hd n).2.2.2.2.1
set_option maxRecDepth 100000 in
set_option maxHeartbeats 4000000 in
theorem c_X8_began (B : BT) (μ : Nat → Nat → Int32) (δ : Nat → Int64) (h : HT) (T : Nat → Int32) (hi : HI h) (σ : ST) (hTR : TR σ h T) (x n : Int32) : MI B yX8_began cX8_began 6 (some .int) ({ frames := 6, cells := 0, slots := 0, locals := 139 }) [.ref (aB B 0), .int x, .int n] (up1 μ 1 (en h T)) δ (fun r μ' δ' => r = aBegan (gC σ (h 9 0)) h x n ∧ ∃ μ2, Jm μ μ2 ∧ μ' = up1 μ2 1 (en h T) ∧ δ' = δ) := by
  refine MX.of2 RX8 (by decide) rfl ⟨rfl, rfl⟩ (Nat.le_of_ble_eq_true rfl) (by rfl) (fun k ho hr hk => ?_)
  show XM B k (up1 μ 1 (en h T)) δ 0 [some (.ref (aB B 0)), some (.int x), some (.int n), none, none, none] []
  refine x_ald0 ho dX8_began_0 ?_
  refine x_ild1 ho dX8_began_1 ?_
  refine vMI1 ho cs_X8_115 (c_X8_isDancer B _ _ _ _ hi _) rfl ⟨rfl, rfl⟩ ⟨Nat.le_of_ble_eq_true rfl, Nat.le_of_ble_eq_true rfl⟩ (Nat.le_of_ble_eq_true rfl) dX8_began_2 (fun r2 s2 t2 p2 => ?_)
  obtain ⟨rfl, rfl, e_⟩ := p2
  subst t2
  refine x_if_eq 18 ho dX8_began_5 (by decide) (fun c5 => ?_) (fun c5 => ?_)
  · have c5 := bI_0.mp c5
    refine x_ldc ho kc_X8_94 dX8_began_18 ?_
    refine x_iret ho hr ?_ dX8_began_20
    exact ⟨_, _, _, rfl, rfl, by unfold aBegan; rw [if_neg (by first | exact fun z => c5 z.1 | exact fun z => c15 z.2)], μ, Jm.rf, rfl, rfl⟩
  · have c5 := bI_n.mp c5
    obtain ⟨d, hd, rfl⟩ := isD_of c5 hi
    have hd12 := hi.n.1
    have ed : ix (nI d) = d := ix_n (by omega)
    refine x_ild2 ho dX8_began_8 ?_
    refine x_iconst (v := 0) ho dX8_began_9 rfl ?_
    refine x_bipush (v := 60) ho dX8_began_10 rfl ?_
    refine sMI3 ho cs_X8_82 (c_X8_in B _ _ _ _ _) ⟨rfl, rfl⟩ ⟨Nat.le_of_ble_eq_true rfl, Nat.le_of_ble_eq_true rfl⟩ (Nat.le_of_ble_eq_true rfl) dX8_began_12 (fun r12 s12 t12 p12 => ?_)
    obtain ⟨rfl, rfl, e_⟩ := p12
    subst t12
    rw [mle]
    refine x_if_ne 21 ho dX8_began_15 (by decide) (fun c15 => ?_) (fun c15 => ?_)
    · have c15 := bI_n.mp c15
      have c15' := c15
      obtain ⟨n', hn, rfl⟩ := nI_of c15.1
      have c15n := n_le (b := 60) hn (by decide) c15.2
      have e0 : aBegan (gC σ (h 9 0)) h (nI d) (nI n') = bitsF (fun r => decide (bgH (gC σ (h 9 0)) h d r n' 2 d = h 2 d)) 10 := by
        rw [show aBegan (gC σ (h 9 0)) h (nI d) (nI n') = bitsF (fun r => decide (bgH (gC σ (h 9 0)) h (ix (nI d)) r (ix (nI n')) 2 (ix (nI d)) = h 2 (ix (nI d)))) 10 from if_pos ⟨c5, c15.1, c15.2⟩, ed, ix_n hn]
      rw [MW_0]
      refine x_ald0 ho dX8_began_21 ?_
      refine vMV0 ho cs_X8_178 (w_thinks B _ _ _ _ _ _) rfl ⟨rfl, rfl⟩ ⟨Nat.le_of_ble_eq_true rfl, Nat.le_of_ble_eq_true rfl⟩ (Nat.le_of_ble_eq_true rfl) dX8_began_22 (fun s22 t22 p22 => ?_)
      obtain ⟨rfl, e_⟩ := p22
      subst t22
      refine x_ald0 ho dX8_began_25 ?_
      refine x_ild1 ho dX8_began_26 ?_
      refine x_iconst (v := 1) ho dX8_began_27 rfl ?_
      refine vMI2 ho cs_X8_104 (w_of B _ _ _ _ _ _ d 1 (by omega) (by decide)) rfl ⟨rfl, rfl⟩ ⟨Nat.le_of_ble_eq_true rfl, Nat.le_of_ble_eq_true rfl⟩ (Nat.le_of_ble_eq_true rfl) dX8_began_28 (fun r28 s28 t28 p28 => ?_)
      obtain ⟨rfl, rfl, e_⟩ := p28
      subst t28
      refine x_ist3 ho dX8_began_31 (by rw [hk]; decide) rfl ?_
      refine x_iconst (v := 0) ho dX8_began_32 rfl ?_
      refine x_ist4 ho dX8_began_33 (by rw [hk]; decide) rfl ?_
      refine x_iconst (v := 0) ho dX8_began_35 rfl ?_
      refine x_ist5 ho dX8_began_36 (by rw [hk]; decide) rfl ?_
      have loop : ∀ (f i : Nat) (stk fc : Nat → Int32), 10 < f + i → i ≤ 10 → XM B k (MW (up1 μ 4 (en h T)) stk fc h T) δ 38 [some (.ref (aB B 0)), some (.int (nI d)), some (.int (nI n')), some (.int (h 2 d)), some (.int (bitsF (fun r => decide (bgH (gC σ (h 9 0)) h d r n' 2 d = h 2 d)) i)), some (.int (nI i))] [] := by
        intro f
        induction f with
        | zero => intro i stk fc h1 h2; omega
        | succ f ih =>
          intro i stk fc h1 h2
          refine x_ild5 ho dX8_began_38 ?_
          refine x_bipush (v := 10) ho dX8_began_40 rfl ?_
          refine x_icmp_ge 91 ho dX8_began_42 (by decide) (fun c42 => ?_) (fun c42 => ?_)
          · have c42 := n_le (a := 10) (by decide) (by omega) c42
            have ei : i = 10 := by omega
            subst ei
            refine x_ild4 ho dX8_began_91 ?_
            refine x_iret ho hr ?_ dX8_began_93
            obtain ⟨μ2, j1, j2⟩ := MW4_J (μ := μ) (stk := stk) (fc := fc) (b := en h T) (h := h) (T := T)
            exact ⟨_, _, _, rfl, rfl, e0.symm, μ2, j1, j2, rfl⟩
          · have c42 := n_nle (a := 10) (b := i) (by decide) (by omega) c42
            have hi6 : HI (up2 h 2 d (nI i)) := hi.up (by decide) (fun _ => rg_nI (by omega) (by show i ≤ 9; omega))
            refine x_ald0 ho dX8_began_45 ?_
            refine x_ild1 ho dX8_began_46 ?_
            refine x_iconst (v := 1) ho dX8_began_47 rfl ?_
            refine x_ild5 ho dX8_began_48 ?_
            refine vMV3 ho cs_X8_86 (w_put B _ _ _ _ _ _ d 1 (by omega) (by decide) _) rfl ⟨rfl, rfl⟩ ⟨Nat.le_of_ble_eq_true rfl, Nat.le_of_ble_eq_true rfl⟩ (Nat.le_of_ble_eq_true rfl) dX8_began_50 (fun s50 t50 p50 => ?_)
            obtain ⟨rfl, e_⟩ := p50
            subst t50
            refine x_ald0 ho dX8_began_53 ?_
            refine x_ild2 ho dX8_began_54 ?_
            refine vMV1 ho cs_X8_169 (c_X8_goesOn B _ _ (up2 h 2 d (nI i)) T _ _ σ (TR_e hTR rfl rfl) hi6 n' (by omega)) rfl ⟨rfl, rfl⟩ ⟨Nat.le_of_ble_eq_true rfl, Nat.le_of_ble_eq_true rfl⟩ (Nat.le_of_ble_eq_true rfl) dX8_began_55 (fun s55 t55 p55 => ?_)
            obtain ⟨stk, fc, rfl, e_⟩ := p55
            subst t55
            refine x_ild4 ho dX8_began_58 ?_
            refine x_ald0 ho dX8_began_60 ?_
            refine x_ild1 ho dX8_began_61 ?_
            refine x_iconst (v := 1) ho dX8_began_62 rfl ?_
            refine vMI2 ho cs_X8_104 (w_of B _ _ _ _ _ _ d 1 (by omega) (by decide)) rfl ⟨rfl, rfl⟩ ⟨Nat.le_of_ble_eq_true rfl, Nat.le_of_ble_eq_true rfl⟩ (Nat.le_of_ble_eq_true rfl) dX8_began_63 (fun r63 s63 t63 p63 => ?_)
            obtain ⟨rfl, rfl, e_⟩ := p63
            subst t63
            rw [show sHours (gC σ (up2 h 2 d (nI i) 9 0)) (up2 h 2 d (nI i)) n' (1 + 1) d = bgH (gC σ (h 9 0)) h d i n' 2 d from began_e (by omega)]
            refine x_ild3 ho dX8_began_66 ?_
            refine x_icmp_ne 77 ho dX8_began_67 (by decide) (fun c67 => ?_) (fun c67 => ?_)
            · have eb : bitsF (fun r => decide (bgH (gC σ (h 9 0)) h d r n' 2 d = h 2 d)) (i + 1) = bitsF (fun r => decide (bgH (gC σ (h 9 0)) h d r n' 2 d = h 2 d)) i ||| 0 := by rw [bitsF_f (by simpa using c67), Int32.or_zero]
              refine x_iconst (v := 0) ho dX8_began_77 rfl ?_
              refine x_ior ho dX8_began_78 ?_
              refine x_ist4 ho dX8_began_79 (by rw [hk]; decide) rfl ?_
              refine x_ald0 ho dX8_began_81 ?_
              refine vMV0 ho cs_X8_181 (w_putsBack B _ _ _ _ _ _ _) rfl ⟨rfl, rfl⟩ ⟨Nat.le_of_ble_eq_true rfl, Nat.le_of_ble_eq_true rfl⟩ (Nat.le_of_ble_eq_true rfl) dX8_began_82 (fun s82 t82 p82 => ?_)
              obtain ⟨rfl, e_⟩ := p82
              subst t82
              refine x_inc5 (y := 1) ho dX8_began_85 (by rw [hk]; decide) rfl rfl ?_
              refine x_goto 38 ho dX8_began_88 (by decide) ?_
              rw [nI_1 i, ← eb]
              exact ih (i + 1) stk fc (by omega) (by omega)
            · have eb : bitsF (fun r => decide (bgH (gC σ (h 9 0)) h d r n' 2 d = h 2 d)) (i + 1) = bitsF (fun r => decide (bgH (gC σ (h 9 0)) h d r n' 2 d = h 2 d)) i ||| ((1 : Int32) <<< (nI i &&& 31)) := bitsF_t (by simpa using c67)
              refine x_iconst (v := 1) ho dX8_began_70 rfl ?_
              refine x_ild5 ho dX8_began_71 ?_
              refine x_ishl ho dX8_began_73 ?_
              refine x_goto 78 ho dX8_began_74 (by decide) ?_
              refine x_ior ho dX8_began_78 ?_
              refine x_ist4 ho dX8_began_79 (by rw [hk]; decide) rfl ?_
              refine x_ald0 ho dX8_began_81 ?_
              refine vMV0 ho cs_X8_181 (w_putsBack B _ _ _ _ _ _ _) rfl ⟨rfl, rfl⟩ ⟨Nat.le_of_ble_eq_true rfl, Nat.le_of_ble_eq_true rfl⟩ (Nat.le_of_ble_eq_true rfl) dX8_began_82 (fun s82 t82 p82 => ?_)
              obtain ⟨rfl, e_⟩ := p82
              subst t82
              refine x_inc5 (y := 1) ho dX8_began_85 (by rw [hk]; decide) rfl rfl ?_
              refine x_goto 38 ho dX8_began_88 (by decide) ?_
              rw [nI_1 i, ← eb]
              exact ih (i + 1) stk fc (by omega) (by omega)
      exact loop 11 0 _ _ (by omega) (by omega)
    · have c15 := bI_0.mp c15
      refine x_ldc ho kc_X8_94 dX8_began_18 ?_
      refine x_iret ho hr ?_ dX8_began_20
      exact ⟨_, _, _, rfl, rfl, by unfold aBegan; rw [if_neg (by first | exact fun z => c5 z.1 | exact fun z => c15 z.2)], μ, Jm.rf, rfl, rfl⟩
/-! post -/
theorem MW_5 {μ : ST} {stk fc c : Nat → Int32} {h : HT} {T : Nat → Int32} : MW (up1 μ 5 c) stk fc h T = up1 (MW μ stk fc h T) 5 c := by
  unfold MW
  rw [up1_comm (p := 5) (q := 13) (by decide), up1_comm (p := 5) (q := 14) (by decide), up1_comm (p := 5) (q := 1) (by decide)]
theorem MW_5u {μ : ST} {stk fc c : Nat → Int32} {h : HT} {T : Nat → Int32} {i : Nat} {v : Int32} : up2 (MW (up1 μ 5 c) stk fc h T) 5 i v = MW (up1 μ 5 (upd c i v)) stk fc h T := by
  rw [MW_5, up2_up1, ← MW_5]
theorem MW45_J {μ : ST} {stk fc b c : Nat → Int32} {h : HT} {T : Nat → Int32} : ∃ μ2, Jm μ μ2 ∧ MW (up1 (up1 μ 5 c) 4 b) stk fc h T = up1 μ2 1 (en h T) := ⟨up1 (up1 (up1 (up1 μ 5 c) 4 b) 13 stk) 14 fc, fun q h1 h2 h3 h4 => by rw [up1_n h2, up1_n h1, up1_n h3, up1_n h4], rfl⟩
theorem MW_54 {μ : ST} {stk fc b c : Nat → Int32} {h : HT} {T : Nat → Int32} : MW (up1 (up1 μ 4 b) 5 c) stk fc h T = MW (up1 (up1 μ 5 c) 4 b) stk fc h T := by rw [up1_comm (p := 4) (q := 5) (by decide)]
theorem w_putsBack5 (B : BT) (μ : ST) (δ : Nat → Int64) (stk fc c : Nat → Int32) (h : HT) (T : Nat → Int32) (h' : HT) : MV B yX8_putsBack cX8_putsBack 2 none ({ frames := 0, cells := 0, slots := 0, locals := 0 }) [.ref (aB B 0)] (MW (up1 (up1 μ 4 (en h T)) 5 c) stk fc h' T) δ (fun μ' δ' => μ' = MW (up1 (up1 μ 4 (en h T)) 5 c) stk fc h T ∧ δ' = δ) := by
  rw [MW_54, MW_54]
  exact w_putsBack B _ δ stk fc h T h'
set_option maxRecDepth 100000 in
set_option maxHeartbeats 4000000 in
theorem c_X8_post (B : BT) (μ : Nat → Nat → Int32) (δ : Nat → Int64) (h : HT) (T : Nat → Int32) (hi : HI h) (σ : ST) (hTR : TR σ h T) (n w : Int32) : MI B yX8_post cX8_post 5 (some .int) ({ frames := 5, cells := 0, slots := 0, locals := 117 }) [.ref (aB B 0), .int n, .int w] (up1 μ 1 (en h T)) δ (fun r μ' δ' => r = aPost (gC σ (h 9 0)) h n w ∧ ∃ μ2, Jm μ μ2 ∧ μ' = up1 μ2 1 (en h T) ∧ δ' = δ) := by
  refine MX.of2 RX8 (by decide) rfl ⟨rfl, rfl⟩ (Nat.le_of_ble_eq_true rfl) (by rfl) (fun k ho hr hk => ?_)
  show XM B k (up1 μ 1 (en h T)) δ 0 [some (.ref (aB B 0)), some (.int n), some (.int w), none, none] []
  refine x_ild1 ho dX8_post_0 ?_
  refine x_iconst (v := 1) ho dX8_post_1 rfl ?_
  refine x_bipush (v := 60) ho dX8_post_2 rfl ?_
  refine sMI3 ho cs_X8_82 (c_X8_in B _ _ _ _ _) ⟨rfl, rfl⟩ ⟨Nat.le_of_ble_eq_true rfl, Nat.le_of_ble_eq_true rfl⟩ (Nat.le_of_ble_eq_true rfl) dX8_post_4 (fun r4 s4 t4 p4 => ?_)
  obtain ⟨rfl, rfl, e_⟩ := p4
  subst t4
  rw [mSh]
  refine x_if_eq 19 ho dX8_post_7 (by decide) (fun c7 => ?_) (fun c7 => ?_)
  · have c7 := bI_0.mp c7
    refine x_ldc ho kc_X8_94 dX8_post_19 ?_
    refine x_iret ho hr ?_ dX8_post_21
    exact ⟨_, _, _, rfl, rfl, by unfold aPost; rw [if_neg (by first | exact fun z => c7 z.1 | exact fun z => c16 z.2)], μ, Jm.rf, rfl, rfl⟩
  · have c7 := bI_n.mp c7
    obtain ⟨n', hn0, hn60, rfl⟩ := isSh_of c7
    refine x_ild2 ho dX8_post_10 ?_
    refine x_iconst (v := 0) ho dX8_post_11 rfl ?_
    refine x_iconst (v := 1) ho dX8_post_12 rfl ?_
    refine sMI3 ho cs_X8_82 (c_X8_in B _ _ _ _ _) ⟨rfl, rfl⟩ ⟨Nat.le_of_ble_eq_true rfl, Nat.le_of_ble_eq_true rfl⟩ (Nat.le_of_ble_eq_true rfl) dX8_post_13 (fun r13 s13 t13 p13 => ?_)
    obtain ⟨rfl, rfl, e_⟩ := p13
    subst t13
    rw [m2]
    refine x_if_ne 22 ho dX8_post_16 (by decide) (fun c16 => ?_) (fun c16 => ?_)
    · have c16 := bI_n.mp c16
      have e0 : aPost (gC σ (h 9 0)) h (nI n') w = (if w = 0 then nI (bst (psT (gC σ (h 9 0)) h n') 9) else (psT (gC σ (h 9 0)) h n') (bst (psT (gC σ (h 9 0)) h n') 9)) := by
        rw [show aPost (gC σ (h 9 0)) h (nI n') w = _ from if_pos ⟨c7, c16⟩, ix_n (by omega)]
      rw [MW_0]
      refine x_ald0 ho dX8_post_22 ?_
      refine vMV0 ho cs_X8_178 (w_thinks B _ _ _ _ _ _) rfl ⟨rfl, rfl⟩ ⟨Nat.le_of_ble_eq_true rfl, Nat.le_of_ble_eq_true rfl⟩ (Nat.le_of_ble_eq_true rfl) dX8_post_23 (fun s23 t23 p23 => ?_)
      obtain ⟨rfl, e_⟩ := p23
      subst t23
      refine x_iconst (v := 0) ho dX8_post_26 rfl ?_
      refine x_ist3 ho dX8_post_27 (by rw [hk]; decide) rfl ?_
      obtain ⟨hN12, hN⟩ := hi.n
      have best : ∀ (stk fc : Nat → Int32) (f r : Nat), 9 < f + r → r ≤ 9 → XM B k (MW (up1 (up1 μ 4 (en h T)) 5 (psT (gC σ (h 9 0)) h n')) stk fc h T) δ 109 [some (.ref (aB B 0)), some (.int (nI n')), some (.int w), some (.int (nI (bst (psT (gC σ (h 9 0)) h n') r))), some (.int (nI (r + 1)))] [] := by
        intro stk fc f
        induction f with
        | zero => intro r h1 h2; omega
        | succ f ih =>
          intro r h1 h2
          refine x_ild4 ho dX8_post_109 ?_
          refine x_bipush (v := 10) ho dX8_post_111 rfl ?_
          refine x_icmp_ge 145 ho dX8_post_113 (by decide) (fun c113 => ?_) (fun c113 => ?_)
          · have c113 := n_le (a := 10) (b := r + 1) (by decide) (by omega) c113
            have ei : r = 9 := by omega
            subst ei
            refine x_ild2 ho dX8_post_145 ?_
            refine x_if_ne 153 ho dX8_post_146 (by decide) (fun c146 => ?_) (fun c146 => ?_)
            · refine x_ald0 ho dX8_post_153 ?_
              refine r_X8_22 ho dX8_post_154 ?_
              refine x_ild3 ho dX8_post_157 ?_
              refine xm_ialdN (bst (psT (gC σ (h 9 0)) h n') 9) (rfl) 5 (by show bst (psT (gC σ (h 9 0)) h n') 9 < 10; have := bst_le (tl := (psT (gC σ (h 9 0)) h n')) 9; omega) ho (by decide) (fun _ => rfl) dX8_post_158 ?_
              change XM B k _ _ _ _ (.int ((psT (gC σ (h 9 0)) h n') (bst (psT (gC σ (h 9 0)) h n') 9)) :: _)
              refine x_iret ho hr ?_ dX8_post_159
              rw [MW_54]
              obtain ⟨μ2, j1, j2⟩ := MW45_J (μ := μ) (stk := stk) (fc := fc) (b := en h T) (c := (psT (gC σ (h 9 0)) h n')) (h := h) (T := T)
              first | exact ⟨_, _, _, rfl, rfl, by rw [e0, if_pos c146], μ2, j1, j2, rfl⟩ | exact ⟨_, _, _, rfl, rfl, by rw [e0, if_neg c146], μ2, j1, j2, rfl⟩
            · refine x_ild3 ho dX8_post_149 ?_
              refine x_goto 159 ho dX8_post_150 (by decide) ?_
              refine x_iret ho hr ?_ dX8_post_159
              rw [MW_54]
              obtain ⟨μ2, j1, j2⟩ := MW45_J (μ := μ) (stk := stk) (fc := fc) (b := en h T) (c := (psT (gC σ (h 9 0)) h n')) (h := h) (T := T)
              first | exact ⟨_, _, _, rfl, rfl, by rw [e0, if_pos c146], μ2, j1, j2, rfl⟩ | exact ⟨_, _, _, rfl, rfl, by rw [e0, if_neg c146], μ2, j1, j2, rfl⟩
          · have c113 := n_nle (a := 10) (b := r + 1) (by decide) (by omega) c113
            refine x_ald0 ho dX8_post_116 ?_
            refine r_X8_22 ho dX8_post_117 ?_
            refine x_ild4 ho dX8_post_120 ?_
            refine xm_ialdN (r + 1) (rfl) 5 (by show r + 1 < 10; omega) ho (by decide) (fun _ => rfl) dX8_post_122 ?_
            change XM B k _ _ _ _ (.int ((psT (gC σ (h 9 0)) h n') (r + 1)) :: _)
            refine x_ald0 ho dX8_post_123 ?_
            refine r_X8_22 ho dX8_post_124 ?_
            refine x_ild3 ho dX8_post_127 ?_
            refine xm_ialdN (bst (psT (gC σ (h 9 0)) h n') r) (rfl) 5 (by show bst (psT (gC σ (h 9 0)) h n') r < 10; have := bst_le (tl := (psT (gC σ (h 9 0)) h n')) r; omega) ho (by decide) (fun _ => rfl) dX8_post_128 ?_
            change XM B k _ _ _ _ (.int ((psT (gC σ (h 9 0)) h n') (bst (psT (gC σ (h 9 0)) h n') r)) :: _)
            refine x_icmp_le 137 ho dX8_post_129 (by decide) (fun c129 => ?_) (fun c129 => ?_)
            · have eb : bst (psT (gC σ (h 9 0)) h n') (r + 1) = bst (psT (gC σ (h 9 0)) h n') r := if_neg (Int32.not_lt.mpr c129)
              refine x_ild3 ho dX8_post_137 ?_
              refine x_ist3 ho dX8_post_138 (by rw [hk]; decide) rfl ?_
              refine x_inc4 (y := 1) ho dX8_post_139 (by rw [hk]; decide) rfl rfl ?_
              refine x_goto 109 ho dX8_post_142 (by decide) ?_
              rw [nI_1 (r + 1)]
              have ih := ih (r + 1) (by omega) (by omega)
              rw [eb] at ih
              exact ih
            · have eb : bst (psT (gC σ (h 9 0)) h n') (r + 1) = r + 1 := if_pos (Int32.not_le.mp c129)
              refine x_ild4 ho dX8_post_132 ?_
              refine x_goto 138 ho dX8_post_134 (by decide) ?_
              refine x_ist3 ho dX8_post_138 (by rw [hk]; decide) rfl ?_
              refine x_inc4 (y := 1) ho dX8_post_139 (by rw [hk]; decide) rfl rfl ?_
              refine x_goto 109 ho dX8_post_142 (by decide) ?_
              rw [nI_1 (r + 1)]
              have ih := ih (r + 1) (by omega) (by omega)
              rw [eb] at ih
              exact ih
      have hours : ∀ (f i : Nat) (stk fc : Nat → Int32), n' < f + i → i ≤ n' → XM B k (MW (up1 (up1 μ 4 (en h T)) 5 (psT (gC σ (h 9 0)) h i)) stk fc (sHours (gC σ (h 9 0)) h i) T) δ 49 [some (.ref (aB B 0)), some (.int (nI n')), some (.int w), some (.int (nI i)), none] [] := by
        intro f
        induction f with
        | zero => intro i stk fc h1 h2; omega
        | succ f ih =>
          intro i stk fc h1 h2
          refine x_ild3 ho dX8_post_49 ?_
          refine x_ild1 ho dX8_post_50 ?_
          refine x_icmp_ge 100 ho dX8_post_51 (by decide) (fun c51 => ?_) (fun c51 => ?_)
          · have c51 := n_le (by omega) (by omega) c51
            have ei : i = n' := by omega
            subst ei
            refine x_ald0 ho dX8_post_100 ?_
            refine vMV0 ho cs_X8_181 (w_putsBack5 B _ _ _ _ _ _ _ _) rfl ⟨rfl, rfl⟩ ⟨Nat.le_of_ble_eq_true rfl, Nat.le_of_ble_eq_true rfl⟩ (Nat.le_of_ble_eq_true rfl) dX8_post_101 (fun s101 t101 p101 => ?_)
            obtain ⟨rfl, e_⟩ := p101
            subst t101
            refine x_iconst (v := 0) ho dX8_post_104 rfl ?_
            refine x_ist3 ho dX8_post_105 (by rw [hk]; decide) rfl ?_
            refine x_iconst (v := 1) ho dX8_post_106 rfl ?_
            refine x_ist4 ho dX8_post_107 (by rw [hk]; decide) rfl ?_
            exact best stk fc 10 0 (by omega) (by omega)
          · have c51 := n_nle (by omega) (by omega) c51
            refine x_ald0 ho dX8_post_54 ?_
            refine vMV0 ho cs_X8_163 (c_X8_hour B _ _ (sHours (gC σ (h 9 0)) h i) T _ _ σ (TR_e hTR sHours_14 sHours_9) (hi.hours gC_GR i)) rfl ⟨rfl, rfl⟩ ⟨Nat.le_of_ble_eq_true rfl, Nat.le_of_ble_eq_true rfl⟩ (Nat.le_of_ble_eq_true rfl) dX8_post_55 (fun s55 t55 p55 => ?_)
            rw [show (sHours (gC σ (h 9 0)) h i) 9 = h 9 from sHours_9] at p55
            obtain ⟨stk, fc, rfl, e_⟩ := p55
            subst t55
            refine x_iconst (v := 0) ho dX8_post_58 rfl ?_
            refine x_ist4 ho dX8_post_59 (by rw [hk]; decide) rfl ?_
            have inn : ∀ (f d : Nat), sN h < f + d → d ≤ sN h → XM B k (MW (up1 (up1 μ 4 (en h T)) 5 (cntD (sHours (gC σ (h 9 0)) h (i + 1)) (psT (gC σ (h 9 0)) h i) d)) stk fc (sHours (gC σ (h 9 0)) h (i + 1)) T) δ 61 [some (.ref (aB B 0)), some (.int (nI n')), some (.int w), some (.int (nI i)), some (.int (nI d))] [] := by
              intro f2
              induction f2 with
              | zero => intro d h1 h2; omega
              | succ f2 ihd =>
                intro d h1 h2
                refine x_ild4 ho dX8_post_61 ?_
                refine x_ald0 ho dX8_post_63 ?_
                refine r_X8_9 ho dX8_post_64 ?_
                refine x_iconst (v := 1) ho dX8_post_67 rfl ?_
                refine m_ldW (1) (rfl) (by omega) ho dX8_post_68 ?_
                change XM B k _ _ _ _ (.int ((sHours (gC σ (h 9 0)) h (i + 1)) 0 0) :: _)
                refine x_icmp_ge 94 ho dX8_post_69 (by decide) (fun c69 => ?_) (fun c69 => ?_)
                · rw [sHours_00, hN] at c69
                  have c69 := n_le (by omega) (by omega) c69
                  have ed : d = sN h := by omega
                  subst ed
                  refine x_inc3 (y := 1) ho dX8_post_94 (by rw [hk]; decide) rfl rfl ?_
                  refine x_goto 49 ho dX8_post_97 (by decide) ?_
                  rw [nI_1 i]
                  refine x_loc (Lsb.s (Lsb.s (Lsb.s (Lsb.s (Lsb.n Lsb.e))))) ?_
                  exact ih (i + 1) stk fc (by omega) (by omega)
                · rw [sHours_00, hN] at c69
                  have c69 := n_nle (by omega) (by omega) c69
                  have hat := rg_ix ((HI.hours (g := (gC σ (h 9 0))) gC_GR hi (i + 1)).at (d := d) (by omega)) (by decide)
                  refine x_ald0 ho dX8_post_72 ?_
                  refine r_X8_22 ho dX8_post_73 ?_
                  refine x_ald0 ho dX8_post_76 ?_
                  refine x_ild4 ho dX8_post_77 ?_
                  refine x_iconst (v := 1) ho dX8_post_79 rfl ?_
                  refine vMI2 ho cs_X8_104 (w_of B _ _ _ _ _ _ d 1 (by omega) (by decide)) rfl ⟨rfl, rfl⟩ ⟨Nat.le_of_ble_eq_true rfl, Nat.le_of_ble_eq_true rfl⟩ (Nat.le_of_ble_eq_true rfl) dX8_post_80 (fun r80 s80 t80 p80 => ?_)
                  obtain ⟨rfl, rfl, e_⟩ := p80
                  subst t80
                  rw [show (sHours (gC σ (h 9 0)) h (i + 1)) (1 + 1) d = nI (ix ((sHours (gC σ (h 9 0)) h (i + 1)) 2 d)) from hat.2.2]
                  refine x_dup2 ho dX8_post_83 rfl rfl ?_
                  refine xm_ialdN (ix ((sHours (gC σ (h 9 0)) h (i + 1)) 2 d)) (rfl) 5 (by show ix ((sHours (gC σ (h 9 0)) h (i + 1)) 2 d) < 10; omega) ho (by decide) (fun _ => rfl) dX8_post_84 ?_
                  change XM B k _ _ _ _ (.int ((cntD (sHours (gC σ (h 9 0)) h (i + 1)) (psT (gC σ (h 9 0)) h i) d) (ix ((sHours (gC σ (h 9 0)) h (i + 1)) 2 d))) :: _)
                  refine x_iconst (v := 1) ho dX8_post_85 rfl ?_
                  refine x_iadd ho dX8_post_86 ?_
                  refine xm_iastN (ix ((sHours (gC σ (h 9 0)) h (i + 1)) 2 d)) (rfl) 5 (by show ix ((sHours (gC σ (h 9 0)) h (i + 1)) 2 d) < 10; omega) ho (by decide) (by decide) (fun _ => rfl) dX8_post_87 ?_
                  rw [MW_5u, show upd (cntD (sHours (gC σ (h 9 0)) h (i + 1)) (psT (gC σ (h 9 0)) h i) d) (ix ((sHours (gC σ (h 9 0)) h (i + 1)) 2 d)) ((cntD (sHours (gC σ (h 9 0)) h (i + 1)) (psT (gC σ (h 9 0)) h i) d) (ix ((sHours (gC σ (h 9 0)) h (i + 1)) 2 d)) + 1) = (cntD (sHours (gC σ (h 9 0)) h (i + 1)) (psT (gC σ (h 9 0)) h i) (d + 1)) from rfl]
                  refine x_inc4 (y := 1) ho dX8_post_88 (by rw [hk]; decide) rfl rfl ?_
                  refine x_goto 61 ho dX8_post_91 (by decide) ?_
                  rw [nI_1 d]
                  exact ihd (d + 1) (by omega) (by omega)
            exact inn (sN h + 1) 0 (by omega) (by omega)
      have zero : ∀ (stk fc : Nat → Int32) (f i : Nat), 10 < f + i → i ≤ 10 → XM B k (MW (up1 (up1 μ 4 (en h T)) 5 (va_cpy (fun _ => 0) (μ 5) 0 0 i)) stk fc h T) δ 28 [some (.ref (aB B 0)), some (.int (nI n')), some (.int w), some (.int (nI i)), none] [] := by
        intro stk fc f
        induction f with
        | zero => intro i h1 h2; omega
        | succ f ih =>
          intro i h1 h2
          refine x_ild3 ho dX8_post_28 ?_
          refine x_bipush (v := 10) ho dX8_post_29 rfl ?_
          refine x_icmp_ge 47 ho dX8_post_31 (by decide) (fun c31 => ?_) (fun c31 => ?_)
          · have c31 := n_le (a := 10) (by decide) (by omega) c31
            have ei : i = 10 := by omega
            subst ei
            rw [MW_5]
            refine xm_same1 (q := 5) (g := fun _ => 0) (fun _ => rfl) (fun j hj => cpy00 (n := 10) hj) ?_
            rw [← MW_5]
            refine x_iconst (v := 0) ho dX8_post_47 rfl ?_
            refine x_ist3 ho dX8_post_48 (by rw [hk]; decide) rfl ?_
            refine x_loc (Lsb.s (Lsb.s (Lsb.s (Lsb.s (Lsb.s Lsb.e))))) ?_
            exact hours (n' + 1) 0 stk fc (by omega) (by omega)
          · have c31 := n_nle (a := 10) (b := i) (by decide) (by omega) c31
            refine x_ald0 ho dX8_post_34 ?_
            refine r_X8_22 ho dX8_post_35 ?_
            refine x_ild3 ho dX8_post_38 ?_
            refine x_iconst (v := 0) ho dX8_post_39 rfl ?_
            refine xm_iastN (i) (rfl) 5 (by show i < 10; omega) ho (by decide) (by decide) (fun _ => rfl) dX8_post_40 ?_
            rw [MW_5u, show upd (va_cpy (fun _ => 0) (μ 5) 0 0 i) i 0 = (va_cpy (fun _ => 0) (μ 5) 0 0 (i + 1)) from cpy_s0 (f := fun _ => 0)]
            refine x_inc3 (y := 1) ho dX8_post_41 (by rw [hk]; decide) rfl rfl ?_
            refine x_goto 28 ho dX8_post_44 (by decide) ?_
            rw [nI_1 i]
            exact ih (i + 1) (by omega) (by omega)
      have zero := zero (μ 13) (μ 14) 11 0 (by omega) (by omega)
      rw [cpy_0, show μ 5 = (up1 μ 4 (en h T)) 5 from rfl, up1_self] at zero
      exact zero
    · have c16 := bI_0.mp c16
      refine x_ldc ho kc_X8_94 dX8_post_19 ?_
      refine x_iret ho hr ?_ dX8_post_21
      exact ⟨_, _, _, rfl, rfl, by unfold aPost; rw [if_neg (by first | exact fun z => c7 z.1 | exact fun z => c16 z.2)], μ, Jm.rf, rfl, rfl⟩
