/-! the model's sheets and slots, beside the class's -/
def plOK (v : Int32) : Prop := v = -1000000005 ∨ (-99999 ≤ v.toInt ∧ v.toInt ≤ 99999)
/-- one sheet -/
def Sh1 (σ μ : ST) (r : Nat) : Prop := μ 15 r = σ (54 + 2 * r) 0 ∧ μ 16 r = σ (54 + 2 * r) 1 ∧ (∀ p, p < 24 → μ 17 (24 * r + p) = σ (54 + 2 * r + 1) p) ∧ (σ (54 + 2 * r) 0 = -1 ∨ σ (54 + 2 * r) 0 = 0 ∨ σ (54 + 2 * r) 0 = 1) ∧ RS σ r ∧ ∀ p, p < 24 → plOK (σ (54 + 2 * r + 1) p)
def ShR (σ μ : ST) : Prop := ∀ r, r < 4 → Sh1 σ μ r
/-- one slot -/
def Sl1 (σ μ : ST) (i : Nat) : Prop := μ 18 i = σ (72 + i) 0 ∧ (σ (72 + i) 0 = 1 → μ 19 i = σ (72 + i) 1 ∧ μ 20 i = kWorth (σ (72 + i) 1) (σ (72 + i) 2)) ∧ (σ (72 + i) 0 = 2 → μ 19 i = σ (54 + 2 * (4 + i)) 1 ∧ ∀ p, p < 24 → μ 21 (24 * i + p) = σ (54 + 2 * (4 + i) + 1) p) ∧ (σ (72 + i) 0 = 3 → μ 19 i = σ (72 + i) 3) ∧ RS σ (4 + i)
def SlR (σ μ : ST) : Prop := ∀ i, i < 5 → Sl1 σ μ i
theorem isQ_of {x : Int32} (h : isQ x = true) : ∃ d, d < 4 ∧ x = nI d := in_of (n := 4) (by decide) (dk.mpr h).1 (dk.mpr h).2
theorem isL_of {x : Int32} (h : isL x = true) : ∃ d, d < 5 ∧ x = nI d := in_of (n := 5) (by decide) (dk.mpr h).1 (dk.mpr h).2
theorem cpy_0 {f g : Nat → Int32} {sp dp : Nat} : va_cpy f g sp dp 0 = g := funext fun j => pk_cpy_out (by omega)
theorem cpy_s {f g : Nat → Int32} {sp dp i : Nat} : upd (va_cpy f g sp dp i) (dp + i) (f (sp + i)) = va_cpy f g sp dp (i + 1) := by
  funext j
  unfold upd
  by_cases e : j = dp + i
  · rw [if_pos e, pk_cpy_in (by omega) (by omega), e, Nat.add_sub_cancel_left]
  · rw [if_neg e]
    by_cases e2 : dp ≤ j ∧ j < dp + i
    · rw [pk_cpy_in e2.1 e2.2, pk_cpy_in e2.1 (by omega)]
    · rw [pk_cpy_out (by omega), pk_cpy_out (by omega)]
theorem ix24 (r p : Nat) : (24 : Int32) * nI r + nI p = nI (24 * r + p) := by
  rw [show (24 : Int32) * nI r = nI (24 * r) from pk_mul 24 r]
  exact nI_add (24 * r) p
theorem in3 {s : Int32} (h : ¬ s < -1 ∧ ¬ 1 < s) : s = -1 ∨ s = 0 ∨ s = 1 := by
  have h1 := h.1
  have h2 := h.2
  rw [Int32.lt_iff_toInt_lt, show (-1 : Int32).toInt = -1 from rfl] at h1
  rw [Int32.lt_iff_toInt_lt, show (1 : Int32).toInt = 1 from rfl] at h2
  rcases (by omega : s.toInt = -1 ∨ s.toInt = 0 ∨ s.toInt = 1) with e | e | e
  · exact Or.inl (Int32.toInt_inj.mp e)
  · exact Or.inr (Or.inl (Int32.toInt_inj.mp e))
  · exact Or.inr (Or.inr (Int32.toInt_inj.mp e))
theorem zR_at {σ : ST} {r : Nat} {s n : Int32} : zR σ r s n (54 + 2 * r) 0 = s ∧ zR σ r s n (54 + 2 * r) 1 = n ∧ zR σ r s n (54 + 2 * r + 1) = fun _ => 0 := by
  unfold zR
  refine ⟨?_, ?_, up1_s⟩
  · rw [up1_n (by omega), up2_s, upd_n (by decide), up2_s, upd_s]
  · rw [up1_n (by omega), up2_s, upd_s]
theorem zR_o {σ : ST} {r q : Nat} {s n : Int32} (h1 : q ≠ 54 + 2 * r) (h2 : q ≠ 54 + 2 * r + 1) : zR σ r s n q = σ q := by
  unfold zR
  rw [up1_n h2, up2_n h1, up2_n h1]
theorem RS_e {σ σ' : ST} {r : Nat} (h : RS σ r) (e : σ' (54 + 2 * r) = σ (54 + 2 * r)) : RS σ' r := by
  obtain ⟨m, h1, h2⟩ := h
  exact ⟨m, h1, by rw [e]; exact h2⟩
/-- a sheet that a call leaves as it is -/
theorem Sh1.keep {σ μ σ' μ' : ST} {r : Nat} (h : Sh1 σ μ r) (e1 : σ' (54 + 2 * r) = σ (54 + 2 * r)) (e2 : σ' (54 + 2 * r + 1) = σ (54 + 2 * r + 1)) (e3 : μ' 15 r = μ 15 r) (e4 : μ' 16 r = μ 16 r) (e5 : ∀ p, p < 24 → μ' 17 (24 * r + p) = μ 17 (24 * r + p)) : Sh1 σ' μ' r := by
  obtain ⟨h1, h2, h3, h4, h5, h6⟩ := h
  exact ⟨by rw [e3, e1, h1], by rw [e4, e1, h2], fun p hp => by rw [e5 p hp, e2, h3 p hp], by rw [e1]; exact h4, RS_e h5 e1, by rw [e2]; exact h6⟩
theorem ShR.zero {σ μ μ' : ST} {r : Nat} (h : ShR σ μ) {s n : Int32} (hs : s = -1 ∨ s = 0 ∨ s = 1) (hn : ∃ m, m ≤ 24 ∧ n = nI m) (e15 : μ' 15 = upd (μ 15) r s) (e16 : μ' 16 = upd (μ 16) r n) (e17 : μ' 17 = va_cpy (fun _ => 0) (μ 17) 0 (24 * r) 24) : ShR (zR σ r s n) μ' := by
  intro q hq
  by_cases e : q = r
  · subst e
    refine ⟨by rw [e15, upd_s, zR_at.1], by rw [e16, upd_s, zR_at.2.1], fun p hp => by rw [e17, pk_cpy_in (by omega) (by omega), zR_at.2.2], by rw [zR_at.1]; exact hs, by obtain ⟨m, h1, h2⟩ := hn; exact ⟨m, h1, by rw [zR_at.2.1]; exact h2⟩, fun p hp => by rw [zR_at.2.2]; exact Or.inr (by show -99999 ≤ (0 : Int32).toInt ∧ (0 : Int32).toInt ≤ 99999; decide)⟩
  · exact (h q hq).keep (zR_o (by omega) (by omega)) (zR_o (by omega) (by omega)) (by rw [e15, upd_n e]) (by rw [e16, upd_n e]) (fun p hp => by rw [e17, pk_cpy_out (by omega)])
theorem aSheet_m {σ : ST} {r : Nat} {s n : Int32} (hr4 : r < 4) (e : s = -1) : aSheet σ (nI r) s n = (0, zR σ r s 0) := by
  subst e
  unfold aSheet
  rw [if_pos ⟨isQ_n hr4, by decide, by decide⟩, if_pos rfl, ix_n (by omega)]
theorem aSheet_n {σ : ST} {r : Nat} {s n : Int32} (hr4 : r < 4) (hs : ¬ s < -1 ∧ ¬ 1 < s) (e : ¬ s = -1) (h1 : n ≤ 24) (h2 : 0 ≤ n) : aSheet σ (nI r) s n = (n, zR σ r s n) := by
  unfold aSheet
  rw [if_pos ⟨isQ_n hr4, hs.1, Int32.not_lt.mp hs.2⟩, if_neg e, if_neg (fun q => q h1), if_neg (fun q => q h2), ix_n (by omega)]
theorem aSheet_b {σ : ST} {r : Nat} {s n : Int32} (hr4 : r < 4) (hs : ¬ s < -1 ∧ ¬ 1 < s) (e : ¬ s = -1) (h1 : ¬ n ≤ 24) : aSheet σ (nI r) s n = (-1000000001, σ) := by
  unfold aSheet
  rw [if_pos ⟨isQ_n hr4, hs.1, Int32.not_lt.mp hs.2⟩, if_neg e, if_pos h1]
theorem aSheet_s {σ : ST} {r : Nat} {s n : Int32} (hr4 : r < 4) (hs : ¬ s < -1 ∧ ¬ 1 < s) (e : ¬ s = -1) (h1 : n ≤ 24) (h2 : ¬ 0 ≤ n) : aSheet σ (nI r) s n = (-1000000014, σ) := by
  unfold aSheet
  rw [if_pos ⟨isQ_n hr4, hs.1, Int32.not_lt.mp hs.2⟩, if_neg e, if_neg (fun q => q h1), if_pos h2]
theorem s_m {s : Int32} (hs : ¬ s < -1 ∧ ¬ 1 < s) (h : s < 0) : s = -1 := by
  rcases in3 hs with e | e | e
  · exact e
  · rw [e] at h; exact absurd h (by decide)
  · rw [e] at h; exact absurd h (by decide)
theorem s_n {s : Int32} (h : ¬ s < 0) : ¬ s = -1 := fun e => h (by rw [e]; decide)
theorem nl24 {n : Int32} (h1 : n ≤ 24) (h2 : 0 ≤ n) : ∃ m, m ≤ 24 ∧ n = nI m := by
  obtain ⟨m, hm, rfl⟩ := nI_of (x := n) (Int32.not_lt.mpr h2)
  exact ⟨m, n_le (b := 24) hm (by decide) h1, rfl⟩
set_option maxRecDepth 100000 in
set_option maxHeartbeats 4000000 in
theorem c_X8_sheet (B : BT) (μ : Nat → Nat → Int32) (δ : Nat → Int64) (σ : ST) (hS : ShR σ μ) (x s n : Int32) : MI B yX8_sheet cX8_sheet 5 (some .int) ({ frames := 2, cells := 0, slots := 0, locals := 42 }) [.ref (aB B 0), .int x, .int s, .int n] μ δ (fun r μ' δ' => r = (aSheet σ x s n).1 ∧ ShR (aSheet σ x s n).2 μ' ∧ (∀ q, q ≠ 15 → q ≠ 16 → q ≠ 17 → μ' q = μ q) ∧ δ' = δ) := by
  refine MX.of2 RX8 (by decide) rfl ⟨rfl, rfl⟩ (Nat.le_of_ble_eq_true rfl) (by rfl) (fun k ho hr hk => ?_)
  show XM B k μ δ 0 [some (.ref (aB B 0)), some (.int x), some (.int s), some (.int n), none] []
  have K62 : ∀ r, r < 4 → x = nI r → ∀ sz, aSheet σ (nI r) s n = (sz, zR σ r s sz) → (∃ m, m ≤ 24 ∧ sz = nI m) → (s = -1 ∨ s = 0 ∨ s = 1) → XM B k (up2 μ 15 r s) δ 62 [some (.ref (aB B 0)), some (.int (nI r)), some (.int s), some (.int n), none] [.int sz, .int (nI r), .ref (aB B 16)] := by
    intro r hr4 ex sz e0 hsz hs3
    subst ex
    refine xm_iastN (r) (rfl) 16 (by show r < 4; omega) ho (by decide) (by decide) (fun _ => rfl) dX8_sheet_62 ?_
    refine x_iconst (v := 0) ho dX8_sheet_63 rfl ?_
    refine x_ist4 ho dX8_sheet_64 (by rw [hk]; decide) rfl ?_
    have loop : ∀ (f i : Nat), 24 < f + i → i ≤ 24 → XM B k (up1 (up2 (up2 μ 15 r s) 16 r sz) 17 (va_cpy (fun _ => 0) (μ 17) 0 (24 * r) i)) δ 66 [some (.ref (aB B 0)), some (.int (nI r)), some (.int s), some (.int n), some (.int (nI i))] [] := by
      intro f
      induction f with
      | zero => intro i h1 h2; omega
      | succ f ih =>
        intro i h1 h2
        refine x_ild4 ho dX8_sheet_66 ?_
        refine x_bipush (v := 24) ho dX8_sheet_68 rfl ?_
        refine x_icmp_ge 92 ho dX8_sheet_70 (by decide) (fun c70 => ?_) (fun c70 => ?_)
        · have c70 := n_le (a := 24) (by decide) (by omega) c70
          have ei : i = 24 := by omega
          subst ei
          refine x_ald0 ho dX8_sheet_92 ?_
          refine r_X8_58 ho dX8_sheet_93 ?_
          refine x_ild1 ho dX8_sheet_96 ?_
          refine xm_ialdN (r) (rfl) 16 (by show r < 4; omega) ho (by decide) (fun _ => rfl) dX8_sheet_97 ?_
          refine x_iret ho hr ?_ dX8_sheet_98
          refine ⟨_, _, _, rfl, rfl, ?_, ?_, fun q h1 h2 h3 => ?_, rfl⟩
          · rw [e0]
            show up2 (up2 μ 15 r s) 16 r sz 16 r = sz
            rw [up2_s, upd_s]
          · rw [e0]
            exact hS.zero hs3 hsz (by rw [up1_n (by decide), up2_n (by decide), up2_s]) (by rw [up1_n (by decide), up2_s, up2_n (by decide)]) up1_s
          · rw [up1_n h3, up2_n h2, up2_n h1]
        · have c70 := n_nle (a := 24) (b := i) (by decide) (by omega) c70
          refine x_ald0 ho dX8_sheet_73 ?_
          refine r_X8_61 ho dX8_sheet_74 ?_
          refine x_bipush (v := 24) ho dX8_sheet_77 rfl ?_
          refine x_ild1 ho dX8_sheet_79 ?_
          refine x_imul ho dX8_sheet_80 ?_
          refine x_ild4 ho dX8_sheet_81 ?_
          refine x_iadd ho dX8_sheet_83 ?_
          refine x_iconst (v := 0) ho dX8_sheet_84 rfl ?_
          refine xm_iastN (24 * r + i) (ix24 r i) 17 (by show 24 * r + i < 96; omega) ho (by decide) (by decide) (fun _ => rfl) dX8_sheet_85 ?_
          rw [up2_up1, cpy_s (f := fun _ => 0) (sp := 0)]
          refine x_inc4 (y := 1) ho dX8_sheet_86 (by rw [hk]; decide) rfl rfl ?_
          refine x_goto 66 ho dX8_sheet_89 (by decide) ?_
          rw [nI_1 i]
          exact ih (i + 1) (by omega) (by omega)
    have loop := loop 25 0 (by omega) (by omega)
    rw [cpy_0, show μ 17 = (up2 (up2 μ 15 r s) 16 r sz) 17 by rw [up2_n (by decide), up2_n (by decide)], up1_self] at loop
    exact loop
  refine x_ild1 ho dX8_sheet_0 ?_
  refine sMI1 ho cs_X8_184 (c_X8_isSheet B _ _ _) ⟨rfl, rfl⟩ ⟨Nat.le_of_ble_eq_true rfl, Nat.le_of_ble_eq_true rfl⟩ (Nat.le_of_ble_eq_true rfl) dX8_sheet_1 (fun r1 s1 t1 p1 => ?_)
  obtain ⟨rfl, rfl, rfl⟩ := p1
  refine x_if_eq 26 ho dX8_sheet_4 (by decide) (fun c4 => ?_) (fun c4 => ?_)
  · have c4 := bI_0.mp c4
    refine x_ldc ho kc_X8_94 dX8_sheet_26 ?_
    refine x_iret ho hr ?_ dX8_sheet_28
    first | exact ⟨_, _, _, rfl, rfl, by rw [show aSheet σ x s n = (-1000000001, σ) from if_neg (fun z => c4 z.1)], by rw [show aSheet σ x s n = (-1000000001, σ) from if_neg (fun z => c4 z.1)]; exact hS, fun _ _ _ _ => rfl, rfl⟩ | exact ⟨_, _, _, rfl, rfl, by rw [show aSheet σ (nI r) s n = (-1000000001, σ) from if_neg (fun z => c13 ⟨z.2.1, Int32.not_lt.mpr z.2.2⟩)], by rw [show aSheet σ (nI r) s n = (-1000000001, σ) from if_neg (fun z => c13 ⟨z.2.1, Int32.not_lt.mpr z.2.2⟩)]; exact hS, fun _ _ _ _ => rfl, rfl⟩ | exact ⟨_, _, _, rfl, rfl, by rw [aSheet_b hr4 c13 (s_n c17) c23], by rw [aSheet_b hr4 c13 (s_n c17) c23]; exact hS, fun _ _ _ _ => rfl, rfl⟩
  · have c4 := bI_n.mp c4
    obtain ⟨r, hr4, rfl⟩ := isQ_of c4
    refine x_ild2 ho dX8_sheet_7 ?_
    refine x_iconst (v := (-1)) ho dX8_sheet_8 rfl ?_
    refine x_iconst (v := 1) ho dX8_sheet_9 rfl ?_
    refine sMI3 ho cs_X8_82 (c_X8_in B _ _ _ _ _) ⟨rfl, rfl⟩ ⟨Nat.le_of_ble_eq_true rfl, Nat.le_of_ble_eq_true rfl⟩ (Nat.le_of_ble_eq_true rfl) dX8_sheet_10 (fun r10 s10 t10 p10 => ?_)
    obtain ⟨rfl, rfl, rfl⟩ := p10
    refine x_if_eq 26 ho dX8_sheet_13 (by decide) (fun c13 => ?_) (fun c13 => ?_)
    · have c13 := bI_0.mp c13
      refine x_ldc ho kc_X8_94 dX8_sheet_26 ?_
      refine x_iret ho hr ?_ dX8_sheet_28
      first | exact ⟨_, _, _, rfl, rfl, by rw [show aSheet σ x s n = (-1000000001, σ) from if_neg (fun z => c4 z.1)], by rw [show aSheet σ x s n = (-1000000001, σ) from if_neg (fun z => c4 z.1)]; exact hS, fun _ _ _ _ => rfl, rfl⟩ | exact ⟨_, _, _, rfl, rfl, by rw [show aSheet σ (nI r) s n = (-1000000001, σ) from if_neg (fun z => c13 ⟨z.2.1, Int32.not_lt.mpr z.2.2⟩)], by rw [show aSheet σ (nI r) s n = (-1000000001, σ) from if_neg (fun z => c13 ⟨z.2.1, Int32.not_lt.mpr z.2.2⟩)]; exact hS, fun _ _ _ _ => rfl, rfl⟩ | exact ⟨_, _, _, rfl, rfl, by rw [aSheet_b hr4 c13 (s_n c17) c23], by rw [aSheet_b hr4 c13 (s_n c17) c23]; exact hS, fun _ _ _ _ => rfl, rfl⟩
    · have c13 := bI_n.mp c13
      refine x_ild2 ho dX8_sheet_16 ?_
      refine x_if_lt 29 ho dX8_sheet_17 (by decide) (fun c17 => ?_) (fun c17 => ?_)
      · refine x_ild2 ho dX8_sheet_29 ?_
        refine x_if_lt 41 ho dX8_sheet_30 (by decide) (fun c30 => ?_) (fun c30 => ?_)
        · refine x_ald0 ho dX8_sheet_41 ?_
          refine r_X8_55 ho dX8_sheet_42 ?_
          refine x_ild1 ho dX8_sheet_45 ?_
          refine x_ild2 ho dX8_sheet_46 ?_
          refine xm_iastN (r) (rfl) 15 (by show r < 4; omega) ho (by decide) (by decide) (fun _ => rfl) dX8_sheet_47 ?_
          refine x_ald0 ho dX8_sheet_48 ?_
          refine r_X8_58 ho dX8_sheet_49 ?_
          refine x_ild1 ho dX8_sheet_52 ?_
          refine x_ild2 ho dX8_sheet_53 ?_
          refine x_if_ge 61 ho dX8_sheet_54 (by decide) (fun c54 => ?_) (fun c54 => ?_)
          · refine x_ild3 ho dX8_sheet_61 ?_
            first | exact absurd c17 c30 | exact absurd c17 (Int32.not_lt.mpr c54) | exact absurd c54 (Int32.not_le.mpr c17) | exact K62 r hr4 rfl 0 (aSheet_m hr4 (s_m c13 c17)) ⟨0, by decide, rfl⟩ (in3 c13) | exact K62 r hr4 rfl n (aSheet_n hr4 c13 (s_n c17) c23 c34) (nl24 c23 c34) (in3 c13) | exact absurd c30 c17 | exact absurd (Int32.not_le.mp c54) c17
          · refine x_iconst (v := 0) ho dX8_sheet_57 rfl ?_
            refine x_goto 62 ho dX8_sheet_58 (by decide) ?_
            first | exact absurd c17 c30 | exact absurd c17 (Int32.not_lt.mpr c54) | exact absurd c54 (Int32.not_le.mpr c17) | exact K62 r hr4 rfl 0 (aSheet_m hr4 (s_m c13 c17)) ⟨0, by decide, rfl⟩ (in3 c13) | exact K62 r hr4 rfl n (aSheet_n hr4 c13 (s_n c17) c23 c34) (nl24 c23 c34) (in3 c13) | exact absurd c30 c17 | exact absurd (Int32.not_le.mp c54) c17
        · refine x_ild3 ho dX8_sheet_33 ?_
          refine x_if_ge 41 ho dX8_sheet_34 (by decide) (fun c34 => ?_) (fun c34 => ?_)
          · refine x_ald0 ho dX8_sheet_41 ?_
            refine r_X8_55 ho dX8_sheet_42 ?_
            refine x_ild1 ho dX8_sheet_45 ?_
            refine x_ild2 ho dX8_sheet_46 ?_
            refine xm_iastN (r) (rfl) 15 (by show r < 4; omega) ho (by decide) (by decide) (fun _ => rfl) dX8_sheet_47 ?_
            refine x_ald0 ho dX8_sheet_48 ?_
            refine r_X8_58 ho dX8_sheet_49 ?_
            refine x_ild1 ho dX8_sheet_52 ?_
            refine x_ild2 ho dX8_sheet_53 ?_
            refine x_if_ge 61 ho dX8_sheet_54 (by decide) (fun c54 => ?_) (fun c54 => ?_)
            · refine x_ild3 ho dX8_sheet_61 ?_
              first | exact absurd c17 c30 | exact absurd c17 (Int32.not_lt.mpr c54) | exact absurd c54 (Int32.not_le.mpr c17) | exact K62 r hr4 rfl 0 (aSheet_m hr4 (s_m c13 c17)) ⟨0, by decide, rfl⟩ (in3 c13) | exact K62 r hr4 rfl n (aSheet_n hr4 c13 (s_n c17) c23 c34) (nl24 c23 c34) (in3 c13) | exact absurd c30 c17 | exact absurd (Int32.not_le.mp c54) c17
            · refine x_iconst (v := 0) ho dX8_sheet_57 rfl ?_
              refine x_goto 62 ho dX8_sheet_58 (by decide) ?_
              first | exact absurd c17 c30 | exact absurd c17 (Int32.not_lt.mpr c54) | exact absurd c54 (Int32.not_le.mpr c17) | exact K62 r hr4 rfl 0 (aSheet_m hr4 (s_m c13 c17)) ⟨0, by decide, rfl⟩ (in3 c13) | exact K62 r hr4 rfl n (aSheet_n hr4 c13 (s_n c17) c23 c34) (nl24 c23 c34) (in3 c13) | exact absurd c30 c17 | exact absurd (Int32.not_le.mp c54) c17
          · refine x_ldcw ho kc_X8_256 dX8_sheet_37 ?_
            refine x_iret ho hr ?_ dX8_sheet_40
            first | exact ⟨_, _, _, rfl, rfl, by rw [aSheet_s hr4 c13 (s_n c17) c23 c34], by rw [aSheet_s hr4 c13 (s_n c17) c23 c34]; exact hS, fun _ _ _ _ => rfl, rfl⟩ | exact absurd c17 c30
      · refine x_ild3 ho dX8_sheet_20 ?_
        refine x_bipush (v := 24) ho dX8_sheet_21 rfl ?_
        refine x_icmp_le 29 ho dX8_sheet_23 (by decide) (fun c23 => ?_) (fun c23 => ?_)
        · refine x_ild2 ho dX8_sheet_29 ?_
          refine x_if_lt 41 ho dX8_sheet_30 (by decide) (fun c30 => ?_) (fun c30 => ?_)
          · refine x_ald0 ho dX8_sheet_41 ?_
            refine r_X8_55 ho dX8_sheet_42 ?_
            refine x_ild1 ho dX8_sheet_45 ?_
            refine x_ild2 ho dX8_sheet_46 ?_
            refine xm_iastN (r) (rfl) 15 (by show r < 4; omega) ho (by decide) (by decide) (fun _ => rfl) dX8_sheet_47 ?_
            refine x_ald0 ho dX8_sheet_48 ?_
            refine r_X8_58 ho dX8_sheet_49 ?_
            refine x_ild1 ho dX8_sheet_52 ?_
            refine x_ild2 ho dX8_sheet_53 ?_
            refine x_if_ge 61 ho dX8_sheet_54 (by decide) (fun c54 => ?_) (fun c54 => ?_)
            · refine x_ild3 ho dX8_sheet_61 ?_
              first | exact absurd c17 c30 | exact absurd c17 (Int32.not_lt.mpr c54) | exact absurd c54 (Int32.not_le.mpr c17) | exact K62 r hr4 rfl 0 (aSheet_m hr4 (s_m c13 c17)) ⟨0, by decide, rfl⟩ (in3 c13) | exact K62 r hr4 rfl n (aSheet_n hr4 c13 (s_n c17) c23 c34) (nl24 c23 c34) (in3 c13) | exact absurd c30 c17 | exact absurd (Int32.not_le.mp c54) c17
            · refine x_iconst (v := 0) ho dX8_sheet_57 rfl ?_
              refine x_goto 62 ho dX8_sheet_58 (by decide) ?_
              first | exact absurd c17 c30 | exact absurd c17 (Int32.not_lt.mpr c54) | exact absurd c54 (Int32.not_le.mpr c17) | exact K62 r hr4 rfl 0 (aSheet_m hr4 (s_m c13 c17)) ⟨0, by decide, rfl⟩ (in3 c13) | exact K62 r hr4 rfl n (aSheet_n hr4 c13 (s_n c17) c23 c34) (nl24 c23 c34) (in3 c13) | exact absurd c30 c17 | exact absurd (Int32.not_le.mp c54) c17
          · refine x_ild3 ho dX8_sheet_33 ?_
            refine x_if_ge 41 ho dX8_sheet_34 (by decide) (fun c34 => ?_) (fun c34 => ?_)
            · refine x_ald0 ho dX8_sheet_41 ?_
              refine r_X8_55 ho dX8_sheet_42 ?_
              refine x_ild1 ho dX8_sheet_45 ?_
              refine x_ild2 ho dX8_sheet_46 ?_
              refine xm_iastN (r) (rfl) 15 (by show r < 4; omega) ho (by decide) (by decide) (fun _ => rfl) dX8_sheet_47 ?_
              refine x_ald0 ho dX8_sheet_48 ?_
              refine r_X8_58 ho dX8_sheet_49 ?_
              refine x_ild1 ho dX8_sheet_52 ?_
              refine x_ild2 ho dX8_sheet_53 ?_
              refine x_if_ge 61 ho dX8_sheet_54 (by decide) (fun c54 => ?_) (fun c54 => ?_)
              · refine x_ild3 ho dX8_sheet_61 ?_
                first | exact absurd c17 c30 | exact absurd c17 (Int32.not_lt.mpr c54) | exact absurd c54 (Int32.not_le.mpr c17) | exact K62 r hr4 rfl 0 (aSheet_m hr4 (s_m c13 c17)) ⟨0, by decide, rfl⟩ (in3 c13) | exact K62 r hr4 rfl n (aSheet_n hr4 c13 (s_n c17) c23 c34) (nl24 c23 c34) (in3 c13) | exact absurd c30 c17 | exact absurd (Int32.not_le.mp c54) c17
              · refine x_iconst (v := 0) ho dX8_sheet_57 rfl ?_
                refine x_goto 62 ho dX8_sheet_58 (by decide) ?_
                first | exact absurd c17 c30 | exact absurd c17 (Int32.not_lt.mpr c54) | exact absurd c54 (Int32.not_le.mpr c17) | exact K62 r hr4 rfl 0 (aSheet_m hr4 (s_m c13 c17)) ⟨0, by decide, rfl⟩ (in3 c13) | exact K62 r hr4 rfl n (aSheet_n hr4 c13 (s_n c17) c23 c34) (nl24 c23 c34) (in3 c13) | exact absurd c30 c17 | exact absurd (Int32.not_le.mp c54) c17
            · refine x_ldcw ho kc_X8_256 dX8_sheet_37 ?_
              refine x_iret ho hr ?_ dX8_sheet_40
              first | exact ⟨_, _, _, rfl, rfl, by rw [aSheet_s hr4 c13 (s_n c17) c23 c34], by rw [aSheet_s hr4 c13 (s_n c17) c23 c34]; exact hS, fun _ _ _ _ => rfl, rfl⟩ | exact absurd c17 c30
        · refine x_ldc ho kc_X8_94 dX8_sheet_26 ?_
          refine x_iret ho hr ?_ dX8_sheet_28
          first | exact ⟨_, _, _, rfl, rfl, by rw [show aSheet σ x s n = (-1000000001, σ) from if_neg (fun z => c4 z.1)], by rw [show aSheet σ x s n = (-1000000001, σ) from if_neg (fun z => c4 z.1)]; exact hS, fun _ _ _ _ => rfl, rfl⟩ | exact ⟨_, _, _, rfl, rfl, by rw [show aSheet σ (nI r) s n = (-1000000001, σ) from if_neg (fun z => c13 ⟨z.2.1, Int32.not_lt.mpr z.2.2⟩)], by rw [show aSheet σ (nI r) s n = (-1000000001, σ) from if_neg (fun z => c13 ⟨z.2.1, Int32.not_lt.mpr z.2.2⟩)]; exact hS, fun _ _ _ _ => rfl, rfl⟩ | exact ⟨_, _, _, rfl, rfl, by rw [aSheet_b hr4 c13 (s_n c17) c23], by rw [aSheet_b hr4 c13 (s_n c17) c23]; exact hS, fun _ _ _ _ => rfl, rfl⟩
theorem hP1 {σ : ST} {r : Nat} {x : Int32} (h : RS σ r) : bI (¬ x < 0 ∧ ¬ σ (54 + 2 * r) 1 - 1 < x) = bI (hasP σ r x 1 = true) := by
  obtain ⟨m, hm, e⟩ := h
  refine (bI_iff (P := ¬ x < 0 ∧ ¬ σ (54 + 2 * r) 1 - 1 < x) (Q := ¬ x < 0 ∧ ¬ (1 : Int32) < 0 ∧ ¬ σ (54 + 2 * r) 1 - x < 1) (and_congr_right (fun h0 => ?_))).trans bH
  obtain ⟨j, hj, rfl⟩ := nI_of h0
  have e1 : (nI m - 1).toInt = (m : Int) - 1 := pk_sub_toInt (a := m) (b := 1) (by omega) (by omega)
  have e2 : (nI m - nI j).toInt = (m : Int) - j := by rw [Int32.toInt_sub, nI_toInt (by omega), nI_toInt hj, Int.bmod_eq_of_le (by omega) (by omega)]
  rw [e, Int32.lt_iff_toInt_lt, Int32.lt_iff_toInt_lt (x := nI m - nI j), e1, e2, nI_toInt hj, show (1 : Int32).toInt = 1 from rfl]
  refine ⟨fun z => ⟨by decide, by omega⟩, fun z => by omega⟩
theorem hasP_1 {σ : ST} {r : Nat} {x : Int32} (h : hasP σ r x 1 = true) (hr4 : RS σ r) : ∃ p, p < 24 ∧ x = nI p := by
  obtain ⟨m, i, j, h1, h2, h3, h4, h5⟩ := hasP_of h hr4
  have hj : j = 1 := n_eq (by omega) (by decide) h4.symm
  exact ⟨i, by omega, h3⟩
theorem s16_ok (v : Int32) : plOK v.toInt16.toInt32 := by
  refine Or.inr ?_
  rw [Int16.toInt_toInt32]
  have h1 := Int16.toInt_lt v.toInt16
  have h2 := Int16.le_toInt v.toInt16
  omega
theorem pl_ok {v : Int32} (h : ¬ v = -1000000005 → ¬ v < -99999 ∧ ¬ 99999 < v) : plOK v := by
  by_cases e : v = -1000000005
  · exact Or.inl e
  · have h1 := h e
    rw [Int32.lt_iff_toInt_lt, Int32.lt_iff_toInt_lt, show (-99999 : Int32).toInt = -99999 from rfl, show (99999 : Int32).toInt = 99999 from rfl] at h1
    exact Or.inr (by omega)
theorem ShR.put {σ μ μ' : ST} {r p : Nat} (hr4 : r < 4) (hp : p < 24) (h : ShR σ μ) {v : Int32} (hv : plOK v) (e15 : μ' 15 = μ 15) (e16 : μ' 16 = μ 16) (e17 : μ' 17 = upd (μ 17) (24 * r + p) v) : ShR (up2 σ (54 + 2 * r + 1) p v) μ' := by
  intro q hq
  by_cases e : q = r
  · subst e
    obtain ⟨h1, h2, h3, h4, h5, h6⟩ := h q hq
    refine ⟨by rw [e15, up2_n (by omega), h1], by rw [e16, up2_n (by omega), h2], fun j hj => ?_, by rw [up2_n (by omega)]; exact h4, RS_e h5 (up2_n (by omega)), fun j hj => ?_⟩
    · rw [e17, up2_s]
      unfold upd
      by_cases e2 : j = p
      · rw [if_pos (by omega), if_pos e2]
      · rw [if_neg (by omega), if_neg e2, h3 j hj]
    · rw [up2_s]
      unfold upd
      by_cases e2 : j = p
      · rw [if_pos e2]; exact hv
      · rw [if_neg e2]; exact h6 j hj
  · exact (h q hq).keep (up2_n (by omega)) (up2_n (by omega)) (by rw [e15]) (by rw [e16]) (fun j hj => by rw [e17, upd_n (by omega)])
set_option maxRecDepth 100000 in
set_option maxHeartbeats 4000000 in
theorem c_X8_mark (B : BT) (μ : Nat → Nat → Int32) (δ : Nat → Int64) (σ : ST) (hS : ShR σ μ) (x p v : Int32) : MI B yX8_mark cX8_mark 4 (some .int) ({ frames := 2, cells := 0, slots := 0, locals := 42 }) [.ref (aB B 0), .int x, .int p, .int v] μ δ (fun r μ' δ' => r = (aMark σ x p v).1 ∧ ShR (aMark σ x p v).2 μ' ∧ (∀ q, q ≠ 15 → q ≠ 16 → q ≠ 17 → μ' q = μ q) ∧ δ' = δ) := by
  refine MX.of2 RX8 (by decide) rfl ⟨rfl, rfl⟩ (Nat.le_of_ble_eq_true rfl) (by rfl) (fun k ho hr hk => ?_)
  show XM B k μ δ 0 [some (.ref (aB B 0)), some (.int x), some (.int p), some (.int v)] []
  refine x_ild1 ho dX8_mark_0 ?_
  refine sMI1 ho cs_X8_184 (c_X8_isSheet B _ _ _) ⟨rfl, rfl⟩ ⟨Nat.le_of_ble_eq_true rfl, Nat.le_of_ble_eq_true rfl⟩ (Nat.le_of_ble_eq_true rfl) dX8_mark_1 (fun r1 s1 t1 p1 => ?_)
  obtain ⟨rfl, rfl, rfl⟩ := p1
  refine x_if_ne 10 ho dX8_mark_4 (by decide) (fun c4 => ?_) (fun c4 => ?_)
  · have c4 := bI_n.mp c4
    obtain ⟨r, hr4, rfl⟩ := isQ_of c4
    obtain ⟨s15, s16, s17, ssrt, ssz, spl⟩ := hS r hr4
    refine x_ald0 ho dX8_mark_10 ?_
    refine r_X8_55 ho dX8_mark_11 ?_
    refine x_ild1 ho dX8_mark_14 ?_
    refine xm_ialdN (r) (rfl) 15 (by show r < 4; omega) ho (by decide) (fun _ => rfl) dX8_mark_15 ?_
    rw [s15]
    refine x_if_ge 22 ho dX8_mark_16 (by decide) (fun c16 => ?_) (fun c16 => ?_)
    · have ne : ¬ σ (54 + 2 * r) 0 = -1 := fun e => by rw [e] at c16; exact absurd c16 (by decide)
      refine x_ild2 ho dX8_mark_22 ?_
      refine x_iconst (v := 0) ho dX8_mark_23 rfl ?_
      refine x_ald0 ho dX8_mark_24 ?_
      refine r_X8_58 ho dX8_mark_25 ?_
      refine x_ild1 ho dX8_mark_28 ?_
      refine xm_ialdN (r) (rfl) 16 (by show r < 4; omega) ho (by decide) (fun _ => rfl) dX8_mark_29 ?_
      rw [s16]
      refine x_iconst (v := 1) ho dX8_mark_30 rfl ?_
      refine x_isub ho dX8_mark_31 ?_
      refine sMI3 ho cs_X8_82 (c_X8_in B _ _ _ _ _) ⟨rfl, rfl⟩ ⟨Nat.le_of_ble_eq_true rfl, Nat.le_of_ble_eq_true rfl⟩ (Nat.le_of_ble_eq_true rfl) dX8_mark_32 (fun r32 s32 t32 p32 => ?_)
      obtain ⟨rfl, rfl, rfl⟩ := p32
      rw [hP1 ssz]
      refine x_if_ne 42 ho dX8_mark_35 (by decide) (fun c35 => ?_) (fun c35 => ?_)
      · have c35 := bI_n.mp c35
        obtain ⟨j, hj, rfl⟩ := hasP_1 c35 ssz
        refine x_ald0 ho dX8_mark_42 ?_
        refine r_X8_55 ho dX8_mark_43 ?_
        refine x_ild1 ho dX8_mark_46 ?_
        refine xm_ialdN (r) (rfl) 15 (by show r < 4; omega) ho (by decide) (fun _ => rfl) dX8_mark_47 ?_
        rw [s15]
        refine x_if_ne 60 ho dX8_mark_48 (by decide) (fun c48 => ?_) (fun c48 => ?_)
        · refine x_ald0 ho dX8_mark_60 ?_
          refine r_X8_55 ho dX8_mark_61 ?_
          refine x_ild1 ho dX8_mark_64 ?_
          refine xm_ialdN (r) (rfl) 15 (by show r < 4; omega) ho (by decide) (fun _ => rfl) dX8_mark_65 ?_
          rw [s15]
          refine x_iconst (v := 1) ho dX8_mark_66 rfl ?_
          refine x_icmp_ne 92 ho dX8_mark_67 (by decide) (fun c67 => ?_) (fun c67 => ?_)
          · refine x_ald0 ho dX8_mark_92 ?_
            refine r_X8_61 ho dX8_mark_93 ?_
            refine x_bipush (v := 24) ho dX8_mark_96 rfl ?_
            refine x_ild1 ho dX8_mark_98 ?_
            refine x_imul ho dX8_mark_99 ?_
            refine x_ild2 ho dX8_mark_100 ?_
            refine x_iadd ho dX8_mark_101 ?_
            refine x_ald0 ho dX8_mark_102 ?_
            refine r_X8_55 ho dX8_mark_103 ?_
            refine x_ild1 ho dX8_mark_106 ?_
            refine xm_ialdN (r) (rfl) 15 (by show r < 4; omega) ho (by decide) (fun _ => rfl) dX8_mark_107 ?_
            rw [s15]
            refine x_if_ne 116 ho dX8_mark_108 (by decide) (fun c108 => ?_) (fun c108 => ?_)
            · refine x_ild3 ho dX8_mark_116 ?_
              refine xm_iastN (24 * r + j) (ix24 r j) 17 (by show 24 * r + j < 96; omega) ho (by decide) (by decide) (fun _ => rfl) dX8_mark_117 ?_
              refine x_iconst (v := 1) ho dX8_mark_118 rfl ?_
              refine x_iret ho hr ?_ dX8_mark_119
              first | (have e0 : aMark σ (nI r) (nI j) v = (1, up2 σ (54 + 2 * r + 1) j v.toInt16.toInt32) := (by unfold aMark; rw [if_pos (isQ_n hr4), ix_n (n := r) (by omega), if_neg ne, if_pos c35, if_pos c108, if_neg c54, ix_n (n := j) (by omega)]); exact ⟨_, _, _, rfl, rfl, by rw [e0], by rw [e0]; exact hS.put hr4 hj (s16_ok v) rfl rfl rfl, fun q _ _ h3 => up2_n h3, rfl⟩) | exact absurd c48 c108 | exact absurd c108 c48 | (have e0 : aMark σ (nI r) (nI j) v = (1, up2 σ (54 + 2 * r + 1) j v) := (by unfold aMark; rw [if_pos (isQ_n hr4), ix_n (n := r) (by omega), if_neg ne, if_pos c35, if_neg c108, if_neg (by first | exact fun z => z.1 c73 | exact fun z => z.2.elim c86.1 (fun y => y (Int32.not_lt.mp c86.2)) | exact fun z => z.1 (Decidable.not_not.mp c73)), ix_n (n := j) (by omega)]); exact ⟨_, _, _, rfl, rfl, by rw [e0], by rw [e0]; exact hS.put hr4 hj (by first | exact Or.inl c73 | exact pl_ok (fun _ => c86) | exact Or.inl (Decidable.not_not.mp c73)) rfl rfl rfl, fun q _ _ h3 => up2_n h3, rfl⟩) | (exfalso; rcases ssrt with e | e | e <;> simp_all)
            · refine x_ild3 ho dX8_mark_111 ?_
              refine x_i2s ho dX8_mark_112 ?_
              refine x_goto 117 ho dX8_mark_113 (by decide) ?_
              refine xm_iastN (24 * r + j) (ix24 r j) 17 (by show 24 * r + j < 96; omega) ho (by decide) (by decide) (fun _ => rfl) dX8_mark_117 ?_
              refine x_iconst (v := 1) ho dX8_mark_118 rfl ?_
              refine x_iret ho hr ?_ dX8_mark_119
              first | (have e0 : aMark σ (nI r) (nI j) v = (1, up2 σ (54 + 2 * r + 1) j v.toInt16.toInt32) := (by unfold aMark; rw [if_pos (isQ_n hr4), ix_n (n := r) (by omega), if_neg ne, if_pos c35, if_pos c108, if_neg c54, ix_n (n := j) (by omega)]); exact ⟨_, _, _, rfl, rfl, by rw [e0], by rw [e0]; exact hS.put hr4 hj (s16_ok v) rfl rfl rfl, fun q _ _ h3 => up2_n h3, rfl⟩) | exact absurd c48 c108 | exact absurd c108 c48 | (have e0 : aMark σ (nI r) (nI j) v = (1, up2 σ (54 + 2 * r + 1) j v) := (by unfold aMark; rw [if_pos (isQ_n hr4), ix_n (n := r) (by omega), if_neg ne, if_pos c35, if_neg c108, if_neg (by first | exact fun z => z.1 c73 | exact fun z => z.2.elim c86.1 (fun y => y (Int32.not_lt.mp c86.2)) | exact fun z => z.1 (Decidable.not_not.mp c73)), ix_n (n := j) (by omega)]); exact ⟨_, _, _, rfl, rfl, by rw [e0], by rw [e0]; exact hS.put hr4 hj (by first | exact Or.inl c73 | exact pl_ok (fun _ => c86) | exact Or.inl (Decidable.not_not.mp c73)) rfl rfl rfl, fun q _ _ h3 => up2_n h3, rfl⟩) | (exfalso; rcases ssrt with e | e | e <;> simp_all)
          · refine x_ild3 ho dX8_mark_70 ?_
            refine x_ldc ho kc_X8_150 dX8_mark_71 ?_
            refine x_icmp_eq 92 ho dX8_mark_73 (by decide) (fun c73 => ?_) (fun c73 => ?_)
            · refine x_ald0 ho dX8_mark_92 ?_
              refine r_X8_61 ho dX8_mark_93 ?_
              refine x_bipush (v := 24) ho dX8_mark_96 rfl ?_
              refine x_ild1 ho dX8_mark_98 ?_
              refine x_imul ho dX8_mark_99 ?_
              refine x_ild2 ho dX8_mark_100 ?_
              refine x_iadd ho dX8_mark_101 ?_
              refine x_ald0 ho dX8_mark_102 ?_
              refine r_X8_55 ho dX8_mark_103 ?_
              refine x_ild1 ho dX8_mark_106 ?_
              refine xm_ialdN (r) (rfl) 15 (by show r < 4; omega) ho (by decide) (fun _ => rfl) dX8_mark_107 ?_
              rw [s15]
              refine x_if_ne 116 ho dX8_mark_108 (by decide) (fun c108 => ?_) (fun c108 => ?_)
              · refine x_ild3 ho dX8_mark_116 ?_
                refine xm_iastN (24 * r + j) (ix24 r j) 17 (by show 24 * r + j < 96; omega) ho (by decide) (by decide) (fun _ => rfl) dX8_mark_117 ?_
                refine x_iconst (v := 1) ho dX8_mark_118 rfl ?_
                refine x_iret ho hr ?_ dX8_mark_119
                first | (have e0 : aMark σ (nI r) (nI j) v = (1, up2 σ (54 + 2 * r + 1) j v.toInt16.toInt32) := (by unfold aMark; rw [if_pos (isQ_n hr4), ix_n (n := r) (by omega), if_neg ne, if_pos c35, if_pos c108, if_neg c54, ix_n (n := j) (by omega)]); exact ⟨_, _, _, rfl, rfl, by rw [e0], by rw [e0]; exact hS.put hr4 hj (s16_ok v) rfl rfl rfl, fun q _ _ h3 => up2_n h3, rfl⟩) | exact absurd c48 c108 | exact absurd c108 c48 | (have e0 : aMark σ (nI r) (nI j) v = (1, up2 σ (54 + 2 * r + 1) j v) := (by unfold aMark; rw [if_pos (isQ_n hr4), ix_n (n := r) (by omega), if_neg ne, if_pos c35, if_neg c108, if_neg (by first | exact fun z => z.1 c73 | exact fun z => z.2.elim c86.1 (fun y => y (Int32.not_lt.mp c86.2)) | exact fun z => z.1 (Decidable.not_not.mp c73)), ix_n (n := j) (by omega)]); exact ⟨_, _, _, rfl, rfl, by rw [e0], by rw [e0]; exact hS.put hr4 hj (by first | exact Or.inl c73 | exact pl_ok (fun _ => c86) | exact Or.inl (Decidable.not_not.mp c73)) rfl rfl rfl, fun q _ _ h3 => up2_n h3, rfl⟩) | (exfalso; rcases ssrt with e | e | e <;> simp_all)
              · refine x_ild3 ho dX8_mark_111 ?_
                refine x_i2s ho dX8_mark_112 ?_
                refine x_goto 117 ho dX8_mark_113 (by decide) ?_
                refine xm_iastN (24 * r + j) (ix24 r j) 17 (by show 24 * r + j < 96; omega) ho (by decide) (by decide) (fun _ => rfl) dX8_mark_117 ?_
                refine x_iconst (v := 1) ho dX8_mark_118 rfl ?_
                refine x_iret ho hr ?_ dX8_mark_119
                first | (have e0 : aMark σ (nI r) (nI j) v = (1, up2 σ (54 + 2 * r + 1) j v.toInt16.toInt32) := (by unfold aMark; rw [if_pos (isQ_n hr4), ix_n (n := r) (by omega), if_neg ne, if_pos c35, if_pos c108, if_neg c54, ix_n (n := j) (by omega)]); exact ⟨_, _, _, rfl, rfl, by rw [e0], by rw [e0]; exact hS.put hr4 hj (s16_ok v) rfl rfl rfl, fun q _ _ h3 => up2_n h3, rfl⟩) | exact absurd c48 c108 | exact absurd c108 c48 | (have e0 : aMark σ (nI r) (nI j) v = (1, up2 σ (54 + 2 * r + 1) j v) := (by unfold aMark; rw [if_pos (isQ_n hr4), ix_n (n := r) (by omega), if_neg ne, if_pos c35, if_neg c108, if_neg (by first | exact fun z => z.1 c73 | exact fun z => z.2.elim c86.1 (fun y => y (Int32.not_lt.mp c86.2)) | exact fun z => z.1 (Decidable.not_not.mp c73)), ix_n (n := j) (by omega)]); exact ⟨_, _, _, rfl, rfl, by rw [e0], by rw [e0]; exact hS.put hr4 hj (by first | exact Or.inl c73 | exact pl_ok (fun _ => c86) | exact Or.inl (Decidable.not_not.mp c73)) rfl rfl rfl, fun q _ _ h3 => up2_n h3, rfl⟩) | (exfalso; rcases ssrt with e | e | e <;> simp_all)
            · refine x_ild3 ho dX8_mark_76 ?_
              refine x_ldcw ho kc_X8_258 dX8_mark_77 ?_
              refine x_ldcw ho kc_X8_259 dX8_mark_80 ?_
              refine sMI3 ho cs_X8_82 (c_X8_in B _ _ _ _ _) ⟨rfl, rfl⟩ ⟨Nat.le_of_ble_eq_true rfl, Nat.le_of_ble_eq_true rfl⟩ (Nat.le_of_ble_eq_true rfl) dX8_mark_83 (fun r83 s83 t83 p83 => ?_)
              obtain ⟨rfl, rfl, rfl⟩ := p83
              refine x_if_ne 92 ho dX8_mark_86 (by decide) (fun c86 => ?_) (fun c86 => ?_)
              · have c86 := bI_n.mp c86
                refine x_ald0 ho dX8_mark_92 ?_
                refine r_X8_61 ho dX8_mark_93 ?_
                refine x_bipush (v := 24) ho dX8_mark_96 rfl ?_
                refine x_ild1 ho dX8_mark_98 ?_
                refine x_imul ho dX8_mark_99 ?_
                refine x_ild2 ho dX8_mark_100 ?_
                refine x_iadd ho dX8_mark_101 ?_
                refine x_ald0 ho dX8_mark_102 ?_
                refine r_X8_55 ho dX8_mark_103 ?_
                refine x_ild1 ho dX8_mark_106 ?_
                refine xm_ialdN (r) (rfl) 15 (by show r < 4; omega) ho (by decide) (fun _ => rfl) dX8_mark_107 ?_
                rw [s15]
                refine x_if_ne 116 ho dX8_mark_108 (by decide) (fun c108 => ?_) (fun c108 => ?_)
                · refine x_ild3 ho dX8_mark_116 ?_
                  refine xm_iastN (24 * r + j) (ix24 r j) 17 (by show 24 * r + j < 96; omega) ho (by decide) (by decide) (fun _ => rfl) dX8_mark_117 ?_
                  refine x_iconst (v := 1) ho dX8_mark_118 rfl ?_
                  refine x_iret ho hr ?_ dX8_mark_119
                  first | (have e0 : aMark σ (nI r) (nI j) v = (1, up2 σ (54 + 2 * r + 1) j v.toInt16.toInt32) := (by unfold aMark; rw [if_pos (isQ_n hr4), ix_n (n := r) (by omega), if_neg ne, if_pos c35, if_pos c108, if_neg c54, ix_n (n := j) (by omega)]); exact ⟨_, _, _, rfl, rfl, by rw [e0], by rw [e0]; exact hS.put hr4 hj (s16_ok v) rfl rfl rfl, fun q _ _ h3 => up2_n h3, rfl⟩) | exact absurd c48 c108 | exact absurd c108 c48 | (have e0 : aMark σ (nI r) (nI j) v = (1, up2 σ (54 + 2 * r + 1) j v) := (by unfold aMark; rw [if_pos (isQ_n hr4), ix_n (n := r) (by omega), if_neg ne, if_pos c35, if_neg c108, if_neg (by first | exact fun z => z.1 c73 | exact fun z => z.2.elim c86.1 (fun y => y (Int32.not_lt.mp c86.2)) | exact fun z => z.1 (Decidable.not_not.mp c73)), ix_n (n := j) (by omega)]); exact ⟨_, _, _, rfl, rfl, by rw [e0], by rw [e0]; exact hS.put hr4 hj (by first | exact Or.inl c73 | exact pl_ok (fun _ => c86) | exact Or.inl (Decidable.not_not.mp c73)) rfl rfl rfl, fun q _ _ h3 => up2_n h3, rfl⟩) | (exfalso; rcases ssrt with e | e | e <;> simp_all)
                · refine x_ild3 ho dX8_mark_111 ?_
                  refine x_i2s ho dX8_mark_112 ?_
                  refine x_goto 117 ho dX8_mark_113 (by decide) ?_
                  refine xm_iastN (24 * r + j) (ix24 r j) 17 (by show 24 * r + j < 96; omega) ho (by decide) (by decide) (fun _ => rfl) dX8_mark_117 ?_
                  refine x_iconst (v := 1) ho dX8_mark_118 rfl ?_
                  refine x_iret ho hr ?_ dX8_mark_119
                  first | (have e0 : aMark σ (nI r) (nI j) v = (1, up2 σ (54 + 2 * r + 1) j v.toInt16.toInt32) := (by unfold aMark; rw [if_pos (isQ_n hr4), ix_n (n := r) (by omega), if_neg ne, if_pos c35, if_pos c108, if_neg c54, ix_n (n := j) (by omega)]); exact ⟨_, _, _, rfl, rfl, by rw [e0], by rw [e0]; exact hS.put hr4 hj (s16_ok v) rfl rfl rfl, fun q _ _ h3 => up2_n h3, rfl⟩) | exact absurd c48 c108 | exact absurd c108 c48 | (have e0 : aMark σ (nI r) (nI j) v = (1, up2 σ (54 + 2 * r + 1) j v) := (by unfold aMark; rw [if_pos (isQ_n hr4), ix_n (n := r) (by omega), if_neg ne, if_pos c35, if_neg c108, if_neg (by first | exact fun z => z.1 c73 | exact fun z => z.2.elim c86.1 (fun y => y (Int32.not_lt.mp c86.2)) | exact fun z => z.1 (Decidable.not_not.mp c73)), ix_n (n := j) (by omega)]); exact ⟨_, _, _, rfl, rfl, by rw [e0], by rw [e0]; exact hS.put hr4 hj (by first | exact Or.inl c73 | exact pl_ok (fun _ => c86) | exact Or.inl (Decidable.not_not.mp c73)) rfl rfl rfl, fun q _ _ h3 => up2_n h3, rfl⟩) | (exfalso; rcases ssrt with e | e | e <;> simp_all)
              · have c86 := bI_0.mp c86
                refine x_ldc ho kc_X8_94 dX8_mark_89 ?_
                refine x_iret ho hr ?_ dX8_mark_91
                first | (exact ⟨_, _, _, rfl, rfl, by rw [show aMark σ (nI r) (nI j) v = (-1000000001, σ) from by unfold aMark; rw [if_pos (isQ_n hr4), ix_n (n := r) (by omega), if_neg ne, if_pos c35, if_neg c48, if_pos ⟨c73, Decidable.byContradiction (fun z => c86 ⟨fun y => z (Or.inl y), fun y => z (Or.inr (Int32.not_le.mpr y))⟩)⟩]], by rw [show aMark σ (nI r) (nI j) v = (-1000000001, σ) from by unfold aMark; rw [if_pos (isQ_n hr4), ix_n (n := r) (by omega), if_neg ne, if_pos c35, if_neg c48, if_pos ⟨c73, Decidable.byContradiction (fun z => c86 ⟨fun y => z (Or.inl y), fun y => z (Or.inr (Int32.not_le.mpr y))⟩)⟩]]; exact hS, fun _ _ _ _ => rfl, rfl⟩) | (exfalso; rw [c48] at c67; exact absurd c67 (by decide))
        · refine x_ild3 ho dX8_mark_51 ?_
          refine x_ldc ho kc_X8_150 dX8_mark_52 ?_
          refine x_icmp_ne 60 ho dX8_mark_54 (by decide) (fun c54 => ?_) (fun c54 => ?_)
          · refine x_ald0 ho dX8_mark_60 ?_
            refine r_X8_55 ho dX8_mark_61 ?_
            refine x_ild1 ho dX8_mark_64 ?_
            refine xm_ialdN (r) (rfl) 15 (by show r < 4; omega) ho (by decide) (fun _ => rfl) dX8_mark_65 ?_
            rw [s15]
            refine x_iconst (v := 1) ho dX8_mark_66 rfl ?_
            refine x_icmp_ne 92 ho dX8_mark_67 (by decide) (fun c67 => ?_) (fun c67 => ?_)
            · refine x_ald0 ho dX8_mark_92 ?_
              refine r_X8_61 ho dX8_mark_93 ?_
              refine x_bipush (v := 24) ho dX8_mark_96 rfl ?_
              refine x_ild1 ho dX8_mark_98 ?_
              refine x_imul ho dX8_mark_99 ?_
              refine x_ild2 ho dX8_mark_100 ?_
              refine x_iadd ho dX8_mark_101 ?_
              refine x_ald0 ho dX8_mark_102 ?_
              refine r_X8_55 ho dX8_mark_103 ?_
              refine x_ild1 ho dX8_mark_106 ?_
              refine xm_ialdN (r) (rfl) 15 (by show r < 4; omega) ho (by decide) (fun _ => rfl) dX8_mark_107 ?_
              rw [s15]
              refine x_if_ne 116 ho dX8_mark_108 (by decide) (fun c108 => ?_) (fun c108 => ?_)
              · refine x_ild3 ho dX8_mark_116 ?_
                refine xm_iastN (24 * r + j) (ix24 r j) 17 (by show 24 * r + j < 96; omega) ho (by decide) (by decide) (fun _ => rfl) dX8_mark_117 ?_
                refine x_iconst (v := 1) ho dX8_mark_118 rfl ?_
                refine x_iret ho hr ?_ dX8_mark_119
                first | (have e0 : aMark σ (nI r) (nI j) v = (1, up2 σ (54 + 2 * r + 1) j v.toInt16.toInt32) := (by unfold aMark; rw [if_pos (isQ_n hr4), ix_n (n := r) (by omega), if_neg ne, if_pos c35, if_pos c108, if_neg c54, ix_n (n := j) (by omega)]); exact ⟨_, _, _, rfl, rfl, by rw [e0], by rw [e0]; exact hS.put hr4 hj (s16_ok v) rfl rfl rfl, fun q _ _ h3 => up2_n h3, rfl⟩) | exact absurd c48 c108 | exact absurd c108 c48 | (have e0 : aMark σ (nI r) (nI j) v = (1, up2 σ (54 + 2 * r + 1) j v) := (by unfold aMark; rw [if_pos (isQ_n hr4), ix_n (n := r) (by omega), if_neg ne, if_pos c35, if_neg c108, if_neg (by first | exact fun z => z.1 c73 | exact fun z => z.2.elim c86.1 (fun y => y (Int32.not_lt.mp c86.2)) | exact fun z => z.1 (Decidable.not_not.mp c73)), ix_n (n := j) (by omega)]); exact ⟨_, _, _, rfl, rfl, by rw [e0], by rw [e0]; exact hS.put hr4 hj (by first | exact Or.inl c73 | exact pl_ok (fun _ => c86) | exact Or.inl (Decidable.not_not.mp c73)) rfl rfl rfl, fun q _ _ h3 => up2_n h3, rfl⟩) | (exfalso; rcases ssrt with e | e | e <;> simp_all)
              · refine x_ild3 ho dX8_mark_111 ?_
                refine x_i2s ho dX8_mark_112 ?_
                refine x_goto 117 ho dX8_mark_113 (by decide) ?_
                refine xm_iastN (24 * r + j) (ix24 r j) 17 (by show 24 * r + j < 96; omega) ho (by decide) (by decide) (fun _ => rfl) dX8_mark_117 ?_
                refine x_iconst (v := 1) ho dX8_mark_118 rfl ?_
                refine x_iret ho hr ?_ dX8_mark_119
                first | (have e0 : aMark σ (nI r) (nI j) v = (1, up2 σ (54 + 2 * r + 1) j v.toInt16.toInt32) := (by unfold aMark; rw [if_pos (isQ_n hr4), ix_n (n := r) (by omega), if_neg ne, if_pos c35, if_pos c108, if_neg c54, ix_n (n := j) (by omega)]); exact ⟨_, _, _, rfl, rfl, by rw [e0], by rw [e0]; exact hS.put hr4 hj (s16_ok v) rfl rfl rfl, fun q _ _ h3 => up2_n h3, rfl⟩) | exact absurd c48 c108 | exact absurd c108 c48 | (have e0 : aMark σ (nI r) (nI j) v = (1, up2 σ (54 + 2 * r + 1) j v) := (by unfold aMark; rw [if_pos (isQ_n hr4), ix_n (n := r) (by omega), if_neg ne, if_pos c35, if_neg c108, if_neg (by first | exact fun z => z.1 c73 | exact fun z => z.2.elim c86.1 (fun y => y (Int32.not_lt.mp c86.2)) | exact fun z => z.1 (Decidable.not_not.mp c73)), ix_n (n := j) (by omega)]); exact ⟨_, _, _, rfl, rfl, by rw [e0], by rw [e0]; exact hS.put hr4 hj (by first | exact Or.inl c73 | exact pl_ok (fun _ => c86) | exact Or.inl (Decidable.not_not.mp c73)) rfl rfl rfl, fun q _ _ h3 => up2_n h3, rfl⟩) | (exfalso; rcases ssrt with e | e | e <;> simp_all)
            · refine x_ild3 ho dX8_mark_70 ?_
              refine x_ldc ho kc_X8_150 dX8_mark_71 ?_
              refine x_icmp_eq 92 ho dX8_mark_73 (by decide) (fun c73 => ?_) (fun c73 => ?_)
              · refine x_ald0 ho dX8_mark_92 ?_
                refine r_X8_61 ho dX8_mark_93 ?_
                refine x_bipush (v := 24) ho dX8_mark_96 rfl ?_
                refine x_ild1 ho dX8_mark_98 ?_
                refine x_imul ho dX8_mark_99 ?_
                refine x_ild2 ho dX8_mark_100 ?_
                refine x_iadd ho dX8_mark_101 ?_
                refine x_ald0 ho dX8_mark_102 ?_
                refine r_X8_55 ho dX8_mark_103 ?_
                refine x_ild1 ho dX8_mark_106 ?_
                refine xm_ialdN (r) (rfl) 15 (by show r < 4; omega) ho (by decide) (fun _ => rfl) dX8_mark_107 ?_
                rw [s15]
                refine x_if_ne 116 ho dX8_mark_108 (by decide) (fun c108 => ?_) (fun c108 => ?_)
                · refine x_ild3 ho dX8_mark_116 ?_
                  refine xm_iastN (24 * r + j) (ix24 r j) 17 (by show 24 * r + j < 96; omega) ho (by decide) (by decide) (fun _ => rfl) dX8_mark_117 ?_
                  refine x_iconst (v := 1) ho dX8_mark_118 rfl ?_
                  refine x_iret ho hr ?_ dX8_mark_119
                  first | (have e0 : aMark σ (nI r) (nI j) v = (1, up2 σ (54 + 2 * r + 1) j v.toInt16.toInt32) := (by unfold aMark; rw [if_pos (isQ_n hr4), ix_n (n := r) (by omega), if_neg ne, if_pos c35, if_pos c108, if_neg c54, ix_n (n := j) (by omega)]); exact ⟨_, _, _, rfl, rfl, by rw [e0], by rw [e0]; exact hS.put hr4 hj (s16_ok v) rfl rfl rfl, fun q _ _ h3 => up2_n h3, rfl⟩) | exact absurd c48 c108 | exact absurd c108 c48 | (have e0 : aMark σ (nI r) (nI j) v = (1, up2 σ (54 + 2 * r + 1) j v) := (by unfold aMark; rw [if_pos (isQ_n hr4), ix_n (n := r) (by omega), if_neg ne, if_pos c35, if_neg c108, if_neg (by first | exact fun z => z.1 c73 | exact fun z => z.2.elim c86.1 (fun y => y (Int32.not_lt.mp c86.2)) | exact fun z => z.1 (Decidable.not_not.mp c73)), ix_n (n := j) (by omega)]); exact ⟨_, _, _, rfl, rfl, by rw [e0], by rw [e0]; exact hS.put hr4 hj (by first | exact Or.inl c73 | exact pl_ok (fun _ => c86) | exact Or.inl (Decidable.not_not.mp c73)) rfl rfl rfl, fun q _ _ h3 => up2_n h3, rfl⟩) | (exfalso; rcases ssrt with e | e | e <;> simp_all)
                · refine x_ild3 ho dX8_mark_111 ?_
                  refine x_i2s ho dX8_mark_112 ?_
                  refine x_goto 117 ho dX8_mark_113 (by decide) ?_
                  refine xm_iastN (24 * r + j) (ix24 r j) 17 (by show 24 * r + j < 96; omega) ho (by decide) (by decide) (fun _ => rfl) dX8_mark_117 ?_
                  refine x_iconst (v := 1) ho dX8_mark_118 rfl ?_
                  refine x_iret ho hr ?_ dX8_mark_119
                  first | (have e0 : aMark σ (nI r) (nI j) v = (1, up2 σ (54 + 2 * r + 1) j v.toInt16.toInt32) := (by unfold aMark; rw [if_pos (isQ_n hr4), ix_n (n := r) (by omega), if_neg ne, if_pos c35, if_pos c108, if_neg c54, ix_n (n := j) (by omega)]); exact ⟨_, _, _, rfl, rfl, by rw [e0], by rw [e0]; exact hS.put hr4 hj (s16_ok v) rfl rfl rfl, fun q _ _ h3 => up2_n h3, rfl⟩) | exact absurd c48 c108 | exact absurd c108 c48 | (have e0 : aMark σ (nI r) (nI j) v = (1, up2 σ (54 + 2 * r + 1) j v) := (by unfold aMark; rw [if_pos (isQ_n hr4), ix_n (n := r) (by omega), if_neg ne, if_pos c35, if_neg c108, if_neg (by first | exact fun z => z.1 c73 | exact fun z => z.2.elim c86.1 (fun y => y (Int32.not_lt.mp c86.2)) | exact fun z => z.1 (Decidable.not_not.mp c73)), ix_n (n := j) (by omega)]); exact ⟨_, _, _, rfl, rfl, by rw [e0], by rw [e0]; exact hS.put hr4 hj (by first | exact Or.inl c73 | exact pl_ok (fun _ => c86) | exact Or.inl (Decidable.not_not.mp c73)) rfl rfl rfl, fun q _ _ h3 => up2_n h3, rfl⟩) | (exfalso; rcases ssrt with e | e | e <;> simp_all)
              · refine x_ild3 ho dX8_mark_76 ?_
                refine x_ldcw ho kc_X8_258 dX8_mark_77 ?_
                refine x_ldcw ho kc_X8_259 dX8_mark_80 ?_
                refine sMI3 ho cs_X8_82 (c_X8_in B _ _ _ _ _) ⟨rfl, rfl⟩ ⟨Nat.le_of_ble_eq_true rfl, Nat.le_of_ble_eq_true rfl⟩ (Nat.le_of_ble_eq_true rfl) dX8_mark_83 (fun r83 s83 t83 p83 => ?_)
                obtain ⟨rfl, rfl, rfl⟩ := p83
                refine x_if_ne 92 ho dX8_mark_86 (by decide) (fun c86 => ?_) (fun c86 => ?_)
                · have c86 := bI_n.mp c86
                  refine x_ald0 ho dX8_mark_92 ?_
                  refine r_X8_61 ho dX8_mark_93 ?_
                  refine x_bipush (v := 24) ho dX8_mark_96 rfl ?_
                  refine x_ild1 ho dX8_mark_98 ?_
                  refine x_imul ho dX8_mark_99 ?_
                  refine x_ild2 ho dX8_mark_100 ?_
                  refine x_iadd ho dX8_mark_101 ?_
                  refine x_ald0 ho dX8_mark_102 ?_
                  refine r_X8_55 ho dX8_mark_103 ?_
                  refine x_ild1 ho dX8_mark_106 ?_
                  refine xm_ialdN (r) (rfl) 15 (by show r < 4; omega) ho (by decide) (fun _ => rfl) dX8_mark_107 ?_
                  rw [s15]
                  refine x_if_ne 116 ho dX8_mark_108 (by decide) (fun c108 => ?_) (fun c108 => ?_)
                  · refine x_ild3 ho dX8_mark_116 ?_
                    refine xm_iastN (24 * r + j) (ix24 r j) 17 (by show 24 * r + j < 96; omega) ho (by decide) (by decide) (fun _ => rfl) dX8_mark_117 ?_
                    refine x_iconst (v := 1) ho dX8_mark_118 rfl ?_
                    refine x_iret ho hr ?_ dX8_mark_119
                    first | (have e0 : aMark σ (nI r) (nI j) v = (1, up2 σ (54 + 2 * r + 1) j v.toInt16.toInt32) := (by unfold aMark; rw [if_pos (isQ_n hr4), ix_n (n := r) (by omega), if_neg ne, if_pos c35, if_pos c108, if_neg c54, ix_n (n := j) (by omega)]); exact ⟨_, _, _, rfl, rfl, by rw [e0], by rw [e0]; exact hS.put hr4 hj (s16_ok v) rfl rfl rfl, fun q _ _ h3 => up2_n h3, rfl⟩) | exact absurd c48 c108 | exact absurd c108 c48 | (have e0 : aMark σ (nI r) (nI j) v = (1, up2 σ (54 + 2 * r + 1) j v) := (by unfold aMark; rw [if_pos (isQ_n hr4), ix_n (n := r) (by omega), if_neg ne, if_pos c35, if_neg c108, if_neg (by first | exact fun z => z.1 c73 | exact fun z => z.2.elim c86.1 (fun y => y (Int32.not_lt.mp c86.2)) | exact fun z => z.1 (Decidable.not_not.mp c73)), ix_n (n := j) (by omega)]); exact ⟨_, _, _, rfl, rfl, by rw [e0], by rw [e0]; exact hS.put hr4 hj (by first | exact Or.inl c73 | exact pl_ok (fun _ => c86) | exact Or.inl (Decidable.not_not.mp c73)) rfl rfl rfl, fun q _ _ h3 => up2_n h3, rfl⟩) | (exfalso; rcases ssrt with e | e | e <;> simp_all)
                  · refine x_ild3 ho dX8_mark_111 ?_
                    refine x_i2s ho dX8_mark_112 ?_
                    refine x_goto 117 ho dX8_mark_113 (by decide) ?_
                    refine xm_iastN (24 * r + j) (ix24 r j) 17 (by show 24 * r + j < 96; omega) ho (by decide) (by decide) (fun _ => rfl) dX8_mark_117 ?_
                    refine x_iconst (v := 1) ho dX8_mark_118 rfl ?_
                    refine x_iret ho hr ?_ dX8_mark_119
                    first | (have e0 : aMark σ (nI r) (nI j) v = (1, up2 σ (54 + 2 * r + 1) j v.toInt16.toInt32) := (by unfold aMark; rw [if_pos (isQ_n hr4), ix_n (n := r) (by omega), if_neg ne, if_pos c35, if_pos c108, if_neg c54, ix_n (n := j) (by omega)]); exact ⟨_, _, _, rfl, rfl, by rw [e0], by rw [e0]; exact hS.put hr4 hj (s16_ok v) rfl rfl rfl, fun q _ _ h3 => up2_n h3, rfl⟩) | exact absurd c48 c108 | exact absurd c108 c48 | (have e0 : aMark σ (nI r) (nI j) v = (1, up2 σ (54 + 2 * r + 1) j v) := (by unfold aMark; rw [if_pos (isQ_n hr4), ix_n (n := r) (by omega), if_neg ne, if_pos c35, if_neg c108, if_neg (by first | exact fun z => z.1 c73 | exact fun z => z.2.elim c86.1 (fun y => y (Int32.not_lt.mp c86.2)) | exact fun z => z.1 (Decidable.not_not.mp c73)), ix_n (n := j) (by omega)]); exact ⟨_, _, _, rfl, rfl, by rw [e0], by rw [e0]; exact hS.put hr4 hj (by first | exact Or.inl c73 | exact pl_ok (fun _ => c86) | exact Or.inl (Decidable.not_not.mp c73)) rfl rfl rfl, fun q _ _ h3 => up2_n h3, rfl⟩) | (exfalso; rcases ssrt with e | e | e <;> simp_all)
                · have c86 := bI_0.mp c86
                  refine x_ldc ho kc_X8_94 dX8_mark_89 ?_
                  refine x_iret ho hr ?_ dX8_mark_91
                  first | (exact ⟨_, _, _, rfl, rfl, by rw [show aMark σ (nI r) (nI j) v = (-1000000001, σ) from by unfold aMark; rw [if_pos (isQ_n hr4), ix_n (n := r) (by omega), if_neg ne, if_pos c35, if_neg c48, if_pos ⟨c73, Decidable.byContradiction (fun z => c86 ⟨fun y => z (Or.inl y), fun y => z (Or.inr (Int32.not_le.mpr y))⟩)⟩]], by rw [show aMark σ (nI r) (nI j) v = (-1000000001, σ) from by unfold aMark; rw [if_pos (isQ_n hr4), ix_n (n := r) (by omega), if_neg ne, if_pos c35, if_neg c48, if_pos ⟨c73, Decidable.byContradiction (fun z => c86 ⟨fun y => z (Or.inl y), fun y => z (Or.inr (Int32.not_le.mpr y))⟩)⟩]]; exact hS, fun _ _ _ _ => rfl, rfl⟩) | (exfalso; rw [c48] at c67; exact absurd c67 (by decide))
          · refine x_ldc ho kc_X8_137 dX8_mark_57 ?_
            refine x_iret ho hr ?_ dX8_mark_59
            exact ⟨_, _, _, rfl, rfl, by rw [show aMark σ (nI r) (nI j) v = (-1000000012, σ) from by unfold aMark; rw [if_pos (isQ_n hr4), ix_n (n := r) (by omega), if_neg ne, if_pos c35, if_pos c48, if_pos c54]], by rw [show aMark σ (nI r) (nI j) v = (-1000000012, σ) from by unfold aMark; rw [if_pos (isQ_n hr4), ix_n (n := r) (by omega), if_neg ne, if_pos c35, if_pos c48, if_pos c54]]; exact hS, fun _ _ _ _ => rfl, rfl⟩
      · have c35 := bI_0.mp c35
        refine x_ldcw ho kc_X8_257 dX8_mark_38 ?_
        refine x_iret ho hr ?_ dX8_mark_41
        exact ⟨_, _, _, rfl, rfl, by rw [show aMark σ (nI r) p v = (-1000000013, σ) from by unfold aMark; rw [if_pos (isQ_n hr4), ix_n (n := r) (by omega), if_neg ne, if_neg c35]], by rw [show aMark σ (nI r) p v = (-1000000013, σ) from by unfold aMark; rw [if_pos (isQ_n hr4), ix_n (n := r) (by omega), if_neg ne, if_neg c35]]; exact hS, fun _ _ _ _ => rfl, rfl⟩
    · have ee : σ (54 + 2 * r) 0 = -1 := by
        rcases ssrt with e | e | e
        · exact e
        · rw [e] at c16; exact absurd (by decide) c16
        · rw [e] at c16; exact absurd (by decide) c16
      refine x_ldc ho kc_X8_187 dX8_mark_19 ?_
      refine x_iret ho hr ?_ dX8_mark_21
      exact ⟨_, _, _, rfl, rfl, by rw [show aMark σ (nI r) p v = (-1000000011, σ) from by unfold aMark; rw [if_pos (isQ_n hr4), ix_n (n := r) (by omega), if_pos ee]], by rw [show aMark σ (nI r) p v = (-1000000011, σ) from by unfold aMark; rw [if_pos (isQ_n hr4), ix_n (n := r) (by omega), if_pos ee]]; exact hS, fun _ _ _ _ => rfl, rfl⟩
  · have c4 := bI_0.mp c4
    refine x_ldc ho kc_X8_94 dX8_mark_7 ?_
    refine x_iret ho hr ?_ dX8_mark_9
    exact ⟨_, _, _, rfl, rfl, by rw [show aMark σ x p v = (-1000000001, σ) from if_neg c4], by rw [show aMark σ x p v = (-1000000001, σ) from if_neg c4]; exact hS, fun _ _ _ _ => rfl, rfl⟩
