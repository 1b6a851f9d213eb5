/-! danced, hour by hour -/
theorem sumF_upd {f : Nat → Int32} {d : Nat} {x : Int32} : ∀ {n : Nat}, sumF (upd f d (f d + x)) n = if d < n then sumF f n + x else sumF f n
  | 0 => rfl
  | n + 1 => by
    show sumF (upd f d (f d + x)) n + upd f d (f d + x) n = if d < n + 1 then sumF f n + f n + x else sumF f n + f n
    rw [sumF_upd]
    by_cases h : d < n
    · rw [if_pos h, if_pos (by omega), upd_n (by omega), Int32.add_assoc, Int32.add_assoc, Int32.add_comm x]
    · rw [if_neg h]
      by_cases h2 : d = n
      · subst h2
        rw [if_pos (by omega), upd_s, Int32.add_assoc]
      · rw [if_neg (by omega), upd_n (fun q => h2 q.symm)]
theorem sStep_5 {g : WT} {h : HT} {d : Nat} : sStep g h d 5 = upd (h 5) d (h 5 d + 1) := by
  unfold sStep sSt2 sSt1
  rw [up2_n (by decide), up2_n (by decide), up2_s, up2_n (by decide)]
theorem sWk_5 {g : WT} {d : Nat} : ∀ (n : Nat) (h : HT), sWk g d n h 5 = upd (h 5) d (h 5 d + nI (sWc g d n h))
  | 0, h => by
    show h 5 = upd (h 5) d (h 5 d + nI 0)
    rw [show nI 0 = 0 from rfl, Int32.add_zero]
    funext j
    unfold upd
    by_cases e : j = d
    · rw [if_pos e, e]
    · rw [if_neg e]
  | n + 1, h => by
    by_cases q : 0 < h 3 d
    · rw [show sWk g d (n + 1) h = sWk g d n (sStep g h d) from if_pos q, show sWc g d (n + 1) h = sWc g d n (sStep g h d) + 1 from if_pos q, sWk_5 n, sStep_5, upd_s, ← nI_1, Int32.add_assoc, Int32.add_comm 1]
      funext j
      unfold upd
      by_cases e : j = d
      · rw [if_pos e, if_pos e]
      · rw [if_neg e, if_neg e, if_neg e]
    · rw [show sWk g d (n + 1) h = h from if_neg q, show sWc g d (n + 1) h = 0 from if_neg q, show nI 0 = 0 from rfl, Int32.add_zero]
      funext j
      unfold upd
      by_cases e : j = d
      · rw [if_pos e, e]
      · rw [if_neg e]
theorem sDs_5 {g : WT} {h : HT} {n : Nat} : ∀ k, k ≤ n → sumF (sDs g h k 5) n = sumF (h 5) n + sGs g h k
  | 0, _ => by
    show sumF (h 5) n = sumF (h 5) n + 0
    rw [Int32.add_zero]
  | k + 1, hk => by
    show sumF (sWk g k _ (sDs g h k) 5) n = sumF (h 5) n + (sGs g h k + nI (sGone g (sDs g h k) k))
    rw [sWk_5, sumF_upd, if_pos (by omega), sDs_5 k (by omega), Int32.add_assoc]
    rfl
theorem sLook_f5 {h : HT} : sLook h 5 = h 5 := sLook_f (by decide)
theorem sHour_5 {g : WT} {h : HT} {n : Nat} (hn : sN h ≤ n) : sumF (sHour g h 5) n = sumF (h 5) n + sGs g h (sN h) := by
  rw [show sHour g h 5 = sDs g h (sN h) 5 by unfold sHour; rw [up2_n (by decide), sLook_f5], sDs_5 _ hn]
theorem sHours_5 {g : WT} {h : HT} : ∀ k, sSum (sHours g h k) 5 = sSum h 5 + sGoneH g h k
  | 0 => by
    show sSum h 5 = sSum h 5 + 0
    rw [Int32.add_zero]
  | k + 1 => by
    have ih := sHours_5 (g := g) (h := h) k
    unfold sSum at ih ⊢
    rw [sHours_N] at ih ⊢
    show sumF (sHour g (sHours g h k) 5) (sN h) = _
    rw [sHour_5 (by rw [sHours_N]; exact Nat.le_refl _), ih, Int32.add_assoc]
    rfl
theorem gone_e {g : WT} {h : HT} {k : Nat} : sSum (sHours g h k) 5 - sSum h 5 = sGoneH g h k := by
  rw [sHours_5, Int32.add_comm, Int32.add_sub_cancel]
theorem jwi_min {a b : Nat} (ha : a < 2 ^ 31) (hb : b < 2 ^ 31) : jwi (nI a) 0 (nI b) = nI (min b a) := by
  unfold jwi
  rw [if_neg (nI_n0 a ha)]
  by_cases h : nI b < nI a
  · rw [if_pos h, Nat.min_eq_left (by have := n_lt hb ha h; omega)]
  · rw [if_neg h, Nat.min_eq_right (by have := n_nlt hb ha h; omega)]
section W29
variable (B : BT) (μ : ST) (δ : Nat → Int64) (stk fc : Nat → Int32) (h : HT) (T : Nat → Int32)
theorem w_sumOf (hi : HI h) (w : Nat) (hw : w < 5) : MI B yX8_sumOf cX8_sumOf 4 (some .int) ({ frames := 1, cells := 0, slots := 0, locals := 22 }) [.ref (aB B 0), .int (nI w)] (MW μ stk fc h T) δ (fun r μ' δ' => r = sSum h (w + 1) ∧ μ' = MW μ stk fc h T ∧ δ' = δ) := c_X8_sumOf B _ δ h T hi w hw
theorem w_bare (hi : HI h) : MI B yX8_bare cX8_bare 3 (some .int) ({ frames := 1, cells := 0, slots := 0, locals := 22 }) [.ref (aB B 0)] (MW μ stk fc h T) δ (fun r μ' δ' => r = sBare h ∧ μ' = MW μ stk fc h T ∧ δ' = δ) := c_X8_bare B _ δ h T hi
theorem w_marks : MI B yX8_marks cX8_marks 3 (some .int) ({ frames := 0, cells := 0, slots := 0, locals := 0 }) [.ref (aB B 0)] (MW μ stk fc h T) δ (fun r μ' δ' => r = sMarks h ∧ μ' = MW μ stk fc h T ∧ δ' = δ) := c_X8_marks B _ δ h T
end W29
set_option maxRecDepth 100000 in
set_option maxHeartbeats 4000000 in
theorem c_X8_hours (B : BT) (μ : Nat → Nat → Int32) (δ : Nat → Int64) (h : HT) (T : Nat → Int32) (hi : HI h) (σ : ST) (hTR : TR σ h T) (H : Nat) (hH : h 0 12 = nI H) (hH9 : H ≤ 9999) (n : Int32) : MI B yX8_hours cX8_hours 3 (some .int) ({ frames := 6, cells := 0, slots := 0, locals := 139 }) [.ref (aB B 0), .int n] (up1 μ 1 (en h T)) δ (fun r μ' δ' => r = (aHours (gC σ (h 9 0)) h n).1 ∧ ∃ μ2, Jm μ μ2 ∧ μ' = up1 μ2 1 (en (aHours (gC σ (h 9 0)) h n).2 T) ∧ δ' = δ) := by
  refine MX.of2 RX8 (by decide) rfl ⟨rfl, rfl⟩ (Nat.le_of_ble_eq_true rfl) (by rfl) (fun k ho hr hk => ?_)
  show XM B k (up1 μ 1 (en h T)) δ 0 [some (.ref (aB B 0)), some (.int n), none] []
  refine x_ild1 ho dX8_hours_0 ?_
  refine x_iconst (v := 1) ho dX8_hours_1 rfl ?_
  refine x_bipush (v := 100) ho dX8_hours_2 rfl ?_
  refine sMI3 ho cs_X8_82 (c_X8_in B _ _ _ _ _) ⟨rfl, rfl⟩ ⟨Nat.le_of_ble_eq_true rfl, Nat.le_of_ble_eq_true rfl⟩ (Nat.le_of_ble_eq_true rfl) dX8_hours_4 (fun r4 s4 t4 p4 => ?_)
  obtain ⟨rfl, rfl, rfl⟩ := p4
  rw [mle]
  refine x_if_ne 13 ho dX8_hours_7 (by decide) (fun c7 => ?_) (fun c7 => ?_)
  · have c7 := bI_n.mp c7
    obtain ⟨m, hm, rfl⟩ := nI_of (x := n) (fun z => c7.1 (Int32.lt_trans z (by decide)))
    have c7m := n_le (b := 100) hm (by decide) c7.2
    have em : aHoursN h (nI m) = min m (9999 - H) := by unfold aHoursN; rw [ix_n hm, hH, ix_n (by omega)]
    rw [MW_0]
    refine x_ald0 ho dX8_hours_13 ?_
    refine x_iconst (v := 4) ho dX8_hours_14 rfl ?_
    refine vMI1 ho cs_X8_166 (w_sumOf B _ _ _ _ _ _ hi 4 (by decide)) rfl ⟨rfl, rfl⟩ ⟨Nat.le_of_ble_eq_true rfl, Nat.le_of_ble_eq_true rfl⟩ (Nat.le_of_ble_eq_true rfl) dX8_hours_15 (fun r15 s15 t15 p15 => ?_)
    obtain ⟨rfl, rfl, rfl⟩ := p15
    refine x_ist2 ho dX8_hours_18 (by rw [hk]; decide) rfl ?_
    refine x_ald0 ho dX8_hours_19 ?_
    refine x_sipush (v := 9999) ho dX8_hours_20 rfl ?_
    refine x_ald0 ho dX8_hours_23 ?_
    refine r_X8_9 ho dX8_hours_24 ?_
    refine x_iconst (v := 2) ho dX8_hours_27 rfl ?_
    refine m_ldW (2) (rfl) (by omega) ho dX8_hours_28 ?_
    change XM B k _ _ _ _ (.int (h 0 12) :: _)
    rw [hH]
    refine x_isub ho dX8_hours_29 ?_
    refine x_iconst (v := 0) ho dX8_hours_30 rfl ?_
    refine x_ild1 ho dX8_hours_31 ?_
    refine sMI3 ho cs_X8_111 (c_X8_within B _ _ _ _ _) ⟨rfl, rfl⟩ ⟨Nat.le_of_ble_eq_true rfl, Nat.le_of_ble_eq_true rfl⟩ (Nat.le_of_ble_eq_true rfl) dX8_hours_32 (fun r32 s32 t32 p32 => ?_)
    obtain ⟨rfl, rfl, rfl⟩ := p32
    rw [show (9999 : Int32) = nI 9999 from rfl, sub_nI hH9, jwi_min (by omega) (by omega), ← em]
    refine vMV1 ho cs_X8_169 (c_X8_goesOn B _ _ _ _ _ _ σ hTR hi _ (by omega)) rfl ⟨rfl, rfl⟩ ⟨Nat.le_of_ble_eq_true rfl, Nat.le_of_ble_eq_true rfl⟩ (Nat.le_of_ble_eq_true rfl) dX8_hours_35 (fun s35 t35 p35 => ?_)
    obtain ⟨stk, fc, rfl, rfl⟩ := p35
    refine x_ald0 ho dX8_hours_38 ?_
    refine x_iconst (v := 4) ho dX8_hours_39 rfl ?_
    refine vMI1 ho cs_X8_166 (w_sumOf B _ _ _ _ (sHours (gC σ (h 9 0)) h (aHoursN h (nI m))) _ (hi.hours gC_GR _) 4 (by decide)) rfl ⟨rfl, rfl⟩ ⟨Nat.le_of_ble_eq_true rfl, Nat.le_of_ble_eq_true rfl⟩ (Nat.le_of_ble_eq_true rfl) dX8_hours_40 (fun r40 s40 t40 p40 => ?_)
    obtain ⟨rfl, rfl, rfl⟩ := p40
    refine x_ild2 ho dX8_hours_43 ?_
    refine x_isub ho dX8_hours_44 ?_
    refine x_iret ho hr ?_ dX8_hours_45
    obtain ⟨μ2, j1, j2⟩ := MW_J (μ := μ) (stk := stk) (fc := fc) (h := (sHours (gC σ (h 9 0)) h (aHoursN h (nI m)))) (T := T)
    refine ⟨_, _, _, rfl, rfl, ?_, μ2, j1, ?_, rfl⟩
    · unfold aHours
      rw [if_pos c7]
      exact gone_e
    · unfold aHours
      rw [if_pos c7]
      exact j2
  · have c7 := bI_0.mp c7
    refine x_ldc ho kc_X8_94 dX8_hours_10 ?_
    refine x_iret ho hr ?_ dX8_hours_12
    exact ⟨_, _, _, rfl, rfl, by unfold aHours; rw [if_neg c7], μ, Jm.rf, by unfold aHours; rw [if_neg c7], rfl⟩
