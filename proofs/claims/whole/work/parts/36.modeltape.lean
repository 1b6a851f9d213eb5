def bt (x : Int32) (i : Nat) : Bool := x.toBitVec.getLsbD i
theorem b_ext {x y : Int32} (h : ∀ i, i < 32 → bt x i = bt y i) : x = y := Int32.toBitVec_inj.mp (BitVec.eq_of_getLsbD_eq (fun i hi => h i hi))
theorem b_or (x y : Int32) (i : Nat) : bt (x ||| y) i = (bt x i || bt y i) := by unfold bt; rw [Int32.toBitVec_or, BitVec.getLsbD_or]
theorem b_and (x y : Int32) (i : Nat) : bt (x &&& y) i = (bt x i && bt y i) := by unfold bt; rw [Int32.toBitVec_and, BitVec.getLsbD_and]
theorem b_xor (x y : Int32) (i : Nat) : bt (x ^^^ y) i = (bt x i ^^ bt y i) := by unfold bt; rw [Int32.toBitVec_xor, BitVec.getLsbD_xor]
theorem b_big {x : Int32} {i : Nat} (h : 32 ≤ i) : bt x i = false := BitVec.getLsbD_of_ge _ _ h
theorem b_255 (i : Nat) : bt 255 i = decide (i < 8) := by
  rcases Nat.lt_or_ge i 32 with h | h
  · exact (by decide +kernel : ∀ i, i < 32 → bt 255 i = decide (i < 8)) i h
  · rw [b_big h, decide_eq_false (by omega)]
theorem b_65535 (i : Nat) : bt 65535 i = decide (i < 16) := by
  rcases Nat.lt_or_ge i 32 with h | h
  · exact (by decide +kernel : ∀ i, i < 32 → bt 65535 i = decide (i < 16)) i h
  · rw [b_big h, decide_eq_false (by omega)]
theorem b_m1 : ∀ i, i < 32 → bt (-1) i = true := by decide +kernel
theorem b_0 (i : Nat) : bt 0 i = false := BitVec.getLsbD_zero
theorem s_l : ∀ n, n < 32 → ((nI n &&& 31).toBitVec.smod 32).toNat = n := by decide +kernel
theorem s_u : ∀ n, n < 32 → (((nI n).toUInt32 &&& Int32.toUInt32 31).toBitVec % 32).toNat = n := by decide +kernel
theorem b_shl (n : Nat) (hn : n < 32) (x : Int32) {i : Nat} (hi : i < 32) : bt (x <<< (nI n &&& 31)) i = (decide (n ≤ i) && bt x (i - n)) := by
  unfold bt
  rw [Int32.toBitVec_shiftLeft]
  show (x.toBitVec <<< ((nI n &&& 31).toBitVec.smod 32).toNat).getLsbD i = _
  rw [s_l n hn, BitVec.getLsbD_shiftLeft]
  rcases Nat.lt_or_ge i n with h | h
  · simp [h, Nat.not_le.mpr h]
  · simp [hi, h, Nat.not_lt.mpr h]
theorem b_ushr (n : Nat) (hn : n < 32) (x : Int32) (i : Nat) : bt ((x.toUInt32 >>> ((nI n).toUInt32 &&& Int32.toUInt32 31)).toInt32) i = bt x (n + i) := by
  show (x.toUInt32 >>> ((nI n).toUInt32 &&& Int32.toUInt32 31)).toBitVec.getLsbD i = x.toUInt32.toBitVec.getLsbD (n + i)
  rw [UInt32.toBitVec_shiftRight]
  show (x.toUInt32.toBitVec >>> (((nI n).toUInt32 &&& Int32.toUInt32 31).toBitVec % 32).toNat).getLsbD i = _
  rw [s_u n hn, BitVec.getLsbD_ushiftRight]
theorem b_sshr (n : Nat) (hn : n < 32) (x : Int32) {i : Nat} (hi : i < 32) : bt (x >>> (nI n &&& 31)) i = if n + i < 32 then bt x (n + i) else bt x 31 := by
  unfold bt
  rw [Int32.toBitVec_shiftRight]
  show (x.toBitVec.sshiftRight ((nI n &&& 31).toBitVec.smod 32).toNat).getLsbD i = _
  rw [s_l n hn, BitVec.getLsbD_sshiftRight, BitVec.msb_eq_getLsbD_last]
  simp [hi]
theorem b_shl8 (x : Int32) {i : Nat} (hi : i < 32) : bt (x <<< ((8 : Int32) &&& 31)) i = (decide (8 ≤ i) && bt x (i - 8)) := b_shl 8 (by omega) x hi
theorem b_shl16 (x : Int32) {i : Nat} (hi : i < 32) : bt (x <<< ((16 : Int32) &&& 31)) i = (decide (16 ≤ i) && bt x (i - 16)) := b_shl 16 (by omega) x hi
theorem b_shl24 (x : Int32) {i : Nat} (hi : i < 32) : bt (x <<< ((24 : Int32) &&& 31)) i = (decide (24 ≤ i) && bt x (i - 24)) := b_shl 24 (by omega) x hi
theorem b_sshr8 (x : Int32) {i : Nat} (hi : i < 32) : bt (x >>> ((8 : Int32) &&& 31)) i = if 8 + i < 32 then bt x (8 + i) else bt x 31 := b_sshr 8 (by omega) x hi

/-! tell, keep, back, feed, trim -/
theorem cpy00 {f g : Nat → Int32} {n j : Nat} (h : j < n) : va_cpy f g 0 0 n j = f j := by rw [pk_cpy_in (by omega) (by omega), Nat.sub_zero, Nat.zero_add]
theorem cpy_s0 {f g : Nat → Int32} {i : Nat} : upd (va_cpy f g 0 0 i) i (f i) = va_cpy f g 0 0 (i + 1) := by
  have z := cpy_s (f := f) (g := g) (sp := 0) (dp := 0) (i := i)
  rwa [Nat.zero_add] at z
theorem byE {s : Nat} (hs : s ≤ 24) (v : Int32) : (v >>> (nI s &&& 31)) &&& 255 = jush v (nI s) &&& 255 := by
  refine b_ext (fun i hi => ?_)
  rw [b_and, b_and, b_255]
  by_cases h : i < 8
  · rw [b_sshr s (by omega) v hi, if_pos (by omega), show bt (jush v (nI s)) i = bt v (s + i) from b_ushr s (by omega) v i]
  · rw [decide_eq_false h, Bool.and_false, Bool.and_false]
def wdF (a b c : Int32) (k : Nat) : Int32 := if k < 4 then a else if k < 8 then b else c
def fdT (t : Nat → Int32) (n : Nat) (a b c : Int32) : Nat → Nat → Int32
  | 0 => t
  | k + 1 => upd (fdT t n a b c k) (n + k) (jush (wdF a b c k) (shv (k % 4)) &&& 255)
theorem fdT_12 {t : Nat → Int32} {n : Nat} {a b c : Int32} : fdT t n a b c 12 = by4 (by4 (by4 t n a 4) (n + 4) b 4) (n + 8) c 4 := rfl
theorem shv_e : ∀ k, k < 12 → (24 : Int32) - 8 * jrem (nI k) 4 = nI (24 - 8 * (k % 4)) ∧ shv (k % 4) = nI (24 - 8 * (k % 4)) := by decide +kernel
set_option maxRecDepth 100000 in
set_option maxHeartbeats 4000000 in
theorem c_X8_copyAll_12 (B : BT) (μ : Nat → Nat → Int32) (δ : Nat → Int64) : MV B yX8_copyAll cX8_copyAll 3 none ({ frames := 0, cells := 0, slots := 0, locals := 0 }) [.ref (aB B 1), .ref (aB B 2)] μ δ (fun μ' δ' => μ' = up1 μ 2 (μ 1) ∧ δ' = δ) := by
  refine MX.of2 RX8 (by decide) rfl ⟨rfl, rfl⟩ (Nat.le_of_ble_eq_true rfl) (by rfl) (fun k ho hr hk => ?_)
  show XM B k μ δ 0 [some (.ref (aB B 1)), some (.ref (aB B 2)), none] []
  have loop : ∀ (f i : Nat), 1469 < f + i → i ≤ 1469 → XM B k (up1 μ 2 (va_cpy (μ 1) (μ 2) 0 0 i)) δ 2 [some (.ref (aB B 1)), some (.ref (aB B 2)), some (.int (nI i))] [] := by
    intro f
    induction f with
    | zero => intro i h1 h2; omega
    | succ f ih =>
      intro i h1 h2
      refine x_ild2 ho dX8_copyAll_2 ?_
      refine x_sipush (v := 1469) ho dX8_copyAll_3 rfl ?_
      refine x_icmp_ge 21 ho dX8_copyAll_6 (by decide) (fun c6 => ?_) (fun c6 => ?_)
      · have c6 := n_le (a := 1469) (by decide) (by omega) c6
        have ei : i = 1469 := by omega
        subst ei
        refine xm_same1 (q := 2) (g := μ 1) (fun _ => rfl) (fun j hj => cpy00 (n := 1469) hj) ?_
        refine x_vret ho hr ?_ dX8_copyAll_21
        exact ⟨_, _, rfl, rfl, rfl, rfl⟩
      · have c6 := n_nle (a := 1469) (b := i) (by decide) (by omega) c6
        refine x_ald1 ho dX8_copyAll_9 ?_
        refine x_ild2 ho dX8_copyAll_10 ?_
        refine x_ald0 ho dX8_copyAll_11 ?_
        refine x_ild2 ho dX8_copyAll_12 ?_
        refine xm_ialdN (i) (rfl) 1 (by show i < 1469; omega) ho (by decide) (fun _ => rfl) dX8_copyAll_13 ?_
        change XM B k _ _ _ _ (.int (μ 1 i) :: _)
        refine xm_iastN (i) (rfl) 2 (by show i < 1469; omega) ho (by decide) (by decide) (fun _ => rfl) dX8_copyAll_14 ?_
        rw [up2_up1, cpy_s0]
        refine x_inc2 (y := 1) ho dX8_copyAll_15 (by rw [hk]; decide) rfl rfl ?_
        refine x_goto 2 ho dX8_copyAll_18 (by decide) ?_
        rw [nI_1 i]
        exact ih (i + 1) (by omega) (by omega)
  have loop := loop 1470 0 (by omega) (by omega)
  rw [cpy_0, up1_self] at loop
  refine x_iconst (v := 0) ho dX8_copyAll_0 rfl ?_
  refine x_ist2 ho dX8_copyAll_1 (by rw [hk]; decide) rfl ?_
  exact loop
set_option maxRecDepth 100000 in
set_option maxHeartbeats 4000000 in
theorem c_X8_copyAll_21 (B : BT) (μ : Nat → Nat → Int32) (δ : Nat → Int64) : MV B yX8_copyAll cX8_copyAll 3 none ({ frames := 0, cells := 0, slots := 0, locals := 0 }) [.ref (aB B 2), .ref (aB B 1)] μ δ (fun μ' δ' => μ' = up1 μ 1 (μ 2) ∧ δ' = δ) := by
  refine MX.of2 RX8 (by decide) rfl ⟨rfl, rfl⟩ (Nat.le_of_ble_eq_true rfl) (by rfl) (fun k ho hr hk => ?_)
  show XM B k μ δ 0 [some (.ref (aB B 2)), some (.ref (aB B 1)), none] []
  have loop : ∀ (f i : Nat), 1469 < f + i → i ≤ 1469 → XM B k (up1 μ 1 (va_cpy (μ 2) (μ 1) 0 0 i)) δ 2 [some (.ref (aB B 2)), some (.ref (aB B 1)), some (.int (nI i))] [] := by
    intro f
    induction f with
    | zero => intro i h1 h2; omega
    | succ f ih =>
      intro i h1 h2
      refine x_ild2 ho dX8_copyAll_2 ?_
      refine x_sipush (v := 1469) ho dX8_copyAll_3 rfl ?_
      refine x_icmp_ge 21 ho dX8_copyAll_6 (by decide) (fun c6 => ?_) (fun c6 => ?_)
      · have c6 := n_le (a := 1469) (by decide) (by omega) c6
        have ei : i = 1469 := by omega
        subst ei
        refine xm_same1 (q := 1) (g := μ 2) (fun _ => rfl) (fun j hj => cpy00 (n := 1469) hj) ?_
        refine x_vret ho hr ?_ dX8_copyAll_21
        exact ⟨_, _, rfl, rfl, rfl, rfl⟩
      · have c6 := n_nle (a := 1469) (b := i) (by decide) (by omega) c6
        refine x_ald1 ho dX8_copyAll_9 ?_
        refine x_ild2 ho dX8_copyAll_10 ?_
        refine x_ald0 ho dX8_copyAll_11 ?_
        refine x_ild2 ho dX8_copyAll_12 ?_
        refine xm_ialdN (i) (rfl) 2 (by show i < 1469; omega) ho (by decide) (fun _ => rfl) dX8_copyAll_13 ?_
        change XM B k _ _ _ _ (.int (μ 2 i) :: _)
        refine xm_iastN (i) (rfl) 1 (by show i < 1469; omega) ho (by decide) (by decide) (fun _ => rfl) dX8_copyAll_14 ?_
        rw [up2_up1, cpy_s0]
        refine x_inc2 (y := 1) ho dX8_copyAll_15 (by rw [hk]; decide) rfl rfl ?_
        refine x_goto 2 ho dX8_copyAll_18 (by decide) ?_
        rw [nI_1 i]
        exact ih (i + 1) (by omega) (by omega)
  have loop := loop 1470 0 (by omega) (by omega)
  rw [cpy_0, up1_self] at loop
  refine x_iconst (v := 0) ho dX8_copyAll_0 rfl ?_
  refine x_ist2 ho dX8_copyAll_1 (by rw [hk]; decide) rfl ?_
  exact loop
set_option maxRecDepth 100000 in
set_option maxHeartbeats 4000000 in
theorem c_X8_copyAll_13 (B : BT) (μ : Nat → Nat → Int32) (δ : Nat → Int64) : MV B yX8_copyAll cX8_copyAll 3 none ({ frames := 0, cells := 0, slots := 0, locals := 0 }) [.ref (aB B 1), .ref (aB B 3)] μ δ (fun μ' δ' => μ' = up1 μ 3 (μ 1) ∧ δ' = δ) := by
  refine MX.of2 RX8 (by decide) rfl ⟨rfl, rfl⟩ (Nat.le_of_ble_eq_true rfl) (by rfl) (fun k ho hr hk => ?_)
  show XM B k μ δ 0 [some (.ref (aB B 1)), some (.ref (aB B 3)), none] []
  have loop : ∀ (f i : Nat), 1469 < f + i → i ≤ 1469 → XM B k (up1 μ 3 (va_cpy (μ 1) (μ 3) 0 0 i)) δ 2 [some (.ref (aB B 1)), some (.ref (aB B 3)), some (.int (nI i))] [] := by
    intro f
    induction f with
    | zero => intro i h1 h2; omega
    | succ f ih =>
      intro i h1 h2
      refine x_ild2 ho dX8_copyAll_2 ?_
      refine x_sipush (v := 1469) ho dX8_copyAll_3 rfl ?_
      refine x_icmp_ge 21 ho dX8_copyAll_6 (by decide) (fun c6 => ?_) (fun c6 => ?_)
      · have c6 := n_le (a := 1469) (by decide) (by omega) c6
        have ei : i = 1469 := by omega
        subst ei
        refine xm_same1 (q := 3) (g := μ 1) (fun _ => rfl) (fun j hj => cpy00 (n := 1469) hj) ?_
        refine x_vret ho hr ?_ dX8_copyAll_21
        exact ⟨_, _, rfl, rfl, rfl, rfl⟩
      · have c6 := n_nle (a := 1469) (b := i) (by decide) (by omega) c6
        refine x_ald1 ho dX8_copyAll_9 ?_
        refine x_ild2 ho dX8_copyAll_10 ?_
        refine x_ald0 ho dX8_copyAll_11 ?_
        refine x_ild2 ho dX8_copyAll_12 ?_
        refine xm_ialdN (i) (rfl) 1 (by show i < 1469; omega) ho (by decide) (fun _ => rfl) dX8_copyAll_13 ?_
        change XM B k _ _ _ _ (.int (μ 1 i) :: _)
        refine xm_iastN (i) (rfl) 3 (by show i < 1469; omega) ho (by decide) (by decide) (fun _ => rfl) dX8_copyAll_14 ?_
        rw [up2_up1, cpy_s0]
        refine x_inc2 (y := 1) ho dX8_copyAll_15 (by rw [hk]; decide) rfl rfl ?_
        refine x_goto 2 ho dX8_copyAll_18 (by decide) ?_
        rw [nI_1 i]
        exact ih (i + 1) (by omega) (by omega)
  have loop := loop 1470 0 (by omega) (by omega)
  rw [cpy_0, up1_self] at loop
  refine x_iconst (v := 0) ho dX8_copyAll_0 rfl ?_
  refine x_ist2 ho dX8_copyAll_1 (by rw [hk]; decide) rfl ?_
  exact loop
set_option maxRecDepth 100000 in
set_option maxHeartbeats 4000000 in
theorem c_X8_copyAll_31 (B : BT) (μ : Nat → Nat → Int32) (δ : Nat → Int64) : MV B yX8_copyAll cX8_copyAll 3 none ({ frames := 0, cells := 0, slots := 0, locals := 0 }) [.ref (aB B 3), .ref (aB B 1)] μ δ (fun μ' δ' => μ' = up1 μ 1 (μ 3) ∧ δ' = δ) := by
  refine MX.of2 RX8 (by decide) rfl ⟨rfl, rfl⟩ (Nat.le_of_ble_eq_true rfl) (by rfl) (fun k ho hr hk => ?_)
  show XM B k μ δ 0 [some (.ref (aB B 3)), some (.ref (aB B 1)), none] []
  have loop : ∀ (f i : Nat), 1469 < f + i → i ≤ 1469 → XM B k (up1 μ 1 (va_cpy (μ 3) (μ 1) 0 0 i)) δ 2 [some (.ref (aB B 3)), some (.ref (aB B 1)), some (.int (nI i))] [] := by
    intro f
    induction f with
    | zero => intro i h1 h2; omega
    | succ f ih =>
      intro i h1 h2
      refine x_ild2 ho dX8_copyAll_2 ?_
      refine x_sipush (v := 1469) ho dX8_copyAll_3 rfl ?_
      refine x_icmp_ge 21 ho dX8_copyAll_6 (by decide) (fun c6 => ?_) (fun c6 => ?_)
      · have c6 := n_le (a := 1469) (by decide) (by omega) c6
        have ei : i = 1469 := by omega
        subst ei
        refine xm_same1 (q := 1) (g := μ 3) (fun _ => rfl) (fun j hj => cpy00 (n := 1469) hj) ?_
        refine x_vret ho hr ?_ dX8_copyAll_21
        exact ⟨_, _, rfl, rfl, rfl, rfl⟩
      · have c6 := n_nle (a := 1469) (b := i) (by decide) (by omega) c6
        refine x_ald1 ho dX8_copyAll_9 ?_
        refine x_ild2 ho dX8_copyAll_10 ?_
        refine x_ald0 ho dX8_copyAll_11 ?_
        refine x_ild2 ho dX8_copyAll_12 ?_
        refine xm_ialdN (i) (rfl) 3 (by show i < 1469; omega) ho (by decide) (fun _ => rfl) dX8_copyAll_13 ?_
        change XM B k _ _ _ _ (.int (μ 3 i) :: _)
        refine xm_iastN (i) (rfl) 1 (by show i < 1469; omega) ho (by decide) (by decide) (fun _ => rfl) dX8_copyAll_14 ?_
        rw [up2_up1, cpy_s0]
        refine x_inc2 (y := 1) ho dX8_copyAll_15 (by rw [hk]; decide) rfl rfl ?_
        refine x_goto 2 ho dX8_copyAll_18 (by decide) ?_
        rw [nI_1 i]
        exact ih (i + 1) (by omega) (by omega)
  have loop := loop 1470 0 (by omega) (by omega)
  rw [cpy_0, up1_self] at loop
  refine x_iconst (v := 0) ho dX8_copyAll_0 rfl ?_
  refine x_ist2 ho dX8_copyAll_1 (by rw [hk]; decide) rfl ?_
  exact loop
set_option maxRecDepth 100000 in
set_option maxHeartbeats 4000000 in
theorem c_X8_keep (B : BT) (μ : Nat → Nat → Int32) (δ : Nat → Int64) : MI B yX8_keep cX8_keep 1 (some .int) ({ frames := 1, cells := 0, slots := 0, locals := 22 }) [.ref (aB B 0)] μ δ (fun r μ' δ' => r = μ 1 1 ∧ μ' = up2 (up1 μ 2 (μ 1)) 0 3 1 ∧ δ' = δ) := by
  refine MX.of2 RX8 (by decide) rfl ⟨rfl, rfl⟩ (Nat.le_of_ble_eq_true rfl) (by rfl) (fun k ho hr hk => ?_)
  show XM B k μ δ 0 [some (.ref (aB B 0))] []
  refine x_ald0 ho dX8_keep_0 ?_
  refine r_X8_9 ho dX8_keep_1 ?_
  refine x_ald0 ho dX8_keep_4 ?_
  refine r_X8_13 ho dX8_keep_5 ?_
  refine sMV2 ho cs_X8_271 (c_X8_copyAll_12 B _ _) ⟨rfl, rfl⟩ ⟨Nat.le_of_ble_eq_true rfl, Nat.le_of_ble_eq_true rfl⟩ (Nat.le_of_ble_eq_true rfl) dX8_keep_8 (fun s8 t8 p8 => ?_)
  obtain ⟨rfl, e_⟩ := p8
  subst t8
  refine x_ald0 ho dX8_keep_11 ?_
  refine x_iconst (v := 1) ho dX8_keep_12 rfl ?_
  refine w_X8_267 ho (Or.inr rfl) dX8_keep_13 ?_
  refine x_ald0 ho dX8_keep_16 ?_
  refine r_X8_9 ho dX8_keep_17 ?_
  refine x_iconst (v := 1) ho dX8_keep_20 rfl ?_
  refine xm_ialdN (1) (rfl) 1 (by decide) ho (by decide) (fun _ => rfl) dX8_keep_21 ?_
  refine x_iret ho hr ?_ dX8_keep_22
  exact ⟨_, _, _, rfl, rfl, rfl, rfl, rfl⟩
set_option maxRecDepth 100000 in
set_option maxHeartbeats 4000000 in
theorem c_X8_back (B : BT) (μ : Nat → Nat → Int32) (δ : Nat → Int64) : MI B yX8_back cX8_back 1 (some .int) ({ frames := 1, cells := 0, slots := 0, locals := 22 }) [.ref (aB B 0)] μ δ (fun r μ' δ' => (r, μ') = (if μ 0 3 = 0 then (-1000000002, μ) else (μ 2 1, up1 μ 1 (μ 2))) ∧ δ' = δ) := by
  refine MX.of2 RX8 (by decide) rfl ⟨rfl, rfl⟩ (Nat.le_of_ble_eq_true rfl) (by rfl) (fun k ho hr hk => ?_)
  show XM B k μ δ 0 [some (.ref (aB B 0))] []
  refine x_ald0 ho dX8_back_0 ?_
  refine r_X8_267 ho dX8_back_1 ?_
  refine x_if_ne 11 ho dX8_back_4 (by decide) (fun c4 => ?_) (fun c4 => ?_)
  · refine x_ald0 ho dX8_back_11 ?_
    refine r_X8_13 ho dX8_back_12 ?_
    refine x_ald0 ho dX8_back_15 ?_
    refine r_X8_9 ho dX8_back_16 ?_
    refine sMV2 ho cs_X8_271 (c_X8_copyAll_21 B _ _) ⟨rfl, rfl⟩ ⟨Nat.le_of_ble_eq_true rfl, Nat.le_of_ble_eq_true rfl⟩ (Nat.le_of_ble_eq_true rfl) dX8_back_19 (fun s19 t19 p19 => ?_)
    obtain ⟨rfl, e_⟩ := p19
    subst t19
    refine x_ald0 ho dX8_back_22 ?_
    refine r_X8_9 ho dX8_back_23 ?_
    refine x_iconst (v := 1) ho dX8_back_26 rfl ?_
    refine xm_ialdN (1) (rfl) 1 (by decide) ho (by decide) (fun _ => rfl) dX8_back_27 ?_
    refine x_iret ho hr ?_ dX8_back_28
    exact ⟨_, _, _, rfl, rfl, (if_neg c4).symm, rfl⟩
  · refine x_ldcw ho kc_X8_263 dX8_back_7 ?_
    refine x_iret ho hr ?_ dX8_back_10
    exact ⟨_, _, _, rfl, rfl, (if_pos c4).symm, rfl⟩
set_option maxRecDepth 100000 in
set_option maxHeartbeats 4000000 in
theorem c_X8_tell (B : BT) (μ : Nat → Nat → Int32) (δ : Nat → Int64) (w : Nat) (hw : μ 0 34 = nI w) (hw60 : w ≤ 60) (v : Int32) : MI B yX8_tell cX8_tell 2 (some .int) ({ frames := 0, cells := 0, slots := 0, locals := 0 }) [.ref (aB B 0), .int v] μ δ (fun r μ' δ' => (r, μ') = (if w < 60 then (nI (w + 1), up2 (up2 μ 23 w v) 0 34 (nI (w + 1))) else (-1000000003, μ)) ∧ δ' = δ) := by
  refine MX.of2 RX8 (by decide) rfl ⟨rfl, rfl⟩ (Nat.le_of_ble_eq_true rfl) (by rfl) (fun k ho hr hk => ?_)
  show XM B k μ δ 0 [some (.ref (aB B 0)), some (.int v)] []
  refine x_ald0 ho dX8_tell_0 ?_
  refine r_X8_264 ho dX8_tell_1 ?_
  refine x_bipush (v := 60) ho dX8_tell_4 rfl ?_
  refine x_icmp_ne 12 ho dX8_tell_6 (by decide) (fun c6 => ?_) (fun c6 => ?_)
  · have w6 : w < 60 := Nat.lt_of_le_of_ne hw60 (fun e => c6 (by rw [hw, e]; rfl))
    have hw' : ∀ x, up2 μ 23 w x 0 34 = nI w := fun x => hw
    refine x_ald0 ho dX8_tell_12 ?_
    refine r_X8_79 ho dX8_tell_13 ?_
    refine x_ald0 ho dX8_tell_16 ?_
    refine r_X8_264 ho dX8_tell_17 ?_
    rw [hw]
    refine x_ild1 ho dX8_tell_20 ?_
    refine xm_iastN (w) (rfl) 23 (by show w < 60; omega) ho (by decide) (by decide) (fun _ => rfl) dX8_tell_21 ?_
    refine x_ald0 ho dX8_tell_22 ?_
    refine x_dup ho dX8_tell_23 rfl ?_
    refine r_X8_264 ho dX8_tell_24 ?_
    rw [hw']
    refine x_iconst (v := 1) ho dX8_tell_27 rfl ?_
    refine x_iadd ho dX8_tell_28 ?_
    rw [nI_1]
    refine w_X8_264 ho dX8_tell_29 ?_
    refine x_ald0 ho dX8_tell_32 ?_
    refine r_X8_264 ho dX8_tell_33 ?_
    change XM B k _ _ _ _ (.int (nI (w + 1)) :: _)
    refine x_iret ho hr ?_ dX8_tell_36
    exact ⟨_, _, _, rfl, rfl, (if_pos w6).symm, rfl⟩
  · have w6 : ¬ w < 60 := fun e => by
      have := n_eq (b := 60) (by omega) (by decide) (hw.symm.trans c6)
      omega
    refine x_ldc ho kc_X8_95 dX8_tell_9 ?_
    refine x_iret ho hr ?_ dX8_tell_11
    exact ⟨_, _, _, rfl, rfl, (if_neg w6).symm, rfl⟩
set_option maxRecDepth 100000 in
set_option maxHeartbeats 4000000 in
theorem c_X8_trim (B : BT) (μ : Nat → Nat → Int32) (δ : Nat → Int64) (v : Int32) : MI B yX8_trim cX8_trim 2 (some .int) ({ frames := 1, cells := 0, slots := 0, locals := 22 }) [.ref (aB B 0), .int v] μ δ (fun r μ' δ' => (r, μ') = (if ¬ v < 0 ∧ v ≤ μ 0 8 then (v, up2 μ 0 8 v) else (-1000000001, μ)) ∧ δ' = δ) := by
  refine MX.of2 RX8 (by decide) rfl ⟨rfl, rfl⟩ (Nat.le_of_ble_eq_true rfl) (by rfl) (fun k ho hr hk => ?_)
  show XM B k μ δ 0 [some (.ref (aB B 0)), some (.int v)] []
  refine x_ild1 ho dX8_trim_0 ?_
  refine x_iconst (v := 0) ho dX8_trim_1 rfl ?_
  refine x_ald0 ho dX8_trim_2 ?_
  refine r_X8_188 ho dX8_trim_3 ?_
  refine sMI3 ho cs_X8_82 (c_X8_in B _ _ _ _ _) ⟨rfl, rfl⟩ ⟨Nat.le_of_ble_eq_true rfl, Nat.le_of_ble_eq_true rfl⟩ (Nat.le_of_ble_eq_true rfl) dX8_trim_6 (fun r6 s6 t6 p6 => ?_)
  obtain ⟨rfl, rfl, rfl⟩ := p6
  rw [mle]
  refine x_if_ne 15 ho dX8_trim_9 (by decide) (fun c9 => ?_) (fun c9 => ?_)
  · have c9 := bI_n.mp c9
    refine x_ald0 ho dX8_trim_15 ?_
    refine x_ild1 ho dX8_trim_16 ?_
    refine w_X8_188 ho dX8_trim_17 ?_
    refine x_ild1 ho dX8_trim_20 ?_
    refine x_iret ho hr ?_ dX8_trim_21
    exact ⟨_, _, _, rfl, rfl, (if_pos c9).symm, rfl⟩
  · have c9 := bI_0.mp c9
    refine x_ldc ho kc_X8_94 dX8_trim_12 ?_
    refine x_iret ho hr ?_ dX8_trim_14
    exact ⟨_, _, _, rfl, rfl, (if_neg c9).symm, rfl⟩
set_option maxRecDepth 100000 in
set_option maxHeartbeats 4000000 in
theorem c_X8_feed (B : BT) (μ : Nat → Nat → Int32) (δ : Nat → Int64) (n : Nat) (hn : μ 0 8 = nI n) (hn96 : n ≤ 96) (a b c : Int32) : MI B yX8_feed cX8_feed 6 (some .int) ({ frames := 0, cells := 0, slots := 0, locals := 0 }) [.ref (aB B 0), .int a, .int b, .int c] μ δ (fun r μ' δ' => (r, μ') = (if n + 12 ≤ 96 then (nI (n + 12), up2 (up1 μ 7 (by4 (by4 (by4 (μ 7) n a 4) (n + 4) b 4) (n + 8) c 4)) 0 8 (nI (n + 12))) else (-1000000003, μ)) ∧ δ' = δ) := by
  refine MX.of2 RX8 (by decide) rfl ⟨rfl, rfl⟩ (Nat.le_of_ble_eq_true rfl) (by rfl) (fun k ho hr hk => ?_)
  show XM B k μ δ 0 [some (.ref (aB B 0)), some (.int a), some (.int b), some (.int c), none, none] []
  refine x_ald0 ho dX8_feed_0 ?_
  refine r_X8_188 ho dX8_feed_1 ?_
  rw [hn]
  refine x_bipush (v := 12) ho dX8_feed_4 rfl ?_
  refine x_iadd ho dX8_feed_6 ?_
  rw [show nI n + 12 = nI (n + 12) from nI_add n 12]
  refine x_bipush (v := 96) ho dX8_feed_7 rfl ?_
  refine x_icmp_le 15 ho dX8_feed_9 (by decide) (fun c9 => ?_) (fun c9 => ?_)
  · have c9 := n_le (a := n + 12) (b := 96) (by omega) (by decide) c9
    refine x_iconst (v := 0) ho dX8_feed_15 rfl ?_
    refine x_ist4 ho dX8_feed_16 (by rw [hk]; decide) rfl ?_
    have loop : ∀ (f i : Nat), 12 < f + i → i ≤ 12 → XM B k (up1 μ 7 (fdT (μ 7) n a b c i)) δ 18 [some (.ref (aB B 0)), some (.int a), some (.int b), some (.int c), some (.int (nI i)), none] [] := by
      intro f
      induction f with
      | zero => intro i h1 h2; omega
      | succ f ih =>
        intro i h1 h2
        have K47 : ∀ w, i < 12 → w = wdF a b c i → XM B k (up1 μ 7 (fdT (μ 7) n a b c i)) δ 47 [some (.ref (aB B 0)), some (.int a), some (.int b), some (.int c), some (.int (nI i)), none] [.int w] := by
          intro w c22 ew
          refine x_ist5 ho dX8_feed_47 (by rw [hk]; decide) rfl ?_
          refine x_ald0 ho dX8_feed_49 ?_
          refine r_X8_29 ho dX8_feed_50 ?_
          refine x_ald0 ho dX8_feed_53 ?_
          refine r_X8_188 ho dX8_feed_54 ?_
          rw [show up1 μ 7 (fdT (μ 7) n a b c i) 0 8 = nI n from hn]
          refine x_ild4 ho dX8_feed_57 ?_
          refine x_iadd ho dX8_feed_59 ?_
          rw [nI_add]
          refine x_ild5 ho dX8_feed_60 ?_
          refine x_bipush (v := 24) ho dX8_feed_62 rfl ?_
          refine x_bipush (v := 8) ho dX8_feed_64 rfl ?_
          refine x_ild4 ho dX8_feed_66 ?_
          refine x_iconst (v := 4) ho dX8_feed_68 rfl ?_
          refine x_irem ho dX8_feed_69 (by decide) ?_
          refine x_imul ho dX8_feed_70 ?_
          refine x_isub ho dX8_feed_71 ?_
          rw [(shv_e i c22).1]
          refine x_ishr ho dX8_feed_72 ?_
          refine x_sipush (v := 255) ho dX8_feed_73 rfl ?_
          refine x_iand ho dX8_feed_76 ?_
          rw [byE (by omega), ← (shv_e i c22).2, ew]
          refine xm_iastN (n + i) (rfl) 7 (by show n + i < 96; omega) ho (by decide) (by decide) (fun _ => rfl) dX8_feed_77 ?_
          rw [up2_up1, show upd (fdT (μ 7) n a b c i) (n + i) (jush (wdF a b c i) (shv (i % 4)) &&& 255) = (fdT (μ 7) n a b c (i + 1)) from rfl]
          refine x_inc4 (y := 1) ho dX8_feed_78 (by rw [hk]; decide) rfl rfl ?_
          refine x_goto 18 ho dX8_feed_81 (by decide) ?_
          rw [nI_1 i]
          refine x_loc (Lsb.s (Lsb.s (Lsb.s (Lsb.s (Lsb.s (Lsb.n Lsb.e)))))) ?_
          exact ih (i + 1) (by omega) (by omega)
        refine x_ild4 ho dX8_feed_18 ?_
        refine x_bipush (v := 12) ho dX8_feed_20 rfl ?_
        refine x_icmp_ge 84 ho dX8_feed_22 (by decide) (fun c22 => ?_) (fun c22 => ?_)
        · have c22 := n_le (a := 12) (by decide) (by omega) c22
          have ei : i = 12 := by omega
          subst ei
          refine x_ald0 ho dX8_feed_84 ?_
          refine x_dup ho dX8_feed_85 rfl ?_
          refine r_X8_188 ho dX8_feed_86 ?_
          rw [show up1 μ 7 (fdT (μ 7) n a b c 12) 0 8 = nI n from hn]
          refine x_bipush (v := 12) ho dX8_feed_89 rfl ?_
          refine x_iadd ho dX8_feed_91 ?_
          rw [show nI n + 12 = nI (n + 12) from nI_add n 12]
          refine w_X8_188 ho dX8_feed_92 ?_
          refine x_ald0 ho dX8_feed_95 ?_
          refine r_X8_188 ho dX8_feed_96 ?_
          change XM B k _ _ _ _ (.int (nI (n + 12)) :: _)
          refine x_iret ho hr ?_ dX8_feed_99
          exact ⟨_, _, _, rfl, rfl, by rw [if_pos c9, ← fdT_12], rfl⟩
        · have c22 := n_nle (a := 12) (b := i) (by decide) (by omega) c22
          refine x_ild4 ho dX8_feed_25 ?_
          refine x_iconst (v := 4) ho dX8_feed_27 rfl ?_
          refine x_icmp_ge 35 ho dX8_feed_28 (by decide) (fun c28 => ?_) (fun c28 => ?_)
          · have c28 := n_le (a := 4) (by decide) (by omega) c28
            refine x_ild4 ho dX8_feed_35 ?_
            refine x_bipush (v := 8) ho dX8_feed_37 rfl ?_
            refine x_icmp_ge 46 ho dX8_feed_39 (by decide) (fun c39 => ?_) (fun c39 => ?_)
            · have c39 := n_le (a := 8) (by decide) (by omega) c39
              refine x_ild3 ho dX8_feed_46 ?_
              first | exact K47 a c22 (if_pos c28).symm | exact K47 b c22 (by unfold wdF; rw [if_neg (by omega), if_pos c39]) | exact K47 c c22 (by unfold wdF; rw [if_neg (by omega), if_neg (by omega)])
            · have c39 := n_nle (a := 8) (b := i) (by decide) (by omega) c39
              refine x_ild2 ho dX8_feed_42 ?_
              refine x_goto 47 ho dX8_feed_43 (by decide) ?_
              first | exact K47 a c22 (if_pos c28).symm | exact K47 b c22 (by unfold wdF; rw [if_neg (by omega), if_pos c39]) | exact K47 c c22 (by unfold wdF; rw [if_neg (by omega), if_neg (by omega)])
          · have c28 := n_nle (a := 4) (b := i) (by decide) (by omega) c28
            refine x_ild1 ho dX8_feed_31 ?_
            refine x_goto 47 ho dX8_feed_32 (by decide) ?_
            first | exact K47 a c22 (if_pos c28).symm | exact K47 b c22 (by unfold wdF; rw [if_neg (by omega), if_pos c39]) | exact K47 c c22 (by unfold wdF; rw [if_neg (by omega), if_neg (by omega)])
    have loop := loop 13 0 (by omega) (by omega)
    rw [show up1 μ 7 (fdT (μ 7) n a b c 0) = μ from up1_self] at loop
    exact loop
  · have c9 := n_nle (a := n + 12) (b := 96) (by omega) (by decide) c9
    refine x_ldc ho kc_X8_95 dX8_feed_12 ?_
    refine x_iret ho hr ?_ dX8_feed_14
    exact ⟨_, _, _, rfl, rfl, (if_neg (by omega)).symm, rfl⟩
