/-! the class's small functions -/
theorem bI_e {P : Prop} [Decidable P] {x : Int32} (h : (P ∧ x = 1) ∨ (¬ P ∧ x = 0)) : x = bI P := by
  rcases h with ⟨h, rfl⟩ | ⟨h, rfl⟩
  · exact (bI_t h).symm
  · exact (bI_f h).symm
set_option maxRecDepth 100000 in
set_option maxHeartbeats 4000000 in
theorem c_X7_isKind (B : BT) (σ : Nat → Nat → Int32) (x : Int32) : CI B yX7_isKind cX7_isKind 1 (some .boolean) ({ frames := 0, cells := 0, slots := 0, locals := 0 }) [.int x] σ (fun r σ' => r = bI (¬ x < 0 ∧ ¬ 6 ≤ x) ∧ σ' = σ) := by
  refine MX.of2 RX7 (by decide) rfl ⟨rfl, rfl⟩ (Nat.le_of_ble_eq_true rfl) (by rfl) (fun k h hr hk => ?_)
  show XC B k σ 0 [some (.int x)] []
  refine x_ild0 h dX7_isKind_0 ?_
  refine x_if_lt 14 h dX7_isKind_1 (by decide) (fun c1 => ?_) (fun c1 => ?_)
  · refine x_iconst (v := 0) h dX7_isKind_14 rfl ?_
    refine x_zret h hr (by decide) ?_ dX7_isKind_15
    exact ⟨_, _, rfl, rfl, bI_e (by simp_all), rfl⟩
  · refine x_ild0 h dX7_isKind_4 ?_
    refine x_bipush (v := 6) h dX7_isKind_5 rfl ?_
    refine x_icmp_ge 14 h dX7_isKind_7 (by decide) (fun c7 => ?_) (fun c7 => ?_)
    · refine x_iconst (v := 0) h dX7_isKind_14 rfl ?_
      refine x_zret h hr (by decide) ?_ dX7_isKind_15
      exact ⟨_, _, rfl, rfl, bI_e (by simp_all), rfl⟩
    · refine x_iconst (v := 1) h dX7_isKind_10 rfl ?_
      refine x_goto 15 h dX7_isKind_11 (by decide) ?_
      refine x_zret h hr (by decide) ?_ dX7_isKind_15
      exact ⟨_, _, rfl, rfl, bI_e (by simp_all), rfl⟩
set_option maxRecDepth 100000 in
set_option maxHeartbeats 4000000 in
theorem c_X7_isRoom (B : BT) (σ : Nat → Nat → Int32) (x : Int32) : CI B yX7_isRoom cX7_isRoom 1 (some .boolean) ({ frames := 0, cells := 0, slots := 0, locals := 0 }) [.int x] σ (fun r σ' => r = bI (¬ x < 0 ∧ ¬ 10 ≤ x) ∧ σ' = σ) := by
  refine MX.of2 RX7 (by decide) rfl ⟨rfl, rfl⟩ (Nat.le_of_ble_eq_true rfl) (by rfl) (fun k h hr hk => ?_)
  show XC B k σ 0 [some (.int x)] []
  refine x_ild0 h dX7_isRoom_0 ?_
  refine x_if_lt 14 h dX7_isRoom_1 (by decide) (fun c1 => ?_) (fun c1 => ?_)
  · refine x_iconst (v := 0) h dX7_isRoom_14 rfl ?_
    refine x_zret h hr (by decide) ?_ dX7_isRoom_15
    exact ⟨_, _, rfl, rfl, bI_e (by simp_all), rfl⟩
  · refine x_ild0 h dX7_isRoom_4 ?_
    refine x_bipush (v := 10) h dX7_isRoom_5 rfl ?_
    refine x_icmp_ge 14 h dX7_isRoom_7 (by decide) (fun c7 => ?_) (fun c7 => ?_)
    · refine x_iconst (v := 0) h dX7_isRoom_14 rfl ?_
      refine x_zret h hr (by decide) ?_ dX7_isRoom_15
      exact ⟨_, _, rfl, rfl, bI_e (by simp_all), rfl⟩
    · refine x_iconst (v := 1) h dX7_isRoom_10 rfl ?_
      refine x_goto 15 h dX7_isRoom_11 (by decide) ?_
      refine x_zret h hr (by decide) ?_ dX7_isRoom_15
      exact ⟨_, _, rfl, rfl, bI_e (by simp_all), rfl⟩
set_option maxRecDepth 100000 in
set_option maxHeartbeats 4000000 in
theorem c_X7_isSole (B : BT) (σ : Nat → Nat → Int32) (x : Int32) : CI B yX7_isSole cX7_isSole 1 (some .boolean) ({ frames := 0, cells := 0, slots := 0, locals := 0 }) [.int x] σ (fun r σ' => r = bI (¬ x < 0 ∧ ¬ 999 < x) ∧ σ' = σ) := by
  refine MX.of2 RX7 (by decide) rfl ⟨rfl, rfl⟩ (Nat.le_of_ble_eq_true rfl) (by rfl) (fun k h hr hk => ?_)
  show XC B k σ 0 [some (.int x)] []
  refine x_ild0 h dX7_isSole_0 ?_
  refine x_if_lt 15 h dX7_isSole_1 (by decide) (fun c1 => ?_) (fun c1 => ?_)
  · refine x_iconst (v := 0) h dX7_isSole_15 rfl ?_
    refine x_zret h hr (by decide) ?_ dX7_isSole_16
    exact ⟨_, _, rfl, rfl, bI_e (by simp_all), rfl⟩
  · refine x_ild0 h dX7_isSole_4 ?_
    refine x_sipush (v := 999) h dX7_isSole_5 rfl ?_
    refine x_icmp_gt 15 h dX7_isSole_8 (by decide) (fun c8 => ?_) (fun c8 => ?_)
    · refine x_iconst (v := 0) h dX7_isSole_15 rfl ?_
      refine x_zret h hr (by decide) ?_ dX7_isSole_16
      exact ⟨_, _, rfl, rfl, bI_e (by simp_all), rfl⟩
    · refine x_iconst (v := 1) h dX7_isSole_11 rfl ?_
      refine x_goto 16 h dX7_isSole_12 (by decide) ?_
      refine x_zret h hr (by decide) ?_ dX7_isSole_16
      exact ⟨_, _, rfl, rfl, bI_e (by simp_all), rfl⟩
set_option maxRecDepth 100000 in
set_option maxHeartbeats 4000000 in
theorem c_X7_isSteps (B : BT) (σ : Nat → Nat → Int32) (x : Int32) : CI B yX7_isSteps cX7_isSteps 1 (some .boolean) ({ frames := 0, cells := 0, slots := 0, locals := 0 }) [.int x] σ (fun r σ' => r = bI (¬ x < 0 ∧ ¬ 5 < x) ∧ σ' = σ) := by
  refine MX.of2 RX7 (by decide) rfl ⟨rfl, rfl⟩ (Nat.le_of_ble_eq_true rfl) (by rfl) (fun k h hr hk => ?_)
  show XC B k σ 0 [some (.int x)] []
  refine x_ild0 h dX7_isSteps_0 ?_
  refine x_if_lt 13 h dX7_isSteps_1 (by decide) (fun c1 => ?_) (fun c1 => ?_)
  · refine x_iconst (v := 0) h dX7_isSteps_13 rfl ?_
    refine x_zret h hr (by decide) ?_ dX7_isSteps_14
    exact ⟨_, _, rfl, rfl, bI_e (by simp_all), rfl⟩
  · refine x_ild0 h dX7_isSteps_4 ?_
    refine x_iconst (v := 5) h dX7_isSteps_5 rfl ?_
    refine x_icmp_gt 13 h dX7_isSteps_6 (by decide) (fun c6 => ?_) (fun c6 => ?_)
    · refine x_iconst (v := 0) h dX7_isSteps_13 rfl ?_
      refine x_zret h hr (by decide) ?_ dX7_isSteps_14
      exact ⟨_, _, rfl, rfl, bI_e (by simp_all), rfl⟩
    · refine x_iconst (v := 1) h dX7_isSteps_9 rfl ?_
      refine x_goto 14 h dX7_isSteps_10 (by decide) ?_
      refine x_zret h hr (by decide) ?_ dX7_isSteps_14
      exact ⟨_, _, rfl, rfl, bI_e (by simp_all), rfl⟩
set_option maxRecDepth 100000 in
set_option maxHeartbeats 4000000 in
theorem c_X7_isShortRun (B : BT) (σ : Nat → Nat → Int32) (x : Int32) : CI B yX7_isShortRun cX7_isShortRun 1 (some .boolean) ({ frames := 0, cells := 0, slots := 0, locals := 0 }) [.int x] σ (fun r σ' => r = bI (¬ x < 1 ∧ ¬ 60 < x) ∧ σ' = σ) := by
  refine MX.of2 RX7 (by decide) rfl ⟨rfl, rfl⟩ (Nat.le_of_ble_eq_true rfl) (by rfl) (fun k h hr hk => ?_)
  show XC B k σ 0 [some (.int x)] []
  refine x_ild0 h dX7_isShortRun_0 ?_
  refine x_iconst (v := 1) h dX7_isShortRun_1 rfl ?_
  refine x_icmp_lt 15 h dX7_isShortRun_2 (by decide) (fun c2 => ?_) (fun c2 => ?_)
  · refine x_iconst (v := 0) h dX7_isShortRun_15 rfl ?_
    refine x_zret h hr (by decide) ?_ dX7_isShortRun_16
    exact ⟨_, _, rfl, rfl, bI_e (by simp_all), rfl⟩
  · refine x_ild0 h dX7_isShortRun_5 ?_
    refine x_bipush (v := 60) h dX7_isShortRun_6 rfl ?_
    refine x_icmp_gt 15 h dX7_isShortRun_8 (by decide) (fun c8 => ?_) (fun c8 => ?_)
    · refine x_iconst (v := 0) h dX7_isShortRun_15 rfl ?_
      refine x_zret h hr (by decide) ?_ dX7_isShortRun_16
      exact ⟨_, _, rfl, rfl, bI_e (by simp_all), rfl⟩
    · refine x_iconst (v := 1) h dX7_isShortRun_11 rfl ?_
      refine x_goto 16 h dX7_isShortRun_12 (by decide) ?_
      refine x_zret h hr (by decide) ?_ dX7_isShortRun_16
      exact ⟨_, _, rfl, rfl, bI_e (by simp_all), rfl⟩
set_option maxRecDepth 100000 in
set_option maxHeartbeats 4000000 in
theorem c_X7_isOneOfTwo (B : BT) (σ : Nat → Nat → Int32) (x : Int32) : CI B yX7_isOneOfTwo cX7_isOneOfTwo 1 (some .boolean) ({ frames := 0, cells := 0, slots := 0, locals := 0 }) [.int x] σ (fun r σ' => r = bI (x = 0 ∨ x = 1) ∧ σ' = σ) := by
  refine MX.of2 RX7 (by decide) rfl ⟨rfl, rfl⟩ (Nat.le_of_ble_eq_true rfl) (by rfl) (fun k h hr hk => ?_)
  show XC B k σ 0 [some (.int x)] []
  refine x_ild0 h dX7_isOneOfTwo_0 ?_
  refine x_if_eq 9 h dX7_isOneOfTwo_1 (by decide) (fun c1 => ?_) (fun c1 => ?_)
  · refine x_iconst (v := 1) h dX7_isOneOfTwo_9 rfl ?_
    refine x_goto 14 h dX7_isOneOfTwo_10 (by decide) ?_
    refine x_zret h hr (by decide) ?_ dX7_isOneOfTwo_14
    exact ⟨_, _, rfl, rfl, bI_e (by simp_all), rfl⟩
  · refine x_ild0 h dX7_isOneOfTwo_4 ?_
    refine x_iconst (v := 1) h dX7_isOneOfTwo_5 rfl ?_
    refine x_icmp_ne 13 h dX7_isOneOfTwo_6 (by decide) (fun c6 => ?_) (fun c6 => ?_)
    · refine x_iconst (v := 0) h dX7_isOneOfTwo_13 rfl ?_
      refine x_zret h hr (by decide) ?_ dX7_isOneOfTwo_14
      exact ⟨_, _, rfl, rfl, bI_e (by simp_all), rfl⟩
    · refine x_iconst (v := 1) h dX7_isOneOfTwo_9 rfl ?_
      refine x_goto 14 h dX7_isOneOfTwo_10 (by decide) ?_
      refine x_zret h hr (by decide) ?_ dX7_isOneOfTwo_14
      exact ⟨_, _, rfl, rfl, bI_e (by simp_all), rfl⟩
set_option maxRecDepth 100000 in
set_option maxHeartbeats 4000000 in
theorem c_X7_held (B : BT) (σ : Nat → Nat → Int32) (v m : Int32) : CI B yX7_held cX7_held 2 (some .int) ({ frames := 2, cells := 0, slots := 0, locals := 85 }) [.int v, .int m] σ (fun r σ' => r = jheld v m ∧ σ' = σ) := by
  refine MX.of2 RX7 (by decide) rfl ⟨rfl, rfl⟩ (Nat.le_of_ble_eq_true rfl) (by rfl) (fun k h hr hk => ?_)
  show XC B k σ 0 [some (.int v), some (.int m)] []
  refine x_iconst (v := 0) h dX7_held_0 rfl ?_
  refine x_ild0 h dX7_held_1 ?_
  refine x_ild1 h dX7_held_2 ?_
  refine x_min h ul_X7_159 ⟨Nat.le_of_ble_eq_true rfl, Nat.le_of_ble_eq_true rfl⟩ dX7_held_3 ?_
  refine x_max h ul_X7_327 ⟨Nat.le_of_ble_eq_true rfl, Nat.le_of_ble_eq_true rfl⟩ dX7_held_6 ?_
  refine x_iret h hr ?_ dX7_held_9
  exact ⟨_, _, rfl, rfl, rfl, rfl⟩
set_option maxRecDepth 100000 in
set_option maxHeartbeats 4000000 in
theorem c_X7_changed (B : BT) (σ : Nat → Nat → Int32) (q n m : Nat) (hq : ArrC q n) (hm : m < n) (hn : n < 2 ^ 31) (v : Int32) : CI B yX7_changed cX7_changed 4 (some .int) ({ frames := 0, cells := 0, slots := 0, locals := 0 }) [.ref (aB B q), .int (nI m), .int v] σ (fun r σ' => r = σ q m ∧ σ' = up2 σ q m v) := by
  refine MX.of2 RX7 (by decide) rfl ⟨rfl, rfl⟩ (Nat.le_of_ble_eq_true rfl) (by rfl) (fun k h hr hk => ?_)
  show XC B k σ 0 [some (.ref (aB B q)), some (.int (nI m)), some (.int v), none] []
  refine x_ald0 h dX7_changed_0 ?_
  refine x_ild1 h dX7_changed_1 ?_
  refine xc_ialdN (m) (rfl) (hm) (hn) h q hq dX7_changed_2 ?_
  refine x_ist3 h dX7_changed_3 (by rw [hk]; decide) rfl ?_
  refine x_ald0 h dX7_changed_4 ?_
  refine x_ild1 h dX7_changed_5 ?_
  refine x_ild2 h dX7_changed_6 ?_
  refine xc_iastN (m) (rfl) (hm) (hn) h q hq dX7_changed_7 ?_
  refine x_ild3 h dX7_changed_8 ?_
  refine x_iret h hr ?_ dX7_changed_9
  exact ⟨_, _, rfl, rfl, rfl, rfl⟩
set_option maxRecDepth 100000 in
set_option maxHeartbeats 4000000 in
theorem c_X7_isDancer (B : BT) (σ : Nat → Nat → Int32) (x : Int32) : CI B yX7_isDancer cX7_isDancer 2 (some .boolean) ({ frames := 0, cells := 0, slots := 0, locals := 0 }) [.ref (aB B 30), .int x] σ (fun r σ' => r = bI (¬ x < 0 ∧ ¬ σ 0 0 ≤ x) ∧ σ' = σ) := by
  refine MX.of2 RX7 (by decide) rfl ⟨rfl, rfl⟩ (Nat.le_of_ble_eq_true rfl) (by rfl) (fun k h hr hk => ?_)
  show XC B k σ 0 [some (.ref (aB B 30)), some (.int x)] []
  refine x_ild1 h dX7_isDancer_0 ?_
  refine x_if_lt 19 h dX7_isDancer_1 (by decide) (fun c1 => ?_) (fun c1 => ?_)
  · refine x_iconst (v := 0) h dX7_isDancer_19 rfl ?_
    refine x_zret h hr (by decide) ?_ dX7_isDancer_20
    exact ⟨_, _, rfl, rfl, bI_e (by simp_all), rfl⟩
  · refine x_ild1 h dX7_isDancer_4 ?_
    refine x_ald0 h dX7_isDancer_5 ?_
    refine r_X7_10 h dX7_isDancer_6 ?_
    refine r0_X7_86 h dX7_isDancer_9 ?_
    refine x_icmp_ge 19 h dX7_isDancer_12 (by decide) (fun c12 => ?_) (fun c12 => ?_)
    · refine x_iconst (v := 0) h dX7_isDancer_19 rfl ?_
      refine x_zret h hr (by decide) ?_ dX7_isDancer_20
      exact ⟨_, _, rfl, rfl, bI_e (by simp_all), rfl⟩
    · refine x_iconst (v := 1) h dX7_isDancer_15 rfl ?_
      refine x_goto 20 h dX7_isDancer_16 (by decide) ?_
      refine x_zret h hr (by decide) ?_ dX7_isDancer_20
      exact ⟨_, _, rfl, rfl, bI_e (by simp_all), rfl⟩
