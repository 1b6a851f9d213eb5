/-! the constructors: words -/
theorem uA_int : Cond.arrayClass .int ∈ UW := uw_of 138 (by decide +kernel) rfl
theorem uA_long : Cond.arrayClass .long ∈ UW := uw_of 907 (by decide +kernel) rfl
theorem uA_char : Cond.arrayClass .char ∈ UW := uw_of 908 (by decide +kernel) rfl
theorem uA_boolean : Cond.arrayClass .boolean ∈ UW := uw_of 909 (by decide +kernel) rfl
theorem uO_m : Cond.instanceMethod Lib.objectInit ∈ UW := uw_of 65 (by decide +kernel) rfl
theorem uO_c : Cond.code Lib.objectInit ⟨#[0xb1]⟩ 1 none ∈ UW := uw_of 66 (by decide +kernel) rfl
theorem uO_X0 : Cond.methodLink RX0 3 Lib.objectInit ∈ UW := uw_of 72 (by decide +kernel) rfl
theorem uN_X0 : Cond.instantiable RX0 16 ∈ UW := uw_of 68 (by decide +kernel) rfl
theorem uO_X2 : Cond.methodLink RX2 3 Lib.objectInit ∈ UW := uw_of 193 (by decide +kernel) rfl
theorem uN_X2 : Cond.instantiable RX2 5 ∈ UW := uw_of 189 (by decide +kernel) rfl
theorem uO_X3 : Cond.methodLink RX3 3 Lib.objectInit ∈ UW := uw_of 169 (by decide +kernel) rfl
theorem uN_X3 : Cond.instantiable RX3 4 ∈ UW := uw_of 165 (by decide +kernel) rfl
theorem uO_X4 : Cond.methodLink RX4 3 Lib.objectInit ∈ UW := uw_of 222 (by decide +kernel) rfl
theorem uN_X4 : Cond.instantiable RX4 3 ∈ UW := uw_of 218 (by decide +kernel) rfl
theorem uO_X5 : Cond.methodLink RX5 3 Lib.objectInit ∈ UW := uw_of 240 (by decide +kernel) rfl
theorem uN_X5 : Cond.instantiable RX5 5 ∈ UW := uw_of 236 (by decide +kernel) rfl
theorem uO_X6 : Cond.methodLink RX6 3 Lib.objectInit ∈ UW := uw_of 144 (by decide +kernel) rfl
theorem uN_X6 : Cond.instantiable RX6 5 ∈ UW := uw_of 140 (by decide +kernel) rfl
theorem uO_X7 : Cond.methodLink RX7 1 Lib.objectInit ∈ UW := uw_of 64 (by decide +kernel) rfl
theorem uN_X7 : Cond.instantiable RX7 12 ∈ UW := uw_of 60 (by decide +kernel) rfl
theorem uO_X8 : Cond.methodLink RX8 1 Lib.objectInit ∈ UW := uw_of 800 (by decide +kernel) rfl
theorem uN_X8 : Cond.instantiable RX8 35 ∈ UW := uw_of 796 (by decide +kernel) rfl
theorem uk_L_7 : Cond.classLink RL 7 RX7 ∈ UW := uw_of 59 (by decide +kernel) rfl
theorem ui_L_9 : Cond.methodLink RL 9 yX7_init ∈ UW := uw_of 61 (by decide +kernel) rfl
theorem uk_X7_7 : Cond.classLink RX7 7 RX0 ∈ UW := uw_of 67 (by decide +kernel) rfl
theorem ui_X7_9 : Cond.methodLink RX7 9 yX0_init ∈ UW := uw_of 69 (by decide +kernel) rfl
theorem uk_X7_30 : Cond.classLink RX7 30 RX6 ∈ UW := uw_of 139 (by decide +kernel) rfl
theorem uk_X7_37 : Cond.classLink RX7 37 RX3 ∈ UW := uw_of 164 (by decide +kernel) rfl
theorem uk_X7_44 : Cond.classLink RX7 44 RX2 ∈ UW := uw_of 188 (by decide +kernel) rfl
theorem uk_X2_9 : Cond.classLink RX2 9 ("[" ++ (FieldType.array .int).toString) ∈ UW := uw_of 194 (by decide +kernel) rfl
theorem uk_X7_51 : Cond.classLink RX7 51 RX4 ∈ UW := uw_of 214 (by decide +kernel) rfl
theorem uk_X7_57 : Cond.classLink RX7 57 RX5 ∈ UW := uw_of 216 (by decide +kernel) rfl
theorem uk_X5_24 : Cond.classLink RX5 24 RX4 ∈ UW := uw_of 241 (by decide +kernel) rfl
theorem uk_L_10 : Cond.classLink RL 10 RX8 ∈ UW := uw_of 795 (by decide +kernel) rfl
theorem ui_L_12 : Cond.methodLink RL 12 yX8_init ∈ UW := uw_of 797 (by decide +kernel) rfl
theorem dfX0 : ∀ j, j < 16 → defaultValue (tyX0 j) = vp_V [.int 0, .null, .null, .null, .null, .null, .null, .null, .null, .int 0, .int 0, .int 0, .int 0, .int 0, .int 0, .null] j := by
  intro j hj
  match j, hj with
  | 0, _ => rfl
  | 1, _ => rfl
  | 2, _ => rfl
  | 3, _ => rfl
  | 4, _ => rfl
  | 5, _ => rfl
  | 6, _ => rfl
  | 7, _ => rfl
  | 8, _ => rfl
  | 9, _ => rfl
  | 10, _ => rfl
  | 11, _ => rfl
  | 12, _ => rfl
  | 13, _ => rfl
  | 14, _ => rfl
  | 15, _ => rfl
  | n + 16, h => omega
theorem dfX2 : ∀ j, j < 5 → defaultValue (tyX2 j) = vp_V [.null, .null, .null, .null, .null] j := by
  intro j hj
  match j, hj with
  | 0, _ => rfl
  | 1, _ => rfl
  | 2, _ => rfl
  | 3, _ => rfl
  | 4, _ => rfl
  | n + 5, h => omega
theorem dfX3 : ∀ j, j < 4 → defaultValue (tyX3 j) = vp_V [.null, .int 0, .int 0, .int 0] j := by
  intro j hj
  match j, hj with
  | 0, _ => rfl
  | 1, _ => rfl
  | 2, _ => rfl
  | 3, _ => rfl
  | n + 4, h => omega
theorem dfX4 : ∀ j, j < 3 → defaultValue (tyX4 j) = vp_V [.int 0, .int 0, .null] j := by
  intro j hj
  match j, hj with
  | 0, _ => rfl
  | 1, _ => rfl
  | 2, _ => rfl
  | n + 3, h => omega
theorem dfX5 : ∀ j, j < 5 → defaultValue (tyX5 j) = vp_V [.int 0, .int 0, .int 0, .int 0, .null] j := by
  intro j hj
  match j, hj with
  | 0, _ => rfl
  | 1, _ => rfl
  | 2, _ => rfl
  | 3, _ => rfl
  | 4, _ => rfl
  | n + 5, h => omega
theorem dfX6 : ∀ j, j < 5 → defaultValue (tyX6 j) = vp_V [.null, .int 0, .int 0, .int 0, .int 0] j := by
  intro j hj
  match j, hj with
  | 0, _ => rfl
  | 1, _ => rfl
  | 2, _ => rfl
  | 3, _ => rfl
  | 4, _ => rfl
  | n + 5, h => omega
theorem dfX7 : ∀ j, j < 12 → defaultValue (tyX7 j) = vp_V [.null, .null, .int 0, .null, .null, .null, .null, .null, .null, .null, .null, .int 0] j := by
  intro j hj
  match j, hj with
  | 0, _ => rfl
  | 1, _ => rfl
  | 2, _ => rfl
  | 3, _ => rfl
  | 4, _ => rfl
  | 5, _ => rfl
  | 6, _ => rfl
  | 7, _ => rfl
  | 8, _ => rfl
  | 9, _ => rfl
  | 10, _ => rfl
  | 11, _ => rfl
  | n + 12, h => omega
theorem dfX8 : ∀ j, j < 35 → defaultValue (tyX8 j) = vp_V [.null, .null, .null, .int 0, .null, .null, .null, .null, .int 0, .int 0, .int 0, .int 0, .int 0, .int 0, .int 0, .null, .null, .null, .int 0, .int 0, .null, .int 0, .null, .null, .null, .null, .null, .null, .null, .null, .null, .null, .null, .null, .int 0] j := by
  intro j hj
  match j, hj with
  | 0, _ => rfl
  | 1, _ => rfl
  | 2, _ => rfl
  | 3, _ => rfl
  | 4, _ => rfl
  | 5, _ => rfl
  | 6, _ => rfl
  | 7, _ => rfl
  | 8, _ => rfl
  | 9, _ => rfl
  | 10, _ => rfl
  | 11, _ => rfl
  | 12, _ => rfl
  | 13, _ => rfl
  | 14, _ => rfl
  | 15, _ => rfl
  | 16, _ => rfl
  | 17, _ => rfl
  | 18, _ => rfl
  | 19, _ => rfl
  | 20, _ => rfl
  | 21, _ => rfl
  | 22, _ => rfl
  | 23, _ => rfl
  | 24, _ => rfl
  | 25, _ => rfl
  | 26, _ => rfl
  | 27, _ => rfl
  | 28, _ => rfl
  | 29, _ => rfl
  | 30, _ => rfl
  | 31, _ => rfl
  | 32, _ => rfl
  | 33, _ => rfl
  | 34, _ => rfl
  | n + 35, h => omega
section YR2
variable {E : ET} {k : KT} {cc : ByteArray} {own : String} {rm : Room} {ws : va_W} {cl sl pc : Nat} {L : List (Option Value)} {st : List Value}
theorem y_icmp_ge {x y : Int32} {off : Int} (tgt : Nat) (h : OkY E k cc own rm) (hdg : decode cc pc = .ok (.if_icmp .ge off, 3)) (ht : (pc : Int) + off = (tgt : Int)) (kt : y ≤ x → Y E k ws cl sl tgt L st) (kf : ¬ (y ≤ x) → Y E k ws cl sl (pc + 3) L st) : Y E k ws cl sl pc L (.int y :: .int x :: st) := fun H locs ls hP hD hS hl => lv_icmp_ge h.1 h.2.1 hdg ht (fun c => kt c H locs ls hP hD hS hl) (fun c => kf c H locs ls hP hD hS hl)
theorem y_inc1 {a0 : Option Value} {t : List (Option Value)} {x y : Int32} {n : Int} (h : OkY E k cc own rm) (hdg : decode cc pc = .ok (.iinc 1 n, 3)) (hn : 1 < kL k) (hq : c1o (some a0) = true) (hv : Int32.ofInt n = y) (kk : Y E k ws cl sl (pc + 3) (a0 :: some (.int (x + y)) :: t) st) : Y E k ws cl sl pc (a0 :: some (.int x) :: t) st := by
  intro H locs ls hP hD hS hl
  obtain ⟨j, hj⟩ := List.getElem?_of_mem (lhl_mem.mpr (show (a0 :: some (.int x) :: t)[1]? = some (some (.int x)) from rfl))
  exact lv_iinc h.1 h.2.1 hdg (lh_has hl) (k := j) hj (by rw [hv]) hn rfl (fun ls' hl' => kk H locs ls' hP hD hS (lh_set (i := 1) (L := a0 :: some (.int x) :: t) (Or.inr hq) hl'))
end YR2
set_option maxRecDepth 100000 in
set_option maxHeartbeats 4000000 in
theorem n_X4 (E : ET) : NX E yX4_init cX4_init 1 ({ frames := 2, cells := 1, slots := 24, locals := 65 }) 1 24 (.inr (3, [.int 0, .int 0, .null])) (fun a w => ∃ g : Nat, w = [(a, .inr (3, [.int (-1), .int 0, .ref g])), (g, .inl (E.2.2 0, 24, .inl (fun _ => 0)))]) := by
  refine NX.of RX4 (by decide) rfl rfl (by decide) (fun k a0 h hr hk => ?_)
  have hNU := h.2.2.2.2.2.2.2.2
  show Y E k [(a0, .inr (3, [.int 0, .int 0, .null]))] 0 0 0 [some (.ref a0)] []
  refine y_ald0 h dX4_init_0 ?_
  refine y_obj h uO_X4 uO_m uO_c ⟨Nat.le_of_ble_eq_true rfl, Nat.le_of_ble_eq_true rfl⟩ dX4_init_1 ?_
  show Y E k [(a0, .inr (3, [.int 0, .int 0, .null]))] 0 0 4 [some (.ref a0)] []
  refine y_ald0 h dX4_init_4 ?_
  refine y_iconst (v := (-1)) h dX4_init_5 rfl ?_
  refine y_put h hr 0 rfl rfl uwX4 tyX4 tyX4_ok nmX4 (show 0 < 3 by decide) fl_X4_9 rfl rfl rfl rfl rfl (Nat.le_of_ble_eq_true rfl) dX4_init_6 ?_
  show Y E k [(a0, .inr (3, [.int (-1), .int 0, .null]))] 0 0 9 [some (.ref a0)] []
  refine y_ald0 h dX4_init_9 ?_
  refine y_iconst (v := 0) h dX4_init_10 rfl ?_
  refine y_put h hr 0 rfl rfl uwX4 tyX4 tyX4_ok nmX4 (show 1 < 3 by decide) fl_X4_15 rfl rfl rfl rfl rfl (Nat.le_of_ble_eq_true rfl) dX4_init_11 ?_
  show Y E k [(a0, .inr (3, [.int (-1), .int 0, .null]))] 0 0 14 [some (.ref a0)] []
  refine y_ald0 h dX4_init_14 ?_
  refine y_bipush (v := 24) h dX4_init_15 rfl ?_
  refine y_newI (N := 24) h uA_int (by decide) rfl (by decide) (Nat.le_of_ble_eq_true rfl) (Nat.le_of_ble_eq_true rfl) dX4_init_17 (fun q17 => ?_)
  show Y E k [(a0, .inr (3, [.int (-1), .int 0, .null])), (q17, .inl (E.2.2 0, 24, .inl (fun _ => 0)))] 1 24 19 [some (.ref a0)] [.ref q17, .ref a0]
  refine y_put h hr 0 rfl rfl uwX4 tyX4 tyX4_ok nmX4 (show 2 < 3 by decide) fl_X4_18 rfl rfl rfl rfl rfl (Nat.le_of_ble_eq_true rfl) dX4_init_19 ?_
  show Y E k [(a0, .inr (3, [.int (-1), .int 0, .ref q17])), (q17, .inl (E.2.2 0, 24, .inl (fun _ => 0)))] 1 24 22 [some (.ref a0)] []
  exact y_vret h hr (⟨q17, rfl⟩) dX4_init_22
set_option maxRecDepth 100000 in
set_option maxHeartbeats 4000000 in
theorem n_X6 (E : ET) : NX E yX6_init cX6_init 1 ({ frames := 2, cells := 1, slots := 96, locals := 65 }) 1 96 (.inr (5, [.null, .int 0, .int 0, .int 0, .int 0])) (fun a w => ∃ g : Nat, w = [(a, .inr (5, [.ref g, .int 0, .int 0, .int 0, .int 0])), (g, .inl (E.2.2 0, 96, .inl (fun _ => 0)))]) := by
  refine NX.of RX6 (by decide) rfl rfl (by decide) (fun k a0 h hr hk => ?_)
  have hNU := h.2.2.2.2.2.2.2.2
  show Y E k [(a0, .inr (5, [.null, .int 0, .int 0, .int 0, .int 0]))] 0 0 0 [some (.ref a0)] []
  refine y_ald0 h dX6_init_0 ?_
  refine y_obj h uO_X6 uO_m uO_c ⟨Nat.le_of_ble_eq_true rfl, Nat.le_of_ble_eq_true rfl⟩ dX6_init_1 ?_
  show Y E k [(a0, .inr (5, [.null, .int 0, .int 0, .int 0, .int 0]))] 0 0 4 [some (.ref a0)] []
  refine y_ald0 h dX6_init_4 ?_
  refine y_bipush (v := 96) h dX6_init_5 rfl ?_
  refine y_newI (N := 96) h uA_int (by decide) rfl (by decide) (Nat.le_of_ble_eq_true rfl) (Nat.le_of_ble_eq_true rfl) dX6_init_7 (fun q7 => ?_)
  show Y E k [(a0, .inr (5, [.null, .int 0, .int 0, .int 0, .int 0])), (q7, .inl (E.2.2 0, 96, .inl (fun _ => 0)))] 1 96 9 [some (.ref a0)] [.ref q7, .ref a0]
  refine y_put h hr 0 rfl rfl uwX6 tyX6 tyX6_ok nmX6 (show 0 < 5 by decide) fl_X6_9 rfl rfl rfl rfl rfl (Nat.le_of_ble_eq_true rfl) dX6_init_9 ?_
  show Y E k [(a0, .inr (5, [.ref q7, .int 0, .int 0, .int 0, .int 0])), (q7, .inl (E.2.2 0, 96, .inl (fun _ => 0)))] 1 96 12 [some (.ref a0)] []
  refine y_ald0 h dX6_init_12 ?_
  refine y_iconst (v := 0) h dX6_init_13 rfl ?_
  refine y_put h hr 0 rfl rfl uwX6 tyX6 tyX6_ok nmX6 (show 1 < 5 by decide) fl_X6_15 rfl rfl rfl rfl rfl (Nat.le_of_ble_eq_true rfl) dX6_init_14 ?_
  show Y E k [(a0, .inr (5, [.ref q7, .int 0, .int 0, .int 0, .int 0])), (q7, .inl (E.2.2 0, 96, .inl (fun _ => 0)))] 1 96 17 [some (.ref a0)] []
  refine y_ald0 h dX6_init_17 ?_
  refine y_iconst (v := 0) h dX6_init_18 rfl ?_
  refine y_put h hr 0 rfl rfl uwX6 tyX6 tyX6_ok nmX6 (show 2 < 5 by decide) fl_X6_19 rfl rfl rfl rfl rfl (Nat.le_of_ble_eq_true rfl) dX6_init_19 ?_
  show Y E k [(a0, .inr (5, [.ref q7, .int 0, .int 0, .int 0, .int 0])), (q7, .inl (E.2.2 0, 96, .inl (fun _ => 0)))] 1 96 22 [some (.ref a0)] []
  refine y_ald0 h dX6_init_22 ?_
  refine y_iconst (v := 0) h dX6_init_23 rfl ?_
  refine y_put h hr 0 rfl rfl uwX6 tyX6 tyX6_ok nmX6 (show 3 < 5 by decide) fl_X6_22 rfl rfl rfl rfl rfl (Nat.le_of_ble_eq_true rfl) dX6_init_24 ?_
  show Y E k [(a0, .inr (5, [.ref q7, .int 0, .int 0, .int 0, .int 0])), (q7, .inl (E.2.2 0, 96, .inl (fun _ => 0)))] 1 96 27 [some (.ref a0)] []
  refine y_ald0 h dX6_init_27 ?_
  refine y_iconst (v := 0) h dX6_init_28 rfl ?_
  refine y_put h hr 0 rfl rfl uwX6 tyX6 tyX6_ok nmX6 (show 4 < 5 by decide) fl_X6_25 rfl rfl rfl rfl rfl (Nat.le_of_ble_eq_true rfl) dX6_init_29 ?_
  show Y E k [(a0, .inr (5, [.ref q7, .int 0, .int 0, .int 0, .int 0])), (q7, .inl (E.2.2 0, 96, .inl (fun _ => 0)))] 1 96 32 [some (.ref a0)] []
  exact y_vret h hr (⟨q7, rfl⟩) dX6_init_32
set_option maxRecDepth 100000 in
set_option maxHeartbeats 4000000 in
theorem n_X3 (E : ET) : NX E yX3_init cX3_init 1 ({ frames := 2, cells := 1, slots := 96, locals := 65 }) 1 96 (.inr (2, [.null, .int 0, .int 0, .int 0])) (fun a w => ∃ g : Nat, w = [(a, .inr (2, [.ref g, .int 0, .int 0, .int 0])), (g, .inl (E.2.2 0, 96, .inl (fun _ => 0)))]) := by
  refine NX.of RX3 (by decide) rfl rfl (by decide) (fun k a0 h hr hk => ?_)
  have hNU := h.2.2.2.2.2.2.2.2
  show Y E k [(a0, .inr (2, [.null, .int 0, .int 0, .int 0]))] 0 0 0 [some (.ref a0)] []
  refine y_ald0 h dX3_init_0 ?_
  refine y_obj h uO_X3 uO_m uO_c ⟨Nat.le_of_ble_eq_true rfl, Nat.le_of_ble_eq_true rfl⟩ dX3_init_1 ?_
  show Y E k [(a0, .inr (2, [.null, .int 0, .int 0, .int 0]))] 0 0 4 [some (.ref a0)] []
  refine y_ald0 h dX3_init_4 ?_
  refine y_bipush (v := 96) h dX3_init_5 rfl ?_
  refine y_newI (N := 96) h uA_int (by decide) rfl (by decide) (Nat.le_of_ble_eq_true rfl) (Nat.le_of_ble_eq_true rfl) dX3_init_7 (fun q7 => ?_)
  show Y E k [(a0, .inr (2, [.null, .int 0, .int 0, .int 0])), (q7, .inl (E.2.2 0, 96, .inl (fun _ => 0)))] 1 96 9 [some (.ref a0)] [.ref q7, .ref a0]
  refine y_put h hr 0 rfl rfl uwX3 tyX3 tyX3_ok nmX3 (show 0 < 4 by decide) fl_X3_9 rfl rfl rfl rfl rfl (Nat.le_of_ble_eq_true rfl) dX3_init_9 ?_
  show Y E k [(a0, .inr (2, [.ref q7, .int 0, .int 0, .int 0])), (q7, .inl (E.2.2 0, 96, .inl (fun _ => 0)))] 1 96 12 [some (.ref a0)] []
  refine y_ald0 h dX3_init_12 ?_
  refine y_iconst (v := 0) h dX3_init_13 rfl ?_
  refine y_put h hr 0 rfl rfl uwX3 tyX3 tyX3_ok nmX3 (show 1 < 4 by decide) fl_X3_15 rfl rfl rfl rfl rfl (Nat.le_of_ble_eq_true rfl) dX3_init_14 ?_
  show Y E k [(a0, .inr (2, [.ref q7, .int 0, .int 0, .int 0])), (q7, .inl (E.2.2 0, 96, .inl (fun _ => 0)))] 1 96 17 [some (.ref a0)] []
  refine y_ald0 h dX3_init_17 ?_
  refine y_iconst (v := 0) h dX3_init_18 rfl ?_
  refine y_put h hr 0 rfl rfl uwX3 tyX3 tyX3_ok nmX3 (show 2 < 4 by decide) fl_X3_19 rfl rfl rfl rfl rfl (Nat.le_of_ble_eq_true rfl) dX3_init_19 ?_
  show Y E k [(a0, .inr (2, [.ref q7, .int 0, .int 0, .int 0])), (q7, .inl (E.2.2 0, 96, .inl (fun _ => 0)))] 1 96 22 [some (.ref a0)] []
  refine y_ald0 h dX3_init_22 ?_
  refine y_iconst (v := 0) h dX3_init_23 rfl ?_
  refine y_put h hr 0 rfl rfl uwX3 tyX3 tyX3_ok nmX3 (show 3 < 4 by decide) fl_X3_22 rfl rfl rfl rfl rfl (Nat.le_of_ble_eq_true rfl) dX3_init_24 ?_
  show Y E k [(a0, .inr (2, [.ref q7, .int 0, .int 0, .int 0])), (q7, .inl (E.2.2 0, 96, .inl (fun _ => 0)))] 1 96 27 [some (.ref a0)] []
  exact y_vret h hr (⟨q7, rfl⟩) dX3_init_27
set_option maxRecDepth 100000 in
set_option maxHeartbeats 4000000 in
theorem n_X5 (E : ET) : NX E yX5_init cX5_init 1 ({ frames := 3, cells := 2, slots := 27, locals := 85 }) 2 27 (.inr (4, [.int 0, .int 0, .int 0, .int 0, .null])) (fun a w => ∃ g : Nat → Nat, w = [(a, .inr (4, [.int 0, .int 0, .int 0, .int 0, .ref (g 0)])), ((g 0), .inr (3, [.int (-1), .int 0, .ref (g 1)])), ((g 1), .inl (E.2.2 0, 24, .inl (fun _ => 0)))]) := by
  refine NX.of RX5 (by decide) rfl rfl (by decide) (fun k a0 h hr hk => ?_)
  have hNU := h.2.2.2.2.2.2.2.2
  show Y E k [(a0, .inr (4, [.int 0, .int 0, .int 0, .int 0, .null]))] 0 0 0 [some (.ref a0)] []
  refine y_ald0 h dX5_init_0 ?_
  refine y_obj h uO_X5 uO_m uO_c ⟨Nat.le_of_ble_eq_true rfl, Nat.le_of_ble_eq_true rfl⟩ dX5_init_1 ?_
  show Y E k [(a0, .inr (4, [.int 0, .int 0, .int 0, .int 0, .null]))] 0 0 4 [some (.ref a0)] []
  refine y_ald0 h dX5_init_4 ?_
  refine y_iconst (v := 0) h dX5_init_5 rfl ?_
  refine y_put h hr 0 rfl rfl uwX5 tyX5 tyX5_ok nmX5 (show 0 < 5 by decide) fl_X5_9 rfl rfl rfl rfl rfl (Nat.le_of_ble_eq_true rfl) dX5_init_6 ?_
  show Y E k [(a0, .inr (4, [.int 0, .int 0, .int 0, .int 0, .null]))] 0 0 9 [some (.ref a0)] []
  refine y_ald0 h dX5_init_9 ?_
  refine y_iconst (v := 0) h dX5_init_10 rfl ?_
  refine y_put h hr 0 rfl rfl uwX5 tyX5 tyX5_ok nmX5 (show 1 < 5 by decide) fl_X5_15 rfl rfl rfl rfl rfl (Nat.le_of_ble_eq_true rfl) dX5_init_11 ?_
  show Y E k [(a0, .inr (4, [.int 0, .int 0, .int 0, .int 0, .null]))] 0 0 14 [some (.ref a0)] []
  refine y_ald0 h dX5_init_14 ?_
  refine y_iconst (v := 0) h dX5_init_15 rfl ?_
  refine y_put h hr 0 rfl rfl uwX5 tyX5 tyX5_ok nmX5 (show 2 < 5 by decide) fl_X5_18 rfl rfl rfl rfl rfl (Nat.le_of_ble_eq_true rfl) dX5_init_16 ?_
  show Y E k [(a0, .inr (4, [.int 0, .int 0, .int 0, .int 0, .null]))] 0 0 19 [some (.ref a0)] []
  refine y_ald0 h dX5_init_19 ?_
  refine y_iconst (v := 0) h dX5_init_20 rfl ?_
  refine y_put h hr 0 rfl rfl uwX5 tyX5 tyX5_ok nmX5 (show 3 < 5 by decide) fl_X5_21 rfl rfl rfl rfl rfl (Nat.le_of_ble_eq_true rfl) dX5_init_21 ?_
  show Y E k [(a0, .inr (4, [.int 0, .int 0, .int 0, .int 0, .null]))] 0 0 24 [some (.ref a0)] []
  refine y_ald0 h dX5_init_24 ?_
  refine y_new h (show vwCl[3]? = some (RX4, TX4, 3) from rfl) uwX4 tyX4 tyX4_ok uk_X5_24 uN_X4 uI_RX4 dfX4 (Nat.le_of_ble_eq_true rfl) (Nat.le_of_ble_eq_true rfl) dX5_init_25 (fun q25 => ?_)
  show Y E k [(a0, .inr (4, [.int 0, .int 0, .int 0, .int 0, .null])), (q25, .inr (3, [.int 0, .int 0, .null]))] 1 3 28 [some (.ref a0)] [.ref q25, .ref a0]
  refine y_dup h dX5_init_28 rfl ?_
  refine y_callN RX7 [(a0, .inr (4, [.int 0, .int 0, .int 0, .int 0, .null]))] h uC_X4_init uI_RX4 ⟨by decide, by decide, by decide +kernel⟩ hNU.2.2.2.2.2.1 uM_X4_init rfl (n_X4 E) rfl ⟨rfl, rfl⟩ ⟨Nat.le_of_ble_eq_true rfl, Nat.le_of_ble_eq_true rfl⟩ ⟨Nat.le_of_ble_eq_true rfl, Nat.le_of_ble_eq_true rfl⟩ (Nat.le_of_ble_eq_true rfl) dX5_init_29 (fun w29 p29 => ?_)
  obtain ⟨g29, rfl⟩ := p29
  show Y E k [(a0, .inr (4, [.int 0, .int 0, .int 0, .int 0, .null])), (q25, .inr (3, [.int (-1), .int 0, .ref g29])), (g29, .inl (E.2.2 0, 24, .inl (fun _ => 0)))] 2 27 32 [some (.ref a0)] [.ref q25, .ref a0]
  refine y_put h hr 0 rfl rfl uwX5 tyX5 tyX5_ok nmX5 (show 4 < 5 by decide) fl_X5_27 rfl rfl rfl rfl rfl (Nat.le_of_ble_eq_true rfl) dX5_init_32 ?_
  show Y E k [(a0, .inr (4, [.int 0, .int 0, .int 0, .int 0, .ref q25])), (q25, .inr (3, [.int (-1), .int 0, .ref g29])), (g29, .inl (E.2.2 0, 24, .inl (fun _ => 0)))] 2 27 35 [some (.ref a0)] []
  exact y_vret h hr (⟨fun i => if i = 0 then q25 else g29, rfl⟩) dX5_init_35
set_option maxRecDepth 100000 in
set_option maxHeartbeats 4000000 in
theorem n_X2 (E : ET) : NX E yX2_init cX2_init 1 ({ frames := 2, cells := 19, slots := 1496, locals := 65 }) 19 1496 (.inr (1, [.null, .null, .null, .null, .null])) (fun a w => ∃ g : Nat → Nat, w = [(a, .inr (1, [.ref (g 0), .ref (g 1), .ref (g 2), .ref (g 3), .ref (g 4)])), ((g 0), outE E (g 0)), ((g 0 + 1 + 0), .inl (E.2.2 0, 96, .inl (fun _ => 0))), ((g 0 + 1 + 1), .inl (E.2.2 0, 96, .inl (fun _ => 0))), ((g 0 + 1 + 2), .inl (E.2.2 0, 96, .inl (fun _ => 0))), ((g 0 + 1 + 3), .inl (E.2.2 0, 96, .inl (fun _ => 0))), ((g 0 + 1 + 4), .inl (E.2.2 0, 96, .inl (fun _ => 0))), ((g 0 + 1 + 5), .inl (E.2.2 0, 96, .inl (fun _ => 0))), ((g 0 + 1 + 6), .inl (E.2.2 0, 96, .inl (fun _ => 0))), ((g 0 + 1 + 7), .inl (E.2.2 0, 96, .inl (fun _ => 0))), ((g 0 + 1 + 8), .inl (E.2.2 0, 96, .inl (fun _ => 0))), ((g 0 + 1 + 9), .inl (E.2.2 0, 96, .inl (fun _ => 0))), ((g 0 + 1 + 10), .inl (E.2.2 0, 96, .inl (fun _ => 0))), ((g 0 + 1 + 11), .inl (E.2.2 0, 96, .inl (fun _ => 0))), ((g 0 + 1 + 12), .inl (E.2.2 0, 96, .inl (fun _ => 0))), ((g 0 + 1 + 13), .inl (E.2.2 0, 96, .inl (fun _ => 0))), ((g 1), .inl (E.2.2 0, 14, .inl (fun _ => 0))), ((g 2), .inl (E.2.2 0, 14, .inl (fun _ => 0))), ((g 3), .inl (E.2.2 0, 14, .inl (fun _ => 0))), ((g 4), .inl (E.2.2 0, 96, .inl (fun _ => 0)))]) := by
  refine NX.of RX2 (by decide) rfl rfl (by decide) (fun k a0 h hr hk => ?_)
  have hNU := h.2.2.2.2.2.2.2.2
  show Y E k [(a0, .inr (1, [.null, .null, .null, .null, .null]))] 0 0 0 [some (.ref a0)] []
  refine y_ald0 h dX2_init_0 ?_
  refine y_obj h uO_X2 uO_m uO_c ⟨Nat.le_of_ble_eq_true rfl, Nat.le_of_ble_eq_true rfl⟩ dX2_init_1 ?_
  show Y E k [(a0, .inr (1, [.null, .null, .null, .null, .null]))] 0 0 4 [some (.ref a0)] []
  refine y_ald0 h dX2_init_4 ?_
  refine y_bipush (v := 14) h dX2_init_5 rfl ?_
  refine y_bipush (v := 96) h dX2_init_7 rfl ?_
  refine y_mna h uk_X2_9 uA_int (Nat.le_of_ble_eq_true rfl) (Nat.le_of_ble_eq_true rfl) dX2_init_9 (fun q9 => ?_)
  show Y E k [(a0, .inr (1, [.null, .null, .null, .null, .null])), (q9, outE E q9), ((q9 + 1 + 0), .inl (E.2.2 0, 96, .inl (fun _ => 0))), ((q9 + 1 + 1), .inl (E.2.2 0, 96, .inl (fun _ => 0))), ((q9 + 1 + 2), .inl (E.2.2 0, 96, .inl (fun _ => 0))), ((q9 + 1 + 3), .inl (E.2.2 0, 96, .inl (fun _ => 0))), ((q9 + 1 + 4), .inl (E.2.2 0, 96, .inl (fun _ => 0))), ((q9 + 1 + 5), .inl (E.2.2 0, 96, .inl (fun _ => 0))), ((q9 + 1 + 6), .inl (E.2.2 0, 96, .inl (fun _ => 0))), ((q9 + 1 + 7), .inl (E.2.2 0, 96, .inl (fun _ => 0))), ((q9 + 1 + 8), .inl (E.2.2 0, 96, .inl (fun _ => 0))), ((q9 + 1 + 9), .inl (E.2.2 0, 96, .inl (fun _ => 0))), ((q9 + 1 + 10), .inl (E.2.2 0, 96, .inl (fun _ => 0))), ((q9 + 1 + 11), .inl (E.2.2 0, 96, .inl (fun _ => 0))), ((q9 + 1 + 12), .inl (E.2.2 0, 96, .inl (fun _ => 0))), ((q9 + 1 + 13), .inl (E.2.2 0, 96, .inl (fun _ => 0)))] 15 1358 13 [some (.ref a0)] [.ref q9, .ref a0]
  refine y_put h hr 0 rfl rfl uwX2 tyX2 tyX2_ok nmX2 (show 0 < 5 by decide) fl_X2_11 rfl rfl rfl rfl rfl (Nat.le_of_ble_eq_true rfl) dX2_init_13 ?_
  show Y E k [(a0, .inr (1, [.ref q9, .null, .null, .null, .null])), (q9, outE E q9), ((q9 + 1 + 0), .inl (E.2.2 0, 96, .inl (fun _ => 0))), ((q9 + 1 + 1), .inl (E.2.2 0, 96, .inl (fun _ => 0))), ((q9 + 1 + 2), .inl (E.2.2 0, 96, .inl (fun _ => 0))), ((q9 + 1 + 3), .inl (E.2.2 0, 96, .inl (fun _ => 0))), ((q9 + 1 + 4), .inl (E.2.2 0, 96, .inl (fun _ => 0))), ((q9 + 1 + 5), .inl (E.2.2 0, 96, .inl (fun _ => 0))), ((q9 + 1 + 6), .inl (E.2.2 0, 96, .inl (fun _ => 0))), ((q9 + 1 + 7), .inl (E.2.2 0, 96, .inl (fun _ => 0))), ((q9 + 1 + 8), .inl (E.2.2 0, 96, .inl (fun _ => 0))), ((q9 + 1 + 9), .inl (E.2.2 0, 96, .inl (fun _ => 0))), ((q9 + 1 + 10), .inl (E.2.2 0, 96, .inl (fun _ => 0))), ((q9 + 1 + 11), .inl (E.2.2 0, 96, .inl (fun _ => 0))), ((q9 + 1 + 12), .inl (E.2.2 0, 96, .inl (fun _ => 0))), ((q9 + 1 + 13), .inl (E.2.2 0, 96, .inl (fun _ => 0)))] 15 1358 16 [some (.ref a0)] []
  refine y_ald0 h dX2_init_16 ?_
  refine y_bipush (v := 14) h dX2_init_17 rfl ?_
  refine y_newI (N := 14) h uA_int (by decide) rfl (by decide) (Nat.le_of_ble_eq_true rfl) (Nat.le_of_ble_eq_true rfl) dX2_init_19 (fun q19 => ?_)
  show Y E k [(a0, .inr (1, [.ref q9, .null, .null, .null, .null])), (q9, outE E q9), ((q9 + 1 + 0), .inl (E.2.2 0, 96, .inl (fun _ => 0))), ((q9 + 1 + 1), .inl (E.2.2 0, 96, .inl (fun _ => 0))), ((q9 + 1 + 2), .inl (E.2.2 0, 96, .inl (fun _ => 0))), ((q9 + 1 + 3), .inl (E.2.2 0, 96, .inl (fun _ => 0))), ((q9 + 1 + 4), .inl (E.2.2 0, 96, .inl (fun _ => 0))), ((q9 + 1 + 5), .inl (E.2.2 0, 96, .inl (fun _ => 0))), ((q9 + 1 + 6), .inl (E.2.2 0, 96, .inl (fun _ => 0))), ((q9 + 1 + 7), .inl (E.2.2 0, 96, .inl (fun _ => 0))), ((q9 + 1 + 8), .inl (E.2.2 0, 96, .inl (fun _ => 0))), ((q9 + 1 + 9), .inl (E.2.2 0, 96, .inl (fun _ => 0))), ((q9 + 1 + 10), .inl (E.2.2 0, 96, .inl (fun _ => 0))), ((q9 + 1 + 11), .inl (E.2.2 0, 96, .inl (fun _ => 0))), ((q9 + 1 + 12), .inl (E.2.2 0, 96, .inl (fun _ => 0))), ((q9 + 1 + 13), .inl (E.2.2 0, 96, .inl (fun _ => 0))), (q19, .inl (E.2.2 0, 14, .inl (fun _ => 0)))] 16 1372 21 [some (.ref a0)] [.ref q19, .ref a0]
  refine y_put h hr 0 rfl rfl uwX2 tyX2 tyX2_ok nmX2 (show 1 < 5 by decide) fl_X2_16 rfl rfl rfl rfl rfl (Nat.le_of_ble_eq_true rfl) dX2_init_21 ?_
  show Y E k [(a0, .inr (1, [.ref q9, .ref q19, .null, .null, .null])), (q9, outE E q9), ((q9 + 1 + 0), .inl (E.2.2 0, 96, .inl (fun _ => 0))), ((q9 + 1 + 1), .inl (E.2.2 0, 96, .inl (fun _ => 0))), ((q9 + 1 + 2), .inl (E.2.2 0, 96, .inl (fun _ => 0))), ((q9 + 1 + 3), .inl (E.2.2 0, 96, .inl (fun _ => 0))), ((q9 + 1 + 4), .inl (E.2.2 0, 96, .inl (fun _ => 0))), ((q9 + 1 + 5), .inl (E.2.2 0, 96, .inl (fun _ => 0))), ((q9 + 1 + 6), .inl (E.2.2 0, 96, .inl (fun _ => 0))), ((q9 + 1 + 7), .inl (E.2.2 0, 96, .inl (fun _ => 0))), ((q9 + 1 + 8), .inl (E.2.2 0, 96, .inl (fun _ => 0))), ((q9 + 1 + 9), .inl (E.2.2 0, 96, .inl (fun _ => 0))), ((q9 + 1 + 10), .inl (E.2.2 0, 96, .inl (fun _ => 0))), ((q9 + 1 + 11), .inl (E.2.2 0, 96, .inl (fun _ => 0))), ((q9 + 1 + 12), .inl (E.2.2 0, 96, .inl (fun _ => 0))), ((q9 + 1 + 13), .inl (E.2.2 0, 96, .inl (fun _ => 0))), (q19, .inl (E.2.2 0, 14, .inl (fun _ => 0)))] 16 1372 24 [some (.ref a0)] []
  refine y_ald0 h dX2_init_24 ?_
  refine y_bipush (v := 14) h dX2_init_25 rfl ?_
  refine y_newI (N := 14) h uA_int (by decide) rfl (by decide) (Nat.le_of_ble_eq_true rfl) (Nat.le_of_ble_eq_true rfl) dX2_init_27 (fun q27 => ?_)
  show Y E k [(a0, .inr (1, [.ref q9, .ref q19, .null, .null, .null])), (q9, outE E q9), ((q9 + 1 + 0), .inl (E.2.2 0, 96, .inl (fun _ => 0))), ((q9 + 1 + 1), .inl (E.2.2 0, 96, .inl (fun _ => 0))), ((q9 + 1 + 2), .inl (E.2.2 0, 96, .inl (fun _ => 0))), ((q9 + 1 + 3), .inl (E.2.2 0, 96, .inl (fun _ => 0))), ((q9 + 1 + 4), .inl (E.2.2 0, 96, .inl (fun _ => 0))), ((q9 + 1 + 5), .inl (E.2.2 0, 96, .inl (fun _ => 0))), ((q9 + 1 + 6), .inl (E.2.2 0, 96, .inl (fun _ => 0))), ((q9 + 1 + 7), .inl (E.2.2 0, 96, .inl (fun _ => 0))), ((q9 + 1 + 8), .inl (E.2.2 0, 96, .inl (fun _ => 0))), ((q9 + 1 + 9), .inl (E.2.2 0, 96, .inl (fun _ => 0))), ((q9 + 1 + 10), .inl (E.2.2 0, 96, .inl (fun _ => 0))), ((q9 + 1 + 11), .inl (E.2.2 0, 96, .inl (fun _ => 0))), ((q9 + 1 + 12), .inl (E.2.2 0, 96, .inl (fun _ => 0))), ((q9 + 1 + 13), .inl (E.2.2 0, 96, .inl (fun _ => 0))), (q19, .inl (E.2.2 0, 14, .inl (fun _ => 0))), (q27, .inl (E.2.2 0, 14, .inl (fun _ => 0)))] 17 1386 29 [some (.ref a0)] [.ref q27, .ref a0]
  refine y_put h hr 0 rfl rfl uwX2 tyX2 tyX2_ok nmX2 (show 2 < 5 by decide) fl_X2_20 rfl rfl rfl rfl rfl (Nat.le_of_ble_eq_true rfl) dX2_init_29 ?_
  show Y E k [(a0, .inr (1, [.ref q9, .ref q19, .ref q27, .null, .null])), (q9, outE E q9), ((q9 + 1 + 0), .inl (E.2.2 0, 96, .inl (fun _ => 0))), ((q9 + 1 + 1), .inl (E.2.2 0, 96, .inl (fun _ => 0))), ((q9 + 1 + 2), .inl (E.2.2 0, 96, .inl (fun _ => 0))), ((q9 + 1 + 3), .inl (E.2.2 0, 96, .inl (fun _ => 0))), ((q9 + 1 + 4), .inl (E.2.2 0, 96, .inl (fun _ => 0))), ((q9 + 1 + 5), .inl (E.2.2 0, 96, .inl (fun _ => 0))), ((q9 + 1 + 6), .inl (E.2.2 0, 96, .inl (fun _ => 0))), ((q9 + 1 + 7), .inl (E.2.2 0, 96, .inl (fun _ => 0))), ((q9 + 1 + 8), .inl (E.2.2 0, 96, .inl (fun _ => 0))), ((q9 + 1 + 9), .inl (E.2.2 0, 96, .inl (fun _ => 0))), ((q9 + 1 + 10), .inl (E.2.2 0, 96, .inl (fun _ => 0))), ((q9 + 1 + 11), .inl (E.2.2 0, 96, .inl (fun _ => 0))), ((q9 + 1 + 12), .inl (E.2.2 0, 96, .inl (fun _ => 0))), ((q9 + 1 + 13), .inl (E.2.2 0, 96, .inl (fun _ => 0))), (q19, .inl (E.2.2 0, 14, .inl (fun _ => 0))), (q27, .inl (E.2.2 0, 14, .inl (fun _ => 0)))] 17 1386 32 [some (.ref a0)] []
  refine y_ald0 h dX2_init_32 ?_
  refine y_bipush (v := 14) h dX2_init_33 rfl ?_
  refine y_newI (N := 14) h uA_int (by decide) rfl (by decide) (Nat.le_of_ble_eq_true rfl) (Nat.le_of_ble_eq_true rfl) dX2_init_35 (fun q35 => ?_)
  show Y E k [(a0, .inr (1, [.ref q9, .ref q19, .ref q27, .null, .null])), (q9, outE E q9), ((q9 + 1 + 0), .inl (E.2.2 0, 96, .inl (fun _ => 0))), ((q9 + 1 + 1), .inl (E.2.2 0, 96, .inl (fun _ => 0))), ((q9 + 1 + 2), .inl (E.2.2 0, 96, .inl (fun _ => 0))), ((q9 + 1 + 3), .inl (E.2.2 0, 96, .inl (fun _ => 0))), ((q9 + 1 + 4), .inl (E.2.2 0, 96, .inl (fun _ => 0))), ((q9 + 1 + 5), .inl (E.2.2 0, 96, .inl (fun _ => 0))), ((q9 + 1 + 6), .inl (E.2.2 0, 96, .inl (fun _ => 0))), ((q9 + 1 + 7), .inl (E.2.2 0, 96, .inl (fun _ => 0))), ((q9 + 1 + 8), .inl (E.2.2 0, 96, .inl (fun _ => 0))), ((q9 + 1 + 9), .inl (E.2.2 0, 96, .inl (fun _ => 0))), ((q9 + 1 + 10), .inl (E.2.2 0, 96, .inl (fun _ => 0))), ((q9 + 1 + 11), .inl (E.2.2 0, 96, .inl (fun _ => 0))), ((q9 + 1 + 12), .inl (E.2.2 0, 96, .inl (fun _ => 0))), ((q9 + 1 + 13), .inl (E.2.2 0, 96, .inl (fun _ => 0))), (q19, .inl (E.2.2 0, 14, .inl (fun _ => 0))), (q27, .inl (E.2.2 0, 14, .inl (fun _ => 0))), (q35, .inl (E.2.2 0, 14, .inl (fun _ => 0)))] 18 1400 37 [some (.ref a0)] [.ref q35, .ref a0]
  refine y_put h hr 0 rfl rfl uwX2 tyX2 tyX2_ok nmX2 (show 3 < 5 by decide) fl_X2_23 rfl rfl rfl rfl rfl (Nat.le_of_ble_eq_true rfl) dX2_init_37 ?_
  show Y E k [(a0, .inr (1, [.ref q9, .ref q19, .ref q27, .ref q35, .null])), (q9, outE E q9), ((q9 + 1 + 0), .inl (E.2.2 0, 96, .inl (fun _ => 0))), ((q9 + 1 + 1), .inl (E.2.2 0, 96, .inl (fun _ => 0))), ((q9 + 1 + 2), .inl (E.2.2 0, 96, .inl (fun _ => 0))), ((q9 + 1 + 3), .inl (E.2.2 0, 96, .inl (fun _ => 0))), ((q9 + 1 + 4), .inl (E.2.2 0, 96, .inl (fun _ => 0))), ((q9 + 1 + 5), .inl (E.2.2 0, 96, .inl (fun _ => 0))), ((q9 + 1 + 6), .inl (E.2.2 0, 96, .inl (fun _ => 0))), ((q9 + 1 + 7), .inl (E.2.2 0, 96, .inl (fun _ => 0))), ((q9 + 1 + 8), .inl (E.2.2 0, 96, .inl (fun _ => 0))), ((q9 + 1 + 9), .inl (E.2.2 0, 96, .inl (fun _ => 0))), ((q9 + 1 + 10), .inl (E.2.2 0, 96, .inl (fun _ => 0))), ((q9 + 1 + 11), .inl (E.2.2 0, 96, .inl (fun _ => 0))), ((q9 + 1 + 12), .inl (E.2.2 0, 96, .inl (fun _ => 0))), ((q9 + 1 + 13), .inl (E.2.2 0, 96, .inl (fun _ => 0))), (q19, .inl (E.2.2 0, 14, .inl (fun _ => 0))), (q27, .inl (E.2.2 0, 14, .inl (fun _ => 0))), (q35, .inl (E.2.2 0, 14, .inl (fun _ => 0)))] 18 1400 40 [some (.ref a0)] []
  refine y_ald0 h dX2_init_40 ?_
  refine y_bipush (v := 96) h dX2_init_41 rfl ?_
  refine y_newI (N := 96) h uA_int (by decide) rfl (by decide) (Nat.le_of_ble_eq_true rfl) (Nat.le_of_ble_eq_true rfl) dX2_init_43 (fun q43 => ?_)
  show Y E k [(a0, .inr (1, [.ref q9, .ref q19, .ref q27, .ref q35, .null])), (q9, outE E q9), ((q9 + 1 + 0), .inl (E.2.2 0, 96, .inl (fun _ => 0))), ((q9 + 1 + 1), .inl (E.2.2 0, 96, .inl (fun _ => 0))), ((q9 + 1 + 2), .inl (E.2.2 0, 96, .inl (fun _ => 0))), ((q9 + 1 + 3), .inl (E.2.2 0, 96, .inl (fun _ => 0))), ((q9 + 1 + 4), .inl (E.2.2 0, 96, .inl (fun _ => 0))), ((q9 + 1 + 5), .inl (E.2.2 0, 96, .inl (fun _ => 0))), ((q9 + 1 + 6), .inl (E.2.2 0, 96, .inl (fun _ => 0))), ((q9 + 1 + 7), .inl (E.2.2 0, 96, .inl (fun _ => 0))), ((q9 + 1 + 8), .inl (E.2.2 0, 96, .inl (fun _ => 0))), ((q9 + 1 + 9), .inl (E.2.2 0, 96, .inl (fun _ => 0))), ((q9 + 1 + 10), .inl (E.2.2 0, 96, .inl (fun _ => 0))), ((q9 + 1 + 11), .inl (E.2.2 0, 96, .inl (fun _ => 0))), ((q9 + 1 + 12), .inl (E.2.2 0, 96, .inl (fun _ => 0))), ((q9 + 1 + 13), .inl (E.2.2 0, 96, .inl (fun _ => 0))), (q19, .inl (E.2.2 0, 14, .inl (fun _ => 0))), (q27, .inl (E.2.2 0, 14, .inl (fun _ => 0))), (q35, .inl (E.2.2 0, 14, .inl (fun _ => 0))), (q43, .inl (E.2.2 0, 96, .inl (fun _ => 0)))] 19 1496 45 [some (.ref a0)] [.ref q43, .ref a0]
  refine y_put h hr 0 rfl rfl uwX2 tyX2 tyX2_ok nmX2 (show 4 < 5 by decide) fl_X2_26 rfl rfl rfl rfl rfl (Nat.le_of_ble_eq_true rfl) dX2_init_45 ?_
  show Y E k [(a0, .inr (1, [.ref q9, .ref q19, .ref q27, .ref q35, .ref q43])), (q9, outE E q9), ((q9 + 1 + 0), .inl (E.2.2 0, 96, .inl (fun _ => 0))), ((q9 + 1 + 1), .inl (E.2.2 0, 96, .inl (fun _ => 0))), ((q9 + 1 + 2), .inl (E.2.2 0, 96, .inl (fun _ => 0))), ((q9 + 1 + 3), .inl (E.2.2 0, 96, .inl (fun _ => 0))), ((q9 + 1 + 4), .inl (E.2.2 0, 96, .inl (fun _ => 0))), ((q9 + 1 + 5), .inl (E.2.2 0, 96, .inl (fun _ => 0))), ((q9 + 1 + 6), .inl (E.2.2 0, 96, .inl (fun _ => 0))), ((q9 + 1 + 7), .inl (E.2.2 0, 96, .inl (fun _ => 0))), ((q9 + 1 + 8), .inl (E.2.2 0, 96, .inl (fun _ => 0))), ((q9 + 1 + 9), .inl (E.2.2 0, 96, .inl (fun _ => 0))), ((q9 + 1 + 10), .inl (E.2.2 0, 96, .inl (fun _ => 0))), ((q9 + 1 + 11), .inl (E.2.2 0, 96, .inl (fun _ => 0))), ((q9 + 1 + 12), .inl (E.2.2 0, 96, .inl (fun _ => 0))), ((q9 + 1 + 13), .inl (E.2.2 0, 96, .inl (fun _ => 0))), (q19, .inl (E.2.2 0, 14, .inl (fun _ => 0))), (q27, .inl (E.2.2 0, 14, .inl (fun _ => 0))), (q35, .inl (E.2.2 0, 14, .inl (fun _ => 0))), (q43, .inl (E.2.2 0, 96, .inl (fun _ => 0)))] 19 1496 48 [some (.ref a0)] []
  exact y_vret h hr (⟨fun i => match i with | 0 => q9 | 1 => q19 | 2 => q27 | 3 => q35 | _ => q43, rfl⟩) dX2_init_48
