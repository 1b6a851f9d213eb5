/-! the house's constructor -/
def loF : Nat → Nat → Int32
  | 0 => fun _ => 0
  | j + 1 => upd (loF j) j 1
def loL : Nat → Nat → Int32
  | 0 => fun _ => 0
  | j + 1 => upd (loL j) j (nI j)
def loC : Nat → Nat → Int32
  | 0 => fun _ => 0
  | j + 1 => upd (loC j) j (-1)
set_option maxRecDepth 100000 in
set_option maxHeartbeats 4000000 in
theorem n_X0 (E : ET) : NX E yX0_init cX0_init 2 ({ frames := 2, cells := 9, slots := 93, locals := 65 }) 9 93 (.inr (0, [.int 0, .null, .null, .null, .null, .null, .null, .null, .null, .int 0, .int 0, .int 0, .int 0, .int 0, .int 0, .null])) (fun a w => ∃ g : Nat → Nat, w = [(a, .inr (0, [.int 0, .ref (g 1), .ref (g 2), .ref (g 3), .ref (g 4), .ref (g 5), .ref (g 6), .ref (g 7), .ref (g 8), .int 0, .int 0, .int 0, .int 0, .int 1, .int 0, .ref (g 9)])), ((g 1), .inl (E.2.2 0, 12, .inl (fun _ => 0))), ((g 2), .inl (E.2.2 0, 12, .inl (fun _ => 0))), ((g 3), .inl (E.2.2 0, 12, .inl (fun _ => 0))), ((g 4), .inl (E.2.2 0, 12, .inl (fun _ => 0))), ((g 5), .inl (E.2.2 0, 12, .inl (fun _ => 0))), ((g 6), .inl (E.2.2 0, 10, .inl (loF 10))), ((g 7), .inl (E.2.2 0, 10, .inl (loL 10))), ((g 8), .inl (E.2.2 0, 10, .inl (fun _ => 0))), ((g 9), .inl (E.2.2 0, 3, .inl (loC 3)))]) := by
  refine NX.of RX0 (by decide) rfl rfl (by decide) (fun k a0 h hr hk => ?_)
  have hNU := h.2.2.2.2.2.2.2.2
  show Y E k [(a0, .inr (0, [.int 0, .null, .null, .null, .null, .null, .null, .null, .null, .int 0, .int 0, .int 0, .int 0, .int 0, .int 0, .null]))] 0 0 0 [some (.ref a0), none] []
  refine y_ald0 h dX0_init_0 ?_
  refine y_obj h uO_X0 uO_m uO_c ⟨Nat.le_of_ble_eq_true rfl, Nat.le_of_ble_eq_true rfl⟩ dX0_init_1 ?_
  show Y E k [(a0, .inr (0, [.int 0, .null, .null, .null, .null, .null, .null, .null, .null, .int 0, .int 0, .int 0, .int 0, .int 0, .int 0, .null]))] 0 0 4 [some (.ref a0), none] []
  refine y_ald0 h dX0_init_4 ?_
  refine y_iconst (v := 0) h dX0_init_5 rfl ?_
  refine y_put h hr 0 rfl rfl uwX0 tyX0 tyX0_ok nmX0 (show 0 < 16 by decide) fl_X0_9 rfl rfl rfl rfl rfl (Nat.le_of_ble_eq_true rfl) dX0_init_6 ?_
  show Y E k [(a0, .inr (0, [.int 0, .null, .null, .null, .null, .null, .null, .null, .null, .int 0, .int 0, .int 0, .int 0, .int 0, .int 0, .null]))] 0 0 9 [some (.ref a0), none] []
  refine y_ald0 h dX0_init_9 ?_
  refine y_bipush (v := 12) h dX0_init_10 rfl ?_
  refine y_newI (N := 12) h uA_int (by decide) rfl (by decide) (Nat.le_of_ble_eq_true rfl) (Nat.le_of_ble_eq_true rfl) dX0_init_12 (fun q12 => ?_)
  show Y E k [(a0, .inr (0, [.int 0, .null, .null, .null, .null, .null, .null, .null, .null, .int 0, .int 0, .int 0, .int 0, .int 0, .int 0, .null])), (q12, .inl (E.2.2 0, 12, .inl (fun _ => 0)))] 1 12 14 [some (.ref a0), none] [.ref q12, .ref a0]
  refine y_put h hr 0 rfl rfl uwX0 tyX0 tyX0_ok nmX0 (show 1 < 16 by decide) fl_X0_15 rfl rfl rfl rfl rfl (Nat.le_of_ble_eq_true rfl) dX0_init_14 ?_
  show Y E k [(a0, .inr (0, [.int 0, .ref q12, .null, .null, .null, .null, .null, .null, .null, .int 0, .int 0, .int 0, .int 0, .int 0, .int 0, .null])), (q12, .inl (E.2.2 0, 12, .inl (fun _ => 0)))] 1 12 17 [some (.ref a0), none] []
  refine y_ald0 h dX0_init_17 ?_
  refine y_bipush (v := 12) h dX0_init_18 rfl ?_
  refine y_newI (N := 12) h uA_int (by decide) rfl (by decide) (Nat.le_of_ble_eq_true rfl) (Nat.le_of_ble_eq_true rfl) dX0_init_20 (fun q20 => ?_)
  show Y E k [(a0, .inr (0, [.int 0, .ref q12, .null, .null, .null, .null, .null, .null, .null, .int 0, .int 0, .int 0, .int 0, .int 0, .int 0, .null])), (q12, .inl (E.2.2 0, 12, .inl (fun _ => 0))), (q20, .inl (E.2.2 0, 12, .inl (fun _ => 0)))] 2 24 22 [some (.ref a0), none] [.ref q20, .ref a0]
  refine y_put h hr 0 rfl rfl uwX0 tyX0 tyX0_ok nmX0 (show 2 < 16 by decide) fl_X0_19 rfl rfl rfl rfl rfl (Nat.le_of_ble_eq_true rfl) dX0_init_22 ?_
  show Y E k [(a0, .inr (0, [.int 0, .ref q12, .ref q20, .null, .null, .null, .null, .null, .null, .int 0, .int 0, .int 0, .int 0, .int 0, .int 0, .null])), (q12, .inl (E.2.2 0, 12, .inl (fun _ => 0))), (q20, .inl (E.2.2 0, 12, .inl (fun _ => 0)))] 2 24 25 [some (.ref a0), none] []
  refine y_ald0 h dX0_init_25 ?_
  refine y_bipush (v := 12) h dX0_init_26 rfl ?_
  refine y_newI (N := 12) h uA_int (by decide) rfl (by decide) (Nat.le_of_ble_eq_true rfl) (Nat.le_of_ble_eq_true rfl) dX0_init_28 (fun q28 => ?_)
  show Y E k [(a0, .inr (0, [.int 0, .ref q12, .ref q20, .null, .null, .null, .null, .null, .null, .int 0, .int 0, .int 0, .int 0, .int 0, .int 0, .null])), (q12, .inl (E.2.2 0, 12, .inl (fun _ => 0))), (q20, .inl (E.2.2 0, 12, .inl (fun _ => 0))), (q28, .inl (E.2.2 0, 12, .inl (fun _ => 0)))] 3 36 30 [some (.ref a0), none] [.ref q28, .ref a0]
  refine y_put h hr 0 rfl rfl uwX0 tyX0 tyX0_ok nmX0 (show 3 < 16 by decide) fl_X0_22 rfl rfl rfl rfl rfl (Nat.le_of_ble_eq_true rfl) dX0_init_30 ?_
  show Y E k [(a0, .inr (0, [.int 0, .ref q12, .ref q20, .ref q28, .null, .null, .null, .null, .null, .int 0, .int 0, .int 0, .int 0, .int 0, .int 0, .null])), (q12, .inl (E.2.2 0, 12, .inl (fun _ => 0))), (q20, .inl (E.2.2 0, 12, .inl (fun _ => 0))), (q28, .inl (E.2.2 0, 12, .inl (fun _ => 0)))] 3 36 33 [some (.ref a0), none] []
  refine y_ald0 h dX0_init_33 ?_
  refine y_bipush (v := 12) h dX0_init_34 rfl ?_
  refine y_newI (N := 12) h uA_int (by decide) rfl (by decide) (Nat.le_of_ble_eq_true rfl) (Nat.le_of_ble_eq_true rfl) dX0_init_36 (fun q36 => ?_)
  show Y E k [(a0, .inr (0, [.int 0, .ref q12, .ref q20, .ref q28, .null, .null, .null, .null, .null, .int 0, .int 0, .int 0, .int 0, .int 0, .int 0, .null])), (q12, .inl (E.2.2 0, 12, .inl (fun _ => 0))), (q20, .inl (E.2.2 0, 12, .inl (fun _ => 0))), (q28, .inl (E.2.2 0, 12, .inl (fun _ => 0))), (q36, .inl (E.2.2 0, 12, .inl (fun _ => 0)))] 4 48 38 [some (.ref a0), none] [.ref q36, .ref a0]
  refine y_put h hr 0 rfl rfl uwX0 tyX0 tyX0_ok nmX0 (show 4 < 16 by decide) fl_X0_25 rfl rfl rfl rfl rfl (Nat.le_of_ble_eq_true rfl) dX0_init_38 ?_
  show Y E k [(a0, .inr (0, [.int 0, .ref q12, .ref q20, .ref q28, .ref q36, .null, .null, .null, .null, .int 0, .int 0, .int 0, .int 0, .int 0, .int 0, .null])), (q12, .inl (E.2.2 0, 12, .inl (fun _ => 0))), (q20, .inl (E.2.2 0, 12, .inl (fun _ => 0))), (q28, .inl (E.2.2 0, 12, .inl (fun _ => 0))), (q36, .inl (E.2.2 0, 12, .inl (fun _ => 0)))] 4 48 41 [some (.ref a0), none] []
  refine y_ald0 h dX0_init_41 ?_
  refine y_bipush (v := 12) h dX0_init_42 rfl ?_
  refine y_newI (N := 12) h uA_int (by decide) rfl (by decide) (Nat.le_of_ble_eq_true rfl) (Nat.le_of_ble_eq_true rfl) dX0_init_44 (fun q44 => ?_)
  show Y E k [(a0, .inr (0, [.int 0, .ref q12, .ref q20, .ref q28, .ref q36, .null, .null, .null, .null, .int 0, .int 0, .int 0, .int 0, .int 0, .int 0, .null])), (q12, .inl (E.2.2 0, 12, .inl (fun _ => 0))), (q20, .inl (E.2.2 0, 12, .inl (fun _ => 0))), (q28, .inl (E.2.2 0, 12, .inl (fun _ => 0))), (q36, .inl (E.2.2 0, 12, .inl (fun _ => 0))), (q44, .inl (E.2.2 0, 12, .inl (fun _ => 0)))] 5 60 46 [some (.ref a0), none] [.ref q44, .ref a0]
  refine y_put h hr 0 rfl rfl uwX0 tyX0 tyX0_ok nmX0 (show 5 < 16 by decide) fl_X0_28 rfl rfl rfl rfl rfl (Nat.le_of_ble_eq_true rfl) dX0_init_46 ?_
  show Y E k [(a0, .inr (0, [.int 0, .ref q12, .ref q20, .ref q28, .ref q36, .ref q44, .null, .null, .null, .int 0, .int 0, .int 0, .int 0, .int 0, .int 0, .null])), (q12, .inl (E.2.2 0, 12, .inl (fun _ => 0))), (q20, .inl (E.2.2 0, 12, .inl (fun _ => 0))), (q28, .inl (E.2.2 0, 12, .inl (fun _ => 0))), (q36, .inl (E.2.2 0, 12, .inl (fun _ => 0))), (q44, .inl (E.2.2 0, 12, .inl (fun _ => 0)))] 5 60 49 [some (.ref a0), none] []
  refine y_ald0 h dX0_init_49 ?_
  refine y_bipush (v := 10) h dX0_init_50 rfl ?_
  refine y_newI (N := 10) h uA_int (by decide) rfl (by decide) (Nat.le_of_ble_eq_true rfl) (Nat.le_of_ble_eq_true rfl) dX0_init_52 (fun q52 => ?_)
  show Y E k [(a0, .inr (0, [.int 0, .ref q12, .ref q20, .ref q28, .ref q36, .ref q44, .null, .null, .null, .int 0, .int 0, .int 0, .int 0, .int 0, .int 0, .null])), (q12, .inl (E.2.2 0, 12, .inl (fun _ => 0))), (q20, .inl (E.2.2 0, 12, .inl (fun _ => 0))), (q28, .inl (E.2.2 0, 12, .inl (fun _ => 0))), (q36, .inl (E.2.2 0, 12, .inl (fun _ => 0))), (q44, .inl (E.2.2 0, 12, .inl (fun _ => 0))), (q52, .inl (E.2.2 0, 10, .inl (fun _ => 0)))] 6 70 54 [some (.ref a0), none] [.ref q52, .ref a0]
  refine y_put h hr 0 rfl rfl uwX0 tyX0 tyX0_ok nmX0 (show 6 < 16 by decide) fl_X0_31 rfl rfl rfl rfl rfl (Nat.le_of_ble_eq_true rfl) dX0_init_54 ?_
  show Y E k [(a0, .inr (0, [.int 0, .ref q12, .ref q20, .ref q28, .ref q36, .ref q44, .ref q52, .null, .null, .int 0, .int 0, .int 0, .int 0, .int 0, .int 0, .null])), (q12, .inl (E.2.2 0, 12, .inl (fun _ => 0))), (q20, .inl (E.2.2 0, 12, .inl (fun _ => 0))), (q28, .inl (E.2.2 0, 12, .inl (fun _ => 0))), (q36, .inl (E.2.2 0, 12, .inl (fun _ => 0))), (q44, .inl (E.2.2 0, 12, .inl (fun _ => 0))), (q52, .inl (E.2.2 0, 10, .inl (fun _ => 0)))] 6 70 57 [some (.ref a0), none] []
  refine y_ald0 h dX0_init_57 ?_
  refine y_bipush (v := 10) h dX0_init_58 rfl ?_
  refine y_newI (N := 10) h uA_int (by decide) rfl (by decide) (Nat.le_of_ble_eq_true rfl) (Nat.le_of_ble_eq_true rfl) dX0_init_60 (fun q60 => ?_)
  show Y E k [(a0, .inr (0, [.int 0, .ref q12, .ref q20, .ref q28, .ref q36, .ref q44, .ref q52, .null, .null, .int 0, .int 0, .int 0, .int 0, .int 0, .int 0, .null])), (q12, .inl (E.2.2 0, 12, .inl (fun _ => 0))), (q20, .inl (E.2.2 0, 12, .inl (fun _ => 0))), (q28, .inl (E.2.2 0, 12, .inl (fun _ => 0))), (q36, .inl (E.2.2 0, 12, .inl (fun _ => 0))), (q44, .inl (E.2.2 0, 12, .inl (fun _ => 0))), (q52, .inl (E.2.2 0, 10, .inl (fun _ => 0))), (q60, .inl (E.2.2 0, 10, .inl (fun _ => 0)))] 7 80 62 [some (.ref a0), none] [.ref q60, .ref a0]
  refine y_put h hr 0 rfl rfl uwX0 tyX0 tyX0_ok nmX0 (show 7 < 16 by decide) fl_X0_34 rfl rfl rfl rfl rfl (Nat.le_of_ble_eq_true rfl) dX0_init_62 ?_
  show Y E k [(a0, .inr (0, [.int 0, .ref q12, .ref q20, .ref q28, .ref q36, .ref q44, .ref q52, .ref q60, .null, .int 0, .int 0, .int 0, .int 0, .int 0, .int 0, .null])), (q12, .inl (E.2.2 0, 12, .inl (fun _ => 0))), (q20, .inl (E.2.2 0, 12, .inl (fun _ => 0))), (q28, .inl (E.2.2 0, 12, .inl (fun _ => 0))), (q36, .inl (E.2.2 0, 12, .inl (fun _ => 0))), (q44, .inl (E.2.2 0, 12, .inl (fun _ => 0))), (q52, .inl (E.2.2 0, 10, .inl (fun _ => 0))), (q60, .inl (E.2.2 0, 10, .inl (fun _ => 0)))] 7 80 65 [some (.ref a0), none] []
  refine y_ald0 h dX0_init_65 ?_
  refine y_bipush (v := 10) h dX0_init_66 rfl ?_
  refine y_newI (N := 10) h uA_int (by decide) rfl (by decide) (Nat.le_of_ble_eq_true rfl) (Nat.le_of_ble_eq_true rfl) dX0_init_68 (fun q68 => ?_)
  show Y E k [(a0, .inr (0, [.int 0, .ref q12, .ref q20, .ref q28, .ref q36, .ref q44, .ref q52, .ref q60, .null, .int 0, .int 0, .int 0, .int 0, .int 0, .int 0, .null])), (q12, .inl (E.2.2 0, 12, .inl (fun _ => 0))), (q20, .inl (E.2.2 0, 12, .inl (fun _ => 0))), (q28, .inl (E.2.2 0, 12, .inl (fun _ => 0))), (q36, .inl (E.2.2 0, 12, .inl (fun _ => 0))), (q44, .inl (E.2.2 0, 12, .inl (fun _ => 0))), (q52, .inl (E.2.2 0, 10, .inl (fun _ => 0))), (q60, .inl (E.2.2 0, 10, .inl (fun _ => 0))), (q68, .inl (E.2.2 0, 10, .inl (fun _ => 0)))] 8 90 70 [some (.ref a0), none] [.ref q68, .ref a0]
  refine y_put h hr 0 rfl rfl uwX0 tyX0 tyX0_ok nmX0 (show 8 < 16 by decide) fl_X0_37 rfl rfl rfl rfl rfl (Nat.le_of_ble_eq_true rfl) dX0_init_70 ?_
  show Y E k [(a0, .inr (0, [.int 0, .ref q12, .ref q20, .ref q28, .ref q36, .ref q44, .ref q52, .ref q60, .ref q68, .int 0, .int 0, .int 0, .int 0, .int 0, .int 0, .null])), (q12, .inl (E.2.2 0, 12, .inl (fun _ => 0))), (q20, .inl (E.2.2 0, 12, .inl (fun _ => 0))), (q28, .inl (E.2.2 0, 12, .inl (fun _ => 0))), (q36, .inl (E.2.2 0, 12, .inl (fun _ => 0))), (q44, .inl (E.2.2 0, 12, .inl (fun _ => 0))), (q52, .inl (E.2.2 0, 10, .inl (fun _ => 0))), (q60, .inl (E.2.2 0, 10, .inl (fun _ => 0))), (q68, .inl (E.2.2 0, 10, .inl (fun _ => 0)))] 8 90 73 [some (.ref a0), none] []
  refine y_ald0 h dX0_init_73 ?_
  refine y_iconst (v := 0) h dX0_init_74 rfl ?_
  refine y_put h hr 0 rfl rfl uwX0 tyX0 tyX0_ok nmX0 (show 9 < 16 by decide) fl_X0_40 rfl rfl rfl rfl rfl (Nat.le_of_ble_eq_true rfl) dX0_init_75 ?_
  show Y E k [(a0, .inr (0, [.int 0, .ref q12, .ref q20, .ref q28, .ref q36, .ref q44, .ref q52, .ref q60, .ref q68, .int 0, .int 0, .int 0, .int 0, .int 0, .int 0, .null])), (q12, .inl (E.2.2 0, 12, .inl (fun _ => 0))), (q20, .inl (E.2.2 0, 12, .inl (fun _ => 0))), (q28, .inl (E.2.2 0, 12, .inl (fun _ => 0))), (q36, .inl (E.2.2 0, 12, .inl (fun _ => 0))), (q44, .inl (E.2.2 0, 12, .inl (fun _ => 0))), (q52, .inl (E.2.2 0, 10, .inl (fun _ => 0))), (q60, .inl (E.2.2 0, 10, .inl (fun _ => 0))), (q68, .inl (E.2.2 0, 10, .inl (fun _ => 0)))] 8 90 78 [some (.ref a0), none] []
  refine y_ald0 h dX0_init_78 ?_
  refine y_iconst (v := 0) h dX0_init_79 rfl ?_
  refine y_put h hr 0 rfl rfl uwX0 tyX0 tyX0_ok nmX0 (show 10 < 16 by decide) fl_X0_43 rfl rfl rfl rfl rfl (Nat.le_of_ble_eq_true rfl) dX0_init_80 ?_
  show Y E k [(a0, .inr (0, [.int 0, .ref q12, .ref q20, .ref q28, .ref q36, .ref q44, .ref q52, .ref q60, .ref q68, .int 0, .int 0, .int 0, .int 0, .int 0, .int 0, .null])), (q12, .inl (E.2.2 0, 12, .inl (fun _ => 0))), (q20, .inl (E.2.2 0, 12, .inl (fun _ => 0))), (q28, .inl (E.2.2 0, 12, .inl (fun _ => 0))), (q36, .inl (E.2.2 0, 12, .inl (fun _ => 0))), (q44, .inl (E.2.2 0, 12, .inl (fun _ => 0))), (q52, .inl (E.2.2 0, 10, .inl (fun _ => 0))), (q60, .inl (E.2.2 0, 10, .inl (fun _ => 0))), (q68, .inl (E.2.2 0, 10, .inl (fun _ => 0)))] 8 90 83 [some (.ref a0), none] []
  refine y_ald0 h dX0_init_83 ?_
  refine y_iconst (v := 0) h dX0_init_84 rfl ?_
  refine y_put h hr 0 rfl rfl uwX0 tyX0 tyX0_ok nmX0 (show 11 < 16 by decide) fl_X0_46 rfl rfl rfl rfl rfl (Nat.le_of_ble_eq_true rfl) dX0_init_85 ?_
  show Y E k [(a0, .inr (0, [.int 0, .ref q12, .ref q20, .ref q28, .ref q36, .ref q44, .ref q52, .ref q60, .ref q68, .int 0, .int 0, .int 0, .int 0, .int 0, .int 0, .null])), (q12, .inl (E.2.2 0, 12, .inl (fun _ => 0))), (q20, .inl (E.2.2 0, 12, .inl (fun _ => 0))), (q28, .inl (E.2.2 0, 12, .inl (fun _ => 0))), (q36, .inl (E.2.2 0, 12, .inl (fun _ => 0))), (q44, .inl (E.2.2 0, 12, .inl (fun _ => 0))), (q52, .inl (E.2.2 0, 10, .inl (fun _ => 0))), (q60, .inl (E.2.2 0, 10, .inl (fun _ => 0))), (q68, .inl (E.2.2 0, 10, .inl (fun _ => 0)))] 8 90 88 [some (.ref a0), none] []
  refine y_ald0 h dX0_init_88 ?_
  refine y_iconst (v := 0) h dX0_init_89 rfl ?_
  refine y_put h hr 0 rfl rfl uwX0 tyX0 tyX0_ok nmX0 (show 12 < 16 by decide) fl_X0_49 rfl rfl rfl rfl rfl (Nat.le_of_ble_eq_true rfl) dX0_init_90 ?_
  show Y E k [(a0, .inr (0, [.int 0, .ref q12, .ref q20, .ref q28, .ref q36, .ref q44, .ref q52, .ref q60, .ref q68, .int 0, .int 0, .int 0, .int 0, .int 0, .int 0, .null])), (q12, .inl (E.2.2 0, 12, .inl (fun _ => 0))), (q20, .inl (E.2.2 0, 12, .inl (fun _ => 0))), (q28, .inl (E.2.2 0, 12, .inl (fun _ => 0))), (q36, .inl (E.2.2 0, 12, .inl (fun _ => 0))), (q44, .inl (E.2.2 0, 12, .inl (fun _ => 0))), (q52, .inl (E.2.2 0, 10, .inl (fun _ => 0))), (q60, .inl (E.2.2 0, 10, .inl (fun _ => 0))), (q68, .inl (E.2.2 0, 10, .inl (fun _ => 0)))] 8 90 93 [some (.ref a0), none] []
  refine y_ald0 h dX0_init_93 ?_
  refine y_iconst (v := 1) h dX0_init_94 rfl ?_
  refine y_put h hr 0 rfl rfl uwX0 tyX0 tyX0_ok nmX0 (show 13 < 16 by decide) fl_X0_52 rfl rfl rfl rfl rfl (Nat.le_of_ble_eq_true rfl) dX0_init_95 ?_
  show Y E k [(a0, .inr (0, [.int 0, .ref q12, .ref q20, .ref q28, .ref q36, .ref q44, .ref q52, .ref q60, .ref q68, .int 0, .int 0, .int 0, .int 0, .int 1, .int 0, .null])), (q12, .inl (E.2.2 0, 12, .inl (fun _ => 0))), (q20, .inl (E.2.2 0, 12, .inl (fun _ => 0))), (q28, .inl (E.2.2 0, 12, .inl (fun _ => 0))), (q36, .inl (E.2.2 0, 12, .inl (fun _ => 0))), (q44, .inl (E.2.2 0, 12, .inl (fun _ => 0))), (q52, .inl (E.2.2 0, 10, .inl (fun _ => 0))), (q60, .inl (E.2.2 0, 10, .inl (fun _ => 0))), (q68, .inl (E.2.2 0, 10, .inl (fun _ => 0)))] 8 90 98 [some (.ref a0), none] []
  refine y_ald0 h dX0_init_98 ?_
  refine y_iconst (v := 0) h dX0_init_99 rfl ?_
  refine y_put h hr 0 rfl rfl uwX0 tyX0 tyX0_ok nmX0 (show 14 < 16 by decide) fl_X0_55 rfl rfl rfl rfl rfl (Nat.le_of_ble_eq_true rfl) dX0_init_100 ?_
  show Y E k [(a0, .inr (0, [.int 0, .ref q12, .ref q20, .ref q28, .ref q36, .ref q44, .ref q52, .ref q60, .ref q68, .int 0, .int 0, .int 0, .int 0, .int 1, .int 0, .null])), (q12, .inl (E.2.2 0, 12, .inl (fun _ => 0))), (q20, .inl (E.2.2 0, 12, .inl (fun _ => 0))), (q28, .inl (E.2.2 0, 12, .inl (fun _ => 0))), (q36, .inl (E.2.2 0, 12, .inl (fun _ => 0))), (q44, .inl (E.2.2 0, 12, .inl (fun _ => 0))), (q52, .inl (E.2.2 0, 10, .inl (fun _ => 0))), (q60, .inl (E.2.2 0, 10, .inl (fun _ => 0))), (q68, .inl (E.2.2 0, 10, .inl (fun _ => 0)))] 8 90 103 [some (.ref a0), none] []
  refine y_ald0 h dX0_init_103 ?_
  refine y_iconst (v := 3) h dX0_init_104 rfl ?_
  refine y_newI (N := 3) h uA_int (by decide) rfl (by decide) (Nat.le_of_ble_eq_true rfl) (Nat.le_of_ble_eq_true rfl) dX0_init_105 (fun q105 => ?_)
  show Y E k [(a0, .inr (0, [.int 0, .ref q12, .ref q20, .ref q28, .ref q36, .ref q44, .ref q52, .ref q60, .ref q68, .int 0, .int 0, .int 0, .int 0, .int 1, .int 0, .null])), (q12, .inl (E.2.2 0, 12, .inl (fun _ => 0))), (q20, .inl (E.2.2 0, 12, .inl (fun _ => 0))), (q28, .inl (E.2.2 0, 12, .inl (fun _ => 0))), (q36, .inl (E.2.2 0, 12, .inl (fun _ => 0))), (q44, .inl (E.2.2 0, 12, .inl (fun _ => 0))), (q52, .inl (E.2.2 0, 10, .inl (fun _ => 0))), (q60, .inl (E.2.2 0, 10, .inl (fun _ => 0))), (q68, .inl (E.2.2 0, 10, .inl (fun _ => 0))), (q105, .inl (E.2.2 0, 3, .inl (fun _ => 0)))] 9 93 107 [some (.ref a0), none] [.ref q105, .ref a0]
  refine y_put h hr 0 rfl rfl uwX0 tyX0 tyX0_ok nmX0 (show 15 < 16 by decide) fl_X0_58 rfl rfl rfl rfl rfl (Nat.le_of_ble_eq_true rfl) dX0_init_107 ?_
  show Y E k [(a0, .inr (0, [.int 0, .ref q12, .ref q20, .ref q28, .ref q36, .ref q44, .ref q52, .ref q60, .ref q68, .int 0, .int 0, .int 0, .int 0, .int 1, .int 0, .ref q105])), (q12, .inl (E.2.2 0, 12, .inl (fun _ => 0))), (q20, .inl (E.2.2 0, 12, .inl (fun _ => 0))), (q28, .inl (E.2.2 0, 12, .inl (fun _ => 0))), (q36, .inl (E.2.2 0, 12, .inl (fun _ => 0))), (q44, .inl (E.2.2 0, 12, .inl (fun _ => 0))), (q52, .inl (E.2.2 0, 10, .inl (fun _ => 0))), (q60, .inl (E.2.2 0, 10, .inl (fun _ => 0))), (q68, .inl (E.2.2 0, 10, .inl (fun _ => 0))), (q105, .inl (E.2.2 0, 3, .inl (fun _ => 0)))] 9 93 110 [some (.ref a0), none] []
  refine y_iconst (v := 0) h dX0_init_110 rfl ?_
  refine y_ist1 h dX0_init_111 (by rw [hk]; decide) rfl ?_
  show Y E k [(a0, .inr (0, [.int 0, .ref q12, .ref q20, .ref q28, .ref q36, .ref q44, .ref q52, .ref q60, .ref q68, .int 0, .int 0, .int 0, .int 0, .int 1, .int 0, .ref q105])), (q12, .inl (E.2.2 0, 12, .inl (fun _ => 0))), (q20, .inl (E.2.2 0, 12, .inl (fun _ => 0))), (q28, .inl (E.2.2 0, 12, .inl (fun _ => 0))), (q36, .inl (E.2.2 0, 12, .inl (fun _ => 0))), (q44, .inl (E.2.2 0, 12, .inl (fun _ => 0))), (q52, .inl (E.2.2 0, 10, .inl (fun _ => 0))), (q60, .inl (E.2.2 0, 10, .inl (fun _ => 0))), (q68, .inl (E.2.2 0, 10, .inl (fun _ => 0))), (q105, .inl (E.2.2 0, 3, .inl (fun _ => 0)))] 9 93 112 [some (.ref a0), some (.int 0)] []
  have LA : ∀ (d j : Nat), j + d = 10 → Y E k [(a0, .inr (0, [.int 0, .ref q12, .ref q20, .ref q28, .ref q36, .ref q44, .ref q52, .ref q60, .ref q68, .int 0, .int 0, .int 0, .int 0, .int 1, .int 0, .ref q105])), (q12, .inl (E.2.2 0, 12, .inl (fun _ => 0))), (q20, .inl (E.2.2 0, 12, .inl (fun _ => 0))), (q28, .inl (E.2.2 0, 12, .inl (fun _ => 0))), (q36, .inl (E.2.2 0, 12, .inl (fun _ => 0))), (q44, .inl (E.2.2 0, 12, .inl (fun _ => 0))), (q52, .inl (E.2.2 0, 10, .inl (loF 10))), (q60, .inl (E.2.2 0, 10, .inl (loL 10))), (q68, .inl (E.2.2 0, 10, .inl (fun _ => 0))), (q105, .inl (E.2.2 0, 3, .inl (fun _ => 0)))] 9 93 138 [some (.ref a0), some (.int (nI 10))] [] → Y E k [(a0, .inr (0, [.int 0, .ref q12, .ref q20, .ref q28, .ref q36, .ref q44, .ref q52, .ref q60, .ref q68, .int 0, .int 0, .int 0, .int 0, .int 1, .int 0, .ref q105])), (q12, .inl (E.2.2 0, 12, .inl (fun _ => 0))), (q20, .inl (E.2.2 0, 12, .inl (fun _ => 0))), (q28, .inl (E.2.2 0, 12, .inl (fun _ => 0))), (q36, .inl (E.2.2 0, 12, .inl (fun _ => 0))), (q44, .inl (E.2.2 0, 12, .inl (fun _ => 0))), (q52, .inl (E.2.2 0, 10, .inl (loF j))), (q60, .inl (E.2.2 0, 10, .inl (loL j))), (q68, .inl (E.2.2 0, 10, .inl (fun _ => 0))), (q105, .inl (E.2.2 0, 3, .inl (fun _ => 0)))] 9 93 112 [some (.ref a0), some (.int (nI j))] [] := by
    intro d
    induction d with
    | zero =>
      intro j hj fin
      have ej : j = 10 := by omega
      subst ej
      refine y_ild1 h dX0_init_112 ?_
      refine y_bipush (v := 10) h dX0_init_113 rfl ?_
      refine y_icmp_ge 138 h dX0_init_115 rfl (fun c115 => ?_) (fun c115 => absurd (by decide) c115)
      show Y E k [(a0, .inr (0, [.int 0, .ref q12, .ref q20, .ref q28, .ref q36, .ref q44, .ref q52, .ref q60, .ref q68, .int 0, .int 0, .int 0, .int 0, .int 1, .int 0, .ref q105])), (q12, .inl (E.2.2 0, 12, .inl (fun _ => 0))), (q20, .inl (E.2.2 0, 12, .inl (fun _ => 0))), (q28, .inl (E.2.2 0, 12, .inl (fun _ => 0))), (q36, .inl (E.2.2 0, 12, .inl (fun _ => 0))), (q44, .inl (E.2.2 0, 12, .inl (fun _ => 0))), (q52, .inl (E.2.2 0, 10, .inl (loF 10))), (q60, .inl (E.2.2 0, 10, .inl (loL 10))), (q68, .inl (E.2.2 0, 10, .inl (fun _ => 0))), (q105, .inl (E.2.2 0, 3, .inl (fun _ => 0)))] 9 93 138 [some (.ref a0), some (.int (nI 10))] []
      exact fin
    | succ d ih =>
      intro j hj fin
      refine y_ild1 h dX0_init_112 ?_
      refine y_bipush (v := 10) h dX0_init_113 rfl ?_
      refine y_icmp_ge 138 h dX0_init_115 rfl (fun c115 => absurd c115 (fun z => by have := n_le (a := 10) (b := j) (by omega) (by omega) z; omega)) (fun c115 => ?_)
      show Y E k [(a0, .inr (0, [.int 0, .ref q12, .ref q20, .ref q28, .ref q36, .ref q44, .ref q52, .ref q60, .ref q68, .int 0, .int 0, .int 0, .int 0, .int 1, .int 0, .ref q105])), (q12, .inl (E.2.2 0, 12, .inl (fun _ => 0))), (q20, .inl (E.2.2 0, 12, .inl (fun _ => 0))), (q28, .inl (E.2.2 0, 12, .inl (fun _ => 0))), (q36, .inl (E.2.2 0, 12, .inl (fun _ => 0))), (q44, .inl (E.2.2 0, 12, .inl (fun _ => 0))), (q52, .inl (E.2.2 0, 10, .inl (loF j))), (q60, .inl (E.2.2 0, 10, .inl (loL j))), (q68, .inl (E.2.2 0, 10, .inl (fun _ => 0))), (q105, .inl (E.2.2 0, 3, .inl (fun _ => 0)))] 9 93 118 [some (.ref a0), some (.int (nI j))] []
      refine y_ald0 h dX0_init_118 ?_
      refine y_get h 0 rfl rfl uwX0 (show 6 < 16 by decide) fl_X0_31 rfl rfl dX0_init_119 ?_
      refine y_ild1 h dX0_init_122 ?_
      refine y_iconst (v := 1) h dX0_init_123 rfl ?_
      refine y_iast h 6 rfl (vp_in_nI (by omega) (by decide)) dX0_init_124 ?_
      rw [show (nI j).toNatClampNeg = j from ix_n (by omega)]
      show Y E k [(a0, .inr (0, [.int 0, .ref q12, .ref q20, .ref q28, .ref q36, .ref q44, .ref q52, .ref q60, .ref q68, .int 0, .int 0, .int 0, .int 0, .int 1, .int 0, .ref q105])), (q12, .inl (E.2.2 0, 12, .inl (fun _ => 0))), (q20, .inl (E.2.2 0, 12, .inl (fun _ => 0))), (q28, .inl (E.2.2 0, 12, .inl (fun _ => 0))), (q36, .inl (E.2.2 0, 12, .inl (fun _ => 0))), (q44, .inl (E.2.2 0, 12, .inl (fun _ => 0))), (q52, .inl (E.2.2 0, 10, .inl (loF (j + 1)))), (q60, .inl (E.2.2 0, 10, .inl (loL j))), (q68, .inl (E.2.2 0, 10, .inl (fun _ => 0))), (q105, .inl (E.2.2 0, 3, .inl (fun _ => 0)))] 9 93 125 [some (.ref a0), some (.int (nI j))] []
      refine y_ald0 h dX0_init_125 ?_
      refine y_get h 0 rfl rfl uwX0 (show 7 < 16 by decide) fl_X0_34 rfl rfl dX0_init_126 ?_
      refine y_ild1 h dX0_init_129 ?_
      refine y_ild1 h dX0_init_130 ?_
      refine y_iast h 7 rfl (vp_in_nI (by omega) (by decide)) dX0_init_131 ?_
      rw [show (nI j).toNatClampNeg = j from ix_n (by omega)]
      show Y E k [(a0, .inr (0, [.int 0, .ref q12, .ref q20, .ref q28, .ref q36, .ref q44, .ref q52, .ref q60, .ref q68, .int 0, .int 0, .int 0, .int 0, .int 1, .int 0, .ref q105])), (q12, .inl (E.2.2 0, 12, .inl (fun _ => 0))), (q20, .inl (E.2.2 0, 12, .inl (fun _ => 0))), (q28, .inl (E.2.2 0, 12, .inl (fun _ => 0))), (q36, .inl (E.2.2 0, 12, .inl (fun _ => 0))), (q44, .inl (E.2.2 0, 12, .inl (fun _ => 0))), (q52, .inl (E.2.2 0, 10, .inl (loF (j + 1)))), (q60, .inl (E.2.2 0, 10, .inl (loL (j + 1)))), (q68, .inl (E.2.2 0, 10, .inl (fun _ => 0))), (q105, .inl (E.2.2 0, 3, .inl (fun _ => 0)))] 9 93 132 [some (.ref a0), some (.int (nI j))] []
      refine y_inc1 h dX0_init_132 (by rw [hk]; decide) rfl (y := 1) rfl ?_
      rw [nI_1]
      refine y_goto 112 h dX0_init_135 rfl ?_
      exact ih (j + 1) (by omega) fin
  refine LA 10 0 (by omega) ?_
  refine y_iconst (v := 0) h dX0_init_138 rfl ?_
  refine y_ist1 h dX0_init_139 (by rw [hk]; decide) rfl ?_
  show Y E k [(a0, .inr (0, [.int 0, .ref q12, .ref q20, .ref q28, .ref q36, .ref q44, .ref q52, .ref q60, .ref q68, .int 0, .int 0, .int 0, .int 0, .int 1, .int 0, .ref q105])), (q12, .inl (E.2.2 0, 12, .inl (fun _ => 0))), (q20, .inl (E.2.2 0, 12, .inl (fun _ => 0))), (q28, .inl (E.2.2 0, 12, .inl (fun _ => 0))), (q36, .inl (E.2.2 0, 12, .inl (fun _ => 0))), (q44, .inl (E.2.2 0, 12, .inl (fun _ => 0))), (q52, .inl (E.2.2 0, 10, .inl (loF 10))), (q60, .inl (E.2.2 0, 10, .inl (loL 10))), (q68, .inl (E.2.2 0, 10, .inl (fun _ => 0))), (q105, .inl (E.2.2 0, 3, .inl (fun _ => 0)))] 9 93 140 [some (.ref a0), some (.int 0)] []
  have LB : ∀ (d j : Nat), j + d = 3 → Y E k [(a0, .inr (0, [.int 0, .ref q12, .ref q20, .ref q28, .ref q36, .ref q44, .ref q52, .ref q60, .ref q68, .int 0, .int 0, .int 0, .int 0, .int 1, .int 0, .ref q105])), (q12, .inl (E.2.2 0, 12, .inl (fun _ => 0))), (q20, .inl (E.2.2 0, 12, .inl (fun _ => 0))), (q28, .inl (E.2.2 0, 12, .inl (fun _ => 0))), (q36, .inl (E.2.2 0, 12, .inl (fun _ => 0))), (q44, .inl (E.2.2 0, 12, .inl (fun _ => 0))), (q52, .inl (E.2.2 0, 10, .inl (loF 10))), (q60, .inl (E.2.2 0, 10, .inl (loL 10))), (q68, .inl (E.2.2 0, 10, .inl (fun _ => 0))), (q105, .inl (E.2.2 0, 3, .inl (loC 3)))] 9 93 158 [some (.ref a0), some (.int (nI 3))] [] → Y E k [(a0, .inr (0, [.int 0, .ref q12, .ref q20, .ref q28, .ref q36, .ref q44, .ref q52, .ref q60, .ref q68, .int 0, .int 0, .int 0, .int 0, .int 1, .int 0, .ref q105])), (q12, .inl (E.2.2 0, 12, .inl (fun _ => 0))), (q20, .inl (E.2.2 0, 12, .inl (fun _ => 0))), (q28, .inl (E.2.2 0, 12, .inl (fun _ => 0))), (q36, .inl (E.2.2 0, 12, .inl (fun _ => 0))), (q44, .inl (E.2.2 0, 12, .inl (fun _ => 0))), (q52, .inl (E.2.2 0, 10, .inl (loF 10))), (q60, .inl (E.2.2 0, 10, .inl (loL 10))), (q68, .inl (E.2.2 0, 10, .inl (fun _ => 0))), (q105, .inl (E.2.2 0, 3, .inl (loC j)))] 9 93 140 [some (.ref a0), some (.int (nI j))] [] := by
    intro d
    induction d with
    | zero =>
      intro j hj fin
      have ej : j = 3 := by omega
      subst ej
      refine y_ild1 h dX0_init_140 ?_
      refine y_iconst (v := 3) h dX0_init_141 rfl ?_
      refine y_icmp_ge 158 h dX0_init_142 rfl (fun c142 => ?_) (fun c142 => absurd (by decide) c142)
      show Y E k [(a0, .inr (0, [.int 0, .ref q12, .ref q20, .ref q28, .ref q36, .ref q44, .ref q52, .ref q60, .ref q68, .int 0, .int 0, .int 0, .int 0, .int 1, .int 0, .ref q105])), (q12, .inl (E.2.2 0, 12, .inl (fun _ => 0))), (q20, .inl (E.2.2 0, 12, .inl (fun _ => 0))), (q28, .inl (E.2.2 0, 12, .inl (fun _ => 0))), (q36, .inl (E.2.2 0, 12, .inl (fun _ => 0))), (q44, .inl (E.2.2 0, 12, .inl (fun _ => 0))), (q52, .inl (E.2.2 0, 10, .inl (loF 10))), (q60, .inl (E.2.2 0, 10, .inl (loL 10))), (q68, .inl (E.2.2 0, 10, .inl (fun _ => 0))), (q105, .inl (E.2.2 0, 3, .inl (loC 3)))] 9 93 158 [some (.ref a0), some (.int (nI 3))] []
      exact fin
    | succ d ih =>
      intro j hj fin
      refine y_ild1 h dX0_init_140 ?_
      refine y_iconst (v := 3) h dX0_init_141 rfl ?_
      refine y_icmp_ge 158 h dX0_init_142 rfl (fun c142 => absurd c142 (fun z => by have := n_le (a := 3) (b := j) (by omega) (by omega) z; omega)) (fun c142 => ?_)
      show Y E k [(a0, .inr (0, [.int 0, .ref q12, .ref q20, .ref q28, .ref q36, .ref q44, .ref q52, .ref q60, .ref q68, .int 0, .int 0, .int 0, .int 0, .int 1, .int 0, .ref q105])), (q12, .inl (E.2.2 0, 12, .inl (fun _ => 0))), (q20, .inl (E.2.2 0, 12, .inl (fun _ => 0))), (q28, .inl (E.2.2 0, 12, .inl (fun _ => 0))), (q36, .inl (E.2.2 0, 12, .inl (fun _ => 0))), (q44, .inl (E.2.2 0, 12, .inl (fun _ => 0))), (q52, .inl (E.2.2 0, 10, .inl (loF 10))), (q60, .inl (E.2.2 0, 10, .inl (loL 10))), (q68, .inl (E.2.2 0, 10, .inl (fun _ => 0))), (q105, .inl (E.2.2 0, 3, .inl (loC j)))] 9 93 145 [some (.ref a0), some (.int (nI j))] []
      refine y_ald0 h dX0_init_145 ?_
      refine y_get h 0 rfl rfl uwX0 (show 15 < 16 by decide) fl_X0_58 rfl rfl dX0_init_146 ?_
      refine y_ild1 h dX0_init_149 ?_
      refine y_iconst (v := (-1)) h dX0_init_150 rfl ?_
      refine y_iast h 9 rfl (vp_in_nI (by omega) (by decide)) dX0_init_151 ?_
      rw [show (nI j).toNatClampNeg = j from ix_n (by omega)]
      show Y E k [(a0, .inr (0, [.int 0, .ref q12, .ref q20, .ref q28, .ref q36, .ref q44, .ref q52, .ref q60, .ref q68, .int 0, .int 0, .int 0, .int 0, .int 1, .int 0, .ref q105])), (q12, .inl (E.2.2 0, 12, .inl (fun _ => 0))), (q20, .inl (E.2.2 0, 12, .inl (fun _ => 0))), (q28, .inl (E.2.2 0, 12, .inl (fun _ => 0))), (q36, .inl (E.2.2 0, 12, .inl (fun _ => 0))), (q44, .inl (E.2.2 0, 12, .inl (fun _ => 0))), (q52, .inl (E.2.2 0, 10, .inl (loF 10))), (q60, .inl (E.2.2 0, 10, .inl (loL 10))), (q68, .inl (E.2.2 0, 10, .inl (fun _ => 0))), (q105, .inl (E.2.2 0, 3, .inl (loC (j + 1))))] 9 93 152 [some (.ref a0), some (.int (nI j))] []
      refine y_inc1 h dX0_init_152 (by rw [hk]; decide) rfl (y := 1) rfl ?_
      rw [nI_1]
      refine y_goto 140 h dX0_init_155 rfl ?_
      exact ih (j + 1) (by omega) fin
  refine LB 3 0 (by omega) ?_
  show Y E k [(a0, .inr (0, [.int 0, .ref q12, .ref q20, .ref q28, .ref q36, .ref q44, .ref q52, .ref q60, .ref q68, .int 0, .int 0, .int 0, .int 0, .int 1, .int 0, .ref q105])), (q12, .inl (E.2.2 0, 12, .inl (fun _ => 0))), (q20, .inl (E.2.2 0, 12, .inl (fun _ => 0))), (q28, .inl (E.2.2 0, 12, .inl (fun _ => 0))), (q36, .inl (E.2.2 0, 12, .inl (fun _ => 0))), (q44, .inl (E.2.2 0, 12, .inl (fun _ => 0))), (q52, .inl (E.2.2 0, 10, .inl (loF 10))), (q60, .inl (E.2.2 0, 10, .inl (loL 10))), (q68, .inl (E.2.2 0, 10, .inl (fun _ => 0))), (q105, .inl (E.2.2 0, 3, .inl (loC 3)))] 9 93 158 [some (.ref a0), some (.int (nI 3))] []
  exact y_vret h hr ⟨fun i => match i with | 1 => q12 | 2 => q20 | 3 => q28 | 4 => q36 | 5 => q44 | 6 => q52 | 7 => q60 | 8 => q68 | _ => q105, rfl⟩ dX0_init_158
