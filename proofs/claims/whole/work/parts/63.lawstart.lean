/-! the law's start -/
def flT : List Cond := flatC (Jvm.Cond.and given_1 narrow_1)
def tmJ (i : Nat) : Term := Term.string RX3 (kJ i)
theorem fl_ex : ∀ i, i < 7 → Cond.exactly (tmJ i) "java/lang/String" ∈ flT := by decide +kernel
theorem fl_co : ∀ i, i < 7 → Cond.eq (.field (tmJ i) "java/lang/String" "coder" "B") (.int 0) ∈ flT := by decide +kernel
theorem fl_ar : ∀ i, i < 7 → Cond.arrayOf (.field (tmJ i) "java/lang/String" "value" "[B") .byte ∈ flT := by decide +kernel
theorem fl_le : ∀ i, i < 7 → Cond.eq (.length (.field (tmJ i) "java/lang/String" "value" "[B")) (.int (Int32.ofNat (lenJ.getD i 0))) ∈ flT := by decide +kernel
theorem fl_el : ∀ i, i < 7 → ∀ j, j < lenJ.getD i 0 → Cond.eq (.elem (.field (tmJ i) "java/lang/String" "value" "[B") (.int (Int32.ofNat j))) (.int ((bytJ.getD i []).getD j 0)) ∈ flT := by decide +kernel
theorem fl_ne : ∀ i, i < 7 → ∀ j, j < 7 → i ≠ j → Cond.not (Cond.eq (tmJ i) (tmJ j)) ∈ flT ∨ Cond.not (Cond.eq (tmJ j) (tmJ i)) ∈ flT := by decide +kernel
theorem fl_cs : Cond.eq (.static "java/lang/String" "COMPACT_STRINGS" "Z") (.int 1) ∈ flT := by decide +kernel
theorem fl_sf : Cond.isRef (.static "jdk/internal/util/Preconditions" "SIOOBE_FORMATTER" "Ljava/util/function/BiFunction;") ∈ flT := by decide +kernel
theorem tb_sr : ∀ i, i < 7 → Cond.stringRef RX3 (kJ i) (txJ i) ∈ lw_tbl := by
  intro i hi
  match i, hi with
  | 0, _ => exact List.mem_of_getElem? (i := 614) (by decide +kernel)
  | 1, _ => exact List.mem_of_getElem? (i := 667) (by decide +kernel)
  | 2, _ => exact List.mem_of_getElem? (i := 668) (by decide +kernel)
  | 3, _ => exact List.mem_of_getElem? (i := 694) (by decide +kernel)
  | 4, _ => exact List.mem_of_getElem? (i := 695) (by decide +kernel)
  | 5, _ => exact List.mem_of_getElem? (i := 696) (by decide +kernel)
  | 6, _ => exact List.mem_of_getElem? (i := 697) (by decide +kernel)
  | n + 7, h => exact absurd h (by omega)
theorem ev_0 {s : State} {b : Nat} {A : Nat → Prop} (hts : ∀ w ∈ lw_tbl, w.before #[Value.ref b] s = true) (hgv : (Jvm.Cond.and given_1 narrow_1).before #[Value.ref b] s = true) (hA : ∀ a : Nat, a < s.heap.size → ¬ A a) : ∃ sK sV : Nat → Nat, ∀ a : Nat → Nat, (∀ i, i < 7 → a (100 + i) = sK i ∧ a (200 + i) = sV i) → Ev a A s s.heap := by
  have hs : ∀ w ∈ flT, w.before #[Value.ref b] s = true := flat_of_before _ hgv
  obtain ⟨sK, sV, h1, h2⟩ := vk_Sof (N := 7) (tm := tmJ) (len := lenJ) (byt := bytJ) (A := A) (by decide) (fun i hi => hs _ (fl_ex i hi)) (fun i hi => hs _ (fl_co i hi)) (fun i hi => hs _ (fl_ar i hi)) (fun i hi => hs _ (fl_le i hi)) (fun i hi j hj => hs _ (fl_el i hi j hj)) (fun i j hi hj hij => (fl_ne i hi j hj hij).elim (fun z => Or.inl (hs _ z)) (fun z => Or.inr (hs _ z))) hA
  refine ⟨sK, sV, fun a ha => ⟨va_Nw.of rfl (hts (.methodLinkNest RX0 87 yX7_held RX7) (List.mem_of_getElem? (i := 355) (by decide +kernel))), ?_, fun i hi => ?_, va_Zof (hts _ (List.mem_of_getElem? (i := 628) (by decide +kernel))) (hts _ (List.mem_of_getElem? (i := 55) (by decide +kernel))) (va_eqi (hs _ fl_cs)) hA, va_Zqof (hts _ (List.mem_of_getElem? (i := 644) (by decide +kernel))) (hts _ (List.mem_of_getElem? (i := 57) (by decide +kernel))) (hs _ fl_sf) hA⟩⟩
  · obtain ⟨g1, g2⟩ := h1
    refine ⟨fun i hi => ?_, fun i j hi hj e => g2 i j hi hj ?_⟩
    · show va_O "java/lang/String" (a (100 + i)) A s s.heap ∧ va_OF "java/lang/String" "coder" "B" (.int 0) (a (100 + i)) A s s.heap ∧ va_OF "java/lang/String" "value" "[B" (.ref (a (200 + i))) (a (100 + i)) A s s.heap ∧ va_T .byte (a (200 + i)) (lenJ.getD i 0) (fun j => .int ((bytJ.getD i []).getD j 0)) A s s.heap
      rw [(ha i hi).1, (ha i hi).2]
      exact g1 i hi
    · rw [← (ha i hi).1, ← (ha j hj).1]
      exact e
  · rw [(ha i hi).1]
    exact vk_R.of (hts _ (tb_sr i hi)) (h2 i hi)
theorem aK_0 {a : Nat} {q5 : Nat} {q16 : Nat} {q32 : Nat} {q45 : Nat} {q51 : Nat} {q62 : Nat} {q73 : Nat} {q85 : Nat} {q93 : Nat} {q102 : Nat} {g55 : Nat} {g66 : Nat} {q124r0 : Nat} {q124r1 : Nat} {q124r2 : Nat} {q124r3 : Nat} {q150s0 : Nat} {q150s1 : Nat} {q150s2 : Nat} {q150s3 : Nat} {q150s4 : Nat} {g128r0 : Nat} {g128r1 : Nat} {g128r2 : Nat} {g128r3 : Nat} {g9 : Nat → Nat} {g20 : Nat → Nat} {g36 : Nat → Nat} {g77 : Nat → Nat} {g154s0 : Nat → Nat} {g154s1 : Nat → Nat} {g154s2 : Nat → Nat} {g154s3 : Nat → Nat} {g154s4 : Nat → Nat} {sK sV : Nat → Nat} : ∀ i, i < 7 → aC7 a q5 q16 q32 q45 q51 q62 q73 q85 q93 q102 g55 g66 q124r0 q124r1 q124r2 q124r3 q150s0 q150s1 q150s2 q150s3 q150s4 g128r0 g128r1 g128r2 g128r3 g9 g20 g36 g77 g154s0 g154s1 g154s2 g154s3 g154s4 sK sV (100 + i) = sK i ∧ aC7 a q5 q16 q32 q45 q51 q62 q73 q85 q93 q102 g55 g66 q124r0 q124r1 q124r2 q124r3 q150s0 q150s1 q150s2 q150s3 q150s4 g128r0 g128r1 g128r2 g128r3 g9 g20 g36 g77 g154s0 g154s1 g154s2 g154s3 g154s4 sK sV (200 + i) = sV i := fun i hi => by
  unfold aC7
  rw [if_neg (by omega), if_pos (by omega), if_neg (by omega), if_neg (by omega), Nat.add_sub_cancel_left, Nat.add_sub_cancel_left]
  exact ⟨rfl, rfl⟩
theorem aK_1 {a : Nat} {g sK sV : Nat → Nat} : ∀ i, i < 7 → aM8 a g sK sV (100 + i) = sK i ∧ aM8 a g sK sV (200 + i) = sV i := fun i hi => by
  unfold aM8
  rw [if_neg (by omega), if_pos (by omega), if_neg (by omega), if_neg (by omega), Nat.add_sub_cancel_left, Nat.add_sub_cancel_left]
  exact ⟨rfl, rfl⟩
theorem know_0 {s : State} {b : Nat} (hts : ∀ w ∈ lw_tbl, w.before #[Value.ref b] s = true) : ∃ (D : va_G) (i : Nat → ClassId), va_K D vwCl (tysG i) s := by
  have hU : ∀ w ∈ UW, w.before #[Value.ref b] s = true := fun w hw => hts w (uw_tbl hw)
  obtain ⟨c0, S0, h0⟩ := u_known (C := RX0) (T := TX0) (N := 16) (n := 16) hU uwX0 (hU _ uN_X0)
  obtain ⟨c1, S1, h1⟩ := u_known (C := RX2) (T := TX2) (N := 5) (n := 5) hU uwX2 (hU _ uN_X2)
  obtain ⟨c2, S2, h2⟩ := u_known (C := RX3) (T := TX3) (N := 4) (n := 4) hU uwX3 (hU _ uN_X3)
  obtain ⟨c3, S3, h3⟩ := u_known (C := RX4) (T := TX4) (N := 3) (n := 3) hU uwX4 (hU _ uN_X4)
  obtain ⟨c4, S4, h4⟩ := u_known (C := RX5) (T := TX5) (N := 5) (n := 5) hU uwX5 (hU _ uN_X5)
  obtain ⟨c5, S5, h5⟩ := u_known (C := RX6) (T := TX6) (N := 5) (n := 5) hU uwX6 (hU _ uN_X6)
  obtain ⟨c6, S6, h6⟩ := u_known (C := RX7) (T := TX7) (N := 12) (n := 12) hU uwX7 (hU _ uN_X7)
  obtain ⟨c7, S7, h7⟩ := u_known (C := RX8) (T := TX8) (N := 35) (n := 35) hU uwX8 (hU _ uN_X8)
  obtain ⟨i0, k0, m0, u0, v0, w0⟩ := Cond.arrayClass_spec (hU _ uA_int)
  obtain ⟨i1, k1, m1, u1, v1, w1⟩ := Cond.arrayClass_spec (hU _ uA_boolean)
  obtain ⟨i2, k2, m2, u2, v2, w2⟩ := Cond.arrayClass_spec (hU _ uA_char)
  obtain ⟨i3, k3, m3, u3, v3, w3⟩ := Cond.arrayClass_spec (hU _ uA_long)
  obtain ⟨m4, i4, k4, e4, -, v4, w4, u4⟩ := Cond.arrayOver_spec (hts (.arrayOver (.object RX4)) (List.mem_of_getElem? (i := 215) (by decide +kernel)))
  obtain ⟨m5, i5, k5, e5, -, v5, w5, u5⟩ := Cond.arrayOver_spec (hts (.arrayOver (.object RX5)) (List.mem_of_getElem? (i := 217) (by decide +kernel)))
  obtain ⟨m6, i6, k6, e6, v6, w6, u6⟩ := Cond.arrayOver_specA (hts (.arrayOver (.array .int)) (List.mem_of_getElem? (i := 195) (by decide +kernel)))
  refine ⟨((fun j => match j with | 0 => c0 | 1 => c1 | 2 => c2 | 3 => c3 | 4 => c4 | 5 => c5 | 6 => c6 | _ => c7), fun j => match j with | 0 => S0 | 1 => S1 | 2 => S2 | 3 => S3 | 4 => S4 | 5 => S5 | 6 => S6 | _ => S7), (fun j => match j with | 0 => i0 | 1 => i1 | 2 => i2 | 3 => i3 | 4 => i4 | 5 => i5 | _ => i6), fun j q hq => ?_, fun j q hq => ?_⟩
  · match j, hq with
    | 0, hq => cases hq; exact h0
    | 1, hq => cases hq; exact h1
    | 2, hq => cases hq; exact h2
    | 3, hq => cases hq; exact h3
    | 4, hq => cases hq; exact h4
    | 5, hq => cases hq; exact h5
    | 6, hq => cases hq; exact h6
    | 7, hq => cases hq; exact h7
    | n + 8, hq => simp [vwCl] at hq
  · match j, hq with
    | 0, hq => cases hq; exact ⟨fun N z => ⟨(fun k h => by cases h), k0, v0, m0, w0⟩, u0⟩
    | 1, hq => cases hq; exact ⟨fun N z => ⟨(fun k h => by cases h), k1, v1, m1, w1⟩, u1⟩
    | 2, hq => cases hq; exact ⟨fun N z => ⟨(fun k h => by cases h), k2, v2, m2, w2⟩, u2⟩
    | 3, hq => cases hq; exact ⟨fun N z => ⟨(fun k h => by cases h), k3, v3, m3, w3⟩, u3⟩
    | 4, hq => cases hq; exact ⟨fun N z => ⟨(fun k h => by cases h), k4, v4, m4, w4⟩, k4, m4, v4, w4, e4, u4⟩
    | 5, hq => cases hq; exact ⟨fun N z => ⟨(fun k h => by cases h), k5, v5, m5, w5⟩, k5, m5, v5, w5, e5, u5⟩
    | 6, hq => cases hq; exact ⟨fun N z => ⟨(fun k h => by cases h), k6, v6, m6, w6⟩, u6⟩
    | n + 7, hq => simp [tysG] at hq
theorem nu_0 {s : State} {b : Nat} (hts : ∀ w ∈ lw_tbl, w.before #[Value.ref b] s = true) : NU s := ⟨va_Nw.of rfl (hts _ (List.mem_of_getElem? (i := 141) (by decide +kernel))), va_Nw.of rfl (hts _ (List.mem_of_getElem? (i := 166) (by decide +kernel))), va_Nw.of rfl (hts _ (List.mem_of_getElem? (i := 190) (by decide +kernel))), va_Nw.of rfl (hts _ (List.mem_of_getElem? (i := 219) (by decide +kernel))), va_Nw.of rfl (hts _ (List.mem_of_getElem? (i := 237) (by decide +kernel))), va_Nw.of rfl (hts _ (List.mem_of_getElem? (i := 242) (by decide +kernel))), va_AO.of (hts _ (List.mem_of_getElem? (i := 215) (by decide +kernel))), va_AO.of (hts _ (List.mem_of_getElem? (i := 217) (by decide +kernel))), hts (.arrayOver (.array .int)) (List.mem_of_getElem? (i := 195) (by decide +kernel))⟩
set_option maxRecDepth 100000 in
set_option maxHeartbeats 40000000 in
theorem law_start {p : Program} {e : Env} {s : State} {m : MethodId} {below : List Frame} {meth : Method} {c : Code} (l : Launch) {b N : Nat} {xs : Nat → Int32} {Q : State → Prop} (hN : N ≤ 3072) (hx : p.tables.exec = Jvm.exec) (hb : c.code = cL_law) (hml : c.maxLocals = 4) (hown : s.vm.findClass RL = some m.cls) (hts : ∀ w ∈ lw_tbl, w.before #[Value.ref b] s = true) (hX : va_X b N xs s s.heap) (hbl : b < s.heap.size) (hgv : (Jvm.Cond.and given_1 narrow_1).before #[Value.ref b] s = true)
    (hfin : ∀ (H : Heap) (ls : Array Slot), W p l e rLaw s m #[Value.ref b] below meth c H [] 600000 7302250 Q (F0 m 1553 ls [.int 1])) : W p l e rLaw s m #[Value.ref b] below meth c s.heap [] 0 0 Q (entryFrame m ([Value.ref b] : List Value).toArray 4) := by
  obtain ⟨D, i, hK⟩ := know_0 hts
  obtain ⟨sK, sV, hEv⟩ := ev_0 (A := fun q : Nat => s.heap.size ≤ q) hts hgv (fun a h => Nat.not_le.mpr h)
  have hNU := nu_0 hts
  have hl := lv_entry ([.ref b]) (n := 4) (Nat.le_of_ble_eq_true rfl)
  rw [lg_entry_eq]
  generalize (lg_sl ([.ref b]) ++ List.replicate (4 - (lg_sl ([.ref b])).length) Slot.unset).toArray = ls at hl ⊢
  obtain ⟨k, hk⟩ : ∃ k : KT, k = (p, e, s, m, #[Value.ref b], below, meth, c, Q, (fun q : Nat => s.heap.size ≤ q), 4, rLaw, 0, 0) := ⟨_, rfl⟩
  obtain ⟨E, hE⟩ : ∃ E : ET, E = (l, D, i) := ⟨_, rfl⟩
  have h : OkY E k cL_law RL rLaw := by subst hk; subst hE; exact ⟨hx, hb, hml, hown, fun w hw => hts w (uw_tbl hw), hK, fun _ h => h, rfl, hNU⟩
  have hL4 : kL k = 4 := by subst hk; rfl
  have hScr : Scr k b N xs := by subst hk; exact ⟨hX, hbl, Nat.not_le.mpr hbl⟩
  have hE1 : ∀ a : Nat → Nat, (∀ i, i < 7 → a (100 + i) = sK i ∧ a (200 + i) = sV i) → Ev a (kA k) (ks k) (ks k).heap := by subst hk; exact hEv
  have fin : ∀ ws L, Y E k ws 600000 7302250 1553 L [.int 1] := by subst hk; subst hE; exact fun ws L H locs ls hP hD hS hl => va_forget (fun q hq => hS.2.2 q hq) (hfin H ls)
  have main : Y E k [] 0 0 0 [some (.ref b), none, none, none] [] := by
    clear hl hfin hEv hX hK hts hgv hNU
    refine y_new h (show vwCl[6]? = some (RX7, TX7, 12) from rfl) uwX7 tyX7 tyX7_ok uk_L_7 uN_X7 uI_RX7 dfX7 (Nat.le_of_ble_eq_true rfl) (Nat.le_of_ble_eq_true rfl) dL_law_0 (fun a => ?_)
    refine y_dup h dL_law_3 rfl ?_
    refine y_call [] h uC_X7_init uI_RX7 ⟨by decide, by decide, by decide +kernel⟩ ui_L_9 uM_X7_init rfl (n_X7 E) rfl ⟨rfl, rfl⟩ ⟨Nat.le_of_ble_eq_true rfl, Nat.le_of_ble_eq_true rfl⟩ ⟨Nat.le_of_ble_eq_true rfl, Nat.le_of_ble_eq_true rfl⟩ (Nat.le_of_ble_eq_true rfl) dL_law_4 (fun w7 p7 => ?_)
    obtain ⟨q5, q16, q32, q45, q51, q62, q73, q85, q93, q102, g55, g66, q124r0, q124r1, q124r2, q124r3, q150s0, q150s1, q150s2, q150s3, q150s4, g128r0, g128r1, g128r2, g128r3, g9, g20, g36, g77, g154s0, g154s1, g154s2, g154s3, g154s4, rfl⟩ := p7
    refine world7 a q5 q16 q32 q45 q51 q62 q73 q85 q93 q102 g55 g66 q124r0 q124r1 q124r2 q124r3 q150s0 q150s1 q150s2 q150s3 q150s4 g128r0 g128r1 g128r2 g128r3 g9 g20 g36 g77 g154s0 g154s1 g154s2 g154s3 g154s4 sK sV ?_
    refine y_ast1 h dL_law_7 (by rw [hL4]; decide) rfl ?_
    refine y_new h (show vwCl[7]? = some (RX8, TX8, 35) from rfl) uwX8 tyX8 tyX8_ok uk_L_10 uN_X8 uI_RX8 dfX8 (Nat.le_of_ble_eq_true rfl) (Nat.le_of_ble_eq_true rfl) dL_law_8 (fun a8 => ?_)
    refine y_dup h dL_law_11 rfl ?_
    refine y_call (wl (GC (bTE E (aC7 a q5 q16 q32 q45 q51 q62 q73 q85 q93 q102 g55 g66 q124r0 q124r1 q124r2 q124r3 q150s0 q150s1 q150s2 q150s3 q150s4 g128r0 g128r1 g128r2 g128r3 g9 g20 g36 g77 g154s0 g154s1 g154s2 g154s3 g154s4 sK sV))) (cC (bTE E (aC7 a q5 q16 q32 q45 q51 q62 q73 q85 q93 q102 g55 g66 q124r0 q124r1 q124r2 q124r3 q150s0 q150s1 q150s2 q150s3 q150s4 g128r0 g128r1 g128r2 g128r3 g9 g20 g36 g77 g154s0 g154s1 g154s2 g154s3 g154s4 sK sV)) σ0)) h uC_X8_init uI_RX8 ⟨by decide, by decide, by decide +kernel⟩ ui_L_12 uM_X8_init rfl (n_X8 E) rfl ⟨rfl, rfl⟩ ⟨Nat.le_of_ble_eq_true rfl, Nat.le_of_ble_eq_true rfl⟩ ⟨Nat.le_of_ble_eq_true rfl, Nat.le_of_ble_eq_true rfl⟩ (Nat.le_of_ble_eq_true rfl) dL_law_12 (fun w8 p8 => ?_)
    obtain ⟨g, rfl⟩ := p8
    rw [world8 a8 g sK sV]
    refine y_ast2 h dL_law_15 (by rw [hL4]; decide) rfl ?_
    refine y_iconst (v := 0) h dL_law_16 rfl ?_
    refine y_ist3 h dL_law_17 (by rw [hL4]; decide) rfl ?_
    refine y_widen (cl' := 600000) (sl' := 7302250) (Nat.le_of_ble_eq_true rfl) (Nat.le_of_ble_eq_true rfl) ?_
    exact law_loop (a1 := (aC7 a q5 q16 q32 q45 q51 q62 q73 q85 q93 q102 g55 g66 q124r0 q124r1 q124r2 q124r3 q150s0 q150s1 q150s2 q150s3 q150s4 g128r0 g128r1 g128r2 g128r3 g9 g20 g36 g77 g154s0 g154s1 g154s2 g154s3 g154s4 sK sV)) (a2 := aM8 a8 g sK sV) ⟨h, hScr, hE1 _ aK_0, hE1 _ aK_1, hN, hL4⟩ fin N 0 σ0 μ0 (fun _ => 0) (by omega) (by omega) Rel_0
  subst hk
  subst hE
  exact main s.heap [] ls (fun k q h => by simp at h) ⟨fun i j p q h => by simp at h, fun k q h => by simp at h⟩ va_S.rf (lh_of hl (fun i v hv => by
    match i, hv with
    | 0, hv => cases hv; exact List.mem_cons_self
    | 1, hv => cases hv
    | 2, hv => cases hv
    | 3, hv => cases hv
    | n + 4, hv => cases hv))
