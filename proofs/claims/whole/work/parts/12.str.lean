/-! the seven texts: length, charAt -/
theorem fl_J0_9 : Cond.fieldLink RJ0 9 "java/lang/String" "value" "[B" ∈ UW := uw_of 1262 (by decide +kernel) rfl
theorem fl_J0_15 : Cond.fieldLink RJ0 15 "java/lang/String" "coder" "B" ∈ UW := uw_of 1263 (by decide +kernel) rfl
theorem fl_J0_38 : Cond.fieldLink RJ0 38 "java/lang/String" "COMPACT_STRINGS" "Z" ∈ UW := uw_of 627 (by decide +kernel) rfl
theorem fl_J0_1053 : Cond.fieldLink RJ0 1053 "jdk/internal/util/Preconditions" "SIOOBE_FORMATTER" "Ljava/util/function/BiFunction;" ∈ UW := uw_of 643 (by decide +kernel) rfl
section XS
variable {B : BT} {k : KT} {cc : ByteArray} {own : String} {rm : Room} {σ : Nat → Nat → Int32} {pc : Nat} {L : List (Option Value)} {st : List Value}
theorem Ok.ev {G : GT} (h : Ok G k cc own rm) : Ev (ga G) (kA k) (ks k) (ks k).heap := h.2.2.2.2.2.2.2.2.2.2
theorem x_ldcs (h : Ok (GC B) k cc RX3 rm) (i : Nat) (hi : i < 7) (hdg : decode cc pc = .ok (.ldc (kJ i), 2)) (kk : XC B k σ (pc + 2) L (.ref (aB B (100 + i)) :: st)) : XC B k σ pc L st := fun H locs ls hP hD hS hl => va_ldcS h.1 h.2.1 h.2.2.2.1 (h.ev.2.2.1 i hi) hdg (kk H locs ls hP hD hS hl)
theorem x_strv (h : Ok (GC B) k cc RJ0 rm) (i : Nat) (hi : i < 7) (hdg : decode cc pc = .ok (.getfield 9, 3)) (kk : XC B k σ (pc + 3) L (.ref (aB B (200 + i)) :: st)) : XC B k σ pc L (.ref (aB B (100 + i)) :: st) := fun H locs ls hP hD hS hl => vk_getf h.1 h.2.1 (h.ev.2.1.1 i hi).2.2.1 hS h.2.2.2.1 (h.2.2.2.2.1 _ fl_J0_9) (fun _ z => z) hdg (kk H locs ls hP hD hS hl)
theorem x_strc (h : Ok (GC B) k cc RJ0 rm) (i : Nat) (hi : i < 7) (hdg : decode cc pc = .ok (.getfield 15, 3)) (kk : XC B k σ (pc + 3) L (.int 0 :: st)) : XC B k σ pc L (.ref (aB B (100 + i)) :: st) := fun H locs ls hP hD hS hl => vk_getf h.1 h.2.1 (h.ev.2.1.1 i hi).2.1 hS h.2.2.2.1 (h.2.2.2.2.1 _ fl_J0_15) (fun _ z => z) hdg (kk H locs ls hP hD hS hl)
theorem x_gets (h : Ok (GC B) k cc RJ0 rm) (hdg : decode cc pc = .ok (.getstatic 38, 3)) (kk : XC B k σ (pc + 3) L (.int 1 :: st)) : XC B k σ pc L st := fun H locs ls hP hD hS hl => va_gets h.1 h.2.1 h.ev.2.2.2.1 hS h.2.2.2.1 (h.2.2.2.2.1 _ fl_J0_38) (fun _ z => z) hdg (kk H locs ls hP hD hS hl)
theorem x_getsq (h : Ok (GC B) k cc RJ0 rm) (hdg : decode cc pc = .ok (.getstatic 1053, 3)) (kk : ∀ v : Value, (v = .null ∨ ∃ t, v = .ref t) → XC B k σ (pc + 3) L (v :: st)) : XC B k σ pc L st := fun H locs ls hP hD hS hl => by
  rcases h.ev.2.2.2.2 with z | ⟨t, z⟩
  · exact va_gets h.1 h.2.1 z hS h.2.2.2.1 (h.2.2.2.2.1 _ fl_J0_1053) (fun _ z => z) hdg (kk .null (Or.inl rfl) H locs ls hP hD hS hl)
  · exact va_gets h.1 h.2.1 z hS h.2.2.2.1 (h.2.2.2.2.1 _ fl_J0_1053) (fun _ z => z) hdg (kk (.ref t) (Or.inr ⟨t, rfl⟩) H locs ls hP hD hS hl)
theorem x_tal (h : Ok (GC B) k cc own rm) (i : Nat) (hi : i < 7) (hdg : decode cc pc = .ok (.arraylength, 1)) (kk : XC B k σ (pc + 1) L (.int (nI (lenJ.getD i 0)) :: st)) : XC B k σ pc L (.ref (aB B (200 + i)) :: st) := fun H locs ls hP hD hS hl => by
  obtain ⟨cell, h1, h2, h3, h4, h5, h6, h7⟩ := (h.ev.2.1.1 i hi).2.2.2.kept hS.2.1
  exact W.alen h.1 h.2.1 h1 h2 h5 rfl rfl hdg (kk H locs ls hP hD hS hl)
theorem x_tbl {x : Int32} (h : Ok (GC B) k cc own rm) (i : Nat) (hi : i < 7) (hin : vp_in x (lenJ.getD i 0)) (hdg : decode cc pc = .ok (.baload, 1)) (kk : XC B k σ (pc + 1) L (.int ((bytJ.getD i []).getD x.toNatClampNeg 0) :: st)) : XC B k σ pc L (.int x :: .ref (aB B (200 + i)) :: st) := fun H locs ls hP hD hS hl => va_tb h.1 h.2.1 (h.ev.2.1.1 i hi).2.2.2 hS hin rfl hdg (kk H locs ls hP hD hS hl)
theorem x_i2c {G : GT} {ce : Nat → va_E} {x : Int32} (h : Ok G k cc own rm) (hdg : decode cc pc = .ok (.i2c, 1)) (kk : X G k ce (pc + 1) L (.int (x.toUInt32 % 65536).toInt32 :: st)) : X G k ce pc L (.int x :: st) := fun H locs ls hP hD hS hl => lv_i2c h.1 h.2.1 hdg rfl (kk H locs ls hP hD hS hl)
theorem x_nret {G : GT} {ce : Nat → va_E} {P : Option Value → (Nat → va_E) → Prop} {v : Int32} {ty : FieldType} (h : Ok G k cc own rm) (hr : Ret G k (some ty) P) (hn : narrow ty (.int v) = .int v) (hp : P (some (.int v)) ce) (hdg : decode cc pc = .ok (.ireturn, 1)) : X G k ce pc L [.int v] := by
  intro H locs ls hP hD hS hl
  obtain ⟨hx, hb, hml, hown, hts, hK, hA, hR, hc0, hs0, hEv⟩ := h
  obtain ⟨r1, r2, r3, r4, ws0, sz, r5, r6, r7⟩ := hr
  rw [r3, r4, r7]
  rw [r5] at hD hS
  exact W.zret (v := v) hx hb r1 hn (fun t ht hW => ⟨⟨_, ce, rfl, hp, by rw [ht]; exact hP, va_K.moved hW.alike hK, hD⟩, hS.F ht⟩) hS.2.2 hdg (hlocks := r2)
theorem x_cret {G : GT} {ce : Nat → va_E} {P : Option Value → (Nat → va_E) → Prop} {v : Int32} (h : Ok G k cc own rm) (hr : Ret G k (some .char) P) (hn : narrow .char (.int v) = .int v) (hp : P (some (.int v)) ce) (hdg : decode cc pc = .ok (.ireturn, 1)) : X G k ce pc L [.int v] := x_nret h hr hn hp hdg
theorem x_bret {G : GT} {ce : Nat → va_E} {P : Option Value → (Nat → va_E) → Prop} {v : Int32} (h : Ok G k cc own rm) (hr : Ret G k (some .byte) P) (hn : narrow .byte (.int v) = .int v) (hp : P (some (.int v)) ce) (hdg : decode cc pc = .ok (.ireturn, 1)) : X G k ce pc L [.int v] := x_nret h hr hn hp hdg
theorem vstrCI0 {index nLc : Nat} {y : MethodName} {cy : ByteArray} {ret : Option FieldType} {rc : Room} {P : Int32 → (Nat → Nat → Int32) → Prop} (i : Nat) (hi : i < 7) (h : Ok (GC B) k cc own rm) (cf : CFV own index y cy nLc ret 0) (hM : CI B y cy nLc ret rc [.ref (aB B (100 + i))] σ P) (hcl : y.cls = RJ0) (hrc : rc.cells = 0 ∧ rc.slots = 0) (hroom : rc.frames + 1 ≤ rm.frames ∧ 8 + (nLc + 11) + rc.locals ≤ rm.locals) (hW : (st.map fun v => v.category).sum ≤ 8) (hdg : decode cc pc = .ok (.invokevirtual index, 3)) (kk : ∀ r σ', P r σ' → XC B k σ' (pc + 3) L (.int r :: st)) : XC B k σ pc L (.ref (aB B (100 + i)) :: st) := by
  intro H locs ls hP hD hS hl
  have h' := h
  obtain ⟨hx, hb, hml, hown, hts, hK, hA, hR, hc0, hs0, hEv⟩ := h
  obtain ⟨⟨f1, f2, f3, f4⟩, f5, f6⟩ := cf
  refine x_cont h' hD hS hl (va_runV (nL := kL k) (own := own) (As := []) (rest := st) (C := y.cls) (Ts := UW) ⟨hx, hb, hml, hown, hts⟩ (hM H.size) ⟨callB_of 0 hts (uw_goodIn f1) rfl hrc.1 hrc.2 (hts _ f2) (hts _ f4) f3 (by rw [hR]; exact hroom), hts _ f5, hts _ f6⟩ ⟨va_F_QX_blind (y := y), by rw [hcl]; exact vk_recv (adK := fun i => aB B (100 + i)) (i := i) hEv.2.1 hi hS, fun U hU hW9 => ⟨rfl, by rw [hU], by rw [hU]; exact hP, va_K.moved hW9.alike hK, hD.weaken (fun _ _ _ _ => trivial), by rw [hU]; exact hEv.to hW9 hS.2.1 (va_sub h' hD hS)⟩⟩ rfl rfl hl.1 rfl (lv_room hW) hdg ⟨hc0, hs0⟩) (fun v ce' hp => by obtain ⟨r, σ', rfl, rfl, hp⟩ := hp; exact kk r σ' hp)
theorem vstrCI1 {index nLc : Nat} {y : MethodName} {cy : ByteArray} {ret : Option FieldType} {rc : Room} {u0 : Value} {P : Int32 → (Nat → Nat → Int32) → Prop} (i : Nat) (hi : i < 7) (h : Ok (GC B) k cc own rm) (cf : CFV own index y cy nLc ret 1) (hM : CI B y cy nLc ret rc [.ref (aB B (100 + i)), u0] σ P) (hcl : y.cls = RJ0) (hrc : rc.cells = 0 ∧ rc.slots = 0) (hroom : rc.frames + 1 ≤ rm.frames ∧ 8 + (nLc + 11) + rc.locals ≤ rm.locals) (hW : (st.map fun v => v.category).sum ≤ 8) (hdg : decode cc pc = .ok (.invokevirtual index, 3)) (kk : ∀ r σ', P r σ' → XC B k σ' (pc + 3) L (.int r :: st)) : XC B k σ pc L (u0 :: .ref (aB B (100 + i)) :: st) := by
  intro H locs ls hP hD hS hl
  have h' := h
  obtain ⟨hx, hb, hml, hown, hts, hK, hA, hR, hc0, hs0, hEv⟩ := h
  obtain ⟨⟨f1, f2, f3, f4⟩, f5, f6⟩ := cf
  refine x_cont h' hD hS hl (va_runV (nL := kL k) (own := own) (As := [u0]) (rest := st) (C := y.cls) (Ts := UW) ⟨hx, hb, hml, hown, hts⟩ (hM H.size) ⟨callB_of 1 hts (uw_goodIn f1) rfl hrc.1 hrc.2 (hts _ f2) (hts _ f4) f3 (by rw [hR]; exact hroom), hts _ f5, hts _ f6⟩ ⟨va_F_QX_blind (y := y), by rw [hcl]; exact vk_recv (adK := fun i => aB B (100 + i)) (i := i) hEv.2.1 hi hS, fun U hU hW9 => ⟨rfl, by rw [hU], by rw [hU]; exact hP, va_K.moved hW9.alike hK, hD.weaken (fun _ _ _ _ => trivial), by rw [hU]; exact hEv.to hW9 hS.2.1 (va_sub h' hD hS)⟩⟩ rfl rfl hl.1 rfl (lv_room hW) hdg ⟨hc0, hs0⟩) (fun v ce' hp => by obtain ⟨r, σ', rfl, rfl, hp⟩ := hp; exact kk r σ' hp)
end XS
set_option maxRecDepth 100000 in
set_option maxHeartbeats 4000000 in
theorem c_J0_coder_7d493 (B : BT) (σ : Nat → Nat → Int32) (i : Nat) (hi : i < 7) : CI B yJ0_coder_7d493 cJ0_coder_7d493 1 (some .byte) ({ frames := 0, cells := 0, slots := 0, locals := 0 }) [.ref (aB B (100 + i))] σ (fun r σ' => r = 0 ∧ σ' = σ) := by
  refine MX.of2 RJ0 (by decide) rfl ⟨rfl, rfl⟩ (Nat.le_of_ble_eq_true rfl) (by rfl) (fun k h hr hk => ?_)
  show XC B k σ 0 [some (.ref (aB B (100 + i)))] []
  refine x_gets h dJ0_coder_7d493_0 ?_
  refine x_if_eq 13 h dJ0_coder_7d493_3 (by decide) (fun c3 => ?_) (fun c3 => ?_)
  · exact absurd c3 (by decide)
  · refine x_ald0 h dJ0_coder_7d493_6 ?_
    refine x_strc h i hi dJ0_coder_7d493_7 ?_
    refine x_goto 14 h dJ0_coder_7d493_10 (by decide) ?_
    refine x_bret h hr (by rfl) ?_ dJ0_coder_7d493_14
    exact ⟨_, _, rfl, rfl, rfl, rfl⟩
set_option maxRecDepth 100000 in
set_option maxHeartbeats 4000000 in
theorem c_J0_isLatin1_aae02 (B : BT) (σ : Nat → Nat → Int32) (i : Nat) (hi : i < 7) : CI B yJ0_isLatin1_aae02 cJ0_isLatin1_aae02 1 (some .boolean) ({ frames := 0, cells := 0, slots := 0, locals := 0 }) [.ref (aB B (100 + i))] σ (fun r σ' => r = 1 ∧ σ' = σ) := by
  refine MX.of2 RJ0 (by decide) rfl ⟨rfl, rfl⟩ (Nat.le_of_ble_eq_true rfl) (by rfl) (fun k h hr hk => ?_)
  show XC B k σ 0 [some (.ref (aB B (100 + i)))] []
  refine x_gets h dJ0_isLatin1_aae02_0 ?_
  refine x_if_eq 17 h dJ0_isLatin1_aae02_3 (by decide) (fun c3 => ?_) (fun c3 => ?_)
  · exact absurd c3 (by decide)
  · refine x_ald0 h dJ0_isLatin1_aae02_6 ?_
    refine x_strc h i hi dJ0_isLatin1_aae02_7 ?_
    refine x_if_ne 17 h dJ0_isLatin1_aae02_10 (by decide) (fun c10 => ?_) (fun c10 => ?_)
    · exact absurd rfl c10
    · refine x_iconst (v := 1) h dJ0_isLatin1_aae02_13 rfl ?_
      refine x_goto 18 h dJ0_isLatin1_aae02_14 (by decide) ?_
      refine x_zret h hr (Or.inr rfl) ?_ dJ0_isLatin1_aae02_18
      exact ⟨_, _, rfl, rfl, rfl, rfl⟩
theorem lenJ_le (i : Nat) : lenJ.getD i 0 ≤ 4 := by
  by_cases h : i < 7
  · have h' : i = 0 ∨ i = 1 ∨ i = 2 ∨ i = 3 ∨ i = 4 ∨ i = 5 ∨ i = 6 := by omega
    rcases h' with rfl | rfl | rfl | rfl | rfl | rfl | rfl <;> decide
  · rw [List.getD_eq_getElem?_getD, List.getElem?_eq_none (by show 7 ≤ i; omega)]
    decide
theorem sh0 {n : Nat} (h : n ≤ 4) : nI n >>> ((0 : Int32) &&& 31) = nI n := by
  have h' : n = 0 ∨ n = 1 ∨ n = 2 ∨ n = 3 ∨ n = 4 := by omega
  rcases h' with rfl | rfl | rfl | rfl | rfl <;> decide
set_option maxRecDepth 100000 in
set_option maxHeartbeats 4000000 in
theorem c_J0_length_8abf5 (B : BT) (σ : Nat → Nat → Int32) (i : Nat) (hi : i < 7) : CI B yJ0_length_8abf5 cJ0_length_8abf5 1 (some .int) ({ frames := 1, cells := 0, slots := 0, locals := 40 }) [.ref (aB B (100 + i))] σ (fun r σ' => r = nI (lenJ.getD i 0) ∧ σ' = σ) := by
  refine MX.of2 RJ0 (by decide) rfl ⟨rfl, rfl⟩ (Nat.le_of_ble_eq_true rfl) (by rfl) (fun k h hr hk => ?_)
  show XC B k σ 0 [some (.ref (aB B (100 + i)))] []
  refine x_ald0 h dJ0_length_8abf5_0 ?_
  refine x_strv h i hi dJ0_length_8abf5_1 ?_
  refine x_tal h i hi dJ0_length_8abf5_4 ?_
  refine x_ald0 h dJ0_length_8abf5_5 ?_
  refine vstrCI0 i hi h cs_J0_335 (c_J0_coder_7d493 B _ i hi) rfl ⟨rfl, rfl⟩ ⟨Nat.le_of_ble_eq_true rfl, Nat.le_of_ble_eq_true rfl⟩ (Nat.le_of_ble_eq_true rfl) dJ0_length_8abf5_6 (fun r6 s6 p6 => ?_)
  obtain ⟨rfl, rfl⟩ := p6
  refine x_ishr h dJ0_length_8abf5_9 ?_
  refine x_iret h hr ?_ dJ0_length_8abf5_10
  exact ⟨_, _, rfl, rfl, sh0 (lenJ_le i), rfl⟩

set_option maxRecDepth 100000 in
set_option maxHeartbeats 4000000 in
theorem c_J3_checkIndex_8e157 (B : BT) (σ : Nat → Nat → Int32) (x n : Nat) (hx : x < n) (hn : n < 2 ^ 31) (v : Value) (hv : v.category = 1) : CI B yJ3_checkIndex_8e157 cJ3_checkIndex_8e157 3 (some .int) ({ frames := 0, cells := 0, slots := 0, locals := 0 }) [.int (nI x), .int (nI n), v] σ (fun r σ' => r = nI x ∧ σ' = σ) := by
  refine MX.of2 RJ3 (by decide) rfl ⟨rfl, rfl⟩ (Nat.le_of_ble_eq_true rfl) (by show (decide (Value.category (.int (nI x)) ≠ 2) && (decide (Value.category (.int (nI n)) ≠ 2) && (decide (v.category ≠ 2) && true))) = true; rw [hv]; rfl) (fun k h hr hk => ?_)
  show XC B k σ 0 [some (.int (nI x)), some (.int (nI n)), some (v)] []
  refine x_ild0 h dJ3_checkIndex_8e157_0 ?_
  refine x_if_lt 9 h dJ3_checkIndex_8e157_1 (by decide) (fun c1 => ?_) (fun c1 => ?_)
  · exact absurd c1 (nI_pos (by omega))
  · refine x_ild0 h dJ3_checkIndex_8e157_4 ?_
    refine x_ild1 h dJ3_checkIndex_8e157_5 ?_
    refine x_icmp_lt 16 h dJ3_checkIndex_8e157_6 (by decide) (fun c6 => ?_) (fun c6 => ?_)
    · refine x_ild0 h dJ3_checkIndex_8e157_16 ?_
      refine x_iret h hr ?_ dJ3_checkIndex_8e157_17
      exact ⟨_, _, rfl, rfl, rfl, rfl⟩
    · exact absurd (nI_lt hx hn) c6
set_option maxRecDepth 100000 in
set_option maxHeartbeats 4000000 in
theorem c_J0_checkIndex_df160 (B : BT) (σ : Nat → Nat → Int32) (x n : Nat) (hx : x < n) (hn : n < 2 ^ 31) : CV B yJ0_checkIndex_df160 cJ0_checkIndex_df160 2 none ({ frames := 1, cells := 0, slots := 0, locals := 40 }) [.int (nI x), .int (nI n)] σ (fun σ' => σ' = σ) := by
  refine MX.of2 RJ0 (by decide) rfl ⟨rfl, rfl⟩ (Nat.le_of_ble_eq_true rfl) (by rfl) (fun k h hr hk => ?_)
  show XC B k σ 0 [some (.int (nI x)), some (.int (nI n))] []
  refine x_ild0 h dJ0_checkIndex_df160_0 ?_
  refine x_ild1 h dJ0_checkIndex_df160_1 ?_
  refine x_getsq h dJ0_checkIndex_df160_2 (fun v hv => ?_)
  refine sCI3 h cs_J0_1059 (c_J3_checkIndex_8e157 B _ _ _ hx hn v (by rcases hv with rfl | ⟨t, rfl⟩ <;> rfl)) ⟨rfl, rfl⟩ ⟨Nat.le_of_ble_eq_true rfl, Nat.le_of_ble_eq_true rfl⟩ (Nat.le_of_ble_eq_true rfl) dJ0_checkIndex_df160_5 (fun r5 s5 p5 => ?_)
  obtain ⟨rfl, rfl⟩ := p5
  refine x_pop h dJ0_checkIndex_df160_8 rfl ?_
  refine x_vret h hr ?_ dJ0_checkIndex_df160_9
  exact ⟨_, rfl, rfl, rfl⟩
theorem chJ {i x : Nat} (hi : i < 7) (hx : x < lenJ.getD i 0) : (((bytJ.getD i []).getD (nI x).toNatClampNeg 0 &&& 255).toUInt32 % 65536).toInt32 = (bytJ.getD i []).getD x 0 ∧ narrow .char (.int ((((bytJ.getD i []).getD (nI x).toNatClampNeg 0 &&& 255).toUInt32 % 65536).toInt32)) = .int ((((bytJ.getD i []).getD (nI x).toNatClampNeg 0 &&& 255).toUInt32 % 65536).toInt32) := by
  have h' : i = 0 ∨ i = 1 ∨ i = 2 ∨ i = 3 ∨ i = 4 ∨ i = 5 ∨ i = 6 := by omega
  have hl := lenJ_le i
  have h2 : x = 0 ∨ x = 1 ∨ x = 2 ∨ x = 3 := by omega
  rcases h2 with rfl | rfl | rfl | rfl <;> rcases h' with rfl | rfl | rfl | rfl | rfl | rfl | rfl <;> first | exact ⟨by decide, by decide⟩ | exact absurd hx (by decide)
set_option maxRecDepth 100000 in
set_option maxHeartbeats 4000000 in
theorem c_J1_charAt_3b067 (B : BT) (σ : Nat → Nat → Int32) (i : Nat) (hi : i < 7) (x : Nat) (hx : x < lenJ.getD i 0) : CI B yJ1_charAt_3b067 cJ1_charAt_3b067 2 (some .char) ({ frames := 2, cells := 0, slots := 0, locals := 80 }) [.ref (aB B (200 + i)), .int (nI x)] σ (fun r σ' => r = (bytJ.getD i []).getD x 0 ∧ σ' = σ) := by
  refine MX.of2 RJ1 (by decide) rfl ⟨rfl, rfl⟩ (Nat.le_of_ble_eq_true rfl) (by rfl) (fun k h hr hk => ?_)
  show XC B k σ 0 [some (.ref (aB B (200 + i))), some (.int (nI x))] []
  refine x_ild1 h dJ1_charAt_3b067_0 ?_
  refine x_ald0 h dJ1_charAt_3b067_1 ?_
  refine x_tal h i hi dJ1_charAt_3b067_2 ?_
  refine sCV2 h cs_J1_9 (c_J0_checkIndex_df160 B _ _ _ hx (by have := lenJ_le i; omega)) ⟨rfl, rfl⟩ ⟨Nat.le_of_ble_eq_true rfl, Nat.le_of_ble_eq_true rfl⟩ (Nat.le_of_ble_eq_true rfl) dJ1_charAt_3b067_3 (fun s3 p3 => ?_)
  obtain rfl := p3
  refine x_ald0 h dJ1_charAt_3b067_6 ?_
  refine x_ild1 h dJ1_charAt_3b067_7 ?_
  refine x_tbl h i hi (vp_in_nI hx (by have := lenJ_le i; omega)) dJ1_charAt_3b067_8 ?_
  refine x_sipush (v := 255) h dJ1_charAt_3b067_9 rfl ?_
  refine x_iand h dJ1_charAt_3b067_12 ?_
  refine x_i2c h dJ1_charAt_3b067_13 ?_
  refine x_cret h hr ((chJ hi hx).2) ?_ dJ1_charAt_3b067_14
  exact ⟨_, _, rfl, rfl, (chJ hi hx).1, rfl⟩
theorem chN {i x : Nat} (hi : i < 7) (hx : x < lenJ.getD i 0) : narrow .char (.int ((bytJ.getD i []).getD x 0)) = .int ((bytJ.getD i []).getD x 0) := by
  have h := chJ hi hx
  rw [h.1] at h
  exact h.2
set_option maxRecDepth 100000 in
set_option maxHeartbeats 4000000 in
theorem c_J0_charAt_5068e (B : BT) (σ : Nat → Nat → Int32) (i : Nat) (hi : i < 7) (x : Nat) (hx : x < lenJ.getD i 0) : CI B yJ0_charAt_5068e cJ0_charAt_5068e 2 (some .char) ({ frames := 3, cells := 0, slots := 0, locals := 120 }) [.ref (aB B (100 + i)), .int (nI x)] σ (fun r σ' => r = (bytJ.getD i []).getD x 0 ∧ σ' = σ) := by
  refine MX.of2 RJ0 (by decide) rfl ⟨rfl, rfl⟩ (Nat.le_of_ble_eq_true rfl) (by rfl) (fun k h hr hk => ?_)
  show XC B k σ 0 [some (.ref (aB B (100 + i))), some (.int (nI x))] []
  refine x_ald0 h dJ0_charAt_5068e_0 ?_
  refine vstrCI0 i hi h cs_J0_492 (c_J0_isLatin1_aae02 B _ i hi) rfl ⟨rfl, rfl⟩ ⟨Nat.le_of_ble_eq_true rfl, Nat.le_of_ble_eq_true rfl⟩ (Nat.le_of_ble_eq_true rfl) dJ0_charAt_5068e_1 (fun r1 s1 p1 => ?_)
  obtain ⟨rfl, rfl⟩ := p1
  refine x_if_eq 16 h dJ0_charAt_5068e_4 (by decide) (fun c4 => ?_) (fun c4 => ?_)
  · exact absurd c4 (by decide)
  · refine x_ald0 h dJ0_charAt_5068e_7 ?_
    refine x_strv h i hi dJ0_charAt_5068e_8 ?_
    refine x_ild1 h dJ0_charAt_5068e_11 ?_
    refine sCI2 h cs_J0_495 (c_J1_charAt_3b067 B _ _ hi x hx) ⟨rfl, rfl⟩ ⟨Nat.le_of_ble_eq_true rfl, Nat.le_of_ble_eq_true rfl⟩ (Nat.le_of_ble_eq_true rfl) dJ0_charAt_5068e_12 (fun r12 s12 p12 => ?_)
    obtain ⟨rfl, rfl⟩ := p12
    refine x_cret h hr (chN hi hx) ?_ dJ0_charAt_5068e_15
    exact ⟨_, _, rfl, rfl, rfl, rfl⟩
