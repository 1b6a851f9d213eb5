/-! the tape, the rest -/
def wdP (b : Nat → Int32) (s e : Nat) (k : Int32) (i : Nat) : Bool := decide (k = 1) && decide (e - s = lenJ.getD i 0) && (List.range (lenJ.getD i 0)).all (fun x => decide (b (s + x) = (bytJ.getD i []).getD x 0))
def sgP (b : Nat → Int32) (s : Nat) (k c : Int32) : Bool := decide (k = 3) && decide (b s = c)
def numF (b : Nat → Int32) (s : Nat) : Nat → Int32
  | 0 => 0
  | n + 1 => numF b s n * 10 + b (s + n) - 48
def shv (j : Nat) : Int32 := match j with | 0 => 24 | 1 => 16 | 2 => 8 | 3 => 0 | _ => -8
/-- four bytes of v from place n on -/
def by4 (b : Nat → Int32) (n : Nat) (v : Int32) : Nat → Nat → Int32
  | 0 => b
  | j + 1 => upd (by4 b n v j) (n + j) (jush v (shv j) &&& 255)
theorem wdP_t {b : Nat → Int32} {s e : Nat} {k : Int32} {i : Nat} (h1 : k = 1) (h2 : e - s = lenJ.getD i 0) (h3 : ∀ x, x < lenJ.getD i 0 → b (s + x) = (bytJ.getD i []).getD x 0) : wdP b s e k i = true := by
  unfold wdP
  simp only [Bool.and_eq_true, decide_eq_true_eq, List.all_eq_true, List.mem_range]
  exact ⟨⟨h1, h2⟩, h3⟩
theorem wdP_f {b : Nat → Int32} {s e : Nat} {k : Int32} {i : Nat} (h : ¬ k = 1 ∨ ¬ e - s = lenJ.getD i 0 ∨ ∃ x, x < lenJ.getD i 0 ∧ ¬ b (s + x) = (bytJ.getD i []).getD x 0) : ¬ wdP b s e k i = true := by
  unfold wdP
  simp only [Bool.and_eq_true, decide_eq_true_eq, List.all_eq_true, List.mem_range]
  rintro ⟨⟨h1, h2⟩, h3⟩
  rcases h with h | h | ⟨x, hx, h⟩
  · exact h h1
  · exact h h2
  · exact h (h3 x hx)
set_option maxRecDepth 100000 in
set_option maxHeartbeats 4000000 in
theorem c_X6_begin0 (B : BT) (σ : Nat → Nat → Int32) (n : Nat) (hn : σ 32 1 = nI n) (hn96 : n ≤ 96) : CV B yX6_begin cX6_begin 1 none ({ frames := 2, cells := 0, slots := 0, locals := 42 }) [.ref (aB B 32)] (T3 σ (σ 32 2) (σ 32 3) (σ 32 4)) (fun σ' => σ' = T3 σ (nI (tS (σ 33) n 0)) (nI (tE (σ 33) n 0)) (tK (σ 33) n 0)) := by
  refine MX.of2 RX6 (by decide) rfl ⟨rfl, rfl⟩ (Nat.le_of_ble_eq_true rfl) (by rfl) (fun k h hr hk => ?_)
  skip
  show XC B k (T3 σ (σ 32 2) (σ 32 3) (σ 32 4)) 0 [some (.ref (aB B 32))] []
  refine x_ald0 h dX6_begin_0 ?_
  refine x_iconst (v := 0) h dX6_begin_1 rfl ?_
  refine w_X6_22 h dX6_begin_2 ?_
  rw [T3_e]
  refine x_ald0 h dX6_begin_5 ?_
  refine vCV0 32 h cs_X6_28 (c_X6_step B σ (σ 32 2) (σ 32 4) n 0 hn hn96 (by omega)) (⟨by decide, fun _ _ => rfl⟩ : ObjC 32 5) rfl ⟨rfl, rfl⟩ ⟨Nat.le_of_ble_eq_true rfl, Nat.le_of_ble_eq_true rfl⟩ (Nat.le_of_ble_eq_true rfl) dX6_begin_6 (fun s6 p6 => ?_)
  obtain rfl := p6
  refine x_vret h hr ?_ dX6_begin_9
  exact ⟨_, rfl, rfl, rfl⟩
theorem c_X6_begin (B : BT) (σ : Nat → Nat → Int32) (n : Nat) (hn : σ 32 1 = nI n) (hn96 : n ≤ 96) : CV B yX6_begin cX6_begin 1 none ({ frames := 2, cells := 0, slots := 0, locals := 42 }) [.ref (aB B 32)] σ (fun σ' => σ' = T3 σ (nI (tS (σ 33) n 0)) (nI (tE (σ 33) n 0)) (tK (σ 33) n 0)) := by
  have h := c_X6_begin0 B σ n hn hn96
  rwa [T3_id] at h
set_option maxRecDepth 100000 in
set_option maxHeartbeats 4000000 in
theorem c_X6_isWord (B : BT) (σ : Nat → Nat → Int32) (s e : Nat) (hs : σ 32 2 = nI s) (he : σ 32 3 = nI e) (hse : s ≤ e) (he96 : e ≤ 96) (i : Nat) (hi : i < 7) : CI B yX6_isWord cX6_isWord 3 (some .boolean) ({ frames := 6, cells := 0, slots := 0, locals := 425 }) [.ref (aB B 32), .ref (aB B (100 + i))] σ (fun r σ' => r = bI (wdP (σ 33) s e (σ 32 4) i = true) ∧ σ' = σ) := by
  refine MX.of2 RX6 (by decide) rfl ⟨rfl, rfl⟩ (Nat.le_of_ble_eq_true rfl) (by rfl) (fun k h hr hk => ?_)
  show XC B k σ 0 [some (.ref (aB B 32)), some (.ref (aB B (100 + i))), none] []
  have K26 : σ 32 4 = 1 → e - s = lenJ.getD i 0 → XC B k σ 26 [some (.ref (aB B 32)), some (.ref (aB B (100 + i))), none] [] := by
    intro c5 c21
    have loop : ∀ (f x : Nat), lenJ.getD i 0 < f + x → x ≤ lenJ.getD i 0 → (∀ y, y < x → σ 33 (s + y) = (bytJ.getD i []).getD y 0) → XC B k σ 28 [some (.ref (aB B 32)), some (.ref (aB B (100 + i))), some (.int (nI x))] [] := by
      intro f
      induction f with
      | zero => intro x h1 h2; omega
      | succ f ih =>
        intro x h1 h2 hall
        refine x_ild2 h dX6_isWord_28 ?_
        refine x_ald1 h dX6_isWord_29 ?_
        refine vstrCI0 i hi h cs_X6_35 (c_J0_length_8abf5 B _ i hi) rfl ⟨rfl, rfl⟩ ⟨Nat.le_of_ble_eq_true rfl, Nat.le_of_ble_eq_true rfl⟩ (Nat.le_of_ble_eq_true rfl) dX6_isWord_30 (fun r30 s30 p30 => ?_)
        obtain ⟨rfl, rfl⟩ := p30
        refine x_icmp_ge 63 h dX6_isWord_33 (by decide) (fun c33 => ?_) (fun c33 => ?_)
        · have c33 := n_le (by have := lenJ_le i; omega) (by omega) c33
          refine x_iconst (v := 1) h dX6_isWord_63 rfl ?_
          refine x_zret h hr (by decide) ?_ dX6_isWord_64
          exact ⟨_, _, rfl, rfl, (bI_t (wdP_t c5 c21 (fun y hy => hall y (by omega)))).symm, rfl⟩
        · have c33 := n_nle (by have := lenJ_le i; omega) (by omega) c33
          refine x_ald0 h dX6_isWord_36 ?_
          refine r_X6_9 h dX6_isWord_37 ?_
          refine x_ald0 h dX6_isWord_40 ?_
          refine r_X6_19 h dX6_isWord_41 ?_
          refine x_ild2 h dX6_isWord_44 ?_
          refine x_iadd h dX6_isWord_45 ?_
          rw [hs, nI_add]
          refine xc_ialdN (s + x) (rfl) (by omega) (by decide) h 33 (⟨by decide, fun _ _ => rfl⟩ : ArrC 33 96) dX6_isWord_46 ?_
          refine x_ald1 h dX6_isWord_47 ?_
          refine x_ild2 h dX6_isWord_48 ?_
          refine vstrCI1 i hi h cs_X6_40 (c_J0_charAt_5068e B _ i hi x c33) rfl ⟨rfl, rfl⟩ ⟨Nat.le_of_ble_eq_true rfl, Nat.le_of_ble_eq_true rfl⟩ (Nat.le_of_ble_eq_true rfl) dX6_isWord_49 (fun r49 s49 p49 => ?_)
          obtain ⟨rfl, rfl⟩ := p49
          refine x_icmp_eq 57 h dX6_isWord_52 (by decide) (fun c52 => ?_) (fun c52 => ?_)
          · refine x_inc2 (y := 1) h dX6_isWord_57 (by rw [hk]; decide) rfl rfl ?_
            refine x_goto 28 h dX6_isWord_60 (by decide) ?_
            rw [nI_1 x]
            exact ih (x + 1) (by omega) (by omega) (fun y hy => by
              by_cases q : y = x
              · subst q; exact c52
              · exact hall y (by omega))
          · refine x_iconst (v := 0) h dX6_isWord_55 rfl ?_
            refine x_zret h hr (by decide) ?_ dX6_isWord_56
            exact ⟨_, _, rfl, rfl, (bI_f (wdP_f (Or.inr (Or.inr ⟨x, c33, c52⟩)))).symm, rfl⟩
    have loop := loop (lenJ.getD i 0 + 1) 0 (by omega) (by omega) (fun y hy => by omega)
    refine x_iconst (v := 0) h dX6_isWord_26 rfl ?_
    refine x_ist2 h dX6_isWord_27 (by rw [hk]; decide) rfl ?_
    exact loop
  refine x_ald0 h dX6_isWord_0 ?_
  refine r_X6_25 h dX6_isWord_1 ?_
  refine x_iconst (v := 1) h dX6_isWord_4 rfl ?_
  refine x_icmp_ne 24 h dX6_isWord_5 (by decide) (fun c5 => ?_) (fun c5 => ?_)
  · have c5 : ¬ σ 32 4 = 1 := c5
    refine x_iconst (v := 0) h dX6_isWord_24 rfl ?_
    refine x_zret h hr (by decide) ?_ dX6_isWord_25
    refine ⟨_, _, rfl, rfl, (bI_f (wdP_f ?_)).symm, rfl⟩
    first | exact Or.inl c5 | exact Or.inr (Or.inl c21')
  · refine x_ald0 h dX6_isWord_8 ?_
    refine r_X6_22 h dX6_isWord_9 ?_
    refine x_ald0 h dX6_isWord_12 ?_
    refine r_X6_19 h dX6_isWord_13 ?_
    refine x_isub h dX6_isWord_16 ?_
    rw [he, hs, pk_sub hse]
    refine x_ald1 h dX6_isWord_17 ?_
    refine vstrCI0 i hi h cs_X6_35 (c_J0_length_8abf5 B _ i hi) rfl ⟨rfl, rfl⟩ ⟨Nat.le_of_ble_eq_true rfl, Nat.le_of_ble_eq_true rfl⟩ (Nat.le_of_ble_eq_true rfl) dX6_isWord_18 (fun r18 s18 p18 => ?_)
    obtain ⟨rfl, rfl⟩ := p18
    refine x_icmp_eq 26 h dX6_isWord_21 (by decide) (fun c21 => ?_) (fun c21 => ?_)
    · have c21 := n_eq (by omega) (by have := lenJ_le i; omega) c21
      exact K26 c5 c21
    · have c21' : ¬ e - s = lenJ.getD i 0 := fun q => c21 (by rw [q])
      refine x_iconst (v := 0) h dX6_isWord_24 rfl ?_
      refine x_zret h hr (by decide) ?_ dX6_isWord_25
      refine ⟨_, _, rfl, rfl, (bI_f (wdP_f ?_)).symm, rfl⟩
      first | exact Or.inl c5 | exact Or.inr (Or.inl c21')
set_option maxRecDepth 100000 in
set_option maxHeartbeats 4000000 in
theorem c_X6_isSign (B : BT) (σ : Nat → Nat → Int32) (s : Nat) (hs : σ 32 2 = nI s) (h96 : σ 32 4 = 3 → s < 96) (c : Int32) : CI B yX6_isSign cX6_isSign 2 (some .boolean) ({ frames := 0, cells := 0, slots := 0, locals := 0 }) [.ref (aB B 32), .int c] σ (fun r σ' => r = bI (sgP (σ 33) s (σ 32 4) c = true) ∧ σ' = σ) := by
  refine MX.of2 RX6 (by decide) rfl ⟨rfl, rfl⟩ (Nat.le_of_ble_eq_true rfl) (by rfl) (fun k h hr hk => ?_)
  show XC B k σ 0 [some (.ref (aB B 32)), some (.int c)] []
  refine x_ald0 h dX6_isSign_0 ?_
  refine r_X6_25 h dX6_isSign_1 ?_
  refine x_iconst (v := 3) h dX6_isSign_4 rfl ?_
  refine x_icmp_ne 25 h dX6_isSign_5 (by decide) (fun c5 => ?_) (fun c5 => ?_)
  · have c5 : ¬ σ 32 4 = 3 := c5
    refine x_iconst (v := 0) h dX6_isSign_25 rfl ?_
    refine x_zret h hr (by decide) ?_ dX6_isSign_26
    exact ⟨_, _, rfl, rfl, bI_e (by simp_all [sgP]), rfl⟩
  · have c5 : σ 32 4 = 3 := c5
    refine x_ald0 h dX6_isSign_8 ?_
    refine r_X6_9 h dX6_isSign_9 ?_
    refine x_ald0 h dX6_isSign_12 ?_
    refine r_X6_19 h dX6_isSign_13 ?_
    refine xc_ialdN (s) (hs) (h96 c5) (by decide) h 33 (⟨by decide, fun _ _ => rfl⟩ : ArrC 33 96) dX6_isSign_16 ?_
    refine x_ild1 h dX6_isSign_17 ?_
    refine x_icmp_ne 25 h dX6_isSign_18 (by decide) (fun c18 => ?_) (fun c18 => ?_)
    · refine x_iconst (v := 0) h dX6_isSign_25 rfl ?_
      refine x_zret h hr (by decide) ?_ dX6_isSign_26
      exact ⟨_, _, rfl, rfl, bI_e (by simp_all [sgP]), rfl⟩
    · refine x_iconst (v := 1) h dX6_isSign_21 rfl ?_
      refine x_goto 26 h dX6_isSign_22 (by decide) ?_
      refine x_zret h hr (by decide) ?_ dX6_isSign_26
      exact ⟨_, _, rfl, rfl, bI_e (by simp_all [sgP]), rfl⟩
set_option maxRecDepth 100000 in
set_option maxHeartbeats 4000000 in
theorem c_X6_number (B : BT) (σ : Nat → Nat → Int32) (s e : Nat) (hs : σ 32 2 = nI s) (he : σ 32 3 = nI e) (hse : s ≤ e) (he96 : e ≤ 96) : CI B yX6_number cX6_number 3 (some .int) ({ frames := 0, cells := 0, slots := 0, locals := 0 }) [.ref (aB B 32)] σ (fun r σ' => r = numF (σ 33) s (e - s) ∧ σ' = σ) := by
  refine MX.of2 RX6 (by decide) rfl ⟨rfl, rfl⟩ (Nat.le_of_ble_eq_true rfl) (by rfl) (fun k h hr hk => ?_)
  show XC B k σ 0 [some (.ref (aB B 32)), none, none] []
  have loop : ∀ (f x : Nat), e - s < f + x → x ≤ e - s → XC B k σ 7 [some (.ref (aB B 32)), some (.int (numF (σ 33) s x)), some (.int (nI (s + x)))] [] := by
    intro f
    induction f with
    | zero => intro x h1 h2; omega
    | succ f ih =>
      intro x h1 h2
      refine x_ild2 h dX6_number_7 ?_
      refine x_ald0 h dX6_number_8 ?_
      refine r_X6_22 h dX6_number_9 ?_
      refine x_icmp_ge 36 h dX6_number_12 (by decide) (fun c12 => ?_) (fun c12 => ?_)
      · have c12 : σ 32 3 ≤ nI (s + x) := c12
        rw [he] at c12
        have c12 := n_le (by omega) (by omega) c12
        have ex : x = e - s := by omega
        subst ex
        refine x_ild1 h dX6_number_36 ?_
        refine x_iret h hr ?_ dX6_number_37
        exact ⟨_, _, rfl, rfl, rfl, rfl⟩
      · have c12 : ¬ σ 32 3 ≤ nI (s + x) := c12
        rw [he] at c12
        have c12 := n_nle (by omega) (by omega) c12
        refine x_ild1 h dX6_number_15 ?_
        refine x_bipush (v := 10) h dX6_number_16 rfl ?_
        refine x_imul h dX6_number_18 ?_
        refine x_ald0 h dX6_number_19 ?_
        refine r_X6_9 h dX6_number_20 ?_
        refine x_ild2 h dX6_number_23 ?_
        refine xc_ialdN (s + x) (rfl) (by omega) (by decide) h 33 (⟨by decide, fun _ _ => rfl⟩ : ArrC 33 96) dX6_number_24 ?_
        refine x_iadd h dX6_number_25 ?_
        refine x_bipush (v := 48) h dX6_number_26 rfl ?_
        refine x_isub h dX6_number_28 ?_
        refine x_ist1 h dX6_number_29 (by rw [hk]; decide) rfl ?_
        refine x_inc2 (y := 1) h dX6_number_30 (by rw [hk]; decide) rfl rfl ?_
        refine x_goto 7 h dX6_number_33 (by decide) ?_
        rw [nI_1 (s + x)]
        exact ih (x + 1) (by omega) (by omega)
  have loop := loop (e - s + 1) 0 (by omega) (by omega)
  refine x_iconst (v := 0) h dX6_number_0 rfl ?_
  refine x_ist1 h dX6_number_1 (by rw [hk]; decide) rfl ?_
  refine x_ald0 h dX6_number_2 ?_
  refine r_X6_19 h dX6_number_3 ?_
  refine x_ist2 h dX6_number_6 (by rw [hk]; decide) rfl ?_
  rw [hs]
  exact loop
set_option maxRecDepth 100000 in
set_option maxHeartbeats 4000000 in
theorem c_X6_addFour (B : BT) (σ : Nat → Nat → Int32) (n : Nat) (hn : σ 32 1 = nI n) (hn4 : n + 4 ≤ 96) (v : Int32) : CV B yX6_addFour cX6_addFour 3 none ({ frames := 0, cells := 0, slots := 0, locals := 0 }) [.ref (aB B 32), .int v] σ (fun σ' => σ' = up1 (up2 σ 32 1 (nI (n + 4))) 33 (by4 (σ 33) n v 4)) := by
  refine MX.of2 RX6 (by decide) rfl ⟨rfl, rfl⟩ (Nat.le_of_ble_eq_true rfl) (by rfl) (fun k h hr hk => ?_)
  show XC B k σ 0 [some (.ref (aB B 32)), some (.int v), none] []
  have loop : ∀ (f j : Nat), 4 < f + j → j ≤ 4 → XC B k (up1 (up2 σ 32 1 (nI (n + j))) 33 (by4 (σ 33) n v j)) 3 [some (.ref (aB B 32)), some (.int v), some (.int (shv j))] [] := by
    intro f
    induction f with
    | zero => intro j h1 h2; omega
    | succ f ih =>
      intro j h1 h2
      refine x_ild2 h dX6_addFour_3 ?_
      refine x_if_lt 48 h dX6_addFour_4 (by decide) (fun c4 => ?_) (fun c4 => ?_)
      · have ej : j = 4 := by
          rcases (show j = 0 ∨ j = 1 ∨ j = 2 ∨ j = 3 ∨ j = 4 by omega) with rfl | rfl | rfl | rfl | rfl
          · exact absurd c4 (by decide)
          · exact absurd c4 (by decide)
          · exact absurd c4 (by decide)
          · exact absurd c4 (by decide)
          · rfl
        subst ej
        refine x_vret h hr ?_ dX6_addFour_48
        exact ⟨_, rfl, rfl, rfl⟩
      · have hj : j < 4 := by
          rcases (show j < 4 ∨ j = 4 by omega) with q | rfl
          · exact q
          · exact absurd (by decide) c4
        refine x_ald0 h dX6_addFour_7 ?_
        refine r_X6_15 h dX6_addFour_8 ?_
        refine x_bipush (v := 96) h dX6_addFour_11 rfl ?_
        refine x_icmp_ge 48 h dX6_addFour_13 (by decide) (fun c13 => ?_) (fun c13 => ?_)
        · exact absurd (n_le (a := 96) (by omega) (by omega) c13) (by omega)
        · refine x_ald0 h dX6_addFour_16 ?_
          refine r_X6_9 h dX6_addFour_17 ?_
          refine x_ald0 h dX6_addFour_20 ?_
          refine r_X6_15 h dX6_addFour_21 ?_
          refine x_ild1 h dX6_addFour_24 ?_
          refine x_ild2 h dX6_addFour_25 ?_
          refine x_iushr h dX6_addFour_26 ?_
          refine x_sipush (v := 255) h dX6_addFour_27 rfl ?_
          refine x_iand h dX6_addFour_30 ?_
          refine xc_iastN (n + j) (rfl) (by omega) (by decide) h 33 (⟨by decide, fun _ _ => rfl⟩ : ArrC 33 96) dX6_addFour_31 ?_
          refine x_ald0 h dX6_addFour_32 ?_
          refine x_dup h dX6_addFour_33 rfl ?_
          refine r_X6_15 h dX6_addFour_34 ?_
          refine x_iconst (v := 1) h dX6_addFour_37 rfl ?_
          refine x_iadd h dX6_addFour_38 ?_
          refine w_X6_15 h dX6_addFour_39 ?_
          have es : up2 (up2 (up1 (up2 σ 32 1 (nI (n + j))) 33 (by4 (σ 33) n v j)) 33 (n + j) (jush v (shv j) &&& 255)) 32 1 (nI (n + j) + 1) = up1 (up2 σ 32 1 (nI (n + (j + 1)))) 33 (by4 (σ 33) n v (j + 1)) := by
            rw [nI_1, up2_up1]
            show up2 (up1 (up2 σ 32 1 (nI (n + j))) 33 (by4 (σ 33) n v (j + 1))) 32 1 (nI (n + j + 1)) = _
            rw [up1_up2, up1_comm (by decide : 33 ≠ 32), up1_n (by decide : 32 ≠ 33), up1_up2, up1_up1, up1_s]
            congr 2
            funext q
            unfold upd
            by_cases h9 : q = 1
            · rw [if_pos h9, if_pos h9]; rfl
            · rw [if_neg h9, if_neg h9, if_neg h9]
          change XC B k (up2 (up2 (up1 (up2 σ 32 1 (nI (n + j))) 33 (by4 (σ 33) n v j)) 33 (n + j) (jush v (shv j) &&& 255)) 32 1 (nI (n + j) + 1)) 42 _ _
          rw [es]
          refine x_inc2 (y := (-8)) h dX6_addFour_42 (by rw [hk]; decide) rfl rfl ?_
          refine x_goto 3 h dX6_addFour_45 (by decide) ?_
          rw [show shv j + (-8) = shv (j + 1) by rcases (show j = 0 ∨ j = 1 ∨ j = 2 ∨ j = 3 by omega) with rfl | rfl | rfl | rfl <;> decide]
          exact ih (j + 1) (by omega) (by omega)
  have loop := loop 5 0 (by omega) (by omega)
  rw [show up1 (up2 σ 32 1 (nI (n + 0))) 33 (by4 (σ 33) n v 0) = σ by rw [Nat.add_zero, ← hn, up2_id]; exact up1_self] at loop
  refine x_bipush (v := 24) h dX6_addFour_0 rfl ?_
  refine x_ist2 h dX6_addFour_2 (by rw [hk]; decide) rfl ?_
  exact loop
