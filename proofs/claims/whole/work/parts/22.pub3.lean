/-! feed, text, pour, reads, copy, lay, check -/
theorem up2_u1 {σ : ST} {q i : Nat} {f : Nat → Int32} {x : Int32} : up2 (up1 σ q f) q i x = up1 σ q (upd f i x) := by
  rw [up1_up2, up1_s, up1_up1]
def fdS (σ : ST) (n : Nat) (a b c : Int32) : ST := up1 (up2 σ 32 1 (nI (n + 12))) 33 (by4 (by4 (by4 (σ 33) n a 4) (n + 4) b 4) (n + 8) c 4)
theorem fd_2 {σ : ST} {x y : Int32} {f g : Nat → Int32} : up1 (up2 (up1 (up2 σ 32 1 x) 33 f) 32 1 y) 33 g = up1 (up2 σ 32 1 y) 33 g := by
  funext q i
  unfold up1 up2 upd
  by_cases h1 : q = 33 <;> by_cases h2 : q = 32 <;> by_cases h3 : i = 1 <;> simp_all
set_option maxRecDepth 100000 in
set_option maxHeartbeats 4000000 in
theorem c_X7_feed (B : BT) (σ : ST) (n : Nat) (hn : σ 32 1 = nI n) (hn96 : n ≤ 96) (a b c : Int32) : CI B yX7_feed cX7_feed 4 (some .int) ({ frames := 1, cells := 0, slots := 0, locals := 22 }) [.ref (aB B 30), .int a, .int b, .int c] σ (fun v σ' => (v, σ') = if n + 12 ≤ 96 then (nI (n + 12), fdS σ n a b c) else (-1000000003, σ)) := by
  refine MX.of2 RX7 (by decide) rfl ⟨rfl, rfl⟩ (Nat.le_of_ble_eq_true rfl) (by rfl) (fun k h hr hk => ?_)
  show XC B k σ 0 [some (.ref (aB B 30)), some (.int a), some (.int b), some (.int c)] []
  refine x_ald0 h dX7_feed_0 ?_
  refine r_X7_33 h dX7_feed_1 ?_
  refine r_X7_241 h dX7_feed_4 ?_
  refine x_bipush (v := 12) h dX7_feed_7 rfl ?_
  refine x_iadd h dX7_feed_9 ?_
  refine x_bipush (v := 96) h dX7_feed_10 rfl ?_
  refine x_icmp_le 18 h dX7_feed_12 (by decide) (fun c12 => ?_) (fun c12 => ?_)
  · have c12' := c12
    rw [hn, show nI n + 12 = nI (n + 12) from nI_add n 12] at c12
    have c12 := n_le (a := n + 12) (b := 96) (by omega) (by decide) c12
    refine x_ald0 h dX7_feed_18 ?_
    refine r_X7_33 h dX7_feed_19 ?_
    refine x_ild1 h dX7_feed_22 ?_
    refine vCV1 32 h cs_X7_244 (c_X6_addFour B σ n hn (by omega) a) (⟨by decide, fun _ _ => rfl⟩ : ObjC 32 5) rfl ⟨rfl, rfl⟩ ⟨Nat.le_of_ble_eq_true rfl, Nat.le_of_ble_eq_true rfl⟩ (Nat.le_of_ble_eq_true rfl) dX7_feed_23 (fun s23 p23 => ?_)
    obtain rfl := p23
    refine x_ald0 h dX7_feed_26 ?_
    refine r_X7_33 h dX7_feed_27 ?_
    refine x_ild2 h dX7_feed_30 ?_
    refine vCV1 32 h cs_X7_244 (c_X6_addFour B _ (n + 4) rfl (by omega) b) (⟨by decide, fun _ _ => rfl⟩ : ObjC 32 5) rfl ⟨rfl, rfl⟩ ⟨Nat.le_of_ble_eq_true rfl, Nat.le_of_ble_eq_true rfl⟩ (Nat.le_of_ble_eq_true rfl) dX7_feed_31 (fun s31 p31 => ?_)
    obtain rfl := p31
    refine x_ald0 h dX7_feed_34 ?_
    refine r_X7_33 h dX7_feed_35 ?_
    refine x_ild3 h dX7_feed_38 ?_
    refine vCV1 32 h cs_X7_244 (c_X6_addFour B _ (n + 4 + 4) rfl (by omega) c) (⟨by decide, fun _ _ => rfl⟩ : ObjC 32 5) rfl ⟨rfl, rfl⟩ ⟨Nat.le_of_ble_eq_true rfl, Nat.le_of_ble_eq_true rfl⟩ (Nat.le_of_ble_eq_true rfl) dX7_feed_39 (fun s39 p39 => ?_)
    obtain rfl := p39
    refine x_ald0 h dX7_feed_42 ?_
    refine r_X7_33 h dX7_feed_43 ?_
    refine r_X7_241 h dX7_feed_46 ?_
    refine x_iret h hr ?_ dX7_feed_49
    refine ⟨_, _, rfl, rfl, ?_⟩
    rw [if_pos (by omega), fd_2, fd_2]
    rfl
  · have c12 : ¬ nI (n + 12) ≤ 96 := by rw [← nI_add n 12, ← hn]; exact c12
    have c12 := n_nle (a := n + 12) (b := 96) (by omega) (by decide) c12
    refine x_ldc h kc_X7_89 dX7_feed_15 ?_
    refine x_iret h hr ?_ dX7_feed_17
    exact ⟨_, _, rfl, rfl, by rw [if_neg (by omega)]⟩
def prF (row fl : Nat → Int32) : Nat → (Nat → Int32) × Int32
  | 0 => (fl, 0)
  | i + 1 => if row i = -1000000005 then prF row fl i else (upd (prF row fl i).1 i (jheld (row i) 9), if (prF row fl i).1 i = jheld (row i) 9 then (prF row fl i).2 else (prF row fl i).2 + 1)
def prK (σ : ST) (t : Nat) : (Nat → Int32) × Int32 := prF (σ (54 + 2 * t + 1)) (σ 6) (min 10 (ix (σ (54 + 2 * t) 1)))
def aPour (σ : ST) (x : Int32) : Int32 × ST := if isQ x = true then (if σ (54 + 2 * ix x) 0 = -1 then (-1000000011, σ) else ((prK σ (ix x)).2, up1 σ 6 (prK σ (ix x)).1)) else (-1000000001, σ)
def rdL (row mk : Nat → Int32) : Nat → Nat → Int32
  | 0, _ => -1000000005
  | n + 1, i => if ¬ row i = -1000000005 ∧ (10 ≤ i ∨ ¬ row i = mk i) then nI i else rdL row mk n (i + 1)
def aReads (σ : ST) (x : Int32) : Int32 := if isQ x = true then (if σ (54 + 2 * ix x) 0 = -1 then -1000000011 else rdL (σ (54 + 2 * ix x + 1)) (σ 8) (ix (σ (54 + 2 * ix x) 1)) 0) else -1000000001
set_option maxRecDepth 100000 in
set_option maxHeartbeats 4000000 in
theorem c_X7_pour (B : BT) (σ : ST) (hRS : ∀ r, r < 9 → RS σ r) (x : Int32) : CI B yX7_pour cX7_pour 6 (some .int) ({ frames := 3, cells := 0, slots := 0, locals := 106 }) [.ref (aB B 30), .int x] σ (fun v σ' => v = (aPour σ x).1 ∧ σ' = (aPour σ x).2) := by
  refine MX.of2 RX7 (by decide) rfl ⟨rfl, rfl⟩ (Nat.le_of_ble_eq_true rfl) (by rfl) (fun k h hr hk => ?_)
  show XC B k σ 0 [some (.ref (aB B 30)), some (.int x), none, none, none, none] []
  refine x_ald0 h dX7_pour_0 ?_
  refine x_ild1 h dX7_pour_1 ?_
  refine vCR1 30 h cs_X7_222 (c_X7_sheetOf B _ _) (⟨by decide, fun _ _ => rfl⟩ : ObjC 30 6) rfl ⟨rfl, rfl⟩ ⟨Nat.le_of_ble_eq_true rfl, Nat.le_of_ble_eq_true rfl⟩ (Nat.le_of_ble_eq_true rfl) dX7_pour_2 (fun r2 s2 p2 => ?_)
  obtain ⟨e_, ⟨t, ht, rfl, rfl⟩ | ⟨hxt, rfl⟩⟩ := p2
  · subst s2
    have et : ix (nI t) = t := ix_n (by omega)
    have qt := isQ_n ht
    refine x_ast2 h dX7_pour_5 (by rw [hk]; decide) rfl ?_
    refine x_ald2 h dX7_pour_6 ?_
    refine x_ifnonnull_r 13 h dX7_pour_7 (by decide) ?_
    refine x_ald2 h dX7_pour_13 ?_
    refine vCI0 (54 + 2 * t) h cs_X7_226 (c_X4_isMissing B (by omega) _) (obj_r (by omega)) rfl ⟨rfl, rfl⟩ ⟨Nat.le_of_ble_eq_true rfl, Nat.le_of_ble_eq_true rfl⟩ (Nat.le_of_ble_eq_true rfl) dX7_pour_14 (fun r14 s14 p14 => ?_)
    obtain ⟨rfl, e_⟩ := p14
    subst s14
    refine x_if_eq 23 h dX7_pour_17 (by decide) (fun c17 => ?_) (fun c17 => ?_)
    · have c17 := bI_0.mp c17
      obtain ⟨m, hm24, hm⟩ := hRS t (by omega)
      have e0 : aPour σ (nI t) = ((prF (σ (54 + 2 * t + 1)) (σ 6) (min 10 m)).2, up1 σ 6 (prF (σ (54 + 2 * t + 1)) (σ 6) (min 10 m)).1) := by
        unfold aPour prK
        rw [if_pos qt, et, if_neg c17, hm, ix_n (by omega)]
      refine x_iconst (v := 0) h dX7_pour_23 rfl ?_
      refine x_ist3 h dX7_pour_24 (by rw [hk]; decide) rfl ?_
      refine x_iconst (v := 0) h dX7_pour_25 rfl ?_
      refine x_ist4 h dX7_pour_26 (by rw [hk]; decide) rfl ?_
      have loop : ∀ (f i : Nat), 10 < f + i → i ≤ min 10 m → XC B k (up1 σ 6 (prF (σ (54 + 2 * t + 1)) (σ 6) i).1) 28 [some (.ref (aB B 30)), some (.int (nI t)), some (.ref (aB B (54 + 2 * t))), some (.int (prF (σ (54 + 2 * t + 1)) (σ 6) i).2), some (.int (nI i)), none] [] := by
        intro f
        induction f with
        | zero => intro i h1 h2; omega
        | succ f ih =>
          intro i h1 h2
          refine x_ild4 h dX7_pour_28 ?_
          refine x_bipush (v := 10) h dX7_pour_30 rfl ?_
          refine x_icmp_ge 98 h dX7_pour_32 (by decide) (fun c32 => ?_) (fun c32 => ?_)
          · have c32 := n_le (a := 10) (by decide) (by omega) c32
            have ei : i = min 10 m := by omega
            subst ei
            refine x_ild3 h dX7_pour_98 ?_
            refine x_iret h hr ?_ dX7_pour_99
            exact ⟨_, _, rfl, rfl, by rw [e0], by rw [e0]⟩
          · have c32 := n_nle (a := 10) (b := i) (by decide) (by omega) c32
            refine x_ild4 h dX7_pour_35 ?_
            refine x_ald2 h dX7_pour_37 ?_
            refine r_X7_288 (j := t) (by omega) h dX7_pour_38 ?_
            rw [up1_n (by omega), hm]
            refine x_icmp_ge 98 h dX7_pour_41 (by decide) (fun c41 => ?_) (fun c41 => ?_)
            · have c41 := n_le (by omega) (by omega) c41
              have ei : i = min 10 m := by omega
              subst ei
              refine x_ild3 h dX7_pour_98 ?_
              refine x_iret h hr ?_ dX7_pour_99
              exact ⟨_, _, rfl, rfl, by rw [e0], by rw [e0]⟩
            · have c41 := n_nle (by omega) (by omega) c41
              refine x_ald2 h dX7_pour_44 ?_
              refine x_ild4 h dX7_pour_45 ?_
              refine vCI1 (54 + 2 * t) h cs_X7_291 (c_X4_isNumber B (by omega) _ i (by omega)) (obj_r (by omega)) rfl ⟨rfl, rfl⟩ ⟨Nat.le_of_ble_eq_true rfl, Nat.le_of_ble_eq_true rfl⟩ (Nat.le_of_ble_eq_true rfl) dX7_pour_47 (fun r47 s47 p47 => ?_)
              obtain ⟨rfl, e_⟩ := p47
              subst s47
              rw [up1_n (by omega)]
              refine x_if_ne 56 h dX7_pour_50 (by decide) (fun c50 => ?_) (fun c50 => ?_)
              · have c50 := bI_n.mp c50
                have e2 : (prF (σ (54 + 2 * t + 1)) (σ 6) (i + 1)) = (upd (prF (σ (54 + 2 * t + 1)) (σ 6) i).1 i (jheld ((σ (54 + 2 * t + 1)) i) 9), if (prF (σ (54 + 2 * t + 1)) (σ 6) i).1 i = jheld ((σ (54 + 2 * t + 1)) i) 9 then (prF (σ (54 + 2 * t + 1)) (σ 6) i).2 else (prF (σ (54 + 2 * t + 1)) (σ 6) i).2 + 1) := if_neg c50
                refine x_ald2 h dX7_pour_56 ?_
                refine r_X7_283 (j := t) (by omega) h dX7_pour_57 ?_
                refine x_ild4 h dX7_pour_60 ?_
                refine xc_ialdN (i) (rfl) (by omega) (by decide) h (54 + 2 * t + 1) (arr_r (by omega)) dX7_pour_62 ?_
                rw [up1_n (by omega)]
                refine x_bipush (v := 9) h dX7_pour_63 rfl ?_
                refine sCI2 h cs_X7_294 (c_X7_held B _ _ _) ⟨rfl, rfl⟩ ⟨Nat.le_of_ble_eq_true rfl, Nat.le_of_ble_eq_true rfl⟩ (Nat.le_of_ble_eq_true rfl) dX7_pour_65 (fun r65 s65 p65 => ?_)
                obtain ⟨rfl, e_⟩ := p65
                subst s65
                refine x_ist5 h dX7_pour_68 (by rw [hk]; decide) rfl ?_
                refine x_ald0 h dX7_pour_70 ?_
                refine r_X7_10 h dX7_pour_71 ?_
                refine r0_X7_138 h dX7_pour_74 ?_
                refine x_ild4 h dX7_pour_77 ?_
                refine x_ild5 h dX7_pour_79 ?_
                refine sCI3 h cs_X7_134 (c_X7_changed B _ 6 10 i (⟨by decide, fun _ _ => rfl⟩ : ArrC 6 10) (by omega) (by decide) _) ⟨rfl, rfl⟩ ⟨Nat.le_of_ble_eq_true rfl, Nat.le_of_ble_eq_true rfl⟩ (Nat.le_of_ble_eq_true rfl) dX7_pour_81 (fun r81 s81 p81 => ?_)
                obtain ⟨rfl, rfl⟩ := p81
                rw [up2_u1]
                change XC B k _ _ _ [.int ((prF (σ (54 + 2 * t + 1)) (σ 6) i).1 i)]
                refine x_ild5 h dX7_pour_84 ?_
                refine x_icmp_eq 92 h dX7_pour_86 (by decide) (fun c86 => ?_) (fun c86 => ?_)
                · rw [if_pos c86] at e2
                  refine x_inc4 (y := 1) h dX7_pour_92 (by rw [hk]; decide) rfl rfl ?_
                  refine x_goto 28 h dX7_pour_95 (by decide) ?_
                  rw [nI_1 i]
                  refine x_loc (Lsb.s (Lsb.s (Lsb.s (Lsb.s (Lsb.s (Lsb.n Lsb.e)))))) ?_
                  have ih := ih (i + 1) (by omega) (by omega)
                  rw [e2] at ih
                  exact ih
                · rw [if_neg c86] at e2
                  refine x_inc3 (y := 1) h dX7_pour_89 (by rw [hk]; decide) rfl rfl ?_
                  refine x_inc4 (y := 1) h dX7_pour_92 (by rw [hk]; decide) rfl rfl ?_
                  refine x_goto 28 h dX7_pour_95 (by decide) ?_
                  rw [nI_1 i]
                  refine x_loc (Lsb.s (Lsb.s (Lsb.s (Lsb.s (Lsb.s (Lsb.n Lsb.e)))))) ?_
                  have ih := ih (i + 1) (by omega) (by omega)
                  rw [e2] at ih
                  exact ih
              · have c50 := bI_0.mp c50
                have e2 : (prF (σ (54 + 2 * t + 1)) (σ 6) (i + 1)) = (prF (σ (54 + 2 * t + 1)) (σ 6) i) := if_pos (Decidable.not_not.mp c50)
                refine x_goto 92 h dX7_pour_53 (by decide) ?_
                refine x_inc4 (y := 1) h dX7_pour_92 (by rw [hk]; decide) rfl rfl ?_
                refine x_goto 28 h dX7_pour_95 (by decide) ?_
                rw [nI_1 i]
                refine x_loc (Lsb.s (Lsb.s (Lsb.s (Lsb.s (Lsb.s (Lsb.n Lsb.e)))))) ?_
                have ih := ih (i + 1) (by omega) (by omega)
                rw [e2] at ih
                exact ih
      have loop := loop 11 0 (by omega) (by omega)
      rw [show (prF (σ (54 + 2 * t + 1)) (σ 6) 0).1 = σ 6 from rfl, up1_self] at loop
      exact loop
    · have c17 := bI_n.mp c17
      refine x_ldc h kc_X7_230 dX7_pour_20 ?_
      refine x_iret h hr ?_ dX7_pour_22
      refine ⟨_, _, rfl, rfl, ?_, ?_⟩ <;> simp_all [-Int32.not_lt, -Int32.not_le, aPour]
  · subst s2
    have qt := isQ_f hxt
    refine x_asn2 h dX7_pour_5 (by rw [hk]; decide) rfl ?_
    refine x_aln2 h dX7_pour_6 ?_
    refine x_ifnonnull_n h dX7_pour_7 ?_
    refine x_ldc h kc_X7_85 dX7_pour_10 ?_
    refine x_iret h hr ?_ dX7_pour_12
    refine ⟨_, _, rfl, rfl, ?_, ?_⟩ <;> simp_all [-Int32.not_lt, -Int32.not_le, aPour]
set_option maxRecDepth 100000 in
set_option maxHeartbeats 4000000 in
theorem c_X7_reads (B : BT) (σ : ST) (hRS : ∀ r, r < 9 → RS σ r) (x : Int32) : CI B yX7_reads cX7_reads 4 (some .int) ({ frames := 1, cells := 0, slots := 0, locals := 21 }) [.ref (aB B 30), .int x] σ (fun v σ' => v = aReads σ x ∧ σ' = σ) := by
  refine MX.of2 RX7 (by decide) rfl ⟨rfl, rfl⟩ (Nat.le_of_ble_eq_true rfl) (by rfl) (fun k h hr hk => ?_)
  show XC B k σ 0 [some (.ref (aB B 30)), some (.int x), none, none] []
  refine x_ald0 h dX7_reads_0 ?_
  refine x_ild1 h dX7_reads_1 ?_
  refine vCR1 30 h cs_X7_222 (c_X7_sheetOf B _ _) (⟨by decide, fun _ _ => rfl⟩ : ObjC 30 6) rfl ⟨rfl, rfl⟩ ⟨Nat.le_of_ble_eq_true rfl, Nat.le_of_ble_eq_true rfl⟩ (Nat.le_of_ble_eq_true rfl) dX7_reads_2 (fun r2 s2 p2 => ?_)
  obtain ⟨e_, ⟨t, ht, rfl, rfl⟩ | ⟨hxt, rfl⟩⟩ := p2
  · subst s2
    have et : ix (nI t) = t := ix_n (by omega)
    have qt := isQ_n ht
    refine x_ast2 h dX7_reads_5 (by rw [hk]; decide) rfl ?_
    refine x_ald2 h dX7_reads_6 ?_
    refine x_ifnonnull_r 13 h dX7_reads_7 (by decide) ?_
    refine x_ald2 h dX7_reads_13 ?_
    refine vCI0 (54 + 2 * t) h cs_X7_226 (c_X4_isMissing B (by omega) _) (obj_r (by omega)) rfl ⟨rfl, rfl⟩ ⟨Nat.le_of_ble_eq_true rfl, Nat.le_of_ble_eq_true rfl⟩ (Nat.le_of_ble_eq_true rfl) dX7_reads_14 (fun r14 s14 p14 => ?_)
    obtain ⟨rfl, e_⟩ := p14
    subst s14
    refine x_if_eq 23 h dX7_reads_17 (by decide) (fun c17 => ?_) (fun c17 => ?_)
    · have c17 := bI_0.mp c17
      obtain ⟨m, hm24, hm⟩ := hRS t (by omega)
      have e0 : aReads σ (nI t) = (rdL (σ (54 + 2 * t + 1)) (σ 8) m 0) := by
        unfold aReads
        rw [if_pos qt, et, if_neg c17, hm, ix_n (by omega)]
      refine x_iconst (v := 0) h dX7_reads_23 rfl ?_
      refine x_ist3 h dX7_reads_24 (by rw [hk]; decide) rfl ?_
      have loop : ∀ (f j i : Nat), j < f → j + i = m → aReads σ (nI t) = (rdL (σ (54 + 2 * t + 1)) (σ 8) j i) → XC B k σ 25 [some (.ref (aB B 30)), some (.int (nI t)), some (.ref (aB B (54 + 2 * t))), some (.int (nI i))] [] := by
        intro f
        induction f with
        | zero => intro j i h1; omega
        | succ f ih =>
          intro j i h1 h2 e1
          refine x_ild3 h dX7_reads_25 ?_
          refine x_ald2 h dX7_reads_26 ?_
          refine r_X7_288 (j := t) (by omega) h dX7_reads_27 ?_
          rw [hm]
          refine x_icmp_ge 73 h dX7_reads_30 (by decide) (fun c30 => ?_) (fun c30 => ?_)
          · have c30 := n_le (by omega) (by omega) c30
            have ej : j = 0 := by omega
            subst ej
            refine x_ldc h kc_X7_208 dX7_reads_73 ?_
            refine x_iret h hr ?_ dX7_reads_75
            exact ⟨_, _, rfl, rfl, e1.symm, rfl⟩
          · have c30 := n_nle (by omega) (by omega) c30
            obtain ⟨j, rfl⟩ : ∃ j', j = j' + 1 := ⟨j - 1, by omega⟩
            refine x_ald2 h dX7_reads_33 ?_
            refine x_ild3 h dX7_reads_34 ?_
            refine vCI1 (54 + 2 * t) h cs_X7_291 (c_X4_isNumber B (by omega) _ i (by omega)) (obj_r (by omega)) rfl ⟨rfl, rfl⟩ ⟨Nat.le_of_ble_eq_true rfl, Nat.le_of_ble_eq_true rfl⟩ (Nat.le_of_ble_eq_true rfl) dX7_reads_35 (fun r35 s35 p35 => ?_)
            obtain ⟨rfl, e_⟩ := p35
            subst s35
            refine x_if_eq 67 h dX7_reads_38 (by decide) (fun c38 => ?_) (fun c38 => ?_)
            · have c38 := bI_0.mp c38
              have e2 : (rdL (σ (54 + 2 * t + 1)) (σ 8) (j + 1) i) = (rdL (σ (54 + 2 * t + 1)) (σ 8) j (i + 1)) := if_neg (fun z => c38 z.1)
              refine x_inc3 (y := 1) h dX7_reads_67 (by rw [hk]; decide) rfl rfl ?_
              refine x_goto 25 h dX7_reads_70 (by decide) ?_
              rw [nI_1 i]
              exact ih j (i + 1) (by omega) (by omega) (e1.trans e2)
            · have c38 := bI_n.mp c38
              refine x_ild3 h dX7_reads_41 ?_
              refine x_bipush (v := 10) h dX7_reads_42 rfl ?_
              refine x_icmp_ge 65 h dX7_reads_44 (by decide) (fun c44 => ?_) (fun c44 => ?_)
              · have c44 := n_le (a := 10) (by decide) (by omega) c44
                have e2 : (rdL (σ (54 + 2 * t + 1)) (σ 8) (j + 1) i) = nI i := if_pos ⟨c38, Or.inl c44⟩
                refine x_ild3 h dX7_reads_65 ?_
                refine x_iret h hr ?_ dX7_reads_66
                exact ⟨_, _, rfl, rfl, (e1.trans e2).symm, rfl⟩
              · have c44 := n_nle (a := 10) (by decide) (by omega) c44
                refine x_ald2 h dX7_reads_47 ?_
                refine r_X7_283 (j := t) (by omega) h dX7_reads_48 ?_
                refine x_ild3 h dX7_reads_51 ?_
                refine xc_ialdN (i) (rfl) (by omega) (by decide) h (54 + 2 * t + 1) (arr_r (by omega)) dX7_reads_52 ?_
                refine x_ald0 h dX7_reads_53 ?_
                refine r_X7_10 h dX7_reads_54 ?_
                refine r0_X7_144 h dX7_reads_57 ?_
                refine x_ild3 h dX7_reads_60 ?_
                refine xc_ialdN (i) (rfl) (by omega) (by decide) h 8 (⟨by decide, fun _ _ => rfl⟩ : ArrC 8 10) dX7_reads_61 ?_
                refine x_icmp_eq 67 h dX7_reads_62 (by decide) (fun c62 => ?_) (fun c62 => ?_)
                · have e2 : (rdL (σ (54 + 2 * t + 1)) (σ 8) (j + 1) i) = (rdL (σ (54 + 2 * t + 1)) (σ 8) j (i + 1)) := if_neg (fun z => z.2.elim (fun y => by omega) (fun y => y c62))
                  refine x_inc3 (y := 1) h dX7_reads_67 (by rw [hk]; decide) rfl rfl ?_
                  refine x_goto 25 h dX7_reads_70 (by decide) ?_
                  rw [nI_1 i]
                  exact ih j (i + 1) (by omega) (by omega) (e1.trans e2)
                · have e2 : (rdL (σ (54 + 2 * t + 1)) (σ 8) (j + 1) i) = nI i := if_pos ⟨c38, Or.inr c62⟩
                  refine x_ild3 h dX7_reads_65 ?_
                  refine x_iret h hr ?_ dX7_reads_66
                  exact ⟨_, _, rfl, rfl, (e1.trans e2).symm, rfl⟩
      exact loop (m + 1) m 0 (by omega) (by omega) e0
    · have c17 := bI_n.mp c17
      refine x_ldc h kc_X7_230 dX7_reads_20 ?_
      refine x_iret h hr ?_ dX7_reads_22
      exact ⟨_, _, rfl, rfl, by simp_all [-Int32.not_lt, -Int32.not_le, aReads], rfl⟩
  · subst s2
    have qt := isQ_f hxt
    refine x_asn2 h dX7_reads_5 (by rw [hk]; decide) rfl ?_
    refine x_aln2 h dX7_reads_6 ?_
    refine x_ifnonnull_n h dX7_reads_7 ?_
    refine x_ldc h kc_X7_85 dX7_reads_10 ?_
    refine x_iret h hr ?_ dX7_reads_12
    exact ⟨_, _, rfl, rfl, by simp_all [-Int32.not_lt, -Int32.not_le, aReads], rfl⟩
set_option maxRecDepth 100000 in
set_option maxHeartbeats 4000000 in
theorem c_X7_copy (B : BT) (σ : ST) (hRS : ∀ r, r < 9 → RS σ r) (x p y q n : Int32) : CI B yX7_copy cX7_copy 8 (some .int) ({ frames := 2, cells := 0, slots := 0, locals := 105 }) [.ref (aB B 30), .int x, .int p, .int y, .int q, .int n] σ (fun v σ' => v = (aCopy σ x p y q n).1 ∧ σ' = (aCopy σ x p y q n).2) := by
  refine MX.of2 RX7 (by decide) rfl ⟨rfl, rfl⟩ (Nat.le_of_ble_eq_true rfl) (by rfl) (fun k h hr hk => ?_)
  show XC B k σ 0 [some (.ref (aB B 30)), some (.int x), some (.int p), some (.int y), some (.int q), some (.int n), none, none] []
  refine x_ald0 h dX7_copy_0 ?_
  refine x_ild1 h dX7_copy_1 ?_
  refine vCR1 30 h cs_X7_222 (c_X7_sheetOf B _ _) (⟨by decide, fun _ _ => rfl⟩ : ObjC 30 6) rfl ⟨rfl, rfl⟩ ⟨Nat.le_of_ble_eq_true rfl, Nat.le_of_ble_eq_true rfl⟩ (Nat.le_of_ble_eq_true rfl) dX7_copy_2 (fun r2 s2 p2 => ?_)
  obtain ⟨e_, ⟨s, hs, rfl, rfl⟩ | ⟨hxs, rfl⟩⟩ := p2
  · subst s2
    have es : ix (nI s) = s := ix_n (by omega)
    have qs := isQ_n hs
    refine x_ast6 h dX7_copy_5 (by rw [hk]; decide) rfl ?_
    refine x_ald0 h dX7_copy_7 ?_
    refine x_ild3 h dX7_copy_8 ?_
    refine vCR1 30 h cs_X7_222 (c_X7_sheetOf B _ _) (⟨by decide, fun _ _ => rfl⟩ : ObjC 30 6) rfl ⟨rfl, rfl⟩ ⟨Nat.le_of_ble_eq_true rfl, Nat.le_of_ble_eq_true rfl⟩ (Nat.le_of_ble_eq_true rfl) dX7_copy_9 (fun r9 s9 p9 => ?_)
    obtain ⟨e_, ⟨t, ht, rfl, rfl⟩ | ⟨hxt, rfl⟩⟩ := p9
    · subst s9
      have et : ix (nI t) = t := ix_n (by omega)
      have qt := isQ_n ht
      refine x_ast7 h dX7_copy_12 (by rw [hk]; decide) rfl ?_
      refine x_ald6 h dX7_copy_14 ?_
      refine x_ifnull_r h dX7_copy_16 ?_
      refine x_ald7 h dX7_copy_19 ?_
      refine x_ifnonnull_r 27 h dX7_copy_21 (by decide) ?_
      refine x_ald6 h dX7_copy_27 ?_
      refine vCI0 (54 + 2 * s) h cs_X7_226 (c_X4_isMissing B (by omega) _) (obj_r (by omega)) rfl ⟨rfl, rfl⟩ ⟨Nat.le_of_ble_eq_true rfl, Nat.le_of_ble_eq_true rfl⟩ (Nat.le_of_ble_eq_true rfl) dX7_copy_29 (fun r29 s29 p29 => ?_)
      obtain ⟨rfl, e_⟩ := p29
      subst s29
      refine x_if_ne 43 h dX7_copy_32 (by decide) (fun c32 => ?_) (fun c32 => ?_)
      · have c32 := bI_n.mp c32
        refine x_ldc h kc_X7_230 dX7_copy_43 ?_
        refine x_iret h hr ?_ dX7_copy_45
        refine ⟨_, _, rfl, rfl, ?_, ?_⟩ <;> simp_all [-Int32.not_lt, -Int32.not_le, aCopy]
      · have c32 := bI_0.mp c32
        refine x_ald7 h dX7_copy_35 ?_
        refine vCI0 (54 + 2 * t) h cs_X7_226 (c_X4_isMissing B (by omega) _) (obj_r (by omega)) rfl ⟨rfl, rfl⟩ ⟨Nat.le_of_ble_eq_true rfl, Nat.le_of_ble_eq_true rfl⟩ (Nat.le_of_ble_eq_true rfl) dX7_copy_37 (fun r37 s37 p37 => ?_)
        obtain ⟨rfl, e_⟩ := p37
        subst s37
        refine x_if_eq 46 h dX7_copy_40 (by decide) (fun c40 => ?_) (fun c40 => ?_)
        · have c40 := bI_0.mp c40
          refine x_ald6 h dX7_copy_46 ?_
          refine r_X7_280 (j := s) (by omega) h dX7_copy_48 ?_
          refine x_ald7 h dX7_copy_51 ?_
          refine r_X7_280 (j := t) (by omega) h dX7_copy_53 ?_
          refine x_icmp_eq 62 h dX7_copy_56 (by decide) (fun c56 => ?_) (fun c56 => ?_)
          · refine x_ald6 h dX7_copy_62 ?_
            refine x_ild2 h dX7_copy_64 ?_
            refine x_ild5 h dX7_copy_65 ?_
            refine vCI2 (54 + 2 * s) h cs_X7_276 (c_X4_hasPlaces B (by omega) _ _ _) (obj_r (by omega)) rfl ⟨rfl, rfl⟩ ⟨Nat.le_of_ble_eq_true rfl, Nat.le_of_ble_eq_true rfl⟩ (Nat.le_of_ble_eq_true rfl) dX7_copy_67 (fun r67 s67 p67 => ?_)
            obtain ⟨rfl, e_⟩ := p67
            subst s67
            rw [bH]
            refine x_if_eq 85 h dX7_copy_70 (by decide) (fun c70 => ?_) (fun c70 => ?_)
            · have c70 := bI_0.mp c70
              refine x_ldcw h kc_X7_279 dX7_copy_85 ?_
              refine x_iret h hr ?_ dX7_copy_88
              refine ⟨_, _, rfl, rfl, ?_, ?_⟩ <;> simp_all [-Int32.not_lt, -Int32.not_le, aCopy]
            · have c70 := bI_n.mp c70
              refine x_ald7 h dX7_copy_73 ?_
              refine x_ild4 h dX7_copy_75 ?_
              refine x_ild5 h dX7_copy_77 ?_
              refine vCI2 (54 + 2 * t) h cs_X7_276 (c_X4_hasPlaces B (by omega) _ _ _) (obj_r (by omega)) rfl ⟨rfl, rfl⟩ ⟨Nat.le_of_ble_eq_true rfl, Nat.le_of_ble_eq_true rfl⟩ (Nat.le_of_ble_eq_true rfl) dX7_copy_79 (fun r79 s79 p79 => ?_)
              obtain ⟨rfl, e_⟩ := p79
              subst s79
              rw [bH]
              refine x_if_ne 89 h dX7_copy_82 (by decide) (fun c82 => ?_) (fun c82 => ?_)
              · have c82 := bI_n.mp c82
                have c82' := c82
                have c70' := c70
                obtain ⟨m, i, j, hm24, hm, rfl, rfl, him⟩ := hasP_of c70 (hRS s (by omega))
                obtain ⟨m2, i2, j2, hm224, hm2, rfl, ej, him2⟩ := hasP_of c82 (hRS t (by omega))
                have ej : j = j2 := by
                  have h1 := congrArg ix ej
                  rw [ix_n (by omega), ix_n (by omega)] at h1
                  exact h1
                subst ej
                have ei : ix (nI i) = i := ix_n (by omega)
                have ei2 : ix (nI i2) = i2 := ix_n (by omega)
                have ejj : ix (nI j) = j := ix_n (by omega)
                refine x_ald6 h dX7_copy_89 ?_
                refine r_X7_283 (j := s) (by omega) h dX7_copy_91 ?_
                refine x_ild2 h dX7_copy_94 ?_
                refine x_ald7 h dX7_copy_95 ?_
                refine r_X7_283 (j := t) (by omega) h dX7_copy_97 ?_
                refine x_ild4 h dX7_copy_100 ?_
                refine x_ild5 h dX7_copy_102 ?_
                refine xc_copy h (54 + 2 * s + 1) (54 + 2 * t + 1) (arr_r (by omega)) (arr_r (by omega)) ul_X7_297 ⟨Nat.le_of_ble_eq_true rfl, Nat.le_of_ble_eq_true (by decide +kernel)⟩ (nI_n0 i (by omega)) (nI_n0 i2 (by omega)) (nI_n0 j (by omega)) (by rw [nI_clamp (by omega), nI_clamp (by omega)]; omega) (by rw [nI_clamp (by omega), nI_clamp (by omega)]; omega) dX7_copy_104 ?_
                refine x_ild5 h dX7_copy_107 ?_
                refine x_iret h hr ?_ dX7_copy_109
                have e9 : aCopy σ (nI s) (nI i) (nI t) (nI i2) (nI j) = (nI j, up1 σ (54 + 2 * t + 1) (va_cpy (σ (54 + 2 * s + 1)) (σ (54 + 2 * t + 1)) (ix (nI i)) (ix (nI i2)) (ix (nI j)))) := by
                  unfold aCopy
                  rw [if_pos ⟨qs, qt⟩, es, et, if_neg (fun z => z.elim c32 c40), if_pos c56, if_pos ⟨c70', c82'⟩]
                exact ⟨_, _, rfl, rfl, by rw [e9], by rw [e9]; rfl⟩
              · have c82 := bI_0.mp c82
                refine x_ldcw h kc_X7_279 dX7_copy_85 ?_
                refine x_iret h hr ?_ dX7_copy_88
                refine ⟨_, _, rfl, rfl, ?_, ?_⟩ <;> simp_all [-Int32.not_lt, -Int32.not_le, aCopy]
          · refine x_ldc h kc_X7_133 dX7_copy_59 ?_
            refine x_iret h hr ?_ dX7_copy_61
            refine ⟨_, _, rfl, rfl, ?_, ?_⟩ <;> simp_all [-Int32.not_lt, -Int32.not_le, aCopy]
        · have c40 := bI_n.mp c40
          refine x_ldc h kc_X7_230 dX7_copy_43 ?_
          refine x_iret h hr ?_ dX7_copy_45
          refine ⟨_, _, rfl, rfl, ?_, ?_⟩ <;> simp_all [-Int32.not_lt, -Int32.not_le, aCopy]
    · subst s9
      have qt := isQ_f hxt
      refine x_asn7 h dX7_copy_12 (by rw [hk]; decide) rfl ?_
      refine x_ald6 h dX7_copy_14 ?_
      refine x_ifnull_r h dX7_copy_16 ?_
      refine x_aln7 h dX7_copy_19 ?_
      refine x_ifnonnull_n h dX7_copy_21 ?_
      refine x_ldc h kc_X7_85 dX7_copy_24 ?_
      refine x_iret h hr ?_ dX7_copy_26
      refine ⟨_, _, rfl, rfl, ?_, ?_⟩ <;> simp_all [-Int32.not_lt, -Int32.not_le, aCopy]
  · subst s2
    have qs := isQ_f hxs
    refine x_asn6 h dX7_copy_5 (by rw [hk]; decide) rfl ?_
    refine x_ald0 h dX7_copy_7 ?_
    refine x_ild3 h dX7_copy_8 ?_
    refine vCR1 30 h cs_X7_222 (c_X7_sheetOf B _ _) (⟨by decide, fun _ _ => rfl⟩ : ObjC 30 6) rfl ⟨rfl, rfl⟩ ⟨Nat.le_of_ble_eq_true rfl, Nat.le_of_ble_eq_true rfl⟩ (Nat.le_of_ble_eq_true rfl) dX7_copy_9 (fun r9 s9 p9 => ?_)
    obtain ⟨e_, ⟨t, ht, rfl, rfl⟩ | ⟨hxt, rfl⟩⟩ := p9
    · subst s9
      have et : ix (nI t) = t := ix_n (by omega)
      have qt := isQ_n ht
      refine x_ast7 h dX7_copy_12 (by rw [hk]; decide) rfl ?_
      refine x_aln6 h dX7_copy_14 ?_
      refine x_ifnull_n 24 h dX7_copy_16 (by decide) ?_
      refine x_ldc h kc_X7_85 dX7_copy_24 ?_
      refine x_iret h hr ?_ dX7_copy_26
      refine ⟨_, _, rfl, rfl, ?_, ?_⟩ <;> simp_all [-Int32.not_lt, -Int32.not_le, aCopy]
    · subst s9
      have qt := isQ_f hxt
      refine x_asn7 h dX7_copy_12 (by rw [hk]; decide) rfl ?_
      refine x_aln6 h dX7_copy_14 ?_
      refine x_ifnull_n 24 h dX7_copy_16 (by decide) ?_
      refine x_ldc h kc_X7_85 dX7_copy_24 ?_
      refine x_iret h hr ?_ dX7_copy_26
      refine ⟨_, _, rfl, rfl, ?_, ?_⟩ <;> simp_all [-Int32.not_lt, -Int32.not_le, aCopy]
set_option maxRecDepth 100000 in
set_option maxHeartbeats 4000000 in
theorem c_X7_lay (B : BT) (σ : ST) (hi : HI (hs σ 0)) (x th y : Int32) : CI B yX7_lay cX7_lay 7 (some .int) ({ frames := 3, cells := 0, slots := 0, locals := 126 }) [.ref (aB B 30), .int x, .int th, .int y] σ (fun v σ' => v = (aLay σ x th y).1 ∧ σ' = (aLay σ x th y).2) := by
  refine MX.of2 RX7 (by decide) rfl ⟨rfl, rfl⟩ (Nat.le_of_ble_eq_true rfl) (by rfl) (fun k h hr hk => ?_)
  show XC B k σ 0 [some (.ref (aB B 30)), some (.int x), some (.int th), some (.int y), none, none, none] []
  refine x_ald0 h dX7_lay_0 ?_
  refine x_ild1 h dX7_lay_1 ?_
  refine vCR1 30 h cs_X7_303 (c_X7_slotOf B _ _) (⟨by decide, fun _ _ => rfl⟩ : ObjC 30 6) rfl ⟨rfl, rfl⟩ ⟨Nat.le_of_ble_eq_true rfl, Nat.le_of_ble_eq_true rfl⟩ (Nat.le_of_ble_eq_true rfl) dX7_lay_2 (fun r2 s2 p2 => ?_)
  obtain ⟨e_, ⟨t, ht, rfl, rfl⟩ | ⟨hxt, rfl⟩⟩ := p2
  · subst s2
    have et : ix (nI t) = t := ix_n (by omega)
    have qt := isL_n ht
    refine x_ast4 h dX7_lay_5 (by rw [hk]; decide) rfl ?_
    refine x_ald4 h dX7_lay_7 ?_
    refine x_ifnonnull_r 15 h dX7_lay_9 (by decide) ?_
    refine x_ald4 h dX7_lay_15 ?_
    refine r_X7_307 (j := t) ht h dX7_lay_17 ?_
    refine x_ist5 h dX7_lay_20 (by rw [hk]; decide) rfl ?_
    refine x_ild2 h dX7_lay_22 ?_
    refine x_topi (fun y23 ey23 => ?_)
    by_cases q23_0 : y23 = 0
    · rw [q23_0] at ey23 ⊢
      refine x_tin 52 h dX7_lay_23 (by decide) (by decide) (by rfl) (by decide) ?_
      refine x_goto 148 h dX7_lay_52 (by decide) ?_
      refine x_ald4 h dX7_lay_148 ?_
      refine x_ild2 h dX7_lay_150 ?_
      refine w_X7_307 (j := t) ht h dX7_lay_151 ?_
      refine x_ild5 h dX7_lay_154 ?_
      refine x_iret h hr ?_ dX7_lay_156
      subst ey23
      refine ⟨_, _, rfl, rfl, ?_, ?_⟩ <;> simp_all [-Int32.not_lt, -Int32.not_le, aLay, lyD, lyR]
    · skip
      by_cases q23_1 : y23 = 1
      · rw [q23_1] at ey23 ⊢
        refine x_tin 55 h dX7_lay_23 (by decide) (by decide) (by rfl) (by decide) ?_
        refine x_ald0 h dX7_lay_55 ?_
        refine x_ild3 h dX7_lay_56 ?_
        refine vCI1 30 h cs_X7_94 (c_X7_isDancer B _ _) (⟨by decide, fun _ _ => rfl⟩ : ObjC 30 6) rfl ⟨rfl, rfl⟩ ⟨Nat.le_of_ble_eq_true rfl, Nat.le_of_ble_eq_true rfl⟩ (Nat.le_of_ble_eq_true rfl) dX7_lay_57 (fun r57 s57 p57 => ?_)
        obtain ⟨rfl, e_⟩ := p57
        subst s57
        rw [bDs]
        refine x_if_ne 66 h dX7_lay_60 (by decide) (fun c60 => ?_) (fun c60 => ?_)
        · have c60 := bI_n.mp c60
          obtain ⟨d, hd, rfl⟩ := isD_of c60 hi
          have hd12 := hi.n.1
          have ed : ix (nI d) = d := ix_n (by omega)
          refine x_ald4 h dX7_lay_66 ?_
          refine x_ald0 h dX7_lay_68 ?_
          refine r_X7_10 h dX7_lay_69 ?_
          refine r0_X7_97 h dX7_lay_72 ?_
          refine x_ild3 h dX7_lay_75 ?_
          refine xc_ialdN (d) (rfl) (by omega) (by decide) h 1 (⟨by decide, fun _ _ => rfl⟩ : ArrC 1 12) dX7_lay_76 ?_
          refine w_X7_310 (j := t) ht h dX7_lay_77 ?_
          refine x_ald4 h dX7_lay_80 ?_
          refine x_ald0 h dX7_lay_82 ?_
          refine r_X7_10 h dX7_lay_83 ?_
          refine r0_X7_103 h dX7_lay_86 ?_
          refine x_ild3 h dX7_lay_89 ?_
          refine xc_ialdN (d) (rfl) (by omega) (by decide) h 3 (⟨by decide, fun _ _ => rfl⟩ : ArrC 3 12) dX7_lay_90 ?_
          rw [up2_n (by omega)]
          refine w_X7_312 (j := t) ht h dX7_lay_91 ?_
          refine x_goto 148 h dX7_lay_94 (by decide) ?_
          refine x_ald4 h dX7_lay_148 ?_
          refine x_ild2 h dX7_lay_150 ?_
          refine w_X7_307 (j := t) ht h dX7_lay_151 ?_
          refine x_ild5 h dX7_lay_154 ?_
          refine x_iret h hr ?_ dX7_lay_156
          subst ey23
          refine ⟨_, _, rfl, rfl, ?_, ?_⟩ <;> simp_all [-Int32.not_lt, -Int32.not_le, aLay, lyD, lyR]
        · have c60 := bI_0.mp c60
          refine x_ldc h kc_X7_85 dX7_lay_63 ?_
          refine x_iret h hr ?_ dX7_lay_65
          subst ey23
          refine ⟨_, _, rfl, rfl, ?_, ?_⟩ <;> simp_all [-Int32.not_lt, -Int32.not_le, aLay, lyD, lyR]
      · skip
        by_cases q23_2 : y23 = 2
        · rw [q23_2] at ey23 ⊢
          refine x_tin 97 h dX7_lay_23 (by decide) (by decide) (by rfl) (by decide) ?_
          refine x_ald0 h dX7_lay_97 ?_
          refine x_ild3 h dX7_lay_98 ?_
          refine vCR1 30 h cs_X7_222 (c_X7_sheetOf B _ _) (⟨by decide, fun _ _ => rfl⟩ : ObjC 30 6) rfl ⟨rfl, rfl⟩ ⟨Nat.le_of_ble_eq_true rfl, Nat.le_of_ble_eq_true rfl⟩ (Nat.le_of_ble_eq_true rfl) dX7_lay_99 (fun r99 s99 p99 => ?_)
          obtain ⟨e_, ⟨u, hu, rfl, rfl⟩ | ⟨hxu, rfl⟩⟩ := p99
          · subst s99
            have eu : ix (nI u) = u := ix_n (by omega)
            have qu := isQ_n hu
            refine x_ast6 h dX7_lay_102 (by rw [hk]; decide) rfl ?_
            refine x_ald6 h dX7_lay_104 ?_
            refine x_ifnonnull_r 112 h dX7_lay_106 (by decide) ?_
            refine x_ald6 h dX7_lay_112 ?_
            refine vCI0 (54 + 2 * u) h cs_X7_226 (c_X4_isMissing B (by omega) _) (obj_r (by omega)) rfl ⟨rfl, rfl⟩ ⟨Nat.le_of_ble_eq_true rfl, Nat.le_of_ble_eq_true rfl⟩ (Nat.le_of_ble_eq_true rfl) dX7_lay_114 (fun r114 s114 p114 => ?_)
            obtain ⟨rfl, e_⟩ := p114
            subst s114
            refine x_if_eq 123 h dX7_lay_117 (by decide) (fun c117 => ?_) (fun c117 => ?_)
            · have c117 := bI_0.mp c117
              refine x_ald4 h dX7_lay_123 ?_
              refine r_X7_314 (j := t) ht h dX7_lay_125 ?_
              refine x_ald6 h dX7_lay_128 ?_
              refine vCV1 (54 + 2 * (4 + t)) h cs_X7_318 (c_X4_become B (r := 4 + t) (s := u) (by omega) (by omega) (by omega) _) (obj_r (by have := ht; omega)) rfl ⟨rfl, rfl⟩ ⟨Nat.le_of_ble_eq_true rfl, Nat.le_of_ble_eq_true rfl⟩ (Nat.le_of_ble_eq_true rfl) dX7_lay_130 (fun s130 p130 => ?_)
              obtain rfl := p130
              refine x_goto 148 h dX7_lay_133 (by decide) ?_
              refine x_ald4 h dX7_lay_148 ?_
              refine x_ild2 h dX7_lay_150 ?_
              refine w_X7_307 (j := t) ht h dX7_lay_151 ?_
              refine x_ild5 h dX7_lay_154 ?_
              refine x_iret h hr ?_ dX7_lay_156
              subst ey23
              refine ⟨_, _, rfl, rfl, ?_, ?_⟩ <;> simp_all [-Int32.not_lt, -Int32.not_le, aLay, lyD, lyR]
            · have c117 := bI_n.mp c117
              refine x_ldc h kc_X7_230 dX7_lay_120 ?_
              refine x_iret h hr ?_ dX7_lay_122
              subst ey23
              refine ⟨_, _, rfl, rfl, ?_, ?_⟩ <;> simp_all [-Int32.not_lt, -Int32.not_le, aLay, lyD, lyR]
          · subst s99
            have qu := isQ_f hxu
            refine x_asn6 h dX7_lay_102 (by rw [hk]; decide) rfl ?_
            refine x_aln6 h dX7_lay_104 ?_
            refine x_ifnonnull_n h dX7_lay_106 ?_
            refine x_ldc h kc_X7_85 dX7_lay_109 ?_
            refine x_iret h hr ?_ dX7_lay_111
            subst ey23
            refine ⟨_, _, rfl, rfl, ?_, ?_⟩ <;> simp_all [-Int32.not_lt, -Int32.not_le, aLay, lyD, lyR]
        · skip
          by_cases q23_3 : y23 = 3
          · rw [q23_3] at ey23 ⊢
            refine x_tin 136 h dX7_lay_23 (by decide) (by decide) (by rfl) (by decide) ?_
            refine x_ald4 h dX7_lay_136 ?_
            refine x_ild3 h dX7_lay_138 ?_
            refine w_X7_320 (j := t) ht h dX7_lay_139 ?_
            refine x_goto 148 h dX7_lay_142 (by decide) ?_
            refine x_ald4 h dX7_lay_148 ?_
            refine x_ild2 h dX7_lay_150 ?_
            refine w_X7_307 (j := t) ht h dX7_lay_151 ?_
            refine x_ild5 h dX7_lay_154 ?_
            refine x_iret h hr ?_ dX7_lay_156
            subst ey23
            refine ⟨_, _, rfl, rfl, ?_, ?_⟩ <;> simp_all [-Int32.not_lt, -Int32.not_le, aLay, lyD, lyR]
          · skip
            refine x_tout 145 h dX7_lay_23 (by have tq23_0 := lv_neT q23_0 (a := 0) (by decide); have tq23_1 := lv_neT q23_1 (a := 1) (by decide); have tq23_2 := lv_neT q23_2 (a := 2) (by decide); have tq23_3 := lv_neT q23_3 (a := 3) (by decide); omega) (by decide) ?_
            refine x_ldc h kc_X7_85 dX7_lay_145 ?_
            refine x_iret h hr ?_ dX7_lay_147
            subst ey23
            refine ⟨_, _, rfl, rfl, ?_, ?_⟩ <;> simp_all [-Int32.not_lt, -Int32.not_le, aLay, lyD, lyR]
  · subst s2
    have qt := isL_f hxt
    refine x_asn4 h dX7_lay_5 (by rw [hk]; decide) rfl ?_
    refine x_aln4 h dX7_lay_7 ?_
    refine x_ifnonnull_n h dX7_lay_9 ?_
    refine x_ldc h kc_X7_85 dX7_lay_12 ?_
    refine x_iret h hr ?_ dX7_lay_14
    refine ⟨_, _, rfl, rfl, ?_, ?_⟩ <;> simp_all [-Int32.not_lt, -Int32.not_le, aLay, lyD, lyR]
/-- the image is thought on, the rows are told -/
def US (σ : ST) (stk : Nat → Int32) (th : HT) : ST := sH (up1 (up2 σ 30 11 0) 39 stk) 2 th
theorem U_CT {σ : ST} {stk : Nat → Int32} {ct : Int32} (h : CT σ ct) : CT (up1 (up2 σ 30 11 0) 39 stk) ct := fun q => by
  obtain ⟨t, h1, h2, n, h3, h4⟩ := h q
  refine ⟨t, h1, h2, n, ?_, ?_⟩
  · rw [up1_n (by omega), up2_n (by omega)]
    exact h3
  · rw [up1_n (by omega), up2_n (by omega)]
    exact h4
theorem U_gC {σ : ST} {stk : Nat → Int32} {ct : Int32} (h : CT σ ct) : gC (up1 (up2 σ 30 11 0) 39 stk) ct = gC σ ct := by
  funext a b e
  unfold gC
  by_cases q : 0 ≤ ct
  · obtain ⟨t, h1, h2⟩ := h q
    have ht : t < 14 := h2.1
    rw [if_pos q, if_pos q, h1, ix_n (by omega)]
    unfold TxV
    rw [up1_n (by omega), up1_n (by omega), up2_n (by omega), up2_n (by omega)]
  · rw [if_neg q, if_neg q]
theorem U_0 {σ : ST} : sH (up2 σ 30 11 0) 2 (hs (up2 σ 30 11 0) 1) = US σ (σ 39) (hs σ 1) := by
  unfold US
  rw [show up1 (up2 σ 30 11 0) 39 (σ 39) = up2 σ 30 11 0 from up1_self (σ := up2 σ 30 11 0) (q := 39)]
  exact sH_ext (fun f hf => up2_n (by omega))
theorem U_J {σ : ST} {stk : Nat → Int32} {th : HT} : Jk (up2 σ 30 11 0) (US σ stk th) := fun q hq => by
  unfold US sH
  rw [if_neg (by omega), up1_n (by omega)]
theorem u_passHour (B : BT) (σ : ST) (stk : Nat → Int32) (th : HT) (hi : HI th) (h9 : th 9 = σ 19) (hT : CT σ (σ 19 0)) : CI B yX0_passHour cX0_passHour 4 (some .int) ({ frames := 5, cells := 0, slots := 0, locals := 155 }) [.ref (aB B (10 * 2)), .ref (aB B 78)] (US σ stk th) (fun r σ' => ∃ stk', σ' = US σ stk' (sHour (gC σ (σ 19 0)) th)) :=
  (c_X0_passHour B (j := 2) (by decide) (up1 (up2 σ 30 11 0) 39 stk) th hi (by rw [h9]; exact U_CT hT)).mono (fun r σ' e => by
    obtain ⟨-, s, e⟩ := e
    rw [h9, U_gC hT, up1_up1] at e
    exact ⟨s, e⟩)
def ckL (g : WT) (ih : HT) (wt : Nat → Int32) (w : Nat) : Nat → Nat → Int32
  | 0, i => if 2 * i < w then nI (2 * i + 1) else 0
  | m + 1, i => if w ≤ 2 * i ∨ ¬ wt (2 * i) = sSum (sHours g ih (i + 1)) 3 then nI (2 * i + 1) else if w ≤ 2 * i + 1 ∨ ¬ wt (2 * i + 1) = sHours g ih (i + 1) 0 10 then nI (2 * i + 2) else ckL g ih wt w m (i + 1)
def aCheck (σ : ST) (n : Int32) : Int32 := if ¬ n < 1 ∧ n ≤ 30 then (if σ 30 2 = 0 then -1000000002 else ckL (gC σ (σ 19 0)) (hs σ 1) (σ 77) (ix (σ 30 11)) (min (ix n) (9999 - ix (σ 10 12))) 0) else -1000000001
theorem one_nI {n : Nat} : (1 : Int32) + nI n = nI (n + 1) := by rw [Int32.add_comm]; exact nI_1 n
set_option maxRecDepth 100000 in
set_option maxHeartbeats 4000000 in
theorem c_X7_check (B : BT) (σ : ST) (hi : σ 30 2 ≠ 0 → HI (hs σ 1)) (hT : σ 30 2 ≠ 0 → CT σ (σ 19 0)) (H : Nat) (hH : σ 30 2 ≠ 0 → σ 10 12 = nI H) (hH9 : H ≤ 9999) (w : Nat) (hw : σ 30 11 = nI w) (hw60 : w ≤ 60) (n : Int32) : CI B yX7_check cX7_check 6 (some .int) ({ frames := 6, cells := 0, slots := 0, locals := 178 }) [.ref (aB B 30), .int n] σ (fun v σ' => v = aCheck σ n ∧ Jk (up2 σ 30 11 0) σ') := by
  refine MX.of2 RX7 (by decide) rfl ⟨rfl, rfl⟩ (Nat.le_of_ble_eq_true rfl) (by rfl) (fun k h hr hk => ?_)
  show XC B k σ 0 [some (.ref (aB B 30)), some (.int n), none, none, none, none] []
  refine x_ald0 h dX7_check_0 ?_
  refine r_X7_66 h dX7_check_1 ?_
  refine x_ist2 h dX7_check_4 (by rw [hk]; decide) rfl ?_
  refine x_ald0 h dX7_check_5 ?_
  refine x_iconst (v := 0) h dX7_check_6 rfl ?_
  refine w_X7_66 h dX7_check_7 ?_
  refine x_ild1 h dX7_check_10 ?_
  refine x_iconst (v := 1) h dX7_check_11 rfl ?_
  refine x_icmp_lt 21 h dX7_check_12 (by decide) (fun c12 => ?_) (fun c12 => ?_)
  · skip
    refine x_ldc h kc_X7_85 dX7_check_21 ?_
    refine x_iret h hr ?_ dX7_check_23
    exact ⟨_, _, rfl, rfl, by unfold aCheck; rw [if_neg (by first | exact fun z => z.1 c12 | exact fun z => c18 z.2)], Jk.rf⟩
  · refine x_ild1 h dX7_check_15 ?_
    refine x_bipush (v := 30) h dX7_check_16 rfl ?_
    refine x_icmp_le 24 h dX7_check_18 (by decide) (fun c18 => ?_) (fun c18 => ?_)
    · obtain ⟨n', hn, rfl⟩ := nI_of (x := n) (fun z => c12 (Int32.lt_trans z (by decide)))
      have c18n := n_le (b := 30) hn (by decide) c18
      have et : ∃ T, T = min n' (9999 - H) := ⟨_, rfl⟩
      obtain ⟨T, hT'⟩ := et
      refine x_ald0 h dX7_check_24 ?_
      refine r_X7_19 h dX7_check_25 ?_
      refine x_if_ne 35 h dX7_check_28 (by decide) (fun c28 => ?_) (fun c28 => ?_)
      · have c28 : ¬ σ 30 2 = 0 := c28
        have hi := hi c28
        have hT := hT c28
        have hH := hH c28
        refine x_ild1 h dX7_check_35 ?_
        refine x_sipush (v := 9999) h dX7_check_36 rfl ?_
        refine x_ald0 h dX7_check_39 ?_
        refine r_X7_16 h dX7_check_40 ?_
        refine r1_X7_171 h dX7_check_43 ?_
        change XC B k _ _ _ (.int (σ 10 12) :: _)
        rw [hH]
        refine x_isub h dX7_check_46 ?_
        refine x_min h ul_X7_159 ⟨Nat.le_of_ble_eq_true rfl, Nat.le_of_ble_eq_true rfl⟩ dX7_check_47 ?_
        rw [show (9999 : Int32) = nI 9999 from rfl, sub_nI hH9, min_nI (by omega) (by omega), ← hT']
        have e0 : aCheck σ (nI n') = (ckL (gC σ (σ 19 0)) (hs σ 1) (σ 77) w T 0) := by
          unfold aCheck
          rw [if_pos ⟨c12, c18⟩, if_neg c28, hw, ix_n (by omega), ix_n hn, hH, ix_n (by omega), hT']
        refine x_ist3 h dX7_check_50 (by rw [hk]; decide) rfl ?_
        refine x_iconst (v := 0) h dX7_check_51 rfl ?_
        refine x_ist4 h dX7_check_52 (by rw [hk]; decide) rfl ?_
        refine x_ald0 h dX7_check_54 ?_
        refine r_X7_23 h dX7_check_55 ?_
        refine x_ald0 h dX7_check_58 ?_
        refine r_X7_16 h dX7_check_59 ?_
        refine vCV1 (10 * 2) h cs_X7_195 (csB (c_X0_become B (j := 2) (by decide) (i := 1) (by decide) (by decide) _ _)) (obj_h (by decide)) rfl ⟨rfl, rfl⟩ ⟨Nat.le_of_ble_eq_true rfl, Nat.le_of_ble_eq_true rfl⟩ (Nat.le_of_ble_eq_true rfl) dX7_check_62 (fun s62 p62 => ?_)
        obtain rfl := p62
        rw [U_0]
        refine x_iconst (v := 0) h dX7_check_65 rfl ?_
        refine x_ist5 h dX7_check_66 (by rw [hk]; decide) rfl ?_
        have loop : ∀ (f m i : Nat) (stk : Nat → Int32), m < f → m + i = T → aCheck σ (nI n') = (ckL (gC σ (σ 19 0)) (hs σ 1) (σ 77) w m i) → XC B k (US σ stk (sHours (gC σ (σ 19 0)) (hs σ 1) i)) 68 [some (.ref (aB B 30)), some (.int (nI n')), some (.int (nI w)), some (.int (nI T)), some (.int (nI (2 * i))), some (.int (nI i))] [] := by
          intro f
          induction f with
          | zero => intro m i stk h1; omega
          | succ f ih =>
            intro m i stk h1 h2 e1
            refine x_ild5 h dX7_check_68 ?_
            refine x_ild3 h dX7_check_70 ?_
            refine x_icmp_ge 154 h dX7_check_71 (by decide) (fun c71 => ?_) (fun c71 => ?_)
            · have c71 := n_le (by omega) (by omega) c71
              have em : m = 0 := by omega
              subst em
              refine x_ild4 h dX7_check_154 ?_
              refine x_ild2 h dX7_check_156 ?_
              refine x_icmp_ge 167 h dX7_check_157 (by decide) (fun c157 => ?_) (fun c157 => ?_)
              · have c157 := n_le (by omega) (by omega) c157
                have e2 : (ckL (gC σ (σ 19 0)) (hs σ 1) (σ 77) w 0 i) = 0 := if_neg (by omega)
                refine x_iconst (v := 0) h dX7_check_167 rfl ?_
                refine x_iret h hr ?_ dX7_check_168
                exact ⟨_, _, rfl, rfl, by rw [e1, e2] <;> first | rfl | exact one_nI, U_J⟩
              · have c157 := n_nle (by omega) (by omega) c157
                have e2 : (ckL (gC σ (σ 19 0)) (hs σ 1) (σ 77) w 0 i) = nI (2 * i + 1) := if_pos c157
                refine x_iconst (v := 1) h dX7_check_160 rfl ?_
                refine x_ild4 h dX7_check_161 ?_
                refine x_iadd h dX7_check_163 ?_
                refine x_goto 168 h dX7_check_164 (by decide) ?_
                refine x_iret h hr ?_ dX7_check_168
                exact ⟨_, _, rfl, rfl, by rw [e1, e2] <;> first | rfl | exact one_nI, U_J⟩
            · have c71 := n_nle (by omega) (by omega) c71
              obtain ⟨m, rfl⟩ : ∃ m', m = m' + 1 := ⟨m - 1, by omega⟩
              refine x_ald0 h dX7_check_74 ?_
              refine r_X7_23 h dX7_check_75 ?_
              refine x_ald0 h dX7_check_78 ?_
              refine r_X7_47 h dX7_check_79 ?_
              refine vCI1 (10 * 2) h cs_X7_204 (u_passHour B σ stk (sHours (gC σ (σ 19 0)) (hs σ 1) i) (hi.hours gC_GR i) sHours_9 hT) (obj_h (by decide)) rfl ⟨rfl, rfl⟩ ⟨Nat.le_of_ble_eq_true rfl, Nat.le_of_ble_eq_true rfl⟩ (Nat.le_of_ble_eq_true rfl) dX7_check_82 (fun r82 s82 p82 => ?_)
              obtain ⟨stk, rfl⟩ := p82
              rw [show sHour (gC σ (σ 19 0)) (sHours (gC σ (σ 19 0)) (hs σ 1) i) = (sHours (gC σ (σ 19 0)) (hs σ 1) (i + 1)) from rfl]
              refine x_pop h dX7_check_85 rfl ?_
              refine x_ild4 h dX7_check_86 ?_
              refine x_ild2 h dX7_check_88 ?_
              refine x_icmp_ge 109 h dX7_check_89 (by decide) (fun c89 => ?_) (fun c89 => ?_)
              · have c89 := n_le (by omega) (by omega) c89
                have e2 : (ckL (gC σ (σ 19 0)) (hs σ 1) (σ 77) w (m + 1) i) = nI (2 * i + 1) := if_pos (Or.inl c89)
                refine x_iconst (v := 1) h dX7_check_109 rfl ?_
                refine x_ild4 h dX7_check_110 ?_
                refine x_iadd h dX7_check_112 ?_
                refine x_iret h hr ?_ dX7_check_113
                exact ⟨_, _, rfl, rfl, by rw [e1, e2]; exact one_nI, U_J⟩
              · have c89 := n_nle (by omega) (by omega) c89
                refine x_ald0 h dX7_check_92 ?_
                refine r_X7_63 h dX7_check_93 ?_
                refine x_ild4 h dX7_check_96 ?_
                refine xc_ialdN (2 * i) (rfl) (by omega) (by decide) h 77 (⟨by decide, fun _ _ => rfl⟩ : ArrC 77 60) dX7_check_98 ?_
                change XC B k _ _ _ (.int (σ 77 (2 * i)) :: _)
                refine x_ald0 h dX7_check_99 ?_
                refine r_X7_23 h dX7_check_100 ?_
                refine vCI0 (10 * 2) h cs_X7_186 (c_X0_allSoles B (j := 2) (by decide) _ _ (hi.hours gC_GR (i + 1))) (obj_h (by decide)) rfl ⟨rfl, rfl⟩ ⟨Nat.le_of_ble_eq_true rfl, Nat.le_of_ble_eq_true rfl⟩ (Nat.le_of_ble_eq_true rfl) dX7_check_103 (fun r103 s103 p103 => ?_)
                obtain ⟨rfl, rfl⟩ := p103
                change XC B k (US σ stk (sHours (gC σ (σ 19 0)) (hs σ 1) (i + 1))) _ _ _
                refine x_icmp_eq 114 h dX7_check_106 (by decide) (fun c106 => ?_) (fun c106 => ?_)
                · refine x_inc4 (y := 1) h dX7_check_114 (by rw [hk]; decide) rfl rfl ?_
                  rw [nI_1 (2 * i)]
                  refine x_ild4 h dX7_check_117 ?_
                  refine x_ild2 h dX7_check_119 ?_
                  refine x_icmp_ge 140 h dX7_check_120 (by decide) (fun c120 => ?_) (fun c120 => ?_)
                  · have c120 := n_le (by omega) (by omega) c120
                    have e2 : (ckL (gC σ (σ 19 0)) (hs σ 1) (σ 77) w (m + 1) i) = nI (2 * i + 2) := (if_neg (fun z => z.elim (fun y => by omega) (fun y => y c106))).trans (if_pos (Or.inl c120))
                    refine x_iconst (v := 1) h dX7_check_140 rfl ?_
                    refine x_ild4 h dX7_check_141 ?_
                    refine x_iadd h dX7_check_143 ?_
                    refine x_iret h hr ?_ dX7_check_144
                    exact ⟨_, _, rfl, rfl, by rw [e1, e2]; exact one_nI, U_J⟩
                  · have c120 := n_nle (by omega) (by omega) c120
                    refine x_ald0 h dX7_check_123 ?_
                    refine r_X7_63 h dX7_check_124 ?_
                    refine x_ild4 h dX7_check_127 ?_
                    refine xc_ialdN (2 * i + 1) (rfl) (by omega) (by decide) h 77 (⟨by decide, fun _ _ => rfl⟩ : ArrC 77 60) dX7_check_129 ?_
                    change XC B k _ _ _ (.int (σ 77 (2 * i + 1)) :: _)
                    refine x_ald0 h dX7_check_130 ?_
                    refine r_X7_23 h dX7_check_131 ?_
                    refine r2_X7_177 h dX7_check_134 ?_
                    change XC B k _ _ _ (.int ((sHours (gC σ (σ 19 0)) (hs σ 1) (i + 1)) 0 10) :: _)
                    refine x_icmp_eq 145 h dX7_check_137 (by decide) (fun c137 => ?_) (fun c137 => ?_)
                    · have e2 : (ckL (gC σ (σ 19 0)) (hs σ 1) (σ 77) w (m + 1) i) = (ckL (gC σ (σ 19 0)) (hs σ 1) (σ 77) w m (i + 1)) := (if_neg (fun z => z.elim (fun y => by omega) (fun y => y c106))).trans (if_neg (fun z => z.elim (fun y => by omega) (fun y => y c137)))
                      refine x_inc4 (y := 1) h dX7_check_145 (by rw [hk]; decide) rfl rfl ?_
                      refine x_inc5 (y := 1) h dX7_check_148 (by rw [hk]; decide) rfl rfl ?_
                      refine x_goto 68 h dX7_check_151 (by decide) ?_
                      rw [nI_1 (2 * i + 1), nI_1 i, show 2 * i + 1 + 1 = 2 * (i + 1) by omega]
                      exact ih m (i + 1) stk (by omega) (by omega) (e1.trans e2)
                    · have e2 : (ckL (gC σ (σ 19 0)) (hs σ 1) (σ 77) w (m + 1) i) = nI (2 * i + 2) := (if_neg (fun z => z.elim (fun y => by omega) (fun y => y c106))).trans (if_pos (Or.inr c137))
                      refine x_iconst (v := 1) h dX7_check_140 rfl ?_
                      refine x_ild4 h dX7_check_141 ?_
                      refine x_iadd h dX7_check_143 ?_
                      refine x_iret h hr ?_ dX7_check_144
                      exact ⟨_, _, rfl, rfl, by rw [e1, e2]; exact one_nI, U_J⟩
                · have e2 : (ckL (gC σ (σ 19 0)) (hs σ 1) (σ 77) w (m + 1) i) = nI (2 * i + 1) := if_pos (Or.inr c106)
                  refine x_iconst (v := 1) h dX7_check_109 rfl ?_
                  refine x_ild4 h dX7_check_110 ?_
                  refine x_iadd h dX7_check_112 ?_
                  refine x_iret h hr ?_ dX7_check_113
                  exact ⟨_, _, rfl, rfl, by rw [e1, e2]; exact one_nI, U_J⟩
        rw [hw]
        exact loop (T + 1) T 0 (σ 39) (by omega) (by omega) e0
      · have c28 : σ 30 2 = 0 := c28
        refine x_ldcw h kc_X7_323 dX7_check_31 ?_
        refine x_iret h hr ?_ dX7_check_34
        exact ⟨_, _, rfl, rfl, by unfold aCheck; rw [if_pos ⟨c12, c18⟩, if_pos c28], Jk.rf⟩
    · refine x_ldc h kc_X7_85 dX7_check_21 ?_
      refine x_iret h hr ?_ dX7_check_23
      exact ⟨_, _, rfl, rfl, by unfold aCheck; rw [if_neg (by first | exact fun z => z.1 c12 | exact fun z => c18 z.2)], Jk.rf⟩
theorem pTS_ok {b : Nat → Int32} {n : Nat} {c : Nat → Int32} : pOk n (pTS b n c) := by
  unfold pTS
  split
  · exact pr_ok _ _ _ _ _ (pStep_ok pS0_ok)
  · exact pS0_ok
/-- once the Reader has taken the tape -/
def txR (σ : ST) (n : Nat) : ST := up2 (RSt (up2 σ 34 3 (pTk (σ 33) n (σ 35))) n (pTS (σ 33) n (σ 35))) 32 1 0
def txP (σ : ST) (n t : Nat) : ST := up2 (up2 (up2 (up1 (txR σ n) (40 + t) (va_cpy (pTS (σ 33) n (σ 35)).2.1 (σ (40 + t)) 0 0 (pTS (σ 33) n (σ 35)).2.2.1)) 36 t (nI (pTS (σ 33) n (σ 35)).2.2.1)) 37 t (pTk (σ 33) n (σ 35))) 38 t (nI (pTS (σ 33) n (σ 35)).2.2.2)
def txN (σ : ST) (n t : Nat) : ST := up2 (up2 (txP σ n t) 0 14 (nI (t + 1))) 9 (ix (pTk (σ 33) n (σ 35))) (nI t)
def aText (σ : ST) (n t : Nat) : Int32 × ST := if pTB (σ 33) n (σ 35) = true then (if t < 14 then (nI t, txN σ n t) else (-1000000003, txR σ n)) else (-100 - nI (tS (σ 33) n (pTS (σ 33) n (σ 35)).1), txR σ n)
theorem pKey_rg {b : Nat → Int32} {n : Nat} {S : PS} (h : 0 ≤ pKey b n S) : rg (pKey b n S) 0 2 := by
  unfold pKey at h ⊢
  split
  · exact ⟨0, rfl, by omega, by omega⟩
  · split
    · exact ⟨1, rfl, by omega, by omega⟩
    · split
      · exact ⟨2, rfl, by omega, by omega⟩
      · rename_i h1 h2 h3
        rw [if_neg h1, if_neg h2, if_neg h3] at h
        exact absurd h (by decide)
set_option maxRecDepth 100000 in
set_option maxHeartbeats 4000000 in
theorem c_X7_text (B : BT) (σ : ST) (n : Nat) (hn : σ 32 1 = nI n) (hn96 : n ≤ 96) (t : Nat) (ht : σ 0 14 = nI t) (ht14 : t ≤ 14) : CI B yX7_text cX7_text 3 (some .int) ({ frames := 95, cells := 0, slots := 0, locals := 4200 }) [.ref (aB B 30)] σ (fun v σ' => v = (aText σ n t).1 ∧ σ' = (aText σ n t).2) := by
  refine MX.of2 RX7 (by decide) rfl ⟨rfl, rfl⟩ (Nat.le_of_ble_eq_true rfl) (by rfl) (fun k h hr hk => ?_)
  show XC B k σ 0 [some (.ref (aB B 30)), none, none] []
  refine x_ald0 h dX7_text_0 ?_
  refine r_X7_40 h dX7_text_1 ?_
  refine x_ald0 h dX7_text_4 ?_
  refine r_X7_33 h dX7_text_5 ?_
  refine vCI1 34 h cs_X7_248 (c_X3_takes B σ n hn hn96) (⟨by decide, fun _ _ => rfl⟩ : ObjC 34 2) rfl ⟨rfl, rfl⟩ ⟨Nat.le_of_ble_eq_true rfl, Nat.le_of_ble_eq_true rfl⟩ (Nat.le_of_ble_eq_true rfl) dX7_text_8 (fun r8 s8 p8 => ?_)
  obtain ⟨rfl, rfl⟩ := p8
  refine x_ist1 h dX7_text_11 (by rw [hk]; decide) rfl ?_
  refine x_ald0 h dX7_text_12 ?_
  refine r_X7_33 h dX7_text_13 ?_
  refine x_iconst (v := 0) h dX7_text_16 rfl ?_
  refine w_X7_241 h dX7_text_17 ?_
  change XC B k (txR σ n) 20 _ _
  refine x_ild1 h dX7_text_20 ?_
  refine x_if_ne 35 h dX7_text_21 (by decide) (fun c21 => ?_) (fun c21 => ?_)
  · have c21 := bI_n.mp c21
    have c21 : pTB (σ 33) n (σ 35) = true := c21
    refine x_ald0 h dX7_text_35 ?_
    refine r_X7_10 h dX7_text_36 ?_
    refine r0_X7_255 h dX7_text_39 ?_
    change XC B k _ _ _ (.int (σ 0 14) :: _)
    rw [ht]
    refine x_bipush (v := 14) h dX7_text_42 rfl ?_
    refine x_icmp_lt 50 h dX7_text_44 (by decide) (fun c44 => ?_) (fun c44 => ?_)
    · have c44 := n_lt (b := 14) (by omega) (by decide) c44
      refine x_ald0 h dX7_text_50 ?_
      refine r_X7_10 h dX7_text_51 ?_
      refine r0_X7_255 h dX7_text_54 ?_
      change XC B k _ _ _ (.int (σ 0 14) :: _)
      rw [ht]
      refine x_ist2 h dX7_text_57 (by rw [hk]; decide) rfl ?_
      refine x_ald0 h dX7_text_58 ?_
      refine r_X7_47 h dX7_text_59 ?_
      refine x_ild2 h dX7_text_62 ?_
      refine x_ald0 h dX7_text_63 ?_
      refine r_X7_40 h dX7_text_64 ?_
      refine vCV2 78 h cs_X7_258 (c_X2_put B (txR σ n) t (pTS (σ 33) n (σ 35)).2.2.1 c44 rfl pTS_ok.2) (⟨by decide, fun _ _ => rfl⟩ : ObjC 78 1) rfl ⟨rfl, rfl⟩ ⟨Nat.le_of_ble_eq_true rfl, Nat.le_of_ble_eq_true rfl⟩ (Nat.le_of_ble_eq_true rfl) dX7_text_67 (fun s67 p67 => ?_)
      obtain rfl := p67
      have hk0 : 0 ≤ (pTk (σ 33) n (σ 35)) := by
        have c21' := c21
        unfold pTB at c21'
        rw [Bool.and_eq_true, decide_eq_true_iff] at c21'
        exact c21'.1
      have hkr := rg_ix (show rg (pTk (σ 33) n (σ 35)) 0 2 from pKey_rg hk0) (by decide)
      have eR : txR σ n (40 + t) = σ (40 + t) := by
        unfold txR RSt T3
        rw [up2_n (by omega), up1_n (by omega), up2_n (by omega), up2_n (by omega), up2_n (by omega), up2_n (by omega), up2_n (by omega), up2_n (by omega)]
      rw [eR]
      change XC B k (txP σ n t) 70 _ _
      obtain ⟨σ2, e2, h34, h0⟩ : ∃ σ2, σ2 = txP σ n t ∧ σ2 34 = txR σ n 34 ∧ σ2 0 = σ 0 := by
        refine ⟨_, rfl, ?_, ?_⟩
        · unfold txP
          rw [up2_n (by omega), up2_n (by omega), up2_n (by omega), up1_n (by omega)]
        · unfold txP
          rw [up2_n (by omega), up2_n (by omega), up2_n (by omega), up1_n (by omega)]
          rfl
      rw [← e2]
      refine x_ald0 h dX7_text_70 ?_
      refine r_X7_10 h dX7_text_71 ?_
      refine x_dup h dX7_text_74 rfl ?_
      refine r0_X7_255 h dX7_text_75 ?_
      rw [h0, ht]
      refine x_iconst (v := 1) h dX7_text_78 rfl ?_
      refine x_iadd h dX7_text_79 ?_
      rw [nI_1 t]
      refine w0_X7_255 h dX7_text_80 ?_
      refine x_ald0 h dX7_text_83 ?_
      refine r_X7_10 h dX7_text_84 ?_
      refine r0_X7_235 h dX7_text_87 ?_
      refine x_ald0 h dX7_text_90 ?_
      refine r_X7_40 h dX7_text_91 ?_
      refine r_X7_262 h dX7_text_94 ?_
      change XC B k _ _ _ (.int (σ2 34 3) :: _)
      rw [h34]
      change XC B k _ _ _ (.int (pTk (σ 33) n (σ 35)) :: _)
      refine x_ild2 h dX7_text_97 ?_
      refine xc_iastN (ix (pTk (σ 33) n (σ 35))) (hkr.2.2) (by omega) (by decide) h 9 (⟨by decide, fun _ _ => rfl⟩ : ArrC 9 3) dX7_text_98 ?_
      refine x_ild2 h dX7_text_99 ?_
      refine x_iret h hr ?_ dX7_text_100
      have e9 : aText σ n t = (nI t, txN σ n t) := by
        unfold aText
        rw [if_pos c21, if_pos c44]
      exact ⟨_, _, rfl, rfl, by rw [e9], by rw [e9, e2]; rfl⟩
    · have c44 := n_nlt (b := 14) (by omega) (by decide) c44
      refine x_ldc h kc_X7_89 dX7_text_47 ?_
      refine x_iret h hr ?_ dX7_text_49
      exact ⟨_, _, rfl, rfl, by unfold aText; rw [if_pos c21, if_neg (by omega)], by unfold aText; rw [if_pos c21, if_neg (by omega)]⟩
  · have c21 := bI_0.mp c21
    have c21 : ¬ pTB (σ 33) n (σ 35) = true := c21
    refine x_bipush (v := (-100)) h dX7_text_24 rfl ?_
    refine x_ald0 h dX7_text_26 ?_
    refine r_X7_33 h dX7_text_27 ?_
    refine r_X7_252 h dX7_text_30 ?_
    refine x_isub h dX7_text_33 ?_
    refine x_iret h hr ?_ dX7_text_34
    exact ⟨_, _, rfl, rfl, by unfold aText; rw [if_neg c21]; rfl, by unfold aText; rw [if_neg c21]⟩
