/-! null in locals -/
section XN17
variable {G : GT} {k : KT} {cc : ByteArray} {own : String} {rm : Room} {ce : Nat → va_E} {pc : Nat} {L : List (Option Value)} {st : List Value}
theorem x_aln2 {a0 a1 : Option Value} {t : List (Option Value)} (h : Ok G k cc own rm) (hdg : decode cc pc = .ok (.aload_n 2, 1)) (kk : X G k ce (pc + 1) (a0 :: a1 :: some .null :: t) (.null :: st)) : X G k ce pc (a0 :: a1 :: some .null :: t) st := fun H locs ls hP hD hS hl => lv_aload_nN h.1 h.2.1 hdg rfl (hl.2.2 2 _ rfl) (kk H locs ls hP hD hS hl)
theorem x_asn2 {a0 a1 : Option Value} {b : Option Value} {t : List (Option Value)} (h : Ok G k cc own rm) (hdg : decode cc pc = .ok (.astore_n 2, 1)) (hn : 2 < kL k) (hq : c1o (some a1) = true) (kk : X G k ce (pc + 1) (a0 :: a1 :: some .null :: t) st) : X G k ce pc (a0 :: a1 :: b :: t) (.null :: st) := fun H locs ls hP hD hS hl => lv_astore_nN h.1 h.2.1 hdg rfl (lh_has hl) hn rfl (fun ls' hl' => kk H locs ls' hP hD hS (lh_set (i := 2) (L := a0 :: a1 :: b :: t) (Or.inr hq) hl'))
theorem x_aln3 {a0 a1 a2 : Option Value} {t : List (Option Value)} (h : Ok G k cc own rm) (hdg : decode cc pc = .ok (.aload_n 3, 1)) (kk : X G k ce (pc + 1) (a0 :: a1 :: a2 :: some .null :: t) (.null :: st)) : X G k ce pc (a0 :: a1 :: a2 :: some .null :: t) st := fun H locs ls hP hD hS hl => lv_aload_nN h.1 h.2.1 hdg rfl (hl.2.2 3 _ rfl) (kk H locs ls hP hD hS hl)
theorem x_asn3 {a0 a1 a2 : Option Value} {b : Option Value} {t : List (Option Value)} (h : Ok G k cc own rm) (hdg : decode cc pc = .ok (.astore_n 3, 1)) (hn : 3 < kL k) (hq : c1o (some a2) = true) (kk : X G k ce (pc + 1) (a0 :: a1 :: a2 :: some .null :: t) st) : X G k ce pc (a0 :: a1 :: a2 :: b :: t) (.null :: st) := fun H locs ls hP hD hS hl => lv_astore_nN h.1 h.2.1 hdg rfl (lh_has hl) hn rfl (fun ls' hl' => kk H locs ls' hP hD hS (lh_set (i := 3) (L := a0 :: a1 :: a2 :: b :: t) (Or.inr hq) hl'))
theorem x_aln4 {a0 a1 a2 a3 : Option Value} {t : List (Option Value)} (h : Ok G k cc own rm) (hdg : decode cc pc = .ok (.aload 4, 2)) (kk : X G k ce (pc + 2) (a0 :: a1 :: a2 :: a3 :: some .null :: t) (.null :: st)) : X G k ce pc (a0 :: a1 :: a2 :: a3 :: some .null :: t) st := fun H locs ls hP hD hS hl => lv_aloadN h.1 h.2.1 hdg (hl.2.2 4 _ rfl) (kk H locs ls hP hD hS hl)
theorem x_asn4 {a0 a1 a2 a3 : Option Value} {b : Option Value} {t : List (Option Value)} (h : Ok G k cc own rm) (hdg : decode cc pc = .ok (.astore 4, 2)) (hn : 4 < kL k) (hq : c1o (some a3) = true) (kk : X G k ce (pc + 2) (a0 :: a1 :: a2 :: a3 :: some .null :: t) st) : X G k ce pc (a0 :: a1 :: a2 :: a3 :: b :: t) (.null :: st) := fun H locs ls hP hD hS hl => lv_astoreN h.1 h.2.1 hdg (lh_has hl) hn rfl (fun ls' hl' => kk H locs ls' hP hD hS (lh_set (i := 4) (L := a0 :: a1 :: a2 :: a3 :: b :: t) (Or.inr hq) hl'))
theorem x_aln5 {a0 a1 a2 a3 a4 : Option Value} {t : List (Option Value)} (h : Ok G k cc own rm) (hdg : decode cc pc = .ok (.aload 5, 2)) (kk : X G k ce (pc + 2) (a0 :: a1 :: a2 :: a3 :: a4 :: some .null :: t) (.null :: st)) : X G k ce pc (a0 :: a1 :: a2 :: a3 :: a4 :: some .null :: t) st := fun H locs ls hP hD hS hl => lv_aloadN h.1 h.2.1 hdg (hl.2.2 5 _ rfl) (kk H locs ls hP hD hS hl)
theorem x_asn5 {a0 a1 a2 a3 a4 : Option Value} {b : Option Value} {t : List (Option Value)} (h : Ok G k cc own rm) (hdg : decode cc pc = .ok (.astore 5, 2)) (hn : 5 < kL k) (hq : c1o (some a4) = true) (kk : X G k ce (pc + 2) (a0 :: a1 :: a2 :: a3 :: a4 :: some .null :: t) st) : X G k ce pc (a0 :: a1 :: a2 :: a3 :: a4 :: b :: t) (.null :: st) := fun H locs ls hP hD hS hl => lv_astoreN h.1 h.2.1 hdg (lh_has hl) hn rfl (fun ls' hl' => kk H locs ls' hP hD hS (lh_set (i := 5) (L := a0 :: a1 :: a2 :: a3 :: a4 :: b :: t) (Or.inr hq) hl'))
theorem x_aln6 {a0 a1 a2 a3 a4 a5 : Option Value} {t : List (Option Value)} (h : Ok G k cc own rm) (hdg : decode cc pc = .ok (.aload 6, 2)) (kk : X G k ce (pc + 2) (a0 :: a1 :: a2 :: a3 :: a4 :: a5 :: some .null :: t) (.null :: st)) : X G k ce pc (a0 :: a1 :: a2 :: a3 :: a4 :: a5 :: some .null :: t) st := fun H locs ls hP hD hS hl => lv_aloadN h.1 h.2.1 hdg (hl.2.2 6 _ rfl) (kk H locs ls hP hD hS hl)
theorem x_asn6 {a0 a1 a2 a3 a4 a5 : Option Value} {b : Option Value} {t : List (Option Value)} (h : Ok G k cc own rm) (hdg : decode cc pc = .ok (.astore 6, 2)) (hn : 6 < kL k) (hq : c1o (some a5) = true) (kk : X G k ce (pc + 2) (a0 :: a1 :: a2 :: a3 :: a4 :: a5 :: some .null :: t) st) : X G k ce pc (a0 :: a1 :: a2 :: a3 :: a4 :: a5 :: b :: t) (.null :: st) := fun H locs ls hP hD hS hl => lv_astoreN h.1 h.2.1 hdg (lh_has hl) hn rfl (fun ls' hl' => kk H locs ls' hP hD hS (lh_set (i := 6) (L := a0 :: a1 :: a2 :: a3 :: a4 :: a5 :: b :: t) (Or.inr hq) hl'))
theorem x_aln7 {a0 a1 a2 a3 a4 a5 a6 : Option Value} {t : List (Option Value)} (h : Ok G k cc own rm) (hdg : decode cc pc = .ok (.aload 7, 2)) (kk : X G k ce (pc + 2) (a0 :: a1 :: a2 :: a3 :: a4 :: a5 :: a6 :: some .null :: t) (.null :: st)) : X G k ce pc (a0 :: a1 :: a2 :: a3 :: a4 :: a5 :: a6 :: some .null :: t) st := fun H locs ls hP hD hS hl => lv_aloadN h.1 h.2.1 hdg (hl.2.2 7 _ rfl) (kk H locs ls hP hD hS hl)
theorem x_asn7 {a0 a1 a2 a3 a4 a5 a6 : Option Value} {b : Option Value} {t : List (Option Value)} (h : Ok G k cc own rm) (hdg : decode cc pc = .ok (.astore 7, 2)) (hn : 7 < kL k) (hq : c1o (some a6) = true) (kk : X G k ce (pc + 2) (a0 :: a1 :: a2 :: a3 :: a4 :: a5 :: a6 :: some .null :: t) st) : X G k ce pc (a0 :: a1 :: a2 :: a3 :: a4 :: a5 :: a6 :: b :: t) (.null :: st) := fun H locs ls hP hD hS hl => lv_astoreN h.1 h.2.1 hdg (lh_has hl) hn rfl (fun ls' hl' => kk H locs ls' hP hD hS (lh_set (i := 7) (L := a0 :: a1 :: a2 :: a3 :: a4 :: a5 :: a6 :: b :: t) (Or.inr hq) hl'))
end XN17
theorem nI_n0 (n : Nat) (hn : n < 2 ^ 31) : ¬ nI n < 0 := fun h => absurd ((nI_ltI (a := n) (b := 0) hn (by decide)).mp h) (Nat.not_lt_zero n)
section XC17
variable {B : BT} {k : KT} {cc : ByteArray} {own : String} {rm : Room} {σ : Nat → Nat → Int32} {pc : Nat} {L : List (Option Value)} {st : List Value}
theorem xc_same1 {q n : Nat} {f g : Nat → Int32} (hq : ArrC q n) (hfg : ∀ j, j < n → f j = g j) (kk : XC B k (up1 σ q g) pc L st) : XC B k (up1 σ q f) pc L st := by
  refine x_same (ce' := cC B (up1 σ q g)) (fun p _ => ?_) kk
  by_cases e : p = q
  · subst e
    show eqE _ (cellC B p (up1 σ p f p)) (cellC B p (up1 σ p g p))
    rw [up1_s, up1_s, hq.2, hq.2]
    exact eqE.arr hfg
  · show eqE _ (cellC B p (up1 σ q f p)) (cellC B p (up1 σ q g p))
    rw [up1_n e, up1_n e]
    exact eqE.rf
theorem xc_sameC {σ' : Nat → Nat → Int32} (he : ∀ q, cellC B q (σ q) = cellC B q (σ' q)) (kk : XC B k σ' pc L st) : XC B k σ pc L st := by
  refine x_same (ce' := cC B σ') (fun p _ => ?_) kk
  show eqE _ (cellC B p (σ p)) (cellC B p (σ' p))
  rw [he p]
  exact eqE.rf
theorem xc_copyF {index n : Nat} (h : Ok (GC B) k cc own rm) (q0 q1 : Nat) (hq0 : ArrC q0 n) (hq1 : ArrC q1 n) (hn : n < 2 ^ 31) (hl : Cond.methodLink own index arraycopyName ∈ UW) (hrm : 1 ≤ rm.frames ∧ (st.map fun v => v.category).sum + (nativeFrameWords "java/lang/System" "arraycopy" 5 + 11) ≤ rm.locals) (hdg : decode cc pc = .ok (.invokestatic index, 3)) (kk : XC B k (up1 σ q1 (σ q0)) (pc + 3) L st) : XC B k σ pc L (.int (nI n) :: .int 0 :: .ref (aB B q1) :: .int 0 :: .ref (aB B q0) :: st) := by
  refine xc_copy h q0 q1 hq0 hq1 hl hrm (by decide) (by decide) (nI_n0 n hn) (by rw [nI_clamp hn]; show 0 + n ≤ n; omega) (by rw [nI_clamp hn]; show 0 + n ≤ n; omega) hdg (xc_same1 hq1 (fun j hj => ?_) kk)
  rw [nI_clamp hn]
  unfold va_cpy
  rw [if_pos (by show 0 ≤ j ∧ j < 0 + n; omega)]
  show σ q0 (0 + (j - 0)) = _
  rw [Nat.sub_zero, Nat.zero_add]
theorem sH_n {i j f : Nat} {hh : Nat → Nat → Int32} (hf : f < 10) (hij : i ≠ j) : sH σ j hh (10 * i + f) = σ (10 * i + f) := by
  unfold sH
  rw [if_neg (by omega)]
theorem sH_n0 {i j : Nat} {hh : Nat → Nat → Int32} (hij : i ≠ j) : sH σ j hh (10 * i) = σ (10 * i) := sH_n (f := 0) (by omega) hij
theorem xh_copy {index n : Nat} (h : Ok (GC B) k cc own rm) {i j : Nat} {hh : Nat → Nat → Int32} (hi : i < 3) (hj : j < 3) (hij : i ≠ j) (f : Nat) (hf0 : 0 < f) (hf : f < 10) (hlf : hlen f = n) (hl : Cond.methodLink own index arraycopyName ∈ UW) (hrm : 1 ≤ rm.frames ∧ (st.map fun v => v.category).sum + (nativeFrameWords "java/lang/System" "arraycopy" 5 + 11) ≤ rm.locals) (hdg : decode cc pc = .ok (.invokestatic index, 3)) (kk : XC B k (sH σ j (up1 hh f (σ (10 * i + f)))) (pc + 3) L st) : XC B k (sH σ j hh) pc L (.int (nI n) :: .int 0 :: .ref (aB B (10 * j + f)) :: .int 0 :: .ref (aB B (10 * i + f)) :: st) := by
  subst hlf
  have := hlen_le f
  refine xc_copyF h _ _ (arr_h hi hf0 hf) (arr_h hj hf0 hf) (by omega) hl hrm hdg ?_
  rw [sH_n hf hij, sH_up1 hf]
  exact kk
end XC17
/-! the Reader takes a tape -/
def pS0 (c : Nat → Int32) : PS := (0, c, 0, 0)
theorem RSt_0 {σ : Nat → Nat → Int32} {n : Nat} : T3 (up2 (up2 σ 34 1 0) 34 2 0) (nI (tS (σ 33) n 0)) (nI (tE (σ 33) n 0)) (tK (σ 33) n 0) = RSt σ n (pS0 (σ 35)) := by
  funext q i
  unfold RSt pS0 T3 up1 up2 upd
  by_cases h1 : q = 32 <;> by_cases h2 : q = 34 <;> by_cases h3 : q = 35 <;> by_cases h4 : i = 1 <;> by_cases h5 : i = 2 <;> by_cases h6 : i = 3 <;> by_cases h7 : i = 4 <;> simp_all <;> rfl
theorem RSt_key {σ : Nat → Nat → Int32} {n : Nat} {S : PS} {x : Int32} : up2 (RSt σ n S) 34 3 x = RSt (up2 σ 34 3 x) n S := by
  funext q i
  unfold RSt T3 up1 up2 upd
  by_cases h1 : q = 32 <;> by_cases h2 : q = 34 <;> by_cases h3 : q = 35 <;> by_cases h4 : i = 1 <;> by_cases h5 : i = 2 <;> by_cases h6 : i = 3 <;> simp_all
/-- the key, whether it is a text, where the Reader stands -/
def pTk (b : Nat → Int32) (n : Nat) (c : Nat → Int32) : Int32 := pKey b n (pS0 c)
def pTr (b : Nat → Int32) (n : Nat) (c : Nat → Int32) : Bool × PS := pr b n (pTk b n c) 71 0 0 0 (pStep b n (pS0 c))
def pTB (b : Nat → Int32) (n : Nat) (c : Nat → Int32) : Bool := decide (0 ≤ pTk b n c) && ((pTr b n c).1 && decide (tK b n (pTr b n c).2.1 = 0))
def pTS (b : Nat → Int32) (n : Nat) (c : Nat → Int32) : PS := if 0 ≤ pTk b n c then (pTr b n c).2 else pS0 c
theorem pS0_ok {n : Nat} {c : Nat → Int32} : pOk n (pS0 c) := ⟨Nat.zero_le n, Nat.zero_le 96⟩
theorem pTB_f {b : Nat → Int32} {n : Nat} {c : Nat → Int32} (h : ¬ 0 ≤ pTk b n c) : pTB b n c = false := by unfold pTB; rw [decide_eq_false h]; rfl
theorem pTB_r {b : Nat → Int32} {n : Nat} {c : Nat → Int32} (h : ¬ (pTr b n c).1 = true) : pTB b n c = false := by unfold pTB; rw [Bool.eq_false_iff.mpr h]; cases decide (0 ≤ pTk b n c) <;> rfl
theorem pTB_k {b : Nat → Int32} {n : Nat} {c : Nat → Int32} (h : ¬ tK b n (pTr b n c).2.1 = 0) : pTB b n c = false := by unfold pTB; rw [decide_eq_false h]; cases decide (0 ≤ pTk b n c) <;> cases (pTr b n c).1 <;> rfl
theorem pTB_t {b : Nat → Int32} {n : Nat} {c : Nat → Int32} (h : 0 ≤ pTk b n c) (h1 : (pTr b n c).1 = true) (h2 : tK b n (pTr b n c).2.1 = 0) : pTB b n c = true := by unfold pTB; rw [decide_eq_true h, h1, decide_eq_true h2]; rfl
set_option maxRecDepth 100000 in
set_option maxHeartbeats 4000000 in
theorem c_X3_takes (B : BT) (σ : Nat → Nat → Int32) (n : Nat) (hn : σ 32 1 = nI n) (hn96 : n ≤ 96) : CI B yX3_takes cX3_takes 2 (some .boolean) ({ frames := 90, cells := 0, slots := 0, locals := 4000 }) [.ref (aB B 34), .ref (aB B 32)] σ (fun r σ' => r = bI (pTB (σ 33) n (σ 35) = true) ∧ σ' = RSt (up2 σ 34 3 (pTk (σ 33) n (σ 35))) n (pTS (σ 33) n (σ 35))) := by
  refine MX.of2 RX3 (by decide) rfl ⟨rfl, rfl⟩ (Nat.le_of_ble_eq_true rfl) (by rfl) (fun k h hr hk => ?_)
  show XC B k σ 0 [some (.ref (aB B 34)), some (.ref (aB B 32))] []
  refine x_ald0 h dX3_takes_0 ?_
  refine x_iconst (v := 0) h dX3_takes_1 rfl ?_
  refine w_X3_15 h dX3_takes_2 ?_
  refine x_ald0 h dX3_takes_5 ?_
  refine x_iconst (v := 0) h dX3_takes_6 rfl ?_
  refine w_X3_19 h dX3_takes_7 ?_
  refine x_ald1 h dX3_takes_10 ?_
  refine vCV0 32 h cs_X3_25 (c_X6_begin B _ n hn hn96) (⟨by decide, fun _ _ => rfl⟩ : ObjC 32 5) rfl ⟨rfl, rfl⟩ ⟨Nat.le_of_ble_eq_true rfl, Nat.le_of_ble_eq_true rfl⟩ (Nat.le_of_ble_eq_true rfl) dX3_takes_11 (fun s11 p11 => ?_)
  obtain rfl := p11
  change XC B k (T3 (up2 (up2 σ 34 1 0) 34 2 0) (nI (tS (σ 33) n 0)) (nI (tE (σ 33) n 0)) (tK (σ 33) n 0)) 14 _ _
  rw [RSt_0]
  refine x_ald0 h dX3_takes_14 ?_
  refine x_ald1 h dX3_takes_15 ?_
  refine sCI1 h cs_X3_30 (c_X3_keyOf B σ n (pS0 (σ 35)) ⟨hn, hn96, pS0_ok⟩) ⟨rfl, rfl⟩ ⟨Nat.le_of_ble_eq_true rfl, Nat.le_of_ble_eq_true rfl⟩ (Nat.le_of_ble_eq_true rfl) dX3_takes_16 (fun r16 s16 p16 => ?_)
  obtain ⟨rfl, rfl⟩ := p16
  refine w_X3_22 h dX3_takes_19 ?_
  rw [RSt_key]
  change XC B k (RSt (up2 σ 34 3 (pTk (σ 33) n (σ 35))) n (pS0 (σ 35))) 22 _ _
  refine x_ald0 h dX3_takes_22 ?_
  refine r_X3_22 h dX3_takes_23 ?_
  refine x_if_ge 31 h dX3_takes_26 (by decide) (fun c26 => ?_) (fun c26 => ?_)
  · have c26 : 0 ≤ (pTk (σ 33) n (σ 35)) := c26
    refine x_ald1 h dX3_takes_31 ?_
    refine vCV0 32 h cs_X3_34 (c_step_R B (σ := (up2 σ 34 3 (pTk (σ 33) n (σ 35)))) (n := n) (S := pS0 (σ 35)) ⟨hn, hn96, pS0_ok⟩) (⟨by decide, fun _ _ => rfl⟩ : ObjC 32 5) rfl ⟨rfl, rfl⟩ ⟨Nat.le_of_ble_eq_true rfl, Nat.le_of_ble_eq_true rfl⟩ (Nat.le_of_ble_eq_true rfl) dX3_takes_32 (fun s32 p32 => ?_)
    obtain rfl := p32
    change XC B k (RSt (up2 σ 34 3 (pTk (σ 33) n (σ 35))) n (pStep (σ 33) n (pS0 (σ 35)))) 35 _ _
    refine x_ald0 h dX3_takes_35 ?_
    refine x_ald1 h dX3_takes_36 ?_
    refine x_iconst (v := 0) h dX3_takes_37 rfl ?_
    refine x_iconst (v := 0) h dX3_takes_38 rfl ?_
    refine x_iconst (v := 0) h dX3_takes_39 rfl ?_
    refine vCI4 34 h cs_X3_37 ((both B (up2 σ 34 3 (pTk (σ 33) n (σ 35))) n (pTk (σ 33) n (σ 35)) rfl 71).1 0 0 0 (pStep (σ 33) n (pS0 (σ 35))) (by decide) (by decide) (by decide) (by decide) ⟨hn, hn96, pStep_ok (b := σ 33) pS0_ok⟩) (⟨by decide, fun _ _ => rfl⟩ : ObjC 34 2) rfl ⟨rfl, rfl⟩ ⟨Nat.le_of_ble_eq_true rfl, Nat.le_of_ble_eq_true rfl⟩ (Nat.le_of_ble_eq_true rfl) dX3_takes_40 (fun r40 s40 p40 => ?_)
    obtain ⟨rfl, rfl⟩ := p40
    change XC B k (RSt (up2 σ 34 3 (pTk (σ 33) n (σ 35))) n (pTr (σ 33) n (σ 35)).2) 43 _ [.int (bI ((pTr (σ 33) n (σ 35)).1 = true))]
    refine x_if_eq 57 h dX3_takes_43 (by decide) (fun c43 => ?_) (fun c43 => ?_)
    · have c43 := bI_0.mp c43
      have c43 : ¬ (pTr (σ 33) n (σ 35)).1 = true := c43
      refine x_iconst (v := 0) h dX3_takes_57 rfl ?_
      refine x_zret h hr (by decide) ?_ dX3_takes_58
      exact ⟨_, _, rfl, rfl, by first | (rw [pTB_t c26 c43 c50]; rfl) | (rw [pTB_k c50]; rfl) | (rw [pTB_r c43]; rfl), by rw [show pTS (σ 33) n (σ 35) = (pTr (σ 33) n (σ 35)).2 from if_pos c26]⟩
    · have c43 := bI_n.mp c43
      have c43 : (pTr (σ 33) n (σ 35)).1 = true := c43
      refine x_ald1 h dX3_takes_46 ?_
      refine r_X3_41 h dX3_takes_47 ?_
      refine x_if_ne 57 h dX3_takes_50 (by decide) (fun c50 => ?_) (fun c50 => ?_)
      · have c50 : ¬ tK (σ 33) n (pTr (σ 33) n (σ 35)).2.1 = 0 := c50
        refine x_iconst (v := 0) h dX3_takes_57 rfl ?_
        refine x_zret h hr (by decide) ?_ dX3_takes_58
        exact ⟨_, _, rfl, rfl, by first | (rw [pTB_t c26 c43 c50]; rfl) | (rw [pTB_k c50]; rfl) | (rw [pTB_r c43]; rfl), by rw [show pTS (σ 33) n (σ 35) = (pTr (σ 33) n (σ 35)).2 from if_pos c26]⟩
      · have c50 : tK (σ 33) n (pTr (σ 33) n (σ 35)).2.1 = 0 := c50
        refine x_iconst (v := 1) h dX3_takes_53 rfl ?_
        refine x_goto 58 h dX3_takes_54 (by decide) ?_
        refine x_zret h hr (by decide) ?_ dX3_takes_58
        exact ⟨_, _, rfl, rfl, by first | (rw [pTB_t c26 c43 c50]; rfl) | (rw [pTB_k c50]; rfl) | (rw [pTB_r c43]; rfl), by rw [show pTS (σ 33) n (σ 35) = (pTr (σ 33) n (σ 35)).2 from if_pos c26]⟩
  · have c26 : ¬ 0 ≤ (pTk (σ 33) n (σ 35)) := c26
    refine x_iconst (v := 0) h dX3_takes_29 rfl ?_
    refine x_zret h hr (by decide) ?_ dX3_takes_30
    exact ⟨_, _, rfl, rfl, by rw [pTB_f c26]; rfl, by rw [show pTS (σ 33) n (σ 35) = pS0 (σ 35) from if_neg c26]⟩
set_option maxRecDepth 100000 in
set_option maxHeartbeats 4000000 in
theorem c_X2_put (B : BT) (σ : Nat → Nat → Int32) (t m : Nat) (ht : t < 14) (hm : σ 34 1 = nI m) (hm96 : m ≤ 96) : CV B yX2_put cX2_put 3 none ({ frames := 2, cells := 0, slots := 0, locals := 105 }) [.ref (aB B 78), .int (nI t), .ref (aB B 34)] σ (fun σ' => σ' = up2 (up2 (up2 (up1 σ (40 + t) (va_cpy (σ 35) (σ (40 + t)) 0 0 m)) 36 t (σ 34 1)) 37 t (σ 34 3)) 38 t (σ 34 2)) := by
  refine MX.of2 RX2 (by decide) rfl ⟨rfl, rfl⟩ (Nat.le_of_ble_eq_true rfl) (by rfl) (fun k h hr hk => ?_)
  show XC B k σ 0 [some (.ref (aB B 78)), some (.int (nI t)), some (.ref (aB B 34))] []
  refine x_ald2 h dX2_put_0 ?_
  refine r_X2_29 h dX2_put_1 ?_
  refine x_iconst (v := 0) h dX2_put_4 rfl ?_
  refine x_ald0 h dX2_put_5 ?_
  refine r_X2_11 h dX2_put_6 ?_
  refine x_ild1 h dX2_put_9 ?_
  refine xc_aaldO (t := t) rfl ht h dX2_put_10 ?_
  refine x_iconst (v := 0) h dX2_put_11 rfl ?_
  refine x_ald2 h dX2_put_12 ?_
  refine r_X2_33 h dX2_put_13 ?_
  have hgo := hm
  refine xc_copy h 35 (40 + t) (⟨by decide, fun _ _ => rfl⟩ : ArrC 35 96) (arr_c ht) ul_X2_37 ⟨Nat.le_of_ble_eq_true rfl, Nat.le_of_ble_eq_true (by decide +kernel)⟩ (by decide) (by decide) (by rw [hm]; exact nI_n0 m (by omega)) (by rw [hm, nI_clamp (by omega)]; show 0 + m ≤ 96; omega) (by rw [hm, nI_clamp (by omega)]; show 0 + m ≤ 96; omega) dX2_put_16 ?_
  obtain ⟨σ1, e1, e34⟩ : ∃ σ1, σ1 = up1 σ (40 + t) (va_cpy (σ 35) (σ (40 + t)) 0 0 m) ∧ σ1 34 = σ 34 := ⟨_, rfl, up1_n (by omega)⟩
  rw [show (σ 34 1).toNatClampNeg = m by rw [hm, nI_clamp (by omega)]]
  change XC B k (up1 σ (40 + t) (va_cpy (σ 35) (σ (40 + t)) 0 0 m)) 19 _ _
  rw [← e1]
  refine x_ald0 h dX2_put_19 ?_
  refine r_X2_16 h dX2_put_20 ?_
  refine x_ild1 h dX2_put_23 ?_
  refine x_ald2 h dX2_put_24 ?_
  refine r_X2_33 h dX2_put_25 ?_
  refine xc_iastN (t) (rfl) (ht) (by decide) h 36 (⟨by decide, fun _ _ => rfl⟩ : ArrC 36 14) dX2_put_28 ?_
  refine x_ald0 h dX2_put_29 ?_
  refine r_X2_20 h dX2_put_30 ?_
  refine x_ild1 h dX2_put_33 ?_
  refine x_ald2 h dX2_put_34 ?_
  refine r_X2_43 h dX2_put_35 ?_
  refine xc_iastN (t) (rfl) (ht) (by decide) h 37 (⟨by decide, fun _ _ => rfl⟩ : ArrC 37 14) dX2_put_38 ?_
  refine x_ald0 h dX2_put_39 ?_
  refine r_X2_23 h dX2_put_40 ?_
  refine x_ild1 h dX2_put_43 ?_
  refine x_ald2 h dX2_put_44 ?_
  refine r_X2_46 h dX2_put_45 ?_
  refine xc_iastN (t) (rfl) (ht) (by decide) h 38 (⟨by decide, fun _ _ => rfl⟩ : ArrC 38 14) dX2_put_48 ?_
  refine x_vret h hr ?_ dX2_put_49
  refine ⟨_, rfl, rfl, ?_⟩
  show up2 (up2 (up2 σ1 36 t (σ1 34 1)) 37 t (σ1 34 3)) 38 t (σ1 34 2) = _
  rw [e34, e1]
/-! ways -/
def itL (h : HT) (x : Int32) : Nat → Int32
  | 0 => x
  | n + 1 => h 7 (ix (itL h x n))
theorem itL_rg {h : HT} (hi : HI h) {x : Int32} (hx : rg x 0 9) : ∀ n, rg (itL h x n) 0 9
  | 0 => hx
  | n + 1 => by
    have h1 := rg_ix (itL_rg hi hx n) (by omega)
    exact hi.leads (by omega)
/-- how many more rooms until r is met again, at most n -/
def rgL (h : HT) (r : Int32) : Nat → Int32 → Nat
  | 0, _ => 0
  | n + 1, x => if x = r then 0 else rgL h r n (h 7 (ix x)) + 1
def sRing (h : HT) (x : Int32) : Int32 := nI (rgL h (itL h x 10) 9 (h 7 (ix (itL h x 10))) + 1)
def wyL (h : HT) (g : Int32) : Nat → Nat → Int32 → Int32
  | 0, _, _ => -1000000005
  | n + 1, i, x => if x = g then nI i else wyL h g n (i + 1) (h 7 (ix x))
def sWays (h : HT) (x g : Int32) : Int32 := wyL h g 10 0 x
set_option maxRecDepth 100000 in
set_option maxHeartbeats 4000000 in
theorem c_X0_ringFrom (B : BT) {j : Nat} (hj : j < 3) (σ : Nat → Nat → Int32) (hh : HT) (hi : HI hh) (x : Int32) (hx : rg x 0 9) : CI B yX0_ringFrom cX0_ringFrom 5 (some .int) ({ frames := 0, cells := 0, slots := 0, locals := 0 }) [.ref (aB B (10 * j)), .int x] (sH σ j hh) (fun r σ' => r = sRing hh x ∧ σ' = sH σ j hh) := by
  refine MX.of2 RX0 (by decide) rfl ⟨rfl, rfl⟩ (Nat.le_of_ble_eq_true rfl) (by rfl) (fun k h hr hk => ?_)
  show XC B k (sH σ j hh) 0 [some (.ref (aB B (10 * j))), some (.int x), none, none, none] []
  have K23 : XC B k (sH σ j hh) 23 [some (.ref (aB B (10 * j))), some (.int x), some (.int (itL hh x 10)), some (.int 10), none] [] := by
    have loop : ∀ (f m i : Nat) (y : Int32), m < f → m + i = 10 → rg y 0 9 → rgL hh (itL hh x 10) 9 (hh 7 (ix (itL hh x 10))) + 1 = rgL hh (itL hh x 10) m y + i → XC B k (sH σ j hh) 33 [some (.ref (aB B (10 * j))), some (.int x), some (.int (itL hh x 10)), some (.int y), some (.int (nI i))] [] := by
      intro f
      induction f with
      | zero => intro m i y h1; omega
      | succ f ih =>
        intro m i y h1 h2 hy e1
        refine x_ild4 h dX0_ringFrom_33 ?_
        refine x_bipush (v := 10) h dX0_ringFrom_35 rfl ?_
        refine x_icmp_ge 58 h dX0_ringFrom_37 (by decide) (fun c37 => ?_) (fun c37 => ?_)
        · have c37 := n_le (a := 10) (by omega) (by omega) c37
          have ei : m = 0 := by omega
          subst ei
          refine x_ild4 h dX0_ringFrom_58 ?_
          refine x_iret h hr ?_ dX0_ringFrom_60
          refine ⟨_, _, rfl, rfl, ?_, rfl⟩
          unfold sRing
          rw [e1]
          first | rw [e2] | skip
          show nI i = nI (0 + i)
          rw [Nat.zero_add]
        · have c37 := n_nle (b := i) (a := 10) (by omega) (by omega) c37
          obtain ⟨m, rfl⟩ : ∃ m', m = m' + 1 := ⟨m - 1, by omega⟩
          refine x_ild3 h dX0_ringFrom_40 ?_
          refine x_ild2 h dX0_ringFrom_41 ?_
          refine x_icmp_eq 58 h dX0_ringFrom_42 (by decide) (fun c42 => ?_) (fun c42 => ?_)
          · have e2 : rgL hh (itL hh x 10) (m + 1) y = 0 := if_pos c42
            refine x_ild4 h dX0_ringFrom_58 ?_
            refine x_iret h hr ?_ dX0_ringFrom_60
            refine ⟨_, _, rfl, rfl, ?_, rfl⟩
            unfold sRing
            rw [e1]
            first | rw [e2] | skip
            show nI i = nI (0 + i)
            rw [Nat.zero_add]
          · have e2 : rgL hh (itL hh x 10) (m + 1) y = rgL hh (itL hh x 10) m (hh 7 (ix y)) + 1 := if_neg c42
            have hy' := rg_ix hy (by omega)
            refine x_ald0 h dX0_ringFrom_45 ?_
            refine r_X0_34 hj h dX0_ringFrom_46 ?_
            refine x_ild3 h dX0_ringFrom_49 ?_
            refine xh_iald h hj 7 (by decide) (by decide) (rg_in hy (by decide) (by decide)) dX0_ringFrom_50 ?_
            refine x_ist3 h dX0_ringFrom_51 (by rw [hk]; decide) rfl ?_
            refine x_inc4 (y := 1) h dX0_ringFrom_52 (by rw [hk]; decide) rfl rfl ?_
            refine x_goto 33 h dX0_ringFrom_55 (by decide) ?_
            rw [nI_1 i]
            exact ih m (i + 1) (hh 7 (ix y)) (by omega) (by omega) (hi.leads (by omega)) (by rw [e1, e2]; omega)
    have hr1 := rg_ix (itL_rg hi hx 10) (by omega)
    have loop := loop 10 9 1 (hh 7 (ix (itL hh x 10))) (by omega) (by omega) (hi.leads (by omega)) rfl
    refine x_ald0 h dX0_ringFrom_23 ?_
    refine r_X0_34 hj h dX0_ringFrom_24 ?_
    refine x_ild2 h dX0_ringFrom_27 ?_
    refine xh_iald h hj 7 (by decide) (by decide) (rg_in (itL_rg hi hx 10) (by decide) (by decide)) dX0_ringFrom_28 ?_
    refine x_ist3 h dX0_ringFrom_29 (by rw [hk]; decide) rfl ?_
    refine x_iconst (v := 1) h dX0_ringFrom_30 rfl ?_
    refine x_ist4 h dX0_ringFrom_31 (by rw [hk]; decide) rfl ?_
    exact loop
  have loop : ∀ (f i : Nat), 10 < f + i → i ≤ 10 → XC B k (sH σ j hh) 4 [some (.ref (aB B (10 * j))), some (.int x), some (.int (itL hh x i)), some (.int (nI i)), none] [] := by
    intro f
    induction f with
    | zero => intro i h1 h2; omega
    | succ f ih =>
      intro i h1 h2
      refine x_ild3 h dX0_ringFrom_4 ?_
      refine x_bipush (v := 10) h dX0_ringFrom_5 rfl ?_
      refine x_icmp_ge 23 h dX0_ringFrom_7 (by decide) (fun c7 => ?_) (fun c7 => ?_)
      · have c7 := n_le (a := 10) (by omega) (by omega) c7
        have ei : i = 10 := by omega
        subst ei
        exact K23
      · have c7 := n_nle (b := i) (a := 10) (by omega) (by omega) c7
        refine x_ald0 h dX0_ringFrom_10 ?_
        refine r_X0_34 hj h dX0_ringFrom_11 ?_
        refine x_ild2 h dX0_ringFrom_14 ?_
        refine xh_iald h hj 7 (by decide) (by decide) (rg_in (itL_rg hi hx i) (by decide) (by decide)) dX0_ringFrom_15 ?_
        refine x_ist2 h dX0_ringFrom_16 (by rw [hk]; decide) rfl ?_
        refine x_inc3 (y := 1) h dX0_ringFrom_17 (by rw [hk]; decide) rfl rfl ?_
        refine x_goto 4 h dX0_ringFrom_20 (by decide) ?_
        rw [nI_1 i]
        exact ih (i + 1) (by omega) (by omega)
  have loop := loop 11 0 (by omega) (by omega)
  refine x_ild1 h dX0_ringFrom_0 ?_
  refine x_ist2 h dX0_ringFrom_1 (by rw [hk]; decide) rfl ?_
  refine x_iconst (v := 0) h dX0_ringFrom_2 rfl ?_
  refine x_ist3 h dX0_ringFrom_3 (by rw [hk]; decide) rfl ?_
  exact loop
set_option maxRecDepth 100000 in
set_option maxHeartbeats 4000000 in
theorem c_X0_waysBetween (B : BT) {j : Nat} (hj : j < 3) (σ : Nat → Nat → Int32) (hh : HT) (hi : HI hh) (x g : Int32) (hx : rg x 0 9) : CI B yX0_waysBetween cX0_waysBetween 5 (some .int) ({ frames := 0, cells := 0, slots := 0, locals := 0 }) [.ref (aB B (10 * j)), .int x, .int g] (sH σ j hh) (fun r σ' => r = sWays hh x g ∧ σ' = sH σ j hh) := by
  refine MX.of2 RX0 (by decide) rfl ⟨rfl, rfl⟩ (Nat.le_of_ble_eq_true rfl) (by rfl) (fun k h hr hk => ?_)
  show XC B k (sH σ j hh) 0 [some (.ref (aB B (10 * j))), some (.int x), some (.int g), none, none] []
  have loop : ∀ (f m i : Nat) (y : Int32), m < f → m + i = 10 → rg y 0 9 → wyL hh g 10 0 x = wyL hh g m i y → XC B k (sH σ j hh) 5 [some (.ref (aB B (10 * j))), some (.int x), some (.int g), some (.int y), some (.int (nI i))] [] := by
    intro f
    induction f with
    | zero => intro m i y h1; omega
    | succ f ih =>
      intro m i y h1 h2 hy e1
      refine x_ild4 h dX0_waysBetween_5 ?_
      refine x_bipush (v := 10) h dX0_waysBetween_7 rfl ?_
      refine x_icmp_ge 33 h dX0_waysBetween_9 (by decide) (fun c9 => ?_) (fun c9 => ?_)
      · have c9 := n_le (a := 10) (by omega) (by omega) c9
        have ei : m = 0 := by omega
        subst ei
        refine x_ldc h kc_X0_128 dX0_waysBetween_33 ?_
        refine x_iret h hr ?_ dX0_waysBetween_35
        exact ⟨_, _, rfl, rfl, by unfold sWays; rw [e1]; rfl, rfl⟩
      · have c9 := n_nle (b := i) (a := 10) (by omega) (by omega) c9
        obtain ⟨m, rfl⟩ : ∃ m', m = m' + 1 := ⟨m - 1, by omega⟩
        refine x_ild3 h dX0_waysBetween_12 ?_
        refine x_ild2 h dX0_waysBetween_13 ?_
        refine x_icmp_ne 20 h dX0_waysBetween_14 (by decide) (fun c14 => ?_) (fun c14 => ?_)
        · have e2 : wyL hh g (m + 1) i y = wyL hh g m (i + 1) (hh 7 (ix y)) := if_neg c14
          have hy' := rg_ix hy (by omega)
          refine x_ald0 h dX0_waysBetween_20 ?_
          refine r_X0_34 hj h dX0_waysBetween_21 ?_
          refine x_ild3 h dX0_waysBetween_24 ?_
          refine xh_iald h hj 7 (by decide) (by decide) (rg_in hy (by decide) (by decide)) dX0_waysBetween_25 ?_
          refine x_ist3 h dX0_waysBetween_26 (by rw [hk]; decide) rfl ?_
          refine x_inc4 (y := 1) h dX0_waysBetween_27 (by rw [hk]; decide) rfl rfl ?_
          refine x_goto 5 h dX0_waysBetween_30 (by decide) ?_
          rw [nI_1 i]
          exact ih m (i + 1) (hh 7 (ix y)) (by omega) (by omega) (hi.leads (by omega)) (by rw [e1, e2])
        · have e2 : wyL hh g (m + 1) i y = nI i := if_pos c14
          refine x_ild4 h dX0_waysBetween_17 ?_
          refine x_iret h hr ?_ dX0_waysBetween_19
          exact ⟨_, _, rfl, rfl, by unfold sWays; rw [e1, e2], rfl⟩
  have loop := loop 11 10 0 x (by omega) (by omega) hx rfl
  refine x_ild1 h dX0_waysBetween_0 ?_
  refine x_ist3 h dX0_waysBetween_1 (by rw [hk]; decide) rfl ?_
  refine x_iconst (v := 0) h dX0_waysBetween_2 rfl ?_
  refine x_ist4 h dX0_waysBetween_3 (by rw [hk]; decide) rfl ?_
  exact loop
set_option maxRecDepth 100000 in
set_option maxHeartbeats 4000000 in
theorem c_X0_become (B : BT) {j : Nat} (hj : j < 3) {i : Nat} (hi : i < 3) (hij : i ≠ j) (σ : Nat → Nat → Int32) (hh : HT) : CV B yX0_become cX0_become 2 none ({ frames := 2, cells := 0, slots := 0, locals := 105 }) [.ref (aB B (10 * j)), .ref (aB B (10 * i))] (sH σ j hh) (fun σ' => σ' = sH σ j (hs σ i)) := by
  refine MX.of2 RX0 (by decide) rfl ⟨rfl, rfl⟩ (Nat.le_of_ble_eq_true rfl) (by rfl) (fun k h hr hk => ?_)
  show XC B k (sH σ j hh) 0 [some (.ref (aB B (10 * j))), some (.ref (aB B (10 * i)))] []
  refine x_ald0 h dX0_become_0 ?_
  refine x_ald1 h dX0_become_1 ?_
  refine r_X0_9 hi h dX0_become_2 ?_
  rw [sH_n0 hij]
  refine wh_X0_9 hj h dX0_become_5 ?_
  refine x_ald1 h dX0_become_8 ?_
  refine r_X0_15 hi h dX0_become_9 ?_
  refine x_iconst (v := 0) h dX0_become_12 rfl ?_
  refine x_ald0 h dX0_become_13 ?_
  refine r_X0_15 hj h dX0_become_14 ?_
  refine x_iconst (v := 0) h dX0_become_17 rfl ?_
  refine x_bipush (v := 12) h dX0_become_18 rfl ?_
  refine xh_copy (n := 12) h hi hj hij 1 (by decide) (by decide) rfl ul_X0_61 ⟨Nat.le_of_ble_eq_true rfl, Nat.le_of_ble_eq_true (by decide +kernel)⟩ dX0_become_20 ?_
  refine x_ald1 h dX0_become_23 ?_
  refine r_X0_19 hi h dX0_become_24 ?_
  refine x_iconst (v := 0) h dX0_become_27 rfl ?_
  refine x_ald0 h dX0_become_28 ?_
  refine r_X0_19 hj h dX0_become_29 ?_
  refine x_iconst (v := 0) h dX0_become_32 rfl ?_
  refine x_bipush (v := 12) h dX0_become_33 rfl ?_
  refine xh_copy (n := 12) h hi hj hij 2 (by decide) (by decide) rfl ul_X0_61 ⟨Nat.le_of_ble_eq_true rfl, Nat.le_of_ble_eq_true (by decide +kernel)⟩ dX0_become_35 ?_
  refine x_ald1 h dX0_become_38 ?_
  refine r_X0_22 hi h dX0_become_39 ?_
  refine x_iconst (v := 0) h dX0_become_42 rfl ?_
  refine x_ald0 h dX0_become_43 ?_
  refine r_X0_22 hj h dX0_become_44 ?_
  refine x_iconst (v := 0) h dX0_become_47 rfl ?_
  refine x_bipush (v := 12) h dX0_become_48 rfl ?_
  refine xh_copy (n := 12) h hi hj hij 3 (by decide) (by decide) rfl ul_X0_61 ⟨Nat.le_of_ble_eq_true rfl, Nat.le_of_ble_eq_true (by decide +kernel)⟩ dX0_become_50 ?_
  refine x_ald1 h dX0_become_53 ?_
  refine r_X0_25 hi h dX0_become_54 ?_
  refine x_iconst (v := 0) h dX0_become_57 rfl ?_
  refine x_ald0 h dX0_become_58 ?_
  refine r_X0_25 hj h dX0_become_59 ?_
  refine x_iconst (v := 0) h dX0_become_62 rfl ?_
  refine x_bipush (v := 12) h dX0_become_63 rfl ?_
  refine xh_copy (n := 12) h hi hj hij 4 (by decide) (by decide) rfl ul_X0_61 ⟨Nat.le_of_ble_eq_true rfl, Nat.le_of_ble_eq_true (by decide +kernel)⟩ dX0_become_65 ?_
  refine x_ald1 h dX0_become_68 ?_
  refine r_X0_28 hi h dX0_become_69 ?_
  refine x_iconst (v := 0) h dX0_become_72 rfl ?_
  refine x_ald0 h dX0_become_73 ?_
  refine r_X0_28 hj h dX0_become_74 ?_
  refine x_iconst (v := 0) h dX0_become_77 rfl ?_
  refine x_bipush (v := 12) h dX0_become_78 rfl ?_
  refine xh_copy (n := 12) h hi hj hij 5 (by decide) (by decide) rfl ul_X0_61 ⟨Nat.le_of_ble_eq_true rfl, Nat.le_of_ble_eq_true (by decide +kernel)⟩ dX0_become_80 ?_
  refine x_ald1 h dX0_become_83 ?_
  refine r_X0_31 hi h dX0_become_84 ?_
  refine x_iconst (v := 0) h dX0_become_87 rfl ?_
  refine x_ald0 h dX0_become_88 ?_
  refine r_X0_31 hj h dX0_become_89 ?_
  refine x_iconst (v := 0) h dX0_become_92 rfl ?_
  refine x_bipush (v := 10) h dX0_become_93 rfl ?_
  refine xh_copy (n := 10) h hi hj hij 6 (by decide) (by decide) rfl ul_X0_61 ⟨Nat.le_of_ble_eq_true rfl, Nat.le_of_ble_eq_true (by decide +kernel)⟩ dX0_become_95 ?_
  refine x_ald1 h dX0_become_98 ?_
  refine r_X0_34 hi h dX0_become_99 ?_
  refine x_iconst (v := 0) h dX0_become_102 rfl ?_
  refine x_ald0 h dX0_become_103 ?_
  refine r_X0_34 hj h dX0_become_104 ?_
  refine x_iconst (v := 0) h dX0_become_107 rfl ?_
  refine x_bipush (v := 10) h dX0_become_108 rfl ?_
  refine xh_copy (n := 10) h hi hj hij 7 (by decide) (by decide) rfl ul_X0_61 ⟨Nat.le_of_ble_eq_true rfl, Nat.le_of_ble_eq_true (by decide +kernel)⟩ dX0_become_110 ?_
  refine x_ald1 h dX0_become_113 ?_
  refine r_X0_37 hi h dX0_become_114 ?_
  refine x_iconst (v := 0) h dX0_become_117 rfl ?_
  refine x_ald0 h dX0_become_118 ?_
  refine r_X0_37 hj h dX0_become_119 ?_
  refine x_iconst (v := 0) h dX0_become_122 rfl ?_
  refine x_bipush (v := 10) h dX0_become_123 rfl ?_
  refine xh_copy (n := 10) h hi hj hij 8 (by decide) (by decide) rfl ul_X0_61 ⟨Nat.le_of_ble_eq_true rfl, Nat.le_of_ble_eq_true (by decide +kernel)⟩ dX0_become_125 ?_
  refine x_ald0 h dX0_become_128 ?_
  refine x_ald1 h dX0_become_129 ?_
  refine r_X0_40 hi h dX0_become_130 ?_
  rw [sH_n0 hij]
  refine wh_X0_40 hj h dX0_become_133 ?_
  refine x_ald0 h dX0_become_136 ?_
  refine x_ald1 h dX0_become_137 ?_
  refine r_X0_43 hi h dX0_become_138 ?_
  rw [sH_n0 hij]
  refine wh_X0_43 hj h dX0_become_141 ?_
  refine x_ald0 h dX0_become_144 ?_
  refine x_ald1 h dX0_become_145 ?_
  refine r_X0_46 hi h dX0_become_146 ?_
  rw [sH_n0 hij]
  refine wh_X0_46 hj h dX0_become_149 ?_
  refine x_ald0 h dX0_become_152 ?_
  refine x_ald1 h dX0_become_153 ?_
  refine r_X0_49 hi h dX0_become_154 ?_
  rw [sH_n0 hij]
  refine wh_X0_49 hj h dX0_become_157 ?_
  refine x_ald0 h dX0_become_160 ?_
  refine x_ald1 h dX0_become_161 ?_
  refine r_X0_52 hi h dX0_become_162 ?_
  rw [sH_n0 hij]
  refine wh_X0_52 hj h dX0_become_165 ?_
  refine x_ald0 h dX0_become_168 ?_
  refine x_ald1 h dX0_become_169 ?_
  refine r_X0_55 hi h dX0_become_170 ?_
  rw [sH_n0 hij]
  refine wh_X0_55 hj h dX0_become_173 ?_
  refine x_ald1 h dX0_become_176 ?_
  refine r_X0_58 hi h dX0_become_177 ?_
  refine x_iconst (v := 0) h dX0_become_180 rfl ?_
  refine x_ald0 h dX0_become_181 ?_
  refine r_X0_58 hj h dX0_become_182 ?_
  refine x_iconst (v := 0) h dX0_become_185 rfl ?_
  refine x_iconst (v := 3) h dX0_become_186 rfl ?_
  refine xh_copy (n := 3) h hi hj hij 9 (by decide) (by decide) rfl ul_X0_61 ⟨Nat.le_of_ble_eq_true rfl, Nat.le_of_ble_eq_true (by decide +kernel)⟩ dX0_become_187 ?_
  refine xc_sameC (σ' := sH σ j (hs σ i)) (fun q => ?_) ?_
  · by_cases hq : 10 * j ≤ q ∧ q < 10 * j + 10
    · obtain ⟨f, rfl⟩ : ∃ f, q = 10 * j + f := ⟨q - 10 * j, by omega⟩
      rw [sH_at (by omega), sH_at (by omega)]
      have hf : f < 10 := by omega
      unfold hs
      rcases f with _ | _ | _ | _ | _ | _ | _ | _ | _ | _ | f
      · rcases three hj with rfl | rfl | rfl <;> rfl
      all_goals first | rfl | omega
    · unfold sH
      rw [if_neg hq, if_neg hq]
  refine x_vret h hr ?_ dX0_become_190
  exact ⟨_, rfl, rfl, rfl⟩
set_option maxRecDepth 100000 in
set_option maxHeartbeats 4000000 in
theorem c_X4_isMissing (B : BT) {r : Nat} (hr9 : r < 9) (σ : Nat → Nat → Int32) : CI B yX4_isMissing cX4_isMissing 1 (some .boolean) ({ frames := 0, cells := 0, slots := 0, locals := 0 }) [.ref (aB B (54 + 2 * r))] σ (fun v σ' => v = bI (σ (54 + 2 * r) 0 = -1) ∧ σ' = σ) := by
  refine MX.of2 RX4 (by decide) rfl ⟨rfl, rfl⟩ (Nat.le_of_ble_eq_true rfl) (by rfl) (fun k h hr hk => ?_)
  show XC B k σ 0 [some (.ref (aB B (54 + 2 * r)))] []
  refine x_ald0 h dX4_isMissing_0 ?_
  refine r_X4_9 (j := r) hr9 h dX4_isMissing_1 ?_
  refine x_iconst (v := (-1)) h dX4_isMissing_4 rfl ?_
  refine x_icmp_ne 12 h dX4_isMissing_5 (by decide) (fun c5 => ?_) (fun c5 => ?_)
  · refine x_iconst (v := 0) h dX4_isMissing_12 rfl ?_
    refine x_zret h hr (by decide) ?_ dX4_isMissing_13
    exact ⟨_, _, rfl, rfl, bI_e (by simp_all), rfl⟩
  · refine x_iconst (v := 1) h dX4_isMissing_8 rfl ?_
    refine x_goto 13 h dX4_isMissing_9 (by decide) ?_
    refine x_zret h hr (by decide) ?_ dX4_isMissing_13
    exact ⟨_, _, rfl, rfl, bI_e (by simp_all), rfl⟩
set_option maxRecDepth 100000 in
set_option maxHeartbeats 4000000 in
theorem c_X4_isNumber (B : BT) {r : Nat} (hr9 : r < 9) (σ : Nat → Nat → Int32) (p : Nat) (hp : p < 24) : CI B yX4_isNumber cX4_isNumber 2 (some .boolean) ({ frames := 0, cells := 0, slots := 0, locals := 0 }) [.ref (aB B (54 + 2 * r)), .int (nI p)] σ (fun v σ' => v = bI (¬ σ (54 + 2 * r + 1) p = -1000000005) ∧ σ' = σ) := by
  refine MX.of2 RX4 (by decide) rfl ⟨rfl, rfl⟩ (Nat.le_of_ble_eq_true rfl) (by rfl) (fun k h hr hk => ?_)
  show XC B k σ 0 [some (.ref (aB B (54 + 2 * r))), some (.int (nI p))] []
  refine x_ald0 h dX4_isNumber_0 ?_
  refine r_X4_18 (j := r) hr9 h dX4_isNumber_1 ?_
  refine x_ild1 h dX4_isNumber_4 ?_
  refine xc_ialdN (p) (rfl) (hp) (by decide) h (54 + 2 * r + 1) (arr_r hr9) dX4_isNumber_5 ?_
  refine x_ldc h kc_X4_22 dX4_isNumber_6 ?_
  refine x_icmp_eq 15 h dX4_isNumber_8 (by decide) (fun c8 => ?_) (fun c8 => ?_)
  · refine x_iconst (v := 0) h dX4_isNumber_15 rfl ?_
    refine x_zret h hr (by decide) ?_ dX4_isNumber_16
    exact ⟨_, _, rfl, rfl, bI_e (by simp_all), rfl⟩
  · refine x_iconst (v := 1) h dX4_isNumber_11 rfl ?_
    refine x_goto 16 h dX4_isNumber_12 (by decide) ?_
    refine x_zret h hr (by decide) ?_ dX4_isNumber_16
    exact ⟨_, _, rfl, rfl, bI_e (by simp_all), rfl⟩
set_option maxRecDepth 100000 in
set_option maxHeartbeats 4000000 in
theorem c_X4_hasPlaces (B : BT) {r : Nat} (hr9 : r < 9) (σ : Nat → Nat → Int32) (x y : Int32) : CI B yX4_hasPlaces cX4_hasPlaces 3 (some .boolean) ({ frames := 0, cells := 0, slots := 0, locals := 0 }) [.ref (aB B (54 + 2 * r)), .int x, .int y] σ (fun v σ' => v = bI (¬ x < 0 ∧ ¬ y < 0 ∧ ¬ σ (54 + 2 * r) 1 - x < y) ∧ σ' = σ) := by
  refine MX.of2 RX4 (by decide) rfl ⟨rfl, rfl⟩ (Nat.le_of_ble_eq_true rfl) (by rfl) (fun k h hr hk => ?_)
  show XC B k σ 0 [some (.ref (aB B (54 + 2 * r))), some (.int x), some (.int y)] []
  refine x_ild1 h dX4_hasPlaces_0 ?_
  refine x_if_lt 22 h dX4_hasPlaces_1 (by decide) (fun c1 => ?_) (fun c1 => ?_)
  · refine x_iconst (v := 0) h dX4_hasPlaces_22 rfl ?_
    refine x_zret h hr (by decide) ?_ dX4_hasPlaces_23
    exact ⟨_, _, rfl, rfl, bI_e (by simp_all), rfl⟩
  · refine x_ild2 h dX4_hasPlaces_4 ?_
    refine x_if_lt 22 h dX4_hasPlaces_5 (by decide) (fun c5 => ?_) (fun c5 => ?_)
    · refine x_iconst (v := 0) h dX4_hasPlaces_22 rfl ?_
      refine x_zret h hr (by decide) ?_ dX4_hasPlaces_23
      exact ⟨_, _, rfl, rfl, bI_e (by simp_all), rfl⟩
    · refine x_ild2 h dX4_hasPlaces_8 ?_
      refine x_ald0 h dX4_hasPlaces_9 ?_
      refine r_X4_15 (j := r) hr9 h dX4_hasPlaces_10 ?_
      refine x_ild1 h dX4_hasPlaces_13 ?_
      refine x_isub h dX4_hasPlaces_14 ?_
      refine x_icmp_gt 22 h dX4_hasPlaces_15 (by decide) (fun c15 => ?_) (fun c15 => ?_)
      · refine x_iconst (v := 0) h dX4_hasPlaces_22 rfl ?_
        refine x_zret h hr (by decide) ?_ dX4_hasPlaces_23
        exact ⟨_, _, rfl, rfl, bI_e (by simp_all), rfl⟩
      · refine x_iconst (v := 1) h dX4_hasPlaces_18 rfl ?_
        refine x_goto 23 h dX4_hasPlaces_19 (by decide) ?_
        refine x_zret h hr (by decide) ?_ dX4_hasPlaces_23
        exact ⟨_, _, rfl, rfl, bI_e (by simp_all), rfl⟩
set_option maxRecDepth 100000 in
set_option maxHeartbeats 4000000 in
theorem c_X4_becomeZeros (B : BT) {r : Nat} (hr9 : r < 9) (σ : Nat → Nat → Int32) (s n : Int32) : CV B yX4_becomeZeros cX4_becomeZeros 4 none ({ frames := 0, cells := 0, slots := 0, locals := 0 }) [.ref (aB B (54 + 2 * r)), .int s, .int n] σ (fun σ' => σ' = up1 (up2 (up2 σ (54 + 2 * r) 0 s) (54 + 2 * r) 1 n) (54 + 2 * r + 1) (fun _ => 0)) := by
  refine MX.of2 RX4 (by decide) rfl ⟨rfl, rfl⟩ (Nat.le_of_ble_eq_true rfl) (by rfl) (fun k h hr hk => ?_)
  show XC B k σ 0 [some (.ref (aB B (54 + 2 * r))), some (.int s), some (.int n), none] []
  have loop : ∀ (f i : Nat), 24 < f + i → i ≤ 24 → XC B k (up1 (up2 (up2 σ (54 + 2 * r) 0 s) (54 + 2 * r) 1 n) (54 + 2 * r + 1) (fun e => if e < i then 0 else σ (54 + 2 * r + 1) e)) 12 [some (.ref (aB B (54 + 2 * r))), some (.int s), some (.int n), some (.int (nI i))] [] := by
    intro f
    induction f with
    | zero => intro i h1 h2; omega
    | succ f ih =>
      intro i h1 h2
      refine x_ild3 h dX4_becomeZeros_12 ?_
      refine x_bipush (v := 24) h dX4_becomeZeros_13 rfl ?_
      refine x_icmp_ge 31 h dX4_becomeZeros_15 (by decide) (fun c15 => ?_) (fun c15 => ?_)
      · have c15 := n_le (a := 24) (by omega) (by omega) c15
        have ei : i = 24 := by omega
        subst ei
        refine xc_same1 (g := fun _ => 0) (arr_r hr9) (fun e he => if_pos he) ?_
        refine x_vret h hr ?_ dX4_becomeZeros_31
        exact ⟨_, rfl, rfl, rfl⟩
      · have c15 := n_nle (b := i) (a := 24) (by omega) (by omega) c15
        refine x_ald0 h dX4_becomeZeros_18 ?_
        refine r_X4_18 (j := r) hr9 h dX4_becomeZeros_19 ?_
        refine x_ild3 h dX4_becomeZeros_22 ?_
        refine x_iconst (v := 0) h dX4_becomeZeros_23 rfl ?_
        refine xc_iastN (i) (rfl) (by omega) (by decide) h (54 + 2 * r + 1) (arr_r hr9) dX4_becomeZeros_24 ?_
        refine x_inc3 (y := 1) h dX4_becomeZeros_25 (by rw [hk]; decide) rfl rfl ?_
        refine x_goto 12 h dX4_becomeZeros_28 (by decide) ?_
        rw [nI_1 i, up1_up2, up1_s, up1_up1, show upd (fun e => if e < i then 0 else σ (54 + 2 * r + 1) e) i 0 = (fun e => if e < i + 1 then 0 else σ (54 + 2 * r + 1) e) by
          funext e
          unfold upd
          by_cases q : e = i
          · rw [if_pos q, if_pos (by omega)]
          · rw [if_neg q]
            show (if e < i then 0 else σ (54 + 2 * r + 1) e) = _
            by_cases q2 : e < i
            · rw [if_pos q2, if_pos (by omega)]
            · rw [if_neg q2, if_neg (by omega)]]
        exact ih (i + 1) (by omega) (by omega)
  have loop := loop 25 0 (by omega) (by omega)
  rw [show (fun e => if e < 0 then 0 else σ (54 + 2 * r + 1) e) = (up2 (up2 σ (54 + 2 * r) 0 s) (54 + 2 * r) 1 n) (54 + 2 * r + 1) by
    rw [up2_n (by omega), up2_n (by omega)]
    funext e
    exact if_neg (Nat.not_lt_zero e), up1_self] at loop
  refine x_ald0 h dX4_becomeZeros_0 ?_
  refine x_ild1 h dX4_becomeZeros_1 ?_
  refine w_X4_9 (j := r) hr9 h dX4_becomeZeros_2 ?_
  refine x_ald0 h dX4_becomeZeros_5 ?_
  refine x_ild2 h dX4_becomeZeros_6 ?_
  refine w_X4_15 (j := r) hr9 h dX4_becomeZeros_7 ?_
  refine x_iconst (v := 0) h dX4_becomeZeros_10 rfl ?_
  refine x_ist3 h dX4_becomeZeros_11 (by rw [hk]; decide) rfl ?_
  exact loop
set_option maxRecDepth 100000 in
set_option maxHeartbeats 4000000 in
theorem c_X4_become (B : BT) {r s : Nat} (hr9 : r < 9) (hs9 : s < 9) (hrs : s ≠ r) (σ : Nat → Nat → Int32) : CV B yX4_become cX4_become 2 none ({ frames := 2, cells := 0, slots := 0, locals := 105 }) [.ref (aB B (54 + 2 * r)), .ref (aB B (54 + 2 * s))] σ (fun σ' => σ' = up1 (up2 (up2 σ (54 + 2 * r) 0 (σ (54 + 2 * s) 0)) (54 + 2 * r) 1 (σ (54 + 2 * s) 1)) (54 + 2 * r + 1) (σ (54 + 2 * s + 1))) := by
  refine MX.of2 RX4 (by decide) rfl ⟨rfl, rfl⟩ (Nat.le_of_ble_eq_true rfl) (by rfl) (fun k h hr hk => ?_)
  show XC B k σ 0 [some (.ref (aB B (54 + 2 * r))), some (.ref (aB B (54 + 2 * s)))] []
  refine x_ald0 h dX4_become_0 ?_
  refine x_ald1 h dX4_become_1 ?_
  refine r_X4_9 (j := s) hs9 h dX4_become_2 ?_
  refine w_X4_9 (j := r) hr9 h dX4_become_5 ?_
  refine x_ald0 h dX4_become_8 ?_
  refine x_ald1 h dX4_become_9 ?_
  refine r_X4_15 (j := s) hs9 h dX4_become_10 ?_
  rw [up2_n (by omega)]
  refine w_X4_15 (j := r) hr9 h dX4_become_13 ?_
  refine x_ald1 h dX4_become_16 ?_
  refine r_X4_18 (j := s) hs9 h dX4_become_17 ?_
  refine x_iconst (v := 0) h dX4_become_20 rfl ?_
  refine x_ald0 h dX4_become_21 ?_
  refine r_X4_18 (j := r) hr9 h dX4_become_22 ?_
  refine x_iconst (v := 0) h dX4_become_25 rfl ?_
  refine x_bipush (v := 24) h dX4_become_26 rfl ?_
  refine xc_copyF (n := 24) h _ _ (arr_r hs9) (arr_r hr9) (by decide) ul_X4_23 ⟨Nat.le_of_ble_eq_true rfl, Nat.le_of_ble_eq_true (by decide +kernel)⟩ dX4_become_28 ?_
  refine x_vret h hr ?_ dX4_become_31
  refine ⟨_, rfl, rfl, ?_⟩
  rw [up2_n (by omega), up2_n (by omega)]
theorem in_of {x : Int32} {n : Nat} (hn : n < 2 ^ 31) (h0 : ¬ x < 0) (h1 : ¬ nI n ≤ x) : ∃ t, t < n ∧ x = nI t := by
  obtain ⟨j, hj, rfl⟩ := nI_of h0
  exact ⟨j, by have := n_nle hn hj h1; omega, rfl⟩
set_option maxRecDepth 100000 in
set_option maxHeartbeats 4000000 in
theorem c_X7_sheetOf (B : BT) (σ : Nat → Nat → Int32) (x : Int32) : CR B yX7_sheetOf cX7_sheetOf 2 (some (.object "SoleWear$Row")) ({ frames := 0, cells := 0, slots := 0, locals := 0 }) [.ref (aB B 30), .int x] σ (fun v σ' => σ' = σ ∧ ((∃ t, t < 4 ∧ x = nI t ∧ v = .ref (aB B (54 + 2 * t))) ∨ (¬ (¬ x < 0 ∧ ¬ 4 ≤ x) ∧ v = .null))) := by
  refine MX.of2 RX7 (by decide) rfl ⟨rfl, rfl⟩ (Nat.le_of_ble_eq_true rfl) (by rfl) (fun k h hr hk => ?_)
  show XC B k σ 0 [some (.ref (aB B 30)), some (.int x)] []
  refine x_ild1 h dX7_sheetOf_0 ?_
  refine x_if_lt 18 h dX7_sheetOf_1 (by decide) (fun c1 => ?_) (fun c1 => ?_)
  · refine x_null h dX7_sheetOf_18 ?_
    refine x_aret h hr (by first | exact Or.inl rfl | exact Or.inr ⟨_, rfl⟩) ?_ dX7_sheetOf_19
    refine ⟨_, _, rfl, rfl, rfl, Or.inr ⟨?_, rfl⟩⟩
    first | exact fun z => z.1 c1 | exact fun z => z.2 c6
  · refine x_ild1 h dX7_sheetOf_4 ?_
    refine x_iconst (v := 4) h dX7_sheetOf_5 rfl ?_
    refine x_icmp_ge 18 h dX7_sheetOf_6 (by decide) (fun c6 => ?_) (fun c6 => ?_)
    · skip
      refine x_null h dX7_sheetOf_18 ?_
      refine x_aret h hr (by first | exact Or.inl rfl | exact Or.inr ⟨_, rfl⟩) ?_ dX7_sheetOf_19
      refine ⟨_, _, rfl, rfl, rfl, Or.inr ⟨?_, rfl⟩⟩
      first | exact fun z => z.1 c1 | exact fun z => z.2 c6
    · obtain ⟨t, ht, rfl⟩ := in_of (n := 4) (by decide) c1 c6
      refine x_ald0 h dX7_sheetOf_9 ?_
      refine r_X7_53 h dX7_sheetOf_10 ?_
      refine x_ild1 h dX7_sheetOf_13 ?_
      refine xc_aaldR (t := t) rfl ht h dX7_sheetOf_14 ?_
      refine x_goto 19 h dX7_sheetOf_15 (by decide) ?_
      refine x_aret h hr (by first | exact Or.inl rfl | exact Or.inr ⟨_, rfl⟩) ?_ dX7_sheetOf_19
      refine ⟨_, _, rfl, rfl, rfl, Or.inl ⟨t, ht, rfl, rfl⟩⟩
set_option maxRecDepth 100000 in
set_option maxHeartbeats 4000000 in
theorem c_X7_slotOf (B : BT) (σ : Nat → Nat → Int32) (x : Int32) : CR B yX7_slotOf cX7_slotOf 2 (some (.object "SoleWear$Slot")) ({ frames := 0, cells := 0, slots := 0, locals := 0 }) [.ref (aB B 30), .int x] σ (fun v σ' => σ' = σ ∧ ((∃ t, t < 5 ∧ x = nI t ∧ v = .ref (aB B (72 + t))) ∨ (¬ (¬ x < 0 ∧ ¬ 5 ≤ x) ∧ v = .null))) := by
  refine MX.of2 RX7 (by decide) rfl ⟨rfl, rfl⟩ (Nat.le_of_ble_eq_true rfl) (by rfl) (fun k h hr hk => ?_)
  show XC B k σ 0 [some (.ref (aB B 30)), some (.int x)] []
  refine x_ild1 h dX7_slotOf_0 ?_
  refine x_if_lt 18 h dX7_slotOf_1 (by decide) (fun c1 => ?_) (fun c1 => ?_)
  · refine x_null h dX7_slotOf_18 ?_
    refine x_aret h hr (by first | exact Or.inl rfl | exact Or.inr ⟨_, rfl⟩) ?_ dX7_slotOf_19
    refine ⟨_, _, rfl, rfl, rfl, Or.inr ⟨?_, rfl⟩⟩
    first | exact fun z => z.1 c1 | exact fun z => z.2 c6
  · refine x_ild1 h dX7_slotOf_4 ?_
    refine x_iconst (v := 5) h dX7_slotOf_5 rfl ?_
    refine x_icmp_ge 18 h dX7_slotOf_6 (by decide) (fun c6 => ?_) (fun c6 => ?_)
    · skip
      refine x_null h dX7_slotOf_18 ?_
      refine x_aret h hr (by first | exact Or.inl rfl | exact Or.inr ⟨_, rfl⟩) ?_ dX7_slotOf_19
      refine ⟨_, _, rfl, rfl, rfl, Or.inr ⟨?_, rfl⟩⟩
      first | exact fun z => z.1 c1 | exact fun z => z.2 c6
    · obtain ⟨t, ht, rfl⟩ := in_of (n := 5) (by decide) c1 c6
      refine x_ald0 h dX7_slotOf_9 ?_
      refine r_X7_59 h dX7_slotOf_10 ?_
      refine x_ild1 h dX7_slotOf_13 ?_
      refine xc_aaldS (t := t) rfl ht h dX7_slotOf_14 ?_
      refine x_goto 19 h dX7_slotOf_15 (by decide) ?_
      refine x_aret h hr (by first | exact Or.inl rfl | exact Or.inr ⟨_, rfl⟩) ?_ dX7_slotOf_19
      refine ⟨_, _, rfl, rfl, rfl, Or.inl ⟨t, ht, rfl, rfl⟩⟩
