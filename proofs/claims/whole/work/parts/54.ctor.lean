/-! CONSTRUCTORS: a judgement Y over a world that is a list, which grows; cells and slots are counted -/
abbrev ET : Type := Launch × va_G × (Nat → ClassId)
/-- the words that do not stay good by themselves: nest mates' links, arrays over known classes -/
def va_AA (U : State) : Prop := (Cond.arrayOver (.array .int)).before #[] U = true
theorem va_AA.moved {u U : State} (hvm : u.vm.Alike U.vm) (h : va_AA u) : va_AA U := arrayOver_alikeB hvm h
def NU (U : State) : Prop := va_Nw (.methodLinkNest RX7 32 yX6_init RX7) U ∧ va_Nw (.methodLinkNest RX7 39 yX3_init RX7) U ∧ va_Nw (.methodLinkNest RX7 46 yX2_init RX7) U ∧ va_Nw (.methodLinkNest RX7 70 yX4_init RX7) U ∧ va_Nw (.methodLinkNest RX7 71 yX5_init RX7) U ∧ va_Nw (.methodLinkNest RX5 26 yX4_init RX7) U ∧ va_AO RX4 U ∧ va_AO RX5 U ∧ va_AA U
theorem NU.warm {s U : State} (hW : s.WarmedH U.vm) (h : NU s) : NU U := by
  obtain ⟨h1, h2, h3, h4, h5, h6, h7, h8, h9⟩ := h
  exact ⟨va_Nw.warmM hW h1, va_Nw.warmM hW h2, va_Nw.warmM hW h3, va_Nw.warmM hW h4, va_Nw.warmM hW h5, va_Nw.warmM hW h6, h7.moved hW.alike, h8.moved hW.alike, h9.moved hW.alike⟩
theorem NU.calling {U : State} {g : JFrame} {mk : MethodId} {x : Array Value} (h : NU U) : NU (U.calling g mk x) := by
  obtain ⟨h1, h2, h3, h4, h5, h6, h7, h8, h9⟩ := h
  have e : U.vm = (U.calling g mk x).vm := rfl
  exact ⟨va_Nw.same rfl e h1, va_Nw.same rfl e h2, va_Nw.same rfl e h3, va_Nw.same rfl e h4, va_Nw.same rfl e h5, va_Nw.same rfl e h6, va_AO.moved (u := U) (U := U.calling g mk x) (Vm.Alike.refl U.vm) h7, va_AO.moved (u := U) (U := U.calling g mk x) (Vm.Alike.refl U.vm) h8, va_AA.moved (u := U) (U := U.calling g mk x) (Vm.Alike.refl U.vm) h9⟩
def Y (E : ET) (k : KT) (ws : va_W) (cl sl : Nat) (pc : Nat) (L : List (Option Value)) (st : List Value) : Prop :=
  ∀ (H : Heap) (locs : List Loc) (ls : Array Slot), va_P E.2.1 vwCl ws H → va_D (kA k) ws → va_S (kA k) (ks k).heap H locs → lh ls (kL k) L →
    W (kp k) E.1 (ke k) (kR k) (ks k) (km k) (kar k) (kb k) (kme k) (kc k) H locs cl sl (kQ k) (F0 (km k) pc ls st)
def OkY (E : ET) (k : KT) (cc : ByteArray) (own : String) (rm : Room) : Prop :=
  (kp k).tables.exec = Jvm.exec ∧ (kc k).code = cc ∧ (kc k).maxLocals = (kL k) ∧ (ks k).vm.findClass own = some (km k).cls ∧ (∀ w ∈ UW, w.before (kar k) (ks k) = true) ∧ va_K E.2.1 vwCl (tysG E.2.2) (ks k) ∧ (∀ q : Nat, (ks k).heap.size ≤ q → kA k q) ∧ kR k = rm ∧ NU (ks k)
def BY (E : ET) (ws0 : va_W) (sz : Nat) : va_W → State → Prop := fun w1 t => va_P E.2.1 vwCl w1 t.heap ∧ va_K E.2.1 vwCl (tysG E.2.2) t ∧ va_D (va_A ws0 sz) w1
def NP (E : ET) (a0 : Nat) (e0 : va_E) (sz : Nat) : Array Value → State → Prop := va_Pc [.ref a0] (fun U => U.heap.size = sz ∧ va_P E.2.1 vwCl [(a0, e0)] U.heap ∧ va_K E.2.1 vwCl (tysG E.2.2) U ∧ va_D (fun _ => True) [(a0, e0)] ∧ NU U)
/-- a constructor's contract: the object alone becomes the list of its cells -/
def NX (E : ET) (y : MethodName) (cc : ByteArray) (nL : Nat) (rm : Room) (mc ms : Nat) (e0 : va_E) (P : Nat → va_W → Prop) : Prop :=
  ∀ a0 sz : Nat, Met E.1 y (.code y cc nL none :: UW) rm (NP E a0 e0 sz) (va_Qv (P a0) (BY E [(a0, e0)] sz) (va_A [(a0, e0)] sz)) mc ms (va_A [(a0, e0)] sz)
def RetY (E : ET) (k : KT) (mc ms : Nat) (P : va_W → Prop) : Prop :=
  (kme k).sig.returnType = none ∧ (kme k).locks = false ∧ (kme k).name = "<init>" ∧ ∃ ws0 sz, kA k = va_A ws0 sz ∧ sz = (ks k).heap.size ∧ kQ k = MQ (kb k) (va_Qv P (BY E ws0 sz) (va_A ws0 sz)) (kar k) (ks k) mc ms (va_A ws0 sz)
theorem NX.of {E : ET} {y : MethodName} {cc : ByteArray} {nL : Nat} {rm : Room} {mc ms : Nat} {e0 : va_E} {P : Nat → va_W → Prop} (own : String) (hy : plainName y.cls = true) (hown : y.cls = own) (hnm : y.name = "<init>") (hlen : 1 ≤ nL)
    (body : ∀ (k : KT) (a0 : Nat), OkY E k cc own rm → RetY E k mc ms (P a0) → kL k = nL → Y E k [(a0, e0)] 0 0 0 (eL [.ref a0] nL) []) : NX E y cc nL rm mc ms e0 P := by
  intro a0 sz
  refine Met.ofW (cc := cc) (maxL := nL) (ret := none) hy rfl ?_
  intro p e s m args below meth c s₁ B hml hv
  obtain ⟨rfl, hsz, hP, hK, hD0, hN⟩ := hv
  have hcat' : ∀ w ∈ [Value.ref a0], w.category ≠ 2 := fun w hw => by rw [List.mem_singleton.mp hw]; exact (show (1 : Nat) ≠ 2 by decide)
  have hts := atoms_spec (ws := .code y cc nL none :: UW) B.pre
  have hown' : s.vm.findClass own = some m.cls := hown ▸ findClass_of_methodNamed B.named
  have hin : meth.name = "<init>" := (name_of_methodNamed B.named B.method).1.trans hnm
  subst hsz
  have hl := lv_entry [Value.ref a0] (n := nL) (by rw [lg_sl_1 _ hcat']; exact hlen)
  rw [lg_entry_eq]
  generalize (lg_sl [Value.ref a0] ++ List.replicate (nL - (lg_sl [Value.ref a0]).length) Slot.unset).toArray = ls at hl ⊢
  exact body (p, e, s, m, #[Value.ref a0], below, meth, c, MQ below (va_Qv (P a0) (BY E [(a0, e0)] s.heap.size) (va_A [(a0, e0)] s.heap.size)) #[Value.ref a0] s mc ms (va_A [(a0, e0)] s.heap.size), va_A [(a0, e0)] s.heap.size, nL, rm, 0, 0) a0
    ⟨B.exec, B.bytes, hml, hown', fun w hw => hts w (List.mem_cons_of_mem _ hw), hK, fun q h => Or.inr h, rfl, hN⟩
    ⟨B.returns, B.notSynchronized, hin, [(a0, e0)], s.heap.size, rfl, rfl, rfl⟩ rfl s.heap [] ls hP hD0.self va_S.rf
    (lh_of hl (fun i v hv => by have := lv_args_at [Value.ref a0] 0 i v hcat' (eL_in hv); rwa [Nat.zero_add] at this))
section YR
variable {E : ET} {k : KT} {cc : ByteArray} {own : String} {rm : Room} {ws : va_W} {cl sl pc : Nat} {L : List (Option Value)} {st : List Value}
theorem y_iconst {n : Int} {v : Int32} (h : OkY E k cc own rm) (hdg : decode cc pc = .ok (.iconst n, 1)) (hv : Int32.ofInt n = v) (kk : Y E k ws cl sl (pc + 1) L (.int v :: st)) : Y E k ws cl sl pc L st := fun H locs ls hP hD hS hl => lv_iconst h.1 h.2.1 hdg hv (kk H locs ls hP hD hS hl)
theorem y_bipush {n : Int} {v : Int32} (h : OkY E k cc own rm) (hdg : decode cc pc = .ok (.bipush n, 2)) (hv : (Int8.ofInt n).toInt32 = v) (kk : Y E k ws cl sl (pc + 2) L (.int v :: st)) : Y E k ws cl sl pc L st := fun H locs ls hP hD hS hl => lv_bipush h.1 h.2.1 hdg hv (kk H locs ls hP hD hS hl)
theorem y_sipush {n : Int} {v : Int32} (h : OkY E k cc own rm) (hdg : decode cc pc = .ok (.sipush n, 3)) (hv : (Int16.ofInt n).toInt32 = v) (kk : Y E k ws cl sl (pc + 3) L (.int v :: st)) : Y E k ws cl sl pc L st := fun H locs ls hP hD hS hl => lv_sipush h.1 h.2.1 hdg hv (kk H locs ls hP hD hS hl)
theorem y_iadd {x y : Int32} (h : OkY E k cc own rm) (hdg : decode cc pc = .ok (.iadd, 1)) (kk : Y E k ws cl sl (pc + 1) L (.int (x + y) :: st)) : Y E k ws cl sl pc L (.int y :: .int x :: st) := fun H locs ls hP hD hS hl => lv_iadd h.1 h.2.1 hdg (kk H locs ls hP hD hS hl)
theorem y_dup {v : Value} (h : OkY E k cc own rm) (hdg : decode cc pc = .ok (.dup, 1)) (hc : v.category = 1) (kk : Y E k ws cl sl (pc + 1) L (v :: v :: st)) : Y E k ws cl sl pc L (v :: st) := fun H locs ls hP hD hS hl => lv_dup h.1 h.2.1 hdg hc (kk H locs ls hP hD hS hl)
theorem y_goto {off : Int} (tgt : Nat) (h : OkY E k cc own rm) (hdg : decode cc pc = .ok (.goto off, 3)) (ht : (pc : Int) + off = (tgt : Int)) (kk : Y E k ws cl sl tgt L st) : Y E k ws cl sl pc L st := fun H locs ls hP hD hS hl => lv_goto h.1 h.2.1 hdg ht (kk H locs ls hP hD hS hl)
theorem y_ald0 {t : List (Option Value)} {x : Nat} (h : OkY E k cc own rm) (hdg : decode cc pc = .ok (.aload_n 0, 1)) (kk : Y E k ws cl sl (pc + 1) (some (.ref x) :: t) (.ref x :: st)) : Y E k ws cl sl pc (some (.ref x) :: t) st := fun H locs ls hP hD hS hl => lv_aload_n h.1 h.2.1 hdg rfl (hl.2.2 0 _ rfl) (kk H locs ls hP hD hS hl)
theorem y_ild1 {a0 : Option Value} {t : List (Option Value)} {x : Int32} (h : OkY E k cc own rm) (hdg : decode cc pc = .ok (.iload_n 1, 1)) (kk : Y E k ws cl sl (pc + 1) (a0 :: some (.int x) :: t) (.int x :: st)) : Y E k ws cl sl pc (a0 :: some (.int x) :: t) st := fun H locs ls hP hD hS hl => lv_iload_n h.1 h.2.1 hdg rfl (hl.2.2 1 _ rfl) (kk H locs ls hP hD hS hl)
theorem y_ist1 {a0 : Option Value} {b : Option Value} {t : List (Option Value)} {x : Int32} (h : OkY E k cc own rm) (hdg : decode cc pc = .ok (.istore_n 1, 1)) (hn : 1 < kL k) (hq : c1o (some a0) = true) (kk : Y E k ws cl sl (pc + 1) (a0 :: some (.int x) :: t) st) : Y E k ws cl sl pc (a0 :: b :: t) (.int x :: st) := fun H locs ls hP hD hS hl => lv_istore_n h.1 h.2.1 hdg rfl (lh_has hl) hn rfl (fun ls' hl' => kk H locs ls' hP hD hS (lh_set (i := 1) (L := a0 :: b :: t) (Or.inr hq) hl'))
theorem y_get {a ci kf index : Nat} {fs : List Value} {v : Value} {C : String} {T : u_T} {N : Nat} (h : OkY E k cc own rm) (q : Nat) (hg : ws[q]? = some (a, .inr (ci, fs))) (hcl : vwCl[ci]? = some (C, T, N)) (hin : ∀ w ∈ u_ws C T N, w ∈ UW) (hk : kf < N) (hw : Cond.fieldLink own index C (T kf).2.1 (T kf).2.2.1 ∈ UW) (hC : (T kf).1 = C) (hv : fs[kf]? = some v) (hdg : decode cc pc = .ok (.getfield index, 3)) (kk : Y E k ws cl sl (pc + 3) L (v :: st)) : Y E k ws cl sl pc L (.ref a :: st) := by
  intro H locs ls hP hD hS hl
  obtain ⟨hx, hb, hml, hown, hts, hK, hA, hR, hN⟩ := h
  exact va_get hx hb hts hin hown hK hP q hg hcl kf hk (hts _ hw) (fun x hx => hC ▸ hx) hv hdg (kk H locs ls hP hD hS hl)
theorem y_put {mc ms a ci kf index : Nat} {fs : List Value} {v : Value} {C : String} {T : u_T} {N : Nat} {ty : FieldType} {P : va_W → Prop} (h : OkY E k cc own rm) (hr : RetY E k mc ms P) (q : Nat) (hg : ws[q]? = some (a, .inr (ci, fs))) (hcl : vwCl[ci]? = some (C, T, N)) (hin : ∀ w ∈ u_ws C T N, w ∈ UW) (ty0 : Nat → FieldType) (hty : ∀ k, k < N → parseFieldDescriptor (T k).2.2.1 = some (ty0 k)) (hnm : ∀ a, a < N → ∀ b, b < N → a ≠ b → (T a).2.1 ≠ (T b).2.1) (hk : kf < N) (hw : Cond.fieldLink own index C (T kf).2.1 (T kf).2.2.1 ∈ UW) (hC : (T kf).1 = C) (hCo : C = own) (htk : ty0 kf = ty) (hn : narrow ty v = v) (hfit : fits ty v = true) (hlf : kf < fs.length) (hdg : decode cc pc = .ok (.putfield index, 3)) (kk : Y E k (ws.set q (a, .inr (ci, fs.set kf v))) cl sl (pc + 3) L st) : Y E k ws cl sl pc L (v :: .ref a :: st) := by
  intro H locs ls hP hD hS hl
  obtain ⟨hx, hb, hml, hown, hts, hK, hA, hR, hN⟩ := h
  by_cases hfin : (T kf).2.2.2 = false
  · exact va_put hx hb hts hin ty0 hty hnm hown hK hP hD hS q hg hcl kf hk (hts _ hw) (fun x hx => hC ▸ hx) hfin (ty := ty) (htk ▸ hty kf hk) hn hfit hlf hdg (fun H1 locs1 hP1 hD1 hS1 => kk H1 locs1 ls hP1 hD1 hS1 hl)
  · exact va_putF hx hb hts hin ty0 hty hnm hown hK hP hD hS q hg hcl kf hk (hts _ hw) (fun x hx => hC ▸ hx) (by revert hfin; cases (T kf).2.2.2 <;> simp) hr.2.2.1 (hC.trans hCo) (ty := ty) (htk ▸ hty kf hk) hn hfit hlf hdg (fun H1 locs1 hP1 hD1 hS1 => kk H1 locs1 ls hP1 hD1 hS1 hl)
theorem y_iast {a n : Nat} {f : Nat → Int32} {i x : Int32} (h : OkY E k cc own rm) (q : Nat) (hg : ws[q]? = some (a, .inl (E.2.2 0, n, .inl f))) (hin : vp_in i n) (hdg : decode cc pc = .ok (.iastore, 1)) (kk : Y E k (ws.set q (a, .inl (E.2.2 0, n, .inl (upd f i.toNatClampNeg x)))) cl sl (pc + 1) L st) : Y E k ws cl sl pc L (.int x :: .int i :: .ref a :: st) := fun H locs ls hP hD hS hl => va_iast h.1 h.2.1 h.2.2.2.2.2.1 hP hD hS q 0 hg rfl hin hdg (fun H1 locs1 hP1 hD1 hS1 => kk H1 locs1 ls hP1 hD1 hS1 hl)
theorem y_cast {a n : Nat} {f : Nat → Int32} {i x : Int32} (h : OkY E k cc own rm) (q : Nat) (hg : ws[q]? = some (a, .inl (E.2.2 2, n, .inl f))) (hin : vp_in i n) (hdg : decode cc pc = .ok (.castore, 1)) (hx : vp_nar .char x = x) (kk : Y E k (ws.set q (a, .inl (E.2.2 2, n, .inl (upd f i.toNatClampNeg x)))) cl sl (pc + 1) L st) : Y E k ws cl sl pc L (.int x :: .int i :: .ref a :: st) := fun H locs ls hP hD hS hl => va_cast h.1 h.2.1 h.2.2.2.2.2.1 hP hD hS q 2 hg rfl hin hdg (fun H1 locs1 hP1 hD1 hS1 => kk H1 locs1 ls (by rw [← hx]; exact hP1) (by rw [← hx]; exact hD1) hS1 hl)
theorem y_astq {a n v ci t0 : Nat} {C : String} {T : u_T} {N : Nat} {vs : List Value} {f : Nat → Option Nat} {i : Int32} {cA : ClassId} (h : OkY E k cc own rm) (q qk : Nat) (hg : ws[q]? = some (a, .inl (cA, n, .inr (.inr (.inr (.inr f)))))) (ht : (tysG E.2.2)[t0]? = some (cA, .object C)) (hv : ws[qk]? = some (v, .inr (ci, vs))) (hcl : vwCl[ci]? = some (C, T, N)) (hin : vp_in i n) (hdg : decode cc pc = .ok (.aastore, 1)) (kk : Y E k (ws.set q (a, .inl (cA, n, .inr (.inr (.inr (.inr (va_up f i.toNatClampNeg (some v)))))))) cl sl (pc + 1) L st) : Y E k ws cl sl pc L (.ref v :: .int i :: .ref a :: st) := fun H locs ls hP hD hS hl => va_astq (r := (C, T, N)) h.1 h.2.1 h.2.2.2.2.2.1 hP hD hS q t0 qk ci hg ht hv hcl hin hdg (fun H1 locs1 hP1 hD1 hS1 => kk H1 locs1 ls hP1 hD1 hS1 hl)
theorem y_new {ci index : Nat} {fs : List Value} {C : String} {T : u_T} {N : Nat} (h : OkY E k cc own rm) (hcl : vwCl[ci]? = some (C, T, N)) (hin : ∀ w ∈ u_ws C T N, w ∈ UW) (ty0 : Nat → FieldType) (hty : ∀ k, k < N → parseFieldDescriptor (T k).2.2.1 = some (ty0 k)) (w1 : Cond.classLink own index C ∈ UW) (w2 : Cond.instantiable C N ∈ UW) (w3 : Cond.initialized C ∈ UW) (hfs : ∀ j, j < N → defaultValue (ty0 j) = vp_V fs j) (hc : cl + 1 ≤ rm.cells) (hs : sl + N ≤ rm.slots) (hdg : decode cc pc = .ok (.new index, 3)) (kk : ∀ q : Nat, Y E k (ws ++ [(q, .inr (ci, fs))]) (cl + 1) (sl + N) (pc + 3) L (.ref q :: st)) : Y E k ws cl sl pc L st := by
  intro H locs ls hP hD hS hl
  obtain ⟨hx, hb, hml, hown, hts, hK, hA, hR, hN⟩ := h
  exact va_new hx hb hts hin ty0 hty hown (hts _ w1) (hts _ w2) (hts _ w3) hK hP hD hS hA hcl hfs (by rw [hR]; exact hc) (by rw [hR]; exact hs) hdg (fun q H1 hP1 hD1 hS1 => kk q H1 locs ls hP1 hD1 hS1 hl)
theorem y_newI {n : Int32} {N : Nat} (h : OkY E k cc own rm) (w1 : Cond.arrayClass .int ∈ UW) (hn : ¬ n < 0) (hN : n.toNatClampNeg = N) (hb4 : N ≤ 100000) (hc : cl + 1 ≤ rm.cells) (hs : sl + N ≤ rm.slots) (hdg : decode cc pc = .ok (.newarray .int, 2)) (kk : ∀ q : Nat, Y E k (ws ++ [(q, .inl (E.2.2 0, N, .inl (fun _ => 0)))]) (cl + 1) (sl + N) (pc + 2) L (.ref q :: st)) : Y E k ws cl sl pc L (.int n :: st) := by
  intro H locs ls hP hD hS hl
  obtain ⟨hx, hb, hml, hown, hts, hK, hA, hR, hN'⟩ := h
  refine va_newa (atype := .int) (ty := .int) (a0 := (N, .inl (fun _ => 0))) hx hb (hts _ w1) rfl hK hP hD hS hA (fun _ => rfl) hn hN (by show N * 4 ≤ _; omega) (by rw [hR]; exact hc) (by rw [hR]; exact hs) hdg (fun q cA H1 hK1 hP1 hD1 hS1 => ?_)
  have e : cA = E.2.2 0 := Option.some.inj (Eq.trans (Eq.symm (hK1.2 7 (cA, .int) rfl).2) (hK.2 0 (E.2.2 0, .int) rfl).2)
  subst e
  exact kk q H1 locs ls hP1 hD1 hS1 hl
theorem y_newC {n : Int32} {N : Nat} (h : OkY E k cc own rm) (w1 : Cond.arrayClass .char ∈ UW) (hn : ¬ n < 0) (hN : n.toNatClampNeg = N) (hb4 : N ≤ 100000) (hc : cl + 1 ≤ rm.cells) (hs : sl + N ≤ rm.slots) (hdg : decode cc pc = .ok (.newarray .char, 2)) (kk : ∀ q : Nat, Y E k (ws ++ [(q, .inl (E.2.2 2, N, .inl (fun _ => 0)))]) (cl + 1) (sl + N) (pc + 2) L (.ref q :: st)) : Y E k ws cl sl pc L (.int n :: st) := by
  intro H locs ls hP hD hS hl
  obtain ⟨hx, hb, hml, hown, hts, hK, hA, hR, hN'⟩ := h
  refine va_newa (atype := .char) (ty := .char) (a0 := (N, .inl (fun _ => 0))) hx hb (hts _ w1) rfl hK hP hD hS hA (fun _ => rfl) hn hN (by show N * 2 ≤ _; omega) (by rw [hR]; exact hc) (by rw [hR]; exact hs) hdg (fun q cA H1 hK1 hP1 hD1 hS1 => ?_)
  have e : cA = E.2.2 2 := Option.some.inj (Eq.trans (Eq.symm (hK1.2 7 (cA, .char) rfl).2) (hK.2 2 (E.2.2 2, .char) rfl).2)
  subst e
  exact kk q H1 locs ls hP1 hD1 hS1 hl
theorem y_newB {n : Int32} {N : Nat} (h : OkY E k cc own rm) (w1 : Cond.arrayClass .boolean ∈ UW) (hn : ¬ n < 0) (hN : n.toNatClampNeg = N) (hb4 : N ≤ 100000) (hc : cl + 1 ≤ rm.cells) (hs : sl + N ≤ rm.slots) (hdg : decode cc pc = .ok (.newarray .boolean, 2)) (kk : ∀ q : Nat, Y E k (ws ++ [(q, .inl (E.2.2 1, N, .inl (fun _ => 0)))]) (cl + 1) (sl + N) (pc + 2) L (.ref q :: st)) : Y E k ws cl sl pc L (.int n :: st) := by
  intro H locs ls hP hD hS hl
  obtain ⟨hx, hb, hml, hown, hts, hK, hA, hR, hN'⟩ := h
  refine va_newa (atype := .boolean) (ty := .boolean) (a0 := (N, .inl (fun _ => 0))) hx hb (hts _ w1) rfl hK hP hD hS hA (fun _ => rfl) hn hN (by show N * 1 ≤ _; omega) (by rw [hR]; exact hc) (by rw [hR]; exact hs) hdg (fun q cA H1 hK1 hP1 hD1 hS1 => ?_)
  have e : cA = E.2.2 1 := Option.some.inj (Eq.trans (Eq.symm (hK1.2 7 (cA, .boolean) rfl).2) (hK.2 1 (E.2.2 1, .boolean) rfl).2)
  subst e
  exact kk q H1 locs ls hP1 hD1 hS1 hl
theorem y_newL {n : Int32} {N : Nat} (h : OkY E k cc own rm) (w1 : Cond.arrayClass .long ∈ UW) (hn : ¬ n < 0) (hN : n.toNatClampNeg = N) (hb4 : N ≤ 100000) (hc : cl + 1 ≤ rm.cells) (hs : sl + N ≤ rm.slots) (hdg : decode cc pc = .ok (.newarray .long, 2)) (kk : ∀ q : Nat, Y E k (ws ++ [(q, .inl (E.2.2 3, N, .inr (.inl (fun _ => 0))))]) (cl + 1) (sl + N) (pc + 2) L (.ref q :: st)) : Y E k ws cl sl pc L (.int n :: st) := by
  intro H locs ls hP hD hS hl
  obtain ⟨hx, hb, hml, hown, hts, hK, hA, hR, hN'⟩ := h
  refine va_newa (atype := .long) (ty := .long) (a0 := (N, .inr (.inl (fun _ => 0)))) hx hb (hts _ w1) rfl hK hP hD hS hA (fun _ => rfl) hn hN (by show N * 8 ≤ _; omega) (by rw [hR]; exact hc) (by rw [hR]; exact hs) hdg (fun q cA H1 hK1 hP1 hD1 hS1 => ?_)
  have e : cA = E.2.2 3 := Option.some.inj (Eq.trans (Eq.symm (hK1.2 7 (cA, .long) rfl).2) (hK.2 3 (E.2.2 3, .long) rfl).2)
  subst e
  exact kk q H1 locs ls hP1 hD1 hS1 hl
theorem y_newQ {n : Int32} {N t0 index : Nat} {C : String} {cA : ClassId} (h : OkY E k cc own rm) (w1 : Cond.classLink own index C ∈ UW) (hov : va_AO C (ks k)) (ht : (tysG E.2.2)[t0]? = some (cA, .object C)) (hn : ¬ n < 0) (hN : n.toNatClampNeg = N) (hb4 : N ≤ 100000) (hc : cl + 1 ≤ rm.cells) (hs : sl + N ≤ rm.slots) (hdg : decode cc pc = .ok (.anewarray index, 3)) (kk : ∀ q : Nat, Y E k (ws ++ [(q, .inl (cA, N, .inr (.inr (.inr (.inr (fun _ => none))))))]) (cl + 1) (sl + N) (pc + 3) L (.ref q :: st)) : Y E k ws cl sl pc L (.int n :: st) := by
  intro H locs ls hP hD hS hl
  obtain ⟨hx, hb, hml, hown, hts, hK, hA, hR, hN'⟩ := h
  refine va_newq hx hb hown (hts _ w1) hov hK hP hD hS hA hn hN (by omega) (by rw [hR]; exact hc) (by rw [hR]; exact hs) hdg (fun q cA' H1 hK1 hP1 hD1 hS1 => ?_)
  obtain ⟨-, -, -, -, -, f1⟩ := (hK1.2 7 (cA', .object C) rfl).2
  obtain ⟨-, -, -, -, -, f2⟩ := (hK.2 t0 _ ht).2
  have e : cA' = cA := Option.some.inj (f1.symm.trans f2)
  subst e
  exact kk q H1 locs ls hP1 hD1 hS1 hl
theorem y_obj {a index : Nat} (h : OkY E k cc own rm) (w1 : Cond.methodLink own index Lib.objectInit ∈ UW) (w2 : Cond.instanceMethod Lib.objectInit ∈ UW) (w3 : Cond.code Lib.objectInit ⟨#[0xb1]⟩ 1 none ∈ UW) (hroom : 1 ≤ rm.frames ∧ (st.map fun v => v.category).sum + 12 ≤ rm.locals) (hdg : decode cc pc = .ok (.invokespecial index, 3)) (kk : Y E k ws cl sl (pc + 3) L st) : Y E k ws cl sl pc L (.ref a :: st) := by
  intro H locs ls hP hD hS hl
  obtain ⟨hx, hb, hml, hown, hts, hK, hA, hR, hN⟩ := h
  refine W.objInit (g := F0 (km k) pc ls (.ref a :: st)) hx hb hown (hts _ w1) (hts _ w2) (hts _ w3) rfl (by rw [hml]; exact hl.1) rfl hdg (by rw [hR]; exact hroom.1) (by rw [hR]; show 2 * 0 + _ + 12 ≤ _; omega) ?_
  exact W.eq (g2 := F0 (km k) (pc + 3) ls st) rfl (kk H locs ls hP hD hS hl)
theorem y_widen {cl' sl' : Nat} (h1 : cl ≤ cl') (h2 : sl ≤ sl') (kk : Y E k ws cl' sl' pc L st) : Y E k ws cl sl pc L st := fun H locs ls hP hD hS hl => W.widen h1 h2 (kk H locs ls hP hD hS hl)
theorem y_vret {mc ms : Nat} {P : va_W → Prop} (h : OkY E k cc own rm) (hr : RetY E k mc ms P) (hp : P ws) (hdg : decode cc pc = .ok (.return_, 1)) : Y E k ws mc ms pc L [] := by
  intro H locs ls hP hD hS hl
  obtain ⟨hx, hb, hml, hown, hts, hK, hA, hR, hN⟩ := h
  obtain ⟨r1, r2, -, ws0, sz, r5, r6, r7⟩ := hr
  rw [r7]
  rw [r5] at hD hS
  exact W.vret hx hb r1 (fun t ht hW => ⟨⟨ws, rfl, hp, by rw [ht]; exact hP, va_K.moved hW.alike hK, hD⟩, hS.F ht⟩) hS.2.2 hdg (hlocks := r2)
theorem NP_blind {a0 sz : Nat} {e0 : va_E} : FrameBlind (NP E a0 e0 sz) := fun a U g mk q => by
  obtain ⟨q0, q1, qP, qK, qD, qE⟩ := q
  exact ⟨q0, q1, qP, va_K.moved (u := U) (U := U.calling g mk a) (Vm.Alike.refl U.vm) qK, qD, qE.calling⟩
/-- behind a constructor's call: the object, last in the list, has become its cells -/
theorem y_after {a : Nat} {e0 : va_E} {ws0 w1 : va_W} {H H1 : Heap} {A0 : Nat → Prop} (hP : va_P E.2.1 vwCl (ws0 ++ [(a, e0)]) H) (hD : va_D A0 (ws0 ++ [(a, e0)])) (hF : ∀ q, va_A [(a, e0)] H.size q → A0 q) (hk : ∀ q : Nat, q < H.size → ¬ va_A [(a, e0)] H.size q → H1[q]? = H[q]?) (hP1 : va_P E.2.1 vwCl w1 H1) (hD1 : va_D (va_A [(a, e0)] H.size) w1) : va_P E.2.1 vwCl (ws0 ++ w1) H1 ∧ va_D A0 (ws0 ++ w1) := by
  have hlast : (ws0 ++ [(a, e0)])[ws0.length]? = some (a, e0) := by rw [List.getElem?_append_right (Nat.le_refl _), Nat.sub_self]; rfl
  have hin : ∀ (j : Nat) (x : Nat × va_E), ws0[j]? = some x → (ws0 ++ [(a, e0)])[j]? = some x := fun j x hx => by
    rw [List.getElem?_append_left (List.getElem?_eq_some_iff.mp hx).1]; exact hx
  have hlt : ∀ (j : Nat) (x : Nat × va_E), ws0[j]? = some x → x.1 < H.size := fun j x hx => (hP j x (hin j x hx)).lt
  have hne : ∀ (j : Nat) (x : Nat × va_E), ws0[j]? = some x → ¬ va_A [(a, e0)] H.size x.1 := by
    intro j x hx hz
    rcases hz with ⟨j', e, hj'⟩ | hz
    · have h0 : j' < 1 := (List.getElem?_eq_some_iff.mp hj').1
      rw [show j' = 0 by omega] at hj'
      cases hj'
      have := hD.1 j ws0.length x _ (hin j x hx) hlast rfl
      have hl := (List.getElem?_eq_some_iff.mp hx).1
      omega
    · exact absurd (hlt j x hx) (by omega)
  refine ⟨fun j x hx => ?_, fun i j x y hi hj hxy => ?_, fun j x hx => ?_⟩
  · by_cases hl : j < ws0.length
    · rw [List.getElem?_append_left hl] at hx
      exact (hP j x (hin j x hx)).kept (hk x.1 (hlt j x hx) (hne j x hx))
    · rw [List.getElem?_append_right (by omega)] at hx
      exact hP1 _ x hx
  · by_cases h1 : i < ws0.length <;> by_cases h2 : j < ws0.length
    · rw [List.getElem?_append_left h1] at hi
      rw [List.getElem?_append_left h2] at hj
      exact hD.1 i j x y (hin i x hi) (hin j y hj) hxy
    · rw [List.getElem?_append_left h1] at hi
      rw [List.getElem?_append_right (by omega)] at hj
      exact absurd (hxy ▸ hD1.2 _ y hj) (hne i x hi)
    · rw [List.getElem?_append_right (by omega)] at hi
      rw [List.getElem?_append_left h2] at hj
      exact absurd (hxy ▸ hD1.2 _ x hi) (hne j y hj)
    · rw [List.getElem?_append_right (by omega)] at hi hj
      have := hD1.1 _ _ x y hi hj hxy
      omega
  · by_cases hl : j < ws0.length
    · rw [List.getElem?_append_left hl] at hx
      exact hD.2 j x (hin j x hx)
    · rw [List.getElem?_append_right (by omega)] at hx
      exact hF _ (hD1.2 _ x hx)
theorem y_free {a : Nat} {e0 : va_E} {ws0 : va_W} {H : Heap} {locs : List Loc} (h : OkY E k cc own rm) (hD : va_D (kA k) (ws0 ++ [(a, e0)])) (hS : va_S (kA k) (ks k).heap H locs) : ∀ q, va_A [(a, e0)] H.size q → kA k q := by
  intro q hq
  rcases hq with ⟨j, e, hj⟩ | hq
  · have h0 : j < 1 := (List.getElem?_eq_some_iff.mp hj).1
    rw [show j = 0 by omega] at hj
    cases hj
    exact hD.2 ws0.length (a, e0) (by rw [List.getElem?_append_right (Nat.le_refl _), Nat.sub_self]; rfl)
  · exact h.2.2.2.2.2.2.1 q (Nat.le_trans hS.1 hq)
theorem y_pre {a : Nat} {e0 : va_E} {ws0 : va_W} {H : Heap} (h : OkY E k cc own rm) (hP : va_P E.2.1 vwCl (ws0 ++ [(a, e0)]) H) : PreS (ks k) H (NP E a e0 H.size) (.ref a :: []) := by
  have hlast : (ws0 ++ [(a, e0)])[ws0.length]? = some (a, e0) := by rw [List.getElem?_append_right (Nat.le_refl _), Nat.sub_self]; rfl
  have h1 : va_P E.2.1 vwCl [(a, e0)] H := fun j x hx => by
    have h0 : j < 1 := (List.getElem?_eq_some_iff.mp hx).1
    rw [show j = 0 by omega] at hx
    cases hx
    exact hP _ _ hlast
  refine ⟨NP_blind, fun U hU hW => ⟨rfl, by rw [hU], by rw [hU]; exact h1, va_K.moved hW.alike h.2.2.2.2.2.1, ⟨fun i j x y hi hj _ => ?_, fun _ _ _ => trivial⟩, h.2.2.2.2.2.2.2.2.warm hW⟩⟩
  have h0 : i < 1 := (List.getElem?_eq_some_iff.mp hi).1
  have h2 : j < 1 := (List.getElem?_eq_some_iff.mp hj).1
  omega
theorem y_call {index nLc mc ms : Nat} {y : MethodName} {cy : ByteArray} {rc : Room} {a : Nat} {e0 : va_E} {P : Nat → va_W → Prop} (ws0 : va_W) (h : OkY E k cc own rm) (f1 : Cond.code y cy nLc none ∈ UW) (f2 : Cond.initialized y.cls ∈ UW) (f3 : y.cls ≠ "java/lang/invoke/MethodHandle" ∧ y.cls ≠ "java/lang/invoke/VarHandle" ∧ (parseMethodDescriptor y.desc).map (fun d => d.parameters.length) = some 0) (f4 : Cond.methodLink own index y ∈ UW) (f5 : Cond.instanceMethod y ∈ UW) (hnm : y.name = "<init>") (hM : NX E y cy nLc rc mc ms e0 P) (hws : ws = ws0 ++ [(a, e0)]) (hrc : rc.cells = mc ∧ rc.slots = ms) (hroom : rc.frames + 1 ≤ rm.frames ∧ 8 + (nLc + 11) + rc.locals ≤ rm.locals) (hcs : cl + mc ≤ rm.cells ∧ sl + ms ≤ rm.slots) (hW : (st.map fun v => v.category).sum ≤ 8) (hdg : decode cc pc = .ok (.invokespecial index, 3))
    (kk : ∀ w1, P a w1 → Y E k (ws0 ++ w1) (cl + mc) (sl + ms) (pc + 3) L st) : Y E k ws cl sl pc L (.ref a :: st) := by
  subst hws
  intro H locs ls hP hD hS hl
  have h' := h
  obtain ⟨hx, hb, hml, hown, hts, hK, hA, hR, hN⟩ := h
  have hF := y_free h' hD hS
  refine va_callv (va_runI (nL := kL k) (own := own) (As := []) (rest := st) (Ts := UW) ⟨hx, hb, hml, hown, hts⟩ (hM a H.size) (cwI 0 hts (uw_goodIn f1) rfl hrc.1 hrc.2 (hts _ f2) (hts _ f4) (hts _ f5) hnm f3 (by rw [hR]; exact hroom)) (y_pre h' hP) rfl rfl hl.1 rfl (lv_room hW) hdg ⟨by rw [hR]; exact hcs.1, by rw [hR]; exact hcs.2⟩) hS (fun q _ hq => hF q hq) hF (fun w1 t H1 locs1 ht hvm hp hB hz hk1 hS1 => ?_)
  obtain ⟨hP1, -, hD1⟩ := hB
  rw [ht] at hP1
  obtain ⟨hP2, hD2⟩ := y_after hP hD hF hk1 hP1 hD1
  exact kk w1 hp H1 locs1 ls hP2 hD2 hS1 hl
theorem y_callN {index nLc mc ms : Nat} {y : MethodName} {cy : ByteArray} {rc : Room} {a : Nat} {e0 : va_E} {P : Nat → va_W → Prop} (host : String) (ws0 : va_W) (h : OkY E k cc own rm) (f1 : Cond.code y cy nLc none ∈ UW) (f2 : Cond.initialized y.cls ∈ UW) (f3 : y.cls ≠ "java/lang/invoke/MethodHandle" ∧ y.cls ≠ "java/lang/invoke/VarHandle" ∧ (parseMethodDescriptor y.desc).map (fun d => d.parameters.length) = some 0) (f4 : va_Nw (.methodLinkNest own index y host) (ks k)) (f5 : Cond.instanceMethod y ∈ UW) (hnm : y.name = "<init>") (hM : NX E y cy nLc rc mc ms e0 P) (hws : ws = ws0 ++ [(a, e0)]) (hrc : rc.cells = mc ∧ rc.slots = ms) (hroom : rc.frames + 1 ≤ rm.frames ∧ 8 + (nLc + 11) + rc.locals ≤ rm.locals) (hcs : cl + mc ≤ rm.cells ∧ sl + ms ≤ rm.slots) (hW : (st.map fun v => v.category).sum ≤ 8) (hdg : decode cc pc = .ok (.invokespecial index, 3))
    (kk : ∀ w1, P a w1 → Y E k (ws0 ++ w1) (cl + mc) (sl + ms) (pc + 3) L st) : Y E k ws cl sl pc L (.ref a :: st) := by
  subst hws
  intro H locs ls hP hD hS hl
  have h' := h
  obtain ⟨hx, hb, hml, hown, hts, hK, hA, hR, hN⟩ := h
  have hF := y_free h' hD hS
  refine va_callv (va_runIN (nL := kL k) (own := own) (As := []) (rest := st) (Ts := UW) ⟨hx, hb, hml, hown, hts⟩ (hM a H.size) ⟨va_cnB 0 hts (uw_goodIn f1) rfl hrc.1 hrc.2 f4 (hts _ f2) f3 (by rw [hR]; exact hroom), hnm, hts _ f5⟩ (y_pre h' hP) rfl rfl hl.1 rfl (lv_room hW) hdg ⟨by rw [hR]; exact hcs.1, by rw [hR]; exact hcs.2⟩) hS (fun q _ hq => hF q hq) hF (fun w1 t H1 locs1 ht hvm hp hB hz hk1 hS1 => ?_)
  obtain ⟨hP1, -, hD1⟩ := hB
  rw [ht] at hP1
  obtain ⟨hP2, hD2⟩ := y_after hP hD hF hk1 hP1 hD1
  exact kk w1 hp H1 locs1 ls hP2 hD2 hS1 hl
end YR
