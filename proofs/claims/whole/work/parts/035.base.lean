/-! THE BASE: a judgement X over a world that is given by a function from places to cells (wl), the locals as a list of options; one row an instruction. -/
/-- what is the same for all methods of one side: the launch, the class numbers, the array classes, how many cells, their addresses -/
abbrev GT : Type := Launch × va_G × (Nat → ClassId) × Nat × (Nat → Nat)
/-- what is the same within one call: p, e, s, m, args, below, meth, c, Q, A, nL, R, cells, slots -/
abbrev KT : Type := Program × Env × State × MethodId × Array Value × List Frame × Method × Code × (State → Prop) × (Nat → Prop) × Nat × Room × Nat × Nat
abbrev gl (G : GT) : Launch := G.1
abbrev gD (G : GT) : va_G := G.2.1
abbrev gi (G : GT) : Nat → ClassId := G.2.2.1
abbrev gN (G : GT) : Nat := G.2.2.2.1
abbrev ga (G : GT) : Nat → Nat := G.2.2.2.2
abbrev kp (k : KT) : Program := k.1
abbrev ke (k : KT) : Env := k.2.1
abbrev ks (k : KT) : State := k.2.2.1
abbrev km (k : KT) : MethodId := k.2.2.2.1
abbrev kar (k : KT) : Array Value := k.2.2.2.2.1
abbrev kb (k : KT) : List Frame := k.2.2.2.2.2.1
abbrev kme (k : KT) : Method := k.2.2.2.2.2.2.1
abbrev kc (k : KT) : Code := k.2.2.2.2.2.2.2.1
abbrev kQ (k : KT) : State → Prop := k.2.2.2.2.2.2.2.2.1
abbrev kA (k : KT) : Nat → Prop := k.2.2.2.2.2.2.2.2.2.1
abbrev kL (k : KT) : Nat := k.2.2.2.2.2.2.2.2.2.2.1
abbrev kR (k : KT) : Room := k.2.2.2.2.2.2.2.2.2.2.2.1
abbrev kce (k : KT) : Nat := k.2.2.2.2.2.2.2.2.2.2.2.2.1
abbrev ksl (k : KT) : Nat := k.2.2.2.2.2.2.2.2.2.2.2.2.2
/-- the array classes: 0 int, 1 boolean, 2 char, 3 long, 4 Row, 5 Slot, 6 int[] -/
def tysG (i : Nat → ClassId) : List (ClassId × FieldType) := [(i 0, .int), (i 1, .boolean), (i 2, .char), (i 3, .long), (i 4, .object RX4), (i 5, .object RX5), (i 6, .array .int)]
def wl (G : GT) (ce : Nat → va_E) : va_W := (List.range (gN G)).map (fun q => (ga G q, ce q))
theorem wl_get {G : GT} {ce : Nat → va_E} {q : Nat} (hq : q < gN G) : (wl G ce)[q]? = some (ga G q, ce q) := by
  simp [wl, hq]
theorem wl_len {G : GT} {ce : Nat → va_E} : (wl G ce).length = gN G := by simp [wl]
def upE (ce : Nat → va_E) (q : Nat) (e : va_E) : Nat → va_E := fun j => if j = q then e else ce j
theorem wl_set {G : GT} {ce : Nat → va_E} {q : Nat} {e : va_E} : (wl G ce).set q (ga G q, e) = wl G (upE ce q e) := by
  apply List.ext_getElem?
  intro j
  by_cases hj : j < gN G
  · by_cases e1 : j = q
    · subst e1
      rw [List.getElem?_set_self (by rw [wl_len]; exact hj), wl_get hj]
      simp [upE]
    · rw [List.getElem?_set_ne (fun h => e1 h.symm), wl_get hj, wl_get hj]
      simp [upE, e1]
  · rw [List.getElem?_eq_none (by simp [wl_len]; omega), List.getElem?_eq_none (by simp [wl_len]; omega)]
/-- the locals -/
def lh (ls : Array Slot) (nL : Nat) (L : List (Option Value)) : Prop := ls.size = nL ∧ lv_wf ls ∧ ∀ (i : Nat) (v : Value), L[i]? = some (some v) → ls[i]? = some (.val v)
def lhl (L : List (Option Value)) : List (Nat × Value) := (List.range L.length).filterMap (fun j => match L[j]? with | some (some w) => some (j, w) | _ => none)
theorem lhl_mem {L : List (Option Value)} {i : Nat} {v : Value} : (i, v) ∈ lhl L ↔ L[i]? = some (some v) := by
  unfold lhl
  rw [List.mem_filterMap]
  constructor
  · rintro ⟨j, hj, h⟩
    split at h
    next w hw => cases h; exact hw
    next => cases h
  · intro h
    refine ⟨i, List.mem_range.mpr (List.getElem?_eq_some_iff.mp h).1, ?_⟩
    rw [h]
theorem lh_has {ls : Array Slot} {nL : Nat} {L : List (Option Value)} (h : lh ls nL L) : lv_has ls nL (lhl L) := ⟨h.1, h.2.1, fun q hq => h.2.2 q.1 q.2 (lhl_mem.mp hq)⟩
theorem lh_of {ls : Array Slot} {nL : Nat} {L : List (Option Value)} {l : List (Nat × Value)} (h : lv_has ls nL l) (hl : ∀ (i : Nat) (v : Value), L[i]? = some (some v) → (i, v) ∈ l) : lh ls nL L := ⟨h.1, h.2.1, fun i v hv => h.2.2 (i, v) (hl i v hv)⟩
theorem lh_sub {ls : Array Slot} {nL : Nat} {L L' : List (Option Value)} (h : lh ls nL L) (hs : ∀ (i : Nat) (v : Value), L'[i]? = some (some v) → L[i]? = some (some v)) : lh ls nL L' := ⟨h.1, h.2.1, fun i v hv => h.2.2 i v (hs i v hv)⟩
/-- one slot -/
def c1o : Option (Option Value) → Bool
  | some (some v) => decide (v.category ≠ 2)
  | _ => true
theorem lh_set {ls' : Array Slot} {nL i : Nat} {L : List (Option Value)} {v : Value} (hc : i = 0 ∨ c1o L[i - 1]? = true) (h : lv_has ls' nL ((i, v) :: (lhl L).filter (fun q => !(q.1 == i) && !(q.1 + 1 == i && q.2.category == 2)))) : lh ls' nL (L.set i (some v)) := by
  refine lh_of h (fun j w hw => ?_)
  by_cases e : j = i
  · subst e
    have hl : j < (L.set j (some v)).length := (List.getElem?_eq_some_iff.mp hw).1
    rw [List.getElem?_set_self (by simpa using hl)] at hw
    cases hw
    exact List.mem_cons_self
  · rw [List.getElem?_set_ne (fun q => e q.symm)] at hw
    refine List.mem_cons_of_mem _ (List.mem_filter.mpr ⟨lhl_mem.mpr hw, ?_⟩)
    have e1 : (j == i) = false := by simp [e]
    rw [e1]
    by_cases e2 : j + 1 = i
    · rcases hc with hc | hc
      · omega
      · rw [show i - 1 = j by omega, hw] at hc
        have h2 : w.category ≠ 2 := by simpa [c1o] using hc
        simp [h2]
    · simp [e2]
def X (G : GT) (k : KT) (ce : Nat → va_E) (pc : Nat) (L : List (Option Value)) (st : List Value) : Prop :=
  ∀ (H : Heap) (locs : List Loc) (ls : Array Slot), va_P (gD G) vwCl (wl G ce) H → va_D (kA k) (wl G ce) → va_S (kA k) (ks k).heap H locs → lh ls (kL k) L →
    W (kp k) (gl G) (ke k) (kR k) (ks k) (km k) (kar k) (kb k) (kme k) (kc k) H locs (kce k) (ksl k) (kQ k) (F0 (km k) pc ls st)
/-- what lies outside all worlds: the seven texts of the Reader (at a 100 + i, their bytes at a 200 + i), two statics of the JDK's, a link -/
def kJ (i : Nat) : Nat := match i with | 0 => 44 | 1 => 50 | 2 => 52 | 3 => 79 | 4 => 81 | 5 => 83 | _ => 85
def txJ (i : Nat) : String := match i with | 0 => "wear" | 1 => "fee" | 2 => "fine" | 3 => "s" | 4 => "f" | 5 => "d" | _ => "l"
def lenJ : List Nat := [4, 3, 4, 1, 1, 1, 1]
def bytJ : List (List Int32) := [[119, 101, 97, 114], [102, 101, 101], [102, 105, 110, 101], [115], [102], [100], [108]]
def Ev (a : Nat → Nat) (A : Nat → Prop) (U : State) (H : Heap) : Prop := va_Nw (.methodLinkNest RX0 87 yX7_held RX7) U ∧ vk_S 7 lenJ bytJ (fun i => a (100 + i)) (fun i => a (200 + i)) A U H ∧ (∀ i, i < 7 → vk_R RX3 (kJ i) (txJ i) (a (100 + i)) U) ∧ va_Z "java/lang/String" "COMPACT_STRINGS" "Z" (.int 1) A U H ∧ va_Zq "jdk/internal/util/Preconditions" "SIOOBE_FORMATTER" "Ljava/util/function/BiFunction;" A U H
theorem Ev.to {a : Nat → Nat} {A A' : Nat → Prop} {s U : State} {H H1 : Heap} (h : Ev a A s H) (hW : s.WarmedH U.vm) (hq : ∀ q : Nat, q < H.size → ¬ A q → H1[q]? = H[q]?) (hA : ∀ q, A' q → A q) : Ev a A' U H1 := by
  obtain ⟨h1, h2, h3, h4, h5⟩ := h
  exact ⟨va_Nw.warmM hW h1, ((h2.kept hq).narrow hA).moved hW.alike, fun i hi => vk_R.warm hW (h3 i hi), ((h4.kept hq).narrow hA).moved hW.alike, ((h5.kept hq).narrow hA).moved hW.alike⟩
theorem Ev.calling {a : Nat → Nat} {A : Nat → Prop} {U : State} {g : JFrame} {mk : MethodId} {x : Array Value} (h : Ev a A U U.heap) : Ev a A (U.calling g mk x) (U.calling g mk x).heap := by
  obtain ⟨h1, h2, h3, h4, h5⟩ := h
  exact ⟨va_Nw.same rfl (u := U) (U := U.calling g mk x) rfl h1, vk_S.moved (u := U) (U := U.calling g mk x) (Vm.Alike.refl U.vm) h2, fun i hi => vk_R.same (u := U) (U := U.calling g mk x) rfl (h3 i hi), va_Z.moved (u := U) (U := U.calling g mk x) (Vm.Alike.refl U.vm) h4, va_Zq.moved (u := U) (U := U.calling g mk x) (Vm.Alike.refl U.vm) h5⟩
def Ok (G : GT) (k : KT) (cc : ByteArray) (own : String) (rm : Room) : Prop :=
  (kp k).tables.exec = Jvm.exec ∧ (kc k).code = cc ∧ (kc k).maxLocals = (kL k) ∧ (ks k).vm.findClass own = some (km k).cls ∧ (∀ w ∈ UW, w.before (kar k) (ks k) = true) ∧ va_K (gD G) vwCl (tysG (gi G)) (ks k) ∧ (∀ q : Nat, (ks k).heap.size ≤ q → kA k q) ∧ kR k = rm ∧ kce k ≤ (kR k).cells ∧ ksl k ≤ (kR k).slots ∧ Ev (ga G) (kA k) (ks k) (ks k).heap
/-- a method's end -/
def QX (G : GT) (ws0 : va_W) (sz : Nat) (P : Option Value → (Nat → va_E) → Prop) : Array Value → State → Outcome → State → Prop := fun _ st oc t =>
  (∃ (v : Option Value) (ce' : Nat → va_E), oc = .returned v ∧ P v ce' ∧ va_P (gD G) vwCl (wl G ce') t.heap ∧ va_K (gD G) vwCl (tysG (gi G)) t ∧ va_D (va_A ws0 sz) (wl G ce')) ∧ va_F (va_A ws0 sz) st t
/-- a method's contract over a whole world: from the cells ce, with these arguments, it returns, and answer and cells are P -/
def MX (G : GT) (y : MethodName) (cc : ByteArray) (nL : Nat) (ret : Option FieldType) (rm : Room) (av : List Value) (ce : Nat → va_E) (P : Option Value → (Nat → va_E) → Prop) : Prop :=
  ∀ sz : Nat, Met (gl G) y (.code y cc nL ret :: UW) rm (va_Pc av (fun U => U.heap.size = sz ∧ va_P (gD G) vwCl (wl G ce) U.heap ∧ va_K (gD G) vwCl (tysG (gi G)) U ∧ va_D (fun _ => True) (wl G ce) ∧ Ev (ga G) (va_A (wl G ce) sz) U U.heap)) (QX G (wl G ce) sz P) 0 0 (va_A (wl G ce) sz)
def Ret (G : GT) (k : KT) (ret : Option FieldType) (P : Option Value → (Nat → va_E) → Prop) : Prop :=
  (kme k).sig.returnType = ret ∧ (kme k).locks = false ∧ kce k = 0 ∧ ksl k = 0 ∧ ∃ ws0 sz, kA k = va_A ws0 sz ∧ sz = (ks k).heap.size ∧ kQ k = MQ (kb k) (QX G ws0 sz P) (kar k) (ks k) 0 0 (va_A ws0 sz)
def eL (av : List Value) (nL : Nat) : List (Option Value) := av.map some ++ List.replicate (nL - av.length) none
theorem eL_in {av : List Value} {nL : Nat} {i : Nat} {v : Value} (h : (eL av nL)[i]? = some (some v)) : av[i]? = some v := by
  unfold eL at h
  by_cases hi : i < (av.map some).length
  · rw [List.getElem?_append_left hi, List.getElem?_map] at h
    cases hv : av[i]? with
    | none => rw [hv] at h; cases h
    | some w => rw [hv] at h; exact Option.some.inj h
  · rw [List.getElem?_append_right (by omega)] at h
    have := List.eq_of_mem_replicate (List.mem_of_getElem? h)
    cases this
theorem lv_args_at : ∀ (vs : List Value) (j i : Nat) (v : Value), (∀ w ∈ vs, w.category ≠ 2) → vs[i]? = some v → (j + i, v) ∈ lv_args j vs
  | [], _, i, v, _, h => by simp at h
  | w :: vs, j, 0, v, _, h => by
    simp at h
    subst h
    exact List.mem_cons_self
  | w :: vs, j, i + 1, v, hc, h => by
    have h1 : w.category ≠ 2 := hc w List.mem_cons_self
    have h2 := lv_args_at vs (j + 1) i v (fun z hz => hc z (List.mem_cons_of_mem _ hz)) (by simpa using h)
    show (j + (i + 1), v) ∈ (j, w) :: lv_args (if w.category = 2 then j + 2 else j + 1) vs
    rw [if_neg h1]
    refine List.mem_cons_of_mem _ ?_
    rw [show j + (i + 1) = j + 1 + i by omega]
    exact h2
theorem lg_sl_1 : ∀ (vs : List Value), (∀ w ∈ vs, w.category ≠ 2) → (lg_sl vs).length = vs.length
  | [], _ => rfl
  | w :: vs, hc => by
    have h1 : w.category ≠ 2 := hc w List.mem_cons_self
    have h2 := lg_sl_1 vs (fun z hz => hc z (List.mem_cons_of_mem _ hz))
    have e : lg_sl (w :: vs) = (if w.category = 2 then [.val w, .second] else [.val w]) ++ lg_sl vs := rfl
    rw [e, if_neg h1, List.length_append, h2]
    simp
    omega
theorem MX.of2 {G : GT} {y : MethodName} {cc : ByteArray} {nL : Nat} {ret : Option FieldType} {rm : Room} {av : List Value} {ce : Nat → va_E} {P : Option Value → (Nat → va_E) → Prop} (own : String) (hy : plainName y.cls = true) (hown : y.cls = own) (hrm : rm.cells = 0 ∧ rm.slots = 0) (hlen : av.length ≤ nL) (hcat : av.all (fun w => decide (w.category ≠ 2)) = true)
    (body : ∀ k : KT, Ok G k cc own rm → Ret G k ret P → kL k = nL → X G k ce 0 (eL av nL) []) : MX G y cc nL ret rm av ce P := by
  intro sz
  refine Met.ofW (cc := cc) (maxL := nL) (ret := ret) hy rfl ?_
  intro p e s m args below meth c s₁ B hml hv
  obtain ⟨rfl, hsz, hP, hK, hD0, hEv⟩ := hv
  have hcat' : ∀ w ∈ av, w.category ≠ 2 := fun w hw => by have := List.all_eq_true.mp hcat w hw; simpa using this
  have hts := atoms_spec (ws := .code y cc nL ret :: UW) B.pre
  have hown' : s.vm.findClass own = some m.cls := hown ▸ findClass_of_methodNamed B.named
  subst hsz
  have hl := lv_entry av (n := nL) (by rw [lg_sl_1 av hcat']; exact hlen)
  rw [lg_entry_eq]
  generalize (lg_sl av ++ List.replicate (nL - (lg_sl av).length) Slot.unset).toArray = ls at hl ⊢
  exact body (p, e, s, m, av.toArray, below, meth, c, MQ below (QX G (wl G ce) s.heap.size P) av.toArray s 0 0 (va_A (wl G ce) s.heap.size), va_A (wl G ce) s.heap.size, nL, rm, 0, 0)
    ⟨B.exec, B.bytes, hml, hown', fun w hw => hts w (List.mem_cons_of_mem _ hw), hK, fun q h => Or.inr h, rfl, Nat.zero_le _, Nat.zero_le _, hEv⟩
    ⟨B.returns, B.notSynchronized, rfl, rfl, wl G ce, s.heap.size, rfl, rfl, rfl⟩ rfl s.heap [] ls hP hD0.self va_S.rf
    (lh_of hl (fun i v hv => by have := lv_args_at av 0 i v hcat' (eL_in hv); rwa [Nat.zero_add] at this))
section XR
variable {G : GT} {k : KT} {cc : ByteArray} {own : String} {rm : Room} {ce : Nat → va_E} {pc : Nat} {L : List (Option Value)} {st : List Value}
theorem x_iconst {n : Int} {v : Int32} (h : Ok G k cc own rm) (hdg : decode cc pc = .ok (.iconst n, 1)) (hv : Int32.ofInt n = v) (kk : X G k ce (pc + 1) L (.int v :: st)) : X G k ce pc L st := fun H locs ls hP hD hS hl => lv_iconst h.1 h.2.1 hdg hv (kk H locs ls hP hD hS hl)
theorem x_bipush {n : Int} {v : Int32} (h : Ok G k cc own rm) (hdg : decode cc pc = .ok (.bipush n, 2)) (hv : (Int8.ofInt n).toInt32 = v) (kk : X G k ce (pc + 2) L (.int v :: st)) : X G k ce pc L st := fun H locs ls hP hD hS hl => lv_bipush h.1 h.2.1 hdg hv (kk H locs ls hP hD hS hl)
theorem x_sipush {n : Int} {v : Int32} (h : Ok G k cc own rm) (hdg : decode cc pc = .ok (.sipush n, 3)) (hv : (Int16.ofInt n).toInt32 = v) (kk : X G k ce (pc + 3) L (.int v :: st)) : X G k ce pc L st := fun H locs ls hP hD hS hl => lv_sipush h.1 h.2.1 hdg hv (kk H locs ls hP hD hS hl)
theorem x_ldc {index : Nat} {v : Int32} (h : Ok G k cc own rm) (hw : Cond.constant own index v ∈ UW) (hdg : decode cc pc = .ok (.ldc index, 2)) (kk : X G k ce (pc + 2) L (.int v :: st)) : X G k ce pc L st := fun H locs ls hP hD hS hl => lv_ldc h.1 h.2.1 h.2.2.2.1 (h.2.2.2.2.1 _ hw) hdg (kk H locs ls hP hD hS hl)
theorem x_ldcw {index : Nat} {v : Int32} (h : Ok G k cc own rm) (hw : Cond.constant own index v ∈ UW) (hdg : decode cc pc = .ok (.ldc_w index, 3)) (kk : X G k ce (pc + 3) L (.int v :: st)) : X G k ce pc L st := fun H locs ls hP hD hS hl => lv_ldcw h.1 h.2.1 h.2.2.2.1 (h.2.2.2.2.1 _ hw) hdg (kk H locs ls hP hD hS hl)
theorem x_null (h : Ok G k cc own rm) (hdg : decode cc pc = .ok (.aconst_null, 1)) (kk : X G k ce (pc + 1) L (.null :: st)) : X G k ce pc L st := fun H locs ls hP hD hS hl => lv_null h.1 h.2.1 hdg (kk H locs ls hP hD hS hl)
theorem x_lconst {n : Fin 2} {v : Int64} (h : Ok G k cc own rm) (hdg : decode cc pc = .ok (.lconst n, 1)) (hv : Int64.ofNat (n : Nat) = v) (kk : X G k ce (pc + 1) L (.long v :: st)) : X G k ce pc L st := fun H locs ls hP hD hS hl => lv_lconst h.1 h.2.1 hdg hv (kk H locs ls hP hD hS hl)
theorem x_iadd {x y : Int32} (h : Ok G k cc own rm) (hdg : decode cc pc = .ok (.iadd, 1)) (kk : X G k ce (pc + 1) L (.int (x + y) :: st)) : X G k ce pc L (.int y :: .int x :: st) := fun H locs ls hP hD hS hl => lv_iadd h.1 h.2.1 hdg (kk H locs ls hP hD hS hl)
theorem x_isub {x y : Int32} (h : Ok G k cc own rm) (hdg : decode cc pc = .ok (.isub, 1)) (kk : X G k ce (pc + 1) L (.int (x - y) :: st)) : X G k ce pc L (.int y :: .int x :: st) := fun H locs ls hP hD hS hl => lv_isub h.1 h.2.1 hdg (kk H locs ls hP hD hS hl)
theorem x_imul {x y : Int32} (h : Ok G k cc own rm) (hdg : decode cc pc = .ok (.imul, 1)) (kk : X G k ce (pc + 1) L (.int (x * y) :: st)) : X G k ce pc L (.int y :: .int x :: st) := fun H locs ls hP hD hS hl => lv_imul h.1 h.2.1 hdg (kk H locs ls hP hD hS hl)
theorem x_iand {x y : Int32} (h : Ok G k cc own rm) (hdg : decode cc pc = .ok (.iand, 1)) (kk : X G k ce (pc + 1) L (.int (x &&& y) :: st)) : X G k ce pc L (.int y :: .int x :: st) := fun H locs ls hP hD hS hl => lv_iand h.1 h.2.1 hdg (kk H locs ls hP hD hS hl)
theorem x_ior {x y : Int32} (h : Ok G k cc own rm) (hdg : decode cc pc = .ok (.ior, 1)) (kk : X G k ce (pc + 1) L (.int (x ||| y) :: st)) : X G k ce pc L (.int y :: .int x :: st) := fun H locs ls hP hD hS hl => lv_ior h.1 h.2.1 hdg (kk H locs ls hP hD hS hl)
/-- the remainder as the machine gives it -/
def jrem (x y : Int32) : Int32 := x - x / y * y
theorem x_idiv {x y : Int32} (h : Ok G k cc own rm) (hdg : decode cc pc = .ok (.idiv, 1)) (hne : ¬ y = 0) (kk : X G k ce (pc + 1) L (.int (x / y) :: st)) : X G k ce pc L (.int y :: .int x :: st) := fun H locs ls hP hD hS hl => lv_idiv h.1 h.2.1 hdg hne (kk H locs ls hP hD hS hl)
theorem x_irem {x y : Int32} (h : Ok G k cc own rm) (hdg : decode cc pc = .ok (.irem, 1)) (hne : ¬ y = 0) (kk : X G k ce (pc + 1) L (.int (jrem x y) :: st)) : X G k ce pc L (.int y :: .int x :: st) := fun H locs ls hP hD hS hl => lv_irem h.1 h.2.1 hdg hne (kk H locs ls hP hD hS hl)
theorem x_dup {v : Value} (h : Ok G k cc own rm) (hdg : decode cc pc = .ok (.dup, 1)) (hc : v.category = 1) (kk : X G k ce (pc + 1) L (v :: v :: st)) : X G k ce pc L (v :: st) := fun H locs ls hP hD hS hl => lv_dup h.1 h.2.1 hdg hc (kk H locs ls hP hD hS hl)
theorem x_goto {off : Int} (tgt : Nat) (h : Ok G k cc own rm) (hdg : decode cc pc = .ok (.goto off, 3)) (ht : (pc : Int) + off = (tgt : Int)) (kk : X G k ce tgt L st) : X G k ce pc L st := fun H locs ls hP hD hS hl => lv_goto h.1 h.2.1 hdg ht (kk H locs ls hP hD hS hl)
theorem x_if_eq {x : Int32} {off : Int} (tgt : Nat) (h : Ok G k cc own rm) (hdg : decode cc pc = .ok (.ifCond .eq off, 3)) (ht : (pc : Int) + off = (tgt : Int)) (kt : x = 0 → X G k ce tgt L st) (kf : ¬ (x = 0) → X G k ce (pc + 3) L st) : X G k ce pc L (.int x :: st) := fun H locs ls hP hD hS hl => lv_if_eq h.1 h.2.1 hdg ht (fun c => kt c H locs ls hP hD hS hl) (fun c => kf c H locs ls hP hD hS hl)
theorem x_icmp_eq {x y : Int32} {off : Int} (tgt : Nat) (h : Ok G k cc own rm) (hdg : decode cc pc = .ok (.if_icmp .eq off, 3)) (ht : (pc : Int) + off = (tgt : Int)) (kt : x = y → X G k ce tgt L st) (kf : ¬ (x = y) → X G k ce (pc + 3) L st) : X G k ce pc L (.int y :: .int x :: st) := fun H locs ls hP hD hS hl => lv_icmp_eq h.1 h.2.1 hdg ht (fun c => kt c H locs ls hP hD hS hl) (fun c => kf c H locs ls hP hD hS hl)
theorem x_if_ne {x : Int32} {off : Int} (tgt : Nat) (h : Ok G k cc own rm) (hdg : decode cc pc = .ok (.ifCond .ne off, 3)) (ht : (pc : Int) + off = (tgt : Int)) (kt : ¬ x = 0 → X G k ce tgt L st) (kf : x = 0 → X G k ce (pc + 3) L st) : X G k ce pc L (.int x :: st) := fun H locs ls hP hD hS hl => lv_if_ne h.1 h.2.1 hdg ht (fun c => kt c H locs ls hP hD hS hl) (fun c => kf c H locs ls hP hD hS hl)
theorem x_icmp_ne {x y : Int32} {off : Int} (tgt : Nat) (h : Ok G k cc own rm) (hdg : decode cc pc = .ok (.if_icmp .ne off, 3)) (ht : (pc : Int) + off = (tgt : Int)) (kt : ¬ x = y → X G k ce tgt L st) (kf : x = y → X G k ce (pc + 3) L st) : X G k ce pc L (.int y :: .int x :: st) := fun H locs ls hP hD hS hl => lv_icmp_ne h.1 h.2.1 hdg ht (fun c => kt c H locs ls hP hD hS hl) (fun c => kf c H locs ls hP hD hS hl)
theorem x_if_lt {x : Int32} {off : Int} (tgt : Nat) (h : Ok G k cc own rm) (hdg : decode cc pc = .ok (.ifCond .lt off, 3)) (ht : (pc : Int) + off = (tgt : Int)) (kt : x < 0 → X G k ce tgt L st) (kf : ¬ (x < 0) → X G k ce (pc + 3) L st) : X G k ce pc L (.int x :: st) := fun H locs ls hP hD hS hl => lv_if_lt h.1 h.2.1 hdg ht (fun c => kt c H locs ls hP hD hS hl) (fun c => kf c H locs ls hP hD hS hl)
theorem x_icmp_lt {x y : Int32} {off : Int} (tgt : Nat) (h : Ok G k cc own rm) (hdg : decode cc pc = .ok (.if_icmp .lt off, 3)) (ht : (pc : Int) + off = (tgt : Int)) (kt : x < y → X G k ce tgt L st) (kf : ¬ (x < y) → X G k ce (pc + 3) L st) : X G k ce pc L (.int y :: .int x :: st) := fun H locs ls hP hD hS hl => lv_icmp_lt h.1 h.2.1 hdg ht (fun c => kt c H locs ls hP hD hS hl) (fun c => kf c H locs ls hP hD hS hl)
theorem x_if_ge {x : Int32} {off : Int} (tgt : Nat) (h : Ok G k cc own rm) (hdg : decode cc pc = .ok (.ifCond .ge off, 3)) (ht : (pc : Int) + off = (tgt : Int)) (kt : 0 ≤ x → X G k ce tgt L st) (kf : ¬ (0 ≤ x) → X G k ce (pc + 3) L st) : X G k ce pc L (.int x :: st) := fun H locs ls hP hD hS hl => lv_if_ge h.1 h.2.1 hdg ht (fun c => kt c H locs ls hP hD hS hl) (fun c => kf c H locs ls hP hD hS hl)
theorem x_icmp_ge {x y : Int32} {off : Int} (tgt : Nat) (h : Ok G k cc own rm) (hdg : decode cc pc = .ok (.if_icmp .ge off, 3)) (ht : (pc : Int) + off = (tgt : Int)) (kt : y ≤ x → X G k ce tgt L st) (kf : ¬ (y ≤ x) → X G k ce (pc + 3) L st) : X G k ce pc L (.int y :: .int x :: st) := fun H locs ls hP hD hS hl => lv_icmp_ge h.1 h.2.1 hdg ht (fun c => kt c H locs ls hP hD hS hl) (fun c => kf c H locs ls hP hD hS hl)
theorem x_if_gt {x : Int32} {off : Int} (tgt : Nat) (h : Ok G k cc own rm) (hdg : decode cc pc = .ok (.ifCond .gt off, 3)) (ht : (pc : Int) + off = (tgt : Int)) (kt : 0 < x → X G k ce tgt L st) (kf : ¬ (0 < x) → X G k ce (pc + 3) L st) : X G k ce pc L (.int x :: st) := fun H locs ls hP hD hS hl => lv_if_gt h.1 h.2.1 hdg ht (fun c => kt c H locs ls hP hD hS hl) (fun c => kf c H locs ls hP hD hS hl)
theorem x_icmp_gt {x y : Int32} {off : Int} (tgt : Nat) (h : Ok G k cc own rm) (hdg : decode cc pc = .ok (.if_icmp .gt off, 3)) (ht : (pc : Int) + off = (tgt : Int)) (kt : y < x → X G k ce tgt L st) (kf : ¬ (y < x) → X G k ce (pc + 3) L st) : X G k ce pc L (.int y :: .int x :: st) := fun H locs ls hP hD hS hl => lv_icmp_gt h.1 h.2.1 hdg ht (fun c => kt c H locs ls hP hD hS hl) (fun c => kf c H locs ls hP hD hS hl)
theorem x_if_le {x : Int32} {off : Int} (tgt : Nat) (h : Ok G k cc own rm) (hdg : decode cc pc = .ok (.ifCond .le off, 3)) (ht : (pc : Int) + off = (tgt : Int)) (kt : x ≤ 0 → X G k ce tgt L st) (kf : ¬ (x ≤ 0) → X G k ce (pc + 3) L st) : X G k ce pc L (.int x :: st) := fun H locs ls hP hD hS hl => lv_if_le h.1 h.2.1 hdg ht (fun c => kt c H locs ls hP hD hS hl) (fun c => kf c H locs ls hP hD hS hl)
theorem x_icmp_le {x y : Int32} {off : Int} (tgt : Nat) (h : Ok G k cc own rm) (hdg : decode cc pc = .ok (.if_icmp .le off, 3)) (ht : (pc : Int) + off = (tgt : Int)) (kt : x ≤ y → X G k ce tgt L st) (kf : ¬ (x ≤ y) → X G k ce (pc + 3) L st) : X G k ce pc L (.int y :: .int x :: st) := fun H locs ls hP hD hS hl => lv_icmp_le h.1 h.2.1 hdg ht (fun c => kt c H locs ls hP hD hS hl) (fun c => kf c H locs ls hP hD hS hl)
theorem x_ild0 {t : List (Option Value)} {x : Int32} (h : Ok G k cc own rm) (hdg : decode cc pc = .ok (.iload_n 0, 1)) (kk : X G k ce (pc + 1) (some (.int x) :: t) (.int x :: st)) : X G k ce pc (some (.int x) :: t) st := fun H locs ls hP hD hS hl => lv_iload_n h.1 h.2.1 hdg rfl (hl.2.2 0 _ rfl) (kk H locs ls hP hD hS hl)
theorem x_ald0 {t : List (Option Value)} {x : Nat} (h : Ok G k cc own rm) (hdg : decode cc pc = .ok (.aload_n 0, 1)) (kk : X G k ce (pc + 1) (some (.ref x) :: t) (.ref x :: st)) : X G k ce pc (some (.ref x) :: t) st := fun H locs ls hP hD hS hl => lv_aload_n h.1 h.2.1 hdg rfl (hl.2.2 0 _ rfl) (kk H locs ls hP hD hS hl)
theorem x_ist0 {b : Option Value} {t : List (Option Value)} {x : Int32} (h : Ok G k cc own rm) (hdg : decode cc pc = .ok (.istore_n 0, 1)) (hn : 0 < kL k) (kk : X G k ce (pc + 1) (some (.int x) :: t) st) : X G k ce pc (b :: t) (.int x :: st) := fun H locs ls hP hD hS hl => lv_istore_n h.1 h.2.1 hdg rfl (lh_has hl) hn rfl (fun ls' hl' => kk H locs ls' hP hD hS (lh_set (i := 0) (L := b :: t) (Or.inl rfl) hl'))
theorem x_ast0 {b : Option Value} {t : List (Option Value)} {x : Nat} (h : Ok G k cc own rm) (hdg : decode cc pc = .ok (.astore_n 0, 1)) (hn : 0 < kL k) (kk : X G k ce (pc + 1) (some (.ref x) :: t) st) : X G k ce pc (b :: t) (.ref x :: st) := fun H locs ls hP hD hS hl => lv_astore_n h.1 h.2.1 hdg rfl (lh_has hl) hn rfl (fun ls' hl' => kk H locs ls' hP hD hS (lh_set (i := 0) (L := b :: t) (Or.inl rfl) hl'))
theorem x_inc0 {t : List (Option Value)} {x y : Int32} {n : Int} (h : Ok G k cc own rm) (hdg : decode cc pc = .ok (.iinc 0 n, 3)) (hn : 0 < kL k) (hv : Int32.ofInt n = y) (kk : X G k ce (pc + 3) (some (.int (x + y)) :: t) st) : X G k ce pc (some (.int x) :: t) st := by
  intro H locs ls hP hD hS hl
  obtain ⟨j, hj⟩ := List.getElem?_of_mem (lhl_mem.mpr (show (some (.int x) :: t)[0]? = some (some (.int x)) from rfl))
  exact lv_iinc h.1 h.2.1 hdg (lh_has hl) (k := j) hj (by rw [hv]) hn rfl (fun ls' hl' => kk H locs ls' hP hD hS (lh_set (i := 0) (L := some (.int x) :: t) (Or.inl rfl) hl'))
theorem x_ild1 {a0 : Option Value} {t : List (Option Value)} {x : Int32} (h : Ok G k cc own rm) (hdg : decode cc pc = .ok (.iload_n 1, 1)) (kk : X G k ce (pc + 1) (a0 :: some (.int x) :: t) (.int x :: st)) : X G k ce pc (a0 :: some (.int x) :: t) st := fun H locs ls hP hD hS hl => lv_iload_n h.1 h.2.1 hdg rfl (hl.2.2 1 _ rfl) (kk H locs ls hP hD hS hl)
theorem x_ald1 {a0 : Option Value} {t : List (Option Value)} {x : Nat} (h : Ok G k cc own rm) (hdg : decode cc pc = .ok (.aload_n 1, 1)) (kk : X G k ce (pc + 1) (a0 :: some (.ref x) :: t) (.ref x :: st)) : X G k ce pc (a0 :: some (.ref x) :: t) st := fun H locs ls hP hD hS hl => lv_aload_n h.1 h.2.1 hdg rfl (hl.2.2 1 _ rfl) (kk H locs ls hP hD hS hl)
theorem x_ist1 {a0 : Option Value} {b : Option Value} {t : List (Option Value)} {x : Int32} (h : Ok G k cc own rm) (hdg : decode cc pc = .ok (.istore_n 1, 1)) (hn : 1 < kL k) (hq : c1o (some a0) = true) (kk : X G k ce (pc + 1) (a0 :: some (.int x) :: t) st) : X G k ce pc (a0 :: b :: t) (.int x :: st) := fun H locs ls hP hD hS hl => lv_istore_n h.1 h.2.1 hdg rfl (lh_has hl) hn rfl (fun ls' hl' => kk H locs ls' hP hD hS (lh_set (i := 1) (L := a0 :: b :: t) (Or.inr hq) hl'))
theorem x_ast1 {a0 : Option Value} {b : Option Value} {t : List (Option Value)} {x : Nat} (h : Ok G k cc own rm) (hdg : decode cc pc = .ok (.astore_n 1, 1)) (hn : 1 < kL k) (hq : c1o (some a0) = true) (kk : X G k ce (pc + 1) (a0 :: some (.ref x) :: t) st) : X G k ce pc (a0 :: b :: t) (.ref x :: st) := fun H locs ls hP hD hS hl => lv_astore_n h.1 h.2.1 hdg rfl (lh_has hl) hn rfl (fun ls' hl' => kk H locs ls' hP hD hS (lh_set (i := 1) (L := a0 :: b :: t) (Or.inr hq) hl'))
theorem x_inc1 {a0 : Option Value} {t : List (Option Value)} {x y : Int32} {n : Int} (h : Ok G k cc own rm) (hdg : decode cc pc = .ok (.iinc 1 n, 3)) (hn : 1 < kL k) (hq : c1o (some a0) = true) (hv : Int32.ofInt n = y) (kk : X G k ce (pc + 3) (a0 :: some (.int (x + y)) :: t) st) : X G k ce pc (a0 :: some (.int x) :: t) st := by
  intro H locs ls hP hD hS hl
  obtain ⟨j, hj⟩ := List.getElem?_of_mem (lhl_mem.mpr (show (a0 :: some (.int x) :: t)[1]? = some (some (.int x)) from rfl))
  exact lv_iinc h.1 h.2.1 hdg (lh_has hl) (k := j) hj (by rw [hv]) hn rfl (fun ls' hl' => kk H locs ls' hP hD hS (lh_set (i := 1) (L := a0 :: some (.int x) :: t) (Or.inr hq) hl'))
theorem x_ild2 {a0 a1 : Option Value} {t : List (Option Value)} {x : Int32} (h : Ok G k cc own rm) (hdg : decode cc pc = .ok (.iload_n 2, 1)) (kk : X G k ce (pc + 1) (a0 :: a1 :: some (.int x) :: t) (.int x :: st)) : X G k ce pc (a0 :: a1 :: some (.int x) :: t) st := fun H locs ls hP hD hS hl => lv_iload_n h.1 h.2.1 hdg rfl (hl.2.2 2 _ rfl) (kk H locs ls hP hD hS hl)
theorem x_ald2 {a0 a1 : Option Value} {t : List (Option Value)} {x : Nat} (h : Ok G k cc own rm) (hdg : decode cc pc = .ok (.aload_n 2, 1)) (kk : X G k ce (pc + 1) (a0 :: a1 :: some (.ref x) :: t) (.ref x :: st)) : X G k ce pc (a0 :: a1 :: some (.ref x) :: t) st := fun H locs ls hP hD hS hl => lv_aload_n h.1 h.2.1 hdg rfl (hl.2.2 2 _ rfl) (kk H locs ls hP hD hS hl)
theorem x_ist2 {a0 a1 : Option Value} {b : Option Value} {t : List (Option Value)} {x : Int32} (h : Ok G k cc own rm) (hdg : decode cc pc = .ok (.istore_n 2, 1)) (hn : 2 < kL k) (hq : c1o (some a1) = true) (kk : X G k ce (pc + 1) (a0 :: a1 :: some (.int x) :: t) st) : X G k ce pc (a0 :: a1 :: b :: t) (.int x :: st) := fun H locs ls hP hD hS hl => lv_istore_n h.1 h.2.1 hdg rfl (lh_has hl) hn rfl (fun ls' hl' => kk H locs ls' hP hD hS (lh_set (i := 2) (L := a0 :: a1 :: b :: t) (Or.inr hq) hl'))
theorem x_ast2 {a0 a1 : Option Value} {b : Option Value} {t : List (Option Value)} {x : Nat} (h : Ok G k cc own rm) (hdg : decode cc pc = .ok (.astore_n 2, 1)) (hn : 2 < kL k) (hq : c1o (some a1) = true) (kk : X G k ce (pc + 1) (a0 :: a1 :: some (.ref x) :: t) st) : X G k ce pc (a0 :: a1 :: b :: t) (.ref x :: st) := fun H locs ls hP hD hS hl => lv_astore_n h.1 h.2.1 hdg rfl (lh_has hl) hn rfl (fun ls' hl' => kk H locs ls' hP hD hS (lh_set (i := 2) (L := a0 :: a1 :: b :: t) (Or.inr hq) hl'))
theorem x_inc2 {a0 a1 : Option Value} {t : List (Option Value)} {x y : Int32} {n : Int} (h : Ok G k cc own rm) (hdg : decode cc pc = .ok (.iinc 2 n, 3)) (hn : 2 < kL k) (hq : c1o (some a1) = true) (hv : Int32.ofInt n = y) (kk : X G k ce (pc + 3) (a0 :: a1 :: some (.int (x + y)) :: t) st) : X G k ce pc (a0 :: a1 :: some (.int x) :: t) st := by
  intro H locs ls hP hD hS hl
  obtain ⟨j, hj⟩ := List.getElem?_of_mem (lhl_mem.mpr (show (a0 :: a1 :: some (.int x) :: t)[2]? = some (some (.int x)) from rfl))
  exact lv_iinc h.1 h.2.1 hdg (lh_has hl) (k := j) hj (by rw [hv]) hn rfl (fun ls' hl' => kk H locs ls' hP hD hS (lh_set (i := 2) (L := a0 :: a1 :: some (.int x) :: t) (Or.inr hq) hl'))
theorem x_ild3 {a0 a1 a2 : Option Value} {t : List (Option Value)} {x : Int32} (h : Ok G k cc own rm) (hdg : decode cc pc = .ok (.iload_n 3, 1)) (kk : X G k ce (pc + 1) (a0 :: a1 :: a2 :: some (.int x) :: t) (.int x :: st)) : X G k ce pc (a0 :: a1 :: a2 :: some (.int x) :: t) st := fun H locs ls hP hD hS hl => lv_iload_n h.1 h.2.1 hdg rfl (hl.2.2 3 _ rfl) (kk H locs ls hP hD hS hl)
theorem x_ald3 {a0 a1 a2 : Option Value} {t : List (Option Value)} {x : Nat} (h : Ok G k cc own rm) (hdg : decode cc pc = .ok (.aload_n 3, 1)) (kk : X G k ce (pc + 1) (a0 :: a1 :: a2 :: some (.ref x) :: t) (.ref x :: st)) : X G k ce pc (a0 :: a1 :: a2 :: some (.ref x) :: t) st := fun H locs ls hP hD hS hl => lv_aload_n h.1 h.2.1 hdg rfl (hl.2.2 3 _ rfl) (kk H locs ls hP hD hS hl)
theorem x_ist3 {a0 a1 a2 : Option Value} {b : Option Value} {t : List (Option Value)} {x : Int32} (h : Ok G k cc own rm) (hdg : decode cc pc = .ok (.istore_n 3, 1)) (hn : 3 < kL k) (hq : c1o (some a2) = true) (kk : X G k ce (pc + 1) (a0 :: a1 :: a2 :: some (.int x) :: t) st) : X G k ce pc (a0 :: a1 :: a2 :: b :: t) (.int x :: st) := fun H locs ls hP hD hS hl => lv_istore_n h.1 h.2.1 hdg rfl (lh_has hl) hn rfl (fun ls' hl' => kk H locs ls' hP hD hS (lh_set (i := 3) (L := a0 :: a1 :: a2 :: b :: t) (Or.inr hq) hl'))
theorem x_ast3 {a0 a1 a2 : Option Value} {b : Option Value} {t : List (Option Value)} {x : Nat} (h : Ok G k cc own rm) (hdg : decode cc pc = .ok (.astore_n 3, 1)) (hn : 3 < kL k) (hq : c1o (some a2) = true) (kk : X G k ce (pc + 1) (a0 :: a1 :: a2 :: some (.ref x) :: t) st) : X G k ce pc (a0 :: a1 :: a2 :: b :: t) (.ref x :: st) := fun H locs ls hP hD hS hl => lv_astore_n h.1 h.2.1 hdg rfl (lh_has hl) hn rfl (fun ls' hl' => kk H locs ls' hP hD hS (lh_set (i := 3) (L := a0 :: a1 :: a2 :: b :: t) (Or.inr hq) hl'))
theorem x_inc3 {a0 a1 a2 : Option Value} {t : List (Option Value)} {x y : Int32} {n : Int} (h : Ok G k cc own rm) (hdg : decode cc pc = .ok (.iinc 3 n, 3)) (hn : 3 < kL k) (hq : c1o (some a2) = true) (hv : Int32.ofInt n = y) (kk : X G k ce (pc + 3) (a0 :: a1 :: a2 :: some (.int (x + y)) :: t) st) : X G k ce pc (a0 :: a1 :: a2 :: some (.int x) :: t) st := by
  intro H locs ls hP hD hS hl
  obtain ⟨j, hj⟩ := List.getElem?_of_mem (lhl_mem.mpr (show (a0 :: a1 :: a2 :: some (.int x) :: t)[3]? = some (some (.int x)) from rfl))
  exact lv_iinc h.1 h.2.1 hdg (lh_has hl) (k := j) hj (by rw [hv]) hn rfl (fun ls' hl' => kk H locs ls' hP hD hS (lh_set (i := 3) (L := a0 :: a1 :: a2 :: some (.int x) :: t) (Or.inr hq) hl'))
theorem x_ild4 {a0 a1 a2 a3 : Option Value} {t : List (Option Value)} {x : Int32} (h : Ok G k cc own rm) (hdg : decode cc pc = .ok (.iload 4, 2)) (kk : X G k ce (pc + 2) (a0 :: a1 :: a2 :: a3 :: some (.int x) :: t) (.int x :: st)) : X G k ce pc (a0 :: a1 :: a2 :: a3 :: some (.int x) :: t) st := fun H locs ls hP hD hS hl => lv_iload h.1 h.2.1 hdg (hl.2.2 4 _ rfl) (kk H locs ls hP hD hS hl)
theorem x_ald4 {a0 a1 a2 a3 : Option Value} {t : List (Option Value)} {x : Nat} (h : Ok G k cc own rm) (hdg : decode cc pc = .ok (.aload 4, 2)) (kk : X G k ce (pc + 2) (a0 :: a1 :: a2 :: a3 :: some (.ref x) :: t) (.ref x :: st)) : X G k ce pc (a0 :: a1 :: a2 :: a3 :: some (.ref x) :: t) st := fun H locs ls hP hD hS hl => lv_aload h.1 h.2.1 hdg (hl.2.2 4 _ rfl) (kk H locs ls hP hD hS hl)
theorem x_ist4 {a0 a1 a2 a3 : Option Value} {b : Option Value} {t : List (Option Value)} {x : Int32} (h : Ok G k cc own rm) (hdg : decode cc pc = .ok (.istore 4, 2)) (hn : 4 < kL k) (hq : c1o (some a3) = true) (kk : X G k ce (pc + 2) (a0 :: a1 :: a2 :: a3 :: some (.int x) :: t) st) : X G k ce pc (a0 :: a1 :: a2 :: a3 :: b :: t) (.int x :: st) := fun H locs ls hP hD hS hl => lv_istore h.1 h.2.1 hdg (lh_has hl) hn rfl (fun ls' hl' => kk H locs ls' hP hD hS (lh_set (i := 4) (L := a0 :: a1 :: a2 :: a3 :: b :: t) (Or.inr hq) hl'))
theorem x_ast4 {a0 a1 a2 a3 : Option Value} {b : Option Value} {t : List (Option Value)} {x : Nat} (h : Ok G k cc own rm) (hdg : decode cc pc = .ok (.astore 4, 2)) (hn : 4 < kL k) (hq : c1o (some a3) = true) (kk : X G k ce (pc + 2) (a0 :: a1 :: a2 :: a3 :: some (.ref x) :: t) st) : X G k ce pc (a0 :: a1 :: a2 :: a3 :: b :: t) (.ref x :: st) := fun H locs ls hP hD hS hl => lv_astore h.1 h.2.1 hdg (lh_has hl) hn rfl (fun ls' hl' => kk H locs ls' hP hD hS (lh_set (i := 4) (L := a0 :: a1 :: a2 :: a3 :: b :: t) (Or.inr hq) hl'))
theorem x_inc4 {a0 a1 a2 a3 : Option Value} {t : List (Option Value)} {x y : Int32} {n : Int} (h : Ok G k cc own rm) (hdg : decode cc pc = .ok (.iinc 4 n, 3)) (hn : 4 < kL k) (hq : c1o (some a3) = true) (hv : Int32.ofInt n = y) (kk : X G k ce (pc + 3) (a0 :: a1 :: a2 :: a3 :: some (.int (x + y)) :: t) st) : X G k ce pc (a0 :: a1 :: a2 :: a3 :: some (.int x) :: t) st := by
  intro H locs ls hP hD hS hl
  obtain ⟨j, hj⟩ := List.getElem?_of_mem (lhl_mem.mpr (show (a0 :: a1 :: a2 :: a3 :: some (.int x) :: t)[4]? = some (some (.int x)) from rfl))
  exact lv_iinc h.1 h.2.1 hdg (lh_has hl) (k := j) hj (by rw [hv]) hn rfl (fun ls' hl' => kk H locs ls' hP hD hS (lh_set (i := 4) (L := a0 :: a1 :: a2 :: a3 :: some (.int x) :: t) (Or.inr hq) hl'))
theorem x_ild5 {a0 a1 a2 a3 a4 : Option Value} {t : List (Option Value)} {x : Int32} (h : Ok G k cc own rm) (hdg : decode cc pc = .ok (.iload 5, 2)) (kk : X G k ce (pc + 2) (a0 :: a1 :: a2 :: a3 :: a4 :: some (.int x) :: t) (.int x :: st)) : X G k ce pc (a0 :: a1 :: a2 :: a3 :: a4 :: some (.int x) :: t) st := fun H locs ls hP hD hS hl => lv_iload h.1 h.2.1 hdg (hl.2.2 5 _ rfl) (kk H locs ls hP hD hS hl)
theorem x_ald5 {a0 a1 a2 a3 a4 : Option Value} {t : List (Option Value)} {x : Nat} (h : Ok G k cc own rm) (hdg : decode cc pc = .ok (.aload 5, 2)) (kk : X G k ce (pc + 2) (a0 :: a1 :: a2 :: a3 :: a4 :: some (.ref x) :: t) (.ref x :: st)) : X G k ce pc (a0 :: a1 :: a2 :: a3 :: a4 :: some (.ref x) :: t) st := fun H locs ls hP hD hS hl => lv_aload h.1 h.2.1 hdg (hl.2.2 5 _ rfl) (kk H locs ls hP hD hS hl)
theorem x_ist5 {a0 a1 a2 a3 a4 : Option Value} {b : Option Value} {t : List (Option Value)} {x : Int32} (h : Ok G k cc own rm) (hdg : decode cc pc = .ok (.istore 5, 2)) (hn : 5 < kL k) (hq : c1o (some a4) = true) (kk : X G k ce (pc + 2) (a0 :: a1 :: a2 :: a3 :: a4 :: some (.int x) :: t) st) : X G k ce pc (a0 :: a1 :: a2 :: a3 :: a4 :: b :: t) (.int x :: st) := fun H locs ls hP hD hS hl => lv_istore h.1 h.2.1 hdg (lh_has hl) hn rfl (fun ls' hl' => kk H locs ls' hP hD hS (lh_set (i := 5) (L := a0 :: a1 :: a2 :: a3 :: a4 :: b :: t) (Or.inr hq) hl'))
theorem x_ast5 {a0 a1 a2 a3 a4 : Option Value} {b : Option Value} {t : List (Option Value)} {x : Nat} (h : Ok G k cc own rm) (hdg : decode cc pc = .ok (.astore 5, 2)) (hn : 5 < kL k) (hq : c1o (some a4) = true) (kk : X G k ce (pc + 2) (a0 :: a1 :: a2 :: a3 :: a4 :: some (.ref x) :: t) st) : X G k ce pc (a0 :: a1 :: a2 :: a3 :: a4 :: b :: t) (.ref x :: st) := fun H locs ls hP hD hS hl => lv_astore h.1 h.2.1 hdg (lh_has hl) hn rfl (fun ls' hl' => kk H locs ls' hP hD hS (lh_set (i := 5) (L := a0 :: a1 :: a2 :: a3 :: a4 :: b :: t) (Or.inr hq) hl'))
theorem x_inc5 {a0 a1 a2 a3 a4 : Option Value} {t : List (Option Value)} {x y : Int32} {n : Int} (h : Ok G k cc own rm) (hdg : decode cc pc = .ok (.iinc 5 n, 3)) (hn : 5 < kL k) (hq : c1o (some a4) = true) (hv : Int32.ofInt n = y) (kk : X G k ce (pc + 3) (a0 :: a1 :: a2 :: a3 :: a4 :: some (.int (x + y)) :: t) st) : X G k ce pc (a0 :: a1 :: a2 :: a3 :: a4 :: some (.int x) :: t) st := by
  intro H locs ls hP hD hS hl
  obtain ⟨j, hj⟩ := List.getElem?_of_mem (lhl_mem.mpr (show (a0 :: a1 :: a2 :: a3 :: a4 :: some (.int x) :: t)[5]? = some (some (.int x)) from rfl))
  exact lv_iinc h.1 h.2.1 hdg (lh_has hl) (k := j) hj (by rw [hv]) hn rfl (fun ls' hl' => kk H locs ls' hP hD hS (lh_set (i := 5) (L := a0 :: a1 :: a2 :: a3 :: a4 :: some (.int x) :: t) (Or.inr hq) hl'))
theorem x_ild6 {a0 a1 a2 a3 a4 a5 : Option Value} {t : List (Option Value)} {x : Int32} (h : Ok G k cc own rm) (hdg : decode cc pc = .ok (.iload 6, 2)) (kk : X G k ce (pc + 2) (a0 :: a1 :: a2 :: a3 :: a4 :: a5 :: some (.int x) :: t) (.int x :: st)) : X G k ce pc (a0 :: a1 :: a2 :: a3 :: a4 :: a5 :: some (.int x) :: t) st := fun H locs ls hP hD hS hl => lv_iload h.1 h.2.1 hdg (hl.2.2 6 _ rfl) (kk H locs ls hP hD hS hl)
theorem x_ald6 {a0 a1 a2 a3 a4 a5 : Option Value} {t : List (Option Value)} {x : Nat} (h : Ok G k cc own rm) (hdg : decode cc pc = .ok (.aload 6, 2)) (kk : X G k ce (pc + 2) (a0 :: a1 :: a2 :: a3 :: a4 :: a5 :: some (.ref x) :: t) (.ref x :: st)) : X G k ce pc (a0 :: a1 :: a2 :: a3 :: a4 :: a5 :: some (.ref x) :: t) st := fun H locs ls hP hD hS hl => lv_aload h.1 h.2.1 hdg (hl.2.2 6 _ rfl) (kk H locs ls hP hD hS hl)
theorem x_ist6 {a0 a1 a2 a3 a4 a5 : Option Value} {b : Option Value} {t : List (Option Value)} {x : Int32} (h : Ok G k cc own rm) (hdg : decode cc pc = .ok (.istore 6, 2)) (hn : 6 < kL k) (hq : c1o (some a5) = true) (kk : X G k ce (pc + 2) (a0 :: a1 :: a2 :: a3 :: a4 :: a5 :: some (.int x) :: t) st) : X G k ce pc (a0 :: a1 :: a2 :: a3 :: a4 :: a5 :: b :: t) (.int x :: st) := fun H locs ls hP hD hS hl => lv_istore h.1 h.2.1 hdg (lh_has hl) hn rfl (fun ls' hl' => kk H locs ls' hP hD hS (lh_set (i := 6) (L := a0 :: a1 :: a2 :: a3 :: a4 :: a5 :: b :: t) (Or.inr hq) hl'))
theorem x_ast6 {a0 a1 a2 a3 a4 a5 : Option Value} {b : Option Value} {t : List (Option Value)} {x : Nat} (h : Ok G k cc own rm) (hdg : decode cc pc = .ok (.astore 6, 2)) (hn : 6 < kL k) (hq : c1o (some a5) = true) (kk : X G k ce (pc + 2) (a0 :: a1 :: a2 :: a3 :: a4 :: a5 :: some (.ref x) :: t) st) : X G k ce pc (a0 :: a1 :: a2 :: a3 :: a4 :: a5 :: b :: t) (.ref x :: st) := fun H locs ls hP hD hS hl => lv_astore h.1 h.2.1 hdg (lh_has hl) hn rfl (fun ls' hl' => kk H locs ls' hP hD hS (lh_set (i := 6) (L := a0 :: a1 :: a2 :: a3 :: a4 :: a5 :: b :: t) (Or.inr hq) hl'))
theorem x_inc6 {a0 a1 a2 a3 a4 a5 : Option Value} {t : List (Option Value)} {x y : Int32} {n : Int} (h : Ok G k cc own rm) (hdg : decode cc pc = .ok (.iinc 6 n, 3)) (hn : 6 < kL k) (hq : c1o (some a5) = true) (hv : Int32.ofInt n = y) (kk : X G k ce (pc + 3) (a0 :: a1 :: a2 :: a3 :: a4 :: a5 :: some (.int (x + y)) :: t) st) : X G k ce pc (a0 :: a1 :: a2 :: a3 :: a4 :: a5 :: some (.int x) :: t) st := by
  intro H locs ls hP hD hS hl
  obtain ⟨j, hj⟩ := List.getElem?_of_mem (lhl_mem.mpr (show (a0 :: a1 :: a2 :: a3 :: a4 :: a5 :: some (.int x) :: t)[6]? = some (some (.int x)) from rfl))
  exact lv_iinc h.1 h.2.1 hdg (lh_has hl) (k := j) hj (by rw [hv]) hn rfl (fun ls' hl' => kk H locs ls' hP hD hS (lh_set (i := 6) (L := a0 :: a1 :: a2 :: a3 :: a4 :: a5 :: some (.int x) :: t) (Or.inr hq) hl'))
theorem x_ild7 {a0 a1 a2 a3 a4 a5 a6 : Option Value} {t : List (Option Value)} {x : Int32} (h : Ok G k cc own rm) (hdg : decode cc pc = .ok (.iload 7, 2)) (kk : X G k ce (pc + 2) (a0 :: a1 :: a2 :: a3 :: a4 :: a5 :: a6 :: some (.int x) :: t) (.int x :: st)) : X G k ce pc (a0 :: a1 :: a2 :: a3 :: a4 :: a5 :: a6 :: some (.int x) :: t) st := fun H locs ls hP hD hS hl => lv_iload h.1 h.2.1 hdg (hl.2.2 7 _ rfl) (kk H locs ls hP hD hS hl)
theorem x_ald7 {a0 a1 a2 a3 a4 a5 a6 : Option Value} {t : List (Option Value)} {x : Nat} (h : Ok G k cc own rm) (hdg : decode cc pc = .ok (.aload 7, 2)) (kk : X G k ce (pc + 2) (a0 :: a1 :: a2 :: a3 :: a4 :: a5 :: a6 :: some (.ref x) :: t) (.ref x :: st)) : X G k ce pc (a0 :: a1 :: a2 :: a3 :: a4 :: a5 :: a6 :: some (.ref x) :: t) st := fun H locs ls hP hD hS hl => lv_aload h.1 h.2.1 hdg (hl.2.2 7 _ rfl) (kk H locs ls hP hD hS hl)
theorem x_ist7 {a0 a1 a2 a3 a4 a5 a6 : Option Value} {b : Option Value} {t : List (Option Value)} {x : Int32} (h : Ok G k cc own rm) (hdg : decode cc pc = .ok (.istore 7, 2)) (hn : 7 < kL k) (hq : c1o (some a6) = true) (kk : X G k ce (pc + 2) (a0 :: a1 :: a2 :: a3 :: a4 :: a5 :: a6 :: some (.int x) :: t) st) : X G k ce pc (a0 :: a1 :: a2 :: a3 :: a4 :: a5 :: a6 :: b :: t) (.int x :: st) := fun H locs ls hP hD hS hl => lv_istore h.1 h.2.1 hdg (lh_has hl) hn rfl (fun ls' hl' => kk H locs ls' hP hD hS (lh_set (i := 7) (L := a0 :: a1 :: a2 :: a3 :: a4 :: a5 :: a6 :: b :: t) (Or.inr hq) hl'))
theorem x_ast7 {a0 a1 a2 a3 a4 a5 a6 : Option Value} {b : Option Value} {t : List (Option Value)} {x : Nat} (h : Ok G k cc own rm) (hdg : decode cc pc = .ok (.astore 7, 2)) (hn : 7 < kL k) (hq : c1o (some a6) = true) (kk : X G k ce (pc + 2) (a0 :: a1 :: a2 :: a3 :: a4 :: a5 :: a6 :: some (.ref x) :: t) st) : X G k ce pc (a0 :: a1 :: a2 :: a3 :: a4 :: a5 :: a6 :: b :: t) (.ref x :: st) := fun H locs ls hP hD hS hl => lv_astore h.1 h.2.1 hdg (lh_has hl) hn rfl (fun ls' hl' => kk H locs ls' hP hD hS (lh_set (i := 7) (L := a0 :: a1 :: a2 :: a3 :: a4 :: a5 :: a6 :: b :: t) (Or.inr hq) hl'))
theorem x_inc7 {a0 a1 a2 a3 a4 a5 a6 : Option Value} {t : List (Option Value)} {x y : Int32} {n : Int} (h : Ok G k cc own rm) (hdg : decode cc pc = .ok (.iinc 7 n, 3)) (hn : 7 < kL k) (hq : c1o (some a6) = true) (hv : Int32.ofInt n = y) (kk : X G k ce (pc + 3) (a0 :: a1 :: a2 :: a3 :: a4 :: a5 :: a6 :: some (.int (x + y)) :: t) st) : X G k ce pc (a0 :: a1 :: a2 :: a3 :: a4 :: a5 :: a6 :: some (.int x) :: t) st := by
  intro H locs ls hP hD hS hl
  obtain ⟨j, hj⟩ := List.getElem?_of_mem (lhl_mem.mpr (show (a0 :: a1 :: a2 :: a3 :: a4 :: a5 :: a6 :: some (.int x) :: t)[7]? = some (some (.int x)) from rfl))
  exact lv_iinc h.1 h.2.1 hdg (lh_has hl) (k := j) hj (by rw [hv]) hn rfl (fun ls' hl' => kk H locs ls' hP hD hS (lh_set (i := 7) (L := a0 :: a1 :: a2 :: a3 :: a4 :: a5 :: a6 :: some (.int x) :: t) (Or.inr hq) hl'))
theorem x_ild8 {a0 a1 a2 a3 a4 a5 a6 a7 : Option Value} {t : List (Option Value)} {x : Int32} (h : Ok G k cc own rm) (hdg : decode cc pc = .ok (.iload 8, 2)) (kk : X G k ce (pc + 2) (a0 :: a1 :: a2 :: a3 :: a4 :: a5 :: a6 :: a7 :: some (.int x) :: t) (.int x :: st)) : X G k ce pc (a0 :: a1 :: a2 :: a3 :: a4 :: a5 :: a6 :: a7 :: some (.int x) :: t) st := fun H locs ls hP hD hS hl => lv_iload h.1 h.2.1 hdg (hl.2.2 8 _ rfl) (kk H locs ls hP hD hS hl)
theorem x_ald8 {a0 a1 a2 a3 a4 a5 a6 a7 : Option Value} {t : List (Option Value)} {x : Nat} (h : Ok G k cc own rm) (hdg : decode cc pc = .ok (.aload 8, 2)) (kk : X G k ce (pc + 2) (a0 :: a1 :: a2 :: a3 :: a4 :: a5 :: a6 :: a7 :: some (.ref x) :: t) (.ref x :: st)) : X G k ce pc (a0 :: a1 :: a2 :: a3 :: a4 :: a5 :: a6 :: a7 :: some (.ref x) :: t) st := fun H locs ls hP hD hS hl => lv_aload h.1 h.2.1 hdg (hl.2.2 8 _ rfl) (kk H locs ls hP hD hS hl)
theorem x_ist8 {a0 a1 a2 a3 a4 a5 a6 a7 : Option Value} {b : Option Value} {t : List (Option Value)} {x : Int32} (h : Ok G k cc own rm) (hdg : decode cc pc = .ok (.istore 8, 2)) (hn : 8 < kL k) (hq : c1o (some a7) = true) (kk : X G k ce (pc + 2) (a0 :: a1 :: a2 :: a3 :: a4 :: a5 :: a6 :: a7 :: some (.int x) :: t) st) : X G k ce pc (a0 :: a1 :: a2 :: a3 :: a4 :: a5 :: a6 :: a7 :: b :: t) (.int x :: st) := fun H locs ls hP hD hS hl => lv_istore h.1 h.2.1 hdg (lh_has hl) hn rfl (fun ls' hl' => kk H locs ls' hP hD hS (lh_set (i := 8) (L := a0 :: a1 :: a2 :: a3 :: a4 :: a5 :: a6 :: a7 :: b :: t) (Or.inr hq) hl'))
theorem x_ast8 {a0 a1 a2 a3 a4 a5 a6 a7 : Option Value} {b : Option Value} {t : List (Option Value)} {x : Nat} (h : Ok G k cc own rm) (hdg : decode cc pc = .ok (.astore 8, 2)) (hn : 8 < kL k) (hq : c1o (some a7) = true) (kk : X G k ce (pc + 2) (a0 :: a1 :: a2 :: a3 :: a4 :: a5 :: a6 :: a7 :: some (.ref x) :: t) st) : X G k ce pc (a0 :: a1 :: a2 :: a3 :: a4 :: a5 :: a6 :: a7 :: b :: t) (.ref x :: st) := fun H locs ls hP hD hS hl => lv_astore h.1 h.2.1 hdg (lh_has hl) hn rfl (fun ls' hl' => kk H locs ls' hP hD hS (lh_set (i := 8) (L := a0 :: a1 :: a2 :: a3 :: a4 :: a5 :: a6 :: a7 :: b :: t) (Or.inr hq) hl'))
theorem x_inc8 {a0 a1 a2 a3 a4 a5 a6 a7 : Option Value} {t : List (Option Value)} {x y : Int32} {n : Int} (h : Ok G k cc own rm) (hdg : decode cc pc = .ok (.iinc 8 n, 3)) (hn : 8 < kL k) (hq : c1o (some a7) = true) (hv : Int32.ofInt n = y) (kk : X G k ce (pc + 3) (a0 :: a1 :: a2 :: a3 :: a4 :: a5 :: a6 :: a7 :: some (.int (x + y)) :: t) st) : X G k ce pc (a0 :: a1 :: a2 :: a3 :: a4 :: a5 :: a6 :: a7 :: some (.int x) :: t) st := by
  intro H locs ls hP hD hS hl
  obtain ⟨j, hj⟩ := List.getElem?_of_mem (lhl_mem.mpr (show (a0 :: a1 :: a2 :: a3 :: a4 :: a5 :: a6 :: a7 :: some (.int x) :: t)[8]? = some (some (.int x)) from rfl))
  exact lv_iinc h.1 h.2.1 hdg (lh_has hl) (k := j) hj (by rw [hv]) hn rfl (fun ls' hl' => kk H locs ls' hP hD hS (lh_set (i := 8) (L := a0 :: a1 :: a2 :: a3 :: a4 :: a5 :: a6 :: a7 :: some (.int x) :: t) (Or.inr hq) hl'))
theorem x_ild9 {a0 a1 a2 a3 a4 a5 a6 a7 a8 : Option Value} {t : List (Option Value)} {x : Int32} (h : Ok G k cc own rm) (hdg : decode cc pc = .ok (.iload 9, 2)) (kk : X G k ce (pc + 2) (a0 :: a1 :: a2 :: a3 :: a4 :: a5 :: a6 :: a7 :: a8 :: some (.int x) :: t) (.int x :: st)) : X G k ce pc (a0 :: a1 :: a2 :: a3 :: a4 :: a5 :: a6 :: a7 :: a8 :: some (.int x) :: t) st := fun H locs ls hP hD hS hl => lv_iload h.1 h.2.1 hdg (hl.2.2 9 _ rfl) (kk H locs ls hP hD hS hl)
theorem x_ald9 {a0 a1 a2 a3 a4 a5 a6 a7 a8 : Option Value} {t : List (Option Value)} {x : Nat} (h : Ok G k cc own rm) (hdg : decode cc pc = .ok (.aload 9, 2)) (kk : X G k ce (pc + 2) (a0 :: a1 :: a2 :: a3 :: a4 :: a5 :: a6 :: a7 :: a8 :: some (.ref x) :: t) (.ref x :: st)) : X G k ce pc (a0 :: a1 :: a2 :: a3 :: a4 :: a5 :: a6 :: a7 :: a8 :: some (.ref x) :: t) st := fun H locs ls hP hD hS hl => lv_aload h.1 h.2.1 hdg (hl.2.2 9 _ rfl) (kk H locs ls hP hD hS hl)
theorem x_ist9 {a0 a1 a2 a3 a4 a5 a6 a7 a8 : Option Value} {b : Option Value} {t : List (Option Value)} {x : Int32} (h : Ok G k cc own rm) (hdg : decode cc pc = .ok (.istore 9, 2)) (hn : 9 < kL k) (hq : c1o (some a8) = true) (kk : X G k ce (pc + 2) (a0 :: a1 :: a2 :: a3 :: a4 :: a5 :: a6 :: a7 :: a8 :: some (.int x) :: t) st) : X G k ce pc (a0 :: a1 :: a2 :: a3 :: a4 :: a5 :: a6 :: a7 :: a8 :: b :: t) (.int x :: st) := fun H locs ls hP hD hS hl => lv_istore h.1 h.2.1 hdg (lh_has hl) hn rfl (fun ls' hl' => kk H locs ls' hP hD hS (lh_set (i := 9) (L := a0 :: a1 :: a2 :: a3 :: a4 :: a5 :: a6 :: a7 :: a8 :: b :: t) (Or.inr hq) hl'))
theorem x_ast9 {a0 a1 a2 a3 a4 a5 a6 a7 a8 : Option Value} {b : Option Value} {t : List (Option Value)} {x : Nat} (h : Ok G k cc own rm) (hdg : decode cc pc = .ok (.astore 9, 2)) (hn : 9 < kL k) (hq : c1o (some a8) = true) (kk : X G k ce (pc + 2) (a0 :: a1 :: a2 :: a3 :: a4 :: a5 :: a6 :: a7 :: a8 :: some (.ref x) :: t) st) : X G k ce pc (a0 :: a1 :: a2 :: a3 :: a4 :: a5 :: a6 :: a7 :: a8 :: b :: t) (.ref x :: st) := fun H locs ls hP hD hS hl => lv_astore h.1 h.2.1 hdg (lh_has hl) hn rfl (fun ls' hl' => kk H locs ls' hP hD hS (lh_set (i := 9) (L := a0 :: a1 :: a2 :: a3 :: a4 :: a5 :: a6 :: a7 :: a8 :: b :: t) (Or.inr hq) hl'))
theorem x_inc9 {a0 a1 a2 a3 a4 a5 a6 a7 a8 : Option Value} {t : List (Option Value)} {x y : Int32} {n : Int} (h : Ok G k cc own rm) (hdg : decode cc pc = .ok (.iinc 9 n, 3)) (hn : 9 < kL k) (hq : c1o (some a8) = true) (hv : Int32.ofInt n = y) (kk : X G k ce (pc + 3) (a0 :: a1 :: a2 :: a3 :: a4 :: a5 :: a6 :: a7 :: a8 :: some (.int (x + y)) :: t) st) : X G k ce pc (a0 :: a1 :: a2 :: a3 :: a4 :: a5 :: a6 :: a7 :: a8 :: some (.int x) :: t) st := by
  intro H locs ls hP hD hS hl
  obtain ⟨j, hj⟩ := List.getElem?_of_mem (lhl_mem.mpr (show (a0 :: a1 :: a2 :: a3 :: a4 :: a5 :: a6 :: a7 :: a8 :: some (.int x) :: t)[9]? = some (some (.int x)) from rfl))
  exact lv_iinc h.1 h.2.1 hdg (lh_has hl) (k := j) hj (by rw [hv]) hn rfl (fun ls' hl' => kk H locs ls' hP hD hS (lh_set (i := 9) (L := a0 :: a1 :: a2 :: a3 :: a4 :: a5 :: a6 :: a7 :: a8 :: some (.int x) :: t) (Or.inr hq) hl'))
theorem x_ild10 {a0 a1 a2 a3 a4 a5 a6 a7 a8 a9 : Option Value} {t : List (Option Value)} {x : Int32} (h : Ok G k cc own rm) (hdg : decode cc pc = .ok (.iload 10, 2)) (kk : X G k ce (pc + 2) (a0 :: a1 :: a2 :: a3 :: a4 :: a5 :: a6 :: a7 :: a8 :: a9 :: some (.int x) :: t) (.int x :: st)) : X G k ce pc (a0 :: a1 :: a2 :: a3 :: a4 :: a5 :: a6 :: a7 :: a8 :: a9 :: some (.int x) :: t) st := fun H locs ls hP hD hS hl => lv_iload h.1 h.2.1 hdg (hl.2.2 10 _ rfl) (kk H locs ls hP hD hS hl)
theorem x_ald10 {a0 a1 a2 a3 a4 a5 a6 a7 a8 a9 : Option Value} {t : List (Option Value)} {x : Nat} (h : Ok G k cc own rm) (hdg : decode cc pc = .ok (.aload 10, 2)) (kk : X G k ce (pc + 2) (a0 :: a1 :: a2 :: a3 :: a4 :: a5 :: a6 :: a7 :: a8 :: a9 :: some (.ref x) :: t) (.ref x :: st)) : X G k ce pc (a0 :: a1 :: a2 :: a3 :: a4 :: a5 :: a6 :: a7 :: a8 :: a9 :: some (.ref x) :: t) st := fun H locs ls hP hD hS hl => lv_aload h.1 h.2.1 hdg (hl.2.2 10 _ rfl) (kk H locs ls hP hD hS hl)
theorem x_ist10 {a0 a1 a2 a3 a4 a5 a6 a7 a8 a9 : Option Value} {b : Option Value} {t : List (Option Value)} {x : Int32} (h : Ok G k cc own rm) (hdg : decode cc pc = .ok (.istore 10, 2)) (hn : 10 < kL k) (hq : c1o (some a9) = true) (kk : X G k ce (pc + 2) (a0 :: a1 :: a2 :: a3 :: a4 :: a5 :: a6 :: a7 :: a8 :: a9 :: some (.int x) :: t) st) : X G k ce pc (a0 :: a1 :: a2 :: a3 :: a4 :: a5 :: a6 :: a7 :: a8 :: a9 :: b :: t) (.int x :: st) := fun H locs ls hP hD hS hl => lv_istore h.1 h.2.1 hdg (lh_has hl) hn rfl (fun ls' hl' => kk H locs ls' hP hD hS (lh_set (i := 10) (L := a0 :: a1 :: a2 :: a3 :: a4 :: a5 :: a6 :: a7 :: a8 :: a9 :: b :: t) (Or.inr hq) hl'))
theorem x_ast10 {a0 a1 a2 a3 a4 a5 a6 a7 a8 a9 : Option Value} {b : Option Value} {t : List (Option Value)} {x : Nat} (h : Ok G k cc own rm) (hdg : decode cc pc = .ok (.astore 10, 2)) (hn : 10 < kL k) (hq : c1o (some a9) = true) (kk : X G k ce (pc + 2) (a0 :: a1 :: a2 :: a3 :: a4 :: a5 :: a6 :: a7 :: a8 :: a9 :: some (.ref x) :: t) st) : X G k ce pc (a0 :: a1 :: a2 :: a3 :: a4 :: a5 :: a6 :: a7 :: a8 :: a9 :: b :: t) (.ref x :: st) := fun H locs ls hP hD hS hl => lv_astore h.1 h.2.1 hdg (lh_has hl) hn rfl (fun ls' hl' => kk H locs ls' hP hD hS (lh_set (i := 10) (L := a0 :: a1 :: a2 :: a3 :: a4 :: a5 :: a6 :: a7 :: a8 :: a9 :: b :: t) (Or.inr hq) hl'))
theorem x_inc10 {a0 a1 a2 a3 a4 a5 a6 a7 a8 a9 : Option Value} {t : List (Option Value)} {x y : Int32} {n : Int} (h : Ok G k cc own rm) (hdg : decode cc pc = .ok (.iinc 10 n, 3)) (hn : 10 < kL k) (hq : c1o (some a9) = true) (hv : Int32.ofInt n = y) (kk : X G k ce (pc + 3) (a0 :: a1 :: a2 :: a3 :: a4 :: a5 :: a6 :: a7 :: a8 :: a9 :: some (.int (x + y)) :: t) st) : X G k ce pc (a0 :: a1 :: a2 :: a3 :: a4 :: a5 :: a6 :: a7 :: a8 :: a9 :: some (.int x) :: t) st := by
  intro H locs ls hP hD hS hl
  obtain ⟨j, hj⟩ := List.getElem?_of_mem (lhl_mem.mpr (show (a0 :: a1 :: a2 :: a3 :: a4 :: a5 :: a6 :: a7 :: a8 :: a9 :: some (.int x) :: t)[10]? = some (some (.int x)) from rfl))
  exact lv_iinc h.1 h.2.1 hdg (lh_has hl) (k := j) hj (by rw [hv]) hn rfl (fun ls' hl' => kk H locs ls' hP hD hS (lh_set (i := 10) (L := a0 :: a1 :: a2 :: a3 :: a4 :: a5 :: a6 :: a7 :: a8 :: a9 :: some (.int x) :: t) (Or.inr hq) hl'))
theorem x_ild11 {a0 a1 a2 a3 a4 a5 a6 a7 a8 a9 a10 : Option Value} {t : List (Option Value)} {x : Int32} (h : Ok G k cc own rm) (hdg : decode cc pc = .ok (.iload 11, 2)) (kk : X G k ce (pc + 2) (a0 :: a1 :: a2 :: a3 :: a4 :: a5 :: a6 :: a7 :: a8 :: a9 :: a10 :: some (.int x) :: t) (.int x :: st)) : X G k ce pc (a0 :: a1 :: a2 :: a3 :: a4 :: a5 :: a6 :: a7 :: a8 :: a9 :: a10 :: some (.int x) :: t) st := fun H locs ls hP hD hS hl => lv_iload h.1 h.2.1 hdg (hl.2.2 11 _ rfl) (kk H locs ls hP hD hS hl)
theorem x_ald11 {a0 a1 a2 a3 a4 a5 a6 a7 a8 a9 a10 : Option Value} {t : List (Option Value)} {x : Nat} (h : Ok G k cc own rm) (hdg : decode cc pc = .ok (.aload 11, 2)) (kk : X G k ce (pc + 2) (a0 :: a1 :: a2 :: a3 :: a4 :: a5 :: a6 :: a7 :: a8 :: a9 :: a10 :: some (.ref x) :: t) (.ref x :: st)) : X G k ce pc (a0 :: a1 :: a2 :: a3 :: a4 :: a5 :: a6 :: a7 :: a8 :: a9 :: a10 :: some (.ref x) :: t) st := fun H locs ls hP hD hS hl => lv_aload h.1 h.2.1 hdg (hl.2.2 11 _ rfl) (kk H locs ls hP hD hS hl)
theorem x_ist11 {a0 a1 a2 a3 a4 a5 a6 a7 a8 a9 a10 : Option Value} {b : Option Value} {t : List (Option Value)} {x : Int32} (h : Ok G k cc own rm) (hdg : decode cc pc = .ok (.istore 11, 2)) (hn : 11 < kL k) (hq : c1o (some a10) = true) (kk : X G k ce (pc + 2) (a0 :: a1 :: a2 :: a3 :: a4 :: a5 :: a6 :: a7 :: a8 :: a9 :: a10 :: some (.int x) :: t) st) : X G k ce pc (a0 :: a1 :: a2 :: a3 :: a4 :: a5 :: a6 :: a7 :: a8 :: a9 :: a10 :: b :: t) (.int x :: st) := fun H locs ls hP hD hS hl => lv_istore h.1 h.2.1 hdg (lh_has hl) hn rfl (fun ls' hl' => kk H locs ls' hP hD hS (lh_set (i := 11) (L := a0 :: a1 :: a2 :: a3 :: a4 :: a5 :: a6 :: a7 :: a8 :: a9 :: a10 :: b :: t) (Or.inr hq) hl'))
theorem x_ast11 {a0 a1 a2 a3 a4 a5 a6 a7 a8 a9 a10 : Option Value} {b : Option Value} {t : List (Option Value)} {x : Nat} (h : Ok G k cc own rm) (hdg : decode cc pc = .ok (.astore 11, 2)) (hn : 11 < kL k) (hq : c1o (some a10) = true) (kk : X G k ce (pc + 2) (a0 :: a1 :: a2 :: a3 :: a4 :: a5 :: a6 :: a7 :: a8 :: a9 :: a10 :: some (.ref x) :: t) st) : X G k ce pc (a0 :: a1 :: a2 :: a3 :: a4 :: a5 :: a6 :: a7 :: a8 :: a9 :: a10 :: b :: t) (.ref x :: st) := fun H locs ls hP hD hS hl => lv_astore h.1 h.2.1 hdg (lh_has hl) hn rfl (fun ls' hl' => kk H locs ls' hP hD hS (lh_set (i := 11) (L := a0 :: a1 :: a2 :: a3 :: a4 :: a5 :: a6 :: a7 :: a8 :: a9 :: a10 :: b :: t) (Or.inr hq) hl'))
theorem x_inc11 {a0 a1 a2 a3 a4 a5 a6 a7 a8 a9 a10 : Option Value} {t : List (Option Value)} {x y : Int32} {n : Int} (h : Ok G k cc own rm) (hdg : decode cc pc = .ok (.iinc 11 n, 3)) (hn : 11 < kL k) (hq : c1o (some a10) = true) (hv : Int32.ofInt n = y) (kk : X G k ce (pc + 3) (a0 :: a1 :: a2 :: a3 :: a4 :: a5 :: a6 :: a7 :: a8 :: a9 :: a10 :: some (.int (x + y)) :: t) st) : X G k ce pc (a0 :: a1 :: a2 :: a3 :: a4 :: a5 :: a6 :: a7 :: a8 :: a9 :: a10 :: some (.int x) :: t) st := by
  intro H locs ls hP hD hS hl
  obtain ⟨j, hj⟩ := List.getElem?_of_mem (lhl_mem.mpr (show (a0 :: a1 :: a2 :: a3 :: a4 :: a5 :: a6 :: a7 :: a8 :: a9 :: a10 :: some (.int x) :: t)[11]? = some (some (.int x)) from rfl))
  exact lv_iinc h.1 h.2.1 hdg (lh_has hl) (k := j) hj (by rw [hv]) hn rfl (fun ls' hl' => kk H locs ls' hP hD hS (lh_set (i := 11) (L := a0 :: a1 :: a2 :: a3 :: a4 :: a5 :: a6 :: a7 :: a8 :: a9 :: a10 :: some (.int x) :: t) (Or.inr hq) hl'))
theorem x_ild12 {a0 a1 a2 a3 a4 a5 a6 a7 a8 a9 a10 a11 : Option Value} {t : List (Option Value)} {x : Int32} (h : Ok G k cc own rm) (hdg : decode cc pc = .ok (.iload 12, 2)) (kk : X G k ce (pc + 2) (a0 :: a1 :: a2 :: a3 :: a4 :: a5 :: a6 :: a7 :: a8 :: a9 :: a10 :: a11 :: some (.int x) :: t) (.int x :: st)) : X G k ce pc (a0 :: a1 :: a2 :: a3 :: a4 :: a5 :: a6 :: a7 :: a8 :: a9 :: a10 :: a11 :: some (.int x) :: t) st := fun H locs ls hP hD hS hl => lv_iload h.1 h.2.1 hdg (hl.2.2 12 _ rfl) (kk H locs ls hP hD hS hl)
theorem x_ald12 {a0 a1 a2 a3 a4 a5 a6 a7 a8 a9 a10 a11 : Option Value} {t : List (Option Value)} {x : Nat} (h : Ok G k cc own rm) (hdg : decode cc pc = .ok (.aload 12, 2)) (kk : X G k ce (pc + 2) (a0 :: a1 :: a2 :: a3 :: a4 :: a5 :: a6 :: a7 :: a8 :: a9 :: a10 :: a11 :: some (.ref x) :: t) (.ref x :: st)) : X G k ce pc (a0 :: a1 :: a2 :: a3 :: a4 :: a5 :: a6 :: a7 :: a8 :: a9 :: a10 :: a11 :: some (.ref x) :: t) st := fun H locs ls hP hD hS hl => lv_aload h.1 h.2.1 hdg (hl.2.2 12 _ rfl) (kk H locs ls hP hD hS hl)
theorem x_ist12 {a0 a1 a2 a3 a4 a5 a6 a7 a8 a9 a10 a11 : Option Value} {b : Option Value} {t : List (Option Value)} {x : Int32} (h : Ok G k cc own rm) (hdg : decode cc pc = .ok (.istore 12, 2)) (hn : 12 < kL k) (hq : c1o (some a11) = true) (kk : X G k ce (pc + 2) (a0 :: a1 :: a2 :: a3 :: a4 :: a5 :: a6 :: a7 :: a8 :: a9 :: a10 :: a11 :: some (.int x) :: t) st) : X G k ce pc (a0 :: a1 :: a2 :: a3 :: a4 :: a5 :: a6 :: a7 :: a8 :: a9 :: a10 :: a11 :: b :: t) (.int x :: st) := fun H locs ls hP hD hS hl => lv_istore h.1 h.2.1 hdg (lh_has hl) hn rfl (fun ls' hl' => kk H locs ls' hP hD hS (lh_set (i := 12) (L := a0 :: a1 :: a2 :: a3 :: a4 :: a5 :: a6 :: a7 :: a8 :: a9 :: a10 :: a11 :: b :: t) (Or.inr hq) hl'))
theorem x_ast12 {a0 a1 a2 a3 a4 a5 a6 a7 a8 a9 a10 a11 : Option Value} {b : Option Value} {t : List (Option Value)} {x : Nat} (h : Ok G k cc own rm) (hdg : decode cc pc = .ok (.astore 12, 2)) (hn : 12 < kL k) (hq : c1o (some a11) = true) (kk : X G k ce (pc + 2) (a0 :: a1 :: a2 :: a3 :: a4 :: a5 :: a6 :: a7 :: a8 :: a9 :: a10 :: a11 :: some (.ref x) :: t) st) : X G k ce pc (a0 :: a1 :: a2 :: a3 :: a4 :: a5 :: a6 :: a7 :: a8 :: a9 :: a10 :: a11 :: b :: t) (.ref x :: st) := fun H locs ls hP hD hS hl => lv_astore h.1 h.2.1 hdg (lh_has hl) hn rfl (fun ls' hl' => kk H locs ls' hP hD hS (lh_set (i := 12) (L := a0 :: a1 :: a2 :: a3 :: a4 :: a5 :: a6 :: a7 :: a8 :: a9 :: a10 :: a11 :: b :: t) (Or.inr hq) hl'))
theorem x_inc12 {a0 a1 a2 a3 a4 a5 a6 a7 a8 a9 a10 a11 : Option Value} {t : List (Option Value)} {x y : Int32} {n : Int} (h : Ok G k cc own rm) (hdg : decode cc pc = .ok (.iinc 12 n, 3)) (hn : 12 < kL k) (hq : c1o (some a11) = true) (hv : Int32.ofInt n = y) (kk : X G k ce (pc + 3) (a0 :: a1 :: a2 :: a3 :: a4 :: a5 :: a6 :: a7 :: a8 :: a9 :: a10 :: a11 :: some (.int (x + y)) :: t) st) : X G k ce pc (a0 :: a1 :: a2 :: a3 :: a4 :: a5 :: a6 :: a7 :: a8 :: a9 :: a10 :: a11 :: some (.int x) :: t) st := by
  intro H locs ls hP hD hS hl
  obtain ⟨j, hj⟩ := List.getElem?_of_mem (lhl_mem.mpr (show (a0 :: a1 :: a2 :: a3 :: a4 :: a5 :: a6 :: a7 :: a8 :: a9 :: a10 :: a11 :: some (.int x) :: t)[12]? = some (some (.int x)) from rfl))
  exact lv_iinc h.1 h.2.1 hdg (lh_has hl) (k := j) hj (by rw [hv]) hn rfl (fun ls' hl' => kk H locs ls' hP hD hS (lh_set (i := 12) (L := a0 :: a1 :: a2 :: a3 :: a4 :: a5 :: a6 :: a7 :: a8 :: a9 :: a10 :: a11 :: some (.int x) :: t) (Or.inr hq) hl'))
/-- fewer locals, others cells that say the same -/
theorem x_loc {L' : List (Option Value)} (hs : ∀ (i : Nat) (v : Value), L'[i]? = some (some v) → L[i]? = some (some v)) (kk : X G k ce pc L' st) : X G k ce pc L st := fun H locs ls hP hD hS hl => kk H locs ls hP hD hS (lh_sub hl hs)
theorem x_get {ci kf index : Nat} {fs : List Value} {v : Value} {C : String} {T : u_T} {N : Nat} (h : Ok G k cc own rm) (q : Nat) (hq : q < gN G) (he : ce q = .inr (ci, fs)) (hcl : vwCl[ci]? = some (C, T, N)) (hin : ∀ w ∈ u_ws C T N, w ∈ UW) (hk : kf < N) (hw : Cond.fieldLink own index C (T kf).2.1 (T kf).2.2.1 ∈ UW) (hC : (T kf).1 = C) (hv : fs[kf]? = some v) (hdg : decode cc pc = .ok (.getfield index, 3)) (kk : X G k ce (pc + 3) L (v :: st)) : X G k ce pc L (.ref (ga G q) :: st) := by
  intro H locs ls hP hD hS hl
  obtain ⟨hx, hb, hml, hown, hts, hK, hA, hR, hc0, hs0, hEv⟩ := h
  have hg := wl_get (ce := ce) hq
  rw [he] at hg
  exact va_get hx hb hts hin hown hK hP q hg hcl kf hk (hts _ hw) (fun x hx => hC ▸ hx) hv hdg (kk H locs ls hP hD hS hl)
theorem x_put {ci kf index : Nat} {fs : List Value} {v : Value} {C : String} {T : u_T} {N : Nat} {ty : FieldType} (h : Ok G k cc own rm) (q : Nat) (hq : q < gN G) (he : ce q = .inr (ci, fs)) (hcl : vwCl[ci]? = some (C, T, N)) (hin : ∀ w ∈ u_ws C T N, w ∈ UW) (ty0 : Nat → FieldType) (hty : ∀ k, k < N → parseFieldDescriptor (T k).2.2.1 = some (ty0 k)) (hnm : ∀ a, a < N → ∀ b, b < N → a ≠ b → (T a).2.1 ≠ (T b).2.1) (hk : kf < N) (hw : Cond.fieldLink own index C (T kf).2.1 (T kf).2.2.1 ∈ UW) (hC : (T kf).1 = C) (hfin : (T kf).2.2.2 = false) (htk : ty0 kf = ty) (hn : narrow ty v = v) (hfit : fits ty v = true) (hlf : kf < fs.length) (hdg : decode cc pc = .ok (.putfield index, 3)) (kk : X G k (upE ce q (.inr (ci, fs.set kf v))) (pc + 3) L st) : X G k ce pc L (v :: .ref (ga G q) :: st) := by
  intro H locs ls hP hD hS hl
  obtain ⟨hx, hb, hml, hown, hts, hK, hA, hR, hc0, hs0, hEv⟩ := h
  have hg := wl_get (ce := ce) hq
  rw [he] at hg
  refine va_put hx hb hts hin ty0 hty hnm hown hK hP hD hS q hg hcl kf hk (hts _ hw) (fun x hx => hC ▸ hx) hfin (ty := ty) (htk ▸ hty kf hk) hn hfit hlf hdg (fun H1 locs1 hP1 hD1 hS1 => ?_)
  rw [wl_set] at hP1 hD1
  exact kk H1 locs1 ls hP1 hD1 hS1 hl
theorem x_iald {n : Nat} {f : Nat → Int32} {i : Int32} (h : Ok G k cc own rm) (q : Nat) (hq : q < gN G) (he : ce q = .inl (gi G 0, n, .inl f)) (hin : vp_in i n) (hdg : decode cc pc = .ok (.iaload, 1)) (kk : X G k ce (pc + 1) L (.int (f i.toNatClampNeg) :: st)) : X G k ce pc L (.int i :: .ref (ga G q) :: st) := by
  intro H locs ls hP hD hS hl
  have hg := wl_get (ce := ce) hq
  rw [he] at hg
  exact va_iald h.1 h.2.1 h.2.2.2.2.2.1 hP q 0 hg rfl hin hdg (kk H locs ls hP hD hS hl)
theorem x_zald {n : Nat} {f : Nat → Int32} {i : Int32} (h : Ok G k cc own rm) (q : Nat) (hq : q < gN G) (he : ce q = .inl (gi G 1, n, .inl f)) (hin : vp_in i n) (hdg : decode cc pc = .ok (.baload, 1)) (kk : X G k ce (pc + 1) L (.int (f i.toNatClampNeg) :: st)) : X G k ce pc L (.int i :: .ref (ga G q) :: st) := by
  intro H locs ls hP hD hS hl
  have hg := wl_get (ce := ce) hq
  rw [he] at hg
  exact va_zald h.1 h.2.1 h.2.2.2.2.2.1 hP q 1 hg rfl hin hdg (kk H locs ls hP hD hS hl)
theorem x_cald {n : Nat} {f : Nat → Int32} {i : Int32} (h : Ok G k cc own rm) (q : Nat) (hq : q < gN G) (he : ce q = .inl (gi G 2, n, .inl f)) (hin : vp_in i n) (hdg : decode cc pc = .ok (.caload, 1)) (kk : X G k ce (pc + 1) L (.int (f i.toNatClampNeg) :: st)) : X G k ce pc L (.int i :: .ref (ga G q) :: st) := by
  intro H locs ls hP hD hS hl
  have hg := wl_get (ce := ce) hq
  rw [he] at hg
  exact va_cald h.1 h.2.1 h.2.2.2.2.2.1 hP q 2 hg rfl hin hdg (kk H locs ls hP hD hS hl)
theorem x_lald {n : Nat} {f : Nat → Int64} {i : Int32} (h : Ok G k cc own rm) (q : Nat) (hq : q < gN G) (he : ce q = .inl (gi G 3, n, .inr (.inl f))) (hin : vp_in i n) (hdg : decode cc pc = .ok (.laload, 1)) (kk : X G k ce (pc + 1) L (.long (f i.toNatClampNeg) :: st)) : X G k ce pc L (.int i :: .ref (ga G q) :: st) := by
  intro H locs ls hP hD hS hl
  have hg := wl_get (ce := ce) hq
  rw [he] at hg
  exact va_lald h.1 h.2.1 h.2.2.2.2.2.1 hP q 3 hg rfl hin hdg (kk H locs ls hP hD hS hl)
theorem x_iast {n : Nat} {f : Nat → Int32} {i : Int32} {x : Int32} (h : Ok G k cc own rm) (q : Nat) (hq : q < gN G) (he : ce q = .inl (gi G 0, n, .inl f)) (hin : vp_in i n) (hdg : decode cc pc = .ok (.iastore, 1)) (kk : X G k (upE ce q (.inl (gi G 0, n, .inl (upd f i.toNatClampNeg x)))) (pc + 1) L st) : X G k ce pc L (.int x :: .int i :: .ref (ga G q) :: st) := by
  intro H locs ls hP hD hS hl
  have hg := wl_get (ce := ce) hq
  rw [he] at hg
  refine va_iast h.1 h.2.1 h.2.2.2.2.2.1 hP hD hS q 0 hg rfl hin hdg (fun H1 locs1 hP1 hD1 hS1 => ?_)
  rw [wl_set] at hP1 hD1
  exact kk H1 locs1 ls hP1 hD1 hS1 hl
theorem x_zast {n : Nat} {f : Nat → Int32} {i : Int32} {x : Int32} (h : Ok G k cc own rm) (q : Nat) (hq : q < gN G) (he : ce q = .inl (gi G 1, n, .inl f)) (hin : vp_in i n) (hdg : decode cc pc = .ok (.bastore, 1)) (kk : X G k (upE ce q (.inl (gi G 1, n, .inl (upd f i.toNatClampNeg (vp_nar .boolean x))))) (pc + 1) L st) : X G k ce pc L (.int x :: .int i :: .ref (ga G q) :: st) := by
  intro H locs ls hP hD hS hl
  have hg := wl_get (ce := ce) hq
  rw [he] at hg
  refine va_zast h.1 h.2.1 h.2.2.2.2.2.1 hP hD hS q 1 hg rfl hin hdg (fun H1 locs1 hP1 hD1 hS1 => ?_)
  rw [wl_set] at hP1 hD1
  exact kk H1 locs1 ls hP1 hD1 hS1 hl
theorem x_last {n : Nat} {f : Nat → Int64} {i : Int32} {x : Int64} (h : Ok G k cc own rm) (q : Nat) (hq : q < gN G) (he : ce q = .inl (gi G 3, n, .inr (.inl f))) (hin : vp_in i n) (hdg : decode cc pc = .ok (.lastore, 1)) (kk : X G k (upE ce q (.inl (gi G 3, n, .inr (.inl (vp_updL f i.toNatClampNeg x))))) (pc + 1) L st) : X G k ce pc L (.long x :: .int i :: .ref (ga G q) :: st) := by
  intro H locs ls hP hD hS hl
  have hg := wl_get (ce := ce) hq
  rw [he] at hg
  refine va_last h.1 h.2.1 h.2.2.2.2.2.1 hP hD hS q 3 hg rfl hin hdg (fun H1 locs1 hP1 hD1 hS1 => ?_)
  rw [wl_set] at hP1 hD1
  exact kk H1 locs1 ls hP1 hD1 hS1 hl
theorem x_aald {n t0 : Nat} {C : String} {f : Nat → Option Nat} {i : Int32} {v : Value} (h : Ok G k cc own rm) (q : Nat) (hq : q < gN G) (he : ce q = .inl (gi G t0, n, .inr (.inr (.inr (.inr f))))) (ht : (tysG (gi G))[t0]? = some (gi G t0, .object C)) (hin : vp_in i n) (hv : va_rf (f i.toNatClampNeg) = v) (hdg : decode cc pc = .ok (.aaload, 1)) (kk : X G k ce (pc + 1) L (v :: st)) : X G k ce pc L (.int i :: .ref (ga G q) :: st) := by
  intro H locs ls hP hD hS hl
  have hg := wl_get (ce := ce) hq
  rw [he] at hg
  subst hv
  exact va_aldq h.1 h.2.1 h.2.2.2.2.2.1 hP q t0 hg ht hin hdg (kk H locs ls hP hD hS hl)
theorem x_alen {t0 : Nat} {x : vp_A} {ty : FieldType} {v : Int32} (h : Ok G k cc own rm) (q : Nat) (hq : q < gN G) (he : ce q = .inl (gi G t0, x)) (ht : (tysG (gi G))[t0]? = some (gi G t0, ty)) (hv : Int32.ofNat x.1 = v) (hdg : decode cc pc = .ok (.arraylength, 1)) (kk : X G k ce (pc + 1) L (.int v :: st)) : X G k ce pc L (.ref (ga G q) :: st) := by
  intro H locs ls hP hD hS hl
  have hg := wl_get (ce := ce) hq
  rw [he] at hg
  exact va_alen h.1 h.2.1 h.2.2.2.2.2.1 hP q t0 hg ht hv hdg (kk H locs ls hP hD hS hl)
/-- the ends -/
theorem x_iret {P : Option Value → (Nat → va_E) → Prop} {v : Int32} (h : Ok G k cc own rm) (hr : Ret G k (some .int) P) (hp : P (some (.int v)) ce) (hdg : decode cc pc = .ok (.ireturn, 1)) : X G k ce pc L [.int v] := by
  intro H locs ls hP hD hS hl
  obtain ⟨hx, hb, hml, hown, hts, hK, hA, hR, hc0, hs0, hEv⟩ := h
  obtain ⟨r1, r2, r3, r4, ws0, sz, r5, r6, r7⟩ := hr
  rw [r3, r4, r7]
  rw [r5] at hD hS
  exact W.iret (v := v) hx hb r1 (fun t ht hW => ⟨⟨_, ce, rfl, hp, by rw [ht]; exact hP, va_K.moved hW.alike hK, hD⟩, hS.F ht⟩) hS.2.2 hdg (hlocks := r2)
theorem x_zret {P : Option Value → (Nat → va_E) → Prop} {v : Int32} (h : Ok G k cc own rm) (hr : Ret G k (some .boolean) P) (hn : v = 0 ∨ v = 1) (hp : P (some (.int v)) ce) (hdg : decode cc pc = .ok (.ireturn, 1)) : X G k ce pc L [.int v] := by
  intro H locs ls hP hD hS hl
  obtain ⟨hx, hb, hml, hown, hts, hK, hA, hR, hc0, hs0, hEv⟩ := h
  obtain ⟨r1, r2, r3, r4, ws0, sz, r5, r6, r7⟩ := hr
  rw [r3, r4, r7]
  rw [r5] at hD hS
  exact W.zret (v := v) hx hb r1 (by rcases hn with rfl | rfl <;> rfl) (fun t ht hW => ⟨⟨_, ce, rfl, hp, by rw [ht]; exact hP, va_K.moved hW.alike hK, hD⟩, hS.F ht⟩) hS.2.2 hdg (hlocks := r2)
theorem x_vret {P : Option Value → (Nat → va_E) → Prop} (h : Ok G k cc own rm) (hr : Ret G k none P) (hp : P none ce) (hdg : decode cc pc = .ok (.return_, 1)) : X G k ce pc L [] := by
  intro H locs ls hP hD hS hl
  obtain ⟨hx, hb, hml, hown, hts, hK, hA, hR, hc0, hs0, hEv⟩ := h
  obtain ⟨r1, r2, r3, r4, ws0, sz, r5, r6, r7⟩ := hr
  rw [r3, r4, r7]
  rw [r5] at hD hS
  exact W.vret hx hb r1 (fun t ht hW => ⟨⟨_, ce, rfl, hp, by rw [ht]; exact hP, va_K.moved hW.alike hK, hD⟩, hS.F ht⟩) hS.2.2 hdg (hlocks := r2)
theorem x_aret {P : Option Value → (Nat → va_E) → Prop} {v : Value} {C : String} (h : Ok G k cc own rm) (hr : Ret G k (some (.object C)) P) (hv : v = .null ∨ ∃ a, v = .ref a) (hp : P (some v) ce) (hdg : decode cc pc = .ok (.areturn, 1)) : X G k ce pc L [v] := by
  intro H locs ls hP hD hS hl
  obtain ⟨hx, hb, hml, hown, hts, hK, hA, hR, hc0, hs0, hEv⟩ := h
  obtain ⟨r1, r2, r3, r4, ws0, sz, r5, r6, r7⟩ := hr
  rw [r3, r4, r7]
  rw [r5] at hD hS
  exact W.aret hx hb r1 (Or.inl ⟨_, rfl⟩) hv (fun t ht hW => ⟨⟨_, ce, rfl, hp, by rw [ht]; exact hP, va_K.moved hW.alike hK, hD⟩, hS.F ht⟩) hS.2.2 hdg (hlocks := r2)
/-- calls -/
theorem va_F_QX_blind {y : MethodName} {av : List Value} {sz : Nat} : FrameBlind (va_Pc av (fun U => U.heap.size = sz ∧ va_P (gD G) vwCl (wl G ce) U.heap ∧ va_K (gD G) vwCl (tysG (gi G)) U ∧ va_D (fun _ => True) (wl G ce) ∧ Ev (ga G) (va_A (wl G ce) sz) U U.heap)) := fun a U g mk q => by
  obtain ⟨q0, q1, qP, qK, qD, qE⟩ := q
  exact ⟨q0, q1, qP, va_K.moved (u := U) (U := U.calling g mk a) (Vm.Alike.refl U.vm) qK, qD, qE.calling⟩
theorem va_sub {H : Heap} {locs : List Loc} (h : Ok G k cc own rm) (hD : va_D (kA k) (wl G ce)) (hS : va_S (kA k) (ks k).heap H locs) : ∀ q, va_A (wl G ce) H.size q → kA k q := by
  intro q hq
  rcases hq with ⟨j, e, hj⟩ | hq
  · exact hD.2 j (q, e) hj
  · exact h.2.2.2.2.2.2.1 q (Nat.le_trans hS.1 hq)
theorem x_cont {P : Option Value → (Nat → va_E) → Prop} {st0 rest : List Value} {a : Array Value} {H : Heap} {locs : List Loc} {ls : Array Slot} (h : Ok G k cc own rm) (hD : va_D (kA k) (wl G ce)) (hS : va_S (kA k) (ks k).heap H locs) (hl : lh ls (kL k) L)
    (hr : va_Run (kp k) (gl G) (ke k) (kR k) (ks k) (km k) (kar k) (kb k) (kme k) (kc k) H locs (kce k) (ksl k) 0 0 (F0 (km k) pc ls st0) rest (QX G (wl G ce) H.size P a) (va_A (wl G ce) H.size))
    (kk : ∀ (v : Option Value) (ce' : Nat → va_E), P v ce' → X G k ce' (pc + 3) L (v.toList ++ rest)) :
    W (kp k) (gl G) (ke k) (kR k) (ks k) (km k) (kar k) (kb k) (kme k) (kc k) H locs (kce k) (ksl k) (kQ k) (F0 (km k) pc ls st0) := by
  obtain ⟨hx, hb, hml, hown, hts, hK, hA, hR, hc0, hs0, hEv⟩ := h
  have hF : ∀ q, va_A (wl G ce) H.size q → kA k q := by
    intro q hq
    rcases hq with ⟨j, e, hj⟩ | hq
    · exact hD.2 j (q, e) hj
    · exact hA q (Nat.le_trans hS.1 hq)
  intro T hT Xs
  obtain ⟨v, st₀, t, T', L9, h0, X', hL, e1, e2, ⟨⟨v', ce', hv, hp, hP', hK', hD'⟩, hz, hk⟩, stp⟩ := hr T hT Xs
  cases hv
  rw [h0] at hz hk
  have hS' : va_S (kA k) (ks k).heap T'.heap (locs ++ L9) := ⟨Nat.le_trans hS.1 (by rw [e1]; exact hz), fun q h1 h2 => by rw [e1, hk q (Nat.lt_of_lt_of_le h1 hS.1) (fun z => h2 (hF q z))]; exact hS.2.1 q h1 h2, fun q hq => by
      rcases List.mem_append.mp hq with h9 | h9
      · exact hS.2.2 q h9
      · exact hF _ (hL q h9)⟩
  obtain ⟨t2, a1, b1⟩ := kk v ce' hp T'.heap (locs ++ L9) ls (by rw [e1]; exact hP') (hD'.weaken (fun j q _ z => hF q.1 z)) hS' hl T' rfl X'
  exact ⟨t2, stp t2 a1, b1⟩
theorem x_callV {index n nLc : Nat} {y : MethodName} {cy : ByteArray} {ret : Option FieldType} {rc : Room} {P : Option Value → (Nat → va_E) → Prop} (As : List Value) {rest st0 : List Value} (q : Nat) {ci : Nat} {fs : List Value} {T : u_T} {N : Nat} (h : Ok G k cc own rm) (cf : CFV own index y cy nLc ret n) (hM : MX G y cy nLc ret rc (.ref (ga G q) :: As) ce P) (hq : q < gN G) (he : ce q = .inr (ci, fs)) (hcl : vwCl[ci]? = some (y.cls, T, N)) (hst : st0 = As.reverse ++ .ref (ga G q) :: rest) (hn : As.length = n) (hrc : rc.cells = 0 ∧ rc.slots = 0) (hroom : rc.frames + 1 ≤ rm.frames ∧ 8 + (nLc + 11) + rc.locals ≤ rm.locals) (hW : (rest.map fun v => v.category).sum ≤ 8) (hdg : decode cc pc = .ok (.invokevirtual index, 3))
    (kk : ∀ (v : Option Value) (ce' : Nat → va_E), P v ce' → X G k ce' (pc + 3) L (v.toList ++ rest)) : X G k ce pc L st0 := by
  intro H locs ls hP hD hS hl
  have hg := wl_get (ce := ce) hq
  rw [he] at hg
  have h' := h
  obtain ⟨hx, hb, hml, hown, hts, hK, hA, hR, hc0, hs0, hEv⟩ := h
  obtain ⟨⟨f1, f2, f3, f4⟩, f5, f6⟩ := cf
  subst hst
  refine x_cont h' hD hS hl (va_runV (nL := kL k) (own := own) (As := As) (rest := rest) (C := y.cls) (Ts := UW) ⟨hx, hb, hml, hown, hts⟩ (hM H.size) ⟨callB_of n hts (uw_goodIn f1) rfl hrc.1 hrc.2 (hts _ f2) (hts _ f4) f3 (by rw [hR]; exact hroom), hts _ f5, hts _ f6⟩ ⟨va_F_QX_blind (y := y), va_recv hK hP hcl hg, fun U hU hW9 => ⟨rfl, by rw [hU], by rw [hU]; exact hP, va_K.moved hW9.alike hK, hD.weaken (fun _ _ _ _ => trivial), by rw [hU]; exact hEv.to hW9 hS.2.1 (va_sub h' hD hS)⟩⟩ rfl hn hl.1 rfl (lv_room hW) hdg ⟨hc0, hs0⟩) kk
theorem x_callS {index n nLc : Nat} {y : MethodName} {cy : ByteArray} {ret : Option FieldType} {rc : Room} {P : Option Value → (Nat → va_E) → Prop} (As : List Value) {rest st0 : List Value} (h : Ok G k cc own rm) (cf : CFS own index y cy nLc ret n) (hM : MX G y cy nLc ret rc As ce P) (hst : st0 = As.reverse ++ rest) (hn : As.length = n) (hrc : rc.cells = 0 ∧ rc.slots = 0) (hroom : rc.frames + 1 ≤ rm.frames ∧ 8 + (nLc + 11) + rc.locals ≤ rm.locals) (hW : (rest.map fun v => v.category).sum ≤ 8) (hdg : decode cc pc = .ok (.invokestatic index, 3))
    (kk : ∀ (v : Option Value) (ce' : Nat → va_E), P v ce' → X G k ce' (pc + 3) L (v.toList ++ rest)) : X G k ce pc L st0 := by
  intro H locs ls hP hD hS hl
  have h' := h
  obtain ⟨hx, hb, hml, hown, hts, hK, hA, hR, hc0, hs0, hEv⟩ := h
  obtain ⟨⟨f1, f2, f3, f4⟩, f5⟩ := cf
  subst hst
  exact x_cont h' hD hS hl (va_runS (nL := kL k) (own := own) (As := As) (rest := rest) (Ts := UW) ⟨hx, hb, hml, hown, hts⟩ (hM H.size) ⟨callB_of n hts (uw_goodIn f1) rfl hrc.1 hrc.2 (hts _ f2) (hts _ f4) f3 (by rw [hR]; exact hroom), hts _ f5⟩ ⟨va_F_QX_blind (y := y), fun U hU hW9 => ⟨rfl, by rw [hU], by rw [hU]; exact hP, va_K.moved hW9.alike hK, hD.weaken (fun _ _ _ _ => trivial), by rw [hU]; exact hEv.to hW9 hS.2.1 (va_sub h' hD hS)⟩⟩ rfl hn hl.1 rfl (lv_room hW) hdg ⟨hc0, hs0⟩) kk
theorem x_callSN {index n nLc : Nat} {y : MethodName} {cy : ByteArray} {ret : Option FieldType} {rc : Room} {P : Option Value → (Nat → va_E) → Prop} {host : String} (As : List Value) {rest st0 : List Value} (h : Ok G k cc own rm) (f1 : Cond.code y cy nLc ret ∈ UW) (f2 : Cond.initialized y.cls ∈ UW) (f3 : y.cls ≠ "java/lang/invoke/MethodHandle" ∧ y.cls ≠ "java/lang/invoke/VarHandle" ∧ (parseMethodDescriptor y.desc).map (fun d => d.parameters.length) = some n) (f5 : Cond.static y ∈ UW) (hnw : va_Nw (.methodLinkNest own index y host) (ks k)) (hM : MX G y cy nLc ret rc As ce P) (hst : st0 = As.reverse ++ rest) (hn : As.length = n) (hrc : rc.cells = 0 ∧ rc.slots = 0) (hroom : rc.frames + 1 ≤ rm.frames ∧ 8 + (nLc + 11) + rc.locals ≤ rm.locals) (hW : (rest.map fun v => v.category).sum ≤ 8) (hdg : decode cc pc = .ok (.invokestatic index, 3))
    (kk : ∀ (v : Option Value) (ce' : Nat → va_E), P v ce' → X G k ce' (pc + 3) L (v.toList ++ rest)) : X G k ce pc L st0 := by
  intro H locs ls hP hD hS hl
  have h' := h
  obtain ⟨hx, hb, hml, hown, hts, hK, hA, hR, hc0, hs0, hEv⟩ := h
  subst hst
  exact x_cont h' hD hS hl (va_runSN (nL := kL k) (own := own) (As := As) (rest := rest) (Ts := UW) ⟨hx, hb, hml, hown, hts⟩ (hM H.size) ⟨va_cnB n hts (uw_goodIn f1) rfl hrc.1 hrc.2 hnw (hts _ f2) f3 (by rw [hR]; exact hroom), hts _ f5, trivial⟩ ⟨va_F_QX_blind (y := y), fun U hU hW9 => ⟨rfl, by rw [hU], by rw [hU]; exact hP, va_K.moved hW9.alike hK, hD.weaken (fun _ _ _ _ => trivial), by rw [hU]; exact hEv.to hW9 hS.2.1 (va_sub h' hD hS)⟩⟩ rfl hn hl.1 rfl (lv_room hW) hdg ⟨hc0, hs0⟩) kk
/-- cells that say the same -/
def eqE (G : GT) (e e' : va_E) : Prop := ∀ (a : Nat) (H : Heap), va_at (gD G) vwCl (a, e) H → va_at (gD G) vwCl (a, e') H
theorem eqE.rf {e : va_E} : eqE G e e := fun _ _ h => h
theorem eqE.arr {c : ClassId} {n : Nat} {f g : Nat → Int32} (h : ∀ j, j < n → f j = g j) : eqE G (.inl (c, n, .inl f)) (.inl (c, n, .inl g)) := by
  intro a H h1
  show H[a]? = some (vp_cell c (n, .inl g))
  rw [show H[a]? = some (vp_cell c (n, .inl f)) from h1]
  rw [vp_cell_i, vp_cell_i]
  unfold arrV
  congr 2
  congr 1
  funext j
  show Value.int (f j.val) = Value.int (g j.val)
  rw [h j.val j.isLt]
theorem eqE.arrL {c : ClassId} {n : Nat} {f g : Nat → Int64} (h : ∀ j, j < n → f j = g j) : eqE G (.inl (c, n, .inr (.inl f))) (.inl (c, n, .inr (.inl g))) := by
  intro a H h1
  show H[a]? = some (vp_cell c (n, .inr (.inl g)))
  rw [show H[a]? = some (vp_cell c (n, .inr (.inl f))) from h1]
  rw [vp_cell_l, vp_cell_l]
  unfold arrV
  congr 2
  congr 1
  funext j
  show Value.long (f j.val) = Value.long (g j.val)
  rw [h j.val j.isLt]
theorem x_same {ce' : Nat → va_E} (hs : ∀ q, q < gN G → eqE G (ce q) (ce' q)) (kk : X G k ce' pc L st) : X G k ce pc L st := by
  intro H locs ls hP hD hS hl
  have key : ∀ (j : Nat) (q : Nat × va_E), (wl G ce')[j]? = some q → ∃ e, (wl G ce)[j]? = some (q.1, e) ∧ eqE G e q.2 := by
    intro j q hj
    have hlt : j < gN G := by
      have := (List.getElem?_eq_some_iff.mp hj).1
      rwa [wl_len] at this
    rw [wl_get hlt] at hj
    cases hj
    exact ⟨ce j, wl_get hlt, hs j hlt⟩
  refine kk H locs ls (fun j q hj => ?_) ⟨fun i j p q hi hj e => ?_, fun j q hj => ?_⟩ hS hl
  · obtain ⟨e, h1, h2⟩ := key j q hj
    exact h2 q.1 H (hP j _ h1)
  · obtain ⟨e1, h1, -⟩ := key i p hi
    obtain ⟨e2, h2, -⟩ := key j q hj
    exact hD.1 i j _ _ h1 h2 e
  · obtain ⟨e, h1, -⟩ := key j q hj
    exact hD.2 j (q.1, e) h1
end XR
