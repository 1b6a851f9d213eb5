/-! the law: the two worlds side by side, over the judgement of lists -/
theorem y_joinG {D : va_G} {ws0 wc w1 : va_W} {H H1 : Heap} {A0 : Nat → Prop} (hP : va_P D vwCl (ws0 ++ wc) H) (hD : va_D A0 (ws0 ++ wc)) (hF : ∀ q, va_A wc H.size q → A0 q) (hk : ∀ q : Nat, q < H.size → ¬ va_A wc H.size q → H1[q]? = H[q]?) (hP1 : va_P D vwCl w1 H1) (hD1 : va_D (va_A wc H.size) w1) : va_P D vwCl (ws0 ++ w1) H1 ∧ va_D A0 (ws0 ++ w1) := by
  have hinR : ∀ (j : Nat) (x : Nat × va_E), wc[j]? = some x → (ws0 ++ wc)[ws0.length + j]? = some x := fun j x hx => by rw [List.getElem?_append_right (Nat.le_add_right _ _), Nat.add_sub_cancel_left]; exact hx
  have hin : ∀ (j : Nat) (x : Nat × va_E), ws0[j]? = some x → (ws0 ++ wc)[j]? = some x := fun j x hx => by
    rw [List.getElem?_append_left (List.getElem?_eq_some_iff.mp hx).1]; exact hx
  have hlt : ∀ (j : Nat) (x : Nat × va_E), ws0[j]? = some x → x.1 < H.size := fun j x hx => (hP j x (hin j x hx)).lt
  have hne : ∀ (j : Nat) (x : Nat × va_E), ws0[j]? = some x → ¬ va_A wc H.size x.1 := by
    intro j x hx hz
    rcases hz with ⟨j', e, hj'⟩ | hz
    · have := hD.1 j (ws0.length + j') x _ (hin j x hx) (hinR j' _ hj') rfl
      have hl := (List.getElem?_eq_some_iff.mp hx).1
      omega
    · exact absurd (hlt j x hx) (by omega)
  refine ⟨fun j x hx => ?_, fun i j x y hi hj hxy => ?_, fun j x hx => ?_⟩
  · by_cases hl : j < ws0.length
    · rw [List.getElem?_append_left hl] at hx
      exact (hP j x (hin j x hx)).kept (hk x.1 (hlt j x hx) (hne j x hx))
    · rw [List.getElem?_append_right (by omega)] at hx
      exact hP1 _ x hx
  · by_cases h1 : i < ws0.length <;> by_cases h2 : j < ws0.length
    · rw [List.getElem?_append_left h1] at hi
      rw [List.getElem?_append_left h2] at hj
      exact hD.1 i j x y (hin i x hi) (hin j y hj) hxy
    · rw [List.getElem?_append_left h1] at hi
      rw [List.getElem?_append_right (by omega)] at hj
      exact absurd (hxy ▸ hD1.2 _ y hj) (hne i x hi)
    · rw [List.getElem?_append_right (by omega)] at hi
      rw [List.getElem?_append_left h2] at hj
      exact absurd (hxy ▸ hD1.2 _ x hi) (hne j y hj)
    · rw [List.getElem?_append_right (by omega)] at hi hj
      have := hD1.1 _ _ x y hi hj hxy
      omega
  · by_cases hl : j < ws0.length
    · rw [List.getElem?_append_left hl] at hx
      exact hD.2 j x (hin j x hx)
    · rw [List.getElem?_append_right (by omega)] at hx
      exact hF _ (hD1.2 _ x hx)
section LR
variable {E : ET} {k : KT} {cc : ByteArray} {own : String} {rm : Room} {ws : va_W} {cl sl pc : Nat} {L : List (Option Value)} {st : List Value}
theorem y_swap {a b : va_W} (kk : Y E k (b ++ a) cl sl pc L st) : Y E k (a ++ b) cl sl pc L st := fun H locs ls hP hD hS hl => kk H locs ls (va_P.swap (a := []) hP) (va_D.swap (a := []) hD) hS hl
theorem y_callV {N : Nat} {ga9 : Nat → Nat} {ce : Nat → va_E} {index n nLc : Nat} {y : MethodName} {cy : ByteArray} {ret : Option FieldType} {rc : Room} {P : Option Value → (Nat → va_E) → Prop} (ws0 : va_W) (As : List Value) {rest : List Value} (q : Nat) {ci : Nat} {fs : List Value} {T : u_T} {N9 : Nat} (h : OkY E k cc own rm) (hEv : Ev ga9 (kA k) (ks k) (ks k).heap) (cf : CFV own index y cy nLc ret n) (hM : MX (E.1, E.2.1, E.2.2, N, ga9) y cy nLc ret rc (.ref (ga9 q) :: As) ce P) (hq : q < N) (he : ce q = .inr (ci, fs)) (hcl : vwCl[ci]? = some (y.cls, T, N9)) (hn : As.length = n) (hrc : rc.cells = 0 ∧ rc.slots = 0) (hroom : rc.frames + 1 ≤ rm.frames ∧ 8 + (nLc + 11) + rc.locals ≤ rm.locals) (hcs : cl ≤ rm.cells ∧ sl ≤ rm.slots) (hW : (rest.map fun v => v.category).sum ≤ 8) (hdg : decode cc pc = .ok (.invokevirtual index, 3))
    (kk : ∀ (v : Option Value) (ce' : Nat → va_E), P v ce' → Y E k (ws0 ++ wl (E.1, E.2.1, E.2.2, N, ga9) ce') cl sl (pc + 3) L (v.toList ++ rest)) : Y E k (ws0 ++ wl (E.1, E.2.1, E.2.2, N, ga9) ce) cl sl pc L (As.reverse ++ .ref (ga9 q) :: rest) := by
  intro H locs ls hP hD hS hl
  generalize hG : ((E.1, E.2.1, E.2.2, N, ga9) : GT) = G at hM hP hD kk
  have g1 : gl G = E.1 := by rw [← hG]
  have g2 : gD G = E.2.1 := by rw [← hG]
  have g3 : gi G = E.2.2 := by rw [← hG]
  have g4 : ga G = ga9 := by rw [← hG]
  have g5 : gN G = N := by rw [← hG]
  obtain ⟨hx, hb, hml, hown, hts, hK, hA, hR, hN⟩ := h
  obtain ⟨⟨f1, f2, f3, f4⟩, f5, f6⟩ := cf
  have hinR : ∀ (j : Nat) (x : Nat × va_E), (wl G ce)[j]? = some x → (ws0 ++ wl G ce)[ws0.length + j]? = some x := fun j x hx => by rw [List.getElem?_append_right (Nat.le_add_right _ _), Nat.add_sub_cancel_left]; exact hx
  have hPc : va_P (gD G) vwCl (wl G ce) H := fun j x hx => by rw [g2]; exact hP _ x (hinR j x hx)
  have hDc : va_D (fun _ => True) (wl G ce) := ⟨fun i j x y hi hj e => by have := hD.1 _ _ x y (hinR i x hi) (hinR j y hj) e; omega, fun _ _ _ => trivial⟩
  have hF : ∀ q, va_A (wl G ce) H.size q → kA k q := by
    intro q hq
    rcases hq with ⟨j, e, hj⟩ | hq
    · exact hD.2 _ (q, e) (hinR j _ hj)
    · exact hA q (Nat.le_trans hS.1 hq)
  have hK' : va_K (gD G) vwCl (tysG (gi G)) (ks k) := by rw [g2, g3]; exact hK
  have hg : (wl G ce)[q]? = some (ga9 q, .inr (ci, fs)) := by
    have := wl_get (G := G) (ce := ce) (q := q) (by rw [g5]; exact hq)
    rw [he, g4] at this
    exact this
  have hM' := hM H.size
  rw [g1] at hM'
  have hr := va_runV (p := kp k) (l := E.1) (e := ke k) (R := kR k) (s := ks k) (m := km k) (args := kar k) (below := kb k) (meth := kme k) (c := kc k) (H := H) (locs := locs) (cells := cl) (slots := sl) (g := F0 (km k) pc ls (As.reverse ++ .ref (ga9 q) :: rest)) (nL := kL k) (own := own) (index := index) (As := As) (rest := rest) (C := y.cls) (Ts := UW) ⟨hx, hb, hml, hown, hts⟩ hM' ⟨callB_of n hts (uw_goodIn f1) rfl hrc.1 hrc.2 (hts _ f2) (hts _ f4) f3 (by rw [hR]; exact hroom), hts _ f5, hts _ f6⟩ ⟨va_F_QX_blind (y := y), va_recv hK' hPc hcl hg, fun U hU hW9 => ⟨rfl, by rw [hU], by rw [hU]; exact hPc, va_K.moved hW9.alike hK', hDc, by rw [hU, g4]; exact hEv.to hW9 hS.2.1 hF⟩⟩ rfl hn hl.1 rfl (lv_room hW) hdg ⟨by rw [hR]; exact hcs.1, by rw [hR]; exact hcs.2⟩
  intro T hT Xs
  obtain ⟨v, st₀, t, T', L9, h0, X', hL, e1, e2, ⟨⟨v', ce', hv, hp, hP', -, hD'⟩, hz, hk⟩, stp⟩ := hr T hT Xs
  cases hv
  rw [h0] at hz hk
  have hS' : va_S (kA k) (ks k).heap T'.heap (locs ++ L9) := ⟨Nat.le_trans hS.1 (by rw [e1]; exact hz), fun q h1 h2 => by rw [e1, hk q (Nat.lt_of_lt_of_le h1 hS.1) (fun z => h2 (hF q z))]; exact hS.2.1 q h1 h2, fun q hq => by
      rcases List.mem_append.mp hq with h9 | h9
      · exact hS.2.2 q h9
      · exact hF _ (hL q h9)⟩
  rw [g2] at hP'
  obtain ⟨hP2, hD2⟩ := y_joinG hP hD hF (fun q h1 h2 => hk q h1 h2) hP' hD'
  obtain ⟨t2, a1, b1⟩ := kk v ce' hp T'.heap (locs ++ L9) ls (by rw [e1]; exact hP2) hD2 hS' hl T' rfl X'
  exact ⟨t2, stp t2 a1, b1⟩
/-- the law's own rows -/
theorem y_ald1 {a0 : Option Value} {t : List (Option Value)} {x : Nat} (h : OkY E k cc own rm) (hdg : decode cc pc = .ok (.aload_n 1, 1)) (kk : Y E k ws cl sl (pc + 1) (a0 :: some (.ref x) :: t) (.ref x :: st)) : Y E k ws cl sl pc (a0 :: some (.ref x) :: t) st := fun H locs ls hP hD hS hl => lv_aload_n h.1 h.2.1 hdg rfl (hl.2.2 1 _ rfl) (kk H locs ls hP hD hS hl)
theorem y_ald2 {a0 a1 : Option Value} {t : List (Option Value)} {x : Nat} (h : OkY E k cc own rm) (hdg : decode cc pc = .ok (.aload_n 2, 1)) (kk : Y E k ws cl sl (pc + 1) (a0 :: a1 :: some (.ref x) :: t) (.ref x :: st)) : Y E k ws cl sl pc (a0 :: a1 :: some (.ref x) :: t) st := fun H locs ls hP hD hS hl => lv_aload_n h.1 h.2.1 hdg rfl (hl.2.2 2 _ rfl) (kk H locs ls hP hD hS hl)
theorem y_ild3 {a0 a1 a2 : Option Value} {t : List (Option Value)} {x : Int32} (h : OkY E k cc own rm) (hdg : decode cc pc = .ok (.iload_n 3, 1)) (kk : Y E k ws cl sl (pc + 1) (a0 :: a1 :: a2 :: some (.int x) :: t) (.int x :: st)) : Y E k ws cl sl pc (a0 :: a1 :: a2 :: some (.int x) :: t) st := fun H locs ls hP hD hS hl => lv_iload_n h.1 h.2.1 hdg rfl (hl.2.2 3 _ rfl) (kk H locs ls hP hD hS hl)
theorem y_ast1 {a0 : Option Value} {b : Option Value} {t : List (Option Value)} {x : Nat} (h : OkY E k cc own rm) (hdg : decode cc pc = .ok (.astore_n 1, 1)) (hn : 1 < kL k) (hq : c1o (some a0) = true) (kk : Y E k ws cl sl (pc + 1) (a0 :: some (.ref x) :: t) st) : Y E k ws cl sl pc (a0 :: b :: t) (.ref x :: st) := fun H locs ls hP hD hS hl => lv_astore_n h.1 h.2.1 hdg rfl (lh_has hl) hn rfl (fun ls' hl' => kk H locs ls' hP hD hS (lh_set (i := 1) (L := a0 :: b :: t) (Or.inr hq) hl'))
theorem y_ast2 {a0 a1 : Option Value} {b : Option Value} {t : List (Option Value)} {x : Nat} (h : OkY E k cc own rm) (hdg : decode cc pc = .ok (.astore_n 2, 1)) (hn : 2 < kL k) (hq : c1o (some a1) = true) (kk : Y E k ws cl sl (pc + 1) (a0 :: a1 :: some (.ref x) :: t) st) : Y E k ws cl sl pc (a0 :: a1 :: b :: t) (.ref x :: st) := fun H locs ls hP hD hS hl => lv_astore_n h.1 h.2.1 hdg rfl (lh_has hl) hn rfl (fun ls' hl' => kk H locs ls' hP hD hS (lh_set (i := 2) (L := a0 :: a1 :: b :: t) (Or.inr hq) hl'))
theorem y_ist3 {a0 a1 a2 : Option Value} {b : Option Value} {t : List (Option Value)} {x : Int32} (h : OkY E k cc own rm) (hdg : decode cc pc = .ok (.istore_n 3, 1)) (hn : 3 < kL k) (hq : c1o (some a2) = true) (kk : Y E k ws cl sl (pc + 1) (a0 :: a1 :: a2 :: some (.int x) :: t) st) : Y E k ws cl sl pc (a0 :: a1 :: a2 :: b :: t) (.int x :: st) := fun H locs ls hP hD hS hl => lv_istore_n h.1 h.2.1 hdg rfl (lh_has hl) hn rfl (fun ls' hl' => kk H locs ls' hP hD hS (lh_set (i := 3) (L := a0 :: a1 :: a2 :: b :: t) (Or.inr hq) hl'))
theorem y_inc3 {a0 a1 a2 : Option Value} {t : List (Option Value)} {x y : Int32} {n : Int} (h : OkY E k cc own rm) (hdg : decode cc pc = .ok (.iinc 3 n, 3)) (hn : 3 < kL k) (hq : c1o (some a2) = true) (hv : Int32.ofInt n = y) (kk : Y E k ws cl sl (pc + 3) (a0 :: a1 :: a2 :: some (.int (x + y)) :: t) st) : Y E k ws cl sl pc (a0 :: a1 :: a2 :: some (.int x) :: t) st := by
  intro H locs ls hP hD hS hl
  obtain ⟨j, hj⟩ := List.getElem?_of_mem (lhl_mem.mpr (show (a0 :: a1 :: a2 :: some (.int x) :: t)[3]? = some (some (.int x)) from rfl))
  exact lv_iinc h.1 h.2.1 hdg (lh_has hl) (k := j) hj (by rw [hv]) hn rfl (fun ls' hl' => kk H locs ls' hP hD hS (lh_set (i := 3) (L := a0 :: a1 :: a2 :: some (.int x) :: t) (Or.inr hq) hl'))
theorem y_isub {x y : Int32} (h : OkY E k cc own rm) (hdg : decode cc pc = .ok (.isub, 1)) (kk : Y E k ws cl sl (pc + 1) L (.int (x - y) :: st)) : Y E k ws cl sl pc L (.int y :: .int x :: st) := fun H locs ls hP hD hS hl => lv_isub h.1 h.2.1 hdg (kk H locs ls hP hD hS hl)
theorem y_iand {x y : Int32} (h : OkY E k cc own rm) (hdg : decode cc pc = .ok (.iand, 1)) (kk : Y E k ws cl sl (pc + 1) L (.int (x &&& y) :: st)) : Y E k ws cl sl pc L (.int y :: .int x :: st) := fun H locs ls hP hD hS hl => lv_iand h.1 h.2.1 hdg (kk H locs ls hP hD hS hl)
theorem y_icmp_gt {x y : Int32} {off : Int} (tgt : Nat) (h : OkY E k cc own rm) (hdg : decode cc pc = .ok (.if_icmp .gt off, 3)) (ht : (pc : Int) + off = (tgt : Int)) (kt : y < x → Y E k ws cl sl tgt L st) (kf : ¬ (y < x) → Y E k ws cl sl (pc + 3) L st) : Y E k ws cl sl pc L (.int y :: .int x :: st) := fun H locs ls hP hD hS hl => lv_icmp_gt h.1 h.2.1 hdg ht (fun c => kt c H locs ls hP hD hS hl) (fun c => kf c H locs ls hP hD hS hl)
theorem y_icmp_eq {x y : Int32} {off : Int} (tgt : Nat) (h : OkY E k cc own rm) (hdg : decode cc pc = .ok (.if_icmp .eq off, 3)) (ht : (pc : Int) + off = (tgt : Int)) (kt : x = y → Y E k ws cl sl tgt L st) (kf : ¬ (x = y) → Y E k ws cl sl (pc + 3) L st) : Y E k ws cl sl pc L (.int y :: .int x :: st) := fun H locs ls hP hD hS hl => lv_icmp_eq h.1 h.2.1 hdg ht (fun c => kt c H locs ls hP hD hS hl) (fun c => kf c H locs ls hP hD hS hl)
theorem y_tin {dflt lo hi : Int} {offs : Array Int} {len : Nat} {x : Int32} {off : Int} (tgt : Nat) (h : OkY E k cc own rm) (hdg : decode cc pc = .ok (.tableswitch dflt lo hi offs, len)) (h1 : ¬ x.toInt < lo) (h2 : ¬ hi < x.toInt) (ho : offs[(x.toInt - lo).toNat]? = some off) (ht : (pc : Int) + off = (tgt : Int)) (kk : Y E k ws cl sl tgt L st) : Y E k ws cl sl pc L (.int x :: st) := fun H locs ls hP hD hS hl => lv_tableIn h.1 h.2.1 hdg h1 h2 ho ht (kk H locs ls hP hD hS hl)
theorem y_tout {dflt lo hi : Int} {offs : Array Int} {len : Nat} {x : Int32} (tgt : Nat) (h : OkY E k cc own rm) (hdg : decode cc pc = .ok (.tableswitch dflt lo hi offs, len)) (h1 : x.toInt < lo ∨ hi < x.toInt) (ht : (pc : Int) + dflt = (tgt : Int)) (kk : Y E k ws cl sl tgt L st) : Y E k ws cl sl pc L (.int x :: st) := fun H locs ls hP hD hS hl => lv_tableOut h.1 h.2.1 hdg h1 ht (kk H locs ls hP hD hS hl)
/-- the script -/
def Scr (k : KT) (b N : Nat) (xs : Nat → Int32) : Prop := va_X b N xs (ks k) (ks k).heap ∧ b < (ks k).heap.size ∧ ¬ kA k b
theorem y_sld {b N : Nat} {xs : Nat → Int32} {i : Int32} (h : OkY E k cc own rm) (hX : Scr k b N xs) (hin : vp_in i N) (hdg : decode cc pc = .ok (.iaload, 1)) (kk : Y E k ws cl sl (pc + 1) L (.int (xs i.toNatClampNeg) :: st)) : Y E k ws cl sl pc L (.int i :: .ref b :: st) := fun H locs ls hP hD hS hl => va_sld h.1 h.2.1 hX.1 hX.2.1 hX.2.2 hS hin hdg (kk H locs ls hP hD hS hl)
theorem y_slen {b N : Nat} {xs : Nat → Int32} (h : OkY E k cc own rm) (hX : Scr k b N xs) (hdg : decode cc pc = .ok (.arraylength, 1)) (kk : Y E k ws cl sl (pc + 1) L (.int (Int32.ofNat N) :: st)) : Y E k ws cl sl pc L (.ref b :: st) := fun H locs ls hP hD hS hl => va_slen h.1 h.2.1 hX.1 hX.2.1 hX.2.2 hS hdg (kk H locs ls hP hD hS hl)
/-- one argument out of the script -/
theorem y_arg {b N i j : Nat} {v : Int32} {n : Int} {xs : Nat → Int32} {t1 t2 : Option Value} (h : OkY E k cc own rm) (hX : Scr k b N xs) (hv : Int32.ofInt n = v) (hj : nI j = v) (hij : i + j < N) (hN : N ≤ 3072) (d0 : decode cc pc = .ok (.aload_n 0, 1)) (d1 : decode cc (pc + 1) = .ok (.iload_n 3, 1)) (d2 : decode cc (pc + 2) = .ok (.iconst n, 1)) (d3 : decode cc (pc + 3) = .ok (.iadd, 1)) (d4 : decode cc (pc + 4) = .ok (.iaload, 1)) (kk : Y E k ws cl sl (pc + 5) [some (.ref b), t1, t2, some (.int (nI i))] (.int (xs (i + j)) :: st)) : Y E k ws cl sl pc [some (.ref b), t1, t2, some (.int (nI i))] st := by
  refine y_ald0 h d0 (y_ild3 h d1 (y_iconst (v := v) h d2 hv (y_iadd h d3 (y_sld h hX ?_ d4 ?_))))
  · rw [← hj, nI_add]
    exact vp_in_nI hij (by omega)
  · rw [← hj, nI_add, show (nI (i + j)).toNatClampNeg = i + j from ix_n (by omega)]
    exact kk
end LR
