/-! constructors: an array of arrays, its rows behind it -/
def rowsN (q N : Nat) (e : va_E) : va_W := (List.range N).map (fun i => (q + 1 + i, e))
theorem rowsN_at {q N j : Nat} {e : va_E} {x : Nat × va_E} (h : (rowsN q N e)[j]? = some x) : j < N ∧ x = (q + 1 + j, e) := by
  unfold rowsN at h
  rw [List.getElem?_map] at h
  by_cases hj : j < N
  · rw [List.getElem?_range hj] at h
    cases h
    exact ⟨hj, rfl⟩
  · rw [List.getElem?_eq_none (by rw [List.length_range]; omega)] at h
    cases h
theorem y_grown {D : va_G} {ws nw : va_W} {H H1 : Heap} {A : Nat → Prop} (hP : va_P D vwCl ws H) (hD : va_D A ws) (hold : ∀ x : Nat, x < H.size → H1[x]? = H[x]?) (hA : ∀ q, H.size ≤ q → A q) (hn : ∀ (j : Nat) (x : Nat × va_E), nw[j]? = some x → x.1 = H.size + j ∧ va_at D vwCl x H1) : va_P D vwCl (ws ++ nw) H1 ∧ va_D A (ws ++ nw) := by
  have hlt : ∀ (j : Nat) (x : Nat × va_E), ws[j]? = some x → x.1 < H.size := fun j x hx => (hP j x hx).lt
  refine ⟨(hP.kept (fun j x hx => hold x.1 (hlt j x hx))).app (fun j x hx => (hn j x hx).2), fun i j x y hi hj hxy => ?_, fun j x hx => ?_⟩
  · by_cases h1 : i < ws.length <;> by_cases h2 : j < ws.length
    · rw [List.getElem?_append_left h1] at hi
      rw [List.getElem?_append_left h2] at hj
      exact hD.1 i j x y hi hj hxy
    · rw [List.getElem?_append_left h1] at hi
      rw [List.getElem?_append_right (by omega)] at hj
      have := hlt i x hi
      have := (hn _ y hj).1
      omega
    · rw [List.getElem?_append_right (by omega)] at hi
      rw [List.getElem?_append_left h2] at hj
      have := hlt j y hj
      have := (hn _ x hi).1
      omega
    · rw [List.getElem?_append_right (by omega)] at hi hj
      have := (hn _ x hi).1
      have := (hn _ y hj).1
      omega
  · by_cases hl : j < ws.length
    · rw [List.getElem?_append_left hl] at hx
      exact hD.2 j x hx
    · rw [List.getElem?_append_right (by omega)] at hx
      exact hA _ (by have := (hn _ x hx).1; omega)
theorem outer_rf (c : ClassId) (N h0 : Nat) : ∀ i : Nat, Jvm.Free.Multi.outerC c N h0 i = arrV c N (fun j => va_rf (if j < i then some (h0 + 1 + j) else none))
  | 0 => (arrV_new c N .null).trans (congrArg (arrV c N) (funext fun j => by rw [if_neg (Nat.not_lt_zero j)]; rfl))
  | i + 1 => by
    show (Jvm.Free.Multi.outerC c N h0 i).setSlot i (.ref (h0 + 1 + i)) = _
    rw [outer_rf c N h0 i, arrV_store]
    refine congrArg (arrV c N) (funext fun j => ?_)
    by_cases e : j = i
    · rw [e]
      simp [updV, va_rf]
    · by_cases h : j < i
      · simp [updV, e, h, Nat.lt_succ_of_lt h]
      · simp [updV, e, h, show ¬ j < i + 1 by omega]
def outE (E : ET) (q : Nat) : va_E := .inl (E.2.2 6, 14, .inr (.inr (.inr (.inr (fun i => if i < 14 then some (q + 1 + i) else none)))))
theorem y_mna {E : ET} {k : KT} {cc : ByteArray} {own : String} {rm : Room} {ws : va_W} {cl sl pc : Nat} {L : List (Option Value)} {st : List Value} {index : Nat} (h : OkY E k cc own rm) (w1 : Cond.classLink own index ("[" ++ (FieldType.array .int).toString) ∈ UW) (w2 : Cond.arrayClass .int ∈ UW) (hc : cl + 15 ≤ rm.cells) (hs : sl + 1358 ≤ rm.slots) (hdg : decode cc pc = .ok (.multianewarray index 2, 4))
    (kk : ∀ q : Nat, Y E k (ws ++ (q, outE E q) :: rowsN q 14 (.inl (E.2.2 0, 96, .inl (fun _ => 0)))) (cl + 15) (sl + 1358) (pc + 4) L (.ref q :: st)) : Y E k ws cl sl pc L (.int 96 :: .int 14 :: st) := by
  intro H locs ls hP hD hS hl
  obtain ⟨hx, hb, hml, hown, hts, hK, hA, hR, hN⟩ := h
  intro T hT Xs
  have en : (14 : Int32).toNatClampNeg = 14 := rfl
  have ek : (96 : Int32).toNatClampNeg = 96 := rfl
  obtain ⟨vm₁, cA, comp, -, fA, fC, -, -, X', step⟩ := Xs.multianewarray2F hx hown (hts _ w1) (show (Cond.arrayOver (.array .int)).before (kar k) (ks k) = true from hN.2.2.2.2.2.2.2.2) (hts _ w2) (g := F0 (km k) pc ls (.int 96 :: .int 14 :: st)) rfl (by rw [hb]; exact hdg) rfl (by decide) (by decide) (by decide) (by decide) (by decide) (by decide) (by decide) (by rw [hR, en]; exact hc) (by rw [hR, en, ek]; exact hs)
  rw [en, ek] at X' step
  have e6 : cA = E.2.2 6 := Option.some.inj (fA.symm.trans (hK.2 6 (E.2.2 6, .array .int) rfl).2)
  have e0 : comp = E.2.2 0 := Option.some.inj (fC.symm.trans (hK.2 0 (E.2.2 0, .int) rfl).2)
  subst e6
  subst e0
  obtain ⟨f1, f2, -, -⟩ := Jvm.Free.Multi.fill_facts (T.setVm vm₁) (E.2.2 6) (E.2.2 0) 14 96 (defaultValue .int) 14
  have f3 := fun (x : Nat) (hx : x < (T.setVm vm₁).heap.size) => Jvm.Free.Multi.fill_old (T.setVm vm₁) (E.2.2 6) (E.2.2 0) 14 96 (defaultValue .int) (a := x) hx 14
  have f4 := Jvm.Free.Multi.fill_inner (T.setVm vm₁) (E.2.2 6) (E.2.2 0) 14 96 (defaultValue .int) 14
  have hTh : (T.setVm vm₁).heap = H := hT
  rw [hTh] at f1 f2 f3 f4
  generalize Jvm.Free.Multi.fill (T.setVm vm₁) (E.2.2 6) (E.2.2 0) 14 96 (defaultValue .int) 14 = F at X' step f1 f2 f3 f4
  obtain ⟨hP2, hD2⟩ := y_grown (nw := (H.size, outE E H.size) :: rowsN H.size 14 (.inl (E.2.2 0, 96, .inl (fun _ => 0)))) hP hD f3 (fun q hq => hA q (Nat.le_trans hS.1 hq)) (fun j x hx => by
    cases j with
    | zero =>
      cases hx
      refine ⟨rfl, ?_⟩
      show F.heap[H.size]? = some (vp_cell _ _)
      rw [f2, vp_cell_q, outer_rf]
    | succ j =>
      obtain ⟨hj, rfl⟩ := rowsN_at hx
      refine ⟨by show H.size + 1 + j = H.size + (j + 1); omega, ?_⟩
      show F.heap[H.size + 1 + j]? = some (vp_cell _ _)
      rw [f4 j hj]
      refine congrArg some ?_
      rw [vp_cell_i]
      exact arrV_new _ _ _)
  obtain ⟨t, a1, b1⟩ := kk H.size F.heap locs ls hP2 hD2 ⟨by rw [f1]; have := hS.1; omega, fun x h1 h2 => (f3 x (Nat.lt_of_lt_of_le h1 hS.1)).trans (hS.2.1 x h1 h2), hS.2.2⟩ hl F rfl X'
  refine ⟨t, step t ?_, b1⟩
  have e : T.heap.size = H.size := by rw [hT]
  rw [e]
  exact a1
