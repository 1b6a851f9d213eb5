/-! the first states, their worlds, the relation of them -/
def σ0 : ST := fun q => if q < 30 then (match q % 10 with | 0 => upd (fun _ => 0) 13 1 | 6 => loF 10 | 7 => loL 10 | 9 => loC 3 | _ => fun _ => 0) else if 54 ≤ q ∧ q < 72 ∧ q % 2 = 0 then upd (fun _ => 0) 0 (-1) else fun _ => 0
def μ0 : ST := fun q => match q with | 1 => loN 10 | 8 => upd (upd (upd (upd (upd (upd (upd (upd (upd (upd (upd (fun _ => 0) 0 119) 1 101) 2 97) 3 114) 4 102) 5 101) 6 101) 7 102) 8 105) 9 110) 10 101 | 9 => upd (upd (upd (upd (fun _ => 0) 0 0) 1 4) 2 7) 3 11 | 15 => upd (upd (upd (upd (fun _ => 0) 0 (-1)) 1 (-1)) 2 (-1)) 3 (-1) | _ => fun _ => 0
theorem loN_hi {x : Nat} (hx : 27 ≤ x) : ∀ j, j ≤ 10 → loN j x = 0
  | 0, _ => upd_n (by omega)
  | j + 1, hj => (upd_n (by omega)).trans ((upd_n (by omega)).trans (loN_hi hx j (by omega)))
theorem en_0 : μ0 1 = en (hs σ0 0) (fun _ => 0) := by
  funext x
  by_cases q : x < 97
  · exact (show ∀ x, x < 97 → loN 10 x = en (hs σ0 0) (fun _ => 0) x by decide +kernel) x q
  · show loN 10 x = _
    rw [loN_hi (by omega) 10 (Nat.le_refl _)]
    unfold en
    rw [if_neg q]
theorem GH_0 : GH (hs σ0 0) := by
  refine ⟨⟨⟨0, by omega, by decide +kernel⟩, fun f x hx hl => ?_⟩, 0, 0, by decide +kernel, by omega, by decide +kernel, by omega⟩
  have hf : f = 2 ∨ f = 3 ∨ f = 4 ∨ f = 6 ∨ f = 7 := Decidable.byContradiction (fun q => hl (by unfold lim; rw [if_neg (by omega), if_neg (by omega), if_neg (by omega), if_neg (by omega), if_neg (by omega)]))
  rcases hf with rfl | rfl | rfl | rfl | rfl
  · exact ⟨0, rfl, Nat.le_refl _, Nat.zero_le _⟩
  · exact ⟨0, rfl, Nat.le_refl _, Nat.zero_le _⟩
  · exact ⟨0, rfl, Nat.le_refl _, Nat.zero_le _⟩
  · refine ⟨1, (show ∀ x, x < 10 → loF 10 x = nI 1 by decide +kernel) x hx, by decide, by decide⟩
  · have hx' : x < 10 := hx
    refine ⟨x, (show ∀ x, x < 10 → loL 10 x = nI x by decide +kernel) x hx', Nat.zero_le _, ?_⟩
    show x ≤ 9
    omega
theorem σ0_r {r : Nat} (hr : r < 9) : σ0 (54 + 2 * r) = upd (fun _ => 0) 0 (-1) ∧ σ0 (54 + 2 * r + 1) = fun _ => 0 := by
  refine ⟨?_, ?_⟩
  · unfold σ0
    rw [if_neg (by omega), if_pos ⟨by omega, by omega, by omega⟩]
  · unfold σ0
    rw [if_neg (by omega), if_neg (by omega)]
theorem σ0_s {i : Nat} (hi : i < 5) : σ0 (72 + i) = fun _ => 0 := by
  unfold σ0
  rw [if_neg (by omega), if_neg (by omega)]
theorem Rel_0 : Rel σ0 μ0 := by
  refine ⟨fun _ => 0, ⟨en_0, ⟨0, by omega, by decide +kernel, fun t ht => absurd ht (Nat.not_lt_zero t), fun key hk => ?_⟩, GH_0⟩, ⟨rfl, fun q => absurd rfl q⟩, fun r hr => ?_, fun i hi => ?_, ⟨rfl, 0, rfl, rfl, by omega⟩, ⟨rfl, 0, rfl, rfl, by omega⟩, ?_⟩
  · exact (show ∀ key, key < 3 → loC 3 key = -1 by decide +kernel) key hk
  · obtain ⟨e1, e2⟩ := σ0_r (r := r) (by omega)
    unfold Sh1 RS
    rw [e1, e2]
    refine ⟨(show ∀ r, r < 4 → μ0 15 r = -1 by decide +kernel) r hr, rfl, fun p _ => rfl, Or.inl rfl, ⟨0, by omega, rfl⟩, fun p _ => ?_⟩
    exact (show plOK 0 from Or.inr ⟨by decide, by decide⟩)
  · obtain ⟨e1, e2⟩ := σ0_r (r := 4 + i) (by omega)
    have e3 := σ0_s hi
    unfold Sl1 RS
    rw [e1, e2, e3]
    exact ⟨rfl, fun q => absurd q (by decide), fun q => absurd q (by decide), fun q => absurd q (by decide), 0, by omega, rfl⟩
  · unfold KC
    exact ⟨by decide +kernel, fun w x hw hx => (show ∀ w, w < 3 → ∀ x, x < lenJ.getD w 0 → μ0 8 (kaN w + x) = (bytJ.getD w []).getD x 0 by decide +kernel) w hw x hx⟩
def aC7 (a : Nat) (q5 : Nat) (q16 : Nat) (q32 : Nat) (q45 : Nat) (q51 : Nat) (q62 : Nat) (q73 : Nat) (q85 : Nat) (q93 : Nat) (q102 : Nat) (g55 : Nat) (g66 : Nat) (q124r0 : Nat) (q124r1 : Nat) (q124r2 : Nat) (q124r3 : Nat) (q150s0 : Nat) (q150s1 : Nat) (q150s2 : Nat) (q150s3 : Nat) (q150s4 : Nat) (g128r0 : Nat) (g128r1 : Nat) (g128r2 : Nat) (g128r3 : Nat) (g9 : Nat → Nat) (g20 : Nat → Nat) (g36 : Nat → Nat) (g77 : Nat → Nat) (g154s0 : Nat → Nat) (g154s1 : Nat → Nat) (g154s2 : Nat → Nat) (g154s3 : Nat → Nat) (g154s4 : Nat → Nat) (sK sV : Nat → Nat) : Nat → Nat := fun q => if q < 82 then [q5, (g9 1), (g9 2), (g9 3), (g9 4), (g9 5), (g9 6), (g9 7), (g9 8), (g9 9), q16, (g20 1), (g20 2), (g20 3), (g20 4), (g20 5), (g20 6), (g20 7), (g20 8), (g20 9), q32, (g36 1), (g36 2), (g36 3), (g36 4), (g36 5), (g36 6), (g36 7), (g36 8), (g36 9), a, q45, q51, g55, q62, g66, (g77 1), (g77 2), (g77 3), (g77 4), (g77 0 + 1 + 0), (g77 0 + 1 + 1), (g77 0 + 1 + 2), (g77 0 + 1 + 3), (g77 0 + 1 + 4), (g77 0 + 1 + 5), (g77 0 + 1 + 6), (g77 0 + 1 + 7), (g77 0 + 1 + 8), (g77 0 + 1 + 9), (g77 0 + 1 + 10), (g77 0 + 1 + 11), (g77 0 + 1 + 12), (g77 0 + 1 + 13), q124r0, g128r0, q124r1, g128r1, q124r2, g128r2, q124r3, g128r3, (g154s0 0), (g154s0 1), (g154s1 0), (g154s1 1), (g154s2 0), (g154s2 1), (g154s3 0), (g154s3 1), (g154s4 0), (g154s4 1), q150s0, q150s1, q150s2, q150s3, q150s4, q102, q73, (g77 0), q85, q93].getD q 0 else if q < 200 then sK (q - 100) else sV (q - 200)
def aM8 (a : Nat) (g sK sV : Nat → Nat) : Nat → Nat := fun q => if q < 24 then (match q with | 0 => a | _ => g q) else if q < 200 then sK (q - 100) else sV (q - 200)
theorem up_4 (a b c d : Nat) : va_up (va_up (va_up (va_up (fun _ => none) 0 (some a)) 1 (some b)) 2 (some c)) 3 (some d) = fun i => if i < 4 then some ([a, b, c, d].getD i 0) else none := by
  funext i
  match i with
  | 0 => rfl
  | 1 => rfl
  | 2 => rfl
  | 3 => rfl
  | n + 4 => rfl
theorem up_5 (a b c d e : Nat) : va_up (va_up (va_up (va_up (va_up (fun _ => none) 0 (some a)) 1 (some b)) 2 (some c)) 3 (some d)) 4 (some e) = fun i => if i < 5 then some ([a, b, c, d, e].getD i 0) else none := by
  funext i
  match i with
  | 0 => rfl
  | 1 => rfl
  | 2 => rfl
  | 3 => rfl
  | 4 => rfl
  | n + 5 => rfl
theorem y_sub {E : ET} {k : KT} {ws ws' : va_W} {cl sl pc : Nat} {L : List (Option Value)} {st : List Value} (is : List Nat) (hn : va_nd is = true) (hs : is.filterMap (fun i => ws[i]?) = ws') (hm : is.map (fun i => ws[i]?) = ws'.map some) (kk : Y E k ws' cl sl pc L st) : Y E k ws cl sl pc L st := fun H locs ls hP hD hS hl => kk H locs ls (hP.sub is hs) (hD.sub is hn hm) hS hl
theorem fn_14 (a : Nat) (q5 : Nat) (q16 : Nat) (q32 : Nat) (q45 : Nat) (q51 : Nat) (q62 : Nat) (q73 : Nat) (q85 : Nat) (q93 : Nat) (q102 : Nat) (g55 : Nat) (g66 : Nat) (q124r0 : Nat) (q124r1 : Nat) (q124r2 : Nat) (q124r3 : Nat) (q150s0 : Nat) (q150s1 : Nat) (q150s2 : Nat) (q150s3 : Nat) (q150s4 : Nat) (g128r0 : Nat) (g128r1 : Nat) (g128r2 : Nat) (g128r3 : Nat) (g9 : Nat → Nat) (g20 : Nat → Nat) (g36 : Nat → Nat) (g77 : Nat → Nat) (g154s0 : Nat → Nat) (g154s1 : Nat → Nat) (g154s2 : Nat → Nat) (g154s3 : Nat → Nat) (g154s4 : Nat → Nat) (sK sV : Nat → Nat) : (fun i => if i < 14 then some (g77 0 + 1 + i) else none) = fun i => if i < 14 then some ((aC7 a q5 q16 q32 q45 q51 q62 q73 q85 q93 q102 g55 g66 q124r0 q124r1 q124r2 q124r3 q150s0 q150s1 q150s2 q150s3 q150s4 g128r0 g128r1 g128r2 g128r3 g9 g20 g36 g77 g154s0 g154s1 g154s2 g154s3 g154s4 sK sV) (40 + i)) else none := by
  funext i
  match i with
  | 0 => rfl
  | 1 => rfl
  | 2 => rfl
  | 3 => rfl
  | 4 => rfl
  | 5 => rfl
  | 6 => rfl
  | 7 => rfl
  | 8 => rfl
  | 9 => rfl
  | 10 => rfl
  | 11 => rfl
  | 12 => rfl
  | 13 => rfl
  | n + 14 => rfl
theorem fn_4 (a : Nat) (q5 : Nat) (q16 : Nat) (q32 : Nat) (q45 : Nat) (q51 : Nat) (q62 : Nat) (q73 : Nat) (q85 : Nat) (q93 : Nat) (q102 : Nat) (g55 : Nat) (g66 : Nat) (q124r0 : Nat) (q124r1 : Nat) (q124r2 : Nat) (q124r3 : Nat) (q150s0 : Nat) (q150s1 : Nat) (q150s2 : Nat) (q150s3 : Nat) (q150s4 : Nat) (g128r0 : Nat) (g128r1 : Nat) (g128r2 : Nat) (g128r3 : Nat) (g9 : Nat → Nat) (g20 : Nat → Nat) (g36 : Nat → Nat) (g77 : Nat → Nat) (g154s0 : Nat → Nat) (g154s1 : Nat → Nat) (g154s2 : Nat → Nat) (g154s3 : Nat → Nat) (g154s4 : Nat → Nat) (sK sV : Nat → Nat) : (fun i => if i < 4 then some ([q124r0, q124r1, q124r2, q124r3].getD i 0) else none) = fun i => if i < 4 then some ((aC7 a q5 q16 q32 q45 q51 q62 q73 q85 q93 q102 g55 g66 q124r0 q124r1 q124r2 q124r3 q150s0 q150s1 q150s2 q150s3 q150s4 g128r0 g128r1 g128r2 g128r3 g9 g20 g36 g77 g154s0 g154s1 g154s2 g154s3 g154s4 sK sV) (54 + 2 * i)) else none := by
  funext i
  match i with
  | 0 => rfl
  | 1 => rfl
  | 2 => rfl
  | 3 => rfl
  | n + 4 => rfl
theorem fn_5 (a : Nat) (q5 : Nat) (q16 : Nat) (q32 : Nat) (q45 : Nat) (q51 : Nat) (q62 : Nat) (q73 : Nat) (q85 : Nat) (q93 : Nat) (q102 : Nat) (g55 : Nat) (g66 : Nat) (q124r0 : Nat) (q124r1 : Nat) (q124r2 : Nat) (q124r3 : Nat) (q150s0 : Nat) (q150s1 : Nat) (q150s2 : Nat) (q150s3 : Nat) (q150s4 : Nat) (g128r0 : Nat) (g128r1 : Nat) (g128r2 : Nat) (g128r3 : Nat) (g9 : Nat → Nat) (g20 : Nat → Nat) (g36 : Nat → Nat) (g77 : Nat → Nat) (g154s0 : Nat → Nat) (g154s1 : Nat → Nat) (g154s2 : Nat → Nat) (g154s3 : Nat → Nat) (g154s4 : Nat → Nat) (sK sV : Nat → Nat) : (fun i => if i < 5 then some ([q150s0, q150s1, q150s2, q150s3, q150s4].getD i 0) else none) = fun i => if i < 5 then some ((aC7 a q5 q16 q32 q45 q51 q62 q73 q85 q93 q102 g55 g66 q124r0 q124r1 q124r2 q124r3 q150s0 q150s1 q150s2 q150s3 q150s4 g128r0 g128r1 g128r2 g128r3 g9 g20 g36 g77 g154s0 g154s1 g154s2 g154s3 g154s4 sK sV) (72 + i)) else none := by
  funext i
  match i with
  | 0 => rfl
  | 1 => rfl
  | 2 => rfl
  | 3 => rfl
  | 4 => rfl
  | n + 5 => rfl
set_option maxRecDepth 100000 in
set_option maxHeartbeats 40000000 in
theorem world7 {E : ET} {k : KT} {cl sl pc : Nat} {L : List (Option Value)} {st : List Value} (a : Nat) (q5 : Nat) (q16 : Nat) (q32 : Nat) (q45 : Nat) (q51 : Nat) (q62 : Nat) (q73 : Nat) (q85 : Nat) (q93 : Nat) (q102 : Nat) (g55 : Nat) (g66 : Nat) (q124r0 : Nat) (q124r1 : Nat) (q124r2 : Nat) (q124r3 : Nat) (q150s0 : Nat) (q150s1 : Nat) (q150s2 : Nat) (q150s3 : Nat) (q150s4 : Nat) (g128r0 : Nat) (g128r1 : Nat) (g128r2 : Nat) (g128r3 : Nat) (g9 : Nat → Nat) (g20 : Nat → Nat) (g36 : Nat → Nat) (g77 : Nat → Nat) (g154s0 : Nat → Nat) (g154s1 : Nat → Nat) (g154s2 : Nat → Nat) (g154s3 : Nat → Nat) (g154s4 : Nat → Nat) (sK sV : Nat → Nat) (kk : Y E k (wl (GC (bTE E (aC7 a q5 q16 q32 q45 q51 q62 q73 q85 q93 q102 g55 g66 q124r0 q124r1 q124r2 q124r3 q150s0 q150s1 q150s2 q150s3 q150s4 g128r0 g128r1 g128r2 g128r3 g9 g20 g36 g77 g154s0 g154s1 g154s2 g154s3 g154s4 sK sV))) (cC (bTE E (aC7 a q5 q16 q32 q45 q51 q62 q73 q85 q93 q102 g55 g66 q124r0 q124r1 q124r2 q124r3 q150s0 q150s1 q150s2 q150s3 q150s4 g128r0 g128r1 g128r2 g128r3 g9 g20 g36 g77 g154s0 g154s1 g154s2 g154s3 g154s4 sK sV)) σ0)) cl sl pc L st) : Y E k [(a, .inr (6, [.ref q5, .ref q16, .int 0, .ref q32, .ref q45, .ref q51, .ref q62, .ref q73, .ref q85, .ref q93, .ref q102, .int 0])), (q5, .inr (0, [.int 0, .ref (g9 1), .ref (g9 2), .ref (g9 3), .ref (g9 4), .ref (g9 5), .ref (g9 6), .ref (g9 7), .ref (g9 8), .int 0, .int 0, .int 0, .int 0, .int 1, .int 0, .ref (g9 9)])), ((g9 1), .inl (E.2.2 0, 12, .inl (fun _ => 0))), ((g9 2), .inl (E.2.2 0, 12, .inl (fun _ => 0))), ((g9 3), .inl (E.2.2 0, 12, .inl (fun _ => 0))), ((g9 4), .inl (E.2.2 0, 12, .inl (fun _ => 0))), ((g9 5), .inl (E.2.2 0, 12, .inl (fun _ => 0))), ((g9 6), .inl (E.2.2 0, 10, .inl (loF 10))), ((g9 7), .inl (E.2.2 0, 10, .inl (loL 10))), ((g9 8), .inl (E.2.2 0, 10, .inl (fun _ => 0))), ((g9 9), .inl (E.2.2 0, 3, .inl (loC 3))), (q16, .inr (0, [.int 0, .ref (g20 1), .ref (g20 2), .ref (g20 3), .ref (g20 4), .ref (g20 5), .ref (g20 6), .ref (g20 7), .ref (g20 8), .int 0, .int 0, .int 0, .int 0, .int 1, .int 0, .ref (g20 9)])), ((g20 1), .inl (E.2.2 0, 12, .inl (fun _ => 0))), ((g20 2), .inl (E.2.2 0, 12, .inl (fun _ => 0))), ((g20 3), .inl (E.2.2 0, 12, .inl (fun _ => 0))), ((g20 4), .inl (E.2.2 0, 12, .inl (fun _ => 0))), ((g20 5), .inl (E.2.2 0, 12, .inl (fun _ => 0))), ((g20 6), .inl (E.2.2 0, 10, .inl (loF 10))), ((g20 7), .inl (E.2.2 0, 10, .inl (loL 10))), ((g20 8), .inl (E.2.2 0, 10, .inl (fun _ => 0))), ((g20 9), .inl (E.2.2 0, 3, .inl (loC 3))), (q32, .inr (0, [.int 0, .ref (g36 1), .ref (g36 2), .ref (g36 3), .ref (g36 4), .ref (g36 5), .ref (g36 6), .ref (g36 7), .ref (g36 8), .int 0, .int 0, .int 0, .int 0, .int 1, .int 0, .ref (g36 9)])), ((g36 1), .inl (E.2.2 0, 12, .inl (fun _ => 0))), ((g36 2), .inl (E.2.2 0, 12, .inl (fun _ => 0))), ((g36 3), .inl (E.2.2 0, 12, .inl (fun _ => 0))), ((g36 4), .inl (E.2.2 0, 12, .inl (fun _ => 0))), ((g36 5), .inl (E.2.2 0, 12, .inl (fun _ => 0))), ((g36 6), .inl (E.2.2 0, 10, .inl (loF 10))), ((g36 7), .inl (E.2.2 0, 10, .inl (loL 10))), ((g36 8), .inl (E.2.2 0, 10, .inl (fun _ => 0))), ((g36 9), .inl (E.2.2 0, 3, .inl (loC 3))), (q45, .inl (E.2.2 0, 12, .inl (fun _ => 0))), (q51, .inr (5, [.ref g55, .int 0, .int 0, .int 0, .int 0])), (g55, .inl (E.2.2 0, 96, .inl (fun _ => 0))), (q62, .inr (2, [.ref g66, .int 0, .int 0, .int 0])), (g66, .inl (E.2.2 0, 96, .inl (fun _ => 0))), (q73, .inr (1, [.ref (g77 0), .ref (g77 1), .ref (g77 2), .ref (g77 3), .ref (g77 4)])), ((g77 0), outE E (g77 0)), ((g77 0 + 1 + 0), .inl (E.2.2 0, 96, .inl (fun _ => 0))), ((g77 0 + 1 + 1), .inl (E.2.2 0, 96, .inl (fun _ => 0))), ((g77 0 + 1 + 2), .inl (E.2.2 0, 96, .inl (fun _ => 0))), ((g77 0 + 1 + 3), .inl (E.2.2 0, 96, .inl (fun _ => 0))), ((g77 0 + 1 + 4), .inl (E.2.2 0, 96, .inl (fun _ => 0))), ((g77 0 + 1 + 5), .inl (E.2.2 0, 96, .inl (fun _ => 0))), ((g77 0 + 1 + 6), .inl (E.2.2 0, 96, .inl (fun _ => 0))), ((g77 0 + 1 + 7), .inl (E.2.2 0, 96, .inl (fun _ => 0))), ((g77 0 + 1 + 8), .inl (E.2.2 0, 96, .inl (fun _ => 0))), ((g77 0 + 1 + 9), .inl (E.2.2 0, 96, .inl (fun _ => 0))), ((g77 0 + 1 + 10), .inl (E.2.2 0, 96, .inl (fun _ => 0))), ((g77 0 + 1 + 11), .inl (E.2.2 0, 96, .inl (fun _ => 0))), ((g77 0 + 1 + 12), .inl (E.2.2 0, 96, .inl (fun _ => 0))), ((g77 0 + 1 + 13), .inl (E.2.2 0, 96, .inl (fun _ => 0))), ((g77 1), .inl (E.2.2 0, 14, .inl (fun _ => 0))), ((g77 2), .inl (E.2.2 0, 14, .inl (fun _ => 0))), ((g77 3), .inl (E.2.2 0, 14, .inl (fun _ => 0))), ((g77 4), .inl (E.2.2 0, 96, .inl (fun _ => 0))), (q85, .inl (E.2.2 4, 4, .inr (.inr (.inr (.inr (va_up (va_up (va_up (va_up (fun _ => none) 0 (some q124r0)) 1 (some q124r1)) 2 (some q124r2)) 3 (some q124r3))))))), (q93, .inl (E.2.2 5, 5, .inr (.inr (.inr (.inr (va_up (va_up (va_up (va_up (va_up (fun _ => none) 0 (some q150s0)) 1 (some q150s1)) 2 (some q150s2)) 3 (some q150s3)) 4 (some q150s4))))))), (q102, .inl (E.2.2 0, 60, .inl (fun _ => 0))), (q124r0, .inr (3, [.int (-1), .int 0, .ref g128r0])), (g128r0, .inl (E.2.2 0, 24, .inl (fun _ => 0))), (q124r1, .inr (3, [.int (-1), .int 0, .ref g128r1])), (g128r1, .inl (E.2.2 0, 24, .inl (fun _ => 0))), (q124r2, .inr (3, [.int (-1), .int 0, .ref g128r2])), (g128r2, .inl (E.2.2 0, 24, .inl (fun _ => 0))), (q124r3, .inr (3, [.int (-1), .int 0, .ref g128r3])), (g128r3, .inl (E.2.2 0, 24, .inl (fun _ => 0))), (q150s0, .inr (4, [.int 0, .int 0, .int 0, .int 0, .ref (g154s0 0)])), ((g154s0 0), .inr (3, [.int (-1), .int 0, .ref (g154s0 1)])), ((g154s0 1), .inl (E.2.2 0, 24, .inl (fun _ => 0))), (q150s1, .inr (4, [.int 0, .int 0, .int 0, .int 0, .ref (g154s1 0)])), ((g154s1 0), .inr (3, [.int (-1), .int 0, .ref (g154s1 1)])), ((g154s1 1), .inl (E.2.2 0, 24, .inl (fun _ => 0))), (q150s2, .inr (4, [.int 0, .int 0, .int 0, .int 0, .ref (g154s2 0)])), ((g154s2 0), .inr (3, [.int (-1), .int 0, .ref (g154s2 1)])), ((g154s2 1), .inl (E.2.2 0, 24, .inl (fun _ => 0))), (q150s3, .inr (4, [.int 0, .int 0, .int 0, .int 0, .ref (g154s3 0)])), ((g154s3 0), .inr (3, [.int (-1), .int 0, .ref (g154s3 1)])), ((g154s3 1), .inl (E.2.2 0, 24, .inl (fun _ => 0))), (q150s4, .inr (4, [.int 0, .int 0, .int 0, .int 0, .ref (g154s4 0)])), ((g154s4 0), .inr (3, [.int (-1), .int 0, .ref (g154s4 1)])), ((g154s4 1), .inl (E.2.2 0, 24, .inl (fun _ => 0)))] cl sl pc L st := by
  unfold outE
  rw [fn_14 a q5 q16 q32 q45 q51 q62 q73 q85 q93 q102 g55 g66 q124r0 q124r1 q124r2 q124r3 q150s0 q150s1 q150s2 q150s3 q150s4 g128r0 g128r1 g128r2 g128r3 g9 g20 g36 g77 g154s0 g154s1 g154s2 g154s3 g154s4 sK sV, up_4, up_5, fn_4 a q5 q16 q32 q45 q51 q62 q73 q85 q93 q102 g55 g66 q124r0 q124r1 q124r2 q124r3 q150s0 q150s1 q150s2 q150s3 q150s4 g128r0 g128r1 g128r2 g128r3 g9 g20 g36 g77 g154s0 g154s1 g154s2 g154s3 g154s4 sK sV, fn_5 a q5 q16 q32 q45 q51 q62 q73 q85 q93 q102 g55 g66 q124r0 q124r1 q124r2 q124r3 q150s0 q150s1 q150s2 q150s3 q150s4 g128r0 g128r1 g128r2 g128r3 g9 g20 g36 g77 g154s0 g154s1 g154s2 g154s3 g154s4 sK sV]
  exact y_sub [1, 2, 3, 4, 5, 6, 7, 8, 9, 10, 11, 12, 13, 14, 15, 16, 17, 18, 19, 20, 21, 22, 23, 24, 25, 26, 27, 28, 29, 30, 0, 31, 32, 33, 34, 35, 52, 53, 54, 55, 38, 39, 40, 41, 42, 43, 44, 45, 46, 47, 48, 49, 50, 51, 59, 60, 61, 62, 63, 64, 65, 66, 68, 69, 71, 72, 74, 75, 77, 78, 80, 81, 67, 70, 73, 76, 79, 58, 36, 37, 56, 57] (by decide) rfl rfl kk
set_option maxRecDepth 100000 in
set_option maxHeartbeats 40000000 in
theorem world8 {E : ET} (a : Nat) (g sK sV : Nat → Nat) : [(a, .inr (7, [.ref (g 1), .ref (g 2), .ref (g 3), .int 0, .ref (g 4), .ref (g 5), .ref (g 6), .ref (g 7), .int 0, .int 0, .int 0, .int 0, .int 0, .int 0, .int 0, .ref (g 8), .ref (g 9), .ref (g 10), .int 0, .int 0, .ref (g 11), .int 0, .ref (g 12), .ref (g 13), .ref (g 14), .ref (g 15), .ref (g 16), .ref (g 17), .ref (g 18), .ref (g 19), .ref (g 20), .ref (g 21), .ref (g 22), .ref (g 23), .int 0])), ((g 1), .inl (E.2.2 0, 1469, .inl (loN 10))), ((g 2), .inl (E.2.2 0, 1469, .inl (fun _ => 0))), ((g 3), .inl (E.2.2 0, 1469, .inl (fun _ => 0))), ((g 4), .inl (E.2.2 0, 97, .inl (fun _ => 0))), ((g 5), .inl (E.2.2 0, 10, .inl (fun _ => 0))), ((g 6), .inl (E.2.2 3, 12, .inr (.inl (fun _ => 0)))), ((g 7), .inl (E.2.2 0, 96, .inl (fun _ => 0))), ((g 8), .inl (E.2.2 2, 11, .inl (upd (upd (upd (upd (upd (upd (upd (upd (upd (upd (upd (fun _ => 0) 0 119) 1 101) 2 97) 3 114) 4 102) 5 101) 6 101) 7 102) 8 105) 9 110) 10 101))), ((g 9), .inl (E.2.2 0, 4, .inl (upd (upd (upd (upd (fun _ => 0) 0 0) 1 4) 2 7) 3 11))), ((g 10), .inl (E.2.2 0, 96, .inl (fun _ => 0))), ((g 11), .inl (E.2.2 0, 96, .inl (fun _ => 0))), ((g 12), .inl (E.2.2 1, 10, .inl (fun _ => 0))), ((g 13), .inl (E.2.2 0, 96, .inl (fun _ => 0))), ((g 14), .inl (E.2.2 0, 4, .inl (fun _ => 0))), ((g 15), .inl (E.2.2 0, 4, .inl (upd (upd (upd (upd (fun _ => 0) 0 (-1)) 1 (-1)) 2 (-1)) 3 (-1)))), ((g 16), .inl (E.2.2 0, 4, .inl (fun _ => 0))), ((g 17), .inl (E.2.2 0, 96, .inl (fun _ => 0))), ((g 18), .inl (E.2.2 0, 5, .inl (fun _ => 0))), ((g 19), .inl (E.2.2 0, 5, .inl (fun _ => 0))), ((g 20), .inl (E.2.2 0, 5, .inl (fun _ => 0))), ((g 21), .inl (E.2.2 0, 120, .inl (fun _ => 0))), ((g 22), .inl (E.2.2 0, 24, .inl (fun _ => 0))), ((g 23), .inl (E.2.2 0, 60, .inl (fun _ => 0)))] = wl (GM (bTE E (aM8 a g sK sV))) (cM (bTE E (aM8 a g sK sV)) μ0 (fun _ => 0)) := rfl
