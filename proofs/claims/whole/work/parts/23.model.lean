/-! the model: the row of numbers that says a house -/
def en (h : HT) (T : Nat → Int32) : Nat → Int32 := fun k => if k < 97 then (if k = 0 then h 0 13 else if k = 1 then h 0 0 else if k = 2 then h 0 12 else if k = 3 then h 0 9 else if k = 4 then h 0 10 else if k = 5 then h 0 11 else if k = 6 then h 0 14 else if k < 17 then h 6 (k - 7) else if k < 27 then h 7 (k - 17) else if k < 37 then h 8 (k - 27) else h ((k - 37) % 5 + 1) ((k - 37) / 5)) else T (k - 97)
section EN
variable {h : HT} {T : Nat → Int32} {d w r j : Nat} {v : Int32}
theorem en_d (hd : d < 12) (hw : w < 5) : en h T (37 + 5 * d + w) = h (w + 1) d := by
  unfold en
  rw [if_pos (by omega), if_neg (by omega), if_neg (by omega), if_neg (by omega), if_neg (by omega), if_neg (by omega), if_neg (by omega), if_neg (by omega), if_neg (by omega), if_neg (by omega), if_neg (by omega), show (37 + 5 * d + w - 37) % 5 = w by omega, show (37 + 5 * d + w - 37) / 5 = d by omega]
theorem en_fl (hr : r < 10) : en h T (7 + r) = h 6 r := by
  unfold en
  rw [if_pos (by omega), if_neg (by omega), if_neg (by omega), if_neg (by omega), if_neg (by omega), if_neg (by omega), if_neg (by omega), if_neg (by omega), if_pos (by omega), Nat.add_sub_cancel_left]
theorem en_ld (hr : r < 10) : en h T (17 + r) = h 7 r := by
  unfold en
  rw [if_pos (by omega), if_neg (by omega), if_neg (by omega), if_neg (by omega), if_neg (by omega), if_neg (by omega), if_neg (by omega), if_neg (by omega), if_neg (by omega), if_pos (by omega), Nat.add_sub_cancel_left]
theorem en_mk (hr : r < 10) : en h T (27 + r) = h 8 r := by
  unfold en
  rw [if_pos (by omega), if_neg (by omega), if_neg (by omega), if_neg (by omega), if_neg (by omega), if_neg (by omega), if_neg (by omega), if_neg (by omega), if_neg (by omega), if_neg (by omega), if_pos (by omega), Nat.add_sub_cancel_left]
theorem en_T : en h T (97 + j) = T j := by
  unfold en
  rw [if_neg (by omega), Nat.add_sub_cancel_left]
theorem up2_a {f k f' k' : Nat} {x : Int32} {g : Nat → Nat → Int32} : up2 g f k x f' k' = if f' = f ∧ k' = k then x else g f' k' := by
  unfold up2 upd
  by_cases h1 : f' = f
  · subst h1
    by_cases h2 : k' = k
    · rw [if_pos rfl, if_pos h2, if_pos ⟨rfl, h2⟩]
    · rw [if_pos rfl, if_neg h2, if_neg (fun z => h2 z.2)]
  · rw [if_neg h1, if_neg (fun z => h1 z.1)]
theorem eu_d (hd : d < 12) (hw : w < 5) : upd (en h T) (37 + 5 * d + w) v = en (up2 h (w + 1) d v) T := by
  funext k
  unfold upd en
  simp only [up2_a]
  by_cases hk : k = 37 + 5 * d + w
  · rw [if_pos hk, if_pos (by omega), if_neg (by omega), if_neg (by omega), if_neg (by omega), if_neg (by omega), if_neg (by omega), if_neg (by omega), if_neg (by omega), if_neg (by omega), if_neg (by omega), if_neg (by omega), if_pos (by omega)]
  · rw [if_neg hk]
    by_cases h97 : k < 97
    · rw [if_pos h97, if_pos h97]
      by_cases h37 : k < 37
      · simp only [show ¬ (0 = w + 1 ∧ (13 : Nat) = d) by omega, show ¬ (0 = w + 1 ∧ (0 : Nat) = d) by omega, show ¬ (0 = w + 1 ∧ (12 : Nat) = d) by omega, show ¬ (0 = w + 1 ∧ (9 : Nat) = d) by omega, show ¬ (0 = w + 1 ∧ (10 : Nat) = d) by omega, show ¬ (0 = w + 1 ∧ (11 : Nat) = d) by omega, show ¬ (0 = w + 1 ∧ (14 : Nat) = d) by omega, show ¬ (6 = w + 1 ∧ k - 7 = d) by omega, show ¬ (7 = w + 1 ∧ k - 17 = d) by omega, show ¬ (8 = w + 1 ∧ k - 27 = d) by omega, if_false, if_pos h37]
      · rw [if_neg (by omega), if_neg (by omega), if_neg (by omega), if_neg (by omega), if_neg (by omega), if_neg (by omega), if_neg (by omega), if_neg (by omega), if_neg (by omega), if_neg (by omega), if_neg (by omega), if_neg (by omega), if_neg (by omega), if_neg (by omega), if_neg (by omega), if_neg (by omega), if_neg (by omega), if_neg (by omega), if_neg (by omega), if_neg (by omega), if_neg (by omega)]
    · rw [if_neg h97, if_neg h97]
theorem en_ext {f : Nat → Int32} (h0 : f 0 = h 0 13) (h1 : f 1 = h 0 0) (h2 : f 2 = h 0 12) (h3 : f 3 = h 0 9) (h4 : f 4 = h 0 10) (h5 : f 5 = h 0 11) (h6 : f 6 = h 0 14) (hf : ∀ r, r < 10 → f (7 + r) = h 6 r) (hl : ∀ r, r < 10 → f (17 + r) = h 7 r) (hm : ∀ r, r < 10 → f (27 + r) = h 8 r) (hd : ∀ d w, d < 12 → w < 5 → f (37 + 5 * d + w) = h (w + 1) d) (hT : ∀ j, f (97 + j) = T j) : f = en h T := by
  funext k
  by_cases k7 : k < 7
  · rcases (by omega : k = 0 ∨ k = 1 ∨ k = 2 ∨ k = 3 ∨ k = 4 ∨ k = 5 ∨ k = 6) with rfl | rfl | rfl | rfl | rfl | rfl | rfl
    · exact h0
    · exact h1
    · exact h2
    · exact h3
    · exact h4
    · exact h5
    · exact h6
  · by_cases k17 : k < 17
    · obtain ⟨r, rfl⟩ : ∃ r, k = 7 + r := ⟨k - 7, by omega⟩
      rw [hf r (by omega), en_fl (by omega)]
    · by_cases k27 : k < 27
      · obtain ⟨r, rfl⟩ : ∃ r, k = 17 + r := ⟨k - 17, by omega⟩
        rw [hl r (by omega), en_ld (by omega)]
      · by_cases k37 : k < 37
        · obtain ⟨r, rfl⟩ : ∃ r, k = 27 + r := ⟨k - 27, by omega⟩
          rw [hm r (by omega), en_mk (by omega)]
        · by_cases k97 : k < 97
          · obtain ⟨d, w, hd1, hw1, rfl⟩ : ∃ d w, d < 12 ∧ w < 5 ∧ k = 37 + 5 * d + w := ⟨(k - 37) / 5, (k - 37) % 5, by omega, by omega, by omega⟩
            rw [hd d w hd1 hw1, en_d hd1 hw1]
          · obtain ⟨j, rfl⟩ : ∃ j, k = 97 + j := ⟨k - 97, by omega⟩
            rw [hT j, en_T]
theorem eu_fl (hr : r < 10) : upd (en h T) (7 + r) v = en (up2 h 6 r v) T := by
  refine en_ext ?_ ?_ ?_ ?_ ?_ ?_ ?_ (fun q hq => ?_) (fun q hq => ?_) (fun q hq => ?_) (fun d w hd hw => ?_) (fun j => ?_)
  iterate 7 (rw [up2_a, if_neg (by omega), upd_n (by omega)]; rfl)
  · rw [up2_a]
    unfold upd
    by_cases e : q = r
    · rw [if_pos (by omega), if_pos ⟨rfl, e⟩]
    · rw [if_neg (by omega), if_neg (fun z => e z.2), en_fl hq]
  · rw [up2_a, if_neg (by omega), upd_n (by omega), en_ld hq]
  · rw [up2_a, if_neg (by omega), upd_n (by omega), en_mk hq]
  · rw [up2_a, if_neg (by omega), upd_n (by omega), en_d hd hw]
  · rw [upd_n (by omega), en_T]
theorem eu_ld (hr : r < 10) : upd (en h T) (17 + r) v = en (up2 h 7 r v) T := by
  refine en_ext ?_ ?_ ?_ ?_ ?_ ?_ ?_ (fun q hq => ?_) (fun q hq => ?_) (fun q hq => ?_) (fun d w hd hw => ?_) (fun j => ?_)
  iterate 7 (rw [up2_a, if_neg (by omega), upd_n (by omega)]; rfl)
  · rw [up2_a, if_neg (by omega), upd_n (by omega), en_fl hq]
  · rw [up2_a]
    unfold upd
    by_cases e : q = r
    · rw [if_pos (by omega), if_pos ⟨rfl, e⟩]
    · rw [if_neg (by omega), if_neg (fun z => e z.2), en_ld hq]
  · rw [up2_a, if_neg (by omega), upd_n (by omega), en_mk hq]
  · rw [up2_a, if_neg (by omega), upd_n (by omega), en_d hd hw]
  · rw [upd_n (by omega), en_T]
theorem eu_mk (hr : r < 10) : upd (en h T) (27 + r) v = en (up2 h 8 r v) T := by
  refine en_ext ?_ ?_ ?_ ?_ ?_ ?_ ?_ (fun q hq => ?_) (fun q hq => ?_) (fun q hq => ?_) (fun d w hd hw => ?_) (fun j => ?_)
  iterate 7 (rw [up2_a, if_neg (by omega), upd_n (by omega)]; rfl)
  · rw [up2_a, if_neg (by omega), upd_n (by omega), en_fl hq]
  · rw [up2_a, if_neg (by omega), upd_n (by omega), en_ld hq]
  · rw [up2_a]
    unfold upd
    by_cases e : q = r
    · rw [if_pos (by omega), if_pos ⟨rfl, e⟩]
    · rw [if_neg (by omega), if_neg (fun z => e z.2), en_mk hq]
  · rw [up2_a, if_neg (by omega), upd_n (by omega), en_d hd hw]
  · rw [upd_n (by omega), en_T]
theorem eu_0 : upd (en h T) 0 v = en (up2 h 0 13 v) T := by
  refine en_ext rfl rfl rfl rfl rfl rfl rfl (fun q hq => ?_) (fun q hq => ?_) (fun q hq => ?_) (fun d w hd hw => ?_) (fun j => ?_)
  · rw [up2_a, if_neg (by omega), upd_n (by omega), en_fl hq]
  · rw [up2_a, if_neg (by omega), upd_n (by omega), en_ld hq]
  · rw [up2_a, if_neg (by omega), upd_n (by omega), en_mk hq]
  · rw [up2_a, if_neg (by omega), upd_n (by omega), en_d hd hw]
  · rw [upd_n (by omega), en_T]
theorem eu_1 : upd (en h T) 1 v = en (up2 h 0 0 v) T := by
  refine en_ext rfl rfl rfl rfl rfl rfl rfl (fun q hq => ?_) (fun q hq => ?_) (fun q hq => ?_) (fun d w hd hw => ?_) (fun j => ?_)
  · rw [up2_a, if_neg (by omega), upd_n (by omega), en_fl hq]
  · rw [up2_a, if_neg (by omega), upd_n (by omega), en_ld hq]
  · rw [up2_a, if_neg (by omega), upd_n (by omega), en_mk hq]
  · rw [up2_a, if_neg (by omega), upd_n (by omega), en_d hd hw]
  · rw [upd_n (by omega), en_T]
theorem eu_2 : upd (en h T) 2 v = en (up2 h 0 12 v) T := by
  refine en_ext rfl rfl rfl rfl rfl rfl rfl (fun q hq => ?_) (fun q hq => ?_) (fun q hq => ?_) (fun d w hd hw => ?_) (fun j => ?_)
  · rw [up2_a, if_neg (by omega), upd_n (by omega), en_fl hq]
  · rw [up2_a, if_neg (by omega), upd_n (by omega), en_ld hq]
  · rw [up2_a, if_neg (by omega), upd_n (by omega), en_mk hq]
  · rw [up2_a, if_neg (by omega), upd_n (by omega), en_d hd hw]
  · rw [upd_n (by omega), en_T]
theorem eu_3 : upd (en h T) 3 v = en (up2 h 0 9 v) T := by
  refine en_ext rfl rfl rfl rfl rfl rfl rfl (fun q hq => ?_) (fun q hq => ?_) (fun q hq => ?_) (fun d w hd hw => ?_) (fun j => ?_)
  · rw [up2_a, if_neg (by omega), upd_n (by omega), en_fl hq]
  · rw [up2_a, if_neg (by omega), upd_n (by omega), en_ld hq]
  · rw [up2_a, if_neg (by omega), upd_n (by omega), en_mk hq]
  · rw [up2_a, if_neg (by omega), upd_n (by omega), en_d hd hw]
  · rw [upd_n (by omega), en_T]
theorem eu_4 : upd (en h T) 4 v = en (up2 h 0 10 v) T := by
  refine en_ext rfl rfl rfl rfl rfl rfl rfl (fun q hq => ?_) (fun q hq => ?_) (fun q hq => ?_) (fun d w hd hw => ?_) (fun j => ?_)
  · rw [up2_a, if_neg (by omega), upd_n (by omega), en_fl hq]
  · rw [up2_a, if_neg (by omega), upd_n (by omega), en_ld hq]
  · rw [up2_a, if_neg (by omega), upd_n (by omega), en_mk hq]
  · rw [up2_a, if_neg (by omega), upd_n (by omega), en_d hd hw]
  · rw [upd_n (by omega), en_T]
theorem eu_5 : upd (en h T) 5 v = en (up2 h 0 11 v) T := by
  refine en_ext rfl rfl rfl rfl rfl rfl rfl (fun q hq => ?_) (fun q hq => ?_) (fun q hq => ?_) (fun d w hd hw => ?_) (fun j => ?_)
  · rw [up2_a, if_neg (by omega), upd_n (by omega), en_fl hq]
  · rw [up2_a, if_neg (by omega), upd_n (by omega), en_ld hq]
  · rw [up2_a, if_neg (by omega), upd_n (by omega), en_mk hq]
  · rw [up2_a, if_neg (by omega), upd_n (by omega), en_d hd hw]
  · rw [upd_n (by omega), en_T]
theorem eu_6 : upd (en h T) 6 v = en (up2 h 0 14 v) T := by
  refine en_ext rfl rfl rfl rfl rfl rfl rfl (fun q hq => ?_) (fun q hq => ?_) (fun q hq => ?_) (fun d w hd hw => ?_) (fun j => ?_)
  · rw [up2_a, if_neg (by omega), upd_n (by omega), en_fl hq]
  · rw [up2_a, if_neg (by omega), upd_n (by omega), en_ld hq]
  · rw [up2_a, if_neg (by omega), upd_n (by omega), en_mk hq]
  · rw [up2_a, if_neg (by omega), upd_n (by omega), en_d hd hw]
  · rw [upd_n (by omega), en_T]
theorem eu_T : upd (en h T) (97 + j) v = en h (upd T j v) := by
  refine en_ext ?_ ?_ ?_ ?_ ?_ ?_ ?_ (fun q hq => ?_) (fun q hq => ?_) (fun q hq => ?_) (fun d w hd hw => ?_) (fun q => ?_)
  iterate 7 (rw [upd_n (by omega)]; rfl)
  · rw [upd_n (by omega), en_fl hq]
  · rw [upd_n (by omega), en_ld hq]
  · rw [upd_n (by omega), en_mk hq]
  · rw [upd_n (by omega), en_d hd hw]
  · unfold upd
    by_cases e : q = j
    · rw [if_pos (by omega), if_pos e]
    · rw [if_neg (by omega), if_neg e, en_T]
end EN
section XM23
variable {B : BT} {k : KT} {cc : ByteArray} {own : String} {rm : Room} {μ : Nat → Nat → Int32} {δ : Nat → Int64} {pc : Nat} {L : List (Option Value)} {st : List Value}
theorem m_ld {i : Int32} {f : Nat → Int32} (m : Nat) (hi : i = nI m) (hm : m < 1469) (h : Ok (GM B) k cc own rm) (hdg : decode cc pc = .ok (.iaload, 1)) (kk : XM B k (up1 μ 1 f) δ (pc + 1) L (.int (f m) :: st)) : XM B k (up1 μ 1 f) δ pc L (.int i :: .ref (aB B 1) :: st) := xm_ialdN m hi 1 hm h (by decide) (fun _ => rfl) hdg kk
theorem m_st {i x : Int32} {f : Nat → Int32} (m : Nat) (hi : i = nI m) (hm : m < 1469) (h : Ok (GM B) k cc own rm) (hdg : decode cc pc = .ok (.iastore, 1)) (kk : XM B k (up1 μ 1 (upd f m x)) δ (pc + 1) L st) : XM B k (up1 μ 1 f) δ pc L (.int x :: .int i :: .ref (aB B 1) :: st) := xm_iastN m hi 1 hm h (by decide) (by decide) (fun _ => rfl) hdg (by rw [up2_up1]; exact kk)
theorem xm_same1 {q : Nat} {f g : Nat → Int32} (he : ∀ f : Nat → Int32, cellM B q f δ = .inl (iB B 0, mlen q, .inl f)) (hfg : ∀ j, j < mlen q → f j = g j) (kk : XM B k (up1 μ q g) δ pc L st) : XM B k (up1 μ q f) δ pc L st := by
  refine x_same (ce' := cM B (up1 μ q g) δ) (fun p _ => ?_) kk
  by_cases e : p = q
  · subst e
    show eqE _ (cellM B p (up1 μ p f p) δ) (cellM B p (up1 μ p g p) δ)
    rw [up1_s, up1_s, he, he]
    exact eqE.arr hfg
  · show eqE _ (cellM B p (up1 μ q f p) δ) (cellM B p (up1 μ q g p) δ)
    rw [up1_n e, up1_n e]
    exact eqE.rf
end XM23
theorem ix5 (d w : Nat) : (37 : Int32) + 5 * nI d + nI w = nI (37 + 5 * d + w) := by
  rw [show (5 : Int32) * nI d = nI (5 * d) from pk_mul 5 d, show (37 : Int32) + nI (5 * d) = nI (37 + 5 * d) from nI_add 37 (5 * d), nI_add]
set_option maxRecDepth 100000 in
set_option maxHeartbeats 4000000 in
theorem c_X8_in (B : BT) (μ : Nat → Nat → Int32) (δ : Nat → Int64) (x lo hi : Int32) : MI B yX8_in cX8_in 3 (some .boolean) ({ frames := 0, cells := 0, slots := 0, locals := 0 }) [.int x, .int lo, .int hi] μ δ (fun r μ' δ' => r = bI (¬ x < lo ∧ ¬ hi < x) ∧ μ' = μ ∧ δ' = δ) := by
  refine MX.of2 RX8 (by decide) rfl ⟨rfl, rfl⟩ (Nat.le_of_ble_eq_true rfl) (by rfl) (fun k ho hr hk => ?_)
  show XM B k μ δ 0 [some (.int x), some (.int lo), some (.int hi)] []
  refine x_ild0 ho dX8_in_0 ?_
  refine x_ild1 ho dX8_in_1 ?_
  refine x_icmp_lt 14 ho dX8_in_2 (by decide) (fun c2 => ?_) (fun c2 => ?_)
  · refine x_iconst (v := 0) ho dX8_in_14 rfl ?_
    refine x_zret ho hr (by decide) ?_ dX8_in_15
    exact ⟨_, _, _, rfl, rfl, bI_e (by simp_all), rfl, rfl⟩
  · refine x_ild0 ho dX8_in_5 ?_
    refine x_ild2 ho dX8_in_6 ?_
    refine x_icmp_gt 14 ho dX8_in_7 (by decide) (fun c7 => ?_) (fun c7 => ?_)
    · refine x_iconst (v := 0) ho dX8_in_14 rfl ?_
      refine x_zret ho hr (by decide) ?_ dX8_in_15
      exact ⟨_, _, _, rfl, rfl, bI_e (by simp_all), rfl, rfl⟩
    · refine x_iconst (v := 1) ho dX8_in_10 rfl ?_
      refine x_goto 15 ho dX8_in_11 (by decide) ?_
      refine x_zret ho hr (by decide) ?_ dX8_in_15
      exact ⟨_, _, _, rfl, rfl, bI_e (by simp_all), rfl, rfl⟩
def jwi (x lo hi : Int32) : Int32 := if x < lo then lo else if hi < x then hi else x
set_option maxRecDepth 100000 in
set_option maxHeartbeats 4000000 in
theorem c_X8_within (B : BT) (μ : Nat → Nat → Int32) (δ : Nat → Int64) (x lo hi : Int32) : MI B yX8_within cX8_within 3 (some .int) ({ frames := 0, cells := 0, slots := 0, locals := 0 }) [.int x, .int lo, .int hi] μ δ (fun r μ' δ' => r = jwi x lo hi ∧ μ' = μ ∧ δ' = δ) := by
  refine MX.of2 RX8 (by decide) rfl ⟨rfl, rfl⟩ (Nat.le_of_ble_eq_true rfl) (by rfl) (fun k ho hr hk => ?_)
  show XM B k μ δ 0 [some (.int x), some (.int lo), some (.int hi)] []
  refine x_ild0 ho dX8_within_0 ?_
  refine x_ild1 ho dX8_within_1 ?_
  refine x_icmp_ge 9 ho dX8_within_2 (by decide) (fun c2 => ?_) (fun c2 => ?_)
  · have c2 : ¬ x < lo := Int32.not_lt.mpr c2
    refine x_ild0 ho dX8_within_9 ?_
    refine x_ild2 ho dX8_within_10 ?_
    refine x_icmp_le 18 ho dX8_within_11 (by decide) (fun c11 => ?_) (fun c11 => ?_)
    · have c11 : ¬ hi < x := Int32.not_lt.mpr c11
      refine x_ild0 ho dX8_within_18 ?_
      refine x_iret ho hr ?_ dX8_within_19
      exact ⟨_, _, _, rfl, rfl, by simp_all [jwi, -Int32.not_lt, -Int32.not_le], rfl, rfl⟩
    · have c11 : hi < x := Int32.not_le.mp c11
      refine x_ild2 ho dX8_within_14 ?_
      refine x_goto 19 ho dX8_within_15 (by decide) ?_
      refine x_iret ho hr ?_ dX8_within_19
      exact ⟨_, _, _, rfl, rfl, by simp_all [jwi, -Int32.not_lt, -Int32.not_le], rfl, rfl⟩
  · have c2 : x < lo := Int32.not_le.mp c2
    refine x_ild1 ho dX8_within_5 ?_
    refine x_goto 19 ho dX8_within_6 (by decide) ?_
    refine x_iret ho hr ?_ dX8_within_19
    exact ⟨_, _, _, rfl, rfl, by simp_all [jwi, -Int32.not_lt, -Int32.not_le], rfl, rfl⟩
theorem lts1 {x : Int32} {n : Nat} (hn : n < 2 ^ 31 - 1) : (nI n < x ↔ nI (n + 1) ≤ x) := by
  rw [Int32.lt_iff_toInt_lt, Int32.le_iff_toInt_le, nI_toInt (by omega), nI_toInt (by omega)]
  omega
theorem mR {x : Int32} : bI (¬ x < 0 ∧ ¬ 9 < x) = bI (isR x = true) := by rw [← bR]; exact bI_iff (and_congr_right (fun _ => not_congr (lts1 (n := 9) (by decide))))
theorem mK {x : Int32} : bI (¬ x < 0 ∧ ¬ 5 < x) = bI (isK x = true) := by rw [← bK]; exact bI_iff (and_congr_right (fun _ => not_congr (lts1 (n := 5) (by decide))))
theorem mQ {x : Int32} : bI (¬ x < 0 ∧ ¬ 3 < x) = bI (isQ x = true) := (bI_iff (and_congr_right (fun _ => not_congr (lts1 (n := 3) (by decide))))).trans (bI_iff dk)
theorem mL {x : Int32} : bI (¬ x < 0 ∧ ¬ 4 < x) = bI (isL x = true) := (bI_iff (and_congr_right (fun _ => not_congr (lts1 (n := 4) (by decide))))).trans (bI_iff dk)
theorem mD {h : HT} (hi : HI h) {x : Int32} : bI (¬ x < 0 ∧ ¬ h 0 0 - 1 < x) = bI (isD h x = true) := by
  refine (bI_iff (and_congr_right (fun h0 => not_congr ?_))).trans (bI_iff (dk (P := ¬ x < 0 ∧ ¬ h 0 0 ≤ x)))
  have hn := hi.n
  obtain ⟨j, hj, rfl⟩ := nI_of h0
  rw [hn.2, Int32.lt_iff_toInt_lt, Int32.le_iff_toInt_le, show (1 : Int32) = nI 1 from rfl, pk_sub_toInt (by omega) (by omega), nI_toInt hj, nI_toInt (by omega)]
  omega
set_option maxRecDepth 100000 in
set_option maxHeartbeats 4000000 in
theorem c_X8_isRoom (B : BT) (μ : Nat → Nat → Int32) (δ : Nat → Int64) (x : Int32) : MI B yX8_isRoom cX8_isRoom 1 (some .boolean) ({ frames := 1, cells := 0, slots := 0, locals := 22 }) [.int x] μ δ (fun r μ' δ' => r = bI (isR x = true) ∧ μ' = μ ∧ δ' = δ) := by
  refine MX.of2 RX8 (by decide) rfl ⟨rfl, rfl⟩ (Nat.le_of_ble_eq_true rfl) (by rfl) (fun k ho hr hk => ?_)
  show XM B k μ δ 0 [some (.int x)] []
  refine x_ild0 ho dX8_isRoom_0 ?_
  refine x_iconst (v := 0) ho dX8_isRoom_1 rfl ?_
  refine x_bipush (v := 9) ho dX8_isRoom_2 rfl ?_
  refine sMI3 ho cs_X8_82 (c_X8_in B _ _ _ _ _) ⟨rfl, rfl⟩ ⟨Nat.le_of_ble_eq_true rfl, Nat.le_of_ble_eq_true rfl⟩ (Nat.le_of_ble_eq_true rfl) dX8_isRoom_4 (fun r4 s4 t4 p4 => ?_)
  obtain ⟨rfl, rfl, rfl⟩ := p4
  refine x_zret ho hr bI_01 ?_ dX8_isRoom_7
  exact ⟨_, _, _, rfl, rfl, mR, rfl, rfl⟩
set_option maxRecDepth 100000 in
set_option maxHeartbeats 4000000 in
theorem c_X8_isSheet (B : BT) (μ : Nat → Nat → Int32) (δ : Nat → Int64) (x : Int32) : MI B yX8_isSheet cX8_isSheet 1 (some .boolean) ({ frames := 1, cells := 0, slots := 0, locals := 22 }) [.int x] μ δ (fun r μ' δ' => r = bI (isQ x = true) ∧ μ' = μ ∧ δ' = δ) := by
  refine MX.of2 RX8 (by decide) rfl ⟨rfl, rfl⟩ (Nat.le_of_ble_eq_true rfl) (by rfl) (fun k ho hr hk => ?_)
  show XM B k μ δ 0 [some (.int x)] []
  refine x_ild0 ho dX8_isSheet_0 ?_
  refine x_iconst (v := 0) ho dX8_isSheet_1 rfl ?_
  refine x_iconst (v := 3) ho dX8_isSheet_2 rfl ?_
  refine sMI3 ho cs_X8_82 (c_X8_in B _ _ _ _ _) ⟨rfl, rfl⟩ ⟨Nat.le_of_ble_eq_true rfl, Nat.le_of_ble_eq_true rfl⟩ (Nat.le_of_ble_eq_true rfl) dX8_isSheet_3 (fun r3 s3 t3 p3 => ?_)
  obtain ⟨rfl, rfl, rfl⟩ := p3
  refine x_zret ho hr bI_01 ?_ dX8_isSheet_6
  exact ⟨_, _, _, rfl, rfl, mQ, rfl, rfl⟩
set_option maxRecDepth 100000 in
set_option maxHeartbeats 4000000 in
theorem c_X8_isSlot (B : BT) (μ : Nat → Nat → Int32) (δ : Nat → Int64) (x : Int32) : MI B yX8_isSlot cX8_isSlot 1 (some .boolean) ({ frames := 1, cells := 0, slots := 0, locals := 22 }) [.int x] μ δ (fun r μ' δ' => r = bI (isL x = true) ∧ μ' = μ ∧ δ' = δ) := by
  refine MX.of2 RX8 (by decide) rfl ⟨rfl, rfl⟩ (Nat.le_of_ble_eq_true rfl) (by rfl) (fun k ho hr hk => ?_)
  show XM B k μ δ 0 [some (.int x)] []
  refine x_ild0 ho dX8_isSlot_0 ?_
  refine x_iconst (v := 0) ho dX8_isSlot_1 rfl ?_
  refine x_iconst (v := 4) ho dX8_isSlot_2 rfl ?_
  refine sMI3 ho cs_X8_82 (c_X8_in B _ _ _ _ _) ⟨rfl, rfl⟩ ⟨Nat.le_of_ble_eq_true rfl, Nat.le_of_ble_eq_true rfl⟩ (Nat.le_of_ble_eq_true rfl) dX8_isSlot_3 (fun r3 s3 t3 p3 => ?_)
  obtain ⟨rfl, rfl, rfl⟩ := p3
  refine x_zret ho hr bI_01 ?_ dX8_isSlot_6
  exact ⟨_, _, _, rfl, rfl, mL, rfl, rfl⟩
set_option maxRecDepth 100000 in
set_option maxHeartbeats 4000000 in
theorem c_X8_isDancer (B : BT) (μ : Nat → Nat → Int32) (δ : Nat → Int64) (h : HT) (T : Nat → Int32) (hi : HI h) (x : Int32) : MI B yX8_isDancer cX8_isDancer 2 (some .boolean) ({ frames := 1, cells := 0, slots := 0, locals := 22 }) [.ref (aB B 0), .int x] (up1 μ 1 (en h T)) δ (fun r μ' δ' => r = bI (isD h x = true) ∧ μ' = up1 μ 1 (en h T) ∧ δ' = δ) := by
  refine MX.of2 RX8 (by decide) rfl ⟨rfl, rfl⟩ (Nat.le_of_ble_eq_true rfl) (by rfl) (fun k ho hr hk => ?_)
  show XM B k (up1 μ 1 (en h T)) δ 0 [some (.ref (aB B 0)), some (.int x)] []
  refine x_ild1 ho dX8_isDancer_0 ?_
  refine x_iconst (v := 0) ho dX8_isDancer_1 rfl ?_
  refine x_ald0 ho dX8_isDancer_2 ?_
  refine r_X8_9 ho dX8_isDancer_3 ?_
  refine x_iconst (v := 1) ho dX8_isDancer_6 rfl ?_
  refine m_ld (1) (rfl) (by omega) ho dX8_isDancer_7 ?_
  change XM B k _ _ _ _ (.int (h 0 0) :: _)
  refine x_iconst (v := 1) ho dX8_isDancer_8 rfl ?_
  refine x_isub ho dX8_isDancer_9 ?_
  refine sMI3 ho cs_X8_82 (c_X8_in B _ _ _ _ _) ⟨rfl, rfl⟩ ⟨Nat.le_of_ble_eq_true rfl, Nat.le_of_ble_eq_true rfl⟩ (Nat.le_of_ble_eq_true rfl) dX8_isDancer_10 (fun r10 s10 t10 p10 => ?_)
  obtain ⟨rfl, rfl, rfl⟩ := p10
  refine x_zret ho hr bI_01 ?_ dX8_isDancer_13
  exact ⟨_, _, _, rfl, rfl, mD hi, rfl, rfl⟩
set_option maxRecDepth 100000 in
set_option maxHeartbeats 4000000 in
theorem c_X8_of (B : BT) (μ : Nat → Nat → Int32) (δ : Nat → Int64) (h : HT) (T : Nat → Int32) (d w : Nat) (hd : d < 12) (hw : w < 5) : MI B yX8_of cX8_of 3 (some .int) ({ frames := 0, cells := 0, slots := 0, locals := 0 }) [.ref (aB B 0), .int (nI d), .int (nI w)] (up1 μ 1 (en h T)) δ (fun r μ' δ' => r = h (w + 1) d ∧ μ' = up1 μ 1 (en h T) ∧ δ' = δ) := by
  refine MX.of2 RX8 (by decide) rfl ⟨rfl, rfl⟩ (Nat.le_of_ble_eq_true rfl) (by rfl) (fun k ho hr hk => ?_)
  show XM B k (up1 μ 1 (en h T)) δ 0 [some (.ref (aB B 0)), some (.int (nI d)), some (.int (nI w))] []
  refine x_ald0 ho dX8_of_0 ?_
  refine r_X8_9 ho dX8_of_1 ?_
  refine x_bipush (v := 37) ho dX8_of_4 rfl ?_
  refine x_iconst (v := 5) ho dX8_of_6 rfl ?_
  refine x_ild1 ho dX8_of_7 ?_
  refine x_imul ho dX8_of_8 ?_
  refine x_iadd ho dX8_of_9 ?_
  refine x_ild2 ho dX8_of_10 ?_
  refine x_iadd ho dX8_of_11 ?_
  refine m_ld (37 + 5 * d + w) (ix5 d w) (by omega) ho dX8_of_12 ?_
  rw [en_d hd hw]
  refine x_iret ho hr ?_ dX8_of_13
  exact ⟨_, _, _, rfl, rfl, rfl, rfl, rfl⟩
set_option maxRecDepth 100000 in
set_option maxHeartbeats 4000000 in
theorem c_X8_put (B : BT) (μ : Nat → Nat → Int32) (δ : Nat → Int64) (h : HT) (T : Nat → Int32) (d w : Nat) (hd : d < 12) (hw : w < 5) (v : Int32) : MV B yX8_put cX8_put 4 none ({ frames := 0, cells := 0, slots := 0, locals := 0 }) [.ref (aB B 0), .int (nI d), .int (nI w), .int v] (up1 μ 1 (en h T)) δ (fun μ' δ' => μ' = up1 μ 1 (en (up2 h (w + 1) d v) T) ∧ δ' = δ) := by
  refine MX.of2 RX8 (by decide) rfl ⟨rfl, rfl⟩ (Nat.le_of_ble_eq_true rfl) (by rfl) (fun k ho hr hk => ?_)
  show XM B k (up1 μ 1 (en h T)) δ 0 [some (.ref (aB B 0)), some (.int (nI d)), some (.int (nI w)), some (.int v)] []
  refine x_ald0 ho dX8_put_0 ?_
  refine r_X8_9 ho dX8_put_1 ?_
  refine x_bipush (v := 37) ho dX8_put_4 rfl ?_
  refine x_iconst (v := 5) ho dX8_put_6 rfl ?_
  refine x_ild1 ho dX8_put_7 ?_
  refine x_imul ho dX8_put_8 ?_
  refine x_iadd ho dX8_put_9 ?_
  refine x_ild2 ho dX8_put_10 ?_
  refine x_iadd ho dX8_put_11 ?_
  refine x_ild3 ho dX8_put_12 ?_
  refine m_st (37 + 5 * d + w) (ix5 d w) (by omega) ho dX8_put_13 ?_
  rw [eu_d hd hw]
  refine x_vret ho hr ?_ dX8_put_14
  exact ⟨_, _, rfl, rfl, rfl, rfl⟩
set_option maxRecDepth 100000 in
set_option maxHeartbeats 4000000 in
theorem c_X8_becomes (B : BT) (μ : Nat → Nat → Int32) (δ : Nat → Int64) (f : Nat → Int32) (m : Nat) (hm : m < 1469) (v : Int32) : MI B yX8_becomes cX8_becomes 4 (some .int) ({ frames := 0, cells := 0, slots := 0, locals := 0 }) [.ref (aB B 0), .int (nI m), .int v] (up1 μ 1 f) δ (fun r μ' δ' => r = f m ∧ μ' = up1 μ 1 (upd f m v) ∧ δ' = δ) := by
  refine MX.of2 RX8 (by decide) rfl ⟨rfl, rfl⟩ (Nat.le_of_ble_eq_true rfl) (by rfl) (fun k ho hr hk => ?_)
  show XM B k (up1 μ 1 f) δ 0 [some (.ref (aB B 0)), some (.int (nI m)), some (.int v), none] []
  refine x_ald0 ho dX8_becomes_0 ?_
  refine r_X8_9 ho dX8_becomes_1 ?_
  refine x_ild1 ho dX8_becomes_4 ?_
  refine m_ld (m) (rfl) (by omega) ho dX8_becomes_5 ?_
  refine x_ist3 ho dX8_becomes_6 (by rw [hk]; decide) rfl ?_
  refine x_ald0 ho dX8_becomes_7 ?_
  refine r_X8_9 ho dX8_becomes_8 ?_
  refine x_ild1 ho dX8_becomes_11 ?_
  refine x_ild2 ho dX8_becomes_12 ?_
  refine m_st (m) (rfl) (by omega) ho dX8_becomes_13 ?_
  refine x_ild3 ho dX8_becomes_14 ?_
  refine x_iret ho hr ?_ dX8_becomes_15
  exact ⟨_, _, _, rfl, rfl, rfl, rfl, rfl⟩
