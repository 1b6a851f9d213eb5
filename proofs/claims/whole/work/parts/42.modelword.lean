/-! the model's text: key, codes, atoms, held; the rows code, waits, tested -/
def gK (f : Nat → Int32) (ky nc na hd : Int32) : Nat → Int32 := fun i => if i = 14 then ky else if i = 18 then nc else if i = 19 then na else if i = 21 then hd else f i
def MB (μ : ST) (ky nc na hd : Int32) (c w t : Nat → Int32) : ST := up1 (up1 (up1 (up1 μ 0 (gK (μ 0) ky nc na hd)) 10 c) 11 w) 12 t
def TG (μ : ST) (s e k v d ky nc na hd : Int32) (c w t : Nat → Int32) : ST := SG (MB μ ky nc na hd c w t) s e k v d
section TG42
variable {μ : ST} {s e k v d ky nc na hd x : Int32} {c w t : Nat → Int32} {i : Nat}
theorem SG_o {M : ST} {j : Nat} (h : j ≠ 9 ∧ j ≠ 10 ∧ j ≠ 11 ∧ j ≠ 12 ∧ j ≠ 13) : up2 (SG M s e k v d) 0 j x = SG (up2 M 0 j x) s e k v d := by
  obtain ⟨h1, h2, h3, h4, h5⟩ := h
  funext q i
  unfold SG gF up1 up2 upd
  by_cases hq : q = 0
  · subst hq
    simp only [if_true]
    by_cases hj : i = j
    · subst hj
      simp [h1, h2, h3, h4, h5]
    · simp [hj]
  · simp [hq]
theorem SG_r {M : ST} {q j : Nat} (h : q ≠ 0) : up2 (SG M s e k v d) q j x = SG (up2 M q j x) s e k v d := by
  funext q' i
  unfold SG gF up1 up2 upd
  by_cases hq : q' = 0
  · have hn : ¬ 0 = q := fun z => h z.symm
    subst hq
    simp [hn]
  · by_cases hq2 : q' = q
    · subst hq2
      simp [h]
    · simp [hq, hq2]
theorem TG_9 : up2 (TG μ s e k v d ky nc na hd c w t) 0 9 x = TG μ s x k v d ky nc na hd c w t := SG_9
theorem TG_14 : up2 (TG μ s e k v d ky nc na hd c w t) 0 14 x = TG μ s e k v d x nc na hd c w t := by
  unfold TG
  rw [SG_o (by decide)]
  congr 1
  funext q i
  unfold MB gK up1 up2 upd
  by_cases h1 : q = 12 <;> by_cases h2 : q = 11 <;> by_cases h3 : q = 10 <;> by_cases h4 : q = 0 <;> by_cases h5 : i = 14 <;> simp_all
theorem TG_18 : up2 (TG μ s e k v d ky nc na hd c w t) 0 18 x = TG μ s e k v d ky x na hd c w t := by
  unfold TG
  rw [SG_o (by decide)]
  congr 1
  funext q i
  unfold MB gK up1 up2 upd
  by_cases h1 : q = 12 <;> by_cases h2 : q = 11 <;> by_cases h3 : q = 10 <;> by_cases h4 : q = 0 <;> by_cases h5 : i = 18 <;> simp_all
theorem TG_19 : up2 (TG μ s e k v d ky nc na hd c w t) 0 19 x = TG μ s e k v d ky nc x hd c w t := by
  unfold TG
  rw [SG_o (by decide)]
  congr 1
  funext q i
  unfold MB gK up1 up2 upd
  by_cases h1 : q = 12 <;> by_cases h2 : q = 11 <;> by_cases h3 : q = 10 <;> by_cases h4 : q = 0 <;> by_cases h5 : i = 19 <;> simp_all
theorem TG_21 : up2 (TG μ s e k v d ky nc na hd c w t) 0 21 x = TG μ s e k v d ky nc na x c w t := by
  unfold TG
  rw [SG_o (by decide)]
  congr 1
  funext q i
  unfold MB gK up1 up2 upd
  by_cases h1 : q = 12 <;> by_cases h2 : q = 11 <;> by_cases h3 : q = 10 <;> by_cases h4 : q = 0 <;> by_cases h5 : i = 21 <;> simp_all
theorem TG_r10 : up2 (TG μ s e k v d ky nc na hd c w t) 10 i x = TG μ s e k v d ky nc na hd (upd c i x) w t := by
  unfold TG
  rw [SG_r (by decide)]
  congr 1
  funext q j
  unfold MB up1 up2
  by_cases h1 : q = 12 <;> by_cases h2 : q = 11 <;> by_cases h3 : q = 10 <;> by_cases h4 : q = 0 <;> simp_all
theorem TG_r11 : up2 (TG μ s e k v d ky nc na hd c w t) 11 i x = TG μ s e k v d ky nc na hd c (upd w i x) t := by
  unfold TG
  rw [SG_r (by decide)]
  congr 1
  funext q j
  unfold MB up1 up2
  by_cases h1 : q = 12 <;> by_cases h2 : q = 11 <;> by_cases h3 : q = 10 <;> by_cases h4 : q = 0 <;> simp_all
theorem TG_r12 : up2 (TG μ s e k v d ky nc na hd c w t) 12 i x = TG μ s e k v d ky nc na hd c w (upd t i x) := by
  unfold TG
  rw [SG_r (by decide)]
  congr 1
  funext q j
  unfold MB up1 up2
  by_cases h1 : q = 12 <;> by_cases h2 : q = 11 <;> by_cases h3 : q = 10 <;> by_cases h4 : q = 0 <;> simp_all
theorem w_go (B : BT) (δ : Nat → Int64) (n p : Nat) (hn : μ 0 8 = nI n) (hn96 : n ≤ 96) (hp : p ≤ n) (hEI : EI (μ 7) n p d) : MV B yX8_go cX8_go 2 none ({ frames := 1, cells := 0, slots := 0, locals := 21 }) [.ref (aB B 0)] (TG μ s (nI p) k v d ky nc na hd c w t) δ (fun μ' δ' => ∃ v d, μ' = TG μ (nI (tS (μ 7) n p)) (nI (tE (μ 7) n p)) (tK (μ 7) n p) v d ky nc na hd c w t ∧ VV (μ 7) n p v ∧ (¬ tK (μ 7) n p = 0 → EI (μ 7) n (tE (μ 7) n p) d) ∧ δ' = δ) :=
  c_X8_go B (MB μ ky nc na hd c w t) δ n p hn hn96 hp s k v d hEI
end TG42
/-- pending signs, the last one first -/
def LR (w : Nat → Int32) : List Int32 → Prop
  | [] => True
  | x :: W => w W.length = x ∧ LR w W
theorem LR.up {w : Nat → Int32} {j : Nat} {x : Int32} : ∀ {W : List Int32}, LR w W → W.length ≤ j → LR (upd w j x) W
  | [], _, _ => trivial
  | y :: W, h, hj => ⟨by rw [upd_n (by simp at hj; omega)]; exact h.1, LR.up h.2 (by simp at hj; omega)⟩
theorem LR.push {w : Nat → Int32} {W : List Int32} {x : Int32} (h : LR w W) : LR (upd w W.length x) (x :: W) := ⟨upd_s, h.up (Nat.le_refl _)⟩
def rkN (x : Int32) : Nat := if x = -1 then 1 else if x = -2 then 2 else if -5 ≤ x then 3 else if -7 ≤ x then 4 else if -9 ≤ x then 5 else 6
def mSet (L : Nat) : List Int32 → Nat → (Nat → Int32) → List Int32 × Nat × (Nat → Int32)
  | [], nc, c => ([], nc, c)
  | x :: W, nc, c => if ¬ x = -11 ∧ L ≤ rkN x then mSet L W (nc + 1) (upd c nc x) else (x :: W, nc, c)
theorem mSet_LR {w : Nat → Int32} {L : Nat} : ∀ {W : List Int32} {nc : Nat} {c : Nat → Int32}, LR w W → LR w (mSet L W nc c).1
  | [], _, _, h => h
  | x :: W, nc, c, h => by
    unfold mSet
    split
    · exact mSet_LR h.2
    · exact h
theorem mSet_len {L : Nat} : ∀ {W : List Int32} {nc : Nat} {c : Nat → Int32}, (mSet L W nc c).2.1 + (mSet L W nc c).1.length = nc + W.length
  | [], _, _ => rfl
  | x :: W, nc, c => by
    unfold mSet
    split
    · rw [mSet_len]
      simp
      omega
    · rfl
def nmF (ky x : Int32) : Int32 := if ky = 0 then (if x = 102 then 0 else if x = 115 then 1 else if x = 100 then 2 else -1) else if ky = 1 then (if x = 115 then 0 else if x = 108 then 1 else -1) else (if x = 115 then 0 else if x = 100 then 1 else -1)
def sgF (x : Int32) : Int32 := if x = 38 then -2 else if x = 42 then -8 else if x = 43 then -6 else if x = 45 then -7 else if x = 47 then -9 else if x = 60 then -3 else if x = 61 then -4 else if x = 62 then -5 else if x = 124 then -1 else 0
def sgA (k v : Int32) : Int32 := if k = 3 then sgF v else 0
set_option maxRecDepth 100000 in
set_option maxHeartbeats 4000000 in
theorem c_X8_rank (B : BT) (μ : Nat → Nat → Int32) (δ : Nat → Int64) (x : Int32) : MI B yX8_rank cX8_rank 1 (some .int) ({ frames := 0, cells := 0, slots := 0, locals := 0 }) [.int x] μ δ (fun r μ' δ' => r = nI (rkN x) ∧ μ' = μ ∧ δ' = δ) := by
  refine MX.of2 RX8 (by decide) rfl ⟨rfl, rfl⟩ (Nat.le_of_ble_eq_true rfl) (by rfl) (fun k ho hr hk => ?_)
  show XM B k μ δ 0 [some (.int x)] []
  refine x_ild0 ho dX8_rank_0 ?_
  refine x_iconst (v := (-1)) ho dX8_rank_1 rfl ?_
  refine x_icmp_ne 9 ho dX8_rank_2 (by decide) (fun c2 => ?_) (fun c2 => ?_)
  · refine x_ild0 ho dX8_rank_9 ?_
    refine x_bipush (v := (-2)) ho dX8_rank_10 rfl ?_
    refine x_icmp_ne 19 ho dX8_rank_12 (by decide) (fun c12 => ?_) (fun c12 => ?_)
    · refine x_ild0 ho dX8_rank_19 ?_
      refine x_bipush (v := (-5)) ho dX8_rank_20 rfl ?_
      refine x_icmp_lt 29 ho dX8_rank_22 (by decide) (fun c22 => ?_) (fun c22 => ?_)
      · have c22 : ¬ -5 ≤ x := Int32.not_le.mpr c22
        refine x_ild0 ho dX8_rank_29 ?_
        refine x_bipush (v := (-7)) ho dX8_rank_30 rfl ?_
        refine x_icmp_lt 39 ho dX8_rank_32 (by decide) (fun c32 => ?_) (fun c32 => ?_)
        · have c32 : ¬ -7 ≤ x := Int32.not_le.mpr c32
          refine x_ild0 ho dX8_rank_39 ?_
          refine x_bipush (v := (-9)) ho dX8_rank_40 rfl ?_
          refine x_icmp_lt 49 ho dX8_rank_42 (by decide) (fun c42 => ?_) (fun c42 => ?_)
          · have c42 : ¬ -9 ≤ x := Int32.not_le.mpr c42
            refine x_bipush (v := 6) ho dX8_rank_49 rfl ?_
            refine x_iret ho hr ?_ dX8_rank_51
            exact ⟨_, _, _, rfl, rfl, by simp_all [rkN, -Int32.not_lt, -Int32.not_le, nI], rfl, rfl⟩
          · have c42 : -9 ≤ x := Int32.not_lt.mp c42
            refine x_iconst (v := 5) ho dX8_rank_45 rfl ?_
            refine x_goto 51 ho dX8_rank_46 (by decide) ?_
            refine x_iret ho hr ?_ dX8_rank_51
            exact ⟨_, _, _, rfl, rfl, by simp_all [rkN, -Int32.not_lt, -Int32.not_le, nI], rfl, rfl⟩
        · have c32 : -7 ≤ x := Int32.not_lt.mp c32
          refine x_iconst (v := 4) ho dX8_rank_35 rfl ?_
          refine x_goto 51 ho dX8_rank_36 (by decide) ?_
          refine x_iret ho hr ?_ dX8_rank_51
          exact ⟨_, _, _, rfl, rfl, by simp_all [rkN, -Int32.not_lt, -Int32.not_le, nI], rfl, rfl⟩
      · have c22 : -5 ≤ x := Int32.not_lt.mp c22
        refine x_iconst (v := 3) ho dX8_rank_25 rfl ?_
        refine x_goto 51 ho dX8_rank_26 (by decide) ?_
        refine x_iret ho hr ?_ dX8_rank_51
        exact ⟨_, _, _, rfl, rfl, by simp_all [rkN, -Int32.not_lt, -Int32.not_le, nI], rfl, rfl⟩
    · refine x_iconst (v := 2) ho dX8_rank_15 rfl ?_
      refine x_goto 51 ho dX8_rank_16 (by decide) ?_
      refine x_iret ho hr ?_ dX8_rank_51
      exact ⟨_, _, _, rfl, rfl, by simp_all [rkN, -Int32.not_lt, -Int32.not_le, nI], rfl, rfl⟩
  · refine x_iconst (v := 1) ho dX8_rank_5 rfl ?_
    refine x_goto 51 ho dX8_rank_6 (by decide) ?_
    refine x_iret ho hr ?_ dX8_rank_51
    exact ⟨_, _, _, rfl, rfl, by simp_all [rkN, -Int32.not_lt, -Int32.not_le, nI], rfl, rfl⟩
set_option maxRecDepth 100000 in
set_option maxHeartbeats 4000000 in
theorem c_X8_nameOf (B : BT) (μ : Nat → Nat → Int32) (δ : Nat → Int64) (x : Int32) : MI B yX8_nameOf cX8_nameOf 2 (some .int) ({ frames := 0, cells := 0, slots := 0, locals := 0 }) [.ref (aB B 0), .int x] μ δ (fun r μ' δ' => r = nmF (μ 0 14) x ∧ μ' = μ ∧ δ' = δ) := by
  refine MX.of2 RX8 (by decide) rfl ⟨rfl, rfl⟩ (Nat.le_of_ble_eq_true rfl) (by rfl) (fun k ho hr hk => ?_)
  show XM B k μ δ 0 [some (.ref (aB B 0)), some (.int x)] []
  refine x_ald0 ho dX8_nameOf_0 ?_
  refine r_X8_213 ho dX8_nameOf_1 ?_
  refine x_topi (fun y4 ey4 => ?_)
  by_cases q4_0 : y4 = 0
  · rw [q4_0] at ey4 ⊢
    refine x_lk 32 ho dX8_nameOf_4 (by decide) (by rfl) (by decide) ?_
    refine x_ild1 ho dX8_nameOf_32 ?_
    refine x_bipush (v := 102) ho dX8_nameOf_33 rfl ?_
    refine x_icmp_ne 42 ho dX8_nameOf_35 (by decide) (fun c35 => ?_) (fun c35 => ?_)
    · refine x_ild1 ho dX8_nameOf_42 ?_
      refine x_bipush (v := 115) ho dX8_nameOf_43 rfl ?_
      refine x_icmp_ne 52 ho dX8_nameOf_45 (by decide) (fun c45 => ?_) (fun c45 => ?_)
      · refine x_ild1 ho dX8_nameOf_52 ?_
        refine x_bipush (v := 100) ho dX8_nameOf_53 rfl ?_
        refine x_icmp_ne 62 ho dX8_nameOf_55 (by decide) (fun c55 => ?_) (fun c55 => ?_)
        · refine x_iconst (v := (-1)) ho dX8_nameOf_62 rfl ?_
          refine x_iret ho hr ?_ dX8_nameOf_63
          have ek : μ 0 14 = 0 := ey4.symm
          refine ⟨_, _, _, rfl, rfl, ?_, rfl, rfl⟩
          rw [ek]
          unfold nmF
          first | (rw [if_pos rfl, if_pos c35]) | (rw [if_pos rfl, if_neg c35, if_pos c45]) | (rw [if_pos rfl, if_neg c35, if_neg c45, if_pos c55]) | (rw [if_pos rfl, if_neg c35, if_neg c45, if_neg c55])
        · refine x_iconst (v := 2) ho dX8_nameOf_58 rfl ?_
          refine x_goto 63 ho dX8_nameOf_59 (by decide) ?_
          refine x_iret ho hr ?_ dX8_nameOf_63
          have ek : μ 0 14 = 0 := ey4.symm
          refine ⟨_, _, _, rfl, rfl, ?_, rfl, rfl⟩
          rw [ek]
          unfold nmF
          first | (rw [if_pos rfl, if_pos c35]) | (rw [if_pos rfl, if_neg c35, if_pos c45]) | (rw [if_pos rfl, if_neg c35, if_neg c45, if_pos c55]) | (rw [if_pos rfl, if_neg c35, if_neg c45, if_neg c55])
      · refine x_iconst (v := 1) ho dX8_nameOf_48 rfl ?_
        refine x_goto 63 ho dX8_nameOf_49 (by decide) ?_
        refine x_iret ho hr ?_ dX8_nameOf_63
        have ek : μ 0 14 = 0 := ey4.symm
        refine ⟨_, _, _, rfl, rfl, ?_, rfl, rfl⟩
        rw [ek]
        unfold nmF
        first | (rw [if_pos rfl, if_pos c35]) | (rw [if_pos rfl, if_neg c35, if_pos c45]) | (rw [if_pos rfl, if_neg c35, if_neg c45, if_pos c55]) | (rw [if_pos rfl, if_neg c35, if_neg c45, if_neg c55])
    · refine x_iconst (v := 0) ho dX8_nameOf_38 rfl ?_
      refine x_goto 63 ho dX8_nameOf_39 (by decide) ?_
      refine x_iret ho hr ?_ dX8_nameOf_63
      have ek : μ 0 14 = 0 := ey4.symm
      refine ⟨_, _, _, rfl, rfl, ?_, rfl, rfl⟩
      rw [ek]
      unfold nmF
      first | (rw [if_pos rfl, if_pos c35]) | (rw [if_pos rfl, if_neg c35, if_pos c45]) | (rw [if_pos rfl, if_neg c35, if_neg c45, if_pos c55]) | (rw [if_pos rfl, if_neg c35, if_neg c45, if_neg c55])
  · skip
    by_cases q4_1 : y4 = 1
    · rw [q4_1] at ey4 ⊢
      refine x_lk 64 ho dX8_nameOf_4 (by decide) (by rfl) (by decide) ?_
      refine x_ild1 ho dX8_nameOf_64 ?_
      refine x_bipush (v := 115) ho dX8_nameOf_65 rfl ?_
      refine x_icmp_ne 74 ho dX8_nameOf_67 (by decide) (fun c67 => ?_) (fun c67 => ?_)
      · refine x_ild1 ho dX8_nameOf_74 ?_
        refine x_bipush (v := 108) ho dX8_nameOf_75 rfl ?_
        refine x_icmp_ne 84 ho dX8_nameOf_77 (by decide) (fun c77 => ?_) (fun c77 => ?_)
        · refine x_iconst (v := (-1)) ho dX8_nameOf_84 rfl ?_
          refine x_iret ho hr ?_ dX8_nameOf_85
          have ek : μ 0 14 = 1 := ey4.symm
          refine ⟨_, _, _, rfl, rfl, ?_, rfl, rfl⟩
          rw [ek]
          unfold nmF
          first | (rw [if_neg (by decide), if_pos rfl, if_pos c67]) | (rw [if_neg (by decide), if_pos rfl, if_neg c67, if_pos c77]) | (rw [if_neg (by decide), if_pos rfl, if_neg c67, if_neg c77])
        · refine x_iconst (v := 1) ho dX8_nameOf_80 rfl ?_
          refine x_goto 85 ho dX8_nameOf_81 (by decide) ?_
          refine x_iret ho hr ?_ dX8_nameOf_85
          have ek : μ 0 14 = 1 := ey4.symm
          refine ⟨_, _, _, rfl, rfl, ?_, rfl, rfl⟩
          rw [ek]
          unfold nmF
          first | (rw [if_neg (by decide), if_pos rfl, if_pos c67]) | (rw [if_neg (by decide), if_pos rfl, if_neg c67, if_pos c77]) | (rw [if_neg (by decide), if_pos rfl, if_neg c67, if_neg c77])
      · refine x_iconst (v := 0) ho dX8_nameOf_70 rfl ?_
        refine x_goto 85 ho dX8_nameOf_71 (by decide) ?_
        refine x_iret ho hr ?_ dX8_nameOf_85
        have ek : μ 0 14 = 1 := ey4.symm
        refine ⟨_, _, _, rfl, rfl, ?_, rfl, rfl⟩
        rw [ek]
        unfold nmF
        first | (rw [if_neg (by decide), if_pos rfl, if_pos c67]) | (rw [if_neg (by decide), if_pos rfl, if_neg c67, if_pos c77]) | (rw [if_neg (by decide), if_pos rfl, if_neg c67, if_neg c77])
    · skip
      refine x_lk (off := 82) 86 ho dX8_nameOf_4 (by decide) (by show Op.lookupswitch.offset [_, _] _ _ = _; rw [lv_osw q4_0 (by decide), lv_osw q4_1 (by decide)] <;> rfl) (by decide) ?_
      refine x_ild1 ho dX8_nameOf_86 ?_
      refine x_bipush (v := 115) ho dX8_nameOf_87 rfl ?_
      refine x_icmp_ne 96 ho dX8_nameOf_89 (by decide) (fun c89 => ?_) (fun c89 => ?_)
      · refine x_ild1 ho dX8_nameOf_96 ?_
        refine x_bipush (v := 100) ho dX8_nameOf_97 rfl ?_
        refine x_icmp_ne 106 ho dX8_nameOf_99 (by decide) (fun c99 => ?_) (fun c99 => ?_)
        · refine x_iconst (v := (-1)) ho dX8_nameOf_106 rfl ?_
          refine x_iret ho hr ?_ dX8_nameOf_107
          subst ey4
          refine ⟨_, _, _, rfl, rfl, ?_, rfl, rfl⟩
          unfold nmF
          first | (rw [if_neg q4_0, if_neg q4_1, if_pos c89]) | (rw [if_neg q4_0, if_neg q4_1, if_neg c89, if_pos c99]) | (rw [if_neg q4_0, if_neg q4_1, if_neg c89, if_neg c99])
        · refine x_iconst (v := 1) ho dX8_nameOf_102 rfl ?_
          refine x_goto 107 ho dX8_nameOf_103 (by decide) ?_
          refine x_iret ho hr ?_ dX8_nameOf_107
          subst ey4
          refine ⟨_, _, _, rfl, rfl, ?_, rfl, rfl⟩
          unfold nmF
          first | (rw [if_neg q4_0, if_neg q4_1, if_pos c89]) | (rw [if_neg q4_0, if_neg q4_1, if_neg c89, if_pos c99]) | (rw [if_neg q4_0, if_neg q4_1, if_neg c89, if_neg c99])
      · refine x_iconst (v := 0) ho dX8_nameOf_92 rfl ?_
        refine x_goto 107 ho dX8_nameOf_93 (by decide) ?_
        refine x_iret ho hr ?_ dX8_nameOf_107
        subst ey4
        refine ⟨_, _, _, rfl, rfl, ?_, rfl, rfl⟩
        unfold nmF
        first | (rw [if_neg q4_0, if_neg q4_1, if_pos c89]) | (rw [if_neg q4_0, if_neg q4_1, if_neg c89, if_pos c99]) | (rw [if_neg q4_0, if_neg q4_1, if_neg c89, if_neg c99])
set_option maxRecDepth 100000 in
set_option maxHeartbeats 4000000 in
theorem c_X8_signHere (B : BT) (μ : Nat → Nat → Int32) (δ : Nat → Int64) : MI B yX8_signHere cX8_signHere 1 (some .int) ({ frames := 0, cells := 0, slots := 0, locals := 0 }) [.ref (aB B 0)] μ δ (fun r μ' δ' => r = sgA (μ 0 11) (μ 0 12) ∧ μ' = μ ∧ δ' = δ) := by
  refine MX.of2 RX8 (by decide) rfl ⟨rfl, rfl⟩ (Nat.le_of_ble_eq_true rfl) (by rfl) (fun k ho hr hk => ?_)
  show XM B k μ δ 0 [some (.ref (aB B 0))] []
  refine x_ald0 ho dX8_signHere_0 ?_
  refine r_X8_201 ho dX8_signHere_1 ?_
  refine x_iconst (v := 3) ho dX8_signHere_4 rfl ?_
  refine x_icmp_eq 10 ho dX8_signHere_5 (by decide) (fun c5 => ?_) (fun c5 => ?_)
  · refine x_ald0 ho dX8_signHere_10 ?_
    refine r_X8_207 ho dX8_signHere_11 ?_
    refine x_topi (fun y14 ey14 => ?_)
    by_cases q14_38 : y14 = 38
    · rw [q14_38] at ey14 ⊢
      refine x_lk 98 ho dX8_signHere_14 (by decide) (by rfl) (by decide) ?_
      refine x_bipush (v := (-2)) ho dX8_signHere_98 rfl ?_
      refine x_iret ho hr ?_ dX8_signHere_100
      have ek : μ 0 12 = 38 := ey14.symm
      refine ⟨_, _, _, rfl, rfl, ?_, rfl, rfl⟩
      unfold sgA sgF
      rw [if_pos c5, ek, if_pos rfl]
    · skip
      by_cases q14_42 : y14 = 42
      · rw [q14_42] at ey14 ⊢
        refine x_lk 116 ho dX8_signHere_14 (by decide) (by rfl) (by decide) ?_
        refine x_bipush (v := (-8)) ho dX8_signHere_116 rfl ?_
        refine x_iret ho hr ?_ dX8_signHere_118
        have ek : μ 0 12 = 42 := ey14.symm
        refine ⟨_, _, _, rfl, rfl, ?_, rfl, rfl⟩
        unfold sgA sgF
        rw [if_pos c5, ek, if_neg (by decide), if_pos rfl]
      · skip
        by_cases q14_43 : y14 = 43
        · rw [q14_43] at ey14 ⊢
          refine x_lk 110 ho dX8_signHere_14 (by decide) (by rfl) (by decide) ?_
          refine x_bipush (v := (-6)) ho dX8_signHere_110 rfl ?_
          refine x_iret ho hr ?_ dX8_signHere_112
          have ek : μ 0 12 = 43 := ey14.symm
          refine ⟨_, _, _, rfl, rfl, ?_, rfl, rfl⟩
          unfold sgA sgF
          rw [if_pos c5, ek, if_neg (by decide), if_neg (by decide), if_pos rfl]
        · skip
          by_cases q14_45 : y14 = 45
          · rw [q14_45] at ey14 ⊢
            refine x_lk 113 ho dX8_signHere_14 (by decide) (by rfl) (by decide) ?_
            refine x_bipush (v := (-7)) ho dX8_signHere_113 rfl ?_
            refine x_iret ho hr ?_ dX8_signHere_115
            have ek : μ 0 12 = 45 := ey14.symm
            refine ⟨_, _, _, rfl, rfl, ?_, rfl, rfl⟩
            unfold sgA sgF
            rw [if_pos c5, ek, if_neg (by decide), if_neg (by decide), if_neg (by decide), if_pos rfl]
          · skip
            by_cases q14_47 : y14 = 47
            · rw [q14_47] at ey14 ⊢
              refine x_lk 119 ho dX8_signHere_14 (by decide) (by rfl) (by decide) ?_
              refine x_bipush (v := (-9)) ho dX8_signHere_119 rfl ?_
              refine x_iret ho hr ?_ dX8_signHere_121
              have ek : μ 0 12 = 47 := ey14.symm
              refine ⟨_, _, _, rfl, rfl, ?_, rfl, rfl⟩
              unfold sgA sgF
              rw [if_pos c5, ek, if_neg (by decide), if_neg (by decide), if_neg (by decide), if_neg (by decide), if_pos rfl]
            · skip
              by_cases q14_60 : y14 = 60
              · rw [q14_60] at ey14 ⊢
                refine x_lk 101 ho dX8_signHere_14 (by decide) (by rfl) (by decide) ?_
                refine x_bipush (v := (-3)) ho dX8_signHere_101 rfl ?_
                refine x_iret ho hr ?_ dX8_signHere_103
                have ek : μ 0 12 = 60 := ey14.symm
                refine ⟨_, _, _, rfl, rfl, ?_, rfl, rfl⟩
                unfold sgA sgF
                rw [if_pos c5, ek, if_neg (by decide), if_neg (by decide), if_neg (by decide), if_neg (by decide), if_neg (by decide), if_pos rfl]
              · skip
                by_cases q14_61 : y14 = 61
                · rw [q14_61] at ey14 ⊢
                  refine x_lk 104 ho dX8_signHere_14 (by decide) (by rfl) (by decide) ?_
                  refine x_bipush (v := (-4)) ho dX8_signHere_104 rfl ?_
                  refine x_iret ho hr ?_ dX8_signHere_106
                  have ek : μ 0 12 = 61 := ey14.symm
                  refine ⟨_, _, _, rfl, rfl, ?_, rfl, rfl⟩
                  unfold sgA sgF
                  rw [if_pos c5, ek, if_neg (by decide), if_neg (by decide), if_neg (by decide), if_neg (by decide), if_neg (by decide), if_neg (by decide), if_pos rfl]
                · skip
                  by_cases q14_62 : y14 = 62
                  · rw [q14_62] at ey14 ⊢
                    refine x_lk 107 ho dX8_signHere_14 (by decide) (by rfl) (by decide) ?_
                    refine x_bipush (v := (-5)) ho dX8_signHere_107 rfl ?_
                    refine x_iret ho hr ?_ dX8_signHere_109
                    have ek : μ 0 12 = 62 := ey14.symm
                    refine ⟨_, _, _, rfl, rfl, ?_, rfl, rfl⟩
                    unfold sgA sgF
                    rw [if_pos c5, ek, if_neg (by decide), if_neg (by decide), if_neg (by decide), if_neg (by decide), if_neg (by decide), if_neg (by decide), if_neg (by decide), if_pos rfl]
                  · skip
                    by_cases q14_124 : y14 = 124
                    · rw [q14_124] at ey14 ⊢
                      refine x_lk 96 ho dX8_signHere_14 (by decide) (by rfl) (by decide) ?_
                      refine x_iconst (v := (-1)) ho dX8_signHere_96 rfl ?_
                      refine x_iret ho hr ?_ dX8_signHere_97
                      have ek : μ 0 12 = 124 := ey14.symm
                      refine ⟨_, _, _, rfl, rfl, ?_, rfl, rfl⟩
                      unfold sgA sgF
                      rw [if_pos c5, ek, if_neg (by decide), if_neg (by decide), if_neg (by decide), if_neg (by decide), if_neg (by decide), if_neg (by decide), if_neg (by decide), if_neg (by decide), if_pos rfl]
                    · skip
                      refine x_lk (off := 108) 122 ho dX8_signHere_14 (by decide) (by show Op.lookupswitch.offset [_, _, _, _, _, _, _, _, _] _ _ = _; rw [lv_osw q14_38 (by decide), lv_osw q14_42 (by decide), lv_osw q14_43 (by decide), lv_osw q14_45 (by decide), lv_osw q14_47 (by decide), lv_osw q14_60 (by decide), lv_osw q14_61 (by decide), lv_osw q14_62 (by decide), lv_osw q14_124 (by decide)] <;> rfl) (by decide) ?_
                      refine x_iconst (v := 0) ho dX8_signHere_122 rfl ?_
                      refine x_iret ho hr ?_ dX8_signHere_123
                      subst ey14
                      refine ⟨_, _, _, rfl, rfl, ?_, rfl, rfl⟩
                      unfold sgA sgF
                      rw [if_pos c5, if_neg q14_38, if_neg q14_42, if_neg q14_43, if_neg q14_45, if_neg q14_47, if_neg q14_60, if_neg q14_61, if_neg q14_62, if_neg q14_124]
  · refine x_iconst (v := 0) ho dX8_signHere_8 rfl ?_
    refine x_iret ho hr ?_ dX8_signHere_9
    exact ⟨_, _, _, rfl, rfl, (if_neg c5).symm, rfl, rfl⟩
def cntA (w : Nat → Int32) : Nat → Nat
  | 0 => 0
  | j + 1 => cntA w j + (if w j = -10 then 1 else 0)
theorem cntA_le {w : Nat → Int32} : ∀ j, cntA w j ≤ j
  | 0 => Nat.le_refl 0
  | j + 1 => by
    have := cntA_le (w := w) j
    unfold cntA
    split <;> omega
def cntN : List Int32 → Nat
  | [] => 0
  | x :: W => cntN W + (if x = -10 then 1 else 0)
theorem cntA_N {w : Nat → Int32} : ∀ {W : List Int32}, LR w W → cntA w W.length = cntN W
  | [], _ => rfl
  | x :: W, h => by
    show cntA w W.length + (if w W.length = -10 then 1 else 0) = cntN W + (if x = -10 then 1 else 0)
    rw [h.1, cntA_N h.2]
set_option maxRecDepth 100000 in
set_option maxHeartbeats 4000000 in
theorem c_X8_notsOpen (B : BT) (μ : Nat → Nat → Int32) (δ : Nat → Int64) (m : Nat) (hh : μ 0 21 = nI m) (hm : m ≤ 96) : MI B yX8_notsOpen cX8_notsOpen 3 (some .int) ({ frames := 0, cells := 0, slots := 0, locals := 0 }) [.ref (aB B 0)] μ δ (fun r μ' δ' => r = nI (cntA (μ 11) m) ∧ μ' = μ ∧ δ' = δ) := by
  refine MX.of2 RX8 (by decide) rfl ⟨rfl, rfl⟩ (Nat.le_of_ble_eq_true rfl) (by rfl) (fun k ho hr hk => ?_)
  show XM B k μ δ 0 [some (.ref (aB B 0)), none, none] []
  have loop : ∀ (f i : Nat), m < f + i → i ≤ m → XM B k μ δ 4 [some (.ref (aB B 0)), some (.int (nI (cntA (μ 11) i))), some (.int (nI i))] [] := by
    intro f
    induction f with
    | zero => intro i h1 h2; omega
    | succ f ih =>
      intro i h1 h2
      refine x_ild2 ho dX8_notsOpen_4 ?_
      refine x_ald0 ho dX8_notsOpen_5 ?_
      refine r_X8_219 ho dX8_notsOpen_6 ?_
      rw [hh]
      refine x_icmp_ge 37 ho dX8_notsOpen_9 (by decide) (fun c9 => ?_) (fun c9 => ?_)
      · have c9 := n_le (by omega) (by omega) c9
        have ei : i = m := by omega
        subst ei
        refine x_ild1 ho dX8_notsOpen_37 ?_
        refine x_iret ho hr ?_ dX8_notsOpen_38
        exact ⟨_, _, _, rfl, rfl, rfl, rfl, rfl⟩
      · have c9 := n_nle (by omega) (by omega) c9
        refine x_ild1 ho dX8_notsOpen_12 ?_
        refine x_ald0 ho dX8_notsOpen_13 ?_
        refine r_X8_42 ho dX8_notsOpen_14 ?_
        refine x_ild2 ho dX8_notsOpen_17 ?_
        refine xm_ialdN (i) (rfl) 11 (by show i < 96; omega) ho (by decide) (fun _ => rfl) dX8_notsOpen_18 ?_
        refine x_bipush (v := (-10)) ho dX8_notsOpen_19 rfl ?_
        refine x_icmp_ne 28 ho dX8_notsOpen_21 (by decide) (fun c21 => ?_) (fun c21 => ?_)
        · have eb : cntA (μ 11) (i + 1) = cntA (μ 11) i + 0 := congrArg (cntA (μ 11) i + ·) (if_neg c21)
          refine x_iconst (v := 0) ho dX8_notsOpen_28 rfl ?_
          refine x_iadd ho dX8_notsOpen_29 ?_
          refine x_ist1 ho dX8_notsOpen_30 (by rw [hk]; decide) rfl ?_
          refine x_inc2 (y := 1) ho dX8_notsOpen_31 (by rw [hk]; decide) rfl rfl ?_
          refine x_goto 4 ho dX8_notsOpen_34 (by decide) ?_
          have ih := ih (i + 1) (by omega) (by omega)
          rw [eb] at ih
          rw [nI_1 i]
          first | (rw [nI_1 (cntA (μ 11) i)]; exact ih) | (rw [Int32.add_zero]; exact ih)
        · have eb : cntA (μ 11) (i + 1) = cntA (μ 11) i + 1 := congrArg (cntA (μ 11) i + ·) (if_pos c21)
          refine x_iconst (v := 1) ho dX8_notsOpen_24 rfl ?_
          refine x_goto 29 ho dX8_notsOpen_25 (by decide) ?_
          refine x_iadd ho dX8_notsOpen_29 ?_
          refine x_ist1 ho dX8_notsOpen_30 (by rw [hk]; decide) rfl ?_
          refine x_inc2 (y := 1) ho dX8_notsOpen_31 (by rw [hk]; decide) rfl rfl ?_
          refine x_goto 4 ho dX8_notsOpen_34 (by decide) ?_
          have ih := ih (i + 1) (by omega) (by omega)
          rw [eb] at ih
          rw [nI_1 i]
          first | (rw [nI_1 (cntA (μ 11) i)]; exact ih) | (rw [Int32.add_zero]; exact ih)
  have loop := loop (m + 1) 0 (by omega) (by omega)
  refine x_iconst (v := 0) ho dX8_notsOpen_0 rfl ?_
  refine x_ist1 ho dX8_notsOpen_1 (by rw [hk]; decide) rfl ?_
  refine x_iconst (v := 0) ho dX8_notsOpen_2 rfl ?_
  refine x_ist2 ho dX8_notsOpen_3 (by rw [hk]; decide) rfl ?_
  exact loop
set_option maxRecDepth 100000 in
set_option maxHeartbeats 4000000 in
theorem c_X8_settle (B : BT) (μ : Nat → Nat → Int32) (δ : Nat → Int64) (s e kk v d ky na : Int32) (w t : Nat → Int32) (L : Nat) (hL6 : L ≤ 6) (W0 : List Int32) (nc0 : Nat) (c0 : Nat → Int32) (hL0 : LR w W0) (hb0 : nc0 + W0.length ≤ 96) : MV B yX8_settle cX8_settle 2 none ({ frames := 1, cells := 0, slots := 0, locals := 20 }) [.ref (aB B 0), .int (nI L)] (TG μ s e kk v d ky (nI nc0) na (nI W0.length) c0 w t) δ (fun μ' δ' => μ' = TG μ s e kk v d ky (nI (mSet L W0 nc0 c0).2.1) na (nI (mSet L W0 nc0 c0).1.length) (mSet L W0 nc0 c0).2.2 w t ∧ δ' = δ) := by
  refine MX.of2 RX8 (by decide) rfl ⟨rfl, rfl⟩ (Nat.le_of_ble_eq_true rfl) (by rfl) (fun k ho hr hk => ?_)
  show XM B k (TG μ s e kk v d ky (nI nc0) na (nI W0.length) c0 w t) δ 0 [some (.ref (aB B 0)), some (.int (nI L))] []
  have loop : ∀ (f : Nat) (W : List Int32) (nc : Nat) (c : Nat → Int32), W.length < f → LR w W → nc + W.length ≤ 96 → mSet L W0 nc0 c0 = mSet L W nc c → XM B k (TG μ s e kk v d ky (nI nc) na (nI W.length) c w t) δ 0 [some (.ref (aB B 0)), some (.int (nI L))] [] := by
    intro f
    induction f with
    | zero => intro W nc c h1; omega
    | succ f ih =>
      intro W nc c h1 hL hb e2
      refine x_ald0 ho dX8_settle_0 ?_
      refine r_X8_219 ho dX8_settle_1 ?_
      change XM B k _ _ _ _ (.int (nI W.length) :: _)
      refine x_if_le 82 ho dX8_settle_4 (by decide) (fun c4 => ?_) (fun c4 => ?_)
      · have e0 : W = [] := by
          cases W with
          | nil => rfl
          | cons x W =>
            exfalso
            exact Int32.not_lt.mpr c4 (nI_lt (a := 0) (b := (x :: W).length) (by simp) (by simp at hb ⊢; omega))
        subst e0
        refine x_vret ho hr ?_ dX8_settle_82
        first | exact ⟨_, _, rfl, rfl, by rw [e2, e1]; rfl, rfl⟩ | exact ⟨_, _, rfl, rfl, by rw [e2]; rfl, rfl⟩
      · obtain ⟨x, W, rfl⟩ : ∃ x W', W = x :: W' := by
          cases W with
          | nil => exact absurd (by decide) c4
          | cons x W => exact ⟨x, W, rfl⟩
        have hx := hL.1
        have hl : (x :: W).length = W.length + 1 := rfl
        rw [hl] at hb
        simp only [hl]
        refine x_ald0 ho dX8_settle_7 ?_
        refine r_X8_42 ho dX8_settle_8 ?_
        refine x_ald0 ho dX8_settle_11 ?_
        refine r_X8_219 ho dX8_settle_12 ?_
        change XM B k _ _ _ _ (.int (nI (W.length + 1)) :: _)
        refine x_iconst (v := 1) ho dX8_settle_15 rfl ?_
        refine x_isub ho dX8_settle_16 ?_
        rw [idm0 (by omega), Nat.add_sub_cancel]
        refine xm_ialdN (W.length) (rfl) 11 (by show W.length < 96; omega) ho (by decide) (fun _ => rfl) dX8_settle_17 ?_
        change XM B k _ _ _ _ (.int (w W.length) :: _)
        rw [hx]
        refine x_bipush (v := (-11)) ho dX8_settle_18 rfl ?_
        refine x_icmp_eq 82 ho dX8_settle_20 (by decide) (fun c20 => ?_) (fun c20 => ?_)
        · have e1 : mSet L (x :: W) nc c = (x :: W, nc, c) := if_neg (fun z => z.1 c20)
          refine x_vret ho hr ?_ dX8_settle_82
          first | exact ⟨_, _, rfl, rfl, by rw [e2, e1]; rfl, rfl⟩ | exact ⟨_, _, rfl, rfl, by rw [e2]; rfl, rfl⟩
        · refine x_ald0 ho dX8_settle_23 ?_
          refine r_X8_42 ho dX8_settle_24 ?_
          refine x_ald0 ho dX8_settle_27 ?_
          refine r_X8_219 ho dX8_settle_28 ?_
          change XM B k _ _ _ _ (.int (nI (W.length + 1)) :: _)
          refine x_iconst (v := 1) ho dX8_settle_31 rfl ?_
          refine x_isub ho dX8_settle_32 ?_
          rw [idm0 (by omega), Nat.add_sub_cancel]
          refine xm_ialdN (W.length) (rfl) 11 (by show W.length < 96; omega) ho (by decide) (fun _ => rfl) dX8_settle_33 ?_
          change XM B k _ _ _ _ (.int (w W.length) :: _)
          rw [hx]
          refine sMI1 ho cs_X8_222 (c_X8_rank B _ _ _) ⟨rfl, rfl⟩ ⟨Nat.le_of_ble_eq_true rfl, Nat.le_of_ble_eq_true rfl⟩ (Nat.le_of_ble_eq_true rfl) dX8_settle_34 (fun r34 s34 t34 p34 => ?_)
          obtain ⟨rfl, rfl, e_⟩ := p34
          subst t34
          refine x_ild1 ho dX8_settle_37 ?_
          refine x_icmp_lt 82 ho dX8_settle_38 (by decide) (fun c38 => ?_) (fun c38 => ?_)
          · have rb : rkN x ≤ 6 := by unfold rkN; (repeat' split) <;> omega
            have c38 := n_lt (by omega) (by omega) c38
            have e1 : mSet L (x :: W) nc c = (x :: W, nc, c) := if_neg (fun z => by have := z.2; omega)
            refine x_vret ho hr ?_ dX8_settle_82
            first | exact ⟨_, _, rfl, rfl, by rw [e2, e1]; rfl, rfl⟩ | exact ⟨_, _, rfl, rfl, by rw [e2]; rfl, rfl⟩
          · have rb : rkN x ≤ 6 := by unfold rkN; (repeat' split) <;> omega
            have c38 := n_nlt (by omega) (by omega) c38
            have e1 : mSet L (x :: W) nc c = mSet L W (nc + 1) (upd c nc x) := if_pos ⟨c20, c38⟩
            refine x_ald0 ho dX8_settle_41 ?_
            refine x_dup ho dX8_settle_42 rfl ?_
            refine r_X8_219 ho dX8_settle_43 ?_
            change XM B k _ _ _ _ (.int (nI (W.length + 1)) :: _)
            refine x_iconst (v := 1) ho dX8_settle_46 rfl ?_
            refine x_isub ho dX8_settle_47 ?_
            rw [idm0 (by omega), Nat.add_sub_cancel]
            refine w_X8_219 ho dX8_settle_48 ?_
            rw [TG_21]
            refine x_ald0 ho dX8_settle_51 ?_
            refine r_X8_39 ho dX8_settle_52 ?_
            refine x_ald0 ho dX8_settle_55 ?_
            refine r_X8_225 ho dX8_settle_56 ?_
            change XM B k _ _ _ _ (.int (nI nc) :: _)
            refine x_ald0 ho dX8_settle_59 ?_
            refine r_X8_42 ho dX8_settle_60 ?_
            refine x_ald0 ho dX8_settle_63 ?_
            refine r_X8_219 ho dX8_settle_64 ?_
            change XM B k _ _ _ _ (.int (nI W.length) :: _)
            refine xm_ialdN (W.length) (rfl) 11 (by show W.length < 96; omega) ho (by decide) (fun _ => rfl) dX8_settle_67 ?_
            change XM B k _ _ _ _ (.int (w W.length) :: _)
            rw [hx]
            refine xm_iastN (nc) (rfl) 10 (by show nc < 96; omega) ho (by decide) (by decide) (fun _ => rfl) dX8_settle_68 ?_
            rw [TG_r10]
            refine x_ald0 ho dX8_settle_69 ?_
            refine x_dup ho dX8_settle_70 rfl ?_
            refine r_X8_225 ho dX8_settle_71 ?_
            change XM B k _ _ _ _ (.int (nI nc) :: _)
            refine x_iconst (v := 1) ho dX8_settle_74 rfl ?_
            refine x_iadd ho dX8_settle_75 ?_
            rw [nI_1 nc]
            refine w_X8_225 ho dX8_settle_76 ?_
            rw [TG_18]
            refine x_goto 0 ho dX8_settle_79 (by decide) ?_
            exact ih W (nc + 1) (upd c nc x) (by have : (x :: W).length = W.length + 1 := rfl; omega) hL.2 (by omega) (e2.trans e1)
  exact loop (W0.length + 1) W0 nc0 c0 (by omega) hL0 hb0 rfl
