/-! the model's words -/
def gF (f : Nat → Int32) (s e k v d : Int32) : Nat → Int32 := fun i => if i = 9 then e else if i = 10 then s else if i = 11 then k else if i = 12 then v else if i = 13 then d else f i
/-- the model, but for its word: from, next, token, value, ended -/
def SG (μ : ST) (s e k v d : Int32) : ST := up1 μ 0 (gF (μ 0) s e k v d)
section SG41
variable {μ : ST} {s e k v d x : Int32}
theorem SG_id : SG μ (μ 0 10) (μ 0 9) (μ 0 11) (μ 0 12) (μ 0 13) = μ := by
  unfold SG
  rw [show gF (μ 0) (μ 0 10) (μ 0 9) (μ 0 11) (μ 0 12) (μ 0 13) = μ 0 from ?_, up1_self]
  funext i
  unfold gF
  by_cases h1 : i = 9
  · rw [if_pos h1, h1]
  · rw [if_neg h1]
    by_cases h2 : i = 10
    · rw [if_pos h2, h2]
    · rw [if_neg h2]
      by_cases h3 : i = 11
      · rw [if_pos h3, h3]
      · rw [if_neg h3]
        by_cases h4 : i = 12
        · rw [if_pos h4, h4]
        · rw [if_neg h4]
          by_cases h5 : i = 13
          · rw [if_pos h5, h5]
          · rw [if_neg h5]
theorem SG_9 : up2 (SG μ s e k v d) 0 9 x = SG μ s x k v d := by
  unfold SG
  rw [up2_up1]
  congr 1
  funext i
  unfold upd gF
  by_cases h1 : i = 9
  · rw [if_pos h1, if_pos h1]
  · rw [if_neg h1, if_neg h1, if_neg h1]
theorem SG_10 : up2 (SG μ s e k v d) 0 10 x = SG μ x e k v d := by
  unfold SG
  rw [up2_up1]
  congr 1
  funext i
  unfold upd gF
  by_cases h1 : i = 10
  · subst h1; rfl
  · rw [if_neg h1, if_neg h1, if_neg h1]
theorem SG_11 : up2 (SG μ s e k v d) 0 11 x = SG μ s e x v d := by
  unfold SG
  rw [up2_up1]
  congr 1
  funext i
  unfold upd gF
  by_cases h1 : i = 11
  · subst h1; rfl
  · rw [if_neg h1, if_neg h1, if_neg h1]
theorem SG_12 : up2 (SG μ s e k v d) 0 12 x = SG μ s e k x d := by
  unfold SG
  rw [up2_up1]
  congr 1
  funext i
  unfold upd gF
  by_cases h1 : i = 12
  · subst h1; rfl
  · rw [if_neg h1, if_neg h1, if_neg h1]
theorem SG_13 : up2 (SG μ s e k v d) 0 13 x = SG μ s e k v x := by
  unfold SG
  rw [up2_up1]
  congr 1
  funext i
  unfold upd gF
  by_cases h1 : i = 13
  · subst h1; rfl
  · rw [if_neg h1, if_neg h1, if_neg h1]
end SG41
theorem sB1 {x : Int32} : sortB x = 1 ↔ ¬ x < 97 ∧ ¬ 122 < x := by
  unfold sortB
  by_cases h : ¬ x < 97 ∧ ¬ 122 < x
  · rw [if_pos h]
    exact ⟨fun _ => h, fun _ => rfl⟩
  · rw [if_neg h]
    refine ⟨fun q => ?_, fun q => absurd q h⟩
    split at q
    · exact absurd q (by decide)
    · exact absurd q (by decide)
theorem sB2 {x : Int32} : sortB x = 2 ↔ ¬ x < 48 ∧ ¬ 57 < x := by
  unfold sortB
  by_cases h : ¬ x < 97 ∧ ¬ 122 < x
  · rw [if_pos h]
    refine ⟨fun q => absurd q (by decide), fun q => ?_⟩
    exfalso
    have h1 := h.1
    have h2 := q.2
    rw [Int32.lt_iff_toInt_lt, show (97 : Int32).toInt = 97 from rfl] at h1
    rw [Int32.lt_iff_toInt_lt, show (57 : Int32).toInt = 57 from rfl] at h2
    omega
  · rw [if_neg h]
    by_cases h2 : ¬ x < 48 ∧ ¬ 57 < x
    · rw [if_pos h2]
      exact ⟨fun _ => h2, fun _ => rfl⟩
    · rw [if_neg h2]
      exact ⟨fun q => absurd q (by decide), fun q => absurd q h2⟩
theorem sB3 {x : Int32} (h1 : ¬ sortB x = 1) (h2 : ¬ sortB x = 2) : sortB x = 3 := by
  have h1' := fun q => h1 (sB1.mpr q)
  have h2' := fun q => h2 (sB2.mpr q)
  unfold sortB
  rw [if_neg h1', if_neg h2']
/-- whether a word that stands at s would be glued -/
def glued (b : Nat → Int32) (s : Nat) : Prop := 0 < s ∧ ¬ sortB (b (s - 1)) = 3
/-- where the last word ended, as seen from p -/
def EI (b : Nat → Int32) (n p : Nat) (e : Int32) : Prop := (e = nI p ∧ glued b p) ∨ ((∀ s, p ≤ s → s ≤ n → ¬ nI s = e) ∧ ¬ glued b p)
theorem EI_gl {b : Nat → Int32} {n p s : Nat} {e : Int32} (h : EI b n p e) (hp : p ≤ s) (hs : s ≤ n) (hn : n ≤ 96) (h32 : p < s → b (s - 1) = 32) : nI s = e ↔ glued b s := by
  by_cases q : p = s
  · subst q
    rcases h with ⟨h1, h2⟩ | ⟨h1, h2⟩
    · exact ⟨fun _ => h2, fun _ => h1.symm⟩
    · exact ⟨fun z => absurd z (h1 p (Nat.le_refl _) hs), fun z => absurd z h2⟩
  · have h3 := h32 (by omega)
    have ng : ¬ glued b s := fun z => z.2 (by rw [h3]; decide)
    rcases h with ⟨h1, h2⟩ | ⟨h1, h2⟩
    · refine ⟨fun z => ?_, fun z => absurd z ng⟩
      have := n_eq (by omega) (by omega) (z.trans h1)
      omega
    · exact ⟨fun z => absurd z (h1 s hp hs), fun z => absurd z ng⟩
theorem skip_e {b : Nat → Int32} {n i : Nat} (h : i < n) (h32 : b i = 32) : skipT b n (n - i) i = skipT b n (n - (i + 1)) (i + 1) := by
  rw [show n - i = n - (i + 1) + 1 by omega]
  exact if_pos ⟨h, h32⟩
theorem skip_x {b : Nat → Int32} {n i : Nat} (h : ¬ (i < n ∧ b i = 32)) : skipT b n (n - i) i = i := by
  cases hf : n - i with
  | zero => rfl
  | succ f => exact if_neg h
theorem ext_e {b : Nat → Int32} {n i : Nat} {s : Int32} (h : i < n) (hs : sortB (b i) = s) : extT b n s (n - i) i = extT b n s (n - (i + 1)) (i + 1) := by
  rw [show n - i = n - (i + 1) + 1 by omega]
  exact if_pos ⟨h, hs⟩
theorem ext_x {b : Nat → Int32} {n i : Nat} {s : Int32} (h : ¬ (i < n ∧ sortB (b i) = s)) : extT b n s (n - i) i = i := by
  cases hf : n - i with
  | zero => rfl
  | succ f => exact if_neg h
theorem ext_last {b : Nat → Int32} {n : Nat} {s : Int32} : ∀ (f i : Nat), 0 < i → sortB (b (i - 1)) = s → sortB (b (extT b n s f i - 1)) = s
  | 0, i, _, h => h
  | f + 1, i, h0, h => by
    unfold extT
    split
    next hc => exact ext_last f (i + 1) (by omega) (by rw [Nat.add_sub_cancel]; exact hc.2)
    next => exact h
/-- what the word's value is -/
def VV (b : Nat → Int32) (n p : Nat) (v : Int32) : Prop := (tK b n p = 1 ∨ tK b n p = 3 → v = b (tS b n p)) ∧ (tK b n p = 2 → v = numF b (tS b n p) (tE b n p - tS b n p))
set_option maxRecDepth 100000 in
set_option maxHeartbeats 4000000 in
theorem c_X8_isLetter (B : BT) (μ : Nat → Nat → Int32) (δ : Nat → Int64) (n i : Nat) (hn : μ 0 8 = nI n) (hn96 : n ≤ 96) (hi : i ≤ n) : MI B yX8_isLetter cX8_isLetter 2 (some .boolean) ({ frames := 0, cells := 0, slots := 0, locals := 0 }) [.ref (aB B 0), .int (nI i)] μ δ (fun r μ' δ' => r = bI (i < n ∧ sortB (μ 7 i) = 1) ∧ μ' = μ ∧ δ' = δ) := by
  refine MX.of2 RX8 (by decide) rfl ⟨rfl, rfl⟩ (Nat.le_of_ble_eq_true rfl) (by rfl) (fun k ho hr hk => ?_)
  show XM B k μ δ 0 [some (.ref (aB B 0)), some (.int (nI i))] []
  refine x_ild1 ho dX8_isLetter_0 ?_
  refine x_ald0 ho dX8_isLetter_1 ?_
  refine r_X8_188 ho dX8_isLetter_2 ?_
  rw [hn]
  refine x_icmp_ge 34 ho dX8_isLetter_5 (by decide) (fun c5 => ?_) (fun c5 => ?_)
  · have c5 := n_le (by omega) (by omega) c5
    refine x_iconst (v := 0) ho dX8_isLetter_34 rfl ?_
    refine x_zret ho hr (by decide) ?_ dX8_isLetter_35
    first | exact ⟨_, _, _, rfl, rfl, (bI_t ⟨c5, sB1.mpr ⟨c16, Int32.not_lt.mpr (Int32.not_lt.mp c27)⟩⟩).symm, rfl, rfl⟩ | exact ⟨_, _, _, rfl, rfl, (bI_f (fun z => absurd z.1 (by omega))).symm, rfl, rfl⟩ | exact ⟨_, _, _, rfl, rfl, (bI_f (fun z => (sB1.mp z.2).1 c16)).symm, rfl, rfl⟩ | exact ⟨_, _, _, rfl, rfl, (bI_f (fun z => (sB1.mp z.2).2 c27)).symm, rfl, rfl⟩
  · have c5 := n_nle (by omega) (by omega) c5
    refine x_ald0 ho dX8_isLetter_8 ?_
    refine r_X8_29 ho dX8_isLetter_9 ?_
    refine x_ild1 ho dX8_isLetter_12 ?_
    refine xm_ialdN (i) (rfl) 7 (by show i < 96; omega) ho (by decide) (fun _ => rfl) dX8_isLetter_13 ?_
    refine x_bipush (v := 97) ho dX8_isLetter_14 rfl ?_
    refine x_icmp_lt 34 ho dX8_isLetter_16 (by decide) (fun c16 => ?_) (fun c16 => ?_)
    · refine x_iconst (v := 0) ho dX8_isLetter_34 rfl ?_
      refine x_zret ho hr (by decide) ?_ dX8_isLetter_35
      first | exact ⟨_, _, _, rfl, rfl, (bI_t ⟨c5, sB1.mpr ⟨c16, Int32.not_lt.mpr (Int32.not_lt.mp c27)⟩⟩).symm, rfl, rfl⟩ | exact ⟨_, _, _, rfl, rfl, (bI_f (fun z => absurd z.1 (by omega))).symm, rfl, rfl⟩ | exact ⟨_, _, _, rfl, rfl, (bI_f (fun z => (sB1.mp z.2).1 c16)).symm, rfl, rfl⟩ | exact ⟨_, _, _, rfl, rfl, (bI_f (fun z => (sB1.mp z.2).2 c27)).symm, rfl, rfl⟩
    · refine x_ald0 ho dX8_isLetter_19 ?_
      refine r_X8_29 ho dX8_isLetter_20 ?_
      refine x_ild1 ho dX8_isLetter_23 ?_
      refine xm_ialdN (i) (rfl) 7 (by show i < 96; omega) ho (by decide) (fun _ => rfl) dX8_isLetter_24 ?_
      refine x_bipush (v := 122) ho dX8_isLetter_25 rfl ?_
      refine x_icmp_gt 34 ho dX8_isLetter_27 (by decide) (fun c27 => ?_) (fun c27 => ?_)
      · refine x_iconst (v := 0) ho dX8_isLetter_34 rfl ?_
        refine x_zret ho hr (by decide) ?_ dX8_isLetter_35
        first | exact ⟨_, _, _, rfl, rfl, (bI_t ⟨c5, sB1.mpr ⟨c16, Int32.not_lt.mpr (Int32.not_lt.mp c27)⟩⟩).symm, rfl, rfl⟩ | exact ⟨_, _, _, rfl, rfl, (bI_f (fun z => absurd z.1 (by omega))).symm, rfl, rfl⟩ | exact ⟨_, _, _, rfl, rfl, (bI_f (fun z => (sB1.mp z.2).1 c16)).symm, rfl, rfl⟩ | exact ⟨_, _, _, rfl, rfl, (bI_f (fun z => (sB1.mp z.2).2 c27)).symm, rfl, rfl⟩
      · refine x_iconst (v := 1) ho dX8_isLetter_30 rfl ?_
        refine x_goto 35 ho dX8_isLetter_31 (by decide) ?_
        refine x_zret ho hr (by decide) ?_ dX8_isLetter_35
        first | exact ⟨_, _, _, rfl, rfl, (bI_t ⟨c5, sB1.mpr ⟨c16, Int32.not_lt.mpr (Int32.not_lt.mp c27)⟩⟩).symm, rfl, rfl⟩ | exact ⟨_, _, _, rfl, rfl, (bI_f (fun z => absurd z.1 (by omega))).symm, rfl, rfl⟩ | exact ⟨_, _, _, rfl, rfl, (bI_f (fun z => (sB1.mp z.2).1 c16)).symm, rfl, rfl⟩ | exact ⟨_, _, _, rfl, rfl, (bI_f (fun z => (sB1.mp z.2).2 c27)).symm, rfl, rfl⟩
set_option maxRecDepth 100000 in
set_option maxHeartbeats 4000000 in
theorem c_X8_isFigure (B : BT) (μ : Nat → Nat → Int32) (δ : Nat → Int64) (n i : Nat) (hn : μ 0 8 = nI n) (hn96 : n ≤ 96) (hi : i ≤ n) : MI B yX8_isFigure cX8_isFigure 2 (some .boolean) ({ frames := 0, cells := 0, slots := 0, locals := 0 }) [.ref (aB B 0), .int (nI i)] μ δ (fun r μ' δ' => r = bI (i < n ∧ sortB (μ 7 i) = 2) ∧ μ' = μ ∧ δ' = δ) := by
  refine MX.of2 RX8 (by decide) rfl ⟨rfl, rfl⟩ (Nat.le_of_ble_eq_true rfl) (by rfl) (fun k ho hr hk => ?_)
  show XM B k μ δ 0 [some (.ref (aB B 0)), some (.int (nI i))] []
  refine x_ild1 ho dX8_isFigure_0 ?_
  refine x_ald0 ho dX8_isFigure_1 ?_
  refine r_X8_188 ho dX8_isFigure_2 ?_
  rw [hn]
  refine x_icmp_ge 34 ho dX8_isFigure_5 (by decide) (fun c5 => ?_) (fun c5 => ?_)
  · have c5 := n_le (by omega) (by omega) c5
    refine x_iconst (v := 0) ho dX8_isFigure_34 rfl ?_
    refine x_zret ho hr (by decide) ?_ dX8_isFigure_35
    first | exact ⟨_, _, _, rfl, rfl, (bI_t ⟨c5, sB2.mpr ⟨c16, Int32.not_lt.mpr (Int32.not_lt.mp c27)⟩⟩).symm, rfl, rfl⟩ | exact ⟨_, _, _, rfl, rfl, (bI_f (fun z => absurd z.1 (by omega))).symm, rfl, rfl⟩ | exact ⟨_, _, _, rfl, rfl, (bI_f (fun z => (sB2.mp z.2).1 c16)).symm, rfl, rfl⟩ | exact ⟨_, _, _, rfl, rfl, (bI_f (fun z => (sB2.mp z.2).2 c27)).symm, rfl, rfl⟩
  · have c5 := n_nle (by omega) (by omega) c5
    refine x_ald0 ho dX8_isFigure_8 ?_
    refine r_X8_29 ho dX8_isFigure_9 ?_
    refine x_ild1 ho dX8_isFigure_12 ?_
    refine xm_ialdN (i) (rfl) 7 (by show i < 96; omega) ho (by decide) (fun _ => rfl) dX8_isFigure_13 ?_
    refine x_bipush (v := 48) ho dX8_isFigure_14 rfl ?_
    refine x_icmp_lt 34 ho dX8_isFigure_16 (by decide) (fun c16 => ?_) (fun c16 => ?_)
    · refine x_iconst (v := 0) ho dX8_isFigure_34 rfl ?_
      refine x_zret ho hr (by decide) ?_ dX8_isFigure_35
      first | exact ⟨_, _, _, rfl, rfl, (bI_t ⟨c5, sB2.mpr ⟨c16, Int32.not_lt.mpr (Int32.not_lt.mp c27)⟩⟩).symm, rfl, rfl⟩ | exact ⟨_, _, _, rfl, rfl, (bI_f (fun z => absurd z.1 (by omega))).symm, rfl, rfl⟩ | exact ⟨_, _, _, rfl, rfl, (bI_f (fun z => (sB2.mp z.2).1 c16)).symm, rfl, rfl⟩ | exact ⟨_, _, _, rfl, rfl, (bI_f (fun z => (sB2.mp z.2).2 c27)).symm, rfl, rfl⟩
    · refine x_ald0 ho dX8_isFigure_19 ?_
      refine r_X8_29 ho dX8_isFigure_20 ?_
      refine x_ild1 ho dX8_isFigure_23 ?_
      refine xm_ialdN (i) (rfl) 7 (by show i < 96; omega) ho (by decide) (fun _ => rfl) dX8_isFigure_24 ?_
      refine x_bipush (v := 57) ho dX8_isFigure_25 rfl ?_
      refine x_icmp_gt 34 ho dX8_isFigure_27 (by decide) (fun c27 => ?_) (fun c27 => ?_)
      · refine x_iconst (v := 0) ho dX8_isFigure_34 rfl ?_
        refine x_zret ho hr (by decide) ?_ dX8_isFigure_35
        first | exact ⟨_, _, _, rfl, rfl, (bI_t ⟨c5, sB2.mpr ⟨c16, Int32.not_lt.mpr (Int32.not_lt.mp c27)⟩⟩).symm, rfl, rfl⟩ | exact ⟨_, _, _, rfl, rfl, (bI_f (fun z => absurd z.1 (by omega))).symm, rfl, rfl⟩ | exact ⟨_, _, _, rfl, rfl, (bI_f (fun z => (sB2.mp z.2).1 c16)).symm, rfl, rfl⟩ | exact ⟨_, _, _, rfl, rfl, (bI_f (fun z => (sB2.mp z.2).2 c27)).symm, rfl, rfl⟩
      · refine x_iconst (v := 1) ho dX8_isFigure_30 rfl ?_
        refine x_goto 35 ho dX8_isFigure_31 (by decide) ?_
        refine x_zret ho hr (by decide) ?_ dX8_isFigure_35
        first | exact ⟨_, _, _, rfl, rfl, (bI_t ⟨c5, sB2.mpr ⟨c16, Int32.not_lt.mpr (Int32.not_lt.mp c27)⟩⟩).symm, rfl, rfl⟩ | exact ⟨_, _, _, rfl, rfl, (bI_f (fun z => absurd z.1 (by omega))).symm, rfl, rfl⟩ | exact ⟨_, _, _, rfl, rfl, (bI_f (fun z => (sB2.mp z.2).1 c16)).symm, rfl, rfl⟩ | exact ⟨_, _, _, rfl, rfl, (bI_f (fun z => (sB2.mp z.2).2 c27)).symm, rfl, rfl⟩
section G41
variable {b : Nat → Int32} {n p : Nat}
theorem tK_0 (h : n ≤ tS b n p) : tK b n p = 0 := if_pos h
theorem tK_3 (h : ¬ n ≤ tS b n p) (h3 : sortB (b (tS b n p)) = 3) : tK b n p = 3 := (if_neg h).trans (if_pos h3)
theorem tK_4 (h : ¬ n ≤ tS b n p) (h3 : ¬ sortB (b (tS b n p)) = 3) (hg : glued b (tS b n p) ∨ (sortB (b (tS b n p)) = 2 ∧ 4 < tE b n p - tS b n p)) : tK b n p = 4 := (if_neg h).trans ((if_neg h3).trans (if_pos hg))
theorem tK_s (h : ¬ n ≤ tS b n p) (h3 : ¬ sortB (b (tS b n p)) = 3) (hg : ¬ (glued b (tS b n p) ∨ (sortB (b (tS b n p)) = 2 ∧ 4 < tE b n p - tS b n p))) : tK b n p = sortB (b (tS b n p)) := (if_neg h).trans ((if_neg h3).trans (if_neg hg))
theorem tE_0 (h : n ≤ tS b n p) : tE b n p = tS b n p := if_pos h
theorem tE_3 (h : ¬ n ≤ tS b n p) (h3 : sortB (b (tS b n p)) = 3) : tE b n p = tS b n p + 1 := (if_neg h).trans (if_pos h3)
theorem tE_s (h : ¬ n ≤ tS b n p) (h3 : ¬ sortB (b (tS b n p)) = 3) : tE b n p = extT b n (sortB (b (tS b n p))) (n - tS b n p) (tS b n p) := ((if_neg h).trans (if_neg h3)).trans (ext_e (by omega) rfl).symm
theorem EI_w (hp : p ≤ n) (h : ¬ n ≤ tS b n p) (h3 : ¬ sortB (b (tS b n p)) = 3) : EI b n (tE b n p) (nI (tE b n p)) := by
  have h1 := tS_b (b := b) hp
  have h2 := tE_b (b := b) hp
  refine Or.inl ⟨rfl, by omega, ?_⟩
  have e : tE b n p = extT b n (sortB (b (tS b n p))) (n - (tS b n p + 1)) (tS b n p + 1) := (if_neg h).trans (if_neg h3)
  rw [e, ext_last _ _ (by omega) (by rw [Nat.add_sub_cancel])]
  exact h3
theorem EI_s (hp : p ≤ n) (hn : n ≤ 96) (h : ¬ n ≤ tS b n p) (h3 : sortB (b (tS b n p)) = 3) {e : Int32} (he : EI b n p e) : EI b n (tE b n p) e := by
  have h1 := tS_b (b := b) hp
  rw [tE_3 h h3]
  refine Or.inr ⟨fun s hs hsn z => ?_, fun z => z.2 (by rw [Nat.add_sub_cancel]; exact h3)⟩
  rcases he with ⟨q, -⟩ | ⟨q, -⟩
  · have := n_eq (by omega) (by omega) (z.trans q)
    omega
  · exact q s (by omega) hsn z
end G41
theorem num_s {b : Nat → Int32} {s k : Nat} (h : k < 4) : (10 : Int32) * numF b s (min k 4) + b (s + k) - 48 = numF b s (min (k + 1) 4) := by
  rw [Nat.min_eq_left (by omega), Nat.min_eq_left (by omega), Int32.mul_comm]
  rfl
theorem num_t {b : Nat → Int32} {s k : Nat} (h : ¬ k < 4) : numF b s (min k 4) = numF b s (min (k + 1) 4) := by rw [Nat.min_eq_right (by omega), Nat.min_eq_right (by omega)]
set_option maxRecDepth 100000 in
set_option maxHeartbeats 4000000 in
theorem c_X8_go (B : BT) (μ : Nat → Nat → Int32) (δ : Nat → Int64) (n p : Nat) (hn : μ 0 8 = nI n) (hn96 : n ≤ 96) (hp : p ≤ n) (s0 k0 v0 d0 : Int32) (hEI : EI (μ 7) n p d0) : MV B yX8_go cX8_go 2 none ({ frames := 1, cells := 0, slots := 0, locals := 21 }) [.ref (aB B 0)] (SG μ s0 (nI p) k0 v0 d0) δ (fun μ' δ' => ∃ v d, μ' = SG μ (nI (tS (μ 7) n p)) (nI (tE (μ 7) n p)) (tK (μ 7) n p) v d ∧ VV (μ 7) n p v ∧ (¬ (tK (μ 7) n p) = 0 → EI (μ 7) n (tE (μ 7) n p) d) ∧ δ' = δ) := by
  refine MX.of2 RX8 (by decide) rfl ⟨rfl, rfl⟩ (Nat.le_of_ble_eq_true rfl) (by rfl) (fun k ho hr hk => ?_)
  show XM B k (SG μ s0 (nI p) k0 v0 d0) δ 0 [some (.ref (aB B 0)), none] []
  have K38 : ∀ s0 k0 v0 s, s = tS (μ 7) n p → (∀ j, p ≤ j → j < s → μ 7 j = 32) → XM B k (SG μ s0 (nI s) k0 v0 d0) δ 38 [some (.ref (aB B 0)), none] [] := by
    intro s0 k0 v0 s es hall
    have hps := tS_b (b := μ 7) hp
    have h32 : p < s → μ 7 (s - 1) = 32 := fun q => hall (s - 1) (by omega) (by omega)
    have K62 : ∀ cl : Int32, (cl = 1 ∧ nI s = d0) ∨ (cl = 0 ∧ ¬ nI s = d0) → XM B k (SG μ (nI s) (nI s) k0 v0 d0) δ 62 [some (.ref (aB B 0)), none] [.int cl] := by
      intro cl hcl
      refine x_ist1 ho dX8_go_62 (by rw [hk]; decide) rfl ?_
      refine x_ald0 ho dX8_go_63 ?_
      refine r_X8_195 ho dX8_go_64 ?_
      change XM B k _ _ _ _ (.int (nI s) :: _)
      refine x_ald0 ho dX8_go_67 ?_
      refine r_X8_188 ho dX8_go_68 ?_
      change XM B k _ _ _ _ (.int (μ 0 8) :: _)
      rw [hn]
      refine x_icmp_ne 82 ho dX8_go_71 (by decide) (fun c71 => ?_) (fun c71 => ?_)
      · have c71 : ¬ n ≤ tS (μ 7) n p := fun z => c71 (by rw [es]; congr 1; omega)
        refine x_ald0 ho dX8_go_82 ?_
        refine x_ald0 ho dX8_go_83 ?_
        refine r_X8_195 ho dX8_go_84 ?_
        change XM B k _ _ _ _ (.int (nI s) :: _)
        refine vMI1 ho cs_X8_204 (c_X8_isLetter B _ _ n (s) hn hn96 (by omega)) rfl ⟨rfl, rfl⟩ ⟨Nat.le_of_ble_eq_true rfl, Nat.le_of_ble_eq_true rfl⟩ (Nat.le_of_ble_eq_true rfl) dX8_go_87 (fun r87 s87 t87 p87 => ?_)
        obtain ⟨rfl, rfl, e_⟩ := p87
        subst t87
        refine x_if_eq 154 ho dX8_go_90 (by decide) (fun c90 => ?_) (fun c90 => ?_)
        · have c90 := bI_0.mp c90
          have c90 : ¬ sortB (μ 7 s) = 1 := fun z => c90 ⟨by omega, z⟩
          have hsn : s < n := by omega
          refine x_ald0 ho dX8_go_154 ?_
          refine x_ald0 ho dX8_go_155 ?_
          refine r_X8_195 ho dX8_go_156 ?_
          change XM B k _ _ _ _ (.int (nI s) :: _)
          refine vMI1 ho cs_X8_210 (c_X8_isFigure B _ _ n (s) hn hn96 (by omega)) rfl ⟨rfl, rfl⟩ ⟨Nat.le_of_ble_eq_true rfl, Nat.le_of_ble_eq_true rfl⟩ (Nat.le_of_ble_eq_true rfl) dX8_go_159 (fun r159 s159 t159 p159 => ?_)
          obtain ⟨rfl, rfl, e_⟩ := p159
          subst t159
          refine x_if_eq 275 ho dX8_go_162 (by decide) (fun c162 => ?_) (fun c162 => ?_)
          · have c162 := bI_0.mp c162
            have c162 : ¬ sortB (μ 7 s) = 2 := fun z => c162 ⟨hsn, z⟩
            have h3 : sortB (μ 7 (tS (μ 7) n p)) = 3 := by rw [← es]; exact sB3 c90 c162
            refine x_ald0 ho dX8_go_275 ?_
            refine x_iconst (v := 3) ho dX8_go_276 rfl ?_
            refine w_X8_201 ho dX8_go_277 ?_
            rw [SG_11]
            refine x_ald0 ho dX8_go_280 ?_
            refine x_ald0 ho dX8_go_281 ?_
            refine r_X8_29 ho dX8_go_282 ?_
            refine x_ald0 ho dX8_go_285 ?_
            refine r_X8_195 ho dX8_go_286 ?_
            change XM B k _ _ _ _ (.int (nI s) :: _)
            refine xm_ialdN (s) (rfl) 7 (by show s < 96; omega) ho (by decide) (fun _ => rfl) dX8_go_289 ?_
            change XM B k _ _ _ _ (.int (μ 7 s) :: _)
            refine w_X8_207 ho dX8_go_290 ?_
            rw [SG_12]
            refine x_ald0 ho dX8_go_293 ?_
            refine x_dup ho dX8_go_294 rfl ?_
            refine r_X8_192 ho dX8_go_295 ?_
            change XM B k _ _ _ _ (.int (nI s) :: _)
            refine x_iconst (v := 1) ho dX8_go_298 rfl ?_
            refine x_iadd ho dX8_go_299 ?_
            rw [nI_1 s]
            refine w_X8_192 ho dX8_go_300 ?_
            rw [SG_9]
            refine x_vret ho hr ?_ dX8_go_303
            first | (exact ⟨_, _, rfl, rfl, _, _, by rw [tK_0 c71, tE_0 c71, ← es], ⟨fun q => absurd q (by rw [tK_0 c71]; decide), fun q => absurd q (by rw [tK_0 c71]; decide)⟩, fun q => absurd (tK_0 c71) q, rfl⟩) | (exact ⟨_, _, rfl, rfl, _, _, by rw [tK_3 c71 h3, tE_3 c71 h3, ← es], ⟨fun _ => by rw [← es], fun q => absurd q (by rw [tK_3 c71 h3]; decide)⟩, fun _ => EI_s hp hn96 c71 h3 hEI, rfl⟩)
          · have c162 := bI_n.mp c162
            have c162 : sortB (μ 7 s) = 2 := c162.2
            have e1 : sortB (μ 7 (tS (μ 7) n p)) = 2 := by rw [← es]; exact c162
            have h3 : ¬ sortB (μ 7 (tS (μ 7) n p)) = 3 := by rw [← es, c162]; decide
            refine x_ald0 ho dX8_go_165 ?_
            refine x_iconst (v := 0) ho dX8_go_166 rfl ?_
            refine w_X8_207 ho dX8_go_167 ?_
            rw [SG_12]
            have figs : ∀ (f i : Nat), n < f + i → s ≤ i → i ≤ n → extT (μ 7) n 2 (n - i) i = extT (μ 7) n 2 (n - s) s → XM B k (SG μ (nI s) (nI i) k0 (numF (μ 7) s (min (i - s) 4)) d0) δ 170 [some (.ref (aB B 0)), some (.int cl)] [] := by
              intro f
              induction f with
              | zero => intro i h1 h2; omega
              | succ f ih =>
                intro i h1 h2 h2b hex
                refine x_ald0 ho dX8_go_170 ?_
                refine x_ald0 ho dX8_go_171 ?_
                refine r_X8_192 ho dX8_go_172 ?_
                change XM B k _ _ _ _ (.int (nI i) :: _)
                refine vMI1 ho cs_X8_210 (c_X8_isFigure B _ _ n (i) hn hn96 (by omega)) rfl ⟨rfl, rfl⟩ ⟨Nat.le_of_ble_eq_true rfl, Nat.le_of_ble_eq_true rfl⟩ (Nat.le_of_ble_eq_true rfl) dX8_go_175 (fun r175 s175 t175 p175 => ?_)
                obtain ⟨rfl, rfl, e_⟩ := p175
                subst t175
                refine x_if_eq 238 ho dX8_go_178 (by decide) (fun c178 => ?_) (fun c178 => ?_)
                · have c178 := bI_0.mp c178
                  have c178 : ¬ (i < n ∧ sortB (μ 7 i) = 2) := c178
                  have eE : tE (μ 7) n p = i := by rw [tE_s c71 h3, ← es, c162, ← hex]; exact ext_x c178
                  have hgl := (EI_gl hEI (by omega) (by omega) hn96 h32).symm
                  refine x_ald0 ho dX8_go_238 ?_
                  refine x_ild1 ho dX8_go_239 ?_
                  refine x_if_ne 256 ho dX8_go_240 (by decide) (fun c240 => ?_) (fun c240 => ?_)
                  · have yg : glued (μ 7) (tS (μ 7) n p) := hcl.elim (fun y => by rw [← es]; exact hgl.mpr y.2) (fun y => absurd y.1 c240)
                    have hK : tK (μ 7) n p = 4 := by first | exact tK_4 c71 h3 (Or.inl yg) | exact tK_4 c71 h3 (Or.inr ⟨e1, by rw [eE, ← es]; exact c253⟩)
                    refine x_iconst (v := 4) ho dX8_go_256 rfl ?_
                    refine x_goto 261 ho dX8_go_257 (by decide) ?_
                    refine w_X8_201 ho dX8_go_261 ?_
                    rw [SG_11]
                    refine x_ald0 ho dX8_go_264 ?_
                    refine x_ald0 ho dX8_go_265 ?_
                    refine r_X8_192 ho dX8_go_266 ?_
                    change XM B k _ _ _ _ (.int (nI i) :: _)
                    refine w_X8_198 ho dX8_go_269 ?_
                    rw [SG_13]
                    refine x_goto 303 ho dX8_go_272 (by decide) ?_
                    refine x_vret ho hr ?_ dX8_go_303
                    first | exact ⟨_, _, rfl, rfl, _, _, by rw [hK, eE, ← es], ⟨fun q => by rw [hK] at q; exact absurd q (by decide), fun q => absurd (hK.symm.trans q) (by decide)⟩, fun _ => by have z := EI_w hp c71 h3; rw [eE] at z ⊢; exact z, rfl⟩ | exact ⟨_, _, rfl, rfl, _, _, by rw [hK, eE, ← es], ⟨fun q => by rw [hK] at q; exact absurd q (by decide), fun _ => by rw [eE, ← es, Nat.min_eq_left c253]⟩, fun _ => by have z := EI_w hp c71 h3; rw [eE] at z ⊢; exact z, rfl⟩
                  · have ng : ¬ glued (μ 7) (tS (μ 7) n p) := fun z => hcl.elim (fun y => absurd (y.1.symm.trans c240) (by decide)) (fun y => y.2 (hgl.mp (by rw [es]; exact z)))
                    refine x_ald0 ho dX8_go_243 ?_
                    refine r_X8_192 ho dX8_go_244 ?_
                    change XM B k _ _ _ _ (.int (nI i) :: _)
                    refine x_ald0 ho dX8_go_247 ?_
                    refine r_X8_195 ho dX8_go_248 ?_
                    change XM B k _ _ _ _ (.int (nI s) :: _)
                    refine x_isub ho dX8_go_251 ?_
                    rw [sub_nI h2]
                    refine x_iconst (v := 4) ho dX8_go_252 rfl ?_
                    refine x_icmp_le 260 ho dX8_go_253 (by decide) (fun c253 => ?_) (fun c253 => ?_)
                    · have c253 := n_le (b := 4) (by omega) (by decide) c253
                      have hK : tK (μ 7) n p = 2 := (tK_s c71 h3 (fun z => z.elim ng (fun y => by have := y.2; omega))).trans e1
                      refine x_iconst (v := 2) ho dX8_go_260 rfl ?_
                      refine w_X8_201 ho dX8_go_261 ?_
                      rw [SG_11]
                      refine x_ald0 ho dX8_go_264 ?_
                      refine x_ald0 ho dX8_go_265 ?_
                      refine r_X8_192 ho dX8_go_266 ?_
                      change XM B k _ _ _ _ (.int (nI i) :: _)
                      refine w_X8_198 ho dX8_go_269 ?_
                      rw [SG_13]
                      refine x_goto 303 ho dX8_go_272 (by decide) ?_
                      refine x_vret ho hr ?_ dX8_go_303
                      first | exact ⟨_, _, rfl, rfl, _, _, by rw [hK, eE, ← es], ⟨fun q => by rw [hK] at q; exact absurd q (by decide), fun q => absurd (hK.symm.trans q) (by decide)⟩, fun _ => by have z := EI_w hp c71 h3; rw [eE] at z ⊢; exact z, rfl⟩ | exact ⟨_, _, rfl, rfl, _, _, by rw [hK, eE, ← es], ⟨fun q => by rw [hK] at q; exact absurd q (by decide), fun _ => by rw [eE, ← es, Nat.min_eq_left c253]⟩, fun _ => by have z := EI_w hp c71 h3; rw [eE] at z ⊢; exact z, rfl⟩
                    · have c253 := n_nle (b := 4) (by omega) (by decide) c253
                      have hK : tK (μ 7) n p = 4 := by first | exact tK_4 c71 h3 (Or.inl yg) | exact tK_4 c71 h3 (Or.inr ⟨e1, by rw [eE, ← es]; exact c253⟩)
                      refine x_iconst (v := 4) ho dX8_go_256 rfl ?_
                      refine x_goto 261 ho dX8_go_257 (by decide) ?_
                      refine w_X8_201 ho dX8_go_261 ?_
                      rw [SG_11]
                      refine x_ald0 ho dX8_go_264 ?_
                      refine x_ald0 ho dX8_go_265 ?_
                      refine r_X8_192 ho dX8_go_266 ?_
                      change XM B k _ _ _ _ (.int (nI i) :: _)
                      refine w_X8_198 ho dX8_go_269 ?_
                      rw [SG_13]
                      refine x_goto 303 ho dX8_go_272 (by decide) ?_
                      refine x_vret ho hr ?_ dX8_go_303
                      first | exact ⟨_, _, rfl, rfl, _, _, by rw [hK, eE, ← es], ⟨fun q => by rw [hK] at q; exact absurd q (by decide), fun q => absurd (hK.symm.trans q) (by decide)⟩, fun _ => by have z := EI_w hp c71 h3; rw [eE] at z ⊢; exact z, rfl⟩ | exact ⟨_, _, rfl, rfl, _, _, by rw [hK, eE, ← es], ⟨fun q => by rw [hK] at q; exact absurd q (by decide), fun _ => by rw [eE, ← es, Nat.min_eq_left c253]⟩, fun _ => by have z := EI_w hp c71 h3; rw [eE] at z ⊢; exact z, rfl⟩
                · have c178 := bI_n.mp c178
                  have c178' := c178.2
                  have hin := c178.1
                  refine x_ald0 ho dX8_go_181 ?_
                  refine x_ald0 ho dX8_go_182 ?_
                  refine r_X8_192 ho dX8_go_183 ?_
                  change XM B k _ _ _ _ (.int (nI i) :: _)
                  refine x_ald0 ho dX8_go_186 ?_
                  refine r_X8_195 ho dX8_go_187 ?_
                  change XM B k _ _ _ _ (.int (nI s) :: _)
                  refine x_isub ho dX8_go_190 ?_
                  rw [sub_nI h2]
                  refine x_iconst (v := 4) ho dX8_go_191 rfl ?_
                  refine x_icmp_ge 218 ho dX8_go_192 (by decide) (fun c192 => ?_) (fun c192 => ?_)
                  · have c192 := n_le (a := 4) (by decide) (by omega) c192
                    refine x_ald0 ho dX8_go_218 ?_
                    refine r_X8_207 ho dX8_go_219 ?_
                    change XM B k _ _ _ _ (.int ((numF (μ 7) s (min (i - s) 4))) :: _)
                    rw [show (numF (μ 7) s (min (i - s) 4)) = numF (μ 7) s (min (i - s + 1) 4) from num_t (by omega), show i - s + 1 = i + 1 - s by omega]
                    refine w_X8_207 ho dX8_go_222 ?_
                    rw [SG_12]
                    refine x_ald0 ho dX8_go_225 ?_
                    refine x_dup ho dX8_go_226 rfl ?_
                    refine r_X8_192 ho dX8_go_227 ?_
                    change XM B k _ _ _ _ (.int (nI i) :: _)
                    refine x_iconst (v := 1) ho dX8_go_230 rfl ?_
                    refine x_iadd ho dX8_go_231 ?_
                    rw [nI_1 i]
                    refine w_X8_192 ho dX8_go_232 ?_
                    rw [SG_9]
                    refine x_goto 170 ho dX8_go_235 (by decide) ?_
                    exact ih (i + 1) (by omega) (by omega) (by omega) (by rw [← hex]; exact (ext_e hin c178').symm)
                  · have c192 := n_nle (a := 4) (by decide) (by omega) c192
                    refine x_bipush (v := 10) ho dX8_go_195 rfl ?_
                    refine x_ald0 ho dX8_go_197 ?_
                    refine r_X8_207 ho dX8_go_198 ?_
                    change XM B k _ _ _ _ (.int ((numF (μ 7) s (min (i - s) 4))) :: _)
                    refine x_imul ho dX8_go_201 ?_
                    refine x_ald0 ho dX8_go_202 ?_
                    refine r_X8_29 ho dX8_go_203 ?_
                    refine x_ald0 ho dX8_go_206 ?_
                    refine r_X8_192 ho dX8_go_207 ?_
                    change XM B k _ _ _ _ (.int (nI i) :: _)
                    refine xm_ialdN (i) (rfl) 7 (by show i < 96; omega) ho (by decide) (fun _ => rfl) dX8_go_210 ?_
                    change XM B k _ _ _ _ (.int (μ 7 i) :: _)
                    refine x_iadd ho dX8_go_211 ?_
                    refine x_bipush (v := 48) ho dX8_go_212 rfl ?_
                    refine x_isub ho dX8_go_214 ?_
                    rw [show μ 7 i = μ 7 (s + (i - s)) by rw [show s + (i - s) = i by omega], num_s c192, show i - s + 1 = i + 1 - s by omega]
                    refine x_goto 222 ho dX8_go_215 (by decide) ?_
                    refine w_X8_207 ho dX8_go_222 ?_
                    rw [SG_12]
                    refine x_ald0 ho dX8_go_225 ?_
                    refine x_dup ho dX8_go_226 rfl ?_
                    refine r_X8_192 ho dX8_go_227 ?_
                    change XM B k _ _ _ _ (.int (nI i) :: _)
                    refine x_iconst (v := 1) ho dX8_go_230 rfl ?_
                    refine x_iadd ho dX8_go_231 ?_
                    rw [nI_1 i]
                    refine w_X8_192 ho dX8_go_232 ?_
                    rw [SG_9]
                    refine x_goto 170 ho dX8_go_235 (by decide) ?_
                    exact ih (i + 1) (by omega) (by omega) (by omega) (by rw [← hex]; exact (ext_e hin c178').symm)
            have figs := figs (n + 1) s (by omega) (by omega) (by omega) rfl
            rw [Nat.sub_self] at figs
            exact figs
        · have c90 := bI_n.mp c90
          have c90 : sortB (μ 7 s) = 1 := c90.2
          have e1 : sortB (μ 7 (tS (μ 7) n p)) = 1 := by rw [← es]; exact c90
          have h3 : ¬ sortB (μ 7 (tS (μ 7) n p)) = 3 := by rw [← es, c90]; decide
          have hsn : s < n := by omega
          have letters : ∀ (f i : Nat), n < f + i → s ≤ i → i ≤ n → extT (μ 7) n 1 (n - i) i = extT (μ 7) n 1 (n - s) s → XM B k (SG μ (nI s) (nI i) k0 v0 d0) δ 93 [some (.ref (aB B 0)), some (.int cl)] [] := by
            intro f
            induction f with
            | zero => intro i h1 h2; omega
            | succ f ih =>
              intro i h1 h2 h2b hex
              refine x_ald0 ho dX8_go_93 ?_
              refine x_ald0 ho dX8_go_94 ?_
              refine r_X8_192 ho dX8_go_95 ?_
              change XM B k _ _ _ _ (.int (nI i) :: _)
              refine vMI1 ho cs_X8_204 (c_X8_isLetter B _ _ n (i) hn hn96 (by omega)) rfl ⟨rfl, rfl⟩ ⟨Nat.le_of_ble_eq_true rfl, Nat.le_of_ble_eq_true rfl⟩ (Nat.le_of_ble_eq_true rfl) dX8_go_98 (fun r98 s98 t98 p98 => ?_)
              obtain ⟨rfl, rfl, e_⟩ := p98
              subst t98
              refine x_if_eq 117 ho dX8_go_101 (by decide) (fun c101 => ?_) (fun c101 => ?_)
              · have c101 := bI_0.mp c101
                have c101 : ¬ (i < n ∧ sortB (μ 7 i) = 1) := c101
                have eE : tE (μ 7) n p = i := by rw [tE_s c71 h3, ← es, c90, ← hex]; exact ext_x c101
                have hgl := (EI_gl hEI (by omega) (by omega) hn96 h32).symm
                refine x_ald0 ho dX8_go_117 ?_
                refine x_ild1 ho dX8_go_118 ?_
                refine x_if_eq 126 ho dX8_go_119 (by decide) (fun c119 => ?_) (fun c119 => ?_)
                · have ng : ¬ glued (μ 7) (tS (μ 7) n p) := fun z => hcl.elim (fun y => absurd (y.1.symm.trans c119) (by decide)) (fun y => y.2 (hgl.mp (by rw [es]; exact z)))
                  have hK : tK (μ 7) n p = 1 := (tK_s c71 h3 (fun z => z.elim ng (fun y => absurd (y.1.symm.trans e1) (by decide)))).trans e1
                  refine x_iconst (v := 1) ho dX8_go_126 rfl ?_
                  refine w_X8_201 ho dX8_go_127 ?_
                  rw [SG_11]
                  refine x_ald0 ho dX8_go_130 ?_
                  refine x_ald0 ho dX8_go_131 ?_
                  refine r_X8_29 ho dX8_go_132 ?_
                  refine x_ald0 ho dX8_go_135 ?_
                  refine r_X8_195 ho dX8_go_136 ?_
                  change XM B k _ _ _ _ (.int (nI s) :: _)
                  refine xm_ialdN (s) (rfl) 7 (by show s < 96; omega) ho (by decide) (fun _ => rfl) dX8_go_139 ?_
                  change XM B k _ _ _ _ (.int (μ 7 s) :: _)
                  refine w_X8_207 ho dX8_go_140 ?_
                  rw [SG_12]
                  refine x_ald0 ho dX8_go_143 ?_
                  refine x_ald0 ho dX8_go_144 ?_
                  refine r_X8_192 ho dX8_go_145 ?_
                  change XM B k _ _ _ _ (.int (nI i) :: _)
                  refine w_X8_198 ho dX8_go_148 ?_
                  rw [SG_13]
                  refine x_goto 303 ho dX8_go_151 (by decide) ?_
                  refine x_vret ho hr ?_ dX8_go_303
                  exact ⟨_, _, rfl, rfl, _, _, by rw [hK, eE, ← es], ⟨fun _ => by rw [← es], fun q => absurd (hK.symm.trans q) (by decide)⟩, fun _ => by have z := EI_w hp c71 h3; rw [eE] at z ⊢; exact z, rfl⟩
                · have yg : glued (μ 7) (tS (μ 7) n p) := hcl.elim (fun y => by rw [← es]; exact hgl.mpr y.2) (fun y => absurd y.1 c119)
                  have hK : tK (μ 7) n p = 4 := tK_4 c71 h3 (Or.inl yg)
                  refine x_iconst (v := 4) ho dX8_go_122 rfl ?_
                  refine x_goto 127 ho dX8_go_123 (by decide) ?_
                  refine w_X8_201 ho dX8_go_127 ?_
                  rw [SG_11]
                  refine x_ald0 ho dX8_go_130 ?_
                  refine x_ald0 ho dX8_go_131 ?_
                  refine r_X8_29 ho dX8_go_132 ?_
                  refine x_ald0 ho dX8_go_135 ?_
                  refine r_X8_195 ho dX8_go_136 ?_
                  change XM B k _ _ _ _ (.int (nI s) :: _)
                  refine xm_ialdN (s) (rfl) 7 (by show s < 96; omega) ho (by decide) (fun _ => rfl) dX8_go_139 ?_
                  change XM B k _ _ _ _ (.int (μ 7 s) :: _)
                  refine w_X8_207 ho dX8_go_140 ?_
                  rw [SG_12]
                  refine x_ald0 ho dX8_go_143 ?_
                  refine x_ald0 ho dX8_go_144 ?_
                  refine r_X8_192 ho dX8_go_145 ?_
                  change XM B k _ _ _ _ (.int (nI i) :: _)
                  refine w_X8_198 ho dX8_go_148 ?_
                  rw [SG_13]
                  refine x_goto 303 ho dX8_go_151 (by decide) ?_
                  refine x_vret ho hr ?_ dX8_go_303
                  exact ⟨_, _, rfl, rfl, _, _, by rw [hK, eE, ← es], ⟨fun _ => by rw [← es], fun q => absurd (hK.symm.trans q) (by decide)⟩, fun _ => by have z := EI_w hp c71 h3; rw [eE] at z ⊢; exact z, rfl⟩
              · have c101 := bI_n.mp c101
                have c101' := c101.2
                have hin := c101.1
                refine x_ald0 ho dX8_go_104 ?_
                refine x_dup ho dX8_go_105 rfl ?_
                refine r_X8_192 ho dX8_go_106 ?_
                change XM B k _ _ _ _ (.int (nI i) :: _)
                refine x_iconst (v := 1) ho dX8_go_109 rfl ?_
                refine x_iadd ho dX8_go_110 ?_
                rw [nI_1 i]
                refine w_X8_192 ho dX8_go_111 ?_
                rw [SG_9]
                refine x_goto 93 ho dX8_go_114 (by decide) ?_
                exact ih (i + 1) (by omega) (by omega) (by omega) (by rw [← hex]; exact (ext_e hin c101').symm)
          exact letters (n + 1) s (by omega) (by omega) (by omega) rfl
      · have c71 : n ≤ tS (μ 7) n p := by have := n_eq (by omega) (by omega) c71; omega
        refine x_ald0 ho dX8_go_74 ?_
        refine x_iconst (v := 0) ho dX8_go_75 rfl ?_
        refine w_X8_201 ho dX8_go_76 ?_
        rw [SG_11]
        refine x_goto 303 ho dX8_go_79 (by decide) ?_
        refine x_vret ho hr ?_ dX8_go_303
        first | (exact ⟨_, _, rfl, rfl, _, _, by rw [tK_0 c71, tE_0 c71, ← es], ⟨fun q => absurd q (by rw [tK_0 c71]; decide), fun q => absurd q (by rw [tK_0 c71]; decide)⟩, fun q => absurd (tK_0 c71) q, rfl⟩) | (exact ⟨_, _, rfl, rfl, _, _, by rw [tK_3 c71 h3, tE_3 c71 h3, ← es], ⟨fun _ => by rw [← es], fun q => absurd q (by rw [tK_3 c71 h3]; decide)⟩, fun _ => EI_s hp hn96 c71 h3 hEI, rfl⟩)
    refine x_ald0 ho dX8_go_38 ?_
    refine x_ald0 ho dX8_go_39 ?_
    refine r_X8_192 ho dX8_go_40 ?_
    change XM B k _ _ _ _ (.int (nI s) :: _)
    refine w_X8_195 ho dX8_go_43 ?_
    rw [SG_10]
    refine x_ald0 ho dX8_go_46 ?_
    refine r_X8_195 ho dX8_go_47 ?_
    change XM B k _ _ _ _ (.int (nI s) :: _)
    refine x_ald0 ho dX8_go_50 ?_
    refine r_X8_198 ho dX8_go_51 ?_
    change XM B k _ _ _ _ (.int d0 :: _)
    refine x_icmp_ne 61 ho dX8_go_54 (by decide) (fun c54 => ?_) (fun c54 => ?_)
    · refine x_iconst (v := 0) ho dX8_go_61 rfl ?_
      first | exact K62 1 (Or.inl ⟨rfl, c54⟩) | exact K62 0 (Or.inr ⟨rfl, c54⟩)
    · refine x_iconst (v := 1) ho dX8_go_57 rfl ?_
      refine x_goto 62 ho dX8_go_58 (by decide) ?_
      first | exact K62 1 (Or.inl ⟨rfl, c54⟩) | exact K62 0 (Or.inr ⟨rfl, c54⟩)
  have loop : ∀ (f i : Nat), n < f + i → p ≤ i → i ≤ n → skipT (μ 7) n (n - i) i = tS (μ 7) n p → (∀ j, p ≤ j → j < i → μ 7 j = 32) → XM B k (SG μ s0 (nI i) k0 v0 d0) δ 0 [some (.ref (aB B 0)), none] [] := by
    intro f
    induction f with
    | zero => intro i h1 h2; omega
    | succ f ih =>
      intro i h1 h2 h2b hsk hall
      refine x_ald0 ho dX8_go_0 ?_
      refine r_X8_192 ho dX8_go_1 ?_
      change XM B k _ _ _ _ (.int (nI i) :: _)
      refine x_ald0 ho dX8_go_4 ?_
      refine r_X8_188 ho dX8_go_5 ?_
      change XM B k _ _ _ _ (.int (μ 0 8) :: _)
      rw [hn]
      refine x_icmp_ge 38 ho dX8_go_8 (by decide) (fun c8 => ?_) (fun c8 => ?_)
      · have c8 := n_le (by omega) (by omega) c8
        have es : tS (μ 7) n p = i := by rw [← hsk]; exact skip_x (fun z => by omega)
        exact K38 s0 k0 v0 i es.symm hall
      · have c8 := n_nle (by omega) (by omega) c8
        refine x_ald0 ho dX8_go_11 ?_
        refine r_X8_29 ho dX8_go_12 ?_
        refine x_ald0 ho dX8_go_15 ?_
        refine r_X8_192 ho dX8_go_16 ?_
        change XM B k _ _ _ _ (.int (nI i) :: _)
        refine xm_ialdN (i) (rfl) 7 (by show i < 96; omega) ho (by decide) (fun _ => rfl) dX8_go_19 ?_
        change XM B k _ _ _ _ (.int (μ 7 i) :: _)
        refine x_bipush (v := 32) ho dX8_go_20 rfl ?_
        refine x_icmp_ne 38 ho dX8_go_22 (by decide) (fun c22 => ?_) (fun c22 => ?_)
        · have es : tS (μ 7) n p = i := by rw [← hsk]; exact skip_x (fun z => c22 z.2)
          exact K38 s0 k0 v0 i es.symm hall
        · refine x_ald0 ho dX8_go_25 ?_
          refine x_dup ho dX8_go_26 rfl ?_
          refine r_X8_192 ho dX8_go_27 ?_
          change XM B k _ _ _ _ (.int (nI i) :: _)
          refine x_iconst (v := 1) ho dX8_go_30 rfl ?_
          refine x_iadd ho dX8_go_31 ?_
          rw [nI_1 i]
          refine w_X8_192 ho dX8_go_32 ?_
          rw [SG_9]
          refine x_goto 0 ho dX8_go_35 (by decide) ?_
          exact ih (i + 1) (by omega) (by omega) (by omega) (by rw [← hsk]; exact (skip_e c8 c22).symm) (fun j h3 h4 => by
            by_cases q : j = i
            · rw [q]; exact c22
            · exact hall j h3 (by omega))
  exact loop (n + 1) p (by omega) (by omega) hp rfl (fun j h1 h2 => by omega)
