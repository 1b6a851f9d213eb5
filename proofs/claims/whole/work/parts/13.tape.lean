/-! the tape: its bytes b, of which n count; the word or sign that comes next from place p on: from tS, up to tE, of a sort tK -/
def sortB (x : Int32) : Int32 := if ¬ x < 97 ∧ ¬ 122 < x then 1 else if ¬ x < 48 ∧ ¬ 57 < x then 2 else 3
def skipT (b : Nat → Int32) (n : Nat) : Nat → Nat → Nat
  | 0, i => i
  | f + 1, i => if i < n ∧ b i = 32 then skipT b n f (i + 1) else i
def extT (b : Nat → Int32) (n : Nat) (s : Int32) : Nat → Nat → Nat
  | 0, i => i
  | f + 1, i => if i < n ∧ sortB (b i) = s then extT b n s f (i + 1) else i
def tS (b : Nat → Int32) (n p : Nat) : Nat := skipT b n (n - p) p
def tE (b : Nat → Int32) (n p : Nat) : Nat := if n ≤ tS b n p then tS b n p else if sortB (b (tS b n p)) = 3 then tS b n p + 1 else extT b n (sortB (b (tS b n p))) (n - (tS b n p + 1)) (tS b n p + 1)
def tK (b : Nat → Int32) (n p : Nat) : Int32 := if n ≤ tS b n p then 0 else if sortB (b (tS b n p)) = 3 then 3 else if (0 < tS b n p ∧ ¬ sortB (b (tS b n p - 1)) = 3) ∨ (sortB (b (tS b n p)) = 2 ∧ 4 < tE b n p - tS b n p) then 4 else sortB (b (tS b n p))
theorem skipT_b (b : Nat → Int32) (n : Nat) : ∀ f i, i ≤ n → i ≤ skipT b n f i ∧ skipT b n f i ≤ n
  | 0, i, h => ⟨Nat.le_refl _, h⟩
  | f + 1, i, h => by
    unfold skipT
    split
    next hc =>
      have := skipT_b b n f (i + 1) (by omega)
      omega
    next => exact ⟨Nat.le_refl _, h⟩
theorem extT_b (b : Nat → Int32) (n : Nat) (s : Int32) : ∀ f i, i ≤ n → i ≤ extT b n s f i ∧ extT b n s f i ≤ n
  | 0, i, h => ⟨Nat.le_refl _, h⟩
  | f + 1, i, h => by
    unfold extT
    split
    next hc =>
      have := extT_b b n s f (i + 1) (by omega)
      omega
    next => exact ⟨Nat.le_refl _, h⟩
theorem tS_b {b : Nat → Int32} {n p : Nat} (h : p ≤ n) : p ≤ tS b n p ∧ tS b n p ≤ n := skipT_b b n _ p h
theorem tE_b {b : Nat → Int32} {n p : Nat} (h : p ≤ n) : tS b n p ≤ tE b n p ∧ tE b n p ≤ n ∧ (tS b n p < n → tS b n p < tE b n p) := by
  have h1 := tS_b (b := b) h
  unfold tE
  split
  next hc => exact ⟨Nat.le_refl _, by omega, by omega⟩
  next hc =>
    split
    next => exact ⟨by omega, by omega, by omega⟩
    next =>
      have := extT_b b n (sortB (b (tS b n p))) (n - (tS b n p + 1)) (tS b n p + 1) (by omega)
      omega
/-- the tape's own numbers but its length: start, behind, sort -/
def T3 (σ : Nat → Nat → Int32) (s e k : Int32) : Nat → Nat → Int32 := up2 (up2 (up2 σ 32 2 s) 32 3 e) 32 4 k
theorem up2_ss {σ : Nat → Nat → Int32} {q i : Nat} {x y : Int32} : up2 (up2 σ q i x) q i y = up2 σ q i y := by
  funext q' j
  unfold up2 upd
  by_cases h : q' = q
  · simp only [h, if_true]
    by_cases h2 : j = i
    · simp [h2]
    · simp [h2]
  · simp [h]
theorem up2_sw {σ : Nat → Nat → Int32} {q i j : Nat} {x y : Int32} (hij : i ≠ j) : up2 (up2 σ q i x) q j y = up2 (up2 σ q j y) q i x := by
  funext q' k
  unfold up2 upd
  by_cases h : q' = q
  · simp only [h, if_true]
    by_cases h2 : k = i
    · have h3 : ¬ k = j := fun z => hij (h2.symm.trans z)
      simp [h2, h3, hij]
    · by_cases h3 : k = j
      · simp [h3, hij, Ne.symm hij]
      · simp [h2, h3]
  · simp [h]
theorem up2_id {σ : Nat → Nat → Int32} {q i : Nat} : up2 σ q i (σ q i) = σ := by
  funext q' j
  unfold up2 upd
  by_cases h : q' = q
  · by_cases h2 : j = i
    · simp [h, h2]
    · simp [h, h2]
  · simp [h]
theorem T3_s {σ : Nat → Nat → Int32} {s e k x : Int32} : up2 (T3 σ s e k) 32 2 x = T3 σ x e k := by
  unfold T3
  rw [up2_sw (by decide : 4 ≠ 2), up2_sw (by decide : 3 ≠ 2), up2_ss]
theorem T3_e {σ : Nat → Nat → Int32} {s e k x : Int32} : up2 (T3 σ s e k) 32 3 x = T3 σ s x k := by
  unfold T3
  rw [up2_sw (by decide : 4 ≠ 3), up2_ss]
theorem T3_k {σ : Nat → Nat → Int32} {s e k x : Int32} : up2 (T3 σ s e k) 32 4 x = T3 σ s e x := by
  unfold T3
  rw [up2_ss]
theorem T3_id {σ : Nat → Nat → Int32} : T3 σ (σ 32 2) (σ 32 3) (σ 32 4) = σ := by
  unfold T3
  have h1 : up2 σ 32 2 (σ 32 2) = σ := up2_id
  rw [h1]
  have h2 : up2 σ 32 3 (σ 32 3) = σ := up2_id
  rw [h2]
  exact up2_id

set_option maxRecDepth 100000 in
set_option maxHeartbeats 4000000 in
theorem c_X6_sortOf (B : BT) (σ : Nat → Nat → Int32) (x : Int32) : CI B yX6_sortOf cX6_sortOf 1 (some .int) ({ frames := 0, cells := 0, slots := 0, locals := 0 }) [.int x] σ (fun r σ' => r = sortB x ∧ σ' = σ) := by
  refine MX.of2 RX6 (by decide) rfl ⟨rfl, rfl⟩ (Nat.le_of_ble_eq_true rfl) (by rfl) (fun k h hr hk => ?_)
  show XC B k σ 0 [some (.int x)] []
  refine x_ild0 h dX6_sortOf_0 ?_
  refine x_bipush (v := 97) h dX6_sortOf_1 rfl ?_
  refine x_icmp_lt 14 h dX6_sortOf_3 (by decide) (fun c3 => ?_) (fun c3 => ?_)
  · refine x_ild0 h dX6_sortOf_14 ?_
    refine x_bipush (v := 48) h dX6_sortOf_15 rfl ?_
    refine x_icmp_lt 30 h dX6_sortOf_17 (by decide) (fun c17 => ?_) (fun c17 => ?_)
    · refine x_iconst (v := 3) h dX6_sortOf_30 rfl ?_
      refine x_iret h hr ?_ dX6_sortOf_31
      exact ⟨_, _, rfl, rfl, by simp_all [sortB], rfl⟩
    · refine x_ild0 h dX6_sortOf_20 ?_
      refine x_bipush (v := 57) h dX6_sortOf_21 rfl ?_
      refine x_icmp_gt 30 h dX6_sortOf_23 (by decide) (fun c23 => ?_) (fun c23 => ?_)
      · refine x_iconst (v := 3) h dX6_sortOf_30 rfl ?_
        refine x_iret h hr ?_ dX6_sortOf_31
        exact ⟨_, _, rfl, rfl, by simp_all [sortB], rfl⟩
      · refine x_iconst (v := 2) h dX6_sortOf_26 rfl ?_
        refine x_goto 31 h dX6_sortOf_27 (by decide) ?_
        refine x_iret h hr ?_ dX6_sortOf_31
        exact ⟨_, _, rfl, rfl, by simp_all [sortB], rfl⟩
  · refine x_ild0 h dX6_sortOf_6 ?_
    refine x_bipush (v := 122) h dX6_sortOf_7 rfl ?_
    refine x_icmp_gt 14 h dX6_sortOf_9 (by decide) (fun c9 => ?_) (fun c9 => ?_)
    · refine x_ild0 h dX6_sortOf_14 ?_
      refine x_bipush (v := 48) h dX6_sortOf_15 rfl ?_
      refine x_icmp_lt 30 h dX6_sortOf_17 (by decide) (fun c17 => ?_) (fun c17 => ?_)
      · refine x_iconst (v := 3) h dX6_sortOf_30 rfl ?_
        refine x_iret h hr ?_ dX6_sortOf_31
        exact ⟨_, _, rfl, rfl, by simp_all [sortB], rfl⟩
      · refine x_ild0 h dX6_sortOf_20 ?_
        refine x_bipush (v := 57) h dX6_sortOf_21 rfl ?_
        refine x_icmp_gt 30 h dX6_sortOf_23 (by decide) (fun c23 => ?_) (fun c23 => ?_)
        · refine x_iconst (v := 3) h dX6_sortOf_30 rfl ?_
          refine x_iret h hr ?_ dX6_sortOf_31
          exact ⟨_, _, rfl, rfl, by simp_all [sortB], rfl⟩
        · refine x_iconst (v := 2) h dX6_sortOf_26 rfl ?_
          refine x_goto 31 h dX6_sortOf_27 (by decide) ?_
          refine x_iret h hr ?_ dX6_sortOf_31
          exact ⟨_, _, rfl, rfl, by simp_all [sortB], rfl⟩
    · refine x_iconst (v := 1) h dX6_sortOf_12 rfl ?_
      refine x_iret h hr ?_ dX6_sortOf_13
      exact ⟨_, _, rfl, rfl, by simp_all [sortB], rfl⟩
set_option maxRecDepth 100000 in
set_option maxHeartbeats 4000000 in
theorem c_X6_step (B : BT) (σ : Nat → Nat → Int32) (s0 k0 : Int32) (n p : Nat) (hn : σ 32 1 = nI n) (hn96 : n ≤ 96) (hp : p ≤ n) : CV B yX6_step cX6_step 3 none ({ frames := 1, cells := 0, slots := 0, locals := 20 }) [.ref (aB B 32)] (T3 σ s0 (nI p) k0) (fun σ' => σ' = T3 σ (nI (tS (σ 33) n p)) (nI (tE (σ 33) n p)) (tK (σ 33) n p)) := by
  refine MX.of2 RX6 (by decide) rfl ⟨rfl, rfl⟩ (Nat.le_of_ble_eq_true rfl) (by rfl) (fun k h hr hk => ?_)
  show XC B k (T3 σ s0 (nI p) k0) 0 [some (.ref (aB B 32)), none, none] []
  have hS := tS_b (b := σ 33) hp
  have hE := tE_b (b := σ 33) hp
  have K206 : ¬ (sortB (σ 33 (tS (σ 33) n p))) = 3 → (tS (σ 33) n p) < n → XC B k (T3 σ (nI (tS (σ 33) n p)) (nI (tE (σ 33) n p)) (sortB (σ 33 (tS (σ 33) n p)))) 206 [some (.ref (aB B 32)), some (.int (bI (0 < (tS (σ 33) n p) ∧ ¬ sortB (σ 33 ((tS (σ 33) n p) - 1)) = 3))), none] [.int (bI ((sortB (σ 33 (tS (σ 33) n p))) = 2 ∧ 4 < (tE (σ 33) n p) - (tS (σ 33) n p)))] := by
    intro hs3 hlt
    refine x_ist2 h dX6_step_206 (by rw [hk]; decide) rfl ?_
    refine x_ild1 h dX6_step_207 ?_
    refine x_if_ne 215 h dX6_step_208 (by decide) (fun c208 => ?_) (fun c208 => ?_)
    · have c208 : ¬ bI (0 < (tS (σ 33) n p) ∧ ¬ sortB (σ 33 ((tS (σ 33) n p) - 1)) = 3) = 0 := c208
      have c208 := bI_n.mp c208
      have ek : tK (σ 33) n p = 4 := by unfold tK; rw [if_neg (by omega), if_neg hs3, if_pos (Or.inl c208)]
      refine x_ald0 h dX6_step_215 ?_
      refine x_iconst (v := 4) h dX6_step_216 rfl ?_
      refine w_X6_25 h dX6_step_217 ?_
      rw [T3_k]
      refine x_vret h hr ?_ dX6_step_220
      refine ⟨_, rfl, rfl, ?_⟩
      rw [ek]
    · have c208 : bI (0 < (tS (σ 33) n p) ∧ ¬ sortB (σ 33 ((tS (σ 33) n p) - 1)) = 3) = 0 := c208
      have c208 := bI_0.mp c208
      refine x_ild2 h dX6_step_211 ?_
      refine x_if_eq 220 h dX6_step_212 (by decide) (fun c212 => ?_) (fun c212 => ?_)
      · have c212 := bI_0.mp c212
        have ek : tK (σ 33) n p = (sortB (σ 33 (tS (σ 33) n p))) := by unfold tK; rw [if_neg (by omega), if_neg hs3, if_neg (fun q => q.elim c208 c212)]
        refine x_vret h hr ?_ dX6_step_220
        refine ⟨_, rfl, rfl, ?_⟩
        rw [ek]
      · have c212 := bI_n.mp c212
        have ek : tK (σ 33) n p = 4 := by unfold tK; rw [if_neg (by omega), if_neg hs3, if_pos (Or.inr c212)]
        refine x_ald0 h dX6_step_215 ?_
        refine x_iconst (v := 4) h dX6_step_216 rfl ?_
        refine w_X6_25 h dX6_step_217 ?_
        rw [T3_k]
        refine x_vret h hr ?_ dX6_step_220
        refine ⟨_, rfl, rfl, ?_⟩
        rw [ek]
  have K179 : ¬ (sortB (σ 33 (tS (σ 33) n p))) = 3 → (tS (σ 33) n p) < n → XC B k (T3 σ (nI (tS (σ 33) n p)) (nI (tE (σ 33) n p)) (sortB (σ 33 (tS (σ 33) n p)))) 179 [some (.ref (aB B 32)), none, none] [.int (bI (0 < (tS (σ 33) n p) ∧ ¬ sortB (σ 33 ((tS (σ 33) n p) - 1)) = 3))] := by
    intro hs3 hlt
    have K206 := K206 hs3 hlt
    refine x_ist1 h dX6_step_179 (by rw [hk]; decide) rfl ?_
    refine x_ald0 h dX6_step_180 ?_
    refine r_X6_25 h dX6_step_181 ?_
    refine x_iconst (v := 2) h dX6_step_184 rfl ?_
    refine x_icmp_ne 205 h dX6_step_185 (by decide) (fun c185 => ?_) (fun c185 => ?_)
    · have c185 : ¬ (sortB (σ 33 (tS (σ 33) n p))) = 2 := c185
      have g : bI ((sortB (σ 33 (tS (σ 33) n p))) = 2 ∧ 4 < (tE (σ 33) n p) - (tS (σ 33) n p)) = 0 := bI_f (fun q => c185 q.1)
      refine x_iconst (v := 0) h dX6_step_205 rfl ?_
      rw [← g]
      exact K206
    · have c185 : (sortB (σ 33 (tS (σ 33) n p))) = 2 := c185
      refine x_ald0 h dX6_step_188 ?_
      refine r_X6_22 h dX6_step_189 ?_
      refine x_ald0 h dX6_step_192 ?_
      refine r_X6_19 h dX6_step_193 ?_
      refine x_isub h dX6_step_196 ?_
      refine x_iconst (v := 4) h dX6_step_197 rfl ?_
      refine x_icmp_le 205 h dX6_step_198 (by decide) (fun c198 => ?_) (fun c198 => ?_)
      · have c198 : nI (tE (σ 33) n p) - nI (tS (σ 33) n p) ≤ nI 4 := c198
        rw [pk_sub (by omega)] at c198
        have c198 := n_le (by omega) (by omega) c198
        have g : bI ((sortB (σ 33 (tS (σ 33) n p))) = 2 ∧ 4 < (tE (σ 33) n p) - (tS (σ 33) n p)) = 0 := bI_f (by omega)
        refine x_iconst (v := 0) h dX6_step_205 rfl ?_
        rw [← g]
        exact K206
      · have c198 : ¬ nI (tE (σ 33) n p) - nI (tS (σ 33) n p) ≤ nI 4 := c198
        rw [pk_sub (by omega)] at c198
        have c198 := n_nle (by omega) (by omega) c198
        have g : bI ((sortB (σ 33 (tS (σ 33) n p))) = 2 ∧ 4 < (tE (σ 33) n p) - (tS (σ 33) n p)) = 1 := bI_t ⟨c185, c198⟩
        refine x_iconst (v := 1) h dX6_step_201 rfl ?_
        refine x_goto 206 h dX6_step_202 (by decide) ?_
        rw [← g]
        exact K206
  have K149 : ¬ (sortB (σ 33 (tS (σ 33) n p))) = 3 → (tS (σ 33) n p) < n → XC B k (T3 σ (nI (tS (σ 33) n p)) (nI (tE (σ 33) n p)) (sortB (σ 33 (tS (σ 33) n p)))) 149 [some (.ref (aB B 32)), none, none] [] := by
    intro hs3 hlt
    have K179 := K179 hs3 hlt
    refine x_ald0 h dX6_step_149 ?_
    refine r_X6_19 h dX6_step_150 ?_
    refine x_if_le 178 h dX6_step_153 (by decide) (fun c153 => ?_) (fun c153 => ?_)
    · have c153 : nI (tS (σ 33) n p) ≤ nI 0 := c153
      have c153 := n_le (by omega) (by omega) c153
      have g : bI (0 < (tS (σ 33) n p) ∧ ¬ sortB (σ 33 ((tS (σ 33) n p) - 1)) = 3) = 0 := bI_f (by omega)
      refine x_iconst (v := 0) h dX6_step_178 rfl ?_
      rw [← g]
      exact K179
    · have c153 : ¬ nI (tS (σ 33) n p) ≤ nI 0 := c153
      have c153 := n_nle (by omega) (by omega) c153
      refine x_ald0 h dX6_step_156 ?_
      refine r_X6_9 h dX6_step_157 ?_
      refine x_ald0 h dX6_step_160 ?_
      refine r_X6_19 h dX6_step_161 ?_
      refine x_iconst (v := 1) h dX6_step_164 rfl ?_
      refine x_isub h dX6_step_165 ?_
      refine xc_ialdN ((tS (σ 33) n p) - 1) (pk_sub (a := (tS (σ 33) n p)) (b := 1) (by omega)) (by omega) (by decide) h 33 (⟨by decide, fun _ _ => rfl⟩ : ArrC 33 96) dX6_step_166 ?_
      refine sCI1 h cs_X6_31 (c_X6_sortOf B _ _) ⟨rfl, rfl⟩ ⟨Nat.le_of_ble_eq_true rfl, Nat.le_of_ble_eq_true rfl⟩ (Nat.le_of_ble_eq_true rfl) dX6_step_167 (fun r167 s167 p167 => ?_)
      obtain ⟨rfl, rfl⟩ := p167
      refine x_iconst (v := 3) h dX6_step_170 rfl ?_
      refine x_icmp_eq 178 h dX6_step_171 (by decide) (fun c171 => ?_) (fun c171 => ?_)
      · have c171 : sortB (σ 33 ((tS (σ 33) n p) - 1)) = 3 := c171
        have g : bI (0 < (tS (σ 33) n p) ∧ ¬ sortB (σ 33 ((tS (σ 33) n p) - 1)) = 3) = 0 := bI_f (fun q => q.2 c171)
        refine x_iconst (v := 0) h dX6_step_178 rfl ?_
        rw [← g]
        exact K179
      · have c171 : ¬ sortB (σ 33 ((tS (σ 33) n p) - 1)) = 3 := c171
        have g : bI (0 < (tS (σ 33) n p) ∧ ¬ sortB (σ 33 ((tS (σ 33) n p) - 1)) = 3) = 1 := bI_t ⟨c153, c171⟩
        refine x_iconst (v := 1) h dX6_step_174 rfl ?_
        refine x_goto 179 h dX6_step_175 (by decide) ?_
        rw [← g]
        exact K179
  have K106 : ¬ (sortB (σ 33 (tS (σ 33) n p))) = 3 → (tS (σ 33) n p) < n → XC B k (T3 σ (nI (tS (σ 33) n p)) (nI ((tS (σ 33) n p) + 1)) (sortB (σ 33 (tS (σ 33) n p)))) 106 [some (.ref (aB B 32)), none, none] [] := by
    intro hs3 hlt
    have K149 := K149 hs3 hlt
    have loop : ∀ (f i : Nat), n < f + i → i ≤ n → (tE (σ 33) n p) = extT (σ 33) n (sortB (σ 33 (tS (σ 33) n p))) (n - i) i → XC B k (T3 σ (nI (tS (σ 33) n p)) (nI i) (sortB (σ 33 (tS (σ 33) n p)))) 106 [some (.ref (aB B 32)), none, none] [] := by
      intro f
      induction f with
      | zero => intro i h1 h2; omega
      | succ f ih =>
        intro i h1 h2 e1
        refine x_ald0 h dX6_step_106 ?_
        refine r_X6_22 h dX6_step_107 ?_
        refine x_ald0 h dX6_step_110 ?_
        refine r_X6_15 h dX6_step_111 ?_
        refine x_icmp_ge 149 h dX6_step_114 (by decide) (fun c114 => ?_) (fun c114 => ?_)
        · have c114 : nI n ≤ nI i := by rw [← hn]; exact c114
          have c114 := n_le (by omega) (by omega) c114
          have ei : tE (σ 33) n p = i := by rw [e1, show n - i = 0 by omega]; rfl
          rw [← ei]
          exact K149
        · have c114 : ¬ nI n ≤ nI i := by rw [← hn]; exact c114
          have c114 := n_nle (by omega) (by omega) c114
          refine x_ald0 h dX6_step_117 ?_
          refine r_X6_9 h dX6_step_118 ?_
          refine x_ald0 h dX6_step_121 ?_
          refine r_X6_22 h dX6_step_122 ?_
          refine xc_ialdN (i) (rfl) (by omega) (by decide) h 33 (⟨by decide, fun _ _ => rfl⟩ : ArrC 33 96) dX6_step_125 ?_
          refine sCI1 h cs_X6_31 (c_X6_sortOf B _ _) ⟨rfl, rfl⟩ ⟨Nat.le_of_ble_eq_true rfl, Nat.le_of_ble_eq_true rfl⟩ (Nat.le_of_ble_eq_true rfl) dX6_step_126 (fun r126 s126 p126 => ?_)
          obtain ⟨rfl, rfl⟩ := p126
          refine x_ald0 h dX6_step_129 ?_
          refine r_X6_25 h dX6_step_130 ?_
          refine x_icmp_ne 149 h dX6_step_133 (by decide) (fun c133 => ?_) (fun c133 => ?_)
          · have c133 : ¬ sortB (σ 33 i) = (sortB (σ 33 (tS (σ 33) n p))) := c133
            have ei : tE (σ 33) n p = i := by rw [e1, show n - i = (n - i - 1) + 1 by omega]; exact if_neg (fun q => c133 q.2)
            rw [← ei]
            exact K149
          · have c133 : sortB (σ 33 i) = (sortB (σ 33 (tS (σ 33) n p))) := c133
            have e2 : tE (σ 33) n p = extT (σ 33) n (sortB (σ 33 (tS (σ 33) n p))) (n - (i + 1)) (i + 1) := by rw [e1, show n - i = (n - (i + 1)) + 1 by omega]; exact if_pos ⟨c114, c133⟩
            refine x_ald0 h dX6_step_136 ?_
            refine x_dup h dX6_step_137 rfl ?_
            refine r_X6_22 h dX6_step_138 ?_
            refine x_iconst (v := 1) h dX6_step_141 rfl ?_
            refine x_iadd h dX6_step_142 ?_
            refine w_X6_22 h dX6_step_143 ?_
            rw [T3_e]
            refine x_goto 106 h dX6_step_146 (by decide) ?_
            change XC B k (T3 σ (nI (tS (σ 33) n p)) (nI i + 1) (sortB (σ 33 (tS (σ 33) n p)))) 106 _ _
            rw [nI_1 i]
            exact ih (i + 1) (by omega) (by omega) e2
    exact loop (n + 1) ((tS (σ 33) n p) + 1) (by omega) (by omega) (by unfold tE; rw [if_neg (by omega), if_neg hs3])
  have K46 : XC B k (T3 σ (nI (tS (σ 33) n p)) (nI p) k0) 46 [some (.ref (aB B 32)), none, none] [] := by
    refine x_ald0 h dX6_step_46 ?_
    refine x_ald0 h dX6_step_47 ?_
    refine r_X6_19 h dX6_step_48 ?_
    refine w_X6_22 h dX6_step_51 ?_
    rw [T3_e]
    refine x_ald0 h dX6_step_54 ?_
    refine r_X6_19 h dX6_step_55 ?_
    refine x_ald0 h dX6_step_58 ?_
    refine r_X6_15 h dX6_step_59 ?_
    refine x_icmp_lt 71 h dX6_step_62 (by decide) (fun c62 => ?_) (fun c62 => ?_)
    · have c62 : nI (tS (σ 33) n p) < nI n := by rw [← hn]; exact c62
      have c62 := n_lt (by omega) (by omega) c62
      refine x_ald0 h dX6_step_71 ?_
      refine x_ald0 h dX6_step_72 ?_
      refine r_X6_9 h dX6_step_73 ?_
      refine x_ald0 h dX6_step_76 ?_
      refine r_X6_19 h dX6_step_77 ?_
      refine xc_ialdN (tS (σ 33) n p) (rfl) (by omega) (by decide) h 33 (⟨by decide, fun _ _ => rfl⟩ : ArrC 33 96) dX6_step_80 ?_
      refine sCI1 h cs_X6_31 (c_X6_sortOf B _ _) ⟨rfl, rfl⟩ ⟨Nat.le_of_ble_eq_true rfl, Nat.le_of_ble_eq_true rfl⟩ (Nat.le_of_ble_eq_true rfl) dX6_step_81 (fun r81 s81 p81 => ?_)
      obtain ⟨rfl, rfl⟩ := p81
      refine w_X6_25 h dX6_step_84 ?_
      rw [T3_k]
      refine x_ald0 h dX6_step_87 ?_
      refine x_dup h dX6_step_88 rfl ?_
      refine r_X6_22 h dX6_step_89 ?_
      refine x_iconst (v := 1) h dX6_step_92 rfl ?_
      refine x_iadd h dX6_step_93 ?_
      refine w_X6_22 h dX6_step_94 ?_
      rw [T3_e]
      change XC B k (T3 σ (nI (tS (σ 33) n p)) (nI (tS (σ 33) n p) + 1) (sortB (σ 33 (tS (σ 33) n p)))) 97 _ _
      rw [nI_1]
      refine x_ald0 h dX6_step_97 ?_
      refine r_X6_25 h dX6_step_98 ?_
      refine x_iconst (v := 3) h dX6_step_101 rfl ?_
      refine x_icmp_ne 106 h dX6_step_102 (by decide) (fun c102 => ?_) (fun c102 => ?_)
      · have c102 : ¬ sortB (σ 33 (tS (σ 33) n p)) = 3 := c102
        exact K106 c102 c62
      · have c102 : sortB (σ 33 (tS (σ 33) n p)) = 3 := c102
        refine x_vret h hr ?_ dX6_step_105
        refine ⟨_, rfl, rfl, ?_⟩
        have a1 : tE (σ 33) n p = tS (σ 33) n p + 1 := (if_neg (by omega)).trans (if_pos c102)
        have a2 : tK (σ 33) n p = 3 := (if_neg (by omega)).trans (if_pos c102)
        rw [a1, a2, c102]
    · have c62 : ¬ nI (tS (σ 33) n p) < nI n := by rw [← hn]; exact c62
      have c62 := n_nlt (by omega) (by omega) c62
      refine x_ald0 h dX6_step_65 ?_
      refine x_iconst (v := 0) h dX6_step_66 rfl ?_
      refine w_X6_25 h dX6_step_67 ?_
      rw [T3_k]
      refine x_vret h hr ?_ dX6_step_70
      refine ⟨_, rfl, rfl, ?_⟩
      have a1 : tE (σ 33) n p = tS (σ 33) n p := if_pos c62
      have a2 : tK (σ 33) n p = 0 := if_pos c62
      rw [a1, a2]
      rfl
  have loop : ∀ (f i : Nat), n < f + i → i ≤ n → (tS (σ 33) n p) = skipT (σ 33) n (n - i) i → XC B k (T3 σ (nI i) (nI p) k0) 8 [some (.ref (aB B 32)), none, none] [] := by
    intro f
    induction f with
    | zero => intro i h1 h2; omega
    | succ f ih =>
      intro i h1 h2 e1
      refine x_ald0 h dX6_step_8 ?_
      refine r_X6_19 h dX6_step_9 ?_
      refine x_ald0 h dX6_step_12 ?_
      refine r_X6_15 h dX6_step_13 ?_
      refine x_icmp_ge 46 h dX6_step_16 (by decide) (fun c16 => ?_) (fun c16 => ?_)
      · have c16 : nI n ≤ nI i := by rw [← hn]; exact c16
        have c16 := n_le (by omega) (by omega) c16
        have ei : tS (σ 33) n p = i := by rw [e1, show n - i = 0 by omega]; rfl
        rw [← ei]
        exact K46
      · have c16 : ¬ nI n ≤ nI i := by rw [← hn]; exact c16
        have c16 := n_nle (by omega) (by omega) c16
        refine x_ald0 h dX6_step_19 ?_
        refine r_X6_9 h dX6_step_20 ?_
        refine x_ald0 h dX6_step_23 ?_
        refine r_X6_19 h dX6_step_24 ?_
        refine xc_ialdN (i) (rfl) (by omega) (by decide) h 33 (⟨by decide, fun _ _ => rfl⟩ : ArrC 33 96) dX6_step_27 ?_
        refine x_bipush (v := 32) h dX6_step_28 rfl ?_
        refine x_icmp_ne 46 h dX6_step_30 (by decide) (fun c30 => ?_) (fun c30 => ?_)
        · have c30 : ¬ σ 33 i = 32 := c30
          have ei : tS (σ 33) n p = i := by rw [e1, show n - i = (n - i - 1) + 1 by omega]; exact if_neg (fun q => c30 q.2)
          rw [← ei]
          exact K46
        · have c30 : σ 33 i = 32 := c30
          have e2 : tS (σ 33) n p = skipT (σ 33) n (n - (i + 1)) (i + 1) := by rw [e1, show n - i = (n - (i + 1)) + 1 by omega]; exact if_pos ⟨c16, c30⟩
          refine x_ald0 h dX6_step_33 ?_
          refine x_dup h dX6_step_34 rfl ?_
          refine r_X6_19 h dX6_step_35 ?_
          refine x_iconst (v := 1) h dX6_step_38 rfl ?_
          refine x_iadd h dX6_step_39 ?_
          refine w_X6_19 h dX6_step_40 ?_
          rw [T3_s]
          refine x_goto 8 h dX6_step_43 (by decide) ?_
          change XC B k (T3 σ (nI i + 1) (nI p) k0) 8 _ _
          rw [nI_1 i]
          exact ih (i + 1) (by omega) (by omega) e2
  have loop := loop (n + 1) p (by omega) (by omega) rfl
  refine x_ald0 h dX6_step_0 ?_
  refine x_ald0 h dX6_step_1 ?_
  refine r_X6_22 h dX6_step_2 ?_
  refine w_X6_19 h dX6_step_5 ?_
  rw [T3_s]
  exact loop
