/-! texts: a row of codes, values ahead of what is done with them -/
def jval (c a b e : Int32) : Int32 := if c = -4 then e else if c = -3 then b else if c = -2 then a else c
def jop (c l r : Int32) : Int32 :=
  if c = -13 then l * r else if c = -12 then l - r else if c = -11 then l + r
  else if c = -10 then (if r < l then 1 else 0) else if c = -9 then (if l = r then 1 else 0) else if c = -8 then (if l < r then 1 else 0)
  else if c = -7 then (if l = 0 ∨ r = 0 then 0 else 1) else if c = -6 then (if l = 0 ∧ r = 0 then 0 else 1)
  else if r = 0 then 0 else l / r
def jnot (x : Int32) : Int32 := if x = 0 then 1 else 0
def notL : List Int32 → List Int32
  | x :: r => jnot x :: r
  | [] => []
def binL (c : Int32) : List Int32 → List Int32
  | y :: x :: r => jop c x y :: r
  | _ => []
def evStep (c a b e : Int32) (l : List Int32) : List Int32 :=
  if ¬ c ≤ -5 then jval c a b e :: l
  else if c = -5 then notL l
  else binL c l
def evS (c : Nat → Int32) (a b e : Int32) : Nat → List Int32
  | 0 => []
  | i + 1 => evStep (c i) a b e (evS c a b e i)
def evV (c : Nat → Int32) (n : Nat) (a b e : Int32) : Int32 := (evS c a b e n).headD 0
def dep (c : Nat → Int32) : Nat → Nat
  | 0 => 0
  | i + 1 => if ¬ c i ≤ -5 then dep c i + 1 else if c i = -5 then dep c i else dep c i - 1
/-- a whole row -/
def wfT (c : Nat → Int32) (n : Nat) : Prop := 1 ≤ n ∧ n ≤ 96 ∧ (∀ i, i < n → ¬ c i ≤ -5 ∨ (c i = -5 ∧ 1 ≤ dep c i) ∨ (c i ≤ -5 ∧ ¬ c i = -5 ∧ 2 ≤ dep c i)) ∧ dep c n = 1
theorem dep_le (c : Nat → Int32) : ∀ i, dep c i ≤ i
  | 0 => Nat.le_refl 0
  | i + 1 => by
    have := dep_le c i
    unfold dep
    split
    · omega
    · split <;> omega
theorem evS_len {c : Nat → Int32} {n : Nat} (h : wfT c n) (a b e : Int32) : ∀ i, i ≤ n → (evS c a b e i).length = dep c i
  | 0, _ => rfl
  | i + 1, hi => by
    have ih := evS_len h a b e i (by omega)
    have hw := h.2.2.1 i (by omega)
    show (evStep (c i) a b e (evS c a b e i)).length = dep c (i + 1)
    rcases hw with hw | ⟨hw, hd⟩ | ⟨hw, hw2, hd⟩
    · rw [show evStep (c i) a b e (evS c a b e i) = jval (c i) a b e :: evS c a b e i from if_pos hw, show dep c (i + 1) = dep c i + 1 from if_pos hw, List.length_cons, ih]
    · have q1 : ¬ ¬ c i ≤ -5 := by rw [hw]; decide
      rw [show evStep (c i) a b e (evS c a b e i) = notL (evS c a b e i) from (if_neg q1).trans (if_pos hw), show dep c (i + 1) = dep c i from (if_neg q1).trans (if_pos hw)]
      cases hl : evS c a b e i with
      | nil => rw [hl] at ih; simp at ih; omega
      | cons x r =>
        rw [hl] at ih
        show (jnot x :: r).length = dep c i
        simpa using ih
    · have q1 : ¬ ¬ c i ≤ -5 := fun q => q hw
      rw [show evStep (c i) a b e (evS c a b e i) = binL (c i) (evS c a b e i) from (if_neg q1).trans (if_neg hw2), show dep c (i + 1) = dep c i - 1 from (if_neg q1).trans (if_neg hw2)]
      cases hl : evS c a b e i with
      | nil => rw [hl] at ih; simp at ih; omega
      | cons x r =>
        cases hr : r with
        | nil => rw [hl, hr] at ih; simp at ih; omega
        | cons x' r' =>
          rw [hl, hr] at ih
          show (jop (c i) x' x :: r').length = dep c i - 1
          simp at ih ⊢
          omega
/-- the machine's stack holds the list -/
def SR (s : Nat → Int32) : List Int32 → Prop
  | [] => True
  | x :: r => s r.length = x ∧ SR s r
theorem SR.up {s : Nat → Int32} {k : Nat} {v : Int32} : ∀ {l : List Int32}, l.length ≤ k → SR s l → SR (upd s k v) l
  | [], _, _ => trivial
  | x :: r, hk, h => ⟨by rw [upd_n (by simp at hk; omega)]; exact h.1, SR.up (by simp at hk; omega) h.2⟩
theorem SR.push {s : Nat → Int32} {l : List Int32} {v : Int32} (h : SR s l) : SR (upd s l.length v) (v :: l) := ⟨upd_s, h.up (Nat.le_refl _)⟩
theorem evS_s {c : Nat → Int32} {a b e : Int32} {i : Nat} : evS c a b e (i + 1) = evStep (c i) a b e (evS c a b e i) := rfl
theorem SR.bot {s : Nat → Int32} {x : Int32} (h : SR s [x]) : s 0 = x := h.1
def TxOK (σ : Nat → Nat → Int32) (t : Nat) : Prop := t < 14 ∧ ∃ n, σ 36 t = nI n ∧ wfT (σ (40 + t)) n
def TxV (σ : Nat → Nat → Int32) (t : Nat) (a b e : Int32) : Int32 := evV (σ (40 + t)) (ix (σ 36 t)) a b e

set_option maxRecDepth 100000 in
set_option maxHeartbeats 4000000 in
theorem c_X2_valueOf (B : BT) (σ : Nat → Nat → Int32) (c a b e : Int32) : CI B yX2_valueOf cX2_valueOf 4 (some .int) ({ frames := 0, cells := 0, slots := 0, locals := 0 }) [.int c, .int a, .int b, .int e] σ (fun r σ' => r = jval c a b e ∧ σ' = σ) := by
  refine MX.of2 RX2 (by decide) rfl ⟨rfl, rfl⟩ (Nat.le_of_ble_eq_true rfl) (by rfl) (fun k h hr hk => ?_)
  show XC B k σ 0 [some (.int c), some (.int a), some (.int b), some (.int e)] []
  refine x_ild0 h dX2_valueOf_0 ?_
  refine x_topi (fun y1 ey1 => ?_)
  by_cases q1_m4 : y1 = (-4)
  · rw [q1_m4] at ey1 ⊢
    refine x_tin 32 h dX2_valueOf_1 (by decide) (by decide) (by rfl) (by decide) ?_
    refine x_ild3 h dX2_valueOf_32 ?_
    refine x_iret h hr ?_ dX2_valueOf_33
    subst ey1
    exact ⟨_, _, rfl, rfl, by simp_all [jval], rfl⟩
  · skip
    by_cases q1_m3 : y1 = (-3)
    · rw [q1_m3] at ey1 ⊢
      refine x_tin 30 h dX2_valueOf_1 (by decide) (by decide) (by rfl) (by decide) ?_
      refine x_ild2 h dX2_valueOf_30 ?_
      refine x_iret h hr ?_ dX2_valueOf_31
      subst ey1
      exact ⟨_, _, rfl, rfl, by simp_all [jval], rfl⟩
    · skip
      by_cases q1_m2 : y1 = (-2)
      · rw [q1_m2] at ey1 ⊢
        refine x_tin 28 h dX2_valueOf_1 (by decide) (by decide) (by rfl) (by decide) ?_
        refine x_ild1 h dX2_valueOf_28 ?_
        refine x_iret h hr ?_ dX2_valueOf_29
        subst ey1
        exact ⟨_, _, rfl, rfl, by simp_all [jval], rfl⟩
      · skip
        refine x_tout 34 h dX2_valueOf_1 (by have tq1_m4 := lv_neT q1_m4 (a := -4) (by decide); have tq1_m3 := lv_neT q1_m3 (a := -3) (by decide); have tq1_m2 := lv_neT q1_m2 (a := -2) (by decide); omega) (by decide) ?_
        refine x_ild0 h dX2_valueOf_34 ?_
        refine x_iret h hr ?_ dX2_valueOf_35
        subst ey1
        exact ⟨_, _, rfl, rfl, by simp_all [jval], rfl⟩
set_option maxRecDepth 100000 in
set_option maxHeartbeats 4000000 in
theorem c_X2_joined (B : BT) (σ : Nat → Nat → Int32) (c l x : Int32) : CI B yX2_joined cX2_joined 3 (some .int) ({ frames := 0, cells := 0, slots := 0, locals := 0 }) [.int c, .int l, .int x] σ (fun r σ' => r = jop c l x ∧ σ' = σ) := by
  refine MX.of2 RX2 (by decide) rfl ⟨rfl, rfl⟩ (Nat.le_of_ble_eq_true rfl) (by rfl) (fun k h hr hk => ?_)
  show XC B k σ 0 [some (.int c), some (.int l), some (.int x)] []
  refine x_ild0 h dX2_joined_0 ?_
  refine x_topi (fun y1 ey1 => ?_)
  by_cases q1_m13 : y1 = (-13)
  · rw [q1_m13] at ey1 ⊢
    refine x_tin 117 h dX2_joined_1 (by decide) (by decide) (by rfl) (by decide) ?_
    refine x_ild1 h dX2_joined_117 ?_
    refine x_ild2 h dX2_joined_118 ?_
    refine x_imul h dX2_joined_119 ?_
    refine x_iret h hr ?_ dX2_joined_120
    subst ey1
    exact ⟨_, _, rfl, rfl, by simp_all [jop], rfl⟩
  · skip
    by_cases q1_m12 : y1 = (-12)
    · rw [q1_m12] at ey1 ⊢
      refine x_tin 113 h dX2_joined_1 (by decide) (by decide) (by rfl) (by decide) ?_
      refine x_ild1 h dX2_joined_113 ?_
      refine x_ild2 h dX2_joined_114 ?_
      refine x_isub h dX2_joined_115 ?_
      refine x_iret h hr ?_ dX2_joined_116
      subst ey1
      exact ⟨_, _, rfl, rfl, by simp_all [jop], rfl⟩
    · skip
      by_cases q1_m11 : y1 = (-11)
      · rw [q1_m11] at ey1 ⊢
        refine x_tin 109 h dX2_joined_1 (by decide) (by decide) (by rfl) (by decide) ?_
        refine x_ild1 h dX2_joined_109 ?_
        refine x_ild2 h dX2_joined_110 ?_
        refine x_iadd h dX2_joined_111 ?_
        refine x_iret h hr ?_ dX2_joined_112
        subst ey1
        exact ⟨_, _, rfl, rfl, by simp_all [jop], rfl⟩
      · skip
        by_cases q1_m10 : y1 = (-10)
        · rw [q1_m10] at ey1 ⊢
          refine x_tin 98 h dX2_joined_1 (by decide) (by decide) (by rfl) (by decide) ?_
          refine x_ild1 h dX2_joined_98 ?_
          refine x_ild2 h dX2_joined_99 ?_
          refine x_icmp_le 107 h dX2_joined_100 (by decide) (fun c100 => ?_) (fun c100 => ?_)
          · refine x_iconst (v := 0) h dX2_joined_107 rfl ?_
            refine x_iret h hr ?_ dX2_joined_108
            subst ey1
            exact ⟨_, _, rfl, rfl, by simp_all [jop], rfl⟩
          · refine x_iconst (v := 1) h dX2_joined_103 rfl ?_
            refine x_goto 108 h dX2_joined_104 (by decide) ?_
            refine x_iret h hr ?_ dX2_joined_108
            subst ey1
            exact ⟨_, _, rfl, rfl, by simp_all [jop], rfl⟩
        · skip
          by_cases q1_m9 : y1 = (-9)
          · rw [q1_m9] at ey1 ⊢
            refine x_tin 87 h dX2_joined_1 (by decide) (by decide) (by rfl) (by decide) ?_
            refine x_ild1 h dX2_joined_87 ?_
            refine x_ild2 h dX2_joined_88 ?_
            refine x_icmp_ne 96 h dX2_joined_89 (by decide) (fun c89 => ?_) (fun c89 => ?_)
            · refine x_iconst (v := 0) h dX2_joined_96 rfl ?_
              refine x_iret h hr ?_ dX2_joined_97
              subst ey1
              exact ⟨_, _, rfl, rfl, by simp_all [jop], rfl⟩
            · refine x_iconst (v := 1) h dX2_joined_92 rfl ?_
              refine x_goto 97 h dX2_joined_93 (by decide) ?_
              refine x_iret h hr ?_ dX2_joined_97
              subst ey1
              exact ⟨_, _, rfl, rfl, by simp_all [jop], rfl⟩
          · skip
            by_cases q1_m8 : y1 = (-8)
            · rw [q1_m8] at ey1 ⊢
              refine x_tin 76 h dX2_joined_1 (by decide) (by decide) (by rfl) (by decide) ?_
              refine x_ild1 h dX2_joined_76 ?_
              refine x_ild2 h dX2_joined_77 ?_
              refine x_icmp_ge 85 h dX2_joined_78 (by decide) (fun c78 => ?_) (fun c78 => ?_)
              · refine x_iconst (v := 0) h dX2_joined_85 rfl ?_
                refine x_iret h hr ?_ dX2_joined_86
                subst ey1
                exact ⟨_, _, rfl, rfl, by simp_all [jop], rfl⟩
              · refine x_iconst (v := 1) h dX2_joined_81 rfl ?_
                refine x_goto 86 h dX2_joined_82 (by decide) ?_
                refine x_iret h hr ?_ dX2_joined_86
                subst ey1
                exact ⟨_, _, rfl, rfl, by simp_all [jop], rfl⟩
            · skip
              by_cases q1_m7 : y1 = (-7)
              · rw [q1_m7] at ey1 ⊢
                refine x_tin 62 h dX2_joined_1 (by decide) (by decide) (by rfl) (by decide) ?_
                refine x_ild1 h dX2_joined_62 ?_
                refine x_if_eq 74 h dX2_joined_63 (by decide) (fun c63 => ?_) (fun c63 => ?_)
                · refine x_iconst (v := 0) h dX2_joined_74 rfl ?_
                  refine x_iret h hr ?_ dX2_joined_75
                  subst ey1
                  exact ⟨_, _, rfl, rfl, by simp_all [jop], rfl⟩
                · refine x_ild2 h dX2_joined_66 ?_
                  refine x_if_eq 74 h dX2_joined_67 (by decide) (fun c67 => ?_) (fun c67 => ?_)
                  · refine x_iconst (v := 0) h dX2_joined_74 rfl ?_
                    refine x_iret h hr ?_ dX2_joined_75
                    subst ey1
                    exact ⟨_, _, rfl, rfl, by simp_all [jop], rfl⟩
                  · refine x_iconst (v := 1) h dX2_joined_70 rfl ?_
                    refine x_goto 75 h dX2_joined_71 (by decide) ?_
                    refine x_iret h hr ?_ dX2_joined_75
                    subst ey1
                    exact ⟨_, _, rfl, rfl, by simp_all [jop], rfl⟩
              · skip
                by_cases q1_m6 : y1 = (-6)
                · rw [q1_m6] at ey1 ⊢
                  refine x_tin 48 h dX2_joined_1 (by decide) (by decide) (by rfl) (by decide) ?_
                  refine x_ild1 h dX2_joined_48 ?_
                  refine x_if_ne 56 h dX2_joined_49 (by decide) (fun c49 => ?_) (fun c49 => ?_)
                  · refine x_iconst (v := 1) h dX2_joined_56 rfl ?_
                    refine x_goto 61 h dX2_joined_57 (by decide) ?_
                    refine x_iret h hr ?_ dX2_joined_61
                    subst ey1
                    exact ⟨_, _, rfl, rfl, by simp_all [jop], rfl⟩
                  · refine x_ild2 h dX2_joined_52 ?_
                    refine x_if_eq 60 h dX2_joined_53 (by decide) (fun c53 => ?_) (fun c53 => ?_)
                    · refine x_iconst (v := 0) h dX2_joined_60 rfl ?_
                      refine x_iret h hr ?_ dX2_joined_61
                      subst ey1
                      exact ⟨_, _, rfl, rfl, by simp_all [jop], rfl⟩
                    · refine x_iconst (v := 1) h dX2_joined_56 rfl ?_
                      refine x_goto 61 h dX2_joined_57 (by decide) ?_
                      refine x_iret h hr ?_ dX2_joined_61
                      subst ey1
                      exact ⟨_, _, rfl, rfl, by simp_all [jop], rfl⟩
                · skip
                  refine x_tout 121 h dX2_joined_1 (by have tq1_m13 := lv_neT q1_m13 (a := -13) (by decide); have tq1_m12 := lv_neT q1_m12 (a := -12) (by decide); have tq1_m11 := lv_neT q1_m11 (a := -11) (by decide); have tq1_m10 := lv_neT q1_m10 (a := -10) (by decide); have tq1_m9 := lv_neT q1_m9 (a := -9) (by decide); have tq1_m8 := lv_neT q1_m8 (a := -8) (by decide); have tq1_m7 := lv_neT q1_m7 (a := -7) (by decide); have tq1_m6 := lv_neT q1_m6 (a := -6) (by decide); omega) (by decide) ?_
                  refine x_ild2 h dX2_joined_121 ?_
                  refine x_if_ne 129 h dX2_joined_122 (by decide) (fun c122 => ?_) (fun c122 => ?_)
                  · refine x_ild1 h dX2_joined_129 ?_
                    refine x_ild2 h dX2_joined_130 ?_
                    refine x_idiv h dX2_joined_131 (by assumption) ?_
                    refine x_iret h hr ?_ dX2_joined_132
                    subst ey1
                    exact ⟨_, _, rfl, rfl, by simp_all [jop], rfl⟩
                  · refine x_iconst (v := 0) h dX2_joined_125 rfl ?_
                    refine x_goto 132 h dX2_joined_126 (by decide) ?_
                    refine x_iret h hr ?_ dX2_joined_132
                    subst ey1
                    exact ⟨_, _, rfl, rfl, by simp_all [jop], rfl⟩
theorem SR.not {s : Nat → Int32} {l : List Int32} {d : Nat} {v : Int32} (h : SR s l) (hl : l.length = d) (hd : 1 ≤ d) (hv : v = jnot (s (d - 1))) : SR (upd s (d - 1) v) (notL l) := by
  cases l with
  | nil => simp at hl; omega
  | cons x r =>
    have e : d - 1 = r.length := by simp at hl; omega
    rw [e] at hv ⊢
    rw [h.1] at hv
    show SR _ (jnot x :: r)
    rw [← hv]
    exact h.2.push
theorem SR.bin {s : Nat → Int32} {l : List Int32} {d : Nat} {c v : Int32} (h : SR s l) (hl : l.length = d) (hd : 2 ≤ d) (hv : v = jop c (s (d - 2)) (s (d - 1))) : SR (upd s (d - 2) v) (binL c l) := by
  cases l with
  | nil => simp at hl; omega
  | cons y l =>
    cases l with
    | nil => simp at hl; omega
    | cons x r =>
      have e : d - 2 = r.length := by simp at hl; omega
      have e1 : d - 1 = r.length + 1 := by simp at hl; omega
      rw [e, e1] at hv
      rw [e]
      have h1 : s (r.length + 1) = y := h.1
      rw [h1, h.2.1] at hv
      show SR _ (jop c x y :: r)
      rw [← hv]
      exact h.2.2.push
set_option maxRecDepth 100000 in
set_option maxHeartbeats 4000000 in
theorem c_X2_gives (B : BT) (σ : Nat → Nat → Int32) (t : Nat) (a b e : Int32) (hT : TxOK σ t) : CI B yX2_gives cX2_gives 9 (some .int) ({ frames := 1, cells := 0, slots := 0, locals := 23 }) [.ref (aB B 78), .int (nI t), .int a, .int b, .int e] σ (fun r σ' => r = TxV σ t a b e ∧ ∃ stk, σ' = up1 σ 39 stk) := by
  refine MX.of2 RX2 (by decide) rfl ⟨rfl, rfl⟩ (Nat.le_of_ble_eq_true rfl) (by rfl) (fun k h hr hk => ?_)
  show XC B k σ 0 [some (.ref (aB B 78)), some (.int (nI t)), some (.int a), some (.int b), some (.int e), none, none, none, none] []
  have hT' := hT
  obtain ⟨ht, n, hn, hw⟩ := hT'
  have hn2 := hw.2.1
  have loop : ∀ (f i : Nat) (stk : Nat → Int32), n < f + i → i ≤ n → SR stk (evS (σ (40 + t)) a b e i) → XC B k (up1 σ 39 stk) 14 [some (.ref (aB B 78)), some (.int (nI t)), some (.int a), some (.int b), some (.int e), some (.ref (aB B (40 + t))), some (.int (nI (dep (σ (40 + t)) i) - 1)), some (.int (nI i)), none] [] := by
    intro f
    induction f with
    | zero => intro i stk h1 h2; omega
    | succ f ih =>
      intro i stk h1 h2 hs
      have hlen := evS_len hw a b e i h2
      have hdl := dep_le (σ (40 + t)) i
      refine x_ild7 h dX2_gives_14 ?_
      refine x_ald0 h dX2_gives_16 ?_
      refine r_X2_16 h dX2_gives_17 ?_
      refine x_ild1 h dX2_gives_20 ?_
      refine xc_ialdN (t) (rfl) (ht) (by decide) h 36 (⟨by decide, fun _ _ => rfl⟩ : ArrC 36 14) dX2_gives_21 ?_
      refine x_icmp_ge 130 h dX2_gives_22 (by decide) (fun c22 => ?_) (fun c22 => ?_)
      · have c22 : σ 36 t ≤ nI i := c22
        rw [hn] at c22
        have c22 := n_le (by omega) (by omega) c22
        have ei : i = n := by omega
        subst ei
        refine x_ald0 h dX2_gives_130 ?_
        refine r_X2_26 h dX2_gives_131 ?_
        refine x_iconst (v := 0) h dX2_gives_134 rfl ?_
        refine xc_ialdN (0) (rfl) (by decide) (by decide) h 39 (⟨by decide, fun _ _ => rfl⟩ : ArrC 39 96) dX2_gives_135 ?_
        refine x_iret h hr ?_ dX2_gives_136
        have hl1 := evS_len hw a b e i (by omega)
        rw [hw.2.2.2] at hl1
        refine ⟨_, _, rfl, rfl, ?_, stk, rfl⟩
        show stk 0 = TxV σ t a b e
        unfold TxV evV
        rw [hn, ix_n (by omega)]
        cases hq : evS (σ (40 + t)) a b e i with
        | nil => rw [hq] at hl1; simp at hl1
        | cons v w =>
          cases w with
          | nil => rw [hq] at hs; exact hs.1
          | cons v2 w2 => rw [hq] at hl1; simp at hl1
      · have c22 : ¬ σ 36 t ≤ nI i := c22
        rw [hn] at c22
        have c22 := n_nle (by omega) (by omega) c22
        have hwi := hw.2.2.1 i (by omega)
        refine x_ald5 h dX2_gives_25 ?_
        refine x_ild7 h dX2_gives_27 ?_
        refine xc_ialdN (i) (rfl) (by omega) (by decide) h (40 + t) (arr_c ht) dX2_gives_29 ?_
        rw [up1_n (by omega : 40 + t ≠ 39)]
        refine x_ist8 h dX2_gives_30 (by rw [hk]; decide) rfl ?_
        refine x_ild8 h dX2_gives_32 ?_
        refine x_bipush (v := (-5)) h dX2_gives_34 rfl ?_
        refine x_icmp_le 61 h dX2_gives_36 (by decide) (fun c36 => ?_) (fun c36 => ?_)
        · refine x_ild8 h dX2_gives_61 ?_
          refine x_bipush (v := (-5)) h dX2_gives_63 rfl ?_
          refine x_icmp_ne 93 h dX2_gives_65 (by decide) (fun c65 => ?_) (fun c65 => ?_)
          · have hd2 : 2 ≤ dep (σ (40 + t)) i := by
              rcases hwi with q | ⟨q, -⟩ | ⟨-, -, q⟩
              · exact absurd c36 q
              · exact absurd q c65
              · exact q
            have ed : dep (σ (40 + t)) (i + 1) = dep (σ (40 + t)) i - 1 := by
              show (if ¬ (σ (40 + t)) i ≤ -5 then dep (σ (40 + t)) i + 1 else if (σ (40 + t)) i = -5 then dep (σ (40 + t)) i else dep (σ (40 + t)) i - 1) = _
              rw [if_neg (fun q => q c36), if_neg c65]
            have et : nI (dep (σ (40 + t)) i) - 1 + (-1) = nI (dep (σ (40 + t)) (i + 1)) - 1 := by rw [ed, idx2 hd2, idx1 (by omega)]; rfl
            have hs' : SR (upd stk (dep (σ (40 + t)) i - 2) (jop ((σ (40 + t)) i) (stk (dep (σ (40 + t)) i - 2)) (stk (dep (σ (40 + t)) i - 1)))) (evS (σ (40 + t)) a b e (i + 1)) := by
              rw [evS_s]
              unfold evStep
              rw [if_neg (fun q => q c36), if_neg c65]
              exact hs.bin hlen hd2 (c := σ (40 + t) i) rfl
            refine x_inc6 (y := (-1)) h dX2_gives_93 (by rw [hk]; decide) rfl rfl ?_
            refine x_ald0 h dX2_gives_96 ?_
            refine r_X2_26 h dX2_gives_97 ?_
            refine x_ild6 h dX2_gives_100 ?_
            refine x_ild8 h dX2_gives_102 ?_
            refine x_ald0 h dX2_gives_104 ?_
            refine r_X2_26 h dX2_gives_105 ?_
            refine x_ild6 h dX2_gives_108 ?_
            refine xc_ialdN (dep (σ (40 + t)) i - 2) (idx2 hd2) (by omega) (by decide) h 39 (⟨by decide, fun _ _ => rfl⟩ : ArrC 39 96) dX2_gives_110 ?_
            refine x_ald0 h dX2_gives_111 ?_
            refine r_X2_26 h dX2_gives_112 ?_
            refine x_ild6 h dX2_gives_115 ?_
            refine x_iconst (v := 1) h dX2_gives_117 rfl ?_
            refine x_iadd h dX2_gives_118 ?_
            refine xc_ialdN (dep (σ (40 + t)) i - 1) (idx2b hd2) (by omega) (by decide) h 39 (⟨by decide, fun _ _ => rfl⟩ : ArrC 39 96) dX2_gives_119 ?_
            refine sCI3 h cs_X2_52 (c_X2_joined B _ _ _ _) ⟨rfl, rfl⟩ ⟨Nat.le_of_ble_eq_true rfl, Nat.le_of_ble_eq_true rfl⟩ (Nat.le_of_ble_eq_true rfl) dX2_gives_120 (fun r120 s120 p120 => ?_)
            obtain ⟨rfl, rfl⟩ := p120
            refine xc_iastN (dep (σ (40 + t)) i - 2) (idx2 hd2) (by omega) (by decide) h 39 (⟨by decide, fun _ _ => rfl⟩ : ArrC 39 96) dX2_gives_123 ?_
            refine x_inc7 (y := 1) h dX2_gives_124 (by rw [hk]; decide) rfl rfl ?_
            refine x_goto 14 h dX2_gives_127 (by decide) ?_
            rw [up2_up1, et, nI_1 i]
            refine x_loc (Lsb.s (Lsb.s (Lsb.s (Lsb.s (Lsb.s (Lsb.s (Lsb.s (Lsb.s (Lsb.n Lsb.e))))))))) ?_
            exact ih (i + 1) _ (by omega) (by omega) hs'
          · have hd1 : 1 ≤ dep (σ (40 + t)) i := by
              rcases hwi with q | ⟨-, q⟩ | ⟨-, q, -⟩
              · exact absurd c36 q
              · exact q
              · exact absurd c65 q
            have ed : dep (σ (40 + t)) (i + 1) = dep (σ (40 + t)) i := by
              show (if ¬ (σ (40 + t)) i ≤ -5 then dep (σ (40 + t)) i + 1 else if (σ (40 + t)) i = -5 then dep (σ (40 + t)) i else dep (σ (40 + t)) i - 1) = _
              rw [if_neg (fun q => q c36), if_pos c65]
            have et : nI (dep (σ (40 + t)) i) - 1 = nI (dep (σ (40 + t)) (i + 1)) - 1 := by rw [ed]
            have hs' : ∀ v, v = jnot (stk (dep (σ (40 + t)) i - 1)) → SR (upd stk (dep (σ (40 + t)) i - 1) v) (evS (σ (40 + t)) a b e (i + 1)) := by
              intro v hv
              rw [evS_s]
              unfold evStep
              rw [if_neg (fun q => q c36), if_pos c65]
              exact hs.not hlen hd1 hv
            refine x_ald0 h dX2_gives_68 ?_
            refine r_X2_26 h dX2_gives_69 ?_
            refine x_ild6 h dX2_gives_72 ?_
            refine x_ald0 h dX2_gives_74 ?_
            refine r_X2_26 h dX2_gives_75 ?_
            refine x_ild6 h dX2_gives_78 ?_
            refine xc_ialdN (dep (σ (40 + t)) i - 1) (idx1 hd1) (by omega) (by decide) h 39 (⟨by decide, fun _ _ => rfl⟩ : ArrC 39 96) dX2_gives_80 ?_
            refine x_if_ne 88 h dX2_gives_81 (by decide) (fun c81 => ?_) (fun c81 => ?_)
            · have c81 : ¬ stk (dep (σ (40 + t)) i - 1) = 0 := c81
              have hs' := hs' 0 (by unfold jnot; rw [if_neg c81])
              refine x_iconst (v := 0) h dX2_gives_88 rfl ?_
              refine xc_iastN (dep (σ (40 + t)) i - 1) (idx1 hd1) (by omega) (by decide) h 39 (⟨by decide, fun _ _ => rfl⟩ : ArrC 39 96) dX2_gives_89 ?_
              refine x_goto 124 h dX2_gives_90 (by decide) ?_
              refine x_inc7 (y := 1) h dX2_gives_124 (by rw [hk]; decide) rfl rfl ?_
              refine x_goto 14 h dX2_gives_127 (by decide) ?_
              rw [up2_up1, et, nI_1 i]
              refine x_loc (Lsb.s (Lsb.s (Lsb.s (Lsb.s (Lsb.s (Lsb.s (Lsb.s (Lsb.s (Lsb.n Lsb.e))))))))) ?_
              exact ih (i + 1) _ (by omega) (by omega) hs'
            · have c81 : stk (dep (σ (40 + t)) i - 1) = 0 := c81
              have hs' := hs' 1 (by unfold jnot; rw [if_pos c81])
              refine x_iconst (v := 1) h dX2_gives_84 rfl ?_
              refine x_goto 89 h dX2_gives_85 (by decide) ?_
              refine xc_iastN (dep (σ (40 + t)) i - 1) (idx1 hd1) (by omega) (by decide) h 39 (⟨by decide, fun _ _ => rfl⟩ : ArrC 39 96) dX2_gives_89 ?_
              refine x_goto 124 h dX2_gives_90 (by decide) ?_
              refine x_inc7 (y := 1) h dX2_gives_124 (by rw [hk]; decide) rfl rfl ?_
              refine x_goto 14 h dX2_gives_127 (by decide) ?_
              rw [up2_up1, et, nI_1 i]
              refine x_loc (Lsb.s (Lsb.s (Lsb.s (Lsb.s (Lsb.s (Lsb.s (Lsb.s (Lsb.s (Lsb.n Lsb.e))))))))) ?_
              exact ih (i + 1) _ (by omega) (by omega) hs'
        · have ed : dep (σ (40 + t)) (i + 1) = dep (σ (40 + t)) i + 1 := if_pos c36
          have et : nI (dep (σ (40 + t)) i) - 1 + 1 = nI (dep (σ (40 + t)) (i + 1)) - 1 := by rw [ed, idx1b, idx1 (by omega)]; rfl
          have hs' : SR (upd stk (dep (σ (40 + t)) i) (jval ((σ (40 + t)) i) a b e)) (evS (σ (40 + t)) a b e (i + 1)) := by
            rw [evS_s]
            unfold evStep
            rw [if_pos c36, ← hlen]
            exact hs.push
          refine x_inc6 (y := 1) h dX2_gives_39 (by rw [hk]; decide) rfl rfl ?_
          refine x_ald0 h dX2_gives_42 ?_
          refine r_X2_26 h dX2_gives_43 ?_
          refine x_ild6 h dX2_gives_46 ?_
          refine x_ild8 h dX2_gives_48 ?_
          refine x_ild2 h dX2_gives_50 ?_
          refine x_ild3 h dX2_gives_51 ?_
          refine x_ild4 h dX2_gives_52 ?_
          refine sCI4 h cs_X2_48 (c_X2_valueOf B _ _ _ _ _) ⟨rfl, rfl⟩ ⟨Nat.le_of_ble_eq_true rfl, Nat.le_of_ble_eq_true rfl⟩ (Nat.le_of_ble_eq_true rfl) dX2_gives_54 (fun r54 s54 p54 => ?_)
          obtain ⟨rfl, rfl⟩ := p54
          refine xc_iastN (dep (σ (40 + t)) i) (idx1b) (by omega) (by decide) h 39 (⟨by decide, fun _ _ => rfl⟩ : ArrC 39 96) dX2_gives_57 ?_
          refine x_goto 124 h dX2_gives_58 (by decide) ?_
          refine x_inc7 (y := 1) h dX2_gives_124 (by rw [hk]; decide) rfl rfl ?_
          refine x_goto 14 h dX2_gives_127 (by decide) ?_
          rw [up2_up1, et, nI_1 i]
          refine x_loc (Lsb.s (Lsb.s (Lsb.s (Lsb.s (Lsb.s (Lsb.s (Lsb.s (Lsb.s (Lsb.n Lsb.e))))))))) ?_
          exact ih (i + 1) _ (by omega) (by omega) hs'
  have loop := loop (n + 1) 0 (σ 39) (by omega) (by omega) trivial
  rw [up1_self] at loop
  refine x_ald0 h dX2_gives_0 ?_
  refine r_X2_11 h dX2_gives_1 ?_
  refine x_ild1 h dX2_gives_4 ?_
  refine xc_aaldO rfl ht h dX2_gives_5 ?_
  refine x_ast5 h dX2_gives_6 (by rw [hk]; decide) rfl ?_
  refine x_iconst (v := (-1)) h dX2_gives_8 rfl ?_
  refine x_ist6 h dX2_gives_9 (by rw [hk]; decide) rfl ?_
  refine x_iconst (v := 0) h dX2_gives_11 rfl ?_
  refine x_ist7 h dX2_gives_12 (by rw [hk]; decide) rfl ?_
  exact loop
