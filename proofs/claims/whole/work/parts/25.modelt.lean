/-! the model's texts, over the class's codes -/
def trC (key : Nat) (c : Int32) : Int32 := if 0 ≤ c then c else if c = -2 then 10000 else if c = -3 then (if key = 0 then 10001 else 10000) else if c = -4 then (if key = 0 then 10002 else 10001) else if c = -5 then -10 else c + 5
/-- a code that a text of that key may hold -/
def okC (key : Nat) (c : Int32) : Prop := (∃ n, n < 10000 ∧ c = nI n) ∨ (c = -2 ∧ key = 0) ∨ c = -3 ∨ c = -4 ∨ c = -5 ∨ c = -6 ∨ c = -7 ∨ c = -8 ∨ c = -9 ∨ c = -10 ∨ c = -11 ∨ c = -12 ∨ c = -13 ∨ c = -14
def TxRel (σ : ST) (T : Nat → Int32) (t : Nat) : Prop := ∃ n key, n ≤ 96 ∧ key < 3 ∧ σ 36 t = nI n ∧ σ 37 t = nI key ∧ wfT (σ (40 + t)) n ∧ T (2 * t) = nI (1000 * key + n) ∧ T (2 * t + 1) = σ 38 t ∧ ∀ k, k < n → T (28 + 96 * t + k) = trC key (σ (40 + t) k) ∧ okC key (σ (40 + t) k)
def lastK (σ : ST) (key : Nat) : Nat → Int32
  | 0 => -1
  | t + 1 => if σ 37 t = nI key then nI t else lastK σ key t
def TR (σ : ST) (h : HT) (T : Nat → Int32) : Prop := ∃ N, N ≤ 14 ∧ h 0 14 = nI N ∧ (∀ t, t < N → TxRel σ T t) ∧ ∀ key, key < 3 → h 9 key = lastK σ key N
/-- the model's state: its stack, its facts, its row -/
def MW (μ : ST) (stk fc : Nat → Int32) (h : HT) (T : Nat → Int32) : ST := up1 (up1 (up1 μ 13 stk) 14 fc) 1 (en h T)
theorem MW_0 {μ : ST} {h : HT} {T : Nat → Int32} : up1 μ 1 (en h T) = MW μ (μ 13) (μ 14) h T := by
  unfold MW
  rw [up1_self]
  congr 1
  exact (up1_self (σ := μ) (q := 14)).symm
theorem MW_13 {μ : ST} {stk fc : Nat → Int32} {h : HT} {T : Nat → Int32} {i : Nat} {v : Int32} : up2 (MW μ stk fc h T) 13 i v = MW μ (upd stk i v) fc h T := by
  funext q j
  unfold MW up1 up2
  by_cases h1 : q = 13
  · subst h1; rfl
  · rw [if_neg h1]
    by_cases h2 : q = 1
    · subst h2; rfl
    · simp only [if_neg h1, if_neg h2]
theorem MW_14 {μ : ST} {stk fc : Nat → Int32} {h : HT} {T : Nat → Int32} {i : Nat} {v : Int32} : up2 (MW μ stk fc h T) 14 i v = MW μ stk (upd fc i v) h T := by
  funext q j
  unfold MW up1 up2
  by_cases h1 : q = 14
  · subst h1; rfl
  · rw [if_neg h1]
    by_cases h2 : q = 1
    · subst h2; rfl
    · simp only [if_neg h1, if_neg h2]
def jtwo (c l r : Int32) : Int32 := jop (c - 5) l r
theorem jtwo_e {c l r : Int32} {d : Int32} (hd : c - 5 = d) : jtwo c l r = jop d l r := by rw [← hd]; rfl
def jtwoX (c l r : Int32) : Int32 := if c = -1 then (if l = 0 ∧ r = 0 then 0 else 1) else if c = -2 then (if l = 0 ∨ r = 0 then 0 else 1) else if c = -3 then (if l < r then 1 else 0) else if c = -4 then (if l = r then 1 else 0) else if c = -5 then (if r < l then 1 else 0) else if c = -6 then l + r else if c = -7 then l - r else if c = -8 then l * r else if r = 0 then 0 else l / r
set_option maxRecDepth 100000 in
set_option maxHeartbeats 4000000 in
theorem c_X8_two (B : BT) (μ : Nat → Nat → Int32) (δ : Nat → Int64) (c l r : Int32) : MI B yX8_two cX8_two 3 (some .int) ({ frames := 0, cells := 0, slots := 0, locals := 0 }) [.int c, .int l, .int r] μ δ (fun v μ' δ' => v = jtwoX c l r ∧ μ' = μ ∧ δ' = δ) := by
  refine MX.of2 RX8 (by decide) rfl ⟨rfl, rfl⟩ (Nat.le_of_ble_eq_true rfl) (by rfl) (fun k ho hr hk => ?_)
  show XM B k μ δ 0 [some (.int c), some (.int l), some (.int r)] []
  refine x_ild0 ho dX8_two_0 ?_
  refine x_topi (fun y1 ey1 => ?_)
  by_cases q1_m8 : y1 = (-8)
  · rw [q1_m8] at ey1 ⊢
    refine x_tin 117 ho dX8_two_1 (by decide) (by decide) (by rfl) (by decide) ?_
    refine x_ild1 ho dX8_two_117 ?_
    refine x_ild2 ho dX8_two_118 ?_
    refine x_imul ho dX8_two_119 ?_
    refine x_iret ho hr ?_ dX8_two_120
    subst ey1
    exact ⟨_, _, _, rfl, rfl, by simp_all [jtwoX], rfl, rfl⟩
  · skip
    by_cases q1_m7 : y1 = (-7)
    · rw [q1_m7] at ey1 ⊢
      refine x_tin 113 ho dX8_two_1 (by decide) (by decide) (by rfl) (by decide) ?_
      refine x_ild1 ho dX8_two_113 ?_
      refine x_ild2 ho dX8_two_114 ?_
      refine x_isub ho dX8_two_115 ?_
      refine x_iret ho hr ?_ dX8_two_116
      subst ey1
      exact ⟨_, _, _, rfl, rfl, by simp_all [jtwoX], rfl, rfl⟩
    · skip
      by_cases q1_m6 : y1 = (-6)
      · rw [q1_m6] at ey1 ⊢
        refine x_tin 109 ho dX8_two_1 (by decide) (by decide) (by rfl) (by decide) ?_
        refine x_ild1 ho dX8_two_109 ?_
        refine x_ild2 ho dX8_two_110 ?_
        refine x_iadd ho dX8_two_111 ?_
        refine x_iret ho hr ?_ dX8_two_112
        subst ey1
        exact ⟨_, _, _, rfl, rfl, by simp_all [jtwoX], rfl, rfl⟩
      · skip
        by_cases q1_m5 : y1 = (-5)
        · rw [q1_m5] at ey1 ⊢
          refine x_tin 98 ho dX8_two_1 (by decide) (by decide) (by rfl) (by decide) ?_
          refine x_ild1 ho dX8_two_98 ?_
          refine x_ild2 ho dX8_two_99 ?_
          refine x_icmp_le 107 ho dX8_two_100 (by decide) (fun c100 => ?_) (fun c100 => ?_)
          · refine x_iconst (v := 0) ho dX8_two_107 rfl ?_
            refine x_iret ho hr ?_ dX8_two_108
            subst ey1
            exact ⟨_, _, _, rfl, rfl, by simp_all [jtwoX], rfl, rfl⟩
          · refine x_iconst (v := 1) ho dX8_two_103 rfl ?_
            refine x_goto 108 ho dX8_two_104 (by decide) ?_
            refine x_iret ho hr ?_ dX8_two_108
            subst ey1
            exact ⟨_, _, _, rfl, rfl, by simp_all [jtwoX], rfl, rfl⟩
        · skip
          by_cases q1_m4 : y1 = (-4)
          · rw [q1_m4] at ey1 ⊢
            refine x_tin 87 ho dX8_two_1 (by decide) (by decide) (by rfl) (by decide) ?_
            refine x_ild1 ho dX8_two_87 ?_
            refine x_ild2 ho dX8_two_88 ?_
            refine x_icmp_ne 96 ho dX8_two_89 (by decide) (fun c89 => ?_) (fun c89 => ?_)
            · refine x_iconst (v := 0) ho dX8_two_96 rfl ?_
              refine x_iret ho hr ?_ dX8_two_97
              subst ey1
              exact ⟨_, _, _, rfl, rfl, by simp_all [jtwoX], rfl, rfl⟩
            · refine x_iconst (v := 1) ho dX8_two_92 rfl ?_
              refine x_goto 97 ho dX8_two_93 (by decide) ?_
              refine x_iret ho hr ?_ dX8_two_97
              subst ey1
              exact ⟨_, _, _, rfl, rfl, by simp_all [jtwoX], rfl, rfl⟩
          · skip
            by_cases q1_m3 : y1 = (-3)
            · rw [q1_m3] at ey1 ⊢
              refine x_tin 76 ho dX8_two_1 (by decide) (by decide) (by rfl) (by decide) ?_
              refine x_ild1 ho dX8_two_76 ?_
              refine x_ild2 ho dX8_two_77 ?_
              refine x_icmp_ge 85 ho dX8_two_78 (by decide) (fun c78 => ?_) (fun c78 => ?_)
              · refine x_iconst (v := 0) ho dX8_two_85 rfl ?_
                refine x_iret ho hr ?_ dX8_two_86
                subst ey1
                exact ⟨_, _, _, rfl, rfl, by simp_all [jtwoX], rfl, rfl⟩
              · refine x_iconst (v := 1) ho dX8_two_81 rfl ?_
                refine x_goto 86 ho dX8_two_82 (by decide) ?_
                refine x_iret ho hr ?_ dX8_two_86
                subst ey1
                exact ⟨_, _, _, rfl, rfl, by simp_all [jtwoX], rfl, rfl⟩
            · skip
              by_cases q1_m2 : y1 = (-2)
              · rw [q1_m2] at ey1 ⊢
                refine x_tin 62 ho dX8_two_1 (by decide) (by decide) (by rfl) (by decide) ?_
                refine x_ild1 ho dX8_two_62 ?_
                refine x_if_eq 74 ho dX8_two_63 (by decide) (fun c63 => ?_) (fun c63 => ?_)
                · refine x_iconst (v := 0) ho dX8_two_74 rfl ?_
                  refine x_iret ho hr ?_ dX8_two_75
                  subst ey1
                  exact ⟨_, _, _, rfl, rfl, by simp_all [jtwoX], rfl, rfl⟩
                · refine x_ild2 ho dX8_two_66 ?_
                  refine x_if_eq 74 ho dX8_two_67 (by decide) (fun c67 => ?_) (fun c67 => ?_)
                  · refine x_iconst (v := 0) ho dX8_two_74 rfl ?_
                    refine x_iret ho hr ?_ dX8_two_75
                    subst ey1
                    exact ⟨_, _, _, rfl, rfl, by simp_all [jtwoX], rfl, rfl⟩
                  · refine x_iconst (v := 1) ho dX8_two_70 rfl ?_
                    refine x_goto 75 ho dX8_two_71 (by decide) ?_
                    refine x_iret ho hr ?_ dX8_two_75
                    subst ey1
                    exact ⟨_, _, _, rfl, rfl, by simp_all [jtwoX], rfl, rfl⟩
              · skip
                by_cases q1_m1 : y1 = (-1)
                · rw [q1_m1] at ey1 ⊢
                  refine x_tin 48 ho dX8_two_1 (by decide) (by decide) (by rfl) (by decide) ?_
                  refine x_ild1 ho dX8_two_48 ?_
                  refine x_if_ne 56 ho dX8_two_49 (by decide) (fun c49 => ?_) (fun c49 => ?_)
                  · refine x_iconst (v := 1) ho dX8_two_56 rfl ?_
                    refine x_goto 61 ho dX8_two_57 (by decide) ?_
                    refine x_iret ho hr ?_ dX8_two_61
                    subst ey1
                    exact ⟨_, _, _, rfl, rfl, by simp_all [jtwoX], rfl, rfl⟩
                  · refine x_ild2 ho dX8_two_52 ?_
                    refine x_if_eq 60 ho dX8_two_53 (by decide) (fun c53 => ?_) (fun c53 => ?_)
                    · refine x_iconst (v := 0) ho dX8_two_60 rfl ?_
                      refine x_iret ho hr ?_ dX8_two_61
                      subst ey1
                      exact ⟨_, _, _, rfl, rfl, by simp_all [jtwoX], rfl, rfl⟩
                    · refine x_iconst (v := 1) ho dX8_two_56 rfl ?_
                      refine x_goto 61 ho dX8_two_57 (by decide) ?_
                      refine x_iret ho hr ?_ dX8_two_61
                      subst ey1
                      exact ⟨_, _, _, rfl, rfl, by simp_all [jtwoX], rfl, rfl⟩
                · skip
                  refine x_tout 121 ho dX8_two_1 (by have tq1_m8 := lv_neT q1_m8 (a := -8) (by decide); have tq1_m7 := lv_neT q1_m7 (a := -7) (by decide); have tq1_m6 := lv_neT q1_m6 (a := -6) (by decide); have tq1_m5 := lv_neT q1_m5 (a := -5) (by decide); have tq1_m4 := lv_neT q1_m4 (a := -4) (by decide); have tq1_m3 := lv_neT q1_m3 (a := -3) (by decide); have tq1_m2 := lv_neT q1_m2 (a := -2) (by decide); have tq1_m1 := lv_neT q1_m1 (a := -1) (by decide); omega) (by decide) ?_
                  refine x_ild2 ho dX8_two_121 ?_
                  refine x_if_ne 129 ho dX8_two_122 (by decide) (fun c122 => ?_) (fun c122 => ?_)
                  · refine x_ild1 ho dX8_two_129 ?_
                    refine x_ild2 ho dX8_two_130 ?_
                    refine x_idiv ho dX8_two_131 (c122) ?_
                    refine x_iret ho hr ?_ dX8_two_132
                    subst ey1
                    exact ⟨_, _, _, rfl, rfl, by simp_all [jtwoX], rfl, rfl⟩
                  · refine x_iconst (v := 0) ho dX8_two_125 rfl ?_
                    refine x_goto 132 ho dX8_two_126 (by decide) ?_
                    refine x_iret ho hr ?_ dX8_two_132
                    subst ey1
                    exact ⟨_, _, _, rfl, rfl, by simp_all [jtwoX], rfl, rfl⟩
theorem div_k {key n : Nat} (hk : key < 3) (hn : n ≤ 96) : nI (1000 * key + n) / 1000 = nI key := by
  rw [show (1000 : Int32) = nI 1000 from rfl, pk_div (a := 1000 * key + n) (d := 1000) (by omega) (by omega) (by omega), show (1000 * key + n) / 1000 = key by omega]
theorem ix97 (t : Nat) : (97 : Int32) + 2 * nI t = nI (97 + 2 * t) := by
  rw [show (2 : Int32) * nI t = nI (2 * t) from pk_mul 2 t]
  exact nI_add 97 (2 * t)
set_option maxRecDepth 100000 in
set_option maxHeartbeats 4000000 in
theorem c_X8_counts (B : BT) (μ : Nat → Nat → Int32) (δ : Nat → Int64) (h : HT) (T : Nat → Int32) (σ : ST) (hTR : TR σ h T) (key : Nat) (hkey : key < 3) : MI B yX8_counts cX8_counts 3 (some .int) ({ frames := 0, cells := 0, slots := 0, locals := 0 }) [.ref (aB B 0), .int (nI key)] (up1 μ 1 (en h T)) δ (fun r μ' δ' => r = h 9 key ∧ μ' = up1 μ 1 (en h T) ∧ δ' = δ) := by
  refine MX.of2 RX8 (by decide) rfl ⟨rfl, rfl⟩ (Nat.le_of_ble_eq_true rfl) (by rfl) (fun k ho hr hk => ?_)
  show XM B k (up1 μ 1 (en h T)) δ 0 [some (.ref (aB B 0)), some (.int (nI key)), none] []
  obtain ⟨N, hN14, hN, hTx, hl⟩ := hTR
  have loop : ∀ (f t1 : Nat), t1 < f → t1 ≤ N → h 9 key = lastK σ key t1 → XM B k (up1 μ 1 (en h T)) δ 10 [some (.ref (aB B 0)), some (.int (nI key)), some (.int (nI t1 - 1))] [] := by
    intro f
    induction f with
    | zero => intro t1 h1; omega
    | succ f ih =>
      intro t1 h1 h2 e1
      refine x_ild2 ho dX8_counts_10 ?_
      refine x_if_lt 41 ho dX8_counts_11 (by decide) (fun c11 => ?_) (fun c11 => ?_)
      · have et : t1 = 0 := by
          cases t1 with
          | zero => rfl
          | succ t =>
            exfalso
            rw [← nI_1, Int32.add_sub_cancel] at c11
            exact nI_n0 t (by omega) c11
        subst et
        refine x_iconst (v := (-1)) ho dX8_counts_41 rfl ?_
        refine x_iret ho hr ?_ dX8_counts_42
        exact ⟨_, _, _, rfl, rfl, e1.symm, rfl, rfl⟩
      · obtain ⟨t, rfl⟩ : ∃ t, t1 = t + 1 := by
          cases t1 with
          | zero => exact absurd (show (nI 0 - 1 : Int32) < 0 by decide) c11
          | succ t => exact ⟨t, rfl⟩
        rw [← nI_1, Int32.add_sub_cancel]
        obtain ⟨n, ky, hn96, hk3, e3, e4, e6, e5, -⟩ := hTx t (by omega)
        refine x_ald0 ho dX8_counts_14 ?_
        refine r_X8_9 ho dX8_counts_15 ?_
        refine x_bipush (v := 97) ho dX8_counts_18 rfl ?_
        refine x_iconst (v := 2) ho dX8_counts_20 rfl ?_
        refine x_ild2 ho dX8_counts_21 ?_
        refine x_imul ho dX8_counts_22 ?_
        refine x_iadd ho dX8_counts_23 ?_
        refine m_ld (97 + 2 * t) (ix97 t) (by omega) ho dX8_counts_24 ?_
        rw [en_T]
        rw [e5]
        refine x_sipush (v := 1000) ho dX8_counts_25 rfl ?_
        refine x_idiv ho dX8_counts_28 (by decide) ?_
        rw [div_k hk3 hn96]
        refine x_ild1 ho dX8_counts_29 ?_
        refine x_icmp_ne 35 ho dX8_counts_30 (by decide) (fun c30 => ?_) (fun c30 => ?_)
        · have e2 : lastK σ key (t + 1) = lastK σ key t := if_neg (by rw [e4]; exact c30)
          refine x_inc2 (y := (-1)) ho dX8_counts_35 (by rw [hk]; decide) rfl rfl ?_
          refine x_goto 10 ho dX8_counts_38 (by decide) ?_
          rw [show nI t + -1 = nI t - 1 from (Int32.sub_eq_add_neg _ _).symm]
          exact ih t (by omega) (by omega) (e1.trans e2)
        · have e2 : lastK σ key (t + 1) = nI t := if_pos (by rw [e4]; exact c30)
          refine x_ild2 ho dX8_counts_33 ?_
          refine x_iret ho hr ?_ dX8_counts_34
          exact ⟨_, _, _, rfl, rfl, (e1.trans e2).symm, rfl, rfl⟩
  have loop := loop (N + 1) N (by omega) (by omega) (hl key hkey)
  refine x_ald0 ho dX8_counts_0 ?_
  refine r_X8_9 ho dX8_counts_1 ?_
  refine x_bipush (v := 6) ho dX8_counts_4 rfl ?_
  refine m_ld (6) (rfl) (by omega) ho dX8_counts_6 ?_
  change XM B k _ _ _ _ (.int (h 0 14) :: _)
  rw [hN]
  refine x_iconst (v := 1) ho dX8_counts_7 rfl ?_
  refine x_isub ho dX8_counts_8 ?_
  refine x_ist2 ho dX8_counts_9 (by rw [hk]; decide) rfl ?_
  exact loop
theorem rem_k {key n : Nat} (hk : key < 3) (hn : n ≤ 96) : jrem (nI (1000 * key + n)) 1000 = nI n := by
  unfold jrem
  rw [div_k hk hn, show nI key * 1000 = nI (key * 1000) from pk_mul key 1000, show 1000 * key + n = n + key * 1000 by omega, ← nI_add, Int32.add_sub_cancel]
theorem ix125 (t k : Nat) : (125 : Int32) + 96 * nI t + nI k = nI (97 + (28 + 96 * t + k)) := by
  rw [show (96 : Int32) * nI t = nI (96 * t) from pk_mul 96 t, show (125 : Int32) + nI (96 * t) = nI (125 + 96 * t) from nI_add 125 _, nI_add, show 125 + 96 * t + k = 97 + (28 + 96 * t + k) by omega]
/-- the facts that a text of that key sees -/
def fcOK (key : Nat) (fc : Nat → Int32) (a b e : Int32) : Prop := if key = 0 then fc 0 = a ∧ fc 1 = b ∧ fc 2 = e else fc 0 = b ∧ fc 1 = e
theorem nI_0le {n : Nat} (hn : n < 2 ^ 31) : 0 ≤ nI n := Int32.not_lt.mp (nI_n0 n hn)
theorem okC_v {key : Nat} {c : Int32} (h : okC key c) (hv : ¬ c ≤ -5) : (0 ≤ trC key c) ∧ ((trC key c < 10000 ∧ jval c = fun _ _ _ => trC key c) ∨ ∃ j, j < 3 ∧ trC key c = nI (10000 + j) ∧ ∀ fc a b e, fcOK key fc a b e → jval c a b e = fc j) := by
  rcases h with ⟨n, hn, rfl⟩ | ⟨rfl, hk⟩ | rfl | rfl | rfl | rfl | rfl | rfl | rfl | rfl | rfl | rfl | rfl | rfl
  · have h0 : 0 ≤ nI n := nI_0le (by omega)
    have e : trC key (nI n) = nI n := if_pos h0
    rw [e]
    refine ⟨h0, Or.inl ⟨nI_lt (by omega) (by decide), ?_⟩⟩
    funext a b e'
    unfold jval
    rw [if_neg (fun q => by rw [q] at h0; exact absurd h0 (by decide)), if_neg (fun q => by rw [q] at h0; exact absurd h0 (by decide)), if_neg (fun q => by rw [q] at h0; exact absurd h0 (by decide))]
  · subst hk
    exact ⟨by decide, Or.inr ⟨0, by omega, rfl, fun fc a b e hf => hf.1.symm⟩⟩
  · by_cases hk : key = 0
    · subst hk
      exact ⟨by decide, Or.inr ⟨1, by omega, rfl, fun fc a b e hf => hf.2.1.symm⟩⟩
    · have e : trC key (-3) = 10000 := if_neg hk
      rw [e]
      exact ⟨by decide, Or.inr ⟨0, by omega, rfl, fun fc a b e hf => ((if_neg hk).mp hf).1.symm⟩⟩
  · by_cases hk : key = 0
    · subst hk
      exact ⟨by decide, Or.inr ⟨2, by omega, rfl, fun fc a b e hf => hf.2.2.symm⟩⟩
    · have e : trC key (-4) = 10001 := if_neg hk
      rw [e]
      exact ⟨by decide, Or.inr ⟨1, by omega, rfl, fun fc a b e hf => ((if_neg hk).mp hf).2.symm⟩⟩
  all_goals exact absurd (by decide) hv
theorem okC_n {key : Nat} {c : Int32} (h : okC key c) (hv : c ≤ -5) (h5 : ¬ c = -5) : ¬ 0 ≤ trC key c ∧ ¬ trC key c = -10 ∧ ∀ l r, jtwoX (trC key c) l r = jop c l r := by
  rcases h with ⟨n, hn, rfl⟩ | ⟨rfl, hk⟩ | rfl | rfl | rfl | rfl | rfl | rfl | rfl | rfl | rfl | rfl | rfl | rfl
  · exact absurd (Int32.le_trans (nI_0le (n := n) (by omega)) hv) (by decide)
  · exact absurd hv (by decide)
  · exact absurd hv (by decide)
  · exact absurd hv (by decide)
  · exact absurd rfl h5
  · exact ⟨(by decide : ¬ (0 : Int32) ≤ -1), (by decide : ¬ (-1 : Int32) = -10), fun l r => rfl⟩
  · exact ⟨(by decide : ¬ (0 : Int32) ≤ -2), (by decide : ¬ (-2 : Int32) = -10), fun l r => rfl⟩
  · exact ⟨(by decide : ¬ (0 : Int32) ≤ -3), (by decide : ¬ (-3 : Int32) = -10), fun l r => rfl⟩
  · exact ⟨(by decide : ¬ (0 : Int32) ≤ -4), (by decide : ¬ (-4 : Int32) = -10), fun l r => rfl⟩
  · exact ⟨(by decide : ¬ (0 : Int32) ≤ -5), (by decide : ¬ (-5 : Int32) = -10), fun l r => rfl⟩
  · exact ⟨(by decide : ¬ (0 : Int32) ≤ -6), (by decide : ¬ (-6 : Int32) = -10), fun l r => rfl⟩
  · exact ⟨(by decide : ¬ (0 : Int32) ≤ -7), (by decide : ¬ (-7 : Int32) = -10), fun l r => rfl⟩
  · exact ⟨(by decide : ¬ (0 : Int32) ≤ -8), (by decide : ¬ (-8 : Int32) = -10), fun l r => rfl⟩
  · exact ⟨(by decide : ¬ (0 : Int32) ≤ -9), (by decide : ¬ (-9 : Int32) = -10), fun l r => rfl⟩
theorem okC_lt {key : Nat} {c : Int32} (h : okC key c) (hv : c ≤ -5) : trC key c < 0 := by
  by_cases h5 : c = -5
  · subst h5
    exact (by decide : (-10 : Int32) < 0)
  · exact Int32.not_le.mp (okC_n h hv h5).1
theorem idm1 {d : Nat} (h : 1 ≤ d) : nI d + -1 = nI (d - 1) := by
  rw [← Int32.sub_eq_add_neg]
  exact sub_nI (b := 1) h
theorem idm2 {d : Nat} (h : 2 ≤ d) : nI d + -1 - 1 = nI (d - 2) := by
  rw [idm1 (by omega), show d - 2 = d - 1 - 1 by omega]
  exact sub_nI (a := d - 1) (b := 1) (by omega)
theorem idm0 {d : Nat} (h : 1 ≤ d) : nI d - 1 = nI (d - 1) := sub_nI (b := 1) h
section XW25
variable {B : BT} {k : KT} {cc : ByteArray} {own : String} {rm : Room} {μ : ST} {δ : Nat → Int64} {pc : Nat} {L : List (Option Value)} {st : List Value} {stk fc : Nat → Int32} {h : HT} {T : Nat → Int32}
theorem m_ldW {i : Int32} (m : Nat) (hi : i = nI m) (hm : m < 1469) (ho : Ok (GM B) k cc own rm) (hdg : decode cc pc = .ok (.iaload, 1)) (kk : XM B k (MW μ stk fc h T) δ (pc + 1) L (.int (en h T m) :: st)) : XM B k (MW μ stk fc h T) δ pc L (.int i :: .ref (aB B 1) :: st) := m_ld m hi hm ho hdg kk
end XW25
set_option maxRecDepth 100000 in
set_option maxHeartbeats 4000000 in
theorem c_X8_worksOut (B : BT) (μ : Nat → Nat → Int32) (δ : Nat → Int64) (h : HT) (T : Nat → Int32) (stk fc : Nat → Int32) (σ : ST) (t key : Nat) (ht : t < 14) (hx : TxRel σ T t) (hky : σ 37 t = nI key) (hk3 : key < 3) (a b e : Int32) (hfc : fcOK key fc a b e) : MI B yX8_worksOut cX8_worksOut 6 (some .int) ({ frames := 1, cells := 0, slots := 0, locals := 22 }) [.ref (aB B 0), .int (nI t)] (MW μ stk fc h T) δ (fun r μ' δ' => r = TxV σ t a b e ∧ ∃ stk', μ' = MW μ stk' fc h T ∧ δ' = δ) := by
  refine MX.of2 RX8 (by decide) rfl ⟨rfl, rfl⟩ (Nat.le_of_ble_eq_true rfl) (by rfl) (fun k ho hr hk => ?_)
  show XM B k (MW μ stk fc h T) δ 0 [some (.ref (aB B 0)), some (.int (nI t)), none, none, none, none] []
  obtain ⟨n, key', hn96, hk3', hn36, hky', hw, hT0, -, hcd⟩ := hx
  have ekk : key' = key := by
    have h1 := congrArg ix (hky'.symm.trans hky)
    rwa [ix_n (by omega), ix_n (by omega)] at h1
  subst ekk
  have loop : ∀ (f i : Nat) (stk : Nat → Int32), n < f + i → i ≤ n → SR stk (evS (σ (40 + t)) a b e i) → XM B k (MW μ stk fc h T) δ 21 [some (.ref (aB B 0)), some (.int (nI t)), some (.int (nI (dep (σ (40 + t)) i))), some (.int (nI n)), some (.int (nI i)), none] [] := by
    intro f
    induction f with
    | zero => intro i stk h1 h2; omega
    | succ f ih =>
      intro i stk h1 h2 hs
      have hlen := evS_len hw a b e i h2
      have hdl := dep_le (σ (40 + t)) i
      refine x_ild4 ho dX8_worksOut_21 ?_
      refine x_ild3 ho dX8_worksOut_23 ?_
      refine x_icmp_ge 155 ho dX8_worksOut_24 (by decide) (fun c24 => ?_) (fun c24 => ?_)
      · have c24 := n_le (by omega) (by omega) c24
        have ei : i = n := by omega
        subst ei
        refine x_ald0 ho dX8_worksOut_155 ?_
        refine r_X8_49 ho dX8_worksOut_156 ?_
        refine x_iconst (v := 0) ho dX8_worksOut_159 rfl ?_
        refine xm_ialdN (0) (rfl) 13 (by decide) ho (by decide) (fun _ => rfl) dX8_worksOut_160 ?_
        refine x_iret ho hr ?_ dX8_worksOut_161
        have hl1 := evS_len hw a b e i (by omega)
        rw [hw.2.2.2] at hl1
        refine ⟨_, _, _, rfl, rfl, ?_, stk, rfl, rfl⟩
        show stk 0 = TxV σ t a b e
        unfold TxV evV
        rw [hn36, ix_n (by omega)]
        cases hq : evS (σ (40 + t)) a b e i with
        | nil => rw [hq] at hl1; simp at hl1
        | cons v w =>
          cases w with
          | nil => rw [hq] at hs; exact hs.1
          | cons v2 w2 => rw [hq] at hl1; simp at hl1
      · have c24 := n_nle (by omega) (by omega) c24
        have hwi := hw.2.2.1 i (by omega)
        have hci := hcd i (by omega)
        have hok := hci.2
        refine x_ald0 ho dX8_worksOut_27 ?_
        refine r_X8_9 ho dX8_worksOut_28 ?_
        refine x_bipush (v := 125) ho dX8_worksOut_31 rfl ?_
        refine x_bipush (v := 96) ho dX8_worksOut_33 rfl ?_
        refine x_ild1 ho dX8_worksOut_35 ?_
        refine x_imul ho dX8_worksOut_36 ?_
        refine x_iadd ho dX8_worksOut_37 ?_
        refine x_ild4 ho dX8_worksOut_38 ?_
        refine x_iadd ho dX8_worksOut_40 ?_
        refine m_ldW (97 + (28 + 96 * t + i)) (ix125 t i) (by omega) ho dX8_worksOut_41 ?_
        rw [en_T, hci.1]
        refine x_ist5 ho dX8_worksOut_42 (by rw [hk]; decide) rfl ?_
        refine x_ild5 ho dX8_worksOut_44 ?_
        refine x_if_lt 85 ho dX8_worksOut_46 (by decide) (fun c46 => ?_) (fun c46 => ?_)
        · have cv : (σ (40 + t)) i ≤ -5 := Decidable.byContradiction (fun z => absurd (okC_v hok z).1 (Int32.not_le.mpr c46))
          refine x_ild5 ho dX8_worksOut_85 ?_
          refine x_bipush (v := (-10)) ho dX8_worksOut_87 rfl ?_
          refine x_icmp_ne 119 ho dX8_worksOut_89 (by decide) (fun c89 => ?_) (fun c89 => ?_)
          · have c65 : ¬ (σ (40 + t)) i = -5 := fun q => c89 (by rw [q]; rfl)
            have hd2 : 2 ≤ dep (σ (40 + t)) i := by
              rcases hwi with q | ⟨q, -⟩ | ⟨-, -, q⟩
              · exact absurd cv q
              · exact absurd q c65
              · exact q
            have ed : dep (σ (40 + t)) (i + 1) = dep (σ (40 + t)) i - 1 := by
              show (if ¬ (σ (40 + t)) i ≤ -5 then dep (σ (40 + t)) i + 1 else if (σ (40 + t)) i = -5 then dep (σ (40 + t)) i else dep (σ (40 + t)) i - 1) = _
              rw [if_neg (fun q => q cv), if_neg c65]
            have et : nI (dep (σ (40 + t)) i) + -1 = nI (dep (σ (40 + t)) (i + 1)) := by rw [ed, idm1 (by omega)]
            have hs' : SR (upd stk (dep (σ (40 + t)) i - 2) (jop ((σ (40 + t)) i) (stk (dep (σ (40 + t)) i - 2)) (stk (dep (σ (40 + t)) i - 1)))) (evS (σ (40 + t)) a b e (i + 1)) := by
              rw [evS_s]
              unfold evStep
              rw [if_neg (fun q => q cv), if_neg c65]
              exact hs.bin hlen hd2 (c := (σ (40 + t)) i) rfl
            refine x_inc2 (y := (-1)) ho dX8_worksOut_119 (by rw [hk]; decide) rfl rfl ?_
            refine x_ald0 ho dX8_worksOut_122 ?_
            refine r_X8_49 ho dX8_worksOut_123 ?_
            refine x_ild2 ho dX8_worksOut_126 ?_
            refine x_iconst (v := 1) ho dX8_worksOut_127 rfl ?_
            refine x_isub ho dX8_worksOut_128 ?_
            refine x_ild5 ho dX8_worksOut_129 ?_
            refine x_ald0 ho dX8_worksOut_131 ?_
            refine r_X8_49 ho dX8_worksOut_132 ?_
            refine x_ild2 ho dX8_worksOut_135 ?_
            refine x_iconst (v := 1) ho dX8_worksOut_136 rfl ?_
            refine x_isub ho dX8_worksOut_137 ?_
            refine xm_ialdN (dep (σ (40 + t)) i - 2) (idm2 hd2) 13 (by show dep (σ (40 + t)) i - 2 < 96; omega) ho (by decide) (fun _ => rfl) dX8_worksOut_138 ?_
            change XM B k _ _ _ _ (.int (stk (dep (σ (40 + t)) i - 2)) :: _)
            refine x_ald0 ho dX8_worksOut_139 ?_
            refine r_X8_49 ho dX8_worksOut_140 ?_
            refine x_ild2 ho dX8_worksOut_143 ?_
            refine xm_ialdN (dep (σ (40 + t)) i - 1) (idm1 (by omega)) 13 (by show dep (σ (40 + t)) i - 1 < 96; omega) ho (by decide) (fun _ => rfl) dX8_worksOut_144 ?_
            change XM B k _ _ _ _ (.int (stk (dep (σ (40 + t)) i - 1)) :: _)
            refine sMI3 ho cs_X8_253 (c_X8_two B _ _ _ _ _) ⟨rfl, rfl⟩ ⟨Nat.le_of_ble_eq_true rfl, Nat.le_of_ble_eq_true rfl⟩ (Nat.le_of_ble_eq_true rfl) dX8_worksOut_145 (fun r145 s145 t145 p145 => ?_)
            obtain ⟨rfl, rfl, rfl⟩ := p145
            rw [(okC_n hok cv c65).2.2]
            refine xm_iastN (dep (σ (40 + t)) i - 2) (idm2 hd2) 13 (by show dep (σ (40 + t)) i - 2 < 96; omega) ho (by decide) (by decide) (fun _ => rfl) dX8_worksOut_148 ?_
            rw [MW_13]
            refine x_inc4 (y := 1) ho dX8_worksOut_149 (by rw [hk]; decide) rfl rfl ?_
            refine x_goto 21 ho dX8_worksOut_152 (by decide) ?_
            rw [et, nI_1 i]
            refine x_loc (Lsb.s (Lsb.s (Lsb.s (Lsb.s (Lsb.s (Lsb.n Lsb.e)))))) ?_
            exact ih (i + 1) _ (by omega) (by omega) hs'
          · have c65 : (σ (40 + t)) i = -5 := Decidable.byContradiction (fun q => (okC_n hok cv q).2.1 c89)
            have hd1 : 1 ≤ dep (σ (40 + t)) i := by
              rcases hwi with q | ⟨-, q⟩ | ⟨-, q, -⟩
              · exact absurd cv q
              · exact q
              · exact absurd c65 q
            have ed : dep (σ (40 + t)) (i + 1) = dep (σ (40 + t)) i := by
              show (if ¬ (σ (40 + t)) i ≤ -5 then dep (σ (40 + t)) i + 1 else if (σ (40 + t)) i = -5 then dep (σ (40 + t)) i else dep (σ (40 + t)) i - 1) = _
              rw [if_neg (fun q => q cv), if_pos c65]
            have et : nI (dep (σ (40 + t)) i) = nI (dep (σ (40 + t)) (i + 1)) := by rw [ed]
            have hs' : ∀ v, v = jnot (stk (dep (σ (40 + t)) i - 1)) → SR (upd stk (dep (σ (40 + t)) i - 1) v) (evS (σ (40 + t)) a b e (i + 1)) := by
              intro v hv
              rw [evS_s]
              unfold evStep
              rw [if_neg (fun q => q cv), if_pos c65]
              exact hs.not hlen hd1 hv
            refine x_ald0 ho dX8_worksOut_92 ?_
            refine r_X8_49 ho dX8_worksOut_93 ?_
            refine x_ild2 ho dX8_worksOut_96 ?_
            refine x_iconst (v := 1) ho dX8_worksOut_97 rfl ?_
            refine x_isub ho dX8_worksOut_98 ?_
            refine x_ald0 ho dX8_worksOut_99 ?_
            refine r_X8_49 ho dX8_worksOut_100 ?_
            refine x_ild2 ho dX8_worksOut_103 ?_
            refine x_iconst (v := 1) ho dX8_worksOut_104 rfl ?_
            refine x_isub ho dX8_worksOut_105 ?_
            refine xm_ialdN (dep (σ (40 + t)) i - 1) (idm0 hd1) 13 (by show dep (σ (40 + t)) i - 1 < 96; omega) ho (by decide) (fun _ => rfl) dX8_worksOut_106 ?_
            change XM B k _ _ _ _ (.int (stk (dep (σ (40 + t)) i - 1)) :: _)
            refine x_if_ne 114 ho dX8_worksOut_107 (by decide) (fun c107 => ?_) (fun c107 => ?_)
            · have hs' := hs' 0 (by unfold jnot; rw [if_neg c107])
              refine x_iconst (v := 0) ho dX8_worksOut_114 rfl ?_
              refine xm_iastN (dep (σ (40 + t)) i - 1) (idm0 hd1) 13 (by show dep (σ (40 + t)) i - 1 < 96; omega) ho (by decide) (by decide) (fun _ => rfl) dX8_worksOut_115 ?_
              rw [MW_13]
              refine x_goto 149 ho dX8_worksOut_116 (by decide) ?_
              refine x_inc4 (y := 1) ho dX8_worksOut_149 (by rw [hk]; decide) rfl rfl ?_
              refine x_goto 21 ho dX8_worksOut_152 (by decide) ?_
              rw [et, nI_1 i]
              refine x_loc (Lsb.s (Lsb.s (Lsb.s (Lsb.s (Lsb.s (Lsb.n Lsb.e)))))) ?_
              exact ih (i + 1) _ (by omega) (by omega) hs'
            · have hs' := hs' 1 (by unfold jnot; rw [if_pos c107])
              refine x_iconst (v := 1) ho dX8_worksOut_110 rfl ?_
              refine x_goto 115 ho dX8_worksOut_111 (by decide) ?_
              refine xm_iastN (dep (σ (40 + t)) i - 1) (idm0 hd1) 13 (by show dep (σ (40 + t)) i - 1 < 96; omega) ho (by decide) (by decide) (fun _ => rfl) dX8_worksOut_115 ?_
              rw [MW_13]
              refine x_goto 149 ho dX8_worksOut_116 (by decide) ?_
              refine x_inc4 (y := 1) ho dX8_worksOut_149 (by rw [hk]; decide) rfl rfl ?_
              refine x_goto 21 ho dX8_worksOut_152 (by decide) ?_
              rw [et, nI_1 i]
              refine x_loc (Lsb.s (Lsb.s (Lsb.s (Lsb.s (Lsb.s (Lsb.n Lsb.e)))))) ?_
              exact ih (i + 1) _ (by omega) (by omega) hs'
        · have cv : ¬ (σ (40 + t)) i ≤ -5 := fun z => c46 (okC_lt hok z)
          have hvv := okC_v hok cv
          have ed : dep (σ (40 + t)) (i + 1) = dep (σ (40 + t)) i + 1 := if_pos cv
          have et : nI (dep (σ (40 + t)) i) + 1 = nI (dep (σ (40 + t)) (i + 1)) := by rw [ed, nI_1]
          have hs' : ∀ v, v = jval ((σ (40 + t)) i) a b e → SR (upd stk (dep (σ (40 + t)) i) v) (evS (σ (40 + t)) a b e (i + 1)) := by
            intro v hv
            rw [evS_s]
            unfold evStep
            rw [if_pos cv, ← hlen, hv]
            exact hs.push
          refine x_ald0 ho dX8_worksOut_49 ?_
          refine r_X8_49 ho dX8_worksOut_50 ?_
          refine x_ild2 ho dX8_worksOut_53 ?_
          refine x_ild5 ho dX8_worksOut_54 ?_
          refine x_sipush (v := 10000) ho dX8_worksOut_56 rfl ?_
          refine x_icmp_ge 67 ho dX8_worksOut_59 (by decide) (fun c59 => ?_) (fun c59 => ?_)
          · obtain ⟨j, hj, e5, hf⟩ := hvv.2.resolve_left (fun z => absurd z.1 (Int32.not_lt.mpr c59))
            have hs' := hs' (fc j) (hf fc a b e hfc).symm
            refine x_ald0 ho dX8_worksOut_67 ?_
            refine r_X8_52 ho dX8_worksOut_68 ?_
            refine x_ild5 ho dX8_worksOut_71 ?_
            refine x_sipush (v := 10000) ho dX8_worksOut_73 rfl ?_
            refine x_isub ho dX8_worksOut_76 ?_
            refine xm_ialdN (j) (by rw [e5]; exact (sub_nI (a := 10000 + j) (b := 10000) (by omega)).trans (by rw [Nat.add_sub_cancel_left])) 14 (by show j < 4; omega) ho (by decide) (fun _ => rfl) dX8_worksOut_77 ?_
            change XM B k _ _ _ _ (.int (fc j) :: _)
            refine xm_iastN (dep (σ (40 + t)) i) (rfl) 13 (by show dep (σ (40 + t)) i < 96; omega) ho (by decide) (by decide) (fun _ => rfl) dX8_worksOut_78 ?_
            rw [MW_13]
            refine x_inc2 (y := 1) ho dX8_worksOut_79 (by rw [hk]; decide) rfl rfl ?_
            refine x_goto 149 ho dX8_worksOut_82 (by decide) ?_
            refine x_inc4 (y := 1) ho dX8_worksOut_149 (by rw [hk]; decide) rfl rfl ?_
            refine x_goto 21 ho dX8_worksOut_152 (by decide) ?_
            rw [et, nI_1 i]
            refine x_loc (Lsb.s (Lsb.s (Lsb.s (Lsb.s (Lsb.s (Lsb.n Lsb.e)))))) ?_
            exact ih (i + 1) _ (by omega) (by omega) hs'
          · have hs' := hs' _ (hvv.2.elim (fun z => by rw [z.2]) (fun z => by
              obtain ⟨j, hj, e5, -⟩ := z
              exfalso
              rw [e5] at c59
              exact c59 (nI_le (a := 10000) (by omega) (by omega))))
            refine x_ild5 ho dX8_worksOut_62 ?_
            refine x_goto 78 ho dX8_worksOut_64 (by decide) ?_
            refine xm_iastN (dep (σ (40 + t)) i) (rfl) 13 (by show dep (σ (40 + t)) i < 96; omega) ho (by decide) (by decide) (fun _ => rfl) dX8_worksOut_78 ?_
            rw [MW_13]
            refine x_inc2 (y := 1) ho dX8_worksOut_79 (by rw [hk]; decide) rfl rfl ?_
            refine x_goto 149 ho dX8_worksOut_82 (by decide) ?_
            refine x_inc4 (y := 1) ho dX8_worksOut_149 (by rw [hk]; decide) rfl rfl ?_
            refine x_goto 21 ho dX8_worksOut_152 (by decide) ?_
            rw [et, nI_1 i]
            refine x_loc (Lsb.s (Lsb.s (Lsb.s (Lsb.s (Lsb.s (Lsb.n Lsb.e)))))) ?_
            exact ih (i + 1) _ (by omega) (by omega) hs'
  have loop := loop (n + 1) 0 stk (by omega) (by omega) trivial
  refine x_iconst (v := 0) ho dX8_worksOut_0 rfl ?_
  refine x_ist2 ho dX8_worksOut_1 (by rw [hk]; decide) rfl ?_
  refine x_ald0 ho dX8_worksOut_2 ?_
  refine r_X8_9 ho dX8_worksOut_3 ?_
  refine x_bipush (v := 97) ho dX8_worksOut_6 rfl ?_
  refine x_iconst (v := 2) ho dX8_worksOut_8 rfl ?_
  refine x_ild1 ho dX8_worksOut_9 ?_
  refine x_imul ho dX8_worksOut_10 ?_
  refine x_iadd ho dX8_worksOut_11 ?_
  refine m_ldW (97 + 2 * t) (ix97 t) (by omega) ho dX8_worksOut_12 ?_
  rw [en_T, hT0]
  refine x_sipush (v := 1000) ho dX8_worksOut_13 rfl ?_
  refine x_irem ho dX8_worksOut_16 (by decide) ?_
  rw [rem_k hk3 hn96]
  refine x_ist3 ho dX8_worksOut_17 (by rw [hk]; decide) rfl ?_
  refine x_iconst (v := 0) ho dX8_worksOut_18 rfl ?_
  refine x_ist4 ho dX8_worksOut_19 (by rw [hk]; decide) rfl ?_
  exact loop
