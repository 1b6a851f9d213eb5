/-! text -/
section TG49
variable {μ : ST} {s e k v d ky nc na hd x : Int32} {c w t f : Nat → Int32} {i : Nat}
theorem TG_id : TG μ (μ 0 10) (μ 0 9) (μ 0 11) (μ 0 12) (μ 0 13) (μ 0 14) (μ 0 18) (μ 0 19) (μ 0 21) (μ 10) (μ 11) (μ 12) = μ := by
  have e1 : MB μ (μ 0 14) (μ 0 18) (μ 0 19) (μ 0 21) (μ 10) (μ 11) (μ 12) = μ := by
    unfold MB
    rw [show gK (μ 0) (μ 0 14) (μ 0 18) (μ 0 19) (μ 0 21) = μ 0 from ?_, up1_self, up1_self, up1_self, up1_self]
    funext i
    unfold gK
    by_cases h1 : i = 14
    · rw [if_pos h1, h1]
    · rw [if_neg h1]
      by_cases h2 : i = 18
      · rw [if_pos h2, h2]
      · rw [if_neg h2]
        by_cases h3 : i = 19
        · rw [if_pos h3, h3]
        · rw [if_neg h3]
          by_cases h4 : i = 21
          · rw [if_pos h4, h4]
          · rw [if_neg h4]
  unfold TG
  rw [e1]
  exact SG_id
theorem TG_90 : up2 (TG μ s e k v d ky nc na hd c w t) 0 9 0 = TG μ s (nI 0) k v d ky nc na hd c w t := SG_9
theorem TG_13 : up2 (TG μ s e k v d ky nc na hd c w t) 0 13 x = TG μ s e k v x ky nc na hd c w t := SG_13
theorem up2_po {M : ST} {p q j : Nat} {g : Nat → Int32} (hpq : p ≠ q) : up2 (up1 M p g) q j x = up1 (up2 M q j x) p g := by
  rw [up1_up2, up1_n hpq.symm, up1_comm hpq]
  rfl
theorem MB_8 : up2 (MB μ ky nc na hd c w t) 0 8 x = MB (up2 μ 0 8 x) ky nc na hd c w t := by
  have e : up2 (up1 μ 0 (gK (μ 0) ky nc na hd)) 0 8 x = up1 (up2 μ 0 8 x) 0 (gK (up2 μ 0 8 x 0) ky nc na hd) := by
    rw [up2_up1, up1_up2 (x := x), up1_up1, up1_s]
    congr 1
    funext i
    unfold upd gK
    by_cases h5 : i = 8
    · subst h5; rfl
    · simp [h5]
  unfold MB
  rw [up2_po (by decide), up2_po (by decide), up2_po (by decide), e]
theorem TG_8 : up2 (TG μ s e k v d ky nc na hd c w t) 0 8 x = TG (up2 μ 0 8 x) s e k v d ky nc na hd c w t := by
  unfold TG
  rw [SG_o (by decide), MB_8]
theorem MB_1 : up2 (MB (up1 μ 1 f) ky nc na hd c w t) 1 i x = MB (up1 μ 1 (upd f i x)) ky nc na hd c w t := by
  unfold MB
  rw [up2_po (by decide), up2_po (by decide), up2_po (by decide), up2_po (by decide), up2_up1]
  rfl
theorem TG_1 : up2 (TG (up1 μ 1 f) s e k v d ky nc na hd c w t) 1 i x = TG (up1 μ 1 (upd f i x)) s e k v d ky nc na hd c w t := by
  unfold TG
  rw [SG_r (by decide), MB_1]
theorem TG_f {q : Nat} (h : q ≠ 0 ∧ q ≠ 10 ∧ q ≠ 11 ∧ q ≠ 12) : TG μ s e k v d ky nc na hd c w t q = μ q := by
  obtain ⟨h1, h2, h3, h4⟩ := h
  unfold TG SG MB
  rw [up1_n h1, up1_n h4, up1_n h3, up1_n h2, up1_n h1]
end TG49
/-- all but the words and the texts' rows as it was -/
def EX (μ : ST) (h : HT) (T : Nat → Int32) (μ' : ST) : Prop := ∃ s e k v d ky nc na hd c w t, μ' = TG (up1 (up2 μ 0 8 0) 1 (en h T)) s e k v d ky nc na hd c w t
def Tn (T : Nat → Int32) (N key nc na : Nat) (c : Nat → Int32) : Nat → Int32 := va_cpy c (upd (upd T (2 * N) (nI (1000 * key + nc))) (2 * N + 1) (nI na)) 0 (28 + 96 * N) nc
set_option maxRecDepth 100000 in
set_option maxHeartbeats 4000000 in
theorem c_X8_text (B : BT) (μ : Nat → Nat → Int32) (δ : Nat → Int64) (h : HT) (T : Nat → Int32) (n N : Nat) (hn : μ 0 8 = nI n) (hn96 : n ≤ 96) (hC : KC μ) (hN : h 0 14 = nI N) (hN14 : N ≤ 14) (cs : Nat → Int32) : MI B yX8_text cX8_text 4 (some .int) ({ frames := 4, cells := 0, slots := 0, locals := 87 }) [.ref (aB B 0)] (up1 μ 1 (en h T)) δ (fun r μ' δ' => ((pTB (μ 7) n cs = false ∧ r = -100 - nI (tS (μ 7) n (pTS (μ 7) n cs).1) ∧ EX μ h T μ') ∨ (pTB (μ 7) n cs = true ∧ ((N = 14 ∧ r = -1000000003 ∧ EX μ h T μ') ∨ (N < 14 ∧ r = nI N ∧ ∃ key nc na c, key < 3 ∧ pTk (μ 7) n cs = nI key ∧ CRM key (pTS (μ 7) n cs) nc c na ∧ nc ≤ 96 ∧ EX μ (up2 h 0 14 (nI (N + 1))) (Tn T N key nc na c) μ')))) ∧ δ' = δ) := by
  refine MX.of2 RX8 (by decide) rfl ⟨rfl, rfl⟩ (Nat.le_of_ble_eq_true rfl) (by rfl) (fun k ho hr hk => ?_)
  show XM B k (up1 μ 1 (en h T)) δ 0 [some (.ref (aB B 0)), none, none, none] []
  rw [← TG_id (μ := (up1 μ 1 (en h T)))]
  have hE0 := tE_b (b := ((up1 μ 1 (en h T)) 7)) (n := n) (p := 0) (Nat.zero_le n)
  have hCM : KC (up1 μ 1 (en h T)) := hC
  have hnM : (up1 μ 1 (en h T)) 0 8 = nI n := hn
  have hEI0 : EI ((up1 μ 1 (en h T)) 7) n 0 (-1) := Or.inr ⟨fun s _ hs z => absurd (show ¬ nI s < 0 from nI_n0 s (by omega)) (by rw [z]; decide), fun z => absurd z.1 (Nat.lt_irrefl 0)⟩
  have KF : ∀ (v d ky nc na hd : Int32) (c w t : Nat → Int32) (p : Nat), pTB ((up1 μ 1 (en h T)) 7) n cs = false → p = (pTS ((up1 μ 1 (en h T)) 7) n cs).1 → XM B k (TG (up1 μ 1 (en h T)) (nI (tS ((up1 μ 1 (en h T)) 7) n p)) (nI (tE ((up1 μ 1 (en h T)) 7) n p)) (tK ((up1 μ 1 (en h T)) 7) n p) v d ky nc na hd c w t) δ 33 [some (.ref (aB B 0)), none, none, none] [.int 0] := by
    intro v d ky nc na hd c w t p hB hpp
    refine x_ist1 ho dX8_text_33 (by rw [hk]; decide) rfl ?_
    refine x_ald0 ho dX8_text_34 ?_
    refine x_iconst (v := 0) ho dX8_text_35 rfl ?_
    refine w_X8_188 ho dX8_text_36 ?_
    rw [TG_8, up2_1o (by decide)]
    refine x_ild1 ho dX8_text_39 ?_
    refine x_if_ne 51 ho dX8_text_40 (by decide) (fun c40 => ?_) (fun c40 => ?_)
    · exact absurd rfl c40
    · refine x_bipush (v := (-100)) ho dX8_text_43 rfl ?_
      refine x_ald0 ho dX8_text_45 ?_
      refine r_X8_195 ho dX8_text_46 ?_
      change XM B k _ _ _ _ (.int (nI (tS ((up1 μ 1 (en h T)) 7) n p)) :: _)
      refine x_isub ho dX8_text_49 ?_
      refine x_iret ho hr ?_ dX8_text_50
      subst hpp
      exact ⟨_, _, _, rfl, rfl, Or.inl ⟨hB, rfl, _, _, _, _, _, _, _, _, _, _, _, _, rfl⟩, rfl⟩
  have K18b : ∀ (v d ky nc na hd : Int32) (c w t : Nat → Int32), ¬ 0 ≤ pTk ((up1 μ 1 (en h T)) 7) n cs → XM B k (TG (up1 μ 1 (en h T)) (nI (tS ((up1 μ 1 (en h T)) 7) n 0)) (nI (tE ((up1 μ 1 (en h T)) 7) n 0)) (tK ((up1 μ 1 (en h T)) 7) n 0) v d ky nc na hd c w t) δ 18 [some (.ref (aB B 0)), none, none, none] [.int 0] := by
    intro v d ky nc na hd c w t hk0
    have hB := pTB_f (b := ((up1 μ 1 (en h T)) 7)) (n := n) (c := cs) hk0
    have e0 : (pTS ((up1 μ 1 (en h T)) 7) n cs).1 = 0 := by unfold pTS; rw [if_neg hk0]; rfl
    refine x_if_eq 32 ho dX8_text_18 (by decide) (fun c18 => ?_) (fun c18 => ?_)
    · refine x_iconst (v := 0) ho dX8_text_32 rfl ?_
      exact KF v d ky nc na hd c w t 0 hB e0.symm
    · exact absurd rfl c18
  have K18a : ∀ (v d nc na hd : Int32) (c w t : Nat → Int32), 0 ≤ pTk ((up1 μ 1 (en h T)) 7) n cs → VV ((up1 μ 1 (en h T)) 7) n (tE ((up1 μ 1 (en h T)) 7) n 0) v → (¬ (tK ((up1 μ 1 (en h T)) 7) n (tE ((up1 μ 1 (en h T)) 7) n 0)) = 0 → EI ((up1 μ 1 (en h T)) 7) n (tE ((up1 μ 1 (en h T)) 7) n (tE ((up1 μ 1 (en h T)) 7) n 0)) d) → XM B k (TG (up1 μ 1 (en h T)) (nI (tS ((up1 μ 1 (en h T)) 7) n (tE ((up1 μ 1 (en h T)) 7) n 0))) (nI (tE ((up1 μ 1 (en h T)) 7) n (tE ((up1 μ 1 (en h T)) 7) n 0))) (tK ((up1 μ 1 (en h T)) 7) n (tE ((up1 μ 1 (en h T)) 7) n 0)) v d (pTk ((up1 μ 1 (en h T)) 7) n cs) nc na hd c w t) δ 18 [some (.ref (aB B 0)), none, none, none] [.int 1] := by
    intro v d nc na hd c w t hk0 hV hE
    obtain ⟨key, hky, -, hk2⟩ := pKey_rg hk0
    have hk3 : key < 3 := by omega
    have hky : pTk ((up1 μ 1 (en h T)) 7) n cs = nI key := hky
    rw [hky]
    have hp0 : 0 < (tE ((up1 μ 1 (en h T)) 7) n 0) := by
      refine Nat.pos_of_ne_zero (fun z => ?_)
      have h1 : ¬ n ≤ (tS ((up1 μ 1 (en h T)) 7) n 0) := fun q => by
        refine pk_no (n := n) (c := cs) (fun j hj => wdP_f (Or.inl ?_)) hk0
        rw [tK_0 q]
        decide
      have h2 := hE0.2.2 (by omega)
      omega
    have KS : ∀ (s e kk v d : Int32) (nc na : Nat) (hd : Int32) (c w t : Nat → Int32), pTB ((up1 μ 1 (en h T)) 7) n cs = true → CRM key (pTS ((up1 μ 1 (en h T)) 7) n cs) nc c na → nc ≤ 96 → XM B k (TG (up1 μ 1 (en h T)) s e kk v d (nI key) (nI nc) (nI na) hd c w t) δ 33 [some (.ref (aB B 0)), none, none, none] [.int 1] := by
      intro s e kk v d nc na hd c w t hB hCR hn9
      refine x_ist1 ho dX8_text_33 (by rw [hk]; decide) rfl ?_
      refine x_ald0 ho dX8_text_34 ?_
      refine x_iconst (v := 0) ho dX8_text_35 rfl ?_
      refine w_X8_188 ho dX8_text_36 ?_
      rw [TG_8, up2_1o (by decide)]
      refine x_ild1 ho dX8_text_39 ?_
      refine x_if_ne 51 ho dX8_text_40 (by decide) (fun c40 => ?_) (fun c40 => ?_)
      · refine x_ald0 ho dX8_text_51 ?_
        refine r_X8_9 ho dX8_text_52 ?_
        refine x_bipush (v := 6) ho dX8_text_55 rfl ?_
        refine xm_ialdN (6) (rfl) 1 (by decide) ho (by decide) (fun _ => rfl) dX8_text_57 ?_
        change XM B k _ _ _ _ (.int (h 0 14) :: _)
        rw [hN]
        refine x_bipush (v := 14) ho dX8_text_58 rfl ?_
        refine x_icmp_ne 66 ho dX8_text_60 (by decide) (fun c60 => ?_) (fun c60 => ?_)
        · have c60 : N < 14 := by
            refine Nat.lt_of_le_of_ne hN14 (fun z => c60 ?_)
            rw [z]
            rfl
          refine x_ald0 ho dX8_text_66 ?_
          refine r_X8_9 ho dX8_text_67 ?_
          refine x_bipush (v := 6) ho dX8_text_70 rfl ?_
          refine xm_ialdN (6) (rfl) 1 (by decide) ho (by decide) (fun _ => rfl) dX8_text_72 ?_
          change XM B k _ _ _ _ (.int (h 0 14) :: _)
          rw [hN]
          refine x_ist2 ho dX8_text_73 (by rw [hk]; decide) rfl ?_
          refine x_ald0 ho dX8_text_74 ?_
          refine r_X8_9 ho dX8_text_75 ?_
          refine x_bipush (v := 97) ho dX8_text_78 rfl ?_
          refine x_iconst (v := 2) ho dX8_text_80 rfl ?_
          refine x_ild2 ho dX8_text_81 ?_
          refine x_imul ho dX8_text_82 ?_
          refine x_iadd ho dX8_text_83 ?_
          refine x_sipush (v := 1000) ho dX8_text_84 rfl ?_
          refine x_ald0 ho dX8_text_87 ?_
          refine r_X8_213 ho dX8_text_88 ?_
          change XM B k _ _ _ _ (.int (nI key) :: _)
          refine x_imul ho dX8_text_91 ?_
          rw [show (1000 : Int32) * nI key = nI (1000 * key) from pk_mul 1000 key]
          refine x_ald0 ho dX8_text_92 ?_
          refine r_X8_225 ho dX8_text_93 ?_
          change XM B k _ _ _ _ (.int (nI nc) :: _)
          refine x_iadd ho dX8_text_96 ?_
          rw [nI_add]
          refine xm_iastN (97 + 2 * N) (ix97 N) 1 (by show 97 + 2 * N < 1469; omega) ho (by decide) (by decide) (fun _ => rfl) dX8_text_97 ?_
          rw [TG_1, eu_T]
          refine x_ald0 ho dX8_text_98 ?_
          refine r_X8_9 ho dX8_text_99 ?_
          refine x_bipush (v := 97) ho dX8_text_102 rfl ?_
          refine x_iconst (v := 2) ho dX8_text_104 rfl ?_
          refine x_ild2 ho dX8_text_105 ?_
          refine x_imul ho dX8_text_106 ?_
          refine x_iadd ho dX8_text_107 ?_
          refine x_iconst (v := 1) ho dX8_text_108 rfl ?_
          refine x_iadd ho dX8_text_109 ?_
          refine x_ald0 ho dX8_text_110 ?_
          refine r_X8_231 ho dX8_text_111 ?_
          change XM B k _ _ _ _ (.int (nI na) :: _)
          refine xm_iastN (97 + (2 * N + 1)) (by rw [ix97]; exact (nI_1 _).trans rfl) 1 (by show 97 + (2 * N + 1) < 1469; omega) ho (by decide) (by decide) (fun _ => rfl) dX8_text_114 ?_
          rw [TG_1, eu_T]
          refine x_iconst (v := 0) ho dX8_text_115 rfl ?_
          refine x_ist3 ho dX8_text_116 (by rw [hk]; decide) rfl ?_
          have loop : ∀ (f i : Nat), nc < f + i → i ≤ nc → XM B k (TG (up1 (up2 μ 0 8 0) 1 (en h (va_cpy c (upd (upd T (2 * N) (nI (1000 * key + nc))) (2 * N + 1) (nI na)) 0 (28 + 96 * N) i))) s e kk v d (nI key) (nI nc) (nI na) hd c w t) δ 117 [some (.ref (aB B 0)), some (.int 1), some (.int (nI N)), some (.int (nI i))] [] := by
            intro f
            induction f with
            | zero => intro i h1 h2; omega
            | succ f ih =>
              intro i h1 h2
              refine x_ild3 ho dX8_text_117 ?_
              refine x_ald0 ho dX8_text_118 ?_
              refine r_X8_225 ho dX8_text_119 ?_
              change XM B k _ _ _ _ (.int (nI nc) :: _)
              refine x_icmp_ge 151 ho dX8_text_122 (by decide) (fun c122 => ?_) (fun c122 => ?_)
              · have c122 := n_le (by omega) (by omega) c122
                have ei : i = nc := by omega
                subst ei
                refine x_ald0 ho dX8_text_151 ?_
                refine r_X8_9 ho dX8_text_152 ?_
                refine x_bipush (v := 6) ho dX8_text_155 rfl ?_
                refine x_dup2 ho dX8_text_157 rfl rfl ?_
                refine xm_ialdN (6) (rfl) 1 (by decide) ho (by decide) (fun _ => rfl) dX8_text_158 ?_
                change XM B k _ _ _ _ (.int (h 0 14) :: _)
                rw [hN]
                refine x_iconst (v := 1) ho dX8_text_159 rfl ?_
                refine x_iadd ho dX8_text_160 ?_
                rw [nI_1 N]
                refine xm_iastN (6) (rfl) 1 (by decide) ho (by decide) (by decide) (fun _ => rfl) dX8_text_161 ?_
                rw [TG_1, eu_6]
                refine x_ild2 ho dX8_text_162 ?_
                refine x_iret ho hr ?_ dX8_text_163
                exact ⟨_, _, _, rfl, rfl, Or.inr ⟨hB, Or.inr ⟨c60, rfl, key, _, na, c, hk3, hky, hCR, hn9, _, _, _, _, _, _, _, _, _, _, _, _, rfl⟩⟩, rfl⟩
              · have c122 := n_nle (by omega) (by omega) c122
                refine x_ald0 ho dX8_text_125 ?_
                refine r_X8_9 ho dX8_text_126 ?_
                refine x_bipush (v := 125) ho dX8_text_129 rfl ?_
                refine x_bipush (v := 96) ho dX8_text_131 rfl ?_
                refine x_ild2 ho dX8_text_133 ?_
                refine x_imul ho dX8_text_134 ?_
                refine x_iadd ho dX8_text_135 ?_
                refine x_ild3 ho dX8_text_136 ?_
                refine x_iadd ho dX8_text_137 ?_
                refine x_ald0 ho dX8_text_138 ?_
                refine r_X8_39 ho dX8_text_139 ?_
                refine x_ild3 ho dX8_text_142 ?_
                refine xm_ialdN (i) (rfl) 10 (by show i < 96; omega) ho (by decide) (fun _ => rfl) dX8_text_143 ?_
                change XM B k _ _ _ _ (.int (c i) :: _)
                refine xm_iastN (97 + (28 + 96 * N + i)) (ix125 N i) 1 (by show 97 + (28 + 96 * N + i) < 1469; omega) ho (by decide) (by decide) (fun _ => rfl) dX8_text_144 ?_
                rw [TG_1, eu_T, show upd (va_cpy c (upd (upd T (2 * N) (nI (1000 * key + nc))) (2 * N + 1) (nI na)) 0 (28 + 96 * N) i) (28 + 96 * N + i) (c i) = (va_cpy c (upd (upd T (2 * N) (nI (1000 * key + nc))) (2 * N + 1) (nI na)) 0 (28 + 96 * N) (i + 1)) by have z := cpy_s (f := c) (g := (upd (upd T (2 * N) (nI (1000 * key + nc))) (2 * N + 1) (nI na))) (sp := 0) (dp := 28 + 96 * N) (i := i); rwa [Nat.zero_add] at z]
                refine x_inc3 (y := 1) ho dX8_text_145 (by rw [hk]; decide) rfl rfl ?_
                refine x_goto 117 ho dX8_text_148 (by decide) ?_
                rw [nI_1 i]
                exact ih (i + 1) (by omega) (by omega)
          have loop := loop (nc + 1) 0 (by omega) (by omega)
          rw [cpy_0] at loop
          exact loop
        · have c60 : N = 14 := n_eq (b := 14) (by omega) (by decide) c60
          refine x_ldc ho kc_X8_95 dX8_text_63 ?_
          refine x_iret ho hr ?_ dX8_text_65
          exact ⟨_, _, _, rfl, rfl, Or.inr ⟨hB, Or.inl ⟨c60, rfl, _, _, _, _, _, _, _, _, _, _, _, _, rfl⟩⟩, rfl⟩
      · exact absurd c40 (by decide)
    have K25f : ∀ (v d ky nc na hd : Int32) (c w t : Nat → Int32) (p : Nat), pTB ((up1 μ 1 (en h T)) 7) n cs = false → p = (pTS ((up1 μ 1 (en h T)) 7) n cs).1 → XM B k (TG (up1 μ 1 (en h T)) (nI (tS ((up1 μ 1 (en h T)) 7) n p)) (nI (tE ((up1 μ 1 (en h T)) 7) n p)) (tK ((up1 μ 1 (en h T)) 7) n p) v d ky nc na hd c w t) δ 25 [some (.ref (aB B 0)), none, none, none] [.int 0] := by
      intro v d ky nc na hd c w t p hB hpp
      refine x_if_eq 32 ho dX8_text_25 (by decide) (fun c25 => ?_) (fun c25 => ?_)
      · refine x_iconst (v := 0) ho dX8_text_32 rfl ?_
        exact KF v d ky nc na hd c w t p hB hpp
      · exact absurd rfl c25
    have K25s : ∀ (s e kk v d : Int32) (nc na : Nat) (hd : Int32) (c w t : Nat → Int32), pTB ((up1 μ 1 (en h T)) 7) n cs = true → CRM key (pTS ((up1 μ 1 (en h T)) 7) n cs) nc c na → nc ≤ 96 → XM B k (TG (up1 μ 1 (en h T)) s e kk v d (nI key) (nI nc) (nI na) hd c w t) δ 25 [some (.ref (aB B 0)), none, none, none] [.int 1] := by
      intro s e kk v d nc na hd c w t hB hCR hn9
      refine x_if_eq 32 ho dX8_text_25 (by decide) (fun c25 => ?_) (fun c25 => ?_)
      · exact absurd c25 (by decide)
      · refine x_iconst (v := 1) ho dX8_text_28 rfl ?_
        refine x_goto 33 ho dX8_text_29 (by decide) ?_
        exact KS s e kk v d nc na hd c w t hB hCR hn9
    refine x_if_eq 32 ho dX8_text_18 (by decide) (fun c18 => ?_) (fun c18 => ?_)
    · exact absurd c18 (by decide)
    · refine x_ald0 ho dX8_text_21 ?_
      refine vMI0 ho cs_X8_250 (c_X8_takesE B (up1 μ 1 (en h T)) _ n (tE ((up1 μ 1 (en h T)) 7) n 0) hnM hn96 hE0.2.1 v d (nI key) _ _ _ _ _ _ hV hE (fun p => pTB ((up1 μ 1 (en h T)) 7) n cs = false ∧ p = (pTS ((up1 μ 1 (en h T)) 7) n cs).1) (fun nc c na => pTB ((up1 μ 1 (en h T)) 7) n cs = true ∧ CRM key (pTS ((up1 μ 1 (en h T)) 7) n cs) nc c na) (fun A hCl => parse_E hn96 hk3 hky hp0 A hCl _)) rfl ⟨rfl, rfl⟩ ⟨Nat.le_of_ble_eq_true rfl, Nat.le_of_ble_eq_true rfl⟩ (Nat.le_of_ble_eq_true rfl) dX8_text_22 (fun r22 s22 t22 p22 => ?_)
      obtain ⟨hz, e_⟩ := p22
      subst t22
      rcases hz with ⟨rfl, p, v, d, nc, na, hd, c, w, t, ⟨hB, hpp⟩, rfl⟩ | ⟨rfl, s, e, kk, v, d, nc, na, hd, c, w, t, ⟨hB, hCR⟩, hn9, rfl⟩
      · exact K25f v d _ nc na hd c w t p hB hpp
        skip
      · exact K25s s e kk v d nc na hd c w t hB hCR hn9
        skip
  refine x_ald0 ho dX8_text_0 ?_
  refine x_iconst (v := 0) ho dX8_text_1 rfl ?_
  refine w_X8_192 ho dX8_text_2 ?_
  rw [TG_90]
  refine x_ald0 ho dX8_text_5 ?_
  refine x_iconst (v := (-1)) ho dX8_text_6 rfl ?_
  refine w_X8_198 ho dX8_text_7 ?_
  rw [TG_13]
  refine x_ald0 ho dX8_text_10 ?_
  refine vMV0 ho cs_X8_216 (w_go (μ := (up1 μ 1 (en h T))) B _ n 0 hnM hn96 (Nat.zero_le n) hEI0) rfl ⟨rfl, rfl⟩ ⟨Nat.le_of_ble_eq_true rfl, Nat.le_of_ble_eq_true rfl⟩ (Nat.le_of_ble_eq_true rfl) dX8_text_11 (fun s11 t11 p11 => ?_)
  obtain ⟨v, d, rfl, hV, hE, e_⟩ := p11
  subst e_
  refine x_ald0 ho dX8_text_14 ?_
  refine vMI0 ho cs_X8_247 (c_X8_takesKey B (up1 μ 1 (en h T)) _ n hnM hn96 hCM v d _ _ _ _ _ _ _ cs hE) rfl ⟨rfl, rfl⟩ ⟨Nat.le_of_ble_eq_true rfl, Nat.le_of_ble_eq_true rfl⟩ (Nat.le_of_ble_eq_true rfl) dX8_text_15 (fun r15 s15 t15 p15 => ?_)
  obtain ⟨hz, e_⟩ := p15
  subst t15
  rcases hz with ⟨hk0, rfl, v, d, rfl, hV, hE⟩ | ⟨hk0, rfl, rfl⟩
  · exact K18a v d _ _ _ _ _ _ hk0 hV hE
    skip
  · exact K18b v d _ _ _ _ _ _ _ hk0
    skip
