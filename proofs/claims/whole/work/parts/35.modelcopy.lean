/-! copy, lay -/
theorem hP2 {σ : ST} {r : Nat} {x n : Int32} (h : RS σ r) (hx : ¬ x < 0) (hn : ¬ n < 0) : σ (54 + 2 * r) 1 - n < x ↔ σ (54 + 2 * r) 1 - x < n := by
  obtain ⟨m, hm, e⟩ := h
  obtain ⟨i, hi, rfl⟩ := nI_of hx
  obtain ⟨j, hj, rfl⟩ := nI_of hn
  have e1 : ∀ j, j < 2 ^ 31 → (nI m - nI j).toInt = (m : Int) - j := fun j hj => by rw [Int32.toInt_sub, nI_toInt (by omega), nI_toInt hj, Int.bmod_eq_of_le (by omega) (by omega)]
  rw [e, Int32.lt_iff_toInt_lt, Int32.lt_iff_toInt_lt (x := nI m - nI i), e1 j hj, e1 i hi, nI_toInt hj, nI_toInt hi]
  omega
theorem hP3 {σ : ST} {r : Nat} {x n : Int32} (h : RS σ r) : hasP σ r x n = true ↔ ¬ x < 0 ∧ ¬ n < 0 ∧ ¬ σ (54 + 2 * r) 1 - n < x := by
  refine dk.symm.trans ⟨fun z => ⟨z.1, z.2.1, fun y => z.2.2 ((hP2 h z.1 z.2.1).mp y)⟩, fun z => ⟨z.1, z.2.1, fun y => z.2.2 ((hP2 h z.1 z.2.1).mpr y)⟩⟩
theorem ShR.copy {σ μ μ' : ST} {r t p q n : Nat} (hr4 : r < 4) (ht : t < 4) (h : ShR σ μ) (hp : p + n ≤ 24) (hq : q + n ≤ 24) (e15 : μ' 15 = μ 15) (e16 : μ' 16 = μ 16) (e17 : μ' 17 = va_cpy (va_cpy (μ 17) (μ 22) (24 * r + p) 0 n) (μ 17) 0 (24 * t + q) n) : ShR (up1 σ (54 + 2 * t + 1) (va_cpy (σ (54 + 2 * r + 1)) (σ (54 + 2 * t + 1)) p q n)) μ' := by
  obtain ⟨-, -, r3, -, -, r6⟩ := h r hr4
  intro u hu
  by_cases e : u = t
  · subst e
    obtain ⟨h1, h2, h3, h4, h5, h6⟩ := h u hu
    refine ⟨by rw [e15, up1_n (by omega), h1], by rw [e16, up1_n (by omega), h2], fun j hj => ?_, by rw [up1_n (by omega)]; exact h4, RS_e h5 (up1_n (by omega)), fun j hj => ?_⟩
    · rw [e17, up1_s]
      by_cases e2 : q ≤ j ∧ j < q + n
      · rw [pk_cpy_in (by omega) (by omega), pk_cpy_in e2.1 e2.2, pk_cpy_in (by omega) (by omega), ← r3 (p + (j - q)) (by omega)]
        congr 1
        omega
      · rw [pk_cpy_out (by omega), pk_cpy_out (by omega), h3 j hj]
    · rw [up1_s]
      by_cases e2 : q ≤ j ∧ j < q + n
      · rw [pk_cpy_in e2.1 e2.2]
        exact r6 _ (by omega)
      · rw [pk_cpy_out (by omega)]
        exact h6 j hj
  · exact (h u hu).keep (up1_n (by omega)) (up1_n (by omega)) (by rw [e15]) (by rw [e16]) (fun j hj => by rw [e17, pk_cpy_out (by omega)])
set_option maxRecDepth 100000 in
set_option maxHeartbeats 4000000 in
theorem c_X8_copy (B : BT) (μ : Nat → Nat → Int32) (δ : Nat → Int64) (σ : ST) (hS : ShR σ μ) (x p y q n : Int32) : MI B yX8_copy cX8_copy 7 (some .int) ({ frames := 2, cells := 0, slots := 0, locals := 42 }) [.ref (aB B 0), .int x, .int p, .int y, .int q, .int n] μ δ (fun r μ' δ' => r = (aCopy σ x p y q n).1 ∧ ShR (aCopy σ x p y q n).2 μ' ∧ (∀ u, u ≠ 17 → u ≠ 22 → μ' u = μ u) ∧ δ' = δ) := by
  refine MX.of2 RX8 (by decide) rfl ⟨rfl, rfl⟩ (Nat.le_of_ble_eq_true rfl) (by rfl) (fun k ho hr hk => ?_)
  show XM B k μ δ 0 [some (.ref (aB B 0)), some (.int x), some (.int p), some (.int y), some (.int q), some (.int n), none] []
  have K101 : ∀ r t, r < 4 → t < 4 → μ 15 r = (σ (54 + 2 * r) 0) → (σ (54 + 2 * r) 0) = (σ (54 + 2 * t) 0) → ¬ (σ (54 + 2 * r) 0) = -1 → ¬ (σ (54 + 2 * t) 0) = -1 → RS σ r → RS σ t → hasP σ r p n = true → hasP σ t q n = true → x = nI r → y = nI t → XM B k μ δ 101 [some (.ref (aB B 0)), some (.int (nI r)), some (.int p), some (.int (nI t)), some (.int q), some (.int n), none] [] := by
    intro r t hr4 ht _ c50 ne1 ne2 ssz tsz hp hq ex ey
    subst ex ey
    have e0 : aCopy σ (nI r) p (nI t) q n = (n, up1 σ (54 + 2 * t + 1) (va_cpy (σ (54 + 2 * r + 1)) (σ (54 + 2 * t + 1)) (ix p) (ix q) (ix n))) := by unfold aCopy; rw [if_pos ⟨isQ_n hr4, isQ_n ht⟩, ix_n (n := r) (by omega), ix_n (n := t) (by omega), if_neg (fun z => z.elim ne1 ne2), if_pos c50, if_pos ⟨hp, hq⟩]
    obtain ⟨m1, p', n', hm1, -, rfl, rfl, hpn⟩ := hasP_of hp ssz
    obtain ⟨m2, q', n2, hm2, -, rfl, en, hqn⟩ := hasP_of hq tsz
    have en : n' = n2 := n_eq (by omega) (by omega) en
    subst en
    rw [ix_n (n := p') (by omega), ix_n (n := q') (by omega), ix_n (n := n') (by omega)] at e0
    have hpn : p' + n' ≤ 24 := by omega
    have hqn : q' + n' ≤ 24 := by omega
    have loop2 : ∀ (f i : Nat), n' < f + i → i ≤ n' → XM B k (up1 (up1 μ 22 (va_cpy (μ 17) (μ 22) (24 * r + p') 0 n')) 17 (va_cpy (va_cpy (μ 17) (μ 22) (24 * r + p') 0 n') (μ 17) 0 (24 * t + q') i)) δ 141 [some (.ref (aB B 0)), some (.int (nI r)), some (.int (nI p')), some (.int (nI t)), some (.int (nI q')), some (.int (nI n')), some (.int (nI i))] [] := by
      intro f
      induction f with
      | zero => intro i h1 h2; omega
      | succ f ih =>
        intro i h1 h2
        refine x_ild6 ho dX8_copy_141 ?_
        refine x_ild5 ho dX8_copy_143 ?_
        refine x_icmp_ge 176 ho dX8_copy_145 (by decide) (fun c145 => ?_) (fun c145 => ?_)
        · have c145 := n_le (by omega) (by omega) c145
          have ei : i = n' := by omega
          subst ei
          refine x_ild5 ho dX8_copy_176 ?_
          refine x_iret ho hr ?_ dX8_copy_178
          refine ⟨_, _, _, rfl, rfl, by rw [e0], ?_, fun u h1 h2 => by rw [up1_n h1, up1_n h2], rfl⟩
          rw [e0]
          exact hS.copy hr4 ht hpn hqn rfl rfl up1_s
        · have c145 := n_nle (by omega) (by omega) c145
          refine x_ald0 ho dX8_copy_148 ?_
          refine r_X8_61 ho dX8_copy_149 ?_
          refine x_bipush (v := 24) ho dX8_copy_152 rfl ?_
          refine x_ild3 ho dX8_copy_154 ?_
          refine x_imul ho dX8_copy_155 ?_
          refine x_ild4 ho dX8_copy_156 ?_
          refine x_iadd ho dX8_copy_158 ?_
          refine x_ild6 ho dX8_copy_159 ?_
          refine x_iadd ho dX8_copy_161 ?_
          refine x_ald0 ho dX8_copy_162 ?_
          refine r_X8_76 ho dX8_copy_163 ?_
          refine x_ild6 ho dX8_copy_166 ?_
          refine xm_ialdN (i) (rfl) 22 (by show i < 24; omega) ho (by decide) (fun _ => rfl) dX8_copy_168 ?_
          change XM B k _ _ _ _ (.int ((va_cpy (μ 17) (μ 22) (24 * r + p') 0 n') i) :: _)
          refine xm_iastN (24 * t + q' + i) (by rw [ix24, nI_add]) 17 (by show 24 * t + q' + i < 96; omega) ho (by decide) (by decide) (fun _ => rfl) dX8_copy_169 ?_
          rw [up2_up1, show upd (va_cpy (va_cpy (μ 17) (μ 22) (24 * r + p') 0 n') (μ 17) 0 (24 * t + q') i) (24 * t + q' + i) ((va_cpy (μ 17) (μ 22) (24 * r + p') 0 n') i) = (va_cpy (va_cpy (μ 17) (μ 22) (24 * r + p') 0 n') (μ 17) 0 (24 * t + q') (i + 1)) by have z := cpy_s (f := (va_cpy (μ 17) (μ 22) (24 * r + p') 0 n')) (g := μ 17) (sp := 0) (dp := 24 * t + q') (i := i); rwa [Nat.zero_add] at z]
          refine x_inc6 (y := 1) ho dX8_copy_170 (by rw [hk]; decide) rfl rfl ?_
          refine x_goto 141 ho dX8_copy_173 (by decide) ?_
          rw [nI_1 i]
          exact ih (i + 1) (by omega) (by omega)
    have loop2 := loop2 (n' + 1) 0 (by omega) (by omega)
    have hz : up1 (up1 μ 22 (va_cpy (μ 17) (μ 22) (24 * r + p') 0 n')) 17 (μ 17) = up1 μ 22 (va_cpy (μ 17) (μ 22) (24 * r + p') 0 n') := up1_self (σ := up1 μ 22 (va_cpy (μ 17) (μ 22) (24 * r + p') 0 n')) (q := 17)
    rw [cpy_0, hz] at loop2
    have loop1 : ∀ (f i : Nat), n' < f + i → i ≤ n' → XM B k (up1 μ 22 (va_cpy (μ 17) (μ 22) (24 * r + p') 0 i)) δ 104 [some (.ref (aB B 0)), some (.int (nI r)), some (.int (nI p')), some (.int (nI t)), some (.int (nI q')), some (.int (nI n')), some (.int (nI i))] [] := by
      intro f
      induction f with
      | zero => intro i h1 h2; omega
      | succ f ih =>
        intro i h1 h2
        refine x_ild6 ho dX8_copy_104 ?_
        refine x_ild5 ho dX8_copy_106 ?_
        refine x_icmp_ge 138 ho dX8_copy_108 (by decide) (fun c108 => ?_) (fun c108 => ?_)
        · have c108 := n_le (by omega) (by omega) c108
          have ei : i = n' := by omega
          subst ei
          refine x_iconst (v := 0) ho dX8_copy_138 rfl ?_
          refine x_ist6 ho dX8_copy_139 (by rw [hk]; decide) rfl ?_
          exact loop2
        · have c108 := n_nle (by omega) (by omega) c108
          refine x_ald0 ho dX8_copy_111 ?_
          refine r_X8_76 ho dX8_copy_112 ?_
          refine x_ild6 ho dX8_copy_115 ?_
          refine x_ald0 ho dX8_copy_117 ?_
          refine r_X8_61 ho dX8_copy_118 ?_
          refine x_bipush (v := 24) ho dX8_copy_121 rfl ?_
          refine x_ild1 ho dX8_copy_123 ?_
          refine x_imul ho dX8_copy_124 ?_
          refine x_ild2 ho dX8_copy_125 ?_
          refine x_iadd ho dX8_copy_126 ?_
          refine x_ild6 ho dX8_copy_127 ?_
          refine x_iadd ho dX8_copy_129 ?_
          refine xm_ialdN (24 * r + p' + i) (by rw [ix24, nI_add]) 17 (by show 24 * r + p' + i < 96; omega) ho (by decide) (fun _ => rfl) dX8_copy_130 ?_
          change XM B k _ _ _ _ (.int (μ 17 (24 * r + p' + i)) :: _)
          refine xm_iastN (i) (rfl) 22 (by show i < 24; omega) ho (by decide) (by decide) (fun _ => rfl) dX8_copy_131 ?_
          rw [up2_up1, show upd (va_cpy (μ 17) (μ 22) (24 * r + p') 0 i) i (μ 17 (24 * r + p' + i)) = (va_cpy (μ 17) (μ 22) (24 * r + p') 0 (i + 1)) by have z := cpy_s (f := μ 17) (g := μ 22) (sp := 24 * r + p') (dp := 0) (i := i); rwa [Nat.zero_add] at z]
          refine x_inc6 (y := 1) ho dX8_copy_132 (by rw [hk]; decide) rfl rfl ?_
          refine x_goto 104 ho dX8_copy_135 (by decide) ?_
          rw [nI_1 i]
          exact ih (i + 1) (by omega) (by omega)
    have loop1 := loop1 (n' + 1) 0 (by omega) (by omega)
    rw [cpy_0, up1_self] at loop1
    refine x_iconst (v := 0) ho dX8_copy_101 rfl ?_
    refine x_ist6 ho dX8_copy_102 (by rw [hk]; decide) rfl ?_
    exact loop1
  refine x_ild1 ho dX8_copy_0 ?_
  refine sMI1 ho cs_X8_184 (c_X8_isSheet B _ _ _) ⟨rfl, rfl⟩ ⟨Nat.le_of_ble_eq_true rfl, Nat.le_of_ble_eq_true rfl⟩ (Nat.le_of_ble_eq_true rfl) dX8_copy_1 (fun r1 s1 t1 p1 => ?_)
  obtain ⟨rfl, rfl, rfl⟩ := p1
  refine x_if_eq 14 ho dX8_copy_4 (by decide) (fun c4 => ?_) (fun c4 => ?_)
  · have c4 := bI_0.mp c4
    refine x_ldc ho kc_X8_94 dX8_copy_14 ?_
    refine x_iret ho hr ?_ dX8_copy_16
    exact ⟨_, _, _, rfl, rfl, by rw [show aCopy _ _ _ _ _ _ = (-1000000001, σ) from if_neg (by first | exact fun z => c4 z.1 | exact fun z => c11 z.2)], by rw [show aCopy _ _ _ _ _ _ = (-1000000001, σ) from if_neg (by first | exact fun z => c4 z.1 | exact fun z => c11 z.2)]; exact hS, fun _ _ _ => rfl, rfl⟩
  · have c4 := bI_n.mp c4
    obtain ⟨r, hr4, rfl⟩ := isQ_of c4
    refine x_ild3 ho dX8_copy_7 ?_
    refine sMI1 ho cs_X8_184 (c_X8_isSheet B _ _ _) ⟨rfl, rfl⟩ ⟨Nat.le_of_ble_eq_true rfl, Nat.le_of_ble_eq_true rfl⟩ (Nat.le_of_ble_eq_true rfl) dX8_copy_8 (fun r8 s8 t8 p8 => ?_)
    obtain ⟨rfl, rfl, rfl⟩ := p8
    refine x_if_ne 17 ho dX8_copy_11 (by decide) (fun c11 => ?_) (fun c11 => ?_)
    · have c11 := bI_n.mp c11
      obtain ⟨t, ht, rfl⟩ := isQ_of c11
      obtain ⟨s15, s16, s17, ssrt, ssz, spl⟩ := hS r hr4
      obtain ⟨t15, t16, t17, tsrt, tsz, tpl⟩ := hS t ht
      refine x_ald0 ho dX8_copy_17 ?_
      refine r_X8_55 ho dX8_copy_18 ?_
      refine x_ild1 ho dX8_copy_21 ?_
      refine xm_ialdN (r) (rfl) 15 (by show r < 4; omega) ho (by decide) (fun _ => rfl) dX8_copy_22 ?_
      rw [s15]
      refine x_if_lt 35 ho dX8_copy_23 (by decide) (fun c23 => ?_) (fun c23 => ?_)
      · have ee : (σ (54 + 2 * r) 0) = -1 := by
          rcases ssrt with e | e | e
          · exact e
          · rw [e] at c23; exact absurd c23 (by decide)
          · rw [e] at c23; exact absurd c23 (by decide)
        refine x_ldc ho kc_X8_187 dX8_copy_35 ?_
        refine x_iret ho hr ?_ dX8_copy_37
        first | (have e0 : aCopy σ (nI r) p (nI t) q n = (-1000000011, σ) := (by unfold aCopy; rw [if_pos ⟨isQ_n hr4, isQ_n ht⟩, ix_n (n := r) (by omega), ix_n (n := t) (by omega), if_pos (Or.inl ee)]); exact ⟨_, _, _, rfl, rfl, by rw [e0], by rw [e0]; exact hS, fun _ _ _ => rfl, rfl⟩) | (have e0 : aCopy σ (nI r) p (nI t) q n = (-1000000011, σ) := (by unfold aCopy; rw [if_pos ⟨isQ_n hr4, isQ_n ht⟩, ix_n (n := r) (by omega), ix_n (n := t) (by omega), if_pos (Or.inr ee)]); exact ⟨_, _, _, rfl, rfl, by rw [e0], by rw [e0]; exact hS, fun _ _ _ => rfl, rfl⟩)
      · have ne1 : ¬ (σ (54 + 2 * r) 0) = -1 := fun e => c23 (by rw [e]; decide)
        refine x_ald0 ho dX8_copy_26 ?_
        refine r_X8_55 ho dX8_copy_27 ?_
        refine x_ild3 ho dX8_copy_30 ?_
        refine xm_ialdN (t) (rfl) 15 (by show t < 4; omega) ho (by decide) (fun _ => rfl) dX8_copy_31 ?_
        rw [t15]
        refine x_if_ge 38 ho dX8_copy_32 (by decide) (fun c32 => ?_) (fun c32 => ?_)
        · have ne2 : ¬ (σ (54 + 2 * t) 0) = -1 := fun e => by rw [e] at c32; exact absurd c32 (by decide)
          refine x_ald0 ho dX8_copy_38 ?_
          refine r_X8_55 ho dX8_copy_39 ?_
          refine x_ild1 ho dX8_copy_42 ?_
          refine xm_ialdN (r) (rfl) 15 (by show r < 4; omega) ho (by decide) (fun _ => rfl) dX8_copy_43 ?_
          rw [s15]
          refine x_ald0 ho dX8_copy_44 ?_
          refine r_X8_55 ho dX8_copy_45 ?_
          refine x_ild3 ho dX8_copy_48 ?_
          refine xm_ialdN (t) (rfl) 15 (by show t < 4; omega) ho (by decide) (fun _ => rfl) dX8_copy_49 ?_
          rw [t15]
          refine x_icmp_eq 56 ho dX8_copy_50 (by decide) (fun c50 => ?_) (fun c50 => ?_)
          · refine x_ild2 ho dX8_copy_56 ?_
            refine x_if_lt 97 ho dX8_copy_57 (by decide) (fun c57 => ?_) (fun c57 => ?_)
            · refine x_ldcw ho kc_X8_257 dX8_copy_97 ?_
              refine x_iret ho hr ?_ dX8_copy_100
              (have e0 : aCopy σ (nI r) p (nI t) q n = (-1000000013, σ) := (by unfold aCopy; rw [if_pos ⟨isQ_n hr4, isQ_n ht⟩, ix_n (n := r) (by omega), ix_n (n := t) (by omega), if_neg (fun z => z.elim ne1 ne2), if_pos c50, if_neg (fun z => by have z1 := (hP3 ssz).mp z.1; have z2 := (hP3 tsz).mp z.2; first | exact z1.1 c57 | exact z2.1 c62 | exact z1.2.1 c67 | exact z1.2.2 c80 | exact z2.2.2 (Int32.not_le.mp c94))]); exact ⟨_, _, _, rfl, rfl, by rw [e0], by rw [e0]; exact hS, fun _ _ _ => rfl, rfl⟩)
            · refine x_ild4 ho dX8_copy_60 ?_
              refine x_if_lt 97 ho dX8_copy_62 (by decide) (fun c62 => ?_) (fun c62 => ?_)
              · refine x_ldcw ho kc_X8_257 dX8_copy_97 ?_
                refine x_iret ho hr ?_ dX8_copy_100
                (have e0 : aCopy σ (nI r) p (nI t) q n = (-1000000013, σ) := (by unfold aCopy; rw [if_pos ⟨isQ_n hr4, isQ_n ht⟩, ix_n (n := r) (by omega), ix_n (n := t) (by omega), if_neg (fun z => z.elim ne1 ne2), if_pos c50, if_neg (fun z => by have z1 := (hP3 ssz).mp z.1; have z2 := (hP3 tsz).mp z.2; first | exact z1.1 c57 | exact z2.1 c62 | exact z1.2.1 c67 | exact z1.2.2 c80 | exact z2.2.2 (Int32.not_le.mp c94))]); exact ⟨_, _, _, rfl, rfl, by rw [e0], by rw [e0]; exact hS, fun _ _ _ => rfl, rfl⟩)
              · refine x_ild5 ho dX8_copy_65 ?_
                refine x_if_lt 97 ho dX8_copy_67 (by decide) (fun c67 => ?_) (fun c67 => ?_)
                · refine x_ldcw ho kc_X8_257 dX8_copy_97 ?_
                  refine x_iret ho hr ?_ dX8_copy_100
                  (have e0 : aCopy σ (nI r) p (nI t) q n = (-1000000013, σ) := (by unfold aCopy; rw [if_pos ⟨isQ_n hr4, isQ_n ht⟩, ix_n (n := r) (by omega), ix_n (n := t) (by omega), if_neg (fun z => z.elim ne1 ne2), if_pos c50, if_neg (fun z => by have z1 := (hP3 ssz).mp z.1; have z2 := (hP3 tsz).mp z.2; first | exact z1.1 c57 | exact z2.1 c62 | exact z1.2.1 c67 | exact z1.2.2 c80 | exact z2.2.2 (Int32.not_le.mp c94))]); exact ⟨_, _, _, rfl, rfl, by rw [e0], by rw [e0]; exact hS, fun _ _ _ => rfl, rfl⟩)
                · refine x_ild2 ho dX8_copy_70 ?_
                  refine x_ald0 ho dX8_copy_71 ?_
                  refine r_X8_58 ho dX8_copy_72 ?_
                  refine x_ild1 ho dX8_copy_75 ?_
                  refine xm_ialdN (r) (rfl) 16 (by show r < 4; omega) ho (by decide) (fun _ => rfl) dX8_copy_76 ?_
                  rw [s16]
                  refine x_ild5 ho dX8_copy_77 ?_
                  refine x_isub ho dX8_copy_79 ?_
                  refine x_icmp_gt 97 ho dX8_copy_80 (by decide) (fun c80 => ?_) (fun c80 => ?_)
                  · refine x_ldcw ho kc_X8_257 dX8_copy_97 ?_
                    refine x_iret ho hr ?_ dX8_copy_100
                    (have e0 : aCopy σ (nI r) p (nI t) q n = (-1000000013, σ) := (by unfold aCopy; rw [if_pos ⟨isQ_n hr4, isQ_n ht⟩, ix_n (n := r) (by omega), ix_n (n := t) (by omega), if_neg (fun z => z.elim ne1 ne2), if_pos c50, if_neg (fun z => by have z1 := (hP3 ssz).mp z.1; have z2 := (hP3 tsz).mp z.2; first | exact z1.1 c57 | exact z2.1 c62 | exact z1.2.1 c67 | exact z1.2.2 c80 | exact z2.2.2 (Int32.not_le.mp c94))]); exact ⟨_, _, _, rfl, rfl, by rw [e0], by rw [e0]; exact hS, fun _ _ _ => rfl, rfl⟩)
                  · refine x_ild4 ho dX8_copy_83 ?_
                    refine x_ald0 ho dX8_copy_85 ?_
                    refine r_X8_58 ho dX8_copy_86 ?_
                    refine x_ild3 ho dX8_copy_89 ?_
                    refine xm_ialdN (t) (rfl) 16 (by show t < 4; omega) ho (by decide) (fun _ => rfl) dX8_copy_90 ?_
                    rw [t16]
                    refine x_ild5 ho dX8_copy_91 ?_
                    refine x_isub ho dX8_copy_93 ?_
                    refine x_icmp_le 101 ho dX8_copy_94 (by decide) (fun c94 => ?_) (fun c94 => ?_)
                    · exact K101 r t hr4 ht s15 c50 ne1 ne2 ssz tsz ((hP3 ssz).mpr ⟨c57, c67, c80⟩) ((hP3 tsz).mpr ⟨c62, c67, Int32.not_lt.mpr c94⟩) rfl rfl
                    · refine x_ldcw ho kc_X8_257 dX8_copy_97 ?_
                      refine x_iret ho hr ?_ dX8_copy_100
                      (have e0 : aCopy σ (nI r) p (nI t) q n = (-1000000013, σ) := (by unfold aCopy; rw [if_pos ⟨isQ_n hr4, isQ_n ht⟩, ix_n (n := r) (by omega), ix_n (n := t) (by omega), if_neg (fun z => z.elim ne1 ne2), if_pos c50, if_neg (fun z => by have z1 := (hP3 ssz).mp z.1; have z2 := (hP3 tsz).mp z.2; first | exact z1.1 c57 | exact z2.1 c62 | exact z1.2.1 c67 | exact z1.2.2 c80 | exact z2.2.2 (Int32.not_le.mp c94))]); exact ⟨_, _, _, rfl, rfl, by rw [e0], by rw [e0]; exact hS, fun _ _ _ => rfl, rfl⟩)
          · refine x_ldc ho kc_X8_137 dX8_copy_53 ?_
            refine x_iret ho hr ?_ dX8_copy_55
            (have e0 : aCopy σ (nI r) p (nI t) q n = (-1000000012, σ) := (by unfold aCopy; rw [if_pos ⟨isQ_n hr4, isQ_n ht⟩, ix_n (n := r) (by omega), ix_n (n := t) (by omega), if_neg (fun z => z.elim ne1 ne2), if_neg c50]); exact ⟨_, _, _, rfl, rfl, by rw [e0], by rw [e0]; exact hS, fun _ _ _ => rfl, rfl⟩)
        · have ee : (σ (54 + 2 * t) 0) = -1 := by
            rcases tsrt with e | e | e
            · exact e
            · rw [e] at c32; exact absurd (by decide) c32
            · rw [e] at c32; exact absurd (by decide) c32
          refine x_ldc ho kc_X8_187 dX8_copy_35 ?_
          refine x_iret ho hr ?_ dX8_copy_37
          first | (have e0 : aCopy σ (nI r) p (nI t) q n = (-1000000011, σ) := (by unfold aCopy; rw [if_pos ⟨isQ_n hr4, isQ_n ht⟩, ix_n (n := r) (by omega), ix_n (n := t) (by omega), if_pos (Or.inl ee)]); exact ⟨_, _, _, rfl, rfl, by rw [e0], by rw [e0]; exact hS, fun _ _ _ => rfl, rfl⟩) | (have e0 : aCopy σ (nI r) p (nI t) q n = (-1000000011, σ) := (by unfold aCopy; rw [if_pos ⟨isQ_n hr4, isQ_n ht⟩, ix_n (n := r) (by omega), ix_n (n := t) (by omega), if_pos (Or.inr ee)]); exact ⟨_, _, _, rfl, rfl, by rw [e0], by rw [e0]; exact hS, fun _ _ _ => rfl, rfl⟩)
    · have c11 := bI_0.mp c11
      refine x_ldc ho kc_X8_94 dX8_copy_14 ?_
      refine x_iret ho hr ?_ dX8_copy_16
      exact ⟨_, _, _, rfl, rfl, by rw [show aCopy _ _ _ _ _ _ = (-1000000001, σ) from if_neg (by first | exact fun z => c4 z.1 | exact fun z => c11 z.2)], by rw [show aCopy _ _ _ _ _ _ = (-1000000001, σ) from if_neg (by first | exact fun z => c4 z.1 | exact fun z => c11 z.2)]; exact hS, fun _ _ _ => rfl, rfl⟩
