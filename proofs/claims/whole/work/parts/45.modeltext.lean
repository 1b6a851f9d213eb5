/-! an E, step by step -/
def cntO : List Int32 → Nat
  | [] => 0
  | x :: W => cntO W + (if x = -11 then 1 else 0)
def tbI (x : Bool) : Int32 := if x = true then 1 else 0
def uT (T : Nat → Bool) (j : Nat) (x : Bool) : Nat → Bool := fun i => if i = j then x else T i
/-- what always holds where the loop begins anew: the place, the codes, the signs that wait, the parentheses and nots that are open -/
def IV (n p nc : Nat) (W : List Int32) (o nt : Nat) : Prop := p ≤ n ∧ nc + W.length < p ∧ o ≤ 8 ∧ cntO W = o ∧ nt = cntN W
abbrev AT : Type := Nat → Nat → (Nat → Int32) → Nat → List Int32 → Nat → Nat → Bool → (Nat → Bool) → Prop
def sgQ (b : Nat → Int32) (n p : Nat) : Int32 := sgA (tK b n p) (b (tS b n p))
/-- closed under the steps: place, how many codes, codes, atoms, waiting signs, parentheses, nots, whether a part is wanted, tested -/
def Cl (b : Nat → Int32) (n : Nat) (ky : Int32) (PF : Nat → Prop) (PT : Nat → (Nat → Int32) → Nat → Prop) (A : AT) : Prop :=
  (∀ p nc c na W o nt T, IV n p nc W o nt → tK b n p = 3 → b (tS b n p) = 33 → nt < 8 → A (tE b n p) nc c na (-10 :: W) o (cntN (-10 :: W)) true T → A p nc c na W o nt true T) ∧
  (∀ p nc c na W o nt T, IV n p nc W o nt → tK b n p = 3 → b (tS b n p) = 40 → o < 8 → A (tE b n p) nc c na (-11 :: W) (o + 1) (cntN (-11 :: W)) true (uT T (o + 1) false) → A p nc c na W o nt true T) ∧
  (∀ p nc c na W o nt T W1 nc1 c1, IV n p nc W o nt → mPt b n ky p → mSet 6 W (nc + 1) (upd c nc (mAt b n ky p)) = (W1, nc1, c1) → A (tE b n p) nc1 c1 (na + 1) W1 o (cntN W1) false T → A p nc c na W o nt true T) ∧
  (∀ p nc c na W o nt T, IV n p nc W o nt → ¬ (tK b n p = 3 ∧ b (tS b n p) = 33 ∧ nt < 8) → ¬ (tK b n p = 3 ∧ b (tS b n p) = 40 ∧ o < 8) → ¬ mPt b n ky p → PF p → A p nc c na W o nt true T) ∧
  (∀ p nc c na W o nt T W2 nc1 c1 W3 nc3 c3, IV n p nc W o nt → tK b n p = 3 → b (tS b n p) = 41 → 0 < o → mSet 0 W nc c = (-11 :: W2, nc1, c1) → mSet 6 W2 nc1 c1 = (W3, nc3, c3) → A (tE b n p) nc3 c3 na W3 (o - 1) (cntN W3) false T → A p nc c na W o nt false T) ∧
  (∀ p nc c na W o nt T W1 nc1 c1, IV n p nc W o nt → ¬ sgQ b n p = 0 → ¬ (rkN (sgQ b n p) = 3 ∧ T o = true) → mSet (rkN (sgQ b n p)) W nc c = (W1, nc1, c1) → A (tE b n p) nc1 c1 na (sgQ b n p :: W1) o nt true (uT T o (decide (rkN (sgQ b n p) = 3) || (decide (3 < rkN (sgQ b n p)) && T o))) → A p nc c na W o nt false T) ∧
  (∀ p nc c na W o nt T, IV n p nc W o nt → ¬ tK b n p = 0 → ¬ (tK b n p = 3 ∧ b (tS b n p) = 41 ∧ 0 < o) → (sgQ b n p = 0 ∨ (rkN (sgQ b n p) = 3 ∧ T o = true)) → PF p → A p nc c na W o nt false T) ∧
  (∀ p nc c na W o nt T W1 nc1 c1, IV n p nc W o nt → tK b n p = 0 → mSet 0 W nc c = (W1, nc1, c1) → (o = 0 → PT nc1 c1 na) → (¬ o = 0 → PF p) → A p nc c na W o nt false T)
theorem rkN_6 (x : Int32) : rkN x ≤ 6 := by unfold rkN; (repeat' split) <;> omega
theorem VV_sg {b : Nat → Int32} {n p : Nat} {v : Int32} (h : VV b n p v) : sgA (tK b n p) v = sgQ b n p := by
  unfold sgQ sgA
  by_cases q : tK b n p = 3
  · rw [if_pos q, if_pos q, h.1 (Or.inr q)]
  · rw [if_neg q, if_neg q]
theorem sgP_3 {b : Nat → Int32} {n p : Nat} (h : ¬ sgQ b n p = 0) : tK b n p = 3 := Decidable.byContradiction (fun q => h (if_neg q))
theorem tbI_0 {x : Bool} : tbI x = 0 ↔ ¬ x = true := by cases x <;> decide
theorem tbI_01 {x : Bool} : tbI x = 0 ∨ tbI x = 1 := by cases x <;> decide
theorem cntN_le : ∀ W, cntN W ≤ W.length
  | [] => Nat.le_refl 0
  | x :: W => by
    have := cntN_le W
    unfold cntN
    simp only [List.length_cons]
    split <;> omega
set_option maxRecDepth 100000 in
set_option maxHeartbeats 16000000 in
theorem c_X8_takesE (B : BT) (μ : Nat → Nat → Int32) (δ : Nat → Int64) (n p : Nat) (hn : μ 0 8 = nI n) (hn96 : n ≤ 96) (hp : p ≤ n) (v d ky nc0 na0 hd0 : Int32) (c w t : Nat → Int32) (hV : VV (μ 7) n p v) (hEI : ¬ tK (μ 7) n p = 0 → EI (μ 7) n (tE (μ 7) n p) d) (PF : Nat → Prop) (PT : Nat → (Nat → Int32) → Nat → Prop) (hRun : ∀ A : AT, Cl (μ 7) n ky PF PT A → A p 0 c 0 [] 0 0 true (fun _ => false)) : MI B yX8_takesE cX8_takesE 5 (some .boolean) ({ frames := 3, cells := 0, slots := 0, locals := 63 }) [.ref (aB B 0)] (TG μ (nI (tS (μ 7) n p)) (nI (tE (μ 7) n p)) (tK (μ 7) n p) v d ky nc0 na0 hd0 c w t) δ (fun r μ' δ' => ((r = 0 ∧ ∃ p v d nc na hd c w t, PF p ∧ μ' = TG μ (nI (tS (μ 7) n p)) (nI (tE (μ 7) n p)) (tK (μ 7) n p) v d ky nc na hd c w t) ∨ (r = 1 ∧ ∃ s e kk v d nc na hd c w t, PT nc c na ∧ nc ≤ 96 ∧ μ' = TG μ s e kk v d ky (nI nc) (nI na) hd c w t)) ∧ δ' = δ) := by
  refine MX.of2 RX8 (by decide) rfl ⟨rfl, rfl⟩ (Nat.le_of_ble_eq_true rfl) (by rfl) (fun k ho hr hk => ?_)
  show XM B k (TG μ (nI (tS (μ 7) n p)) (nI (tE (μ 7) n p)) (tK (μ 7) n p) v d ky nc0 na0 hd0 c w t) δ 0 [some (.ref (aB B 0)), none, none, none, none] []
  have hCl : Cl (μ 7) n ky PF PT (fun p nc c na W o nt wants T => ∀ v d w t, VV (μ 7) n p v → (¬ tK (μ 7) n p = 0 → EI (μ 7) n (tE (μ 7) n p) d) → LR w W → (∀ j, j ≤ o → t j = tbI (T j)) → XM B k (TG μ (nI (tS (μ 7) n p)) (nI (tE (μ 7) n p)) (tK (μ 7) n p) v d ky (nI nc) (nI na) (nI W.length) c w t) δ 28 [some (.ref (aB B 0)), some (.int (nI o)), some (.int (nI nt)), some (.int (if wants = true then 1 else 0)), none] []) := by
    refine ⟨?_, ?_, ?_, ?_, ?_, ?_, ?_, ?_⟩
    · intro p nc c na W o nt T hIV hK hv hn8 hA
      obtain ⟨hp, hb, ho8, hcO, hnt⟩ := hIV
      have hE0 := tE_b (b := μ 7) (n := n) (p := p) hp
      have hnl := cntN_le W
      intro v d w t hV hEI hL hT
      have hK0 : ¬ tK (μ 7) n p = 0 := by rw [hK]; decide
      have hlt : tS (μ 7) n p < n := Decidable.byContradiction (fun z => hK0 (tK_0 (by omega)))
      have hE3 := hE0.2.2 hlt
      have hps := tS_b (b := μ 7) hp
      refine x_ild3 ho dX8_takesE_28 ?_
      refine x_if_ne 39 ho dX8_takesE_29 (by decide) (fun c29 => ?_) (fun c29 => ?_)
      · refine x_ild3 ho dX8_takesE_39 ?_
        refine x_if_eq 180 ho dX8_takesE_40 (by decide) (fun c40 => ?_) (fun c40 => ?_)
        · exact absurd c40 (by decide)
        · refine x_ald0 ho dX8_takesE_43 ?_
          refine r_X8_201 ho dX8_takesE_44 ?_
          change XM B k _ _ _ _ (.int ((tK (μ 7) n p)) :: _)
          refine x_iconst (v := 3) ho dX8_takesE_47 rfl ?_
          refine x_icmp_ne 97 ho dX8_takesE_48 (by decide) (fun c48 => ?_) (fun c48 => ?_)
          · exact absurd hK c48
          · refine x_ald0 ho dX8_takesE_51 ?_
            refine r_X8_207 ho dX8_takesE_52 ?_
            change XM B k _ _ _ _ (.int (v) :: _)
            refine x_bipush (v := 33) ho dX8_takesE_55 rfl ?_
            refine x_icmp_ne 97 ho dX8_takesE_57 (by decide) (fun c57 => ?_) (fun c57 => ?_)
            · exact absurd ((hV.1 (Or.inr hK)).trans hv) c57
            · refine x_ild2 ho dX8_takesE_60 ?_
              refine x_bipush (v := 8) ho dX8_takesE_61 rfl ?_
              refine x_icmp_ge 97 ho dX8_takesE_63 (by decide) (fun c63 => ?_) (fun c63 => ?_)
              · exact absurd (n_le (a := 8) (by decide) (by omega) c63) (by omega)
              · refine x_ald0 ho dX8_takesE_66 ?_
                refine r_X8_42 ho dX8_takesE_67 ?_
                refine x_ald0 ho dX8_takesE_70 ?_
                refine r_X8_219 ho dX8_takesE_71 ?_
                change XM B k _ _ _ _ (.int (nI W.length) :: _)
                refine x_bipush (v := (-10)) ho dX8_takesE_74 rfl ?_
                refine xm_iastN (W.length) (rfl) 11 (by show W.length < 96; omega) ho (by decide) (by decide) (fun _ => rfl) dX8_takesE_76 ?_
                rw [TG_r11]
                refine x_ald0 ho dX8_takesE_77 ?_
                refine x_dup ho dX8_takesE_78 rfl ?_
                refine r_X8_219 ho dX8_takesE_79 ?_
                change XM B k _ _ _ _ (.int (nI W.length) :: _)
                refine x_iconst (v := 1) ho dX8_takesE_82 rfl ?_
                refine x_iadd ho dX8_takesE_83 ?_
                rw [nI_1 W.length]
                refine w_X8_219 ho dX8_takesE_84 ?_
                rw [TG_21]
                refine x_inc2 (y := 1) ho dX8_takesE_87 (by rw [hk]; decide) rfl rfl ?_
                refine x_ald0 ho dX8_takesE_90 ?_
                refine vMV0 ho cs_X8_216 (w_go B _ n _ hn hn96 hE0.2.1 (hEI hK0)) rfl ⟨rfl, rfl⟩ ⟨Nat.le_of_ble_eq_true rfl, Nat.le_of_ble_eq_true rfl⟩ (Nat.le_of_ble_eq_true rfl) dX8_takesE_91 (fun s91 t91 p91 => ?_)
                obtain ⟨v, d, rfl, hV, hE, e_⟩ := p91
                subst e_
                refine x_goto 172 ho dX8_takesE_94 (by decide) ?_
                refine x_ald0 ho dX8_takesE_172 ?_
                refine vMI0 ho cs_X8_241 (c_X8_notsOpen B _ _ (W.length + 1) rfl (by omega)) rfl ⟨rfl, rfl⟩ ⟨Nat.le_of_ble_eq_true rfl, Nat.le_of_ble_eq_true rfl⟩ (Nat.le_of_ble_eq_true rfl) dX8_takesE_173 (fun r173 s173 t173 p173 => ?_)
                obtain ⟨rfl, rfl, e_⟩ := p173
                subst t173
                change XM B k _ _ _ _ (.int (nI (cntA (upd w W.length (-10)) (W.length + 1))) :: _)
                rw [show cntA (upd w W.length (-10)) (W.length + 1) = cntN (-10 :: W) from cntA_N (LR.push hL)]
                refine x_ist2 ho dX8_takesE_176 (by rw [hk]; decide) rfl ?_
                refine x_goto 28 ho dX8_takesE_177 (by decide) ?_
                exact hA _ _ _ _ hV hE (LR.push hL) hT
      · exact absurd c29 (by decide)
    · intro p nc c na W o nt T hIV hK hv hn8 hA
      obtain ⟨hp, hb, ho8, hcO, hnt⟩ := hIV
      have hE0 := tE_b (b := μ 7) (n := n) (p := p) hp
      have hnl := cntN_le W
      intro v d w t hV hEI hL hT
      have hK0 : ¬ tK (μ 7) n p = 0 := by rw [hK]; decide
      have hlt : tS (μ 7) n p < n := Decidable.byContradiction (fun z => hK0 (tK_0 (by omega)))
      have hE3 := hE0.2.2 hlt
      have hps := tS_b (b := μ 7) hp
      refine x_ild3 ho dX8_takesE_28 ?_
      refine x_if_ne 39 ho dX8_takesE_29 (by decide) (fun c29 => ?_) (fun c29 => ?_)
      · refine x_ild3 ho dX8_takesE_39 ?_
        refine x_if_eq 180 ho dX8_takesE_40 (by decide) (fun c40 => ?_) (fun c40 => ?_)
        · exact absurd c40 (by decide)
        · refine x_ald0 ho dX8_takesE_43 ?_
          refine r_X8_201 ho dX8_takesE_44 ?_
          change XM B k _ _ _ _ (.int ((tK (μ 7) n p)) :: _)
          refine x_iconst (v := 3) ho dX8_takesE_47 rfl ?_
          refine x_icmp_ne 97 ho dX8_takesE_48 (by decide) (fun c48 => ?_) (fun c48 => ?_)
          · exact absurd hK c48
          · refine x_ald0 ho dX8_takesE_51 ?_
            refine r_X8_207 ho dX8_takesE_52 ?_
            change XM B k _ _ _ _ (.int (v) :: _)
            refine x_bipush (v := 33) ho dX8_takesE_55 rfl ?_
            refine x_icmp_ne 97 ho dX8_takesE_57 (by decide) (fun c57 => ?_) (fun c57 => ?_)
            · refine x_ald0 ho dX8_takesE_97 ?_
              refine r_X8_201 ho dX8_takesE_98 ?_
              change XM B k _ _ _ _ (.int ((tK (μ 7) n p)) :: _)
              refine x_iconst (v := 3) ho dX8_takesE_101 rfl ?_
              refine x_icmp_ne 158 ho dX8_takesE_102 (by decide) (fun c102 => ?_) (fun c102 => ?_)
              · exact absurd hK c102
              · refine x_ald0 ho dX8_takesE_105 ?_
                refine r_X8_207 ho dX8_takesE_106 ?_
                change XM B k _ _ _ _ (.int (v) :: _)
                refine x_bipush (v := 40) ho dX8_takesE_109 rfl ?_
                refine x_icmp_ne 158 ho dX8_takesE_111 (by decide) (fun c111 => ?_) (fun c111 => ?_)
                · exact absurd ((hV.1 (Or.inr hK)).trans hv) c111
                · refine x_ild1 ho dX8_takesE_114 ?_
                  refine x_bipush (v := 8) ho dX8_takesE_115 rfl ?_
                  refine x_icmp_ge 158 ho dX8_takesE_117 (by decide) (fun c117 => ?_) (fun c117 => ?_)
                  · exact absurd (n_le (a := 8) (by decide) (by omega) c117) (by omega)
                  · refine x_ald0 ho dX8_takesE_120 ?_
                    refine r_X8_42 ho dX8_takesE_121 ?_
                    refine x_ald0 ho dX8_takesE_124 ?_
                    refine r_X8_219 ho dX8_takesE_125 ?_
                    change XM B k _ _ _ _ (.int (nI W.length) :: _)
                    refine x_bipush (v := (-11)) ho dX8_takesE_128 rfl ?_
                    refine xm_iastN (W.length) (rfl) 11 (by show W.length < 96; omega) ho (by decide) (by decide) (fun _ => rfl) dX8_takesE_130 ?_
                    rw [TG_r11]
                    refine x_ald0 ho dX8_takesE_131 ?_
                    refine x_dup ho dX8_takesE_132 rfl ?_
                    refine r_X8_219 ho dX8_takesE_133 ?_
                    change XM B k _ _ _ _ (.int (nI W.length) :: _)
                    refine x_iconst (v := 1) ho dX8_takesE_136 rfl ?_
                    refine x_iadd ho dX8_takesE_137 ?_
                    rw [nI_1 W.length]
                    refine w_X8_219 ho dX8_takesE_138 ?_
                    rw [TG_21]
                    refine x_inc1 (y := 1) ho dX8_takesE_141 (by rw [hk]; decide) rfl rfl ?_
                    rw [nI_1 o]
                    refine x_ald0 ho dX8_takesE_144 ?_
                    refine r_X8_45 ho dX8_takesE_145 ?_
                    refine x_ild1 ho dX8_takesE_148 ?_
                    refine x_iconst (v := 0) ho dX8_takesE_149 rfl ?_
                    refine xm_zastN (o + 1) (rfl) (by omega) ho (Or.inl rfl) dX8_takesE_150 ?_
                    rw [TG_r12]
                    refine x_ald0 ho dX8_takesE_151 ?_
                    refine vMV0 ho cs_X8_216 (w_go B _ n _ hn hn96 hE0.2.1 (hEI hK0)) rfl ⟨rfl, rfl⟩ ⟨Nat.le_of_ble_eq_true rfl, Nat.le_of_ble_eq_true rfl⟩ (Nat.le_of_ble_eq_true rfl) dX8_takesE_152 (fun s152 t152 p152 => ?_)
                    obtain ⟨v, d, rfl, hV, hE, e_⟩ := p152
                    subst e_
                    refine x_goto 172 ho dX8_takesE_155 (by decide) ?_
                    refine x_ald0 ho dX8_takesE_172 ?_
                    refine vMI0 ho cs_X8_241 (c_X8_notsOpen B _ _ (W.length + 1) rfl (by omega)) rfl ⟨rfl, rfl⟩ ⟨Nat.le_of_ble_eq_true rfl, Nat.le_of_ble_eq_true rfl⟩ (Nat.le_of_ble_eq_true rfl) dX8_takesE_173 (fun r173 s173 t173 p173 => ?_)
                    obtain ⟨rfl, rfl, e_⟩ := p173
                    subst t173
                    change XM B k _ _ _ _ (.int (nI (cntA (upd w W.length (-11)) (W.length + 1))) :: _)
                    rw [show cntA (upd w W.length (-11)) (W.length + 1) = cntN (-11 :: W) from cntA_N (LR.push hL)]
                    refine x_ist2 ho dX8_takesE_176 (by rw [hk]; decide) rfl ?_
                    refine x_goto 28 ho dX8_takesE_177 (by decide) ?_
                    exact hA _ _ _ _ hV hE (LR.push hL) (fun j hj => by
                      unfold upd uT
                      by_cases q : j = o + 1
                      · rw [if_pos q, if_pos q]; rfl
                      · rw [if_neg q, if_neg q]; exact hT j (by omega))
            · exact absurd ((hV.1 (Or.inr hK)).symm.trans c57) (by rw [hv]; decide)
      · exact absurd c29 (by decide)
    · intro p nc c na W o nt T W1 nc1 c1 hIV hP eS hA
      obtain ⟨hp, hb, ho8, hcO, hnt⟩ := hIV
      have hE0 := tE_b (b := μ 7) (n := n) (p := p) hp
      have hnl := cntN_le W
      intro v d w t hV hEI hL hT
      have hK3 : ¬ tK (μ 7) n p = 3 := hP.elim (fun q => by rw [q]; decide) (fun q => by rw [q.1]; decide)
      have hK0 : ¬ tK (μ 7) n p = 0 := hP.elim (fun q => by rw [q]; decide) (fun q => by rw [q.1]; decide)
      have hlt : tS (μ 7) n p < n := Decidable.byContradiction (fun z => hK0 (tK_0 (by omega)))
      have hE3 := hE0.2.2 hlt
      have hps := tS_b (b := μ 7) hp
      have hL1 : LR w W1 := by have z := mSet_LR (L := 6) (nc := nc + 1) (c := upd c nc (mAt (μ 7) n ky p)) hL; rw [eS] at z; exact z
      have hl1 : nc1 + W1.length = nc + 1 + W.length := by have z := mSet_len (L := 6) (W := W) (nc := nc + 1) (c := upd c nc (mAt (μ 7) n ky p)); rw [eS] at z; exact z
      refine x_ild3 ho dX8_takesE_28 ?_
      refine x_if_ne 39 ho dX8_takesE_29 (by decide) (fun c29 => ?_) (fun c29 => ?_)
      · refine x_ild3 ho dX8_takesE_39 ?_
        refine x_if_eq 180 ho dX8_takesE_40 (by decide) (fun c40 => ?_) (fun c40 => ?_)
        · exact absurd c40 (by decide)
        · refine x_ald0 ho dX8_takesE_43 ?_
          refine r_X8_201 ho dX8_takesE_44 ?_
          change XM B k _ _ _ _ (.int ((tK (μ 7) n p)) :: _)
          refine x_iconst (v := 3) ho dX8_takesE_47 rfl ?_
          refine x_icmp_ne 97 ho dX8_takesE_48 (by decide) (fun c48 => ?_) (fun c48 => ?_)
          · refine x_ald0 ho dX8_takesE_97 ?_
            refine r_X8_201 ho dX8_takesE_98 ?_
            change XM B k _ _ _ _ (.int ((tK (μ 7) n p)) :: _)
            refine x_iconst (v := 3) ho dX8_takesE_101 rfl ?_
            refine x_icmp_ne 158 ho dX8_takesE_102 (by decide) (fun c102 => ?_) (fun c102 => ?_)
            · refine x_ald0 ho dX8_takesE_158 ?_
              refine vMI0 ho cs_X8_237 (c_X8_takesPart B _ _ n p hn hn96 hp v d _ nc na W c w t hV hEI hL (by omega)) rfl ⟨rfl, rfl⟩ ⟨Nat.le_of_ble_eq_true rfl, Nat.le_of_ble_eq_true rfl⟩ (Nat.le_of_ble_eq_true rfl) dX8_takesE_159 (fun r159 s159 t159 p159 => ?_)
              obtain ⟨hz, e_⟩ := p159
              subst t159
              obtain ⟨-, rfl, v, d, rfl, hV, hE⟩ := hz.resolve_right (fun y => y.1 hP)
              rw [eS]
              refine x_if_eq 170 ho dX8_takesE_162 (by decide) (fun c162 => ?_) (fun c162 => ?_)
              · exact absurd c162 (by decide)
              · refine x_iconst (v := 0) ho dX8_takesE_165 rfl ?_
                refine x_ist3 ho dX8_takesE_166 (by rw [hk]; decide) rfl ?_
                refine x_goto 172 ho dX8_takesE_167 (by decide) ?_
                refine x_ald0 ho dX8_takesE_172 ?_
                refine vMI0 ho cs_X8_241 (c_X8_notsOpen B _ _ (W1.length) rfl (by omega)) rfl ⟨rfl, rfl⟩ ⟨Nat.le_of_ble_eq_true rfl, Nat.le_of_ble_eq_true rfl⟩ (Nat.le_of_ble_eq_true rfl) dX8_takesE_173 (fun r173 s173 t173 p173 => ?_)
                obtain ⟨rfl, rfl, e_⟩ := p173
                subst t173
                change XM B k _ _ _ _ (.int (nI (cntA w (W1.length))) :: _)
                rw [show cntA w W1.length = cntN W1 from cntA_N hL1]
                refine x_ist2 ho dX8_takesE_176 (by rw [hk]; decide) rfl ?_
                refine x_goto 28 ho dX8_takesE_177 (by decide) ?_
                exact hA _ _ _ _ hV hE hL1 hT
            · exact absurd c102 hK3
          · exact absurd c48 hK3
      · exact absurd c29 (by decide)
    · intro p nc c na W o nt T hIV nF1 nF2 nP hPF
      obtain ⟨hp, hb, ho8, hcO, hnt⟩ := hIV
      have hE0 := tE_b (b := μ 7) (n := n) (p := p) hp
      have hnl := cntN_le W
      intro v d w t hV hEI hL hT
      have K158 : nc + W.length < 96 → XM B k (TG μ (nI (tS (μ 7) n p)) (nI (tE (μ 7) n p)) (tK (μ 7) n p) v d ky (nI nc) (nI na) (nI W.length) c w t) δ 158 [some (.ref (aB B 0)), some (.int (nI o)), some (.int (nI nt)), some (.int 1), none] [] := by
        intro hb96
        refine x_ald0 ho dX8_takesE_158 ?_
        refine vMI0 ho cs_X8_237 (c_X8_takesPart B _ _ n p hn hn96 hp v d _ nc na W c w t hV hEI hL (by omega)) rfl ⟨rfl, rfl⟩ ⟨Nat.le_of_ble_eq_true rfl, Nat.le_of_ble_eq_true rfl⟩ (Nat.le_of_ble_eq_true rfl) dX8_takesE_159 (fun r159 s159 t159 p159 => ?_)
        obtain ⟨hz, e_⟩ := p159
        subst t159
        obtain ⟨-, rfl, rfl⟩ := hz.resolve_left (fun y => nP y.1)
        refine x_if_eq 170 ho dX8_takesE_162 (by decide) (fun c162 => ?_) (fun c162 => ?_)
        · refine x_iconst (v := 0) ho dX8_takesE_170 rfl ?_
          refine x_zret ho hr (by decide) ?_ dX8_takesE_171
          exact ⟨_, _, _, rfl, rfl, Or.inl ⟨rfl, p, v, d, _, _, _, _, _, _, hPF, rfl⟩, rfl⟩
        · exact absurd rfl c162
      have hb96 : nc + W.length < 96 := by omega
      refine x_ild3 ho dX8_takesE_28 ?_
      refine x_if_ne 39 ho dX8_takesE_29 (by decide) (fun c29 => ?_) (fun c29 => ?_)
      · refine x_ild3 ho dX8_takesE_39 ?_
        refine x_if_eq 180 ho dX8_takesE_40 (by decide) (fun c40 => ?_) (fun c40 => ?_)
        · exact absurd c40 (by decide)
        · refine x_ald0 ho dX8_takesE_43 ?_
          refine r_X8_201 ho dX8_takesE_44 ?_
          change XM B k _ _ _ _ (.int ((tK (μ 7) n p)) :: _)
          refine x_iconst (v := 3) ho dX8_takesE_47 rfl ?_
          refine x_icmp_ne 97 ho dX8_takesE_48 (by decide) (fun c48 => ?_) (fun c48 => ?_)
          · refine x_ald0 ho dX8_takesE_97 ?_
            refine r_X8_201 ho dX8_takesE_98 ?_
            change XM B k _ _ _ _ (.int ((tK (μ 7) n p)) :: _)
            refine x_iconst (v := 3) ho dX8_takesE_101 rfl ?_
            refine x_icmp_ne 158 ho dX8_takesE_102 (by decide) (fun c102 => ?_) (fun c102 => ?_)
            · exact K158 hb96
            · refine x_ald0 ho dX8_takesE_105 ?_
              refine r_X8_207 ho dX8_takesE_106 ?_
              change XM B k _ _ _ _ (.int (v) :: _)
              refine x_bipush (v := 40) ho dX8_takesE_109 rfl ?_
              refine x_icmp_ne 158 ho dX8_takesE_111 (by decide) (fun c111 => ?_) (fun c111 => ?_)
              · exact K158 hb96
              · refine x_ild1 ho dX8_takesE_114 ?_
                refine x_bipush (v := 8) ho dX8_takesE_115 rfl ?_
                refine x_icmp_ge 158 ho dX8_takesE_117 (by decide) (fun c117 => ?_) (fun c117 => ?_)
                · exact K158 hb96
                · exact absurd ⟨c102, (hV.1 (Or.inr c102)).symm.trans c111, n_nle (a := 8) (by decide) (by omega) c117⟩ nF2
          · refine x_ald0 ho dX8_takesE_51 ?_
            refine r_X8_207 ho dX8_takesE_52 ?_
            change XM B k _ _ _ _ (.int (v) :: _)
            refine x_bipush (v := 33) ho dX8_takesE_55 rfl ?_
            refine x_icmp_ne 97 ho dX8_takesE_57 (by decide) (fun c57 => ?_) (fun c57 => ?_)
            · refine x_ald0 ho dX8_takesE_97 ?_
              refine r_X8_201 ho dX8_takesE_98 ?_
              change XM B k _ _ _ _ (.int ((tK (μ 7) n p)) :: _)
              refine x_iconst (v := 3) ho dX8_takesE_101 rfl ?_
              refine x_icmp_ne 158 ho dX8_takesE_102 (by decide) (fun c102 => ?_) (fun c102 => ?_)
              · exact K158 hb96
              · refine x_ald0 ho dX8_takesE_105 ?_
                refine r_X8_207 ho dX8_takesE_106 ?_
                change XM B k _ _ _ _ (.int (v) :: _)
                refine x_bipush (v := 40) ho dX8_takesE_109 rfl ?_
                refine x_icmp_ne 158 ho dX8_takesE_111 (by decide) (fun c111 => ?_) (fun c111 => ?_)
                · exact K158 hb96
                · refine x_ild1 ho dX8_takesE_114 ?_
                  refine x_bipush (v := 8) ho dX8_takesE_115 rfl ?_
                  refine x_icmp_ge 158 ho dX8_takesE_117 (by decide) (fun c117 => ?_) (fun c117 => ?_)
                  · exact K158 hb96
                  · exact absurd ⟨c102, (hV.1 (Or.inr c102)).symm.trans c111, n_nle (a := 8) (by decide) (by omega) c117⟩ nF2
            · refine x_ild2 ho dX8_takesE_60 ?_
              refine x_bipush (v := 8) ho dX8_takesE_61 rfl ?_
              refine x_icmp_ge 97 ho dX8_takesE_63 (by decide) (fun c63 => ?_) (fun c63 => ?_)
              · refine x_ald0 ho dX8_takesE_97 ?_
                refine r_X8_201 ho dX8_takesE_98 ?_
                change XM B k _ _ _ _ (.int ((tK (μ 7) n p)) :: _)
                refine x_iconst (v := 3) ho dX8_takesE_101 rfl ?_
                refine x_icmp_ne 158 ho dX8_takesE_102 (by decide) (fun c102 => ?_) (fun c102 => ?_)
                · exact K158 hb96
                · refine x_ald0 ho dX8_takesE_105 ?_
                  refine r_X8_207 ho dX8_takesE_106 ?_
                  change XM B k _ _ _ _ (.int (v) :: _)
                  refine x_bipush (v := 40) ho dX8_takesE_109 rfl ?_
                  refine x_icmp_ne 158 ho dX8_takesE_111 (by decide) (fun c111 => ?_) (fun c111 => ?_)
                  · exact K158 hb96
                  · refine x_ild1 ho dX8_takesE_114 ?_
                    refine x_bipush (v := 8) ho dX8_takesE_115 rfl ?_
                    refine x_icmp_ge 158 ho dX8_takesE_117 (by decide) (fun c117 => ?_) (fun c117 => ?_)
                    · exact K158 hb96
                    · exact absurd ⟨c102, (hV.1 (Or.inr c102)).symm.trans c111, n_nle (a := 8) (by decide) (by omega) c117⟩ nF2
              · exact absurd ⟨c48, (hV.1 (Or.inr c48)).symm.trans c57, n_nle (a := 8) (by decide) (by omega) c63⟩ nF1
      · exact absurd c29 (by decide)
    · intro p nc c na W o nt T W2 nc1 c1 W3 nc3 c3 hIV hK hv ho0 eS eS3 hA
      obtain ⟨hp, hb, ho8, hcO, hnt⟩ := hIV
      have hE0 := tE_b (b := μ 7) (n := n) (p := p) hp
      have hnl := cntN_le W
      intro v d w t hV hEI hL hT
      have hK0 : ¬ tK (μ 7) n p = 0 := by rw [hK]; decide
      have hL1 : LR w (-11 :: W2) := by have z := mSet_LR (L := 0) (nc := nc) (c := c) hL; rw [eS] at z; exact z
      have hl1 : nc1 + (W2.length + 1) = nc + W.length := by have z := mSet_len (L := 0) (W := W) (nc := nc) (c := c); rw [eS] at z; exact z
      have hL3 : LR w W3 := by have z := mSet_LR (L := 6) (nc := nc1) (c := c1) hL1.2; rw [eS3] at z; exact z
      have hl3 : nc3 + W3.length = nc1 + W2.length := by have z := mSet_len (L := 6) (W := W2) (nc := nc1) (c := c1); rw [eS3] at z; exact z
      refine x_ild3 ho dX8_takesE_28 ?_
      refine x_if_ne 39 ho dX8_takesE_29 (by decide) (fun c29 => ?_) (fun c29 => ?_)
      · exact absurd rfl c29
      · refine x_ald0 ho dX8_takesE_32 ?_
        refine r_X8_201 ho dX8_takesE_33 ?_
        change XM B k _ _ _ _ (.int ((tK (μ 7) n p)) :: _)
        refine x_if_eq 345 ho dX8_takesE_36 (by decide) (fun c36 => ?_) (fun c36 => ?_)
        · exact absurd c36 hK0
        · refine x_ild3 ho dX8_takesE_39 ?_
          refine x_if_eq 180 ho dX8_takesE_40 (by decide) (fun c40 => ?_) (fun c40 => ?_)
          · refine x_ald0 ho dX8_takesE_180 ?_
            refine r_X8_201 ho dX8_takesE_181 ?_
            change XM B k _ _ _ _ (.int ((tK (μ 7) n p)) :: _)
            refine x_iconst (v := 3) ho dX8_takesE_184 rfl ?_
            refine x_icmp_ne 237 ho dX8_takesE_185 (by decide) (fun c185 => ?_) (fun c185 => ?_)
            · exact absurd hK c185
            · refine x_ald0 ho dX8_takesE_188 ?_
              refine r_X8_207 ho dX8_takesE_189 ?_
              change XM B k _ _ _ _ (.int (v) :: _)
              refine x_bipush (v := 41) ho dX8_takesE_192 rfl ?_
              refine x_icmp_ne 237 ho dX8_takesE_194 (by decide) (fun c194 => ?_) (fun c194 => ?_)
              · exact absurd ((hV.1 (Or.inr hK)).trans hv) c194
              · refine x_ild1 ho dX8_takesE_197 ?_
                refine x_if_le 237 ho dX8_takesE_198 (by decide) (fun c198 => ?_) (fun c198 => ?_)
                · exact absurd (n_le (b := 0) (by omega) (by decide) c198) (by omega)
                · refine x_ald0 ho dX8_takesE_201 ?_
                  refine x_iconst (v := 0) ho dX8_takesE_202 rfl ?_
                  refine vMV1 ho cs_X8_234 (c_X8_settle B μ δ _ _ _ _ _ _ _ _ _ 0 (by decide) W nc c hL (by omega)) rfl ⟨rfl, rfl⟩ ⟨Nat.le_of_ble_eq_true rfl, Nat.le_of_ble_eq_true rfl⟩ (Nat.le_of_ble_eq_true rfl) dX8_takesE_203 (fun s203 t203 p203 => ?_)
                  obtain ⟨rfl, e_⟩ := p203
                  subst t203
                  rw [eS]
                  refine x_ald0 ho dX8_takesE_206 ?_
                  refine x_dup ho dX8_takesE_207 rfl ?_
                  refine r_X8_219 ho dX8_takesE_208 ?_
                  change XM B k _ _ _ _ (.int (nI (W2.length + 1)) :: _)
                  refine x_iconst (v := 1) ho dX8_takesE_211 rfl ?_
                  refine x_isub ho dX8_takesE_212 ?_
                  rw [idm0 (by omega), Nat.add_sub_cancel]
                  refine w_X8_219 ho dX8_takesE_213 ?_
                  rw [TG_21]
                  refine x_inc1 (y := (-1)) ho dX8_takesE_216 (by rw [hk]; decide) rfl rfl ?_
                  rw [idm1 (by omega)]
                  refine x_ald0 ho dX8_takesE_219 ?_
                  refine x_bipush (v := 6) ho dX8_takesE_220 rfl ?_
                  refine vMV1 ho cs_X8_234 (c_X8_settle B μ δ _ _ _ _ _ _ _ _ _ 6 (by decide) W2 nc1 c1 hL1.2 (by have : (-11 :: W2).length = W2.length + 1 := rfl; omega)) rfl ⟨rfl, rfl⟩ ⟨Nat.le_of_ble_eq_true rfl, Nat.le_of_ble_eq_true rfl⟩ (Nat.le_of_ble_eq_true rfl) dX8_takesE_222 (fun s222 t222 p222 => ?_)
                  obtain ⟨rfl, e_⟩ := p222
                  subst t222
                  rw [eS3]
                  refine x_ald0 ho dX8_takesE_225 ?_
                  refine vMI0 ho cs_X8_241 (c_X8_notsOpen B _ _ (W3.length) rfl (by omega)) rfl ⟨rfl, rfl⟩ ⟨Nat.le_of_ble_eq_true rfl, Nat.le_of_ble_eq_true rfl⟩ (Nat.le_of_ble_eq_true rfl) dX8_takesE_226 (fun r226 s226 t226 p226 => ?_)
                  obtain ⟨rfl, rfl, e_⟩ := p226
                  subst t226
                  change XM B k _ _ _ _ (.int (nI (cntA w (W3.length))) :: _)
                  rw [show cntA w W3.length = cntN W3 from cntA_N hL3]
                  refine x_ist2 ho dX8_takesE_229 (by rw [hk]; decide) rfl ?_
                  refine x_ald0 ho dX8_takesE_230 ?_
                  refine vMV0 ho cs_X8_216 (w_go B _ n _ hn hn96 hE0.2.1 (hEI hK0)) rfl ⟨rfl, rfl⟩ ⟨Nat.le_of_ble_eq_true rfl, Nat.le_of_ble_eq_true rfl⟩ (Nat.le_of_ble_eq_true rfl) dX8_takesE_231 (fun s231 t231 p231 => ?_)
                  obtain ⟨v, d, rfl, hV, hE, e_⟩ := p231
                  subst e_
                  refine x_goto 28 ho dX8_takesE_234 (by decide) ?_
                  exact hA _ _ _ _ hV hE hL3 (fun j hj => hT j (by omega))
          · exact absurd rfl c40
    · intro p nc c na W o nt T W1 nc1 c1 hIV hs hts eS hA
      obtain ⟨hp, hb, ho8, hcO, hnt⟩ := hIV
      have hE0 := tE_b (b := μ 7) (n := n) (p := p) hp
      have hnl := cntN_le W
      intro v d w t hV hEI hL hT
      have hK := sgP_3 hs
      have hK0 : ¬ tK (μ 7) n p = 0 := by rw [hK]; decide
      have hlt : tS (μ 7) n p < n := Decidable.byContradiction (fun z => hK0 (tK_0 (by omega)))
      have hE3 := hE0.2.2 hlt
      have hps := tS_b (b := μ 7) hp
      have hr6 := rkN_6 (sgQ (μ 7) n p)
      have hL1 : LR w W1 := by have z := mSet_LR (L := (rkN (sgQ (μ 7) n p))) (nc := nc) (c := c) hL; rw [eS] at z; exact z
      have hl1 : nc1 + W1.length = nc + W.length := by have z := mSet_len (L := (rkN (sgQ (μ 7) n p))) (W := W) (nc := nc) (c := c); rw [eS] at z; exact z
      have K305 : ∀ z : Int32, z = tbI (decide ((rkN (sgQ (μ 7) n p)) = 3) || (decide (3 < (rkN (sgQ (μ 7) n p))) && T o)) → XM B k (TG μ (nI (tS (μ 7) n p)) (nI (tE (μ 7) n p)) (tK (μ 7) n p) v d ky (nI nc) (nI na) (nI W.length) c w t) δ 305 [some (.ref (aB B 0)), some (.int (nI o)), some (.int (nI nt)), some (.int 0), some (.int (sgQ (μ 7) n p))] [.int z, .int (nI o), .ref (aB B 12)] := by
        intro z ez
        refine xm_zastN (o) (rfl) (by omega) ho (by rw [ez]; exact tbI_01) dX8_takesE_305 ?_
        rw [TG_r12, ez]
        refine x_ald0 ho dX8_takesE_306 ?_
        refine x_ild4 ho dX8_takesE_307 ?_
        refine sMI1 ho cs_X8_222 (c_X8_rank B _ _ _) ⟨rfl, rfl⟩ ⟨Nat.le_of_ble_eq_true rfl, Nat.le_of_ble_eq_true rfl⟩ (Nat.le_of_ble_eq_true rfl) dX8_takesE_309 (fun r309 s309 t309 p309 => ?_)
        obtain ⟨rfl, rfl, e_⟩ := p309
        subst t309
        refine vMV1 ho cs_X8_234 (c_X8_settle B μ δ _ _ _ _ _ _ _ _ _ (rkN (sgQ (μ 7) n p)) hr6 W nc c hL (by omega)) rfl ⟨rfl, rfl⟩ ⟨Nat.le_of_ble_eq_true rfl, Nat.le_of_ble_eq_true rfl⟩ (Nat.le_of_ble_eq_true rfl) dX8_takesE_312 (fun s312 t312 p312 => ?_)
        obtain ⟨rfl, e_⟩ := p312
        subst t312
        rw [eS]
        refine x_ald0 ho dX8_takesE_315 ?_
        refine r_X8_42 ho dX8_takesE_316 ?_
        refine x_ald0 ho dX8_takesE_319 ?_
        refine r_X8_219 ho dX8_takesE_320 ?_
        change XM B k _ _ _ _ (.int (nI W1.length) :: _)
        refine x_ild4 ho dX8_takesE_323 ?_
        refine xm_iastN (W1.length) (rfl) 11 (by show W1.length < 96; omega) ho (by decide) (by decide) (fun _ => rfl) dX8_takesE_325 ?_
        rw [TG_r11]
        refine x_ald0 ho dX8_takesE_326 ?_
        refine x_dup ho dX8_takesE_327 rfl ?_
        refine r_X8_219 ho dX8_takesE_328 ?_
        change XM B k _ _ _ _ (.int (nI W1.length) :: _)
        refine x_iconst (v := 1) ho dX8_takesE_331 rfl ?_
        refine x_iadd ho dX8_takesE_332 ?_
        rw [nI_1 W1.length]
        refine w_X8_219 ho dX8_takesE_333 ?_
        rw [TG_21]
        refine x_iconst (v := 1) ho dX8_takesE_336 rfl ?_
        refine x_ist3 ho dX8_takesE_337 (by rw [hk]; decide) rfl ?_
        refine x_ald0 ho dX8_takesE_338 ?_
        refine vMV0 ho cs_X8_216 (w_go B _ n _ hn hn96 hE0.2.1 (hEI hK0)) rfl ⟨rfl, rfl⟩ ⟨Nat.le_of_ble_eq_true rfl, Nat.le_of_ble_eq_true rfl⟩ (Nat.le_of_ble_eq_true rfl) dX8_takesE_339 (fun s339 t339 p339 => ?_)
        obtain ⟨v, d, rfl, hV, hE, e_⟩ := p339
        subst e_
        refine x_goto 28 ho dX8_takesE_342 (by decide) ?_
        refine x_loc (Lsb.s (Lsb.s (Lsb.s (Lsb.s (Lsb.n Lsb.e))))) ?_
        exact hA _ _ _ _ hV hE (LR.push hL1) (fun j hj => by
          unfold upd uT
          by_cases q : j = o
          · rw [if_pos q, if_pos q]
          · rw [if_neg q, if_neg q]; exact hT j hj)
      have K268 : XM B k (TG μ (nI (tS (μ 7) n p)) (nI (tE (μ 7) n p)) (tK (μ 7) n p) v d ky (nI nc) (nI na) (nI W.length) c w t) δ 268 [some (.ref (aB B 0)), some (.int (nI o)), some (.int (nI nt)), some (.int 0), some (.int (sgQ (μ 7) n p))] [] := by
        refine x_ald0 ho dX8_takesE_268 ?_
        refine r_X8_45 ho dX8_takesE_269 ?_
        refine x_ild1 ho dX8_takesE_272 ?_
        refine x_ild4 ho dX8_takesE_273 ?_
        refine sMI1 ho cs_X8_222 (c_X8_rank B _ _ _) ⟨rfl, rfl⟩ ⟨Nat.le_of_ble_eq_true rfl, Nat.le_of_ble_eq_true rfl⟩ (Nat.le_of_ble_eq_true rfl) dX8_takesE_275 (fun r275 s275 t275 p275 => ?_)
        obtain ⟨rfl, rfl, e_⟩ := p275
        subst t275
        refine x_iconst (v := 3) ho dX8_takesE_278 rfl ?_
        refine x_icmp_eq 300 ho dX8_takesE_279 (by decide) (fun c279 => ?_) (fun c279 => ?_)
        · have c279 := n_eq (b := 3) (by omega) (by decide) c279
          refine x_iconst (v := 1) ho dX8_takesE_300 rfl ?_
          refine x_goto 305 ho dX8_takesE_301 (by decide) ?_
          first | exact K305 1 (by rw [decide_eq_true c279]; rfl) | exact K305 0 (by rw [decide_eq_false c279, decide_eq_false (by omega)]; rfl) | exact K305 0 (by rw [decide_eq_false c279, Bool.eq_false_iff.mpr c297, Bool.and_false]; rfl) | exact K305 1 (by rw [decide_eq_false c279, decide_eq_true c288, c297]; rfl)
        · have c279 : ¬ rkN (sgQ (μ 7) n p) = 3 := fun z => c279 (congrArg nI z)
          refine x_ild4 ho dX8_takesE_282 ?_
          refine sMI1 ho cs_X8_222 (c_X8_rank B _ _ _) ⟨rfl, rfl⟩ ⟨Nat.le_of_ble_eq_true rfl, Nat.le_of_ble_eq_true rfl⟩ (Nat.le_of_ble_eq_true rfl) dX8_takesE_284 (fun r284 s284 t284 p284 => ?_)
          obtain ⟨rfl, rfl, e_⟩ := p284
          subst t284
          refine x_iconst (v := 3) ho dX8_takesE_287 rfl ?_
          refine x_icmp_le 304 ho dX8_takesE_288 (by decide) (fun c288 => ?_) (fun c288 => ?_)
          · have c288 := n_le (b := 3) (by omega) (by decide) c288
            refine x_iconst (v := 0) ho dX8_takesE_304 rfl ?_
            first | exact K305 1 (by rw [decide_eq_true c279]; rfl) | exact K305 0 (by rw [decide_eq_false c279, decide_eq_false (by omega)]; rfl) | exact K305 0 (by rw [decide_eq_false c279, Bool.eq_false_iff.mpr c297, Bool.and_false]; rfl) | exact K305 1 (by rw [decide_eq_false c279, decide_eq_true c288, c297]; rfl)
          · have c288 := n_nle (b := 3) (by omega) (by decide) c288
            refine x_ald0 ho dX8_takesE_291 ?_
            refine r_X8_45 ho dX8_takesE_292 ?_
            refine x_ild1 ho dX8_takesE_295 ?_
            refine xm_zaldN (o) (rfl) (by omega) ho dX8_takesE_296 ?_
            change XM B k _ _ _ _ (.int (t o) :: _)
            rw [hT o (Nat.le_refl o)]
            refine x_if_eq 304 ho dX8_takesE_297 (by decide) (fun c297 => ?_) (fun c297 => ?_)
            · have c297 := tbI_0.mp c297
              refine x_iconst (v := 0) ho dX8_takesE_304 rfl ?_
              first | exact K305 1 (by rw [decide_eq_true c279]; rfl) | exact K305 0 (by rw [decide_eq_false c279, decide_eq_false (by omega)]; rfl) | exact K305 0 (by rw [decide_eq_false c279, Bool.eq_false_iff.mpr c297, Bool.and_false]; rfl) | exact K305 1 (by rw [decide_eq_false c279, decide_eq_true c288, c297]; rfl)
            · have c297 : T o = true := Decidable.byContradiction (fun z => c297 (tbI_0.mpr z))
              refine x_iconst (v := 1) ho dX8_takesE_300 rfl ?_
              refine x_goto 305 ho dX8_takesE_301 (by decide) ?_
              first | exact K305 1 (by rw [decide_eq_true c279]; rfl) | exact K305 0 (by rw [decide_eq_false c279, decide_eq_false (by omega)]; rfl) | exact K305 0 (by rw [decide_eq_false c279, Bool.eq_false_iff.mpr c297, Bool.and_false]; rfl) | exact K305 1 (by rw [decide_eq_false c279, decide_eq_true c288, c297]; rfl)
      have K237 : XM B k (TG μ (nI (tS (μ 7) n p)) (nI (tE (μ 7) n p)) (tK (μ 7) n p) v d ky (nI nc) (nI na) (nI W.length) c w t) δ 237 [some (.ref (aB B 0)), some (.int (nI o)), some (.int (nI nt)), some (.int 0), none] [] := by
        refine x_ald0 ho dX8_takesE_237 ?_
        refine vMI0 ho cs_X8_244 (c_X8_signHere B _ _) rfl ⟨rfl, rfl⟩ ⟨Nat.le_of_ble_eq_true rfl, Nat.le_of_ble_eq_true rfl⟩ (Nat.le_of_ble_eq_true rfl) dX8_takesE_238 (fun r238 s238 t238 p238 => ?_)
        obtain ⟨rfl, rfl, e_⟩ := p238
        subst t238
        change XM B k _ _ _ _ (.int (sgA (tK (μ 7) n p) v) :: _)
        rw [VV_sg hV]
        refine x_ist4 ho dX8_takesE_241 (by rw [hk]; decide) rfl ?_
        refine x_ild4 ho dX8_takesE_243 ?_
        refine x_if_eq 266 ho dX8_takesE_245 (by decide) (fun c245 => ?_) (fun c245 => ?_)
        · exact absurd c245 hs
        · refine x_ild4 ho dX8_takesE_248 ?_
          refine sMI1 ho cs_X8_222 (c_X8_rank B _ _ _) ⟨rfl, rfl⟩ ⟨Nat.le_of_ble_eq_true rfl, Nat.le_of_ble_eq_true rfl⟩ (Nat.le_of_ble_eq_true rfl) dX8_takesE_250 (fun r250 s250 t250 p250 => ?_)
          obtain ⟨rfl, rfl, e_⟩ := p250
          subst t250
          refine x_iconst (v := 3) ho dX8_takesE_253 rfl ?_
          refine x_icmp_ne 268 ho dX8_takesE_254 (by decide) (fun c254 => ?_) (fun c254 => ?_)
          · exact K268
          · have c254 := n_eq (b := 3) (by omega) (by decide) c254
            refine x_ald0 ho dX8_takesE_257 ?_
            refine r_X8_45 ho dX8_takesE_258 ?_
            refine x_ild1 ho dX8_takesE_261 ?_
            refine xm_zaldN (o) (rfl) (by omega) ho dX8_takesE_262 ?_
            change XM B k _ _ _ _ (.int (t o) :: _)
            rw [hT o (Nat.le_refl o)]
            refine x_if_eq 268 ho dX8_takesE_263 (by decide) (fun c263 => ?_) (fun c263 => ?_)
            · exact K268
            · exact absurd ⟨c254, Decidable.byContradiction (fun z => c263 (tbI_0.mpr z))⟩ hts
      refine x_ild3 ho dX8_takesE_28 ?_
      refine x_if_ne 39 ho dX8_takesE_29 (by decide) (fun c29 => ?_) (fun c29 => ?_)
      · exact absurd rfl c29
      · refine x_ald0 ho dX8_takesE_32 ?_
        refine r_X8_201 ho dX8_takesE_33 ?_
        change XM B k _ _ _ _ (.int ((tK (μ 7) n p)) :: _)
        refine x_if_eq 345 ho dX8_takesE_36 (by decide) (fun c36 => ?_) (fun c36 => ?_)
        · exact absurd c36 hK0
        · refine x_ild3 ho dX8_takesE_39 ?_
          refine x_if_eq 180 ho dX8_takesE_40 (by decide) (fun c40 => ?_) (fun c40 => ?_)
          · refine x_ald0 ho dX8_takesE_180 ?_
            refine r_X8_201 ho dX8_takesE_181 ?_
            change XM B k _ _ _ _ (.int ((tK (μ 7) n p)) :: _)
            refine x_iconst (v := 3) ho dX8_takesE_184 rfl ?_
            refine x_icmp_ne 237 ho dX8_takesE_185 (by decide) (fun c185 => ?_) (fun c185 => ?_)
            · exact absurd hK c185
            · refine x_ald0 ho dX8_takesE_188 ?_
              refine r_X8_207 ho dX8_takesE_189 ?_
              change XM B k _ _ _ _ (.int (v) :: _)
              refine x_bipush (v := 41) ho dX8_takesE_192 rfl ?_
              refine x_icmp_ne 237 ho dX8_takesE_194 (by decide) (fun c194 => ?_) (fun c194 => ?_)
              · exact K237
              · exact absurd (show sgQ (μ 7) n p = 0 by
                  unfold sgQ sgA
                  rw [if_pos hK, (hV.1 (Or.inr hK)).symm.trans c194]
                  decide) hs
          · exact absurd rfl c40
    · intro p nc c na W o nt T hIV hK0 nC hS hPF
      obtain ⟨hp, hb, ho8, hcO, hnt⟩ := hIV
      have hE0 := tE_b (b := μ 7) (n := n) (p := p) hp
      have hnl := cntN_le W
      intro v d w t hV hEI hL hT
      have hs3 : ¬ sgQ (μ 7) n p = 0 → rkN (sgQ (μ 7) n p) = 3 ∧ T o = true := fun z => hS.resolve_left z
      have K237 : XM B k (TG μ (nI (tS (μ 7) n p)) (nI (tE (μ 7) n p)) (tK (μ 7) n p) v d ky (nI nc) (nI na) (nI W.length) c w t) δ 237 [some (.ref (aB B 0)), some (.int (nI o)), some (.int (nI nt)), some (.int 0), none] [] := by
        refine x_ald0 ho dX8_takesE_237 ?_
        refine vMI0 ho cs_X8_244 (c_X8_signHere B _ _) rfl ⟨rfl, rfl⟩ ⟨Nat.le_of_ble_eq_true rfl, Nat.le_of_ble_eq_true rfl⟩ (Nat.le_of_ble_eq_true rfl) dX8_takesE_238 (fun r238 s238 t238 p238 => ?_)
        obtain ⟨rfl, rfl, e_⟩ := p238
        subst t238
        change XM B k _ _ _ _ (.int (sgA (tK (μ 7) n p) v) :: _)
        rw [VV_sg hV]
        refine x_ist4 ho dX8_takesE_241 (by rw [hk]; decide) rfl ?_
        refine x_ild4 ho dX8_takesE_243 ?_
        refine x_if_eq 266 ho dX8_takesE_245 (by decide) (fun c245 => ?_) (fun c245 => ?_)
        · refine x_iconst (v := 0) ho dX8_takesE_266 rfl ?_
          refine x_zret ho hr (by decide) ?_ dX8_takesE_267
          exact ⟨_, _, _, rfl, rfl, Or.inl ⟨rfl, p, v, d, _, _, _, _, _, _, hPF, rfl⟩, rfl⟩
        · refine x_ild4 ho dX8_takesE_248 ?_
          refine sMI1 ho cs_X8_222 (c_X8_rank B _ _ _) ⟨rfl, rfl⟩ ⟨Nat.le_of_ble_eq_true rfl, Nat.le_of_ble_eq_true rfl⟩ (Nat.le_of_ble_eq_true rfl) dX8_takesE_250 (fun r250 s250 t250 p250 => ?_)
          obtain ⟨rfl, rfl, e_⟩ := p250
          subst t250
          refine x_iconst (v := 3) ho dX8_takesE_253 rfl ?_
          refine x_icmp_ne 268 ho dX8_takesE_254 (by decide) (fun c254 => ?_) (fun c254 => ?_)
          · exact absurd (congrArg nI (hs3 c245).1) c254
          · refine x_ald0 ho dX8_takesE_257 ?_
            refine r_X8_45 ho dX8_takesE_258 ?_
            refine x_ild1 ho dX8_takesE_261 ?_
            refine xm_zaldN (o) (rfl) (by omega) ho dX8_takesE_262 ?_
            change XM B k _ _ _ _ (.int (t o) :: _)
            rw [hT o (Nat.le_refl o)]
            refine x_if_eq 268 ho dX8_takesE_263 (by decide) (fun c263 => ?_) (fun c263 => ?_)
            · exact absurd (hs3 c245).2 (tbI_0.mp c263)
            · refine x_iconst (v := 0) ho dX8_takesE_266 rfl ?_
              refine x_zret ho hr (by decide) ?_ dX8_takesE_267
              exact ⟨_, _, _, rfl, rfl, Or.inl ⟨rfl, p, v, d, _, _, _, _, _, _, hPF, rfl⟩, rfl⟩
      refine x_ild3 ho dX8_takesE_28 ?_
      refine x_if_ne 39 ho dX8_takesE_29 (by decide) (fun c29 => ?_) (fun c29 => ?_)
      · exact absurd rfl c29
      · refine x_ald0 ho dX8_takesE_32 ?_
        refine r_X8_201 ho dX8_takesE_33 ?_
        change XM B k _ _ _ _ (.int ((tK (μ 7) n p)) :: _)
        refine x_if_eq 345 ho dX8_takesE_36 (by decide) (fun c36 => ?_) (fun c36 => ?_)
        · exact absurd c36 hK0
        · refine x_ild3 ho dX8_takesE_39 ?_
          refine x_if_eq 180 ho dX8_takesE_40 (by decide) (fun c40 => ?_) (fun c40 => ?_)
          · refine x_ald0 ho dX8_takesE_180 ?_
            refine r_X8_201 ho dX8_takesE_181 ?_
            change XM B k _ _ _ _ (.int ((tK (μ 7) n p)) :: _)
            refine x_iconst (v := 3) ho dX8_takesE_184 rfl ?_
            refine x_icmp_ne 237 ho dX8_takesE_185 (by decide) (fun c185 => ?_) (fun c185 => ?_)
            · exact K237
            · refine x_ald0 ho dX8_takesE_188 ?_
              refine r_X8_207 ho dX8_takesE_189 ?_
              change XM B k _ _ _ _ (.int (v) :: _)
              refine x_bipush (v := 41) ho dX8_takesE_192 rfl ?_
              refine x_icmp_ne 237 ho dX8_takesE_194 (by decide) (fun c194 => ?_) (fun c194 => ?_)
              · exact K237
              · refine x_ild1 ho dX8_takesE_197 ?_
                refine x_if_le 237 ho dX8_takesE_198 (by decide) (fun c198 => ?_) (fun c198 => ?_)
                · exact K237
                · exact absurd ⟨c185, (hV.1 (Or.inr c185)).symm.trans c194, n_nle (b := 0) (by omega) (by decide) c198⟩ nC
          · exact absurd rfl c40
    · intro p nc c na W o nt T W1 nc1 c1 hIV hK0 eS hPT hPF
      obtain ⟨hp, hb, ho8, hcO, hnt⟩ := hIV
      have hE0 := tE_b (b := μ 7) (n := n) (p := p) hp
      have hnl := cntN_le W
      intro v d w t hV hEI hL hT
      have hl1 : nc1 + W1.length = nc + W.length := by have z := mSet_len (L := 0) (W := W) (nc := nc) (c := c); rw [eS] at z; exact z
      refine x_ild3 ho dX8_takesE_28 ?_
      refine x_if_ne 39 ho dX8_takesE_29 (by decide) (fun c29 => ?_) (fun c29 => ?_)
      · exact absurd rfl c29
      · refine x_ald0 ho dX8_takesE_32 ?_
        refine r_X8_201 ho dX8_takesE_33 ?_
        change XM B k _ _ _ _ (.int ((tK (μ 7) n p)) :: _)
        refine x_if_eq 345 ho dX8_takesE_36 (by decide) (fun c36 => ?_) (fun c36 => ?_)
        · refine x_ald0 ho dX8_takesE_345 ?_
          refine x_iconst (v := 0) ho dX8_takesE_346 rfl ?_
          refine vMV1 ho cs_X8_234 (c_X8_settle B μ δ _ _ _ _ _ _ _ _ _ 0 (by decide) W nc c hL (by omega)) rfl ⟨rfl, rfl⟩ ⟨Nat.le_of_ble_eq_true rfl, Nat.le_of_ble_eq_true rfl⟩ (Nat.le_of_ble_eq_true rfl) dX8_takesE_347 (fun s347 t347 p347 => ?_)
          obtain ⟨rfl, e_⟩ := p347
          subst t347
          rw [eS]
          refine x_ild1 ho dX8_takesE_350 ?_
          refine x_if_ne 358 ho dX8_takesE_351 (by decide) (fun c351 => ?_) (fun c351 => ?_)
          · have c351 : ¬ o = 0 := fun z => c351 (congrArg nI z)
            refine x_iconst (v := 0) ho dX8_takesE_358 rfl ?_
            refine x_zret ho hr (by decide) ?_ dX8_takesE_359
            first | exact ⟨_, _, _, rfl, rfl, Or.inl ⟨rfl, p, v, d, _, _, _, _, _, _, hPF c351, rfl⟩, rfl⟩ | exact ⟨_, _, _, rfl, rfl, Or.inr ⟨rfl, _, _, _, _, _, nc1, na, _, c1, _, _, hPT c351, by omega, rfl⟩, rfl⟩
          · have c351 := n_eq (b := 0) (by omega) (by decide) c351
            refine x_iconst (v := 1) ho dX8_takesE_354 rfl ?_
            refine x_goto 359 ho dX8_takesE_355 (by decide) ?_
            refine x_zret ho hr (by decide) ?_ dX8_takesE_359
            first | exact ⟨_, _, _, rfl, rfl, Or.inl ⟨rfl, p, v, d, _, _, _, _, _, _, hPF c351, rfl⟩, rfl⟩ | exact ⟨_, _, _, rfl, rfl, Or.inr ⟨rfl, _, _, _, _, _, nc1, na, _, c1, _, _, hPT c351, by omega, rfl⟩, rfl⟩
        · exact absurd hK0 c36
  refine x_iconst (v := 0) ho dX8_takesE_0 rfl ?_
  refine x_ist1 ho dX8_takesE_1 (by rw [hk]; decide) rfl ?_
  refine x_iconst (v := 0) ho dX8_takesE_2 rfl ?_
  refine x_ist2 ho dX8_takesE_3 (by rw [hk]; decide) rfl ?_
  refine x_iconst (v := 1) ho dX8_takesE_4 rfl ?_
  refine x_ist3 ho dX8_takesE_5 (by rw [hk]; decide) rfl ?_
  refine x_ald0 ho dX8_takesE_6 ?_
  refine x_iconst (v := 0) ho dX8_takesE_7 rfl ?_
  refine w_X8_225 ho dX8_takesE_8 ?_
  rw [TG_18]
  refine x_ald0 ho dX8_takesE_11 ?_
  refine x_iconst (v := 0) ho dX8_takesE_12 rfl ?_
  refine w_X8_231 ho dX8_takesE_13 ?_
  rw [TG_19]
  refine x_ald0 ho dX8_takesE_16 ?_
  refine x_iconst (v := 0) ho dX8_takesE_17 rfl ?_
  refine w_X8_219 ho dX8_takesE_18 ?_
  rw [TG_21]
  refine x_ald0 ho dX8_takesE_21 ?_
  refine r_X8_45 ho dX8_takesE_22 ?_
  refine x_iconst (v := 0) ho dX8_takesE_25 rfl ?_
  refine x_iconst (v := 0) ho dX8_takesE_26 rfl ?_
  refine xm_zastN (0) (rfl) (by decide) ho (Or.inl rfl) dX8_takesE_27 ?_
  rw [TG_r12]
  exact hRun (fun p nc c na W o nt wants T => ∀ v d w t, VV (μ 7) n p v → (¬ tK (μ 7) n p = 0 → EI (μ 7) n (tE (μ 7) n p) d) → LR w W → (∀ j, j ≤ o → t j = tbI (T j)) → XM B k (TG μ (nI (tS (μ 7) n p)) (nI (tE (μ 7) n p)) (tK (μ 7) n p) v d ky (nI nc) (nI na) (nI W.length) c w t) δ 28 [some (.ref (aB B 0)), some (.int (nI o)), some (.int (nI nt)), some (.int (if wants = true then 1 else 0)), none] []) hCl v d w (upd t 0 0) hV hEI trivial (fun j hj => by
    obtain rfl : j = 0 := by omega
    rfl)
