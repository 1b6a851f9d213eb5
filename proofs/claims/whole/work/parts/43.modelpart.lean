/-! keys, parts -/
section XN43
variable {B : BT} {k : KT} {cc : ByteArray} {own : String} {rm : Room} {μ : ST} {δ : Nat → Int64} {pc : Nat} {L : List (Option Value)} {st : List Value}
theorem xm_caldN {i : Int32} (m : Nat) (hi : i = nI m) (hm : m < 11) (h : Ok (GM B) k cc own rm) (hdg : decode cc pc = .ok (.caload, 1)) (kk : XM B k μ δ (pc + 1) L (.int (μ 8 m) :: st)) : XM B k μ δ pc L (.int i :: .ref (aB B 8) :: st) := by
  subst hi
  refine xm_cald h (rg_in (rg_nI (Nat.zero_le m) (Nat.le_refl m)) hm (by decide)) hdg ?_
  rw [show (nI m).toNatClampNeg = m from ix_n (by omega)]
  exact kk
theorem xm_zaldN {i : Int32} (m : Nat) (hi : i = nI m) (hm : m < 10) (h : Ok (GM B) k cc own rm) (hdg : decode cc pc = .ok (.baload, 1)) (kk : XM B k μ δ (pc + 1) L (.int (μ 12 m) :: st)) : XM B k μ δ pc L (.int i :: .ref (aB B 12) :: st) := by
  subst hi
  refine xm_zald h (rg_in (rg_nI (Nat.zero_le m) (Nat.le_refl m)) hm (by decide)) hdg ?_
  rw [show (nI m).toNatClampNeg = m from ix_n (by omega)]
  exact kk
theorem xm_zastN {i x : Int32} (m : Nat) (hi : i = nI m) (hm : m < 10) (h : Ok (GM B) k cc own rm) (hx : x = 0 ∨ x = 1) (hdg : decode cc pc = .ok (.bastore, 1)) (kk : XM B k (up2 μ 12 m x) δ (pc + 1) L st) : XM B k μ δ pc L (.int x :: .int i :: .ref (aB B 12) :: st) := by
  subst hi
  refine xm_zast h hx (rg_in (rg_nI (Nat.zero_le m) (Nat.le_refl m)) hm (by decide)) hdg ?_
  rw [show (nI m).toNatClampNeg = m from ix_n (by omega)]
  exact kk
end XN43
def kaN (j : Nat) : Nat := match j with | 0 => 0 | 1 => 4 | 2 => 7 | _ => 11
/-- the model's constants -/
def KC (μ : ST) : Prop := (∀ j, j < 4 → μ 9 j = nI (kaN j)) ∧ ∀ w x, w < 3 → x < lenJ.getD w 0 → μ 8 (kaN w + x) = (bytJ.getD w []).getD x 0
theorem ka_len : ∀ w, w < 3 → nI (kaN (w + 1)) - nI (kaN w) = nI (lenJ.getD w 0) ∧ lenJ.getD w 0 ≤ 4 ∧ kaN w + lenJ.getD w 0 ≤ 11 := by decide +kernel
def MW0 (b : Nat → Int32) (n w : Nat) : Bool := wdP b (tS b n 0) (tE b n 0) (tK b n 0) w
theorem pk_of {b : Nat → Int32} {n w : Nat} {c : Nat → Int32} (hw : w < 3) (h : MW0 b n w = true) (hb : ∀ j, j < w → ¬ MW0 b n j = true) : pTk b n c = nI w := by
  show (if MW0 b n 0 = true then (0 : Int32) else if MW0 b n 1 = true then 1 else if MW0 b n 2 = true then 2 else -1) = nI w
  rcases (by omega : w = 0 ∨ w = 1 ∨ w = 2) with rfl | rfl | rfl
  · exact if_pos h
  · rw [if_neg (hb 0 (by omega)), if_pos h]
    rfl
  · rw [if_neg (hb 0 (by omega)), if_neg (hb 1 (by omega)), if_pos h]
    rfl
theorem pk_no {b : Nat → Int32} {n : Nat} {c : Nat → Int32} (hb : ∀ j, j < 3 → ¬ MW0 b n j = true) : ¬ 0 ≤ pTk b n c := by
  have e : pTk b n c = -1 := by
    show (if MW0 b n 0 = true then (0 : Int32) else if MW0 b n 1 = true then 1 else if MW0 b n 2 = true then 2 else -1) = -1
    rw [if_neg (hb 0 (by omega)), if_neg (hb 1 (by omega)), if_neg (hb 2 (by omega))]
  rw [e]
  decide
set_option maxRecDepth 100000 in
set_option maxHeartbeats 4000000 in
theorem c_X8_takesKey (B : BT) (μ : Nat → Nat → Int32) (δ : Nat → Int64) (n : Nat) (hn : μ 0 8 = nI n) (hn96 : n ≤ 96) (hC : KC μ) (v d ky nc na hd : Int32) (c w t cc' : Nat → Int32) (hEI : ¬ tK (μ 7) n 0 = 0 → EI (μ 7) n (tE (μ 7) n 0) d) : MI B yX8_takesKey cX8_takesKey 5 (some .boolean) ({ frames := 2, cells := 0, slots := 0, locals := 42 }) [.ref (aB B 0)] (TG μ (nI (tS (μ 7) n 0)) (nI (tE (μ 7) n 0)) (tK (μ 7) n 0) v d ky nc na hd c w t) δ (fun r μ' δ' => ((0 ≤ pTk (μ 7) n cc' ∧ r = 1 ∧ ∃ v d, μ' = (TG μ (nI (tS (μ 7) n (tE (μ 7) n 0))) (nI (tE (μ 7) n (tE (μ 7) n 0))) (tK (μ 7) n (tE (μ 7) n 0)) v d (pTk (μ 7) n cc') nc na hd c w t) ∧ VV (μ 7) n (tE (μ 7) n 0) v ∧ (¬ (tK (μ 7) n (tE (μ 7) n 0)) = 0 → EI (μ 7) n (tE (μ 7) n (tE (μ 7) n 0)) d)) ∨ (¬ 0 ≤ pTk (μ 7) n cc' ∧ r = 0 ∧ μ' = (TG μ (nI (tS (μ 7) n 0)) (nI (tE (μ 7) n 0)) (tK (μ 7) n 0) v d ky nc na hd c w t))) ∧ δ' = δ) := by
  refine MX.of2 RX8 (by decide) rfl ⟨rfl, rfl⟩ (Nat.le_of_ble_eq_true rfl) (by rfl) (fun k ho hr hk => ?_)
  show XM B k (TG μ (nI (tS (μ 7) n 0)) (nI (tE (μ 7) n 0)) (tK (μ 7) n 0) v d ky nc na hd c w t) δ 0 [some (.ref (aB B 0)), none, none, none, none] []
  have hE := tE_b (b := μ 7) (n := n) (p := 0) (by omega)
  have hse : tS (μ 7) n 0 ≤ tE (μ 7) n 0 := hE.1
  refine x_ald0 ho dX8_takesKey_0 ?_
  refine r_X8_201 ho dX8_takesKey_1 ?_
  change XM B k _ _ _ _ (.int ((tK (μ 7) n 0)) :: _)
  refine x_iconst (v := 1) ho dX8_takesKey_4 rfl ?_
  refine x_icmp_eq 10 ho dX8_takesKey_5 (by decide) (fun c5 => ?_) (fun c5 => ?_)
  · have hK1 : tK (μ 7) n 0 = 1 := c5
    refine x_iconst (v := 0) ho dX8_takesKey_10 rfl ?_
    refine x_ist1 ho dX8_takesKey_11 (by rw [hk]; decide) rfl ?_
    have loop : ∀ (f j : Nat), 3 < f + j → j ≤ 3 → (∀ q, q < j → ¬ MW0 (μ 7) n q = true) → XM B k (TG μ (nI (tS (μ 7) n 0)) (nI (tE (μ 7) n 0)) (tK (μ 7) n 0) v d ky nc na hd c w t) δ 12 [some (.ref (aB B 0)), some (.int (nI j)), none, none, none] [] := by
      intro f
      induction f with
      | zero => intro j h1 h2; omega
      | succ f ih =>
        intro j h1 h2 hno
        refine x_ild1 ho dX8_takesKey_12 ?_
        refine x_iconst (v := 3) ho dX8_takesKey_13 rfl ?_
        refine x_icmp_ge 127 ho dX8_takesKey_14 (by decide) (fun c14 => ?_) (fun c14 => ?_)
        · have c14 := n_le (a := 3) (by decide) (by omega) c14
          have ej : j = 3 := by omega
          subst ej
          refine x_iconst (v := 0) ho dX8_takesKey_127 rfl ?_
          refine x_zret ho hr (by decide) ?_ dX8_takesKey_128
          exact ⟨_, _, _, rfl, rfl, Or.inr ⟨pk_no hno, rfl, rfl⟩, rfl⟩
        · have c14 := n_nle (a := 3) (b := j) (by decide) (by omega) c14
          have kl := ka_len j c14
          have K106 : ∀ (sm : Int32) (i : Nat), (sm = 1 → MW0 (μ 7) n j = true) → (sm = 0 → ¬ MW0 (μ 7) n j = true) → (sm = 1 ∨ sm = 0) → j < 3 → XM B k (TG μ (nI (tS (μ 7) n 0)) (nI (tE (μ 7) n 0)) (tK (μ 7) n 0) v d ky nc na hd c w t) δ 106 [some (.ref (aB B 0)), some (.int (nI j)), some (.int (nI (lenJ.getD j 0))), some (.int sm), some (.int (nI i))] [] := by
            intro sm i k1 k2 hs01 c14
            refine x_ild3 ho dX8_takesKey_106 ?_
            refine x_if_eq 121 ho dX8_takesKey_107 (by decide) (fun c107 => ?_) (fun c107 => ?_)
            · refine x_inc1 (y := 1) ho dX8_takesKey_121 (by rw [hk]; decide) rfl rfl ?_
              refine x_goto 12 ho dX8_takesKey_124 (by decide) ?_
              rw [nI_1 j]
              refine x_loc (Lsb.s (Lsb.s (Lsb.n (Lsb.n (Lsb.n Lsb.e))))) ?_
              exact ih (j + 1) (by omega) (by omega) (fun q hq => by
                by_cases z : q = j
                · rw [z]; exact k2 c107
                · exact hno q (by omega))
            · have hs1 := hs01.resolve_right c107
              have hk := pk_of (c := cc') c14 (k1 hs1) hno
              have hK0 : ¬ tK (μ 7) n 0 = 0 := by rw [hK1]; decide
              refine x_ald0 ho dX8_takesKey_110 ?_
              refine x_ild1 ho dX8_takesKey_111 ?_
              refine w_X8_213 ho dX8_takesKey_112 ?_
              rw [TG_14]
              refine x_ald0 ho dX8_takesKey_115 ?_
              refine vMV0 ho cs_X8_216 (w_go B _ n _ hn hn96 hE.2.1 (hEI hK0)) rfl ⟨rfl, rfl⟩ ⟨Nat.le_of_ble_eq_true rfl, Nat.le_of_ble_eq_true rfl⟩ (Nat.le_of_ble_eq_true rfl) dX8_takesKey_116 (fun s116 t116 p116 => ?_)
              obtain ⟨v, d, rfl, hV, hE, e_⟩ := p116
              subst e_
              refine x_iconst (v := 1) ho dX8_takesKey_119 rfl ?_
              refine x_zret ho hr (by decide) ?_ dX8_takesKey_120
              refine ⟨_, _, _, rfl, rfl, Or.inl ⟨by rw [hk]; exact nI_0le (by omega), rfl, v, d, by rw [hk], hV, hE⟩, rfl⟩
          have inn : ∀ (f i : Nat) (sm : Int32), 4 < f + i → i ≤ (lenJ.getD j 0) → ((sm = 1 ∧ (lenJ.getD j 0) = (tE (μ 7) n 0) - (tS (μ 7) n 0) ∧ ∀ x, x < i → (μ 7) ((tS (μ 7) n 0) + x) = (bytJ.getD j []).getD x 0) ∨ (sm = 0 ∧ ¬ MW0 (μ 7) n j = true)) → XM B k (TG μ (nI (tS (μ 7) n 0)) (nI (tE (μ 7) n 0)) (tK (μ 7) n 0) v d ky nc na hd c w t) δ 55 [some (.ref (aB B 0)), some (.int (nI j)), some (.int (nI (lenJ.getD j 0))), some (.int sm), some (.int (nI i))] [] := by
            intro f2
            induction f2 with
            | zero => intro i sm h1 h2; omega
            | succ f2 ihi =>
              intro i sm h1 h2 hsm
              refine x_ild4 ho dX8_takesKey_55 ?_
              refine x_ild2 ho dX8_takesKey_57 ?_
              refine x_icmp_ge 106 ho dX8_takesKey_58 (by decide) (fun c58 => ?_) (fun c58 => ?_)
              · have c58 := n_le (by omega) (by omega) c58
                first | exact K106 sm i (fun y => absurd y (by rw [c62]; decide)) (fun y => (hsm.elim (fun z => absurd (z.1.symm.trans y) (by decide)) (fun z => z.2))) (hsm.imp (fun z => z.1) (fun z => z.1)) c14 | exact K106 sm i (fun y => (hsm.elim (fun z => wdP_t hK1 z.2.1.symm (fun x hx => z.2.2 x (by omega))) (fun z => absurd (z.1.symm.trans y) (by decide)))) (fun y => (hsm.elim (fun z => absurd (z.1.symm.trans y) (by decide)) (fun z => z.2))) (hsm.imp (fun z => z.1) (fun z => z.1)) c14
              · have c58 := n_nle (by omega) (by omega) c58
                refine x_ild3 ho dX8_takesKey_61 ?_
                refine x_if_eq 106 ho dX8_takesKey_62 (by decide) (fun c62 => ?_) (fun c62 => ?_)
                · first | exact K106 sm i (fun y => absurd y (by rw [c62]; decide)) (fun y => (hsm.elim (fun z => absurd (z.1.symm.trans y) (by decide)) (fun z => z.2))) (hsm.imp (fun z => z.1) (fun z => z.1)) c14 | exact K106 sm i (fun y => (hsm.elim (fun z => wdP_t hK1 z.2.1.symm (fun x hx => z.2.2 x (by omega))) (fun z => absurd (z.1.symm.trans y) (by decide)))) (fun y => (hsm.elim (fun z => absurd (z.1.symm.trans y) (by decide)) (fun z => z.2))) (hsm.imp (fun z => z.1) (fun z => z.1)) c14
                · have hs1 := hsm.resolve_right (fun y => c62 y.1)
                  refine x_ald0 ho dX8_takesKey_65 ?_
                  refine r_X8_29 ho dX8_takesKey_66 ?_
                  refine x_ald0 ho dX8_takesKey_69 ?_
                  refine r_X8_195 ho dX8_takesKey_70 ?_
                  change XM B k _ _ _ _ (.int (nI (tS (μ 7) n 0)) :: _)
                  refine x_ild4 ho dX8_takesKey_73 ?_
                  refine x_iadd ho dX8_takesKey_75 ?_
                  rw [nI_add]
                  refine xm_ialdN ((tS (μ 7) n 0) + i) (rfl) 7 (by show (tS (μ 7) n 0) + i < 96; omega) ho (by decide) (fun _ => rfl) dX8_takesKey_76 ?_
                  change XM B k _ _ _ _ (.int ((μ 7) ((tS (μ 7) n 0) + i)) :: _)
                  refine x_ald0 ho dX8_takesKey_77 ?_
                  refine r_X8_32 ho dX8_takesKey_78 ?_
                  refine x_ald0 ho dX8_takesKey_81 ?_
                  refine r_X8_36 ho dX8_takesKey_82 ?_
                  refine x_ild1 ho dX8_takesKey_85 ?_
                  refine xm_ialdN (j) (rfl) 9 (by show j < 4; omega) ho (by decide) (fun _ => rfl) dX8_takesKey_86 ?_
                  change XM B k _ _ _ _ (.int (μ 9 j) :: _)
                  rw [hC.1 _ (by omega)]
                  refine x_ild4 ho dX8_takesKey_87 ?_
                  refine x_iadd ho dX8_takesKey_89 ?_
                  rw [nI_add]
                  refine xm_caldN (kaN j + i) (rfl) (by omega) ho dX8_takesKey_90 ?_
                  change XM B k _ _ _ _ (.int (μ 8 (kaN j + i)) :: _)
                  rw [hC.2 j i c14 c58]
                  refine x_icmp_ne 98 ho dX8_takesKey_91 (by decide) (fun c91 => ?_) (fun c91 => ?_)
                  · have hs' : ∀ sm : Int32, sm = 0 → ((sm = 1 ∧ (lenJ.getD j 0) = (tE (μ 7) n 0) - (tS (μ 7) n 0) ∧ ∀ x, x < i + 1 → (μ 7) ((tS (μ 7) n 0) + x) = (bytJ.getD j []).getD x 0) ∨ (sm = 0 ∧ ¬ MW0 (μ 7) n j = true)) := fun sm e => Or.inr ⟨e, wdP_f (Or.inr (Or.inr ⟨i, c58, c91⟩))⟩
                    refine x_iconst (v := 0) ho dX8_takesKey_98 rfl ?_
                    refine x_ist3 ho dX8_takesKey_99 (by rw [hk]; decide) rfl ?_
                    refine x_inc4 (y := 1) ho dX8_takesKey_100 (by rw [hk]; decide) rfl rfl ?_
                    refine x_goto 55 ho dX8_takesKey_103 (by decide) ?_
                    rw [nI_1 i]
                    exact ihi (i + 1) _ (by omega) (by omega) (hs' _ rfl)
                  · have hs' : ∀ sm : Int32, sm = 1 → ((sm = 1 ∧ (lenJ.getD j 0) = (tE (μ 7) n 0) - (tS (μ 7) n 0) ∧ ∀ x, x < i + 1 → (μ 7) ((tS (μ 7) n 0) + x) = (bytJ.getD j []).getD x 0) ∨ (sm = 0 ∧ ¬ MW0 (μ 7) n j = true)) := fun sm e => Or.inl ⟨e, hs1.2.1, fun x hx => by
                      by_cases q : x = i
                      · rw [q]; exact c91
                      · exact hs1.2.2 x (by omega)⟩
                    refine x_iconst (v := 1) ho dX8_takesKey_94 rfl ?_
                    refine x_goto 99 ho dX8_takesKey_95 (by decide) ?_
                    refine x_ist3 ho dX8_takesKey_99 (by rw [hk]; decide) rfl ?_
                    refine x_inc4 (y := 1) ho dX8_takesKey_100 (by rw [hk]; decide) rfl rfl ?_
                    refine x_goto 55 ho dX8_takesKey_103 (by decide) ?_
                    rw [nI_1 i]
                    exact ihi (i + 1) _ (by omega) (by omega) (hs' _ rfl)
          have K51 : ∀ sm : Int32, ((sm = 1 ∧ (lenJ.getD j 0) = (tE (μ 7) n 0) - (tS (μ 7) n 0) ∧ ∀ x, x < 0 → (μ 7) ((tS (μ 7) n 0) + x) = (bytJ.getD j []).getD x 0) ∨ (sm = 0 ∧ ¬ MW0 (μ 7) n j = true)) → XM B k (TG μ (nI (tS (μ 7) n 0)) (nI (tE (μ 7) n 0)) (tK (μ 7) n 0) v d ky nc na hd c w t) δ 51 [some (.ref (aB B 0)), some (.int (nI j)), some (.int (nI (lenJ.getD j 0))), none, none] [.int sm] := by
            intro sm hsm0
            refine x_ist3 ho dX8_takesKey_51 (by rw [hk]; decide) rfl ?_
            refine x_iconst (v := 0) ho dX8_takesKey_52 rfl ?_
            refine x_ist4 ho dX8_takesKey_53 (by rw [hk]; decide) rfl ?_
            exact inn (5) 0 sm (by omega) (by omega) hsm0
          refine x_ald0 ho dX8_takesKey_17 ?_
          refine r_X8_36 ho dX8_takesKey_18 ?_
          refine x_ild1 ho dX8_takesKey_21 ?_
          refine x_iconst (v := 1) ho dX8_takesKey_22 rfl ?_
          refine x_iadd ho dX8_takesKey_23 ?_
          rw [nI_1 j]
          refine xm_ialdN (j + 1) (rfl) 9 (by show j + 1 < 4; omega) ho (by decide) (fun _ => rfl) dX8_takesKey_24 ?_
          change XM B k _ _ _ _ (.int (μ 9 (j + 1)) :: _)
          rw [hC.1 _ (by omega)]
          refine x_ald0 ho dX8_takesKey_25 ?_
          refine r_X8_36 ho dX8_takesKey_26 ?_
          refine x_ild1 ho dX8_takesKey_29 ?_
          refine xm_ialdN (j) (rfl) 9 (by show j < 4; omega) ho (by decide) (fun _ => rfl) dX8_takesKey_30 ?_
          change XM B k _ _ _ _ (.int (μ 9 j) :: _)
          rw [hC.1 _ (by omega)]
          refine x_isub ho dX8_takesKey_31 ?_
          rw [kl.1]
          refine x_ist2 ho dX8_takesKey_32 (by rw [hk]; decide) rfl ?_
          refine x_ild2 ho dX8_takesKey_33 ?_
          refine x_ald0 ho dX8_takesKey_34 ?_
          refine r_X8_192 ho dX8_takesKey_35 ?_
          change XM B k _ _ _ _ (.int (nI (tE (μ 7) n 0)) :: _)
          refine x_ald0 ho dX8_takesKey_38 ?_
          refine r_X8_195 ho dX8_takesKey_39 ?_
          change XM B k _ _ _ _ (.int (nI (tS (μ 7) n 0)) :: _)
          refine x_isub ho dX8_takesKey_42 ?_
          rw [sub_nI hse]
          refine x_icmp_ne 50 ho dX8_takesKey_43 (by decide) (fun c43 => ?_) (fun c43 => ?_)
          · have c43 : ¬ (lenJ.getD j 0) = (tE (μ 7) n 0) - (tS (μ 7) n 0) := fun z => c43 (congrArg nI z)
            refine x_iconst (v := 0) ho dX8_takesKey_50 rfl ?_
            first | exact K51 0 (Or.inr ⟨rfl, wdP_f (Or.inr (Or.inl (fun z => c43 z.symm)))⟩) | exact K51 1 (Or.inl ⟨rfl, c43, fun x hx => absurd hx (Nat.not_lt_zero x)⟩)
          · have c43 : (lenJ.getD j 0) = (tE (μ 7) n 0) - (tS (μ 7) n 0) := n_eq (by omega) (by omega) c43
            refine x_iconst (v := 1) ho dX8_takesKey_46 rfl ?_
            refine x_goto 51 ho dX8_takesKey_47 (by decide) ?_
            first | exact K51 0 (Or.inr ⟨rfl, wdP_f (Or.inr (Or.inl (fun z => c43 z.symm)))⟩) | exact K51 1 (Or.inl ⟨rfl, c43, fun x hx => absurd hx (Nat.not_lt_zero x)⟩)
    exact loop 4 0 (by omega) (by omega) (fun q hq => absurd hq (Nat.not_lt_zero q))
  · refine x_iconst (v := 0) ho dX8_takesKey_8 rfl ?_
    refine x_zret ho hr (by decide) ?_ dX8_takesKey_9
    exact ⟨_, _, _, rfl, rfl, Or.inr ⟨pk_no (fun j hj => wdP_f (Or.inl c5)), rfl, rfl⟩, rfl⟩
