/-! a part -/
def mNm (b : Nat → Int32) (n : Nat) (ky : Int32) (p : Nat) : Prop := tK b n p = 1 ∧ tE b n p - tS b n p = 1 ∧ 0 ≤ nmF ky (b (tS b n p))
def mPt (b : Nat → Int32) (n : Nat) (ky : Int32) (p : Nat) : Prop := tK b n p = 2 ∨ mNm b n ky p
def mAt (b : Nat → Int32) (n : Nat) (ky : Int32) (p : Nat) : Int32 := if tK b n p = 2 then numF b (tS b n p) (tE b n p - tS b n p) else 10000 + nmF ky (b (tS b n p))
set_option maxRecDepth 100000 in
set_option maxHeartbeats 4000000 in
theorem c_X8_takesPart (B : BT) (μ : Nat → Nat → Int32) (δ : Nat → Int64) (n p : Nat) (hn : μ 0 8 = nI n) (hn96 : n ≤ 96) (hp : p ≤ n) (v d ky : Int32) (nc na : Nat) (W : List Int32) (c w t : Nat → Int32) (hV : VV (μ 7) n p v) (hEI : ¬ tK (μ 7) n p = 0 → EI (μ 7) n (tE (μ 7) n p) d) (hL : LR w W) (hb : nc + W.length < 96) : MI B yX8_takesPart cX8_takesPart 2 (some .boolean) ({ frames := 2, cells := 0, slots := 0, locals := 42 }) [.ref (aB B 0)] (TG μ (nI (tS (μ 7) n p)) (nI (tE (μ 7) n p)) (tK (μ 7) n p) v d ky (nI nc) (nI na) (nI W.length) c w t) δ (fun r μ' δ' => ((mPt (μ 7) n ky p ∧ r = 1 ∧ ∃ v d, μ' = (TG μ (nI (tS (μ 7) n (tE (μ 7) n p))) (nI (tE (μ 7) n (tE (μ 7) n p))) (tK (μ 7) n (tE (μ 7) n p)) v d ky (nI (mSet 6 W (nc + 1) (upd c nc (mAt (μ 7) n ky p))).2.1) (nI (na + 1)) (nI (mSet 6 W (nc + 1) (upd c nc (mAt (μ 7) n ky p))).1.length) (mSet 6 W (nc + 1) (upd c nc (mAt (μ 7) n ky p))).2.2 w t) ∧ VV (μ 7) n (tE (μ 7) n p) v ∧ (¬ (tK (μ 7) n (tE (μ 7) n p)) = 0 → EI (μ 7) n (tE (μ 7) n (tE (μ 7) n p)) d)) ∨ (¬ mPt (μ 7) n ky p ∧ r = 0 ∧ μ' = (TG μ (nI (tS (μ 7) n p)) (nI (tE (μ 7) n p)) (tK (μ 7) n p) v d ky (nI nc) (nI na) (nI W.length) c w t))) ∧ δ' = δ) := by
  refine MX.of2 RX8 (by decide) rfl ⟨rfl, rfl⟩ (Nat.le_of_ble_eq_true rfl) (by rfl) (fun k ho hr hk => ?_)
  show XM B k (TG μ (nI (tS (μ 7) n p)) (nI (tE (μ 7) n p)) (tK (μ 7) n p) v d ky (nI nc) (nI na) (nI W.length) c w t) δ 0 [some (.ref (aB B 0)), none] []
  have hE0 := tE_b (b := μ 7) (n := n) (p := p) hp
  have hse : (tS (μ 7) n p) ≤ (tE (μ 7) n p) := hE0.1
  have K52 : ∀ z : Int32, mPt (μ 7) n ky p → (¬ tK (μ 7) n p = 2 → mNm (μ 7) n ky p) → XM B k (TG μ (nI (tS (μ 7) n p)) (nI (tE (μ 7) n p)) (tK (μ 7) n p) v d ky (nI nc) (nI na) (nI W.length) c w t) δ 52 [some (.ref (aB B 0)), some (.int z)] [] := by
    intro z hP hN
    have hK0 : ¬ tK (μ 7) n p = 0 := by
      rcases hP with q | q
      · rw [q]; decide
      · rw [q.1]; decide
    have K87 : ∀ x, x = mAt (μ 7) n ky p → XM B k (TG μ (nI (tS (μ 7) n p)) (nI (tE (μ 7) n p)) (tK (μ 7) n p) v d ky (nI nc) (nI na) (nI W.length) c w t) δ 87 [some (.ref (aB B 0)), some (.int z)] [.int x, .int (nI nc), .ref (aB B 10)] := by
      intro x ex
      refine xm_iastN (nc) (rfl) 10 (by show nc < 96; omega) ho (by decide) (by decide) (fun _ => rfl) dX8_takesPart_87 ?_
      rw [TG_r10, ex]
      refine x_ald0 ho dX8_takesPart_88 ?_
      refine x_dup ho dX8_takesPart_89 rfl ?_
      refine r_X8_225 ho dX8_takesPart_90 ?_
      change XM B k _ _ _ _ (.int (nI nc) :: _)
      refine x_iconst (v := 1) ho dX8_takesPart_93 rfl ?_
      refine x_iadd ho dX8_takesPart_94 ?_
      rw [nI_1 nc]
      refine w_X8_225 ho dX8_takesPart_95 ?_
      rw [TG_18]
      refine x_ald0 ho dX8_takesPart_98 ?_
      refine x_dup ho dX8_takesPart_99 rfl ?_
      refine r_X8_231 ho dX8_takesPart_100 ?_
      change XM B k _ _ _ _ (.int (nI na) :: _)
      refine x_iconst (v := 1) ho dX8_takesPart_103 rfl ?_
      refine x_iadd ho dX8_takesPart_104 ?_
      rw [nI_1 na]
      refine w_X8_231 ho dX8_takesPart_105 ?_
      rw [TG_19]
      refine x_ald0 ho dX8_takesPart_108 ?_
      refine x_bipush (v := 6) ho dX8_takesPart_109 rfl ?_
      refine vMV1 ho cs_X8_234 (c_X8_settle B μ δ _ _ _ _ _ _ _ _ _ 6 (by decide) W (nc + 1) (upd c nc (mAt (μ 7) n ky p)) hL (by omega)) rfl ⟨rfl, rfl⟩ ⟨Nat.le_of_ble_eq_true rfl, Nat.le_of_ble_eq_true rfl⟩ (Nat.le_of_ble_eq_true rfl) dX8_takesPart_111 (fun s111 t111 p111 => ?_)
      obtain ⟨rfl, e_⟩ := p111
      subst t111
      refine x_ald0 ho dX8_takesPart_114 ?_
      refine vMV0 ho cs_X8_216 (w_go B _ n _ hn hn96 hE0.2.1 (hEI hK0)) rfl ⟨rfl, rfl⟩ ⟨Nat.le_of_ble_eq_true rfl, Nat.le_of_ble_eq_true rfl⟩ (Nat.le_of_ble_eq_true rfl) dX8_takesPart_115 (fun s115 t115 p115 => ?_)
      obtain ⟨v, d, rfl, hV, hE, e_⟩ := p115
      subst e_
      refine x_iconst (v := 1) ho dX8_takesPart_118 rfl ?_
      refine x_zret ho hr (by decide) ?_ dX8_takesPart_119
      exact ⟨_, _, _, rfl, rfl, Or.inl ⟨hP, rfl, v, d, rfl, hV, hE⟩, rfl⟩
    refine x_ald0 ho dX8_takesPart_52 ?_
    refine r_X8_39 ho dX8_takesPart_53 ?_
    refine x_ald0 ho dX8_takesPart_56 ?_
    refine r_X8_225 ho dX8_takesPart_57 ?_
    change XM B k _ _ _ _ (.int (nI nc) :: _)
    refine x_ald0 ho dX8_takesPart_60 ?_
    refine r_X8_201 ho dX8_takesPart_61 ?_
    change XM B k _ _ _ _ (.int ((tK (μ 7) n p)) :: _)
    refine x_iconst (v := 2) ho dX8_takesPart_64 rfl ?_
    refine x_icmp_ne 75 ho dX8_takesPart_65 (by decide) (fun c65 => ?_) (fun c65 => ?_)
    · have hN := hN c65
      have ea : mAt (μ 7) n ky p = 10000 + nmF ky ((μ 7) (tS (μ 7) n p)) := if_neg c65
      refine x_sipush (v := 10000) ho dX8_takesPart_75 rfl ?_
      refine x_ald0 ho dX8_takesPart_78 ?_
      refine x_ald0 ho dX8_takesPart_79 ?_
      refine r_X8_207 ho dX8_takesPart_80 ?_
      change XM B k _ _ _ _ (.int (v) :: _)
      refine vMI1 ho cs_X8_228 (c_X8_nameOf B _ _ _) rfl ⟨rfl, rfl⟩ ⟨Nat.le_of_ble_eq_true rfl, Nat.le_of_ble_eq_true rfl⟩ (Nat.le_of_ble_eq_true rfl) dX8_takesPart_83 (fun r83 s83 t83 p83 => ?_)
      obtain ⟨rfl, rfl, e_⟩ := p83
      subst t83
      change XM B k _ _ _ _ (.int (nmF ky v) :: _)
      refine x_iadd ho dX8_takesPart_86 ?_
      first | exact K87 _ (ev.trans ea.symm) | exact K87 _ (by rw [ea, ← hV.1 (Or.inl hN.1)])
    · have ea : mAt (μ 7) n ky p = numF (μ 7) (tS (μ 7) n p) (tE (μ 7) n p - tS (μ 7) n p) := if_pos c65
      have ev := hV.2 c65
      refine x_ald0 ho dX8_takesPart_68 ?_
      refine r_X8_207 ho dX8_takesPart_69 ?_
      change XM B k _ _ _ _ (.int (v) :: _)
      refine x_goto 87 ho dX8_takesPart_72 (by decide) ?_
      first | exact K87 _ (ev.trans ea.symm) | exact K87 _ (by rw [ea, ← hV.1 (Or.inl hN.1)])
  have K37 : ∀ z : Int32, (z = 1 ∧ mNm (μ 7) n ky p) ∨ (z = 0 ∧ ¬ mNm (μ 7) n ky p) → XM B k (TG μ (nI (tS (μ 7) n p)) (nI (tE (μ 7) n p)) (tK (μ 7) n p) v d ky (nI nc) (nI na) (nI W.length) c w t) δ 37 [some (.ref (aB B 0)), none] [.int z] := by
    intro z hz
    refine x_ist1 ho dX8_takesPart_37 (by rw [hk]; decide) rfl ?_
    refine x_ald0 ho dX8_takesPart_38 ?_
    refine r_X8_201 ho dX8_takesPart_39 ?_
    change XM B k _ _ _ _ (.int ((tK (μ 7) n p)) :: _)
    refine x_iconst (v := 2) ho dX8_takesPart_42 rfl ?_
    refine x_icmp_eq 52 ho dX8_takesPart_43 (by decide) (fun c43 => ?_) (fun c43 => ?_)
    · have hP : mPt (μ 7) n ky p := Or.inl c43
      first | exact K52 z hP (fun q => absurd c43 q) | exact K52 z hP (fun _ => hN)
    · refine x_ild1 ho dX8_takesPart_46 ?_
      refine x_if_ne 52 ho dX8_takesPart_47 (by decide) (fun c47 => ?_) (fun c47 => ?_)
      · have hP : mPt (μ 7) n ky p := Or.inr (hz.elim (fun y => y.2) (fun y => absurd y.1 c47))
        have hN := hz.elim (fun y => y.2) (fun y => absurd y.1 c47)
        first | exact K52 z hP (fun q => absurd c43 q) | exact K52 z hP (fun _ => hN)
      · refine x_iconst (v := 0) ho dX8_takesPart_50 rfl ?_
        refine x_zret ho hr (by decide) ?_ dX8_takesPart_51
        exact ⟨_, _, _, rfl, rfl, Or.inr ⟨fun y => y.elim c43 (fun y => hz.elim (fun x => absurd (x.1.symm.trans c47) (by decide)) (fun x => x.2 y)), rfl, rfl⟩, rfl⟩
  refine x_ald0 ho dX8_takesPart_0 ?_
  refine r_X8_201 ho dX8_takesPart_1 ?_
  change XM B k _ _ _ _ (.int ((tK (μ 7) n p)) :: _)
  refine x_iconst (v := 1) ho dX8_takesPart_4 rfl ?_
  refine x_icmp_ne 36 ho dX8_takesPart_5 (by decide) (fun c5 => ?_) (fun c5 => ?_)
  · refine x_iconst (v := 0) ho dX8_takesPart_36 rfl ?_
    first | exact K37 0 (Or.inr ⟨rfl, fun z => c5 z.1⟩) | exact K37 0 (Or.inr ⟨rfl, fun z => c18 z.2.1⟩) | exact K37 0 (Or.inr ⟨rfl, fun z => Int32.not_lt.mpr z.2.2 (by rw [← hV.1 (Or.inl c5)]; exact c29)⟩) | exact K37 1 (Or.inl ⟨rfl, c5, c18, by rw [← hV.1 (Or.inl c5)]; exact Int32.not_lt.mp c29⟩)
  · refine x_ald0 ho dX8_takesPart_8 ?_
    refine r_X8_192 ho dX8_takesPart_9 ?_
    change XM B k _ _ _ _ (.int (nI (tE (μ 7) n p)) :: _)
    refine x_ald0 ho dX8_takesPart_12 ?_
    refine r_X8_195 ho dX8_takesPart_13 ?_
    change XM B k _ _ _ _ (.int (nI (tS (μ 7) n p)) :: _)
    refine x_isub ho dX8_takesPart_16 ?_
    rw [sub_nI hse]
    refine x_iconst (v := 1) ho dX8_takesPart_17 rfl ?_
    refine x_icmp_ne 36 ho dX8_takesPart_18 (by decide) (fun c18 => ?_) (fun c18 => ?_)
    · have c18 : ¬ (tE (μ 7) n p) - (tS (μ 7) n p) = 1 := fun z => c18 (congrArg nI z)
      refine x_iconst (v := 0) ho dX8_takesPart_36 rfl ?_
      first | exact K37 0 (Or.inr ⟨rfl, fun z => c5 z.1⟩) | exact K37 0 (Or.inr ⟨rfl, fun z => c18 z.2.1⟩) | exact K37 0 (Or.inr ⟨rfl, fun z => Int32.not_lt.mpr z.2.2 (by rw [← hV.1 (Or.inl c5)]; exact c29)⟩) | exact K37 1 (Or.inl ⟨rfl, c5, c18, by rw [← hV.1 (Or.inl c5)]; exact Int32.not_lt.mp c29⟩)
    · have c18 : (tE (μ 7) n p) - (tS (μ 7) n p) = 1 := n_eq (b := 1) (by omega) (by decide) c18
      refine x_ald0 ho dX8_takesPart_21 ?_
      refine x_ald0 ho dX8_takesPart_22 ?_
      refine r_X8_207 ho dX8_takesPart_23 ?_
      change XM B k _ _ _ _ (.int v :: _)
      refine vMI1 ho cs_X8_228 (c_X8_nameOf B _ _ _) rfl ⟨rfl, rfl⟩ ⟨Nat.le_of_ble_eq_true rfl, Nat.le_of_ble_eq_true rfl⟩ (Nat.le_of_ble_eq_true rfl) dX8_takesPart_26 (fun r26 s26 t26 p26 => ?_)
      obtain ⟨rfl, rfl, e_⟩ := p26
      subst t26
      change XM B k _ _ _ _ (.int (nmF ky v) :: _)
      refine x_if_lt 36 ho dX8_takesPart_29 (by decide) (fun c29 => ?_) (fun c29 => ?_)
      · refine x_iconst (v := 0) ho dX8_takesPart_36 rfl ?_
        first | exact K37 0 (Or.inr ⟨rfl, fun z => c5 z.1⟩) | exact K37 0 (Or.inr ⟨rfl, fun z => c18 z.2.1⟩) | exact K37 0 (Or.inr ⟨rfl, fun z => Int32.not_lt.mpr z.2.2 (by rw [← hV.1 (Or.inl c5)]; exact c29)⟩) | exact K37 1 (Or.inl ⟨rfl, c5, c18, by rw [← hV.1 (Or.inl c5)]; exact Int32.not_lt.mp c29⟩)
      · refine x_iconst (v := 1) ho dX8_takesPart_32 rfl ?_
        refine x_goto 37 ho dX8_takesPart_33 (by decide) ?_
        first | exact K37 0 (Or.inr ⟨rfl, fun z => c5 z.1⟩) | exact K37 0 (Or.inr ⟨rfl, fun z => c18 z.2.1⟩) | exact K37 0 (Or.inr ⟨rfl, fun z => Int32.not_lt.mpr z.2.2 (by rw [← hV.1 (Or.inl c5)]; exact c29)⟩) | exact K37 1 (Or.inl ⟨rfl, c5, c18, by rw [← hV.1 (Or.inl c5)]; exact Int32.not_lt.mp c29⟩)
