/-! the model's hours -/
section W26
variable (B : BT) (μ : ST) (δ : Nat → Int64) (stk fc : Nat → Int32) (h : HT) (T : Nat → Int32)
theorem w_of (d w : Nat) (hd : d < 12) (hw : w < 5) : MI B yX8_of cX8_of 3 (some .int) ({ frames := 0, cells := 0, slots := 0, locals := 0 }) [.ref (aB B 0), .int (nI d), .int (nI w)] (MW μ stk fc h T) δ (fun r μ' δ' => r = h (w + 1) d ∧ μ' = MW μ stk fc h T ∧ δ' = δ) := c_X8_of B _ δ h T d w hd hw
theorem w_put (d w : Nat) (hd : d < 12) (hw : w < 5) (v : Int32) : MV B yX8_put cX8_put 4 none ({ frames := 0, cells := 0, slots := 0, locals := 0 }) [.ref (aB B 0), .int (nI d), .int (nI w), .int v] (MW μ stk fc h T) δ (fun μ' δ' => μ' = MW μ stk fc (up2 h (w + 1) d v) T ∧ δ' = δ) := c_X8_put B _ δ h T d w hd hw v
theorem w_goesOf (hi : HI h) (d : Nat) (hd : d < 12) : MI B yX8_goesOf cX8_goesOf 3 (some .int) ({ frames := 1, cells := 0, slots := 0, locals := 22 }) [.ref (aB B 0), .int (nI d)] (MW μ stk fc h T) δ (fun r μ' δ' => r = sGoes h d ∧ μ' = MW μ stk fc h T ∧ δ' = δ) := c_X8_goesOf B _ δ h T hi d hd
theorem w_leavesOn (d : Nat) (hd : d < 12) (f : Int32) : MI B yX8_leavesOn cX8_leavesOn 4 (some .int) ({ frames := 1, cells := 0, slots := 0, locals := 22 }) [.ref (aB B 0), .int (nI d), .int f] (MW μ stk fc h T) δ (fun r μ' δ' => r = kLeaves (h 1 d) f ∧ μ' = MW μ stk fc h T ∧ δ' = δ) := c_X8_leavesOn B _ δ h T d hd f
theorem w_draw : MI B yX8_draw cX8_draw 1 (some .int) ({ frames := 0, cells := 0, slots := 0, locals := 0 }) [.ref (aB B 0)] (MW μ stk fc h T) δ (fun r μ' δ' => r = dz (h 0 13) ∧ μ' = MW μ stk fc (sZ h) T ∧ δ' = δ) := c_X8_draw B _ δ h T
theorem w_those (hi : HI h) (x : Int32) : MI B yX8_those cX8_those 4 (some .int) ({ frames := 1, cells := 0, slots := 0, locals := 22 }) [.ref (aB B 0), .int x] (MW μ stk fc h T) δ (fun r μ' δ' => r = sAt h x ∧ μ' = MW μ stk fc h T ∧ δ' = δ) := c_X8_those B _ δ h T hi x
theorem w_counts (σ : ST) (hTR : TR σ h T) (key : Nat) (hk : key < 3) : MI B yX8_counts cX8_counts 3 (some .int) ({ frames := 0, cells := 0, slots := 0, locals := 0 }) [.ref (aB B 0), .int (nI key)] (MW μ stk fc h T) δ (fun r μ' δ' => r = h 9 key ∧ μ' = MW μ stk fc h T ∧ δ' = δ) := c_X8_counts B _ δ h T σ hTR key hk
end W26
section XW26
variable {B : BT} {k : KT} {cc : ByteArray} {own : String} {rm : Room} {μ : ST} {δ : Nat → Int64} {pc : Nat} {L : List (Option Value)} {st : List Value} {stk fc : Nat → Int32} {h h' : HT} {T T' : Nat → Int32}
theorem m_stW {i x : Int32} (m : Nat) (hi : i = nI m) (hm : m < 1469) (he : upd (en h T) m x = en h' T') (ho : Ok (GM B) k cc own rm) (hdg : decode cc pc = .ok (.iastore, 1)) (kk : XM B k (MW μ stk fc h' T') δ (pc + 1) L st) : XM B k (MW μ stk fc h T) δ pc L (.int x :: .int i :: .ref (aB B 1) :: st) := m_st m hi hm ho hdg (by rw [he]; exact kk)
end XW26
theorem lastK_of {σ : ST} {key : Nat} : ∀ {N : Nat}, 0 ≤ lastK σ key N → ∃ t, t < N ∧ lastK σ key N = nI t ∧ σ 37 t = nI key
  | 0, h => absurd h (by show ¬ (0 : Int32) ≤ -1; decide)
  | N + 1, h => by
    by_cases e : σ 37 N = nI key
    · exact ⟨N, by omega, if_pos e, e⟩
    · have e2 : lastK σ key (N + 1) = lastK σ key N := if_neg e
      rw [e2] at h ⊢
      obtain ⟨t, h1, h2⟩ := lastK_of h
      exact ⟨t, by omega, h2⟩
theorem TR_txt {σ : ST} {h : HT} {T : Nat → Int32} (hTR : TR σ h T) {key : Nat} (hk : key < 3) (h0 : 0 ≤ h 9 key) : ∃ t, t < 14 ∧ h 9 key = nI t ∧ σ 37 t = nI key ∧ TxRel σ T t := by
  obtain ⟨N, hN14, hN, hTx, hl⟩ := hTR
  rw [hl key hk] at h0 ⊢
  obtain ⟨t, h1, h2, h3⟩ := lastK_of h0
  exact ⟨t, by omega, h2, h3, hTx t h1⟩
theorem TR_CT {σ : ST} {h : HT} {T : Nat → Int32} (hTR : TR σ h T) {key : Nat} (hk : key < 3) : CT σ (h 9 key) := fun h0 => by
  obtain ⟨t, h1, h2, h3, n, ky, h4, -, h5, -, h6, -⟩ := TR_txt hTR hk h0
  exact ⟨t, h2, h1, n, h5, h6⟩
theorem TR_e {σ : ST} {h h' : HT} {T : Nat → Int32} (hTR : TR σ h T) (h0 : h' 0 14 = h 0 14) (h9 : h' 9 = h 9) : TR σ h' T := by
  obtain ⟨N, hN14, hN, hTx, hl⟩ := hTR
  exact ⟨N, hN14, by rw [h0, hN], hTx, by rw [h9]; exact hl⟩
theorem jwi_held {v : Int32} {m : Nat} (hm : m < 2 ^ 31) : jwi v 0 (nI m) = jheld v (nI m) := by
  unfold jwi jheld jmx jmn
  have h0 : ¬ nI m < 0 := nI_n0 m hm
  by_cases h1 : v < 0
  · rw [if_pos h1, if_neg (fun z => h0 (Int32.lt_trans z h1)), if_neg (fun z => absurd (Int32.lt_trans z h1) (Int32.lt_irrefl))]
  · rw [if_neg h1]
    by_cases h2 : nI m < v
    · rw [if_pos h2]
      by_cases h3 : (0 : Int32) < nI m
      · rw [if_pos h3]
      · rw [if_neg h3]
        exact Int32.le_antisymm (Int32.not_lt.mp h3) (Int32.not_lt.mp h0)
    · rw [if_neg h2]
      by_cases h3 : (0 : Int32) < v
      · rw [if_pos h3]
      · rw [if_neg h3]
        exact Int32.le_antisymm (Int32.not_lt.mp h3) (Int32.not_lt.mp h1)
theorem lt2 {n : Nat} (hn : n ≤ 99) : (if nI n < 2 then 0 else nI n / 2 - 1) = jmx 0 (nI n / 2 - 1) := by
  rw [show nI n / 2 = nI (n / 2) from pk_div (a := n) (d := 2) (by omega) (by omega) (by omega)]
  by_cases h : n < 2
  · rw [if_pos (show nI n < 2 from nI_lt (b := 2) h (by decide))]
    rcases (by omega : n = 0 ∨ n = 1) with rfl | rfl <;> rfl
  · rw [if_neg (show ¬ nI n < 2 from fun z => h (n_lt (b := 2) (by omega) (by decide) z)), show nI (n / 2) - 1 = nI (n / 2 - 1) from sub_nI (b := 1) (by omega)]
    unfold jmx
    by_cases q : (0 : Int32) < nI (n / 2 - 1)
    · rw [if_pos q]
    · rw [if_neg q]
      have := n_nlt (a := 0) (b := n / 2 - 1) (by decide) (by omega) q
      rw [show n / 2 - 1 = 0 by omega]
      rfl
set_option maxRecDepth 100000 in
set_option maxHeartbeats 4000000 in
theorem c_X8_wearsOn (B : BT) (μ : Nat → Nat → Int32) (δ : Nat → Int64) (h : HT) (T : Nat → Int32) (stk fc : Nat → Int32) (σ : ST) (hTR : TR σ h T) (d : Nat) (hd : d < 12) (f : Int32) (hf : rg f 0 9) : MI B yX8_wearsOn cX8_wearsOn 5 (some .int) ({ frames := 2, cells := 0, slots := 0, locals := 47 }) [.ref (aB B 0), .int (nI d), .int f] (MW μ stk fc h T) δ (fun r μ' δ' => r = kWears (h 1 d) ((gC σ (h 9 0)) f (h 3 d) (h 5 d)) ∧ ∃ stk' fc', μ' = MW μ stk' fc' h T ∧ δ' = δ) := by
  refine MX.of2 RX8 (by decide) rfl ⟨rfl, rfl⟩ (Nat.le_of_ble_eq_true rfl) (by rfl) (fun k ho hr hk => ?_)
  show XM B k (MW μ stk fc h T) δ 0 [some (.ref (aB B 0)), some (.int (nI d)), some (.int f), none, none] []
  have K56 : ∀ stk fc, XM B k (MW μ stk fc h T) δ 56 [some (.ref (aB B 0)), some (.int (nI d)), some (.int f), some (.int (h 9 0)), none] [.int ((gC σ (h 9 0)) f (h 3 d) (h 5 d))] := by
    intro stk fc
    obtain ⟨n, hn, -, hn99⟩ := gC_GR (σ := σ) (ct := h 9 0) f (h 3 d) (h 5 d) hf
    generalize hX : ((gC σ (h 9 0)) f (h 3 d) (h 5 d)) = x at hn ⊢
    refine x_ist4 ho dX8_wearsOn_56 (by rw [hk]; decide) rfl ?_
    refine x_ald0 ho dX8_wearsOn_58 ?_
    refine x_ild1 ho dX8_wearsOn_59 ?_
    refine x_iconst (v := 0) ho dX8_wearsOn_60 rfl ?_
    refine vMI2 ho cs_X8_104 (w_of B _ _ _ _ _ _ d 0 hd (by decide)) rfl ⟨rfl, rfl⟩ ⟨Nat.le_of_ble_eq_true rfl, Nat.le_of_ble_eq_true rfl⟩ (Nat.le_of_ble_eq_true rfl) dX8_wearsOn_61 (fun r61 s61 t61 p61 => ?_)
    obtain ⟨rfl, rfl, rfl⟩ := p61
    refine x_topi (fun y64 ey64 => ?_)
    by_cases q64_1 : y64 = 1
    · rw [q64_1] at ey64 ⊢
      refine x_tin 100 ho dX8_wearsOn_64 (by decide) (by decide) (by rfl) (by decide) ?_
      refine x_ild4 ho dX8_wearsOn_100 ?_
      refine x_iconst (v := 2) ho dX8_wearsOn_102 rfl ?_
      refine x_idiv ho dX8_wearsOn_103 (by decide) ?_
      refine x_iret ho hr ?_ dX8_wearsOn_104
      refine ⟨_, _, _, rfl, rfl, ?_, stk, fc, rfl, rfl⟩
      have ek : h 1 d = _ := ey64.symm
      rw [ek, hX]
      unfold kWears
      rfl
    · skip
      by_cases q64_2 : y64 = 2
      · rw [q64_2] at ey64 ⊢
        refine x_tin 105 ho dX8_wearsOn_64 (by decide) (by decide) (by rfl) (by decide) ?_
        refine x_iconst (v := 2) ho dX8_wearsOn_105 rfl ?_
        refine x_ild4 ho dX8_wearsOn_106 ?_
        refine x_imul ho dX8_wearsOn_108 ?_
        refine x_iret ho hr ?_ dX8_wearsOn_109
        refine ⟨_, _, _, rfl, rfl, ?_, stk, fc, rfl, rfl⟩
        have ek : h 1 d = _ := ey64.symm
        rw [ek, hX]
        unfold kWears
        exact Int32.mul_comm _ _
      · skip
        by_cases q64_3 : y64 = 3
        · rw [q64_3] at ey64 ⊢
          refine x_tin 110 ho dX8_wearsOn_64 (by decide) (by decide) (by rfl) (by decide) ?_
          refine x_ild4 ho dX8_wearsOn_110 ?_
          refine x_iconst (v := 2) ho dX8_wearsOn_112 rfl ?_
          refine x_icmp_ge 120 ho dX8_wearsOn_113 (by decide) (fun c113 => ?_) (fun c113 => ?_)
          · rw [hn] at c113 ⊢
            have c113 : ¬ nI n < 2 := Int32.not_lt.mpr c113
            refine x_ild4 ho dX8_wearsOn_120 ?_
            refine x_iconst (v := 2) ho dX8_wearsOn_122 rfl ?_
            refine x_idiv ho dX8_wearsOn_123 (by decide) ?_
            refine x_iconst (v := 1) ho dX8_wearsOn_124 rfl ?_
            refine x_isub ho dX8_wearsOn_125 ?_
            refine x_iret ho hr ?_ dX8_wearsOn_126
            refine ⟨_, _, _, rfl, rfl, ?_, stk, fc, rfl, rfl⟩
            have ek : h 1 d = _ := ey64.symm
            rw [ek, hX]
            unfold kWears
            rw [show (if (3 : Int32) = 1 then x / 2 else if (3 : Int32) = 2 then x * 2 else if (3 : Int32) = 3 then jmx 0 (x / 2 - 1) else if (3 : Int32) = 4 then x * 2 + 3 else if (3 : Int32) = 5 then x + 1 else x) = jmx 0 (x / 2 - 1) from rfl, hn, ← lt2 hn99]
            first | exact (if_pos c113).symm | exact (if_neg c113).symm
          · rw [hn] at c113 ⊢
            have c113 : nI n < 2 := Int32.not_le.mp c113
            refine x_iconst (v := 0) ho dX8_wearsOn_116 rfl ?_
            refine x_goto 126 ho dX8_wearsOn_117 (by decide) ?_
            refine x_iret ho hr ?_ dX8_wearsOn_126
            refine ⟨_, _, _, rfl, rfl, ?_, stk, fc, rfl, rfl⟩
            have ek : h 1 d = _ := ey64.symm
            rw [ek, hX]
            unfold kWears
            rw [show (if (3 : Int32) = 1 then x / 2 else if (3 : Int32) = 2 then x * 2 else if (3 : Int32) = 3 then jmx 0 (x / 2 - 1) else if (3 : Int32) = 4 then x * 2 + 3 else if (3 : Int32) = 5 then x + 1 else x) = jmx 0 (x / 2 - 1) from rfl, hn, ← lt2 hn99]
            first | exact (if_pos c113).symm | exact (if_neg c113).symm
        · skip
          by_cases q64_4 : y64 = 4
          · rw [q64_4] at ey64 ⊢
            refine x_tin 127 ho dX8_wearsOn_64 (by decide) (by decide) (by rfl) (by decide) ?_
            refine x_iconst (v := 2) ho dX8_wearsOn_127 rfl ?_
            refine x_ild4 ho dX8_wearsOn_128 ?_
            refine x_imul ho dX8_wearsOn_130 ?_
            refine x_iconst (v := 3) ho dX8_wearsOn_131 rfl ?_
            refine x_iadd ho dX8_wearsOn_132 ?_
            refine x_iret ho hr ?_ dX8_wearsOn_133
            refine ⟨_, _, _, rfl, rfl, ?_, stk, fc, rfl, rfl⟩
            have ek : h 1 d = _ := ey64.symm
            rw [ek, hX]
            unfold kWears
            exact congrArg (· + 3) (Int32.mul_comm _ _)
          · skip
            by_cases q64_5 : y64 = 5
            · rw [q64_5] at ey64 ⊢
              refine x_tin 134 ho dX8_wearsOn_64 (by decide) (by decide) (by rfl) (by decide) ?_
              refine x_ild4 ho dX8_wearsOn_134 ?_
              refine x_iconst (v := 1) ho dX8_wearsOn_136 rfl ?_
              refine x_iadd ho dX8_wearsOn_137 ?_
              refine x_iret ho hr ?_ dX8_wearsOn_138
              refine ⟨_, _, _, rfl, rfl, ?_, stk, fc, rfl, rfl⟩
              have ek : h 1 d = _ := ey64.symm
              rw [ek, hX]
              unfold kWears
              rfl
            · skip
              refine x_tout 139 ho dX8_wearsOn_64 (by have tq64_1 := lv_neT q64_1 (a := 1) (by decide); have tq64_2 := lv_neT q64_2 (a := 2) (by decide); have tq64_3 := lv_neT q64_3 (a := 3) (by decide); have tq64_4 := lv_neT q64_4 (a := 4) (by decide); have tq64_5 := lv_neT q64_5 (a := 5) (by decide); omega) (by decide) ?_
              refine x_ild4 ho dX8_wearsOn_139 ?_
              refine x_iret ho hr ?_ dX8_wearsOn_141
              refine ⟨_, _, _, rfl, rfl, ?_, stk, fc, rfl, rfl⟩
              have ek : h 1 d = _ := ey64.symm
              rw [ek, hX]
              unfold kWears
              rw [if_neg q64_1, if_neg q64_2, if_neg q64_3, if_neg q64_4, if_neg q64_5]
  refine x_ald0 ho dX8_wearsOn_0 ?_
  refine x_iconst (v := 0) ho dX8_wearsOn_1 rfl ?_
  refine vMI1 ho cs_X8_100 (w_counts B _ _ _ _ _ _ σ hTR 0 (by decide)) rfl ⟨rfl, rfl⟩ ⟨Nat.le_of_ble_eq_true rfl, Nat.le_of_ble_eq_true rfl⟩ (Nat.le_of_ble_eq_true rfl) dX8_wearsOn_2 (fun r2 s2 t2 p2 => ?_)
  obtain ⟨rfl, rfl, rfl⟩ := p2
  refine x_ist3 ho dX8_wearsOn_5 (by rw [hk]; decide) rfl ?_
  refine x_ald0 ho dX8_wearsOn_6 ?_
  refine r_X8_52 ho dX8_wearsOn_7 ?_
  refine x_iconst (v := 0) ho dX8_wearsOn_10 rfl ?_
  refine x_ild2 ho dX8_wearsOn_11 ?_
  refine xm_iastN (0) (rfl) 14 (by decide) ho (by decide) (by decide) (fun _ => rfl) dX8_wearsOn_12 ?_
  rw [MW_14]
  refine x_ald0 ho dX8_wearsOn_13 ?_
  refine r_X8_52 ho dX8_wearsOn_14 ?_
  refine x_iconst (v := 1) ho dX8_wearsOn_17 rfl ?_
  refine x_ald0 ho dX8_wearsOn_18 ?_
  refine x_ild1 ho dX8_wearsOn_19 ?_
  refine x_iconst (v := 2) ho dX8_wearsOn_20 rfl ?_
  refine vMI2 ho cs_X8_104 (w_of B _ _ _ _ _ _ d 2 hd (by decide)) rfl ⟨rfl, rfl⟩ ⟨Nat.le_of_ble_eq_true rfl, Nat.le_of_ble_eq_true rfl⟩ (Nat.le_of_ble_eq_true rfl) dX8_wearsOn_21 (fun r21 s21 t21 p21 => ?_)
  obtain ⟨rfl, rfl, rfl⟩ := p21
  refine xm_iastN (1) (rfl) 14 (by decide) ho (by decide) (by decide) (fun _ => rfl) dX8_wearsOn_24 ?_
  rw [MW_14]
  refine x_ald0 ho dX8_wearsOn_25 ?_
  refine r_X8_52 ho dX8_wearsOn_26 ?_
  refine x_iconst (v := 2) ho dX8_wearsOn_29 rfl ?_
  refine x_ald0 ho dX8_wearsOn_30 ?_
  refine x_ild1 ho dX8_wearsOn_31 ?_
  refine x_iconst (v := 4) ho dX8_wearsOn_32 rfl ?_
  refine vMI2 ho cs_X8_104 (w_of B _ _ _ _ _ _ d 4 hd (by decide)) rfl ⟨rfl, rfl⟩ ⟨Nat.le_of_ble_eq_true rfl, Nat.le_of_ble_eq_true rfl⟩ (Nat.le_of_ble_eq_true rfl) dX8_wearsOn_33 (fun r33 s33 t33 p33 => ?_)
  obtain ⟨rfl, rfl, rfl⟩ := p33
  refine xm_iastN (2) (rfl) 14 (by decide) ho (by decide) (by decide) (fun _ => rfl) dX8_wearsOn_36 ?_
  rw [MW_14]
  refine x_ild3 ho dX8_wearsOn_37 ?_
  refine x_if_ge 45 ho dX8_wearsOn_38 (by decide) (fun c38 => ?_) (fun c38 => ?_)
  · obtain ⟨t, ht14, et, ek, hx⟩ := TR_txt hTR (key := 0) (by decide) c38
    rw [et]
    refine x_ald0 ho dX8_wearsOn_45 ?_
    refine x_ild3 ho dX8_wearsOn_46 ?_
    refine vMI1 ho cs_X8_108 (c_X8_worksOut B μ _ h T _ _ σ t 0 ht14 hx ek (by decide) f (h 3 d) (h 5 d) ⟨rfl, rfl, rfl⟩) rfl ⟨rfl, rfl⟩ ⟨Nat.le_of_ble_eq_true rfl, Nat.le_of_ble_eq_true rfl⟩ (Nat.le_of_ble_eq_true rfl) dX8_wearsOn_47 (fun r47 s47 t47 p47 => ?_)
    obtain ⟨rfl, stk, rfl, rfl⟩ := p47
    refine x_iconst (v := 0) ho dX8_wearsOn_50 rfl ?_
    refine x_bipush (v := 99) ho dX8_wearsOn_51 rfl ?_
    refine sMI3 ho cs_X8_111 (c_X8_within B _ _ _ _ _) ⟨rfl, rfl⟩ ⟨Nat.le_of_ble_eq_true rfl, Nat.le_of_ble_eq_true rfl⟩ (Nat.le_of_ble_eq_true rfl) dX8_wearsOn_53 (fun r53 s53 t53 p53 => ?_)
    obtain ⟨rfl, rfl, rfl⟩ := p53
    rw [show jwi (TxV σ t f (h 3 d) (h 5 d)) 0 99 = ((gC σ (h 9 0)) f (h 3 d) (h 5 d)) by
      rw [show (99 : Int32) = nI 99 from rfl, jwi_held (by decide)]
      unfold gC
      rw [if_pos c38, et, ix_n (by omega)]
      rfl, ← et]
    first | exact K56 _ _ | (have K := K56 stk (upd (upd (upd fc 0 f) 1 (h 3 d)) 2 (h 5 d)); rw [eg] at K; exact K)
  · have eg : ((gC σ (h 9 0)) f (h 3 d) (h 5 d)) = f := if_neg c38
    refine x_ild2 ho dX8_wearsOn_41 ?_
    refine x_goto 56 ho dX8_wearsOn_42 (by decide) ?_
    first | exact K56 _ _ | (have K := K56 stk (upd (upd (upd fc 0 f) 1 (h 3 d)) 2 (h 5 d)); rw [eg] at K; exact K)
theorem jwi_less {s w : Int32} (hs : rg s 0 999) (hw : rg w 0 201) : jwi (s - w) 0 999 = jmx 0 (s - w) := by
  obtain ⟨m, rfl, -, hm⟩ := hs
  obtain ⟨n, rfl, -, hn⟩ := hw
  unfold jwi jmx
  have e : (nI m - nI n).toInt = (m : Int) - n := pk_sub_toInt (by omega) (by omega)
  have h9 : (999 : Int32).toInt = 999 := rfl
  have h0 : (0 : Int32).toInt = 0 := rfl
  by_cases h1 : nI m - nI n < 0
  · rw [if_pos h1, if_neg (fun z => absurd (Int32.lt_trans z h1) (Int32.lt_irrefl))]
  · rw [if_neg h1, if_neg (by rw [Int32.lt_iff_toInt_lt, e, h9]; omega)]
    by_cases h2 : (0 : Int32) < nI m - nI n
    · rw [if_pos h2]
    · rw [if_neg h2]
      exact Int32.le_antisymm (Int32.not_lt.mp h2) (Int32.not_lt.mp h1)
set_option maxRecDepth 100000 in
set_option maxHeartbeats 4000000 in
theorem c_X8_steps (B : BT) (μ : Nat → Nat → Int32) (δ : Nat → Int64) (h : HT) (T : Nat → Int32) (stk fc : Nat → Int32) (σ : ST) (hTR : TR σ h T) (hi : HI h) (d : Nat) (hd : d < 12) : MV B yX8_steps cX8_steps 4 none ({ frames := 3, cells := 0, slots := 0, locals := 71 }) [.ref (aB B 0), .int (nI d)] (MW μ stk fc h T) δ (fun μ' δ' => ∃ stk' fc', μ' = MW μ stk' fc' (sStep (gC σ (h 9 0)) h d) T ∧ δ' = δ) := by
  refine MX.of2 RX8 (by decide) rfl ⟨rfl, rfl⟩ (Nat.le_of_ble_eq_true rfl) (by rfl) (fun k ho hr hk => ?_)
  show XM B k (MW μ stk fc h T) δ 0 [some (.ref (aB B 0)), some (.int (nI d)), none, none] []
  have ha := rg_ix (hi.at hd) (by decide)
  have hl := rg_ix (hi.leads (r := ix (h 2 d)) (by omega)) (by decide)
  have hi1 := hi.st1 hd
  have hi2 := hi.st2 gC_GR hd (g := (gC σ (h 9 0)))
  refine x_ald0 ho dX8_steps_0 ?_
  refine r_X8_9 ho dX8_steps_1 ?_
  refine x_bipush (v := 17) ho dX8_steps_4 rfl ?_
  refine x_ald0 ho dX8_steps_6 ?_
  refine x_ild1 ho dX8_steps_7 ?_
  refine x_iconst (v := 1) ho dX8_steps_8 rfl ?_
  refine vMI2 ho cs_X8_104 (w_of B _ _ _ _ _ _ d 1 hd (by decide)) rfl ⟨rfl, rfl⟩ ⟨Nat.le_of_ble_eq_true rfl, Nat.le_of_ble_eq_true rfl⟩ (Nat.le_of_ble_eq_true rfl) dX8_steps_9 (fun r9 s9 t9 p9 => ?_)
  obtain ⟨rfl, rfl, rfl⟩ := p9
  refine x_iadd ho dX8_steps_12 ?_
  refine m_ldW (17 + ix (h 2 d)) (by rw [ha.2.2, ix_n (by omega)]; exact nI_add 17 _) (by omega) ho dX8_steps_13 ?_
  rw [en_ld (by omega)]
  refine x_ist2 ho dX8_steps_14 (by rw [hk]; decide) rfl ?_
  refine x_ald0 ho dX8_steps_15 ?_
  refine x_ild1 ho dX8_steps_16 ?_
  refine x_iconst (v := 1) ho dX8_steps_17 rfl ?_
  refine x_ild2 ho dX8_steps_18 ?_
  refine vMV3 ho cs_X8_86 (w_put B _ _ _ _ _ _ d 1 hd (by decide) _) rfl ⟨rfl, rfl⟩ ⟨Nat.le_of_ble_eq_true rfl, Nat.le_of_ble_eq_true rfl⟩ (Nat.le_of_ble_eq_true rfl) dX8_steps_19 (fun s19 t19 p19 => ?_)
  obtain ⟨rfl, rfl⟩ := p19
  change XM B k (MW μ stk fc (up2 h 2 d (h 7 (ix (h 2 d)))) T) _ _ _ _
  refine x_ald0 ho dX8_steps_22 ?_
  refine x_ild1 ho dX8_steps_23 ?_
  refine x_iconst (v := 4) ho dX8_steps_24 rfl ?_
  refine x_ald0 ho dX8_steps_25 ?_
  refine x_ild1 ho dX8_steps_26 ?_
  refine x_iconst (v := 4) ho dX8_steps_27 rfl ?_
  refine vMI2 ho cs_X8_104 (w_of B _ _ _ _ _ _ d 4 hd (by decide)) rfl ⟨rfl, rfl⟩ ⟨Nat.le_of_ble_eq_true rfl, Nat.le_of_ble_eq_true rfl⟩ (Nat.le_of_ble_eq_true rfl) dX8_steps_28 (fun r28 s28 t28 p28 => ?_)
  obtain ⟨rfl, rfl, rfl⟩ := p28
  refine x_iconst (v := 1) ho dX8_steps_31 rfl ?_
  refine x_iadd ho dX8_steps_32 ?_
  refine vMV3 ho cs_X8_86 (w_put B _ _ _ _ _ _ d 4 hd (by decide) _) rfl ⟨rfl, rfl⟩ ⟨Nat.le_of_ble_eq_true rfl, Nat.le_of_ble_eq_true rfl⟩ (Nat.le_of_ble_eq_true rfl) dX8_steps_33 (fun s33 t33 p33 => ?_)
  obtain ⟨rfl, rfl⟩ := p33
  change XM B k (MW μ stk fc (sSt1 h d) T) _ _ _ _
  refine x_ald0 ho dX8_steps_36 ?_
  refine x_ild1 ho dX8_steps_37 ?_
  refine x_ald0 ho dX8_steps_38 ?_
  refine r_X8_9 ho dX8_steps_39 ?_
  refine x_bipush (v := 7) ho dX8_steps_42 rfl ?_
  refine x_ild2 ho dX8_steps_44 ?_
  refine x_iadd ho dX8_steps_45 ?_
  refine m_ldW (7 + ix (h 7 (ix (h 2 d)))) (by rw [hl.2.2, ix_n (by omega)]; exact nI_add 7 _) (by omega) ho dX8_steps_46 ?_
  rw [en_fl (by omega)]
  refine vMI2 ho cs_X8_125 (c_X8_wearsOn B _ _ (sSt1 h d) _ _ _ σ (TR_e hTR rfl rfl) d hd _ (hi1.floor (by omega))) rfl ⟨rfl, rfl⟩ ⟨Nat.le_of_ble_eq_true rfl, Nat.le_of_ble_eq_true rfl⟩ (Nat.le_of_ble_eq_true rfl) dX8_steps_47 (fun r47 s47 t47 p47 => ?_)
  obtain ⟨rfl, stk, fc, rfl, rfl⟩ := p47
  rw [show kWears ((sSt1 h d) 1 d) (gC σ ((sSt1 h d) 9 0) ((sSt1 h d) 6 (ix (h 7 (ix (h 2 d))))) ((sSt1 h d) 3 d) ((sSt1 h d) 5 d)) = sWears (gC σ (h 9 0)) (sSt1 h d) d by
    unfold sWears
    rw [show (sSt1 h d) 2 d = (h 7 (ix (h 2 d))) by unfold sSt1; rw [up2_n (by decide), up2_s, upd_s]]
    rfl]
  refine x_ist3 ho dX8_steps_50 (by rw [hk]; decide) rfl ?_
  refine x_ald0 ho dX8_steps_51 ?_
  refine x_ild1 ho dX8_steps_52 ?_
  refine x_iconst (v := 2) ho dX8_steps_53 rfl ?_
  refine x_ald0 ho dX8_steps_54 ?_
  refine x_ild1 ho dX8_steps_55 ?_
  refine x_iconst (v := 2) ho dX8_steps_56 rfl ?_
  refine vMI2 ho cs_X8_104 (w_of B _ _ _ _ _ _ d 2 hd (by decide)) rfl ⟨rfl, rfl⟩ ⟨Nat.le_of_ble_eq_true rfl, Nat.le_of_ble_eq_true rfl⟩ (Nat.le_of_ble_eq_true rfl) dX8_steps_57 (fun r57 s57 t57 p57 => ?_)
  obtain ⟨rfl, rfl, rfl⟩ := p57
  refine x_ild3 ho dX8_steps_60 ?_
  refine x_isub ho dX8_steps_61 ?_
  refine x_iconst (v := 0) ho dX8_steps_62 rfl ?_
  refine x_sipush (v := 999) ho dX8_steps_63 rfl ?_
  refine sMI3 ho cs_X8_111 (c_X8_within B _ _ _ _ _) ⟨rfl, rfl⟩ ⟨Nat.le_of_ble_eq_true rfl, Nat.le_of_ble_eq_true rfl⟩ (Nat.le_of_ble_eq_true rfl) dX8_steps_66 (fun r66 s66 t66 p66 => ?_)
  obtain ⟨rfl, rfl, rfl⟩ := p66
  rw [show jwi ((sSt1 h d) (2 + 1) d - sWears (gC σ (h 9 0)) (sSt1 h d) d) 0 999 = jmx 0 ((sSt1 h d) 3 d - sWears (gC σ (h 9 0)) (sSt1 h d) d) from jwi_less (hi1.sole hd) (sWears_rg gC_GR hi1 hd)]
  refine vMV3 ho cs_X8_86 (w_put B _ _ _ _ _ _ d 2 hd (by decide) _) rfl ⟨rfl, rfl⟩ ⟨Nat.le_of_ble_eq_true rfl, Nat.le_of_ble_eq_true rfl⟩ (Nat.le_of_ble_eq_true rfl) dX8_steps_69 (fun s69 t69 p69 => ?_)
  obtain ⟨rfl, rfl⟩ := p69
  change XM B k (MW μ stk fc (sSt2 (gC σ (h 9 0)) h d) T) _ _ _ _
  refine x_ald0 ho dX8_steps_72 ?_
  refine r_X8_9 ho dX8_steps_73 ?_
  refine x_bipush (v := 27) ho dX8_steps_76 rfl ?_
  refine x_ild2 ho dX8_steps_78 ?_
  refine x_iadd ho dX8_steps_79 ?_
  refine x_dup2 ho dX8_steps_80 rfl rfl ?_
  refine m_ldW (27 + ix (h 7 (ix (h 2 d)))) (by rw [hl.2.2, ix_n (by omega)]; exact nI_add 27 _) (by omega) ho dX8_steps_81 ?_
  rw [en_mk (by omega)]
  refine x_ald0 ho dX8_steps_82 ?_
  refine x_ild1 ho dX8_steps_83 ?_
  refine x_ald0 ho dX8_steps_84 ?_
  refine r_X8_9 ho dX8_steps_85 ?_
  refine x_bipush (v := 7) ho dX8_steps_88 rfl ?_
  refine x_ild2 ho dX8_steps_90 ?_
  refine x_iadd ho dX8_steps_91 ?_
  refine m_ldW (7 + ix (h 7 (ix (h 2 d)))) (by rw [hl.2.2, ix_n (by omega)]; exact nI_add 7 _) (by omega) ho dX8_steps_92 ?_
  rw [en_fl (by omega)]
  refine vMI2 ho cs_X8_128 (w_leavesOn B _ _ _ _ _ _ d hd _) rfl ⟨rfl, rfl⟩ ⟨Nat.le_of_ble_eq_true rfl, Nat.le_of_ble_eq_true rfl⟩ (Nat.le_of_ble_eq_true rfl) dX8_steps_93 (fun r93 s93 t93 p93 => ?_)
  obtain ⟨rfl, rfl, rfl⟩ := p93
  refine x_iadd ho dX8_steps_96 ?_
  refine m_stW (27 + ix (h 7 (ix (h 2 d)))) (by rw [hl.2.2, ix_n (by omega)]; exact nI_add 27 _) (by omega) (eu_mk (by omega)) ho dX8_steps_97 ?_
  refine x_vret ho hr ?_ dX8_steps_98
  refine ⟨_, _, rfl, rfl, stk, fc, ?_, rfl⟩
  unfold sStep sLeaves
  rw [show (sSt2 (gC σ (h 9 0)) h d) 2 d = (h 7 (ix (h 2 d))) by unfold sSt2 sSt1; rw [up2_n (by decide), up2_n (by decide), up2_s, upd_s]]
