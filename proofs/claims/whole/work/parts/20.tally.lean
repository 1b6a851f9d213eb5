/-! tallies -/
def cntD (th : HT) (tl : Nat → Int32) : Nat → Nat → Int32
  | 0 => tl
  | d + 1 => upd (cntD th tl d) (ix (th 2 d)) (cntD th tl d (ix (th 2 d)) + 1)
def psT (g : WT) (hh : HT) : Nat → Nat → Int32
  | 0 => fun _ => 0
  | k + 1 => cntD (sHours g hh (k + 1)) (psT g hh k) (sN hh)
/-- the first greatest, the first least of the first n + 1 -/
def bst (tl : Nat → Int32) : Nat → Nat
  | 0 => 0
  | r + 1 => if tl (bst tl r) < tl (r + 1) then r + 1 else bst tl r
def bsm (tl : Nat → Int32) : Nat → Nat
  | 0 => 0
  | r + 1 => if tl (r + 1) < tl (bsm tl r) then r + 1 else bsm tl r
theorem bst_le {tl : Nat → Int32} : ∀ r, bst tl r ≤ r
  | 0 => Nat.le_refl 0
  | r + 1 => by
    have := bst_le (tl := tl) r
    unfold bst
    split <;> omega
theorem bsm_le {tl : Nat → Int32} : ∀ r, bsm tl r ≤ r
  | 0 => Nat.le_refl 0
  | r + 1 => by
    have := bsm_le (tl := tl) r
    unfold bsm
    split <;> omega
def aPost (g : WT) (hh : HT) (n w : Int32) : Int32 := if isSh n = true ∧ is2 w = true then (if w = 0 then nI (bst (psT g hh (ix n)) 9) else psT g hh (ix n) (bst (psT g hh (ix n)) 9)) else -1000000001
def dfD (th : HT) (v : Int32) (tl : Nat → Int32) : Nat → Nat → Int32
  | 0 => tl
  | d + 1 => upd (dfD th v tl d) d (dfD th v tl d d + jab (th 3 d - v))
def dfT (g : WT) (hh : HT) (row : Nat → Int32) : Nat → Nat → Int32
  | 0 => fun _ => 0
  | k + 1 => if row k = -1000000005 then dfT g hh row k else dfD (sHours g hh k) (row k) (dfT g hh row k) (sN hh)
def aFee (σ : Nat → Nat → Int32) (hh : HT) : Int32 := if hh 9 1 < 0 then hh 0 10 else TxV σ (ix (hh 9 1)) 0 (hh 0 10) (hh 0 11)
def aFine (σ : Nat → Nat → Int32) (hh : HT) (x : Int32) : Int32 := if isD hh x = true then (if hh 9 2 < 0 then hh 5 (ix x) else TxV σ (ix (hh 9 2)) 0 (hh 3 (ix x)) (hh 5 (ix x))) else -1000000001
set_option maxRecDepth 100000 in
set_option maxHeartbeats 4000000 in
theorem c_X7_clearTally (B : BT) (σ : Nat → Nat → Int32) (hh : HT) (stk tl : Nat → Int32) (th : HT) : CV B yX7_clearTally cX7_clearTally 2 none ({ frames := 0, cells := 0, slots := 0, locals := 0 }) [.ref (aB B 30)] (TS σ hh stk tl th) (fun σ' => σ' = TS σ hh stk (fun _ => 0) th) := by
  refine MX.of2 RX7 (by decide) rfl ⟨rfl, rfl⟩ (Nat.le_of_ble_eq_true rfl) (by rfl) (fun k h hr hk => ?_)
  show XC B k (TS σ hh stk tl th) 0 [some (.ref (aB B 30)), none] []
  have loop : ∀ (f i : Nat), 12 < f + i → i ≤ 12 → XC B k (TS σ hh stk (fun e => if e < i then 0 else tl e) th) 2 [some (.ref (aB B 30)), some (.int (nI i))] [] := by
    intro f
    induction f with
    | zero => intro i h1 h2; omega
    | succ f ih =>
      intro i h1 h2
      refine x_ild1 h dX7_clearTally_2 ?_
      refine x_ald0 h dX7_clearTally_3 ?_
      refine r_X7_26 h dX7_clearTally_4 ?_
      refine xc_alen h 31 ⟨by decide, fun _ _ => rfl⟩ (by rfl : Int32.ofNat 12 = 12) dX7_clearTally_7 ?_
      refine x_icmp_ge 24 h dX7_clearTally_8 (by decide) (fun c8 => ?_) (fun c8 => ?_)
      · have c8 := n_le (a := 12) (by decide) (by omega) c8
        have ei : i = 12 := by omega
        subst ei
        rw [← TS_tl (tl := tl)]
        refine xc_same1 (q := 31) (g := fun _ => 0) (⟨by decide, fun _ _ => rfl⟩ : ArrC 31 12) (fun e he => if_pos he) ?_
        rw [TS_tl]
        refine x_vret h hr ?_ dX7_clearTally_24
        exact ⟨_, rfl, rfl, rfl⟩
      · have c8 := n_nle (a := 12) (b := i) (by decide) (by omega) c8
        refine x_ald0 h dX7_clearTally_11 ?_
        refine r_X7_26 h dX7_clearTally_12 ?_
        refine x_ild1 h dX7_clearTally_15 ?_
        refine x_iconst (v := 0) h dX7_clearTally_16 rfl ?_
        refine xc_iastN (i) (rfl) (by omega) (by decide) h 31 (⟨by decide, fun _ _ => rfl⟩ : ArrC 31 12) dX7_clearTally_17 ?_
        refine x_inc1 (y := 1) h dX7_clearTally_18 (by rw [hk]; decide) rfl rfl ?_
        refine x_goto 2 h dX7_clearTally_21 (by decide) ?_
        rw [nI_1 i, TS_t, show upd (fun e => if e < i then 0 else tl e) i 0 = (fun e => if e < i + 1 then 0 else tl e) by
          funext e
          unfold upd
          by_cases q : e = i
          · rw [if_pos q, if_pos (by omega)]
          · rw [if_neg q]
            show (if e < i then 0 else tl e) = _
            by_cases q2 : e < i
            · rw [if_pos q2, if_pos (by omega)]
            · rw [if_neg q2, if_neg (by omega)]]
        exact ih (i + 1) (by omega) (by omega)
  have loop := loop 13 0 (by omega) (by omega)
  rw [show (fun e => if e < 0 then 0 else tl e) = tl from funext fun e => if_neg (Nat.not_lt_zero e)] at loop
  refine x_iconst (v := 0) h dX7_clearTally_0 rfl ?_
  refine x_ist1 h dX7_clearTally_1 (by rw [hk]; decide) rfl ?_
  exact loop
theorem sHour_00 {g : WT} {h : HT} : sHour g h 0 0 = h 0 0 := by
  have e1 : ∀ h' : HT, sLook h' 0 0 = h' 0 0 := fun h' => by
    unfold sLook
    split
    · rfl
    · rfl
  unfold sHour
  show sLook (sDs g h (sN h)) 0 0 = _
  rw [e1, sDs_f (by decide)]
theorem sHours_00 {g : WT} {h : HT} : ∀ {n : Nat}, sHours g h n 0 0 = h 0 0
  | 0 => rfl
  | n + 1 => by
    show sHour g (sHours g h n) 0 0 = _
    rw [sHour_00, sHours_00]
theorem sHours_N {g : WT} {h : HT} {n : Nat} : sN (sHours g h n) = sN h := by unfold sN; rw [sHours_00]
set_option maxRecDepth 100000 in
set_option maxHeartbeats 4000000 in
theorem c_X7_post (B : BT) (σ : Nat → Nat → Int32) (hh : HT) (hi : HI hh) (hT : CT σ (hh 9 0)) (n w : Int32) : CI B yX7_post cX7_post 5 (some .int) ({ frames := 6, cells := 0, slots := 0, locals := 178 }) [.ref (aB B 30), .int n, .int w] (sH σ 0 hh) (fun r σ' => r = aPost (gC σ (hh 9 0)) hh n w ∧ ∃ σ2, Jk σ σ2 ∧ σ' = sH σ2 0 hh) := by
  refine MX.of2 RX7 (by decide) rfl ⟨rfl, rfl⟩ (Nat.le_of_ble_eq_true rfl) (by rfl) (fun k h hr hk => ?_)
  show XC B k (sH σ 0 hh) 0 [some (.ref (aB B 30)), some (.int n), some (.int w), none, none] []
  refine x_ild1 h dX7_post_0 ?_
  refine sCI1 h cs_X7_209 (c_X7_isShortRun B _ _) ⟨rfl, rfl⟩ ⟨Nat.le_of_ble_eq_true rfl, Nat.le_of_ble_eq_true rfl⟩ (Nat.le_of_ble_eq_true rfl) dX7_post_1 (fun r1 s1 p1 => ?_)
  obtain ⟨rfl, rfl⟩ := p1
  rw [bSh]
  refine x_if_eq 14 h dX7_post_4 (by decide) (fun c4 => ?_) (fun c4 => ?_)
  · have c4 := bI_0.mp c4
    refine x_ldc h kc_X7_85 dX7_post_14 ?_
    refine x_iret h hr ?_ dX7_post_16
    exact ⟨_, _, rfl, rfl, by simp_all [-Int32.not_lt, -Int32.not_le, aPost], σ, Jk.rf, rfl⟩
  · have c4 := bI_n.mp c4
    obtain ⟨n', hn0, hn60, rfl⟩ := isSh_of c4
    refine x_ild2 h dX7_post_7 ?_
    refine sCI1 h cs_X7_212 (c_X7_isOneOfTwo B _ _) ⟨rfl, rfl⟩ ⟨Nat.le_of_ble_eq_true rfl, Nat.le_of_ble_eq_true rfl⟩ (Nat.le_of_ble_eq_true rfl) dX7_post_8 (fun r8 s8 p8 => ?_)
    obtain ⟨rfl, rfl⟩ := p8
    rw [b2]
    refine x_if_ne 17 h dX7_post_11 (by decide) (fun c11 => ?_) (fun c11 => ?_)
    · have c11 := bI_n.mp c11
      have e0 : aPost (gC σ (hh 9 0)) hh (nI n') w = (if w = 0 then nI (bst (psT (gC σ (hh 9 0)) hh n') 9) else (psT (gC σ (hh 9 0)) hh n') (bst (psT (gC σ (hh 9 0)) hh n') 9)) := by
        rw [show aPost (gC σ (hh 9 0)) hh (nI n') w = _ from if_pos ⟨c4, c11⟩, ix_n (by omega)]
      rw [TS_0]
      refine x_ald0 h dX7_post_17 ?_
      refine vCV0 30 h cs_X7_215 (c_X7_clearTally B _ _ _ _ _) (⟨by decide, fun _ _ => rfl⟩ : ObjC 30 6) rfl ⟨rfl, rfl⟩ ⟨Nat.le_of_ble_eq_true rfl, Nat.le_of_ble_eq_true rfl⟩ (Nat.le_of_ble_eq_true rfl) dX7_post_18 (fun s18 p18 => ?_)
      obtain rfl := p18
      refine x_ald0 h dX7_post_21 ?_
      refine r_X7_23 h dX7_post_22 ?_
      refine x_ald0 h dX7_post_25 ?_
      refine r_X7_10 h dX7_post_26 ?_
      refine vCV1 (10 * 2) h cs_X7_195 (t_become B _ _ _ _ _) (obj_h (by decide)) rfl ⟨rfl, rfl⟩ ⟨Nat.le_of_ble_eq_true rfl, Nat.le_of_ble_eq_true rfl⟩ (Nat.le_of_ble_eq_true rfl) dX7_post_29 (fun s29 p29 => ?_)
      obtain rfl := p29
      refine x_iconst (v := 0) h dX7_post_32 rfl ?_
      refine x_ist3 h dX7_post_33 (by rw [hk]; decide) rfl ?_
      have K97 : ∀ stk th, XC B k (TS σ hh stk (psT (gC σ (hh 9 0)) hh n') th) 97 [some (.ref (aB B 30)), some (.int (nI n')), some (.int w), some (.int (nI n')), none] [] := by
        intro stk th
        have loop : ∀ (f r : Nat), 9 < f + r → r ≤ 9 → XC B k (TS σ hh stk (psT (gC σ (hh 9 0)) hh n') th) 102 [some (.ref (aB B 30)), some (.int (nI n')), some (.int w), some (.int (nI (bst (psT (gC σ (hh 9 0)) hh n') r))), some (.int (nI (r + 1)))] [] := by
          intro f
          induction f with
          | zero => intro r h1 h2; omega
          | succ f ih =>
            intro r h1 h2
            refine x_ild4 h dX7_post_102 ?_
            refine x_bipush (v := 10) h dX7_post_104 rfl ?_
            refine x_icmp_ge 134 h dX7_post_106 (by decide) (fun c106 => ?_) (fun c106 => ?_)
            · have c106 := n_le (a := 10) (by decide) (by omega) c106
              have er : r = 9 := by omega
              subst er
              refine x_ild2 h dX7_post_134 ?_
              refine x_if_ne 142 h dX7_post_135 (by decide) (fun c135 => ?_) (fun c135 => ?_)
              · have hbl := bst_le (tl := (psT (gC σ (hh 9 0)) hh n')) 9
                refine x_ald0 h dX7_post_142 ?_
                refine r_X7_26 h dX7_post_143 ?_
                refine x_ild3 h dX7_post_146 ?_
                refine xc_ialdN (bst (psT (gC σ (hh 9 0)) hh n') 9) (rfl) (by omega) (by decide) h 31 (⟨by decide, fun _ _ => rfl⟩ : ArrC 31 12) dX7_post_147 ?_
                change XC B k _ _ _ (.int ((psT (gC σ (hh 9 0)) hh n') (bst (psT (gC σ (hh 9 0)) hh n') 9)) :: _)
                refine x_iret h hr ?_ dX7_post_148
                obtain ⟨σ2, j2, e22⟩ : ∃ σ2, Jk σ σ2 ∧ TS σ hh _ _ _ = sH σ2 0 hh := TS_J
                exact ⟨_, _, rfl, rfl, by rw [e0]; first | exact (if_pos c135).symm | exact (if_neg c135).symm, σ2, j2, e22⟩
              · refine x_ild3 h dX7_post_138 ?_
                refine x_goto 148 h dX7_post_139 (by decide) ?_
                refine x_iret h hr ?_ dX7_post_148
                obtain ⟨σ2, j2, e22⟩ : ∃ σ2, Jk σ σ2 ∧ TS σ hh _ _ _ = sH σ2 0 hh := TS_J
                exact ⟨_, _, rfl, rfl, by rw [e0]; first | exact (if_pos c135).symm | exact (if_neg c135).symm, σ2, j2, e22⟩
            · have c106 := n_nle (a := 10) (b := r + 1) (by decide) (by omega) c106
              have hbl := bst_le (tl := (psT (gC σ (hh 9 0)) hh n')) r
              refine x_ald0 h dX7_post_109 ?_
              refine r_X7_26 h dX7_post_110 ?_
              refine x_ild4 h dX7_post_113 ?_
              refine xc_ialdN (r + 1) (rfl) (by omega) (by decide) h 31 (⟨by decide, fun _ _ => rfl⟩ : ArrC 31 12) dX7_post_115 ?_
              change XC B k _ _ _ (.int ((psT (gC σ (hh 9 0)) hh n') (r + 1)) :: _)
              refine x_ald0 h dX7_post_116 ?_
              refine r_X7_26 h dX7_post_117 ?_
              refine x_ild3 h dX7_post_120 ?_
              refine xc_ialdN (bst (psT (gC σ (hh 9 0)) hh n') r) (rfl) (by omega) (by decide) h 31 (⟨by decide, fun _ _ => rfl⟩ : ArrC 31 12) dX7_post_121 ?_
              change XC B k _ _ _ (.int ((psT (gC σ (hh 9 0)) hh n') (bst (psT (gC σ (hh 9 0)) hh n') r)) :: _)
              refine x_icmp_le 128 h dX7_post_122 (by decide) (fun c122 => ?_) (fun c122 => ?_)
              · have e2 : bst (psT (gC σ (hh 9 0)) hh n') (r + 1) = bst (psT (gC σ (hh 9 0)) hh n') r := if_neg (Int32.not_lt.mpr c122)
                refine x_inc4 (y := 1) h dX7_post_128 (by rw [hk]; decide) rfl rfl ?_
                refine x_goto 102 h dX7_post_131 (by decide) ?_
                rw [nI_1 (r + 1)]
                have ih := ih (r + 1) (by omega) (by omega)
                rw [e2] at ih
                exact ih
              · have e2 : bst (psT (gC σ (hh 9 0)) hh n') (r + 1) = r + 1 := if_pos (Int32.not_le.mp c122)
                refine x_ild4 h dX7_post_125 ?_
                refine x_ist3 h dX7_post_127 (by rw [hk]; decide) rfl ?_
                refine x_inc4 (y := 1) h dX7_post_128 (by rw [hk]; decide) rfl rfl ?_
                refine x_goto 102 h dX7_post_131 (by decide) ?_
                rw [nI_1 (r + 1)]
                have ih := ih (r + 1) (by omega) (by omega)
                rw [e2] at ih
                exact ih
        have loop := loop 10 0 (by omega) (by omega)
        refine x_iconst (v := 0) h dX7_post_97 rfl ?_
        refine x_ist3 h dX7_post_98 (by rw [hk]; decide) rfl ?_
        refine x_iconst (v := 1) h dX7_post_99 rfl ?_
        refine x_ist4 h dX7_post_100 (by rw [hk]; decide) rfl ?_
        exact loop
      have loop : ∀ (f i : Nat) (stk : Nat → Int32), n' < f + i → i ≤ n' → XC B k (TS σ hh stk (psT (gC σ (hh 9 0)) hh i) (sHours (gC σ (hh 9 0)) hh i)) 34 [some (.ref (aB B 30)), some (.int (nI n')), some (.int w), some (.int (nI i)), none] [] := by
        intro f
        induction f with
        | zero => intro i stk h1 h2; omega
        | succ f ih =>
          intro i stk h1 h2
          refine x_ild3 h dX7_post_34 ?_
          refine x_ild1 h dX7_post_35 ?_
          refine x_icmp_ge 97 h dX7_post_36 (by decide) (fun c36 => ?_) (fun c36 => ?_)
          · have c36 := n_le (by omega) (by omega) c36
            have ei : i = n' := by omega
            subst ei
            exact K97 stk _
          · have c36 := n_nle (by omega) (by omega) c36
            refine x_ald0 h dX7_post_39 ?_
            refine r_X7_23 h dX7_post_40 ?_
            refine x_ald0 h dX7_post_43 ?_
            refine r_X7_47 h dX7_post_44 ?_
            refine vCI1 (10 * 2) h cs_X7_204 (t_passHour B σ hh _ _ (sHours (gC σ (hh 9 0)) hh i) (hi.hours gC_GR i) sHours_9 hT) (obj_h (by decide)) rfl ⟨rfl, rfl⟩ ⟨Nat.le_of_ble_eq_true rfl, Nat.le_of_ble_eq_true rfl⟩ (Nat.le_of_ble_eq_true rfl) dX7_post_47 (fun r47 s47 p47 => ?_)
            obtain ⟨stk, rfl⟩ := p47
            rw [show sHour (gC σ (hh 9 0)) (sHours (gC σ (hh 9 0)) hh i) = (sHours (gC σ (hh 9 0)) hh (i + 1)) from rfl]
            have hi1 : HI (sHours (gC σ (hh 9 0)) hh (i + 1)) := hi.hours gC_GR (i + 1)
            have hN1 : (sHours (gC σ (hh 9 0)) hh (i + 1)) 0 0 = nI (sN hh) := by rw [sHours_00]; exact hi.n.2
            have hN12 := hi.n.1
            refine x_pop h dX7_post_50 rfl ?_
            refine x_iconst (v := 0) h dX7_post_51 rfl ?_
            refine x_ist4 h dX7_post_52 (by rw [hk]; decide) rfl ?_
            have loopi : ∀ (f d : Nat), sN hh < f + d → d ≤ sN hh → XC B k (TS σ hh stk (cntD (sHours (gC σ (hh 9 0)) hh (i + 1)) (psT (gC σ (hh 9 0)) hh i) d) (sHours (gC σ (hh 9 0)) hh (i + 1))) 54 [some (.ref (aB B 30)), some (.int (nI n')), some (.int w), some (.int (nI i)), some (.int (nI d))] [] := by
              intro f
              induction f with
              | zero => intro d h1 h2; omega
              | succ f ihd =>
                intro d h1 h2
                refine x_ild4 h dX7_post_54 ?_
                refine x_ald0 h dX7_post_56 ?_
                refine r_X7_23 h dX7_post_57 ?_
                refine r2_X7_86 h dX7_post_60 ?_
                change XC B k _ _ _ (.int ((sHours (gC σ (hh 9 0)) hh (i + 1)) 0 0) :: _)
                refine x_icmp_ge 91 h dX7_post_63 (by decide) (fun c63 => ?_) (fun c63 => ?_)
                · rw [hN1] at c63
                  have c63 := n_le (by omega) (by omega) c63
                  have ed : d = sN hh := by omega
                  subst ed
                  refine x_inc3 (y := 1) h dX7_post_91 (by rw [hk]; decide) rfl rfl ?_
                  refine x_goto 34 h dX7_post_94 (by decide) ?_
                  rw [nI_1 i]
                  refine x_loc (Lsb.s (Lsb.s (Lsb.s (Lsb.s (Lsb.n Lsb.e))))) ?_
                  exact ih (i + 1) stk (by omega) (by omega)
                · rw [hN1] at c63
                  have c63 := n_nle (by omega) (by omega) c63
                  have hr := rg_ix (hi1.at (d := d) (by omega)) (by omega)
                  refine x_ald0 h dX7_post_66 ?_
                  refine r_X7_26 h dX7_post_67 ?_
                  refine x_ald0 h dX7_post_70 ?_
                  refine r_X7_23 h dX7_post_71 ?_
                  refine r2_X7_100 h dX7_post_74 ?_
                  refine x_ild4 h dX7_post_77 ?_
                  refine xc_ialdN (d) (rfl) (by omega) (by decide) h 22 (⟨by decide, fun _ _ => rfl⟩ : ArrC 22 12) dX7_post_79 ?_
                  change XC B k _ _ _ (.int ((sHours (gC σ (hh 9 0)) hh (i + 1)) 2 (d)) :: _)
                  refine x_dup2 h dX7_post_80 rfl rfl ?_
                  refine xc_ialdN (ix ((sHours (gC σ (hh 9 0)) hh (i + 1)) 2 d)) (hr.2.2) (by omega) (by decide) h 31 (⟨by decide, fun _ _ => rfl⟩ : ArrC 31 12) dX7_post_81 ?_
                  change XC B k _ _ _ (.int ((cntD (sHours (gC σ (hh 9 0)) hh (i + 1)) (psT (gC σ (hh 9 0)) hh i) d) (ix ((sHours (gC σ (hh 9 0)) hh (i + 1)) 2 d))) :: _)
                  refine x_iconst (v := 1) h dX7_post_82 rfl ?_
                  refine x_iadd h dX7_post_83 ?_
                  refine xc_iastN (ix ((sHours (gC σ (hh 9 0)) hh (i + 1)) 2 d)) (hr.2.2) (by omega) (by decide) h 31 (⟨by decide, fun _ _ => rfl⟩ : ArrC 31 12) dX7_post_84 ?_
                  rw [TS_t]
                  refine x_inc4 (y := 1) h dX7_post_85 (by rw [hk]; decide) rfl rfl ?_
                  refine x_goto 54 h dX7_post_88 (by decide) ?_
                  rw [nI_1 d]
                  exact ihd (d + 1) (by omega) (by omega)
            exact loopi (sN hh + 1) 0 (by omega) (by omega)
      exact loop (n' + 1) 0 (σ 39) (by omega) (by omega)
    · have c11 := bI_0.mp c11
      refine x_ldc h kc_X7_85 dX7_post_14 ?_
      refine x_iret h hr ?_ dX7_post_16
      exact ⟨_, _, rfl, rfl, by simp_all [-Int32.not_lt, -Int32.not_le, aPost], σ, Jk.rf, rfl⟩
theorem TS_r {σ : Nat → Nat → Int32} {hh : HT} {stk tl : Nat → Int32} {th : HT} {q : Nat} (hq : 40 ≤ q) : TS σ hh stk tl th q = σ q := by
  unfold TS sH up1
  rw [if_neg (by omega), if_neg (by omega), if_neg (by omega), if_neg (by omega)]
set_option maxRecDepth 100000 in
set_option maxHeartbeats 4000000 in
theorem c_X7_tallyDifferences (B : BT) (σ : Nat → Nat → Int32) (hh : HT) (hi : HI hh) (hT : CT σ (hh 9 0)) (r m : Nat) (hr9 : r < 9) (hm : σ (54 + 2 * r) 1 = nI m) (hm24 : m ≤ 24) : CV B yX7_tallyDifferences cX7_tallyDifferences 4 none ({ frames := 6, cells := 0, slots := 0, locals := 178 }) [.ref (aB B 30), .ref (aB B (54 + 2 * r))] (sH σ 0 hh) (fun σ' => ∃ stk th, σ' = TS σ hh stk (dfT (gC σ (hh 9 0)) hh (σ (54 + 2 * r + 1)) m) th) := by
  refine MX.of2 RX7 (by decide) rfl ⟨rfl, rfl⟩ (Nat.le_of_ble_eq_true rfl) (by rfl) (fun k h hr hk => ?_)
  show XC B k (sH σ 0 hh) 0 [some (.ref (aB B 30)), some (.ref (aB B (54 + 2 * r))), none, none] []
  rw [TS_0]
  refine x_ald0 h dX7_tallyDifferences_0 ?_
  refine vCV0 30 h cs_X7_215 (c_X7_clearTally B _ _ _ _ _) (⟨by decide, fun _ _ => rfl⟩ : ObjC 30 6) rfl ⟨rfl, rfl⟩ ⟨Nat.le_of_ble_eq_true rfl, Nat.le_of_ble_eq_true rfl⟩ (Nat.le_of_ble_eq_true rfl) dX7_tallyDifferences_1 (fun s1 p1 => ?_)
  obtain rfl := p1
  refine x_ald0 h dX7_tallyDifferences_4 ?_
  refine r_X7_23 h dX7_tallyDifferences_5 ?_
  refine x_ald0 h dX7_tallyDifferences_8 ?_
  refine r_X7_10 h dX7_tallyDifferences_9 ?_
  refine vCV1 (10 * 2) h cs_X7_195 (t_become B _ _ _ _ _) (obj_h (by decide)) rfl ⟨rfl, rfl⟩ ⟨Nat.le_of_ble_eq_true rfl, Nat.le_of_ble_eq_true rfl⟩ (Nat.le_of_ble_eq_true rfl) dX7_tallyDifferences_12 (fun s12 p12 => ?_)
  obtain rfl := p12
  refine x_iconst (v := 0) h dX7_tallyDifferences_15 rfl ?_
  refine x_ist2 h dX7_tallyDifferences_16 (by rw [hk]; decide) rfl ?_
  have loop : ∀ (f i : Nat) (stk : Nat → Int32), m < f + i → i ≤ m → XC B k (TS σ hh stk (dfT (gC σ (hh 9 0)) hh (σ (54 + 2 * r + 1)) i) (sHours (gC σ (hh 9 0)) hh (i - 1))) 17 [some (.ref (aB B 30)), some (.ref (aB B (54 + 2 * r))), some (.int (nI i)), none] [] := by
    intro f
    induction f with
    | zero => intro i stk h1 h2; omega
    | succ f ih =>
      intro i stk h1 h2
      refine x_ild2 h dX7_tallyDifferences_17 ?_
      refine x_ald1 h dX7_tallyDifferences_18 ?_
      refine r_X7_288 (j := r) hr9 h dX7_tallyDifferences_19 ?_
      rw [TS_r (by omega), hm]
      refine x_icmp_ge 105 h dX7_tallyDifferences_22 (by decide) (fun c22 => ?_) (fun c22 => ?_)
      · have c22 := n_le (by omega) (by omega) c22
        have ei : i = m := by omega
        subst ei
        refine x_vret h hr ?_ dX7_tallyDifferences_105
        exact ⟨_, rfl, rfl, stk, _, rfl⟩
      · have c22 := n_nle (by omega) (by omega) c22
        have hN1 : (sHours (gC σ (hh 9 0)) hh i) 0 0 = nI (sN hh) := by rw [sHours_00]; exact hi.n.2
        have hN12 := hi.n.1
        have K99 : ∀ stk, XC B k (TS σ hh stk (dfT (gC σ (hh 9 0)) hh (σ (54 + 2 * r + 1)) (i + 1)) (sHours (gC σ (hh 9 0)) hh i)) 99 [some (.ref (aB B 30)), some (.ref (aB B (54 + 2 * r))), some (.int (nI i)), none] [] := by
          intro stk
          refine x_inc2 (y := 1) h dX7_tallyDifferences_99 (by rw [hk]; decide) rfl rfl ?_
          refine x_goto 17 h dX7_tallyDifferences_102 (by decide) ?_
          rw [nI_1 i]
          exact ih (i + 1) stk (by omega) (by omega)
        have K41 : ∀ stk, XC B k (TS σ hh stk (dfT (gC σ (hh 9 0)) hh (σ (54 + 2 * r + 1)) i) (sHours (gC σ (hh 9 0)) hh i)) 41 [some (.ref (aB B 30)), some (.ref (aB B (54 + 2 * r))), some (.int (nI i)), none] [] := by
          intro stk
          refine x_ald1 h dX7_tallyDifferences_41 ?_
          refine x_ild2 h dX7_tallyDifferences_42 ?_
          refine vCI1 (54 + 2 * r) h cs_X7_291 (c_X4_isNumber B hr9 _ i (by omega)) (obj_r hr9) rfl ⟨rfl, rfl⟩ ⟨Nat.le_of_ble_eq_true rfl, Nat.le_of_ble_eq_true rfl⟩ (Nat.le_of_ble_eq_true rfl) dX7_tallyDifferences_43 (fun r43 s43 p43 => ?_)
          obtain ⟨rfl, rfl⟩ := p43
          rw [TS_r (by omega)]
          refine x_if_ne 52 h dX7_tallyDifferences_46 (by decide) (fun c46 => ?_) (fun c46 => ?_)
          · have c46 := bI_n.mp c46
            have e2 : (dfT (gC σ (hh 9 0)) hh (σ (54 + 2 * r + 1)) (i + 1)) = dfD (sHours (gC σ (hh 9 0)) hh i) ((σ (54 + 2 * r + 1)) i) (dfT (gC σ (hh 9 0)) hh (σ (54 + 2 * r + 1)) i) (sN hh) := if_neg c46
            refine x_iconst (v := 0) h dX7_tallyDifferences_52 rfl ?_
            refine x_ist3 h dX7_tallyDifferences_53 (by rw [hk]; decide) rfl ?_
            have loopi : ∀ (f d : Nat), sN hh < f + d → d ≤ sN hh → XC B k (TS σ hh stk (dfD (sHours (gC σ (hh 9 0)) hh i) ((σ (54 + 2 * r + 1)) i) (dfT (gC σ (hh 9 0)) hh (σ (54 + 2 * r + 1)) i) d) (sHours (gC σ (hh 9 0)) hh i)) 54 [some (.ref (aB B 30)), some (.ref (aB B (54 + 2 * r))), some (.int (nI i)), some (.int (nI d))] [] := by
              intro f
              induction f with
              | zero => intro d h1 h2; omega
              | succ f ihd =>
                intro d h1 h2
                refine x_ild3 h dX7_tallyDifferences_54 ?_
                refine x_ald0 h dX7_tallyDifferences_55 ?_
                refine r_X7_23 h dX7_tallyDifferences_56 ?_
                refine r2_X7_86 h dX7_tallyDifferences_59 ?_
                change XC B k _ _ _ (.int ((sHours (gC σ (hh 9 0)) hh i) 0 0) :: _)
                refine x_icmp_ge 99 h dX7_tallyDifferences_62 (by decide) (fun c62 => ?_) (fun c62 => ?_)
                · rw [hN1] at c62
                  have c62 := n_le (by omega) (by omega) c62
                  have ed : d = sN hh := by omega
                  subst ed
                  rw [← e2]
                  refine x_loc (Lsb.s (Lsb.s (Lsb.s (Lsb.n Lsb.e)))) ?_
                  exact K99 stk
                · rw [hN1] at c62
                  have c62 := n_nle (by omega) (by omega) c62
                  refine x_ald0 h dX7_tallyDifferences_65 ?_
                  refine r_X7_26 h dX7_tallyDifferences_66 ?_
                  refine x_ild3 h dX7_tallyDifferences_69 ?_
                  refine x_dup2 h dX7_tallyDifferences_70 rfl rfl ?_
                  refine xc_ialdN (d) (rfl) (by omega) (by decide) h 31 (⟨by decide, fun _ _ => rfl⟩ : ArrC 31 12) dX7_tallyDifferences_71 ?_
                  change XC B k _ _ _ (.int ((dfD (sHours (gC σ (hh 9 0)) hh i) ((σ (54 + 2 * r + 1)) i) (dfT (gC σ (hh 9 0)) hh (σ (54 + 2 * r + 1)) i) d) d) :: _)
                  refine x_ald0 h dX7_tallyDifferences_72 ?_
                  refine r_X7_23 h dX7_tallyDifferences_73 ?_
                  refine r2_X7_103 h dX7_tallyDifferences_76 ?_
                  refine x_ild3 h dX7_tallyDifferences_79 ?_
                  refine xc_ialdN (d) (rfl) (by omega) (by decide) h 23 (⟨by decide, fun _ _ => rfl⟩ : ArrC 23 12) dX7_tallyDifferences_80 ?_
                  change XC B k _ _ _ (.int ((sHours (gC σ (hh 9 0)) hh i) 3 (d)) :: _)
                  refine x_ald1 h dX7_tallyDifferences_81 ?_
                  refine r_X7_283 (j := r) hr9 h dX7_tallyDifferences_82 ?_
                  refine x_ild2 h dX7_tallyDifferences_85 ?_
                  refine xc_ialdN (i) (rfl) (by omega) (by decide) h (54 + 2 * r + 1) (arr_r hr9) dX7_tallyDifferences_86 ?_
                  rw [TS_r (by omega)]
                  refine x_isub h dX7_tallyDifferences_87 ?_
                  refine x_abs h ul_X7_324 ⟨Nat.le_of_ble_eq_true rfl, Nat.le_of_ble_eq_true rfl⟩ dX7_tallyDifferences_88 ?_
                  refine x_iadd h dX7_tallyDifferences_91 ?_
                  refine xc_iastN (d) (rfl) (by omega) (by decide) h 31 (⟨by decide, fun _ _ => rfl⟩ : ArrC 31 12) dX7_tallyDifferences_92 ?_
                  rw [TS_t]
                  refine x_inc3 (y := 1) h dX7_tallyDifferences_93 (by rw [hk]; decide) rfl rfl ?_
                  refine x_goto 54 h dX7_tallyDifferences_96 (by decide) ?_
                  rw [nI_1 d]
                  exact ihd (d + 1) (by omega) (by omega)
            exact loopi (sN hh + 1) 0 (by omega) (by omega)
          · have c46 := bI_0.mp c46
            have e2 : (dfT (gC σ (hh 9 0)) hh (σ (54 + 2 * r + 1)) (i + 1)) = (dfT (gC σ (hh 9 0)) hh (σ (54 + 2 * r + 1)) i) := if_pos (Decidable.not_not.mp c46)
            refine x_goto 99 h dX7_tallyDifferences_49 (by decide) ?_
            rw [← e2]
            exact K99 stk
        refine x_ild2 h dX7_tallyDifferences_25 ?_
        refine x_if_le 41 h dX7_tallyDifferences_26 (by decide) (fun c26 => ?_) (fun c26 => ?_)
        · have c26 : i = 0 := by have := n_le (a := i) (b := 0) (by omega) (by decide) c26; omega
          first | exact K41 stk | (rw [show sHours (gC σ (hh 9 0)) hh (i - 1) = (sHours (gC σ (hh 9 0)) hh i) from by rw [c26]]; exact K41 stk)
        · have c26 : 0 < i := Nat.pos_of_ne_zero (fun q => c26 (by rw [q]; exact Int32.le_refl _))
          refine x_ald0 h dX7_tallyDifferences_29 ?_
          refine r_X7_23 h dX7_tallyDifferences_30 ?_
          refine x_ald0 h dX7_tallyDifferences_33 ?_
          refine r_X7_47 h dX7_tallyDifferences_34 ?_
          refine vCI1 (10 * 2) h cs_X7_204 (t_passHour B σ hh _ _ (sHours (gC σ (hh 9 0)) hh (i - 1)) (hi.hours gC_GR (i - 1)) (sHours_9) hT) (obj_h (by decide)) rfl ⟨rfl, rfl⟩ ⟨Nat.le_of_ble_eq_true rfl, Nat.le_of_ble_eq_true rfl⟩ (Nat.le_of_ble_eq_true rfl) dX7_tallyDifferences_37 (fun r37 s37 p37 => ?_)
          obtain ⟨stk, rfl⟩ := p37
          rw [sHours_p c26]
          refine x_pop h dX7_tallyDifferences_40 rfl ?_
          first | exact K41 stk | (rw [show sHours (gC σ (hh 9 0)) hh (i - 1) = (sHours (gC σ (hh 9 0)) hh i) from by rw [c26]]; exact K41 stk)
  exact loop (m + 1) 0 (σ 39) (by omega) (by omega)
/-- a row's size, whether it is one -/
def aWhose (g : WT) (σ : Nat → Nat → Int32) (hh : HT) (x w : Int32) : Int32 := if (¬ x < 0 ∧ ¬ 4 ≤ x) ∧ is2 w = true then (if σ (54 + 2 * ix x) 0 = -1 then -1000000011 else if hh 0 0 = 0 then -1000000005 else
  if w = 0 then nI (bsm (dfT g hh (σ (54 + 2 * ix x + 1)) (ix (σ (54 + 2 * ix x) 1))) (sN hh - 1)) else dfT g hh (σ (54 + 2 * ix x + 1)) (ix (σ (54 + 2 * ix x) 1)) (bsm (dfT g hh (σ (54 + 2 * ix x + 1)) (ix (σ (54 + 2 * ix x) 1))) (sN hh - 1))) else -1000000001
theorem sH0_r {σ : Nat → Nat → Int32} {hh : HT} {q : Nat} (hq : 30 ≤ q) : sH σ 0 hh q = σ q := sH_o (by decide) hq
/-- a row's size -/
def RS (σ : Nat → Nat → Int32) (r : Nat) : Prop := ∃ m, m ≤ 24 ∧ σ (54 + 2 * r) 1 = nI m
set_option maxRecDepth 100000 in
set_option maxHeartbeats 4000000 in
theorem c_X7_whose (B : BT) (σ : Nat → Nat → Int32) (hh : HT) (hi : HI hh) (hT : CT σ (hh 9 0)) (hRS : ∀ t, t < 4 → RS σ t) (x w : Int32) : CI B yX7_whose cX7_whose 6 (some .int) ({ frames := 7, cells := 0, slots := 0, locals := 201 }) [.ref (aB B 30), .int x, .int w] (sH σ 0 hh) (fun r σ' => r = aWhose (gC σ (hh 9 0)) σ hh x w ∧ ∃ σ2, Jk σ σ2 ∧ σ' = sH σ2 0 hh) := by
  refine MX.of2 RX7 (by decide) rfl ⟨rfl, rfl⟩ (Nat.le_of_ble_eq_true rfl) (by rfl) (fun k h hr hk => ?_)
  show XC B k (sH σ 0 hh) 0 [some (.ref (aB B 30)), some (.int x), some (.int w), none, none, none] []
  refine x_ald0 h dX7_whose_0 ?_
  refine x_ild1 h dX7_whose_1 ?_
  refine vCR1 30 h cs_X7_222 (c_X7_sheetOf B _ _) (⟨by decide, fun _ _ => rfl⟩ : ObjC 30 6) rfl ⟨rfl, rfl⟩ ⟨Nat.le_of_ble_eq_true rfl, Nat.le_of_ble_eq_true rfl⟩ (Nat.le_of_ble_eq_true rfl) dX7_whose_2 (fun r2 s2 p2 => ?_)
  obtain ⟨rfl, ⟨t2, ht2, rfl, rfl⟩ | ⟨hx2, rfl⟩⟩ := p2
  · refine x_ast3 h dX7_whose_5 (by rw [hk]; decide) rfl ?_
    refine x_ald3 h dX7_whose_6 ?_
    refine x_ifnull_r h dX7_whose_7 ?_
    have et2 : ix (nI t2) = t2 := ix_n (by omega)
    have hx2 : ¬ nI t2 < 0 ∧ ¬ 4 ≤ nI t2 := ⟨nI_n0 t2 (by omega), fun z => by have := n_le (a := 4) (b := t2) (by decide) (by omega) z; omega⟩
    refine x_ild2 h dX7_whose_10 ?_
    refine sCI1 h cs_X7_212 (c_X7_isOneOfTwo B _ _) ⟨rfl, rfl⟩ ⟨Nat.le_of_ble_eq_true rfl, Nat.le_of_ble_eq_true rfl⟩ (Nat.le_of_ble_eq_true rfl) dX7_whose_11 (fun r11 s11 p11 => ?_)
    obtain ⟨rfl, rfl⟩ := p11
    rw [b2]
    refine x_if_ne 20 h dX7_whose_14 (by decide) (fun c14 => ?_) (fun c14 => ?_)
    · have c14 := bI_n.mp c14
      refine x_ald3 h dX7_whose_20 ?_
      refine vCI0 (54 + 2 * t2) h cs_X7_226 (c_X4_isMissing B (Nat.lt_trans ht2 (by decide)) _) (obj_r (Nat.lt_trans ht2 (by decide))) rfl ⟨rfl, rfl⟩ ⟨Nat.le_of_ble_eq_true rfl, Nat.le_of_ble_eq_true rfl⟩ (Nat.le_of_ble_eq_true rfl) dX7_whose_21 (fun r21 s21 p21 => ?_)
      obtain ⟨rfl, rfl⟩ := p21
      rw [sH0_r (by omega)]
      refine x_if_eq 30 h dX7_whose_24 (by decide) (fun c24 => ?_) (fun c24 => ?_)
      · have c24 := bI_0.mp c24
        refine x_ald0 h dX7_whose_30 ?_
        refine r_X7_10 h dX7_whose_31 ?_
        refine r0_X7_86 h dX7_whose_34 ?_
        change XC B k _ _ _ (.int (hh 0 0) :: _)
        refine x_if_ne 43 h dX7_whose_37 (by decide) (fun c37 => ?_) (fun c37 => ?_)
        · obtain ⟨m, hm24, hm⟩ := hRS t2 ht2
          have hn := hi.n
          have hN0 : 1 ≤ sN hh := Nat.pos_of_ne_zero (fun q => c37 (by rw [hn.2, q]; rfl))
          have e0 : aWhose (gC σ (hh 9 0)) σ hh (nI t2) w = (if w = 0 then nI (bsm (dfT (gC σ (hh 9 0)) hh (σ (54 + 2 * t2 + 1)) m) (sN hh - 1)) else (dfT (gC σ (hh 9 0)) hh (σ (54 + 2 * t2 + 1)) m) (bsm (dfT (gC σ (hh 9 0)) hh (σ (54 + 2 * t2 + 1)) m) (sN hh - 1))) := by
            rw [show aWhose (gC σ (hh 9 0)) σ hh (nI t2) w = _ from if_pos ⟨hx2, c14⟩, et2, hm, ix_n (by omega), if_neg c24, if_neg c37]
          refine x_ald0 h dX7_whose_43 ?_
          refine x_ald3 h dX7_whose_44 ?_
          refine vCV1 30 h cs_X7_231 (c_X7_tallyDifferences B σ hh hi hT t2 m (by omega) hm hm24) (⟨by decide, fun _ _ => rfl⟩ : ObjC 30 6) rfl ⟨rfl, rfl⟩ ⟨Nat.le_of_ble_eq_true rfl, Nat.le_of_ble_eq_true rfl⟩ (Nat.le_of_ble_eq_true rfl) dX7_whose_45 (fun s45 p45 => ?_)
          obtain ⟨stk, th, rfl⟩ := p45
          refine x_iconst (v := 0) h dX7_whose_48 rfl ?_
          refine x_ist4 h dX7_whose_49 (by rw [hk]; decide) rfl ?_
          refine x_iconst (v := 1) h dX7_whose_51 rfl ?_
          refine x_ist5 h dX7_whose_52 (by rw [hk]; decide) rfl ?_
          have loop : ∀ (f r : Nat), sN hh < f + r + 1 → r + 1 ≤ sN hh → XC B k (TS σ hh stk (dfT (gC σ (hh 9 0)) hh (σ (54 + 2 * t2 + 1)) m) th) 54 [some (.ref (aB B 30)), some (.int (nI t2)), some (.int w), some (.ref (aB B (54 + 2 * t2))), some (.int (nI (bsm (dfT (gC σ (hh 9 0)) hh (σ (54 + 2 * t2 + 1)) m) r))), some (.int (nI (r + 1)))] [] := by
            intro f
            induction f with
            | zero => intro r h1 h2; omega
            | succ f ih =>
              intro r h1 h2
              refine x_ild5 h dX7_whose_54 ?_
              refine x_ald0 h dX7_whose_56 ?_
              refine r_X7_10 h dX7_whose_57 ?_
              refine r0_X7_86 h dX7_whose_60 ?_
              change XC B k _ _ _ (.int (hh 0 0) :: _)
              refine x_icmp_ge 93 h dX7_whose_63 (by decide) (fun c63 => ?_) (fun c63 => ?_)
              · rw [hn.2] at c63
                have c63 := n_le (by omega) (by omega) c63
                have er : r = sN hh - 1 := by omega
                subst er
                refine x_ild2 h dX7_whose_93 ?_
                refine x_if_ne 102 h dX7_whose_94 (by decide) (fun c94 => ?_) (fun c94 => ?_)
                · have hbl := bsm_le (tl := (dfT (gC σ (hh 9 0)) hh (σ (54 + 2 * t2 + 1)) m)) (sN hh - 1)
                  refine x_ald0 h dX7_whose_102 ?_
                  refine r_X7_26 h dX7_whose_103 ?_
                  refine x_ild4 h dX7_whose_106 ?_
                  refine xc_ialdN (bsm (dfT (gC σ (hh 9 0)) hh (σ (54 + 2 * t2 + 1)) m) (sN hh - 1)) (rfl) (by omega) (by decide) h 31 (⟨by decide, fun _ _ => rfl⟩ : ArrC 31 12) dX7_whose_108 ?_
                  change XC B k _ _ _ (.int ((dfT (gC σ (hh 9 0)) hh (σ (54 + 2 * t2 + 1)) m) (bsm (dfT (gC σ (hh 9 0)) hh (σ (54 + 2 * t2 + 1)) m) (sN hh - 1))) :: _)
                  refine x_iret h hr ?_ dX7_whose_109
                  obtain ⟨σ2, j2, e22⟩ : ∃ σ2, Jk σ σ2 ∧ TS σ hh _ _ _ = sH σ2 0 hh := TS_J
                  exact ⟨_, _, rfl, rfl, by rw [e0]; first | exact (if_pos c94).symm | exact (if_neg c94).symm, σ2, j2, e22⟩
                · refine x_ild4 h dX7_whose_97 ?_
                  refine x_goto 109 h dX7_whose_99 (by decide) ?_
                  refine x_iret h hr ?_ dX7_whose_109
                  obtain ⟨σ2, j2, e22⟩ : ∃ σ2, Jk σ σ2 ∧ TS σ hh _ _ _ = sH σ2 0 hh := TS_J
                  exact ⟨_, _, rfl, rfl, by rw [e0]; first | exact (if_pos c94).symm | exact (if_neg c94).symm, σ2, j2, e22⟩
              · rw [hn.2] at c63
                have c63 := n_nle (by omega) (by omega) c63
                have hbl := bsm_le (tl := (dfT (gC σ (hh 9 0)) hh (σ (54 + 2 * t2 + 1)) m)) r
                refine x_ald0 h dX7_whose_66 ?_
                refine r_X7_26 h dX7_whose_67 ?_
                refine x_ild5 h dX7_whose_70 ?_
                refine xc_ialdN (r + 1) (rfl) (by omega) (by decide) h 31 (⟨by decide, fun _ _ => rfl⟩ : ArrC 31 12) dX7_whose_72 ?_
                change XC B k _ _ _ (.int ((dfT (gC σ (hh 9 0)) hh (σ (54 + 2 * t2 + 1)) m) (r + 1)) :: _)
                refine x_ald0 h dX7_whose_73 ?_
                refine r_X7_26 h dX7_whose_74 ?_
                refine x_ild4 h dX7_whose_77 ?_
                refine xc_ialdN (bsm (dfT (gC σ (hh 9 0)) hh (σ (54 + 2 * t2 + 1)) m) r) (rfl) (by omega) (by decide) h 31 (⟨by decide, fun _ _ => rfl⟩ : ArrC 31 12) dX7_whose_79 ?_
                change XC B k _ _ _ (.int ((dfT (gC σ (hh 9 0)) hh (σ (54 + 2 * t2 + 1)) m) (bsm (dfT (gC σ (hh 9 0)) hh (σ (54 + 2 * t2 + 1)) m) r)) :: _)
                refine x_icmp_ge 87 h dX7_whose_80 (by decide) (fun c80 => ?_) (fun c80 => ?_)
                · have e2 : bsm (dfT (gC σ (hh 9 0)) hh (σ (54 + 2 * t2 + 1)) m) (r + 1) = bsm (dfT (gC σ (hh 9 0)) hh (σ (54 + 2 * t2 + 1)) m) r := if_neg (Int32.not_lt.mpr c80)
                  refine x_inc5 (y := 1) h dX7_whose_87 (by rw [hk]; decide) rfl rfl ?_
                  refine x_goto 54 h dX7_whose_90 (by decide) ?_
                  rw [nI_1 (r + 1)]
                  have ih := ih (r + 1) (by omega) (by omega)
                  rw [e2] at ih
                  exact ih
                · have e2 : bsm (dfT (gC σ (hh 9 0)) hh (σ (54 + 2 * t2 + 1)) m) (r + 1) = r + 1 := if_pos (Int32.not_le.mp c80)
                  refine x_ild5 h dX7_whose_83 ?_
                  refine x_ist4 h dX7_whose_85 (by rw [hk]; decide) rfl ?_
                  refine x_inc5 (y := 1) h dX7_whose_87 (by rw [hk]; decide) rfl rfl ?_
                  refine x_goto 54 h dX7_whose_90 (by decide) ?_
                  rw [nI_1 (r + 1)]
                  have ih := ih (r + 1) (by omega) (by omega)
                  rw [e2] at ih
                  exact ih
          exact loop (sN hh + 1) 0 (by omega) (by omega)
        · refine x_ldc h kc_X7_208 dX7_whose_40 ?_
          refine x_iret h hr ?_ dX7_whose_42
          exact ⟨_, _, rfl, rfl, by simp_all [-Int32.not_lt, -Int32.not_le, aWhose], σ, Jk.rf, rfl⟩
      · have c24 := bI_n.mp c24
        refine x_ldc h kc_X7_230 dX7_whose_27 ?_
        refine x_iret h hr ?_ dX7_whose_29
        exact ⟨_, _, rfl, rfl, by simp_all [-Int32.not_lt, -Int32.not_le, aWhose], σ, Jk.rf, rfl⟩
    · have c14 := bI_0.mp c14
      refine x_ldc h kc_X7_85 dX7_whose_17 ?_
      refine x_iret h hr ?_ dX7_whose_19
      exact ⟨_, _, rfl, rfl, by simp_all [-Int32.not_lt, -Int32.not_le, aWhose], σ, Jk.rf, rfl⟩
  · refine x_asn3 h dX7_whose_5 (by rw [hk]; decide) rfl ?_
    refine x_aln3 h dX7_whose_6 ?_
    refine x_ifnull_n 17 h dX7_whose_7 (by decide) ?_
    refine x_ldc h kc_X7_85 dX7_whose_17 ?_
    refine x_iret h hr ?_ dX7_whose_19
    exact ⟨_, _, rfl, rfl, by simp_all [-Int32.not_lt, -Int32.not_le, aWhose], σ, Jk.rf, rfl⟩
theorem TxOK_0 {σ : Nat → Nat → Int32} {hh : HT} {t : Nat} (h : TxOK σ t) : TxOK (sH σ 0 hh) t := (TxOK_sH (by decide)).mpr h
set_option maxRecDepth 100000 in
set_option maxHeartbeats 4000000 in
theorem c_X7_fee (B : BT) (σ : Nat → Nat → Int32) (hh : HT) (hT : CT σ (hh 9 1)) : CI B yX7_fee cX7_fee 2 (some .int) ({ frames := 2, cells := 0, slots := 0, locals := 51 }) [.ref (aB B 30)] (sH σ 0 hh) (fun r σ' => r = aFee σ hh ∧ ∃ σ2, Jk σ σ2 ∧ σ' = sH σ2 0 hh) := by
  refine MX.of2 RX7 (by decide) rfl ⟨rfl, rfl⟩ (Nat.le_of_ble_eq_true rfl) (by rfl) (fun k h hr hk => ?_)
  show XC B k (sH σ 0 hh) 0 [some (.ref (aB B 30)), none] []
  refine x_ald0 h dX7_fee_0 ?_
  refine r_X7_10 h dX7_fee_1 ?_
  refine r0_X7_235 h dX7_fee_4 ?_
  refine x_iconst (v := 1) h dX7_fee_7 rfl ?_
  refine xc_ialdN (1) (rfl) (by decide) (by decide) h 9 (⟨by decide, fun _ _ => rfl⟩ : ArrC 9 3) dX7_fee_8 ?_
  change XC B k _ _ _ (.int (hh 9 (1)) :: _)
  refine x_ist1 h dX7_fee_9 (by rw [hk]; decide) rfl ?_
  refine x_ild1 h dX7_fee_10 ?_
  refine x_if_ge 24 h dX7_fee_11 (by decide) (fun c11 => ?_) (fun c11 => ?_)
  · obtain ⟨t, et, ht⟩ := hT c11
    have c11 := Int32.not_lt.mpr c11
    have ht14 := ht.1
    rw [et]
    refine x_ald0 h dX7_fee_24 ?_
    refine r_X7_47 h dX7_fee_25 ?_
    refine x_ild1 h dX7_fee_28 ?_
    refine x_iconst (v := 0) h dX7_fee_29 rfl ?_
    refine x_ald0 h dX7_fee_30 ?_
    refine r_X7_10 h dX7_fee_31 ?_
    refine r0_X7_177 h dX7_fee_34 ?_
    change XC B k _ _ _ (.int (hh 0 10) :: _)
    refine x_ald0 h dX7_fee_37 ?_
    refine r_X7_10 h dX7_fee_38 ?_
    refine r0_X7_180 h dX7_fee_41 ?_
    change XC B k _ _ _ (.int (hh 0 11) :: _)
    refine vCI4 78 h cs_X7_238 (c_X2_gives B _ _ _ _ _ (TxOK_0 ht)) (⟨by decide, fun _ _ => rfl⟩ : ObjC 78 1) rfl ⟨rfl, rfl⟩ ⟨Nat.le_of_ble_eq_true rfl, Nat.le_of_ble_eq_true rfl⟩ (Nat.le_of_ble_eq_true rfl) dX7_fee_44 (fun r44 s44 p44 => ?_)
    obtain ⟨rfl, stk, rfl⟩ := p44
    rw [sH_up1o (by omega), TxV_sH (by decide)]
    refine x_iret h hr ?_ dX7_fee_47
    first | exact ⟨_, _, rfl, rfl, (if_pos c11).symm, σ, Jk.rf, rfl⟩ | exact ⟨_, _, rfl, rfl, (by unfold aFee; rw [if_neg c11, et, ix_n (by omega)]), _, Jk.stk, rfl⟩
  · have c11 : hh 9 1 < 0 := Int32.not_le.mp c11
    refine x_ald0 h dX7_fee_14 ?_
    refine r_X7_10 h dX7_fee_15 ?_
    refine r0_X7_177 h dX7_fee_18 ?_
    change XC B k _ _ _ (.int (hh 0 10) :: _)
    refine x_goto 47 h dX7_fee_21 (by decide) ?_
    refine x_iret h hr ?_ dX7_fee_47
    first | exact ⟨_, _, rfl, rfl, (if_pos c11).symm, σ, Jk.rf, rfl⟩ | exact ⟨_, _, rfl, rfl, (by unfold aFee; rw [if_neg c11, et, ix_n (by omega)]), _, Jk.stk, rfl⟩
set_option maxRecDepth 100000 in
set_option maxHeartbeats 4000000 in
theorem c_X7_fine (B : BT) (σ : Nat → Nat → Int32) (hh : HT) (hi : HI hh) (hT : CT σ (hh 9 2)) (x : Int32) : CI B yX7_fine cX7_fine 3 (some .int) ({ frames := 2, cells := 0, slots := 0, locals := 51 }) [.ref (aB B 30), .int x] (sH σ 0 hh) (fun r σ' => r = aFine σ hh x ∧ ∃ σ2, Jk σ σ2 ∧ σ' = sH σ2 0 hh) := by
  refine MX.of2 RX7 (by decide) rfl ⟨rfl, rfl⟩ (Nat.le_of_ble_eq_true rfl) (by rfl) (fun k h hr hk => ?_)
  show XC B k (sH σ 0 hh) 0 [some (.ref (aB B 30)), some (.int x), none] []
  refine x_ald0 h dX7_fine_0 ?_
  refine x_ild1 h dX7_fine_1 ?_
  refine vCI1 30 h cs_X7_94 (c_X7_isDancer B _ _) (⟨by decide, fun _ _ => rfl⟩ : ObjC 30 6) rfl ⟨rfl, rfl⟩ ⟨Nat.le_of_ble_eq_true rfl, Nat.le_of_ble_eq_true rfl⟩ (Nat.le_of_ble_eq_true rfl) dX7_fine_2 (fun r2 s2 p2 => ?_)
  obtain ⟨rfl, rfl⟩ := p2
  rw [bD]
  refine x_if_ne 11 h dX7_fine_5 (by decide) (fun c5 => ?_) (fun c5 => ?_)
  · have c5 := bI_n.mp c5
    obtain ⟨d, hd, rfl⟩ := isD_of c5 hi
    have hd12 := hi.n.1
    have ed : ix (nI d) = d := ix_n (by omega)
    refine x_ald0 h dX7_fine_11 ?_
    refine r_X7_10 h dX7_fine_12 ?_
    refine r0_X7_235 h dX7_fine_15 ?_
    refine x_iconst (v := 2) h dX7_fine_18 rfl ?_
    refine xc_ialdN (2) (rfl) (by decide) (by decide) h 9 (⟨by decide, fun _ _ => rfl⟩ : ArrC 9 3) dX7_fine_19 ?_
    change XC B k _ _ _ (.int (hh 9 (2)) :: _)
    refine x_ist2 h dX7_fine_20 (by rw [hk]; decide) rfl ?_
    refine x_ild2 h dX7_fine_21 ?_
    refine x_if_ge 37 h dX7_fine_22 (by decide) (fun c22 => ?_) (fun c22 => ?_)
    · obtain ⟨t, et, ht⟩ := hT c22
      have c22 := Int32.not_lt.mpr c22
      have ht14 := ht.1
      rw [et]
      refine x_ald0 h dX7_fine_37 ?_
      refine r_X7_47 h dX7_fine_38 ?_
      refine x_ild2 h dX7_fine_41 ?_
      refine x_iconst (v := 0) h dX7_fine_42 rfl ?_
      refine x_ald0 h dX7_fine_43 ?_
      refine r_X7_10 h dX7_fine_44 ?_
      refine r0_X7_103 h dX7_fine_47 ?_
      refine x_ild1 h dX7_fine_50 ?_
      refine xc_ialdN (d) (rfl) (by omega) (by decide) h 3 (⟨by decide, fun _ _ => rfl⟩ : ArrC 3 12) dX7_fine_51 ?_
      change XC B k _ _ _ (.int (hh 3 (d)) :: _)
      refine x_ald0 h dX7_fine_52 ?_
      refine r_X7_10 h dX7_fine_53 ?_
      refine r0_X7_109 h dX7_fine_56 ?_
      refine x_ild1 h dX7_fine_59 ?_
      refine xc_ialdN (d) (rfl) (by omega) (by decide) h 5 (⟨by decide, fun _ _ => rfl⟩ : ArrC 5 12) dX7_fine_60 ?_
      change XC B k _ _ _ (.int (hh 5 (d)) :: _)
      refine vCI4 78 h cs_X7_238 (c_X2_gives B _ _ _ _ _ (TxOK_0 ht)) (⟨by decide, fun _ _ => rfl⟩ : ObjC 78 1) rfl ⟨rfl, rfl⟩ ⟨Nat.le_of_ble_eq_true rfl, Nat.le_of_ble_eq_true rfl⟩ (Nat.le_of_ble_eq_true rfl) dX7_fine_61 (fun r61 s61 p61 => ?_)
      obtain ⟨rfl, stk, rfl⟩ := p61
      rw [sH_up1o (by omega), TxV_sH (by decide)]
      refine x_iret h hr ?_ dX7_fine_64
      first | exact ⟨_, _, rfl, rfl, (by unfold aFine; rw [if_pos c5, if_pos c22, ed]), σ, Jk.rf, rfl⟩ | exact ⟨_, _, rfl, rfl, (by unfold aFine; rw [if_pos c5, if_neg c22, et, ix_n (n := t) (by omega), ed]), _, Jk.stk, rfl⟩
    · have c22 : hh 9 2 < 0 := Int32.not_le.mp c22
      refine x_ald0 h dX7_fine_25 ?_
      refine r_X7_10 h dX7_fine_26 ?_
      refine r0_X7_109 h dX7_fine_29 ?_
      refine x_ild1 h dX7_fine_32 ?_
      refine xc_ialdN (d) (rfl) (by omega) (by decide) h 5 (⟨by decide, fun _ _ => rfl⟩ : ArrC 5 12) dX7_fine_33 ?_
      change XC B k _ _ _ (.int (hh 5 (d)) :: _)
      refine x_goto 64 h dX7_fine_34 (by decide) ?_
      refine x_iret h hr ?_ dX7_fine_64
      first | exact ⟨_, _, rfl, rfl, (by unfold aFine; rw [if_pos c5, if_pos c22, ed]), σ, Jk.rf, rfl⟩ | exact ⟨_, _, rfl, rfl, (by unfold aFine; rw [if_pos c5, if_neg c22, et, ix_n (n := t) (by omega), ed]), _, Jk.stk, rfl⟩
  · have c5 := bI_0.mp c5
    refine x_ldc h kc_X7_85 dX7_fine_8 ?_
    refine x_iret h hr ?_ dX7_fine_10
    exact ⟨_, _, rfl, rfl, by simp_all [-Int32.not_lt, -Int32.not_le, aFine], σ, Jk.rf, rfl⟩
