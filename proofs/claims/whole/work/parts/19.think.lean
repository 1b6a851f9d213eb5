/-! what is thought -/
theorem MX.mono {G : GT} {y : MethodName} {cc : ByteArray} {nL : Nat} {ret : Option FieldType} {rm : Room} {av : List Value} {ce : Nat → va_E} {P Q : Option Value → (Nat → va_E) → Prop} (h : MX G y cc nL ret rm av ce P) (hPQ : ∀ v ce', P v ce' → Q v ce') : MX G y cc nL ret rm av ce Q := by
  intro sz p e ha hc hcl s m args below hf hs hP hK
  obtain ⟨n, o, h1, h2, h3, ⟨hq, L⟩⟩ := h sz p e ha hc hcl s m args below hf hs hP hK
  refine ⟨n, o, h1, h2, h3, ⟨?_, L⟩⟩
  obtain ⟨⟨v, ce', e1, e2, e3⟩, e4⟩ := hq
  exact ⟨⟨v, ce', e1, hPQ _ _ e2, e3⟩, e4⟩
theorem CI.mono {B : BT} {y : MethodName} {cc : ByteArray} {nL : Nat} {ret : Option FieldType} {rm : Room} {av : List Value} {σ : Nat → Nat → Int32} {P Q : Int32 → (Nat → Nat → Int32) → Prop} (h : CI B y cc nL ret rm av σ P) (hPQ : ∀ r σ', P r σ' → Q r σ') : CI B y cc nL ret rm av σ Q := MX.mono h (fun v ce' ⟨r, σ', e1, e2, e3⟩ => ⟨r, σ', e1, e2, hPQ _ _ e3⟩)
theorem CV.mono {B : BT} {y : MethodName} {cc : ByteArray} {nL : Nat} {ret : Option FieldType} {rm : Room} {av : List Value} {σ : Nat → Nat → Int32} {P Q : (Nat → Nat → Int32) → Prop} (h : CV B y cc nL ret rm av σ P) (hPQ : ∀ σ', P σ' → Q σ') : CV B y cc nL ret rm av σ Q := MX.mono h (fun v ce' ⟨σ', e1, e2, e3⟩ => ⟨σ', e1, e2, hPQ _ e3⟩)
theorem CR.mono {B : BT} {y : MethodName} {cc : ByteArray} {nL : Nat} {ret : Option FieldType} {rm : Room} {av : List Value} {σ : Nat → Nat → Int32} {P Q : Value → (Nat → Nat → Int32) → Prop} (h : CR B y cc nL ret rm av σ P) (hPQ : ∀ r σ', P r σ' → Q r σ') : CR B y cc nL ret rm av σ Q := MX.mono h (fun v ce' ⟨r, σ', e1, e2, e3⟩ => ⟨r, σ', e1, e2, hPQ _ _ e3⟩)
/-- now, the machine's stack, the tally, what is thought -/
def TS (σ : Nat → Nat → Int32) (hh : HT) (stk tl : Nat → Int32) (th : HT) : Nat → Nat → Int32 := sH (sH (up1 (up1 σ 39 stk) 31 tl) 0 hh) 2 th
theorem TS_0 {σ : Nat → Nat → Int32} {hh : HT} : sH σ 0 hh = TS σ hh (σ 39) (σ 31) (hs σ 2) := by
  funext q
  unfold TS sH hs up1
  by_cases h1 : q < 10
  · rw [if_pos (by omega), if_neg (by omega), if_pos (by omega)]
  · rw [if_neg (by omega)]
    by_cases h2 : 20 ≤ q ∧ q < 30
    · rw [if_pos (by omega), show 10 * 2 + (q - 10 * 2) = q by omega]
    · rw [if_neg (by omega), if_neg (by omega)]
      by_cases h3 : q = 31
      · rw [if_pos h3, h3]
      · rw [if_neg h3]
        by_cases h4 : q = 39
        · rw [if_pos h4, h4]
        · rw [if_neg h4]
theorem TS_J {σ : Nat → Nat → Int32} {hh : HT} {stk tl : Nat → Int32} {th : HT} : ∃ σ2, Jk σ σ2 ∧ TS σ hh stk tl th = sH σ2 0 hh := by
  refine ⟨sH (up1 (up1 σ 39 stk) 31 tl) 2 th, fun q hq => ?_, ?_⟩
  · unfold sH up1
    rw [if_neg (by omega), if_neg (by omega), if_neg (by omega)]
  · funext q
    unfold TS sH
    by_cases h1 : 10 * 0 ≤ q ∧ q < 10 * 0 + 10
    · rw [if_neg (by omega), if_pos h1]
      exact (if_pos h1).symm
    · rw [if_neg h1]
      exact (if_neg h1).symm
theorem TS_up {σ : Nat → Nat → Int32} {hh : HT} {stk tl : Nat → Int32} {th : HT} {f i : Nat} {x : Int32} (hf : f < 10) : up2 (TS σ hh stk tl th) (10 * 2 + f) i x = TS σ hh stk tl (up2 th f i x) := sH_up hf
theorem TS_tl {σ : Nat → Nat → Int32} {hh : HT} {stk tl tl' : Nat → Int32} {th : HT} : up1 (TS σ hh stk tl th) 31 tl' = TS σ hh stk tl' th := by
  unfold TS
  rw [sH_up1o (by omega), sH_up1o (by omega), up1_up1]
theorem TS_t {σ : Nat → Nat → Int32} {hh : HT} {stk tl : Nat → Int32} {th : HT} {i : Nat} {x : Int32} : up2 (TS σ hh stk tl th) 31 i x = TS σ hh stk (upd tl i x) th := TS_tl (tl' := upd tl i x)
theorem TS_s {σ : Nat → Nat → Int32} {hh : HT} {stk stk' tl : Nat → Int32} {th' : HT} : sH (up1 (sH (up1 (up1 σ 39 stk) 31 tl) 0 hh) 39 stk') 2 th' = TS σ hh stk' tl th' := by
  unfold TS
  rw [sH_up1o (by omega), up1_comm (p := 31) (q := 39) (by decide), up1_up1]
theorem TS_CT {σ : Nat → Nat → Int32} {hh : HT} {stk tl : Nat → Int32} {ct : Int32} (h : CT σ ct) : CT (sH (up1 (up1 σ 39 stk) 31 tl) 0 hh) ct := fun q => by
  obtain ⟨t, h1, h2, n, h3, h4⟩ := h q
  refine ⟨t, h1, h2, n, ?_, ?_⟩
  · rw [sH_o (by decide) (by omega), up1_n (by omega), up1_n (by omega)]
    exact h3
  · rw [sH_o (by decide) (by omega), up1_n (by omega), up1_n (by omega)]
    exact h4
theorem TS_gC {σ : Nat → Nat → Int32} {hh : HT} {stk tl : Nat → Int32} {ct : Int32} (h : CT σ ct) : gC (sH (up1 (up1 σ 39 stk) 31 tl) 0 hh) ct = gC σ ct := by
  funext a b e
  unfold gC
  by_cases q : 0 ≤ ct
  · obtain ⟨t, h1, h2⟩ := h q
    have ht : t < 14 := h2.1
    rw [if_pos q, if_pos q, h1, ix_n (by omega)]
    unfold TxV
    rw [sH_o (by decide) (by omega), sH_o (by decide) (by omega), up1_n (by omega), up1_n (by omega), up1_n (by omega), up1_n (by omega)]
  · rw [if_neg q, if_neg q]
theorem sH_ext {σ : Nat → Nat → Int32} {j : Nat} {h h' : HT} (e : ∀ f, f < 10 → h f = h' f) : sH σ j h = sH σ j h' := by
  funext q
  unfold sH
  by_cases hq : 10 * j ≤ q ∧ q < 10 * j + 10
  · rw [if_pos hq, if_pos hq, e _ (by omega)]
  · rw [if_neg hq, if_neg hq]
section T19
variable (B : BT) (σ : Nat → Nat → Int32) (hh : HT) (stk tl : Nat → Int32) (th : HT)
theorem t_become : CV B yX0_become cX0_become 2 none ({ frames := 2, cells := 0, slots := 0, locals := 105 }) [.ref (aB B (10 * 2)), .ref (aB B (10 * 0))] (TS σ hh stk tl th) (fun σ' => σ' = TS σ hh stk tl hh) :=
  (c_X0_become B (j := 2) (by decide) (i := 0) (by decide) (by decide) (sH (up1 (up1 σ 39 stk) 31 tl) 0 hh) th).mono (fun σ' e => by
    rw [e]
    exact sH_ext (fun f hf => sH_at (j := 0) hf))
theorem t_passHour (hi : HI th) (h9 : th 9 = hh 9) (hT : CT σ (hh 9 0)) : CI B yX0_passHour cX0_passHour 4 (some .int) ({ frames := 5, cells := 0, slots := 0, locals := 155 }) [.ref (aB B (10 * 2)), .ref (aB B 78)] (TS σ hh stk tl th) (fun r σ' => ∃ stk', σ' = TS σ hh stk' tl (sHour (gC σ (hh 9 0)) th)) :=
  (c_X0_passHour B (j := 2) (by decide) (sH (up1 (up1 σ 39 stk) 31 tl) 0 hh) th hi (by rw [h9]; exact TS_CT hT)).mono (fun r σ' e => by
    obtain ⟨-, s, e⟩ := e
    rw [h9, TS_gC hT, TS_s] at e
    exact ⟨s, e⟩)
theorem t_passHours (hi : HI th) (h9 : th 9 = hh 9) (hT : CT σ (hh 9 0)) (n : Nat) (hn : n < 2 ^ 30) : CI B yX0_passHours cX0_passHours 5 (some .int) ({ frames := 6, cells := 0, slots := 0, locals := 178 }) [.ref (aB B (10 * 2)), .int (nI n), .ref (aB B 78)] (TS σ hh stk tl th) (fun r σ' => ∃ stk', σ' = TS σ hh stk' tl (sHours (gC σ (hh 9 0)) th n)) :=
  (c_X0_passHours B (j := 2) (by decide) (sH (up1 (up1 σ 39 stk) 31 tl) 0 hh) th hi (by rw [h9]; exact TS_CT hT) n hn).mono (fun r σ' e => by
    obtain ⟨-, s, e⟩ := e
    rw [h9, TS_gC hT, TS_s] at e
    exact ⟨s, e⟩)
theorem t_walk (hi : HI th) (h9 : th 9 = hh 9) (hT : CT σ (hh 9 0)) (d : Nat) (hd : d < 12) : CI B yX0_walk cX0_walk 5 (some .int) ({ frames := 4, cells := 0, slots := 0, locals := 131 }) [.ref (aB B (10 * 2)), .int (nI d), .ref (aB B 78)] (TS σ hh stk tl th) (fun r σ' => ∃ stk', σ' = TS σ hh stk' tl (sWalk (gC σ (hh 9 0)) th d)) :=
  (c_X0_walk B (j := 2) (by decide) (sH (up1 (up1 σ 39 stk) 31 tl) 0 hh) th hi (by rw [h9]; exact TS_CT hT) d hd).mono (fun r σ' e => by
    obtain ⟨-, s, e⟩ := e
    rw [h9, TS_gC hT, TS_s] at e
    exact ⟨s, e⟩)
theorem t_barefoot (hi : HI th) : CI B yX0_barefoot cX0_barefoot 3 (some .int) ({ frames := 0, cells := 0, slots := 0, locals := 0 }) [.ref (aB B (10 * 2))] (TS σ hh stk tl th) (fun r σ' => r = sBare th ∧ σ' = TS σ hh stk tl th) := c_X0_barefoot B (j := 2) (by decide) _ th hi
theorem t_allMarks : CI B yX0_allMarks cX0_allMarks 3 (some .int) ({ frames := 0, cells := 0, slots := 0, locals := 0 }) [.ref (aB B (10 * 2))] (TS σ hh stk tl th) (fun r σ' => r = sMarks th ∧ σ' = TS σ hh stk tl th) := c_X0_allMarks B (j := 2) (by decide) _ th
theorem t_allSoles (hi : HI th) : CI B yX0_allSoles cX0_allSoles 3 (some .int) ({ frames := 0, cells := 0, slots := 0, locals := 0 }) [.ref (aB B (10 * 2))] (TS σ hh stk tl th) (fun r σ' => r = sSum th 3 ∧ σ' = TS σ hh stk tl th) := c_X0_allSoles B (j := 2) (by decide) _ th hi
end T19
def isW (hh : HT) (w : Int32) : Bool := decide (¬ w < 0) && (decide (w ≤ 2) || isD hh (w - 3))
def aBehind (g : WT) (hh : HT) (n w : Int32) : Int32 := if (¬ n < 0 ∧ ¬ 100 < n) ∧ isW hh w = true then (if w = 0 then sHours g hh (ix n) 0 10 else if w = 1 then sMarks (sHours g hh (ix n)) else if w = 2 then sBare (sHours g hh (ix n)) else sHours g hh (ix n) 2 (ix (w - 3))) else -1000000001
def thrL (g : WT) (hh : HT) : Nat → Nat → Int32
  | 0, _ => -1000000005
  | m + 1, i => if sPop (sBare hh) < sPop (sBare (sHours g hh i)) then nI i else thrL g hh m (i + 1)
def aThrough (g : WT) (hh : HT) : Int32 := thrL g hh 200 1
def mtL (g : WT) (hh : HT) (a b : Nat) : Nat → Nat → Int32
  | 0, _ => -1000000005
  | m + 1, i => if sHours g hh i 2 a = sHours g hh i 2 b then nI i else mtL g hh a b m (i + 1)
def aMeets (g : WT) (hh : HT) (x y n : Int32) : Int32 := if isD hh x = true ∧ isD hh y = true ∧ ¬ x = y ∧ ¬ n < 0 ∧ n ≤ 100 then mtL g hh (ix x) (ix y) (ix n + 1) 0 else -1000000001
/-- the first greatest, the first least -/
def mxL (f : Nat → Int32) (x : Int32) : Nat → Nat × Int32
  | 0 => (0, x)
  | r + 1 => if (mxL f x r).2 < f r then (r, f r) else mxL f x r
def mnL (f : Nat → Int32) (x : Int32) : Nat → Nat × Int32
  | 0 => (0, x)
  | r + 1 => if f r < (mnL f x r).2 then (r, f r) else mnL f x r
def aMended (g : WT) (hh : HT) (n w : Int32) : Int32 := if isSh n = true ∧ is2 w = true then (if w = 0 then nI (mxL (fun r => sSum (sHours g (up2 hh 6 r 0) (ix n)) 3) (-1) 10).1 else (mxL (fun r => sSum (sHours g (up2 hh 6 r 0) (ix n)) 3) (-1) 10).2) else -1000000001
def aLeads (g : WT) (hh : HT) (p n w : Int32) : Int32 := if isR p = true ∧ isSh n = true ∧ is2 w = true then (if w = 0 then nI (mnL (fun r => sHours g (up2 hh 7 (ix p) (nI r)) (ix n) 0 10) 2147483647 10).1 else (mnL (fun r => sHours g (up2 hh 7 (ix p) (nI r)) (ix n) 0 10) 2147483647 10).2) else -1000000001
def bgH (g : WT) (hh : HT) (d r : Nat) : Nat → HT
  | 0 => up2 hh 2 d (nI r)
  | i + 1 => up2 (sWalk g (bgH g hh d r i) d) 0 12 (sWalk g (bgH g hh d r i) d 0 12 + 1)
def aBegan (g : WT) (hh : HT) (x n : Int32) : Int32 := if isD hh x = true ∧ ¬ n < 0 ∧ n ≤ 60 then bitsF (fun r => decide (bgH g hh (ix x) r (ix n) 2 (ix x) = hh 2 (ix x))) 10 else -1000000001
theorem sHours_p {g : WT} {h : HT} {i : Nat} (hi : 0 < i) : sHour g (sHours g h (i - 1)) = sHours g h i := by
  obtain ⟨i', rfl⟩ : ∃ i', i = i' + 1 := ⟨i - 1, by omega⟩
  rfl
theorem sWalk_f {g : WT} {h : HT} {d f : Nat} (hf : f ≠ 2 ∧ f ≠ 3 ∧ f ≠ 5 ∧ f ≠ 8) : sWalk g h d f = h f := sWk_f hf _ _
theorem HI.walk {g : WT} (hg : GR g) {h : HT} (hi : HI h) {d : Nat} (hd : d < 12) : HI (sWalk g h d) := HI.wk hg hd _ hi
theorem bgH_I {g : WT} (hg : GR g) {h : HT} (hi : HI h) {d r : Nat} (hd : d < 12) (hr : r < 10) : ∀ i, HI (bgH g h d r i)
  | 0 => hi.up (by decide) (fun _ => rg_nI (Nat.zero_le _) (by show r ≤ 9; omega))
  | i + 1 => ((bgH_I hg hi hd hr i).walk hg hd).up0 (by decide)
theorem bgH_9 {g : WT} {h : HT} {d r : Nat} : ∀ i, bgH g h d r i 9 = h 9
  | 0 => rfl
  | i + 1 => by
    show up2 _ 0 12 _ 9 = _
    rw [up2_n (by decide), sWalk_f (by decide), bgH_9 i]
set_option maxRecDepth 100000 in
set_option maxHeartbeats 4000000 in
theorem c_X7_through (B : BT) (σ : Nat → Nat → Int32) (hh : HT) (hi : HI hh) (hT : CT σ (hh 9 0)) : CI B yX7_through cX7_through 3 (some .int) ({ frames := 6, cells := 0, slots := 0, locals := 178 }) [.ref (aB B 30)] (sH σ 0 hh) (fun r σ' => r = aThrough (gC σ (hh 9 0)) hh ∧ ∃ σ2, Jk σ σ2 ∧ σ' = sH σ2 0 hh) := by
  refine MX.of2 RX7 (by decide) rfl ⟨rfl, rfl⟩ (Nat.le_of_ble_eq_true rfl) (by rfl) (fun k h hr hk => ?_)
  show XC B k (sH σ 0 hh) 0 [some (.ref (aB B 30)), none, none] []
  have loop : ∀ (f m i : Nat) (stk : Nat → Int32), m < f → m + i = 200 → aThrough (gC σ (hh 9 0)) hh = thrL (gC σ (hh 9 0)) hh m (i + 1) → XC B k (TS σ hh stk (σ 31) (sHours (gC σ (hh 9 0)) hh i)) 24 [some (.ref (aB B 30)), some (.int (sPop (sBare hh))), some (.int (nI (i + 1)))] [] := by
    intro f
    induction f with
    | zero => intro m i stk h1; omega
    | succ f ih =>
      intro m i stk h1 h2 e1
      refine x_ild2 h dX7_through_24 ?_
      refine x_sipush (v := 200) h dX7_through_25 rfl ?_
      refine x_icmp_gt 65 h dX7_through_28 (by decide) (fun c28 => ?_) (fun c28 => ?_)
      · have c28 := n_nle (a := i + 1) (b := 200) (by omega) (by omega) (Int32.not_le.mpr c28)
        have em : m = 0 := by omega
        subst em
        refine x_ldc h kc_X7_208 dX7_through_65 ?_
        refine x_iret h hr ?_ dX7_through_67
        obtain ⟨σ2, j2, e22⟩ : ∃ σ2, Jk σ σ2 ∧ TS σ hh _ _ _ = sH σ2 0 hh := TS_J
        exact ⟨_, _, rfl, rfl, e1.symm, σ2, j2, e22⟩
      · have c28 := n_le (a := i + 1) (b := 200) (by omega) (by omega) (Int32.not_lt.mp c28)
        obtain ⟨m, rfl⟩ : ∃ m', m = m' + 1 := ⟨m - 1, by omega⟩
        refine x_ald0 h dX7_through_31 ?_
        refine r_X7_23 h dX7_through_32 ?_
        refine x_ald0 h dX7_through_35 ?_
        refine r_X7_47 h dX7_through_36 ?_
        refine vCI1 (10 * 2) h cs_X7_204 (t_passHour B σ hh _ _ (sHours (gC σ (hh 9 0)) hh i) (hi.hours gC_GR i) (sHours_9) hT) (obj_h (by decide)) rfl ⟨rfl, rfl⟩ ⟨Nat.le_of_ble_eq_true rfl, Nat.le_of_ble_eq_true rfl⟩ (Nat.le_of_ble_eq_true rfl) dX7_through_39 (fun r39 s39 p39 => ?_)
        obtain ⟨stk, rfl⟩ := p39
        rw [show sHour (gC σ (hh 9 0)) (sHours (gC σ (hh 9 0)) hh i) = sHours (gC σ (hh 9 0)) hh (i + 1) from rfl]
        refine x_pop h dX7_through_42 rfl ?_
        refine x_ald0 h dX7_through_43 ?_
        refine r_X7_23 h dX7_through_44 ?_
        refine vCI0 (10 * 2) h cs_X7_189 (t_barefoot B _ _ _ _ _ (hi.hours gC_GR (i + 1))) (obj_h (by decide)) rfl ⟨rfl, rfl⟩ ⟨Nat.le_of_ble_eq_true rfl, Nat.le_of_ble_eq_true rfl⟩ (Nat.le_of_ble_eq_true rfl) dX7_through_47 (fun r47 s47 p47 => ?_)
        obtain ⟨rfl, rfl⟩ := p47
        refine sCI1 h cs_X7_199 (c_J6_bitCount_0f7a4 B _ _) ⟨rfl, rfl⟩ ⟨Nat.le_of_ble_eq_true rfl, Nat.le_of_ble_eq_true rfl⟩ (Nat.le_of_ble_eq_true rfl) dX7_through_50 (fun r50 s50 p50 => ?_)
        obtain ⟨rfl, rfl⟩ := p50
        refine x_ild1 h dX7_through_53 ?_
        refine x_icmp_le 59 h dX7_through_54 (by decide) (fun c54 => ?_) (fun c54 => ?_)
        · have e2 : thrL (gC σ (hh 9 0)) hh (m + 1) (i + 1) = thrL (gC σ (hh 9 0)) hh m (i + 1 + 1) := if_neg (Int32.not_lt.mpr c54)
          refine x_inc2 (y := 1) h dX7_through_59 (by rw [hk]; decide) rfl rfl ?_
          refine x_goto 24 h dX7_through_62 (by decide) ?_
          rw [nI_1 (i + 1)]
          exact ih m (i + 1) _ (by omega) (by omega) (e1.trans e2)
        · have e2 : thrL (gC σ (hh 9 0)) hh (m + 1) (i + 1) = nI (i + 1) := if_pos (Int32.not_le.mp c54)
          refine x_ild2 h dX7_through_57 ?_
          refine x_iret h hr ?_ dX7_through_58
          obtain ⟨σ2, j2, e22⟩ : ∃ σ2, Jk σ σ2 ∧ TS σ hh _ _ _ = sH σ2 0 hh := TS_J
          exact ⟨_, _, rfl, rfl, (e1.trans e2).symm, σ2, j2, e22⟩
  have loop := loop 201 200 0 (σ 39) (by omega) (by omega) rfl
  refine x_ald0 h dX7_through_0 ?_
  refine r_X7_10 h dX7_through_1 ?_
  refine vCI0 (10 * 0) h cs_X7_189 (c_X0_barefoot B (by decide) _ _ hi) (obj_h (by decide)) rfl ⟨rfl, rfl⟩ ⟨Nat.le_of_ble_eq_true rfl, Nat.le_of_ble_eq_true rfl⟩ (Nat.le_of_ble_eq_true rfl) dX7_through_4 (fun r4 s4 p4 => ?_)
  obtain ⟨rfl, rfl⟩ := p4
  refine sCI1 h cs_X7_199 (c_J6_bitCount_0f7a4 B _ _) ⟨rfl, rfl⟩ ⟨Nat.le_of_ble_eq_true rfl, Nat.le_of_ble_eq_true rfl⟩ (Nat.le_of_ble_eq_true rfl) dX7_through_7 (fun r7 s7 p7 => ?_)
  obtain ⟨rfl, rfl⟩ := p7
  refine x_ist1 h dX7_through_10 (by rw [hk]; decide) rfl ?_
  rw [TS_0]
  refine x_ald0 h dX7_through_11 ?_
  refine r_X7_23 h dX7_through_12 ?_
  refine x_ald0 h dX7_through_15 ?_
  refine r_X7_10 h dX7_through_16 ?_
  refine vCV1 (10 * 2) h cs_X7_195 (t_become B _ _ _ _ _) (obj_h (by decide)) rfl ⟨rfl, rfl⟩ ⟨Nat.le_of_ble_eq_true rfl, Nat.le_of_ble_eq_true rfl⟩ (Nat.le_of_ble_eq_true rfl) dX7_through_19 (fun s19 p19 => ?_)
  obtain rfl := p19
  refine x_iconst (v := 1) h dX7_through_22 rfl ?_
  refine x_ist2 h dX7_through_23 (by rw [hk]; decide) rfl ?_
  exact loop
set_option maxRecDepth 100000 in
set_option maxHeartbeats 4000000 in
theorem c_X7_meets (B : BT) (σ : Nat → Nat → Int32) (hh : HT) (hi : HI hh) (hT : CT σ (hh 9 0)) (x y n : Int32) : CI B yX7_meets cX7_meets 5 (some .int) ({ frames := 6, cells := 0, slots := 0, locals := 178 }) [.ref (aB B 30), .int x, .int y, .int n] (sH σ 0 hh) (fun r σ' => r = aMeets (gC σ (hh 9 0)) hh x y n ∧ ∃ σ2, Jk σ σ2 ∧ σ' = sH σ2 0 hh) := by
  refine MX.of2 RX7 (by decide) rfl ⟨rfl, rfl⟩ (Nat.le_of_ble_eq_true rfl) (by rfl) (fun k h hr hk => ?_)
  show XC B k (sH σ 0 hh) 0 [some (.ref (aB B 30)), some (.int x), some (.int y), some (.int n), none] []
  refine x_ald0 h dX7_meets_0 ?_
  refine x_ild1 h dX7_meets_1 ?_
  refine vCI1 30 h cs_X7_94 (c_X7_isDancer B _ _) (⟨by decide, fun _ _ => rfl⟩ : ObjC 30 6) rfl ⟨rfl, rfl⟩ ⟨Nat.le_of_ble_eq_true rfl, Nat.le_of_ble_eq_true rfl⟩ (Nat.le_of_ble_eq_true rfl) dX7_meets_2 (fun r2 s2 p2 => ?_)
  obtain ⟨rfl, rfl⟩ := p2
  rw [bD]
  refine x_if_eq 31 h dX7_meets_5 (by decide) (fun c5 => ?_) (fun c5 => ?_)
  · have c5 := bI_0.mp c5
    refine x_ldc h kc_X7_85 dX7_meets_31 ?_
    refine x_iret h hr ?_ dX7_meets_33
    exact ⟨_, _, rfl, rfl, by simp_all [-Int32.not_lt, -Int32.not_le, aMeets], σ, Jk.rf, rfl⟩
  · have c5 := bI_n.mp c5
    obtain ⟨d, hd, rfl⟩ := isD_of c5 hi
    have hd12 := hi.n.1
    have ed : ix (nI d) = d := ix_n (by omega)
    refine x_ald0 h dX7_meets_8 ?_
    refine x_ild2 h dX7_meets_9 ?_
    refine vCI1 30 h cs_X7_94 (c_X7_isDancer B _ _) (⟨by decide, fun _ _ => rfl⟩ : ObjC 30 6) rfl ⟨rfl, rfl⟩ ⟨Nat.le_of_ble_eq_true rfl, Nat.le_of_ble_eq_true rfl⟩ (Nat.le_of_ble_eq_true rfl) dX7_meets_10 (fun r10 s10 p10 => ?_)
    obtain ⟨rfl, rfl⟩ := p10
    rw [bD]
    refine x_if_eq 31 h dX7_meets_13 (by decide) (fun c13 => ?_) (fun c13 => ?_)
    · have c13 := bI_0.mp c13
      refine x_ldc h kc_X7_85 dX7_meets_31 ?_
      refine x_iret h hr ?_ dX7_meets_33
      exact ⟨_, _, rfl, rfl, by simp_all [-Int32.not_lt, -Int32.not_le, aMeets], σ, Jk.rf, rfl⟩
    · have c13 := bI_n.mp c13
      obtain ⟨e, he, rfl⟩ := isD_of c13 hi
      have he12 := hi.n.1
      have ee : ix (nI e) = e := ix_n (by omega)
      refine x_ild1 h dX7_meets_16 ?_
      refine x_ild2 h dX7_meets_17 ?_
      refine x_icmp_eq 31 h dX7_meets_18 (by decide) (fun c18 => ?_) (fun c18 => ?_)
      · refine x_ldc h kc_X7_85 dX7_meets_31 ?_
        refine x_iret h hr ?_ dX7_meets_33
        exact ⟨_, _, rfl, rfl, by simp_all [-Int32.not_lt, -Int32.not_le, aMeets], σ, Jk.rf, rfl⟩
      · refine x_ild3 h dX7_meets_21 ?_
        refine x_if_lt 31 h dX7_meets_22 (by decide) (fun c22 => ?_) (fun c22 => ?_)
        · refine x_ldc h kc_X7_85 dX7_meets_31 ?_
          refine x_iret h hr ?_ dX7_meets_33
          exact ⟨_, _, rfl, rfl, by simp_all [-Int32.not_lt, -Int32.not_le, aMeets], σ, Jk.rf, rfl⟩
        · refine x_ild3 h dX7_meets_25 ?_
          refine x_bipush (v := 100) h dX7_meets_26 rfl ?_
          refine x_icmp_le 34 h dX7_meets_28 (by decide) (fun c28 => ?_) (fun c28 => ?_)
          · have c28' := c28
            obtain ⟨n', hn, rfl⟩ := nI_of c22
            have c28 := n_le (b := 100) hn (by decide) c28
            have e0 : aMeets (gC σ (hh 9 0)) hh (nI d) (nI e) (nI n') = mtL (gC σ (hh 9 0)) hh d e (n' + 1) 0 := by
              rw [show aMeets (gC σ (hh 9 0)) hh (nI d) (nI e) (nI n') = mtL (gC σ (hh 9 0)) hh (ix (nI d)) (ix (nI e)) (ix (nI n') + 1) 0 from if_pos ⟨c5, c13, c18, c22, c28'⟩, ed, ee, ix_n hn]
            rw [TS_0]
            refine x_ald0 h dX7_meets_34 ?_
            refine r_X7_23 h dX7_meets_35 ?_
            refine x_ald0 h dX7_meets_38 ?_
            refine r_X7_10 h dX7_meets_39 ?_
            refine vCV1 (10 * 2) h cs_X7_195 (t_become B _ _ _ _ _) (obj_h (by decide)) rfl ⟨rfl, rfl⟩ ⟨Nat.le_of_ble_eq_true rfl, Nat.le_of_ble_eq_true rfl⟩ (Nat.le_of_ble_eq_true rfl) dX7_meets_42 (fun s42 p42 => ?_)
            obtain rfl := p42
            refine x_iconst (v := 0) h dX7_meets_45 rfl ?_
            refine x_ist4 h dX7_meets_46 (by rw [hk]; decide) rfl ?_
            have loop : ∀ (f m i : Nat) (stk : Nat → Int32), m < f → m + i = n' + 1 → aMeets (gC σ (hh 9 0)) hh (nI d) (nI e) (nI n') = mtL (gC σ (hh 9 0)) hh d e m i → XC B k (TS σ hh stk (σ 31) (sHours (gC σ (hh 9 0)) hh (i - 1))) 48 [some (.ref (aB B 30)), some (.int (nI d)), some (.int (nI e)), some (.int (nI n')), some (.int (nI i))] [] := by
              intro f
              induction f with
              | zero => intro m i stk h1; omega
              | succ f ih =>
                intro m i stk h1 h2 e1
                have K71 : ∀ stk m', m = m' + 1 → XC B k (TS σ hh stk (σ 31) (sHours (gC σ (hh 9 0)) hh i)) 71 [some (.ref (aB B 30)), some (.int (nI d)), some (.int (nI e)), some (.int (nI n')), some (.int (nI i))] [] := by
                  intro stk m' em
                  obtain rfl := em
                  refine x_ald0 h dX7_meets_71 ?_
                  refine r_X7_23 h dX7_meets_72 ?_
                  refine r2_X7_100 h dX7_meets_75 ?_
                  refine x_ild1 h dX7_meets_78 ?_
                  refine xc_ialdN (d) (rfl) (by omega) (by decide) h 22 (⟨by decide, fun _ _ => rfl⟩ : ArrC 22 12) dX7_meets_79 ?_
                  change XC B k _ _ _ (.int ((sHours (gC σ (hh 9 0)) hh i) 2 (d)) :: _)
                  refine x_ald0 h dX7_meets_80 ?_
                  refine r_X7_23 h dX7_meets_81 ?_
                  refine r2_X7_100 h dX7_meets_84 ?_
                  refine x_ild2 h dX7_meets_87 ?_
                  refine xc_ialdN (e) (rfl) (by omega) (by decide) h 22 (⟨by decide, fun _ _ => rfl⟩ : ArrC 22 12) dX7_meets_88 ?_
                  change XC B k _ _ _ (.int ((sHours (gC σ (hh 9 0)) hh i) 2 (e)) :: _)
                  refine x_icmp_ne 95 h dX7_meets_89 (by decide) (fun c89 => ?_) (fun c89 => ?_)
                  · have e2 : mtL (gC σ (hh 9 0)) hh d e (m' + 1) i = mtL (gC σ (hh 9 0)) hh d e m' (i + 1) := if_neg c89
                    refine x_inc4 (y := 1) h dX7_meets_95 (by rw [hk]; decide) rfl rfl ?_
                    refine x_goto 48 h dX7_meets_98 (by decide) ?_
                    rw [nI_1 i]
                    exact ih m' (i + 1) _ (by omega) (by omega) (e1.trans e2)
                  · have e2 : mtL (gC σ (hh 9 0)) hh d e (m' + 1) i = nI i := if_pos c89
                    refine x_ild4 h dX7_meets_92 ?_
                    refine x_iret h hr ?_ dX7_meets_94
                    obtain ⟨σ2, j2, e22⟩ : ∃ σ2, Jk σ σ2 ∧ TS σ hh _ _ _ = sH σ2 0 hh := TS_J
                    exact ⟨_, _, rfl, rfl, (e1.trans e2).symm, σ2, j2, e22⟩
                refine x_ild4 h dX7_meets_48 ?_
                refine x_ild3 h dX7_meets_50 ?_
                refine x_icmp_gt 101 h dX7_meets_51 (by decide) (fun c51 => ?_) (fun c51 => ?_)
                · have c51 := n_nle (a := i) (b := n') (by omega) (by omega) (Int32.not_le.mpr c51)
                  have em : m = 0 := by omega
                  subst em
                  refine x_ldc h kc_X7_208 dX7_meets_101 ?_
                  refine x_iret h hr ?_ dX7_meets_103
                  obtain ⟨σ2, j2, e22⟩ : ∃ σ2, Jk σ σ2 ∧ TS σ hh _ _ _ = sH σ2 0 hh := TS_J
                  exact ⟨_, _, rfl, rfl, e1.symm, σ2, j2, e22⟩
                · have c51 := n_le (by omega) (by omega) (Int32.not_lt.mp c51)
                  obtain ⟨m, rfl⟩ : ∃ m', m = m' + 1 := ⟨m - 1, by omega⟩
                  refine x_ild4 h dX7_meets_54 ?_
                  refine x_if_le 71 h dX7_meets_56 (by decide) (fun c56 => ?_) (fun c56 => ?_)
                  · have c56 : i = 0 := by have := n_le (a := i) (b := 0) (by omega) (by decide) c56; omega
                    first | exact K71 stk m rfl | (rw [show sHours (gC σ (hh 9 0)) hh (i - 1) = (sHours (gC σ (hh 9 0)) hh i) from by rw [c56]]; exact K71 stk m rfl)
                  · have c56 : 0 < i := Nat.pos_of_ne_zero (fun q => c56 (by rw [q]; exact Int32.le_refl _))
                    refine x_ald0 h dX7_meets_59 ?_
                    refine r_X7_23 h dX7_meets_60 ?_
                    refine x_ald0 h dX7_meets_63 ?_
                    refine r_X7_47 h dX7_meets_64 ?_
                    refine vCI1 (10 * 2) h cs_X7_204 (t_passHour B σ hh _ _ (sHours (gC σ (hh 9 0)) hh (i - 1)) (hi.hours gC_GR (i - 1)) (sHours_9) hT) (obj_h (by decide)) rfl ⟨rfl, rfl⟩ ⟨Nat.le_of_ble_eq_true rfl, Nat.le_of_ble_eq_true rfl⟩ (Nat.le_of_ble_eq_true rfl) dX7_meets_67 (fun r67 s67 p67 => ?_)
                    obtain ⟨stk, rfl⟩ := p67
                    rw [sHours_p c56]
                    refine x_pop h dX7_meets_70 rfl ?_
                    first | exact K71 stk m rfl | (rw [show sHours (gC σ (hh 9 0)) hh (i - 1) = (sHours (gC σ (hh 9 0)) hh i) from by rw [c56]]; exact K71 stk m rfl)
            exact loop (n' + 2) (n' + 1) 0 (σ 39) (by omega) (by omega) e0
          · refine x_ldc h kc_X7_85 dX7_meets_31 ?_
            refine x_iret h hr ?_ dX7_meets_33
            exact ⟨_, _, rfl, rfl, by simp_all [-Int32.not_lt, -Int32.not_le, aMeets], σ, Jk.rf, rfl⟩
theorem isW_d {hh : HT} {w : Int32} (hi : HI hh) (h : isW hh w = true) (h0 : ¬ w = 0) (h1 : ¬ w = 1) (h2 : ¬ w = 2) : rg (w - 3) 0 11 := by
  unfold isW at h
  rw [Bool.and_eq_true, Bool.or_eq_true, decide_eq_true_iff, decide_eq_true_iff] at h
  rcases h.2 with h3 | h3
  · obtain ⟨n, hn, rfl⟩ := nI_of h.1
    have h4 := n_le (b := 2) hn (by decide) h3
    exfalso
    rcases (by omega : n = 0 ∨ n = 1 ∨ n = 2) with rfl | rfl | rfl
    · exact h0 rfl
    · exact h1 rfl
    · exact h2 rfl
  · obtain ⟨d, hd, e⟩ := isD_of h3 hi
    have := hi.n.1
    rw [e]
    exact rg_nI (Nat.zero_le _) (by omega)
set_option maxRecDepth 100000 in
set_option maxHeartbeats 4000000 in
theorem c_X7_behind (B : BT) (σ : Nat → Nat → Int32) (hh : HT) (hi : HI hh) (hT : CT σ (hh 9 0)) (n w : Int32) : CI B yX7_behind cX7_behind 4 (some .int) ({ frames := 7, cells := 0, slots := 0, locals := 202 }) [.ref (aB B 30), .int n, .int w] (sH σ 0 hh) (fun r σ' => r = aBehind (gC σ (hh 9 0)) hh n w ∧ ∃ σ2, Jk σ σ2 ∧ σ' = sH σ2 0 hh) := by
  refine MX.of2 RX7 (by decide) rfl ⟨rfl, rfl⟩ (Nat.le_of_ble_eq_true rfl) (by rfl) (fun k h hr hk => ?_)
  show XC B k (sH σ 0 hh) 0 [some (.ref (aB B 30)), some (.int n), some (.int w), none] []
  have K24 : ∀ b : Int32, (b = 1 ∧ isW hh w = true) ∨ (b = 0 ∧ isW hh w = false) → XC B k (sH σ 0 hh) 24 [some (.ref (aB B 30)), some (.int n), some (.int w), none] [.int b] := by
    intro b hb
    refine x_ist3 h dX7_behind_24 (by rw [hk]; decide) rfl ?_
    refine x_ild1 h dX7_behind_25 ?_
    refine x_if_lt 39 h dX7_behind_26 (by decide) (fun c26 => ?_) (fun c26 => ?_)
    · refine x_ldc h kc_X7_85 dX7_behind_39 ?_
      refine x_iret h hr ?_ dX7_behind_41
      exact ⟨_, _, rfl, rfl, by simp_all [-Int32.not_lt, -Int32.not_le, aBehind], σ, Jk.rf, rfl⟩
    · refine x_ild1 h dX7_behind_29 ?_
      refine x_bipush (v := 100) h dX7_behind_30 rfl ?_
      refine x_icmp_gt 39 h dX7_behind_32 (by decide) (fun c32 => ?_) (fun c32 => ?_)
      · refine x_ldc h kc_X7_85 dX7_behind_39 ?_
        refine x_iret h hr ?_ dX7_behind_41
        exact ⟨_, _, rfl, rfl, by simp_all [-Int32.not_lt, -Int32.not_le, aBehind], σ, Jk.rf, rfl⟩
      · refine x_ild3 h dX7_behind_35 ?_
        refine x_if_ne 42 h dX7_behind_36 (by decide) (fun c36 => ?_) (fun c36 => ?_)
        · have c36 := (hb.resolve_right (fun z => c36 z.1)).2
          obtain ⟨n', hn, rfl⟩ := nI_of c26
          have c32n := n_nlt (a := 100) (b := n') (by decide) hn c32
          rw [TS_0]
          refine x_ald0 h dX7_behind_42 ?_
          refine r_X7_23 h dX7_behind_43 ?_
          refine x_ald0 h dX7_behind_46 ?_
          refine r_X7_10 h dX7_behind_47 ?_
          refine vCV1 (10 * 2) h cs_X7_195 (t_become B _ _ _ _ _) (obj_h (by decide)) rfl ⟨rfl, rfl⟩ ⟨Nat.le_of_ble_eq_true rfl, Nat.le_of_ble_eq_true rfl⟩ (Nat.le_of_ble_eq_true rfl) dX7_behind_50 (fun s50 p50 => ?_)
          obtain rfl := p50
          refine x_ald0 h dX7_behind_53 ?_
          refine r_X7_23 h dX7_behind_54 ?_
          refine x_ild1 h dX7_behind_57 ?_
          refine x_ald0 h dX7_behind_58 ?_
          refine r_X7_47 h dX7_behind_59 ?_
          refine vCI2 (10 * 2) h cs_X7_174 (t_passHours B σ hh _ _ hh hi rfl hT n' (by omega)) (obj_h (by decide)) rfl ⟨rfl, rfl⟩ ⟨Nat.le_of_ble_eq_true rfl, Nat.le_of_ble_eq_true rfl⟩ (Nat.le_of_ble_eq_true rfl) dX7_behind_62 (fun r62 s62 p62 => ?_)
          obtain ⟨stk, rfl⟩ := p62
          refine x_pop h dX7_behind_65 rfl ?_
          have e0 : aBehind (gC σ (hh 9 0)) hh (nI n') w = (if w = 0 then (sHours (gC σ (hh 9 0)) hh n') 0 10 else if w = 1 then sMarks (sHours (gC σ (hh 9 0)) hh n') else if w = 2 then sBare (sHours (gC σ (hh 9 0)) hh n') else (sHours (gC σ (hh 9 0)) hh n') 2 (ix (w - 3))) := by
            rw [show aBehind (gC σ (hh 9 0)) hh (nI n') w = _ from if_pos ⟨⟨c26, c32⟩, c36⟩, ix_n hn]
          refine x_ild2 h dX7_behind_66 ?_
          refine x_topi (fun y67 ey67 => ?_)
          by_cases q67_0 : y67 = 0
          · rw [q67_0] at ey67 ⊢
            refine x_tin 92 h dX7_behind_67 (by decide) (by decide) (by rfl) (by decide) ?_
            refine x_ald0 h dX7_behind_92 ?_
            refine r_X7_23 h dX7_behind_93 ?_
            refine r2_X7_177 h dX7_behind_96 ?_
            change XC B k _ _ _ (.int ((sHours (gC σ (hh 9 0)) hh n') 0 10) :: _)
            refine x_iret h hr ?_ dX7_behind_99
            subst ey67
            obtain ⟨σ2, j2, e22⟩ : ∃ σ2, Jk σ σ2 ∧ TS σ hh _ _ _ = sH σ2 0 hh := TS_J
            exact ⟨_, _, rfl, rfl, by rw [e0, if_pos rfl], σ2, j2, e22⟩
          · skip
            by_cases q67_1 : y67 = 1
            · rw [q67_1] at ey67 ⊢
              refine x_tin 100 h dX7_behind_67 (by decide) (by decide) (by rfl) (by decide) ?_
              refine x_ald0 h dX7_behind_100 ?_
              refine r_X7_23 h dX7_behind_101 ?_
              refine vCI0 (10 * 2) h cs_X7_183 (t_allMarks B _ _ _ _ _) (obj_h (by decide)) rfl ⟨rfl, rfl⟩ ⟨Nat.le_of_ble_eq_true rfl, Nat.le_of_ble_eq_true rfl⟩ (Nat.le_of_ble_eq_true rfl) dX7_behind_104 (fun r104 s104 p104 => ?_)
              obtain ⟨rfl, rfl⟩ := p104
              refine x_iret h hr ?_ dX7_behind_107
              subst ey67
              obtain ⟨σ2, j2, e22⟩ : ∃ σ2, Jk σ σ2 ∧ TS σ hh _ _ _ = sH σ2 0 hh := TS_J
              exact ⟨_, _, rfl, rfl, by rw [e0, if_neg (by decide), if_pos rfl], σ2, j2, e22⟩
            · skip
              by_cases q67_2 : y67 = 2
              · rw [q67_2] at ey67 ⊢
                refine x_tin 108 h dX7_behind_67 (by decide) (by decide) (by rfl) (by decide) ?_
                refine x_ald0 h dX7_behind_108 ?_
                refine r_X7_23 h dX7_behind_109 ?_
                refine vCI0 (10 * 2) h cs_X7_189 (t_barefoot B _ _ _ _ _ (hi.hours gC_GR _)) (obj_h (by decide)) rfl ⟨rfl, rfl⟩ ⟨Nat.le_of_ble_eq_true rfl, Nat.le_of_ble_eq_true rfl⟩ (Nat.le_of_ble_eq_true rfl) dX7_behind_112 (fun r112 s112 p112 => ?_)
                obtain ⟨rfl, rfl⟩ := p112
                refine x_iret h hr ?_ dX7_behind_115
                subst ey67
                obtain ⟨σ2, j2, e22⟩ : ∃ σ2, Jk σ σ2 ∧ TS σ hh _ _ _ = sH σ2 0 hh := TS_J
                exact ⟨_, _, rfl, rfl, by rw [e0, if_neg (by decide), if_neg (by decide), if_pos rfl], σ2, j2, e22⟩
              · skip
                refine x_tout 116 h dX7_behind_67 (by have tq67_0 := lv_neT q67_0 (a := 0) (by decide); have tq67_1 := lv_neT q67_1 (a := 1) (by decide); have tq67_2 := lv_neT q67_2 (a := 2) (by decide); omega) (by decide) ?_
                have hw3 := rg_ix (isW_d hi c36 (ey67 ▸ q67_0) (ey67 ▸ q67_1) (ey67 ▸ q67_2)) (by decide)
                refine x_ald0 h dX7_behind_116 ?_
                refine r_X7_23 h dX7_behind_117 ?_
                refine r2_X7_100 h dX7_behind_120 ?_
                refine x_ild2 h dX7_behind_123 ?_
                refine x_iconst (v := 3) h dX7_behind_124 rfl ?_
                refine x_isub h dX7_behind_125 ?_
                refine xc_ialdN (ix (w - 3)) (hw3.2.2) (by omega) (by decide) h 22 (⟨by decide, fun _ _ => rfl⟩ : ArrC 22 12) dX7_behind_126 ?_
                change XC B k _ _ _ (.int ((sHours (gC σ (hh 9 0)) hh n') 2 (ix (w - 3))) :: _)
                refine x_iret h hr ?_ dX7_behind_127
                subst ey67
                obtain ⟨σ2, j2, e22⟩ : ∃ σ2, Jk σ σ2 ∧ TS σ hh _ _ _ = sH σ2 0 hh := TS_J
                exact ⟨_, _, rfl, rfl, by rw [e0, if_neg q67_0, if_neg q67_1, if_neg q67_2], σ2, j2, e22⟩
        · have c36 : isW hh w = false := (hb.resolve_left (fun z => absurd (z.1.symm.trans c36) (by decide))).2
          refine x_ldc h kc_X7_85 dX7_behind_39 ?_
          refine x_iret h hr ?_ dX7_behind_41
          exact ⟨_, _, rfl, rfl, by simp_all [-Int32.not_lt, -Int32.not_le, aBehind], σ, Jk.rf, rfl⟩
  refine x_ild2 h dX7_behind_0 ?_
  refine x_if_lt 23 h dX7_behind_1 (by decide) (fun c1 => ?_) (fun c1 => ?_)
  · refine x_iconst (v := 0) h dX7_behind_23 rfl ?_
    first | exact K24 1 (Or.inl ⟨rfl, by unfold isW; rw [decide_eq_true c1, decide_eq_true c6]; rfl⟩) | exact K24 1 (Or.inl ⟨rfl, by unfold isW; rw [decide_eq_true c1, c16, decide_eq_false c6]; rfl⟩) | exact K24 0 (Or.inr ⟨rfl, by unfold isW; rw [Bool.eq_false_iff.mpr c16, decide_eq_false c6]; cases decide (¬ w < 0) <;> rfl⟩) | exact K24 0 (Or.inr ⟨rfl, by unfold isW; rw [decide_eq_false (fun z => z c1)]; rfl⟩)
  · skip
    refine x_ild2 h dX7_behind_4 ?_
    refine x_iconst (v := 2) h dX7_behind_5 rfl ?_
    refine x_icmp_le 19 h dX7_behind_6 (by decide) (fun c6 => ?_) (fun c6 => ?_)
    · refine x_iconst (v := 1) h dX7_behind_19 rfl ?_
      refine x_goto 24 h dX7_behind_20 (by decide) ?_
      first | exact K24 1 (Or.inl ⟨rfl, by unfold isW; rw [decide_eq_true c1, decide_eq_true c6]; rfl⟩) | exact K24 1 (Or.inl ⟨rfl, by unfold isW; rw [decide_eq_true c1, c16, decide_eq_false c6]; rfl⟩) | exact K24 0 (Or.inr ⟨rfl, by unfold isW; rw [Bool.eq_false_iff.mpr c16, decide_eq_false c6]; cases decide (¬ w < 0) <;> rfl⟩) | exact K24 0 (Or.inr ⟨rfl, by unfold isW; rw [decide_eq_false (fun z => z c1)]; rfl⟩)
    · refine x_ald0 h dX7_behind_9 ?_
      refine x_ild2 h dX7_behind_10 ?_
      refine x_iconst (v := 3) h dX7_behind_11 rfl ?_
      refine x_isub h dX7_behind_12 ?_
      refine vCI1 30 h cs_X7_94 (c_X7_isDancer B _ _) (⟨by decide, fun _ _ => rfl⟩ : ObjC 30 6) rfl ⟨rfl, rfl⟩ ⟨Nat.le_of_ble_eq_true rfl, Nat.le_of_ble_eq_true rfl⟩ (Nat.le_of_ble_eq_true rfl) dX7_behind_13 (fun r13 s13 p13 => ?_)
      obtain ⟨rfl, rfl⟩ := p13
      rw [bD]
      refine x_if_eq 23 h dX7_behind_16 (by decide) (fun c16 => ?_) (fun c16 => ?_)
      · have c16 := bI_0.mp c16
        refine x_iconst (v := 0) h dX7_behind_23 rfl ?_
        first | exact K24 1 (Or.inl ⟨rfl, by unfold isW; rw [decide_eq_true c1, decide_eq_true c6]; rfl⟩) | exact K24 1 (Or.inl ⟨rfl, by unfold isW; rw [decide_eq_true c1, c16, decide_eq_false c6]; rfl⟩) | exact K24 0 (Or.inr ⟨rfl, by unfold isW; rw [Bool.eq_false_iff.mpr c16, decide_eq_false c6]; cases decide (¬ w < 0) <;> rfl⟩) | exact K24 0 (Or.inr ⟨rfl, by unfold isW; rw [decide_eq_false (fun z => z c1)]; rfl⟩)
      · have c16 := bI_n.mp c16
        refine x_iconst (v := 1) h dX7_behind_19 rfl ?_
        refine x_goto 24 h dX7_behind_20 (by decide) ?_
        first | exact K24 1 (Or.inl ⟨rfl, by unfold isW; rw [decide_eq_true c1, decide_eq_true c6]; rfl⟩) | exact K24 1 (Or.inl ⟨rfl, by unfold isW; rw [decide_eq_true c1, c16, decide_eq_false c6]; rfl⟩) | exact K24 0 (Or.inr ⟨rfl, by unfold isW; rw [Bool.eq_false_iff.mpr c16, decide_eq_false c6]; cases decide (¬ w < 0) <;> rfl⟩) | exact K24 0 (Or.inr ⟨rfl, by unfold isW; rw [decide_eq_false (fun z => z c1)]; rfl⟩)
theorem isSh_of {x : Int32} (h : isSh x = true) : ∃ n, 1 ≤ n ∧ n ≤ 60 ∧ x = nI n := by
  have h := dk.mpr h
  obtain ⟨n, hn, rfl⟩ := nI_of (x := x) (fun z => h.1 (Int32.lt_trans z (by decide)))
  exact ⟨n, n_nlt (b := 1) hn (by decide) h.1, n_nlt (a := 60) (by decide) hn h.2, rfl⟩
set_option maxRecDepth 100000 in
set_option maxHeartbeats 4000000 in
theorem c_X7_mended (B : BT) (σ : Nat → Nat → Int32) (hh : HT) (hi : HI hh) (hT : CT σ (hh 9 0)) (n w : Int32) : CI B yX7_mended cX7_mended 7 (some .int) ({ frames := 7, cells := 0, slots := 0, locals := 202 }) [.ref (aB B 30), .int n, .int w] (sH σ 0 hh) (fun r σ' => r = aMended (gC σ (hh 9 0)) hh n w ∧ ∃ σ2, Jk σ σ2 ∧ σ' = sH σ2 0 hh) := by
  refine MX.of2 RX7 (by decide) rfl ⟨rfl, rfl⟩ (Nat.le_of_ble_eq_true rfl) (by rfl) (fun k h hr hk => ?_)
  show XC B k (sH σ 0 hh) 0 [some (.ref (aB B 30)), some (.int n), some (.int w), none, none, none, none] []
  refine x_ild1 h dX7_mended_0 ?_
  refine sCI1 h cs_X7_209 (c_X7_isShortRun B _ _) ⟨rfl, rfl⟩ ⟨Nat.le_of_ble_eq_true rfl, Nat.le_of_ble_eq_true rfl⟩ (Nat.le_of_ble_eq_true rfl) dX7_mended_1 (fun r1 s1 p1 => ?_)
  obtain ⟨rfl, rfl⟩ := p1
  rw [bSh]
  refine x_if_eq 14 h dX7_mended_4 (by decide) (fun c4 => ?_) (fun c4 => ?_)
  · have c4 := bI_0.mp c4
    refine x_ldc h kc_X7_85 dX7_mended_14 ?_
    refine x_iret h hr ?_ dX7_mended_16
    exact ⟨_, _, rfl, rfl, by simp_all [-Int32.not_lt, -Int32.not_le, aMended], σ, Jk.rf, rfl⟩
  · have c4 := bI_n.mp c4
    obtain ⟨n', hn0, hn60, rfl⟩ := isSh_of c4
    refine x_ild2 h dX7_mended_7 ?_
    refine sCI1 h cs_X7_212 (c_X7_isOneOfTwo B _ _) ⟨rfl, rfl⟩ ⟨Nat.le_of_ble_eq_true rfl, Nat.le_of_ble_eq_true rfl⟩ (Nat.le_of_ble_eq_true rfl) dX7_mended_8 (fun r8 s8 p8 => ?_)
    obtain ⟨rfl, rfl⟩ := p8
    rw [b2]
    refine x_if_ne 17 h dX7_mended_11 (by decide) (fun c11 => ?_) (fun c11 => ?_)
    · have c11 := bI_n.mp c11
      have e0 : aMended (gC σ (hh 9 0)) hh (nI n') w = (if w = 0 then nI (mxL (fun r => sSum (sHours (gC σ (hh 9 0)) (up2 hh 6 r 0) n') 3) (-1) 10).1 else (mxL (fun r => sSum (sHours (gC σ (hh 9 0)) (up2 hh 6 r 0) n') 3) (-1) 10).2) := by
        rw [show aMended (gC σ (hh 9 0)) hh (nI n') w = _ from if_pos ⟨c4, c11⟩, ix_n (by omega)]
      rw [TS_0]
      refine x_iconst (v := 0) h dX7_mended_17 rfl ?_
      refine x_ist3 h dX7_mended_18 (by rw [hk]; decide) rfl ?_
      refine x_iconst (v := (-1)) h dX7_mended_19 rfl ?_
      refine x_ist4 h dX7_mended_20 (by rw [hk]; decide) rfl ?_
      refine x_iconst (v := 0) h dX7_mended_22 rfl ?_
      refine x_ist5 h dX7_mended_23 (by rw [hk]; decide) rfl ?_
      have loop : ∀ (f i : Nat) (stk : Nat → Int32) (th : HT), 10 < f + i → i ≤ 10 → XC B k (TS σ hh stk (σ 31) th) 25 [some (.ref (aB B 30)), some (.int (nI n')), some (.int w), some (.int (nI (mxL (fun r => sSum (sHours (gC σ (hh 9 0)) (up2 hh 6 r 0) n') 3) (-1) i).1)), some (.int (mxL (fun r => sSum (sHours (gC σ (hh 9 0)) (up2 hh 6 r 0) n') 3) (-1) i).2), some (.int (nI i)), none] [] := by
        intro f
        induction f with
        | zero => intro i stk th h1 h2; omega
        | succ f ih =>
          intro i stk th h1 h2
          refine x_ild5 h dX7_mended_25 ?_
          refine x_bipush (v := 10) h dX7_mended_27 rfl ?_
          refine x_icmp_ge 96 h dX7_mended_29 (by decide) (fun c29 => ?_) (fun c29 => ?_)
          · have c29 := n_le (a := 10) (by decide) (by omega) c29
            have ei : i = 10 := by omega
            subst ei
            refine x_ild2 h dX7_mended_96 ?_
            refine x_if_ne 104 h dX7_mended_97 (by decide) (fun c97 => ?_) (fun c97 => ?_)
            · refine x_ild4 h dX7_mended_104 ?_
              refine x_iret h hr ?_ dX7_mended_106
              obtain ⟨σ2, j2, e22⟩ : ∃ σ2, Jk σ σ2 ∧ TS σ hh _ _ _ = sH σ2 0 hh := TS_J
              exact ⟨_, _, rfl, rfl, by rw [e0]; first | exact (if_pos c97).symm | exact (if_neg c97).symm, σ2, j2, e22⟩
            · refine x_ild3 h dX7_mended_100 ?_
              refine x_goto 106 h dX7_mended_101 (by decide) ?_
              refine x_iret h hr ?_ dX7_mended_106
              obtain ⟨σ2, j2, e22⟩ : ∃ σ2, Jk σ σ2 ∧ TS σ hh _ _ _ = sH σ2 0 hh := TS_J
              exact ⟨_, _, rfl, rfl, by rw [e0]; first | exact (if_pos c97).symm | exact (if_neg c97).symm, σ2, j2, e22⟩
          · have c29 := n_nle (a := 10) (b := i) (by decide) (by omega) c29
            have hi6 : HI (up2 hh 6 i 0) := hi.up (by decide) (fun _ => rg_nI (n := 0) (by omega) (by omega))
            refine x_ald0 h dX7_mended_32 ?_
            refine r_X7_23 h dX7_mended_33 ?_
            refine x_ald0 h dX7_mended_36 ?_
            refine r_X7_10 h dX7_mended_37 ?_
            refine vCV1 (10 * 2) h cs_X7_195 (t_become B _ _ _ _ _) (obj_h (by decide)) rfl ⟨rfl, rfl⟩ ⟨Nat.le_of_ble_eq_true rfl, Nat.le_of_ble_eq_true rfl⟩ (Nat.le_of_ble_eq_true rfl) dX7_mended_40 (fun s40 p40 => ?_)
            obtain rfl := p40
            refine x_ald0 h dX7_mended_43 ?_
            refine r_X7_23 h dX7_mended_44 ?_
            refine r2_X7_138 h dX7_mended_47 ?_
            refine x_ild5 h dX7_mended_50 ?_
            refine x_iconst (v := 0) h dX7_mended_52 rfl ?_
            refine xc_iastN (i) (rfl) (by omega) (by decide) h 26 (⟨by decide, fun _ _ => rfl⟩ : ArrC 26 10) dX7_mended_53 ?_
            rw [show up2 (TS σ hh stk (σ 31) hh) 26 i 0 = TS σ hh stk (σ 31) (up2 hh 6 i 0) from TS_up (f := 6) (by decide)]
            refine x_ald0 h dX7_mended_54 ?_
            refine r_X7_23 h dX7_mended_55 ?_
            refine x_ild1 h dX7_mended_58 ?_
            refine x_ald0 h dX7_mended_59 ?_
            refine r_X7_47 h dX7_mended_60 ?_
            refine vCI2 (10 * 2) h cs_X7_174 (t_passHours B σ hh _ _ (up2 hh 6 i 0) hi6 rfl hT n' (by omega)) (obj_h (by decide)) rfl ⟨rfl, rfl⟩ ⟨Nat.le_of_ble_eq_true rfl, Nat.le_of_ble_eq_true rfl⟩ (Nat.le_of_ble_eq_true rfl) dX7_mended_63 (fun r63 s63 p63 => ?_)
            obtain ⟨stk, rfl⟩ := p63
            refine x_pop h dX7_mended_66 rfl ?_
            refine x_ald0 h dX7_mended_67 ?_
            refine r_X7_23 h dX7_mended_68 ?_
            refine vCI0 (10 * 2) h cs_X7_186 (t_allSoles B _ _ _ _ _ (hi6.hours gC_GR n')) (obj_h (by decide)) rfl ⟨rfl, rfl⟩ ⟨Nat.le_of_ble_eq_true rfl, Nat.le_of_ble_eq_true rfl⟩ (Nat.le_of_ble_eq_true rfl) dX7_mended_71 (fun r71 s71 p71 => ?_)
            obtain ⟨rfl, rfl⟩ := p71
            refine x_ist6 h dX7_mended_74 (by rw [hk]; decide) rfl ?_
            refine x_ild6 h dX7_mended_76 ?_
            refine x_ild4 h dX7_mended_78 ?_
            refine x_icmp_le 90 h dX7_mended_80 (by decide) (fun c80 => ?_) (fun c80 => ?_)
            · have e2 : (mxL (fun r => sSum (sHours (gC σ (hh 9 0)) (up2 hh 6 r 0) n') 3) (-1) (i + 1)) = (mxL (fun r => sSum (sHours (gC σ (hh 9 0)) (up2 hh 6 r 0) n') 3) (-1) i) := if_neg (Int32.not_lt.mpr c80)
              refine x_inc5 (y := 1) h dX7_mended_90 (by rw [hk]; decide) rfl rfl ?_
              refine x_goto 25 h dX7_mended_93 (by decide) ?_
              rw [nI_1 i]
              refine x_loc (Lsb.s (Lsb.s (Lsb.s (Lsb.s (Lsb.s (Lsb.s (Lsb.n Lsb.e))))))) ?_
              have ih := ih (i + 1) stk (sHours (gC σ (hh 9 0)) (up2 hh 6 i 0) n') (by omega) (by omega)
              rw [e2] at ih
              exact ih
            · have e2 : (mxL (fun r => sSum (sHours (gC σ (hh 9 0)) (up2 hh 6 r 0) n') 3) (-1) (i + 1)) = (i, (fun r => sSum (sHours (gC σ (hh 9 0)) (up2 hh 6 r 0) n') 3) i) := if_pos (Int32.not_le.mp c80)
              refine x_ild5 h dX7_mended_83 ?_
              refine x_ist3 h dX7_mended_85 (by rw [hk]; decide) rfl ?_
              refine x_ild6 h dX7_mended_86 ?_
              refine x_ist4 h dX7_mended_88 (by rw [hk]; decide) rfl ?_
              refine x_inc5 (y := 1) h dX7_mended_90 (by rw [hk]; decide) rfl rfl ?_
              refine x_goto 25 h dX7_mended_93 (by decide) ?_
              rw [nI_1 i]
              refine x_loc (Lsb.s (Lsb.s (Lsb.s (Lsb.s (Lsb.s (Lsb.s (Lsb.n Lsb.e))))))) ?_
              have ih := ih (i + 1) stk (sHours (gC σ (hh 9 0)) (up2 hh 6 i 0) n') (by omega) (by omega)
              rw [e2] at ih
              exact ih
      exact loop 11 0 (σ 39) _ (by omega) (by omega)
    · have c11 := bI_0.mp c11
      refine x_ldc h kc_X7_85 dX7_mended_14 ?_
      refine x_iret h hr ?_ dX7_mended_16
      exact ⟨_, _, rfl, rfl, by simp_all [-Int32.not_lt, -Int32.not_le, aMended], σ, Jk.rf, rfl⟩
set_option maxRecDepth 100000 in
set_option maxHeartbeats 4000000 in
theorem c_X7_leads (B : BT) (σ : Nat → Nat → Int32) (hh : HT) (hi : HI hh) (hT : CT σ (hh 9 0)) (p n w : Int32) : CI B yX7_leads cX7_leads 7 (some .int) ({ frames := 7, cells := 0, slots := 0, locals := 202 }) [.ref (aB B 30), .int p, .int n, .int w] (sH σ 0 hh) (fun r σ' => r = aLeads (gC σ (hh 9 0)) hh p n w ∧ ∃ σ2, Jk σ σ2 ∧ σ' = sH σ2 0 hh) := by
  refine MX.of2 RX7 (by decide) rfl ⟨rfl, rfl⟩ (Nat.le_of_ble_eq_true rfl) (by rfl) (fun k h hr hk => ?_)
  show XC B k (sH σ 0 hh) 0 [some (.ref (aB B 30)), some (.int p), some (.int n), some (.int w), none, none, none] []
  refine x_ild1 h dX7_leads_0 ?_
  refine sCI1 h cs_X7_76 (c_X7_isRoom B _ _) ⟨rfl, rfl⟩ ⟨Nat.le_of_ble_eq_true rfl, Nat.le_of_ble_eq_true rfl⟩ (Nat.le_of_ble_eq_true rfl) dX7_leads_1 (fun r1 s1 p1 => ?_)
  obtain ⟨rfl, rfl⟩ := p1
  rw [bR]
  refine x_if_eq 21 h dX7_leads_4 (by decide) (fun c4 => ?_) (fun c4 => ?_)
  · have c4 := bI_0.mp c4
    refine x_ldc h kc_X7_85 dX7_leads_21 ?_
    refine x_iret h hr ?_ dX7_leads_23
    exact ⟨_, _, rfl, rfl, by simp_all [-Int32.not_lt, -Int32.not_le, aLeads], σ, Jk.rf, rfl⟩
  · have c4 := bI_n.mp c4
    obtain ⟨e, he, rfl⟩ := isR_of c4
    have ee : ix (nI e) = e := ix_n (by omega)
    refine x_ild2 h dX7_leads_7 ?_
    refine sCI1 h cs_X7_209 (c_X7_isShortRun B _ _) ⟨rfl, rfl⟩ ⟨Nat.le_of_ble_eq_true rfl, Nat.le_of_ble_eq_true rfl⟩ (Nat.le_of_ble_eq_true rfl) dX7_leads_8 (fun r8 s8 p8 => ?_)
    obtain ⟨rfl, rfl⟩ := p8
    rw [bSh]
    refine x_if_eq 21 h dX7_leads_11 (by decide) (fun c11 => ?_) (fun c11 => ?_)
    · have c11 := bI_0.mp c11
      refine x_ldc h kc_X7_85 dX7_leads_21 ?_
      refine x_iret h hr ?_ dX7_leads_23
      exact ⟨_, _, rfl, rfl, by simp_all [-Int32.not_lt, -Int32.not_le, aLeads], σ, Jk.rf, rfl⟩
    · have c11 := bI_n.mp c11
      obtain ⟨n', hn0, hn60, rfl⟩ := isSh_of c11
      refine x_ild3 h dX7_leads_14 ?_
      refine sCI1 h cs_X7_212 (c_X7_isOneOfTwo B _ _) ⟨rfl, rfl⟩ ⟨Nat.le_of_ble_eq_true rfl, Nat.le_of_ble_eq_true rfl⟩ (Nat.le_of_ble_eq_true rfl) dX7_leads_15 (fun r15 s15 p15 => ?_)
      obtain ⟨rfl, rfl⟩ := p15
      rw [b2]
      refine x_if_ne 24 h dX7_leads_18 (by decide) (fun c18 => ?_) (fun c18 => ?_)
      · have c18 := bI_n.mp c18
        have e0 : aLeads (gC σ (hh 9 0)) hh (nI e) (nI n') w = (if w = 0 then nI (mnL (fun r => sHours (gC σ (hh 9 0)) (up2 hh 7 e (nI r)) n' 0 10) 2147483647 10).1 else (mnL (fun r => sHours (gC σ (hh 9 0)) (up2 hh 7 e (nI r)) n' 0 10) 2147483647 10).2) := by
          rw [show aLeads (gC σ (hh 9 0)) hh (nI e) (nI n') w = _ from if_pos ⟨c4, c11, c18⟩, ix_n (n := n') (by omega), ee]
        rw [TS_0]
        refine x_iconst (v := 0) h dX7_leads_24 rfl ?_
        refine x_ist4 h dX7_leads_25 (by rw [hk]; decide) rfl ?_
        refine x_ldc h kc_X7_221 dX7_leads_27 ?_
        refine x_ist5 h dX7_leads_29 (by rw [hk]; decide) rfl ?_
        refine x_iconst (v := 0) h dX7_leads_31 rfl ?_
        refine x_ist6 h dX7_leads_32 (by rw [hk]; decide) rfl ?_
        have loop : ∀ (f i : Nat) (stk : Nat → Int32) (th : HT), 10 < f + i → i ≤ 10 → XC B k (TS σ hh stk (σ 31) th) 34 [some (.ref (aB B 30)), some (.int (nI e)), some (.int (nI n')), some (.int w), some (.int (nI (mnL (fun r => sHours (gC σ (hh 9 0)) (up2 hh 7 e (nI r)) n' 0 10) 2147483647 i).1)), some (.int (mnL (fun r => sHours (gC σ (hh 9 0)) (up2 hh 7 e (nI r)) n' 0 10) 2147483647 i).2), some (.int (nI i))] [] := by
          intro f
          induction f with
          | zero => intro i stk th h1 h2; omega
          | succ f ih =>
            intro i stk th h1 h2
            refine x_ild6 h dX7_leads_34 ?_
            refine x_bipush (v := 10) h dX7_leads_36 rfl ?_
            refine x_icmp_ge 107 h dX7_leads_38 (by decide) (fun c38 => ?_) (fun c38 => ?_)
            · have c38 := n_le (a := 10) (by decide) (by omega) c38
              have ei : i = 10 := by omega
              subst ei
              refine x_ild3 h dX7_leads_107 ?_
              refine x_if_ne 116 h dX7_leads_108 (by decide) (fun c108 => ?_) (fun c108 => ?_)
              · refine x_ild5 h dX7_leads_116 ?_
                refine x_iret h hr ?_ dX7_leads_118
                obtain ⟨σ2, j2, e22⟩ : ∃ σ2, Jk σ σ2 ∧ TS σ hh _ _ _ = sH σ2 0 hh := TS_J
                exact ⟨_, _, rfl, rfl, by rw [e0]; first | exact (if_pos c108).symm | exact (if_neg c108).symm, σ2, j2, e22⟩
              · refine x_ild4 h dX7_leads_111 ?_
                refine x_goto 118 h dX7_leads_113 (by decide) ?_
                refine x_iret h hr ?_ dX7_leads_118
                obtain ⟨σ2, j2, e22⟩ : ∃ σ2, Jk σ σ2 ∧ TS σ hh _ _ _ = sH σ2 0 hh := TS_J
                exact ⟨_, _, rfl, rfl, by rw [e0]; first | exact (if_pos c108).symm | exact (if_neg c108).symm, σ2, j2, e22⟩
            · have c38 := n_nle (a := 10) (b := i) (by decide) (by omega) c38
              have hi6 : HI (up2 hh 7 e (nI i)) := hi.up (by decide) (fun _ => rg_nI (by omega) (by show i ≤ 9; omega))
              refine x_ald0 h dX7_leads_41 ?_
              refine r_X7_23 h dX7_leads_42 ?_
              refine x_ald0 h dX7_leads_45 ?_
              refine r_X7_10 h dX7_leads_46 ?_
              refine vCV1 (10 * 2) h cs_X7_195 (t_become B _ _ _ _ _) (obj_h (by decide)) rfl ⟨rfl, rfl⟩ ⟨Nat.le_of_ble_eq_true rfl, Nat.le_of_ble_eq_true rfl⟩ (Nat.le_of_ble_eq_true rfl) dX7_leads_49 (fun s49 p49 => ?_)
              obtain rfl := p49
              refine x_ald0 h dX7_leads_52 ?_
              refine r_X7_23 h dX7_leads_53 ?_
              refine r2_X7_141 h dX7_leads_56 ?_
              refine x_ild1 h dX7_leads_59 ?_
              refine x_ild6 h dX7_leads_60 ?_
              refine xc_iastN (e) (rfl) (by omega) (by decide) h 27 (⟨by decide, fun _ _ => rfl⟩ : ArrC 27 10) dX7_leads_62 ?_
              rw [show up2 (TS σ hh stk (σ 31) hh) 27 e (nI i) = TS σ hh stk (σ 31) (up2 hh 7 e (nI i)) from TS_up (f := 7) (by decide)]
              refine x_ald0 h dX7_leads_63 ?_
              refine r_X7_23 h dX7_leads_64 ?_
              refine x_ild2 h dX7_leads_67 ?_
              refine x_ald0 h dX7_leads_68 ?_
              refine r_X7_47 h dX7_leads_69 ?_
              refine vCI2 (10 * 2) h cs_X7_174 (t_passHours B σ hh _ _ (up2 hh 7 e (nI i)) hi6 rfl hT n' (by omega)) (obj_h (by decide)) rfl ⟨rfl, rfl⟩ ⟨Nat.le_of_ble_eq_true rfl, Nat.le_of_ble_eq_true rfl⟩ (Nat.le_of_ble_eq_true rfl) dX7_leads_72 (fun r72 s72 p72 => ?_)
              obtain ⟨stk, rfl⟩ := p72
              refine x_pop h dX7_leads_75 rfl ?_
              refine x_ald0 h dX7_leads_76 ?_
              refine r_X7_23 h dX7_leads_77 ?_
              refine r2_X7_177 h dX7_leads_80 ?_
              change XC B k _ _ _ (.int ((sHours (gC σ (hh 9 0)) (up2 hh 7 e (nI i)) n') 0 10) :: _)
              refine x_ild5 h dX7_leads_83 ?_
              refine x_icmp_ge 101 h dX7_leads_85 (by decide) (fun c85 => ?_) (fun c85 => ?_)
              · have e2 : (mnL (fun r => sHours (gC σ (hh 9 0)) (up2 hh 7 e (nI r)) n' 0 10) 2147483647 (i + 1)) = (mnL (fun r => sHours (gC σ (hh 9 0)) (up2 hh 7 e (nI r)) n' 0 10) 2147483647 i) := if_neg (Int32.not_lt.mpr c85)
                refine x_inc6 (y := 1) h dX7_leads_101 (by rw [hk]; decide) rfl rfl ?_
                refine x_goto 34 h dX7_leads_104 (by decide) ?_
                rw [nI_1 i]
                have ih := ih (i + 1) stk (sHours (gC σ (hh 9 0)) (up2 hh 7 e (nI i)) n') (by omega) (by omega)
                rw [e2] at ih
                exact ih
              · have e2 : (mnL (fun r => sHours (gC σ (hh 9 0)) (up2 hh 7 e (nI r)) n' 0 10) 2147483647 (i + 1)) = (i, (fun r => sHours (gC σ (hh 9 0)) (up2 hh 7 e (nI r)) n' 0 10) i) := if_pos (Int32.not_le.mp c85)
                refine x_ild6 h dX7_leads_88 ?_
                refine x_ist4 h dX7_leads_90 (by rw [hk]; decide) rfl ?_
                refine x_ald0 h dX7_leads_92 ?_
                refine r_X7_23 h dX7_leads_93 ?_
                refine r2_X7_177 h dX7_leads_96 ?_
                change XC B k _ _ _ (.int ((sHours (gC σ (hh 9 0)) (up2 hh 7 e (nI i)) n') 0 10) :: _)
                refine x_ist5 h dX7_leads_99 (by rw [hk]; decide) rfl ?_
                refine x_inc6 (y := 1) h dX7_leads_101 (by rw [hk]; decide) rfl rfl ?_
                refine x_goto 34 h dX7_leads_104 (by decide) ?_
                rw [nI_1 i]
                have ih := ih (i + 1) stk (sHours (gC σ (hh 9 0)) (up2 hh 7 e (nI i)) n') (by omega) (by omega)
                rw [e2] at ih
                exact ih
        exact loop 11 0 (σ 39) _ (by omega) (by omega)
      · have c18 := bI_0.mp c18
        refine x_ldc h kc_X7_85 dX7_leads_21 ?_
        refine x_iret h hr ?_ dX7_leads_23
        exact ⟨_, _, rfl, rfl, by simp_all [-Int32.not_lt, -Int32.not_le, aLeads], σ, Jk.rf, rfl⟩
set_option maxRecDepth 100000 in
set_option maxHeartbeats 4000000 in
theorem c_X7_began (B : BT) (σ : Nat → Nat → Int32) (hh : HT) (hi : HI hh) (hT : CT σ (hh 9 0)) (x n : Int32) : CI B yX7_began cX7_began 6 (some .int) ({ frames := 5, cells := 0, slots := 0, locals := 155 }) [.ref (aB B 30), .int x, .int n] (sH σ 0 hh) (fun r σ' => r = aBegan (gC σ (hh 9 0)) hh x n ∧ ∃ σ2, Jk σ σ2 ∧ σ' = sH σ2 0 hh) := by
  refine MX.of2 RX7 (by decide) rfl ⟨rfl, rfl⟩ (Nat.le_of_ble_eq_true rfl) (by rfl) (fun k h hr hk => ?_)
  show XC B k (sH σ 0 hh) 0 [some (.ref (aB B 30)), some (.int x), some (.int n), none, none, none] []
  refine x_ald0 h dX7_began_0 ?_
  refine x_ild1 h dX7_began_1 ?_
  refine vCI1 30 h cs_X7_94 (c_X7_isDancer B _ _) (⟨by decide, fun _ _ => rfl⟩ : ObjC 30 6) rfl ⟨rfl, rfl⟩ ⟨Nat.le_of_ble_eq_true rfl, Nat.le_of_ble_eq_true rfl⟩ (Nat.le_of_ble_eq_true rfl) dX7_began_2 (fun r2 s2 p2 => ?_)
  obtain ⟨rfl, rfl⟩ := p2
  rw [bD]
  refine x_if_eq 18 h dX7_began_5 (by decide) (fun c5 => ?_) (fun c5 => ?_)
  · have c5 := bI_0.mp c5
    refine x_ldc h kc_X7_85 dX7_began_18 ?_
    refine x_iret h hr ?_ dX7_began_20
    exact ⟨_, _, rfl, rfl, by simp_all [-Int32.not_lt, -Int32.not_le, aBegan], σ, Jk.rf, rfl⟩
  · have c5 := bI_n.mp c5
    obtain ⟨d, hd, rfl⟩ := isD_of c5 hi
    have hd12 := hi.n.1
    have ed : ix (nI d) = d := ix_n (by omega)
    refine x_ild2 h dX7_began_8 ?_
    refine x_if_lt 18 h dX7_began_9 (by decide) (fun c9 => ?_) (fun c9 => ?_)
    · refine x_ldc h kc_X7_85 dX7_began_18 ?_
      refine x_iret h hr ?_ dX7_began_20
      exact ⟨_, _, rfl, rfl, by simp_all [-Int32.not_lt, -Int32.not_le, aBegan], σ, Jk.rf, rfl⟩
    · refine x_ild2 h dX7_began_12 ?_
      refine x_bipush (v := 60) h dX7_began_13 rfl ?_
      refine x_icmp_le 21 h dX7_began_15 (by decide) (fun c15 => ?_) (fun c15 => ?_)
      · have c15' := c15
        obtain ⟨n', hn, rfl⟩ := nI_of c9
        have c15 := n_le (b := 60) hn (by decide) c15
        have e0 : aBegan (gC σ (hh 9 0)) hh (nI d) (nI n') = bitsF (fun r => decide (bgH (gC σ (hh 9 0)) hh d r n' 2 d = hh 2 d)) 10 := by
          rw [show aBegan (gC σ (hh 9 0)) hh (nI d) (nI n') = _ from if_pos ⟨c5, c9, c15'⟩, ix_n hn, ed]
        rw [TS_0]
        refine x_iconst (v := 0) h dX7_began_21 rfl ?_
        refine x_ist3 h dX7_began_22 (by rw [hk]; decide) rfl ?_
        refine x_iconst (v := 0) h dX7_began_23 rfl ?_
        refine x_ist4 h dX7_began_24 (by rw [hk]; decide) rfl ?_
        have loop : ∀ (f r : Nat) (stk : Nat → Int32) (th : HT), 10 < f + r → r ≤ 10 → XC B k (TS σ hh stk (σ 31) th) 26 [some (.ref (aB B 30)), some (.int (nI d)), some (.int (nI n')), some (.int (bitsF (fun r => decide (bgH (gC σ (hh 9 0)) hh d r n' 2 d = hh 2 d)) r)), some (.int (nI r)), none] [] := by
          intro f
          induction f with
          | zero => intro r stk th h1 h2; omega
          | succ f ih =>
            intro r stk th h1 h2
            refine x_ild4 h dX7_began_26 ?_
            refine x_bipush (v := 10) h dX7_began_28 rfl ?_
            refine x_icmp_ge 130 h dX7_began_30 (by decide) (fun c30 => ?_) (fun c30 => ?_)
            · have c30 := n_le (a := 10) (by decide) (by omega) c30
              have er : r = 10 := by omega
              subst er
              refine x_ild3 h dX7_began_130 ?_
              refine x_iret h hr ?_ dX7_began_131
              obtain ⟨σ2, j2, e22⟩ : ∃ σ2, Jk σ σ2 ∧ TS σ hh _ _ _ = sH σ2 0 hh := TS_J
              exact ⟨_, _, rfl, rfl, e0.symm, σ2, j2, e22⟩
            · have c30 := n_nle (a := 10) (b := r) (by decide) (by omega) c30
              refine x_ald0 h dX7_began_33 ?_
              refine r_X7_23 h dX7_began_34 ?_
              refine x_ald0 h dX7_began_37 ?_
              refine r_X7_10 h dX7_began_38 ?_
              refine vCV1 (10 * 2) h cs_X7_195 (t_become B _ _ _ _ _) (obj_h (by decide)) rfl ⟨rfl, rfl⟩ ⟨Nat.le_of_ble_eq_true rfl, Nat.le_of_ble_eq_true rfl⟩ (Nat.le_of_ble_eq_true rfl) dX7_began_41 (fun s41 p41 => ?_)
              obtain rfl := p41
              refine x_ald0 h dX7_began_44 ?_
              refine r_X7_23 h dX7_began_45 ?_
              refine r2_X7_100 h dX7_began_48 ?_
              refine x_ild1 h dX7_began_51 ?_
              refine x_ild4 h dX7_began_52 ?_
              refine xc_iastN (d) (rfl) (by omega) (by decide) h 22 (⟨by decide, fun _ _ => rfl⟩ : ArrC 22 12) dX7_began_54 ?_
              rw [show up2 (TS σ hh stk (σ 31) hh) 22 d (nI r) = TS σ hh stk (σ 31) (bgH (gC σ (hh 9 0)) hh d r 0) from TS_up (f := 2) (by decide)]
              refine x_iconst (v := 0) h dX7_began_55 rfl ?_
              refine x_ist5 h dX7_began_56 (by rw [hk]; decide) rfl ?_
              have K96 : ∀ stk, XC B k (TS σ hh stk (σ 31) (bgH (gC σ (hh 9 0)) hh d r n')) 96 [some (.ref (aB B 30)), some (.int (nI d)), some (.int (nI n')), some (.int (bitsF (fun r => decide (bgH (gC σ (hh 9 0)) hh d r n' 2 d = hh 2 d)) r)), some (.int (nI r)), some (.int (nI n'))] [] := by
                intro stk
                refine x_ald0 h dX7_began_96 ?_
                refine r_X7_23 h dX7_began_97 ?_
                refine r2_X7_100 h dX7_began_100 ?_
                refine x_ild1 h dX7_began_103 ?_
                refine xc_ialdN (d) (rfl) (by omega) (by decide) h 22 (⟨by decide, fun _ _ => rfl⟩ : ArrC 22 12) dX7_began_104 ?_
                change XC B k _ _ _ (.int ((bgH (gC σ (hh 9 0)) hh d r n') 2 (d)) :: _)
                refine x_ald0 h dX7_began_105 ?_
                refine r_X7_10 h dX7_began_106 ?_
                refine r0_X7_100 h dX7_began_109 ?_
                refine x_ild1 h dX7_began_112 ?_
                refine xc_ialdN (d) (rfl) (by omega) (by decide) h 2 (⟨by decide, fun _ _ => rfl⟩ : ArrC 2 12) dX7_began_113 ?_
                change XC B k _ _ _ (.int (hh 2 (d)) :: _)
                refine x_icmp_ne 124 h dX7_began_114 (by decide) (fun c114 => ?_) (fun c114 => ?_)
                · have eb : bitsF (fun r => decide (bgH (gC σ (hh 9 0)) hh d r n' 2 d = hh 2 d)) (r + 1) = bitsF (fun r => decide (bgH (gC σ (hh 9 0)) hh d r n' 2 d = hh 2 d)) r := bitsF_f (by simpa using c114)
                  refine x_inc4 (y := 1) h dX7_began_124 (by rw [hk]; decide) rfl rfl ?_
                  refine x_goto 26 h dX7_began_127 (by decide) ?_
                  rw [nI_1 r, ← eb]
                  refine x_loc (Lsb.s (Lsb.s (Lsb.s (Lsb.s (Lsb.s (Lsb.n Lsb.e)))))) ?_
                  exact ih (r + 1) stk (bgH (gC σ (hh 9 0)) hh d r n') (by omega) (by omega)
                · have eb : bitsF (fun r => decide (bgH (gC σ (hh 9 0)) hh d r n' 2 d = hh 2 d)) (r + 1) = bitsF (fun r => decide (bgH (gC σ (hh 9 0)) hh d r n' 2 d = hh 2 d)) r ||| ((1 : Int32) <<< (nI r &&& 31)) := bitsF_t (by simpa using c114)
                  refine x_ild3 h dX7_began_117 ?_
                  refine x_iconst (v := 1) h dX7_began_118 rfl ?_
                  refine x_ild4 h dX7_began_119 ?_
                  refine x_ishl h dX7_began_121 ?_
                  refine x_ior h dX7_began_122 ?_
                  refine x_ist3 h dX7_began_123 (by rw [hk]; decide) rfl ?_
                  refine x_inc4 (y := 1) h dX7_began_124 (by rw [hk]; decide) rfl rfl ?_
                  refine x_goto 26 h dX7_began_127 (by decide) ?_
                  rw [nI_1 r, ← eb]
                  refine x_loc (Lsb.s (Lsb.s (Lsb.s (Lsb.s (Lsb.s (Lsb.n Lsb.e)))))) ?_
                  exact ih (r + 1) stk (bgH (gC σ (hh 9 0)) hh d r n') (by omega) (by omega)
              have loopi : ∀ (f i : Nat) (stk : Nat → Int32), n' < f + i → i ≤ n' → XC B k (TS σ hh stk (σ 31) (bgH (gC σ (hh 9 0)) hh d r i)) 58 [some (.ref (aB B 30)), some (.int (nI d)), some (.int (nI n')), some (.int (bitsF (fun r => decide (bgH (gC σ (hh 9 0)) hh d r n' 2 d = hh 2 d)) r)), some (.int (nI r)), some (.int (nI i))] [] := by
                intro f
                induction f with
                | zero => intro i stk h1 h2; omega
                | succ f ihi =>
                  intro i stk h1 h2
                  refine x_ild5 h dX7_began_58 ?_
                  refine x_ild2 h dX7_began_60 ?_
                  refine x_icmp_ge 96 h dX7_began_61 (by decide) (fun c61 => ?_) (fun c61 => ?_)
                  · have c61 := n_le (by omega) (by omega) c61
                    have ei : i = n' := by omega
                    subst ei
                    exact K96 stk
                  · have c61 := n_nle (by omega) (by omega) c61
                    have hiB := bgH_I gC_GR hi (g := (gC σ (hh 9 0))) (d := d) (r := r) (by omega) c30 i
                    refine x_ald0 h dX7_began_64 ?_
                    refine r_X7_23 h dX7_began_65 ?_
                    refine x_ild1 h dX7_began_68 ?_
                    refine x_ald0 h dX7_began_69 ?_
                    refine r_X7_47 h dX7_began_70 ?_
                    refine vCI2 (10 * 2) h cs_X7_218 (t_walk B σ hh _ _ (bgH (gC σ (hh 9 0)) hh d r i) hiB (bgH_9 i) hT d (by omega)) (obj_h (by decide)) rfl ⟨rfl, rfl⟩ ⟨Nat.le_of_ble_eq_true rfl, Nat.le_of_ble_eq_true rfl⟩ (Nat.le_of_ble_eq_true rfl) dX7_began_73 (fun r73 s73 p73 => ?_)
                    obtain ⟨stk, rfl⟩ := p73
                    refine x_pop h dX7_began_76 rfl ?_
                    refine x_ald0 h dX7_began_77 ?_
                    refine r_X7_23 h dX7_began_78 ?_
                    refine x_dup h dX7_began_81 rfl ?_
                    refine r2_X7_171 h dX7_began_82 ?_
                    change XC B k _ _ _ (.int ((sWalk (gC σ (hh 9 0)) (bgH (gC σ (hh 9 0)) hh d r i) d) 0 12) :: _)
                    refine x_iconst (v := 1) h dX7_began_85 rfl ?_
                    refine x_iadd h dX7_began_86 ?_
                    refine w2_X7_171 h dX7_began_87 ?_
                    rw [show up2 (TS σ hh stk (σ 31) (sWalk (gC σ (hh 9 0)) (bgH (gC σ (hh 9 0)) hh d r i) d)) 20 12 (sWalk (gC σ (hh 9 0)) (bgH (gC σ (hh 9 0)) hh d r i) d 0 12 + 1) = TS σ hh stk (σ 31) (bgH (gC σ (hh 9 0)) hh d r (i + 1)) from TS_up (f := 0) (by decide)]
                    refine x_inc5 (y := 1) h dX7_began_90 (by rw [hk]; decide) rfl rfl ?_
                    refine x_goto 58 h dX7_began_93 (by decide) ?_
                    rw [nI_1 i]
                    exact ihi (i + 1) stk (by omega) (by omega)
              exact loopi (n' + 1) 0 stk (by omega) (by omega)
        exact loop 11 0 (σ 39) _ (by omega) (by omega)
      · refine x_ldc h kc_X7_85 dX7_began_18 ?_
        refine x_iret h hr ?_ dX7_began_20
        exact ⟨_, _, rfl, rfl, by simp_all [-Int32.not_lt, -Int32.not_le, aBegan], σ, Jk.rf, rfl⟩
