/-! a house: its numbers as h field place. 0: its own numbers (0 dancers, 9 watch, 10 seen, 11 looked, 12 hour, 13 z, 14 texts); 1 kind, 2 at, 3 sole, 4 steps, 5 danced, 6 floor, 7 leads, 8 marks, 9 counting -/
abbrev HT : Type := Nat → Nat → Int32
abbrev WT : Type := Int32 → Int32 → Int32 → Int32
def ix (x : Int32) : Nat := x.toNatClampNeg
theorem ix_n {n : Nat} (h : n < 2 ^ 31) : ix (nI n) = n := nI_clamp h
def sGoes (h : HT) (d : Nat) : Int32 := if h 3 d = 0 then 0 else kGoes (h 1 d) (h 4 d) (h 0 12)
def sWears (g : WT) (h : HT) (d : Nat) : Int32 := kWears (h 1 d) (g (h 6 (ix (h 2 d))) (h 3 d) (h 5 d))
def sLeaves (h : HT) (d : Nat) : Int32 := kLeaves (h 1 d) (h 6 (ix (h 2 d)))
def sSt1 (h : HT) (d : Nat) : HT := up2 (up2 h 2 d (h 7 (ix (h 2 d)))) 5 d (h 5 d + 1)
def sSt2 (g : WT) (h : HT) (d : Nat) : HT := up2 (sSt1 h d) 3 d (jmx 0 (sSt1 h d 3 d - sWears g (sSt1 h d) d))
def sStep (g : WT) (h : HT) (d : Nat) : HT := up2 (sSt2 g h d) 8 (ix (sSt2 g h d 2 d)) (sSt2 g h d 8 (ix (sSt2 g h d 2 d)) + sLeaves (sSt2 g h d) d)
/-- at most n rooms -/
def sWk (g : WT) (d : Nat) : Nat → HT → HT
  | 0, h => h
  | n + 1, h => if 0 < h 3 d then sWk g d n (sStep g h d) else h
def sWc (g : WT) (d : Nat) : Nat → HT → Nat
  | 0, _ => 0
  | n + 1, h => if 0 < h 3 d then sWc g d n (sStep g h d) + 1 else 0
def sWalk (g : WT) (h : HT) (d : Nat) : HT := sWk g d (ix (sGoes h d)) h
def sGone (g : WT) (h : HT) (d : Nat) : Nat := sWc g d (ix (sGoes h d)) h
/-- the first n dancers, one behind the other -/
def sDs (g : WT) (h : HT) : Nat → HT
  | 0 => h
  | n + 1 => sWalk g (sDs g h n) n
def sGs (g : WT) (h : HT) : Nat → Int32
  | 0 => 0
  | n + 1 => sGs g h n + nI (sGone g (sDs g h n) n)
def nz (z : Int32) : Int32 := z * 1103515245 + 12345
def dz (z : Int32) : Int32 := jush (nz z) 8
def sZ (h : HT) : HT := up2 h 0 13 (nz (h 0 13))
def bitsF (c : Nat → Bool) : Nat → Int32
  | 0 => 0
  | n + 1 => if c n = true then bitsF c n ||| ((1 : Int32) <<< (nI n &&& 31)) else bitsF c n
def sumF (f : Nat → Int32) : Nat → Int32
  | 0 => 0
  | n + 1 => sumF f n + f n
def sN (h : HT) : Nat := ix (h 0 0)
def sAt (h : HT) (r : Int32) : Int32 := bitsF (fun d => decide (h 2 d = r)) (sN h)
def sBare (h : HT) : Int32 := bitsF (fun d => decide (h 3 d = 0)) (sN h)
def sMarked (h : HT) : Int32 := bitsF (fun r => decide (0 < h 8 r)) 10
def sMarks (h : HT) : Int32 := sumF (h 8) 10
def sSum (h : HT) (f : Nat) : Int32 := sumF (h f) (sN h)
/-- how many bits of a set -/
def sP1 (x : Int32) : Int32 := x - (jush x 1 &&& 1431655765)
def sP2 (x : Int32) : Int32 := (sP1 x &&& 858993459) + (jush (sP1 x) 2 &&& 858993459)
def sP3 (x : Int32) : Int32 := (sP2 x + jush (sP2 x) 4) &&& 252645135
def sP4 (x : Int32) : Int32 := sP3 x + jush (sP3 x) 8
def sP5 (x : Int32) : Int32 := sP4 x + jush (sP4 x) 16
def sPop (x : Int32) : Int32 := sP5 x &&& 63
def sLook (h : HT) : HT := if jrem (dz (h 0 13)) 100 < h 0 9 then
    up2 (sZ (up2 (sZ h) 0 11 (h 0 11 + 1))) 0 10 (h 0 10 + sPop (sAt h (jrem (dz (nz (h 0 13))) 10)))
  else sZ h
def sHour (g : WT) (h : HT) : HT := up2 (sLook (sDs g h (sN h))) 0 12 (sLook (sDs g h (sN h)) 0 12 + 1)
def sHours (g : WT) (h : HT) : Nat → HT
  | 0 => h
  | n + 1 => sHour g (sHours g h n)
def sGoneH (g : WT) (h : HT) : Nat → Int32
  | 0 => 0
  | n + 1 => sGoneH g h n + sGs g (sHours g h n) (sN (sHours g h n))
/-- what always holds of a house -/
def lim (f : Nat) : Nat := if f = 2 then 9 else if f = 3 then 999 else if f = 4 then 5 else if f = 6 then 9 else if f = 7 then 9 else 0
def HI (h : HT) : Prop := (∃ N, N ≤ 12 ∧ h 0 0 = nI N) ∧ ∀ f k, k < hlen f → lim f ≠ 0 → rg (h f k) 0 (lim f)
def GR (g : WT) : Prop := ∀ f s d, rg f 0 9 → rg (g f s d) 0 99
theorem rg_ix {x : Int32} {a b : Nat} (h : rg x a b) (hb : b < 2 ^ 31) : a ≤ ix x ∧ ix x ≤ b ∧ x = nI (ix x) := by
  obtain ⟨n, rfl, h1, h2⟩ := h
  rw [ix_n (by omega)]
  exact ⟨h1, h2, rfl⟩
theorem rg_nI {n a b : Nat} (h1 : a ≤ n) (h2 : n ≤ b) : rg (nI n) a b := ⟨n, rfl, h1, h2⟩
theorem HI.n {h : HT} (hi : HI h) : sN h ≤ 12 ∧ h 0 0 = nI (sN h) := by
  obtain ⟨⟨N, h1, h2⟩, -⟩ := hi
  unfold sN
  rw [h2, ix_n (by omega)]
  exact ⟨h1, rfl⟩
/-- wholes of integers -/
theorem ti (x y : Int32) : (x < y ↔ x.toInt < y.toInt) ∧ (x ≤ y ↔ x.toInt ≤ y.toInt) := ⟨Int32.lt_iff_toInt_lt, Int32.le_iff_toInt_le⟩
theorem jmx0 {a : Int} {x : Int32} (hx : x.toInt = a) (ha : a < 2 ^ 31) : ∃ n : Nat, jmx 0 x = nI n ∧ (n : Int) = max 0 a := by
  unfold jmx
  by_cases h : (0 : Int32) < x
  · rw [if_pos h]
    have h1 := Int32.lt_iff_toInt_lt.mp h
    rw [Int32.toInt_zero, hx] at h1
    refine ⟨a.toNat, Int32.toInt_inj.mp ?_, by omega⟩
    rw [nI_toInt (by omega), hx]
    omega
  · rw [if_neg h]
    have h1 : ¬ (0 : Int32).toInt < x.toInt := fun q => h (Int32.lt_iff_toInt_lt.mpr q)
    rw [Int32.toInt_zero, hx] at h1
    exact ⟨0, rfl, by omega⟩
theorem lim_le (f : Nat) : lim f ≤ 999 := by unfold lim; (repeat' split) <;> omega
theorem HI.at {h : HT} (hi : HI h) {d : Nat} (hd : d < 12) : rg (h 2 d) 0 9 := hi.2 2 d hd (by decide)
theorem HI.sole {h : HT} (hi : HI h) {d : Nat} (hd : d < 12) : rg (h 3 d) 0 999 := hi.2 3 d hd (by decide)
theorem HI.steps {h : HT} (hi : HI h) {d : Nat} (hd : d < 12) : rg (h 4 d) 0 5 := hi.2 4 d hd (by decide)
theorem HI.floor {h : HT} (hi : HI h) {r : Nat} (hr : r < 10) : rg (h 6 r) 0 9 := hi.2 6 r hr (by decide)
theorem HI.leads {h : HT} (hi : HI h) {r : Nat} (hr : r < 10) : rg (h 7 r) 0 9 := hi.2 7 r hr (by decide)
theorem HI.up {h : HT} (hi : HI h) {f k : Nat} {v : Int32} (h0 : f ≠ 0) (hv : lim f ≠ 0 → rg v 0 (lim f)) : HI (up2 h f k v) := by
  obtain ⟨⟨N, h1, h2⟩, h3⟩ := hi
  refine ⟨⟨N, h1, by rw [up2_n (fun q => h0 q.symm)]; exact h2⟩, fun f' k' hk hl => ?_⟩
  by_cases e : f' = f
  · subst e
    rw [up2_s]
    by_cases e2 : k' = k
    · subst e2
      rw [upd_s]
      exact hv hl
    · rw [upd_n e2]
      exact h3 f' k' hk hl
  · rw [up2_n e]
    exact h3 f' k' hk hl
theorem HI.up0 {h : HT} (hi : HI h) {k : Nat} {v : Int32} (h0 : k ≠ 0) : HI (up2 h 0 k v) := by
  obtain ⟨⟨N, h1, h2⟩, h3⟩ := hi
  refine ⟨⟨N, h1, by rw [up2_s, upd_n (fun q => h0 q.symm)]; exact h2⟩, fun f' k' hk hl => ?_⟩
  have e : f' ≠ 0 := fun q => hl (by rw [q]; rfl)
  rw [up2_n e]
  exact h3 f' k' hk hl
theorem rg_t {x : Int32} {b : Nat} (h0 : 0 ≤ x.toInt) (h1 : x.toInt ≤ b) (hb : b < 2 ^ 31) : rg x 0 b := by
  refine rg_of hb (by rw [Int32.le_iff_toInt_le]; exact h0) ?_ (by omega)
  rw [Int32.le_iff_toInt_le, nI_toInt hb]
  exact h1
theorem rg_ti {x : Int32} {a b : Nat} (h : rg x a b) (hb : b < 2 ^ 31) : (a : Int) ≤ x.toInt ∧ x.toInt ≤ b := by
  obtain ⟨n, rfl, h1, h2⟩ := h
  rw [nI_toInt (by omega)]
  omega
theorem rg_w {x : Int32} {a b a' b' : Nat} (h : rg x a b) (ha : a' ≤ a) (hb : b ≤ b') : rg x a' b' := by
  obtain ⟨n, rfl, h1, h2⟩ := h
  exact ⟨n, rfl, by omega, by omega⟩
theorem kWears_rg {k a : Int32} (h : rg a 0 99) : rg (kWears k a) 0 201 := by
  obtain ⟨n, rfl, -, hn⟩ := h
  unfold kWears
  have e2 : nI n / 2 = nI (n / 2) := pk_div (a := n) (d := 2) (by omega) (by omega) (by omega)
  have m2 : nI n * 2 = nI (n * 2) := pk_mul n 2
  rw [e2, m2]
  split
  · exact rg_nI (by omega) (by omega)
  · split
    · exact rg_nI (by omega) (by omega)
    · split
      · obtain ⟨q, h1, h2⟩ := jmx0 (x := nI (n / 2) - 1) (a := (n / 2 : Nat) - 1) (pk_sub_toInt (a := n / 2) (b := 1) (by omega) (by omega)) (by omega)
        rw [h1]
        exact rg_nI (by omega) (by omega)
      · split
        · rw [show nI (n * 2) + 3 = nI (n * 2 + 3) from nI_add (n * 2) 3]
          exact rg_nI (by omega) (by omega)
        · split
          · rw [show nI n + 1 = nI (n + 1) from nI_add n 1]
            exact rg_nI (by omega) (by omega)
          · exact rg_nI (by omega) (by omega)
theorem kGoes_rg {k t hr : Int32} (h : rg t 0 5) : rg (kGoes k t hr) 0 7 := by
  obtain ⟨n, rfl, -, hn⟩ := h
  unfold kGoes
  obtain ⟨q, h1, h2⟩ := jmx0 (x := nI n - 1) (a := (n : Nat) - 1) (pk_sub_toInt (a := n) (b := 1) (by omega) (by omega)) (by omega)
  rw [h1, show nI n / 2 = nI (n / 2) from pk_div (a := n) (d := 2) (by omega) (by omega) (by omega)]
  split
  · exact rg_nI (by omega) (by omega)
  · split
    · rw [show nI q + 2 = nI (q + 2) from nI_add q 2]
      exact rg_nI (by omega) (by omega)
    · split
      · exact rg_nI (by omega) (by omega)
      · split
        · split
          · rw [show nI n + 1 = nI (n + 1) from nI_add n 1]
            exact rg_nI (by omega) (by omega)
          · exact rg_nI (by omega) (by omega)
        · exact rg_nI (by omega) (by omega)
theorem sGoes_rg {h : HT} (hi : HI h) {d : Nat} (hd : d < 12) : rg (sGoes h d) 0 7 := by
  unfold sGoes
  split
  · exact ⟨0, rfl, by omega, by omega⟩
  · exact kGoes_rg (hi.steps hd)
theorem sWears_rg {g : WT} (hg : GR g) {h : HT} (hi : HI h) {d : Nat} (hd : d < 12) : rg (sWears g h d) 0 201 := by
  have h1 := rg_ix (hi.at hd) (by omega)
  exact kWears_rg (hg _ _ _ (hi.floor (by omega)))
theorem HI.st1 {h : HT} (hi : HI h) {d : Nat} (hd : d < 12) : HI (sSt1 h d) := by
  have h1 := rg_ix (hi.at hd) (by omega)
  exact (hi.up (by decide) (fun _ => hi.leads (by omega))).up (by decide) (fun q => absurd rfl q)
theorem less_rg {s w : Int32} {b : Nat} (hs : rg s 0 b) (hw : rg w 0 201) (hb : b ≤ 999) : rg (jmx 0 (s - w)) 0 b := by
  obtain ⟨m, rfl, -, hm⟩ := hs
  obtain ⟨n, rfl, -, hn⟩ := hw
  obtain ⟨q, h1, h2⟩ := jmx0 (x := nI m - nI n) (a := (m : Int) - n) (pk_sub_toInt (by omega) (by omega)) (by omega)
  rw [h1]
  exact rg_nI (by omega) (by omega)
theorem HI.st2 {g : WT} (hg : GR g) {h : HT} (hi : HI h) {d : Nat} (hd : d < 12) : HI (sSt2 g h d) :=
  (hi.st1 hd).up (by decide) (fun _ => less_rg ((hi.st1 hd).sole hd) (sWears_rg hg (hi.st1 hd) hd) (by decide))
theorem HI.step {g : WT} (hg : GR g) {h : HT} (hi : HI h) {d : Nat} (hd : d < 12) : HI (sStep g h d) := (hi.st2 hg hd).up (by decide) (fun q => absurd rfl q)
theorem HI.wk {g : WT} (hg : GR g) {d : Nat} (hd : d < 12) : ∀ (n : Nat) {h : HT}, HI h → HI (sWk g d n h)
  | 0, _, hi => hi
  | n + 1, h, hi => by
    unfold sWk
    split
    · exact HI.wk hg hd n (hi.step hg hd)
    · exact hi
theorem HI.ds {g : WT} (hg : GR g) {h : HT} (hi : HI h) : ∀ (n : Nat), n ≤ 12 → HI (sDs g h n)
  | 0, _ => hi
  | n + 1, hn => HI.wk hg (by omega) _ (HI.ds hg hi n (by omega))
theorem HI.z {h : HT} (hi : HI h) : HI (sZ h) := hi.up0 (by decide)
theorem HI.look {h : HT} (hi : HI h) : HI (sLook h) := by
  unfold sLook
  split
  · exact (((hi.z).up0 (by decide)).z).up0 (by decide)
  · exact hi.z
theorem HI.hour {g : WT} (hg : GR g) {h : HT} (hi : HI h) : HI (sHour g h) := ((hi.ds hg _ hi.n.1).look).up0 (by decide)
theorem HI.hours {g : WT} (hg : GR g) {h : HT} (hi : HI h) : ∀ n, HI (sHours g h n)
  | 0 => hi
  | n + 1 => (HI.hours hg hi n).hour hg
/-- what a walk leaves -/
theorem sStep_o {g : WT} {h : HT} {d f k : Nat} (hf : f ≠ 2 ∧ f ≠ 3 ∧ f ≠ 5 ∧ f ≠ 8) : sStep g h d f k = h f k := by
  unfold sStep sSt2 sSt1
  rw [up2_n hf.2.2.2, up2_n hf.2.1, up2_n hf.2.2.1, up2_n hf.1]
theorem sStep_f {g : WT} {h : HT} {d f : Nat} (hf : f ≠ 2 ∧ f ≠ 3 ∧ f ≠ 5 ∧ f ≠ 8) : sStep g h d f = h f := funext fun _ => sStep_o hf
theorem sWk_f {g : WT} {d f : Nat} (hf : f ≠ 2 ∧ f ≠ 3 ∧ f ≠ 5 ∧ f ≠ 8) : ∀ (n : Nat) (h : HT), sWk g d n h f = h f
  | 0, _ => rfl
  | n + 1, h => by
    unfold sWk
    split
    · rw [sWk_f hf n, sStep_f hf]
    · rfl
theorem sDs_f {g : WT} {h : HT} {f : Nat} (hf : f ≠ 2 ∧ f ≠ 3 ∧ f ≠ 5 ∧ f ≠ 8) : ∀ n, sDs g h n f = h f
  | 0 => rfl
  | n + 1 => by
    unfold sDs sWalk
    rw [sWk_f hf, sDs_f hf n]
theorem sDs_N {g : WT} {h : HT} {n : Nat} : sN (sDs g h n) = sN h := by unfold sN; rw [sDs_f (by decide)]
