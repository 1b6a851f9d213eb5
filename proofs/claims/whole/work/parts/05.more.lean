/-! more instructions -/
section XM5
variable {G : GT} {k : KT} {cc : ByteArray} {own : String} {rm : Room} {ce : Nat → va_E} {pc : Nat} {L : List (Option Value)} {st : List Value}
def jush (x y : Int32) : Int32 := (x.toUInt32 >>> (y.toUInt32 &&& Int32.toUInt32 31)).toInt32
theorem x_ishl {x y : Int32} (h : Ok G k cc own rm) (hdg : decode cc pc = .ok (.ishl, 1)) (kk : X G k ce (pc + 1) L (.int (x <<< (y &&& 31)) :: st)) : X G k ce pc L (.int y :: .int x :: st) := fun H locs ls hP hD hS hl => lv_ishl h.1 h.2.1 hdg (kk H locs ls hP hD hS hl)
theorem x_ishr {x y : Int32} (h : Ok G k cc own rm) (hdg : decode cc pc = .ok (.ishr, 1)) (kk : X G k ce (pc + 1) L (.int (x >>> (y &&& 31)) :: st)) : X G k ce pc L (.int y :: .int x :: st) := fun H locs ls hP hD hS hl => lv_ishr h.1 h.2.1 hdg (kk H locs ls hP hD hS hl)
theorem x_iushr {x y : Int32} (h : Ok G k cc own rm) (hdg : decode cc pc = .ok (.iushr, 1)) (kk : X G k ce (pc + 1) L (.int (jush x y) :: st)) : X G k ce pc L (.int y :: .int x :: st) := fun H locs ls hP hD hS hl => lv_iushr h.1 h.2.1 hdg rfl (kk H locs ls hP hD hS hl)
theorem x_i2s {x : Int32} (h : Ok G k cc own rm) (hdg : decode cc pc = .ok (.i2s, 1)) (kk : X G k ce (pc + 1) L (.int x.toInt16.toInt32 :: st)) : X G k ce pc L (.int x :: st) := fun H locs ls hP hD hS hl => lv_i2s h.1 h.2.1 hdg rfl (kk H locs ls hP hD hS hl)
theorem x_i2l {x : Int32} (h : Ok G k cc own rm) (hdg : decode cc pc = .ok (.i2l, 1)) (kk : X G k ce (pc + 1) L (.long x.toInt64 :: st)) : X G k ce pc L (.int x :: st) := fun H locs ls hP hD hS hl => lv_i2l h.1 h.2.1 hdg rfl (kk H locs ls hP hD hS hl)
theorem x_l2i {x : Int64} (h : Ok G k cc own rm) (hdg : decode cc pc = .ok (.l2i, 1)) (kk : X G k ce (pc + 1) L (.int x.toInt32 :: st)) : X G k ce pc L (.long x :: st) := fun H locs ls hP hD hS hl => lv_l2i h.1 h.2.1 hdg rfl (kk H locs ls hP hD hS hl)
theorem x_ineg {x : Int32} (h : Ok G k cc own rm) (hdg : decode cc pc = .ok (.ineg, 1)) (kk : X G k ce (pc + 1) L (.int (-x) :: st)) : X G k ce pc L (.int x :: st) := fun H locs ls hP hD hS hl => lv_ineg h.1 h.2.1 hdg (kk H locs ls hP hD hS hl)
theorem x_ladd {x y : Int64} (h : Ok G k cc own rm) (hdg : decode cc pc = .ok (.ladd, 1)) (kk : X G k ce (pc + 1) L (.long (x + y) :: st)) : X G k ce pc L (.long y :: .long x :: st) := fun H locs ls hP hD hS hl => lv_ladd h.1 h.2.1 hdg (kk H locs ls hP hD hS hl)
theorem x_lsub {x y : Int64} (h : Ok G k cc own rm) (hdg : decode cc pc = .ok (.lsub, 1)) (kk : X G k ce (pc + 1) L (.long (x - y) :: st)) : X G k ce pc L (.long y :: .long x :: st) := fun H locs ls hP hD hS hl => lv_lsub h.1 h.2.1 hdg (kk H locs ls hP hD hS hl)
theorem x_lneg {x : Int64} (h : Ok G k cc own rm) (hdg : decode cc pc = .ok (.lneg, 1)) (kk : X G k ce (pc + 1) L (.long (-x) :: st)) : X G k ce pc L (.long x :: st) := fun H locs ls hP hD hS hl => lv_lneg h.1 h.2.1 hdg (kk H locs ls hP hD hS hl)
theorem x_lcmp {x y : Int64} (h : Ok G k cc own rm) (hdg : decode cc pc = .ok (.lcmp, 1)) (kk : X G k ce (pc + 1) L (.int (lg_cmp x y) :: st)) : X G k ce pc L (.long y :: .long x :: st) := fun H locs ls hP hD hS hl => W.lcmp h.1 h.2.1 hdg (kk H locs ls hP hD hS hl)
theorem x_pop {v : Value} (h : Ok G k cc own rm) (hdg : decode cc pc = .ok (.pop, 1)) (hc : v.category = 1) (kk : X G k ce (pc + 1) L st) : X G k ce pc L (v :: st) := fun H locs ls hP hD hS hl => lv_pop h.1 h.2.1 hdg hc (kk H locs ls hP hD hS hl)
theorem x_dup2 {v w : Value} (h : Ok G k cc own rm) (hdg : decode cc pc = .ok (.dup2, 1)) (hc : v.category = 1) (hc2 : w.category = 1) (kk : X G k ce (pc + 1) L (v :: w :: v :: w :: st)) : X G k ce pc L (v :: w :: st) := fun H locs ls hP hD hS hl => lv_dup2_11 h.1 h.2.1 hdg hc hc2 (kk H locs ls hP hD hS hl)
theorem x_ifnull_r {x : Nat} {off : Int} (h : Ok G k cc own rm) (hdg : decode cc pc = .ok (.ifnull off, 3)) (kk : X G k ce (pc + 3) L st) : X G k ce pc L (.ref x :: st) := fun H locs ls hP hD hS hl => lv_ifnull h.1 h.2.1 hdg (kk H locs ls hP hD hS hl)
theorem x_ifnull_n {off : Int} (tgt : Nat) (h : Ok G k cc own rm) (hdg : decode cc pc = .ok (.ifnull off, 3)) (ht : (pc : Int) + off = (tgt : Int)) (kk : X G k ce tgt L st) : X G k ce pc L (.null :: st) := fun H locs ls hP hD hS hl => lv_ifnullN h.1 h.2.1 hdg ht (kk H locs ls hP hD hS hl)
theorem x_ifnonnull_r {x : Nat} {off : Int} (tgt : Nat) (h : Ok G k cc own rm) (hdg : decode cc pc = .ok (.ifnonnull off, 3)) (ht : (pc : Int) + off = (tgt : Int)) (kk : X G k ce tgt L st) : X G k ce pc L (.ref x :: st) := fun H locs ls hP hD hS hl => lv_ifnonnull h.1 h.2.1 hdg ht (kk H locs ls hP hD hS hl)
theorem x_ifnonnull_n {off : Int} (h : Ok G k cc own rm) (hdg : decode cc pc = .ok (.ifnonnull off, 3)) (kk : X G k ce (pc + 3) L st) : X G k ce pc L (.null :: st) := fun H locs ls hP hD hS hl => lv_ifnonnullN h.1 h.2.1 hdg (kk H locs ls hP hD hS hl)
theorem x_topi {x : Int32} (kk : ∀ y : Int32, y = x → X G k ce pc L (.int y :: st)) : X G k ce pc L (.int x :: st) := kk x rfl
theorem x_tin {dflt lo hi : Int} {offs : Array Int} {len : Nat} {x : Int32} {off : Int} (tgt : Nat) (h : Ok G k cc own rm) (hdg : decode cc pc = .ok (.tableswitch dflt lo hi offs, len)) (h1 : ¬ x.toInt < lo) (h2 : ¬ hi < x.toInt) (ho : offs[(x.toInt - lo).toNat]? = some off) (ht : (pc : Int) + off = (tgt : Int)) (kk : X G k ce tgt L st) : X G k ce pc L (.int x :: st) := fun H locs ls hP hD hS hl => lv_tableIn h.1 h.2.1 hdg h1 h2 ho ht (kk H locs ls hP hD hS hl)
theorem x_tout {dflt lo hi : Int} {offs : Array Int} {len : Nat} {x : Int32} (tgt : Nat) (h : Ok G k cc own rm) (hdg : decode cc pc = .ok (.tableswitch dflt lo hi offs, len)) (h1 : x.toInt < lo ∨ hi < x.toInt) (ht : (pc : Int) + dflt = (tgt : Int)) (kk : X G k ce tgt L st) : X G k ce pc L (.int x :: st) := fun H locs ls hP hD hS hl => lv_tableOut h.1 h.2.1 hdg h1 ht (kk H locs ls hP hD hS hl)
theorem x_lk {dflt : Int} {ps : Array (Int × Int)} {len : Nat} {x : Int32} {off : Int} (tgt : Nat) (h : Ok G k cc own rm) (hdg : decode cc pc = .ok (.lookupswitch dflt ps, len)) (hp : (ps.toList.zip (ps.toList.drop 1)).all (fun (a, next) => a.1 < next.1) = true) (ho : Op.lookupswitch.offset ps.toList dflt x.toInt = off) (ht : (pc : Int) + off = (tgt : Int)) (kk : X G k ce tgt L st) : X G k ce pc L (.int x :: st) := fun H locs ls hP hD hS hl => lv_lookup h.1 h.2.1 hdg hp ho ht (kk H locs ls hP hD hS hl)
end XM5
/-! numbers -/
theorem n_le {a b : Nat} (ha : a < 2 ^ 31) (hb : b < 2 ^ 31) (h : nI a ≤ nI b) : a ≤ b := (nI_leI ha hb).mp h
theorem n_nle {a b : Nat} (ha : a < 2 ^ 31) (hb : b < 2 ^ 31) (h : ¬ nI a ≤ nI b) : b < a := Nat.lt_of_not_le (fun q => h ((nI_leI ha hb).mpr q))
theorem n_lt {a b : Nat} (ha : a < 2 ^ 31) (hb : b < 2 ^ 31) (h : nI a < nI b) : a < b := (nI_ltI ha hb).mp h
theorem n_nlt {a b : Nat} (ha : a < 2 ^ 31) (hb : b < 2 ^ 31) (h : ¬ nI a < nI b) : b ≤ a := Nat.le_of_not_lt (fun q => h ((nI_ltI ha hb).mpr q))
theorem n_eq {a b : Nat} (ha : a < 2 ^ 31) (hb : b < 2 ^ 31) (h : nI a = nI b) : a = b := (nI_eq ha hb).mp h
/-- a small number that isn't negative -/
def rg (x : Int32) (a b : Nat) : Prop := ∃ n : Nat, x = nI n ∧ a ≤ n ∧ n ≤ b
theorem rg_in {x : Int32} {a b N : Nat} (h : rg x a b) (hb : b < N) (hN : N < 2 ^ 31) : vp_in x N := by
  obtain ⟨n, rfl, -, h2⟩ := h
  exact vp_in_nI (by omega) hN
theorem rg_of {x : Int32} {a b : Nat} (hb : b < 2 ^ 31) (h1 : nI a ≤ x) (h2 : x ≤ nI b) (ha : a < 2 ^ 31) : rg x a b := by
  have h3 := Int32.le_iff_toInt_le.mp h1
  have h4 := Int32.le_iff_toInt_le.mp h2
  rw [nI_toInt ha] at h3
  rw [nI_toInt hb] at h4
  obtain ⟨j, hj, rfl⟩ := nI_of (x := x) (by rw [Int32.lt_iff_toInt_lt]; have : (0 : Int32).toInt = 0 := rfl; omega)
  rw [nI_toInt hj] at h3 h4
  exact ⟨j, rfl, by omega, by omega⟩
theorem rg_le {x : Int32} {a b : Nat} (h : rg x a b) (hb : b < 2 ^ 31) : nI a ≤ x ∧ x ≤ nI b := by
  obtain ⟨n, rfl, h1, h2⟩ := h
  exact ⟨nI_le h1 (by omega), nI_le h2 hb⟩
theorem upd_s {f : Nat → Int32} {k : Nat} {x : Int32} : upd f k x k = x := if_pos rfl
theorem upd_n {f : Nat → Int32} {k j : Nat} {x : Int32} (h : j ≠ k) : upd f k x j = f j := if_neg h
theorem up2_s {σ : Nat → Nat → Int32} {q i : Nat} {x : Int32} : up2 σ q i x q = upd (σ q) i x := if_pos rfl
theorem up2_n {σ : Nat → Nat → Int32} {q q' i : Nat} {x : Int32} (h : q' ≠ q) : up2 σ q i x q' = σ q' := if_neg h
theorem up1_s {σ : Nat → Nat → Int32} {q : Nat} {f : Nat → Int32} : up1 σ q f q = f := if_pos rfl
theorem up1_n {σ : Nat → Nat → Int32} {q q' : Nat} {f : Nat → Int32} (h : q' ≠ q) : up1 σ q f q' = σ q' := if_neg h
theorem up1_self {σ : Nat → Nat → Int32} {q : Nat} : up1 σ q (σ q) = σ := by
  funext q'
  unfold up1
  by_cases h : q' = q
  · rw [if_pos h, h]
  · rw [if_neg h]
theorem up1_up1 {σ : Nat → Nat → Int32} {q : Nat} {f g : Nat → Int32} : up1 (up1 σ q f) q g = up1 σ q g := by
  funext q'
  unfold up1
  by_cases h : q' = q
  · rw [if_pos h, if_pos h]
  · rw [if_neg h, if_neg h, if_neg h]
theorem up1_up2 {σ : Nat → Nat → Int32} {q i : Nat} {x : Int32} : up2 σ q i x = up1 σ q (upd (σ q) i x) := rfl
theorem up1_comm {σ : Nat → Nat → Int32} {p q : Nat} {f g : Nat → Int32} (hpq : p ≠ q) : up1 (up1 σ p f) q g = up1 (up1 σ q g) p f := by
  funext r
  unfold up1
  by_cases h1 : r = p <;> by_cases h2 : r = q
  · exact absurd (h1.symm.trans h2) hpq
  · rw [if_neg h2, if_pos h1, if_pos h1]
  · rw [if_pos h2, if_neg h1, if_pos h2]
  · rw [if_neg h2, if_neg h1, if_neg h1, if_neg h2]
theorem sH_up1o {σ : Nat → Nat → Int32} {j q : Nat} {f : Nat → Int32} {h : Nat → Nat → Int32} (hq : q < 10 * j ∨ 10 * j + 10 ≤ q) : up1 (sH σ j h) q f = sH (up1 σ q f) j h := by
  funext r
  unfold up1 sH
  by_cases h1 : r = q
  · subst h1
    rw [if_pos rfl, if_neg (by omega)]
    exact (if_pos rfl).symm
  · rw [if_neg h1]
    by_cases h2 : 10 * j ≤ r ∧ r < 10 * j + 10
    · rw [if_pos h2, if_pos h2]
    · rw [if_neg h2, if_neg h2]
      exact (if_neg h1).symm
/-! rows of ints, the place a written number -/
theorem hlen_le (f : Nat) : hlen f ≤ 12 := by unfold hlen; split <;> first | omega | (split <;> omega)
theorem mlen_le (q : Nat) : mlen q ≤ 1469 := by unfold mlen; split <;> omega
section XN5
variable {B : BT} {k : KT} {cc : ByteArray} {own : String} {rm : Room} {σ μ : Nat → Nat → Int32} {δ : Nat → Int64} {pc : Nat} {L : List (Option Value)} {st : List Value}
theorem xc_ialdN {n : Nat} {i : Int32} (m : Nat) (hi : i = nI m) (hm : m < n) (hn : n < 2 ^ 31) (h : Ok (GC B) k cc own rm) (q : Nat) (hq : ArrC q n) (hdg : decode cc pc = .ok (.iaload, 1)) (kk : XC B k σ (pc + 1) L (.int (σ q m) :: st)) : XC B k σ pc L (.int i :: .ref (aB B q) :: st) := by
  subst hi
  refine xc_iald h q hq (vp_in_nI hm hn) hdg ?_
  rw [nI_clamp (by omega)]
  exact kk
theorem xc_iastN {n : Nat} {i x : Int32} (m : Nat) (hi : i = nI m) (hm : m < n) (hn : n < 2 ^ 31) (h : Ok (GC B) k cc own rm) (q : Nat) (hq : ArrC q n) (hdg : decode cc pc = .ok (.iastore, 1)) (kk : XC B k (up2 σ q m x) (pc + 1) L st) : XC B k σ pc L (.int x :: .int i :: .ref (aB B q) :: st) := by
  subst hi
  refine xc_iast h q hq (vp_in_nI hm hn) hdg ?_
  rw [nI_clamp (by omega)]
  exact kk
theorem xh_ialdN {j : Nat} {hh : Nat → Nat → Int32} {i : Int32} (m : Nat) (hi : i = nI m) (f : Nat) (hm : m < hlen f) (h : Ok (GC B) k cc own rm) (hj : j < 3) (h0 : 0 < f) (hf : f < 10) (hdg : decode cc pc = .ok (.iaload, 1)) (kk : XC B k (sH σ j hh) (pc + 1) L (.int (hh f m) :: st)) : XC B k (sH σ j hh) pc L (.int i :: .ref (aB B (10 * j + f)) :: st) := by
  have h12 := hlen_le f
  subst hi
  refine xh_iald h hj f h0 hf (vp_in_nI hm (by omega)) hdg ?_
  rw [nI_clamp (by omega)]
  exact kk
theorem xh_iastN {j : Nat} {hh : Nat → Nat → Int32} {i x : Int32} (m : Nat) (hi : i = nI m) (f : Nat) (hm : m < hlen f) (h : Ok (GC B) k cc own rm) (hj : j < 3) (h0 : 0 < f) (hf : f < 10) (hdg : decode cc pc = .ok (.iastore, 1)) (kk : XC B k (sH σ j (up2 hh f m x)) (pc + 1) L st) : XC B k (sH σ j hh) pc L (.int x :: .int i :: .ref (aB B (10 * j + f)) :: st) := by
  have h12 := hlen_le f
  subst hi
  refine xh_iast h hj f h0 hf (vp_in_nI hm (by omega)) hdg ?_
  rw [nI_clamp (by omega)]
  exact kk
theorem xm_ialdN {i : Int32} (m : Nat) (hi : i = nI m) (q : Nat) (hm : m < mlen q) (h : Ok (GM B) k cc own rm) (hq : q < 24) (he : ∀ f : Nat → Int32, cellM B q f δ = .inl (iB B 0, mlen q, .inl f)) (hdg : decode cc pc = .ok (.iaload, 1)) (kk : XM B k μ δ (pc + 1) L (.int (μ q m) :: st)) : XM B k μ δ pc L (.int i :: .ref (aB B q) :: st) := by
  have h12 := mlen_le q
  subst hi
  refine xm_iald h q hq he (vp_in_nI hm (by omega)) hdg ?_
  rw [nI_clamp (by omega)]
  exact kk
theorem xm_iastN {i x : Int32} (m : Nat) (hi : i = nI m) (q : Nat) (hm : m < mlen q) (h : Ok (GM B) k cc own rm) (hq : q < 24) (h6 : q ≠ 6) (he : ∀ f : Nat → Int32, cellM B q f δ = .inl (iB B 0, mlen q, .inl f)) (hdg : decode cc pc = .ok (.iastore, 1)) (kk : XM B k (up2 μ q m x) δ (pc + 1) L st) : XM B k μ δ pc L (.int x :: .int i :: .ref (aB B q) :: st) := by
  have h12 := mlen_le q
  subst hi
  refine xm_iast h q hq h6 he (vp_in_nI hm (by omega)) hdg ?_
  rw [nI_clamp (by omega)]
  exact kk
end XN5
/-! rows of references; fewer locals -/
section XR5
variable {G : GT} {B : BT} {k : KT} {cc : ByteArray} {own : String} {rm : Room} {ce : Nat → va_E} {σ : Nat → Nat → Int32} {pc : Nat} {L : List (Option Value)} {st : List Value}
theorem x_aaldQ {n t0 : Nat} {ty : FieldType} {f : Nat → Option Nat} {i : Int32} {v : Value} (m : Nat) (hi : i = nI m) (hm : m < n) (hn : n < 2 ^ 31) (h : Ok G k cc own rm) (q : Nat) (hq : q < gN G) (he : ce q = .inl (gi G t0, n, .inr (.inr (.inr (.inr f))))) (ht : (tysG (gi G))[t0]? = some (gi G t0, ty)) (hty : ty.isReference = true) (hv : va_rf (f m) = v) (hdg : decode cc pc = .ok (.aaload, 1)) (kk : X G k ce (pc + 1) L (v :: st)) : X G k ce pc L (.int i :: .ref (ga G q) :: st) := by
  intro H locs ls hP hD hS hl
  have hg := wl_get (ce := ce) hq
  rw [he] at hg
  subst hv
  subst hi
  have hin : vp_in (nI m) n := vp_in_nI hm hn
  have hcl : (nI m).toNatClampNeg = m := nI_clamp (by omega)
  refine W.aald (v := va_rf (f m)) (ty := ty) h.1 h.2.1 (hP q _ hg) ((h.2.2.2.2.2.1.2 t0 _ ht).1 n (fun j => va_rf (f j))) hty (fun q => by cases q) (by show ¬ (nI m < 0 ∨ (arrV _ _ _).slots.size ≤ _); rw [arrV_size]; exact hin) ?_ rfl rfl hdg (kk H locs ls hP hD hS hl)
  rw [hcl]
  show (arrV _ _ _).slots[_]? = _
  rw [arrV_read _ _ hm]
theorem xc_aaldO {i : Int32} {t : Nat} (hi : i = nI t) (ht : t < 14) (h : Ok (GC B) k cc own rm) (hdg : decode cc pc = .ok (.aaload, 1)) (kk : XC B k σ (pc + 1) L (.ref (aB B (40 + t)) :: st)) : XC B k σ pc L (.int i :: .ref (aB B 79) :: st) :=
  x_aaldQ (t0 := 6) (ty := .array .int) (f := fun i => if i < 14 then some (aB B (40 + i)) else none) t hi ht (by decide) h 79 (by decide : 79 < 82) rfl rfl rfl (by rw [if_pos ht]; rfl) hdg kk
theorem xc_aaldR {i : Int32} {t : Nat} (hi : i = nI t) (ht : t < 4) (h : Ok (GC B) k cc own rm) (hdg : decode cc pc = .ok (.aaload, 1)) (kk : XC B k σ (pc + 1) L (.ref (aB B (54 + 2 * t)) :: st)) : XC B k σ pc L (.int i :: .ref (aB B 80) :: st) :=
  x_aaldQ (t0 := 4) (ty := .object RX4) (f := fun i => if i < 4 then some (aB B (54 + 2 * i)) else none) t hi ht (by decide) h 80 (by decide : 80 < 82) rfl rfl rfl (by rw [if_pos ht]; rfl) hdg kk
theorem xc_aaldS {i : Int32} {t : Nat} (hi : i = nI t) (ht : t < 5) (h : Ok (GC B) k cc own rm) (hdg : decode cc pc = .ok (.aaload, 1)) (kk : XC B k σ (pc + 1) L (.ref (aB B (72 + t)) :: st)) : XC B k σ pc L (.int i :: .ref (aB B 81) :: st) :=
  x_aaldQ (t0 := 5) (ty := .object RX5) (f := fun i => if i < 5 then some (aB B (72 + i)) else none) t hi ht (by decide) h 81 (by decide : 81 < 82) rfl rfl rfl (by rw [if_pos ht]; rfl) hdg kk
def Lsb (L' L : List (Option Value)) : Prop := ∀ (i : Nat) (v : Value), L'[i]? = some (some v) → L[i]? = some (some v)
theorem Lsb.e {L : List (Option Value)} : Lsb [] L := fun i v h => by simp at h
theorem Lsb.s {o : Option Value} {t t' : List (Option Value)} (h : Lsb t' t) : Lsb (o :: t') (o :: t) := fun i v hv => by
  cases i with
  | zero => simpa using hv
  | succ i => exact h i v (by simpa using hv)
theorem Lsb.n {o : Option Value} {t t' : List (Option Value)} (h : Lsb t' t) : Lsb (none :: t') (o :: t) := fun i v hv => by
  cases i with
  | zero => simp at hv
  | succ i => exact h i v (by simpa using hv)
end XR5
theorem up2_up1 {σ : Nat → Nat → Int32} {q m : Nat} {f : Nat → Int32} {v : Int32} : up2 (up1 σ q f) q m v = up1 σ q (upd f m v) := by
  rw [up1_up2, up1_s, up1_up1]
theorem idx1 {d : Nat} (h : 1 ≤ d) : nI d - 1 = nI (d - 1) := pk_sub (a := d) (b := 1) h
theorem idx1b {d : Nat} : nI d - 1 + 1 = nI d := Int32.sub_add_cancel _ _
theorem idx2 {d : Nat} (h : 2 ≤ d) : nI d - 1 + (-1) = nI (d - 2) := by
  rw [idx1 (by omega), show d - 1 = (d - 2) + 1 by omega]
  exact pk_m1 (d - 2)
theorem idx2b {d : Nat} (h : 2 ≤ d) : nI d - 1 + (-1) + 1 = nI (d - 1) := by
  rw [idx2 h, show d - 1 = (d - 2) + 1 by omega]
  exact nI_1 (d - 2)
