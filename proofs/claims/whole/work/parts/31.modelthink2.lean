/-! who is barefoot stays so -/
def cnt (p : Nat → Bool) : Nat → Nat
  | 0 => 0
  | n + 1 => cnt p n + (if p n = true then 1 else 0)
theorem popa_all : ((List.range 12).all fun i => (List.range 64).all fun a => (List.range 64).all fun b => decide (2 ^ i ≤ 64 * a + b) || decide (sPop (nI (64 * a + b + 2 ^ i)) = sPop (nI (64 * a + b)) + 1)) = true := by decide +kernel
theorem popa_n {i m : Nat} (hi : i < 12) (h : m < 2 ^ i) : sPop (nI (m + 2 ^ i)) = sPop (nI m) + 1 := by
  have h12 : 2 ^ i ≤ 2 ^ 11 := Nat.pow_le_pow_right (by decide) (by omega)
  have h1 := List.all_eq_true.mp (List.all_eq_true.mp (List.all_eq_true.mp popa_all i (List.mem_range.mpr hi)) (m / 64) (List.mem_range.mpr (by omega))) (m % 64) (List.mem_range.mpr (by omega))
  rw [show 64 * (m / 64) + m % 64 = m by omega, Bool.or_eq_true, decide_eq_true_iff, decide_eq_true_iff] at h1
  exact h1.resolve_left (by omega)
theorem pop_cnt {p : Nat → Bool} : ∀ {i : Nat}, i ≤ 12 → sPop (bitsF p i) = nI (cnt p i)
  | 0, _ => by decide
  | i + 1, hi => by
    have ih := pop_cnt (p := p) (i := i) (by omega)
    obtain ⟨m, hm, e⟩ := bits_lt (p := p) (i := i) (by omega)
    show _ = nI (cnt p i + (if p i = true then 1 else 0))
    by_cases h : p i = true
    · rw [bitsF_t h, if_pos h, e, or_n (by omega) hm, popa_n (by omega) hm, ← e, ih, nI_1]
    · rw [bitsF_f h, if_neg h, ih]
      rfl
theorem cnt_mono {p q : Nat → Bool} : ∀ {n : Nat}, (∀ d, d < n → p d = true → q d = true) → cnt p n ≤ cnt q n
  | 0, _ => Nat.le_refl 0
  | n + 1, h => by
    have ih := cnt_mono (n := n) (fun d hd => h d (by omega))
    show cnt p n + (if p n = true then 1 else 0) ≤ cnt q n + (if q n = true then 1 else 0)
    by_cases e : p n = true
    · rw [if_pos e, if_pos (h n (by omega) e)]
      omega
    · rw [if_neg e]
      omega
theorem cnt_le {p : Nat → Bool} : ∀ n, cnt p n ≤ n
  | 0 => Nat.le_refl 0
  | n + 1 => by
    have := cnt_le (p := p) n
    show cnt p n + (if p n = true then 1 else 0) ≤ n + 1
    split <;> omega
theorem sStep_3 {g : WT} {h : HT} {d e : Nat} (hde : e ≠ d) : sStep g h d 3 e = h 3 e := by
  unfold sStep sSt2 sSt1
  rw [up2_n (by decide), up2_s, upd_n hde, up2_n (by decide), up2_n (by decide)]
theorem sWk_3 {g : WT} {d e : Nat} (hde : e ≠ d) : ∀ (n : Nat) (h : HT), sWk g d n h 3 e = h 3 e
  | 0, _ => rfl
  | n + 1, h => by
    unfold sWk
    split
    · rw [sWk_3 hde n, sStep_3 hde]
    · rfl
theorem sWalk_0 {g : WT} {h : HT} {d : Nat} (h0 : h 3 d = 0) : sWalk g h d = h := by
  unfold sWalk
  rw [show sGoes h d = 0 from if_pos h0]
  rfl
theorem sDs_3 {g : WT} {h : HT} {e : Nat} (h0 : h 3 e = 0) : ∀ k, sDs g h k 3 e = 0
  | 0 => h0
  | k + 1 => by
    show sWalk g (sDs g h k) k 3 e = 0
    have ih := sDs_3 (g := g) h0 k
    by_cases q : e = k
    · subst q
      rw [sWalk_0 ih, ih]
    · unfold sWalk
      rw [sWk_3 q, ih]
theorem sHours_3 {g : WT} {h : HT} {e : Nat} (h0 : h 3 e = 0) : ∀ k, sHours g h k 3 e = 0
  | 0 => h0
  | k + 1 => by
    show sHour g (sHours g h k) 3 e = 0
    unfold sHour
    rw [up2_n (by decide), sLook_f (by decide), sDs_3 (sHours_3 h0 k)]
theorem bare_mono {g : WT} {h : HT} (hi : HI h) (k : Nat) : ¬ sPop (sBare (sHours g h k)) < sPop (sBare h) := by
  unfold sBare
  rw [sHours_N, pop_cnt hi.n.1, pop_cnt hi.n.1]
  have h1 := cnt_mono (p := fun d => decide (h 3 d = 0)) (q := fun d => decide (sHours g h k 3 d = 0)) (n := sN h) (fun d _ hd => decide_eq_true (sHours_3 (of_decide_eq_true hd) k))
  have h2 := cnt_le (p := fun d => decide (h 3 d = 0)) (sN h)
  have h3 := cnt_le (p := fun d => decide (sHours g h k 3 d = 0)) (sN h)
  have := hi.n.1
  exact fun z => by have := n_lt (by omega) (by omega) z; omega
theorem thr_e {g : WT} {h : HT} (hi : HI h) {k : Nat} (hne : ¬ sPop (sBare (sHours g h k)) = sPop (sBare h)) : sPop (sBare h) < sPop (sBare (sHours g h k)) :=
  Int32.not_le.mp (fun z => hne (Int32.le_antisymm z (Int32.not_lt.mp (bare_mono hi k))))
