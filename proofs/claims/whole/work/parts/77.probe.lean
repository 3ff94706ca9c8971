/-- how many of the first n lie in k and have the effect x -/
def gC (e : Nat → Nat) (k x : Nat) : Nat → Nat := zfold (fun v a => a + (if k / 2 ^ v % 2 = 1 ∧ e v = x then 1 else 0)) 0
def gG (e : Nat → Nat) (k : Nat) : Nat → Nat := zfold (fun v m => if k / 2 ^ v % 2 = 1 then max m (gC e k (e v) (v + 1)) else m) 0
def gO (e : Nat → Nat) (k : Nat) : Nat → Nat := zfold (fun i m => max m (if k / 2 ^ i % 2 = 1 then gC e k (e i) 10 else 0)) 0
theorem gC_s {e : Nat → Nat} {k x n : Nat} : gC e k x (n + 1) = gC e k x n + (if k / 2 ^ n % 2 = 1 ∧ e n = x then 1 else 0) := rfl
theorem gC_le {e : Nat → Nat} {k x : Nat} : ∀ n, gC e k x n ≤ n
  | 0 => Nat.le_refl _
  | n + 1 => by
    have := gC_le (e := e) (k := k) (x := x) n
    rw [gC_s]; split <;> omega
theorem gC_mono {e : Nat → Nat} {k x n : Nat} : ∀ d, gC e k x n ≤ gC e k x (n + d)
  | 0 => Nat.le_refl _
  | d + 1 => by
    have := gC_mono (e := e) (k := k) (x := x) (n := n) d
    rw [← Nat.add_assoc, gC_s]; omega
theorem gG_s {e : Nat → Nat} {k n : Nat} : gG e k (n + 1) = if k / 2 ^ n % 2 = 1 then max (gG e k n) (gC e k (e n) (n + 1)) else gG e k n := rfl
theorem gO_s {e : Nat → Nat} {k n : Nat} : gO e k (n + 1) = max (gO e k n) (if k / 2 ^ n % 2 = 1 then gC e k (e n) 10 else 0) := rfl
theorem gC_G {e : Nat → Nat} {k x : Nat} : ∀ n, gC e k x n ≤ gG e k n
  | 0 => Nat.le_refl _
  | n + 1 => by
    have ih := gC_G (e := e) (k := k) (x := x) n
    rw [gG_s]
    by_cases q : k / 2 ^ n % 2 = 1
    · rw [if_pos q]
      by_cases w : e n = x
      · subst w; exact Nat.le_max_right _ _
      · rw [gC_s, if_neg (fun z => w z.2)]
        exact Nat.le_trans ih (Nat.le_max_left _ _)
    · rw [if_neg q, gC_s, if_neg (fun z => q z.1)]; exact ih
theorem gO_i {e : Nat → Nat} {k i : Nat} (hb : k / 2 ^ i % 2 = 1) : ∀ n, i < n → gC e k (e i) 10 ≤ gO e k n
  | 0, h => absurd h (Nat.not_lt_zero _)
  | n + 1, h => by
    rw [gO_s]
    by_cases q : i = n
    · subst q; rw [if_pos hb]; exact Nat.le_max_right _ _
    · exact Nat.le_trans (gO_i hb n (by omega)) (Nat.le_max_left _ _)
theorem gO_G {e : Nat → Nat} {k : Nat} : ∀ n, n ≤ 10 → gO e k n ≤ gG e k 10
  | 0, _ => Nat.zero_le _
  | n + 1, h => by
    rw [gO_s]
    refine Nat.max_le.mpr ⟨gO_G n (by omega), ?_⟩
    split
    · exact gC_G 10
    · exact Nat.zero_le _
theorem gG_O {e : Nat → Nat} {k : Nat} : ∀ n, n ≤ 10 → gG e k n ≤ gO e k 10
  | 0, _ => Nat.zero_le _
  | n + 1, h => by
    rw [gG_s]
    by_cases q : k / 2 ^ n % 2 = 1
    · rw [if_pos q]
      refine Nat.max_le.mpr ⟨gG_O n (by omega), ?_⟩
      have h1 := gC_mono (e := e) (k := k) (x := e n) (n := n + 1) (10 - (n + 1))
      rw [show n + 1 + (10 - (n + 1)) = 10 by omega] at h1
      exact Nat.le_trans h1 (gO_i q 10 (by omega))
    · rw [if_neg q]; exact gG_O n (by omega)
theorem gG_e {e : Nat → Nat} {k : Nat} : gG e k 10 = gO e k 10 := Nat.le_antisymm (gG_O 10 (Nat.le_refl _)) (gO_G 10 (Nat.le_refl _))
theorem gG_le {e : Nat → Nat} {k : Nat} : ∀ n, gG e k n ≤ n
  | 0 => Nat.le_refl _
  | n + 1 => by
    have h1 := gG_le (e := e) (k := k) n
    have h2 := gC_le (e := e) (k := k) (x := e n) (n + 1)
    rw [gG_s]; split
    · exact Nat.max_le.mpr ⟨by omega, h2⟩
    · omega
theorem gO_le {e : Nat → Nat} {k : Nat} : ∀ n, gO e k n ≤ 10
  | 0 => Nat.zero_le _
  | n + 1 => by
    have h1 := gO_le (e := e) (k := k) n
    have h2 := gC_le (e := e) (k := k) (x := e n) 10
    rw [gO_s]
    refine Nat.max_le.mpr ⟨h1, ?_⟩
    split
    · exact h2
    · omega
theorem imax_m {a b : Nat} (ha : a < 1000) (hb : b < 1000) : imax (nI a) (nI b) = nI (max a b) := by
  have := imax_n (m := a) (w := b) (q := 0) ha hb (by omega)
  rw [pk_sub (Nat.zero_le _)] at this
  exact this
