/-- what overlaps can be left out -/
theorem cb_su0 : ∀ n, n < 64 → ∀ a, a < 64 → n &&& a = a → ¬ a = 0 → (n ^^^ a) < n ∧ cb (n ^^^ a) < cb n := by decide +kernel
theorem cb_su1 : ∀ n, n < 64 → ∀ a, a < 128 → (64 + n) &&& a = a → ¬ a = 0 → ((64 + n) ^^^ a) < 64 + n ∧ cb ((64 + n) ^^^ a) < cb (64 + n) := by decide +kernel
theorem cb_su2 : ∀ n, n < 64 → ∀ a, a < 256 → (128 + n) &&& a = a → ¬ a = 0 → ((128 + n) ^^^ a) < 128 + n ∧ cb ((128 + n) ^^^ a) < cb (128 + n) := by decide +kernel
theorem cb_su3 : ∀ n, n < 64 → ∀ a, a < 256 → (192 + n) &&& a = a → ¬ a = 0 → ((192 + n) ^^^ a) < 192 + n ∧ cb ((192 + n) ^^^ a) < cb (192 + n) := by decide +kernel
theorem cb_su (n a : Nat) (hn : n < 256) (h : n &&& a = a) (h0 : ¬ a = 0) : (n ^^^ a) < n ∧ cb (n ^^^ a) < cb n := by
  have ha : a ≤ n := by rw [← h]; exact Nat.and_le_left
  rcases (by omega : n < 64 ∨ (64 ≤ n ∧ n < 128) ∨ (128 ≤ n ∧ n < 192) ∨ (192 ≤ n ∧ n < 256)) with q | ⟨q, w⟩ | ⟨q, w⟩ | ⟨q, w⟩
  · exact cb_su0 n q a (by omega) h h0
  · have := cb_su1 (n - 64) (by omega) a (by omega)
    rw [show 64 + (n - 64) = n by omega] at this
    exact this h h0
  · have := cb_su2 (n - 128) (by omega) a (by omega)
    rw [show 128 + (n - 128) = n by omega] at this
    exact this h h0
  · have := cb_su3 (n - 192) (by omega) a (by omega)
    rw [show 192 + (n - 192) = n by omega] at this
    exact this h h0
theorem cb_sub (k : Nat) (hk : k < 256) (n : Nat) (hn : n < 256) (h : ¬ n &&& k = 0) : (n ^^^ (n &&& k)) < n ∧ (n ^^^ (n &&& k)) &&& k = 0 ∧ k ||| (n ^^^ (n &&& k)) = k ||| n ∧ cb (n ^^^ (n &&& k)) < cb n := by
  have e : n &&& (n &&& k) = n &&& k := by
    refine Nat.eq_of_testBit_eq (fun i => ?_)
    simp only [Nat.testBit_and]
    cases n.testBit i <;> cases k.testBit i <;> rfl
  obtain ⟨h1, h2⟩ := cb_su n (n &&& k) hn e h
  refine ⟨h1, ?_, ?_, h2⟩
  · refine Nat.eq_of_testBit_eq (fun i => ?_)
    simp only [Nat.testBit_and, Nat.testBit_xor, Nat.zero_testBit]
    cases n.testBit i <;> cases k.testBit i <;> rfl
  · refine Nat.eq_of_testBit_eq (fun i => ?_)
    simp only [Nat.testBit_and, Nat.testBit_xor, Nat.testBit_or]
    cases n.testBit i <;> cases k.testBit i <;> rfl
