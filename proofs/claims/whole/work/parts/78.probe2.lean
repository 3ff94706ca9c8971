theorem bc_k0 : ∀ k, k < 512 → bc (nI k) = nI (cb k) := by decide +kernel
theorem bc_k1 : ∀ k, k < 512 → bc (nI (512 + k)) = nI (cb (512 + k)) := by decide +kernel
theorem bc_k (k : Nat) (h : k < 1024) : bc (nI k) = nI (cb k) := by
  by_cases q : k < 512
  · exact bc_k0 k q
  · have := bc_k1 (k - 512) (by omega)
    rw [show 512 + (k - 512) = k by omega] at this
    exact this
theorem fv_nb {pa ne dn wa : Nat → Int32} {e t : Int32} {kw : Nat} : ∀ n, n ≤ 10 → ∃ k, k < 2 ^ n ∧ fvS pa ne dn wa e t kw n = nI k
  | 0, _ => ⟨0, by decide, rfl⟩
  | n + 1, hn => by
    obtain ⟨k, h1, h2⟩ := fv_nb (pa := pa) (ne := ne) (dn := dn) (wa := wa) (e := e) (t := t) (kw := kw) n (by omega)
    have p1 : (2 : Nat) ^ n < 2 ^ (n + 1) := Nat.pow_lt_pow_right (by decide) (by omega)
    have p2 := pw_le (n := n + 1) (m := 10) (by omega)
    rw [fvS_s, h2]
    split
    · have hb : (1 : Int32) <<< (nI n &&& 31) = nI (2 ^ n) := by
        have h := nI_shl (a := 1) (k := n) (by omega) (by omega)
        rw [Nat.one_mul] at h
        exact h
      rw [hb, nI_or (by omega) (by omega)]
      exact ⟨_, Nat.or_lt_two_pow (by omega) p1, rfl⟩
    · exact ⟨k, by omega, rfl⟩
/-- the class's count: buckets and the greatest -/
theorem gp_e {pa ne dn : Nat → Int32} {c a : Int32} {k : Nat} {e : Nat → Nat} {f : Nat → Int32} (hk : k < 1024) (he : ∀ v, v < 10 → e v < 82 ∧ effB pa ne dn c a (nI v) 0 = nI (e v)) : ∀ n, n ≤ 10 → (gpS pa ne dn c a (nI k) (0, clr 82 f) n).1 = nI (gG e k n) ∧ ∀ x, x < 82 → (gpS pa ne dn c a (nI k) (0, clr 82 f) n).2 x = nI (gC e k x n)
  | 0, _ => ⟨rfl, fun x hx => if_pos hx⟩
  | n + 1, hn => by
    obtain ⟨i1, i2⟩ := gp_e (f := f) hk he n (by omega)
    obtain ⟨e1, e2⟩ := he n (by omega)
    have h1 := gG_le (e := e) (k := k) n
    have h2 := fun x => gC_le (e := e) (k := k) (x := x) n
    have h3 := gC_le (e := e) (k := k) (x := e n) (n + 1)
    rw [gpS_s]
    generalize gpS pa ne dn c a (nI k) (0, clr 82 f) n = z at *
    unfold gpF
    have hb : (nI (k / 2 ^ n % 2) = 1) = (k / 2 ^ n % 2 = 1) := eq_n (n := 1) (by omega) (by decide)
    rw [nI_bit (by omega) (by omega), e2, gG_s]
    simp only [hb]
    by_cases q : k / 2 ^ n % 2 = 1
    · rw [if_pos q, if_pos q, rA_n e1 (by decide), rP_n e1 (by decide), rA_n e1 (by decide), ups, i2 _ e1, show nI (gC e k (e n) n) + 1 = nI (gC e k (e n) (n + 1)) by rw [gC_s, if_pos ⟨q, rfl⟩]; exact nI_add _ 1, i1, imax_m (by omega) (by omega)]
      refine ⟨rfl, fun x hx => ?_⟩
      show upd z.2 (e n) _ x = _
      by_cases w : x = e n
      · subst w; rw [ups]
      · rw [upn w, i2 x hx, gC_s, if_neg (fun y => w y.2.symm), Nat.add_zero]
    · rw [if_neg q, if_neg q]
      refine ⟨i1, fun x hx => ?_⟩
      rw [i2 x hx, gC_s, if_neg (fun y => q y.1), Nat.add_zero]
theorem gpI_e {what s : Nat → Int32} {c a k v : Nat} {e : Nat → Nat} (hk : k < 1024) (hv : v < 10) (he : ∀ v, v < 10 → e v < 82 ∧ a_X11_effectBy what s c a (nI v) 0 = nI (e v)) : ∀ n, n ≤ 10 → gpI what s c a (nI k) v 0 n = nI (if k / 2 ^ v % 2 = 1 then gC e k (e v) n else 0)
  | 0, _ => by split <;> rfl
  | n + 1, hn => by
    have ih := gpI_e hk hv he n (by omega)
    show gpI_F what s c a (nI k) v n (gpI what s c a (nI k) v 0 n) = _
    unfold gpI_F
    have hb : ∀ i, (nI (k / 2 ^ i % 2) = 1) = (k / 2 ^ i % 2 = 1) := fun i => eq_n (n := 1) (by omega) (by decide)
    have he2 : (nI (e v) = nI (e n)) = (e v = e n) := eq_n (by have := (he v hv).1; omega) (by have := (he n (by omega)).1; omega)
    rw [ih, nI_bit (by omega) (by omega), nI_bit (by omega) (by omega), (he v hv).2, (he n (by omega)).2]
    simp only [hb, he2]
    by_cases q : k / 2 ^ v % 2 = 1
    · simp only [if_pos q]
      rw [gC_s]
      by_cases w : k / 2 ^ n % 2 = 1
      · rw [if_pos w, if_neg (show ¬ (1 : Int32) = 0 by decide)]
        by_cases y : e v = e n
        · rw [if_pos y, if_pos ⟨w, y.symm⟩]; exact nI_add _ 1
        · rw [if_neg y, if_neg (fun z => y z.2.symm), Int32.add_zero, Nat.add_zero]
      · rw [if_neg w, if_pos rfl, if_neg (fun z => w z.1), Int32.add_zero, Nat.add_zero]
    · simp only [if_neg q, if_true, Int32.add_zero]
theorem gpO_e {what s : Nat → Int32} {c a k : Nat} {e : Nat → Nat} (hk : k < 1024) (he : ∀ v, v < 10 → e v < 82 ∧ a_X11_effectBy what s c a (nI v) 0 = nI (e v)) : ∀ n, n ≤ 10 → gpO what s c a (nI k) 0 n = nI (gO e k n)
  | 0, _ => rfl
  | n + 1, hn => by
    have ih := gpO_e hk he n (by omega)
    show gpO_F what s c a (nI k) n (gpO what s c a (nI k) 0 n) = _
    unfold gpO_F
    have h1 := gO_le (e := e) (k := k) n
    have h2 := gC_le (e := e) (k := k) (x := e n) 10
    rw [ih, gpI_e hk (show n < 10 by omega) he 10 (Nat.le_refl _), gO_s]
    generalize hg : (if k / 2 ^ n % 2 = 1 then gC e k (e n) 10 else 0) = g
    have hg10 : g ≤ 10 := by rw [← hg]; split <;> omega
    have hle := le_n (k := g) (n := gO e k n) (by omega) (by omega)
    by_cases q : g ≤ gO e k n
    · rw [if_pos (by rw [hle]; exact q), Nat.max_eq_left q]
    · rw [if_neg (by rw [hle]; exact q), Nat.max_eq_right (by omega)]
