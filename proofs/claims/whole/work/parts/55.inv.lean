theorem cb_8 : ∀ s, s < 256 → cb s ≤ 8 := by decide +kernel
theorem cb_or : ∀ s, s < 256 → ∀ c, c < 8 → s / 2 ^ c % 2 = 0 → cb (s ||| 2 ^ c) = cb s + 1 ∧ (s ||| 2 ^ c) / 2 ^ c % 2 = 1 := by decide +kernel
theorem cb_nc : ∀ n, n < 9 → ∀ s, s < 2 ^ n → cb s ≤ n := by decide +kernel
/-- what is so of every duel: persons, fouls, blushes, words, told; result, turns, what is said, passes -/
def DJ (np nc : Nat) (ce : Nat → Int32) (pn F X W K : Nat → Nat) (R T S P : Nat) : Prop := (∀ i, i < 2 → ce i = nI (pn i) ∧ pn i < np) ∧ pn 0 ≠ pn 1 ∧ (ce 2 = nI R ∧ R < 4) ∧ ce 3 = nI T ∧ (ce 4 = nI S ∧ S < 2 ^ nc) ∧ (ce 5 = nI P ∧ P ≤ 2) ∧ (∀ i, i < 2 → ce (6 + i) = nI (X i) ∧ X i < 1100) ∧ (∀ i, i < 2 → ce (8 + i) = nI (F i) ∧ F i ≤ 3) ∧ (∀ i, i < 2 → ce (10 + i) = nI (W i) ∧ W i ≤ 9 * cb S) ∧ (∀ i, i < 8 → ce (12 + i) = nI (K i) ∧ K i ≤ cb S) ∧ T + 2 * (F 0 + F 1) ≤ 4 * cb S + P ∧ (R = 0 → P ≤ 1 ∧ ∀ i, i < 2 → F i ≤ 2 ∧ X i < 1000)
def DI (np nc : Nat) (ce : Nat → Int32) : Prop := ∃ (pn F X W K : Nat → Nat) (R T S P : Nat), DJ np nc ce pn F X W K R T S P
def mD (nc : Nat) (ce : Nat → Int32) : Nat := 2 * (nc - cb (ce 4).toNatClampNeg) + (2 - (ce 5).toNatClampNeg)
def up (f : Nat → Nat) (k v : Nat) : Nat → Nat := fun i => if i = k then v else f i
theorem up_s {f : Nat → Nat} {k v : Nat} : up f k v k = v := if_pos rfl
theorem up_n {f : Nat → Nat} {k v i : Nat} (h : i ≠ k) : up f k v i = f i := if_neg h
theorem pw_le {n m : Nat} (h : n ≤ m) : 2 ^ n ≤ 2 ^ m := Nat.pow_le_pow_right (by decide) h
theorem s256 {S nc : Nat} (h : S < 2 ^ nc) (hn : nc ≤ 8) : S < 256 := Nat.lt_of_lt_of_le h (pw_le (m := 8) hn)
theorem bit1 {c : Nat} (hc : c < 8) : (1 : Int32) <<< (nI c &&& 31) = nI (2 ^ c) := by
  have h := nI_shl (a := 1) (k := c) (by omega) (by have := pw_le (n := c) (m := 8) (by omega); omega)
  rw [Nat.one_mul] at h
  exact h
theorem two2 {s : Nat} {f : Nat → Nat} (hs : s < 2) : f 0 + f 1 = f s + f (1 - s) := by
  have : s = 0 ∨ s = 1 := by omega
  rcases this with rfl | rfl
  · rfl
  · exact Nat.add_comm _ _
theorem DJ.t8 {np nc : Nat} {ce : Nat → Int32} {pn F X W K : Nat → Nat} {T S P s y : Nat} (h : DJ np nc ce pn F X W K 0 T S P) (hs : s < 2) (hnc : nc ≤ 8) : DJ np nc (kT8 ce s (nI (X s - y))) pn F (up X s (X s - y)) W K (if P = 1 then 3 else 0) (T + 1) S (P + 1) := by
  obtain ⟨h1, h2, h3, h4, h5, h6, h7, h8, h9, h10, h11, h12⟩ := h
  obtain ⟨g1, g2⟩ := h12 rfl
  have e5 : ce 5 + 1 = nI (P + 1) := by rw [h6.1, nI_1]
  have e3 : ce 3 + 1 = nI (T + 1) := by rw [h4, nI_1]
  have hp3 : (2 ≤ ce 5 + 1) = (P = 1) := propext (by rw [e5]; exact (nI_leI (a := 2) (by decide) (by omega)).trans (by omega))
  have hcb := cb_8 S (s256 h5.2 hnc)
  unfold kT8
  simp only [hp3]
  rw [e5, e3]
  have key : ∀ k, k ≠ 6 + s → k ≠ 5 → k ≠ 2 → k ≠ 3 → upd (if P = 1 then upd (upd (upd ce (6 + s) (nI (X s - y))) 5 (nI (P + 1))) 2 3 else upd (upd ce (6 + s) (nI (X s - y))) 5 (nI (P + 1))) 3 (nI (T + 1)) k = ce k := by
    intro k k1 k2 k3 k4
    rw [upn k4]
    split
    · rw [upn k3, upn k2, upn k1]
    · rw [upn k2, upn k1]
  refine ⟨fun i hi => ?_, h2, ⟨?_, ?_⟩, ups, ⟨?_, h5.2⟩, ⟨?_, by omega⟩, fun i hi => ?_, fun i hi => ?_, fun i hi => ?_, fun i hi => ?_, by omega, ?_⟩
  · rw [key _ (by omega) (by omega) (by omega) (by omega)]; exact h1 i hi
  · rw [upn (by omega)]
    by_cases c : P = 1
    · rw [if_pos c, if_pos c, ups]; rfl
    · rw [if_neg c, if_neg c, upn (by omega), upn (by omega)]; exact h3.1
  · split <;> omega
  · rw [key _ (by omega) (by omega) (by omega) (by omega)]; exact h5.1
  · rw [upn (by omega)]
    split
    · rw [upn (by omega), ups]
    · rw [ups]
  · by_cases c : i = s
    · subst c
      rw [up_s]
      refine ⟨?_, by have := (h7 i hi).2; omega⟩
      rw [upn (by omega)]
      split
      · rw [upn (by omega), upn (by omega), ups]
      · rw [upn (by omega), ups]
    · rw [up_n c, key _ (by omega) (by omega) (by omega) (by omega)]; exact h7 i hi
  · rw [key _ (by omega) (by omega) (by omega) (by omega)]; exact h8 i hi
  · rw [key _ (by omega) (by omega) (by omega) (by omega)]; exact h9 i hi
  · rw [key _ (by omega) (by omega) (by omega) (by omega)]; exact h10 i hi
  · intro c
    have hP : P ≠ 1 := fun q => by rw [if_pos q] at c; omega
    refine ⟨by omega, fun i hi => ⟨(g2 i hi).1, ?_⟩⟩
    by_cases c : i = s
    · subst c; rw [up_s]; have := (g2 i hi).2; omega
    · rw [up_n c]; exact (g2 i hi).2
theorem DJ.t9 {np nc : Nat} {ce : Nat → Int32} {pn F X W K : Nat → Nat} {T S P s y : Nat} (h : DJ np nc ce pn F X W K 0 T S P) (hs : s < 2) (hnc : nc ≤ 8) (hf : 0 < F s) : DJ np nc (kT9 ce s (nI (X s - y))) pn (up F s (F s - 1)) (up X s (X s - y)) W K 0 (T + 1) S 0 := by
  obtain ⟨h1, h2, h3, h4, h5, h6, h7, h8, h9, h10, h11, h12⟩ := h
  obtain ⟨g1, g2⟩ := h12 rfl
  have e3 : ce 3 + 1 = nI (T + 1) := by rw [h4, nI_1]
  have e8 : ce (8 + s) + -1 = nI (F s - 1) := by
    rw [(h8 s hs).1]
    have : F s = (F s - 1) + 1 := by omega
    rw [this, pk_m1]; congr 1
  unfold kT9
  rw [e3, e8]
  have key : ∀ k, k ≠ 6 + s → k ≠ 8 + s → k ≠ 5 → k ≠ 3 → upd (upd (upd (upd ce (6 + s) (nI (X s - y))) (8 + s) (nI (F s - 1))) 5 0) 3 (nI (T + 1)) k = ce k := by
    intro k k1 k2 k3 k4
    rw [upn k4, upn k3, upn k2, upn k1]
  have t2 := two2 (f := F) hs
  have t3 := two2 (f := up F s (F s - 1)) hs
  rw [up_s, up_n (show 1 - s ≠ s by omega)] at t3
  refine ⟨fun i hi => ?_, h2, ⟨?_, by omega⟩, ups, ⟨?_, h5.2⟩, ⟨?_, by omega⟩, fun i hi => ?_, fun i hi => ?_, fun i hi => ?_, fun i hi => ?_, by omega, ?_⟩
  · rw [key _ (by omega) (by omega) (by omega) (by omega)]; exact h1 i hi
  · rw [key _ (by omega) (by omega) (by omega) (by omega)]; exact h3.1
  · rw [key _ (by omega) (by omega) (by omega) (by omega)]; exact h5.1
  · rw [upn (by omega), ups]; rfl
  · by_cases c : i = s
    · subst c
      rw [up_s]
      refine ⟨?_, by have := (h7 i hi).2; omega⟩
      rw [upn (by omega), upn (by omega), upn (by omega), ups]
    · rw [up_n c, key _ (by omega) (by omega) (by omega) (by omega)]; exact h7 i hi
  · by_cases c : i = s
    · subst c
      rw [up_s]
      refine ⟨?_, by have := (h8 i hi).2; omega⟩
      rw [upn (by omega), upn (by omega), ups]
    · rw [up_n c, key _ (by omega) (by omega) (by omega) (by omega)]; exact h8 i hi
  · rw [key _ (by omega) (by omega) (by omega) (by omega)]; exact h9 i hi
  · rw [key _ (by omega) (by omega) (by omega) (by omega)]; exact h10 i hi
  · intro _
    refine ⟨by omega, fun i hi => ?_⟩
    by_cases c : i = s
    · subst c; rw [up_s, up_s]; have := g2 i hi; exact ⟨by omega, by omega⟩
    · rw [up_n c, up_n c]; exact g2 i hi
/-- what a said one makes of the numbers -/
theorem DJ.tc {np nc : Nat} {ce : Nat → Int32} {pn F X W K : Nat → Nat} {T S P s y c tp e0 w ln : Nat} {t : Int32} (h : DJ np nc ce pn F X W K 0 T S P) (hs : s < 2) (hnc : nc ≤ 8) (hc : c < nc) (hun : S / 2 ^ c % 2 = 0) (htp : tp < 4) (he : e0 < 82) (hw : w < 10) (hln : ln < 1000) :
    ∃ R F' , DJ np nc (kTs ce s tp c (nI (X s - y)) (nI e0) (nI w) t (nI ln)) pn F' (up (up X s (X s - y)) (1 - s) (X (1 - s) + e0)) (up W s (W s + w)) (up K (4 * (1 - s) + tp) (K (4 * (1 - s) + tp) + 1)) R (T + 1) (S ||| 2 ^ c) 0 := by
  obtain ⟨h1, h2, h3, h4, h5, h6, h7, h8, h9, h10, h11, h12⟩ := h
  obtain ⟨g1, g2⟩ := h12 rfl
  have hS := s256 h5.2 hnc
  obtain ⟨cb1, cb2⟩ := cb_or S hS c (by omega) hun
  have e3 : ce 3 + 1 = nI (T + 1) := by rw [h4, nI_1]
  have e4 : ce 4 ||| (1 <<< (nI c &&& 31)) = nI (S ||| 2 ^ c) := by
    rw [h5.1, bit1 (by omega), nI_or (by omega) (by have := pw_le (n := c) (m := 8) (by omega); omega)]
  have hS2 : S ||| 2 ^ c < 2 ^ nc := Nat.or_lt_two_pow h5.2 (Nat.pow_lt_pow_right (by decide) hc)
  have e6 : ce (6 + (1 - s)) + nI e0 = nI (X (1 - s) + e0) := by rw [(h7 (1 - s) (by omega)).1, nI_add]
  have e12 : ce (12 + 4 * (1 - s) + tp) + 1 = nI (K (4 * (1 - s) + tp) + 1) := by
    rw [Nat.add_assoc, (h10 (4 * (1 - s) + tp) (by omega)).1, nI_1]
  have e10 : ce (10 + s) + nI w = nI (W s + w) := by rw [(h9 s hs).1, nI_add]
  have e8 : ce (8 + s) + 1 = nI (F s + 1) := by rw [(h8 s hs).1, nI_1]
  obtain ⟨G, hG1, hG2, hG3⟩ : ∃ G, G ≤ F s + 1 ∧ (if t = 0 then ce (8 + s) + 1 else ce (8 + s)) = nI G ∧ kS6 ce s tp c (nI (X s - y)) (nI e0) (nI w) t = upd (kS5 ce s tp c (nI (X s - y)) (nI e0) (nI w)) (8 + s) (nI G) := by
    have h58 : kS5 ce s tp c (nI (X s - y)) (nI e0) (nI w) (8 + s) = nI (F s) := by
      unfold kS5
      rw [upn (by omega), upn (by omega), upn (by omega), upn (by omega), upn (by omega), upn (by omega)]
      exact (h8 s hs).1
    unfold kS6
    by_cases q : t = 0
    · exact ⟨F s + 1, Nat.le_refl _, by rw [if_pos q, e8], by rw [if_pos q, e8]⟩
    · exact ⟨F s, by omega, by rw [if_neg q]; exact (h8 s hs).1, by rw [if_neg q, ← h58, upd_id]⟩
  have gs := g2 s hs
  have go := g2 (1 - s) (by omega)
  unfold kTs kS7
  rw [hG2, hG3, e3, e6]
  have p3 : (3 ≤ nI G) = (3 ≤ G) := propext (nI_leI (a := 3) (by decide) (by omega))
  have pl : (nI ln ≤ nI (X (1 - s) + e0)) = (ln ≤ X (1 - s) + e0) := propext (nI_leI (by omega) (by omega))
  simp only [p3, pl]
  obtain ⟨R, hR4, hRe, hR0⟩ : ∃ R, R < 4 ∧ (if 3 ≤ G then upd (upd (kS5 ce s tp c (nI (X s - y)) (nI e0) (nI w)) (8 + s) (nI G)) 2 (nI (2 - s)) else if ln ≤ X (1 - s) + e0 then upd (upd (kS5 ce s tp c (nI (X s - y)) (nI e0) (nI w)) (8 + s) (nI G)) 2 (nI (1 + s)) else upd (kS5 ce s tp c (nI (X s - y)) (nI e0) (nI w)) (8 + s) (nI G)) = upd (upd (kS5 ce s tp c (nI (X s - y)) (nI e0) (nI w)) (8 + s) (nI G)) 2 (nI R) ∧ (R = 0 → G ≤ 2 ∧ X (1 - s) + e0 < 1000) := by
    have h2 : upd (kS5 ce s tp c (nI (X s - y)) (nI e0) (nI w)) (8 + s) (nI G) 2 = nI 0 := by
      unfold kS5
      rw [upn (by omega), upn (by omega), upn (by omega), upn (by omega), upn (by omega), upn (by omega), upn (by omega)]
      exact h3.1
    by_cases c1 : 3 ≤ G
    · exact ⟨2 - s, by omega, by rw [if_pos c1], fun q => by omega⟩
    · by_cases c2 : ln ≤ X (1 - s) + e0
      · exact ⟨1 + s, by omega, by rw [if_neg c1, if_pos c2], fun q => by omega⟩
      · exact ⟨0, by omega, by rw [if_neg c1, if_neg c2, ← h2, upd_id], fun _ => ⟨by omega, by omega⟩⟩
  rw [hRe]
  unfold kS5
  rw [e4, e6, e12, e10]
  have key : ∀ k, k ≠ 6 + s → k ≠ 6 + (1 - s) → k ≠ 12 + 4 * (1 - s) + tp → k ≠ 10 + s → k ≠ 4 → k ≠ 5 → k ≠ 8 + s → k ≠ 2 → k ≠ 3 → upd (upd (upd (upd (upd (upd (upd (upd (upd ce (6 + s) (nI (X s - y))) (6 + (1 - s)) (nI (X (1 - s) + e0))) (12 + 4 * (1 - s) + tp) (nI (K (4 * (1 - s) + tp) + 1))) (10 + s) (nI (W s + w))) 4 (nI (S ||| 2 ^ c))) 5 0) (8 + s) (nI G)) 2 (nI R)) 3 (nI (T + 1)) k = ce k := by
    intro k k1 k2 k3 k4 k5 k6 k7 k8 k9
    rw [upn k9, upn k8, upn k7, upn k6, upn k5, upn k4, upn k3, upn k2, upn k1]
  have t2 := two2 (f := F) hs
  have t3 := two2 (f := up F s G) hs
  rw [up_s, up_n (show 1 - s ≠ s by omega)] at t3
  refine ⟨R, up F s G, fun i hi => ?_, h2, ⟨?_, hR4⟩, ups, ⟨?_, hS2⟩, ⟨?_, by omega⟩, fun i hi => ?_, fun i hi => ?_, fun i hi => ?_, fun i hi => ?_, by omega, ?_⟩
  · rw [key _ (by omega) (by omega) (by omega) (by omega) (by omega) (by omega) (by omega) (by omega) (by omega)]; exact h1 i hi
  · rw [upn (by omega), ups]
  · rw [upn (by omega), upn (by omega), upn (by omega), upn (by omega), ups]
  · rw [upn (by omega), upn (by omega), upn (by omega), ups]; rfl
  · by_cases d : i = s
    · subst d
      rw [up_n (show i ≠ 1 - i by omega), up_s]
      refine ⟨?_, by omega⟩
      rw [upn (by omega), upn (by omega), upn (by omega), upn (by omega), upn (by omega), upn (by omega), upn (by omega), upn (by omega), ups]
    · have d2 : i = 1 - s := by omega
      subst d2
      rw [up_s]
      refine ⟨?_, by omega⟩
      rw [upn (by omega), upn (by omega), upn (by omega), upn (by omega), upn (by omega), upn (by omega), upn (by omega), ups]
  · by_cases d : i = s
    · subst d
      rw [up_s]
      refine ⟨?_, by omega⟩
      rw [upn (by omega), upn (by omega), ups]
    · rw [up_n d, key _ (by omega) (by omega) (by omega) (by omega) (by omega) (by omega) (by omega) (by omega) (by omega)]; exact h8 i hi
  · by_cases d : i = s
    · subst d
      rw [up_s]
      refine ⟨?_, by have := (h9 i hi).2; omega⟩
      rw [upn (by omega), upn (by omega), upn (by omega), upn (by omega), upn (by omega), ups]
    · rw [up_n d, key _ (by omega) (by omega) (by omega) (by omega) (by omega) (by omega) (by omega) (by omega) (by omega)]
      exact ⟨(h9 i hi).1, by have := (h9 i hi).2; omega⟩
  · by_cases d : i = 4 * (1 - s) + tp
    · subst d
      rw [up_s]
      refine ⟨?_, by have := (h10 _ hi).2; omega⟩
      rw [← Nat.add_assoc, upn (by omega), upn (by omega), upn (by omega), upn (by omega), upn (by omega), upn (by omega), ups]
    · rw [up_n d, key _ (by omega) (by omega) (by omega) (by omega) (by omega) (by omega) (by omega) (by omega) (by omega)]
      exact ⟨(h10 i hi).1, by have := (h10 i hi).2; omega⟩
  · intro q
    obtain ⟨r1, r2⟩ := hR0 q
    refine ⟨by omega, fun i hi => ?_⟩
    by_cases d : i = s
    · subst d
      rw [up_s, up_n (show i ≠ 1 - i by omega), up_s]
      exact ⟨r1, by omega⟩
    · have d2 : i = 1 - s := by omega
      subst d2
      rw [up_n d, up_s]
      exact ⟨go.1, r2⟩
