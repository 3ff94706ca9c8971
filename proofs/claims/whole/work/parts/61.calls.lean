theorem pers {x : Int32} {np : Nat} {f g : Nat → Int32} (hp4 : np ≤ 4) (hf : f 0 = nI np) (hg : g 10 = nI np) : (bz (zib x (f 0)) = 0 ∧ a_X11_isDuellist g x = 0) ∨ ∃ a, a < np ∧ x = nI a ∧ ¬ bz (zib x (f 0)) = 0 ∧ ¬ a_X11_isDuellist g x = 0 := by
  by_cases h : a_X11_isDuellist g x = 0
  · refine Or.inl ⟨?_, h⟩
    have h2 : ¬ (0 ≤ x ∧ x ≤ g 10 - 1) := fun q => by
      unfold a_X11_isDuellist at h
      rw [inX, if_pos q] at h
      exact absurd h (by decide)
    have h3 : zib x (f 0) = false := by
      unfold zib
      refine decide_eq_false (fun q => h2 ?_)
      rw [hf, nI_toInt (by omega)] at q
      have hx0 : (0 : Int32) ≤ x := Int32.le_iff_toInt_le.mpr q.1
      refine ⟨hx0, ?_⟩
      rw [hg]
      cases np with
      | zero => omega
      | succ n =>
        rw [nI_pred]
        exact Int32.le_iff_toInt_le.mpr (by rw [nI_toInt (by omega)]; omega)
    rw [h3]; rfl
  · obtain ⟨h1, h2⟩ := (isd (f := g) hg hp4 h).1
    refine Or.inr ⟨x.toNatClampNeg, h1, h2, ?_, h⟩
    have h3 : zib x (f 0) = true := by
      unfold zib
      refine decide_eq_true ?_
      rw [hf, h2, nI_toInt (by omega), nI_toInt (by omega)]
      omega
    rw [h3]; decide
theorem phra {x : Int32} {nc : Nat} {f g : Nat → Int32} (hc8 : nc ≤ 8) (hf : f 1 = nI nc) (hg : g 11 = nI nc) : (bz (zib x (f 1)) = 0 ∧ a_X11_isCompliment g x = 0) ∨ ∃ c, c < nc ∧ x = nI c ∧ ¬ bz (zib x (f 1)) = 0 ∧ ¬ a_X11_isCompliment g x = 0 := by
  by_cases h : a_X11_isCompliment g x = 0
  · refine Or.inl ⟨?_, h⟩
    have h2 : ¬ (0 ≤ x ∧ x ≤ g 11 - 1) := fun q => by
      unfold a_X11_isCompliment at h
      rw [inX, if_pos q] at h
      exact absurd h (by decide)
    have h3 : zib x (f 1) = false := by
      unfold zib
      refine decide_eq_false (fun q => h2 ?_)
      rw [hf, nI_toInt (by omega)] at q
      have hx0 : (0 : Int32) ≤ x := Int32.le_iff_toInt_le.mpr q.1
      refine ⟨hx0, ?_⟩
      rw [hg]
      cases nc with
      | zero => omega
      | succ n =>
        rw [nI_pred]
        exact Int32.le_iff_toInt_le.mpr (by rw [nI_toInt (by omega)]; omega)
    rw [h3]; rfl
  · obtain ⟨h1, h2⟩ := (isc (f := g) hg hc8 h).1
    refine Or.inr ⟨x.toNatClampNeg, h1, h2, ?_, h⟩
    have h3 : zib x (f 1) = true := by
      unfold zib
      refine decide_eq_true ?_
      rw [hf, h2, nI_toInt (by omega), nI_toInt (by omega)]
      omega
    rw [h3]; decide
/-- a number from 0 to n, or not -/
theorem rg0 (x : Int32) {b : Int32} {n : Nat} (hb : b = nI n) (hn : n < 2000) : (a_X11_in x 0 b = 0 ∧ (x < 0 ∨ (¬ x < 0 ∧ ¬ x ≤ b))) ∨ ∃ k, k ≤ n ∧ x = nI k ∧ ¬ a_X11_in x 0 b = 0 ∧ ¬ x < 0 ∧ x ≤ b := by
  rw [inX]
  by_cases h1 : x < 0
  · exact Or.inl ⟨if_neg (fun q => Int32.not_lt.mpr q.1 h1), Or.inl h1⟩
  · by_cases h2 : x ≤ b
    · obtain ⟨k, hk, he⟩ := nI_of2 (n := n) (M := b) (by rw [hb, nI_toInt (by omega)]) h1 h2
      exact Or.inr ⟨k, hk, he, by rw [if_pos ⟨Int32.not_lt.mp h1, h2⟩]; decide, h1, h2⟩
    · exact Or.inl ⟨if_neg (fun q => h2 q.2), Or.inr ⟨h1, h2⟩⟩
theorem lt_le {x : Int32} {n : Nat} (hn : n < 2000) : (x < nI (n + 1)) = (x ≤ nI n) := by
  refine propext ?_
  rw [Int32.lt_iff_toInt_lt, Int32.le_iff_toInt_le, nI_toInt (by omega), nI_toInt (by omega)]
  omega
theorem WI.pure {M : Nat} {μ : zH} (h : WI M μ) : WI (M + 1) (zhs μ 67 (upd (μ 67) 0 0)) := by
  obtain ⟨np, nc, kw, kc, kb, kn, hH, hT, hL, hS, hMm, hN⟩ := h
  exact ⟨np, nc, kw, kc, kb, kn, hH, hT, hL, SR.mono hS (Nat.le_succ _), WM.mono hMm (Nat.le_succ _), hN⟩
theorem cl_pure {M : Nat} {μ : zH} {y10 y11 : zMI} {as : List zV} {a10 a11 : Int32} {w : Nat → Int32} (h : WI M μ) (h10 : ∀ (l : Launch) (X : zX), zRn l X y10 30 (.inr 0 :: as) (zSH, μ) (some (.inl a10)) (zSH, μ)) (h11 : ∀ (l : Launch) (X : zX), zRn l X y11 30 (.inr 67 :: as) (zSH, μ) (some (.inl a11)) (zSH, zhs μ 67 w)) (hw : w = upd (μ 67) 0 0) (ha : a11 = a10) : CL M μ y10 y11 as := by
  intro l X
  subst ha hw
  exact ⟨a11, μ, _, h10 l X, h11 l X, h.pure⟩
theorem cl_mk {M : Nat} {μ μ1 μ2 : zH} {y10 y11 : zMI} {as : List zV} {a10 a11 : Int32} (h10 : ∀ (l : Launch) (X : zX), zRn l X y10 30 (.inr 0 :: as) (zSH, μ) (some (.inl a10)) (zSH, μ1)) (h11 : ∀ (l : Launch) (X : zX), zRn l X y11 30 (.inr 67 :: as) (zSH, μ1) (some (.inl a11)) (zSH, μ2)) (ha : a11 = a10) (hW : WI (M + 1) μ2) : CL M μ y10 y11 as := by
  intro l X
  subst ha
  exact ⟨a11, μ1, μ2, h10 l X, h11 l X, hW⟩
theorem WI.same4 {M a b c : Nat} {μ : zH} {A B C D : Nat → Int32} (h : WI M μ) (hA : A = μ a) (hB : B = μ b) (hC : C = μ c) (hD : D = upd (μ 67) 0 0) : WI (M + 1) (zhs (zhs (zhs (zhs μ a A) b B) c C) 67 D) := by
  subst hA hB hC hD
  rw [zhs_id, zhs_id, zhs_id]
  exact h.pure
theorem cl_fault {M : Nat} {μ : zH} (h : WI M μ) : CL M μ mi_X10_fault mi_X11_fault [] := by
  have h0 := h
  obtain ⟨np, nc, kw, kc, kb, kn, hH, -⟩ := h0
  exact cl_pure h (fun l X => e_X10_fault (d := 29)) (fun l X => e_X11_fault (d := 28)) rfl hH.2.2.1.symm
theorem cl_truth {M : Nat} {μ : zH} {x y : Int32} (h : WI M μ) : CL M μ mi_X10_truth mi_X11_truth [.inl x, .inl y] := by
  have h0 := h
  obtain ⟨np, nc, kw, kc, kb, kn, hH, hT, hL, hS, -⟩ := h0
  obtain ⟨⟨p1, c1, -⟩, ⟨p2, c2, -⟩, -, hp4, hc8, -⟩ := hH
  refine cl_pure h (fun l X => e_X10_truth (d := 26)) (fun l X => e_X11_truth (d := 25) p2 hp4 c2 hc8) rfl ?_
  unfold a_X10_truth a_X11_truth
  rcases phra (x := x) (f := μ 1) (g := upd (μ 67) 0 0) hc8 c1 c2 with ⟨q1, q2⟩ | ⟨c, hc, rfl, q1, q2⟩
  · rw [if_pos q1, if_pos q2]
  · rw [if_neg q1, if_neg q2]
    rcases pers (x := y) (f := μ 1) (g := upd (μ 67) 0 0) hp4 p1 p2 with ⟨r1, r2⟩ | ⟨a, ha, rfl, r1, r2⟩
    · rw [if_pos r1, if_pos r2]
    · rw [if_neg r1, if_neg r2, nI_clamp (by omega), nI_clamp (by omega)]
      exact (tru_e hL.1 hS.1 hc ha).1.symm
theorem cl_compliment {M : Nat} {μ : zH} {x w : Int32} (h : WI M μ) : CL M μ mi_X10_compliment mi_X11_compliment [.inl x, .inl w] := by
  have h0 := h
  obtain ⟨np, nc, kw, kc, kb, kn, hH, hT, hL, hS, -⟩ := h0
  obtain ⟨⟨p1, c1, -⟩, ⟨p2, c2, -⟩, -, hp4, hc8, -⟩ := hH
  refine cl_pure h (fun l X => e_X10_compliment (d := 26)) (fun l X => e_X11_compliment (d := 25) c2 hc8) rfl ?_
  unfold a_X10_compliment a_X11_compliment
  rcases phra (x := x) (f := μ 1) (g := upd (μ 67) 0 0) hc8 c1 c2 with ⟨q1, q2⟩ | ⟨c, hc, rfl, q1, q2⟩
  · rw [if_pos q1, if_pos q2]
  · rw [if_neg q1, if_neg q2]
    rcases rg0 w (b := 4) (n := 4) rfl (by decide) with ⟨r1, r2⟩ | ⟨k, hk, rfl, r1, r2, r3⟩
    · rw [if_pos r1]
      rcases r2 with r2 | ⟨r2, r3⟩
      · rw [if_pos r2]
      · rw [if_neg r2, if_neg]
        exact fun q => r3 ((lt_le (x := w) (n := 4) (by decide)).mp q)
    · rw [if_neg r1, if_neg r2, if_pos (show nI k < 5 from nI_lt (b := 5) (by omega) (by omega)), nI_clamp (by omega), nI_clamp (by omega), part_e (by omega) (by omega)]
      exact ((hL.1.2.1 c hc).1 k (by omega)).symm
theorem cl_seed {M : Nat} {μ : zH} {x : Int32} (h : WI M μ) : CL M μ mi_X10_seed mi_X11_seed [.inl x] := by
  obtain ⟨np, nc, kw, kc, kb, kn, hH, hT, hL, hS, hMm, hN⟩ := h
  refine cl_mk (fun l X => e_X10_seed (d := 26)) (fun l X => e_X11_seed (d := 28)) ?_ ?_
  · show a_X11_seed (μ 72) x = a_X10_seed (μ 13) x
    unfold a_X10_seed a_X11_seed
    rw [hS.2.2.2.2.2.1.1]
  · refine ⟨np, nc, kw, kc, kb, kn, hH, hT, hL, ?_, WM.mono hMm (Nat.le_succ _), hN⟩
    show SR np nc (M + 1) (μ 24) (μ 25) (μ 15) (μ 16) (μ 17) (μ 21) (μ 22) (w_X10_seed_13 (μ 13) x 3) (w_X11_seed_72 (μ 72) x) (μ 74)
    unfold w_X10_seed_13 w_X11_seed_72
    by_cases c : 0 ≤ x
    · rw [if_pos c, if_pos c, ups]
      exact (SR.seed hH.2.2.2.1 hS (Int32.not_lt.mpr c)).mono (Nat.le_succ _)
    · rw [if_neg c, if_neg c]
      exact SR.mono hS (Nat.le_succ _)
theorem cl_tear {M : Nat} {μ : zH} (h : WI M μ) : CL M μ mi_X10_tear mi_X11_tear [] := by
  obtain ⟨np, nc, kw, kc, kb, kn, hH, hT, hL, hS, hMm, hN⟩ := h
  obtain ⟨⟨p1, c1, w1, k1, b1, n1⟩, ⟨p2, c2, w2, k2, b2, n2⟩, hf, hp4, hc8, hw12, hk4, hb20, hn250⟩ := hH
  refine cl_mk (fun l X => e_X10_tear (d := 26)) (fun l X => e_X11_tear (d := 29)) ?_ ?_
  · show a_X11_tear (μ 67) = a_X10_tear (μ 54)
    unfold a_X10_tear a_X11_tear
    rw [w1, k1, b1, w2, k2, b2]
  · exact ⟨np, nc, 0, 0, 0, kn, ⟨⟨p1, c1, rfl, rfl, rfl, n1⟩, ⟨p2, c2, rfl, rfl, rfl, n2⟩, hf, hp4, hc8, by omega, by omega, by omega, hn250⟩, hT, hL, SR.mono hS (Nat.le_succ _), WM.mono hMm (Nat.le_succ _), ⟨fun k hk => absurd hk (Nat.not_lt_zero _), fun k hk => absurd hk (Nat.not_lt_zero _), fun k hk => absurd hk (Nat.not_lt_zero _)⟩⟩
theorem lt_n {k n : Nat} (hk : k < 2 ^ 31) (hn : n < 2 ^ 31) : (nI k < nI n) = (k < n) := propext (nI_ltI hk hn)
theorem eq_n {k n : Nat} (hk : k < 2 ^ 31) (hn : n < 2 ^ 31) : (nI k = nI n) = (k = n) := propext (nI_eq hk hn)
theorem cl_cheek {M : Nat} {μ : zH} {x : Int32} (h : WI M μ) : CL M μ mi_X10_cheek mi_X11_cheek [.inl x] := by
  have h0 := h
  obtain ⟨np, nc, kw, kc, kb, kn, hH, hT, hL, hS, hMm, hN⟩ := h0
  obtain ⟨⟨p1, c1, w1, k1, b1, n1⟩, ⟨p2, c2, w2, k2, b2, n2⟩, hf, hp4, hc8, hw12, hk4, hb20, hn250⟩ := hH
  have l4 : (μ 54 5 < 4) = (kc < 4) := by rw [k1]; exact lt_n (n := 4) (by omega) (by decide)
  have q4 : (μ 67 26 = 4) = (kc = 4) := by rw [k2]; exact eq_n (n := 4) (by omega) (by decide)
  refine cl_mk (fun l X => e_X10_cheek (d := 26)) (fun l X => e_X11_cheek (d := 26) (kc := kc) k2 hk4) ?_ ?_
  · show a_X11_cheek (μ 67) x = a_X10_cheek (μ 54) x
    unfold a_X10_cheek a_X11_cheek
    simp only [l4, q4]
    rcases rg0 x (b := 999) (n := 999) rfl (by decide) with ⟨r1, r2⟩ | ⟨k, hk, rfl, r1, r2, r3⟩
    · rw [if_pos r1]
      rcases r2 with r2 | ⟨r2, r3⟩
      · rw [if_pos r2]
      · rw [if_neg r2, if_neg r3]
    · rw [if_neg r1, if_neg r2, if_pos r3, k1, k2]
      by_cases q : kc = 4
      · rw [if_pos q, if_neg (by omega)]
      · rw [if_neg q, if_pos (by omega)]
  · show WI (M + 1) (zhs (zhs (zhs (zhs μ 56 (w_X10_cheek_56 (μ 54) (μ 56) x)) 54 (w_X10_cheek_54 (μ 54) x)) 79 (w_X11_cheek_79 (μ 67) (μ 79) x kc)) 67 (w_X11_cheek_67 (μ 67) x))
    unfold w_X10_cheek_56 w_X10_cheek_54 w_X11_cheek_79 w_X11_cheek_67
    simp only [l4, q4]
    rcases rg0 x (b := 999) (n := 999) rfl (by decide) with ⟨r1, r2⟩ | ⟨k, hk, rfl, r1, r2, r3⟩
    · rw [if_pos r1, if_pos r1]
      rcases r2 with r2 | ⟨r2, r3⟩
      · rw [if_pos r2, if_pos r2]
        exact h.same4 rfl rfl rfl rfl
      · rw [if_neg r2, if_neg r2, if_neg r3, if_neg r3]
        exact h.same4 rfl rfl rfl rfl
    · rw [if_neg r1, if_neg r1, if_neg r2, if_neg r2, if_pos r3, if_pos r3]
      by_cases q : kc = 4
      · rw [if_pos q, if_pos q, if_neg (by omega), if_neg (by omega)]
        exact h.same4 rfl rfl rfl rfl
      · rw [if_neg q, if_neg q, if_pos (by omega), if_pos (by omega), k1, k2, nI_1, rP_n (by omega) (by decide)]
        refine ⟨np, nc, kw, kc + 1, kb, kn, ⟨⟨p1, c1, w1, rfl, b1, n1⟩, ⟨p2, c2, w2, rfl, b2, n2⟩, hf, hp4, hc8, hw12, by omega, hb20, hn250⟩, hT, hL, SR.mono hS (Nat.le_succ _), WM.mono hMm (Nat.le_succ _), ⟨hN.1, fun j hj => ?_, hN.2.2⟩⟩
        show upd (μ 56) kc (nI k) j = upd (μ 79) kc (nI k) j
        by_cases e : j = kc
        · subst e; rw [ups, ups]
        · rw [upn e, upn e]; exact hN.2.1 j (by omega)
theorem cl_warm {M : Nat} {μ : zH} {x y t e : Int32} (h : WI M μ) : CL M μ mi_X10_warm mi_X11_warm [.inl x, .inl y, .inl t, .inl e] := by
  have h0 := h
  obtain ⟨np, nc, kw, kc, kb, kn, hH, hT, hL, hS, hMm, hN⟩ := h0
  obtain ⟨⟨p1, c1, w1, k1, b1, n1⟩, ⟨p2, c2, w2, k2, b2, n2⟩, hf, hp4, hc8, hw12, hk4, hb20, hn250⟩ := hH
  have l4 : (μ 54 4 < 12) = (kw < 12) := by rw [w1]; exact lt_n (n := 12) (by omega) (by decide)
  have q4 : (μ 67 24 = 12) = (kw = 12) := by rw [w2]; exact eq_n (n := 12) (by omega) (by decide)
  have t9 : ∀ k : Nat, k ≤ 9 → ¬ 9 < nI k := fun k hk q => by have := (nI_ltI (a := 9) (by decide) (by omega)).mp q; omega
  have t9' : ∀ t : Int32, (9 < t) = ¬ t ≤ 9 := fun t => propext ⟨fun q r => Int32.not_lt.mpr r q, fun q => Int32.not_le.mp q⟩
  refine cl_mk (fun l X => e_X10_warm (d := 26)) (fun l X => e_X11_warm (d := 25) (kw := kw) w2 hw12) ?_ ?_
  · show a_X11_warm (μ 67) x y t e = a_X10_warm (μ 1) (μ 54) x y t e
    unfold a_X10_warm a_X11_warm
    simp only [l4, q4, t9']
    rcases phra (x := x) (f := μ 1) (g := upd (μ 67) 0 0) hc8 c1 c2 with ⟨q1, q2⟩ | ⟨c, hc, rfl, q1, q2⟩
    · rw [if_pos q1, if_pos q2]
    rw [if_neg q1, if_neg q2]
    rcases pers (x := y) (f := μ 1) (g := upd (μ 67) 0 0) hp4 p1 p2 with ⟨q1, q2⟩ | ⟨a, ha, rfl, q1, q2⟩
    · rw [if_pos q1, if_pos q2]
    rw [if_neg q1, if_neg q2]
    rcases rg0 t (b := 9) (n := 9) rfl (by decide) with ⟨r1, r2⟩ | ⟨i, hi, rfl, r1, r2, r3⟩
    · rw [if_pos r1]
      rcases r2 with r2 | ⟨r2, r3⟩
      · rw [if_pos r2]
      · rw [if_neg r2, if_pos r3]
    rw [if_neg r1, if_neg r2, if_neg (show ¬ ¬ nI i ≤ 9 from fun q => q r3)]
    rcases rg0 e (b := 99) (n := 99) rfl (by decide) with ⟨r1, r2⟩ | ⟨j, hj, rfl, r1, r2, r3⟩
    · rw [if_pos r1]
      rcases r2 with r2 | ⟨r2, r3⟩
      · rw [if_pos r2]
      · rw [if_neg r2, if_neg r3]
    rw [if_neg r1, if_neg r2, if_pos r3, w1, w2]
    by_cases q : kw = 12
    · rw [if_pos q, if_neg (by omega)]
    · rw [if_neg q, if_pos (by omega)]
  · show WI (M + 1) (zhs (zhs (zhs (zhs μ 55 (w_X10_warm_55 (μ 1) (μ 54) (μ 55) x y t e)) 54 (w_X10_warm_54 (μ 1) (μ 54) x y t e)) 78 (w_X11_warm_78 (μ 67) (μ 78) x y t e kw)) 67 (w_X11_warm_67 (μ 67) x y t e))
    unfold w_X10_warm_55 w_X10_warm_54 w_X11_warm_78 w_X11_warm_67
    simp only [l4, q4, t9']
    rcases phra (x := x) (f := μ 1) (g := upd (μ 67) 0 0) hc8 c1 c2 with ⟨q1, q2⟩ | ⟨c, hc, rfl, q1, q2⟩
    · rw [if_pos q1, if_pos q1, if_pos q2, if_pos q2]; exact h.same4 rfl rfl rfl rfl
    rw [if_neg q1, if_neg q1, if_neg q2, if_neg q2]
    rcases pers (x := y) (f := μ 1) (g := upd (μ 67) 0 0) hp4 p1 p2 with ⟨q1, q2⟩ | ⟨a, ha, rfl, q1, q2⟩
    · rw [if_pos q1, if_pos q1, if_pos q2, if_pos q2]; exact h.same4 rfl rfl rfl rfl
    rw [if_neg q1, if_neg q1, if_neg q2, if_neg q2]
    rcases rg0 t (b := 9) (n := 9) rfl (by decide) with ⟨r1, r2⟩ | ⟨i, hi, rfl, r1, r2, r3⟩
    · rw [if_pos r1, if_pos r1]
      rcases r2 with r2 | ⟨r2, r3⟩
      · rw [if_pos r2, if_pos r2]; exact h.same4 rfl rfl rfl rfl
      · rw [if_neg r2, if_neg r2, if_pos r3, if_pos r3]; exact h.same4 rfl rfl rfl rfl
    rw [if_neg r1, if_neg r1, if_neg r2, if_neg r2, if_neg (show ¬ ¬ nI i ≤ 9 from fun q => q r3), if_neg (show ¬ ¬ nI i ≤ 9 from fun q => q r3)]
    rcases rg0 e (b := 99) (n := 99) rfl (by decide) with ⟨r1, r2⟩ | ⟨j, hj, rfl, r1, r2, r3⟩
    · rw [if_pos r1, if_pos r1]
      rcases r2 with r2 | ⟨r2, r3⟩
      · rw [if_pos r2, if_pos r2]; exact h.same4 rfl rfl rfl rfl
      · rw [if_neg r2, if_neg r2, if_neg r3, if_neg r3]; exact h.same4 rfl rfl rfl rfl
    rw [if_neg r1, if_neg r1, if_neg r2, if_neg r2, if_pos r3, if_pos r3]
    by_cases q : kw = 12
    · rw [if_pos q, if_pos q, if_neg (by omega), if_neg (by omega)]; exact h.same4 rfl rfl rfl rfl
    · rw [if_neg q, if_neg q, if_pos (by omega), if_pos (by omega), w1, w2, nI_1]
      have ea : awW (μ 55) (nI kw) (nI c) (nI a) (nI i) (nI j) = upd (upd (upd (upd (μ 55) (4 * kw) (nI c)) (4 * kw + 1) (nI a)) (4 * kw + 2) (nI i)) (4 * kw + 3) (nI j) := by
        unfold awW
        show rP (rP (rP (rP (μ 55) 48 (nI kw * nI 4 + nI 0) _) 48 (nI kw * nI 4 + nI 1) _) 48 (nI kw * nI 4 + nI 2) _) 48 (nI kw * nI 4 + nI 3) _ = _
        rw [pk_mul, nI_add, nI_add, nI_add, nI_add, rP_n (by omega) (by decide), rP_n (by omega) (by decide), rP_n (by omega) (by decide), rP_n (by omega) (by decide), Nat.mul_comm kw 4, Nat.add_zero]
      rw [ea]
      refine ⟨np, nc, kw + 1, kc, kb, kn, ⟨⟨p1, c1, rfl, k1, b1, n1⟩, ⟨p2, c2, rfl, k2, b2, n2⟩, hf, hp4, hc8, by omega, hk4, hb20, hn250⟩, hT, hL, SR.mono hS (Nat.le_succ _), WM.mono hMm (Nat.le_succ _), ⟨fun u hu => ?_, hN.2.1, hN.2.2⟩⟩
      show (∀ v, v < 4 → upd (upd (upd (upd (μ 55) (4 * kw) (nI c)) (4 * kw + 1) (nI a)) (4 * kw + 2) (nI i)) (4 * kw + 3) (nI j) (4 * u + v) = upd (upd (upd (upd (μ 78) (4 * kw) (nI c)) (4 * kw + 1) (nI a)) (4 * kw + 2) (nI i)) (4 * kw + 3) (nI j) (4 * u + v)) ∧ nb (upd (upd (upd (upd (μ 78) (4 * kw) (nI c)) (4 * kw + 1) (nI a)) (4 * kw + 2) (nI i)) (4 * kw + 3) (nI j) (4 * u)) nc ∧ nb (upd (upd (upd (upd (μ 78) (4 * kw) (nI c)) (4 * kw + 1) (nI a)) (4 * kw + 2) (nI i)) (4 * kw + 3) (nI j) (4 * u + 1)) np ∧ nb (upd (upd (upd (upd (μ 78) (4 * kw) (nI c)) (4 * kw + 1) (nI a)) (4 * kw + 2) (nI i)) (4 * kw + 3) (nI j) (4 * u + 2)) 10
      by_cases eu : u = kw
      · subst eu
        refine ⟨fun v hv => ?_, ?_, ?_, ?_⟩
        · have : v = 0 ∨ v = 1 ∨ v = 2 ∨ v = 3 := by omega
          rcases this with rfl | rfl | rfl | rfl
          · rw [show 4 * u + 0 = 4 * u from rfl, upn (by omega), upn (by omega), upn (by omega), ups, upn (by omega), upn (by omega), upn (by omega), ups]
          · rw [upn (by omega), upn (by omega), ups, upn (by omega), upn (by omega), ups]
          · rw [upn (by omega), ups, upn (by omega), ups]
          · rw [ups, ups]
        · rw [upn (by omega), upn (by omega), upn (by omega), ups]; exact nb_i hc (by omega)
        · rw [upn (by omega), upn (by omega), ups]; exact nb_i ha (by omega)
        · rw [upn (by omega), ups]; exact nb_i (by omega) (by decide)
      · have hu2 := hN.1 u (by omega)
        refine ⟨fun v hv => ?_, ?_, ?_, ?_⟩
        · rw [upn (by omega), upn (by omega), upn (by omega), upn (by omega), upn (by omega), upn (by omega), upn (by omega), upn (by omega)]; exact hu2.1 v hv
        · rw [upn (by omega), upn (by omega), upn (by omega), upn (by omega)]; exact hu2.2.1
        · rw [upn (by omega), upn (by omega), upn (by omega), upn (by omega)]; exact hu2.2.2.1
        · rw [upn (by omega), upn (by omega), upn (by omega), upn (by omega)]; exact hu2.2.2.2
