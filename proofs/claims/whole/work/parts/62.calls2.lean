theorem SR.Tm {np nc M : Nat} {dn va po me lo ce pt s b : Nat → Int32} {sd : Int32} (hp4 : np ≤ 4) (hc8 : nc ≤ 8) (hM : M ≤ 2000) (h : SR np nc M dn va po me lo ce pt sd s b) : (∀ i, 33 ≤ i → i < 41 → nb (s i) 100) ∧ nb (s 24) 2 := by
  obtain ⟨hF, hG, hme, hz, hlo, hsd, hE, hdu⟩ := h
  rcases hdu with ⟨a1, a2, a3, a4⟩ | ⟨a1, a2⟩
  · refine ⟨fun i h1 h2 => ?_, by rw [a4]; exact nb01⟩
    have q : i = qx (2 + (i - 23)) := by unfold qx; rw [if_neg (by omega)]; omega
    rw [q, hE _ (by omega), a3 _ (by omega)]
    exact ⟨by decide, rfl⟩
  · obtain ⟨hR, -⟩ := a1.RB hp4 hc8 hM
    exact ⟨hR.2, hR.1.2.1⟩
theorem nI_nm1 {a : Nat} (h : a < 1000) : ¬ nI a = -1 := nI_ne1 h
/-- a duellist's side, alike -/
theorem SR.side {np nc M : Nat} {dn va po me lo ce pt s b : Nat → Int32} {sd : Int32} (hp4 : np ≤ 4) (h : SR np nc M dn va po me lo ce pt sd s b) {a : Nat} (ha : a < np) : a_X11_sideOf s (nI a) = dSO ce (nI a) ∧ (dSO ce (nI a) = -1 ∨ ∃ k, k < 2 ∧ dSO ce (nI a) = nI k) := by
  obtain ⟨hF, hG, hme, hz, hlo, hsd, hE, hdu⟩ := h
  have e0 : s 20 = ce 0 := hE 0 (by decide)
  have e1 : s 21 = ce 1 := hE 1 (by decide)
  have d0 : dPer ce 0 = ce 0 := dPer_n (i := 0) (by decide)
  have d1 : dPer ce 1 = ce 1 := dPer_n (i := 1) (by decide)
  unfold a_X11_sideOf dSO a_X11_isDuel
  rw [e0, e1, d0, d1]
  rcases hdu with ⟨a1, a2, a3, a4⟩ | ⟨a1, a2⟩
  · have hn := nI_nm1 (a := a) (by omega)
    rw [a1, a2, if_neg hn, if_neg hn]
    exact ⟨by simp, Or.inl rfl⟩
  · obtain ⟨A, B, hA, hB, hAB, eA, eB⟩ := a1.two hp4
    rw [eA, eB, if_neg (nI_nm1 (a := A) (by omega)), if_neg (show ¬ (1 : Int32) = 0 by decide)]
    simp only [eq_n (show A < 2 ^ 31 by omega) (show a < 2 ^ 31 by omega), eq_n (show B < 2 ^ 31 by omega) (show a < 2 ^ 31 by omega), eq_n (show a < 2 ^ 31 by omega) (show A < 2 ^ 31 by omega), eq_n (show a < 2 ^ 31 by omega) (show B < 2 ^ 31 by omega)]
    by_cases c1 : a = A
    · rw [if_pos c1.symm, if_pos c1]; exact ⟨rfl, Or.inr ⟨0, by omega, rfl⟩⟩
    · rw [if_neg (fun q => c1 q.symm), if_neg c1]
      by_cases c2 : a = B
      · rw [if_pos c2.symm, if_pos c2]; exact ⟨rfl, Or.inr ⟨1, by omega, rfl⟩⟩
      · rw [if_neg (fun q => c2 q.symm), if_neg c2]; exact ⟨rfl, Or.inl rfl⟩
/-- the effect now, alike -/
theorem eff_now {np nc M : Nat} {tr pa ne who what dn va po me lo ce pt s b : Nat → Int32} {sd : Int32} (hL : LR np nc tr pa ne who what) (h : SR np nc M dn va po me lo ce pt sd s b) (hM : M ≤ 2000) {c a : Nat} (hc : c < nc) (ha : a < np) :
    effS pa ne dn va ce (nI c) (nI a) = (if a_X11_sideOf s (nI a) = -1 then a_X11_firstTold what s c a else a_X11_effectBy what s c a (a_X11_vanityOf s a (what (5 * c)).toNatClampNeg) (s (33 + 4 * (a_X11_sideOf s (nI a)).toNatClampNeg + (what (5 * c)).toNatClampNeg)).toNatClampNeg) ∧ nb (effS pa ne dn va ce (nI c) (nI a)) 82 := by
  have hp4 := hL.2.2.2.1
  have hc8 := hL.2.2.2.2
  obtain ⟨e1, e2⟩ := h.side hp4 ha
  obtain ⟨tp, htp4, htp⟩ := nb_e (hL.2.2.1 c (by omega))
  have hF := h.1
  have hv := hF.2 a tp ha htp4
  have hpt : part pa (nI c) 0 = nI tp := by
    show part pa (nI c) (nI 0) = _
    rw [part_e (by omega) (by decide), (hL.2.1 c hc).1 0 (by decide)]; exact htp
  have kt : (nI tp).toNatClampNeg = tp := nI_clamp (by omega)
  unfold effS effN a_X11_firstTold
  rw [e1, hpt, htp, kt, vanO_e (by omega) htp4, ← hv.1]
  rcases e2 with e2 | ⟨k, hk, e2⟩
  · rw [e2, if_pos rfl, if_pos rfl]
    exact effB_e (k := 0) hL hF hc ha hv.2 (by decide)
  · have hn := nI_nm1 (a := k) (by omega)
    have q33 : 33 + 4 * k + tp = qx (12 + 4 * k + tp) := by unfold qx; rw [if_neg (by omega)]; omega
    obtain ⟨m, hm, hme⟩ := nb_e ((h.Tm hp4 hc8 hM).1 (33 + 4 * k + tp) (by omega) (by omega))
    have hm30 : m < 31 := by
      obtain ⟨-, -, -, -, -, -, hE, hdu⟩ := h
      rw [q33, hE _ (by omega)] at hme
      rcases hdu with ⟨a1, a2, a3, a4⟩ | ⟨⟨-, ⟨pn, F, X, W, K, R, T, S, P, hJ, -⟩, -⟩, -⟩
      · rw [show 12 + 4 * k + tp = 2 + (10 + 4 * k + tp) by omega, a3 _ (by omega)] at hme
        have := (nI_eq (a := 0) (by decide) (by omega)).mp hme
        omega
      · obtain ⟨j1, j2, j3, j4, j5, j6, j7, j8, j9, j10, -⟩ := hJ
        have h10 := j10 (4 * k + tp) (by omega)
        rw [← Nat.add_assoc, hme] at h10
        have h8 := cb_8 S (s256 j5.2 hc8)
        have := (nI_eq (a := m) (by omega) (by omega)).mp h10.1
        omega
    rw [e2, if_neg hn, if_neg hn, dTold_n hk htp4, nI_clamp (show k < 2 ^ 31 by omega)]
    have : ce (12 + 4 * k + tp) = nI m := by
      rw [← h.2.2.2.2.2.2.1 _ (by omega), ← q33]; exact hme
    rw [this, hme, nI_clamp (show m < 2 ^ 31 by omega)]
    exact effB_e hL hF hc ha hv.2 hm30
theorem cl_effect {M : Nat} {μ : zH} {x y : Int32} (hM : M ≤ 1000) (h : WI M μ) : CL M μ mi_X10_effect mi_X11_effect [.inl x, .inl y] := by
  have h0 := h
  obtain ⟨np, nc, kw, kc, kb, kn, hH, hT, hL, hS, -⟩ := h0
  obtain ⟨⟨p1, c1, -⟩, ⟨p2, c2, -⟩, -, hp4, hc8, -⟩ := hH
  refine cl_pure h (fun l X => e_X10_effect (d := 22)) (fun l X => e_X11_effect (d := 21) p2 hp4 c2 hc8 hL.1.2.2.1 (SR.Tm hp4 hc8 (by omega) hS).1) rfl ?_
  unfold a_X10_effect a_X11_effect
  rcases phra (x := x) (f := μ 1) (g := upd (μ 67) 0 0) hc8 c1 c2 with ⟨q1, q2⟩ | ⟨c, hc, rfl, q1, q2⟩
  · rw [if_pos q1, if_pos q2]
  · rw [if_neg q1, if_neg q2]
    rcases pers (x := y) (f := μ 1) (g := upd (μ 67) 0 0) hp4 p1 p2 with ⟨r1, r2⟩ | ⟨a, ha, rfl, r1, r2⟩
    · rw [if_pos r1, if_pos r2]
    · rw [if_neg r1, if_neg r2, (eff_now hL.1 hS (by omega) hc ha).1, nI_clamp (show c < 2 ^ 31 by omega), nI_clamp (show a < 2 ^ 31 by omega)]
theorem cl_met {M : Nat} {μ : zH} {x y : Int32} (h : WI M μ) : CL M μ mi_X10_met mi_X11_met [.inl x, .inl y] := by
  have h0 := h
  obtain ⟨np, nc, kw, kc, kb, kn, hH, hT, hL, hS, -⟩ := h0
  obtain ⟨⟨p1, c1, -⟩, ⟨p2, c2, -⟩, -, hp4, hc8, -⟩ := hH
  refine cl_pure h (fun l X => e_X10_met (d := 26)) (fun l X => e_X11_met (d := 25) p2 hp4) rfl ?_
  unfold a_X10_met a_X11_met a_X10_areTwo
  rcases pers (x := x) (f := μ 1) (g := upd (μ 67) 0 0) hp4 p1 p2 with ⟨q1, q2⟩ | ⟨a, ha, rfl, q1, q2⟩
  · rw [if_pos q1, if_pos q2, if_pos rfl]
  · rw [if_neg q1, if_neg q2]
    rcases pers (x := y) (f := μ 1) (g := upd (μ 67) 0 0) hp4 p1 p2 with ⟨r1, r2⟩ | ⟨b, hb, rfl, r1, r2⟩
    · rw [if_pos r1, if_pos r2, if_pos rfl]
    · rw [if_neg r1, if_neg r2]
      by_cases e : nI a = nI b
      · rw [if_pos e, if_pos e, if_pos rfl]
      · rw [if_neg e, if_neg e, if_neg (by decide)]
        have hab : a ≠ b := fun q => e (congrArg nI q)
        have hp6 := (pr_e a (by omega) b (by omega) hab).2
        rw [prO_e a (by omega) b (by omega) hab, rA_n hp6 (by decide), nI_clamp (show a < 2 ^ 31 by omega), nI_clamp (show b < 2 ^ 31 by omega)]
        exact hS.2.1.2.1 _ hp6
theorem cl_act {M : Nat} {μ : zH} {x y : Int32} (h : WI M μ) : CL M μ mi_X10_act mi_X11_act [.inl x, .inl y] := by
  have h0 := h
  obtain ⟨np, nc, kw, kc, kb, kn, hH, hT, hL, hS, hMm, hN⟩ := h0
  have hH0 := hH
  obtain ⟨⟨p1, c1, -⟩, ⟨p2, c2, -⟩, -, hp4, hc8, -⟩ := hH
  have l8 : ∀ y : Int32, (y < 8) = (y ≤ 7) := fun y => lt_le (n := 7) (by decide)
  refine cl_mk (fun l X => e_X10_act (d := 24)) (fun l X => e_X11_act (d := 25) p2 hp4) ?_ ?_
  · show a_X11_act (μ 67) (μ 72) x y = a_X10_act (μ 1) (μ 24) x y
    unfold a_X10_act a_X11_act
    simp only [l8]
    rcases pers (x := x) (f := μ 1) (g := upd (μ 67) 0 0) hp4 p1 p2 with ⟨q1, q2⟩ | ⟨a, ha, rfl, q1, q2⟩
    · rw [if_pos q1, if_pos q2]
    rw [if_neg q1, if_neg q2]
    rcases rg0 y (b := 7) (n := 7) rfl (by decide) with ⟨r1, r2⟩ | ⟨k, hk, rfl, r1, r2, r3⟩
    · rw [if_pos r1]
      rcases r2 with r2 | ⟨r2, r3⟩
      · rw [if_pos r2]
      · rw [if_neg r2, if_neg r3]
    rw [if_neg r1, if_neg r2, if_pos r3, rA_n (by omega) (by decide), rP_n (by omega) (by decide), rA_n (by omega) (by decide), ups, nI_clamp (show a < 2 ^ 31 by omega), (hS.1.1 a ha).1]
  · show WI (M + 1) (zhs (zhs (zhs μ 24 (w_X10_act_24 (μ 1) (μ 24) x y)) 67 (upd (μ 67) 0 0)) 72 (w_X11_act_72 (μ 67) (μ 72) x y))
    refine ⟨np, nc, kw, kc, kb, kn, hH0, hT, hL, ?_, WM.mono hMm (Nat.le_succ _), hN⟩
    show SR np nc (M + 1) (w_X10_act_24 (μ 1) (μ 24) x y) (μ 25) (μ 15) (μ 16) (μ 17) (μ 21) (μ 22) (μ 13 3) (w_X11_act_72 (μ 67) (μ 72) x y) (μ 74)
    refine SR.mono ?_ (Nat.le_succ M)
    unfold w_X10_act_24 w_X11_act_72
    simp only [l8]
    rcases pers (x := x) (f := μ 1) (g := upd (μ 67) 0 0) hp4 p1 p2 with ⟨q1, q2⟩ | ⟨a, ha, rfl, q1, q2⟩
    · rw [if_pos q1, if_pos q2]; exact hS
    rw [if_neg q1, if_neg q2]
    rcases rg0 y (b := 7) (n := 7) rfl (by decide) with ⟨r1, r2⟩ | ⟨k, hk, rfl, r1, r2, r3⟩
    · rw [if_pos r1]
      rcases r2 with r2 | ⟨r2, r3⟩
      · rw [if_pos r2]; exact hS
      · rw [if_neg r2, if_neg r3]; exact hS
    rw [if_neg r1, if_neg r2, if_pos r3, rA_n (by omega) (by decide), rP_n (by omega) (by decide), nI_clamp (show a < 2 ^ 31 by omega), ← (hS.1.1 a ha).1]
    obtain ⟨m, hm, hme⟩ := nb_e (hS.1.1 a ha).2
    have hk8 := pw_le (n := k + 1) (m := 8) (by omega)
    have hk9 : (2 : Nat) ^ k < 2 ^ (k + 1) := Nat.pow_lt_pow_right (by decide) (by omega)
    have hor : m ||| 2 ^ k < 2 ^ 8 := Nat.or_lt_two_pow hm (by omega)
    refine SR.folk hS ⟨fun d hd => ?_, fun d t hd ht => ?_⟩ (fun j hj => upn (by omega))
    · by_cases e : d = a
      · subst e
        rw [ups, ups]
        refine ⟨rfl, ?_⟩
        rw [hme, bit1 (by omega), nI_or (by omega) (by omega)]
        exact nb_i hor (by decide)
      · rw [upn e, upn e]; exact hS.1.1 d hd
    · rw [upn (by omega)]; exact hS.1.2 d t hd ht
theorem cl_vanity {M : Nat} {μ : zH} {x y v : Int32} (h : WI M μ) : CL M μ mi_X10_vanity mi_X11_vanity [.inl x, .inl y, .inl v] := by
  have h0 := h
  obtain ⟨np, nc, kw, kc, kb, kn, hH, hT, hL, hS, hMm, hN⟩ := h0
  have hH0 := hH
  obtain ⟨⟨p1, c1, -⟩, ⟨p2, c2, -⟩, -, hp4, hc8, -⟩ := hH
  have l10 : ∀ y : Int32, (y < 10) = (y ≤ 9) := fun y => lt_le (n := 9) (by decide)
  have tpc : ∀ y : Int32, (a_X10_isTopic y = 0 ∧ a_X11_in y 0 3 = 0) ∨ ∃ t, t < 4 ∧ y = nI t ∧ ¬ a_X10_isTopic y = 0 ∧ ¬ a_X11_in y 0 3 = 0 := by
    intro y
    have l4 : (4 ≤ y) = ¬ y ≤ 3 := by
      rw [show (y ≤ 3) = (y < 4) from (lt_le (x := y) (n := 3) (by decide)).symm]
      exact propext ⟨fun q r => Int32.not_lt.mpr q r, fun q => Int32.not_lt.mp q⟩
    unfold a_X10_isTopic
    simp only [l4]
    rcases rg0 y (b := 3) (n := 3) rfl (by decide) with ⟨r1, r2⟩ | ⟨k, hk, rfl, r1, r2, r3⟩
    · refine Or.inl ⟨?_, r1⟩
      rcases r2 with r2 | ⟨r2, r3⟩
      · rw [if_pos r2]
      · rw [if_neg r2, if_pos r3]
    · refine Or.inr ⟨k, by omega, rfl, ?_, r1⟩
      rw [if_neg r2, if_neg (fun q => q r3)]
      decide
  refine cl_mk (fun l X => e_X10_vanity (d := 24)) (fun l X => e_X11_vanity (d := 25) p2 hp4) ?_ ?_
  · show a_X11_vanity (μ 67) (μ 72) x y v = a_X10_vanity (μ 1) (μ 25) x y v
    unfold a_X10_vanity a_X11_vanity
    simp only [l10]
    rcases pers (x := x) (f := μ 1) (g := upd (μ 67) 0 0) hp4 p1 p2 with ⟨q1, q2⟩ | ⟨a, ha, rfl, q1, q2⟩
    · rw [if_pos q1, if_pos q2]
    rw [if_neg q1, if_neg q2]
    rcases tpc y with ⟨q1, q2⟩ | ⟨t, ht, rfl, q1, q2⟩
    · rw [if_pos q1, if_pos q2]
    rw [if_neg q1, if_neg q2]
    rcases rg0 v (b := 9) (n := 9) rfl (by decide) with ⟨r1, r2⟩ | ⟨k, hk, rfl, r1, r2, r3⟩
    · rw [if_pos r1]
      rcases r2 with r2 | ⟨r2, r3⟩
      · rw [if_pos r2]
      · rw [if_neg r2, if_neg r3]
    rw [if_neg r1, if_neg r2, if_pos r3, nI_clamp (show a < 2 ^ 31 by omega), nI_clamp (show t < 2 ^ 31 by omega), vanO_e (by omega) ht]
    exact (hS.1.2 a t ha ht).1
  · show WI (M + 1) (zhs (zhs (zhs μ 25 (w_X10_vanity_25 (μ 1) (μ 25) x y v)) 67 (upd (μ 67) 0 0)) 72 (w_X11_vanity_72 (μ 67) (μ 72) x y v))
    refine ⟨np, nc, kw, kc, kb, kn, hH0, hT, hL, ?_, WM.mono hMm (Nat.le_succ _), hN⟩
    show SR np nc (M + 1) (μ 24) (w_X10_vanity_25 (μ 1) (μ 25) x y v) (μ 15) (μ 16) (μ 17) (μ 21) (μ 22) (μ 13 3) (w_X11_vanity_72 (μ 67) (μ 72) x y v) (μ 74)
    refine SR.mono ?_ (Nat.le_succ M)
    unfold w_X10_vanity_25 w_X11_vanity_72
    simp only [l10]
    rcases pers (x := x) (f := μ 1) (g := upd (μ 67) 0 0) hp4 p1 p2 with ⟨q1, q2⟩ | ⟨a, ha, rfl, q1, q2⟩
    · rw [if_pos q1, if_pos q2]; exact hS
    rw [if_neg q1, if_neg q2]
    rcases tpc y with ⟨q1, q2⟩ | ⟨t, ht, rfl, q1, q2⟩
    · rw [if_pos q1, if_pos q2]; exact hS
    rw [if_neg q1, if_neg q2]
    rcases rg0 v (b := 9) (n := 9) rfl (by decide) with ⟨r1, r2⟩ | ⟨k, hk, rfl, r1, r2, r3⟩
    · rw [if_pos r1]
      rcases r2 with r2 | ⟨r2, r3⟩
      · rw [if_pos r2]; exact hS
      · rw [if_neg r2, if_neg r3]; exact hS
    have i4 : nI a * 4 + nI t = nI (4 * a + t) := by
      show nI a * nI 4 + nI t = _
      rw [pk_mul, nI_add, Nat.mul_comm]
    rw [if_neg r1, if_neg r2, if_pos r3, i4, rP_n (by omega) (by decide), nI_clamp (show a < 2 ^ 31 by omega), nI_clamp (show t < 2 ^ 31 by omega)]
    refine SR.folk hS ⟨fun d hd => ?_, fun d u hd hu => ?_⟩ (fun j hj => upn (by omega))
    · rw [upn (by omega)]; exact hS.1.1 d hd
    · by_cases e : 4 * d + u = 4 * a + t
      · rw [show 4 + 4 * d + u = 4 + 4 * a + t by omega, e, ups, ups]
        exact ⟨rfl, nb_i (by omega) (by decide)⟩
      · rw [upn (by omega), upn e]; exact hS.1.2 d u hd hu
