theorem le_n {k n : Nat} (hk : k < 2 ^ 31) (hn : n < 2 ^ 31) : (nI k ≤ nI n) = (k ≤ n) := by
  refine propext ?_
  rw [Int32.le_iff_toInt_le, nI_toInt hk, nI_toInt hn]
  omega
/-- is there a duel, alike -/
theorem SR.ex {np nc M : Nat} {dn va po me lo ce pt s b : Nat → Int32} {sd : Int32} (hp4 : np ≤ 4) (h : SR np nc M dn va po me lo ce pt sd s b) : (a_X11_isDuel s = 0 ∧ bz (dEx ce) = 0 ∧ ce 0 = -1 ∧ ce 1 = -1 ∧ ∀ i, i < 18 → ce (2 + i) = 0) ∨ (¬ a_X11_isDuel s = 0 ∧ ¬ bz (dEx ce) = 0 ∧ ¬ ce 0 = -1 ∧ DR np nc M ce s ∧ PA np nc M po me lo ce pt b) := by
  obtain ⟨hF, hG, hme, hz, hlo, hsd, hE, hdu⟩ := h
  have e0 : s 20 = ce 0 := hE 0 (by decide)
  have d0 : cell ce 0 = ce 0 := cell_n (i := 0) (by decide)
  unfold a_X11_isDuel dEx
  rw [e0, d0]
  rcases hdu with ⟨a1, a2, a3, a4⟩ | ⟨a1, a2⟩
  · left
    rw [if_pos a1, a1]
    exact ⟨rfl, by simp [bz], rfl, a2, a3⟩
  · right
    obtain ⟨A, B, hA, hB, hAB, eA, eB⟩ := a1.two hp4
    have hn : ¬ ce 0 = -1 := by rw [eA]; exact nI_nm1 (by omega)
    rw [if_neg hn]
    exact ⟨by decide, by simp [bz, hn], hn, a1, a2⟩
theorem cl_duel {M : Nat} {μ : zH} {x y : Int32} (h : WI M μ) : CL M μ mi_X10_duel mi_X11_duel [.inl x, .inl y] := by
  obtain ⟨np, nc, kw, kc, kb, kn, hH, hT, hL, hS, hMm, hN⟩ := h
  have hH0 := hH
  obtain ⟨⟨p1, c1, -⟩, ⟨p2, c2, -⟩, -, hp4, hc8, -⟩ := hH
  have h67 : w_X11_duel_67 (μ 67) x y = upd (μ 67) 0 0 := by unfold w_X11_duel_67; simp only [ite_self]
  refine cl_mk (fun l X => e_X10_duel (d := 24)) (fun l X => e_X11_duel (d := 25)) ?_ ?_
  · show a_X11_duel (μ 67) x y = a_X10_duel (μ 1) x y
    unfold a_X11_duel a_X10_duel a_X10_areTwo
    rcases pers (x := x) (f := μ 1) (g := upd (μ 67) 0 0) hp4 p1 p2 with ⟨q1, q2⟩ | ⟨a, ha, rfl, q1, q2⟩
    · rw [if_pos q1, if_pos q2, if_pos rfl]
    rw [if_neg q1, if_neg q2]
    rcases pers (x := y) (f := μ 1) (g := upd (μ 67) 0 0) hp4 p1 p2 with ⟨r1, r2⟩ | ⟨b, hb, rfl, r1, r2⟩
    · rw [if_pos r1, if_pos r2, if_pos rfl]
    rw [if_neg r1, if_neg r2]
    by_cases e : nI a = nI b
    · rw [if_pos e, if_pos e, if_pos rfl]
    · rw [if_neg e, if_neg e, if_neg (by decide)]
  · show WI (M + 1) (zhs (zhs (zhs μ 21 (w_X10_duel_21 (μ 1) (μ 21) x y)) 67 (w_X11_duel_67 (μ 67) x y)) 72 (w_X11_duel_72 (μ 67) (μ 72) x y))
    rw [h67]
    refine ⟨np, nc, kw, kc, kb, kn, hH0, hT, hL, ?_, WM.mono hMm (Nat.le_succ _), hN⟩
    show SR np nc (M + 1) (μ 24) (μ 25) (μ 15) (μ 16) (μ 17) (w_X10_duel_21 (μ 1) (μ 21) x y) (μ 22) (μ 13 3) (w_X11_duel_72 (μ 67) (μ 72) x y) (μ 74)
    refine SR.mono ?_ (Nat.le_succ M)
    unfold w_X10_duel_21 w_X11_duel_72 a_X10_areTwo
    rcases pers (x := x) (f := μ 1) (g := upd (μ 67) 0 0) hp4 p1 p2 with ⟨q1, q2⟩ | ⟨a, ha, rfl, q1, q2⟩
    · rw [if_pos q1, if_pos q2, if_pos rfl]; exact hS
    rw [if_neg q1, if_neg q2]
    rcases pers (x := y) (f := μ 1) (g := upd (μ 67) 0 0) hp4 p1 p2 with ⟨r1, r2⟩ | ⟨b, hb, rfl, r1, r2⟩
    · rw [if_pos r1, if_pos r2, if_pos rfl]; exact hS
    rw [if_neg r1, if_neg r2]
    by_cases e : nI a = nI b
    · rw [if_pos e, if_pos e, if_pos rfl]; exact hS
    · rw [if_neg e, if_neg e, if_neg (by decide)]
      exact SR.begin hp4 hS ha hb (fun q => e (congrArg nI q))
theorem cl_undo {M : Nat} {μ : zH} {x : Int32} (hM : M ≤ 1000) (h : WI M μ) : CL M μ mi_X10_undo mi_X11_undo [.inl x] := by
  obtain ⟨np, nc, kw, kc, kb, kn, hH, hT, hL, hS, hMm, hN⟩ := h
  have hH0 := hH
  obtain ⟨⟨p1, c1, -⟩, ⟨p2, c2, -⟩, -, hp4, hc8, -⟩ := hH
  have h67 : w_X11_undo_67 (μ 67) (μ 72) x = upd (μ 67) 0 0 := by unfold w_X11_undo_67; simp only [ite_self]
  have hx := SR.ex hp4 hS
  have c3 : cell (μ 21) 3 = μ 21 3 := cell_n (i := 3) (by decide)
  have s3 : μ 72 23 = μ 21 3 := hS.2.2.2.2.2.2.1 3 (by decide)
  have hU : nb (μ 72 23) 64 := by
    rcases hx with g | g
    · rw [s3, g.2.2.2.2 1 (by decide)]; exact ⟨by decide, rfl⟩
    · exact (g.2.2.2.1.RB hp4 hc8 (by omega)).2
  have hin : (a_X11_in x 1 60 = 0 ∧ (x < 1 ∨ (¬ x < 1 ∧ ¬ x ≤ 60))) ∨ ∃ n, 1 ≤ n ∧ n ≤ 60 ∧ x = nI n ∧ ¬ a_X11_in x 1 60 = 0 ∧ ¬ x < 1 ∧ x ≤ 60 := by
    rw [inX]
    by_cases h1 : x < 1
    · exact Or.inl ⟨if_neg (fun q => Int32.not_lt.mpr q.1 h1), Or.inl h1⟩
    · by_cases h2 : x ≤ 60
      · have h0 : ¬ x < 0 := fun q => h1 (Int32.lt_iff_toInt_lt.mpr (by have := Int32.lt_iff_toInt_lt.mp q; have e0 : (0 : Int32).toInt = 0 := rfl; have e1 : (1 : Int32).toInt = 1 := rfl; omega))
        obtain ⟨k, hk, he⟩ := nI_of2 (n := 60) (M := 60) rfl h0 h2
        refine Or.inr ⟨k, ?_, hk, he, by rw [if_pos ⟨Int32.not_lt.mp h1, h2⟩]; decide, h1, h2⟩
        subst he
        have : ¬ k < 1 := fun q => h1 (nI_lt (b := 1) q (by omega))
        omega
      · exact Or.inl ⟨if_neg (fun q => h2 q.2), Or.inr ⟨h1, h2⟩⟩
  refine cl_mk (fun l X => e_X10_undo (d := 22)) (fun l X => e_X11_undo (d := 25) hU) ?_ ?_
  · show a_X11_undo (μ 72) (μ 74) x = a_X10_undo (μ 21) (μ 22) x
    unfold a_X11_undo a_X10_undo
    rcases hin with ⟨r1, r2⟩ | ⟨n, h1, h60, rfl, r1, r2, r3⟩
    · rw [if_pos r1]
      rcases r2 with r2 | ⟨r2, r3⟩
      · rw [if_pos r2]
      · rw [if_neg r2, if_neg r3]
    rw [if_neg r1, if_neg r2, if_pos r3]
    rcases hx with ⟨g1, g2, -⟩ | ⟨g1, g2, g3, g4, g5⟩
    · rw [if_pos g1, if_pos g2]
    rw [if_neg g1, if_neg g2, c3, s3]
    obtain ⟨T, hT3, hT35⟩ := g4.T hc8
    have hle := le_n (k := n) (n := T) (by omega) (by omega)
    rw [hT3, nI_clamp (show T < 2 ^ 31 by omega), nI_clamp (show n < 2 ^ 31 by omega)]
    by_cases q : n ≤ T
    · simp only [hle, if_pos q]
      exact (SR.undo hp4 hc8 hS hM g3 hT3 hT35 h1 q).2.2.2.2.2.2.1 3 (by decide)
    · simp only [hle, if_neg q]
  · show WI (M + 1) (zhs (zhs (zhs (zhs (zhs μ 16 (w_X10_undo_16 (μ 16) (μ 21) x)) 15 (w_X10_undo_15 (μ 15) (μ 21) x)) 21 (w_X10_undo_21 (μ 21) (μ 22) x)) 67 (w_X11_undo_67 (μ 67) (μ 72) x)) 72 (w_X11_undo_72 (μ 72) (μ 74) x))
    rw [h67]
    refine ⟨np, nc, kw, kc, kb, kn, hH0, hT, hL, ?_, WM.mono hMm (Nat.le_succ _), hN⟩
    show SR np nc (M + 1) (μ 24) (μ 25) (w_X10_undo_15 (μ 15) (μ 21) x) (w_X10_undo_16 (μ 16) (μ 21) x) (μ 17) (w_X10_undo_21 (μ 21) (μ 22) x) (μ 22) (μ 13 3) (w_X11_undo_72 (μ 72) (μ 74) x) (μ 74)
    refine SR.mono ?_ (Nat.le_succ M)
    unfold w_X10_undo_15 w_X10_undo_16 w_X10_undo_21 w_X11_undo_72
    rcases hin with ⟨r1, r2⟩ | ⟨n, h1, h60, rfl, r1, r2, r3⟩
    · simp only [if_pos r1]
      rcases r2 with r2 | ⟨r2, r3⟩
      · simp only [if_pos r2]; exact hS
      · simp only [if_neg r2, if_neg r3]; exact hS
    simp only [if_neg r1, if_neg r2, if_pos r3]
    rcases hx with ⟨g1, g2, -⟩ | ⟨g1, g2, g3, g4, g5⟩
    · simp only [if_pos g1, if_pos g2]; exact hS
    simp only [if_neg g1, if_neg g2]
    obtain ⟨T, hT3, hT35⟩ := g4.T hc8
    rw [c3, s3, hT3, nI_clamp (show T < 2 ^ 31 by omega), nI_clamp (show n < 2 ^ 31 by omega)]
    have hle := le_n (k := n) (n := T) (by omega) (by omega)
    by_cases q : n ≤ T
    · simp only [hle, if_pos q]
      exact SR.undo hp4 hc8 hS hM g3 hT3 hT35 h1 q
    · simp only [hle, if_neg q]; exact hS
theorem cl_powder {M : Nat} {μ : zH} (h : WI M μ) : CL M μ mi_X10_powder mi_X11_powder [] := by
  have h0 := h
  obtain ⟨np, nc, kw, kc, kb, kn, hH, hT, hL, hS, -⟩ := h0
  obtain ⟨⟨p1, c1, -⟩, ⟨p2, c2, -⟩, -, hp4, hc8, -⟩ := hH
  refine cl_pure h (fun l X => e_X10_powder (d := 24)) (fun l X => e_X11_powder (d := 28)) rfl ?_
  unfold a_X10_powder a_X11_powder
  have c10 : cell (μ 21) 10 = μ 21 10 := cell_n (i := 10) (by decide)
  have c11 : cell (μ 21) 11 = μ 21 11 := cell_n (i := 11) (by decide)
  have s10 : μ 72 31 = μ 21 10 := hS.2.2.2.2.2.2.1 10 (by decide)
  have s11 : μ 72 32 = μ 21 11 := hS.2.2.2.2.2.2.1 11 (by decide)
  rcases SR.ex hp4 hS with ⟨g1, g2, -⟩ | ⟨g1, g2, g3, g4, g5⟩
  · rw [if_pos g1, if_pos g2]
  rw [if_neg g1, if_neg g2, c10, c11, s10, s11]
  obtain ⟨-, ⟨pn, F, X, W, K, R, T, S, P, hJ, -⟩, -⟩ := g4
  obtain ⟨j1, j2, j3, j4, j5, j6, j7, j8, j9, j10, j11, j12⟩ := hJ
  have h8 := cb_8 S (s256 j5.2 hc8)
  have w0 := j9 0 (by decide)
  have w1 := j9 1 (by decide)
  rw [show μ 21 10 = nI (W 0) from w0.1, show μ 21 11 = nI (W 1) from w1.1]
  have hd := pk_sub_toInt (a := W 0) (b := W 1) (by omega) (by omega)
  have z1 : (nI (W 0) - nI (W 1) = 0) = (W 0 = W 1) := by
    refine propext ⟨fun q => ?_, fun q => ?_⟩
    · rw [q] at hd
      have e0 : (0 : Int32).toInt = 0 := rfl
      omega
    · refine Int32.toInt_inj.mp ?_
      rw [hd]
      have e0 : (0 : Int32).toInt = 0 := rfl
      omega
  have z2 : (nI (W 0) - nI (W 1) ≤ 0) = (W 0 ≤ W 1) := by
    refine propext ?_
    rw [Int32.le_iff_toInt_le, hd]
    have e0 : (0 : Int32).toInt = 0 := rfl
    omega
  simp only [z1, z2, le_n (show W 0 < 2 ^ 31 by omega) (show W 1 < 2 ^ 31 by omega), le_n (show W 1 < 2 ^ 31 by omega) (show W 0 < 2 ^ 31 by omega)]
  by_cases q : W 0 = W 1
  · rw [if_pos q, if_pos (by omega), if_pos (by omega)]
  · rw [if_neg q]
    by_cases q2 : W 0 ≤ W 1
    · rw [if_pos q2, if_pos q2, if_neg (by omega)]
    · rw [if_neg q2, if_neg q2]
/-- whose turn, alike -/
theorem whose_e {np nc M : Nat} {ce r : Nat → Int32} (hc8 : nc ≤ 8) (h : DR np nc M ce r) : a_X11_whose r = dPer ce (dSd ce) := by
  obtain ⟨hE, ⟨pn, F, X, W, K, R, T, S, P, hJ, h24⟩, hm⟩ := h
  have hs : T % 2 < 2 := Nat.mod_lt _ (by decide)
  rw [(hJ.T hc8).2, dPer_n hs]
  unfold a_X11_whose
  rw [h24, show r 20 = ce 0 from hE 0 (by decide), show r 21 = ce 1 from hE 1 (by decide)]
  rcases (by omega : T % 2 = 0 ∨ T % 2 = 1) with q | q
  · rw [q]; exact if_pos rfl
  · rw [q]; exact if_neg (by decide)
theorem cl_told {M : Nat} {μ : zH} {x : Int32} (h : WI M μ) : CL M μ mi_X10_told mi_X11_told [.inl x] := by
  have h0 := h
  obtain ⟨np, nc, kw, kc, kb, kn, hH, hT, hL, hS, -⟩ := h0
  obtain ⟨⟨p1, c1, w1, k1, b1, n1⟩, ⟨p2, c2, w2, k2, b2, n2⟩, hf, hp4, hc8, -⟩ := hH
  refine cl_pure h (fun l X => e_X10_told (d := 24)) (fun l X => e_X11_told (d := 25)) rfl ?_
  have hE := hS.2.2.2.2.2.2.1
  unfold a_X10_told a_X11_told
  rcases rg0 x (b := 12) (n := 12) rfl (by decide) with ⟨r1, r2⟩ | ⟨k, hk, rfl, r1, r2, r3⟩
  · rw [if_pos r1]
    have hne : ∀ k, k ≤ 12 → ¬ x = nI k := by
      intro k hk e
      subst e
      rcases r2 with r2 | ⟨r2, r3⟩
      · exact absurd r2 (fun q => by rw [Int32.lt_iff_toInt_lt, nI_toInt (by omega)] at q; have e0 : (0 : Int32).toInt = 0 := rfl; omega)
      · exact r3 (nI_le (b := 12) (by omega) (by omega))
    rw [if_neg (show ¬ x = 0 from hne 0 (by decide)), if_neg (show ¬ x = 1 from hne 1 (by decide)), if_neg (show ¬ x = 2 from hne 2 (by decide)), if_neg (show ¬ x = 3 from hne 3 (by decide)), if_neg (show ¬ x = 4 from hne 4 (by decide)), if_neg (show ¬ x = 5 from hne 5 (by decide)), if_neg (show ¬ x = 6 from hne 6 (by decide)), if_neg (show ¬ x = 7 from hne 7 (by decide)), if_neg (show ¬ x = 8 from hne 8 (by decide)), if_neg (show ¬ x = 9 from hne 9 (by decide)), if_neg (show ¬ x = 10 from hne 10 (by decide)), if_neg (show ¬ x = 11 from hne 11 (by decide)), if_neg (show ¬ x = 12 from hne 12 (by decide))]
  rw [if_neg r1]
  rcases (by omega : k = 0 ∨ k = 1 ∨ k = 2 ∨ k = 3 ∨ k = 4 ∨ k = 5 ∨ k = 6 ∨ k = 7 ∨ k = 8 ∨ k = 9 ∨ k = 10 ∨ k = 11 ∨ k = 12) with rfl | rfl | rfl | rfl | rfl | rfl | rfl | rfl | rfl | rfl | rfl | rfl | rfl
  · exact p2.trans p1.symm
  · exact c2.trans c1.symm
  · exact n2.trans n1.symm
  · exact (hE 0 (by decide)).trans (dPer_n (i := 0) (by decide)).symm
  · exact (hE 1 (by decide)).trans (dPer_n (i := 1) (by decide)).symm
  · exact (hE 2 (by decide)).trans (cell_n (i := 2) (by decide)).symm
  · exact (hE 3 (by decide)).trans (cell_n (i := 3) (by decide)).symm
  · show (if a_X11_goesOn (μ 72) = 0 then -1 else a_X11_whose (μ 72)) = (if bz (dGo (μ 21)) = 0 then -1 else dPer (μ 21) (dSd (μ 21)))
    rcases SR.go hp4 hS with ⟨g1, g2⟩ | ⟨g1, g2, g3, g4, g5, g6⟩
    · rw [if_pos g1, g2, if_pos (show bz false = 0 from rfl)]
    · rw [if_neg g1, g2, if_neg (show ¬ bz true = 0 by decide), whose_e hc8 g5]
  · exact (hE 4 (by decide)).trans (cell_n (i := 4) (by decide)).symm
  · exact w2.trans w1.symm
  · exact k2.trans k1.symm
  · exact b2.trans b1.symm
  · exact (hE 5 (by decide)).trans (cell_n (i := 5) (by decide)).symm
theorem cl_feed {M : Nat} {μ : zH} {x : Int32} (h : WI M μ) : CL M μ mi_X10_feed mi_X11_feed [.inl x] := by
  obtain ⟨np, nc, kw, kc, kb, kn, hH, hT, hL, hS, hMm, hN⟩ := h
  have hH0 := hH
  obtain ⟨⟨p1, c1, w1, k1, b1, n1⟩, ⟨p2, c2, w2, k2, b2, n2⟩, hf, hp4, hc8, hw12, hk4, hb20, hn250⟩ := hH
  have l250 : (nI kn < 250) = (kn < 250) := lt_n (by omega) (by decide)
  have e250 : (nI kn = 250) = (kn = 250) := eq_n (by omega) (by decide)
  refine cl_mk (fun l X => e_X10_feed (d := 26)) (fun l X => e_X11_feed (d := 25) n2 hn250) ?_ ?_
  · show a_X11_feed (μ 67) x = a_X10_feed (μ 6) x
    unfold a_X11_feed a_X10_feed
    rw [n1, n2]
    rcases rg0 x (b := 255) (n := 255) rfl (by decide) with ⟨r1, r2⟩ | ⟨k, hk, rfl, r1, r2, r3⟩
    · rw [if_pos r1]
      rcases r2 with r2 | ⟨r2, r3⟩
      · rw [if_pos r2]
      · rw [if_neg r2, if_neg r3]
    rw [if_neg r1, if_neg r2, if_pos r3]
    simp only [l250, e250]
    by_cases q : kn = 250
    · rw [if_pos q, if_neg (by omega)]
    · rw [if_neg q, if_pos (by omega)]
  · show WI (M + 1) (zhs (zhs (zhs (zhs μ 12 (w_X10_feed_12 (μ 6) (μ 12) x)) 6 (w_X10_feed_6 (μ 6) x)) 68 (w_X11_feed_68 (μ 67) (μ 68) x kn)) 67 (w_X11_feed_67 (μ 67) x))
    have hsame : w_X10_feed_12 (μ 6) (μ 12) x = μ 12 → w_X10_feed_6 (μ 6) x = μ 6 → w_X11_feed_68 (μ 67) (μ 68) x kn = μ 68 → w_X11_feed_67 (μ 67) x = upd (μ 67) 0 0 → WI (M + 1) (zhs (zhs (zhs (zhs μ 12 (w_X10_feed_12 (μ 6) (μ 12) x)) 6 (w_X10_feed_6 (μ 6) x)) 68 (w_X11_feed_68 (μ 67) (μ 68) x kn)) 67 (w_X11_feed_67 (μ 67) x)) :=
      fun a b c d => WI.same4 ⟨np, nc, kw, kc, kb, kn, hH0, hT, hL, hS, hMm, hN⟩ a b c d
    rcases rg0 x (b := 255) (n := 255) rfl (by decide) with ⟨r1, r2⟩ | ⟨k, hk, rfl, r1, r2, r3⟩
    · refine hsame ?_ ?_ ?_ ?_
      · unfold w_X10_feed_12
        rcases r2 with r2 | ⟨r2, r3⟩
        · rw [if_pos r2]
        · rw [if_neg r2, if_neg r3]
      · unfold w_X10_feed_6
        rcases r2 with r2 | ⟨r2, r3⟩
        · rw [if_pos r2]
        · rw [if_neg r2, if_neg r3]
      · unfold w_X11_feed_68; rw [if_pos r1]
      · unfold w_X11_feed_67; rw [if_pos r1]
    by_cases q : kn = 250
    · have q1 : ¬ kn < 250 := by omega
      refine hsame ?_ ?_ ?_ ?_
      · unfold w_X10_feed_12; rw [if_neg r2, if_pos r3, n1]; simp only [l250, if_neg q1]
      · unfold w_X10_feed_6; rw [if_neg r2, if_pos r3, n1]; simp only [l250, if_neg q1]
      · unfold w_X11_feed_68; rw [if_neg r1, n2]; simp only [e250, if_pos q]
      · unfold w_X11_feed_67; rw [if_neg r1, n2]; simp only [e250, if_pos q]
    have q1 : kn < 250 := by omega
    have a1 : w_X10_feed_12 (μ 6) (μ 12) (nI k) = upd (μ 12) kn (nI k) := by
      unfold w_X10_feed_12; rw [if_neg r2, if_pos r3, n1]; simp only [l250, if_pos q1]
      exact rP_n q1 (by decide)
    have a2 : w_X10_feed_6 (μ 6) (nI k) = upd (μ 6) 2 (nI (kn + 1)) := by
      unfold w_X10_feed_6; rw [if_neg r2, if_pos r3, n1]; simp only [l250, if_pos q1]
      show upd _ 2 (nI kn + nI 1) = _
      rw [nI_add]
    have a3 : w_X11_feed_68 (μ 67) (μ 68) (nI k) kn = upd (μ 68) kn (nI k) := by
      unfold w_X11_feed_68; rw [if_neg r1, n2]; simp only [e250, if_neg q]
    have a4 : w_X11_feed_67 (μ 67) (nI k) = upd (upd (μ 67) 0 0) 2 (nI (kn + 1)) := by
      unfold w_X11_feed_67; rw [if_neg r1, n2]; simp only [e250, if_neg q]
      show upd _ 2 (nI kn + nI 1) = _
      rw [nI_add]
    rw [a1, a2, a3, a4]
    refine ⟨np, nc, kw, kc, kb, kn + 1, ⟨⟨p1, c1, w1, k1, b1, rfl⟩, ⟨p2, c2, w2, k2, b2, rfl⟩, hf, hp4, hc8, hw12, hk4, hb20, by omega⟩, ?_, hL, SR.mono hS (Nat.le_succ _), WM.mono hMm (Nat.le_succ _), hN⟩
    intro j hj
    show upd (μ 12) kn (nI k) j = upd (μ 68) kn (nI k) j ∧ nb (upd (μ 68) kn (nI k) j) 256
    by_cases e : j = kn
    · subst e; rw [ups, ups]; exact ⟨rfl, nb_i (by omega) (by decide)⟩
    · rw [upn e, upn e]; exact hT j (by omega)
