theorem can72 : a_X11_canTurn_72 = a_X11_canTurn_73 := rfl
/-- whether a turn may be, alike -/
theorem can_e {np nc M : Nat} {ce r f67 : Nat → Int32} (hnc : nc ≤ 8) (hnp : np ≤ 4) (hD : DR np nc M ce r) (hR : ce 2 = 0) (hg : f67 11 = nI nc) {t : Int32} (ht : t = 8 ∨ t = 9 ∨ ∃ c, c < nc ∧ t = nI c) : (dAl ce t = true ↔ LT nc ce t) ∧ (¬ a_X11_canTurn_73 f67 r t = 0 ↔ LT nc ce t) := by
  obtain ⟨hE, ⟨pn, F, X, W, K, R, T, S, P, hJ, h24⟩, hm⟩ := hD
  obtain ⟨hT, hsd⟩ := hJ.T hnc
  obtain ⟨h1, h2, h3, h4, h5, h6, h7, h8, h9, h10, h11, h12⟩ := hJ
  have hS := s256 h5.2 hnc
  have eT : (ce 3).toNatClampNeg = T := by rw [h4, nI_clamp (by omega)]
  have eS : (ce 4).toNatClampNeg = S := by rw [h5.1, nI_clamp (by omega)]
  have hs : T % 2 < 2 := Nat.mod_lt _ (by decide)
  have hgo : dGo ce = true := by
    unfold dGo dEx
    rw [show cell ce 0 = ce 0 from cell_n (i := 0) (by decide), show cell ce 2 = ce 2 from cell_n (i := 2) (by decide), (h1 0 (by decide)).1, hR]
    have := nI_nm1 (a := pn 0) (by have := (h1 0 (by decide)).2; omega)
    simp [this]
  have h40 : cell ce 3 < 40 := by
    rw [show cell ce 3 = ce 3 from cell_n (i := 3) (by decide), h4]
    exact nI_lt (b := 40) (by omega) (by omega)
  have hal : dAl ce t = (if t = 9 then decide (0 < cell ce (8 + dSd ce)) else decide (t = 8) || dUn ce t) := by
    unfold dAl
    rw [hgo, decide_eq_true h40]
    rfl
  rw [hal]
  have i8 : (8 : Int32) + nI (T % 2) = nI (8 + T % 2) := nI_add 8 _
  have q29 : 29 + T % 2 = qx (8 + T % 2) := by unfold qx; rw [if_neg (by omega)]; omega
  unfold a_X11_canTurn_73
  rcases ht with rfl | rfl | ⟨c, hc, rfl⟩
  · have hL : LT nc ce 8 := Or.inl rfl
    rw [if_neg (show ¬ (8 : Int32) = 9 by decide), if_pos rfl]
    exact ⟨⟨fun _ => hL, fun _ => by simp⟩, ⟨fun _ => hL, fun _ => by decide⟩⟩
  · have hL : LT nc ce 9 ↔ 0 < ce (8 + T % 2) := by
      unfold LT
      rw [eT]
      refine ⟨fun q => ?_, fun q => Or.inr (Or.inl ⟨rfl, q⟩)⟩
      rcases q with q | q | ⟨c, h, q, -⟩
      · exact absurd q (by decide)
      · exact q.2
      · have := (nI_eq (a := 9) (by decide) (by omega)).mp q
        omega
    rw [if_pos rfl, if_neg (show ¬ (9 : Int32) = 8 by decide), if_pos rfl, if_pos (show (8 : Int32) ≤ 9 by decide), hL, hsd, i8, cell_n (by omega), h24, nI_clamp (by omega), q29, hE _ (by omega)]
    refine ⟨by simp, ?_⟩
    by_cases q : 0 < ce (8 + T % 2)
    · rw [if_pos q]; exact ⟨fun _ => q, fun _ => by decide⟩
    · rw [if_neg q]; exact ⟨fun w => absurd rfl w, fun w => absurd w q⟩
  · have c8 : ¬ nI c = 8 := fun q => by have := (nI_eq (b := 8) (by omega) (by decide)).mp q; omega
    have c9 : ¬ nI c = 9 := fun q => by have := (nI_eq (b := 9) (by omega) (by decide)).mp q; omega
    have l8 : ¬ 8 ≤ nI c := nI_ge (b := 8) (by omega) (by decide)
    have hL : LT nc ce (nI c) ↔ S / 2 ^ c % 2 = 0 := by
      unfold LT
      rw [eS]
      refine ⟨fun q => ?_, fun q => Or.inr (Or.inr ⟨c, hc, rfl, q⟩)⟩
      rcases q with q | q | ⟨c', h, q, w⟩
      · exact absurd q c8
      · exact absurd q.1 c9
      · have := (nI_eq (a := c) (by omega) (by omega)).mp q
        subst this
        exact w
    have hbit : (nI (S / 2 ^ c % 2) = 0) = (S / 2 ^ c % 2 = 0) := eq_n (n := 0) (by omega) (by decide)
    have hun : dUn ce (nI c) = decide (S / 2 ^ c % 2 = 0) := by
      unfold dUn zib
      rw [show cell ce 4 = ce 4 from cell_n (i := 4) (by decide), h5.1, nI_bit (by omega) (by omega), nI_toInt (by omega)]
      have : (0 : Int) ≤ (c : Int) ∧ (c : Int) < (8 : Int32).toInt := ⟨by omega, by show (c : Int) < 8; omega⟩
      rw [decide_eq_true this, Bool.true_and]
      simp only [hbit]
    have hic : ¬ a_X11_isCompliment f67 (nI c) = 0 := by
      unfold a_X11_isCompliment
      rw [inX, hg, if_pos]
      · decide
      · refine ⟨nI_pos' (by omega), ?_⟩
        have : nc = (nc - 1) + 1 := by omega
        rw [this, nI_pred]
        exact nI_le (by omega) (by omega)
    rw [if_neg c9, if_neg c8, if_neg c9, if_neg l8, if_neg hic, hL, hun, show r 25 = ce 4 from hE 4 (by decide), h5.1, nI_bit (by omega) (by omega)]
    simp only [hbit]
    refine ⟨by simp [c8], ?_⟩
    by_cases q : S / 2 ^ c % 2 = 0
    · rw [if_pos q]; exact ⟨fun _ => q, fun _ => by decide⟩
    · rw [if_neg q]; exact ⟨fun w => absurd rfl w, fun w => absurd w q⟩
theorem bz_tr {b : Bool} : (bz b = 0) = (b = false) := by cases b <;> simp [bz]
/-- does the duel go on, alike -/
theorem SR.go {np nc M : Nat} {dn va po me lo ce pt s b : Nat → Int32} {sd : Int32} (hp4 : np ≤ 4) (h : SR np nc M dn va po me lo ce pt sd s b) : (a_X11_goesOn s = 0 ∧ dGo ce = false) ∨ (¬ a_X11_goesOn s = 0 ∧ dGo ce = true ∧ ¬ ce 0 = -1 ∧ ce 2 = 0 ∧ DR np nc M ce s ∧ PA np nc M po me lo ce pt b) := by
  obtain ⟨hF, hG, hme, hz, hlo, hsd, hE, hdu⟩ := h
  have e0 : s 20 = ce 0 := hE 0 (by decide)
  have e2 : s 22 = ce 2 := hE 2 (by decide)
  have d0 : cell ce 0 = ce 0 := cell_n (i := 0) (by decide)
  have d2 : cell ce 2 = ce 2 := cell_n (i := 2) (by decide)
  unfold a_X11_goesOn a_X11_isDuel dGo dEx
  rw [e0, e2, d0, d2]
  rcases hdu with ⟨a1, a2, a3, a4⟩ | ⟨a1, a2⟩
  · left
    rw [if_pos a1, if_pos rfl, a1]
    exact ⟨rfl, by simp⟩
  · obtain ⟨A, B, hA, hB, hAB, eA, eB⟩ := a1.two hp4
    have hn : ¬ ce 0 = -1 := by rw [eA]; exact nI_nm1 (by omega)
    rw [if_neg hn, if_neg (by decide)]
    by_cases c : ce 2 = 0
    · right
      rw [if_pos c]
      exact ⟨by decide, by simp [hn, c], hn, c, a1, a2⟩
    · left
      rw [if_neg c]
      exact ⟨rfl, by simp [c]⟩
theorem dAl_go {ce : Nat → Int32} {t : Int32} (h : dGo ce = false) : dAl ce t = false := by
  unfold dAl
  rw [h]; rfl
/-- the three that play a turn: what becomes of the heap -/
theorem WI.turn {M : Nat} {μ : zH} {np nc kw kc kb kn : Nat} {A22 A21 A17 A16 A15 A74 A72 : Nat → Int32} (hH : WH np nc kw kc kb kn μ) (hT : WT kn μ) (hL : WL np nc μ) (hMm : WM np nc M μ) (hN : WN np nc kw kc kb μ) (hS : SR np nc (M + 1) (μ 24) (μ 25) A15 A16 A17 A21 A22 (μ 13 3) A72 A74) :
    WI (M + 1) (zhs (zhs (zhs (zhs (zhs (zhs (zhs (zhs μ 22 A22) 21 A21) 17 A17) 16 A16) 15 A15) 67 (upd (μ 67) 0 0)) 74 A74) 72 A72) :=
  ⟨np, nc, kw, kc, kb, kn, hH, hT, hL, hS, WM.mono hMm (Nat.le_succ _), hN⟩
theorem SR.res {np nc M : Nat} {dn va po me lo ce pt s b : Nat → Int32} {sd : Int32} (h : SR np nc M dn va po me lo ce pt sd s b) {i : Nat} (hi : i < 20) : s (qx i) = cell ce (nI i) := by
  rw [cell_n hi]; exact h.2.2.2.2.2.2.1 i hi
theorem cl_say {M : Nat} {μ : zH} {x : Int32} (hM : M < 1000) (h : WI M μ) : CL M μ mi_X10_say mi_X11_say [.inl x] := by
  obtain ⟨np, nc, kw, kc, kb, kn, hH, hT, hL, hS, hMm, hN⟩ := h
  have hH0 := hH
  obtain ⟨⟨p1, c1, -⟩, ⟨p2, c2, -⟩, -, hp4, hc8, -⟩ := hH
  have hgo := SR.go hp4 hS
  have hRB : ¬ a_X11_goesOn (μ 72) = 0 → RB (μ 72) ∧ nb (μ 72 23) 64 := fun q => by
    rcases hgo with g | g
    · exact absurd g.1 q
    · exact g.2.2.2.2.1.RB hp4 hc8 (by omega)
  refine cl_mk (fun l X => e_X10_say (d := 22)) (fun l X => e_X11_say2 (d := 20) c2 hc8 hL.1.2.2.1 hRB) ?_ ?_
  · show a_X11_say2 (μ 67) (μ 69) (μ 70) (μ 72) x = a_X10_say (μ 1) (μ 2) (μ 3) (μ 4) (μ 21) (μ 24) (μ 25) x
    unfold a_X11_say2 a_X10_say
    rcases phra (x := x) (f := μ 1) (g := upd (μ 67) 0 0) hc8 c1 c2 with ⟨q1, q2⟩ | ⟨c, hc, rfl, q1, q2⟩
    · rw [if_pos q1, if_pos q2]
    rw [if_neg q1, if_neg q2]
    rcases hgo with ⟨g1, g2⟩ | ⟨g1, g2, g3, g4, g5, g6⟩
    · rw [if_pos g1, dAl_go g2, if_pos (show bz false = 0 from rfl)]
    obtain ⟨k1, k2⟩ := can_e (f67 := upd (μ 67) 0 0) hc8 hp4 g5 g4 c2 (t := nI c) (Or.inr (Or.inr ⟨c, hc, rfl⟩))
    rw [if_neg g1, can72]
    by_cases q : LT nc (μ 21) (nI c)
    · rw [if_neg (k2.mpr q), k1.mpr q, if_neg (by decide)]
      exact (SR.play hL.1 hS hM g3 g4 q).res (i := 2) (by decide)
    · rw [if_pos (Classical.not_not.mp (fun w => q (k2.mp w))), Bool.eq_false_iff.mpr (fun w => q (k1.mp w)), if_pos (show bz false = 0 from rfl)]
  · refine WI.turn (A22 := w_X10_say_22 (μ 1) (μ 21) (μ 22) x) (A21 := w_X10_say_21 (μ 1) (μ 2) (μ 3) (μ 4) (μ 21) (μ 24) (μ 25) x) (A17 := w_X10_say_17 (μ 1) (μ 2) (μ 3) (μ 4) (μ 16) (μ 17) (μ 21) (μ 24) (μ 25) x) (A16 := w_X10_say_16 (μ 1) (μ 2) (μ 3) (μ 4) (μ 16) (μ 21) (μ 24) (μ 25) x) (A15 := w_X10_say_15 (μ 1) (μ 2) (μ 3) (μ 4) (μ 15) (μ 21) (μ 24) (μ 25) x) (A74 := w_X11_say2_74 (μ 67) (μ 72) (μ 74) x) (A72 := w_X11_say2_72 (μ 67) (μ 69) (μ 70) (μ 72) x) hH0 hT hL hMm hN ?_
    unfold w_X10_say_22 w_X10_say_21 w_X10_say_17 w_X10_say_16 w_X10_say_15 w_X11_say2_74 w_X11_say2_72
    rcases phra (x := x) (f := μ 1) (g := upd (μ 67) 0 0) hc8 c1 c2 with ⟨q1, q2⟩ | ⟨c, hc, rfl, q1, q2⟩
    · simp only [if_pos q1, if_pos q2]; exact SR.mono hS (Nat.le_succ _)
    simp only [if_neg q1, if_neg q2]
    rcases hgo with ⟨g1, g2⟩ | ⟨g1, g2, g3, g4, g5, g6⟩
    · have z : bz (dAl (μ 21) (nI c)) = 0 := by rw [dAl_go g2]; rfl
      simp only [if_pos g1, if_pos z]; exact SR.mono hS (Nat.le_succ _)
    obtain ⟨k1, k2⟩ := can_e (f67 := upd (μ 67) 0 0) hc8 hp4 g5 g4 c2 (t := nI c) (Or.inr (Or.inr ⟨c, hc, rfl⟩))
    rw [can72]
    by_cases q : LT nc (μ 21) (nI c)
    · have z : ¬ bz (dAl (μ 21) (nI c)) = 0 := by rw [k1.mpr q]; decide
      simp only [if_neg g1, if_neg (k2.mpr q), if_neg z]
      exact SR.play hL.1 hS hM g3 g4 q
    · have z : bz (dAl (μ 21) (nI c)) = 0 := by rw [Bool.eq_false_iff.mpr (fun w => q (k1.mp w))]; rfl
      simp only [if_neg g1, if_pos (Classical.not_not.mp (fun w => q (k2.mp w))), if_pos z]
      exact SR.mono hS (Nat.le_succ _)
theorem cl_pass {M : Nat} {μ : zH} (hM : M < 1000) (h : WI M μ) : CL M μ mi_X10_pass mi_X11_pass [] := by
  obtain ⟨np, nc, kw, kc, kb, kn, hH, hT, hL, hS, hMm, hN⟩ := h
  have hH0 := hH
  obtain ⟨⟨p1, c1, -⟩, ⟨p2, c2, -⟩, -, hp4, hc8, -⟩ := hH
  have hgo := SR.go hp4 hS
  have hRB : ¬ a_X11_goesOn (μ 72) = 0 → RB (μ 72) ∧ nb (μ 72 23) 64 := fun q => by
    rcases hgo with g | g
    · exact absurd g.1 q
    · exact g.2.2.2.2.1.RB hp4 hc8 (by omega)
  refine cl_mk (fun l X => e_X10_pass (d := 22)) (fun l X => e_X11_pass2 (d := 20) hL.1.2.2.1 hRB) ?_ ?_
  · show a_X11_pass2 (μ 69) (μ 70) (μ 72) = a_X10_pass (μ 2) (μ 3) (μ 4) (μ 21) (μ 24) (μ 25)
    unfold a_X11_pass2 a_X10_pass
    rcases hgo with ⟨g1, g2⟩ | ⟨g1, g2, g3, g4, g5, g6⟩
    · rw [if_pos g1, dAl_go g2, if_pos (show bz false = 0 from rfl)]
    obtain ⟨k1, k2⟩ := can_e (f67 := upd (μ 67) 0 0) hc8 hp4 g5 g4 c2 (t := 8) (Or.inl rfl)
    have q : LT nc (μ 21) 8 := Or.inl rfl
    rw [if_neg g1, k1.mpr q, if_neg (by decide)]
    exact (SR.play hL.1 hS hM g3 g4 q).res (i := 2) (by decide)
  · refine WI.turn (A22 := w_X10_pass_22 (μ 21) (μ 22)) (A21 := w_X10_pass_21 (μ 2) (μ 3) (μ 4) (μ 21) (μ 24) (μ 25)) (A17 := w_X10_pass_17 (μ 2) (μ 3) (μ 4) (μ 16) (μ 17) (μ 21) (μ 24) (μ 25)) (A16 := w_X10_pass_16 (μ 2) (μ 3) (μ 4) (μ 16) (μ 21) (μ 24) (μ 25)) (A15 := w_X10_pass_15 (μ 2) (μ 3) (μ 4) (μ 15) (μ 21) (μ 24) (μ 25)) (A74 := w_X11_pass2_74 (μ 72) (μ 74)) (A72 := w_X11_pass2_72 (μ 69) (μ 70) (μ 72)) hH0 hT hL hMm hN ?_
    unfold w_X10_pass_22 w_X10_pass_21 w_X10_pass_17 w_X10_pass_16 w_X10_pass_15 w_X11_pass2_74 w_X11_pass2_72
    rcases hgo with ⟨g1, g2⟩ | ⟨g1, g2, g3, g4, g5, g6⟩
    · have z : bz (dAl (μ 21) 8) = 0 := by rw [dAl_go g2]; rfl
      simp only [if_pos g1, if_pos z]; exact SR.mono hS (Nat.le_succ _)
    obtain ⟨k1, k2⟩ := can_e (f67 := upd (μ 67) 0 0) hc8 hp4 g5 g4 c2 (t := 8) (Or.inl rfl)
    have q : LT nc (μ 21) 8 := Or.inl rfl
    have z : ¬ bz (dAl (μ 21) 8) = 0 := by rw [k1.mpr q]; decide
    simp only [if_neg g1, if_neg z]
    exact SR.play hL.1 hS hM g3 g4 q
theorem cl_sorr {M : Nat} {μ : zH} (hM : M < 1000) (h : WI M μ) : CL M μ mi_X10_sorr mi_X11_sorr [] := by
  obtain ⟨np, nc, kw, kc, kb, kn, hH, hT, hL, hS, hMm, hN⟩ := h
  have hH0 := hH
  obtain ⟨⟨p1, c1, -⟩, ⟨p2, c2, -⟩, -, hp4, hc8, -⟩ := hH
  have hgo := SR.go hp4 hS
  have hRB : ¬ a_X11_goesOn (μ 72) = 0 → RB (μ 72) ∧ nb (μ 72 23) 64 := fun q => by
    rcases hgo with g | g
    · exact absurd g.1 q
    · exact g.2.2.2.2.1.RB hp4 hc8 (by omega)
  refine cl_mk (fun l X => e_X10_sorr (d := 22)) (fun l X => e_X11_sorr2 (d := 20) hL.1.2.2.1 hRB) ?_ ?_
  · show a_X11_sorr2 (μ 67) (μ 69) (μ 70) (μ 72) = a_X10_sorr (μ 2) (μ 3) (μ 4) (μ 21) (μ 24) (μ 25)
    unfold a_X11_sorr2 a_X10_sorr
    rcases hgo with ⟨g1, g2⟩ | ⟨g1, g2, g3, g4, g5, g6⟩
    · rw [if_pos g1, dAl_go g2, if_pos (show bz false = 0 from rfl)]
    obtain ⟨k1, k2⟩ := can_e (f67 := upd (μ 67) 0 0) hc8 hp4 g5 g4 c2 (t := 9) (Or.inr (Or.inl rfl))
    rw [if_neg g1, can72]
    by_cases q : LT nc (μ 21) 9
    · rw [if_neg (k2.mpr q), k1.mpr q, if_neg (by decide)]
      obtain ⟨-, ⟨pn, F, X, W, K, R, T, S, P, hJ, h24⟩, -⟩ := g5
      have hsd := (hJ.T hc8).2
      have hs : T % 2 < 2 := Nat.mod_lt _ (by decide)
      have i8 : (8 : Int32) + nI (T % 2) = nI (8 + T % 2) := nI_add 8 _
      have q29 : 29 + T % 2 = qx (8 + T % 2) := by unfold qx; rw [if_neg (by omega)]; omega
      rw [h24, nI_clamp (by omega), q29, hsd, i8]
      exact (SR.play hL.1 hS hM g3 g4 q).res (by omega)
    · rw [if_pos (Classical.not_not.mp (fun w => q (k2.mp w))), Bool.eq_false_iff.mpr (fun w => q (k1.mp w)), if_pos (show bz false = 0 from rfl)]
  · refine WI.turn (A22 := w_X10_sorr_22 (μ 21) (μ 22)) (A21 := w_X10_sorr_21 (μ 2) (μ 3) (μ 4) (μ 21) (μ 24) (μ 25)) (A17 := w_X10_sorr_17 (μ 2) (μ 3) (μ 4) (μ 16) (μ 17) (μ 21) (μ 24) (μ 25)) (A16 := w_X10_sorr_16 (μ 2) (μ 3) (μ 4) (μ 16) (μ 21) (μ 24) (μ 25)) (A15 := w_X10_sorr_15 (μ 2) (μ 3) (μ 4) (μ 15) (μ 21) (μ 24) (μ 25)) (A74 := w_X11_sorr2_74 (μ 67) (μ 72) (μ 74)) (A72 := w_X11_sorr2_72 (μ 67) (μ 69) (μ 70) (μ 72)) hH0 hT hL hMm hN ?_
    unfold w_X10_sorr_22 w_X10_sorr_21 w_X10_sorr_17 w_X10_sorr_16 w_X10_sorr_15 w_X11_sorr2_74 w_X11_sorr2_72
    rcases hgo with ⟨g1, g2⟩ | ⟨g1, g2, g3, g4, g5, g6⟩
    · have z : bz (dAl (μ 21) 9) = 0 := by rw [dAl_go g2]; rfl
      simp only [if_pos g1, if_pos z]; exact SR.mono hS (Nat.le_succ _)
    obtain ⟨k1, k2⟩ := can_e (f67 := upd (μ 67) 0 0) hc8 hp4 g5 g4 c2 (t := 9) (Or.inr (Or.inl rfl))
    rw [can72]
    by_cases q : LT nc (μ 21) 9
    · have z : ¬ bz (dAl (μ 21) 9) = 0 := by rw [k1.mpr q]; decide
      simp only [if_neg g1, if_neg (k2.mpr q), if_neg z]
      exact SR.play hL.1 hS hM g3 g4 q
    · have z : bz (dAl (μ 21) 9) = 0 := by rw [Bool.eq_false_iff.mpr (fun w => q (k1.mp w))]; rfl
      simp only [if_neg g1, if_pos (Classical.not_not.mp (fun w => q (k2.mp w))), if_pos z]
      exact SR.mono hS (Nat.le_succ _)
