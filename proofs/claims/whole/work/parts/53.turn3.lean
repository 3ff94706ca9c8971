theorem LGR.n {po me lo r : Nat → Int32} {j : Nat} {v : Int32} (h : LGR po me lo r) (hj : j < 41 ∨ 63 ≤ j) : LGR po me lo (upd r j v) :=
  ⟨fun i hi => by rw [upn (by omega)]; exact h.1 i hi, fun p hp => by rw [upn (by omega)]; exact h.2.1 p hp, fun p k hp hk hm => by rw [upn (by omega)]; exact h.2.2 p k hp hk hm⟩
theorem over_hi {r : Nat → Int32} {z : Int32} {k : Nat} (hO : OB r) (hk : k < 20 ∨ 63 ≤ k) : w_X11_over_73_73 r z k = r k := by
  obtain ⟨hp1, hp2⟩ := hO.pr
  have ha := hO.1.1.1
  have hb := hO.1.2.1.1
  have hm4 := hO.2.2 _ hp2
  unfold w_X11_over_73_73
  by_cases c : 2 ≤ r (45 + prN (r 20).toNatClampNeg (r 21).toNatClampNeg)
  · rw [if_pos c, upn (by omega), upn (by omega), upn (by omega), upn (by omega)]
  · rw [if_neg c]
    have hm2 := nb_lt (m := 2) hm4 (by decide) c (by decide)
    rw [upn (by omega), upn (by omega), upn (by omega), upn (by omega), upn (by omega)]
/-- what a turn makes of the row: T is what the class has -/
def TR (ce r ce' r' : Nat → Int32) (s : Nat) : Prop :=
  ER1 ce' r' ∧ r' 24 = nI (1 - s) ∧ (∀ k, k < 20 ∨ 63 ≤ k → r' k = r k) ∧
  ∀ po me lo, LGR po me lo r → (∀ p, p < 6 → nb (me p) 2000) → LGR (if ce' 2 = 0 then po else lcP po (ce 0) (ce 1) (ce' 2)) (if ce' 2 = 0 then me else lcM me (ce 0) (ce 1)) (if ce' 2 = 0 then lo else lcL lo me (ce 0) (ce 1) (ce' 2)) r'
/-- a row as the turns find it -/
def TB (np : Nat) (ce r : Nat → Int32) (s a b x : Nat) : Prop :=
  ER1 ce r ∧ r 24 = nI s ∧ s < 2 ∧ dSd ce = nI s ∧ ce s = nI a ∧ ce (1 - s) = nI b ∧ a < np ∧ b < np ∧ a ≠ b ∧ np ≤ 4 ∧ ce (6 + s) = nI x ∧ x < 1100 ∧ RB r ∧ ce 2 = 0
theorem TB.own {np : Nat} {ce r : Nat → Int32} {s a b x : Nat} (h : TB np ce r s a b x) : (if nI s = 0 then r 20 else r 21) = nI a ∧ (if nI s = 0 then r 21 else r 20) = nI b := by
  obtain ⟨h1, h2, h3, h4, h5, h6, -⟩ := h
  have e0 : r 20 = ce 0 := h1 0 (by decide)
  have e1 : r 21 = ce 1 := h1 1 (by decide)
  have hs : s = 0 ∨ s = 1 := by omega
  rcases hs with rfl | rfl
  · exact ⟨(if_pos rfl).trans (e0.trans h5), (if_pos rfl).trans (e1.trans h6)⟩
  · exact ⟨(if_neg (by decide)).trans (e1.trans h5), (if_neg (by decide)).trans (e0.trans h6)⟩
theorem TB.two {np : Nat} {ce r : Nat → Int32} {s a b x : Nat} (h : TB np ce r s a b x) : ∃ A B, A < 4 ∧ B < 4 ∧ A ≠ B ∧ ce 0 = nI A ∧ ce 1 = nI B ∧ r 20 = nI A ∧ r 21 = nI B := by
  obtain ⟨h1, h2, h3, h4, h5, h6, h7, h8, h9, h10, -⟩ := h
  have e0 : r 20 = ce 0 := h1 0 (by decide)
  have e1 : r 21 = ce 1 := h1 1 (by decide)
  have hs : s = 0 ∨ s = 1 := by omega
  rcases hs with rfl | rfl
  · exact ⟨a, b, by omega, by omega, h9, h5, h6, e0.trans h5, e1.trans h6⟩
  · exact ⟨b, a, by omega, by omega, Ne.symm h9, h6, h5, e0.trans h6, e1.trans h5⟩
theorem LGo {np : Nat} {ce r q : Nat → Int32} {s a b x : Nat} {z : Int32} (h : TB np ce r s a b x) (h20 : q 20 = r 20) (h21 : q 21 = r 21) (po me lo : Nat → Int32) (hq : LGR po me lo q) (hme : ∀ p, p < 6 → nb (me p) 2000) : LGR (lcP po (ce 0) (ce 1) z) (lcM me (ce 0) (ce 1)) (lcL lo me (ce 0) (ce 1) z) (w_X11_over_73_73 q z) := by
  obtain ⟨A, B, hA, hB, hAB, e0, e1, r0, r1⟩ := h.two
  rw [e0, e1]
  have hp := (pr_e A hA B hB hAB).2
  exact over_LG hq (h20.trans r0) (h21.trans r1) hA hB hAB (hme _ hp).2 (hme _ hp).1
theorem i1s {s : Nat} (h : s < 2) : (1 : Int32) - nI s = nI (1 - s) := pk_sub (a := 1) (by omega)
theorem rT8 {np P : Nat} {ce r f69 f70 sd : Nat → Int32} {s a b x y : Nat} (h : TB np ce r s a b x) (hy : f69 (6 * a + 1) = nI y) (hy1 : y < 100) (hP : ce 5 = nI P) (hP1 : P ≤ 1) : TR ce r (kT8 ce s (nI (x - y))) (w_X11_turns_73_73 f69 f70 sd r 8) s := by
  have hown := h.own.1
  have hbig := h
  obtain ⟨h1, h2, h3, h4, h5, h6, h7, h8, h9, h10, h11, h12, h13, h14⟩ := h
  have ka : (nI a).toNatClampNeg = a := nI_clamp (by omega)
  have ks : (nI s).toNatClampNeg = s := nI_clamp (by omega)
  have q27 : 27 + s = qx (6 + s) := by unfold qx; rw [if_neg (by omega)]; omega
  have e27 : r (27 + s) = nI x := by rw [q27, h1 _ (by omega), h11]
  have e26 : r 26 = nI P := (h1 5 (by decide)).trans hP
  have e23 : r 23 = ce 3 := h1 3 (by decide)
  have hc := (cool_e (x := x) (y := y) (by omega) (by omega)).2
  unfold w_X11_turns_73_73
  rw [if_neg (by decide), if_pos rfl]
  simp only [h2, hown, ka, ks, hy, e27, hc, e26, i1s h3, e23]
  have hE1 : ER1 (upd (upd ce (6 + s) (nI (x - y))) 5 (ce 5 + 1)) (upd (upd r (27 + s) (nI (x - y))) 26 (nI P + 1)) := (h1.u q27 rfl).u rfl (by rw [hP])
  have hp2 : (nI P + 1 = 2) = (P = 1) := propext (by rw [nI_1]; exact (nI_eq (b := 2) (by omega) (by decide)).trans (by omega))
  have hp3 : (2 ≤ ce 5 + 1) = (P = 1) := propext (by rw [hP, nI_1]; exact (nI_leI (a := 2) (by decide) (by omega)).trans (by omega))
  have hO : OB (upd (upd r (27 + s) (nI (x - y))) 26 (nI P + 1)) := (h13.1.u (by unfold okW; omega)).u (by unfold okW; omega)
  unfold kT8
  simp only [hp2, hp3]
  by_cases c : P = 1
  · rw [if_pos c, if_pos c, over_lo (by decide) (by decide), upn (show 23 ≠ 26 by decide), upn (show 23 ≠ 27 + s by omega), e23]
    refine ⟨((over_ER hE1).n (by omega)).u rfl rfl, by rw [upn (by omega), ups], ?_, ?_⟩
    · intro k hk
      rw [upn (by omega), upn (by omega), over_hi hO hk, upn (by omega), upn (by omega)]
    · intro po me lo hl hme
      have e2 : upd (upd (upd (upd ce (6 + s) (nI (x - y))) 5 (ce 5 + 1)) 2 3) 3 (ce 3 + 1) 2 = 3 := by rw [upn (by omega), ups]
      rw [e2, if_neg (by decide), if_neg (by decide), if_neg (by decide)]
      exact ((LGo hbig (by rw [upn (by omega), upn (by omega)]) (by rw [upn (by omega), upn (by omega)]) po me lo ((hl.n (by omega)).n (by omega)) hme).n (by omega)).n (by omega)
  · rw [if_neg c, if_neg c]
    refine ⟨(hE1.n (by omega)).u rfl rfl, by rw [upn (by omega), ups], ?_, ?_⟩
    · intro k hk
      rw [upn (by omega), upn (by omega), upn (by omega), upn (by omega)]
    · intro po me lo hl hme
      have e2 : upd (upd (upd ce (6 + s) (nI (x - y))) 5 (ce 5 + 1)) 3 (ce 3 + 1) 2 = 0 := by rw [upn (by omega), upn (by omega), upn (by omega), h14]
      rw [e2, if_pos rfl, if_pos rfl, if_pos rfl]
      exact (((hl.n (by omega)).n (by omega)).n (by omega)).n (by omega)
theorem rT9 {np : Nat} {ce r f69 f70 sd : Nat → Int32} {s a b x y : Nat} (h : TB np ce r s a b x) (hy : f69 (6 * a + 1) = nI y) (hy1 : y < 100) : TR ce r (kT9 ce s (nI (x - y))) (w_X11_turns_73_73 f69 f70 sd r 9) s := by
  have hown := h.own.1
  obtain ⟨h1, h2, h3, h4, h5, h6, h7, h8, h9, h10, h11, h12, h13, h14⟩ := h
  have ka : (nI a).toNatClampNeg = a := nI_clamp (by omega)
  have ks : (nI s).toNatClampNeg = s := nI_clamp (by omega)
  have q27 : 27 + s = qx (6 + s) := by unfold qx; rw [if_neg (by omega)]; omega
  have q29 : 29 + s = qx (8 + s) := by unfold qx; rw [if_neg (by omega)]; omega
  have e27 : r (27 + s) = nI x := by rw [q27, h1 _ (by omega), h11]
  have e29 : r (29 + s) = ce (8 + s) := by rw [q29, h1 _ (by omega)]
  have e23 : r 23 = ce 3 := h1 3 (by decide)
  have hc := (cool_e (x := x) (y := y) (by omega) (by omega)).2
  unfold w_X11_turns_73_73
  rw [if_pos rfl]
  simp only [h2, hown, ka, ks, hy, e27, hc, i1s h3, e23, e29]
  unfold kT9
  refine ⟨((((h1.u q27 rfl).u q29 (by rw [Int32.sub_eq_add_neg])).u rfl rfl).n (by omega)).u rfl rfl, by rw [upn (by omega), ups], ?_, ?_⟩
  · intro k hk
    rw [upn (by omega), upn (by omega), upn (by omega), upn (by omega), upn (by omega)]
  · intro po me lo hl hme
    have e2 : upd (upd (upd (upd ce (6 + s) (nI (x - y))) (8 + s) (ce (8 + s) + -1)) 5 0) 3 (ce 3 + 1) 2 = 0 := by rw [upn (by omega), upn (by omega), upn (by omega), upn (by omega), h14]
    rw [e2, if_pos rfl, if_pos rfl, if_pos rfl]
    exact ((((hl.n (by omega)).n (by omega)).n (by omega)).n (by omega)).n (by omega)
