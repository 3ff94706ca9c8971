/-- who is spoken to, and the effect on him, alike -/
theorem opp_e {np nc M : Nat} {tr pa ne who what dn va po me lo ce pt s b : Nat → Int32} {sd : Int32} (hL : LR np nc tr pa ne who what) (h : SR np nc M dn va po me lo ce pt sd s b) (hM : M ≤ 2000) (hD : DR np nc M ce s) : ∃ a, a < np ∧ a_X11_against s = nI a ∧ dPer ce (1 - dSd ce) = nI a ∧ ∀ c, c < nc → effS pa ne dn va ce (nI c) (nI a) = a_X11_effectNow what s c ∧ nb (effS pa ne dn va ce (nI c) (nI a)) 82 := by
  have hp4 := hL.2.2.2.1
  have hc8 := hL.2.2.2.2
  have heff := fun c (hc : c < nc) a (ha : a < np) => eff_now hL h hM hc ha
  have hsd := fun a (ha : a < np) => (h.side hp4 ha).1
  obtain ⟨hE, ⟨pn, F, X, W, K, R, T, S, P, hJ, h24⟩, hm⟩ := hD
  have hs : T % 2 < 2 := Nat.mod_lt _ (by decide)
  have hT2 := (hJ.T hc8).2
  obtain ⟨j1, j2, -⟩ := hJ
  have q0 := j1 0 (by decide)
  have q1 := j1 1 (by decide)
  have e20 : s 20 = ce 0 := hE 0 (by decide)
  have e21 : s 21 = ce 1 := hE 1 (by decide)
  have i1 : (1 : Int32) - nI (T % 2) = nI (1 - T % 2) := pk_sub (a := 1) (by omega)
  have hag : a_X11_against s = nI (pn (1 - T % 2)) := by
    unfold a_X11_against
    rw [h24, e20, e21]
    rcases (by omega : T % 2 = 0 ∨ T % 2 = 1) with q | q
    · rw [q, if_pos (show nI 0 = 0 from rfl)]; exact q1.1
    · rw [q, if_neg (by decide)]; exact q0.1
  have ha : pn (1 - T % 2) < np := (j1 _ (by omega)).2
  have hso : dSO ce (nI (pn (1 - T % 2))) = nI (1 - T % 2) := by
    unfold dSO
    rw [show dPer ce 0 = ce 0 from dPer_n (i := 0) (by decide), show dPer ce 1 = ce 1 from dPer_n (i := 1) (by decide), q0.1, q1.1]
    rcases (by omega : T % 2 = 0 ∨ T % 2 = 1) with q | q
    · rw [q]
      show (if nI (pn 1) = nI (pn 0) then _ else _) = _
      rw [if_neg (fun z => j2 ((nI_eq (by omega) (by omega)).mp z).symm), if_pos rfl]
      rfl
    · rw [q]
      exact if_pos rfl
  refine ⟨pn (1 - T % 2), ha, hag, ?_, fun c hc => ?_⟩
  · rw [hT2, i1, dPer_n (by omega)]; exact (j1 _ (by omega)).1
  · obtain ⟨w1, w2⟩ := heff c hc _ ha
    refine ⟨?_, w2⟩
    rw [w1, hsd _ ha, hso, if_neg (nI_nm1 (by omega)), nI_clamp (show 1 - T % 2 < 2 ^ 31 by omega)]
    unfold a_X11_effectNow
    rw [hag, h24, nI_clamp (show pn (1 - T % 2) < 2 ^ 31 by omega), nI_clamp (show T % 2 < 2 ^ 31 by omega)]
/-- what is not yet said, alike -/
theorem un_e {np nc M : Nat} {ce s : Nat → Int32} (hc8 : nc ≤ 8) (hD : DR np nc M ce s) {c : Nat} (hc : c < 8) : (dUn ce (nI c) = true ∧ (s 25 >>> (nI c &&& 31)) &&& 1 = 0) ∨ (dUn ce (nI c) = false ∧ ¬ (s 25 >>> (nI c &&& 31)) &&& 1 = 0) := by
  obtain ⟨hE, ⟨pn, F, X, W, K, R, T, S, P, hJ, h24⟩, hm⟩ := hD
  obtain ⟨h1, h2, h3, h4, h5, -⟩ := hJ
  have hS := s256 h5.2 hc8
  have hbit : (nI (S / 2 ^ c % 2) = 0) = (S / 2 ^ c % 2 = 0) := eq_n (n := 0) (by omega) (by decide)
  have hun : dUn ce (nI c) = decide (S / 2 ^ c % 2 = 0) := by
    unfold dUn zib
    rw [show cell ce 4 = ce 4 from cell_n (i := 4) (by decide), h5.1, nI_bit (by omega) (by omega), nI_toInt (by omega)]
    have : (0 : Int) ≤ (c : Int) ∧ (c : Int) < (8 : Int32).toInt := ⟨by omega, by show (c : Int) < 8; omega⟩
    rw [decide_eq_true this, Bool.true_and]
    simp only [hbit]
  rw [hun, show s 25 = ce 4 from hE 4 (by decide), h5.1, nI_bit (by omega) (by omega), hbit]
  by_cases q : S / 2 ^ c % 2 = 0
  · exact Or.inl ⟨decide_eq_true q, q⟩
  · exact Or.inr ⟨decide_eq_false q, q⟩
theorem gr_e {np nc M : Nat} {tr pa ne who what dn va po me lo ce pt s b : Nat → Int32} {sd : Int32} (hL : LR np nc tr pa ne who what) (h : SR np nc M dn va po me lo ce pt sd s b) (hM : M ≤ 2000) (hD : DR np nc M ce s) : ∀ n, n ≤ nc → (grS pa ne dn va ce (dPer ce (1 - dSd ce)) n).2 = ggS what s (-1) n ∧ ((ggS what s (-1) n = -1 ∧ (grS pa ne dn va ce (dPer ce (1 - dSd ce)) n).1 = -1) ∨ ∃ c, c < n ∧ ggS what s (-1) n = nI c ∧ (grS pa ne dn va ce (dPer ce (1 - dSd ce)) n).1 = a_X11_effectNow what s c)
  | 0, _ => ⟨rfl, Or.inl ⟨rfl, rfl⟩⟩
  | n + 1, hn => by
    have hc8 := hL.2.2.2.2
    obtain ⟨i1, i2⟩ := gr_e hL h hM hD n (by omega)
    obtain ⟨a, ha, o1, o2, o3⟩ := opp_e hL h hM hD
    obtain ⟨e1, e2⟩ := o3 n (by omega)
    obtain ⟨t1, t2⟩ := tru_e hL h.1 (show n < nc by omega) ha
    have g1 : grS pa ne dn va ce (dPer ce (1 - dSd ce)) (n + 1) = grF pa ne dn va ce (dPer ce (1 - dSd ce)) n (grS pa ne dn va ce (dPer ce (1 - dSd ce)) n) := rfl
    have g2 : ggS what s (-1) (n + 1) = ggS_F what s n (ggS what s (-1) n) := rfl
    rw [g1, g2]
    generalize grS pa ne dn va ce (dPer ce (1 - dSd ce)) n = G at *
    generalize ggS what s (-1) n = H at *
    unfold grF ggS_F
    rw [o2, o1, nI_clamp (show a < 2 ^ 31 by have := hL.2.2.2.1; omega), ← t1]
    have same : G.2 = H ∧ ((H = -1 ∧ G.1 = -1) ∨ ∃ c, c < n + 1 ∧ H = nI c ∧ G.1 = a_X11_effectNow what s c) := ⟨i1, i2.imp id (fun ⟨c, q1, q2⟩ => ⟨c, by omega, q2⟩)⟩
    rcases un_e hc8 hD (c := n) (by omega) with ⟨u1, u2⟩ | ⟨u1, u2⟩
    · rw [if_pos u2]
      by_cases tz : tru ne dn (nI n) (nI a) = 0
      · rw [if_neg (fun q => q.2.1 tz), if_pos (show tru ne dn (nI n) (nI a) ≤ 0 by rw [tz]; decide), if_pos rfl]
        exact same
      · have tn : ¬ tru ne dn (nI n) (nI a) ≤ 0 := by
          rcases t2 with t | t | t
          · exact absurd t tz
          · rw [t]; decide
          · rw [t]; decide
        rw [if_neg tn, if_neg (show ¬ (1 : Int32) = 0 by decide), e1]
        obtain ⟨m, hm, hme⟩ := nb_e e2
        rw [e1] at hme
        rcases i2 with ⟨k1, k2⟩ | ⟨c, hc, k1, k2⟩
        · have hlt : G.1 < a_X11_effectNow what s n := by
            rw [k2, hme, Int32.lt_iff_toInt_lt, nI_toInt (by omega)]
            have : (-1 : Int32).toInt = -1 := rfl
            omega
          rw [if_pos ⟨u1, tz, hlt⟩, if_pos k1]
          exact ⟨rfl, Or.inr ⟨n, by omega, rfl, rfl⟩⟩
        · have hH : ¬ H = -1 := by rw [k1]; exact nI_nm1 (by omega)
          rw [if_neg hH]
          have kc : H.toNatClampNeg = c := by rw [k1, nI_clamp (by omega)]
          rw [kc, ← k2]
          by_cases q : G.1 < a_X11_effectNow what s n
          · rw [if_pos ⟨u1, tz, q⟩, if_neg (Int32.not_le.mpr q)]
            exact ⟨rfl, Or.inr ⟨n, by omega, rfl, rfl⟩⟩
          · rw [if_neg (fun z => q z.2.2), if_pos (Int32.not_lt.mp q)]
            exact same
    · rw [if_neg u2, if_pos rfl, if_neg (fun q => by rw [u1] at q; exact absurd q.1 (by decide))]
      exact same
theorem cl_greatest {M : Nat} {μ : zH} {x : Int32} (hM : M ≤ 1000) (h : WI M μ) : CL M μ mi_X10_greatest mi_X11_greatest [.inl x] := by
  have h0 := h
  obtain ⟨np, nc, kw, kc, kb, kn, hH, hT, hL, hS, -⟩ := h0
  obtain ⟨⟨p1, c1, -⟩, ⟨p2, c2, -⟩, -, hp4, hc8, -⟩ := hH
  have h67 : w_X11_greatest2_67 (μ 67) (μ 72) x = upd (μ 67) 0 0 := by unfold w_X11_greatest2_67; simp only [ite_self]
  have hgo := SR.go hp4 hS
  have hpp : ¬ a_X11_goesOn (μ 72) = 0 → nb (μ 72 20) 4 ∧ nb (μ 72 21) 4 := fun q => by
    rcases hgo with g | g
    · exact absurd g.1 q
    · obtain ⟨A, B, hA, hB, -, eA, eB⟩ := g.2.2.2.2.1.two hp4
      have hE := hS.2.2.2.2.2.2.1
      rw [show μ 72 20 = μ 21 0 from hE 0 (by decide), show μ 72 21 = μ 21 1 from hE 1 (by decide), eA, eB]
      exact ⟨nb_i (by omega) (by decide), nb_i (by omega) (by decide)⟩
  refine cl_pure h (fun l X => e_X10_greatest (d := 22) c1 hc8) (fun l X => e_X11_greatest2 (d := 21) c2 hc8 hL.1.2.2.1 (SR.Tm hp4 hc8 (by omega) hS).1 hpp (SR.Tm hp4 hc8 (by omega) hS).2) h67 ?_
  unfold a_X10_greatest a_X11_greatest2
  rcases rg0 x (b := 1) (n := 1) rfl (by decide) with ⟨r1, r2⟩ | ⟨k, hk, rfl, r1, r2, r3⟩
  · rw [if_pos r1]
    rcases r2 with r2 | ⟨r2, r3⟩
    · rw [if_pos r2]
    · rw [if_neg r2, if_neg r3]
  rw [if_neg r1, if_neg r2, if_pos r3]
  rcases hgo with ⟨g1, g2⟩ | ⟨g1, g2, g3, g4, g5, g6⟩
  · rw [if_pos g1, g2, if_pos (show bz false = 0 from rfl)]
  rw [if_neg g1, g2, if_neg (show ¬ bz true = 0 by decide)]
  obtain ⟨i1, i2⟩ := gr_e hL.1 hS (by omega) g5 nc (Nat.le_refl _)
  rcases (by omega : k = 0 ∨ k = 1) with rfl | rfl
  · rw [if_pos (show nI 0 = 0 from rfl), if_pos (show nI 0 = 0 from rfl), i1]
    simp only [ite_self]
  · rw [if_neg (show ¬ nI 1 = 0 by decide), if_neg (show ¬ nI 1 = 0 by decide)]
    rcases i2 with ⟨k1, k2⟩ | ⟨c, hc, k1, k2⟩
    · rw [if_pos k1, k1, k2]
    · rw [k1, if_neg (nI_nm1 (by omega)), nI_clamp (show c < 2 ^ 31 by omega), k2]
