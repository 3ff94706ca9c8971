/-- a duel in the class and in the reference's row, each two having met less than M times -/
def DR (np nc M : Nat) (ce r : Nat → Int32) : Prop := ER1 ce r ∧ (∃ (pn F X W K : Nat → Nat) (R T S P : Nat), DJ np nc ce pn F X W K R T S P ∧ r 24 = nI (T % 2)) ∧ ∀ p, p < 6 → nb (r (45 + p)) M
theorem DJ.T {np nc : Nat} {ce : Nat → Int32} {pn F X W K : Nat → Nat} {R T S P : Nat} (h : DJ np nc ce pn F X W K R T S P) (hnc : nc ≤ 8) : T ≤ 34 ∧ dSd ce = nI (T % 2) := by
  obtain ⟨h1, h2, h3, h4, h5, h6, h7, h8, h9, h10, h11, h12⟩ := h
  have hcb := cb_8 S (s256 h5.2 hnc)
  refine ⟨by omega, ?_⟩
  unfold dSd
  show cell ce (nI 3) &&& 1 = _
  rw [cell_n (by decide), h4, pk_andN (by omega) 1 rfl]
theorem DR.RB {np nc M : Nat} {ce r : Nat → Int32} (h : DR np nc M ce r) (hnp : np ≤ 4) (hnc : nc ≤ 8) (hM : M ≤ 2000) : RB r ∧ nb (r 23) 64 := by
  obtain ⟨hE, ⟨pn, F, X, W, K, R, T, S, P, hJ, h24⟩, hm⟩ := h
  obtain ⟨hT, -⟩ := hJ.T hnc
  obtain ⟨h1, h2, h3, h4, h5, h6, h7, h8, h9, h10, h11, h12⟩ := hJ
  have hcb := cb_8 S (s256 h5.2 hnc)
  have e20 : r 20 = nI (pn 0) := (hE 0 (by decide)).trans (h1 0 (by decide)).1
  have e21 : r 21 = nI (pn 1) := (hE 1 (by decide)).trans (h1 1 (by decide)).1
  have b0 := (h1 0 (by decide)).2
  have b1 := (h1 1 (by decide)).2
  refine ⟨⟨⟨⟨?_, ?_, ?_⟩, ?_, fun p hp => nb_le (hm p hp) hM⟩, fun i hi1 hi2 => ?_⟩, ?_⟩
  · rw [e20]; exact nb_i (by omega) (by decide)
  · rw [e21]; exact nb_i (by omega) (by decide)
  · rw [e20, e21]
    exact fun q => h2 ((nI_eq (by omega) (by omega)).mp q)
  · rw [h24]; exact nb_i (by omega) (by decide)
  · have q : i = qx (i - 21) := by unfold qx; rw [if_neg (by omega)]; omega
    rw [q, hE _ (by omega)]
    have h9 := h10 (i - 33) (by omega)
    rw [show 12 + (i - 33) = i - 21 by omega] at h9
    rw [h9.1]; exact nb_i (by omega) (by decide)
  · rw [show 23 = qx 3 from rfl, hE _ (by decide), h4]; exact nb_i (by omega) (by decide)
/-- a turn that may be -/
def LT (nc : Nat) (ce : Nat → Int32) (t : Int32) : Prop := t = 8 ∨ (t = 9 ∧ 0 < ce (8 + (ce 3).toNatClampNeg % 2)) ∨ ∃ c, c < nc ∧ t = nI c ∧ (ce 4).toNatClampNeg / 2 ^ c % 2 = 0
/-- what a turn comes to, in both -/
theorem turn_ok {np nc M : Nat} {tr pa ne who what dn va sd ce r : Nat → Int32} {t : Int32} (hL : LR np nc tr pa ne who what) (hF : FR np dn va sd) (hD : DR np nc M ce r) (hM : M < 2000) (hR : ce 2 = 0) (ht : LT nc ce t) :
    TR ce r (dPl tr pa ne dn va ce t) (w_X11_turns_73_73 who what sd r t) ((ce 3).toNatClampNeg % 2) ∧ DR np nc (M + 1) (dPl tr pa ne dn va ce t) (w_X11_turns_73_73 who what sd r t) ∧ (dPl tr pa ne dn va ce t 2 = 0 → DR np nc M (dPl tr pa ne dn va ce t) (w_X11_turns_73_73 who what sd r t) ∧ (t ≠ 9 → mD nc (dPl tr pa ne dn va ce t) < mD nc ce)) ∧ (∀ i, i < 2 → dPl tr pa ne dn va ce t i = ce i) ∧ dPl tr pa ne dn va ce t 3 = ce 3 + 1 := by
  have hp4 := hL.2.2.2.1
  have hc8 := hL.2.2.2.2
  obtain ⟨hRB, -⟩ := hD.RB hp4 hc8 (by omega)
  obtain ⟨hE, ⟨pn, F, X, W, K, R, T, S, P, hJ, h24⟩, hm⟩ := hD
  obtain ⟨hT, hsd⟩ := hJ.T hc8
  have hJ0 := hJ
  obtain ⟨h1, h2, h3, h4, h5, h6, h7, h8, h9, h10, h11, h12⟩ := hJ0
  have r0 : R = 0 := by
    rw [h3.1] at hR
    exact (nI_eq (b := 0) (by omega) (by decide)).mp hR
  subst r0
  obtain ⟨g1, g2⟩ := h12 rfl
  have hs : T % 2 < 2 := Nat.mod_lt _ (by decide)
  have eT : (ce 3).toNatClampNeg = T := by rw [h4, nI_clamp (by omega)]
  have hS := s256 h5.2 hc8
  have eS : (ce 4).toNatClampNeg = S := by rw [h5.1, nI_clamp (by omega)]
  have hcb := cb_8 S hS
  rw [eT]
  generalize hse : T % 2 = s at hsd h24 hs
  have hn : pn s ≠ pn (1 - s) := by
    have : s = 0 ∨ s = 1 := by omega
    rcases this with rfl | rfl
    · exact h2
    · exact Ne.symm h2
  have hTB : TB np ce r s (pn s) (pn (1 - s)) (X s) := ⟨hE, h24, hs, hsd, (h1 s hs).1, (h1 (1 - s) (by omega)).1, (h1 s hs).2, (h1 (1 - s) (by omega)).2, hn, hp4, (h7 s hs).1, (h7 s hs).2, hRB, hR⟩
  have hla := hL.1 (pn s) (h1 s hs).2
  obtain ⟨y, hy1, hy⟩ := nb_e hla.2.2
  have hty : tr (6 * pn s + 1) = nI y := (hla.1 1 (by decide)).trans hy
  have hk : imax 0 (ce (6 + s) - tr (6 * pn s + 1)) = nI (X s - y) := by
    rw [(h7 s hs).1, hty]
    exact (cool_e (by have := (h7 s hs).2; omega) (by omega)).1
  have ha4 : pn s < 4 := by have := (h1 s hs).2; omega
  have fin : ∀ (ce' r' : Nat → Int32) (F' X' W' K' : Nat → Nat) (R' S' P' : Nat), TR ce r ce' r' s → DJ np nc ce' pn F' X' W' K' R' (T + 1) S' P' → (t ≠ 9 → R' = 0 → 2 * (nc - cb S') + (2 - P') < 2 * (nc - cb S) + (2 - P)) →
      TR ce r ce' r' s ∧ DR np nc (M + 1) ce' r' ∧ (ce' 2 = 0 → DR np nc M ce' r' ∧ (t ≠ 9 → mD nc ce' < mD nc ce)) ∧ (∀ i, i < 2 → ce' i = ce i) ∧ ce' 3 = ce 3 + 1 := by
    intro ce' r' F' X' W' K' R' S' P' hTR hJ' hmu
    obtain ⟨t1, t2, t3, t4⟩ := hTR
    have hJ2 := hJ'
    obtain ⟨j1, j2, j3, j4, j5, j6, -⟩ := hJ2
    have h24' : r' 24 = nI ((T + 1) % 2) := by rw [t2]; congr 1; omega
    have hl := t4 (fun i => r (41 + i)) (fun p => r (45 + p)) (fun j => r (51 + j)) ⟨fun _ _ => rfl, fun _ _ => rfl, fun p k _ _ _ => by rw [Nat.add_assoc]⟩ (fun p hp => nb_le (hm p hp) (by omega))
    have hS' := s256 j5.2 hc8
    refine ⟨⟨t1, t2, t3, t4⟩, ⟨t1, ⟨pn, F', X', W', K', R', T + 1, S', P', hJ', h24'⟩, ?_⟩, ?_, ?_, ?_⟩
    · intro p hp
      rw [hl.2.1 p hp]
      by_cases c : ce' 2 = 0
      · rw [if_pos c]; exact nb_le (hm p hp) (by omega)
      · rw [if_neg c, (h1 0 (by decide)).1, (h1 1 (by decide)).1]
        have b0 := (h1 0 (by decide)).2
        have b1 := (h1 1 (by decide)).2
        rw [lcM_n (by omega) (by omega) h2]
        have hp6 := (pr_e (pn 0) (by omega) (pn 1) (by omega) h2).2
        have nbS : ∀ x : Int32, nb x M → nb (x + 1) (M + 1) := by
          intro x hx
          obtain ⟨k, hk, rfl⟩ := nb_e hx
          rw [nI_1]
          exact ⟨by rw [nI_clamp (by omega)]; omega, by rw [nI_clamp (by omega)]⟩
        by_cases d : p = prN (pn 0) (pn 1)
        · subst d
          rw [ups]
          exact nbS _ (hm _ hp6)
        · rw [upn d]
          exact nb_le (hm p hp) (by omega)
    · intro c
      refine ⟨⟨t1, ⟨pn, F', X', W', K', R', T + 1, S', P', hJ', h24'⟩, ?_⟩, ?_⟩
      · intro p hp
        rw [hl.2.1 p hp, if_pos c]
        exact hm p hp
      · intro h9
        have r0' : R' = 0 := by
          rw [j3.1] at c
          exact (nI_eq (b := 0) (by omega) (by decide)).mp c
        have := hmu h9 r0'
        unfold mD
        rw [j5.1, j6.1, h5.1, h6.1, nI_clamp (by omega), nI_clamp (by omega), nI_clamp (by omega), nI_clamp (by omega)]
        exact this
    · intro i hi
      rw [(j1 i hi).1, (h1 i hi).1]
    · rw [j4, h4, nI_1]
  rcases ht with rfl | ⟨rfl, hf⟩ | ⟨c, hc, rfl, hun⟩
  · rw [dPl_8 hs hsd (h1 s hs).1 ha4 hk]
    refine fin _ _ _ _ _ _ _ _ _ (rT8 hTB hy hy1 h6.1 g1) (hJ.t8 hs hc8) (fun _ c => ?_)
    have : P ≠ 1 := fun q => by rw [if_pos q] at c; omega
    omega
  · rw [dPl_9 hs hsd (h1 s hs).1 ha4 hk]
    have hf0 : 0 < F s := by
      rw [eT, hse, (h8 s hs).1] at hf
      exact (nI_ltI (a := 0) (by decide) (by have := (h8 s hs).2; omega)).mp hf
    exact fin _ _ _ _ _ _ _ _ _ (rT9 hTB hy hy1) (hJ.t9 hs hc8 hf0) (fun q => absurd rfl q)
  · rw [eS] at hun
    have hb := (h1 (1 - s) (by omega))
    have hlb := hL.1 (pn (1 - s)) hb.2
    obtain ⟨ln, hln1, hln⟩ := nb_e hlb.2.1
    have hlc := hL.2.1 c hc
    obtain ⟨tp, htp4, htp⟩ := nb_e (hL.2.2.1 c (by omega))
    obtain ⟨w, hw, hwe⟩ := nb_e hlc.2.2.2
    have hK := h10 (4 * (1 - s) + tp) (by omega)
    rw [← Nat.add_assoc] at hK
    have hv := hF.2 (pn (1 - s)) tp hb.2 htp4
    have hef := effB_e hL hF hc hb.2 hv.2 (show K (4 * (1 - s) + tp) < 31 by have := hK.2; omega)
    obtain ⟨e0, he0, he⟩ := nb_e hef.2
    have hpt : part pa (nI c) 0 = nI tp := by
      show part pa (nI c) (nI 0) = _
      rw [part_e (by omega) (by decide), hlc.1 0 (by decide)]; exact htp
    have hpw : part pa (nI c) 2 = nI w := by
      show part pa (nI c) (nI 2) = _
      rw [part_e (by omega) (by decide), hlc.1 2 (by decide)]; exact hwe
    have hvn : vanO va (nI (pn (1 - s))) (nI tp) = sd (4 + 4 * pn (1 - s) + tp) := by
      rw [vanO_e (by omega) htp4, hv.1]
    have hlt : tr (6 * pn (1 - s)) = nI ln := (hlb.1 0 (by decide)).trans hln
    rw [dPl_c (ef := nI e0) (w := nI w) (ln := nI ln) hs hsd (h1 s hs).1 ha4 hb.1 (by omega) (by omega) hk hpt htp4 rfl (by
      rw [hvn, hK.1]
      exact he) hpw hlt]
    have hG := rTc (w := 0) (f := F s) hTB hL hF hy hy1 hc htp htp4 hK.1 (by have := hK.2; omega) (h8 s hs).1 (by have := (g2 s hs).1; omega) hln hln1 (h7 (1 - s) (by omega)).1 (h7 (1 - s) (by omega)).2 he he0
    rw [hwe] at hG
    obtain ⟨R', F', hJ'⟩ := hJ.tc (y := y) (t := tru ne dn (nI c) (nI (pn (1 - s)))) hs hc8 hc hun htp4 he0 hw hln1
    have hcb2 := (cb_or S hS c (by omega) hun).1
    have hcb3 := cb_nc nc (by omega) (S ||| 2 ^ c) (Nat.or_lt_two_pow h5.2 (Nat.pow_lt_pow_right (by decide) hc))
    exact fin _ _ _ _ _ _ _ _ _ hG hJ' (fun _ _ => by omega)
