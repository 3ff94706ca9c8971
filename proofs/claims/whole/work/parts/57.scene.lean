theorem over72 : w_X11_over_72_72 = w_X11_over_73_73 := rfl
theorem says72 {f69 f70 f72 g : Nat → Int32} {c : Nat} (h : ∀ k, k < 20 → g k = f72 k) (h20 : nb (g 20) 4) (h21 : nb (g 21) 4) (htp : nb (f70 (5 * c)) 4) : w_X11_says_72_72 f69 f70 g c = w_X11_says_73_73 f69 f70 f72 g c := by
  have he : (if g 24 = 0 then g 21 else g 20).toNatClampNeg < 4 := (ph_nb h21 h20).1
  have ht := htp.1
  unfold w_X11_says_72_72 w_X11_says_73_73
  rw [over72]
  generalize (if g 24 = 0 then g 21 else g 20).toNatClampNeg = e at he
  have e1 : g e = f72 e := h e (by omega)
  have e2 : ∀ v k, a_X11_effectBy f70 g c e v k = a_X11_effectBy f70 f72 c e v k := fun v k => by unfold a_X11_effectBy; rw [e1]
  have e3 : a_X11_vanityOf g e (f70 (5 * c)).toNatClampNeg = a_X11_vanityOf f72 e (f70 (5 * c)).toNatClampNeg := h _ (by omega)
  simp only [e1, e2, e3]
theorem turn72 {f69 f70 f72 : Nat → Int32} {t : Int32} (hR : RB f72) (hT : ∀ c, c < 8 → nb (f70 (5 * c)) 4) (ht : t = 9 ∨ t = 8 ∨ nb t 8) : w_X11_turns_72_72 f69 f70 f72 t = w_X11_turns_73_73 f69 f70 f72 f72 t := by
  have hs := hR.1.2.1.1
  unfold w_X11_turns_72_72 w_X11_turns_73_73
  rw [over72]
  rcases ht with rfl | rfl | ht
  · rw [if_pos rfl, if_pos rfl]
  · have h89 : ¬ (8 : Int32) = 9 := by decide
    simp only [if_neg h89, eq_self_iff_true, if_true]
  · by_cases c1 : t = 9
    · rw [if_pos c1, if_pos c1]
    · by_cases c2 : t = 8
      · rw [if_neg c1, if_pos c2, if_neg c1, if_pos c2]
      · rw [if_neg c1, if_neg c2, if_neg c1, if_neg c2]
        rw [says72 (f72 := f72) (fun k hk => upn (by omega)) (by rw [upn (by omega)]; exact hR.1.1.1) (by rw [upn (by omega)]; exact hR.1.1.2.1) (hT _ ht.1)]
/-- THE LEAGUE as it was ahead of a duel's end -/
theorem sc_3 (z : Int32) : scF z = 0 ∨ scF z = 1 ∨ scF z = 2 := by
  rw [scF_e]
  repeat' split
  all_goals simp
theorem sc_c {x z : Int32} : x + scF z + -scF z = x ∧ x + (2 - scF z) + (scF z - 2) = x := by
  constructor
  · rw [Int32.add_assoc, Int32.add_right_neg, Int32.add_zero]
  · rw [Int32.add_assoc]
    rcases sc_3 z with h | h | h
    · rw [h, show (2 - 0 : Int32) + (0 - 2) = 0 by decide, Int32.add_zero]
    · rw [h, show (2 - 1 : Int32) + (1 - 2) = 0 by decide, Int32.add_zero]
    · rw [h, show (2 - 2 : Int32) + (2 - 2) = 0 by decide, Int32.add_zero]
theorem luP_c {po : Nat → Int32} {a b : Nat} {z : Int32} (ha : a < 4) (hb : b < 4) (hab : a ≠ b) : luP (lcP po (nI a) (nI b) z) (nI a) (nI b) z = po := by
  unfold luP
  rw [lcP_n ha hb hab, lAdn4 ha, lAdn4 hb, upn (show b ≠ a from Ne.symm hab), ups, upn hab, ups]
  funext i
  by_cases h1 : i = b
  · subst h1; rw [ups]; exact sc_c.2
  · rw [upn h1]
    by_cases h2 : i = a
    · subst h2; rw [ups]; exact sc_c.1
    · rw [upn h2, upn h1, upn h2]
theorem luM_c {me : Nat → Int32} {a b : Nat} (ha : a < 4) (hb : b < 4) (hab : a ≠ b) : luM (lcM me (nI a) (nI b)) (nI a) (nI b) = me := by
  unfold luM
  have hp := (pr_e a ha b hb hab).2
  rw [lcM_n ha hb hab, prO_e a ha b hb hab, rA_n hp (by decide), rP_n hp (by decide), ups]
  funext i
  by_cases h1 : i = prN a b
  · subst h1; rw [ups, Int32.add_assoc, show (1 : Int32) + -1 = 0 by decide, Int32.add_zero]
  · rw [upn h1, upn h1]
theorem LGR.lo {po me lo q : Nat → Int32} {a b : Nat} {z : Int32} (h : LGR po me lo q) (ha : a < 4) (hb : b < 4) (hab : a ≠ b) (hm : nb (me (prN a b)) 2000) : LGR po me (lcL lo me (nI a) (nI b) z) q := by
  obtain ⟨m, hm9, hme⟩ := nb_e hm
  rw [lcL_n ha hb hab hme hm9]
  refine ⟨h.1, h.2.1, fun p k hp hk hkm => ?_⟩
  split
  · rw [upn]
    · exact h.2.2 p k hp hk hkm
    · intro q
      have : p = prN a b := by omega
      subst this
      rw [hme, nI_clamp (by omega)] at hkm
      omega
  · exact h.2.2 p k hp hk hkm
/-- what undoing brings back -/
def PA (np nc M : Nat) (po me lo ce pt b : Nat → Int32) : Prop := ∀ t, t < (ce 3).toNatClampNeg → DR np nc M (fun i => pt (20 * t + i)) (fun k => b (64 * t + k)) ∧ pt (20 * t + 2) = 0 ∧ pt (20 * t + 3) = nI t ∧ (∀ i, i < 2 → pt (20 * t + i) = ce i) ∧ LGR (tb15 ce po) (tb16 ce me) lo (fun k => b (64 * t + k))
/-- a scene: DEEDS, VANITIES, THE LEAGUE, THE DUEL, what is behind it, the seed -/
def SR (np nc M : Nat) (dn va po me lo ce pt : Nat → Int32) (sd : Int32) (s b : Nat → Int32) : Prop :=
  FR np dn va s ∧ LGR po me lo s ∧ (∀ p, p < 6 → nb (me p) M) ∧ (∀ p, p < 6 → ¬ hg p < nI np → me p = 0) ∧ (∀ p k, p < 6 → k < 2 → k < (me p).toNatClampNeg → nb (lo (2 * p + k)) 3) ∧ (s 63 = sd ∧ ¬ sd < 0) ∧
  ER1 ce s ∧ ((ce 0 = -1 ∧ ce 1 = -1 ∧ (∀ i, i < 18 → ce (2 + i) = 0) ∧ s 24 = 0) ∨ (DR np nc M ce s ∧ PA np nc M po me lo ce pt b))
theorem DR.mono {np nc M N : Nat} {ce r : Nat → Int32} (h : DR np nc M ce r) (hn : M ≤ N) : DR np nc N ce r := ⟨h.1, h.2.1, fun p hp => nb_le (h.2.2 p hp) hn⟩
theorem DR.two {np nc M : Nat} {ce r : Nat → Int32} (h : DR np nc M ce r) (hnp : np ≤ 4) : ∃ A B, A < np ∧ B < np ∧ A ≠ B ∧ ce 0 = nI A ∧ ce 1 = nI B := by
  obtain ⟨-, ⟨pn, F, X, W, K, R, T, S, P, hJ, -⟩, -⟩ := h
  exact ⟨pn 0, pn 1, (hJ.1 0 (by decide)).2, (hJ.1 1 (by decide)).2, hJ.2.1, (hJ.1 0 (by decide)).1, (hJ.1 1 (by decide)).1⟩
theorem DR.congr {np nc M : Nat} {ce ce' r r' : Nat → Int32} (h : DR np nc M ce r) (hc : ∀ i, i < 20 → ce' i = ce i) (hr : ∀ k, k < 51 → r' k = r k) : DR np nc M ce' r' := by
  obtain ⟨hE, ⟨pn, F, X, W, K, R, T, S, P, hJ, h24⟩, hm⟩ := h
  obtain ⟨h1, h2, h3, h4, h5, h6, h7, h8, h9, h10, h11, h12⟩ := hJ
  refine ⟨fun i hi => ?_, ⟨pn, F, X, W, K, R, T, S, P, ⟨fun i hi => ?_, h2, ?_, ?_, ?_, ?_, fun i hi => ?_, fun i hi => ?_, fun i hi => ?_, fun i hi => ?_, h11, h12⟩, ?_⟩, fun p hp => ?_⟩
  · rw [hr _ (by unfold qx; split <;> omega), hc i hi]; exact hE i hi
  · rw [hc i (by omega)]; exact h1 i hi
  · rw [hc 2 (by omega)]; exact h3
  · rw [hc 3 (by omega)]; exact h4
  · rw [hc 4 (by omega)]; exact h5
  · rw [hc 5 (by omega)]; exact h6
  · rw [hc _ (by omega)]; exact h7 i hi
  · rw [hc _ (by omega)]; exact h8 i hi
  · rw [hc _ (by omega)]; exact h9 i hi
  · rw [hc _ (by omega)]; exact h10 i hi
  · rw [hr _ (by omega)]; exact h24
  · rw [hr _ (by omega)]; exact hm p hp
theorem LGR.congr {po po' me me' lo lo' q q' : Nat → Int32} (h : LGR po me lo q) (h1 : ∀ i, i < 4 → po' i = po i) (h2 : ∀ i, i < 6 → me' i = me i) (h3 : ∀ i, i < 12 → lo' i = lo i) (h4 : ∀ k, k < 63 → q' k = q k) : LGR po' me' lo' q' :=
  ⟨fun i hi => by rw [h4 _ (by omega), h1 i hi]; exact h.1 i hi, fun p hp => by rw [h4 _ (by omega), h2 p hp]; exact h.2.1 p hp, fun p k hp hk hm => by rw [h4 _ (by omega), h3 _ (by omega)]; rw [h2 p hp] at hm; exact h.2.2 p k hp hk hm⟩
