theorem over_lo {r : Nat → Int32} {z : Int32} {k : Nat} (hk : k < 41) (h : k ≠ 22) : w_X11_over_73_73 r z k = r k := by
  unfold w_X11_over_73_73
  split
  · rw [upn (by omega), upn (by omega), upn (by omega), upn h]
  · rw [upn (by omega), upn (by omega), upn (by omega), upn (by omega), upn h]
theorem over_22 {r : Nat → Int32} {z : Int32} : w_X11_over_73_73 r z 22 = z := by
  unfold w_X11_over_73_73
  split
  · rw [upn (by omega), upn (by omega), upn (by omega), ups]
  · rw [upn (by omega), upn (by omega), upn (by omega), upn (by omega), ups]
theorem over_ER {ce r : Nat → Int32} {z : Int32} (h : ER1 ce r) : ER1 (upd ce 2 z) (w_X11_over_73_73 r z) := by
  intro i hi
  have hq : qx i < 41 := by unfold qx; split <;> omega
  by_cases e : i = 2
  · subst e; rw [ups]; exact over_22
  · rw [upn e, over_lo hq (fun q => e (qx_inj (k := 2) q))]; exact h i hi
/-- points, meetings, what came of the first of them -/
def LGR (po me lo r : Nat → Int32) : Prop := (∀ i, i < 4 → r (41 + i) = po i) ∧ (∀ p, p < 6 → r (45 + p) = me p) ∧ ∀ p k, p < 6 → k < 2 → k < (me p).toNatClampNeg → r (51 + 2 * p + k) = lo (2 * p + k)
theorem prO_e : ∀ a, a < 4 → ∀ b, b < 4 → a ≠ b → prO (nI a) (nI b) = nI (prN a b) := by decide +kernel
theorem lAdn4 {po : Nat → Int32} {a : Nat} {v : Int32} (h : a < 4) : lAd po (nI a) v = upd po a (po a + v) := by
  unfold lAd
  rw [rA_n h (by decide), rP_n h (by decide)]
theorem lcP_n {po : Nat → Int32} {a b : Nat} {z : Int32} (ha : a < 4) (hb : b < 4) (hab : a ≠ b) : lcP po (nI a) (nI b) z = upd (upd po a (po a + scF z)) b (po b + (2 - scF z)) := by
  unfold lcP
  rw [lAdn4 ha, lAdn4 hb, upn (Ne.symm hab)]
theorem lcM_n {me : Nat → Int32} {a b : Nat} (ha : a < 4) (hb : b < 4) (hab : a ≠ b) : lcM me (nI a) (nI b) = upd me (prN a b) (me (prN a b) + 1) := by
  unfold lcM
  have hp := (pr_e a ha b hb hab).2
  rw [prO_e a ha b hb hab, rA_n hp (by decide), rP_n hp (by decide)]
theorem lcL_n {lo me : Nat → Int32} {a b m : Nat} {z : Int32} (ha : a < 4) (hb : b < 4) (hab : a ≠ b) (hm : me (prN a b) = nI m) (hm9 : m < 2000) : lcL lo me (nI a) (nI b) z = if m < 2 then upd lo (2 * prN a b + m) (if a < b then scF z else 2 - scF z) else lo := by
  unfold lcL
  have hp := (pr_e a ha b hb hab).2
  rw [prO_e a ha b hb hab, rA_n hp (by decide), hm]
  have h2 : (nI m < 2) = (m < 2) := propext (nI_ltI (b := 2) (by omega) (by decide))
  have h3 : (nI a < nI b) = (a < b) := propext (nI_ltI (by omega) (by omega))
  by_cases c : m < 2
  · rw [if_pos (by rw [h2]; exact c), if_pos c]
    show rP lo 12 (nI (prN a b) * nI 2 + nI m) _ = _
    rw [pk_mul, nI_add, rP_n (by omega) (by decide), Nat.mul_comm (prN a b) 2]
    simp only [h3]
  · rw [if_neg (by rw [h2]; exact c), if_neg c]
theorem scF_e (z : Int32) : scF z = if z = 1 then 2 else if z = 3 then 1 else 0 := by
  unfold scF
  by_cases h1 : z = 1
  · rw [if_neg (by rw [h1]; decide), if_pos h1, if_pos h1]
  · rw [if_neg h1, if_neg h1]
theorem over_LG {po me lo r : Nat → Int32} {a b m : Nat} {z : Int32} (h : LGR po me lo r) (h20 : r 20 = nI a) (h21 : r 21 = nI b) (ha : a < 4) (hb : b < 4) (hab : a ≠ b) (hm : me (prN a b) = nI m) (hm9 : m < 2000) :
    LGR (lcP po (nI a) (nI b) z) (lcM me (nI a) (nI b)) (lcL lo me (nI a) (nI b) z) (w_X11_over_73_73 r z) := by
  have hp := (pr_e a ha b hb hab).2
  rw [lcP_n ha hb hab, lcM_n ha hb hab, lcL_n ha hb hab hm hm9]
  obtain ⟨g1, g2, g3⟩ := h
  have hmr : r (45 + prN a b) = nI m := (g2 _ hp).trans hm
  unfold w_X11_over_73_73
  have ka : (nI a).toNatClampNeg = a := nI_clamp (by omega)
  have kb : (nI b).toNatClampNeg = b := nI_clamp (by omega)
  have km : (nI m).toNatClampNeg = m := nI_clamp (by omega)
  simp only [h20, h21, ka, kb, hmr, km, ← scF_e]
  have c2 : (2 ≤ nI m) = (2 ≤ m) := propext (nI_leI (a := 2) (by decide) (by omega))
  have c3 : (nI b ≤ nI a) = (b ≤ a) := propext (nI_leI (by omega) (by omega))
  simp only [c2, c3]
  have e1 : me (prN a b) + 1 = nI (m + 1) := by rw [hm, nI_1]
  have e2 : nI m + 1 = nI (m + 1) := nI_1 m
  rw [e1, e2, g1 a ha, g1 b hb]
  refine ⟨?_, ?_, ?_⟩
  · intro i hi
    by_cases c : 2 ≤ m
    · rw [if_pos c, upn (by omega)]
      by_cases ib : i = b
      · subst ib; rw [ups, ups]
      · rw [upn (show 41 + i ≠ 41 + b by omega), upn ib]
        by_cases ia : i = a
        · subst ia; rw [ups, ups]
        · rw [upn (show 41 + i ≠ 41 + a by omega), upn ia, upn (by omega)]; exact g1 i hi
    · rw [if_neg c, upn (by omega), upn (by omega)]
      by_cases ib : i = b
      · subst ib; rw [ups, ups]
      · rw [upn (show 41 + i ≠ 41 + b by omega), upn ib]
        by_cases ia : i = a
        · subst ia; rw [ups, ups]
        · rw [upn (show 41 + i ≠ 41 + a by omega), upn ia, upn (by omega)]; exact g1 i hi
  · intro p hpp
    by_cases c : 2 ≤ m
    · rw [if_pos c]
      by_cases ip : p = prN a b
      · subst ip; rw [ups, ups]
      · rw [upn (show 45 + p ≠ 45 + prN a b by omega), upn ip, upn (by omega), upn (by omega), upn (by omega)]; exact g2 p hpp
    · rw [if_neg c]
      by_cases ip : p = prN a b
      · subst ip; rw [ups, ups]
      · rw [upn (show 45 + p ≠ 45 + prN a b by omega), upn ip, upn (by omega), upn (by omega), upn (by omega), upn (by omega)]; exact g2 p hpp
  · intro p k hpp hk hkm
    by_cases c : 2 ≤ m
    · rw [if_pos c, if_neg (show ¬ m < 2 by omega), upn (by omega), upn (by omega), upn (by omega), upn (by omega)]
      refine g3 p k hpp hk ?_
      by_cases ip : p = prN a b
      · subst ip; rw [hm, nI_clamp (by omega)]; omega
      · rw [upn ip] at hkm; exact hkm
    · rw [if_neg c, if_pos (show m < 2 by omega), upn (show 51 + 2 * p + k ≠ 45 + prN a b by omega)]
      by_cases ip : p = prN a b
      · subst ip
        rw [ups, nI_clamp (by omega)] at hkm
        by_cases ik : k = m
        · subst ik
          rw [ups, ups]
          by_cases cc : a < b
          · rw [if_neg (by omega), if_pos cc]
          · rw [if_pos (by omega), if_neg cc]
        · rw [upn (by omega), upn (by omega), upn (by omega), upn (by omega), upn (by omega)]
          refine g3 _ k hpp hk ?_
          rw [hm, nI_clamp (by omega)]; omega
      · rw [upn ip] at hkm
        rw [upn (by omega), upn (by omega), upn (by omega), upn (by omega), upn (by omega)]
        exact g3 p k hpp hk hkm
