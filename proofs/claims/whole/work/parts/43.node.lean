def bs (D : Nat) (x B : Int32) : Int32 := if D = 0 then x else B
theorem bs_s (D : Nat) (x B : Int32) : bs (D + 1) x B = B := if_neg (Nat.succ_ne_zero _)
theorem nI_z {D : Nat} (h : D < 1000) : (nI D = 0) = (D = 0) := by
  refine propext ⟨fun q => ?_, fun q => by rw [q]; rfl⟩
  have h1 : nI D ≤ nI 0 := by rw [q]; exact Int32.le_refl _
  have := (nI_leI (a := D) (b := 0) (by omega) (by omega)).mp h1
  omega
theorem mg83 {g : Nat → Int32} {D t : Nat} {b : Int32 × Int32} {v : Int32} (hb : g D = b.1) : w_X11_merges_83 g D v D = (mgV v t b).1 ∧ ∀ k, k ≠ D → w_X11_merges_83 g D v k = g k := by
  unfold w_X11_merges_83 mgV
  rw [hb]
  by_cases h : v ≤ b.1
  · rw [if_pos h, if_neg (Int32.not_lt.mpr h)]
    exact ⟨hb, fun k _ => rfl⟩
  · rw [if_neg h, if_pos (Int32.not_le.mp h)]
    exact ⟨ups, fun k hk => upn hk⟩
theorem mg67 {h g82 g83 : Nat → Int32} {D t : Nat} {b : Int32 × Int32} {v B : Int32} (hD : D < 16) (hb : g83 D = b.1) (ht : D = 0 → g82 0 = nI (t + 1)) : w_X11_merges_67 (upd h 32 (bs D b.2 B)) g82 g83 D v = upd h 32 (bs D (mgV v t b).2 B) := by
  unfold w_X11_merges_67 mgV
  rw [hb]
  by_cases c : v ≤ b.1
  · rw [if_pos c, if_neg (Int32.not_lt.mpr c)]
  · rw [if_neg c, if_pos (Int32.not_le.mp c), upd_upd]
    congr 1
    by_cases e : D = 0
    · rw [if_pos (by rw [nI_z (by omega)]; exact e), ht e]
      unfold bs
      rw [if_pos e, nI_pred]
    · rw [if_neg (by rw [nI_z (by omega)]; exact e), ups]
      unfold bs
      rw [if_neg e, if_neg e]
theorem mgV_3 {v : Int32} {t : Nat} {b : Int32 × Int32} (hv : v = 0 ∨ v = 1 ∨ v = 2) (hb : b.1 = -1 ∨ b.1 = 0 ∨ b.1 = 1 ∨ b.1 = 2) : (mgV v t b).1 = 0 ∨ (mgV v t b).1 = 1 ∨ (mgV v t b).1 = 2 := by
  unfold mgV
  by_cases c : b.1 < v
  · rw [if_pos c]; exact hv
  · rw [if_neg c]
    rcases hb with hb | hb | hb | hb
    · rw [hb] at c
      exact absurd (show (-1 : Int32) < v by rcases hv with h | h | h <;> rw [h] <;> decide) c
    · exact Or.inl hb
    · exact Or.inr (Or.inl hb)
    · exact Or.inr (Or.inr hb)
theorem tSc_3 (w : Nat → Int32) (s : Int32) : tSc w s = 0 ∨ tSc w s = 1 ∨ tSc w s = 2 := by
  unfold tSc
  repeat' split
  all_goals simp
theorem two_3 {v : Int32} (hv : v = 0 ∨ v = 1 ∨ v = 2) : 2 - v = 0 ∨ 2 - v = 1 ∨ 2 - v = 2 := by
  rcases hv with h | h | h <;> rw [h] <;> simp
abbrev pZ (μ : zH) (h g73 g81 g82 g83 : Nat → Int32) (bt : Int32) : zS := (zSH, zhs (zhs (zhs (zhs (zhs μ 67 (upd h 32 bt)) 73 g73) 81 g81) 82 g82) 83 g83)
abbrev pL (D : Nat) : List (Nat × zV) := [(0, .inr 67), (1, .inl (nI D))]
theorem pl_node {l : Launch} {X : zX} {d : Nat} {μ : zH} {h J : Nat → Int32} {I : (Nat → Int32) → Prop} {Mx : (Nat → Int32) → Nat} (hT : ∀ c, c < 8 → nb (μ 70 (5 * c)) 4) (hI : nI2 (tCa h) (tTu (μ 69) (μ 70) (μ 72)) J I Mx) :
    ∀ (fu D : Nat) (r : Nat → Int32) (t : Nat) (b : Int32 × Int32) (g73 g81 g82 g83 : Nat → Int32) (B : Int32),
      (∀ k, k < 64 → g81 (64 * D + k) = r k) → (∀ k, 64 ≤ k → g73 k = J k) → g82 D = nI t → g83 D = b.1 → t ≤ 9 → (b.1 = -1 ∧ t ≤ 8 ∨ (b.1 = 0 ∨ b.1 = 1 ∨ b.1 = 2)) → I r → D + Mx r ≤ 15 → 10 * Mx r + (9 - t) < fu →
      ∃ g73' g81' g82' g83' : Nat → Int32, (∀ k, k < 64 * (D + 1) → g81' k = g81 k) ∧ (∀ k, 64 ≤ k → g73' k = J k) ∧ (∀ k, k < D → g82' k = g82 k) ∧ (∀ k, k < D → g83' k = g83 k) ∧ (8 < g82' D ∨ g83' D = 2) ∧ g83' D = (ndV (tCa h) (tTu (μ 69) (μ 70) (μ 72)) fu r t b).1 ∧
        ((ndV (tCa h) (tTu (μ 69) (μ 70) (μ 72)) fu r t b).1 = 0 ∨ (ndV (tCa h) (tTu (μ 69) (μ 70) (μ 72)) fu r t b).1 = 1 ∨ (ndV (tCa h) (tTu (μ 69) (μ 70) (μ 72)) fu r t b).1 = 2) ∧
        ∀ (rr : Option zV) (S' : zS), zEv l X mi_X11_plays (d + 8) 11 (pL D) [] (pZ μ h g73' g81' g82' g83' (bs D (ndV (tCa h) (tTu (μ 69) (μ 70) (μ 72)) fu r t b).2 B)) 0 0 rr S' → zEv l X mi_X11_plays (d + 8) 11 (pL D) [] (pZ μ h g73 g81 g82 g83 (bs D b.2 B)) 0 0 rr S' := by
  intro fu
  induction fu with
  | zero => intro D r t b g73 g81 g82 g83 B _ _ _ _ _ _ _ _ h9; omega
  | succ fu ih =>
    intro D r t b g73 g81 g82 g83 B hrow hJ ht hb ht9 hb4 hIr hDM hfu
    by_cases hc : 8 < t ∨ b.1 = 2
    · have e : ndV (tCa h) (tTu (μ 69) (μ 70) (μ 72)) (fu + 1) r t b = b := by rw [ndV, if_pos hc]
      rw [e]
      refine ⟨g73, g81, g82, g83, fun _ _ => rfl, hJ, fun _ _ => rfl, fun _ _ => rfl, ?_, hb, ?_, fun _ _ k => k⟩
      · rcases hc with hc | hc
        · exact Or.inl (by rw [ht]; exact (nI_ltI (a := 8) (b := t) (by omega) (by omega)).mpr hc)
        · exact Or.inr (hb.trans hc)
      · rcases hb4 with ⟨h1, h2⟩ | h1
        · rcases hc with hc | hc
          · omega
          · rw [h1] at hc; exact absurd hc (by decide)
        · exact h1
    · have ht8 : t ≤ 8 := by omega
      have hbn : ¬ b.1 = 2 := fun q => hc (Or.inr q)
      have hbm : b.1 = -1 ∨ b.1 = 0 ∨ b.1 = 1 ∨ b.1 = 2 := by
        rcases hb4 with ⟨h1, _⟩ | h1
        · exact Or.inl h1
        · exact Or.inr h1
      have hb2 : ¬ (2 : Int32) ≤ b.1 := by
        rcases hbm with q | q | q | q
        · rw [q]; decide
        · rw [q]; decide
        · rw [q]; decide
        · exact absurd q hbn
      obtain ⟨hR, hcan8, hrJ⟩ := hI.1 r hIr
      have hw : w_X11_loads_73 g73 g81 D = r := by
        funext k
        unfold w_X11_loads_73 cpR
        by_cases hk : k < 64
        · rw [if_pos ⟨Nat.zero_le _, hk⟩]; exact hrow k hk
        · rw [if_neg (fun q => hk q.2), hJ k (by omega), hrJ k (by omega)]
      have hu0 : g82 D + 1 = nI (t + 1) := by rw [ht]; exact nI_1 t
      by_cases hca : tCa h r (nI t) = 0
      · have ht7 : t ≠ 8 := fun q => hcan8 (by rw [q] at hca; exact hca)
        have e : ndV (tCa h) (tTu (μ 69) (μ 70) (μ 72)) (fu + 1) r t b = ndV (tCa h) (tTu (μ 69) (μ 70) (μ 72)) fu r (t + 1) b := by
          rw [ndV, if_neg hc, if_pos hca]
        rw [e]
        obtain ⟨g73', g81', g82', g83', a1, a2, a3, a4, a5, a6, a7, a8⟩ := ih D r (t + 1) b r g81 (upd g82 D (g82 D + 1)) g83 B hrow hrJ (by rw [ups, hu0]) hb (by omega) (by rcases hb4 with ⟨h1, h2⟩ | h1; exact Or.inl ⟨h1, by omega⟩; exact Or.inr h1) hIr hDM (by omega)
        refine ⟨g73', g81', g82', g83', a1, a2, fun k hk => (a3 k hk).trans (upn (by omega)), a4, a5, a6, a7, fun rr S' k => ?_⟩
        exact st1_X11_plays (by omega) ht ht8 hb hb2 hbn (st2_X11_plays (by omega) ht hw hR (fun _ => a8 rr S' k) (fun q => absurd (by rw [ht]; exact hca) q))
      · obtain ⟨hWJ, hWI⟩ := hI.2 r t hIr ht8 hca
        by_cases hp : 0 < (tTu (μ 69) (μ 70) (μ 72) r (nI t)) 22
        · have e : ndV (tCa h) (tTu (μ 69) (μ 70) (μ 72)) (fu + 1) r t b = ndV (tCa h) (tTu (μ 69) (μ 70) (μ 72)) fu r (t + 1) (mgV (tSc (tTu (μ 69) (μ 70) (μ 72) r (nI t)) (r 24)) t b) := by
            rw [ndV, if_neg hc, if_neg hca, if_pos hp]
          rw [e]
          have m1 := mg83 (g := g83) (D := D) (t := t) (b := b) (v := tSc (tTu (μ 69) (μ 70) (μ 72) r (nI t)) (r 24)) hb
          have m2 := mg67 (h := h) (g82 := upd g82 D (g82 D + 1)) (g83 := g83) (D := D) (t := t) (b := b) (v := tSc (tTu (μ 69) (μ 70) (μ 72) r (nI t)) (r 24)) (B := B) (by omega) hb (fun q => by subst q; rw [ups, hu0])
          obtain ⟨g73', g81', g82', g83', a1, a2, a3, a4, a5, a6, a7, a8⟩ := ih D r (t + 1) (mgV (tSc (tTu (μ 69) (μ 70) (μ 72) r (nI t)) (r 24)) t b) (tTu (μ 69) (μ 70) (μ 72) r (nI t)) g81 (upd g82 D (g82 D + 1)) (w_X11_merges_83 g83 D (tSc (tTu (μ 69) (μ 70) (μ 72) r (nI t)) (r 24))) B hrow hWJ (by rw [ups, hu0]) m1.1 (by omega) (Or.inr (mgV_3 (tSc_3 _ _) hbm)) hIr hDM (by omega)
          refine ⟨g73', g81', g82', g83', a1, a2, fun k hk => (a3 k hk).trans (upn (by omega)), fun k hk => (a4 k hk).trans (m1.2 k (by omega)), a5, a6, a7, fun rr S' k => ?_⟩
          have k2 := a8 rr S' k
          unfold pZ at k2
          rw [← m2] at k2
          exact st1_X11_plays (by omega) ht ht8 hb hb2 hbn (st2_X11_plays (by omega) ht hw hR (fun q => absurd (by rw [ht] at q; exact q) hca) (fun _ => st3_X11_plays (g73 := r) (by omega) ht8 hT hR (fun q => absurd hp q) (fun _ => k2) (fun q => absurd hp q)))
        · have e : ndV (tCa h) (tTu (μ 69) (μ 70) (μ 72)) (fu + 1) r t b = ndV (tCa h) (tTu (μ 69) (μ 70) (μ 72)) fu r (t + 1) (mgV (2 - (ndV (tCa h) (tTu (μ 69) (μ 70) (μ 72)) fu (tTu (μ 69) (μ 70) (μ 72) r (nI t)) 0 (-1, 0)).1) t b) := by
            rw [ndV, if_neg hc, if_neg hca, if_neg hp]
          rw [e]
          obtain ⟨hIW, hMW⟩ := hWI hp
          obtain ⟨c73, c81, c82, c83, b1, b2, b3, b4, b5, b6, b7, b8⟩ := ih (D + 1) (tTu (μ 69) (μ 70) (μ 72) r (nI t)) 0 (-1, 0) (tTu (μ 69) (μ 70) (μ 72) r (nI t)) (w_X11_pushes_81 (tTu (μ 69) (μ 70) (μ 72) r (nI t)) g81 (D + 1)) (w_X11_pushes_82 (upd g82 D (g82 D + 1)) (D + 1)) (w_X11_pushes_83 g83 (D + 1)) (bs D b.2 B) (by
              intro k hk
              unfold w_X11_pushes_81 cpR
              rw [if_pos ⟨by omega, by omega⟩]
              show tTu (μ 69) (μ 70) (μ 72) r (nI t) (64 * (D + 1) + k - 64 * (D + 1)) = _
              rw [Nat.add_sub_cancel_left]) hWJ (by unfold w_X11_pushes_82; exact ups) (by unfold w_X11_pushes_83; exact ups) (by omega) (Or.inl ⟨rfl, by omega⟩) hIW (by omega) (by omega)
          have h82 : c82 D = nI (t + 1) := by
            rw [b3 D (by omega)]
            unfold w_X11_pushes_82
            rw [upn (by omega), ups, hu0]
          have h83 : c83 D = b.1 := by
            rw [b4 D (by omega)]
            unfold w_X11_pushes_83
            rw [upn (by omega), hb]
          have m1 := mg83 (g := c83) (D := D) (t := t) (b := b) (v := 2 - c83 (D + 1)) h83
          have m2 := mg67 (h := h) (g82 := c82) (g83 := c83) (D := D) (t := t) (b := b) (v := 2 - c83 (D + 1)) (B := B) (by omega) h83 (fun q => by subst q; exact h82)
          have m3 : 2 - c83 (D + 1) = 2 - (ndV (tCa h) (tTu (μ 69) (μ 70) (μ 72)) fu (tTu (μ 69) (μ 70) (μ 72) r (nI t)) 0 (-1, 0)).1 := by rw [b6]
          have m4 := two_3 b7
          rw [← m3] at m4
          rw [← m3]
          obtain ⟨g73', g81', g82', g83', a1, a2, a3, a4, a5, a6, a7, a8⟩ := ih D r (t + 1) (mgV (2 - c83 (D + 1)) t b) c73 c81 c82 (w_X11_merges_83 c83 D (2 - c83 (D + 1))) B (by
              intro k hk
              rw [b1 _ (by omega)]
              unfold w_X11_pushes_81 cpR
              rw [if_neg (by omega)]
              exact hrow k hk) b2 h82 m1.1 (by omega) (Or.inr (mgV_3 m4 hbm)) hIr hDM (by omega)
          refine ⟨g73', g81', g82', g83', ?_, a2, ?_, ?_, a5, a6, a7, fun rr S' k => ?_⟩
          · intro k hk
            rw [a1 k hk, b1 k (by omega)]
            unfold w_X11_pushes_81 cpR
            rw [if_neg (by omega)]
          · intro k hk
            rw [a3 k hk, b3 k (by omega)]
            unfold w_X11_pushes_82
            rw [upn (by omega), upn (by omega)]
          · intro k hk
            rw [a4 k hk, m1.2 k (by omega), b4 k (by omega)]
            unfold w_X11_pushes_83
            rw [upn (by omega)]
          · have k2 := a8 rr S' k
            unfold pZ at k2
            rw [← m2] at k2
            have k3 := st4_X11_plays (by omega) b5 k2
            have k4 := b8 rr S'
            simp only [bs_s] at k4
            have k5 := k4 k3
            exact st1_X11_plays (by omega) ht ht8 hb hb2 hbn (st2_X11_plays (by omega) ht hw hR (fun q => absurd (by rw [ht] at q; exact q) hca) (fun _ => st3_X11_plays (g73 := r) (by omega) ht8 hT hR (fun _ => by omega) (fun q => absurd q hp) (fun _ => k5)))
