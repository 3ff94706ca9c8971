/-- a book read aloud, alike -/
theorem jd_e {np nc M : Nat} {tr pa ne who what dn va sd f67 bo8 bo : Nat → Int32} {kb : Nat} (hL : LR np nc tr pa ne who what) (hF : FR np dn va sd) (hM : M < 1000) (hg : f67 11 = nI nc) (hkb : kb ≤ 20) (hb : ∀ k, k < kb → bo k = bo8 k ∧ (bo8 k = 9 ∨ bo8 k = 8 ∨ nb (bo8 k) nc)) : ∀ j i (ce pt w : Nat → Int32), i + j = kb → DR np nc (M + 1) ce w → (ce 2 = 0 → DR np nc M ce w) →
    (jdS (tCa f67) (tTu who what sd) bo8 j i w).1 = (pbS tr pa ne dn va bo j i ce pt).1 ∧ (jdS (tCa f67) (tTu who what sd) bo8 j i w).2 22 = (pbS tr pa ne dn va bo j i ce pt).2.1 2
  | 0, i, ce, pt, w, _, hD, _ => ⟨rfl, hD.1 2 (by decide)⟩
  | j + 1, i, ce, pt, w, hij, hD, hD0 => by
    have hp4 := hL.2.2.2.1
    have hc8 := hL.2.2.2.2
    obtain ⟨b1, b2⟩ := hb i (by omega)
    have hbo : rA bo 20 (nI i) = bo8 i := by rw [rA_n (by omega) (by decide)]; exact b1
    have ht : bo8 i = 8 ∨ bo8 i = 9 ∨ ∃ c, c < nc ∧ bo8 i = nI c := by
      rcases b2 with h | h | h
      · exact Or.inr (Or.inl h)
      · exact Or.inl h
      · obtain ⟨c, h1, h2⟩ := nb_e h
        exact Or.inr (Or.inr ⟨c, h1, h2⟩)
    have e22 : w 22 = ce 2 := hD.1 2 (by decide)
    obtain ⟨R, hR4, hR⟩ : ∃ R, R < 4 ∧ ce 2 = nI R := by
      obtain ⟨-, ⟨pn, F, X, W, K, R, T, S, P, hJ, -⟩, -⟩ := hD
      exact ⟨R, hJ.2.2.1.2, hJ.2.2.1.1⟩
    unfold jdS pbS
    rw [hbo]
    by_cases q : ce 2 = 0
    · have n22 : ¬ 0 < w 22 := by rw [e22, q]; decide
      obtain ⟨k1, k2⟩ := can_e (f67 := f67) hc8 hp4 (hD0 q) q hg ht
      by_cases l : LT nc ce (bo8 i)
      · have hn : ¬ (0 < w 22 ∨ tCa f67 w (bo8 i) = 0) := fun z => z.elim n22 (fun y => k2.mpr l y)
        rw [if_neg hn, if_pos (k1.mpr l)]
        have hok := turn_ok hL hF (hD0 q) (by omega) q l
        exact jd_e hL hF hM hg hkb hb j (i + 1) _ _ _ (by omega) hok.2.1 (fun z => (hok.2.2.1 z).1)
      · have hy : 0 < w 22 ∨ tCa f67 w (bo8 i) = 0 := Or.inr (Classical.not_not.mp (fun z => l (k2.mp z)))
        rw [if_pos hy, if_neg (fun z => l (k1.mp z))]
        exact ⟨rfl, e22⟩
    · have h0 : 0 < w 22 := by
        rw [e22, hR]
        rw [hR] at q
        exact nI_lt (a := 0) (Nat.pos_of_ne_zero (fun z => q (by rw [z]; rfl))) (by omega)
      have hgo : dAl ce (bo8 i) = false := dAl_go (dGo_f q)
      rw [if_pos (Or.inl h0), hgo, if_neg (by decide)]
      exact ⟨rfl, e22⟩
theorem cl_judge {M : Nat} {μ : zH} {x : Int32} (hM : M < 1000) (h : WI M μ) : CL M μ mi_X10_judge mi_X11_judge [.inl x] := by
  obtain ⟨np, nc, kw, kc, kb, kn, hH, hT, hL, hS, hMm, hN⟩ := h
  have hH0 := hH
  obtain ⟨⟨p1, c1, w1, k1, b1, n1⟩, ⟨p2, c2, w2, k2, b2, n2⟩, hf, hp4, hc8, hw12, hk4, hb20, hn250⟩ := hH
  have hx := SR.ex hp4 hS
  have g11 : upd (μ 67) 0 0 11 = nI nc := c2
  have hasn : ∀ k, k < 51 → w_X11_asNow_73 (μ 72) (μ 73) k = μ 72 k := fun k hk => cpR_i (Nat.zero_le _) (by omega)
  have hI : jdI (tCa (upd (μ 67) 0 0)) (tTu (μ 69) (μ 70) (μ 72)) (μ 80) kb (fun w => ∃ ce, DR np nc (M + 1) ce w ∧ (ce 2 = 0 → DR np nc M ce w)) := by
    rintro w ⟨ce, d1, d2⟩
    refine ⟨(d1.RB hp4 hc8 (by omega)).1, fun i hi => ⟨?_, fun h22 hcan => ?_⟩⟩
    · rcases (hN.2.2 i hi).2 with z | z | z
      · exact Or.inl z
      · exact Or.inr (Or.inl z)
      · exact Or.inr (Or.inr (nb_le z hc8))
    · have e22 : w 22 = ce 2 := d1.1 2 (by decide)
      have q : ce 2 = 0 := by
        obtain ⟨-, ⟨pn, F, X, W, K, R, T, S, P, hJ, -⟩, -⟩ := d1
        obtain ⟨hR, hR4⟩ := hJ.2.2.1
        rw [e22, hR] at h22
        rw [hR]
        by_cases z : R = 0
        · rw [z]; rfl
        · exact absurd (nI_lt (a := 0) (Nat.pos_of_ne_zero z) (by omega)) h22
      have ht : μ 80 i = 8 ∨ μ 80 i = 9 ∨ ∃ c, c < nc ∧ μ 80 i = nI c := by
        rcases (hN.2.2 i hi).2 with h | h | h
        · exact Or.inr (Or.inl h)
        · exact Or.inl h
        · obtain ⟨c, h1, h2⟩ := nb_e h
          exact Or.inr (Or.inr ⟨c, h1, h2⟩)
      have l := (can_e (f67 := upd (μ 67) 0 0) hc8 hp4 (d2 q) q g11 ht).2.mp hcan
      have hok := turn_ok hL.1 hS.1 (d2 q) (by omega) q l
      exact ⟨_, hok.2.1, fun z => (hok.2.2.1 z).1⟩
  have hw : ¬ a_X11_isDuel (μ 72) = 0 → (fun w : Nat → Int32 => ∃ ce, DR np nc (M + 1) ce w ∧ (ce 2 = 0 → DR np nc M ce w)) (w_X11_asNow_73 (μ 72) (μ 73)) := fun q => by
    rcases hx with g | g
    · exact absurd g.1 q
    · have hd := g.2.2.2.1.congr (ce' := μ 21) (fun _ _ => rfl) hasn
      exact ⟨_, hd.mono (Nat.le_succ _), fun _ => hd⟩
  refine cl_mk (fun l X => e_X10_judge (d := 22) b1 hb20) (fun l X => e_X11_judge (d := 22) hL.1.2.2.1 b2 hb20 hI hw) ?_ ⟨np, nc, kw, kc, kb, kn, hH0, hT, hL, SR.mono hS (Nat.le_succ _), WM.mono hMm (Nat.le_succ _), hN⟩
  show a_X11_judge (μ 67) (μ 69) (μ 70) (μ 72) (μ 73) (μ 80) x kb = a_X10_judge (μ 2) (μ 3) (μ 4) (μ 21) (μ 22) (μ 24) (μ 25) (μ 57) (μ 60) (μ 61) x kb
  unfold a_X11_judge a_X10_judge
  rcases rg0 x (b := 1) (n := 1) rfl (by decide) with ⟨r1, r2⟩ | ⟨k, hk, rfl, r1, r2, r3⟩
  · rw [if_pos r1]
    rcases r2 with r2 | ⟨r2, r3⟩
    · rw [if_pos r2]
    · rw [if_neg r2, if_neg r3]
  rw [if_neg r1, if_neg r2, if_pos r3]
  rcases hx with ⟨g1, g2, -⟩ | ⟨g1, g2, g3, g4, g5⟩
  · rw [if_pos g1, if_pos g2]
  rw [if_neg g1, if_neg g2]
  have hd : DR np nc M (cpy 20 (μ 21) (μ 60)) (w_X11_asNow_73 (μ 72) (μ 73)) := g4.congr (fun i hi => if_pos hi) hasn
  obtain ⟨j1, j2⟩ := jd_e hL.1 hS.1 hM g11 hb20 hN.2.2 kb 0 (cpy 20 (μ 21) (μ 60)) (cpy 800 (μ 22) (μ 61)) (w_X11_asNow_73 (μ 72) (μ 73)) (by omega) (hd.mono (Nat.le_succ _)) (fun _ => hd)
  rcases (by omega : k = 0 ∨ k = 1) with rfl | rfl
  · rw [if_pos (show nI 0 = 0 from rfl), if_pos (show nI 0 = 0 from rfl)]
    exact j1
  · rw [if_neg (show ¬ nI 1 = 0 by decide), if_neg (show ¬ nI 1 = 0 by decide), j2]
    exact (cell_n (i := 2) (by decide)).symm
