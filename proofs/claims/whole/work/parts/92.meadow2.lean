theorem cl_meadow {M : Nat} {μ : zH} (hM : M < 1000) (h : WI M μ) : CL M μ mi_X10_meadow mi_X11_meadow [] := by
  obtain ⟨np, nc, kw, kc, kb, kn, hH, hT, hL, hS, hMm, hN⟩ := h
  have hH0 := hH
  obtain ⟨⟨p1, c1, w1, k1, b1, n1⟩, ⟨p2, c2, w2, k2, b2, n2⟩, hf, hp4, hc8, hw12, hk4, hb20, hn250⟩ := hH
  intro l X
  -- the text, in both
  have hcg : ∀ k, k < kn → μ 68 k = μ 12 k := fun k hk => (hT k hk).1.symm
  have hL0 : ∀ k, k < kn → 0 ≤ μ 12 k := fun k hk => by
    rw [(hT k hk).1]
    obtain ⟨v, v1, v2⟩ := nb_e (hT k hk).2
    rw [v2]
    exact nI_pos' (by omega)
  obtain ⟨h0, hh0⟩ : ∃ h0 : Nat → Int32, h0 = upd (upd (upd (upd (upd (upd (μ 67) 0 0) 8 0) 9 (-1)) 3 0) 12 0) 13 0 := ⟨_, rfl⟩
  have h03 : h0 3 = nI 0 := by rw [hh0]; rfl
  have h0o : ∀ k, k = 2 ∨ 9 < k → k ≠ 12 → k ≠ 13 → h0 k = μ 67 k := fun k hk k12 k13 => by
    rw [hh0, upn k13, upn k12, upn (by omega), upn (by omega), upn (by omega), upn (by omega)]
  have hPI : PI kn h0 := ⟨(h0o 2 (Or.inl rfl) (by decide) (by decide)).trans n2, by rw [h03]; exact nb_i (by omega) (by omega)⟩
  have a12 : w_X11_advances_67 h0 (μ 12) kn 12 = 0 := (adv_o (by decide)).trans (by rw [hh0]; rfl)
  have a13 : w_X11_advances_67 h0 (μ 12) kn 13 = 0 := (adv_o (by decide)).trans (by rw [hh0]; rfl)
  have hRI : RI kn (μ 69) (μ 70) (μ 67) (w_X11_advances_67 h0 (μ 12) kn, μ 69, μ 70, μ 71) := by
    refine ⟨⟨hPI.adv hn250, ?_, ?_⟩, fun _ _ => rfl, fun _ _ => rfl, hL.2, fun k hk k12 k13 => ?_⟩
    · show nb (w_X11_advances_67 h0 (μ 12) kn 12) 5
      rw [a12]; exact ⟨by decide, rfl⟩
    · show nb (w_X11_advances_67 h0 (μ 12) kn 13) 9
      rw [a13]; exact ⟨by decide, rfl⟩
    · show w_X11_advances_67 h0 (μ 12) kn k = _
      rw [adv_o (by omega)]
      exact h0o k hk k12 k13
  have hRR : RR (μ 12) kn (rdR.mk 0 (upd (upd (upd (μ 6) 4 0) 3 (-1)) 5 0) (upd (upd (μ 7) 0 0) 1 0) (μ 8) (μ 9) (μ 10) (fun k => if k < 4 then 0 else μ 11 k)) (w_X11_advances_67 h0 (μ 12) kn, μ 69, μ 70, μ 71) := by
    refine RR.mk ⟨⟨?_, ?_⟩, fun _ => ⟨rfl, adv_TK h03 (by decide)⟩⟩ (fun _ => ⟨Nat.zero_le _, rfl, 0, 0, ⟨rfl, rfl, a12, a13⟩, ⟨fun d hd => absurd hd (Nat.not_lt_zero _), fun c hc => absurd hc (Nat.not_lt_zero _), hL.2, by decide, by decide⟩, fun d t hd => absurd hd (Nat.not_lt_zero _), fun d hd => absurd hd (Nat.not_lt_zero _), fun d _ hd => if_pos hd⟩)
    · rw [adv_o (by decide), hh0]; rfl
    · rw [adv_o (by decide), hh0]; rfl
  have hps := ps_e hn250 hL0 250 (kn + 2) _ _ hRR rfl (by show kn - 0 ≤ 250; omega) (by show kn - 0 < kn + 2; omega)
  have hRI2 := mdS_R (L := μ 12) hn250 (kn + 2) _ hRI
  have eR : mdS (μ 68) kn (kn + 2) (w_X11_advances_67 h0 (μ 68) kn, μ 69, μ 70, μ 71) = mdS (μ 12) kn (kn + 2) (w_X11_advances_67 h0 (μ 12) kn, μ 69, μ 70, μ 71) := by
    rw [mdS_cg hcg, adv_cg hcg]
  have eA : rdA (μ 6) (μ 7) (μ 8) (μ 9) (μ 10) (μ 11) (μ 12) kn = rAl (μ 12) kn 250 (rdR.mk 0 (upd (upd (upd (μ 6) 4 0) 3 (-1)) 5 0) (upd (upd (μ 7) 0 0) 1 0) (μ 8) (μ 9) (μ 10) (fun k => if k < 4 then 0 else μ 11 k)) := rfl
  rw [← eA, ← eR] at hps
  rw [← eR] at hRI2
  rw [hh0] at hps hRI2
  clear eA eR hRR hRI a12 a13 hPI h0o h03 hh0
  obtain ⟨μ1, hμ1, h10⟩ := zrn_ex (e_X10_meadow (l := l) (X := X) (d := 20) (μ := μ) n1 hn250)
  have y67 : μ1 67 = μ 67 := by rw [hμ1]; rfl
  have y68 : μ1 68 = μ 68 := by rw [hμ1]; rfl
  have y69 : μ1 69 = μ 69 := by rw [hμ1]; rfl
  have y70 : μ1 70 = μ 70 := by rw [hμ1]; rfl
  have y71 : μ1 71 = μ 71 := by rw [hμ1]; rfl
  have y72 : μ1 72 = μ 72 := by rw [hμ1]; rfl
  have y77 : μ1 77 = μ 77 := by rw [hμ1]; rfl
  obtain ⟨μ2, hμ2, h11⟩ := zrn_ex (e_X11_meadow (l := l) (X := X) (d := 20) (μ := μ1) (n := kn) (by rw [y67]; exact n2) hn250)
  rw [y67, y68, y69, y70, y71, y72, y77] at hμ2
  rw [y67, y68, y69, y70, y71] at h11
  refine cl_mk1 h10 h11 ?_ ?_
  · clear h10 h11 hμ1 hμ2
    unfold a_X11_meadow a_X10_meadow
    generalize mdS (μ 68) kn (kn + 2) (w_X11_advances_67 (upd (upd (upd (upd (upd (upd (μ 67) 0 0) 8 0) 9 (-1)) 3 0) 12 0) 13 0) (μ 68) kn, μ 69, μ 70, μ 71) = R at *
    generalize rdA (μ 6) (μ 7) (μ 8) (μ 9) (μ 10) (μ 11) (μ 12) kn = A at *
    obtain ⟨ft, hgood⟩ := hps
    have e8 : A.g 4 = R.1 8 := ft.1
    by_cases hA : A.g 4 = 0
    · obtain ⟨-, np', nc', hD⟩ := hgood hA
      have hw : ¬ a_X11_isWell (upd R.1 2 0) = 0 := isw_y (e8.symm.trans hA)
      rw [if_neg hw, if_pos hA]
      show R.1 12 = A.M 0
      rw [hD.1.1, hD.1.2.2.1]
    · have hw : a_X11_isWell (upd R.1 2 0) = 0 := isw_n (fun q => hA (e8.trans q))
      rw [if_pos hw, if_neg hA, e8]
  · clear h10 h11
    unfold w_X10_meadow_6 w_X10_meadow_7 w_X10_meadow_8 w_X10_meadow_9 w_X10_meadow_10 w_X10_meadow_11 w_X10_meadow_0 w_X10_meadow_1 w_X10_meadow_2 w_X10_meadow_3 w_X10_meadow_4 w_X10_meadow_5 w_X10_meadow_24 w_X10_meadow_25 w_X10_meadow_15 w_X10_meadow_16 w_X10_meadow_21 w_X10_meadow_54 w_X10_meadow_53 at hμ1
    unfold w_X11_meadow_71 w_X11_meadow_69 w_X11_meadow_70 w_X11_meadow_72 w_X11_meadow_67 w_X11_meadow_77 at hμ2
    generalize mdS (μ 68) kn (kn + 2) (w_X11_advances_67 (upd (upd (upd (upd (upd (upd (μ 67) 0 0) 8 0) 9 (-1)) 3 0) 12 0) 13 0) (μ 68) kn, μ 69, μ 70, μ 71) = R at *
    generalize rdA (μ 6) (μ 7) (μ 8) (μ 9) (μ 10) (μ 11) (μ 12) kn = A at *
    obtain ⟨ft, hgood⟩ := hps
    obtain ⟨hMI, hW, hU, hU4, hh⟩ := hRI2
    have e8 : A.g 4 = R.1 8 := ft.1
    have e9 : A.g 3 = R.1 9 := ft.2
    by_cases hA : A.g 4 = 0
    · obtain ⟨g3, np', nc', hD⟩ := hgood hA
      have hw : ¬ a_X11_isWell (upd R.1 2 0) = 0 := isw_y (e8.symm.trans hA)
      simp only [if_pos hA] at hμ1
      simp only [if_neg hw] at hμ2
      have x1 : μ2 1 = upd (upd (μ 1) 0 (A.M 0)) 1 (A.M 1) := by rw [hμ2, hμ1]; rfl
      have x54 : μ2 54 = caN (μ 54) := by rw [hμ2, hμ1]; rfl
      have x6 : μ2 6 = upd A.g 2 0 := by rw [hμ2, hμ1]; rfl
      have x67 : μ2 67 = w_X11_settles_67 (upd R.1 2 0) := by rw [hμ2, hμ1]; rfl
      have x0 : μ2 0 = upd (μ 0) 9 (-1) := by rw [hμ2, hμ1]; rfl
      have x2 : μ2 2 = cpy 24 A.T (μ 2) := by rw [hμ2, hμ1]; rfl
      have x3 : μ2 3 = cpy 40 A.P (μ 3) := by rw [hμ2, hμ1]; rfl
      have x4 : μ2 4 = cpy 8 A.N (μ 4) := by rw [hμ2, hμ1]; rfl
      have x69 : μ2 69 = w_X11_settles_69 R.2.1 := by rw [hμ2, hμ1]; rfl
      have x70 : μ2 70 = w_X11_settles_70 R.2.2.1 := by rw [hμ2, hμ1]; rfl
      have x24 : μ2 24 = cpy 4 (cpy 4 A.F (μ 5)) (μ 24) := by rw [hμ2, hμ1]; rfl
      have x25 : μ2 25 = bgV (cpy 24 A.T (μ 2)) (μ 25) 16 := by rw [hμ2, hμ1]; rfl
      have x15 : μ2 15 = clr 4 (μ 15) := by rw [hμ2, hμ1]; rfl
      have x16 : μ2 16 = clr 6 (μ 16) := by rw [hμ2, hμ1]; rfl
      have x17 : μ2 17 = μ 17 := by rw [hμ2, hμ1]; rfl
      have x21 : μ2 21 = dBg (-1) (-1) (μ 21) := by rw [hμ2, hμ1]; rfl
      have x22 : μ2 22 = μ 22 := by rw [hμ2, hμ1]; rfl
      have x13 : μ2 13 = μ 13 := by rw [hμ2, hμ1]; rfl
      have x72 : μ2 72 = w_X11_settles_72 R.2.1 R.2.2.2 (μ 72) (R.1 12).toNatClampNeg := by rw [hμ2, hμ1]; rfl
      have x74 : μ2 74 = μ 74 := by rw [hμ2, hμ1]; rfl
      have x53 : μ2 53 = upd (upd (μ 53) 0 0) 1 0 := by rw [hμ2, hμ1]; rfl
      have x77 : μ2 77 = w_X11_settles_77 (μ 77) := by rw [hμ2, hμ1]; rfl
      clear hμ1 hμ2
      have m12 : R.1 12 = nI np' := hD.1.2.2.1
      have m13 : R.1 13 = nI nc' := hD.1.2.2.2
      have hLR := hD.2.1
      have h2 := hLR.2.2.2.1
      have h3 := hLR.2.2.2.2
      have k12 : (R.1 12).toNatClampNeg = np' := by rw [m12, nI_clamp (by omega)]
      rw [k12] at x72
      refine ⟨np', nc', 0, 0, 0, 0, ⟨⟨?_, ?_, ?_, ?_, ?_, ?_⟩, ⟨?_, ?_, ?_, ?_, ?_, ?_⟩, ?_, h2, h3, by omega, by omega, by omega, by omega⟩, fun k hk => absurd hk (Nat.not_lt_zero _), ⟨?_, ?_⟩, ?_, ⟨?_, ?_, ?_⟩, fun k hk => absurd hk (Nat.not_lt_zero _), fun k hk => absurd hk (Nat.not_lt_zero _), fun k hk => absurd hk (Nat.not_lt_zero _)⟩
      · rw [x1]; exact hD.1.1
      · rw [x1]; exact hD.1.2.1
      · rw [x54]; rfl
      · rw [x54]; rfl
      · rw [x54]; rfl
      · rw [x6]; rfl
      · rw [x67]; exact m12
      · rw [x67]; exact m13
      · rw [x67]; rfl
      · rw [x67]; rfl
      · rw [x67]; rfl
      · rw [x67]; rfl
      · rw [x0, x67]
        show -1 = R.1 9
        rw [← e9, g3]
      · rw [x2, x3, x4, x69, x70]
        refine (hLR.cg2 (tr' := cpy 24 A.T (μ 2)) (pa' := cpy 40 A.P (μ 3)) (ne' := cpy 8 A.N (μ 4)) (fun k hk => if_pos hk) (fun k hk => if_pos hk) (fun k hk => if_pos hk)).cg (fun k hk => ?_) (fun k hk => ?_)
        · unfold w_X11_settles_69 cpR
          rw [if_pos ⟨Nat.zero_le _, hk⟩]
        · unfold w_X11_settles_70 cpR
          rw [if_pos ⟨Nat.zero_le _, hk⟩]
      · intro c hc
        rw [x70]
        unfold w_X11_settles_70 cpR
        rw [if_neg (by omega)]
        exact hU4 c hc
      · unfold WS
        rw [x24, x25, x15, x16, x17, x21, x22, x13, x72, x74]
        exact SR.anew hD hS.2.2.2.2.2.1.1 hS.2.2.2.2.2.1.2 (Nat.succ_pos _)
      · intro i hi
        rw [x53, x77]
        rcases (by omega : i = 0 ∨ i = 1) with rfl | rfl
        · exact ⟨rfl, Or.inl rfl⟩
        · exact ⟨rfl, Or.inl rfl⟩
      · intro q
        rw [x77] at q
        exact absurd rfl q
      · intro q
        rw [x77] at q
        exact absurd rfl q
    · have hw : a_X11_isWell (upd R.1 2 0) = 0 := isw_n (fun q => hA (e8.trans q))
      simp only [if_neg hA] at hμ1
      simp only [if_pos hw] at hμ2
      have x1 : μ2 1 = μ 1 := by rw [hμ2, hμ1]; rfl
      have x54 : μ2 54 = μ 54 := by rw [hμ2, hμ1]; rfl
      have x6 : μ2 6 = upd A.g 2 0 := by rw [hμ2, hμ1]; rfl
      have x67 : μ2 67 = upd R.1 2 0 := by rw [hμ2, hμ1]; rfl
      have x0 : μ2 0 = upd (μ 0) 9 (upd A.g 2 0 3) := by rw [hμ2, hμ1]; rfl
      have x2 : μ2 2 = μ 2 := by rw [hμ2, hμ1]; rfl
      have x3 : μ2 3 = μ 3 := by rw [hμ2, hμ1]; rfl
      have x4 : μ2 4 = μ 4 := by rw [hμ2, hμ1]; rfl
      have x69 : μ2 69 = R.2.1 := by rw [hμ2, hμ1]; rfl
      have x70 : μ2 70 = R.2.2.1 := by rw [hμ2, hμ1]; rfl
      have x24 : μ2 24 = μ 24 := by rw [hμ2, hμ1]; rfl
      have x25 : μ2 25 = μ 25 := by rw [hμ2, hμ1]; rfl
      have x15 : μ2 15 = μ 15 := by rw [hμ2, hμ1]; rfl
      have x16 : μ2 16 = μ 16 := by rw [hμ2, hμ1]; rfl
      have x17 : μ2 17 = μ 17 := by rw [hμ2, hμ1]; rfl
      have x21 : μ2 21 = μ 21 := by rw [hμ2, hμ1]; rfl
      have x22 : μ2 22 = μ 22 := by rw [hμ2, hμ1]; rfl
      have x13 : μ2 13 = μ 13 := by rw [hμ2, hμ1]; rfl
      have x72 : μ2 72 = μ 72 := by rw [hμ2, hμ1]; rfl
      have x74 : μ2 74 = μ 74 := by rw [hμ2, hμ1]; rfl
      have x53 : μ2 53 = μ 53 := by rw [hμ2, hμ1]; rfl
      have x77 : μ2 77 = μ 77 := by rw [hμ2, hμ1]; rfl
      have x38 : μ2 38 = μ 38 := by rw [hμ2, hμ1]; rfl
      have x39 : μ2 39 = μ 39 := by rw [hμ2, hμ1]; rfl
      have x29 : μ2 29 = μ 29 := by rw [hμ2, hμ1]; rfl
      have x30 : μ2 30 = μ 30 := by rw [hμ2, hμ1]; rfl
      have x31 : μ2 31 = μ 31 := by rw [hμ2, hμ1]; rfl
      have x35 : μ2 35 = μ 35 := by rw [hμ2, hμ1]; rfl
      have x36 : μ2 36 = μ 36 := by rw [hμ2, hμ1]; rfl
      have x27 : μ2 27 = μ 27 := by rw [hμ2, hμ1]; rfl
      have x51 : μ2 51 = μ 51 := by rw [hμ2, hμ1]; rfl
      have x52 : μ2 52 = μ 52 := by rw [hμ2, hμ1]; rfl
      have x42 : μ2 42 = μ 42 := by rw [hμ2, hμ1]; rfl
      have x43 : μ2 43 = μ 43 := by rw [hμ2, hμ1]; rfl
      have x44 : μ2 44 = μ 44 := by rw [hμ2, hμ1]; rfl
      have x48 : μ2 48 = μ 48 := by rw [hμ2, hμ1]; rfl
      have x49 : μ2 49 = μ 49 := by rw [hμ2, hμ1]; rfl
      have x40 : μ2 40 = μ 40 := by rw [hμ2, hμ1]; rfl
      have x75 : μ2 75 = μ 75 := by rw [hμ2, hμ1]; rfl
      have x76 : μ2 76 = μ 76 := by rw [hμ2, hμ1]; rfl
      have x55 : μ2 55 = μ 55 := by rw [hμ2, hμ1]; rfl
      have x78 : μ2 78 = μ 78 := by rw [hμ2, hμ1]; rfl
      have x56 : μ2 56 = μ 56 := by rw [hμ2, hμ1]; rfl
      have x79 : μ2 79 = μ 79 := by rw [hμ2, hμ1]; rfl
      have x57 : μ2 57 = μ 57 := by rw [hμ2, hμ1]; rfl
      have x80 : μ2 80 = μ 80 := by rw [hμ2, hμ1]; rfl
      clear hμ1 hμ2
      refine ⟨np, nc, kw, kc, kb, 0, ⟨⟨?_, ?_, ?_, ?_, ?_, ?_⟩, ⟨?_, ?_, ?_, ?_, ?_, ?_⟩, ?_, hp4, hc8, hw12, hk4, hb20, by omega⟩, fun k hk => absurd hk (Nat.not_lt_zero _), ⟨?_, ?_⟩, ?_, ?_, ?_⟩
      · rw [x1]; exact p1
      · rw [x1]; exact c1
      · rw [x54]; exact w1
      · rw [x54]; exact k1
      · rw [x54]; exact b1
      · rw [x6]; rfl
      · rw [x67, upn (by decide), hh 10 (by decide) (by decide) (by decide)]; exact p2
      · rw [x67, upn (by decide), hh 11 (by decide) (by decide) (by decide)]; exact c2
      · rw [x67, upn (by decide), hh 24 (by decide) (by decide) (by decide)]; exact w2
      · rw [x67, upn (by decide), hh 26 (by decide) (by decide) (by decide)]; exact k2
      · rw [x67, upn (by decide), hh 28 (by decide) (by decide) (by decide)]; exact b2
      · rw [x67]; rfl
      · rw [x0, x67]
        exact e9
      · rw [x2, x3, x4, x69, x70]
        exact hL.1.cg hW hU
      · intro c hc
        rw [x70]; exact hU4 c hc
      · unfold WS
        rw [x24, x25, x15, x16, x17, x21, x22, x13, x72, x74]
        exact SR.mono hS (Nat.le_succ _)
      · have hMm2 := WM.mono hMm (Nat.le_succ M)
        unfold WM at hMm2 ⊢
        rw [x53, x77, x38, x39, x29, x30, x31, x35, x36, x27, x51, x52, x42, x43, x44, x48, x49, x40, x75, x76]
        exact hMm2
      · unfold WN at hN ⊢
        rw [x55, x78, x56, x79, x57, x80]
        exact hN
