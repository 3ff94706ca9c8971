theorem cl_mk1 {M : Nat} {μ μ1 μ2 : zH} {y10 y11 : zMI} {as : List zV} {a10 a11 : Int32} {l : Launch} {X : zX} (h10 : zRn l X y10 30 (.inr 0 :: as) (zSH, μ) (some (.inl a10)) (zSH, μ1)) (h11 : zRn l X y11 30 (.inr 67 :: as) (zSH, μ1) (some (.inl a11)) (zSH, μ2)) (ha : a11 = a10) (hW : WI (M + 1) μ2) : ∃ (a : Int32) (μ1 μ2 : zH), zRn l X y10 30 (.inr 0 :: as) (zSH, μ) (some (.inl a)) (zSH, μ1) ∧ zRn l X y11 30 (.inr 67 :: as) (zSH, μ1) (some (.inl a)) (zSH, μ2) ∧ WI (M + 1) μ2 := by
  subst ha
  exact ⟨a11, μ1, μ2, h10, h11, hW⟩
theorem WH.of2 {np nc kw kc kb kn : Nat} {μ μ' : zH} (h : WH np nc kw kc kb kn μ) (e1 : μ' 1 = μ 1) (e54 : μ' 54 = μ 54) (e6 : μ' 6 = μ 6) (e0 : μ' 0 = μ 0) (e67 : ∀ k, k ≠ 0 → k ≠ 32 → μ' 67 k = μ 67 k) : WH np nc kw kc kb kn μ' := by
  obtain ⟨⟨p1, c1, w1, k1, b1, n1⟩, ⟨p2, c2, w2, k2, b2, n2⟩, hf, hr⟩ := h
  refine ⟨⟨by rw [e1]; exact p1, by rw [e1]; exact c1, by rw [e54]; exact w1, by rw [e54]; exact k1, by rw [e54]; exact b1, by rw [e6]; exact n1⟩, ⟨?_, ?_, ?_, ?_, ?_, ?_⟩, ?_, hr⟩
  · rw [e67 _ (by decide) (by decide)]; exact p2
  · rw [e67 _ (by decide) (by decide)]; exact c2
  · rw [e67 _ (by decide) (by decide)]; exact w2
  · rw [e67 _ (by decide) (by decide)]; exact k2
  · rw [e67 _ (by decide) (by decide)]; exact b2
  · rw [e67 _ (by decide) (by decide)]; exact n2
  · rw [e0, e67 _ (by decide) (by decide)]; exact hf
theorem rf_best {np nc M : Nat} {μ : zH} {l : Launch} {X : zX} {tr pa ne dn va ce : Nat → Int32} (hL : LR np nc tr pa ne (μ 69) (μ 70)) (hF : FR np dn va (μ 72)) (hM : M < 1000) (hD : DR np nc M ce (μ 72)) (hR : ce 2 = 0) (hg : μ 67 11 = nI nc) (h15 : mD nc ce ≤ 15) :
    ∃ (pv : Int32) (pt g73 g81 g82 g83 : Nat → Int32), zRn l X mi_X11_plays 29 [.inr 67] (zSH, zhs μ 67 (upd (μ 67) 0 0)) (some (.inl pv)) (zSH, (zhs (zhs (zhs (zhs (zhs μ 67 pt) 73 g73) 81 g81) 82 g82) 83 g83)) ∧ pv = (ndV (tCa (upd (μ 67) 0 0)) (tTu (μ 69) (μ 70) (μ 72)) 200 (w_X11_asNow_73 (μ 72) (μ 73)) 0 (-1, μ 67 32)).1 ∧ pt 32 = (ndV (tCa (upd (μ 67) 0 0)) (tTu (μ 69) (μ 70) (μ 72)) 200 (w_X11_asNow_73 (μ 72) (μ 73)) 0 (-1, μ 67 32)).2 ∧ ∀ k, k ≠ 0 → k ≠ 32 → pt k = μ 67 k := by
  have hp4 := hL.2.2.2.1
  have hc8 := hL.2.2.2.2
  have g11 : upd (μ 67) 0 0 11 = nI nc := hg
  have hMx : ∀ {ce r : Nat → Int32}, ER1 ce r → 2 * (nc - cb (r 25).toNatClampNeg) + (2 - (r 26).toNatClampNeg) = mD nc ce := fun {ce r} h => by
    have e4 : r 25 = ce 4 := h 4 (by decide)
    have e5 : r 26 = ce 5 := h 5 (by decide)
    rw [e4, e5]; rfl
  have hI : nI2 (tCa (upd (μ 67) 0 0)) (tTu (μ 69) (μ 70) (μ 72)) (μ 73) (fun r => (∃ ce, DR np nc M ce r ∧ ce 2 = 0) ∧ ∀ k, 64 ≤ k → r k = μ 73 k) (fun r => 2 * (nc - cb (r 25).toNatClampNeg) + (2 - (r 26).toNatClampNeg)) := by
    refine ⟨?_, ?_⟩
    · rintro r ⟨⟨ce, d1, d2⟩, hk⟩
      refine ⟨(d1.RB hp4 hc8 (by omega)).1, ?_, hk⟩
      exact (can_e (f67 := upd (μ 67) 0 0) hc8 hp4 d1 d2 g11 (Or.inl rfl)).2.mpr (Or.inl rfl)
    · rintro r t ⟨⟨ce, d1, d2⟩, hk⟩ ht hca
      obtain ⟨k1, k2⟩ := nd_can hc8 hp4 d1 d2 g11 ht
      have hok := turn_ok hL hF d1 (by omega) d2 (k1.mp hca)
      have hJ : ∀ k, 64 ≤ k → tTu (μ 69) (μ 70) (μ 72) r (nI t) k = μ 73 k := fun k h => (hok.1.2.2.1 k (by omega)).trans (hk k h)
      refine ⟨hJ, fun hn => ?_⟩
      have e22 : tTu (μ 69) (μ 70) (μ 72) r (nI t) 22 = dPl tr pa ne dn va ce (nI t) 2 := hok.1.1 2 (by decide)
      have q0 : dPl tr pa ne dn va ce (nI t) 2 = 0 := by
        rw [e22] at hn
        obtain ⟨-, ⟨pn, F, X, W, K, R, T, S, P, hJ, -⟩, -⟩ := hok.2.1
        obtain ⟨hR, hR4⟩ := hJ.2.2.1
        rw [hR] at hn ⊢
        by_cases z : R = 0
        · rw [z]; rfl
        · exact absurd (nI_lt (a := 0) (Nat.pos_of_ne_zero z) (by omega)) hn
      obtain ⟨d3, d4⟩ := hok.2.2.1 q0
      refine ⟨⟨⟨_, d3, q0⟩, hJ⟩, ?_⟩
      show 2 * (nc - cb (tTu (μ 69) (μ 70) (μ 72) r (nI t) 25).toNatClampNeg) + (2 - (tTu (μ 69) (μ 70) (μ 72) r (nI t) 26).toNatClampNeg) < 2 * (nc - cb (r 25).toNatClampNeg) + (2 - (r 26).toNatClampNeg)
      have h1 := hMx d1.1
      have h2 : 2 * (nc - cb (tTu (μ 69) (μ 70) (μ 72) r (nI t) 25).toNatClampNeg) + (2 - (tTu (μ 69) (μ 70) (μ 72) r (nI t) 26).toNatClampNeg) = mD nc (dPl tr pa ne dn va ce (nI t)) := hMx d3.1
      rw [h1, h2]
      exact d4 (nI9 ht)
  have hd : DR np nc M ce (w_X11_asNow_73 (μ 72) (μ 73)) := hD.congr (ce' := ce) (fun _ _ => rfl) (fun k hk => cpR_i (Nat.zero_le _) (by omega))
  have hi : (∃ ce, DR np nc M ce (w_X11_asNow_73 (μ 72) (μ 73)) ∧ ce 2 = 0) ∧ ∀ k, 64 ≤ k → w_X11_asNow_73 (μ 72) (μ 73) k = μ 73 k := ⟨⟨ce, hd, hR⟩, fun k hk => by unfold w_X11_asNow_73 cpR; exact if_neg (by omega)⟩
  have hx := hMx hd.1
  obtain ⟨g73, g81, g82, g83, hz⟩ := e_X11_plays (l := l) (X := X) (d := 21) (μ := zhs μ 67 (upd (μ 67) 0 0)) (fu := 200) hL.2.2.1 hI hi (by show 2 * (nc - cb (w_X11_asNow_73 (μ 72) (μ 73) 25).toNatClampNeg) + (2 - (w_X11_asNow_73 (μ 72) (μ 73) 26).toNatClampNeg) ≤ 15; rw [hx]; exact h15) (by show 10 * (2 * (nc - cb (w_X11_asNow_73 (μ 72) (μ 73) 25).toNatClampNeg) + (2 - (w_X11_asNow_73 (μ 72) (μ 73) 26).toNatClampNeg)) + 9 < 200; rw [hx]; omega)
  rw [zhs_hs] at hz
  exact ⟨_, _, g73, g81, g82, g83, hz, rfl, rfl, fun k k0 k32 => (upn k32).trans (upn k0)⟩
theorem cl_best {M : Nat} {μ : zH} {x : Int32} (hM : M < 1000) (h : WI M μ) : CL M μ mi_X10_best mi_X11_best [.inl x] := by
  obtain ⟨np, nc, kw, kc, kb, kn, hH, hT, hL, hS, hMm, hN⟩ := h
  have hH0 := hH
  obtain ⟨⟨p1, c1, w1, k1, b1, n1⟩, ⟨p2, c2, w2, k2, b2, n2⟩, hf, hp4, hc8, hw12, hk4, hb20, hn250⟩ := hH
  have hgo := SR.go hp4 hS
  intro l X
  have h10 := e_X10_best (l := l) (X := X) (d := 6) (μ := μ) (x := x) c1 hc8
  generalize hμ1 : zhs (zhs (zhs μ 61 (w_X10_best_61 (μ 2) (μ 3) (μ 4) (μ 21) (μ 22) (μ 24) (μ 25) (μ 60) (μ 61) (μ 62) x nc)) 60 (w_X10_best_60 (μ 2) (μ 3) (μ 4) (μ 21) (μ 22) (μ 24) (μ 25) (μ 60) (μ 61) (μ 62) x nc)) 62 (w_X10_best_62 (μ 2) (μ 3) (μ 4) (μ 21) (μ 22) (μ 24) (μ 25) (μ 60) (μ 61) (μ 62) x nc) = μ1 at h10
  have hn : ∀ k, k ≠ 61 → k ≠ 60 → k ≠ 62 → μ1 k = μ k := fun k k1 k2 k3 => by rw [← hμ1, zhs_n _ _ k3, zhs_n _ _ k2, zhs_n _ _ k1]
  have fin : ∀ (pv : Int32) (pt g73 g81 g82 g83 : Nat → Int32), (¬ a_X11_goesOn (μ 72) = 0 → nI nc - a_X11_ones (μ 72 25) ≤ 5 → zRn l X mi_X11_plays 29 [.inr 67] (zSH, zhs μ1 67 (upd (μ1 67) 0 0)) (some (.inl pv)) (zSH, (zhs (zhs (zhs (zhs (zhs μ1 67 pt) 73 g73) 81 g81) 82 g82) 83 g83))) → (∀ k, k ≠ 0 → k ≠ 32 → pt k = μ 67 k) → a_X11_best (μ 72) x nc pv pt = a_X10_best (μ 2) (μ 3) (μ 4) (μ 21) (μ 22) (μ 24) (μ 25) (μ 60) (μ 61) (μ 62) x nc → ∃ (a : Int32) (μ1 μ2 : zH), zRn l X mi_X10_best 30 [.inr 0, .inl x] (zSH, μ) (some (.inl a)) (zSH, μ1) ∧ zRn l X mi_X11_best 30 [.inr 67, .inl x] (zSH, μ1) (some (.inl a)) (zSH, μ2) ∧ WI (M + 1) μ2 := by
    intro pv pt g73 g81 g82 g83 hpl hpt ha
    have e72 : μ1 72 = μ 72 := hn 72 (by decide) (by decide) (by decide)
    have e67 : μ1 67 = μ 67 := hn 67 (by decide) (by decide) (by decide)
    have h11 := e_X11_best (l := l) (X := X) (d := 21) (μ := μ1) (nc := nc) (pv := pv) (pt := pt) (g73 := g73) (g81 := g81) (g82 := g82) (g83 := g83) (x := x) (by rw [e67]; exact c2) hc8 (by rw [e72]; exact hpl)
    rw [e72] at h11
    have hw : ∀ k, k ≠ 0 → k ≠ 32 → w_X11_best_67 (μ1 67) (μ 72) x nc pt k = μ 67 k := fun k k0 k32 => by
      unfold w_X11_best_67
      rw [e67]
      repeat' split
      · exact upn k0
      · exact upn k0
      · exact hpt k k0 k32
      · exact upn k0
    refine cl_mk1 h10 h11 ha ?_
    generalize w_X11_best_67 (μ1 67) (μ 72) x nc pt = v67 at *
    generalize w_X11_best_73 (μ 72) (μ1 73) x nc g73 = v73
    generalize w_X11_best_81 (μ 72) (μ1 81) x nc g81 = v81
    generalize w_X11_best_82 (μ 72) (μ1 82) x nc g82 = v82
    generalize w_X11_best_83 (μ 72) (μ1 83) x nc g83 = v83
    subst hμ1
    exact ⟨np, nc, kw, kc, kb, kn, WH.of2 hH0 rfl rfl rfl rfl hw, hT, hL, SR.mono hS (Nat.le_succ _), WM.mono hMm (Nat.le_succ _), hN⟩
  unfold a_X11_best a_X10_best at fin
  have hcnt : ¬ a_X11_goesOn (μ 72) = 0 → ∃ S, (μ 21 4 = nI S ∧ S < 256) ∧ nI nc - a_X11_ones (μ 72 25) = nI (nc - cb S) ∧ dUC (μ 21) nc = nI (nc - cb S) := fun q => by
    rcases hgo with g | ⟨g1, g2, g3, g4, g5, g6⟩
    · exact absurd g.1 q
    obtain ⟨hE, ⟨pn, F, X, W, K, R, T, S, P, hJ, h24⟩, hm⟩ := g5
    have h4 : μ 21 4 = nI S := hJ.2.2.2.2.1.1
    have hS256 := s256 hJ.2.2.2.2.1.2 hc8
    have s25 : μ 72 25 = nI S := (hE 4 (by decide)).trans h4
    refine ⟨S, ⟨h4, hS256⟩, ?_, ?_⟩
    · rw [s25, ones_n (by omega), pk_sub (cb_nc nc (by omega) S hJ.2.2.2.2.1.2)]
    · rw [dUC_n h4 hS256 nc hc8, un_c nc (by omega) S hJ.2.2.2.2.1.2]
  by_cases hq : ¬ a_X11_goesOn (μ 72) = 0 ∧ nI nc - a_X11_ones (μ 72 25) ≤ 5
  · obtain ⟨S, ⟨h4, hS256⟩, h5, h6⟩ := hcnt hq.1
    rcases hgo with g | ⟨g1, g2, g3, g4, g5, g6⟩
    · exact absurd g.1 hq.1
    have h7 : nc - cb S ≤ 5 := by
      have := hq.2
      rw [h5] at this
      exact (nI_leI (b := 5) (by omega) (by decide)).mp this
    have hmD : mD nc (μ 21) ≤ 15 := by
      unfold mD
      rw [h4, nI_clamp (show S < 2 ^ 31 by omega)]
      omega
    obtain ⟨pv, pt, g73, g81, g82, g83, z1, z2, z3, z4⟩ := rf_best (l := l) (X := X) (μ := μ1) (tr := μ 2) (pa := μ 3) (ne := μ 4) (dn := μ 24) (va := μ 25) (ce := μ 21) (by rw [hn 69 (by decide) (by decide) (by decide), hn 70 (by decide) (by decide) (by decide)]; exact hL.1) (by rw [hn 72 (by decide) (by decide) (by decide)]; exact hS.1) hM (by rw [hn 72 (by decide) (by decide) (by decide)]; exact g5) g4 (by rw [hn 67 (by decide) (by decide) (by decide)]; exact c2) hmD
    refine fin pv pt g73 g81 g82 g83 (fun _ _ => z1) (fun k k0 k32 => by rw [z4 k k0 k32, hn 67 (by decide) (by decide) (by decide)]) ?_
    rw [hn 72 (by decide) (by decide) (by decide), hn 67 (by decide) (by decide) (by decide), hn 69 (by decide) (by decide) (by decide), hn 70 (by decide) (by decide) (by decide)] at z2 z3
    rcases rg0 x (b := 1) (n := 1) rfl (by decide) with ⟨r1, r2⟩ | ⟨k, hk, rfl, r1, r2, r3⟩
    · rw [if_pos r1]
      rcases r2 with r2 | ⟨r2, r3⟩
      · rw [if_pos r2]
      · rw [if_neg r2, if_neg r3]
    · have d1 : DR np nc M (cpy 20 (μ 21) (μ 60)) (w_X11_asNow_73 (μ 72) (μ1 73)) := g5.congr (fun i hi => if_pos hi) (fun k hk => cpR_i (Nat.zero_le _) (by omega))
      have d2 : cpy 20 (μ 21) (μ 60) 2 = 0 := g4
      have hgo2 : dGo (cpy 20 (μ 21) (μ 60)) = true := by
        obtain ⟨A, B, hA, hB, hAB, eA, eB⟩ := d1.two hp4
        unfold dGo dEx
        rw [show cell (cpy 20 (μ 21) (μ 60)) 0 = cpy 20 (μ 21) (μ 60) 0 from cell_n (i := 0) (by decide), show cell (cpy 20 (μ 21) (μ 60)) 2 = cpy 20 (μ 21) (μ 60) 2 from cell_n (i := 2) (by decide), eA, d2]
        have := nI_nm1 (a := A) (by omega)
        simp [this]
      have hmD2 : mD nc (cpy 20 (μ 21) (μ 60)) ≤ 15 := hmD
      obtain ⟨b1, b2, b3, b4, b5, b6, b7, b8⟩ := bs_e hL.1 hS.1 hM (f67 := upd (μ 67) 0 0) c2 200 16 0 0 (cpy 20 (μ 21) (μ 60)) (cpy 800 (μ 22) (μ 61)) (w_X11_asNow_73 (μ 72) (μ1 73)) (μ 62 3) (-1) (μ 67 32) 3 d1 d2 (Or.inl ⟨rfl, by decide⟩) (by decide) (Or.inr (Or.inr rfl)) (by omega) (by omega)
      have eO : bsO (μ 2) (μ 3) (μ 4) (μ 24) (μ 25) nc 17 0 3 (cpy 20 (μ 21) (μ 60), cpy 800 (μ 22) (μ 61), μ 62 3) = bsL (bsT (μ 2) (μ 3) (μ 4) (μ 24) (μ 25) nc (bsO (μ 2) (μ 3) (μ 4) (μ 24) (μ 25) nc 16 (0 + 1)) 0) 3 (9 - 0) 0 (-1, (cpy 20 (μ 21) (μ 60), cpy 800 (μ 22) (μ 61), μ 62 3)) := by
        rw [bsO]
        exact if_pos hgo2
      have l5 : dUC (μ 21) nc ≤ 5 := by rw [h6, ← h5]; exact hq.2
      have z : ¬ bz (dGo (μ 21)) = 0 := by rw [g2]; decide
      rw [if_neg r1, if_neg r2, if_pos r3, if_neg hq.1, if_pos hq.2, if_neg z, if_pos l5, eO]
      rcases (by omega : k = 0 ∨ k = 1) with rfl | rfl
      · rw [if_pos (show nI 0 = 0 from rfl), if_pos (show nI 0 = 0 from rfl), z2]
        refine (b6 ?_).symm
        rcases b3 with q | q | q <;> rw [q] <;> decide
      · rw [if_neg (show ¬ nI 1 = 0 by decide), if_neg (show ¬ nI 1 = 0 by decide), z3, ups]
        exact (b8 rfl rfl (Or.inl rfl)).symm
  · refine fin 0 (μ 67) (μ 73) (μ 81) (μ 82) (μ 83) (fun a b => absurd ⟨a, b⟩ hq) (fun _ _ _ => rfl) ?_
    rcases rg0 x (b := 1) (n := 1) rfl (by decide) with ⟨r1, r2⟩ | ⟨k, hk, rfl, r1, r2, r3⟩
    · rw [if_pos r1]
      rcases r2 with r2 | ⟨r2, r3⟩
      · rw [if_pos r2]
      · rw [if_neg r2, if_neg r3]
    · rw [if_neg r1, if_neg r2, if_pos r3]
      by_cases g : a_X11_goesOn (μ 72) = 0
      · rcases hgo with ⟨g1, g2⟩ | g1
        · rw [if_pos g, g2, if_pos (show bz false = 0 from rfl)]
        · exact absurd g g1.1
      · obtain ⟨S, h4, h5, h6⟩ := hcnt g
        have hq2 : ¬ nI nc - a_X11_ones (μ 72 25) ≤ 5 := fun z => hq ⟨g, z⟩
        rcases hgo with g1 | ⟨g1, g2, -⟩
        · exact absurd g1.1 g
        · have z : ¬ dUC (μ 21) nc ≤ 5 := by rw [h6, ← h5]; exact hq2
          rw [if_neg g, if_neg hq2, g2, if_neg (show ¬ bz true = 0 by decide), if_neg z]
