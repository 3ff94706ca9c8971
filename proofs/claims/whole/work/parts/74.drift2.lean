theorem e_X11_drift2 {l : Launch} {X : zX} {d : Nat} {μ : zH} {nc : Nat} {x : Int32} (hnc : μ 67 11 = nI nc) (hc8 : nc ≤ 8) (hT : ∀ c, c < 8 → nb (μ 70 (5 * c)) 4) {I : (Nat → Int32) → Prop} (hI : dI (μ 69) (μ 70) nc I) (his : ¬ a_X11_goesOn (μ 72) = 0 → I (μ 72)) : zRn l X mi_X11_drift (d + 10) [.inr 67, .inl (x)] (zSH, μ) (some (.inl (a_X11_drift (μ 69) (μ 70) (μ 72) (μ 74) x nc))) (zSH, (zhs (zhs (zhs μ 67 (w_X11_drift_67 (μ 67))) 72 (w_X11_drift_72 (μ 69) (μ 70) (μ 72) (μ 74) x nc)) 74 (w_X11_drift_74 (μ 69) (μ 70) (μ 72) (μ 74) x nc))) := by
  refine pv_aload_n (i := 0) t_X11_drift_0 rfl rfl ?_
  refine pv_iconst (v := 0) t_X11_drift_1 zi_0 ?_
  refine sv_putI ((zhs μ 67 ((upd (μ 67) 0 0)))) t_X11_drift_2 fl_X11_69 zfn_10_0 hh_67 rfl rfl ?_
  refine pv_iload_n (i := 1) t_X11_drift_5 rfl rfl ?_
  refine pv_iconst (v := 1) t_X11_drift_6 zi_1 ?_
  refine pv_bipush (v := 40) t_X11_drift_7 zb_40 ?_
  refine sv_S3 (a_X11_in x 1 40) ((zhs μ 67 ((upd (μ 67) 0 0)))) t_X11_drift_9 ml_X11_72 mo_X11_in (Nat.le_of_ble_eq_true rfl) (e_X11_in) (Nat.le_of_ble_eq_true rfl) rfl rfl ?_
  refine pv_if_ne t_X11_drift_12 (fun c12 => ?_) (fun c12 => ?_)
  · skip
    obtain ⟨⟨hx1, hx2⟩, hx3⟩ := in_nb1 (n := 40) (m := 1) rfl (by decide) rfl c12
    refine pv_aload_n (i := 0) t_X11_drift_18 rfl rfl ?_
    refine sv_V0 (a_X11_goesOn (μ 72)) ((zhs μ 67 ((upd (μ 67) 0 0)))) t_X11_drift_19 ml_X11_155 mo_X11_goesOn hh_67 rfl (Nat.le_of_ble_eq_true rfl) (e_X11_goesOn) (Nat.le_of_ble_eq_true rfl) rfl rfl ?_
    refine pv_if_ne t_X11_drift_22 (fun c22 => ?_) (fun c22 => ?_)
    · skip
      refine pv_iconst (v := 0) t_X11_drift_28 zi_0 ?_
      refine pv_istore_n (i := 2) t_X11_drift_29 rfl (Nat.le_of_ble_eq_true rfl) ?_
      refine zfin (S1 := (zSH, (zhs (zhs (zhs μ 67 ((upd (μ 67) 0 0))) 72 ((rfS (μ 69) (μ 70) nc x.toNatClampNeg ((μ 72), (μ 74))).1)) 74 ((rfS (μ 69) (μ 70) nc x.toNatClampNeg ((μ 72), (μ 74))).2)))) (by unfold a_X11_drift; rw [if_neg c12, if_neg c22]) (Prod.ext rfl (by have e67 : w_X11_drift_67 (μ 67) = (upd (μ 67) 0 0) := (by unfold w_X11_drift_67; rfl); have e72 : w_X11_drift_72 (μ 69) (μ 70) (μ 72) (μ 74) x nc = (rfS (μ 69) (μ 70) nc x.toNatClampNeg ((μ 72), (μ 74))).1 := (by unfold w_X11_drift_72; rw [if_neg c12, if_neg c22]); have e74 : w_X11_drift_74 (μ 69) (μ 70) (μ 72) (μ 74) x nc = (rfS (μ 69) (μ 70) nc x.toNatClampNeg ((μ 72), (μ 74))).2 := (by unfold w_X11_drift_74; rw [if_neg c12, if_neg c22]); show _ = (zhs (zhs (zhs μ 67 (w_X11_drift_67 (μ 67))) 72 (w_X11_drift_72 (μ 69) (μ 70) (μ 72) (μ 74) x nc)) 74 (w_X11_drift_74 (μ 69) (μ 70) (μ 72) (μ 74) x nc)); symm; rw [e67, e72, e74])) ?_
      have h9 := lp_X11_drift (l := l) (X := X) (d := d) (μ := μ) (g67 := upd (μ 67) 0 0) hnc hc8 hT hI (nn := x.toNatClampNeg) (by omega) (x.toNatClampNeg + 1) 0 (by omega) (by omega) 0 (μ 72) (μ 74) rfl (his c22)
      rw [← hx2, Nat.sub_zero] at h9
      refine zst (S2 := (zSH, zhs (zhs (zhs μ 67 (upd (μ 67) 0 0)) 72 (μ 72)) 74 (μ 74))) (by congr 1; rw [zhs_i2 (ν := zhs (zhs μ 67 (upd (μ 67) 0 0)) 72 (μ 72)) (k := 74) (g := μ 74) rfl, zhs_i2 (ν := zhs μ 67 (upd (μ 67) 0 0)) (k := 72) (g := μ 72) rfl]) ?_
      exact h9
    · skip
      refine pv_ldc t_X11_drift_25 kc_X11_206 ?_
      exact pv_ireti t_X11_drift_27 rfl (by unfold a_X11_drift; rw [if_neg c12, if_pos c22]) (Prod.ext rfl (by have e67 : w_X11_drift_67 (μ 67) = (upd (μ 67) 0 0) := (by unfold w_X11_drift_67; rfl); have e72 : w_X11_drift_72 (μ 69) (μ 70) (μ 72) (μ 74) x nc = (μ 72) := (by unfold w_X11_drift_72; rw [if_neg c12, if_pos c22]); have e74 : w_X11_drift_74 (μ 69) (μ 70) (μ 72) (μ 74) x nc = (μ 74) := (by unfold w_X11_drift_74; rw [if_neg c12, if_pos c22]); show _ = (zhs (zhs (zhs μ 67 (w_X11_drift_67 (μ 67))) 72 (w_X11_drift_72 (μ 69) (μ 70) (μ 72) (μ 74) x nc)) 74 (w_X11_drift_74 (μ 69) (μ 70) (μ 72) (μ 74) x nc)); symm; rw [e67, e72, e74]; rw [zhs_i2 (ν := (zhs μ 67 ((upd (μ 67) 0 0)))) (k := 72) (g := (μ 72)) rfl, zhs_i2 (ν := (zhs μ 67 ((upd (μ 67) 0 0)))) (k := 74) (g := (μ 74)) rfl]))
  · skip
    refine pv_ldc t_X11_drift_15 kc_X11_76 ?_
    exact pv_ireti t_X11_drift_17 rfl (by unfold a_X11_drift; rw [if_pos c12]) (Prod.ext rfl (by have e67 : w_X11_drift_67 (μ 67) = (upd (μ 67) 0 0) := (by unfold w_X11_drift_67; rfl); have e72 : w_X11_drift_72 (μ 69) (μ 70) (μ 72) (μ 74) x nc = (μ 72) := (by unfold w_X11_drift_72; rw [if_pos c12]); have e74 : w_X11_drift_74 (μ 69) (μ 70) (μ 72) (μ 74) x nc = (μ 74) := (by unfold w_X11_drift_74; rw [if_pos c12]); show _ = (zhs (zhs (zhs μ 67 (w_X11_drift_67 (μ 67))) 72 (w_X11_drift_72 (μ 69) (μ 70) (μ 72) (μ 74) x nc)) 74 (w_X11_drift_74 (μ 69) (μ 70) (μ 72) (μ 74) x nc)); symm; rw [e67, e72, e74]; rw [zhs_i2 (ν := (zhs μ 67 ((upd (μ 67) 0 0)))) (k := 72) (g := (μ 72)) rfl, zhs_i2 (ν := (zhs μ 67 ((upd (μ 67) 0 0)))) (k := 74) (g := (μ 74)) rfl]))
theorem dGo_t {ce : Nat → Int32} (h0 : ¬ ce 0 = -1) (h2 : ce 2 = 0) : dGo ce = true := by
  unfold dGo dEx
  rw [show cell ce 0 = ce 0 from cell_n (i := 0) (by decide), show cell ce 2 = ce 2 from cell_n (i := 2) (by decide)]
  simp [h0, h2]
theorem dGo_f {ce : Nat → Int32} (h2 : ¬ ce 2 = 0) : dGo ce = false := by
  unfold dGo
  rw [show cell ce 2 = ce 2 from cell_n (i := 2) (by decide), decide_eq_false h2, Bool.and_false]
/-- drawn turns, alike -/
theorem dr_e {np nc M : Nat} {tr pa ne who what dn va : Nat → Int32} (hL : LR np nc tr pa ne who what) (hM : M < 1000) : ∀ k (c13 pt ce lo me po s b : Nat → Int32), SR np nc M dn va po me lo ce pt (c13 3) s b → ¬ ce 0 = -1 → ce 2 = 0 →
    SR np nc (M + 1) dn va (drS tr pa ne dn va nc k (c13, pt, ce, lo, me, po)).2.2.2.2.2 (drS tr pa ne dn va nc k (c13, pt, ce, lo, me, po)).2.2.2.2.1 (drS tr pa ne dn va nc k (c13, pt, ce, lo, me, po)).2.2.2.1 (drS tr pa ne dn va nc k (c13, pt, ce, lo, me, po)).2.2.1 (drS tr pa ne dn va nc k (c13, pt, ce, lo, me, po)).2.1 ((drS tr pa ne dn va nc k (c13, pt, ce, lo, me, po)).1 3) (rfS who what nc k (s, b)).1 (rfS who what nc k (s, b)).2
  | 0, c13, pt, ce, lo, me, po, s, b, hS, hd, hR => SR.mono hS (Nat.le_succ _)
  | k + 1, c13, pt, ce, lo, me, po, s, b, hS, hd, hR => by
    obtain ⟨⟨sd', z1, z2⟩, z3, z4, -⟩ := dr_step hL rfl hS hM hd hR
    have hs22 : s 22 = 0 := (hS.2.2.2.2.2.2.1 2 (by decide)).trans hR
    have f1 : drS tr pa ne dn va nc (k + 1) (c13, pt, ce, lo, me, po) = drS tr pa ne dn va nc k (drN tr pa ne dn va nc (c13, pt, ce, lo, me, po)) := if_pos (dGo_t hd hR)
    have f2 : rfS who what nc (k + 1) (s, b) = rfS who what nc k (rfN who what nc (s, b)) := if_pos hs22
    rw [f1, f2]
    have hme := hS.2.2.1
    subst z1
    generalize drN tr pa ne dn va nc (c13, pt, ce, lo, me, po) = z at *
    generalize rfN who what nc (s, b) = q at *
    by_cases c : z.2.2.1 2 = 0
    · have hl := SR.lower hL.2.2.2.1 z2 z3 c (by rw [z4 c]; exact hme)
      exact dr_e hL hM k z.1 z.2.1 z.2.2.1 z.2.2.2.1 z.2.2.2.2.1 z.2.2.2.2.2 q.1 q.2 hl z3 c
    · have hq : ¬ q.1 22 = 0 := by rw [show q.1 22 = z.2.2.1 2 from z2.2.2.2.2.2.2.1 2 (by decide)]; exact c
      have g1 : drS tr pa ne dn va nc k z = z := by
        cases k with
        | zero => rfl
        | succ k => exact if_neg (by rw [dGo_f c]; decide)
      have g2 : rfS who what nc k q = q := by
        cases k with
        | zero => rfl
        | succ k => exact if_neg hq
      rw [g1, g2]
      exact z2
theorem cl_drift {M : Nat} {μ : zH} {x : Int32} (hM : M < 1000) (h : WI M μ) : CL M μ mi_X10_drift mi_X11_drift [.inl x] := by
  obtain ⟨np, nc, kw, kc, kb, kn, hH, hT, hL, hS, hMm, hN⟩ := h
  have hH0 := hH
  obtain ⟨⟨p1, c1, -⟩, ⟨p2, c2, -⟩, -, hp4, hc8, -⟩ := hH
  have hgo := SR.go hp4 hS
  have hI : dI (μ 69) (μ 70) nc (fun s => s 22 = 0 → ∃ po me lo ce pt c13 b : Nat → Int32, SR np nc M (μ 24) (μ 25) po me lo ce pt (c13 3) s b ∧ ¬ ce 0 = -1 ∧ ce 2 = 0) := by
    intro s hs h22
    obtain ⟨po, me, lo, ce, pt, c13, b, s1, s2, s3⟩ := hs h22
    have hD : DR np nc M ce s := by
      rcases s1.2.2.2.2.2.2.2 with g | g
      · exact absurd g.1 s2
      · exact g.1
    obtain ⟨⟨sd', z1, z2⟩, z3, z4, z5⟩ := dr_step hL.1 rfl s1 hM s2 s3
    have hRB := hD.RB hp4 hc8 (by omega)
    refine ⟨⟨hRB.1, hRB.2, z5⟩, fun b' h22' => ?_⟩
    have c : (drN (μ 2) (μ 3) (μ 4) (μ 24) (μ 25) nc (c13, pt, ce, lo, me, po)).2.2.1 2 = 0 := (z2.2.2.2.2.2.2.1 2 (by decide)).symm.trans h22'
    subst z1
    refine ⟨_, _, _, _, _, _, _, SR.lower hp4 z2 z3 c (by rw [z4 c]; exact s1.2.2.1), z3, c⟩
  have his : ¬ a_X11_goesOn (μ 72) = 0 → (fun s : Nat → Int32 => s 22 = 0 → ∃ po me lo ce pt c13 b : Nat → Int32, SR np nc M (μ 24) (μ 25) po me lo ce pt (c13 3) s b ∧ ¬ ce 0 = -1 ∧ ce 2 = 0) (μ 72) := by
    intro q _
    rcases hgo with g | ⟨-, -, g3, g4, -⟩
    · exact absurd g.1 q
    · exact ⟨_, _, _, _, _, μ 13, _, hS, g3, g4⟩
  have g34 : ¬ a_X11_goesOn (μ 72) = 0 → ¬ μ 21 0 = -1 ∧ μ 21 2 = 0 := fun q => by
    rcases hgo with g | ⟨-, -, g3, g4, -⟩
    · exact absurd g.1 q
    · exact ⟨g3, g4⟩
  have key := fun n (q : ¬ a_X11_goesOn (μ 72) = 0) => dr_e hL.1 hM n (μ 13) (μ 22) (μ 21) (μ 17) (μ 16) (μ 15) (μ 72) (μ 74) hS (g34 q).1 (g34 q).2
  refine cl_mk (fun l X => e_X10_drift (d := 22) c1 hc8) (fun l X => e_X11_drift2 (d := 20) c2 hc8 hL.1.2.2.1 hI his) ?_ ?_
  · show a_X11_drift (μ 69) (μ 70) (μ 72) (μ 74) x nc = a_X10_drift (μ 2) (μ 3) (μ 4) (μ 13) (μ 15) (μ 16) (μ 17) (μ 21) (μ 22) (μ 24) (μ 25) x nc
    unfold a_X11_drift a_X10_drift
    rcases rg1 x (b := 40) (n := 40) rfl (by decide) with ⟨r1, r2⟩ | ⟨n, h1, h40, rfl, r1, r2, r3⟩
    · rw [if_pos r1]
      rcases r2 with r2 | ⟨r2, r3⟩
      · rw [if_pos r2]
      · rw [if_neg r2, if_neg r3]
    rw [if_neg r1, if_neg r2, if_pos r3]
    by_cases q : a_X11_goesOn (μ 72) = 0
    · rcases hgo with ⟨g1, g2⟩ | g
      · rw [if_pos q, g2, if_pos (show bz false = 0 from rfl)]
      · exact absurd q g.1
    · have hk := key n q
      rcases hgo with g | g
      · exact absurd g.1 q
      rw [if_neg q, g.2.1, if_neg (show ¬ bz true = 0 by decide), nI_clamp (show n < 2 ^ 31 by omega)]
      exact hk.res (i := 2) (by decide)
  · refine ⟨np, nc, kw, kc, kb, kn, hH0, hT, hL, ?_, WM.mono hMm (Nat.le_succ _), hN⟩
    show SR np nc (M + 1) (μ 24) (μ 25) (w_X10_drift_15 (μ 2) (μ 3) (μ 4) (μ 13) (μ 15) (μ 16) (μ 17) (μ 21) (μ 22) (μ 24) (μ 25) x nc) (w_X10_drift_16 (μ 2) (μ 3) (μ 4) (μ 13) (μ 15) (μ 16) (μ 17) (μ 21) (μ 22) (μ 24) (μ 25) x nc) (w_X10_drift_17 (μ 2) (μ 3) (μ 4) (μ 13) (μ 15) (μ 16) (μ 17) (μ 21) (μ 22) (μ 24) (μ 25) x nc) (w_X10_drift_21 (μ 2) (μ 3) (μ 4) (μ 13) (μ 15) (μ 16) (μ 17) (μ 21) (μ 22) (μ 24) (μ 25) x nc) (w_X10_drift_22 (μ 2) (μ 3) (μ 4) (μ 13) (μ 15) (μ 16) (μ 17) (μ 21) (μ 22) (μ 24) (μ 25) x nc) (w_X10_drift_13 (μ 2) (μ 3) (μ 4) (μ 13) (μ 15) (μ 16) (μ 17) (μ 21) (μ 22) (μ 24) (μ 25) x nc 3) (w_X11_drift_72 (μ 69) (μ 70) (μ 72) (μ 74) x nc) (w_X11_drift_74 (μ 69) (μ 70) (μ 72) (μ 74) x nc)
    unfold w_X10_drift_15 w_X10_drift_16 w_X10_drift_17 w_X10_drift_21 w_X10_drift_22 w_X10_drift_13 w_X11_drift_72 w_X11_drift_74
    have hS1 := SR.mono hS (Nat.le_succ M)
    rcases rg1 x (b := 40) (n := 40) rfl (by decide) with ⟨r1, r2⟩ | ⟨n, h1, h40, rfl, r1, r2, r3⟩
    · simp only [if_pos r1]
      rcases r2 with r2 | ⟨r2, r3⟩
      · simp only [if_pos r2]; exact hS1
      · simp only [if_neg r2, if_neg r3]; exact hS1
    simp only [if_neg r1, if_neg r2, if_pos r3, nI_clamp (show n < 2 ^ 31 by omega)]
    by_cases q : a_X11_goesOn (μ 72) = 0
    · rcases hgo with ⟨g1, g2⟩ | g
      · have z : bz (dGo (μ 21)) = 0 := by rw [g2]; rfl
        simp only [if_pos q, if_pos z]; exact hS1
      · exact absurd q g.1
    · have hk := key n q
      rcases hgo with g | g
      · exact absurd g.1 q
      have z : ¬ bz (dGo (μ 21)) = 0 := by rw [g.2.1]; decide
      simp only [if_neg q, if_neg z]
      exact hk
