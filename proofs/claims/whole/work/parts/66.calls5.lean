theorem cl_duellist {M : Nat} {μ : zH} {x w : Int32} (h : WI M μ) : CL M μ mi_X10_duellist mi_X11_duellist [.inl x, .inl w] := by
  have h0 := h
  obtain ⟨np, nc, kw, kc, kb, kn, hH, hT, hL, hS, -⟩ := h0
  obtain ⟨⟨p1, c1, -⟩, ⟨p2, c2, -⟩, -, hp4, hc8, -⟩ := hH
  refine cl_pure h (fun l X => e_X10_duellist (d := 22)) (fun l X => e_X11_duellist (d := 25) p2 hp4) rfl ?_
  have hE := hS.2.2.2.2.2.2.1
  unfold a_X10_duellist a_X11_duellist
  rcases pers (x := x) (f := μ 1) (g := upd (μ 67) 0 0) hp4 p1 p2 with ⟨q1, q2⟩ | ⟨a, ha, rfl, q1, q2⟩
  · rw [if_pos q1, if_pos q2]
  rw [if_neg q1, if_neg q2]
  rcases rg0 w (b := 14) (n := 14) rfl (by decide) with ⟨r1, r2⟩ | ⟨k, hk, rfl, r1, r2, r3⟩
  · rw [if_pos r1]
    rcases r2 with r2 | ⟨r2, r3⟩
    · rw [if_pos r2]
    · rw [if_neg r2, if_neg r3]
  rw [if_neg r1, if_neg r2, if_pos r3]
  have g2 : ((2 : Int32) ≤ nI k) = (2 ≤ k) := le_n (k := 2) (by decide) (by omega)
  have g6 : ((6 : Int32) ≤ nI k) = (6 ≤ k) := le_n (k := 6) (by decide) (by omega)
  have g8 : ((8 : Int32) ≤ nI k) = (8 ≤ k) := le_n (k := 8) (by decide) (by omega)
  have g11 : ((11 : Int32) ≤ nI k) = (11 ≤ k) := le_n (k := 11) (by decide) (by omega)
  have e6 : (nI k = (6 : Int32)) = (k = 6) := eq_n (n := 6) (by omega) (by decide)
  have e7 : (nI k = (7 : Int32)) = (k = 7) := eq_n (n := 7) (by omega) (by decide)
  have e8 : (nI k = (8 : Int32)) = (k = 8) := eq_n (n := 8) (by omega) (by decide)
  have e9 : (nI k = (9 : Int32)) = (k = 9) := eq_n (n := 9) (by omega) (by decide)
  have e10 : (nI k = (10 : Int32)) = (k = 10) := eq_n (n := 10) (by omega) (by decide)
  unfold a_X10_inDuel
  simp only [g2, g6, g8, g11, e6, e7, e8, e9, e10, nI_clamp (show a < 2 ^ 31 by omega), nI_clamp (show k < 2 ^ 31 by omega)]
  by_cases b2 : 2 ≤ k
  · rw [if_pos b2, if_pos b2]
    by_cases b6 : 6 ≤ k
    · simp only [if_pos b6]
      by_cases d6 : k = 6
      · subst d6
        rw [if_neg (by decide), if_pos rfl, if_pos rfl, rA_n (by omega) (by decide)]
        exact (hS.1.1 a ha).1
      simp only [if_neg d6]
      by_cases d7 : k = 7
      · subst d7
        rw [if_neg (by decide), if_pos rfl, rA_n (by omega) (by decide)]
        exact hS.2.1.1 a (by omega)
      simp only [if_neg d7]
      rw [if_pos (show 8 ≤ k by omega)]
      obtain ⟨s1, s2⟩ := hS.side hp4 ha
      rw [s1]
      rcases s2 with s2 | ⟨o, ho, s2⟩
      · rw [s2, if_pos rfl, if_pos rfl]
      rw [s2, if_neg (nI_nm1 (by omega)), if_neg (nI_nm1 (by omega)), nI_clamp (show o < 2 ^ 31 by omega)]
      have i6 : (6 : Int32) + nI o = nI (6 + o) := nI_add 6 _
      have i8 : (8 : Int32) + nI o = nI (8 + o) := nI_add 8 _
      have i10 : (10 : Int32) + nI o = nI (10 + o) := nI_add 10 _
      by_cases b11 : 11 ≤ k
      · have i11 : nI k - (11 : Int32) = nI (k - 11) := pk_sub (b := 11) b11
        rw [if_pos b11, if_neg (by omega), if_neg (by omega), if_neg (by omega), i11, dTold_n ho (by omega), show 33 + 4 * o + k - 11 = qx (12 + 4 * o + (k - 11)) by unfold qx; rw [if_neg (by omega)]; omega]
        exact hE _ (by omega)
      rw [if_neg b11]
      by_cases d8 : k = 8
      · subst d8
        rw [if_pos rfl, i6, cell_n (by omega), show 27 + 2 * (8 - 8) + o = qx (6 + o) by unfold qx; rw [if_neg (by omega)]; omega]
        exact hE _ (by omega)
      by_cases d9 : k = 9
      · subst d9
        rw [if_neg (by decide), if_pos rfl, i8, cell_n (by omega), show 27 + 2 * (9 - 8) + o = qx (8 + o) by unfold qx; rw [if_neg (by omega)]; omega]
        exact hE _ (by omega)
      have d10 : k = 10 := by omega
      subst d10
      rw [if_neg (by decide), if_neg (by decide), if_pos rfl, i10, cell_n (by omega), show 27 + 2 * (10 - 8) + o = qx (10 + o) by unfold qx; rw [if_neg (by omega)]; omega]
      exact hE _ (by omega)
    · have i2 : nI k - (2 : Int32) = nI (k - 2) := pk_sub (b := 2) b2
      rw [if_neg b6, if_neg (by omega), if_neg b6, i2, vanO_e (by omega) (by omega), show 4 + 4 * a + k - 2 = 4 + 4 * a + (k - 2) by omega]
      exact (hS.1.2 a (k - 2) ha (by omega)).1
  · rw [if_neg b2, if_neg b2, trait_e (by omega) (by omega)]
    exact ((hL.1.1 a ha).1 k (by omega)).symm
theorem wr_c {x : Int32} {nc kb : Nat} {f1 f54 f67 f57 f80 : Nat → Int32} (hc8 : nc ≤ 8) (hc1 : f1 1 = nI nc) (hc2 : f67 11 = nI nc) (hb1 : f54 6 = nI kb) (hb2 : f67 28 = nI kb) (hk20 : kb ≤ 20) :
    (∃ e, a_X10_write f1 f54 x = e ∧ a_X11_write f67 x = e ∧ w_X10_write_57 f1 f54 f57 x = f57 ∧ w_X10_write_54 f1 f54 x = f54 ∧ w_X11_write_80 f67 f80 x kb = f80 ∧ w_X11_write_67 f67 x = upd f67 0 0) ∨
    (kb < 20 ∧ (x = 9 ∨ x = 8 ∨ nb x nc) ∧ a_X10_write f1 f54 x = nI (kb + 1) ∧ a_X11_write f67 x = nI (kb + 1) ∧ w_X10_write_57 f1 f54 f57 x = upd f57 kb x ∧ w_X10_write_54 f1 f54 x = upd f54 6 (nI (kb + 1)) ∧ w_X11_write_80 f67 f80 x kb = upd f80 kb x ∧ w_X11_write_67 f67 x = upd (upd f67 0 0) 28 (nI (kb + 1))) := by
  unfold a_X10_write a_X11_write w_X10_write_57 w_X10_write_54 w_X11_write_80 w_X11_write_67
  have l20 : (nI kb < 20) = (kb < 20) := lt_n (n := 20) (by omega) (by decide)
  have e20 : (nI kb = 20) = (kb = 20) := eq_n (n := 20) (by omega) (by decide)
  have ad : nI kb + 1 = nI (kb + 1) := nI_add kb 1
  simp only [hb1, hb2, l20, e20, ad]
  rcases rg0 x (b := 9) (n := 9) rfl (by decide) with ⟨r1, r2⟩ | ⟨k, hk, rfl, r1, r2, r3⟩
  · have i7 : a_X11_in x 0 7 = 0 := by
      rw [inX] at r1 ⊢
      refine if_neg (fun q => ?_)
      rw [if_pos ⟨q.1, Int32.le_trans q.2 (by decide)⟩] at r1
      exact absurd r1 (by decide)
    refine Or.inl ⟨-1000000002, ?_⟩
    rcases r2 with r2 | ⟨r2, r3⟩
    · simp only [if_pos r1, if_pos i7, if_pos r2, and_self]
    · have g8 : 8 ≤ x := Int32.le_of_lt (Int32.lt_of_lt_of_le (show (8 : Int32) < 9 by decide) (Int32.le_of_lt (Int32.not_le.mp r3)))
      simp only [if_pos r1, if_pos i7, if_neg r2, if_neg r3, if_pos g8, and_self]
  have g8 : ((8 : Int32) ≤ nI k) = (8 ≤ k) := le_n (k := 8) (by decide) (by omega)
  have i7 : (a_X11_in (nI k) 0 7 = 0) = (8 ≤ k) := by
    rw [inX]
    have a0 : (0 : Int32) ≤ nI k := Int32.not_lt.mp r2
    have a7 : (nI k ≤ (7 : Int32)) = (k ≤ 7) := le_n (n := 7) (by omega) (by decide)
    simp only [a7]
    by_cases q : k ≤ 7
    · rw [if_pos ⟨a0, q⟩]; simp; omega
    · rw [if_neg (fun z => q z.2)]; simp; omega
  simp only [g8, i7, if_neg r1, if_neg r2, if_pos r3]
  by_cases q8 : 8 ≤ k
  · simp only [if_pos q8]
    by_cases q : kb = 20
    · have q' : ¬ kb < 20 := by omega
      refine Or.inl ⟨-1000000004, ?_⟩
      simp only [if_pos q, if_neg q', and_self]
    · have q' : kb < 20 := by omega
      refine Or.inr ⟨q', ?_, ?_⟩
      · rcases (by omega : k = 8 ∨ k = 9) with rfl | rfl
        · exact Or.inr (Or.inl rfl)
        · exact Or.inl rfl
      · simp only [if_neg q, if_pos q', and_self, and_true, rP_n q' (show 20 < 2 ^ 31 by decide)]
  · simp only [if_neg q8]
    rcases phra (x := nI k) (f := f1) (g := upd f67 0 0) hc8 hc1 hc2 with ⟨s1, s2⟩ | ⟨c, hc, hx, s1, s2⟩
    · refine Or.inl ⟨-1000000001, ?_⟩
      simp only [if_pos s1, if_pos s2, and_self]
    simp only [if_neg s1, if_neg s2]
    by_cases q : kb = 20
    · have q' : ¬ kb < 20 := by omega
      refine Or.inl ⟨-1000000004, ?_⟩
      simp only [if_pos q, if_neg q', and_self]
    · have q' : kb < 20 := by omega
      refine Or.inr ⟨q', Or.inr (Or.inr ?_), ?_⟩
      · rw [hx]; exact nb_i hc (by omega)
      · simp only [if_neg q, if_pos q', and_self, and_true, rP_n q' (show 20 < 2 ^ 31 by decide)]
theorem cl_write {M : Nat} {μ : zH} {x : Int32} (h : WI M μ) : CL M μ mi_X10_write mi_X11_write [.inl x] := by
  have hW := h
  obtain ⟨np, nc, kw, kc, kb, kn, hH, hT, hL, hS, hMm, hN⟩ := h
  obtain ⟨⟨p1, c1, w1, k1, b1, n1⟩, ⟨p2, c2, w2, k2, b2, n2⟩, hf, hp4, hc8, hw12, hk4, hb20, hn250⟩ := hH
  refine cl_mk (μ2 := (zhs (zhs (zhs (zhs μ 57 (w_X10_write_57 (μ 1) (μ 54) (μ 57) x)) 54 (w_X10_write_54 (μ 1) (μ 54) x)) 80 (w_X11_write_80 (μ 67) (μ 80) x kb)) 67 (w_X11_write_67 (μ 67) x))) (a10 := a_X10_write (μ 1) (μ 54) x) (a11 := a_X11_write (μ 67) x) (fun l X => e_X10_write (d := 26)) (fun l X => e_X11_write (d := 25) b2 hb20) ?_ ?_
  · rcases wr_c (x := x) (f1 := μ 1) (f54 := μ 54) (f67 := μ 67) (f57 := μ 57) (f80 := μ 80) hc8 c1 c2 b1 b2 hb20 with ⟨e, e1, e2, -⟩ | ⟨-, -, e1, e2, -⟩
    · rw [e1, e2]
    · rw [e1, e2]
  rcases wr_c (x := x) (f1 := μ 1) (f54 := μ 54) (f67 := μ 67) (f57 := μ 57) (f80 := μ 80) hc8 c1 c2 b1 b2 hb20 with ⟨e, e1, e2, a1, a2, a3, a4⟩ | ⟨hk, hx, e1, e2, a1, a2, a3, a4⟩
  · exact WI.same4 hW a1 a2 a3 a4
  rw [a1, a2, a3, a4]
  refine ⟨np, nc, kw, kc, kb + 1, kn, ⟨⟨p1, c1, w1, k1, rfl, n1⟩, ⟨p2, c2, w2, k2, rfl, n2⟩, hf, hp4, hc8, hw12, hk4, by omega, hn250⟩, hT, hL, SR.mono hS (Nat.le_succ _), WM.mono hMm (Nat.le_succ _), hN.1, hN.2.1, ?_⟩
  intro j hj
  show upd (μ 57) kb x j = upd (μ 80) kb x j ∧ (upd (μ 80) kb x j = 9 ∨ upd (μ 80) kb x j = 8 ∨ nb (upd (μ 80) kb x j) nc)
  by_cases e : j = kb
  · subst e; rw [ups, ups]; exact ⟨rfl, hx⟩
  · rw [upn e, upn e]; exact hN.2.2 j (by omega)
theorem first_e {np nc : Nat} {tr pa ne who what dn va s : Nat → Int32} (hL : LR np nc tr pa ne who what) (hF : FR np dn va s) {c a : Nat} (hc : c < nc) (ha : a < np) : effN pa ne dn va (nI c) (nI a) 0 = a_X11_firstTold what s c a ∧ nb (effN pa ne dn va (nI c) (nI a) 0) 82 := by
  have hp4 := hL.2.2.2.1
  have hc8 := hL.2.2.2.2
  obtain ⟨tp, htp4, htp⟩ := nb_e (hL.2.2.1 c (by omega))
  have hv := hF.2 a tp ha htp4
  have hpt : part pa (nI c) 0 = nI tp := by
    show part pa (nI c) (nI 0) = _
    rw [part_e (by omega) (by decide), (hL.2.1 c hc).1 0 (by decide)]; exact htp
  have kt : (nI tp).toNatClampNeg = tp := nI_clamp (by omega)
  unfold effN a_X11_firstTold
  rw [hpt, htp, kt, vanO_e (by omega) htp4, ← hv.1]
  exact effB_e (k := 0) hL hF hc ha hv.2 (by decide)
theorem bc_n : ∀ k, k < 256 → bc (nI k) = nI (cb k) := by decide +kernel
theorem cb_p : ∀ k, k < 16 → ∀ i, i < 4 → k / 2 ^ i % 2 = 1 → 0 < cb k := by decide +kernel
theorem sh_e {np nc : Nat} {tr pa ne who what dn va s : Nat → Int32} (hL : LR np nc tr pa ne who what) (hF : FR np dn va s) {c k : Nat} (hc : c < nc) (hk : k < 16) : ∀ n, n ≤ np → shS pa ne dn va (nI c) (nI k) np n = shR what s c (nI k) 0 n
  | 0, _ => rfl
  | n + 1, hn => by
    have ih := sh_e hL hF hc hk n (by omega)
    have hp4 := hL.2.2.2.1
    have h8 := cb_8 k (by omega)
    show (if 0 < bc (nI k) ∧ (nI k >>> (nI n &&& 31)) &&& 1 = 1 then shS pa ne dn va (nI c) (nI k) np n + effN pa ne dn va (nI c) (nI n) 0 / bc (nI k) else shS pa ne dn va (nI c) (nI k) np n) = shR_F what s c (nI k) n (shR what s c (nI k) 0 n)
    unfold shR_F
    rw [ih, bc_n k (by omega), ones_n (by omega), nI_bit (by omega) (by omega), (first_e hL hF hc (show n < np by omega)).1]
    have hb : (nI (k / 2 ^ n % 2) = 1) = (k / 2 ^ n % 2 = 1) := eq_n (n := 1) (by omega) (by decide)
    have hl : ((0 : Int32) < nI (cb k)) = (0 < cb k) := lt_n (k := 0) (by decide) (by omega)
    simp only [hb, hl]
    by_cases q : k / 2 ^ n % 2 = 1
    · rw [if_pos ⟨cb_p k hk n (by omega) q, q⟩, if_pos q]
    · rw [if_neg (fun z => q z.2), if_neg q, Int32.add_zero]
theorem cl_shared {M : Nat} {μ : zH} {x z : Int32} (h : WI M μ) : CL M μ mi_X10_shared mi_X11_shared [.inl x, .inl z] := by
  have h0 := h
  obtain ⟨np, nc, kw, kc, kb, kn, hH, hT, hL, hS, -⟩ := h0
  obtain ⟨⟨p1, c1, -⟩, ⟨p2, c2, -⟩, -, hp4, hc8, -⟩ := hH
  have hpw : (2 : Nat) ^ np ≤ 2 ^ 4 := pw_le hp4
  have hpp : 0 < (2 : Nat) ^ np := Nat.pow_pos (by decide)
  have eb : (1 : Int32) <<< (nI np &&& 31) = nI (2 ^ np) := bit1 (by omega)
  have em : nI (2 ^ np) - 1 = nI (2 ^ np - 1) := pk_sub (b := 1) hpp
  have hrg := rg0 z (b := nI (2 ^ np - 1)) (n := 2 ^ np - 1) rfl (by omega)
  have hlt : (z < nI (2 ^ np)) = (z ≤ nI (2 ^ np - 1)) := by
    have := lt_le (x := z) (n := 2 ^ np - 1) (by omega)
    rw [show 2 ^ np - 1 + 1 = 2 ^ np by omega] at this
    exact this
  have h67 : w_X11_shared_67 (μ 67) x z = upd (μ 67) 0 0 := by unfold w_X11_shared_67; simp only [ite_self]
  refine cl_pure h (fun l X => e_X10_shared (d := 24) p1 hp4) (fun l X => e_X11_shared (d := 21) p2 hp4 c2 hc8 hL.1.2.2.1 ?_) h67 ?_
  · intro i hi hb hin
    rw [p2, eb, em] at hin
    rcases hrg with ⟨r1, -⟩ | ⟨k, hk, rfl, -⟩
    · exact absurd r1 hin
    rw [nI_bit (by omega) (by omega)] at hb
    have hb' := (nI_eq (b := 1) (by omega) (by decide)).mp hb
    rw [ones_n (by omega)]
    have := cb_p k (by omega) i (by omega) hb'
    have h8 := cb_8 k (by omega)
    exact fun q => by have := (nI_eq (b := 0) (by omega) (by decide)).mp q; omega
  · unfold a_X10_shared a_X11_shared
    rcases phra (x := x) (f := μ 1) (g := upd (μ 67) 0 0) hc8 c1 c2 with ⟨q1, q2⟩ | ⟨c, hc, rfl, q1, q2⟩
    · rw [if_pos q1, if_pos q2]
    rw [if_neg q1, if_neg q2, p1, p2, eb, em]
    simp only [hlt]
    rcases hrg with ⟨r1, r2⟩ | ⟨k, hk, rfl, r1, r2, r3⟩
    · rw [if_pos r1]
      rcases r2 with r2 | ⟨r2, r3⟩
      · rw [if_pos r2]
      · rw [if_neg r2, if_neg r3]
    rw [if_neg r1, if_neg r2, if_pos r3, nI_clamp (show c < 2 ^ 31 by omega)]
    exact (sh_e hL.1 hS.1 hc (by omega) np (Nat.le_refl _)).symm
