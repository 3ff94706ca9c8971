/-- as long as the duel goes on, nobody has met once more -/
theorem SR.lower {np nc M N : Nat} {dn va po me lo ce pt s b : Nat → Int32} {sd : Int32} (hp4 : np ≤ 4) (h : SR np nc N dn va po me lo ce pt sd s b) (hd : ¬ ce 0 = -1) (hR : ce 2 = 0) (hm : ∀ p, p < 6 → nb (me p) M) : SR np nc M dn va po me lo ce pt sd s b := by
  obtain ⟨hF, hG, hme, hz, hlo, hsd, hE, hdu⟩ := h
  rcases hdu with ⟨a1, -⟩ | ⟨a1, a2⟩
  · exact absurd a1 hd
  obtain ⟨A, B, hA, hB, hAB, eA, eB⟩ := a1.two hp4
  refine ⟨hF, hG, hm, hz, hlo, hsd, hE, Or.inr ⟨⟨a1.1, a1.2.1, fun p hp => by rw [hG.2.1 p hp]; exact hm p hp⟩, fun t ht => ?_⟩⟩
  obtain ⟨b1, b2, b3, b4, b5⟩ := a2 t ht
  refine ⟨⟨b1.1, b1.2.1, fun p hp => ?_⟩, b2, b3, b4, b5⟩
  have h9 := b5.2.1 p hp
  rw [tb16_e eA eB, if_pos hR] at h9
  rw [h9]; exact hm p hp
theorem dr_step {np nc M : Nat} {tr pa ne who what dn va po me lo ce pt s b c13 : Nat → Int32} {sd : Int32} (hL : LR np nc tr pa ne who what) (h13 : c13 3 = sd) (hS : SR np nc M dn va po me lo ce pt sd s b) (hM : M < 1000) (hd : ¬ ce 0 = -1) (hR : ce 2 = 0) :
    (∃ sd' : Int32, (drN tr pa ne dn va nc (c13, pt, ce, lo, me, po)).1 3 = sd' ∧ SR np nc (M + 1) dn va (drN tr pa ne dn va nc (c13, pt, ce, lo, me, po)).2.2.2.2.2 (drN tr pa ne dn va nc (c13, pt, ce, lo, me, po)).2.2.2.2.1 (drN tr pa ne dn va nc (c13, pt, ce, lo, me, po)).2.2.2.1 (drN tr pa ne dn va nc (c13, pt, ce, lo, me, po)).2.2.1 (drN tr pa ne dn va nc (c13, pt, ce, lo, me, po)).2.1 sd' (rfN who what nc (s, b)).1 (rfN who what nc (s, b)).2) ∧
    ¬ (drN tr pa ne dn va nc (c13, pt, ce, lo, me, po)).2.2.1 0 = -1 ∧ ((drN tr pa ne dn va nc (c13, pt, ce, lo, me, po)).2.2.1 2 = 0 → (drN tr pa ne dn va nc (c13, pt, ce, lo, me, po)).2.2.2.2.1 = me) ∧ ¬ (nI nc - a_X11_ones (s 25) + 1) = 0 := by
  have hp4 := hL.2.2.2.1
  have hc8 := hL.2.2.2.2
  have hS0 := hS
  obtain ⟨hF, hG, hme, hz, hlo, hsd, hE, hdu⟩ := hS
  obtain ⟨hD, hP⟩ : DR np nc M ce s ∧ PA np nc M po me lo ce pt b := by
    rcases hdu with h | h
    · exact absurd h.1 hd
    · exact h
  have hD0 := hD
  obtain ⟨hE', ⟨pn, F, X, W, K, R, T, S, P, hJ, h24⟩, hm⟩ := hD
  have h4 : ce 4 = nI S := hJ.2.2.2.2.1.1
  have hS256 := s256 hJ.2.2.2.2.1.2 hc8
  have hcb := cb_nc nc (by omega) S hJ.2.2.2.2.1.2
  have s25 : s 25 = nI S := (hE 4 (by decide)).trans h4
  have hv0 : ¬ sd < 0 := hsd.2
  obtain ⟨v, hv, hve⟩ : ∃ v, v < 2 ^ 31 ∧ sd = nI v := by
    have h0 : 0 ≤ sd.toInt := by
      have := Int32.not_lt.mp hv0
      have := Int32.le_iff_toInt_le.mp this
      have e0 : (0 : Int32).toInt = 0 := rfl
      omega
    have h1 := Int32.toInt_lt sd
    refine ⟨sd.toInt.toNat, by omega, ?_⟩
    refine Int32.toInt_inj.mp ?_
    rw [nI_toInt (by omega)]
    omega
  have hcnt : dUC ce nc = nI (nc - cb S) := by rw [dUC_n h4 hS256 nc hc8, un_c nc (by omega) S hJ.2.2.2.2.1.2]
  have hcnt1 : dUC ce nc + 1 = nI (nc - cb S + 1) := by rw [hcnt]; exact nI_add _ 1
  have hon : nI nc - a_X11_ones (s 25) + 1 = nI (nc - cb S + 1) := by
    rw [s25, ones_n (by omega), pk_sub hcb]; exact nI_add _ 1
  have hs63 : s 63 = nI v := hsd.1.trans hve
  have h0n : (0 : Int32) < nI (nc - cb S + 1) := nI_lt (a := 0) (by omega) (by omega)
  have hdr : drw (c13 3) (dUC ce nc + 1) = a_X11_draw s (nI nc - a_X11_ones (s 25) + 1) := by
    unfold drw a_X11_draw
    rw [h13, hcnt1, hon, if_pos h0n, hs63, hve, sdr_e, sd1_e hv]
  have hw : w_X11_draw_72 s = upd s 63 (nI ((v * 1103515245 + 12345) % 2147483648)) := by
    unfold w_X11_draw_72
    rw [hs63, sdr_e]
  obtain ⟨u1, u2⟩ := uA_e (s := w_X11_draw_72 s) h4 hS256 (by rw [hw, upn (by decide)]; exact s25) nc 0 (drw (c13 3) (dUC ce nc + 1)) (by omega)
  have hrt : rfT nc s = drt nc (c13, pt, ce, lo, me, po) := by
    unfold rfT a_X11_unsaid drt
    rw [← hdr]
    exact u1
  have hLT : LT nc ce (drt nc (c13, pt, ce, lo, me, po)) := by
    unfold drt
    rcases u2 with u2 | ⟨k, k1, k2, k3⟩
    · exact Or.inl u2
    · exact Or.inr (Or.inr ⟨k, by omega, k2, by rw [h4, nI_clamp (by omega)]; exact k3⟩)
  have hvm : (v * 1103515245 + 12345) % 2147483648 < 2 ^ 31 := Nat.mod_lt _ (by decide)
  have hnn : ¬ nI ((v * 1103515245 + 12345) % 2147483648) < 0 := by
    generalize (v * 1103515245 + 12345) % 2147483648 = w at *
    rw [Int32.lt_iff_toInt_lt, nI_toInt hvm]
    have e0 : (0 : Int32).toInt = 0 := rfl
    omega
  have hSs := SR.play hL (SR.seed hp4 hS0 hnn) hM hd hR hLT
  have hok := turn_ok hL hF hD0 (by omega) hR hLT
  refine ⟨⟨nI ((v * 1103515245 + 12345) % 2147483648), ?_, ?_⟩, ?_, ?_, ?_⟩
  · show upd c13 3 (sd1 (c13 3)) 3 = _
    rw [ups, h13, hve, sd1_e hv]
  · unfold rfN
    rw [hrt]
    show SR np nc (M + 1) dn va _ _ _ _ _ _ (w_X11_does_72 who what (w_X11_draw_72 s) (drt nc (c13, pt, ce, lo, me, po))) (w_X11_does_74 (w_X11_draw_72 s) b)
    rw [hw]
    exact hSs
  · show ¬ dPl tr pa ne dn va ce (drt nc (c13, pt, ce, lo, me, po)) 0 = -1
    rw [hok.2.2.2.1 0 (by decide)]
    exact hd
  · intro q
    show pt16 tr pa ne dn va ce me (drt nc (c13, pt, ce, lo, me, po)) = me
    unfold pt16
    exact if_pos ((cell_n (i := 2) (by decide)).trans q)
  · rw [hon]
    exact fun q => by have := (nI_eq (b := 0) (by omega) (by decide)).mp q; omega
