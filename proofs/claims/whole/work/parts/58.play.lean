theorem dRem_n {ce pt : Nat → Int32} {T : Nat} (h : ce 3 = nI T) (hT : T < 40) : dRem ce pt = fun k => if 20 * T ≤ k ∧ k < 20 * T + 20 then ce (k - 20 * T) else pt k := by
  have e : cell ce 3 * 20 = nI (20 * T) := by
    show cell ce (nI 3) * nI 20 = _
    rw [cell_n (by decide), h, pk_mul, Nat.mul_comm]
  unfold dRem
  rw [e, nI_toInt (by omega), nI_clamp (by omega), if_pos ⟨by omega, by omega⟩]
  funext k
  unfold va_cpy
  by_cases c : 20 * T ≤ k ∧ k < 20 * T + 20
  · rw [if_pos c, if_pos c, Nat.zero_add]
  · rw [if_neg c, if_neg c]
theorem tb15_e {ce po : Nat → Int32} {A B : Nat} (hA : ce 0 = nI A) (hB : ce 1 = nI B) : tb15 ce po = if ce 2 = 0 then po else luP po (nI A) (nI B) (ce 2) := by
  unfold tb15
  rw [show cell ce 2 = ce 2 from cell_n (i := 2) (by decide), show dPer ce 0 = ce 0 from dPer_n (i := 0) (by decide), show dPer ce 1 = ce 1 from dPer_n (i := 1) (by decide), hA, hB]
theorem tb16_e {ce me : Nat → Int32} {A B : Nat} (hA : ce 0 = nI A) (hB : ce 1 = nI B) : tb16 ce me = if ce 2 = 0 then me else luM me (nI A) (nI B) := by
  unfold tb16
  rw [show cell ce 2 = ce 2 from cell_n (i := 2) (by decide), show dPer ce 0 = ce 0 from dPer_n (i := 0) (by decide), show dPer ce 1 = ce 1 from dPer_n (i := 1) (by decide), hA, hB]
theorem lo_nb {lo me : Nat → Int32} {a b m : Nat} {z : Int32} (ha : a < 4) (hb : b < 4) (hab : a ≠ b) (hm : me (prN a b) = nI m) (hm9 : m < 1999) (h : ∀ p k, p < 6 → k < 2 → k < (me p).toNatClampNeg → nb (lo (2 * p + k)) 3) : ∀ p k, p < 6 → k < 2 → k < (lcM me (nI a) (nI b) p).toNatClampNeg → nb (lcL lo me (nI a) (nI b) z (2 * p + k)) 3 := by
  intro p k hp hk hkm
  rw [lcM_n ha hb hab] at hkm
  rw [lcL_n ha hb hab hm (by omega)]
  have hsc : ∀ x : Int32, x = 0 ∨ x = 1 ∨ x = 2 → nb x 3 ∧ nb (2 - x) 3 := by
    intro x hx
    rcases hx with rfl | rfl | rfl
    · exact ⟨⟨by decide, rfl⟩, ⟨by decide, rfl⟩⟩
    · exact ⟨⟨by decide, rfl⟩, ⟨by decide, rfl⟩⟩
    · exact ⟨⟨by decide, rfl⟩, ⟨by decide, rfl⟩⟩
  by_cases c : m < 2
  · rw [if_pos c]
    by_cases d : 2 * p + k = 2 * prN a b + m
    · rw [d, ups]
      split
      · exact (hsc _ (sc_3 z)).1
      · exact (hsc _ (sc_3 z)).2
    · rw [upn d]
      refine h p k hp hk ?_
      by_cases e : p = prN a b
      · subst e
        rw [ups, hm, nI_1, nI_clamp (by omega)] at hkm
        rw [hm, nI_clamp (by omega)]
        omega
      · rw [upn e] at hkm; exact hkm
  · rw [if_neg c]
    refine h p k hp hk ?_
    by_cases e : p = prN a b
    · subst e; rw [hm, nI_clamp (by omega)]; omega
    · rw [upn e] at hkm; exact hkm
theorem hg_lt0 : ∀ n, n < 5 → ∀ a, a < 4 → ∀ b, b < 4 → (a ≠ b ∧ a < n ∧ b < n → hg (prN a b) < nI n) := by decide +kernel
theorem hg_lt (a : Nat) (ha : a < 4) (b : Nat) (hb : b < 4) (hab : a ≠ b) (n : Nat) (hn : n < 5) (h1 : a < n) (h2 : b < n) : hg (prN a b) < nI n := hg_lt0 n hn a ha b hb ⟨hab, h1, h2⟩
/-- a turn that may be, in a scene -/
theorem SR.play {np nc M : Nat} {tr pa ne who what dn va po me lo ce pt s b : Nat → Int32} {sd t : Int32} (hL : LR np nc tr pa ne who what) (hS : SR np nc M dn va po me lo ce pt sd s b) (hM : M < 1000) (hd : ¬ ce 0 = -1) (hR : ce 2 = 0) (ht : LT nc ce t) :
    SR np nc (M + 1) dn va (pt15 tr pa ne dn va ce po t) (pt16 tr pa ne dn va ce me t) (pt17 tr pa ne dn va ce me lo t) (plN tr pa ne dn va ce t) (dRem ce pt) sd (w_X11_does_72 who what s t) (w_X11_does_74 s b) := by
  have hp4 := hL.2.2.2.1
  have hc8 := hL.2.2.2.2
  obtain ⟨hF, hG, hme, hz, hlo, hsd, hE, hdu⟩ := hS
  obtain ⟨hD, hP⟩ : DR np nc M ce s ∧ PA np nc M po me lo ce pt b := by
    rcases hdu with h | h
    · exact absurd h.1 hd
    · exact h
  obtain ⟨hRB, hU⟩ := hD.RB hp4 hc8 (by omega)
  have ht8 : t = 9 ∨ t = 8 ∨ nb t 8 := by
    rcases ht with h | h | ⟨c, h1, h2, -⟩
    · exact Or.inr (Or.inl h)
    · exact Or.inl h.1
    · exact Or.inr (Or.inr (by rw [h2]; exact nb_i (by omega) (by decide)))
  have hok := turn_ok hL hF hD (by omega) hR ht
  have e72 : w_X11_does_72 who what s t = w_X11_turns_73_73 who what s s t := turn72 hRB hL.2.2.1 ht8
  rw [e72]
  obtain ⟨A, B, hA, hB, hAB, eA, eB⟩ := hD.two hp4
  obtain ⟨hTR, hD1, hD0, hpn, h3⟩ := hok
  obtain ⟨t1, t2, t3, t4⟩ := hTR
  have hT : ∃ T, ce 3 = nI T ∧ T < 35 := by
    obtain ⟨-, ⟨pn, F, X, W, K, R, T, S, P, hJ, -⟩, -⟩ := hD
    exact ⟨T, hJ.2.2.2.1, by have := (hJ.T hc8).1; omega⟩
  obtain ⟨T, hTe, hT35⟩ := hT
  have hplN : plN tr pa ne dn va ce t = dPl tr pa ne dn va ce t := rfl
  have c2 : cell (plN tr pa ne dn va ce t) 2 = dPl tr pa ne dn va ce t 2 := cell_n (i := 2) (by decide)
  have p0 : dPer (plN tr pa ne dn va ce t) 0 = nI A := (dPer_n (i := 0) (by decide)).trans ((hpn 0 (by decide)).trans eA)
  have p1 : dPer (plN tr pa ne dn va ce t) 1 = nI B := (dPer_n (i := 1) (by decide)).trans ((hpn 1 (by decide)).trans eB)
  have e15 : pt15 tr pa ne dn va ce po t = if dPl tr pa ne dn va ce t 2 = 0 then po else lcP po (nI A) (nI B) (dPl tr pa ne dn va ce t 2) := by
    unfold pt15
    rw [c2, p0, p1]
  have e16 : pt16 tr pa ne dn va ce me t = if dPl tr pa ne dn va ce t 2 = 0 then me else lcM me (nI A) (nI B) := by
    unfold pt16
    rw [c2, p0, p1]
  have e17 : pt17 tr pa ne dn va ce me lo t = if dPl tr pa ne dn va ce t 2 = 0 then lo else lcL lo me (nI A) (nI B) (dPl tr pa ne dn va ce t 2) := by
    unfold pt17
    rw [c2, p0, p1]
  have hG' := t4 po me lo hG (fun p hp => nb_le (hme p hp) (by omega))
  rw [eA, eB] at hG'
  rw [e15, e16, e17, hplN]
  have hA4 : A < 4 := by omega
  have hB4 : B < 4 := by omega
  have hp6 := (pr_e A hA4 B hB4 hAB).2
  obtain ⟨m, hm9, hmm⟩ := nb_e (hme _ hp6)
  have f0 := (hpn 0 (by decide)).trans eA
  have f1 := (hpn 1 (by decide)).trans eB
  have u15 : tb15 (dPl tr pa ne dn va ce t) (if dPl tr pa ne dn va ce t 2 = 0 then po else lcP po (nI A) (nI B) (dPl tr pa ne dn va ce t 2)) = po := by
    rw [tb15_e f0 f1]
    by_cases c : dPl tr pa ne dn va ce t 2 = 0
    · rw [if_pos c, if_pos c]
    · rw [if_neg c, if_neg c, luP_c hA4 hB4 hAB]
  have u16 : tb16 (dPl tr pa ne dn va ce t) (if dPl tr pa ne dn va ce t 2 = 0 then me else lcM me (nI A) (nI B)) = me := by
    rw [tb16_e f0 f1]
    by_cases c : dPl tr pa ne dn va ce t 2 = 0
    · rw [if_pos c, if_pos c]
    · rw [if_neg c, if_neg c, luM_c hA4 hB4 hAB]
  have v15 : tb15 ce po = po := by rw [tb15_e eA eB, if_pos hR]
  have v16 : tb16 ce me = me := by rw [tb16_e eA eB, if_pos hR]
  have hlo' : ∀ q, LGR po me lo q → LGR po me (if dPl tr pa ne dn va ce t 2 = 0 then lo else lcL lo me (nI A) (nI B) (dPl tr pa ne dn va ce t 2)) q := by
    intro q hq
    split
    · exact hq
    · exact hq.lo hA4 hB4 hAB (nb_le (hme _ hp6) (by omega))
  refine ⟨⟨fun d hd => ?_, fun d v hd hv => ?_⟩, hG', fun p hp => ?_, fun p hp hn => ?_, ?_, ⟨?_, hsd.2⟩, t1, Or.inr ⟨hD1, ?_⟩⟩
  · rw [t3 d (by omega)]; exact hF.1 d hd
  · rw [t3 _ (by omega)]; exact hF.2 d v hd hv
  · split
    · exact nb_le (hme p hp) (by omega)
    · rw [lcM_n hA4 hB4 hAB]
      by_cases c : p = prN A B
      · subst c
        rw [ups, hmm, nI_1]
        exact ⟨by rw [nI_clamp (by omega)]; omega, by rw [nI_clamp (by omega)]⟩
      · rw [upn c]; exact nb_le (hme p hp) (by omega)
  · split
    · exact hz p hp hn
    · rw [lcM_n hA4 hB4 hAB]
      by_cases c : p = prN A B
      · subst c
        exact absurd (hg_lt A hA4 B hB4 hAB np (by omega) hA hB) hn
      · rw [upn c]; exact hz p hp hn
  · split
    · exact hlo
    · exact lo_nb hA4 hB4 hAB hmm (by omega) hlo
  · rw [t3 63 (by omega)]; exact hsd.1
  · have eU : (s 23).toNatClampNeg = T := by rw [show s 23 = ce 3 from hE 3 (by decide), hTe, nI_clamp (by omega)]
    intro q hq
    rw [h3, hTe, nI_1, nI_clamp (by omega)] at hq
    rw [u15, u16, dRem_n hTe (by omega)]
    unfold w_X11_does_74
    rw [eU]
    by_cases c : q = T
    · subst c
      have k1 : ∀ i, i < 20 → (if 20 * q ≤ 20 * q + i ∧ 20 * q + i < 20 * q + 20 then ce (20 * q + i - 20 * q) else pt (20 * q + i)) = ce i := by
        intro i hi
        rw [if_pos ⟨by omega, by omega⟩, Nat.add_sub_cancel_left]
      have k2 : ∀ k, k < 64 → cpR b (fun k => s (k - 64 * q)) (64 * q) (64 * q + 64) (64 * q + k) = s k := by
        intro k hk
        unfold cpR
        rw [if_pos ⟨by omega, by omega⟩]
        show s (64 * q + k - 64 * q) = _
        rw [Nat.add_sub_cancel_left]
      refine ⟨(hD.mono (by omega)).congr (fun i hi => k1 i hi) (fun k hk => k2 k (by omega)), (k1 2 (by decide)).trans hR, (k1 3 (by decide)).trans hTe, fun i hi => (k1 i (by omega)).trans (hpn i hi).symm, ?_⟩
      exact (hlo' s hG).congr (fun _ _ => rfl) (fun _ _ => rfl) (fun _ _ => rfl) (fun k hk => k2 k (by omega))
    · have hqT : q < T := by omega
      obtain ⟨a1, a2, a3, a4, a5⟩ := hP q (by rw [hTe, nI_clamp (by omega)]; exact hqT)
      have k1 : ∀ i, i < 20 → (if 20 * T ≤ 20 * q + i ∧ 20 * q + i < 20 * T + 20 then ce (20 * q + i - 20 * T) else pt (20 * q + i)) = pt (20 * q + i) := by
        intro i hi
        rw [if_neg (by omega)]
      have k2 : ∀ k, k < 64 → cpR b (fun k => s (k - 64 * T)) (64 * T) (64 * T + 64) (64 * q + k) = b (64 * q + k) := by
        intro k hk
        unfold cpR
        rw [if_neg (by omega)]
      rw [v15, v16] at a5
      refine ⟨(a1.mono (by omega)).congr (fun i hi => k1 i hi) (fun k hk => k2 k (by omega)), (k1 2 (by decide)).trans a2, (k1 3 (by decide)).trans a3, fun i hi => (k1 i (by omega)).trans ((a4 i hi).trans (hpn i hi).symm), ?_⟩
      exact (hlo' _ a5).congr (fun _ _ => rfl) (fun _ _ => rfl) (fun _ _ => rfl) (fun k hk => k2 k (by omega))
