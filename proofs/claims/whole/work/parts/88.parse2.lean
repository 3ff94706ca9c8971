theorem PR.u {L g h : Nat → Int32} {n p k : Nat} {v : Int32} (hR : PR L n p g h) (hk : 9 < k) : PR L n p g (upd h k v) := by
  obtain ⟨⟨f1, f2⟩, hT⟩ := hR
  refine ⟨⟨?_, ?_⟩, fun q => ⟨(hT q).1, ?_⟩⟩
  · rw [upn (by omega)]; exact f1
  · rw [upn (by omega)]; exact f2
  · have hK := (hT q).2
    unfold TK at hK ⊢
    rw [upn (show 5 ≠ k by omega), upn (show 4 ≠ k by omega), upn (show 3 ≠ k by omega), upn (show 6 ≠ k by omega), upn (show 7 ≠ k by omega)]
    exact hK
theorem peS_n {L g T : Nat → Int32} {n p sz : Nat} {lo hi : Nat → Int32} {b : Int32} (h4 : ¬ g 4 = 0) : ∀ i, (peS L n lo hi sz b i (p, g, T)).2.1 4 = g 4 ∧ (peS L n lo hi sz b i (p, g, T)).2.1 3 = g 3
  | 0 => ⟨rfl, rfl⟩
  | i + 1 => by
    obtain ⟨i1, i2⟩ := peS_n (L := L) (T := T) (n := n) (p := p) (sz := sz) (lo := lo) (hi := hi) (b := b) h4 i
    have e1 : (peS L n lo hi sz b (i + 1) (p, g, T)).2.1 = (gnu L n (peS L n lo hi sz b i (p, g, T)).2.1 (peS L n lo hi sz b i (p, g, T)).1 (lo i) (hi i)).2 := rfl
    rw [e1]
    obtain ⟨m1, m2⟩ := gnu_n (L := L) (n := n) (g := (peS L n lo hi sz b i (p, g, T)).2.1) (p := (peS L n lo hi sz b i (p, g, T)).1) (lo := lo i) (hi := hi i) (by rw [i1]; exact h4)
    exact ⟨m1.trans i1, m2.trans i2⟩
theorem gen_n {L g : Nat → Int32} {n p : Nat} (h4 : ¬ g 4 = 0) : gen L n g p 4 = g 4 ∧ gen L n g p 3 = g 3 := by
  have hG4 : ¬ upd g 5 (nI (sk L n p)) 4 = 0 := h4
  unfold gen
  rw [gmk_n hG4, ite_self]
  exact ⟨rfl, rfl⟩
theorem upd6 {W : Nat → Int32} {a0 : Nat} {v : Nat → Int32} : (∀ i, i < 6 → upd (upd (upd (upd (upd (upd W a0 (v 0)) (a0 + 1) (v 1)) (a0 + 2 + 0) (v 2)) (a0 + 2 + 1) (v 3)) (a0 + 2 + 2) (v 4)) (a0 + 2 + 3) (v 5) (a0 + i) = v i) ∧ ∀ k, k < a0 ∨ a0 + 6 ≤ k → upd (upd (upd (upd (upd (upd W a0 (v 0)) (a0 + 1) (v 1)) (a0 + 2 + 0) (v 2)) (a0 + 2 + 1) (v 3)) (a0 + 2 + 2) (v 4)) (a0 + 2 + 3) (v 5) k = W k := by
  refine ⟨fun i hi => ?_, fun k hk => ?_⟩
  · unfold upd
    rcases (by omega : i = 0 ∨ i = 1 ∨ i = 2 ∨ i = 3 ∨ i = 4 ∨ i = 5) with rfl | rfl | rfl | rfl | rfl | rfl
    · rw [if_neg (by omega), if_neg (by omega), if_neg (by omega), if_neg (by omega), if_neg (by omega), if_pos (by omega)]
    · rw [if_neg (by omega), if_neg (by omega), if_neg (by omega), if_neg (by omega), if_pos (by omega)]
    · rw [if_neg (by omega), if_neg (by omega), if_neg (by omega), if_pos (by omega)]
    · rw [if_neg (by omega), if_neg (by omega), if_pos (by omega)]
    · rw [if_neg (by omega), if_pos (by omega)]
    · rw [if_pos (by omega)]
  · rw [upn (by omega), upn (by omega), upn (by omega), upn (by omega), upn (by omega), upn (by omega)]
theorem upd5 {W : Nat → Int32} {a0 : Nat} {v : Nat → Int32} : (∀ i, i < 5 → upd (upd (upd (upd (upd W a0 (v 0)) (a0 + 1) (v 1)) (a0 + 2) (v 2)) (a0 + 3) (v 3)) (a0 + 4) (v 4) (a0 + i) = v i) ∧ ∀ k, k < a0 ∨ a0 + 5 ≤ k → upd (upd (upd (upd (upd W a0 (v 0)) (a0 + 1) (v 1)) (a0 + 2) (v 2)) (a0 + 3) (v 3)) (a0 + 4) (v 4) k = W k := by
  refine ⟨fun i hi => ?_, fun k hk => ?_⟩
  · unfold upd
    rcases (by omega : i = 0 ∨ i = 1 ∨ i = 2 ∨ i = 3 ∨ i = 4) with rfl | rfl | rfl | rfl | rfl
    · rw [if_neg (by omega), if_neg (by omega), if_neg (by omega), if_neg (by omega), if_pos (by omega)]
    · rw [if_neg (by omega), if_neg (by omega), if_neg (by omega), if_pos (by omega)]
    · rw [if_neg (by omega), if_neg (by omega), if_pos (by omega)]
    · rw [if_neg (by omega), if_pos (by omega)]
    · rw [if_pos (by omega)]
  · rw [upn (by omega), upn (by omega), upn (by omega), upn (by omega), upn (by omega)]
/-- what was told so far, alike -/
def DT (np nc : Nat) (M T P N F h W U E : Nat → Int32) : Prop :=
  (M 0 = nI np ∧ M 1 = nI nc ∧ h 12 = nI np ∧ h 13 = nI nc) ∧ LR np nc T P N (fun k => W (24 + k)) (fun k => U (40 + k)) ∧ (∀ d t, d < np → t < 4 → nb (W (24 + (6 * d + 2 + t))) 10) ∧ (∀ d, d < np → F d = E d ∧ nb (E d) 256) ∧ ∀ d, np ≤ d → d < 4 → F d = 0
def RR (L : Nat → Int32) (n : Nat) (s : rdR) (r : mdT) : Prop := PR L n s.p s.g r.1 ∧ (s.g 4 = 0 → s.p ≤ n ∧ s.g 5 = nI s.p ∧ ∃ np nc, DT np nc s.M s.T s.P s.N s.F r.1 r.2.1 r.2.2.1 r.2.2.2)
theorem RR.mk {L : Nat → Int32} {n p : Nat} {g M T P N F h W U E : Nat → Int32} (h1 : PR L n p g h) (h2 : g 4 = 0 → p ≤ n ∧ g 5 = nI p ∧ ∃ np nc, DT np nc M T P N F h W U E) : RR L n (rdR.mk p g M T P N F) (h, W, U, E) := ⟨h1, h2⟩
theorem rdp {q p : Nat} {g M T P N F : Nat → Int32} (h : q < p) : (rdR.mk p g M T P N F).g 4 = 0 → q < (rdR.mk p g M T P N F).p := fun _ => h
theorem nbv {x lo hi : Int32} {m k : Nat} (hlo : lo = nI k) (hhi : hi = nI m) (hk : k < 2000) (hm : m < 2000) (h1 : lo ≤ x) (h2 : x ≤ hi) : ∃ v, v ≤ m ∧ k ≤ v ∧ x = nI v := by
  have e1 := Int32.le_iff_toInt_le.mp h1
  have e2 := Int32.le_iff_toInt_le.mp h2
  rw [hhi, nI_toInt (by omega)] at e2
  rw [hlo, nI_toInt (by omega)] at e1
  refine ⟨x.toInt.toNat, by omega, by omega, ?_⟩
  refine Int32.toInt_inj.mp ?_
  rw [nI_toInt (by omega)]
  omega
theorem tl_v : tlo 0 = 1 ∧ tlo 1 = 0 ∧ tlo 2 = 0 ∧ tlo 3 = 0 ∧ tlo 4 = 0 ∧ tlo 5 = 0 := ⟨rfl, rfl, rfl, rfl, rfl, rfl⟩
theorem th_v : thi 0 = 999 ∧ thi 1 = 99 ∧ thi 2 = 9 ∧ thi 3 = 9 ∧ thi 4 = 9 ∧ thi 5 = 9 := ⟨rfl, rfl, rfl, rfl, rfl, rfl⟩
theorem pl_v : plo 0 = 0 ∧ plo 1 = 1 ∧ plo 2 = 1 ∧ plo 3 = 0 ∧ plo 4 = 0 := ⟨rfl, rfl, rfl, rfl, rfl⟩
theorem ph_v : phi 0 = 3 ∧ phi 1 = 9 ∧ phi 2 = 9 ∧ phi 3 = 8 ∧ phi 4 = 8 := ⟨rfl, rfl, rfl, rfl, rfl⟩
/-- a new duellist -/
theorem st_d {L : Nat → Int32} {n q np nc : Nat} {g M T P N F h W U E : Nat → Int32} (hn250 : n ≤ 250) (hq : q < n) (hR : PR L n (q + 1) (pg g (M 0) 4) (w_X11_advances_67 h L n)) (hg4 : g 4 = 0) (hg5 : g 5 = nI q) (hD : DT np nc M T P N F h W U E) (hnp : np < 4) :
    RR L n (cPer L n (rdR.mk q g M T P N F)) (w_X11_ends_67 (w_X11_clause_67 (w_X11_advances_67 h L n) L W E 100 n) L n, w_X11_clause_69 (w_X11_advances_67 h L n) L W 100 n, w_X11_clause_70 (w_X11_advances_67 h L n) L U 100 n, w_X11_clause_71 (w_X11_advances_67 h L n) L E 100 n) ∧ ((cPer L n (rdR.mk q g M T P N F)).g 4 = 0 → q < (cPer L n (rdR.mk q g M T P N F)).p) := by
  obtain ⟨⟨m0, m1, h12, h13⟩, hL, hv, hF, hF0⟩ := hD
  have a12 : w_X11_advances_67 h L n 12 = nI np := (adv_o (by decide)).trans h12
  have a13 : w_X11_advances_67 h L n 13 = nI nc := (adv_o (by decide)).trans h13
  generalize w_X11_advances_67 h L n = H at *
  have k12 : (H 12).toNatClampNeg = np := by rw [a12, nI_clamp (by omega)]
  have hb : M 0 * 6 = nI (np * 6) := by rw [m0]; exact pk_mul np 6
  obtain ⟨s1, s2, s3, s4, s5⟩ := seq_PR (lo := tlo) (hi := thi) (T := T) (sz := 24) (B := np * 6) (m := 6) hn250 (show q + 1 ≤ n by omega) hR (by omega) (by decide) 6 (Nat.le_refl _)
  have eH : w_X11_clause_67 H L W E 100 n = upd (hsq L n tlo thi H 6) 12 (hsq L n tlo thi H 6 12 + 1) := by
    obtain ⟨t0, t1, t2, t3, t4, t5⟩ := tl_v
    obtain ⟨u0, u1, u2, u3, u4, u5⟩ := th_v
    unfold w_X11_clause_67
    rw [if_pos rfl]
    simp only [clD, zfold, clD_F, hsq, t0, t1, t2, t3, t4, t5, u0, u1, u2, u3, u4, u5]
  have eW : w_X11_clause_69 H L W 100 n = upd (upd (upd (upd (upd (upd W (24 + 6 * np) (a_X11_number (hsq L n tlo thi H 0) (tlo 0) (thi 0) 0)) (24 + 6 * np + 1) (a_X11_number (hsq L n tlo thi H 1) (tlo 1) (thi 1) 0)) (24 + 6 * np + 2 + 0) (a_X11_number (hsq L n tlo thi H 2) (tlo 2) (thi 2) 0)) (24 + 6 * np + 2 + 1) (a_X11_number (hsq L n tlo thi H 3) (tlo 3) (thi 3) 0)) (24 + 6 * np + 2 + 2) (a_X11_number (hsq L n tlo thi H 4) (tlo 4) (thi 4) 0)) (24 + 6 * np + 2 + 3) (a_X11_number (hsq L n tlo thi H 5) (tlo 5) (thi 5) 0) := by
    obtain ⟨t0, t1, t2, t3, t4, t5⟩ := tl_v
    obtain ⟨u0, u1, u2, u3, u4, u5⟩ := th_v
    unfold w_X11_clause_69
    rw [if_pos rfl, k12]
    simp only [clD, zfold, clD_F, hsq, t0, t1, t2, t3, t4, t5, u0, u1, u2, u3, u4, u5]
  have eU : w_X11_clause_70 H L U 100 n = U := by unfold w_X11_clause_70; rw [if_pos rfl]
  have eE : w_X11_clause_71 H L E 100 n = upd E np 0 := by unfold w_X11_clause_71; rw [if_pos rfl, k12]
  have w1 : ∀ i, i < 6 → w_X11_clause_69 H L W 100 n (24 + 6 * np + i) = a_X11_number (hsq L n tlo thi H i) (tlo i) (thi i) 0 := by
    rw [eW]
    exact (upd6 (W := W) (a0 := 24 + 6 * np) (v := fun i => a_X11_number (hsq L n tlo thi H i) (tlo i) (thi i) 0)).1
  have w2 : ∀ k, k < 24 + 6 * np ∨ 24 + 6 * np + 6 ≤ k → w_X11_clause_69 H L W 100 n k = W k := by
    rw [eW]
    exact (upd6 (W := W) (a0 := 24 + 6 * np) (v := fun i => a_X11_number (hsq L n tlo thi H i) (tlo i) (thi i) 0)).2
  clear eW
  generalize w_X11_clause_69 H L W 100 n = W' at *
  have hw : ∀ i, i < 6 → W' (24 + (6 * np + i)) = a_X11_number (hsq L n tlo thi H i) (tlo i) (thi i) 0 := fun i hi => by
    rw [show 24 + (6 * np + i) = 24 + 6 * np + i by omega]
    exact w1 i hi
  have h6 : ∀ k, 9 < k → hsq L n tlo thi H 6 k = H k := fun k hk => by
    show w_X11_number_67 (w_X11_number_67 (w_X11_number_67 (w_X11_number_67 (w_X11_number_67 (w_X11_number_67 H L _ _ 0 n) L _ _ 0 n) L _ _ 0 n) L _ _ 0 n) L _ _ 0 n) L _ _ 0 n k = H k
    rw [nm_o (Or.inl hk), nm_o (Or.inl hk), nm_o (Or.inl hk), nm_o (Or.inl hk), nm_o (Or.inl hk), nm_o (Or.inl hk)]
  have eC : cPer L n (rdR.mk q g M T P N F) = rdR.mk (sk L n (peS L n tlo thi 24 (nI (np * 6)) 6 (q + 1, pg g (M 0) 4, T)).1 + 1) (gen L n (peS L n tlo thi 24 (nI (np * 6)) 6 (q + 1, pg g (M 0) 4, T)).2.1 (peS L n tlo thi 24 (nI (np * 6)) 6 (q + 1, pg g (M 0) 4, T)).1) (upd M 0 (M 0 + 1)) (peS L n tlo thi 24 (nI (np * 6)) 6 (q + 1, pg g (M 0) 4, T)).2.2 P N F := by
    rw [← hb]; rfl
  rw [eC, eH, eU, eE]
  generalize peS L n tlo thi 24 (nI (np * 6)) 6 (q + 1, pg g (M 0) 4, T) = z at *
  obtain ⟨e1, e2⟩ := end_PR hn250 (by omega) (s1.u (k := 12) (v := hsq L n tlo thi H 6 12 + 1) (by decide))
  have hge := sk_ge (L := L) (n := n) (p := z.1)
  have hlt : q < sk L n z.1 + 1 := by omega
  refine ⟨RR.mk e1 (fun g0 => ?_), rdp hlt⟩
  obtain ⟨e3, e4⟩ := e2 g0
  obtain ⟨-, s6⟩ := s5 e3
  refine ⟨by show sk L n z.1 + 1 ≤ n; omega, gen_5, np + 1, nc, ⟨?_, ?_, ?_, ?_⟩, ?_, ?_, ?_, ?_⟩
  · show M 0 + 1 = _
    rw [m0, nI_1]
  · exact m1
  · show w_X11_ends_67 _ L n 12 = _
    rw [ends_o (by decide), ups, h6 12 (by decide), a12, nI_1]
  · show w_X11_ends_67 _ L n 13 = _
    rw [ends_o (by decide), upn (by decide), h6 13 (by decide), a13]
  · refine ⟨fun d hd => ?_, hL.2.1, hL.2.2.1, by omega, hL.2.2.2.2⟩
    by_cases e : d = np
    · subst e
      refine ⟨fun i hi => ?_, ?_, ?_⟩
      · show z.2.2 (6 * d + i) = _
        have h8 := (s6 i hi).1
        rw [show d * 6 + i = 6 * d + i by omega] at h8
        exact h8.trans (hw i hi).symm
      · have h9 := s6 0 (by decide)
        obtain ⟨v, v1, v2, v3⟩ := nbv (k := 1) (m := 999) rfl rfl (by decide) (by decide) h9.2.1 h9.2.2
        have h8 : W' (24 + 6 * d) = _ := w1 0 (by decide)
        show nb (W' (24 + 6 * d)) 1000
        rw [h8, v3]
        exact ⟨by rw [nI_clamp (by omega)]; omega, by rw [nI_clamp (by omega)]⟩
      · have h9 := s6 1 (by decide)
        obtain ⟨v, v1, v2, v3⟩ := nbv (k := 0) (m := 99) rfl rfl (by decide) (by decide) h9.2.1 h9.2.2
        show nb (W' (24 + (6 * d + 1))) 100
        rw [hw 1 (by decide), v3]
        exact nb_i (by omega) (by decide)
    · obtain ⟨l1, l2, l3⟩ := hL.1 d (by omega)
      refine ⟨fun i hi => ?_, ?_, ?_⟩
      · show z.2.2 (6 * d + i) = W' (24 + (6 * d + i))
        rw [s4 _ (by omega), w2 _ (by omega)]
        exact l1 i hi
      · show nb (W' (24 + 6 * d)) 1000
        rw [w2 _ (by omega)]
        exact l2
      · show nb (W' (24 + (6 * d + 1))) 100
        rw [w2 _ (by omega)]
        exact l3
  · intro d t hd ht
    by_cases e : d = np
    · subst e
      have h9 := s6 (2 + t) (by omega)
      have hl : tlo (2 + t) = nI 0 ∧ thi (2 + t) = nI 9 := by
        rcases (by omega : t = 0 ∨ t = 1 ∨ t = 2 ∨ t = 3) with rfl | rfl | rfl | rfl <;> exact ⟨rfl, rfl⟩
      obtain ⟨v, v1, v2, v3⟩ := nbv hl.1 hl.2 (by decide) (by decide) h9.2.1 h9.2.2
      show nb (W' (24 + (6 * d + 2 + t))) 10
      rw [show 6 * d + 2 + t = 6 * d + (2 + t) by omega, hw (2 + t) (by omega), v3]
      exact nb_i (by omega) (by decide)
    · show nb (W' (24 + (6 * d + 2 + t))) 10
      rw [w2 _ (by omega)]
      exact hv d t (by omega) ht
  · intro d hd
    by_cases e : d = np
    · subst e
      refine ⟨?_, ?_⟩
      · show F d = upd E d 0 d
        rw [ups]; exact hF0 d (Nat.le_refl _) hnp
      · show nb (upd E d 0 d) 256
        rw [ups]; exact ⟨by decide, rfl⟩
    · show F d = upd E np 0 d ∧ nb (upd E np 0 d) 256
      rw [upn e]
      exact hF d (by omega)
  · intro d hd hd4
    exact hF0 d (by omega) hd4
theorem db_e : ∀ n, n < 9 → ∀ m, m < 9 → dbit (nI n) ||| dbit (nI m) = nI (msk n m) := by decide +kernel
/-- a new compliment -/
theorem st_c {L : Nat → Int32} {n q np nc : Nat} {g M T P N F h W U E : Nat → Int32} (hn250 : n ≤ 250) (hq : q < n) (hR : PR L n (q + 1) (pg g (M 1) 8) (w_X11_advances_67 h L n)) (hD : DT np nc M T P N F h W U E) (hnc : nc < 8) :
    RR L n (cPhr L n (rdR.mk q g M T P N F)) (w_X11_ends_67 (w_X11_clause_67 (w_X11_advances_67 h L n) L W E 99 n) L n, w_X11_clause_69 (w_X11_advances_67 h L n) L W 99 n, w_X11_clause_70 (w_X11_advances_67 h L n) L U 99 n, w_X11_clause_71 (w_X11_advances_67 h L n) L E 99 n) ∧ ((cPhr L n (rdR.mk q g M T P N F)).g 4 = 0 → q < (cPhr L n (rdR.mk q g M T P N F)).p) := by
  obtain ⟨⟨m0, m1, h12, h13⟩, hL, hv, hF, hF0⟩ := hD
  have a12 : w_X11_advances_67 h L n 12 = nI np := (adv_o (by decide)).trans h12
  have a13 : w_X11_advances_67 h L n 13 = nI nc := (adv_o (by decide)).trans h13
  generalize w_X11_advances_67 h L n = H at *
  have k13 : (H 13).toNatClampNeg = nc := by rw [a13, nI_clamp (by omega)]
  have hb : M 1 * 5 = nI (nc * 5) := by rw [m1]; exact pk_mul nc 5
  have n100 : ¬ (99 : Int32) = 100 := by decide
  obtain ⟨s1, s2, s3, s4, s5⟩ := seq_PR (lo := plo) (hi := phi) (T := P) (sz := 40) (B := nc * 5) (m := 5) hn250 (show q + 1 ≤ n by omega) hR (by omega) (by decide) 5 (Nat.le_refl _)
  have eH : w_X11_clause_67 H L W E 99 n = upd (hsq L n plo phi H 5) 13 (hsq L n plo phi H 5 13 + 1) := by
    obtain ⟨t0, t1, t2, t3, t4⟩ := pl_v
    obtain ⟨u0, u1, u2, u3, u4⟩ := ph_v
    unfold w_X11_clause_67
    rw [if_neg n100, if_pos rfl]
    simp only [hsq, t0, t1, t2, t3, t4, u0, u1, u2, u3, u4]
  have eW : w_X11_clause_69 H L W 99 n = W := by unfold w_X11_clause_69; rw [if_neg n100]
  have eU : w_X11_clause_70 H L U 99 n = upd (upd (upd (upd (upd U (40 + 5 * nc) (a_X11_number (hsq L n plo phi H 0) (plo 0) (phi 0) 0)) (40 + 5 * nc + 1) (a_X11_number (hsq L n plo phi H 1) (plo 1) (phi 1) 0)) (40 + 5 * nc + 2) (a_X11_number (hsq L n plo phi H 2) (plo 2) (phi 2) 0)) (40 + 5 * nc + 3) (a_X11_number (hsq L n plo phi H 3) (plo 3) (phi 3) 0)) (40 + 5 * nc + 4) (a_X11_number (hsq L n plo phi H 4) (plo 4) (phi 4) 0) := by
    unfold w_X11_clause_70
    obtain ⟨t0, t1, t2, t3, t4⟩ := pl_v
    obtain ⟨u0, u1, u2, u3, u4⟩ := ph_v
    rw [if_neg n100, if_pos rfl, k13]
    simp only [hsq, t0, t1, t2, t3, t4, u0, u1, u2, u3, u4]
  have eE : w_X11_clause_71 H L E 99 n = E := by unfold w_X11_clause_71; rw [if_neg n100, if_pos rfl]
  have w1 : ∀ i, i < 5 → w_X11_clause_70 H L U 99 n (40 + 5 * nc + i) = a_X11_number (hsq L n plo phi H i) (plo i) (phi i) 0 := by
    rw [eU]
    exact (upd5 (W := U) (a0 := 40 + 5 * nc) (v := fun i => a_X11_number (hsq L n plo phi H i) (plo i) (phi i) 0)).1
  have w2 : ∀ k, k < 40 + 5 * nc ∨ 40 + 5 * nc + 5 ≤ k → w_X11_clause_70 H L U 99 n k = U k := by
    rw [eU]
    exact (upd5 (W := U) (a0 := 40 + 5 * nc) (v := fun i => a_X11_number (hsq L n plo phi H i) (plo i) (phi i) 0)).2
  clear eU
  generalize w_X11_clause_70 H L U 99 n = U' at *
  have h6 : ∀ k, 9 < k → hsq L n plo phi H 5 k = H k := fun k hk => by
    show w_X11_number_67 (w_X11_number_67 (w_X11_number_67 (w_X11_number_67 (w_X11_number_67 H L _ _ 0 n) L _ _ 0 n) L _ _ 0 n) L _ _ 0 n) L _ _ 0 n k = H k
    rw [nm_o (Or.inl hk), nm_o (Or.inl hk), nm_o (Or.inl hk), nm_o (Or.inl hk), nm_o (Or.inl hk)]
  have eC : cPhr L n (rdR.mk q g M T P N F) = rdR.mk (sk L n (peS L n plo phi 40 (nI (nc * 5)) 5 (q + 1, pg g (M 1) 8, P)).1 + 1) (gen L n (peS L n plo phi 40 (nI (nc * 5)) 5 (q + 1, pg g (M 1) 8, P)).2.1 (peS L n plo phi 40 (nI (nc * 5)) 5 (q + 1, pg g (M 1) 8, P)).1) (upd M 1 (M 1 + 1)) T (peS L n plo phi 40 (nI (nc * 5)) 5 (q + 1, pg g (M 1) 8, P)).2.2 (rP N 8 (M 1) (dbit (part (peS L n plo phi 40 (nI (nc * 5)) 5 (q + 1, pg g (M 1) 8, P)).2.2 (M 1) 3) ||| dbit (part (peS L n plo phi 40 (nI (nc * 5)) 5 (q + 1, pg g (M 1) 8, P)).2.2 (M 1) 4))) F := by
    rw [← hb]; rfl
  rw [eC, eH, eW, eE]
  generalize peS L n plo phi 40 (nI (nc * 5)) 5 (q + 1, pg g (M 1) 8, P) = z at *
  obtain ⟨e1, e2⟩ := end_PR hn250 (by omega) (s1.u (k := 13) (v := hsq L n plo phi H 5 13 + 1) (by decide))
  have hge := sk_ge (L := L) (n := n) (p := z.1)
  have hlt : q < sk L n z.1 + 1 := by omega
  refine ⟨RR.mk e1 (fun g0 => ?_), rdp hlt⟩
  obtain ⟨e3, e4⟩ := e2 g0
  obtain ⟨-, s6⟩ := s5 e3
  have hw : ∀ i, i < 5 → U' (40 + (5 * nc + i)) = a_X11_number (hsq L n plo phi H i) (plo i) (phi i) 0 := fun i hi => by
    rw [show 40 + (5 * nc + i) = 40 + 5 * nc + i by omega]
    exact w1 i hi
  have b3 := s6 3 (by decide)
  have b4 := s6 4 (by decide)
  obtain ⟨v3, v31, -, v33⟩ := nbv (k := 0) (m := 8) rfl rfl (by decide) (by decide) b3.2.1 b3.2.2
  obtain ⟨v4, v41, -, v43⟩ := nbv (k := 0) (m := 8) rfl rfl (by decide) (by decide) b4.2.1 b4.2.2
  have hN : rP N 8 (M 1) (dbit (part z.2.2 (M 1) 3) ||| dbit (part z.2.2 (M 1) 4)) = upd N nc (nI (msk v3 v4)) := by
    have p3 : part z.2.2 (nI nc) 3 = nI v3 := by
      show part z.2.2 (nI nc) (nI 3) = _
      rw [part_e hnc (by decide), Nat.mul_comm 5 nc, b3.1, v33]
    have p4 : part z.2.2 (nI nc) 4 = nI v4 := by
      show part z.2.2 (nI nc) (nI 4) = _
      rw [part_e hnc (by decide), Nat.mul_comm 5 nc, b4.1, v43]
    rw [m1, p3, p4, db_e v3 (by omega) v4 (by omega), rP_n hnc (by decide)]
  refine ⟨by show sk L n z.1 + 1 ≤ n; omega, gen_5, np, nc + 1, ⟨?_, ?_, ?_, ?_⟩, ?_, ?_, ?_, ?_⟩
  · exact m0
  · show M 1 + 1 = _
    rw [m1, nI_1]
  · show w_X11_ends_67 _ L n 12 = _
    rw [ends_o (by decide), upn (by decide), h6 12 (by decide), a12]
  · show w_X11_ends_67 _ L n 13 = _
    rw [ends_o (by decide), ups, h6 13 (by decide), a13, nI_1]
  · refine ⟨hL.1, fun c hc => ?_, fun c hc => ?_, hL.2.2.2.1, by omega⟩
    · show (∀ i, i < 5 → z.2.2 (5 * c + i) = U' (40 + (5 * c + i))) ∧ (∃ a b : Nat, a < 9 ∧ b < 9 ∧ U' (40 + (5 * c + 3)) = nI a ∧ U' (40 + (5 * c + 4)) = nI b ∧ rP N 8 (M 1) (dbit (part z.2.2 (M 1) 3) ||| dbit (part z.2.2 (M 1) 4)) c = nI (msk a b)) ∧ (nb (U' (40 + (5 * c + 1))) 10 ∧ 0 < (U' (40 + (5 * c + 1))).toNatClampNeg) ∧ nb (U' (40 + (5 * c + 2))) 10
      rw [hN]
      by_cases e : c = nc
      · subst e
        have b1 := s6 1 (by decide)
        have b2 := s6 2 (by decide)
        obtain ⟨x1, x11, x12, x13⟩ := nbv (k := 1) (m := 9) rfl rfl (by decide) (by decide) b1.2.1 b1.2.2
        obtain ⟨x2, x21, x22, x23⟩ := nbv (k := 1) (m := 9) rfl rfl (by decide) (by decide) b2.2.1 b2.2.2
        refine ⟨fun i hi => ?_, ⟨v3, v4, by omega, by omega, ?_, ?_, ups⟩, ⟨?_, ?_⟩, ?_⟩
        · rw [hw i hi, show 5 * c + i = c * 5 + i by omega]
          exact (s6 i hi).1
        · rw [hw 3 (by decide)]; exact v33
        · rw [hw 4 (by decide)]; exact v43
        · rw [hw 1 (by decide), x13]; exact nb_i (by omega) (by decide)
        · rw [hw 1 (by decide), x13, nI_clamp (by omega)]; omega
        · rw [hw 2 (by decide), x23]; exact nb_i (by omega) (by decide)
      · obtain ⟨l1, ⟨a, b, l2, l3, l4, l5, l6⟩, l7, l8⟩ := hL.2.1 c (by omega)
        refine ⟨fun i hi => ?_, ⟨a, b, l2, l3, ?_, ?_, ?_⟩, ?_, ?_⟩
        · rw [s4 _ (by omega), w2 _ (by omega)]
          exact l1 i hi
        · rw [w2 _ (by omega)]; exact l4
        · rw [w2 _ (by omega)]; exact l5
        · rw [upn e]; exact l6
        · rw [w2 _ (by omega)]; exact l7
        · rw [w2 _ (by omega)]; exact l8
    · show nb (U' (40 + 5 * c)) 4
      by_cases e : c = nc
      · subst e
        have b0 := s6 0 (by decide)
        obtain ⟨x0, x01, x02, x03⟩ := nbv (k := 0) (m := 3) rfl rfl (by decide) (by decide) b0.2.1 b0.2.2
        have h8 : U' (40 + 5 * c) = _ := w1 0 (by decide)
        rw [h8, x03]
        exact nb_i (by omega) (by decide)
      · rw [w2 _ (by omega)]
        exact hL.2.2.1 c hc
  · exact hv
  · exact hF
  · exact hF0
