theorem num_ag {L g h : Nat → Int32} {n p : Nat} {lo hi ag : Int32} (hn250 : n ≤ 250) (hp : p ≤ n + 1) (hR : PR L n p g h) (g4 : g 4 = 0) : (¬ (gnu L n g p lo hi).2 4 = 0 → w_X11_number_67 h L lo hi ag n = w_X11_number_67 h L lo hi 0 n) ∧ ((gnu L n g p lo hi).2 4 = 0 → h 4 = 1 ∧ ¬ a_X11_in (h 6) lo hi = 0 ∧ h 6 = (gnu L n g p lo hi).1 ∧ (gnu L n g p lo hi).2 6 = h 5 ∧ (¬ ag = 0 → w_X11_number_67 h L lo hi ag n = w_X11_fails_67 h 4)) := by
  obtain ⟨⟨f1, f2⟩, hT⟩ := hR
  obtain ⟨g3, hK⟩ := hT g4
  have h8 : h 8 = 0 := f1.symm.trans g4
  have hnx := nx_le (L := L) (n := n) (p := p)
  have hG4 : upd (gq L n g p) 5 (nI (dg L n (sk L n p)).1) 4 = 0 := g4
  have hfw1 := fails_W (g := h) (k := 1) (by decide)
  have hfw2 := fails_W (g := h) (k := 2) (by decide)
  have hfw4 := fails_W (g := h) (k := 4) (by decide)
  have nodig : ¬ isDg L n (sk L n p) → ¬ h 4 = 1 → (¬ (gnu L n g p lo hi).2 4 = 0 → w_X11_number_67 h L lo hi ag n = w_X11_number_67 h L lo hi 0 n) ∧ ((gnu L n g p lo hi).2 4 = 0 → h 4 = 1 ∧ ¬ a_X11_in (h 6) lo hi = 0 ∧ h 6 = (gnu L n g p lo hi).1 ∧ (gnu L n g p lo hi).2 6 = h 5 ∧ (¬ ag = 0 → w_X11_number_67 h L lo hi ag n = w_X11_fails_67 h 4)) := by
    intro d1 d2
    have e1 : gnu L n g p lo hi = (0, gmk (upd (gq L n g p) 5 (nI (dg L n (sk L n p)).1)) 1 (nI (dg L n (sk L n p)).1)) := by
      unfold gnu
      exact gT_1 (dg_1 d1)
    rw [e1]
    obtain ⟨m1, m2⟩ := gmk_y (k := 1) (w := nI (dg L n (sk L n p)).1) hG4
    refine ⟨fun _ => ?_, fun q => absurd (m1.symm.trans q) (by decide)⟩
    unfold w_X11_number_67
    rw [if_neg d2, if_neg d2]
  rcases hK.2 with ⟨c1, c2, c3⟩ | ⟨c1, c2, c3, c4, c5, c6⟩ | ⟨c1, c2, c3, c4, c5⟩
  · exact nodig c2 (by rw [c3]; decide)
  · have hne : ¬ (dg L n (sk L n p)).1 = sk L n p := by have := dg_2 c2; omega
    have hnxe : nx L n p = (dg L n (sk L n p)).1 := rfl
    have h37 : (3 < h 7) = (3 < (dg L n (sk L n p)).1 - sk L n p) := by
      rw [c6]
      exact lt_n (k := 3) (by decide) (by omega)
    by_cases bad : 3 < (dg L n (sk L n p)).1 - sk L n p ∨ (dg L n (sk L n p)).2 < lo ∨ hi < (dg L n (sk L n p)).2
    · have e1 : gnu L n g p lo hi = (0, gmk (upd (gq L n g p) 5 (nI (dg L n (sk L n p)).1)) 2 (nI (sk L n p))) := by
        unfold gnu
        exact gT_2 hne bad
      rw [e1]
      obtain ⟨m1, m2⟩ := gmk_y (k := 2) (w := nI (sk L n p)) hG4
      refine ⟨fun _ => ?_, fun q => absurd (m1.symm.trans q) (by decide)⟩
      unfold w_X11_number_67
      rw [if_pos c3, if_pos c3]
      by_cases b3 : 3 < h 7
      · rw [if_pos b3, if_pos b3]
      · have b4 : a_X11_in (h 6) lo hi = 0 := in_le.mpr (fun w => by
          rcases bad with b | b | b
          · exact b3 (by rw [h37]; exact b)
          · rw [← c5] at b; exact Int32.not_lt.mpr w.1 b
          · rw [← c5] at b; exact Int32.not_lt.mpr w.2 b)
        rw [if_neg b3, if_neg b3, if_pos b4, if_pos b4]
    · have e1 : gnu L n g p lo hi = ((dg L n (sk L n p)).2, upd (gq L n g p) 5 (nI (dg L n (sk L n p)).1)) := by
        unfold gnu
        exact gT_3 hne bad
      have b3 : ¬ 3 < h 7 := by rw [h37]; exact fun w => bad (Or.inl w)
      have hlo : lo ≤ (dg L n (sk L n p)).2 := Int32.not_lt.mp (fun w => bad (Or.inr (Or.inl w)))
      have hhi : (dg L n (sk L n p)).2 ≤ hi := Int32.not_lt.mp (fun w => bad (Or.inr (Or.inr w)))
      have b4 : ¬ a_X11_in (h 6) lo hi = 0 := fun w => in_le.mp w (by rw [c5]; exact ⟨hlo, hhi⟩)
      rw [e1]
      refine ⟨fun q => absurd hG4 q, fun _ => ⟨c3, b4, c5, hK.1.symm, fun ha => ?_⟩⟩
      unfold w_X11_number_67
      rw [if_pos c3, if_neg b3, if_neg b4, if_neg ha, if_pos hfw4]
  · refine nodig c2 ?_
    rw [c3]
    unfold lcl
    repeat' split
    all_goals decide
theorem eb_e : ∀ e, e < 256 → ∀ m, m < 8 → (e &&& 2 ^ m = 0 ↔ e / 2 ^ m % 2 = 0) := by decide +kernel
/-- a deed told -/
theorem st_e {L : Nat → Int32} {n q np nc : Nat} {g M T P N F h W U E : Nat → Int32} (hn250 : n ≤ 250) (hq : q < n) (hR : PR L n (q + 1) (upd g 5 (g 5 + 1)) (w_X11_advances_67 h L n)) (hD : DT np nc M T P N F h W U E) :
    RR L n (cDee L n (rdR.mk q g M T P N F)) (w_X11_ends_67 (w_X11_clause_67 (w_X11_advances_67 h L n) L W E 101 n) L n, w_X11_clause_69 (w_X11_advances_67 h L n) L W 101 n, w_X11_clause_70 (w_X11_advances_67 h L n) L U 101 n, w_X11_clause_71 (w_X11_advances_67 h L n) L E 101 n) ∧ ((cDee L n (rdR.mk q g M T P N F)).g 4 = 0 → q < (cDee L n (rdR.mk q g M T P N F)).p) := by
  obtain ⟨⟨m0, m1, h12, h13⟩, hL, hv, hF, hF0⟩ := hD
  have hp4 := hL.2.2.2.1
  have a12 : w_X11_advances_67 h L n 12 = nI np := (adv_o (by decide)).trans h12
  have a13 : w_X11_advances_67 h L n 13 = nI nc := (adv_o (by decide)).trans h13
  generalize w_X11_advances_67 h L n = H at *
  have n100 : ¬ (101 : Int32) = 100 := by decide
  have n99 : ¬ (101 : Int32) = 99 := by decide
  obtain ⟨AG, hAG⟩ : ∃ AG : Int32, AG = (if (a_X11_isWell (w_X11_number_67 H L 0 (H 12 - 1) 0 n)) = 0 then (0 : Int32) else (if (w_X11_number_67 H L 0 (H 12 - 1) 0 n 4) = 1 then (if (a_X11_in (w_X11_number_67 H L 0 (H 12 - 1) 0 n 6) 0 7) = 0 then (0 : Int32) else (if (((E (a_X11_number H 0 (H 12 - 1) 0).toNatClampNeg) >>> ((w_X11_number_67 H L 0 (H 12 - 1) 0 n 6) &&& 31)) &&& 1) = 1 then (1 : Int32) else (0 : Int32) : Int32) : Int32) else (0 : Int32) : Int32)) := ⟨_, rfl⟩
  have eH : w_X11_clause_67 H L W E 101 n = w_X11_number_67 (w_X11_number_67 H L 0 (H 12 - 1) 0 n) L 0 7 AG n := by
    unfold w_X11_clause_67
    rw [if_neg n100, if_neg n99, hAG]
  have eW : w_X11_clause_69 H L W 101 n = W := by unfold w_X11_clause_69; rw [if_neg n100]
  have eU : w_X11_clause_70 H L U 101 n = U := by unfold w_X11_clause_70; rw [if_neg n100, if_neg n99]
  have eE : w_X11_clause_71 H L E 101 n = if (a_X11_isWell (w_X11_number_67 (w_X11_number_67 H L 0 (H 12 - 1) 0 n) L 0 7 AG n)) = 0 then E else upd E (a_X11_number H 0 (H 12 - 1) 0).toNatClampNeg (E (a_X11_number H 0 (H 12 - 1) 0).toNatClampNeg ||| (1 <<< ((a_X11_number (w_X11_number_67 H L 0 (H 12 - 1) 0 n) 0 7 AG) &&& 31))) := by
    unfold w_X11_clause_71
    rw [if_neg n100, if_neg n99, hAG]
  rw [a12] at eH eE hAG
  have eC : cDee L n (rdR.mk q g M T P N F) = rdR.mk (sk L n (nx L n (nx L n (q + 1))) + 1) (gen L n (if rA F 4 (gnu L n (upd g 5 (g 5 + 1)) (q + 1) 0 (nI np - 1)).1 &&& (1 <<< ((gnu L n (gnu L n (upd g 5 (g 5 + 1)) (q + 1) 0 (nI np - 1)).2 (nx L n (q + 1)) 0 7).1 &&& 31)) = 0 then (gnu L n (gnu L n (upd g 5 (g 5 + 1)) (q + 1) 0 (nI np - 1)).2 (nx L n (q + 1)) 0 7).2 else gmk (gnu L n (gnu L n (upd g 5 (g 5 + 1)) (q + 1) 0 (nI np - 1)).2 (nx L n (q + 1)) 0 7).2 4 ((gnu L n (gnu L n (upd g 5 (g 5 + 1)) (q + 1) 0 (nI np - 1)).2 (nx L n (q + 1)) 0 7).2 6)) (nx L n (nx L n (q + 1)))) M T P N (rP F 4 (gnu L n (upd g 5 (g 5 + 1)) (q + 1) 0 (nI np - 1)).1 (rA F 4 (gnu L n (upd g 5 (g 5 + 1)) (q + 1) 0 (nI np - 1)).1 ||| (1 <<< ((gnu L n (gnu L n (upd g 5 (g 5 + 1)) (q + 1) 0 (nI np - 1)).2 (nx L n (q + 1)) 0 7).1 &&& 31)))) := by
    rw [← m0]; rfl
  rw [eC, eH, eW, eU, eE]
  have hnx1 := nx_le (L := L) (n := n) (p := q + 1)
  have hnx2 := nx_le (L := L) (n := n) (p := nx L n (q + 1))
  obtain ⟨r1, r2⟩ := num_PR (lo := 0) (hi := nI np - 1) hn250 (by omega) hR
  have h1o : ∀ k, 9 < k → w_X11_number_67 H L 0 (nI np - 1) 0 n k = H k := fun k hk => nm_o (Or.inl hk)
  generalize gnu L n (upd g 5 (g 5 + 1)) (q + 1) 0 (nI np - 1) = G1 at *
  generalize w_X11_number_67 H L 0 (nI np - 1) 0 n = H1 at *
  generalize nx L n (q + 1) = p1 at *
  obtain ⟨u1, u2⟩ := num_PR (lo := 0) (hi := 7) hn250 (show p1 ≤ n + 1 by omega) r1
  have hag := fun g4 => num_ag (lo := 0) (hi := 7) (ag := AG) hn250 (show p1 ≤ n + 1 by omega) r1 g4
  have h2o : ∀ k, 9 < k → w_X11_number_67 H1 L 0 7 AG n k = H k := fun k hk => (nm_o (Or.inl hk)).trans (h1o k hk)
  have hgn := fun h4 => gnu_n (L := L) (n := n) (g := G1.2) (p := p1) (lo := 0) (hi := 7) h4
  generalize gnu L n G1.2 p1 0 7 = G2 at *
  generalize nx L n p1 = p2 at *
  have hge := sk_ge (L := L) (n := n) (p := p2)
  have hlt : q < sk L n p2 + 1 := by omega
  -- a fault ahead of the end
  have hfault : ∀ (G : Nat → Int32) (H2 F' E' : Nat → Int32), FT G H2 → ¬ G 4 = 0 → RR L n (rdR.mk (sk L n p2 + 1) (gen L n G p2) M T P N F') (w_X11_ends_67 H2 L n, W, U, E') := by
    intro G H2 F' E' hft hg
    obtain ⟨e1, e2⟩ := end_PR hn250 (show p2 ≤ n + 1 by omega) (show PR L n p2 G H2 from ⟨hft, fun w => absurd w hg⟩)
    exact RR.mk e1 (fun g0 => absurd (e2 g0).1 hg)
  refine ⟨?_, rdp hlt⟩
  by_cases g1 : G1.2 4 = 0
  · obtain ⟨-, v1, v2, v3⟩ := r2 g1
    have h18 : H1 8 = 0 := r1.1.1.symm.trans g1
    obtain ⟨d, hd, hde⟩ : ∃ d, d < np ∧ G1.1 = nI d := by
      cases np with
      | zero => exact absurd (Int32.le_trans v2 v3) (by decide)
      | succ m =>
        rw [nI_pred] at v3
        obtain ⟨d, d1, -, d3⟩ := nbv (k := 0) (m := m) rfl rfl (by decide) (by omega) v2 v3
        exact ⟨d, by omega, d3⟩
    obtain ⟨f1, f2⟩ := hF d hd
    obtain ⟨e, he, hee⟩ := nb_e f2
    have kd : (a_X11_number H 0 (nI np - 1) 0).toNatClampNeg = d := by rw [← v1, hde, nI_clamp (by omega)]
    have hrA : rA F 4 G1.1 = nI e := by rw [hde, rA_n (by omega) (by decide), f1, hee]
    obtain ⟨w1, w2⟩ := hag g1
    by_cases g2 : G2.2 4 = 0
    · obtain ⟨x1, x2, x3, x4, x5⟩ := w2 g2
      obtain ⟨-, y1, y2, y3⟩ := u2 g2
      obtain ⟨m, hm, -, hme⟩ := nbv (k := 0) (m := 7) rfl rfl (by decide) (by decide) y2 y3
      have hpw := pw_le (n := m) (m := 8) (by omega)
      have hbt : (1 : Int32) <<< (G2.1 &&& 31) = nI (2 ^ m) := by rw [hme]; exact bit1 (by omega)
      have hcond : (rA F 4 G1.1 &&& (1 <<< (G2.1 &&& 31)) = 0) = (e / 2 ^ m % 2 = 0) := by
        rw [hrA, hbt, nI_and (by omega) (by omega)]
        refine (eq_n (n := 0) (Nat.lt_of_le_of_lt Nat.and_le_left (by omega)) (by decide)).trans (propext ?_)
        exact eb_e e he m (by omega)
      rw [kd, hee, x3, hme, nI_bit (by omega) (by omega), if_neg (isw_y h18), if_pos x1] at hAG
      rw [hme] at x3
      rw [x3] at x2
      rw [if_neg x2] at hAG
      by_cases bt : e / 2 ^ m % 2 = 0
      · rw [bt, if_neg (show ¬ nI 0 = 1 by decide)] at hAG
        subst hAG
        rw [if_pos (by rw [hcond]; exact bt)]
        obtain ⟨e1, e2⟩ := end_PR hn250 (show p2 ≤ n + 1 by omega) u1
        refine RR.mk e1 (fun g0 => ?_)
        obtain ⟨e3, e4⟩ := e2 g0
        refine ⟨by omega, gen_5, np, nc, ⟨m0, m1, ?_, ?_⟩, hL, hv, ?_, ?_⟩
        · rw [ends_o (by decide), h2o 12 (by decide), a12]
        · rw [ends_o (by decide), h2o 13 (by decide), a13]
        · have hw2 : ¬ a_X11_isWell (w_X11_number_67 H1 L 0 7 0 n) = 0 := isw_y (u1.1.1.symm.trans g2)
          intro d' hd'
          rw [if_neg hw2, kd, hrA, hbt, hde, rP_n (by omega) (by decide), ← y1, hbt, hee, nI_or (by omega) (by omega)]
          by_cases q1 : d' = d
          · subst q1
            rw [ups, ups]
            refine ⟨rfl, ?_⟩
            have : e ||| 2 ^ m < 2 ^ 8 := Nat.or_lt_two_pow he (Nat.pow_lt_pow_right (by decide) (by omega))
            exact nb_i (by omega) (by decide)
          · rw [upn q1, upn q1]
            exact hF d' hd'
        · intro d' hd' hd4
          rw [hde, rP_n (by omega) (by decide), upn (by omega)]
          exact hF0 d' hd' hd4
      · have bt1 : e / 2 ^ m % 2 = 1 := by omega
        rw [bt1, if_pos (show nI 1 = 1 from rfl)] at hAG
        rw [if_neg (by rw [hcond]; exact bt), x5 (by rw [hAG]; decide)]
        obtain ⟨k1, k2⟩ := gmk_y (k := 4) (w := G2.2 6) g2
        refine hfault _ _ _ _ ⟨?_, ?_⟩ (by rw [k1]; decide)
        · rw [k1, fails_y h18]; rfl
        · rw [k2, fails_y h18, x4]; rfl
    · rw [w1 g2, gmk_n g2, ite_self]
      exact hfault _ _ _ _ u1.1 g2
  · obtain ⟨k1, k2⟩ := hgn g1
    have h18 : ¬ H1 8 = 0 := fun w => g1 (r1.1.1.trans w)
    have g2 : ¬ G2.2 4 = 0 := by rw [k1]; exact g1
    rw [num_n h18, gmk_n g2, ite_self]
    exact hfault _ _ _ _ ⟨k1.trans r1.1.1, k2.trans r1.1.2⟩ g2
