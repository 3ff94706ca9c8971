theorem fo_1 {h : Nat → Int32} (q : ¬ h 4 = 3) : a_X11_faultOf h = 1 := by unfold a_X11_faultOf; rw [if_neg q]
theorem fo_d {h : Nat → Int32} (q : h 4 = 3) (w : h 6 = 100) : a_X11_faultOf h = if h 12 = 4 then 3 else 0 := by
  unfold a_X11_faultOf
  rw [if_pos q, if_pos w, if_neg (show ¬ h 6 = 99 by rw [w]; decide)]
theorem fo_c {h : Nat → Int32} (q : h 4 = 3) (w : h 6 = 99) : a_X11_faultOf h = if h 13 = 8 then 3 else 0 := by
  unfold a_X11_faultOf
  rw [if_pos q, if_neg (show ¬ h 6 = 100 by rw [w]; decide), if_pos w]
theorem fo_e {h : Nat → Int32} (q : h 4 = 3) (w : h 6 = 101) : a_X11_faultOf h = 0 := by
  unfold a_X11_faultOf
  rw [if_pos q, if_neg (show ¬ h 6 = 100 by rw [w]; decide), if_neg (show ¬ h 6 = 99 by rw [w]; decide)]
theorem mdN_y {L : Nat → Int32} {n : Nat} {h W U E : Nat → Int32} (q : a_X11_faultOf h = 0) : mdN L n (h, W, U, E) = (w_X11_ends_67 (w_X11_clause_67 (w_X11_advances_67 h L n) L W E (h 6) n) L n, w_X11_clause_69 (w_X11_advances_67 h L n) L W (h 6) n, w_X11_clause_70 (w_X11_advances_67 h L n) L U (h 6) n, w_X11_clause_71 (w_X11_advances_67 h L n) L E (h 6) n) := by
  unfold mdN
  exact if_pos (by show a_X11_faultOf h ≤ 0; rw [q]; decide)
theorem mdN_n {L : Nat → Int32} {n : Nat} {h W U E : Nat → Int32} {k : Int32} (q : a_X11_faultOf h = k) (hk : ¬ k ≤ 0) : mdN L n (h, W, U, E) = (w_X11_fails_67 h k, W, U, E) := by
  unfold mdN
  rw [if_neg (by show ¬ a_X11_faultOf h ≤ 0; rw [q]; exact hk)]
  show (w_X11_fails_67 h (a_X11_faultOf h), W, U, E) = _
  rw [q]
/-- one clause, in both -/
theorem st_all {L : Nat → Int32} {n p : Nat} {g M T P N F h W U E : Nat → Int32} (hn250 : n ≤ 250) (hL0 : ∀ k, k < n → 0 ≤ L k) (hP : PR L n p g h) (g4 : g 4 = 0) (hp : p ≤ n) {np nc : Nat} (hD : DT np nc M T P N F h W U E) (hq : sk L n p < n) :
    RR L n (cOne L n (rdR.mk (sk L n p) (upd g 5 (nI (sk L n p))) M T P N F)) (mdN L n (h, W, U, E)) ∧ ((cOne L n (rdR.mk (sk L n p) (upd g 5 (nI (sk L n p))) M T P N F)).g 4 = 0 → sk L n p < (cOne L n (rdR.mk (sk L n p) (upd g 5 (nI (sk L n p))) M T P N F)).p) := by
  obtain ⟨⟨f1, f2⟩, hT⟩ := hP
  obtain ⟨g3, hK⟩ := hT g4
  have h8 : h 8 = 0 := f1.symm.trans g4
  have hlq : lt L n (sk L n p) = L (sk L n p) := if_pos hq
  have hp4 := hD.2.1.2.2.2.1
  have hc8 := hD.2.1.2.2.2.2
  have hD0 := hD
  obtain ⟨⟨m0, m1, h12, h13⟩, -⟩ := hD
  generalize hqe : sk L n p = q at *
  unfold TK at hK
  rw [hqe] at hK
  -- a letter that is no word
  have other : ¬ L q = 100 → ¬ L q = 99 → ¬ L q = 101 → ¬ h 4 = 3 → RR L n (cOne L n (rdR.mk q (upd g 5 (nI q)) M T P N F)) (mdN L n (h, W, U, E)) ∧ ((cOne L n (rdR.mk q (upd g 5 (nI q)) M T P N F)).g 4 = 0 → q < (cOne L n (rdR.mk q (upd g 5 (nI q)) M T P N F)).p) := by
    intro n1 n2 n3 n4
    have e1 : cOne L n (rdR.mk q (upd g 5 (nI q)) M T P N F) = rdR.mk q (gmk (upd g 5 (nI q)) 1 (nI q)) M T P N F := by
      unfold cOne
      rw [if_neg n1, if_neg n2, if_neg n3]
      rfl
    rw [e1, mdN_n (fo_1 n4) (by decide)]
    obtain ⟨k1, k2⟩ := gmk_y (g := upd g 5 (nI q)) (k := 1) (w := nI q) g4
    exact ⟨RR.mk (PR.fail h8 (by decide) k1 (k2.trans hK.1.symm)) (fun w => absurd (k1.symm.trans w) (by decide)), fun w => absurd (k1.symm.trans w) (by decide)⟩
  rcases hK.2 with ⟨c1, c2, c3⟩ | ⟨c1, c2, c3, c4, c5, c6⟩ | ⟨c1, c2, c3, c4, c5⟩
  · rw [hlq] at c1
    exact absurd (hL0 q hq) c1
  · have hd1 := c2.2.2
    have hne : ∀ k : Int32, 57 < k → ¬ L q = k := fun k hk w => by
      rw [w] at hd1
      exact Int32.not_lt.mpr hd1 hk
    exact other (hne 100 (by decide)) (hne 99 (by decide)) (hne 101 (by decide)) (by rw [c3]; decide)
  · rw [hlq] at c3 c5
    have hadv : TK L n (q + 1) (w_X11_advances_67 h L n) := adv_TK c4 (by omega)
    have hft : FT (upd (upd g 5 (nI q)) 5 (nI q + 1)) (w_X11_advances_67 h L n) := by
      refine ⟨?_, ?_⟩
      · rw [adv_o (by decide)]; exact f1
      · rw [adv_o (by decide)]; exact f2
    have hPR : PR L n (q + 1) (upd (upd g 5 (nI q)) 5 (nI q + 1)) (w_X11_advances_67 h L n) := ⟨hft, fun _ => ⟨g3, hadv⟩⟩
    have hpy : ∀ many lim : Int32, ¬ lim ≤ many → pg (upd g 5 (nI q)) many lim = upd (upd g 5 (nI q)) 5 (nI q + 1) := fun many lim w => by
      unfold pg
      rw [if_neg w]
      rfl
    have hpn : ∀ many lim : Int32, lim ≤ many → pg (upd g 5 (nI q)) many lim 4 = 3 ∧ pg (upd g 5 (nI q)) many lim 3 = nI q := fun many lim w => by
      unfold pg
      rw [if_pos w]
      obtain ⟨k1, k2⟩ := gmk_y (g := upd g 5 (nI q)) (k := 3) (w := (upd g 5 (nI q)) 5) g4
      exact ⟨k1, k2⟩
    by_cases b1 : L q = 100
    · have e4 : h 4 = 3 := by rw [c3, b1]; rfl
      have e6 : h 6 = 100 := c5.trans b1
      have eO : cOne L n (rdR.mk q (upd g 5 (nI q)) M T P N F) = cPer L n (rdR.mk q (upd g 5 (nI q)) M T P N F) := by
        unfold cOne
        exact if_pos b1
      rw [eO]
      by_cases many : np = 4
      · have hfo := fo_d e4 e6
        rw [h12, many, if_pos (show nI 4 = 4 from rfl)] at hfo
        rw [mdN_n hfo (by decide)]
        obtain ⟨k1, k2⟩ := hpn (M 0) 4 (by rw [m0, many]; decide)
        have k3 : ¬ pg (upd g 5 (nI q)) (M 0) 4 4 = 0 := by rw [k1]; decide
        obtain ⟨s1, s2⟩ := peS_n (L := L) (T := T) (n := n) (p := q + 1) (sz := 24) (lo := tlo) (hi := thi) (b := M 0 * 6) k3 6
        have k4 : ¬ (peS L n tlo thi 24 (M 0 * 6) 6 (q + 1, pg (upd g 5 (nI q)) (M 0) 4, T)).2.1 4 = 0 := by rw [s1]; exact k3
        obtain ⟨t1, t2⟩ := gen_n (L := L) (n := n) (p := (peS L n tlo thi 24 (M 0 * 6) 6 (q + 1, pg (upd g 5 (nI q)) (M 0) 4, T)).1) k4
        have t3 := (t1.trans s1).trans k1
        have t4 := (t2.trans s2).trans k2
        exact ⟨RR.mk (PR.fail h8 (by decide) t3 (t4.trans hK.1.symm)) (fun w => absurd (t3.symm.trans w) (by decide)), fun w => absurd (t3.symm.trans w) (by decide)⟩
      · have hfo := fo_d e4 e6
        have n4 : ¬ nI np = 4 := fun w => many ((nI_eq (b := 4) (by omega) (by decide)).mp w)
        rw [h12, if_neg n4] at hfo
        rw [mdN_y hfo, e6]
        have hle : ¬ (4 : Int32) ≤ M 0 := by
          rw [m0]
          exact fun w => by have := (nI_leI (a := 4) (by decide) (by omega)).mp w; omega
        exact st_d hn250 hq (by rw [hpy _ _ hle]; exact hPR) g4 ups hD0 (by omega)
    · by_cases b2 : L q = 99
      · have e4 : h 4 = 3 := by rw [c3, b2]; rfl
        have e6 : h 6 = 99 := c5.trans b2
        have eO : cOne L n (rdR.mk q (upd g 5 (nI q)) M T P N F) = cPhr L n (rdR.mk q (upd g 5 (nI q)) M T P N F) := by
          unfold cOne
          exact (if_neg b1).trans (if_pos b2)
        rw [eO]
        by_cases many : nc = 8
        · have hfo := fo_c e4 e6
          rw [h13, many, if_pos (show nI 8 = 8 from rfl)] at hfo
          rw [mdN_n hfo (by decide)]
          obtain ⟨k1, k2⟩ := hpn (M 1) 8 (by rw [m1, many]; decide)
          have k3 : ¬ pg (upd g 5 (nI q)) (M 1) 8 4 = 0 := by rw [k1]; decide
          obtain ⟨s1, s2⟩ := peS_n (L := L) (T := P) (n := n) (p := q + 1) (sz := 40) (lo := plo) (hi := phi) (b := M 1 * 5) k3 5
          have k4 : ¬ (peS L n plo phi 40 (M 1 * 5) 5 (q + 1, pg (upd g 5 (nI q)) (M 1) 8, P)).2.1 4 = 0 := by rw [s1]; exact k3
          obtain ⟨t1, t2⟩ := gen_n (L := L) (n := n) (p := (peS L n plo phi 40 (M 1 * 5) 5 (q + 1, pg (upd g 5 (nI q)) (M 1) 8, P)).1) k4
          have t3 := (t1.trans s1).trans k1
          have t4 := (t2.trans s2).trans k2
          exact ⟨RR.mk (PR.fail h8 (by decide) t3 (t4.trans hK.1.symm)) (fun w => absurd (t3.symm.trans w) (by decide)), fun w => absurd (t3.symm.trans w) (by decide)⟩
        · have hfo := fo_c e4 e6
          have n4 : ¬ nI nc = 8 := fun w => many ((nI_eq (b := 8) (by omega) (by decide)).mp w)
          rw [h13, if_neg n4] at hfo
          rw [mdN_y hfo, e6]
          have hle : ¬ (8 : Int32) ≤ M 1 := by
            rw [m1]
            exact fun w => by have := (nI_leI (a := 8) (by decide) (by omega)).mp w; omega
          exact st_c hn250 hq (by rw [hpy _ _ hle]; exact hPR) hD0 (by omega)
      · by_cases b3 : L q = 101
        · have e4 : h 4 = 3 := by rw [c3, b3]; rfl
          have e6 : h 6 = 101 := c5.trans b3
          have eO : cOne L n (rdR.mk q (upd g 5 (nI q)) M T P N F) = cDee L n (rdR.mk q (upd g 5 (nI q)) M T P N F) := by
            unfold cOne
            exact ((if_neg b1).trans (if_neg b2)).trans (if_pos b3)
          rw [eO, mdN_y (fo_e e4 e6), e6]
          exact st_e hn250 hq hPR hD0
        · refine other b1 b2 b3 ?_
          rw [c3]
          unfold lcl
          rw [if_neg b1, if_neg b2, if_neg b3]
          split <;> decide
/-- the whole text, in both -/
theorem ps_e {L : Nat → Int32} {n : Nat} (hn250 : n ≤ 250) (hL0 : ∀ k, k < n → 0 ≤ L k) : ∀ (j k : Nat) (s : rdR) (r : mdT), RR L n s r → s.g 4 = 0 → n - s.p ≤ j → n - s.p < k → FT (rAl L n j s).g (mdS L n k r).1 ∧ ((rAl L n j s).g 4 = 0 → (rAl L n j s).g 3 = -1 ∧ ∃ np nc, DT np nc (rAl L n j s).M (rAl L n j s).T (rAl L n j s).P (rAl L n j s).N (rAl L n j s).F (mdS L n k r).1 (mdS L n k r).2.1 (mdS L n k r).2.2.1 (mdS L n k r).2.2.2) := by
  intro j
  induction j with
  | zero =>
    intro k s r hR hg hj hk
    obtain ⟨hP, hd⟩ := hR
    obtain ⟨d1, d2, np, nc, hD⟩ := hd hg
    obtain ⟨g3, hK⟩ := hP.2 hg
    have hge := sk_ge (L := L) (n := n) (p := s.p)
    have h8 : r.1 8 = 0 := hP.1.1.symm.trans hg
    have h4 : r.1 4 = 0 := by
      have hlt : lt L n (sk L n s.p) = -1 := if_neg (by omega)
      rcases hK.2 with ⟨c1, c2, c3⟩ | ⟨c1, c2, -⟩ | ⟨c1, c2, -⟩
      · exact c3
      · have := c2.1; omega
      · rw [hlt] at c1; exact absurd c1 (by decide)
    obtain ⟨k', rfl⟩ : ∃ k', k = k' + 1 := ⟨k - 1, by omega⟩
    have e1 : mdS L n (k' + 1) r = r := by rw [mdS, if_neg (isw_y h8), if_pos h4]
    rw [e1]
    exact ⟨hP.1, fun _ => ⟨g3, np, nc, hD⟩⟩
  | succ j ih =>
    intro k s r hR hg hj hk
    obtain ⟨hP, hd⟩ := hR
    obtain ⟨d1, d2, np, nc, hD⟩ := hd hg
    obtain ⟨g3, hK⟩ := hP.2 hg
    have hge := sk_ge (L := L) (n := n) (p := s.p)
    have h8 : r.1 8 = 0 := hP.1.1.symm.trans hg
    obtain ⟨k', rfl⟩ : ∃ k', k = k' + 1 := ⟨k - 1, by omega⟩
    by_cases hq : sk L n s.p < n
    · have hlq : lt L n (sk L n s.p) = L (sk L n s.p) := if_pos hq
      have h4 : ¬ r.1 4 = 0 := by
        rcases hK.2 with ⟨c1, c2, c3⟩ | ⟨c1, c2, c3, -⟩ | ⟨c1, c2, c3, -⟩
        · rw [hlq] at c1; exact absurd (hL0 _ hq) c1
        · rw [c3]; decide
        · rw [c3]
          unfold lcl
          repeat' split
          all_goals decide
      obtain ⟨s1, s2⟩ := st_all (M := s.M) (T := s.T) (P := s.P) (N := s.N) (F := s.F) (W := r.2.1) (U := r.2.2.1) (E := r.2.2.2) hn250 hL0 hP hg d1 hD hq
      have e1 : mdS L n (k' + 1) r = mdS L n k' (mdN L n r) := by rw [mdS, if_neg (isw_y h8), if_neg h4]
      have e2 : rAl L n (j + 1) s = rAl L n j (cOne L n (rdR.mk (sk L n s.p) (upd s.g 5 (nI (sk L n s.p))) s.M s.T s.P s.N s.F)) := by
        rw [rAl, if_pos hg, if_pos hq]; rfl
      rw [e1, e2]
      have s1' : RR L n (cOne L n (rdR.mk (sk L n s.p) (upd s.g 5 (nI (sk L n s.p))) s.M s.T s.P s.N s.F)) (mdN L n r) := s1
      generalize cOne L n (rdR.mk (sk L n s.p) (upd s.g 5 (nI (sk L n s.p))) s.M s.T s.P s.N s.F) = s' at *
      generalize mdN L n r = r' at *
      by_cases g0 : s'.g 4 = 0
      · have := s2 g0
        exact ih k' s' r' s1' g0 (by omega) (by omega)
      · have e3 : rAl L n j s' = s' := by
          cases j with
          | zero => rfl
          | succ j => rw [rAl, if_neg g0]
        have h8' : ¬ r'.1 8 = 0 := fun w => g0 (s1'.1.1.1.trans w)
        have e4 : mdS L n k' r' = r' := by
          cases k' with
          | zero => rfl
          | succ k' => rw [mdS, if_pos (isw_n h8')]
        rw [e3, e4]
        exact ⟨s1'.1.1, fun w => absurd w g0⟩
    · have h4 : r.1 4 = 0 := by
        have hlt : lt L n (sk L n s.p) = -1 := if_neg hq
        rcases hK.2 with ⟨c1, c2, c3⟩ | ⟨c1, c2, -⟩ | ⟨c1, c2, -⟩
        · exact c3
        · exact absurd c2.1 hq
        · rw [hlt] at c1; exact absurd c1 (by decide)
      have e1 : mdS L n (k' + 1) r = r := by rw [mdS, if_neg (isw_y h8), if_pos h4]
      have e2 : rAl L n (j + 1) s = cSk L n s := by rw [rAl, if_pos hg, if_neg hq]
      rw [e1, e2]
      exact ⟨hP.1, fun _ => ⟨g3, np, nc, hD⟩⟩
