theorem rg1 (x : Int32) {b : Int32} {n : Nat} (hb : b = nI n) (hn : n < 2000) : (a_X11_in x 1 b = 0 ∧ (x < 1 ∨ (¬ x < 1 ∧ ¬ x ≤ b))) ∨ ∃ k, 1 ≤ k ∧ k ≤ n ∧ x = nI k ∧ ¬ a_X11_in x 1 b = 0 ∧ ¬ x < 1 ∧ x ≤ b := by
  rw [inX]
  by_cases h1 : x < 1
  · exact Or.inl ⟨if_neg (fun q => Int32.not_lt.mpr q.1 h1), Or.inl h1⟩
  · by_cases h2 : x ≤ b
    · have h0 : ¬ x < 0 := fun q => h1 (Int32.lt_iff_toInt_lt.mpr (by have := Int32.lt_iff_toInt_lt.mp q; have e0 : (0 : Int32).toInt = 0 := rfl; have e1 : (1 : Int32).toInt = 1 := rfl; omega))
      obtain ⟨k, hk, he⟩ := nI_of2 (n := n) (M := b) (by rw [hb, nI_toInt (by omega)]) h0 h2
      refine Or.inr ⟨k, ?_, hk, he, by rw [if_pos ⟨Int32.not_lt.mp h1, h2⟩]; decide, h1, h2⟩
      subst he
      have : ¬ k < 1 := fun q => h1 (nI_lt (b := 1) q (by omega))
      omega
    · exact Or.inl ⟨if_neg (fun q => h2 q.2), Or.inr ⟨h1, h2⟩⟩
theorem imax_n {m w q : Nat} (hm : m < 1000) (hw : w < 1000) (hq : q < 1000) : imax (nI m) (nI w - nI q) = nI (max m (w - q)) := by
  unfold imax
  have hd := pk_sub_toInt (a := w) (b := q) (by omega) (by omega)
  have hmI := nI_toInt (n := m) (by omega)
  by_cases h : m < w - q
  · rw [if_pos (by rw [Int32.lt_iff_toInt_lt, hd, hmI]; omega), pk_sub (by omega), Nat.max_eq_right (by omega)]
  · rw [if_neg (by rw [Int32.lt_iff_toInt_lt, hd, hmI]; omega), Nat.max_eq_left (by omega)]
/-- how far a vanity goes down, alike -/
theorem hd_e {np nc : Nat} {tr pa ne who what dn va s : Nat → Int32} (hL : LR np nc tr pa ne who what) (hF : FR np dn va s) {a v t w : Nat} (ha : a < np) (hv1 : 1 ≤ v) (hv : v < 1000) (ht : t < 4) (hw : w < 10) (hvn : vanO va (nI a) (nI t) = nI w) : ∀ n, n ≤ nc → (leS what s a (nI t) 0 n = 0 ∧ hdS pa ne dn va (nI a) (nI v) (nI t) n = nI 0) ∨ ∃ st, 1 ≤ st ∧ st < 10 ∧ leS what s a (nI t) 0 n = nI st ∧ hdS pa ne dn va (nI a) (nI v) (nI t) n = nI (w - (v - 1) / st)
  | 0, _ => Or.inl ⟨rfl, rfl⟩
  | n + 1, hn => by
    have hc8 := hL.2.2.2.2
    have ih := hd_e hL hF ha hv1 hv ht hw hvn n (by omega)
    obtain ⟨t1, t2⟩ := tru_e hL hF (show n < nc by omega) ha
    obtain ⟨L1, L2, ⟨L3, L3'⟩, L4⟩ := hL.2.1 n (by omega)
    obtain ⟨g, hg, hge⟩ := nb_e L3
    rw [hge, nI_clamp (by omega)] at L3'
    have hp0 : part pa (nI n) 0 = what (5 * n) := by
      show part pa (nI n) (nI 0) = _
      rw [part_e (by omega) (by decide), L1 0 (by decide)]; rfl
    have hp1 : part pa (nI n) 1 = nI g := by
      show part pa (nI n) (nI 1) = _
      rw [part_e (by omega) (by decide), L1 1 (by decide), hge]
    have f1 : hdS pa ne dn va (nI a) (nI v) (nI t) (n + 1) = (if part pa (nI n) 0 = nI t ∧ tru ne dn (nI n) (nI a) = 2 ∧ 0 < part pa (nI n) 1 then imax (hdS pa ne dn va (nI a) (nI v) (nI t) n) (vanO va (nI a) (nI t) - (nI v - 1) / part pa (nI n) 1) else hdS pa ne dn va (nI a) (nI v) (nI t) n) := rfl
    have f2 : leS what s a (nI t) 0 (n + 1) = leS_F what s a (nI t) n (leS what s a (nI t) 0 n) := rfl
    rw [f1, f2]
    generalize hdS pa ne dn va (nI a) (nI v) (nI t) n = H at *
    generalize leS what s a (nI t) 0 n = L at *
    unfold leS_F
    rw [hp0, hp1, hvn, hge, ← t1]
    have g0 : (0 : Int32) < nI g := by rw [show (0 : Int32) = nI 0 from rfl, lt_n (by decide) (by omega)]; exact L3'
    have i1 : nI v - (1 : Int32) = nI (v - 1) := pk_sub (b := 1) hv1
    have id : nI (v - 1) / nI g = nI ((v - 1) / g) := pk_div (by omega) (by omega) (by omega)
    have hdl : ∀ d, (v - 1) / d < 1000 := fun d => Nat.lt_of_le_of_lt (Nat.div_le_self _ _) (by omega)
    rw [i1, id]
    by_cases q1 : what (5 * n) = nI t
    · rw [if_pos q1]
      by_cases q2 : tru ne dn (nI n) (nI a) = 2
      · have hcc : what (5 * n) = nI t ∧ tru ne dn (nI n) (nI a) = 2 ∧ 0 < nI g := ⟨q1, q2, g0⟩
        rw [if_pos q2, if_pos hcc]
        rcases ih with ⟨k1, k2⟩ | ⟨st, k1, k2, k3, k4⟩
        · rw [k1, k2, if_neg (show ¬ nI g ≤ 0 from Int32.not_le.mpr g0), if_neg (by decide), imax_n (by omega) (by omega) (hdl g)]
          exact Or.inr ⟨g, by omega, hg, rfl, by rw [Nat.max_eq_right (Nat.zero_le _)]⟩
        · rw [k3, k4, imax_n (Nat.lt_of_le_of_lt (Nat.sub_le _ _) (by omega)) (by omega) (hdl g)]
          have hle := le_n (k := g) (n := st) (by omega) (by omega)
          by_cases q3 : g ≤ st
          · rw [if_pos (show nI g ≤ nI st by rw [hle]; exact q3), if_pos rfl]
            have := Nat.div_le_div_left (a := v - 1) q3 (by omega)
            exact Or.inr ⟨st, k1, k2, rfl, by rw [Nat.max_eq_left (Nat.sub_le_sub_left this w)]⟩
          · rw [if_neg (show ¬ nI g ≤ nI st by rw [hle]; exact q3), if_neg (by decide)]
            have := Nat.div_le_div_left (a := v - 1) (show st ≤ g by omega) (by omega)
            exact Or.inr ⟨g, by omega, hg, rfl, by rw [Nat.max_eq_right (Nat.sub_le_sub_left this w)]⟩
      · rw [if_neg q2, if_pos rfl, if_neg (fun z => q2 z.2.1)]
        exact ih
    · rw [if_neg q1, if_pos rfl, if_neg (fun z => q1 z.1)]
      exact ih
theorem less_e {np nc : Nat} {tr pa ne who what dn va s : Nat → Int32} (hL : LR np nc tr pa ne who what) (hF : FR np dn va s) {a v t : Nat} (ha : a < np) (hv1 : 1 ≤ v) (hv : v < 1000) (ht : t < 4) : a_X11_less what s a (nI v) (nI t) nc = hdS pa ne dn va (nI a) (nI v) (nI t) nc := by
  have hp4 := hL.2.2.2.1
  obtain ⟨f1, f2⟩ := hF.2 a t ha ht
  obtain ⟨w, hw, hwe⟩ := nb_e f2
  have hvn : vanO va (nI a) (nI t) = nI w := by rw [vanO_e (by omega) ht, ← f1, hwe]
  have hvo : a_X11_vanityOf s a (nI t).toNatClampNeg = nI w := by
    unfold a_X11_vanityOf
    rw [nI_clamp (by omega)]; exact hwe
  unfold a_X11_less
  rw [hvo]
  rcases hd_e hL hF ha hv1 hv ht hw hvn nc (Nat.le_refl _) with ⟨k1, k2⟩ | ⟨st, k1, k2, k3, k4⟩
  · rw [k1, k2, if_pos rfl]
    have hd := pk_sub_toInt (a := w) (b := 9) (by omega) (by omega)
    by_cases q : w = 9
    · subst q; rfl
    · rw [if_neg]
      · rfl
      · show ¬ (0 : Int32) ≤ nI w - nI 9
        rw [Int32.le_iff_toInt_le, hd]
        have e0 : (0 : Int32).toInt = 0 := rfl
        omega
  · have i1 : nI v - (1 : Int32) = nI (v - 1) := pk_sub (b := 1) hv1
    have id : nI (v - 1) / nI st = nI ((v - 1) / st) := pk_div (by omega) (by omega) (by omega)
    have hdl : (v - 1) / st < 1000 := Nat.lt_of_le_of_lt (Nat.div_le_self _ _) (by omega)
    have hz : ¬ nI st = 0 := fun q => by have := (nI_eq (b := 0) (by omega) (by decide)).mp q; omega
    have hd := pk_sub_toInt (a := w) (b := (v - 1) / st) (by omega) (by omega)
    have e0 : (0 : Int32).toInt = 0 := rfl
    rw [k3, k4, if_neg hz, i1, id]
    by_cases q : (v - 1) / st ≤ w
    · rw [if_pos (by rw [Int32.le_iff_toInt_le, hd, e0]; omega), pk_sub q]
    · rw [if_neg (by rw [Int32.le_iff_toInt_le, hd, e0]; omega), Nat.sub_eq_zero_of_le (by omega)]; rfl
theorem ha_e {np nc : Nat} {tr pa ne who what dn va s : Nat → Int32} (hL : LR np nc tr pa ne who what) (hF : FR np dn va s) {a v : Nat} {p : Int32} (ha : a < np) (hv1 : 1 ≤ v) (hv : v < 1000) : ∀ n, n ≤ 4 → haS what s a (nI v) p nc 0 n = hrS pa ne dn va (nI a) (nI v) p nc n
  | 0, _ => rfl
  | n + 1, hn => by
    have ih := ha_e (p := p) hL hF ha hv1 hv n (by omega)
    show haS_F what s a (nI v) p nc n (haS what s a (nI v) p nc 0 n) = hrS pa ne dn va (nI a) (nI v) p nc n + hdS pa ne dn va (nI a) (nI v) (nI n) nc * p * (nI n + 1)
    unfold haS_F
    rw [ih, less_e hL hF ha hv1 hv (show n < 4 by omega), Int32.add_comm 1 (nI n)]
theorem tpc (y : Int32) : (a_X10_isTopic y = 0 ∧ a_X11_in y 0 3 = 0 ∧ (¬ y = -1 → a_X11_in y (-1) 3 = 0)) ∨ ∃ t, t < 4 ∧ y = nI t ∧ ¬ a_X10_isTopic y = 0 ∧ ¬ a_X11_in y 0 3 = 0 ∧ ¬ a_X11_in y (-1) 3 = 0 := by
  have l4 : (4 ≤ y) = ¬ y ≤ 3 := by
    rw [show (y ≤ 3) = (y < 4) from (lt_le (x := y) (n := 3) (by decide)).symm]
    exact propext ⟨fun q r => Int32.not_lt.mpr q r, fun q => Int32.not_lt.mp q⟩
  unfold a_X10_isTopic
  simp only [l4]
  rcases rg0 y (b := 3) (n := 3) rfl (by decide) with ⟨r1, r2⟩ | ⟨k, hk, rfl, r1, r2, r3⟩
  · refine Or.inl ⟨?_, r1, fun hn => ?_⟩
    · rcases r2 with r2 | ⟨r2, r3⟩
      · rw [if_pos r2]
      · rw [if_neg r2, if_pos r3]
    · rw [inX, if_neg]
      rintro ⟨u1, u2⟩
      rcases r2 with r2 | ⟨r2, r3⟩
      · refine hn (Int32.toInt_inj.mp ?_)
        have a1 := Int32.le_iff_toInt_le.mp u1
        have a2 := Int32.lt_iff_toInt_lt.mp r2
        have e0 : (0 : Int32).toInt = 0 := rfl
        have e1 : (-1 : Int32).toInt = -1 := rfl
        omega
      · exact r3 u2
  · refine Or.inr ⟨k, by omega, rfl, ?_, r1, ?_⟩
    · rw [if_neg r2, if_neg (fun q => q r3)]
      decide
    · rw [inX, if_pos ⟨Int32.le_trans (show (-1 : Int32) ≤ 0 by decide) (Int32.not_lt.mp r2), r3⟩]
      decide
theorem cl_harden {M : Nat} {μ : zH} {x v p t : Int32} (h : WI M μ) : CL M μ mi_X10_harden mi_X11_harden [.inl x, .inl v, .inl p, .inl t] := by
  have h0 := h
  obtain ⟨np, nc, kw, kc, kb, kn, hH, hT, hL, hS, -⟩ := h0
  obtain ⟨⟨p1, c1, -⟩, ⟨p2, c2, -⟩, -, hp4, hc8, -⟩ := hH
  have h67 : w_X11_harden_67 (μ 67) x v p t = upd (μ 67) 0 0 := by unfold w_X11_harden_67; simp only [ite_self]
  refine cl_pure h (fun l X => e_X10_harden (d := 24) c1 hc8) (fun l X => e_X11_harden (d := 22) p2 hp4 c2 hc8) h67 ?_
  unfold a_X10_harden a_X11_harden
  rcases pers (x := x) (f := μ 1) (g := upd (μ 67) 0 0) hp4 p1 p2 with ⟨q1, q2⟩ | ⟨a, ha, rfl, q1, q2⟩
  · rw [if_pos q1, if_pos q2]
  rw [if_neg q1, if_neg q2]
  rcases rg1 v (b := 99) (n := 99) rfl (by decide) with ⟨r1, r2⟩ | ⟨k, hk1, hk, rfl, r1, r2, r3⟩
  · rw [if_pos r1]
    rcases r2 with r2 | ⟨r2, r3⟩
    · rw [if_pos r2]
    · rw [if_neg r2, if_pos (Int32.not_le.mp r3)]
  rw [if_neg r1, if_neg r2, if_neg (Int32.not_lt.mpr r3)]
  rcases rg1 p (b := 9) (n := 9) rfl (by decide) with ⟨r1, r2⟩ | ⟨k', hk1', hk', rfl, r1, r2, r3⟩
  · rw [if_pos r1]
    rcases r2 with r2 | ⟨r2, r3⟩
    · rw [if_pos r2]
    · rw [if_neg r2, if_pos (Int32.not_le.mp r3)]
  rw [if_neg r1, if_neg r2, if_neg (Int32.not_lt.mpr r3), nI_clamp (show a < 2 ^ 31 by omega)]
  by_cases ht : t = -1
  · subst ht
    rw [if_neg (show ¬ a_X11_in (-1) (-1) 3 = 0 by rw [inX]; decide), if_pos rfl, if_pos rfl]
    exact ha_e hL.1 hS.1 ha hk1 (by omega) 4 (by decide)
  rw [if_neg ht, if_neg ht]
  rcases tpc t with ⟨s1, s2, s3⟩ | ⟨tt, htt, rfl, s1, s2, s3⟩
  · rw [if_pos s1, if_pos (s3 ht)]
  · rw [if_neg s1, if_neg s3]
    exact less_e hL.1 hS.1 ha hk1 (by omega) htt
