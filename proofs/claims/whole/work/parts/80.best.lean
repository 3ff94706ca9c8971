/-- the best turn: what is tried in the class against what is tried in the reference -/
theorem rP_hi {f : Nat → Int32} {n k : Nat} {i v : Int32} (h : n ≤ k) : rP f n i v k = f k := by
  unfold rP
  by_cases q : 0 ≤ i.toInt ∧ i.toInt < n
  · rw [if_pos q]
    refine upn (fun e => ?_)
    have : i.toNatClampNeg = i.toInt.toNat := rfl
    omega
  · rw [if_neg q]
theorem dPl_hi {tr pa ne dn va ce : Nat → Int32} {t : Int32} {k : Nat} (h : 20 ≤ k) : dPl tr pa ne dn va ce t k = ce k := by
  have hP : ∀ (f : Nat → Int32) (i v : Int32), dPut f i v k = f k := fun f i v => rP_hi h
  have hA : ∀ (f : Nat → Int32) (i v : Int32), dAdd f i v k = f k := fun f i v => rP_hi h
  have hO : ∀ e : Nat → Int32, dPO e k = e k := fun e => by
    unfold dPO
    split
    · rw [hP, hA]
    · rw [hA]
  have hC : dCl tr ce k = ce k := hP _ _ _
  have h1 : ∀ (e : Nat → Int32) (c s : Int32), dSp1 pa ne dn va e c s k = e k := fun e c s => by
    unfold dSp1
    rw [hP, hP, hA, hA, hA]
  have h2 : ∀ (e e5 : Nat → Int32) (c s : Int32), dSp2 ne dn e e5 c s k = e5 k := fun e e5 c s => by
    unfold dSp2
    split
    · rw [hA]
    · rfl
  have h3 : ∀ (e e6 : Nat → Int32) (s : Int32), dSp3 tr e e6 s k = e6 k := fun e e6 s => by
    unfold dSp3
    split
    · rw [hP]
    · split
      · rw [hP]
      · rfl
  unfold dPl
  rw [hA]
  split
  · rw [hO, hC]
  · split
    · rw [hP, hA, hC]
    · unfold dSp
      rw [h3, h2, h1, hC]
def v3 (x : Int32) : Prop := x = 0 ∨ x = 1 ∨ x = 2
theorem st_3 {v c n : Int32} (hv : v = -1 ∨ v3 v) (hc : v3 c) (hn : v3 n) (h1 : c ≤ n) (h2 : c < 2 - v → c = n) : ((v < 2 - c) ↔ (v < 2 - n)) ∧ (v < 2 - n → c = n) := by
  unfold v3 at *
  rcases hv with rfl | rfl | rfl | rfl <;> rcases hc with rfl | rfl | rfl <;> rcases hn with rfl | rfl | rfl <;> revert h1 h2 <;> decide
theorem mg_le {v : Int32} {t : Nat} {b : Int32 × Int32} : b.1 ≤ (mgV v t b).1 := by
  unfold mgV
  by_cases c : b.1 < v
  · rw [if_pos c]
    exact Int32.le_iff_toInt_le.mpr (Int.le_of_lt (Int32.lt_iff_toInt_lt.mp c))
  · rw [if_neg c]
    exact Int32.le_refl _
theorem i32_tr {a b c : Int32} (h1 : a ≤ b) (h2 : b ≤ c) : a ≤ c := Int32.le_iff_toInt_le.mpr (Int.le_trans (Int32.le_iff_toInt_le.mp h1) (Int32.le_iff_toInt_le.mp h2))
/-- which turns are tried, alike -/
theorem nd_can {np nc M : Nat} {ce w f67 : Nat → Int32} (hc8 : nc ≤ 8) (hp4 : np ≤ 4) (hD : DR np nc M ce w) (hR : ce 2 = 0) (hg : f67 11 = nI nc) {t : Nat} (ht : t ≤ 8) : (¬ tCa f67 w (nI t) = 0 ↔ LT nc ce (nI t)) ∧ (LT nc ce (nI t) ↔ (t = 8 ∨ (zib (nI t) (nI nc) = true ∧ dUn ce (nI t) = true))) := by
  by_cases h8 : t = 8
  · subst h8
    have hl : LT nc ce (nI 8) := Or.inl rfl
    exact ⟨(can_e hc8 hp4 hD hR hg (Or.inl rfl)).2, ⟨fun _ => Or.inl rfl, fun _ => hl⟩⟩
  · have n8 : ¬ nI t = 8 := fun q => by have := (nI_eq (b := 8) (by omega) (by decide)).mp q; omega
    have n9 : ¬ nI t = 9 := fun q => by have := (nI_eq (b := 9) (by omega) (by decide)).mp q; omega
    have l8 : ¬ 8 ≤ nI t := nI_ge (b := 8) (by omega) (by decide)
    rcases phra (x := nI t) (f := fun _ => nI nc) (g := f67) hc8 rfl hg with ⟨q1, q2⟩ | ⟨c, hc, e, q1, q2⟩
    · have z : zib (nI t) (nI nc) = false := by rw [bz_tr] at q1; exact q1
      have hnl : ¬ LT nc ce (nI t) := fun q => by
        rcases q with q | q | ⟨c, h, q, -⟩
        · exact n8 q
        · exact n9 q.1
        · have := (nI_eq (a := t) (by omega) (by omega)).mp q
          subst this
          have h3 : zib (nI t) (nI nc) = true := by
            unfold zib
            refine decide_eq_true ?_
            rw [nI_toInt (by omega), nI_toInt (by omega)]
            omega
          rw [z] at h3; cases h3
      have hc0 : tCa f67 w (nI t) = 0 := by
        unfold tCa a_X11_canTurn_73
        rw [if_neg n8, if_neg n9, if_neg l8, if_pos q2]
      refine ⟨⟨fun q => absurd hc0 q, fun q => absurd q hnl⟩, ⟨fun q => absurd q hnl, fun q => ?_⟩⟩
      rcases q with q | q
      · exact absurd q h8
      · rw [z] at q; exact absurd q.1 (by decide)
    · have ht2 := (nI_eq (a := t) (b := c) (by omega) (by omega)).mp e
      subst ht2
      refine ⟨(can_e hc8 hp4 hD hR hg (Or.inr (Or.inr ⟨t, hc, rfl⟩))).2, ?_⟩
      obtain ⟨-, ⟨pn, F, X, W, K, R, T, S, P, hJ, -⟩, -⟩ := hD
      have h4 : ce 4 = nI S := hJ.2.2.2.2.1.1
      have hS256 := s256 hJ.2.2.2.2.1.2 hc8
      have z : zib (nI t) (nI nc) = true := by
        rw [bz_tr] at q1
        exact Bool.not_eq_false _ ▸ q1
      rw [dUn_n h4 hS256 (by omega), z]
      unfold LT
      rw [h4, nI_clamp (by omega)]
      refine ⟨fun q => ?_, fun q => ?_⟩
      · rcases q with q | q | ⟨c, h, q, w⟩
        · exact absurd q n8
        · exact absurd q.1 n9
        · have := (nI_eq (a := t) (by omega) (by omega)).mp q
          subst this
          exact Or.inr ⟨rfl, decide_eq_true w⟩
      · rcases q with q | q
        · exact absurd q h8
        · exact Or.inr (Or.inr ⟨t, hc, rfl, of_decide_eq_true q.2⟩)
theorem nI9 {t : Nat} (h : t ≤ 8) : nI t ≠ 9 := fun q => by have := (nI_eq (b := 9) (by omega) (by decide)).mp q; omega
/-- the reference's values -/
theorem nd_3 {np nc M : Nat} {tr pa ne who what dn va sd f67 : Nat → Int32} (hL : LR np nc tr pa ne who what) (hF : FR np dn va sd) (hM : M < 1000) (hg : f67 11 = nI nc) : ∀ fu (ce w : Nat → Int32) (t : Nat) (b : Int32 × Int32), DR np nc M ce w → ce 2 = 0 → (b.1 = -1 ∧ t ≤ 8 ∨ v3 b.1) → t ≤ 9 → 10 * mD nc ce + (9 - t) < fu → v3 (ndV (tCa f67) (tTu who what sd) fu w t b).1 ∧ b.1 ≤ (ndV (tCa f67) (tTu who what sd) fu w t b).1 := by
  have hp4 := hL.2.2.2.1
  have hc8 := hL.2.2.2.2
  intro fu
  induction fu with
  | zero => intro ce w t b _ _ _ _ h; omega
  | succ fu ih =>
    intro ce w t b hD hR hb ht9 hfu
    rw [ndV]
    by_cases hc : 8 < t ∨ b.1 = 2
    · rw [if_pos hc]
      refine ⟨?_, Int32.le_refl _⟩
      rcases hb with ⟨h1, h2⟩ | h1
      · rcases hc with hc | hc
        · omega
        · rw [h1] at hc; exact absurd hc (by decide)
      · exact h1
    · have ht8 : t ≤ 8 := by omega
      have hbm : b.1 = -1 ∨ b.1 = 0 ∨ b.1 = 1 ∨ b.1 = 2 := by
        rcases hb with ⟨h1, _⟩ | h1
        · exact Or.inl h1
        · exact Or.inr h1
      obtain ⟨k1, k2⟩ := nd_can hc8 hp4 hD hR hg ht8
      rw [if_neg hc]
      by_cases hca : tCa f67 w (nI t) = 0
      · rw [if_pos hca]
        have t8 : t ≠ 8 := fun q => by
          subst q
          exact (k1.mpr (Or.inl rfl)) hca
        exact ih ce w (t + 1) b hD hR (by rcases hb with ⟨h1, h2⟩ | h1; exact Or.inl ⟨h1, by omega⟩; exact Or.inr h1) (by omega) (by omega)
      · rw [if_neg hca]
        have hok := turn_ok hL hF hD (by omega) hR (k1.mp hca)
        have e22 : tTu who what sd w (nI t) 22 = dPl tr pa ne dn va ce (nI t) 2 := hok.1.1 2 (by decide)
        by_cases hp : 0 < tTu who what sd w (nI t) 22
        · rw [if_pos hp]
          obtain ⟨i1, i2⟩ := ih ce w (t + 1) (mgV (tSc (tTu who what sd w (nI t)) (w 24)) t b) hD hR (Or.inr (mgV_3 (tSc_3 _ _) hbm)) (by omega) (by omega)
          exact ⟨i1, i32_tr mg_le i2⟩
        · rw [if_neg hp]
          have q0 : dPl tr pa ne dn va ce (nI t) 2 = 0 := by
            rw [e22] at hp
            obtain ⟨-, ⟨pn, F, X, W, K, R, T, S, P, hJ, -⟩, -⟩ := hok.2.1
            obtain ⟨hR, hR4⟩ := hJ.2.2.1
            rw [hR] at hp ⊢
            by_cases z : R = 0
            · rw [z]; rfl
            · exact absurd (nI_lt (a := 0) (Nat.pos_of_ne_zero z) (by omega)) hp
          obtain ⟨d1, d2⟩ := hok.2.2.1 q0
          have d3 := d2 (nI9 ht8)
          obtain ⟨j1, j2⟩ := ih (dPl tr pa ne dn va ce (nI t)) (tTu who what sd w (nI t)) 0 (-1, 0) d1 q0 (Or.inl ⟨rfl, by omega⟩) (by omega) (by omega)
          obtain ⟨i1, i2⟩ := ih ce w (t + 1) (mgV (2 - (ndV (tCa f67) (tTu who what sd) fu (tTu who what sd w (nI t)) 0 (-1, 0)).1) t b) hD hR (Or.inr (mgV_3 (two_3 j1) hbm)) (by omega) (by omega)
          exact ⟨i1, i32_tr mg_le i2⟩
/-- who has won at the end, alike -/
theorem be_e {np nc N : Nat} {ce1 w1 : Nat → Int32} {T : Nat} (hc8 : nc ≤ 8) (hD : DR np nc N ce1 w1) (h3 : ce1 3 = nI (T + 1)) (hT : T < 35) (hn : ¬ ce1 2 = 0) : tSc w1 (nI (T % 2)) = 2 - bsE ce1 ∧ v3 (bsE ce1) := by
  obtain ⟨hE, ⟨pn, F, X, W, K, R, T', S, P, hJ, h24⟩, hm⟩ := hD
  have hsd := (hJ.T hc8).2
  have hT34 := (hJ.T hc8).1
  have hT2 : T' = T + 1 := by
    have := hJ.2.2.2.1
    rw [h3] at this
    exact ((nI_eq (by omega) (by omega)).mp this).symm
  subst hT2
  obtain ⟨hR, hR4⟩ := hJ.2.2.1
  have e22 : w1 22 = nI R := (hE 2 (by decide)).trans hR
  have hR0 : ¬ R = 0 := fun q => hn (by rw [hR, q]; rfl)
  unfold tSc bsE
  rw [show cell ce1 2 = ce1 2 from cell_n (i := 2) (by decide), hR, e22, hsd]
  have hs : T % 2 = 0 ∧ (T + 1) % 2 = 1 ∨ T % 2 = 1 ∧ (T + 1) % 2 = 0 := by omega
  have hr : R = 1 ∨ R = 2 ∨ R = 3 := by omega
  unfold v3
  rcases hs with ⟨s1, s2⟩ | ⟨s1, s2⟩ <;> rw [s1, s2] <;> rcases hr with rfl | rfl | rfl <;> decide
theorem bs_e {np nc M : Nat} {tr pa ne who what dn va sd f67 : Nat → Int32} (hL : LR np nc tr pa ne who what) (hF : FR np dn va sd) (hM : M < 1000) (hg : f67 11 = nI nc) : ∀ fu (j p t : Nat) (ce pt w : Nat → Int32) (ft v bb en : Int32), DR np nc M ce w → ce 2 = 0 → (v = -1 ∧ t ≤ 8 ∨ v3 v) → t ≤ 9 → (en = 1 ∨ en = 2 ∨ en = 3) → mD nc ce ≤ j → 10 * mD nc ce + (9 - t) < fu →
    (bsL (bsT tr pa ne dn va nc (bsO tr pa ne dn va nc j (p + 1)) p) en (9 - t) t (v, (ce, pt, ft))).2.1 = ce ∧
    (∀ k, k < 20 * (ce 3).toNatClampNeg → (bsL (bsT tr pa ne dn va nc (bsO tr pa ne dn va nc j (p + 1)) p) en (9 - t) t (v, (ce, pt, ft))).2.2.1 k = pt k) ∧
    v3 (bsL (bsT tr pa ne dn va nc (bsO tr pa ne dn va nc j (p + 1)) p) en (9 - t) t (v, (ce, pt, ft))).1 ∧
    v3 (ndV (tCa f67) (tTu who what sd) fu w t (v, bb)).1 ∧
    (bsL (bsT tr pa ne dn va nc (bsO tr pa ne dn va nc j (p + 1)) p) en (9 - t) t (v, (ce, pt, ft))).1 ≤ (ndV (tCa f67) (tTu who what sd) fu w t (v, bb)).1 ∧
    ((bsL (bsT tr pa ne dn va nc (bsO tr pa ne dn va nc j (p + 1)) p) en (9 - t) t (v, (ce, pt, ft))).1 < en → (bsL (bsT tr pa ne dn va nc (bsO tr pa ne dn va nc j (p + 1)) p) en (9 - t) t (v, (ce, pt, ft))).1 = (ndV (tCa f67) (tTu who what sd) fu w t (v, bb)).1) ∧
    (¬ p = 0 → (bsL (bsT tr pa ne dn va nc (bsO tr pa ne dn va nc j (p + 1)) p) en (9 - t) t (v, (ce, pt, ft))).2.2.2 = ft) ∧
    (p = 0 → en = 3 → (v = -1 ∨ ft = bb) → (bsL (bsT tr pa ne dn va nc (bsO tr pa ne dn va nc j (p + 1)) p) en (9 - t) t (v, (ce, pt, ft))).2.2.2 = (ndV (tCa f67) (tTu who what sd) fu w t (v, bb)).2) := by
  have hp4 := hL.2.2.2.1
  have hc8 := hL.2.2.2.2
  intro fu
  induction fu with
  | zero => intro j p t ce pt w ft v bb en _ _ _ _ _ _ h; omega
  | succ fu ih =>
    intro j p t ce pt w ft v bb en hD hR hv ht9 hen hj hfu
    have hvm : v = -1 ∨ v3 v := hv.imp And.left id
    by_cases h9 : t = 9
    · subst h9
      have e : ndV (tCa f67) (tTu who what sd) (fu + 1) w 9 (v, bb) = (v, bb) := by rw [ndV, if_pos (Or.inl (by omega))]
      have v3v : v3 v := hv.resolve_left (fun q => by omega)
      rw [e]
      refine ⟨rfl, fun _ _ => rfl, v3v, v3v, Int32.le_refl _, fun _ => rfl, fun _ => rfl, fun _ _ q => ?_⟩
      rcases q with q | q
      · exfalso
        rw [q] at v3v
        revert v3v
        unfold v3
        decide
      · exact q
    have ht8 : t ≤ 8 := by omega
    rw [show 9 - t = (9 - (t + 1)) + 1 by omega]
    by_cases hw : v < en ∧ v < 2
    · have e1 : bsL (bsT tr pa ne dn va nc (bsO tr pa ne dn va nc j (p + 1)) p) en ((9 - (t + 1)) + 1) t (v, (ce, pt, ft)) = bsL (bsT tr pa ne dn va nc (bsO tr pa ne dn va nc j (p + 1)) p) en (9 - (t + 1)) (t + 1) (bsT tr pa ne dn va nc (bsO tr pa ne dn va nc j (p + 1)) p t (v, (ce, pt, ft))) := by
        rw [bsL]
        exact if_pos hw
      rw [e1]
      have hv2 : ¬ v = 2 := fun q => by rw [q] at hw; exact absurd hw.2 (by decide)
      have hc : ¬ (8 < t ∨ (v, bb).1 = 2) := fun q => q.elim (by omega) hv2
      obtain ⟨k1, k2⟩ := nd_can hc8 hp4 hD hR hg ht8
      by_cases hca : tCa f67 w (nI t) = 0
      · have hnq : ¬ (t = 8 ∨ (zib (nI t) (nI nc) = true ∧ dUn ce (nI t) = true)) := fun q => k1.mpr (k2.mpr q) hca
        have e2 : ndV (tCa f67) (tTu who what sd) (fu + 1) w t (v, bb) = ndV (tCa f67) (tTu who what sd) fu w (t + 1) (v, bb) := by rw [ndV, if_neg hc, if_pos hca]
        rw [bsT_1 (z := (ce, pt, ft)) hnq, e2]
        have t8 : t ≠ 8 := fun q => hnq (Or.inl q)
        exact ih j p (t + 1) ce pt w ft v bb en hD hR (by rcases hv with ⟨h1, h2⟩ | h1; exact Or.inl ⟨h1, by omega⟩; exact Or.inr h1) (by omega) hen hj (by omega)
      · have hq := k2.mp (k1.mp hca)
        have hok := turn_ok hL hF hD (by omega) hR (k1.mp hca)
        obtain ⟨T, hT, hT35⟩ := hD.T hc8
        have h13 : dPl tr pa ne dn va ce (nI t) 3 = nI (T + 1) := by rw [hok.2.2.2.2, hT, nI_1]
        have hsw : w 24 = nI (T % 2) := by
          obtain ⟨-, ⟨pn, F, X, W, K, R, T', S, P, hJ, h24⟩, -⟩ := hD
          have : T' = T := by
            have h9 := hJ.2.2.2.1
            rw [hT] at h9
            exact ((nI_eq (by omega) (by have := (hJ.T hc8).1; omega)).mp h9).symm
          rw [← this]; exact h24
        have e22 : tTu who what sd w (nI t) 22 = dPl tr pa ne dn va ce (nI t) 2 := hok.1.1 2 (by decide)
        -- what the child comes to
        obtain ⟨n, hn3, hR3, hle, heq, hR1, hRp, hRf, hN⟩ : ∃ n : Int32, v3 n ∧ v3 (bsO tr pa ne dn va nc j (p + 1) (2 - v) (dPl tr pa ne dn va ce (nI t), dRem ce pt, ft)).1 ∧ (bsO tr pa ne dn va nc j (p + 1) (2 - v) (dPl tr pa ne dn va ce (nI t), dRem ce pt, ft)).1 ≤ n ∧ ((bsO tr pa ne dn va nc j (p + 1) (2 - v) (dPl tr pa ne dn va ce (nI t), dRem ce pt, ft)).1 < 2 - v → (bsO tr pa ne dn va nc j (p + 1) (2 - v) (dPl tr pa ne dn va ce (nI t), dRem ce pt, ft)).1 = n) ∧ (bsO tr pa ne dn va nc j (p + 1) (2 - v) (dPl tr pa ne dn va ce (nI t), dRem ce pt, ft)).2.1 = dPl tr pa ne dn va ce (nI t) ∧ (∀ k, k < 20 * (T + 1) → (bsO tr pa ne dn va nc j (p + 1) (2 - v) (dPl tr pa ne dn va ce (nI t), dRem ce pt, ft)).2.2.1 k = dRem ce pt k) ∧ (bsO tr pa ne dn va nc j (p + 1) (2 - v) (dPl tr pa ne dn va ce (nI t), dRem ce pt, ft)).2.2.2 = ft ∧ ndV (tCa f67) (tTu who what sd) (fu + 1) w t (v, bb) = ndV (tCa f67) (tTu who what sd) fu w (t + 1) (mgV (2 - n) t (v, bb)) := by
          by_cases hp : 0 < tTu who what sd w (nI t) 22
          · have hne : ¬ dPl tr pa ne dn va ce (nI t) 2 = 0 := fun q => by rw [e22, q] at hp; exact absurd hp (by decide)
            have eO : bsO tr pa ne dn va nc j (p + 1) (2 - v) (dPl tr pa ne dn va ce (nI t), dRem ce pt, ft) = (bsE (dPl tr pa ne dn va ce (nI t)), (dPl tr pa ne dn va ce (nI t), dRem ce pt, ft)) := by
              cases j with
              | zero => rfl
              | succ j =>
                rw [bsO]
                exact if_neg (by rw [dGo_f hne]; decide)
            obtain ⟨g1, g2⟩ := be_e hc8 hok.2.1 h13 hT35 hne
            refine ⟨bsE (dPl tr pa ne dn va ce (nI t)), g2, ?_⟩
            rw [eO]
            refine ⟨g2, Int32.le_refl _, fun _ => rfl, rfl, fun _ _ => rfl, rfl, ?_⟩
            rw [ndV, if_neg hc, if_neg hca, if_pos hp, hsw]
            have g3 : tSc (tTu who what sd w (nI t)) (nI (T % 2)) = 2 - bsE (dPl tr pa ne dn va ce (nI t)) := g1
            rw [g3]
          · have q0 : dPl tr pa ne dn va ce (nI t) 2 = 0 := by
              rw [e22] at hp
              obtain ⟨-, ⟨pn, F, X, W, K, R, T, S, P, hJ, -⟩, -⟩ := hok.2.1
              obtain ⟨hR, hR4⟩ := hJ.2.2.1
              rw [hR] at hp ⊢
              by_cases z : R = 0
              · rw [z]; rfl
              · exact absurd (nI_lt (a := 0) (Nat.pos_of_ne_zero z) (by omega)) hp
            obtain ⟨d1, d2⟩ := hok.2.2.1 q0
            have d3 := d2 (nI9 ht8)
            have hgo : dGo (dPl tr pa ne dn va ce (nI t)) = true := by
              obtain ⟨A, B, hA, hB, hAB, eA, eB⟩ := d1.two hp4
              unfold dGo dEx
              rw [show cell (dPl tr pa ne dn va ce (nI t)) 0 = dPl tr pa ne dn va ce (nI t) 0 from cell_n (i := 0) (by decide), show cell (dPl tr pa ne dn va ce (nI t)) 2 = dPl tr pa ne dn va ce (nI t) 2 from cell_n (i := 2) (by decide), eA, q0]
              have := nI_nm1 (a := A) (by omega)
              simp [this]
            obtain ⟨j', rfl⟩ : ∃ j', j = j' + 1 := ⟨j - 1, by omega⟩
            have eO : bsO tr pa ne dn va nc (j' + 1) (p + 1) (2 - v) (dPl tr pa ne dn va ce (nI t), dRem ce pt, ft) = bsL (bsT tr pa ne dn va nc (bsO tr pa ne dn va nc j' (p + 1 + 1)) (p + 1)) (2 - v) (9 - 0) 0 (-1, (dPl tr pa ne dn va ce (nI t), dRem ce pt, ft)) := by
              rw [bsO]
              exact if_pos hgo
            have hen2 : 2 - v = 1 ∨ 2 - v = 2 ∨ 2 - v = 3 := by
              rcases hvm with rfl | rfl | rfl | rfl
              · exact Or.inr (Or.inr rfl)
              · exact Or.inr (Or.inl rfl)
              · exact Or.inl rfl
              · exact absurd rfl hv2
            obtain ⟨c1, c2, c3, c4, c5, c6, c7, -⟩ := ih j' (p + 1) 0 (dPl tr pa ne dn va ce (nI t)) (dRem ce pt) (tTu who what sd w (nI t)) ft (-1) 0 (2 - v) d1 q0 (Or.inl ⟨rfl, by omega⟩) (by omega) hen2 (by omega) (by omega)
            rw [h13, nI_clamp (show T + 1 < 2 ^ 31 by omega)] at c2
            refine ⟨(ndV (tCa f67) (tTu who what sd) fu (tTu who what sd w (nI t)) 0 (-1, 0)).1, c4, ?_⟩
            rw [eO]
            refine ⟨c3, c5, c6, c1, c2, c7 (Nat.succ_ne_zero p), ?_⟩
            rw [ndV, if_neg hc, if_neg hca, if_neg hp]
        rw [hN]
        generalize hRR : bsO tr pa ne dn va nc j (p + 1) (2 - v) (dPl tr pa ne dn va ce (nI t), dRem ce pt, ft) = R at hR3 hle heq hR1 hRp hRf
        have hback : dTB R.2.1 R.2.2.1 1 = ce := by
          rw [hR1]
          have h1 := dTB_n (pt := R.2.2.1) (n := 1) h13 (by omega) (Nat.le_refl 1) (by omega)
          rw [show nI 1 = 1 from rfl] at h1
          rw [h1]
          funext k
          by_cases k20 : k < 20
          · rw [if_pos k20, show 20 * (T + 1 - 1) + k = 20 * T + k by rw [Nat.add_sub_cancel], hRp _ (by omega), dRem_n hT (by omega)]
            show (if 20 * T ≤ 20 * T + k ∧ 20 * T + k < 20 * T + 20 then ce (20 * T + k - 20 * T) else pt (20 * T + k)) = ce k
            rw [if_pos ⟨by omega, by omega⟩, Nat.add_sub_cancel_left]
          · rw [if_neg k20]
            exact dPl_hi (by omega)
        have hpt : ∀ k, k < 20 * T → R.2.2.1 k = pt k := fun k hk => by
          rw [hRp k (by omega), dRem_n hT (by omega)]
          exact if_neg (by omega)
        have eT : (ce 3).toNatClampNeg = T := by rw [hT, nI_clamp (by omega)]
        rw [eT]
        obtain ⟨s1, s2⟩ := st_3 hvm hR3 hn3 hle heq
        rw [bsT_2 (z := (ce, pt, ft)) hq hRR, hback]
        by_cases hl : v < 2 - n
        · rw [if_pos (s1.mpr hl), s2 hl]
          have em : mgV (2 - n) t (v, bb) = (2 - n, nI t) := if_pos hl
          rw [em]
          obtain ⟨i1, i2, i3, i4, i5, i6, i7, i8⟩ := ih j p (t + 1) ce R.2.2.1 w (if p = 0 then nI t else R.2.2.2) (2 - n) (nI t) en hD hR (Or.inr (two_3 hn3)) (by omega) hen hj (by omega)
          rw [eT] at i2
          refine ⟨i1, fun k hk => (i2 k hk).trans (hpt k hk), i3, i4, i5, i6, fun q => ?_, fun q1 q2 _ => ?_⟩
          · rw [i7 q, if_neg q]; exact hRf
          · exact i8 q1 q2 (Or.inr (by rw [if_pos q1]))
        · rw [if_neg (fun q => hl (s1.mp q)), hRf]
          have em : mgV (2 - n) t (v, bb) = (v, bb) := if_neg hl
          rw [em]
          have v3v : v3 v := by
            rcases hvm with rfl | h
            · exfalso
              rcases hn3 with rfl | rfl | rfl <;> exact hl (by decide)
            · exact h
          obtain ⟨i1, i2, i3, i4, i5, i6, i7, i8⟩ := ih j p (t + 1) ce R.2.2.1 w ft v bb en hD hR (Or.inr v3v) (by omega) hen hj (by omega)
          rw [eT] at i2
          exact ⟨i1, fun k hk => (i2 k hk).trans (hpt k hk), i3, i4, i5, i6, i7, i8⟩
    · have e1 : bsL (bsT tr pa ne dn va nc (bsO tr pa ne dn va nc j (p + 1)) p) en ((9 - (t + 1)) + 1) t (v, (ce, pt, ft)) = (v, (ce, pt, ft)) := by
        rw [bsL]
        exact if_neg hw
      rw [e1]
      have v3v : v3 v := by
        rcases hvm with rfl | h
        · exfalso
          rcases hen with rfl | rfl | rfl <;> exact hw (by decide)
        · exact h
      have n3 := nd_3 hL hF hM hg (fu + 1) ce w t (v, bb) hD hR hv ht9 hfu
      have hv2 : v < en → ndV (tCa f67) (tTu who what sd) (fu + 1) w t (v, bb) = (v, bb) := fun q => by
        have : v = 2 := by
          rcases v3v with rfl | rfl | rfl
          · exact absurd ⟨q, by decide⟩ hw
          · exact absurd ⟨q, by decide⟩ hw
          · rfl
        rw [ndV, if_pos (Or.inr this)]
      refine ⟨rfl, fun _ _ => rfl, v3v, n3.1, n3.2, fun q => by rw [hv2 q], fun _ => rfl, fun _ q2 q3 => ?_⟩
      have hl3 : v < en := by
        rw [q2]
        rcases v3v with rfl | rfl | rfl <;> decide
      rw [hv2 hl3]
      rcases q3 with q | q
      · exfalso
        rw [q] at v3v
        revert v3v
        unfold v3
        decide
      · exact q
