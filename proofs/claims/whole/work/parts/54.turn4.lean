theorem upd_cm {f : Nat → Int32} {a b : Nat} {v w : Int32} (h : a ≠ b) : upd (upd f a v) b w = upd (upd f b w) a v := by
  funext k
  by_cases h1 : k = a
  · subst h1; rw [upn h, ups, ups]
  · by_cases h2 : k = b
    · subst h2; rw [ups, upn h1, ups]
    · rw [upn h2, upn h1, upn h1, upn h2]
/-- the reference's row behind what is said, foul and all, by places -/
def rS6 (r : Nat → Int32) (s tp c : Nat) (ef w t : Int32) : Nat → Int32 := upd (upd (upd (upd (upd (upd r (28 - s) (r (28 - s) + ef)) (33 + 4 * (1 - s) + tp) (r (33 + 4 * (1 - s) + tp) + 1)) 25 (r 25 ||| (1 <<< (nI c &&& 31)))) (31 + s) (r (31 + s) + w)) 26 0) (29 + s) (r (29 + s) + if (if t = 0 then (1 : Int32) else 0) = 0 then 0 else 1)
theorem rS6_E {ce r : Nat → Int32} {s tp c : Nat} {k ef w t : Int32} (h : ER1 (upd ce (6 + s) k) r) (hs : s < 2) (htp : tp < 4) : ER1 (kS6 ce s tp c k ef w t) (rS6 r s tp c ef w t) := by
  have q28 : 28 - s = qx (6 + (1 - s)) := by unfold qx; rw [if_neg (by omega)]; omega
  have q33 : 33 + 4 * (1 - s) + tp = qx (12 + 4 * (1 - s) + tp) := by unfold qx; rw [if_neg (by omega)]; omega
  have q31 : 31 + s = qx (10 + s) := by unfold qx; rw [if_neg (by omega)]; omega
  have q29 : 29 + s = qx (8 + s) := by unfold qx; rw [if_neg (by omega)]; omega
  have e28 : r (28 - s) = ce (6 + (1 - s)) := by rw [q28, h _ (by omega), upn (by omega)]
  have e33 : r (33 + 4 * (1 - s) + tp) = ce (12 + 4 * (1 - s) + tp) := by rw [q33, h _ (by omega), upn (by omega)]
  have e25 : r 25 = ce 4 := by rw [show 25 = qx 4 from rfl, h _ (by omega), upn (by omega)]
  have e31 : r (31 + s) = ce (10 + s) := by rw [q31, h _ (by omega), upn (by omega)]
  have e29 : r (29 + s) = ce (8 + s) := by rw [q29, h _ (by omega), upn (by omega)]
  have hb : ER1 (kS5 ce s tp c k ef w) (upd (upd (upd (upd (upd r (28 - s) (r (28 - s) + ef)) (33 + 4 * (1 - s) + tp) (r (33 + 4 * (1 - s) + tp) + 1)) 25 (r 25 ||| (1 <<< (nI c &&& 31)))) (31 + s) (r (31 + s) + w)) 26 0) := by
    unfold kS5
    rw [upd_cm (a := 25) (b := 31 + s) (by omega)]
    exact ((((h.u q28 (by rw [e28])).u q33 (by rw [e33])).u q31 (by rw [e31])).u rfl (by rw [e25])).u rfl rfl
  unfold rS6 kS6
  by_cases c1 : t = 0
  · rw [if_pos c1, if_neg (by rw [if_pos c1]; decide)]
    exact hb.u q29 (by rw [e29])
  · rw [if_neg c1, if_pos (by rw [if_neg c1]), Int32.add_zero]
    have hx := hb.u (k := 8 + s) (j := 29 + s) (v := kS5 ce s tp c k ef w (8 + s)) (w := r (29 + s)) q29 (by
      rw [e29]
      unfold kS5
      rw [upn (by omega), upn (by omega), upn (by omega), upn (by omega), upn (by omega), upn (by omega)])
    rw [upd_id] at hx
    exact hx
theorem rS6_o {r : Nat → Int32} {s tp c k : Nat} {ef w t : Int32} (hs : s < 2) (htp : tp < 4) (hk : k < 25 ∨ 41 ≤ k) : rS6 r s tp c ef w t k = r k := by
  unfold rS6
  rw [upn (by omega), upn (by omega), upn (by omega), upn (by omega), upn (by omega), upn (by omega)]
theorem rS6_R {r : Nat → Int32} {s tp c : Nat} {ef w t : Int32} (h : OB r) (hs : s < 2) (htp : tp < 4) : OB (rS6 r s tp c ef w t) := by
  unfold rS6
  exact (((((h.u (by unfold okW; omega)).u (by unfold okW; omega)).u (by unfold okW; omega)).u (by unfold okW; omega)).u (by unfold okW; omega)).u (by unfold okW; omega)
theorem rS6_L {po me lo r : Nat → Int32} {s tp c : Nat} {ef w t : Int32} (h : LGR po me lo r) (hs : s < 2) (htp : tp < 4) : LGR po me lo (rS6 r s tp c ef w t) := by
  unfold rS6
  exact (((((h.n (by omega)).n (by omega)).n (by omega)).n (by omega)).n (by omega)).n (by omega)
theorem says_n {np nc : Nat} {tr pa ne who what dn va sd r : Nat → Int32} {s b c tp k0 : Nat} (hL : LR np nc tr pa ne who what) (hF : FR np dn va sd) (hs : s < 2) (h24 : r 24 = nI s) (hot : (if nI s = 0 then r 21 else r 20) = nI b) (hb : b < np) (hc : c < nc) (htp : what (5 * c) = nI tp) (htp4 : tp < 4) (hk : r (33 + 4 * (1 - s) + tp) = nI k0) (hk0 : k0 < 31) :
    w_X11_says_73_73 who what sd r c = (let t := tru ne dn (nI c) (nI b); let ef := effB pa ne dn (nI c) (nI b) (sd (4 + 4 * b + tp)) (nI k0); let q := rS6 r s tp c ef (what (5 * c + 2)) t; if (r (29 + s) + if (if t = 0 then (1 : Int32) else 0) = 0 then 0 else 1) = 3 then w_X11_over_73_73 q (nI (2 - s)) else if r (28 - s) + ef < who (6 * b) then q else w_X11_over_73_73 q (nI (1 + s))) := by
  have hp4 := hL.2.2.2.1
  have kb : (nI b).toNatClampNeg = b := nI_clamp (by omega)
  have ks : (nI s).toNatClampNeg = s := nI_clamp (by omega)
  have kt : (nI tp).toNatClampNeg = tp := nI_clamp (by omega)
  have kk : (nI k0).toNatClampNeg = k0 := nI_clamp (by omega)
  have i2 : (2 : Int32) - nI s = nI (2 - s) := pk_sub (a := 2) (by omega)
  have i1 : (1 : Int32) + nI s = nI (1 + s) := nI_add 1 s
  have hv := (hF.2 b tp hb htp4).2
  unfold w_X11_says_73_73 rS6
  dsimp only
  rw [(effB_e hL hF hc hb hv hk0).1, (tru_e hL hF hc hb).1]
  simp only [h24, hot, kb, ks, kt, kk, htp, hk, i1, i2, a_X11_vanityOf]
/-- what is known of what is said -/
theorem rTc {np nc : Nat} {tr pa ne who what dn va sd ce r : Nat → Int32} {s a b x y c tp k0 f ln e0 z0 : Nat} {w : Int32} (h : TB np ce r s a b x) (hL : LR np nc tr pa ne who what) (hF : FR np dn va sd) (hy : who (6 * a + 1) = nI y) (hy1 : y < 100) (hc : c < nc) (htp : what (5 * c) = nI tp) (htp4 : tp < 4) (hk : ce (12 + 4 * (1 - s) + tp) = nI k0) (hk0 : k0 < 31) (hf : ce (8 + s) = nI f) (hf2 : f < 3) (hln : who (6 * b) = nI ln) (hln1 : ln < 1000) (hz : ce (6 + (1 - s)) = nI z0) (hz0 : z0 < 1100) (hef : effB pa ne dn (nI c) (nI b) (sd (4 + 4 * b + tp)) (nI k0) = nI e0) (he0 : e0 < 82) :
    TR ce r (kTs ce s tp c (nI (x - y)) (nI e0) (what (5 * c + 2)) (tru ne dn (nI c) (nI b)) (nI ln)) (w_X11_turns_73_73 who what sd r (nI c)) s := by
  have hbig := h
  have hown := h.own
  have hc8 := hL.2.2.2.2
  obtain ⟨h1, h2, h3, h4, h5, h6, h7, h8, h9, h10, h11, h12, h13, h14⟩ := h
  have ka : (nI a).toNatClampNeg = a := nI_clamp (by omega)
  have ks : (nI s).toNatClampNeg = s := nI_clamp (by omega)
  have kc : (nI c).toNatClampNeg = c := nI_clamp (by omega)
  have q27 : 27 + s = qx (6 + s) := by unfold qx; rw [if_neg (by omega)]; omega
  have q29 : 29 + s = qx (8 + s) := by unfold qx; rw [if_neg (by omega)]; omega
  have q28 : 28 - s = qx (6 + (1 - s)) := by unfold qx; rw [if_neg (by omega)]; omega
  have q33 : 33 + 4 * (1 - s) + tp = qx (12 + 4 * (1 - s) + tp) := by unfold qx; rw [if_neg (by omega)]; omega
  have e27 : r (27 + s) = nI x := by rw [q27, h1 _ (by omega), h11]
  have e29 : r (29 + s) = nI f := by rw [q29, h1 _ (by omega), hf]
  have e28 : r (28 - s) = nI z0 := by rw [q28, h1 _ (by omega), hz]
  have e33 : r (33 + 4 * (1 - s) + tp) = nI k0 := by rw [q33, h1 _ (by omega), hk]
  have e23 : r 23 = ce 3 := h1 3 (by decide)
  have hco := (cool_e (x := x) (y := y) (by omega) (by omega)).2
  have c8 : ¬ nI c = 8 := fun q => by have := (nI_eq (b := 8) (by omega) (by decide)).mp q; omega
  have c9 : ¬ nI c = 9 := fun q => by have := (nI_eq (b := 9) (by omega) (by decide)).mp q; omega
  have hE1 : ER1 (upd ce (6 + s) (nI (x - y))) (upd r (27 + s) (nI (x - y))) := h1.u q27 rfl
  have hO1 : OB (upd r (27 + s) (nI (x - y))) := h13.1.u (by unfold okW; omega)
  unfold w_X11_turns_73_73
  rw [if_neg c9, if_neg c8]
  simp only [h2, hown.1, ka, ks, kc, hy, e27, hco, i1s h3]
  rw [says_n (r := upd r (27 + s) (nI (x - y))) hL hF h3 (by rw [upn (by omega)]; exact h2) (by rw [upn (by omega), upn (by omega)]; exact hown.2) h8 hc htp htp4 (by rw [upn (by omega)]; exact e33) hk0]
  dsimp only
  rw [hef, upn (show 29 + s ≠ 27 + s by omega), upn (show 28 - s ≠ 27 + s by omega), e29, e28, hln]
  generalize ht : tru ne dn (nI c) (nI b) = t
  have hq := rS6_E (c := c) (ef := nI e0) (w := what (5 * c + 2)) (t := t) hE1 h3 htp4
  have hqo := fun k hk => rS6_o (r := upd r (27 + s) (nI (x - y))) (s := s) (tp := tp) (c := c) (k := k) (ef := nI e0) (w := what (5 * c + 2)) (t := t) h3 htp4 hk
  have hqR := rS6_R (c := c) (ef := nI e0) (w := what (5 * c + 2)) (t := t) hO1 h3 htp4
  have hqL := fun po me lo (g : LGR po me lo r) => rS6_L (c := c) (ef := nI e0) (w := what (5 * c + 2)) (t := t) (g.n (j := 27 + s) (v := nI (x - y)) (by omega)) h3 htp4
  generalize rS6 (upd r (27 + s) (nI (x - y))) s tp c (nI e0) (what (5 * c + 2)) t = q at hq hqo hqR hqL
  have hf3 : (nI f + if (if t = 0 then (1 : Int32) else 0) = 0 then 0 else 1) = if t = 0 then nI f + 1 else nI f := by
    by_cases c1 : t = 0
    · rw [if_pos c1, if_pos c1]; rfl
    · rw [if_neg c1, if_neg c1]; exact Int32.add_zero _
  rw [hf3]
  have hg : ∃ g, g ≤ 3 ∧ (if t = 0 then nI f + 1 else nI f) = nI g := by
    by_cases c1 : t = 0
    · exact ⟨f + 1, by omega, by rw [if_pos c1, nI_1]⟩
    · exact ⟨f, by omega, by rw [if_neg c1]⟩
  obtain ⟨g, hg3, hge⟩ := hg
  rw [hge]
  unfold kTs kS7
  rw [hf, hge, hz, nI_add]
  have p3 : (nI g = 3) = (g = 3) := propext (nI_eq (b := 3) (by omega) (by decide))
  have p3' : (3 ≤ nI g) = (g = 3) := propext ((nI_leI (a := 3) (by decide) (by omega)).trans (by omega))
  have pl : (nI (z0 + e0) < nI ln) = (z0 + e0 < ln) := propext (nI_ltI (by omega) (by omega))
  have pl' : (nI ln ≤ nI (z0 + e0)) = (¬ z0 + e0 < ln) := propext ((nI_leI (by omega) (by omega)).trans (by omega))
  simp only [p3, p3', pl, pl']
  have q20 : q 20 = r 20 := by rw [hqo 20 (by omega), upn (by omega)]
  have q21 : q 21 = r 21 := by rw [hqo 21 (by omega), upn (by omega)]
  have q23 : q 23 = ce 3 := by rw [hqo 23 (by omega), upn (by omega), e23]
  have fin : ∀ (ce1 q1 : Nat → Int32), ER1 ce1 q1 → q1 23 = ce 3 → (∀ k, k < 20 ∨ 63 ≤ k → q1 k = r k) → (∀ po me lo, LGR po me lo r → (∀ p, p < 6 → nb (me p) 2000) → LGR (if ce1 2 = 0 then po else lcP po (ce 0) (ce 1) (ce1 2)) (if ce1 2 = 0 then me else lcM me (ce 0) (ce 1)) (if ce1 2 = 0 then lo else lcL lo me (ce 0) (ce 1) (ce1 2)) q1) →
      TR ce r (upd ce1 3 (ce 3 + 1)) (upd (upd q1 24 (nI (1 - s))) 23 (q1 23 + 1)) s := by
    intro ce1 q1 a1 a2 a3 a4
    refine ⟨(a1.n (by omega)).u rfl (by rw [a2]), by rw [upn (by omega), ups], ?_, ?_⟩
    · intro k hk
      rw [upn (by omega), upn (by omega)]; exact a3 k hk
    · intro po me lo hl hme
      rw [upn (show 2 ≠ 3 by omega)]
      exact ((a4 po me lo hl hme).n (by omega)).n (by omega)
  have hs7 : ∀ k, k < 20 ∨ 63 ≤ k → q k = r k := fun k hk => by rw [hqo k (by omega), upn (by omega)]
  have ov : ∀ z : Nat, 0 < z → z < 3 → TR ce r (upd (upd (kS6 ce s tp c (nI (x - y)) (nI e0) (what (5 * c + 2)) t) 2 (nI z)) 3 (ce 3 + 1)) (upd (upd (w_X11_over_73_73 q (nI z)) 24 (nI (1 - s))) 23 (w_X11_over_73_73 q (nI z) 23 + 1)) s := by
    intro z hz1 hz3
    refine fin _ _ (over_ER hq) (by rw [over_lo (by decide) (by decide)]; exact q23) (fun k hk => by rw [over_hi hqR hk]; exact hs7 k hk) ?_
    intro po me lo hl hme
    have hzn : ¬ nI z = 0 := nI_ne0 hz1 (by omega)
    rw [ups, if_neg hzn, if_neg hzn, if_neg hzn]
    exact LGo hbig q20 q21 po me lo (hqL po me lo hl) hme
  by_cases d1 : g = 3
  · rw [if_pos d1, if_pos d1]
    exact ov (2 - s) (by omega) (by omega)
  · rw [if_neg d1, if_neg d1]
    by_cases d2 : z0 + e0 < ln
    · rw [if_pos d2, if_neg (fun k => k d2)]
      refine fin _ _ hq q23 hs7 ?_
      intro po me lo hl hme
      have e2 : kS6 ce s tp c (nI (x - y)) (nI e0) (what (5 * c + 2)) t 2 = 0 := by
        have h9 := hq 2 (by omega)
        rw [← h9]
        show q 22 = 0
        rw [hqo 22 (by omega), upn (by omega)]
        exact (h1 2 (by decide)).trans h14
      rw [e2, if_pos rfl, if_pos rfl, if_pos rfl]
      exact hqL po me lo hl
    · rw [if_neg d2, if_pos d2]
      exact ov (1 + s) (by omega) (by omega)
