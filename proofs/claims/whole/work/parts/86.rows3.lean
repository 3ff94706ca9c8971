theorem rr_b {nc y S : Nat} {tq : Nat → Bool} {tp : Nat → Nat} {ef : Nat → Nat → Nat} {ck : Nat → Int32} (hc8 : nc ≤ 8) : ∀ m p bl st (cn : Nat → Nat) w, st < 256 → (rr nc tq tp ef ck y S m p bl st cn w).1 = true → (rr nc tq tp ef ck y S m p bl st cn w).2 < 256
  | 0, _, _, _, _, _, h, _ => h
  | m + 1, p, bl, st, cn, w, h, q => by
    rw [rr] at q ⊢
    by_cases c : (w / 8 ^ m < nc ∧ tq (w / 8 ^ m) = true) ∧ (S ||| st) / 2 ^ (w / 8 ^ m) % 2 = 0 ∧ nI (bl + ef (w / 8 ^ m) (cn (tp (w / 8 ^ m)))) = ck p
    · rw [if_pos c] at q ⊢
      refine rr_b hc8 m _ _ _ _ _ ?_ q
      exact Nat.or_lt_two_pow (n := 8) h (Nat.pow_lt_pow_right (by decide) (by omega))
    · rw [if_neg c] at q
      exact Bool.noConfusion (show false = true from q)
theorem sh_n : ∀ kc, kc < 5 → (1 : Int32) <<< ((3 * nI kc) &&& 31) = nI (8 ^ kc) ∧ 8 ^ kc ≤ 4096 := by decide +kernel
theorem rows_e {np nc kc M : Nat} {tr pa ne who what dn va po me lo ce pt s b f56 f79 f67 f64 f65 f66 : Nat → Int32} {sd : Int32} (hL : LR np nc tr pa ne who what) (h : SR np nc M dn va po me lo ce pt sd s b) (hD : DR np nc M ce s) (hk4 : kc ≤ 4) (hg : f67 11 = nI nc) (hck : ∀ k, k < kc → f56 k = f79 k) :
    ∃ (R : Nat → Bool × Nat) (S : Nat), S < 256 ∧ cell ce 4 = nI S ∧ zR kc S 0 0 (faE tr pa ne dn va f56 ce f65 f64 f66 kc nc) (zfold (yF R 0) (0, (0, 0)) (8 ^ kc)) ∧ rwH who what s f79 f67 kc R ∧ ∀ W, W < 8 ^ kc → (R W).1 = true → (R W).2 < 256 := by
  have hp4 := hL.2.2.2.1
  have hc8 := hL.2.2.2.2
  have hF := h.1
  obtain ⟨hE, ⟨pn, F, X, W, K, R, T, S, P, hJ, h24⟩, hm⟩ := hD
  obtain ⟨hT, hsd⟩ := hJ.T hc8
  obtain ⟨h1, h2, h3, h4, h5, h6, h7, h8, h9, h10, h11, h12⟩ := hJ
  have hS := s256 h5.2 hc8
  have hcb := cb_8 S hS
  have hs : T % 2 < 2 := Nat.mod_lt _ (by decide)
  generalize hse : T % 2 = q at *
  have i1 : (1 : Int32) - nI q = nI (1 - q) := pk_sub (a := 1) (by omega)
  generalize ho : 1 - q = o at *
  have ho2 : o < 2 := by omega
  have ha := (h1 o ho2).2
  generalize hae : pn o = a at *
  obtain ⟨y, hy, hye⟩ := nb_e (hL.1 a ha).2.2
  have htp : ∀ c, c < 8 → what (5 * c) = nI (what (5 * c)).toNatClampNeg ∧ (what (5 * c)).toNatClampNeg < 4 := fun c hc => ⟨(hL.2.2.1 c hc).2, (hL.2.2.1 c hc).1⟩
  have hpt : ∀ c, c < nc → part pa (nI c) 0 = nI (what (5 * c)).toNatClampNeg := fun c hc => by
    show part pa (nI c) (nI 0) = _
    rw [part_e (by omega) (by decide), (hL.2.1 c hc).1 0 (by decide)]
    exact (htp c (by omega)).1
  have hv := fun c (hc : c < nc) => hF.2 a (what (5 * c)).toNatClampNeg ha (htp c (by omega)).2
  have hef := fun c k (hc : c < nc) (hk : k < 31) => effB_e (k := k) hL hF hc ha (hv c hc).2 hk
  have hag : a_X11_against s = nI a := by
    unfold a_X11_against
    rw [h24, show s 20 = ce 0 from hE 0 (by decide), show s 21 = ce 1 from hE 1 (by decide)]
    rcases (by omega : q = 0 ∨ q = 1) with w | w
    · rw [w, if_pos (show nI 0 = 0 from rfl), (h1 1 (by decide)).1, ← hae, ← ho, w]
    · rw [w, if_neg (by decide), (h1 0 (by decide)).1, ← hae, ← ho, w]
  have hX := h7 o ho2
  have e27 : s (27 + o) = ce (6 + o) := by
    have := hE (6 + o) (by omega)
    unfold qx at this
    rw [if_neg (by omega)] at this
    rw [show 27 + o = 21 + (6 + o) by omega]
    exact this
  have e33 : ∀ t, t < 4 → s (33 + 4 * o + t) = nI (K (4 * o + t)) := fun t ht => by
    have := hE (12 + (4 * o + t)) (by omega)
    unfold qx at this
    rw [if_neg (by omega)] at this
    rw [show 33 + 4 * o + t = 21 + (12 + (4 * o + t)) by omega, this]
    exact (h10 _ (by omega)).1
  have s25 : s 25 = nI S := (hE 4 (by decide)).trans h5.1
  have h8p : 8 ^ kc ≤ 4096 := (sh_n kc (by omega)).2
  refine ⟨rr nc (fun c => decide (¬ tru ne dn (nI c) (nI a) = 0)) (fun c => (what (5 * c)).toNatClampNeg) (fun c k => (effB pa ne dn (nI c) (nI a) (s (4 + 4 * a + (what (5 * c)).toNatClampNeg)) (nI k)).toNatClampNeg) f79 y S kc 0 (X o) 0 (fun t => K (4 * o + t)), S, hS, ?_, ?_, ?_, fun W _ hW => rr_b hc8 _ _ _ _ _ _ (by decide) hW⟩
  · exact (cell_n (i := 4) (by decide)).trans h5.1
  · have hx := ex_e (tr := tr) (pa := pa) (ne := ne) (dn := dn) (va := va) (ch := f56) (a := a) (kc := kc) (nc := nc) (y := y) (S := S) (tq := fun c => decide (¬ tru ne dn (nI c) (nI a) = 0)) (tp := fun c => (what (5 * c)).toNatClampNeg) (ef := fun c k => (effB pa ne dn (nI c) (nI a) (s (4 + 4 * a + (what (5 * c)).toNatClampNeg)) (nI k)).toNatClampNeg) (ck := f79) hc8 hk4 hS hy (fun c hc => ⟨hpt c hc, (htp c (by omega)).2⟩) (fun c hc => by
        show _ ↔ decide (¬ tru ne dn (nI c) (nI a) = 0) = false
        rw [decide_eq_false_iff_not, Classical.not_not]) (fun c k hc hk => by
        have h9 := (hef c k hc hk).2
        unfold effN
        rw [hpt c hc, vanO_e (by omega) (htp c (by omega)).2, ← (hv c hc).1]
        exact ⟨h9.2, h9.1⟩) (by
        show trait tr (nI a) (nI 1) = _
        rw [trait_e (by omega) (by decide), (hL.1 a ha).1 1 (by decide)]
        exact hye) (fun p hp => (rA_n (by omega) (by decide)).trans (hck p hp)) kc 0 4 (X o) 0 0 (fun t => K (4 * o + t)) (tmS ce f65 (nI o) 4) (f64, (f66, (0, -1))) (0, (0, 0)) (by omega) rfl (by have := hX.2; omega) (by decide) (Nat.zero_and _) (fun t ht => ⟨by have := (h10 (4 * o + t) (by omega)).2; show K (4 * o + t) ≤ 8 + 0; omega, by
        have key : ∀ n, n ≤ 4 → ∀ t, t < n → tmS ce f65 (nI o) n t = nI (K (4 * o + t)) := by
          intro n
          induction n with
          | zero => intro _ t ht; omega
          | succ n ih =>
            intro hn t ht
            rw [tmS_s, rP_n (by omega) (by decide)]
            by_cases w : t = n
            · subst w
              rw [ups, dTold_n ho2 (by omega), Nat.add_assoc]
              exact (h10 _ (by omega)).1
            · rw [upn w]
              exact ih (by omega) t (by omega)
        exact key 4 (Nat.le_refl _) t ht⟩) (by show 0 + 8 ^ kc ≤ 5000; omega) ⟨fun e he => absurd he (Nat.not_lt_zero _), rfl, fun w => absurd w (Nat.lt_irrefl 0), rfl, fun w => absurd w (Nat.lt_irrefl 0)⟩
    rw [Nat.zero_mul] at hx
    unfold faE
    rw [hsd, i1, dPer_n ho2, (h1 o ho2).1, hae, show cell ce (6 + nI o) = nI (X o) from (by
      show cell ce (nI 6 + nI o) = _
      rw [nI_add, cell_n (by omega)]
      exact hX.1), show cell ce 4 = nI (S ||| 0) from (by
      rw [Nat.or_zero]
      exact (cell_n (i := 4) (by decide)).trans h5.1)]
    exact hx
  · intro W hW rw
    have hx := ir_e (f67 := f67) (f69 := who) (f70 := what) (f72 := s) (f79 := f79) (a := a) (o := o) (kc := kc) (nc := nc) (y := y) (S := S) (W := W) (tq := fun c => decide (¬ tru ne dn (nI c) (nI a) = 0)) (tp := fun c => (what (5 * c)).toNatClampNeg) (ef := fun c k => (effB pa ne dn (nI c) (nI a) (s (4 + 4 * a + (what (5 * c)).toNatClampNeg)) (nI k)).toNatClampNeg) (ck := f79) hc8 hk4 hS hy (by omega) hg htp (fun c hc => by
        show _ ↔ decide (¬ tru ne dn (nI c) (nI a) = 0) = false
        obtain ⟨t1, t2⟩ := tru_e hL hF hc ha
        rw [decide_eq_false_iff_not, Classical.not_not, ← t1]
        rcases t2 with t2 | t2 | t2 <;> rw [t2] <;> decide) (fun c k hc hk => by
        obtain ⟨u1, u2⟩ := hef c k hc hk
        rw [show a_X11_vanityOf s a (what (5 * c)).toNatClampNeg = s (4 + 4 * a + (what (5 * c)).toNatClampNeg) from rfl, ← u1]
        exact ⟨u2.2, u2.1⟩) hye (fun _ _ => rfl) kc 0 (X o) 0 0 W (fun t => K (4 * o + t)) rw (by omega) hW (Nat.mod_eq_of_lt hW) (by have := hX.2; omega) (by decide) (fun t ht => by have := (h10 (4 * o + t) (by omega)).2; show K (4 * o + t) ≤ 8 + 0; omega) (fun c hc => e33 _ (htp c hc).2) (fun e he => absurd he (Nat.not_lt_zero _)) rfl
    rw [Nat.zero_mul, Nat.zero_add, Nat.or_zero] at hx
    have k24 : (s 24).toNatClampNeg = q := by rw [h24, nI_clamp (by omega)]
    have ka : (a_X11_against s).toNatClampNeg = a := by rw [hag, nI_clamp (by omega)]
    have k3 : 3 * nI kc = nI (3 * kc) := pk_mul 3 kc
    unfold a_X11_isRow w_X11_isRow_85
    rw [ka, k24, ho, e27, hX.1, s25, k3]
    exact hx
theorem inK {x : Int32} {kc : Nat} (hk : kc ≤ 4) : (a_X11_in x 0 (nI kc - 1) = 0 ∧ ¬ (0 ≤ x ∧ x < nI kc)) ∨ ∃ i, i < kc ∧ x = nI i ∧ ¬ a_X11_in x 0 (nI kc - 1) = 0 ∧ 0 ≤ x ∧ x < nI kc := by
  rw [inX]
  have e0 : (0 : Int32).toInt = 0 := rfl
  have hk2 : (nI kc - 1).toInt = (kc : Int) - 1 := by
    rcases (by omega : kc = 0 ∨ kc = 1 ∨ kc = 2 ∨ kc = 3 ∨ kc = 4) with rfl | rfl | rfl | rfl | rfl <;> rfl
  have hkk : (nI kc).toInt = (kc : Int) := nI_toInt (by omega)
  have hiff : (0 ≤ x ∧ x ≤ nI kc - 1) ↔ (0 ≤ x ∧ x < nI kc) := by
    rw [Int32.le_iff_toInt_le, Int32.le_iff_toInt_le, Int32.lt_iff_toInt_lt, hk2, hkk]
    omega
  by_cases h : 0 ≤ x ∧ x < nI kc
  · refine Or.inr ⟨x.toNatClampNeg, ?_, ?_, by rw [if_pos (hiff.mpr h)]; decide, h⟩
    · have h1 := Int32.le_iff_toInt_le.mp h.1
      have h2 := Int32.lt_iff_toInt_lt.mp h.2
      have : x.toNatClampNeg = x.toInt.toNat := rfl
      rw [hkk] at h2
      omega
    · have h1 := Int32.le_iff_toInt_le.mp h.1
      have h2 := Int32.lt_iff_toInt_lt.mp h.2
      have h3 : x.toNatClampNeg = x.toInt.toNat := rfl
      rw [hkk] at h2
      refine Int32.toInt_inj.mp ?_
      rw [nI_toInt (by omega)]
      omega
  · exact Or.inl ⟨if_neg (fun q => h (hiff.mp q)), h⟩
theorem cl_said {M : Nat} {μ : zH} {x : Int32} (hM : M < 1000) (h : WI M μ) : CL M μ mi_X10_said mi_X11_said [.inl x] := by
  obtain ⟨np, nc, kw, kc, kb, kn, hH, hT, hL, hS, hMm, hN⟩ := h
  have hH0 := hH
  obtain ⟨⟨p1, c1, w1, k1, b1, n1⟩, ⟨p2, c2, w2, k2, b2, n2⟩, hf, hp4, hc8, hw12, hk4, hb20, hn250⟩ := hH
  have hgo := SR.go hp4 hS
  obtain ⟨hTm, h24⟩ := SR.Tm hp4 hc8 (by omega) hS
  obtain ⟨hsh, hsh9⟩ := sh_n kc (by omega)
  have hRB : ¬ a_X11_goesOn (μ 72) = 0 → nb (μ 72 20) 4 ∧ nb (μ 72 21) 4 := fun q => by
    rcases hgo with g | g
    · exact absurd g.1 q
    · have := (g.2.2.2.2.1.RB hp4 hc8 (by omega)).1.1.1
      exact ⟨this.1, this.2.1⟩
  have h67 : w_X11_said2_67 (μ 67) (μ 72) = upd (μ 67) 0 0 := by unfold w_X11_said2_67; rw [ite_self]
  refine cl_mk (fun l X => e_X10_said (d := 18) c1 hc8 k1 hk4) (fun l X => e_X11_said2 (d := 21) k2 hk4 hL.1.2.2.1 hTm hRB h24 hsh hsh9) ?_ ⟨np, nc, kw, kc, kb, kn, WH.of hH0 rfl rfl rfl rfl h67, hT, hL, SR.mono hS (Nat.le_succ _), WM.mono hMm (Nat.le_succ _), hN⟩
  show a_X11_said2 (μ 67) (μ 69) (μ 70) (μ 72) (μ 79) (μ 85) x kc (8 ^ kc) = a_X10_said (μ 2) (μ 3) (μ 4) (μ 21) (μ 24) (μ 25) (μ 54) (μ 56) (μ 63) (μ 64) (μ 65) (μ 66) x nc kc
  unfold a_X11_said2 a_X10_said
  rcases hgo with ⟨g1, g2⟩ | ⟨g1, g2, g3, g4, g5, g6⟩
  · rw [if_pos g1, g2, if_pos (show bz false = 0 from rfl)]
  rw [if_neg g1, g2, if_neg (show ¬ bz true = 0 by decide)]
  obtain ⟨R, S, hS8, hcS, hz, hrw, hR⟩ := rows_e (f56 := μ 56) (f79 := μ 79) (f67 := upd (μ 67) 0 0) (f64 := μ 64) (f65 := μ 65) (f66 := μ 66) hL.1 hS g5 hk4 c2 hN.2.1
  have hinK := inK (x := x) hk4
  obtain ⟨s1, s2⟩ := sd_e (f85 := μ 85) (x := x) hk4 hrw (fun q => by
    rcases hinK with ⟨v, -⟩ | ⟨i, hi, rfl, -⟩
    · exact absurd v q
    · rw [nI_clamp (by omega)]; exact hi) (8 ^ kc) (Nat.le_refl _)
  have hle := yF_le (R := R) (b := 0) (Y := (0, (0, 0))) (8 ^ kc)
  generalize zfold (yF R 0) (0, (0, 0)) (8 ^ kc) = Y at *
  generalize faE (μ 2) (μ 3) (μ 4) (μ 24) (μ 25) (μ 56) (μ 21) (μ 65) (μ 64) (μ 66) kc nc = z at *
  have hY : Y.1 < 5000 := by
    have : ((0, (0, 0)) : yT).1 = 0 := rfl
    omega
  obtain ⟨z1, z2, z3, z4, z5⟩ := hz
  have f6 : faR (μ 21) (μ 63) z 6 = nI Y.1 := z2
  rw [f6]
  by_cases q : x = -1
  · rw [if_pos q, if_pos q, s1]
  · rw [if_neg q, if_neg q, s2, k1]
    rcases hinK with ⟨v1, v2⟩ | ⟨i, hi, rfl, v1, v2, v3⟩
    · rw [if_pos (Or.inr v1), if_neg (fun u => v2 u.2)]
    · by_cases w : Y.1 = 0
      · rw [if_pos (Or.inl w), if_neg]
        rw [w]
        exact fun u => absurd u.1 (by decide)
      · have h0 : (0 : Int32) < nI Y.1 := nI_lt (a := 0) (by omega) (by omega)
        rw [if_neg (fun u => u.elim w v1), if_pos ⟨h0, v2, v3⟩, nI_clamp (show i < 2 ^ 31 by omega), rA_n (by omega) (by decide)]
        exact (z3 (by omega) i hi).symm
theorem cl_surely {M : Nat} {μ : zH} (hM : M < 1000) (h : WI M μ) : CL M μ mi_X10_surely mi_X11_surely [] := by
  obtain ⟨np, nc, kw, kc, kb, kn, hH, hT, hL, hS, hMm, hN⟩ := h
  have hH0 := hH
  obtain ⟨⟨p1, c1, w1, k1, b1, n1⟩, ⟨p2, c2, w2, k2, b2, n2⟩, hf, hp4, hc8, hw12, hk4, hb20, hn250⟩ := hH
  have hgo := SR.go hp4 hS
  obtain ⟨hTm, h24⟩ := SR.Tm hp4 hc8 (by omega) hS
  obtain ⟨hsh, hsh9⟩ := sh_n kc (by omega)
  have hRB : ¬ a_X11_goesOn (μ 72) = 0 → nb (μ 72 20) 4 ∧ nb (μ 72 21) 4 := fun q => by
    rcases hgo with g | g
    · exact absurd g.1 q
    · have := (g.2.2.2.2.1.RB hp4 hc8 (by omega)).1.1.1
      exact ⟨this.1, this.2.1⟩
  have h67 : w_X11_surely2_67 (μ 67) (μ 72) = upd (μ 67) 0 0 := by unfold w_X11_surely2_67; rw [ite_self]
  refine cl_mk (fun l X => e_X10_surely (d := 18) c1 hc8 k1 hk4) (fun l X => e_X11_surely2 (d := 21) k2 hk4 hL.1.2.2.1 hTm hRB h24 hsh hsh9) ?_ ⟨np, nc, kw, kc, kb, kn, WH.of hH0 rfl rfl rfl rfl h67, hT, hL, SR.mono hS (Nat.le_succ _), WM.mono hMm (Nat.le_succ _), hN⟩
  show a_X11_surely2 (μ 67) (μ 69) (μ 70) (μ 72) (μ 79) (μ 85) kc (8 ^ kc) = a_X10_surely (μ 2) (μ 3) (μ 4) (μ 21) (μ 24) (μ 25) (μ 56) (μ 63) (μ 64) (μ 65) (μ 66) nc kc
  unfold a_X11_surely2 a_X10_surely
  rcases hgo with ⟨g1, g2⟩ | ⟨g1, g2, g3, g4, g5, g6⟩
  · rw [if_pos g1, g2, if_pos (show bz false = 0 from rfl)]
  rw [if_neg g1, g2, if_neg (show ¬ bz true = 0 by decide)]
  obtain ⟨R, S, hS8, hcS, hz, hrw, hR⟩ := rows_e (f56 := μ 56) (f79 := μ 79) (f67 := upd (μ 67) 0 0) (f64 := μ 64) (f65 := μ 65) (f66 := μ 66) hL.1 hS g5 hk4 c2 hN.2.1
  obtain ⟨s1, s2⟩ := su_e (f85 := μ 85) hk4 hrw hR (8 ^ kc) (Nat.le_refl _)
  have hle := yF_le (R := R) (b := 0) (Y := (0, (0, 0))) (8 ^ kc)
  generalize zfold (yF R 0) (0, (0, 0)) (8 ^ kc) = Y at *
  generalize faE (μ 2) (μ 3) (μ 4) (μ 24) (μ 25) (μ 56) (μ 21) (μ 65) (μ 64) (μ 66) kc nc = z at *
  have hY : Y.1 < 5000 := by
    have : ((0, (0, 0)) : yT).1 = 0 := rfl
    omega
  obtain ⟨z1, z2, z3, z4, z5⟩ := hz
  have f7 : faR (μ 21) (μ 63) z 7 = (if z.2.2.1 = 0 then 0 else z.2.2.2 &&& (cell (μ 21) 4 ^^^ -1)) := rfl
  rw [f7, s1, z2, z4, hcS]
  by_cases w : Y.1 = 0
  · rw [w, if_pos rfl, if_pos rfl, if_pos (show nI 0 = 0 from rfl)]
  · have h0 : ¬ nI Y.1 = 0 := fun u => w ((nI_eq (b := 0) (by omega) (by decide)).mp u)
    obtain ⟨y1, y2⟩ := z5 (by omega)
    rw [if_neg w, if_neg w, if_neg h0, if_neg (nI_nm1 (by omega)), bs_2 hS8 y1 y2]
