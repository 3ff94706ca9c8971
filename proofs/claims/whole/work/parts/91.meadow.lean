def RI (n : Nat) (W0 U0 h0 : Nat → Int32) (r : mdT) : Prop := MI n r.1 ∧ (∀ k, k < 24 → r.2.1 k = W0 k) ∧ (∀ k, k < 40 → r.2.2.1 k = U0 k) ∧ (∀ c, c < 8 → nb (r.2.2.1 (40 + 5 * c)) 4) ∧ ∀ k, k = 2 ∨ 9 < k → k ≠ 12 → k ≠ 13 → r.1 k = h0 k
theorem clD_lo {L : Nat → Int32} {a0 n k : Nat} {z : (Nat → Int32) × (Nat → Int32)} (hk : k < a0 + 2) : ∀ i, (clD L a0 n z i).2 k = z.2 k
  | 0 => rfl
  | i + 1 => by
    show upd (clD L a0 n z i).2 (a0 + 2 + i) _ k = z.2 k
    rw [upn (by omega)]
    exact clD_lo hk i
theorem mdN_R {L W0 U0 h0 : Nat → Int32} {n : Nat} {r : mdT} (hn250 : n ≤ 250) (h : RI n W0 U0 h0 r) : RI n W0 U0 h0 (mdN L n r) := by
  obtain ⟨hM, hW, hU, hU4, hh⟩ := h
  have hM2 := (mdN_i (L := L) hM hn250).1
  refine ⟨hM2, ?_⟩
  clear hM2
  unfold mdN
  by_cases c : a_X11_faultOf r.1 ≤ 0
  · rw [if_pos c]
    refine ⟨fun k hk => ?_, fun k hk => ?_, fun c0 hc => ?_, fun k hk k12 k13 => ?_⟩
    · show w_X11_clause_69 (w_X11_advances_67 r.1 L n) L r.2.1 (r.1 6) n k = W0 k
      unfold w_X11_clause_69
      by_cases q : r.1 6 = 100
      · rw [if_pos q, clD_lo (by omega)]
        show upd (upd r.2.1 _ _) _ _ k = W0 k
        rw [upn (by omega), upn (by omega)]
        exact hW k hk
      · rw [if_neg q]; exact hW k hk
    · show w_X11_clause_70 (w_X11_advances_67 r.1 L n) L r.2.2.1 (r.1 6) n k = U0 k
      unfold w_X11_clause_70
      split
      · exact hU k hk
      · split
        · rw [upn (by omega), upn (by omega), upn (by omega), upn (by omega), upn (by omega)]
          exact hU k hk
        · exact hU k hk
    · show nb (w_X11_clause_70 (w_X11_advances_67 r.1 L n) L r.2.2.1 (r.1 6) n (40 + 5 * c0)) 4
      unfold w_X11_clause_70
      split
      · exact hU4 c0 hc
      · split
        · rw [upn (by omega), upn (by omega), upn (by omega), upn (by omega)]
          generalize (w_X11_advances_67 r.1 L n 13).toNatClampNeg = a
          by_cases e : c0 = a
          · subst e
            rw [ups]
            rcases num_in (f67 := w_X11_advances_67 r.1 L n) (lo := 0) (hi := 3) (ag := 0) with h1 | ⟨h1, h2⟩
            · rw [h1]; exact ⟨by decide, rfl⟩
            · obtain ⟨v, v1, -, v3⟩ := nbv (k := 0) (m := 3) rfl rfl (by decide) (by decide) h1 h2
              rw [v3]; exact nb_i (by omega) (by decide)
          · rw [upn (by omega)]
            exact hU4 c0 hc
        · exact hU4 c0 hc
    · show w_X11_ends_67 (w_X11_clause_67 (w_X11_advances_67 r.1 L n) L r.2.1 r.2.2.2 (r.1 6) n) L n k = h0 k
      rw [ends_o (by omega)]
      refine clause_Q (Q := fun g => g k = h0 k) (fun g lo hi ag hg => (nm_o (by omega)).trans hg) (fun g k' v hk' hg => (upn (by omega)).trans hg) ?_
      rw [adv_o (by omega)]
      exact hh k hk k12 k13
  · rw [if_neg c]
    refine ⟨hW, hU, hU4, fun k hk k12 k13 => ?_⟩
    show w_X11_fails_67 _ _ k = h0 k
    rw [fails_o (by omega)]
    exact hh k hk k12 k13
theorem mdS_R {L W0 U0 h0 : Nat → Int32} {n : Nat} (hn250 : n ≤ 250) : ∀ k (r : mdT), RI n W0 U0 h0 r → RI n W0 U0 h0 (mdS L n k r)
  | 0, _, h => h
  | k + 1, r, h => by
    rw [mdS]
    split
    · exact h
    · split
      · exact h
      · exact mdS_R hn250 k _ (mdN_R hn250 h)
theorem LR.cg {np nc : Nat} {tr pa ne who what who' what' : Nat → Int32} (h : LR np nc tr pa ne who what) (h1 : ∀ k, k < 24 → who' k = who k) (h2 : ∀ k, k < 40 → what' k = what k) : LR np nc tr pa ne who' what' := by
  obtain ⟨a1, a2, a3, a4, a5⟩ := h
  refine ⟨fun d hd => ⟨fun i hi => ?_, ?_, ?_⟩, fun c hc => ?_, fun c hc => ?_, a4, a5⟩
  · rw [h1 _ (by omega)]; exact (a1 d hd).1 i hi
  · rw [h1 _ (by omega)]; exact (a1 d hd).2.1
  · rw [h1 _ (by omega)]; exact (a1 d hd).2.2
  · obtain ⟨b1, ⟨x, y, b2, b3, b4, b5, b6⟩, b7, b8⟩ := a2 c hc
    refine ⟨fun i hi => ?_, ⟨x, y, b2, b3, ?_, ?_, b6⟩, ?_, ?_⟩
    · rw [h2 _ (by omega)]; exact b1 i hi
    · rw [h2 _ (by omega)]; exact b4
    · rw [h2 _ (by omega)]; exact b5
    · rw [h2 _ (by omega)]; exact b7
    · rw [h2 _ (by omega)]; exact b8
  · rw [h2 _ (by omega)]; exact a3 c hc
theorem LR.cg2 {np nc : Nat} {tr pa ne who what tr' pa' ne' : Nat → Int32} (h : LR np nc tr pa ne who what) (h1 : ∀ k, k < 24 → tr' k = tr k) (h2 : ∀ k, k < 40 → pa' k = pa k) (h3 : ∀ k, k < 8 → ne' k = ne k) : LR np nc tr' pa' ne' who what := by
  obtain ⟨a1, a2, a3, a4, a5⟩ := h
  refine ⟨fun d hd => ⟨fun i hi => ?_, (a1 d hd).2⟩, fun c hc => ?_, a3, a4, a5⟩
  · rw [h1 _ (by omega)]; exact (a1 d hd).1 i hi
  · obtain ⟨b1, ⟨x, y, b2, b3, b4, b5, b6⟩, b7, b8⟩ := a2 c hc
    refine ⟨fun i hi => ?_, ⟨x, y, b2, b3, b4, b5, ?_⟩, b7, b8⟩
    · rw [h2 _ (by omega)]; exact b1 i hi
    · rw [h3 _ (by omega)]; exact b6
/-- DEEDS and VANITIES at the start -/
theorem seI_v {G z : Nat → Int32} {a : Nat} : ∀ i, (∀ j, j < i → seI G a z i (4 + 4 * a + j) = G (6 * a + 2 + j)) ∧ ∀ k, k < 4 + 4 * a ∨ 4 + 4 * a + i ≤ k → seI G a z i k = z k
  | 0 => ⟨fun j hj => absurd hj (Nat.not_lt_zero _), fun _ _ => rfl⟩
  | i + 1 => by
    obtain ⟨i1, i2⟩ := seI_v (G := G) (z := z) (a := a) i
    have e1 : seI G a z (i + 1) = upd (seI G a z i) (4 + 4 * a + i) (G (6 * a + 2 + i)) := rfl
    rw [e1]
    refine ⟨fun j hj => ?_, fun k hk => ?_⟩
    · by_cases e : j = i
      · subst e; rw [ups]
      · rw [upn (by omega)]; exact i1 j (by omega)
    · rw [upn (by omega)]; exact i2 k (by omega)
theorem seO_v {E G z : Nat → Int32} : ∀ n, n ≤ 4 → (∀ d, d < n → seO E G z n d = E d) ∧ (∀ d t, d < n → t < 4 → seO E G z n (4 + 4 * d + t) = G (6 * d + 2 + t)) ∧ ∀ k, 20 ≤ k → seO E G z n k = z k
  | 0, _ => ⟨fun d hd => absurd hd (Nat.not_lt_zero _), fun d t hd => absurd hd (Nat.not_lt_zero _), fun _ _ => rfl⟩
  | n + 1, hn => by
    obtain ⟨i1, i2, i3⟩ := seO_v (E := E) (G := G) (z := z) n (by omega)
    have e1 : seO E G z (n + 1) = seI G n (upd (seO E G z n) n (E n)) 4 := rfl
    rw [e1]
    obtain ⟨s1, s2⟩ := seI_v (G := G) (z := upd (seO E G z n) n (E n)) (a := n) 4
    refine ⟨fun d hd => ?_, fun d t hd ht => ?_, fun k hk => ?_⟩
    · rw [s2 _ (by omega)]
      by_cases e : d = n
      · subst e; rw [ups]
      · rw [upn e]; exact i1 d (by omega)
    · by_cases e : d = n
      · subst e; exact s1 t ht
      · rw [s2 _ (by omega), upn (by omega)]
        exact i2 d t (by omega) ht
    · rw [s2 _ (by omega), upn (by omega)]
      exact i3 k hk
theorem bgV_e {T va : Nat → Int32} {d t : Nat} (hd : d < 4) (ht : t < 4) : bgV T va 16 (4 * d + t) = T (6 * d + 2 + t) := by
  have h1 : nI (4 * d + t) / 4 = nI d := by
    have := pk_div (a := 4 * d + t) (d := 4) (by omega) (by decide) (by decide)
    rw [show (4 * d + t) / 4 = d by omega] at this
    exact this
  have h2 : nI (4 * d + t) - nI (4 * d + t) / 4 * 4 = nI t := by
    have := pk_rem (a := 4 * d + t) (d := 4) (by omega) (by decide) (by decide)
    rw [show (4 * d + t) % 4 = t by omega] at this
    exact this
  unfold bgV
  rw [if_pos (by omega), h2, h1, show (2 : Int32) + nI t = nI (2 + t) from nI_add 2 t, trait_e hd (by omega), Nat.add_assoc]
theorem SR.anew {np nc M : Nat} {M2 T P N F h W U E f2 f5 f15 f16 f17 f21 f22 f24 f25 f72 b : Nat → Int32} {sd : Int32} (hD : DT np nc M2 T P N F h W U E) (h63 : f72 63 = sd) (hsd : ¬ sd < 0) (hM : 0 < M) :
    SR np nc M (cpy 4 (cpy 4 F f5) f24) (bgV (cpy 24 T f2) f25 16) (clr 4 f15) (clr 6 f16) f17 (dBg (-1) (-1) f21) f22 sd (w_X11_settles_72 W E f72 np) b := by
  obtain ⟨-, hL, hv, hF, -⟩ := hD
  have hp4 := hL.2.2.2.1
  obtain ⟨s1, s2, s3⟩ := seO_v (E := E) (G := cpR W (fun k => W (24 + k)) 0 24) (z := cpR f72 (fun _ => 0) 0 63) np hp4
  have e20 : w_X11_settles_72 W E f72 np 20 = -1 := rfl
  have e21 : w_X11_settles_72 W E f72 np 21 = -1 := rfl
  have elo : ∀ k, k < 20 → w_X11_settles_72 W E f72 np k = seO E (cpR W (fun k => W (24 + k)) 0 24) (cpR f72 (fun _ => 0) 0 63) np k := fun k hk => by
    unfold w_X11_settles_72
    rw [upn (by omega), upn (by omega)]
  have ehi : ∀ k, 22 ≤ k → w_X11_settles_72 W E f72 np k = if k < 63 then 0 else f72 k := fun k hk => by
    unfold w_X11_settles_72
    rw [upn (by omega), upn (by omega), s3 k (by omega)]
    unfold cpR
    by_cases q : k < 63
    · rw [if_pos ⟨Nat.zero_le _, q⟩, if_pos q]
    · rw [if_neg (fun w => q w.2), if_neg q]
  have ez : ∀ k, 22 ≤ k → k < 63 → w_X11_settles_72 W E f72 np k = 0 := fun k h1 h2 => by rw [ehi k h1, if_pos h2]
  have ce0 : dBg (-1) (-1) f21 0 = -1 := by rw [dBg_n, upn (by decide), ups]
  have ce1 : dBg (-1) (-1) f21 1 = -1 := by rw [dBg_n, ups]
  have cez : ∀ i, 2 ≤ i → i < 20 → dBg (-1) (-1) f21 i = 0 := fun i h1 h2 => by rw [dBg_n, upn (by omega), upn (by omega), if_pos h2]
  have cl4 : ∀ i, i < 4 → clr 4 f15 i = 0 := fun i hi => if_pos hi
  have cl6 : ∀ i, i < 6 → clr 6 f16 i = 0 := fun i hi => if_pos hi
  refine ⟨⟨fun d hd => ?_, fun d t hd ht => ?_⟩, ⟨fun i hi => ?_, fun p hp => ?_, fun p k hp hk hkm => ?_⟩, fun p hp => ?_, fun p hp _ => cl6 p hp, fun p k hp hk hkm => ?_, ⟨?_, hsd⟩, fun i hi => ?_, Or.inl ⟨ce0, ce1, fun i hi => cez _ (by omega) (by omega), ez 24 (by decide) (by decide)⟩⟩
  · have e1 : cpy 4 (cpy 4 F f5) f24 d = F d := by
      unfold cpy
      rw [if_pos (by omega), if_pos (by omega)]
    rw [elo d (by omega), s1 d hd, e1, (hF d hd).1]
    exact ⟨rfl, (hF d hd).2⟩
  · have hc : cpy 24 T f2 (6 * d + 2 + t) = W (24 + (6 * d + 2 + t)) := by
      unfold cpy
      rw [if_pos (by omega), Nat.add_assoc]
      exact (hL.1 d hd).1 (2 + t) (by omega)
    have hg : cpR W (fun k => W (24 + k)) 0 24 (6 * d + 2 + t) = W (24 + (6 * d + 2 + t)) := by
      unfold cpR
      rw [if_pos ⟨Nat.zero_le _, by omega⟩]
    rw [elo _ (by omega), s2 d t hd ht, bgV_e (by omega) ht, hc, hg]
    exact ⟨rfl, hv d t hd ht⟩
  · rw [ez _ (by omega) (by omega), cl4 i hi]
  · rw [ez _ (by omega) (by omega), cl6 p hp]
  · rw [cl6 p hp] at hkm
    exact absurd hkm (Nat.not_lt_zero _)
  · rw [cl6 p hp]
    exact ⟨hM, rfl⟩
  · rw [cl6 p hp] at hkm
    exact absurd hkm (Nat.not_lt_zero _)
  · rw [ehi 63 (by decide), if_neg (by decide)]
    exact h63
  · by_cases h0 : i = 0
    · subst h0; rw [ce0]; exact e20
    · by_cases h1 : i = 1
      · subst h1; rw [ce1]; exact e21
      · rw [cez i (by omega) hi, ez _ (by unfold qx; split <;> omega) (by unfold qx; split <;> omega)]
theorem zrn_ex {l : Launch} {X : zX} {y : zMI} {d : Nat} {as : List zV} {Ψ : List zC} {μ μ1 : zH} {r : Option zV} (h : zRn l X y d as (Ψ, μ) r (Ψ, μ1)) : ∃ ν, ν = μ1 ∧ zRn l X y d as (Ψ, μ) r (Ψ, ν) := ⟨_, rfl, h⟩
