theorem DR.congr2 {np nc M : Nat} {ce ce' r r' : Nat → Int32} (h : DR np nc M ce r) (hc : ∀ i, i < 20 → ce' i = ce i) (hr : ∀ k, 20 ≤ k → k < 51 → r' k = r k) : DR np nc M ce' r' := by
  have h1 : DR np nc M ce (fun k => if k < 20 then r k else r' k) := h.congr (fun _ _ => rfl) (fun k hk => by
    show (if k < 20 then r k else r' k) = r k
    split
    · rfl
    · exact hr k (by omega) hk)
  obtain ⟨hE, ⟨pn, F, X, W, K, R, T, S, P, hJ, h24⟩, hm⟩ := h.congr (ce' := ce') (r' := r) hc (fun _ _ => rfl)
  refine ⟨fun i hi => ?_, ⟨pn, F, X, W, K, R, T, S, P, hJ, ?_⟩, fun p hp => ?_⟩
  · rw [hr _ (by unfold qx; split <;> omega) (by unfold qx; split <;> omega)]; exact hE i hi
  · rw [hr _ (by omega) (by omega)]; exact h24
  · rw [hr _ (by omega) (by omega)]; exact hm p hp
theorem LGR.congr2 {po me lo q q' : Nat → Int32} (h : LGR po me lo q) (h4 : ∀ k, 41 ≤ k → k < 63 → q' k = q k) : LGR po me lo q' :=
  ⟨fun i hi => by rw [h4 _ (by omega) (by omega)]; exact h.1 i hi, fun p hp => by rw [h4 _ (by omega) (by omega)]; exact h.2.1 p hp, fun p k hp hk hm => by rw [h4 _ (by omega) (by omega)]; exact h.2.2 p k hp hk hm⟩
theorem dTB_n {ce pt : Nat → Int32} {T n : Nat} (h : ce 3 = nI T) (hT : T < 40) (h1 : 1 ≤ n) (h2 : n ≤ T) : dTB ce pt (nI n) = fun k => if k < 20 then pt (20 * (T - n) + k) else ce k := by
  have e : (cell ce 3 - nI n) * 20 = nI (20 * (T - n)) := by
    show (cell ce (nI 3) - nI n) * nI 20 = _
    rw [cell_n (by decide), h, pk_sub h2, pk_mul, Nat.mul_comm]
  unfold dTB
  rw [e, nI_toInt (by omega), nI_clamp (by omega), if_pos ⟨nI_lt (a := 0) (by omega) (by omega), by omega, by omega⟩]
  funext k
  unfold va_cpy
  by_cases c : k < 20
  · rw [if_pos c, if_pos ⟨Nat.zero_le _, by omega⟩, Nat.sub_zero]
  · rw [if_neg c, if_neg (by omega)]
theorem DR.T {np nc M : Nat} {ce r : Nat → Int32} (h : DR np nc M ce r) (hc8 : nc ≤ 8) : ∃ T, ce 3 = nI T ∧ T < 35 := by
  obtain ⟨-, ⟨pn, F, X, W, K, R, T, S, P, hJ, -⟩, -⟩ := h
  exact ⟨T, hJ.2.2.2.1, by have := (hJ.T hc8).1; omega⟩
theorem SR.undo {np nc M n T : Nat} {dn va po me lo ce pt s b : Nat → Int32} {sd : Int32} (hp4 : np ≤ 4) (hc8 : nc ≤ 8) (hS : SR np nc M dn va po me lo ce pt sd s b) (hM : M ≤ 1000) (hd : ¬ ce 0 = -1) (hT : ce 3 = nI T) (hT35 : T < 35) (h1 : 1 ≤ n) (h2 : n ≤ T) :
    SR np nc M dn va (tb15 ce po) (tb16 ce me) lo (dTB ce pt (nI n)) pt sd (cpR s (fun k => b (64 * (T - n) + k)) 20 63) b := by
  obtain ⟨hF, hG, hme, hz, hlo, hsd, hE, hdu⟩ := hS
  obtain ⟨hD, hP⟩ : DR np nc M ce s ∧ PA np nc M po me lo ce pt b := by
    rcases hdu with h | h
    · exact absurd h.1 hd
    · exact h
  obtain ⟨A, B, hA, hB, hAB, eA, eB⟩ := hD.two hp4
  have hA4 : A < 4 := by omega
  have hB4 : B < 4 := by omega
  have hp6 := (pr_e A hA4 B hB4 hAB).2
  have eT : (ce 3).toNatClampNeg = T := by rw [hT, nI_clamp (by omega)]
  obtain ⟨a1, a2, a3, a4, a5⟩ := hP (T - n) (by rw [eT]; omega)
  rw [dTB_n hT (by omega) h1 h2]
  have hs : ∀ k, 20 ≤ k → k < 63 → cpR s (fun k => b (64 * (T - n) + k)) 20 63 k = b (64 * (T - n) + k) := by
    intro k k1 k2
    unfold cpR
    rw [if_pos ⟨k1, k2⟩]
  have hs2 : ∀ k, k < 20 ∨ 63 ≤ k → cpR s (fun k => b (64 * (T - n) + k)) 20 63 k = s k := by
    intro k hk
    unfold cpR
    rw [if_neg (by omega)]
  have hc : ∀ i, i < 20 → (fun k => if k < 20 then pt (20 * (T - n) + k) else ce k) i = pt (20 * (T - n) + i) := fun i hi => if_pos hi
  have hD' : DR np nc M (fun k => if k < 20 then pt (20 * (T - n) + k) else ce k) (cpR s (fun k => b (64 * (T - n) + k)) 20 63) := a1.congr2 hc (fun k k1 k2 => hs k k1 (by omega))
  have f0 : (fun k => if k < 20 then pt (20 * (T - n) + k) else ce k) 0 = nI A := (hc 0 (by decide)).trans ((a4 0 (by decide)).trans eA)
  have f1 : (fun k => if k < 20 then pt (20 * (T - n) + k) else ce k) 1 = nI B := (hc 1 (by decide)).trans ((a4 1 (by decide)).trans eB)
  have f2 : (fun k => if k < 20 then pt (20 * (T - n) + k) else ce k) 2 = 0 := (hc 2 (by decide)).trans a2
  have f3 : (fun k => if k < 20 then pt (20 * (T - n) + k) else ce k) 3 = nI (T - n) := (hc 3 (by decide)).trans a3
  have hmt : ∀ p, p < 6 → (tb16 ce me p).toNatClampNeg ≤ (me p).toNatClampNeg := by
    intro p hp
    rw [tb16_e eA eB]
    split
    · exact Nat.le_refl _
    · unfold luM
      rw [prO_e A hA4 B hB4 hAB, rA_n hp6 (by decide), rP_n hp6 (by decide)]
      by_cases c : p = prN A B
      · subst c
        rw [ups]
        obtain ⟨m, hm, hme2⟩ := nb_e (hme _ hp6)
        rw [hme2, nI_clamp (by omega)]
        cases m with
        | zero => exact Nat.zero_le _
        | succ m => rw [pk_m1, nI_clamp (by omega)]; omega
      · rw [upn c]; exact Nat.le_refl _
  refine ⟨⟨fun d hd => ?_, fun d v hd hv => ?_⟩, a5.congr2 (fun k k1 k2 => hs k (by omega) k2), fun p hp => ?_, fun p hp hn => ?_, fun p k hp hk hkm => ?_, ⟨?_, hsd.2⟩, hD'.1, Or.inr ⟨hD', ?_⟩⟩
  · rw [hs2 d (by omega)]; exact hF.1 d hd
  · rw [hs2 _ (by omega)]; exact hF.2 d v hd hv
  · have h9 : nb (b (64 * (T - n) + (45 + p))) M := a1.2.2 p hp
    rw [show b (64 * (T - n) + (45 + p)) = tb16 ce me p from a5.2.1 p hp] at h9
    exact h9
  · rw [tb16_e eA eB]
    split
    · exact hz p hp hn
    · unfold luM
      rw [prO_e A hA4 B hB4 hAB, rA_n hp6 (by decide), rP_n hp6 (by decide)]
      by_cases c : p = prN A B
      · subst c
        exact absurd (hg_lt A hA4 B hB4 hAB np (by omega) hA hB) hn
      · rw [upn c]; exact hz p hp hn
  · exact hlo p k hp hk (Nat.lt_of_lt_of_le hkm (hmt p hp))
  · rw [hs2 63 (by omega)]; exact hsd.1
  · intro t ht
    rw [f3, nI_clamp (by omega)] at ht
    obtain ⟨b1, b2, b3, b4, b5⟩ := hP t (by rw [eT]; omega)
    refine ⟨b1, b2, b3, fun i hi => ?_, ?_⟩
    · rw [hc i (by omega), a4 i hi]; exact b4 i hi
    · rw [tb15_e f0 f1, tb16_e f0 f1, if_pos f2, if_pos f2]
      exact b5
theorem dBg_n {ce : Nat → Int32} {p q : Int32} : dBg p q ce = upd (upd (fun k => if k < 20 then 0 else ce k) 0 p) 1 q := by
  unfold dBg
  show dPut (dPut _ (nI 0) p) (nI 1) q = _
  rw [dPut_n (by decide), dPut_n (by decide)]
/-- a duel begins -/
theorem SR.begin {np nc M A B : Nat} {dn va po me lo ce pt s b : Nat → Int32} {sd : Int32} (hp4 : np ≤ 4) (hS : SR np nc M dn va po me lo ce pt sd s b) (hA : A < np) (hB : B < np) (hAB : A ≠ B) :
    SR np nc M dn va po me lo (dBg (nI A) (nI B) ce) pt sd (upd (upd (cpR s (fun _ => 0) 20 41) 20 (nI A)) 21 (nI B)) b := by
  obtain ⟨hF, hG, hme, hz, hlo, hsd, hE, hdu⟩ := hS
  rw [dBg_n]
  have s1 : ∀ k, 22 ≤ k → k < 41 → upd (upd (cpR s (fun _ => 0) 20 41) 20 (nI A)) 21 (nI B) k = 0 := by
    intro k k1 k2
    rw [upn (by omega), upn (by omega)]
    unfold cpR
    rw [if_pos ⟨by omega, k2⟩]
  have s2 : ∀ k, k < 20 ∨ 41 ≤ k → upd (upd (cpR s (fun _ => 0) 20 41) 20 (nI A)) 21 (nI B) k = s k := by
    intro k hk
    rw [upn (by omega), upn (by omega)]
    unfold cpR
    rw [if_neg (by omega)]
  have c0 : ∀ i, 2 ≤ i → i < 20 → upd (upd (fun k => if k < 20 then (0 : Int32) else ce k) 0 (nI A)) 1 (nI B) i = 0 := by
    intro i i1 i2
    rw [upn (by omega), upn (by omega)]
    exact if_pos i2
  have e0 : upd (upd (fun k => if k < 20 then (0 : Int32) else ce k) 0 (nI A)) 1 (nI B) 0 = nI A := by rw [upn (by omega), ups]
  have e1 : upd (upd (fun k => if k < 20 then (0 : Int32) else ce k) 0 (nI A)) 1 (nI B) 1 = nI B := ups
  have hE' : ER1 (upd (upd (fun k => if k < 20 then (0 : Int32) else ce k) 0 (nI A)) 1 (nI B)) (upd (upd (cpR s (fun _ => 0) 20 41) 20 (nI A)) 21 (nI B)) := by
    intro i hi
    by_cases h0 : i = 0
    · subst h0; rw [e0]; show upd _ 21 _ 20 = _; rw [upn (by omega), ups]
    · by_cases h1 : i = 1
      · subst h1; rw [e1]; show upd _ 21 _ 21 = _; rw [ups]
      · rw [c0 i (by omega) hi, s1 _ (by unfold qx; split <;> omega) (by unfold qx; split <;> omega)]
  have hJ : DJ np nc (upd (upd (fun k => if k < 20 then (0 : Int32) else ce k) 0 (nI A)) 1 (nI B)) (fun i => if i = 0 then A else B) (fun _ => 0) (fun _ => 0) (fun _ => 0) (fun _ => 0) 0 0 0 0 := by
    refine ⟨fun i hi => ?_, hAB, ⟨c0 2 (by omega) (by omega), by omega⟩, c0 3 (by omega) (by omega), ⟨c0 4 (by omega) (by omega), Nat.pow_pos (by decide)⟩, ⟨c0 5 (by omega) (by omega), by omega⟩, fun i hi => ⟨c0 _ (by omega) (by omega), (by decide : (0 : Nat) < 1100)⟩, fun i hi => ⟨c0 _ (by omega) (by omega), Nat.zero_le _⟩, fun i hi => ⟨c0 _ (by omega) (by omega), Nat.zero_le _⟩, fun i hi => ⟨c0 _ (by omega) (by omega), Nat.zero_le _⟩, Nat.zero_le _, fun _ => ⟨Nat.zero_le _, fun i hi => ⟨Nat.zero_le _, (by decide : (0 : Nat) < 1000)⟩⟩⟩
    by_cases h0 : i = 0
    · subst h0; rw [e0]; exact ⟨rfl, hA⟩
    · have : i = 1 := by omega
      subst this; rw [e1]; exact ⟨rfl, hB⟩
  refine ⟨⟨fun d hd => ?_, fun d v hd hv => ?_⟩, hG.congr2 (fun k k1 k2 => s2 k (by omega)), hme, hz, hlo, ⟨?_, hsd.2⟩, hE', Or.inr ⟨⟨hE', ⟨_, _, _, _, _, _, _, _, _, hJ, ?_⟩, fun p hp => ?_⟩, fun t ht => ?_⟩⟩
  · rw [s2 d (by omega)]; exact hF.1 d hd
  · rw [s2 _ (by omega)]; exact hF.2 d v hd hv
  · rw [s2 63 (by omega)]; exact hsd.1
  · exact s1 24 (by omega) (by omega)
  · rw [s2 _ (by omega), hG.2.1 p hp]; exact hme p hp
  · rw [c0 3 (by omega) (by omega)] at ht
    exact absurd ht (Nat.not_lt_zero _)
