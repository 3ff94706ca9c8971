theorem mk_e {wa : Nat → Int32} {i w : Nat} (hi : i < 12) (hw : w < 4) : mk wa (nI i) (nI w) = wa (4 * i + w) := by
  unfold mk
  rw [show nI i * 4 + nI w = nI (4 * i + w) by
    show nI i * nI 4 + nI w = _
    rw [pk_mul, nI_add, Nat.mul_comm], rA_n (by omega) (by decide)]
/-- does a tear's note fit, alike -/
def okVN (what s wa8 : Nat → Int32) (a : Nat) (t : Int32) (v i : Nat) : Prop := wa8 (4 * i + 1) = nI a → what (5 * (wa8 (4 * i)).toNatClampNeg) = t → a_X11_effectBy what s (wa8 (4 * i)).toNatClampNeg a (nI v) (wa8 (4 * i + 2)).toNatClampNeg = wa8 (4 * i + 3)
theorem faB_e {np nc kw kc kb : Nat} {μ : zH} {tr pa ne who what dn va s : Nat → Int32} (hL : LR np nc tr pa ne who what) (hF : FR np dn va s) (hN : WN np nc kw kc kb μ) (hk : kw ≤ 12) {a v : Nat} {t : Int32} (ha : a < np) (hv : v < 10) : ∀ j i, i + j ≤ kw → (faB pa ne dn (μ 55) (nI a) t (nI v) j i = true ↔ ∀ n, i ≤ n → n < i + j → okVN what s (μ 78) a t v n)
  | 0, i, _ => ⟨fun _ n h1 h2 => by omega, fun _ => rfl⟩
  | j + 1, i, h => by
    have ih := faB_e (t := t) hL hF hN hk ha hv j (i + 1) (by omega)
    obtain ⟨m1, m2, m3, m4⟩ := hN.1 i (by omega)
    obtain ⟨c, hc, hce⟩ := nb_e m2
    obtain ⟨g, hg, hge⟩ := nb_e m4
    have hc8 := hL.2.2.2.2
    have q0 : mk (μ 55) (nI i) 0 = nI c := (mk_e (w := 0) (by omega) (by decide)).trans ((m1 0 (by decide)).trans hce)
    have q1 : mk (μ 55) (nI i) 1 = μ 78 (4 * i + 1) := (mk_e (w := 1) (by omega) (by decide)).trans (m1 1 (by decide))
    have q2 : mk (μ 55) (nI i) 2 = nI g := (mk_e (w := 2) (by omega) (by decide)).trans ((m1 2 (by decide)).trans hge)
    have q3 : mk (μ 55) (nI i) 3 = μ 78 (4 * i + 3) := (mk_e (w := 3) (by omega) (by decide)).trans (m1 3 (by decide))
    have hpt : part pa (nI c) 0 = what (5 * c) := by
      show part pa (nI c) (nI 0) = _
      rw [part_e (by omega) (by decide), (hL.2.1 c hc).1 0 (by decide)]; rfl
    have he := (effB_e hL hF hc ha (nb_i hv (by decide)) (show g < 31 by omega)).1
    have hok : okVN what s (μ 78) a t v i ↔ ¬ ((μ 78 (4 * i + 1) = nI a ∧ what (5 * c) = t) ∧ ¬ a_X11_effectBy what s c a (nI v) g = μ 78 (4 * i + 3)) := by
      unfold okVN
      rw [hce, hge, nI_clamp (show c < 2 ^ 31 by omega), nI_clamp (show g < 2 ^ 31 by omega)]
      exact ⟨fun z w => w.2 (z w.1.1 w.1.2), fun z w1 w2 => Classical.not_not.mp (fun w3 => z ⟨⟨w1, w2⟩, w3⟩)⟩
    unfold faB
    rw [q0, q1, q2, q3, hpt, he]
    by_cases q : (μ 78 (4 * i + 1) = nI a ∧ what (5 * c) = t) ∧ ¬ a_X11_effectBy what s c a (nI v) g = μ 78 (4 * i + 3)
    · rw [if_pos q]
      exact ⟨fun z => absurd z (by decide), fun z => absurd q (hok.mp (z i (Nat.le_refl _) (by omega)))⟩
    · rw [if_neg q, ih]
      refine ⟨fun z n h1 h2 => ?_, fun z n h1 h2 => z n (by omega) (by omega)⟩
      by_cases e : n = i
      · subst e; exact hok.mpr q
      · exact z n (by omega) (by omega)
theorem vaI_e {what s w8 : Nat → Int32} {a v : Nat} {t : Int32} : ∀ n, (vaI what s w8 a t v 1 n = 1 ∧ ∀ i, i < n → okVN what s w8 a t v i) ∨ (vaI what s w8 a t v 1 n = 0 ∧ ¬ ∀ i, i < n → okVN what s w8 a t v i)
  | 0 => Or.inl ⟨rfl, fun i hi => absurd hi (Nat.not_lt_zero _)⟩
  | n + 1 => by
    show (vaI_F what s w8 a t v n (vaI what s w8 a t v 1 n) = 1 ∧ _) ∨ (vaI_F what s w8 a t v n (vaI what s w8 a t v 1 n) = 0 ∧ _)
    unfold vaI_F
    have n10 : ¬ (1 : Int32) = 0 := by decide
    rcases vaI_e (what := what) (s := s) (w8 := w8) (a := a) (v := v) (t := t) n with ⟨h1, h2⟩ | ⟨h1, h2⟩
    · rw [h1, if_neg n10]
      have all : okVN what s w8 a t v n → ∀ i, i < n + 1 → okVN what s w8 a t v i := fun z i hi => by
        by_cases e : i = n
        · subst e; exact z
        · exact h2 i (by omega)
      by_cases w1 : w8 (4 * n + 1) = nI a
      · by_cases w2 : what (5 * (w8 (4 * n)).toNatClampNeg) = t
        · rw [if_pos w1, if_pos w2, if_neg n10]
          by_cases w3 : a_X11_effectBy what s (w8 (4 * n)).toNatClampNeg a (nI v) (w8 (4 * n + 2)).toNatClampNeg = w8 (4 * n + 3)
          · rw [if_pos w3]; exact Or.inl ⟨rfl, all (fun _ _ => w3)⟩
          · rw [if_neg w3]; exact Or.inr ⟨rfl, fun z => w3 (z n (by omega) w1 w2)⟩
        · rw [if_pos w1, if_neg w2, if_pos rfl]; exact Or.inl ⟨rfl, all (fun _ z => absurd z w2)⟩
      · rw [if_neg w1, if_pos rfl]; exact Or.inl ⟨rfl, all (fun z => absurd z w1)⟩
    · rw [h1, if_pos rfl]
      exact Or.inr ⟨rfl, fun z => h2 (fun i hi => z i (by omega))⟩
/-- which vanities fit, alike -/
theorem fv_e {np nc kw kc kb : Nat} {μ : zH} {tr pa ne who what dn va s : Nat → Int32} (hL : LR np nc tr pa ne who what) (hF : FR np dn va s) (hN : WN np nc kw kc kb μ) (hk : kw ≤ 12) {a : Nat} {t : Int32} (ha : a < np) : ∀ n, n ≤ 10 → fvS pa ne dn (μ 55) (nI a) t kw n = vaO what s (μ 78) a t kw 0 n
  | 0, _ => rfl
  | n + 1, hn => by
    have ih := fv_e (t := t) hL hF hN hk ha n (by omega)
    have hb := faB_e (t := t) hL hF hN hk ha (show n < 10 by omega) kw 0 (by omega)
    show (if faB pa ne dn (μ 55) (nI a) t (nI n) kw 0 = true then fvS pa ne dn (μ 55) (nI a) t kw n ||| (1 <<< (nI n &&& 31)) else fvS pa ne dn (μ 55) (nI a) t kw n) = vaO_F what s (μ 78) a t kw n (vaO what s (μ 78) a t kw 0 n)
    unfold vaO_F
    rw [ih]
    rcases vaI_e (what := what) (s := s) (w8 := μ 78) (a := a) (v := n) (t := t) kw with ⟨h1, h2⟩ | ⟨h1, h2⟩
    · rw [if_pos (hb.mpr (fun i _ hi => h2 i (by omega))), h1, if_neg (by decide)]
    · rw [if_neg (fun z => h2 (fun i hi => hb.mp z i (Nat.zero_le _) (by omega))), h1, if_pos rfl, Int32.or_zero]
theorem cl_vain {M : Nat} {μ : zH} {x y : Int32} (h : WI M μ) : CL M μ mi_X10_vain mi_X11_vain [.inl x, .inl y] := by
  have h0 := h
  obtain ⟨np, nc, kw, kc, kb, kn, hH, hT, hL, hS, hMm, hN⟩ := h0
  obtain ⟨⟨p1, c1, w1, k1, b1, n1⟩, ⟨p2, c2, w2, k2, b2, n2⟩, hf, hp4, hc8, hw12, hk4, hb20, hn250⟩ := hH
  refine cl_pure h (fun l X => e_X10_vain (d := 22) w1 hw12) (fun l X => e_X11_vain (d := 21) p2 hp4 w2 hw12 (fun k hk => ⟨nb_le (hN.1 k hk).2.1 hc8, (hN.1 k hk).2.2.2⟩)) rfl ?_
  unfold a_X10_vain a_X11_vain
  rcases pers (x := x) (f := μ 1) (g := upd (μ 67) 0 0) hp4 p1 p2 with ⟨q1, q2⟩ | ⟨a, ha, rfl, q1, q2⟩
  · rw [if_pos q1, if_pos q2]
  rw [if_neg q1, if_neg q2]
  rcases tpc y with ⟨s1, s2, -⟩ | ⟨tt, htt, rfl, s1, s2, -⟩
  · rw [if_pos s1, if_pos s2]
  rw [if_neg s1, if_neg s2, nI_clamp (show a < 2 ^ 31 by omega)]
  exact (fv_e hL.1 hS.1 hN hw12 ha 10 (by decide)).symm
