theorem gp_a {np nc : Nat} {tr pa ne who what dn va s : Nat → Int32} (hL : LR np nc tr pa ne who what) (hF : FR np dn va s) {c a k : Nat} {f : Nat → Int32} (hk : k < 1024) (hc : c < nc) (ha : a < np) : (gpS pa ne dn (nI c) (nI a) (nI k) (0, clr 82 f) 10).1 = a_X11_greatestPart what s c a (nI k) := by
  have hE := fun v (hv : v < 10) => effB_e (k := 0) hL hF hc ha (nb_i hv (by decide)) (show 0 < 31 by decide)
  have h1 : ∀ v, v < 10 → (effB pa ne dn (nI c) (nI a) (nI v) 0).toNatClampNeg < 82 ∧ effB pa ne dn (nI c) (nI a) (nI v) 0 = nI (effB pa ne dn (nI c) (nI a) (nI v) 0).toNatClampNeg := fun v hv => (hE v hv).2
  have h2 : ∀ v, v < 10 → (effB pa ne dn (nI c) (nI a) (nI v) 0).toNatClampNeg < 82 ∧ a_X11_effectBy what s c a (nI v) 0 = nI (effB pa ne dn (nI c) (nI a) (nI v) 0).toNatClampNeg := fun v hv => ⟨(hE v hv).2.1, by rw [← (hE v hv).1]; exact (hE v hv).2.2⟩
  rw [(gp_e (e := fun v => (effB pa ne dn (nI c) (nI a) (nI v) 0).toNatClampNeg) (f := f) hk h1 10 (Nat.le_refl _)).1]
  unfold a_X11_greatestPart
  rw [gpO_e (e := fun v => (effB pa ne dn (nI c) (nI a) (nI v) 0).toNatClampNeg) hk h2 10 (Nat.le_refl _), gG_e]
theorem pp_e {np nc : Nat} {tr pa ne who what dn va s : Nat → Int32} (hL : LR np nc tr pa ne who what) (hF : FR np dn va s) {a k : Nat} {t b : Int32} {f : Nat → Int32} (hk : k < 1024) (ha : a < np) : ∀ n, n ≤ nc → (ppS pa ne dn (nI a) t (nI k) (-1, (b, f)) n).1 = (prL what s a t (nI k) (b, -1) n).2 ∧ (ppS pa ne dn (nI a) t (nI k) (-1, (b, f)) n).2.1 = (prL what s a t (nI k) (b, -1) n).1
  | 0, _ => ⟨rfl, rfl⟩
  | n + 1, hn => by
    obtain ⟨i1, i2⟩ := pp_e (t := t) (b := b) (f := f) hL hF hk ha n (by omega)
    have hc8 := hL.2.2.2.2
    have hpt : part pa (nI n) 0 = what (5 * n) := by
      show part pa (nI n) (nI 0) = _
      rw [part_e (by omega) (by decide), (hL.2.1 n (by omega)).1 0 (by decide)]; rfl
    have f2 : prL what s a t (nI k) (b, -1) (n + 1) = prL_F what s a t (nI k) n (prL what s a t (nI k) (b, -1) n).1 (prL what s a t (nI k) (b, -1) n).2 := rfl
    rw [ppS_s, f2]
    generalize ppS pa ne dn (nI a) t (nI k) (-1, (b, f)) n = z at *
    generalize prL what s a t (nI k) (b, -1) n = r at *
    unfold ppF prL_F
    rw [hpt, gp_a hL hF hk (show n < nc by omega) ha, i2, i1]
    generalize a_X11_greatestPart what s n a (nI k) = G
    by_cases q : what (5 * n) = t
    · rw [if_pos q, if_pos q]
      unfold imin
      by_cases w : r.1 ≤ G
      · have w' : ¬ G < r.1 := Int32.not_lt.mpr w
        have e1 : (if G < r.1 then nI n else r.2) = r.2 := if_neg w'
        have e2 : (if G < r.1 then G else r.1) = r.1 := if_neg w'
        have e3 : (if r.1 ≤ G then (r.1, r.2) else (G, nI n)) = (r.1, r.2) := if_pos w
        rw [e1, e2, e3]
        exact ⟨rfl, rfl⟩
      · have w' : G < r.1 := Int32.not_le.mp w
        have e1 : (if G < r.1 then nI n else r.2) = nI n := if_pos w'
        have e2 : (if G < r.1 then G else r.1) = G := if_pos w'
        have e3 : (if r.1 ≤ G then (r.1, r.2) else (G, nI n)) = (G, nI n) := if_neg w
        rw [e1, e2, e3]
        exact ⟨rfl, rfl⟩
    · rw [if_neg q, if_neg q]
      exact ⟨i1, i2⟩
theorem cl_probe {M : Nat} {μ : zH} {x y : Int32} (h : WI M μ) : CL M μ mi_X10_probe mi_X11_probe [.inl x, .inl y] := by
  obtain ⟨np, nc, kw, kc, kb, kn, hH, hT, hL, hS, hMm, hN⟩ := h
  have hH0 := hH
  obtain ⟨⟨p1, c1, w1, k1, b1, n1⟩, ⟨p2, c2, w2, k2, b2, n2⟩, hf, hp4, hc8, hw12, hk4, hb20, hn250⟩ := hH
  have h67 : w_X11_probe_67 (μ 67) x y = upd (μ 67) 0 0 := by unfold w_X11_probe_67; simp only [ite_self]
  refine cl_mk (fun l X => e_X10_probe (d := 22) c1 hc8 w1 hw12) (fun l X => e_X11_probe (d := 21) p2 hp4 c2 hc8 w2 hw12 (fun k hk => ⟨nb_le (hN.1 k hk).2.1 hc8, (hN.1 k hk).2.2.2⟩)) ?_ ⟨np, nc, kw, kc, kb, kn, WH.of hH0 rfl rfl rfl rfl h67, hT, hL, SR.mono hS (Nat.le_succ _), WM.mono hMm (Nat.le_succ _), hN⟩
  show a_X11_probe (μ 67) (μ 70) (μ 72) (μ 78) x y nc kw = a_X10_probe (μ 1) (μ 3) (μ 4) (μ 24) (μ 55) (μ 58) x y nc kw
  unfold a_X11_probe a_X10_probe
  rcases pers (x := x) (f := μ 1) (g := upd (μ 67) 0 0) hp4 p1 p2 with ⟨q1, q2⟩ | ⟨a, ha, rfl, q1, q2⟩
  · rw [if_pos q1, if_pos q2]
  rw [if_neg q1, if_neg q2]
  rcases tpc y with ⟨s1, s2, -⟩ | ⟨tt, htt, rfl, s1, s2, -⟩
  · rw [if_pos s1, if_pos s2]
  rw [if_neg s1, if_neg s2, nI_clamp (show a < 2 ^ 31 by omega)]
  have hv : a_X11_vanities (μ 70) (μ 72) (μ 78) a (nI tt) kw = fvS (μ 3) (μ 4) (μ 24) (μ 55) (nI a) (nI tt) kw 10 := (fv_e hL.1 hS.1 hN hw12 ha 10 (by decide)).symm
  obtain ⟨k, hk, hke⟩ := fv_nb (pa := μ 3) (ne := μ 4) (dn := μ 24) (wa := μ 55) (e := nI a) (t := nI tt) (kw := kw) 10 (Nat.le_refl _)
  rw [hv, hke, ones_n (by omega), bc_k k hk]
  exact (pp_e hL.1 hS.1 hk ha nc (Nat.le_refl _)).1.symm
