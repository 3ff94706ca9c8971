/-- how many hit, alike -/
theorem hm_e {np nc : Nat} {tr pa ne who what : Nat → Int32} {s : Nat → Int32} (hL : LR np nc tr pa ne who what) {a k z : Nat} (hk : k < 256) (hz : z < 256) (hs : s a = nI k) : ∀ n, n ≤ nc → hmt ne n (nI (k ||| z)) = deI what s a z 0 n
  | 0, _ => rfl
  | n + 1, hn => by
    have ih := hm_e hL hk hz hs n (by omega)
    obtain ⟨-, ⟨u, v, hu, hv, h3, h4, h5⟩, -⟩ := hL.2.1 n (by omega)
    have hm9 := msk_lt u hu v hv
    have hor : k ||| z < 2 ^ 8 := Nat.or_lt_two_pow hk hz
    have hand : msk u v &&& (k ||| z) < 256 := Nat.lt_of_le_of_lt Nat.and_le_left hm9
    show (if ne n &&& nI (k ||| z) = ne n then hmt ne n (nI (k ||| z)) + 1 else hmt ne n (nI (k ||| z))) = deI_F what s a z n (deI what s a z 0 n)
    unfold deI_F
    rw [ih, hs, nI_or (by omega) (by omega), truthBy_n hu hv (by omega) h3 h4, h5, nI_and (by omega) (by omega)]
    have e := eq_n (k := msk u v &&& (k ||| z)) (n := msk u v) (by omega) (by omega)
    unfold tv
    simp only [e]
    by_cases q : msk u v &&& (k ||| z) = msk u v
    · rw [if_pos q, if_pos q, if_pos rfl]
    · rw [if_neg q, if_neg q]
      by_cases q2 : msk u v &&& (k ||| z) = 0
      · rw [if_pos q2, if_neg (by decide), Int32.add_zero]
      · rw [if_neg q2, if_neg (by decide), Int32.add_zero]
theorem fd_e {np nc : Nat} {tr pa ne who what : Nat → Int32} {s : Nat → Int32} (hL : LR np nc tr pa ne who what) {a k : Nat} {m : Int32} (hk : k < 256) (hs : s a = nI k) : ∀ n, n ≤ 256 → fdS ne nc (nI k) m n = deO what s a m nc (-1) n ∧ (deO what s a m nc (-1) n = -1 ∨ ∃ j, j < 256 ∧ deO what s a m nc (-1) n = nI j) ∧ ∀ z, z < n → z &&& k = 0 → m ≤ hmt ne nc (nI (k ||| z)) → ∃ j, j < 256 ∧ deO what s a m nc (-1) n = nI j ∧ cb j ≤ cb z
  | 0, _ => ⟨rfl, Or.inl rfl, fun z hz => absurd hz (Nat.not_lt_zero _)⟩
  | n + 1, hn => by
    obtain ⟨i1, i2, i3⟩ := fd_e hL (m := m) hk hs n (by omega)
    have f1 : fdS ne nc (nI k) m (n + 1) = if (fdS ne nc (nI k) m n = -1 ∨ bc (nI n) < bc (fdS ne nc (nI k) m n)) ∧ m ≤ hmt ne nc (nI k ||| nI n) then nI n else fdS ne nc (nI k) m n := rfl
    have f2 : deO what s a m nc (-1) (n + 1) = deO_F what s a m nc n (deO what s a m nc (-1) n) := rfl
    rw [f1, f2, i1]
    clear f1 f2 i1
    generalize deO what s a m nc (-1) n = b at *
    unfold deO_F
    have hand : n &&& k < 256 := Nat.lt_of_le_of_lt Nat.and_le_left (by omega)
    have hcn := cb_8 n (by omega)
    rw [hs, nI_and (by omega) (by omega), nI_or (by omega) (by omega), ← hm_e hL hk (show n < 256 by omega) hs nc (Nat.le_refl _), bc_n n (by omega)]
    have ea : (nI (n &&& k) = 0) = (n &&& k = 0) := eq_n (n := 0) (by omega) (by decide)
    simp only [ea]
    by_cases q : n &&& k = 0
    · rw [if_pos q]
      by_cases w : m ≤ hmt ne nc (nI (k ||| n))
      · rw [if_neg (Int32.not_lt.mpr w), if_neg (show ¬ (1 : Int32) = 0 by decide)]
        rcases i2 with i2 | ⟨j, hj, i2⟩
        · have hc : (b = -1 ∨ nI (cb n) < bc b) ∧ m ≤ hmt ne nc (nI (k ||| n)) := ⟨Or.inl i2, w⟩
          rw [if_pos hc, if_pos i2]
          refine ⟨rfl, Or.inr ⟨n, by omega, rfl⟩, fun z hz z1 z2 => ?_⟩
          by_cases e : z = n
          · subst e; exact ⟨z, by omega, rfl, Nat.le_refl _⟩
          · obtain ⟨j, hj, h1, h2⟩ := i3 z (by omega) z1 z2
            rw [i2] at h1
            exact absurd h1.symm (nI_nm1 (by omega))
        · have hb : ¬ b = -1 := by rw [i2]; exact nI_nm1 (by omega)
          have hcj := cb_8 j hj
          have hlt : (nI (cb n) < bc b) = (cb n < cb j) := by rw [i2, bc_n j hj]; exact lt_n (by omega) (by omega)
          have hle : (a_X11_ones b ≤ a_X11_ones (nI n)) = (cb j ≤ cb n) := by rw [i2, ones_n (by omega), ones_n (by omega)]; exact le_n (by omega) (by omega)
          rw [if_neg hb]
          by_cases v : cb n < cb j
          · have hc : (b = -1 ∨ nI (cb n) < bc b) ∧ m ≤ hmt ne nc (nI (k ||| n)) := ⟨Or.inr (by rw [hlt]; exact v), w⟩
            rw [if_pos hc, if_neg (show ¬ a_X11_ones b ≤ a_X11_ones (nI n) by rw [hle]; omega)]
            refine ⟨rfl, Or.inr ⟨n, by omega, rfl⟩, fun z hz z1 z2 => ?_⟩
            by_cases e : z = n
            · subst e; exact ⟨z, by omega, rfl, Nat.le_refl _⟩
            · obtain ⟨j', hj', h1, h2⟩ := i3 z (by omega) z1 z2
              have := (nI_eq (by omega) (by omega)).mp (i2.symm.trans h1)
              exact ⟨n, by omega, rfl, by rw [← this] at h2; omega⟩
          · have hc : ¬ ((b = -1 ∨ nI (cb n) < bc b) ∧ m ≤ hmt ne nc (nI (k ||| n))) := fun u => u.1.elim hb (fun y => v (by rw [hlt] at y; exact y))
            rw [if_neg hc, if_pos (show a_X11_ones b ≤ a_X11_ones (nI n) by rw [hle]; omega)]
            refine ⟨rfl, Or.inr ⟨j, hj, i2⟩, fun z hz z1 z2 => ?_⟩
            by_cases e : z = n
            · subst e; exact ⟨j, hj, i2, by omega⟩
            · exact i3 z (by omega) z1 z2
      · rw [if_pos (Int32.not_le.mp w), if_pos rfl]
        have hc : ¬ ((b = -1 ∨ nI (cb n) < bc b) ∧ m ≤ hmt ne nc (nI (k ||| n))) := fun u => w u.2
        rw [if_neg hc]
        refine ⟨rfl, i2, fun z hz z1 z2 => ?_⟩
        by_cases e : z = n
        · subst e; exact absurd z2 w
        · exact i3 z (by omega) z1 z2
    · rw [if_neg q, if_pos rfl]
      have hc : ¬ ((b = -1 ∨ nI (cb n) < bc b) ∧ m ≤ hmt ne nc (nI (k ||| n))) := by
        rintro ⟨u1, u2⟩
        obtain ⟨s1, s2, s3, s4⟩ := cb_sub k hk n (by omega) q
        obtain ⟨j, hj, h1, h2⟩ := i3 _ s1 s2 (by rw [s3]; exact u2)
        rcases u1 with u1 | u1
        · rw [h1] at u1; exact absurd u1 (nI_nm1 (by omega))
        · have hcj := cb_8 j hj
          rw [h1, bc_n j hj, lt_n (by omega) (by omega)] at u1
          omega
      rw [if_neg hc]
      refine ⟨rfl, i2, fun z hz z1 z2 => ?_⟩
      by_cases e : z = n
      · subst e; exact absurd z1 q
      · exact i3 z (by omega) z1 z2
theorem cl_deeds {M : Nat} {μ : zH} {x m y : Int32} (h : WI M μ) : CL M μ mi_X10_deeds mi_X11_deeds [.inl x, .inl m, .inl y] := by
  have h0 := h
  obtain ⟨np, nc, kw, kc, kb, kn, hH, hT, hL, hS, -⟩ := h0
  obtain ⟨⟨p1, c1, -⟩, ⟨p2, c2, -⟩, -, hp4, hc8, -⟩ := hH
  have h67 : w_X11_deeds_67 (μ 67) x m y = upd (μ 67) 0 0 := by unfold w_X11_deeds_67; simp only [ite_self]
  refine cl_pure h (fun l X => e_X10_deeds (d := 24) c1 hc8) (fun l X => e_X11_deeds (d := 24) p2 hp4 c2 hc8) h67 ?_
  unfold a_X10_deeds a_X11_deeds
  rcases pers (x := x) (f := μ 1) (g := upd (μ 67) 0 0) hp4 p1 p2 with ⟨q1, q2⟩ | ⟨a, ha, rfl, q1, q2⟩
  · rw [if_pos q1, if_pos q2]
  rw [if_neg q1, if_neg q2]
  rcases rg0 m (b := 8) (n := 8) rfl (by decide) with ⟨r1, r2⟩ | ⟨mk', hmk, rfl, r1, r2, r3⟩
  · rw [if_pos r1]
    rcases r2 with r2 | ⟨r2, r3⟩
    · rw [if_pos r2]
    · rw [if_neg r2, if_pos (Int32.not_le.mp r3)]
  rw [if_neg r1, if_neg r2, if_neg (Int32.not_lt.mpr r3)]
  rcases rg0 y (b := 1) (n := 1) rfl (by decide) with ⟨r1, r2⟩ | ⟨ky, hky, rfl, r1, r2, r3⟩
  · rw [if_pos r1]
    rcases r2 with r2 | ⟨r2, r3⟩
    · rw [if_pos r2]
    · rw [if_neg r2, if_neg r3]
  obtain ⟨d1, d2⟩ := hS.1.1 a ha
  obtain ⟨k, hk, hke⟩ := nb_e d2
  rw [if_neg r1, if_neg r2, if_pos r3, nI_clamp (show a < 2 ^ 31 by omega), rA_n (by omega) (by decide), ← d1, hke]
  obtain ⟨f1, f2, -⟩ := fd_e hL.1 (m := nI mk') hk hke 256 (Nat.le_refl _)
  rw [f1]
  generalize deO (μ 70) (μ 72) a (nI mk') nc (-1) 256 = b at *
  rcases (by omega : ky = 0 ∨ ky = 1) with rfl | rfl
  · rw [if_pos (show nI 0 = 0 from rfl), if_neg (show ¬ nI 0 = 1 by decide)]
    rcases f2 with f2 | ⟨j, hj, f2⟩
    · rw [if_pos f2, if_pos f2]
    · have hb : ¬ b = -1 := by rw [f2]; exact nI_nm1 (by omega)
      rw [if_neg hb, if_neg hb, f2, bc_n j hj, ones_n (by omega)]
  · rw [if_neg (show ¬ nI 1 = 0 by decide), if_pos (show nI 1 = 1 from rfl)]
    simp only [ite_self]
