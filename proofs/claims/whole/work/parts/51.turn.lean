/-- where the class's cell stands in the reference's row -/
def qx (i : Nat) : Nat := if i < 4 then 20 + i else 21 + i
def ER1 (ce r : Nat → Int32) : Prop := ∀ i, i < 20 → r (qx i) = ce i
theorem qx_inj {i k : Nat} (h : qx i = qx k) : i = k := by
  unfold qx at h
  split at h <;> split at h <;> omega
theorem ER1.u {ce r : Nat → Int32} (h : ER1 ce r) {k j : Nat} {v w : Int32} (hj : j = qx k) (hv : w = v) : ER1 (upd ce k v) (upd r j w) := by
  intro i hi
  subst hj hv
  by_cases e : i = k
  · subst e; rw [ups, ups]
  · rw [upn e, upn (fun q => e (qx_inj q))]; exact h i hi
theorem ER1.n {ce r : Nat → Int32} (h : ER1 ce r) {j : Nat} {w : Int32} (hj : j < 20 ∨ j = 24 ∨ 41 ≤ j) : ER1 ce (upd r j w) := by
  intro i hi
  rw [upn]
  · exact h i hi
  · unfold qx; split <;> omega
theorem ER1.p {ce r : Nat → Int32} (h : ER1 ce r) {k i : Nat} {v : Int32} (hk : qx k = i) (hk2 : k < 20) (hv : ce k = v) : r i = v := by
  rw [← hk, h k hk2, hv]
theorem cell_n {ce : Nat → Int32} {i : Nat} (h : i < 20) : cell ce (nI i) = ce i := rA_n h (by decide)
theorem dAdd_n {ce : Nat → Int32} {i : Nat} {v : Int32} (h : i < 20) : dAdd ce (nI i) v = upd ce i (ce i + v) := by
  unfold dAdd
  rw [rA_n h (by decide), rP_n h (by decide)]
theorem dPut_n {ce : Nat → Int32} {i : Nat} {v : Int32} (h : i < 20) : dPut ce (nI i) v = upd ce i v := rP_n h (by decide)
theorem dPer_n {ce : Nat → Int32} {i : Nat} (h : i < 2) : dPer ce (nI i) = ce i := by
  unfold dPer
  rw [Int32.zero_add]
  exact rA_n (by omega) (by decide)
theorem dTold_n {ce : Nat → Int32} {o t : Nat} (ho : o < 2) (ht : t < 4) : dTold ce (nI o) (nI t) = ce (12 + 4 * o + t) := by
  unfold dTold
  show rA ce 20 (nI 12 + nI o * nI 4 + nI t) = _
  rw [pk_mul, nI_add, nI_add, rA_n (by omega) (by decide), Nat.mul_comm o 4]
theorem cool_e {x y : Nat} (hx : x < 3000) (hy : y < 3000) : imax 0 (nI x - nI y) = nI (x - y) ∧ (if nI y ≤ nI x then nI x - nI y else 0) = nI (x - y) := by
  by_cases h : y ≤ x
  · rw [if_pos ((nI_leI (by omega) (by omega)).mpr h), pk_sub h]
    refine ⟨?_, rfl⟩
    unfold imax
    by_cases h2 : (0 : Int32) < nI (x - y)
    · rw [if_pos h2]
    · rw [if_neg h2]
      have h3 : ¬ 0 < x - y := fun q => h2 ((nI_ltI (a := 0) (by omega) (by omega)).mpr q)
      rw [show x - y = 0 by omega]; rfl
  · rw [if_neg (fun q => h ((nI_leI (by omega) (by omega)).mp q))]
    have h1 := pk_sneg (a := x) (b := y) (by omega) (by omega)
    unfold imax
    rw [if_neg (fun q => Int32.lt_irrefl (Int32.lt_trans h1 q)), show x - y = 0 by omega]
    exact ⟨rfl, rfl⟩
/-- the turns, by places -/
def kT8 (ce : Nat → Int32) (s : Nat) (k : Int32) : Nat → Int32 := upd (if 2 ≤ ce 5 + 1 then upd (upd (upd ce (6 + s) k) 5 (ce 5 + 1)) 2 3 else upd (upd ce (6 + s) k) 5 (ce 5 + 1)) 3 (ce 3 + 1)
def kT9 (ce : Nat → Int32) (s : Nat) (k : Int32) : Nat → Int32 := upd (upd (upd (upd ce (6 + s) k) (8 + s) (ce (8 + s) + -1)) 5 0) 3 (ce 3 + 1)
def kS5 (ce : Nat → Int32) (s tp c : Nat) (k ef w : Int32) : Nat → Int32 := upd (upd (upd (upd (upd (upd ce (6 + s) k) (6 + (1 - s)) (ce (6 + (1 - s)) + ef)) (12 + 4 * (1 - s) + tp) (ce (12 + 4 * (1 - s) + tp) + 1)) (10 + s) (ce (10 + s) + w)) 4 (ce 4 ||| (1 <<< (nI c &&& 31)))) 5 0
def kS6 (ce : Nat → Int32) (s tp c : Nat) (k ef w t : Int32) : Nat → Int32 := if t = 0 then upd (kS5 ce s tp c k ef w) (8 + s) (ce (8 + s) + 1) else kS5 ce s tp c k ef w
def kS7 (ce : Nat → Int32) (s tp c : Nat) (k ef w t ln : Int32) : Nat → Int32 := if 3 ≤ (if t = 0 then ce (8 + s) + 1 else ce (8 + s)) then upd (kS6 ce s tp c k ef w t) 2 (nI (2 - s)) else if ln ≤ ce (6 + (1 - s)) + ef then upd (kS6 ce s tp c k ef w t) 2 (nI (1 + s)) else kS6 ce s tp c k ef w t
def kTs (ce : Nat → Int32) (s tp c : Nat) (k ef w t ln : Int32) : Nat → Int32 := upd (kS7 ce s tp c k ef w t ln) 3 (ce 3 + 1)
theorem dCl_n {tr ce : Nat → Int32} {s a : Nat} (hs : s < 2) (hsd : dSd ce = nI s) (ha : ce s = nI a) (ha4 : a < 4) : dCl tr ce = upd ce (6 + s) (imax 0 (ce (6 + s) - tr (6 * a + 1))) := by
  unfold dCl
  have i6 : (6 : Int32) + nI s = nI (6 + s) := nI_add 6 s
  rw [hsd, i6, cell_n (by omega), dPut_n (by omega), dPer_n hs, ha]
  show upd ce (6 + s) (imax 0 (ce (6 + s) - trait tr (nI a) (nI 1))) = _
  rw [trait_e ha4 (by decide)]
theorem dPl_8 {tr pa ne dn va ce : Nat → Int32} {s a : Nat} {k : Int32} (hs : s < 2) (hsd : dSd ce = nI s) (ha : ce s = nI a) (ha4 : a < 4) (hk : imax 0 (ce (6 + s) - tr (6 * a + 1)) = k) : dPl tr pa ne dn va ce 8 = kT8 ce s k := by
  unfold dPl
  dsimp only
  rw [if_pos rfl, dCl_n hs hsd ha ha4, hk]
  unfold dPO kT8
  show dAdd (if 2 ≤ cell (dAdd (upd ce (6 + s) k) (nI 5) 1) (nI 5) then dPut (dAdd (upd ce (6 + s) k) (nI 5) 1) (nI 2) 3 else dAdd (upd ce (6 + s) k) (nI 5) 1) (nI 3) 1 = _
  rw [dAdd_n (by decide), dAdd_n (by decide), cell_n (by decide), dPut_n (by decide), ups, upn (show 5 ≠ 6 + s by omega)]
  congr 1
  split
  · rw [upn (by omega), upn (by omega), upn (by omega)]
  · rw [upn (by omega), upn (by omega)]
theorem dPl_9 {tr pa ne dn va ce : Nat → Int32} {s a : Nat} {k : Int32} (hs : s < 2) (hsd : dSd ce = nI s) (ha : ce s = nI a) (ha4 : a < 4) (hk : imax 0 (ce (6 + s) - tr (6 * a + 1)) = k) : dPl tr pa ne dn va ce 9 = kT9 ce s k := by
  unfold dPl
  dsimp only
  rw [if_neg (by decide), if_pos rfl, dCl_n hs hsd ha ha4, hk, hsd]
  unfold kT9
  have i8 : (8 : Int32) + nI s = nI (8 + s) := nI_add 8 s
  rw [i8]
  show dAdd (dPut (dAdd (upd ce (6 + s) k) (nI (8 + s)) (-1)) (nI 5) 0) (nI 3) 1 = _
  rw [dAdd_n (by omega), dAdd_n (by omega), dPut_n (by omega), upn (show 8 + s ≠ 6 + s by omega)]
  congr 1
  rw [upn (by omega), upn (by omega), upn (by omega)]
theorem dPl_c {tr pa ne dn va ce : Nat → Int32} {s a b tp c : Nat} {k ef w t ln : Int32} (hs : s < 2) (hsd : dSd ce = nI s) (ha : ce s = nI a) (ha4 : a < 4) (hb : ce (1 - s) = nI b) (hb4 : b < 4) (hc : c < 8)
    (hk : imax 0 (ce (6 + s) - tr (6 * a + 1)) = k) (htp : part pa (nI c) 0 = nI tp) (htp4 : tp < 4) (ht : tru ne dn (nI c) (nI b) = t) (he : effO t (part pa (nI c) 1 * vanO va (nI b) (nI tp)) (ce (12 + 4 * (1 - s) + tp)) = ef) (hw : part pa (nI c) 2 = w) (hl : tr (6 * b) = ln) : dPl tr pa ne dn va ce (nI c) = kTs ce s tp c k ef w t ln := by
  unfold dPl
  dsimp only
  have c8 : ¬ nI c = 8 := fun q => by have := (nI_eq (b := 8) (by omega) (by decide)).mp q; omega
  have c9 : ¬ nI c = 9 := fun q => by have := (nI_eq (b := 9) (by omega) (by decide)).mp q; omega
  rw [if_neg c8, if_neg c9, dCl_n hs hsd ha ha4, hk, hsd]
  have i1 : (1 : Int32) - nI s = nI (1 - s) := pk_sub (a := 1) (by omega)
  have i6 : (6 : Int32) + nI (1 - s) = nI (6 + (1 - s)) := nI_add 6 _
  have i10 : (10 : Int32) + nI s = nI (10 + s) := nI_add 10 s
  have i8 : (8 : Int32) + nI s = nI (8 + s) := nI_add 8 s
  have i12 : (12 : Int32) + nI (1 - s) * 4 + nI tp = nI (12 + 4 * (1 - s) + tp) := by
    show nI 12 + nI (1 - s) * nI 4 + nI tp = _
    rw [pk_mul, nI_add, nI_add, Nat.mul_comm (1 - s) 4]
  have hper : dPer (upd ce (6 + s) k) (nI (1 - s)) = nI b := by rw [dPer_n (by omega), upn (by omega), hb]
  have h5 : dSp1 pa ne dn va (upd ce (6 + s) k) (nI c) (nI s) = kS5 ce s tp c k ef w := by
    unfold dSp1 kS5
    dsimp only
    rw [i1, hper, htp, ht, i6, i12, i10, dTold_n (by omega) htp4, upn (show 12 + 4 * (1 - s) + tp ≠ 6 + s by omega), he, hw]
    rw [dAdd_n (by omega), dAdd_n (by omega), dAdd_n (by omega)]
    show dPut (dPut _ (nI 4) (cell _ (nI 4) ||| _)) (nI 5) 0 = _
    rw [dPut_n (by decide), dPut_n (by decide), cell_n (by decide)]
    rw [upn (show 6 + (1 - s) ≠ 6 + s by omega), upn (show 12 + 4 * (1 - s) + tp ≠ 6 + (1 - s) by omega), upn (show 12 + 4 * (1 - s) + tp ≠ 6 + s by omega), upn (show 10 + s ≠ 12 + 4 * (1 - s) + tp by omega), upn (show 10 + s ≠ 6 + (1 - s) by omega), upn (show 10 + s ≠ 6 + s by omega),
      upn (show 4 ≠ 10 + s by omega), upn (show 4 ≠ 12 + 4 * (1 - s) + tp by omega), upn (show 4 ≠ 6 + (1 - s) by omega), upn (show 4 ≠ 6 + s by omega)]
  have h8 : kS5 ce s tp c k ef w (8 + s) = ce (8 + s) := by
    unfold kS5
    rw [upn (by omega), upn (by omega), upn (by omega), upn (by omega), upn (by omega), upn (by omega)]
  have h6 : dSp2 ne dn (upd ce (6 + s) k) (kS5 ce s tp c k ef w) (nI c) (nI s) = kS6 ce s tp c k ef w t := by
    unfold dSp2 kS6
    rw [i1, hper, ht, i8, dAdd_n (by omega), h8]
  have h68 : kS6 ce s tp c k ef w t (8 + s) = if t = 0 then ce (8 + s) + 1 else ce (8 + s) := by
    unfold kS6
    split
    · rw [ups]
    · rw [h8]
  have h56 : kS5 ce s tp c k ef w (6 + (1 - s)) = ce (6 + (1 - s)) + ef := by
    unfold kS5
    rw [upn (by omega), upn (by omega), upn (by omega), upn (by omega), ups]
  have h66 : kS6 ce s tp c k ef w t (6 + (1 - s)) = ce (6 + (1 - s)) + ef := by
    unfold kS6
    split
    · rw [upn (by omega), h56]
    · rw [h56]
  have h7 : dSp tr pa ne dn va (upd ce (6 + s) k) (nI c) (nI s) = kS7 ce s tp c k ef w t ln := by
    unfold dSp
    rw [h5, h6]
    unfold dSp3 kS7
    rw [i1, hper, i8, i6, cell_n (by omega), cell_n (by omega), h68, h66]
    have i2 : nI (1 - s) + 1 = nI (2 - s) := by rw [nI_1, show 1 - s + 1 = 2 - s by omega]
    have i3 : nI s + 1 = nI (1 + s) := by rw [nI_1, Nat.add_comm]
    show (if (3 : Int32) ≤ _ then dPut _ (nI 2) _ else if trait tr (nI b) (nI 0) ≤ _ then dPut _ (nI 2) _ else _) = _
    rw [dPut_n (by decide), dPut_n (by decide), trait_e hb4 (by decide), Nat.add_zero, hl, i2, i3]
  rw [h7]
  show dAdd _ (nI 3) 1 = _
  unfold kTs
  rw [dAdd_n (by decide)]
  congr 1
  have h53 : kS5 ce s tp c k ef w 3 = ce 3 := by
    unfold kS5
    rw [upn (by omega), upn (by omega), upn (by omega), upn (by omega), upn (by omega), upn (by omega)]
  have h63 : kS6 ce s tp c k ef w t 3 = ce 3 := by
    unfold kS6
    split
    · rw [upn (by omega), h53]
    · rw [h53]
  unfold kS7
  generalize (if t = 0 then ce (8 + s) + 1 else ce (8 + s)) = q9
  split
  · rw [upn (by omega), h63]
  · split
    · rw [upn (by omega), h63]
    · rw [h63]
