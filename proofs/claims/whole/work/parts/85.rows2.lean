theorem irI_cg {f70 rw rw' : Nat → Int32} {c0 : Nat} {z : Int32} (n : Nat) (h : ∀ e, e < n → rw' e = rw e) : irI f70 rw' c0 z n = irI f70 rw c0 z n := by
  unfold irI
  refine zf_cg n (fun i hi s => ?_)
  unfold irI_F
  rw [h i hi]
theorem suI_cg {rw rw' : Nat → Int32} {z : Int32} (n : Nat) (h : ∀ e, e < n → rw' e = rw e) : suI rw' z n = suI rw z n := by
  unfold suI
  refine zf_cg n (fun i hi s => ?_)
  unfold suI_F
  rw [h i hi]
theorem p28 (m : Nat) : 2 ^ (3 * m) = 8 ^ m := Nat.pow_mul 2 3 m
theorem irc_n {W m : Nat} (hW : W < 2 ^ 31) (hm : m < 5) : irc (nI W) (nI (3 * (m + 1))) = nI (W / 8 ^ m % 8) ∧ nI (3 * (m + 1)) + -3 = nI (3 * m) := by
  have h1 : nI (3 * (m + 1)) + -3 = nI (3 * m) := by
    rw [show 3 * (m + 1) = 3 * m + 3 by omega, ← nI_add]
    show nI (3 * m) + 3 + -3 = _
    rw [Int32.add_assoc]
    exact Int32.add_zero _
  refine ⟨?_, h1⟩
  unfold irc
  rw [h1, nI_shr hW (by omega), p28]
  exact pk_andN (Nat.lt_of_le_of_lt (Nat.div_le_self _ _) (by omega)) 3 rfl
/-- one row in the reference -/
theorem ir_e {f67 f69 f70 f72 f79 : Nat → Int32} {a o kc nc y S W : Nat} {tq : Nat → Bool} {tp : Nat → Nat} {ef : Nat → Nat → Nat} {ck : Nat → Int32} (hc8 : nc ≤ 8) (hk4 : kc ≤ 4) (hS : S < 256) (hy : y < 100) (hW : W < 2 ^ 31) (r0 : f67 11 = nI nc) (r1 : ∀ c, c < 8 → f70 (5 * c) = nI (tp c) ∧ tp c < 4) (r2 : ∀ c, c < nc → (a_X11_truthBy f70 c (f72 a) ≤ 0 ↔ tq c = false)) (r3 : ∀ c k, c < nc → k < 31 → a_X11_effectBy f70 f72 c a (a_X11_vanityOf f72 a (tp c)) k = nI (ef c k) ∧ ef c k < 82) (r4 : f69 (6 * a + 1) = nI y) (r5 : ∀ p, p < kc → f79 p = ck p) :
    ∀ m p bl st pre w (cn : Nat → Nat) (rw : Nat → Int32), p + m = kc → w < 8 ^ m → W % 8 ^ m = w → bl ≤ 1100 + 82 * p → st < 256 → (∀ t, t < 4 → cn t ≤ 8 + p) → (∀ c, c < 8 → irI f70 rw c (f72 (33 + 4 * o + tp c)) p = nI (cn (tp c))) → (∀ e, e < p → rw e = nI (pre / 8 ^ (p - 1 - e) % 8)) → suI rw 0 p = nI st →
    ((irS f67 f69 f70 f72 f79 a o (nI W) m p (nI bl) (nI (S ||| st)) (nI (3 * m)) rw).1 = 0 ↔ (rr nc tq tp ef ck y S m p bl st cn w).1 = false) ∧ ((rr nc tq tp ef ck y S m p bl st cn w).1 = true → (∀ e, e < kc → (irS f67 f69 f70 f72 f79 a o (nI W) m p (nI bl) (nI (S ||| st)) (nI (3 * m)) rw).2 e = nI ((pre * 8 ^ m + w) / 8 ^ (kc - 1 - e) % 8)) ∧ suI (irS f67 f69 f70 f72 f79 a o (nI W) m p (nI bl) (nI (S ||| st)) (nI (3 * m)) rw).2 0 kc = nI (rr nc tq tp ef ck y S m p bl st cn w).2) := by
  intro m
  induction m with
  | zero =>
    intro p bl st pre w cn rw hpm hw hWw hbl hst hcn hir hrw hsu
    have hp : p = kc := by omega
    subst hp
    have hw0 : w = 0 := by rw [Nat.pow_zero] at hw; omega
    subst hw0
    refine ⟨⟨fun q => absurd (show (1 : Int32) = 0 from q) (by decide), fun q => Bool.noConfusion (show true = false from q)⟩, fun _ => ⟨fun e he => ?_, hsu⟩⟩
    rw [Nat.pow_zero, Nat.mul_one, Nat.add_zero]
    exact hrw e he
  | succ m ih =>
    intro p bl st pre w cn rw hpm hw hWw hbl hst hcn hir hrw hsu
    have hA : 0 < 8 ^ m := Nat.pow_pos (by decide)
    have hcw : W / 8 ^ m % 8 = w / 8 ^ m := by
      rw [← Nat.mod_mul_right_div_self, ← Nat.pow_succ, hWw]
    have hc8' : w / 8 ^ m < 8 := by
      rw [← hcw]; exact Nat.mod_lt _ (by decide)
    have hwm : W % 8 ^ m = w % 8 ^ m := by
      rw [← hWw, Nat.mod_mod_of_dvd _ ⟨8, Nat.pow_succ ..⟩]
    have hwe : pre * 8 ^ (m + 1) + w = (pre * 8 + w / 8 ^ m) * 8 ^ m + w % 8 ^ m := by
      have h9 := Nat.div_add_mod w (8 ^ m)
      rw [Nat.mul_comm] at h9
      rw [← dig_4, h9]
    obtain ⟨i1, i2⟩ := irc_n (W := W) (m := m) hW (by omega)
    rw [hcw] at i1
    rw [rr, irS, i1, i2, hwe]
    have hwm2 : w % 8 ^ m < 8 ^ m := Nat.mod_lt _ hA
    generalize w % 8 ^ m = w' at *
    generalize w / 8 ^ m = c at *
    have kc0 : (nI c).toNatClampNeg = c := nI_clamp (by omega)
    have hSst : S ||| st < 2 ^ 8 := Nat.or_lt_two_pow hS hst
    have hgo : ((nI (S ||| st) >>> (nI c &&& 31)) &&& 1 = 0) = ((S ||| st) / 2 ^ c % 2 = 0) := by
      rw [nI_bit (by omega) (by omega)]
      exact eq_n (n := 0) (by omega) (by decide)
    have hQ : (irQ f67 f70 f72 a (nI c) (nI (S ||| st)) = 0) = ¬ ((c < nc ∧ tq c = true) ∧ (S ||| st) / 2 ^ c % 2 = 0) := by
      unfold irQ
      simp only [hgo]
      rw [kc0]
      rcases phra (x := nI c) (f := fun _ => nI nc) (g := f67) hc8 rfl r0 with ⟨q1, q2⟩ | ⟨c', hc', e, q1, q2⟩
      · rw [if_pos q2]
        refine propext ⟨fun _ v => ?_, fun _ => rfl⟩
        have z : zib (nI c) (nI nc) = false := by rw [bz_tr] at q1; exact q1
        have h3 : zib (nI c) (nI nc) = true := by
          unfold zib
          refine decide_eq_true ?_
          rw [nI_toInt (by omega), nI_toInt (by omega)]
          omega
        rw [z] at h3; cases h3
      · have := (nI_eq (a := c) (b := c') (by omega) (by omega)).mp e
        subst this
        rw [if_neg q2]
        have h2 := r2 c hc'
        by_cases g : (S ||| st) / 2 ^ c % 2 = 0
        · rw [if_pos g]
          by_cases t : a_X11_truthBy f70 c (f72 a) ≤ 0
          · rw [if_pos t]
            exact propext ⟨fun _ v => by rw [h2.mp t] at v; exact absurd v.1.2 (by decide), fun _ => rfl⟩
          · rw [if_neg t]
            refine propext ⟨fun v => absurd v (by decide), fun v => absurd ⟨⟨hc', ?_⟩, g⟩ v⟩
            cases e : tq c with
            | true => rfl
            | false => exact absurd (h2.mpr e) t
        · rw [if_neg g]
          exact propext ⟨fun _ v => g v.2, fun _ => rfl⟩
    simp only [hQ]
    by_cases q : (c < nc ∧ tq c = true) ∧ (S ||| st) / 2 ^ c % 2 = 0
    · rw [if_neg (fun z => z q)]
      obtain ⟨t1, t2⟩ := r1 c hc8'
      have hcg : ∀ e, e < p → upd rw p (nI c) e = rw e := fun e he => upn (by omega)
      have hcn4 := hcn (tp c) t2
      obtain ⟨p4, p5⟩ := r3 c (cn (tp c)) q.1.1 (by omega)
      have hB : irB f70 f72 a o p (upd rw p (nI c)) (nI bl) (nI c) = nI (bl + ef c (cn (tp c))) := by
        unfold irB
        rw [kc0, t1, nI_clamp (show tp c < 2 ^ 31 by omega), irI_cg p hcg, hir c hc8', nI_clamp (show cn (tp c) < 2 ^ 31 by omega), p4, nI_add]
      rw [hB, r5 p (by omega)]
      by_cases q2 : nI (bl + ef c (cn (tp c))) = ck p
      · rw [if_pos q2, if_pos ⟨q.1, q.2, q2⟩, kc0]
        have hbit : nI (S ||| st) ||| (1 <<< (nI c &&& 31)) = nI (S ||| (st ||| 2 ^ c)) := by
          have := pw_le (n := c) (m := 8) (by omega)
          rw [bit1 hc8', nI_or (by omega) (by omega), Nat.or_assoc]
        have hst2 : st ||| 2 ^ c < 2 ^ 8 := Nat.or_lt_two_pow hst (Nat.pow_lt_pow_right (by decide) hc8')
        have hD : irD f69 a (nI (bl + ef c (cn (tp c)))) = nI (bl + ef c (cn (tp c)) - y) := by
          unfold irD
          rw [r4]
          exact (cool_e (by omega) (by omega)).2
        rw [hbit, hD]
        refine ih (p + 1) (bl + ef c (cn (tp c)) - y) (st ||| 2 ^ c) (pre * 8 + c) w' (up cn (tp c) (cn (tp c) + 1)) (upd rw p (nI c)) (by omega) hwm2 hwm (by omega) hst2 (fun t ht => ?_) (fun c0 hc0 => ?_) (fun e he => ?_) ?_
        · have := hcn t ht
          by_cases v : t = tp c
          · subst v; rw [up_s]; omega
          · rw [up_n v]; omega
        · show irI_F f70 (upd rw p (nI c)) c0 p (irI f70 (upd rw p (nI c)) c0 (f72 (33 + 4 * o + tp c0)) p) = _
          obtain ⟨u1, u2⟩ := r1 c0 hc0
          rw [irI_cg p hcg, hir c0 hc0]
          unfold irI_F
          rw [ups, kc0, t1, u1]
          simp only [eq_n (k := tp c) (n := tp c0) (by omega) (by omega)]
          by_cases v : tp c = tp c0
          · rw [if_pos v, ← v, up_s]
            exact nI_1 _
          · rw [if_neg v, up_n (Ne.symm v), Int32.add_zero]
        · by_cases v : e = p
          · subst v
            rw [ups, dig_2 hc8']
          · rw [upn v, dig_1 hc8' (by omega)]
            exact hrw e (by omega)
        · show suI_F (upd rw p (nI c)) p (suI (upd rw p (nI c)) 0 p) = _
          rw [suI_cg p hcg, hsu]
          unfold suI_F
          have := pw_le (n := c) (m := 8) (by omega)
          rw [ups, bit1 hc8', nI_or (by omega) (by omega)]
      · rw [if_neg q2, if_neg (fun v => q2 v.2.2)]
        exact ⟨⟨fun _ => rfl, fun _ => rfl⟩, fun v => Bool.noConfusion (show false = true from v)⟩
    · rw [if_pos q, if_neg (fun v => q ⟨v.1, v.2.1⟩)]
      exact ⟨⟨fun _ => rfl, fun _ => rfl⟩, fun v => Bool.noConfusion (show false = true from v)⟩
/-- what a row of the reference is, when R tells it -/
def rwH (f69 f70 f72 f79 g67 : Nat → Int32) (kc : Nat) (R : Nat → Bool × Nat) : Prop := ∀ W, W < 8 ^ kc → ∀ rw : Nat → Int32, (a_X11_isRow g67 f69 f70 f72 f79 rw (nI W) kc = 0 ↔ (R W).1 = false) ∧ ((R W).1 = true → (∀ e, e < kc → w_X11_isRow_85 g67 f69 f70 f72 f79 rw (nI W) kc e = nI (W / 8 ^ (kc - 1 - e) % 8)) ∧ suI (w_X11_isRow_85 g67 f69 f70 f72 f79 rw (nI W) kc) 0 kc = nI (R W).2)
theorem sd_e {f69 f70 f72 f79 g67 f85 : Nat → Int32} {kc : Nat} {R : Nat → Bool × Nat} {x : Int32} (hk4 : kc ≤ 4) (h : rwH f69 f70 f72 f79 g67 kc R) (hx : ¬ a_X11_in x 0 (nI kc - 1) = 0 → x.toNatClampNeg < kc) : ∀ n, n ≤ 8 ^ kc → (sdL f69 f70 f72 f79 g67 x kc (0, (-1, f85)) n).1 = nI (zfold (yF R 0) (0, (0, 0)) n).1 ∧ (sdL f69 f70 f72 f79 g67 x kc (0, (-1, f85)) n).2.1 = if (zfold (yF R 0) (0, (0, 0)) n).1 = 0 ∨ a_X11_in x 0 (nI kc - 1) = 0 then -1 else nI ((zfold (yF R 0) (0, (0, 0)) n).2.1 / 8 ^ (kc - 1 - x.toNatClampNeg) % 8)
  | 0, _ => ⟨rfl, (if_pos (Or.inl (rfl : (zfold (yF R 0) (0, (0, 0)) 0).1 = 0))).symm⟩
  | n + 1, hn => by
    obtain ⟨i1, i2⟩ := sd_e (f85 := f85) hk4 h hx n (by omega)
    have hle := yF_le (R := R) (b := 0) (Y := (0, (0, 0))) n
    have h8 : 8 ^ kc ≤ 8 ^ 4 := Nat.pow_le_pow_right (by decide) hk4
    have hY : (zfold (yF R 0) (0, (0, 0)) n).1 < 5000 := by
      have : (8 : Nat) ^ 4 = 4096 := rfl
      have : ((0, (0, 0)) : yT).1 = 0 := rfl
      omega
    show (sdL_F f69 f70 f72 f79 g67 x kc n (sdL f69 f70 f72 f79 g67 x kc (0, (-1, f85)) n).1 (sdL f69 f70 f72 f79 g67 x kc (0, (-1, f85)) n).2.1 (sdL f69 f70 f72 f79 g67 x kc (0, (-1, f85)) n).2.2).1 = nI (yF R 0 n (zfold (yF R 0) (0, (0, 0)) n)).1 ∧ (sdL_F f69 f70 f72 f79 g67 x kc n (sdL f69 f70 f72 f79 g67 x kc (0, (-1, f85)) n).1 (sdL f69 f70 f72 f79 g67 x kc (0, (-1, f85)) n).2.1 (sdL f69 f70 f72 f79 g67 x kc (0, (-1, f85)) n).2.2).2.1 = if (yF R 0 n (zfold (yF R 0) (0, (0, 0)) n)).1 = 0 ∨ a_X11_in x 0 (nI kc - 1) = 0 then -1 else nI ((yF R 0 n (zfold (yF R 0) (0, (0, 0)) n)).2.1 / 8 ^ (kc - 1 - x.toNatClampNeg) % 8)
    generalize sdL f69 f70 f72 f79 g67 x kc (0, (-1, f85)) n = z at *
    generalize zfold (yF R 0) (0, (0, 0)) n = Y at *
    obtain ⟨h1, h2⟩ := h n (by omega) z.2.2
    unfold sdL_F yF
    by_cases q : (R n).1 = false
    · have qn : ¬ (R n).1 = true := by rw [q]; decide
      rw [if_neg qn]
      simp only [if_pos (h1.mpr q)]
      exact ⟨i1, i2⟩
    · have qt : (R n).1 = true := by
        cases e : (R n).1 with
        | true => rfl
        | false => exact absurd e q
      obtain ⟨h3, -⟩ := h2 qt
      rw [if_neg (fun v => q (h1.mp v)), if_pos qt]
      have hz0 : (z.1 = 0) = (Y.1 = 0) := by rw [i1]; exact eq_n (n := 0) (by omega) (by decide)
      simp only [hz0]
      unfold yA
      by_cases w : Y.1 = 0
      · rw [if_pos w]
        simp only [if_pos w]
        refine ⟨by rw [i1, nI_1], ?_⟩
        by_cases v : a_X11_in x 0 (nI kc - 1) = 0
        · rw [if_pos v, if_pos (Or.inr v), i2, if_pos (Or.inl w)]
        · rw [if_neg v, if_neg (fun u => u.elim (fun t => absurd t (Nat.succ_ne_zero _)) v), h3 _ (hx v), Nat.zero_add]
      · rw [if_neg w]
        simp only [if_neg w]
        refine ⟨by rw [i1, nI_1], ?_⟩
        rw [i2]
        by_cases v : a_X11_in x 0 (nI kc - 1) = 0
        · rw [if_pos (Or.inr v), if_pos (Or.inr v)]
        · rw [if_neg (fun u => u.elim w v), if_neg (fun u => u.elim (fun t => absurd t (Nat.succ_ne_zero _)) v)]
theorem su_e {f69 f70 f72 f79 g67 f85 : Nat → Int32} {kc : Nat} {R : Nat → Bool × Nat} (hk4 : kc ≤ 4) (h : rwH f69 f70 f72 f79 g67 kc R) (hR : ∀ W, W < 8 ^ kc → (R W).1 = true → (R W).2 < 256) : ∀ n, n ≤ 8 ^ kc → (suO f69 f70 f72 f79 g67 kc (-1, f85) n).1 = (if (zfold (yF R 0) (0, (0, 0)) n).1 = 0 then -1 else nI (zfold (yF R 0) (0, (0, 0)) n).2.2) ∧ ((zfold (yF R 0) (0, (0, 0)) n).1 ≠ 0 → (zfold (yF R 0) (0, (0, 0)) n).2.2 < 256)
  | 0, _ => ⟨(if_pos (rfl : (zfold (yF R 0) (0, (0, 0)) 0).1 = 0)).symm, fun q => absurd rfl q⟩
  | n + 1, hn => by
    obtain ⟨i1, i2⟩ := su_e (f85 := f85) hk4 h hR n (by omega)
    show (suO_F f69 f70 f72 f79 g67 kc n (suO f69 f70 f72 f79 g67 kc (-1, f85) n).1 (suO f69 f70 f72 f79 g67 kc (-1, f85) n).2).1 = (if (yF R 0 n (zfold (yF R 0) (0, (0, 0)) n)).1 = 0 then -1 else nI (yF R 0 n (zfold (yF R 0) (0, (0, 0)) n)).2.2) ∧ ((yF R 0 n (zfold (yF R 0) (0, (0, 0)) n)).1 ≠ 0 → (yF R 0 n (zfold (yF R 0) (0, (0, 0)) n)).2.2 < 256)
    generalize suO f69 f70 f72 f79 g67 kc (-1, f85) n = z at *
    generalize zfold (yF R 0) (0, (0, 0)) n = Y at *
    obtain ⟨h1, h2⟩ := h n (by omega) z.2
    unfold suO_F yF
    by_cases q : (R n).1 = false
    · have qn : ¬ (R n).1 = true := by rw [q]; decide
      rw [if_neg qn]
      simp only [if_pos (h1.mpr q)]
      exact ⟨i1, i2⟩
    · have qt : (R n).1 = true := by
        cases e : (R n).1 with
        | true => rfl
        | false => exact absurd e q
      obtain ⟨-, h3⟩ := h2 qt
      have hb := hR n (by omega) qt
      rw [if_neg (fun v => q (h1.mp v)), if_pos qt, h3]
      unfold yA
      by_cases w : Y.1 = 0
      · rw [if_pos w] at i1
        simp only [if_pos w, if_pos i1]
        exact ⟨by rw [if_neg (Nat.succ_ne_zero _)], fun _ => hb⟩
      · rw [if_neg w] at i1
        have h4 := i2 w
        have h5 : ¬ z.1 = -1 := by rw [i1]; exact nI_nm1 (by omega)
        simp only [if_neg w, if_neg h5]
        refine ⟨by rw [if_neg (Nat.succ_ne_zero _), i1, nI_and (by omega) (by omega)], fun _ => Nat.lt_of_le_of_lt Nat.and_le_right hb⟩
