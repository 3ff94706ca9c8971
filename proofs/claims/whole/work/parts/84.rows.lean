/-- rows of what may have been said: folds -/
theorem zf_add {σ : Type} (f : Nat → σ → σ) (s : σ) (a : Nat) : ∀ b, zfold f s (a + b) = zfold (fun i => f (a + i)) (zfold f s a) b
  | 0 => rfl
  | b + 1 => by
    show f (a + b) (zfold f s (a + b)) = f (a + b) (zfold (fun i => f (a + i)) (zfold f s a) b)
    rw [zf_add f s a b]
theorem zf_cg {σ : Type} {f g : Nat → σ → σ} {s : σ} : ∀ n, (∀ i, i < n → ∀ s, f i s = g i s) → zfold f s n = zfold g s n
  | 0, _ => rfl
  | n + 1, h => by
    show f n (zfold f s n) = g n (zfold g s n)
    rw [zf_cg n (fun i hi => h i (by omega)), h n (by omega)]
theorem zf_id {σ : Type} {f : Nat → σ → σ} {s : σ} : ∀ n, (∀ i, i < n → ∀ s, f i s = s) → zfold f s n = s
  | 0, _ => rfl
  | n + 1, h => by
    show f n (zfold f s n) = s
    rw [h n (by omega), zf_id n (fun i hi => h i (by omega))]
/-- bits that are apart -/
theorem bs_1 {S st c : Nat} (h : st &&& S = 0) (hb : (S ||| st) / 2 ^ c % 2 = 0) : (st ||| 2 ^ c) &&& S = 0 := by
  have h0 : (S ||| st).testBit c = false := by rw [Nat.testBit_eq_decide_div_mod_eq, hb]; rfl
  have h1 : S.testBit c = false := by
    rw [Nat.testBit_or] at h0
    cases h2 : S.testBit c with
    | false => rfl
    | true => rw [h2] at h0; exact absurd h0 (by simp)
  rw [Nat.and_or_distrib_right, h, Nat.zero_or]
  refine Nat.eq_of_testBit_eq (fun i => ?_)
  rw [Nat.testBit_and, Nat.zero_testBit]
  by_cases e : c = i
  · subst e; rw [h1, Bool.and_false]
  · rw [Nat.testBit_two_pow_of_ne e, Bool.false_and]
theorem bv_1 {A B : BitVec 32} (h : B &&& A = 0#32) : (A ||| B) &&& ~~~A = B := by
  refine BitVec.eq_of_getElem_eq (fun i hi => ?_)
  have h9 := congrArg (fun v : BitVec 32 => v[i]) h
  simp at h9 ⊢
  cases q : A[i] <;> cases w : B[i] <;> simp_all
theorem bs_2 {S st : Nat} (hS : S < 256) (hs : st < 256) (h : st &&& S = 0) : nI (S ||| st) &&& (nI S ^^^ -1) = nI st := by
  have h1 : nI st &&& nI S = nI 0 := by rw [nI_and (by omega) (by omega), h]
  rw [Int32.xor_neg_one, ← nI_or (by omega) (by omega)]
  apply Int32.toBitVec_inj.mp
  have h2 : (nI st).toBitVec &&& (nI S).toBitVec = 0#32 := by
    rw [← Int32.toBitVec_and, h1]; rfl
  rw [Int32.toBitVec_and, Int32.toBitVec_or, Int32.toBitVec_not]
  exact bv_1 h2
/-- one row, by its number to the base 8: what is said in it, or that it can't be -/
def rr (nc : Nat) (tq : Nat → Bool) (tp : Nat → Nat) (ef : Nat → Nat → Nat) (ck : Nat → Int32) (y S : Nat) : Nat → Nat → Nat → Nat → (Nat → Nat) → Nat → Bool × Nat
  | 0, _, _, st, _, _ => (true, st)
  | m + 1, p, bl, st, cn, w => if (w / 8 ^ m < nc ∧ tq (w / 8 ^ m) = true) ∧ (S ||| st) / 2 ^ (w / 8 ^ m) % 2 = 0 ∧ nI (bl + ef (w / 8 ^ m) (cn (tp (w / 8 ^ m)))) = ck p then rr nc tq tp ef ck y S m (p + 1) (bl + ef (w / 8 ^ m) (cn (tp (w / 8 ^ m))) - y) (st ||| 2 ^ (w / 8 ^ m)) (up cn (tp (w / 8 ^ m)) (cn (tp (w / 8 ^ m)) + 1)) (w % 8 ^ m) else (false, 0)
abbrev yT : Type := Nat × (Nat × Nat)
def yA (Y : yT) (w st : Nat) : yT := (Y.1 + 1, (if Y.1 = 0 then w else Y.2.1, if Y.1 = 0 then st else Y.2.2 &&& st))
def yF (R : Nat → Bool × Nat) (b : Nat) (w : Nat) (Y : yT) : yT := if (R w).1 = true then yA Y (b + w) (R w).2 else Y
theorem yF_le {R : Nat → Bool × Nat} {b : Nat} {Y : yT} : ∀ n, (zfold (yF R b) Y n).1 ≤ Y.1 + n
  | 0 => Nat.le_refl _
  | n + 1 => by
    have h := yF_le (R := R) (b := b) (Y := Y) n
    show (yF R b n (zfold (yF R b) Y n)).1 ≤ _
    generalize zfold (yF R b) Y n = W at *
    unfold yF
    split
    · show W.1 + 1 ≤ _
      omega
    · omega
/-- the search's cells tell the same as Y -/
def zR (kc S p pre : Nat) (z : rsT) (Y : yT) : Prop := (∀ e, e < p → z.1 e = nI (pre / 8 ^ (p - 1 - e) % 8)) ∧ z.2.2.1 = nI Y.1 ∧ (0 < Y.1 → ∀ e, e < kc → z.2.1 e = nI (Y.2.1 / 8 ^ (kc - 1 - e) % 8)) ∧ z.2.2.2 = (if Y.1 = 0 then -1 else nI (S ||| Y.2.2)) ∧ (0 < Y.1 → Y.2.2 < 256 ∧ Y.2.2 &&& S = 0)
theorem dig_1 {pre c p e : Nat} (hc : c < 8) (he : e < p) : (pre * 8 + c) / 8 ^ (p + 1 - 1 - e) % 8 = pre / 8 ^ (p - 1 - e) % 8 := by
  have h1 : p + 1 - 1 - e = (p - 1 - e) + 1 := by omega
  rw [h1, Nat.pow_succ, Nat.mul_comm (8 ^ _) 8, ← Nat.div_div_eq_div_mul]
  have h2 : (pre * 8 + c) / 8 = pre := by omega
  rw [h2]
theorem dig_2 {pre c p : Nat} (hc : c < 8) : (pre * 8 + c) / 8 ^ (p + 1 - 1 - p) % 8 = c := by
  rw [show p + 1 - 1 - p = 0 by omega, Nat.pow_zero, Nat.div_one]
  omega
theorem dig_3 {c m i : Nat} (hi : i < 8 ^ m) : (c * 8 ^ m + i) / 8 ^ m = c ∧ (c * 8 ^ m + i) % 8 ^ m = i := by
  have hp : 0 < 8 ^ m := Nat.pow_pos (by decide)
  refine ⟨?_, ?_⟩
  · rw [Nat.mul_comm, Nat.mul_add_div hp, Nat.div_eq_of_lt hi, Nat.add_zero]
  · rw [Nat.mul_comm, Nat.mul_add_mod, Nat.mod_eq_of_lt hi]
theorem dig_4 (pre c m i : Nat) : pre * 8 ^ (m + 1) + (c * 8 ^ m + i) = (pre * 8 + c) * 8 ^ m + i := by
  rw [Nat.pow_succ, Nat.add_mul, Nat.mul_assoc pre 8, Nat.mul_comm 8 (8 ^ m), Nat.add_assoc]
theorem zR.add {kc S pre st : Nat} {z : rsT} {Y : yT} (h : zR kc S kc pre z Y) (hk4 : kc ≤ 4) (hS : S < 256) (hY : Y.1 < 5000) (hs : st < 256) (hd : st &&& S = 0) : zR kc S kc pre (arS (nI (S ||| st)) z) (yA Y pre st) := by
  obtain ⟨h1, h2, h3, h4, h5⟩ := h
  have h0 : (z.2.2.1 = 0) = (Y.1 = 0) := by rw [h2]; exact eq_n (n := 0) (by omega) (by decide)
  unfold arS yA
  refine ⟨h1, ?_, fun _ e he => ?_, ?_, fun _ => ?_⟩
  · show z.2.2.1 + 1 = _
    rw [h2, nI_1]
  · show (if z.2.2.1 = 0 then cpy 4 z.1 z.2.1 else z.2.1) e = nI ((if Y.1 = 0 then pre else Y.2.1) / 8 ^ (kc - 1 - e) % 8)
    by_cases q : Y.1 = 0
    · rw [if_pos (by rw [h0]; exact q), if_pos q]
      show (if e < 4 then z.1 e else z.2.1 e) = _
      rw [if_pos (by omega)]
      exact h1 e he
    · rw [if_neg (by rw [h0]; exact q), if_neg q]
      exact h3 (by omega) e he
  · show z.2.2.2 &&& nI (S ||| st) = if Y.1 + 1 = 0 then -1 else nI (S ||| if Y.1 = 0 then st else Y.2.2 &&& st)
    rw [if_neg (Nat.succ_ne_zero _), h4]
    by_cases q : Y.1 = 0
    · rw [if_pos q, if_pos q, Int32.neg_one_and]
    · rw [if_neg q, if_neg q]
      obtain ⟨g1, g2⟩ := h5 (by omega)
      have hS2 : S ||| Y.2.2 < 2 ^ 8 := Nat.or_lt_two_pow hS g1
      have hS3 : S ||| st < 2 ^ 8 := Nat.or_lt_two_pow hS hs
      rw [nI_and (by omega) (by omega), Nat.or_and_distrib_left]
  · show (if Y.1 = 0 then st else Y.2.2 &&& st) < 256 ∧ (if Y.1 = 0 then st else Y.2.2 &&& st) &&& S = 0
    by_cases q : Y.1 = 0
    · rw [if_pos q]; exact ⟨hs, hd⟩
    · rw [if_neg q]
      exact ⟨Nat.lt_of_le_of_lt Nat.and_le_right hs, by rw [Nat.and_assoc, hd, Nat.and_zero]⟩
/-- the search in the class, all rows in their order -/
theorem ex_e {tr pa ne dn va ch : Nat → Int32} {a kc nc y S : Nat} {tq : Nat → Bool} {tp : Nat → Nat} {ef : Nat → Nat → Nat} {ck : Nat → Int32} (hc8 : nc ≤ 8) (hk4 : kc ≤ 4) (hS : S < 256) (hy : y < 100) (g1 : ∀ c, c < nc → part pa (nI c) 0 = nI (tp c) ∧ tp c < 4) (g2 : ∀ c, c < nc → (tru ne dn (nI c) (nI a) = 0 ↔ tq c = false)) (g3 : ∀ c k, c < nc → k < 31 → effN pa ne dn va (nI c) (nI a) (nI k) = nI (ef c k) ∧ ef c k < 82) (g4 : trait tr (nI a) 1 = nI y) (g5 : ∀ p, p < kc → rA ch 4 (nI p) = ck p) :
    ∀ m p j bl st pre (cn : Nat → Nat) (tm : Nat → Int32) (z : rsT) (Y : yT), p + m = kc → p + j = 4 → bl ≤ 1100 + 82 * p → st < 256 → st &&& S = 0 → (∀ t, t < 4 → cn t ≤ 8 + p ∧ tm t = nI (cn t)) → Y.1 + 8 ^ m ≤ 5000 → zR kc S p pre z Y →
    zR kc S p pre (exS tr pa ne dn va ch (nI a) kc nc j p (nI bl) (nI (S ||| st)) tm z) (zfold (yF (rr nc tq tp ef ck y S m p bl st cn) (pre * 8 ^ m)) Y (8 ^ m)) := by
  intro m
  induction m with
  | zero =>
    intro p j bl st pre cn tm z Y hpm hpj hbl hst hd hcn hY hz
    have hp : p = kc := by omega
    subst hp
    have e1 : exS tr pa ne dn va ch (nI a) p nc j p (nI bl) (nI (S ||| st)) tm z = arS (nI (S ||| st)) z := by
      cases j with
      | zero => rfl
      | succ j => rw [exS_e, if_pos (Nat.le_refl _)]
    have e2 : zfold (yF (rr nc tq tp ef ck y S 0 p bl st cn) (pre * 8 ^ 0)) Y (8 ^ 0) = yA Y pre st := by
      show yA Y (pre * 8 ^ 0 + 0) st = _
      rw [Nat.pow_zero, Nat.mul_one, Nat.add_zero]
    rw [e1, e2]
    rw [Nat.pow_zero] at hY
    exact hz.add hk4 hS (by omega) hst hd
  | succ m ih =>
    intro p j bl st pre cn tm z Y hpm hpj hbl hst hd hcn hY hz
    obtain ⟨j', rfl⟩ : ∃ j', j = j' + 1 := ⟨j - 1, by omega⟩
    rw [exS_e, if_neg (by omega)]
    have hA : 0 < 8 ^ m := Nat.pow_pos (by decide)
    have h8 : 8 ^ (m + 1) = 8 * 8 ^ m := by rw [Nat.pow_succ, Nat.mul_comm]
    -- one c
    have hone : ∀ c, c < 8 → ∀ Y0 : yT, zfold (fun i => yF (rr nc tq tp ef ck y S (m + 1) p bl st cn) (pre * 8 ^ (m + 1)) (c * 8 ^ m + i)) Y0 (8 ^ m) = if (c < nc ∧ tq c = true) ∧ (S ||| st) / 2 ^ c % 2 = 0 ∧ nI (bl + ef c (cn (tp c))) = ck p then zfold (yF (rr nc tq tp ef ck y S m (p + 1) (bl + ef c (cn (tp c)) - y) (st ||| 2 ^ c) (up cn (tp c) (cn (tp c) + 1))) ((pre * 8 + c) * 8 ^ m)) Y0 (8 ^ m) else Y0 := by
      intro c hc Y0
      by_cases q : (c < nc ∧ tq c = true) ∧ (S ||| st) / 2 ^ c % 2 = 0 ∧ nI (bl + ef c (cn (tp c))) = ck p
      · rw [if_pos q]
        refine zf_cg _ (fun i hi s => ?_)
        obtain ⟨d1, d2⟩ := dig_3 (c := c) hi
        unfold yF
        rw [rr, d1, d2, if_pos q, dig_4]
      · rw [if_neg q]
        refine zf_id _ (fun i hi s => ?_)
        obtain ⟨d1, d2⟩ := dig_3 (c := c) hi
        unfold yF
        rw [rr, d1, d2, if_neg q]
        exact if_neg (by simp)
    -- all c ahead of n
    have key : ∀ n, n ≤ nc → zR kc S p pre (zfold (exF tr pa ne dn va ch (nI a) kc nc j' p (nI bl) (nI (S ||| st)) tm) z n) (zfold (yF (rr nc tq tp ef ck y S (m + 1) p bl st cn) (pre * 8 ^ (m + 1))) Y (n * 8 ^ m)) := by
      intro n
      induction n with
      | zero =>
        intro _
        rw [Nat.zero_mul]
        exact hz
      | succ n ihn =>
        intro hn
        have hz' := ihn (by omega)
        rw [Nat.succ_mul, zf_add (yF (rr nc tq tp ef ck y S (m + 1) p bl st cn) (pre * 8 ^ (m + 1))) Y (n * 8 ^ m), hone n (by omega)]
        show zR kc S p pre (exF tr pa ne dn va ch (nI a) kc nc j' p (nI bl) (nI (S ||| st)) tm n (zfold (exF tr pa ne dn va ch (nI a) kc nc j' p (nI bl) (nI (S ||| st)) tm) z n)) _
        have hle := yF_le (R := rr nc tq tp ef ck y S (m + 1) p bl st cn) (b := pre * 8 ^ (m + 1)) (Y := Y) (n * 8 ^ m)
        generalize zfold (exF tr pa ne dn va ch (nI a) kc nc j' p (nI bl) (nI (S ||| st)) tm) z n = z' at *
        generalize zfold (yF (rr nc tq tp ef ck y S (m + 1) p bl st cn) (pre * 8 ^ (m + 1))) Y (n * 8 ^ m) = Y' at *
        have hn8 : n < 8 := by omega
        have hY' : Y'.1 + 8 ^ m ≤ 5000 := by
          have h9 : n * 8 ^ m + 8 ^ m ≤ 8 * 8 ^ m := by
            rw [← Nat.succ_mul]
            exact Nat.mul_le_mul_right _ (by omega)
          omega
        obtain ⟨p1, p2⟩ := g1 n (by omega)
        have p3 := g2 n (by omega)
        obtain ⟨c1, c2⟩ := hcn (tp n) p2
        obtain ⟨p4, p5⟩ := g3 n (cn (tp n)) (by omega) (by omega)
        have hSst : S ||| st < 2 ^ 8 := Nat.or_lt_two_pow hS hst
        have hgo : ((nI (S ||| st) >>> (nI n &&& 31)) &&& 1 = 0) = ((S ||| st) / 2 ^ n % 2 = 0) := by
          rw [nI_bit (by omega) (by omega)]
          exact eq_n (n := 0) (by omega) (by decide)
        have htm : rA tm 4 (part pa (nI n) 0) = nI (cn (tp n)) := by rw [p1, rA_n p2 (by decide)]; exact c2
        have hef : nI bl + effN pa ne dn va (nI n) (nI a) (rA tm 4 (part pa (nI n) 0)) = nI (bl + ef n (cn (tp n))) := by rw [htm, p4, nI_add]
        have htq : (¬ tru ne dn (nI n) (nI a) = 0) = (tq n = true) := by
          refine propext ⟨fun w => ?_, fun w v => ?_⟩
          · cases e : tq n with
            | true => rfl
            | false => exact absurd (p3.mpr e) w
          · rw [p3.mp v] at w; cases w
        have hcnd : (((nI (S ||| st) >>> (nI n &&& 31)) &&& 1 = 0 ∧ ¬ tru ne dn (nI n) (nI a) = 0) ∧ nI bl + effN pa ne dn va (nI n) (nI a) (rA tm 4 (part pa (nI n) 0)) = rA ch 4 (nI p)) = (((S ||| st) / 2 ^ n % 2 = 0 ∧ tq n = true) ∧ nI (bl + ef n (cn (tp n))) = ck p) := by
          rw [hgo, htq, hef, g5 p (by omega)]
        unfold exF
        simp only [hcnd]
        rw [hef]
        by_cases q : (n < nc ∧ tq n = true) ∧ (S ||| st) / 2 ^ n % 2 = 0 ∧ nI (bl + ef n (cn (tp n))) = ck p
        · rw [if_pos q, if_pos ⟨⟨q.2.1, q.1.2⟩, q.2.2⟩]
          have hbit : nI (S ||| st) ||| (1 <<< (nI n &&& 31)) = nI (S ||| (st ||| 2 ^ n)) := by
            have := pw_le (n := n) (m := 8) (by omega)
            rw [bit1 hn8, nI_or (by omega) (by omega), Nat.or_assoc]
          have hst2 : st ||| 2 ^ n < 2 ^ 8 := Nat.or_lt_two_pow hst (Nat.pow_lt_pow_right (by decide) hn8)
          have hcool : imax 0 (nI (bl + ef n (cn (tp n))) - trait tr (nI a) 1) = nI (bl + ef n (cn (tp n)) - y) := by
            rw [g4]; exact (cool_e (by omega) (by omega)).1
          have htm2 : rP tm 4 (part pa (nI n) 0) (rA tm 4 (part pa (nI n) 0) + 1) = upd tm (tp n) (nI (cn (tp n) + 1)) := by
            rw [htm, p1, rP_n p2 (by decide), nI_1]
          rw [hbit, hcool, htm2, rP_n (show p < 4 by omega) (by decide)]
          obtain ⟨z1, z2, z3, z4, z5⟩ := hz'
          have hzc : zR kc S (p + 1) (pre * 8 + n) (upd z'.1 p (nI n), z'.2) Y' := by
            refine ⟨fun e he => ?_, z2, z3, z4, z5⟩
            by_cases w : e = p
            · subst w
              show upd z'.1 e (nI n) e = _
              rw [ups, dig_2 hn8]
            · show upd z'.1 p (nI n) e = _
              rw [upn w, dig_1 hn8 (by omega)]
              exact z1 e (by omega)
          obtain ⟨w1, w2, w3, w4, w5⟩ := ih (p + 1) j' (bl + ef n (cn (tp n)) - y) (st ||| 2 ^ n) (pre * 8 + n) (up cn (tp n) (cn (tp n) + 1)) (upd tm (tp n) (nI (cn (tp n) + 1))) (upd z'.1 p (nI n), z'.2) Y' (by omega) (by omega) (by omega) hst2 (bs_1 hd q.2.1) (fun t ht => by
            by_cases w : t = tp n
            · subst w
              rw [up_s, ups]
              exact ⟨by omega, rfl⟩
            · rw [up_n w, upn w]
              obtain ⟨v1, v2⟩ := hcn t ht
              exact ⟨by omega, v2⟩) hY' hzc
          refine ⟨fun e he => ?_, w2, w3, w4, w5⟩
          rw [w1 e (by omega), dig_1 hn8 he]
        · rw [if_neg q, if_neg (fun v => q ⟨⟨by omega, v.1.2⟩, v.1.1, v.2⟩)]
          exact hz'
    have hk := key nc (Nat.le_refl _)
    -- the others are none
    have hrest : ∀ n, nc ≤ n → n ≤ 8 → zfold (yF (rr nc tq tp ef ck y S (m + 1) p bl st cn) (pre * 8 ^ (m + 1))) Y (n * 8 ^ m) = zfold (yF (rr nc tq tp ef ck y S (m + 1) p bl st cn) (pre * 8 ^ (m + 1))) Y (nc * 8 ^ m) := by
      intro n
      induction n with
      | zero =>
        intro h1 _
        rw [show nc = 0 by omega]
      | succ n ihn =>
        intro h1 h2
        by_cases e : nc = n + 1
        · rw [e]
        · rw [Nat.succ_mul, zf_add (yF (rr nc tq tp ef ck y S (m + 1) p bl st cn) (pre * 8 ^ (m + 1))) Y (n * 8 ^ m), hone n (by omega), if_neg (fun v => by have := v.1.1; omega)]
          exact ihn (by omega) (by omega)
    have h9 := hrest 8 hc8 (Nat.le_refl _)
    rw [← h8] at h9
    rw [h9]
    exact hk
