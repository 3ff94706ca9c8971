/-- the pairs of duellists in their order -/
def LWn (k : Nat) : Nat := ([0, 0, 0, 1, 1, 2] : List Nat).getD k 0
def HGn (k : Nat) : Nat := ([1, 2, 3, 2, 3, 3] : List Nat).getD k 0
theorem lh_n : ∀ k, k < 6 → lw k = nI (LWn k) ∧ hg k = nI (HGn k) ∧ LWn k < 4 ∧ HGn k < 4 ∧ LWn k < HGn k ∧ prN (LWn k) (HGn k) = k := by decide +kernel
theorem coA6 {f72 P : Nat → Int32} {gg : Nat} : ∀ np, np ≤ 4 → coA f72 gg np P np = zfold (fun k P => coK f72 (LWn k) (HGn k) k P (if HGn k < np then min gg (f72 (45 + k)).toNatClampNeg else 0)) P 6
  | 0, _ => rfl
  | 1, _ => rfl
  | 2, _ => rfl
  | 3, _ => rfl
  | 4, _ => rfl
  | n + 5, h => absurd h (by omega)
theorem ifA0 {f72 : Nat → Int32} {e0 gg np n : Nat} {z : Int32 × (Nat → Int32)} : ifA f72 e0 gg np z n = zfold (fun i s => zfold (fun i' s => ifK e0 i (i + 1 + i') s (gg - (f72 (45 + prN i (i + 1 + i'))).toNatClampNeg)) s (np - (i + 1))) z n := rfl
theorem ifA6 {f72 : Nat → Int32} {e0 gg : Nat} {z : Int32 × (Nat → Int32)} : ∀ np, np ≤ 4 → ifA f72 e0 gg np z np = zfold (fun k z => ifK e0 (LWn k) (HGn k) z (if HGn k < np then gg - (f72 (45 + k)).toNatClampNeg else 0)) z 6
  | 0, _ => rfl
  | 1, _ => rfl
  | 2, _ => by rw [ifA0]; rfl
  | 3, _ => by rw [ifA0]; rfl
  | 4, _ => by rw [ifA0]; rfl
  | n + 5, h => absurd h (by omega)
/-- two get points -/
def up2 (Q : Nat → Nat) (L H c e : Nat) : Nat → Nat := fun i => Q i + (if i = L then c else 0) + (if i = H then e else 0)
theorem up2_r {P : Nat → Int32} {Q : Nat → Nat} {L H c e : Nat} (h : ∀ i, i < 4 → P i = nI (Q i)) (hL : L < 4) (hH : H < 4) (hn : L ≠ H) : ∀ i, i < 4 → upd (upd P L (P L + nI c)) H (P H + nI e) i = nI (up2 Q L H c e i) := by
  intro i hi
  unfold up2
  by_cases h1 : i = H
  · subst h1
    rw [ups, h i hi, nI_add, if_neg (Ne.symm hn), if_pos rfl, Nat.add_zero]
  · rw [upn h1, if_neg h1, Nat.add_zero]
    by_cases h2 : i = L
    · subst h2
      rw [ups, h i hi, nI_add, if_pos rfl]
    · rw [upn h2, h i hi, if_neg h2, Nat.add_zero]
theorem up2_s {s : Nat → Int32} {Q : Nat → Nat} {L H c e : Nat} (h : ∀ i, i < 4 → s i = nI (Q i)) (hL : L < 4) (hH : H < 4) (hn : L ≠ H) : ∀ i, i < 4 → lAd (lAd s (nI L) (nI c)) (nI H) (nI e) i = nI (up2 Q L H c e i) := by
  rw [lAdn4 hL, lAdn4 hH, upn (Ne.symm hn)]
  exact up2_r h hL hH hn
/-- what was counted, alike -/
theorem sc_e {np g k m : Nat} {me lo f72 P : Nat → Int32} (hg2 : g ≤ 2) (hk : k < 6) (hm : me k = nI m) (hm9 : m < 2000) (hc : ∀ i, i < 2 → i < m → f72 (51 + 2 * k + i) = lo (2 * k + i) ∧ nb (lo (2 * k + i)) 3) (hz : 0 < m → HGn k < np) : ∀ j i (s : Nat → Int32) (Q : Nat → Nat), i ≤ min g m → min g m < i + j → (∀ x, x < 4 → s x = nI (Q x)) → (∀ x, x < 4 → coK f72 (LWn k) (HGn k) k P i x = nI (Q x)) → ∃ Q' : Nat → Nat, (∀ x, x < 4 → scI me lo (nI g) k j i s x = nI (Q' x)) ∧ (∀ x, x < 4 → coK f72 (LWn k) (HGn k) k P (min g m) x = nI (Q' x)) ∧ (∀ x, Q' x ≤ Q x + 4 * (min g m - i)) ∧ ∀ x, x < 4 → np ≤ x → Q x = 0 → Q' x = 0 := by
  obtain ⟨k1, k2, k3, k4, k5, k6⟩ := lh_n k hk
  intro j
  induction j with
  | zero => intro i s Q h1 h2; omega
  | succ j ih =>
    intro i s Q h1 h2 hs hP
    unfold scI
    have hcn : (nI i < nI g ∧ nI i < rA me 6 (nI k)) = (i < g ∧ i < m) := by
      rw [show rA me 6 (nI k) = nI m from (rA_n hk (by decide)).trans hm, lt_n (by omega) (by omega), lt_n (by omega) (by omega)]
    simp only [hcn]
    by_cases q : i < g ∧ i < m
    · rw [if_pos q]
      have hi2 : i < 2 := by omega
      obtain ⟨c1, c2⟩ := hc i hi2 q.2
      obtain ⟨c, hc3, hce⟩ := nb_e c2
      have e1 : rA lo 12 (nI k * 2 + nI i) = nI c := by
        show rA lo 12 (nI k * nI 2 + nI i) = nI c
        rw [pk_mul, nI_add, rA_n (by omega) (by decide), Nat.mul_comm k 2, hce]
      have e2 : (2 : Int32) - nI c = nI (2 - c) := pk_sub (a := 2) (by omega)
      rw [e1, e2, k1, k2]
      have hP' : ∀ x, x < 4 → coK f72 (LWn k) (HGn k) k P (i + 1) x = nI (up2 Q (LWn k) (HGn k) c (2 - c) x) := by
        have e3 : coK f72 (LWn k) (HGn k) k P (i + 1) = coK_F f72 (LWn k) (HGn k) k i (coK f72 (LWn k) (HGn k) k P i) := rfl
        rw [e3]
        unfold coK_F
        rw [c1, hce, e2]
        exact up2_r hP k3 k4 (by omega)
      obtain ⟨Q', a1, a2, a3, a4⟩ := ih (i + 1) _ (up2 Q (LWn k) (HGn k) c (2 - c)) (by omega) (by omega) (up2_s hs k3 k4 (by omega)) hP'
      refine ⟨Q', a1, a2, fun x => ?_, fun x hx hnx h0 => ?_⟩
      · have h9 := a3 x
        unfold up2 at h9
        split at h9 <;> split at h9 <;> omega
      · have := hz (by omega)
        refine a4 x hx hnx ?_
        unfold up2
        rw [if_neg (by omega), if_neg (by omega), h0]
    · rw [if_neg q]
      have : i = min g m := by omega
      subst this
      exact ⟨Q, hs, hP, fun x => by omega, fun x _ _ h0 => h0⟩
theorem ba_e {np g : Nat} {me lo f72 s0 f84 : Nat → Int32} (hp4 : np ≤ 4) (hg2 : g ≤ 2) (h45 : ∀ p, p < 6 → f72 (45 + p) = me p) (hm : ∀ p, p < 6 → nb (me p) 2000) (hc : ∀ p k, p < 6 → k < 2 → k < (me p).toNatClampNeg → f72 (51 + 2 * p + k) = lo (2 * p + k) ∧ nb (lo (2 * p + k)) 3) (hz : ∀ p, p < 6 → ¬ hg p < nI np → me p = 0) : ∃ Q : Nat → Nat, (∀ x, x < 4 → scK me lo g (clr 4 s0) 6 x = nI (Q x)) ∧ (∀ x, x < 4 → w_X11_counted_84 f72 f84 g np x = nI (Q x)) ∧ (∀ x, Q x ≤ 48) ∧ ∀ x, x < 4 → np ≤ x → Q x = 0 := by
  unfold w_X11_counted_84
  rw [coA6 np hp4]
  have key : ∀ k, k ≤ 6 → ∃ Q : Nat → Nat, (∀ x, x < 4 → scK me lo g (clr 4 s0) k x = nI (Q x)) ∧ (∀ x, x < 4 → zfold (fun k P => coK f72 (LWn k) (HGn k) k P (if HGn k < np then min g (f72 (45 + k)).toNatClampNeg else 0)) (cpR f84 (fun _ => 0) 0 4) k x = nI (Q x)) ∧ (∀ x, Q x ≤ 8 * k) ∧ ∀ x, x < 4 → np ≤ x → Q x = 0 := by
    intro k
    induction k with
    | zero =>
      intro _
      refine ⟨fun _ => 0, fun x hx => ?_, fun x hx => ?_, fun x => Nat.zero_le _, fun _ _ _ => rfl⟩
      · exact if_pos hx
      · exact if_pos ⟨Nat.zero_le _, hx⟩
    | succ k ih =>
      intro hk
      obtain ⟨Q, i1, i2, i3, i4⟩ := ih (by omega)
      obtain ⟨k1, k2, k3, k4, k5, k6⟩ := lh_n k (by omega)
      obtain ⟨m, hm9, hme⟩ := nb_e (hm k (by omega))
      have em : (me k).toNatClampNeg = m := by rw [hme, nI_clamp (by omega)]
      have hzk : 0 < m → HGn k < np := fun q => by
        refine Classical.byContradiction (fun w => ?_)
        have h9 := hz k (by omega) (fun z => by rw [k2, lt_n (by omega) (by omega)] at z; exact w z)
        rw [hme] at h9
        have := (nI_eq (b := 0) (by omega) (by decide)).mp h9
        omega
      have e5 : (if HGn k < np then min g (f72 (45 + k)).toNatClampNeg else 0) = min g m := by
        rw [h45 k (by omega), em]
        by_cases q : HGn k < np
        · rw [if_pos q]
        · rw [if_neg q]
          have : ¬ 0 < m := fun w => q (hzk w)
          omega
      obtain ⟨Q', a1, a2, a3, a4⟩ := sc_e (np := np) (P := zfold (fun k P => coK f72 (LWn k) (HGn k) k P (if HGn k < np then min g (f72 (45 + k)).toNatClampNeg else 0)) (cpR f84 (fun _ => 0) 0 4) k) hg2 (by omega) hme hm9 (fun i h1 h2 => hc k i (by omega) h1 (by rw [em]; exact h2)) hzk (g + 1) 0 (scK me lo g (clr 4 s0) k) Q (Nat.zero_le _) (by omega) i1 i2
      refine ⟨Q', fun x hx => ?_, fun x hx => ?_, fun x => ?_, fun x hx hnx => a4 x hx hnx (i4 x hx hnx)⟩
      · rw [scK_s]; exact a1 x hx
      · show coK f72 (LWn k) (HGn k) k _ (if HGn k < np then min g (f72 (45 + k)).toNatClampNeg else 0) x = _
        rw [e5]; exact a2 x hx
      · have := a3 x
        have := i3 x
        omega
  obtain ⟨Q, h1, h2, h3, h4⟩ := key 6 (Nat.le_refl _)
  exact ⟨Q, h1, h2, h3, h4⟩
/-- the sum of n figures of a number to the base 3 -/
def dgs (n r : Nat) : Nat := zfold (fun i a => a + r / 3 ^ i % 3) 0 n
theorem dgs_le (r : Nat) : ∀ n, dgs n r ≤ 2 * n
  | 0 => Nat.zero_le _
  | n + 1 => by
    have h := dgs_le r n
    have h2 : r / 3 ^ n % 3 < 3 := Nat.mod_lt _ (by decide)
    show dgs n r + r / 3 ^ n % 3 ≤ _
    omega
def cL (d L H n r : Nat) : Nat := if L = d then 2 * n else if H = d then 0 else dgs n r
theorem fi_e {d L H r : Nat} {P : Nat → Int32} {Q : Nat → Nat} (hd : d < 4) (hL : L < 4) (hH : H < 4) (hn : L ≠ H) (hr : r < 1000) (hP : ∀ i, i < 4 → P i = nI (Q i)) : ∀ n, (ifK d L H (nI r, P) n).1 = nI (if L = d ∨ H = d then r else r / 3 ^ n) ∧ ∀ i, i < 4 → (ifK d L H (nI r, P) n).2 i = nI (up2 Q L H (cL d L H n r) (2 * n - cL d L H n r) i)
  | 0 => by
    refine ⟨?_, fun i hi => ?_⟩
    · show nI r = _
      rw [Nat.pow_zero, Nat.div_one, ite_self]
    · show P i = _
      rw [hP i hi]
      unfold up2 cL
      have : dgs 0 r = 0 := rfl
      rw [this]
      simp
  | n + 1 => by
    obtain ⟨i1, i2⟩ := fi_e hd hL hH hn hr hP n
    have e1 : ifK d L H (nI r, P) (n + 1) = ifK_F d L H n (ifK d L H (nI r, P) n).1 (ifK d L H (nI r, P) n).2 := rfl
    rw [e1]
    generalize ifK d L H (nI r, P) n = z at *
    have hle := dgs_le r n
    have hcl : cL d L H n r ≤ 2 * n := by unfold cL; split; omega; split <;> omega
    have hq : r / 3 ^ n < 2 ^ 31 := Nat.lt_of_le_of_lt (Nat.div_le_self _ _) (by omega)
    have h3 : r / 3 ^ n / 3 = r / 3 ^ (n + 1) := by rw [Nat.div_div_eq_div_mul, Nat.pow_succ]
    have hm : r / 3 ^ n % 3 < 3 := Nat.mod_lt _ (by decide)
    have hdg : dgs (n + 1) r = dgs n r + r / 3 ^ n % 3 := rfl
    unfold ifK_F
    simp only [eq_n (k := L) (n := d) (by omega) (by omega), eq_n (k := H) (n := d) (by omega) (by omega), i1]
    by_cases q1 : L = d
    · simp only [if_pos q1, if_pos (Or.inl q1 : L = d ∨ H = d)]
      refine ⟨trivial, fun i hi => ?_⟩
      have e2 : (2 : Int32) - 2 = nI 0 := rfl
      have e3 := up2_r (c := 2) (e := 0) i2 hL hH hn i hi
      rw [e2]
      refine e3.trans ?_
      congr 1
      unfold up2 cL
      rw [if_pos q1, if_pos q1]
      split <;> split <;> omega
    · by_cases q2 : H = d
      · simp only [if_neg q1, if_pos q2, if_pos (Or.inr q2 : L = d ∨ H = d)]
        refine ⟨trivial, fun i hi => ?_⟩
        have e2 : (2 : Int32) - 0 = nI 2 := rfl
        have e3 := up2_r (c := 0) (e := 2) i2 hL hH hn i hi
        rw [e2]
        refine e3.trans ?_
        congr 1
        unfold up2 cL
        rw [if_neg q1, if_pos q2, if_neg q1, if_pos q2]
        split <;> split <;> omega
      · have qn : ¬ (L = d ∨ H = d) := fun z => z.elim q1 q2
        simp only [if_neg q1, if_neg q2, if_neg qn]
        have e3 : nI (r / 3 ^ n) / 3 = nI (r / 3 ^ (n + 1)) := by
          rw [← h3]; exact pk_div hq (d := 3) (by decide) (by decide)
        have e4 : nI (r / 3 ^ n) - nI (r / 3 ^ n) / 3 * 3 = nI (r / 3 ^ n % 3) := pk_rem hq (d := 3) (by decide) (by decide)
        refine ⟨e3, fun i hi => ?_⟩
        have e2 : (2 : Int32) - nI (r / 3 ^ n % 3) = nI (2 - r / 3 ^ n % 3) := pk_sub (a := 2) (by omega)
        rw [e4, e2, up2_r i2 hL hH hn i hi]
        congr 1
        unfold up2 cL
        rw [if_neg q1, if_neg q2, if_neg q1, if_neg q2, hdg]
        unfold cL at hcl
        rw [if_neg q1, if_neg q2] at hcl
        split <;> split <;> omega
/-- the pairs from the k-th on, in the reference -/
def rfR (n : Nat → Nat) (d : Nat) : Nat → Nat → Int32 × (Nat → Int32) → Int32 × (Nat → Int32)
  | 0, _, z => z
  | j + 1, k, z => rfR n d j (k + 1) (ifK d (LWn k) (HGn k) z (n k))
theorem rfR6 {n : Nat → Nat} {d : Nat} {z : Int32 × (Nat → Int32)} : zfold (fun k z => ifK d (LWn k) (HGn k) z (n k)) z 6 = rfR n d 6 0 z := rfl
/-- the points of one who wins all that is left -/
def rsm (n : Nat → Nat) (d : Nat) : Nat → Nat := zfold (fun k a => a + if LWn k = d ∨ HGn k = d then 2 * n k else 0) 0
theorem rsm_s {n : Nat → Nat} {d k : Nat} : rsm n d (k + 1) = rsm n d k + if LWn k = d ∨ HGn k = d then 2 * n k else 0 := rfl
/-- how many of the last j pairs are of others -/
def nm (d : Nat) : Nat → Nat
  | 0 => 0
  | j + 1 => nm d j + if LWn (5 - j) = d ∨ HGn (5 - j) = d then 0 else 1
theorem nm_3 : ∀ d, d < 4 → ∀ j, j < 7 → nm d j ≤ 3 := by decide +kernel
theorem p9_3 : ∀ j, j < 4 → 9 ^ j ≤ 729 := by decide +kernel
theorem dgs_s : ∀ n, n < 3 → ∀ h, h < 2 * n + 1 → ∃ r, r < 3 ^ n ∧ dgs n r = h := by decide +kernel
theorem dgs_m {n r w : Nat} (hn : n ≤ 2) (hr : r < 3 ^ n) : dgs n (r + 3 ^ n * w) = dgs n r ∧ (r + 3 ^ n * w) / 3 ^ n = w := by
  refine ⟨?_, ?_⟩
  · rcases (by omega : n = 0 ∨ n = 1 ∨ n = 2) with rfl | rfl | rfl
    · rfl
    · simp only [dgs, zfold]; omega
    · simp only [dgs, zfold]; omega
  · rw [Nat.add_mul_div_left _ _ (Nat.pow_pos (by decide)), Nat.div_eq_of_lt hr, Nat.zero_add]
theorem zor {f : Nat → Bool} : ∀ n, (zfold (fun h c => c || f h) false n = true) ↔ ∃ h, h < n ∧ f h = true
  | 0 => ⟨fun q => Bool.noConfusion (show false = true from q), fun ⟨h, q, _⟩ => absurd q (Nat.not_lt_zero _)⟩
  | n + 1 => by
    show ((zfold (fun h c => c || f h) false n || f n) = true) ↔ _
    rw [Bool.or_eq_true, zor n]
    constructor
    · rintro (⟨h, h1, h2⟩ | h1)
      · exact ⟨h, by omega, h2⟩
      · exact ⟨n, by omega, h1⟩
    · rintro ⟨h, h1, h2⟩
      by_cases e : h = n
      · subst e; exact Or.inr h2
      · exact Or.inl ⟨h, by omega, h2⟩
theorem hm_x {s : Nat → Int32} {p : Int32} : ∀ j i, (hmB s p j i = true) ↔ ∀ x, i ≤ x → x < i + j → ¬ rA s 4 p < s x
  | 0, i => ⟨fun _ x h1 h2 => by omega, fun _ => rfl⟩
  | j + 1, i => by
    unfold hmB
    by_cases q : rA s 4 p < s i
    · rw [if_pos q]
      exact ⟨fun h => absurd h (by decide), fun h => absurd q (h i (Nat.le_refl _) (by omega))⟩
    · rw [if_neg q, hm_x j (i + 1)]
      refine ⟨fun h x h1 h2 => ?_, fun h x h1 h2 => h x (by omega) (by omega)⟩
      by_cases e : x = i
      · subst e; exact q
      · exact h x (by omega) (by omega)
theorem hm_4 {s : Nat → Int32} {S : Nat → Nat} {d : Nat} (hd : d < 4) (hs : ∀ i, i < 4 → s i = nI (S i)) (hb : ∀ i, i < 4 → S i ≤ 2000) : (hmB s (nI d) 4 0 = true) ↔ ∀ i, i < 4 → S i ≤ S d := by
  rw [hm_x, rA_n hd (by decide)]
  refine ⟨fun h i hi => ?_, fun h x _ h2 => ?_⟩
  · have h9 := h i (Nat.zero_le _) (by omega)
    have b1 := hb i hi
    have b2 := hb d hd
    rw [hs i hi, hs d hd, lt_n (by omega) (by omega)] at h9
    omega
  · have b1 := hb x (by omega)
    have b2 := hb d hd
    have b3 := h x (by omega)
    rw [hs x (by omega), hs d hd, lt_n (by omega) (by omega)]
    omega
theorem up2_b {Q : Nat → Nat} {L H c e b : Nat} (h : ∀ i, i < 4 → Q i ≤ b) (hn : L ≠ H) (hc : c ≤ 4) (he : e ≤ 4) : ∀ i, i < 4 → up2 Q L H c e i ≤ b + 4 := by
  intro i hi
  have := h i hi
  unfold up2
  split <;> split <;> omega
