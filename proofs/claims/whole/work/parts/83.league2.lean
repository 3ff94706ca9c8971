def csO (n : Nat → Nat) (d : Nat) (op : Nat → Int32) : Prop := ∀ k, k < 6 → op k = nI (if LWn k = d ∨ HGn k = d then 0 else 2 * n k)
/-- what agrees when the pairs from the k-th on are left -/
def csA (n : Nat → Nat) (d k : Nat) (S Q : Nat → Nat) : Prop := ∀ i, i < 4 → S i + (if i = d then rsm n d k else 0) = Q i + (if i = d then rsm n d 6 else 0)
/-- own pairs: nothing to share -/
theorem csA_m {n S Q : Nat → Nat} {d k r : Nat} (h : csA n d k S Q) (hne : LWn k ≠ HGn k) (q : LWn k = d ∨ HGn k = d) : csA n d (k + 1) (up2 S (LWn k) (HGn k) 0 0) (up2 Q (LWn k) (HGn k) (cL d (LWn k) (HGn k) (n k) r) (2 * n k - cL d (LWn k) (HGn k) (n k) r)) := by
  intro i hi
  have h9 := h i hi
  rw [rsm_s, if_pos q]
  unfold up2 cL
  generalize LWn k = L at *
  generalize HGn k = H at *
  by_cases q1 : L = d
  · rw [if_pos q1]
    by_cases e : i = d
    · rw [if_pos e] at h9 ⊢
      rw [if_pos e] at h9 ⊢
      have e1 : i = L := e.trans q1.symm
      have e2 : ¬ i = H := fun z => hne (e1.symm.trans z)
      simp only [if_pos e1, if_neg e2]
      omega
    · rw [if_neg e] at h9 ⊢
      rw [if_neg e] at h9 ⊢
      have e1 : ¬ i = L := fun z => e (z.trans q1)
      simp only [if_neg e1]
      split <;> omega
  · have q2 := q.resolve_left q1
    rw [if_neg q1, if_pos q2]
    by_cases e : i = d
    · rw [if_pos e] at h9 ⊢
      rw [if_pos e] at h9 ⊢
      have e1 : i = H := e.trans q2.symm
      have e2 : ¬ i = L := fun z => hne (z.symm.trans e1)
      simp only [if_pos e1, if_neg e2]
      omega
    · rw [if_neg e] at h9 ⊢
      rw [if_neg e] at h9 ⊢
      have e1 : ¬ i = H := fun z => e (z.trans q2)
      simp only [if_neg e1]
      split <;> omega
theorem csA_o {n S Q : Nat → Nat} {d k c e : Nat} (h : csA n d k S Q) (q : ¬ (LWn k = d ∨ HGn k = d)) : csA n d (k + 1) (up2 S (LWn k) (HGn k) c e) (up2 Q (LWn k) (HGn k) c e) := by
  intro i hi
  have h9 := h i hi
  rw [rsm_s, if_neg q, Nat.add_zero]
  unfold up2
  omega
theorem csA_6 {n S Q : Nat → Nat} {d : Nat} (h : csA n d 6 S Q) : ∀ i, i < 4 → S i = Q i := fun i hi => by have := h i hi; omega
theorem cL_o {d L H n r : Nat} (q : ¬ (L = d ∨ H = d)) : cL d L H n r = dgs n r := by
  unfold cL
  rw [if_neg (fun z => q (Or.inl z)), if_neg (fun z => q (Or.inr z))]
theorem cL_le {d L H n r : Nat} : cL d L H n r ≤ 2 * n := by
  unfold cL
  have := dgs_le r n
  split
  · omega
  · split <;> omega
theorem cs_1 {np d : Nat} {n : Nat → Nat} {op : Nat → Int32} (hd : d < 4) (hnp : np ≤ 4) (hn : ∀ k, k < 6 → n k ≤ 2) (hop : csO n d op) : ∀ j k (s : Nat → Int32) (S : Nat → Nat), k + j = 6 → (∀ i, i < 4 → s i = nI (S i)) → (∀ i, i < 4 → S i ≤ 100 + 4 * k) → csB op (nI d) j k s = true → ∃ w, w < 9 ^ (nm d j) ∧ ∀ (P : Nat → Int32) (Q : Nat → Nat), (∀ i, i < 4 → P i = nI (Q i)) → (∀ i, i < 4 → Q i ≤ 100 + 4 * k) → csA n d k S Q → ∀ a, a < np → (rfR n d j k (nI w, P)).2 a ≤ (rfR n d j k (nI w, P)).2 d := by
  intro j
  induction j with
  | zero =>
    intro k s S hk hs hb hc
    have hk6 : k = 6 := by omega
    subst hk6
    refine ⟨0, Nat.pow_pos (by decide), fun P Q hP hQ hA a ha => ?_⟩
    have h4 := (hm_4 hd hs (fun i hi => by have := hb i hi; omega)).mp hc a (by omega)
    show P a ≤ P d
    rw [hP a (by omega), hP d hd, ← csA_6 hA a (by omega), ← csA_6 hA d hd]
    exact nI_le h4 (by have := hb d hd; omega)
  | succ j ih =>
    intro k s S hk hs hb hc
    obtain ⟨k1, k2, k3, k4, k5, k6⟩ := lh_n k (by omega)
    have hk2 := hn k (by omega)
    have hopk : rA op 6 (nI k) = nI (if LWn k = d ∨ HGn k = d then 0 else 2 * n k) := (rA_n (by omega) (by decide)).trans (hop k (by omega))
    have e5 : 5 - j = k := by omega
    have hnm : nm d (j + 1) = nm d j + if LWn k = d ∨ HGn k = d then 0 else 1 := by
      show nm d j + (if LWn (5 - j) = d ∨ HGn (5 - j) = d then 0 else 1) = _
      rw [e5]
    have hw9 : ∀ w, w < 9 ^ nm d j → w < 1000 := fun w hw => by
      have h1 := p9_3 (nm d j) (by have := nm_3 d hd j (by omega); omega)
      omega
    unfold csB at hc
    rw [zor] at hc
    obtain ⟨h, h1, h2⟩ := hc
    rw [hopk, k1, k2] at h2
    rw [hopk] at h1
    by_cases q : LWn k = d ∨ HGn k = d
    · rw [if_pos q, nI_clamp (by decide)] at h1
      have h0 : h = 0 := by omega
      subst h0
      rw [if_pos q, show nI 0 - nI 0 = nI 0 from rfl] at h2
      obtain ⟨w, w1, w2⟩ := ih (k + 1) _ (up2 S (LWn k) (HGn k) 0 0) (by omega) (up2_s hs k3 k4 (by omega)) (fun i hi => by have := up2_b (c := 0) (e := 0) hb (show LWn k ≠ HGn k by omega) (by omega) (by omega) i hi; omega) h2
      refine ⟨w, by rw [hnm, if_pos q]; exact w1, fun P Q hP hQ hA a ha => ?_⟩
      have hwk := hw9 w w1
      obtain ⟨f1, f2⟩ := fi_e (d := d) hd k3 k4 (by omega) hwk hP (n k)
      have e1 : ifK d (LWn k) (HGn k) (nI w, P) (n k) = (nI w, (ifK d (LWn k) (HGn k) (nI w, P) (n k)).2) := by
        rw [if_pos q] at f1
        exact Prod.ext f1 rfl
      show (rfR n d j (k + 1) (ifK d (LWn k) (HGn k) (nI w, P) (n k))).2 a ≤ (rfR n d j (k + 1) (ifK d (LWn k) (HGn k) (nI w, P) (n k))).2 d
      rw [e1]
      have hcl := cL_le (d := d) (L := LWn k) (H := HGn k) (n := n k) (r := w)
      exact w2 _ _ f2 (fun i hi => by have := up2_b hQ (show LWn k ≠ HGn k by omega) (show cL d (LWn k) (HGn k) (n k) w ≤ 4 by omega) (show 2 * n k - cL d (LWn k) (HGn k) (n k) w ≤ 4 by omega) i hi; omega) (csA_m hA (by omega) q) a ha
    · rw [if_neg q, nI_clamp (by omega)] at h1
      rw [if_neg q, pk_sub (show h ≤ 2 * n k by omega)] at h2
      obtain ⟨w, w1, w2⟩ := ih (k + 1) _ (up2 S (LWn k) (HGn k) h (2 * n k - h)) (by omega) (up2_s hs k3 k4 (by omega)) (fun i hi => by have := up2_b hb (show LWn k ≠ HGn k by omega) (show h ≤ 4 by omega) (show 2 * n k - h ≤ 4 by omega) i hi; omega) h2
      obtain ⟨r, r1, r2⟩ := dgs_s (n k) (by omega) h h1
      obtain ⟨m1, m2⟩ := dgs_m (w := w) hk2 r1
      have hb9 : r + 3 ^ n k * w < 9 ^ nm d (j + 1) := by
        rw [hnm, if_neg q, Nat.pow_succ]
        generalize 9 ^ nm d j = A at w1
        rcases (by omega : n k = 0 ∨ n k = 1 ∨ n k = 2) with e | e | e
        · rw [e] at r1 ⊢; simp only [Nat.pow_zero] at r1 ⊢; omega
        · rw [e] at r1 ⊢; simp only [Nat.pow_one] at r1 ⊢; omega
        · rw [e] at r1 ⊢; rw [show 3 ^ 2 = 9 from rfl] at r1 ⊢; omega
      refine ⟨r + 3 ^ n k * w, hb9, fun P Q hP hQ hA a ha => ?_⟩
      have hwk : r + 3 ^ n k * w < 1000 := by
        have h1 := p9_3 (nm d (j + 1)) (by have := nm_3 d hd (j + 1) (by omega); omega)
        omega
      obtain ⟨f1, f2⟩ := fi_e (d := d) hd k3 k4 (by omega) hwk hP (n k)
      rw [if_neg q, m2] at f1
      rw [cL_o q, m1, r2] at f2
      have e1 : ifK d (LWn k) (HGn k) (nI (r + 3 ^ n k * w), P) (n k) = (nI w, (ifK d (LWn k) (HGn k) (nI (r + 3 ^ n k * w), P) (n k)).2) := Prod.ext f1 rfl
      show (rfR n d j (k + 1) (ifK d (LWn k) (HGn k) (nI (r + 3 ^ n k * w), P) (n k))).2 a ≤ (rfR n d j (k + 1) (ifK d (LWn k) (HGn k) (nI (r + 3 ^ n k * w), P) (n k))).2 d
      rw [e1]
      exact w2 _ _ f2 (fun i hi => by have := up2_b hQ (show LWn k ≠ HGn k by omega) (show h ≤ 4 by omega) (show 2 * n k - h ≤ 4 by omega) i hi; omega) (csA_o hA q) a ha
theorem cs_2 {np d : Nat} {n : Nat → Nat} {op : Nat → Int32} (hd : d < 4) (hnp : np ≤ 4) (hn : ∀ k, k < 6 → n k ≤ 2) (hn0 : ∀ k, k < 6 → ¬ HGn k < np → n k = 0) (hop : csO n d op) : ∀ j k (s : Nat → Int32) (S : Nat → Nat) (r : Nat) (P : Nat → Int32) (Q : Nat → Nat), k + j = 6 → (∀ i, i < 4 → s i = nI (S i)) → (∀ i, i < 4 → S i ≤ 100 + 4 * k) → r < 1000 → (∀ i, i < 4 → P i = nI (Q i)) → (∀ i, i < 4 → Q i ≤ 100 + 4 * k) → csA n d k S Q → (∀ i, i < 4 → np ≤ i → Q i = 0) → (∀ a, a < np → (rfR n d j k (nI r, P)).2 a ≤ (rfR n d j k (nI r, P)).2 d) → csB op (nI d) j k s = true := by
  intro j
  induction j with
  | zero =>
    intro k s S r P Q hk hs hb hr hP hQ hA h0 hf
    have hk6 : k = 6 := by omega
    subst hk6
    refine (hm_4 hd hs (fun i hi => by have := hb i hi; omega)).mpr (fun i hi => ?_)
    rw [csA_6 hA i hi, csA_6 hA d hd]
    by_cases q : i < np
    · have h9 : P i ≤ P d := hf i q
      rw [hP i hi, hP d hd] at h9
      exact (nI_leI (by have := hQ i hi; omega) (by have := hQ d hd; omega)).mp h9
    · rw [h0 i hi (by omega)]; exact Nat.zero_le _
  | succ j ih =>
    intro k s S r P Q hk hs hb hr hP hQ hA h0 hf
    obtain ⟨k1, k2, k3, k4, k5, k6⟩ := lh_n k (by omega)
    have hk2 := hn k (by omega)
    have hopk : rA op 6 (nI k) = nI (if LWn k = d ∨ HGn k = d then 0 else 2 * n k) := (rA_n (by omega) (by decide)).trans (hop k (by omega))
    obtain ⟨f1, f2⟩ := fi_e (d := d) hd k3 k4 (by omega) hr hP (n k)
    have hcl := cL_le (d := d) (L := LWn k) (H := HGn k) (n := n k) (r := r)
    have hf' : ∀ a, a < np → (rfR n d j (k + 1) (ifK d (LWn k) (HGn k) (nI r, P) (n k))).2 a ≤ (rfR n d j (k + 1) (ifK d (LWn k) (HGn k) (nI r, P) (n k))).2 d := hf
    have e1 : ifK d (LWn k) (HGn k) (nI r, P) (n k) = (nI (if LWn k = d ∨ HGn k = d then r else r / 3 ^ n k), (ifK d (LWn k) (HGn k) (nI r, P) (n k)).2) := Prod.ext f1 rfl
    rw [e1] at hf'
    have hQ' : ∀ i, i < 4 → up2 Q (LWn k) (HGn k) (cL d (LWn k) (HGn k) (n k) r) (2 * n k - cL d (LWn k) (HGn k) (n k) r) i ≤ 100 + 4 * (k + 1) := fun i hi => by
      have := up2_b hQ (show LWn k ≠ HGn k by omega) (show cL d (LWn k) (HGn k) (n k) r ≤ 4 by omega) (show 2 * n k - cL d (LWn k) (HGn k) (n k) r ≤ 4 by omega) i hi
      omega
    have h0' : ∀ i, i < 4 → np ≤ i → up2 Q (LWn k) (HGn k) (cL d (LWn k) (HGn k) (n k) r) (2 * n k - cL d (LWn k) (HGn k) (n k) r) i = 0 := fun i hi hni => by
      have hz := h0 i hi hni
      unfold up2
      by_cases w : HGn k < np
      · rw [if_neg (by omega), if_neg (by omega), hz]
      · have := hn0 k (by omega) w
        rw [hz]
        split <;> split <;> omega
    have hr' : (if LWn k = d ∨ HGn k = d then r else r / 3 ^ n k) < 1000 := by
      split
      · exact hr
      · exact Nat.lt_of_le_of_lt (Nat.div_le_self _ _) hr
    unfold csB
    rw [zor, hopk, k1, k2]
    by_cases q : LWn k = d ∨ HGn k = d
    · refine ⟨0, Nat.succ_pos _, ?_⟩
      rw [if_pos q, show nI 0 - nI 0 = nI 0 from rfl]
      exact ih (k + 1) _ (up2 S (LWn k) (HGn k) 0 0) _ _ _ (by omega) (up2_s hs k3 k4 (by omega)) (fun i hi => by have := up2_b (c := 0) (e := 0) hb (show LWn k ≠ HGn k by omega) (by omega) (by omega) i hi; omega) hr' f2 hQ' (csA_m hA (by omega) q) h0' hf'
    · have hc := cL_o (n := n k) (r := r) q
      rw [hc] at hcl
      refine ⟨dgs (n k) r, by rw [if_neg q, nI_clamp (by omega)]; omega, ?_⟩
      rw [if_neg q, pk_sub hcl]
      rw [hc] at f2 hQ' h0'
      exact ih (k + 1) _ (up2 S (LWn k) (HGn k) (dgs (n k) r) (2 * n k - dgs (n k) r)) _ _ _ (by omega) (up2_s hs k3 k4 (by omega)) (fun i hi => by have := up2_b hb (show LWn k ≠ HGn k by omega) (show dgs (n k) r ≤ 4 by omega) (show 2 * n k - dgs (n k) r ≤ 4 by omega) i hi; omega) hr' f2 hQ' (csA_o hA q) h0' hf'
/-- how many duels are left -/
def lfN (np g : Nat) (m : Nat → Nat) (k : Nat) : Nat := if HGn k < np then g - m k else 0
theorem pw_e {np g d : Nat} {me : Nat → Int32} {m : Nat → Nat} {s0 o0 : Nat → Int32} {B : Nat → Nat} (hp4 : np ≤ 4) (hg : g ≤ 2) (hd : d < 4) (hm : ∀ k, k < 6 → me k = nI (m k) ∧ m k < 2000) (hs : ∀ i, i < 4 → s0 i = nI (B i)) : ∀ K, K ≤ 6 → (∀ i, i < 4 → (pwI me (nI g) (nI np) (nI d) (s0, o0) K).1 i = nI (B i + if i = d then rsm (lfN np g m) d K else 0)) ∧ ∀ k, k < K → (pwI me (nI g) (nI np) (nI d) (s0, o0) K).2 k = nI (if LWn k = d ∨ HGn k = d then 0 else 2 * lfN np g m k)
  | 0, _ => by
    refine ⟨fun i hi => ?_, fun k hk => absurd hk (Nat.not_lt_zero _)⟩
    show s0 i = _
    rw [hs i hi]
    show nI (B i) = nI (B i + if i = d then 0 else 0)
    rw [ite_self, Nat.add_zero]
  | K + 1, hK => by
    obtain ⟨i1, i2⟩ := pw_e hp4 hg hd hm hs K (by omega)
    obtain ⟨k1, k2, k3, k4, k5, k6⟩ := lh_n K (by omega)
    obtain ⟨m1, m2⟩ := hm K (by omega)
    have e1 : pwI me (nI g) (nI np) (nI d) (s0, o0) (K + 1) = pwS me (nI g) (nI np) (nI d) K (pwI me (nI g) (nI np) (nI d) (s0, o0) K) := rfl
    rw [e1]
    generalize pwI me (nI g) (nI np) (nI d) (s0, o0) K = z at *
    have eL : pwL me (nI g) (nI np) K = nI (lfN np g m K) := by
      unfold pwL lfN
      rw [k2, rA_n (by omega) (by decide), m1, (cool_e (x := g) (y := m K) (by omega) (by omega)).1]
      simp only [lt_n (k := HGn K) (n := np) (by omega) (by omega)]
      split <;> rfl
    have e2 : 2 * pwL me (nI g) (nI np) K = nI (2 * lfN np g m K) := by rw [eL]; exact pk_mul 2 _
    have eM : (pwM (nI d) K = true) = (LWn K = d ∨ HGn K = d) := by
      unfold pwM
      rw [k1, k2, decide_eq_true_eq, eq_n (by omega) (by omega), eq_n (by omega) (by omega)]
    unfold pwS
    simp only [eM]
    rw [e2]
    refine ⟨fun i hi => ?_, fun k hk => ?_⟩
    · rw [lAdn4 hd, rsm_s]
      by_cases q : LWn K = d ∨ HGn K = d
      · rw [if_pos q, if_pos q]
        by_cases e : i = d
        · subst e
          rw [ups, i1 i hi, nI_add, if_pos rfl, if_pos rfl, Nat.add_assoc]
        · rw [upn e, i1 i hi, if_neg e, if_neg e]
      · rw [if_neg q, if_neg q, Int32.add_zero, upd_id, i1 i hi, Nat.add_zero]
    · rw [rP_n (by omega) (by decide)]
      by_cases e : k = K
      · subst e
        rw [ups]
        by_cases q : LWn k = d ∨ HGn k = d
        · rw [if_pos q, if_pos q]; rfl
        · rw [if_neg q, if_neg q]
      · rw [upn e]; exact i2 k (by omega)
theorem iz_e {v : Nat → Int32} {d : Nat} : ∀ n, ¬ ifZ v d 1 n = 0 ↔ ∀ a, a < n → v a ≤ v d
  | 0 => ⟨fun _ a h => absurd h (Nat.not_lt_zero _), fun _ => by show ¬ (1 : Int32) = 0; decide⟩
  | n + 1 => by
    show ¬ ifZ_F v d n (ifZ v d 1 n) = 0 ↔ _
    have ih := iz_e (v := v) (d := d) n
    unfold ifZ_F
    by_cases q : ifZ v d 1 n = 0
    · rw [if_pos q]
      exact ⟨fun h => absurd rfl h, fun h => absurd q (ih.mpr (fun a ha => h a (by omega)))⟩
    · rw [if_neg q]
      have i2 := ih.mp q
      by_cases w : v d < v n
      · rw [if_pos w]
        exact ⟨fun h => absurd rfl h, fun h => absurd w (Int32.not_lt.mpr (h n (by omega)))⟩
      · rw [if_neg w]
        refine ⟨fun _ a ha => ?_, fun _ => by decide⟩
        by_cases e : a = n
        · subst e; exact Int32.not_lt.mp w
        · exact i2 a (by omega)
theorem lgI_0 {f72 P : Nat → Int32} {gg e0 np : Nat} (h : ∀ w, w < 729 → ∀ P, a_X11_isFirst f72 P e0 gg (nI w) np = 0) : ∀ n, n ≤ 729 → (lgI f72 gg e0 np (0, P) n).1 = 0
  | 0, _ => rfl
  | n + 1, hn => by
    have ih := lgI_0 (P := P) h n (by omega)
    show (lgI_F f72 gg e0 np n (lgI f72 gg e0 np (0, P) n).1 (lgI f72 gg e0 np (0, P) n).2).1 = 0
    unfold lgI_F
    rw [if_pos ih]
    exact h n (by omega) _
theorem lgI_1 {f72 : Nat → Int32} {z : Int32 × (Nat → Int32)} {gg e0 np w0 : Nat} (h : ∀ P, ¬ a_X11_isFirst f72 P e0 gg (nI w0) np = 0) : ∀ n, w0 < n → ¬ (lgI f72 gg e0 np z n).1 = 0
  | 0, hn => absurd hn (Nat.not_lt_zero _)
  | n + 1, hn => by
    show ¬ (lgI_F f72 gg e0 np n (lgI f72 gg e0 np z n).1 (lgI f72 gg e0 np z n).2).1 = 0
    unfold lgI_F
    by_cases q : (lgI f72 gg e0 np z n).1 = 0
    · rw [if_pos q]
      by_cases e : w0 = n
      · subst e; exact h _
      · exact absurd q (lgI_1 h n (by omega))
    · rw [if_neg q]; exact q
/-- can this one still win, alike -/
theorem lw_e {np g d : Nat} {me lo f72 s0 o0 : Nat → Int32} (hp4 : np ≤ 4) (hg1 : 1 ≤ g) (hg2 : g ≤ 2) (hd : d < np) (h45 : ∀ p, p < 6 → f72 (45 + p) = me p) (hm : ∀ p, p < 6 → nb (me p) 2000) (hc : ∀ p k, p < 6 → k < 2 → k < (me p).toNatClampNeg → f72 (51 + 2 * p + k) = lo (2 * p + k) ∧ nb (lo (2 * p + k)) 3) (hz : ∀ p, p < 6 → ¬ hg p < nI np → me p = 0) (P : Nat → Int32) :
    (csB (pwI me (nI g) (nI np) (nI d) (scK me lo g (clr 4 s0) 6, o0) 6).2 (nI d) 6 0 (pwI me (nI g) (nI np) (nI d) (scK me lo g (clr 4 s0) 6, o0) 6).1 = true) ↔ ¬ (lgI f72 g d np (0, P) 729).1 = 0 := by
  have hd4 : d < 4 := by omega
  obtain ⟨B, b1, -, b3, b4⟩ := ba_e (s0 := s0) (f84 := P) hp4 hg2 h45 hm hc hz
  have hmm : ∀ k, k < 6 → me k = nI (me k).toNatClampNeg ∧ (me k).toNatClampNeg < 2000 := fun k hk => ⟨(hm k hk).2, (hm k hk).1⟩
  obtain ⟨p1, p2⟩ := pw_e (o0 := o0) (d := d) hp4 hg2 hd4 hmm b1 6 (Nat.le_refl _)
  generalize hn : lfN np g (fun k => (me k).toNatClampNeg) = n at p1 p2
  have hn2 : ∀ k, k < 6 → n k ≤ 2 := fun k hk => by
    rw [← hn]
    unfold lfN
    split <;> omega
  have hn0 : ∀ k, k < 6 → ¬ HGn k < np → n k = 0 := fun k hk h => by
    rw [← hn]
    exact if_neg h
  have hr6 : rsm n d 6 ≤ 24 := by
    have key : ∀ k, k ≤ 6 → rsm n d k ≤ 4 * k := by
      intro k
      induction k with
      | zero => intro _; exact Nat.zero_le _
      | succ k ih =>
        intro hk
        have h1 := ih (by omega)
        have h2 := hn2 k (by omega)
        rw [rsm_s]
        split <;> omega
    exact key 6 (Nat.le_refl _)
  have hS : ∀ i, i < 4 → B i + (if i = d then rsm n d 6 else 0) ≤ 100 + 4 * 0 := fun i hi => by
    have := b3 i
    split <;> omega
  have hQ : ∀ f84, ∀ x, x < 4 → w_X11_counted_84 f72 f84 g np x = nI (B x) := fun f84 x hx => by
    obtain ⟨B', c1, c2, -, -⟩ := ba_e (s0 := s0) (f84 := f84) hp4 hg2 h45 hm hc hz
    rw [c2 x hx, ← c1 x hx]
    exact b1 x hx
  have hif : ∀ w P, ¬ a_X11_isFirst f72 P d g (nI w) np = 0 ↔ ∀ a, a < np → (rfR n d 6 0 (nI w, w_X11_counted_84 f72 P g np)).2 a ≤ (rfR n d 6 0 (nI w, w_X11_counted_84 f72 P g np)).2 d := fun w P => by
    unfold a_X11_isFirst
    rw [iz_e, ifA6 np hp4]
    have e : (fun k z => ifK d (LWn k) (HGn k) z (if HGn k < np then g - (f72 (45 + k)).toNatClampNeg else 0)) = fun k z => ifK d (LWn k) (HGn k) z (if HGn k < np then g - (f72 (45 + k)).toNatClampNeg else 0) := rfl
    have e6 : zfold (fun k z => ifK d (LWn k) (HGn k) z (if HGn k < np then g - (f72 (45 + k)).toNatClampNeg else 0)) (nI w, w_X11_counted_84 f72 P g np) 6 = rfR n d 6 0 (nI w, w_X11_counted_84 f72 P g np) := by
      have hk : ∀ k, k < 6 → (if HGn k < np then g - (f72 (45 + k)).toNatClampNeg else 0) = n k := fun k hk => by
        rw [← hn, h45 k hk]
        rfl
      simp only [zfold, rfR]
      rw [hk 0 (by decide), hk 1 (by decide), hk 2 (by decide), hk 3 (by decide), hk 4 (by decide), hk 5 (by decide)]
    rw [e6]
  have hA : csA n d 0 (fun i => B i + if i = d then rsm n d 6 else 0) B := fun i hi => by
    show (B i + if i = d then rsm n d 6 else 0) + (if i = d then 0 else 0) = _
    rw [ite_self, Nat.add_zero]
  have hB : ∀ i, i < 4 → B i ≤ 100 + 4 * 0 := fun i _ => by have := b3 i; omega
  constructor
  · intro h
    obtain ⟨w, w1, w2⟩ := cs_1 hd4 hp4 hn2 p2 6 0 _ (fun i => B i + if i = d then rsm n d 6 else 0) rfl p1 hS h
    have hw : w < 729 := by
      have h1 := p9_3 (nm d 6) (by have := nm_3 d hd4 6 (by omega); omega)
      omega
    exact lgI_1 (w0 := w) (fun P => (hif w P).mpr (w2 _ _ (hQ P) hB hA)) 729 hw
  · intro h
    refine Classical.byContradiction (fun hc => h ?_)
    refine lgI_0 (fun w hw P => ?_) 729 (Nat.le_refl _)
    refine Classical.byContradiction (fun h9 => hc ?_)
    exact cs_2 hd4 hp4 hn2 hn0 p2 6 0 _ (fun i => B i + if i = d then rsm n d 6 else 0) w _ _ rfl p1 hS (by omega) (hQ P) hB hA b4 ((hif w P).mp h9)
theorem lg_e {np g : Nat} {me lo f72 f18 f19 f84 : Nat → Int32} (hp4 : np ≤ 4) (hg1 : 1 ≤ g) (hg2 : g ≤ 2) (h45 : ∀ p, p < 6 → f72 (45 + p) = me p) (hm : ∀ p, p < 6 → nb (me p) 2000) (hc : ∀ p k, p < 6 → k < 2 → k < (me p).toNatClampNeg → f72 (51 + 2 * p + k) = lo (2 * p + k) ∧ nb (lo (2 * p + k)) 3) (hz : ∀ p, p < 6 → ¬ hg p < nI np → me p = 0) : ∀ D, D ≤ np → (pwO me lo g (nI np) (0, (f18, f19)) D).1 = (lgO f72 g np (0, f84) D).1
  | 0, _ => rfl
  | D + 1, hD => by
    have ih := lg_e (f18 := f18) (f19 := f19) (f84 := f84) hp4 hg1 hg2 h45 hm hc hz D (by omega)
    have e1 : (pwO me lo g (nI np) (0, (f18, f19)) (D + 1)).1 = (if csB (pwI me (nI g) (nI np) (nI D) (scK me lo g (clr 4 (pwO me lo g (nI np) (0, (f18, f19)) D).2.1) 6, (pwO me lo g (nI np) (0, (f18, f19)) D).2.2) 6).2 (nI D) 6 0 (pwI me (nI g) (nI np) (nI D) (scK me lo g (clr 4 (pwO me lo g (nI np) (0, (f18, f19)) D).2.1) 6, (pwO me lo g (nI np) (0, (f18, f19)) D).2.2) 6).1 = true then (pwO me lo g (nI np) (0, (f18, f19)) D).1 ||| (1 <<< (nI D &&& 31)) else (pwO me lo g (nI np) (0, (f18, f19)) D).1) := rfl
    have e2 : (lgO f72 g np (0, f84) (D + 1)).1 = (lgO f72 g np (0, f84) D).1 ||| (if (lgI f72 g D np (0, (lgO f72 g np (0, f84) D).2) 729).1 = 0 then (0 : Int32) else (1 <<< (nI D &&& 31))) := rfl
    rw [e1, e2, ← ih]
    have h := lw_e (d := D) (s0 := (pwO me lo g (nI np) (0, (f18, f19)) D).2.1) (o0 := (pwO me lo g (nI np) (0, (f18, f19)) D).2.2) hp4 hg1 hg2 (by omega) h45 hm hc hz (lgO f72 g np (0, f84) D).2
    by_cases q : (lgI f72 g D np (0, (lgO f72 g np (0, f84) D).2) 729).1 = 0
    · rw [if_pos q, if_neg (fun w => h.mp w q), Int32.or_zero]
    · rw [if_neg q, if_pos (h.mpr q)]
theorem cl_league {M : Nat} {μ : zH} {x : Int32} (hM : M < 1000) (h : WI M μ) : CL M μ mi_X10_league mi_X11_league [.inl x] := by
  obtain ⟨np, nc, kw, kc, kb, kn, hH, hT, hL, hS, hMm, hN⟩ := h
  have hH0 := hH
  obtain ⟨⟨p1, c1, w1, k1, b1, n1⟩, ⟨p2, c2, w2, k2, b2, n2⟩, hf, hp4, hc8, hw12, hk4, hb20, hn250⟩ := hH
  obtain ⟨hF, hG, hme, hz, hlo, hsd, hE, hdu⟩ := hS
  have h67 : w_X11_league_67 (μ 67) x = upd (μ 67) 0 0 := by unfold w_X11_league_67; rw [ite_self]
  have h45 : ∀ p, p < 6 → nb (μ 72 (45 + p)) 2000 := fun p hp => by rw [hG.2.1 p hp]; exact nb_le (hme p hp) (by omega)
  refine cl_mk (fun l X => e_X10_league (d := 20) p1 hp4 (fun z hz => by obtain ⟨m, h1, h2⟩ := nb_e (hme z hz); exact ⟨m, by omega, h2⟩)) (fun l X => e_X11_league (d := 24) p2 hp4 h45) ?_ ⟨np, nc, kw, kc, kb, kn, WH.of hH0 rfl rfl rfl rfl h67, hT, hL, SR.mono ⟨hF, hG, hme, hz, hlo, hsd, hE, hdu⟩ (Nat.le_succ _), WM.mono hMm (Nat.le_succ _), hN⟩
  show a_X11_league (μ 72) (μ 84) x np = a_X10_league (μ 16) (μ 17) (μ 18) (μ 19) x np
  unfold a_X11_league a_X10_league
  rcases rg1 x (b := 2) (n := 2) rfl (by decide) with ⟨r1, r2⟩ | ⟨k, hk1, hk2, rfl, r1, r2, r3⟩
  · rw [if_pos r1]
    rcases r2 with r2 | ⟨r2, r3⟩
    · rw [if_pos r2]
    · rw [if_neg r2, if_neg r3]
  · rw [if_neg r1, if_neg r2, if_pos r3, nI_clamp (show k < 2 ^ 31 by omega)]
    exact (lg_e hp4 hk1 hk2 hG.2.1 (fun p hp => nb_le (hme p hp) (by omega)) (fun p k h1 h2 h3 => ⟨hG.2.2 p k h1 h2 h3, hlo p k h1 h2 h3⟩) hz np (Nat.le_refl _)).symm
