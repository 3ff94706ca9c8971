/-- the text read: its letters alone count -/
theorem skF_cg {L L' : Nat → Int32} {n : Nat} (h : ∀ k, k < n → L k = L' k) : ∀ j p, skF L n j p = skF L' n j p
  | 0, _ => rfl
  | j + 1, p => by
    rw [skF, skF]
    by_cases q : p < n
    · rw [h p q, skF_cg h j (p + 1)]
    · rw [if_neg (fun w => q w.1), if_neg (fun w => q w.1)]
theorem dgF_cg {L L' : Nat → Int32} {n q : Nat} (h : ∀ k, k < n → L k = L' k) : ∀ j p v, dgF L n q j p v = dgF L' n q j p v
  | 0, _, _ => rfl
  | j + 1, p, v => by
    rw [dgF, dgF]
    by_cases w : p < n
    · rw [h p w, dgF_cg h j (p + 1)]
    · rw [if_neg (fun u => w u.1), if_neg (fun u => w u.1)]
theorem lt_cg {L L' : Nat → Int32} {n p : Nat} (h : ∀ k, k < n → L k = L' k) : lt L n p = lt L' n p := by
  unfold lt
  by_cases w : p < n
  · rw [if_pos w, if_pos w, h p w]
  · rw [if_neg w, if_neg w]
theorem adv_cg {L L' : Nat → Int32} {n : Nat} (h : ∀ k, k < n → L k = L' k) (g : Nat → Int32) : w_X11_advances_67 g L n = w_X11_advances_67 g L' n := by
  have e1 : ∀ p, sk L n p = sk L' n p := fun p => skF_cg h _ _
  have e2 : ∀ p, lt L n p = lt L' n p := fun p => lt_cg h
  have e3 : ∀ p, dg L n p = dg L' n p := fun p => dgF_cg h _ _ _
  unfold w_X11_advances_67
  simp only [e1, e2, e3]
theorem num_cg {L L' : Nat → Int32} {n : Nat} (h : ∀ k, k < n → L k = L' k) (g : Nat → Int32) (lo hi ag : Int32) : w_X11_number_67 g L lo hi ag n = w_X11_number_67 g L' lo hi ag n := by
  unfold w_X11_number_67
  simp only [adv_cg h]
theorem ends_cg {L L' : Nat → Int32} {n : Nat} (h : ∀ k, k < n → L k = L' k) (g : Nat → Int32) : w_X11_ends_67 g L n = w_X11_ends_67 g L' n := by
  unfold w_X11_ends_67
  simp only [adv_cg h]
theorem clD_cg {L L' : Nat → Int32} {n : Nat} (h : ∀ k, k < n → L k = L' k) (a0 : Nat) (z : (Nat → Int32) × (Nat → Int32)) (i : Nat) : clD L a0 n z i = clD L' a0 n z i := by
  unfold clD
  refine zf_cg i (fun k _ s => ?_)
  unfold clD_F
  rw [num_cg h]
theorem mdN_cg {L L' : Nat → Int32} {n : Nat} (h : ∀ k, k < n → L k = L' k) (s : mdT) : mdN L n s = mdN L' n s := by
  have c67 : ∀ f67 f69 f71 word, w_X11_clause_67 f67 L f69 f71 word n = w_X11_clause_67 f67 L' f69 f71 word n := fun f67 f69 f71 word => by
    unfold w_X11_clause_67
    simp only [num_cg h, clD_cg h]
  have c69 : ∀ f67 f69 word, w_X11_clause_69 f67 L f69 word n = w_X11_clause_69 f67 L' f69 word n := fun f67 f69 word => by
    unfold w_X11_clause_69
    simp only [num_cg h, clD_cg h]
  have c70 : ∀ f67 f70 word, w_X11_clause_70 f67 L f70 word n = w_X11_clause_70 f67 L' f70 word n := fun f67 f70 word => by
    unfold w_X11_clause_70
    simp only [num_cg h]
  have c71 : ∀ f67 f71 word, w_X11_clause_71 f67 L f71 word n = w_X11_clause_71 f67 L' f71 word n := fun f67 f71 word => by
    unfold w_X11_clause_71
    simp only [num_cg h]
  unfold mdN
  rw [adv_cg h, c67, c69, c70, c71, ends_cg h]
theorem mdS_cg {L L' : Nat → Int32} {n : Nat} (h : ∀ k, k < n → L k = L' k) : ∀ k s, mdS L n k s = mdS L' n k s
  | 0, _ => rfl
  | k + 1, s => by
    rw [mdS, mdS, mdN_cg h, mdS_cg h k]
/-- what stands at q -/
def lcl (c : Int32) : Int32 := if c = 59 then 2 else if c = 100 then 3 else if c = 99 then 3 else if c = 101 then 3 else 4
def TK (L : Nat → Int32) (n p : Nat) (h : Nat → Int32) : Prop := h 5 = nI (sk L n p) ∧
  ((¬ 0 ≤ lt L n (sk L n p) ∧ ¬ isDg L n (sk L n p) ∧ h 4 = 0) ∨
   (0 ≤ lt L n (sk L n p) ∧ isDg L n (sk L n p) ∧ h 4 = 1 ∧ h 3 = nI (nx L n p) ∧ h 6 = (dg L n (sk L n p)).2 ∧ h 7 = nI (nx L n p - sk L n p)) ∨
   (0 ≤ lt L n (sk L n p) ∧ ¬ isDg L n (sk L n p) ∧ h 4 = lcl (lt L n (sk L n p)) ∧ h 3 = nI (sk L n p + 1) ∧ h 6 = lt L n (sk L n p)))
theorem dg_1 {L : Nat → Int32} {n q : Nat} (h : ¬ isDg L n q) : (dg L n q).1 = q := by
  unfold dg
  rw [dgF_stop h]
theorem dg_2 {L : Nat → Int32} {n q : Nat} (h : isDg L n q) : q < (dg L n q).1 := by
  have hq := h.1
  unfold dg
  rw [show n - q = (n - (q + 1)) + 1 by omega, dgF, if_pos (show q < n ∧ 48 ≤ L q ∧ L q ≤ 57 from h)]
  have := (dgF_le (L := L) (n := n) (q := q) (n - (q + 1)) (q + 1) (if q - q < 3 then 0 * 10 + L q - 48 else 0)).1
  omega
theorem adv_TK {L h : Nat → Int32} {n p : Nat} (h3 : h 3 = nI p) (hp : p < 1000) : TK L n p (w_X11_advances_67 h L n) := by
  have k3 : (h 3).toNatClampNeg = p := by rw [h3, nI_clamp (by omega)]
  unfold TK w_X11_advances_67
  rw [k3]
  generalize hq : sk L n p = q
  by_cases c1 : 0 ≤ lt L n q
  · rw [if_pos c1]
    by_cases c2 : a_X11_in (lt L n q) 48 57 = 0
    · rw [if_pos c2]
      refine ⟨rfl, Or.inr (Or.inr ⟨c1, in_dg.mp c2, rfl, ?_, rfl⟩)⟩
      show nI q + 1 = _
      rw [nI_1]
    · rw [if_neg c2]
      have hd : isDg L n q := Classical.not_not.mp (fun w => c2 (in_dg.mpr w))
      refine ⟨rfl, Or.inr (Or.inl ⟨c1, hd, rfl, ?_, rfl, ?_⟩)⟩
      · show nI (dg L n q).1 = nI (nx L n p)
        unfold nx
        rw [hq]
      · show nI (dg L n q).1 - nI q = _
        unfold nx
        rw [hq, pk_sub (Nat.le_of_lt (dg_2 hd))]
  · rw [if_neg c1]
    refine ⟨rfl, Or.inl ⟨c1, fun w => c1 ?_, rfl⟩⟩
    unfold lt
    rw [if_pos w.1]
    exact Int32.le_trans (by decide) w.2.1
/-- the reader's fault, and the reference's; where none is, what stands next -/
def FT (g h : Nat → Int32) : Prop := g 4 = h 8 ∧ g 3 = h 9
def PR (L : Nat → Int32) (n p : Nat) (g h : Nat → Int32) : Prop := FT g h ∧ (g 4 = 0 → g 3 = -1 ∧ TK L n p h)
theorem gmk_y {g : Nat → Int32} {k w : Int32} (h : g 4 = 0) : gmk g k w 4 = k ∧ gmk g k w 3 = w := by
  unfold gmk
  rw [if_pos h]
  exact ⟨rfl, rfl⟩
theorem gmk_n {g : Nat → Int32} {k w : Int32} (h : ¬ g 4 = 0) : gmk g k w = g := by
  unfold gmk
  rw [if_neg h]
theorem isw_y {h : Nat → Int32} (h8 : h 8 = 0) : ¬ a_X11_isWell h = 0 := by
  unfold a_X11_isWell
  rw [if_pos h8]; decide
theorem isw_n {h : Nat → Int32} (h8 : ¬ h 8 = 0) : a_X11_isWell h = 0 := by
  unfold a_X11_isWell
  rw [if_neg h8]
theorem fails_y {h : Nat → Int32} {k : Int32} (h8 : h 8 = 0) : w_X11_fails_67 h k = upd (upd h 8 k) 9 (h 5) := by
  unfold w_X11_fails_67
  rw [if_neg (isw_y h8)]
theorem fails_n {h : Nat → Int32} {k : Int32} (h8 : ¬ h 8 = 0) : w_X11_fails_67 h k = h := by
  unfold w_X11_fails_67
  rw [if_pos (isw_n h8)]
theorem num_n {h L : Nat → Int32} {lo hi ag : Int32} {n : Nat} (h8 : ¬ h 8 = 0) : w_X11_number_67 h L lo hi ag n = h := by
  have hw := isw_n h8
  unfold w_X11_number_67
  simp only [fails_n h8, if_pos hw]
  repeat' split
  all_goals rfl
theorem gnu_n {L g : Nat → Int32} {n p : Nat} {lo hi : Int32} (h4 : ¬ g 4 = 0) : (gnu L n g p lo hi).2 4 = g 4 ∧ (gnu L n g p lo hi).2 3 = g 3 := by
  unfold gnu gT
  have hg : ¬ upd (gq L n g p) 5 (nI (dg L n (sk L n p)).1) 4 = 0 := h4
  split
  · rw [gmk_n hg]; exact ⟨rfl, rfl⟩
  · split
    · rw [gmk_n hg]; exact ⟨rfl, rfl⟩
    · exact ⟨rfl, rfl⟩
/-- a fault in both -/
theorem PR.fail {L h g' : Nat → Int32} {n p : Nat} {k : Int32} (h8 : h 8 = 0) (hk : ¬ k = 0) (h4 : g' 4 = k) (h3 : g' 3 = h 5) : PR L n p g' (w_X11_fails_67 h k) := by
  rw [fails_y h8]
  exact ⟨⟨h4, h3⟩, fun q => absurd (h4.symm.trans q) hk⟩
theorem num_PR {L g h : Nat → Int32} {n p : Nat} {lo hi : Int32} (hn250 : n ≤ 250) (hp : p ≤ n + 1) (hR : PR L n p g h) : PR L n (nx L n p) (gnu L n g p lo hi).2 (w_X11_number_67 h L lo hi 0 n) ∧ ((gnu L n g p lo hi).2 4 = 0 → g 4 = 0 ∧ (gnu L n g p lo hi).1 = a_X11_number h lo hi 0 ∧ lo ≤ (gnu L n g p lo hi).1 ∧ (gnu L n g p lo hi).1 ≤ hi) := by
  obtain ⟨⟨f1, f2⟩, hT⟩ := hR
  by_cases g4 : g 4 = 0
  · obtain ⟨g3, hK⟩ := hT g4
    have h8 : h 8 = 0 := f1.symm.trans g4
    have hnx := nx_le (L := L) (n := n) (p := p)
    have hG4 : upd (gq L n g p) 5 (nI (dg L n (sk L n p)).1) 4 = 0 := g4
    have hfw1 := fails_W (g := h) (k := 1) (by decide)
    have hfw2 := fails_W (g := h) (k := 2) (by decide)
    have nodig : ¬ isDg L n (sk L n p) → ¬ h 4 = 1 → PR L n (nx L n p) (gnu L n g p lo hi).2 (w_X11_number_67 h L lo hi 0 n) ∧ ((gnu L n g p lo hi).2 4 = 0 → g 4 = 0 ∧ (gnu L n g p lo hi).1 = a_X11_number h lo hi 0 ∧ lo ≤ (gnu L n g p lo hi).1 ∧ (gnu L n g p lo hi).1 ≤ hi) := by
      intro d1 d2
      have e1 : gnu L n g p lo hi = (0, gmk (upd (gq L n g p) 5 (nI (dg L n (sk L n p)).1)) 1 (nI (dg L n (sk L n p)).1)) := by
        unfold gnu
        exact gT_1 (dg_1 d1)
      have e2 : w_X11_number_67 h L lo hi 0 n = w_X11_fails_67 h 1 := by
        unfold w_X11_number_67
        rw [if_neg d2, if_pos hfw1]
      rw [e1, e2]
      obtain ⟨m1, m2⟩ := gmk_y (k := 1) (w := nI (dg L n (sk L n p)).1) hG4
      refine ⟨PR.fail h8 (by decide) m1 ?_, fun q => absurd (m1.symm.trans q) (by decide)⟩
      rw [hK.1]
      exact m2.trans (by rw [dg_1 d1])
    rcases hK.2 with ⟨c1, c2, c3⟩ | ⟨c1, c2, c3, c4, c5, c6⟩ | ⟨c1, c2, c3, c4, c5⟩
    · exact nodig c2 (by rw [c3]; decide)
    · have hne : ¬ (dg L n (sk L n p)).1 = sk L n p := by have := dg_2 c2; omega
      have hnxe : nx L n p = (dg L n (sk L n p)).1 := rfl
      have h37 : (3 < h 7) = (3 < (dg L n (sk L n p)).1 - sk L n p) := by
        rw [c6]
        exact lt_n (k := 3) (by decide) (by omega)
      by_cases bad : 3 < (dg L n (sk L n p)).1 - sk L n p ∨ (dg L n (sk L n p)).2 < lo ∨ hi < (dg L n (sk L n p)).2
      · have e1 : gnu L n g p lo hi = (0, gmk (upd (gq L n g p) 5 (nI (dg L n (sk L n p)).1)) 2 (nI (sk L n p))) := by
          unfold gnu
          exact gT_2 hne bad
        have e2 : w_X11_number_67 h L lo hi 0 n = w_X11_fails_67 h 2 := by
          unfold w_X11_number_67
          rw [if_pos c3]
          by_cases b3 : 3 < h 7
          · rw [if_pos b3, if_pos hfw2]
          · have b4 : a_X11_in (h 6) lo hi = 0 := in_le.mpr (fun w => by
              rcases bad with b | b | b
              · exact b3 (by rw [h37]; exact b)
              · rw [← c5] at b; exact Int32.not_lt.mpr w.1 b
              · rw [← c5] at b; exact Int32.not_lt.mpr w.2 b)
            rw [if_neg b3, if_pos b4, if_pos hfw2]
        rw [e1, e2]
        obtain ⟨m1, m2⟩ := gmk_y (k := 2) (w := nI (sk L n p)) hG4
        refine ⟨PR.fail h8 (by decide) m1 ?_, fun q => absurd (m1.symm.trans q) (by decide)⟩
        rw [hK.1]
        exact m2
      · have e1 : gnu L n g p lo hi = ((dg L n (sk L n p)).2, upd (gq L n g p) 5 (nI (dg L n (sk L n p)).1)) := by
          unfold gnu
          exact gT_3 hne bad
        have b3 : ¬ 3 < h 7 := by rw [h37]; exact fun w => bad (Or.inl w)
        have hlo : lo ≤ (dg L n (sk L n p)).2 := Int32.not_lt.mp (fun w => bad (Or.inr (Or.inl w)))
        have hhi : (dg L n (sk L n p)).2 ≤ hi := Int32.not_lt.mp (fun w => bad (Or.inr (Or.inr w)))
        have b4 : ¬ a_X11_in (h 6) lo hi = 0 := fun w => in_le.mp w (by rw [c5]; exact ⟨hlo, hhi⟩)
        have e2 : w_X11_number_67 h L lo hi 0 n = w_X11_advances_67 h L n := by
          unfold w_X11_number_67
          rw [if_pos c3, if_neg b3, if_neg b4, if_pos rfl, if_neg (isw_y h8)]
        have e3 : a_X11_number h lo hi 0 = h 6 := by
          unfold a_X11_number
          rw [if_pos c3, if_neg b3, if_neg b4, if_pos rfl, if_neg (isw_y h8)]
        rw [e1, e2, e3, c5]
        refine ⟨⟨⟨?_, ?_⟩, fun _ => ⟨g3, adv_TK c4 (by omega)⟩⟩, fun _ => ⟨g4, rfl, hlo, hhi⟩⟩
        · rw [adv_o (by decide)]; exact f1
        · rw [adv_o (by decide)]; exact f2
    · refine nodig c2 ?_
      rw [c3]
      unfold lcl
      repeat' split
      all_goals decide
  · have h8 : ¬ h 8 = 0 := fun q => g4 (f1.trans q)
    obtain ⟨m1, m2⟩ := gnu_n (L := L) (n := n) (p := p) (lo := lo) (hi := hi) g4
    rw [num_n h8]
    refine ⟨⟨⟨m1.trans f1, m2.trans f2⟩, fun q => absurd (m1.symm.trans q) g4⟩, fun q => absurd (m1.symm.trans q) g4⟩
theorem end_PR {L g h : Nat → Int32} {n p : Nat} (hn250 : n ≤ 250) (hp : p ≤ n + 1) (hR : PR L n p g h) : PR L n (sk L n p + 1) (gen L n g p) (w_X11_ends_67 h L n) ∧ (gen L n g p 4 = 0 → g 4 = 0 ∧ sk L n p < n) := by
  obtain ⟨⟨f1, f2⟩, hT⟩ := hR
  have hsk := sk_le (L := L) (n := n) (p := p)
  have hg4 : ∀ G : Nat → Int32, upd G 5 (nI (sk L n p) + 1) 4 = G 4 := fun _ => rfl
  have hg3 : ∀ G : Nat → Int32, upd G 5 (nI (sk L n p) + 1) 3 = G 3 := fun _ => rfl
  have hgn : gen L n g p = upd (if lt L n (sk L n p) = 59 then upd g 5 (nI (sk L n p)) else gmk (upd g 5 (nI (sk L n p))) 1 (nI (sk L n p))) 5 (nI (sk L n p) + 1) := rfl
  by_cases g4 : g 4 = 0
  · obtain ⟨g3, hK⟩ := hT g4
    have h8 : h 8 = 0 := f1.symm.trans g4
    have hG4 : upd g 5 (nI (sk L n p)) 4 = 0 := g4
    by_cases c59 : lt L n (sk L n p) = 59
    · have h4 : h 4 = 2 ∧ h 3 = nI (sk L n p + 1) := by
        rcases hK.2 with ⟨c1, c2, c3⟩ | ⟨c1, c2, c3, c4, c5, c6⟩ | ⟨c1, c2, c3, c4, c5⟩
        · rw [c59] at c1; exact absurd (by decide) c1
        · exfalso
          have hl : lt L n (sk L n p) = L (sk L n p) := if_pos c2.1
          have := c2.2.2
          rw [← hl, c59] at this
          exact absurd this (by decide)
        · refine ⟨?_, c4⟩
          rw [c3, c59]; rfl
      have e2 : w_X11_ends_67 h L n = w_X11_advances_67 h L n := by
        unfold w_X11_ends_67
        rw [if_pos h4.1, if_neg (isw_y h8)]
      have hn : sk L n p < n := by
        refine Classical.byContradiction (fun w => ?_)
        unfold lt at c59
        rw [if_neg w] at c59
        exact absurd c59 (by decide)
      rw [hgn, if_pos c59, e2]
      refine ⟨⟨⟨?_, ?_⟩, fun _ => ⟨g3, adv_TK h4.2 (by omega)⟩⟩, fun _ => ⟨g4, hn⟩⟩
      · rw [adv_o (by decide)]; exact f1
      · rw [adv_o (by decide)]; exact f2
    · have h4 : ¬ h 4 = 2 := by
        rcases hK.2 with ⟨c1, c2, c3⟩ | ⟨c1, c2, c3, c4, c5, c6⟩ | ⟨c1, c2, c3, c4, c5⟩
        · rw [c3]; decide
        · rw [c3]; decide
        · rw [c3]
          unfold lcl
          rw [if_neg c59]
          repeat' split
          all_goals decide
      have e2 : w_X11_ends_67 h L n = w_X11_fails_67 h 1 := by
        unfold w_X11_ends_67
        rw [if_neg h4]
      obtain ⟨m1, m2⟩ := gmk_y (k := 1) (w := nI (sk L n p)) hG4
      rw [hgn, if_neg c59, e2]
      exact ⟨PR.fail h8 (by decide) ((hg4 _).trans m1) ((hg3 _).trans (by rw [hK.1]; exact m2)), fun q => absurd (((hg4 _).trans m1).symm.trans q) (by decide)⟩
  · have h8 : ¬ h 8 = 0 := fun q => g4 (f1.trans q)
    have hG4 : ¬ upd g 5 (nI (sk L n p)) 4 = 0 := g4
    have m : gen L n g p 4 = g 4 ∧ gen L n g p 3 = g 3 := by
      rw [hgn, gmk_n hG4, ite_self]
      exact ⟨rfl, rfl⟩
    have e2 : w_X11_ends_67 h L n = h := by
      unfold w_X11_ends_67
      rw [if_pos (isw_n h8), fails_n h8, ite_self]
    rw [e2]
    exact ⟨⟨⟨m.1.trans f1, m.2.trans f2⟩, fun q => absurd (m.1.symm.trans q) g4⟩, fun q => absurd (m.1.symm.trans q) g4⟩
/-- numbers read one behind another, in the reference -/
def hsq (L : Nat → Int32) (n : Nat) (lo hi : Nat → Int32) (h : Nat → Int32) : Nat → (Nat → Int32)
  | 0 => h
  | i + 1 => w_X11_number_67 (hsq L n lo hi h i) L (lo i) (hi i) 0 n
theorem seq_PR {L g h T : Nat → Int32} {n p sz B m : Nat} {lo hi : Nat → Int32} (hn250 : n ≤ 250) (hp : p ≤ n) (hR : PR L n p g h) (hB : B + m ≤ sz) (hsz : sz < 1000) : ∀ i, i ≤ m → PR L n (peS L n lo hi sz (nI B) i (p, g, T)).1 (peS L n lo hi sz (nI B) i (p, g, T)).2.1 (hsq L n lo hi h i) ∧ (peS L n lo hi sz (nI B) i (p, g, T)).1 ≤ n ∧ p ≤ (peS L n lo hi sz (nI B) i (p, g, T)).1 ∧ (∀ k, k < B ∨ B + i ≤ k → (peS L n lo hi sz (nI B) i (p, g, T)).2.2 k = T k) ∧ ((peS L n lo hi sz (nI B) i (p, g, T)).2.1 4 = 0 → g 4 = 0 ∧ ∀ k, k < i → (peS L n lo hi sz (nI B) i (p, g, T)).2.2 (B + k) = a_X11_number (hsq L n lo hi h k) (lo k) (hi k) 0 ∧ lo k ≤ a_X11_number (hsq L n lo hi h k) (lo k) (hi k) 0 ∧ a_X11_number (hsq L n lo hi h k) (lo k) (hi k) 0 ≤ hi k)
  | 0, _ => ⟨hR, hp, Nat.le_refl _, fun _ _ => rfl, fun q => ⟨q, fun k hk => absurd hk (Nat.not_lt_zero _)⟩⟩
  | i + 1, hi1 => by
    obtain ⟨i1, i2, i3, i4, i5⟩ := seq_PR (lo := lo) (hi := hi) (T := T) hn250 hp hR hB hsz i (by omega)
    have e1 : peS L n lo hi sz (nI B) (i + 1) (p, g, T) = (nx L n (peS L n lo hi sz (nI B) i (p, g, T)).1, (gnu L n (peS L n lo hi sz (nI B) i (p, g, T)).2.1 (peS L n lo hi sz (nI B) i (p, g, T)).1 (lo i) (hi i)).2, rP (peS L n lo hi sz (nI B) i (p, g, T)).2.2 sz (nI B + nI i) (gnu L n (peS L n lo hi sz (nI B) i (p, g, T)).2.1 (peS L n lo hi sz (nI B) i (p, g, T)).1 (lo i) (hi i)).1) := rfl
    rw [e1]
    generalize peS L n lo hi sz (nI B) i (p, g, T) = z at *
    have hnx := nx_le (L := L) (n := n) (p := z.1)
    obtain ⟨n1, n2⟩ := num_PR (lo := lo i) (hi := hi i) hn250 (by omega) i1
    rw [nI_add, rP_n (by omega) (by omega)]
    refine ⟨n1, by show nx L n z.1 ≤ n; omega, by show p ≤ nx L n z.1; omega, fun k hk => ?_, fun q => ?_⟩
    · show upd z.2.2 (B + i) _ k = T k
      rw [upn (by omega)]
      exact i4 k (by omega)
    · obtain ⟨q1, q2, q3, q4⟩ := n2 q
      obtain ⟨r1, r2⟩ := i5 q1
      refine ⟨r1, fun k hk => ?_⟩
      show upd z.2.2 (B + i) _ (B + k) = _ ∧ _
      by_cases e : k = i
      · subst e
        rw [ups]
        rw [q2] at q3 q4
        exact ⟨q2, q3, q4⟩
      · rw [upn (by omega)]
        exact r2 k (by omega)
