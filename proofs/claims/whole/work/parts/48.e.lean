abbrev mdT : Type := (Nat → Int32) × (Nat → Int32) × (Nat → Int32) × (Nat → Int32)
def mdN (f68 : Nat → Int32) (n : Nat) (s : mdT) : mdT := if a_X11_faultOf s.1 ≤ 0 then (w_X11_ends_67 (w_X11_clause_67 (w_X11_advances_67 s.1 f68 n) f68 s.2.1 s.2.2.2 ((s.1 6)) n) f68 n, w_X11_clause_69 (w_X11_advances_67 s.1 f68 n) f68 s.2.1 ((s.1 6)) n, w_X11_clause_70 (w_X11_advances_67 s.1 f68 n) f68 s.2.2.1 ((s.1 6)) n, w_X11_clause_71 (w_X11_advances_67 s.1 f68 n) f68 s.2.2.2 ((s.1 6)) n) else (w_X11_fails_67 s.1 (a_X11_faultOf s.1), s.2.1, s.2.2.1, s.2.2.2)
def mdS (f68 : Nat → Int32) (n : Nat) : Nat → mdT → mdT
  | 0, s => s
  | k + 1, s => if a_X11_isWell s.1 = 0 then s else if s.1 4 = 0 then s else mdS f68 n k (mdN f68 n s)
/-- what the reading of the text keeps -/
def MI (n : Nat) (g : Nat → Int32) : Prop := PI n g ∧ nb (g 12) 5 ∧ nb (g 13) 9
/-- a clause's end is behind a -/
def GE (a : Nat) (g : Nat → Int32) : Prop := (g 4 = 2 → a < (g 3).toNatClampNeg) ∧ a ≤ (g 3).toNatClampNeg
theorem GE.u {a : Nat} {g : Nat → Int32} {k : Nat} {v : Int32} (h : GE a g) (hk : k ≠ 3 ∧ k ≠ 4) : GE a (upd g k v) := by
  unfold GE
  rw [upn (Ne.symm hk.1), upn (Ne.symm hk.2)]
  exact h
theorem GE.fails {a : Nat} {g : Nat → Int32} {k : Int32} (h : GE a g) : GE a (w_X11_fails_67 g k) := by
  unfold w_X11_fails_67
  split
  · exact h
  · exact (h.u (by decide)).u (by decide)
theorem GE.adv {a n : Nat} {g L : Nat → Int32} (hP : PI n g) (hn250 : n ≤ 250) (h : a ≤ (g 3).toNatClampNeg) : GE a (w_X11_advances_67 g L n) := by
  obtain ⟨⟨q, h1, h2, h3⟩, h4⟩ := adv_n (L := L) hP hn250
  have hsk2 := sk_ge (L := L) (n := n) (p := (g 3).toNatClampNeg)
  have hsk := sk_le (L := L) (n := n) (p := (g 3).toNatClampNeg)
  have hp9 := hP.2.1
  refine ⟨fun h5 => ?_, by rw [h3, nI_clamp (by omega)]; omega⟩
  unfold w_X11_advances_67 at h5 ⊢
  by_cases c1 : 0 ≤ lt L n (sk L n (g 3).toNatClampNeg)
  · rw [if_pos c1] at h5 ⊢
    by_cases c2 : a_X11_in (lt L n (sk L n (g 3).toNatClampNeg)) 48 57 = 0
    · rw [if_pos c2] at h5 ⊢
      show a < (nI (sk L n (g 3).toNatClampNeg) + 1).toNatClampNeg
      rw [nI_1, nI_clamp (by omega)]
      omega
    · rw [if_neg c2] at h5
      exact absurd h5 (show ¬ (1 : Int32) = 2 by decide)
  · rw [if_neg c1] at h5
    exact absurd h5 (show ¬ (0 : Int32) = 2 by decide)
theorem GE.number {a n : Nat} {f67 f68 : Nat → Int32} {lo hi ag : Int32} (hP : PI n f67) (hn250 : n ≤ 250) (h : GE a f67) : GE a (w_X11_number_67 f67 f68 lo hi ag n) :=
  number_Q h (fun _ => h.fails) (GE.adv hP hn250 h.2) (fun _ => GE.adv hP.fails hn250 h.fails.2)
theorem clause_Q {Q : (Nat → Int32) → Prop} {f67 f68 f69 f71 : Nat → Int32} {word : Int32} {n : Nat} (hQ : ∀ g lo hi ag, Q g → Q (w_X11_number_67 g f68 lo hi ag n)) (hu : ∀ g k v, k = 12 ∨ k = 13 → Q g → Q (upd g k v)) (h : Q f67) : Q (w_X11_clause_67 f67 f68 f69 f71 word n) := by
  unfold w_X11_clause_67
  by_cases c1 : word = 100
  · rw [if_pos c1]
    exact hu _ _ _ (Or.inl rfl) (clD_Q hQ (hQ _ _ _ _ (hQ _ _ _ _ h)) _)
  · rw [if_neg c1]
    by_cases c2 : word = 99
    · rw [if_pos c2]
      exact hu _ _ _ (Or.inr rfl) (hQ _ _ _ _ (hQ _ _ _ _ (hQ _ _ _ _ (hQ _ _ _ _ (hQ _ _ _ _ h)))))
    · rw [if_neg c2]
      exact hQ _ _ _ _ (hQ _ _ _ _ h)
theorem clause_P {f67 f68 f69 f71 : Nat → Int32} {word : Int32} {n : Nat} (hP : PI n f67) (hn250 : n ≤ 250) : PI n (w_X11_clause_67 f67 f68 f69 f71 word n) :=
  clause_Q (fun g _ _ _ h => PI.number h hn250) (fun g k v hk h => h.u (by omega)) hP
theorem clause_GE {a : Nat} {f67 f68 f69 f71 : Nat → Int32} {word : Int32} {n : Nat} (hP : PI n f67) (hn250 : n ≤ 250) (h : GE a f67) : GE a (w_X11_clause_67 f67 f68 f69 f71 word n) :=
  (clause_Q (Q := fun g => PI n g ∧ GE a g) (fun g _ _ _ h => ⟨PI.number h.1 hn250, GE.number h.1 hn250 h.2⟩) (fun g k v hk h => ⟨h.1.u (by omega), h.2.u (by omega)⟩) ⟨hP, h⟩).2
theorem nb_s {x : Int32} {n : Nat} (h : nb x n) (hn : n < 900) : nb (x + 1) (n + 1) := by
  have h1 := h.1
  have h2 := h.2
  generalize x.toNatClampNeg = k at h1 h2
  rw [h2, nI_1]
  exact nb_I (by omega) (by omega)
theorem clause_dd {f67 f68 f69 f71 : Nat → Int32} {word : Int32} {n : Nat} (hd : word = 100 → nb (f67 12) 4) (hc : word = 99 → nb (f67 13) 8) (h12 : nb (f67 12) 5) (h13 : nb (f67 13) 9) : nb (w_X11_clause_67 f67 f68 f69 f71 word n 12) 5 ∧ nb (w_X11_clause_67 f67 f68 f69 f71 word n 13) 9 := by
  unfold w_X11_clause_67
  by_cases c1 : word = 100
  · rw [if_pos c1, ups, upn (by decide), clD_12 (by omega), clD_12 (by omega)]
    dsimp only
    rw [nm_o (by omega), nm_o (by omega), nm_o (by omega), nm_o (by omega)]
    exact ⟨nb_s (hd c1) (by decide), h13⟩
  · rw [if_neg c1]
    by_cases c2 : word = 99
    · rw [if_pos c2, ups, upn (by decide)]
      simp only [nm_o (f67 := _) (show 9 < 12 ∨ 12 = 2 from Or.inl (by decide)), nm_o (f67 := _) (show 9 < 13 ∨ 13 = 2 from Or.inl (by decide))]
      exact ⟨h12, nb_s (hc c2) (by decide)⟩
    · rw [if_neg c2]
      simp only [nm_o (f67 := _) (show 9 < 12 ∨ 12 = 2 from Or.inl (by decide)), nm_o (f67 := _) (show 9 < 13 ∨ 13 = 2 from Or.inl (by decide))]
      exact ⟨h12, h13⟩
theorem ends_Q {Q : (Nat → Int32) → Prop} {f67 f68 : Nat → Int32} {n : Nat} (h0 : Q f67) (hf : Q (w_X11_fails_67 f67 1)) (ha : Q (w_X11_advances_67 f67 f68 n)) : Q (w_X11_ends_67 f67 f68 n) := by
  unfold w_X11_ends_67
  by_cases c1 : f67 4 = 2
  · rw [if_pos c1]
    split
    · exact h0
    · exact ha
  · rw [if_neg c1]; exact hf
theorem ends_o {f67 f68 : Nat → Int32} {n k : Nat} (hk : 9 < k ∨ k = 2) : w_X11_ends_67 f67 f68 n k = f67 k :=
  ends_Q (Q := fun g => g k = f67 k) rfl (fails_o (by omega)) (adv_o (by omega))
theorem ends_P {f67 f68 : Nat → Int32} {n : Nat} (hP : PI n f67) (hn250 : n ≤ 250) : PI n (w_X11_ends_67 f67 f68 n) := ends_Q hP hP.fails (hP.adv hn250)
theorem fails_W {g : Nat → Int32} {k : Int32} (hk : ¬ k = 0) : a_X11_isWell (w_X11_fails_67 g k) = 0 := by
  unfold a_X11_isWell w_X11_fails_67 a_X11_isWell
  by_cases h8 : g 8 = 0
  · rw [if_pos h8, if_neg (show ¬ (1 : Int32) = 0 by decide)]
    exact if_neg (show ¬ k = 0 from hk)
  · rw [if_neg h8, if_pos rfl]
    exact if_neg h8
theorem ends_W {a n : Nat} {f67 f68 : Nat → Int32} (hP : PI n f67) (hn250 : n ≤ 250) (h : GE a f67) : a_X11_isWell (w_X11_ends_67 f67 f68 n) = 0 ∨ a < (w_X11_ends_67 f67 f68 n 3).toNatClampNeg := by
  unfold w_X11_ends_67
  by_cases c1 : f67 4 = 2
  · rw [if_pos c1]
    by_cases c2 : a_X11_isWell f67 = 0
    · rw [if_pos c2]; exact Or.inl c2
    · rw [if_neg c2]
      exact Or.inr ((GE.adv (a := a + 1) hP hn250 (h.1 c1)).2)
  · rw [if_neg c1]
    exact Or.inl (fails_W (by decide))
theorem fo_dd {g : Nat → Int32} (h : a_X11_faultOf g ≤ 0) (h12 : nb (g 12) 5) (h13 : nb (g 13) 9) : (g 6 = 100 → nb (g 12) 4) ∧ (g 6 = 99 → nb (g 13) 8) := by
  have hk : ∀ (x : Int32) (n : Nat), n < 100 → nb x (n + 1) → ¬ x = nI n → nb x n := by
    intro x n hn hx hne
    refine ⟨?_, hx.2⟩
    have h1 := hx.1
    have h2 : x.toNatClampNeg ≠ n := fun q => hne (by rw [← q]; exact hx.2)
    omega
  unfold a_X11_faultOf at h
  by_cases c1 : g 4 = 3
  · rw [if_pos c1] at h
    refine ⟨fun q => ?_, fun q => ?_⟩
    · rw [if_pos q] at h
      refine hk _ 4 (by decide) h12 (fun r => ?_)
      rw [if_pos (show g 12 = 4 from r)] at h
      exact absurd h (by decide)
    · refine hk _ 8 (by decide) h13 (fun r => ?_)
      rw [if_neg (show ¬ g 6 = 100 by rw [q]; decide), if_pos q, if_pos (show g 13 = 8 from r)] at h
      exact absurd h (by decide)
  · rw [if_neg c1] at h
    exact absurd h (by decide)
theorem mdN_i {L : Nat → Int32} {n : Nat} {s : mdT} (hM : MI n s.1) (hn250 : n ≤ 250) : MI n (mdN L n s).1 ∧ (a_X11_isWell (mdN L n s).1 = 0 ∨ (s.1 3).toNatClampNeg < ((mdN L n s).1 3).toNatClampNeg) := by
  obtain ⟨hP, h12, h13⟩ := hM
  unfold mdN
  by_cases c : a_X11_faultOf s.1 ≤ 0
  · rw [if_pos c]
    obtain ⟨hd, hc⟩ := fo_dd c h12 h13
    have hA := hP.adv (L := L) hn250
    have e12 : w_X11_advances_67 s.1 L n 12 = s.1 12 := adv_o (by decide)
    have e13 : w_X11_advances_67 s.1 L n 13 = s.1 13 := adv_o (by decide)
    have hD := clause_dd (f67 := w_X11_advances_67 s.1 L n) (f68 := L) (f69 := s.2.1) (f71 := s.2.2.2) (word := s.1 6) (n := n) (by rw [e12]; exact hd) (by rw [e13]; exact hc) (by rw [e12]; exact h12) (by rw [e13]; exact h13)
    refine ⟨⟨ends_P (clause_P hA hn250) hn250, ?_, ?_⟩, ends_W (clause_P hA hn250) hn250 (clause_GE hA hn250 (GE.adv hP hn250 (Nat.le_refl _)))⟩
    · show nb (w_X11_ends_67 _ _ _ 12) 5
      rw [ends_o (by decide)]; exact hD.1
    · show nb (w_X11_ends_67 _ _ _ 13) 9
      rw [ends_o (by decide)]; exact hD.2
  · rw [if_neg c]
    refine ⟨⟨hP.fails, ?_, ?_⟩, Or.inl (fails_W (fun q => c (by rw [q]; decide)))⟩
    · show nb (w_X11_fails_67 _ _ 12) 5
      rw [fails_o (by decide)]; exact h12
    · show nb (w_X11_fails_67 _ _ 13) 9
      rw [fails_o (by decide)]; exact h13
theorem lp_X11_meadow {l : Launch} {X : zX} {d : Nat} {μ : zH} {n : Nat} (hn250 : n ≤ 250) {rr : Option zV} {S' : zS} : ∀ (j : Nat) (s1 s2 s3 s4 : Nat → Int32), MI n s1 → (a_X11_isWell s1 = 0 ∨ n - (s1 3).toNatClampNeg < j) → (zEv l X mi_X11_meadow (d + 10) 86 [(0, .inr 67)] [] (zSH, (zhs (zhs (zhs (zhs μ 67 ((mdS (μ 68) n (j + 1) (s1, s2, s3, s4)).1)) 69 ((mdS (μ 68) n (j + 1) (s1, s2, s3, s4)).2.1)) 70 ((mdS (μ 68) n (j + 1) (s1, s2, s3, s4)).2.2.1)) 71 ((mdS (μ 68) n (j + 1) (s1, s2, s3, s4)).2.2.2))) 0 0 rr S') → zEv l X mi_X11_meadow (d + 10) 34 [(0, .inr 67)] [] (zSH, (zhs (zhs (zhs (zhs μ 67 s1) 69 s2) 70 s3) 71 s4)) 0 0 rr S' := by
  intro j
  induction j with
  | zero =>
    intro s1 s2 s3 s4 hM hms hk
    have c9 : a_X11_isWell s1 = 0 := hms.resolve_right (Nat.not_lt_zero _)
    refine pv_aload_n (i := 0) t_X11_meadow_34 rfl rfl ?_
    refine sv_V0 (a_X11_isWell s1) ((zhs (zhs (zhs (zhs μ 67 s1) 69 s2) 70 s3) 71 s4)) t_X11_meadow_35 ml_X11_103 mo_X11_isWell hh_67 rfl (Nat.le_of_ble_eq_true rfl) (e_X11_isWell) (Nat.le_of_ble_eq_true rfl) rfl rfl ?_
    refine pv_if_eq t_X11_meadow_38 (fun c38 => ?_) (fun c38 => absurd c9 c38)
    rw [mdS, if_pos c9] at hk
    exact hk
  | succ j ih =>
    intro s1 s2 s3 s4 hM hms hk
    refine pv_aload_n (i := 0) t_X11_meadow_34 rfl rfl ?_
    refine sv_V0 (a_X11_isWell s1) ((zhs (zhs (zhs (zhs μ 67 s1) 69 s2) 70 s3) 71 s4)) t_X11_meadow_35 ml_X11_103 mo_X11_isWell hh_67 rfl (Nat.le_of_ble_eq_true rfl) (e_X11_isWell) (Nat.le_of_ble_eq_true rfl) rfl rfl ?_
    refine pv_if_eq t_X11_meadow_38 (fun c38 => ?_) (fun c38 => ?_)
    · skip
      rw [mdS, if_pos c38] at hk
      exact hk
    · skip
      refine pv_aload_n (i := 0) t_X11_meadow_41 rfl rfl ?_
      refine sv_getI (s1 4) t_X11_meadow_42 fl_X11_91 hh_67 rfl rfl ?_
      refine pv_if_eq t_X11_meadow_45 (fun c45 => ?_) (fun c45 => ?_)
      · skip
        rw [mdS, if_neg c38, if_pos c45] at hk
        exact hk
      · skip
        refine pv_aload_n (i := 0) t_X11_meadow_48 rfl rfl ?_
        refine sv_V0 (a_X11_faultOf s1) ((zhs (zhs (zhs (zhs μ 67 s1) 69 s2) 70 s3) 71 s4)) t_X11_meadow_49 ml_X11_124 mo_X11_faultOf hh_67 rfl (Nat.le_of_ble_eq_true rfl) (e_X11_faultOf) (Nat.le_of_ble_eq_true rfl) rfl rfl ?_
        refine pv_istore_n (i := 1) t_X11_meadow_52 rfl (Nat.le_of_ble_eq_true rfl) ?_
        refine pv_iload_n (i := 1) t_X11_meadow_53 rfl rfl ?_
        refine pv_if_le t_X11_meadow_54 (fun c54 => ?_) (fun c54 => ?_)
        · skip
          obtain ⟨hd9, hc9⟩ := fo_dd c54 hM.2.1 hM.2.2
          have hP := hM.1
          refine pv_aload_n (i := 0) t_X11_meadow_65 rfl rfl ?_
          refine sv_getI (s1 6) t_X11_meadow_66 fl_X11_94 hh_67 rfl rfl ?_
          refine pv_istore_n (i := 2) t_X11_meadow_69 rfl (Nat.le_of_ble_eq_true rfl) ?_
          refine pv_aload_n (i := 0) t_X11_meadow_70 rfl rfl ?_
          refine sv_WV0 ((zhs (zhs (zhs (zhs μ 69 s2) 70 s3) 71 s4) 67 (w_X11_advances_67 s1 (μ 68) n))) t_X11_meadow_71 ml_X11_111 mo_X11_advances hh_67 rfl (Nat.le_of_ble_eq_true rfl) (e_X11_advances (by (try simp (disch := decide) only [zhs_d, zhs_s]); repeat (first | with_reducible exact hP | with_reducible refine PI.number ?_ hn250 | with_reducible refine PI.adv ?_ hn250 | with_reducible refine PI.fails ?_ | refine PI.u ?_ (by decide))) hn250) (Nat.le_of_ble_eq_true rfl) (by (try simp (disch := decide) only [zhs_d, zhs_s]); rw [zhs_cm (μ := μ) (a := 67) (b := 69) (by decide), zhs_cm (μ := (zhs μ 69 s2)) (a := 67) (b := 70) (by decide), zhs_cm (μ := (zhs (zhs μ 69 s2) 70 s3)) (a := 67) (b := 71) (by decide), zhs_hs] <;> (first | rfl | (congr 1; funext k_; simp only [upd, zhs_s]; ((repeat' split) <;> first | rfl | omega | (subst_vars; contradiction) | (simp_all; done))))) ?_
          refine pv_aload_n (i := 0) t_X11_meadow_74 rfl rfl ?_
          refine pv_iload_n (i := 2) t_X11_meadow_75 rfl rfl ?_
          refine sv_WV1 ((zhs (zhs (zhs (zhs μ 69 (w_X11_clause_69 (w_X11_advances_67 s1 (μ 68) n) (μ 68) s2 (s1 6) n)) 71 (w_X11_clause_71 (w_X11_advances_67 s1 (μ 68) n) (μ 68) s4 (s1 6) n)) 67 (w_X11_clause_67 (w_X11_advances_67 s1 (μ 68) n) (μ 68) s2 s4 (s1 6) n)) 70 (w_X11_clause_70 (w_X11_advances_67 s1 (μ 68) n) (μ 68) s3 (s1 6) n))) t_X11_meadow_76 ml_X11_128 mo_X11_clause hh_67 rfl (Nat.le_of_ble_eq_true rfl) (e_X11_clause (PI.adv hM.1 hn250) hn250 (by simp (disch := decide) only [zhs_d, zhs_s]; rw [adv_o (by omega)]; exact hd9) (by simp (disch := decide) only [zhs_d, zhs_s]; rw [adv_o (by omega)]; exact hc9) (by simp (disch := decide) only [zhs_d, zhs_s]; rw [adv_o (by omega)]; exact hM.2.1)) (Nat.le_of_ble_eq_true rfl) (by (try simp (disch := decide) only [zhs_d, zhs_s]); rw [zhs_cm (μ := μ) (a := 69) (b := 70) (by decide), zhs_cm (μ := (zhs μ 70 s3)) (a := 69) (b := 71) (by decide), zhs_cm (μ := (zhs (zhs μ 70 s3) 71 s4)) (a := 69) (b := 67) (by decide), zhs_hs, zhs_cm (μ := μ) (a := 70) (b := 71) (by decide), zhs_cm (μ := (zhs μ 71 s4)) (a := 70) (b := 67) (by decide), zhs_cm (μ := (zhs (zhs μ 71 s4) 67 (w_X11_advances_67 s1 (μ 68) n))) (a := 70) (b := 69) (by decide), zhs_cm (μ := (zhs (zhs (zhs μ 71 s4) 67 (w_X11_advances_67 s1 (μ 68) n)) 69 (w_X11_clause_69 (w_X11_advances_67 s1 (μ 68) n) (μ 68) s2 (s1 6) n))) (a := 70) (b := 71) (by decide), zhs_cm (μ := (zhs (zhs (zhs (zhs μ 71 s4) 67 (w_X11_advances_67 s1 (μ 68) n)) 69 (w_X11_clause_69 (w_X11_advances_67 s1 (μ 68) n) (μ 68) s2 (s1 6) n)) 71 (w_X11_clause_71 (w_X11_advances_67 s1 (μ 68) n) (μ 68) s4 (s1 6) n))) (a := 70) (b := 67) (by decide), zhs_hs, zhs_cm (μ := μ) (a := 71) (b := 67) (by decide), zhs_cm (μ := (zhs μ 67 (w_X11_advances_67 s1 (μ 68) n))) (a := 71) (b := 69) (by decide), zhs_hs, zhs_cm (μ := μ) (a := 67) (b := 69) (by decide), zhs_cm (μ := (zhs μ 69 (w_X11_clause_69 (w_X11_advances_67 s1 (μ 68) n) (μ 68) s2 (s1 6) n))) (a := 67) (b := 71) (by decide), zhs_hs] <;> (first | rfl | (congr 1; funext k_; simp only [upd, zhs_s]; ((repeat' split) <;> first | rfl | omega | (subst_vars; contradiction) | (simp_all; done))))) ?_
          refine pv_aload_n (i := 0) t_X11_meadow_79 rfl rfl ?_
          refine sv_WV0 ((zhs (zhs (zhs (zhs μ 69 (w_X11_clause_69 (w_X11_advances_67 s1 (μ 68) n) (μ 68) s2 (s1 6) n)) 71 (w_X11_clause_71 (w_X11_advances_67 s1 (μ 68) n) (μ 68) s4 (s1 6) n)) 70 (w_X11_clause_70 (w_X11_advances_67 s1 (μ 68) n) (μ 68) s3 (s1 6) n)) 67 (w_X11_ends_67 (w_X11_clause_67 (w_X11_advances_67 s1 (μ 68) n) (μ 68) s2 s4 (s1 6) n) (μ 68) n))) t_X11_meadow_80 ml_X11_131 mo_X11_ends hh_67 rfl (Nat.le_of_ble_eq_true rfl) (e_X11_ends (clause_P (PI.adv hM.1 hn250) hn250) hn250) (Nat.le_of_ble_eq_true rfl) (by (try simp (disch := decide) only [zhs_d, zhs_s]); rw [zhs_cm (μ := (zhs (zhs μ 69 (w_X11_clause_69 (w_X11_advances_67 s1 (μ 68) n) (μ 68) s2 (s1 6) n)) 71 (w_X11_clause_71 (w_X11_advances_67 s1 (μ 68) n) (μ 68) s4 (s1 6) n))) (a := 67) (b := 70) (by decide), zhs_hs] <;> (first | rfl | (congr 1; funext k_; simp only [upd, zhs_s]; ((repeat' split) <;> first | rfl | omega | (subst_vars; contradiction) | (simp_all; done))))) ?_
          refine pv_goto t_X11_meadow_83 ?_
          have hi := mdN_i (L := (μ 68)) (s := (s1, s2, s3, s4)) hM hn250
          refine pv_loc (lv' := [(0, .inr 67)]) ⟨rfl, trivial⟩ ?_
          refine zst (S2 := (zSH, (zhs (zhs (zhs (zhs μ 67 (w_X11_ends_67 (w_X11_clause_67 (w_X11_advances_67 s1 (μ 68) n) (μ 68) s2 s4 (s1 6) n) (μ 68) n)) 69 (w_X11_clause_69 (w_X11_advances_67 s1 (μ 68) n) (μ 68) s2 (s1 6) n)) 70 (w_X11_clause_70 (w_X11_advances_67 s1 (μ 68) n) (μ 68) s3 (s1 6) n)) 71 (w_X11_clause_71 (w_X11_advances_67 s1 (μ 68) n) (μ 68) s4 (s1 6) n)))) (by rw [zhs_cm (μ := (zhs (zhs μ 69 (w_X11_clause_69 (w_X11_advances_67 s1 (μ 68) n) (μ 68) s2 (s1 6) n)) 71 (w_X11_clause_71 (w_X11_advances_67 s1 (μ 68) n) (μ 68) s4 (s1 6) n))) (a := 70) (b := 67) (by decide), zhs_cm (μ := (zhs μ 69 (w_X11_clause_69 (w_X11_advances_67 s1 (μ 68) n) (μ 68) s2 (s1 6) n))) (a := 71) (b := 67) (by decide), zhs_cm (μ := μ) (a := 69) (b := 67) (by decide), zhs_cm (μ := (zhs (zhs μ 67 (w_X11_ends_67 (w_X11_clause_67 (w_X11_advances_67 s1 (μ 68) n) (μ 68) s2 s4 (s1 6) n) (μ 68) n)) 69 (w_X11_clause_69 (w_X11_advances_67 s1 (μ 68) n) (μ 68) s2 (s1 6) n))) (a := 71) (b := 70) (by decide)] <;> rfl) ?_
          rw [mdS, if_neg c38, if_neg c45] at hk
          have e9 : mdN (μ 68) n (s1, s2, s3, s4) = _ := if_pos c54
          rw [e9] at hk hi
          dsimp only at hi
          refine ih _ _ _ _ hi.1 (hi.2.imp id (fun q => ?_)) hk
          have q3 := hi.1.1.2.1
          have q4 : (s1 3).toNatClampNeg < _ := q
          have q5 := hms.resolve_left c38
          omega
        · skip
          refine pv_aload_n (i := 0) t_X11_meadow_57 rfl rfl ?_
          refine pv_iload_n (i := 1) t_X11_meadow_58 rfl rfl ?_
          refine sv_WV1 ((zhs (zhs (zhs (zhs μ 69 s2) 70 s3) 71 s4) 67 (w_X11_fails_67 s1 (a_X11_faultOf s1)))) t_X11_meadow_59 ml_X11_107 mo_X11_fails hh_67 rfl (Nat.le_of_ble_eq_true rfl) (e_X11_fails) (Nat.le_of_ble_eq_true rfl) (by (try simp (disch := decide) only [zhs_d, zhs_s]); rw [zhs_cm (μ := μ) (a := 67) (b := 69) (by decide), zhs_cm (μ := (zhs μ 69 s2)) (a := 67) (b := 70) (by decide), zhs_cm (μ := (zhs (zhs μ 69 s2) 70 s3)) (a := 67) (b := 71) (by decide), zhs_hs] <;> (first | rfl | (congr 1; funext k_; simp only [upd, zhs_s]; ((repeat' split) <;> first | rfl | omega | (subst_vars; contradiction) | (simp_all; done))))) ?_
          refine pv_goto t_X11_meadow_62 ?_
          refine pv_goto t_X11_meadow_83 ?_
          have hi := mdN_i (L := (μ 68)) (s := (s1, s2, s3, s4)) hM hn250
          refine pv_loc (lv' := [(0, .inr 67)]) ⟨rfl, trivial⟩ ?_
          refine zst (S2 := (zSH, (zhs (zhs (zhs (zhs μ 67 (w_X11_fails_67 s1 (a_X11_faultOf s1))) 69 s2) 70 s3) 71 s4))) (by rw [zhs_cm (μ := (zhs (zhs μ 69 s2) 70 s3)) (a := 71) (b := 67) (by decide), zhs_cm (μ := (zhs μ 69 s2)) (a := 70) (b := 67) (by decide), zhs_cm (μ := μ) (a := 69) (b := 67) (by decide)] <;> rfl) ?_
          rw [mdS, if_neg c38, if_neg c45] at hk
          have e9 : mdN (μ 68) n (s1, s2, s3, s4) = _ := if_neg c54
          rw [e9] at hk hi
          dsimp only at hi
          refine ih _ _ _ _ hi.1 (hi.2.imp id (fun q => ?_)) hk
          have q3 := hi.1.1.2.1
          have q4 : (s1 3).toNatClampNeg < _ := q
          have q5 := hms.resolve_left c38
          omega
