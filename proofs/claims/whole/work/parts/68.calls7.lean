theorem WH.of {np nc kw kc kb kn : Nat} {μ μ' : zH} (h : WH np nc kw kc kb kn μ) (e1 : μ' 1 = μ 1) (e54 : μ' 54 = μ 54) (e6 : μ' 6 = μ 6) (e0 : μ' 0 = μ 0) (e67 : μ' 67 = upd (μ 67) 0 0) : WH np nc kw kc kb kn μ' := by
  unfold WH
  rw [e1, e54, e6, e0, e67]
  exact h
theorem img (x : Int32) : (a_X10_isImage x = 0 ∧ a_X11_in x 0 1 = 0) ∨ (x = 0 ∧ ¬ a_X10_isImage x = 0 ∧ ¬ a_X11_in x 0 1 = 0) ∨ (x = 1 ∧ ¬ a_X10_isImage x = 0 ∧ ¬ a_X11_in x 0 1 = 0) := by
  have l2 : (2 ≤ x) = ¬ x ≤ 1 := by
    rw [show (x ≤ 1) = (x < 2) from (lt_le (x := x) (n := 1) (by decide)).symm]
    exact propext ⟨fun q r => Int32.not_lt.mpr q r, fun q => Int32.not_lt.mp q⟩
  unfold a_X10_isImage
  simp only [l2]
  rcases rg0 x (b := 1) (n := 1) rfl (by decide) with ⟨r1, r2⟩ | ⟨k, hk, rfl, r1, r2, r3⟩
  · refine Or.inl ⟨?_, r1⟩
    rcases r2 with r2 | ⟨r2, r3⟩
    · rw [if_pos r2]
    · rw [if_neg r2, if_pos r3]
  · refine Or.inr ?_
    rw [if_neg r2, if_neg (fun q => q r3)]
    rcases (by omega : k = 0 ∨ k = 1) with rfl | rfl
    · exact Or.inl ⟨rfl, by decide, r1⟩
    · exact Or.inr ⟨rfl, by decide, r1⟩
theorem cpR_i {f g : Nat → Int32} {lo hi k : Nat} (h1 : lo ≤ k) (h2 : k < hi) : cpR f g lo hi k = g k := if_pos ⟨h1, h2⟩
theorem cpR_o {f g : Nat → Int32} {lo hi k : Nat} (h : ¬ (lo ≤ k ∧ k < hi)) : cpR f g lo hi k = f k := if_neg h
theorem cl_keep {M : Nat} {μ : zH} {x : Int32} (h : WI M μ) : CL M μ mi_X10_keep mi_X11_keep [.inl x] := by
  obtain ⟨np, nc, kw, kc, kb, kn, hH, hT, hL, hS, hMm, hN⟩ := h
  have hp4 : np ≤ 4 := hH.2.2.2.1
  have hc8 : nc ≤ 8 := hH.2.2.2.2.1
  have h67 : w_X11_keep_67 (μ 67) x = upd (μ 67) 0 0 := by unfold w_X11_keep_67; simp only [ite_self]
  refine cl_mk (fun l X => e_X10_keep (d := 22)) (fun l X => e_X11_keep (d := 25)) ?_ ?_
  · unfold a_X11_keep a_X10_keep
    rcases img x with ⟨i, j⟩ | ⟨-, i, j⟩ | ⟨-, i, j⟩
    · rw [if_pos i, if_pos j]
    · rw [if_neg i, if_neg j]
    · rw [if_neg i, if_neg j]
  refine ⟨np, nc, kw, kc, kb, kn, WH.of hH rfl rfl rfl rfl h67, hT, hL, SR.mono hS (Nat.le_succ _), ?_, hN⟩
  show (∀ i, i < 2 → w_X10_keep_53 (μ 53) x i = w_X11_keep_77 (μ 77) x i ∧ (w_X11_keep_77 (μ 77) x i = 0 ∨ w_X11_keep_77 (μ 77) x i = 1)) ∧
    (¬ w_X11_keep_77 (μ 77) x 0 = 0 → SR np nc (M + 1) (w_X10_keep_38 (μ 24) (μ 38) x) (w_X10_keep_39 (μ 25) (μ 39) x) (w_X10_keep_29 (μ 15) (μ 29) x) (w_X10_keep_30 (μ 16) (μ 30) x) (w_X10_keep_31 (μ 17) (μ 31) x) (w_X10_keep_35 (μ 21) (μ 35) x) (w_X10_keep_36 (μ 22) (μ 36) x) (w_X10_keep_27 (μ 13) (μ 27) x 3) (fun k => w_X11_keep_75 (μ 72) (μ 75) x (64 * 0 + k)) (fun k => w_X11_keep_76 (μ 74) (μ 76) x (4096 * 0 + k))) ∧
    (¬ w_X11_keep_77 (μ 77) x 1 = 0 → SR np nc (M + 1) (w_X10_keep_51 (μ 24) (μ 51) x) (w_X10_keep_52 (μ 25) (μ 52) x) (w_X10_keep_42 (μ 15) (μ 42) x) (w_X10_keep_43 (μ 16) (μ 43) x) (w_X10_keep_44 (μ 17) (μ 44) x) (w_X10_keep_48 (μ 21) (μ 48) x) (w_X10_keep_49 (μ 22) (μ 49) x) (w_X10_keep_40 (μ 13) (μ 40) x 3) (fun k => w_X11_keep_75 (μ 72) (μ 75) x (64 * 1 + k)) (fun k => w_X11_keep_76 (μ 74) (μ 76) x (4096 * 1 + k)))
  unfold w_X10_keep_53 w_X11_keep_77 w_X10_keep_38 w_X10_keep_39 w_X10_keep_29 w_X10_keep_30 w_X10_keep_31 w_X10_keep_35 w_X10_keep_36 w_X10_keep_27 w_X10_keep_51 w_X10_keep_52 w_X10_keep_42 w_X10_keep_43 w_X10_keep_44 w_X10_keep_48 w_X10_keep_49 w_X10_keep_40 w_X11_keep_75 w_X11_keep_76
  have hMM := WM.mono hMm (Nat.le_succ M)
  have hS1 := SR.mono hS (Nat.le_succ M)
  rcases img x with ⟨i, j⟩ | ⟨rfl, i, j⟩ | ⟨rfl, i, j⟩
  · simp only [if_pos i, if_pos j]
    exact hMM
  · have k0 : (0 : Int32).toNatClampNeg = 0 := rfl
    simp only [if_neg i, if_neg j, if_true, k0]
    refine ⟨fun n hn => ?_, fun _ => ?_, fun q => ?_⟩
    · rcases (by omega : n = 0 ∨ n = 1) with rfl | rfl
      · rw [ups, ups]; exact ⟨rfl, Or.inr rfl⟩
      · rw [upn (by decide), upn (by decide)]; exact hMm.1 1 hn
    · rw [ups]
      refine SR.congr hp4 hc8 hS1 (fun n hn => if_pos hn) (fun n hn => if_pos hn) (fun n hn => if_pos hn) (fun n hn => if_pos hn) (fun n hn => if_pos hn) (fun n hn => if_pos hn) (fun n hn => if_pos hn) (fun n hn => ?_) (fun n hn => ?_)
      · rw [cpR_i (by omega) (by omega)]; exact congrArg (μ 72) (by omega)
      · rw [cpR_i (by omega) (by omega)]; exact congrArg (μ 74) (by omega)
    · rw [upn (by decide)] at q
      refine SR.congr hp4 hc8 (hMM.2.2 q) (fun n hn => rfl) (fun n hn => rfl) (fun n hn => rfl) (fun n hn => rfl) (fun n hn => rfl) (fun n hn => rfl) (fun n hn => rfl) (fun n hn => cpR_o (by omega)) (fun n hn => cpR_o (by omega))
  · have k1 : (1 : Int32).toNatClampNeg = 1 := rfl
    simp only [if_neg i, if_neg j, if_neg (show ¬ (1 : Int32) = 0 by decide), k1]
    refine ⟨fun n hn => ?_, fun q => ?_, fun _ => ?_⟩
    · rcases (by omega : n = 0 ∨ n = 1) with rfl | rfl
      · rw [upn (by decide), upn (by decide)]; exact hMm.1 0 hn
      · rw [ups, ups]; exact ⟨rfl, Or.inr rfl⟩
    · rw [upn (by decide)] at q
      refine SR.congr hp4 hc8 (hMM.2.1 q) (fun n hn => rfl) (fun n hn => rfl) (fun n hn => rfl) (fun n hn => rfl) (fun n hn => rfl) (fun n hn => rfl) (fun n hn => rfl) (fun n hn => cpR_o (by omega)) (fun n hn => cpR_o (by omega))
    · rw [ups]
      refine SR.congr hp4 hc8 hS1 (fun n hn => if_pos hn) (fun n hn => if_pos hn) (fun n hn => if_pos hn) (fun n hn => if_pos hn) (fun n hn => if_pos hn) (fun n hn => if_pos hn) (fun n hn => if_pos hn) (fun n hn => ?_) (fun n hn => ?_)
      · rw [cpR_i (by omega) (by omega)]; exact congrArg (μ 72) (by omega)
      · rw [cpR_i (by omega) (by omega)]; exact congrArg (μ 74) (by omega)
theorem cl_goBack {M : Nat} {μ : zH} {x : Int32} (h : WI M μ) : CL M μ mi_X10_goBack mi_X11_goBack [.inl x] := by
  obtain ⟨np, nc, kw, kc, kb, kn, hH, hT, hL, hS, hMm, hN⟩ := h
  have hp4 : np ≤ 4 := hH.2.2.2.1
  have hc8 : nc ≤ 8 := hH.2.2.2.2.1
  have h67 : w_X11_goBack_67 (μ 67) (μ 77) x = upd (μ 67) 0 0 := by unfold w_X11_goBack_67; simp only [ite_self]
  have k0 : (0 : Int32).toNatClampNeg = 0 := rfl
  have k1 : (1 : Int32).toNatClampNeg = 1 := rfl
  have n10 : ¬ (1 : Int32) = 0 := by decide
  have m0 := (hMm.1 0 (by decide)).1
  have m1 := (hMm.1 1 (by decide)).1
  refine cl_mk (fun l X => e_X10_goBack (d := 22)) (fun l X => e_X11_goBack (d := 25)) ?_ ?_
  · show a_X11_goBack (μ 77) x = a_X10_goBack (μ 53) x
    unfold a_X11_goBack a_X10_goBack
    rcases img x with ⟨i, j⟩ | ⟨rfl, i, j⟩ | ⟨rfl, i, j⟩
    · rw [if_pos i, if_pos j]
    · rw [if_neg i, if_neg j, k0, m0, if_pos rfl]
    · rw [if_neg i, if_neg j, k1, m1, if_neg n10]
  refine ⟨np, nc, kw, kc, kb, kn, WH.of hH rfl rfl rfl rfl h67, hT, hL, ?_, WM.mono hMm (Nat.le_succ _), hN⟩
  show SR np nc (M + 1) (w_X10_goBack_24 (μ 24) (μ 38) (μ 51) (μ 53) x) (w_X10_goBack_25 (μ 25) (μ 39) (μ 52) (μ 53) x) (w_X10_goBack_15 (μ 15) (μ 29) (μ 42) (μ 53) x) (w_X10_goBack_16 (μ 16) (μ 30) (μ 43) (μ 53) x) (w_X10_goBack_17 (μ 17) (μ 31) (μ 44) (μ 53) x) (w_X10_goBack_21 (μ 21) (μ 35) (μ 48) (μ 53) x) (w_X10_goBack_22 (μ 22) (μ 36) (μ 49) (μ 53) x) (w_X10_goBack_13 (μ 13) (μ 27) (μ 40) (μ 53) x 3) (w_X11_goBack_72 (μ 72) (μ 75) (μ 77) x) (w_X11_goBack_74 (μ 74) (μ 76) (μ 77) x)
  unfold w_X10_goBack_24 w_X10_goBack_25 w_X10_goBack_15 w_X10_goBack_16 w_X10_goBack_17 w_X10_goBack_21 w_X10_goBack_22 w_X10_goBack_13 w_X11_goBack_72 w_X11_goBack_74
  have hMM := WM.mono hMm (Nat.le_succ M)
  have hS1 := SR.mono hS (Nat.le_succ M)
  rcases img x with ⟨i, j⟩ | ⟨rfl, i, j⟩ | ⟨rfl, i, j⟩
  · simp only [if_pos i, if_pos j]
    exact hS1
  · simp only [if_neg i, if_neg j, if_true, k0, m0]
    by_cases q : μ 77 0 = 0
    · simp only [if_pos q]; exact hS1
    · simp only [if_neg q, ups]
      exact SR.congr hp4 hc8 (hMM.2.1 q) (fun n hn => if_pos hn) (fun n hn => if_pos hn) (fun n hn => if_pos hn) (fun n hn => if_pos hn) (fun n hn => if_pos hn) (fun n hn => if_pos hn) (fun n hn => if_pos hn) (fun n hn => cpR_i (by omega) (by omega)) (fun n hn => cpR_i (by omega) (by omega))
  · simp only [if_neg i, if_neg j, if_neg n10, k1, m1]
    by_cases q : μ 77 1 = 0
    · simp only [if_pos q]; exact hS1
    · simp only [if_neg q, ups]
      exact SR.congr hp4 hc8 (hMM.2.2 q) (fun n hn => if_pos hn) (fun n hn => if_pos hn) (fun n hn => if_pos hn) (fun n hn => if_pos hn) (fun n hn => if_pos hn) (fun n hn => if_pos hn) (fun n hn => if_pos hn) (fun n hn => cpR_i (by omega) (by omega)) (fun n hn => cpR_i (by omega) (by omega))
