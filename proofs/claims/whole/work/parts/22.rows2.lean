def oRS (sh : List zC) (rs f n rw tm fr dn ch : Nat) : Prop := sh[rs]? = some (.inr (.inr (7, [some (some f), some (some n), some (some rw), some (some tm), some (some fr), none, none, none]))) ∧ sh[rw]? = some (.inl (0, 4)) ∧ sh[tm]? = some (.inl (0, 4)) ∧ sh[fr]? = some (.inl (0, 4)) ∧ (rw ≠ tm ∧ rw ≠ fr ∧ tm ≠ fr) ∧ (dn ≠ rw ∧ dn ≠ tm ∧ dn ≠ fr) ∧ (ch ≠ rw ∧ ch ≠ tm ∧ ch ≠ fr)
abbrev rsT : Type := (Nat → Int32) × ((Nat → Int32) × (Int32 × Int32))
def arS (g : Int32) (z : rsT) : rsT := (z.1, (if z.2.2.1 = 0 then cpy 4 z.1 z.2.1 else z.2.1, (z.2.2.1 + 1, z.2.2.2 &&& g)))
def exS (tr pa ne dn va ch : Nat → Int32) (q : Int32) (kc nc : Nat) : Nat → Nat → Int32 → Int32 → (Nat → Int32) → rsT → rsT
  | 0, _, _, go, _, z => arS go z
  | j + 1, p, bl, go, tm, z => if kc ≤ p then arS go z else
    zfold (fun c z => if ((go >>> (nI c &&& 31)) &&& 1 = 0 ∧ ¬ tru ne dn (nI c) q = 0) ∧ bl + effN pa ne dn va (nI c) q (rA tm 4 (part pa (nI c) 0)) = rA ch 4 (nI p) then exS tr pa ne dn va ch q kc nc j (p + 1) (imax 0 (bl + effN pa ne dn va (nI c) q (rA tm 4 (part pa (nI c) 0)) - trait tr q 1)) (go ||| (1 <<< (nI c &&& 31))) (rP tm 4 (part pa (nI c) 0) (rA tm 4 (part pa (nI c) 0) + 1)) (rP z.1 4 (nI p) (nI c), z.2) else z) z nc
def exF (tr pa ne dn va ch : Nat → Int32) (q : Int32) (kc nc j p : Nat) (bl go : Int32) (tm : Nat → Int32) (c : Nat) (z : rsT) : rsT := if ((go >>> (nI c &&& 31)) &&& 1 = 0 ∧ ¬ tru ne dn (nI c) q = 0) ∧ bl + effN pa ne dn va (nI c) q (rA tm 4 (part pa (nI c) 0)) = rA ch 4 (nI p) then exS tr pa ne dn va ch q kc nc j (p + 1) (imax 0 (bl + effN pa ne dn va (nI c) q (rA tm 4 (part pa (nI c) 0)) - trait tr q 1)) (go ||| (1 <<< (nI c &&& 31))) (rP tm 4 (part pa (nI c) 0) (rA tm 4 (part pa (nI c) 0) + 1)) (rP z.1 4 (nI p) (nI c), z.2) else z
theorem exS_e (tr pa ne dn va ch : Nat → Int32) (q : Int32) (kc nc j p : Nat) (bl go : Int32) (tm : Nat → Int32) (z : rsT) : exS tr pa ne dn va ch q kc nc (j + 1) p bl go tm z = if kc ≤ p then arS go z else zfold (exF tr pa ne dn va ch q kc nc j p bl go tm) z nc := rfl
/-- the search's cells when its rows, its count and its set are z -/
def rsH (μ : zH) (rw fr rs : Nat) (z : rsT) : zH := zhs (zhs (zhs μ rw z.1) fr z.2.1) rs (upd (upd (μ rs) 6 z.2.2.1) 7 z.2.2.2)
theorem rP_back (f : Nat → Int32) (n : Nat) (i v : Int32) : rP (rP f n i (rA f n i + v)) n i (rA (rP f n i (rA f n i + v)) n i + -v) = f := by
  by_cases h : 0 ≤ i.toInt ∧ i.toInt < n
  · rw [rP_in h, rA_in h, rP_in h, rA_in h]
    funext k
    simp only [upd]
    by_cases hk : k = i.toNatClampNeg
    · subst hk
      simp
      grind
    · simp [hk]
  · rw [rP_out h, rP_out h]
theorem zhs_c (μ : zH) {a b : Nat} (h : a ≠ b) (f g : Nat → Int32) : zhs (zhs μ a f) b g = zhs (zhs μ b g) a f := by
  funext k
  by_cases h1 : k = b
  · subst h1; rw [zhs_s, zhs_n _ _ (Ne.symm h), zhs_s]
  · by_cases h2 : k = a
    · subst h2; rw [zhs_n _ _ h, zhs_s, zhs_s]
    · rw [zhs_n _ _ h1, zhs_n _ _ h2, zhs_n _ _ h2, zhs_n _ _ h1]
theorem upd67 (f : Nat → Int32) (a b : Int32) : upd (upd f 6 a) 7 b = upd (upd (upd f 6 a) 7 b) 7 b := by
  funext k; simp only [upd]; split <;> rfl
theorem e_X7_addRow {l : Launch} {X : zX} {d : Nat} {Ψ : List zC} {μ : zH} {m tr pa ne fd : Nat} (hm : oM Ψ m tr pa ne fd) {f dn va : Nat} (hf : oF Ψ f m dn va) {n wa ch bo ps : Nat} (hn : oN Ψ n wa ch bo ps) {rs rw tm fr : Nat} (hr : oRS Ψ rs f n rw tm fr dn ch) {g : Int32} : zRn l X mi_X7_addRow (d + 2) [.inr rs, .inl g] (Ψ, μ) none (Ψ, rsH μ rw fr rs (arS g (μ rw, (μ fr, (μ rs 6, μ rs 7))))) := by
  have r1 : rs ≠ rw := zne hr.1 hr.2.1 (by simp)
  have r2 : rs ≠ tm := zne hr.1 hr.2.2.1 (by simp)
  have r3 : rs ≠ fr := zne hr.1 hr.2.2.2.1 (by simp)
  refine pv_aload_n (i := 0) t_X7_addRow_0 rfl rfl ?_
  refine pv_getI t_X7_addRow_1 fl_X7_57 hr.1 rfl ?_
  refine pv_if_ne t_X7_addRow_4 (fun c4 => ?_) (fun c4 => ?_)
  · skip
    have hq : ¬ μ rs 6 = 0 := c4
    refine pv_aload_n (i := 0) t_X7_addRow_18 rfl rfl ?_
    refine pv_dup t_X7_addRow_19 ?_
    refine pv_getI t_X7_addRow_20 fl_X7_57 hr.1 rfl ?_
    refine pv_iconst (v := 1) t_X7_addRow_23 zi_1 ?_
    refine pv_iadd t_X7_addRow_24 ?_
    refine pv_putI t_X7_addRow_25 fl_X7_57 zfn_7_6 hr.1 rfl ?_
    refine pv_aload_n (i := 0) t_X7_addRow_28 rfl rfl ?_
    refine pv_dup t_X7_addRow_29 ?_
    refine pv_getI t_X7_addRow_30 fl_X7_60 hr.1 rfl ?_
    refine pv_iload_n (i := 1) t_X7_addRow_33 rfl rfl ?_
    refine pv_iand t_X7_addRow_34 ?_
    refine pv_putI t_X7_addRow_35 fl_X7_60 zfn_7_7 hr.1 rfl ?_
    exact pv_vret t_X7_addRow_38 rfl (by first | (rw [arS, if_neg hq]; simp only [rsH, zhs_hs, zhs_s, zhs_n _ _ r1, zhs_n _ _ r2, zhs_n _ _ r3, zhs_n _ _ (Ne.symm r1), zhs_n _ _ (Ne.symm r2), zhs_n _ _ (Ne.symm r3), zhs_n _ _ hr.2.2.2.2.1.2.1, zhs_n _ _ (Ne.symm hr.2.2.2.2.1.2.1)]; simp only [zhs_id]; rfl) | (rw [arS, if_pos hq]; simp only [rsH, zhs_hs, zhs_s, zhs_n _ _ r1, zhs_n _ _ r2, zhs_n _ _ r3, zhs_n _ _ (Ne.symm r1), zhs_n _ _ (Ne.symm r2), zhs_n _ _ (Ne.symm r3), zhs_n _ _ hr.2.2.2.2.1.2.1, zhs_n _ _ (Ne.symm hr.2.2.2.2.1.2.1)]; simp only [zhs_id]; rfl))
  · skip
    have hq : μ rs 6 = 0 := c4
    refine pv_aload_n (i := 0) t_X7_addRow_7 rfl rfl ?_
    refine pv_getR t_X7_addRow_8 fl_X7_11 hr.1 rfl ?_
    refine pv_aload_n (i := 0) t_X7_addRow_11 rfl rfl ?_
    refine pv_getR t_X7_addRow_12 fl_X7_20 hr.1 rfl ?_
    refine pv_gS2 t_X7_addRow_15 ml_X7_113 mo_X8_copy (Nat.le_of_ble_eq_true rfl) (e_X8_copy hr.2.1 hr.2.2.2.1 (by decide)) (Nat.le_of_ble_eq_true rfl) ?_
    refine pv_aload_n (i := 0) t_X7_addRow_18 rfl rfl ?_
    refine pv_dup t_X7_addRow_19 ?_
    refine pv_getI t_X7_addRow_20 fl_X7_57 hr.1 rfl ?_
    refine pv_iconst (v := 1) t_X7_addRow_23 zi_1 ?_
    refine pv_iadd t_X7_addRow_24 ?_
    refine pv_putI t_X7_addRow_25 fl_X7_57 zfn_7_6 hr.1 rfl ?_
    refine pv_aload_n (i := 0) t_X7_addRow_28 rfl rfl ?_
    refine pv_dup t_X7_addRow_29 ?_
    refine pv_getI t_X7_addRow_30 fl_X7_60 hr.1 rfl ?_
    refine pv_iload_n (i := 1) t_X7_addRow_33 rfl rfl ?_
    refine pv_iand t_X7_addRow_34 ?_
    refine pv_putI t_X7_addRow_35 fl_X7_60 zfn_7_7 hr.1 rfl ?_
    exact pv_vret t_X7_addRow_38 rfl (by first | (rw [arS, if_neg hq]; simp only [rsH, zhs_hs, zhs_s, zhs_n _ _ r1, zhs_n _ _ r2, zhs_n _ _ r3, zhs_n _ _ (Ne.symm r1), zhs_n _ _ (Ne.symm r2), zhs_n _ _ (Ne.symm r3), zhs_n _ _ hr.2.2.2.2.1.2.1, zhs_n _ _ (Ne.symm hr.2.2.2.2.1.2.1)]; simp only [zhs_id]; rfl) | (rw [arS, if_pos hq]; simp only [rsH, zhs_hs, zhs_s, zhs_n _ _ r1, zhs_n _ _ r2, zhs_n _ _ r3, zhs_n _ _ (Ne.symm r1), zhs_n _ _ (Ne.symm r2), zhs_n _ _ (Ne.symm r3), zhs_n _ _ hr.2.2.2.2.1.2.1, zhs_n _ _ (Ne.symm hr.2.2.2.2.1.2.1)]; simp only [zhs_id]; rfl))

theorem e_X7_first {l : Launch} {X : zX} {d : Nat} {Ψ : List zC} {μ : zH} {m tr pa ne fd : Nat} (hm : oM Ψ m tr pa ne fd) {f dn va : Nat} (hf : oF Ψ f m dn va) {n wa ch bo ps : Nat} (hn : oN Ψ n wa ch bo ps) {rs rw tm fr : Nat} (hr : oRS Ψ rs f n rw tm fr dn ch) {i : Int32} : zRn l X mi_X7_first (d + 1) [.inr rs, .inl i] (Ψ, μ) (some (.inl (if 0 < μ rs 6 ∧ 0 ≤ i ∧ i < μ n 5 then rA (μ fr) 4 i else -1))) (Ψ, μ) := by
  refine pv_aload_n (i := 0) t_X7_first_0 rfl rfl ?_
  refine pv_getI t_X7_first_1 fl_X7_57 hr.1 rfl ?_
  refine pv_if_le t_X7_first_4 (fun c4 => ?_) (fun c4 => ?_)
  · skip
    refine pv_iconst (v := -1) t_X7_first_33 zi_m1 ?_
    exact pv_ireti t_X7_first_34 rfl (by first | (rw [if_pos (by refine ⟨Int32.not_le.mp c4, Int32.not_lt.mp c8, Int32.not_le.mp c19⟩)]) | (rw [if_neg (fun z => Int32.not_le.mpr z.1 c4)]) | (rw [if_neg (fun z => Int32.not_lt.mpr z.2.1 c8)]) | (rw [if_neg (fun z => Int32.not_le.mpr z.2.2 c19)])) rfl
  · skip
    refine pv_iload_n (i := 1) t_X7_first_7 rfl rfl ?_
    refine pv_if_lt t_X7_first_8 (fun c8 => ?_) (fun c8 => ?_)
    · skip
      refine pv_iconst (v := -1) t_X7_first_33 zi_m1 ?_
      exact pv_ireti t_X7_first_34 rfl (by first | (rw [if_pos (by refine ⟨Int32.not_le.mp c4, Int32.not_lt.mp c8, Int32.not_le.mp c19⟩)]) | (rw [if_neg (fun z => Int32.not_le.mpr z.1 c4)]) | (rw [if_neg (fun z => Int32.not_lt.mpr z.2.1 c8)]) | (rw [if_neg (fun z => Int32.not_le.mpr z.2.2 c19)])) rfl
    · skip
      refine pv_iload_n (i := 1) t_X7_first_11 rfl rfl ?_
      refine pv_aload_n (i := 0) t_X7_first_12 rfl rfl ?_
      refine pv_getR t_X7_first_13 fl_X7_27 hr.1 rfl ?_
      refine pv_getI t_X7_first_16 fl_X7_67 hn.1 rfl ?_
      refine pv_icmp_ge t_X7_first_19 (fun c19 => ?_) (fun c19 => ?_)
      · skip
        refine pv_iconst (v := -1) t_X7_first_33 zi_m1 ?_
        exact pv_ireti t_X7_first_34 rfl (by first | (rw [if_pos (by refine ⟨Int32.not_le.mp c4, Int32.not_lt.mp c8, Int32.not_le.mp c19⟩)]) | (rw [if_neg (fun z => Int32.not_le.mpr z.1 c4)]) | (rw [if_neg (fun z => Int32.not_lt.mpr z.2.1 c8)]) | (rw [if_neg (fun z => Int32.not_le.mpr z.2.2 c19)])) rfl
      · skip
        refine pv_aload_n (i := 0) t_X7_first_22 rfl rfl ?_
        refine pv_getR t_X7_first_23 fl_X7_20 hr.1 rfl ?_
        refine pv_iload_n (i := 1) t_X7_first_26 rfl rfl ?_
        refine pv_gS2 t_X7_first_27 ml_X7_70 mo_X8_at (Nat.le_of_ble_eq_true rfl) (e_X8_at (Or.inl hr.2.2.2.1) (by decide)) (Nat.le_of_ble_eq_true rfl) ?_
        refine pv_goto t_X7_first_30 ?_
        exact pv_ireti t_X7_first_34 rfl (by first | (rw [if_pos (by refine ⟨Int32.not_le.mp c4, Int32.not_lt.mp c8, Int32.not_le.mp c19⟩)]) | (rw [if_neg (fun z => Int32.not_le.mpr z.1 c4)]) | (rw [if_neg (fun z => Int32.not_lt.mpr z.2.1 c8)]) | (rw [if_neg (fun z => Int32.not_le.mpr z.2.2 c19)])) rfl

