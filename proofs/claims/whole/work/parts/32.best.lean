def oBS (sh : List zC) (s t f m : Nat) : Prop := sh[s]? = some (.inr (.inr (0, [some (some t), some (some f), some (some m), none])))
abbrev bsZ : Type := (Nat → Int32) × (Nat → Int32) × Int32
def bsM (μ : zH) (a b s : Nat) (z : bsZ) : zH := zhs (zhs (zhs μ b z.2.1) a z.1) s (upd (μ s) 3 z.2.2)
def bsE (ce : Nat → Int32) : Int32 := if cell ce 2 = 3 ∨ cell ce 2 = 0 then 1 else if cell ce 2 - 1 = dSd ce then 2 else 0
def bsT (tr pa ne dn va : Nat → Int32) (nc : Nat) (F : Int32 → bsZ → Int32 × bsZ) (p i : Nat) (s : Int32 × bsZ) : Int32 × bsZ :=
  if i = 8 ∨ (zib (nI i) (nI nc) = true ∧ dUn s.2.1 (nI i) = true) then
    let R := F (2 - s.1) (dPl tr pa ne dn va s.2.1 (nI i), dRem s.2.1 s.2.2.1, s.2.2.2)
    if s.1 < 2 - R.1 then (2 - R.1, (dTB R.2.1 R.2.2.1 1, R.2.2.1, if p = 0 then nI i else R.2.2.2)) else (s.1, (dTB R.2.1 R.2.2.1 1, R.2.2.1, R.2.2.2))
  else s
def bsL (T : Nat → Int32 × bsZ → Int32 × bsZ) (en : Int32) : Nat → Nat → Int32 × bsZ → Int32 × bsZ
  | 0, _, s => s
  | k + 1, i, s => if s.1 < en ∧ s.1 < 2 then bsL T en k (i + 1) (T i s) else s
/-- what valueOf answers and leaves, j more depths being left, at the depth p -/
def bsO (tr pa ne dn va : Nat → Int32) (nc : Nat) : Nat → Nat → Int32 → bsZ → Int32 × bsZ
  | 0, _, _, z => (bsE z.1, z)
  | j + 1, p, en, z => if dGo z.1 = true then bsL (bsT tr pa ne dn va nc (bsO tr pa ne dn va nc j (p + 1)) p) en 9 0 (-1, z) else (bsE z.1, z)
theorem bsT_1 {tr pa ne dn va : Nat → Int32} {nc : Nat} {F : Int32 → bsZ → Int32 × bsZ} {p i : Nat} {v : Int32} {z : bsZ} (h : ¬ (i = 8 ∨ (zib (nI i) (nI nc) = true ∧ dUn z.1 (nI i) = true))) : bsT tr pa ne dn va nc F p i (v, z) = (v, z) := if_neg h
theorem bsT_2 {tr pa ne dn va : Nat → Int32} {nc : Nat} {F : Int32 → bsZ → Int32 × bsZ} {p i : Nat} {v : Int32} {z : bsZ} {R : Int32 × bsZ} (h : i = 8 ∨ (zib (nI i) (nI nc) = true ∧ dUn z.1 (nI i) = true)) (hR : F (2 - v) (dPl tr pa ne dn va z.1 (nI i), dRem z.1 z.2.1, z.2.2) = R) : bsT tr pa ne dn va nc F p i (v, z) = if v < 2 - R.1 then (2 - R.1, (dTB R.2.1 R.2.2.1 1, R.2.2.1, if p = 0 then nI i else R.2.2.2)) else (v, (dTB R.2.1 R.2.2.1 1, R.2.2.1, R.2.2.2)) := by
  subst hR
  exact if_pos h
theorem e_X0_valueOfEnd {l : Launch} {X : zX} {d : Nat} {Ψ : List zC} {μ : zH} {t a b : Nat} (hd : oD Ψ t a b) : zRn l X mi_X0_valueOfEnd (d + 3) [.inr t] (Ψ, μ) (some (.inl (bsE (μ a)))) (Ψ, μ) := by
  refine pv_aload_n (i := 0) t_X0_valueOfEnd_0 rfl rfl ?_
  refine pv_iconst (v := 2) t_X0_valueOfEnd_1 zi_2 ?_
  refine pv_gV1 t_X0_valueOfEnd_2 ml_X0_61 mo_X1_cell hd.1 rfl (Nat.le_of_ble_eq_true rfl) (e_X1_cell hd) (Nat.le_of_ble_eq_true rfl) ?_
  refine pv_istore_n (i := 1) t_X0_valueOfEnd_5 rfl (Nat.le_of_ble_eq_true rfl) ?_
  refine pv_iload_n (i := 1) t_X0_valueOfEnd_6 rfl rfl ?_
  refine pv_iconst (v := 3) t_X0_valueOfEnd_7 zi_3 ?_
  refine pv_icmp_eq t_X0_valueOfEnd_8 (fun c8 => ?_) (fun c8 => ?_)
  · skip
    refine pv_iconst (v := 1) t_X0_valueOfEnd_15 zi_1 ?_
    exact pv_ireti t_X0_valueOfEnd_16 rfl (by first | (rw [bsE, if_pos (Or.inl c8)]; done) | (rw [bsE, if_pos (Or.inr c12)]; done) | (rw [bsE, if_neg (fun z => z.elim c8 c12), if_pos c24]; done) | (rw [bsE, if_neg (fun z => z.elim c8 c12), if_neg c24]; done)) rfl
  · skip
    refine pv_iload_n (i := 1) t_X0_valueOfEnd_11 rfl rfl ?_
    refine pv_if_ne t_X0_valueOfEnd_12 (fun c12 => ?_) (fun c12 => ?_)
    · skip
      refine pv_iload_n (i := 1) t_X0_valueOfEnd_17 rfl rfl ?_
      refine pv_iconst (v := 1) t_X0_valueOfEnd_18 zi_1 ?_
      refine pv_isub t_X0_valueOfEnd_19 ?_
      refine pv_aload_n (i := 0) t_X0_valueOfEnd_20 rfl rfl ?_
      refine pv_gV0 t_X0_valueOfEnd_21 ml_X0_65 mo_X1_side hd.1 rfl (Nat.le_of_ble_eq_true rfl) (e_X1_side hd) (Nat.le_of_ble_eq_true rfl) ?_
      refine pv_icmp_ne t_X0_valueOfEnd_24 (fun c24 => ?_) (fun c24 => ?_)
      · skip
        refine pv_iconst (v := 0) t_X0_valueOfEnd_31 zi_0 ?_
        exact pv_ireti t_X0_valueOfEnd_32 rfl (by first | (rw [bsE, if_pos (Or.inl c8)]; done) | (rw [bsE, if_pos (Or.inr c12)]; done) | (rw [bsE, if_neg (fun z => z.elim c8 c12), if_pos c24]; done) | (rw [bsE, if_neg (fun z => z.elim c8 c12), if_neg c24]; done)) rfl
      · skip
        refine pv_iconst (v := 2) t_X0_valueOfEnd_27 zi_2 ?_
        refine pv_goto t_X0_valueOfEnd_28 ?_
        exact pv_ireti t_X0_valueOfEnd_32 rfl (by first | (rw [bsE, if_pos (Or.inl c8)]; done) | (rw [bsE, if_pos (Or.inr c12)]; done) | (rw [bsE, if_neg (fun z => z.elim c8 c12), if_pos c24]; done) | (rw [bsE, if_neg (fun z => z.elim c8 c12), if_neg c24]; done)) rfl
    · skip
      refine pv_iconst (v := 1) t_X0_valueOfEnd_15 zi_1 ?_
      exact pv_ireti t_X0_valueOfEnd_16 rfl (by first | (rw [bsE, if_pos (Or.inl c8)]; done) | (rw [bsE, if_pos (Or.inr c12)]; done) | (rw [bsE, if_neg (fun z => z.elim c8 c12), if_pos c24]; done) | (rw [bsE, if_neg (fun z => z.elim c8 c12), if_neg c24]; done)) rfl

theorem lp_X0_valueOf {l : Launch} {X : zX} {Ψ : List zC} {μ : zH} {m tr pa ne fd : Nat} (hm : oM Ψ m tr pa ne fd) {f dn va : Nat} (hf : oF Ψ f m dn va) {t a b : Nat} (hd : oD Ψ t a b) {s : Nat} (hs : oBS Ψ s t f m) {nc : Nat} (hnc : μ m 1 = nI nc) {dd j p : Nat} (hp17 : p < 17) {en : Int32} (hrec : ∀ ν : zH, ν m 1 = nI nc → ∀ en : Int32, zRn l X mi_X0_valueOf (dd + 5) [.inr s, .inl en, .inl (nI (p + 1))] (Ψ, ν) (some (.inl (bsO (ν tr) (ν pa) (ν ne) (ν dn) (ν va) nc j (p + 1) en (ν a, ν b, ν s 3)).1)) (Ψ, bsM ν a b s (bsO (ν tr) (ν pa) (ν ne) (ν dn) (ν va) nc j (p + 1) en (ν a, ν b, ν s 3)).2)) : ∀ k i : Nat, i + k = 9 → ∀ (x v : Int32) (z : bsZ), x = nI i → zEv l X mi_X0_valueOf (dd + 5 + 1) 29 [(0, .inr s), (1, .inl en), (2, .inl (nI p)), (3, .inr t), (4, .inl v), (5, .inl x)] [] (Ψ, bsM μ a b s z) 0 0 (some (.inl (bsL (bsT (μ tr) (μ pa) (μ ne) (μ dn) (μ va) nc (bsO (μ tr) (μ pa) (μ ne) (μ dn) (μ va) nc j (p + 1)) p) en k i (v, z)).1)) (Ψ, bsM μ a b s (bsL (bsT (μ tr) (μ pa) (μ ne) (μ dn) (μ va) nc (bsO (μ tr) (μ pa) (μ ne) (μ dn) (μ va) nc j (p + 1)) p) en k i (v, z)).2) := by
  have n_tr_a : tr ≠ a := zne hm.2.1 hd.2.1 (by simp)
  have n_tr_b : tr ≠ b := zne hm.2.1 hd.2.2 (by simp)
  have n_tr_s : tr ≠ s := zne hm.2.1 hs (by simp)
  have n_pa_a : pa ≠ a := zne hm.2.2.1 hd.2.1 (by simp)
  have n_pa_b : pa ≠ b := zne hm.2.2.1 hd.2.2 (by simp)
  have n_pa_s : pa ≠ s := zne hm.2.2.1 hs (by simp)
  have n_ne_a : ne ≠ a := zne hm.2.2.2.1 hd.2.1 (by simp)
  have n_ne_b : ne ≠ b := zne hm.2.2.2.1 hd.2.2 (by simp)
  have n_ne_s : ne ≠ s := zne hm.2.2.2.1 hs (by simp)
  have n_dn_a : dn ≠ a := zne hf.2.1 hd.2.1 (by simp)
  have n_dn_b : dn ≠ b := zne hf.2.1 hd.2.2 (by simp)
  have n_dn_s : dn ≠ s := zne hf.2.1 hs (by simp)
  have n_va_a : va ≠ a := zne hf.2.2 hd.2.1 (by simp)
  have n_va_b : va ≠ b := zne hf.2.2 hd.2.2 (by simp)
  have n_va_s : va ≠ s := zne hf.2.2 hs (by simp)
  have n_m_a : m ≠ a := zne hm.1 hd.2.1 (by simp)
  have n_m_b : m ≠ b := zne hm.1 hd.2.2 (by simp)
  have n_m_s : m ≠ s := zne hm.1 hs (by simp)
  have n_a_b : a ≠ b := zne hd.2.1 hd.2.2 (by simp)
  have n_a_s : a ≠ s := zne hd.2.1 hs (by simp)
  have n_b_s : b ≠ s := zne hd.2.2 hs (by simp)
  have n_b_a : b ≠ a := zne hd.2.2 hd.2.1 (by simp)
  have n_s_a : s ≠ a := zne hs hd.2.1 (by simp)
  have n_s_b : s ≠ b := zne hs hd.2.2 (by simp)
  have e_tr : ∀ (ν : zH) (z : bsZ), bsM ν a b s z tr = ν tr := by intro ν z; rw [bsM, zhs_n _ _ n_tr_s, zhs_n _ _ n_tr_a, zhs_n _ _ n_tr_b]
  have e_pa : ∀ (ν : zH) (z : bsZ), bsM ν a b s z pa = ν pa := by intro ν z; rw [bsM, zhs_n _ _ n_pa_s, zhs_n _ _ n_pa_a, zhs_n _ _ n_pa_b]
  have e_ne : ∀ (ν : zH) (z : bsZ), bsM ν a b s z ne = ν ne := by intro ν z; rw [bsM, zhs_n _ _ n_ne_s, zhs_n _ _ n_ne_a, zhs_n _ _ n_ne_b]
  have e_dn : ∀ (ν : zH) (z : bsZ), bsM ν a b s z dn = ν dn := by intro ν z; rw [bsM, zhs_n _ _ n_dn_s, zhs_n _ _ n_dn_a, zhs_n _ _ n_dn_b]
  have e_va : ∀ (ν : zH) (z : bsZ), bsM ν a b s z va = ν va := by intro ν z; rw [bsM, zhs_n _ _ n_va_s, zhs_n _ _ n_va_a, zhs_n _ _ n_va_b]
  have e_m : ∀ (ν : zH) (z : bsZ), bsM ν a b s z m = ν m := by intro ν z; rw [bsM, zhs_n _ _ n_m_s, zhs_n _ _ n_m_a, zhs_n _ _ n_m_b]
  have e_a : ∀ (ν : zH) (z : bsZ), bsM ν a b s z a = z.1 := by intro ν z; rw [bsM, zhs_n _ _ n_a_s, zhs_s]
  have e_b : ∀ (ν : zH) (z : bsZ), bsM ν a b s z b = z.2.1 := by intro ν z; rw [bsM, zhs_n _ _ n_b_s, zhs_n _ _ n_b_a, zhs_s]
  have e_s : ∀ (ν : zH) (z : bsZ), bsM ν a b s z s = upd (ν s) 3 z.2.2 := by intro ν z; rw [bsM, zhs_s]
  have e_s3 : ∀ (g : Nat → Int32) (v : Int32), upd g 3 v 3 = v := fun _ _ => rfl
  have e_pl : ∀ (ν : zH) (z : bsZ) (f g : Nat → Int32), zhs (zhs (bsM ν a b s z) b f) a g = bsM ν a b s (g, f, z.2.2) := by intro ν z f g; rw [bsM, bsM, zhs_cm n_s_b, zhs_cm n_a_b, zhs_hs, zhs_cm n_s_a, zhs_hs]
  have e_tb : ∀ (ν : zH) (z : bsZ) (g : Nat → Int32), zhs (bsM ν a b s z) a g = bsM ν a b s (g, z.2.1, z.2.2) := by intro ν z g; rw [bsM, bsM, zhs_cm n_s_a, zhs_hs]
  have e_ft : ∀ (ν : zH) (z : bsZ) (v : Int32), zhs (bsM ν a b s z) s (upd (upd (ν s) 3 z.2.2) 3 v) = bsM ν a b s (z.1, z.2.1, v) := by intro ν z v; rw [bsM, bsM, zhs_hs, upd_upd]
  have e_bb : ∀ (ν : zH) (z w : bsZ), bsM (bsM ν a b s z) a b s w = bsM ν a b s w := by intro ν z w; rw [bsM, e_s, upd_upd, e_pl, bsM, bsM, zhs_hs]
  intro k
  induction k with
  | zero =>
    intro i hi x v z hx
    subst hx
    obtain rfl : i = 9 := by omega
    refine pv_iload t_X0_valueOf_29 rfl ?_
    refine pv_bipush (v := 8) t_X0_valueOf_31 zb_8 ?_
    refine pv_icmp_gt t_X0_valueOf_33 (fun c33 => ?_) (fun c33 => absurd (by decide) c33)
    refine pv_iload t_X0_valueOf_140 rfl ?_
    exact pv_ireti t_X0_valueOf_142 rfl rfl rfl
  | succ k ih =>
    intro i hi x v z hx
    subst hx
    refine pv_iload t_X0_valueOf_29 rfl ?_
    refine pv_bipush (v := 8) t_X0_valueOf_31 zb_8 ?_
    refine pv_icmp_gt t_X0_valueOf_33 (fun c33 => absurd c33 (fun q => (nI_nlt (show i ≤ 8 by omega) (by decide)) q)) (fun c33 => ?_)
    refine pv_iload t_X0_valueOf_36 rfl ?_
    refine pv_iload_n (i := 1) t_X0_valueOf_38 rfl rfl ?_
    refine pv_icmp_ge t_X0_valueOf_39 (fun c39 => ?_) (fun c39 => ?_)
    · skip
      have hw : ¬ (v < en ∧ v < 2) := fun q => Int32.not_lt.mpr c39 q.1
      rw [bsL, if_neg hw]
      refine pv_iload t_X0_valueOf_140 rfl ?_
      exact pv_ireti t_X0_valueOf_142 rfl rfl rfl
    · skip
      refine pv_iload t_X0_valueOf_42 rfl ?_
      refine pv_iconst (v := 2) t_X0_valueOf_44 zi_2 ?_
      refine pv_icmp_ge t_X0_valueOf_45 (fun c45 => ?_) (fun c45 => ?_)
      · skip
        have hw : ¬ (v < en ∧ v < 2) := fun q => Int32.not_lt.mpr c45 q.2
        rw [bsL, if_neg hw]
        refine pv_iload t_X0_valueOf_140 rfl ?_
        exact pv_ireti t_X0_valueOf_142 rfl rfl rfl
      · skip
        have hw : v < en ∧ v < 2 := ⟨Int32.not_le.mp c39, Int32.not_le.mp c45⟩
        refine pv_iload t_X0_valueOf_48 rfl ?_
        refine pv_bipush (v := 8) t_X0_valueOf_50 zb_8 ?_
        refine pv_icmp_eq t_X0_valueOf_52 (fun c52 => ?_) (fun c52 => ?_)
        · skip
          have h8 : i = 8 := (nI_eq (b := 8) (by omega) (by decide)).mp c52
          have hq : (i = 8 ∨ (zib (nI i) (nI nc) = true ∧ dUn z.1 (nI i) = true)) := Or.inl h8
          refine pv_aload_n (i := 3) t_X0_valueOf_76 rfl rfl ?_
          refine pv_iload t_X0_valueOf_77 rfl ?_
          refine pv_aload_n (i := 0) t_X0_valueOf_79 rfl rfl ?_
          refine pv_getR t_X0_valueOf_80 fl_X0_15 hs rfl ?_
          refine pv_gV2 t_X0_valueOf_83 ml_X0_53 mo_X1_play hd.1 rfl (Nat.le_of_ble_eq_true rfl) (e_X1_play hm hf hd) (Nat.le_of_ble_eq_true rfl) ?_
          rw [e_a, e_b, e_tr, e_pa, e_ne, e_dn, e_va, e_pl]
          refine pv_iconst (v := 2) t_X0_valueOf_86 zi_2 ?_
          refine pv_aload_n (i := 0) t_X0_valueOf_87 rfl rfl ?_
          refine pv_iconst (v := 2) t_X0_valueOf_88 zi_2 ?_
          refine pv_iload t_X0_valueOf_89 rfl ?_
          refine pv_isub t_X0_valueOf_91 ?_
          refine pv_iload_n (i := 2) t_X0_valueOf_92 rfl rfl ?_
          refine pv_iconst (v := 1) t_X0_valueOf_93 zi_1 ?_
          refine pv_iadd t_X0_valueOf_94 ?_
          rw [nI_1]
          refine pv_gS3 t_X0_valueOf_95 ml_X0_30 mo_X0_valueOf (Nat.le_of_ble_eq_true rfl) (hrec (bsM μ a b s (dPl (μ tr) (μ pa) (μ ne) (μ dn) (μ va) z.1 (nI i), dRem z.1 z.2.1, z.2.2)) (by rw [e_m]; exact hnc) (2 - v)) (Nat.le_of_ble_eq_true rfl) ?_
          rw [e_tr, e_pa, e_ne, e_dn, e_va, e_a, e_b, e_s, e_s3, e_bb]
          generalize hR : (bsO (μ tr) (μ pa) (μ ne) (μ dn) (μ va) nc j (p + 1) (2 - v) (dPl (μ tr) (μ pa) (μ ne) (μ dn) (μ va) z.1 (nI i), dRem z.1 z.2.1, z.2.2)) = R
          refine pv_isub t_X0_valueOf_98 ?_
          refine pv_istore t_X0_valueOf_99 (Nat.le_of_ble_eq_true rfl) ?_
          refine pv_aload_n (i := 3) t_X0_valueOf_101 rfl rfl ?_
          refine pv_iconst (v := 1) t_X0_valueOf_102 zi_1 ?_
          refine pv_gV1 t_X0_valueOf_103 ml_X0_57 mo_X1_takeBack hd.1 rfl (Nat.le_of_ble_eq_true rfl) (e_X1_takeBack hd) (Nat.le_of_ble_eq_true rfl) ?_
          rw [e_a, e_b, e_tb]
          refine pv_iload t_X0_valueOf_106 rfl ?_
          refine pv_iload t_X0_valueOf_108 rfl ?_
          refine pv_icmp_le t_X0_valueOf_110 (fun c110 => ?_) (fun c110 => ?_)
          · skip
            have hv : ¬ v < 2 - R.1 := Int32.not_lt.mpr c110
            skip
            refine pv_iinc (v := 1) t_X0_valueOf_134 rfl zi_1 ?_
            refine pv_goto t_X0_valueOf_137 ?_
            refine pv_loc (lv' := [(0, _), (1, _), (2, _), (3, _), (4, _), (5, _)]) ⟨rfl, rfl, rfl, rfl, rfl, rfl, trivial⟩ ?_
            rw [bsL, if_pos hw, bsT_2 hq hR, if_neg hv]
            exact ih (i + 1) (by omega) _ _ _ (nI_1 i)
          · skip
            have hv : v < 2 - R.1 := Int32.not_le.mp c110
            refine pv_iload t_X0_valueOf_113 rfl ?_
            refine pv_istore t_X0_valueOf_115 (Nat.le_of_ble_eq_true rfl) ?_
            refine pv_aload_n (i := 0) t_X0_valueOf_117 rfl rfl ?_
            refine pv_iload_n (i := 2) t_X0_valueOf_118 rfl rfl ?_
            refine pv_if_ne t_X0_valueOf_119 (fun c119 => ?_) (fun c119 => ?_)
            · skip
              have hp0 : ¬ p = 0 := fun q => c119 (by rw [q]; rfl)
              refine pv_aload_n (i := 0) t_X0_valueOf_127 rfl rfl ?_
              refine pv_getI t_X0_valueOf_128 fl_X0_26 hs rfl ?_
              refine pv_putI t_X0_valueOf_131 fl_X0_26 zfn_0_3 hs rfl ?_
              rw [e_s, e_s3, e_ft]
              refine pv_iinc (v := 1) t_X0_valueOf_134 rfl zi_1 ?_
              refine pv_goto t_X0_valueOf_137 ?_
              refine pv_loc (lv' := [(0, _), (1, _), (2, _), (3, _), (4, _), (5, _)]) ⟨rfl, rfl, rfl, rfl, rfl, rfl, trivial⟩ ?_
              rw [bsL, if_pos hw, bsT_2 hq hR, if_pos hv, if_neg hp0]
              exact ih (i + 1) (by omega) _ _ _ (nI_1 i)
            · skip
              have hp0 : p = 0 := (nI_eq (b := 0) (by omega) (by decide)).mp c119
              refine pv_iload t_X0_valueOf_122 rfl ?_
              refine pv_goto t_X0_valueOf_124 ?_
              refine pv_putI t_X0_valueOf_131 fl_X0_26 zfn_0_3 hs rfl ?_
              rw [e_s, e_ft]
              refine pv_iinc (v := 1) t_X0_valueOf_134 rfl zi_1 ?_
              refine pv_goto t_X0_valueOf_137 ?_
              refine pv_loc (lv' := [(0, _), (1, _), (2, _), (3, _), (4, _), (5, _)]) ⟨rfl, rfl, rfl, rfl, rfl, rfl, trivial⟩ ?_
              rw [bsL, if_pos hw, bsT_2 hq hR, if_pos hv, if_pos hp0]
              exact ih (i + 1) (by omega) _ _ _ (nI_1 i)
        · skip
          have h8 : ¬ i = 8 := fun q => c52 (by rw [q]; rfl)
          refine pv_aload_n (i := 0) t_X0_valueOf_55 rfl rfl ?_
          refine pv_getR t_X0_valueOf_56 fl_X0_25 hs rfl ?_
          refine pv_iload t_X0_valueOf_59 rfl ?_
          refine pv_gV1 t_X0_valueOf_61 ml_X0_44 mo_X4_hasPhrase hm.1 rfl (Nat.le_of_ble_eq_true rfl) (e_X4_hasPhrase hm) (Nat.le_of_ble_eq_true rfl) ?_
          rw [e_m, hnc]
          refine pv_if_eq t_X0_valueOf_64 (fun c64 => ?_) (fun c64 => ?_)
          · skip
            have hq : ¬ (i = 8 ∨ (zib (nI i) (nI nc) = true ∧ dUn z.1 (nI i) = true)) := fun q => q.elim h8 (fun q => by rw [q.1] at c64; exact absurd c64 (by decide))
            skip
            refine pv_iinc (v := 1) t_X0_valueOf_134 rfl zi_1 ?_
            refine pv_goto t_X0_valueOf_137 ?_
            refine pv_loc (lv' := [(0, _), (1, _), (2, _), (3, _), (4, _), (5, _)]) ⟨rfl, rfl, rfl, rfl, rfl, rfl, trivial⟩ ?_
            rw [bsL, if_pos hw, bsT_1 hq]
            exact ih (i + 1) (by omega) _ _ _ (nI_1 i)
          · skip
            have z64 := bz_n.mp c64
            refine pv_aload_n (i := 3) t_X0_valueOf_67 rfl rfl ?_
            refine pv_iload t_X0_valueOf_68 rfl ?_
            refine pv_gV1 t_X0_valueOf_70 ml_X0_50 mo_X1_isUnsaid hd.1 rfl (Nat.le_of_ble_eq_true rfl) (e_X1_isUnsaid hd) (Nat.le_of_ble_eq_true rfl) ?_
            rw [e_a]
            refine pv_if_eq t_X0_valueOf_73 (fun c73 => ?_) (fun c73 => ?_)
            · skip
              have hq : ¬ (i = 8 ∨ (zib (nI i) (nI nc) = true ∧ dUn z.1 (nI i) = true)) := fun q => q.elim h8 (fun q => by rw [q.2] at c73; exact absurd c73 (by decide))
              skip
              refine pv_iinc (v := 1) t_X0_valueOf_134 rfl zi_1 ?_
              refine pv_goto t_X0_valueOf_137 ?_
              refine pv_loc (lv' := [(0, _), (1, _), (2, _), (3, _), (4, _), (5, _)]) ⟨rfl, rfl, rfl, rfl, rfl, rfl, trivial⟩ ?_
              rw [bsL, if_pos hw, bsT_1 hq]
              exact ih (i + 1) (by omega) _ _ _ (nI_1 i)
            · skip
              have hq : (i = 8 ∨ (zib (nI i) (nI nc) = true ∧ dUn z.1 (nI i) = true)) := Or.inr ⟨z64, bz_n.mp c73⟩
              refine pv_aload_n (i := 3) t_X0_valueOf_76 rfl rfl ?_
              refine pv_iload t_X0_valueOf_77 rfl ?_
              refine pv_aload_n (i := 0) t_X0_valueOf_79 rfl rfl ?_
              refine pv_getR t_X0_valueOf_80 fl_X0_15 hs rfl ?_
              refine pv_gV2 t_X0_valueOf_83 ml_X0_53 mo_X1_play hd.1 rfl (Nat.le_of_ble_eq_true rfl) (e_X1_play hm hf hd) (Nat.le_of_ble_eq_true rfl) ?_
              rw [e_a, e_b, e_tr, e_pa, e_ne, e_dn, e_va, e_pl]
              refine pv_iconst (v := 2) t_X0_valueOf_86 zi_2 ?_
              refine pv_aload_n (i := 0) t_X0_valueOf_87 rfl rfl ?_
              refine pv_iconst (v := 2) t_X0_valueOf_88 zi_2 ?_
              refine pv_iload t_X0_valueOf_89 rfl ?_
              refine pv_isub t_X0_valueOf_91 ?_
              refine pv_iload_n (i := 2) t_X0_valueOf_92 rfl rfl ?_
              refine pv_iconst (v := 1) t_X0_valueOf_93 zi_1 ?_
              refine pv_iadd t_X0_valueOf_94 ?_
              rw [nI_1]
              refine pv_gS3 t_X0_valueOf_95 ml_X0_30 mo_X0_valueOf (Nat.le_of_ble_eq_true rfl) (hrec (bsM μ a b s (dPl (μ tr) (μ pa) (μ ne) (μ dn) (μ va) z.1 (nI i), dRem z.1 z.2.1, z.2.2)) (by rw [e_m]; exact hnc) (2 - v)) (Nat.le_of_ble_eq_true rfl) ?_
              rw [e_tr, e_pa, e_ne, e_dn, e_va, e_a, e_b, e_s, e_s3, e_bb]
              generalize hR : (bsO (μ tr) (μ pa) (μ ne) (μ dn) (μ va) nc j (p + 1) (2 - v) (dPl (μ tr) (μ pa) (μ ne) (μ dn) (μ va) z.1 (nI i), dRem z.1 z.2.1, z.2.2)) = R
              refine pv_isub t_X0_valueOf_98 ?_
              refine pv_istore t_X0_valueOf_99 (Nat.le_of_ble_eq_true rfl) ?_
              refine pv_aload_n (i := 3) t_X0_valueOf_101 rfl rfl ?_
              refine pv_iconst (v := 1) t_X0_valueOf_102 zi_1 ?_
              refine pv_gV1 t_X0_valueOf_103 ml_X0_57 mo_X1_takeBack hd.1 rfl (Nat.le_of_ble_eq_true rfl) (e_X1_takeBack hd) (Nat.le_of_ble_eq_true rfl) ?_
              rw [e_a, e_b, e_tb]
              refine pv_iload t_X0_valueOf_106 rfl ?_
              refine pv_iload t_X0_valueOf_108 rfl ?_
              refine pv_icmp_le t_X0_valueOf_110 (fun c110 => ?_) (fun c110 => ?_)
              · skip
                have hv : ¬ v < 2 - R.1 := Int32.not_lt.mpr c110
                skip
                refine pv_iinc (v := 1) t_X0_valueOf_134 rfl zi_1 ?_
                refine pv_goto t_X0_valueOf_137 ?_
                refine pv_loc (lv' := [(0, _), (1, _), (2, _), (3, _), (4, _), (5, _)]) ⟨rfl, rfl, rfl, rfl, rfl, rfl, trivial⟩ ?_
                rw [bsL, if_pos hw, bsT_2 hq hR, if_neg hv]
                exact ih (i + 1) (by omega) _ _ _ (nI_1 i)
              · skip
                have hv : v < 2 - R.1 := Int32.not_le.mp c110
                refine pv_iload t_X0_valueOf_113 rfl ?_
                refine pv_istore t_X0_valueOf_115 (Nat.le_of_ble_eq_true rfl) ?_
                refine pv_aload_n (i := 0) t_X0_valueOf_117 rfl rfl ?_
                refine pv_iload_n (i := 2) t_X0_valueOf_118 rfl rfl ?_
                refine pv_if_ne t_X0_valueOf_119 (fun c119 => ?_) (fun c119 => ?_)
                · skip
                  have hp0 : ¬ p = 0 := fun q => c119 (by rw [q]; rfl)
                  refine pv_aload_n (i := 0) t_X0_valueOf_127 rfl rfl ?_
                  refine pv_getI t_X0_valueOf_128 fl_X0_26 hs rfl ?_
                  refine pv_putI t_X0_valueOf_131 fl_X0_26 zfn_0_3 hs rfl ?_
                  rw [e_s, e_s3, e_ft]
                  refine pv_iinc (v := 1) t_X0_valueOf_134 rfl zi_1 ?_
                  refine pv_goto t_X0_valueOf_137 ?_
                  refine pv_loc (lv' := [(0, _), (1, _), (2, _), (3, _), (4, _), (5, _)]) ⟨rfl, rfl, rfl, rfl, rfl, rfl, trivial⟩ ?_
                  rw [bsL, if_pos hw, bsT_2 hq hR, if_pos hv, if_neg hp0]
                  exact ih (i + 1) (by omega) _ _ _ (nI_1 i)
                · skip
                  have hp0 : p = 0 := (nI_eq (b := 0) (by omega) (by decide)).mp c119
                  refine pv_iload t_X0_valueOf_122 rfl ?_
                  refine pv_goto t_X0_valueOf_124 ?_
                  refine pv_putI t_X0_valueOf_131 fl_X0_26 zfn_0_3 hs rfl ?_
                  rw [e_s, e_ft]
                  refine pv_iinc (v := 1) t_X0_valueOf_134 rfl zi_1 ?_
                  refine pv_goto t_X0_valueOf_137 ?_
                  refine pv_loc (lv' := [(0, _), (1, _), (2, _), (3, _), (4, _), (5, _)]) ⟨rfl, rfl, rfl, rfl, rfl, rfl, trivial⟩ ?_
                  rw [bsL, if_pos hw, bsT_2 hq hR, if_pos hv, if_pos hp0]
                  exact ih (i + 1) (by omega) _ _ _ (nI_1 i)

theorem e_X0_valueOf {l : Launch} {X : zX} {d : Nat} {Ψ : List zC} {m tr pa ne fd : Nat} (hm : oM Ψ m tr pa ne fd) {f dn va : Nat} (hf : oF Ψ f m dn va) {t a b : Nat} (hd : oD Ψ t a b) {s : Nat} (hs : oBS Ψ s t f m) {nc : Nat} : ∀ j p : Nat, p + j = 17 → ∀ μ : zH, μ m 1 = nI nc → ∀ en : Int32, zRn l X mi_X0_valueOf (d + j + 5) [.inr s, .inl en, .inl (nI p)] (Ψ, μ) (some (.inl (bsO (μ tr) (μ pa) (μ ne) (μ dn) (μ va) nc j p en (μ a, μ b, μ s 3)).1)) (Ψ, bsM μ a b s (bsO (μ tr) (μ pa) (μ ne) (μ dn) (μ va) nc j p en (μ a, μ b, μ s 3)).2) := by
  intro j
  have hid : ∀ μ : zH, bsM μ a b s (μ a, μ b, μ s 3) = μ := fun μ => by
    rw [bsM]
    show zhs (zhs (zhs μ b (μ b)) a (μ a)) s (upd (μ s) 3 (μ s 3)) = μ
    rw [zhs_id, zhs_id, upd_id, zhs_id]
  induction j with
  | zero =>
    intro p hp μ hnc en
    show zEv l X mi_X0_valueOf (d + 5) 0 (zent 0 [.inr s, .inl en, .inl (nI p)]) [] (Ψ, μ) 0 0 _ _
    rw [bsO]
    refine pv_aload_n (i := 0) t_X0_valueOf_0 rfl rfl ?_
    refine pv_getR t_X0_valueOf_1 fl_X0_9 hs rfl ?_
    refine pv_astore_n (i := 3) t_X0_valueOf_4 rfl (Nat.le_of_ble_eq_true rfl) ?_
    refine pv_aload_n (i := 3) t_X0_valueOf_5 rfl rfl ?_
    refine pv_gV0 t_X0_valueOf_6 ml_X0_34 mo_X1_goesOn hd.1 rfl (Nat.le_of_ble_eq_true rfl) (e_X1_goesOn hd) (Nat.le_of_ble_eq_true rfl) ?_
    refine pv_if_eq t_X0_valueOf_9 (fun c9 => ?_) (fun c9 => ?_)
    · skip
      refine pv_aload_n (i := 3) t_X0_valueOf_18 rfl rfl ?_
      refine pv_gS1 t_X0_valueOf_19 ml_X0_40 mo_X0_valueOfEnd (Nat.le_of_ble_eq_true rfl) (e_X0_valueOfEnd hd) (Nat.le_of_ble_eq_true rfl) ?_
      exact pv_ireti t_X0_valueOf_22 rfl rfl (by rw [hid])
    · skip
      refine pv_iload_n (i := 2) t_X0_valueOf_12 rfl rfl ?_
      refine pv_bipush (v := 16) t_X0_valueOf_13 zb_16 ?_
      refine pv_icmp_le t_X0_valueOf_15 (fun c15 => absurd (show nI p ≤ 16 from c15) (by rw [show p = 17 by omega]; decide)) (fun c15 => ?_)
      refine pv_aload_n (i := 3) t_X0_valueOf_18 rfl rfl ?_
      refine pv_gS1 t_X0_valueOf_19 ml_X0_40 mo_X0_valueOfEnd (Nat.le_of_ble_eq_true rfl) (e_X0_valueOfEnd hd) (Nat.le_of_ble_eq_true rfl) ?_
      exact pv_ireti t_X0_valueOf_22 rfl rfl (by rw [hid])
  | succ j ih =>
    intro p hp μ hnc en
    show zEv l X mi_X0_valueOf (d + j + 5 + 1) 0 (zent 0 [.inr s, .inl en, .inl (nI p)]) [] (Ψ, μ) 0 0 _ _
    refine pv_aload_n (i := 0) t_X0_valueOf_0 rfl rfl ?_
    refine pv_getR t_X0_valueOf_1 fl_X0_9 hs rfl ?_
    refine pv_astore_n (i := 3) t_X0_valueOf_4 rfl (Nat.le_of_ble_eq_true rfl) ?_
    refine pv_aload_n (i := 3) t_X0_valueOf_5 rfl rfl ?_
    refine pv_gV0 t_X0_valueOf_6 ml_X0_34 mo_X1_goesOn hd.1 rfl (Nat.le_of_ble_eq_true rfl) (e_X1_goesOn hd) (Nat.le_of_ble_eq_true rfl) ?_
    refine pv_if_eq t_X0_valueOf_9 (fun c9 => ?_) (fun c9 => ?_)
    · skip
      have hg : ¬ dGo (μ a) = true := fun q => by rw [q] at c9; exact absurd c9 (by decide)
      refine pv_aload_n (i := 3) t_X0_valueOf_18 rfl rfl ?_
      refine pv_gS1 t_X0_valueOf_19 ml_X0_40 mo_X0_valueOfEnd (Nat.le_of_ble_eq_true rfl) (e_X0_valueOfEnd hd) (Nat.le_of_ble_eq_true rfl) ?_
      exact pv_ireti t_X0_valueOf_22 rfl (by rw [bsO, if_neg hg]) (by rw [bsO, if_neg hg, hid])
    · skip
      have hg := bz_n.mp c9
      refine pv_iload_n (i := 2) t_X0_valueOf_12 rfl rfl ?_
      refine pv_bipush (v := 16) t_X0_valueOf_13 zb_16 ?_
      refine pv_icmp_le t_X0_valueOf_15 (fun c15 => ?_) (fun c15 => absurd (show nI p ≤ 16 from nI_le (b := 16) (by omega) (by decide)) c15)
      refine pv_iconst (v := -1) t_X0_valueOf_23 zi_m1 ?_
      refine pv_istore t_X0_valueOf_24 (Nat.le_of_ble_eq_true rfl) ?_
      refine pv_iconst (v := 0) t_X0_valueOf_26 zi_0 ?_
      refine pv_istore t_X0_valueOf_27 (Nat.le_of_ble_eq_true rfl) ?_
      rw [bsO, if_pos hg]
      have h9 := lp_X0_valueOf (l := l) (X := X) (μ := μ) (dd := d + j) (j := j) (p := p) (en := en) hm hf hd hs hnc (by omega) (fun ν g1 e1 => ih (p + 1) (by omega) ν g1 e1) 9 0 rfl 0 (-1) (μ a, μ b, μ s 3) rfl
      rw [hid] at h9
      exact h9

theorem e_X0_find {l : Launch} {X : zX} {d : Nat} {Ψ : List zC} {μ : zH} {m tr pa ne fd : Nat} (hm : oM Ψ m tr pa ne fd) {f dn va : Nat} (hf : oF Ψ f m dn va) {t a b : Nat} (hd : oD Ψ t a b) {s : Nat} (hs : oBS Ψ s t f m) {nc : Nat} (hnc : μ m 1 = nI nc) : zRn l X mi_X0_find (d + 17 + 5 + 1) [.inr s] (Ψ, μ) (some (.inl (bsO (μ tr) (μ pa) (μ ne) (μ dn) (μ va) nc 17 0 3 (μ a, μ b, μ s 3)).1)) (Ψ, bsM μ a b s (bsO (μ tr) (μ pa) (μ ne) (μ dn) (μ va) nc 17 0 3 (μ a, μ b, μ s 3)).2) := by
  refine pv_aload_n (i := 0) t_X0_find_0 rfl rfl ?_
  refine pv_iconst (v := 3) t_X0_find_1 zi_3 ?_
  refine pv_iconst (v := 0) t_X0_find_2 zi_0 ?_
  refine pv_gS3 t_X0_find_3 ml_X0_30 mo_X0_valueOf (Nat.le_of_ble_eq_true rfl) (e_X0_valueOf hm hf hd hs 17 0 rfl _ hnc 3) (Nat.le_of_ble_eq_true rfl) ?_
  exact pv_ireti t_X0_find_6 rfl rfl rfl

