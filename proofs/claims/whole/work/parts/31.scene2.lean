theorem e_X4_copyFrom {l : Launch} {X : zX} {d : Nat} {Ψ : List zC} {μ : zH} {m tr pa ne fd m2 tr2 pa2 ne2 fd2 : Nat} (hm : oM Ψ m tr pa ne fd) (hm2 : oM Ψ m2 tr2 pa2 ne2 fd2) (hne : m2 ≠ m) : zRn l X mi_X4_copyFrom (d + 2) [.inr m, .inr m2] (Ψ, μ) none (Ψ, zhs (zhs (zhs (zhs (zhs μ m (upd (upd (μ m) 0 (μ m2 0)) 1 (μ m2 1))) tr (cpy 24 (μ tr2) (μ tr))) pa (cpy 40 (μ pa2) (μ pa))) ne (cpy 8 (μ ne2) (μ ne))) fd (cpy 4 (μ fd2) (μ fd))) := by
  have n_tr_m : tr ≠ m := zne hm.2.1 hm.1 (by simp)
  have n_tr2_m : tr2 ≠ m := zne hm2.2.1 hm.1 (by simp)
  have n_pa_m : pa ≠ m := zne hm.2.2.1 hm.1 (by simp)
  have n_pa2_m : pa2 ≠ m := zne hm2.2.2.1 hm.1 (by simp)
  have n_pa_tr : pa ≠ tr := zne hm.2.2.1 hm.2.1 (by simp)
  have n_pa2_tr : pa2 ≠ tr := zne hm2.2.2.1 hm.2.1 (by simp)
  have n_ne_m : ne ≠ m := zne hm.2.2.2.1 hm.1 (by simp)
  have n_ne2_m : ne2 ≠ m := zne hm2.2.2.2.1 hm.1 (by simp)
  have n_ne_tr : ne ≠ tr := zne hm.2.2.2.1 hm.2.1 (by simp)
  have n_ne2_tr : ne2 ≠ tr := zne hm2.2.2.2.1 hm.2.1 (by simp)
  have n_ne_pa : ne ≠ pa := zne hm.2.2.2.1 hm.2.2.1 (by simp)
  have n_ne2_pa : ne2 ≠ pa := zne hm2.2.2.2.1 hm.2.2.1 (by simp)
  have n_fd_m : fd ≠ m := zne hm.2.2.2.2 hm.1 (by simp)
  have n_fd2_m : fd2 ≠ m := zne hm2.2.2.2.2 hm.1 (by simp)
  have n_fd_tr : fd ≠ tr := zne hm.2.2.2.2 hm.2.1 (by simp)
  have n_fd2_tr : fd2 ≠ tr := zne hm2.2.2.2.2 hm.2.1 (by simp)
  have n_fd_pa : fd ≠ pa := zne hm.2.2.2.2 hm.2.2.1 (by simp)
  have n_fd2_pa : fd2 ≠ pa := zne hm2.2.2.2.2 hm.2.2.1 (by simp)
  have n_fd_ne : fd ≠ ne := zne hm.2.2.2.2 hm.2.2.2.1 (by simp)
  have n_fd2_ne : fd2 ≠ ne := zne hm2.2.2.2.2 hm.2.2.2.1 (by simp)
  refine pv_aload_n (i := 0) t_X4_copyFrom_0 rfl rfl ?_
  refine pv_aload_n (i := 1) t_X4_copyFrom_1 rfl rfl ?_
  refine pv_getI t_X4_copyFrom_2 fl_X4_24 hm2.1 rfl ?_
  refine pv_putI t_X4_copyFrom_5 fl_X4_24 zfn_4_0 hm.1 rfl ?_
  refine pv_aload_n (i := 0) t_X4_copyFrom_8 rfl rfl ?_
  refine pv_aload_n (i := 1) t_X4_copyFrom_9 rfl rfl ?_
  refine pv_getI t_X4_copyFrom_10 fl_X4_28 hm2.1 rfl ?_
  refine pv_putI t_X4_copyFrom_13 fl_X4_28 zfn_4_1 hm.1 rfl ?_
  refine pv_aload_n (i := 1) t_X4_copyFrom_16 rfl rfl ?_
  refine pv_getR t_X4_copyFrom_17 fl_X4_11 hm2.1 rfl ?_
  refine pv_aload_n (i := 0) t_X4_copyFrom_20 rfl rfl ?_
  refine pv_getR t_X4_copyFrom_21 fl_X4_11 hm.1 rfl ?_
  refine pv_gS2 t_X4_copyFrom_24 ml_X4_53 mo_X8_copy (Nat.le_of_ble_eq_true rfl) (e_X8_copy hm2.2.1 hm.2.1 (by decide)) (Nat.le_of_ble_eq_true rfl) ?_
  refine pv_aload_n (i := 1) t_X4_copyFrom_27 rfl rfl ?_
  refine pv_getR t_X4_copyFrom_28 fl_X4_15 hm2.1 rfl ?_
  refine pv_aload_n (i := 0) t_X4_copyFrom_31 rfl rfl ?_
  refine pv_getR t_X4_copyFrom_32 fl_X4_15 hm.1 rfl ?_
  refine pv_gS2 t_X4_copyFrom_35 ml_X4_53 mo_X8_copy (Nat.le_of_ble_eq_true rfl) (e_X8_copy hm2.2.2.1 hm.2.2.1 (by decide)) (Nat.le_of_ble_eq_true rfl) ?_
  refine pv_aload_n (i := 1) t_X4_copyFrom_38 rfl rfl ?_
  refine pv_getR t_X4_copyFrom_39 fl_X4_18 hm2.1 rfl ?_
  refine pv_aload_n (i := 0) t_X4_copyFrom_42 rfl rfl ?_
  refine pv_getR t_X4_copyFrom_43 fl_X4_18 hm.1 rfl ?_
  refine pv_gS2 t_X4_copyFrom_46 ml_X4_53 mo_X8_copy (Nat.le_of_ble_eq_true rfl) (e_X8_copy hm2.2.2.2.1 hm.2.2.2.1 (by decide)) (Nat.le_of_ble_eq_true rfl) ?_
  refine pv_aload_n (i := 1) t_X4_copyFrom_49 rfl rfl ?_
  refine pv_getR t_X4_copyFrom_50 fl_X4_21 hm2.1 rfl ?_
  refine pv_aload_n (i := 0) t_X4_copyFrom_53 rfl rfl ?_
  refine pv_getR t_X4_copyFrom_54 fl_X4_21 hm.1 rfl ?_
  refine pv_gS2 t_X4_copyFrom_57 ml_X4_53 mo_X8_copy (Nat.le_of_ble_eq_true rfl) (e_X8_copy hm2.2.2.2.2 hm.2.2.2.2 (by decide)) (Nat.le_of_ble_eq_true rfl) ?_
  exact pv_vret t_X4_copyFrom_60 rfl (by simp only [zhs_hs, zhs_s, zhs_n _ _ hne, zhs_n _ _ n_tr_m, zhs_n _ _ n_tr2_m, zhs_n _ _ n_pa_m, zhs_n _ _ n_pa2_m, zhs_n _ _ n_pa_tr, zhs_n _ _ n_pa2_tr, zhs_n _ _ n_ne_m, zhs_n _ _ n_ne2_m, zhs_n _ _ n_ne_tr, zhs_n _ _ n_ne2_tr, zhs_n _ _ n_ne_pa, zhs_n _ _ n_ne2_pa, zhs_n _ _ n_fd_m, zhs_n _ _ n_fd2_m, zhs_n _ _ n_fd_tr, zhs_n _ _ n_fd2_tr, zhs_n _ _ n_fd_pa, zhs_n _ _ n_fd2_pa, zhs_n _ _ n_fd_ne, zhs_n _ _ n_fd2_ne]; rfl)

/-- a scene of thirteen cells from c on, of the meadow m -/
def oZ (sh : List zC) (c m : Nat) : Prop := oC sh c (c + 10) (c + 1) (c + 7) ∧ oL sh (c + 1) (c + 2) (c + 3) (c + 4) (c + 5) (c + 6) ∧ oD sh (c + 7) (c + 8) (c + 9) ∧ oF sh (c + 10) m (c + 11) (c + 12)
def scp (μ : zH) (c e : Nat) : zH := zhs (zhs (zhs (zhs (zhs (zhs (zhs (zhs μ (c + 11) (cpy 4 (μ (e + 11)) (μ (c + 11)))) (c + 12) (cpy 16 (μ (e + 12)) (μ (c + 12)))) (c + 2) (cpy 4 (μ (e + 2)) (μ (c + 2)))) (c + 3) (cpy 6 (μ (e + 3)) (μ (c + 3)))) (c + 4) (cpy 12 (μ (e + 4)) (μ (c + 4)))) (c + 8) (cpy 20 (μ (e + 8)) (μ (c + 8)))) (c + 9) (cpy 800 (μ (e + 9)) (μ (c + 9)))) c (upd (μ c) 3 (μ e 3))
def sba (μ : zH) (c tr fd : Nat) : zH := zhs (zhs (zhs (zhs (zhs μ (c + 11) (cpy 4 (μ fd) (μ (c + 11)))) (c + 12) (bgV (μ tr) (μ (c + 12)) 16)) (c + 2) (clr 4 (μ (c + 2)))) (c + 3) (clr 6 (μ (c + 3)))) (c + 8) (dBg (-1) (-1) (μ (c + 8)))
theorem zhs_d {μ : zH} {k a : Nat} {f : Nat → Int32} (h : a ≠ k) : zhs μ k f a = μ a := zhs_n _ _ h
theorem e_X9_copyFrom {l : Launch} {X : zX} {d : Nat} {Ψ : List zC} {μ : zH} {c e m m9 : Nat} (hz : oZ Ψ c m) (hy : oZ Ψ e m9) (hne : c + 13 ≤ e ∨ e + 13 ≤ c) : zRn l X mi_X9_copyFrom (d + 4) [.inr c, .inr e] (Ψ, μ) none (Ψ, scp μ c e) := by
  refine pv_aload_n (i := 0) t_X9_copyFrom_0 rfl rfl ?_
  refine pv_getR t_X9_copyFrom_1 fl_X9_30 hz.1 rfl ?_
  refine pv_aload_n (i := 1) t_X9_copyFrom_4 rfl rfl ?_
  refine pv_getR t_X9_copyFrom_5 fl_X9_30 hy.1 rfl ?_
  refine pv_gV1 t_X9_copyFrom_8 ml_X9_41 mo_X2_copyFrom hz.2.2.2.1 rfl (Nat.le_of_ble_eq_true rfl) (e_X2_copyFrom hz.2.2.2 hy.2.2.2) (Nat.le_of_ble_eq_true rfl) ?_
  refine pv_aload_n (i := 0) t_X9_copyFrom_11 rfl rfl ?_
  refine pv_getR t_X9_copyFrom_12 fl_X9_12 hz.1 rfl ?_
  refine pv_aload_n (i := 1) t_X9_copyFrom_15 rfl rfl ?_
  refine pv_getR t_X9_copyFrom_16 fl_X9_12 hy.1 rfl ?_
  refine pv_gV1 t_X9_copyFrom_19 ml_X9_45 mo_X3_copyFrom hz.2.1.1 rfl (Nat.le_of_ble_eq_true rfl) (e_X3_copyFrom hz.2.1 hy.2.1) (Nat.le_of_ble_eq_true rfl) ?_
  refine pv_aload_n (i := 0) t_X9_copyFrom_22 rfl rfl ?_
  refine pv_getR t_X9_copyFrom_23 fl_X9_21 hz.1 rfl ?_
  refine pv_aload_n (i := 1) t_X9_copyFrom_26 rfl rfl ?_
  refine pv_getR t_X9_copyFrom_27 fl_X9_21 hy.1 rfl ?_
  refine pv_gV1 t_X9_copyFrom_30 ml_X9_48 mo_X1_copyFrom hz.2.2.1.1 rfl (Nat.le_of_ble_eq_true rfl) (e_X1_copyFrom hz.2.2.1 hy.2.2.1) (Nat.le_of_ble_eq_true rfl) ?_
  refine pv_aload_n (i := 0) t_X9_copyFrom_33 rfl rfl ?_
  refine pv_aload_n (i := 1) t_X9_copyFrom_34 rfl rfl ?_
  refine pv_getI t_X9_copyFrom_35 fl_X9_51 hy.1 rfl ?_
  refine pv_putI t_X9_copyFrom_38 fl_X9_51 zfn_8_3 hz.1 rfl ?_
  exact pv_vret t_X9_copyFrom_41 rfl (by simp (disch := omega) only [zhs_d, scp])

theorem e_X9_beginAnew {l : Launch} {X : zX} {d : Nat} {Ψ : List zC} {μ : zH} {m tr pa ne fd : Nat} (hm : oM Ψ m tr pa ne fd) {c : Nat} (hz : oZ Ψ c m) (hne : tr < c ∧ fd < c) : zRn l X mi_X9_beginAnew (d + 4) [.inr c] (Ψ, μ) none (Ψ, sba μ c tr fd) := by
  refine pv_aload_n (i := 0) t_X9_beginAnew_0 rfl rfl ?_
  refine pv_getR t_X9_beginAnew_1 fl_X9_30 hz.1 rfl ?_
  refine pv_gV0 t_X9_beginAnew_4 ml_X9_34 mo_X2_begin hz.2.2.2.1 rfl (Nat.le_of_ble_eq_true rfl) (e_X2_begin hm hz.2.2.2) (Nat.le_of_ble_eq_true rfl) ?_
  refine pv_aload_n (i := 0) t_X9_beginAnew_7 rfl rfl ?_
  refine pv_getR t_X9_beginAnew_8 fl_X9_12 hz.1 rfl ?_
  refine pv_gV0 t_X9_beginAnew_11 ml_X9_37 mo_X3_clear hz.2.1.1 rfl (Nat.le_of_ble_eq_true rfl) (e_X3_clear hz.2.1) (Nat.le_of_ble_eq_true rfl) ?_
  refine pv_aload_n (i := 0) t_X9_beginAnew_14 rfl rfl ?_
  refine pv_getR t_X9_beginAnew_15 fl_X9_21 hz.1 rfl ?_
  refine pv_gV0 t_X9_beginAnew_18 ml_X9_40 mo_X1_clear hz.2.2.1.1 rfl (Nat.le_of_ble_eq_true rfl) (e_X1_clear hz.2.2.1) (Nat.le_of_ble_eq_true rfl) ?_
  exact pv_vret t_X9_beginAnew_21 rfl (by simp (disch := omega) only [zhs_d, sba])

