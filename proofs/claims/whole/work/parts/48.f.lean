theorem lp_seA {l : Launch} {X : zX} {d : Nat} {μ : zH} {g67 : Nat → Int32} {f69 : Nat → Int32} {r : Option zV} {S' : zS} (hk : zEv l X mi_X11_settles (d + 1) 45 [(0, .inr 67), (1, .inl (nI 24))] [] (zSH, (zhs (zhs μ 67 g67) 69 (cpR f69 (fun k => f69 (24 + k)) (0) (24)))) 0 0 r S') : ∀ j i : Nat, i + j = 24 + 1 → i ≤ 24 → ∀ (y : Int32) (g69 : Nat → Int32), y = nI i → g69 = cpR f69 (fun k => f69 (24 + k)) (0) (i) → zEv l X mi_X11_settles (d + 1) 18 [(0, .inr 67), (1, .inl y)] [] (zSH, (zhs (zhs μ 67 g67) 69 g69)) 0 0 r S' := by
  intro j
  induction j with
  | zero => intros; omega
  | succ j ih =>
    intro i hij hle y g69 hy hg
    subst hy
    refine pv_iload_n (i := 1) t_X11_settles_18 rfl rfl ?_
    refine pv_bipush (v := 24) t_X11_settles_19 zb_24 ?_
    refine pv_icmp_ge t_X11_settles_21 (fun c21 => ?_) (fun c21 => ?_)
    · skip
      have hie : i = 24 := by have := (nI_leI (a := 24) (by omega) (by omega)).mp c21; omega
      subst hie
      rw [hg]
      exact hk
    · skip
      have hin : i < 24 := Nat.lt_of_not_le (fun q => c21 (nI_le (a := 24) q (by omega)))
      refine pv_aload_n (i := 0) t_X11_settles_24 rfl rfl ?_
      refine pv_getR t_X11_settles_25 fl_X11_17 hh_67 rfl ?_
      refine pv_iload_n (i := 1) t_X11_settles_28 rfl rfl ?_
      refine pv_aload_n (i := 0) t_X11_settles_29 rfl rfl ?_
      refine pv_getR t_X11_settles_30 fl_X11_17 hh_67 rfl ?_
      refine pv_bipush (v := 24) t_X11_settles_33 zb_24 ?_
      refine pv_iload_n (i := 1) t_X11_settles_35 rfl rfl ?_
      refine pv_iadd t_X11_settles_36 ?_
      refine sv_iald (g69 ((24 + i))) t_X11_settles_37 (Or.inl hh_69) (ixi (k := (24 + i)) (nIa rfl rfl) (by omega) (by decide)) ((ixe (k := (24 + i)) (nIa rfl rfl) (by omega)).trans (by first | rfl | (simp only [zhs_s, pk_us]; done) | (simp [zhs, upd]; done))) ?_
      refine sv_iast ((zhs (zhs μ 67 g67) 69 ((upd g69 i (g69 ((24 + i))))))) t_X11_settles_38 hh_69 (ixi (k := i) rfl (by omega) (by decide)) (by rw [ixc (x := (nI i)) (k := i) rfl (by omega), zhs_hs] <;> (first | rfl | (congr 1; funext k_; simp only [upd, zhs_s]; ((repeat' split) <;> first | rfl | omega | (subst_vars; contradiction) | (simp_all; done))))) ?_
      refine pv_iinc (v := 1) t_X11_settles_39 rfl zi_1 ?_
      refine pv_goto t_X11_settles_42 ?_
      refine pv_loc (lv' := [(0, _), (1, _)]) ⟨rfl, rfl, trivial⟩ ?_
      refine ih (i + 1) (by omega) (by omega) _ _ (nI_1 i) ?_
      rw [hg]
      exact cpR_s (by omega) (by show cpR f69 _ _ _ (24 + i) = f69 (24 + i); unfold cpR; rw [if_neg (by omega)]) (by omega)
theorem lp_seB {l : Launch} {X : zX} {d : Nat} {μ : zH} {g67 : Nat → Int32} {g69 : Nat → Int32} {f70 : Nat → Int32} {r : Option zV} {S' : zS} (hk : zEv l X mi_X11_settles (d + 1) 74 [(0, .inr 67), (1, .inl (nI 40))] [] (zSH, (zhs (zhs (zhs μ 67 g67) 69 g69) 70 (cpR f70 (fun k => f70 (40 + k)) (0) (40)))) 0 0 r S') : ∀ j i : Nat, i + j = 40 + 1 → i ≤ 40 → ∀ (y : Int32) (g70 : Nat → Int32), y = nI i → g70 = cpR f70 (fun k => f70 (40 + k)) (0) (i) → zEv l X mi_X11_settles (d + 1) 47 [(0, .inr 67), (1, .inl y)] [] (zSH, (zhs (zhs (zhs μ 67 g67) 69 g69) 70 g70)) 0 0 r S' := by
  intro j
  induction j with
  | zero => intros; omega
  | succ j ih =>
    intro i hij hle y g70 hy hg
    subst hy
    refine pv_iload_n (i := 1) t_X11_settles_47 rfl rfl ?_
    refine pv_bipush (v := 40) t_X11_settles_48 zb_40 ?_
    refine pv_icmp_ge t_X11_settles_50 (fun c50 => ?_) (fun c50 => ?_)
    · skip
      have hie : i = 40 := by have := (nI_leI (a := 40) (by omega) (by omega)).mp c50; omega
      subst hie
      rw [hg]
      exact hk
    · skip
      have hin : i < 40 := Nat.lt_of_not_le (fun q => c50 (nI_le (a := 40) q (by omega)))
      refine pv_aload_n (i := 0) t_X11_settles_53 rfl rfl ?_
      refine pv_getR t_X11_settles_54 fl_X11_20 hh_67 rfl ?_
      refine pv_iload_n (i := 1) t_X11_settles_57 rfl rfl ?_
      refine pv_aload_n (i := 0) t_X11_settles_58 rfl rfl ?_
      refine pv_getR t_X11_settles_59 fl_X11_20 hh_67 rfl ?_
      refine pv_bipush (v := 40) t_X11_settles_62 zb_40 ?_
      refine pv_iload_n (i := 1) t_X11_settles_64 rfl rfl ?_
      refine pv_iadd t_X11_settles_65 ?_
      refine sv_iald (g70 ((40 + i))) t_X11_settles_66 (Or.inl hh_70) (ixi (k := (40 + i)) (nIa rfl rfl) (by omega) (by decide)) ((ixe (k := (40 + i)) (nIa rfl rfl) (by omega)).trans (by first | rfl | (simp only [zhs_s, pk_us]; done) | (simp [zhs, upd]; done))) ?_
      refine sv_iast ((zhs (zhs (zhs μ 67 g67) 69 g69) 70 ((upd g70 i (g70 ((40 + i))))))) t_X11_settles_67 hh_70 (ixi (k := i) rfl (by omega) (by decide)) (by rw [ixc (x := (nI i)) (k := i) rfl (by omega), zhs_hs] <;> (first | rfl | (congr 1; funext k_; simp only [upd, zhs_s]; ((repeat' split) <;> first | rfl | omega | (subst_vars; contradiction) | (simp_all; done))))) ?_
      refine pv_iinc (v := 1) t_X11_settles_68 rfl zi_1 ?_
      refine pv_goto t_X11_settles_71 ?_
      refine pv_loc (lv' := [(0, _), (1, _)]) ⟨rfl, rfl, trivial⟩ ?_
      refine ih (i + 1) (by omega) (by omega) _ _ (nI_1 i) ?_
      rw [hg]
      exact cpR_s (by omega) (by show cpR f70 _ _ _ (40 + i) = f70 (40 + i); unfold cpR; rw [if_neg (by omega)]) (by omega)
theorem lp_seC {l : Launch} {X : zX} {d : Nat} {μ : zH} {g67 : Nat → Int32} {g69 : Nat → Int32} {g70 : Nat → Int32} {f72 : Nat → Int32} {r : Option zV} {S' : zS} (hk : zEv l X mi_X11_settles (d + 1) 95 [(0, .inr 67), (1, .inl (nI 63))] [] (zSH, (zhs (zhs (zhs (zhs μ 67 g67) 69 g69) 70 g70) 72 (cpR f72 (fun _ => 0) (0) (63)))) 0 0 r S') : ∀ j i : Nat, i + j = 63 + 1 → i ≤ 63 → ∀ (y : Int32) (g72 : Nat → Int32), y = nI i → g72 = cpR f72 (fun _ => 0) (0) (i) → zEv l X mi_X11_settles (d + 1) 76 [(0, .inr 67), (1, .inl y)] [] (zSH, (zhs (zhs (zhs (zhs μ 67 g67) 69 g69) 70 g70) 72 g72)) 0 0 r S' := by
  intro j
  induction j with
  | zero => intros; omega
  | succ j ih =>
    intro i hij hle y g72 hy hg
    subst hy
    refine pv_iload_n (i := 1) t_X11_settles_76 rfl rfl ?_
    refine pv_bipush (v := 63) t_X11_settles_77 zb_63 ?_
    refine pv_icmp_ge t_X11_settles_79 (fun c79 => ?_) (fun c79 => ?_)
    · skip
      have hie : i = 63 := by have := (nI_leI (a := 63) (by omega) (by omega)).mp c79; omega
      subst hie
      rw [hg]
      exact hk
    · skip
      have hin : i < 63 := Nat.lt_of_not_le (fun q => c79 (nI_le (a := 63) q (by omega)))
      refine pv_aload_n (i := 0) t_X11_settles_82 rfl rfl ?_
      refine pv_getR t_X11_settles_83 fl_X11_26 hh_67 rfl ?_
      refine pv_iload_n (i := 1) t_X11_settles_86 rfl rfl ?_
      refine pv_iconst (v := 0) t_X11_settles_87 zi_0 ?_
      refine sv_iast ((zhs (zhs (zhs (zhs μ 67 g67) 69 g69) 70 g70) 72 ((upd g72 i 0)))) t_X11_settles_88 hh_72 (ixi (k := i) rfl (by omega) (by decide)) (by rw [ixc (x := (nI i)) (k := i) rfl (by omega), zhs_hs] <;> (first | rfl | (congr 1; funext k_; simp only [upd, zhs_s]; ((repeat' split) <;> first | rfl | omega | (subst_vars; contradiction) | (simp_all; done))))) ?_
      refine pv_iinc (v := 1) t_X11_settles_89 rfl zi_1 ?_
      refine pv_goto t_X11_settles_92 ?_
      refine pv_loc (lv' := [(0, _), (1, _)]) ⟨rfl, rfl, trivial⟩ ?_
      refine ih (i + 1) (by omega) (by omega) _ _ (nI_1 i) ?_
      rw [hg]
      exact cpR_s (by omega) rfl (by omega)
def seI_F (g69 : Nat → Int32) (a0 : Nat) (i : Nat) (S : Nat → Int32) : (Nat → Int32) := ((upd S (((4 + (4 * a0)) + i)) (g69 ((((6 * a0) + 2) + i)))))
def seI (g69 : Nat → Int32) (a0 : Nat) (z0 : (Nat → Int32)) : Nat → (Nat → Int32) := zfold (fun i s => seI_F g69 a0 i s) z0
theorem lp_seI {l : Launch} {X : zX} {d : Nat} {μ : zH} {a0 : Nat} {g67 : Nat → Int32} {g69 : Nat → Int32} {g70 : Nat → Int32} {z0 : (Nat → Int32)} (ha : a0 < 4) {r : Option zV} {S' : zS} (hk : zEv l X mi_X11_settles (d + 1) 155 [(0, .inr 67), (1, .inl ((nI a0))), (2, .inl (nI 4))] [] (zSH, (zhs (zhs (zhs (zhs μ 67 g67) 69 g69) 70 g70) 72 ((seI g69 a0 z0 4)))) 0 0 r S') : ∀ j i : Nat, i + j = 4 + 1 → i ≤ 4 → ∀ (y : Int32) (S : Nat → Int32), y = nI i → S = (seI g69 a0 z0 i) → zEv l X mi_X11_settles (d + 1) 119 [(0, .inr 67), (1, .inl ((nI a0))), (2, .inl y)] [] (zSH, (zhs (zhs (zhs (zhs μ 67 g67) 69 g69) 70 g70) 72 S)) 0 0 r S' := by
  intro j
  induction j with
  | zero => intros; omega
  | succ j ih =>
    intro i hij hle y S hy hs
    subst hy
    refine pv_iload_n (i := 2) t_X11_settles_119 rfl rfl ?_
    refine pv_iconst (v := 4) t_X11_settles_120 zi_4 ?_
    refine pv_icmp_ge t_X11_settles_121 (fun c121 => ?_) (fun c121 => ?_)
    · skip
      have hie : i = 4 := by have := (nI_leI (a := 4) (by omega) (by omega)).mp c121; omega
      subst hie
      rw [← hs] at hk
      exact hk
    · skip
      have hin : i < 4 := Nat.lt_of_not_le (fun q => c121 (nI_le (a := 4) q (by omega)))
      refine pv_aload_n (i := 0) t_X11_settles_124 rfl rfl ?_
      refine pv_getR t_X11_settles_125 fl_X11_26 hh_67 rfl ?_
      refine pv_iconst (v := 4) t_X11_settles_128 zi_4 ?_
      refine pv_iconst (v := 4) t_X11_settles_129 zi_4 ?_
      refine pv_iload_n (i := 1) t_X11_settles_130 rfl rfl ?_
      refine pv_imul t_X11_settles_131 ?_
      refine pv_iadd t_X11_settles_132 ?_
      refine pv_iload_n (i := 2) t_X11_settles_133 rfl rfl ?_
      refine pv_iadd t_X11_settles_134 ?_
      refine pv_aload_n (i := 0) t_X11_settles_135 rfl rfl ?_
      refine pv_getR t_X11_settles_136 fl_X11_17 hh_67 rfl ?_
      refine pv_bipush (v := 6) t_X11_settles_139 zb_6 ?_
      refine pv_iload_n (i := 1) t_X11_settles_141 rfl rfl ?_
      refine pv_imul t_X11_settles_142 ?_
      refine pv_iconst (v := 2) t_X11_settles_143 zi_2 ?_
      refine pv_iadd t_X11_settles_144 ?_
      refine pv_iload_n (i := 2) t_X11_settles_145 rfl rfl ?_
      refine pv_iadd t_X11_settles_146 ?_
      refine sv_iald (g69 ((((6 * a0) + 2) + i))) t_X11_settles_147 (Or.inl hh_69) (ixi (k := (((6 * a0) + 2) + i)) (nIa (nIa (nIm rfl rfl) rfl) rfl) (by omega) (by decide)) ((ixe (k := (((6 * a0) + 2) + i)) (nIa (nIa (nIm rfl rfl) rfl) rfl) (by omega)).trans (by first | rfl | (simp only [zhs_s, pk_us]; done) | (simp [zhs, upd]; done))) ?_
      refine sv_iast ((zhs (zhs (zhs (zhs μ 67 g67) 69 g69) 70 g70) 72 ((upd S (((4 + (4 * a0)) + i)) (g69 ((((6 * a0) + 2) + i))))))) t_X11_settles_148 hh_72 (ixi (k := ((4 + (4 * a0)) + i)) (nIa (nIa rfl (nIm rfl rfl)) rfl) (by omega) (by decide)) (by rw [ixc (x := (4 + (4 * ((nI a0)))) + ((nI i))) (k := ((4 + (4 * a0)) + i)) (nIa (nIa rfl (nIm rfl rfl)) rfl) (by omega), zhs_hs] <;> (first | rfl | (congr 1; funext k_; simp only [upd, zhs_s]; ((repeat' split) <;> first | rfl | omega | (subst_vars; contradiction) | (simp_all; done))))) ?_
      refine pv_iinc (v := 1) t_X11_settles_149 rfl zi_1 ?_
      refine pv_goto t_X11_settles_152 ?_
      refine pv_loc (lv' := [(0, _), (1, _), (2, _)]) ⟨rfl, rfl, rfl, trivial⟩ ?_
      refine ih (i + 1) (by omega) (by omega) _ _ (nI_1 i) ?_
      have hs9 : (seI g69 a0 z0 (i + 1)) = seI_F g69 a0 i ((seI g69 a0 z0 i)) := rfl
      rw [hs9, ← hs]
      show _ = seI_F g69 a0 i S
      unfold seI_F
      rfl
def seO_F (f71 : Nat → Int32) (g69 : Nat → Int32) (i : Nat) (S : Nat → Int32) : (Nat → Int32) := ((seI g69 i (((upd S i (f71 i)))) 4))
def seO (f71 : Nat → Int32) (g69 : Nat → Int32) (z0 : (Nat → Int32)) : Nat → (Nat → Int32) := zfold (fun i s => seO_F f71 g69 i s) z0
theorem lp_seO {l : Launch} {X : zX} {d : Nat} {μ : zH} {np : Nat} {g67 : Nat → Int32} {g69 : Nat → Int32} {g70 : Nat → Int32} {z0 : (Nat → Int32)} (hnp : g67 10 = nI np) (hp4 : np ≤ 4) {r : Option zV} {S' : zS} (hk : zEv l X mi_X11_settles (d + 1) 161 [(0, .inr 67), (1, .inl (nI np))] [] (zSH, (zhs (zhs (zhs (zhs μ 67 g67) 69 g69) 70 g70) 72 ((seO (μ 71) g69 z0 np)))) 0 0 r S') : ∀ j i : Nat, i + j = np + 1 → i ≤ np → ∀ (y : Int32) (S : Nat → Int32), y = nI i → S = (seO (μ 71) g69 z0 i) → zEv l X mi_X11_settles (d + 1) 97 [(0, .inr 67), (1, .inl y)] [] (zSH, (zhs (zhs (zhs (zhs μ 67 g67) 69 g69) 70 g70) 72 S)) 0 0 r S' := by
  intro j
  induction j with
  | zero => intros; omega
  | succ j ih =>
    intro i hij hle y S hy hs
    subst hy
    refine pv_iload_n (i := 1) t_X11_settles_97 rfl rfl ?_
    refine pv_aload_n (i := 0) t_X11_settles_98 rfl rfl ?_
    refine sv_getI (nI np) t_X11_settles_99 fl_X11_137 hh_67 rfl hnp ?_
    refine pv_icmp_ge t_X11_settles_102 (fun c102 => ?_) (fun c102 => ?_)
    · skip
      have hie : i = np := by have := (nI_leI (a := np) (by omega) (by omega)).mp c102; omega
      subst hie
      rw [← hs] at hk
      exact hk
    · skip
      have hin : i < np := Nat.lt_of_not_le (fun q => c102 (nI_le (a := np) q (by omega)))
      refine pv_aload_n (i := 0) t_X11_settles_105 rfl rfl ?_
      refine pv_getR t_X11_settles_106 fl_X11_26 hh_67 rfl ?_
      refine pv_iload_n (i := 1) t_X11_settles_109 rfl rfl ?_
      refine pv_aload_n (i := 0) t_X11_settles_110 rfl rfl ?_
      refine pv_getR t_X11_settles_111 fl_X11_23 hh_67 rfl ?_
      refine pv_iload_n (i := 1) t_X11_settles_114 rfl rfl ?_
      refine sv_iald ((μ 71) i) t_X11_settles_115 (Or.inl hh_71) (ixi (k := i) rfl (by omega) (by decide)) ((ixe (k := i) rfl (by omega)).trans (by first | rfl | (simp only [zhs_s, pk_us]; done) | (simp [zhs, upd]; done))) ?_
      refine sv_iast ((zhs (zhs (zhs (zhs μ 67 g67) 69 g69) 70 g70) 72 ((upd S i ((μ 71) i))))) t_X11_settles_116 hh_72 (ixi (k := i) rfl (by omega) (by decide)) (by rw [ixc (x := (nI i)) (k := i) rfl (by omega), zhs_hs] <;> (first | rfl | (congr 1; funext k_; simp only [upd, zhs_s]; ((repeat' split) <;> first | rfl | omega | (subst_vars; contradiction) | (simp_all; done))))) ?_
      refine pv_iconst (v := 0) t_X11_settles_117 zi_0 ?_
      refine pv_istore_n (i := 2) t_X11_settles_118 rfl (Nat.le_of_ble_eq_true rfl) ?_
      refine pv_loc (lv' := [(0, .inr 67), (1, .inl ((nI i))), (2, .inl 0)]) ⟨rfl, rfl, rfl, trivial⟩ ?_
      refine lp_seI (a0 := i) (g67 := g67) (g69 := g69) (g70 := g70) (z0 := ((upd S i ((μ 71) i)))) (by omega) ?_ (4 + 1) 0 (by omega) (by omega) _ _ rfl rfl
      refine pv_iinc (v := 1) t_X11_settles_155 rfl zi_1 ?_
      refine pv_goto t_X11_settles_158 ?_
      refine pv_loc (lv' := [(0, _), (1, _)]) ⟨rfl, rfl, trivial⟩ ?_
      refine ih (i + 1) (by omega) (by omega) _ _ (nI_1 i) ?_
      have hs9 : (seO (μ 71) g69 z0 (i + 1)) = seO_F (μ 71) g69 i ((seO (μ 71) g69 z0 i)) := rfl
      rw [hs9, ← hs]
      show _ = seO_F (μ 71) g69 i S
      unfold seO_F
      rfl
theorem st_np {g : Nat → Int32} (h12 : nb (g 12) 5) : upd (upd g 10 (g 12)) 11 (g 13) 10 = nI (g 12).toNatClampNeg := h12.2
def w_X11_settles_69 (f69 : Nat → Int32) : Nat → Int32 := (((cpR f69 (fun k => f69 (24 + k)) (0) (24))))
def w_X11_settles_70 (f70 : Nat → Int32) : Nat → Int32 := ((cpR f70 (fun k => f70 (40 + k)) (0) (40)))
def w_X11_settles_72 (f69 : Nat → Int32) (f71 : Nat → Int32) (f72 : Nat → Int32) (np : Nat) : Nat → Int32 := (upd (upd ((seO f71 ((((cpR f69 (fun k => f69 (24 + k)) (0) (24))))) ((cpR f72 (fun _ => 0) (0) (63))) np)) 20 ((-1))) 21 ((-1)))
def w_X11_settles_67 (f67 : Nat → Int32) : Nat → Int32 := (upd (upd (upd ((((((upd (upd f67 10 (f67 12)) 11 (f67 13))))))) 24 0) 26 0) 28 0)
def w_X11_settles_77 (f77 : Nat → Int32) : Nat → Int32 := (upd (upd f77 0 0) 1 0)
theorem e_X11_settles {l : Launch} {X : zX} {d : Nat} {μ : zH} {np : Nat} (hnp : μ 67 12 = nI np) (hp4 : np ≤ 4) : zRn l X mi_X11_settles (d + 1) [.inr 67] (zSH, μ) none (zSH, (zhs (zhs (zhs (zhs (zhs μ 69 (w_X11_settles_69 (μ 69))) 70 (w_X11_settles_70 (μ 70))) 72 (w_X11_settles_72 (μ 69) (μ 71) (μ 72) np)) 67 (w_X11_settles_67 (μ 67))) 77 (w_X11_settles_77 (μ 77)))) := by
  refine pv_aload_n (i := 0) t_X11_settles_0 rfl rfl ?_
  refine pv_aload_n (i := 0) t_X11_settles_1 rfl rfl ?_
  refine sv_getI ((μ 67) 12) t_X11_settles_2 fl_X11_114 hh_67 rfl rfl ?_
  refine sv_putI ((zhs μ 67 ((upd (μ 67) 10 ((μ 67) 12))))) t_X11_settles_5 fl_X11_137 zfn_10_10 hh_67 rfl rfl ?_
  refine pv_aload_n (i := 0) t_X11_settles_8 rfl rfl ?_
  refine pv_aload_n (i := 0) t_X11_settles_9 rfl rfl ?_
  refine sv_getI ((μ 67) 13) t_X11_settles_10 fl_X11_121 hh_67 rfl rfl ?_
  refine sv_putI ((zhs μ 67 ((upd (upd (μ 67) 10 ((μ 67) 12)) 11 ((μ 67) 13))))) t_X11_settles_13 fl_X11_140 zfn_10_11 hh_67 rfl (by rw [zhs_hs] <;> (first | rfl | (congr 1; funext k_; simp only [upd, zhs_s]; ((repeat' split) <;> first | rfl | omega | (subst_vars; contradiction) | (simp_all; done))))) ?_
  refine pv_iconst (v := 0) t_X11_settles_16 zi_0 ?_
  refine pv_istore_n (i := 1) t_X11_settles_17 rfl (Nat.le_of_ble_eq_true rfl) ?_
  refine pv_loc (lv' := [(0, .inr 67), (1, .inl 0)]) ⟨rfl, rfl, trivial⟩ ?_
  refine zst (S2 := (zSH, (zhs (zhs μ 67 ((upd (upd (μ 67) 10 ((μ 67) 12)) 11 ((μ 67) 13)))) 69 (μ 69)))) (by symm; rw [zhs_i2 (ν := (zhs μ 67 ((upd (upd (μ 67) 10 ((μ 67) 12)) 11 ((μ 67) 13))))) (k := 69) (g := (μ 69)) rfl]) ?_
  refine lp_seA (g67 := ((upd (upd (μ 67) 10 ((μ 67) 12)) 11 ((μ 67) 13)))) (f69 := (μ 69))  ?_ (24 + 1) 0 (by omega) (by omega) _ _ rfl (cpR_0 (by omega)).symm
  refine pv_iconst (v := 0) t_X11_settles_45 zi_0 ?_
  refine pv_istore_n (i := 1) t_X11_settles_46 rfl (Nat.le_of_ble_eq_true rfl) ?_
  refine pv_loc (lv' := [(0, .inr 67), (1, .inl 0)]) ⟨rfl, rfl, trivial⟩ ?_
  refine zst (S2 := (zSH, (zhs (zhs (zhs μ 67 (((upd (upd (μ 67) 10 ((μ 67) 12)) 11 ((μ 67) 13))))) 69 (cpR (μ 69) (fun k => (μ 69) (24 + k)) (0) (24))) 70 (μ 70)))) (by symm; rw [zhs_i2 (ν := (zhs (zhs μ 67 (((upd (upd (μ 67) 10 ((μ 67) 12)) 11 ((μ 67) 13))))) 69 (cpR (μ 69) (fun k => (μ 69) (24 + k)) (0) (24)))) (k := 70) (g := (μ 70)) rfl]) ?_
  refine lp_seB (g67 := (((upd (upd (μ 67) 10 ((μ 67) 12)) 11 ((μ 67) 13))))) (g69 := (cpR (μ 69) (fun k => (μ 69) (24 + k)) (0) (24))) (f70 := (μ 70))  ?_ (40 + 1) 0 (by omega) (by omega) _ _ rfl (cpR_0 (by omega)).symm
  refine pv_iconst (v := 0) t_X11_settles_74 zi_0 ?_
  refine pv_istore_n (i := 1) t_X11_settles_75 rfl (Nat.le_of_ble_eq_true rfl) ?_
  refine pv_loc (lv' := [(0, .inr 67), (1, .inl 0)]) ⟨rfl, rfl, trivial⟩ ?_
  refine zst (S2 := (zSH, (zhs (zhs (zhs (zhs μ 67 ((((upd (upd (μ 67) 10 ((μ 67) 12)) 11 ((μ 67) 13)))))) 69 ((cpR (μ 69) (fun k => (μ 69) (24 + k)) (0) (24)))) 70 (cpR (μ 70) (fun k => (μ 70) (40 + k)) (0) (40))) 72 (μ 72)))) (by symm; rw [zhs_i2 (ν := (zhs (zhs (zhs μ 67 ((((upd (upd (μ 67) 10 ((μ 67) 12)) 11 ((μ 67) 13)))))) 69 ((cpR (μ 69) (fun k => (μ 69) (24 + k)) (0) (24)))) 70 (cpR (μ 70) (fun k => (μ 70) (40 + k)) (0) (40)))) (k := 72) (g := (μ 72)) rfl]) ?_
  refine lp_seC (g67 := ((((upd (upd (μ 67) 10 ((μ 67) 12)) 11 ((μ 67) 13)))))) (g69 := ((cpR (μ 69) (fun k => (μ 69) (24 + k)) (0) (24)))) (g70 := (cpR (μ 70) (fun k => (μ 70) (40 + k)) (0) (40))) (f72 := (μ 72))  ?_ (63 + 1) 0 (by omega) (by omega) _ _ rfl (cpR_0 (by omega)).symm
  refine pv_iconst (v := 0) t_X11_settles_95 zi_0 ?_
  refine pv_istore_n (i := 1) t_X11_settles_96 rfl (Nat.le_of_ble_eq_true rfl) ?_
  have hnp10 : ((((((upd (upd (μ 67) 10 ((μ 67) 12)) 11 ((μ 67) 13))))))) 10 = nI np := hnp
  refine pv_loc (lv' := [(0, .inr 67), (1, .inl 0)]) ⟨rfl, rfl, trivial⟩ ?_
  refine lp_seO (np := np) (g67 := (((((upd (upd (μ 67) 10 ((μ 67) 12)) 11 ((μ 67) 13))))))) (g69 := (((cpR (μ 69) (fun k => (μ 69) (24 + k)) (0) (24))))) (g70 := ((cpR (μ 70) (fun k => (μ 70) (40 + k)) (0) (40)))) (z0 := (cpR (μ 72) (fun _ => 0) (0) (63))) hnp10 hp4 ?_ (np + 1) 0 (by omega) (by omega) _ _ rfl rfl
  refine pv_aload_n (i := 0) t_X11_settles_161 rfl rfl ?_
  refine pv_getR t_X11_settles_162 fl_X11_26 hh_67 rfl ?_
  refine pv_bipush (v := 20) t_X11_settles_165 zb_20 ?_
  refine pv_iconst (v := -1) t_X11_settles_167 zi_m1 ?_
  refine sv_iast ((zhs (zhs (zhs (zhs μ 67 ((((((upd (upd (μ 67) 10 ((μ 67) 12)) 11 ((μ 67) 13)))))))) 69 ((((cpR (μ 69) (fun k => (μ 69) (24 + k)) (0) (24)))))) 70 (((cpR (μ 70) (fun k => (μ 70) (40 + k)) (0) (40))))) 72 ((upd ((seO (μ 71) ((((cpR (μ 69) (fun k => (μ 69) (24 + k)) (0) (24))))) ((cpR (μ 72) (fun _ => 0) (0) (63))) np)) 20 ((-1)))))) t_X11_settles_168 hh_72 (zin (by decide)) (by rw [zhs_hs] <;> (first | rfl | (congr 1; funext k_; simp only [upd, zhs_s]; ((repeat' split) <;> first | rfl | omega | (subst_vars; contradiction) | (simp_all; done))))) ?_
  refine pv_aload_n (i := 0) t_X11_settles_169 rfl rfl ?_
  refine pv_getR t_X11_settles_170 fl_X11_26 hh_67 rfl ?_
  refine pv_bipush (v := 21) t_X11_settles_173 zb_21 ?_
  refine pv_iconst (v := -1) t_X11_settles_175 zi_m1 ?_
  refine sv_iast ((zhs (zhs (zhs (zhs μ 67 ((((((upd (upd (μ 67) 10 ((μ 67) 12)) 11 ((μ 67) 13)))))))) 69 ((((cpR (μ 69) (fun k => (μ 69) (24 + k)) (0) (24)))))) 70 (((cpR (μ 70) (fun k => (μ 70) (40 + k)) (0) (40))))) 72 ((upd (upd ((seO (μ 71) ((((cpR (μ 69) (fun k => (μ 69) (24 + k)) (0) (24))))) ((cpR (μ 72) (fun _ => 0) (0) (63))) np)) 20 ((-1))) 21 ((-1)))))) t_X11_settles_176 hh_72 (zin (by decide)) (by rw [zhs_hs] <;> (first | rfl | (congr 1; funext k_; simp only [upd, zhs_s]; ((repeat' split) <;> first | rfl | omega | (subst_vars; contradiction) | (simp_all; done))))) ?_
  refine pv_aload_n (i := 0) t_X11_settles_177 rfl rfl ?_
  refine pv_iconst (v := 0) t_X11_settles_178 zi_0 ?_
  refine sv_putI ((zhs (zhs (zhs (zhs μ 69 ((((cpR (μ 69) (fun k => (μ 69) (24 + k)) (0) (24)))))) 70 (((cpR (μ 70) (fun k => (μ 70) (40 + k)) (0) (40))))) 72 ((upd (upd ((seO (μ 71) ((((cpR (μ 69) (fun k => (μ 69) (24 + k)) (0) (24))))) ((cpR (μ 72) (fun _ => 0) (0) (63))) np)) 20 ((-1))) 21 ((-1))))) 67 ((upd ((((((upd (upd (μ 67) 10 ((μ 67) 12)) 11 ((μ 67) 13))))))) 24 0)))) t_X11_settles_179 fl_X11_143 zfn_10_24 hh_67 rfl (by rw [zhs_cm (μ := μ) (a := 67) (b := 69) (by decide), zhs_cm (μ := (zhs μ 69 ((((cpR (μ 69) (fun k => (μ 69) (24 + k)) (0) (24))))))) (a := 67) (b := 70) (by decide), zhs_cm (μ := (zhs (zhs μ 69 ((((cpR (μ 69) (fun k => (μ 69) (24 + k)) (0) (24)))))) 70 (((cpR (μ 70) (fun k => (μ 70) (40 + k)) (0) (40)))))) (a := 67) (b := 72) (by decide), zhs_hs] <;> (first | rfl | (congr 1; funext k_; simp only [upd, zhs_s]; ((repeat' split) <;> first | rfl | omega | (subst_vars; contradiction) | (simp_all; done))))) ?_
  refine pv_aload_n (i := 0) t_X11_settles_182 rfl rfl ?_
  refine pv_iconst (v := 0) t_X11_settles_183 zi_0 ?_
  refine sv_putI ((zhs (zhs (zhs (zhs μ 69 ((((cpR (μ 69) (fun k => (μ 69) (24 + k)) (0) (24)))))) 70 (((cpR (μ 70) (fun k => (μ 70) (40 + k)) (0) (40))))) 72 ((upd (upd ((seO (μ 71) ((((cpR (μ 69) (fun k => (μ 69) (24 + k)) (0) (24))))) ((cpR (μ 72) (fun _ => 0) (0) (63))) np)) 20 ((-1))) 21 ((-1))))) 67 ((upd (upd ((((((upd (upd (μ 67) 10 ((μ 67) 12)) 11 ((μ 67) 13))))))) 24 0) 26 0)))) t_X11_settles_184 fl_X11_146 zfn_10_26 hh_67 rfl (by rw [zhs_hs] <;> (first | rfl | (congr 1; funext k_; simp only [upd, zhs_s]; ((repeat' split) <;> first | rfl | omega | (subst_vars; contradiction) | (simp_all; done))))) ?_
  refine pv_aload_n (i := 0) t_X11_settles_187 rfl rfl ?_
  refine pv_iconst (v := 0) t_X11_settles_188 zi_0 ?_
  refine sv_putI ((zhs (zhs (zhs (zhs μ 69 ((((cpR (μ 69) (fun k => (μ 69) (24 + k)) (0) (24)))))) 70 (((cpR (μ 70) (fun k => (μ 70) (40 + k)) (0) (40))))) 72 ((upd (upd ((seO (μ 71) ((((cpR (μ 69) (fun k => (μ 69) (24 + k)) (0) (24))))) ((cpR (μ 72) (fun _ => 0) (0) (63))) np)) 20 ((-1))) 21 ((-1))))) 67 ((upd (upd (upd ((((((upd (upd (μ 67) 10 ((μ 67) 12)) 11 ((μ 67) 13))))))) 24 0) 26 0) 28 0)))) t_X11_settles_189 fl_X11_149 zfn_10_28 hh_67 rfl (by rw [zhs_hs] <;> (first | rfl | (congr 1; funext k_; simp only [upd, zhs_s]; ((repeat' split) <;> first | rfl | omega | (subst_vars; contradiction) | (simp_all; done))))) ?_
  refine pv_aload_n (i := 0) t_X11_settles_192 rfl rfl ?_
  refine pv_getR t_X11_settles_193 fl_X11_41 hh_67 rfl ?_
  refine pv_iconst (v := 0) t_X11_settles_196 zi_0 ?_
  refine pv_iconst (v := 0) t_X11_settles_197 zi_0 ?_
  refine sv_zast ((zhs (zhs (zhs (zhs (zhs μ 69 ((((cpR (μ 69) (fun k => (μ 69) (24 + k)) (0) (24)))))) 70 (((cpR (μ 70) (fun k => (μ 70) (40 + k)) (0) (40))))) 72 ((upd (upd ((seO (μ 71) ((((cpR (μ 69) (fun k => (μ 69) (24 + k)) (0) (24))))) ((cpR (μ 72) (fun _ => 0) (0) (63))) np)) 20 ((-1))) 21 ((-1))))) 67 ((upd (upd (upd ((((((upd (upd (μ 67) 10 ((μ 67) 12)) 11 ((μ 67) 13))))))) 24 0) 26 0) 28 0))) 77 ((upd (μ 77) 0 0)))) t_X11_settles_198 hh_77 (zin (by decide)) rfl ?_
  refine pv_aload_n (i := 0) t_X11_settles_199 rfl rfl ?_
  refine pv_getR t_X11_settles_200 fl_X11_41 hh_67 rfl ?_
  refine pv_iconst (v := 1) t_X11_settles_203 zi_1 ?_
  refine pv_iconst (v := 0) t_X11_settles_204 zi_0 ?_
  refine sv_zast ((zhs (zhs (zhs (zhs (zhs μ 69 ((((cpR (μ 69) (fun k => (μ 69) (24 + k)) (0) (24)))))) 70 (((cpR (μ 70) (fun k => (μ 70) (40 + k)) (0) (40))))) 72 ((upd (upd ((seO (μ 71) ((((cpR (μ 69) (fun k => (μ 69) (24 + k)) (0) (24))))) ((cpR (μ 72) (fun _ => 0) (0) (63))) np)) 20 ((-1))) 21 ((-1))))) 67 ((upd (upd (upd ((((((upd (upd (μ 67) 10 ((μ 67) 12)) 11 ((μ 67) 13))))))) 24 0) 26 0) 28 0))) 77 ((upd (upd (μ 77) 0 0) 1 0)))) t_X11_settles_205 hh_77 (zin (by decide)) (by rw [zhs_hs] <;> (first | rfl | (congr 1; funext k_; simp only [upd, zhs_s]; ((repeat' split) <;> first | rfl | omega | (subst_vars; contradiction) | (simp_all; done))))) ?_
  exact pv_vret t_X11_settles_206 rfl (Prod.ext rfl (by have e69 : w_X11_settles_69 (μ 69) = (((cpR (μ 69) (fun k => (μ 69) (24 + k)) (0) (24)))) := (by unfold w_X11_settles_69; rfl); have e70 : w_X11_settles_70 (μ 70) = ((cpR (μ 70) (fun k => (μ 70) (40 + k)) (0) (40))) := (by unfold w_X11_settles_70; rfl); have e72 : w_X11_settles_72 (μ 69) (μ 71) (μ 72) np = (upd (upd ((seO (μ 71) ((((cpR (μ 69) (fun k => (μ 69) (24 + k)) (0) (24))))) ((cpR (μ 72) (fun _ => 0) (0) (63))) np)) 20 ((-1))) 21 ((-1))) := (by unfold w_X11_settles_72; rfl); have e67 : w_X11_settles_67 (μ 67) = (upd (upd (upd ((((((upd (upd (μ 67) 10 ((μ 67) 12)) 11 ((μ 67) 13))))))) 24 0) 26 0) 28 0) := (by unfold w_X11_settles_67; rfl); have e77 : w_X11_settles_77 (μ 77) = (upd (upd (μ 77) 0 0) 1 0) := (by unfold w_X11_settles_77; rfl); show _ = (zhs (zhs (zhs (zhs (zhs μ 69 (w_X11_settles_69 (μ 69))) 70 (w_X11_settles_70 (μ 70))) 72 (w_X11_settles_72 (μ 69) (μ 71) (μ 72) np)) 67 (w_X11_settles_67 (μ 67))) 77 (w_X11_settles_77 (μ 77))); symm; rw [e69, e70, e72, e67, e77]))
theorem md_0 {f67 L : Nat → Int32} {n : Nat} (h2 : f67 2 = nI n) (hn250 : n ≤ 250) : MI n (w_X11_advances_67 (upd (upd (upd (upd (upd (upd f67 0 0) 8 0) 9 (-1)) 3 0) 12 0) 13 0) L n) := by
  refine ⟨PI.adv ⟨h2, ?_⟩ hn250, ?_, ?_⟩
  · show nb 0 (n + 1)
    exact ⟨Nat.succ_pos _, rfl⟩
  · rw [adv_o (by omega), upn (by decide), ups]; exact ⟨by decide, rfl⟩
  · rw [adv_o (by omega), ups]; exact ⟨by decide, rfl⟩
theorem mdS_i {L : Nat → Int32} {n : Nat} (hn250 : n ≤ 250) : ∀ (k : Nat) (s : mdT), MI n s.1 → MI n (mdS L n k s).1 := by
  intro k
  induction k with
  | zero => intro s h; exact h
  | succ k ih =>
    intro s h
    rw [mdS]
    split
    · exact h
    · split
      · exact h
      · exact ih _ (mdN_i h hn250).1
def a_X11_meadow (f67 : Nat → Int32) (f68 : Nat → Int32) (f69 : Nat → Int32) (f70 : Nat → Int32) (f71 : Nat → Int32) (n : Nat) : Int32 := (if (a_X11_isWell ((upd ((mdS f68 n (n + 2) ((w_X11_advances_67 ((upd (upd (upd (upd (upd (upd f67 0 0) 8 0) 9 ((-1))) 3 0) 12 0) 13 0)) f68 n), f69, f70, f71)).1) 2 0))) = 0 then ((-10)) - (((mdS f68 n (n + 2) ((w_X11_advances_67 ((upd (upd (upd (upd (upd (upd f67 0 0) 8 0) 9 ((-1))) 3 0) 12 0) 13 0)) f68 n), f69, f70, f71)).1) 8) else (w_X11_settles_67 ((upd ((mdS f68 n (n + 2) ((w_X11_advances_67 ((upd (upd (upd (upd (upd (upd f67 0 0) 8 0) 9 ((-1))) 3 0) 12 0) 13 0)) f68 n), f69, f70, f71)).1) 2 0))) 10)
def w_X11_meadow_71 (f67 : Nat → Int32) (f68 : Nat → Int32) (f69 : Nat → Int32) (f70 : Nat → Int32) (f71 : Nat → Int32) (n : Nat) : Nat → Int32 := (mdS f68 n (n + 2) ((w_X11_advances_67 ((upd (upd (upd (upd (upd (upd f67 0 0) 8 0) 9 ((-1))) 3 0) 12 0) 13 0)) f68 n), f69, f70, f71)).2.2.2
def w_X11_meadow_69 (f67 : Nat → Int32) (f68 : Nat → Int32) (f69 : Nat → Int32) (f70 : Nat → Int32) (f71 : Nat → Int32) (n : Nat) : Nat → Int32 := (if (a_X11_isWell ((upd ((mdS f68 n (n + 2) ((w_X11_advances_67 ((upd (upd (upd (upd (upd (upd f67 0 0) 8 0) 9 ((-1))) 3 0) 12 0) 13 0)) f68 n), f69, f70, f71)).1) 2 0))) = 0 then (mdS f68 n (n + 2) ((w_X11_advances_67 ((upd (upd (upd (upd (upd (upd f67 0 0) 8 0) 9 ((-1))) 3 0) 12 0) 13 0)) f68 n), f69, f70, f71)).2.1 else w_X11_settles_69 ((mdS f68 n (n + 2) ((w_X11_advances_67 ((upd (upd (upd (upd (upd (upd f67 0 0) 8 0) 9 ((-1))) 3 0) 12 0) 13 0)) f68 n), f69, f70, f71)).2.1))
def w_X11_meadow_70 (f67 : Nat → Int32) (f68 : Nat → Int32) (f69 : Nat → Int32) (f70 : Nat → Int32) (f71 : Nat → Int32) (n : Nat) : Nat → Int32 := (if (a_X11_isWell ((upd ((mdS f68 n (n + 2) ((w_X11_advances_67 ((upd (upd (upd (upd (upd (upd f67 0 0) 8 0) 9 ((-1))) 3 0) 12 0) 13 0)) f68 n), f69, f70, f71)).1) 2 0))) = 0 then (mdS f68 n (n + 2) ((w_X11_advances_67 ((upd (upd (upd (upd (upd (upd f67 0 0) 8 0) 9 ((-1))) 3 0) 12 0) 13 0)) f68 n), f69, f70, f71)).2.2.1 else w_X11_settles_70 ((mdS f68 n (n + 2) ((w_X11_advances_67 ((upd (upd (upd (upd (upd (upd f67 0 0) 8 0) 9 ((-1))) 3 0) 12 0) 13 0)) f68 n), f69, f70, f71)).2.2.1))
def w_X11_meadow_72 (f67 : Nat → Int32) (f68 : Nat → Int32) (f69 : Nat → Int32) (f70 : Nat → Int32) (f71 : Nat → Int32) (f72 : Nat → Int32) (n : Nat) : Nat → Int32 := (if (a_X11_isWell ((upd ((mdS f68 n (n + 2) ((w_X11_advances_67 ((upd (upd (upd (upd (upd (upd f67 0 0) 8 0) 9 ((-1))) 3 0) 12 0) 13 0)) f68 n), f69, f70, f71)).1) 2 0))) = 0 then f72 else w_X11_settles_72 ((mdS f68 n (n + 2) ((w_X11_advances_67 ((upd (upd (upd (upd (upd (upd f67 0 0) 8 0) 9 ((-1))) 3 0) 12 0) 13 0)) f68 n), f69, f70, f71)).2.1) ((mdS f68 n (n + 2) ((w_X11_advances_67 ((upd (upd (upd (upd (upd (upd f67 0 0) 8 0) 9 ((-1))) 3 0) 12 0) 13 0)) f68 n), f69, f70, f71)).2.2.2) f72 (((mdS f68 n (n + 2) ((w_X11_advances_67 ((upd (upd (upd (upd (upd (upd f67 0 0) 8 0) 9 ((-1))) 3 0) 12 0) 13 0)) f68 n), f69, f70, f71))).1 12).toNatClampNeg)
def w_X11_meadow_67 (f67 : Nat → Int32) (f68 : Nat → Int32) (f69 : Nat → Int32) (f70 : Nat → Int32) (f71 : Nat → Int32) (n : Nat) : Nat → Int32 := (if (a_X11_isWell ((upd ((mdS f68 n (n + 2) ((w_X11_advances_67 ((upd (upd (upd (upd (upd (upd f67 0 0) 8 0) 9 ((-1))) 3 0) 12 0) 13 0)) f68 n), f69, f70, f71)).1) 2 0))) = 0 then (upd ((mdS f68 n (n + 2) ((w_X11_advances_67 ((upd (upd (upd (upd (upd (upd f67 0 0) 8 0) 9 ((-1))) 3 0) 12 0) 13 0)) f68 n), f69, f70, f71)).1) 2 0) else w_X11_settles_67 ((upd ((mdS f68 n (n + 2) ((w_X11_advances_67 ((upd (upd (upd (upd (upd (upd f67 0 0) 8 0) 9 ((-1))) 3 0) 12 0) 13 0)) f68 n), f69, f70, f71)).1) 2 0)))
def w_X11_meadow_77 (f67 : Nat → Int32) (f68 : Nat → Int32) (f69 : Nat → Int32) (f70 : Nat → Int32) (f71 : Nat → Int32) (f77 : Nat → Int32) (n : Nat) : Nat → Int32 := (if (a_X11_isWell ((upd ((mdS f68 n (n + 2) ((w_X11_advances_67 ((upd (upd (upd (upd (upd (upd f67 0 0) 8 0) 9 ((-1))) 3 0) 12 0) 13 0)) f68 n), f69, f70, f71)).1) 2 0))) = 0 then f77 else w_X11_settles_77 f77)
theorem e_X11_meadow {l : Launch} {X : zX} {d : Nat} {μ : zH} {n : Nat} (h2 : μ 67 2 = nI n) (hn250 : n ≤ 250) : zRn l X mi_X11_meadow (d + 10) [.inr 67] (zSH, μ) (some (.inl (a_X11_meadow (μ 67) (μ 68) (μ 69) (μ 70) (μ 71) n))) (zSH, (zhs (zhs (zhs (zhs (zhs (zhs μ 71 (w_X11_meadow_71 (μ 67) (μ 68) (μ 69) (μ 70) (μ 71) n)) 69 (w_X11_meadow_69 (μ 67) (μ 68) (μ 69) (μ 70) (μ 71) n)) 70 (w_X11_meadow_70 (μ 67) (μ 68) (μ 69) (μ 70) (μ 71) n)) 72 (w_X11_meadow_72 (μ 67) (μ 68) (μ 69) (μ 70) (μ 71) (μ 72) n)) 67 (w_X11_meadow_67 (μ 67) (μ 68) (μ 69) (μ 70) (μ 71) n)) 77 (w_X11_meadow_77 (μ 67) (μ 68) (μ 69) (μ 70) (μ 71) (μ 77) n))) := by
  refine pv_aload_n (i := 0) t_X11_meadow_0 rfl rfl ?_
  refine pv_iconst (v := 0) t_X11_meadow_1 zi_0 ?_
  refine sv_putI ((zhs μ 67 ((upd (μ 67) 0 0)))) t_X11_meadow_2 fl_X11_69 zfn_10_0 hh_67 rfl rfl ?_
  refine pv_aload_n (i := 0) t_X11_meadow_5 rfl rfl ?_
  refine pv_iconst (v := 0) t_X11_meadow_6 zi_0 ?_
  refine sv_putI ((zhs μ 67 ((upd (upd (μ 67) 0 0) 8 0)))) t_X11_meadow_7 fl_X11_100 zfn_10_8 hh_67 rfl (by rw [zhs_hs] <;> (first | rfl | (congr 1; funext k_; simp only [upd, zhs_s]; ((repeat' split) <;> first | rfl | omega | (subst_vars; contradiction) | (simp_all; done))))) ?_
  refine pv_aload_n (i := 0) t_X11_meadow_10 rfl rfl ?_
  refine pv_iconst (v := -1) t_X11_meadow_11 zi_m1 ?_
  refine sv_putI ((zhs μ 67 ((upd (upd (upd (μ 67) 0 0) 8 0) 9 ((-1)))))) t_X11_meadow_12 fl_X11_13 zfn_10_9 hh_67 rfl (by rw [zhs_hs] <;> (first | rfl | (congr 1; funext k_; simp only [upd, zhs_s]; ((repeat' split) <;> first | rfl | omega | (subst_vars; contradiction) | (simp_all; done))))) ?_
  refine pv_aload_n (i := 0) t_X11_meadow_15 rfl rfl ?_
  refine pv_iconst (v := 0) t_X11_meadow_16 zi_0 ?_
  refine sv_putI ((zhs μ 67 ((upd (upd (upd (upd (μ 67) 0 0) 8 0) 9 ((-1))) 3 0)))) t_X11_meadow_17 fl_X11_81 zfn_10_3 hh_67 rfl (by rw [zhs_hs] <;> (first | rfl | (congr 1; funext k_; simp only [upd, zhs_s]; ((repeat' split) <;> first | rfl | omega | (subst_vars; contradiction) | (simp_all; done))))) ?_
  refine pv_aload_n (i := 0) t_X11_meadow_20 rfl rfl ?_
  refine pv_iconst (v := 0) t_X11_meadow_21 zi_0 ?_
  refine sv_putI ((zhs μ 67 ((upd (upd (upd (upd (upd (μ 67) 0 0) 8 0) 9 ((-1))) 3 0) 12 0)))) t_X11_meadow_22 fl_X11_114 zfn_10_12 hh_67 rfl (by rw [zhs_hs] <;> (first | rfl | (congr 1; funext k_; simp only [upd, zhs_s]; ((repeat' split) <;> first | rfl | omega | (subst_vars; contradiction) | (simp_all; done))))) ?_
  refine pv_aload_n (i := 0) t_X11_meadow_25 rfl rfl ?_
  refine pv_iconst (v := 0) t_X11_meadow_26 zi_0 ?_
  refine sv_putI ((zhs μ 67 ((upd (upd (upd (upd (upd (upd (μ 67) 0 0) 8 0) 9 ((-1))) 3 0) 12 0) 13 0)))) t_X11_meadow_27 fl_X11_121 zfn_10_13 hh_67 rfl (by rw [zhs_hs] <;> (first | rfl | (congr 1; funext k_; simp only [upd, zhs_s]; ((repeat' split) <;> first | rfl | omega | (subst_vars; contradiction) | (simp_all; done))))) ?_
  refine pv_aload_n (i := 0) t_X11_meadow_30 rfl rfl ?_
  refine sv_WV0 ((zhs μ 67 (w_X11_advances_67 ((upd (upd (upd (upd (upd (upd (μ 67) 0 0) 8 0) 9 ((-1))) 3 0) 12 0) 13 0)) (μ 68) n))) t_X11_meadow_31 ml_X11_111 mo_X11_advances hh_67 rfl (Nat.le_of_ble_eq_true rfl) (e_X11_advances ⟨h2, ⟨Nat.succ_pos _, rfl⟩⟩ hn250) (Nat.le_of_ble_eq_true rfl) (by (try simp (disch := decide) only [zhs_d, zhs_s]); rw [zhs_hs] <;> (first | rfl | (congr 1; funext k_; simp only [upd, zhs_s]; ((repeat' split) <;> first | rfl | omega | (subst_vars; contradiction) | (simp_all; done))))) ?_
  refine pv_loc (lv' := [(0, .inr 67)]) ⟨rfl, trivial⟩ ?_
  refine zst (S2 := (zSH, (zhs (zhs (zhs (zhs μ 67 (w_X11_advances_67 ((upd (upd (upd (upd (upd (upd (μ 67) 0 0) 8 0) 9 ((-1))) 3 0) 12 0) 13 0)) (μ 68) n)) 69 (μ 69)) 70 (μ 70)) 71 (μ 71)))) (by symm; rw [zhs_i2 (ν := (zhs (zhs (zhs μ 67 (w_X11_advances_67 ((upd (upd (upd (upd (upd (upd (μ 67) 0 0) 8 0) 9 ((-1))) 3 0) 12 0) 13 0)) (μ 68) n)) 69 (μ 69)) 70 (μ 70))) (k := 71) (g := (μ 71)) rfl, zhs_i2 (ν := (zhs (zhs μ 67 (w_X11_advances_67 ((upd (upd (upd (upd (upd (upd (μ 67) 0 0) 8 0) 9 ((-1))) 3 0) 12 0) 13 0)) (μ 68) n)) 69 (μ 69))) (k := 70) (g := (μ 70)) rfl, zhs_i2 (ν := (zhs μ 67 (w_X11_advances_67 ((upd (upd (upd (upd (upd (upd (μ 67) 0 0) 8 0) 9 ((-1))) 3 0) 12 0) 13 0)) (μ 68) n))) (k := 69) (g := (μ 69)) rfl]) ?_
  refine lp_X11_meadow hn250 (n + 1) _ _ _ _ (md_0 h2 hn250) (Or.inr (by omega)) ?_
  refine pv_aload_n (i := 0) t_X11_meadow_86 rfl rfl ?_
  refine pv_iconst (v := 0) t_X11_meadow_87 zi_0 ?_
  refine sv_putI ((zhs (zhs (zhs (zhs μ 69 ((mdS (μ 68) n (n + 2) ((w_X11_advances_67 ((upd (upd (upd (upd (upd (upd (μ 67) 0 0) 8 0) 9 ((-1))) 3 0) 12 0) 13 0)) (μ 68) n), (μ 69), (μ 70), (μ 71))).2.1)) 70 ((mdS (μ 68) n (n + 2) ((w_X11_advances_67 ((upd (upd (upd (upd (upd (upd (μ 67) 0 0) 8 0) 9 ((-1))) 3 0) 12 0) 13 0)) (μ 68) n), (μ 69), (μ 70), (μ 71))).2.2.1)) 71 ((mdS (μ 68) n (n + 2) ((w_X11_advances_67 ((upd (upd (upd (upd (upd (upd (μ 67) 0 0) 8 0) 9 ((-1))) 3 0) 12 0) 13 0)) (μ 68) n), (μ 69), (μ 70), (μ 71))).2.2.2)) 67 ((upd ((mdS (μ 68) n (n + 2) ((w_X11_advances_67 ((upd (upd (upd (upd (upd (upd (μ 67) 0 0) 8 0) 9 ((-1))) 3 0) 12 0) 13 0)) (μ 68) n), (μ 69), (μ 70), (μ 71))).1) 2 0)))) t_X11_meadow_88 fl_X11_77 zfn_10_2 hh_67 rfl (by rw [zhs_cm (μ := μ) (a := 67) (b := 69) (by decide), zhs_cm (μ := (zhs μ 69 ((mdS (μ 68) n (n + 2) ((w_X11_advances_67 ((upd (upd (upd (upd (upd (upd (μ 67) 0 0) 8 0) 9 ((-1))) 3 0) 12 0) 13 0)) (μ 68) n), (μ 69), (μ 70), (μ 71))).2.1))) (a := 67) (b := 70) (by decide), zhs_cm (μ := (zhs (zhs μ 69 ((mdS (μ 68) n (n + 2) ((w_X11_advances_67 ((upd (upd (upd (upd (upd (upd (μ 67) 0 0) 8 0) 9 ((-1))) 3 0) 12 0) 13 0)) (μ 68) n), (μ 69), (μ 70), (μ 71))).2.1)) 70 ((mdS (μ 68) n (n + 2) ((w_X11_advances_67 ((upd (upd (upd (upd (upd (upd (μ 67) 0 0) 8 0) 9 ((-1))) 3 0) 12 0) 13 0)) (μ 68) n), (μ 69), (μ 70), (μ 71))).2.2.1))) (a := 67) (b := 71) (by decide), zhs_hs] <;> (first | rfl | (congr 1; funext k_; simp only [upd, zhs_s]; ((repeat' split) <;> first | rfl | omega | (subst_vars; contradiction) | (simp_all; done))))) ?_
  refine pv_aload_n (i := 0) t_X11_meadow_91 rfl rfl ?_
  refine sv_V0 (a_X11_isWell ((upd ((mdS (μ 68) n (n + 2) ((w_X11_advances_67 ((upd (upd (upd (upd (upd (upd (μ 67) 0 0) 8 0) 9 ((-1))) 3 0) 12 0) 13 0)) (μ 68) n), (μ 69), (μ 70), (μ 71))).1) 2 0))) ((zhs (zhs (zhs (zhs μ 69 ((mdS (μ 68) n (n + 2) ((w_X11_advances_67 ((upd (upd (upd (upd (upd (upd (μ 67) 0 0) 8 0) 9 ((-1))) 3 0) 12 0) 13 0)) (μ 68) n), (μ 69), (μ 70), (μ 71))).2.1)) 70 ((mdS (μ 68) n (n + 2) ((w_X11_advances_67 ((upd (upd (upd (upd (upd (upd (μ 67) 0 0) 8 0) 9 ((-1))) 3 0) 12 0) 13 0)) (μ 68) n), (μ 69), (μ 70), (μ 71))).2.2.1)) 71 ((mdS (μ 68) n (n + 2) ((w_X11_advances_67 ((upd (upd (upd (upd (upd (upd (μ 67) 0 0) 8 0) 9 ((-1))) 3 0) 12 0) 13 0)) (μ 68) n), (μ 69), (μ 70), (μ 71))).2.2.2)) 67 ((upd ((mdS (μ 68) n (n + 2) ((w_X11_advances_67 ((upd (upd (upd (upd (upd (upd (μ 67) 0 0) 8 0) 9 ((-1))) 3 0) 12 0) 13 0)) (μ 68) n), (μ 69), (μ 70), (μ 71))).1) 2 0)))) t_X11_meadow_92 ml_X11_103 mo_X11_isWell hh_67 rfl (Nat.le_of_ble_eq_true rfl) (e_X11_isWell) (Nat.le_of_ble_eq_true rfl) rfl rfl ?_
  refine pv_if_ne t_X11_meadow_95 (fun c95 => ?_) (fun c95 => ?_)
  · skip
    refine pv_aload_n (i := 0) t_X11_meadow_106 rfl rfl ?_
    have hMz := mdS_i (L := (μ 68)) hn250 (n + 2) ((w_X11_advances_67 ((upd (upd (upd (upd (upd (upd (μ 67) 0 0) 8 0) 9 ((-1))) 3 0) 12 0) 13 0)) (μ 68) n), (μ 69), (μ 70), (μ 71)) (md_0 h2 hn250)
    have hnpS : (((upd ((mdS (μ 68) n (n + 2) ((w_X11_advances_67 ((upd (upd (upd (upd (upd (upd (μ 67) 0 0) 8 0) 9 ((-1))) 3 0) 12 0) 13 0)) (μ 68) n), (μ 69), (μ 70), (μ 71))).1) 2 0))) 12 = nI (((mdS (μ 68) n (n + 2) ((w_X11_advances_67 ((upd (upd (upd (upd (upd (upd (μ 67) 0 0) 8 0) 9 ((-1))) 3 0) 12 0) 13 0)) (μ 68) n), (μ 69), (μ 70), (μ 71)))).1 12).toNatClampNeg := hMz.2.1.2
    have hp4S : (((mdS (μ 68) n (n + 2) ((w_X11_advances_67 ((upd (upd (upd (upd (upd (upd (μ 67) 0 0) 8 0) 9 ((-1))) 3 0) 12 0) 13 0)) (μ 68) n), (μ 69), (μ 70), (μ 71)))).1 12).toNatClampNeg ≤ 4 := Nat.le_of_lt_succ hMz.2.1.1
    refine sv_WV0 ((zhs (zhs (zhs (zhs (zhs (zhs μ 71 ((mdS (μ 68) n (n + 2) ((w_X11_advances_67 ((upd (upd (upd (upd (upd (upd (μ 67) 0 0) 8 0) 9 ((-1))) 3 0) 12 0) 13 0)) (μ 68) n), (μ 69), (μ 70), (μ 71))).2.2.2)) 69 (w_X11_settles_69 ((mdS (μ 68) n (n + 2) ((w_X11_advances_67 ((upd (upd (upd (upd (upd (upd (μ 67) 0 0) 8 0) 9 ((-1))) 3 0) 12 0) 13 0)) (μ 68) n), (μ 69), (μ 70), (μ 71))).2.1))) 70 (w_X11_settles_70 ((mdS (μ 68) n (n + 2) ((w_X11_advances_67 ((upd (upd (upd (upd (upd (upd (μ 67) 0 0) 8 0) 9 ((-1))) 3 0) 12 0) 13 0)) (μ 68) n), (μ 69), (μ 70), (μ 71))).2.2.1))) 72 (w_X11_settles_72 ((mdS (μ 68) n (n + 2) ((w_X11_advances_67 ((upd (upd (upd (upd (upd (upd (μ 67) 0 0) 8 0) 9 ((-1))) 3 0) 12 0) 13 0)) (μ 68) n), (μ 69), (μ 70), (μ 71))).2.1) ((mdS (μ 68) n (n + 2) ((w_X11_advances_67 ((upd (upd (upd (upd (upd (upd (μ 67) 0 0) 8 0) 9 ((-1))) 3 0) 12 0) 13 0)) (μ 68) n), (μ 69), (μ 70), (μ 71))).2.2.2) (μ 72) (((mdS (μ 68) n (n + 2) ((w_X11_advances_67 ((upd (upd (upd (upd (upd (upd (μ 67) 0 0) 8 0) 9 ((-1))) 3 0) 12 0) 13 0)) (μ 68) n), (μ 69), (μ 70), (μ 71)))).1 12).toNatClampNeg)) 67 (w_X11_settles_67 ((upd ((mdS (μ 68) n (n + 2) ((w_X11_advances_67 ((upd (upd (upd (upd (upd (upd (μ 67) 0 0) 8 0) 9 ((-1))) 3 0) 12 0) 13 0)) (μ 68) n), (μ 69), (μ 70), (μ 71))).1) 2 0)))) 77 (w_X11_settles_77 (μ 77)))) t_X11_meadow_107 ml_X11_134 mo_X11_settles hh_67 rfl (Nat.le_of_ble_eq_true rfl) (e_X11_settles hnpS hp4S) (Nat.le_of_ble_eq_true rfl) (by (try simp (disch := decide) only [zhs_d, zhs_s]); rw [zhs_cm (μ := μ) (a := 69) (b := 70) (by decide), zhs_cm (μ := (zhs μ 70 ((mdS (μ 68) n (n + 2) ((w_X11_advances_67 ((upd (upd (upd (upd (upd (upd (μ 67) 0 0) 8 0) 9 ((-1))) 3 0) 12 0) 13 0)) (μ 68) n), (μ 69), (μ 70), (μ 71))).2.2.1))) (a := 69) (b := 71) (by decide), zhs_cm (μ := (zhs (zhs μ 70 ((mdS (μ 68) n (n + 2) ((w_X11_advances_67 ((upd (upd (upd (upd (upd (upd (μ 67) 0 0) 8 0) 9 ((-1))) 3 0) 12 0) 13 0)) (μ 68) n), (μ 69), (μ 70), (μ 71))).2.2.1)) 71 ((mdS (μ 68) n (n + 2) ((w_X11_advances_67 ((upd (upd (upd (upd (upd (upd (μ 67) 0 0) 8 0) 9 ((-1))) 3 0) 12 0) 13 0)) (μ 68) n), (μ 69), (μ 70), (μ 71))).2.2.2))) (a := 69) (b := 67) (by decide), zhs_hs, zhs_cm (μ := μ) (a := 70) (b := 71) (by decide), zhs_cm (μ := (zhs μ 71 ((mdS (μ 68) n (n + 2) ((w_X11_advances_67 ((upd (upd (upd (upd (upd (upd (μ 67) 0 0) 8 0) 9 ((-1))) 3 0) 12 0) 13 0)) (μ 68) n), (μ 69), (μ 70), (μ 71))).2.2.2))) (a := 70) (b := 67) (by decide), zhs_cm (μ := (zhs (zhs μ 71 ((mdS (μ 68) n (n + 2) ((w_X11_advances_67 ((upd (upd (upd (upd (upd (upd (μ 67) 0 0) 8 0) 9 ((-1))) 3 0) 12 0) 13 0)) (μ 68) n), (μ 69), (μ 70), (μ 71))).2.2.2)) 67 ((upd ((mdS (μ 68) n (n + 2) ((w_X11_advances_67 ((upd (upd (upd (upd (upd (upd (μ 67) 0 0) 8 0) 9 ((-1))) 3 0) 12 0) 13 0)) (μ 68) n), (μ 69), (μ 70), (μ 71))).1) 2 0)))) (a := 70) (b := 69) (by decide), zhs_hs, zhs_cm (μ := (zhs μ 71 ((mdS (μ 68) n (n + 2) ((w_X11_advances_67 ((upd (upd (upd (upd (upd (upd (μ 67) 0 0) 8 0) 9 ((-1))) 3 0) 12 0) 13 0)) (μ 68) n), (μ 69), (μ 70), (μ 71))).2.2.2))) (a := 67) (b := 69) (by decide), zhs_cm (μ := (zhs (zhs μ 71 ((mdS (μ 68) n (n + 2) ((w_X11_advances_67 ((upd (upd (upd (upd (upd (upd (μ 67) 0 0) 8 0) 9 ((-1))) 3 0) 12 0) 13 0)) (μ 68) n), (μ 69), (μ 70), (μ 71))).2.2.2)) 69 (w_X11_settles_69 ((mdS (μ 68) n (n + 2) ((w_X11_advances_67 ((upd (upd (upd (upd (upd (upd (μ 67) 0 0) 8 0) 9 ((-1))) 3 0) 12 0) 13 0)) (μ 68) n), (μ 69), (μ 70), (μ 71))).2.1)))) (a := 67) (b := 70) (by decide), zhs_cm (μ := (zhs (zhs (zhs μ 71 ((mdS (μ 68) n (n + 2) ((w_X11_advances_67 ((upd (upd (upd (upd (upd (upd (μ 67) 0 0) 8 0) 9 ((-1))) 3 0) 12 0) 13 0)) (μ 68) n), (μ 69), (μ 70), (μ 71))).2.2.2)) 69 (w_X11_settles_69 ((mdS (μ 68) n (n + 2) ((w_X11_advances_67 ((upd (upd (upd (upd (upd (upd (μ 67) 0 0) 8 0) 9 ((-1))) 3 0) 12 0) 13 0)) (μ 68) n), (μ 69), (μ 70), (μ 71))).2.1))) 70 (w_X11_settles_70 ((mdS (μ 68) n (n + 2) ((w_X11_advances_67 ((upd (upd (upd (upd (upd (upd (μ 67) 0 0) 8 0) 9 ((-1))) 3 0) 12 0) 13 0)) (μ 68) n), (μ 69), (μ 70), (μ 71))).2.2.1)))) (a := 67) (b := 72) (by decide), zhs_hs] <;> (first | rfl | (congr 1; funext k_; simp only [upd, zhs_s]; ((repeat' split) <;> first | rfl | omega | (subst_vars; contradiction) | (simp_all; done))))) ?_
    refine pv_aload_n (i := 0) t_X11_meadow_110 rfl rfl ?_
    refine sv_getI ((w_X11_settles_67 ((upd ((mdS (μ 68) n (n + 2) ((w_X11_advances_67 ((upd (upd (upd (upd (upd (upd (μ 67) 0 0) 8 0) 9 ((-1))) 3 0) 12 0) 13 0)) (μ 68) n), (μ 69), (μ 70), (μ 71))).1) 2 0))) 10) t_X11_meadow_111 fl_X11_137 hh_67 rfl (by simp (disch := decide) only [zhs_d, zhs_s]) ?_
    exact pv_ireti t_X11_meadow_114 rfl (by unfold a_X11_meadow; rw [if_neg c95]) (Prod.ext rfl (by have e71 : w_X11_meadow_71 (μ 67) (μ 68) (μ 69) (μ 70) (μ 71) n = (mdS (μ 68) n (n + 2) ((w_X11_advances_67 ((upd (upd (upd (upd (upd (upd (μ 67) 0 0) 8 0) 9 ((-1))) 3 0) 12 0) 13 0)) (μ 68) n), (μ 69), (μ 70), (μ 71))).2.2.2 := (by unfold w_X11_meadow_71; rfl); have e69 : w_X11_meadow_69 (μ 67) (μ 68) (μ 69) (μ 70) (μ 71) n = w_X11_settles_69 ((mdS (μ 68) n (n + 2) ((w_X11_advances_67 ((upd (upd (upd (upd (upd (upd (μ 67) 0 0) 8 0) 9 ((-1))) 3 0) 12 0) 13 0)) (μ 68) n), (μ 69), (μ 70), (μ 71))).2.1) := (by unfold w_X11_meadow_69; rw [if_neg c95]); have e70 : w_X11_meadow_70 (μ 67) (μ 68) (μ 69) (μ 70) (μ 71) n = w_X11_settles_70 ((mdS (μ 68) n (n + 2) ((w_X11_advances_67 ((upd (upd (upd (upd (upd (upd (μ 67) 0 0) 8 0) 9 ((-1))) 3 0) 12 0) 13 0)) (μ 68) n), (μ 69), (μ 70), (μ 71))).2.2.1) := (by unfold w_X11_meadow_70; rw [if_neg c95]); have e72 : w_X11_meadow_72 (μ 67) (μ 68) (μ 69) (μ 70) (μ 71) (μ 72) n = w_X11_settles_72 ((mdS (μ 68) n (n + 2) ((w_X11_advances_67 ((upd (upd (upd (upd (upd (upd (μ 67) 0 0) 8 0) 9 ((-1))) 3 0) 12 0) 13 0)) (μ 68) n), (μ 69), (μ 70), (μ 71))).2.1) ((mdS (μ 68) n (n + 2) ((w_X11_advances_67 ((upd (upd (upd (upd (upd (upd (μ 67) 0 0) 8 0) 9 ((-1))) 3 0) 12 0) 13 0)) (μ 68) n), (μ 69), (μ 70), (μ 71))).2.2.2) (μ 72) (((mdS (μ 68) n (n + 2) ((w_X11_advances_67 ((upd (upd (upd (upd (upd (upd (μ 67) 0 0) 8 0) 9 ((-1))) 3 0) 12 0) 13 0)) (μ 68) n), (μ 69), (μ 70), (μ 71)))).1 12).toNatClampNeg := (by unfold w_X11_meadow_72; rw [if_neg c95]); have e67 : w_X11_meadow_67 (μ 67) (μ 68) (μ 69) (μ 70) (μ 71) n = w_X11_settles_67 ((upd ((mdS (μ 68) n (n + 2) ((w_X11_advances_67 ((upd (upd (upd (upd (upd (upd (μ 67) 0 0) 8 0) 9 ((-1))) 3 0) 12 0) 13 0)) (μ 68) n), (μ 69), (μ 70), (μ 71))).1) 2 0)) := (by unfold w_X11_meadow_67; rw [if_neg c95]); have e77 : w_X11_meadow_77 (μ 67) (μ 68) (μ 69) (μ 70) (μ 71) (μ 77) n = w_X11_settles_77 (μ 77) := (by unfold w_X11_meadow_77; rw [if_neg c95]); show _ = (zhs (zhs (zhs (zhs (zhs (zhs μ 71 (w_X11_meadow_71 (μ 67) (μ 68) (μ 69) (μ 70) (μ 71) n)) 69 (w_X11_meadow_69 (μ 67) (μ 68) (μ 69) (μ 70) (μ 71) n)) 70 (w_X11_meadow_70 (μ 67) (μ 68) (μ 69) (μ 70) (μ 71) n)) 72 (w_X11_meadow_72 (μ 67) (μ 68) (μ 69) (μ 70) (μ 71) (μ 72) n)) 67 (w_X11_meadow_67 (μ 67) (μ 68) (μ 69) (μ 70) (μ 71) n)) 77 (w_X11_meadow_77 (μ 67) (μ 68) (μ 69) (μ 70) (μ 71) (μ 77) n)); symm; rw [e71, e69, e70, e72, e67, e77]))
  · skip
    refine pv_bipush (v := -10) t_X11_meadow_98 zb_m10 ?_
    refine pv_aload_n (i := 0) t_X11_meadow_100 rfl rfl ?_
    refine sv_getI (((mdS (μ 68) n (n + 2) ((w_X11_advances_67 ((upd (upd (upd (upd (upd (upd (μ 67) 0 0) 8 0) 9 ((-1))) 3 0) 12 0) 13 0)) (μ 68) n), (μ 69), (μ 70), (μ 71))).1) 8) t_X11_meadow_101 fl_X11_100 hh_67 rfl rfl ?_
    refine pv_isub t_X11_meadow_104 ?_
    exact pv_ireti t_X11_meadow_105 rfl (by unfold a_X11_meadow; rw [if_pos c95]) (Prod.ext rfl (by have e71 : w_X11_meadow_71 (μ 67) (μ 68) (μ 69) (μ 70) (μ 71) n = (mdS (μ 68) n (n + 2) ((w_X11_advances_67 ((upd (upd (upd (upd (upd (upd (μ 67) 0 0) 8 0) 9 ((-1))) 3 0) 12 0) 13 0)) (μ 68) n), (μ 69), (μ 70), (μ 71))).2.2.2 := (by unfold w_X11_meadow_71; rfl); have e69 : w_X11_meadow_69 (μ 67) (μ 68) (μ 69) (μ 70) (μ 71) n = (mdS (μ 68) n (n + 2) ((w_X11_advances_67 ((upd (upd (upd (upd (upd (upd (μ 67) 0 0) 8 0) 9 ((-1))) 3 0) 12 0) 13 0)) (μ 68) n), (μ 69), (μ 70), (μ 71))).2.1 := (by unfold w_X11_meadow_69; rw [if_pos c95]); have e70 : w_X11_meadow_70 (μ 67) (μ 68) (μ 69) (μ 70) (μ 71) n = (mdS (μ 68) n (n + 2) ((w_X11_advances_67 ((upd (upd (upd (upd (upd (upd (μ 67) 0 0) 8 0) 9 ((-1))) 3 0) 12 0) 13 0)) (μ 68) n), (μ 69), (μ 70), (μ 71))).2.2.1 := (by unfold w_X11_meadow_70; rw [if_pos c95]); have e72 : w_X11_meadow_72 (μ 67) (μ 68) (μ 69) (μ 70) (μ 71) (μ 72) n = (μ 72) := (by unfold w_X11_meadow_72; rw [if_pos c95]); have e67 : w_X11_meadow_67 (μ 67) (μ 68) (μ 69) (μ 70) (μ 71) n = (upd ((mdS (μ 68) n (n + 2) ((w_X11_advances_67 ((upd (upd (upd (upd (upd (upd (μ 67) 0 0) 8 0) 9 ((-1))) 3 0) 12 0) 13 0)) (μ 68) n), (μ 69), (μ 70), (μ 71))).1) 2 0) := (by unfold w_X11_meadow_67; rw [if_pos c95]); have e77 : w_X11_meadow_77 (μ 67) (μ 68) (μ 69) (μ 70) (μ 71) (μ 77) n = (μ 77) := (by unfold w_X11_meadow_77; rw [if_pos c95]); show _ = (zhs (zhs (zhs (zhs (zhs (zhs μ 71 (w_X11_meadow_71 (μ 67) (μ 68) (μ 69) (μ 70) (μ 71) n)) 69 (w_X11_meadow_69 (μ 67) (μ 68) (μ 69) (μ 70) (μ 71) n)) 70 (w_X11_meadow_70 (μ 67) (μ 68) (μ 69) (μ 70) (μ 71) n)) 72 (w_X11_meadow_72 (μ 67) (μ 68) (μ 69) (μ 70) (μ 71) (μ 72) n)) 67 (w_X11_meadow_67 (μ 67) (μ 68) (μ 69) (μ 70) (μ 71) n)) 77 (w_X11_meadow_77 (μ 67) (μ 68) (μ 69) (μ 70) (μ 71) (μ 77) n)); symm; rw [e71, e69, e70, e72, e67, e77]; rw [zhs_i2 (ν := (zhs (zhs (zhs μ 71 ((mdS (μ 68) n (n + 2) ((w_X11_advances_67 ((upd (upd (upd (upd (upd (upd (μ 67) 0 0) 8 0) 9 ((-1))) 3 0) 12 0) 13 0)) (μ 68) n), (μ 69), (μ 70), (μ 71))).2.2.2)) 69 ((mdS (μ 68) n (n + 2) ((w_X11_advances_67 ((upd (upd (upd (upd (upd (upd (μ 67) 0 0) 8 0) 9 ((-1))) 3 0) 12 0) 13 0)) (μ 68) n), (μ 69), (μ 70), (μ 71))).2.1)) 70 ((mdS (μ 68) n (n + 2) ((w_X11_advances_67 ((upd (upd (upd (upd (upd (upd (μ 67) 0 0) 8 0) 9 ((-1))) 3 0) 12 0) 13 0)) (μ 68) n), (μ 69), (μ 70), (μ 71))).2.2.1))) (k := 72) (g := (μ 72)) rfl, zhs_i2 (ν := (zhs (zhs (zhs (zhs μ 71 ((mdS (μ 68) n (n + 2) ((w_X11_advances_67 ((upd (upd (upd (upd (upd (upd (μ 67) 0 0) 8 0) 9 ((-1))) 3 0) 12 0) 13 0)) (μ 68) n), (μ 69), (μ 70), (μ 71))).2.2.2)) 69 ((mdS (μ 68) n (n + 2) ((w_X11_advances_67 ((upd (upd (upd (upd (upd (upd (μ 67) 0 0) 8 0) 9 ((-1))) 3 0) 12 0) 13 0)) (μ 68) n), (μ 69), (μ 70), (μ 71))).2.1)) 70 ((mdS (μ 68) n (n + 2) ((w_X11_advances_67 ((upd (upd (upd (upd (upd (upd (μ 67) 0 0) 8 0) 9 ((-1))) 3 0) 12 0) 13 0)) (μ 68) n), (μ 69), (μ 70), (μ 71))).2.2.1)) 67 ((upd ((mdS (μ 68) n (n + 2) ((w_X11_advances_67 ((upd (upd (upd (upd (upd (upd (μ 67) 0 0) 8 0) 9 ((-1))) 3 0) 12 0) 13 0)) (μ 68) n), (μ 69), (μ 70), (μ 71))).1) 2 0)))) (k := 77) (g := (μ 77)) rfl, zhs_cm (μ := μ) (a := 71) (b := 69) (by decide), zhs_cm (μ := (zhs μ 69 ((mdS (μ 68) n (n + 2) ((w_X11_advances_67 ((upd (upd (upd (upd (upd (upd (μ 67) 0 0) 8 0) 9 ((-1))) 3 0) 12 0) 13 0)) (μ 68) n), (μ 69), (μ 70), (μ 71))).2.1))) (a := 71) (b := 70) (by decide)]))
