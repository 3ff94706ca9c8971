theorem lf_n {f72 : Nat → Int32} {a b gg : Nat} (hg : gg ≤ 2) (hm : nb (f72 (45 + prN a b)) 2000) : a_X11_leftOf f72 a b (nI gg) = nI (gg - (f72 (45 + prN a b)).toNatClampNeg) := by
  unfold a_X11_leftOf
  have h1 := hm.1
  have h2 := hm.2
  generalize f72 (45 + prN a b) = x at h1 h2
  by_cases c : x ≤ nI gg
  · rw [if_pos c]
    rw [h2] at c
    have := (nI_leI (by omega) (by omega)).mp c
    have h3 : nI gg - x = nI gg - nI x.toNatClampNeg := by rw [← h2]
    rw [h3, nI_s _ _ this]
  · rw [if_neg c]
    rw [h2] at c
    have h4 : ¬ x.toNatClampNeg ≤ gg := fun q => c ((nI_leI (by omega) (by omega)).mpr q)
    rw [show gg - x.toNatClampNeg = 0 by omega]
    rfl
def coK_F (f72 : Nat → Int32) (a0 : Nat) (b0 : Nat) (pp : Nat) (i : Nat) (P : Nat → Int32) : (Nat → Int32) := ((upd (upd P a0 ((P a0) + (f72 (((51 + (2 * pp)) + i))))) b0 ((P b0) + (2 - (f72 (((51 + (2 * pp)) + i)))))))
def coK (f72 : Nat → Int32) (a0 : Nat) (b0 : Nat) (pp : Nat) (z0 : (Nat → Int32)) : Nat → (Nat → Int32) := zfold (fun i s => coK_F f72 a0 b0 pp i s) z0
theorem lp_coK {l : Launch} {X : zX} {d : Nat} {μ : zH} {gg : Nat} {a0 : Nat} {b0 : Nat} {pp : Nat} {z0 : (Nat → Int32)} (hg : gg ≤ 2) (hmet : ∀ p, p < 6 → nb (μ 72 (45 + p)) 2000) (ha : a0 < 4) (hb : b0 < 4) (hab : a0 ≠ b0) (hpp : pp < 6) {r : Option zV} {S' : zS} (hk : zEv l X mi_X11_counted (d + 2) 129 [(0, .inr 67), (1, .inl ((nI gg))), (2, .inl ((nI a0))), (3, .inl ((nI b0))), (4, .inl ((nI pp))), (5, .inl (nI (min gg ((μ 72) (45 + pp)).toNatClampNeg)))] [] (zSH, (zhs μ 84 ((coK (μ 72) a0 b0 pp z0 (min gg ((μ 72) (45 + pp)).toNatClampNeg))))) 0 0 r S') : ∀ j i : Nat, i + j = (min gg ((μ 72) (45 + pp)).toNatClampNeg) + 1 → i ≤ (min gg ((μ 72) (45 + pp)).toNatClampNeg) → ∀ (y : Int32) (P : Nat → Int32), y = nI i → P = (coK (μ 72) a0 b0 pp z0 i) → zEv l X mi_X11_counted (d + 2) 52 [(0, .inr 67), (1, .inl ((nI gg))), (2, .inl ((nI a0))), (3, .inl ((nI b0))), (4, .inl ((nI pp))), (5, .inl y)] [] (zSH, (zhs μ 84 P)) 0 0 r S' := by
  intro j
  induction j with
  | zero => intros; omega
  | succ j ih =>
    intro i hij hle y P hy hs
    subst hy
    have hm9 := (hmet pp hpp).1
    refine pv_iload t_X11_counted_52 rfl ?_
    refine pv_iload_n (i := 1) t_X11_counted_54 rfl rfl ?_
    refine pv_icmp_ge t_X11_counted_55 (fun c55 => ?_) (fun c55 => ?_)
    · skip
      have hie : i = (min gg ((μ 72) (45 + pp)).toNatClampNeg) := by have := (nI_leI (a := gg) (by omega) (by omega)).mp c55; omega
      subst hie
      rw [← hs] at hk
      exact hk
    · skip
      have hi1 : i < gg := Nat.lt_of_not_le (fun q => c55 (nI_le (a := gg) q (by omega)))
      refine pv_iload t_X11_counted_58 rfl ?_
      refine pv_aload_n (i := 0) t_X11_counted_60 rfl rfl ?_
      refine pv_getR t_X11_counted_61 fl_X11_26 hh_67 rfl ?_
      refine pv_bipush (v := 45) t_X11_counted_64 zb_45 ?_
      refine pv_iload t_X11_counted_66 rfl ?_
      refine pv_iadd t_X11_counted_68 ?_
      refine sv_iald ((μ 72) ((45 + pp))) t_X11_counted_69 (Or.inl hh_72) (ixi (k := (45 + pp)) (nIa rfl rfl) (by omega) (by decide)) ((ixe (k := (45 + pp)) (nIa rfl rfl) (by omega)).trans (by first | rfl | (simp only [zhs_s, pk_us]; done) | (simp [zhs, upd]; done))) ?_
      refine pv_icmp_ge t_X11_counted_70 (fun c70 => ?_) (fun c70 => ?_)
      · skip
        have hie : i = (min gg ((μ 72) (45 + pp)).toNatClampNeg) := by have h9 := (hmet pp (by omega)).2; rw [h9] at c70; have := (nI_leI (by omega) (by omega)).mp c70; omega
        subst hie
        rw [← hs] at hk
        exact hk
      · skip
        have hi2 : i < ((μ 72) (45 + pp)).toNatClampNeg := Nat.lt_of_not_le (fun q => c70 (by rw [(hmet pp (by omega)).2]; exact nI_le q (by omega)))
        have hin : i < (min gg ((μ 72) (45 + pp)).toNatClampNeg) := by omega
        refine pv_aload_n (i := 0) t_X11_counted_73 rfl rfl ?_
        refine pv_getR t_X11_counted_74 fl_X11_63 hh_67 rfl ?_
        refine pv_iload_n (i := 2) t_X11_counted_77 rfl rfl ?_
        refine pv_dup2 t_X11_counted_78 ?_
        refine sv_iald (P a0) t_X11_counted_79 (Or.inl hh_84) (ixi (k := a0) rfl (by omega) (by decide)) ((ixe (k := a0) rfl (by omega)).trans (by first | rfl | (simp only [zhs_s, pk_us]; done) | (simp [zhs, upd]; done))) ?_
        refine pv_aload_n (i := 0) t_X11_counted_80 rfl rfl ?_
        refine pv_getR t_X11_counted_81 fl_X11_26 hh_67 rfl ?_
        refine pv_bipush (v := 51) t_X11_counted_84 zb_51 ?_
        refine pv_iconst (v := 2) t_X11_counted_86 zi_2 ?_
        refine pv_iload t_X11_counted_87 rfl ?_
        refine pv_imul t_X11_counted_89 ?_
        refine pv_iadd t_X11_counted_90 ?_
        refine pv_iload t_X11_counted_91 rfl ?_
        refine pv_iadd t_X11_counted_93 ?_
        refine sv_iald ((μ 72) (((51 + (2 * pp)) + i))) t_X11_counted_94 (Or.inl hh_72) (ixi (k := ((51 + (2 * pp)) + i)) (nIa (nIa rfl (nIm rfl rfl)) rfl) (by omega) (by decide)) ((ixe (k := ((51 + (2 * pp)) + i)) (nIa (nIa rfl (nIm rfl rfl)) rfl) (by omega)).trans (by first | rfl | (simp only [zhs_s, pk_us]; done) | (simp [zhs, upd]; done))) ?_
        refine pv_iadd t_X11_counted_95 ?_
        refine sv_iast ((zhs μ 84 ((upd P a0 ((P a0) + ((μ 72) (((51 + (2 * pp)) + i)))))))) t_X11_counted_96 hh_84 (ixi (k := a0) rfl (by omega) (by decide)) (by rw [ixc (x := (nI a0)) (k := a0) rfl (by omega), zhs_hs] <;> (first | rfl | (congr 1; funext k_; simp only [upd]; ((repeat' split) <;> first | rfl | (simp_all; done))))) ?_
        refine pv_aload_n (i := 0) t_X11_counted_97 rfl rfl ?_
        refine pv_getR t_X11_counted_98 fl_X11_63 hh_67 rfl ?_
        refine pv_iload_n (i := 3) t_X11_counted_101 rfl rfl ?_
        refine pv_dup2 t_X11_counted_102 ?_
        refine sv_iald (P b0) t_X11_counted_103 (Or.inl hh_84) (ixi (k := b0) rfl (by omega) (by decide)) ((ixe (k := b0) rfl (by omega)).trans (by (try simp (disch := decide) only [zhs_d, zhs_s]); repeat (first | rw [upn (by omega)] | rw [ups] | rfl))) ?_
        refine pv_iconst (v := 2) t_X11_counted_104 zi_2 ?_
        refine pv_aload_n (i := 0) t_X11_counted_105 rfl rfl ?_
        refine pv_getR t_X11_counted_106 fl_X11_26 hh_67 rfl ?_
        refine pv_bipush (v := 51) t_X11_counted_109 zb_51 ?_
        refine pv_iconst (v := 2) t_X11_counted_111 zi_2 ?_
        refine pv_iload t_X11_counted_112 rfl ?_
        refine pv_imul t_X11_counted_114 ?_
        refine pv_iadd t_X11_counted_115 ?_
        refine pv_iload t_X11_counted_116 rfl ?_
        refine pv_iadd t_X11_counted_118 ?_
        refine sv_iald ((μ 72) (((51 + (2 * pp)) + i))) t_X11_counted_119 (Or.inl hh_72) (ixi (k := ((51 + (2 * pp)) + i)) (nIa (nIa rfl (nIm rfl rfl)) rfl) (by omega) (by decide)) ((ixe (k := ((51 + (2 * pp)) + i)) (nIa (nIa rfl (nIm rfl rfl)) rfl) (by omega)).trans (by first | rfl | (simp only [zhs_s, pk_us]; done) | (simp [zhs, upd]; done))) ?_
        refine pv_isub t_X11_counted_120 ?_
        refine pv_iadd t_X11_counted_121 ?_
        refine sv_iast ((zhs μ 84 ((upd (upd P a0 ((P a0) + ((μ 72) (((51 + (2 * pp)) + i))))) b0 ((P b0) + (2 - ((μ 72) (((51 + (2 * pp)) + i))))))))) t_X11_counted_122 hh_84 (ixi (k := b0) rfl (by omega) (by decide)) (by rw [ixc (x := (nI b0)) (k := b0) rfl (by omega), zhs_hs] <;> (first | rfl | (congr 1; funext k_; simp only [upd]; ((repeat' split) <;> first | rfl | (simp_all; done))))) ?_
        refine pv_iinc (v := 1) t_X11_counted_123 rfl zi_1 ?_
        refine pv_goto t_X11_counted_126 ?_
        refine pv_loc (lv' := [(0, _), (1, _), (2, _), (3, _), (4, _), (5, _)]) ⟨rfl, rfl, rfl, rfl, rfl, rfl, trivial⟩ ?_
        refine ih (i + 1) (by omega) (by omega) _ _ (nI_1 i) ?_
        have hs9 : (coK (μ 72) a0 b0 pp z0 (i + 1)) = coK_F (μ 72) a0 b0 pp i ((coK (μ 72) a0 b0 pp z0 i)) := rfl
        rw [hs9, ← hs]
        show _ = coK_F (μ 72) a0 b0 pp i P
        unfold coK_F
        rfl
def coB_F (f72 : Nat → Int32) (gg : Nat) (a0 : Nat) (i : Nat) (P : Nat → Int32) : (Nat → Int32) := ((coK f72 a0 i (prN a0 i) P ((min gg (f72 (45 + (prN a0 i))).toNatClampNeg))))
def coB (f72 : Nat → Int32) (gg : Nat) (a0 : Nat) (z0 : (Nat → Int32)) : Nat → (Nat → Int32) := zfold (fun i s => coB_F f72 gg a0 ((a0 + 1) + i) s) z0
theorem lp_coB {l : Launch} {X : zX} {d : Nat} {μ : zH} {gg : Nat} {a0 : Nat} {np : Nat} {z0 : (Nat → Int32)} (hnp : μ 67 10 = nI np) (hp4 : np ≤ 4) (hg : gg ≤ 2) (hmet : ∀ p, p < 6 → nb (μ 72 (45 + p)) 2000) (ha : a0 < np) {r : Option zV} {S' : zS} (hk : zEv l X mi_X11_counted (d + 2) 135 [(0, .inr 67), (1, .inl ((nI gg))), (2, .inl ((nI a0))), (3, .inl (nI np))] [] (zSH, (zhs μ 84 ((coB (μ 72) gg a0 z0 (np - (a0 + 1)))))) 0 0 r S') : ∀ j i : Nat, i + j = np + 1 → (a0 + 1) ≤ i → i ≤ np → ∀ (y : Int32) (P : Nat → Int32), y = nI i → P = (coB (μ 72) gg a0 z0 (i - (a0 + 1))) → zEv l X mi_X11_counted (d + 2) 34 [(0, .inr 67), (1, .inl ((nI gg))), (2, .inl ((nI a0))), (3, .inl y)] [] (zSH, (zhs μ 84 P)) 0 0 r S' := by
  intro j
  induction j with
  | zero => intros; omega
  | succ j ih =>
    intro i hij hst hle y P hy hs
    subst hy
    refine pv_iload_n (i := 3) t_X11_counted_34 rfl rfl ?_
    refine pv_aload_n (i := 0) t_X11_counted_35 rfl rfl ?_
    refine sv_getI (nI np) t_X11_counted_36 fl_X11_137 hh_67 rfl hnp ?_
    refine pv_icmp_ge t_X11_counted_39 (fun c39 => ?_) (fun c39 => ?_)
    · skip
      have hie : i = np := by have := (nI_leI (a := np) (by omega) (by omega)).mp c39; omega
      subst hie
      rw [← hs] at hk
      exact hk
    · skip
      have hin : i < np := Nat.lt_of_not_le (fun q => c39 (nI_le (a := np) q (by omega)))
      refine pv_iload_n (i := 2) t_X11_counted_42 rfl rfl ?_
      refine pv_iload_n (i := 3) t_X11_counted_43 rfl rfl ?_
      obtain ⟨hp1, hp2⟩ := pr_e a0 (by omega) i (by omega) (by omega)
      refine sv_S2 (a_X11_pairOf a0 i) ((zhs μ 84 P)) t_X11_counted_44 ml_X11_189 mo_X11_pairOf (Nat.le_of_ble_eq_true rfl) (e_X11_pairOf (a := a0) (b := i)) (Nat.le_of_ble_eq_true rfl) rfl rfl ?_
      refine pv_istore t_X11_counted_47 (Nat.le_of_ble_eq_true rfl) ?_
      refine pv_iconst (v := 0) t_X11_counted_49 zi_0 ?_
      refine pv_istore t_X11_counted_50 (Nat.le_of_ble_eq_true rfl) ?_
      refine pv_loc (lv' := [(0, .inr 67), (1, .inl ((nI gg))), (2, .inl ((nI a0))), (3, .inl ((nI i))), (4, .inl (a_X11_pairOf a0 i)), (5, .inl 0)]) ⟨rfl, rfl, rfl, rfl, rfl, rfl, trivial⟩ ?_
      refine zls (llS (llS (llS (llS (llI (n := prN a0 i) hp1 (llS rfl)))))) ?_
      refine lp_coK (gg := gg) (a0 := a0) (b0 := i) (pp := prN a0 i) (z0 := P) hg hmet (by omega) (by omega) (by omega) hp2 ?_ ((min gg ((μ 72) (45 + (prN a0 i))).toNatClampNeg) + 1) 0 (by omega) (by omega) _ _ rfl rfl
      refine pv_iinc (v := 1) t_X11_counted_129 rfl zi_1 ?_
      refine pv_goto t_X11_counted_132 ?_
      refine pv_loc (lv' := [(0, _), (1, _), (2, _), (3, _)]) ⟨rfl, rfl, rfl, rfl, trivial⟩ ?_
      refine ih (i + 1) (by omega) (by omega) (by omega) _ _ (nI_1 i) ?_
      rw [show i + 1 - (a0 + 1) = (i - (a0 + 1)) + 1 by omega]
      have hs9 : (coB (μ 72) gg a0 z0 ((i - (a0 + 1)) + 1)) = coB_F (μ 72) gg a0 ((a0 + 1) + (i - (a0 + 1))) ((coB (μ 72) gg a0 z0 (i - (a0 + 1)))) := rfl
      rw [hs9, ← hs]; rw [show (a0 + 1) + (i - (a0 + 1)) = i by omega]
      show _ = coB_F (μ 72) gg a0 i P
      unfold coB_F
      rfl
def coA_F (f72 : Nat → Int32) (gg : Nat) (np : Nat) (i : Nat) (P : Nat → Int32) : (Nat → Int32) := ((coB f72 gg i P (np - (i + 1))))
def coA (f72 : Nat → Int32) (gg : Nat) (np : Nat) (z0 : (Nat → Int32)) : Nat → (Nat → Int32) := zfold (fun i s => coA_F f72 gg np i s) z0
theorem lp_coA {l : Launch} {X : zX} {d : Nat} {μ : zH} {gg : Nat} {np : Nat} {z0 : (Nat → Int32)} (hnp : μ 67 10 = nI np) (hp4 : np ≤ 4) (hg : gg ≤ 2) (hmet : ∀ p, p < 6 → nb (μ 72 (45 + p)) 2000) {r : Option zV} {S' : zS} (hk : zEv l X mi_X11_counted (d + 2) 141 [(0, .inr 67), (1, .inl ((nI gg))), (2, .inl (nI np))] [] (zSH, (zhs μ 84 ((coA (μ 72) gg np z0 np)))) 0 0 r S') : ∀ j i : Nat, i + j = np + 1 → i ≤ np → ∀ (y : Int32) (P : Nat → Int32), y = nI i → P = (coA (μ 72) gg np z0 i) → zEv l X mi_X11_counted (d + 2) 22 [(0, .inr 67), (1, .inl ((nI gg))), (2, .inl y)] [] (zSH, (zhs μ 84 P)) 0 0 r S' := by
  intro j
  induction j with
  | zero => intros; omega
  | succ j ih =>
    intro i hij hle y P hy hs
    subst hy
    refine pv_iload_n (i := 2) t_X11_counted_22 rfl rfl ?_
    refine pv_aload_n (i := 0) t_X11_counted_23 rfl rfl ?_
    refine sv_getI (nI np) t_X11_counted_24 fl_X11_137 hh_67 rfl hnp ?_
    refine pv_icmp_ge t_X11_counted_27 (fun c27 => ?_) (fun c27 => ?_)
    · skip
      have hie : i = np := by have := (nI_leI (a := np) (by omega) (by omega)).mp c27; omega
      subst hie
      rw [← hs] at hk
      exact hk
    · skip
      have hin : i < np := Nat.lt_of_not_le (fun q => c27 (nI_le (a := np) q (by omega)))
      refine pv_iload_n (i := 2) t_X11_counted_30 rfl rfl ?_
      refine pv_iconst (v := 1) t_X11_counted_31 zi_1 ?_
      refine pv_iadd t_X11_counted_32 ?_
      refine pv_istore_n (i := 3) t_X11_counted_33 rfl (Nat.le_of_ble_eq_true rfl) ?_
      refine pv_loc (lv' := [(0, .inr 67), (1, .inl ((nI gg))), (2, .inl ((nI i))), (3, .inl (((nI i)) + 1))]) ⟨rfl, rfl, rfl, rfl, trivial⟩ ?_
      refine lp_coB (gg := gg) (a0 := i) (np := np) (z0 := P) hnp hp4 hg hmet hin ?_ (np + 1 - (i + 1)) (i + 1) (by omega) (by omega) (by omega) _ _ (nIa rfl rfl) (by rw [Nat.sub_self]; rfl)
      refine pv_iinc (v := 1) t_X11_counted_135 rfl zi_1 ?_
      refine pv_goto t_X11_counted_138 ?_
      refine pv_loc (lv' := [(0, _), (1, _), (2, _)]) ⟨rfl, rfl, rfl, trivial⟩ ?_
      refine ih (i + 1) (by omega) (by omega) _ _ (nI_1 i) ?_
      have hs9 : (coA (μ 72) gg np z0 (i + 1)) = coA_F (μ 72) gg np i ((coA (μ 72) gg np z0 i)) := rfl
      rw [hs9, ← hs]
      show _ = coA_F (μ 72) gg np i P
      unfold coA_F
      rfl
theorem lp_coZ {l : Launch} {X : zX} {d : Nat} {μ : zH} {gg : Nat} {f84 : Nat → Int32} {r : Option zV} {S' : zS} (hk : zEv l X mi_X11_counted (d + 2) 20 [(0, .inr 67), (1, .inl ((nI gg))), (2, .inl (nI 4))] [] (zSH, (zhs μ 84 (cpR f84 (fun _ => 0) (0) (4)))) 0 0 r S') : ∀ j i : Nat, i + j = 4 + 1 → i ≤ 4 → ∀ (y : Int32) (g84 : Nat → Int32), y = nI i → g84 = cpR f84 (fun _ => 0) (0) (i) → zEv l X mi_X11_counted (d + 2) 2 [(0, .inr 67), (1, .inl ((nI gg))), (2, .inl y)] [] (zSH, (zhs μ 84 g84)) 0 0 r S' := by
  intro j
  induction j with
  | zero => intros; omega
  | succ j ih =>
    intro i hij hle y g84 hy hg
    subst hy
    refine pv_iload_n (i := 2) t_X11_counted_2 rfl rfl ?_
    refine pv_iconst (v := 4) t_X11_counted_3 zi_4 ?_
    refine pv_icmp_ge t_X11_counted_4 (fun c4 => ?_) (fun c4 => ?_)
    · skip
      have hie : i = 4 := by have := (nI_leI (a := 4) (by omega) (by omega)).mp c4; omega
      subst hie
      rw [hg]
      exact hk
    · skip
      have hin : i < 4 := Nat.lt_of_not_le (fun q => c4 (nI_le (a := 4) q (by omega)))
      refine pv_aload_n (i := 0) t_X11_counted_7 rfl rfl ?_
      refine pv_getR t_X11_counted_8 fl_X11_63 hh_67 rfl ?_
      refine pv_iload_n (i := 2) t_X11_counted_11 rfl rfl ?_
      refine pv_iconst (v := 0) t_X11_counted_12 zi_0 ?_
      refine sv_iast ((zhs μ 84 ((upd g84 i 0)))) t_X11_counted_13 hh_84 (ixi (k := i) rfl (by omega) (by decide)) (by rw [ixc (x := (nI i)) (k := i) rfl (by omega), zhs_hs] <;> (first | rfl | (congr 1; funext k_; simp only [upd]; ((repeat' split) <;> first | rfl | (simp_all; done))))) ?_
      refine pv_iinc (v := 1) t_X11_counted_14 rfl zi_1 ?_
      refine pv_goto t_X11_counted_17 ?_
      refine pv_loc (lv' := [(0, _), (1, _), (2, _)]) ⟨rfl, rfl, rfl, trivial⟩ ?_
      refine ih (i + 1) (by omega) (by omega) _ _ (nI_1 i) ?_
      rw [hg]
      exact cpR_s (by omega) rfl (by omega)
def w_X11_counted_84 (f72 : Nat → Int32) (f84 : Nat → Int32) (gg : Nat) (np : Nat) : Nat → Int32 := (coA f72 gg np ((cpR f84 (fun _ => 0) (0) (4))) np)
theorem e_X11_counted {l : Launch} {X : zX} {d : Nat} {μ : zH} {np : Nat} {gg : Nat} (hnp : μ 67 10 = nI np) (hp4 : np ≤ 4) (hg : gg ≤ 2) (hmet : ∀ p, p < 6 → nb (μ 72 (45 + p)) 2000) : zRn l X mi_X11_counted (d + 2) [.inr 67, .inl (nI gg)] (zSH, μ) none (zSH, (zhs μ 84 (w_X11_counted_84 (μ 72) (μ 84) gg np))) := by
  refine pv_iconst (v := 0) t_X11_counted_0 zi_0 ?_
  refine pv_istore_n (i := 2) t_X11_counted_1 rfl (Nat.le_of_ble_eq_true rfl) ?_
  refine pv_loc (lv' := [(0, .inr 67), (1, .inl ((nI gg))), (2, .inl 0)]) ⟨rfl, rfl, rfl, trivial⟩ ?_
  refine zst (S2 := (zSH, (zhs μ 84 (μ 84)))) (by symm; rw [zhs_i2 (ν := μ) (k := 84) (g := (μ 84)) rfl]) ?_
  refine lp_coZ (gg := gg) (f84 := (μ 84))  ?_ (4 + 1) 0 (by omega) (by omega) _ _ rfl (cpR_0 (by omega)).symm
  refine pv_iconst (v := 0) t_X11_counted_20 zi_0 ?_
  refine pv_istore_n (i := 2) t_X11_counted_21 rfl (Nat.le_of_ble_eq_true rfl) ?_
  refine pv_loc (lv' := [(0, .inr 67), (1, .inl ((nI gg))), (2, .inl 0)]) ⟨rfl, rfl, rfl, trivial⟩ ?_
  refine lp_coA (gg := gg) (np := np) (z0 := (cpR (μ 84) (fun _ => 0) (0) (4))) hnp hp4 hg hmet ?_ (np + 1) 0 (by omega) (by omega) _ _ rfl rfl
  exact pv_vret t_X11_counted_141 rfl (Prod.ext rfl (by have e84 : w_X11_counted_84 (μ 72) (μ 84) gg np = (coA (μ 72) gg np ((cpR (μ 84) (fun _ => 0) (0) (4))) np) := (by unfold w_X11_counted_84; rfl); show _ = (zhs μ 84 (w_X11_counted_84 (μ 72) (μ 84) gg np)); symm; rw [e84]))
def ifK_F (e0 : Nat) (a0 : Nat) (b0 : Nat) (i : Nat) (rs : Int32) (P : Nat → Int32) : Int32 × (Nat → Int32) := (if ((nI a0)) = ((nI e0)) then (rs : Int32) else (if ((nI b0)) = ((nI e0)) then (rs : Int32) else (rs / 3 : Int32) : Int32), ((upd (upd P a0 ((P a0) + (if ((nI a0)) = ((nI e0)) then (2 : Int32) else (if ((nI b0)) = ((nI e0)) then (0 : Int32) else (rs - rs / 3 * 3 : Int32) : Int32)))) b0 ((P b0) + (2 - (if ((nI a0)) = ((nI e0)) then (2 : Int32) else (if ((nI b0)) = ((nI e0)) then (0 : Int32) else (rs - rs / 3 * 3 : Int32) : Int32)))))))
def ifK (e0 : Nat) (a0 : Nat) (b0 : Nat) (z0 : Int32 × (Nat → Int32)) : Nat → Int32 × (Nat → Int32) := zfold (fun i s => ifK_F e0 a0 b0 i s.1 s.2) z0
theorem lp_ifK {l : Launch} {X : zX} {d : Nat} {μ : zH} {e0 : Nat} {gg : Nat} {wy : Int32} {a0 : Nat} {b0 : Nat} {z0 : Int32 × (Nat → Int32)} (hg : gg ≤ 2) (hmet : ∀ p, p < 6 → nb (μ 72 (45 + p)) 2000) (ha : a0 < 4) (hb : b0 < 4) (hab : ¬ a0 = b0) {r : Option zV} {S' : zS} (hk : zEv l X mi_X11_isFirst (d + 4) 133 [(0, .inr 67), (1, .inl ((nI e0))), (2, .inl ((nI gg))), (3, .inl wy), (4, .inl ((ifK e0 a0 b0 z0 (gg - ((μ 72) (45 + prN a0 b0)).toNatClampNeg)).1)), (5, .inl ((nI a0))), (6, .inl ((nI b0))), (7, .inl (nI (gg - ((μ 72) (45 + prN a0 b0)).toNatClampNeg)))] [] (zSH, (zhs μ 84 ((ifK e0 a0 b0 z0 (gg - ((μ 72) (45 + prN a0 b0)).toNatClampNeg)).2))) 0 0 r S') : ∀ j i : Nat, i + j = (gg - ((μ 72) (45 + prN a0 b0)).toNatClampNeg) + 1 → i ≤ (gg - ((μ 72) (45 + prN a0 b0)).toNatClampNeg) → ∀ (y : Int32) (rs : Int32) (P : Nat → Int32), y = nI i → (rs, P) = (ifK e0 a0 b0 z0 i) → zEv l X mi_X11_isFirst (d + 4) 38 [(0, .inr 67), (1, .inl ((nI e0))), (2, .inl ((nI gg))), (3, .inl wy), (4, .inl rs), (5, .inl ((nI a0))), (6, .inl ((nI b0))), (7, .inl y)] [] (zSH, (zhs μ 84 P)) 0 0 r S' := by
  intro j
  induction j with
  | zero => intros; omega
  | succ j ih =>
    intro i hij hle y rs P hy hs
    subst hy
    have hp2 := (pr_e a0 ha b0 hb hab).2
    refine pv_iload t_X11_isFirst_38 rfl ?_
    refine pv_aload_n (i := 0) t_X11_isFirst_40 rfl rfl ?_
    refine pv_iload t_X11_isFirst_41 rfl ?_
    refine pv_iload t_X11_isFirst_43 rfl ?_
    refine pv_iload_n (i := 2) t_X11_isFirst_45 rfl rfl ?_
    refine sv_V3 (a_X11_leftOf (μ 72) a0 b0 ((nI gg))) ((zhs μ 84 P)) t_X11_isFirst_46 ml_X11_251 mo_X11_leftOf hh_67 rfl (Nat.le_of_ble_eq_true rfl) (e_X11_leftOf (a0 := a0) (b0 := b0) (by omega) (by omega) (by omega)) (Nat.le_of_ble_eq_true rfl) rfl rfl ?_
    refine pv_icmp_ge t_X11_isFirst_49 (fun c49 => ?_) (fun c49 => ?_)
    · skip
      have hie : i = (gg - ((μ 72) (45 + prN a0 b0)).toNatClampNeg) := by rw [lf_n hg (hmet _ hp2)] at c49; have := (nI_leI (by omega) (by omega)).mp c49; omega
      subst hie
      rw [← hs] at hk
      exact hk
    · skip
      have hin : i < (gg - ((μ 72) (45 + prN a0 b0)).toNatClampNeg) := Nat.lt_of_not_le (fun q => c49 (by rw [lf_n hg (hmet _ hp2)]; exact nI_le q (by omega)))
      refine pv_iload t_X11_isFirst_52 rfl ?_
      refine pv_iload_n (i := 1) t_X11_isFirst_54 rfl rfl ?_
      refine sv_phi (c := ((nI a0)) = ((nI e0))) (A := 2) (B := if ((nI b0)) = ((nI e0)) then (0 : Int32) else (rs - rs / 3 * 3 : Int32)) (J := 76) (lv := [(0, .inr 67), (1, .inl ((nI e0))), (2, .inl ((nI gg))), (3, .inl wy), (4, .inl rs), (5, .inl ((nI a0))), (6, .inl ((nI b0))), (7, .inl ((nI i)))]) (st := []) (S := (zSH, (zhs μ 84 P))) (fun kT kF => ?_) ?_
      · skip
        refine pv_icmp_ne t_X11_isFirst_55 (fun c55 => ?_) (fun c55 => ?_)
        · skip
          refine pv_iload t_X11_isFirst_62 rfl ?_
          refine pv_iload_n (i := 1) t_X11_isFirst_64 rfl rfl ?_
          refine sv_phi (c := ((nI b0)) = ((nI e0))) (A := 0) (B := rs - rs / 3 * 3) (J := 76) (lv := [(0, .inr 67), (1, .inl ((nI e0))), (2, .inl ((nI gg))), (3, .inl wy), (4, .inl rs), (5, .inl ((nI a0))), (6, .inl ((nI b0))), (7, .inl ((nI i)))]) (st := []) (S := (zSH, (zhs μ 84 P))) (fun kT kF => ?_) ?_
          · skip
            refine pv_icmp_ne t_X11_isFirst_65 (fun c65 => ?_) (fun c65 => ?_)
            · skip
              refine pv_iload t_X11_isFirst_72 rfl ?_
              refine pv_iconst (v := 3) t_X11_isFirst_74 zi_3 ?_
              refine pv_irem t_X11_isFirst_75 (by decide) ?_
              exact kF c65
            · skip
              refine pv_iconst (v := 0) t_X11_isFirst_68 zi_0 ?_
              refine pv_goto t_X11_isFirst_69 ?_
              exact kT c65
          exact kF c55
        · skip
          refine pv_iconst (v := 2) t_X11_isFirst_58 zi_2 ?_
          refine pv_goto t_X11_isFirst_59 ?_
          exact kT c55
      refine pv_istore t_X11_isFirst_76 (Nat.le_of_ble_eq_true rfl) ?_
      refine pv_iload t_X11_isFirst_78 rfl ?_
      refine pv_iload_n (i := 1) t_X11_isFirst_80 rfl rfl ?_
      refine sv_phi (c := ((nI a0)) = ((nI e0))) (A := rs) (B := if ((nI b0)) = ((nI e0)) then (rs : Int32) else (rs / 3 : Int32)) (J := 99) (lv := [(0, .inr 67), (1, .inl ((nI e0))), (2, .inl ((nI gg))), (3, .inl wy), (4, .inl rs), (5, .inl ((nI a0))), (6, .inl ((nI b0))), (7, .inl ((nI i))), (8, .inl (if ((nI a0)) = ((nI e0)) then (2 : Int32) else (if ((nI b0)) = ((nI e0)) then (0 : Int32) else (rs - rs / 3 * 3 : Int32) : Int32)))]) (st := []) (S := (zSH, (zhs μ 84 P))) (fun kT kF => ?_) ?_
      · skip
        refine pv_icmp_eq t_X11_isFirst_81 (fun c81 => ?_) (fun c81 => ?_)
        · skip
          refine pv_iload t_X11_isFirst_90 rfl ?_
          refine pv_goto t_X11_isFirst_92 ?_
          exact kT c81
        · skip
          refine pv_iload t_X11_isFirst_84 rfl ?_
          refine pv_iload_n (i := 1) t_X11_isFirst_86 rfl rfl ?_
          refine sv_phi (c := ((nI b0)) = ((nI e0))) (A := rs) (B := rs / 3) (J := 99) (lv := [(0, .inr 67), (1, .inl ((nI e0))), (2, .inl ((nI gg))), (3, .inl wy), (4, .inl rs), (5, .inl ((nI a0))), (6, .inl ((nI b0))), (7, .inl ((nI i))), (8, .inl (if ((nI a0)) = ((nI e0)) then (2 : Int32) else (if ((nI b0)) = ((nI e0)) then (0 : Int32) else (rs - rs / 3 * 3 : Int32) : Int32)))]) (st := []) (S := (zSH, (zhs μ 84 P))) (fun kT kF => ?_) ?_
          · skip
            refine pv_icmp_ne t_X11_isFirst_87 (fun c87 => ?_) (fun c87 => ?_)
            · skip
              refine pv_iload t_X11_isFirst_95 rfl ?_
              refine pv_iconst (v := 3) t_X11_isFirst_97 zi_3 ?_
              refine pv_idiv t_X11_isFirst_98 (by decide) ?_
              exact kF c87
            · skip
              refine pv_iload t_X11_isFirst_90 rfl ?_
              refine pv_goto t_X11_isFirst_92 ?_
              exact kT c87
          exact kF c81
      refine pv_istore t_X11_isFirst_99 (Nat.le_of_ble_eq_true rfl) ?_
      refine pv_aload_n (i := 0) t_X11_isFirst_101 rfl rfl ?_
      refine pv_getR t_X11_isFirst_102 fl_X11_63 hh_67 rfl ?_
      refine pv_iload t_X11_isFirst_105 rfl ?_
      refine pv_dup2 t_X11_isFirst_107 ?_
      refine sv_iald (P a0) t_X11_isFirst_108 (Or.inl hh_84) (ixi (k := a0) rfl (by omega) (by decide)) ((ixe (k := a0) rfl (by omega)).trans (by first | rfl | (simp only [zhs_s, pk_us]; done) | (simp [zhs, upd]; done))) ?_
      refine pv_iload t_X11_isFirst_109 rfl ?_
      refine pv_iadd t_X11_isFirst_111 ?_
      refine sv_iast ((zhs μ 84 ((upd P a0 ((P a0) + (if ((nI a0)) = ((nI e0)) then (2 : Int32) else (if ((nI b0)) = ((nI e0)) then (0 : Int32) else (rs - rs / 3 * 3 : Int32) : Int32))))))) t_X11_isFirst_112 hh_84 (ixi (k := a0) rfl (by omega) (by decide)) (by rw [ixc (x := (nI a0)) (k := a0) rfl (by omega), zhs_hs] <;> (first | rfl | (congr 1; funext k_; simp only [upd]; ((repeat' split) <;> first | rfl | (simp_all; done))))) ?_
      refine pv_aload_n (i := 0) t_X11_isFirst_113 rfl rfl ?_
      refine pv_getR t_X11_isFirst_114 fl_X11_63 hh_67 rfl ?_
      refine pv_iload t_X11_isFirst_117 rfl ?_
      refine pv_dup2 t_X11_isFirst_119 ?_
      refine sv_iald (P b0) t_X11_isFirst_120 (Or.inl hh_84) (ixi (k := b0) rfl (by omega) (by decide)) ((ixe (k := b0) rfl (by omega)).trans (by (try simp (disch := decide) only [zhs_d, zhs_s]); repeat (first | rw [upn (by omega)] | rw [ups] | rfl))) ?_
      refine pv_iconst (v := 2) t_X11_isFirst_121 zi_2 ?_
      refine pv_iload t_X11_isFirst_122 rfl ?_
      refine pv_isub t_X11_isFirst_124 ?_
      refine pv_iadd t_X11_isFirst_125 ?_
      refine sv_iast ((zhs μ 84 ((upd (upd P a0 ((P a0) + (if ((nI a0)) = ((nI e0)) then (2 : Int32) else (if ((nI b0)) = ((nI e0)) then (0 : Int32) else (rs - rs / 3 * 3 : Int32) : Int32)))) b0 ((P b0) + (2 - (if ((nI a0)) = ((nI e0)) then (2 : Int32) else (if ((nI b0)) = ((nI e0)) then (0 : Int32) else (rs - rs / 3 * 3 : Int32) : Int32)))))))) t_X11_isFirst_126 hh_84 (ixi (k := b0) rfl (by omega) (by decide)) (by rw [ixc (x := (nI b0)) (k := b0) rfl (by omega), zhs_hs] <;> (first | rfl | (congr 1; funext k_; simp only [upd]; ((repeat' split) <;> first | rfl | (simp_all; done))))) ?_
      refine pv_iinc (v := 1) t_X11_isFirst_127 rfl zi_1 ?_
      refine pv_goto t_X11_isFirst_130 ?_
      refine pv_loc (lv' := [(0, _), (1, _), (2, _), (3, _), (4, _), (5, _), (6, _), (7, _)]) ⟨rfl, rfl, rfl, rfl, rfl, rfl, rfl, rfl, trivial⟩ ?_
      refine ih (i + 1) (by omega) (by omega) _ _ _ (nI_1 i) ?_
      have hs9 : (ifK e0 a0 b0 z0 (i + 1)) = ifK_F e0 a0 b0 i ((ifK e0 a0 b0 z0 i).1) ((ifK e0 a0 b0 z0 i).2) := rfl
      rw [hs9, ← hs]
      show _ = ifK_F e0 a0 b0 i rs P
      unfold ifK_F
      rfl
def ifB_F (f72 : Nat → Int32) (e0 : Nat) (gg : Nat) (a0 : Nat) (i : Nat) (rs : Int32) (P : Nat → Int32) : Int32 × (Nat → Int32) := ((ifK e0 a0 i ((rs, P)) ((gg - (f72 (45 + prN a0 i)).toNatClampNeg))).1, ((ifK e0 a0 i ((rs, P)) ((gg - (f72 (45 + prN a0 i)).toNatClampNeg))).2))
def ifB (f72 : Nat → Int32) (e0 : Nat) (gg : Nat) (a0 : Nat) (z0 : Int32 × (Nat → Int32)) : Nat → Int32 × (Nat → Int32) := zfold (fun i s => ifB_F f72 e0 gg a0 ((a0 + 1) + i) s.1 s.2) z0
theorem lp_ifB {l : Launch} {X : zX} {d : Nat} {μ : zH} {e0 : Nat} {gg : Nat} {wy : Int32} {a0 : Nat} {np : Nat} {z0 : Int32 × (Nat → Int32)} (hnp : μ 67 10 = nI np) (hp4 : np ≤ 4) (hg : gg ≤ 2) (hmet : ∀ p, p < 6 → nb (μ 72 (45 + p)) 2000) (ha : a0 < np) {r : Option zV} {S' : zS} (hk : zEv l X mi_X11_isFirst (d + 4) 139 [(0, .inr 67), (1, .inl ((nI e0))), (2, .inl ((nI gg))), (3, .inl wy), (4, .inl ((ifB (μ 72) e0 gg a0 z0 (np - (a0 + 1))).1)), (5, .inl ((nI a0))), (6, .inl (nI np))] [] (zSH, (zhs μ 84 ((ifB (μ 72) e0 gg a0 z0 (np - (a0 + 1))).2))) 0 0 r S') : ∀ j i : Nat, i + j = np + 1 → (a0 + 1) ≤ i → i ≤ np → ∀ (y : Int32) (rs : Int32) (P : Nat → Int32), y = nI i → (rs, P) = (ifB (μ 72) e0 gg a0 z0 (i - (a0 + 1))) → zEv l X mi_X11_isFirst (d + 4) 26 [(0, .inr 67), (1, .inl ((nI e0))), (2, .inl ((nI gg))), (3, .inl wy), (4, .inl rs), (5, .inl ((nI a0))), (6, .inl y)] [] (zSH, (zhs μ 84 P)) 0 0 r S' := by
  intro j
  induction j with
  | zero => intros; omega
  | succ j ih =>
    intro i hij hst hle y rs P hy hs
    subst hy
    refine pv_iload t_X11_isFirst_26 rfl ?_
    refine pv_aload_n (i := 0) t_X11_isFirst_28 rfl rfl ?_
    refine sv_getI (nI np) t_X11_isFirst_29 fl_X11_137 hh_67 rfl hnp ?_
    refine pv_icmp_ge t_X11_isFirst_32 (fun c32 => ?_) (fun c32 => ?_)
    · skip
      have hie : i = np := by have := (nI_leI (a := np) (by omega) (by omega)).mp c32; omega
      subst hie
      rw [← hs] at hk
      exact hk
    · skip
      have hin : i < np := Nat.lt_of_not_le (fun q => c32 (nI_le (a := np) q (by omega)))
      refine pv_iconst (v := 0) t_X11_isFirst_35 zi_0 ?_
      refine pv_istore t_X11_isFirst_36 (Nat.le_of_ble_eq_true rfl) ?_
      refine pv_loc (lv' := [(0, .inr 67), (1, .inl ((nI e0))), (2, .inl ((nI gg))), (3, .inl wy), (4, .inl rs), (5, .inl ((nI a0))), (6, .inl ((nI i))), (7, .inl 0)]) ⟨rfl, rfl, rfl, rfl, rfl, rfl, rfl, rfl, trivial⟩ ?_
      refine lp_ifK (e0 := e0) (gg := gg) (wy := wy) (a0 := a0) (b0 := i) (z0 := (rs, P)) hg hmet (by omega) (by omega) (by omega) ?_ ((gg - ((μ 72) (45 + prN a0 i)).toNatClampNeg) + 1) 0 (by omega) (by omega) _ _ _ rfl rfl
      refine pv_iinc (v := 1) t_X11_isFirst_133 rfl zi_1 ?_
      refine pv_goto t_X11_isFirst_136 ?_
      refine pv_loc (lv' := [(0, _), (1, _), (2, _), (3, _), (4, _), (5, _), (6, _)]) ⟨rfl, rfl, rfl, rfl, rfl, rfl, rfl, trivial⟩ ?_
      refine ih (i + 1) (by omega) (by omega) (by omega) _ _ _ (nI_1 i) ?_
      rw [show i + 1 - (a0 + 1) = (i - (a0 + 1)) + 1 by omega]
      have hs9 : (ifB (μ 72) e0 gg a0 z0 ((i - (a0 + 1)) + 1)) = ifB_F (μ 72) e0 gg a0 ((a0 + 1) + (i - (a0 + 1))) ((ifB (μ 72) e0 gg a0 z0 (i - (a0 + 1))).1) ((ifB (μ 72) e0 gg a0 z0 (i - (a0 + 1))).2) := rfl
      rw [hs9, ← hs]; rw [show (a0 + 1) + (i - (a0 + 1)) = i by omega]
      show _ = ifB_F (μ 72) e0 gg a0 i rs P
      unfold ifB_F
      rfl
def ifA_F (f72 : Nat → Int32) (e0 : Nat) (gg : Nat) (np : Nat) (i : Nat) (rs : Int32) (P : Nat → Int32) : Int32 × (Nat → Int32) := ((ifB f72 e0 gg i ((rs, P)) (np - (i + 1))).1, ((ifB f72 e0 gg i ((rs, P)) (np - (i + 1))).2))
def ifA (f72 : Nat → Int32) (e0 : Nat) (gg : Nat) (np : Nat) (z0 : Int32 × (Nat → Int32)) : Nat → Int32 × (Nat → Int32) := zfold (fun i s => ifA_F f72 e0 gg np i s.1 s.2) z0
theorem lp_ifA {l : Launch} {X : zX} {d : Nat} {μ : zH} {e0 : Nat} {gg : Nat} {wy : Int32} {np : Nat} {z0 : Int32 × (Nat → Int32)} (hnp : μ 67 10 = nI np) (hp4 : np ≤ 4) (hg : gg ≤ 2) (hmet : ∀ p, p < 6 → nb (μ 72 (45 + p)) 2000) {r : Option zV} {S' : zS} (hk : zEv l X mi_X11_isFirst (d + 4) 145 [(0, .inr 67), (1, .inl ((nI e0))), (2, .inl ((nI gg))), (3, .inl wy), (4, .inl ((ifA (μ 72) e0 gg np z0 np).1)), (5, .inl (nI np))] [] (zSH, (zhs μ 84 ((ifA (μ 72) e0 gg np z0 np).2))) 0 0 r S') : ∀ j i : Nat, i + j = np + 1 → i ≤ np → ∀ (y : Int32) (rs : Int32) (P : Nat → Int32), y = nI i → (rs, P) = (ifA (μ 72) e0 gg np z0 i) → zEv l X mi_X11_isFirst (d + 4) 11 [(0, .inr 67), (1, .inl ((nI e0))), (2, .inl ((nI gg))), (3, .inl wy), (4, .inl rs), (5, .inl y)] [] (zSH, (zhs μ 84 P)) 0 0 r S' := by
  intro j
  induction j with
  | zero => intros; omega
  | succ j ih =>
    intro i hij hle y rs P hy hs
    subst hy
    refine pv_iload t_X11_isFirst_11 rfl ?_
    refine pv_aload_n (i := 0) t_X11_isFirst_13 rfl rfl ?_
    refine sv_getI (nI np) t_X11_isFirst_14 fl_X11_137 hh_67 rfl hnp ?_
    refine pv_icmp_ge t_X11_isFirst_17 (fun c17 => ?_) (fun c17 => ?_)
    · skip
      have hie : i = np := by have := (nI_leI (a := np) (by omega) (by omega)).mp c17; omega
      subst hie
      rw [← hs] at hk
      exact hk
    · skip
      have hin : i < np := Nat.lt_of_not_le (fun q => c17 (nI_le (a := np) q (by omega)))
      refine pv_iload t_X11_isFirst_20 rfl ?_
      refine pv_iconst (v := 1) t_X11_isFirst_22 zi_1 ?_
      refine pv_iadd t_X11_isFirst_23 ?_
      refine pv_istore t_X11_isFirst_24 (Nat.le_of_ble_eq_true rfl) ?_
      refine pv_loc (lv' := [(0, .inr 67), (1, .inl ((nI e0))), (2, .inl ((nI gg))), (3, .inl wy), (4, .inl rs), (5, .inl ((nI i))), (6, .inl (((nI i)) + 1))]) ⟨rfl, rfl, rfl, rfl, rfl, rfl, rfl, trivial⟩ ?_
      refine lp_ifB (e0 := e0) (gg := gg) (wy := wy) (a0 := i) (np := np) (z0 := (rs, P)) hnp hp4 hg hmet hin ?_ (np + 1 - (i + 1)) (i + 1) (by omega) (by omega) (by omega) _ _ _ (nIa rfl rfl) (by rw [Nat.sub_self]; rfl)
      refine pv_iinc (v := 1) t_X11_isFirst_139 rfl zi_1 ?_
      refine pv_goto t_X11_isFirst_142 ?_
      refine pv_loc (lv' := [(0, _), (1, _), (2, _), (3, _), (4, _), (5, _)]) ⟨rfl, rfl, rfl, rfl, rfl, rfl, trivial⟩ ?_
      refine ih (i + 1) (by omega) (by omega) _ _ _ (nI_1 i) ?_
      have hs9 : (ifA (μ 72) e0 gg np z0 (i + 1)) = ifA_F (μ 72) e0 gg np i ((ifA (μ 72) e0 gg np z0 i).1) ((ifA (μ 72) e0 gg np z0 i).2) := rfl
      rw [hs9, ← hs]
      show _ = ifA_F (μ 72) e0 gg np i rs P
      unfold ifA_F
      rfl
def ifZ_F (g84 : Nat → Int32) (e0 : Nat) (i : Nat) (w : Int32) : Int32 := if w = 0 then (0 : Int32) else (if (g84 e0) < (g84 i) then (0 : Int32) else (1 : Int32) : Int32)
def ifZ (g84 : Nat → Int32) (e0 : Nat) (z0 : Int32) : Nat → Int32 := zfold (fun i s => ifZ_F g84 e0 i s) z0
theorem ifZ_01 {g84 : Nat → Int32} {e0 : Nat} {z : Int32} (hz : z = 0 ∨ z = 1) : ∀ i, ifZ g84 e0 z i = 0 ∨ ifZ g84 e0 z i = 1 := by
  intro i
  induction i with
  | zero => exact hz
  | succ i ih =>
    show ifZ_F g84 e0 i (ifZ g84 e0 z i) = 0 ∨ ifZ_F g84 e0 i (ifZ g84 e0 z i) = 1
    generalize ifZ g84 e0 z i = w
    unfold ifZ_F
    repeat' split
    all_goals first | exact Or.inl rfl | exact Or.inr rfl
theorem lp_ifZ {l : Launch} {X : zX} {d : Nat} {μ : zH} {e0 : Nat} {gg : Nat} {wy : Int32} {rs : Int32} {np : Nat} {g84 : Nat → Int32} {z0 : Int32} (hnp : μ 67 10 = nI np) (hp4 : np ≤ 4) (he : e0 < 4) {r : Option zV} {S' : zS} (hk : zEv l X mi_X11_isFirst (d + 4) 194 [(0, .inr 67), (1, .inl ((nI e0))), (2, .inl ((nI gg))), (3, .inl wy), (4, .inl rs), (5, .inl ((ifZ g84 e0 z0 np))), (6, .inl (nI np))] [] (zSH, (zhs μ 84 g84)) 0 0 r S') : ∀ j i : Nat, i + j = np + 1 → i ≤ np → ∀ (y : Int32) (w : Int32), y = nI i → w = (ifZ g84 e0 z0 i) → zEv l X mi_X11_isFirst (d + 4) 151 [(0, .inr 67), (1, .inl ((nI e0))), (2, .inl ((nI gg))), (3, .inl wy), (4, .inl rs), (5, .inl w), (6, .inl y)] [] (zSH, (zhs μ 84 g84)) 0 0 r S' := by
  intro j
  induction j with
  | zero => intros; omega
  | succ j ih =>
    intro i hij hle y w hy hs
    subst hy
    refine pv_iload t_X11_isFirst_151 rfl ?_
    refine pv_aload_n (i := 0) t_X11_isFirst_153 rfl rfl ?_
    refine sv_getI (nI np) t_X11_isFirst_154 fl_X11_137 hh_67 rfl hnp ?_
    refine pv_icmp_ge t_X11_isFirst_157 (fun c157 => ?_) (fun c157 => ?_)
    · skip
      have hie : i = np := by have := (nI_leI (a := np) (by omega) (by omega)).mp c157; omega
      subst hie
      rw [← hs] at hk
      exact hk
    · skip
      have hin : i < np := Nat.lt_of_not_le (fun q => c157 (nI_le (a := np) q (by omega)))
      refine pv_iload t_X11_isFirst_160 rfl ?_
      refine sv_phi (c := w = 0) (A := 0) (B := if (g84 e0) < (g84 i) then (0 : Int32) else (1 : Int32)) (J := 186) (lv := [(0, .inr 67), (1, .inl ((nI e0))), (2, .inl ((nI gg))), (3, .inl wy), (4, .inl rs), (5, .inl w), (6, .inl ((nI i)))]) (st := []) (S := (zSH, (zhs μ 84 g84))) (fun kT kF => ?_) ?_
      · skip
        refine pv_if_eq t_X11_isFirst_162 (fun c162 => ?_) (fun c162 => ?_)
        · skip
          refine pv_iconst (v := 0) t_X11_isFirst_185 zi_0 ?_
          exact kT c162
        · skip
          refine pv_aload_n (i := 0) t_X11_isFirst_165 rfl rfl ?_
          refine pv_getR t_X11_isFirst_166 fl_X11_63 hh_67 rfl ?_
          refine pv_iload t_X11_isFirst_169 rfl ?_
          refine sv_iald (g84 i) t_X11_isFirst_171 (Or.inl hh_84) (ixi (k := i) rfl (by omega) (by decide)) ((ixe (k := i) rfl (by omega)).trans (by first | rfl | (simp only [zhs_s, pk_us]; done) | (simp [zhs, upd]; done))) ?_
          refine pv_aload_n (i := 0) t_X11_isFirst_172 rfl rfl ?_
          refine pv_getR t_X11_isFirst_173 fl_X11_63 hh_67 rfl ?_
          refine pv_iload_n (i := 1) t_X11_isFirst_176 rfl rfl ?_
          refine sv_iald (g84 e0) t_X11_isFirst_177 (Or.inl hh_84) (ixi (k := e0) rfl (by omega) (by decide)) ((ixe (k := e0) rfl (by omega)).trans (by first | rfl | (simp only [zhs_s, pk_us]; done) | (simp [zhs, upd]; done))) ?_
          refine sv_phi (c := (g84 e0) < (g84 i)) (A := 0) (B := 1) (J := 186) (lv := [(0, .inr 67), (1, .inl ((nI e0))), (2, .inl ((nI gg))), (3, .inl wy), (4, .inl rs), (5, .inl w), (6, .inl ((nI i)))]) (st := []) (S := (zSH, (zhs μ 84 g84))) (fun kT kF => ?_) ?_
          · skip
            refine pv_icmp_gt t_X11_isFirst_178 (fun c178 => ?_) (fun c178 => ?_)
            · skip
              refine pv_iconst (v := 0) t_X11_isFirst_185 zi_0 ?_
              exact kT c178
            · skip
              refine pv_iconst (v := 1) t_X11_isFirst_181 zi_1 ?_
              refine pv_goto t_X11_isFirst_182 ?_
              exact kF c178
          exact kF c162
      refine pv_istore t_X11_isFirst_186 (Nat.le_of_ble_eq_true rfl) ?_
      refine pv_iinc (v := 1) t_X11_isFirst_188 rfl zi_1 ?_
      refine pv_goto t_X11_isFirst_191 ?_
      refine pv_loc (lv' := [(0, _), (1, _), (2, _), (3, _), (4, _), (5, _), (6, _)]) ⟨rfl, rfl, rfl, rfl, rfl, rfl, rfl, trivial⟩ ?_
      refine ih (i + 1) (by omega) (by omega) _ _ (nI_1 i) ?_
      have hs9 : (ifZ g84 e0 z0 (i + 1)) = ifZ_F g84 e0 i ((ifZ g84 e0 z0 i)) := rfl
      rw [hs9, ← hs]
      show _ = ifZ_F g84 e0 i w
      unfold ifZ_F
      rfl
def a_X11_isFirst (f72 : Nat → Int32) (f84 : Nat → Int32) (e0 : Nat) (gg : Nat) (wy : Int32) (np : Nat) : Int32 := (ifZ (((ifA f72 e0 gg np ((wy, (w_X11_counted_84 f72 f84 gg np))) np).2)) e0 1 np)
def w_X11_isFirst_84 (f72 : Nat → Int32) (f84 : Nat → Int32) (e0 : Nat) (gg : Nat) (wy : Int32) (np : Nat) : Nat → Int32 := ((ifA f72 e0 gg np ((wy, (w_X11_counted_84 f72 f84 gg np))) np).2)
theorem e_X11_isFirst {l : Launch} {X : zX} {d : Nat} {μ : zH} {np : Nat} {e0 : Nat} {gg : Nat} {wy : Int32} (hnp : μ 67 10 = nI np) (hp4 : np ≤ 4) (he : e0 < 4) (hg : gg ≤ 2) (hmet : ∀ p, p < 6 → nb (μ 72 (45 + p)) 2000) : zRn l X mi_X11_isFirst (d + 4) [.inr 67, .inl (nI e0), .inl (nI gg), .inl (wy)] (zSH, μ) (some (.inl (a_X11_isFirst (μ 72) (μ 84) e0 gg wy np))) (zSH, (zhs μ 84 (w_X11_isFirst_84 (μ 72) (μ 84) e0 gg wy np))) := by
  refine pv_aload_n (i := 0) t_X11_isFirst_0 rfl rfl ?_
  refine pv_iload_n (i := 2) t_X11_isFirst_1 rfl rfl ?_
  refine sv_WV1 ((zhs μ 84 (w_X11_counted_84 (μ 72) (μ 84) gg np))) t_X11_isFirst_2 ml_X11_248 mo_X11_counted hh_67 rfl (Nat.le_of_ble_eq_true rfl) (e_X11_counted (gg := gg) hnp hp4 (by omega) hmet) (Nat.le_of_ble_eq_true rfl) rfl ?_
  refine pv_iload_n (i := 3) t_X11_isFirst_5 rfl rfl ?_
  refine pv_istore t_X11_isFirst_6 (Nat.le_of_ble_eq_true rfl) ?_
  refine pv_iconst (v := 0) t_X11_isFirst_8 zi_0 ?_
  refine pv_istore t_X11_isFirst_9 (Nat.le_of_ble_eq_true rfl) ?_
  refine pv_loc (lv' := [(0, .inr 67), (1, .inl ((nI e0))), (2, .inl ((nI gg))), (3, .inl wy), (4, .inl wy), (5, .inl 0)]) ⟨rfl, rfl, rfl, rfl, rfl, rfl, trivial⟩ ?_
  refine lp_ifA (e0 := e0) (gg := gg) (wy := wy) (np := np) (z0 := (wy, (w_X11_counted_84 (μ 72) (μ 84) gg np))) hnp hp4 hg hmet ?_ (np + 1) 0 (by omega) (by omega) _ _ _ rfl rfl
  refine pv_iconst (v := 1) t_X11_isFirst_145 zi_1 ?_
  refine pv_istore t_X11_isFirst_146 (Nat.le_of_ble_eq_true rfl) ?_
  refine pv_iconst (v := 0) t_X11_isFirst_148 zi_0 ?_
  refine pv_istore t_X11_isFirst_149 (Nat.le_of_ble_eq_true rfl) ?_
  refine pv_loc (lv' := [(0, .inr 67), (1, .inl ((nI e0))), (2, .inl ((nI gg))), (3, .inl wy), (4, .inl ((ifA (μ 72) e0 gg np ((wy, (w_X11_counted_84 (μ 72) (μ 84) gg np))) np).1)), (5, .inl 1), (6, .inl 0)]) ⟨rfl, rfl, rfl, rfl, rfl, rfl, rfl, trivial⟩ ?_
  refine lp_ifZ (e0 := e0) (gg := gg) (wy := wy) (rs := (ifA (μ 72) e0 gg np ((wy, (w_X11_counted_84 (μ 72) (μ 84) gg np))) np).1) (np := np) (g84 := ((ifA (μ 72) e0 gg np ((wy, (w_X11_counted_84 (μ 72) (μ 84) gg np))) np).2)) (z0 := 1) hnp hp4 he ?_ (np + 1) 0 (by omega) (by omega) _ _ rfl rfl
  refine pv_iload t_X11_isFirst_194 rfl ?_
  exact pv_iretz t_X11_isFirst_196 rfl ⟨(by unfold a_X11_isFirst; rfl), (by unfold a_X11_isFirst; exact ifZ_01 (Or.inr rfl) _)⟩ (Prod.ext rfl (by have e84 : w_X11_isFirst_84 (μ 72) (μ 84) e0 gg wy np = ((ifA (μ 72) e0 gg np ((wy, (w_X11_counted_84 (μ 72) (μ 84) gg np))) np).2) := (by unfold w_X11_isFirst_84; rfl); show _ = (zhs μ 84 (w_X11_isFirst_84 (μ 72) (μ 84) e0 gg wy np)); symm; rw [e84]))
def lgI_F (f72 : Nat → Int32) (gg : Nat) (e0 : Nat) (np : Nat) (i : Nat) (w : Int32) (P : Nat → Int32) : Int32 × (Nat → Int32) := (if w = 0 then (a_X11_isFirst f72 P e0 gg ((nI i)) np, (w_X11_isFirst_84 f72 P e0 gg ((nI i)) np)) else (w, P))
def lgI (f72 : Nat → Int32) (gg : Nat) (e0 : Nat) (np : Nat) (z0 : Int32 × (Nat → Int32)) : Nat → Int32 × (Nat → Int32) := zfold (fun i s => lgI_F f72 gg e0 np i s.1 s.2) z0
theorem lgI_st {f72 : Nat → Int32} {gg : Nat} {e0 : Nat} {np : Nat} {z0 : Int32 × (Nat → Int32)} {i n : Nat} (hn : i ≤ n) (h : ¬ (lgI f72 gg e0 np z0 i).1 = 0) : lgI f72 gg e0 np z0 n = lgI f72 gg e0 np z0 i := by
  obtain ⟨k, rfl⟩ : ∃ k, n = i + k := ⟨n - i, by omega⟩
  clear hn
  induction k with
  | zero => rfl
  | succ k ih =>
    show lgI_F f72 gg e0 np (i + k) (lgI f72 gg e0 np z0 (i + k)).1 (lgI f72 gg e0 np z0 (i + k)).2 = _
    rw [ih]
    unfold lgI_F
    rw [if_neg h]
theorem lp_lgI {l : Launch} {X : zX} {d : Nat} {μ : zH} {gg : Nat} {z : Int32} {e0 : Nat} {np : Nat} {g67 : Nat → Int32} {z0 : Int32 × (Nat → Int32)} (hnp : g67 10 = nI np) (hp4 : np ≤ 4) (he : e0 < 4) (hg : gg ≤ 2) (hmet : ∀ p, p < 6 → nb (μ 72 (45 + p)) 2000) {r : Option zV} {S' : zS} (hk : zEv l X mi_X11_league (d + 6) 64 [(0, .inr 67), (1, .inl ((nI gg))), (2, .inl z), (3, .inl ((nI e0))), (4, .inl ((lgI (μ 72) gg e0 np z0 729).1))] [] (zSH, (zhs (zhs μ 67 g67) 84 ((lgI (μ 72) gg e0 np z0 729).2))) 0 0 r S') : ∀ j i : Nat, i + j = 729 + 1 → i ≤ 729 → ∀ (y : Int32) (w : Int32) (P : Nat → Int32), y = nI i → (w, P) = (lgI (μ 72) gg e0 np z0 i) → zEv l X mi_X11_league (d + 6) 35 [(0, .inr 67), (1, .inl ((nI gg))), (2, .inl z), (3, .inl ((nI e0))), (4, .inl w), (5, .inl y)] [] (zSH, (zhs (zhs μ 67 g67) 84 P)) 0 0 r S' := by
  intro j
  induction j with
  | zero => intros; omega
  | succ j ih =>
    intro i hij hle y w P hy hs
    subst hy
    refine pv_iload t_X11_league_35 rfl ?_
    refine pv_sipush (v := 729) t_X11_league_37 zs_729 ?_
    refine pv_icmp_ge t_X11_league_40 (fun c40 => ?_) (fun c40 => ?_)
    · skip
      have hie : i = 729 := by have := (nI_leI (a := 729) (by omega) (by omega)).mp c40; omega
      subst hie
      refine pv_loc (lv' := [(0, .inr 67), (1, .inl ((nI gg))), (2, .inl z), (3, .inl ((nI e0))), (4, .inl w)]) ⟨rfl, rfl, rfl, rfl, rfl, trivial⟩ ?_
      rw [← hs] at hk
      exact hk
    · skip
      have hin : i < 729 := Nat.lt_of_not_le (fun q => c40 (nI_le (a := 729) q (by omega)))
      refine pv_iload t_X11_league_43 rfl ?_
      refine pv_if_ne t_X11_league_45 (fun c45 => ?_) (fun c45 => ?_)
      · skip
        refine pv_loc (lv' := [(0, .inr 67), (1, .inl ((nI gg))), (2, .inl z), (3, .inl ((nI e0))), (4, .inl w)]) ⟨rfl, rfl, rfl, rfl, rfl, trivial⟩ ?_
        rw [lgI_st (i := i) (by omega) (by rw [← hs]; exact c45), ← hs] at hk
        exact hk
      · skip
        refine pv_aload_n (i := 0) t_X11_league_48 rfl rfl ?_
        refine pv_iload_n (i := 3) t_X11_league_49 rfl rfl ?_
        refine pv_iload_n (i := 1) t_X11_league_50 rfl rfl ?_
        refine pv_iload t_X11_league_51 rfl ?_
        refine sv_V3 (a_X11_isFirst (μ 72) P e0 gg ((nI i)) np) ((zhs (zhs μ 67 g67) 84 (w_X11_isFirst_84 (μ 72) P e0 gg ((nI i)) np))) t_X11_league_53 ml_X11_254 mo_X11_isFirst hh_67 rfl (Nat.le_of_ble_eq_true rfl) (e_X11_isFirst (e0 := e0) (gg := gg) hnp hp4 (by omega) (by omega) hmet) (Nat.le_of_ble_eq_true rfl) rfl (by (try simp (disch := decide) only [zhs_d, zhs_s]); rw [zhs_hs] <;> (first | rfl | (congr 1; funext k_; simp only [upd]; ((repeat' split) <;> first | rfl | (simp_all; done))))) ?_
        refine pv_istore t_X11_league_56 (Nat.le_of_ble_eq_true rfl) ?_
        refine pv_iinc (v := 1) t_X11_league_58 rfl zi_1 ?_
        refine pv_goto t_X11_league_61 ?_
        refine pv_loc (lv' := [(0, _), (1, _), (2, _), (3, _), (4, _), (5, _)]) ⟨rfl, rfl, rfl, rfl, rfl, rfl, trivial⟩ ?_
        refine ih (i + 1) (by omega) (by omega) _ _ _ (nI_1 i) ?_
        have hs9 : (lgI (μ 72) gg e0 np z0 (i + 1)) = lgI_F (μ 72) gg e0 np i ((lgI (μ 72) gg e0 np z0 i).1) ((lgI (μ 72) gg e0 np z0 i).2) := rfl
        rw [hs9, ← hs]
        show _ = lgI_F (μ 72) gg e0 np i w P
        unfold lgI_F
        rw [if_pos c45]
def lgO_F (f72 : Nat → Int32) (gg : Nat) (np : Nat) (i : Nat) (z : Int32) (P : Nat → Int32) : Int32 × (Nat → Int32) := (z ||| (if ((lgI f72 gg i np ((0, P)) 729).1) = 0 then (0 : Int32) else (1 <<< (((nI i)) &&& 31) : Int32)), ((lgI f72 gg i np ((0, P)) 729).2))
def lgO (f72 : Nat → Int32) (gg : Nat) (np : Nat) (z0 : Int32 × (Nat → Int32)) : Nat → Int32 × (Nat → Int32) := zfold (fun i s => lgO_F f72 gg np i s.1 s.2) z0
theorem lp_lgO {l : Launch} {X : zX} {d : Nat} {μ : zH} {gg : Nat} {np : Nat} {g67 : Nat → Int32} {z0 : Int32 × (Nat → Int32)} (hnp : g67 10 = nI np) (hp4 : np ≤ 4) (hg : gg ≤ 2) (hmet : ∀ p, p < 6 → nb (μ 72 (45 + p)) 2000) {r : Option zV} {S' : zS} (hk : zEv l X mi_X11_league (d + 6) 85 [(0, .inr 67), (1, .inl ((nI gg))), (2, .inl ((lgO (μ 72) gg np z0 np).1)), (3, .inl (nI np))] [] (zSH, (zhs (zhs μ 67 g67) 84 ((lgO (μ 72) gg np z0 np).2))) 0 0 r S') : ∀ j i : Nat, i + j = np + 1 → i ≤ np → ∀ (y : Int32) (z : Int32) (P : Nat → Int32), y = nI i → (z, P) = (lgO (μ 72) gg np z0 i) → zEv l X mi_X11_league (d + 6) 21 [(0, .inr 67), (1, .inl ((nI gg))), (2, .inl z), (3, .inl y)] [] (zSH, (zhs (zhs μ 67 g67) 84 P)) 0 0 r S' := by
  intro j
  induction j with
  | zero => intros; omega
  | succ j ih =>
    intro i hij hle y z P hy hs
    subst hy
    refine pv_iload_n (i := 3) t_X11_league_21 rfl rfl ?_
    refine pv_aload_n (i := 0) t_X11_league_22 rfl rfl ?_
    refine sv_getI (nI np) t_X11_league_23 fl_X11_137 hh_67 rfl hnp ?_
    refine pv_icmp_ge t_X11_league_26 (fun c26 => ?_) (fun c26 => ?_)
    · skip
      have hie : i = np := by have := (nI_leI (a := np) (by omega) (by omega)).mp c26; omega
      subst hie
      rw [← hs] at hk
      exact hk
    · skip
      have hin : i < np := Nat.lt_of_not_le (fun q => c26 (nI_le (a := np) q (by omega)))
      refine pv_iconst (v := 0) t_X11_league_29 zi_0 ?_
      refine pv_istore t_X11_league_30 (Nat.le_of_ble_eq_true rfl) ?_
      refine pv_iconst (v := 0) t_X11_league_32 zi_0 ?_
      refine pv_istore t_X11_league_33 (Nat.le_of_ble_eq_true rfl) ?_
      refine pv_loc (lv' := [(0, .inr 67), (1, .inl ((nI gg))), (2, .inl z), (3, .inl ((nI i))), (4, .inl 0), (5, .inl 0)]) ⟨rfl, rfl, rfl, rfl, rfl, rfl, trivial⟩ ?_
      refine lp_lgI (gg := gg) (z := z) (e0 := i) (np := np) (g67 := g67) (z0 := (0, P)) hnp hp4 (by omega) hg hmet ?_ (729 + 1) 0 (by omega) (by omega) _ _ _ rfl rfl
      refine pv_iload_n (i := 2) t_X11_league_64 rfl rfl ?_
      refine pv_iload t_X11_league_65 rfl ?_
      refine sv_phi (c := ((lgI (μ 72) gg i np ((0, P)) 729).1) = 0) (A := 0) (B := 1 <<< (((nI i)) &&& 31)) (J := 77) (lv := [(0, .inr 67), (1, .inl ((nI gg))), (2, .inl z), (3, .inl ((nI i))), (4, .inl ((lgI (μ 72) gg i np ((0, P)) 729).1))]) (st := [.inl z]) (S := (zSH, (zhs (zhs μ 67 g67) 84 ((lgI (μ 72) gg i np ((0, P)) 729).2)))) (fun kT kF => ?_) ?_
      · skip
        refine pv_if_eq t_X11_league_67 (fun c67 => ?_) (fun c67 => ?_)
        · skip
          refine pv_iconst (v := 0) t_X11_league_76 zi_0 ?_
          exact kT c67
        · skip
          refine pv_iconst (v := 1) t_X11_league_70 zi_1 ?_
          refine pv_iload_n (i := 3) t_X11_league_71 rfl rfl ?_
          refine pv_ishl t_X11_league_72 ?_
          refine pv_goto t_X11_league_73 ?_
          exact kF c67
      refine pv_ior t_X11_league_77 ?_
      refine pv_istore_n (i := 2) t_X11_league_78 rfl (Nat.le_of_ble_eq_true rfl) ?_
      refine pv_iinc (v := 1) t_X11_league_79 rfl zi_1 ?_
      refine pv_goto t_X11_league_82 ?_
      refine pv_loc (lv' := [(0, _), (1, _), (2, _), (3, _)]) ⟨rfl, rfl, rfl, rfl, trivial⟩ ?_
      refine ih (i + 1) (by omega) (by omega) _ _ _ (nI_1 i) ?_
      have hs9 : (lgO (μ 72) gg np z0 (i + 1)) = lgO_F (μ 72) gg np i ((lgO (μ 72) gg np z0 i).1) ((lgO (μ 72) gg np z0 i).2) := rfl
      rw [hs9, ← hs]
      show _ = lgO_F (μ 72) gg np i z P
      unfold lgO_F
      rfl
def a_X11_league (f72 : Nat → Int32) (f84 : Nat → Int32) (x : Int32) (np : Nat) : Int32 := (if (a_X11_in x 1 2) = 0 then (-1000000002) else (lgO f72 x.toNatClampNeg np ((0, f84)) np).1)
def w_X11_league_67 (f67 : Nat → Int32) (x : Int32) : Nat → Int32 := (if (a_X11_in x 1 2) = 0 then (upd f67 0 0) else ((upd f67 0 0)))
def w_X11_league_84 (f72 : Nat → Int32) (f84 : Nat → Int32) (x : Int32) (np : Nat) : Nat → Int32 := (if (a_X11_in x 1 2) = 0 then f84 else (lgO f72 x.toNatClampNeg np ((0, f84)) np).2)
theorem e_X11_league {l : Launch} {X : zX} {d : Nat} {μ : zH} {np : Nat} {x : Int32} (hnp : μ 67 10 = nI np) (hp4 : np ≤ 4) (hmet : ∀ p, p < 6 → nb (μ 72 (45 + p)) 2000) : zRn l X mi_X11_league (d + 6) [.inr 67, .inl (x)] (zSH, μ) (some (.inl (a_X11_league (μ 72) (μ 84) x np))) (zSH, (zhs (zhs μ 67 (w_X11_league_67 (μ 67) x)) 84 (w_X11_league_84 (μ 72) (μ 84) x np))) := by
  refine pv_aload_n (i := 0) t_X11_league_0 rfl rfl ?_
  refine pv_iconst (v := 0) t_X11_league_1 zi_0 ?_
  refine sv_putI ((zhs μ 67 ((upd (μ 67) 0 0)))) t_X11_league_2 fl_X11_69 zfn_10_0 hh_67 rfl rfl ?_
  refine pv_iload_n (i := 1) t_X11_league_5 rfl rfl ?_
  refine pv_iconst (v := 1) t_X11_league_6 zi_1 ?_
  refine pv_iconst (v := 2) t_X11_league_7 zi_2 ?_
  refine sv_S3 (a_X11_in x 1 2) ((zhs μ 67 ((upd (μ 67) 0 0)))) t_X11_league_8 ml_X11_72 mo_X11_in (Nat.le_of_ble_eq_true rfl) (e_X11_in) (Nat.le_of_ble_eq_true rfl) rfl rfl ?_
  refine pv_if_ne t_X11_league_11 (fun c11 => ?_) (fun c11 => ?_)
  · skip
    obtain ⟨hx1, hx2⟩ := (in_nb1 (n := 2) (m := 1) rfl (by decide) rfl c11).1
    refine pv_iconst (v := 0) t_X11_league_17 zi_0 ?_
    refine pv_istore_n (i := 2) t_X11_league_18 rfl (Nat.le_of_ble_eq_true rfl) ?_
    refine pv_iconst (v := 0) t_X11_league_19 zi_0 ?_
    refine pv_istore_n (i := 3) t_X11_league_20 rfl (Nat.le_of_ble_eq_true rfl) ?_
    refine pv_loc (lv' := [(0, .inr 67), (1, .inl x), (2, .inl 0), (3, .inl 0)]) ⟨rfl, rfl, rfl, rfl, trivial⟩ ?_
    refine zls (llS (llI (n := x.toNatClampNeg) hx2 (llS (llS rfl)))) ?_
    refine zst (S2 := (zSH, (zhs (zhs μ 67 ((upd (μ 67) 0 0))) 84 (μ 84)))) (by symm; rw [zhs_i2 (ν := (zhs μ 67 ((upd (μ 67) 0 0)))) (k := 84) (g := (μ 84)) rfl]) ?_
    refine lp_lgO (gg := x.toNatClampNeg) (np := np) (g67 := ((upd (μ 67) 0 0))) (z0 := (0, (μ 84))) hnp hp4 (by omega) hmet ?_ (np + 1) 0 (by omega) (by omega) _ _ _ rfl rfl
    refine pv_iload_n (i := 2) t_X11_league_85 rfl rfl ?_
    exact pv_ireti t_X11_league_86 rfl (by unfold a_X11_league; rw [if_neg c11]) (Prod.ext rfl (by have e67 : w_X11_league_67 (μ 67) x = ((upd (μ 67) 0 0)) := (by unfold w_X11_league_67; rw [if_neg c11]); have e84 : w_X11_league_84 (μ 72) (μ 84) x np = (lgO (μ 72) x.toNatClampNeg np ((0, (μ 84))) np).2 := (by unfold w_X11_league_84; rw [if_neg c11]); show _ = (zhs (zhs μ 67 (w_X11_league_67 (μ 67) x)) 84 (w_X11_league_84 (μ 72) (μ 84) x np)); symm; rw [e67, e84]))
  · skip
    refine pv_ldc t_X11_league_14 kc_X11_76 ?_
    exact pv_ireti t_X11_league_16 rfl (by unfold a_X11_league; rw [if_pos c11]) (Prod.ext rfl (by have e67 : w_X11_league_67 (μ 67) x = (upd (μ 67) 0 0) := (by unfold w_X11_league_67; rw [if_pos c11]); have e84 : w_X11_league_84 (μ 72) (μ 84) x np = (μ 84) := (by unfold w_X11_league_84; rw [if_pos c11]); show _ = (zhs (zhs μ 67 (w_X11_league_67 (μ 67) x)) 84 (w_X11_league_84 (μ 72) (μ 84) x np)); symm; rw [e67, e84]; rw [zhs_i2 (ν := (zhs μ 67 ((upd (μ 67) 0 0)))) (k := 84) (g := (μ 84)) rfl]))
