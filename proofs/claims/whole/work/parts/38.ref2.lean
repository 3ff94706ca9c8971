theorem nb_ge {x : Int32} {n m : Nat} (h : nb x n) (hn : n < 2 ^ 31) (c : nI m ≤ x) (hm : m < 2 ^ 31) : m ≤ x.toNatClampNeg := by
  rw [h.2] at c
  have := h.1
  exact (nI_leI hm (by omega)).mp c
def a_X11_told (f67 : Nat → Int32) (f72 : Nat → Int32) (x : Int32) : Int32 := (if (a_X11_in x 0 12) = 0 then (-1000000002) else (if 3 ≤ x then (if 7 ≤ x then (if 9 ≤ x then (if x = 9 then f67 24 else (if x = 10 then f67 26 else (if x = 11 then f67 28 else f72 26))) else (if x = 8 then f72 25 else (if (a_X11_goesOn f72) = 0 then (-1) else a_X11_whose f72))) else f72 (((20 + x.toNatClampNeg) - 3))) else (if x = 0 then f67 10 else (if x = 1 then f67 11 else f67 2))))
def w_X11_told_67 (f67 : Nat → Int32) : Nat → Int32 := (upd f67 0 0)
theorem e_X11_told {l : Launch} {X : zX} {d : Nat} {μ : zH} {x : Int32} : zRn l X mi_X11_told (d + 5) [.inr 67, .inl (x)] (zSH, μ) (some (.inl (a_X11_told (μ 67) (μ 72) x))) (zSH, (zhs μ 67 (w_X11_told_67 (μ 67)))) := by
  refine pv_aload_n (i := 0) t_X11_told_0 rfl rfl ?_
  refine pv_iconst (v := 0) t_X11_told_1 zi_0 ?_
  refine sv_putI ((zhs μ 67 ((upd (μ 67) 0 0)))) t_X11_told_2 fl_X11_69 zfn_10_0 hh_67 rfl rfl ?_
  refine pv_iload_n (i := 1) t_X11_told_5 rfl rfl ?_
  refine pv_iconst (v := 0) t_X11_told_6 zi_0 ?_
  refine pv_bipush (v := 12) t_X11_told_7 zb_12 ?_
  refine sv_S3 (a_X11_in x 0 12) ((zhs μ 67 ((upd (μ 67) 0 0)))) t_X11_told_9 ml_X11_72 mo_X11_in (Nat.le_of_ble_eq_true rfl) (e_X11_in) (Nat.le_of_ble_eq_true rfl) rfl rfl ?_
  refine pv_if_ne t_X11_told_12 (fun c12 => ?_) (fun c12 => ?_)
  · skip
    obtain ⟨hx1, hx2⟩ := in_nb (n := 12) rfl (by decide) c12
    refine pv_iload_n (i := 1) t_X11_told_18 rfl rfl ?_
    refine pv_iconst (v := 3) t_X11_told_19 zi_3 ?_
    refine pv_icmp_ge t_X11_told_20 (fun c20 => ?_) (fun c20 => ?_)
    · skip
      refine pv_iload_n (i := 1) t_X11_told_51 rfl rfl ?_
      refine pv_bipush (v := 7) t_X11_told_52 zb_7 ?_
      refine pv_icmp_ge t_X11_told_54 (fun c54 => ?_) (fun c54 => ?_)
      · skip
        refine pv_iload_n (i := 1) t_X11_told_69 rfl rfl ?_
        refine pv_bipush (v := 9) t_X11_told_70 zb_9 ?_
        refine pv_icmp_ge t_X11_told_72 (fun c72 => ?_) (fun c72 => ?_)
        · skip
          refine pv_iload_n (i := 1) t_X11_told_107 rfl rfl ?_
          refine pv_bipush (v := 9) t_X11_told_108 zb_9 ?_
          refine pv_icmp_ne t_X11_told_110 (fun c110 => ?_) (fun c110 => ?_)
          · skip
            refine pv_iload_n (i := 1) t_X11_told_120 rfl rfl ?_
            refine pv_bipush (v := 10) t_X11_told_121 zb_10 ?_
            refine pv_icmp_ne t_X11_told_123 (fun c123 => ?_) (fun c123 => ?_)
            · skip
              refine pv_iload_n (i := 1) t_X11_told_133 rfl rfl ?_
              refine pv_bipush (v := 11) t_X11_told_134 zb_11 ?_
              refine pv_icmp_ne t_X11_told_136 (fun c136 => ?_) (fun c136 => ?_)
              · skip
                refine pv_aload_n (i := 0) t_X11_told_146 rfl rfl ?_
                refine pv_getR t_X11_told_147 fl_X11_26 hh_67 rfl ?_
                refine pv_bipush (v := 26) t_X11_told_150 zb_26 ?_
                refine sv_iald ((μ 72) 26) t_X11_told_152 (Or.inl hh_72) (zin (by decide)) rfl ?_
                exact pv_ireti t_X11_told_153 rfl (by unfold a_X11_told; rw [if_neg c12, if_pos c20, if_pos c54, if_pos c72, if_neg c110, if_neg c123, if_neg c136]) (Prod.ext rfl (by have e67 : w_X11_told_67 (μ 67) = (upd (μ 67) 0 0) := (by unfold w_X11_told_67; rfl); show _ = (zhs μ 67 (w_X11_told_67 (μ 67))); symm; rw [e67]))
              · skip
                refine pv_aload_n (i := 0) t_X11_told_139 rfl rfl ?_
                refine sv_getI ((μ 67) 28) t_X11_told_140 fl_X11_149 hh_67 rfl rfl ?_
                refine pv_goto t_X11_told_143 ?_
                exact pv_ireti t_X11_told_153 rfl (by unfold a_X11_told; rw [if_neg c12, if_pos c20, if_pos c54, if_pos c72, if_neg c110, if_neg c123, if_pos c136]) (Prod.ext rfl (by have e67 : w_X11_told_67 (μ 67) = (upd (μ 67) 0 0) := (by unfold w_X11_told_67; rfl); show _ = (zhs μ 67 (w_X11_told_67 (μ 67))); symm; rw [e67]))
            · skip
              refine pv_aload_n (i := 0) t_X11_told_126 rfl rfl ?_
              refine sv_getI ((μ 67) 26) t_X11_told_127 fl_X11_146 hh_67 rfl rfl ?_
              refine pv_goto t_X11_told_130 ?_
              exact pv_ireti t_X11_told_153 rfl (by unfold a_X11_told; rw [if_neg c12, if_pos c20, if_pos c54, if_pos c72, if_neg c110, if_pos c123]) (Prod.ext rfl (by have e67 : w_X11_told_67 (μ 67) = (upd (μ 67) 0 0) := (by unfold w_X11_told_67; rfl); show _ = (zhs μ 67 (w_X11_told_67 (μ 67))); symm; rw [e67]))
          · skip
            refine pv_aload_n (i := 0) t_X11_told_113 rfl rfl ?_
            refine sv_getI ((μ 67) 24) t_X11_told_114 fl_X11_143 hh_67 rfl rfl ?_
            refine pv_goto t_X11_told_117 ?_
            exact pv_ireti t_X11_told_153 rfl (by unfold a_X11_told; rw [if_neg c12, if_pos c20, if_pos c54, if_pos c72, if_pos c110]) (Prod.ext rfl (by have e67 : w_X11_told_67 (μ 67) = (upd (μ 67) 0 0) := (by unfold w_X11_told_67; rfl); show _ = (zhs μ 67 (w_X11_told_67 (μ 67))); symm; rw [e67]))
        · skip
          refine pv_iload_n (i := 1) t_X11_told_75 rfl rfl ?_
          refine pv_bipush (v := 8) t_X11_told_76 zb_8 ?_
          refine pv_icmp_ne t_X11_told_78 (fun c78 => ?_) (fun c78 => ?_)
          · skip
            refine pv_aload_n (i := 0) t_X11_told_91 rfl rfl ?_
            refine sv_V0 (a_X11_goesOn (μ 72)) ((zhs μ 67 ((upd (μ 67) 0 0)))) t_X11_told_92 ml_X11_155 mo_X11_goesOn hh_67 rfl (Nat.le_of_ble_eq_true rfl) (e_X11_goesOn) (Nat.le_of_ble_eq_true rfl) rfl rfl ?_
            refine pv_if_eq t_X11_told_95 (fun c95 => ?_) (fun c95 => ?_)
            · skip
              refine pv_iconst (v := -1) t_X11_told_105 zi_m1 ?_
              exact pv_ireti t_X11_told_106 rfl (by unfold a_X11_told; rw [if_neg c12, if_pos c20, if_pos c54, if_neg c72, if_neg c78, if_pos c95]) (Prod.ext rfl (by have e67 : w_X11_told_67 (μ 67) = (upd (μ 67) 0 0) := (by unfold w_X11_told_67; rfl); show _ = (zhs μ 67 (w_X11_told_67 (μ 67))); symm; rw [e67]))
            · skip
              refine pv_aload_n (i := 0) t_X11_told_98 rfl rfl ?_
              refine sv_V0 (a_X11_whose (μ 72)) ((zhs μ 67 ((upd (μ 67) 0 0)))) t_X11_told_99 ml_X11_158 mo_X11_whose hh_67 rfl (Nat.le_of_ble_eq_true rfl) (e_X11_whose) (Nat.le_of_ble_eq_true rfl) rfl rfl ?_
              refine pv_goto t_X11_told_102 ?_
              exact pv_ireti t_X11_told_106 rfl (by unfold a_X11_told; rw [if_neg c12, if_pos c20, if_pos c54, if_neg c72, if_neg c78, if_neg c95]) (Prod.ext rfl (by have e67 : w_X11_told_67 (μ 67) = (upd (μ 67) 0 0) := (by unfold w_X11_told_67; rfl); show _ = (zhs μ 67 (w_X11_told_67 (μ 67))); symm; rw [e67]))
          · skip
            refine pv_aload_n (i := 0) t_X11_told_81 rfl rfl ?_
            refine pv_getR t_X11_told_82 fl_X11_26 hh_67 rfl ?_
            refine pv_bipush (v := 25) t_X11_told_85 zb_25 ?_
            refine sv_iald ((μ 72) 25) t_X11_told_87 (Or.inl hh_72) (zin (by decide)) rfl ?_
            refine pv_goto t_X11_told_88 ?_
            exact pv_ireti t_X11_told_106 rfl (by unfold a_X11_told; rw [if_neg c12, if_pos c20, if_pos c54, if_neg c72, if_pos c78]) (Prod.ext rfl (by have e67 : w_X11_told_67 (μ 67) = (upd (μ 67) 0 0) := (by unfold w_X11_told_67; rfl); show _ = (zhs μ 67 (w_X11_told_67 (μ 67))); symm; rw [e67]))
      · skip
        have h3 : 3 ≤ x.toNatClampNeg := nb_ge (m := 3) ⟨hx1, hx2⟩ (by decide) c20 (by decide)
        refine pv_aload_n (i := 0) t_X11_told_57 rfl rfl ?_
        refine pv_getR t_X11_told_58 fl_X11_26 hh_67 rfl ?_
        refine pv_bipush (v := 20) t_X11_told_61 zb_20 ?_
        refine pv_iload_n (i := 1) t_X11_told_63 rfl rfl ?_
        refine pv_iadd t_X11_told_64 ?_
        refine pv_iconst (v := 3) t_X11_told_65 zi_3 ?_
        refine pv_isub t_X11_told_66 ?_
        refine sv_iald ((μ 72) (((20 + x.toNatClampNeg) - 3))) t_X11_told_67 (Or.inl hh_72) (ixi (k := ((20 + x.toNatClampNeg) - 3)) (nIsb (nIa rfl hx2) rfl (by omega)) (by omega) (by decide)) ((ixe (k := ((20 + x.toNatClampNeg) - 3)) (nIsb (nIa rfl hx2) rfl (by omega)) (by omega)).trans (by first | rfl | (simp only [zhs_s, pk_us]; done) | (simp [zhs, upd]; done))) ?_
        exact pv_ireti t_X11_told_68 rfl (by unfold a_X11_told; rw [if_neg c12, if_pos c20, if_neg c54]) (Prod.ext rfl (by have e67 : w_X11_told_67 (μ 67) = (upd (μ 67) 0 0) := (by unfold w_X11_told_67; rfl); show _ = (zhs μ 67 (w_X11_told_67 (μ 67))); symm; rw [e67]))
    · skip
      refine pv_iload_n (i := 1) t_X11_told_23 rfl rfl ?_
      refine pv_if_ne t_X11_told_24 (fun c24 => ?_) (fun c24 => ?_)
      · skip
        refine pv_iload_n (i := 1) t_X11_told_34 rfl rfl ?_
        refine pv_iconst (v := 1) t_X11_told_35 zi_1 ?_
        refine pv_icmp_ne t_X11_told_36 (fun c36 => ?_) (fun c36 => ?_)
        · skip
          refine pv_aload_n (i := 0) t_X11_told_46 rfl rfl ?_
          refine sv_getI ((μ 67) 2) t_X11_told_47 fl_X11_77 hh_67 rfl rfl ?_
          exact pv_ireti t_X11_told_50 rfl (by unfold a_X11_told; rw [if_neg c12, if_neg c20, if_neg c24, if_neg c36]) (Prod.ext rfl (by have e67 : w_X11_told_67 (μ 67) = (upd (μ 67) 0 0) := (by unfold w_X11_told_67; rfl); show _ = (zhs μ 67 (w_X11_told_67 (μ 67))); symm; rw [e67]))
        · skip
          refine pv_aload_n (i := 0) t_X11_told_39 rfl rfl ?_
          refine sv_getI ((μ 67) 11) t_X11_told_40 fl_X11_140 hh_67 rfl rfl ?_
          refine pv_goto t_X11_told_43 ?_
          exact pv_ireti t_X11_told_50 rfl (by unfold a_X11_told; rw [if_neg c12, if_neg c20, if_neg c24, if_pos c36]) (Prod.ext rfl (by have e67 : w_X11_told_67 (μ 67) = (upd (μ 67) 0 0) := (by unfold w_X11_told_67; rfl); show _ = (zhs μ 67 (w_X11_told_67 (μ 67))); symm; rw [e67]))
      · skip
        refine pv_aload_n (i := 0) t_X11_told_27 rfl rfl ?_
        refine sv_getI ((μ 67) 10) t_X11_told_28 fl_X11_137 hh_67 rfl rfl ?_
        refine pv_goto t_X11_told_31 ?_
        exact pv_ireti t_X11_told_50 rfl (by unfold a_X11_told; rw [if_neg c12, if_neg c20, if_pos c24]) (Prod.ext rfl (by have e67 : w_X11_told_67 (μ 67) = (upd (μ 67) 0 0) := (by unfold w_X11_told_67; rfl); show _ = (zhs μ 67 (w_X11_told_67 (μ 67))); symm; rw [e67]))
  · skip
    refine pv_ldc t_X11_told_15 kc_X11_76 ?_
    exact pv_ireti t_X11_told_17 rfl (by unfold a_X11_told; rw [if_pos c12]) (Prod.ext rfl (by have e67 : w_X11_told_67 (μ 67) = (upd (μ 67) 0 0) := (by unfold w_X11_told_67; rfl); show _ = (zhs μ 67 (w_X11_told_67 (μ 67))); symm; rw [e67]))
def a_X11_vanityOf (f72 : Nat → Int32) (e : Nat) (t : Nat) : Int32 := f72 (((4 + (4 * e)) + t))
theorem e_X11_vanityOf {l : Launch} {X : zX} {d : Nat} {μ : zH} {e : Nat} {t : Nat} (he : e < 4) (ht : t < 4) : zRn l X mi_X11_vanityOf (d + 1) [.inr 67, .inl (nI e), .inl (nI t)] (zSH, μ) (some (.inl (a_X11_vanityOf (μ 72) e t))) (zSH, μ) := by
  refine pv_aload_n (i := 0) t_X11_vanityOf_0 rfl rfl ?_
  refine pv_getR t_X11_vanityOf_1 fl_X11_26 hh_67 rfl ?_
  refine pv_iconst (v := 4) t_X11_vanityOf_4 zi_4 ?_
  refine pv_iconst (v := 4) t_X11_vanityOf_5 zi_4 ?_
  refine pv_iload_n (i := 1) t_X11_vanityOf_6 rfl rfl ?_
  refine pv_imul t_X11_vanityOf_7 ?_
  refine pv_iadd t_X11_vanityOf_8 ?_
  refine pv_iload_n (i := 2) t_X11_vanityOf_9 rfl rfl ?_
  refine pv_iadd t_X11_vanityOf_10 ?_
  refine sv_iald ((μ 72) (((4 + (4 * e)) + t))) t_X11_vanityOf_11 (Or.inl hh_72) (ixi (k := ((4 + (4 * e)) + t)) (nIa (nIa rfl (nIm rfl rfl)) rfl) (by omega) (by decide)) ((ixe (k := ((4 + (4 * e)) + t)) (nIa (nIa rfl (nIm rfl rfl)) rfl) (by omega)).trans (by first | rfl | (simp only [zhs_s, pk_us]; done) | (simp [zhs, upd]; done))) ?_
  exact pv_ireti t_X11_vanityOf_12 rfl (by unfold a_X11_vanityOf; rfl) rfl
def a_X11_truthBy (f70 : Nat → Int32) (c : Nat) (z : Int32) : Int32 := (if (a_X11_ones (((if 8 ≤ (f70 (((5 * c) + 3))) then (0 : Int32) else (1 <<< ((f70 (((5 * c) + 3))) &&& 31) : Int32)) ||| (if 8 ≤ (f70 (((5 * c) + 4))) then (0 : Int32) else (1 <<< ((f70 (((5 * c) + 4))) &&& 31) : Int32))) &&& z)) = (a_X11_ones ((if 8 ≤ (f70 (((5 * c) + 3))) then (0 : Int32) else (1 <<< ((f70 (((5 * c) + 3))) &&& 31) : Int32)) ||| (if 8 ≤ (f70 (((5 * c) + 4))) then (0 : Int32) else (1 <<< ((f70 (((5 * c) + 4))) &&& 31) : Int32)))) then 2 else (if (a_X11_ones (((if 8 ≤ (f70 (((5 * c) + 3))) then (0 : Int32) else (1 <<< ((f70 (((5 * c) + 3))) &&& 31) : Int32)) ||| (if 8 ≤ (f70 (((5 * c) + 4))) then (0 : Int32) else (1 <<< ((f70 (((5 * c) + 4))) &&& 31) : Int32))) &&& z)) ≤ 0 then 0 else 1))
theorem e_X11_truthBy {l : Launch} {X : zX} {d : Nat} {μ : zH} {c : Nat} {z : Int32} (hc : c < 16) : zRn l X mi_X11_truthBy (d + 3) [.inr 67, .inl (nI c), .inl (z)] (zSH, μ) (some (.inl (a_X11_truthBy (μ 70) c z))) (zSH, μ) := by
  refine pv_aload_n (i := 0) t_X11_truthBy_0 rfl rfl ?_
  refine pv_getR t_X11_truthBy_1 fl_X11_20 hh_67 rfl ?_
  refine pv_iconst (v := 5) t_X11_truthBy_4 zi_5 ?_
  refine pv_iload_n (i := 1) t_X11_truthBy_5 rfl rfl ?_
  refine pv_imul t_X11_truthBy_6 ?_
  refine pv_iconst (v := 3) t_X11_truthBy_7 zi_3 ?_
  refine pv_iadd t_X11_truthBy_8 ?_
  refine sv_iald ((μ 70) (((5 * c) + 3))) t_X11_truthBy_9 (Or.inl hh_70) (ixi (k := ((5 * c) + 3)) (nIa (nIm rfl rfl) rfl) (by omega) (by decide)) ((ixe (k := ((5 * c) + 3)) (nIa (nIm rfl rfl) rfl) (by omega)).trans (by first | rfl | (simp only [zhs_s, pk_us]; done) | (simp [zhs, upd]; done))) ?_
  refine pv_istore_n (i := 3) t_X11_truthBy_10 rfl (Nat.le_of_ble_eq_true rfl) ?_
  refine pv_aload_n (i := 0) t_X11_truthBy_11 rfl rfl ?_
  refine pv_getR t_X11_truthBy_12 fl_X11_20 hh_67 rfl ?_
  refine pv_iconst (v := 5) t_X11_truthBy_15 zi_5 ?_
  refine pv_iload_n (i := 1) t_X11_truthBy_16 rfl rfl ?_
  refine pv_imul t_X11_truthBy_17 ?_
  refine pv_iconst (v := 4) t_X11_truthBy_18 zi_4 ?_
  refine pv_iadd t_X11_truthBy_19 ?_
  refine sv_iald ((μ 70) (((5 * c) + 4))) t_X11_truthBy_20 (Or.inl hh_70) (ixi (k := ((5 * c) + 4)) (nIa (nIm rfl rfl) rfl) (by omega) (by decide)) ((ixe (k := ((5 * c) + 4)) (nIa (nIm rfl rfl) rfl) (by omega)).trans (by first | rfl | (simp only [zhs_s, pk_us]; done) | (simp [zhs, upd]; done))) ?_
  refine pv_istore t_X11_truthBy_21 (Nat.le_of_ble_eq_true rfl) ?_
  refine pv_iload_n (i := 3) t_X11_truthBy_23 rfl rfl ?_
  refine pv_bipush (v := 8) t_X11_truthBy_24 zb_8 ?_
  refine sv_phi (c := 8 ≤ ((μ 70) (((5 * c) + 3)))) (A := 0) (B := 1 <<< (((μ 70) (((5 * c) + 3))) &&& 31)) (J := 36) (lv := [(0, .inr 67), (1, .inl ((nI c))), (2, .inl z), (3, .inl ((μ 70) (((5 * c) + 3)))), (4, .inl ((μ 70) (((5 * c) + 4))))]) (st := []) (S := (zSH, μ)) (fun kT kF => ?_) ?_
  · skip
    refine pv_icmp_ge t_X11_truthBy_26 (fun c26 => ?_) (fun c26 => ?_)
    · skip
      refine pv_iconst (v := 0) t_X11_truthBy_35 zi_0 ?_
      exact kT c26
    · skip
      refine pv_iconst (v := 1) t_X11_truthBy_29 zi_1 ?_
      refine pv_iload_n (i := 3) t_X11_truthBy_30 rfl rfl ?_
      refine pv_ishl t_X11_truthBy_31 ?_
      refine pv_goto t_X11_truthBy_32 ?_
      exact kF c26
  refine pv_iload t_X11_truthBy_36 rfl ?_
  refine pv_bipush (v := 8) t_X11_truthBy_38 zb_8 ?_
  refine sv_phi (c := 8 ≤ ((μ 70) (((5 * c) + 4)))) (A := 0) (B := 1 <<< (((μ 70) (((5 * c) + 4))) &&& 31)) (J := 51) (lv := [(0, .inr 67), (1, .inl ((nI c))), (2, .inl z), (3, .inl ((μ 70) (((5 * c) + 3)))), (4, .inl ((μ 70) (((5 * c) + 4))))]) (st := [.inl (if 8 ≤ ((μ 70) (((5 * c) + 3))) then (0 : Int32) else (1 <<< (((μ 70) (((5 * c) + 3))) &&& 31) : Int32))]) (S := (zSH, μ)) (fun kT kF => ?_) ?_
  · skip
    refine pv_icmp_ge t_X11_truthBy_40 (fun c40 => ?_) (fun c40 => ?_)
    · skip
      refine pv_iconst (v := 0) t_X11_truthBy_50 zi_0 ?_
      exact kT c40
    · skip
      refine pv_iconst (v := 1) t_X11_truthBy_43 zi_1 ?_
      refine pv_iload t_X11_truthBy_44 rfl ?_
      refine pv_ishl t_X11_truthBy_46 ?_
      refine pv_goto t_X11_truthBy_47 ?_
      exact kF c40
  refine pv_ior t_X11_truthBy_51 ?_
  refine pv_istore t_X11_truthBy_52 (Nat.le_of_ble_eq_true rfl) ?_
  refine pv_iload t_X11_truthBy_54 rfl ?_
  refine pv_iload_n (i := 2) t_X11_truthBy_56 rfl rfl ?_
  refine pv_iand t_X11_truthBy_57 ?_
  refine sv_S1 (a_X11_ones (((if 8 ≤ ((μ 70) (((5 * c) + 3))) then (0 : Int32) else (1 <<< (((μ 70) (((5 * c) + 3))) &&& 31) : Int32)) ||| (if 8 ≤ ((μ 70) (((5 * c) + 4))) then (0 : Int32) else (1 <<< (((μ 70) (((5 * c) + 4))) &&& 31) : Int32))) &&& z)) μ t_X11_truthBy_58 ml_X11_172 mo_X11_ones (Nat.le_of_ble_eq_true rfl) (e_X11_ones) (Nat.le_of_ble_eq_true rfl) rfl rfl ?_
  refine pv_istore t_X11_truthBy_61 (Nat.le_of_ble_eq_true rfl) ?_
  refine pv_iload t_X11_truthBy_63 rfl ?_
  refine pv_iload t_X11_truthBy_65 rfl ?_
  refine sv_S1 (a_X11_ones ((if 8 ≤ ((μ 70) (((5 * c) + 3))) then (0 : Int32) else (1 <<< (((μ 70) (((5 * c) + 3))) &&& 31) : Int32)) ||| (if 8 ≤ ((μ 70) (((5 * c) + 4))) then (0 : Int32) else (1 <<< (((μ 70) (((5 * c) + 4))) &&& 31) : Int32)))) μ t_X11_truthBy_67 ml_X11_172 mo_X11_ones (Nat.le_of_ble_eq_true rfl) (e_X11_ones) (Nat.le_of_ble_eq_true rfl) rfl rfl ?_
  refine pv_icmp_ne t_X11_truthBy_70 (fun c70 => ?_) (fun c70 => ?_)
  · skip
    refine pv_iload t_X11_truthBy_77 rfl ?_
    refine pv_if_le t_X11_truthBy_79 (fun c79 => ?_) (fun c79 => ?_)
    · skip
      refine pv_iconst (v := 0) t_X11_truthBy_86 zi_0 ?_
      exact pv_ireti t_X11_truthBy_87 rfl (by unfold a_X11_truthBy; rw [if_neg c70, if_pos c79]) rfl
    · skip
      refine pv_iconst (v := 1) t_X11_truthBy_82 zi_1 ?_
      refine pv_goto t_X11_truthBy_83 ?_
      exact pv_ireti t_X11_truthBy_87 rfl (by unfold a_X11_truthBy; rw [if_neg c70, if_neg c79]) rfl
  · skip
    refine pv_iconst (v := 2) t_X11_truthBy_73 zi_2 ?_
    refine pv_goto t_X11_truthBy_74 ?_
    exact pv_ireti t_X11_truthBy_87 rfl (by unfold a_X11_truthBy; rw [if_pos c70]) rfl
def a_X11_duellist (f67 : Nat → Int32) (f69 : Nat → Int32) (f72 : Nat → Int32) (x : Int32) (w : Int32) : Int32 := (if (a_X11_isDuellist ((upd f67 0 0)) x) = 0 then (-1000000001) else (if (a_X11_in w 0 14) = 0 then (-1000000002) else (if 2 ≤ w then (if 8 ≤ w then (if (a_X11_sideOf f72 x) = ((-1)) then 0 else (if 11 ≤ w then f72 ((((33 + (4 * (a_X11_sideOf f72 x).toNatClampNeg)) + w.toNatClampNeg) - 11)) else f72 (((27 + (2 * (w.toNatClampNeg - 8))) + (a_X11_sideOf f72 x).toNatClampNeg)))) else (if 6 ≤ w then (if w = 6 then f72 x.toNatClampNeg else f72 ((41 + x.toNatClampNeg))) else f72 ((((4 + (4 * x.toNatClampNeg)) + w.toNatClampNeg) - 2)))) else f69 (((6 * x.toNatClampNeg) + w.toNatClampNeg)))))
def w_X11_duellist_67 (f67 : Nat → Int32) : Nat → Int32 := (upd f67 0 0)
theorem e_X11_duellist {l : Launch} {X : zX} {d : Nat} {μ : zH} {np : Nat} {x : Int32} {w : Int32} (hnp : μ 67 10 = nI np) (hp4 : np ≤ 4) : zRn l X mi_X11_duellist (d + 5) [.inr 67, .inl (x), .inl (w)] (zSH, μ) (some (.inl (a_X11_duellist (μ 67) (μ 69) (μ 72) x w))) (zSH, (zhs μ 67 (w_X11_duellist_67 (μ 67)))) := by
  refine pv_aload_n (i := 0) t_X11_duellist_0 rfl rfl ?_
  refine pv_iconst (v := 0) t_X11_duellist_1 zi_0 ?_
  refine sv_putI ((zhs μ 67 ((upd (μ 67) 0 0)))) t_X11_duellist_2 fl_X11_69 zfn_10_0 hh_67 rfl rfl ?_
  refine pv_aload_n (i := 0) t_X11_duellist_5 rfl rfl ?_
  refine pv_iload_n (i := 1) t_X11_duellist_6 rfl rfl ?_
  refine sv_V1 (a_X11_isDuellist ((upd (μ 67) 0 0)) x) ((zhs μ 67 ((upd (μ 67) 0 0)))) t_X11_duellist_7 ml_X11_161 mo_X11_isDuellist hh_67 rfl (Nat.le_of_ble_eq_true rfl) (e_X11_isDuellist) (Nat.le_of_ble_eq_true rfl) rfl rfl ?_
  refine pv_if_ne t_X11_duellist_10 (fun c10 => ?_) (fun c10 => ?_)
  · skip
    obtain ⟨hx1, hx2⟩ := (isd (f := μ 67) hnp hp4 c10).2
    refine pv_iload_n (i := 2) t_X11_duellist_16 rfl rfl ?_
    refine pv_iconst (v := 0) t_X11_duellist_17 zi_0 ?_
    refine pv_bipush (v := 14) t_X11_duellist_18 zb_14 ?_
    refine sv_S3 (a_X11_in w 0 14) ((zhs μ 67 ((upd (μ 67) 0 0)))) t_X11_duellist_20 ml_X11_72 mo_X11_in (Nat.le_of_ble_eq_true rfl) (e_X11_in) (Nat.le_of_ble_eq_true rfl) rfl rfl ?_
    refine pv_if_ne t_X11_duellist_23 (fun c23 => ?_) (fun c23 => ?_)
    · skip
      obtain ⟨hw1, hw2⟩ := in_nb (n := 14) rfl (by decide) c23
      refine pv_iload_n (i := 2) t_X11_duellist_29 rfl rfl ?_
      refine pv_iconst (v := 2) t_X11_duellist_30 zi_2 ?_
      refine pv_icmp_ge t_X11_duellist_31 (fun c31 => ?_) (fun c31 => ?_)
      · skip
        refine pv_iload_n (i := 2) t_X11_duellist_46 rfl rfl ?_
        refine pv_bipush (v := 8) t_X11_duellist_47 zb_8 ?_
        refine pv_icmp_ge t_X11_duellist_49 (fun c49 => ?_) (fun c49 => ?_)
        · skip
          refine pv_aload_n (i := 0) t_X11_duellist_100 rfl rfl ?_
          refine pv_iload_n (i := 1) t_X11_duellist_101 rfl rfl ?_
          refine sv_V1 (a_X11_sideOf (μ 72) x) ((zhs μ 67 ((upd (μ 67) 0 0)))) t_X11_duellist_102 ml_X11_166 mo_X11_sideOf hh_67 rfl (Nat.le_of_ble_eq_true rfl) (e_X11_sideOf) (Nat.le_of_ble_eq_true rfl) rfl rfl ?_
          refine pv_istore_n (i := 3) t_X11_duellist_105 rfl (Nat.le_of_ble_eq_true rfl) ?_
          refine pv_iload_n (i := 3) t_X11_duellist_106 rfl rfl ?_
          refine pv_iconst (v := -1) t_X11_duellist_107 zi_m1 ?_
          refine pv_icmp_ne t_X11_duellist_108 (fun c108 => ?_) (fun c108 => ?_)
          · skip
            obtain ⟨hs1, hs2⟩ := sd_nb c108
            have h8 : 8 ≤ w.toNatClampNeg := nb_ge (m := 8) ⟨hw1, hw2⟩ (by decide) c49 (by decide)
            refine pv_iload_n (i := 2) t_X11_duellist_113 rfl rfl ?_
            refine pv_bipush (v := 11) t_X11_duellist_114 zb_11 ?_
            refine pv_icmp_ge t_X11_duellist_116 (fun c116 => ?_) (fun c116 => ?_)
            · skip
              have h11 : 11 ≤ w.toNatClampNeg := nb_ge (m := 11) ⟨hw1, hw2⟩ (by decide) c116 (by decide)
              refine pv_aload_n (i := 0) t_X11_duellist_138 rfl rfl ?_
              refine pv_getR t_X11_duellist_139 fl_X11_26 hh_67 rfl ?_
              refine pv_bipush (v := 33) t_X11_duellist_142 zb_33 ?_
              refine pv_iconst (v := 4) t_X11_duellist_144 zi_4 ?_
              refine pv_iload_n (i := 3) t_X11_duellist_145 rfl rfl ?_
              refine pv_imul t_X11_duellist_146 ?_
              refine pv_iadd t_X11_duellist_147 ?_
              refine pv_iload_n (i := 2) t_X11_duellist_148 rfl rfl ?_
              refine pv_iadd t_X11_duellist_149 ?_
              refine pv_bipush (v := 11) t_X11_duellist_150 zb_11 ?_
              refine pv_isub t_X11_duellist_152 ?_
              refine sv_iald ((μ 72) ((((33 + (4 * (a_X11_sideOf (μ 72) x).toNatClampNeg)) + w.toNatClampNeg) - 11))) t_X11_duellist_153 (Or.inl hh_72) (ixi (k := (((33 + (4 * (a_X11_sideOf (μ 72) x).toNatClampNeg)) + w.toNatClampNeg) - 11)) (nIsb (nIa (nIa rfl (nIm rfl hs2)) hw2) rfl (by omega)) (by omega) (by decide)) ((ixe (k := (((33 + (4 * (a_X11_sideOf (μ 72) x).toNatClampNeg)) + w.toNatClampNeg) - 11)) (nIsb (nIa (nIa rfl (nIm rfl hs2)) hw2) rfl (by omega)) (by omega)).trans (by first | rfl | (simp only [zhs_s, pk_us]; done) | (simp [zhs, upd]; done))) ?_
              exact pv_ireti t_X11_duellist_154 rfl (by unfold a_X11_duellist; rw [if_neg c10, if_neg c23, if_pos c31, if_pos c49, if_neg c108, if_pos c116]) (Prod.ext rfl (by have e67 : w_X11_duellist_67 (μ 67) = (upd (μ 67) 0 0) := (by unfold w_X11_duellist_67; rfl); show _ = (zhs μ 67 (w_X11_duellist_67 (μ 67))); symm; rw [e67]))
            · skip
              refine pv_aload_n (i := 0) t_X11_duellist_119 rfl rfl ?_
              refine pv_getR t_X11_duellist_120 fl_X11_26 hh_67 rfl ?_
              refine pv_bipush (v := 27) t_X11_duellist_123 zb_27 ?_
              refine pv_iconst (v := 2) t_X11_duellist_125 zi_2 ?_
              refine pv_iload_n (i := 2) t_X11_duellist_126 rfl rfl ?_
              refine pv_bipush (v := 8) t_X11_duellist_127 zb_8 ?_
              refine pv_isub t_X11_duellist_129 ?_
              refine pv_imul t_X11_duellist_130 ?_
              refine pv_iadd t_X11_duellist_131 ?_
              refine pv_iload_n (i := 3) t_X11_duellist_132 rfl rfl ?_
              refine pv_iadd t_X11_duellist_133 ?_
              refine sv_iald ((μ 72) (((27 + (2 * (w.toNatClampNeg - 8))) + (a_X11_sideOf (μ 72) x).toNatClampNeg))) t_X11_duellist_134 (Or.inl hh_72) (ixi (k := ((27 + (2 * (w.toNatClampNeg - 8))) + (a_X11_sideOf (μ 72) x).toNatClampNeg)) (nIa (nIa rfl (nIm rfl (nIsb hw2 rfl (by omega)))) hs2) (by omega) (by decide)) ((ixe (k := ((27 + (2 * (w.toNatClampNeg - 8))) + (a_X11_sideOf (μ 72) x).toNatClampNeg)) (nIa (nIa rfl (nIm rfl (nIsb hw2 rfl (by omega)))) hs2) (by omega)).trans (by first | rfl | (simp only [zhs_s, pk_us]; done) | (simp [zhs, upd]; done))) ?_
              refine pv_goto t_X11_duellist_135 ?_
              exact pv_ireti t_X11_duellist_154 rfl (by unfold a_X11_duellist; rw [if_neg c10, if_neg c23, if_pos c31, if_pos c49, if_neg c108, if_neg c116]) (Prod.ext rfl (by have e67 : w_X11_duellist_67 (μ 67) = (upd (μ 67) 0 0) := (by unfold w_X11_duellist_67; rfl); show _ = (zhs μ 67 (w_X11_duellist_67 (μ 67))); symm; rw [e67]))
          · skip
            refine pv_iconst (v := 0) t_X11_duellist_111 zi_0 ?_
            exact pv_ireti t_X11_duellist_112 rfl (by unfold a_X11_duellist; rw [if_neg c10, if_neg c23, if_pos c31, if_pos c49, if_pos c108]) (Prod.ext rfl (by have e67 : w_X11_duellist_67 (μ 67) = (upd (μ 67) 0 0) := (by unfold w_X11_duellist_67; rfl); show _ = (zhs μ 67 (w_X11_duellist_67 (μ 67))); symm; rw [e67]))
        · skip
          refine pv_iload_n (i := 2) t_X11_duellist_52 rfl rfl ?_
          refine pv_bipush (v := 6) t_X11_duellist_53 zb_6 ?_
          refine pv_icmp_ge t_X11_duellist_55 (fun c55 => ?_) (fun c55 => ?_)
          · skip
            refine pv_iload_n (i := 2) t_X11_duellist_75 rfl rfl ?_
            refine pv_bipush (v := 6) t_X11_duellist_76 zb_6 ?_
            refine pv_icmp_ne t_X11_duellist_78 (fun c78 => ?_) (fun c78 => ?_)
            · skip
              refine pv_aload_n (i := 0) t_X11_duellist_90 rfl rfl ?_
              refine pv_getR t_X11_duellist_91 fl_X11_26 hh_67 rfl ?_
              refine pv_bipush (v := 41) t_X11_duellist_94 zb_41 ?_
              refine pv_iload_n (i := 1) t_X11_duellist_96 rfl rfl ?_
              refine pv_iadd t_X11_duellist_97 ?_
              refine sv_iald ((μ 72) ((41 + x.toNatClampNeg))) t_X11_duellist_98 (Or.inl hh_72) (ixi (k := (41 + x.toNatClampNeg)) (nIa rfl hx2) (by omega) (by decide)) ((ixe (k := (41 + x.toNatClampNeg)) (nIa rfl hx2) (by omega)).trans (by first | rfl | (simp only [zhs_s, pk_us]; done) | (simp [zhs, upd]; done))) ?_
              exact pv_ireti t_X11_duellist_99 rfl (by unfold a_X11_duellist; rw [if_neg c10, if_neg c23, if_pos c31, if_neg c49, if_pos c55, if_neg c78]) (Prod.ext rfl (by have e67 : w_X11_duellist_67 (μ 67) = (upd (μ 67) 0 0) := (by unfold w_X11_duellist_67; rfl); show _ = (zhs μ 67 (w_X11_duellist_67 (μ 67))); symm; rw [e67]))
            · skip
              refine pv_aload_n (i := 0) t_X11_duellist_81 rfl rfl ?_
              refine pv_getR t_X11_duellist_82 fl_X11_26 hh_67 rfl ?_
              refine pv_iload_n (i := 1) t_X11_duellist_85 rfl rfl ?_
              refine sv_iald ((μ 72) x.toNatClampNeg) t_X11_duellist_86 (Or.inl hh_72) (ixi (k := x.toNatClampNeg) hx2 (by omega) (by decide)) ((ixe (k := x.toNatClampNeg) hx2 (by omega)).trans (by first | rfl | (simp only [zhs_s, pk_us]; done) | (simp [zhs, upd]; done))) ?_
              refine pv_goto t_X11_duellist_87 ?_
              exact pv_ireti t_X11_duellist_99 rfl (by unfold a_X11_duellist; rw [if_neg c10, if_neg c23, if_pos c31, if_neg c49, if_pos c55, if_pos c78]) (Prod.ext rfl (by have e67 : w_X11_duellist_67 (μ 67) = (upd (μ 67) 0 0) := (by unfold w_X11_duellist_67; rfl); show _ = (zhs μ 67 (w_X11_duellist_67 (μ 67))); symm; rw [e67]))
          · skip
            refine pv_aload_n (i := 0) t_X11_duellist_58 rfl rfl ?_
            refine pv_getR t_X11_duellist_59 fl_X11_26 hh_67 rfl ?_
            refine pv_iconst (v := 4) t_X11_duellist_62 zi_4 ?_
            refine pv_iconst (v := 4) t_X11_duellist_63 zi_4 ?_
            refine pv_iload_n (i := 1) t_X11_duellist_64 rfl rfl ?_
            refine pv_imul t_X11_duellist_65 ?_
            refine pv_iadd t_X11_duellist_66 ?_
            refine pv_iload_n (i := 2) t_X11_duellist_67 rfl rfl ?_
            refine pv_iadd t_X11_duellist_68 ?_
            refine pv_iconst (v := 2) t_X11_duellist_69 zi_2 ?_
            refine pv_isub t_X11_duellist_70 ?_
            refine sv_iald ((μ 72) ((((4 + (4 * x.toNatClampNeg)) + w.toNatClampNeg) - 2))) t_X11_duellist_71 (Or.inl hh_72) (ixi (k := (((4 + (4 * x.toNatClampNeg)) + w.toNatClampNeg) - 2)) (nIsb (nIa (nIa rfl (nIm rfl hx2)) hw2) rfl (by omega)) (by omega) (by decide)) ((ixe (k := (((4 + (4 * x.toNatClampNeg)) + w.toNatClampNeg) - 2)) (nIsb (nIa (nIa rfl (nIm rfl hx2)) hw2) rfl (by omega)) (by omega)).trans (by first | rfl | (simp only [zhs_s, pk_us]; done) | (simp [zhs, upd]; done))) ?_
            refine pv_goto t_X11_duellist_72 ?_
            exact pv_ireti t_X11_duellist_99 rfl (by unfold a_X11_duellist; rw [if_neg c10, if_neg c23, if_pos c31, if_neg c49, if_neg c55]) (Prod.ext rfl (by have e67 : w_X11_duellist_67 (μ 67) = (upd (μ 67) 0 0) := (by unfold w_X11_duellist_67; rfl); show _ = (zhs μ 67 (w_X11_duellist_67 (μ 67))); symm; rw [e67]))
      · skip
        refine pv_aload_n (i := 0) t_X11_duellist_34 rfl rfl ?_
        refine pv_getR t_X11_duellist_35 fl_X11_17 hh_67 rfl ?_
        refine pv_bipush (v := 6) t_X11_duellist_38 zb_6 ?_
        refine pv_iload_n (i := 1) t_X11_duellist_40 rfl rfl ?_
        refine pv_imul t_X11_duellist_41 ?_
        refine pv_iload_n (i := 2) t_X11_duellist_42 rfl rfl ?_
        refine pv_iadd t_X11_duellist_43 ?_
        refine sv_iald ((μ 69) (((6 * x.toNatClampNeg) + w.toNatClampNeg))) t_X11_duellist_44 (Or.inl hh_69) (ixi (k := ((6 * x.toNatClampNeg) + w.toNatClampNeg)) (nIa (nIm rfl hx2) hw2) (by omega) (by decide)) ((ixe (k := ((6 * x.toNatClampNeg) + w.toNatClampNeg)) (nIa (nIm rfl hx2) hw2) (by omega)).trans (by first | rfl | (simp only [zhs_s, pk_us]; done) | (simp [zhs, upd]; done))) ?_
        exact pv_ireti t_X11_duellist_45 rfl (by unfold a_X11_duellist; rw [if_neg c10, if_neg c23, if_neg c31]) (Prod.ext rfl (by have e67 : w_X11_duellist_67 (μ 67) = (upd (μ 67) 0 0) := (by unfold w_X11_duellist_67; rfl); show _ = (zhs μ 67 (w_X11_duellist_67 (μ 67))); symm; rw [e67]))
    · skip
      refine pv_ldc t_X11_duellist_26 kc_X11_76 ?_
      exact pv_ireti t_X11_duellist_28 rfl (by unfold a_X11_duellist; rw [if_neg c10, if_pos c23]) (Prod.ext rfl (by have e67 : w_X11_duellist_67 (μ 67) = (upd (μ 67) 0 0) := (by unfold w_X11_duellist_67; rfl); show _ = (zhs μ 67 (w_X11_duellist_67 (μ 67))); symm; rw [e67]))
  · skip
    refine pv_ldc t_X11_duellist_13 kc_X11_165 ?_
    exact pv_ireti t_X11_duellist_15 rfl (by unfold a_X11_duellist; rw [if_pos c10]) (Prod.ext rfl (by have e67 : w_X11_duellist_67 (μ 67) = (upd (μ 67) 0 0) := (by unfold w_X11_duellist_67; rfl); show _ = (zhs μ 67 (w_X11_duellist_67 (μ 67))); symm; rw [e67]))
def a_X11_compliment (f67 : Nat → Int32) (f70 : Nat → Int32) (x : Int32) (w : Int32) : Int32 := (if (a_X11_isCompliment ((upd f67 0 0)) x) = 0 then (-1000000001) else (if (a_X11_in w 0 4) = 0 then (-1000000002) else f70 (((5 * x.toNatClampNeg) + w.toNatClampNeg))))
def w_X11_compliment_67 (f67 : Nat → Int32) : Nat → Int32 := (upd f67 0 0)
theorem e_X11_compliment {l : Launch} {X : zX} {d : Nat} {μ : zH} {nc : Nat} {x : Int32} {w : Int32} (hnc : μ 67 11 = nI nc) (hc8 : nc ≤ 8) : zRn l X mi_X11_compliment (d + 5) [.inr 67, .inl (x), .inl (w)] (zSH, μ) (some (.inl (a_X11_compliment (μ 67) (μ 70) x w))) (zSH, (zhs μ 67 (w_X11_compliment_67 (μ 67)))) := by
  refine pv_aload_n (i := 0) t_X11_compliment_0 rfl rfl ?_
  refine pv_iconst (v := 0) t_X11_compliment_1 zi_0 ?_
  refine sv_putI ((zhs μ 67 ((upd (μ 67) 0 0)))) t_X11_compliment_2 fl_X11_69 zfn_10_0 hh_67 rfl rfl ?_
  refine pv_aload_n (i := 0) t_X11_compliment_5 rfl rfl ?_
  refine pv_iload_n (i := 1) t_X11_compliment_6 rfl rfl ?_
  refine sv_V1 (a_X11_isCompliment ((upd (μ 67) 0 0)) x) ((zhs μ 67 ((upd (μ 67) 0 0)))) t_X11_compliment_7 ml_X11_169 mo_X11_isCompliment hh_67 rfl (Nat.le_of_ble_eq_true rfl) (e_X11_isCompliment) (Nat.le_of_ble_eq_true rfl) rfl rfl ?_
  refine pv_if_ne t_X11_compliment_10 (fun c10 => ?_) (fun c10 => ?_)
  · skip
    obtain ⟨hx1, hx2⟩ := (isc (f := μ 67) hnc hc8 c10).2
    refine pv_iload_n (i := 2) t_X11_compliment_16 rfl rfl ?_
    refine pv_iconst (v := 0) t_X11_compliment_17 zi_0 ?_
    refine pv_iconst (v := 4) t_X11_compliment_18 zi_4 ?_
    refine sv_S3 (a_X11_in w 0 4) ((zhs μ 67 ((upd (μ 67) 0 0)))) t_X11_compliment_19 ml_X11_72 mo_X11_in (Nat.le_of_ble_eq_true rfl) (e_X11_in) (Nat.le_of_ble_eq_true rfl) rfl rfl ?_
    refine pv_if_eq t_X11_compliment_22 (fun c22 => ?_) (fun c22 => ?_)
    · skip
      refine pv_ldc t_X11_compliment_38 kc_X11_76 ?_
      exact pv_ireti t_X11_compliment_40 rfl (by unfold a_X11_compliment; rw [if_neg c10, if_pos c22]) (Prod.ext rfl (by have e67 : w_X11_compliment_67 (μ 67) = (upd (μ 67) 0 0) := (by unfold w_X11_compliment_67; rfl); show _ = (zhs μ 67 (w_X11_compliment_67 (μ 67))); symm; rw [e67]))
    · skip
      obtain ⟨hw1, hw2⟩ := in_nb (n := 4) rfl (by decide) c22
      refine pv_aload_n (i := 0) t_X11_compliment_25 rfl rfl ?_
      refine pv_getR t_X11_compliment_26 fl_X11_20 hh_67 rfl ?_
      refine pv_iconst (v := 5) t_X11_compliment_29 zi_5 ?_
      refine pv_iload_n (i := 1) t_X11_compliment_30 rfl rfl ?_
      refine pv_imul t_X11_compliment_31 ?_
      refine pv_iload_n (i := 2) t_X11_compliment_32 rfl rfl ?_
      refine pv_iadd t_X11_compliment_33 ?_
      refine sv_iald ((μ 70) (((5 * x.toNatClampNeg) + w.toNatClampNeg))) t_X11_compliment_34 (Or.inl hh_70) (ixi (k := ((5 * x.toNatClampNeg) + w.toNatClampNeg)) (nIa (nIm rfl hx2) hw2) (by omega) (by decide)) ((ixe (k := ((5 * x.toNatClampNeg) + w.toNatClampNeg)) (nIa (nIm rfl hx2) hw2) (by omega)).trans (by first | rfl | (simp only [zhs_s, pk_us]; done) | (simp [zhs, upd]; done))) ?_
      refine pv_goto t_X11_compliment_35 ?_
      exact pv_ireti t_X11_compliment_40 rfl (by unfold a_X11_compliment; rw [if_neg c10, if_neg c22]) (Prod.ext rfl (by have e67 : w_X11_compliment_67 (μ 67) = (upd (μ 67) 0 0) := (by unfold w_X11_compliment_67; rfl); show _ = (zhs μ 67 (w_X11_compliment_67 (μ 67))); symm; rw [e67]))
  · skip
    refine pv_ldc t_X11_compliment_13 kc_X11_165 ?_
    exact pv_ireti t_X11_compliment_15 rfl (by unfold a_X11_compliment; rw [if_pos c10]) (Prod.ext rfl (by have e67 : w_X11_compliment_67 (μ 67) = (upd (μ 67) 0 0) := (by unfold w_X11_compliment_67; rfl); show _ = (zhs μ 67 (w_X11_compliment_67 (μ 67))); symm; rw [e67]))
def a_X11_truth (f67 : Nat → Int32) (f70 : Nat → Int32) (f72 : Nat → Int32) (x : Int32) (y : Int32) : Int32 := (if (a_X11_isCompliment ((upd f67 0 0)) x) = 0 then (-1000000001) else (if (a_X11_isDuellist ((upd f67 0 0)) y) = 0 then (-1000000001) else a_X11_truthBy f70 x.toNatClampNeg (f72 y.toNatClampNeg)))
def w_X11_truth_67 (f67 : Nat → Int32) : Nat → Int32 := (upd f67 0 0)
theorem e_X11_truth {l : Launch} {X : zX} {d : Nat} {μ : zH} {np nc : Nat} {x : Int32} {y : Int32} (hnp : μ 67 10 = nI np) (hp4 : np ≤ 4) (hnc : μ 67 11 = nI nc) (hc8 : nc ≤ 8) : zRn l X mi_X11_truth (d + 5) [.inr 67, .inl (x), .inl (y)] (zSH, μ) (some (.inl (a_X11_truth (μ 67) (μ 70) (μ 72) x y))) (zSH, (zhs μ 67 (w_X11_truth_67 (μ 67)))) := by
  refine pv_aload_n (i := 0) t_X11_truth_0 rfl rfl ?_
  refine pv_iconst (v := 0) t_X11_truth_1 zi_0 ?_
  refine sv_putI ((zhs μ 67 ((upd (μ 67) 0 0)))) t_X11_truth_2 fl_X11_69 zfn_10_0 hh_67 rfl rfl ?_
  refine pv_aload_n (i := 0) t_X11_truth_5 rfl rfl ?_
  refine pv_iload_n (i := 1) t_X11_truth_6 rfl rfl ?_
  refine sv_V1 (a_X11_isCompliment ((upd (μ 67) 0 0)) x) ((zhs μ 67 ((upd (μ 67) 0 0)))) t_X11_truth_7 ml_X11_169 mo_X11_isCompliment hh_67 rfl (Nat.le_of_ble_eq_true rfl) (e_X11_isCompliment) (Nat.le_of_ble_eq_true rfl) rfl rfl ?_
  refine pv_if_eq t_X11_truth_10 (fun c10 => ?_) (fun c10 => ?_)
  · skip
    refine pv_ldc t_X11_truth_35 kc_X11_165 ?_
    exact pv_ireti t_X11_truth_37 rfl (by unfold a_X11_truth; rw [if_pos c10]) (Prod.ext rfl (by have e67 : w_X11_truth_67 (μ 67) = (upd (μ 67) 0 0) := (by unfold w_X11_truth_67; rfl); show _ = (zhs μ 67 (w_X11_truth_67 (μ 67))); symm; rw [e67]))
  · skip
    obtain ⟨hx1, hx2⟩ := (isc (f := μ 67) hnc hc8 c10).2
    refine pv_aload_n (i := 0) t_X11_truth_13 rfl rfl ?_
    refine pv_iload_n (i := 2) t_X11_truth_14 rfl rfl ?_
    refine sv_V1 (a_X11_isDuellist ((upd (μ 67) 0 0)) y) ((zhs μ 67 ((upd (μ 67) 0 0)))) t_X11_truth_15 ml_X11_161 mo_X11_isDuellist hh_67 rfl (Nat.le_of_ble_eq_true rfl) (e_X11_isDuellist) (Nat.le_of_ble_eq_true rfl) rfl rfl ?_
    refine pv_if_eq t_X11_truth_18 (fun c18 => ?_) (fun c18 => ?_)
    · skip
      refine pv_ldc t_X11_truth_35 kc_X11_165 ?_
      exact pv_ireti t_X11_truth_37 rfl (by unfold a_X11_truth; rw [if_neg c10, if_pos c18]) (Prod.ext rfl (by have e67 : w_X11_truth_67 (μ 67) = (upd (μ 67) 0 0) := (by unfold w_X11_truth_67; rfl); show _ = (zhs μ 67 (w_X11_truth_67 (μ 67))); symm; rw [e67]))
    · skip
      obtain ⟨hy1, hy2⟩ := (isd (f := μ 67) hnp hp4 c18).2
      refine pv_aload_n (i := 0) t_X11_truth_21 rfl rfl ?_
      refine pv_iload_n (i := 1) t_X11_truth_22 rfl rfl ?_
      refine pv_aload_n (i := 0) t_X11_truth_23 rfl rfl ?_
      refine pv_getR t_X11_truth_24 fl_X11_26 hh_67 rfl ?_
      refine pv_iload_n (i := 2) t_X11_truth_27 rfl rfl ?_
      refine sv_iald ((μ 72) y.toNatClampNeg) t_X11_truth_28 (Or.inl hh_72) (ixi (k := y.toNatClampNeg) hy2 (by omega) (by decide)) ((ixe (k := y.toNatClampNeg) hy2 (by omega)).trans (by first | rfl | (simp only [zhs_s, pk_us]; done) | (simp [zhs, upd]; done))) ?_
      refine sv_V2 (a_X11_truthBy (μ 70) x.toNatClampNeg ((μ 72) y.toNatClampNeg)) ((zhs μ 67 ((upd (μ 67) 0 0)))) t_X11_truth_29 ml_X11_175 mo_X11_truthBy hh_67 rfl (Nat.le_of_ble_eq_true rfl) (zas (lcS (lcI (k := x.toNatClampNeg) hx2 (lcS rfl))) (e_X11_truthBy (c := x.toNatClampNeg) (by omega))) (Nat.le_of_ble_eq_true rfl) rfl rfl ?_
      refine pv_goto t_X11_truth_32 ?_
      exact pv_ireti t_X11_truth_37 rfl (by unfold a_X11_truth; rw [if_neg c10, if_neg c18]) (Prod.ext rfl (by have e67 : w_X11_truth_67 (μ 67) = (upd (μ 67) 0 0) := (by unfold w_X11_truth_67; rfl); show _ = (zhs μ 67 (w_X11_truth_67 (μ 67))); symm; rw [e67]))
def hlf : Nat → Int32 → Int32
  | 0, v => v
  | k + 1, v => hlf k (v / 2)
theorem lp_X11_effectBy {l : Launch} {X : zX} {d : Nat} {μ : zH} {c e tt : Nat} {v0 tr : Int32} (htt : tt < 1000) : ∀ j i : Nat, i + j = tt + 1 → i ≤ tt → ∀ (y v : Int32), y = nI i → zEv l X mi_X11_effectBy (d + 1) 56 [(0, .inr 67), (1, .inl (nI c)), (2, .inl (nI e)), (3, .inl v0), (4, .inl (nI tt)), (5, .inl tr), (6, .inl v), (7, .inl y)] [] (zSH, μ) 0 0 (some (.inl (hlf (tt - i) v))) (zSH, μ) := by
  intro j
  induction j with
  | zero => intro i h h2; omega
  | succ j ih =>
    intro i hij hle y v hy
    subst hy
    refine pv_iload t_X11_effectBy_56 rfl ?_
    refine pv_iload t_X11_effectBy_58 rfl ?_
    refine pv_icmp_ge t_X11_effectBy_60 (fun c60 => ?_) (fun c60 => ?_)
    · skip
      have hie : i = tt := by have := (nI_leI (by omega) (by omega)).mp c60; omega
      subst hie
      rw [Nat.sub_self, hlf]
      exact pv_iload t_X11_effectBy_75 rfl (pv_ireti t_X11_effectBy_77 rfl rfl rfl)
    · skip
      have hin : i < tt := Nat.lt_of_not_le (fun q => c60 (nI_le q (by omega)))
      refine pv_iload t_X11_effectBy_63 rfl ?_
      refine pv_iconst (v := 2) t_X11_effectBy_65 zi_2 ?_
      refine pv_idiv t_X11_effectBy_66 (by decide) ?_
      refine pv_istore t_X11_effectBy_67 (Nat.le_of_ble_eq_true rfl) ?_
      refine pv_iinc (v := 1) t_X11_effectBy_69 rfl zi_1 ?_
      refine pv_goto t_X11_effectBy_72 ?_
      refine pv_loc (lv' := [(0, _), (1, _), (2, _), (3, _), (4, _), (5, _), (6, _), (7, _)]) ⟨rfl, rfl, rfl, rfl, rfl, rfl, rfl, rfl, trivial⟩ ?_
      rw [show tt - i = (tt - (i + 1)) + 1 by omega, hlf]
      exact ih (i + 1) (by omega) (by omega) _ _ (nI_1 i)
def a_X11_effectBy (f70 : Nat → Int32) (f72 : Nat → Int32) (c : Nat) (e : Nat) (v : Int32) (tt : Nat) : Int32 := hlf tt (if (a_X11_truthBy f70 c (f72 e)) = 1 then ((if (a_X11_truthBy f70 c (f72 e)) = 0 then (0 : Int32) else ((f70 (((5 * c) + 1))) * v : Int32)) / 2 : Int32) else (if (a_X11_truthBy f70 c (f72 e)) = 0 then (0 : Int32) else ((f70 (((5 * c) + 1))) * v : Int32) : Int32))
theorem e_X11_effectBy {l : Launch} {X : zX} {d : Nat} {μ : zH} {c : Nat} {e : Nat} {v : Int32} {tt : Nat} (hc : c < 16) (he : e < 4) (htt : tt < 1000) : zRn l X mi_X11_effectBy (d + 5) [.inr 67, .inl (nI c), .inl (nI e), .inl (v), .inl (nI tt)] (zSH, μ) (some (.inl (a_X11_effectBy (μ 70) (μ 72) c e v tt))) (zSH, μ) := by
  refine pv_aload_n (i := 0) t_X11_effectBy_0 rfl rfl ?_
  refine pv_iload_n (i := 1) t_X11_effectBy_1 rfl rfl ?_
  refine pv_aload_n (i := 0) t_X11_effectBy_2 rfl rfl ?_
  refine pv_getR t_X11_effectBy_3 fl_X11_26 hh_67 rfl ?_
  refine pv_iload_n (i := 2) t_X11_effectBy_6 rfl rfl ?_
  refine sv_iald ((μ 72) e) t_X11_effectBy_7 (Or.inl hh_72) (ixi (k := e) rfl (by omega) (by decide)) ((ixe (k := e) rfl (by omega)).trans (by first | rfl | (simp only [zhs_s, pk_us]; done) | (simp [zhs, upd]; done))) ?_
  refine sv_V2 (a_X11_truthBy (μ 70) c ((μ 72) e)) μ t_X11_effectBy_8 ml_X11_175 mo_X11_truthBy hh_67 rfl (Nat.le_of_ble_eq_true rfl) (e_X11_truthBy (c := c) (by omega)) (Nat.le_of_ble_eq_true rfl) rfl rfl ?_
  refine pv_istore t_X11_effectBy_11 (Nat.le_of_ble_eq_true rfl) ?_
  refine pv_iload t_X11_effectBy_13 rfl ?_
  refine sv_phi (c := (a_X11_truthBy (μ 70) c ((μ 72) e)) = 0) (A := 0) (B := ((μ 70) (((5 * c) + 1))) * v) (J := 34) (lv := [(0, .inr 67), (1, .inl ((nI c))), (2, .inl ((nI e))), (3, .inl v), (4, .inl ((nI tt))), (5, .inl (a_X11_truthBy (μ 70) c ((μ 72) e)))]) (st := []) (S := (zSH, μ)) (fun kT kF => ?_) ?_
  · skip
    refine pv_if_ne t_X11_effectBy_15 (fun c15 => ?_) (fun c15 => ?_)
    · skip
      refine pv_aload_n (i := 0) t_X11_effectBy_22 rfl rfl ?_
      refine pv_getR t_X11_effectBy_23 fl_X11_20 hh_67 rfl ?_
      refine pv_iconst (v := 5) t_X11_effectBy_26 zi_5 ?_
      refine pv_iload_n (i := 1) t_X11_effectBy_27 rfl rfl ?_
      refine pv_imul t_X11_effectBy_28 ?_
      refine pv_iconst (v := 1) t_X11_effectBy_29 zi_1 ?_
      refine pv_iadd t_X11_effectBy_30 ?_
      refine sv_iald ((μ 70) (((5 * c) + 1))) t_X11_effectBy_31 (Or.inl hh_70) (ixi (k := ((5 * c) + 1)) (nIa (nIm rfl rfl) rfl) (by omega) (by decide)) ((ixe (k := ((5 * c) + 1)) (nIa (nIm rfl rfl) rfl) (by omega)).trans (by first | rfl | (simp only [zhs_s, pk_us]; done) | (simp [zhs, upd]; done))) ?_
      refine pv_iload_n (i := 3) t_X11_effectBy_32 rfl rfl ?_
      refine pv_imul t_X11_effectBy_33 ?_
      exact kF c15
    · skip
      refine pv_iconst (v := 0) t_X11_effectBy_18 zi_0 ?_
      refine pv_goto t_X11_effectBy_19 ?_
      exact kT c15
  refine pv_istore t_X11_effectBy_34 (Nat.le_of_ble_eq_true rfl) ?_
  refine pv_iload t_X11_effectBy_36 rfl ?_
  refine pv_iconst (v := 1) t_X11_effectBy_38 zi_1 ?_
  refine sv_phi (c := (a_X11_truthBy (μ 70) c ((μ 72) e)) = 1) (A := (if (a_X11_truthBy (μ 70) c ((μ 72) e)) = 0 then (0 : Int32) else (((μ 70) (((5 * c) + 1))) * v : Int32)) / 2) (B := if (a_X11_truthBy (μ 70) c ((μ 72) e)) = 0 then (0 : Int32) else (((μ 70) (((5 * c) + 1))) * v : Int32)) (J := 51) (lv := [(0, .inr 67), (1, .inl ((nI c))), (2, .inl ((nI e))), (3, .inl v), (4, .inl ((nI tt))), (5, .inl (a_X11_truthBy (μ 70) c ((μ 72) e))), (6, .inl (if (a_X11_truthBy (μ 70) c ((μ 72) e)) = 0 then (0 : Int32) else (((μ 70) (((5 * c) + 1))) * v : Int32)))]) (st := []) (S := (zSH, μ)) (fun kT kF => ?_) ?_
  · skip
    refine pv_icmp_ne t_X11_effectBy_39 (fun c39 => ?_) (fun c39 => ?_)
    · skip
      refine pv_iload t_X11_effectBy_49 rfl ?_
      exact kF c39
    · skip
      refine pv_iload t_X11_effectBy_42 rfl ?_
      refine pv_iconst (v := 2) t_X11_effectBy_44 zi_2 ?_
      refine pv_idiv t_X11_effectBy_45 (by decide) ?_
      refine pv_goto t_X11_effectBy_46 ?_
      exact kT c39
  refine pv_istore t_X11_effectBy_51 (Nat.le_of_ble_eq_true rfl) ?_
  refine pv_iconst (v := 0) t_X11_effectBy_53 zi_0 ?_
  refine pv_istore t_X11_effectBy_54 (Nat.le_of_ble_eq_true rfl) ?_
  refine zfin (S1 := (zSH, μ)) (by unfold a_X11_effectBy; rfl) rfl ?_
  exact lp_X11_effectBy htt (tt + 1) 0 (by omega) (by omega) _ _ rfl
def a_X11_firstTold (f70 : Nat → Int32) (f72 : Nat → Int32) (c : Nat) (e : Nat) : Int32 := a_X11_effectBy f70 f72 c e (a_X11_vanityOf f72 e ((f70 ((5 * c))).toNatClampNeg)) 0
theorem e_X11_firstTold {l : Launch} {X : zX} {d : Nat} {μ : zH} {c : Nat} {e : Nat} (hc : c < 8) (he : e < 4) (hT : ∀ c, c < 8 → nb (μ 70 (5 * c)) 4) : zRn l X mi_X11_firstTold (d + 7) [.inr 67, .inl (nI c), .inl (nI e)] (zSH, μ) (some (.inl (a_X11_firstTold (μ 70) (μ 72) c e))) (zSH, μ) := by
  have ht1 : ((μ 70) (5 * c)).toNatClampNeg < 4 := (hT _ (by omega)).1
  refine pv_aload_n (i := 0) t_X11_firstTold_0 rfl rfl ?_
  refine pv_iload_n (i := 1) t_X11_firstTold_1 rfl rfl ?_
  refine pv_iload_n (i := 2) t_X11_firstTold_2 rfl rfl ?_
  refine pv_aload_n (i := 0) t_X11_firstTold_3 rfl rfl ?_
  refine pv_iload_n (i := 2) t_X11_firstTold_4 rfl rfl ?_
  refine pv_aload_n (i := 0) t_X11_firstTold_5 rfl rfl ?_
  refine pv_getR t_X11_firstTold_6 fl_X11_20 hh_67 rfl ?_
  refine pv_iconst (v := 5) t_X11_firstTold_9 zi_5 ?_
  refine pv_iload_n (i := 1) t_X11_firstTold_10 rfl rfl ?_
  refine pv_imul t_X11_firstTold_11 ?_
  refine sv_iald ((μ 70) ((5 * c))) t_X11_firstTold_12 (Or.inl hh_70) (ixi (k := (5 * c)) (nIm rfl rfl) (by omega) (by decide)) ((ixe (k := (5 * c)) (nIm rfl rfl) (by omega)).trans (by first | rfl | (simp only [zhs_s, pk_us]; done) | (simp [zhs, upd]; done))) ?_
  refine sv_V2 (a_X11_vanityOf (μ 72) e (((μ 70) ((5 * c))).toNatClampNeg)) μ t_X11_firstTold_13 ml_X11_179 mo_X11_vanityOf hh_67 rfl (Nat.le_of_ble_eq_true rfl) (zas (lcS (lcI (k := e) rfl (lcI (k := ((μ 70) ((5 * c))).toNatClampNeg) (nb_k (hT _ (by omega))) rfl))) (e_X11_vanityOf (e := e) (t := ((μ 70) ((5 * c))).toNatClampNeg) (by omega) (by omega))) (Nat.le_of_ble_eq_true rfl) rfl rfl ?_
  refine pv_iconst (v := 0) t_X11_firstTold_16 zi_0 ?_
  refine sv_V4 (a_X11_effectBy (μ 70) (μ 72) c e (a_X11_vanityOf (μ 72) e (((μ 70) ((5 * c))).toNatClampNeg)) 0) μ t_X11_firstTold_17 ml_X11_182 mo_X11_effectBy hh_67 rfl (Nat.le_of_ble_eq_true rfl) (e_X11_effectBy (c := c) (e := e) (tt := 0) (by omega) (by omega) (by omega)) (Nat.le_of_ble_eq_true rfl) rfl rfl ?_
  exact pv_ireti t_X11_firstTold_20 rfl (by unfold a_X11_firstTold; rfl) rfl
def a_X11_effect (f67 : Nat → Int32) (f70 : Nat → Int32) (f72 : Nat → Int32) (x : Int32) (y : Int32) : Int32 := (if (a_X11_isCompliment ((upd f67 0 0)) x) = 0 then (-1000000001) else (if (a_X11_isDuellist ((upd f67 0 0)) y) = 0 then (-1000000001) else (if (a_X11_sideOf f72 y) = ((-1)) then a_X11_firstTold f70 f72 x.toNatClampNeg y.toNatClampNeg else a_X11_effectBy f70 f72 x.toNatClampNeg y.toNatClampNeg (a_X11_vanityOf f72 y.toNatClampNeg ((f70 ((5 * x.toNatClampNeg))).toNatClampNeg)) ((f72 (((33 + (4 * (a_X11_sideOf f72 y).toNatClampNeg)) + (f70 ((5 * x.toNatClampNeg))).toNatClampNeg))).toNatClampNeg))))
def w_X11_effect_67 (f67 : Nat → Int32) : Nat → Int32 := (upd f67 0 0)
theorem e_X11_effect {l : Launch} {X : zX} {d : Nat} {μ : zH} {np nc : Nat} {x : Int32} {y : Int32} (hnp : μ 67 10 = nI np) (hp4 : np ≤ 4) (hnc : μ 67 11 = nI nc) (hc8 : nc ≤ 8) (hT : ∀ c, c < 8 → nb (μ 70 (5 * c)) 4) (hTm : ∀ i, 33 ≤ i → i < 41 → nb (μ 72 i) 100) : zRn l X mi_X11_effect (d + 9) [.inr 67, .inl (x), .inl (y)] (zSH, μ) (some (.inl (a_X11_effect (μ 67) (μ 70) (μ 72) x y))) (zSH, (zhs μ 67 (w_X11_effect_67 (μ 67)))) := by
  refine pv_aload_n (i := 0) t_X11_effect_0 rfl rfl ?_
  refine pv_iconst (v := 0) t_X11_effect_1 zi_0 ?_
  refine sv_putI ((zhs μ 67 ((upd (μ 67) 0 0)))) t_X11_effect_2 fl_X11_69 zfn_10_0 hh_67 rfl rfl ?_
  refine pv_aload_n (i := 0) t_X11_effect_5 rfl rfl ?_
  refine pv_iload_n (i := 1) t_X11_effect_6 rfl rfl ?_
  refine sv_V1 (a_X11_isCompliment ((upd (μ 67) 0 0)) x) ((zhs μ 67 ((upd (μ 67) 0 0)))) t_X11_effect_7 ml_X11_169 mo_X11_isCompliment hh_67 rfl (Nat.le_of_ble_eq_true rfl) (e_X11_isCompliment) (Nat.le_of_ble_eq_true rfl) rfl rfl ?_
  refine pv_if_eq t_X11_effect_10 (fun c10 => ?_) (fun c10 => ?_)
  · skip
    refine pv_ldc t_X11_effect_21 kc_X11_165 ?_
    exact pv_ireti t_X11_effect_23 rfl (by unfold a_X11_effect; rw [if_pos c10]) (Prod.ext rfl (by have e67 : w_X11_effect_67 (μ 67) = (upd (μ 67) 0 0) := (by unfold w_X11_effect_67; rfl); show _ = (zhs μ 67 (w_X11_effect_67 (μ 67))); symm; rw [e67]))
  · skip
    obtain ⟨hx1, hx2⟩ := (isc (f := μ 67) hnc hc8 c10).2
    refine pv_aload_n (i := 0) t_X11_effect_13 rfl rfl ?_
    refine pv_iload_n (i := 2) t_X11_effect_14 rfl rfl ?_
    refine sv_V1 (a_X11_isDuellist ((upd (μ 67) 0 0)) y) ((zhs μ 67 ((upd (μ 67) 0 0)))) t_X11_effect_15 ml_X11_161 mo_X11_isDuellist hh_67 rfl (Nat.le_of_ble_eq_true rfl) (e_X11_isDuellist) (Nat.le_of_ble_eq_true rfl) rfl rfl ?_
    refine pv_if_ne t_X11_effect_18 (fun c18 => ?_) (fun c18 => ?_)
    · skip
      obtain ⟨hy1, hy2⟩ := (isd (f := μ 67) hnp hp4 c18).2
      refine pv_aload_n (i := 0) t_X11_effect_24 rfl rfl ?_
      refine pv_iload_n (i := 2) t_X11_effect_25 rfl rfl ?_
      refine sv_V1 (a_X11_sideOf (μ 72) y) ((zhs μ 67 ((upd (μ 67) 0 0)))) t_X11_effect_26 ml_X11_166 mo_X11_sideOf hh_67 rfl (Nat.le_of_ble_eq_true rfl) (e_X11_sideOf) (Nat.le_of_ble_eq_true rfl) rfl rfl ?_
      refine pv_istore_n (i := 3) t_X11_effect_29 rfl (Nat.le_of_ble_eq_true rfl) ?_
      refine pv_iload_n (i := 3) t_X11_effect_30 rfl rfl ?_
      refine pv_iconst (v := -1) t_X11_effect_31 zi_m1 ?_
      refine pv_icmp_ne t_X11_effect_32 (fun c32 => ?_) (fun c32 => ?_)
      · skip
        obtain ⟨hs1, hs2⟩ := sd_nb c32
        have ht1 : ((μ 70) (5 * x.toNatClampNeg)).toNatClampNeg < 4 := (hT _ (by omega)).1
        refine pv_aload_n (i := 0) t_X11_effect_44 rfl rfl ?_
        refine pv_iload_n (i := 1) t_X11_effect_45 rfl rfl ?_
        refine pv_iload_n (i := 2) t_X11_effect_46 rfl rfl ?_
        refine pv_aload_n (i := 0) t_X11_effect_47 rfl rfl ?_
        refine pv_iload_n (i := 2) t_X11_effect_48 rfl rfl ?_
        refine pv_aload_n (i := 0) t_X11_effect_49 rfl rfl ?_
        refine pv_getR t_X11_effect_50 fl_X11_20 hh_67 rfl ?_
        refine pv_iconst (v := 5) t_X11_effect_53 zi_5 ?_
        refine pv_iload_n (i := 1) t_X11_effect_54 rfl rfl ?_
        refine pv_imul t_X11_effect_55 ?_
        refine sv_iald ((μ 70) ((5 * x.toNatClampNeg))) t_X11_effect_56 (Or.inl hh_70) (ixi (k := (5 * x.toNatClampNeg)) (nIm rfl hx2) (by omega) (by decide)) ((ixe (k := (5 * x.toNatClampNeg)) (nIm rfl hx2) (by omega)).trans (by first | rfl | (simp only [zhs_s, pk_us]; done) | (simp [zhs, upd]; done))) ?_
        refine sv_V2 (a_X11_vanityOf (μ 72) y.toNatClampNeg (((μ 70) ((5 * x.toNatClampNeg))).toNatClampNeg)) ((zhs μ 67 ((upd (μ 67) 0 0)))) t_X11_effect_57 ml_X11_179 mo_X11_vanityOf hh_67 rfl (Nat.le_of_ble_eq_true rfl) (zas (lcS (lcI (k := y.toNatClampNeg) hy2 (lcI (k := ((μ 70) ((5 * x.toNatClampNeg))).toNatClampNeg) (nb_k (hT _ (by omega))) rfl))) (e_X11_vanityOf (e := y.toNatClampNeg) (t := ((μ 70) ((5 * x.toNatClampNeg))).toNatClampNeg) (by omega) (by omega))) (Nat.le_of_ble_eq_true rfl) rfl rfl ?_
        refine pv_aload_n (i := 0) t_X11_effect_60 rfl rfl ?_
        refine pv_getR t_X11_effect_61 fl_X11_26 hh_67 rfl ?_
        refine pv_bipush (v := 33) t_X11_effect_64 zb_33 ?_
        refine pv_iconst (v := 4) t_X11_effect_66 zi_4 ?_
        refine pv_iload_n (i := 3) t_X11_effect_67 rfl rfl ?_
        refine pv_imul t_X11_effect_68 ?_
        refine pv_iadd t_X11_effect_69 ?_
        refine pv_aload_n (i := 0) t_X11_effect_70 rfl rfl ?_
        refine pv_getR t_X11_effect_71 fl_X11_20 hh_67 rfl ?_
        refine pv_iconst (v := 5) t_X11_effect_74 zi_5 ?_
        refine pv_iload_n (i := 1) t_X11_effect_75 rfl rfl ?_
        refine pv_imul t_X11_effect_76 ?_
        refine sv_iald ((μ 70) ((5 * x.toNatClampNeg))) t_X11_effect_77 (Or.inl hh_70) (ixi (k := (5 * x.toNatClampNeg)) (nIm rfl hx2) (by omega) (by decide)) ((ixe (k := (5 * x.toNatClampNeg)) (nIm rfl hx2) (by omega)).trans (by first | rfl | (simp only [zhs_s, pk_us]; done) | (simp [zhs, upd]; done))) ?_
        refine pv_iadd t_X11_effect_78 ?_
        refine sv_iald ((μ 72) (((33 + (4 * (a_X11_sideOf (μ 72) y).toNatClampNeg)) + ((μ 70) ((5 * x.toNatClampNeg))).toNatClampNeg))) t_X11_effect_79 (Or.inl hh_72) (ixi (k := ((33 + (4 * (a_X11_sideOf (μ 72) y).toNatClampNeg)) + ((μ 70) ((5 * x.toNatClampNeg))).toNatClampNeg)) (nIa (nIa rfl (nIm rfl hs2)) (nb_k (hT _ (by omega)))) (by omega) (by decide)) ((ixe (k := ((33 + (4 * (a_X11_sideOf (μ 72) y).toNatClampNeg)) + ((μ 70) ((5 * x.toNatClampNeg))).toNatClampNeg)) (nIa (nIa rfl (nIm rfl hs2)) (nb_k (hT _ (by omega)))) (by omega)).trans (by first | rfl | (simp only [zhs_s, pk_us]; done) | (simp [zhs, upd]; done))) ?_
        have hq9 : ((μ 72) (((33 + (4 * (a_X11_sideOf (μ 72) y).toNatClampNeg)) + ((μ 70) ((5 * x.toNatClampNeg))).toNatClampNeg))).toNatClampNeg < 100 := (hTm _ (by omega) (by omega)).1
        refine sv_V4 (a_X11_effectBy (μ 70) (μ 72) x.toNatClampNeg y.toNatClampNeg (a_X11_vanityOf (μ 72) y.toNatClampNeg (((μ 70) ((5 * x.toNatClampNeg))).toNatClampNeg)) (((μ 72) (((33 + (4 * (a_X11_sideOf (μ 72) y).toNatClampNeg)) + ((μ 70) ((5 * x.toNatClampNeg))).toNatClampNeg))).toNatClampNeg)) ((zhs μ 67 ((upd (μ 67) 0 0)))) t_X11_effect_80 ml_X11_182 mo_X11_effectBy hh_67 rfl (Nat.le_of_ble_eq_true rfl) (zas (lcS (lcI (k := x.toNatClampNeg) hx2 (lcI (k := y.toNatClampNeg) hy2 (lcS (lcI (k := ((μ 72) (((33 + (4 * (a_X11_sideOf (μ 72) y).toNatClampNeg)) + ((μ 70) ((5 * x.toNatClampNeg))).toNatClampNeg))).toNatClampNeg) (nb_k (hTm _ (by omega) (by omega))) rfl))))) (e_X11_effectBy (c := x.toNatClampNeg) (e := y.toNatClampNeg) (tt := ((μ 72) (((33 + (4 * (a_X11_sideOf (μ 72) y).toNatClampNeg)) + ((μ 70) ((5 * x.toNatClampNeg))).toNatClampNeg))).toNatClampNeg) (by omega) (by omega) (by omega))) (Nat.le_of_ble_eq_true rfl) rfl rfl ?_
        exact pv_ireti t_X11_effect_83 rfl (by unfold a_X11_effect; rw [if_neg c10, if_neg c18, if_neg c32]) (Prod.ext rfl (by have e67 : w_X11_effect_67 (μ 67) = (upd (μ 67) 0 0) := (by unfold w_X11_effect_67; rfl); show _ = (zhs μ 67 (w_X11_effect_67 (μ 67))); symm; rw [e67]))
      · skip
        refine pv_aload_n (i := 0) t_X11_effect_35 rfl rfl ?_
        refine pv_iload_n (i := 1) t_X11_effect_36 rfl rfl ?_
        refine pv_iload_n (i := 2) t_X11_effect_37 rfl rfl ?_
        refine sv_V2 (a_X11_firstTold (μ 70) (μ 72) x.toNatClampNeg y.toNatClampNeg) ((zhs μ 67 ((upd (μ 67) 0 0)))) t_X11_effect_38 ml_X11_186 mo_X11_firstTold hh_67 rfl (Nat.le_of_ble_eq_true rfl) (zas (lcS (lcI (k := x.toNatClampNeg) hx2 (lcI (k := y.toNatClampNeg) hy2 rfl))) (e_X11_firstTold (c := x.toNatClampNeg) (e := y.toNatClampNeg) (by omega) (by omega) hT)) (Nat.le_of_ble_eq_true rfl) rfl rfl ?_
        refine pv_goto t_X11_effect_41 ?_
        exact pv_ireti t_X11_effect_83 rfl (by unfold a_X11_effect; rw [if_neg c10, if_neg c18, if_pos c32]) (Prod.ext rfl (by have e67 : w_X11_effect_67 (μ 67) = (upd (μ 67) 0 0) := (by unfold w_X11_effect_67; rfl); show _ = (zhs μ 67 (w_X11_effect_67 (μ 67))); symm; rw [e67]))
    · skip
      refine pv_ldc t_X11_effect_21 kc_X11_165 ?_
      exact pv_ireti t_X11_effect_23 rfl (by unfold a_X11_effect; rw [if_neg c10, if_pos c18]) (Prod.ext rfl (by have e67 : w_X11_effect_67 (μ 67) = (upd (μ 67) 0 0) := (by unfold w_X11_effect_67; rfl); show _ = (zhs μ 67 (w_X11_effect_67 (μ 67))); symm; rw [e67]))
def a_X11_tear (f67 : Nat → Int32) : Int32 := ((f67 24) + (f67 26)) + (f67 28)
def w_X11_tear_67 (f67 : Nat → Int32) : Nat → Int32 := (upd (upd (upd (upd f67 0 0) 24 0) 26 0) 28 0)
theorem e_X11_tear {l : Launch} {X : zX} {d : Nat} {μ : zH} : zRn l X mi_X11_tear (d + 1) [.inr 67] (zSH, μ) (some (.inl (a_X11_tear (μ 67)))) (zSH, (zhs μ 67 (w_X11_tear_67 (μ 67)))) := by
  refine pv_aload_n (i := 0) t_X11_tear_0 rfl rfl ?_
  refine pv_iconst (v := 0) t_X11_tear_1 zi_0 ?_
  refine sv_putI ((zhs μ 67 ((upd (μ 67) 0 0)))) t_X11_tear_2 fl_X11_69 zfn_10_0 hh_67 rfl rfl ?_
  refine pv_aload_n (i := 0) t_X11_tear_5 rfl rfl ?_
  refine sv_getI ((μ 67) 24) t_X11_tear_6 fl_X11_143 hh_67 rfl rfl ?_
  refine pv_aload_n (i := 0) t_X11_tear_9 rfl rfl ?_
  refine sv_getI ((μ 67) 26) t_X11_tear_10 fl_X11_146 hh_67 rfl rfl ?_
  refine pv_iadd t_X11_tear_13 ?_
  refine pv_aload_n (i := 0) t_X11_tear_14 rfl rfl ?_
  refine sv_getI ((μ 67) 28) t_X11_tear_15 fl_X11_149 hh_67 rfl rfl ?_
  refine pv_iadd t_X11_tear_18 ?_
  refine pv_istore_n (i := 1) t_X11_tear_19 rfl (Nat.le_of_ble_eq_true rfl) ?_
  refine pv_aload_n (i := 0) t_X11_tear_20 rfl rfl ?_
  refine pv_iconst (v := 0) t_X11_tear_21 zi_0 ?_
  refine sv_putI ((zhs μ 67 ((upd (upd (μ 67) 0 0) 24 0)))) t_X11_tear_22 fl_X11_143 zfn_10_24 hh_67 rfl (by rw [zhs_hs] <;> (first | rfl | (congr 1; funext k_; simp only [upd]; ((repeat' split) <;> first | rfl | (simp_all; done))))) ?_
  refine pv_aload_n (i := 0) t_X11_tear_25 rfl rfl ?_
  refine pv_iconst (v := 0) t_X11_tear_26 zi_0 ?_
  refine sv_putI ((zhs μ 67 ((upd (upd (upd (μ 67) 0 0) 24 0) 26 0)))) t_X11_tear_27 fl_X11_146 zfn_10_26 hh_67 rfl (by rw [zhs_hs] <;> (first | rfl | (congr 1; funext k_; simp only [upd]; ((repeat' split) <;> first | rfl | (simp_all; done))))) ?_
  refine pv_aload_n (i := 0) t_X11_tear_30 rfl rfl ?_
  refine pv_iconst (v := 0) t_X11_tear_31 zi_0 ?_
  refine sv_putI ((zhs μ 67 ((upd (upd (upd (upd (μ 67) 0 0) 24 0) 26 0) 28 0)))) t_X11_tear_32 fl_X11_149 zfn_10_28 hh_67 rfl (by rw [zhs_hs] <;> (first | rfl | (congr 1; funext k_; simp only [upd]; ((repeat' split) <;> first | rfl | (simp_all; done))))) ?_
  refine pv_iload_n (i := 1) t_X11_tear_35 rfl rfl ?_
  exact pv_ireti t_X11_tear_36 rfl (by unfold a_X11_tear; rfl) (Prod.ext rfl (by have e67 : w_X11_tear_67 (μ 67) = (upd (upd (upd (upd (μ 67) 0 0) 24 0) 26 0) 28 0) := (by unfold w_X11_tear_67; rfl); show _ = (zhs μ 67 (w_X11_tear_67 (μ 67))); symm; rw [e67]))
def a_X11_seed (f72 : Nat → Int32) (x : Int32) : Int32 := (if 0 ≤ x then f72 63 else (-1000000002))
def w_X11_seed_67 (f67 : Nat → Int32) : Nat → Int32 := (upd f67 0 0)
def w_X11_seed_72 (f72 : Nat → Int32) (x : Int32) : Nat → Int32 := (if 0 ≤ x then (upd f72 63 x) else f72)
theorem e_X11_seed {l : Launch} {X : zX} {d : Nat} {μ : zH} {x : Int32} : zRn l X mi_X11_seed (d + 2) [.inr 67, .inl (x)] (zSH, μ) (some (.inl (a_X11_seed (μ 72) x))) (zSH, (zhs (zhs μ 67 (w_X11_seed_67 (μ 67))) 72 (w_X11_seed_72 (μ 72) x))) := by
  refine pv_aload_n (i := 0) t_X11_seed_0 rfl rfl ?_
  refine pv_iconst (v := 0) t_X11_seed_1 zi_0 ?_
  refine sv_putI ((zhs μ 67 ((upd (μ 67) 0 0)))) t_X11_seed_2 fl_X11_69 zfn_10_0 hh_67 rfl rfl ?_
  refine pv_iload_n (i := 1) t_X11_seed_5 rfl rfl ?_
  refine pv_if_ge t_X11_seed_6 (fun c6 => ?_) (fun c6 => ?_)
  · skip
    refine pv_aload_n (i := 0) t_X11_seed_12 rfl rfl ?_
    refine pv_getR t_X11_seed_13 fl_X11_26 hh_67 rfl ?_
    refine pv_bipush (v := 63) t_X11_seed_16 zb_63 ?_
    refine sv_iald ((μ 72) 63) t_X11_seed_18 (Or.inl hh_72) (zin (by decide)) rfl ?_
    refine pv_istore_n (i := 2) t_X11_seed_19 rfl (Nat.le_of_ble_eq_true rfl) ?_
    refine pv_aload_n (i := 0) t_X11_seed_20 rfl rfl ?_
    refine pv_getR t_X11_seed_21 fl_X11_26 hh_67 rfl ?_
    refine pv_bipush (v := 63) t_X11_seed_24 zb_63 ?_
    refine pv_iload_n (i := 1) t_X11_seed_26 rfl rfl ?_
    refine sv_iast ((zhs (zhs μ 67 ((upd (μ 67) 0 0))) 72 ((upd (μ 72) 63 x)))) t_X11_seed_27 hh_72 (zin (by decide)) rfl ?_
    refine pv_iload_n (i := 2) t_X11_seed_28 rfl rfl ?_
    exact pv_ireti t_X11_seed_29 rfl (by unfold a_X11_seed; rw [if_pos c6]) (Prod.ext rfl (by have e67 : w_X11_seed_67 (μ 67) = (upd (μ 67) 0 0) := (by unfold w_X11_seed_67; rfl); have e72 : w_X11_seed_72 (μ 72) x = (upd (μ 72) 63 x) := (by unfold w_X11_seed_72; rw [if_pos c6]); show _ = (zhs (zhs μ 67 (w_X11_seed_67 (μ 67))) 72 (w_X11_seed_72 (μ 72) x)); symm; rw [e67, e72]))
  · skip
    refine pv_ldc t_X11_seed_9 kc_X11_76 ?_
    exact pv_ireti t_X11_seed_11 rfl (by unfold a_X11_seed; rw [if_neg c6]) (Prod.ext rfl (by have e67 : w_X11_seed_67 (μ 67) = (upd (μ 67) 0 0) := (by unfold w_X11_seed_67; rfl); have e72 : w_X11_seed_72 (μ 72) x = (μ 72) := (by unfold w_X11_seed_72; rw [if_neg c6]); show _ = (zhs (zhs μ 67 (w_X11_seed_67 (μ 67))) 72 (w_X11_seed_72 (μ 72) x)); symm; rw [e67, e72]; rw [zhs_i2 (ν := (zhs μ 67 ((upd (μ 67) 0 0)))) (k := 72) (g := (μ 72)) rfl]))
def a_X11_powder (f72 : Nat → Int32) : Int32 := (if (a_X11_isDuel f72) = 0 then (-1000000003) else (if (f72 31) ≤ (f72 32) then (if (f72 32) ≤ (f72 31) then 2 else 1) else 0))
def w_X11_powder_67 (f67 : Nat → Int32) : Nat → Int32 := (upd f67 0 0)
theorem e_X11_powder {l : Launch} {X : zX} {d : Nat} {μ : zH} : zRn l X mi_X11_powder (d + 2) [.inr 67] (zSH, μ) (some (.inl (a_X11_powder (μ 72)))) (zSH, (zhs μ 67 (w_X11_powder_67 (μ 67)))) := by
  refine pv_aload_n (i := 0) t_X11_powder_0 rfl rfl ?_
  refine pv_iconst (v := 0) t_X11_powder_1 zi_0 ?_
  refine sv_putI ((zhs μ 67 ((upd (μ 67) 0 0)))) t_X11_powder_2 fl_X11_69 zfn_10_0 hh_67 rfl rfl ?_
  refine pv_aload_n (i := 0) t_X11_powder_5 rfl rfl ?_
  refine sv_V0 (a_X11_isDuel (μ 72)) ((zhs μ 67 ((upd (μ 67) 0 0)))) t_X11_powder_6 ml_X11_152 mo_X11_isDuel hh_67 rfl (Nat.le_of_ble_eq_true rfl) (e_X11_isDuel) (Nat.le_of_ble_eq_true rfl) rfl rfl ?_
  refine pv_if_ne t_X11_powder_9 (fun c9 => ?_) (fun c9 => ?_)
  · skip
    refine pv_aload_n (i := 0) t_X11_powder_15 rfl rfl ?_
    refine pv_getR t_X11_powder_16 fl_X11_26 hh_67 rfl ?_
    refine pv_bipush (v := 31) t_X11_powder_19 zb_31 ?_
    refine sv_iald ((μ 72) 31) t_X11_powder_21 (Or.inl hh_72) (zin (by decide)) rfl ?_
    refine pv_aload_n (i := 0) t_X11_powder_22 rfl rfl ?_
    refine pv_getR t_X11_powder_23 fl_X11_26 hh_67 rfl ?_
    refine pv_bipush (v := 32) t_X11_powder_26 zb_32 ?_
    refine sv_iald ((μ 72) 32) t_X11_powder_28 (Or.inl hh_72) (zin (by decide)) rfl ?_
    refine pv_icmp_le t_X11_powder_29 (fun c29 => ?_) (fun c29 => ?_)
    · skip
      refine pv_aload_n (i := 0) t_X11_powder_36 rfl rfl ?_
      refine pv_getR t_X11_powder_37 fl_X11_26 hh_67 rfl ?_
      refine pv_bipush (v := 31) t_X11_powder_40 zb_31 ?_
      refine sv_iald ((μ 72) 31) t_X11_powder_42 (Or.inl hh_72) (zin (by decide)) rfl ?_
      refine pv_aload_n (i := 0) t_X11_powder_43 rfl rfl ?_
      refine pv_getR t_X11_powder_44 fl_X11_26 hh_67 rfl ?_
      refine pv_bipush (v := 32) t_X11_powder_47 zb_32 ?_
      refine sv_iald ((μ 72) 32) t_X11_powder_49 (Or.inl hh_72) (zin (by decide)) rfl ?_
      refine pv_icmp_ge t_X11_powder_50 (fun c50 => ?_) (fun c50 => ?_)
      · skip
        refine pv_iconst (v := 2) t_X11_powder_57 zi_2 ?_
        exact pv_ireti t_X11_powder_58 rfl (by unfold a_X11_powder; rw [if_neg c9, if_pos c29, if_pos c50]) (Prod.ext rfl (by have e67 : w_X11_powder_67 (μ 67) = (upd (μ 67) 0 0) := (by unfold w_X11_powder_67; rfl); show _ = (zhs μ 67 (w_X11_powder_67 (μ 67))); symm; rw [e67]))
      · skip
        refine pv_iconst (v := 1) t_X11_powder_53 zi_1 ?_
        refine pv_goto t_X11_powder_54 ?_
        exact pv_ireti t_X11_powder_58 rfl (by unfold a_X11_powder; rw [if_neg c9, if_pos c29, if_neg c50]) (Prod.ext rfl (by have e67 : w_X11_powder_67 (μ 67) = (upd (μ 67) 0 0) := (by unfold w_X11_powder_67; rfl); show _ = (zhs μ 67 (w_X11_powder_67 (μ 67))); symm; rw [e67]))
    · skip
      refine pv_iconst (v := 0) t_X11_powder_32 zi_0 ?_
      refine pv_goto t_X11_powder_33 ?_
      exact pv_ireti t_X11_powder_58 rfl (by unfold a_X11_powder; rw [if_neg c9, if_neg c29]) (Prod.ext rfl (by have e67 : w_X11_powder_67 (μ 67) = (upd (μ 67) 0 0) := (by unfold w_X11_powder_67; rfl); show _ = (zhs μ 67 (w_X11_powder_67 (μ 67))); symm; rw [e67]))
  · skip
    refine pv_ldc t_X11_powder_12 kc_X11_206 ?_
    exact pv_ireti t_X11_powder_14 rfl (by unfold a_X11_powder; rw [if_pos c9]) (Prod.ext rfl (by have e67 : w_X11_powder_67 (μ 67) = (upd (μ 67) 0 0) := (by unfold w_X11_powder_67; rfl); show _ = (zhs μ 67 (w_X11_powder_67 (μ 67))); symm; rw [e67]))
def a_X11_act (f67 : Nat → Int32) (f72 : Nat → Int32) (x : Int32) (y : Int32) : Int32 := (if (a_X11_isDuellist ((upd f67 0 0)) x) = 0 then (-1000000001) else (if (a_X11_in y 0 7) = 0 then (-1000000002) else (f72 x.toNatClampNeg) ||| (1 <<< (y &&& 31))))
def w_X11_act_67 (f67 : Nat → Int32) : Nat → Int32 := (upd f67 0 0)
def w_X11_act_72 (f67 : Nat → Int32) (f72 : Nat → Int32) (x : Int32) (y : Int32) : Nat → Int32 := (if (a_X11_isDuellist ((upd f67 0 0)) x) = 0 then f72 else (if (a_X11_in y 0 7) = 0 then f72 else (upd f72 x.toNatClampNeg ((f72 x.toNatClampNeg) ||| (1 <<< (y &&& 31))))))
theorem e_X11_act {l : Launch} {X : zX} {d : Nat} {μ : zH} {np : Nat} {x : Int32} {y : Int32} (hnp : μ 67 10 = nI np) (hp4 : np ≤ 4) : zRn l X mi_X11_act (d + 5) [.inr 67, .inl (x), .inl (y)] (zSH, μ) (some (.inl (a_X11_act (μ 67) (μ 72) x y))) (zSH, (zhs (zhs μ 67 (w_X11_act_67 (μ 67))) 72 (w_X11_act_72 (μ 67) (μ 72) x y))) := by
  refine pv_aload_n (i := 0) t_X11_act_0 rfl rfl ?_
  refine pv_iconst (v := 0) t_X11_act_1 zi_0 ?_
  refine sv_putI ((zhs μ 67 ((upd (μ 67) 0 0)))) t_X11_act_2 fl_X11_69 zfn_10_0 hh_67 rfl rfl ?_
  refine pv_aload_n (i := 0) t_X11_act_5 rfl rfl ?_
  refine pv_iload_n (i := 1) t_X11_act_6 rfl rfl ?_
  refine sv_V1 (a_X11_isDuellist ((upd (μ 67) 0 0)) x) ((zhs μ 67 ((upd (μ 67) 0 0)))) t_X11_act_7 ml_X11_161 mo_X11_isDuellist hh_67 rfl (Nat.le_of_ble_eq_true rfl) (e_X11_isDuellist) (Nat.le_of_ble_eq_true rfl) rfl rfl ?_
  refine pv_if_ne t_X11_act_10 (fun c10 => ?_) (fun c10 => ?_)
  · skip
    obtain ⟨hx1, hx2⟩ := (isd (f := μ 67) hnp hp4 c10).2
    refine pv_iload_n (i := 2) t_X11_act_16 rfl rfl ?_
    refine pv_iconst (v := 0) t_X11_act_17 zi_0 ?_
    refine pv_bipush (v := 7) t_X11_act_18 zb_7 ?_
    refine sv_S3 (a_X11_in y 0 7) ((zhs μ 67 ((upd (μ 67) 0 0)))) t_X11_act_20 ml_X11_72 mo_X11_in (Nat.le_of_ble_eq_true rfl) (e_X11_in) (Nat.le_of_ble_eq_true rfl) rfl rfl ?_
    refine pv_if_ne t_X11_act_23 (fun c23 => ?_) (fun c23 => ?_)
    · skip
      refine pv_aload_n (i := 0) t_X11_act_29 rfl rfl ?_
      refine pv_getR t_X11_act_30 fl_X11_26 hh_67 rfl ?_
      refine pv_iload_n (i := 1) t_X11_act_33 rfl rfl ?_
      refine pv_dup2 t_X11_act_34 ?_
      refine sv_iald ((μ 72) x.toNatClampNeg) t_X11_act_35 (Or.inl hh_72) (ixi (k := x.toNatClampNeg) hx2 (by omega) (by decide)) ((ixe (k := x.toNatClampNeg) hx2 (by omega)).trans (by first | rfl | (simp only [zhs_s, pk_us]; done) | (simp [zhs, upd]; done))) ?_
      refine pv_iconst (v := 1) t_X11_act_36 zi_1 ?_
      refine pv_iload_n (i := 2) t_X11_act_37 rfl rfl ?_
      refine pv_ishl t_X11_act_38 ?_
      refine pv_ior t_X11_act_39 ?_
      refine sv_iast ((zhs (zhs μ 67 ((upd (μ 67) 0 0))) 72 ((upd (μ 72) x.toNatClampNeg (((μ 72) x.toNatClampNeg) ||| (1 <<< (y &&& 31))))))) t_X11_act_40 hh_72 (ixi (k := x.toNatClampNeg) hx2 (by omega) (by decide)) (by rw [ixc (x := x) (k := x.toNatClampNeg) hx2 (by omega)] <;> (first | rfl | (congr 1; funext k_; simp only [upd]; ((repeat' split) <;> first | rfl | (simp_all; done))))) ?_
      refine pv_aload_n (i := 0) t_X11_act_41 rfl rfl ?_
      refine pv_getR t_X11_act_42 fl_X11_26 hh_67 rfl ?_
      refine pv_iload_n (i := 1) t_X11_act_45 rfl rfl ?_
      refine sv_iald (((μ 72) x.toNatClampNeg) ||| (1 <<< (y &&& 31))) t_X11_act_46 (Or.inl hh_72) (ixi (k := x.toNatClampNeg) hx2 (by omega) (by decide)) ((ixe (k := x.toNatClampNeg) hx2 (by omega)).trans (by first | rfl | (simp only [zhs_s, pk_us]; done) | (simp [zhs, upd]; done))) ?_
      exact pv_ireti t_X11_act_47 rfl (by unfold a_X11_act; rw [if_neg c10, if_neg c23]) (Prod.ext rfl (by have e67 : w_X11_act_67 (μ 67) = (upd (μ 67) 0 0) := (by unfold w_X11_act_67; rfl); have e72 : w_X11_act_72 (μ 67) (μ 72) x y = (upd (μ 72) x.toNatClampNeg (((μ 72) x.toNatClampNeg) ||| (1 <<< (y &&& 31)))) := (by unfold w_X11_act_72; rw [if_neg c10, if_neg c23]); show _ = (zhs (zhs μ 67 (w_X11_act_67 (μ 67))) 72 (w_X11_act_72 (μ 67) (μ 72) x y)); symm; rw [e67, e72]))
    · skip
      refine pv_ldc t_X11_act_26 kc_X11_76 ?_
      exact pv_ireti t_X11_act_28 rfl (by unfold a_X11_act; rw [if_neg c10, if_pos c23]) (Prod.ext rfl (by have e67 : w_X11_act_67 (μ 67) = (upd (μ 67) 0 0) := (by unfold w_X11_act_67; rfl); have e72 : w_X11_act_72 (μ 67) (μ 72) x y = (μ 72) := (by unfold w_X11_act_72; rw [if_neg c10, if_pos c23]); show _ = (zhs (zhs μ 67 (w_X11_act_67 (μ 67))) 72 (w_X11_act_72 (μ 67) (μ 72) x y)); symm; rw [e67, e72]; rw [zhs_i2 (ν := (zhs μ 67 ((upd (μ 67) 0 0)))) (k := 72) (g := (μ 72)) rfl]))
  · skip
    refine pv_ldc t_X11_act_13 kc_X11_165 ?_
    exact pv_ireti t_X11_act_15 rfl (by unfold a_X11_act; rw [if_pos c10]) (Prod.ext rfl (by have e67 : w_X11_act_67 (μ 67) = (upd (μ 67) 0 0) := (by unfold w_X11_act_67; rfl); have e72 : w_X11_act_72 (μ 67) (μ 72) x y = (μ 72) := (by unfold w_X11_act_72; rw [if_pos c10]); show _ = (zhs (zhs μ 67 (w_X11_act_67 (μ 67))) 72 (w_X11_act_72 (μ 67) (μ 72) x y)); symm; rw [e67, e72]; rw [zhs_i2 (ν := (zhs μ 67 ((upd (μ 67) 0 0)))) (k := 72) (g := (μ 72)) rfl]))
def a_X11_vanity (f67 : Nat → Int32) (f72 : Nat → Int32) (x : Int32) (t : Int32) (v : Int32) : Int32 := (if (a_X11_isDuellist ((upd f67 0 0)) x) = 0 then (-1000000001) else (if (a_X11_in t 0 3) = 0 then (-1000000002) else (if (a_X11_in v 0 9) = 0 then (-1000000002) else a_X11_vanityOf f72 x.toNatClampNeg t.toNatClampNeg)))
def w_X11_vanity_67 (f67 : Nat → Int32) : Nat → Int32 := (upd f67 0 0)
def w_X11_vanity_72 (f67 : Nat → Int32) (f72 : Nat → Int32) (x : Int32) (t : Int32) (v : Int32) : Nat → Int32 := (if (a_X11_isDuellist ((upd f67 0 0)) x) = 0 then f72 else (if (a_X11_in t 0 3) = 0 then f72 else (if (a_X11_in v 0 9) = 0 then f72 else (upd f72 (((4 + (4 * x.toNatClampNeg)) + t.toNatClampNeg)) v))))
theorem e_X11_vanity {l : Launch} {X : zX} {d : Nat} {μ : zH} {np : Nat} {x : Int32} {t : Int32} {v : Int32} (hnp : μ 67 10 = nI np) (hp4 : np ≤ 4) : zRn l X mi_X11_vanity (d + 5) [.inr 67, .inl (x), .inl (t), .inl (v)] (zSH, μ) (some (.inl (a_X11_vanity (μ 67) (μ 72) x t v))) (zSH, (zhs (zhs μ 67 (w_X11_vanity_67 (μ 67))) 72 (w_X11_vanity_72 (μ 67) (μ 72) x t v))) := by
  refine pv_aload_n (i := 0) t_X11_vanity_0 rfl rfl ?_
  refine pv_iconst (v := 0) t_X11_vanity_1 zi_0 ?_
  refine sv_putI ((zhs μ 67 ((upd (μ 67) 0 0)))) t_X11_vanity_2 fl_X11_69 zfn_10_0 hh_67 rfl rfl ?_
  refine pv_aload_n (i := 0) t_X11_vanity_5 rfl rfl ?_
  refine pv_iload_n (i := 1) t_X11_vanity_6 rfl rfl ?_
  refine sv_V1 (a_X11_isDuellist ((upd (μ 67) 0 0)) x) ((zhs μ 67 ((upd (μ 67) 0 0)))) t_X11_vanity_7 ml_X11_161 mo_X11_isDuellist hh_67 rfl (Nat.le_of_ble_eq_true rfl) (e_X11_isDuellist) (Nat.le_of_ble_eq_true rfl) rfl rfl ?_
  refine pv_if_ne t_X11_vanity_10 (fun c10 => ?_) (fun c10 => ?_)
  · skip
    obtain ⟨hx1, hx2⟩ := (isd (f := μ 67) hnp hp4 c10).2
    refine pv_iload_n (i := 2) t_X11_vanity_16 rfl rfl ?_
    refine pv_iconst (v := 0) t_X11_vanity_17 zi_0 ?_
    refine pv_iconst (v := 3) t_X11_vanity_18 zi_3 ?_
    refine sv_S3 (a_X11_in t 0 3) ((zhs μ 67 ((upd (μ 67) 0 0)))) t_X11_vanity_19 ml_X11_72 mo_X11_in (Nat.le_of_ble_eq_true rfl) (e_X11_in) (Nat.le_of_ble_eq_true rfl) rfl rfl ?_
    refine pv_if_eq t_X11_vanity_22 (fun c22 => ?_) (fun c22 => ?_)
    · skip
      refine pv_ldc t_X11_vanity_35 kc_X11_76 ?_
      exact pv_ireti t_X11_vanity_37 rfl (by unfold a_X11_vanity; rw [if_neg c10, if_pos c22]) (Prod.ext rfl (by have e67 : w_X11_vanity_67 (μ 67) = (upd (μ 67) 0 0) := (by unfold w_X11_vanity_67; rfl); have e72 : w_X11_vanity_72 (μ 67) (μ 72) x t v = (μ 72) := (by unfold w_X11_vanity_72; rw [if_neg c10, if_pos c22]); show _ = (zhs (zhs μ 67 (w_X11_vanity_67 (μ 67))) 72 (w_X11_vanity_72 (μ 67) (μ 72) x t v)); symm; rw [e67, e72]; rw [zhs_i2 (ν := (zhs μ 67 ((upd (μ 67) 0 0)))) (k := 72) (g := (μ 72)) rfl]))
    · skip
      obtain ⟨hy1, hy2⟩ := in_nb (n := 3) rfl (by decide) c22
      refine pv_iload_n (i := 3) t_X11_vanity_25 rfl rfl ?_
      refine pv_iconst (v := 0) t_X11_vanity_26 zi_0 ?_
      refine pv_bipush (v := 9) t_X11_vanity_27 zb_9 ?_
      refine sv_S3 (a_X11_in v 0 9) ((zhs μ 67 ((upd (μ 67) 0 0)))) t_X11_vanity_29 ml_X11_72 mo_X11_in (Nat.le_of_ble_eq_true rfl) (e_X11_in) (Nat.le_of_ble_eq_true rfl) rfl rfl ?_
      refine pv_if_ne t_X11_vanity_32 (fun c32 => ?_) (fun c32 => ?_)
      · skip
        refine pv_aload_n (i := 0) t_X11_vanity_38 rfl rfl ?_
        refine pv_iload_n (i := 1) t_X11_vanity_39 rfl rfl ?_
        refine pv_iload_n (i := 2) t_X11_vanity_40 rfl rfl ?_
        refine sv_V2 (a_X11_vanityOf (μ 72) x.toNatClampNeg t.toNatClampNeg) ((zhs μ 67 ((upd (μ 67) 0 0)))) t_X11_vanity_41 ml_X11_179 mo_X11_vanityOf hh_67 rfl (Nat.le_of_ble_eq_true rfl) (zas (lcS (lcI (k := x.toNatClampNeg) hx2 (lcI (k := t.toNatClampNeg) hy2 rfl))) (e_X11_vanityOf (e := x.toNatClampNeg) (t := t.toNatClampNeg) (by omega) (by omega))) (Nat.le_of_ble_eq_true rfl) rfl rfl ?_
        refine pv_istore t_X11_vanity_44 (Nat.le_of_ble_eq_true rfl) ?_
        refine pv_aload_n (i := 0) t_X11_vanity_46 rfl rfl ?_
        refine pv_getR t_X11_vanity_47 fl_X11_26 hh_67 rfl ?_
        refine pv_iconst (v := 4) t_X11_vanity_50 zi_4 ?_
        refine pv_iconst (v := 4) t_X11_vanity_51 zi_4 ?_
        refine pv_iload_n (i := 1) t_X11_vanity_52 rfl rfl ?_
        refine pv_imul t_X11_vanity_53 ?_
        refine pv_iadd t_X11_vanity_54 ?_
        refine pv_iload_n (i := 2) t_X11_vanity_55 rfl rfl ?_
        refine pv_iadd t_X11_vanity_56 ?_
        refine pv_iload_n (i := 3) t_X11_vanity_57 rfl rfl ?_
        refine sv_iast ((zhs (zhs μ 67 ((upd (μ 67) 0 0))) 72 ((upd (μ 72) (((4 + (4 * x.toNatClampNeg)) + t.toNatClampNeg)) v)))) t_X11_vanity_58 hh_72 (ixi (k := ((4 + (4 * x.toNatClampNeg)) + t.toNatClampNeg)) (nIa (nIa rfl (nIm rfl hx2)) hy2) (by omega) (by decide)) (by rw [ixc (x := (4 + (4 * x)) + t) (k := ((4 + (4 * x.toNatClampNeg)) + t.toNatClampNeg)) (nIa (nIa rfl (nIm rfl hx2)) hy2) (by omega)] <;> (first | rfl | (congr 1; funext k_; simp only [upd]; ((repeat' split) <;> first | rfl | (simp_all; done))))) ?_
        refine pv_iload t_X11_vanity_59 rfl ?_
        exact pv_ireti t_X11_vanity_61 rfl (by unfold a_X11_vanity; rw [if_neg c10, if_neg c22, if_neg c32]) (Prod.ext rfl (by have e67 : w_X11_vanity_67 (μ 67) = (upd (μ 67) 0 0) := (by unfold w_X11_vanity_67; rfl); have e72 : w_X11_vanity_72 (μ 67) (μ 72) x t v = (upd (μ 72) (((4 + (4 * x.toNatClampNeg)) + t.toNatClampNeg)) v) := (by unfold w_X11_vanity_72; rw [if_neg c10, if_neg c22, if_neg c32]); show _ = (zhs (zhs μ 67 (w_X11_vanity_67 (μ 67))) 72 (w_X11_vanity_72 (μ 67) (μ 72) x t v)); symm; rw [e67, e72]))
      · skip
        refine pv_ldc t_X11_vanity_35 kc_X11_76 ?_
        exact pv_ireti t_X11_vanity_37 rfl (by unfold a_X11_vanity; rw [if_neg c10, if_neg c22, if_pos c32]) (Prod.ext rfl (by have e67 : w_X11_vanity_67 (μ 67) = (upd (μ 67) 0 0) := (by unfold w_X11_vanity_67; rfl); have e72 : w_X11_vanity_72 (μ 67) (μ 72) x t v = (μ 72) := (by unfold w_X11_vanity_72; rw [if_neg c10, if_neg c22, if_pos c32]); show _ = (zhs (zhs μ 67 (w_X11_vanity_67 (μ 67))) 72 (w_X11_vanity_72 (μ 67) (μ 72) x t v)); symm; rw [e67, e72]; rw [zhs_i2 (ν := (zhs μ 67 ((upd (μ 67) 0 0)))) (k := 72) (g := (μ 72)) rfl]))
  · skip
    refine pv_ldc t_X11_vanity_13 kc_X11_165 ?_
    exact pv_ireti t_X11_vanity_15 rfl (by unfold a_X11_vanity; rw [if_pos c10]) (Prod.ext rfl (by have e67 : w_X11_vanity_67 (μ 67) = (upd (μ 67) 0 0) := (by unfold w_X11_vanity_67; rfl); have e72 : w_X11_vanity_72 (μ 67) (μ 72) x t v = (μ 72) := (by unfold w_X11_vanity_72; rw [if_pos c10]); show _ = (zhs (zhs μ 67 (w_X11_vanity_67 (μ 67))) 72 (w_X11_vanity_72 (μ 67) (μ 72) x t v)); symm; rw [e67, e72]; rw [zhs_i2 (ν := (zhs μ 67 ((upd (μ 67) 0 0)))) (k := 72) (g := (μ 72)) rfl]))
def a_X11_met (f67 : Nat → Int32) (f72 : Nat → Int32) (x : Int32) (y : Int32) : Int32 := (if (a_X11_isDuellist ((upd f67 0 0)) x) = 0 then (-1000000001) else (if (a_X11_isDuellist ((upd f67 0 0)) y) = 0 then (-1000000001) else (if x = y then (-1000000001) else f72 ((45 + prN x.toNatClampNeg y.toNatClampNeg)))))
def w_X11_met_67 (f67 : Nat → Int32) : Nat → Int32 := (upd f67 0 0)
theorem e_X11_met {l : Launch} {X : zX} {d : Nat} {μ : zH} {np : Nat} {x : Int32} {y : Int32} (hnp : μ 67 10 = nI np) (hp4 : np ≤ 4) : zRn l X mi_X11_met (d + 5) [.inr 67, .inl (x), .inl (y)] (zSH, μ) (some (.inl (a_X11_met (μ 67) (μ 72) x y))) (zSH, (zhs μ 67 (w_X11_met_67 (μ 67)))) := by
  refine pv_aload_n (i := 0) t_X11_met_0 rfl rfl ?_
  refine pv_iconst (v := 0) t_X11_met_1 zi_0 ?_
  refine sv_putI ((zhs μ 67 ((upd (μ 67) 0 0)))) t_X11_met_2 fl_X11_69 zfn_10_0 hh_67 rfl rfl ?_
  refine pv_aload_n (i := 0) t_X11_met_5 rfl rfl ?_
  refine pv_iload_n (i := 1) t_X11_met_6 rfl rfl ?_
  refine sv_V1 (a_X11_isDuellist ((upd (μ 67) 0 0)) x) ((zhs μ 67 ((upd (μ 67) 0 0)))) t_X11_met_7 ml_X11_161 mo_X11_isDuellist hh_67 rfl (Nat.le_of_ble_eq_true rfl) (e_X11_isDuellist) (Nat.le_of_ble_eq_true rfl) rfl rfl ?_
  refine pv_if_eq t_X11_met_10 (fun c10 => ?_) (fun c10 => ?_)
  · skip
    refine pv_ldc t_X11_met_42 kc_X11_165 ?_
    exact pv_ireti t_X11_met_44 rfl (by unfold a_X11_met; rw [if_pos c10]) (Prod.ext rfl (by have e67 : w_X11_met_67 (μ 67) = (upd (μ 67) 0 0) := (by unfold w_X11_met_67; rfl); show _ = (zhs μ 67 (w_X11_met_67 (μ 67))); symm; rw [e67]))
  · skip
    obtain ⟨hx1, hx2⟩ := (isd (f := μ 67) hnp hp4 c10).2
    refine pv_aload_n (i := 0) t_X11_met_13 rfl rfl ?_
    refine pv_iload_n (i := 2) t_X11_met_14 rfl rfl ?_
    refine sv_V1 (a_X11_isDuellist ((upd (μ 67) 0 0)) y) ((zhs μ 67 ((upd (μ 67) 0 0)))) t_X11_met_15 ml_X11_161 mo_X11_isDuellist hh_67 rfl (Nat.le_of_ble_eq_true rfl) (e_X11_isDuellist) (Nat.le_of_ble_eq_true rfl) rfl rfl ?_
    refine pv_if_eq t_X11_met_18 (fun c18 => ?_) (fun c18 => ?_)
    · skip
      refine pv_ldc t_X11_met_42 kc_X11_165 ?_
      exact pv_ireti t_X11_met_44 rfl (by unfold a_X11_met; rw [if_neg c10, if_pos c18]) (Prod.ext rfl (by have e67 : w_X11_met_67 (μ 67) = (upd (μ 67) 0 0) := (by unfold w_X11_met_67; rfl); show _ = (zhs μ 67 (w_X11_met_67 (μ 67))); symm; rw [e67]))
    · skip
      obtain ⟨hy1, hy2⟩ := (isd (f := μ 67) hnp hp4 c18).2
      refine pv_iload_n (i := 1) t_X11_met_21 rfl rfl ?_
      refine pv_iload_n (i := 2) t_X11_met_22 rfl rfl ?_
      refine pv_icmp_eq t_X11_met_23 (fun c23 => ?_) (fun c23 => ?_)
      · skip
        refine pv_ldc t_X11_met_42 kc_X11_165 ?_
        exact pv_ireti t_X11_met_44 rfl (by unfold a_X11_met; rw [if_neg c10, if_neg c18, if_pos c23]) (Prod.ext rfl (by have e67 : w_X11_met_67 (μ 67) = (upd (μ 67) 0 0) := (by unfold w_X11_met_67; rfl); show _ = (zhs μ 67 (w_X11_met_67 (μ 67))); symm; rw [e67]))
      · skip
        refine pv_aload_n (i := 0) t_X11_met_26 rfl rfl ?_
        refine pv_getR t_X11_met_27 fl_X11_26 hh_67 rfl ?_
        refine pv_bipush (v := 45) t_X11_met_30 zb_45 ?_
        refine pv_iload_n (i := 1) t_X11_met_32 rfl rfl ?_
        refine pv_iload_n (i := 2) t_X11_met_33 rfl rfl ?_
        obtain ⟨hp1, hp2⟩ := pr_e _ hx1 _ hy1 (fun q => c23 (hx2.trans ((congrArg nI q).trans hy2.symm)))
        refine sv_S2 (a_X11_pairOf x.toNatClampNeg y.toNatClampNeg) ((zhs μ 67 ((upd (μ 67) 0 0)))) t_X11_met_34 ml_X11_189 mo_X11_pairOf (Nat.le_of_ble_eq_true rfl) (zas (lcI (k := x.toNatClampNeg) hx2 (lcI (k := y.toNatClampNeg) hy2 rfl)) (e_X11_pairOf (a := x.toNatClampNeg) (b := y.toNatClampNeg))) (Nat.le_of_ble_eq_true rfl) rfl rfl ?_
        refine pv_iadd t_X11_met_37 ?_
        refine sv_iald ((μ 72) ((45 + prN x.toNatClampNeg y.toNatClampNeg))) t_X11_met_38 (Or.inl hh_72) (ixi (k := (45 + prN x.toNatClampNeg y.toNatClampNeg)) (nIa rfl hp1) (by omega) (by decide)) ((ixe (k := (45 + prN x.toNatClampNeg y.toNatClampNeg)) (nIa rfl hp1) (by omega)).trans (by first | rfl | (simp only [zhs_s, pk_us]; done) | (simp [zhs, upd]; done))) ?_
        refine pv_goto t_X11_met_39 ?_
        exact pv_ireti t_X11_met_44 rfl (by unfold a_X11_met; rw [if_neg c10, if_neg c18, if_neg c23]) (Prod.ext rfl (by have e67 : w_X11_met_67 (μ 67) = (upd (μ 67) 0 0) := (by unfold w_X11_met_67; rfl); show _ = (zhs μ 67 (w_X11_met_67 (μ 67))); symm; rw [e67]))
