def a_X11_number (f67 : Nat → Int32) (lo : Int32) (hi : Int32) (ag : Int32) : Int32 := (if (f67 4) = 1 then (if 3 < (f67 7) then (if (a_X11_isWell (w_X11_fails_67 f67 2)) = 0 then lo else (w_X11_fails_67 f67 2) 6) else (if (a_X11_in (f67 6) lo hi) = 0 then (if (a_X11_isWell (w_X11_fails_67 f67 2)) = 0 then lo else (w_X11_fails_67 f67 2) 6) else (if ag = 0 then (if (a_X11_isWell f67) = 0 then lo else f67 6) else (if (a_X11_isWell (w_X11_fails_67 f67 4)) = 0 then lo else (w_X11_fails_67 f67 4) 6)))) else (if (a_X11_isWell (w_X11_fails_67 f67 1)) = 0 then lo else (w_X11_fails_67 f67 1) 6))
def w_X11_number_67 (f67 : Nat → Int32) (f68 : Nat → Int32) (lo : Int32) (hi : Int32) (ag : Int32) (n : Nat) : Nat → Int32 := (if (f67 4) = 1 then (if 3 < (f67 7) then (if (a_X11_isWell (w_X11_fails_67 f67 2)) = 0 then w_X11_fails_67 f67 2 else w_X11_advances_67 (w_X11_fails_67 f67 2) f68 n) else (if (a_X11_in (f67 6) lo hi) = 0 then (if (a_X11_isWell (w_X11_fails_67 f67 2)) = 0 then w_X11_fails_67 f67 2 else w_X11_advances_67 (w_X11_fails_67 f67 2) f68 n) else (if ag = 0 then (if (a_X11_isWell f67) = 0 then f67 else w_X11_advances_67 f67 f68 n) else (if (a_X11_isWell (w_X11_fails_67 f67 4)) = 0 then w_X11_fails_67 f67 4 else w_X11_advances_67 (w_X11_fails_67 f67 4) f68 n)))) else (if (a_X11_isWell (w_X11_fails_67 f67 1)) = 0 then w_X11_fails_67 f67 1 else w_X11_advances_67 (w_X11_fails_67 f67 1) f68 n))
theorem e_X11_number {l : Launch} {X : zX} {d : Nat} {μ : zH} {n : Nat} {lo : Int32} {hi : Int32} {ag : Int32} (hP : PI n (μ 67)) (hn250 : n ≤ 250) : zRn l X mi_X11_number (d + 6) [.inr 67, .inl (lo), .inl (hi), .inl (ag)] (zSH, μ) (some (.inl (a_X11_number (μ 67) lo hi ag))) (zSH, (zhs μ 67 (w_X11_number_67 (μ 67) (μ 68) lo hi ag n))) := by
  refine pv_aload_n (i := 0) t_X11_number_0 rfl rfl ?_
  refine sv_getI ((μ 67) 4) t_X11_number_1 fl_X11_91 hh_67 rfl rfl ?_
  refine pv_iconst (v := 1) t_X11_number_4 zi_1 ?_
  refine pv_icmp_eq t_X11_number_5 (fun c5 => ?_) (fun c5 => ?_)
  · skip
    refine pv_aload_n (i := 0) t_X11_number_16 rfl rfl ?_
    refine sv_getI ((μ 67) 7) t_X11_number_17 fl_X11_97 hh_67 rfl rfl ?_
    refine pv_iconst (v := 3) t_X11_number_20 zi_3 ?_
    refine pv_icmp_gt t_X11_number_21 (fun c21 => ?_) (fun c21 => ?_)
    · skip
      refine pv_aload_n (i := 0) t_X11_number_36 rfl rfl ?_
      refine pv_iconst (v := 2) t_X11_number_37 zi_2 ?_
      refine sv_WV1 ((zhs μ 67 (w_X11_fails_67 (μ 67) 2))) t_X11_number_38 ml_X11_107 mo_X11_fails hh_67 rfl (Nat.le_of_ble_eq_true rfl) (e_X11_fails) (Nat.le_of_ble_eq_true rfl) rfl ?_
      refine pv_goto t_X11_number_41 ?_
      refine pv_aload_n (i := 0) t_X11_number_53 rfl rfl ?_
      refine sv_V0 (a_X11_isWell (w_X11_fails_67 (μ 67) 2)) ((zhs μ 67 (w_X11_fails_67 (μ 67) 2))) t_X11_number_54 ml_X11_103 mo_X11_isWell hh_67 rfl (Nat.le_of_ble_eq_true rfl) (e_X11_isWell) (Nat.le_of_ble_eq_true rfl) rfl rfl ?_
      refine pv_if_eq t_X11_number_57 (fun c57 => ?_) (fun c57 => ?_)
      · skip
        refine pv_iload_n (i := 1) t_X11_number_67 rfl rfl ?_
        refine pv_istore t_X11_number_68 (Nat.le_of_ble_eq_true rfl) ?_
        refine pv_aload_n (i := 0) t_X11_number_70 rfl rfl ?_
        refine sv_V0 (a_X11_isWell (w_X11_fails_67 (μ 67) 2)) ((zhs μ 67 (w_X11_fails_67 (μ 67) 2))) t_X11_number_71 ml_X11_103 mo_X11_isWell hh_67 rfl (Nat.le_of_ble_eq_true rfl) (e_X11_isWell) (Nat.le_of_ble_eq_true rfl) rfl rfl ?_
        refine pv_if_eq t_X11_number_74 (fun c74 => ?_) (fun c74 => absurd c57 c74)
        refine pv_iload t_X11_number_81 rfl ?_
        exact pv_ireti t_X11_number_83 rfl (by unfold a_X11_number; rw [if_pos c5, if_pos c21, if_pos c57]) (Prod.ext rfl (by have e67 : w_X11_number_67 (μ 67) (μ 68) lo hi ag n = w_X11_fails_67 (μ 67) 2 := (by unfold w_X11_number_67; rw [if_pos c5, if_pos c21, if_pos c57]); show _ = (zhs μ 67 (w_X11_number_67 (μ 67) (μ 68) lo hi ag n)); symm; rw [e67]))
      · skip
        refine pv_aload_n (i := 0) t_X11_number_60 rfl rfl ?_
        refine sv_getI ((w_X11_fails_67 (μ 67) 2) 6) t_X11_number_61 fl_X11_94 hh_67 rfl rfl ?_
        refine pv_goto t_X11_number_64 ?_
        refine pv_istore t_X11_number_68 (Nat.le_of_ble_eq_true rfl) ?_
        refine pv_aload_n (i := 0) t_X11_number_70 rfl rfl ?_
        refine sv_V0 (a_X11_isWell (w_X11_fails_67 (μ 67) 2)) ((zhs μ 67 (w_X11_fails_67 (μ 67) 2))) t_X11_number_71 ml_X11_103 mo_X11_isWell hh_67 rfl (Nat.le_of_ble_eq_true rfl) (e_X11_isWell) (Nat.le_of_ble_eq_true rfl) rfl rfl ?_
        refine pv_if_eq t_X11_number_74 (fun c74 => absurd c74 c57) (fun c74 => ?_)
        refine pv_aload_n (i := 0) t_X11_number_77 rfl rfl ?_
        refine sv_WV0 ((zhs μ 67 (w_X11_advances_67 (w_X11_fails_67 (μ 67) 2) (μ 68) n))) t_X11_number_78 ml_X11_111 mo_X11_advances hh_67 rfl (Nat.le_of_ble_eq_true rfl) (e_X11_advances (by repeat (first | exact hP | refine PI.fails ?_ | refine PI.number ?_ hn250 | refine PI.adv ?_ hn250 | refine PI.u ?_ (by decide))) hn250) (Nat.le_of_ble_eq_true rfl) (by (try simp (disch := decide) only [zhs_d, zhs_s]); rw [zhs_hs] <;> (first | rfl | (congr 1; funext k_; simp only [upd, zhs_s]; ((repeat' split) <;> first | rfl | omega | (subst_vars; contradiction) | (simp_all; done))))) ?_
        refine pv_iload t_X11_number_81 rfl ?_
        exact pv_ireti t_X11_number_83 rfl (by unfold a_X11_number; rw [if_pos c5, if_pos c21, if_neg c57]) (Prod.ext rfl (by have e67 : w_X11_number_67 (μ 67) (μ 68) lo hi ag n = w_X11_advances_67 (w_X11_fails_67 (μ 67) 2) (μ 68) n := (by unfold w_X11_number_67; rw [if_pos c5, if_pos c21, if_neg c57]); show _ = (zhs μ 67 (w_X11_number_67 (μ 67) (μ 68) lo hi ag n)); symm; rw [e67]))
    · skip
      refine pv_aload_n (i := 0) t_X11_number_24 rfl rfl ?_
      refine sv_getI ((μ 67) 6) t_X11_number_25 fl_X11_94 hh_67 rfl rfl ?_
      refine pv_iload_n (i := 1) t_X11_number_28 rfl rfl ?_
      refine pv_iload_n (i := 2) t_X11_number_29 rfl rfl ?_
      refine sv_S3 (a_X11_in ((μ 67) 6) lo hi) μ t_X11_number_30 ml_X11_72 mo_X11_in (Nat.le_of_ble_eq_true rfl) (e_X11_in) (Nat.le_of_ble_eq_true rfl) rfl rfl ?_
      refine pv_if_ne t_X11_number_33 (fun c33 => ?_) (fun c33 => ?_)
      · skip
        refine pv_iload_n (i := 3) t_X11_number_44 rfl rfl ?_
        refine pv_if_eq t_X11_number_45 (fun c45 => ?_) (fun c45 => ?_)
        · skip
          refine pv_aload_n (i := 0) t_X11_number_53 rfl rfl ?_
          refine sv_V0 (a_X11_isWell (μ 67)) μ t_X11_number_54 ml_X11_103 mo_X11_isWell hh_67 rfl (Nat.le_of_ble_eq_true rfl) (e_X11_isWell) (Nat.le_of_ble_eq_true rfl) rfl rfl ?_
          refine pv_if_eq t_X11_number_57 (fun c57 => ?_) (fun c57 => ?_)
          · skip
            refine pv_iload_n (i := 1) t_X11_number_67 rfl rfl ?_
            refine pv_istore t_X11_number_68 (Nat.le_of_ble_eq_true rfl) ?_
            refine pv_aload_n (i := 0) t_X11_number_70 rfl rfl ?_
            refine sv_V0 (a_X11_isWell (μ 67)) μ t_X11_number_71 ml_X11_103 mo_X11_isWell hh_67 rfl (Nat.le_of_ble_eq_true rfl) (e_X11_isWell) (Nat.le_of_ble_eq_true rfl) rfl rfl ?_
            refine pv_if_eq t_X11_number_74 (fun c74 => ?_) (fun c74 => absurd c57 c74)
            refine pv_iload t_X11_number_81 rfl ?_
            exact pv_ireti t_X11_number_83 rfl (by unfold a_X11_number; rw [if_pos c5, if_neg c21, if_neg c33, if_pos c45, if_pos c57]) (Prod.ext rfl (by have e67 : w_X11_number_67 (μ 67) (μ 68) lo hi ag n = (μ 67) := (by unfold w_X11_number_67; rw [if_pos c5, if_neg c21, if_neg c33, if_pos c45, if_pos c57]); show _ = (zhs μ 67 (w_X11_number_67 (μ 67) (μ 68) lo hi ag n)); symm; rw [e67]; rw [zhs_i2 (ν := μ) (k := 67) (g := (μ 67)) rfl]))
          · skip
            refine pv_aload_n (i := 0) t_X11_number_60 rfl rfl ?_
            refine sv_getI ((μ 67) 6) t_X11_number_61 fl_X11_94 hh_67 rfl rfl ?_
            refine pv_goto t_X11_number_64 ?_
            refine pv_istore t_X11_number_68 (Nat.le_of_ble_eq_true rfl) ?_
            refine pv_aload_n (i := 0) t_X11_number_70 rfl rfl ?_
            refine sv_V0 (a_X11_isWell (μ 67)) μ t_X11_number_71 ml_X11_103 mo_X11_isWell hh_67 rfl (Nat.le_of_ble_eq_true rfl) (e_X11_isWell) (Nat.le_of_ble_eq_true rfl) rfl rfl ?_
            refine pv_if_eq t_X11_number_74 (fun c74 => absurd c74 c57) (fun c74 => ?_)
            refine pv_aload_n (i := 0) t_X11_number_77 rfl rfl ?_
            refine sv_WV0 ((zhs μ 67 (w_X11_advances_67 (μ 67) (μ 68) n))) t_X11_number_78 ml_X11_111 mo_X11_advances hh_67 rfl (Nat.le_of_ble_eq_true rfl) (e_X11_advances (by repeat (first | exact hP | refine PI.fails ?_ | refine PI.number ?_ hn250 | refine PI.adv ?_ hn250 | refine PI.u ?_ (by decide))) hn250) (Nat.le_of_ble_eq_true rfl) rfl ?_
            refine pv_iload t_X11_number_81 rfl ?_
            exact pv_ireti t_X11_number_83 rfl (by unfold a_X11_number; rw [if_pos c5, if_neg c21, if_neg c33, if_pos c45, if_neg c57]) (Prod.ext rfl (by have e67 : w_X11_number_67 (μ 67) (μ 68) lo hi ag n = w_X11_advances_67 (μ 67) (μ 68) n := (by unfold w_X11_number_67; rw [if_pos c5, if_neg c21, if_neg c33, if_pos c45, if_neg c57]); show _ = (zhs μ 67 (w_X11_number_67 (μ 67) (μ 68) lo hi ag n)); symm; rw [e67]))
        · skip
          refine pv_aload_n (i := 0) t_X11_number_48 rfl rfl ?_
          refine pv_iconst (v := 4) t_X11_number_49 zi_4 ?_
          refine sv_WV1 ((zhs μ 67 (w_X11_fails_67 (μ 67) 4))) t_X11_number_50 ml_X11_107 mo_X11_fails hh_67 rfl (Nat.le_of_ble_eq_true rfl) (e_X11_fails) (Nat.le_of_ble_eq_true rfl) rfl ?_
          refine pv_aload_n (i := 0) t_X11_number_53 rfl rfl ?_
          refine sv_V0 (a_X11_isWell (w_X11_fails_67 (μ 67) 4)) ((zhs μ 67 (w_X11_fails_67 (μ 67) 4))) t_X11_number_54 ml_X11_103 mo_X11_isWell hh_67 rfl (Nat.le_of_ble_eq_true rfl) (e_X11_isWell) (Nat.le_of_ble_eq_true rfl) rfl rfl ?_
          refine pv_if_eq t_X11_number_57 (fun c57 => ?_) (fun c57 => ?_)
          · skip
            refine pv_iload_n (i := 1) t_X11_number_67 rfl rfl ?_
            refine pv_istore t_X11_number_68 (Nat.le_of_ble_eq_true rfl) ?_
            refine pv_aload_n (i := 0) t_X11_number_70 rfl rfl ?_
            refine sv_V0 (a_X11_isWell (w_X11_fails_67 (μ 67) 4)) ((zhs μ 67 (w_X11_fails_67 (μ 67) 4))) t_X11_number_71 ml_X11_103 mo_X11_isWell hh_67 rfl (Nat.le_of_ble_eq_true rfl) (e_X11_isWell) (Nat.le_of_ble_eq_true rfl) rfl rfl ?_
            refine pv_if_eq t_X11_number_74 (fun c74 => ?_) (fun c74 => absurd c57 c74)
            refine pv_iload t_X11_number_81 rfl ?_
            exact pv_ireti t_X11_number_83 rfl (by unfold a_X11_number; rw [if_pos c5, if_neg c21, if_neg c33, if_neg c45, if_pos c57]) (Prod.ext rfl (by have e67 : w_X11_number_67 (μ 67) (μ 68) lo hi ag n = w_X11_fails_67 (μ 67) 4 := (by unfold w_X11_number_67; rw [if_pos c5, if_neg c21, if_neg c33, if_neg c45, if_pos c57]); show _ = (zhs μ 67 (w_X11_number_67 (μ 67) (μ 68) lo hi ag n)); symm; rw [e67]))
          · skip
            refine pv_aload_n (i := 0) t_X11_number_60 rfl rfl ?_
            refine sv_getI ((w_X11_fails_67 (μ 67) 4) 6) t_X11_number_61 fl_X11_94 hh_67 rfl rfl ?_
            refine pv_goto t_X11_number_64 ?_
            refine pv_istore t_X11_number_68 (Nat.le_of_ble_eq_true rfl) ?_
            refine pv_aload_n (i := 0) t_X11_number_70 rfl rfl ?_
            refine sv_V0 (a_X11_isWell (w_X11_fails_67 (μ 67) 4)) ((zhs μ 67 (w_X11_fails_67 (μ 67) 4))) t_X11_number_71 ml_X11_103 mo_X11_isWell hh_67 rfl (Nat.le_of_ble_eq_true rfl) (e_X11_isWell) (Nat.le_of_ble_eq_true rfl) rfl rfl ?_
            refine pv_if_eq t_X11_number_74 (fun c74 => absurd c74 c57) (fun c74 => ?_)
            refine pv_aload_n (i := 0) t_X11_number_77 rfl rfl ?_
            refine sv_WV0 ((zhs μ 67 (w_X11_advances_67 (w_X11_fails_67 (μ 67) 4) (μ 68) n))) t_X11_number_78 ml_X11_111 mo_X11_advances hh_67 rfl (Nat.le_of_ble_eq_true rfl) (e_X11_advances (by repeat (first | exact hP | refine PI.fails ?_ | refine PI.number ?_ hn250 | refine PI.adv ?_ hn250 | refine PI.u ?_ (by decide))) hn250) (Nat.le_of_ble_eq_true rfl) (by (try simp (disch := decide) only [zhs_d, zhs_s]); rw [zhs_hs] <;> (first | rfl | (congr 1; funext k_; simp only [upd, zhs_s]; ((repeat' split) <;> first | rfl | omega | (subst_vars; contradiction) | (simp_all; done))))) ?_
            refine pv_iload t_X11_number_81 rfl ?_
            exact pv_ireti t_X11_number_83 rfl (by unfold a_X11_number; rw [if_pos c5, if_neg c21, if_neg c33, if_neg c45, if_neg c57]) (Prod.ext rfl (by have e67 : w_X11_number_67 (μ 67) (μ 68) lo hi ag n = w_X11_advances_67 (w_X11_fails_67 (μ 67) 4) (μ 68) n := (by unfold w_X11_number_67; rw [if_pos c5, if_neg c21, if_neg c33, if_neg c45, if_neg c57]); show _ = (zhs μ 67 (w_X11_number_67 (μ 67) (μ 68) lo hi ag n)); symm; rw [e67]))
      · skip
        refine pv_aload_n (i := 0) t_X11_number_36 rfl rfl ?_
        refine pv_iconst (v := 2) t_X11_number_37 zi_2 ?_
        refine sv_WV1 ((zhs μ 67 (w_X11_fails_67 (μ 67) 2))) t_X11_number_38 ml_X11_107 mo_X11_fails hh_67 rfl (Nat.le_of_ble_eq_true rfl) (e_X11_fails) (Nat.le_of_ble_eq_true rfl) rfl ?_
        refine pv_goto t_X11_number_41 ?_
        refine pv_aload_n (i := 0) t_X11_number_53 rfl rfl ?_
        refine sv_V0 (a_X11_isWell (w_X11_fails_67 (μ 67) 2)) ((zhs μ 67 (w_X11_fails_67 (μ 67) 2))) t_X11_number_54 ml_X11_103 mo_X11_isWell hh_67 rfl (Nat.le_of_ble_eq_true rfl) (e_X11_isWell) (Nat.le_of_ble_eq_true rfl) rfl rfl ?_
        refine pv_if_eq t_X11_number_57 (fun c57 => ?_) (fun c57 => ?_)
        · skip
          refine pv_iload_n (i := 1) t_X11_number_67 rfl rfl ?_
          refine pv_istore t_X11_number_68 (Nat.le_of_ble_eq_true rfl) ?_
          refine pv_aload_n (i := 0) t_X11_number_70 rfl rfl ?_
          refine sv_V0 (a_X11_isWell (w_X11_fails_67 (μ 67) 2)) ((zhs μ 67 (w_X11_fails_67 (μ 67) 2))) t_X11_number_71 ml_X11_103 mo_X11_isWell hh_67 rfl (Nat.le_of_ble_eq_true rfl) (e_X11_isWell) (Nat.le_of_ble_eq_true rfl) rfl rfl ?_
          refine pv_if_eq t_X11_number_74 (fun c74 => ?_) (fun c74 => absurd c57 c74)
          refine pv_iload t_X11_number_81 rfl ?_
          exact pv_ireti t_X11_number_83 rfl (by unfold a_X11_number; rw [if_pos c5, if_neg c21, if_pos c33, if_pos c57]) (Prod.ext rfl (by have e67 : w_X11_number_67 (μ 67) (μ 68) lo hi ag n = w_X11_fails_67 (μ 67) 2 := (by unfold w_X11_number_67; rw [if_pos c5, if_neg c21, if_pos c33, if_pos c57]); show _ = (zhs μ 67 (w_X11_number_67 (μ 67) (μ 68) lo hi ag n)); symm; rw [e67]))
        · skip
          refine pv_aload_n (i := 0) t_X11_number_60 rfl rfl ?_
          refine sv_getI ((w_X11_fails_67 (μ 67) 2) 6) t_X11_number_61 fl_X11_94 hh_67 rfl rfl ?_
          refine pv_goto t_X11_number_64 ?_
          refine pv_istore t_X11_number_68 (Nat.le_of_ble_eq_true rfl) ?_
          refine pv_aload_n (i := 0) t_X11_number_70 rfl rfl ?_
          refine sv_V0 (a_X11_isWell (w_X11_fails_67 (μ 67) 2)) ((zhs μ 67 (w_X11_fails_67 (μ 67) 2))) t_X11_number_71 ml_X11_103 mo_X11_isWell hh_67 rfl (Nat.le_of_ble_eq_true rfl) (e_X11_isWell) (Nat.le_of_ble_eq_true rfl) rfl rfl ?_
          refine pv_if_eq t_X11_number_74 (fun c74 => absurd c74 c57) (fun c74 => ?_)
          refine pv_aload_n (i := 0) t_X11_number_77 rfl rfl ?_
          refine sv_WV0 ((zhs μ 67 (w_X11_advances_67 (w_X11_fails_67 (μ 67) 2) (μ 68) n))) t_X11_number_78 ml_X11_111 mo_X11_advances hh_67 rfl (Nat.le_of_ble_eq_true rfl) (e_X11_advances (by repeat (first | exact hP | refine PI.fails ?_ | refine PI.number ?_ hn250 | refine PI.adv ?_ hn250 | refine PI.u ?_ (by decide))) hn250) (Nat.le_of_ble_eq_true rfl) (by (try simp (disch := decide) only [zhs_d, zhs_s]); rw [zhs_hs] <;> (first | rfl | (congr 1; funext k_; simp only [upd, zhs_s]; ((repeat' split) <;> first | rfl | omega | (subst_vars; contradiction) | (simp_all; done))))) ?_
          refine pv_iload t_X11_number_81 rfl ?_
          exact pv_ireti t_X11_number_83 rfl (by unfold a_X11_number; rw [if_pos c5, if_neg c21, if_pos c33, if_neg c57]) (Prod.ext rfl (by have e67 : w_X11_number_67 (μ 67) (μ 68) lo hi ag n = w_X11_advances_67 (w_X11_fails_67 (μ 67) 2) (μ 68) n := (by unfold w_X11_number_67; rw [if_pos c5, if_neg c21, if_pos c33, if_neg c57]); show _ = (zhs μ 67 (w_X11_number_67 (μ 67) (μ 68) lo hi ag n)); symm; rw [e67]))
  · skip
    refine pv_aload_n (i := 0) t_X11_number_8 rfl rfl ?_
    refine pv_iconst (v := 1) t_X11_number_9 zi_1 ?_
    refine sv_WV1 ((zhs μ 67 (w_X11_fails_67 (μ 67) 1))) t_X11_number_10 ml_X11_107 mo_X11_fails hh_67 rfl (Nat.le_of_ble_eq_true rfl) (e_X11_fails) (Nat.le_of_ble_eq_true rfl) rfl ?_
    refine pv_goto t_X11_number_13 ?_
    refine pv_aload_n (i := 0) t_X11_number_53 rfl rfl ?_
    refine sv_V0 (a_X11_isWell (w_X11_fails_67 (μ 67) 1)) ((zhs μ 67 (w_X11_fails_67 (μ 67) 1))) t_X11_number_54 ml_X11_103 mo_X11_isWell hh_67 rfl (Nat.le_of_ble_eq_true rfl) (e_X11_isWell) (Nat.le_of_ble_eq_true rfl) rfl rfl ?_
    refine pv_if_eq t_X11_number_57 (fun c57 => ?_) (fun c57 => ?_)
    · skip
      refine pv_iload_n (i := 1) t_X11_number_67 rfl rfl ?_
      refine pv_istore t_X11_number_68 (Nat.le_of_ble_eq_true rfl) ?_
      refine pv_aload_n (i := 0) t_X11_number_70 rfl rfl ?_
      refine sv_V0 (a_X11_isWell (w_X11_fails_67 (μ 67) 1)) ((zhs μ 67 (w_X11_fails_67 (μ 67) 1))) t_X11_number_71 ml_X11_103 mo_X11_isWell hh_67 rfl (Nat.le_of_ble_eq_true rfl) (e_X11_isWell) (Nat.le_of_ble_eq_true rfl) rfl rfl ?_
      refine pv_if_eq t_X11_number_74 (fun c74 => ?_) (fun c74 => absurd c57 c74)
      refine pv_iload t_X11_number_81 rfl ?_
      exact pv_ireti t_X11_number_83 rfl (by unfold a_X11_number; rw [if_neg c5, if_pos c57]) (Prod.ext rfl (by have e67 : w_X11_number_67 (μ 67) (μ 68) lo hi ag n = w_X11_fails_67 (μ 67) 1 := (by unfold w_X11_number_67; rw [if_neg c5, if_pos c57]); show _ = (zhs μ 67 (w_X11_number_67 (μ 67) (μ 68) lo hi ag n)); symm; rw [e67]))
    · skip
      refine pv_aload_n (i := 0) t_X11_number_60 rfl rfl ?_
      refine sv_getI ((w_X11_fails_67 (μ 67) 1) 6) t_X11_number_61 fl_X11_94 hh_67 rfl rfl ?_
      refine pv_goto t_X11_number_64 ?_
      refine pv_istore t_X11_number_68 (Nat.le_of_ble_eq_true rfl) ?_
      refine pv_aload_n (i := 0) t_X11_number_70 rfl rfl ?_
      refine sv_V0 (a_X11_isWell (w_X11_fails_67 (μ 67) 1)) ((zhs μ 67 (w_X11_fails_67 (μ 67) 1))) t_X11_number_71 ml_X11_103 mo_X11_isWell hh_67 rfl (Nat.le_of_ble_eq_true rfl) (e_X11_isWell) (Nat.le_of_ble_eq_true rfl) rfl rfl ?_
      refine pv_if_eq t_X11_number_74 (fun c74 => absurd c74 c57) (fun c74 => ?_)
      refine pv_aload_n (i := 0) t_X11_number_77 rfl rfl ?_
      refine sv_WV0 ((zhs μ 67 (w_X11_advances_67 (w_X11_fails_67 (μ 67) 1) (μ 68) n))) t_X11_number_78 ml_X11_111 mo_X11_advances hh_67 rfl (Nat.le_of_ble_eq_true rfl) (e_X11_advances (by repeat (first | exact hP | refine PI.fails ?_ | refine PI.number ?_ hn250 | refine PI.adv ?_ hn250 | refine PI.u ?_ (by decide))) hn250) (Nat.le_of_ble_eq_true rfl) (by (try simp (disch := decide) only [zhs_d, zhs_s]); rw [zhs_hs] <;> (first | rfl | (congr 1; funext k_; simp only [upd, zhs_s]; ((repeat' split) <;> first | rfl | omega | (subst_vars; contradiction) | (simp_all; done))))) ?_
      refine pv_iload t_X11_number_81 rfl ?_
      exact pv_ireti t_X11_number_83 rfl (by unfold a_X11_number; rw [if_neg c5, if_neg c57]) (Prod.ext rfl (by have e67 : w_X11_number_67 (μ 67) (μ 68) lo hi ag n = w_X11_advances_67 (w_X11_fails_67 (μ 67) 1) (μ 68) n := (by unfold w_X11_number_67; rw [if_neg c5, if_neg c57]); show _ = (zhs μ 67 (w_X11_number_67 (μ 67) (μ 68) lo hi ag n)); symm; rw [e67]))
theorem number_Q {Q : (Nat → Int32) → Prop} {f67 f68 : Nat → Int32} {lo hi ag : Int32} {n : Nat} (h0 : Q f67) (hf : ∀ k, Q (w_X11_fails_67 f67 k)) (ha : Q (w_X11_advances_67 f67 f68 n)) (hfa : ∀ k, Q (w_X11_advances_67 (w_X11_fails_67 f67 k) f68 n)) : Q (w_X11_number_67 f67 f68 lo hi ag n) := by
  unfold w_X11_number_67
  by_cases c1 : f67 4 = 1
  · rw [if_pos c1]
    by_cases c2 : 3 < f67 7
    · rw [if_pos c2]
      split
      · exact hf 2
      · exact hfa 2
    · rw [if_neg c2]
      split
      · split
        · exact hf 2
        · exact hfa 2
      · split
        · split
          · exact h0
          · exact ha
        · split
          · exact hf 4
          · exact hfa 4
  · rw [if_neg c1]
    split
    · exact hf 1
    · exact hfa 1
theorem PI.number {n : Nat} {f67 f68 : Nat → Int32} {lo hi ag : Int32} (hP : PI n f67) (hn250 : n ≤ 250) : PI n (w_X11_number_67 f67 f68 lo hi ag n) :=
  number_Q hP (fun _ => hP.fails) (hP.adv hn250) (fun _ => hP.fails.adv hn250)
theorem num_in {f67 : Nat → Int32} {lo hi ag : Int32} : a_X11_number f67 lo hi ag = lo ∨ (lo ≤ a_X11_number f67 lo hi ag ∧ a_X11_number f67 lo hi ag ≤ hi) := by
  have hw : ∀ k : Int32, ¬ k = 0 → a_X11_isWell (w_X11_fails_67 f67 k) = 0 := by
    intro k hk
    unfold a_X11_isWell w_X11_fails_67 a_X11_isWell
    by_cases h8 : f67 8 = 0
    · rw [if_pos h8, if_neg (show ¬ (1 : Int32) = 0 by decide)]
      exact if_neg (show ¬ k = 0 from hk)
    · rw [if_neg h8, if_pos rfl]
      exact if_neg h8
  have h1 := hw 1 (by decide)
  have h2 := hw 2 (by decide)
  have h4 := hw 4 (by decide)
  unfold a_X11_number
  repeat' split
  all_goals first | exact Or.inl rfl | (exact absurd (by assumption) (by assumption)) | (rename_i q _ _; exact Or.inr (in_t q)) | (refine Or.inr (in_t ?_); assumption)

def w_X11_ends_67 (f67 : Nat → Int32) (f68 : Nat → Int32) (n : Nat) : Nat → Int32 := (if (f67 4) = 2 then (if (a_X11_isWell f67) = 0 then f67 else w_X11_advances_67 f67 f68 n) else w_X11_fails_67 f67 1)
theorem e_X11_ends {l : Launch} {X : zX} {d : Nat} {μ : zH} {n : Nat} (hP : PI n (μ 67)) (hn250 : n ≤ 250) : zRn l X mi_X11_ends (d + 4) [.inr 67] (zSH, μ) none (zSH, (zhs μ 67 (w_X11_ends_67 (μ 67) (μ 68) n))) := by
  refine pv_aload_n (i := 0) t_X11_ends_0 rfl rfl ?_
  refine sv_getI ((μ 67) 4) t_X11_ends_1 fl_X11_91 hh_67 rfl rfl ?_
  refine pv_iconst (v := 2) t_X11_ends_4 zi_2 ?_
  refine pv_icmp_eq t_X11_ends_5 (fun c5 => ?_) (fun c5 => ?_)
  · skip
    refine pv_aload_n (i := 0) t_X11_ends_16 rfl rfl ?_
    refine sv_V0 (a_X11_isWell (μ 67)) μ t_X11_ends_17 ml_X11_103 mo_X11_isWell hh_67 rfl (Nat.le_of_ble_eq_true rfl) (e_X11_isWell) (Nat.le_of_ble_eq_true rfl) rfl rfl ?_
    refine pv_if_eq t_X11_ends_20 (fun c20 => ?_) (fun c20 => ?_)
    · skip
      exact pv_vret t_X11_ends_27 rfl (Prod.ext rfl (by have e67 : w_X11_ends_67 (μ 67) (μ 68) n = (μ 67) := (by unfold w_X11_ends_67; rw [if_pos c5, if_pos c20]); show _ = (zhs μ 67 (w_X11_ends_67 (μ 67) (μ 68) n)); symm; rw [e67]; rw [zhs_i2 (ν := μ) (k := 67) (g := (μ 67)) rfl]))
    · skip
      refine pv_aload_n (i := 0) t_X11_ends_23 rfl rfl ?_
      refine sv_WV0 ((zhs μ 67 (w_X11_advances_67 (μ 67) (μ 68) n))) t_X11_ends_24 ml_X11_111 mo_X11_advances hh_67 rfl (Nat.le_of_ble_eq_true rfl) (e_X11_advances (by repeat (first | exact hP | refine PI.fails ?_ | refine PI.number ?_ hn250 | refine PI.adv ?_ hn250 | refine PI.u ?_ (by decide))) hn250) (Nat.le_of_ble_eq_true rfl) rfl ?_
      exact pv_vret t_X11_ends_27 rfl (Prod.ext rfl (by have e67 : w_X11_ends_67 (μ 67) (μ 68) n = w_X11_advances_67 (μ 67) (μ 68) n := (by unfold w_X11_ends_67; rw [if_pos c5, if_neg c20]); show _ = (zhs μ 67 (w_X11_ends_67 (μ 67) (μ 68) n)); symm; rw [e67]))
  · skip
    refine pv_aload_n (i := 0) t_X11_ends_8 rfl rfl ?_
    refine pv_iconst (v := 1) t_X11_ends_9 zi_1 ?_
    refine sv_WV1 ((zhs μ 67 (w_X11_fails_67 (μ 67) 1))) t_X11_ends_10 ml_X11_107 mo_X11_fails hh_67 rfl (Nat.le_of_ble_eq_true rfl) (e_X11_fails) (Nat.le_of_ble_eq_true rfl) rfl ?_
    refine pv_goto t_X11_ends_13 ?_
    exact pv_vret t_X11_ends_27 rfl (Prod.ext rfl (by have e67 : w_X11_ends_67 (μ 67) (μ 68) n = w_X11_fails_67 (μ 67) 1 := (by unfold w_X11_ends_67; rw [if_neg c5]); show _ = (zhs μ 67 (w_X11_ends_67 (μ 67) (μ 68) n)); symm; rw [e67]))
theorem adv_o {g L : Nat → Int32} {n k : Nat} (hk : 7 < k ∨ k = 2) : w_X11_advances_67 g L n k = g k := by
  unfold w_X11_advances_67
  repeat' split
  all_goals (repeat rw [upn (by omega)])
theorem fails_o {g : Nat → Int32} {k : Nat} {v : Int32} (hk : k ≠ 8 ∧ k ≠ 9) : w_X11_fails_67 g v k = g k := by
  unfold w_X11_fails_67
  split
  · rfl
  · rw [upn hk.2, upn hk.1]
theorem nm_o {f67 f68 : Nat → Int32} {lo hi ag : Int32} {n k : Nat} (hk : 9 < k ∨ k = 2) : w_X11_number_67 f67 f68 lo hi ag n k = f67 k :=
  number_Q (Q := fun g => g k = f67 k) rfl (fun _ => fails_o (by omega)) (adv_o (by omega)) (fun _ => (adv_o (by omega)).trans (fails_o (by omega)))
theorem num4 {f67 : Nat → Int32} (h : nb (f67 12) 5) : nb (a_X11_number f67 0 (f67 12 - 1) 0) 4 := by
  rcases num_in (f67 := f67) (lo := 0) (hi := f67 12 - 1) (ag := 0) with h1 | ⟨h1, h2⟩
  · rw [h1]; exact ⟨by decide, rfl⟩
  · have h3 := h.2
    have h4 := h.1
    generalize a_X11_number f67 0 (f67 12 - 1) 0 = v at h1 h2 ⊢
    generalize (f67 12).toNatClampNeg = k at h3 h4
    rw [h3] at h2
    cases k with
    | zero => exact absurd (Int32.le_trans h1 h2) (by decide)
    | succ m =>
      rw [nI_pred] at h2
      exact nb_le (nb_of (n := m) (nI_toInt (by omega)) (by omega) (Int32.not_lt.mpr h1) h2) (by omega)
