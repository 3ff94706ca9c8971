def leS_F (f70 : Nat → Int32) (f72 : Nat → Int32) (e0 : Nat) (tt : Int32) (i : Nat) (w : Int32) : Int32 := if (if (f70 ((5 * i))) = tt then (if (a_X11_truthBy f70 i (f72 e0)) = 2 then (if (f70 (((5 * i) + 1))) ≤ w then (0 : Int32) else (1 : Int32) : Int32) else (0 : Int32) : Int32) else (0 : Int32)) = 0 then (w : Int32) else (f70 (((5 * i) + 1)) : Int32)
def leS (f70 : Nat → Int32) (f72 : Nat → Int32) (e0 : Nat) (tt : Int32) (z0 : Int32) : Nat → Int32 := zfold (fun i s => leS_F f70 f72 e0 tt i s) z0
theorem lp_leS {l : Launch} {X : zX} {d : Nat} {μ : zH} {e0 : Nat} {v : Int32} {tt : Int32} {nc : Nat} {z0 : Int32} (hnc : μ 67 11 = nI nc) (hc8 : nc ≤ 8) (he : e0 < 4) {r : Option zV} {S' : zS} (hk : zEv l X mi_X11_less (d + 5) 96 [(0, .inr 67), (1, .inl ((nI e0))), (2, .inl v), (3, .inl tt), (4, .inl ((leS (μ 70) (μ 72) e0 tt z0 nc))), (5, .inl (nI nc))] [] (zSH, μ) 0 0 r S') : ∀ j i : Nat, i + j = nc + 1 → i ≤ nc → ∀ (y : Int32) (w : Int32), y = nI i → w = (leS (μ 70) (μ 72) e0 tt z0 i) → zEv l X mi_X11_less (d + 5) 6 [(0, .inr 67), (1, .inl ((nI e0))), (2, .inl v), (3, .inl tt), (4, .inl w), (5, .inl y)] [] (zSH, μ) 0 0 r S' := by
  intro j
  induction j with
  | zero => intros; omega
  | succ j ih =>
    intro i hij hle y w hy hs
    subst hy
    refine pv_iload t_X11_less_6 rfl ?_
    refine pv_aload_n (i := 0) t_X11_less_8 rfl rfl ?_
    refine sv_getI (nI nc) t_X11_less_9 fl_X11_140 hh_67 rfl hnc ?_
    refine pv_icmp_ge t_X11_less_12 (fun c12 => ?_) (fun c12 => ?_)
    · skip
      have hie : i = nc := by have := (nI_leI (a := nc) (by omega) (by omega)).mp c12; omega
      subst hie
      rw [← hs] at hk
      exact hk
    · skip
      have hin : i < nc := Nat.lt_of_not_le (fun q => c12 (nI_le (a := nc) q (by omega)))
      refine pv_aload_n (i := 0) t_X11_less_15 rfl rfl ?_
      refine pv_getR t_X11_less_16 fl_X11_20 hh_67 rfl ?_
      refine pv_iconst (v := 5) t_X11_less_19 zi_5 ?_
      refine pv_iload t_X11_less_20 rfl ?_
      refine pv_imul t_X11_less_22 ?_
      refine sv_iald ((μ 70) ((5 * i))) t_X11_less_23 (Or.inl hh_70) (ixi (k := (5 * i)) (nIm rfl rfl) (by omega) (by decide)) ((ixe (k := (5 * i)) (nIm rfl rfl) (by omega)).trans (by first | rfl | (simp only [zhs_s, pk_us]; done) | (simp [zhs, upd]; done))) ?_
      refine pv_iload_n (i := 3) t_X11_less_24 rfl rfl ?_
      refine sv_phi (c := ((μ 70) ((5 * i))) = tt) (A := if (a_X11_truthBy (μ 70) i ((μ 72) e0)) = 2 then (if ((μ 70) (((5 * i) + 1))) ≤ w then (0 : Int32) else (1 : Int32) : Int32) else (0 : Int32)) (B := 0) (J := 65) (lv := [(0, .inr 67), (1, .inl ((nI e0))), (2, .inl v), (3, .inl tt), (4, .inl w), (5, .inl ((nI i)))]) (st := []) (S := (zSH, μ)) (fun kT kF => ?_) ?_
      · skip
        refine pv_icmp_ne t_X11_less_25 (fun c25 => ?_) (fun c25 => ?_)
        · skip
          refine pv_iconst (v := 0) t_X11_less_64 zi_0 ?_
          exact kF c25
        · skip
          refine pv_aload_n (i := 0) t_X11_less_28 rfl rfl ?_
          refine pv_iload t_X11_less_29 rfl ?_
          refine pv_aload_n (i := 0) t_X11_less_31 rfl rfl ?_
          refine pv_getR t_X11_less_32 fl_X11_26 hh_67 rfl ?_
          refine pv_iload_n (i := 1) t_X11_less_35 rfl rfl ?_
          refine sv_iald ((μ 72) e0) t_X11_less_36 (Or.inl hh_72) (ixi (k := e0) rfl (by omega) (by decide)) ((ixe (k := e0) rfl (by omega)).trans (by first | rfl | (simp only [zhs_s, pk_us]; done) | (simp [zhs, upd]; done))) ?_
          refine sv_V2 (a_X11_truthBy (μ 70) i ((μ 72) e0)) μ t_X11_less_37 ml_X11_175 mo_X11_truthBy hh_67 rfl (Nat.le_of_ble_eq_true rfl) (e_X11_truthBy (c := i) (by omega)) (Nat.le_of_ble_eq_true rfl) rfl rfl ?_
          refine pv_iconst (v := 2) t_X11_less_40 zi_2 ?_
          refine sv_phi (c := (a_X11_truthBy (μ 70) i ((μ 72) e0)) = 2) (A := if ((μ 70) (((5 * i) + 1))) ≤ w then (0 : Int32) else (1 : Int32)) (B := 0) (J := 65) (lv := [(0, .inr 67), (1, .inl ((nI e0))), (2, .inl v), (3, .inl tt), (4, .inl w), (5, .inl ((nI i)))]) (st := []) (S := (zSH, μ)) (fun kT kF => ?_) ?_
          · skip
            refine pv_icmp_ne t_X11_less_41 (fun c41 => ?_) (fun c41 => ?_)
            · skip
              refine pv_iconst (v := 0) t_X11_less_64 zi_0 ?_
              exact kF c41
            · skip
              refine pv_aload_n (i := 0) t_X11_less_44 rfl rfl ?_
              refine pv_getR t_X11_less_45 fl_X11_20 hh_67 rfl ?_
              refine pv_iconst (v := 5) t_X11_less_48 zi_5 ?_
              refine pv_iload t_X11_less_49 rfl ?_
              refine pv_imul t_X11_less_51 ?_
              refine pv_iconst (v := 1) t_X11_less_52 zi_1 ?_
              refine pv_iadd t_X11_less_53 ?_
              refine sv_iald ((μ 70) (((5 * i) + 1))) t_X11_less_54 (Or.inl hh_70) (ixi (k := ((5 * i) + 1)) (nIa (nIm rfl rfl) rfl) (by omega) (by decide)) ((ixe (k := ((5 * i) + 1)) (nIa (nIm rfl rfl) rfl) (by omega)).trans (by first | rfl | (simp only [zhs_s, pk_us]; done) | (simp [zhs, upd]; done))) ?_
              refine pv_iload t_X11_less_55 rfl ?_
              refine sv_phi (c := ((μ 70) (((5 * i) + 1))) ≤ w) (A := 0) (B := 1) (J := 65) (lv := [(0, .inr 67), (1, .inl ((nI e0))), (2, .inl v), (3, .inl tt), (4, .inl w), (5, .inl ((nI i)))]) (st := []) (S := (zSH, μ)) (fun kT kF => ?_) ?_
              · skip
                refine pv_icmp_le t_X11_less_57 (fun c57 => ?_) (fun c57 => ?_)
                · skip
                  refine pv_iconst (v := 0) t_X11_less_64 zi_0 ?_
                  exact kT c57
                · skip
                  refine pv_iconst (v := 1) t_X11_less_60 zi_1 ?_
                  refine pv_goto t_X11_less_61 ?_
                  exact kF c57
              exact kT c41
          exact kT c25
      refine pv_istore t_X11_less_65 (Nat.le_of_ble_eq_true rfl) ?_
      refine pv_iload t_X11_less_67 rfl ?_
      refine sv_phi (c := (if ((μ 70) ((5 * i))) = tt then (if (a_X11_truthBy (μ 70) i ((μ 72) e0)) = 2 then (if ((μ 70) (((5 * i) + 1))) ≤ w then (0 : Int32) else (1 : Int32) : Int32) else (0 : Int32) : Int32) else (0 : Int32)) = 0) (A := w) (B := (μ 70) (((5 * i) + 1))) (J := 88) (lv := [(0, .inr 67), (1, .inl ((nI e0))), (2, .inl v), (3, .inl tt), (4, .inl w), (5, .inl ((nI i))), (6, .inl (if ((μ 70) ((5 * i))) = tt then (if (a_X11_truthBy (μ 70) i ((μ 72) e0)) = 2 then (if ((μ 70) (((5 * i) + 1))) ≤ w then (0 : Int32) else (1 : Int32) : Int32) else (0 : Int32) : Int32) else (0 : Int32)))]) (st := []) (S := (zSH, μ)) (fun kT kF => ?_) ?_
      · skip
        refine pv_if_eq t_X11_less_69 (fun c69 => ?_) (fun c69 => ?_)
        · skip
          refine pv_iload t_X11_less_86 rfl ?_
          exact kT c69
        · skip
          refine pv_aload_n (i := 0) t_X11_less_72 rfl rfl ?_
          refine pv_getR t_X11_less_73 fl_X11_20 hh_67 rfl ?_
          refine pv_iconst (v := 5) t_X11_less_76 zi_5 ?_
          refine pv_iload t_X11_less_77 rfl ?_
          refine pv_imul t_X11_less_79 ?_
          refine pv_iconst (v := 1) t_X11_less_80 zi_1 ?_
          refine pv_iadd t_X11_less_81 ?_
          refine sv_iald ((μ 70) (((5 * i) + 1))) t_X11_less_82 (Or.inl hh_70) (ixi (k := ((5 * i) + 1)) (nIa (nIm rfl rfl) rfl) (by omega) (by decide)) ((ixe (k := ((5 * i) + 1)) (nIa (nIm rfl rfl) rfl) (by omega)).trans (by first | rfl | (simp only [zhs_s, pk_us]; done) | (simp [zhs, upd]; done))) ?_
          refine pv_goto t_X11_less_83 ?_
          exact kF c69
      refine pv_istore t_X11_less_88 (Nat.le_of_ble_eq_true rfl) ?_
      refine pv_iinc (v := 1) t_X11_less_90 rfl zi_1 ?_
      refine pv_goto t_X11_less_93 ?_
      refine pv_loc (lv' := [(0, _), (1, _), (2, _), (3, _), (4, _), (5, _)]) ⟨rfl, rfl, rfl, rfl, rfl, rfl, trivial⟩ ?_
      refine ih (i + 1) (by omega) (by omega) _ _ (nI_1 i) ?_
      have hs9 : (leS (μ 70) (μ 72) e0 tt z0 (i + 1)) = leS_F (μ 70) (μ 72) e0 tt i ((leS (μ 70) (μ 72) e0 tt z0 i)) := rfl
      rw [hs9, ← hs]
      show _ = leS_F (μ 70) (μ 72) e0 tt i w
      unfold leS_F
      rfl
def a_X11_less (f70 : Nat → Int32) (f72 : Nat → Int32) (e0 : Nat) (v : Int32) (tt : Int32) (nc : Nat) : Int32 := if 0 ≤ ((a_X11_vanityOf f72 e0 tt.toNatClampNeg) - (if ((leS f70 f72 e0 tt 0 nc)) = 0 then (9 : Int32) else ((v - 1) / ((leS f70 f72 e0 tt 0 nc)) : Int32))) then ((a_X11_vanityOf f72 e0 tt.toNatClampNeg) - (if ((leS f70 f72 e0 tt 0 nc)) = 0 then (9 : Int32) else ((v - 1) / ((leS f70 f72 e0 tt 0 nc)) : Int32)) : Int32) else (0 : Int32)
theorem e_X11_less {l : Launch} {X : zX} {d : Nat} {μ : zH} {nc : Nat} {e0 : Nat} {v : Int32} {tt : Int32} (hnc : μ 67 11 = nI nc) (hc8 : nc ≤ 8) (he : e0 < 4) (ht : nb tt 4) : zRn l X mi_X11_less (d + 5) [.inr 67, .inl (nI e0), .inl (v), .inl (tt)] (zSH, μ) (some (.inl (a_X11_less (μ 70) (μ 72) e0 v tt nc))) (zSH, μ) := by
  refine pv_iconst (v := 0) t_X11_less_0 zi_0 ?_
  refine pv_istore t_X11_less_1 (Nat.le_of_ble_eq_true rfl) ?_
  refine pv_iconst (v := 0) t_X11_less_3 zi_0 ?_
  refine pv_istore t_X11_less_4 (Nat.le_of_ble_eq_true rfl) ?_
  refine pv_loc (lv' := [(0, .inr 67), (1, .inl ((nI e0))), (2, .inl v), (3, .inl tt), (4, .inl 0), (5, .inl 0)]) ⟨rfl, rfl, rfl, rfl, rfl, rfl, trivial⟩ ?_
  refine lp_leS (e0 := e0) (v := v) (tt := tt) (nc := nc) (z0 := 0) hnc hc8 he ?_ (nc + 1) 0 (by omega) (by omega) _ _ rfl rfl
  refine pv_iload t_X11_less_96 rfl ?_
  refine sv_phi (c := ((leS (μ 70) (μ 72) e0 tt 0 nc)) = 0) (A := 9) (B := (v - 1) / ((leS (μ 70) (μ 72) e0 tt 0 nc))) (J := 112) (lv := [(0, .inr 67), (1, .inl ((nI e0))), (2, .inl v), (3, .inl tt), (4, .inl ((leS (μ 70) (μ 72) e0 tt 0 nc))), (5, .inl ((nI nc)))]) (st := []) (S := (zSH, μ)) (fun kT kF => ?_) ?_
  · skip
    refine pv_if_ne t_X11_less_98 (fun c98 => ?_) (fun c98 => ?_)
    · skip
      refine pv_iload_n (i := 2) t_X11_less_106 rfl rfl ?_
      refine pv_iconst (v := 1) t_X11_less_107 zi_1 ?_
      refine pv_isub t_X11_less_108 ?_
      refine pv_iload t_X11_less_109 rfl ?_
      refine pv_idiv t_X11_less_111 c98 ?_
      exact kF c98
    · skip
      refine pv_bipush (v := 9) t_X11_less_101 zb_9 ?_
      refine pv_goto t_X11_less_103 ?_
      exact kT c98
  refine pv_istore t_X11_less_112 (Nat.le_of_ble_eq_true rfl) ?_
  refine pv_aload_n (i := 0) t_X11_less_114 rfl rfl ?_
  refine pv_iload_n (i := 1) t_X11_less_115 rfl rfl ?_
  refine pv_iload_n (i := 3) t_X11_less_116 rfl rfl ?_
  have ht1 := ht.1
  refine sv_V2 (a_X11_vanityOf (μ 72) e0 tt.toNatClampNeg) μ t_X11_less_117 ml_X11_179 mo_X11_vanityOf hh_67 rfl (Nat.le_of_ble_eq_true rfl) (zas (lcS (lcI (k := e0) rfl (lcI (k := tt.toNatClampNeg) ht.2 rfl))) (e_X11_vanityOf (e := e0) (t := tt.toNatClampNeg) (by omega) (by omega))) (Nat.le_of_ble_eq_true rfl) rfl rfl ?_
  refine pv_iload t_X11_less_120 rfl ?_
  refine pv_isub t_X11_less_122 ?_
  refine pv_istore t_X11_less_123 (Nat.le_of_ble_eq_true rfl) ?_
  refine pv_iload t_X11_less_125 rfl ?_
  refine sv_phi (c := 0 ≤ ((a_X11_vanityOf (μ 72) e0 tt.toNatClampNeg) - (if ((leS (μ 70) (μ 72) e0 tt 0 nc)) = 0 then (9 : Int32) else ((v - 1) / ((leS (μ 70) (μ 72) e0 tt 0 nc)) : Int32)))) (A := (a_X11_vanityOf (μ 72) e0 tt.toNatClampNeg) - (if ((leS (μ 70) (μ 72) e0 tt 0 nc)) = 0 then (9 : Int32) else ((v - 1) / ((leS (μ 70) (μ 72) e0 tt 0 nc)) : Int32))) (B := 0) (J := 136) (lv := [(0, .inr 67), (1, .inl ((nI e0))), (2, .inl v), (3, .inl tt), (4, .inl ((leS (μ 70) (μ 72) e0 tt 0 nc))), (5, .inl (if ((leS (μ 70) (μ 72) e0 tt 0 nc)) = 0 then (9 : Int32) else ((v - 1) / ((leS (μ 70) (μ 72) e0 tt 0 nc)) : Int32))), (6, .inl ((a_X11_vanityOf (μ 72) e0 tt.toNatClampNeg) - (if ((leS (μ 70) (μ 72) e0 tt 0 nc)) = 0 then (9 : Int32) else ((v - 1) / ((leS (μ 70) (μ 72) e0 tt 0 nc)) : Int32))))]) (st := []) (S := (zSH, μ)) (fun kT kF => ?_) ?_
  · skip
    refine pv_if_ge t_X11_less_127 (fun c127 => ?_) (fun c127 => ?_)
    · skip
      refine pv_iload t_X11_less_134 rfl ?_
      exact kT c127
    · skip
      refine pv_iconst (v := 0) t_X11_less_130 zi_0 ?_
      refine pv_goto t_X11_less_131 ?_
      exact kF c127
  exact pv_ireti t_X11_less_136 rfl (by unfold a_X11_less; rfl) rfl
theorem nb_i {i n : Nat} (h : i < n) (hn : n < 1000) : nb (nI i) n := ⟨by rw [nI_clamp (by omega)]; exact h, by rw [nI_clamp (by omega)]⟩
def haS_F (f70 : Nat → Int32) (f72 : Nat → Int32) (e0 : Nat) (v : Int32) (p : Int32) (nc : Nat) (i : Nat) (w : Int32) : Int32 := w + (((a_X11_less f70 f72 e0 v ((nI i)) nc) * p) * (1 + ((nI i))))
def haS (f70 : Nat → Int32) (f72 : Nat → Int32) (e0 : Nat) (v : Int32) (p : Int32) (nc : Nat) (z0 : Int32) : Nat → Int32 := zfold (fun i s => haS_F f70 f72 e0 v p nc i s) z0
theorem lp_haS {l : Launch} {X : zX} {d : Nat} {μ : zH} {e0 : Nat} {v : Int32} {p : Int32} {tt : Int32} {nc : Nat} {g67 : Nat → Int32} {z0 : Int32} (hnc : g67 11 = nI nc) (hc8 : nc ≤ 8) (he : e0 < 4) {r : Option zV} {S' : zS} (hk : zEv l X mi_X11_harden (d + 8) 102 [(0, .inr 67), (1, .inl ((nI e0))), (2, .inl v), (3, .inl p), (4, .inl tt), (5, .inl ((haS (μ 70) (μ 72) e0 v p nc z0 4))), (6, .inl (nI 4))] [] (zSH, (zhs μ 67 g67)) 0 0 r S') : ∀ j i : Nat, i + j = 4 + 1 → i ≤ 4 → ∀ (y : Int32) (w : Int32), y = nI i → w = (haS (μ 70) (μ 72) e0 v p nc z0 i) → zEv l X mi_X11_harden (d + 8) 70 [(0, .inr 67), (1, .inl ((nI e0))), (2, .inl v), (3, .inl p), (4, .inl tt), (5, .inl w), (6, .inl y)] [] (zSH, (zhs μ 67 g67)) 0 0 r S' := by
  intro j
  induction j with
  | zero => intros; omega
  | succ j ih =>
    intro i hij hle y w hy hs
    subst hy
    refine pv_iload t_X11_harden_70 rfl ?_
    refine pv_iconst (v := 4) t_X11_harden_72 zi_4 ?_
    refine pv_icmp_ge t_X11_harden_73 (fun c73 => ?_) (fun c73 => ?_)
    · skip
      have hie : i = 4 := by have := (nI_leI (a := 4) (by omega) (by omega)).mp c73; omega
      subst hie
      rw [← hs] at hk
      exact hk
    · skip
      have hin : i < 4 := Nat.lt_of_not_le (fun q => c73 (nI_le (a := 4) q (by omega)))
      refine pv_iload t_X11_harden_76 rfl ?_
      refine pv_aload_n (i := 0) t_X11_harden_78 rfl rfl ?_
      refine pv_iload_n (i := 1) t_X11_harden_79 rfl rfl ?_
      refine pv_iload_n (i := 2) t_X11_harden_80 rfl rfl ?_
      refine pv_iload t_X11_harden_81 rfl ?_
      refine sv_V3 (a_X11_less (μ 70) (μ 72) e0 v ((nI i)) nc) ((zhs μ 67 g67)) t_X11_harden_83 ml_X11_244 mo_X11_less hh_67 rfl (Nat.le_of_ble_eq_true rfl) (e_X11_less (e0 := e0) hnc hc8 (by omega) (nb_i hin (by decide))) (Nat.le_of_ble_eq_true rfl) rfl rfl ?_
      refine pv_iload_n (i := 3) t_X11_harden_86 rfl rfl ?_
      refine pv_imul t_X11_harden_87 ?_
      refine pv_iconst (v := 1) t_X11_harden_88 zi_1 ?_
      refine pv_iload t_X11_harden_89 rfl ?_
      refine pv_iadd t_X11_harden_91 ?_
      refine pv_imul t_X11_harden_92 ?_
      refine pv_iadd t_X11_harden_93 ?_
      refine pv_istore t_X11_harden_94 (Nat.le_of_ble_eq_true rfl) ?_
      refine pv_iinc (v := 1) t_X11_harden_96 rfl zi_1 ?_
      refine pv_goto t_X11_harden_99 ?_
      refine pv_loc (lv' := [(0, _), (1, _), (2, _), (3, _), (4, _), (5, _), (6, _)]) ⟨rfl, rfl, rfl, rfl, rfl, rfl, rfl, trivial⟩ ?_
      refine ih (i + 1) (by omega) (by omega) _ _ (nI_1 i) ?_
      have hs9 : (haS (μ 70) (μ 72) e0 v p nc z0 (i + 1)) = haS_F (μ 70) (μ 72) e0 v p nc i ((haS (μ 70) (μ 72) e0 v p nc z0 i)) := rfl
      rw [hs9, ← hs]
      show _ = haS_F (μ 70) (μ 72) e0 v p nc i w
      unfold haS_F
      rfl
theorem tt_nb {t : Int32} (h : ¬ a_X11_in t (-1) 3 = 0) (h1 : ¬ t = -1) : nb t 4 := by
  obtain ⟨h2, h3⟩ := in_t h
  have h4 : (-1 : Int) ≤ t.toInt := Int32.le_iff_toInt_le.mp h2
  refine nb_of (n := 3) rfl (by decide) ?_ h3
  rw [zlt0]
  have h5 : t.toInt ≠ -1 := fun q => h1 (Int32.toInt_inj.mp q)
  omega
def a_X11_harden (f67 : Nat → Int32) (f70 : Nat → Int32) (f72 : Nat → Int32) (x : Int32) (v : Int32) (p : Int32) (tt : Int32) (nc : Nat) : Int32 := (if (a_X11_isDuellist ((upd f67 0 0)) x) = 0 then (-1000000001) else (if (a_X11_in v 1 99) = 0 then (-1000000002) else (if (a_X11_in p 1 9) = 0 then (-1000000002) else (if (a_X11_in tt ((-1)) 3) = 0 then (-1000000002) else (if tt = ((-1)) then (haS f70 f72 x.toNatClampNeg v p nc 0 4) else a_X11_less f70 f72 x.toNatClampNeg v tt nc)))))
def w_X11_harden_67 (f67 : Nat → Int32) (x : Int32) (v : Int32) (p : Int32) (tt : Int32) : Nat → Int32 := (if (a_X11_isDuellist ((upd f67 0 0)) x) = 0 then (upd f67 0 0) else (if (a_X11_in v 1 99) = 0 then (upd f67 0 0) else (if (a_X11_in p 1 9) = 0 then (upd f67 0 0) else (if (a_X11_in tt ((-1)) 3) = 0 then (upd f67 0 0) else (if tt = ((-1)) then ((upd f67 0 0)) else (upd f67 0 0))))))
theorem e_X11_harden {l : Launch} {X : zX} {d : Nat} {μ : zH} {np nc : Nat} {x : Int32} {v : Int32} {p : Int32} {tt : Int32} (hnp : μ 67 10 = nI np) (hp4 : np ≤ 4) (hnc : μ 67 11 = nI nc) (hc8 : nc ≤ 8) : zRn l X mi_X11_harden (d + 8) [.inr 67, .inl (x), .inl (v), .inl (p), .inl (tt)] (zSH, μ) (some (.inl (a_X11_harden (μ 67) (μ 70) (μ 72) x v p tt nc))) (zSH, (zhs μ 67 (w_X11_harden_67 (μ 67) x v p tt))) := by
  refine pv_aload_n (i := 0) t_X11_harden_0 rfl rfl ?_
  refine pv_iconst (v := 0) t_X11_harden_1 zi_0 ?_
  refine sv_putI ((zhs μ 67 ((upd (μ 67) 0 0)))) t_X11_harden_2 fl_X11_69 zfn_10_0 hh_67 rfl rfl ?_
  refine pv_aload_n (i := 0) t_X11_harden_5 rfl rfl ?_
  refine pv_iload_n (i := 1) t_X11_harden_6 rfl rfl ?_
  refine sv_V1 (a_X11_isDuellist ((upd (μ 67) 0 0)) x) ((zhs μ 67 ((upd (μ 67) 0 0)))) t_X11_harden_7 ml_X11_161 mo_X11_isDuellist hh_67 rfl (Nat.le_of_ble_eq_true rfl) (e_X11_isDuellist) (Nat.le_of_ble_eq_true rfl) rfl rfl ?_
  refine pv_if_ne t_X11_harden_10 (fun c10 => ?_) (fun c10 => ?_)
  · skip
    obtain ⟨hx1, hx2⟩ := (isd (f := μ 67) hnp hp4 c10).2
    refine pv_iload_n (i := 2) t_X11_harden_16 rfl rfl ?_
    refine pv_iconst (v := 1) t_X11_harden_17 zi_1 ?_
    refine pv_bipush (v := 99) t_X11_harden_18 zb_99 ?_
    refine sv_S3 (a_X11_in v 1 99) ((zhs μ 67 ((upd (μ 67) 0 0)))) t_X11_harden_20 ml_X11_72 mo_X11_in (Nat.le_of_ble_eq_true rfl) (e_X11_in) (Nat.le_of_ble_eq_true rfl) rfl rfl ?_
    refine pv_if_eq t_X11_harden_23 (fun c23 => ?_) (fun c23 => ?_)
    · skip
      refine pv_ldc t_X11_harden_46 kc_X11_76 ?_
      exact pv_ireti t_X11_harden_48 rfl (by unfold a_X11_harden; rw [if_neg c10, if_pos c23]) (Prod.ext rfl (by have e67 : w_X11_harden_67 (μ 67) x v p tt = (upd (μ 67) 0 0) := (by unfold w_X11_harden_67; rw [if_neg c10, if_pos c23]); show _ = (zhs μ 67 (w_X11_harden_67 (μ 67) x v p tt)); symm; rw [e67]))
    · skip
      refine pv_iload_n (i := 3) t_X11_harden_26 rfl rfl ?_
      refine pv_iconst (v := 1) t_X11_harden_27 zi_1 ?_
      refine pv_bipush (v := 9) t_X11_harden_28 zb_9 ?_
      refine sv_S3 (a_X11_in p 1 9) ((zhs μ 67 ((upd (μ 67) 0 0)))) t_X11_harden_30 ml_X11_72 mo_X11_in (Nat.le_of_ble_eq_true rfl) (e_X11_in) (Nat.le_of_ble_eq_true rfl) rfl rfl ?_
      refine pv_if_eq t_X11_harden_33 (fun c33 => ?_) (fun c33 => ?_)
      · skip
        refine pv_ldc t_X11_harden_46 kc_X11_76 ?_
        exact pv_ireti t_X11_harden_48 rfl (by unfold a_X11_harden; rw [if_neg c10, if_neg c23, if_pos c33]) (Prod.ext rfl (by have e67 : w_X11_harden_67 (μ 67) x v p tt = (upd (μ 67) 0 0) := (by unfold w_X11_harden_67; rw [if_neg c10, if_neg c23, if_pos c33]); show _ = (zhs μ 67 (w_X11_harden_67 (μ 67) x v p tt)); symm; rw [e67]))
      · skip
        refine pv_iload t_X11_harden_36 rfl ?_
        refine pv_iconst (v := -1) t_X11_harden_38 zi_m1 ?_
        refine pv_iconst (v := 3) t_X11_harden_39 zi_3 ?_
        refine sv_S3 (a_X11_in tt ((-1)) 3) ((zhs μ 67 ((upd (μ 67) 0 0)))) t_X11_harden_40 ml_X11_72 mo_X11_in (Nat.le_of_ble_eq_true rfl) (e_X11_in) (Nat.le_of_ble_eq_true rfl) rfl rfl ?_
        refine pv_if_ne t_X11_harden_43 (fun c43 => ?_) (fun c43 => ?_)
        · skip
          refine pv_iload t_X11_harden_49 rfl ?_
          refine pv_iconst (v := -1) t_X11_harden_51 zi_m1 ?_
          refine pv_icmp_eq t_X11_harden_52 (fun c52 => ?_) (fun c52 => ?_)
          · skip
            refine pv_iconst (v := 0) t_X11_harden_64 zi_0 ?_
            refine pv_istore t_X11_harden_65 (Nat.le_of_ble_eq_true rfl) ?_
            refine pv_iconst (v := 0) t_X11_harden_67 zi_0 ?_
            refine pv_istore t_X11_harden_68 (Nat.le_of_ble_eq_true rfl) ?_
            refine pv_loc (lv' := [(0, .inr 67), (1, .inl x), (2, .inl v), (3, .inl p), (4, .inl tt), (5, .inl 0), (6, .inl 0)]) ⟨rfl, rfl, rfl, rfl, rfl, rfl, rfl, trivial⟩ ?_
            refine zls (llS (llI (n := x.toNatClampNeg) hx2 (llS (llS (llS (llS (llS rfl))))))) ?_
            refine lp_haS (e0 := x.toNatClampNeg) (v := v) (p := p) (tt := tt) (nc := nc) (g67 := ((upd (μ 67) 0 0))) (z0 := 0) hnc hc8 (by omega) ?_ (4 + 1) 0 (by omega) (by omega) _ _ rfl rfl
            refine pv_iload t_X11_harden_102 rfl ?_
            exact pv_ireti t_X11_harden_104 rfl (by unfold a_X11_harden; rw [if_neg c10, if_neg c23, if_neg c33, if_neg c43, if_pos c52]) (Prod.ext rfl (by have e67 : w_X11_harden_67 (μ 67) x v p tt = ((upd (μ 67) 0 0)) := (by unfold w_X11_harden_67; rw [if_neg c10, if_neg c23, if_neg c33, if_neg c43, if_pos c52]); show _ = (zhs μ 67 (w_X11_harden_67 (μ 67) x v p tt)); symm; rw [e67]))
          · skip
            have hy9 := tt_nb c43 c52
            refine pv_aload_n (i := 0) t_X11_harden_55 rfl rfl ?_
            refine pv_iload_n (i := 1) t_X11_harden_56 rfl rfl ?_
            refine pv_iload_n (i := 2) t_X11_harden_57 rfl rfl ?_
            refine pv_iload t_X11_harden_58 rfl ?_
            refine sv_V3 (a_X11_less (μ 70) (μ 72) x.toNatClampNeg v tt nc) ((zhs μ 67 ((upd (μ 67) 0 0)))) t_X11_harden_60 ml_X11_244 mo_X11_less hh_67 rfl (Nat.le_of_ble_eq_true rfl) (zas (lcS (lcI (k := x.toNatClampNeg) hx2 (lcS (lcS rfl)))) (e_X11_less (e0 := x.toNatClampNeg) hnc hc8 (by omega) hy9)) (Nat.le_of_ble_eq_true rfl) rfl rfl ?_
            exact pv_ireti t_X11_harden_63 rfl (by unfold a_X11_harden; rw [if_neg c10, if_neg c23, if_neg c33, if_neg c43, if_neg c52]) (Prod.ext rfl (by have e67 : w_X11_harden_67 (μ 67) x v p tt = (upd (μ 67) 0 0) := (by unfold w_X11_harden_67; rw [if_neg c10, if_neg c23, if_neg c33, if_neg c43, if_neg c52]); show _ = (zhs μ 67 (w_X11_harden_67 (μ 67) x v p tt)); symm; rw [e67]))
        · skip
          refine pv_ldc t_X11_harden_46 kc_X11_76 ?_
          exact pv_ireti t_X11_harden_48 rfl (by unfold a_X11_harden; rw [if_neg c10, if_neg c23, if_neg c33, if_pos c43]) (Prod.ext rfl (by have e67 : w_X11_harden_67 (μ 67) x v p tt = (upd (μ 67) 0 0) := (by unfold w_X11_harden_67; rw [if_neg c10, if_neg c23, if_neg c33, if_pos c43]); show _ = (zhs μ 67 (w_X11_harden_67 (μ 67) x v p tt)); symm; rw [e67]))
  · skip
    refine pv_ldc t_X11_harden_13 kc_X11_165 ?_
    exact pv_ireti t_X11_harden_15 rfl (by unfold a_X11_harden; rw [if_pos c10]) (Prod.ext rfl (by have e67 : w_X11_harden_67 (μ 67) x v p tt = (upd (μ 67) 0 0) := (by unfold w_X11_harden_67; rw [if_pos c10]); show _ = (zhs μ 67 (w_X11_harden_67 (μ 67) x v p tt)); symm; rw [e67]))
def deI_F (f70 : Nat → Int32) (f72 : Nat → Int32) (e0 : Nat) (s0 : Nat) (i : Nat) (w : Int32) : Int32 := w + (if (a_X11_truthBy f70 i ((f72 e0) ||| ((nI s0)))) = 2 then (1 : Int32) else (0 : Int32))
def deI (f70 : Nat → Int32) (f72 : Nat → Int32) (e0 : Nat) (s0 : Nat) (z0 : Int32) : Nat → Int32 := zfold (fun i s => deI_F f70 f72 e0 s0 i s) z0
theorem lp_deI {l : Launch} {X : zX} {d : Nat} {μ : zH} {e0 : Nat} {m : Int32} {q : Int32} {b : Int32} {s0 : Nat} {nc : Nat} {g67 : Nat → Int32} {z0 : Int32} (hnc : g67 11 = nI nc) (hc8 : nc ≤ 8) (he : e0 < 4) {r : Option zV} {S' : zS} (hk : zEv l X mi_X11_deeds (d + 6) 102 [(0, .inr 67), (1, .inl ((nI e0))), (2, .inl m), (3, .inl q), (4, .inl b), (5, .inl ((nI s0))), (6, .inl ((deI (μ 70) (μ 72) e0 s0 z0 nc))), (7, .inl (nI nc))] [] (zSH, (zhs μ 67 g67)) 0 0 r S') : ∀ j i : Nat, i + j = nc + 1 → i ≤ nc → ∀ (y : Int32) (w : Int32), y = nI i → w = (deI (μ 70) (μ 72) e0 s0 z0 i) → zEv l X mi_X11_deeds (d + 6) 58 [(0, .inr 67), (1, .inl ((nI e0))), (2, .inl m), (3, .inl q), (4, .inl b), (5, .inl ((nI s0))), (6, .inl w), (7, .inl y)] [] (zSH, (zhs μ 67 g67)) 0 0 r S' := by
  intro j
  induction j with
  | zero => intros; omega
  | succ j ih =>
    intro i hij hle y w hy hs
    subst hy
    refine pv_iload t_X11_deeds_58 rfl ?_
    refine pv_aload_n (i := 0) t_X11_deeds_60 rfl rfl ?_
    refine sv_getI (nI nc) t_X11_deeds_61 fl_X11_140 hh_67 rfl hnc ?_
    refine pv_icmp_ge t_X11_deeds_64 (fun c64 => ?_) (fun c64 => ?_)
    · skip
      have hie : i = nc := by have := (nI_leI (a := nc) (by omega) (by omega)).mp c64; omega
      subst hie
      rw [← hs] at hk
      exact hk
    · skip
      have hin : i < nc := Nat.lt_of_not_le (fun q => c64 (nI_le (a := nc) q (by omega)))
      refine pv_iload t_X11_deeds_67 rfl ?_
      refine pv_aload_n (i := 0) t_X11_deeds_69 rfl rfl ?_
      refine pv_iload t_X11_deeds_70 rfl ?_
      refine pv_aload_n (i := 0) t_X11_deeds_72 rfl rfl ?_
      refine pv_getR t_X11_deeds_73 fl_X11_26 hh_67 rfl ?_
      refine pv_iload_n (i := 1) t_X11_deeds_76 rfl rfl ?_
      refine sv_iald ((μ 72) e0) t_X11_deeds_77 (Or.inl hh_72) (ixi (k := e0) rfl (by omega) (by decide)) ((ixe (k := e0) rfl (by omega)).trans (by first | rfl | (simp only [zhs_s, pk_us]; done) | (simp [zhs, upd]; done))) ?_
      refine pv_iload t_X11_deeds_78 rfl ?_
      refine pv_ior t_X11_deeds_80 ?_
      refine sv_V2 (a_X11_truthBy (μ 70) i (((μ 72) e0) ||| ((nI s0)))) ((zhs μ 67 g67)) t_X11_deeds_81 ml_X11_175 mo_X11_truthBy hh_67 rfl (Nat.le_of_ble_eq_true rfl) (e_X11_truthBy (c := i) (by omega)) (Nat.le_of_ble_eq_true rfl) rfl rfl ?_
      refine pv_iconst (v := 2) t_X11_deeds_84 zi_2 ?_
      refine sv_phi (c := (a_X11_truthBy (μ 70) i (((μ 72) e0) ||| ((nI s0)))) = 2) (A := 1) (B := 0) (J := 93) (lv := [(0, .inr 67), (1, .inl ((nI e0))), (2, .inl m), (3, .inl q), (4, .inl b), (5, .inl ((nI s0))), (6, .inl w), (7, .inl ((nI i)))]) (st := [.inl w]) (S := (zSH, (zhs μ 67 g67))) (fun kT kF => ?_) ?_
      · skip
        refine pv_icmp_ne t_X11_deeds_85 (fun c85 => ?_) (fun c85 => ?_)
        · skip
          refine pv_iconst (v := 0) t_X11_deeds_92 zi_0 ?_
          exact kF c85
        · skip
          refine pv_iconst (v := 1) t_X11_deeds_88 zi_1 ?_
          refine pv_goto t_X11_deeds_89 ?_
          exact kT c85
      refine pv_iadd t_X11_deeds_93 ?_
      refine pv_istore t_X11_deeds_94 (Nat.le_of_ble_eq_true rfl) ?_
      refine pv_iinc (v := 1) t_X11_deeds_96 rfl zi_1 ?_
      refine pv_goto t_X11_deeds_99 ?_
      refine pv_loc (lv' := [(0, _), (1, _), (2, _), (3, _), (4, _), (5, _), (6, _), (7, _)]) ⟨rfl, rfl, rfl, rfl, rfl, rfl, rfl, rfl, trivial⟩ ?_
      refine ih (i + 1) (by omega) (by omega) _ _ (nI_1 i) ?_
      have hs9 : (deI (μ 70) (μ 72) e0 s0 z0 (i + 1)) = deI_F (μ 70) (μ 72) e0 s0 i ((deI (μ 70) (μ 72) e0 s0 z0 i)) := rfl
      rw [hs9, ← hs]
      show _ = deI_F (μ 70) (μ 72) e0 s0 i w
      unfold deI_F
      rfl
def deO_F (f70 : Nat → Int32) (f72 : Nat → Int32) (e0 : Nat) (m : Int32) (nc : Nat) (i : Nat) (b : Int32) : Int32 := if (if (((nI i)) &&& (f72 e0)) = 0 then (if ((deI f70 f72 e0 i 0 nc)) < m then (0 : Int32) else (1 : Int32) : Int32) else (0 : Int32)) = 0 then (b : Int32) else (if b = ((-1)) then ((nI i) : Int32) else (if (a_X11_ones b) ≤ (a_X11_ones ((nI i))) then (b : Int32) else ((nI i) : Int32) : Int32) : Int32)
def deO (f70 : Nat → Int32) (f72 : Nat → Int32) (e0 : Nat) (m : Int32) (nc : Nat) (z0 : Int32) : Nat → Int32 := zfold (fun i s => deO_F f70 f72 e0 m nc i s) z0
theorem lp_deO {l : Launch} {X : zX} {d : Nat} {μ : zH} {e0 : Nat} {m : Int32} {q : Int32} {nc : Nat} {g67 : Nat → Int32} {z0 : Int32} (hnc : g67 11 = nI nc) (hc8 : nc ≤ 8) (he : e0 < 4) {r : Option zV} {S' : zS} (hk : zEv l X mi_X11_deeds (d + 6) 166 [(0, .inr 67), (1, .inl ((nI e0))), (2, .inl m), (3, .inl q), (4, .inl ((deO (μ 70) (μ 72) e0 m nc z0 256))), (5, .inl (nI 256))] [] (zSH, (zhs μ 67 g67)) 0 0 r S') : ∀ j i : Nat, i + j = 256 + 1 → i ≤ 256 → ∀ (y : Int32) (b : Int32), y = nI i → b = (deO (μ 70) (μ 72) e0 m nc z0 i) → zEv l X mi_X11_deeds (d + 6) 44 [(0, .inr 67), (1, .inl ((nI e0))), (2, .inl m), (3, .inl q), (4, .inl b), (5, .inl y)] [] (zSH, (zhs μ 67 g67)) 0 0 r S' := by
  intro j
  induction j with
  | zero => intros; omega
  | succ j ih =>
    intro i hij hle y b hy hs
    subst hy
    refine pv_iload t_X11_deeds_44 rfl ?_
    refine pv_sipush (v := 256) t_X11_deeds_46 zs_256 ?_
    refine pv_icmp_ge t_X11_deeds_49 (fun c49 => ?_) (fun c49 => ?_)
    · skip
      have hie : i = 256 := by have := (nI_leI (a := 256) (by omega) (by omega)).mp c49; omega
      subst hie
      rw [← hs] at hk
      exact hk
    · skip
      have hin : i < 256 := Nat.lt_of_not_le (fun q => c49 (nI_le (a := 256) q (by omega)))
      refine pv_iconst (v := 0) t_X11_deeds_52 zi_0 ?_
      refine pv_istore t_X11_deeds_53 (Nat.le_of_ble_eq_true rfl) ?_
      refine pv_iconst (v := 0) t_X11_deeds_55 zi_0 ?_
      refine pv_istore t_X11_deeds_56 (Nat.le_of_ble_eq_true rfl) ?_
      refine pv_loc (lv' := [(0, .inr 67), (1, .inl ((nI e0))), (2, .inl m), (3, .inl q), (4, .inl b), (5, .inl ((nI i))), (6, .inl 0), (7, .inl 0)]) ⟨rfl, rfl, rfl, rfl, rfl, rfl, rfl, rfl, trivial⟩ ?_
      refine lp_deI (e0 := e0) (m := m) (q := q) (b := b) (s0 := i) (nc := nc) (g67 := g67) (z0 := 0) hnc hc8 he ?_ (nc + 1) 0 (by omega) (by omega) _ _ rfl rfl
      refine pv_iload t_X11_deeds_102 rfl ?_
      refine pv_aload_n (i := 0) t_X11_deeds_104 rfl rfl ?_
      refine pv_getR t_X11_deeds_105 fl_X11_26 hh_67 rfl ?_
      refine pv_iload_n (i := 1) t_X11_deeds_108 rfl rfl ?_
      refine sv_iald ((μ 72) e0) t_X11_deeds_109 (Or.inl hh_72) (ixi (k := e0) rfl (by omega) (by decide)) ((ixe (k := e0) rfl (by omega)).trans (by first | rfl | (simp only [zhs_s, pk_us]; done) | (simp [zhs, upd]; done))) ?_
      refine pv_iand t_X11_deeds_110 ?_
      refine sv_phi (c := (((nI i)) &&& ((μ 72) e0)) = 0) (A := if ((deI (μ 70) (μ 72) e0 i 0 nc)) < m then (0 : Int32) else (1 : Int32)) (B := 0) (J := 125) (lv := [(0, .inr 67), (1, .inl ((nI e0))), (2, .inl m), (3, .inl q), (4, .inl b), (5, .inl ((nI i))), (6, .inl ((deI (μ 70) (μ 72) e0 i 0 nc))), (7, .inl ((nI nc)))]) (st := []) (S := (zSH, (zhs μ 67 g67))) (fun kT kF => ?_) ?_
      · skip
        refine pv_if_ne t_X11_deeds_111 (fun c111 => ?_) (fun c111 => ?_)
        · skip
          refine pv_iconst (v := 0) t_X11_deeds_124 zi_0 ?_
          exact kF c111
        · skip
          refine pv_iload t_X11_deeds_114 rfl ?_
          refine pv_iload_n (i := 2) t_X11_deeds_116 rfl rfl ?_
          refine sv_phi (c := ((deI (μ 70) (μ 72) e0 i 0 nc)) < m) (A := 0) (B := 1) (J := 125) (lv := [(0, .inr 67), (1, .inl ((nI e0))), (2, .inl m), (3, .inl q), (4, .inl b), (5, .inl ((nI i))), (6, .inl ((deI (μ 70) (μ 72) e0 i 0 nc))), (7, .inl ((nI nc)))]) (st := []) (S := (zSH, (zhs μ 67 g67))) (fun kT kF => ?_) ?_
          · skip
            refine pv_icmp_lt t_X11_deeds_117 (fun c117 => ?_) (fun c117 => ?_)
            · skip
              refine pv_iconst (v := 0) t_X11_deeds_124 zi_0 ?_
              exact kT c117
            · skip
              refine pv_iconst (v := 1) t_X11_deeds_120 zi_1 ?_
              refine pv_goto t_X11_deeds_121 ?_
              exact kF c117
          exact kT c111
      refine pv_istore t_X11_deeds_125 (Nat.le_of_ble_eq_true rfl) ?_
      refine pv_iload t_X11_deeds_127 rfl ?_
      refine sv_phi (c := (if (((nI i)) &&& ((μ 72) e0)) = 0 then (if ((deI (μ 70) (μ 72) e0 i 0 nc)) < m then (0 : Int32) else (1 : Int32) : Int32) else (0 : Int32)) = 0) (A := b) (B := if b = ((-1)) then ((nI i) : Int32) else (if (a_X11_ones b) ≤ (a_X11_ones ((nI i))) then (b : Int32) else ((nI i) : Int32) : Int32)) (J := 158) (lv := [(0, .inr 67), (1, .inl ((nI e0))), (2, .inl m), (3, .inl q), (4, .inl b), (5, .inl ((nI i))), (6, .inl ((deI (μ 70) (μ 72) e0 i 0 nc))), (7, .inl (if (((nI i)) &&& ((μ 72) e0)) = 0 then (if ((deI (μ 70) (μ 72) e0 i 0 nc)) < m then (0 : Int32) else (1 : Int32) : Int32) else (0 : Int32)))]) (st := []) (S := (zSH, (zhs μ 67 g67))) (fun kT kF => ?_) ?_
      · skip
        refine pv_if_eq t_X11_deeds_129 (fun c129 => ?_) (fun c129 => ?_)
        · skip
          refine pv_iload t_X11_deeds_156 rfl ?_
          exact kT c129
        · skip
          refine pv_iload t_X11_deeds_132 rfl ?_
          refine pv_iconst (v := -1) t_X11_deeds_134 zi_m1 ?_
          refine sv_phi (c := b = ((-1))) (A := (nI i)) (B := if (a_X11_ones b) ≤ (a_X11_ones ((nI i))) then (b : Int32) else ((nI i) : Int32)) (J := 158) (lv := [(0, .inr 67), (1, .inl ((nI e0))), (2, .inl m), (3, .inl q), (4, .inl b), (5, .inl ((nI i))), (6, .inl ((deI (μ 70) (μ 72) e0 i 0 nc))), (7, .inl (if (((nI i)) &&& ((μ 72) e0)) = 0 then (if ((deI (μ 70) (μ 72) e0 i 0 nc)) < m then (0 : Int32) else (1 : Int32) : Int32) else (0 : Int32)))]) (st := []) (S := (zSH, (zhs μ 67 g67))) (fun kT kF => ?_) ?_
          · skip
            refine pv_icmp_eq t_X11_deeds_135 (fun c135 => ?_) (fun c135 => ?_)
            · skip
              refine pv_iload t_X11_deeds_151 rfl ?_
              refine pv_goto t_X11_deeds_153 ?_
              exact kT c135
            · skip
              refine pv_iload t_X11_deeds_138 rfl ?_
              refine sv_S1 (a_X11_ones ((nI i))) ((zhs μ 67 g67)) t_X11_deeds_140 ml_X11_172 mo_X11_ones (Nat.le_of_ble_eq_true rfl) (e_X11_ones) (Nat.le_of_ble_eq_true rfl) rfl rfl ?_
              refine pv_iload t_X11_deeds_143 rfl ?_
              refine sv_S1 (a_X11_ones b) ((zhs μ 67 g67)) t_X11_deeds_145 ml_X11_172 mo_X11_ones (Nat.le_of_ble_eq_true rfl) (e_X11_ones) (Nat.le_of_ble_eq_true rfl) rfl rfl ?_
              refine sv_phi (c := (a_X11_ones b) ≤ (a_X11_ones ((nI i)))) (A := b) (B := (nI i)) (J := 158) (lv := [(0, .inr 67), (1, .inl ((nI e0))), (2, .inl m), (3, .inl q), (4, .inl b), (5, .inl ((nI i))), (6, .inl ((deI (μ 70) (μ 72) e0 i 0 nc))), (7, .inl (if (((nI i)) &&& ((μ 72) e0)) = 0 then (if ((deI (μ 70) (μ 72) e0 i 0 nc)) < m then (0 : Int32) else (1 : Int32) : Int32) else (0 : Int32)))]) (st := []) (S := (zSH, (zhs μ 67 g67))) (fun kT kF => ?_) ?_
              · skip
                refine pv_icmp_ge t_X11_deeds_148 (fun c148 => ?_) (fun c148 => ?_)
                · skip
                  refine pv_iload t_X11_deeds_156 rfl ?_
                  exact kT c148
                · skip
                  refine pv_iload t_X11_deeds_151 rfl ?_
                  refine pv_goto t_X11_deeds_153 ?_
                  exact kF c148
              exact kF c135
          exact kF c129
      refine pv_istore t_X11_deeds_158 (Nat.le_of_ble_eq_true rfl) ?_
      refine pv_iinc (v := 1) t_X11_deeds_160 rfl zi_1 ?_
      refine pv_goto t_X11_deeds_163 ?_
      refine pv_loc (lv' := [(0, _), (1, _), (2, _), (3, _), (4, _), (5, _)]) ⟨rfl, rfl, rfl, rfl, rfl, rfl, trivial⟩ ?_
      refine ih (i + 1) (by omega) (by omega) _ _ (nI_1 i) ?_
      have hs9 : (deO (μ 70) (μ 72) e0 m nc z0 (i + 1)) = deO_F (μ 70) (μ 72) e0 m nc i ((deO (μ 70) (μ 72) e0 m nc z0 i)) := rfl
      rw [hs9, ← hs]
      show _ = deO_F (μ 70) (μ 72) e0 m nc i b
      unfold deO_F
      rfl
def a_X11_deeds (f67 : Nat → Int32) (f70 : Nat → Int32) (f72 : Nat → Int32) (x : Int32) (m : Int32) (q : Int32) (nc : Nat) : Int32 := (if (a_X11_isDuellist ((upd f67 0 0)) x) = 0 then (-1000000001) else (if (a_X11_in m 0 8) = 0 then (-1000000002) else (if (a_X11_in q 0 1) = 0 then (-1000000002) else (if ((deO f70 f72 x.toNatClampNeg m nc ((-1)) 256)) = ((-1)) then (deO f70 f72 x.toNatClampNeg m nc ((-1)) 256) else (if q = 1 then (deO f70 f72 x.toNatClampNeg m nc ((-1)) 256) else a_X11_ones ((deO f70 f72 x.toNatClampNeg m nc ((-1)) 256)))))))
def w_X11_deeds_67 (f67 : Nat → Int32) (x : Int32) (m : Int32) (q : Int32) : Nat → Int32 := (if (a_X11_isDuellist ((upd f67 0 0)) x) = 0 then (upd f67 0 0) else (if (a_X11_in m 0 8) = 0 then (upd f67 0 0) else (if (a_X11_in q 0 1) = 0 then (upd f67 0 0) else ((upd f67 0 0)))))
theorem e_X11_deeds {l : Launch} {X : zX} {d : Nat} {μ : zH} {np nc : Nat} {x : Int32} {m : Int32} {q : Int32} (hnp : μ 67 10 = nI np) (hp4 : np ≤ 4) (hnc : μ 67 11 = nI nc) (hc8 : nc ≤ 8) : zRn l X mi_X11_deeds (d + 6) [.inr 67, .inl (x), .inl (m), .inl (q)] (zSH, μ) (some (.inl (a_X11_deeds (μ 67) (μ 70) (μ 72) x m q nc))) (zSH, (zhs μ 67 (w_X11_deeds_67 (μ 67) x m q))) := by
  refine pv_aload_n (i := 0) t_X11_deeds_0 rfl rfl ?_
  refine pv_iconst (v := 0) t_X11_deeds_1 zi_0 ?_
  refine sv_putI ((zhs μ 67 ((upd (μ 67) 0 0)))) t_X11_deeds_2 fl_X11_69 zfn_10_0 hh_67 rfl rfl ?_
  refine pv_aload_n (i := 0) t_X11_deeds_5 rfl rfl ?_
  refine pv_iload_n (i := 1) t_X11_deeds_6 rfl rfl ?_
  refine sv_V1 (a_X11_isDuellist ((upd (μ 67) 0 0)) x) ((zhs μ 67 ((upd (μ 67) 0 0)))) t_X11_deeds_7 ml_X11_161 mo_X11_isDuellist hh_67 rfl (Nat.le_of_ble_eq_true rfl) (e_X11_isDuellist) (Nat.le_of_ble_eq_true rfl) rfl rfl ?_
  refine pv_if_ne t_X11_deeds_10 (fun c10 => ?_) (fun c10 => ?_)
  · skip
    obtain ⟨hx1, hx2⟩ := (isd (f := μ 67) hnp hp4 c10).2
    refine pv_iload_n (i := 2) t_X11_deeds_16 rfl rfl ?_
    refine pv_iconst (v := 0) t_X11_deeds_17 zi_0 ?_
    refine pv_bipush (v := 8) t_X11_deeds_18 zb_8 ?_
    refine sv_S3 (a_X11_in m 0 8) ((zhs μ 67 ((upd (μ 67) 0 0)))) t_X11_deeds_20 ml_X11_72 mo_X11_in (Nat.le_of_ble_eq_true rfl) (e_X11_in) (Nat.le_of_ble_eq_true rfl) rfl rfl ?_
    refine pv_if_eq t_X11_deeds_23 (fun c23 => ?_) (fun c23 => ?_)
    · skip
      refine pv_ldc t_X11_deeds_35 kc_X11_76 ?_
      exact pv_ireti t_X11_deeds_37 rfl (by unfold a_X11_deeds; rw [if_neg c10, if_pos c23]) (Prod.ext rfl (by have e67 : w_X11_deeds_67 (μ 67) x m q = (upd (μ 67) 0 0) := (by unfold w_X11_deeds_67; rw [if_neg c10, if_pos c23]); show _ = (zhs μ 67 (w_X11_deeds_67 (μ 67) x m q)); symm; rw [e67]))
    · skip
      refine pv_iload_n (i := 3) t_X11_deeds_26 rfl rfl ?_
      refine pv_iconst (v := 0) t_X11_deeds_27 zi_0 ?_
      refine pv_iconst (v := 1) t_X11_deeds_28 zi_1 ?_
      refine sv_S3 (a_X11_in q 0 1) ((zhs μ 67 ((upd (μ 67) 0 0)))) t_X11_deeds_29 ml_X11_72 mo_X11_in (Nat.le_of_ble_eq_true rfl) (e_X11_in) (Nat.le_of_ble_eq_true rfl) rfl rfl ?_
      refine pv_if_ne t_X11_deeds_32 (fun c32 => ?_) (fun c32 => ?_)
      · skip
        refine pv_iconst (v := -1) t_X11_deeds_38 zi_m1 ?_
        refine pv_istore t_X11_deeds_39 (Nat.le_of_ble_eq_true rfl) ?_
        refine pv_iconst (v := 0) t_X11_deeds_41 zi_0 ?_
        refine pv_istore t_X11_deeds_42 (Nat.le_of_ble_eq_true rfl) ?_
        refine pv_loc (lv' := [(0, .inr 67), (1, .inl x), (2, .inl m), (3, .inl q), (4, .inl ((-1))), (5, .inl 0)]) ⟨rfl, rfl, rfl, rfl, rfl, rfl, trivial⟩ ?_
        refine zls (llS (llI (n := x.toNatClampNeg) hx2 (llS (llS (llS (llS rfl)))))) ?_
        refine lp_deO (e0 := x.toNatClampNeg) (m := m) (q := q) (nc := nc) (g67 := ((upd (μ 67) 0 0))) (z0 := (-1)) hnc hc8 (by omega) ?_ (256 + 1) 0 (by omega) (by omega) _ _ rfl rfl
        refine pv_iload t_X11_deeds_166 rfl ?_
        refine pv_iconst (v := -1) t_X11_deeds_168 zi_m1 ?_
        refine pv_icmp_eq t_X11_deeds_169 (fun c169 => ?_) (fun c169 => ?_)
        · skip
          refine pv_iload t_X11_deeds_177 rfl ?_
          refine pv_goto t_X11_deeds_179 ?_
          exact pv_ireti t_X11_deeds_187 rfl (by unfold a_X11_deeds; rw [if_neg c10, if_neg c23, if_neg c32, if_pos c169]) (Prod.ext rfl (by have e67 : w_X11_deeds_67 (μ 67) x m q = ((upd (μ 67) 0 0)) := (by unfold w_X11_deeds_67; rw [if_neg c10, if_neg c23, if_neg c32]); show _ = (zhs μ 67 (w_X11_deeds_67 (μ 67) x m q)); symm; rw [e67]))
        · skip
          refine pv_iload_n (i := 3) t_X11_deeds_172 rfl rfl ?_
          refine pv_iconst (v := 1) t_X11_deeds_173 zi_1 ?_
          refine pv_icmp_ne t_X11_deeds_174 (fun c174 => ?_) (fun c174 => ?_)
          · skip
            refine pv_iload t_X11_deeds_182 rfl ?_
            refine sv_S1 (a_X11_ones ((deO (μ 70) (μ 72) x.toNatClampNeg m nc ((-1)) 256))) ((zhs μ 67 (((upd (μ 67) 0 0))))) t_X11_deeds_184 ml_X11_172 mo_X11_ones (Nat.le_of_ble_eq_true rfl) (e_X11_ones) (Nat.le_of_ble_eq_true rfl) rfl rfl ?_
            exact pv_ireti t_X11_deeds_187 rfl (by unfold a_X11_deeds; rw [if_neg c10, if_neg c23, if_neg c32, if_neg c169, if_neg c174]) (Prod.ext rfl (by have e67 : w_X11_deeds_67 (μ 67) x m q = ((upd (μ 67) 0 0)) := (by unfold w_X11_deeds_67; rw [if_neg c10, if_neg c23, if_neg c32]); show _ = (zhs μ 67 (w_X11_deeds_67 (μ 67) x m q)); symm; rw [e67]))
          · skip
            refine pv_iload t_X11_deeds_177 rfl ?_
            refine pv_goto t_X11_deeds_179 ?_
            exact pv_ireti t_X11_deeds_187 rfl (by unfold a_X11_deeds; rw [if_neg c10, if_neg c23, if_neg c32, if_neg c169, if_pos c174]) (Prod.ext rfl (by have e67 : w_X11_deeds_67 (μ 67) x m q = ((upd (μ 67) 0 0)) := (by unfold w_X11_deeds_67; rw [if_neg c10, if_neg c23, if_neg c32]); show _ = (zhs μ 67 (w_X11_deeds_67 (μ 67) x m q)); symm; rw [e67]))
      · skip
        refine pv_ldc t_X11_deeds_35 kc_X11_76 ?_
        exact pv_ireti t_X11_deeds_37 rfl (by unfold a_X11_deeds; rw [if_neg c10, if_neg c23, if_pos c32]) (Prod.ext rfl (by have e67 : w_X11_deeds_67 (μ 67) x m q = (upd (μ 67) 0 0) := (by unfold w_X11_deeds_67; rw [if_neg c10, if_neg c23, if_pos c32]); show _ = (zhs μ 67 (w_X11_deeds_67 (μ 67) x m q)); symm; rw [e67]))
  · skip
    refine pv_ldc t_X11_deeds_13 kc_X11_165 ?_
    exact pv_ireti t_X11_deeds_15 rfl (by unfold a_X11_deeds; rw [if_pos c10]) (Prod.ext rfl (by have e67 : w_X11_deeds_67 (μ 67) x m q = (upd (μ 67) 0 0) := (by unfold w_X11_deeds_67; rw [if_pos c10]); show _ = (zhs μ 67 (w_X11_deeds_67 (μ 67) x m q)); symm; rw [e67]))
def a_X11_leftOf (f72 : Nat → Int32) (a0 : Nat) (b0 : Nat) (g : Int32) : Int32 := if (f72 ((45 + prN a0 b0))) ≤ g then (g - (f72 ((45 + prN a0 b0))) : Int32) else (0 : Int32)
theorem e_X11_leftOf {l : Launch} {X : zX} {d : Nat} {μ : zH} {a0 : Nat} {b0 : Nat} {g : Int32} (ha : a0 < 4) (hb : b0 < 4) (hab : ¬ a0 = b0) : zRn l X mi_X11_leftOf (d + 2) [.inr 67, .inl (nI a0), .inl (nI b0), .inl (g)] (zSH, μ) (some (.inl (a_X11_leftOf (μ 72) a0 b0 g))) (zSH, μ) := by
  refine pv_aload_n (i := 0) t_X11_leftOf_0 rfl rfl ?_
  refine pv_getR t_X11_leftOf_1 fl_X11_26 hh_67 rfl ?_
  refine pv_bipush (v := 45) t_X11_leftOf_4 zb_45 ?_
  refine pv_iload_n (i := 1) t_X11_leftOf_6 rfl rfl ?_
  refine pv_iload_n (i := 2) t_X11_leftOf_7 rfl rfl ?_
  obtain ⟨hp1, hp2⟩ := pr_e _ ha _ hb hab
  refine sv_S2 (a_X11_pairOf a0 b0) μ t_X11_leftOf_8 ml_X11_189 mo_X11_pairOf (Nat.le_of_ble_eq_true rfl) (e_X11_pairOf (a := a0) (b := b0)) (Nat.le_of_ble_eq_true rfl) rfl rfl ?_
  refine pv_iadd t_X11_leftOf_11 ?_
  refine sv_iald ((μ 72) ((45 + prN a0 b0))) t_X11_leftOf_12 (Or.inl hh_72) (ixi (k := (45 + prN a0 b0)) (nIa rfl hp1) (by omega) (by decide)) ((ixe (k := (45 + prN a0 b0)) (nIa rfl hp1) (by omega)).trans (by first | rfl | (simp only [zhs_s, pk_us]; done) | (simp [zhs, upd]; done))) ?_
  refine pv_istore t_X11_leftOf_13 (Nat.le_of_ble_eq_true rfl) ?_
  refine pv_iload t_X11_leftOf_15 rfl ?_
  refine pv_iload_n (i := 3) t_X11_leftOf_17 rfl rfl ?_
  refine sv_phi (c := ((μ 72) ((45 + prN a0 b0))) ≤ g) (A := g - ((μ 72) ((45 + prN a0 b0)))) (B := 0) (J := 29) (lv := [(0, .inr 67), (1, .inl ((nI a0))), (2, .inl ((nI b0))), (3, .inl g), (4, .inl ((μ 72) ((45 + prN a0 b0))))]) (st := []) (S := (zSH, μ)) (fun kT kF => ?_) ?_
  · skip
    refine pv_icmp_le t_X11_leftOf_18 (fun c18 => ?_) (fun c18 => ?_)
    · skip
      refine pv_iload_n (i := 3) t_X11_leftOf_25 rfl rfl ?_
      refine pv_iload t_X11_leftOf_26 rfl ?_
      refine pv_isub t_X11_leftOf_28 ?_
      exact kT c18
    · skip
      refine pv_iconst (v := 0) t_X11_leftOf_21 zi_0 ?_
      refine pv_goto t_X11_leftOf_22 ?_
      exact kF c18
  exact pv_ireti t_X11_leftOf_29 rfl (by unfold a_X11_leftOf; rfl) rfl
def shR_F (f70 : Nat → Int32) (f72 : Nat → Int32) (c0 : Nat) (z : Int32) (i : Nat) (w : Int32) : Int32 := w + (if ((z >>> (((nI i)) &&& 31)) &&& 1) = 1 then ((a_X11_firstTold f70 f72 c0 i) / (a_X11_ones z) : Int32) else (0 : Int32))
def shR (f70 : Nat → Int32) (f72 : Nat → Int32) (c0 : Nat) (z : Int32) (z0 : Int32) : Nat → Int32 := zfold (fun i s => shR_F f70 f72 c0 z i s) z0
theorem lp_shR {l : Launch} {X : zX} {d : Nat} {μ : zH} {c0 : Nat} {z : Int32} {np : Nat} {g67 : Nat → Int32} {z0 : Int32} (hnp : g67 10 = nI np) (hp4 : np ≤ 4) (hc : c0 < 8) (hT : ∀ c, c < 8 → nb (μ 70 (5 * c)) 4) (hz : ∀ i, i < np → (z >>> (nI i &&& 31)) &&& 1 = 1 → ¬ a_X11_ones z = 0) {r : Option zV} {S' : zS} (hk : zEv l X mi_X11_shared (d + 9) 81 [(0, .inr 67), (1, .inl ((nI c0))), (2, .inl z), (3, .inl ((shR (μ 70) (μ 72) c0 z z0 np))), (4, .inl (nI np))] [] (zSH, (zhs μ 67 g67)) 0 0 r S') : ∀ j i : Nat, i + j = np + 1 → i ≤ np → ∀ (y : Int32) (w : Int32), y = nI i → w = (shR (μ 70) (μ 72) c0 z z0 i) → zEv l X mi_X11_shared (d + 9) 37 [(0, .inr 67), (1, .inl ((nI c0))), (2, .inl z), (3, .inl w), (4, .inl y)] [] (zSH, (zhs μ 67 g67)) 0 0 r S' := by
  intro j
  induction j with
  | zero => intros; omega
  | succ j ih =>
    intro i hij hle y w hy hs
    subst hy
    refine pv_iload t_X11_shared_37 rfl ?_
    refine pv_aload_n (i := 0) t_X11_shared_39 rfl rfl ?_
    refine sv_getI (nI np) t_X11_shared_40 fl_X11_137 hh_67 rfl hnp ?_
    refine pv_icmp_ge t_X11_shared_43 (fun c43 => ?_) (fun c43 => ?_)
    · skip
      have hie : i = np := by have := (nI_leI (a := np) (by omega) (by omega)).mp c43; omega
      subst hie
      rw [← hs] at hk
      exact hk
    · skip
      have hin : i < np := Nat.lt_of_not_le (fun q => c43 (nI_le (a := np) q (by omega)))
      refine pv_iload_n (i := 3) t_X11_shared_46 rfl rfl ?_
      refine pv_iload_n (i := 2) t_X11_shared_47 rfl rfl ?_
      refine pv_iload t_X11_shared_48 rfl ?_
      refine pv_ishr t_X11_shared_50 ?_
      refine pv_iconst (v := 1) t_X11_shared_51 zi_1 ?_
      refine pv_iand t_X11_shared_52 ?_
      refine pv_iconst (v := 1) t_X11_shared_53 zi_1 ?_
      refine sv_phi (c := ((z >>> (((nI i)) &&& 31)) &&& 1) = 1) (A := (a_X11_firstTold (μ 70) (μ 72) c0 i) / (a_X11_ones z)) (B := 0) (J := 73) (lv := [(0, .inr 67), (1, .inl ((nI c0))), (2, .inl z), (3, .inl w), (4, .inl ((nI i)))]) (st := [.inl w]) (S := (zSH, (zhs μ 67 g67))) (fun kT kF => ?_) ?_
      · skip
        refine pv_icmp_ne t_X11_shared_54 (fun c54 => ?_) (fun c54 => ?_)
        · skip
          refine pv_iconst (v := 0) t_X11_shared_72 zi_0 ?_
          exact kF c54
        · skip
          refine pv_aload_n (i := 0) t_X11_shared_57 rfl rfl ?_
          refine pv_iload_n (i := 1) t_X11_shared_58 rfl rfl ?_
          refine pv_iload t_X11_shared_59 rfl ?_
          refine sv_V2 (a_X11_firstTold (μ 70) (μ 72) c0 i) ((zhs μ 67 g67)) t_X11_shared_61 ml_X11_186 mo_X11_firstTold hh_67 rfl (Nat.le_of_ble_eq_true rfl) (e_X11_firstTold (c := c0) (e := i) (by omega) (by omega) hT) (Nat.le_of_ble_eq_true rfl) rfl rfl ?_
          refine pv_iload_n (i := 2) t_X11_shared_64 rfl rfl ?_
          refine sv_S1 (a_X11_ones z) ((zhs μ 67 g67)) t_X11_shared_65 ml_X11_172 mo_X11_ones (Nat.le_of_ble_eq_true rfl) (e_X11_ones) (Nat.le_of_ble_eq_true rfl) rfl rfl ?_
          refine pv_idiv t_X11_shared_68 (hz i hin c54) ?_
          refine pv_goto t_X11_shared_69 ?_
          exact kT c54
      refine pv_iadd t_X11_shared_73 ?_
      refine pv_istore_n (i := 3) t_X11_shared_74 rfl (Nat.le_of_ble_eq_true rfl) ?_
      refine pv_iinc (v := 1) t_X11_shared_75 rfl zi_1 ?_
      refine pv_goto t_X11_shared_78 ?_
      refine pv_loc (lv' := [(0, _), (1, _), (2, _), (3, _), (4, _)]) ⟨rfl, rfl, rfl, rfl, rfl, trivial⟩ ?_
      refine ih (i + 1) (by omega) (by omega) _ _ (nI_1 i) ?_
      have hs9 : (shR (μ 70) (μ 72) c0 z z0 (i + 1)) = shR_F (μ 70) (μ 72) c0 z i ((shR (μ 70) (μ 72) c0 z z0 i)) := rfl
      rw [hs9, ← hs]
      show _ = shR_F (μ 70) (μ 72) c0 z i w
      unfold shR_F
      rfl
def a_X11_shared (f67 : Nat → Int32) (f70 : Nat → Int32) (f72 : Nat → Int32) (x : Int32) (z : Int32) (np : Nat) : Int32 := (if (a_X11_isCompliment ((upd f67 0 0)) x) = 0 then (-1000000001) else (if (a_X11_in z 0 ((1 <<< ((f67 10) &&& 31)) - 1)) = 0 then (-1000000001) else (shR f70 f72 x.toNatClampNeg z 0 np)))
def w_X11_shared_67 (f67 : Nat → Int32) (x : Int32) (z : Int32) : Nat → Int32 := (if (a_X11_isCompliment ((upd f67 0 0)) x) = 0 then (upd f67 0 0) else (if (a_X11_in z 0 ((1 <<< ((f67 10) &&& 31)) - 1)) = 0 then (upd f67 0 0) else ((upd f67 0 0))))
theorem e_X11_shared {l : Launch} {X : zX} {d : Nat} {μ : zH} {np nc : Nat} {x : Int32} {z : Int32} (hnp : μ 67 10 = nI np) (hp4 : np ≤ 4) (hnc : μ 67 11 = nI nc) (hc8 : nc ≤ 8) (hT : ∀ c, c < 8 → nb (μ 70 (5 * c)) 4) (hz : ∀ i, i < np → (z >>> (nI i &&& 31)) &&& 1 = 1 → ¬ a_X11_in z 0 ((1 <<< ((μ 67) 10 &&& 31)) - 1) = 0 → ¬ a_X11_ones z = 0) : zRn l X mi_X11_shared (d + 9) [.inr 67, .inl (x), .inl (z)] (zSH, μ) (some (.inl (a_X11_shared (μ 67) (μ 70) (μ 72) x z np))) (zSH, (zhs μ 67 (w_X11_shared_67 (μ 67) x z))) := by
  refine pv_aload_n (i := 0) t_X11_shared_0 rfl rfl ?_
  refine pv_iconst (v := 0) t_X11_shared_1 zi_0 ?_
  refine sv_putI ((zhs μ 67 ((upd (μ 67) 0 0)))) t_X11_shared_2 fl_X11_69 zfn_10_0 hh_67 rfl rfl ?_
  refine pv_aload_n (i := 0) t_X11_shared_5 rfl rfl ?_
  refine pv_iload_n (i := 1) t_X11_shared_6 rfl rfl ?_
  refine sv_V1 (a_X11_isCompliment ((upd (μ 67) 0 0)) x) ((zhs μ 67 ((upd (μ 67) 0 0)))) t_X11_shared_7 ml_X11_169 mo_X11_isCompliment hh_67 rfl (Nat.le_of_ble_eq_true rfl) (e_X11_isCompliment) (Nat.le_of_ble_eq_true rfl) rfl rfl ?_
  refine pv_if_eq t_X11_shared_10 (fun c10 => ?_) (fun c10 => ?_)
  · skip
    refine pv_ldc t_X11_shared_29 kc_X11_165 ?_
    exact pv_ireti t_X11_shared_31 rfl (by unfold a_X11_shared; rw [if_pos c10]) (Prod.ext rfl (by have e67 : w_X11_shared_67 (μ 67) x z = (upd (μ 67) 0 0) := (by unfold w_X11_shared_67; rw [if_pos c10]); show _ = (zhs μ 67 (w_X11_shared_67 (μ 67) x z)); symm; rw [e67]))
  · skip
    obtain ⟨hx1, hx2⟩ := (isc (f := μ 67) hnc hc8 c10).2
    refine pv_iload_n (i := 2) t_X11_shared_13 rfl rfl ?_
    refine pv_iconst (v := 0) t_X11_shared_14 zi_0 ?_
    refine pv_iconst (v := 1) t_X11_shared_15 zi_1 ?_
    refine pv_aload_n (i := 0) t_X11_shared_16 rfl rfl ?_
    refine sv_getI ((μ 67) 10) t_X11_shared_17 fl_X11_137 hh_67 rfl rfl ?_
    refine pv_ishl t_X11_shared_20 ?_
    refine pv_iconst (v := 1) t_X11_shared_21 zi_1 ?_
    refine pv_isub t_X11_shared_22 ?_
    refine sv_S3 (a_X11_in z 0 ((1 <<< (((μ 67) 10) &&& 31)) - 1)) ((zhs μ 67 ((upd (μ 67) 0 0)))) t_X11_shared_23 ml_X11_72 mo_X11_in (Nat.le_of_ble_eq_true rfl) (e_X11_in) (Nat.le_of_ble_eq_true rfl) rfl rfl ?_
    refine pv_if_ne t_X11_shared_26 (fun c26 => ?_) (fun c26 => ?_)
    · skip
      refine pv_iconst (v := 0) t_X11_shared_32 zi_0 ?_
      refine pv_istore_n (i := 3) t_X11_shared_33 rfl (Nat.le_of_ble_eq_true rfl) ?_
      refine pv_iconst (v := 0) t_X11_shared_34 zi_0 ?_
      refine pv_istore t_X11_shared_35 (Nat.le_of_ble_eq_true rfl) ?_
      refine pv_loc (lv' := [(0, .inr 67), (1, .inl x), (2, .inl z), (3, .inl 0), (4, .inl 0)]) ⟨rfl, rfl, rfl, rfl, rfl, trivial⟩ ?_
      refine zls (llS (llI (n := x.toNatClampNeg) hx2 (llS (llS (llS rfl))))) ?_
      refine lp_shR (c0 := x.toNatClampNeg) (z := z) (np := np) (g67 := ((upd (μ 67) 0 0))) (z0 := 0) hnp hp4 (by omega) hT (fun i h1 h2 => hz i h1 h2 c26) ?_ (np + 1) 0 (by omega) (by omega) _ _ rfl rfl
      refine pv_iload_n (i := 3) t_X11_shared_81 rfl rfl ?_
      exact pv_ireti t_X11_shared_82 rfl (by unfold a_X11_shared; rw [if_neg c10, if_neg c26]) (Prod.ext rfl (by have e67 : w_X11_shared_67 (μ 67) x z = ((upd (μ 67) 0 0)) := (by unfold w_X11_shared_67; rw [if_neg c10, if_neg c26]); show _ = (zhs μ 67 (w_X11_shared_67 (μ 67) x z)); symm; rw [e67]))
    · skip
      refine pv_ldc t_X11_shared_29 kc_X11_165 ?_
      exact pv_ireti t_X11_shared_31 rfl (by unfold a_X11_shared; rw [if_neg c10, if_pos c26]) (Prod.ext rfl (by have e67 : w_X11_shared_67 (μ 67) x z = (upd (μ 67) 0 0) := (by unfold w_X11_shared_67; rw [if_neg c10, if_pos c26]); show _ = (zhs μ 67 (w_X11_shared_67 (μ 67) x z)); symm; rw [e67]))
def vaI_F (f70 : Nat → Int32) (f72 : Nat → Int32) (f78 : Nat → Int32) (e0 : Nat) (tt : Int32) (v0 : Nat) (i : Nat) (w : Int32) : Int32 := if w = 0 then (0 : Int32) else (if (if (f78 (((4 * i) + 1))) = ((nI e0)) then (if (f70 ((5 * (f78 ((4 * i))).toNatClampNeg))) = tt then (1 : Int32) else (0 : Int32) : Int32) else (0 : Int32)) = 0 then (1 : Int32) else (if (a_X11_effectBy f70 f72 ((f78 ((4 * i))).toNatClampNeg) e0 ((nI v0)) ((f78 (((4 * i) + 2))).toNatClampNeg)) = (f78 (((4 * i) + 3))) then (1 : Int32) else (0 : Int32) : Int32) : Int32)
def vaI (f70 : Nat → Int32) (f72 : Nat → Int32) (f78 : Nat → Int32) (e0 : Nat) (tt : Int32) (v0 : Nat) (z0 : Int32) : Nat → Int32 := zfold (fun i s => vaI_F f70 f72 f78 e0 tt v0 i s) z0
theorem lp_vaI {l : Launch} {X : zX} {d : Nat} {μ : zH} {e0 : Nat} {tt : Int32} {z : Int32} {v0 : Nat} {kw : Nat} {z0 : Int32} (hkw : μ 67 24 = nI kw) (hw12 : kw ≤ 12) (he : e0 < 4) (hWm : ∀ k, k < kw → nb (μ 78 (4 * k)) 8 ∧ nb (μ 78 (4 * k + 2)) 10) {r : Option zV} {S' : zS} (hk : zEv l X mi_X11_vanities (d + 7) 129 [(0, .inr 67), (1, .inl ((nI e0))), (2, .inl tt), (3, .inl z), (4, .inl ((nI v0))), (5, .inl ((vaI (μ 70) (μ 72) (μ 78) e0 tt v0 z0 kw))), (6, .inl (nI kw))] [] (zSH, μ) 0 0 r S') : ∀ j i : Nat, i + j = kw + 1 → i ≤ kw → ∀ (y : Int32) (w : Int32), y = nI i → w = (vaI (μ 70) (μ 72) (μ 78) e0 tt v0 z0 i) → zEv l X mi_X11_vanities (d + 7) 18 [(0, .inr 67), (1, .inl ((nI e0))), (2, .inl tt), (3, .inl z), (4, .inl ((nI v0))), (5, .inl w), (6, .inl y)] [] (zSH, μ) 0 0 r S' := by
  intro j
  induction j with
  | zero => intros; omega
  | succ j ih =>
    intro i hij hle y w hy hs
    subst hy
    refine pv_iload t_X11_vanities_18 rfl ?_
    refine pv_aload_n (i := 0) t_X11_vanities_20 rfl rfl ?_
    refine sv_getI (nI kw) t_X11_vanities_21 fl_X11_143 hh_67 rfl hkw ?_
    refine pv_icmp_ge t_X11_vanities_24 (fun c24 => ?_) (fun c24 => ?_)
    · skip
      have hie : i = kw := by have := (nI_leI (a := kw) (by omega) (by omega)).mp c24; omega
      subst hie
      rw [← hs] at hk
      exact hk
    · skip
      have hin : i < kw := Nat.lt_of_not_le (fun q => c24 (nI_le (a := kw) q (by omega)))
      have hw1 := (hWm i hin).1.1
      have hw2 := (hWm i hin).2.1
      refine pv_iconst (v := 4) t_X11_vanities_27 zi_4 ?_
      refine pv_iload t_X11_vanities_28 rfl ?_
      refine pv_imul t_X11_vanities_30 ?_
      refine pv_istore t_X11_vanities_31 (Nat.le_of_ble_eq_true rfl) ?_
      refine pv_aload_n (i := 0) t_X11_vanities_33 rfl rfl ?_
      refine pv_getR t_X11_vanities_34 fl_X11_45 hh_67 rfl ?_
      refine pv_iload t_X11_vanities_37 rfl ?_
      refine pv_iconst (v := 1) t_X11_vanities_39 zi_1 ?_
      refine pv_iadd t_X11_vanities_40 ?_
      refine sv_iald ((μ 78) (((4 * i) + 1))) t_X11_vanities_41 (Or.inl hh_78) (ixi (k := ((4 * i) + 1)) (nIa (nIm rfl rfl) rfl) (by omega) (by decide)) ((ixe (k := ((4 * i) + 1)) (nIa (nIm rfl rfl) rfl) (by omega)).trans (by first | rfl | (simp only [zhs_s, pk_us]; done) | (simp [zhs, upd]; done))) ?_
      refine pv_iload_n (i := 1) t_X11_vanities_42 rfl rfl ?_
      refine sv_phi (c := ((μ 78) (((4 * i) + 1))) = ((nI e0))) (A := if ((μ 70) ((5 * ((μ 78) ((4 * i))).toNatClampNeg))) = tt then (1 : Int32) else (0 : Int32)) (B := 0) (J := 69) (lv := [(0, .inr 67), (1, .inl ((nI e0))), (2, .inl tt), (3, .inl z), (4, .inl ((nI v0))), (5, .inl w), (6, .inl ((nI i))), (7, .inl (4 * ((nI i))))]) (st := []) (S := (zSH, μ)) (fun kT kF => ?_) ?_
      · skip
        refine pv_icmp_ne t_X11_vanities_43 (fun c43 => ?_) (fun c43 => ?_)
        · skip
          refine pv_iconst (v := 0) t_X11_vanities_68 zi_0 ?_
          exact kF c43
        · skip
          refine pv_aload_n (i := 0) t_X11_vanities_46 rfl rfl ?_
          refine pv_getR t_X11_vanities_47 fl_X11_20 hh_67 rfl ?_
          refine pv_iconst (v := 5) t_X11_vanities_50 zi_5 ?_
          refine pv_aload_n (i := 0) t_X11_vanities_51 rfl rfl ?_
          refine pv_getR t_X11_vanities_52 fl_X11_45 hh_67 rfl ?_
          refine pv_iload t_X11_vanities_55 rfl ?_
          refine sv_iald ((μ 78) ((4 * i))) t_X11_vanities_57 (Or.inl hh_78) (ixi (k := (4 * i)) (nIm rfl rfl) (by omega) (by decide)) ((ixe (k := (4 * i)) (nIm rfl rfl) (by omega)).trans (by first | rfl | (simp only [zhs_s, pk_us]; done) | (simp [zhs, upd]; done))) ?_
          refine pv_imul t_X11_vanities_58 ?_
          refine sv_iald ((μ 70) ((5 * ((μ 78) ((4 * i))).toNatClampNeg))) t_X11_vanities_59 (Or.inl hh_70) (ixi (k := (5 * ((μ 78) ((4 * i))).toNatClampNeg)) (nIm rfl (nb_k (hWm i hin).1)) (by omega) (by decide)) ((ixe (k := (5 * ((μ 78) ((4 * i))).toNatClampNeg)) (nIm rfl (nb_k (hWm i hin).1)) (by omega)).trans (by first | rfl | (simp only [zhs_s, pk_us]; done) | (simp [zhs, upd]; done))) ?_
          refine pv_iload_n (i := 2) t_X11_vanities_60 rfl rfl ?_
          refine sv_phi (c := ((μ 70) ((5 * ((μ 78) ((4 * i))).toNatClampNeg))) = tt) (A := 1) (B := 0) (J := 69) (lv := [(0, .inr 67), (1, .inl ((nI e0))), (2, .inl tt), (3, .inl z), (4, .inl ((nI v0))), (5, .inl w), (6, .inl ((nI i))), (7, .inl (4 * ((nI i))))]) (st := []) (S := (zSH, μ)) (fun kT kF => ?_) ?_
          · skip
            refine pv_icmp_ne t_X11_vanities_61 (fun c61 => ?_) (fun c61 => ?_)
            · skip
              refine pv_iconst (v := 0) t_X11_vanities_68 zi_0 ?_
              exact kF c61
            · skip
              refine pv_iconst (v := 1) t_X11_vanities_64 zi_1 ?_
              refine pv_goto t_X11_vanities_65 ?_
              exact kT c61
          exact kT c43
      refine pv_istore t_X11_vanities_69 (Nat.le_of_ble_eq_true rfl) ?_
      refine pv_iload t_X11_vanities_71 rfl ?_
      refine sv_phi (c := w = 0) (A := 0) (B := if (if ((μ 78) (((4 * i) + 1))) = ((nI e0)) then (if ((μ 70) ((5 * ((μ 78) ((4 * i))).toNatClampNeg))) = tt then (1 : Int32) else (0 : Int32) : Int32) else (0 : Int32)) = 0 then (1 : Int32) else (if (a_X11_effectBy (μ 70) (μ 72) (((μ 78) ((4 * i))).toNatClampNeg) e0 ((nI v0)) (((μ 78) (((4 * i) + 2))).toNatClampNeg)) = ((μ 78) (((4 * i) + 3))) then (1 : Int32) else (0 : Int32) : Int32)) (J := 121) (lv := [(0, .inr 67), (1, .inl ((nI e0))), (2, .inl tt), (3, .inl z), (4, .inl ((nI v0))), (5, .inl w), (6, .inl ((nI i))), (7, .inl (4 * ((nI i)))), (8, .inl (if ((μ 78) (((4 * i) + 1))) = ((nI e0)) then (if ((μ 70) ((5 * ((μ 78) ((4 * i))).toNatClampNeg))) = tt then (1 : Int32) else (0 : Int32) : Int32) else (0 : Int32)))]) (st := []) (S := (zSH, μ)) (fun kT kF => ?_) ?_
      · skip
        refine pv_if_eq t_X11_vanities_73 (fun c73 => ?_) (fun c73 => ?_)
        · skip
          refine pv_iconst (v := 0) t_X11_vanities_120 zi_0 ?_
          exact kT c73
        · skip
          refine pv_iload t_X11_vanities_76 rfl ?_
          refine sv_phi (c := (if ((μ 78) (((4 * i) + 1))) = ((nI e0)) then (if ((μ 70) ((5 * ((μ 78) ((4 * i))).toNatClampNeg))) = tt then (1 : Int32) else (0 : Int32) : Int32) else (0 : Int32)) = 0) (A := 1) (B := if (a_X11_effectBy (μ 70) (μ 72) (((μ 78) ((4 * i))).toNatClampNeg) e0 ((nI v0)) (((μ 78) (((4 * i) + 2))).toNatClampNeg)) = ((μ 78) (((4 * i) + 3))) then (1 : Int32) else (0 : Int32)) (J := 121) (lv := [(0, .inr 67), (1, .inl ((nI e0))), (2, .inl tt), (3, .inl z), (4, .inl ((nI v0))), (5, .inl w), (6, .inl ((nI i))), (7, .inl (4 * ((nI i)))), (8, .inl (if ((μ 78) (((4 * i) + 1))) = ((nI e0)) then (if ((μ 70) ((5 * ((μ 78) ((4 * i))).toNatClampNeg))) = tt then (1 : Int32) else (0 : Int32) : Int32) else (0 : Int32)))]) (st := []) (S := (zSH, μ)) (fun kT kF => ?_) ?_
          · skip
            refine pv_if_eq t_X11_vanities_78 (fun c78 => ?_) (fun c78 => ?_)
            · skip
              refine pv_iconst (v := 1) t_X11_vanities_116 zi_1 ?_
              refine pv_goto t_X11_vanities_117 ?_
              exact kT c78
            · skip
              refine pv_aload_n (i := 0) t_X11_vanities_81 rfl rfl ?_
              refine pv_aload_n (i := 0) t_X11_vanities_82 rfl rfl ?_
              refine pv_getR t_X11_vanities_83 fl_X11_45 hh_67 rfl ?_
              refine pv_iload t_X11_vanities_86 rfl ?_
              refine sv_iald ((μ 78) ((4 * i))) t_X11_vanities_88 (Or.inl hh_78) (ixi (k := (4 * i)) (nIm rfl rfl) (by omega) (by decide)) ((ixe (k := (4 * i)) (nIm rfl rfl) (by omega)).trans (by first | rfl | (simp only [zhs_s, pk_us]; done) | (simp [zhs, upd]; done))) ?_
              refine pv_iload_n (i := 1) t_X11_vanities_89 rfl rfl ?_
              refine pv_iload t_X11_vanities_90 rfl ?_
              refine pv_aload_n (i := 0) t_X11_vanities_92 rfl rfl ?_
              refine pv_getR t_X11_vanities_93 fl_X11_45 hh_67 rfl ?_
              refine pv_iload t_X11_vanities_96 rfl ?_
              refine pv_iconst (v := 2) t_X11_vanities_98 zi_2 ?_
              refine pv_iadd t_X11_vanities_99 ?_
              refine sv_iald ((μ 78) (((4 * i) + 2))) t_X11_vanities_100 (Or.inl hh_78) (ixi (k := ((4 * i) + 2)) (nIa (nIm rfl rfl) rfl) (by omega) (by decide)) ((ixe (k := ((4 * i) + 2)) (nIa (nIm rfl rfl) rfl) (by omega)).trans (by first | rfl | (simp only [zhs_s, pk_us]; done) | (simp [zhs, upd]; done))) ?_
              refine sv_V4 (a_X11_effectBy (μ 70) (μ 72) (((μ 78) ((4 * i))).toNatClampNeg) e0 ((nI v0)) (((μ 78) (((4 * i) + 2))).toNatClampNeg)) μ t_X11_vanities_101 ml_X11_182 mo_X11_effectBy hh_67 rfl (Nat.le_of_ble_eq_true rfl) (zas (lcS (lcI (k := ((μ 78) ((4 * i))).toNatClampNeg) (nb_k (hWm i hin).1) (lcI (k := e0) rfl (lcS (lcI (k := ((μ 78) (((4 * i) + 2))).toNatClampNeg) (nb_k (hWm i hin).2) rfl))))) (e_X11_effectBy (c := ((μ 78) ((4 * i))).toNatClampNeg) (e := e0) (tt := ((μ 78) (((4 * i) + 2))).toNatClampNeg) (by omega) (by omega) (by omega))) (Nat.le_of_ble_eq_true rfl) rfl rfl ?_
              refine pv_aload_n (i := 0) t_X11_vanities_104 rfl rfl ?_
              refine pv_getR t_X11_vanities_105 fl_X11_45 hh_67 rfl ?_
              refine pv_iload t_X11_vanities_108 rfl ?_
              refine pv_iconst (v := 3) t_X11_vanities_110 zi_3 ?_
              refine pv_iadd t_X11_vanities_111 ?_
              refine sv_iald ((μ 78) (((4 * i) + 3))) t_X11_vanities_112 (Or.inl hh_78) (ixi (k := ((4 * i) + 3)) (nIa (nIm rfl rfl) rfl) (by omega) (by decide)) ((ixe (k := ((4 * i) + 3)) (nIa (nIm rfl rfl) rfl) (by omega)).trans (by first | rfl | (simp only [zhs_s, pk_us]; done) | (simp [zhs, upd]; done))) ?_
              refine sv_phi (c := (a_X11_effectBy (μ 70) (μ 72) (((μ 78) ((4 * i))).toNatClampNeg) e0 ((nI v0)) (((μ 78) (((4 * i) + 2))).toNatClampNeg)) = ((μ 78) (((4 * i) + 3)))) (A := 1) (B := 0) (J := 121) (lv := [(0, .inr 67), (1, .inl ((nI e0))), (2, .inl tt), (3, .inl z), (4, .inl ((nI v0))), (5, .inl w), (6, .inl ((nI i))), (7, .inl (4 * ((nI i)))), (8, .inl (if ((μ 78) (((4 * i) + 1))) = ((nI e0)) then (if ((μ 70) ((5 * ((μ 78) ((4 * i))).toNatClampNeg))) = tt then (1 : Int32) else (0 : Int32) : Int32) else (0 : Int32)))]) (st := []) (S := (zSH, μ)) (fun kT kF => ?_) ?_
              · skip
                refine pv_icmp_ne t_X11_vanities_113 (fun c113 => ?_) (fun c113 => ?_)
                · skip
                  refine pv_iconst (v := 0) t_X11_vanities_120 zi_0 ?_
                  exact kF c113
                · skip
                  refine pv_iconst (v := 1) t_X11_vanities_116 zi_1 ?_
                  refine pv_goto t_X11_vanities_117 ?_
                  exact kT c113
              exact kF c78
          exact kF c73
      refine pv_istore t_X11_vanities_121 (Nat.le_of_ble_eq_true rfl) ?_
      refine pv_iinc (v := 1) t_X11_vanities_123 rfl zi_1 ?_
      refine pv_goto t_X11_vanities_126 ?_
      refine pv_loc (lv' := [(0, _), (1, _), (2, _), (3, _), (4, _), (5, _), (6, _)]) ⟨rfl, rfl, rfl, rfl, rfl, rfl, rfl, trivial⟩ ?_
      refine ih (i + 1) (by omega) (by omega) _ _ (nI_1 i) ?_
      have hs9 : (vaI (μ 70) (μ 72) (μ 78) e0 tt v0 z0 (i + 1)) = vaI_F (μ 70) (μ 72) (μ 78) e0 tt v0 i ((vaI (μ 70) (μ 72) (μ 78) e0 tt v0 z0 i)) := rfl
      rw [hs9, ← hs]
      show _ = vaI_F (μ 70) (μ 72) (μ 78) e0 tt v0 i w
      unfold vaI_F
      rfl
def vaO_F (f70 : Nat → Int32) (f72 : Nat → Int32) (f78 : Nat → Int32) (e0 : Nat) (tt : Int32) (kw : Nat) (i : Nat) (z : Int32) : Int32 := z ||| (if ((vaI f70 f72 f78 e0 tt i 1 kw)) = 0 then (0 : Int32) else (1 <<< (((nI i)) &&& 31) : Int32))
def vaO (f70 : Nat → Int32) (f72 : Nat → Int32) (f78 : Nat → Int32) (e0 : Nat) (tt : Int32) (kw : Nat) (z0 : Int32) : Nat → Int32 := zfold (fun i s => vaO_F f70 f72 f78 e0 tt kw i s) z0
theorem lp_vaO {l : Launch} {X : zX} {d : Nat} {μ : zH} {e0 : Nat} {tt : Int32} {kw : Nat} {z0 : Int32} (hkw : μ 67 24 = nI kw) (hw12 : kw ≤ 12) (he : e0 < 4) (hWm : ∀ k, k < kw → nb (μ 78 (4 * k)) 8 ∧ nb (μ 78 (4 * k + 2)) 10) {r : Option zV} {S' : zS} (hk : zEv l X mi_X11_vanities (d + 7) 151 [(0, .inr 67), (1, .inl ((nI e0))), (2, .inl tt), (3, .inl ((vaO (μ 70) (μ 72) (μ 78) e0 tt kw z0 10))), (4, .inl (nI 10))] [] (zSH, μ) 0 0 r S') : ∀ j i : Nat, i + j = 10 + 1 → i ≤ 10 → ∀ (y : Int32) (z : Int32), y = nI i → z = (vaO (μ 70) (μ 72) (μ 78) e0 tt kw z0 i) → zEv l X mi_X11_vanities (d + 7) 5 [(0, .inr 67), (1, .inl ((nI e0))), (2, .inl tt), (3, .inl z), (4, .inl y)] [] (zSH, μ) 0 0 r S' := by
  intro j
  induction j with
  | zero => intros; omega
  | succ j ih =>
    intro i hij hle y z hy hs
    subst hy
    refine pv_iload t_X11_vanities_5 rfl ?_
    refine pv_bipush (v := 10) t_X11_vanities_7 zb_10 ?_
    refine pv_icmp_ge t_X11_vanities_9 (fun c9 => ?_) (fun c9 => ?_)
    · skip
      have hie : i = 10 := by have := (nI_leI (a := 10) (by omega) (by omega)).mp c9; omega
      subst hie
      rw [← hs] at hk
      exact hk
    · skip
      have hin : i < 10 := Nat.lt_of_not_le (fun q => c9 (nI_le (a := 10) q (by omega)))
      refine pv_iconst (v := 1) t_X11_vanities_12 zi_1 ?_
      refine pv_istore t_X11_vanities_13 (Nat.le_of_ble_eq_true rfl) ?_
      refine pv_iconst (v := 0) t_X11_vanities_15 zi_0 ?_
      refine pv_istore t_X11_vanities_16 (Nat.le_of_ble_eq_true rfl) ?_
      refine pv_loc (lv' := [(0, .inr 67), (1, .inl ((nI e0))), (2, .inl tt), (3, .inl z), (4, .inl ((nI i))), (5, .inl 1), (6, .inl 0)]) ⟨rfl, rfl, rfl, rfl, rfl, rfl, rfl, trivial⟩ ?_
      refine lp_vaI (e0 := e0) (tt := tt) (z := z) (v0 := i) (kw := kw) (z0 := 1) hkw hw12 he hWm ?_ (kw + 1) 0 (by omega) (by omega) _ _ rfl rfl
      refine pv_iload_n (i := 3) t_X11_vanities_129 rfl rfl ?_
      refine pv_iload t_X11_vanities_130 rfl ?_
      refine sv_phi (c := ((vaI (μ 70) (μ 72) (μ 78) e0 tt i 1 kw)) = 0) (A := 0) (B := 1 <<< (((nI i)) &&& 31)) (J := 143) (lv := [(0, .inr 67), (1, .inl ((nI e0))), (2, .inl tt), (3, .inl z), (4, .inl ((nI i))), (5, .inl ((vaI (μ 70) (μ 72) (μ 78) e0 tt i 1 kw))), (6, .inl ((nI kw)))]) (st := [.inl z]) (S := (zSH, μ)) (fun kT kF => ?_) ?_
      · skip
        refine pv_if_eq t_X11_vanities_132 (fun c132 => ?_) (fun c132 => ?_)
        · skip
          refine pv_iconst (v := 0) t_X11_vanities_142 zi_0 ?_
          exact kT c132
        · skip
          refine pv_iconst (v := 1) t_X11_vanities_135 zi_1 ?_
          refine pv_iload t_X11_vanities_136 rfl ?_
          refine pv_ishl t_X11_vanities_138 ?_
          refine pv_goto t_X11_vanities_139 ?_
          exact kF c132
      refine pv_ior t_X11_vanities_143 ?_
      refine pv_istore_n (i := 3) t_X11_vanities_144 rfl (Nat.le_of_ble_eq_true rfl) ?_
      refine pv_iinc (v := 1) t_X11_vanities_145 rfl zi_1 ?_
      refine pv_goto t_X11_vanities_148 ?_
      refine pv_loc (lv' := [(0, _), (1, _), (2, _), (3, _), (4, _)]) ⟨rfl, rfl, rfl, rfl, rfl, trivial⟩ ?_
      refine ih (i + 1) (by omega) (by omega) _ _ (nI_1 i) ?_
      have hs9 : (vaO (μ 70) (μ 72) (μ 78) e0 tt kw z0 (i + 1)) = vaO_F (μ 70) (μ 72) (μ 78) e0 tt kw i ((vaO (μ 70) (μ 72) (μ 78) e0 tt kw z0 i)) := rfl
      rw [hs9, ← hs]
      show _ = vaO_F (μ 70) (μ 72) (μ 78) e0 tt kw i z
      unfold vaO_F
      rfl
def a_X11_vanities (f70 : Nat → Int32) (f72 : Nat → Int32) (f78 : Nat → Int32) (e0 : Nat) (tt : Int32) (kw : Nat) : Int32 := (vaO f70 f72 f78 e0 tt kw 0 10)
theorem e_X11_vanities {l : Launch} {X : zX} {d : Nat} {μ : zH} {kw : Nat} {e0 : Nat} {tt : Int32} (hkw : μ 67 24 = nI kw) (hw12 : kw ≤ 12) (he : e0 < 4) (hWm : ∀ k, k < kw → nb (μ 78 (4 * k)) 8 ∧ nb (μ 78 (4 * k + 2)) 10) : zRn l X mi_X11_vanities (d + 7) [.inr 67, .inl (nI e0), .inl (tt)] (zSH, μ) (some (.inl (a_X11_vanities (μ 70) (μ 72) (μ 78) e0 tt kw))) (zSH, μ) := by
  refine pv_iconst (v := 0) t_X11_vanities_0 zi_0 ?_
  refine pv_istore_n (i := 3) t_X11_vanities_1 rfl (Nat.le_of_ble_eq_true rfl) ?_
  refine pv_iconst (v := 0) t_X11_vanities_2 zi_0 ?_
  refine pv_istore t_X11_vanities_3 (Nat.le_of_ble_eq_true rfl) ?_
  refine pv_loc (lv' := [(0, .inr 67), (1, .inl ((nI e0))), (2, .inl tt), (3, .inl 0), (4, .inl 0)]) ⟨rfl, rfl, rfl, rfl, rfl, trivial⟩ ?_
  refine lp_vaO (e0 := e0) (tt := tt) (kw := kw) (z0 := 0) hkw hw12 he hWm ?_ (10 + 1) 0 (by omega) (by omega) _ _ rfl rfl
  refine pv_iload_n (i := 3) t_X11_vanities_151 rfl rfl ?_
  exact pv_ireti t_X11_vanities_152 rfl (by unfold a_X11_vanities; rfl) rfl
def a_X11_vain (f67 : Nat → Int32) (f70 : Nat → Int32) (f72 : Nat → Int32) (f78 : Nat → Int32) (x : Int32) (tt : Int32) (kw : Nat) : Int32 := (if (a_X11_isDuellist ((upd f67 0 0)) x) = 0 then (-1000000001) else (if (a_X11_in tt 0 3) = 0 then (-1000000002) else a_X11_vanities f70 f72 f78 x.toNatClampNeg tt kw))
def w_X11_vain_67 (f67 : Nat → Int32) : Nat → Int32 := (upd f67 0 0)
theorem e_X11_vain {l : Launch} {X : zX} {d : Nat} {μ : zH} {np kw : Nat} {x : Int32} {tt : Int32} (hnp : μ 67 10 = nI np) (hp4 : np ≤ 4) (hkw : μ 67 24 = nI kw) (hw12 : kw ≤ 12) (hWm : ∀ k, k < kw → nb (μ 78 (4 * k)) 8 ∧ nb (μ 78 (4 * k + 2)) 10) : zRn l X mi_X11_vain (d + 9) [.inr 67, .inl (x), .inl (tt)] (zSH, μ) (some (.inl (a_X11_vain (μ 67) (μ 70) (μ 72) (μ 78) x tt kw))) (zSH, (zhs μ 67 (w_X11_vain_67 (μ 67)))) := by
  refine pv_aload_n (i := 0) t_X11_vain_0 rfl rfl ?_
  refine pv_iconst (v := 0) t_X11_vain_1 zi_0 ?_
  refine sv_putI ((zhs μ 67 ((upd (μ 67) 0 0)))) t_X11_vain_2 fl_X11_69 zfn_10_0 hh_67 rfl rfl ?_
  refine pv_aload_n (i := 0) t_X11_vain_5 rfl rfl ?_
  refine pv_iload_n (i := 1) t_X11_vain_6 rfl rfl ?_
  refine sv_V1 (a_X11_isDuellist ((upd (μ 67) 0 0)) x) ((zhs μ 67 ((upd (μ 67) 0 0)))) t_X11_vain_7 ml_X11_161 mo_X11_isDuellist hh_67 rfl (Nat.le_of_ble_eq_true rfl) (e_X11_isDuellist) (Nat.le_of_ble_eq_true rfl) rfl rfl ?_
  refine pv_if_ne t_X11_vain_10 (fun c10 => ?_) (fun c10 => ?_)
  · skip
    obtain ⟨hx1, hx2⟩ := (isd (f := μ 67) hnp hp4 c10).2
    refine pv_iload_n (i := 2) t_X11_vain_16 rfl rfl ?_
    refine pv_iconst (v := 0) t_X11_vain_17 zi_0 ?_
    refine pv_iconst (v := 3) t_X11_vain_18 zi_3 ?_
    refine sv_S3 (a_X11_in tt 0 3) ((zhs μ 67 ((upd (μ 67) 0 0)))) t_X11_vain_19 ml_X11_72 mo_X11_in (Nat.le_of_ble_eq_true rfl) (e_X11_in) (Nat.le_of_ble_eq_true rfl) rfl rfl ?_
    refine pv_if_eq t_X11_vain_22 (fun c22 => ?_) (fun c22 => ?_)
    · skip
      refine pv_ldc t_X11_vain_34 kc_X11_76 ?_
      exact pv_ireti t_X11_vain_36 rfl (by unfold a_X11_vain; rw [if_neg c10, if_pos c22]) (Prod.ext rfl (by have e67 : w_X11_vain_67 (μ 67) = (upd (μ 67) 0 0) := (by unfold w_X11_vain_67; rfl); show _ = (zhs μ 67 (w_X11_vain_67 (μ 67))); symm; rw [e67]))
    · skip
      refine pv_aload_n (i := 0) t_X11_vain_25 rfl rfl ?_
      refine pv_iload_n (i := 1) t_X11_vain_26 rfl rfl ?_
      refine pv_iload_n (i := 2) t_X11_vain_27 rfl rfl ?_
      refine sv_V2 (a_X11_vanities (μ 70) (μ 72) (μ 78) x.toNatClampNeg tt kw) ((zhs μ 67 ((upd (μ 67) 0 0)))) t_X11_vain_28 ml_X11_257 mo_X11_vanities hh_67 rfl (Nat.le_of_ble_eq_true rfl) (zas (lcS (lcI (k := x.toNatClampNeg) hx2 (lcS rfl))) (e_X11_vanities (e0 := x.toNatClampNeg) hkw hw12 (by omega) hWm)) (Nat.le_of_ble_eq_true rfl) rfl rfl ?_
      refine pv_goto t_X11_vain_31 ?_
      exact pv_ireti t_X11_vain_36 rfl (by unfold a_X11_vain; rw [if_neg c10, if_neg c22]) (Prod.ext rfl (by have e67 : w_X11_vain_67 (μ 67) = (upd (μ 67) 0 0) := (by unfold w_X11_vain_67; rfl); show _ = (zhs μ 67 (w_X11_vain_67 (μ 67))); symm; rw [e67]))
  · skip
    refine pv_ldc t_X11_vain_13 kc_X11_165 ?_
    exact pv_ireti t_X11_vain_15 rfl (by unfold a_X11_vain; rw [if_pos c10]) (Prod.ext rfl (by have e67 : w_X11_vain_67 (μ 67) = (upd (μ 67) 0 0) := (by unfold w_X11_vain_67; rfl); show _ = (zhs μ 67 (w_X11_vain_67 (μ 67))); symm; rw [e67]))
def gpI_F (f70 : Nat → Int32) (f72 : Nat → Int32) (c0 : Nat) (e0 : Nat) (z : Int32) (v0 : Nat) (i : Nat) (w : Int32) : Int32 := w + (if (if ((z >>> (((nI v0)) &&& 31)) &&& 1) = 1 then (if ((z >>> (((nI i)) &&& 31)) &&& 1) = 1 then (1 : Int32) else (0 : Int32) : Int32) else (0 : Int32)) = 0 then (0 : Int32) else (if (a_X11_effectBy f70 f72 c0 e0 ((nI v0)) 0) = (a_X11_effectBy f70 f72 c0 e0 ((nI i)) 0) then (1 : Int32) else (0 : Int32) : Int32))
def gpI (f70 : Nat → Int32) (f72 : Nat → Int32) (c0 : Nat) (e0 : Nat) (z : Int32) (v0 : Nat) (z0 : Int32) : Nat → Int32 := zfold (fun i s => gpI_F f70 f72 c0 e0 z v0 i s) z0
theorem lp_gpI {l : Launch} {X : zX} {d : Nat} {μ : zH} {c0 : Nat} {e0 : Nat} {z : Int32} {m : Int32} {v0 : Nat} {z0 : Int32} (hc : c0 < 8) (he : e0 < 4) {r : Option zV} {S' : zS} (hk : zEv l X mi_X11_greatestPart (d + 7) 95 [(0, .inr 67), (1, .inl ((nI c0))), (2, .inl ((nI e0))), (3, .inl z), (4, .inl m), (5, .inl ((nI v0))), (6, .inl ((gpI (μ 70) (μ 72) c0 e0 z v0 z0 10))), (7, .inl (nI 10))] [] (zSH, μ) 0 0 r S') : ∀ j i : Nat, i + j = 10 + 1 → i ≤ 10 → ∀ (y : Int32) (w : Int32), y = nI i → w = (gpI (μ 70) (μ 72) c0 e0 z v0 z0 i) → zEv l X mi_X11_greatestPart (d + 7) 19 [(0, .inr 67), (1, .inl ((nI c0))), (2, .inl ((nI e0))), (3, .inl z), (4, .inl m), (5, .inl ((nI v0))), (6, .inl w), (7, .inl y)] [] (zSH, μ) 0 0 r S' := by
  intro j
  induction j with
  | zero => intros; omega
  | succ j ih =>
    intro i hij hle y w hy hs
    subst hy
    refine pv_iload t_X11_greatestPart_19 rfl ?_
    refine pv_bipush (v := 10) t_X11_greatestPart_21 zb_10 ?_
    refine pv_icmp_ge t_X11_greatestPart_23 (fun c23 => ?_) (fun c23 => ?_)
    · skip
      have hie : i = 10 := by have := (nI_leI (a := 10) (by omega) (by omega)).mp c23; omega
      subst hie
      rw [← hs] at hk
      exact hk
    · skip
      have hin : i < 10 := Nat.lt_of_not_le (fun q => c23 (nI_le (a := 10) q (by omega)))
      refine pv_iload_n (i := 3) t_X11_greatestPart_26 rfl rfl ?_
      refine pv_iload t_X11_greatestPart_27 rfl ?_
      refine pv_ishr t_X11_greatestPart_29 ?_
      refine pv_iconst (v := 1) t_X11_greatestPart_30 zi_1 ?_
      refine pv_iand t_X11_greatestPart_31 ?_
      refine pv_iconst (v := 1) t_X11_greatestPart_32 zi_1 ?_
      refine sv_phi (c := ((z >>> (((nI v0)) &&& 31)) &&& 1) = 1) (A := if ((z >>> (((nI i)) &&& 31)) &&& 1) = 1 then (1 : Int32) else (0 : Int32)) (B := 0) (J := 51) (lv := [(0, .inr 67), (1, .inl ((nI c0))), (2, .inl ((nI e0))), (3, .inl z), (4, .inl m), (5, .inl ((nI v0))), (6, .inl w), (7, .inl ((nI i)))]) (st := []) (S := (zSH, μ)) (fun kT kF => ?_) ?_
      · skip
        refine pv_icmp_ne t_X11_greatestPart_33 (fun c33 => ?_) (fun c33 => ?_)
        · skip
          refine pv_iconst (v := 0) t_X11_greatestPart_50 zi_0 ?_
          exact kF c33
        · skip
          refine pv_iload_n (i := 3) t_X11_greatestPart_36 rfl rfl ?_
          refine pv_iload t_X11_greatestPart_37 rfl ?_
          refine pv_ishr t_X11_greatestPart_39 ?_
          refine pv_iconst (v := 1) t_X11_greatestPart_40 zi_1 ?_
          refine pv_iand t_X11_greatestPart_41 ?_
          refine pv_iconst (v := 1) t_X11_greatestPart_42 zi_1 ?_
          refine sv_phi (c := ((z >>> (((nI i)) &&& 31)) &&& 1) = 1) (A := 1) (B := 0) (J := 51) (lv := [(0, .inr 67), (1, .inl ((nI c0))), (2, .inl ((nI e0))), (3, .inl z), (4, .inl m), (5, .inl ((nI v0))), (6, .inl w), (7, .inl ((nI i)))]) (st := []) (S := (zSH, μ)) (fun kT kF => ?_) ?_
          · skip
            refine pv_icmp_ne t_X11_greatestPart_43 (fun c43 => ?_) (fun c43 => ?_)
            · skip
              refine pv_iconst (v := 0) t_X11_greatestPart_50 zi_0 ?_
              exact kF c43
            · skip
              refine pv_iconst (v := 1) t_X11_greatestPart_46 zi_1 ?_
              refine pv_goto t_X11_greatestPart_47 ?_
              exact kT c43
          exact kT c33
      refine pv_istore t_X11_greatestPart_51 (Nat.le_of_ble_eq_true rfl) ?_
      refine pv_iload t_X11_greatestPart_53 rfl ?_
      refine pv_iload t_X11_greatestPart_55 rfl ?_
      refine sv_phi (c := (if ((z >>> (((nI v0)) &&& 31)) &&& 1) = 1 then (if ((z >>> (((nI i)) &&& 31)) &&& 1) = 1 then (1 : Int32) else (0 : Int32) : Int32) else (0 : Int32)) = 0) (A := 0) (B := if (a_X11_effectBy (μ 70) (μ 72) c0 e0 ((nI v0)) 0) = (a_X11_effectBy (μ 70) (μ 72) c0 e0 ((nI i)) 0) then (1 : Int32) else (0 : Int32)) (J := 86) (lv := [(0, .inr 67), (1, .inl ((nI c0))), (2, .inl ((nI e0))), (3, .inl z), (4, .inl m), (5, .inl ((nI v0))), (6, .inl w), (7, .inl ((nI i))), (8, .inl (if ((z >>> (((nI v0)) &&& 31)) &&& 1) = 1 then (if ((z >>> (((nI i)) &&& 31)) &&& 1) = 1 then (1 : Int32) else (0 : Int32) : Int32) else (0 : Int32)))]) (st := [.inl w]) (S := (zSH, μ)) (fun kT kF => ?_) ?_
      · skip
        refine pv_if_eq t_X11_greatestPart_57 (fun c57 => ?_) (fun c57 => ?_)
        · skip
          refine pv_iconst (v := 0) t_X11_greatestPart_85 zi_0 ?_
          exact kT c57
        · skip
          refine pv_aload_n (i := 0) t_X11_greatestPart_60 rfl rfl ?_
          refine pv_iload_n (i := 1) t_X11_greatestPart_61 rfl rfl ?_
          refine pv_iload_n (i := 2) t_X11_greatestPart_62 rfl rfl ?_
          refine pv_iload t_X11_greatestPart_63 rfl ?_
          refine pv_iconst (v := 0) t_X11_greatestPart_65 zi_0 ?_
          refine sv_V4 (a_X11_effectBy (μ 70) (μ 72) c0 e0 ((nI v0)) 0) μ t_X11_greatestPart_66 ml_X11_182 mo_X11_effectBy hh_67 rfl (Nat.le_of_ble_eq_true rfl) (e_X11_effectBy (c := c0) (e := e0) (tt := 0) (by omega) (by omega) (by omega)) (Nat.le_of_ble_eq_true rfl) rfl rfl ?_
          refine pv_aload_n (i := 0) t_X11_greatestPart_69 rfl rfl ?_
          refine pv_iload_n (i := 1) t_X11_greatestPart_70 rfl rfl ?_
          refine pv_iload_n (i := 2) t_X11_greatestPart_71 rfl rfl ?_
          refine pv_iload t_X11_greatestPart_72 rfl ?_
          refine pv_iconst (v := 0) t_X11_greatestPart_74 zi_0 ?_
          refine sv_V4 (a_X11_effectBy (μ 70) (μ 72) c0 e0 ((nI i)) 0) μ t_X11_greatestPart_75 ml_X11_182 mo_X11_effectBy hh_67 rfl (Nat.le_of_ble_eq_true rfl) (e_X11_effectBy (c := c0) (e := e0) (tt := 0) (by omega) (by omega) (by omega)) (Nat.le_of_ble_eq_true rfl) rfl rfl ?_
          refine sv_phi (c := (a_X11_effectBy (μ 70) (μ 72) c0 e0 ((nI v0)) 0) = (a_X11_effectBy (μ 70) (μ 72) c0 e0 ((nI i)) 0)) (A := 1) (B := 0) (J := 86) (lv := [(0, .inr 67), (1, .inl ((nI c0))), (2, .inl ((nI e0))), (3, .inl z), (4, .inl m), (5, .inl ((nI v0))), (6, .inl w), (7, .inl ((nI i))), (8, .inl (if ((z >>> (((nI v0)) &&& 31)) &&& 1) = 1 then (if ((z >>> (((nI i)) &&& 31)) &&& 1) = 1 then (1 : Int32) else (0 : Int32) : Int32) else (0 : Int32)))]) (st := [.inl w]) (S := (zSH, μ)) (fun kT kF => ?_) ?_
          · skip
            refine pv_icmp_ne t_X11_greatestPart_78 (fun c78 => ?_) (fun c78 => ?_)
            · skip
              refine pv_iconst (v := 0) t_X11_greatestPart_85 zi_0 ?_
              exact kF c78
            · skip
              refine pv_iconst (v := 1) t_X11_greatestPart_81 zi_1 ?_
              refine pv_goto t_X11_greatestPart_82 ?_
              exact kT c78
          exact kF c57
      refine pv_iadd t_X11_greatestPart_86 ?_
      refine pv_istore t_X11_greatestPart_87 (Nat.le_of_ble_eq_true rfl) ?_
      refine pv_iinc (v := 1) t_X11_greatestPart_89 rfl zi_1 ?_
      refine pv_goto t_X11_greatestPart_92 ?_
      refine pv_loc (lv' := [(0, _), (1, _), (2, _), (3, _), (4, _), (5, _), (6, _), (7, _)]) ⟨rfl, rfl, rfl, rfl, rfl, rfl, rfl, rfl, trivial⟩ ?_
      refine ih (i + 1) (by omega) (by omega) _ _ (nI_1 i) ?_
      have hs9 : (gpI (μ 70) (μ 72) c0 e0 z v0 z0 (i + 1)) = gpI_F (μ 70) (μ 72) c0 e0 z v0 i ((gpI (μ 70) (μ 72) c0 e0 z v0 z0 i)) := rfl
      rw [hs9, ← hs]
      show _ = gpI_F (μ 70) (μ 72) c0 e0 z v0 i w
      unfold gpI_F
      rfl
def gpO_F (f70 : Nat → Int32) (f72 : Nat → Int32) (c0 : Nat) (e0 : Nat) (z : Int32) (i : Nat) (m : Int32) : Int32 := if ((gpI f70 f72 c0 e0 z i 0 10)) ≤ m then (m : Int32) else ((gpI f70 f72 c0 e0 z i 0 10) : Int32)
def gpO (f70 : Nat → Int32) (f72 : Nat → Int32) (c0 : Nat) (e0 : Nat) (z : Int32) (z0 : Int32) : Nat → Int32 := zfold (fun i s => gpO_F f70 f72 c0 e0 z i s) z0
theorem lp_gpO {l : Launch} {X : zX} {d : Nat} {μ : zH} {c0 : Nat} {e0 : Nat} {z : Int32} {z0 : Int32} (hc : c0 < 8) (he : e0 < 4) {r : Option zV} {S' : zS} (hk : zEv l X mi_X11_greatestPart (d + 7) 117 [(0, .inr 67), (1, .inl ((nI c0))), (2, .inl ((nI e0))), (3, .inl z), (4, .inl ((gpO (μ 70) (μ 72) c0 e0 z z0 10))), (5, .inl (nI 10))] [] (zSH, μ) 0 0 r S') : ∀ j i : Nat, i + j = 10 + 1 → i ≤ 10 → ∀ (y : Int32) (m : Int32), y = nI i → m = (gpO (μ 70) (μ 72) c0 e0 z z0 i) → zEv l X mi_X11_greatestPart (d + 7) 6 [(0, .inr 67), (1, .inl ((nI c0))), (2, .inl ((nI e0))), (3, .inl z), (4, .inl m), (5, .inl y)] [] (zSH, μ) 0 0 r S' := by
  intro j
  induction j with
  | zero => intros; omega
  | succ j ih =>
    intro i hij hle y m hy hs
    subst hy
    refine pv_iload t_X11_greatestPart_6 rfl ?_
    refine pv_bipush (v := 10) t_X11_greatestPart_8 zb_10 ?_
    refine pv_icmp_ge t_X11_greatestPart_10 (fun c10 => ?_) (fun c10 => ?_)
    · skip
      have hie : i = 10 := by have := (nI_leI (a := 10) (by omega) (by omega)).mp c10; omega
      subst hie
      rw [← hs] at hk
      exact hk
    · skip
      have hin : i < 10 := Nat.lt_of_not_le (fun q => c10 (nI_le (a := 10) q (by omega)))
      refine pv_iconst (v := 0) t_X11_greatestPart_13 zi_0 ?_
      refine pv_istore t_X11_greatestPart_14 (Nat.le_of_ble_eq_true rfl) ?_
      refine pv_iconst (v := 0) t_X11_greatestPart_16 zi_0 ?_
      refine pv_istore t_X11_greatestPart_17 (Nat.le_of_ble_eq_true rfl) ?_
      refine pv_loc (lv' := [(0, .inr 67), (1, .inl ((nI c0))), (2, .inl ((nI e0))), (3, .inl z), (4, .inl m), (5, .inl ((nI i))), (6, .inl 0), (7, .inl 0)]) ⟨rfl, rfl, rfl, rfl, rfl, rfl, rfl, rfl, trivial⟩ ?_
      refine lp_gpI (c0 := c0) (e0 := e0) (z := z) (m := m) (v0 := i) (z0 := 0) hc he ?_ (10 + 1) 0 (by omega) (by omega) _ _ rfl rfl
      refine pv_iload t_X11_greatestPart_95 rfl ?_
      refine pv_iload t_X11_greatestPart_97 rfl ?_
      refine sv_phi (c := ((gpI (μ 70) (μ 72) c0 e0 z i 0 10)) ≤ m) (A := m) (B := (gpI (μ 70) (μ 72) c0 e0 z i 0 10)) (J := 109) (lv := [(0, .inr 67), (1, .inl ((nI c0))), (2, .inl ((nI e0))), (3, .inl z), (4, .inl m), (5, .inl ((nI i))), (6, .inl ((gpI (μ 70) (μ 72) c0 e0 z i 0 10))), (7, .inl ((nI 10)))]) (st := []) (S := (zSH, μ)) (fun kT kF => ?_) ?_
      · skip
        refine pv_icmp_le t_X11_greatestPart_99 (fun c99 => ?_) (fun c99 => ?_)
        · skip
          refine pv_iload t_X11_greatestPart_107 rfl ?_
          exact kT c99
        · skip
          refine pv_iload t_X11_greatestPart_102 rfl ?_
          refine pv_goto t_X11_greatestPart_104 ?_
          exact kF c99
      refine pv_istore t_X11_greatestPart_109 (Nat.le_of_ble_eq_true rfl) ?_
      refine pv_iinc (v := 1) t_X11_greatestPart_111 rfl zi_1 ?_
      refine pv_goto t_X11_greatestPart_114 ?_
      refine pv_loc (lv' := [(0, _), (1, _), (2, _), (3, _), (4, _), (5, _)]) ⟨rfl, rfl, rfl, rfl, rfl, rfl, trivial⟩ ?_
      refine ih (i + 1) (by omega) (by omega) _ _ (nI_1 i) ?_
      have hs9 : (gpO (μ 70) (μ 72) c0 e0 z z0 (i + 1)) = gpO_F (μ 70) (μ 72) c0 e0 z i ((gpO (μ 70) (μ 72) c0 e0 z z0 i)) := rfl
      rw [hs9, ← hs]
      show _ = gpO_F (μ 70) (μ 72) c0 e0 z i m
      unfold gpO_F
      rfl
def a_X11_greatestPart (f70 : Nat → Int32) (f72 : Nat → Int32) (c0 : Nat) (e0 : Nat) (z : Int32) : Int32 := (gpO f70 f72 c0 e0 z 0 10)
theorem e_X11_greatestPart {l : Launch} {X : zX} {d : Nat} {μ : zH} {c0 : Nat} {e0 : Nat} {z : Int32} (hc : c0 < 8) (he : e0 < 4) : zRn l X mi_X11_greatestPart (d + 7) [.inr 67, .inl (nI c0), .inl (nI e0), .inl (z)] (zSH, μ) (some (.inl (a_X11_greatestPart (μ 70) (μ 72) c0 e0 z))) (zSH, μ) := by
  refine pv_iconst (v := 0) t_X11_greatestPart_0 zi_0 ?_
  refine pv_istore t_X11_greatestPart_1 (Nat.le_of_ble_eq_true rfl) ?_
  refine pv_iconst (v := 0) t_X11_greatestPart_3 zi_0 ?_
  refine pv_istore t_X11_greatestPart_4 (Nat.le_of_ble_eq_true rfl) ?_
  refine pv_loc (lv' := [(0, .inr 67), (1, .inl ((nI c0))), (2, .inl ((nI e0))), (3, .inl z), (4, .inl 0), (5, .inl 0)]) ⟨rfl, rfl, rfl, rfl, rfl, rfl, trivial⟩ ?_
  refine lp_gpO (c0 := c0) (e0 := e0) (z := z) (z0 := 0) hc he ?_ (10 + 1) 0 (by omega) (by omega) _ _ rfl rfl
  refine pv_iload t_X11_greatestPart_117 rfl ?_
  exact pv_ireti t_X11_greatestPart_119 rfl (by unfold a_X11_greatestPart; rfl) rfl
def prL_F (f70 : Nat → Int32) (f72 : Nat → Int32) (e0 : Nat) (tt : Int32) (z : Int32) (i : Nat) (w : Int32) (v : Int32) : Int32 × Int32 := (if (f70 ((5 * i))) = tt then (if w ≤ (a_X11_greatestPart f70 f72 i e0 z) then (w, v) else (a_X11_greatestPart f70 f72 i e0 z, (nI i))) else (w, v))
def prL (f70 : Nat → Int32) (f72 : Nat → Int32) (e0 : Nat) (tt : Int32) (z : Int32) (z0 : Int32 × Int32) : Nat → Int32 × Int32 := zfold (fun i s => prL_F f70 f72 e0 tt z i s.1 s.2) z0
theorem lp_prL {l : Launch} {X : zX} {d : Nat} {μ : zH} {e0 : Nat} {tt : Int32} {z : Int32} {nc : Nat} {g67 : Nat → Int32} {z0 : Int32 × Int32} (hnc : g67 11 = nI nc) (hc8 : nc ≤ 8) (he : e0 < 4) {r : Option zV} {S' : zS} (hk : zEv l X mi_X11_probe (d + 9) 102 [(0, .inr 67), (1, .inl ((nI e0))), (2, .inl tt), (3, .inl z), (4, .inl ((prL (μ 70) (μ 72) e0 tt z z0 nc).1)), (5, .inl ((prL (μ 70) (μ 72) e0 tt z z0 nc).2)), (6, .inl (nI nc))] [] (zSH, (zhs μ 67 g67)) 0 0 r S') : ∀ j i : Nat, i + j = nc + 1 → i ≤ nc → ∀ (y : Int32) (w : Int32) (v : Int32), y = nI i → (w, v) = (prL (μ 70) (μ 72) e0 tt z z0 i) → zEv l X mi_X11_probe (d + 9) 47 [(0, .inr 67), (1, .inl ((nI e0))), (2, .inl tt), (3, .inl z), (4, .inl w), (5, .inl v), (6, .inl y)] [] (zSH, (zhs μ 67 g67)) 0 0 r S' := by
  intro j
  induction j with
  | zero => intros; omega
  | succ j ih =>
    intro i hij hle y w v hy hs
    subst hy
    refine pv_iload t_X11_probe_47 rfl ?_
    refine pv_aload_n (i := 0) t_X11_probe_49 rfl rfl ?_
    refine sv_getI (nI nc) t_X11_probe_50 fl_X11_140 hh_67 rfl hnc ?_
    refine pv_icmp_ge t_X11_probe_53 (fun c53 => ?_) (fun c53 => ?_)
    · skip
      have hie : i = nc := by have := (nI_leI (a := nc) (by omega) (by omega)).mp c53; omega
      subst hie
      rw [← hs] at hk
      exact hk
    · skip
      have hin : i < nc := Nat.lt_of_not_le (fun q => c53 (nI_le (a := nc) q (by omega)))
      refine pv_aload_n (i := 0) t_X11_probe_56 rfl rfl ?_
      refine pv_getR t_X11_probe_57 fl_X11_20 hh_67 rfl ?_
      refine pv_iconst (v := 5) t_X11_probe_60 zi_5 ?_
      refine pv_iload t_X11_probe_61 rfl ?_
      refine pv_imul t_X11_probe_63 ?_
      refine sv_iald ((μ 70) ((5 * i))) t_X11_probe_64 (Or.inl hh_70) (ixi (k := (5 * i)) (nIm rfl rfl) (by omega) (by decide)) ((ixe (k := (5 * i)) (nIm rfl rfl) (by omega)).trans (by first | rfl | (simp only [zhs_s, pk_us]; done) | (simp [zhs, upd]; done))) ?_
      refine pv_iload_n (i := 2) t_X11_probe_65 rfl rfl ?_
      refine pv_icmp_ne t_X11_probe_66 (fun c66 => ?_) (fun c66 => ?_)
      · skip
        refine pv_iinc (v := 1) t_X11_probe_96 rfl zi_1 ?_
        refine pv_goto t_X11_probe_99 ?_
        refine pv_loc (lv' := [(0, _), (1, _), (2, _), (3, _), (4, _), (5, _), (6, _)]) ⟨rfl, rfl, rfl, rfl, rfl, rfl, rfl, trivial⟩ ?_
        refine ih (i + 1) (by omega) (by omega) _ _ _ (nI_1 i) ?_
        have hs9 : (prL (μ 70) (μ 72) e0 tt z z0 (i + 1)) = prL_F (μ 70) (μ 72) e0 tt z i ((prL (μ 70) (μ 72) e0 tt z z0 i).1) ((prL (μ 70) (μ 72) e0 tt z z0 i).2) := rfl
        rw [hs9, ← hs]
        show _ = prL_F (μ 70) (μ 72) e0 tt z i w v
        unfold prL_F
        rw [if_neg c66]
      · skip
        refine pv_aload_n (i := 0) t_X11_probe_69 rfl rfl ?_
        refine pv_iload t_X11_probe_70 rfl ?_
        refine pv_iload_n (i := 1) t_X11_probe_72 rfl rfl ?_
        refine pv_iload_n (i := 3) t_X11_probe_73 rfl rfl ?_
        refine sv_V3 (a_X11_greatestPart (μ 70) (μ 72) i e0 z) ((zhs μ 67 g67)) t_X11_probe_74 ml_X11_260 mo_X11_greatestPart hh_67 rfl (Nat.le_of_ble_eq_true rfl) (e_X11_greatestPart (c0 := i) (e0 := e0) (by omega) (by omega)) (Nat.le_of_ble_eq_true rfl) rfl rfl ?_
        refine pv_iload t_X11_probe_77 rfl ?_
        refine pv_icmp_ge t_X11_probe_79 (fun c79 => ?_) (fun c79 => ?_)
        · skip
          refine pv_iinc (v := 1) t_X11_probe_96 rfl zi_1 ?_
          refine pv_goto t_X11_probe_99 ?_
          refine pv_loc (lv' := [(0, _), (1, _), (2, _), (3, _), (4, _), (5, _), (6, _)]) ⟨rfl, rfl, rfl, rfl, rfl, rfl, rfl, trivial⟩ ?_
          refine ih (i + 1) (by omega) (by omega) _ _ _ (nI_1 i) ?_
          have hs9 : (prL (μ 70) (μ 72) e0 tt z z0 (i + 1)) = prL_F (μ 70) (μ 72) e0 tt z i ((prL (μ 70) (μ 72) e0 tt z z0 i).1) ((prL (μ 70) (μ 72) e0 tt z z0 i).2) := rfl
          rw [hs9, ← hs]
          show _ = prL_F (μ 70) (μ 72) e0 tt z i w v
          unfold prL_F
          rw [if_pos c66, if_pos c79]
        · skip
          refine pv_aload_n (i := 0) t_X11_probe_82 rfl rfl ?_
          refine pv_iload t_X11_probe_83 rfl ?_
          refine pv_iload_n (i := 1) t_X11_probe_85 rfl rfl ?_
          refine pv_iload_n (i := 3) t_X11_probe_86 rfl rfl ?_
          refine sv_V3 (a_X11_greatestPart (μ 70) (μ 72) i e0 z) ((zhs μ 67 g67)) t_X11_probe_87 ml_X11_260 mo_X11_greatestPart hh_67 rfl (Nat.le_of_ble_eq_true rfl) (e_X11_greatestPart (c0 := i) (e0 := e0) (by omega) (by omega)) (Nat.le_of_ble_eq_true rfl) rfl rfl ?_
          refine pv_istore t_X11_probe_90 (Nat.le_of_ble_eq_true rfl) ?_
          refine pv_iload t_X11_probe_92 rfl ?_
          refine pv_istore t_X11_probe_94 (Nat.le_of_ble_eq_true rfl) ?_
          refine pv_iinc (v := 1) t_X11_probe_96 rfl zi_1 ?_
          refine pv_goto t_X11_probe_99 ?_
          refine pv_loc (lv' := [(0, _), (1, _), (2, _), (3, _), (4, _), (5, _), (6, _)]) ⟨rfl, rfl, rfl, rfl, rfl, rfl, rfl, trivial⟩ ?_
          refine ih (i + 1) (by omega) (by omega) _ _ _ (nI_1 i) ?_
          have hs9 : (prL (μ 70) (μ 72) e0 tt z z0 (i + 1)) = prL_F (μ 70) (μ 72) e0 tt z i ((prL (μ 70) (μ 72) e0 tt z z0 i).1) ((prL (μ 70) (μ 72) e0 tt z z0 i).2) := rfl
          rw [hs9, ← hs]
          show _ = prL_F (μ 70) (μ 72) e0 tt z i w v
          unfold prL_F
          rw [if_pos c66, if_neg c79]
def a_X11_probe (f67 : Nat → Int32) (f70 : Nat → Int32) (f72 : Nat → Int32) (f78 : Nat → Int32) (x : Int32) (tt : Int32) (nc : Nat) (kw : Nat) : Int32 := (if (a_X11_isDuellist ((upd f67 0 0)) x) = 0 then (-1000000001) else (if (a_X11_in tt 0 3) = 0 then (-1000000002) else (prL f70 f72 x.toNatClampNeg tt (a_X11_vanities f70 f72 f78 x.toNatClampNeg tt kw) ((a_X11_ones (a_X11_vanities f70 f72 f78 x.toNatClampNeg tt kw), (-1))) nc).2))
def w_X11_probe_67 (f67 : Nat → Int32) (x : Int32) (tt : Int32) : Nat → Int32 := (if (a_X11_isDuellist ((upd f67 0 0)) x) = 0 then (upd f67 0 0) else (if (a_X11_in tt 0 3) = 0 then (upd f67 0 0) else ((upd f67 0 0))))
theorem e_X11_probe {l : Launch} {X : zX} {d : Nat} {μ : zH} {np nc kw : Nat} {x : Int32} {tt : Int32} (hnp : μ 67 10 = nI np) (hp4 : np ≤ 4) (hnc : μ 67 11 = nI nc) (hc8 : nc ≤ 8) (hkw : μ 67 24 = nI kw) (hw12 : kw ≤ 12) (hWm : ∀ k, k < kw → nb (μ 78 (4 * k)) 8 ∧ nb (μ 78 (4 * k + 2)) 10) : zRn l X mi_X11_probe (d + 9) [.inr 67, .inl (x), .inl (tt)] (zSH, μ) (some (.inl (a_X11_probe (μ 67) (μ 70) (μ 72) (μ 78) x tt nc kw))) (zSH, (zhs μ 67 (w_X11_probe_67 (μ 67) x tt))) := by
  refine pv_aload_n (i := 0) t_X11_probe_0 rfl rfl ?_
  refine pv_iconst (v := 0) t_X11_probe_1 zi_0 ?_
  refine sv_putI ((zhs μ 67 ((upd (μ 67) 0 0)))) t_X11_probe_2 fl_X11_69 zfn_10_0 hh_67 rfl rfl ?_
  refine pv_aload_n (i := 0) t_X11_probe_5 rfl rfl ?_
  refine pv_iload_n (i := 1) t_X11_probe_6 rfl rfl ?_
  refine sv_V1 (a_X11_isDuellist ((upd (μ 67) 0 0)) x) ((zhs μ 67 ((upd (μ 67) 0 0)))) t_X11_probe_7 ml_X11_161 mo_X11_isDuellist hh_67 rfl (Nat.le_of_ble_eq_true rfl) (e_X11_isDuellist) (Nat.le_of_ble_eq_true rfl) rfl rfl ?_
  refine pv_if_ne t_X11_probe_10 (fun c10 => ?_) (fun c10 => ?_)
  · skip
    obtain ⟨hx1, hx2⟩ := (isd (f := μ 67) hnp hp4 c10).2
    refine pv_iload_n (i := 2) t_X11_probe_16 rfl rfl ?_
    refine pv_iconst (v := 0) t_X11_probe_17 zi_0 ?_
    refine pv_iconst (v := 3) t_X11_probe_18 zi_3 ?_
    refine sv_S3 (a_X11_in tt 0 3) ((zhs μ 67 ((upd (μ 67) 0 0)))) t_X11_probe_19 ml_X11_72 mo_X11_in (Nat.le_of_ble_eq_true rfl) (e_X11_in) (Nat.le_of_ble_eq_true rfl) rfl rfl ?_
    refine pv_if_ne t_X11_probe_22 (fun c22 => ?_) (fun c22 => ?_)
    · skip
      refine pv_aload_n (i := 0) t_X11_probe_28 rfl rfl ?_
      refine pv_iload_n (i := 1) t_X11_probe_29 rfl rfl ?_
      refine pv_iload_n (i := 2) t_X11_probe_30 rfl rfl ?_
      refine sv_V2 (a_X11_vanities (μ 70) (μ 72) (μ 78) x.toNatClampNeg tt kw) ((zhs μ 67 ((upd (μ 67) 0 0)))) t_X11_probe_31 ml_X11_257 mo_X11_vanities hh_67 rfl (Nat.le_of_ble_eq_true rfl) (zas (lcS (lcI (k := x.toNatClampNeg) hx2 (lcS rfl))) (e_X11_vanities (e0 := x.toNatClampNeg) hkw hw12 (by omega) hWm)) (Nat.le_of_ble_eq_true rfl) rfl rfl ?_
      refine pv_istore_n (i := 3) t_X11_probe_34 rfl (Nat.le_of_ble_eq_true rfl) ?_
      refine pv_iload_n (i := 3) t_X11_probe_35 rfl rfl ?_
      refine sv_S1 (a_X11_ones (a_X11_vanities (μ 70) (μ 72) (μ 78) x.toNatClampNeg tt kw)) ((zhs μ 67 ((upd (μ 67) 0 0)))) t_X11_probe_36 ml_X11_172 mo_X11_ones (Nat.le_of_ble_eq_true rfl) (e_X11_ones) (Nat.le_of_ble_eq_true rfl) rfl rfl ?_
      refine pv_istore t_X11_probe_39 (Nat.le_of_ble_eq_true rfl) ?_
      refine pv_iconst (v := -1) t_X11_probe_41 zi_m1 ?_
      refine pv_istore t_X11_probe_42 (Nat.le_of_ble_eq_true rfl) ?_
      refine pv_iconst (v := 0) t_X11_probe_44 zi_0 ?_
      refine pv_istore t_X11_probe_45 (Nat.le_of_ble_eq_true rfl) ?_
      refine pv_loc (lv' := [(0, .inr 67), (1, .inl x), (2, .inl tt), (3, .inl (a_X11_vanities (μ 70) (μ 72) (μ 78) x.toNatClampNeg tt kw)), (4, .inl (a_X11_ones (a_X11_vanities (μ 70) (μ 72) (μ 78) x.toNatClampNeg tt kw))), (5, .inl ((-1))), (6, .inl 0)]) ⟨rfl, rfl, rfl, rfl, rfl, rfl, rfl, trivial⟩ ?_
      refine zls (llS (llI (n := x.toNatClampNeg) hx2 (llS (llS (llS (llS (llS rfl))))))) ?_
      refine lp_prL (e0 := x.toNatClampNeg) (tt := tt) (z := a_X11_vanities (μ 70) (μ 72) (μ 78) x.toNatClampNeg tt kw) (nc := nc) (g67 := ((upd (μ 67) 0 0))) (z0 := (a_X11_ones (a_X11_vanities (μ 70) (μ 72) (μ 78) x.toNatClampNeg tt kw), (-1))) hnc hc8 (by omega) ?_ (nc + 1) 0 (by omega) (by omega) _ _ _ rfl rfl
      refine pv_iload t_X11_probe_102 rfl ?_
      exact pv_ireti t_X11_probe_104 rfl (by unfold a_X11_probe; rw [if_neg c10, if_neg c22]) (Prod.ext rfl (by have e67 : w_X11_probe_67 (μ 67) x tt = ((upd (μ 67) 0 0)) := (by unfold w_X11_probe_67; rw [if_neg c10, if_neg c22]); show _ = (zhs μ 67 (w_X11_probe_67 (μ 67) x tt)); symm; rw [e67]))
    · skip
      refine pv_ldc t_X11_probe_25 kc_X11_76 ?_
      exact pv_ireti t_X11_probe_27 rfl (by unfold a_X11_probe; rw [if_neg c10, if_pos c22]) (Prod.ext rfl (by have e67 : w_X11_probe_67 (μ 67) x tt = (upd (μ 67) 0 0) := (by unfold w_X11_probe_67; rw [if_neg c10, if_pos c22]); show _ = (zhs μ 67 (w_X11_probe_67 (μ 67) x tt)); symm; rw [e67]))
  · skip
    refine pv_ldc t_X11_probe_13 kc_X11_165 ?_
    exact pv_ireti t_X11_probe_15 rfl (by unfold a_X11_probe; rw [if_pos c10]) (Prod.ext rfl (by have e67 : w_X11_probe_67 (μ 67) x tt = (upd (μ 67) 0 0) := (by unfold w_X11_probe_67; rw [if_pos c10]); show _ = (zhs μ 67 (w_X11_probe_67 (μ 67) x tt)); symm; rw [e67]))
theorem lp_kpA {l : Launch} {X : zX} {d : Nat} {μ : zH} {e0 : Nat} {g67 : Nat → Int32} {f75 : Nat → Int32} (he : e0 < 2) {r : Option zV} {S' : zS} (hk : zEv l X mi_X11_keep (d + 5) 48 [(0, .inr 67), (1, .inl ((nI e0))), (2, .inl (nI 64))] [] (zSH, (zhs (zhs μ 67 g67) 75 (cpR f75 (fun k => (μ 72) (k - 64 * e0)) (64 * e0) (64 * e0 + 64)))) 0 0 r S') : ∀ j i : Nat, i + j = 64 + 1 → i ≤ 64 → ∀ (y : Int32) (g75 : Nat → Int32), y = nI i → g75 = cpR f75 (fun k => (μ 72) (k - 64 * e0)) (64 * e0) (64 * e0 + i) → zEv l X mi_X11_keep (d + 5) 19 [(0, .inr 67), (1, .inl ((nI e0))), (2, .inl y)] [] (zSH, (zhs (zhs μ 67 g67) 75 g75)) 0 0 r S' := by
  intro j
  induction j with
  | zero => intros; omega
  | succ j ih =>
    intro i hij hle y g75 hy hg
    subst hy
    refine pv_iload_n (i := 2) t_X11_keep_19 rfl rfl ?_
    refine pv_bipush (v := 64) t_X11_keep_20 zb_64 ?_
    refine pv_icmp_ge t_X11_keep_22 (fun c22 => ?_) (fun c22 => ?_)
    · skip
      have hie : i = 64 := by have := (nI_leI (a := 64) (by omega) (by omega)).mp c22; omega
      subst hie
      rw [hg]
      exact hk
    · skip
      have hin : i < 64 := Nat.lt_of_not_le (fun q => c22 (nI_le (a := 64) q (by omega)))
      refine pv_aload_n (i := 0) t_X11_keep_25 rfl rfl ?_
      refine pv_getR t_X11_keep_26 fl_X11_35 hh_67 rfl ?_
      refine pv_bipush (v := 64) t_X11_keep_29 zb_64 ?_
      refine pv_iload_n (i := 1) t_X11_keep_31 rfl rfl ?_
      refine pv_imul t_X11_keep_32 ?_
      refine pv_iload_n (i := 2) t_X11_keep_33 rfl rfl ?_
      refine pv_iadd t_X11_keep_34 ?_
      refine pv_aload_n (i := 0) t_X11_keep_35 rfl rfl ?_
      refine pv_getR t_X11_keep_36 fl_X11_26 hh_67 rfl ?_
      refine pv_iload_n (i := 2) t_X11_keep_39 rfl rfl ?_
      refine sv_iald ((μ 72) i) t_X11_keep_40 (Or.inl hh_72) (ixi (k := i) rfl (by omega) (by decide)) ((ixe (k := i) rfl (by omega)).trans (by first | rfl | (simp only [zhs_s, pk_us]; done) | (simp [zhs, upd]; done))) ?_
      refine sv_iast ((zhs (zhs μ 67 g67) 75 ((upd g75 (((64 * e0) + i)) ((μ 72) i))))) t_X11_keep_41 hh_75 (ixi (k := ((64 * e0) + i)) (nIa (nIm rfl rfl) rfl) (by omega) (by decide)) (by rw [ixc (x := (64 * ((nI e0))) + ((nI i))) (k := ((64 * e0) + i)) (nIa (nIm rfl rfl) rfl) (by omega), zhs_hs] <;> (first | rfl | (congr 1; funext k_; simp only [upd]; ((repeat' split) <;> first | rfl | (simp_all; done))))) ?_
      refine pv_iinc (v := 1) t_X11_keep_42 rfl zi_1 ?_
      refine pv_goto t_X11_keep_45 ?_
      refine pv_loc (lv' := [(0, _), (1, _), (2, _)]) ⟨rfl, rfl, rfl, trivial⟩ ?_
      refine ih (i + 1) (by omega) (by omega) _ _ (nI_1 i) ?_
      rw [hg]
      exact cpR_s (by omega) (by show _ = μ 72 (64 * e0 + i - 64 * e0); rw [Nat.add_sub_cancel_left]) (by omega)
theorem lp_kpB {l : Launch} {X : zX} {d : Nat} {μ : zH} {e0 : Nat} {g67 : Nat → Int32} {g75 : Nat → Int32} {f76 : Nat → Int32} (he : e0 < 2) {r : Option zV} {S' : zS} (hk : zEv l X mi_X11_keep (d + 5) 81 [(0, .inr 67), (1, .inl ((nI e0))), (2, .inl (nI 4096))] [] (zSH, (zhs (zhs (zhs μ 67 g67) 75 g75) 76 (cpR f76 (fun k => (μ 74) (k - 4096 * e0)) (4096 * e0) (4096 * e0 + 4096)))) 0 0 r S') : ∀ j i : Nat, i + j = 4096 + 1 → i ≤ 4096 → ∀ (y : Int32) (g76 : Nat → Int32), y = nI i → g76 = cpR f76 (fun k => (μ 74) (k - 4096 * e0)) (4096 * e0) (4096 * e0 + i) → zEv l X mi_X11_keep (d + 5) 50 [(0, .inr 67), (1, .inl ((nI e0))), (2, .inl y)] [] (zSH, (zhs (zhs (zhs μ 67 g67) 75 g75) 76 g76)) 0 0 r S' := by
  intro j
  induction j with
  | zero => intros; omega
  | succ j ih =>
    intro i hij hle y g76 hy hg
    subst hy
    refine pv_iload_n (i := 2) t_X11_keep_50 rfl rfl ?_
    refine pv_sipush (v := 4096) t_X11_keep_51 zs_4096 ?_
    refine pv_icmp_ge t_X11_keep_54 (fun c54 => ?_) (fun c54 => ?_)
    · skip
      have hie : i = 4096 := by have := (nI_leI (a := 4096) (by omega) (by omega)).mp c54; omega
      subst hie
      rw [hg]
      exact hk
    · skip
      have hin : i < 4096 := Nat.lt_of_not_le (fun q => c54 (nI_le (a := 4096) q (by omega)))
      refine pv_aload_n (i := 0) t_X11_keep_57 rfl rfl ?_
      refine pv_getR t_X11_keep_58 fl_X11_38 hh_67 rfl ?_
      refine pv_sipush (v := 4096) t_X11_keep_61 zs_4096 ?_
      refine pv_iload_n (i := 1) t_X11_keep_64 rfl rfl ?_
      refine pv_imul t_X11_keep_65 ?_
      refine pv_iload_n (i := 2) t_X11_keep_66 rfl rfl ?_
      refine pv_iadd t_X11_keep_67 ?_
      refine pv_aload_n (i := 0) t_X11_keep_68 rfl rfl ?_
      refine pv_getR t_X11_keep_69 fl_X11_32 hh_67 rfl ?_
      refine pv_iload_n (i := 2) t_X11_keep_72 rfl rfl ?_
      refine sv_iald ((μ 74) i) t_X11_keep_73 (Or.inl hh_74) (ixi (k := i) rfl (by omega) (by decide)) ((ixe (k := i) rfl (by omega)).trans (by first | rfl | (simp only [zhs_s, pk_us]; done) | (simp [zhs, upd]; done))) ?_
      refine sv_iast ((zhs (zhs (zhs μ 67 g67) 75 g75) 76 ((upd g76 (((4096 * e0) + i)) ((μ 74) i))))) t_X11_keep_74 hh_76 (ixi (k := ((4096 * e0) + i)) (nIa (nIm rfl rfl) rfl) (by omega) (by decide)) (by rw [ixc (x := (4096 * ((nI e0))) + ((nI i))) (k := ((4096 * e0) + i)) (nIa (nIm rfl rfl) rfl) (by omega), zhs_hs] <;> (first | rfl | (congr 1; funext k_; simp only [upd]; ((repeat' split) <;> first | rfl | (simp_all; done))))) ?_
      refine pv_iinc (v := 1) t_X11_keep_75 rfl zi_1 ?_
      refine pv_goto t_X11_keep_78 ?_
      refine pv_loc (lv' := [(0, _), (1, _), (2, _)]) ⟨rfl, rfl, rfl, trivial⟩ ?_
      refine ih (i + 1) (by omega) (by omega) _ _ (nI_1 i) ?_
      rw [hg]
      exact cpR_s (by omega) (by show _ = μ 74 (4096 * e0 + i - 4096 * e0); rw [Nat.add_sub_cancel_left]) (by omega)
def a_X11_keep (x : Int32) : Int32 := (if (a_X11_in x 0 1) = 0 then (-1000000001) else 1)
def w_X11_keep_67 (f67 : Nat → Int32) (x : Int32) : Nat → Int32 := (if (a_X11_in x 0 1) = 0 then (upd f67 0 0) else (((upd f67 0 0))))
def w_X11_keep_75 (f72 : Nat → Int32) (f75 : Nat → Int32) (x : Int32) : Nat → Int32 := (if (a_X11_in x 0 1) = 0 then f75 else (cpR f75 (fun k => f72 (k - 64 * x.toNatClampNeg)) (64 * x.toNatClampNeg) (64 * x.toNatClampNeg + 64)))
def w_X11_keep_76 (f74 : Nat → Int32) (f76 : Nat → Int32) (x : Int32) : Nat → Int32 := (if (a_X11_in x 0 1) = 0 then f76 else cpR f76 (fun k => f74 (k - 4096 * x.toNatClampNeg)) (4096 * x.toNatClampNeg) (4096 * x.toNatClampNeg + 4096))
def w_X11_keep_77 (f77 : Nat → Int32) (x : Int32) : Nat → Int32 := (if (a_X11_in x 0 1) = 0 then f77 else (upd f77 x.toNatClampNeg 1))
theorem e_X11_keep {l : Launch} {X : zX} {d : Nat} {μ : zH} {x : Int32} : zRn l X mi_X11_keep (d + 5) [.inr 67, .inl (x)] (zSH, μ) (some (.inl (a_X11_keep x))) (zSH, (zhs (zhs (zhs (zhs μ 67 (w_X11_keep_67 (μ 67) x)) 75 (w_X11_keep_75 (μ 72) (μ 75) x)) 76 (w_X11_keep_76 (μ 74) (μ 76) x)) 77 (w_X11_keep_77 (μ 77) x))) := by
  refine pv_aload_n (i := 0) t_X11_keep_0 rfl rfl ?_
  refine pv_iconst (v := 0) t_X11_keep_1 zi_0 ?_
  refine sv_putI ((zhs μ 67 ((upd (μ 67) 0 0)))) t_X11_keep_2 fl_X11_69 zfn_10_0 hh_67 rfl rfl ?_
  refine pv_iload_n (i := 1) t_X11_keep_5 rfl rfl ?_
  refine pv_iconst (v := 0) t_X11_keep_6 zi_0 ?_
  refine pv_iconst (v := 1) t_X11_keep_7 zi_1 ?_
  refine sv_S3 (a_X11_in x 0 1) ((zhs μ 67 ((upd (μ 67) 0 0)))) t_X11_keep_8 ml_X11_72 mo_X11_in (Nat.le_of_ble_eq_true rfl) (e_X11_in) (Nat.le_of_ble_eq_true rfl) rfl rfl ?_
  refine pv_if_ne t_X11_keep_11 (fun c11 => ?_) (fun c11 => ?_)
  · skip
    obtain ⟨hx1, hx2⟩ := in_nb (n := 1) rfl (by decide) c11
    refine pv_iconst (v := 0) t_X11_keep_17 zi_0 ?_
    refine pv_istore_n (i := 2) t_X11_keep_18 rfl (Nat.le_of_ble_eq_true rfl) ?_
    refine pv_loc (lv' := [(0, .inr 67), (1, .inl x), (2, .inl 0)]) ⟨rfl, rfl, rfl, trivial⟩ ?_
    refine zls (llS (llI (n := x.toNatClampNeg) hx2 (llS rfl))) ?_
    refine zst (S2 := (zSH, (zhs (zhs μ 67 ((upd (μ 67) 0 0))) 75 (μ 75)))) (by symm; rw [zhs_i2 (ν := (zhs μ 67 ((upd (μ 67) 0 0)))) (k := 75) (g := (μ 75)) rfl]) ?_
    refine lp_kpA (e0 := x.toNatClampNeg) (g67 := ((upd (μ 67) 0 0))) (f75 := (μ 75)) (by omega) ?_ (64 + 1) 0 (by omega) (by omega) _ _ rfl (cpR_0 (by omega)).symm
    refine pv_iconst (v := 0) t_X11_keep_48 zi_0 ?_
    refine pv_istore_n (i := 2) t_X11_keep_49 rfl (Nat.le_of_ble_eq_true rfl) ?_
    refine pv_loc (lv' := [(0, .inr 67), (1, .inl ((nI x.toNatClampNeg))), (2, .inl 0)]) ⟨rfl, rfl, rfl, trivial⟩ ?_
    refine zst (S2 := (zSH, (zhs (zhs (zhs μ 67 (((upd (μ 67) 0 0)))) 75 (cpR (μ 75) (fun k => (μ 72) (k - 64 * x.toNatClampNeg)) (64 * x.toNatClampNeg) (64 * x.toNatClampNeg + 64))) 76 (μ 76)))) (by symm; rw [zhs_i2 (ν := (zhs (zhs μ 67 (((upd (μ 67) 0 0)))) 75 (cpR (μ 75) (fun k => (μ 72) (k - 64 * x.toNatClampNeg)) (64 * x.toNatClampNeg) (64 * x.toNatClampNeg + 64)))) (k := 76) (g := (μ 76)) rfl]) ?_
    refine lp_kpB (e0 := x.toNatClampNeg) (g67 := (((upd (μ 67) 0 0)))) (g75 := (cpR (μ 75) (fun k => (μ 72) (k - 64 * x.toNatClampNeg)) (64 * x.toNatClampNeg) (64 * x.toNatClampNeg + 64))) (f76 := (μ 76)) (by omega) ?_ (4096 + 1) 0 (by omega) (by omega) _ _ rfl (cpR_0 (by omega)).symm
    refine pv_aload_n (i := 0) t_X11_keep_81 rfl rfl ?_
    refine pv_getR t_X11_keep_82 fl_X11_41 hh_67 rfl ?_
    refine pv_iload_n (i := 1) t_X11_keep_85 rfl rfl ?_
    refine pv_iconst (v := 1) t_X11_keep_86 zi_1 ?_
    refine sv_zast ((zhs (zhs (zhs (zhs μ 67 ((((upd (μ 67) 0 0))))) 75 ((cpR (μ 75) (fun k => (μ 72) (k - 64 * x.toNatClampNeg)) (64 * x.toNatClampNeg) (64 * x.toNatClampNeg + 64)))) 76 (cpR (μ 76) (fun k => (μ 74) (k - 4096 * x.toNatClampNeg)) (4096 * x.toNatClampNeg) (4096 * x.toNatClampNeg + 4096))) 77 ((upd (μ 77) x.toNatClampNeg 1)))) t_X11_keep_87 hh_77 (ixi (k := x.toNatClampNeg) rfl (by omega) (by decide)) (by rw [ixc (x := (nI x.toNatClampNeg)) (k := x.toNatClampNeg) rfl (by omega)] <;> (first | rfl | (congr 1; funext k_; simp only [upd]; ((repeat' split) <;> first | rfl | (simp_all; done))))) ?_
    refine pv_iconst (v := 1) t_X11_keep_88 zi_1 ?_
    exact pv_ireti t_X11_keep_89 rfl (by unfold a_X11_keep; rw [if_neg c11]) (Prod.ext rfl (by have e67 : w_X11_keep_67 (μ 67) x = (((upd (μ 67) 0 0))) := (by unfold w_X11_keep_67; rw [if_neg c11]); have e75 : w_X11_keep_75 (μ 72) (μ 75) x = (cpR (μ 75) (fun k => (μ 72) (k - 64 * x.toNatClampNeg)) (64 * x.toNatClampNeg) (64 * x.toNatClampNeg + 64)) := (by unfold w_X11_keep_75; rw [if_neg c11]); have e76 : w_X11_keep_76 (μ 74) (μ 76) x = cpR (μ 76) (fun k => (μ 74) (k - 4096 * x.toNatClampNeg)) (4096 * x.toNatClampNeg) (4096 * x.toNatClampNeg + 4096) := (by unfold w_X11_keep_76; rw [if_neg c11]); have e77 : w_X11_keep_77 (μ 77) x = (upd (μ 77) x.toNatClampNeg 1) := (by unfold w_X11_keep_77; rw [if_neg c11]); show _ = (zhs (zhs (zhs (zhs μ 67 (w_X11_keep_67 (μ 67) x)) 75 (w_X11_keep_75 (μ 72) (μ 75) x)) 76 (w_X11_keep_76 (μ 74) (μ 76) x)) 77 (w_X11_keep_77 (μ 77) x)); symm; rw [e67, e75, e76, e77]))
  · skip
    refine pv_ldc t_X11_keep_14 kc_X11_165 ?_
    exact pv_ireti t_X11_keep_16 rfl (by unfold a_X11_keep; rw [if_pos c11]) (Prod.ext rfl (by have e67 : w_X11_keep_67 (μ 67) x = (upd (μ 67) 0 0) := (by unfold w_X11_keep_67; rw [if_pos c11]); have e75 : w_X11_keep_75 (μ 72) (μ 75) x = (μ 75) := (by unfold w_X11_keep_75; rw [if_pos c11]); have e76 : w_X11_keep_76 (μ 74) (μ 76) x = (μ 76) := (by unfold w_X11_keep_76; rw [if_pos c11]); have e77 : w_X11_keep_77 (μ 77) x = (μ 77) := (by unfold w_X11_keep_77; rw [if_pos c11]); show _ = (zhs (zhs (zhs (zhs μ 67 (w_X11_keep_67 (μ 67) x)) 75 (w_X11_keep_75 (μ 72) (μ 75) x)) 76 (w_X11_keep_76 (μ 74) (μ 76) x)) 77 (w_X11_keep_77 (μ 77) x)); symm; rw [e67, e75, e76, e77]; rw [zhs_i2 (ν := (zhs μ 67 ((upd (μ 67) 0 0)))) (k := 75) (g := (μ 75)) rfl, zhs_i2 (ν := (zhs μ 67 ((upd (μ 67) 0 0)))) (k := 76) (g := (μ 76)) rfl, zhs_i2 (ν := (zhs μ 67 ((upd (μ 67) 0 0)))) (k := 77) (g := (μ 77)) rfl]))
theorem lp_gbA {l : Launch} {X : zX} {d : Nat} {μ : zH} {e0 : Nat} {g67 : Nat → Int32} {f72 : Nat → Int32} (he : e0 < 2) {r : Option zV} {S' : zS} (hk : zEv l X mi_X11_goBack (d + 5) 60 [(0, .inr 67), (1, .inl ((nI e0))), (2, .inl (nI 64))] [] (zSH, (zhs (zhs μ 67 g67) 72 (cpR f72 (fun k => (μ 75) (64 * e0 + k)) (0) (64)))) 0 0 r S') : ∀ j i : Nat, i + j = 64 + 1 → i ≤ 64 → ∀ (y : Int32) (g72 : Nat → Int32), y = nI i → g72 = cpR f72 (fun k => (μ 75) (64 * e0 + k)) (0) (i) → zEv l X mi_X11_goBack (d + 5) 31 [(0, .inr 67), (1, .inl ((nI e0))), (2, .inl y)] [] (zSH, (zhs (zhs μ 67 g67) 72 g72)) 0 0 r S' := by
  intro j
  induction j with
  | zero => intros; omega
  | succ j ih =>
    intro i hij hle y g72 hy hg
    subst hy
    refine pv_iload_n (i := 2) t_X11_goBack_31 rfl rfl ?_
    refine pv_bipush (v := 64) t_X11_goBack_32 zb_64 ?_
    refine pv_icmp_ge t_X11_goBack_34 (fun c34 => ?_) (fun c34 => ?_)
    · skip
      have hie : i = 64 := by have := (nI_leI (a := 64) (by omega) (by omega)).mp c34; omega
      subst hie
      rw [hg]
      exact hk
    · skip
      have hin : i < 64 := Nat.lt_of_not_le (fun q => c34 (nI_le (a := 64) q (by omega)))
      refine pv_aload_n (i := 0) t_X11_goBack_37 rfl rfl ?_
      refine pv_getR t_X11_goBack_38 fl_X11_26 hh_67 rfl ?_
      refine pv_iload_n (i := 2) t_X11_goBack_41 rfl rfl ?_
      refine pv_aload_n (i := 0) t_X11_goBack_42 rfl rfl ?_
      refine pv_getR t_X11_goBack_43 fl_X11_35 hh_67 rfl ?_
      refine pv_bipush (v := 64) t_X11_goBack_46 zb_64 ?_
      refine pv_iload_n (i := 1) t_X11_goBack_48 rfl rfl ?_
      refine pv_imul t_X11_goBack_49 ?_
      refine pv_iload_n (i := 2) t_X11_goBack_50 rfl rfl ?_
      refine pv_iadd t_X11_goBack_51 ?_
      refine sv_iald ((μ 75) (((64 * e0) + i))) t_X11_goBack_52 (Or.inl hh_75) (ixi (k := ((64 * e0) + i)) (nIa (nIm rfl rfl) rfl) (by omega) (by decide)) ((ixe (k := ((64 * e0) + i)) (nIa (nIm rfl rfl) rfl) (by omega)).trans (by first | rfl | (simp only [zhs_s, pk_us]; done) | (simp [zhs, upd]; done))) ?_
      refine sv_iast ((zhs (zhs μ 67 g67) 72 ((upd g72 i ((μ 75) (((64 * e0) + i))))))) t_X11_goBack_53 hh_72 (ixi (k := i) rfl (by omega) (by decide)) (by rw [ixc (x := (nI i)) (k := i) rfl (by omega), zhs_hs] <;> (first | rfl | (congr 1; funext k_; simp only [upd]; ((repeat' split) <;> first | rfl | (simp_all; done))))) ?_
      refine pv_iinc (v := 1) t_X11_goBack_54 rfl zi_1 ?_
      refine pv_goto t_X11_goBack_57 ?_
      refine pv_loc (lv' := [(0, _), (1, _), (2, _)]) ⟨rfl, rfl, rfl, trivial⟩ ?_
      refine ih (i + 1) (by omega) (by omega) _ _ (nI_1 i) ?_
      rw [hg]
      exact cpR_s (by omega) rfl (by omega)
theorem lp_gbB {l : Launch} {X : zX} {d : Nat} {μ : zH} {e0 : Nat} {g67 : Nat → Int32} {g72 : Nat → Int32} {f74 : Nat → Int32} (he : e0 < 2) {r : Option zV} {S' : zS} (hk : zEv l X mi_X11_goBack (d + 5) 93 [(0, .inr 67), (1, .inl ((nI e0))), (2, .inl (nI 4096))] [] (zSH, (zhs (zhs (zhs μ 67 g67) 72 g72) 74 (cpR f74 (fun k => (μ 76) (4096 * e0 + k)) (0) (4096)))) 0 0 r S') : ∀ j i : Nat, i + j = 4096 + 1 → i ≤ 4096 → ∀ (y : Int32) (g74 : Nat → Int32), y = nI i → g74 = cpR f74 (fun k => (μ 76) (4096 * e0 + k)) (0) (i) → zEv l X mi_X11_goBack (d + 5) 62 [(0, .inr 67), (1, .inl ((nI e0))), (2, .inl y)] [] (zSH, (zhs (zhs (zhs μ 67 g67) 72 g72) 74 g74)) 0 0 r S' := by
  intro j
  induction j with
  | zero => intros; omega
  | succ j ih =>
    intro i hij hle y g74 hy hg
    subst hy
    refine pv_iload_n (i := 2) t_X11_goBack_62 rfl rfl ?_
    refine pv_sipush (v := 4096) t_X11_goBack_63 zs_4096 ?_
    refine pv_icmp_ge t_X11_goBack_66 (fun c66 => ?_) (fun c66 => ?_)
    · skip
      have hie : i = 4096 := by have := (nI_leI (a := 4096) (by omega) (by omega)).mp c66; omega
      subst hie
      rw [hg]
      exact hk
    · skip
      have hin : i < 4096 := Nat.lt_of_not_le (fun q => c66 (nI_le (a := 4096) q (by omega)))
      refine pv_aload_n (i := 0) t_X11_goBack_69 rfl rfl ?_
      refine pv_getR t_X11_goBack_70 fl_X11_32 hh_67 rfl ?_
      refine pv_iload_n (i := 2) t_X11_goBack_73 rfl rfl ?_
      refine pv_aload_n (i := 0) t_X11_goBack_74 rfl rfl ?_
      refine pv_getR t_X11_goBack_75 fl_X11_38 hh_67 rfl ?_
      refine pv_sipush (v := 4096) t_X11_goBack_78 zs_4096 ?_
      refine pv_iload_n (i := 1) t_X11_goBack_81 rfl rfl ?_
      refine pv_imul t_X11_goBack_82 ?_
      refine pv_iload_n (i := 2) t_X11_goBack_83 rfl rfl ?_
      refine pv_iadd t_X11_goBack_84 ?_
      refine sv_iald ((μ 76) (((4096 * e0) + i))) t_X11_goBack_85 (Or.inl hh_76) (ixi (k := ((4096 * e0) + i)) (nIa (nIm rfl rfl) rfl) (by omega) (by decide)) ((ixe (k := ((4096 * e0) + i)) (nIa (nIm rfl rfl) rfl) (by omega)).trans (by first | rfl | (simp only [zhs_s, pk_us]; done) | (simp [zhs, upd]; done))) ?_
      refine sv_iast ((zhs (zhs (zhs μ 67 g67) 72 g72) 74 ((upd g74 i ((μ 76) (((4096 * e0) + i))))))) t_X11_goBack_86 hh_74 (ixi (k := i) rfl (by omega) (by decide)) (by rw [ixc (x := (nI i)) (k := i) rfl (by omega), zhs_hs] <;> (first | rfl | (congr 1; funext k_; simp only [upd]; ((repeat' split) <;> first | rfl | (simp_all; done))))) ?_
      refine pv_iinc (v := 1) t_X11_goBack_87 rfl zi_1 ?_
      refine pv_goto t_X11_goBack_90 ?_
      refine pv_loc (lv' := [(0, _), (1, _), (2, _)]) ⟨rfl, rfl, rfl, trivial⟩ ?_
      refine ih (i + 1) (by omega) (by omega) _ _ (nI_1 i) ?_
      rw [hg]
      exact cpR_s (by omega) rfl (by omega)
def a_X11_goBack (f77 : Nat → Int32) (x : Int32) : Int32 := (if (a_X11_in x 0 1) = 0 then (-1000000001) else (if (f77 x.toNatClampNeg) = 0 then (-1000000003) else 1))
def w_X11_goBack_67 (f67 : Nat → Int32) (f77 : Nat → Int32) (x : Int32) : Nat → Int32 := (if (a_X11_in x 0 1) = 0 then (upd f67 0 0) else (if (f77 x.toNatClampNeg) = 0 then (upd f67 0 0) else (((upd f67 0 0)))))
def w_X11_goBack_72 (f72 : Nat → Int32) (f75 : Nat → Int32) (f77 : Nat → Int32) (x : Int32) : Nat → Int32 := (if (a_X11_in x 0 1) = 0 then f72 else (if (f77 x.toNatClampNeg) = 0 then f72 else (cpR f72 (fun k => f75 (64 * x.toNatClampNeg + k)) (0) (64))))
def w_X11_goBack_74 (f74 : Nat → Int32) (f76 : Nat → Int32) (f77 : Nat → Int32) (x : Int32) : Nat → Int32 := (if (a_X11_in x 0 1) = 0 then f74 else (if (f77 x.toNatClampNeg) = 0 then f74 else cpR f74 (fun k => f76 (4096 * x.toNatClampNeg + k)) (0) (4096)))
theorem e_X11_goBack {l : Launch} {X : zX} {d : Nat} {μ : zH} {x : Int32} : zRn l X mi_X11_goBack (d + 5) [.inr 67, .inl (x)] (zSH, μ) (some (.inl (a_X11_goBack (μ 77) x))) (zSH, (zhs (zhs (zhs μ 67 (w_X11_goBack_67 (μ 67) (μ 77) x)) 72 (w_X11_goBack_72 (μ 72) (μ 75) (μ 77) x)) 74 (w_X11_goBack_74 (μ 74) (μ 76) (μ 77) x))) := by
  refine pv_aload_n (i := 0) t_X11_goBack_0 rfl rfl ?_
  refine pv_iconst (v := 0) t_X11_goBack_1 zi_0 ?_
  refine sv_putI ((zhs μ 67 ((upd (μ 67) 0 0)))) t_X11_goBack_2 fl_X11_69 zfn_10_0 hh_67 rfl rfl ?_
  refine pv_iload_n (i := 1) t_X11_goBack_5 rfl rfl ?_
  refine pv_iconst (v := 0) t_X11_goBack_6 zi_0 ?_
  refine pv_iconst (v := 1) t_X11_goBack_7 zi_1 ?_
  refine sv_S3 (a_X11_in x 0 1) ((zhs μ 67 ((upd (μ 67) 0 0)))) t_X11_goBack_8 ml_X11_72 mo_X11_in (Nat.le_of_ble_eq_true rfl) (e_X11_in) (Nat.le_of_ble_eq_true rfl) rfl rfl ?_
  refine pv_if_ne t_X11_goBack_11 (fun c11 => ?_) (fun c11 => ?_)
  · skip
    obtain ⟨hx1, hx2⟩ := in_nb (n := 1) rfl (by decide) c11
    refine pv_aload_n (i := 0) t_X11_goBack_17 rfl rfl ?_
    refine pv_getR t_X11_goBack_18 fl_X11_41 hh_67 rfl ?_
    refine pv_iload_n (i := 1) t_X11_goBack_21 rfl rfl ?_
    refine sv_zald ((μ 77) x.toNatClampNeg) t_X11_goBack_22 hh_77 (ixi (k := x.toNatClampNeg) hx2 (by omega) (by decide)) ((ixe (k := x.toNatClampNeg) hx2 (by omega)).trans (by first | rfl | (simp only [zhs_s, pk_us]; done) | (simp [zhs, upd]; done))) ?_
    refine pv_if_ne t_X11_goBack_23 (fun c23 => ?_) (fun c23 => ?_)
    · skip
      refine pv_iconst (v := 0) t_X11_goBack_29 zi_0 ?_
      refine pv_istore_n (i := 2) t_X11_goBack_30 rfl (Nat.le_of_ble_eq_true rfl) ?_
      refine pv_loc (lv' := [(0, .inr 67), (1, .inl x), (2, .inl 0)]) ⟨rfl, rfl, rfl, trivial⟩ ?_
      refine zls (llS (llI (n := x.toNatClampNeg) hx2 (llS rfl))) ?_
      refine zst (S2 := (zSH, (zhs (zhs μ 67 ((upd (μ 67) 0 0))) 72 (μ 72)))) (by symm; rw [zhs_i2 (ν := (zhs μ 67 ((upd (μ 67) 0 0)))) (k := 72) (g := (μ 72)) rfl]) ?_
      refine lp_gbA (e0 := x.toNatClampNeg) (g67 := ((upd (μ 67) 0 0))) (f72 := (μ 72)) (by omega) ?_ (64 + 1) 0 (by omega) (by omega) _ _ rfl (cpR_0 (by omega)).symm
      refine pv_iconst (v := 0) t_X11_goBack_60 zi_0 ?_
      refine pv_istore_n (i := 2) t_X11_goBack_61 rfl (Nat.le_of_ble_eq_true rfl) ?_
      refine pv_loc (lv' := [(0, .inr 67), (1, .inl ((nI x.toNatClampNeg))), (2, .inl 0)]) ⟨rfl, rfl, rfl, trivial⟩ ?_
      refine zst (S2 := (zSH, (zhs (zhs (zhs μ 67 (((upd (μ 67) 0 0)))) 72 (cpR (μ 72) (fun k => (μ 75) (64 * x.toNatClampNeg + k)) (0) (64))) 74 (μ 74)))) (by symm; rw [zhs_i2 (ν := (zhs (zhs μ 67 (((upd (μ 67) 0 0)))) 72 (cpR (μ 72) (fun k => (μ 75) (64 * x.toNatClampNeg + k)) (0) (64)))) (k := 74) (g := (μ 74)) rfl]) ?_
      refine lp_gbB (e0 := x.toNatClampNeg) (g67 := (((upd (μ 67) 0 0)))) (g72 := (cpR (μ 72) (fun k => (μ 75) (64 * x.toNatClampNeg + k)) (0) (64))) (f74 := (μ 74)) (by omega) ?_ (4096 + 1) 0 (by omega) (by omega) _ _ rfl (cpR_0 (by omega)).symm
      refine pv_iconst (v := 1) t_X11_goBack_93 zi_1 ?_
      exact pv_ireti t_X11_goBack_94 rfl (by unfold a_X11_goBack; rw [if_neg c11, if_neg c23]) (Prod.ext rfl (by have e67 : w_X11_goBack_67 (μ 67) (μ 77) x = (((upd (μ 67) 0 0))) := (by unfold w_X11_goBack_67; rw [if_neg c11, if_neg c23]); have e72 : w_X11_goBack_72 (μ 72) (μ 75) (μ 77) x = (cpR (μ 72) (fun k => (μ 75) (64 * x.toNatClampNeg + k)) (0) (64)) := (by unfold w_X11_goBack_72; rw [if_neg c11, if_neg c23]); have e74 : w_X11_goBack_74 (μ 74) (μ 76) (μ 77) x = cpR (μ 74) (fun k => (μ 76) (4096 * x.toNatClampNeg + k)) (0) (4096) := (by unfold w_X11_goBack_74; rw [if_neg c11, if_neg c23]); show _ = (zhs (zhs (zhs μ 67 (w_X11_goBack_67 (μ 67) (μ 77) x)) 72 (w_X11_goBack_72 (μ 72) (μ 75) (μ 77) x)) 74 (w_X11_goBack_74 (μ 74) (μ 76) (μ 77) x)); symm; rw [e67, e72, e74]))
    · skip
      refine pv_ldc t_X11_goBack_26 kc_X11_206 ?_
      exact pv_ireti t_X11_goBack_28 rfl (by unfold a_X11_goBack; rw [if_neg c11, if_pos c23]) (Prod.ext rfl (by have e67 : w_X11_goBack_67 (μ 67) (μ 77) x = (upd (μ 67) 0 0) := (by unfold w_X11_goBack_67; rw [if_neg c11, if_pos c23]); have e72 : w_X11_goBack_72 (μ 72) (μ 75) (μ 77) x = (μ 72) := (by unfold w_X11_goBack_72; rw [if_neg c11, if_pos c23]); have e74 : w_X11_goBack_74 (μ 74) (μ 76) (μ 77) x = (μ 74) := (by unfold w_X11_goBack_74; rw [if_neg c11, if_pos c23]); show _ = (zhs (zhs (zhs μ 67 (w_X11_goBack_67 (μ 67) (μ 77) x)) 72 (w_X11_goBack_72 (μ 72) (μ 75) (μ 77) x)) 74 (w_X11_goBack_74 (μ 74) (μ 76) (μ 77) x)); symm; rw [e67, e72, e74]; rw [zhs_i2 (ν := (zhs μ 67 ((upd (μ 67) 0 0)))) (k := 72) (g := (μ 72)) rfl, zhs_i2 (ν := (zhs μ 67 ((upd (μ 67) 0 0)))) (k := 74) (g := (μ 74)) rfl]))
  · skip
    refine pv_ldc t_X11_goBack_14 kc_X11_165 ?_
    exact pv_ireti t_X11_goBack_16 rfl (by unfold a_X11_goBack; rw [if_pos c11]) (Prod.ext rfl (by have e67 : w_X11_goBack_67 (μ 67) (μ 77) x = (upd (μ 67) 0 0) := (by unfold w_X11_goBack_67; rw [if_pos c11]); have e72 : w_X11_goBack_72 (μ 72) (μ 75) (μ 77) x = (μ 72) := (by unfold w_X11_goBack_72; rw [if_pos c11]); have e74 : w_X11_goBack_74 (μ 74) (μ 76) (μ 77) x = (μ 74) := (by unfold w_X11_goBack_74; rw [if_pos c11]); show _ = (zhs (zhs (zhs μ 67 (w_X11_goBack_67 (μ 67) (μ 77) x)) 72 (w_X11_goBack_72 (μ 72) (μ 75) (μ 77) x)) 74 (w_X11_goBack_74 (μ 74) (μ 76) (μ 77) x)); symm; rw [e67, e72, e74]; rw [zhs_i2 (ν := (zhs μ 67 ((upd (μ 67) 0 0)))) (k := 72) (g := (μ 72)) rfl, zhs_i2 (ν := (zhs μ 67 ((upd (μ 67) 0 0)))) (k := 74) (g := (μ 74)) rfl]))
def a_X11_feed (f67 : Nat → Int32) (x : Int32) : Int32 := (if (a_X11_in x 0 255) = 0 then (-1000000002) else (if (f67 2) = 250 then (-1000000004) else (f67 2) + 1))
def w_X11_feed_68 (f67 : Nat → Int32) (f68 : Nat → Int32) (x : Int32) (kn : Nat) : Nat → Int32 := (if (a_X11_in x 0 255) = 0 then f68 else (if (f67 2) = 250 then f68 else (upd f68 kn x)))
def w_X11_feed_67 (f67 : Nat → Int32) (x : Int32) : Nat → Int32 := (if (a_X11_in x 0 255) = 0 then (upd f67 0 0) else (if (f67 2) = 250 then (upd f67 0 0) else (upd (upd f67 0 0) 2 ((f67 2) + 1))))
theorem e_X11_feed {l : Launch} {X : zX} {d : Nat} {μ : zH} {kn : Nat} {x : Int32} (hkn : μ 67 2 = nI kn) (hn250 : kn ≤ 250) : zRn l X mi_X11_feed (d + 5) [.inr 67, .inl (x)] (zSH, μ) (some (.inl (a_X11_feed (μ 67) x))) (zSH, (zhs (zhs μ 68 (w_X11_feed_68 (μ 67) (μ 68) x kn)) 67 (w_X11_feed_67 (μ 67) x))) := by
  refine pv_aload_n (i := 0) t_X11_feed_0 rfl rfl ?_
  refine pv_iconst (v := 0) t_X11_feed_1 zi_0 ?_
  refine sv_putI ((zhs μ 67 ((upd (μ 67) 0 0)))) t_X11_feed_2 fl_X11_69 zfn_10_0 hh_67 rfl rfl ?_
  refine pv_iload_n (i := 1) t_X11_feed_5 rfl rfl ?_
  refine pv_iconst (v := 0) t_X11_feed_6 zi_0 ?_
  refine pv_sipush (v := 255) t_X11_feed_7 zs_255 ?_
  refine sv_S3 (a_X11_in x 0 255) ((zhs μ 67 ((upd (μ 67) 0 0)))) t_X11_feed_10 ml_X11_72 mo_X11_in (Nat.le_of_ble_eq_true rfl) (e_X11_in) (Nat.le_of_ble_eq_true rfl) rfl rfl ?_
  refine pv_if_ne t_X11_feed_13 (fun c13 => ?_) (fun c13 => ?_)
  · skip
    refine pv_aload_n (i := 0) t_X11_feed_19 rfl rfl ?_
    refine sv_getI ((μ 67) 2) t_X11_feed_20 fl_X11_77 hh_67 rfl rfl ?_
    refine pv_sipush (v := 250) t_X11_feed_23 zs_250 ?_
    refine pv_icmp_ne t_X11_feed_26 (fun c26 => ?_) (fun c26 => ?_)
    · skip
      have hk3 : kn < 250 := Nat.lt_of_le_of_ne hn250 (fun q => c26 (by rw [hkn, q]; rfl))
      refine pv_aload_n (i := 0) t_X11_feed_32 rfl rfl ?_
      refine pv_getR t_X11_feed_33 fl_X11_7 hh_67 rfl ?_
      refine pv_aload_n (i := 0) t_X11_feed_36 rfl rfl ?_
      refine sv_getI ((μ 67) 2) t_X11_feed_37 fl_X11_77 hh_67 rfl rfl ?_
      refine pv_iload_n (i := 1) t_X11_feed_40 rfl rfl ?_
      refine sv_iast ((zhs (zhs μ 67 ((upd (μ 67) 0 0))) 68 ((upd (μ 68) kn x)))) t_X11_feed_41 hh_68 (ixi (k := kn) hkn (by omega) (by decide)) (by rw [ixc (x := (μ 67) 2) (k := kn) hkn (by omega)] <;> (first | rfl | (congr 1; funext k_; simp only [upd]; ((repeat' split) <;> first | rfl | (simp_all; done))))) ?_
      refine pv_aload_n (i := 0) t_X11_feed_42 rfl rfl ?_
      refine pv_dup t_X11_feed_43 ?_
      refine sv_getI ((μ 67) 2) t_X11_feed_44 fl_X11_77 hh_67 rfl rfl ?_
      refine pv_iconst (v := 1) t_X11_feed_47 zi_1 ?_
      refine pv_iadd t_X11_feed_48 ?_
      refine sv_putI ((zhs (zhs μ 68 ((upd (μ 68) kn x))) 67 ((upd (upd (μ 67) 0 0) 2 (((μ 67) 2) + 1))))) t_X11_feed_49 fl_X11_77 zfn_10_2 hh_67 rfl (by rw [zhs_cm (μ := μ) (a := 67) (b := 68) (by decide), zhs_hs] <;> (first | rfl | (congr 1; funext k_; simp only [upd]; ((repeat' split) <;> first | rfl | (simp_all; done))))) ?_
      refine pv_aload_n (i := 0) t_X11_feed_52 rfl rfl ?_
      refine sv_getI (((μ 67) 2) + 1) t_X11_feed_53 fl_X11_77 hh_67 rfl rfl ?_
      exact pv_ireti t_X11_feed_56 rfl (by unfold a_X11_feed; rw [if_neg c13, if_neg c26]) (Prod.ext rfl (by have e68 : w_X11_feed_68 (μ 67) (μ 68) x kn = (upd (μ 68) kn x) := (by unfold w_X11_feed_68; rw [if_neg c13, if_neg c26]); have e67 : w_X11_feed_67 (μ 67) x = (upd (upd (μ 67) 0 0) 2 (((μ 67) 2) + 1)) := (by unfold w_X11_feed_67; rw [if_neg c13, if_neg c26]); show _ = (zhs (zhs μ 68 (w_X11_feed_68 (μ 67) (μ 68) x kn)) 67 (w_X11_feed_67 (μ 67) x)); symm; rw [e68, e67]))
    · skip
      refine pv_ldc t_X11_feed_29 kc_X11_80 ?_
      exact pv_ireti t_X11_feed_31 rfl (by unfold a_X11_feed; rw [if_neg c13, if_pos c26]) (Prod.ext rfl (by have e68 : w_X11_feed_68 (μ 67) (μ 68) x kn = (μ 68) := (by unfold w_X11_feed_68; rw [if_neg c13, if_pos c26]); have e67 : w_X11_feed_67 (μ 67) x = (upd (μ 67) 0 0) := (by unfold w_X11_feed_67; rw [if_neg c13, if_pos c26]); show _ = (zhs (zhs μ 68 (w_X11_feed_68 (μ 67) (μ 68) x kn)) 67 (w_X11_feed_67 (μ 67) x)); symm; rw [e68, e67]; rw [zhs_i2 (ν := μ) (k := 68) (g := (μ 68)) rfl]))
  · skip
    refine pv_ldc t_X11_feed_16 kc_X11_76 ?_
    exact pv_ireti t_X11_feed_18 rfl (by unfold a_X11_feed; rw [if_pos c13]) (Prod.ext rfl (by have e68 : w_X11_feed_68 (μ 67) (μ 68) x kn = (μ 68) := (by unfold w_X11_feed_68; rw [if_pos c13]); have e67 : w_X11_feed_67 (μ 67) x = (upd (μ 67) 0 0) := (by unfold w_X11_feed_67; rw [if_pos c13]); show _ = (zhs (zhs μ 68 (w_X11_feed_68 (μ 67) (μ 68) x kn)) 67 (w_X11_feed_67 (μ 67) x)); symm; rw [e68, e67]; rw [zhs_i2 (ν := μ) (k := 68) (g := (μ 68)) rfl]))
