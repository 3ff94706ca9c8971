theorem ag_nb {f : Nat → Int32} (hA : nb (f 20) 4) (hB : nb (f 21) 4) : nb (a_X11_against f) 4 := by
  unfold a_X11_against
  split
  · exact hB
  · exact hA
theorem goX {f : Nat → Int32} (h : ¬ a_X11_goesOn f = 0) : ¬ f 20 = -1 ∧ f 22 = 0 := by
  unfold a_X11_goesOn at h
  by_cases h1 : a_X11_isDuel f = 0
  · rw [if_pos h1] at h; exact absurd rfl h
  · rw [if_neg h1] at h
    by_cases h2 : f 22 = 0
    · refine ⟨fun q => h1 ?_, h2⟩
      unfold a_X11_isDuel
      rw [if_pos q]
    · rw [if_neg h2] at h; exact absurd rfl h
def a_X11_effectNow (f70 : Nat → Int32) (f72 : Nat → Int32) (c : Nat) : Int32 := a_X11_effectBy f70 f72 c ((a_X11_against f72).toNatClampNeg) (a_X11_vanityOf f72 ((a_X11_against f72).toNatClampNeg) ((f70 ((5 * c))).toNatClampNeg)) ((f72 (((33 + (4 * (1 - (f72 24).toNatClampNeg))) + (f70 ((5 * c))).toNatClampNeg))).toNatClampNeg)
theorem e_X11_effectNow {l : Launch} {X : zX} {d : Nat} {μ : zH} {c : Nat} (hc : c < 8) (hT : ∀ c, c < 8 → nb (μ 70 (5 * c)) 4) (hTm : ∀ i, 33 ≤ i → i < 41 → nb (μ 72 i) 100) (hA : nb (μ 72 20) 4) (hB : nb (μ 72 21) 4) (hS : nb (μ 72 24) 2) : zRn l X mi_X11_effectNow (d + 8) [.inr 67, .inl (nI c)] (zSH, μ) (some (.inl (a_X11_effectNow (μ 70) (μ 72) c))) (zSH, μ) := by
  have ht1 : ((μ 70) (5 * c)).toNatClampNeg < 4 := (hT _ (by omega)).1
  have hag : (a_X11_against (μ 72)).toNatClampNeg < 4 := (ag_nb hA hB).1
  have hs1 : ((μ 72) 24).toNatClampNeg < 2 := hS.1
  refine pv_aload_n (i := 0) t_X11_effectNow_0 rfl rfl ?_
  refine pv_getR t_X11_effectNow_1 fl_X11_20 hh_67 rfl ?_
  refine pv_iconst (v := 5) t_X11_effectNow_4 zi_5 ?_
  refine pv_iload_n (i := 1) t_X11_effectNow_5 rfl rfl ?_
  refine pv_imul t_X11_effectNow_6 ?_
  refine sv_iald ((μ 70) ((5 * c))) t_X11_effectNow_7 (Or.inl hh_70) (ixi (k := (5 * c)) (nIm rfl rfl) (by omega) (by decide)) ((ixe (k := (5 * c)) (nIm rfl rfl) (by omega)).trans (by first | rfl | (simp only [zhs_s, pk_us]; done) | (simp [zhs, upd]; done))) ?_
  refine pv_istore_n (i := 2) t_X11_effectNow_8 rfl (Nat.le_of_ble_eq_true rfl) ?_
  refine pv_aload_n (i := 0) t_X11_effectNow_9 rfl rfl ?_
  refine pv_iload_n (i := 1) t_X11_effectNow_10 rfl rfl ?_
  refine pv_aload_n (i := 0) t_X11_effectNow_11 rfl rfl ?_
  refine sv_V0 (a_X11_against (μ 72)) μ t_X11_effectNow_12 ml_X11_238 mo_X11_against hh_67 rfl (Nat.le_of_ble_eq_true rfl) (e_X11_against) (Nat.le_of_ble_eq_true rfl) rfl rfl ?_
  refine pv_aload_n (i := 0) t_X11_effectNow_15 rfl rfl ?_
  refine pv_aload_n (i := 0) t_X11_effectNow_16 rfl rfl ?_
  refine sv_V0 (a_X11_against (μ 72)) μ t_X11_effectNow_17 ml_X11_238 mo_X11_against hh_67 rfl (Nat.le_of_ble_eq_true rfl) (e_X11_against) (Nat.le_of_ble_eq_true rfl) rfl rfl ?_
  refine pv_iload_n (i := 2) t_X11_effectNow_20 rfl rfl ?_
  refine sv_V2 (a_X11_vanityOf (μ 72) ((a_X11_against (μ 72)).toNatClampNeg) (((μ 70) ((5 * c))).toNatClampNeg)) μ t_X11_effectNow_21 ml_X11_179 mo_X11_vanityOf hh_67 rfl (Nat.le_of_ble_eq_true rfl) (zas (lcS (lcI (k := (a_X11_against (μ 72)).toNatClampNeg) (nb_k (ag_nb hA hB)) (lcI (k := ((μ 70) ((5 * c))).toNatClampNeg) (nb_k (hT _ (by omega))) rfl))) (e_X11_vanityOf (e := (a_X11_against (μ 72)).toNatClampNeg) (t := ((μ 70) ((5 * c))).toNatClampNeg) (by omega) (by omega))) (Nat.le_of_ble_eq_true rfl) rfl rfl ?_
  refine pv_aload_n (i := 0) t_X11_effectNow_24 rfl rfl ?_
  refine pv_getR t_X11_effectNow_25 fl_X11_26 hh_67 rfl ?_
  refine pv_bipush (v := 33) t_X11_effectNow_28 zb_33 ?_
  refine pv_iconst (v := 4) t_X11_effectNow_30 zi_4 ?_
  refine pv_iconst (v := 1) t_X11_effectNow_31 zi_1 ?_
  refine pv_aload_n (i := 0) t_X11_effectNow_32 rfl rfl ?_
  refine pv_getR t_X11_effectNow_33 fl_X11_26 hh_67 rfl ?_
  refine pv_bipush (v := 24) t_X11_effectNow_36 zb_24 ?_
  refine sv_iald ((μ 72) 24) t_X11_effectNow_38 (Or.inl hh_72) (zin (by decide)) rfl ?_
  refine pv_isub t_X11_effectNow_39 ?_
  refine pv_imul t_X11_effectNow_40 ?_
  refine pv_iadd t_X11_effectNow_41 ?_
  refine pv_iload_n (i := 2) t_X11_effectNow_42 rfl rfl ?_
  refine pv_iadd t_X11_effectNow_43 ?_
  refine sv_iald ((μ 72) (((33 + (4 * (1 - ((μ 72) 24).toNatClampNeg))) + ((μ 70) ((5 * c))).toNatClampNeg))) t_X11_effectNow_44 (Or.inl hh_72) (ixi (k := ((33 + (4 * (1 - ((μ 72) 24).toNatClampNeg))) + ((μ 70) ((5 * c))).toNatClampNeg)) (nIa (nIa rfl (nIm rfl (nIsb rfl (nb_k hS) (by omega)))) (nb_k (hT _ (by omega)))) (by omega) (by decide)) ((ixe (k := ((33 + (4 * (1 - ((μ 72) 24).toNatClampNeg))) + ((μ 70) ((5 * c))).toNatClampNeg)) (nIa (nIa rfl (nIm rfl (nIsb rfl (nb_k hS) (by omega)))) (nb_k (hT _ (by omega)))) (by omega)).trans (by first | rfl | (simp only [zhs_s, pk_us]; done) | (simp [zhs, upd]; done))) ?_
  have hq9 : ((μ 72) (((33 + (4 * (1 - ((μ 72) 24).toNatClampNeg))) + ((μ 70) ((5 * c))).toNatClampNeg))).toNatClampNeg < 100 := (hTm _ (by omega) (by omega)).1
  refine sv_V4 (a_X11_effectBy (μ 70) (μ 72) c ((a_X11_against (μ 72)).toNatClampNeg) (a_X11_vanityOf (μ 72) ((a_X11_against (μ 72)).toNatClampNeg) (((μ 70) ((5 * c))).toNatClampNeg)) (((μ 72) (((33 + (4 * (1 - ((μ 72) 24).toNatClampNeg))) + ((μ 70) ((5 * c))).toNatClampNeg))).toNatClampNeg)) μ t_X11_effectNow_45 ml_X11_182 mo_X11_effectBy hh_67 rfl (Nat.le_of_ble_eq_true rfl) (zas (lcS (lcI (k := c) rfl (lcI (k := (a_X11_against (μ 72)).toNatClampNeg) (nb_k (ag_nb hA hB)) (lcS (lcI (k := ((μ 72) (((33 + (4 * (1 - ((μ 72) 24).toNatClampNeg))) + ((μ 70) ((5 * c))).toNatClampNeg))).toNatClampNeg) (nb_k (hTm _ (by omega) (by omega))) rfl))))) (e_X11_effectBy (c := c) (e := (a_X11_against (μ 72)).toNatClampNeg) (tt := ((μ 72) (((33 + (4 * (1 - ((μ 72) 24).toNatClampNeg))) + ((μ 70) ((5 * c))).toNatClampNeg))).toNatClampNeg) (by omega) (by omega) (by omega))) (Nat.le_of_ble_eq_true rfl) rfl rfl ?_
  exact pv_ireti t_X11_effectNow_48 rfl (by unfold a_X11_effectNow; rfl) rfl
def ggS_F (f70 : Nat → Int32) (f72 : Nat → Int32) (i : Nat) (w : Int32) : Int32 := if (if (((f72 25) >>> (((nI i)) &&& 31)) &&& 1) = 0 then (if (a_X11_truthBy f70 i (f72 ((a_X11_against f72).toNatClampNeg))) ≤ 0 then (0 : Int32) else (1 : Int32) : Int32) else (0 : Int32)) = 0 then (w : Int32) else (if w = ((-1)) then ((nI i) : Int32) else (if (a_X11_effectNow f70 f72 i) ≤ (a_X11_effectNow f70 f72 w.toNatClampNeg) then (w : Int32) else ((nI i) : Int32) : Int32) : Int32)
def ggS (f70 : Nat → Int32) (f72 : Nat → Int32) (z0 : Int32) : Nat → Int32 := zfold (fun i s => ggS_F f70 f72 i s) z0
theorem ggI {f70 f72 : Nat → Int32} : ∀ i : Nat, i ≤ 8 → ggS f70 f72 (-1) i = -1 ∨ nb (ggS f70 f72 (-1) i) 8 := by
  intro i
  induction i with
  | zero => intro _; exact Or.inl rfl
  | succ i ih =>
    intro hi
    have h1 := ih (by omega)
    show ggS_F f70 f72 i (ggS f70 f72 (-1) i) = -1 ∨ nb (ggS_F f70 f72 i (ggS f70 f72 (-1) i)) 8
    have h2 : nb (nI i) 8 := ⟨by rw [nI_clamp (by omega)]; omega, by rw [nI_clamp (by omega)]⟩
    generalize ggS f70 f72 (-1) i = w at h1
    unfold ggS_F
    repeat' split
    all_goals first | exact h1 | exact Or.inr h2
theorem lp_ggS {l : Launch} {X : zX} {d : Nat} {μ : zH} {nc : Nat} {x : Int32} {g67 : Nat → Int32} {z0 : Int32} (hnc : g67 11 = nI nc) (hc8 : nc ≤ 8) (hT : ∀ c, c < 8 → nb (μ 70 (5 * c)) 4) (hTm : ∀ i, 33 ≤ i → i < 41 → nb (μ 72 i) 100) (hA : nb (μ 72 20) 4) (hB : nb (μ 72 21) 4) (hS : nb (μ 72 24) 2) (hz0 : z0 = -1) {r : Option zV} {S' : zS} (hk : zEv l X mi_X11_greatest (d + 9) 112 [(0, .inr 67), (1, .inl x), (2, .inl ((ggS (μ 70) (μ 72) z0 nc))), (3, .inl (nI nc))] [] (zSH, (zhs μ 67 g67)) 0 0 r S') : ∀ j i : Nat, i + j = nc + 1 → i ≤ nc → ∀ (y : Int32) (w : Int32), y = nI i → w = (ggS (μ 70) (μ 72) z0 i) → zEv l X mi_X11_greatest (d + 9) 31 [(0, .inr 67), (1, .inl x), (2, .inl w), (3, .inl y)] [] (zSH, (zhs μ 67 g67)) 0 0 r S' := by
  intro j
  induction j with
  | zero => intros; omega
  | succ j ih =>
    intro i hij hle y w hy hs
    subst hy
    have hI : w = -1 ∨ nb w 8 := by rw [hs, hz0]; exact ggI i (by omega)
    have hag : (a_X11_against (μ 72)).toNatClampNeg < 4 := (ag_nb hA hB).1
    have hs1 : ((μ 72) 24).toNatClampNeg < 2 := hS.1
    refine pv_iload_n (i := 3) t_X11_greatest_31 rfl rfl ?_
    refine pv_aload_n (i := 0) t_X11_greatest_32 rfl rfl ?_
    refine sv_getI (nI nc) t_X11_greatest_33 fl_X11_140 hh_67 rfl hnc ?_
    refine pv_icmp_ge t_X11_greatest_36 (fun c36 => ?_) (fun c36 => ?_)
    · skip
      have hie : i = nc := by have := (nI_leI (a := nc) (by omega) (by omega)).mp c36; omega
      subst hie
      rw [← hs] at hk
      exact hk
    · skip
      have hin : i < nc := Nat.lt_of_not_le (fun q => c36 (nI_le (a := nc) q (by omega)))
      refine pv_aload_n (i := 0) t_X11_greatest_39 rfl rfl ?_
      refine pv_getR t_X11_greatest_40 fl_X11_26 hh_67 rfl ?_
      refine pv_bipush (v := 25) t_X11_greatest_43 zb_25 ?_
      refine sv_iald ((μ 72) 25) t_X11_greatest_45 (Or.inl hh_72) (zin (by decide)) rfl ?_
      refine pv_iload_n (i := 3) t_X11_greatest_46 rfl rfl ?_
      refine pv_ishr t_X11_greatest_47 ?_
      refine pv_iconst (v := 1) t_X11_greatest_48 zi_1 ?_
      refine pv_iand t_X11_greatest_49 ?_
      refine sv_phi (c := ((((μ 72) 25) >>> (((nI i)) &&& 31)) &&& 1) = 0) (A := if (a_X11_truthBy (μ 70) i ((μ 72) ((a_X11_against (μ 72)).toNatClampNeg))) ≤ 0 then (0 : Int32) else (1 : Int32)) (B := 0) (J := 75) (lv := [(0, .inr 67), (1, .inl x), (2, .inl w), (3, .inl ((nI i)))]) (st := []) (S := (zSH, (zhs μ 67 g67))) (fun kT kF => ?_) ?_
      · skip
        refine pv_if_ne t_X11_greatest_50 (fun c50 => ?_) (fun c50 => ?_)
        · skip
          refine pv_iconst (v := 0) t_X11_greatest_74 zi_0 ?_
          exact kF c50
        · skip
          refine pv_aload_n (i := 0) t_X11_greatest_53 rfl rfl ?_
          refine pv_iload_n (i := 3) t_X11_greatest_54 rfl rfl ?_
          refine pv_aload_n (i := 0) t_X11_greatest_55 rfl rfl ?_
          refine pv_getR t_X11_greatest_56 fl_X11_26 hh_67 rfl ?_
          refine pv_aload_n (i := 0) t_X11_greatest_59 rfl rfl ?_
          refine sv_V0 (a_X11_against (μ 72)) ((zhs μ 67 g67)) t_X11_greatest_60 ml_X11_238 mo_X11_against hh_67 rfl (Nat.le_of_ble_eq_true rfl) (e_X11_against) (Nat.le_of_ble_eq_true rfl) rfl rfl ?_
          refine sv_iald ((μ 72) ((a_X11_against (μ 72)).toNatClampNeg)) t_X11_greatest_63 (Or.inl hh_72) (ixi (k := (a_X11_against (μ 72)).toNatClampNeg) (nb_k (ag_nb hA hB)) (by omega) (by decide)) ((ixe (k := (a_X11_against (μ 72)).toNatClampNeg) (nb_k (ag_nb hA hB)) (by omega)).trans (by first | rfl | (simp only [zhs_s, pk_us]; done) | (simp [zhs, upd]; done))) ?_
          refine sv_V2 (a_X11_truthBy (μ 70) i ((μ 72) ((a_X11_against (μ 72)).toNatClampNeg))) ((zhs μ 67 g67)) t_X11_greatest_64 ml_X11_175 mo_X11_truthBy hh_67 rfl (Nat.le_of_ble_eq_true rfl) (e_X11_truthBy (c := i) (by omega)) (Nat.le_of_ble_eq_true rfl) rfl rfl ?_
          refine sv_phi (c := (a_X11_truthBy (μ 70) i ((μ 72) ((a_X11_against (μ 72)).toNatClampNeg))) ≤ 0) (A := 0) (B := 1) (J := 75) (lv := [(0, .inr 67), (1, .inl x), (2, .inl w), (3, .inl ((nI i)))]) (st := []) (S := (zSH, (zhs μ 67 g67))) (fun kT kF => ?_) ?_
          · skip
            refine pv_if_le t_X11_greatest_67 (fun c67 => ?_) (fun c67 => ?_)
            · skip
              refine pv_iconst (v := 0) t_X11_greatest_74 zi_0 ?_
              exact kT c67
            · skip
              refine pv_iconst (v := 1) t_X11_greatest_70 zi_1 ?_
              refine pv_goto t_X11_greatest_71 ?_
              exact kF c67
          exact kT c50
      refine pv_istore t_X11_greatest_75 (Nat.le_of_ble_eq_true rfl) ?_
      refine pv_iload t_X11_greatest_77 rfl ?_
      refine sv_phi (c := (if ((((μ 72) 25) >>> (((nI i)) &&& 31)) &&& 1) = 0 then (if (a_X11_truthBy (μ 70) i ((μ 72) ((a_X11_against (μ 72)).toNatClampNeg))) ≤ 0 then (0 : Int32) else (1 : Int32) : Int32) else (0 : Int32)) = 0) (A := w) (B := if w = ((-1)) then ((nI i) : Int32) else (if (a_X11_effectNow (μ 70) (μ 72) i) ≤ (a_X11_effectNow (μ 70) (μ 72) w.toNatClampNeg) then (w : Int32) else ((nI i) : Int32) : Int32)) (J := 105) (lv := [(0, .inr 67), (1, .inl x), (2, .inl w), (3, .inl ((nI i))), (4, .inl (if ((((μ 72) 25) >>> (((nI i)) &&& 31)) &&& 1) = 0 then (if (a_X11_truthBy (μ 70) i ((μ 72) ((a_X11_against (μ 72)).toNatClampNeg))) ≤ 0 then (0 : Int32) else (1 : Int32) : Int32) else (0 : Int32)))]) (st := []) (S := (zSH, (zhs μ 67 g67))) (fun kT kF => ?_) ?_
      · skip
        refine pv_if_eq t_X11_greatest_79 (fun c79 => ?_) (fun c79 => ?_)
        · skip
          refine pv_iload_n (i := 2) t_X11_greatest_104 rfl rfl ?_
          exact kT c79
        · skip
          refine pv_iload_n (i := 2) t_X11_greatest_82 rfl rfl ?_
          refine pv_iconst (v := -1) t_X11_greatest_83 zi_m1 ?_
          refine sv_phi (c := w = ((-1))) (A := (nI i)) (B := if (a_X11_effectNow (μ 70) (μ 72) i) ≤ (a_X11_effectNow (μ 70) (μ 72) w.toNatClampNeg) then (w : Int32) else ((nI i) : Int32)) (J := 105) (lv := [(0, .inr 67), (1, .inl x), (2, .inl w), (3, .inl ((nI i))), (4, .inl (if ((((μ 72) 25) >>> (((nI i)) &&& 31)) &&& 1) = 0 then (if (a_X11_truthBy (μ 70) i ((μ 72) ((a_X11_against (μ 72)).toNatClampNeg))) ≤ 0 then (0 : Int32) else (1 : Int32) : Int32) else (0 : Int32)))]) (st := []) (S := (zSH, (zhs μ 67 g67))) (fun kT kF => ?_) ?_
          · skip
            refine pv_icmp_eq t_X11_greatest_84 (fun c84 => ?_) (fun c84 => ?_)
            · skip
              refine pv_iload_n (i := 3) t_X11_greatest_100 rfl rfl ?_
              refine pv_goto t_X11_greatest_101 ?_
              exact kT c84
            · skip
              refine pv_aload_n (i := 0) t_X11_greatest_87 rfl rfl ?_
              refine pv_iload_n (i := 3) t_X11_greatest_88 rfl rfl ?_
              refine sv_V1 (a_X11_effectNow (μ 70) (μ 72) i) ((zhs μ 67 g67)) t_X11_greatest_89 ml_X11_241 mo_X11_effectNow hh_67 rfl (Nat.le_of_ble_eq_true rfl) (e_X11_effectNow (c := i) (by omega) hT hTm hA hB hS) (Nat.le_of_ble_eq_true rfl) rfl rfl ?_
              refine pv_aload_n (i := 0) t_X11_greatest_92 rfl rfl ?_
              obtain ⟨hw1, hw2⟩ := hI.resolve_left c84
              refine pv_iload_n (i := 2) t_X11_greatest_93 rfl rfl ?_
              refine sv_V1 (a_X11_effectNow (μ 70) (μ 72) w.toNatClampNeg) ((zhs μ 67 g67)) t_X11_greatest_94 ml_X11_241 mo_X11_effectNow hh_67 rfl (Nat.le_of_ble_eq_true rfl) (zas (lcS (lcI (k := w.toNatClampNeg) hw2 rfl)) (e_X11_effectNow (c := w.toNatClampNeg) (by omega) hT hTm hA hB hS)) (Nat.le_of_ble_eq_true rfl) rfl rfl ?_
              refine sv_phi (c := (a_X11_effectNow (μ 70) (μ 72) i) ≤ (a_X11_effectNow (μ 70) (μ 72) w.toNatClampNeg)) (A := w) (B := (nI i)) (J := 105) (lv := [(0, .inr 67), (1, .inl x), (2, .inl w), (3, .inl ((nI i))), (4, .inl (if ((((μ 72) 25) >>> (((nI i)) &&& 31)) &&& 1) = 0 then (if (a_X11_truthBy (μ 70) i ((μ 72) ((a_X11_against (μ 72)).toNatClampNeg))) ≤ 0 then (0 : Int32) else (1 : Int32) : Int32) else (0 : Int32)))]) (st := []) (S := (zSH, (zhs μ 67 g67))) (fun kT kF => ?_) ?_
              · skip
                refine pv_icmp_le t_X11_greatest_97 (fun c97 => ?_) (fun c97 => ?_)
                · skip
                  refine pv_iload_n (i := 2) t_X11_greatest_104 rfl rfl ?_
                  exact kT c97
                · skip
                  refine pv_iload_n (i := 3) t_X11_greatest_100 rfl rfl ?_
                  refine pv_goto t_X11_greatest_101 ?_
                  exact kF c97
              exact kF c84
          exact kF c79
      refine pv_istore_n (i := 2) t_X11_greatest_105 rfl (Nat.le_of_ble_eq_true rfl) ?_
      refine pv_iinc (v := 1) t_X11_greatest_106 rfl zi_1 ?_
      refine pv_goto t_X11_greatest_109 ?_
      refine pv_loc (lv' := [(0, _), (1, _), (2, _), (3, _)]) ⟨rfl, rfl, rfl, rfl, trivial⟩ ?_
      refine ih (i + 1) (by omega) (by omega) _ _ (nI_1 i) ?_
      have hs9 : (ggS (μ 70) (μ 72) z0 (i + 1)) = ggS_F (μ 70) (μ 72) i ((ggS (μ 70) (μ 72) z0 i)) := rfl
      rw [hs9, ← hs]
      show _ = ggS_F (μ 70) (μ 72) i w
      unfold ggS_F
      rfl
def a_X11_greatest (f70 : Nat → Int32) (f72 : Nat → Int32) (x : Int32) (nc : Nat) : Int32 := (if (a_X11_in x 0 1) = 0 then (-1000000002) else (if (a_X11_goesOn f72) = 0 then (-1000000003) else (if ((ggS f70 f72 ((-1)) nc)) = ((-1)) then (ggS f70 f72 ((-1)) nc) else (if x = 0 then (ggS f70 f72 ((-1)) nc) else a_X11_effectNow f70 f72 (((ggS f70 f72 ((-1)) nc)).toNatClampNeg)))))
def w_X11_greatest_67 (f67 : Nat → Int32) (f72 : Nat → Int32) (x : Int32) : Nat → Int32 := (if (a_X11_in x 0 1) = 0 then (upd f67 0 0) else (if (a_X11_goesOn f72) = 0 then (upd f67 0 0) else ((upd f67 0 0))))
theorem e_X11_greatest {l : Launch} {X : zX} {d : Nat} {μ : zH} {nc : Nat} {x : Int32} (hnc : μ 67 11 = nI nc) (hc8 : nc ≤ 8) (hT : ∀ c, c < 8 → nb (μ 70 (5 * c)) 4) (hTm : ∀ i, 33 ≤ i → i < 41 → nb (μ 72 i) 100) (hA : nb (μ 72 20) 4) (hB : nb (μ 72 21) 4) (hS : nb (μ 72 24) 2) : zRn l X mi_X11_greatest (d + 9) [.inr 67, .inl (x)] (zSH, μ) (some (.inl (a_X11_greatest (μ 70) (μ 72) x nc))) (zSH, (zhs μ 67 (w_X11_greatest_67 (μ 67) (μ 72) x))) := by
  refine pv_aload_n (i := 0) t_X11_greatest_0 rfl rfl ?_
  refine pv_iconst (v := 0) t_X11_greatest_1 zi_0 ?_
  refine sv_putI ((zhs μ 67 ((upd (μ 67) 0 0)))) t_X11_greatest_2 fl_X11_69 zfn_10_0 hh_67 rfl rfl ?_
  refine pv_iload_n (i := 1) t_X11_greatest_5 rfl rfl ?_
  refine pv_iconst (v := 0) t_X11_greatest_6 zi_0 ?_
  refine pv_iconst (v := 1) t_X11_greatest_7 zi_1 ?_
  refine sv_S3 (a_X11_in x 0 1) ((zhs μ 67 ((upd (μ 67) 0 0)))) t_X11_greatest_8 ml_X11_72 mo_X11_in (Nat.le_of_ble_eq_true rfl) (e_X11_in) (Nat.le_of_ble_eq_true rfl) rfl rfl ?_
  refine pv_if_ne t_X11_greatest_11 (fun c11 => ?_) (fun c11 => ?_)
  · skip
    refine pv_aload_n (i := 0) t_X11_greatest_17 rfl rfl ?_
    refine sv_V0 (a_X11_goesOn (μ 72)) ((zhs μ 67 ((upd (μ 67) 0 0)))) t_X11_greatest_18 ml_X11_155 mo_X11_goesOn hh_67 rfl (Nat.le_of_ble_eq_true rfl) (e_X11_goesOn) (Nat.le_of_ble_eq_true rfl) rfl rfl ?_
    refine pv_if_ne t_X11_greatest_21 (fun c21 => ?_) (fun c21 => ?_)
    · skip
      refine pv_iconst (v := -1) t_X11_greatest_27 zi_m1 ?_
      refine pv_istore_n (i := 2) t_X11_greatest_28 rfl (Nat.le_of_ble_eq_true rfl) ?_
      refine pv_iconst (v := 0) t_X11_greatest_29 zi_0 ?_
      refine pv_istore_n (i := 3) t_X11_greatest_30 rfl (Nat.le_of_ble_eq_true rfl) ?_
      refine pv_loc (lv' := [(0, .inr 67), (1, .inl x), (2, .inl ((-1))), (3, .inl 0)]) ⟨rfl, rfl, rfl, rfl, trivial⟩ ?_
      refine lp_ggS (x := x) (g67 := ((upd (μ 67) 0 0))) (z0 := (-1)) hnc hc8 hT hTm hA hB hS rfl ?_ (nc + 1) 0 (by omega) (by omega) _ _ rfl rfl
      refine pv_iload_n (i := 2) t_X11_greatest_112 rfl rfl ?_
      refine pv_iconst (v := -1) t_X11_greatest_113 zi_m1 ?_
      refine pv_icmp_eq t_X11_greatest_114 (fun c114 => ?_) (fun c114 => ?_)
      · skip
        refine pv_iload_n (i := 2) t_X11_greatest_121 rfl rfl ?_
        refine pv_goto t_X11_greatest_122 ?_
        exact pv_ireti t_X11_greatest_130 rfl (by unfold a_X11_greatest; rw [if_neg c11, if_neg c21, if_pos c114]) (Prod.ext rfl (by have e67 : w_X11_greatest_67 (μ 67) (μ 72) x = ((upd (μ 67) 0 0)) := (by unfold w_X11_greatest_67; rw [if_neg c11, if_neg c21]); show _ = (zhs μ 67 (w_X11_greatest_67 (μ 67) (μ 72) x)); symm; rw [e67]))
      · skip
        refine pv_iload_n (i := 1) t_X11_greatest_117 rfl rfl ?_
        refine pv_if_ne t_X11_greatest_118 (fun c118 => ?_) (fun c118 => ?_)
        · skip
          have hg := (ggI (f70 := (μ 70)) (f72 := (μ 72)) nc hc8).resolve_left c114
          have hg1 := hg.1
          refine pv_aload_n (i := 0) t_X11_greatest_125 rfl rfl ?_
          refine pv_iload_n (i := 2) t_X11_greatest_126 rfl rfl ?_
          refine sv_V1 (a_X11_effectNow (μ 70) (μ 72) (((ggS (μ 70) (μ 72) ((-1)) nc)).toNatClampNeg)) ((zhs μ 67 (((upd (μ 67) 0 0))))) t_X11_greatest_127 ml_X11_241 mo_X11_effectNow hh_67 rfl (Nat.le_of_ble_eq_true rfl) (zas (lcS (lcI (k := ((ggS (μ 70) (μ 72) ((-1)) nc)).toNatClampNeg) hg.2 rfl)) (e_X11_effectNow (c := ((ggS (μ 70) (μ 72) ((-1)) nc)).toNatClampNeg) (by omega) hT hTm hA hB hS)) (Nat.le_of_ble_eq_true rfl) rfl rfl ?_
          exact pv_ireti t_X11_greatest_130 rfl (by unfold a_X11_greatest; rw [if_neg c11, if_neg c21, if_neg c114, if_neg c118]) (Prod.ext rfl (by have e67 : w_X11_greatest_67 (μ 67) (μ 72) x = ((upd (μ 67) 0 0)) := (by unfold w_X11_greatest_67; rw [if_neg c11, if_neg c21]); show _ = (zhs μ 67 (w_X11_greatest_67 (μ 67) (μ 72) x)); symm; rw [e67]))
        · skip
          refine pv_iload_n (i := 2) t_X11_greatest_121 rfl rfl ?_
          refine pv_goto t_X11_greatest_122 ?_
          exact pv_ireti t_X11_greatest_130 rfl (by unfold a_X11_greatest; rw [if_neg c11, if_neg c21, if_neg c114, if_pos c118]) (Prod.ext rfl (by have e67 : w_X11_greatest_67 (μ 67) (μ 72) x = ((upd (μ 67) 0 0)) := (by unfold w_X11_greatest_67; rw [if_neg c11, if_neg c21]); show _ = (zhs μ 67 (w_X11_greatest_67 (μ 67) (μ 72) x)); symm; rw [e67]))
    · skip
      refine pv_ldc t_X11_greatest_24 kc_X11_206 ?_
      exact pv_ireti t_X11_greatest_26 rfl (by unfold a_X11_greatest; rw [if_neg c11, if_pos c21]) (Prod.ext rfl (by have e67 : w_X11_greatest_67 (μ 67) (μ 72) x = (upd (μ 67) 0 0) := (by unfold w_X11_greatest_67; rw [if_neg c11, if_pos c21]); show _ = (zhs μ 67 (w_X11_greatest_67 (μ 67) (μ 72) x)); symm; rw [e67]))
  · skip
    refine pv_ldc t_X11_greatest_14 kc_X11_76 ?_
    exact pv_ireti t_X11_greatest_16 rfl (by unfold a_X11_greatest; rw [if_pos c11]) (Prod.ext rfl (by have e67 : w_X11_greatest_67 (μ 67) (μ 72) x = (upd (μ 67) 0 0) := (by unfold w_X11_greatest_67; rw [if_pos c11]); show _ = (zhs μ 67 (w_X11_greatest_67 (μ 67) (μ 72) x)); symm; rw [e67]))
def a_X11_cheek (f67 : Nat → Int32) (x : Int32) : Int32 := (if (a_X11_in x 0 999) = 0 then (-1000000002) else (if (f67 26) = 4 then (-1000000004) else (f67 26) + 1))
def w_X11_cheek_79 (f67 : Nat → Int32) (f79 : Nat → Int32) (x : Int32) (kc : Nat) : Nat → Int32 := (if (a_X11_in x 0 999) = 0 then f79 else (if (f67 26) = 4 then f79 else (upd f79 kc x)))
def w_X11_cheek_67 (f67 : Nat → Int32) (x : Int32) : Nat → Int32 := (if (a_X11_in x 0 999) = 0 then (upd f67 0 0) else (if (f67 26) = 4 then (upd f67 0 0) else (upd (upd f67 0 0) 26 ((f67 26) + 1))))
theorem e_X11_cheek {l : Launch} {X : zX} {d : Nat} {μ : zH} {kc : Nat} {x : Int32} (hkc : μ 67 26 = nI kc) (hk4 : kc ≤ 4) : zRn l X mi_X11_cheek (d + 4) [.inr 67, .inl (x)] (zSH, μ) (some (.inl (a_X11_cheek (μ 67) x))) (zSH, (zhs (zhs μ 79 (w_X11_cheek_79 (μ 67) (μ 79) x kc)) 67 (w_X11_cheek_67 (μ 67) x))) := by
  refine pv_aload_n (i := 0) t_X11_cheek_0 rfl rfl ?_
  refine pv_iconst (v := 0) t_X11_cheek_1 zi_0 ?_
  refine sv_putI ((zhs μ 67 ((upd (μ 67) 0 0)))) t_X11_cheek_2 fl_X11_69 zfn_10_0 hh_67 rfl rfl ?_
  refine pv_iload_n (i := 1) t_X11_cheek_5 rfl rfl ?_
  refine pv_iconst (v := 0) t_X11_cheek_6 zi_0 ?_
  refine pv_sipush (v := 999) t_X11_cheek_7 zs_999 ?_
  refine sv_S3 (a_X11_in x 0 999) ((zhs μ 67 ((upd (μ 67) 0 0)))) t_X11_cheek_10 ml_X11_72 mo_X11_in (Nat.le_of_ble_eq_true rfl) (e_X11_in) (Nat.le_of_ble_eq_true rfl) rfl rfl ?_
  refine pv_if_ne t_X11_cheek_13 (fun c13 => ?_) (fun c13 => ?_)
  · skip
    refine pv_aload_n (i := 0) t_X11_cheek_19 rfl rfl ?_
    refine sv_getI ((μ 67) 26) t_X11_cheek_20 fl_X11_146 hh_67 rfl rfl ?_
    refine pv_iconst (v := 4) t_X11_cheek_23 zi_4 ?_
    refine pv_icmp_ne t_X11_cheek_24 (fun c24 => ?_) (fun c24 => ?_)
    · skip
      have hk3 : kc < 4 := Nat.lt_of_le_of_ne hk4 (fun q => c24 (by rw [hkc, q]; rfl))
      refine pv_aload_n (i := 0) t_X11_cheek_30 rfl rfl ?_
      refine pv_getR t_X11_cheek_31 fl_X11_48 hh_67 rfl ?_
      refine pv_aload_n (i := 0) t_X11_cheek_34 rfl rfl ?_
      refine sv_getI ((μ 67) 26) t_X11_cheek_35 fl_X11_146 hh_67 rfl rfl ?_
      refine pv_iload_n (i := 1) t_X11_cheek_38 rfl rfl ?_
      refine sv_iast ((zhs (zhs μ 67 ((upd (μ 67) 0 0))) 79 ((upd (μ 79) kc x)))) t_X11_cheek_39 hh_79 (ixi (k := kc) hkc (by omega) (by decide)) (by rw [ixc (x := (μ 67) 26) (k := kc) hkc (by omega)] <;> (first | rfl | (congr 1; funext k_; simp only [upd]; ((repeat' split) <;> first | rfl | (simp_all; done))))) ?_
      refine pv_aload_n (i := 0) t_X11_cheek_40 rfl rfl ?_
      refine pv_dup t_X11_cheek_41 ?_
      refine sv_getI ((μ 67) 26) t_X11_cheek_42 fl_X11_146 hh_67 rfl rfl ?_
      refine pv_iconst (v := 1) t_X11_cheek_45 zi_1 ?_
      refine pv_iadd t_X11_cheek_46 ?_
      refine sv_putI ((zhs (zhs μ 79 ((upd (μ 79) kc x))) 67 ((upd (upd (μ 67) 0 0) 26 (((μ 67) 26) + 1))))) t_X11_cheek_47 fl_X11_146 zfn_10_26 hh_67 rfl (by rw [zhs_cm (μ := μ) (a := 67) (b := 79) (by decide), zhs_hs] <;> (first | rfl | (congr 1; funext k_; simp only [upd]; ((repeat' split) <;> first | rfl | (simp_all; done))))) ?_
      refine pv_aload_n (i := 0) t_X11_cheek_50 rfl rfl ?_
      refine sv_getI (((μ 67) 26) + 1) t_X11_cheek_51 fl_X11_146 hh_67 rfl rfl ?_
      exact pv_ireti t_X11_cheek_54 rfl (by unfold a_X11_cheek; rw [if_neg c13, if_neg c24]) (Prod.ext rfl (by have e79 : w_X11_cheek_79 (μ 67) (μ 79) x kc = (upd (μ 79) kc x) := (by unfold w_X11_cheek_79; rw [if_neg c13, if_neg c24]); have e67 : w_X11_cheek_67 (μ 67) x = (upd (upd (μ 67) 0 0) 26 (((μ 67) 26) + 1)) := (by unfold w_X11_cheek_67; rw [if_neg c13, if_neg c24]); show _ = (zhs (zhs μ 79 (w_X11_cheek_79 (μ 67) (μ 79) x kc)) 67 (w_X11_cheek_67 (μ 67) x)); symm; rw [e79, e67]))
    · skip
      refine pv_ldc t_X11_cheek_27 kc_X11_80 ?_
      exact pv_ireti t_X11_cheek_29 rfl (by unfold a_X11_cheek; rw [if_neg c13, if_pos c24]) (Prod.ext rfl (by have e79 : w_X11_cheek_79 (μ 67) (μ 79) x kc = (μ 79) := (by unfold w_X11_cheek_79; rw [if_neg c13, if_pos c24]); have e67 : w_X11_cheek_67 (μ 67) x = (upd (μ 67) 0 0) := (by unfold w_X11_cheek_67; rw [if_neg c13, if_pos c24]); show _ = (zhs (zhs μ 79 (w_X11_cheek_79 (μ 67) (μ 79) x kc)) 67 (w_X11_cheek_67 (μ 67) x)); symm; rw [e79, e67]; rw [zhs_i2 (ν := μ) (k := 79) (g := (μ 79)) rfl]))
  · skip
    refine pv_ldc t_X11_cheek_16 kc_X11_76 ?_
    exact pv_ireti t_X11_cheek_18 rfl (by unfold a_X11_cheek; rw [if_pos c13]) (Prod.ext rfl (by have e79 : w_X11_cheek_79 (μ 67) (μ 79) x kc = (μ 79) := (by unfold w_X11_cheek_79; rw [if_pos c13]); have e67 : w_X11_cheek_67 (μ 67) x = (upd (μ 67) 0 0) := (by unfold w_X11_cheek_67; rw [if_pos c13]); show _ = (zhs (zhs μ 79 (w_X11_cheek_79 (μ 67) (μ 79) x kc)) 67 (w_X11_cheek_67 (μ 67) x)); symm; rw [e79, e67]; rw [zhs_i2 (ν := μ) (k := 79) (g := (μ 79)) rfl]))
def a_X11_write (f67 : Nat → Int32) (x : Int32) : Int32 := (if (a_X11_in x 0 7) = 0 then (if (a_X11_in x 0 9) = 0 then (-1000000002) else (if (f67 28) = 20 then (-1000000004) else (f67 28) + 1)) else (if (a_X11_isCompliment ((upd f67 0 0)) x) = 0 then (-1000000001) else (if (a_X11_in x 0 9) = 0 then (-1000000002) else (if (f67 28) = 20 then (-1000000004) else (f67 28) + 1))))
def w_X11_write_80 (f67 : Nat → Int32) (f80 : Nat → Int32) (x : Int32) (kb : Nat) : Nat → Int32 := (if (a_X11_in x 0 7) = 0 then (if (a_X11_in x 0 9) = 0 then f80 else (if (f67 28) = 20 then f80 else (upd f80 kb x))) else (if (a_X11_isCompliment ((upd f67 0 0)) x) = 0 then f80 else (if (a_X11_in x 0 9) = 0 then f80 else (if (f67 28) = 20 then f80 else (upd f80 kb x)))))
def w_X11_write_67 (f67 : Nat → Int32) (x : Int32) : Nat → Int32 := (if (a_X11_in x 0 7) = 0 then (if (a_X11_in x 0 9) = 0 then (upd f67 0 0) else (if (f67 28) = 20 then (upd f67 0 0) else (upd (upd f67 0 0) 28 ((f67 28) + 1)))) else (if (a_X11_isCompliment ((upd f67 0 0)) x) = 0 then (upd f67 0 0) else (if (a_X11_in x 0 9) = 0 then (upd f67 0 0) else (if (f67 28) = 20 then (upd f67 0 0) else (upd (upd f67 0 0) 28 ((f67 28) + 1))))))
theorem e_X11_write {l : Launch} {X : zX} {d : Nat} {μ : zH} {kb : Nat} {x : Int32} (hkb : μ 67 28 = nI kb) (hb20 : kb ≤ 20) : zRn l X mi_X11_write (d + 5) [.inr 67, .inl (x)] (zSH, μ) (some (.inl (a_X11_write (μ 67) x))) (zSH, (zhs (zhs μ 80 (w_X11_write_80 (μ 67) (μ 80) x kb)) 67 (w_X11_write_67 (μ 67) x))) := by
  refine pv_aload_n (i := 0) t_X11_write_0 rfl rfl ?_
  refine pv_iconst (v := 0) t_X11_write_1 zi_0 ?_
  refine sv_putI ((zhs μ 67 ((upd (μ 67) 0 0)))) t_X11_write_2 fl_X11_69 zfn_10_0 hh_67 rfl rfl ?_
  refine pv_iload_n (i := 1) t_X11_write_5 rfl rfl ?_
  refine pv_iconst (v := 0) t_X11_write_6 zi_0 ?_
  refine pv_bipush (v := 7) t_X11_write_7 zb_7 ?_
  refine sv_S3 (a_X11_in x 0 7) ((zhs μ 67 ((upd (μ 67) 0 0)))) t_X11_write_9 ml_X11_72 mo_X11_in (Nat.le_of_ble_eq_true rfl) (e_X11_in) (Nat.le_of_ble_eq_true rfl) rfl rfl ?_
  refine pv_if_eq t_X11_write_12 (fun c12 => ?_) (fun c12 => ?_)
  · skip
    refine pv_iload_n (i := 1) t_X11_write_26 rfl rfl ?_
    refine pv_iconst (v := 0) t_X11_write_27 zi_0 ?_
    refine pv_bipush (v := 9) t_X11_write_28 zb_9 ?_
    refine sv_S3 (a_X11_in x 0 9) ((zhs μ 67 ((upd (μ 67) 0 0)))) t_X11_write_30 ml_X11_72 mo_X11_in (Nat.le_of_ble_eq_true rfl) (e_X11_in) (Nat.le_of_ble_eq_true rfl) rfl rfl ?_
    refine pv_if_ne t_X11_write_33 (fun c33 => ?_) (fun c33 => ?_)
    · skip
      refine pv_aload_n (i := 0) t_X11_write_39 rfl rfl ?_
      refine sv_getI ((μ 67) 28) t_X11_write_40 fl_X11_149 hh_67 rfl rfl ?_
      refine pv_bipush (v := 20) t_X11_write_43 zb_20 ?_
      refine pv_icmp_ne t_X11_write_45 (fun c45 => ?_) (fun c45 => ?_)
      · skip
        have hk3 : kb < 20 := Nat.lt_of_le_of_ne hb20 (fun q => c45 (by rw [hkb, q]; rfl))
        refine pv_aload_n (i := 0) t_X11_write_51 rfl rfl ?_
        refine pv_getR t_X11_write_52 fl_X11_51 hh_67 rfl ?_
        refine pv_aload_n (i := 0) t_X11_write_55 rfl rfl ?_
        refine sv_getI ((μ 67) 28) t_X11_write_56 fl_X11_149 hh_67 rfl rfl ?_
        refine pv_iload_n (i := 1) t_X11_write_59 rfl rfl ?_
        refine sv_iast ((zhs (zhs μ 67 ((upd (μ 67) 0 0))) 80 ((upd (μ 80) kb x)))) t_X11_write_60 hh_80 (ixi (k := kb) hkb (by omega) (by decide)) (by rw [ixc (x := (μ 67) 28) (k := kb) hkb (by omega)] <;> (first | rfl | (congr 1; funext k_; simp only [upd]; ((repeat' split) <;> first | rfl | (simp_all; done))))) ?_
        refine pv_aload_n (i := 0) t_X11_write_61 rfl rfl ?_
        refine pv_dup t_X11_write_62 ?_
        refine sv_getI ((μ 67) 28) t_X11_write_63 fl_X11_149 hh_67 rfl rfl ?_
        refine pv_iconst (v := 1) t_X11_write_66 zi_1 ?_
        refine pv_iadd t_X11_write_67 ?_
        refine sv_putI ((zhs (zhs μ 80 ((upd (μ 80) kb x))) 67 ((upd (upd (μ 67) 0 0) 28 (((μ 67) 28) + 1))))) t_X11_write_68 fl_X11_149 zfn_10_28 hh_67 rfl (by rw [zhs_cm (μ := μ) (a := 67) (b := 80) (by decide), zhs_hs] <;> (first | rfl | (congr 1; funext k_; simp only [upd]; ((repeat' split) <;> first | rfl | (simp_all; done))))) ?_
        refine pv_aload_n (i := 0) t_X11_write_71 rfl rfl ?_
        refine sv_getI (((μ 67) 28) + 1) t_X11_write_72 fl_X11_149 hh_67 rfl rfl ?_
        exact pv_ireti t_X11_write_75 rfl (by unfold a_X11_write; rw [if_pos c12, if_neg c33, if_neg c45]) (Prod.ext rfl (by have e80 : w_X11_write_80 (μ 67) (μ 80) x kb = (upd (μ 80) kb x) := (by unfold w_X11_write_80; rw [if_pos c12, if_neg c33, if_neg c45]); have e67 : w_X11_write_67 (μ 67) x = (upd (upd (μ 67) 0 0) 28 (((μ 67) 28) + 1)) := (by unfold w_X11_write_67; rw [if_pos c12, if_neg c33, if_neg c45]); show _ = (zhs (zhs μ 80 (w_X11_write_80 (μ 67) (μ 80) x kb)) 67 (w_X11_write_67 (μ 67) x)); symm; rw [e80, e67]))
      · skip
        refine pv_ldc t_X11_write_48 kc_X11_80 ?_
        exact pv_ireti t_X11_write_50 rfl (by unfold a_X11_write; rw [if_pos c12, if_neg c33, if_pos c45]) (Prod.ext rfl (by have e80 : w_X11_write_80 (μ 67) (μ 80) x kb = (μ 80) := (by unfold w_X11_write_80; rw [if_pos c12, if_neg c33, if_pos c45]); have e67 : w_X11_write_67 (μ 67) x = (upd (μ 67) 0 0) := (by unfold w_X11_write_67; rw [if_pos c12, if_neg c33, if_pos c45]); show _ = (zhs (zhs μ 80 (w_X11_write_80 (μ 67) (μ 80) x kb)) 67 (w_X11_write_67 (μ 67) x)); symm; rw [e80, e67]; rw [zhs_i2 (ν := μ) (k := 80) (g := (μ 80)) rfl]))
    · skip
      refine pv_ldc t_X11_write_36 kc_X11_76 ?_
      exact pv_ireti t_X11_write_38 rfl (by unfold a_X11_write; rw [if_pos c12, if_pos c33]) (Prod.ext rfl (by have e80 : w_X11_write_80 (μ 67) (μ 80) x kb = (μ 80) := (by unfold w_X11_write_80; rw [if_pos c12, if_pos c33]); have e67 : w_X11_write_67 (μ 67) x = (upd (μ 67) 0 0) := (by unfold w_X11_write_67; rw [if_pos c12, if_pos c33]); show _ = (zhs (zhs μ 80 (w_X11_write_80 (μ 67) (μ 80) x kb)) 67 (w_X11_write_67 (μ 67) x)); symm; rw [e80, e67]; rw [zhs_i2 (ν := μ) (k := 80) (g := (μ 80)) rfl]))
  · skip
    refine pv_aload_n (i := 0) t_X11_write_15 rfl rfl ?_
    refine pv_iload_n (i := 1) t_X11_write_16 rfl rfl ?_
    refine sv_V1 (a_X11_isCompliment ((upd (μ 67) 0 0)) x) ((zhs μ 67 ((upd (μ 67) 0 0)))) t_X11_write_17 ml_X11_169 mo_X11_isCompliment hh_67 rfl (Nat.le_of_ble_eq_true rfl) (e_X11_isCompliment) (Nat.le_of_ble_eq_true rfl) rfl rfl ?_
    refine pv_if_ne t_X11_write_20 (fun c20 => ?_) (fun c20 => ?_)
    · skip
      refine pv_iload_n (i := 1) t_X11_write_26 rfl rfl ?_
      refine pv_iconst (v := 0) t_X11_write_27 zi_0 ?_
      refine pv_bipush (v := 9) t_X11_write_28 zb_9 ?_
      refine sv_S3 (a_X11_in x 0 9) ((zhs μ 67 ((upd (μ 67) 0 0)))) t_X11_write_30 ml_X11_72 mo_X11_in (Nat.le_of_ble_eq_true rfl) (e_X11_in) (Nat.le_of_ble_eq_true rfl) rfl rfl ?_
      refine pv_if_ne t_X11_write_33 (fun c33 => ?_) (fun c33 => ?_)
      · skip
        refine pv_aload_n (i := 0) t_X11_write_39 rfl rfl ?_
        refine sv_getI ((μ 67) 28) t_X11_write_40 fl_X11_149 hh_67 rfl rfl ?_
        refine pv_bipush (v := 20) t_X11_write_43 zb_20 ?_
        refine pv_icmp_ne t_X11_write_45 (fun c45 => ?_) (fun c45 => ?_)
        · skip
          have hk3 : kb < 20 := Nat.lt_of_le_of_ne hb20 (fun q => c45 (by rw [hkb, q]; rfl))
          refine pv_aload_n (i := 0) t_X11_write_51 rfl rfl ?_
          refine pv_getR t_X11_write_52 fl_X11_51 hh_67 rfl ?_
          refine pv_aload_n (i := 0) t_X11_write_55 rfl rfl ?_
          refine sv_getI ((μ 67) 28) t_X11_write_56 fl_X11_149 hh_67 rfl rfl ?_
          refine pv_iload_n (i := 1) t_X11_write_59 rfl rfl ?_
          refine sv_iast ((zhs (zhs μ 67 ((upd (μ 67) 0 0))) 80 ((upd (μ 80) kb x)))) t_X11_write_60 hh_80 (ixi (k := kb) hkb (by omega) (by decide)) (by rw [ixc (x := (μ 67) 28) (k := kb) hkb (by omega)] <;> (first | rfl | (congr 1; funext k_; simp only [upd]; ((repeat' split) <;> first | rfl | (simp_all; done))))) ?_
          refine pv_aload_n (i := 0) t_X11_write_61 rfl rfl ?_
          refine pv_dup t_X11_write_62 ?_
          refine sv_getI ((μ 67) 28) t_X11_write_63 fl_X11_149 hh_67 rfl rfl ?_
          refine pv_iconst (v := 1) t_X11_write_66 zi_1 ?_
          refine pv_iadd t_X11_write_67 ?_
          refine sv_putI ((zhs (zhs μ 80 ((upd (μ 80) kb x))) 67 ((upd (upd (μ 67) 0 0) 28 (((μ 67) 28) + 1))))) t_X11_write_68 fl_X11_149 zfn_10_28 hh_67 rfl (by rw [zhs_cm (μ := μ) (a := 67) (b := 80) (by decide), zhs_hs] <;> (first | rfl | (congr 1; funext k_; simp only [upd]; ((repeat' split) <;> first | rfl | (simp_all; done))))) ?_
          refine pv_aload_n (i := 0) t_X11_write_71 rfl rfl ?_
          refine sv_getI (((μ 67) 28) + 1) t_X11_write_72 fl_X11_149 hh_67 rfl rfl ?_
          exact pv_ireti t_X11_write_75 rfl (by unfold a_X11_write; rw [if_neg c12, if_neg c20, if_neg c33, if_neg c45]) (Prod.ext rfl (by have e80 : w_X11_write_80 (μ 67) (μ 80) x kb = (upd (μ 80) kb x) := (by unfold w_X11_write_80; rw [if_neg c12, if_neg c20, if_neg c33, if_neg c45]); have e67 : w_X11_write_67 (μ 67) x = (upd (upd (μ 67) 0 0) 28 (((μ 67) 28) + 1)) := (by unfold w_X11_write_67; rw [if_neg c12, if_neg c20, if_neg c33, if_neg c45]); show _ = (zhs (zhs μ 80 (w_X11_write_80 (μ 67) (μ 80) x kb)) 67 (w_X11_write_67 (μ 67) x)); symm; rw [e80, e67]))
        · skip
          refine pv_ldc t_X11_write_48 kc_X11_80 ?_
          exact pv_ireti t_X11_write_50 rfl (by unfold a_X11_write; rw [if_neg c12, if_neg c20, if_neg c33, if_pos c45]) (Prod.ext rfl (by have e80 : w_X11_write_80 (μ 67) (μ 80) x kb = (μ 80) := (by unfold w_X11_write_80; rw [if_neg c12, if_neg c20, if_neg c33, if_pos c45]); have e67 : w_X11_write_67 (μ 67) x = (upd (μ 67) 0 0) := (by unfold w_X11_write_67; rw [if_neg c12, if_neg c20, if_neg c33, if_pos c45]); show _ = (zhs (zhs μ 80 (w_X11_write_80 (μ 67) (μ 80) x kb)) 67 (w_X11_write_67 (μ 67) x)); symm; rw [e80, e67]; rw [zhs_i2 (ν := μ) (k := 80) (g := (μ 80)) rfl]))
      · skip
        refine pv_ldc t_X11_write_36 kc_X11_76 ?_
        exact pv_ireti t_X11_write_38 rfl (by unfold a_X11_write; rw [if_neg c12, if_neg c20, if_pos c33]) (Prod.ext rfl (by have e80 : w_X11_write_80 (μ 67) (μ 80) x kb = (μ 80) := (by unfold w_X11_write_80; rw [if_neg c12, if_neg c20, if_pos c33]); have e67 : w_X11_write_67 (μ 67) x = (upd (μ 67) 0 0) := (by unfold w_X11_write_67; rw [if_neg c12, if_neg c20, if_pos c33]); show _ = (zhs (zhs μ 80 (w_X11_write_80 (μ 67) (μ 80) x kb)) 67 (w_X11_write_67 (μ 67) x)); symm; rw [e80, e67]; rw [zhs_i2 (ν := μ) (k := 80) (g := (μ 80)) rfl]))
    · skip
      refine pv_ldc t_X11_write_23 kc_X11_165 ?_
      exact pv_ireti t_X11_write_25 rfl (by unfold a_X11_write; rw [if_neg c12, if_pos c20]) (Prod.ext rfl (by have e80 : w_X11_write_80 (μ 67) (μ 80) x kb = (μ 80) := (by unfold w_X11_write_80; rw [if_neg c12, if_pos c20]); have e67 : w_X11_write_67 (μ 67) x = (upd (μ 67) 0 0) := (by unfold w_X11_write_67; rw [if_neg c12, if_pos c20]); show _ = (zhs (zhs μ 80 (w_X11_write_80 (μ 67) (μ 80) x kb)) 67 (w_X11_write_67 (μ 67) x)); symm; rw [e80, e67]; rw [zhs_i2 (ν := μ) (k := 80) (g := (μ 80)) rfl]))
def a_X11_warm (f67 : Nat → Int32) (x : Int32) (y : Int32) (t : Int32) (e : Int32) : Int32 := (if (a_X11_isCompliment ((upd f67 0 0)) x) = 0 then (-1000000001) else (if (a_X11_isDuellist ((upd f67 0 0)) y) = 0 then (-1000000001) else (if (a_X11_in t 0 9) = 0 then (-1000000002) else (if (a_X11_in e 0 99) = 0 then (-1000000002) else (if (f67 24) = 12 then (-1000000004) else (f67 24) + 1)))))
def w_X11_warm_78 (f67 : Nat → Int32) (f78 : Nat → Int32) (x : Int32) (y : Int32) (t : Int32) (e : Int32) (kw : Nat) : Nat → Int32 := (if (a_X11_isCompliment ((upd f67 0 0)) x) = 0 then f78 else (if (a_X11_isDuellist ((upd f67 0 0)) y) = 0 then f78 else (if (a_X11_in t 0 9) = 0 then f78 else (if (a_X11_in e 0 99) = 0 then f78 else (if (f67 24) = 12 then f78 else (upd (upd (upd (upd f78 ((4 * kw)) x) (((4 * kw) + 1)) y) (((4 * kw) + 2)) t) (((4 * kw) + 3)) e))))))
def w_X11_warm_67 (f67 : Nat → Int32) (x : Int32) (y : Int32) (t : Int32) (e : Int32) : Nat → Int32 := (if (a_X11_isCompliment ((upd f67 0 0)) x) = 0 then (upd f67 0 0) else (if (a_X11_isDuellist ((upd f67 0 0)) y) = 0 then (upd f67 0 0) else (if (a_X11_in t 0 9) = 0 then (upd f67 0 0) else (if (a_X11_in e 0 99) = 0 then (upd f67 0 0) else (if (f67 24) = 12 then (upd f67 0 0) else (upd (upd f67 0 0) 24 ((f67 24) + 1)))))))
theorem e_X11_warm {l : Launch} {X : zX} {d : Nat} {μ : zH} {kw : Nat} {x : Int32} {y : Int32} {t : Int32} {e : Int32} (hkw : μ 67 24 = nI kw) (hw12 : kw ≤ 12) : zRn l X mi_X11_warm (d + 5) [.inr 67, .inl (x), .inl (y), .inl (t), .inl (e)] (zSH, μ) (some (.inl (a_X11_warm (μ 67) x y t e))) (zSH, (zhs (zhs μ 78 (w_X11_warm_78 (μ 67) (μ 78) x y t e kw)) 67 (w_X11_warm_67 (μ 67) x y t e))) := by
  refine pv_aload_n (i := 0) t_X11_warm_0 rfl rfl ?_
  refine pv_iconst (v := 0) t_X11_warm_1 zi_0 ?_
  refine sv_putI ((zhs μ 67 ((upd (μ 67) 0 0)))) t_X11_warm_2 fl_X11_69 zfn_10_0 hh_67 rfl rfl ?_
  refine pv_aload_n (i := 0) t_X11_warm_5 rfl rfl ?_
  refine pv_iload_n (i := 1) t_X11_warm_6 rfl rfl ?_
  refine sv_V1 (a_X11_isCompliment ((upd (μ 67) 0 0)) x) ((zhs μ 67 ((upd (μ 67) 0 0)))) t_X11_warm_7 ml_X11_169 mo_X11_isCompliment hh_67 rfl (Nat.le_of_ble_eq_true rfl) (e_X11_isCompliment) (Nat.le_of_ble_eq_true rfl) rfl rfl ?_
  refine pv_if_eq t_X11_warm_10 (fun c10 => ?_) (fun c10 => ?_)
  · skip
    refine pv_ldc t_X11_warm_21 kc_X11_165 ?_
    exact pv_ireti t_X11_warm_23 rfl (by unfold a_X11_warm; rw [if_pos c10]) (Prod.ext rfl (by have e78 : w_X11_warm_78 (μ 67) (μ 78) x y t e kw = (μ 78) := (by unfold w_X11_warm_78; rw [if_pos c10]); have e67 : w_X11_warm_67 (μ 67) x y t e = (upd (μ 67) 0 0) := (by unfold w_X11_warm_67; rw [if_pos c10]); show _ = (zhs (zhs μ 78 (w_X11_warm_78 (μ 67) (μ 78) x y t e kw)) 67 (w_X11_warm_67 (μ 67) x y t e)); symm; rw [e78, e67]; rw [zhs_i2 (ν := μ) (k := 78) (g := (μ 78)) rfl]))
  · skip
    refine pv_aload_n (i := 0) t_X11_warm_13 rfl rfl ?_
    refine pv_iload_n (i := 2) t_X11_warm_14 rfl rfl ?_
    refine sv_V1 (a_X11_isDuellist ((upd (μ 67) 0 0)) y) ((zhs μ 67 ((upd (μ 67) 0 0)))) t_X11_warm_15 ml_X11_161 mo_X11_isDuellist hh_67 rfl (Nat.le_of_ble_eq_true rfl) (e_X11_isDuellist) (Nat.le_of_ble_eq_true rfl) rfl rfl ?_
    refine pv_if_ne t_X11_warm_18 (fun c18 => ?_) (fun c18 => ?_)
    · skip
      refine pv_iload_n (i := 3) t_X11_warm_24 rfl rfl ?_
      refine pv_iconst (v := 0) t_X11_warm_25 zi_0 ?_
      refine pv_bipush (v := 9) t_X11_warm_26 zb_9 ?_
      refine sv_S3 (a_X11_in t 0 9) ((zhs μ 67 ((upd (μ 67) 0 0)))) t_X11_warm_28 ml_X11_72 mo_X11_in (Nat.le_of_ble_eq_true rfl) (e_X11_in) (Nat.le_of_ble_eq_true rfl) rfl rfl ?_
      refine pv_if_eq t_X11_warm_31 (fun c31 => ?_) (fun c31 => ?_)
      · skip
        refine pv_ldc t_X11_warm_45 kc_X11_76 ?_
        exact pv_ireti t_X11_warm_47 rfl (by unfold a_X11_warm; rw [if_neg c10, if_neg c18, if_pos c31]) (Prod.ext rfl (by have e78 : w_X11_warm_78 (μ 67) (μ 78) x y t e kw = (μ 78) := (by unfold w_X11_warm_78; rw [if_neg c10, if_neg c18, if_pos c31]); have e67 : w_X11_warm_67 (μ 67) x y t e = (upd (μ 67) 0 0) := (by unfold w_X11_warm_67; rw [if_neg c10, if_neg c18, if_pos c31]); show _ = (zhs (zhs μ 78 (w_X11_warm_78 (μ 67) (μ 78) x y t e kw)) 67 (w_X11_warm_67 (μ 67) x y t e)); symm; rw [e78, e67]; rw [zhs_i2 (ν := μ) (k := 78) (g := (μ 78)) rfl]))
      · skip
        refine pv_iload t_X11_warm_34 rfl ?_
        refine pv_iconst (v := 0) t_X11_warm_36 zi_0 ?_
        refine pv_bipush (v := 99) t_X11_warm_37 zb_99 ?_
        refine sv_S3 (a_X11_in e 0 99) ((zhs μ 67 ((upd (μ 67) 0 0)))) t_X11_warm_39 ml_X11_72 mo_X11_in (Nat.le_of_ble_eq_true rfl) (e_X11_in) (Nat.le_of_ble_eq_true rfl) rfl rfl ?_
        refine pv_if_ne t_X11_warm_42 (fun c42 => ?_) (fun c42 => ?_)
        · skip
          refine pv_aload_n (i := 0) t_X11_warm_48 rfl rfl ?_
          refine sv_getI ((μ 67) 24) t_X11_warm_49 fl_X11_143 hh_67 rfl rfl ?_
          refine pv_bipush (v := 12) t_X11_warm_52 zb_12 ?_
          refine pv_icmp_ne t_X11_warm_54 (fun c54 => ?_) (fun c54 => ?_)
          · skip
            have hk3 : kw < 12 := Nat.lt_of_le_of_ne hw12 (fun q => c54 (by rw [hkw, q]; rfl))
            refine pv_iconst (v := 4) t_X11_warm_60 zi_4 ?_
            refine pv_aload_n (i := 0) t_X11_warm_61 rfl rfl ?_
            refine sv_getI ((μ 67) 24) t_X11_warm_62 fl_X11_143 hh_67 rfl rfl ?_
            refine pv_imul t_X11_warm_65 ?_
            refine pv_istore t_X11_warm_66 (Nat.le_of_ble_eq_true rfl) ?_
            refine pv_aload_n (i := 0) t_X11_warm_68 rfl rfl ?_
            refine pv_getR t_X11_warm_69 fl_X11_45 hh_67 rfl ?_
            refine pv_iload t_X11_warm_72 rfl ?_
            refine pv_iload_n (i := 1) t_X11_warm_74 rfl rfl ?_
            refine sv_iast ((zhs (zhs μ 67 ((upd (μ 67) 0 0))) 78 ((upd (μ 78) ((4 * kw)) x)))) t_X11_warm_75 hh_78 (ixi (k := (4 * kw)) (nIm rfl hkw) (by omega) (by decide)) (by rw [ixc (x := 4 * ((μ 67) 24)) (k := (4 * kw)) (nIm rfl hkw) (by omega)] <;> (first | rfl | (congr 1; funext k_; simp only [upd]; ((repeat' split) <;> first | rfl | (simp_all; done))))) ?_
            refine pv_aload_n (i := 0) t_X11_warm_76 rfl rfl ?_
            refine pv_getR t_X11_warm_77 fl_X11_45 hh_67 rfl ?_
            refine pv_iload t_X11_warm_80 rfl ?_
            refine pv_iconst (v := 1) t_X11_warm_82 zi_1 ?_
            refine pv_iadd t_X11_warm_83 ?_
            refine pv_iload_n (i := 2) t_X11_warm_84 rfl rfl ?_
            refine sv_iast ((zhs (zhs μ 67 ((upd (μ 67) 0 0))) 78 ((upd (upd (μ 78) ((4 * kw)) x) (((4 * kw) + 1)) y)))) t_X11_warm_85 hh_78 (ixi (k := ((4 * kw) + 1)) (nIa (nIm rfl hkw) rfl) (by omega) (by decide)) (by rw [ixc (x := (4 * ((μ 67) 24)) + 1) (k := ((4 * kw) + 1)) (nIa (nIm rfl hkw) rfl) (by omega), zhs_hs] <;> (first | rfl | (congr 1; funext k_; simp only [upd]; ((repeat' split) <;> first | rfl | (simp_all; done))))) ?_
            refine pv_aload_n (i := 0) t_X11_warm_86 rfl rfl ?_
            refine pv_getR t_X11_warm_87 fl_X11_45 hh_67 rfl ?_
            refine pv_iload t_X11_warm_90 rfl ?_
            refine pv_iconst (v := 2) t_X11_warm_92 zi_2 ?_
            refine pv_iadd t_X11_warm_93 ?_
            refine pv_iload_n (i := 3) t_X11_warm_94 rfl rfl ?_
            refine sv_iast ((zhs (zhs μ 67 ((upd (μ 67) 0 0))) 78 ((upd (upd (upd (μ 78) ((4 * kw)) x) (((4 * kw) + 1)) y) (((4 * kw) + 2)) t)))) t_X11_warm_95 hh_78 (ixi (k := ((4 * kw) + 2)) (nIa (nIm rfl hkw) rfl) (by omega) (by decide)) (by rw [ixc (x := (4 * ((μ 67) 24)) + 2) (k := ((4 * kw) + 2)) (nIa (nIm rfl hkw) rfl) (by omega), zhs_hs] <;> (first | rfl | (congr 1; funext k_; simp only [upd]; ((repeat' split) <;> first | rfl | (simp_all; done))))) ?_
            refine pv_aload_n (i := 0) t_X11_warm_96 rfl rfl ?_
            refine pv_getR t_X11_warm_97 fl_X11_45 hh_67 rfl ?_
            refine pv_iload t_X11_warm_100 rfl ?_
            refine pv_iconst (v := 3) t_X11_warm_102 zi_3 ?_
            refine pv_iadd t_X11_warm_103 ?_
            refine pv_iload t_X11_warm_104 rfl ?_
            refine sv_iast ((zhs (zhs μ 67 ((upd (μ 67) 0 0))) 78 ((upd (upd (upd (upd (μ 78) ((4 * kw)) x) (((4 * kw) + 1)) y) (((4 * kw) + 2)) t) (((4 * kw) + 3)) e)))) t_X11_warm_106 hh_78 (ixi (k := ((4 * kw) + 3)) (nIa (nIm rfl hkw) rfl) (by omega) (by decide)) (by rw [ixc (x := (4 * ((μ 67) 24)) + 3) (k := ((4 * kw) + 3)) (nIa (nIm rfl hkw) rfl) (by omega), zhs_hs] <;> (first | rfl | (congr 1; funext k_; simp only [upd]; ((repeat' split) <;> first | rfl | (simp_all; done))))) ?_
            refine pv_aload_n (i := 0) t_X11_warm_107 rfl rfl ?_
            refine pv_dup t_X11_warm_108 ?_
            refine sv_getI ((μ 67) 24) t_X11_warm_109 fl_X11_143 hh_67 rfl rfl ?_
            refine pv_iconst (v := 1) t_X11_warm_112 zi_1 ?_
            refine pv_iadd t_X11_warm_113 ?_
            refine sv_putI ((zhs (zhs μ 78 ((upd (upd (upd (upd (μ 78) ((4 * kw)) x) (((4 * kw) + 1)) y) (((4 * kw) + 2)) t) (((4 * kw) + 3)) e))) 67 ((upd (upd (μ 67) 0 0) 24 (((μ 67) 24) + 1))))) t_X11_warm_114 fl_X11_143 zfn_10_24 hh_67 rfl (by rw [zhs_cm (μ := μ) (a := 67) (b := 78) (by decide), zhs_hs] <;> (first | rfl | (congr 1; funext k_; simp only [upd]; ((repeat' split) <;> first | rfl | (simp_all; done))))) ?_
            refine pv_aload_n (i := 0) t_X11_warm_117 rfl rfl ?_
            refine sv_getI (((μ 67) 24) + 1) t_X11_warm_118 fl_X11_143 hh_67 rfl rfl ?_
            exact pv_ireti t_X11_warm_121 rfl (by unfold a_X11_warm; rw [if_neg c10, if_neg c18, if_neg c31, if_neg c42, if_neg c54]) (Prod.ext rfl (by have e78 : w_X11_warm_78 (μ 67) (μ 78) x y t e kw = (upd (upd (upd (upd (μ 78) ((4 * kw)) x) (((4 * kw) + 1)) y) (((4 * kw) + 2)) t) (((4 * kw) + 3)) e) := (by unfold w_X11_warm_78; rw [if_neg c10, if_neg c18, if_neg c31, if_neg c42, if_neg c54]); have e67 : w_X11_warm_67 (μ 67) x y t e = (upd (upd (μ 67) 0 0) 24 (((μ 67) 24) + 1)) := (by unfold w_X11_warm_67; rw [if_neg c10, if_neg c18, if_neg c31, if_neg c42, if_neg c54]); show _ = (zhs (zhs μ 78 (w_X11_warm_78 (μ 67) (μ 78) x y t e kw)) 67 (w_X11_warm_67 (μ 67) x y t e)); symm; rw [e78, e67]))
          · skip
            refine pv_ldc t_X11_warm_57 kc_X11_80 ?_
            exact pv_ireti t_X11_warm_59 rfl (by unfold a_X11_warm; rw [if_neg c10, if_neg c18, if_neg c31, if_neg c42, if_pos c54]) (Prod.ext rfl (by have e78 : w_X11_warm_78 (μ 67) (μ 78) x y t e kw = (μ 78) := (by unfold w_X11_warm_78; rw [if_neg c10, if_neg c18, if_neg c31, if_neg c42, if_pos c54]); have e67 : w_X11_warm_67 (μ 67) x y t e = (upd (μ 67) 0 0) := (by unfold w_X11_warm_67; rw [if_neg c10, if_neg c18, if_neg c31, if_neg c42, if_pos c54]); show _ = (zhs (zhs μ 78 (w_X11_warm_78 (μ 67) (μ 78) x y t e kw)) 67 (w_X11_warm_67 (μ 67) x y t e)); symm; rw [e78, e67]; rw [zhs_i2 (ν := μ) (k := 78) (g := (μ 78)) rfl]))
        · skip
          refine pv_ldc t_X11_warm_45 kc_X11_76 ?_
          exact pv_ireti t_X11_warm_47 rfl (by unfold a_X11_warm; rw [if_neg c10, if_neg c18, if_neg c31, if_pos c42]) (Prod.ext rfl (by have e78 : w_X11_warm_78 (μ 67) (μ 78) x y t e kw = (μ 78) := (by unfold w_X11_warm_78; rw [if_neg c10, if_neg c18, if_neg c31, if_pos c42]); have e67 : w_X11_warm_67 (μ 67) x y t e = (upd (μ 67) 0 0) := (by unfold w_X11_warm_67; rw [if_neg c10, if_neg c18, if_neg c31, if_pos c42]); show _ = (zhs (zhs μ 78 (w_X11_warm_78 (μ 67) (μ 78) x y t e kw)) 67 (w_X11_warm_67 (μ 67) x y t e)); symm; rw [e78, e67]; rw [zhs_i2 (ν := μ) (k := 78) (g := (μ 78)) rfl]))
    · skip
      refine pv_ldc t_X11_warm_21 kc_X11_165 ?_
      exact pv_ireti t_X11_warm_23 rfl (by unfold a_X11_warm; rw [if_neg c10, if_pos c18]) (Prod.ext rfl (by have e78 : w_X11_warm_78 (μ 67) (μ 78) x y t e kw = (μ 78) := (by unfold w_X11_warm_78; rw [if_neg c10, if_pos c18]); have e67 : w_X11_warm_67 (μ 67) x y t e = (upd (μ 67) 0 0) := (by unfold w_X11_warm_67; rw [if_neg c10, if_pos c18]); show _ = (zhs (zhs μ 78 (w_X11_warm_78 (μ 67) (μ 78) x y t e kw)) 67 (w_X11_warm_67 (μ 67) x y t e)); symm; rw [e78, e67]; rw [zhs_i2 (ν := μ) (k := 78) (g := (μ 78)) rfl]))
def a_X11_draw (f72 : Nat → Int32) (n : Int32) : Int32 := (((((f72 63) * 1103515245) + 12345) &&& 2147483647) / 65536) - (((((f72 63) * 1103515245) + 12345) &&& 2147483647) / 65536) / n * n
def w_X11_draw_72 (f72 : Nat → Int32) : Nat → Int32 := (upd f72 63 ((((f72 63) * 1103515245) + 12345) &&& 2147483647))
theorem e_X11_draw {l : Launch} {X : zX} {d : Nat} {μ : zH} {n : Int32} (hn : ¬ n = 0) : zRn l X mi_X11_draw (d + 1) [.inr 67, .inl (n)] (zSH, μ) (some (.inl (a_X11_draw (μ 72) n))) (zSH, (zhs μ 72 (w_X11_draw_72 (μ 72)))) := by
  refine pv_aload_n (i := 0) t_X11_draw_0 rfl rfl ?_
  refine pv_getR t_X11_draw_1 fl_X11_26 hh_67 rfl ?_
  refine pv_bipush (v := 63) t_X11_draw_4 zb_63 ?_
  refine pv_aload_n (i := 0) t_X11_draw_6 rfl rfl ?_
  refine pv_getR t_X11_draw_7 fl_X11_26 hh_67 rfl ?_
  refine pv_bipush (v := 63) t_X11_draw_10 zb_63 ?_
  refine sv_iald ((μ 72) 63) t_X11_draw_12 (Or.inl hh_72) (zin (by decide)) rfl ?_
  refine pv_ldc t_X11_draw_13 kc_X11_210 ?_
  refine pv_imul t_X11_draw_15 ?_
  refine pv_sipush (v := 12345) t_X11_draw_16 zs_12345 ?_
  refine pv_iadd t_X11_draw_19 ?_
  refine pv_ldc t_X11_draw_20 kc_X11_211 ?_
  refine pv_iand t_X11_draw_22 ?_
  refine sv_iast ((zhs μ 72 ((upd (μ 72) 63 (((((μ 72) 63) * 1103515245) + 12345) &&& 2147483647))))) t_X11_draw_23 hh_72 (zin (by decide)) rfl ?_
  refine pv_aload_n (i := 0) t_X11_draw_24 rfl rfl ?_
  refine pv_getR t_X11_draw_25 fl_X11_26 hh_67 rfl ?_
  refine pv_bipush (v := 63) t_X11_draw_28 zb_63 ?_
  refine sv_iald (((((μ 72) 63) * 1103515245) + 12345) &&& 2147483647) t_X11_draw_30 (Or.inl hh_72) (zin (by decide)) rfl ?_
  refine pv_ldc t_X11_draw_31 kc_X11_212 ?_
  refine pv_idiv t_X11_draw_33 (by decide) ?_
  refine pv_iload_n (i := 1) t_X11_draw_34 rfl rfl ?_
  refine pv_irem t_X11_draw_35 hn ?_
  exact pv_ireti t_X11_draw_36 rfl (by unfold a_X11_draw; rfl) (Prod.ext rfl (by have e72 : w_X11_draw_72 (μ 72) = (upd (μ 72) 63 (((((μ 72) 63) * 1103515245) + 12345) &&& 2147483647)) := (by unfold w_X11_draw_72; rfl); show _ = (zhs μ 72 (w_X11_draw_72 (μ 72))); symm; rw [e72]))
