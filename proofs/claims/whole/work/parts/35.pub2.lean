def grF (f3 f4 f24 f25 f21 : Nat → Int32) (p : Int32) (c : Nat) (s : Int32 × Int32) : Int32 × Int32 := if dUn f21 (nI c) = true ∧ ¬ tru f4 f24 (nI c) p = 0 ∧ s.1 < effS f3 f4 f24 f25 f21 (nI c) p then (effS f3 f4 f24 f25 f21 (nI c) p, nI c) else s
def grS (f3 f4 f24 f25 f21 : Nat → Int32) (p : Int32) : Nat → Int32 × Int32 := zfold (grF f3 f4 f24 f25 f21 p) (-1, -1)
theorem lp_X10_greatest {l : Launch} {X : zX} {d : Nat} {μ : zH} {nc : Nat} (hnc : μ 1 1 = nI nc) (hc8 : nc ≤ 8) {x p : Int32} {r : Option zV} {S' : zS} (hk : zEv l X mi_X10_greatest (d + 6) 137 [(0, .inr 0), (1, .inl x), (2, .inl p), (3, .inl (grS (μ 3) (μ 4) (μ 24) (μ 25) (μ 21) p nc).1), (4, .inl (grS (μ 3) (μ 4) (μ 24) (μ 25) (μ 21) p nc).2), (5, .inl (nI nc))] [] (zSH, μ) 0 0 r S') : ∀ j i : Nat, i + j = nc + 1 → i ≤ nc → ∀ (y m w : Int32), y = nI i → (m, w) = (grS (μ 3) (μ 4) (μ 24) (μ 25) (μ 21) p i) → zEv l X mi_X10_greatest (d + 6) 59 [(0, .inr 0), (1, .inl x), (2, .inl p), (3, .inl m), (4, .inl w), (5, .inl y)] [] (zSH, μ) 0 0 r S' := by
  intro j
  induction j with
  | zero => intro i h h2; omega
  | succ j ih =>
    intro i hij hle y m w hy hs
    subst hy
    refine pv_iload t_X10_greatest_59 rfl ?_
    refine pv_aload_n (i := 0) t_X10_greatest_61 rfl rfl ?_
    refine pv_getR t_X10_greatest_62 fl_X10_10 hh_0 rfl ?_
    refine sv_getI (nI nc) t_X10_greatest_65 fl_X10_112 hh_1 rfl hnc ?_
    refine pv_icmp_ge t_X10_greatest_68 (fun c68 => ?_) (fun c68 => ?_)
    · skip
      have hie : i = nc := by have := (nI_leI (by omega) (by omega)).mp c68; omega
      subst hie
      rw [← hs] at hk
      exact hk
    · skip
      have hin : i < nc := Nat.lt_of_not_le (fun q => c68 (nI_le q (by omega)))
      refine pv_aload_n (i := 0) t_X10_greatest_71 rfl rfl ?_
      refine pv_getR t_X10_greatest_72 fl_X10_28 hh_0 rfl ?_
      refine pv_getR t_X10_greatest_75 fl_X10_109 hh_13 rfl ?_
      refine pv_iload t_X10_greatest_78 rfl ?_
      refine sv_V1 (bz (dUn (μ 21) ((nI i)))) μ t_X10_greatest_80 ml_X10_237 mo_X1_isUnsaid hh_20 rfl (Nat.le_of_ble_eq_true rfl) (e_X1_isUnsaid hD20) (Nat.le_of_ble_eq_true rfl) rfl rfl ?_
      refine pv_if_eq t_X10_greatest_83 (fun c83 => ?_) (fun c83 => ?_)
      · skip
        have hq : ¬ (dUn (μ 21) (nI i) = true ∧ ¬ tru (μ 4) (μ 24) (nI i) p = 0 ∧ m < effS (μ 3) (μ 4) (μ 24) (μ 25) (μ 21) (nI i) p) := fun q => by rw [q.1] at c83; exact absurd c83 (by decide)
        refine pv_iinc (v := 1) t_X10_greatest_131 rfl zi_1 ?_
        refine pv_goto t_X10_greatest_134 ?_
        refine pv_loc (lv' := [(0, _), (1, _), (2, _), (3, _), (4, _), (5, _)]) ⟨rfl, rfl, rfl, rfl, rfl, rfl, trivial⟩ ?_
        refine ih (i + 1) (by omega) (by omega) _ _ _ (nI_1 i) ?_
        rw [show (grS (μ 3) (μ 4) (μ 24) (μ 25) (μ 21) p (i + 1)) = grF (μ 3) (μ 4) (μ 24) (μ 25) (μ 21) p i (grS (μ 3) (μ 4) (μ 24) (μ 25) (μ 21) p i) from rfl, ← hs, grF]
        first | rw [if_pos hq] | rw [if_neg hq]
      · skip
        have z83 := bz_n.mp c83
        refine pv_aload_n (i := 0) t_X10_greatest_86 rfl rfl ?_
        refine pv_getR t_X10_greatest_87 fl_X10_28 hh_0 rfl ?_
        refine pv_getR t_X10_greatest_90 fl_X10_56 hh_13 rfl ?_
        refine pv_iload t_X10_greatest_93 rfl ?_
        refine pv_iload_n (i := 2) t_X10_greatest_95 rfl rfl ?_
        refine sv_V2 (tru (μ 4) (μ 24) ((nI i)) p) μ t_X10_greatest_96 ml_X10_178 mo_X2_truthOf hh_23 rfl (Nat.le_of_ble_eq_true rfl) (e_X2_truthOf hM1 hF23) (Nat.le_of_ble_eq_true rfl) rfl rfl ?_
        refine pv_if_eq t_X10_greatest_99 (fun c99 => ?_) (fun c99 => ?_)
        · skip
          have hq : ¬ (dUn (μ 21) (nI i) = true ∧ ¬ tru (μ 4) (μ 24) (nI i) p = 0 ∧ m < effS (μ 3) (μ 4) (μ 24) (μ 25) (μ 21) (nI i) p) := fun q => q.2.1 c99
          refine pv_iinc (v := 1) t_X10_greatest_131 rfl zi_1 ?_
          refine pv_goto t_X10_greatest_134 ?_
          refine pv_loc (lv' := [(0, _), (1, _), (2, _), (3, _), (4, _), (5, _)]) ⟨rfl, rfl, rfl, rfl, rfl, rfl, trivial⟩ ?_
          refine ih (i + 1) (by omega) (by omega) _ _ _ (nI_1 i) ?_
          rw [show (grS (μ 3) (μ 4) (μ 24) (μ 25) (μ 21) p (i + 1)) = grF (μ 3) (μ 4) (μ 24) (μ 25) (μ 21) p i (grS (μ 3) (μ 4) (μ 24) (μ 25) (μ 21) p i) from rfl, ← hs, grF]
          first | rw [if_pos hq] | rw [if_neg hq]
        · skip
          refine pv_aload_n (i := 0) t_X10_greatest_102 rfl rfl ?_
          refine pv_getR t_X10_greatest_103 fl_X10_28 hh_0 rfl ?_
          refine pv_iload t_X10_greatest_106 rfl ?_
          refine pv_iload_n (i := 2) t_X10_greatest_108 rfl rfl ?_
          refine sv_V2 (effS (μ 3) (μ 4) (μ 24) (μ 25) (μ 21) ((nI i)) p) μ t_X10_greatest_109 ml_X10_181 mo_X9_effectNow hh_13 rfl (Nat.le_of_ble_eq_true rfl) (e_X9_effectNow hM1 hF23 hD20 hL14 hC13) (Nat.le_of_ble_eq_true rfl) rfl rfl ?_
          refine pv_iload_n (i := 3) t_X10_greatest_112 rfl rfl ?_
          refine pv_icmp_le t_X10_greatest_113 (fun c113 => ?_) (fun c113 => ?_)
          · skip
            have hq : ¬ (dUn (μ 21) (nI i) = true ∧ ¬ tru (μ 4) (μ 24) (nI i) p = 0 ∧ m < effS (μ 3) (μ 4) (μ 24) (μ 25) (μ 21) (nI i) p) := fun q => Int32.not_lt.mpr c113 q.2.2
            refine pv_iinc (v := 1) t_X10_greatest_131 rfl zi_1 ?_
            refine pv_goto t_X10_greatest_134 ?_
            refine pv_loc (lv' := [(0, _), (1, _), (2, _), (3, _), (4, _), (5, _)]) ⟨rfl, rfl, rfl, rfl, rfl, rfl, trivial⟩ ?_
            refine ih (i + 1) (by omega) (by omega) _ _ _ (nI_1 i) ?_
            rw [show (grS (μ 3) (μ 4) (μ 24) (μ 25) (μ 21) p (i + 1)) = grF (μ 3) (μ 4) (μ 24) (μ 25) (μ 21) p i (grS (μ 3) (μ 4) (μ 24) (μ 25) (μ 21) p i) from rfl, ← hs, grF]
            first | rw [if_pos hq] | rw [if_neg hq]
          · skip
            have hq : (dUn (μ 21) (nI i) = true ∧ ¬ tru (μ 4) (μ 24) (nI i) p = 0 ∧ m < effS (μ 3) (μ 4) (μ 24) (μ 25) (μ 21) (nI i) p) := ⟨z83, c99, Int32.not_le.mp c113⟩
            refine pv_aload_n (i := 0) t_X10_greatest_116 rfl rfl ?_
            refine pv_getR t_X10_greatest_117 fl_X10_28 hh_0 rfl ?_
            refine pv_iload t_X10_greatest_120 rfl ?_
            refine pv_iload_n (i := 2) t_X10_greatest_122 rfl rfl ?_
            refine sv_V2 (effS (μ 3) (μ 4) (μ 24) (μ 25) (μ 21) ((nI i)) p) μ t_X10_greatest_123 ml_X10_181 mo_X9_effectNow hh_13 rfl (Nat.le_of_ble_eq_true rfl) (e_X9_effectNow hM1 hF23 hD20 hL14 hC13) (Nat.le_of_ble_eq_true rfl) rfl rfl ?_
            refine pv_istore_n (i := 3) t_X10_greatest_126 rfl (Nat.le_of_ble_eq_true rfl) ?_
            refine pv_iload t_X10_greatest_127 rfl ?_
            refine pv_istore t_X10_greatest_129 (Nat.le_of_ble_eq_true rfl) ?_
            refine pv_iinc (v := 1) t_X10_greatest_131 rfl zi_1 ?_
            refine pv_goto t_X10_greatest_134 ?_
            refine pv_loc (lv' := [(0, _), (1, _), (2, _), (3, _), (4, _), (5, _)]) ⟨rfl, rfl, rfl, rfl, rfl, rfl, trivial⟩ ?_
            refine ih (i + 1) (by omega) (by omega) _ _ _ (nI_1 i) ?_
            rw [show (grS (μ 3) (μ 4) (μ 24) (μ 25) (μ 21) p (i + 1)) = grF (μ 3) (μ 4) (μ 24) (μ 25) (μ 21) p i (grS (μ 3) (μ 4) (μ 24) (μ 25) (μ 21) p i) from rfl, ← hs, grF]
            first | rw [if_pos hq] | rw [if_neg hq]
def a_X10_greatest (f3 : Nat → Int32) (f4 : Nat → Int32) (f21 : Nat → Int32) (f24 : Nat → Int32) (f25 : Nat → Int32) (x : Int32) (nc : Nat) : Int32 := (if x < 0 then (-1000000002) else (if x ≤ 1 then (if (bz (dGo f21)) = 0 then (-1000000003) else if x = 0 then (grS f3 f4 f24 f25 f21 (dPer f21 (1 - dSd f21)) nc).2 else (grS f3 f4 f24 f25 f21 (dPer f21 (1 - dSd f21)) nc).1) else (-1000000002)))
theorem e_X10_greatest {l : Launch} {X : zX} {d : Nat} {μ : zH} {nc : Nat} {x : Int32} (hnc : μ 1 1 = nI nc) (hc8 : nc ≤ 8) : zRn l X mi_X10_greatest (d + 8) [.inr 0, .inl (x)] (zSH, μ) (some (.inl (a_X10_greatest (μ 3) (μ 4) (μ 21) (μ 24) (μ 25) x nc))) (zSH, μ) := by
  refine pv_iload_n (i := 1) t_X10_greatest_0 rfl rfl ?_
  refine pv_if_lt t_X10_greatest_1 (fun c1 => ?_) (fun c1 => ?_)
  · skip
    refine pv_ldc t_X10_greatest_9 kc_X10_80 ?_
    exact pv_ireti t_X10_greatest_11 rfl (by unfold a_X10_greatest; rw [if_pos c1]) rfl
  · skip
    refine pv_iload_n (i := 1) t_X10_greatest_4 rfl rfl ?_
    refine pv_iconst (v := 1) t_X10_greatest_5 zi_1 ?_
    refine pv_icmp_le t_X10_greatest_6 (fun c6 => ?_) (fun c6 => ?_)
    · skip
      refine pv_aload_n (i := 0) t_X10_greatest_12 rfl rfl ?_
      refine pv_getR t_X10_greatest_13 fl_X10_28 hh_0 rfl ?_
      refine pv_getR t_X10_greatest_16 fl_X10_109 hh_13 rfl ?_
      refine sv_V0 (bz (dGo (μ 21))) μ t_X10_greatest_19 ml_X10_121 mo_X1_goesOn hh_20 rfl (Nat.le_of_ble_eq_true rfl) (e_X1_goesOn hD20) (Nat.le_of_ble_eq_true rfl) rfl rfl ?_
      refine pv_if_ne t_X10_greatest_22 (fun c22 => ?_) (fun c22 => ?_)
      · skip
        refine pv_aload_n (i := 0) t_X10_greatest_28 rfl rfl ?_
        refine pv_getR t_X10_greatest_29 fl_X10_28 hh_0 rfl ?_
        refine pv_getR t_X10_greatest_32 fl_X10_109 hh_13 rfl ?_
        refine pv_iconst (v := 1) t_X10_greatest_35 zi_1 ?_
        refine pv_aload_n (i := 0) t_X10_greatest_36 rfl rfl ?_
        refine pv_getR t_X10_greatest_37 fl_X10_28 hh_0 rfl ?_
        refine pv_getR t_X10_greatest_40 fl_X10_109 hh_13 rfl ?_
        refine sv_V0 (dSd (μ 21)) μ t_X10_greatest_43 ml_X10_125 mo_X1_side hh_20 rfl (Nat.le_of_ble_eq_true rfl) (e_X1_side hD20) (Nat.le_of_ble_eq_true rfl) rfl rfl ?_
        refine pv_isub t_X10_greatest_46 ?_
        refine sv_V1 (dPer (μ 21) (1 - (dSd (μ 21)))) μ t_X10_greatest_47 ml_X10_115 mo_X1_person hh_20 rfl (Nat.le_of_ble_eq_true rfl) (e_X1_person hD20) (Nat.le_of_ble_eq_true rfl) rfl rfl ?_
        refine pv_istore_n (i := 2) t_X10_greatest_50 rfl (Nat.le_of_ble_eq_true rfl) ?_
        refine pv_iconst (v := -1) t_X10_greatest_51 zi_m1 ?_
        refine pv_istore_n (i := 3) t_X10_greatest_52 rfl (Nat.le_of_ble_eq_true rfl) ?_
        refine pv_iconst (v := -1) t_X10_greatest_53 zi_m1 ?_
        refine pv_istore t_X10_greatest_54 (Nat.le_of_ble_eq_true rfl) ?_
        refine pv_iconst (v := 0) t_X10_greatest_56 zi_0 ?_
        refine pv_istore t_X10_greatest_57 (Nat.le_of_ble_eq_true rfl) ?_
        refine zfin (S1 := (zSH, μ)) (by unfold a_X10_greatest; rw [if_neg c1, if_pos c6, if_neg c22]) rfl ?_
        refine lp_X10_greatest hnc hc8 (p := dPer (μ 21) (1 - dSd (μ 21))) ?_ (nc + 1) 0 (by omega) (by omega) _ _ _ rfl rfl
        refine pv_iload_n (i := 1) t_X10_greatest_137 rfl rfl ?_
        refine pv_if_ne t_X10_greatest_138 (fun c138 => ?_) (fun c138 => ?_)
        · skip
          refine pv_iload_n (i := 3) t_X10_greatest_146 rfl rfl ?_
          first | exact pv_ireti t_X10_greatest_147 rfl (by rw [if_pos c138]) rfl | exact pv_ireti t_X10_greatest_147 rfl (by rw [if_neg c138]) rfl
        · skip
          refine pv_iload t_X10_greatest_141 rfl ?_
          refine pv_goto t_X10_greatest_143 ?_
          first | exact pv_ireti t_X10_greatest_147 rfl (by rw [if_pos c138]) rfl | exact pv_ireti t_X10_greatest_147 rfl (by rw [if_neg c138]) rfl
      · skip
        refine pv_ldc t_X10_greatest_25 kc_X10_195 ?_
        exact pv_ireti t_X10_greatest_27 rfl (by unfold a_X10_greatest; rw [if_neg c1, if_pos c6, if_pos c22]) rfl
    · skip
      refine pv_ldc t_X10_greatest_9 kc_X10_80 ?_
      exact pv_ireti t_X10_greatest_11 rfl (by unfold a_X10_greatest; rw [if_neg c1, if_neg c6]) rfl
def hrS (f3 f4 f24 f25 : Nat → Int32) (e v p : Int32) (nc : Nat) : Nat → Int32 := zfold (fun t a => a + hdS f3 f4 f24 f25 e v (nI t) nc * p * (nI t + 1)) 0
theorem lp_X10_harden {l : Launch} {X : zX} {d : Nat} {μ : zH} {nc : Nat} (hnc : μ 1 1 = nI nc) (hc8 : nc ≤ 8) {x v p t : Int32} : ∀ j i : Nat, i + j = 4 + 1 → i ≤ 4 → ∀ (y s : Int32), y = nI i → s = (hrS (μ 3) (μ 4) (μ 24) (μ 25) x v p nc i) → zEv l X mi_X10_harden (d + 6) 80 [(0, .inr 0), (1, .inl x), (2, .inl v), (3, .inl p), (4, .inl t), (5, .inl s), (6, .inl y)] [] (zSH, μ) 0 0 (some (.inl (hrS (μ 3) (μ 4) (μ 24) (μ 25) x v p nc 4))) (zSH, μ) := by
  intro j
  induction j with
  | zero => intro i h h2; omega
  | succ j ih =>
    intro i hij hle y s hy hs
    subst hy
    refine pv_iload t_X10_harden_80 rfl ?_
    refine pv_iconst (v := 4) t_X10_harden_82 zi_4 ?_
    refine pv_icmp_ge t_X10_harden_83 (fun c83 => ?_) (fun c83 => ?_)
    · skip
      have hie : i = 4 := by have := (nI_leI (a := 4) (by decide) (by omega)).mp c83; omega
      subst hie
      rw [hs]
      exact pv_iload t_X10_harden_118 rfl (pv_ireti t_X10_harden_120 rfl rfl rfl)
    · skip
      have hin : i < 4 := Nat.lt_of_not_le (fun q => c83 (nI_le (a := 4) q (by omega)))
      refine pv_iload t_X10_harden_86 rfl ?_
      refine pv_aload_n (i := 0) t_X10_harden_88 rfl rfl ?_
      refine pv_getR t_X10_harden_89 fl_X10_28 hh_0 rfl ?_
      refine pv_getR t_X10_harden_92 fl_X10_56 hh_13 rfl ?_
      refine pv_iload_n (i := 1) t_X10_harden_95 rfl rfl ?_
      refine pv_iload_n (i := 2) t_X10_harden_96 rfl rfl ?_
      refine pv_iload t_X10_harden_97 rfl ?_
      refine sv_V3 (hdS (μ 3) (μ 4) (μ 24) (μ 25) x v ((nI i)) nc) μ t_X10_harden_99 ml_X10_240 mo_X2_hardenedBy hh_23 rfl (Nat.le_of_ble_eq_true rfl) (e_X2_hardenedBy hM1 hF23 hnc hc8) (Nat.le_of_ble_eq_true rfl) rfl rfl ?_
      refine pv_iload_n (i := 3) t_X10_harden_102 rfl rfl ?_
      refine pv_imul t_X10_harden_103 ?_
      refine pv_iload t_X10_harden_104 rfl ?_
      refine pv_iconst (v := 1) t_X10_harden_106 zi_1 ?_
      refine pv_iadd t_X10_harden_107 ?_
      refine pv_imul t_X10_harden_108 ?_
      refine pv_iadd t_X10_harden_109 ?_
      refine pv_istore t_X10_harden_110 (Nat.le_of_ble_eq_true rfl) ?_
      refine pv_iinc (v := 1) t_X10_harden_112 rfl zi_1 ?_
      refine pv_goto t_X10_harden_115 ?_
      refine pv_loc (lv' := [(0, _), (1, _), (2, _), (3, _), (4, _), (5, _), (6, _)]) ⟨rfl, rfl, rfl, rfl, rfl, rfl, rfl, trivial⟩ ?_
      refine ih (i + 1) (by omega) (by omega) _ _ (nI_1 i) ?_
      subst hs
      rfl
def a_X10_harden (f1 : Nat → Int32) (f3 : Nat → Int32) (f4 : Nat → Int32) (f24 : Nat → Int32) (f25 : Nat → Int32) (x : Int32) (v : Int32) (p : Int32) (t : Int32) (nc : Nat) : Int32 := (if (bz (zib x (f1 0))) = 0 then (-1000000001) else (if v < 1 then (-1000000002) else (if 99 < v then (-1000000002) else (if p < 1 then (-1000000002) else (if 9 < p then (-1000000002) else (if t = ((-1)) then (hrS f3 f4 f24 f25 x v p nc 4) else (if (a_X10_isTopic t) = 0 then (-1000000002) else hdS f3 f4 f24 f25 x v t nc)))))))
theorem e_X10_harden {l : Launch} {X : zX} {d : Nat} {μ : zH} {nc : Nat} {x : Int32} {v : Int32} {p : Int32} {t : Int32} (hnc : μ 1 1 = nI nc) (hc8 : nc ≤ 8) : zRn l X mi_X10_harden (d + 6) [.inr 0, .inl (x), .inl (v), .inl (p), .inl (t)] (zSH, μ) (some (.inl (a_X10_harden (μ 1) (μ 3) (μ 4) (μ 24) (μ 25) x v p t nc))) (zSH, μ) := by
  refine pv_aload_n (i := 0) t_X10_harden_0 rfl rfl ?_
  refine pv_getR t_X10_harden_1 fl_X10_10 hh_0 rfl ?_
  refine pv_iload_n (i := 1) t_X10_harden_4 rfl rfl ?_
  refine sv_V1 (bz (zib x ((μ 1) 0))) μ t_X10_harden_5 ml_X10_137 mo_X4_hasPerson hh_1 rfl (Nat.le_of_ble_eq_true rfl) (e_X4_hasPerson hM1) (Nat.le_of_ble_eq_true rfl) rfl rfl ?_
  refine pv_if_ne t_X10_harden_8 (fun c8 => ?_) (fun c8 => ?_)
  · skip
    refine pv_iload_n (i := 2) t_X10_harden_14 rfl rfl ?_
    refine pv_iconst (v := 1) t_X10_harden_15 zi_1 ?_
    refine pv_icmp_lt t_X10_harden_16 (fun c16 => ?_) (fun c16 => ?_)
    · skip
      refine pv_ldc t_X10_harden_50 kc_X10_80 ?_
      exact pv_ireti t_X10_harden_52 rfl (by unfold a_X10_harden; rw [if_neg c8, if_pos c16]) rfl
    · skip
      refine pv_iload_n (i := 2) t_X10_harden_19 rfl rfl ?_
      refine pv_bipush (v := 99) t_X10_harden_20 zb_99 ?_
      refine pv_icmp_gt t_X10_harden_22 (fun c22 => ?_) (fun c22 => ?_)
      · skip
        refine pv_ldc t_X10_harden_50 kc_X10_80 ?_
        exact pv_ireti t_X10_harden_52 rfl (by unfold a_X10_harden; rw [if_neg c8, if_neg c16, if_pos c22]) rfl
      · skip
        refine pv_iload_n (i := 3) t_X10_harden_25 rfl rfl ?_
        refine pv_iconst (v := 1) t_X10_harden_26 zi_1 ?_
        refine pv_icmp_lt t_X10_harden_27 (fun c27 => ?_) (fun c27 => ?_)
        · skip
          refine pv_ldc t_X10_harden_50 kc_X10_80 ?_
          exact pv_ireti t_X10_harden_52 rfl (by unfold a_X10_harden; rw [if_neg c8, if_neg c16, if_neg c22, if_pos c27]) rfl
        · skip
          refine pv_iload_n (i := 3) t_X10_harden_30 rfl rfl ?_
          refine pv_bipush (v := 9) t_X10_harden_31 zb_9 ?_
          refine pv_icmp_gt t_X10_harden_33 (fun c33 => ?_) (fun c33 => ?_)
          · skip
            refine pv_ldc t_X10_harden_50 kc_X10_80 ?_
            exact pv_ireti t_X10_harden_52 rfl (by unfold a_X10_harden; rw [if_neg c8, if_neg c16, if_neg c22, if_neg c27, if_pos c33]) rfl
          · skip
            refine pv_iload t_X10_harden_36 rfl ?_
            refine pv_iconst (v := -1) t_X10_harden_38 zi_m1 ?_
            refine pv_icmp_eq t_X10_harden_39 (fun c39 => ?_) (fun c39 => ?_)
            · skip
              refine pv_iload t_X10_harden_53 rfl ?_
              refine pv_iconst (v := -1) t_X10_harden_55 zi_m1 ?_
              refine pv_icmp_eq t_X10_harden_56 (fun c56 => ?_) (fun c56 => absurd c39 c56)
              refine pv_iconst (v := 0) t_X10_harden_74 zi_0 ?_
              refine pv_istore t_X10_harden_75 (Nat.le_of_ble_eq_true rfl) ?_
              refine pv_iconst (v := 0) t_X10_harden_77 zi_0 ?_
              refine pv_istore t_X10_harden_78 (Nat.le_of_ble_eq_true rfl) ?_
              refine zfin (S1 := (zSH, μ)) (by unfold a_X10_harden; rw [if_neg c8, if_neg c16, if_neg c22, if_neg c27, if_neg c33, if_pos c39]) rfl ?_
              exact lp_X10_harden hnc hc8 5 0 (by omega) (by omega) _ _ rfl rfl
            · skip
              refine pv_iload t_X10_harden_42 rfl ?_
              refine sv_S1 (a_X10_isTopic t) μ t_X10_harden_44 ml_X10_216 mo_X10_isTopic (Nat.le_of_ble_eq_true rfl) (e_X10_isTopic) (Nat.le_of_ble_eq_true rfl) rfl rfl ?_
              refine pv_if_ne t_X10_harden_47 (fun c47 => ?_) (fun c47 => ?_)
              · skip
                refine pv_iload t_X10_harden_53 rfl ?_
                refine pv_iconst (v := -1) t_X10_harden_55 zi_m1 ?_
                refine pv_icmp_eq t_X10_harden_56 (fun c56 => absurd c56 c39) (fun c56 => ?_)
                refine pv_aload_n (i := 0) t_X10_harden_59 rfl rfl ?_
                refine pv_getR t_X10_harden_60 fl_X10_28 hh_0 rfl ?_
                refine pv_getR t_X10_harden_63 fl_X10_56 hh_13 rfl ?_
                refine pv_iload_n (i := 1) t_X10_harden_66 rfl rfl ?_
                refine pv_iload_n (i := 2) t_X10_harden_67 rfl rfl ?_
                refine pv_iload t_X10_harden_68 rfl ?_
                refine sv_V3 (hdS (μ 3) (μ 4) (μ 24) (μ 25) x v t nc) μ t_X10_harden_70 ml_X10_240 mo_X2_hardenedBy hh_23 rfl (Nat.le_of_ble_eq_true rfl) (e_X2_hardenedBy hM1 hF23 hnc hc8) (Nat.le_of_ble_eq_true rfl) rfl rfl ?_
                exact pv_ireti t_X10_harden_73 rfl (by unfold a_X10_harden; rw [if_neg c8, if_neg c16, if_neg c22, if_neg c27, if_neg c33, if_neg c39, if_neg c47]) rfl
              · skip
                refine pv_ldc t_X10_harden_50 kc_X10_80 ?_
                exact pv_ireti t_X10_harden_52 rfl (by unfold a_X10_harden; rw [if_neg c8, if_neg c16, if_neg c22, if_neg c27, if_neg c33, if_neg c39, if_pos c47]) rfl
  · skip
    refine pv_ldc t_X10_harden_11 kc_X10_141 ?_
    exact pv_ireti t_X10_harden_13 rfl (by unfold a_X10_harden; rw [if_pos c8]) rfl
def shS (f3 f4 f24 f25 : Nat → Int32) (c z : Int32) (np : Nat) : Nat → Int32 := fun n => zfold (fun e a => if 0 < bc z ∧ (z >>> (nI e &&& 31)) &&& 1 = 1 then a + effN f3 f4 f24 f25 c (nI e) 0 / bc z else a) 0 n
theorem shS_stop {f3 f4 f24 f25 : Nat → Int32} {c z : Int32} {np : Nat} (h : bc z ≤ 0) {i n : Nat} (hi : i ≤ n) : shS f3 f4 f24 f25 c z np i = shS f3 f4 f24 f25 c z np n := by
  obtain ⟨k, rfl⟩ : ∃ k, n = i + k := ⟨n - i, by omega⟩
  clear hi
  induction k with
  | zero => rfl
  | succ k ih =>
    rw [ih]
    show _ = if 0 < bc z ∧ _ then _ else shS f3 f4 f24 f25 c z np (i + k)
    rw [if_neg (fun q => Int32.not_lt.mpr h q.1)]
theorem lp_X10_shared {l : Launch} {X : zX} {d : Nat} {μ : zH} {np : Nat} (hnp : μ 1 0 = nI np) (hp4 : np ≤ 4) {x z : Int32} : ∀ j i : Nat, i + j = np + 1 → i ≤ np → ∀ (y s : Int32), y = nI i → s = (shS (μ 3) (μ 4) (μ 24) (μ 25) x z np i) → zEv l X mi_X10_shared (d + 6) 42 [(0, .inr 0), (1, .inl x), (2, .inl z), (3, .inl (bc z)), (4, .inl s), (5, .inl y)] [] (zSH, μ) 0 0 (some (.inl (shS (μ 3) (μ 4) (μ 24) (μ 25) x z np np))) (zSH, μ) := by
  intro j
  induction j with
  | zero => intro i h h2; omega
  | succ j ih =>
    intro i hij hle y s hy hs
    subst hy
    refine pv_iload t_X10_shared_42 rfl ?_
    refine pv_aload_n (i := 0) t_X10_shared_44 rfl rfl ?_
    refine pv_getR t_X10_shared_45 fl_X10_10 hh_0 rfl ?_
    refine sv_getI (nI np) t_X10_shared_48 fl_X10_106 hh_1 rfl hnp ?_
    refine pv_icmp_ge t_X10_shared_51 (fun c51 => ?_) (fun c51 => ?_)
    · skip
      have hie : i = np := by have := (nI_leI (by omega) (by omega)).mp c51; omega
      subst hie
      first | rw [hst] | rw [hs]
      exact pv_iload t_X10_shared_95 rfl (pv_ireti t_X10_shared_97 rfl rfl rfl)
    · skip
      have hin : i < np := Nat.lt_of_not_le (fun q => c51 (nI_le q (by omega)))
      refine pv_iload_n (i := 3) t_X10_shared_54 rfl rfl ?_
      refine pv_if_le t_X10_shared_55 (fun c55 => ?_) (fun c55 => ?_)
      · skip
        have hst : s = (shS (μ 3) (μ 4) (μ 24) (μ 25) x z np np) := hs.trans (shS_stop c55 hle)
        first | rw [hst] | rw [hs]
        exact pv_iload t_X10_shared_95 rfl (pv_ireti t_X10_shared_97 rfl rfl rfl)
      · skip
        refine pv_iload_n (i := 2) t_X10_shared_58 rfl rfl ?_
        refine pv_iload t_X10_shared_59 rfl ?_
        refine pv_ishr t_X10_shared_61 ?_
        refine pv_iconst (v := 1) t_X10_shared_62 zi_1 ?_
        refine pv_iand t_X10_shared_63 ?_
        refine pv_iconst (v := 1) t_X10_shared_64 zi_1 ?_
        refine pv_icmp_ne t_X10_shared_65 (fun c65 => ?_) (fun c65 => ?_)
        · skip
          have hq : ¬ (0 < bc z ∧ (z >>> (nI i &&& 31)) &&& 1 = 1) := fun q => c65 q.2
          refine pv_iinc (v := 1) t_X10_shared_89 rfl zi_1 ?_
          refine pv_goto t_X10_shared_92 ?_
          refine pv_loc (lv' := [(0, _), (1, _), (2, _), (3, _), (4, _), (5, _)]) ⟨rfl, rfl, rfl, rfl, rfl, rfl, trivial⟩ ?_
          refine ih (i + 1) (by omega) (by omega) _ _ (nI_1 i) ?_
          subst hs
          rw [show (shS (μ 3) (μ 4) (μ 24) (μ 25) x z np (i + 1)) = if (0 < bc z ∧ (z >>> (nI i &&& 31)) &&& 1 = 1) then (shS (μ 3) (μ 4) (μ 24) (μ 25) x z np i) + effN (μ 3) (μ 4) (μ 24) (μ 25) x (nI i) 0 / bc z else (shS (μ 3) (μ 4) (μ 24) (μ 25) x z np i) from rfl]
          first | rw [if_pos hq] | rw [if_neg hq]
        · skip
          have hq : (0 < bc z ∧ (z >>> (nI i &&& 31)) &&& 1 = 1) := ⟨Int32.not_le.mp c55, c65⟩
          refine pv_iload t_X10_shared_68 rfl ?_
          refine pv_aload_n (i := 0) t_X10_shared_70 rfl rfl ?_
          refine pv_getR t_X10_shared_71 fl_X10_28 hh_0 rfl ?_
          refine pv_getR t_X10_shared_74 fl_X10_56 hh_13 rfl ?_
          refine pv_iload_n (i := 1) t_X10_shared_77 rfl rfl ?_
          refine pv_iload t_X10_shared_78 rfl ?_
          refine pv_iconst (v := 0) t_X10_shared_80 zi_0 ?_
          refine sv_V3 (effN (μ 3) (μ 4) (μ 24) (μ 25) x ((nI i)) 0) μ t_X10_shared_81 ml_X10_258 mo_X2_effectOn hh_23 rfl (Nat.le_of_ble_eq_true rfl) (e_X2_effectOn hM1 hF23) (Nat.le_of_ble_eq_true rfl) rfl rfl ?_
          refine pv_iload_n (i := 3) t_X10_shared_84 rfl rfl ?_
          refine pv_idiv t_X10_shared_85 (fun q => c55 (by rw [q]; decide)) ?_
          refine pv_iadd t_X10_shared_86 ?_
          refine pv_istore t_X10_shared_87 (Nat.le_of_ble_eq_true rfl) ?_
          refine pv_iinc (v := 1) t_X10_shared_89 rfl zi_1 ?_
          refine pv_goto t_X10_shared_92 ?_
          refine pv_loc (lv' := [(0, _), (1, _), (2, _), (3, _), (4, _), (5, _)]) ⟨rfl, rfl, rfl, rfl, rfl, rfl, trivial⟩ ?_
          refine ih (i + 1) (by omega) (by omega) _ _ (nI_1 i) ?_
          subst hs
          rw [show (shS (μ 3) (μ 4) (μ 24) (μ 25) x z np (i + 1)) = if (0 < bc z ∧ (z >>> (nI i &&& 31)) &&& 1 = 1) then (shS (μ 3) (μ 4) (μ 24) (μ 25) x z np i) + effN (μ 3) (μ 4) (μ 24) (μ 25) x (nI i) 0 / bc z else (shS (μ 3) (μ 4) (μ 24) (μ 25) x z np i) from rfl]
          first | rw [if_pos hq] | rw [if_neg hq]
def a_X10_shared (f1 : Nat → Int32) (f3 : Nat → Int32) (f4 : Nat → Int32) (f24 : Nat → Int32) (f25 : Nat → Int32) (x : Int32) (z : Int32) (np : Nat) : Int32 := (if (bz (zib x (f1 1))) = 0 then (-1000000001) else (if z < 0 then (-1000000001) else (if z < (1 <<< ((f1 0) &&& 31)) then (shS f3 f4 f24 f25 x z np np) else (-1000000001))))
theorem e_X10_shared {l : Launch} {X : zX} {d : Nat} {μ : zH} {np : Nat} {x : Int32} {z : Int32} (hnp : μ 1 0 = nI np) (hp4 : np ≤ 4) : zRn l X mi_X10_shared (d + 6) [.inr 0, .inl (x), .inl (z)] (zSH, μ) (some (.inl (a_X10_shared (μ 1) (μ 3) (μ 4) (μ 24) (μ 25) x z np))) (zSH, μ) := by
  refine pv_aload_n (i := 0) t_X10_shared_0 rfl rfl ?_
  refine pv_getR t_X10_shared_1 fl_X10_10 hh_0 rfl ?_
  refine pv_iload_n (i := 1) t_X10_shared_4 rfl rfl ?_
  refine sv_V1 (bz (zib x ((μ 1) 1))) μ t_X10_shared_5 ml_X10_172 mo_X4_hasPhrase hh_1 rfl (Nat.le_of_ble_eq_true rfl) (e_X4_hasPhrase hM1) (Nat.le_of_ble_eq_true rfl) rfl rfl ?_
  refine pv_if_eq t_X10_shared_8 (fun c8 => ?_) (fun c8 => ?_)
  · skip
    refine pv_ldc t_X10_shared_28 kc_X10_141 ?_
    exact pv_ireti t_X10_shared_30 rfl (by unfold a_X10_shared; rw [if_pos c8]) rfl
  · skip
    refine pv_iload_n (i := 2) t_X10_shared_11 rfl rfl ?_
    refine pv_if_lt t_X10_shared_12 (fun c12 => ?_) (fun c12 => ?_)
    · skip
      refine pv_ldc t_X10_shared_28 kc_X10_141 ?_
      exact pv_ireti t_X10_shared_30 rfl (by unfold a_X10_shared; rw [if_neg c8, if_pos c12]) rfl
    · skip
      refine pv_iload_n (i := 2) t_X10_shared_15 rfl rfl ?_
      refine pv_iconst (v := 1) t_X10_shared_16 zi_1 ?_
      refine pv_aload_n (i := 0) t_X10_shared_17 rfl rfl ?_
      refine pv_getR t_X10_shared_18 fl_X10_10 hh_0 rfl ?_
      refine sv_getI ((μ 1) 0) t_X10_shared_21 fl_X10_106 hh_1 rfl rfl ?_
      refine pv_ishl t_X10_shared_24 ?_
      refine pv_icmp_lt t_X10_shared_25 (fun c25 => ?_) (fun c25 => ?_)
      · skip
        refine pv_iload_n (i := 2) t_X10_shared_31 rfl rfl ?_
        refine sv_S1 (bc z) μ t_X10_shared_32 ml_X10_247 mo_J_bitCount (Nat.le_of_ble_eq_true rfl) e_J_bitCount (Nat.le_of_ble_eq_true rfl) rfl rfl ?_
        refine pv_istore_n (i := 3) t_X10_shared_35 rfl (Nat.le_of_ble_eq_true rfl) ?_
        refine pv_iconst (v := 0) t_X10_shared_36 zi_0 ?_
        refine pv_istore t_X10_shared_37 (Nat.le_of_ble_eq_true rfl) ?_
        refine pv_iconst (v := 0) t_X10_shared_39 zi_0 ?_
        refine pv_istore t_X10_shared_40 (Nat.le_of_ble_eq_true rfl) ?_
        refine zfin (S1 := (zSH, μ)) (by unfold a_X10_shared; rw [if_neg c8, if_neg c12, if_pos c25]) rfl ?_
        exact lp_X10_shared hnp hp4 (np + 1) 0 (by omega) (by omega) _ _ rfl rfl
      · skip
        refine pv_ldc t_X10_shared_28 kc_X10_141 ?_
        exact pv_ireti t_X10_shared_30 rfl (by unfold a_X10_shared; rw [if_neg c8, if_neg c12, if_neg c25]) rfl
