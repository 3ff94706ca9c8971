theorem hM1 : oM zSH 1 2 3 4 5 := ⟨hh_1, hh_2, hh_3, hh_4, hh_5⟩
theorem hM7 : oM zSH 7 8 9 10 11 := ⟨hh_7, hh_8, hh_9, hh_10, hh_11⟩
theorem hR6 : oR zSH 6 7 12 := ⟨hh_6, hh_12⟩
theorem hF23 : oF zSH 23 1 24 25 := ⟨hh_23, hh_24, hh_25⟩
theorem hD20 : oD zSH 20 21 22 := ⟨hh_20, hh_21, hh_22⟩
theorem hD59 : oD zSH 59 60 61 := ⟨hh_59, hh_60, hh_61⟩
theorem hL14 : oL zSH 14 15 16 17 18 19 := ⟨hh_14, hh_15, hh_16, hh_17, hh_18, hh_19, by decide, by decide⟩
theorem hC13 : oC zSH 13 23 14 20 := hh_13
theorem hN54 : oN zSH 54 55 56 57 58 := ⟨hh_54, hh_55, hh_56, hh_57, hh_58⟩
theorem hBS : oBS zSH 62 59 23 1 := hh_62
theorem hRS : oRS zSH 63 23 54 64 65 66 24 56 := ⟨hh_63, hh_64, hh_65, hh_66, by decide, by decide, by decide⟩
theorem hZ13 : oZ zSH 13 1 := ⟨hC13, hL14, hD20, hF23⟩
theorem hZ27 : oZ zSH 27 1 := ⟨hh_27, ⟨hh_28, hh_29, hh_30, hh_31, hh_32, hh_33, by decide, by decide⟩, ⟨hh_34, hh_35, hh_36⟩, ⟨hh_37, hh_38, hh_39⟩⟩
theorem hZ40 : oZ zSH 40 1 := ⟨hh_40, ⟨hh_41, hh_42, hh_43, hh_44, hh_45, hh_46, by decide, by decide⟩, ⟨hh_47, hh_48, hh_49⟩, ⟨hh_50, hh_51, hh_52⟩⟩
def plN (f2 f3 f4 f24 f25 f21 : Nat → Int32) (z : Int32) : Nat → Int32 := dPl f2 f3 f4 f24 f25 f21 z
def pt15 (f2 f3 f4 f24 f25 f21 f15 : Nat → Int32) (z : Int32) : Nat → Int32 := if cell (plN f2 f3 f4 f24 f25 f21 z) 2 = 0 then f15 else lcP f15 (dPer (plN f2 f3 f4 f24 f25 f21 z) 0) (dPer (plN f2 f3 f4 f24 f25 f21 z) 1) (cell (plN f2 f3 f4 f24 f25 f21 z) 2)
def pt16 (f2 f3 f4 f24 f25 f21 f16 : Nat → Int32) (z : Int32) : Nat → Int32 := if cell (plN f2 f3 f4 f24 f25 f21 z) 2 = 0 then f16 else lcM f16 (dPer (plN f2 f3 f4 f24 f25 f21 z) 0) (dPer (plN f2 f3 f4 f24 f25 f21 z) 1)
def pt17 (f2 f3 f4 f24 f25 f21 f16 f17 : Nat → Int32) (z : Int32) : Nat → Int32 := if cell (plN f2 f3 f4 f24 f25 f21 z) 2 = 0 then f17 else lcL f17 f16 (dPer (plN f2 f3 f4 f24 f25 f21 z) 0) (dPer (plN f2 f3 f4 f24 f25 f21 z) 1) (cell (plN f2 f3 f4 f24 f25 f21 z) 2)
theorem e_turn {l : Launch} {X : zX} {d : Nat} {μ : zH} {z : Int32} : zRn l X mi_X9_playTurn (d + 5) [.inr 13, .inl z] (zSH, μ) (some (.inl (cell (plN (μ 2) (μ 3) (μ 4) (μ 24) (μ 25) (μ 21) z) 2))) (zSH, zhs (zhs (zhs (zhs (zhs μ 22 (dRem (μ 21) (μ 22))) 21 (plN (μ 2) (μ 3) (μ 4) (μ 24) (μ 25) (μ 21) z)) 17 (pt17 (μ 2) (μ 3) (μ 4) (μ 24) (μ 25) (μ 21) (μ 16) (μ 17) z)) 16 (pt16 (μ 2) (μ 3) (μ 4) (μ 24) (μ 25) (μ 21) (μ 16) z)) 15 (pt15 (μ 2) (μ 3) (μ 4) (μ 24) (μ 25) (μ 21) (μ 15) z)) := by
  have h := e_X9_playTurn (l := l) (X := X) (d := d) (μ := μ) (z := z) hM1 hF23 hD20 hL14 hC13
  have e : ptM μ 2 3 4 24 25 21 22 17 16 15 z = zhs (zhs (zhs (zhs (zhs μ 22 (dRem (μ 21) (μ 22))) 21 (plN (μ 2) (μ 3) (μ 4) (μ 24) (μ 25) (μ 21) z)) 17 (pt17 (μ 2) (μ 3) (μ 4) (μ 24) (μ 25) (μ 21) (μ 16) (μ 17) z)) 16 (pt16 (μ 2) (μ 3) (μ 4) (μ 24) (μ 25) (μ 21) (μ 16) z)) 15 (pt15 (μ 2) (μ 3) (μ 4) (μ 24) (μ 25) (μ 21) (μ 15) z) := by
    have e0 : plC μ 2 3 4 24 25 21 z = plN (μ 2) (μ 3) (μ 4) (μ 24) (μ 25) (μ 21) z := rfl
    simp only [ptM, e0, pt15, pt16, pt17]
    by_cases hc : cell (plN (μ 2) (μ 3) (μ 4) (μ 24) (μ 25) (μ 21) z) 2 = 0
    · simp only [if_pos hc, plM, e0]
      funext a
      simp only [zhs]
      repeat' split
      all_goals simp_all
    · simp only [if_neg hc, cntM, plM, e0]
      simp (disch := decide) only [zhs_d]
  rw [e] at h
  exact h
def tb16 (f21 f16 : Nat → Int32) : Nat → Int32 := if cell f21 2 = 0 then f16 else luM f16 (dPer f21 0) (dPer f21 1)
def tb15 (f21 f15 : Nat → Int32) : Nat → Int32 := if cell f21 2 = 0 then f15 else luP f15 (dPer f21 0) (dPer f21 1) (cell f21 2)
theorem e_tback {l : Launch} {X : zX} {d : Nat} {μ : zH} {n : Int32} : zRn l X mi_X9_takeBack (d + 4) [.inr 13, .inl n] (zSH, μ) none (zSH, zhs (zhs (zhs μ 16 (tb16 (μ 21) (μ 16))) 15 (tb15 (μ 21) (μ 15))) 21 (dTB (μ 21) (μ 22) n)) := by
  have h := e_X9_takeBack (l := l) (X := X) (d := d) (μ := μ) (n := n) hM1 hF23 hD20 hL14 hC13
  have e : (if cell (μ 21) 2 = 0 then μ else uncM μ 16 15 (dPer (μ 21) 0) (dPer (μ 21) 1) (cell (μ 21) 2)) = zhs (zhs μ 16 (tb16 (μ 21) (μ 16))) 15 (tb15 (μ 21) (μ 15)) := by
    unfold tb16 tb15 uncM
    split
    · rw [zhs_id, zhs_id]
    · rfl
  rw [e] at h
  exact h
def a_X10_isTopic (x : Int32) : Int32 := (if x < 0 then 0 else (if 4 ≤ x then 0 else 1))
theorem e_X10_isTopic {l : Launch} {X : zX} {d : Nat} {μ : zH} {x : Int32} : zRn l X mi_X10_isTopic (d + 1) [.inl (x)] (zSH, μ) (some (.inl (a_X10_isTopic x))) (zSH, μ) := by
  refine pv_iload_n (i := 0) t_X10_isTopic_0 rfl rfl ?_
  refine pv_if_lt t_X10_isTopic_1 (fun c1 => ?_) (fun c1 => ?_)
  · skip
    refine pv_iconst (v := 0) t_X10_isTopic_13 zi_0 ?_
    exact pv_iretz t_X10_isTopic_14 rfl ⟨(by unfold a_X10_isTopic; rw [if_pos c1]), (by unfold a_X10_isTopic; rw [if_pos c1]; decide)⟩ rfl
  · skip
    refine pv_iload_n (i := 0) t_X10_isTopic_4 rfl rfl ?_
    refine pv_iconst (v := 4) t_X10_isTopic_5 zi_4 ?_
    refine pv_icmp_ge t_X10_isTopic_6 (fun c6 => ?_) (fun c6 => ?_)
    · skip
      refine pv_iconst (v := 0) t_X10_isTopic_13 zi_0 ?_
      exact pv_iretz t_X10_isTopic_14 rfl ⟨(by unfold a_X10_isTopic; rw [if_neg c1, if_pos c6]), (by unfold a_X10_isTopic; rw [if_neg c1, if_pos c6]; decide)⟩ rfl
    · skip
      refine pv_iconst (v := 1) t_X10_isTopic_9 zi_1 ?_
      refine pv_goto t_X10_isTopic_10 ?_
      exact pv_iretz t_X10_isTopic_14 rfl ⟨(by unfold a_X10_isTopic; rw [if_neg c1, if_neg c6]), (by unfold a_X10_isTopic; rw [if_neg c1, if_neg c6]; decide)⟩ rfl
def a_X10_areTwo (f1 : Nat → Int32) (x : Int32) (y : Int32) : Int32 := (if (bz (zib x (f1 0))) = 0 then 0 else (if (bz (zib y (f1 0))) = 0 then 0 else (if x = y then 0 else 1)))
theorem e_X10_areTwo {l : Launch} {X : zX} {d : Nat} {μ : zH} {x : Int32} {y : Int32} : zRn l X mi_X10_areTwo (d + 1) [.inr 0, .inl (x), .inl (y)] (zSH, μ) (some (.inl (a_X10_areTwo (μ 1) x y))) (zSH, μ) := by
  refine pv_aload_n (i := 0) t_X10_areTwo_0 rfl rfl ?_
  refine pv_getR t_X10_areTwo_1 fl_X10_10 hh_0 rfl ?_
  refine pv_iload_n (i := 1) t_X10_areTwo_4 rfl rfl ?_
  refine sv_V1 (bz (zib x ((μ 1) 0))) μ t_X10_areTwo_5 ml_X10_137 mo_X4_hasPerson hh_1 rfl (Nat.le_of_ble_eq_true rfl) (e_X4_hasPerson hM1) (Nat.le_of_ble_eq_true rfl) rfl rfl ?_
  refine pv_if_eq t_X10_areTwo_8 (fun c8 => ?_) (fun c8 => ?_)
  · skip
    refine pv_iconst (v := 0) t_X10_areTwo_31 zi_0 ?_
    exact pv_iretz t_X10_areTwo_32 rfl ⟨(by unfold a_X10_areTwo; rw [if_pos c8]), (by unfold a_X10_areTwo; rw [if_pos c8]; decide)⟩ rfl
  · skip
    refine pv_aload_n (i := 0) t_X10_areTwo_11 rfl rfl ?_
    refine pv_getR t_X10_areTwo_12 fl_X10_10 hh_0 rfl ?_
    refine pv_iload_n (i := 2) t_X10_areTwo_15 rfl rfl ?_
    refine sv_V1 (bz (zib y ((μ 1) 0))) μ t_X10_areTwo_16 ml_X10_137 mo_X4_hasPerson hh_1 rfl (Nat.le_of_ble_eq_true rfl) (e_X4_hasPerson hM1) (Nat.le_of_ble_eq_true rfl) rfl rfl ?_
    refine pv_if_eq t_X10_areTwo_19 (fun c19 => ?_) (fun c19 => ?_)
    · skip
      refine pv_iconst (v := 0) t_X10_areTwo_31 zi_0 ?_
      exact pv_iretz t_X10_areTwo_32 rfl ⟨(by unfold a_X10_areTwo; rw [if_neg c8, if_pos c19]), (by unfold a_X10_areTwo; rw [if_neg c8, if_pos c19]; decide)⟩ rfl
    · skip
      refine pv_iload_n (i := 1) t_X10_areTwo_22 rfl rfl ?_
      refine pv_iload_n (i := 2) t_X10_areTwo_23 rfl rfl ?_
      refine pv_icmp_eq t_X10_areTwo_24 (fun c24 => ?_) (fun c24 => ?_)
      · skip
        refine pv_iconst (v := 0) t_X10_areTwo_31 zi_0 ?_
        exact pv_iretz t_X10_areTwo_32 rfl ⟨(by unfold a_X10_areTwo; rw [if_neg c8, if_neg c19, if_pos c24]), (by unfold a_X10_areTwo; rw [if_neg c8, if_neg c19, if_pos c24]; decide)⟩ rfl
      · skip
        refine pv_iconst (v := 1) t_X10_areTwo_27 zi_1 ?_
        refine pv_goto t_X10_areTwo_28 ?_
        exact pv_iretz t_X10_areTwo_32 rfl ⟨(by unfold a_X10_areTwo; rw [if_neg c8, if_neg c19, if_neg c24]), (by unfold a_X10_areTwo; rw [if_neg c8, if_neg c19, if_neg c24]; decide)⟩ rfl
def a_X10_fault (f0 : Nat → Int32) : Int32 := f0 9
theorem e_X10_fault {l : Launch} {X : zX} {d : Nat} {μ : zH} : zRn l X mi_X10_fault (d + 1) [.inr 0] (zSH, μ) (some (.inl (a_X10_fault (μ 0)))) (zSH, μ) := by
  refine pv_aload_n (i := 0) t_X10_fault_0 rfl rfl ?_
  refine sv_getI ((μ 0) 9) t_X10_fault_1 fl_X10_76 hh_0 rfl rfl ?_
  exact pv_ireti t_X10_fault_4 rfl (by unfold a_X10_fault; rfl) rfl
def a_X10_feed (f6 : Nat → Int32) (x : Int32) : Int32 := (if x < 0 then (-1000000002) else (if x ≤ 255 then (if (f6 2) < 250 then f6 2 + 1 else (-1000000004)) else (-1000000002)))
def w_X10_feed_12 (f6 : Nat → Int32) (f12 : Nat → Int32) (x : Int32) : Nat → Int32 := (if x < 0 then f12 else (if x ≤ 255 then (if (f6 2) < 250 then rP f12 250 (f6 2) x else f12) else f12))
def w_X10_feed_6 (f6 : Nat → Int32) (x : Int32) : Nat → Int32 := (if x < 0 then f6 else (if x ≤ 255 then (if (f6 2) < 250 then upd f6 2 (f6 2 + 1) else f6) else f6))
theorem e_X10_feed {l : Launch} {X : zX} {d : Nat} {μ : zH} {x : Int32} : zRn l X mi_X10_feed (d + 4) [.inr 0, .inl (x)] (zSH, μ) (some (.inl (a_X10_feed (μ 6) x))) (zSH, (zhs (zhs μ 12 (w_X10_feed_12 (μ 6) (μ 12) x)) 6 (w_X10_feed_6 (μ 6) x))) := by
  refine pv_iload_n (i := 1) t_X10_feed_0 rfl rfl ?_
  refine pv_if_lt t_X10_feed_1 (fun c1 => ?_) (fun c1 => ?_)
  · skip
    refine pv_ldc t_X10_feed_11 kc_X10_80 ?_
    exact pv_ireti t_X10_feed_13 rfl (by unfold a_X10_feed; rw [if_pos c1]) (Prod.ext rfl (by have e12 : w_X10_feed_12 (μ 6) (μ 12) x = (μ 12) := (by unfold w_X10_feed_12; rw [if_pos c1]); have e6 : w_X10_feed_6 (μ 6) x = (μ 6) := (by unfold w_X10_feed_6; rw [if_pos c1]); show _ = (zhs (zhs μ 12 (w_X10_feed_12 (μ 6) (μ 12) x)) 6 (w_X10_feed_6 (μ 6) x)); symm; rw [e12, e6]; rw [zhs_i2 (ν := μ) (k := 12) (g := (μ 12)) rfl, zhs_i2 (ν := μ) (k := 6) (g := (μ 6)) rfl]))
  · skip
    refine pv_iload_n (i := 1) t_X10_feed_4 rfl rfl ?_
    refine pv_sipush (v := 255) t_X10_feed_5 zs_255 ?_
    refine pv_icmp_le t_X10_feed_8 (fun c8 => ?_) (fun c8 => ?_)
    · skip
      refine pv_aload_n (i := 0) t_X10_feed_14 rfl rfl ?_
      refine pv_getR t_X10_feed_15 fl_X10_19 hh_0 rfl ?_
      refine sv_getI ((μ 6) 2) t_X10_feed_18 fl_X10_81 hh_6 rfl rfl ?_
      refine pv_sipush (v := 250) t_X10_feed_21 zs_250 ?_
      refine pv_icmp_lt t_X10_feed_24 (fun c24 => ?_) (fun c24 => ?_)
      · skip
        refine pv_aload_n (i := 0) t_X10_feed_30 rfl rfl ?_
        refine pv_getR t_X10_feed_31 fl_X10_19 hh_0 rfl ?_
        refine pv_iload_n (i := 1) t_X10_feed_34 rfl rfl ?_
        refine sv_V1 ((μ 6) 2 + 1) ((zhs (zhs μ 12 (rP (μ 12) 250 ((μ 6) 2) x)) 6 (upd (μ 6) 2 ((μ 6) 2 + 1)))) t_X10_feed_35 ml_X10_85 mo_X6_append hh_6 rfl (Nat.le_of_ble_eq_true rfl) (e_X6_append hR6) (Nat.le_of_ble_eq_true rfl) rfl rfl ?_
        exact pv_ireti t_X10_feed_38 rfl (by unfold a_X10_feed; rw [if_neg c1, if_pos c8, if_pos c24]) (Prod.ext rfl (by have e12 : w_X10_feed_12 (μ 6) (μ 12) x = rP (μ 12) 250 ((μ 6) 2) x := (by unfold w_X10_feed_12; rw [if_neg c1, if_pos c8, if_pos c24]); have e6 : w_X10_feed_6 (μ 6) x = upd (μ 6) 2 ((μ 6) 2 + 1) := (by unfold w_X10_feed_6; rw [if_neg c1, if_pos c8, if_pos c24]); show _ = (zhs (zhs μ 12 (w_X10_feed_12 (μ 6) (μ 12) x)) 6 (w_X10_feed_6 (μ 6) x)); symm; rw [e12, e6]))
      · skip
        refine pv_ldc t_X10_feed_27 kc_X10_84 ?_
        exact pv_ireti t_X10_feed_29 rfl (by unfold a_X10_feed; rw [if_neg c1, if_pos c8, if_neg c24]) (Prod.ext rfl (by have e12 : w_X10_feed_12 (μ 6) (μ 12) x = (μ 12) := (by unfold w_X10_feed_12; rw [if_neg c1, if_pos c8, if_neg c24]); have e6 : w_X10_feed_6 (μ 6) x = (μ 6) := (by unfold w_X10_feed_6; rw [if_neg c1, if_pos c8, if_neg c24]); show _ = (zhs (zhs μ 12 (w_X10_feed_12 (μ 6) (μ 12) x)) 6 (w_X10_feed_6 (μ 6) x)); symm; rw [e12, e6]; rw [zhs_i2 (ν := μ) (k := 12) (g := (μ 12)) rfl, zhs_i2 (ν := μ) (k := 6) (g := (μ 6)) rfl]))
    · skip
      refine pv_ldc t_X10_feed_11 kc_X10_80 ?_
      exact pv_ireti t_X10_feed_13 rfl (by unfold a_X10_feed; rw [if_neg c1, if_neg c8]) (Prod.ext rfl (by have e12 : w_X10_feed_12 (μ 6) (μ 12) x = (μ 12) := (by unfold w_X10_feed_12; rw [if_neg c1, if_neg c8]); have e6 : w_X10_feed_6 (μ 6) x = (μ 6) := (by unfold w_X10_feed_6; rw [if_neg c1, if_neg c8]); show _ = (zhs (zhs μ 12 (w_X10_feed_12 (μ 6) (μ 12) x)) 6 (w_X10_feed_6 (μ 6) x)); symm; rw [e12, e6]; rw [zhs_i2 (ν := μ) (k := 12) (g := (μ 12)) rfl, zhs_i2 (ν := μ) (k := 6) (g := (μ 6)) rfl]))
def a_X10_told (f1 : Nat → Int32) (f6 : Nat → Int32) (f21 : Nat → Int32) (f54 : Nat → Int32) (x : Int32) : Int32 := (if x = 0 then f1 0 else (if x = 1 then f1 1 else (if x = 2 then f6 2 else (if x = 3 then dPer f21 0 else (if x = 4 then dPer f21 1 else (if x = 5 then cell f21 2 else (if x = 6 then cell f21 3 else (if x = 7 then (if (bz (dGo f21)) = 0 then (-1) else dPer f21 (dSd f21)) else (if x = 8 then cell f21 4 else (if x = 9 then f54 4 else (if x = 10 then f54 5 else (if x = 11 then f54 6 else (if x = 12 then cell f21 5 else (-1000000002))))))))))))))
theorem e_X10_told {l : Launch} {X : zX} {d : Nat} {μ : zH} {x : Int32} : zRn l X mi_X10_told (d + 6) [.inr 0, .inl (x)] (zSH, μ) (some (.inl (a_X10_told (μ 1) (μ 6) (μ 21) (μ 54) x))) (zSH, μ) := by
  refine pv_aload_n (i := 0) t_X10_told_0 rfl rfl ?_
  refine pv_getR t_X10_told_1 fl_X10_28 hh_0 rfl ?_
  refine pv_getR t_X10_told_4 fl_X10_109 hh_13 rfl ?_
  refine pv_astore_n (i := 2) t_X10_told_7 rfl (Nat.le_of_ble_eq_true rfl) ?_
  refine pv_iload_n (i := 1) t_X10_told_8 rfl rfl ?_
  by_cases h9_0 : x = 0
  · skip
    refine pv_tabIn (tgt := 76) (off := 67) t_X10_told_9 (by rw [h9_0]; decide) (by rw [h9_0]; decide) (by rw [h9_0]; rfl) rfl ?_
    refine pv_aload_n (i := 0) t_X10_told_76 rfl rfl ?_
    refine pv_getR t_X10_told_77 fl_X10_10 hh_0 rfl ?_
    refine sv_getI ((μ 1) 0) t_X10_told_80 fl_X10_106 hh_1 rfl rfl ?_
    exact pv_ireti t_X10_told_83 rfl (by unfold a_X10_told; rw [if_pos h9_0]) rfl
  · skip
    by_cases h9_1 : x = 1
    · skip
      refine pv_tabIn (tgt := 84) (off := 75) t_X10_told_9 (by rw [h9_1]; decide) (by rw [h9_1]; decide) (by rw [h9_1]; rfl) rfl ?_
      refine pv_aload_n (i := 0) t_X10_told_84 rfl rfl ?_
      refine pv_getR t_X10_told_85 fl_X10_10 hh_0 rfl ?_
      refine sv_getI ((μ 1) 1) t_X10_told_88 fl_X10_112 hh_1 rfl rfl ?_
      exact pv_ireti t_X10_told_91 rfl (by unfold a_X10_told; rw [if_neg h9_0, if_pos h9_1]) rfl
    · skip
      by_cases h9_2 : x = 2
      · skip
        refine pv_tabIn (tgt := 92) (off := 83) t_X10_told_9 (by rw [h9_2]; decide) (by rw [h9_2]; decide) (by rw [h9_2]; rfl) rfl ?_
        refine pv_aload_n (i := 0) t_X10_told_92 rfl rfl ?_
        refine pv_getR t_X10_told_93 fl_X10_19 hh_0 rfl ?_
        refine sv_getI ((μ 6) 2) t_X10_told_96 fl_X10_81 hh_6 rfl rfl ?_
        exact pv_ireti t_X10_told_99 rfl (by unfold a_X10_told; rw [if_neg h9_0, if_neg h9_1, if_pos h9_2]) rfl
      · skip
        by_cases h9_3 : x = 3
        · skip
          refine pv_tabIn (tgt := 100) (off := 91) t_X10_told_9 (by rw [h9_3]; decide) (by rw [h9_3]; decide) (by rw [h9_3]; rfl) rfl ?_
          refine pv_aload_n (i := 2) t_X10_told_100 rfl rfl ?_
          refine pv_iconst (v := 0) t_X10_told_101 zi_0 ?_
          refine sv_V1 (dPer (μ 21) 0) μ t_X10_told_102 ml_X10_115 mo_X1_person hh_20 rfl (Nat.le_of_ble_eq_true rfl) (e_X1_person hD20) (Nat.le_of_ble_eq_true rfl) rfl rfl ?_
          exact pv_ireti t_X10_told_105 rfl (by unfold a_X10_told; rw [if_neg h9_0, if_neg h9_1, if_neg h9_2, if_pos h9_3]) rfl
        · skip
          by_cases h9_4 : x = 4
          · skip
            refine pv_tabIn (tgt := 106) (off := 97) t_X10_told_9 (by rw [h9_4]; decide) (by rw [h9_4]; decide) (by rw [h9_4]; rfl) rfl ?_
            refine pv_aload_n (i := 2) t_X10_told_106 rfl rfl ?_
            refine pv_iconst (v := 1) t_X10_told_107 zi_1 ?_
            refine sv_V1 (dPer (μ 21) 1) μ t_X10_told_108 ml_X10_115 mo_X1_person hh_20 rfl (Nat.le_of_ble_eq_true rfl) (e_X1_person hD20) (Nat.le_of_ble_eq_true rfl) rfl rfl ?_
            exact pv_ireti t_X10_told_111 rfl (by unfold a_X10_told; rw [if_neg h9_0, if_neg h9_1, if_neg h9_2, if_neg h9_3, if_pos h9_4]) rfl
          · skip
            by_cases h9_5 : x = 5
            · skip
              refine pv_tabIn (tgt := 112) (off := 103) t_X10_told_9 (by rw [h9_5]; decide) (by rw [h9_5]; decide) (by rw [h9_5]; rfl) rfl ?_
              refine pv_aload_n (i := 2) t_X10_told_112 rfl rfl ?_
              refine pv_iconst (v := 2) t_X10_told_113 zi_2 ?_
              refine sv_V1 (cell (μ 21) 2) μ t_X10_told_114 ml_X10_118 mo_X1_cell hh_20 rfl (Nat.le_of_ble_eq_true rfl) (e_X1_cell hD20) (Nat.le_of_ble_eq_true rfl) rfl rfl ?_
              exact pv_ireti t_X10_told_117 rfl (by unfold a_X10_told; rw [if_neg h9_0, if_neg h9_1, if_neg h9_2, if_neg h9_3, if_neg h9_4, if_pos h9_5]) rfl
            · skip
              by_cases h9_6 : x = 6
              · skip
                refine pv_tabIn (tgt := 118) (off := 109) t_X10_told_9 (by rw [h9_6]; decide) (by rw [h9_6]; decide) (by rw [h9_6]; rfl) rfl ?_
                refine pv_aload_n (i := 2) t_X10_told_118 rfl rfl ?_
                refine pv_iconst (v := 3) t_X10_told_119 zi_3 ?_
                refine sv_V1 (cell (μ 21) 3) μ t_X10_told_120 ml_X10_118 mo_X1_cell hh_20 rfl (Nat.le_of_ble_eq_true rfl) (e_X1_cell hD20) (Nat.le_of_ble_eq_true rfl) rfl rfl ?_
                exact pv_ireti t_X10_told_123 rfl (by unfold a_X10_told; rw [if_neg h9_0, if_neg h9_1, if_neg h9_2, if_neg h9_3, if_neg h9_4, if_neg h9_5, if_pos h9_6]) rfl
              · skip
                by_cases h9_7 : x = 7
                · skip
                  refine pv_tabIn (tgt := 124) (off := 115) t_X10_told_9 (by rw [h9_7]; decide) (by rw [h9_7]; decide) (by rw [h9_7]; rfl) rfl ?_
                  refine pv_aload_n (i := 2) t_X10_told_124 rfl rfl ?_
                  refine sv_V0 (bz (dGo (μ 21))) μ t_X10_told_125 ml_X10_121 mo_X1_goesOn hh_20 rfl (Nat.le_of_ble_eq_true rfl) (e_X1_goesOn hD20) (Nat.le_of_ble_eq_true rfl) rfl rfl ?_
                  refine pv_if_eq t_X10_told_128 (fun c128 => ?_) (fun c128 => ?_)
                  · skip
                    refine pv_iconst (v := -1) t_X10_told_142 zi_m1 ?_
                    exact pv_ireti t_X10_told_143 rfl (by unfold a_X10_told; rw [if_neg h9_0, if_neg h9_1, if_neg h9_2, if_neg h9_3, if_neg h9_4, if_neg h9_5, if_neg h9_6, if_pos h9_7, if_pos c128]) rfl
                  · skip
                    refine pv_aload_n (i := 2) t_X10_told_131 rfl rfl ?_
                    refine pv_aload_n (i := 2) t_X10_told_132 rfl rfl ?_
                    refine sv_V0 (dSd (μ 21)) μ t_X10_told_133 ml_X10_125 mo_X1_side hh_20 rfl (Nat.le_of_ble_eq_true rfl) (e_X1_side hD20) (Nat.le_of_ble_eq_true rfl) rfl rfl ?_
                    refine sv_V1 (dPer (μ 21) (dSd (μ 21))) μ t_X10_told_136 ml_X10_115 mo_X1_person hh_20 rfl (Nat.le_of_ble_eq_true rfl) (e_X1_person hD20) (Nat.le_of_ble_eq_true rfl) rfl rfl ?_
                    refine pv_goto t_X10_told_139 ?_
                    exact pv_ireti t_X10_told_143 rfl (by unfold a_X10_told; rw [if_neg h9_0, if_neg h9_1, if_neg h9_2, if_neg h9_3, if_neg h9_4, if_neg h9_5, if_neg h9_6, if_pos h9_7, if_neg c128]) rfl
                · skip
                  by_cases h9_8 : x = 8
                  · skip
                    refine pv_tabIn (tgt := 144) (off := 135) t_X10_told_9 (by rw [h9_8]; decide) (by rw [h9_8]; decide) (by rw [h9_8]; rfl) rfl ?_
                    refine pv_aload_n (i := 2) t_X10_told_144 rfl rfl ?_
                    refine pv_iconst (v := 4) t_X10_told_145 zi_4 ?_
                    refine sv_V1 (cell (μ 21) 4) μ t_X10_told_146 ml_X10_118 mo_X1_cell hh_20 rfl (Nat.le_of_ble_eq_true rfl) (e_X1_cell hD20) (Nat.le_of_ble_eq_true rfl) rfl rfl ?_
                    exact pv_ireti t_X10_told_149 rfl (by unfold a_X10_told; rw [if_neg h9_0, if_neg h9_1, if_neg h9_2, if_neg h9_3, if_neg h9_4, if_neg h9_5, if_neg h9_6, if_neg h9_7, if_pos h9_8]) rfl
                  · skip
                    by_cases h9_9 : x = 9
                    · skip
                      refine pv_tabIn (tgt := 150) (off := 141) t_X10_told_9 (by rw [h9_9]; decide) (by rw [h9_9]; decide) (by rw [h9_9]; rfl) rfl ?_
                      refine pv_aload_n (i := 0) t_X10_told_150 rfl rfl ?_
                      refine pv_getR t_X10_told_151 fl_X10_43 hh_0 rfl ?_
                      refine sv_getI ((μ 54) 4) t_X10_told_154 fl_X10_128 hh_54 rfl rfl ?_
                      exact pv_ireti t_X10_told_157 rfl (by unfold a_X10_told; rw [if_neg h9_0, if_neg h9_1, if_neg h9_2, if_neg h9_3, if_neg h9_4, if_neg h9_5, if_neg h9_6, if_neg h9_7, if_neg h9_8, if_pos h9_9]) rfl
                    · skip
                      by_cases h9_10 : x = 10
                      · skip
                        refine pv_tabIn (tgt := 158) (off := 149) t_X10_told_9 (by rw [h9_10]; decide) (by rw [h9_10]; decide) (by rw [h9_10]; rfl) rfl ?_
                        refine pv_aload_n (i := 0) t_X10_told_158 rfl rfl ?_
                        refine pv_getR t_X10_told_159 fl_X10_43 hh_0 rfl ?_
                        refine sv_getI ((μ 54) 5) t_X10_told_162 fl_X10_131 hh_54 rfl rfl ?_
                        exact pv_ireti t_X10_told_165 rfl (by unfold a_X10_told; rw [if_neg h9_0, if_neg h9_1, if_neg h9_2, if_neg h9_3, if_neg h9_4, if_neg h9_5, if_neg h9_6, if_neg h9_7, if_neg h9_8, if_neg h9_9, if_pos h9_10]) rfl
                      · skip
                        by_cases h9_11 : x = 11
                        · skip
                          refine pv_tabIn (tgt := 166) (off := 157) t_X10_told_9 (by rw [h9_11]; decide) (by rw [h9_11]; decide) (by rw [h9_11]; rfl) rfl ?_
                          refine pv_aload_n (i := 0) t_X10_told_166 rfl rfl ?_
                          refine pv_getR t_X10_told_167 fl_X10_43 hh_0 rfl ?_
                          refine sv_getI ((μ 54) 6) t_X10_told_170 fl_X10_134 hh_54 rfl rfl ?_
                          exact pv_ireti t_X10_told_173 rfl (by unfold a_X10_told; rw [if_neg h9_0, if_neg h9_1, if_neg h9_2, if_neg h9_3, if_neg h9_4, if_neg h9_5, if_neg h9_6, if_neg h9_7, if_neg h9_8, if_neg h9_9, if_neg h9_10, if_pos h9_11]) rfl
                        · skip
                          by_cases h9_12 : x = 12
                          · skip
                            refine pv_tabIn (tgt := 174) (off := 165) t_X10_told_9 (by rw [h9_12]; decide) (by rw [h9_12]; decide) (by rw [h9_12]; rfl) rfl ?_
                            refine pv_aload_n (i := 2) t_X10_told_174 rfl rfl ?_
                            refine pv_iconst (v := 5) t_X10_told_175 zi_5 ?_
                            refine sv_V1 (cell (μ 21) 5) μ t_X10_told_176 ml_X10_118 mo_X1_cell hh_20 rfl (Nat.le_of_ble_eq_true rfl) (e_X1_cell hD20) (Nat.le_of_ble_eq_true rfl) rfl rfl ?_
                            exact pv_ireti t_X10_told_179 rfl (by unfold a_X10_told; rw [if_neg h9_0, if_neg h9_1, if_neg h9_2, if_neg h9_3, if_neg h9_4, if_neg h9_5, if_neg h9_6, if_neg h9_7, if_neg h9_8, if_neg h9_9, if_neg h9_10, if_neg h9_11, if_pos h9_12]) rfl
                          · skip
                            refine pv_tabOut (tgt := 180) t_X10_told_9 (by have a0 : (x : Int32).toInt ≠ 0 := fun q => h9_0 (Int32.toInt_inj.mp q); have a1 : (x : Int32).toInt ≠ 1 := fun q => h9_1 (Int32.toInt_inj.mp q); have a2 : (x : Int32).toInt ≠ 2 := fun q => h9_2 (Int32.toInt_inj.mp q); have a3 : (x : Int32).toInt ≠ 3 := fun q => h9_3 (Int32.toInt_inj.mp q); have a4 : (x : Int32).toInt ≠ 4 := fun q => h9_4 (Int32.toInt_inj.mp q); have a5 : (x : Int32).toInt ≠ 5 := fun q => h9_5 (Int32.toInt_inj.mp q); have a6 : (x : Int32).toInt ≠ 6 := fun q => h9_6 (Int32.toInt_inj.mp q); have a7 : (x : Int32).toInt ≠ 7 := fun q => h9_7 (Int32.toInt_inj.mp q); have a8 : (x : Int32).toInt ≠ 8 := fun q => h9_8 (Int32.toInt_inj.mp q); have a9 : (x : Int32).toInt ≠ 9 := fun q => h9_9 (Int32.toInt_inj.mp q); have a10 : (x : Int32).toInt ≠ 10 := fun q => h9_10 (Int32.toInt_inj.mp q); have a11 : (x : Int32).toInt ≠ 11 := fun q => h9_11 (Int32.toInt_inj.mp q); have a12 : (x : Int32).toInt ≠ 12 := fun q => h9_12 (Int32.toInt_inj.mp q); omega) rfl ?_
                            refine pv_ldc t_X10_told_180 kc_X10_80 ?_
                            exact pv_ireti t_X10_told_182 rfl (by unfold a_X10_told; rw [if_neg h9_0, if_neg h9_1, if_neg h9_2, if_neg h9_3, if_neg h9_4, if_neg h9_5, if_neg h9_6, if_neg h9_7, if_neg h9_8, if_neg h9_9, if_neg h9_10, if_neg h9_11, if_neg h9_12]) rfl
def a_X10_inDuel (f21 : Nat → Int32) (x : Int32) (w : Int32) : Int32 := (if (dSO f21 x) = ((-1)) then 0 else (if w = 8 then cell f21 (6 + (dSO f21 x)) else (if w = 9 then cell f21 (8 + (dSO f21 x)) else (if w = 10 then cell f21 (10 + (dSO f21 x)) else dTold f21 (dSO f21 x) (w - 11)))))
theorem e_X10_inDuel {l : Launch} {X : zX} {d : Nat} {μ : zH} {x : Int32} {w : Int32} : zRn l X mi_X10_inDuel (d + 6) [.inr 0, .inl (x), .inl (w)] (zSH, μ) (some (.inl (a_X10_inDuel (μ 21) x w))) (zSH, μ) := by
  refine pv_aload_n (i := 0) t_X10_inDuel_0 rfl rfl ?_
  refine pv_getR t_X10_inDuel_1 fl_X10_28 hh_0 rfl ?_
  refine pv_getR t_X10_inDuel_4 fl_X10_109 hh_13 rfl ?_
  refine pv_iload_n (i := 1) t_X10_inDuel_7 rfl rfl ?_
  refine sv_V1 (dSO (μ 21) x) μ t_X10_inDuel_8 ml_X10_166 mo_X1_sideOf hh_20 rfl (Nat.le_of_ble_eq_true rfl) (e_X1_sideOf hD20) (Nat.le_of_ble_eq_true rfl) rfl rfl ?_
  refine pv_istore_n (i := 3) t_X10_inDuel_11 rfl (Nat.le_of_ble_eq_true rfl) ?_
  refine pv_iload_n (i := 3) t_X10_inDuel_12 rfl rfl ?_
  refine pv_iconst (v := -1) t_X10_inDuel_13 zi_m1 ?_
  refine pv_icmp_ne t_X10_inDuel_14 (fun c14 => ?_) (fun c14 => ?_)
  · skip
    refine pv_iload_n (i := 2) t_X10_inDuel_19 rfl rfl ?_
    by_cases h20_8 : w = 8
    · skip
      refine pv_tabIn (tgt := 48) (off := 28) t_X10_inDuel_20 (by rw [h20_8]; decide) (by rw [h20_8]; decide) (by rw [h20_8]; rfl) rfl ?_
      refine pv_aload_n (i := 0) t_X10_inDuel_48 rfl rfl ?_
      refine pv_getR t_X10_inDuel_49 fl_X10_28 hh_0 rfl ?_
      refine pv_getR t_X10_inDuel_52 fl_X10_109 hh_13 rfl ?_
      refine pv_bipush (v := 6) t_X10_inDuel_55 zb_6 ?_
      refine pv_iload_n (i := 3) t_X10_inDuel_57 rfl rfl ?_
      refine pv_iadd t_X10_inDuel_58 ?_
      refine sv_V1 (cell (μ 21) (6 + (dSO (μ 21) x))) μ t_X10_inDuel_59 ml_X10_118 mo_X1_cell hh_20 rfl (Nat.le_of_ble_eq_true rfl) (e_X1_cell hD20) (Nat.le_of_ble_eq_true rfl) rfl rfl ?_
      exact pv_ireti t_X10_inDuel_62 rfl (by unfold a_X10_inDuel; rw [if_neg c14, if_pos h20_8]) rfl
    · skip
      by_cases h20_9 : w = 9
      · skip
        refine pv_tabIn (tgt := 63) (off := 43) t_X10_inDuel_20 (by rw [h20_9]; decide) (by rw [h20_9]; decide) (by rw [h20_9]; rfl) rfl ?_
        refine pv_aload_n (i := 0) t_X10_inDuel_63 rfl rfl ?_
        refine pv_getR t_X10_inDuel_64 fl_X10_28 hh_0 rfl ?_
        refine pv_getR t_X10_inDuel_67 fl_X10_109 hh_13 rfl ?_
        refine pv_bipush (v := 8) t_X10_inDuel_70 zb_8 ?_
        refine pv_iload_n (i := 3) t_X10_inDuel_72 rfl rfl ?_
        refine pv_iadd t_X10_inDuel_73 ?_
        refine sv_V1 (cell (μ 21) (8 + (dSO (μ 21) x))) μ t_X10_inDuel_74 ml_X10_118 mo_X1_cell hh_20 rfl (Nat.le_of_ble_eq_true rfl) (e_X1_cell hD20) (Nat.le_of_ble_eq_true rfl) rfl rfl ?_
        exact pv_ireti t_X10_inDuel_77 rfl (by unfold a_X10_inDuel; rw [if_neg c14, if_neg h20_8, if_pos h20_9]) rfl
      · skip
        by_cases h20_10 : w = 10
        · skip
          refine pv_tabIn (tgt := 78) (off := 58) t_X10_inDuel_20 (by rw [h20_10]; decide) (by rw [h20_10]; decide) (by rw [h20_10]; rfl) rfl ?_
          refine pv_aload_n (i := 0) t_X10_inDuel_78 rfl rfl ?_
          refine pv_getR t_X10_inDuel_79 fl_X10_28 hh_0 rfl ?_
          refine pv_getR t_X10_inDuel_82 fl_X10_109 hh_13 rfl ?_
          refine pv_bipush (v := 10) t_X10_inDuel_85 zb_10 ?_
          refine pv_iload_n (i := 3) t_X10_inDuel_87 rfl rfl ?_
          refine pv_iadd t_X10_inDuel_88 ?_
          refine sv_V1 (cell (μ 21) (10 + (dSO (μ 21) x))) μ t_X10_inDuel_89 ml_X10_118 mo_X1_cell hh_20 rfl (Nat.le_of_ble_eq_true rfl) (e_X1_cell hD20) (Nat.le_of_ble_eq_true rfl) rfl rfl ?_
          exact pv_ireti t_X10_inDuel_92 rfl (by unfold a_X10_inDuel; rw [if_neg c14, if_neg h20_8, if_neg h20_9, if_pos h20_10]) rfl
        · skip
          refine pv_tabOut (tgt := 93) t_X10_inDuel_20 (by have a8 : (w : Int32).toInt ≠ 8 := fun q => h20_8 (Int32.toInt_inj.mp q); have a9 : (w : Int32).toInt ≠ 9 := fun q => h20_9 (Int32.toInt_inj.mp q); have a10 : (w : Int32).toInt ≠ 10 := fun q => h20_10 (Int32.toInt_inj.mp q); omega) rfl ?_
          refine pv_aload_n (i := 0) t_X10_inDuel_93 rfl rfl ?_
          refine pv_getR t_X10_inDuel_94 fl_X10_28 hh_0 rfl ?_
          refine pv_getR t_X10_inDuel_97 fl_X10_109 hh_13 rfl ?_
          refine pv_iload_n (i := 3) t_X10_inDuel_100 rfl rfl ?_
          refine pv_iload_n (i := 2) t_X10_inDuel_101 rfl rfl ?_
          refine pv_bipush (v := 11) t_X10_inDuel_102 zb_11 ?_
          refine pv_isub t_X10_inDuel_104 ?_
          refine sv_V2 (dTold (μ 21) (dSO (μ 21) x) (w - 11)) μ t_X10_inDuel_105 ml_X10_169 mo_X1_toldTo hh_20 rfl (Nat.le_of_ble_eq_true rfl) (e_X1_toldTo hD20) (Nat.le_of_ble_eq_true rfl) rfl rfl ?_
          exact pv_ireti t_X10_inDuel_108 rfl (by unfold a_X10_inDuel; rw [if_neg c14, if_neg h20_8, if_neg h20_9, if_neg h20_10]) rfl
  · skip
    refine pv_iconst (v := 0) t_X10_inDuel_17 zi_0 ?_
    exact pv_ireti t_X10_inDuel_18 rfl (by unfold a_X10_inDuel; rw [if_pos c14]) rfl
def a_X10_duellist (f1 : Nat → Int32) (f2 : Nat → Int32) (f15 : Nat → Int32) (f21 : Nat → Int32) (f24 : Nat → Int32) (f25 : Nat → Int32) (x : Int32) (w : Int32) : Int32 := (if (bz (zib x (f1 0))) = 0 then (-1000000001) else (if w < 0 then (-1000000002) else (if w ≤ 14 then (if 2 ≤ w then (if 6 ≤ w then (if w = 6 then rA f24 4 x else (if w = 7 then rA f15 4 x else a_X10_inDuel f21 x w)) else vanO f25 x (w - 2)) else trait f2 x w) else (-1000000002))))
theorem e_X10_duellist {l : Launch} {X : zX} {d : Nat} {μ : zH} {x : Int32} {w : Int32} : zRn l X mi_X10_duellist (d + 8) [.inr 0, .inl (x), .inl (w)] (zSH, μ) (some (.inl (a_X10_duellist (μ 1) (μ 2) (μ 15) (μ 21) (μ 24) (μ 25) x w))) (zSH, μ) := by
  refine pv_aload_n (i := 0) t_X10_duellist_0 rfl rfl ?_
  refine pv_getR t_X10_duellist_1 fl_X10_10 hh_0 rfl ?_
  refine pv_iload_n (i := 1) t_X10_duellist_4 rfl rfl ?_
  refine sv_V1 (bz (zib x ((μ 1) 0))) μ t_X10_duellist_5 ml_X10_137 mo_X4_hasPerson hh_1 rfl (Nat.le_of_ble_eq_true rfl) (e_X4_hasPerson hM1) (Nat.le_of_ble_eq_true rfl) rfl rfl ?_
  refine pv_if_ne t_X10_duellist_8 (fun c8 => ?_) (fun c8 => ?_)
  · skip
    refine pv_iload_n (i := 2) t_X10_duellist_14 rfl rfl ?_
    refine pv_if_lt t_X10_duellist_15 (fun c15 => ?_) (fun c15 => ?_)
    · skip
      refine pv_ldc t_X10_duellist_24 kc_X10_80 ?_
      exact pv_ireti t_X10_duellist_26 rfl (by unfold a_X10_duellist; rw [if_neg c8, if_pos c15]) rfl
    · skip
      refine pv_iload_n (i := 2) t_X10_duellist_18 rfl rfl ?_
      refine pv_bipush (v := 14) t_X10_duellist_19 zb_14 ?_
      refine pv_icmp_le t_X10_duellist_21 (fun c21 => ?_) (fun c21 => ?_)
      · skip
        refine pv_iload_n (i := 2) t_X10_duellist_27 rfl rfl ?_
        refine pv_iconst (v := 2) t_X10_duellist_28 zi_2 ?_
        refine pv_icmp_ge t_X10_duellist_29 (fun c29 => ?_) (fun c29 => ?_)
        · skip
          refine pv_iload_n (i := 2) t_X10_duellist_42 rfl rfl ?_
          refine pv_bipush (v := 6) t_X10_duellist_43 zb_6 ?_
          refine pv_icmp_ge t_X10_duellist_45 (fun c45 => ?_) (fun c45 => ?_)
          · skip
            refine pv_iload_n (i := 2) t_X10_duellist_63 rfl rfl ?_
            refine pv_bipush (v := 6) t_X10_duellist_64 zb_6 ?_
            refine pv_icmp_ne t_X10_duellist_66 (fun c66 => ?_) (fun c66 => ?_)
            · skip
              refine pv_iload_n (i := 2) t_X10_duellist_81 rfl rfl ?_
              refine pv_bipush (v := 7) t_X10_duellist_82 zb_7 ?_
              refine pv_icmp_ne t_X10_duellist_84 (fun c84 => ?_) (fun c84 => ?_)
              · skip
                refine pv_aload_n (i := 0) t_X10_duellist_99 rfl rfl ?_
                refine pv_iload_n (i := 1) t_X10_duellist_100 rfl rfl ?_
                refine pv_iload_n (i := 2) t_X10_duellist_101 rfl rfl ?_
                refine sv_V2 (a_X10_inDuel (μ 21) x w) μ t_X10_duellist_102 ml_X10_163 mo_X10_inDuel hh_0 rfl (Nat.le_of_ble_eq_true rfl) (e_X10_inDuel) (Nat.le_of_ble_eq_true rfl) rfl rfl ?_
                exact pv_ireti t_X10_duellist_105 rfl (by unfold a_X10_duellist; rw [if_neg c8, if_neg c15, if_pos c21, if_pos c29, if_pos c45, if_neg c66, if_neg c84]) rfl
              · skip
                refine pv_aload_n (i := 0) t_X10_duellist_87 rfl rfl ?_
                refine pv_getR t_X10_duellist_88 fl_X10_28 hh_0 rfl ?_
                refine pv_getR t_X10_duellist_91 fl_X10_154 hh_13 rfl ?_
                refine pv_iload_n (i := 1) t_X10_duellist_94 rfl rfl ?_
                refine sv_V1 (rA (μ 15) 4 x) μ t_X10_duellist_95 ml_X10_158 mo_X3_pointsOf hh_14 rfl (Nat.le_of_ble_eq_true rfl) (e_X3_pointsOf hL14) (Nat.le_of_ble_eq_true rfl) rfl rfl ?_
                exact pv_ireti t_X10_duellist_98 rfl (by unfold a_X10_duellist; rw [if_neg c8, if_neg c15, if_pos c21, if_pos c29, if_pos c45, if_neg c66, if_pos c84]) rfl
            · skip
              refine pv_aload_n (i := 0) t_X10_duellist_69 rfl rfl ?_
              refine pv_getR t_X10_duellist_70 fl_X10_28 hh_0 rfl ?_
              refine pv_getR t_X10_duellist_73 fl_X10_56 hh_13 rfl ?_
              refine pv_iload_n (i := 1) t_X10_duellist_76 rfl rfl ?_
              refine sv_V1 (rA (μ 24) 4 x) μ t_X10_duellist_77 ml_X10_151 mo_X2_deedsOf hh_23 rfl (Nat.le_of_ble_eq_true rfl) (e_X2_deedsOf hM1 hF23) (Nat.le_of_ble_eq_true rfl) rfl rfl ?_
              exact pv_ireti t_X10_duellist_80 rfl (by unfold a_X10_duellist; rw [if_neg c8, if_neg c15, if_pos c21, if_pos c29, if_pos c45, if_pos c66]) rfl
          · skip
            refine pv_aload_n (i := 0) t_X10_duellist_48 rfl rfl ?_
            refine pv_getR t_X10_duellist_49 fl_X10_28 hh_0 rfl ?_
            refine pv_getR t_X10_duellist_52 fl_X10_56 hh_13 rfl ?_
            refine pv_iload_n (i := 1) t_X10_duellist_55 rfl rfl ?_
            refine pv_iload_n (i := 2) t_X10_duellist_56 rfl rfl ?_
            refine pv_iconst (v := 2) t_X10_duellist_57 zi_2 ?_
            refine pv_isub t_X10_duellist_58 ?_
            refine sv_V2 (vanO (μ 25) x (w - 2)) μ t_X10_duellist_59 ml_X10_146 mo_X2_vanityOf hh_23 rfl (Nat.le_of_ble_eq_true rfl) (e_X2_vanityOf hM1 hF23) (Nat.le_of_ble_eq_true rfl) rfl rfl ?_
            exact pv_ireti t_X10_duellist_62 rfl (by unfold a_X10_duellist; rw [if_neg c8, if_neg c15, if_pos c21, if_pos c29, if_neg c45]) rfl
        · skip
          refine pv_aload_n (i := 0) t_X10_duellist_32 rfl rfl ?_
          refine pv_getR t_X10_duellist_33 fl_X10_10 hh_0 rfl ?_
          refine pv_iload_n (i := 1) t_X10_duellist_36 rfl rfl ?_
          refine pv_iload_n (i := 2) t_X10_duellist_37 rfl rfl ?_
          refine sv_V2 (trait (μ 2) x w) μ t_X10_duellist_38 ml_X10_142 mo_X4_trait hh_1 rfl (Nat.le_of_ble_eq_true rfl) (e_X4_trait hM1) (Nat.le_of_ble_eq_true rfl) rfl rfl ?_
          exact pv_ireti t_X10_duellist_41 rfl (by unfold a_X10_duellist; rw [if_neg c8, if_neg c15, if_pos c21, if_neg c29]) rfl
      · skip
        refine pv_ldc t_X10_duellist_24 kc_X10_80 ?_
        exact pv_ireti t_X10_duellist_26 rfl (by unfold a_X10_duellist; rw [if_neg c8, if_neg c15, if_neg c21]) rfl
  · skip
    refine pv_ldc t_X10_duellist_11 kc_X10_141 ?_
    exact pv_ireti t_X10_duellist_13 rfl (by unfold a_X10_duellist; rw [if_pos c8]) rfl
def a_X10_compliment (f1 : Nat → Int32) (f3 : Nat → Int32) (x : Int32) (w : Int32) : Int32 := (if (bz (zib x (f1 1))) = 0 then (-1000000001) else (if w < 0 then (-1000000002) else (if w < 5 then part f3 x w else (-1000000002))))
theorem e_X10_compliment {l : Launch} {X : zX} {d : Nat} {μ : zH} {x : Int32} {w : Int32} : zRn l X mi_X10_compliment (d + 4) [.inr 0, .inl (x), .inl (w)] (zSH, μ) (some (.inl (a_X10_compliment (μ 1) (μ 3) x w))) (zSH, μ) := by
  refine pv_aload_n (i := 0) t_X10_compliment_0 rfl rfl ?_
  refine pv_getR t_X10_compliment_1 fl_X10_10 hh_0 rfl ?_
  refine pv_iload_n (i := 1) t_X10_compliment_4 rfl rfl ?_
  refine sv_V1 (bz (zib x ((μ 1) 1))) μ t_X10_compliment_5 ml_X10_172 mo_X4_hasPhrase hh_1 rfl (Nat.le_of_ble_eq_true rfl) (e_X4_hasPhrase hM1) (Nat.le_of_ble_eq_true rfl) rfl rfl ?_
  refine pv_if_ne t_X10_compliment_8 (fun c8 => ?_) (fun c8 => ?_)
  · skip
    refine pv_iload_n (i := 2) t_X10_compliment_14 rfl rfl ?_
    refine pv_if_lt t_X10_compliment_15 (fun c15 => ?_) (fun c15 => ?_)
    · skip
      refine pv_ldc t_X10_compliment_23 kc_X10_80 ?_
      refine pv_goto t_X10_compliment_25 ?_
      exact pv_ireti t_X10_compliment_37 rfl (by unfold a_X10_compliment; rw [if_neg c8, if_pos c15]) rfl
    · skip
      refine pv_iload_n (i := 2) t_X10_compliment_18 rfl rfl ?_
      refine pv_iconst (v := 5) t_X10_compliment_19 zi_5 ?_
      refine pv_icmp_lt t_X10_compliment_20 (fun c20 => ?_) (fun c20 => ?_)
      · skip
        refine pv_aload_n (i := 0) t_X10_compliment_28 rfl rfl ?_
        refine pv_getR t_X10_compliment_29 fl_X10_10 hh_0 rfl ?_
        refine pv_iload_n (i := 1) t_X10_compliment_32 rfl rfl ?_
        refine pv_iload_n (i := 2) t_X10_compliment_33 rfl rfl ?_
        refine sv_V2 (part (μ 3) x w) μ t_X10_compliment_34 ml_X10_175 mo_X4_part hh_1 rfl (Nat.le_of_ble_eq_true rfl) (e_X4_part hM1) (Nat.le_of_ble_eq_true rfl) rfl rfl ?_
        exact pv_ireti t_X10_compliment_37 rfl (by unfold a_X10_compliment; rw [if_neg c8, if_neg c15, if_pos c20]) rfl
      · skip
        refine pv_ldc t_X10_compliment_23 kc_X10_80 ?_
        refine pv_goto t_X10_compliment_25 ?_
        exact pv_ireti t_X10_compliment_37 rfl (by unfold a_X10_compliment; rw [if_neg c8, if_neg c15, if_neg c20]) rfl
  · skip
    refine pv_ldc t_X10_compliment_11 kc_X10_141 ?_
    exact pv_ireti t_X10_compliment_13 rfl (by unfold a_X10_compliment; rw [if_pos c8]) rfl
def a_X10_truth (f1 : Nat → Int32) (f4 : Nat → Int32) (f24 : Nat → Int32) (x : Int32) (y : Int32) : Int32 := (if (bz (zib x (f1 1))) = 0 then (-1000000001) else (if (bz (zib y (f1 0))) = 0 then (-1000000001) else tru f4 f24 x y))
theorem e_X10_truth {l : Launch} {X : zX} {d : Nat} {μ : zH} {x : Int32} {y : Int32} : zRn l X mi_X10_truth (d + 4) [.inr 0, .inl (x), .inl (y)] (zSH, μ) (some (.inl (a_X10_truth (μ 1) (μ 4) (μ 24) x y))) (zSH, μ) := by
  refine pv_aload_n (i := 0) t_X10_truth_0 rfl rfl ?_
  refine pv_getR t_X10_truth_1 fl_X10_10 hh_0 rfl ?_
  refine pv_iload_n (i := 1) t_X10_truth_4 rfl rfl ?_
  refine sv_V1 (bz (zib x ((μ 1) 1))) μ t_X10_truth_5 ml_X10_172 mo_X4_hasPhrase hh_1 rfl (Nat.le_of_ble_eq_true rfl) (e_X4_hasPhrase hM1) (Nat.le_of_ble_eq_true rfl) rfl rfl ?_
  refine pv_if_eq t_X10_truth_8 (fun c8 => ?_) (fun c8 => ?_)
  · skip
    refine pv_ldc t_X10_truth_22 kc_X10_141 ?_
    exact pv_ireti t_X10_truth_24 rfl (by unfold a_X10_truth; rw [if_pos c8]) rfl
  · skip
    refine pv_aload_n (i := 0) t_X10_truth_11 rfl rfl ?_
    refine pv_getR t_X10_truth_12 fl_X10_10 hh_0 rfl ?_
    refine pv_iload_n (i := 2) t_X10_truth_15 rfl rfl ?_
    refine sv_V1 (bz (zib y ((μ 1) 0))) μ t_X10_truth_16 ml_X10_137 mo_X4_hasPerson hh_1 rfl (Nat.le_of_ble_eq_true rfl) (e_X4_hasPerson hM1) (Nat.le_of_ble_eq_true rfl) rfl rfl ?_
    refine pv_if_ne t_X10_truth_19 (fun c19 => ?_) (fun c19 => ?_)
    · skip
      refine pv_aload_n (i := 0) t_X10_truth_25 rfl rfl ?_
      refine pv_getR t_X10_truth_26 fl_X10_28 hh_0 rfl ?_
      refine pv_getR t_X10_truth_29 fl_X10_56 hh_13 rfl ?_
      refine pv_iload_n (i := 1) t_X10_truth_32 rfl rfl ?_
      refine pv_iload_n (i := 2) t_X10_truth_33 rfl rfl ?_
      refine sv_V2 (tru (μ 4) (μ 24) x y) μ t_X10_truth_34 ml_X10_178 mo_X2_truthOf hh_23 rfl (Nat.le_of_ble_eq_true rfl) (e_X2_truthOf hM1 hF23) (Nat.le_of_ble_eq_true rfl) rfl rfl ?_
      exact pv_ireti t_X10_truth_37 rfl (by unfold a_X10_truth; rw [if_neg c8, if_neg c19]) rfl
    · skip
      refine pv_ldc t_X10_truth_22 kc_X10_141 ?_
      exact pv_ireti t_X10_truth_24 rfl (by unfold a_X10_truth; rw [if_neg c8, if_pos c19]) rfl
def a_X10_effect (f1 : Nat → Int32) (f3 : Nat → Int32) (f4 : Nat → Int32) (f21 : Nat → Int32) (f24 : Nat → Int32) (f25 : Nat → Int32) (x : Int32) (y : Int32) : Int32 := (if (bz (zib x (f1 1))) = 0 then (-1000000001) else (if (bz (zib y (f1 0))) = 0 then (-1000000001) else effS f3 f4 f24 f25 f21 x y))
theorem e_X10_effect {l : Launch} {X : zX} {d : Nat} {μ : zH} {x : Int32} {y : Int32} : zRn l X mi_X10_effect (d + 8) [.inr 0, .inl (x), .inl (y)] (zSH, μ) (some (.inl (a_X10_effect (μ 1) (μ 3) (μ 4) (μ 21) (μ 24) (μ 25) x y))) (zSH, μ) := by
  refine pv_aload_n (i := 0) t_X10_effect_0 rfl rfl ?_
  refine pv_getR t_X10_effect_1 fl_X10_10 hh_0 rfl ?_
  refine pv_iload_n (i := 1) t_X10_effect_4 rfl rfl ?_
  refine sv_V1 (bz (zib x ((μ 1) 1))) μ t_X10_effect_5 ml_X10_172 mo_X4_hasPhrase hh_1 rfl (Nat.le_of_ble_eq_true rfl) (e_X4_hasPhrase hM1) (Nat.le_of_ble_eq_true rfl) rfl rfl ?_
  refine pv_if_eq t_X10_effect_8 (fun c8 => ?_) (fun c8 => ?_)
  · skip
    refine pv_ldc t_X10_effect_22 kc_X10_141 ?_
    exact pv_ireti t_X10_effect_24 rfl (by unfold a_X10_effect; rw [if_pos c8]) rfl
  · skip
    refine pv_aload_n (i := 0) t_X10_effect_11 rfl rfl ?_
    refine pv_getR t_X10_effect_12 fl_X10_10 hh_0 rfl ?_
    refine pv_iload_n (i := 2) t_X10_effect_15 rfl rfl ?_
    refine sv_V1 (bz (zib y ((μ 1) 0))) μ t_X10_effect_16 ml_X10_137 mo_X4_hasPerson hh_1 rfl (Nat.le_of_ble_eq_true rfl) (e_X4_hasPerson hM1) (Nat.le_of_ble_eq_true rfl) rfl rfl ?_
    refine pv_if_ne t_X10_effect_19 (fun c19 => ?_) (fun c19 => ?_)
    · skip
      refine pv_aload_n (i := 0) t_X10_effect_25 rfl rfl ?_
      refine pv_getR t_X10_effect_26 fl_X10_28 hh_0 rfl ?_
      refine pv_iload_n (i := 1) t_X10_effect_29 rfl rfl ?_
      refine pv_iload_n (i := 2) t_X10_effect_30 rfl rfl ?_
      refine sv_V2 (effS (μ 3) (μ 4) (μ 24) (μ 25) (μ 21) x y) μ t_X10_effect_31 ml_X10_181 mo_X9_effectNow hh_13 rfl (Nat.le_of_ble_eq_true rfl) (e_X9_effectNow hM1 hF23 hD20 hL14 hC13) (Nat.le_of_ble_eq_true rfl) rfl rfl ?_
      exact pv_ireti t_X10_effect_34 rfl (by unfold a_X10_effect; rw [if_neg c8, if_neg c19]) rfl
    · skip
      refine pv_ldc t_X10_effect_22 kc_X10_141 ?_
      exact pv_ireti t_X10_effect_24 rfl (by unfold a_X10_effect; rw [if_neg c8, if_pos c19]) rfl
def a_X10_duel (f1 : Nat → Int32) (x : Int32) (y : Int32) : Int32 := (if (a_X10_areTwo f1 x y) = 0 then (-1000000001) else x)
def w_X10_duel_21 (f1 : Nat → Int32) (f21 : Nat → Int32) (x : Int32) (y : Int32) : Nat → Int32 := (if (a_X10_areTwo f1 x y) = 0 then f21 else dBg x y f21)
theorem e_X10_duel {l : Launch} {X : zX} {d : Nat} {μ : zH} {x : Int32} {y : Int32} : zRn l X mi_X10_duel (d + 6) [.inr 0, .inl (x), .inl (y)] (zSH, μ) (some (.inl (a_X10_duel (μ 1) x y))) (zSH, (zhs μ 21 (w_X10_duel_21 (μ 1) (μ 21) x y))) := by
  refine pv_aload_n (i := 0) t_X10_duel_0 rfl rfl ?_
  refine pv_iload_n (i := 1) t_X10_duel_1 rfl rfl ?_
  refine pv_iload_n (i := 2) t_X10_duel_2 rfl rfl ?_
  refine sv_V2 (a_X10_areTwo (μ 1) x y) μ t_X10_duel_3 ml_X10_184 mo_X10_areTwo hh_0 rfl (Nat.le_of_ble_eq_true rfl) (e_X10_areTwo) (Nat.le_of_ble_eq_true rfl) rfl rfl ?_
  refine pv_if_ne t_X10_duel_6 (fun c6 => ?_) (fun c6 => ?_)
  · skip
    refine pv_aload_n (i := 0) t_X10_duel_12 rfl rfl ?_
    refine pv_getR t_X10_duel_13 fl_X10_28 hh_0 rfl ?_
    refine pv_getR t_X10_duel_16 fl_X10_109 hh_13 rfl ?_
    refine pv_iload_n (i := 1) t_X10_duel_19 rfl rfl ?_
    refine pv_iload_n (i := 2) t_X10_duel_20 rfl rfl ?_
    refine sv_WV2 ((zhs μ 21 (dBg x y (μ 21)))) t_X10_duel_21 ml_X10_188 mo_X1_begin hh_20 rfl (Nat.le_of_ble_eq_true rfl) (e_X1_begin hD20) (Nat.le_of_ble_eq_true rfl) rfl ?_
    refine pv_iload_n (i := 1) t_X10_duel_24 rfl rfl ?_
    exact pv_ireti t_X10_duel_25 rfl (by unfold a_X10_duel; rw [if_neg c6]) (Prod.ext rfl (by have e21 : w_X10_duel_21 (μ 1) (μ 21) x y = dBg x y (μ 21) := (by unfold w_X10_duel_21; rw [if_neg c6]); show _ = (zhs μ 21 (w_X10_duel_21 (μ 1) (μ 21) x y)); symm; rw [e21]))
  · skip
    refine pv_ldc t_X10_duel_9 kc_X10_141 ?_
    exact pv_ireti t_X10_duel_11 rfl (by unfold a_X10_duel; rw [if_pos c6]) (Prod.ext rfl (by have e21 : w_X10_duel_21 (μ 1) (μ 21) x y = (μ 21) := (by unfold w_X10_duel_21; rw [if_pos c6]); show _ = (zhs μ 21 (w_X10_duel_21 (μ 1) (μ 21) x y)); symm; rw [e21]; rw [zhs_i2 (ν := μ) (k := 21) (g := (μ 21)) rfl]))
def a_X10_say (f1 : Nat → Int32) (f2 : Nat → Int32) (f3 : Nat → Int32) (f4 : Nat → Int32) (f21 : Nat → Int32) (f24 : Nat → Int32) (f25 : Nat → Int32) (x : Int32) : Int32 := (if (bz (zib x (f1 1))) = 0 then (-1000000001) else (if (bz (dAl f21 x)) = 0 then (-1000000003) else cell (plN f2 f3 f4 f24 f25 f21 x) 2))
def w_X10_say_22 (f1 : Nat → Int32) (f21 : Nat → Int32) (f22 : Nat → Int32) (x : Int32) : Nat → Int32 := (if (bz (zib x (f1 1))) = 0 then f22 else (if (bz (dAl f21 x)) = 0 then f22 else dRem f21 f22))
def w_X10_say_21 (f1 : Nat → Int32) (f2 : Nat → Int32) (f3 : Nat → Int32) (f4 : Nat → Int32) (f21 : Nat → Int32) (f24 : Nat → Int32) (f25 : Nat → Int32) (x : Int32) : Nat → Int32 := (if (bz (zib x (f1 1))) = 0 then f21 else (if (bz (dAl f21 x)) = 0 then f21 else plN f2 f3 f4 f24 f25 f21 x))
def w_X10_say_17 (f1 : Nat → Int32) (f2 : Nat → Int32) (f3 : Nat → Int32) (f4 : Nat → Int32) (f16 : Nat → Int32) (f17 : Nat → Int32) (f21 : Nat → Int32) (f24 : Nat → Int32) (f25 : Nat → Int32) (x : Int32) : Nat → Int32 := (if (bz (zib x (f1 1))) = 0 then f17 else (if (bz (dAl f21 x)) = 0 then f17 else pt17 f2 f3 f4 f24 f25 f21 f16 f17 x))
def w_X10_say_16 (f1 : Nat → Int32) (f2 : Nat → Int32) (f3 : Nat → Int32) (f4 : Nat → Int32) (f16 : Nat → Int32) (f21 : Nat → Int32) (f24 : Nat → Int32) (f25 : Nat → Int32) (x : Int32) : Nat → Int32 := (if (bz (zib x (f1 1))) = 0 then f16 else (if (bz (dAl f21 x)) = 0 then f16 else pt16 f2 f3 f4 f24 f25 f21 f16 x))
def w_X10_say_15 (f1 : Nat → Int32) (f2 : Nat → Int32) (f3 : Nat → Int32) (f4 : Nat → Int32) (f15 : Nat → Int32) (f21 : Nat → Int32) (f24 : Nat → Int32) (f25 : Nat → Int32) (x : Int32) : Nat → Int32 := (if (bz (zib x (f1 1))) = 0 then f15 else (if (bz (dAl f21 x)) = 0 then f15 else pt15 f2 f3 f4 f24 f25 f21 f15 x))
theorem e_X10_say {l : Launch} {X : zX} {d : Nat} {μ : zH} {x : Int32} : zRn l X mi_X10_say (d + 8) [.inr 0, .inl (x)] (zSH, μ) (some (.inl (a_X10_say (μ 1) (μ 2) (μ 3) (μ 4) (μ 21) (μ 24) (μ 25) x))) (zSH, (zhs (zhs (zhs (zhs (zhs μ 22 (w_X10_say_22 (μ 1) (μ 21) (μ 22) x)) 21 (w_X10_say_21 (μ 1) (μ 2) (μ 3) (μ 4) (μ 21) (μ 24) (μ 25) x)) 17 (w_X10_say_17 (μ 1) (μ 2) (μ 3) (μ 4) (μ 16) (μ 17) (μ 21) (μ 24) (μ 25) x)) 16 (w_X10_say_16 (μ 1) (μ 2) (μ 3) (μ 4) (μ 16) (μ 21) (μ 24) (μ 25) x)) 15 (w_X10_say_15 (μ 1) (μ 2) (μ 3) (μ 4) (μ 15) (μ 21) (μ 24) (μ 25) x))) := by
  refine pv_aload_n (i := 0) t_X10_say_0 rfl rfl ?_
  refine pv_getR t_X10_say_1 fl_X10_10 hh_0 rfl ?_
  refine pv_iload_n (i := 1) t_X10_say_4 rfl rfl ?_
  refine sv_V1 (bz (zib x ((μ 1) 1))) μ t_X10_say_5 ml_X10_172 mo_X4_hasPhrase hh_1 rfl (Nat.le_of_ble_eq_true rfl) (e_X4_hasPhrase hM1) (Nat.le_of_ble_eq_true rfl) rfl rfl ?_
  refine pv_if_ne t_X10_say_8 (fun c8 => ?_) (fun c8 => ?_)
  · skip
    refine pv_aload_n (i := 0) t_X10_say_14 rfl rfl ?_
    refine pv_getR t_X10_say_15 fl_X10_28 hh_0 rfl ?_
    refine pv_getR t_X10_say_18 fl_X10_109 hh_13 rfl ?_
    refine pv_iload_n (i := 1) t_X10_say_21 rfl rfl ?_
    refine sv_V1 (bz (dAl (μ 21) x)) μ t_X10_say_22 ml_X10_192 mo_X1_allows hh_20 rfl (Nat.le_of_ble_eq_true rfl) (e_X1_allows hD20) (Nat.le_of_ble_eq_true rfl) rfl rfl ?_
    refine pv_if_ne t_X10_say_25 (fun c25 => ?_) (fun c25 => ?_)
    · skip
      refine pv_aload_n (i := 0) t_X10_say_31 rfl rfl ?_
      refine pv_getR t_X10_say_32 fl_X10_28 hh_0 rfl ?_
      refine pv_iload_n (i := 1) t_X10_say_35 rfl rfl ?_
      refine sv_V1 (cell (plN (μ 2) (μ 3) (μ 4) (μ 24) (μ 25) (μ 21) x) 2) ((zhs (zhs (zhs (zhs (zhs μ 22 (dRem (μ 21) (μ 22))) 21 (plN (μ 2) (μ 3) (μ 4) (μ 24) (μ 25) (μ 21) x)) 17 (pt17 (μ 2) (μ 3) (μ 4) (μ 24) (μ 25) (μ 21) (μ 16) (μ 17) x)) 16 (pt16 (μ 2) (μ 3) (μ 4) (μ 24) (μ 25) (μ 21) (μ 16) x)) 15 (pt15 (μ 2) (μ 3) (μ 4) (μ 24) (μ 25) (μ 21) (μ 15) x))) t_X10_say_36 ml_X10_196 mo_X9_playTurn hh_13 rfl (Nat.le_of_ble_eq_true rfl) e_turn (Nat.le_of_ble_eq_true rfl) rfl rfl ?_
      exact pv_ireti t_X10_say_39 rfl (by unfold a_X10_say; rw [if_neg c8, if_neg c25]) (Prod.ext rfl (by have e22 : w_X10_say_22 (μ 1) (μ 21) (μ 22) x = dRem (μ 21) (μ 22) := (by unfold w_X10_say_22; rw [if_neg c8, if_neg c25]); have e21 : w_X10_say_21 (μ 1) (μ 2) (μ 3) (μ 4) (μ 21) (μ 24) (μ 25) x = plN (μ 2) (μ 3) (μ 4) (μ 24) (μ 25) (μ 21) x := (by unfold w_X10_say_21; rw [if_neg c8, if_neg c25]); have e17 : w_X10_say_17 (μ 1) (μ 2) (μ 3) (μ 4) (μ 16) (μ 17) (μ 21) (μ 24) (μ 25) x = pt17 (μ 2) (μ 3) (μ 4) (μ 24) (μ 25) (μ 21) (μ 16) (μ 17) x := (by unfold w_X10_say_17; rw [if_neg c8, if_neg c25]); have e16 : w_X10_say_16 (μ 1) (μ 2) (μ 3) (μ 4) (μ 16) (μ 21) (μ 24) (μ 25) x = pt16 (μ 2) (μ 3) (μ 4) (μ 24) (μ 25) (μ 21) (μ 16) x := (by unfold w_X10_say_16; rw [if_neg c8, if_neg c25]); have e15 : w_X10_say_15 (μ 1) (μ 2) (μ 3) (μ 4) (μ 15) (μ 21) (μ 24) (μ 25) x = pt15 (μ 2) (μ 3) (μ 4) (μ 24) (μ 25) (μ 21) (μ 15) x := (by unfold w_X10_say_15; rw [if_neg c8, if_neg c25]); show _ = (zhs (zhs (zhs (zhs (zhs μ 22 (w_X10_say_22 (μ 1) (μ 21) (μ 22) x)) 21 (w_X10_say_21 (μ 1) (μ 2) (μ 3) (μ 4) (μ 21) (μ 24) (μ 25) x)) 17 (w_X10_say_17 (μ 1) (μ 2) (μ 3) (μ 4) (μ 16) (μ 17) (μ 21) (μ 24) (μ 25) x)) 16 (w_X10_say_16 (μ 1) (μ 2) (μ 3) (μ 4) (μ 16) (μ 21) (μ 24) (μ 25) x)) 15 (w_X10_say_15 (μ 1) (μ 2) (μ 3) (μ 4) (μ 15) (μ 21) (μ 24) (μ 25) x)); symm; rw [e22, e21, e17, e16, e15]))
    · skip
      refine pv_ldc t_X10_say_28 kc_X10_195 ?_
      exact pv_ireti t_X10_say_30 rfl (by unfold a_X10_say; rw [if_neg c8, if_pos c25]) (Prod.ext rfl (by have e22 : w_X10_say_22 (μ 1) (μ 21) (μ 22) x = (μ 22) := (by unfold w_X10_say_22; rw [if_neg c8, if_pos c25]); have e21 : w_X10_say_21 (μ 1) (μ 2) (μ 3) (μ 4) (μ 21) (μ 24) (μ 25) x = (μ 21) := (by unfold w_X10_say_21; rw [if_neg c8, if_pos c25]); have e17 : w_X10_say_17 (μ 1) (μ 2) (μ 3) (μ 4) (μ 16) (μ 17) (μ 21) (μ 24) (μ 25) x = (μ 17) := (by unfold w_X10_say_17; rw [if_neg c8, if_pos c25]); have e16 : w_X10_say_16 (μ 1) (μ 2) (μ 3) (μ 4) (μ 16) (μ 21) (μ 24) (μ 25) x = (μ 16) := (by unfold w_X10_say_16; rw [if_neg c8, if_pos c25]); have e15 : w_X10_say_15 (μ 1) (μ 2) (μ 3) (μ 4) (μ 15) (μ 21) (μ 24) (μ 25) x = (μ 15) := (by unfold w_X10_say_15; rw [if_neg c8, if_pos c25]); show _ = (zhs (zhs (zhs (zhs (zhs μ 22 (w_X10_say_22 (μ 1) (μ 21) (μ 22) x)) 21 (w_X10_say_21 (μ 1) (μ 2) (μ 3) (μ 4) (μ 21) (μ 24) (μ 25) x)) 17 (w_X10_say_17 (μ 1) (μ 2) (μ 3) (μ 4) (μ 16) (μ 17) (μ 21) (μ 24) (μ 25) x)) 16 (w_X10_say_16 (μ 1) (μ 2) (μ 3) (μ 4) (μ 16) (μ 21) (μ 24) (μ 25) x)) 15 (w_X10_say_15 (μ 1) (μ 2) (μ 3) (μ 4) (μ 15) (μ 21) (μ 24) (μ 25) x)); symm; rw [e22, e21, e17, e16, e15]; rw [zhs_i2 (ν := μ) (k := 22) (g := (μ 22)) rfl, zhs_i2 (ν := μ) (k := 21) (g := (μ 21)) rfl, zhs_i2 (ν := μ) (k := 17) (g := (μ 17)) rfl, zhs_i2 (ν := μ) (k := 16) (g := (μ 16)) rfl, zhs_i2 (ν := μ) (k := 15) (g := (μ 15)) rfl]))
  · skip
    refine pv_ldc t_X10_say_11 kc_X10_141 ?_
    exact pv_ireti t_X10_say_13 rfl (by unfold a_X10_say; rw [if_pos c8]) (Prod.ext rfl (by have e22 : w_X10_say_22 (μ 1) (μ 21) (μ 22) x = (μ 22) := (by unfold w_X10_say_22; rw [if_pos c8]); have e21 : w_X10_say_21 (μ 1) (μ 2) (μ 3) (μ 4) (μ 21) (μ 24) (μ 25) x = (μ 21) := (by unfold w_X10_say_21; rw [if_pos c8]); have e17 : w_X10_say_17 (μ 1) (μ 2) (μ 3) (μ 4) (μ 16) (μ 17) (μ 21) (μ 24) (μ 25) x = (μ 17) := (by unfold w_X10_say_17; rw [if_pos c8]); have e16 : w_X10_say_16 (μ 1) (μ 2) (μ 3) (μ 4) (μ 16) (μ 21) (μ 24) (μ 25) x = (μ 16) := (by unfold w_X10_say_16; rw [if_pos c8]); have e15 : w_X10_say_15 (μ 1) (μ 2) (μ 3) (μ 4) (μ 15) (μ 21) (μ 24) (μ 25) x = (μ 15) := (by unfold w_X10_say_15; rw [if_pos c8]); show _ = (zhs (zhs (zhs (zhs (zhs μ 22 (w_X10_say_22 (μ 1) (μ 21) (μ 22) x)) 21 (w_X10_say_21 (μ 1) (μ 2) (μ 3) (μ 4) (μ 21) (μ 24) (μ 25) x)) 17 (w_X10_say_17 (μ 1) (μ 2) (μ 3) (μ 4) (μ 16) (μ 17) (μ 21) (μ 24) (μ 25) x)) 16 (w_X10_say_16 (μ 1) (μ 2) (μ 3) (μ 4) (μ 16) (μ 21) (μ 24) (μ 25) x)) 15 (w_X10_say_15 (μ 1) (μ 2) (μ 3) (μ 4) (μ 15) (μ 21) (μ 24) (μ 25) x)); symm; rw [e22, e21, e17, e16, e15]; rw [zhs_i2 (ν := μ) (k := 22) (g := (μ 22)) rfl, zhs_i2 (ν := μ) (k := 21) (g := (μ 21)) rfl, zhs_i2 (ν := μ) (k := 17) (g := (μ 17)) rfl, zhs_i2 (ν := μ) (k := 16) (g := (μ 16)) rfl, zhs_i2 (ν := μ) (k := 15) (g := (μ 15)) rfl]))
def a_X10_pass (f2 : Nat → Int32) (f3 : Nat → Int32) (f4 : Nat → Int32) (f21 : Nat → Int32) (f24 : Nat → Int32) (f25 : Nat → Int32) : Int32 := (if (bz (dAl f21 8)) = 0 then (-1000000003) else cell (plN f2 f3 f4 f24 f25 f21 8) 2)
def w_X10_pass_22 (f21 : Nat → Int32) (f22 : Nat → Int32) : Nat → Int32 := (if (bz (dAl f21 8)) = 0 then f22 else dRem f21 f22)
def w_X10_pass_21 (f2 : Nat → Int32) (f3 : Nat → Int32) (f4 : Nat → Int32) (f21 : Nat → Int32) (f24 : Nat → Int32) (f25 : Nat → Int32) : Nat → Int32 := (if (bz (dAl f21 8)) = 0 then f21 else plN f2 f3 f4 f24 f25 f21 8)
def w_X10_pass_17 (f2 : Nat → Int32) (f3 : Nat → Int32) (f4 : Nat → Int32) (f16 : Nat → Int32) (f17 : Nat → Int32) (f21 : Nat → Int32) (f24 : Nat → Int32) (f25 : Nat → Int32) : Nat → Int32 := (if (bz (dAl f21 8)) = 0 then f17 else pt17 f2 f3 f4 f24 f25 f21 f16 f17 8)
def w_X10_pass_16 (f2 : Nat → Int32) (f3 : Nat → Int32) (f4 : Nat → Int32) (f16 : Nat → Int32) (f21 : Nat → Int32) (f24 : Nat → Int32) (f25 : Nat → Int32) : Nat → Int32 := (if (bz (dAl f21 8)) = 0 then f16 else pt16 f2 f3 f4 f24 f25 f21 f16 8)
def w_X10_pass_15 (f2 : Nat → Int32) (f3 : Nat → Int32) (f4 : Nat → Int32) (f15 : Nat → Int32) (f21 : Nat → Int32) (f24 : Nat → Int32) (f25 : Nat → Int32) : Nat → Int32 := (if (bz (dAl f21 8)) = 0 then f15 else pt15 f2 f3 f4 f24 f25 f21 f15 8)
theorem e_X10_pass {l : Launch} {X : zX} {d : Nat} {μ : zH} : zRn l X mi_X10_pass (d + 8) [.inr 0] (zSH, μ) (some (.inl (a_X10_pass (μ 2) (μ 3) (μ 4) (μ 21) (μ 24) (μ 25)))) (zSH, (zhs (zhs (zhs (zhs (zhs μ 22 (w_X10_pass_22 (μ 21) (μ 22))) 21 (w_X10_pass_21 (μ 2) (μ 3) (μ 4) (μ 21) (μ 24) (μ 25))) 17 (w_X10_pass_17 (μ 2) (μ 3) (μ 4) (μ 16) (μ 17) (μ 21) (μ 24) (μ 25))) 16 (w_X10_pass_16 (μ 2) (μ 3) (μ 4) (μ 16) (μ 21) (μ 24) (μ 25))) 15 (w_X10_pass_15 (μ 2) (μ 3) (μ 4) (μ 15) (μ 21) (μ 24) (μ 25)))) := by
  refine pv_aload_n (i := 0) t_X10_pass_0 rfl rfl ?_
  refine pv_getR t_X10_pass_1 fl_X10_28 hh_0 rfl ?_
  refine pv_getR t_X10_pass_4 fl_X10_109 hh_13 rfl ?_
  refine pv_bipush (v := 8) t_X10_pass_7 zb_8 ?_
  refine sv_V1 (bz (dAl (μ 21) 8)) μ t_X10_pass_9 ml_X10_192 mo_X1_allows hh_20 rfl (Nat.le_of_ble_eq_true rfl) (e_X1_allows hD20) (Nat.le_of_ble_eq_true rfl) rfl rfl ?_
  refine pv_if_eq t_X10_pass_12 (fun c12 => ?_) (fun c12 => ?_)
  · skip
    refine pv_ldc t_X10_pass_27 kc_X10_195 ?_
    exact pv_ireti t_X10_pass_29 rfl (by unfold a_X10_pass; rw [if_pos c12]) (Prod.ext rfl (by have e22 : w_X10_pass_22 (μ 21) (μ 22) = (μ 22) := (by unfold w_X10_pass_22; rw [if_pos c12]); have e21 : w_X10_pass_21 (μ 2) (μ 3) (μ 4) (μ 21) (μ 24) (μ 25) = (μ 21) := (by unfold w_X10_pass_21; rw [if_pos c12]); have e17 : w_X10_pass_17 (μ 2) (μ 3) (μ 4) (μ 16) (μ 17) (μ 21) (μ 24) (μ 25) = (μ 17) := (by unfold w_X10_pass_17; rw [if_pos c12]); have e16 : w_X10_pass_16 (μ 2) (μ 3) (μ 4) (μ 16) (μ 21) (μ 24) (μ 25) = (μ 16) := (by unfold w_X10_pass_16; rw [if_pos c12]); have e15 : w_X10_pass_15 (μ 2) (μ 3) (μ 4) (μ 15) (μ 21) (μ 24) (μ 25) = (μ 15) := (by unfold w_X10_pass_15; rw [if_pos c12]); show _ = (zhs (zhs (zhs (zhs (zhs μ 22 (w_X10_pass_22 (μ 21) (μ 22))) 21 (w_X10_pass_21 (μ 2) (μ 3) (μ 4) (μ 21) (μ 24) (μ 25))) 17 (w_X10_pass_17 (μ 2) (μ 3) (μ 4) (μ 16) (μ 17) (μ 21) (μ 24) (μ 25))) 16 (w_X10_pass_16 (μ 2) (μ 3) (μ 4) (μ 16) (μ 21) (μ 24) (μ 25))) 15 (w_X10_pass_15 (μ 2) (μ 3) (μ 4) (μ 15) (μ 21) (μ 24) (μ 25))); symm; rw [e22, e21, e17, e16, e15]; rw [zhs_i2 (ν := μ) (k := 22) (g := (μ 22)) rfl, zhs_i2 (ν := μ) (k := 21) (g := (μ 21)) rfl, zhs_i2 (ν := μ) (k := 17) (g := (μ 17)) rfl, zhs_i2 (ν := μ) (k := 16) (g := (μ 16)) rfl, zhs_i2 (ν := μ) (k := 15) (g := (μ 15)) rfl]))
  · skip
    refine pv_aload_n (i := 0) t_X10_pass_15 rfl rfl ?_
    refine pv_getR t_X10_pass_16 fl_X10_28 hh_0 rfl ?_
    refine pv_bipush (v := 8) t_X10_pass_19 zb_8 ?_
    refine sv_V1 (cell (plN (μ 2) (μ 3) (μ 4) (μ 24) (μ 25) (μ 21) 8) 2) ((zhs (zhs (zhs (zhs (zhs μ 22 (dRem (μ 21) (μ 22))) 21 (plN (μ 2) (μ 3) (μ 4) (μ 24) (μ 25) (μ 21) 8)) 17 (pt17 (μ 2) (μ 3) (μ 4) (μ 24) (μ 25) (μ 21) (μ 16) (μ 17) 8)) 16 (pt16 (μ 2) (μ 3) (μ 4) (μ 24) (μ 25) (μ 21) (μ 16) 8)) 15 (pt15 (μ 2) (μ 3) (μ 4) (μ 24) (μ 25) (μ 21) (μ 15) 8))) t_X10_pass_21 ml_X10_196 mo_X9_playTurn hh_13 rfl (Nat.le_of_ble_eq_true rfl) e_turn (Nat.le_of_ble_eq_true rfl) rfl rfl ?_
    refine pv_goto t_X10_pass_24 ?_
    exact pv_ireti t_X10_pass_29 rfl (by unfold a_X10_pass; rw [if_neg c12]) (Prod.ext rfl (by have e22 : w_X10_pass_22 (μ 21) (μ 22) = dRem (μ 21) (μ 22) := (by unfold w_X10_pass_22; rw [if_neg c12]); have e21 : w_X10_pass_21 (μ 2) (μ 3) (μ 4) (μ 21) (μ 24) (μ 25) = plN (μ 2) (μ 3) (μ 4) (μ 24) (μ 25) (μ 21) 8 := (by unfold w_X10_pass_21; rw [if_neg c12]); have e17 : w_X10_pass_17 (μ 2) (μ 3) (μ 4) (μ 16) (μ 17) (μ 21) (μ 24) (μ 25) = pt17 (μ 2) (μ 3) (μ 4) (μ 24) (μ 25) (μ 21) (μ 16) (μ 17) 8 := (by unfold w_X10_pass_17; rw [if_neg c12]); have e16 : w_X10_pass_16 (μ 2) (μ 3) (μ 4) (μ 16) (μ 21) (μ 24) (μ 25) = pt16 (μ 2) (μ 3) (μ 4) (μ 24) (μ 25) (μ 21) (μ 16) 8 := (by unfold w_X10_pass_16; rw [if_neg c12]); have e15 : w_X10_pass_15 (μ 2) (μ 3) (μ 4) (μ 15) (μ 21) (μ 24) (μ 25) = pt15 (μ 2) (μ 3) (μ 4) (μ 24) (μ 25) (μ 21) (μ 15) 8 := (by unfold w_X10_pass_15; rw [if_neg c12]); show _ = (zhs (zhs (zhs (zhs (zhs μ 22 (w_X10_pass_22 (μ 21) (μ 22))) 21 (w_X10_pass_21 (μ 2) (μ 3) (μ 4) (μ 21) (μ 24) (μ 25))) 17 (w_X10_pass_17 (μ 2) (μ 3) (μ 4) (μ 16) (μ 17) (μ 21) (μ 24) (μ 25))) 16 (w_X10_pass_16 (μ 2) (μ 3) (μ 4) (μ 16) (μ 21) (μ 24) (μ 25))) 15 (w_X10_pass_15 (μ 2) (μ 3) (μ 4) (μ 15) (μ 21) (μ 24) (μ 25))); symm; rw [e22, e21, e17, e16, e15]))
def a_X10_sorr (f2 : Nat → Int32) (f3 : Nat → Int32) (f4 : Nat → Int32) (f21 : Nat → Int32) (f24 : Nat → Int32) (f25 : Nat → Int32) : Int32 := (if (bz (dAl f21 9)) = 0 then (-1000000003) else cell (plN f2 f3 f4 f24 f25 f21 9) (8 + (dSd f21)))
def w_X10_sorr_22 (f21 : Nat → Int32) (f22 : Nat → Int32) : Nat → Int32 := (if (bz (dAl f21 9)) = 0 then f22 else dRem f21 f22)
def w_X10_sorr_21 (f2 : Nat → Int32) (f3 : Nat → Int32) (f4 : Nat → Int32) (f21 : Nat → Int32) (f24 : Nat → Int32) (f25 : Nat → Int32) : Nat → Int32 := (if (bz (dAl f21 9)) = 0 then f21 else plN f2 f3 f4 f24 f25 f21 9)
def w_X10_sorr_17 (f2 : Nat → Int32) (f3 : Nat → Int32) (f4 : Nat → Int32) (f16 : Nat → Int32) (f17 : Nat → Int32) (f21 : Nat → Int32) (f24 : Nat → Int32) (f25 : Nat → Int32) : Nat → Int32 := (if (bz (dAl f21 9)) = 0 then f17 else pt17 f2 f3 f4 f24 f25 f21 f16 f17 9)
def w_X10_sorr_16 (f2 : Nat → Int32) (f3 : Nat → Int32) (f4 : Nat → Int32) (f16 : Nat → Int32) (f21 : Nat → Int32) (f24 : Nat → Int32) (f25 : Nat → Int32) : Nat → Int32 := (if (bz (dAl f21 9)) = 0 then f16 else pt16 f2 f3 f4 f24 f25 f21 f16 9)
def w_X10_sorr_15 (f2 : Nat → Int32) (f3 : Nat → Int32) (f4 : Nat → Int32) (f15 : Nat → Int32) (f21 : Nat → Int32) (f24 : Nat → Int32) (f25 : Nat → Int32) : Nat → Int32 := (if (bz (dAl f21 9)) = 0 then f15 else pt15 f2 f3 f4 f24 f25 f21 f15 9)
theorem e_X10_sorr {l : Launch} {X : zX} {d : Nat} {μ : zH} : zRn l X mi_X10_sorr (d + 8) [.inr 0] (zSH, μ) (some (.inl (a_X10_sorr (μ 2) (μ 3) (μ 4) (μ 21) (μ 24) (μ 25)))) (zSH, (zhs (zhs (zhs (zhs (zhs μ 22 (w_X10_sorr_22 (μ 21) (μ 22))) 21 (w_X10_sorr_21 (μ 2) (μ 3) (μ 4) (μ 21) (μ 24) (μ 25))) 17 (w_X10_sorr_17 (μ 2) (μ 3) (μ 4) (μ 16) (μ 17) (μ 21) (μ 24) (μ 25))) 16 (w_X10_sorr_16 (μ 2) (μ 3) (μ 4) (μ 16) (μ 21) (μ 24) (μ 25))) 15 (w_X10_sorr_15 (μ 2) (μ 3) (μ 4) (μ 15) (μ 21) (μ 24) (μ 25)))) := by
  refine pv_aload_n (i := 0) t_X10_sorr_0 rfl rfl ?_
  refine pv_getR t_X10_sorr_1 fl_X10_28 hh_0 rfl ?_
  refine pv_getR t_X10_sorr_4 fl_X10_109 hh_13 rfl ?_
  refine pv_bipush (v := 9) t_X10_sorr_7 zb_9 ?_
  refine sv_V1 (bz (dAl (μ 21) 9)) μ t_X10_sorr_9 ml_X10_192 mo_X1_allows hh_20 rfl (Nat.le_of_ble_eq_true rfl) (e_X1_allows hD20) (Nat.le_of_ble_eq_true rfl) rfl rfl ?_
  refine pv_if_ne t_X10_sorr_12 (fun c12 => ?_) (fun c12 => ?_)
  · skip
    refine pv_aload_n (i := 0) t_X10_sorr_18 rfl rfl ?_
    refine pv_getR t_X10_sorr_19 fl_X10_28 hh_0 rfl ?_
    refine pv_getR t_X10_sorr_22 fl_X10_109 hh_13 rfl ?_
    refine sv_V0 (dSd (μ 21)) μ t_X10_sorr_25 ml_X10_125 mo_X1_side hh_20 rfl (Nat.le_of_ble_eq_true rfl) (e_X1_side hD20) (Nat.le_of_ble_eq_true rfl) rfl rfl ?_
    refine pv_istore_n (i := 1) t_X10_sorr_28 rfl (Nat.le_of_ble_eq_true rfl) ?_
    refine pv_aload_n (i := 0) t_X10_sorr_29 rfl rfl ?_
    refine pv_getR t_X10_sorr_30 fl_X10_28 hh_0 rfl ?_
    refine pv_bipush (v := 9) t_X10_sorr_33 zb_9 ?_
    refine sv_V1 (cell (plN (μ 2) (μ 3) (μ 4) (μ 24) (μ 25) (μ 21) 9) 2) ((zhs (zhs (zhs (zhs (zhs μ 22 (dRem (μ 21) (μ 22))) 21 (plN (μ 2) (μ 3) (μ 4) (μ 24) (μ 25) (μ 21) 9)) 17 (pt17 (μ 2) (μ 3) (μ 4) (μ 24) (μ 25) (μ 21) (μ 16) (μ 17) 9)) 16 (pt16 (μ 2) (μ 3) (μ 4) (μ 24) (μ 25) (μ 21) (μ 16) 9)) 15 (pt15 (μ 2) (μ 3) (μ 4) (μ 24) (μ 25) (μ 21) (μ 15) 9))) t_X10_sorr_35 ml_X10_196 mo_X9_playTurn hh_13 rfl (Nat.le_of_ble_eq_true rfl) e_turn (Nat.le_of_ble_eq_true rfl) rfl rfl ?_
    refine pv_pop t_X10_sorr_38 ?_
    refine pv_aload_n (i := 0) t_X10_sorr_39 rfl rfl ?_
    refine pv_getR t_X10_sorr_40 fl_X10_28 hh_0 rfl ?_
    refine pv_getR t_X10_sorr_43 fl_X10_109 hh_13 rfl ?_
    refine pv_bipush (v := 8) t_X10_sorr_46 zb_8 ?_
    refine pv_iload_n (i := 1) t_X10_sorr_48 rfl rfl ?_
    refine pv_iadd t_X10_sorr_49 ?_
    refine sv_V1 (cell (plN (μ 2) (μ 3) (μ 4) (μ 24) (μ 25) (μ 21) 9) (8 + (dSd (μ 21)))) ((zhs (zhs (zhs (zhs (zhs μ 22 (dRem (μ 21) (μ 22))) 21 (plN (μ 2) (μ 3) (μ 4) (μ 24) (μ 25) (μ 21) 9)) 17 (pt17 (μ 2) (μ 3) (μ 4) (μ 24) (μ 25) (μ 21) (μ 16) (μ 17) 9)) 16 (pt16 (μ 2) (μ 3) (μ 4) (μ 24) (μ 25) (μ 21) (μ 16) 9)) 15 (pt15 (μ 2) (μ 3) (μ 4) (μ 24) (μ 25) (μ 21) (μ 15) 9))) t_X10_sorr_50 ml_X10_118 mo_X1_cell hh_20 rfl (Nat.le_of_ble_eq_true rfl) (e_X1_cell hD20) (Nat.le_of_ble_eq_true rfl) rfl rfl ?_
    exact pv_ireti t_X10_sorr_53 rfl (by unfold a_X10_sorr; rw [if_neg c12]) (Prod.ext rfl (by have e22 : w_X10_sorr_22 (μ 21) (μ 22) = dRem (μ 21) (μ 22) := (by unfold w_X10_sorr_22; rw [if_neg c12]); have e21 : w_X10_sorr_21 (μ 2) (μ 3) (μ 4) (μ 21) (μ 24) (μ 25) = plN (μ 2) (μ 3) (μ 4) (μ 24) (μ 25) (μ 21) 9 := (by unfold w_X10_sorr_21; rw [if_neg c12]); have e17 : w_X10_sorr_17 (μ 2) (μ 3) (μ 4) (μ 16) (μ 17) (μ 21) (μ 24) (μ 25) = pt17 (μ 2) (μ 3) (μ 4) (μ 24) (μ 25) (μ 21) (μ 16) (μ 17) 9 := (by unfold w_X10_sorr_17; rw [if_neg c12]); have e16 : w_X10_sorr_16 (μ 2) (μ 3) (μ 4) (μ 16) (μ 21) (μ 24) (μ 25) = pt16 (μ 2) (μ 3) (μ 4) (μ 24) (μ 25) (μ 21) (μ 16) 9 := (by unfold w_X10_sorr_16; rw [if_neg c12]); have e15 : w_X10_sorr_15 (μ 2) (μ 3) (μ 4) (μ 15) (μ 21) (μ 24) (μ 25) = pt15 (μ 2) (μ 3) (μ 4) (μ 24) (μ 25) (μ 21) (μ 15) 9 := (by unfold w_X10_sorr_15; rw [if_neg c12]); show _ = (zhs (zhs (zhs (zhs (zhs μ 22 (w_X10_sorr_22 (μ 21) (μ 22))) 21 (w_X10_sorr_21 (μ 2) (μ 3) (μ 4) (μ 21) (μ 24) (μ 25))) 17 (w_X10_sorr_17 (μ 2) (μ 3) (μ 4) (μ 16) (μ 17) (μ 21) (μ 24) (μ 25))) 16 (w_X10_sorr_16 (μ 2) (μ 3) (μ 4) (μ 16) (μ 21) (μ 24) (μ 25))) 15 (w_X10_sorr_15 (μ 2) (μ 3) (μ 4) (μ 15) (μ 21) (μ 24) (μ 25))); symm; rw [e22, e21, e17, e16, e15]))
  · skip
    refine pv_ldc t_X10_sorr_15 kc_X10_195 ?_
    exact pv_ireti t_X10_sorr_17 rfl (by unfold a_X10_sorr; rw [if_pos c12]) (Prod.ext rfl (by have e22 : w_X10_sorr_22 (μ 21) (μ 22) = (μ 22) := (by unfold w_X10_sorr_22; rw [if_pos c12]); have e21 : w_X10_sorr_21 (μ 2) (μ 3) (μ 4) (μ 21) (μ 24) (μ 25) = (μ 21) := (by unfold w_X10_sorr_21; rw [if_pos c12]); have e17 : w_X10_sorr_17 (μ 2) (μ 3) (μ 4) (μ 16) (μ 17) (μ 21) (μ 24) (μ 25) = (μ 17) := (by unfold w_X10_sorr_17; rw [if_pos c12]); have e16 : w_X10_sorr_16 (μ 2) (μ 3) (μ 4) (μ 16) (μ 21) (μ 24) (μ 25) = (μ 16) := (by unfold w_X10_sorr_16; rw [if_pos c12]); have e15 : w_X10_sorr_15 (μ 2) (μ 3) (μ 4) (μ 15) (μ 21) (μ 24) (μ 25) = (μ 15) := (by unfold w_X10_sorr_15; rw [if_pos c12]); show _ = (zhs (zhs (zhs (zhs (zhs μ 22 (w_X10_sorr_22 (μ 21) (μ 22))) 21 (w_X10_sorr_21 (μ 2) (μ 3) (μ 4) (μ 21) (μ 24) (μ 25))) 17 (w_X10_sorr_17 (μ 2) (μ 3) (μ 4) (μ 16) (μ 17) (μ 21) (μ 24) (μ 25))) 16 (w_X10_sorr_16 (μ 2) (μ 3) (μ 4) (μ 16) (μ 21) (μ 24) (μ 25))) 15 (w_X10_sorr_15 (μ 2) (μ 3) (μ 4) (μ 15) (μ 21) (μ 24) (μ 25))); symm; rw [e22, e21, e17, e16, e15]; rw [zhs_i2 (ν := μ) (k := 22) (g := (μ 22)) rfl, zhs_i2 (ν := μ) (k := 21) (g := (μ 21)) rfl, zhs_i2 (ν := μ) (k := 17) (g := (μ 17)) rfl, zhs_i2 (ν := μ) (k := 16) (g := (μ 16)) rfl, zhs_i2 (ν := μ) (k := 15) (g := (μ 15)) rfl]))
def a_X10_undo (f21 : Nat → Int32) (f22 : Nat → Int32) (x : Int32) : Int32 := (if x < 1 then (-1000000002) else (if x ≤ 60 then (if (bz (dEx f21)) = 0 then (-1000000003) else (if x ≤ (cell f21 3) then cell (dTB f21 f22 x) 3 else (-1000000003))) else (-1000000002)))
def w_X10_undo_16 (f16 : Nat → Int32) (f21 : Nat → Int32) (x : Int32) : Nat → Int32 := (if x < 1 then f16 else (if x ≤ 60 then (if (bz (dEx f21)) = 0 then f16 else (if x ≤ (cell f21 3) then tb16 f21 f16 else f16)) else f16))
def w_X10_undo_15 (f15 : Nat → Int32) (f21 : Nat → Int32) (x : Int32) : Nat → Int32 := (if x < 1 then f15 else (if x ≤ 60 then (if (bz (dEx f21)) = 0 then f15 else (if x ≤ (cell f21 3) then tb15 f21 f15 else f15)) else f15))
def w_X10_undo_21 (f21 : Nat → Int32) (f22 : Nat → Int32) (x : Int32) : Nat → Int32 := (if x < 1 then f21 else (if x ≤ 60 then (if (bz (dEx f21)) = 0 then f21 else (if x ≤ (cell f21 3) then dTB f21 f22 x else f21)) else f21))
theorem e_X10_undo {l : Launch} {X : zX} {d : Nat} {μ : zH} {x : Int32} : zRn l X mi_X10_undo (d + 8) [.inr 0, .inl (x)] (zSH, μ) (some (.inl (a_X10_undo (μ 21) (μ 22) x))) (zSH, (zhs (zhs (zhs μ 16 (w_X10_undo_16 (μ 16) (μ 21) x)) 15 (w_X10_undo_15 (μ 15) (μ 21) x)) 21 (w_X10_undo_21 (μ 21) (μ 22) x))) := by
  refine pv_iload_n (i := 1) t_X10_undo_0 rfl rfl ?_
  refine pv_iconst (v := 1) t_X10_undo_1 zi_1 ?_
  refine pv_icmp_lt t_X10_undo_2 (fun c2 => ?_) (fun c2 => ?_)
  · skip
    refine pv_ldc t_X10_undo_11 kc_X10_80 ?_
    exact pv_ireti t_X10_undo_13 rfl (by unfold a_X10_undo; rw [if_pos c2]) (Prod.ext rfl (by have e16 : w_X10_undo_16 (μ 16) (μ 21) x = (μ 16) := (by unfold w_X10_undo_16; rw [if_pos c2]); have e15 : w_X10_undo_15 (μ 15) (μ 21) x = (μ 15) := (by unfold w_X10_undo_15; rw [if_pos c2]); have e21 : w_X10_undo_21 (μ 21) (μ 22) x = (μ 21) := (by unfold w_X10_undo_21; rw [if_pos c2]); show _ = (zhs (zhs (zhs μ 16 (w_X10_undo_16 (μ 16) (μ 21) x)) 15 (w_X10_undo_15 (μ 15) (μ 21) x)) 21 (w_X10_undo_21 (μ 21) (μ 22) x)); symm; rw [e16, e15, e21]; rw [zhs_i2 (ν := μ) (k := 16) (g := (μ 16)) rfl, zhs_i2 (ν := μ) (k := 15) (g := (μ 15)) rfl, zhs_i2 (ν := μ) (k := 21) (g := (μ 21)) rfl]))
  · skip
    refine pv_iload_n (i := 1) t_X10_undo_5 rfl rfl ?_
    refine pv_bipush (v := 60) t_X10_undo_6 zb_60 ?_
    refine pv_icmp_le t_X10_undo_8 (fun c8 => ?_) (fun c8 => ?_)
    · skip
      refine pv_aload_n (i := 0) t_X10_undo_14 rfl rfl ?_
      refine pv_getR t_X10_undo_15 fl_X10_28 hh_0 rfl ?_
      refine pv_getR t_X10_undo_18 fl_X10_109 hh_13 rfl ?_
      refine sv_V0 (bz (dEx (μ 21))) μ t_X10_undo_21 ml_X10_199 mo_X1_exists hh_20 rfl (Nat.le_of_ble_eq_true rfl) (e_X1_exists hD20) (Nat.le_of_ble_eq_true rfl) rfl rfl ?_
      refine pv_if_eq t_X10_undo_24 (fun c24 => ?_) (fun c24 => ?_)
      · skip
        refine pv_ldc t_X10_undo_42 kc_X10_195 ?_
        exact pv_ireti t_X10_undo_44 rfl (by unfold a_X10_undo; rw [if_neg c2, if_pos c8, if_pos c24]) (Prod.ext rfl (by have e16 : w_X10_undo_16 (μ 16) (μ 21) x = (μ 16) := (by unfold w_X10_undo_16; rw [if_neg c2, if_pos c8, if_pos c24]); have e15 : w_X10_undo_15 (μ 15) (μ 21) x = (μ 15) := (by unfold w_X10_undo_15; rw [if_neg c2, if_pos c8, if_pos c24]); have e21 : w_X10_undo_21 (μ 21) (μ 22) x = (μ 21) := (by unfold w_X10_undo_21; rw [if_neg c2, if_pos c8, if_pos c24]); show _ = (zhs (zhs (zhs μ 16 (w_X10_undo_16 (μ 16) (μ 21) x)) 15 (w_X10_undo_15 (μ 15) (μ 21) x)) 21 (w_X10_undo_21 (μ 21) (μ 22) x)); symm; rw [e16, e15, e21]; rw [zhs_i2 (ν := μ) (k := 16) (g := (μ 16)) rfl, zhs_i2 (ν := μ) (k := 15) (g := (μ 15)) rfl, zhs_i2 (ν := μ) (k := 21) (g := (μ 21)) rfl]))
      · skip
        refine pv_aload_n (i := 0) t_X10_undo_27 rfl rfl ?_
        refine pv_getR t_X10_undo_28 fl_X10_28 hh_0 rfl ?_
        refine pv_getR t_X10_undo_31 fl_X10_109 hh_13 rfl ?_
        refine pv_iconst (v := 3) t_X10_undo_34 zi_3 ?_
        refine sv_V1 (cell (μ 21) 3) μ t_X10_undo_35 ml_X10_118 mo_X1_cell hh_20 rfl (Nat.le_of_ble_eq_true rfl) (e_X1_cell hD20) (Nat.le_of_ble_eq_true rfl) rfl rfl ?_
        refine pv_iload_n (i := 1) t_X10_undo_38 rfl rfl ?_
        refine pv_icmp_ge t_X10_undo_39 (fun c39 => ?_) (fun c39 => ?_)
        · skip
          refine pv_aload_n (i := 0) t_X10_undo_45 rfl rfl ?_
          refine pv_getR t_X10_undo_46 fl_X10_28 hh_0 rfl ?_
          refine pv_iload_n (i := 1) t_X10_undo_49 rfl rfl ?_
          refine sv_WV1 ((zhs (zhs (zhs μ 16 (tb16 (μ 21) (μ 16))) 15 (tb15 (μ 21) (μ 15))) 21 (dTB (μ 21) (μ 22) x))) t_X10_undo_50 ml_X10_202 mo_X9_takeBack hh_13 rfl (Nat.le_of_ble_eq_true rfl) e_tback (Nat.le_of_ble_eq_true rfl) rfl ?_
          refine pv_aload_n (i := 0) t_X10_undo_53 rfl rfl ?_
          refine pv_getR t_X10_undo_54 fl_X10_28 hh_0 rfl ?_
          refine pv_getR t_X10_undo_57 fl_X10_109 hh_13 rfl ?_
          refine pv_iconst (v := 3) t_X10_undo_60 zi_3 ?_
          refine sv_V1 (cell (dTB (μ 21) (μ 22) x) 3) ((zhs (zhs (zhs μ 16 (tb16 (μ 21) (μ 16))) 15 (tb15 (μ 21) (μ 15))) 21 (dTB (μ 21) (μ 22) x))) t_X10_undo_61 ml_X10_118 mo_X1_cell hh_20 rfl (Nat.le_of_ble_eq_true rfl) (e_X1_cell hD20) (Nat.le_of_ble_eq_true rfl) rfl rfl ?_
          exact pv_ireti t_X10_undo_64 rfl (by unfold a_X10_undo; rw [if_neg c2, if_pos c8, if_neg c24, if_pos c39]) (Prod.ext rfl (by have e16 : w_X10_undo_16 (μ 16) (μ 21) x = tb16 (μ 21) (μ 16) := (by unfold w_X10_undo_16; rw [if_neg c2, if_pos c8, if_neg c24, if_pos c39]); have e15 : w_X10_undo_15 (μ 15) (μ 21) x = tb15 (μ 21) (μ 15) := (by unfold w_X10_undo_15; rw [if_neg c2, if_pos c8, if_neg c24, if_pos c39]); have e21 : w_X10_undo_21 (μ 21) (μ 22) x = dTB (μ 21) (μ 22) x := (by unfold w_X10_undo_21; rw [if_neg c2, if_pos c8, if_neg c24, if_pos c39]); show _ = (zhs (zhs (zhs μ 16 (w_X10_undo_16 (μ 16) (μ 21) x)) 15 (w_X10_undo_15 (μ 15) (μ 21) x)) 21 (w_X10_undo_21 (μ 21) (μ 22) x)); symm; rw [e16, e15, e21]))
        · skip
          refine pv_ldc t_X10_undo_42 kc_X10_195 ?_
          exact pv_ireti t_X10_undo_44 rfl (by unfold a_X10_undo; rw [if_neg c2, if_pos c8, if_neg c24, if_neg c39]) (Prod.ext rfl (by have e16 : w_X10_undo_16 (μ 16) (μ 21) x = (μ 16) := (by unfold w_X10_undo_16; rw [if_neg c2, if_pos c8, if_neg c24, if_neg c39]); have e15 : w_X10_undo_15 (μ 15) (μ 21) x = (μ 15) := (by unfold w_X10_undo_15; rw [if_neg c2, if_pos c8, if_neg c24, if_neg c39]); have e21 : w_X10_undo_21 (μ 21) (μ 22) x = (μ 21) := (by unfold w_X10_undo_21; rw [if_neg c2, if_pos c8, if_neg c24, if_neg c39]); show _ = (zhs (zhs (zhs μ 16 (w_X10_undo_16 (μ 16) (μ 21) x)) 15 (w_X10_undo_15 (μ 15) (μ 21) x)) 21 (w_X10_undo_21 (μ 21) (μ 22) x)); symm; rw [e16, e15, e21]; rw [zhs_i2 (ν := μ) (k := 16) (g := (μ 16)) rfl, zhs_i2 (ν := μ) (k := 15) (g := (μ 15)) rfl, zhs_i2 (ν := μ) (k := 21) (g := (μ 21)) rfl]))
    · skip
      refine pv_ldc t_X10_undo_11 kc_X10_80 ?_
      exact pv_ireti t_X10_undo_13 rfl (by unfold a_X10_undo; rw [if_neg c2, if_neg c8]) (Prod.ext rfl (by have e16 : w_X10_undo_16 (μ 16) (μ 21) x = (μ 16) := (by unfold w_X10_undo_16; rw [if_neg c2, if_neg c8]); have e15 : w_X10_undo_15 (μ 15) (μ 21) x = (μ 15) := (by unfold w_X10_undo_15; rw [if_neg c2, if_neg c8]); have e21 : w_X10_undo_21 (μ 21) (μ 22) x = (μ 21) := (by unfold w_X10_undo_21; rw [if_neg c2, if_neg c8]); show _ = (zhs (zhs (zhs μ 16 (w_X10_undo_16 (μ 16) (μ 21) x)) 15 (w_X10_undo_15 (μ 15) (μ 21) x)) 21 (w_X10_undo_21 (μ 21) (μ 22) x)); symm; rw [e16, e15, e21]; rw [zhs_i2 (ν := μ) (k := 16) (g := (μ 16)) rfl, zhs_i2 (ν := μ) (k := 15) (g := (μ 15)) rfl, zhs_i2 (ν := μ) (k := 21) (g := (μ 21)) rfl]))
def a_X10_act (f1 : Nat → Int32) (f24 : Nat → Int32) (x : Int32) (y : Int32) : Int32 := (if (bz (zib x (f1 0))) = 0 then (-1000000001) else (if y < 0 then (-1000000002) else (if y < 8 then rA (rP f24 4 x ((rA f24 4 x) ||| (1 <<< (y &&& 31)))) 4 x else (-1000000002))))
def w_X10_act_24 (f1 : Nat → Int32) (f24 : Nat → Int32) (x : Int32) (y : Int32) : Nat → Int32 := (if (bz (zib x (f1 0))) = 0 then f24 else (if y < 0 then f24 else (if y < 8 then rP f24 4 x ((rA f24 4 x) ||| (1 <<< (y &&& 31))) else f24)))
theorem e_X10_act {l : Launch} {X : zX} {d : Nat} {μ : zH} {x : Int32} {y : Int32} : zRn l X mi_X10_act (d + 6) [.inr 0, .inl (x), .inl (y)] (zSH, μ) (some (.inl (a_X10_act (μ 1) (μ 24) x y))) (zSH, (zhs μ 24 (w_X10_act_24 (μ 1) (μ 24) x y))) := by
  refine pv_aload_n (i := 0) t_X10_act_0 rfl rfl ?_
  refine pv_getR t_X10_act_1 fl_X10_10 hh_0 rfl ?_
  refine pv_iload_n (i := 1) t_X10_act_4 rfl rfl ?_
  refine sv_V1 (bz (zib x ((μ 1) 0))) μ t_X10_act_5 ml_X10_137 mo_X4_hasPerson hh_1 rfl (Nat.le_of_ble_eq_true rfl) (e_X4_hasPerson hM1) (Nat.le_of_ble_eq_true rfl) rfl rfl ?_
  refine pv_if_ne t_X10_act_8 (fun c8 => ?_) (fun c8 => ?_)
  · skip
    refine pv_iload_n (i := 2) t_X10_act_14 rfl rfl ?_
    refine pv_if_lt t_X10_act_15 (fun c15 => ?_) (fun c15 => ?_)
    · skip
      refine pv_ldc t_X10_act_24 kc_X10_80 ?_
      exact pv_ireti t_X10_act_26 rfl (by unfold a_X10_act; rw [if_neg c8, if_pos c15]) (Prod.ext rfl (by have e24 : w_X10_act_24 (μ 1) (μ 24) x y = (μ 24) := (by unfold w_X10_act_24; rw [if_neg c8, if_pos c15]); show _ = (zhs μ 24 (w_X10_act_24 (μ 1) (μ 24) x y)); symm; rw [e24]; rw [zhs_i2 (ν := μ) (k := 24) (g := (μ 24)) rfl]))
    · skip
      refine pv_iload_n (i := 2) t_X10_act_18 rfl rfl ?_
      refine pv_bipush (v := 8) t_X10_act_19 zb_8 ?_
      refine pv_icmp_lt t_X10_act_21 (fun c21 => ?_) (fun c21 => ?_)
      · skip
        refine pv_aload_n (i := 0) t_X10_act_27 rfl rfl ?_
        refine pv_getR t_X10_act_28 fl_X10_28 hh_0 rfl ?_
        refine pv_getR t_X10_act_31 fl_X10_56 hh_13 rfl ?_
        refine pv_getR t_X10_act_34 fl_X10_206 hh_23 rfl ?_
        refine pv_iload_n (i := 1) t_X10_act_37 rfl rfl ?_
        refine pv_aload_n (i := 0) t_X10_act_38 rfl rfl ?_
        refine pv_getR t_X10_act_39 fl_X10_28 hh_0 rfl ?_
        refine pv_getR t_X10_act_42 fl_X10_56 hh_13 rfl ?_
        refine pv_iload_n (i := 1) t_X10_act_45 rfl rfl ?_
        refine sv_V1 (rA (μ 24) 4 x) μ t_X10_act_46 ml_X10_151 mo_X2_deedsOf hh_23 rfl (Nat.le_of_ble_eq_true rfl) (e_X2_deedsOf hM1 hF23) (Nat.le_of_ble_eq_true rfl) rfl rfl ?_
        refine pv_iconst (v := 1) t_X10_act_49 zi_1 ?_
        refine pv_iload_n (i := 2) t_X10_act_50 rfl rfl ?_
        refine pv_ishl t_X10_act_51 ?_
        refine pv_ior t_X10_act_52 ?_
        refine sv_WS3 ((zhs μ 24 (rP (μ 24) 4 x ((rA (μ 24) 4 x) ||| (1 <<< (y &&& 31)))))) t_X10_act_53 ml_X10_210 mo_X8_put (Nat.le_of_ble_eq_true rfl) (e_X8_put hh_24 (by decide)) (Nat.le_of_ble_eq_true rfl) rfl ?_
        refine pv_aload_n (i := 0) t_X10_act_56 rfl rfl ?_
        refine pv_getR t_X10_act_57 fl_X10_28 hh_0 rfl ?_
        refine pv_getR t_X10_act_60 fl_X10_56 hh_13 rfl ?_
        refine pv_iload_n (i := 1) t_X10_act_63 rfl rfl ?_
        refine sv_V1 (rA (rP (μ 24) 4 x ((rA (μ 24) 4 x) ||| (1 <<< (y &&& 31)))) 4 x) ((zhs μ 24 (rP (μ 24) 4 x ((rA (μ 24) 4 x) ||| (1 <<< (y &&& 31)))))) t_X10_act_64 ml_X10_151 mo_X2_deedsOf hh_23 rfl (Nat.le_of_ble_eq_true rfl) (e_X2_deedsOf hM1 hF23) (Nat.le_of_ble_eq_true rfl) rfl rfl ?_
        exact pv_ireti t_X10_act_67 rfl (by unfold a_X10_act; rw [if_neg c8, if_neg c15, if_pos c21]) (Prod.ext rfl (by have e24 : w_X10_act_24 (μ 1) (μ 24) x y = rP (μ 24) 4 x ((rA (μ 24) 4 x) ||| (1 <<< (y &&& 31))) := (by unfold w_X10_act_24; rw [if_neg c8, if_neg c15, if_pos c21]); show _ = (zhs μ 24 (w_X10_act_24 (μ 1) (μ 24) x y)); symm; rw [e24]))
      · skip
        refine pv_ldc t_X10_act_24 kc_X10_80 ?_
        exact pv_ireti t_X10_act_26 rfl (by unfold a_X10_act; rw [if_neg c8, if_neg c15, if_neg c21]) (Prod.ext rfl (by have e24 : w_X10_act_24 (μ 1) (μ 24) x y = (μ 24) := (by unfold w_X10_act_24; rw [if_neg c8, if_neg c15, if_neg c21]); show _ = (zhs μ 24 (w_X10_act_24 (μ 1) (μ 24) x y)); symm; rw [e24]; rw [zhs_i2 (ν := μ) (k := 24) (g := (μ 24)) rfl]))
  · skip
    refine pv_ldc t_X10_act_11 kc_X10_141 ?_
    exact pv_ireti t_X10_act_13 rfl (by unfold a_X10_act; rw [if_pos c8]) (Prod.ext rfl (by have e24 : w_X10_act_24 (μ 1) (μ 24) x y = (μ 24) := (by unfold w_X10_act_24; rw [if_pos c8]); show _ = (zhs μ 24 (w_X10_act_24 (μ 1) (μ 24) x y)); symm; rw [e24]; rw [zhs_i2 (ν := μ) (k := 24) (g := (μ 24)) rfl]))
def a_X10_vanity (f1 : Nat → Int32) (f25 : Nat → Int32) (x : Int32) (y : Int32) (v : Int32) : Int32 := (if (bz (zib x (f1 0))) = 0 then (-1000000001) else (if (a_X10_isTopic y) = 0 then (-1000000002) else (if v < 0 then (-1000000002) else (if v < 10 then vanO f25 x y else (-1000000002)))))
def w_X10_vanity_25 (f1 : Nat → Int32) (f25 : Nat → Int32) (x : Int32) (y : Int32) (v : Int32) : Nat → Int32 := (if (bz (zib x (f1 0))) = 0 then f25 else (if (a_X10_isTopic y) = 0 then f25 else (if v < 0 then f25 else (if v < 10 then rP f25 16 ((x * 4) + y) v else f25))))
theorem e_X10_vanity {l : Launch} {X : zX} {d : Nat} {μ : zH} {x : Int32} {y : Int32} {v : Int32} : zRn l X mi_X10_vanity (d + 6) [.inr 0, .inl (x), .inl (y), .inl (v)] (zSH, μ) (some (.inl (a_X10_vanity (μ 1) (μ 25) x y v))) (zSH, (zhs μ 25 (w_X10_vanity_25 (μ 1) (μ 25) x y v))) := by
  refine pv_aload_n (i := 0) t_X10_vanity_0 rfl rfl ?_
  refine pv_getR t_X10_vanity_1 fl_X10_10 hh_0 rfl ?_
  refine pv_iload_n (i := 1) t_X10_vanity_4 rfl rfl ?_
  refine sv_V1 (bz (zib x ((μ 1) 0))) μ t_X10_vanity_5 ml_X10_137 mo_X4_hasPerson hh_1 rfl (Nat.le_of_ble_eq_true rfl) (e_X4_hasPerson hM1) (Nat.le_of_ble_eq_true rfl) rfl rfl ?_
  refine pv_if_ne t_X10_vanity_8 (fun c8 => ?_) (fun c8 => ?_)
  · skip
    refine pv_iload_n (i := 2) t_X10_vanity_14 rfl rfl ?_
    refine sv_S1 (a_X10_isTopic y) μ t_X10_vanity_15 ml_X10_216 mo_X10_isTopic (Nat.le_of_ble_eq_true rfl) (e_X10_isTopic) (Nat.le_of_ble_eq_true rfl) rfl rfl ?_
    refine pv_if_eq t_X10_vanity_18 (fun c18 => ?_) (fun c18 => ?_)
    · skip
      refine pv_ldc t_X10_vanity_31 kc_X10_80 ?_
      exact pv_ireti t_X10_vanity_33 rfl (by unfold a_X10_vanity; rw [if_neg c8, if_pos c18]) (Prod.ext rfl (by have e25 : w_X10_vanity_25 (μ 1) (μ 25) x y v = (μ 25) := (by unfold w_X10_vanity_25; rw [if_neg c8, if_pos c18]); show _ = (zhs μ 25 (w_X10_vanity_25 (μ 1) (μ 25) x y v)); symm; rw [e25]; rw [zhs_i2 (ν := μ) (k := 25) (g := (μ 25)) rfl]))
    · skip
      refine pv_iload_n (i := 3) t_X10_vanity_21 rfl rfl ?_
      refine pv_if_lt t_X10_vanity_22 (fun c22 => ?_) (fun c22 => ?_)
      · skip
        refine pv_ldc t_X10_vanity_31 kc_X10_80 ?_
        exact pv_ireti t_X10_vanity_33 rfl (by unfold a_X10_vanity; rw [if_neg c8, if_neg c18, if_pos c22]) (Prod.ext rfl (by have e25 : w_X10_vanity_25 (μ 1) (μ 25) x y v = (μ 25) := (by unfold w_X10_vanity_25; rw [if_neg c8, if_neg c18, if_pos c22]); show _ = (zhs μ 25 (w_X10_vanity_25 (μ 1) (μ 25) x y v)); symm; rw [e25]; rw [zhs_i2 (ν := μ) (k := 25) (g := (μ 25)) rfl]))
      · skip
        refine pv_iload_n (i := 3) t_X10_vanity_25 rfl rfl ?_
        refine pv_bipush (v := 10) t_X10_vanity_26 zb_10 ?_
        refine pv_icmp_lt t_X10_vanity_28 (fun c28 => ?_) (fun c28 => ?_)
        · skip
          refine pv_aload_n (i := 0) t_X10_vanity_34 rfl rfl ?_
          refine pv_getR t_X10_vanity_35 fl_X10_28 hh_0 rfl ?_
          refine pv_getR t_X10_vanity_38 fl_X10_56 hh_13 rfl ?_
          refine pv_iload_n (i := 1) t_X10_vanity_41 rfl rfl ?_
          refine pv_iload_n (i := 2) t_X10_vanity_42 rfl rfl ?_
          refine sv_V2 (vanO (μ 25) x y) μ t_X10_vanity_43 ml_X10_146 mo_X2_vanityOf hh_23 rfl (Nat.le_of_ble_eq_true rfl) (e_X2_vanityOf hM1 hF23) (Nat.le_of_ble_eq_true rfl) rfl rfl ?_
          refine pv_istore t_X10_vanity_46 (Nat.le_of_ble_eq_true rfl) ?_
          refine pv_aload_n (i := 0) t_X10_vanity_48 rfl rfl ?_
          refine pv_getR t_X10_vanity_49 fl_X10_28 hh_0 rfl ?_
          refine pv_getR t_X10_vanity_52 fl_X10_56 hh_13 rfl ?_
          refine pv_getR t_X10_vanity_55 fl_X10_219 hh_23 rfl ?_
          refine pv_iload_n (i := 1) t_X10_vanity_58 rfl rfl ?_
          refine pv_iconst (v := 4) t_X10_vanity_59 zi_4 ?_
          refine pv_imul t_X10_vanity_60 ?_
          refine pv_iload_n (i := 2) t_X10_vanity_61 rfl rfl ?_
          refine pv_iadd t_X10_vanity_62 ?_
          refine pv_iload_n (i := 3) t_X10_vanity_63 rfl rfl ?_
          refine sv_WS3 ((zhs μ 25 (rP (μ 25) 16 ((x * 4) + y) v))) t_X10_vanity_64 ml_X10_210 mo_X8_put (Nat.le_of_ble_eq_true rfl) (e_X8_put hh_25 (by decide)) (Nat.le_of_ble_eq_true rfl) rfl ?_
          refine pv_iload t_X10_vanity_67 rfl ?_
          exact pv_ireti t_X10_vanity_69 rfl (by unfold a_X10_vanity; rw [if_neg c8, if_neg c18, if_neg c22, if_pos c28]) (Prod.ext rfl (by have e25 : w_X10_vanity_25 (μ 1) (μ 25) x y v = rP (μ 25) 16 ((x * 4) + y) v := (by unfold w_X10_vanity_25; rw [if_neg c8, if_neg c18, if_neg c22, if_pos c28]); show _ = (zhs μ 25 (w_X10_vanity_25 (μ 1) (μ 25) x y v)); symm; rw [e25]))
        · skip
          refine pv_ldc t_X10_vanity_31 kc_X10_80 ?_
          exact pv_ireti t_X10_vanity_33 rfl (by unfold a_X10_vanity; rw [if_neg c8, if_neg c18, if_neg c22, if_neg c28]) (Prod.ext rfl (by have e25 : w_X10_vanity_25 (μ 1) (μ 25) x y v = (μ 25) := (by unfold w_X10_vanity_25; rw [if_neg c8, if_neg c18, if_neg c22, if_neg c28]); show _ = (zhs μ 25 (w_X10_vanity_25 (μ 1) (μ 25) x y v)); symm; rw [e25]; rw [zhs_i2 (ν := μ) (k := 25) (g := (μ 25)) rfl]))
  · skip
    refine pv_ldc t_X10_vanity_11 kc_X10_141 ?_
    exact pv_ireti t_X10_vanity_13 rfl (by unfold a_X10_vanity; rw [if_pos c8]) (Prod.ext rfl (by have e25 : w_X10_vanity_25 (μ 1) (μ 25) x y v = (μ 25) := (by unfold w_X10_vanity_25; rw [if_pos c8]); show _ = (zhs μ 25 (w_X10_vanity_25 (μ 1) (μ 25) x y v)); symm; rw [e25]; rw [zhs_i2 (ν := μ) (k := 25) (g := (μ 25)) rfl]))
def a_X10_powder (f21 : Nat → Int32) : Int32 := (if (bz (dEx f21)) = 0 then (-1000000003) else (if ((cell f21 10) - (cell f21 11)) = 0 then 2 else (if ((cell f21 10) - (cell f21 11)) ≤ 0 then 1 else 0)))
theorem e_X10_powder {l : Launch} {X : zX} {d : Nat} {μ : zH} : zRn l X mi_X10_powder (d + 6) [.inr 0] (zSH, μ) (some (.inl (a_X10_powder (μ 21)))) (zSH, μ) := by
  refine pv_aload_n (i := 0) t_X10_powder_0 rfl rfl ?_
  refine pv_getR t_X10_powder_1 fl_X10_28 hh_0 rfl ?_
  refine pv_getR t_X10_powder_4 fl_X10_109 hh_13 rfl ?_
  refine sv_V0 (bz (dEx (μ 21))) μ t_X10_powder_7 ml_X10_199 mo_X1_exists hh_20 rfl (Nat.le_of_ble_eq_true rfl) (e_X1_exists hD20) (Nat.le_of_ble_eq_true rfl) rfl rfl ?_
  refine pv_if_ne t_X10_powder_10 (fun c10 => ?_) (fun c10 => ?_)
  · skip
    refine pv_aload_n (i := 0) t_X10_powder_16 rfl rfl ?_
    refine pv_getR t_X10_powder_17 fl_X10_28 hh_0 rfl ?_
    refine pv_getR t_X10_powder_20 fl_X10_109 hh_13 rfl ?_
    refine pv_bipush (v := 10) t_X10_powder_23 zb_10 ?_
    refine sv_V1 (cell (μ 21) 10) μ t_X10_powder_25 ml_X10_118 mo_X1_cell hh_20 rfl (Nat.le_of_ble_eq_true rfl) (e_X1_cell hD20) (Nat.le_of_ble_eq_true rfl) rfl rfl ?_
    refine pv_aload_n (i := 0) t_X10_powder_28 rfl rfl ?_
    refine pv_getR t_X10_powder_29 fl_X10_28 hh_0 rfl ?_
    refine pv_getR t_X10_powder_32 fl_X10_109 hh_13 rfl ?_
    refine pv_bipush (v := 11) t_X10_powder_35 zb_11 ?_
    refine sv_V1 (cell (μ 21) 11) μ t_X10_powder_37 ml_X10_118 mo_X1_cell hh_20 rfl (Nat.le_of_ble_eq_true rfl) (e_X1_cell hD20) (Nat.le_of_ble_eq_true rfl) rfl rfl ?_
    refine pv_isub t_X10_powder_40 ?_
    refine pv_istore_n (i := 1) t_X10_powder_41 rfl (Nat.le_of_ble_eq_true rfl) ?_
    refine pv_iload_n (i := 1) t_X10_powder_42 rfl rfl ?_
    refine pv_if_ne t_X10_powder_43 (fun c43 => ?_) (fun c43 => ?_)
    · skip
      refine pv_iload_n (i := 1) t_X10_powder_48 rfl rfl ?_
      refine pv_if_le t_X10_powder_49 (fun c49 => ?_) (fun c49 => ?_)
      · skip
        refine pv_iconst (v := 1) t_X10_powder_56 zi_1 ?_
        exact pv_ireti t_X10_powder_57 rfl (by unfold a_X10_powder; rw [if_neg c10, if_neg c43, if_pos c49]) rfl
      · skip
        refine pv_iconst (v := 0) t_X10_powder_52 zi_0 ?_
        refine pv_goto t_X10_powder_53 ?_
        exact pv_ireti t_X10_powder_57 rfl (by unfold a_X10_powder; rw [if_neg c10, if_neg c43, if_neg c49]) rfl
    · skip
      refine pv_iconst (v := 2) t_X10_powder_46 zi_2 ?_
      exact pv_ireti t_X10_powder_47 rfl (by unfold a_X10_powder; rw [if_neg c10, if_pos c43]) rfl
  · skip
    refine pv_ldc t_X10_powder_13 kc_X10_195 ?_
    exact pv_ireti t_X10_powder_15 rfl (by unfold a_X10_powder; rw [if_pos c10]) rfl
def a_X10_warm (f1 : Nat → Int32) (f54 : Nat → Int32) (x : Int32) (y : Int32) (t : Int32) (e : Int32) : Int32 := (if (bz (zib x (f1 1))) = 0 then (-1000000001) else (if (bz (zib y (f1 0))) = 0 then (-1000000001) else (if t < 0 then (-1000000002) else (if 9 < t then (-1000000002) else (if e < 0 then (-1000000002) else (if e ≤ 99 then (if (f54 4) < 12 then f54 4 + 1 else (-1000000004)) else (-1000000002)))))))
def w_X10_warm_55 (f1 : Nat → Int32) (f54 : Nat → Int32) (f55 : Nat → Int32) (x : Int32) (y : Int32) (t : Int32) (e : Int32) : Nat → Int32 := (if (bz (zib x (f1 1))) = 0 then f55 else (if (bz (zib y (f1 0))) = 0 then f55 else (if t < 0 then f55 else (if 9 < t then f55 else (if e < 0 then f55 else (if e ≤ 99 then (if (f54 4) < 12 then awW f55 (f54 4) x y t e else f55) else f55))))))
def w_X10_warm_54 (f1 : Nat → Int32) (f54 : Nat → Int32) (x : Int32) (y : Int32) (t : Int32) (e : Int32) : Nat → Int32 := (if (bz (zib x (f1 1))) = 0 then f54 else (if (bz (zib y (f1 0))) = 0 then f54 else (if t < 0 then f54 else (if 9 < t then f54 else (if e < 0 then f54 else (if e ≤ 99 then (if (f54 4) < 12 then upd f54 4 (f54 4 + 1) else f54) else f54))))))
theorem e_X10_warm {l : Launch} {X : zX} {d : Nat} {μ : zH} {x : Int32} {y : Int32} {t : Int32} {e : Int32} : zRn l X mi_X10_warm (d + 4) [.inr 0, .inl (x), .inl (y), .inl (t), .inl (e)] (zSH, μ) (some (.inl (a_X10_warm (μ 1) (μ 54) x y t e))) (zSH, (zhs (zhs μ 55 (w_X10_warm_55 (μ 1) (μ 54) (μ 55) x y t e)) 54 (w_X10_warm_54 (μ 1) (μ 54) x y t e))) := by
  refine pv_aload_n (i := 0) t_X10_warm_0 rfl rfl ?_
  refine pv_getR t_X10_warm_1 fl_X10_10 hh_0 rfl ?_
  refine pv_iload_n (i := 1) t_X10_warm_4 rfl rfl ?_
  refine sv_V1 (bz (zib x ((μ 1) 1))) μ t_X10_warm_5 ml_X10_172 mo_X4_hasPhrase hh_1 rfl (Nat.le_of_ble_eq_true rfl) (e_X4_hasPhrase hM1) (Nat.le_of_ble_eq_true rfl) rfl rfl ?_
  refine pv_if_eq t_X10_warm_8 (fun c8 => ?_) (fun c8 => ?_)
  · skip
    refine pv_ldc t_X10_warm_22 kc_X10_141 ?_
    exact pv_ireti t_X10_warm_24 rfl (by unfold a_X10_warm; rw [if_pos c8]) (Prod.ext rfl (by have e55 : w_X10_warm_55 (μ 1) (μ 54) (μ 55) x y t e = (μ 55) := (by unfold w_X10_warm_55; rw [if_pos c8]); have e54 : w_X10_warm_54 (μ 1) (μ 54) x y t e = (μ 54) := (by unfold w_X10_warm_54; rw [if_pos c8]); show _ = (zhs (zhs μ 55 (w_X10_warm_55 (μ 1) (μ 54) (μ 55) x y t e)) 54 (w_X10_warm_54 (μ 1) (μ 54) x y t e)); symm; rw [e55, e54]; rw [zhs_i2 (ν := μ) (k := 55) (g := (μ 55)) rfl, zhs_i2 (ν := μ) (k := 54) (g := (μ 54)) rfl]))
  · skip
    refine pv_aload_n (i := 0) t_X10_warm_11 rfl rfl ?_
    refine pv_getR t_X10_warm_12 fl_X10_10 hh_0 rfl ?_
    refine pv_iload_n (i := 2) t_X10_warm_15 rfl rfl ?_
    refine sv_V1 (bz (zib y ((μ 1) 0))) μ t_X10_warm_16 ml_X10_137 mo_X4_hasPerson hh_1 rfl (Nat.le_of_ble_eq_true rfl) (e_X4_hasPerson hM1) (Nat.le_of_ble_eq_true rfl) rfl rfl ?_
    refine pv_if_ne t_X10_warm_19 (fun c19 => ?_) (fun c19 => ?_)
    · skip
      refine pv_iload_n (i := 3) t_X10_warm_25 rfl rfl ?_
      refine pv_if_lt t_X10_warm_26 (fun c26 => ?_) (fun c26 => ?_)
      · skip
        refine pv_ldc t_X10_warm_47 kc_X10_80 ?_
        exact pv_ireti t_X10_warm_49 rfl (by unfold a_X10_warm; rw [if_neg c8, if_neg c19, if_pos c26]) (Prod.ext rfl (by have e55 : w_X10_warm_55 (μ 1) (μ 54) (μ 55) x y t e = (μ 55) := (by unfold w_X10_warm_55; rw [if_neg c8, if_neg c19, if_pos c26]); have e54 : w_X10_warm_54 (μ 1) (μ 54) x y t e = (μ 54) := (by unfold w_X10_warm_54; rw [if_neg c8, if_neg c19, if_pos c26]); show _ = (zhs (zhs μ 55 (w_X10_warm_55 (μ 1) (μ 54) (μ 55) x y t e)) 54 (w_X10_warm_54 (μ 1) (μ 54) x y t e)); symm; rw [e55, e54]; rw [zhs_i2 (ν := μ) (k := 55) (g := (μ 55)) rfl, zhs_i2 (ν := μ) (k := 54) (g := (μ 54)) rfl]))
      · skip
        refine pv_iload_n (i := 3) t_X10_warm_29 rfl rfl ?_
        refine pv_bipush (v := 9) t_X10_warm_30 zb_9 ?_
        refine pv_icmp_gt t_X10_warm_32 (fun c32 => ?_) (fun c32 => ?_)
        · skip
          refine pv_ldc t_X10_warm_47 kc_X10_80 ?_
          exact pv_ireti t_X10_warm_49 rfl (by unfold a_X10_warm; rw [if_neg c8, if_neg c19, if_neg c26, if_pos c32]) (Prod.ext rfl (by have e55 : w_X10_warm_55 (μ 1) (μ 54) (μ 55) x y t e = (μ 55) := (by unfold w_X10_warm_55; rw [if_neg c8, if_neg c19, if_neg c26, if_pos c32]); have e54 : w_X10_warm_54 (μ 1) (μ 54) x y t e = (μ 54) := (by unfold w_X10_warm_54; rw [if_neg c8, if_neg c19, if_neg c26, if_pos c32]); show _ = (zhs (zhs μ 55 (w_X10_warm_55 (μ 1) (μ 54) (μ 55) x y t e)) 54 (w_X10_warm_54 (μ 1) (μ 54) x y t e)); symm; rw [e55, e54]; rw [zhs_i2 (ν := μ) (k := 55) (g := (μ 55)) rfl, zhs_i2 (ν := μ) (k := 54) (g := (μ 54)) rfl]))
        · skip
          refine pv_iload t_X10_warm_35 rfl ?_
          refine pv_if_lt t_X10_warm_37 (fun c37 => ?_) (fun c37 => ?_)
          · skip
            refine pv_ldc t_X10_warm_47 kc_X10_80 ?_
            exact pv_ireti t_X10_warm_49 rfl (by unfold a_X10_warm; rw [if_neg c8, if_neg c19, if_neg c26, if_neg c32, if_pos c37]) (Prod.ext rfl (by have e55 : w_X10_warm_55 (μ 1) (μ 54) (μ 55) x y t e = (μ 55) := (by unfold w_X10_warm_55; rw [if_neg c8, if_neg c19, if_neg c26, if_neg c32, if_pos c37]); have e54 : w_X10_warm_54 (μ 1) (μ 54) x y t e = (μ 54) := (by unfold w_X10_warm_54; rw [if_neg c8, if_neg c19, if_neg c26, if_neg c32, if_pos c37]); show _ = (zhs (zhs μ 55 (w_X10_warm_55 (μ 1) (μ 54) (μ 55) x y t e)) 54 (w_X10_warm_54 (μ 1) (μ 54) x y t e)); symm; rw [e55, e54]; rw [zhs_i2 (ν := μ) (k := 55) (g := (μ 55)) rfl, zhs_i2 (ν := μ) (k := 54) (g := (μ 54)) rfl]))
          · skip
            refine pv_iload t_X10_warm_40 rfl ?_
            refine pv_bipush (v := 99) t_X10_warm_42 zb_99 ?_
            refine pv_icmp_le t_X10_warm_44 (fun c44 => ?_) (fun c44 => ?_)
            · skip
              refine pv_aload_n (i := 0) t_X10_warm_50 rfl rfl ?_
              refine pv_getR t_X10_warm_51 fl_X10_43 hh_0 rfl ?_
              refine sv_getI ((μ 54) 4) t_X10_warm_54 fl_X10_128 hh_54 rfl rfl ?_
              refine pv_bipush (v := 12) t_X10_warm_57 zb_12 ?_
              refine pv_icmp_lt t_X10_warm_59 (fun c59 => ?_) (fun c59 => ?_)
              · skip
                refine pv_aload_n (i := 0) t_X10_warm_65 rfl rfl ?_
                refine pv_getR t_X10_warm_66 fl_X10_43 hh_0 rfl ?_
                refine pv_iload_n (i := 1) t_X10_warm_69 rfl rfl ?_
                refine pv_iload_n (i := 2) t_X10_warm_70 rfl rfl ?_
                refine pv_iload_n (i := 3) t_X10_warm_71 rfl rfl ?_
                refine pv_iload t_X10_warm_72 rfl ?_
                refine sv_V4 ((μ 54) 4 + 1) ((zhs (zhs μ 55 (awW (μ 55) ((μ 54) 4) x y t e)) 54 (upd (μ 54) 4 ((μ 54) 4 + 1)))) t_X10_warm_74 ml_X10_261 mo_X5_addWarmed hh_54 rfl (Nat.le_of_ble_eq_true rfl) (e_X5_addWarmed hN54) (Nat.le_of_ble_eq_true rfl) rfl rfl ?_
                exact pv_ireti t_X10_warm_77 rfl (by unfold a_X10_warm; rw [if_neg c8, if_neg c19, if_neg c26, if_neg c32, if_neg c37, if_pos c44, if_pos c59]) (Prod.ext rfl (by have e55 : w_X10_warm_55 (μ 1) (μ 54) (μ 55) x y t e = awW (μ 55) ((μ 54) 4) x y t e := (by unfold w_X10_warm_55; rw [if_neg c8, if_neg c19, if_neg c26, if_neg c32, if_neg c37, if_pos c44, if_pos c59]); have e54 : w_X10_warm_54 (μ 1) (μ 54) x y t e = upd (μ 54) 4 ((μ 54) 4 + 1) := (by unfold w_X10_warm_54; rw [if_neg c8, if_neg c19, if_neg c26, if_neg c32, if_neg c37, if_pos c44, if_pos c59]); show _ = (zhs (zhs μ 55 (w_X10_warm_55 (μ 1) (μ 54) (μ 55) x y t e)) 54 (w_X10_warm_54 (μ 1) (μ 54) x y t e)); symm; rw [e55, e54]))
              · skip
                refine pv_ldc t_X10_warm_62 kc_X10_84 ?_
                exact pv_ireti t_X10_warm_64 rfl (by unfold a_X10_warm; rw [if_neg c8, if_neg c19, if_neg c26, if_neg c32, if_neg c37, if_pos c44, if_neg c59]) (Prod.ext rfl (by have e55 : w_X10_warm_55 (μ 1) (μ 54) (μ 55) x y t e = (μ 55) := (by unfold w_X10_warm_55; rw [if_neg c8, if_neg c19, if_neg c26, if_neg c32, if_neg c37, if_pos c44, if_neg c59]); have e54 : w_X10_warm_54 (μ 1) (μ 54) x y t e = (μ 54) := (by unfold w_X10_warm_54; rw [if_neg c8, if_neg c19, if_neg c26, if_neg c32, if_neg c37, if_pos c44, if_neg c59]); show _ = (zhs (zhs μ 55 (w_X10_warm_55 (μ 1) (μ 54) (μ 55) x y t e)) 54 (w_X10_warm_54 (μ 1) (μ 54) x y t e)); symm; rw [e55, e54]; rw [zhs_i2 (ν := μ) (k := 55) (g := (μ 55)) rfl, zhs_i2 (ν := μ) (k := 54) (g := (μ 54)) rfl]))
            · skip
              refine pv_ldc t_X10_warm_47 kc_X10_80 ?_
              exact pv_ireti t_X10_warm_49 rfl (by unfold a_X10_warm; rw [if_neg c8, if_neg c19, if_neg c26, if_neg c32, if_neg c37, if_neg c44]) (Prod.ext rfl (by have e55 : w_X10_warm_55 (μ 1) (μ 54) (μ 55) x y t e = (μ 55) := (by unfold w_X10_warm_55; rw [if_neg c8, if_neg c19, if_neg c26, if_neg c32, if_neg c37, if_neg c44]); have e54 : w_X10_warm_54 (μ 1) (μ 54) x y t e = (μ 54) := (by unfold w_X10_warm_54; rw [if_neg c8, if_neg c19, if_neg c26, if_neg c32, if_neg c37, if_neg c44]); show _ = (zhs (zhs μ 55 (w_X10_warm_55 (μ 1) (μ 54) (μ 55) x y t e)) 54 (w_X10_warm_54 (μ 1) (μ 54) x y t e)); symm; rw [e55, e54]; rw [zhs_i2 (ν := μ) (k := 55) (g := (μ 55)) rfl, zhs_i2 (ν := μ) (k := 54) (g := (μ 54)) rfl]))
    · skip
      refine pv_ldc t_X10_warm_22 kc_X10_141 ?_
      exact pv_ireti t_X10_warm_24 rfl (by unfold a_X10_warm; rw [if_neg c8, if_pos c19]) (Prod.ext rfl (by have e55 : w_X10_warm_55 (μ 1) (μ 54) (μ 55) x y t e = (μ 55) := (by unfold w_X10_warm_55; rw [if_neg c8, if_pos c19]); have e54 : w_X10_warm_54 (μ 1) (μ 54) x y t e = (μ 54) := (by unfold w_X10_warm_54; rw [if_neg c8, if_pos c19]); show _ = (zhs (zhs μ 55 (w_X10_warm_55 (μ 1) (μ 54) (μ 55) x y t e)) 54 (w_X10_warm_54 (μ 1) (μ 54) x y t e)); symm; rw [e55, e54]; rw [zhs_i2 (ν := μ) (k := 55) (g := (μ 55)) rfl, zhs_i2 (ν := μ) (k := 54) (g := (μ 54)) rfl]))
def a_X10_cheek (f54 : Nat → Int32) (x : Int32) : Int32 := (if x < 0 then (-1000000002) else (if x ≤ 999 then (if (f54 5) < 4 then f54 5 + 1 else (-1000000004)) else (-1000000002)))
def w_X10_cheek_56 (f54 : Nat → Int32) (f56 : Nat → Int32) (x : Int32) : Nat → Int32 := (if x < 0 then f56 else (if x ≤ 999 then (if (f54 5) < 4 then rP f56 4 (f54 5) x else f56) else f56))
def w_X10_cheek_54 (f54 : Nat → Int32) (x : Int32) : Nat → Int32 := (if x < 0 then f54 else (if x ≤ 999 then (if (f54 5) < 4 then upd f54 5 (f54 5 + 1) else f54) else f54))
theorem e_X10_cheek {l : Launch} {X : zX} {d : Nat} {μ : zH} {x : Int32} : zRn l X mi_X10_cheek (d + 4) [.inr 0, .inl (x)] (zSH, μ) (some (.inl (a_X10_cheek (μ 54) x))) (zSH, (zhs (zhs μ 56 (w_X10_cheek_56 (μ 54) (μ 56) x)) 54 (w_X10_cheek_54 (μ 54) x))) := by
  refine pv_iload_n (i := 1) t_X10_cheek_0 rfl rfl ?_
  refine pv_if_lt t_X10_cheek_1 (fun c1 => ?_) (fun c1 => ?_)
  · skip
    refine pv_ldc t_X10_cheek_11 kc_X10_80 ?_
    exact pv_ireti t_X10_cheek_13 rfl (by unfold a_X10_cheek; rw [if_pos c1]) (Prod.ext rfl (by have e56 : w_X10_cheek_56 (μ 54) (μ 56) x = (μ 56) := (by unfold w_X10_cheek_56; rw [if_pos c1]); have e54 : w_X10_cheek_54 (μ 54) x = (μ 54) := (by unfold w_X10_cheek_54; rw [if_pos c1]); show _ = (zhs (zhs μ 56 (w_X10_cheek_56 (μ 54) (μ 56) x)) 54 (w_X10_cheek_54 (μ 54) x)); symm; rw [e56, e54]; rw [zhs_i2 (ν := μ) (k := 56) (g := (μ 56)) rfl, zhs_i2 (ν := μ) (k := 54) (g := (μ 54)) rfl]))
  · skip
    refine pv_iload_n (i := 1) t_X10_cheek_4 rfl rfl ?_
    refine pv_sipush (v := 999) t_X10_cheek_5 zs_999 ?_
    refine pv_icmp_le t_X10_cheek_8 (fun c8 => ?_) (fun c8 => ?_)
    · skip
      refine pv_aload_n (i := 0) t_X10_cheek_14 rfl rfl ?_
      refine pv_getR t_X10_cheek_15 fl_X10_43 hh_0 rfl ?_
      refine sv_getI ((μ 54) 5) t_X10_cheek_18 fl_X10_131 hh_54 rfl rfl ?_
      refine pv_iconst (v := 4) t_X10_cheek_21 zi_4 ?_
      refine pv_icmp_lt t_X10_cheek_22 (fun c22 => ?_) (fun c22 => ?_)
      · skip
        refine pv_aload_n (i := 0) t_X10_cheek_30 rfl rfl ?_
        refine pv_getR t_X10_cheek_31 fl_X10_43 hh_0 rfl ?_
        refine pv_iload_n (i := 1) t_X10_cheek_34 rfl rfl ?_
        refine sv_V1 ((μ 54) 5 + 1) ((zhs (zhs μ 56 (rP (μ 56) 4 ((μ 54) 5) x)) 54 (upd (μ 54) 5 ((μ 54) 5 + 1)))) t_X10_cheek_35 ml_X10_272 mo_X5_addCheek hh_54 rfl (Nat.le_of_ble_eq_true rfl) (e_X5_addCheek hN54) (Nat.le_of_ble_eq_true rfl) rfl rfl ?_
        exact pv_ireti t_X10_cheek_38 rfl (by unfold a_X10_cheek; rw [if_neg c1, if_pos c8, if_pos c22]) (Prod.ext rfl (by have e56 : w_X10_cheek_56 (μ 54) (μ 56) x = rP (μ 56) 4 ((μ 54) 5) x := (by unfold w_X10_cheek_56; rw [if_neg c1, if_pos c8, if_pos c22]); have e54 : w_X10_cheek_54 (μ 54) x = upd (μ 54) 5 ((μ 54) 5 + 1) := (by unfold w_X10_cheek_54; rw [if_neg c1, if_pos c8, if_pos c22]); show _ = (zhs (zhs μ 56 (w_X10_cheek_56 (μ 54) (μ 56) x)) 54 (w_X10_cheek_54 (μ 54) x)); symm; rw [e56, e54]))
      · skip
        refine pv_ldc t_X10_cheek_25 kc_X10_84 ?_
        refine pv_goto t_X10_cheek_27 ?_
        exact pv_ireti t_X10_cheek_38 rfl (by unfold a_X10_cheek; rw [if_neg c1, if_pos c8, if_neg c22]) (Prod.ext rfl (by have e56 : w_X10_cheek_56 (μ 54) (μ 56) x = (μ 56) := (by unfold w_X10_cheek_56; rw [if_neg c1, if_pos c8, if_neg c22]); have e54 : w_X10_cheek_54 (μ 54) x = (μ 54) := (by unfold w_X10_cheek_54; rw [if_neg c1, if_pos c8, if_neg c22]); show _ = (zhs (zhs μ 56 (w_X10_cheek_56 (μ 54) (μ 56) x)) 54 (w_X10_cheek_54 (μ 54) x)); symm; rw [e56, e54]; rw [zhs_i2 (ν := μ) (k := 56) (g := (μ 56)) rfl, zhs_i2 (ν := μ) (k := 54) (g := (μ 54)) rfl]))
    · skip
      refine pv_ldc t_X10_cheek_11 kc_X10_80 ?_
      exact pv_ireti t_X10_cheek_13 rfl (by unfold a_X10_cheek; rw [if_neg c1, if_neg c8]) (Prod.ext rfl (by have e56 : w_X10_cheek_56 (μ 54) (μ 56) x = (μ 56) := (by unfold w_X10_cheek_56; rw [if_neg c1, if_neg c8]); have e54 : w_X10_cheek_54 (μ 54) x = (μ 54) := (by unfold w_X10_cheek_54; rw [if_neg c1, if_neg c8]); show _ = (zhs (zhs μ 56 (w_X10_cheek_56 (μ 54) (μ 56) x)) 54 (w_X10_cheek_54 (μ 54) x)); symm; rw [e56, e54]; rw [zhs_i2 (ν := μ) (k := 56) (g := (μ 56)) rfl, zhs_i2 (ν := μ) (k := 54) (g := (μ 54)) rfl]))
def a_X10_write (f1 : Nat → Int32) (f54 : Nat → Int32) (x : Int32) : Int32 := (if x < 0 then (-1000000002) else (if 8 ≤ x then (if x ≤ 9 then (if (f54 6) < 20 then f54 6 + 1 else (-1000000004)) else (-1000000002)) else (if (bz (zib x (f1 1))) = 0 then (-1000000001) else (if x ≤ 9 then (if (f54 6) < 20 then f54 6 + 1 else (-1000000004)) else (-1000000002)))))
def w_X10_write_57 (f1 : Nat → Int32) (f54 : Nat → Int32) (f57 : Nat → Int32) (x : Int32) : Nat → Int32 := (if x < 0 then f57 else (if 8 ≤ x then (if x ≤ 9 then (if (f54 6) < 20 then rP f57 20 (f54 6) x else f57) else f57) else (if (bz (zib x (f1 1))) = 0 then f57 else (if x ≤ 9 then (if (f54 6) < 20 then rP f57 20 (f54 6) x else f57) else f57))))
def w_X10_write_54 (f1 : Nat → Int32) (f54 : Nat → Int32) (x : Int32) : Nat → Int32 := (if x < 0 then f54 else (if 8 ≤ x then (if x ≤ 9 then (if (f54 6) < 20 then upd f54 6 (f54 6 + 1) else f54) else f54) else (if (bz (zib x (f1 1))) = 0 then f54 else (if x ≤ 9 then (if (f54 6) < 20 then upd f54 6 (f54 6 + 1) else f54) else f54))))
theorem e_X10_write {l : Launch} {X : zX} {d : Nat} {μ : zH} {x : Int32} : zRn l X mi_X10_write (d + 4) [.inr 0, .inl (x)] (zSH, μ) (some (.inl (a_X10_write (μ 1) (μ 54) x))) (zSH, (zhs (zhs μ 57 (w_X10_write_57 (μ 1) (μ 54) (μ 57) x)) 54 (w_X10_write_54 (μ 1) (μ 54) x))) := by
  refine pv_iload_n (i := 1) t_X10_write_0 rfl rfl ?_
  refine pv_if_lt t_X10_write_1 (fun c1 => ?_) (fun c1 => ?_)
  · skip
    refine pv_iload_n (i := 1) t_X10_write_24 rfl rfl ?_
    refine pv_if_lt t_X10_write_25 (fun c25 => ?_) (fun c25 => absurd c1 c25)
    refine pv_ldc t_X10_write_34 kc_X10_80 ?_
    exact pv_ireti t_X10_write_36 rfl (by unfold a_X10_write; rw [if_pos c1]) (Prod.ext rfl (by have e57 : w_X10_write_57 (μ 1) (μ 54) (μ 57) x = (μ 57) := (by unfold w_X10_write_57; rw [if_pos c1]); have e54 : w_X10_write_54 (μ 1) (μ 54) x = (μ 54) := (by unfold w_X10_write_54; rw [if_pos c1]); show _ = (zhs (zhs μ 57 (w_X10_write_57 (μ 1) (μ 54) (μ 57) x)) 54 (w_X10_write_54 (μ 1) (μ 54) x)); symm; rw [e57, e54]; rw [zhs_i2 (ν := μ) (k := 57) (g := (μ 57)) rfl, zhs_i2 (ν := μ) (k := 54) (g := (μ 54)) rfl]))
  · skip
    refine pv_iload_n (i := 1) t_X10_write_4 rfl rfl ?_
    refine pv_bipush (v := 8) t_X10_write_5 zb_8 ?_
    refine pv_icmp_ge t_X10_write_7 (fun c7 => ?_) (fun c7 => ?_)
    · skip
      refine pv_iload_n (i := 1) t_X10_write_24 rfl rfl ?_
      refine pv_if_lt t_X10_write_25 (fun c25 => absurd c25 c1) (fun c25 => ?_)
      refine pv_iload_n (i := 1) t_X10_write_28 rfl rfl ?_
      refine pv_bipush (v := 9) t_X10_write_29 zb_9 ?_
      refine pv_icmp_le t_X10_write_31 (fun c31 => ?_) (fun c31 => ?_)
      · skip
        refine pv_aload_n (i := 0) t_X10_write_37 rfl rfl ?_
        refine pv_getR t_X10_write_38 fl_X10_43 hh_0 rfl ?_
        refine sv_getI ((μ 54) 6) t_X10_write_41 fl_X10_134 hh_54 rfl rfl ?_
        refine pv_bipush (v := 20) t_X10_write_44 zb_20 ?_
        refine pv_icmp_lt t_X10_write_46 (fun c46 => ?_) (fun c46 => ?_)
        · skip
          refine pv_aload_n (i := 0) t_X10_write_54 rfl rfl ?_
          refine pv_getR t_X10_write_55 fl_X10_43 hh_0 rfl ?_
          refine pv_iload_n (i := 1) t_X10_write_58 rfl rfl ?_
          refine sv_V1 ((μ 54) 6 + 1) ((zhs (zhs μ 57 (rP (μ 57) 20 ((μ 54) 6) x)) 54 (upd (μ 54) 6 ((μ 54) 6 + 1)))) t_X10_write_59 ml_X10_287 mo_X5_addTurn hh_54 rfl (Nat.le_of_ble_eq_true rfl) (e_X5_addTurn hN54) (Nat.le_of_ble_eq_true rfl) rfl rfl ?_
          exact pv_ireti t_X10_write_62 rfl (by unfold a_X10_write; rw [if_neg c1, if_pos c7, if_pos c31, if_pos c46]) (Prod.ext rfl (by have e57 : w_X10_write_57 (μ 1) (μ 54) (μ 57) x = rP (μ 57) 20 ((μ 54) 6) x := (by unfold w_X10_write_57; rw [if_neg c1, if_pos c7, if_pos c31, if_pos c46]); have e54 : w_X10_write_54 (μ 1) (μ 54) x = upd (μ 54) 6 ((μ 54) 6 + 1) := (by unfold w_X10_write_54; rw [if_neg c1, if_pos c7, if_pos c31, if_pos c46]); show _ = (zhs (zhs μ 57 (w_X10_write_57 (μ 1) (μ 54) (μ 57) x)) 54 (w_X10_write_54 (μ 1) (μ 54) x)); symm; rw [e57, e54]))
        · skip
          refine pv_ldc t_X10_write_49 kc_X10_84 ?_
          refine pv_goto t_X10_write_51 ?_
          exact pv_ireti t_X10_write_62 rfl (by unfold a_X10_write; rw [if_neg c1, if_pos c7, if_pos c31, if_neg c46]) (Prod.ext rfl (by have e57 : w_X10_write_57 (μ 1) (μ 54) (μ 57) x = (μ 57) := (by unfold w_X10_write_57; rw [if_neg c1, if_pos c7, if_pos c31, if_neg c46]); have e54 : w_X10_write_54 (μ 1) (μ 54) x = (μ 54) := (by unfold w_X10_write_54; rw [if_neg c1, if_pos c7, if_pos c31, if_neg c46]); show _ = (zhs (zhs μ 57 (w_X10_write_57 (μ 1) (μ 54) (μ 57) x)) 54 (w_X10_write_54 (μ 1) (μ 54) x)); symm; rw [e57, e54]; rw [zhs_i2 (ν := μ) (k := 57) (g := (μ 57)) rfl, zhs_i2 (ν := μ) (k := 54) (g := (μ 54)) rfl]))
      · skip
        refine pv_ldc t_X10_write_34 kc_X10_80 ?_
        exact pv_ireti t_X10_write_36 rfl (by unfold a_X10_write; rw [if_neg c1, if_pos c7, if_neg c31]) (Prod.ext rfl (by have e57 : w_X10_write_57 (μ 1) (μ 54) (μ 57) x = (μ 57) := (by unfold w_X10_write_57; rw [if_neg c1, if_pos c7, if_neg c31]); have e54 : w_X10_write_54 (μ 1) (μ 54) x = (μ 54) := (by unfold w_X10_write_54; rw [if_neg c1, if_pos c7, if_neg c31]); show _ = (zhs (zhs μ 57 (w_X10_write_57 (μ 1) (μ 54) (μ 57) x)) 54 (w_X10_write_54 (μ 1) (μ 54) x)); symm; rw [e57, e54]; rw [zhs_i2 (ν := μ) (k := 57) (g := (μ 57)) rfl, zhs_i2 (ν := μ) (k := 54) (g := (μ 54)) rfl]))
    · skip
      refine pv_aload_n (i := 0) t_X10_write_10 rfl rfl ?_
      refine pv_getR t_X10_write_11 fl_X10_10 hh_0 rfl ?_
      refine pv_iload_n (i := 1) t_X10_write_14 rfl rfl ?_
      refine sv_V1 (bz (zib x ((μ 1) 1))) μ t_X10_write_15 ml_X10_172 mo_X4_hasPhrase hh_1 rfl (Nat.le_of_ble_eq_true rfl) (e_X4_hasPhrase hM1) (Nat.le_of_ble_eq_true rfl) rfl rfl ?_
      refine pv_if_ne t_X10_write_18 (fun c18 => ?_) (fun c18 => ?_)
      · skip
        refine pv_iload_n (i := 1) t_X10_write_24 rfl rfl ?_
        refine pv_if_lt t_X10_write_25 (fun c25 => absurd c25 c1) (fun c25 => ?_)
        refine pv_iload_n (i := 1) t_X10_write_28 rfl rfl ?_
        refine pv_bipush (v := 9) t_X10_write_29 zb_9 ?_
        refine pv_icmp_le t_X10_write_31 (fun c31 => ?_) (fun c31 => ?_)
        · skip
          refine pv_aload_n (i := 0) t_X10_write_37 rfl rfl ?_
          refine pv_getR t_X10_write_38 fl_X10_43 hh_0 rfl ?_
          refine sv_getI ((μ 54) 6) t_X10_write_41 fl_X10_134 hh_54 rfl rfl ?_
          refine pv_bipush (v := 20) t_X10_write_44 zb_20 ?_
          refine pv_icmp_lt t_X10_write_46 (fun c46 => ?_) (fun c46 => ?_)
          · skip
            refine pv_aload_n (i := 0) t_X10_write_54 rfl rfl ?_
            refine pv_getR t_X10_write_55 fl_X10_43 hh_0 rfl ?_
            refine pv_iload_n (i := 1) t_X10_write_58 rfl rfl ?_
            refine sv_V1 ((μ 54) 6 + 1) ((zhs (zhs μ 57 (rP (μ 57) 20 ((μ 54) 6) x)) 54 (upd (μ 54) 6 ((μ 54) 6 + 1)))) t_X10_write_59 ml_X10_287 mo_X5_addTurn hh_54 rfl (Nat.le_of_ble_eq_true rfl) (e_X5_addTurn hN54) (Nat.le_of_ble_eq_true rfl) rfl rfl ?_
            exact pv_ireti t_X10_write_62 rfl (by unfold a_X10_write; rw [if_neg c1, if_neg c7, if_neg c18, if_pos c31, if_pos c46]) (Prod.ext rfl (by have e57 : w_X10_write_57 (μ 1) (μ 54) (μ 57) x = rP (μ 57) 20 ((μ 54) 6) x := (by unfold w_X10_write_57; rw [if_neg c1, if_neg c7, if_neg c18, if_pos c31, if_pos c46]); have e54 : w_X10_write_54 (μ 1) (μ 54) x = upd (μ 54) 6 ((μ 54) 6 + 1) := (by unfold w_X10_write_54; rw [if_neg c1, if_neg c7, if_neg c18, if_pos c31, if_pos c46]); show _ = (zhs (zhs μ 57 (w_X10_write_57 (μ 1) (μ 54) (μ 57) x)) 54 (w_X10_write_54 (μ 1) (μ 54) x)); symm; rw [e57, e54]))
          · skip
            refine pv_ldc t_X10_write_49 kc_X10_84 ?_
            refine pv_goto t_X10_write_51 ?_
            exact pv_ireti t_X10_write_62 rfl (by unfold a_X10_write; rw [if_neg c1, if_neg c7, if_neg c18, if_pos c31, if_neg c46]) (Prod.ext rfl (by have e57 : w_X10_write_57 (μ 1) (μ 54) (μ 57) x = (μ 57) := (by unfold w_X10_write_57; rw [if_neg c1, if_neg c7, if_neg c18, if_pos c31, if_neg c46]); have e54 : w_X10_write_54 (μ 1) (μ 54) x = (μ 54) := (by unfold w_X10_write_54; rw [if_neg c1, if_neg c7, if_neg c18, if_pos c31, if_neg c46]); show _ = (zhs (zhs μ 57 (w_X10_write_57 (μ 1) (μ 54) (μ 57) x)) 54 (w_X10_write_54 (μ 1) (μ 54) x)); symm; rw [e57, e54]; rw [zhs_i2 (ν := μ) (k := 57) (g := (μ 57)) rfl, zhs_i2 (ν := μ) (k := 54) (g := (μ 54)) rfl]))
        · skip
          refine pv_ldc t_X10_write_34 kc_X10_80 ?_
          exact pv_ireti t_X10_write_36 rfl (by unfold a_X10_write; rw [if_neg c1, if_neg c7, if_neg c18, if_neg c31]) (Prod.ext rfl (by have e57 : w_X10_write_57 (μ 1) (μ 54) (μ 57) x = (μ 57) := (by unfold w_X10_write_57; rw [if_neg c1, if_neg c7, if_neg c18, if_neg c31]); have e54 : w_X10_write_54 (μ 1) (μ 54) x = (μ 54) := (by unfold w_X10_write_54; rw [if_neg c1, if_neg c7, if_neg c18, if_neg c31]); show _ = (zhs (zhs μ 57 (w_X10_write_57 (μ 1) (μ 54) (μ 57) x)) 54 (w_X10_write_54 (μ 1) (μ 54) x)); symm; rw [e57, e54]; rw [zhs_i2 (ν := μ) (k := 57) (g := (μ 57)) rfl, zhs_i2 (ν := μ) (k := 54) (g := (μ 54)) rfl]))
      · skip
        refine pv_ldc t_X10_write_21 kc_X10_141 ?_
        exact pv_ireti t_X10_write_23 rfl (by unfold a_X10_write; rw [if_neg c1, if_neg c7, if_pos c18]) (Prod.ext rfl (by have e57 : w_X10_write_57 (μ 1) (μ 54) (μ 57) x = (μ 57) := (by unfold w_X10_write_57; rw [if_neg c1, if_neg c7, if_pos c18]); have e54 : w_X10_write_54 (μ 1) (μ 54) x = (μ 54) := (by unfold w_X10_write_54; rw [if_neg c1, if_neg c7, if_pos c18]); show _ = (zhs (zhs μ 57 (w_X10_write_57 (μ 1) (μ 54) (μ 57) x)) 54 (w_X10_write_54 (μ 1) (μ 54) x)); symm; rw [e57, e54]; rw [zhs_i2 (ν := μ) (k := 57) (g := (μ 57)) rfl, zhs_i2 (ν := μ) (k := 54) (g := (μ 54)) rfl]))
def a_X10_tear (f54 : Nat → Int32) : Int32 := f54 4 + f54 5 + f54 6
def w_X10_tear_54 (f54 : Nat → Int32) : Nat → Int32 := caN f54
theorem e_X10_tear {l : Launch} {X : zX} {d : Nat} {μ : zH} : zRn l X mi_X10_tear (d + 4) [.inr 0] (zSH, μ) (some (.inl (a_X10_tear (μ 54)))) (zSH, (zhs μ 54 (w_X10_tear_54 (μ 54)))) := by
  refine pv_aload_n (i := 0) t_X10_tear_0 rfl rfl ?_
  refine pv_getR t_X10_tear_1 fl_X10_43 hh_0 rfl ?_
  refine sv_V0 ((μ 54) 4 + (μ 54) 5 + (μ 54) 6) ((zhs μ 54 (caN (μ 54)))) t_X10_tear_4 ml_X10_103 mo_X5_clearAll hh_54 rfl (Nat.le_of_ble_eq_true rfl) (e_X5_clearAll hN54) (Nat.le_of_ble_eq_true rfl) rfl rfl ?_
  exact pv_ireti t_X10_tear_7 rfl (by unfold a_X10_tear; rfl) (Prod.ext rfl (by have e54 : w_X10_tear_54 (μ 54) = caN (μ 54) := (by unfold w_X10_tear_54; rfl); show _ = (zhs μ 54 (w_X10_tear_54 (μ 54))); symm; rw [e54]))
def a_X10_seed (f13 : Nat → Int32) (x : Int32) : Int32 := (if 0 ≤ x then f13 3 else (-1000000002))
def w_X10_seed_13 (f13 : Nat → Int32) (x : Int32) : Nat → Int32 := (if 0 ≤ x then (upd f13 3 x) else f13)
theorem e_X10_seed {l : Launch} {X : zX} {d : Nat} {μ : zH} {x : Int32} : zRn l X mi_X10_seed (d + 4) [.inr 0, .inl (x)] (zSH, μ) (some (.inl (a_X10_seed (μ 13) x))) (zSH, (zhs μ 13 (w_X10_seed_13 (μ 13) x))) := by
  refine pv_iload_n (i := 1) t_X10_seed_0 rfl rfl ?_
  refine pv_if_ge t_X10_seed_1 (fun c1 => ?_) (fun c1 => ?_)
  · skip
    refine pv_aload_n (i := 0) t_X10_seed_7 rfl rfl ?_
    refine pv_getR t_X10_seed_8 fl_X10_28 hh_0 rfl ?_
    refine sv_getI ((μ 13) 3) t_X10_seed_11 fl_X10_294 hh_13 rfl rfl ?_
    refine pv_istore_n (i := 2) t_X10_seed_14 rfl (Nat.le_of_ble_eq_true rfl) ?_
    refine pv_aload_n (i := 0) t_X10_seed_15 rfl rfl ?_
    refine pv_getR t_X10_seed_16 fl_X10_28 hh_0 rfl ?_
    refine pv_iload_n (i := 1) t_X10_seed_19 rfl rfl ?_
    refine sv_putI ((zhs μ 13 ((upd (μ 13) 3 x)))) t_X10_seed_20 fl_X10_294 zfn_8_3 hh_13 rfl rfl ?_
    refine pv_iload_n (i := 2) t_X10_seed_23 rfl rfl ?_
    exact pv_ireti t_X10_seed_24 rfl (by unfold a_X10_seed; rw [if_pos c1]) (Prod.ext rfl (by have e13 : w_X10_seed_13 (μ 13) x = (upd (μ 13) 3 x) := (by unfold w_X10_seed_13; rw [if_pos c1]); show _ = (zhs μ 13 (w_X10_seed_13 (μ 13) x)); symm; rw [e13]))
  · skip
    refine pv_ldc t_X10_seed_4 kc_X10_80 ?_
    exact pv_ireti t_X10_seed_6 rfl (by unfold a_X10_seed; rw [if_neg c1]) (Prod.ext rfl (by have e13 : w_X10_seed_13 (μ 13) x = (μ 13) := (by unfold w_X10_seed_13; rw [if_neg c1]); show _ = (zhs μ 13 (w_X10_seed_13 (μ 13) x)); symm; rw [e13]; rw [zhs_i2 (ν := μ) (k := 13) (g := (μ 13)) rfl]))
def a_X10_met (f1 : Nat → Int32) (f16 : Nat → Int32) (x : Int32) (y : Int32) : Int32 := (if (a_X10_areTwo f1 x y) = 0 then (-1000000001) else rA f16 6 (prO x y))
theorem e_X10_met {l : Launch} {X : zX} {d : Nat} {μ : zH} {x : Int32} {y : Int32} : zRn l X mi_X10_met (d + 4) [.inr 0, .inl (x), .inl (y)] (zSH, μ) (some (.inl (a_X10_met (μ 1) (μ 16) x y))) (zSH, μ) := by
  refine pv_aload_n (i := 0) t_X10_met_0 rfl rfl ?_
  refine pv_iload_n (i := 1) t_X10_met_1 rfl rfl ?_
  refine pv_iload_n (i := 2) t_X10_met_2 rfl rfl ?_
  refine sv_V2 (a_X10_areTwo (μ 1) x y) μ t_X10_met_3 ml_X10_184 mo_X10_areTwo hh_0 rfl (Nat.le_of_ble_eq_true rfl) (e_X10_areTwo) (Nat.le_of_ble_eq_true rfl) rfl rfl ?_
  refine pv_if_eq t_X10_met_6 (fun c6 => ?_) (fun c6 => ?_)
  · skip
    refine pv_ldc t_X10_met_24 kc_X10_141 ?_
    exact pv_ireti t_X10_met_26 rfl (by unfold a_X10_met; rw [if_pos c6]) rfl
  · skip
    refine pv_aload_n (i := 0) t_X10_met_9 rfl rfl ?_
    refine pv_getR t_X10_met_10 fl_X10_28 hh_0 rfl ?_
    refine pv_getR t_X10_met_13 fl_X10_154 hh_13 rfl ?_
    refine pv_iload_n (i := 1) t_X10_met_16 rfl rfl ?_
    refine pv_iload_n (i := 2) t_X10_met_17 rfl rfl ?_
    refine sv_V2 (rA (μ 16) 6 (prO x y)) μ t_X10_met_18 ml_X10_255 mo_X3_meetingsOf hh_14 rfl (Nat.le_of_ble_eq_true rfl) (e_X3_meetingsOf hL14) (Nat.le_of_ble_eq_true rfl) rfl rfl ?_
    refine pv_goto t_X10_met_21 ?_
    exact pv_ireti t_X10_met_26 rfl (by unfold a_X10_met; rw [if_neg c6]) rfl
def a_X10_vain (f1 : Nat → Int32) (f3 : Nat → Int32) (f4 : Nat → Int32) (f24 : Nat → Int32) (f55 : Nat → Int32) (x : Int32) (y : Int32) (kw : Nat) : Int32 := (if (bz (zib x (f1 0))) = 0 then (-1000000001) else (if (a_X10_isTopic y) = 0 then (-1000000002) else fvS f3 f4 f24 f55 x y kw 10))
theorem e_X10_vain {l : Launch} {X : zX} {d : Nat} {μ : zH} {kw : Nat} {x : Int32} {y : Int32} (hkw : μ 54 4 = nI kw) (hw12 : kw ≤ 12) : zRn l X mi_X10_vain (d + 8) [.inr 0, .inl (x), .inl (y)] (zSH, μ) (some (.inl (a_X10_vain (μ 1) (μ 3) (μ 4) (μ 24) (μ 55) x y kw))) (zSH, μ) := by
  refine pv_aload_n (i := 0) t_X10_vain_0 rfl rfl ?_
  refine pv_getR t_X10_vain_1 fl_X10_10 hh_0 rfl ?_
  refine pv_iload_n (i := 1) t_X10_vain_4 rfl rfl ?_
  refine sv_V1 (bz (zib x ((μ 1) 0))) μ t_X10_vain_5 ml_X10_137 mo_X4_hasPerson hh_1 rfl (Nat.le_of_ble_eq_true rfl) (e_X4_hasPerson hM1) (Nat.le_of_ble_eq_true rfl) rfl rfl ?_
  refine pv_if_ne t_X10_vain_8 (fun c8 => ?_) (fun c8 => ?_)
  · skip
    refine pv_iload_n (i := 2) t_X10_vain_14 rfl rfl ?_
    refine sv_S1 (a_X10_isTopic y) μ t_X10_vain_15 ml_X10_216 mo_X10_isTopic (Nat.le_of_ble_eq_true rfl) (e_X10_isTopic) (Nat.le_of_ble_eq_true rfl) rfl rfl ?_
    refine pv_if_eq t_X10_vain_18 (fun c18 => ?_) (fun c18 => ?_)
    · skip
      refine pv_ldc t_X10_vain_40 kc_X10_80 ?_
      exact pv_ireti t_X10_vain_42 rfl (by unfold a_X10_vain; rw [if_neg c8, if_pos c18]) rfl
    · skip
      refine pv_aload_n (i := 0) t_X10_vain_21 rfl rfl ?_
      refine pv_getR t_X10_vain_22 fl_X10_43 hh_0 rfl ?_
      refine pv_aload_n (i := 0) t_X10_vain_25 rfl rfl ?_
      refine pv_getR t_X10_vain_26 fl_X10_28 hh_0 rfl ?_
      refine pv_getR t_X10_vain_29 fl_X10_56 hh_13 rfl ?_
      refine pv_iload_n (i := 1) t_X10_vain_32 rfl rfl ?_
      refine pv_iload_n (i := 2) t_X10_vain_33 rfl rfl ?_
      refine sv_V3 (fvS (μ 3) (μ 4) (μ 24) (μ 55) x y kw 10) μ t_X10_vain_34 ml_X10_265 mo_X5_fittingVanities hh_54 rfl (Nat.le_of_ble_eq_true rfl) (e_X5_fittingVanities hM1 hF23 hN54 hkw hw12) (Nat.le_of_ble_eq_true rfl) rfl rfl ?_
      refine pv_goto t_X10_vain_37 ?_
      exact pv_ireti t_X10_vain_42 rfl (by unfold a_X10_vain; rw [if_neg c8, if_neg c18]) rfl
  · skip
    refine pv_ldc t_X10_vain_11 kc_X10_141 ?_
    exact pv_ireti t_X10_vain_13 rfl (by unfold a_X10_vain; rw [if_pos c8]) rfl
def a_X10_probe (f1 : Nat → Int32) (f3 : Nat → Int32) (f4 : Nat → Int32) (f24 : Nat → Int32) (f55 : Nat → Int32) (f58 : Nat → Int32) (x : Int32) (y : Int32) (nc : Nat) (kw : Nat) : Int32 := (if (bz (zib x (f1 0))) = 0 then (-1000000001) else (if (a_X10_isTopic y) = 0 then (-1000000002) else (ppS f3 f4 f24 x y (fvS f3 f4 f24 f55 x y kw 10) (-1, (bc (fvS f3 f4 f24 f55 x y kw 10), f58)) nc).1))
def w_X10_probe_58 (f1 : Nat → Int32) (f3 : Nat → Int32) (f4 : Nat → Int32) (f24 : Nat → Int32) (f55 : Nat → Int32) (f58 : Nat → Int32) (x : Int32) (y : Int32) (nc : Nat) (kw : Nat) : Nat → Int32 := (if (bz (zib x (f1 0))) = 0 then f58 else (if (a_X10_isTopic y) = 0 then f58 else (ppS f3 f4 f24 x y (fvS f3 f4 f24 f55 x y kw 10) (-1, (bc (fvS f3 f4 f24 f55 x y kw 10), f58)) nc).2.2))
theorem e_X10_probe {l : Launch} {X : zX} {d : Nat} {μ : zH} {nc kw : Nat} {x : Int32} {y : Int32} (hnc : μ 1 1 = nI nc) (hc8 : nc ≤ 8) (hkw : μ 54 4 = nI kw) (hw12 : kw ≤ 12) : zRn l X mi_X10_probe (d + 8) [.inr 0, .inl (x), .inl (y)] (zSH, μ) (some (.inl (a_X10_probe (μ 1) (μ 3) (μ 4) (μ 24) (μ 55) (μ 58) x y nc kw))) (zSH, (zhs μ 58 (w_X10_probe_58 (μ 1) (μ 3) (μ 4) (μ 24) (μ 55) (μ 58) x y nc kw))) := by
  refine pv_aload_n (i := 0) t_X10_probe_0 rfl rfl ?_
  refine pv_getR t_X10_probe_1 fl_X10_10 hh_0 rfl ?_
  refine pv_iload_n (i := 1) t_X10_probe_4 rfl rfl ?_
  refine sv_V1 (bz (zib x ((μ 1) 0))) μ t_X10_probe_5 ml_X10_137 mo_X4_hasPerson hh_1 rfl (Nat.le_of_ble_eq_true rfl) (e_X4_hasPerson hM1) (Nat.le_of_ble_eq_true rfl) rfl rfl ?_
  refine pv_if_ne t_X10_probe_8 (fun c8 => ?_) (fun c8 => ?_)
  · skip
    refine pv_iload_n (i := 2) t_X10_probe_14 rfl rfl ?_
    refine sv_S1 (a_X10_isTopic y) μ t_X10_probe_15 ml_X10_216 mo_X10_isTopic (Nat.le_of_ble_eq_true rfl) (e_X10_isTopic) (Nat.le_of_ble_eq_true rfl) rfl rfl ?_
    refine pv_if_eq t_X10_probe_18 (fun c18 => ?_) (fun c18 => ?_)
    · skip
      refine pv_ldc t_X10_probe_40 kc_X10_80 ?_
      exact pv_ireti t_X10_probe_42 rfl (by unfold a_X10_probe; rw [if_neg c8, if_pos c18]) (Prod.ext rfl (by have e58 : w_X10_probe_58 (μ 1) (μ 3) (μ 4) (μ 24) (μ 55) (μ 58) x y nc kw = (μ 58) := (by unfold w_X10_probe_58; rw [if_neg c8, if_pos c18]); show _ = (zhs μ 58 (w_X10_probe_58 (μ 1) (μ 3) (μ 4) (μ 24) (μ 55) (μ 58) x y nc kw)); symm; rw [e58]; rw [zhs_i2 (ν := μ) (k := 58) (g := (μ 58)) rfl]))
    · skip
      refine pv_aload_n (i := 0) t_X10_probe_21 rfl rfl ?_
      refine pv_getR t_X10_probe_22 fl_X10_43 hh_0 rfl ?_
      refine pv_aload_n (i := 0) t_X10_probe_25 rfl rfl ?_
      refine pv_getR t_X10_probe_26 fl_X10_28 hh_0 rfl ?_
      refine pv_getR t_X10_probe_29 fl_X10_56 hh_13 rfl ?_
      refine pv_iload_n (i := 1) t_X10_probe_32 rfl rfl ?_
      refine pv_iload_n (i := 2) t_X10_probe_33 rfl rfl ?_
      refine sv_V3 ((ppS (μ 3) (μ 4) (μ 24) x y (fvS (μ 3) (μ 4) (μ 24) (μ 55) x y kw 10) (-1, (bc (fvS (μ 3) (μ 4) (μ 24) (μ 55) x y kw 10), (μ 58))) nc).1) ((zhs μ 58 ((ppS (μ 3) (μ 4) (μ 24) x y (fvS (μ 3) (μ 4) (μ 24) (μ 55) x y kw 10) (-1, (bc (fvS (μ 3) (μ 4) (μ 24) (μ 55) x y kw 10), (μ 58))) nc).2.2))) t_X10_probe_34 ml_X10_269 mo_X5_partingPhrase hh_54 rfl (Nat.le_of_ble_eq_true rfl) (e_X5_partingPhrase hM1 hF23 hN54 hnc hc8 hkw hw12) (Nat.le_of_ble_eq_true rfl) rfl rfl ?_
      refine pv_goto t_X10_probe_37 ?_
      exact pv_ireti t_X10_probe_42 rfl (by unfold a_X10_probe; rw [if_neg c8, if_neg c18]) (Prod.ext rfl (by have e58 : w_X10_probe_58 (μ 1) (μ 3) (μ 4) (μ 24) (μ 55) (μ 58) x y nc kw = (ppS (μ 3) (μ 4) (μ 24) x y (fvS (μ 3) (μ 4) (μ 24) (μ 55) x y kw 10) (-1, (bc (fvS (μ 3) (μ 4) (μ 24) (μ 55) x y kw 10), (μ 58))) nc).2.2 := (by unfold w_X10_probe_58; rw [if_neg c8, if_neg c18]); show _ = (zhs μ 58 (w_X10_probe_58 (μ 1) (μ 3) (μ 4) (μ 24) (μ 55) (μ 58) x y nc kw)); symm; rw [e58]))
  · skip
    refine pv_ldc t_X10_probe_11 kc_X10_141 ?_
    exact pv_ireti t_X10_probe_13 rfl (by unfold a_X10_probe; rw [if_pos c8]) (Prod.ext rfl (by have e58 : w_X10_probe_58 (μ 1) (μ 3) (μ 4) (μ 24) (μ 55) (μ 58) x y nc kw = (μ 58) := (by unfold w_X10_probe_58; rw [if_pos c8]); show _ = (zhs μ 58 (w_X10_probe_58 (μ 1) (μ 3) (μ 4) (μ 24) (μ 55) (μ 58) x y nc kw)); symm; rw [e58]; rw [zhs_i2 (ν := μ) (k := 58) (g := (μ 58)) rfl]))
def a_X10_judge (f2 : Nat → Int32) (f3 : Nat → Int32) (f4 : Nat → Int32) (f21 : Nat → Int32) (f22 : Nat → Int32) (f24 : Nat → Int32) (f25 : Nat → Int32) (f57 : Nat → Int32) (f60 : Nat → Int32) (f61 : Nat → Int32) (x : Int32) (kb : Nat) : Int32 := (if x < 0 then (-1000000002) else (if x ≤ 1 then (if (bz (dEx f21)) = 0 then (-1000000003) else (if x = 0 then (pbS f2 f3 f4 f24 f25 f57 kb 0 (cpy 20 f21 f60) (cpy 800 f22 f61)).1 else cell ((pbS f2 f3 f4 f24 f25 f57 kb 0 (cpy 20 f21 f60) (cpy 800 f22 f61)).2.1) 2)) else (-1000000002)))
def w_X10_judge_61 (f2 : Nat → Int32) (f3 : Nat → Int32) (f4 : Nat → Int32) (f21 : Nat → Int32) (f22 : Nat → Int32) (f24 : Nat → Int32) (f25 : Nat → Int32) (f57 : Nat → Int32) (f60 : Nat → Int32) (f61 : Nat → Int32) (x : Int32) (kb : Nat) : Nat → Int32 := (if x < 0 then f61 else (if x ≤ 1 then (if (bz (dEx f21)) = 0 then f61 else (pbS f2 f3 f4 f24 f25 f57 kb 0 (cpy 20 f21 f60) (cpy 800 f22 f61)).2.2) else f61))
def w_X10_judge_60 (f2 : Nat → Int32) (f3 : Nat → Int32) (f4 : Nat → Int32) (f21 : Nat → Int32) (f22 : Nat → Int32) (f24 : Nat → Int32) (f25 : Nat → Int32) (f57 : Nat → Int32) (f60 : Nat → Int32) (f61 : Nat → Int32) (x : Int32) (kb : Nat) : Nat → Int32 := (if x < 0 then f60 else (if x ≤ 1 then (if (bz (dEx f21)) = 0 then f60 else (pbS f2 f3 f4 f24 f25 f57 kb 0 (cpy 20 f21 f60) (cpy 800 f22 f61)).2.1) else f60))
theorem e_X10_judge {l : Launch} {X : zX} {d : Nat} {μ : zH} {kb : Nat} {x : Int32} (hkb : μ 54 6 = nI kb) (hb20 : kb ≤ 20) : zRn l X mi_X10_judge (d + 8) [.inr 0, .inl (x)] (zSH, μ) (some (.inl (a_X10_judge (μ 2) (μ 3) (μ 4) (μ 21) (μ 22) (μ 24) (μ 25) (μ 57) (μ 60) (μ 61) x kb))) (zSH, (zhs (zhs μ 61 (w_X10_judge_61 (μ 2) (μ 3) (μ 4) (μ 21) (μ 22) (μ 24) (μ 25) (μ 57) (μ 60) (μ 61) x kb)) 60 (w_X10_judge_60 (μ 2) (μ 3) (μ 4) (μ 21) (μ 22) (μ 24) (μ 25) (μ 57) (μ 60) (μ 61) x kb))) := by
  refine pv_iload_n (i := 1) t_X10_judge_0 rfl rfl ?_
  refine pv_if_lt t_X10_judge_1 (fun c1 => ?_) (fun c1 => ?_)
  · skip
    refine pv_ldc t_X10_judge_9 kc_X10_80 ?_
    exact pv_ireti t_X10_judge_11 rfl (by unfold a_X10_judge; rw [if_pos c1]) (Prod.ext rfl (by have e61 : w_X10_judge_61 (μ 2) (μ 3) (μ 4) (μ 21) (μ 22) (μ 24) (μ 25) (μ 57) (μ 60) (μ 61) x kb = (μ 61) := (by unfold w_X10_judge_61; rw [if_pos c1]); have e60 : w_X10_judge_60 (μ 2) (μ 3) (μ 4) (μ 21) (μ 22) (μ 24) (μ 25) (μ 57) (μ 60) (μ 61) x kb = (μ 60) := (by unfold w_X10_judge_60; rw [if_pos c1]); show _ = (zhs (zhs μ 61 (w_X10_judge_61 (μ 2) (μ 3) (μ 4) (μ 21) (μ 22) (μ 24) (μ 25) (μ 57) (μ 60) (μ 61) x kb)) 60 (w_X10_judge_60 (μ 2) (μ 3) (μ 4) (μ 21) (μ 22) (μ 24) (μ 25) (μ 57) (μ 60) (μ 61) x kb)); symm; rw [e61, e60]; rw [zhs_i2 (ν := μ) (k := 61) (g := (μ 61)) rfl, zhs_i2 (ν := μ) (k := 60) (g := (μ 60)) rfl]))
  · skip
    refine pv_iload_n (i := 1) t_X10_judge_4 rfl rfl ?_
    refine pv_iconst (v := 1) t_X10_judge_5 zi_1 ?_
    refine pv_icmp_le t_X10_judge_6 (fun c6 => ?_) (fun c6 => ?_)
    · skip
      refine pv_aload_n (i := 0) t_X10_judge_12 rfl rfl ?_
      refine pv_getR t_X10_judge_13 fl_X10_28 hh_0 rfl ?_
      refine pv_getR t_X10_judge_16 fl_X10_109 hh_13 rfl ?_
      refine sv_V0 (bz (dEx (μ 21))) μ t_X10_judge_19 ml_X10_199 mo_X1_exists hh_20 rfl (Nat.le_of_ble_eq_true rfl) (e_X1_exists hD20) (Nat.le_of_ble_eq_true rfl) rfl rfl ?_
      refine pv_if_ne t_X10_judge_22 (fun c22 => ?_) (fun c22 => ?_)
      · skip
        refine pv_aload_n (i := 0) t_X10_judge_28 rfl rfl ?_
        refine pv_getR t_X10_judge_29 fl_X10_50 hh_0 rfl ?_
        refine pv_aload_n (i := 0) t_X10_judge_32 rfl rfl ?_
        refine pv_getR t_X10_judge_33 fl_X10_28 hh_0 rfl ?_
        refine pv_getR t_X10_judge_36 fl_X10_109 hh_13 rfl ?_
        refine sv_WV1 ((zhs (zhs μ 60 (cpy 20 (μ 21) (μ 60))) 61 (cpy 800 (μ 22) (μ 61)))) t_X10_judge_39 ml_X10_228 mo_X1_copyFrom hh_59 rfl (Nat.le_of_ble_eq_true rfl) (e_X1_copyFrom hD59 hD20) (Nat.le_of_ble_eq_true rfl) rfl ?_
        refine pv_aload_n (i := 0) t_X10_judge_42 rfl rfl ?_
        refine pv_getR t_X10_judge_43 fl_X10_43 hh_0 rfl ?_
        refine pv_aload_n (i := 0) t_X10_judge_46 rfl rfl ?_
        refine pv_getR t_X10_judge_47 fl_X10_50 hh_0 rfl ?_
        refine pv_aload_n (i := 0) t_X10_judge_50 rfl rfl ?_
        refine pv_getR t_X10_judge_51 fl_X10_28 hh_0 rfl ?_
        refine pv_getR t_X10_judge_54 fl_X10_56 hh_13 rfl ?_
        refine sv_V2 ((pbS (μ 2) (μ 3) (μ 4) (μ 24) (μ 25) (μ 57) kb 0 (cpy 20 (μ 21) (μ 60)) (cpy 800 (μ 22) (μ 61))).1) ((zhs (zhs μ 61 ((pbS (μ 2) (μ 3) (μ 4) (μ 24) (μ 25) (μ 57) kb 0 (cpy 20 (μ 21) (μ 60)) (cpy 800 (μ 22) (μ 61))).2.2)) 60 ((pbS (μ 2) (μ 3) (μ 4) (μ 24) (μ 25) (μ 57) kb 0 (cpy 20 (μ 21) (μ 60)) (cpy 800 (μ 22) (μ 61))).2.1))) t_X10_judge_57 ml_X10_290 mo_X5_playBook hh_54 rfl (Nat.le_of_ble_eq_true rfl) (e_X5_playBook hM1 hF23 hN54 hD59 hkb hb20 (by decide)) (Nat.le_of_ble_eq_true rfl) rfl (by (try simp (disch := decide) only [zhs_d, zhs_s]); rw [zhs_cm (μ := μ) (a := 60) (b := 61) (by decide), zhs_cm (μ := (zhs μ 61 (cpy 800 (μ 22) (μ 61)))) (a := 60) (b := 61) (by decide), zhs_hs, zhs_hs] <;> (first | rfl | (congr 1; funext k_; simp only [upd]; ((repeat' split) <;> first | rfl | (simp_all; done))))) ?_
        refine pv_istore_n (i := 2) t_X10_judge_60 rfl (Nat.le_of_ble_eq_true rfl) ?_
        refine pv_iload_n (i := 1) t_X10_judge_61 rfl rfl ?_
        refine pv_if_ne t_X10_judge_62 (fun c62 => ?_) (fun c62 => ?_)
        · skip
          refine pv_aload_n (i := 0) t_X10_judge_69 rfl rfl ?_
          refine pv_getR t_X10_judge_70 fl_X10_50 hh_0 rfl ?_
          refine pv_iconst (v := 2) t_X10_judge_73 zi_2 ?_
          refine sv_V1 (cell ((pbS (μ 2) (μ 3) (μ 4) (μ 24) (μ 25) (μ 57) kb 0 (cpy 20 (μ 21) (μ 60)) (cpy 800 (μ 22) (μ 61))).2.1) 2) ((zhs (zhs μ 61 ((pbS (μ 2) (μ 3) (μ 4) (μ 24) (μ 25) (μ 57) kb 0 (cpy 20 (μ 21) (μ 60)) (cpy 800 (μ 22) (μ 61))).2.2)) 60 ((pbS (μ 2) (μ 3) (μ 4) (μ 24) (μ 25) (μ 57) kb 0 (cpy 20 (μ 21) (μ 60)) (cpy 800 (μ 22) (μ 61))).2.1))) t_X10_judge_74 ml_X10_118 mo_X1_cell hh_59 rfl (Nat.le_of_ble_eq_true rfl) (e_X1_cell hD59) (Nat.le_of_ble_eq_true rfl) rfl rfl ?_
          exact pv_ireti t_X10_judge_77 rfl (by unfold a_X10_judge; rw [if_neg c1, if_pos c6, if_neg c22, if_neg c62]) (Prod.ext rfl (by have e61 : w_X10_judge_61 (μ 2) (μ 3) (μ 4) (μ 21) (μ 22) (μ 24) (μ 25) (μ 57) (μ 60) (μ 61) x kb = (pbS (μ 2) (μ 3) (μ 4) (μ 24) (μ 25) (μ 57) kb 0 (cpy 20 (μ 21) (μ 60)) (cpy 800 (μ 22) (μ 61))).2.2 := (by unfold w_X10_judge_61; rw [if_neg c1, if_pos c6, if_neg c22]); have e60 : w_X10_judge_60 (μ 2) (μ 3) (μ 4) (μ 21) (μ 22) (μ 24) (μ 25) (μ 57) (μ 60) (μ 61) x kb = (pbS (μ 2) (μ 3) (μ 4) (μ 24) (μ 25) (μ 57) kb 0 (cpy 20 (μ 21) (μ 60)) (cpy 800 (μ 22) (μ 61))).2.1 := (by unfold w_X10_judge_60; rw [if_neg c1, if_pos c6, if_neg c22]); show _ = (zhs (zhs μ 61 (w_X10_judge_61 (μ 2) (μ 3) (μ 4) (μ 21) (μ 22) (μ 24) (μ 25) (μ 57) (μ 60) (μ 61) x kb)) 60 (w_X10_judge_60 (μ 2) (μ 3) (μ 4) (μ 21) (μ 22) (μ 24) (μ 25) (μ 57) (μ 60) (μ 61) x kb)); symm; rw [e61, e60]))
        · skip
          refine pv_iload_n (i := 2) t_X10_judge_65 rfl rfl ?_
          refine pv_goto t_X10_judge_66 ?_
          exact pv_ireti t_X10_judge_77 rfl (by unfold a_X10_judge; rw [if_neg c1, if_pos c6, if_neg c22, if_pos c62]) (Prod.ext rfl (by have e61 : w_X10_judge_61 (μ 2) (μ 3) (μ 4) (μ 21) (μ 22) (μ 24) (μ 25) (μ 57) (μ 60) (μ 61) x kb = (pbS (μ 2) (μ 3) (μ 4) (μ 24) (μ 25) (μ 57) kb 0 (cpy 20 (μ 21) (μ 60)) (cpy 800 (μ 22) (μ 61))).2.2 := (by unfold w_X10_judge_61; rw [if_neg c1, if_pos c6, if_neg c22]); have e60 : w_X10_judge_60 (μ 2) (μ 3) (μ 4) (μ 21) (μ 22) (μ 24) (μ 25) (μ 57) (μ 60) (μ 61) x kb = (pbS (μ 2) (μ 3) (μ 4) (μ 24) (μ 25) (μ 57) kb 0 (cpy 20 (μ 21) (μ 60)) (cpy 800 (μ 22) (μ 61))).2.1 := (by unfold w_X10_judge_60; rw [if_neg c1, if_pos c6, if_neg c22]); show _ = (zhs (zhs μ 61 (w_X10_judge_61 (μ 2) (μ 3) (μ 4) (μ 21) (μ 22) (μ 24) (μ 25) (μ 57) (μ 60) (μ 61) x kb)) 60 (w_X10_judge_60 (μ 2) (μ 3) (μ 4) (μ 21) (μ 22) (μ 24) (μ 25) (μ 57) (μ 60) (μ 61) x kb)); symm; rw [e61, e60]))
      · skip
        refine pv_ldc t_X10_judge_25 kc_X10_195 ?_
        exact pv_ireti t_X10_judge_27 rfl (by unfold a_X10_judge; rw [if_neg c1, if_pos c6, if_pos c22]) (Prod.ext rfl (by have e61 : w_X10_judge_61 (μ 2) (μ 3) (μ 4) (μ 21) (μ 22) (μ 24) (μ 25) (μ 57) (μ 60) (μ 61) x kb = (μ 61) := (by unfold w_X10_judge_61; rw [if_neg c1, if_pos c6, if_pos c22]); have e60 : w_X10_judge_60 (μ 2) (μ 3) (μ 4) (μ 21) (μ 22) (μ 24) (μ 25) (μ 57) (μ 60) (μ 61) x kb = (μ 60) := (by unfold w_X10_judge_60; rw [if_neg c1, if_pos c6, if_pos c22]); show _ = (zhs (zhs μ 61 (w_X10_judge_61 (μ 2) (μ 3) (μ 4) (μ 21) (μ 22) (μ 24) (μ 25) (μ 57) (μ 60) (μ 61) x kb)) 60 (w_X10_judge_60 (μ 2) (μ 3) (μ 4) (μ 21) (μ 22) (μ 24) (μ 25) (μ 57) (μ 60) (μ 61) x kb)); symm; rw [e61, e60]; rw [zhs_i2 (ν := μ) (k := 61) (g := (μ 61)) rfl, zhs_i2 (ν := μ) (k := 60) (g := (μ 60)) rfl]))
    · skip
      refine pv_ldc t_X10_judge_9 kc_X10_80 ?_
      exact pv_ireti t_X10_judge_11 rfl (by unfold a_X10_judge; rw [if_neg c1, if_neg c6]) (Prod.ext rfl (by have e61 : w_X10_judge_61 (μ 2) (μ 3) (μ 4) (μ 21) (μ 22) (μ 24) (μ 25) (μ 57) (μ 60) (μ 61) x kb = (μ 61) := (by unfold w_X10_judge_61; rw [if_neg c1, if_neg c6]); have e60 : w_X10_judge_60 (μ 2) (μ 3) (μ 4) (μ 21) (μ 22) (μ 24) (μ 25) (μ 57) (μ 60) (μ 61) x kb = (μ 60) := (by unfold w_X10_judge_60; rw [if_neg c1, if_neg c6]); show _ = (zhs (zhs μ 61 (w_X10_judge_61 (μ 2) (μ 3) (μ 4) (μ 21) (μ 22) (μ 24) (μ 25) (μ 57) (μ 60) (μ 61) x kb)) 60 (w_X10_judge_60 (μ 2) (μ 3) (μ 4) (μ 21) (μ 22) (μ 24) (μ 25) (μ 57) (μ 60) (μ 61) x kb)); symm; rw [e61, e60]; rw [zhs_i2 (ν := μ) (k := 61) (g := (μ 61)) rfl, zhs_i2 (ν := μ) (k := 60) (g := (μ 60)) rfl]))
def a_X10_deeds (f1 : Nat → Int32) (f4 : Nat → Int32) (f24 : Nat → Int32) (x : Int32) (m : Int32) (y : Int32) (nc : Nat) : Int32 := (if (bz (zib x (f1 0))) = 0 then (-1000000001) else (if m < 0 then (-1000000002) else (if 8 < m then (-1000000002) else (if y < 0 then (-1000000002) else (if y ≤ 1 then (if y = 0 then (if (fdS f4 nc (rA f24 4 x) m 256) = ((-1)) then fdS f4 nc (rA f24 4 x) m 256 else bc (fdS f4 nc (rA f24 4 x) m 256)) else fdS f4 nc (rA f24 4 x) m 256) else (-1000000002))))))
theorem e_X10_deeds {l : Launch} {X : zX} {d : Nat} {μ : zH} {nc : Nat} {x : Int32} {m : Int32} {y : Int32} (hnc : μ 1 1 = nI nc) (hc8 : nc ≤ 8) : zRn l X mi_X10_deeds (d + 6) [.inr 0, .inl (x), .inl (m), .inl (y)] (zSH, μ) (some (.inl (a_X10_deeds (μ 1) (μ 4) (μ 24) x m y nc))) (zSH, μ) := by
  refine pv_aload_n (i := 0) t_X10_deeds_0 rfl rfl ?_
  refine pv_getR t_X10_deeds_1 fl_X10_10 hh_0 rfl ?_
  refine pv_iload_n (i := 1) t_X10_deeds_4 rfl rfl ?_
  refine sv_V1 (bz (zib x ((μ 1) 0))) μ t_X10_deeds_5 ml_X10_137 mo_X4_hasPerson hh_1 rfl (Nat.le_of_ble_eq_true rfl) (e_X4_hasPerson hM1) (Nat.le_of_ble_eq_true rfl) rfl rfl ?_
  refine pv_if_ne t_X10_deeds_8 (fun c8 => ?_) (fun c8 => ?_)
  · skip
    refine pv_iload_n (i := 2) t_X10_deeds_14 rfl rfl ?_
    refine pv_if_lt t_X10_deeds_15 (fun c15 => ?_) (fun c15 => ?_)
    · skip
      refine pv_ldc t_X10_deeds_33 kc_X10_80 ?_
      exact pv_ireti t_X10_deeds_35 rfl (by unfold a_X10_deeds; rw [if_neg c8, if_pos c15]) rfl
    · skip
      refine pv_iload_n (i := 2) t_X10_deeds_18 rfl rfl ?_
      refine pv_bipush (v := 8) t_X10_deeds_19 zb_8 ?_
      refine pv_icmp_gt t_X10_deeds_21 (fun c21 => ?_) (fun c21 => ?_)
      · skip
        refine pv_ldc t_X10_deeds_33 kc_X10_80 ?_
        exact pv_ireti t_X10_deeds_35 rfl (by unfold a_X10_deeds; rw [if_neg c8, if_neg c15, if_pos c21]) rfl
      · skip
        refine pv_iload_n (i := 3) t_X10_deeds_24 rfl rfl ?_
        refine pv_if_lt t_X10_deeds_25 (fun c25 => ?_) (fun c25 => ?_)
        · skip
          refine pv_ldc t_X10_deeds_33 kc_X10_80 ?_
          exact pv_ireti t_X10_deeds_35 rfl (by unfold a_X10_deeds; rw [if_neg c8, if_neg c15, if_neg c21, if_pos c25]) rfl
        · skip
          refine pv_iload_n (i := 3) t_X10_deeds_28 rfl rfl ?_
          refine pv_iconst (v := 1) t_X10_deeds_29 zi_1 ?_
          refine pv_icmp_le t_X10_deeds_30 (fun c30 => ?_) (fun c30 => ?_)
          · skip
            refine pv_aload_n (i := 0) t_X10_deeds_36 rfl rfl ?_
            refine pv_getR t_X10_deeds_37 fl_X10_28 hh_0 rfl ?_
            refine pv_getR t_X10_deeds_40 fl_X10_56 hh_13 rfl ?_
            refine pv_iload_n (i := 1) t_X10_deeds_43 rfl rfl ?_
            refine pv_iload_n (i := 2) t_X10_deeds_44 rfl rfl ?_
            refine sv_V2 (fdS (μ 4) nc (rA (μ 24) 4 x) m 256) μ t_X10_deeds_45 ml_X10_244 mo_X2_fewestDeeds hh_23 rfl (Nat.le_of_ble_eq_true rfl) (e_X2_fewestDeeds hM1 hF23 hnc hc8) (Nat.le_of_ble_eq_true rfl) rfl rfl ?_
            refine pv_istore t_X10_deeds_48 (Nat.le_of_ble_eq_true rfl) ?_
            refine pv_iload_n (i := 3) t_X10_deeds_50 rfl rfl ?_
            refine pv_if_ne t_X10_deeds_51 (fun c51 => ?_) (fun c51 => ?_)
            · skip
              refine pv_iload t_X10_deeds_68 rfl ?_
              exact pv_ireti t_X10_deeds_70 rfl (by unfold a_X10_deeds; rw [if_neg c8, if_neg c15, if_neg c21, if_neg c25, if_pos c30, if_neg c51]) rfl
            · skip
              refine pv_iload t_X10_deeds_54 rfl ?_
              refine pv_iconst (v := -1) t_X10_deeds_56 zi_m1 ?_
              refine pv_icmp_eq t_X10_deeds_57 (fun c57 => ?_) (fun c57 => ?_)
              · skip
                refine pv_iload t_X10_deeds_68 rfl ?_
                exact pv_ireti t_X10_deeds_70 rfl (by unfold a_X10_deeds; rw [if_neg c8, if_neg c15, if_neg c21, if_neg c25, if_pos c30, if_pos c51, if_pos c57]) rfl
              · skip
                refine pv_iload t_X10_deeds_60 rfl ?_
                refine sv_S1 (bc (fdS (μ 4) nc (rA (μ 24) 4 x) m 256)) μ t_X10_deeds_62 ml_X10_247 mo_J_bitCount (Nat.le_of_ble_eq_true rfl) e_J_bitCount (Nat.le_of_ble_eq_true rfl) rfl rfl ?_
                refine pv_goto t_X10_deeds_65 ?_
                exact pv_ireti t_X10_deeds_70 rfl (by unfold a_X10_deeds; rw [if_neg c8, if_neg c15, if_neg c21, if_neg c25, if_pos c30, if_pos c51, if_neg c57]) rfl
          · skip
            refine pv_ldc t_X10_deeds_33 kc_X10_80 ?_
            exact pv_ireti t_X10_deeds_35 rfl (by unfold a_X10_deeds; rw [if_neg c8, if_neg c15, if_neg c21, if_neg c25, if_neg c30]) rfl
  · skip
    refine pv_ldc t_X10_deeds_11 kc_X10_141 ?_
    exact pv_ireti t_X10_deeds_13 rfl (by unfold a_X10_deeds; rw [if_pos c8]) rfl
def a_X10_best (f2 : Nat → Int32) (f3 : Nat → Int32) (f4 : Nat → Int32) (f21 : Nat → Int32) (f22 : Nat → Int32) (f24 : Nat → Int32) (f25 : Nat → Int32) (f60 : Nat → Int32) (f61 : Nat → Int32) (f62 : Nat → Int32) (x : Int32) (nc : Nat) : Int32 := (if x < 0 then (-1000000002) else (if x ≤ 1 then (if (bz (dGo f21)) = 0 then (-1000000003) else (if (dUC f21 nc) ≤ 5 then (if x = 0 then (bsO f2 f3 f4 f24 f25 nc 17 0 3 ((cpy 20 f21 f60), (cpy 800 f22 f61), f62 3)).1 else (upd f62 3 (bsO f2 f3 f4 f24 f25 nc 17 0 3 ((cpy 20 f21 f60), (cpy 800 f22 f61), f62 3)).2.2.2) 3) else (-1000000003))) else (-1000000002)))
def w_X10_best_61 (f2 : Nat → Int32) (f3 : Nat → Int32) (f4 : Nat → Int32) (f21 : Nat → Int32) (f22 : Nat → Int32) (f24 : Nat → Int32) (f25 : Nat → Int32) (f60 : Nat → Int32) (f61 : Nat → Int32) (f62 : Nat → Int32) (x : Int32) (nc : Nat) : Nat → Int32 := (if x < 0 then f61 else (if x ≤ 1 then (if (bz (dGo f21)) = 0 then f61 else (if (dUC f21 nc) ≤ 5 then (bsO f2 f3 f4 f24 f25 nc 17 0 3 ((cpy 20 f21 f60), (cpy 800 f22 f61), f62 3)).2.2.1 else f61)) else f61))
def w_X10_best_60 (f2 : Nat → Int32) (f3 : Nat → Int32) (f4 : Nat → Int32) (f21 : Nat → Int32) (f22 : Nat → Int32) (f24 : Nat → Int32) (f25 : Nat → Int32) (f60 : Nat → Int32) (f61 : Nat → Int32) (f62 : Nat → Int32) (x : Int32) (nc : Nat) : Nat → Int32 := (if x < 0 then f60 else (if x ≤ 1 then (if (bz (dGo f21)) = 0 then f60 else (if (dUC f21 nc) ≤ 5 then (bsO f2 f3 f4 f24 f25 nc 17 0 3 ((cpy 20 f21 f60), (cpy 800 f22 f61), f62 3)).2.1 else f60)) else f60))
def w_X10_best_62 (f2 : Nat → Int32) (f3 : Nat → Int32) (f4 : Nat → Int32) (f21 : Nat → Int32) (f22 : Nat → Int32) (f24 : Nat → Int32) (f25 : Nat → Int32) (f60 : Nat → Int32) (f61 : Nat → Int32) (f62 : Nat → Int32) (x : Int32) (nc : Nat) : Nat → Int32 := (if x < 0 then f62 else (if x ≤ 1 then (if (bz (dGo f21)) = 0 then f62 else (if (dUC f21 nc) ≤ 5 then upd f62 3 (bsO f2 f3 f4 f24 f25 nc 17 0 3 ((cpy 20 f21 f60), (cpy 800 f22 f61), f62 3)).2.2.2 else f62)) else f62))
theorem e_X10_best {l : Launch} {X : zX} {d : Nat} {μ : zH} {nc : Nat} {x : Int32} (hnc : μ 1 1 = nI nc) (hc8 : nc ≤ 8) : zRn l X mi_X10_best (d + 24) [.inr 0, .inl (x)] (zSH, μ) (some (.inl (a_X10_best (μ 2) (μ 3) (μ 4) (μ 21) (μ 22) (μ 24) (μ 25) (μ 60) (μ 61) (μ 62) x nc))) (zSH, (zhs (zhs (zhs μ 61 (w_X10_best_61 (μ 2) (μ 3) (μ 4) (μ 21) (μ 22) (μ 24) (μ 25) (μ 60) (μ 61) (μ 62) x nc)) 60 (w_X10_best_60 (μ 2) (μ 3) (μ 4) (μ 21) (μ 22) (μ 24) (μ 25) (μ 60) (μ 61) (μ 62) x nc)) 62 (w_X10_best_62 (μ 2) (μ 3) (μ 4) (μ 21) (μ 22) (μ 24) (μ 25) (μ 60) (μ 61) (μ 62) x nc))) := by
  refine pv_iload_n (i := 1) t_X10_best_0 rfl rfl ?_
  refine pv_if_lt t_X10_best_1 (fun c1 => ?_) (fun c1 => ?_)
  · skip
    refine pv_ldc t_X10_best_9 kc_X10_80 ?_
    exact pv_ireti t_X10_best_11 rfl (by unfold a_X10_best; rw [if_pos c1]) (Prod.ext rfl (by have e61 : w_X10_best_61 (μ 2) (μ 3) (μ 4) (μ 21) (μ 22) (μ 24) (μ 25) (μ 60) (μ 61) (μ 62) x nc = (μ 61) := (by unfold w_X10_best_61; rw [if_pos c1]); have e60 : w_X10_best_60 (μ 2) (μ 3) (μ 4) (μ 21) (μ 22) (μ 24) (μ 25) (μ 60) (μ 61) (μ 62) x nc = (μ 60) := (by unfold w_X10_best_60; rw [if_pos c1]); have e62 : w_X10_best_62 (μ 2) (μ 3) (μ 4) (μ 21) (μ 22) (μ 24) (μ 25) (μ 60) (μ 61) (μ 62) x nc = (μ 62) := (by unfold w_X10_best_62; rw [if_pos c1]); show _ = (zhs (zhs (zhs μ 61 (w_X10_best_61 (μ 2) (μ 3) (μ 4) (μ 21) (μ 22) (μ 24) (μ 25) (μ 60) (μ 61) (μ 62) x nc)) 60 (w_X10_best_60 (μ 2) (μ 3) (μ 4) (μ 21) (μ 22) (μ 24) (μ 25) (μ 60) (μ 61) (μ 62) x nc)) 62 (w_X10_best_62 (μ 2) (μ 3) (μ 4) (μ 21) (μ 22) (μ 24) (μ 25) (μ 60) (μ 61) (μ 62) x nc)); symm; rw [e61, e60, e62]; rw [zhs_i2 (ν := μ) (k := 61) (g := (μ 61)) rfl, zhs_i2 (ν := μ) (k := 60) (g := (μ 60)) rfl, zhs_i2 (ν := μ) (k := 62) (g := (μ 62)) rfl]))
  · skip
    refine pv_iload_n (i := 1) t_X10_best_4 rfl rfl ?_
    refine pv_iconst (v := 1) t_X10_best_5 zi_1 ?_
    refine pv_icmp_le t_X10_best_6 (fun c6 => ?_) (fun c6 => ?_)
    · skip
      refine pv_aload_n (i := 0) t_X10_best_12 rfl rfl ?_
      refine pv_getR t_X10_best_13 fl_X10_28 hh_0 rfl ?_
      refine pv_getR t_X10_best_16 fl_X10_109 hh_13 rfl ?_
      refine sv_V0 (bz (dGo (μ 21))) μ t_X10_best_19 ml_X10_121 mo_X1_goesOn hh_20 rfl (Nat.le_of_ble_eq_true rfl) (e_X1_goesOn hD20) (Nat.le_of_ble_eq_true rfl) rfl rfl ?_
      refine pv_if_eq t_X10_best_22 (fun c22 => ?_) (fun c22 => ?_)
      · skip
        refine pv_ldc t_X10_best_46 kc_X10_195 ?_
        exact pv_ireti t_X10_best_48 rfl (by unfold a_X10_best; rw [if_neg c1, if_pos c6, if_pos c22]) (Prod.ext rfl (by have e61 : w_X10_best_61 (μ 2) (μ 3) (μ 4) (μ 21) (μ 22) (μ 24) (μ 25) (μ 60) (μ 61) (μ 62) x nc = (μ 61) := (by unfold w_X10_best_61; rw [if_neg c1, if_pos c6, if_pos c22]); have e60 : w_X10_best_60 (μ 2) (μ 3) (μ 4) (μ 21) (μ 22) (μ 24) (μ 25) (μ 60) (μ 61) (μ 62) x nc = (μ 60) := (by unfold w_X10_best_60; rw [if_neg c1, if_pos c6, if_pos c22]); have e62 : w_X10_best_62 (μ 2) (μ 3) (μ 4) (μ 21) (μ 22) (μ 24) (μ 25) (μ 60) (μ 61) (μ 62) x nc = (μ 62) := (by unfold w_X10_best_62; rw [if_neg c1, if_pos c6, if_pos c22]); show _ = (zhs (zhs (zhs μ 61 (w_X10_best_61 (μ 2) (μ 3) (μ 4) (μ 21) (μ 22) (μ 24) (μ 25) (μ 60) (μ 61) (μ 62) x nc)) 60 (w_X10_best_60 (μ 2) (μ 3) (μ 4) (μ 21) (μ 22) (μ 24) (μ 25) (μ 60) (μ 61) (μ 62) x nc)) 62 (w_X10_best_62 (μ 2) (μ 3) (μ 4) (μ 21) (μ 22) (μ 24) (μ 25) (μ 60) (μ 61) (μ 62) x nc)); symm; rw [e61, e60, e62]; rw [zhs_i2 (ν := μ) (k := 61) (g := (μ 61)) rfl, zhs_i2 (ν := μ) (k := 60) (g := (μ 60)) rfl, zhs_i2 (ν := μ) (k := 62) (g := (μ 62)) rfl]))
      · skip
        refine pv_aload_n (i := 0) t_X10_best_25 rfl rfl ?_
        refine pv_getR t_X10_best_26 fl_X10_28 hh_0 rfl ?_
        refine pv_getR t_X10_best_29 fl_X10_109 hh_13 rfl ?_
        refine pv_aload_n (i := 0) t_X10_best_32 rfl rfl ?_
        refine pv_getR t_X10_best_33 fl_X10_10 hh_0 rfl ?_
        refine sv_getI (nI nc) t_X10_best_36 fl_X10_112 hh_1 rfl hnc ?_
        refine sv_V1 (dUC (μ 21) nc) μ t_X10_best_39 ml_X10_225 mo_X1_unsaidCount hh_20 rfl (Nat.le_of_ble_eq_true rfl) (e_X1_unsaidCount hD20 hc8) (Nat.le_of_ble_eq_true rfl) rfl rfl ?_
        refine pv_iconst (v := 5) t_X10_best_42 zi_5 ?_
        refine pv_icmp_le t_X10_best_43 (fun c43 => ?_) (fun c43 => ?_)
        · skip
          refine pv_aload_n (i := 0) t_X10_best_49 rfl rfl ?_
          refine pv_getR t_X10_best_50 fl_X10_50 hh_0 rfl ?_
          refine pv_aload_n (i := 0) t_X10_best_53 rfl rfl ?_
          refine pv_getR t_X10_best_54 fl_X10_28 hh_0 rfl ?_
          refine pv_getR t_X10_best_57 fl_X10_109 hh_13 rfl ?_
          refine sv_WV1 ((zhs (zhs μ 60 (cpy 20 (μ 21) (μ 60))) 61 (cpy 800 (μ 22) (μ 61)))) t_X10_best_60 ml_X10_228 mo_X1_copyFrom hh_59 rfl (Nat.le_of_ble_eq_true rfl) (e_X1_copyFrom hD59 hD20) (Nat.le_of_ble_eq_true rfl) rfl ?_
          refine pv_aload_n (i := 0) t_X10_best_63 rfl rfl ?_
          refine pv_getR t_X10_best_64 fl_X10_63 hh_0 rfl ?_
          refine sv_V0 ((bsO (μ 2) (μ 3) (μ 4) (μ 24) (μ 25) nc 17 0 3 ((cpy 20 (μ 21) (μ 60)), (cpy 800 (μ 22) (μ 61)), (μ 62) 3)).1) ((zhs (zhs (zhs μ 61 ((bsO (μ 2) (μ 3) (μ 4) (μ 24) (μ 25) nc 17 0 3 ((cpy 20 (μ 21) (μ 60)), (cpy 800 (μ 22) (μ 61)), (μ 62) 3)).2.2.1)) 60 ((bsO (μ 2) (μ 3) (μ 4) (μ 24) (μ 25) nc 17 0 3 ((cpy 20 (μ 21) (μ 60)), (cpy 800 (μ 22) (μ 61)), (μ 62) 3)).2.1)) 62 (upd (μ 62) 3 (bsO (μ 2) (μ 3) (μ 4) (μ 24) (μ 25) nc 17 0 3 ((cpy 20 (μ 21) (μ 60)), (cpy 800 (μ 22) (μ 61)), (μ 62) 3)).2.2.2))) t_X10_best_67 ml_X10_231 mo_X0_find hh_62 rfl (Nat.le_of_ble_eq_true rfl) (e_X0_find hM1 hF23 hD59 hBS hnc) (Nat.le_of_ble_eq_true rfl) rfl (by rw [bsM, zhs_cm (μ := μ) (a := 60) (b := 61) (by decide), zhs_cm (μ := (zhs μ 61 (cpy 800 (μ 22) (μ 61)))) (a := 60) (b := 61) (by decide), zhs_hs, zhs_hs] <;> (first | rfl | (congr 1; funext k_; simp only [upd]; ((repeat' split) <;> first | rfl | (simp_all; done))))) ?_
          refine pv_istore_n (i := 2) t_X10_best_70 rfl (Nat.le_of_ble_eq_true rfl) ?_
          refine pv_iload_n (i := 1) t_X10_best_71 rfl rfl ?_
          refine pv_if_ne t_X10_best_72 (fun c72 => ?_) (fun c72 => ?_)
          · skip
            refine pv_aload_n (i := 0) t_X10_best_79 rfl rfl ?_
            refine pv_getR t_X10_best_80 fl_X10_63 hh_0 rfl ?_
            refine sv_getI ((upd (μ 62) 3 (bsO (μ 2) (μ 3) (μ 4) (μ 24) (μ 25) nc 17 0 3 ((cpy 20 (μ 21) (μ 60)), (cpy 800 (μ 22) (μ 61)), (μ 62) 3)).2.2.2) 3) t_X10_best_83 fl_X10_234 hh_62 rfl rfl ?_
            exact pv_ireti t_X10_best_86 rfl (by unfold a_X10_best; rw [if_neg c1, if_pos c6, if_neg c22, if_pos c43, if_neg c72]) (Prod.ext rfl (by have e61 : w_X10_best_61 (μ 2) (μ 3) (μ 4) (μ 21) (μ 22) (μ 24) (μ 25) (μ 60) (μ 61) (μ 62) x nc = (bsO (μ 2) (μ 3) (μ 4) (μ 24) (μ 25) nc 17 0 3 ((cpy 20 (μ 21) (μ 60)), (cpy 800 (μ 22) (μ 61)), (μ 62) 3)).2.2.1 := (by unfold w_X10_best_61; rw [if_neg c1, if_pos c6, if_neg c22, if_pos c43]); have e60 : w_X10_best_60 (μ 2) (μ 3) (μ 4) (μ 21) (μ 22) (μ 24) (μ 25) (μ 60) (μ 61) (μ 62) x nc = (bsO (μ 2) (μ 3) (μ 4) (μ 24) (μ 25) nc 17 0 3 ((cpy 20 (μ 21) (μ 60)), (cpy 800 (μ 22) (μ 61)), (μ 62) 3)).2.1 := (by unfold w_X10_best_60; rw [if_neg c1, if_pos c6, if_neg c22, if_pos c43]); have e62 : w_X10_best_62 (μ 2) (μ 3) (μ 4) (μ 21) (μ 22) (μ 24) (μ 25) (μ 60) (μ 61) (μ 62) x nc = upd (μ 62) 3 (bsO (μ 2) (μ 3) (μ 4) (μ 24) (μ 25) nc 17 0 3 ((cpy 20 (μ 21) (μ 60)), (cpy 800 (μ 22) (μ 61)), (μ 62) 3)).2.2.2 := (by unfold w_X10_best_62; rw [if_neg c1, if_pos c6, if_neg c22, if_pos c43]); show _ = (zhs (zhs (zhs μ 61 (w_X10_best_61 (μ 2) (μ 3) (μ 4) (μ 21) (μ 22) (μ 24) (μ 25) (μ 60) (μ 61) (μ 62) x nc)) 60 (w_X10_best_60 (μ 2) (μ 3) (μ 4) (μ 21) (μ 22) (μ 24) (μ 25) (μ 60) (μ 61) (μ 62) x nc)) 62 (w_X10_best_62 (μ 2) (μ 3) (μ 4) (μ 21) (μ 22) (μ 24) (μ 25) (μ 60) (μ 61) (μ 62) x nc)); symm; rw [e61, e60, e62]))
          · skip
            refine pv_iload_n (i := 2) t_X10_best_75 rfl rfl ?_
            refine pv_goto t_X10_best_76 ?_
            exact pv_ireti t_X10_best_86 rfl (by unfold a_X10_best; rw [if_neg c1, if_pos c6, if_neg c22, if_pos c43, if_pos c72]) (Prod.ext rfl (by have e61 : w_X10_best_61 (μ 2) (μ 3) (μ 4) (μ 21) (μ 22) (μ 24) (μ 25) (μ 60) (μ 61) (μ 62) x nc = (bsO (μ 2) (μ 3) (μ 4) (μ 24) (μ 25) nc 17 0 3 ((cpy 20 (μ 21) (μ 60)), (cpy 800 (μ 22) (μ 61)), (μ 62) 3)).2.2.1 := (by unfold w_X10_best_61; rw [if_neg c1, if_pos c6, if_neg c22, if_pos c43]); have e60 : w_X10_best_60 (μ 2) (μ 3) (μ 4) (μ 21) (μ 22) (μ 24) (μ 25) (μ 60) (μ 61) (μ 62) x nc = (bsO (μ 2) (μ 3) (μ 4) (μ 24) (μ 25) nc 17 0 3 ((cpy 20 (μ 21) (μ 60)), (cpy 800 (μ 22) (μ 61)), (μ 62) 3)).2.1 := (by unfold w_X10_best_60; rw [if_neg c1, if_pos c6, if_neg c22, if_pos c43]); have e62 : w_X10_best_62 (μ 2) (μ 3) (μ 4) (μ 21) (μ 22) (μ 24) (μ 25) (μ 60) (μ 61) (μ 62) x nc = upd (μ 62) 3 (bsO (μ 2) (μ 3) (μ 4) (μ 24) (μ 25) nc 17 0 3 ((cpy 20 (μ 21) (μ 60)), (cpy 800 (μ 22) (μ 61)), (μ 62) 3)).2.2.2 := (by unfold w_X10_best_62; rw [if_neg c1, if_pos c6, if_neg c22, if_pos c43]); show _ = (zhs (zhs (zhs μ 61 (w_X10_best_61 (μ 2) (μ 3) (μ 4) (μ 21) (μ 22) (μ 24) (μ 25) (μ 60) (μ 61) (μ 62) x nc)) 60 (w_X10_best_60 (μ 2) (μ 3) (μ 4) (μ 21) (μ 22) (μ 24) (μ 25) (μ 60) (μ 61) (μ 62) x nc)) 62 (w_X10_best_62 (μ 2) (μ 3) (μ 4) (μ 21) (μ 22) (μ 24) (μ 25) (μ 60) (μ 61) (μ 62) x nc)); symm; rw [e61, e60, e62]))
        · skip
          refine pv_ldc t_X10_best_46 kc_X10_195 ?_
          exact pv_ireti t_X10_best_48 rfl (by unfold a_X10_best; rw [if_neg c1, if_pos c6, if_neg c22, if_neg c43]) (Prod.ext rfl (by have e61 : w_X10_best_61 (μ 2) (μ 3) (μ 4) (μ 21) (μ 22) (μ 24) (μ 25) (μ 60) (μ 61) (μ 62) x nc = (μ 61) := (by unfold w_X10_best_61; rw [if_neg c1, if_pos c6, if_neg c22, if_neg c43]); have e60 : w_X10_best_60 (μ 2) (μ 3) (μ 4) (μ 21) (μ 22) (μ 24) (μ 25) (μ 60) (μ 61) (μ 62) x nc = (μ 60) := (by unfold w_X10_best_60; rw [if_neg c1, if_pos c6, if_neg c22, if_neg c43]); have e62 : w_X10_best_62 (μ 2) (μ 3) (μ 4) (μ 21) (μ 22) (μ 24) (μ 25) (μ 60) (μ 61) (μ 62) x nc = (μ 62) := (by unfold w_X10_best_62; rw [if_neg c1, if_pos c6, if_neg c22, if_neg c43]); show _ = (zhs (zhs (zhs μ 61 (w_X10_best_61 (μ 2) (μ 3) (μ 4) (μ 21) (μ 22) (μ 24) (μ 25) (μ 60) (μ 61) (μ 62) x nc)) 60 (w_X10_best_60 (μ 2) (μ 3) (μ 4) (μ 21) (μ 22) (μ 24) (μ 25) (μ 60) (μ 61) (μ 62) x nc)) 62 (w_X10_best_62 (μ 2) (μ 3) (μ 4) (μ 21) (μ 22) (μ 24) (μ 25) (μ 60) (μ 61) (μ 62) x nc)); symm; rw [e61, e60, e62]; rw [zhs_i2 (ν := μ) (k := 61) (g := (μ 61)) rfl, zhs_i2 (ν := μ) (k := 60) (g := (μ 60)) rfl, zhs_i2 (ν := μ) (k := 62) (g := (μ 62)) rfl]))
    · skip
      refine pv_ldc t_X10_best_9 kc_X10_80 ?_
      exact pv_ireti t_X10_best_11 rfl (by unfold a_X10_best; rw [if_neg c1, if_neg c6]) (Prod.ext rfl (by have e61 : w_X10_best_61 (μ 2) (μ 3) (μ 4) (μ 21) (μ 22) (μ 24) (μ 25) (μ 60) (μ 61) (μ 62) x nc = (μ 61) := (by unfold w_X10_best_61; rw [if_neg c1, if_neg c6]); have e60 : w_X10_best_60 (μ 2) (μ 3) (μ 4) (μ 21) (μ 22) (μ 24) (μ 25) (μ 60) (μ 61) (μ 62) x nc = (μ 60) := (by unfold w_X10_best_60; rw [if_neg c1, if_neg c6]); have e62 : w_X10_best_62 (μ 2) (μ 3) (μ 4) (μ 21) (μ 22) (μ 24) (μ 25) (μ 60) (μ 61) (μ 62) x nc = (μ 62) := (by unfold w_X10_best_62; rw [if_neg c1, if_neg c6]); show _ = (zhs (zhs (zhs μ 61 (w_X10_best_61 (μ 2) (μ 3) (μ 4) (μ 21) (μ 22) (μ 24) (μ 25) (μ 60) (μ 61) (μ 62) x nc)) 60 (w_X10_best_60 (μ 2) (μ 3) (μ 4) (μ 21) (μ 22) (μ 24) (μ 25) (μ 60) (μ 61) (μ 62) x nc)) 62 (w_X10_best_62 (μ 2) (μ 3) (μ 4) (μ 21) (μ 22) (μ 24) (μ 25) (μ 60) (μ 61) (μ 62) x nc)); symm; rw [e61, e60, e62]; rw [zhs_i2 (ν := μ) (k := 61) (g := (μ 61)) rfl, zhs_i2 (ν := μ) (k := 60) (g := (μ 60)) rfl, zhs_i2 (ν := μ) (k := 62) (g := (μ 62)) rfl]))
