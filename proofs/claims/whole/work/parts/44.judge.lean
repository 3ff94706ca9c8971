theorem st0_X11_plays {l : Launch} {X : zX} {d : Nat} {μ : zH} {rr : Option zV} {S' : zS} (hk : zEv l X mi_X11_plays (d + 8) 11 [(0, .inr 67), (1, .inl (nI 0))] [] (zSH, (zhs (zhs (zhs (zhs (zhs μ 67 (μ 67)) 73 ((w_X11_asNow_73 (μ 72) (μ 73)))) 81 ((w_X11_pushes_81 (w_X11_asNow_73 (μ 72) (μ 73)) (μ 81) 0))) 82 ((w_X11_pushes_82 (μ 82) 0))) 83 ((w_X11_pushes_83 (μ 83) 0)))) 0 0 rr S') : zEv l X mi_X11_plays (d + 8) 0 [(0, .inr 67)] [] (zSH, μ) 0 0 rr S' := by
  refine pv_aload_n (i := 0) t_X11_plays_0 rfl rfl ?_
  refine sv_WV0 ((zhs μ 73 (w_X11_asNow_73 (μ 72) (μ 73)))) t_X11_plays_1 ml_X11_222 mo_X11_asNow hh_67 rfl (Nat.le_of_ble_eq_true rfl) (e_X11_asNow) (Nat.le_of_ble_eq_true rfl) rfl ?_
  refine pv_aload_n (i := 0) t_X11_plays_4 rfl rfl ?_
  refine pv_iconst (v := 0) t_X11_plays_5 zi_0 ?_
  refine sv_WV1 ((zhs (zhs (zhs (zhs μ 73 (w_X11_asNow_73 (μ 72) (μ 73))) 81 (w_X11_pushes_81 (w_X11_asNow_73 (μ 72) (μ 73)) (μ 81) 0)) 82 (w_X11_pushes_82 (μ 82) 0)) 83 (w_X11_pushes_83 (μ 83) 0))) t_X11_plays_6 ml_X11_225 mo_X11_pushes hh_67 rfl (Nat.le_of_ble_eq_true rfl) (e_X11_pushes (e0 := 0) (by omega)) (Nat.le_of_ble_eq_true rfl) rfl ?_
  refine pv_iconst (v := 0) t_X11_plays_9 zi_0 ?_
  refine pv_istore_n (i := 1) t_X11_plays_10 rfl (Nat.le_of_ble_eq_true rfl) ?_
  refine pv_loc (lv' := [(0, .inr 67), (1, .inl (nI 0))]) ⟨rfl, rfl, trivial⟩ ?_
  refine zst (S2 := (zSH, (zhs (zhs (zhs (zhs (zhs μ 67 (μ 67)) 73 (w_X11_asNow_73 (μ 72) (μ 73))) 81 (w_X11_pushes_81 (w_X11_asNow_73 (μ 72) (μ 73)) (μ 81) 0)) 82 (w_X11_pushes_82 (μ 82) 0)) 83 (w_X11_pushes_83 (μ 83) 0)))) (by symm; rw [zhs_cm (μ := μ) (a := 67) (b := 73) (by decide), zhs_cm (μ := (zhs μ 73 (w_X11_asNow_73 (μ 72) (μ 73)))) (a := 67) (b := 81) (by decide), zhs_cm (μ := (zhs (zhs μ 73 (w_X11_asNow_73 (μ 72) (μ 73))) 81 (w_X11_pushes_81 (w_X11_asNow_73 (μ 72) (μ 73)) (μ 81) 0))) (a := 67) (b := 82) (by decide), zhs_cm (μ := (zhs (zhs (zhs μ 73 (w_X11_asNow_73 (μ 72) (μ 73))) 81 (w_X11_pushes_81 (w_X11_asNow_73 (μ 72) (μ 73)) (μ 81) 0)) 82 (w_X11_pushes_82 (μ 82) 0))) (a := 67) (b := 83) (by decide), zhs_i2 (ν := (zhs (zhs (zhs (zhs μ 73 (w_X11_asNow_73 (μ 72) (μ 73))) 81 (w_X11_pushes_81 (w_X11_asNow_73 (μ 72) (μ 73)) (μ 81) 0)) 82 (w_X11_pushes_82 (μ 82) 0)) 83 (w_X11_pushes_83 (μ 83) 0))) (k := 67) (g := (μ 67)) rfl]) ?_
  exact hk
theorem e_X11_plays {l : Launch} {X : zX} {d : Nat} {μ : zH} {I : (Nat → Int32) → Prop} {Mx : (Nat → Int32) → Nat} {fu : Nat} (hT : ∀ c, c < 8 → nb (μ 70 (5 * c)) 4) (hI : nI2 (tCa (μ 67)) (tTu (μ 69) (μ 70) (μ 72)) (μ 73) I Mx) (hi : I (w_X11_asNow_73 (μ 72) (μ 73))) (hM : Mx (w_X11_asNow_73 (μ 72) (μ 73)) ≤ 15) (hfu : 10 * Mx (w_X11_asNow_73 (μ 72) (μ 73)) + 9 < fu) : ∃ g73 g81 g82 g83, zRn l X mi_X11_plays (d + 8) [.inr 67] (zSH, μ) (some (.inl (ndV (tCa (μ 67)) (tTu (μ 69) (μ 70) (μ 72)) fu (w_X11_asNow_73 (μ 72) (μ 73)) 0 (-1, (μ 67) 32)).1)) (zSH, (zhs (zhs (zhs (zhs (zhs μ 67 ((upd (μ 67) 32 (ndV (tCa (μ 67)) (tTu (μ 69) (μ 70) (μ 72)) fu (w_X11_asNow_73 (μ 72) (μ 73)) 0 (-1, (μ 67) 32)).2))) 73 g73) 81 g81) 82 g82) 83 g83)) := by
  obtain ⟨g73, g81, g82, g83, a1, a2, a3, a4, a5, a6, a7, a8⟩ := pl_node (l := l) (X := X) (d := d) (μ := μ) (h := (μ 67)) hT hI fu 0 (w_X11_asNow_73 (μ 72) (μ 73)) 0 (-1, (μ 67) 32) (w_X11_asNow_73 (μ 72) (μ 73)) (w_X11_pushes_81 (w_X11_asNow_73 (μ 72) (μ 73)) (μ 81) 0) (w_X11_pushes_82 (μ 82) 0) (w_X11_pushes_83 (μ 83) 0) 0 (by
    intro k hk
    unfold w_X11_pushes_81 cpR
    rw [if_pos ⟨by omega, by omega⟩]
    congr 1
    omega) (by
    intro k hk
    unfold w_X11_asNow_73 cpR
    rw [if_neg (by omega)]) (by unfold w_X11_pushes_82; exact ups) (by unfold w_X11_pushes_83; exact ups) (by omega) (Or.inl ⟨rfl, by omega⟩) hi (by omega) (by omega)
  refine ⟨g73, g81, g82, g83, ?_⟩
  have k5 := st5_X11_plays (l := l) (X := X) (d := d) (μ := μ) (h := (μ 67)) (bt := (ndV (tCa (μ 67)) (tTu (μ 69) (μ 70) (μ 72)) fu (w_X11_asNow_73 (μ 72) (μ 73)) 0 (-1, (μ 67) 32)).2) (g73 := g73) (g81 := g81) (g82 := g82) (g83 := g83) (by
    rcases a5 with q | q
    · exact Or.inl q
    · exact Or.inr (by rw [q]; decide))
  rw [a6] at k5
  have k6 := a8 _ _ k5
  have e0 : upd (μ 67) 32 (bs 0 ((μ 67) 32) 0) = (μ 67) := upd_id _ _
  refine st0_X11_plays ?_
  have k7 := k6
  unfold pZ at k7
  rw [e0] at k7
  exact k7
def a_X11_best (f72 : Nat → Int32) (x : Int32) (nc : Nat) (pv : Int32) (pt : Nat → Int32) : Int32 := (if (a_X11_in x 0 1) = 0 then (-1000000002) else (if (a_X11_goesOn f72) = 0 then (-1000000003) else (if ((nI nc) - (a_X11_ones (f72 25))) ≤ 5 then (if x = 0 then pv else pt 32) else (-1000000003))))
def w_X11_best_67 (f67 : Nat → Int32) (f72 : Nat → Int32) (x : Int32) (nc : Nat) (pt : Nat → Int32) : Nat → Int32 := (if (a_X11_in x 0 1) = 0 then (upd f67 0 0) else (if (a_X11_goesOn f72) = 0 then (upd f67 0 0) else (if ((nI nc) - (a_X11_ones (f72 25))) ≤ 5 then pt else (upd f67 0 0))))
def w_X11_best_73 (f72 : Nat → Int32) (f73 : Nat → Int32) (x : Int32) (nc : Nat) (g73 : Nat → Int32) : Nat → Int32 := (if (a_X11_in x 0 1) = 0 then f73 else (if (a_X11_goesOn f72) = 0 then f73 else (if ((nI nc) - (a_X11_ones (f72 25))) ≤ 5 then g73 else f73)))
def w_X11_best_81 (f72 : Nat → Int32) (f81 : Nat → Int32) (x : Int32) (nc : Nat) (g81 : Nat → Int32) : Nat → Int32 := (if (a_X11_in x 0 1) = 0 then f81 else (if (a_X11_goesOn f72) = 0 then f81 else (if ((nI nc) - (a_X11_ones (f72 25))) ≤ 5 then g81 else f81)))
def w_X11_best_82 (f72 : Nat → Int32) (f82 : Nat → Int32) (x : Int32) (nc : Nat) (g82 : Nat → Int32) : Nat → Int32 := (if (a_X11_in x 0 1) = 0 then f82 else (if (a_X11_goesOn f72) = 0 then f82 else (if ((nI nc) - (a_X11_ones (f72 25))) ≤ 5 then g82 else f82)))
def w_X11_best_83 (f72 : Nat → Int32) (f83 : Nat → Int32) (x : Int32) (nc : Nat) (g83 : Nat → Int32) : Nat → Int32 := (if (a_X11_in x 0 1) = 0 then f83 else (if (a_X11_goesOn f72) = 0 then f83 else (if ((nI nc) - (a_X11_ones (f72 25))) ≤ 5 then g83 else f83)))
theorem e_X11_best {l : Launch} {X : zX} {d : Nat} {μ : zH} {nc : Nat} {pv : Int32} {pt g73 g81 g82 g83 : Nat → Int32} {x : Int32} (hnc : μ 67 11 = nI nc) (hc8 : nc ≤ 8) (hpl : ¬ a_X11_goesOn (μ 72) = 0 → (nI nc) - (a_X11_ones ((μ 72) 25)) ≤ 5 → zRn l X mi_X11_plays (d + 8) [.inr 67] (zSH, zhs μ 67 (upd (μ 67) 0 0)) (some (.inl pv)) (zSH, (zhs (zhs (zhs (zhs (zhs μ 67 pt) 73 g73) 81 g81) 82 g82) 83 g83))) : zRn l X mi_X11_best (d + 9) [.inr 67, .inl (x)] (zSH, μ) (some (.inl (a_X11_best (μ 72) x nc pv pt))) (zSH, (zhs (zhs (zhs (zhs (zhs μ 67 (w_X11_best_67 (μ 67) (μ 72) x nc pt)) 73 (w_X11_best_73 (μ 72) (μ 73) x nc g73)) 81 (w_X11_best_81 (μ 72) (μ 81) x nc g81)) 82 (w_X11_best_82 (μ 72) (μ 82) x nc g82)) 83 (w_X11_best_83 (μ 72) (μ 83) x nc g83))) := by
  refine pv_aload_n (i := 0) t_X11_best_0 rfl rfl ?_
  refine pv_iconst (v := 0) t_X11_best_1 zi_0 ?_
  refine sv_putI ((zhs μ 67 ((upd (μ 67) 0 0)))) t_X11_best_2 fl_X11_69 zfn_10_0 hh_67 rfl rfl ?_
  refine pv_iload_n (i := 1) t_X11_best_5 rfl rfl ?_
  refine pv_iconst (v := 0) t_X11_best_6 zi_0 ?_
  refine pv_iconst (v := 1) t_X11_best_7 zi_1 ?_
  refine sv_S3 (a_X11_in x 0 1) ((zhs μ 67 ((upd (μ 67) 0 0)))) t_X11_best_8 ml_X11_72 mo_X11_in (Nat.le_of_ble_eq_true rfl) (e_X11_in) (Nat.le_of_ble_eq_true rfl) rfl rfl ?_
  refine pv_if_ne t_X11_best_11 (fun c11 => ?_) (fun c11 => ?_)
  · skip
    refine pv_aload_n (i := 0) t_X11_best_17 rfl rfl ?_
    refine sv_V0 (a_X11_goesOn (μ 72)) ((zhs μ 67 ((upd (μ 67) 0 0)))) t_X11_best_18 ml_X11_155 mo_X11_goesOn hh_67 rfl (Nat.le_of_ble_eq_true rfl) (e_X11_goesOn) (Nat.le_of_ble_eq_true rfl) rfl rfl ?_
    refine pv_if_eq t_X11_best_21 (fun c21 => ?_) (fun c21 => ?_)
    · skip
      refine pv_ldc t_X11_best_43 kc_X11_206 ?_
      exact pv_ireti t_X11_best_45 rfl (by unfold a_X11_best; rw [if_neg c11, if_pos c21]) (Prod.ext rfl (by have e67 : w_X11_best_67 (μ 67) (μ 72) x nc pt = (upd (μ 67) 0 0) := (by unfold w_X11_best_67; rw [if_neg c11, if_pos c21]); have e73 : w_X11_best_73 (μ 72) (μ 73) x nc g73 = (μ 73) := (by unfold w_X11_best_73; rw [if_neg c11, if_pos c21]); have e81 : w_X11_best_81 (μ 72) (μ 81) x nc g81 = (μ 81) := (by unfold w_X11_best_81; rw [if_neg c11, if_pos c21]); have e82 : w_X11_best_82 (μ 72) (μ 82) x nc g82 = (μ 82) := (by unfold w_X11_best_82; rw [if_neg c11, if_pos c21]); have e83 : w_X11_best_83 (μ 72) (μ 83) x nc g83 = (μ 83) := (by unfold w_X11_best_83; rw [if_neg c11, if_pos c21]); show _ = (zhs (zhs (zhs (zhs (zhs μ 67 (w_X11_best_67 (μ 67) (μ 72) x nc pt)) 73 (w_X11_best_73 (μ 72) (μ 73) x nc g73)) 81 (w_X11_best_81 (μ 72) (μ 81) x nc g81)) 82 (w_X11_best_82 (μ 72) (μ 82) x nc g82)) 83 (w_X11_best_83 (μ 72) (μ 83) x nc g83)); symm; rw [e67, e73, e81, e82, e83]; rw [zhs_i2 (ν := (zhs μ 67 ((upd (μ 67) 0 0)))) (k := 73) (g := (μ 73)) rfl, zhs_i2 (ν := (zhs μ 67 ((upd (μ 67) 0 0)))) (k := 81) (g := (μ 81)) rfl, zhs_i2 (ν := (zhs μ 67 ((upd (μ 67) 0 0)))) (k := 82) (g := (μ 82)) rfl, zhs_i2 (ν := (zhs μ 67 ((upd (μ 67) 0 0)))) (k := 83) (g := (μ 83)) rfl]))
    · skip
      refine pv_aload_n (i := 0) t_X11_best_24 rfl rfl ?_
      refine sv_getI (nI nc) t_X11_best_25 fl_X11_140 hh_67 rfl hnc ?_
      refine pv_aload_n (i := 0) t_X11_best_28 rfl rfl ?_
      refine pv_getR t_X11_best_29 fl_X11_26 hh_67 rfl ?_
      refine pv_bipush (v := 25) t_X11_best_32 zb_25 ?_
      refine sv_iald ((μ 72) 25) t_X11_best_34 (Or.inl hh_72) (zin (by decide)) rfl ?_
      refine sv_S1 (a_X11_ones ((μ 72) 25)) ((zhs μ 67 ((upd (μ 67) 0 0)))) t_X11_best_35 ml_X11_172 mo_X11_ones (Nat.le_of_ble_eq_true rfl) (e_X11_ones) (Nat.le_of_ble_eq_true rfl) rfl rfl ?_
      refine pv_isub t_X11_best_38 ?_
      refine pv_iconst (v := 5) t_X11_best_39 zi_5 ?_
      refine pv_icmp_le t_X11_best_40 (fun c40 => ?_) (fun c40 => ?_)
      · skip
        refine pv_aload_n (i := 0) t_X11_best_46 rfl rfl ?_
        refine sv_V0 (pv) ((zhs (zhs (zhs (zhs (zhs μ 67 pt) 73 g73) 81 g81) 82 g82) 83 g83)) t_X11_best_47 ml_X11_235 mo_X11_plays hh_67 rfl (Nat.le_of_ble_eq_true rfl) (hpl c21 c40) (Nat.le_of_ble_eq_true rfl) rfl rfl ?_
        refine pv_istore_n (i := 2) t_X11_best_50 rfl (Nat.le_of_ble_eq_true rfl) ?_
        refine pv_iload_n (i := 1) t_X11_best_51 rfl rfl ?_
        refine pv_if_ne t_X11_best_52 (fun c52 => ?_) (fun c52 => ?_)
        · skip
          refine pv_aload_n (i := 0) t_X11_best_59 rfl rfl ?_
          refine sv_getI (pt 32) t_X11_best_60 fl_X11_219 hh_67 rfl rfl ?_
          exact pv_ireti t_X11_best_63 rfl (by unfold a_X11_best; rw [if_neg c11, if_neg c21, if_pos c40, if_neg c52]) (Prod.ext rfl (by have e67 : w_X11_best_67 (μ 67) (μ 72) x nc pt = pt := (by unfold w_X11_best_67; rw [if_neg c11, if_neg c21, if_pos c40]); have e73 : w_X11_best_73 (μ 72) (μ 73) x nc g73 = g73 := (by unfold w_X11_best_73; rw [if_neg c11, if_neg c21, if_pos c40]); have e81 : w_X11_best_81 (μ 72) (μ 81) x nc g81 = g81 := (by unfold w_X11_best_81; rw [if_neg c11, if_neg c21, if_pos c40]); have e82 : w_X11_best_82 (μ 72) (μ 82) x nc g82 = g82 := (by unfold w_X11_best_82; rw [if_neg c11, if_neg c21, if_pos c40]); have e83 : w_X11_best_83 (μ 72) (μ 83) x nc g83 = g83 := (by unfold w_X11_best_83; rw [if_neg c11, if_neg c21, if_pos c40]); show _ = (zhs (zhs (zhs (zhs (zhs μ 67 (w_X11_best_67 (μ 67) (μ 72) x nc pt)) 73 (w_X11_best_73 (μ 72) (μ 73) x nc g73)) 81 (w_X11_best_81 (μ 72) (μ 81) x nc g81)) 82 (w_X11_best_82 (μ 72) (μ 82) x nc g82)) 83 (w_X11_best_83 (μ 72) (μ 83) x nc g83)); symm; rw [e67, e73, e81, e82, e83]))
        · skip
          refine pv_iload_n (i := 2) t_X11_best_55 rfl rfl ?_
          refine pv_goto t_X11_best_56 ?_
          exact pv_ireti t_X11_best_63 rfl (by unfold a_X11_best; rw [if_neg c11, if_neg c21, if_pos c40, if_pos c52]) (Prod.ext rfl (by have e67 : w_X11_best_67 (μ 67) (μ 72) x nc pt = pt := (by unfold w_X11_best_67; rw [if_neg c11, if_neg c21, if_pos c40]); have e73 : w_X11_best_73 (μ 72) (μ 73) x nc g73 = g73 := (by unfold w_X11_best_73; rw [if_neg c11, if_neg c21, if_pos c40]); have e81 : w_X11_best_81 (μ 72) (μ 81) x nc g81 = g81 := (by unfold w_X11_best_81; rw [if_neg c11, if_neg c21, if_pos c40]); have e82 : w_X11_best_82 (μ 72) (μ 82) x nc g82 = g82 := (by unfold w_X11_best_82; rw [if_neg c11, if_neg c21, if_pos c40]); have e83 : w_X11_best_83 (μ 72) (μ 83) x nc g83 = g83 := (by unfold w_X11_best_83; rw [if_neg c11, if_neg c21, if_pos c40]); show _ = (zhs (zhs (zhs (zhs (zhs μ 67 (w_X11_best_67 (μ 67) (μ 72) x nc pt)) 73 (w_X11_best_73 (μ 72) (μ 73) x nc g73)) 81 (w_X11_best_81 (μ 72) (μ 81) x nc g81)) 82 (w_X11_best_82 (μ 72) (μ 82) x nc g82)) 83 (w_X11_best_83 (μ 72) (μ 83) x nc g83)); symm; rw [e67, e73, e81, e82, e83]))
      · skip
        refine pv_ldc t_X11_best_43 kc_X11_206 ?_
        exact pv_ireti t_X11_best_45 rfl (by unfold a_X11_best; rw [if_neg c11, if_neg c21, if_neg c40]) (Prod.ext rfl (by have e67 : w_X11_best_67 (μ 67) (μ 72) x nc pt = (upd (μ 67) 0 0) := (by unfold w_X11_best_67; rw [if_neg c11, if_neg c21, if_neg c40]); have e73 : w_X11_best_73 (μ 72) (μ 73) x nc g73 = (μ 73) := (by unfold w_X11_best_73; rw [if_neg c11, if_neg c21, if_neg c40]); have e81 : w_X11_best_81 (μ 72) (μ 81) x nc g81 = (μ 81) := (by unfold w_X11_best_81; rw [if_neg c11, if_neg c21, if_neg c40]); have e82 : w_X11_best_82 (μ 72) (μ 82) x nc g82 = (μ 82) := (by unfold w_X11_best_82; rw [if_neg c11, if_neg c21, if_neg c40]); have e83 : w_X11_best_83 (μ 72) (μ 83) x nc g83 = (μ 83) := (by unfold w_X11_best_83; rw [if_neg c11, if_neg c21, if_neg c40]); show _ = (zhs (zhs (zhs (zhs (zhs μ 67 (w_X11_best_67 (μ 67) (μ 72) x nc pt)) 73 (w_X11_best_73 (μ 72) (μ 73) x nc g73)) 81 (w_X11_best_81 (μ 72) (μ 81) x nc g81)) 82 (w_X11_best_82 (μ 72) (μ 82) x nc g82)) 83 (w_X11_best_83 (μ 72) (μ 83) x nc g83)); symm; rw [e67, e73, e81, e82, e83]; rw [zhs_i2 (ν := (zhs μ 67 ((upd (μ 67) 0 0)))) (k := 73) (g := (μ 73)) rfl, zhs_i2 (ν := (zhs μ 67 ((upd (μ 67) 0 0)))) (k := 81) (g := (μ 81)) rfl, zhs_i2 (ν := (zhs μ 67 ((upd (μ 67) 0 0)))) (k := 82) (g := (μ 82)) rfl, zhs_i2 (ν := (zhs μ 67 ((upd (μ 67) 0 0)))) (k := 83) (g := (μ 83)) rfl]))
  · skip
    refine pv_ldc t_X11_best_14 kc_X11_76 ?_
    exact pv_ireti t_X11_best_16 rfl (by unfold a_X11_best; rw [if_pos c11]) (Prod.ext rfl (by have e67 : w_X11_best_67 (μ 67) (μ 72) x nc pt = (upd (μ 67) 0 0) := (by unfold w_X11_best_67; rw [if_pos c11]); have e73 : w_X11_best_73 (μ 72) (μ 73) x nc g73 = (μ 73) := (by unfold w_X11_best_73; rw [if_pos c11]); have e81 : w_X11_best_81 (μ 72) (μ 81) x nc g81 = (μ 81) := (by unfold w_X11_best_81; rw [if_pos c11]); have e82 : w_X11_best_82 (μ 72) (μ 82) x nc g82 = (μ 82) := (by unfold w_X11_best_82; rw [if_pos c11]); have e83 : w_X11_best_83 (μ 72) (μ 83) x nc g83 = (μ 83) := (by unfold w_X11_best_83; rw [if_pos c11]); show _ = (zhs (zhs (zhs (zhs (zhs μ 67 (w_X11_best_67 (μ 67) (μ 72) x nc pt)) 73 (w_X11_best_73 (μ 72) (μ 73) x nc g73)) 81 (w_X11_best_81 (μ 72) (μ 81) x nc g81)) 82 (w_X11_best_82 (μ 72) (μ 82) x nc g82)) 83 (w_X11_best_83 (μ 72) (μ 83) x nc g83)); symm; rw [e67, e73, e81, e82, e83]; rw [zhs_i2 (ν := (zhs μ 67 ((upd (μ 67) 0 0)))) (k := 73) (g := (μ 73)) rfl, zhs_i2 (ν := (zhs μ 67 ((upd (μ 67) 0 0)))) (k := 81) (g := (μ 81)) rfl, zhs_i2 (ν := (zhs μ 67 ((upd (μ 67) 0 0)))) (k := 82) (g := (μ 82)) rfl, zhs_i2 (ν := (zhs μ 67 ((upd (μ 67) 0 0)))) (k := 83) (g := (μ 83)) rfl]))
def jdS (can : (Nat → Int32) → Int32 → Int32) (tu : (Nat → Int32) → Int32 → (Nat → Int32)) (bo : Nat → Int32) : Nat → Nat → (Nat → Int32) → Int32 × (Nat → Int32)
  | 0, _, w => (-1, w)
  | j + 1, i, w => if 0 < w 22 ∨ can w (bo i) = 0 then (nI i, w) else jdS can tu bo j (i + 1) (tu w (bo i))
/-- what a judge's rows keep -/
def jdI (can : (Nat → Int32) → Int32 → Int32) (tu : (Nat → Int32) → Int32 → (Nat → Int32)) (bo : Nat → Int32) (n : Nat) (I : (Nat → Int32) → Prop) : Prop :=
  ∀ w, I w → RB w ∧ ∀ i, i < n → (bo i = 9 ∨ bo i = 8 ∨ nb (bo i) 8) ∧ (¬ 0 < w 22 → ¬ can w (bo i) = 0 → I (tu w (bo i)))
theorem nI_ne1 {i : Nat} (h : i < 1000) : ¬ nI i = -1 := fun q => by
  have h1 : (nI i).toInt = -1 := by rw [q]; rfl
  rw [nI_toInt (by omega)] at h1
  omega
theorem jd_end {l : Launch} {X : zX} {d : Nat} {μ : zH} {nn i : Nat} {x : Int32} {g67 w : Nat → Int32} (hkb : g67 28 = nI nn) (hi : i < nn) (hn : nn ≤ 20) {rr : Option zV} {S' : zS} (hk : zEv l X mi_X11_judge (d + 8) 100 [(0, .inr 67), (1, .inl x), (2, .inl (nI i))] [] (zSH, (zhs (zhs μ 67 g67) 73 w)) 0 0 rr S') : zEv l X mi_X11_judge (d + 8) 35 [(0, .inr 67), (1, .inl x), (2, .inl (nI i)), (3, .inl (nI (i + 1)))] [] (zSH, (zhs (zhs μ 67 g67) 73 w)) 0 0 rr S' := by
  refine pv_iload_n (i := 3) t_X11_judge_35 rfl rfl ?_
  refine pv_aload_n (i := 0) t_X11_judge_36 rfl rfl ?_
  refine sv_getI (nI nn) t_X11_judge_37 fl_X11_149 hh_67 rfl hkb ?_
  refine pv_icmp_ge t_X11_judge_40 (fun c40 => ?_) (fun c40 => ?_)
  · skip
    refine pv_loc (lv' := [(0, .inr 67), (1, .inl x), (2, .inl (nI i))]) ⟨rfl, rfl, rfl, trivial⟩ ?_
    exact hk
  · skip
    refine pv_iload_n (i := 2) t_X11_judge_43 rfl rfl ?_
    refine pv_iconst (v := -1) t_X11_judge_44 zi_m1 ?_
    refine pv_icmp_ne t_X11_judge_45 (fun c45 => ?_) (fun c45 => absurd c45 (nI_ne1 (by omega)))
    refine pv_loc (lv' := [(0, .inr 67), (1, .inl x), (2, .inl (nI i))]) ⟨rfl, rfl, rfl, trivial⟩ ?_
    exact hk
theorem lp_X11_judge {l : Launch} {X : zX} {d : Nat} {μ : zH} {nn : Nat} {x : Int32} {g67 : Nat → Int32} {I : (Nat → Int32) → Prop} (hT : ∀ c, c < 8 → nb (μ 70 (5 * c)) 4) (hkb : g67 28 = nI nn) (hn20 : nn ≤ 20) (hI : jdI (tCa g67) (tTu (μ 69) (μ 70) (μ 72)) (μ 80) nn I) {rr : Option zV} {S' : zS} : ∀ j i : Nat, i + j = nn + 1 → i ≤ nn → ∀ (y : Int32) (w : Nat → Int32), y = nI i → I w → (zEv l X mi_X11_judge (d + 8) 100 [(0, .inr 67), (1, .inl x), (2, .inl (jdS (tCa g67) (tTu (μ 69) (μ 70) (μ 72)) (μ 80) (nn - i) i w).1)] [] (zSH, (zhs (zhs μ 67 g67) 73 ((jdS (tCa g67) (tTu (μ 69) (μ 70) (μ 72)) (μ 80) (nn - i) i w).2))) 0 0 rr S') → zEv l X mi_X11_judge (d + 8) 35 [(0, .inr 67), (1, .inl x), (2, .inl (-1)), (3, .inl y)] [] (zSH, (zhs (zhs μ 67 g67) 73 w)) 0 0 rr S' := by
  intro j
  induction j with
  | zero => intro i h h2; omega
  | succ j ih =>
    intro i hij hle y w hy hw hk
    subst hy
    refine pv_iload_n (i := 3) t_X11_judge_35 rfl rfl ?_
    refine pv_aload_n (i := 0) t_X11_judge_36 rfl rfl ?_
    refine sv_getI (nI nn) t_X11_judge_37 fl_X11_149 hh_67 rfl hkb ?_
    refine pv_icmp_ge t_X11_judge_40 (fun c40 => ?_) (fun c40 => ?_)
    · skip
      have hie : i = nn := by have := (nI_leI (by omega) (by omega)).mp c40; omega
      subst hie
      rw [Nat.sub_self, jdS] at hk
      refine pv_loc (lv' := [(0, .inr 67), (1, .inl x), (2, .inl (-1))]) ⟨rfl, rfl, rfl, trivial⟩ ?_
      exact hk
    · skip
      have hin : i < nn := Nat.lt_of_not_le (fun q => c40 (nI_le q (by omega)))
      have hIw := hI w hw
      have hR := hIw.1
      have hO := hR.1
      refine pv_iload_n (i := 2) t_X11_judge_43 rfl rfl ?_
      refine pv_iconst (v := -1) t_X11_judge_44 zi_m1 ?_
      refine pv_icmp_ne t_X11_judge_45 (fun c45 => absurd c45 (by decide)) (fun c45 => ?_)
      refine pv_aload_n (i := 0) t_X11_judge_48 rfl rfl ?_
      refine pv_getR t_X11_judge_49 fl_X11_29 hh_67 rfl ?_
      refine pv_bipush (v := 22) t_X11_judge_52 zb_22 ?_
      refine sv_iald (w 22) t_X11_judge_54 (Or.inl hh_73) (zin (by decide)) rfl ?_
      refine pv_if_gt t_X11_judge_55 (fun c55 => ?_) (fun c55 => ?_)
      · skip
        refine pv_iload_n (i := 3) t_X11_judge_75 rfl rfl ?_
        refine pv_istore_n (i := 2) t_X11_judge_76 rfl (Nat.le_of_ble_eq_true rfl) ?_
        refine pv_goto t_X11_judge_77 ?_
        refine pv_iinc (v := 1) t_X11_judge_94 rfl zi_1 ?_
        refine pv_goto t_X11_judge_97 ?_
        have hq : 0 < w 22 ∨ tCa g67 w ((μ 80) i) = 0 := Or.inl c55
        rw [show nn - i = (nn - (i + 1)) + 1 by omega, jdS, if_pos hq] at hk
        refine pv_loc (lv' := [(0, .inr 67), (1, .inl x), (2, .inl (nI i)), (3, .inl (nI i + 1))]) ⟨rfl, rfl, rfl, rfl, trivial⟩ ?_
        rw [nI_1]
        exact jd_end hkb (by omega) (by omega) hk
      · skip
        refine pv_aload_n (i := 0) t_X11_judge_58 rfl rfl ?_
        refine pv_aload_n (i := 0) t_X11_judge_59 rfl rfl ?_
        refine pv_getR t_X11_judge_60 fl_X11_29 hh_67 rfl ?_
        refine pv_aload_n (i := 0) t_X11_judge_63 rfl rfl ?_
        refine pv_getR t_X11_judge_64 fl_X11_51 hh_67 rfl ?_
        refine pv_iload_n (i := 3) t_X11_judge_67 rfl rfl ?_
        refine sv_iald ((μ 80) i) t_X11_judge_68 (Or.inl hh_80) (ixi (k := i) rfl (by omega) (by decide)) ((ixe (k := i) rfl (by omega)).trans (by first | rfl | (simp only [zhs_s, pk_us]; done) | (simp [zhs, upd]; done))) ?_
        refine sv_V2 (a_X11_canTurn_73 g67 w ((μ 80) i)) ((zhs (zhs μ 67 g67) 73 w)) t_X11_judge_69 ml_X11_202 mo_X11_canTurn hh_67 rfl (Nat.le_of_ble_eq_true rfl) (e_X11_canTurn_73 (by repeat (first | exact hO | refine OB.u ?_ (by unfold okW; omega)))) (Nat.le_of_ble_eq_true rfl) rfl rfl ?_
        refine pv_if_ne t_X11_judge_72 (fun c72 => ?_) (fun c72 => ?_)
        · skip
          refine pv_aload_n (i := 0) t_X11_judge_80 rfl rfl ?_
          refine pv_aload_n (i := 0) t_X11_judge_81 rfl rfl ?_
          refine pv_getR t_X11_judge_82 fl_X11_29 hh_67 rfl ?_
          refine pv_aload_n (i := 0) t_X11_judge_85 rfl rfl ?_
          refine pv_getR t_X11_judge_86 fl_X11_51 hh_67 rfl ?_
          refine pv_iload_n (i := 3) t_X11_judge_89 rfl rfl ?_
          refine sv_iald ((μ 80) i) t_X11_judge_90 (Or.inl hh_80) (ixi (k := i) rfl (by omega) (by decide)) ((ixe (k := i) rfl (by omega)).trans (by first | rfl | (simp only [zhs_s, pk_us]; done) | (simp [zhs, upd]; done))) ?_
          refine sv_WV2 ((zhs (zhs μ 67 g67) 73 (w_X11_turns_73_73 (μ 69) (μ 70) (μ 72) w ((μ 80) i)))) t_X11_judge_91 ml_X11_199 mo_X11_turns hh_67 rfl (Nat.le_of_ble_eq_true rfl) (e_X11_turns_73 hT hR (hIw.2 i hin).1) (Nat.le_of_ble_eq_true rfl) (by (try simp (disch := decide) only [zhs_d, zhs_s]); rw [zhs_hs] <;> (first | rfl | (congr 1; funext k_; simp only [upd]; ((repeat' split) <;> first | rfl | (simp_all; done))))) ?_
          refine pv_iinc (v := 1) t_X11_judge_94 rfl zi_1 ?_
          refine pv_goto t_X11_judge_97 ?_
          have hq : ¬ (0 < w 22 ∨ tCa g67 w ((μ 80) i) = 0) := fun q => q.elim (fun p => c55 p) (fun p => c72 p)
          rw [show nn - i = (nn - (i + 1)) + 1 by omega, jdS, if_neg hq] at hk
          refine pv_loc (lv' := [(0, _), (1, _), (2, _), (3, _)]) ⟨rfl, rfl, rfl, rfl, trivial⟩ ?_
          exact ih (i + 1) (by omega) (by omega) _ _ (nI_1 i) ((hIw.2 i hin).2 c55 c72) hk
        · skip
          refine pv_iload_n (i := 3) t_X11_judge_75 rfl rfl ?_
          refine pv_istore_n (i := 2) t_X11_judge_76 rfl (Nat.le_of_ble_eq_true rfl) ?_
          refine pv_goto t_X11_judge_77 ?_
          refine pv_iinc (v := 1) t_X11_judge_94 rfl zi_1 ?_
          refine pv_goto t_X11_judge_97 ?_
          have hq : 0 < w 22 ∨ tCa g67 w ((μ 80) i) = 0 := Or.inr c72
          rw [show nn - i = (nn - (i + 1)) + 1 by omega, jdS, if_pos hq] at hk
          refine pv_loc (lv' := [(0, .inr 67), (1, .inl x), (2, .inl (nI i)), (3, .inl (nI i + 1))]) ⟨rfl, rfl, rfl, rfl, trivial⟩ ?_
          rw [nI_1]
          exact jd_end hkb (by omega) (by omega) hk
theorem tl_X11_judge {l : Launch} {X : zX} {d : Nat} {μ : zH} {x v : Int32} {g67 w : Nat → Int32} : zEv l X mi_X11_judge (d + 8) 100 [(0, .inr 67), (1, .inl x), (2, .inl v)] [] (zSH, (zhs (zhs μ 67 g67) 73 w)) 0 0 (some (.inl (if x = 0 then v else w 22))) (zSH, (zhs (zhs μ 67 g67) 73 w)) := by
  refine pv_iload_n (i := 1) t_X11_judge_100 rfl rfl ?_
  refine sv_phi (c := x = 0) (A := v) (B := w 22) (J := 115) (lv := [(0, .inr 67), (1, .inl x), (2, .inl v)]) (st := []) (S := (zSH, (zhs (zhs μ 67 g67) 73 w))) (fun kT kF => ?_) ?_
  · skip
    refine pv_if_ne t_X11_judge_101 (fun c101 => ?_) (fun c101 => ?_)
    · skip
      refine pv_aload_n (i := 0) t_X11_judge_108 rfl rfl ?_
      refine pv_getR t_X11_judge_109 fl_X11_29 hh_67 rfl ?_
      refine pv_bipush (v := 22) t_X11_judge_112 zb_22 ?_
      refine sv_iald (w 22) t_X11_judge_114 (Or.inl hh_73) (zin (by decide)) rfl ?_
      exact kF c101
    · skip
      refine pv_iload_n (i := 2) t_X11_judge_104 rfl rfl ?_
      refine pv_goto t_X11_judge_105 ?_
      exact kT c101
  exact pv_ireti t_X11_judge_115 rfl rfl rfl
def a_X11_judge (f67 : Nat → Int32) (f69 : Nat → Int32) (f70 : Nat → Int32) (f72 : Nat → Int32) (f73 : Nat → Int32) (f80 : Nat → Int32) (x : Int32) (nn : Nat) : Int32 := (if (a_X11_in x 0 1) = 0 then (-1000000002) else (if (a_X11_isDuel f72) = 0 then (-1000000003) else if x = 0 then (jdS (tCa (upd f67 0 0)) (tTu f69 f70 f72) f80 nn 0 (w_X11_asNow_73 f72 f73)).1 else (jdS (tCa (upd f67 0 0)) (tTu f69 f70 f72) f80 nn 0 (w_X11_asNow_73 f72 f73)).2 22))
def w_X11_judge_67 (f67 : Nat → Int32) : Nat → Int32 := (upd f67 0 0)
def w_X11_judge_73 (f67 : Nat → Int32) (f69 : Nat → Int32) (f70 : Nat → Int32) (f72 : Nat → Int32) (f73 : Nat → Int32) (f80 : Nat → Int32) (x : Int32) (nn : Nat) : Nat → Int32 := (if (a_X11_in x 0 1) = 0 then f73 else (if (a_X11_isDuel f72) = 0 then f73 else (jdS (tCa (upd f67 0 0)) (tTu f69 f70 f72) f80 nn 0 (w_X11_asNow_73 f72 f73)).2))
theorem e_X11_judge {l : Launch} {X : zX} {d : Nat} {μ : zH} {nn : Nat} {x : Int32} (hT : ∀ c, c < 8 → nb (μ 70 (5 * c)) 4) (hkb : μ 67 28 = nI nn) (hn20 : nn ≤ 20) {I : (Nat → Int32) → Prop} (hI : jdI (tCa (upd (μ 67) 0 0)) (tTu (μ 69) (μ 70) (μ 72)) (μ 80) nn I) (hw : ¬ a_X11_isDuel (μ 72) = 0 → I (w_X11_asNow_73 (μ 72) (μ 73))) : zRn l X mi_X11_judge (d + 8) [.inr 67, .inl (x)] (zSH, μ) (some (.inl (a_X11_judge (μ 67) (μ 69) (μ 70) (μ 72) (μ 73) (μ 80) x nn))) (zSH, (zhs (zhs μ 67 (w_X11_judge_67 (μ 67))) 73 (w_X11_judge_73 (μ 67) (μ 69) (μ 70) (μ 72) (μ 73) (μ 80) x nn))) := by
  refine pv_aload_n (i := 0) t_X11_judge_0 rfl rfl ?_
  refine pv_iconst (v := 0) t_X11_judge_1 zi_0 ?_
  refine sv_putI ((zhs μ 67 ((upd (μ 67) 0 0)))) t_X11_judge_2 fl_X11_69 zfn_10_0 hh_67 rfl rfl ?_
  refine pv_iload_n (i := 1) t_X11_judge_5 rfl rfl ?_
  refine pv_iconst (v := 0) t_X11_judge_6 zi_0 ?_
  refine pv_iconst (v := 1) t_X11_judge_7 zi_1 ?_
  refine sv_S3 (a_X11_in x 0 1) ((zhs μ 67 ((upd (μ 67) 0 0)))) t_X11_judge_8 ml_X11_72 mo_X11_in (Nat.le_of_ble_eq_true rfl) (e_X11_in) (Nat.le_of_ble_eq_true rfl) rfl rfl ?_
  refine pv_if_ne t_X11_judge_11 (fun c11 => ?_) (fun c11 => ?_)
  · skip
    refine pv_aload_n (i := 0) t_X11_judge_17 rfl rfl ?_
    refine sv_V0 (a_X11_isDuel (μ 72)) ((zhs μ 67 ((upd (μ 67) 0 0)))) t_X11_judge_18 ml_X11_152 mo_X11_isDuel hh_67 rfl (Nat.le_of_ble_eq_true rfl) (e_X11_isDuel) (Nat.le_of_ble_eq_true rfl) rfl rfl ?_
    refine pv_if_ne t_X11_judge_21 (fun c21 => ?_) (fun c21 => ?_)
    · skip
      refine pv_aload_n (i := 0) t_X11_judge_27 rfl rfl ?_
      refine sv_WV0 ((zhs (zhs μ 67 ((upd (μ 67) 0 0))) 73 (w_X11_asNow_73 (μ 72) (μ 73)))) t_X11_judge_28 ml_X11_222 mo_X11_asNow hh_67 rfl (Nat.le_of_ble_eq_true rfl) (e_X11_asNow) (Nat.le_of_ble_eq_true rfl) rfl ?_
      refine pv_iconst (v := -1) t_X11_judge_31 zi_m1 ?_
      refine pv_istore_n (i := 2) t_X11_judge_32 rfl (Nat.le_of_ble_eq_true rfl) ?_
      refine pv_iconst (v := 0) t_X11_judge_33 zi_0 ?_
      refine pv_istore_n (i := 3) t_X11_judge_34 rfl (Nat.le_of_ble_eq_true rfl) ?_
      refine zfin (S1 := (zSH, (zhs (zhs μ 67 ((upd (μ 67) 0 0))) 73 ((jdS (tCa (upd (μ 67) 0 0)) (tTu (μ 69) (μ 70) (μ 72)) (μ 80) nn 0 (w_X11_asNow_73 (μ 72) (μ 73))).2)))) (by unfold a_X11_judge; rw [if_neg c11, if_neg c21]) (Prod.ext rfl (by have e67 : w_X11_judge_67 (μ 67) = (upd (μ 67) 0 0) := (by unfold w_X11_judge_67; rfl); have e73 : w_X11_judge_73 (μ 67) (μ 69) (μ 70) (μ 72) (μ 73) (μ 80) x nn = (jdS (tCa (upd (μ 67) 0 0)) (tTu (μ 69) (μ 70) (μ 72)) (μ 80) nn 0 (w_X11_asNow_73 (μ 72) (μ 73))).2 := (by unfold w_X11_judge_73; rw [if_neg c11, if_neg c21]); show _ = (zhs (zhs μ 67 (w_X11_judge_67 (μ 67))) 73 (w_X11_judge_73 (μ 67) (μ 69) (μ 70) (μ 72) (μ 73) (μ 80) x nn)); symm; rw [e67, e73])) ?_
      refine lp_X11_judge (g67 := upd (μ 67) 0 0) hT hkb hn20 hI (nn + 1) 0 (by omega) (by omega) _ _ rfl (hw c21) ?_
      exact tl_X11_judge
    · skip
      refine pv_ldc t_X11_judge_24 kc_X11_206 ?_
      exact pv_ireti t_X11_judge_26 rfl (by unfold a_X11_judge; rw [if_neg c11, if_pos c21]) (Prod.ext rfl (by have e67 : w_X11_judge_67 (μ 67) = (upd (μ 67) 0 0) := (by unfold w_X11_judge_67; rfl); have e73 : w_X11_judge_73 (μ 67) (μ 69) (μ 70) (μ 72) (μ 73) (μ 80) x nn = (μ 73) := (by unfold w_X11_judge_73; rw [if_neg c11, if_pos c21]); show _ = (zhs (zhs μ 67 (w_X11_judge_67 (μ 67))) 73 (w_X11_judge_73 (μ 67) (μ 69) (μ 70) (μ 72) (μ 73) (μ 80) x nn)); symm; rw [e67, e73]; rw [zhs_i2 (ν := (zhs μ 67 ((upd (μ 67) 0 0)))) (k := 73) (g := (μ 73)) rfl]))
  · skip
    refine pv_ldc t_X11_judge_14 kc_X11_76 ?_
    exact pv_ireti t_X11_judge_16 rfl (by unfold a_X11_judge; rw [if_pos c11]) (Prod.ext rfl (by have e67 : w_X11_judge_67 (μ 67) = (upd (μ 67) 0 0) := (by unfold w_X11_judge_67; rfl); have e73 : w_X11_judge_73 (μ 67) (μ 69) (μ 70) (μ 72) (μ 73) (μ 80) x nn = (μ 73) := (by unfold w_X11_judge_73; rw [if_pos c11]); show _ = (zhs (zhs μ 67 (w_X11_judge_67 (μ 67))) 73 (w_X11_judge_73 (μ 67) (μ 69) (μ 70) (μ 72) (μ 73) (μ 80) x nn)); symm; rw [e67, e73]; rw [zhs_i2 (ν := (zhs μ 67 ((upd (μ 67) 0 0)))) (k := 73) (g := (μ 73)) rfl]))
