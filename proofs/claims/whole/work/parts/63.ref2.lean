def a_X11_say2 (f67 : Nat → Int32) (f69 : Nat → Int32) (f70 : Nat → Int32) (f72 : Nat → Int32) (x : Int32) : Int32 := (if (a_X11_isCompliment ((upd f67 0 0)) x) = 0 then (-1000000001) else (if (a_X11_goesOn f72) = 0 then (-1000000003) else (if (a_X11_canTurn_72 ((upd f67 0 0)) f72 x) = 0 then (-1000000003) else (w_X11_does_72 f69 f70 f72 x) 22)))
def w_X11_say2_67 (f67 : Nat → Int32) : Nat → Int32 := (upd f67 0 0)
def w_X11_say2_74 (f67 : Nat → Int32) (f72 : Nat → Int32) (f74 : Nat → Int32) (x : Int32) : Nat → Int32 := (if (a_X11_isCompliment ((upd f67 0 0)) x) = 0 then f74 else (if (a_X11_goesOn f72) = 0 then f74 else (if (a_X11_canTurn_72 ((upd f67 0 0)) f72 x) = 0 then f74 else w_X11_does_74 f72 f74)))
def w_X11_say2_72 (f67 : Nat → Int32) (f69 : Nat → Int32) (f70 : Nat → Int32) (f72 : Nat → Int32) (x : Int32) : Nat → Int32 := (if (a_X11_isCompliment ((upd f67 0 0)) x) = 0 then f72 else (if (a_X11_goesOn f72) = 0 then f72 else (if (a_X11_canTurn_72 ((upd f67 0 0)) f72 x) = 0 then f72 else w_X11_does_72 f69 f70 f72 x)))
theorem e_X11_say2 {l : Launch} {X : zX} {d : Nat} {μ : zH} {nc : Nat} {x : Int32} (hnc : μ 67 11 = nI nc) (hc8 : nc ≤ 8) (hT : ∀ c, c < 8 → nb (μ 70 (5 * c)) 4) (hg : ¬ a_X11_goesOn (μ 72) = 0 → RB (μ 72) ∧ nb (μ 72 23) 64) : zRn l X mi_X11_say (d + 10) [.inr 67, .inl (x)] (zSH, μ) (some (.inl (a_X11_say2 (μ 67) (μ 69) (μ 70) (μ 72) x))) (zSH, (zhs (zhs (zhs μ 67 (w_X11_say2_67 (μ 67))) 74 (w_X11_say2_74 (μ 67) (μ 72) (μ 74) x)) 72 (w_X11_say2_72 (μ 67) (μ 69) (μ 70) (μ 72) x))) := by
  refine pv_aload_n (i := 0) t_X11_say_0 rfl rfl ?_
  refine pv_iconst (v := 0) t_X11_say_1 zi_0 ?_
  refine sv_putI ((zhs μ 67 ((upd (μ 67) 0 0)))) t_X11_say_2 fl_X11_69 zfn_10_0 hh_67 rfl rfl ?_
  refine pv_aload_n (i := 0) t_X11_say_5 rfl rfl ?_
  refine pv_iload_n (i := 1) t_X11_say_6 rfl rfl ?_
  refine sv_V1 (a_X11_isCompliment ((upd (μ 67) 0 0)) x) ((zhs μ 67 ((upd (μ 67) 0 0)))) t_X11_say_7 ml_X11_169 mo_X11_isCompliment hh_67 rfl (Nat.le_of_ble_eq_true rfl) (e_X11_isCompliment) (Nat.le_of_ble_eq_true rfl) rfl rfl ?_
  refine pv_if_ne t_X11_say_10 (fun c10 => ?_) (fun c10 => ?_)
  · skip
    obtain ⟨hx1, hx2⟩ := (isc (f := μ 67) hnc hc8 c10).2
    refine pv_aload_n (i := 0) t_X11_say_16 rfl rfl ?_
    refine sv_V0 (a_X11_goesOn (μ 72)) ((zhs μ 67 ((upd (μ 67) 0 0)))) t_X11_say_17 ml_X11_155 mo_X11_goesOn hh_67 rfl (Nat.le_of_ble_eq_true rfl) (e_X11_goesOn) (Nat.le_of_ble_eq_true rfl) rfl rfl ?_
    refine pv_if_eq t_X11_say_20 (fun c20 => ?_) (fun c20 => ?_)
    · skip
      refine pv_ldc t_X11_say_35 kc_X11_206 ?_
      exact pv_ireti t_X11_say_37 rfl (by unfold a_X11_say2; rw [if_neg c10, if_pos c20]) (Prod.ext rfl (by have e67 : w_X11_say2_67 (μ 67) = (upd (μ 67) 0 0) := (by unfold w_X11_say2_67; rfl); have e74 : w_X11_say2_74 (μ 67) (μ 72) (μ 74) x = (μ 74) := (by unfold w_X11_say2_74; rw [if_neg c10, if_pos c20]); have e72 : w_X11_say2_72 (μ 67) (μ 69) (μ 70) (μ 72) x = (μ 72) := (by unfold w_X11_say2_72; rw [if_neg c10, if_pos c20]); show _ = (zhs (zhs (zhs μ 67 (w_X11_say2_67 (μ 67))) 74 (w_X11_say2_74 (μ 67) (μ 72) (μ 74) x)) 72 (w_X11_say2_72 (μ 67) (μ 69) (μ 70) (μ 72) x)); symm; rw [e67, e74, e72]; rw [zhs_i2 (ν := (zhs μ 67 ((upd (μ 67) 0 0)))) (k := 74) (g := (μ 74)) rfl, zhs_i2 (ν := (zhs μ 67 ((upd (μ 67) 0 0)))) (k := 72) (g := (μ 72)) rfl]))
    · skip
      obtain ⟨hR, hU⟩ := hg c20
      have hO := hR.1
      have hs1 := hR.1.2.1.1
      refine pv_aload_n (i := 0) t_X11_say_23 rfl rfl ?_
      refine pv_aload_n (i := 0) t_X11_say_24 rfl rfl ?_
      refine pv_getR t_X11_say_25 fl_X11_26 hh_67 rfl ?_
      refine pv_iload_n (i := 1) t_X11_say_28 rfl rfl ?_
      refine sv_V2 (a_X11_canTurn_72 ((upd (μ 67) 0 0)) (μ 72) x) ((zhs μ 67 ((upd (μ 67) 0 0)))) t_X11_say_29 ml_X11_202 mo_X11_canTurn hh_67 rfl (Nat.le_of_ble_eq_true rfl) (e_X11_canTurn_72 (by repeat (first | exact hO | refine OB.u ?_ (by unfold okW; omega)))) (Nat.le_of_ble_eq_true rfl) rfl rfl ?_
      refine pv_if_ne t_X11_say_32 (fun c32 => ?_) (fun c32 => ?_)
      · skip
        refine pv_aload_n (i := 0) t_X11_say_38 rfl rfl ?_
        refine pv_iload_n (i := 1) t_X11_say_39 rfl rfl ?_
        refine sv_WV1 ((zhs (zhs (zhs μ 67 ((upd (μ 67) 0 0))) 74 (w_X11_does_74 (μ 72) (μ 74))) 72 (w_X11_does_72 (μ 69) (μ 70) (μ 72) x))) t_X11_say_40 ml_X11_207 mo_X11_does hh_67 rfl (Nat.le_of_ble_eq_true rfl) (e_X11_does hT hR hU (Or.inr (Or.inr ⟨hx1, hx2⟩))) (Nat.le_of_ble_eq_true rfl) rfl ?_
        refine pv_aload_n (i := 0) t_X11_say_43 rfl rfl ?_
        refine pv_getR t_X11_say_44 fl_X11_26 hh_67 rfl ?_
        refine pv_bipush (v := 22) t_X11_say_47 zb_22 ?_
        refine sv_iald ((w_X11_does_72 (μ 69) (μ 70) (μ 72) x) 22) t_X11_say_49 (Or.inl hh_72) (zin (by decide)) rfl ?_
        exact pv_ireti t_X11_say_50 rfl (by unfold a_X11_say2; rw [if_neg c10, if_neg c20, if_neg c32]) (Prod.ext rfl (by have e67 : w_X11_say2_67 (μ 67) = (upd (μ 67) 0 0) := (by unfold w_X11_say2_67; rfl); have e74 : w_X11_say2_74 (μ 67) (μ 72) (μ 74) x = w_X11_does_74 (μ 72) (μ 74) := (by unfold w_X11_say2_74; rw [if_neg c10, if_neg c20, if_neg c32]); have e72 : w_X11_say2_72 (μ 67) (μ 69) (μ 70) (μ 72) x = w_X11_does_72 (μ 69) (μ 70) (μ 72) x := (by unfold w_X11_say2_72; rw [if_neg c10, if_neg c20, if_neg c32]); show _ = (zhs (zhs (zhs μ 67 (w_X11_say2_67 (μ 67))) 74 (w_X11_say2_74 (μ 67) (μ 72) (μ 74) x)) 72 (w_X11_say2_72 (μ 67) (μ 69) (μ 70) (μ 72) x)); symm; rw [e67, e74, e72]))
      · skip
        refine pv_ldc t_X11_say_35 kc_X11_206 ?_
        exact pv_ireti t_X11_say_37 rfl (by unfold a_X11_say2; rw [if_neg c10, if_neg c20, if_pos c32]) (Prod.ext rfl (by have e67 : w_X11_say2_67 (μ 67) = (upd (μ 67) 0 0) := (by unfold w_X11_say2_67; rfl); have e74 : w_X11_say2_74 (μ 67) (μ 72) (μ 74) x = (μ 74) := (by unfold w_X11_say2_74; rw [if_neg c10, if_neg c20, if_pos c32]); have e72 : w_X11_say2_72 (μ 67) (μ 69) (μ 70) (μ 72) x = (μ 72) := (by unfold w_X11_say2_72; rw [if_neg c10, if_neg c20, if_pos c32]); show _ = (zhs (zhs (zhs μ 67 (w_X11_say2_67 (μ 67))) 74 (w_X11_say2_74 (μ 67) (μ 72) (μ 74) x)) 72 (w_X11_say2_72 (μ 67) (μ 69) (μ 70) (μ 72) x)); symm; rw [e67, e74, e72]; rw [zhs_i2 (ν := (zhs μ 67 ((upd (μ 67) 0 0)))) (k := 74) (g := (μ 74)) rfl, zhs_i2 (ν := (zhs μ 67 ((upd (μ 67) 0 0)))) (k := 72) (g := (μ 72)) rfl]))
  · skip
    refine pv_ldc t_X11_say_13 kc_X11_165 ?_
    exact pv_ireti t_X11_say_15 rfl (by unfold a_X11_say2; rw [if_pos c10]) (Prod.ext rfl (by have e67 : w_X11_say2_67 (μ 67) = (upd (μ 67) 0 0) := (by unfold w_X11_say2_67; rfl); have e74 : w_X11_say2_74 (μ 67) (μ 72) (μ 74) x = (μ 74) := (by unfold w_X11_say2_74; rw [if_pos c10]); have e72 : w_X11_say2_72 (μ 67) (μ 69) (μ 70) (μ 72) x = (μ 72) := (by unfold w_X11_say2_72; rw [if_pos c10]); show _ = (zhs (zhs (zhs μ 67 (w_X11_say2_67 (μ 67))) 74 (w_X11_say2_74 (μ 67) (μ 72) (μ 74) x)) 72 (w_X11_say2_72 (μ 67) (μ 69) (μ 70) (μ 72) x)); symm; rw [e67, e74, e72]; rw [zhs_i2 (ν := (zhs μ 67 ((upd (μ 67) 0 0)))) (k := 74) (g := (μ 74)) rfl, zhs_i2 (ν := (zhs μ 67 ((upd (μ 67) 0 0)))) (k := 72) (g := (μ 72)) rfl]))
def a_X11_pass2 (f69 : Nat → Int32) (f70 : Nat → Int32) (f72 : Nat → Int32) : Int32 := (if (a_X11_goesOn f72) = 0 then (-1000000003) else (w_X11_does_72 f69 f70 f72 8) 22)
def w_X11_pass2_67 (f67 : Nat → Int32) : Nat → Int32 := (upd f67 0 0)
def w_X11_pass2_74 (f72 : Nat → Int32) (f74 : Nat → Int32) : Nat → Int32 := (if (a_X11_goesOn f72) = 0 then f74 else w_X11_does_74 f72 f74)
def w_X11_pass2_72 (f69 : Nat → Int32) (f70 : Nat → Int32) (f72 : Nat → Int32) : Nat → Int32 := (if (a_X11_goesOn f72) = 0 then f72 else w_X11_does_72 f69 f70 f72 8)
theorem e_X11_pass2 {l : Launch} {X : zX} {d : Nat} {μ : zH} (hT : ∀ c, c < 8 → nb (μ 70 (5 * c)) 4) (hg : ¬ a_X11_goesOn (μ 72) = 0 → RB (μ 72) ∧ nb (μ 72 23) 64) : zRn l X mi_X11_pass (d + 10) [.inr 67] (zSH, μ) (some (.inl (a_X11_pass2 (μ 69) (μ 70) (μ 72)))) (zSH, (zhs (zhs (zhs μ 67 (w_X11_pass2_67 (μ 67))) 74 (w_X11_pass2_74 (μ 72) (μ 74))) 72 (w_X11_pass2_72 (μ 69) (μ 70) (μ 72)))) := by
  refine pv_aload_n (i := 0) t_X11_pass_0 rfl rfl ?_
  refine pv_iconst (v := 0) t_X11_pass_1 zi_0 ?_
  refine sv_putI ((zhs μ 67 ((upd (μ 67) 0 0)))) t_X11_pass_2 fl_X11_69 zfn_10_0 hh_67 rfl rfl ?_
  refine pv_aload_n (i := 0) t_X11_pass_5 rfl rfl ?_
  refine sv_V0 (a_X11_goesOn (μ 72)) ((zhs μ 67 ((upd (μ 67) 0 0)))) t_X11_pass_6 ml_X11_155 mo_X11_goesOn hh_67 rfl (Nat.le_of_ble_eq_true rfl) (e_X11_goesOn) (Nat.le_of_ble_eq_true rfl) rfl rfl ?_
  refine pv_if_ne t_X11_pass_9 (fun c9 => ?_) (fun c9 => ?_)
  · skip
    obtain ⟨hR, hU⟩ := hg c9
    have hO := hR.1
    have hs1 := hR.1.2.1.1
    refine pv_aload_n (i := 0) t_X11_pass_15 rfl rfl ?_
    refine pv_bipush (v := 8) t_X11_pass_16 zb_8 ?_
    refine sv_WV1 ((zhs (zhs (zhs μ 67 ((upd (μ 67) 0 0))) 74 (w_X11_does_74 (μ 72) (μ 74))) 72 (w_X11_does_72 (μ 69) (μ 70) (μ 72) 8))) t_X11_pass_18 ml_X11_207 mo_X11_does hh_67 rfl (Nat.le_of_ble_eq_true rfl) (e_X11_does hT hR hU (Or.inr (Or.inl rfl))) (Nat.le_of_ble_eq_true rfl) rfl ?_
    refine pv_aload_n (i := 0) t_X11_pass_21 rfl rfl ?_
    refine pv_getR t_X11_pass_22 fl_X11_26 hh_67 rfl ?_
    refine pv_bipush (v := 22) t_X11_pass_25 zb_22 ?_
    refine sv_iald ((w_X11_does_72 (μ 69) (μ 70) (μ 72) 8) 22) t_X11_pass_27 (Or.inl hh_72) (zin (by decide)) rfl ?_
    exact pv_ireti t_X11_pass_28 rfl (by unfold a_X11_pass2; rw [if_neg c9]) (Prod.ext rfl (by have e67 : w_X11_pass2_67 (μ 67) = (upd (μ 67) 0 0) := (by unfold w_X11_pass2_67; rfl); have e74 : w_X11_pass2_74 (μ 72) (μ 74) = w_X11_does_74 (μ 72) (μ 74) := (by unfold w_X11_pass2_74; rw [if_neg c9]); have e72 : w_X11_pass2_72 (μ 69) (μ 70) (μ 72) = w_X11_does_72 (μ 69) (μ 70) (μ 72) 8 := (by unfold w_X11_pass2_72; rw [if_neg c9]); show _ = (zhs (zhs (zhs μ 67 (w_X11_pass2_67 (μ 67))) 74 (w_X11_pass2_74 (μ 72) (μ 74))) 72 (w_X11_pass2_72 (μ 69) (μ 70) (μ 72))); symm; rw [e67, e74, e72]))
  · skip
    refine pv_ldc t_X11_pass_12 kc_X11_206 ?_
    exact pv_ireti t_X11_pass_14 rfl (by unfold a_X11_pass2; rw [if_pos c9]) (Prod.ext rfl (by have e67 : w_X11_pass2_67 (μ 67) = (upd (μ 67) 0 0) := (by unfold w_X11_pass2_67; rfl); have e74 : w_X11_pass2_74 (μ 72) (μ 74) = (μ 74) := (by unfold w_X11_pass2_74; rw [if_pos c9]); have e72 : w_X11_pass2_72 (μ 69) (μ 70) (μ 72) = (μ 72) := (by unfold w_X11_pass2_72; rw [if_pos c9]); show _ = (zhs (zhs (zhs μ 67 (w_X11_pass2_67 (μ 67))) 74 (w_X11_pass2_74 (μ 72) (μ 74))) 72 (w_X11_pass2_72 (μ 69) (μ 70) (μ 72))); symm; rw [e67, e74, e72]; rw [zhs_i2 (ν := (zhs μ 67 ((upd (μ 67) 0 0)))) (k := 74) (g := (μ 74)) rfl, zhs_i2 (ν := (zhs μ 67 ((upd (μ 67) 0 0)))) (k := 72) (g := (μ 72)) rfl]))
def a_X11_sorr2 (f67 : Nat → Int32) (f69 : Nat → Int32) (f70 : Nat → Int32) (f72 : Nat → Int32) : Int32 := (if (a_X11_goesOn f72) = 0 then (-1000000003) else (if (a_X11_canTurn_72 ((upd f67 0 0)) f72 9) = 0 then (-1000000003) else (w_X11_does_72 f69 f70 f72 9) ((29 + (f72 24).toNatClampNeg))))
def w_X11_sorr2_67 (f67 : Nat → Int32) : Nat → Int32 := (upd f67 0 0)
def w_X11_sorr2_74 (f67 : Nat → Int32) (f72 : Nat → Int32) (f74 : Nat → Int32) : Nat → Int32 := (if (a_X11_goesOn f72) = 0 then f74 else (if (a_X11_canTurn_72 ((upd f67 0 0)) f72 9) = 0 then f74 else w_X11_does_74 f72 f74))
def w_X11_sorr2_72 (f67 : Nat → Int32) (f69 : Nat → Int32) (f70 : Nat → Int32) (f72 : Nat → Int32) : Nat → Int32 := (if (a_X11_goesOn f72) = 0 then f72 else (if (a_X11_canTurn_72 ((upd f67 0 0)) f72 9) = 0 then f72 else w_X11_does_72 f69 f70 f72 9))
theorem e_X11_sorr2 {l : Launch} {X : zX} {d : Nat} {μ : zH} (hT : ∀ c, c < 8 → nb (μ 70 (5 * c)) 4) (hg : ¬ a_X11_goesOn (μ 72) = 0 → RB (μ 72) ∧ nb (μ 72 23) 64) : zRn l X mi_X11_sorr (d + 10) [.inr 67] (zSH, μ) (some (.inl (a_X11_sorr2 (μ 67) (μ 69) (μ 70) (μ 72)))) (zSH, (zhs (zhs (zhs μ 67 (w_X11_sorr2_67 (μ 67))) 74 (w_X11_sorr2_74 (μ 67) (μ 72) (μ 74))) 72 (w_X11_sorr2_72 (μ 67) (μ 69) (μ 70) (μ 72)))) := by
  refine pv_aload_n (i := 0) t_X11_sorr_0 rfl rfl ?_
  refine pv_iconst (v := 0) t_X11_sorr_1 zi_0 ?_
  refine sv_putI ((zhs μ 67 ((upd (μ 67) 0 0)))) t_X11_sorr_2 fl_X11_69 zfn_10_0 hh_67 rfl rfl ?_
  refine pv_aload_n (i := 0) t_X11_sorr_5 rfl rfl ?_
  refine sv_V0 (a_X11_goesOn (μ 72)) ((zhs μ 67 ((upd (μ 67) 0 0)))) t_X11_sorr_6 ml_X11_155 mo_X11_goesOn hh_67 rfl (Nat.le_of_ble_eq_true rfl) (e_X11_goesOn) (Nat.le_of_ble_eq_true rfl) rfl rfl ?_
  refine pv_if_eq t_X11_sorr_9 (fun c9 => ?_) (fun c9 => ?_)
  · skip
    refine pv_ldc t_X11_sorr_25 kc_X11_206 ?_
    exact pv_ireti t_X11_sorr_27 rfl (by unfold a_X11_sorr2; rw [if_pos c9]) (Prod.ext rfl (by have e67 : w_X11_sorr2_67 (μ 67) = (upd (μ 67) 0 0) := (by unfold w_X11_sorr2_67; rfl); have e74 : w_X11_sorr2_74 (μ 67) (μ 72) (μ 74) = (μ 74) := (by unfold w_X11_sorr2_74; rw [if_pos c9]); have e72 : w_X11_sorr2_72 (μ 67) (μ 69) (μ 70) (μ 72) = (μ 72) := (by unfold w_X11_sorr2_72; rw [if_pos c9]); show _ = (zhs (zhs (zhs μ 67 (w_X11_sorr2_67 (μ 67))) 74 (w_X11_sorr2_74 (μ 67) (μ 72) (μ 74))) 72 (w_X11_sorr2_72 (μ 67) (μ 69) (μ 70) (μ 72))); symm; rw [e67, e74, e72]; rw [zhs_i2 (ν := (zhs μ 67 ((upd (μ 67) 0 0)))) (k := 74) (g := (μ 74)) rfl, zhs_i2 (ν := (zhs μ 67 ((upd (μ 67) 0 0)))) (k := 72) (g := (μ 72)) rfl]))
  · skip
    obtain ⟨hR, hU⟩ := hg c9
    have hO := hR.1
    have hs1 := hR.1.2.1.1
    refine pv_aload_n (i := 0) t_X11_sorr_12 rfl rfl ?_
    refine pv_aload_n (i := 0) t_X11_sorr_13 rfl rfl ?_
    refine pv_getR t_X11_sorr_14 fl_X11_26 hh_67 rfl ?_
    refine pv_bipush (v := 9) t_X11_sorr_17 zb_9 ?_
    refine sv_V2 (a_X11_canTurn_72 ((upd (μ 67) 0 0)) (μ 72) 9) ((zhs μ 67 ((upd (μ 67) 0 0)))) t_X11_sorr_19 ml_X11_202 mo_X11_canTurn hh_67 rfl (Nat.le_of_ble_eq_true rfl) (e_X11_canTurn_72 (by repeat (first | exact hO | refine OB.u ?_ (by unfold okW; omega)))) (Nat.le_of_ble_eq_true rfl) rfl rfl ?_
    refine pv_if_ne t_X11_sorr_22 (fun c22 => ?_) (fun c22 => ?_)
    · skip
      refine pv_aload_n (i := 0) t_X11_sorr_28 rfl rfl ?_
      refine pv_getR t_X11_sorr_29 fl_X11_26 hh_67 rfl ?_
      refine pv_bipush (v := 24) t_X11_sorr_32 zb_24 ?_
      refine sv_iald ((μ 72) 24) t_X11_sorr_34 (Or.inl hh_72) (zin (by decide)) rfl ?_
      refine pv_istore_n (i := 1) t_X11_sorr_35 rfl (Nat.le_of_ble_eq_true rfl) ?_
      refine pv_aload_n (i := 0) t_X11_sorr_36 rfl rfl ?_
      refine pv_bipush (v := 9) t_X11_sorr_37 zb_9 ?_
      refine sv_WV1 ((zhs (zhs (zhs μ 67 ((upd (μ 67) 0 0))) 74 (w_X11_does_74 (μ 72) (μ 74))) 72 (w_X11_does_72 (μ 69) (μ 70) (μ 72) 9))) t_X11_sorr_39 ml_X11_207 mo_X11_does hh_67 rfl (Nat.le_of_ble_eq_true rfl) (e_X11_does hT hR hU (Or.inl rfl)) (Nat.le_of_ble_eq_true rfl) rfl ?_
      refine pv_aload_n (i := 0) t_X11_sorr_42 rfl rfl ?_
      refine pv_getR t_X11_sorr_43 fl_X11_26 hh_67 rfl ?_
      refine pv_bipush (v := 29) t_X11_sorr_46 zb_29 ?_
      refine pv_iload_n (i := 1) t_X11_sorr_48 rfl rfl ?_
      refine pv_iadd t_X11_sorr_49 ?_
      refine sv_iald ((w_X11_does_72 (μ 69) (μ 70) (μ 72) 9) ((29 + ((μ 72) 24).toNatClampNeg))) t_X11_sorr_50 (Or.inl hh_72) (ixi (k := (29 + ((μ 72) 24).toNatClampNeg)) (nIa rfl (nb_k hR.1.2.1)) (by omega) (by decide)) ((ixe (k := (29 + ((μ 72) 24).toNatClampNeg)) (nIa rfl (nb_k hR.1.2.1)) (by omega)).trans (by first | rfl | (simp only [zhs_s, pk_us]; done) | (simp [zhs, upd]; done))) ?_
      exact pv_ireti t_X11_sorr_51 rfl (by unfold a_X11_sorr2; rw [if_neg c9, if_neg c22]) (Prod.ext rfl (by have e67 : w_X11_sorr2_67 (μ 67) = (upd (μ 67) 0 0) := (by unfold w_X11_sorr2_67; rfl); have e74 : w_X11_sorr2_74 (μ 67) (μ 72) (μ 74) = w_X11_does_74 (μ 72) (μ 74) := (by unfold w_X11_sorr2_74; rw [if_neg c9, if_neg c22]); have e72 : w_X11_sorr2_72 (μ 67) (μ 69) (μ 70) (μ 72) = w_X11_does_72 (μ 69) (μ 70) (μ 72) 9 := (by unfold w_X11_sorr2_72; rw [if_neg c9, if_neg c22]); show _ = (zhs (zhs (zhs μ 67 (w_X11_sorr2_67 (μ 67))) 74 (w_X11_sorr2_74 (μ 67) (μ 72) (μ 74))) 72 (w_X11_sorr2_72 (μ 67) (μ 69) (μ 70) (μ 72))); symm; rw [e67, e74, e72]))
    · skip
      refine pv_ldc t_X11_sorr_25 kc_X11_206 ?_
      exact pv_ireti t_X11_sorr_27 rfl (by unfold a_X11_sorr2; rw [if_neg c9, if_pos c22]) (Prod.ext rfl (by have e67 : w_X11_sorr2_67 (μ 67) = (upd (μ 67) 0 0) := (by unfold w_X11_sorr2_67; rfl); have e74 : w_X11_sorr2_74 (μ 67) (μ 72) (μ 74) = (μ 74) := (by unfold w_X11_sorr2_74; rw [if_neg c9, if_pos c22]); have e72 : w_X11_sorr2_72 (μ 67) (μ 69) (μ 70) (μ 72) = (μ 72) := (by unfold w_X11_sorr2_72; rw [if_neg c9, if_pos c22]); show _ = (zhs (zhs (zhs μ 67 (w_X11_sorr2_67 (μ 67))) 74 (w_X11_sorr2_74 (μ 67) (μ 72) (μ 74))) 72 (w_X11_sorr2_72 (μ 67) (μ 69) (μ 70) (μ 72))); symm; rw [e67, e74, e72]; rw [zhs_i2 (ν := (zhs μ 67 ((upd (μ 67) 0 0)))) (k := 74) (g := (μ 74)) rfl, zhs_i2 (ν := (zhs μ 67 ((upd (μ 67) 0 0)))) (k := 72) (g := (μ 72)) rfl]))
def a_X11_greatest2 (f70 : Nat → Int32) (f72 : Nat → Int32) (x : Int32) (nc : Nat) : Int32 := (if (a_X11_in x 0 1) = 0 then (-1000000002) else (if (a_X11_goesOn f72) = 0 then (-1000000003) else (if ((ggS f70 f72 ((-1)) nc)) = ((-1)) then (ggS f70 f72 ((-1)) nc) else (if x = 0 then (ggS f70 f72 ((-1)) nc) else a_X11_effectNow f70 f72 (((ggS f70 f72 ((-1)) nc)).toNatClampNeg)))))
def w_X11_greatest2_67 (f67 : Nat → Int32) (f72 : Nat → Int32) (x : Int32) : Nat → Int32 := (if (a_X11_in x 0 1) = 0 then (upd f67 0 0) else (if (a_X11_goesOn f72) = 0 then (upd f67 0 0) else ((upd f67 0 0))))
theorem e_X11_greatest2 {l : Launch} {X : zX} {d : Nat} {μ : zH} {nc : Nat} {x : Int32} (hnc : μ 67 11 = nI nc) (hc8 : nc ≤ 8) (hT : ∀ c, c < 8 → nb (μ 70 (5 * c)) 4) (hTm : ∀ i, 33 ≤ i → i < 41 → nb (μ 72 i) 100) (hg : ¬ a_X11_goesOn (μ 72) = 0 → nb (μ 72 20) 4 ∧ nb (μ 72 21) 4) (hS : nb (μ 72 24) 2) : zRn l X mi_X11_greatest (d + 9) [.inr 67, .inl (x)] (zSH, μ) (some (.inl (a_X11_greatest2 (μ 70) (μ 72) x nc))) (zSH, (zhs μ 67 (w_X11_greatest2_67 (μ 67) (μ 72) x))) := by
  refine pv_aload_n (i := 0) t_X11_greatest_0 rfl rfl ?_
  refine pv_iconst (v := 0) t_X11_greatest_1 zi_0 ?_
  refine sv_putI ((zhs μ 67 ((upd (μ 67) 0 0)))) t_X11_greatest_2 fl_X11_69 zfn_10_0 hh_67 rfl rfl ?_
  refine pv_iload_n (i := 1) t_X11_greatest_5 rfl rfl ?_
  refine pv_iconst (v := 0) t_X11_greatest_6 zi_0 ?_
  refine pv_iconst (v := 1) t_X11_greatest_7 zi_1 ?_
  refine sv_S3 (a_X11_in x 0 1) ((zhs μ 67 ((upd (μ 67) 0 0)))) t_X11_greatest_8 ml_X11_72 mo_X11_in (Nat.le_of_ble_eq_true rfl) (e_X11_in) (Nat.le_of_ble_eq_true rfl) rfl rfl ?_
  refine pv_if_ne t_X11_greatest_11 (fun c11 => ?_) (fun c11 => ?_)
  · skip
    refine pv_aload_n (i := 0) t_X11_greatest_17 rfl rfl ?_
    refine sv_V0 (a_X11_goesOn (μ 72)) ((zhs μ 67 ((upd (μ 67) 0 0)))) t_X11_greatest_18 ml_X11_155 mo_X11_goesOn hh_67 rfl (Nat.le_of_ble_eq_true rfl) (e_X11_goesOn) (Nat.le_of_ble_eq_true rfl) rfl rfl ?_
    refine pv_if_ne t_X11_greatest_21 (fun c21 => ?_) (fun c21 => ?_)
    · skip
      obtain ⟨hA, hB⟩ := hg c21
      refine pv_iconst (v := -1) t_X11_greatest_27 zi_m1 ?_
      refine pv_istore_n (i := 2) t_X11_greatest_28 rfl (Nat.le_of_ble_eq_true rfl) ?_
      refine pv_iconst (v := 0) t_X11_greatest_29 zi_0 ?_
      refine pv_istore_n (i := 3) t_X11_greatest_30 rfl (Nat.le_of_ble_eq_true rfl) ?_
      refine pv_loc (lv' := [(0, .inr 67), (1, .inl x), (2, .inl ((-1))), (3, .inl 0)]) ⟨rfl, rfl, rfl, rfl, trivial⟩ ?_
      refine lp_ggS (x := x) (g67 := ((upd (μ 67) 0 0))) (z0 := (-1)) hnc hc8 hT hTm hA hB hS rfl ?_ (nc + 1) 0 (by omega) (by omega) _ _ rfl rfl
      refine pv_iload_n (i := 2) t_X11_greatest_112 rfl rfl ?_
      refine pv_iconst (v := -1) t_X11_greatest_113 zi_m1 ?_
      refine pv_icmp_eq t_X11_greatest_114 (fun c114 => ?_) (fun c114 => ?_)
      · skip
        refine pv_iload_n (i := 2) t_X11_greatest_121 rfl rfl ?_
        refine pv_goto t_X11_greatest_122 ?_
        exact pv_ireti t_X11_greatest_130 rfl (by unfold a_X11_greatest2; rw [if_neg c11, if_neg c21, if_pos c114]) (Prod.ext rfl (by have e67 : w_X11_greatest2_67 (μ 67) (μ 72) x = ((upd (μ 67) 0 0)) := (by unfold w_X11_greatest2_67; rw [if_neg c11, if_neg c21]); show _ = (zhs μ 67 (w_X11_greatest2_67 (μ 67) (μ 72) x)); symm; rw [e67]))
      · skip
        refine pv_iload_n (i := 1) t_X11_greatest_117 rfl rfl ?_
        refine pv_if_ne t_X11_greatest_118 (fun c118 => ?_) (fun c118 => ?_)
        · skip
          have hg := (ggI (f70 := (μ 70)) (f72 := (μ 72)) nc hc8).resolve_left c114
          have hg1 := hg.1
          refine pv_aload_n (i := 0) t_X11_greatest_125 rfl rfl ?_
          refine pv_iload_n (i := 2) t_X11_greatest_126 rfl rfl ?_
          refine sv_V1 (a_X11_effectNow (μ 70) (μ 72) (((ggS (μ 70) (μ 72) ((-1)) nc)).toNatClampNeg)) ((zhs μ 67 (((upd (μ 67) 0 0))))) t_X11_greatest_127 ml_X11_241 mo_X11_effectNow hh_67 rfl (Nat.le_of_ble_eq_true rfl) (zas (lcS (lcI (k := ((ggS (μ 70) (μ 72) ((-1)) nc)).toNatClampNeg) hg.2 rfl)) (e_X11_effectNow (c := ((ggS (μ 70) (μ 72) ((-1)) nc)).toNatClampNeg) (by omega) hT hTm hA hB hS)) (Nat.le_of_ble_eq_true rfl) rfl rfl ?_
          exact pv_ireti t_X11_greatest_130 rfl (by unfold a_X11_greatest2; rw [if_neg c11, if_neg c21, if_neg c114, if_neg c118]) (Prod.ext rfl (by have e67 : w_X11_greatest2_67 (μ 67) (μ 72) x = ((upd (μ 67) 0 0)) := (by unfold w_X11_greatest2_67; rw [if_neg c11, if_neg c21]); show _ = (zhs μ 67 (w_X11_greatest2_67 (μ 67) (μ 72) x)); symm; rw [e67]))
        · skip
          refine pv_iload_n (i := 2) t_X11_greatest_121 rfl rfl ?_
          refine pv_goto t_X11_greatest_122 ?_
          exact pv_ireti t_X11_greatest_130 rfl (by unfold a_X11_greatest2; rw [if_neg c11, if_neg c21, if_neg c114, if_pos c118]) (Prod.ext rfl (by have e67 : w_X11_greatest2_67 (μ 67) (μ 72) x = ((upd (μ 67) 0 0)) := (by unfold w_X11_greatest2_67; rw [if_neg c11, if_neg c21]); show _ = (zhs μ 67 (w_X11_greatest2_67 (μ 67) (μ 72) x)); symm; rw [e67]))
    · skip
      refine pv_ldc t_X11_greatest_24 kc_X11_206 ?_
      exact pv_ireti t_X11_greatest_26 rfl (by unfold a_X11_greatest2; rw [if_neg c11, if_pos c21]) (Prod.ext rfl (by have e67 : w_X11_greatest2_67 (μ 67) (μ 72) x = (upd (μ 67) 0 0) := (by unfold w_X11_greatest2_67; rw [if_neg c11, if_pos c21]); show _ = (zhs μ 67 (w_X11_greatest2_67 (μ 67) (μ 72) x)); symm; rw [e67]))
  · skip
    refine pv_ldc t_X11_greatest_14 kc_X11_76 ?_
    exact pv_ireti t_X11_greatest_16 rfl (by unfold a_X11_greatest2; rw [if_pos c11]) (Prod.ext rfl (by have e67 : w_X11_greatest2_67 (μ 67) (μ 72) x = (upd (μ 67) 0 0) := (by unfold w_X11_greatest2_67; rw [if_pos c11]); show _ = (zhs μ 67 (w_X11_greatest2_67 (μ 67) (μ 72) x)); symm; rw [e67]))
def a_X11_said2 (f67 : Nat → Int32) (f69 : Nat → Int32) (f70 : Nat → Int32) (f72 : Nat → Int32) (f79 : Nat → Int32) (f85 : Nat → Int32) (x : Int32) (kc : Nat) (nw : Nat) : Int32 := (if (a_X11_goesOn f72) = 0 then (-1000000003) else if x = ((-1)) then ((sdL f69 f70 f72 f79 (((upd f67 0 0))) x kc ((0, (-1), f85)) nw).1 : Int32) else ((sdL f69 f70 f72 f79 (((upd f67 0 0))) x kc ((0, (-1), f85)) nw).2.1 : Int32))
def w_X11_said2_67 (f67 : Nat → Int32) (f72 : Nat → Int32) : Nat → Int32 := (if (a_X11_goesOn f72) = 0 then (upd f67 0 0) else ((upd f67 0 0)))
def w_X11_said2_85 (f67 : Nat → Int32) (f69 : Nat → Int32) (f70 : Nat → Int32) (f72 : Nat → Int32) (f79 : Nat → Int32) (f85 : Nat → Int32) (x : Int32) (kc : Nat) (nw : Nat) : Nat → Int32 := (if (a_X11_goesOn f72) = 0 then f85 else (sdL f69 f70 f72 f79 (((upd f67 0 0))) x kc ((0, (-1), f85)) nw).2.2)
theorem e_X11_said2 {l : Launch} {X : zX} {d : Nat} {μ : zH} {kc nw : Nat} {x : Int32} (hkc : μ 67 26 = nI kc) (hk4 : kc ≤ 4) (hT : ∀ c, c < 8 → nb (μ 70 (5 * c)) 4) (hTm : ∀ i, 33 ≤ i → i < 41 → nb (μ 72 i) 100) (hg : ¬ a_X11_goesOn (μ 72) = 0 → nb (μ 72 20) 4 ∧ nb (μ 72 21) 4) (hS : nb (μ 72 24) 2) (hnw : (1 : Int32) <<< ((3 * nI kc) &&& 31) = nI nw) (hnw9 : nw ≤ 4096) : zRn l X mi_X11_said (d + 9) [.inr 67, .inl (x)] (zSH, μ) (some (.inl (a_X11_said2 (μ 67) (μ 69) (μ 70) (μ 72) (μ 79) (μ 85) x kc nw))) (zSH, (zhs (zhs μ 67 (w_X11_said2_67 (μ 67) (μ 72))) 85 (w_X11_said2_85 (μ 67) (μ 69) (μ 70) (μ 72) (μ 79) (μ 85) x kc nw))) := by
  refine pv_aload_n (i := 0) t_X11_said_0 rfl rfl ?_
  refine pv_iconst (v := 0) t_X11_said_1 zi_0 ?_
  refine sv_putI ((zhs μ 67 ((upd (μ 67) 0 0)))) t_X11_said_2 fl_X11_69 zfn_10_0 hh_67 rfl rfl ?_
  refine pv_aload_n (i := 0) t_X11_said_5 rfl rfl ?_
  refine sv_V0 (a_X11_goesOn (μ 72)) ((zhs μ 67 ((upd (μ 67) 0 0)))) t_X11_said_6 ml_X11_155 mo_X11_goesOn hh_67 rfl (Nat.le_of_ble_eq_true rfl) (e_X11_goesOn) (Nat.le_of_ble_eq_true rfl) rfl rfl ?_
  refine pv_if_ne t_X11_said_9 (fun c9 => ?_) (fun c9 => ?_)
  · skip
    obtain ⟨hA, hB⟩ := hg c9
    refine pv_iconst (v := 0) t_X11_said_15 zi_0 ?_
    refine pv_istore_n (i := 2) t_X11_said_16 rfl (Nat.le_of_ble_eq_true rfl) ?_
    refine pv_iconst (v := -1) t_X11_said_17 zi_m1 ?_
    refine pv_istore_n (i := 3) t_X11_said_18 rfl (Nat.le_of_ble_eq_true rfl) ?_
    refine pv_iconst (v := 0) t_X11_said_19 zi_0 ?_
    refine pv_istore t_X11_said_20 (Nat.le_of_ble_eq_true rfl) ?_
    refine pv_loc (lv' := [(0, .inr 67), (1, .inl x), (2, .inl 0), (3, .inl ((-1))), (4, .inl 0)]) ⟨rfl, rfl, rfl, rfl, rfl, trivial⟩ ?_
    refine zst (S2 := (zSH, (zhs (zhs μ 67 ((upd (μ 67) 0 0))) 85 (μ 85)))) (by symm; rw [zhs_i2 (ν := (zhs μ 67 ((upd (μ 67) 0 0)))) (k := 85) (g := (μ 85)) rfl]) ?_
    refine lp_sdL (x := x) (kc := kc) (nw := nw) (g67 := ((upd (μ 67) 0 0))) (z0 := (0, (-1), (μ 85))) hkc hk4 hT hTm hA hB hS hnw hnw9 ?_ (nw + 1) 0 (by omega) (by omega) _ _ _ _ rfl rfl
    refine pv_iload_n (i := 1) t_X11_said_82 rfl rfl ?_
    refine pv_iconst (v := -1) t_X11_said_83 zi_m1 ?_
    refine sv_phi (c := x = ((-1))) (A := (sdL (μ 69) (μ 70) (μ 72) (μ 79) (((upd (μ 67) 0 0))) x kc ((0, (-1), (μ 85))) nw).1) (B := (sdL (μ 69) (μ 70) (μ 72) (μ 79) (((upd (μ 67) 0 0))) x kc ((0, (-1), (μ 85))) nw).2.1) (J := 92) (lv := [(0, .inr 67), (1, .inl x), (2, .inl ((sdL (μ 69) (μ 70) (μ 72) (μ 79) (((upd (μ 67) 0 0))) x kc ((0, (-1), (μ 85))) nw).1)), (3, .inl ((sdL (μ 69) (μ 70) (μ 72) (μ 79) (((upd (μ 67) 0 0))) x kc ((0, (-1), (μ 85))) nw).2.1)), (4, .inl ((nI nw)))]) (st := []) (S := (zSH, (zhs (zhs μ 67 (((upd (μ 67) 0 0)))) 85 ((sdL (μ 69) (μ 70) (μ 72) (μ 79) (((upd (μ 67) 0 0))) x kc ((0, (-1), (μ 85))) nw).2.2)))) (fun kT kF => ?_) ?_
    · skip
      refine pv_icmp_ne t_X11_said_84 (fun c84 => ?_) (fun c84 => ?_)
      · skip
        refine pv_iload_n (i := 3) t_X11_said_91 rfl rfl ?_
        exact kF c84
      · skip
        refine pv_iload_n (i := 2) t_X11_said_87 rfl rfl ?_
        refine pv_goto t_X11_said_88 ?_
        exact kT c84
    exact pv_ireti t_X11_said_92 rfl (by unfold a_X11_said2; rw [if_neg c9]) (Prod.ext rfl (by have e67 : w_X11_said2_67 (μ 67) (μ 72) = ((upd (μ 67) 0 0)) := (by unfold w_X11_said2_67; rw [if_neg c9]); have e85 : w_X11_said2_85 (μ 67) (μ 69) (μ 70) (μ 72) (μ 79) (μ 85) x kc nw = (sdL (μ 69) (μ 70) (μ 72) (μ 79) (((upd (μ 67) 0 0))) x kc ((0, (-1), (μ 85))) nw).2.2 := (by unfold w_X11_said2_85; rw [if_neg c9]); show _ = (zhs (zhs μ 67 (w_X11_said2_67 (μ 67) (μ 72))) 85 (w_X11_said2_85 (μ 67) (μ 69) (μ 70) (μ 72) (μ 79) (μ 85) x kc nw)); symm; rw [e67, e85]))
  · skip
    refine pv_ldc t_X11_said_12 kc_X11_206 ?_
    exact pv_ireti t_X11_said_14 rfl (by unfold a_X11_said2; rw [if_pos c9]) (Prod.ext rfl (by have e67 : w_X11_said2_67 (μ 67) (μ 72) = (upd (μ 67) 0 0) := (by unfold w_X11_said2_67; rw [if_pos c9]); have e85 : w_X11_said2_85 (μ 67) (μ 69) (μ 70) (μ 72) (μ 79) (μ 85) x kc nw = (μ 85) := (by unfold w_X11_said2_85; rw [if_pos c9]); show _ = (zhs (zhs μ 67 (w_X11_said2_67 (μ 67) (μ 72))) 85 (w_X11_said2_85 (μ 67) (μ 69) (μ 70) (μ 72) (μ 79) (μ 85) x kc nw)); symm; rw [e67, e85]; rw [zhs_i2 (ν := (zhs μ 67 ((upd (μ 67) 0 0)))) (k := 85) (g := (μ 85)) rfl]))
def a_X11_surely2 (f67 : Nat → Int32) (f69 : Nat → Int32) (f70 : Nat → Int32) (f72 : Nat → Int32) (f79 : Nat → Int32) (f85 : Nat → Int32) (kc : Nat) (nw : Nat) : Int32 := (if (a_X11_goesOn f72) = 0 then (-1000000003) else if ((suO f69 f70 f72 f79 (((upd f67 0 0))) kc (((-1), f85)) nw).1) = ((-1)) then (0 : Int32) else ((suO f69 f70 f72 f79 (((upd f67 0 0))) kc (((-1), f85)) nw).1 : Int32))
def w_X11_surely2_67 (f67 : Nat → Int32) (f72 : Nat → Int32) : Nat → Int32 := (if (a_X11_goesOn f72) = 0 then (upd f67 0 0) else ((upd f67 0 0)))
def w_X11_surely2_85 (f67 : Nat → Int32) (f69 : Nat → Int32) (f70 : Nat → Int32) (f72 : Nat → Int32) (f79 : Nat → Int32) (f85 : Nat → Int32) (kc : Nat) (nw : Nat) : Nat → Int32 := (if (a_X11_goesOn f72) = 0 then f85 else (suO f69 f70 f72 f79 (((upd f67 0 0))) kc (((-1), f85)) nw).2)
theorem e_X11_surely2 {l : Launch} {X : zX} {d : Nat} {μ : zH} {kc nw : Nat} (hkc : μ 67 26 = nI kc) (hk4 : kc ≤ 4) (hT : ∀ c, c < 8 → nb (μ 70 (5 * c)) 4) (hTm : ∀ i, 33 ≤ i → i < 41 → nb (μ 72 i) 100) (hg : ¬ a_X11_goesOn (μ 72) = 0 → nb (μ 72 20) 4 ∧ nb (μ 72 21) 4) (hS : nb (μ 72 24) 2) (hnw : (1 : Int32) <<< ((3 * nI kc) &&& 31) = nI nw) (hnw9 : nw ≤ 4096) : zRn l X mi_X11_surely (d + 9) [.inr 67] (zSH, μ) (some (.inl (a_X11_surely2 (μ 67) (μ 69) (μ 70) (μ 72) (μ 79) (μ 85) kc nw))) (zSH, (zhs (zhs μ 67 (w_X11_surely2_67 (μ 67) (μ 72))) 85 (w_X11_surely2_85 (μ 67) (μ 69) (μ 70) (μ 72) (μ 79) (μ 85) kc nw))) := by
  refine pv_aload_n (i := 0) t_X11_surely_0 rfl rfl ?_
  refine pv_iconst (v := 0) t_X11_surely_1 zi_0 ?_
  refine sv_putI ((zhs μ 67 ((upd (μ 67) 0 0)))) t_X11_surely_2 fl_X11_69 zfn_10_0 hh_67 rfl rfl ?_
  refine pv_aload_n (i := 0) t_X11_surely_5 rfl rfl ?_
  refine sv_V0 (a_X11_goesOn (μ 72)) ((zhs μ 67 ((upd (μ 67) 0 0)))) t_X11_surely_6 ml_X11_155 mo_X11_goesOn hh_67 rfl (Nat.le_of_ble_eq_true rfl) (e_X11_goesOn) (Nat.le_of_ble_eq_true rfl) rfl rfl ?_
  refine pv_if_ne t_X11_surely_9 (fun c9 => ?_) (fun c9 => ?_)
  · skip
    obtain ⟨hA, hB⟩ := hg c9
    refine pv_iconst (v := -1) t_X11_surely_15 zi_m1 ?_
    refine pv_istore_n (i := 1) t_X11_surely_16 rfl (Nat.le_of_ble_eq_true rfl) ?_
    refine pv_iconst (v := 0) t_X11_surely_17 zi_0 ?_
    refine pv_istore_n (i := 2) t_X11_surely_18 rfl (Nat.le_of_ble_eq_true rfl) ?_
    refine pv_loc (lv' := [(0, .inr 67), (1, .inl ((-1))), (2, .inl 0)]) ⟨rfl, rfl, rfl, trivial⟩ ?_
    refine zst (S2 := (zSH, (zhs (zhs μ 67 ((upd (μ 67) 0 0))) 85 (μ 85)))) (by symm; rw [zhs_i2 (ν := (zhs μ 67 ((upd (μ 67) 0 0)))) (k := 85) (g := (μ 85)) rfl]) ?_
    refine lp_suO (kc := kc) (nw := nw) (g67 := ((upd (μ 67) 0 0))) (z0 := ((-1), (μ 85))) hkc hk4 hT hTm hA hB hS hnw hnw9 ?_ (nw + 1) 0 (by omega) (by omega) _ _ _ rfl rfl
    refine pv_iload_n (i := 1) t_X11_surely_90 rfl rfl ?_
    refine pv_iconst (v := -1) t_X11_surely_91 zi_m1 ?_
    refine sv_phi (c := ((suO (μ 69) (μ 70) (μ 72) (μ 79) (((upd (μ 67) 0 0))) kc (((-1), (μ 85))) nw).1) = ((-1))) (A := 0) (B := (suO (μ 69) (μ 70) (μ 72) (μ 79) (((upd (μ 67) 0 0))) kc (((-1), (μ 85))) nw).1) (J := 100) (lv := [(0, .inr 67), (1, .inl ((suO (μ 69) (μ 70) (μ 72) (μ 79) (((upd (μ 67) 0 0))) kc (((-1), (μ 85))) nw).1)), (2, .inl ((nI nw)))]) (st := []) (S := (zSH, (zhs (zhs μ 67 (((upd (μ 67) 0 0)))) 85 ((suO (μ 69) (μ 70) (μ 72) (μ 79) (((upd (μ 67) 0 0))) kc (((-1), (μ 85))) nw).2)))) (fun kT kF => ?_) ?_
    · skip
      refine pv_icmp_ne t_X11_surely_92 (fun c92 => ?_) (fun c92 => ?_)
      · skip
        refine pv_iload_n (i := 1) t_X11_surely_99 rfl rfl ?_
        exact kF c92
      · skip
        refine pv_iconst (v := 0) t_X11_surely_95 zi_0 ?_
        refine pv_goto t_X11_surely_96 ?_
        exact kT c92
    exact pv_ireti t_X11_surely_100 rfl (by unfold a_X11_surely2; rw [if_neg c9]) (Prod.ext rfl (by have e67 : w_X11_surely2_67 (μ 67) (μ 72) = ((upd (μ 67) 0 0)) := (by unfold w_X11_surely2_67; rw [if_neg c9]); have e85 : w_X11_surely2_85 (μ 67) (μ 69) (μ 70) (μ 72) (μ 79) (μ 85) kc nw = (suO (μ 69) (μ 70) (μ 72) (μ 79) (((upd (μ 67) 0 0))) kc (((-1), (μ 85))) nw).2 := (by unfold w_X11_surely2_85; rw [if_neg c9]); show _ = (zhs (zhs μ 67 (w_X11_surely2_67 (μ 67) (μ 72))) 85 (w_X11_surely2_85 (μ 67) (μ 69) (μ 70) (μ 72) (μ 79) (μ 85) kc nw)); symm; rw [e67, e85]))
  · skip
    refine pv_ldc t_X11_surely_12 kc_X11_206 ?_
    exact pv_ireti t_X11_surely_14 rfl (by unfold a_X11_surely2; rw [if_pos c9]) (Prod.ext rfl (by have e67 : w_X11_surely2_67 (μ 67) (μ 72) = (upd (μ 67) 0 0) := (by unfold w_X11_surely2_67; rw [if_pos c9]); have e85 : w_X11_surely2_85 (μ 67) (μ 69) (μ 70) (μ 72) (μ 79) (μ 85) kc nw = (μ 85) := (by unfold w_X11_surely2_85; rw [if_pos c9]); show _ = (zhs (zhs μ 67 (w_X11_surely2_67 (μ 67) (μ 72))) 85 (w_X11_surely2_85 (μ 67) (μ 69) (μ 70) (μ 72) (μ 79) (μ 85) kc nw)); symm; rw [e67, e85]; rw [zhs_i2 (ν := (zhs μ 67 ((upd (μ 67) 0 0)))) (k := 85) (g := (μ 85)) rfl]))
