theorem lp_duL {l : Launch} {X : zX} {d : Nat} {μ : zH} {x : Int32} {w : Int32} {g67 : Nat → Int32} {f72 : Nat → Int32} {r : Option zV} {S' : zS} (hk : zEv l X mi_X11_duel (d + 5) 51 [(0, .inr 67), (1, .inl x), (2, .inl w), (3, .inl (nI 41))] [] (zSH, (zhs (zhs μ 67 g67) 72 (cpR f72 (fun _ => 0) (20) (41)))) 0 0 r S') : ∀ j i : Nat, i + j = 41 + 1 → 20 ≤ i → i ≤ 41 → ∀ (y : Int32) (g72 : Nat → Int32), y = nI i → g72 = cpR f72 (fun _ => 0) (20) (i) → zEv l X mi_X11_duel (d + 5) 32 [(0, .inr 67), (1, .inl x), (2, .inl w), (3, .inl y)] [] (zSH, (zhs (zhs μ 67 g67) 72 g72)) 0 0 r S' := by
  intro j
  induction j with
  | zero => intros; omega
  | succ j ih =>
    intro i hij hst hle y g72 hy hg
    subst hy
    refine pv_iload_n (i := 3) t_X11_duel_32 rfl rfl ?_
    refine pv_bipush (v := 41) t_X11_duel_33 zb_41 ?_
    refine pv_icmp_ge t_X11_duel_35 (fun c35 => ?_) (fun c35 => ?_)
    · skip
      have hie : i = 41 := by have := (nI_leI (a := 41) (by omega) (by omega)).mp c35; omega
      subst hie
      rw [hg]
      exact hk
    · skip
      have hin : i < 41 := Nat.lt_of_not_le (fun q => c35 (nI_le (a := 41) q (by omega)))
      refine pv_aload_n (i := 0) t_X11_duel_38 rfl rfl ?_
      refine pv_getR t_X11_duel_39 fl_X11_26 hh_67 rfl ?_
      refine pv_iload_n (i := 3) t_X11_duel_42 rfl rfl ?_
      refine pv_iconst (v := 0) t_X11_duel_43 zi_0 ?_
      refine sv_iast ((zhs (zhs μ 67 g67) 72 ((upd g72 i 0)))) t_X11_duel_44 hh_72 (ixi (k := i) rfl (by omega) (by decide)) (by rw [ixc (x := (nI i)) (k := i) rfl (by omega), zhs_hs] <;> (first | rfl | (congr 1; funext k_; simp only [upd, zhs_s]; ((repeat' split) <;> first | rfl | omega | (subst_vars; contradiction) | (simp_all; done))))) ?_
      refine pv_iinc (v := 1) t_X11_duel_45 rfl zi_1 ?_
      refine pv_goto t_X11_duel_48 ?_
      refine pv_loc (lv' := [(0, _), (1, _), (2, _), (3, _)]) ⟨rfl, rfl, rfl, rfl, trivial⟩ ?_
      refine ih (i + 1) (by omega) (by omega) (by omega) _ _ (nI_1 i) ?_
      rw [hg]
      exact cpR_s (by omega) rfl (by omega)
def a_X11_duel (f67 : Nat → Int32) (x : Int32) (w : Int32) : Int32 := (if (a_X11_isDuellist ((upd f67 0 0)) x) = 0 then (-1000000001) else (if (a_X11_isDuellist ((upd f67 0 0)) w) = 0 then (-1000000001) else (if x = w then (-1000000001) else x)))
def w_X11_duel_67 (f67 : Nat → Int32) (x : Int32) (w : Int32) : Nat → Int32 := (if (a_X11_isDuellist ((upd f67 0 0)) x) = 0 then (upd f67 0 0) else (if (a_X11_isDuellist ((upd f67 0 0)) w) = 0 then (upd f67 0 0) else (if x = w then (upd f67 0 0) else ((upd f67 0 0)))))
def w_X11_duel_72 (f67 : Nat → Int32) (f72 : Nat → Int32) (x : Int32) (w : Int32) : Nat → Int32 := (if (a_X11_isDuellist ((upd f67 0 0)) x) = 0 then f72 else (if (a_X11_isDuellist ((upd f67 0 0)) w) = 0 then f72 else (if x = w then f72 else (upd (upd (cpR f72 (fun _ => 0) (20) (41)) 20 x) 21 w))))
theorem e_X11_duel {l : Launch} {X : zX} {d : Nat} {μ : zH} {x : Int32} {w : Int32} : zRn l X mi_X11_duel (d + 5) [.inr 67, .inl (x), .inl (w)] (zSH, μ) (some (.inl (a_X11_duel (μ 67) x w))) (zSH, (zhs (zhs μ 67 (w_X11_duel_67 (μ 67) x w)) 72 (w_X11_duel_72 (μ 67) (μ 72) x w))) := by
  refine pv_aload_n (i := 0) t_X11_duel_0 rfl rfl ?_
  refine pv_iconst (v := 0) t_X11_duel_1 zi_0 ?_
  refine sv_putI ((zhs μ 67 ((upd (μ 67) 0 0)))) t_X11_duel_2 fl_X11_69 zfn_10_0 hh_67 rfl rfl ?_
  refine pv_aload_n (i := 0) t_X11_duel_5 rfl rfl ?_
  refine pv_iload_n (i := 1) t_X11_duel_6 rfl rfl ?_
  refine sv_V1 (a_X11_isDuellist ((upd (μ 67) 0 0)) x) ((zhs μ 67 ((upd (μ 67) 0 0)))) t_X11_duel_7 ml_X11_161 mo_X11_isDuellist hh_67 rfl (Nat.le_of_ble_eq_true rfl) (e_X11_isDuellist) (Nat.le_of_ble_eq_true rfl) rfl rfl ?_
  refine pv_if_eq t_X11_duel_10 (fun c10 => ?_) (fun c10 => ?_)
  · skip
    refine pv_ldc t_X11_duel_26 kc_X11_165 ?_
    exact pv_ireti t_X11_duel_28 rfl (by unfold a_X11_duel; rw [if_pos c10]) (Prod.ext rfl (by have e67 : w_X11_duel_67 (μ 67) x w = (upd (μ 67) 0 0) := (by unfold w_X11_duel_67; rw [if_pos c10]); have e72 : w_X11_duel_72 (μ 67) (μ 72) x w = (μ 72) := (by unfold w_X11_duel_72; rw [if_pos c10]); show _ = (zhs (zhs μ 67 (w_X11_duel_67 (μ 67) x w)) 72 (w_X11_duel_72 (μ 67) (μ 72) x w)); symm; rw [e67, e72]; rw [zhs_i2 (ν := (zhs μ 67 ((upd (μ 67) 0 0)))) (k := 72) (g := (μ 72)) rfl]))
  · skip
    refine pv_aload_n (i := 0) t_X11_duel_13 rfl rfl ?_
    refine pv_iload_n (i := 2) t_X11_duel_14 rfl rfl ?_
    refine sv_V1 (a_X11_isDuellist ((upd (μ 67) 0 0)) w) ((zhs μ 67 ((upd (μ 67) 0 0)))) t_X11_duel_15 ml_X11_161 mo_X11_isDuellist hh_67 rfl (Nat.le_of_ble_eq_true rfl) (e_X11_isDuellist) (Nat.le_of_ble_eq_true rfl) rfl rfl ?_
    refine pv_if_eq t_X11_duel_18 (fun c18 => ?_) (fun c18 => ?_)
    · skip
      refine pv_ldc t_X11_duel_26 kc_X11_165 ?_
      exact pv_ireti t_X11_duel_28 rfl (by unfold a_X11_duel; rw [if_neg c10, if_pos c18]) (Prod.ext rfl (by have e67 : w_X11_duel_67 (μ 67) x w = (upd (μ 67) 0 0) := (by unfold w_X11_duel_67; rw [if_neg c10, if_pos c18]); have e72 : w_X11_duel_72 (μ 67) (μ 72) x w = (μ 72) := (by unfold w_X11_duel_72; rw [if_neg c10, if_pos c18]); show _ = (zhs (zhs μ 67 (w_X11_duel_67 (μ 67) x w)) 72 (w_X11_duel_72 (μ 67) (μ 72) x w)); symm; rw [e67, e72]; rw [zhs_i2 (ν := (zhs μ 67 ((upd (μ 67) 0 0)))) (k := 72) (g := (μ 72)) rfl]))
    · skip
      refine pv_iload_n (i := 1) t_X11_duel_21 rfl rfl ?_
      refine pv_iload_n (i := 2) t_X11_duel_22 rfl rfl ?_
      refine pv_icmp_ne t_X11_duel_23 (fun c23 => ?_) (fun c23 => ?_)
      · skip
        refine pv_bipush (v := 20) t_X11_duel_29 zb_20 ?_
        refine pv_istore_n (i := 3) t_X11_duel_31 rfl (Nat.le_of_ble_eq_true rfl) ?_
        refine pv_loc (lv' := [(0, .inr 67), (1, .inl x), (2, .inl w), (3, .inl 20)]) ⟨rfl, rfl, rfl, rfl, trivial⟩ ?_
        refine zst (S2 := (zSH, (zhs (zhs μ 67 ((upd (μ 67) 0 0))) 72 (μ 72)))) (by symm; rw [zhs_i2 (ν := (zhs μ 67 ((upd (μ 67) 0 0)))) (k := 72) (g := (μ 72)) rfl]) ?_
        refine lp_duL (x := x) (w := w) (g67 := ((upd (μ 67) 0 0))) (f72 := (μ 72))  ?_ (41 + 1 - 20) 20 (by omega) (by omega) (by omega) _ _ rfl (cpR_0 (by omega)).symm
        refine pv_aload_n (i := 0) t_X11_duel_51 rfl rfl ?_
        refine pv_getR t_X11_duel_52 fl_X11_26 hh_67 rfl ?_
        refine pv_bipush (v := 20) t_X11_duel_55 zb_20 ?_
        refine pv_iload_n (i := 1) t_X11_duel_57 rfl rfl ?_
        refine sv_iast ((zhs (zhs μ 67 (((upd (μ 67) 0 0)))) 72 ((upd (cpR (μ 72) (fun _ => 0) (20) (41)) 20 x)))) t_X11_duel_58 hh_72 (zin (by decide)) (by rw [zhs_hs] <;> (first | rfl | (congr 1; funext k_; simp only [upd, zhs_s]; ((repeat' split) <;> first | rfl | omega | (subst_vars; contradiction) | (simp_all; done))))) ?_
        refine pv_aload_n (i := 0) t_X11_duel_59 rfl rfl ?_
        refine pv_getR t_X11_duel_60 fl_X11_26 hh_67 rfl ?_
        refine pv_bipush (v := 21) t_X11_duel_63 zb_21 ?_
        refine pv_iload_n (i := 2) t_X11_duel_65 rfl rfl ?_
        refine sv_iast ((zhs (zhs μ 67 (((upd (μ 67) 0 0)))) 72 ((upd (upd (cpR (μ 72) (fun _ => 0) (20) (41)) 20 x) 21 w)))) t_X11_duel_66 hh_72 (zin (by decide)) (by rw [zhs_hs] <;> (first | rfl | (congr 1; funext k_; simp only [upd, zhs_s]; ((repeat' split) <;> first | rfl | omega | (subst_vars; contradiction) | (simp_all; done))))) ?_
        refine pv_iload_n (i := 1) t_X11_duel_67 rfl rfl ?_
        exact pv_ireti t_X11_duel_68 rfl (by unfold a_X11_duel; rw [if_neg c10, if_neg c18, if_neg c23]) (Prod.ext rfl (by have e67 : w_X11_duel_67 (μ 67) x w = ((upd (μ 67) 0 0)) := (by unfold w_X11_duel_67; rw [if_neg c10, if_neg c18, if_neg c23]); have e72 : w_X11_duel_72 (μ 67) (μ 72) x w = (upd (upd (cpR (μ 72) (fun _ => 0) (20) (41)) 20 x) 21 w) := (by unfold w_X11_duel_72; rw [if_neg c10, if_neg c18, if_neg c23]); show _ = (zhs (zhs μ 67 (w_X11_duel_67 (μ 67) x w)) 72 (w_X11_duel_72 (μ 67) (μ 72) x w)); symm; rw [e67, e72]))
      · skip
        refine pv_ldc t_X11_duel_26 kc_X11_165 ?_
        exact pv_ireti t_X11_duel_28 rfl (by unfold a_X11_duel; rw [if_neg c10, if_neg c18, if_pos c23]) (Prod.ext rfl (by have e67 : w_X11_duel_67 (μ 67) x w = (upd (μ 67) 0 0) := (by unfold w_X11_duel_67; rw [if_neg c10, if_neg c18, if_pos c23]); have e72 : w_X11_duel_72 (μ 67) (μ 72) x w = (μ 72) := (by unfold w_X11_duel_72; rw [if_neg c10, if_neg c18, if_pos c23]); show _ = (zhs (zhs μ 67 (w_X11_duel_67 (μ 67) x w)) 72 (w_X11_duel_72 (μ 67) (μ 72) x w)); symm; rw [e67, e72]; rw [zhs_i2 (ν := (zhs μ 67 ((upd (μ 67) 0 0)))) (k := 72) (g := (μ 72)) rfl]))
