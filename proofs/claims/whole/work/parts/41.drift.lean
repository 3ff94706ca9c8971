theorem rem64' {x : Int32} {k : Nat} (h : x = nI k) (hk : k < 64) : x - x / 64 * 64 = nI k := by
  have h1 : ∀ k, k < 64 → nI k - nI k / 64 * 64 = nI k := by decide +kernel
  rw [h]
  exact h1 _ hk
theorem in_nb1 {v a b : Int32} {n m : Nat} (hb : b.toInt = n) (hn : n < 2 ^ 31) (ha : a.toInt = m) (h : ¬ a_X11_in v a b = 0) : nb v (n + 1) ∧ m ≤ v.toNatClampNeg := by
  obtain ⟨h1, h2⟩ := in_t h
  have h3 : (m : Int) ≤ v.toInt := by rw [← ha]; exact Int32.le_iff_toInt_le.mp h1
  have h0 : ¬ v < 0 := by rw [zlt0]; omega
  have h4 := nb_of hb hn h0 h2
  refine ⟨h4, ?_⟩
  rw [h4.2, nI_toInt (by have := h4.1; omega)] at h3
  omega
theorem nb_nle {x y : Int32} {n m : Nat} (hx : nb x n) (hy : nb y m) (hn : n < 2 ^ 31) (hm : m < 2 ^ 31) (h : x ≤ y) : x.toNatClampNeg ≤ y.toNatClampNeg := by
  rw [hx.2, hy.2] at h
  have := hx.1; have := hy.1
  exact (nI_leI (by omega) (by omega)).mp h
theorem lp_unL {l : Launch} {X : zX} {d : Nat} {μ : zH} {x : Int32} {at0 : Nat} {g67 : Nat → Int32} {f72 : Nat → Int32} (hat : at0 ≤ 4032) {r : Option zV} {S' : zS} (hk : zEv l X mi_X11_undo (d + 5) 84 [(0, .inr 67), (1, .inl x), (2, .inl ((nI at0))), (3, .inl (nI 63))] [] (zSH, (zhs (zhs μ 67 g67) 72 (cpR f72 (fun k => (μ 74) (at0 + k)) (20) (63)))) 0 0 r S') : ∀ j i : Nat, i + j = 63 + 1 → 20 ≤ i → i ≤ 63 → ∀ (y : Int32) (g72 : Nat → Int32), y = nI i → g72 = cpR f72 (fun k => (μ 74) (at0 + k)) (20) (i) → zEv l X mi_X11_undo (d + 5) 58 [(0, .inr 67), (1, .inl x), (2, .inl ((nI at0))), (3, .inl y)] [] (zSH, (zhs (zhs μ 67 g67) 72 g72)) 0 0 r S' := by
  intro j
  induction j with
  | zero => intros; omega
  | succ j ih =>
    intro i hij hst hle y g72 hy hg
    subst hy
    refine pv_iload_n (i := 3) t_X11_undo_58 rfl rfl ?_
    refine pv_bipush (v := 63) t_X11_undo_59 zb_63 ?_
    refine pv_icmp_ge t_X11_undo_61 (fun c61 => ?_) (fun c61 => ?_)
    · skip
      have hie : i = 63 := by have := (nI_leI (a := 63) (by omega) (by omega)).mp c61; omega
      subst hie
      rw [hg]
      exact hk
    · skip
      have hin : i < 63 := Nat.lt_of_not_le (fun q => c61 (nI_le (a := 63) q (by omega)))
      refine pv_aload_n (i := 0) t_X11_undo_64 rfl rfl ?_
      refine pv_getR t_X11_undo_65 fl_X11_26 hh_67 rfl ?_
      refine pv_iload_n (i := 3) t_X11_undo_68 rfl rfl ?_
      refine pv_aload_n (i := 0) t_X11_undo_69 rfl rfl ?_
      refine pv_getR t_X11_undo_70 fl_X11_32 hh_67 rfl ?_
      refine pv_iload_n (i := 2) t_X11_undo_73 rfl rfl ?_
      refine pv_iload_n (i := 3) t_X11_undo_74 rfl rfl ?_
      refine pv_iadd t_X11_undo_75 ?_
      refine sv_iald ((μ 74) ((at0 + i))) t_X11_undo_76 (Or.inl hh_74) (ixi (k := (at0 + i)) (nIa rfl rfl) (by omega) (by decide)) ((ixe (k := (at0 + i)) (nIa rfl rfl) (by omega)).trans (by first | rfl | (simp only [zhs_s, pk_us]; done) | (simp [zhs, upd]; done))) ?_
      refine sv_iast ((zhs (zhs μ 67 g67) 72 ((upd g72 i ((μ 74) ((at0 + i))))))) t_X11_undo_77 hh_72 (ixi (k := i) rfl (by omega) (by decide)) (by rw [ixc (x := (nI i)) (k := i) rfl (by omega), zhs_hs] <;> (first | rfl | (congr 1; funext k_; simp only [upd]; ((repeat' split) <;> first | rfl | (simp_all; done))))) ?_
      refine pv_iinc (v := 1) t_X11_undo_78 rfl zi_1 ?_
      refine pv_goto t_X11_undo_81 ?_
      refine pv_loc (lv' := [(0, _), (1, _), (2, _), (3, _)]) ⟨rfl, rfl, rfl, rfl, trivial⟩ ?_
      refine ih (i + 1) (by omega) (by omega) (by omega) _ _ (nI_1 i) ?_
      rw [hg]
      exact cpR_s (by omega) rfl (by omega)
def a_X11_undo (f72 : Nat → Int32) (f74 : Nat → Int32) (x : Int32) : Int32 := (if (a_X11_in x 1 60) = 0 then (-1000000002) else (if (a_X11_isDuel f72) = 0 then (-1000000003) else (if x ≤ (f72 23) then (cpR f72 (fun k => f74 (((64 * ((f72 23).toNatClampNeg - x.toNatClampNeg))) + k)) (20) (63)) 23 else (-1000000003))))
def w_X11_undo_67 (f67 : Nat → Int32) (f72 : Nat → Int32) (x : Int32) : Nat → Int32 := (if (a_X11_in x 1 60) = 0 then (upd f67 0 0) else (if (a_X11_isDuel f72) = 0 then (upd f67 0 0) else (if x ≤ (f72 23) then ((upd f67 0 0)) else (upd f67 0 0))))
def w_X11_undo_72 (f72 : Nat → Int32) (f74 : Nat → Int32) (x : Int32) : Nat → Int32 := (if (a_X11_in x 1 60) = 0 then f72 else (if (a_X11_isDuel f72) = 0 then f72 else (if x ≤ (f72 23) then cpR f72 (fun k => f74 (((64 * ((f72 23).toNatClampNeg - x.toNatClampNeg))) + k)) (20) (63) else f72)))
theorem e_X11_undo {l : Launch} {X : zX} {d : Nat} {μ : zH} {x : Int32} (hU : nb (μ 72 23) 64) : zRn l X mi_X11_undo (d + 5) [.inr 67, .inl (x)] (zSH, μ) (some (.inl (a_X11_undo (μ 72) (μ 74) x))) (zSH, (zhs (zhs μ 67 (w_X11_undo_67 (μ 67) (μ 72) x)) 72 (w_X11_undo_72 (μ 72) (μ 74) x))) := by
  refine pv_aload_n (i := 0) t_X11_undo_0 rfl rfl ?_
  refine pv_iconst (v := 0) t_X11_undo_1 zi_0 ?_
  refine sv_putI ((zhs μ 67 ((upd (μ 67) 0 0)))) t_X11_undo_2 fl_X11_69 zfn_10_0 hh_67 rfl rfl ?_
  refine pv_iload_n (i := 1) t_X11_undo_5 rfl rfl ?_
  refine pv_iconst (v := 1) t_X11_undo_6 zi_1 ?_
  refine pv_bipush (v := 60) t_X11_undo_7 zb_60 ?_
  refine sv_S3 (a_X11_in x 1 60) ((zhs μ 67 ((upd (μ 67) 0 0)))) t_X11_undo_9 ml_X11_72 mo_X11_in (Nat.le_of_ble_eq_true rfl) (e_X11_in) (Nat.le_of_ble_eq_true rfl) rfl rfl ?_
  refine pv_if_ne t_X11_undo_12 (fun c12 => ?_) (fun c12 => ?_)
  · skip
    obtain ⟨⟨hx1, hx2⟩, hx3⟩ := in_nb1 (n := 60) (m := 1) rfl (by decide) rfl c12
    have hu1 := hU.1
    refine pv_aload_n (i := 0) t_X11_undo_18 rfl rfl ?_
    refine sv_V0 (a_X11_isDuel (μ 72)) ((zhs μ 67 ((upd (μ 67) 0 0)))) t_X11_undo_19 ml_X11_152 mo_X11_isDuel hh_67 rfl (Nat.le_of_ble_eq_true rfl) (e_X11_isDuel) (Nat.le_of_ble_eq_true rfl) rfl rfl ?_
    refine pv_if_eq t_X11_undo_22 (fun c22 => ?_) (fun c22 => ?_)
    · skip
      refine pv_ldc t_X11_undo_36 kc_X11_206 ?_
      exact pv_ireti t_X11_undo_38 rfl (by unfold a_X11_undo; rw [if_neg c12, if_pos c22]) (Prod.ext rfl (by have e67 : w_X11_undo_67 (μ 67) (μ 72) x = (upd (μ 67) 0 0) := (by unfold w_X11_undo_67; rw [if_neg c12, if_pos c22]); have e72 : w_X11_undo_72 (μ 72) (μ 74) x = (μ 72) := (by unfold w_X11_undo_72; rw [if_neg c12, if_pos c22]); show _ = (zhs (zhs μ 67 (w_X11_undo_67 (μ 67) (μ 72) x)) 72 (w_X11_undo_72 (μ 72) (μ 74) x)); symm; rw [e67, e72]; rw [zhs_i2 (ν := (zhs μ 67 ((upd (μ 67) 0 0)))) (k := 72) (g := (μ 72)) rfl]))
    · skip
      refine pv_aload_n (i := 0) t_X11_undo_25 rfl rfl ?_
      refine pv_getR t_X11_undo_26 fl_X11_26 hh_67 rfl ?_
      refine pv_bipush (v := 23) t_X11_undo_29 zb_23 ?_
      refine sv_iald ((μ 72) 23) t_X11_undo_31 (Or.inl hh_72) (zin (by decide)) rfl ?_
      refine pv_iload_n (i := 1) t_X11_undo_32 rfl rfl ?_
      refine pv_icmp_ge t_X11_undo_33 (fun c33 => ?_) (fun c33 => ?_)
      · skip
        have hxu : x.toNatClampNeg ≤ ((μ 72) 23).toNatClampNeg := nb_nle ⟨hx1, hx2⟩ hU (by decide) (by decide) c33
        refine pv_bipush (v := 64) t_X11_undo_39 zb_64 ?_
        refine pv_aload_n (i := 0) t_X11_undo_41 rfl rfl ?_
        refine pv_getR t_X11_undo_42 fl_X11_26 hh_67 rfl ?_
        refine pv_bipush (v := 23) t_X11_undo_45 zb_23 ?_
        refine sv_iald ((μ 72) 23) t_X11_undo_47 (Or.inl hh_72) (zin (by decide)) rfl ?_
        refine pv_iload_n (i := 1) t_X11_undo_48 rfl rfl ?_
        refine pv_isub t_X11_undo_49 ?_
        refine pv_bipush (v := 64) t_X11_undo_50 zb_64 ?_
        refine pv_irem t_X11_undo_52 (by decide) ?_
        refine pv_imul t_X11_undo_53 ?_
        refine pv_istore_n (i := 2) t_X11_undo_54 rfl (Nat.le_of_ble_eq_true rfl) ?_
        refine pv_bipush (v := 20) t_X11_undo_55 zb_20 ?_
        refine pv_istore_n (i := 3) t_X11_undo_57 rfl (Nat.le_of_ble_eq_true rfl) ?_
        refine pv_loc (lv' := [(0, .inr 67), (1, .inl x), (2, .inl (64 * ((((μ 72) 23) - x) - (((μ 72) 23) - x) / 64 * 64))), (3, .inl 20)]) ⟨rfl, rfl, rfl, rfl, trivial⟩ ?_
        refine zls (llS (llS (llI (n := (64 * (((μ 72) 23).toNatClampNeg - x.toNatClampNeg))) (nIm rfl (rem64' (nIsb (nb_k hU) hx2 hxu) (by omega))) (llS rfl)))) ?_
        refine zst (S2 := (zSH, (zhs (zhs μ 67 ((upd (μ 67) 0 0))) 72 (μ 72)))) (by symm; rw [zhs_i2 (ν := (zhs μ 67 ((upd (μ 67) 0 0)))) (k := 72) (g := (μ 72)) rfl]) ?_
        refine lp_unL (x := x) (at0 := (64 * (((μ 72) 23).toNatClampNeg - x.toNatClampNeg))) (g67 := ((upd (μ 67) 0 0))) (f72 := (μ 72)) (by omega) ?_ (63 + 1 - 20) 20 (by omega) (by omega) (by omega) _ _ rfl (cpR_0 (by omega)).symm
        refine pv_aload_n (i := 0) t_X11_undo_84 rfl rfl ?_
        refine pv_getR t_X11_undo_85 fl_X11_26 hh_67 rfl ?_
        refine pv_bipush (v := 23) t_X11_undo_88 zb_23 ?_
        refine sv_iald ((cpR (μ 72) (fun k => (μ 74) (((64 * (((μ 72) 23).toNatClampNeg - x.toNatClampNeg))) + k)) (20) (63)) 23) t_X11_undo_90 (Or.inl hh_72) (zin (by decide)) rfl ?_
        exact pv_ireti t_X11_undo_91 rfl (by unfold a_X11_undo; rw [if_neg c12, if_neg c22, if_pos c33]) (Prod.ext rfl (by have e67 : w_X11_undo_67 (μ 67) (μ 72) x = ((upd (μ 67) 0 0)) := (by unfold w_X11_undo_67; rw [if_neg c12, if_neg c22, if_pos c33]); have e72 : w_X11_undo_72 (μ 72) (μ 74) x = cpR (μ 72) (fun k => (μ 74) (((64 * (((μ 72) 23).toNatClampNeg - x.toNatClampNeg))) + k)) (20) (63) := (by unfold w_X11_undo_72; rw [if_neg c12, if_neg c22, if_pos c33]); show _ = (zhs (zhs μ 67 (w_X11_undo_67 (μ 67) (μ 72) x)) 72 (w_X11_undo_72 (μ 72) (μ 74) x)); symm; rw [e67, e72]))
      · skip
        refine pv_ldc t_X11_undo_36 kc_X11_206 ?_
        exact pv_ireti t_X11_undo_38 rfl (by unfold a_X11_undo; rw [if_neg c12, if_neg c22, if_neg c33]) (Prod.ext rfl (by have e67 : w_X11_undo_67 (μ 67) (μ 72) x = (upd (μ 67) 0 0) := (by unfold w_X11_undo_67; rw [if_neg c12, if_neg c22, if_neg c33]); have e72 : w_X11_undo_72 (μ 72) (μ 74) x = (μ 72) := (by unfold w_X11_undo_72; rw [if_neg c12, if_neg c22, if_neg c33]); show _ = (zhs (zhs μ 67 (w_X11_undo_67 (μ 67) (μ 72) x)) 72 (w_X11_undo_72 (μ 72) (μ 74) x)); symm; rw [e67, e72]; rw [zhs_i2 (ν := (zhs μ 67 ((upd (μ 67) 0 0)))) (k := 72) (g := (μ 72)) rfl]))
  · skip
    refine pv_ldc t_X11_undo_15 kc_X11_76 ?_
    exact pv_ireti t_X11_undo_17 rfl (by unfold a_X11_undo; rw [if_pos c12]) (Prod.ext rfl (by have e67 : w_X11_undo_67 (μ 67) (μ 72) x = (upd (μ 67) 0 0) := (by unfold w_X11_undo_67; rw [if_pos c12]); have e72 : w_X11_undo_72 (μ 72) (μ 74) x = (μ 72) := (by unfold w_X11_undo_72; rw [if_pos c12]); show _ = (zhs (zhs μ 67 (w_X11_undo_67 (μ 67) (μ 72) x)) 72 (w_X11_undo_72 (μ 72) (μ 74) x)); symm; rw [e67, e72]; rw [zhs_i2 (ν := (zhs μ 67 ((upd (μ 67) 0 0)))) (k := 72) (g := (μ 72)) rfl]))
def unA (s : Nat → Int32) : Nat → Nat → Int32 → Int32
  | 0, _, _ => 8
  | j + 1, c, a => if (s 25 >>> (nI c &&& 31)) &&& 1 = 0 then (if a = 0 then nI c else unA s j (c + 1) (a + -1)) else unA s j (c + 1) a
theorem lp_X11_unsaid {l : Launch} {X : zX} {d : Nat} {μ : zH} {nc : Nat} (hnc : μ 67 11 = nI nc) (hc8 : nc ≤ 8) {x : Int32} : ∀ j i : Nat, i + j = nc + 1 → i ≤ nc → ∀ (y a : Int32), y = nI i → zEv l X mi_X11_unsaid (d + 1) 4 [(0, .inr 67), (1, .inl x), (2, .inl a), (3, .inl y)] [] (zSH, μ) 0 0 (some (.inl (unA (μ 72) (nc - i) i a))) (zSH, μ) := by
  intro j
  induction j with
  | zero => intro i h h2; omega
  | succ j ih =>
    intro i hij hle y a hy
    subst hy
    refine pv_iload_n (i := 3) t_X11_unsaid_4 rfl rfl ?_
    refine pv_aload_n (i := 0) t_X11_unsaid_5 rfl rfl ?_
    refine sv_getI (nI nc) t_X11_unsaid_6 fl_X11_140 hh_67 rfl hnc ?_
    refine pv_icmp_ge t_X11_unsaid_9 (fun c9 => ?_) (fun c9 => ?_)
    · skip
      have hie : i = nc := by have := (nI_leI (by omega) (by omega)).mp c9; omega
      subst hie
      rw [Nat.sub_self, unA]
      exact pv_bipush (v := 8) t_X11_unsaid_41 zb_8 (pv_ireti t_X11_unsaid_43 rfl rfl rfl)
    · skip
      have hin : i < nc := Nat.lt_of_not_le (fun q => c9 (nI_le q (by omega)))
      refine pv_aload_n (i := 0) t_X11_unsaid_12 rfl rfl ?_
      refine pv_getR t_X11_unsaid_13 fl_X11_26 hh_67 rfl ?_
      refine pv_bipush (v := 25) t_X11_unsaid_16 zb_25 ?_
      refine sv_iald ((μ 72) 25) t_X11_unsaid_18 (Or.inl hh_72) (zin (by decide)) rfl ?_
      refine pv_iload_n (i := 3) t_X11_unsaid_19 rfl rfl ?_
      refine pv_ishr t_X11_unsaid_20 ?_
      refine pv_iconst (v := 1) t_X11_unsaid_21 zi_1 ?_
      refine pv_iand t_X11_unsaid_22 ?_
      refine pv_if_ne t_X11_unsaid_23 (fun c23 => ?_) (fun c23 => ?_)
      · skip
        refine pv_iinc (v := 1) t_X11_unsaid_35 rfl zi_1 ?_
        refine pv_goto t_X11_unsaid_38 ?_
        refine pv_loc (lv' := [(0, _), (1, _), (2, _), (3, _)]) ⟨rfl, rfl, rfl, rfl, trivial⟩ ?_
        rw [show nc - i = (nc - (i + 1)) + 1 by omega, unA, if_neg c23]
        exact ih (i + 1) (by omega) (by omega) _ _ (nI_1 i)
      · skip
        refine pv_iload_n (i := 2) t_X11_unsaid_26 rfl rfl ?_
        refine pv_if_ne t_X11_unsaid_27 (fun c27 => ?_) (fun c27 => ?_)
        · skip
          refine pv_iinc (v := -1) t_X11_unsaid_32 rfl zi_m1 ?_
          refine pv_iinc (v := 1) t_X11_unsaid_35 rfl zi_1 ?_
          refine pv_goto t_X11_unsaid_38 ?_
          refine pv_loc (lv' := [(0, _), (1, _), (2, _), (3, _)]) ⟨rfl, rfl, rfl, rfl, trivial⟩ ?_
          rw [show nc - i = (nc - (i + 1)) + 1 by omega, unA, if_pos c23, if_neg c27]
          exact ih (i + 1) (by omega) (by omega) _ _ (nI_1 i)
        · skip
          rw [show nc - i = (nc - (i + 1)) + 1 by omega, unA, if_pos c23, if_pos c27]
          exact pv_iload_n (i := 3) t_X11_unsaid_30 rfl rfl (pv_ireti t_X11_unsaid_31 rfl rfl rfl)
def a_X11_unsaid (f72 : Nat → Int32) (x : Int32) (nc : Nat) : Int32 := unA f72 nc 0 x
theorem e_X11_unsaid {l : Launch} {X : zX} {d : Nat} {μ : zH} {nc : Nat} {x : Int32} (hnc : μ 67 11 = nI nc) (hc8 : nc ≤ 8) : zRn l X mi_X11_unsaid (d + 1) [.inr 67, .inl (x)] (zSH, μ) (some (.inl (a_X11_unsaid (μ 72) x nc))) (zSH, μ) := by
  refine pv_iload_n (i := 1) t_X11_unsaid_0 rfl rfl ?_
  refine pv_istore_n (i := 2) t_X11_unsaid_1 rfl (Nat.le_of_ble_eq_true rfl) ?_
  refine pv_iconst (v := 0) t_X11_unsaid_2 zi_0 ?_
  refine pv_istore_n (i := 3) t_X11_unsaid_3 rfl (Nat.le_of_ble_eq_true rfl) ?_
  refine zfin (S1 := (zSH, μ)) (by unfold a_X11_unsaid; rfl) rfl ?_
  exact lp_X11_unsaid hnc hc8 (nc + 1) 0 (by omega) (by omega) _ _ rfl
def rfT (nc : Nat) (s1 : Nat → Int32) : Int32 := a_X11_unsaid (w_X11_draw_72 s1) (a_X11_draw s1 ((nI nc - a_X11_ones (s1 25) + 1))) nc
def rfN (f69 : Nat → Int32) (f70 : Nat → Int32) (nc : Nat) (s : (Nat → Int32) × (Nat → Int32)) : (Nat → Int32) × (Nat → Int32) := (w_X11_does_72 f69 f70 (w_X11_draw_72 s.1) (rfT nc s.1), w_X11_does_74 (w_X11_draw_72 s.1) s.2)
def rfS (f69 : Nat → Int32) (f70 : Nat → Int32) (nc : Nat) : Nat → (Nat → Int32) × (Nat → Int32) → (Nat → Int32) × (Nat → Int32)
  | 0, s => s
  | k + 1, s => if s.1 22 = 0 then rfS f69 f70 nc k (rfN f69 f70 nc s) else s

theorem unA_nb (s : Nat → Int32) : ∀ (j c : Nat) (a : Int32), c + j ≤ 8 → unA s j c a = 8 ∨ nb (unA s j c a) 8 := by
  intro j
  induction j with
  | zero => intro c a _; exact Or.inl rfl
  | succ j ih =>
    intro c a hc
    unfold unA
    split
    · split
      · refine Or.inr ⟨?_, ?_⟩
        · rw [nI_clamp (by omega)]; omega
        · rw [nI_clamp (by omega)]
      · exact ih _ _ (by omega)
    · exact ih _ _ (by omega)
theorem rfT_nb {nc : Nat} (hc8 : nc ≤ 8) (s : Nat → Int32) : rfT nc s = 9 ∨ rfT nc s = 8 ∨ nb (rfT nc s) 8 := Or.inr (unA_nb _ _ _ _ (by omega))
theorem RB.draw {r : Nat → Int32} (h : RB r) : RB (w_X11_draw_72 r) := by
  unfold w_X11_draw_72
  exact h.u (by unfold okW; omega) (by omega)
theorem draw_n (r : Nat → Int32) {k : Nat} (hk : k ≠ 63) : w_X11_draw_72 r k = r k := by
  unfold w_X11_draw_72
  exact upn hk
/-- what a drift needs of the row of now, and what its turns keep -/
def dI (f69 f70 : Nat → Int32) (nc : Nat) (I : (Nat → Int32) → Prop) : Prop := ∀ s, I s → s 22 = 0 → (RB s ∧ nb (s 23) 64 ∧ ¬ (nI nc - a_X11_ones (s 25) + 1) = 0) ∧ ∀ b, I (rfN f69 f70 nc (s, b)).1
theorem lp_X11_drift {l : Launch} {X : zX} {d : Nat} {μ : zH} {nc : Nat} {g67 : Nat → Int32} {I : (Nat → Int32) → Prop} (hnc : g67 11 = nI nc) (hc8 : nc ≤ 8) (hT : ∀ c, c < 8 → nb (μ 70 (5 * c)) 4) (hI : dI (μ 69) (μ 70) nc I) {nn : Nat} (hn40 : nn ≤ 40) : ∀ j i : Nat, i + j = nn + 1 → i ≤ nn → ∀ (y : Int32) (s1 s2 : Nat → Int32), y = nI i → I s1 → zEv l X mi_X11_drift (d + 10) 30 [(0, .inr 67), (1, .inl (nI nn)), (2, .inl y)] [] (zSH, (zhs (zhs (zhs μ 67 g67) 72 s1) 74 s2)) 0 0 (some (.inl ((rfS (μ 69) (μ 70) nc (nn - i) (s1, s2)).1 22))) (zSH, (zhs (zhs (zhs μ 67 g67) 72 ((rfS (μ 69) (μ 70) nc (nn - i) (s1, s2)).1)) 74 ((rfS (μ 69) (μ 70) nc (nn - i) (s1, s2)).2))) := by
  intro j
  induction j with
  | zero => intro i h h2; omega
  | succ j ih =>
    intro i hij hle y s1 s2 hy his
    subst hy
    refine pv_iload_n (i := 2) t_X11_drift_30 rfl rfl ?_
    refine pv_iload_n (i := 1) t_X11_drift_31 rfl rfl ?_
    refine pv_icmp_ge t_X11_drift_32 (fun c32 => ?_) (fun c32 => ?_)
    · skip
      have hie : i = nn := by have := (nI_leI (by omega) (by omega)).mp c32; omega
      subst hie
      rw [Nat.sub_self, rfS]
      refine pv_aload_n (i := 0) t_X11_drift_80 rfl rfl ?_
      refine pv_getR t_X11_drift_81 fl_X11_26 hh_67 rfl ?_
      refine pv_bipush (v := 22) t_X11_drift_84 zb_22 ?_
      refine sv_iald (s1 22) t_X11_drift_86 (Or.inl hh_72) (zin (by decide)) rfl ?_
      exact pv_ireti t_X11_drift_87 rfl rfl rfl
    · skip
      have hin : i < nn := Nat.lt_of_not_le (fun q => c32 (nI_le q (by omega)))
      refine pv_aload_n (i := 0) t_X11_drift_35 rfl rfl ?_
      refine pv_getR t_X11_drift_36 fl_X11_26 hh_67 rfl ?_
      refine pv_bipush (v := 22) t_X11_drift_39 zb_22 ?_
      refine sv_iald (s1 22) t_X11_drift_41 (Or.inl hh_72) (zin (by decide)) rfl ?_
      refine pv_if_ne t_X11_drift_42 (fun c42 => ?_) (fun c42 => ?_)
      · skip
        rw [show nn - i = (nn - (i + 1)) + 1 by omega, rfS, if_neg c42]
        refine pv_aload_n (i := 0) t_X11_drift_80 rfl rfl ?_
        refine pv_getR t_X11_drift_81 fl_X11_26 hh_67 rfl ?_
        refine pv_bipush (v := 22) t_X11_drift_84 zb_22 ?_
        refine sv_iald (s1 22) t_X11_drift_86 (Or.inl hh_72) (zin (by decide)) rfl ?_
        exact pv_ireti t_X11_drift_87 rfl rfl rfl
      · skip
        obtain ⟨hR, hU, hnz⟩ := (hI s1 his c42).1
        have hRd := hR.draw
        have hUd : nb (w_X11_draw_72 s1 23) 64 := by rw [draw_n s1 (by decide)]; exact hU
        refine pv_aload_n (i := 0) t_X11_drift_45 rfl rfl ?_
        refine pv_aload_n (i := 0) t_X11_drift_46 rfl rfl ?_
        refine pv_aload_n (i := 0) t_X11_drift_47 rfl rfl ?_
        refine pv_aload_n (i := 0) t_X11_drift_48 rfl rfl ?_
        refine sv_getI (nI nc) t_X11_drift_49 fl_X11_140 hh_67 rfl hnc ?_
        refine pv_aload_n (i := 0) t_X11_drift_52 rfl rfl ?_
        refine pv_getR t_X11_drift_53 fl_X11_26 hh_67 rfl ?_
        refine pv_bipush (v := 25) t_X11_drift_56 zb_25 ?_
        refine sv_iald (s1 25) t_X11_drift_58 (Or.inl hh_72) (zin (by decide)) rfl ?_
        refine sv_S1 (a_X11_ones (s1 25)) ((zhs (zhs (zhs μ 67 g67) 72 s1) 74 s2)) t_X11_drift_59 ml_X11_172 mo_X11_ones (Nat.le_of_ble_eq_true rfl) (e_X11_ones) (Nat.le_of_ble_eq_true rfl) rfl rfl ?_
        refine pv_isub t_X11_drift_62 ?_
        refine pv_iconst (v := 1) t_X11_drift_63 zi_1 ?_
        refine pv_iadd t_X11_drift_64 ?_
        refine sv_V1 (a_X11_draw s1 (((nI nc) - (a_X11_ones (s1 25))) + 1)) ((zhs (zhs (zhs μ 67 g67) 74 s2) 72 (w_X11_draw_72 s1))) t_X11_drift_65 ml_X11_213 mo_X11_draw hh_67 rfl (Nat.le_of_ble_eq_true rfl) (e_X11_draw hnz) (Nat.le_of_ble_eq_true rfl) rfl (by (try simp (disch := decide) only [zhs_d, zhs_s]); rw [zhs_cm (μ := (zhs μ 67 g67)) (a := 72) (b := 74) (by decide), zhs_hs] <;> (first | rfl | (congr 1; funext k_; simp only [upd]; ((repeat' split) <;> first | rfl | (simp_all; done))))) ?_
        refine sv_V1 (a_X11_unsaid (w_X11_draw_72 s1) (a_X11_draw s1 (((nI nc) - (a_X11_ones (s1 25))) + 1)) nc) ((zhs (zhs (zhs μ 67 g67) 74 s2) 72 (w_X11_draw_72 s1))) t_X11_drift_68 ml_X11_216 mo_X11_unsaid hh_67 rfl (Nat.le_of_ble_eq_true rfl) (e_X11_unsaid hnc hc8) (Nat.le_of_ble_eq_true rfl) rfl rfl ?_
        refine sv_WV1 ((zhs (zhs (zhs μ 67 g67) 74 (w_X11_does_74 (w_X11_draw_72 s1) s2)) 72 (w_X11_does_72 (μ 69) (μ 70) (w_X11_draw_72 s1) (a_X11_unsaid (w_X11_draw_72 s1) (a_X11_draw s1 (((nI nc) - (a_X11_ones (s1 25))) + 1)) nc)))) t_X11_drift_71 ml_X11_207 mo_X11_does hh_67 rfl (Nat.le_of_ble_eq_true rfl) (e_X11_does hT hRd hUd (rfT_nb hc8 s1)) (Nat.le_of_ble_eq_true rfl) (by (try simp (disch := decide) only [zhs_d, zhs_s]); rw [zhs_cm (μ := (zhs μ 67 g67)) (a := 74) (b := 72) (by decide), zhs_hs, zhs_cm (μ := (zhs μ 67 g67)) (a := 72) (b := 74) (by decide), zhs_hs] <;> (first | rfl | (congr 1; funext k_; simp only [upd]; ((repeat' split) <;> first | rfl | (simp_all; done))))) ?_
        refine pv_iinc (v := 1) t_X11_drift_74 rfl zi_1 ?_
        refine pv_goto t_X11_drift_77 ?_
        refine pv_loc (lv' := [(0, _), (1, _), (2, _)]) ⟨rfl, rfl, rfl, trivial⟩ ?_
        refine zst (S2 := (zSH, (zhs (zhs (zhs μ 67 g67) 72 (w_X11_does_72 (μ 69) (μ 70) (w_X11_draw_72 s1) (a_X11_unsaid (w_X11_draw_72 s1) (a_X11_draw s1 (((nI nc) - (a_X11_ones (s1 25))) + 1)) nc))) 74 (w_X11_does_74 (w_X11_draw_72 s1) s2)))) (by rw [zhs_cm (μ := (zhs μ 67 g67)) (a := 74) (b := 72) (by decide)] <;> rfl) ?_
        rw [show nn - i = (nn - (i + 1)) + 1 by omega, rfS, if_pos c42]
        have hN : rfN (μ 69) (μ 70) nc (s1, s2) = ((w_X11_does_72 (μ 69) (μ 70) (w_X11_draw_72 s1) (a_X11_unsaid (w_X11_draw_72 s1) (a_X11_draw s1 (((nI nc) - (a_X11_ones (s1 25))) + 1)) nc)), (w_X11_does_74 (w_X11_draw_72 s1) s2)) := rfl
        have hI2 := (hI s1 his c42).2 s2
        rw [hN] at hI2 ⊢
        exact ih (i + 1) (by omega) (by omega) _ _ _ (nI_1 i) hI2
def a_X11_drift (f69 : Nat → Int32) (f70 : Nat → Int32) (f72 : Nat → Int32) (f74 : Nat → Int32) (x : Int32) (nc : Nat) : Int32 := (if (a_X11_in x 1 40) = 0 then (-1000000002) else (if (a_X11_goesOn f72) = 0 then (-1000000003) else (rfS f69 f70 nc x.toNatClampNeg (f72, f74)).1 22))
def w_X11_drift_67 (f67 : Nat → Int32) : Nat → Int32 := (upd f67 0 0)
def w_X11_drift_72 (f69 : Nat → Int32) (f70 : Nat → Int32) (f72 : Nat → Int32) (f74 : Nat → Int32) (x : Int32) (nc : Nat) : Nat → Int32 := (if (a_X11_in x 1 40) = 0 then f72 else (if (a_X11_goesOn f72) = 0 then f72 else (rfS f69 f70 nc x.toNatClampNeg (f72, f74)).1))
def w_X11_drift_74 (f69 : Nat → Int32) (f70 : Nat → Int32) (f72 : Nat → Int32) (f74 : Nat → Int32) (x : Int32) (nc : Nat) : Nat → Int32 := (if (a_X11_in x 1 40) = 0 then f74 else (if (a_X11_goesOn f72) = 0 then f74 else (rfS f69 f70 nc x.toNatClampNeg (f72, f74)).2))
theorem e_X11_drift {l : Launch} {X : zX} {d : Nat} {μ : zH} {nc : Nat} {x : Int32} (hnc : μ 67 11 = nI nc) (hc8 : nc ≤ 8) (hT : ∀ c, c < 8 → nb (μ 70 (5 * c)) 4) {I : (Nat → Int32) → Prop} (hI : dI (μ 69) (μ 70) nc I) (his : I (μ 72)) : zRn l X mi_X11_drift (d + 10) [.inr 67, .inl (x)] (zSH, μ) (some (.inl (a_X11_drift (μ 69) (μ 70) (μ 72) (μ 74) x nc))) (zSH, (zhs (zhs (zhs μ 67 (w_X11_drift_67 (μ 67))) 72 (w_X11_drift_72 (μ 69) (μ 70) (μ 72) (μ 74) x nc)) 74 (w_X11_drift_74 (μ 69) (μ 70) (μ 72) (μ 74) x nc))) := by
  refine pv_aload_n (i := 0) t_X11_drift_0 rfl rfl ?_
  refine pv_iconst (v := 0) t_X11_drift_1 zi_0 ?_
  refine sv_putI ((zhs μ 67 ((upd (μ 67) 0 0)))) t_X11_drift_2 fl_X11_69 zfn_10_0 hh_67 rfl rfl ?_
  refine pv_iload_n (i := 1) t_X11_drift_5 rfl rfl ?_
  refine pv_iconst (v := 1) t_X11_drift_6 zi_1 ?_
  refine pv_bipush (v := 40) t_X11_drift_7 zb_40 ?_
  refine sv_S3 (a_X11_in x 1 40) ((zhs μ 67 ((upd (μ 67) 0 0)))) t_X11_drift_9 ml_X11_72 mo_X11_in (Nat.le_of_ble_eq_true rfl) (e_X11_in) (Nat.le_of_ble_eq_true rfl) rfl rfl ?_
  refine pv_if_ne t_X11_drift_12 (fun c12 => ?_) (fun c12 => ?_)
  · skip
    obtain ⟨⟨hx1, hx2⟩, hx3⟩ := in_nb1 (n := 40) (m := 1) rfl (by decide) rfl c12
    refine pv_aload_n (i := 0) t_X11_drift_18 rfl rfl ?_
    refine sv_V0 (a_X11_goesOn (μ 72)) ((zhs μ 67 ((upd (μ 67) 0 0)))) t_X11_drift_19 ml_X11_155 mo_X11_goesOn hh_67 rfl (Nat.le_of_ble_eq_true rfl) (e_X11_goesOn) (Nat.le_of_ble_eq_true rfl) rfl rfl ?_
    refine pv_if_ne t_X11_drift_22 (fun c22 => ?_) (fun c22 => ?_)
    · skip
      refine pv_iconst (v := 0) t_X11_drift_28 zi_0 ?_
      refine pv_istore_n (i := 2) t_X11_drift_29 rfl (Nat.le_of_ble_eq_true rfl) ?_
      refine zfin (S1 := (zSH, (zhs (zhs (zhs μ 67 ((upd (μ 67) 0 0))) 72 ((rfS (μ 69) (μ 70) nc x.toNatClampNeg ((μ 72), (μ 74))).1)) 74 ((rfS (μ 69) (μ 70) nc x.toNatClampNeg ((μ 72), (μ 74))).2)))) (by unfold a_X11_drift; rw [if_neg c12, if_neg c22]) (Prod.ext rfl (by have e67 : w_X11_drift_67 (μ 67) = (upd (μ 67) 0 0) := (by unfold w_X11_drift_67; rfl); have e72 : w_X11_drift_72 (μ 69) (μ 70) (μ 72) (μ 74) x nc = (rfS (μ 69) (μ 70) nc x.toNatClampNeg ((μ 72), (μ 74))).1 := (by unfold w_X11_drift_72; rw [if_neg c12, if_neg c22]); have e74 : w_X11_drift_74 (μ 69) (μ 70) (μ 72) (μ 74) x nc = (rfS (μ 69) (μ 70) nc x.toNatClampNeg ((μ 72), (μ 74))).2 := (by unfold w_X11_drift_74; rw [if_neg c12, if_neg c22]); show _ = (zhs (zhs (zhs μ 67 (w_X11_drift_67 (μ 67))) 72 (w_X11_drift_72 (μ 69) (μ 70) (μ 72) (μ 74) x nc)) 74 (w_X11_drift_74 (μ 69) (μ 70) (μ 72) (μ 74) x nc)); symm; rw [e67, e72, e74])) ?_
      have h9 := lp_X11_drift (l := l) (X := X) (d := d) (μ := μ) (g67 := upd (μ 67) 0 0) hnc hc8 hT hI (nn := x.toNatClampNeg) (by omega) (x.toNatClampNeg + 1) 0 (by omega) (by omega) 0 (μ 72) (μ 74) rfl his
      rw [← hx2, Nat.sub_zero] at h9
      refine zst (S2 := (zSH, zhs (zhs (zhs μ 67 (upd (μ 67) 0 0)) 72 (μ 72)) 74 (μ 74))) (by congr 1; rw [zhs_i2 (ν := zhs (zhs μ 67 (upd (μ 67) 0 0)) 72 (μ 72)) (k := 74) (g := μ 74) rfl, zhs_i2 (ν := zhs μ 67 (upd (μ 67) 0 0)) (k := 72) (g := μ 72) rfl]) ?_
      exact h9
    · skip
      refine pv_ldc t_X11_drift_25 kc_X11_206 ?_
      exact pv_ireti t_X11_drift_27 rfl (by unfold a_X11_drift; rw [if_neg c12, if_pos c22]) (Prod.ext rfl (by have e67 : w_X11_drift_67 (μ 67) = (upd (μ 67) 0 0) := (by unfold w_X11_drift_67; rfl); have e72 : w_X11_drift_72 (μ 69) (μ 70) (μ 72) (μ 74) x nc = (μ 72) := (by unfold w_X11_drift_72; rw [if_neg c12, if_pos c22]); have e74 : w_X11_drift_74 (μ 69) (μ 70) (μ 72) (μ 74) x nc = (μ 74) := (by unfold w_X11_drift_74; rw [if_neg c12, if_pos c22]); show _ = (zhs (zhs (zhs μ 67 (w_X11_drift_67 (μ 67))) 72 (w_X11_drift_72 (μ 69) (μ 70) (μ 72) (μ 74) x nc)) 74 (w_X11_drift_74 (μ 69) (μ 70) (μ 72) (μ 74) x nc)); symm; rw [e67, e72, e74]; rw [zhs_i2 (ν := (zhs μ 67 ((upd (μ 67) 0 0)))) (k := 72) (g := (μ 72)) rfl, zhs_i2 (ν := (zhs μ 67 ((upd (μ 67) 0 0)))) (k := 74) (g := (μ 74)) rfl]))
  · skip
    refine pv_ldc t_X11_drift_15 kc_X11_76 ?_
    exact pv_ireti t_X11_drift_17 rfl (by unfold a_X11_drift; rw [if_pos c12]) (Prod.ext rfl (by have e67 : w_X11_drift_67 (μ 67) = (upd (μ 67) 0 0) := (by unfold w_X11_drift_67; rfl); have e72 : w_X11_drift_72 (μ 69) (μ 70) (μ 72) (μ 74) x nc = (μ 72) := (by unfold w_X11_drift_72; rw [if_pos c12]); have e74 : w_X11_drift_74 (μ 69) (μ 70) (μ 72) (μ 74) x nc = (μ 74) := (by unfold w_X11_drift_74; rw [if_pos c12]); show _ = (zhs (zhs (zhs μ 67 (w_X11_drift_67 (μ 67))) 72 (w_X11_drift_72 (μ 69) (μ 70) (μ 72) (μ 74) x nc)) 74 (w_X11_drift_74 (μ 69) (μ 70) (μ 72) (μ 74) x nc)); symm; rw [e67, e72, e74]; rw [zhs_i2 (ν := (zhs μ 67 ((upd (μ 67) 0 0)))) (k := 72) (g := (μ 72)) rfl, zhs_i2 (ν := (zhs μ 67 ((upd (μ 67) 0 0)))) (k := 74) (g := (μ 74)) rfl]))
theorem lp_anL {l : Launch} {X : zX} {d : Nat} {μ : zH} {f73 : Nat → Int32} {r : Option zV} {S' : zS} (hk : zEv l X mi_X11_asNow (d + 1) 26 [(0, .inr 67), (1, .inl (nI 64))] [] (zSH, (zhs μ 73 (cpR f73 ((μ 72)) (0) (64)))) 0 0 r S') : ∀ j i : Nat, i + j = 64 + 1 → i ≤ 64 → ∀ (y : Int32) (g73 : Nat → Int32), y = nI i → g73 = cpR f73 ((μ 72)) (0) (i) → zEv l X mi_X11_asNow (d + 1) 2 [(0, .inr 67), (1, .inl y)] [] (zSH, (zhs μ 73 g73)) 0 0 r S' := by
  intro j
  induction j with
  | zero => intros; omega
  | succ j ih =>
    intro i hij hle y g73 hy hg
    subst hy
    refine pv_iload_n (i := 1) t_X11_asNow_2 rfl rfl ?_
    refine pv_bipush (v := 64) t_X11_asNow_3 zb_64 ?_
    refine pv_icmp_ge t_X11_asNow_5 (fun c5 => ?_) (fun c5 => ?_)
    · skip
      have hie : i = 64 := by have := (nI_leI (a := 64) (by omega) (by omega)).mp c5; omega
      subst hie
      rw [hg]
      exact hk
    · skip
      have hin : i < 64 := Nat.lt_of_not_le (fun q => c5 (nI_le (a := 64) q (by omega)))
      refine pv_aload_n (i := 0) t_X11_asNow_8 rfl rfl ?_
      refine pv_getR t_X11_asNow_9 fl_X11_29 hh_67 rfl ?_
      refine pv_iload_n (i := 1) t_X11_asNow_12 rfl rfl ?_
      refine pv_aload_n (i := 0) t_X11_asNow_13 rfl rfl ?_
      refine pv_getR t_X11_asNow_14 fl_X11_26 hh_67 rfl ?_
      refine pv_iload_n (i := 1) t_X11_asNow_17 rfl rfl ?_
      refine sv_iald ((μ 72) i) t_X11_asNow_18 (Or.inl hh_72) (ixi (k := i) rfl (by omega) (by decide)) ((ixe (k := i) rfl (by omega)).trans (by first | rfl | (simp only [zhs_s, pk_us]; done) | (simp [zhs, upd]; done))) ?_
      refine sv_iast ((zhs μ 73 ((upd g73 i ((μ 72) i))))) t_X11_asNow_19 hh_73 (ixi (k := i) rfl (by omega) (by decide)) (by rw [ixc (x := (nI i)) (k := i) rfl (by omega), zhs_hs] <;> (first | rfl | (congr 1; funext k_; simp only [upd]; ((repeat' split) <;> first | rfl | (simp_all; done))))) ?_
      refine pv_iinc (v := 1) t_X11_asNow_20 rfl zi_1 ?_
      refine pv_goto t_X11_asNow_23 ?_
      refine pv_loc (lv' := [(0, _), (1, _)]) ⟨rfl, rfl, trivial⟩ ?_
      refine ih (i + 1) (by omega) (by omega) _ _ (nI_1 i) ?_
      rw [hg]
      exact cpR_s (by omega) rfl (by omega)
def w_X11_asNow_73 (f72 : Nat → Int32) (f73 : Nat → Int32) : Nat → Int32 := cpR f73 (f72) (0) (64)
theorem e_X11_asNow {l : Launch} {X : zX} {d : Nat} {μ : zH} : zRn l X mi_X11_asNow (d + 1) [.inr 67] (zSH, μ) none (zSH, (zhs μ 73 (w_X11_asNow_73 (μ 72) (μ 73)))) := by
  refine pv_iconst (v := 0) t_X11_asNow_0 zi_0 ?_
  refine pv_istore_n (i := 1) t_X11_asNow_1 rfl (Nat.le_of_ble_eq_true rfl) ?_
  refine pv_loc (lv' := [(0, .inr 67), (1, .inl 0)]) ⟨rfl, rfl, trivial⟩ ?_
  refine zst (S2 := (zSH, (zhs μ 73 (μ 73)))) (by symm; rw [zhs_i2 (ν := μ) (k := 73) (g := (μ 73)) rfl]) ?_
  refine lp_anL  (f73 := (μ 73))  ?_ (64 + 1) 0 (by omega) (by omega) _ _ rfl (cpR_0 (by omega)).symm
  exact pv_vret t_X11_asNow_26 rfl (Prod.ext rfl (by have e73 : w_X11_asNow_73 (μ 72) (μ 73) = cpR (μ 73) ((μ 72)) (0) (64) := (by unfold w_X11_asNow_73; rfl); show _ = (zhs μ 73 (w_X11_asNow_73 (μ 72) (μ 73))); symm; rw [e73]))
theorem lp_loL {l : Launch} {X : zX} {d : Nat} {μ : zH} {e0 : Nat} {f73 : Nat → Int32} (he : e0 < 16) {r : Option zV} {S' : zS} (hk : zEv l X mi_X11_loads (d + 1) 31 [(0, .inr 67), (1, .inl ((nI e0))), (2, .inl (nI 64))] [] (zSH, (zhs μ 73 (cpR f73 (fun k => (μ 81) (64 * e0 + k)) (0) (64)))) 0 0 r S') : ∀ j i : Nat, i + j = 64 + 1 → i ≤ 64 → ∀ (y : Int32) (g73 : Nat → Int32), y = nI i → g73 = cpR f73 (fun k => (μ 81) (64 * e0 + k)) (0) (i) → zEv l X mi_X11_loads (d + 1) 2 [(0, .inr 67), (1, .inl ((nI e0))), (2, .inl y)] [] (zSH, (zhs μ 73 g73)) 0 0 r S' := by
  intro j
  induction j with
  | zero => intros; omega
  | succ j ih =>
    intro i hij hle y g73 hy hg
    subst hy
    refine pv_iload_n (i := 2) t_X11_loads_2 rfl rfl ?_
    refine pv_bipush (v := 64) t_X11_loads_3 zb_64 ?_
    refine pv_icmp_ge t_X11_loads_5 (fun c5 => ?_) (fun c5 => ?_)
    · skip
      have hie : i = 64 := by have := (nI_leI (a := 64) (by omega) (by omega)).mp c5; omega
      subst hie
      rw [hg]
      exact hk
    · skip
      have hin : i < 64 := Nat.lt_of_not_le (fun q => c5 (nI_le (a := 64) q (by omega)))
      refine pv_aload_n (i := 0) t_X11_loads_8 rfl rfl ?_
      refine pv_getR t_X11_loads_9 fl_X11_29 hh_67 rfl ?_
      refine pv_iload_n (i := 2) t_X11_loads_12 rfl rfl ?_
      refine pv_aload_n (i := 0) t_X11_loads_13 rfl rfl ?_
      refine pv_getR t_X11_loads_14 fl_X11_54 hh_67 rfl ?_
      refine pv_bipush (v := 64) t_X11_loads_17 zb_64 ?_
      refine pv_iload_n (i := 1) t_X11_loads_19 rfl rfl ?_
      refine pv_imul t_X11_loads_20 ?_
      refine pv_iload_n (i := 2) t_X11_loads_21 rfl rfl ?_
      refine pv_iadd t_X11_loads_22 ?_
      refine sv_iald ((μ 81) (((64 * e0) + i))) t_X11_loads_23 (Or.inl hh_81) (ixi (k := ((64 * e0) + i)) (nIa (nIm rfl rfl) rfl) (by omega) (by decide)) ((ixe (k := ((64 * e0) + i)) (nIa (nIm rfl rfl) rfl) (by omega)).trans (by first | rfl | (simp only [zhs_s, pk_us]; done) | (simp [zhs, upd]; done))) ?_
      refine sv_iast ((zhs μ 73 ((upd g73 i ((μ 81) (((64 * e0) + i))))))) t_X11_loads_24 hh_73 (ixi (k := i) rfl (by omega) (by decide)) (by rw [ixc (x := (nI i)) (k := i) rfl (by omega), zhs_hs] <;> (first | rfl | (congr 1; funext k_; simp only [upd]; ((repeat' split) <;> first | rfl | (simp_all; done))))) ?_
      refine pv_iinc (v := 1) t_X11_loads_25 rfl zi_1 ?_
      refine pv_goto t_X11_loads_28 ?_
      refine pv_loc (lv' := [(0, _), (1, _), (2, _)]) ⟨rfl, rfl, rfl, trivial⟩ ?_
      refine ih (i + 1) (by omega) (by omega) _ _ (nI_1 i) ?_
      rw [hg]
      exact cpR_s (by omega) rfl (by omega)
def w_X11_loads_73 (f73 : Nat → Int32) (f81 : Nat → Int32) (e0 : Nat) : Nat → Int32 := cpR f73 (fun k => f81 (64 * e0 + k)) (0) (64)
theorem e_X11_loads {l : Launch} {X : zX} {d : Nat} {μ : zH} {e0 : Nat} (he : e0 < 16) : zRn l X mi_X11_loads (d + 1) [.inr 67, .inl (nI e0)] (zSH, μ) none (zSH, (zhs μ 73 (w_X11_loads_73 (μ 73) (μ 81) e0))) := by
  refine pv_iconst (v := 0) t_X11_loads_0 zi_0 ?_
  refine pv_istore_n (i := 2) t_X11_loads_1 rfl (Nat.le_of_ble_eq_true rfl) ?_
  refine pv_loc (lv' := [(0, .inr 67), (1, .inl ((nI e0))), (2, .inl 0)]) ⟨rfl, rfl, rfl, trivial⟩ ?_
  refine zst (S2 := (zSH, (zhs μ 73 (μ 73)))) (by symm; rw [zhs_i2 (ν := μ) (k := 73) (g := (μ 73)) rfl]) ?_
  refine lp_loL (e0 := e0) (f73 := (μ 73)) (by omega) ?_ (64 + 1) 0 (by omega) (by omega) _ _ rfl (cpR_0 (by omega)).symm
  exact pv_vret t_X11_loads_31 rfl (Prod.ext rfl (by have e73 : w_X11_loads_73 (μ 73) (μ 81) e0 = cpR (μ 73) (fun k => (μ 81) (64 * e0 + k)) (0) (64) := (by unfold w_X11_loads_73; rfl); show _ = (zhs μ 73 (w_X11_loads_73 (μ 73) (μ 81) e0)); symm; rw [e73]))
theorem lp_puL {l : Launch} {X : zX} {d : Nat} {μ : zH} {e0 : Nat} {f81 : Nat → Int32} (he : e0 < 16) {r : Option zV} {S' : zS} (hk : zEv l X mi_X11_pushes (d + 1) 31 [(0, .inr 67), (1, .inl ((nI e0))), (2, .inl (nI 64))] [] (zSH, (zhs μ 81 (cpR f81 (fun k => (μ 73) (k - 64 * e0)) (64 * e0) (64 * e0 + 64)))) 0 0 r S') : ∀ j i : Nat, i + j = 64 + 1 → i ≤ 64 → ∀ (y : Int32) (g81 : Nat → Int32), y = nI i → g81 = cpR f81 (fun k => (μ 73) (k - 64 * e0)) (64 * e0) (64 * e0 + i) → zEv l X mi_X11_pushes (d + 1) 2 [(0, .inr 67), (1, .inl ((nI e0))), (2, .inl y)] [] (zSH, (zhs μ 81 g81)) 0 0 r S' := by
  intro j
  induction j with
  | zero => intros; omega
  | succ j ih =>
    intro i hij hle y g81 hy hg
    subst hy
    refine pv_iload_n (i := 2) t_X11_pushes_2 rfl rfl ?_
    refine pv_bipush (v := 64) t_X11_pushes_3 zb_64 ?_
    refine pv_icmp_ge t_X11_pushes_5 (fun c5 => ?_) (fun c5 => ?_)
    · skip
      have hie : i = 64 := by have := (nI_leI (a := 64) (by omega) (by omega)).mp c5; omega
      subst hie
      rw [hg]
      exact hk
    · skip
      have hin : i < 64 := Nat.lt_of_not_le (fun q => c5 (nI_le (a := 64) q (by omega)))
      refine pv_aload_n (i := 0) t_X11_pushes_8 rfl rfl ?_
      refine pv_getR t_X11_pushes_9 fl_X11_54 hh_67 rfl ?_
      refine pv_bipush (v := 64) t_X11_pushes_12 zb_64 ?_
      refine pv_iload_n (i := 1) t_X11_pushes_14 rfl rfl ?_
      refine pv_imul t_X11_pushes_15 ?_
      refine pv_iload_n (i := 2) t_X11_pushes_16 rfl rfl ?_
      refine pv_iadd t_X11_pushes_17 ?_
      refine pv_aload_n (i := 0) t_X11_pushes_18 rfl rfl ?_
      refine pv_getR t_X11_pushes_19 fl_X11_29 hh_67 rfl ?_
      refine pv_iload_n (i := 2) t_X11_pushes_22 rfl rfl ?_
      refine sv_iald ((μ 73) i) t_X11_pushes_23 (Or.inl hh_73) (ixi (k := i) rfl (by omega) (by decide)) ((ixe (k := i) rfl (by omega)).trans (by first | rfl | (simp only [zhs_s, pk_us]; done) | (simp [zhs, upd]; done))) ?_
      refine sv_iast ((zhs μ 81 ((upd g81 (((64 * e0) + i)) ((μ 73) i))))) t_X11_pushes_24 hh_81 (ixi (k := ((64 * e0) + i)) (nIa (nIm rfl rfl) rfl) (by omega) (by decide)) (by rw [ixc (x := (64 * ((nI e0))) + ((nI i))) (k := ((64 * e0) + i)) (nIa (nIm rfl rfl) rfl) (by omega), zhs_hs] <;> (first | rfl | (congr 1; funext k_; simp only [upd]; ((repeat' split) <;> first | rfl | (simp_all; done))))) ?_
      refine pv_iinc (v := 1) t_X11_pushes_25 rfl zi_1 ?_
      refine pv_goto t_X11_pushes_28 ?_
      refine pv_loc (lv' := [(0, _), (1, _), (2, _)]) ⟨rfl, rfl, rfl, trivial⟩ ?_
      refine ih (i + 1) (by omega) (by omega) _ _ (nI_1 i) ?_
      rw [hg]
      exact cpR_s (by omega) (by show _ = μ 73 (64 * e0 + i - 64 * e0); rw [Nat.add_sub_cancel_left]) (by omega)
def w_X11_pushes_81 (f73 : Nat → Int32) (f81 : Nat → Int32) (e0 : Nat) : Nat → Int32 := cpR f81 (fun k => f73 (k - 64 * e0)) (64 * e0) (64 * e0 + 64)
def w_X11_pushes_82 (f82 : Nat → Int32) (e0 : Nat) : Nat → Int32 := (upd f82 e0 0)
def w_X11_pushes_83 (f83 : Nat → Int32) (e0 : Nat) : Nat → Int32 := (upd f83 e0 ((-1)))
theorem e_X11_pushes {l : Launch} {X : zX} {d : Nat} {μ : zH} {e0 : Nat} (he : e0 < 16) : zRn l X mi_X11_pushes (d + 1) [.inr 67, .inl (nI e0)] (zSH, μ) none (zSH, (zhs (zhs (zhs μ 81 (w_X11_pushes_81 (μ 73) (μ 81) e0)) 82 (w_X11_pushes_82 (μ 82) e0)) 83 (w_X11_pushes_83 (μ 83) e0))) := by
  refine pv_iconst (v := 0) t_X11_pushes_0 zi_0 ?_
  refine pv_istore_n (i := 2) t_X11_pushes_1 rfl (Nat.le_of_ble_eq_true rfl) ?_
  refine pv_loc (lv' := [(0, .inr 67), (1, .inl ((nI e0))), (2, .inl 0)]) ⟨rfl, rfl, rfl, trivial⟩ ?_
  refine zst (S2 := (zSH, (zhs μ 81 (μ 81)))) (by symm; rw [zhs_i2 (ν := μ) (k := 81) (g := (μ 81)) rfl]) ?_
  refine lp_puL (e0 := e0) (f81 := (μ 81)) (by omega) ?_ (64 + 1) 0 (by omega) (by omega) _ _ rfl (cpR_0 (by omega)).symm
  refine pv_aload_n (i := 0) t_X11_pushes_31 rfl rfl ?_
  refine pv_getR t_X11_pushes_32 fl_X11_57 hh_67 rfl ?_
  refine pv_iload_n (i := 1) t_X11_pushes_35 rfl rfl ?_
  refine pv_iconst (v := 0) t_X11_pushes_36 zi_0 ?_
  refine sv_iast ((zhs (zhs μ 81 (cpR (μ 81) (fun k => (μ 73) (k - 64 * e0)) (64 * e0) (64 * e0 + 64))) 82 ((upd (μ 82) e0 0)))) t_X11_pushes_37 hh_82 (ixi (k := e0) rfl (by omega) (by decide)) (by rw [ixc (x := (nI e0)) (k := e0) rfl (by omega)] <;> (first | rfl | (congr 1; funext k_; simp only [upd]; ((repeat' split) <;> first | rfl | (simp_all; done))))) ?_
  refine pv_aload_n (i := 0) t_X11_pushes_38 rfl rfl ?_
  refine pv_getR t_X11_pushes_39 fl_X11_60 hh_67 rfl ?_
  refine pv_iload_n (i := 1) t_X11_pushes_42 rfl rfl ?_
  refine pv_iconst (v := -1) t_X11_pushes_43 zi_m1 ?_
  refine sv_iast ((zhs (zhs (zhs μ 81 (cpR (μ 81) (fun k => (μ 73) (k - 64 * e0)) (64 * e0) (64 * e0 + 64))) 82 ((upd (μ 82) e0 0))) 83 ((upd (μ 83) e0 ((-1)))))) t_X11_pushes_44 hh_83 (ixi (k := e0) rfl (by omega) (by decide)) (by rw [ixc (x := (nI e0)) (k := e0) rfl (by omega)] <;> (first | rfl | (congr 1; funext k_; simp only [upd]; ((repeat' split) <;> first | rfl | (simp_all; done))))) ?_
  exact pv_vret t_X11_pushes_45 rfl (Prod.ext rfl (by have e81 : w_X11_pushes_81 (μ 73) (μ 81) e0 = cpR (μ 81) (fun k => (μ 73) (k - 64 * e0)) (64 * e0) (64 * e0 + 64) := (by unfold w_X11_pushes_81; rfl); have e82 : w_X11_pushes_82 (μ 82) e0 = (upd (μ 82) e0 0) := (by unfold w_X11_pushes_82; rfl); have e83 : w_X11_pushes_83 (μ 83) e0 = (upd (μ 83) e0 ((-1))) := (by unfold w_X11_pushes_83; rfl); show _ = (zhs (zhs (zhs μ 81 (w_X11_pushes_81 (μ 73) (μ 81) e0)) 82 (w_X11_pushes_82 (μ 82) e0)) 83 (w_X11_pushes_83 (μ 83) e0)); symm; rw [e81, e82, e83]))
def w_X11_merges_83 (f83 : Nat → Int32) (e0 : Nat) (v : Int32) : Nat → Int32 := (if v ≤ (f83 e0) then f83 else (upd f83 e0 v))
def w_X11_merges_67 (f67 : Nat → Int32) (f82 : Nat → Int32) (f83 : Nat → Int32) (e0 : Nat) (v : Int32) : Nat → Int32 := (if v ≤ (f83 e0) then f67 else (upd f67 32 (if ((nI e0)) = 0 then ((f82 0) - 1 : Int32) else (f67 32 : Int32))))
theorem e_X11_merges {l : Launch} {X : zX} {d : Nat} {μ : zH} {e0 : Nat} {v : Int32} (he : e0 < 16) : zRn l X mi_X11_merges (d + 1) [.inr 67, .inl (nI e0), .inl (v)] (zSH, μ) none (zSH, (zhs (zhs μ 83 (w_X11_merges_83 (μ 83) e0 v)) 67 (w_X11_merges_67 (μ 67) (μ 82) (μ 83) e0 v))) := by
  refine pv_iload_n (i := 2) t_X11_merges_0 rfl rfl ?_
  refine pv_aload_n (i := 0) t_X11_merges_1 rfl rfl ?_
  refine pv_getR t_X11_merges_2 fl_X11_60 hh_67 rfl ?_
  refine pv_iload_n (i := 1) t_X11_merges_5 rfl rfl ?_
  refine sv_iald ((μ 83) e0) t_X11_merges_6 (Or.inl hh_83) (ixi (k := e0) rfl (by omega) (by decide)) ((ixe (k := e0) rfl (by omega)).trans (by first | rfl | (simp only [zhs_s, pk_us]; done) | (simp [zhs, upd]; done))) ?_
  refine pv_icmp_le t_X11_merges_7 (fun c7 => ?_) (fun c7 => ?_)
  · skip
    exact pv_vret t_X11_merges_40 rfl (Prod.ext rfl (by have e83 : w_X11_merges_83 (μ 83) e0 v = (μ 83) := (by unfold w_X11_merges_83; rw [if_pos c7]); have e67 : w_X11_merges_67 (μ 67) (μ 82) (μ 83) e0 v = (μ 67) := (by unfold w_X11_merges_67; rw [if_pos c7]); show _ = (zhs (zhs μ 83 (w_X11_merges_83 (μ 83) e0 v)) 67 (w_X11_merges_67 (μ 67) (μ 82) (μ 83) e0 v)); symm; rw [e83, e67]; rw [zhs_i2 (ν := μ) (k := 83) (g := (μ 83)) rfl, zhs_i2 (ν := μ) (k := 67) (g := (μ 67)) rfl]))
  · skip
    refine pv_aload_n (i := 0) t_X11_merges_10 rfl rfl ?_
    refine pv_getR t_X11_merges_11 fl_X11_60 hh_67 rfl ?_
    refine pv_iload_n (i := 1) t_X11_merges_14 rfl rfl ?_
    refine pv_iload_n (i := 2) t_X11_merges_15 rfl rfl ?_
    refine sv_iast ((zhs μ 83 ((upd (μ 83) e0 v)))) t_X11_merges_16 hh_83 (ixi (k := e0) rfl (by omega) (by decide)) (by rw [ixc (x := (nI e0)) (k := e0) rfl (by omega)] <;> (first | rfl | (congr 1; funext k_; simp only [upd]; ((repeat' split) <;> first | rfl | (simp_all; done))))) ?_
    refine pv_aload_n (i := 0) t_X11_merges_17 rfl rfl ?_
    refine pv_iload_n (i := 1) t_X11_merges_18 rfl rfl ?_
    refine sv_phi (c := ((nI e0)) = 0) (A := ((μ 82) 0) - 1) (B := (μ 67) 32) (J := 37) (lv := [(0, .inr 67), (1, .inl ((nI e0))), (2, .inl v)]) (st := [.inr 67]) (S := (zSH, (zhs μ 83 ((upd (μ 83) e0 v))))) (fun kT kF => ?_) ?_
    · skip
      refine pv_if_ne t_X11_merges_19 (fun c19 => ?_) (fun c19 => ?_)
      · skip
        refine pv_aload_n (i := 0) t_X11_merges_33 rfl rfl ?_
        refine sv_getI ((μ 67) 32) t_X11_merges_34 fl_X11_219 hh_67 rfl rfl ?_
        exact kF c19
      · skip
        refine pv_aload_n (i := 0) t_X11_merges_22 rfl rfl ?_
        refine pv_getR t_X11_merges_23 fl_X11_57 hh_67 rfl ?_
        refine pv_iconst (v := 0) t_X11_merges_26 zi_0 ?_
        refine sv_iald ((μ 82) 0) t_X11_merges_27 (Or.inl hh_82) (zin (by decide)) rfl ?_
        refine pv_iconst (v := 1) t_X11_merges_28 zi_1 ?_
        refine pv_isub t_X11_merges_29 ?_
        refine pv_goto t_X11_merges_30 ?_
        exact kT c19
    refine sv_putI ((zhs (zhs μ 83 ((upd (μ 83) e0 v))) 67 ((upd (μ 67) 32 (if ((nI e0)) = 0 then (((μ 82) 0) - 1 : Int32) else ((μ 67) 32 : Int32)))))) t_X11_merges_37 fl_X11_219 zfn_10_32 hh_67 rfl rfl ?_
    exact pv_vret t_X11_merges_40 rfl (Prod.ext rfl (by have e83 : w_X11_merges_83 (μ 83) e0 v = (upd (μ 83) e0 v) := (by unfold w_X11_merges_83; rw [if_neg c7]); have e67 : w_X11_merges_67 (μ 67) (μ 82) (μ 83) e0 v = (upd (μ 67) 32 (if ((nI e0)) = 0 then (((μ 82) 0) - 1 : Int32) else ((μ 67) 32 : Int32))) := (by unfold w_X11_merges_67; rw [if_neg c7]); show _ = (zhs (zhs μ 83 (w_X11_merges_83 (μ 83) e0 v)) 67 (w_X11_merges_67 (μ 67) (μ 82) (μ 83) e0 v)); symm; rw [e83, e67]))
