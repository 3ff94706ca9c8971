theorem nb_k {x : Int32} {n : Nat} (h : nb x n) : x = nI x.toNatClampNeg := h.2
theorem nb_le {x : Int32} {n m : Nat} (h : nb x n) (hn : n ≤ m) : nb x m := ⟨Nat.lt_of_lt_of_le h.1 hn, h.2⟩
theorem nb_of {x M : Int32} {n : Nat} (hM : M.toInt = n) (hn : n < 2 ^ 31) (h : ¬ x < 0) (h5 : x ≤ M) : nb x (n + 1) := by
  obtain ⟨j, hj, rfl⟩ := nI_of2 hM h h5
  rw [nb, nI_clamp (by omega)]
  exact ⟨by omega, rfl⟩
def a_X11_in (v : Int32) (a : Int32) (b : Int32) : Int32 := (if v < a then 0 else (if b < v then 0 else 1))
theorem e_X11_in {l : Launch} {X : zX} {d : Nat} {μ : zH} {v : Int32} {a : Int32} {b : Int32} : zRn l X mi_X11_in (d + 1) [.inl (v), .inl (a), .inl (b)] (zSH, μ) (some (.inl (a_X11_in v a b))) (zSH, μ) := by
  refine pv_iload_n (i := 0) t_X11_in_0 rfl rfl ?_
  refine pv_iload_n (i := 1) t_X11_in_1 rfl rfl ?_
  refine pv_icmp_lt t_X11_in_2 (fun c2 => ?_) (fun c2 => ?_)
  · skip
    refine pv_iconst (v := 0) t_X11_in_14 zi_0 ?_
    exact pv_iretz t_X11_in_15 rfl ⟨(by unfold a_X11_in; rw [if_pos c2]), (by unfold a_X11_in; rw [if_pos c2]; decide)⟩ rfl
  · skip
    refine pv_iload_n (i := 0) t_X11_in_5 rfl rfl ?_
    refine pv_iload_n (i := 2) t_X11_in_6 rfl rfl ?_
    refine pv_icmp_gt t_X11_in_7 (fun c7 => ?_) (fun c7 => ?_)
    · skip
      refine pv_iconst (v := 0) t_X11_in_14 zi_0 ?_
      exact pv_iretz t_X11_in_15 rfl ⟨(by unfold a_X11_in; rw [if_neg c2, if_pos c7]), (by unfold a_X11_in; rw [if_neg c2, if_pos c7]; decide)⟩ rfl
    · skip
      refine pv_iconst (v := 1) t_X11_in_10 zi_1 ?_
      refine pv_goto t_X11_in_11 ?_
      exact pv_iretz t_X11_in_15 rfl ⟨(by unfold a_X11_in; rw [if_neg c2, if_neg c7]), (by unfold a_X11_in; rw [if_neg c2, if_neg c7]; decide)⟩ rfl
theorem inX {v a b : Int32} : a_X11_in v a b = if a ≤ v ∧ v ≤ b then 1 else 0 := by
  unfold a_X11_in
  by_cases h1 : v < a
  · rw [if_pos h1, if_neg (fun q => Int32.not_lt.mpr q.1 h1)]
  · rw [if_neg h1]
    by_cases h2 : b < v
    · rw [if_pos h2, if_neg (fun q => Int32.not_lt.mpr q.2 h2)]
    · rw [if_neg h2, if_pos ⟨Int32.not_lt.mp h1, Int32.not_lt.mp h2⟩]
theorem in_t {v a b : Int32} (h : ¬ a_X11_in v a b = 0) : a ≤ v ∧ v ≤ b := by
  rw [inX] at h
  by_cases h1 : a ≤ v ∧ v ≤ b
  · exact h1
  · rw [if_neg h1] at h; exact absurd rfl h
theorem in_nb {v b : Int32} {n : Nat} (hb : b.toInt = n) (hn : n < 2 ^ 31) (h : ¬ a_X11_in v 0 b = 0) : nb v (n + 1) := nb_of hb hn (Int32.not_lt.mpr (in_t h).1) (in_t h).2
def onS (x : Int32) : Nat → Int32 := zfold (fun k a => a + ((x >>> (nI k &&& 31)) &&& 1)) 0
theorem lp_X11_ones {l : Launch} {X : zX} {d : Nat} {μ : zH} {x : Int32} : ∀ j i : Nat, i + j = 10 + 1 → i ≤ 10 → ∀ (y s : Int32), y = nI i → s = onS x i → zEv l X mi_X11_ones (d + 1) 4 [(0, .inl x), (1, .inl s), (2, .inl y)] [] (zSH, μ) 0 0 (some (.inl (onS x 10))) (zSH, μ) := by
  intro j
  induction j with
  | zero => intro i h h2; omega
  | succ j ih =>
    intro i hij hle y s hy hs
    subst hy
    refine pv_iload_n (i := 2) t_X11_ones_4 rfl rfl ?_
    refine pv_bipush (v := 10) t_X11_ones_5 zb_10 ?_
    refine pv_icmp_ge t_X11_ones_7 (fun c7 => ?_) (fun c7 => ?_)
    · skip
      have hie : i = 10 := by have := (nI_leI (a := 10) (by omega) (by omega)).mp c7; omega
      subst hie
      rw [hs]
      exact pv_iload_n (i := 1) t_X11_ones_24 rfl rfl (pv_ireti t_X11_ones_25 rfl rfl rfl)
    · skip
      have hin : i < 10 := Nat.lt_of_not_le (fun q => c7 (nI_le (a := 10) q (by omega)))
      refine pv_iload_n (i := 1) t_X11_ones_10 rfl rfl ?_
      refine pv_iload_n (i := 0) t_X11_ones_11 rfl rfl ?_
      refine pv_iload_n (i := 2) t_X11_ones_12 rfl rfl ?_
      refine pv_ishr t_X11_ones_13 ?_
      refine pv_iconst (v := 1) t_X11_ones_14 zi_1 ?_
      refine pv_iand t_X11_ones_15 ?_
      refine pv_iadd t_X11_ones_16 ?_
      refine pv_istore_n (i := 1) t_X11_ones_17 rfl (Nat.le_of_ble_eq_true rfl) ?_
      refine pv_iinc (v := 1) t_X11_ones_18 rfl zi_1 ?_
      refine pv_goto t_X11_ones_21 ?_
      refine pv_loc (lv' := [(0, _), (1, _), (2, _)]) ⟨rfl, rfl, rfl, trivial⟩ ?_
      refine ih (i + 1) (by omega) (by omega) _ _ (nI_1 i) ?_
      rw [hs]; rfl
def a_X11_ones (x : Int32) : Int32 := onS x 10
theorem e_X11_ones {l : Launch} {X : zX} {d : Nat} {μ : zH} {x : Int32} : zRn l X mi_X11_ones (d + 1) [.inl (x)] (zSH, μ) (some (.inl (a_X11_ones x))) (zSH, μ) := by
  refine pv_iconst (v := 0) t_X11_ones_0 zi_0 ?_
  refine pv_istore_n (i := 1) t_X11_ones_1 rfl (Nat.le_of_ble_eq_true rfl) ?_
  refine pv_iconst (v := 0) t_X11_ones_2 zi_0 ?_
  refine pv_istore_n (i := 2) t_X11_ones_3 rfl (Nat.le_of_ble_eq_true rfl) ?_
  refine zfin (S1 := (zSH, μ)) (by unfold a_X11_ones; rfl) rfl ?_
  exact lp_X11_ones 11 0 (by omega) (by omega) _ _ rfl rfl
def a_X11_isWell (f67 : Nat → Int32) : Int32 := (if (f67 8) = 0 then 1 else 0)
theorem e_X11_isWell {l : Launch} {X : zX} {d : Nat} {μ : zH} : zRn l X mi_X11_isWell (d + 2) [.inr 67] (zSH, μ) (some (.inl (a_X11_isWell (μ 67)))) (zSH, μ) := by
  refine pv_aload_n (i := 0) t_X11_isWell_0 rfl rfl ?_
  refine sv_getI ((μ 67) 8) t_X11_isWell_1 fl_X11_100 hh_67 rfl rfl ?_
  refine pv_if_ne t_X11_isWell_4 (fun c4 => ?_) (fun c4 => ?_)
  · skip
    refine pv_iconst (v := 0) t_X11_isWell_11 zi_0 ?_
    exact pv_iretz t_X11_isWell_12 rfl ⟨(by unfold a_X11_isWell; rw [if_neg c4]), (by unfold a_X11_isWell; rw [if_neg c4]; decide)⟩ rfl
  · skip
    refine pv_iconst (v := 1) t_X11_isWell_7 zi_1 ?_
    refine pv_goto t_X11_isWell_8 ?_
    exact pv_iretz t_X11_isWell_12 rfl ⟨(by unfold a_X11_isWell; rw [if_pos c4]), (by unfold a_X11_isWell; rw [if_pos c4]; decide)⟩ rfl
def a_X11_fault (f67 : Nat → Int32) : Int32 := f67 9
def w_X11_fault_67 (f67 : Nat → Int32) : Nat → Int32 := (upd f67 0 0)
theorem e_X11_fault {l : Launch} {X : zX} {d : Nat} {μ : zH} : zRn l X mi_X11_fault (d + 2) [.inr 67] (zSH, μ) (some (.inl (a_X11_fault (μ 67)))) (zSH, (zhs μ 67 (w_X11_fault_67 (μ 67)))) := by
  refine pv_aload_n (i := 0) t_X11_fault_0 rfl rfl ?_
  refine pv_iconst (v := 0) t_X11_fault_1 zi_0 ?_
  refine sv_putI ((zhs μ 67 ((upd (μ 67) 0 0)))) t_X11_fault_2 fl_X11_69 zfn_10_0 hh_67 rfl rfl ?_
  refine pv_aload_n (i := 0) t_X11_fault_5 rfl rfl ?_
  refine sv_getI ((μ 67) 9) t_X11_fault_6 fl_X11_13 hh_67 rfl rfl ?_
  exact pv_ireti t_X11_fault_9 rfl (by unfold a_X11_fault; rfl) (Prod.ext rfl (by have e67 : w_X11_fault_67 (μ 67) = (upd (μ 67) 0 0) := (by unfold w_X11_fault_67; rfl); show _ = (zhs μ 67 (w_X11_fault_67 (μ 67))); symm; rw [e67]))
def w_X11_fails_67 (f67 : Nat → Int32) (w : Int32) : Nat → Int32 := (if (a_X11_isWell f67) = 0 then f67 else (upd (upd f67 8 w) 9 (f67 5)))
theorem e_X11_fails {l : Launch} {X : zX} {d : Nat} {μ : zH} {w : Int32} : zRn l X mi_X11_fails (d + 3) [.inr 67, .inl (w)] (zSH, μ) none (zSH, (zhs μ 67 (w_X11_fails_67 (μ 67) w))) := by
  refine pv_aload_n (i := 0) t_X11_fails_0 rfl rfl ?_
  refine sv_V0 (a_X11_isWell (μ 67)) μ t_X11_fails_1 ml_X11_103 mo_X11_isWell hh_67 rfl (Nat.le_of_ble_eq_true rfl) (e_X11_isWell) (Nat.le_of_ble_eq_true rfl) rfl rfl ?_
  refine pv_if_eq t_X11_fails_4 (fun c4 => ?_) (fun c4 => ?_)
  · skip
    exact pv_vret t_X11_fails_20 rfl (Prod.ext rfl (by have e67 : w_X11_fails_67 (μ 67) w = (μ 67) := (by unfold w_X11_fails_67; rw [if_pos c4]); show _ = (zhs μ 67 (w_X11_fails_67 (μ 67) w)); symm; rw [e67]; rw [zhs_i2 (ν := μ) (k := 67) (g := (μ 67)) rfl]))
  · skip
    refine pv_aload_n (i := 0) t_X11_fails_7 rfl rfl ?_
    refine pv_iload_n (i := 1) t_X11_fails_8 rfl rfl ?_
    refine sv_putI ((zhs μ 67 ((upd (μ 67) 8 w)))) t_X11_fails_9 fl_X11_100 zfn_10_8 hh_67 rfl rfl ?_
    refine pv_aload_n (i := 0) t_X11_fails_12 rfl rfl ?_
    refine pv_aload_n (i := 0) t_X11_fails_13 rfl rfl ?_
    refine sv_getI ((μ 67) 5) t_X11_fails_14 fl_X11_88 hh_67 rfl rfl ?_
    refine sv_putI ((zhs μ 67 ((upd (upd (μ 67) 8 w) 9 ((μ 67) 5))))) t_X11_fails_17 fl_X11_13 zfn_10_9 hh_67 rfl (by rw [zhs_hs] <;> (first | rfl | (congr 1; funext k_; simp only [upd]; ((repeat' split) <;> first | rfl | (simp_all; done))))) ?_
    exact pv_vret t_X11_fails_20 rfl (Prod.ext rfl (by have e67 : w_X11_fails_67 (μ 67) w = (upd (upd (μ 67) 8 w) 9 ((μ 67) 5)) := (by unfold w_X11_fails_67; rw [if_neg c4]); show _ = (zhs μ 67 (w_X11_fails_67 (μ 67) w)); symm; rw [e67]))
theorem a_in01 {v a b : Int32} : a_X11_in v a b = 0 ∨ a_X11_in v a b = 1 := by
  rw [inX]; split
  · exact Or.inr rfl
  · exact Or.inl rfl
theorem isd {f : Nat → Int32} {x : Int32} {np : Nat} (hnp : f 10 = nI np) (hp4 : np ≤ 4) (h : ¬ a_X11_in x 0 (f 10 - 1) = 0) : nb x np ∧ nb x 4 := by
  rw [hnp] at h
  cases np with
  | zero =>
    have h1 := in_t h
    exact absurd (Int32.le_trans h1.1 h1.2) (by decide)
  | succ n =>
    rw [nI_pred] at h
    have h2 := in_nb (n := n) (by rw [nI_toInt (by omega)]) (by omega) h
    exact ⟨h2, nb_le h2 hp4⟩
theorem isc {f : Nat → Int32} {x : Int32} {nc : Nat} (hnc : f 11 = nI nc) (hc8 : nc ≤ 8) (h : ¬ a_X11_in x 0 (f 11 - 1) = 0) : nb x nc ∧ nb x 8 := by
  rw [hnc] at h
  cases nc with
  | zero =>
    have h1 := in_t h
    exact absurd (Int32.le_trans h1.1 h1.2) (by decide)
  | succ n =>
    rw [nI_pred] at h
    have h2 := in_nb (n := n) (by rw [nI_toInt (by omega)]) (by omega) h
    exact ⟨h2, nb_le h2 hc8⟩
def a_X11_isDuellist (f67 : Nat → Int32) (x : Int32) : Int32 := a_X11_in x 0 ((f67 10) - 1)
theorem e_X11_isDuellist {l : Launch} {X : zX} {d : Nat} {μ : zH} {x : Int32} : zRn l X mi_X11_isDuellist (d + 3) [.inr 67, .inl (x)] (zSH, μ) (some (.inl (a_X11_isDuellist (μ 67) x))) (zSH, μ) := by
  refine pv_iload_n (i := 1) t_X11_isDuellist_0 rfl rfl ?_
  refine pv_iconst (v := 0) t_X11_isDuellist_1 zi_0 ?_
  refine pv_aload_n (i := 0) t_X11_isDuellist_2 rfl rfl ?_
  refine sv_getI ((μ 67) 10) t_X11_isDuellist_3 fl_X11_137 hh_67 rfl rfl ?_
  refine pv_iconst (v := 1) t_X11_isDuellist_6 zi_1 ?_
  refine pv_isub t_X11_isDuellist_7 ?_
  refine sv_S3 (a_X11_in x 0 (((μ 67) 10) - 1)) μ t_X11_isDuellist_8 ml_X11_72 mo_X11_in (Nat.le_of_ble_eq_true rfl) (e_X11_in) (Nat.le_of_ble_eq_true rfl) rfl rfl ?_
  exact pv_iretz t_X11_isDuellist_11 rfl ⟨(by unfold a_X11_isDuellist; rfl), (by unfold a_X11_isDuellist; exact a_in01)⟩ rfl
def a_X11_isCompliment (f67 : Nat → Int32) (x : Int32) : Int32 := a_X11_in x 0 ((f67 11) - 1)
theorem e_X11_isCompliment {l : Launch} {X : zX} {d : Nat} {μ : zH} {x : Int32} : zRn l X mi_X11_isCompliment (d + 3) [.inr 67, .inl (x)] (zSH, μ) (some (.inl (a_X11_isCompliment (μ 67) x))) (zSH, μ) := by
  refine pv_iload_n (i := 1) t_X11_isCompliment_0 rfl rfl ?_
  refine pv_iconst (v := 0) t_X11_isCompliment_1 zi_0 ?_
  refine pv_aload_n (i := 0) t_X11_isCompliment_2 rfl rfl ?_
  refine sv_getI ((μ 67) 11) t_X11_isCompliment_3 fl_X11_140 hh_67 rfl rfl ?_
  refine pv_iconst (v := 1) t_X11_isCompliment_6 zi_1 ?_
  refine pv_isub t_X11_isCompliment_7 ?_
  refine sv_S3 (a_X11_in x 0 (((μ 67) 11) - 1)) μ t_X11_isCompliment_8 ml_X11_72 mo_X11_in (Nat.le_of_ble_eq_true rfl) (e_X11_in) (Nat.le_of_ble_eq_true rfl) rfl rfl ?_
  exact pv_iretz t_X11_isCompliment_11 rfl ⟨(by unfold a_X11_isCompliment; rfl), (by unfold a_X11_isCompliment; exact a_in01)⟩ rfl
def a_X11_isDuel (f72 : Nat → Int32) : Int32 := (if (f72 20) = ((-1)) then 0 else 1)
theorem e_X11_isDuel {l : Launch} {X : zX} {d : Nat} {μ : zH} : zRn l X mi_X11_isDuel (d + 1) [.inr 67] (zSH, μ) (some (.inl (a_X11_isDuel (μ 72)))) (zSH, μ) := by
  refine pv_aload_n (i := 0) t_X11_isDuel_0 rfl rfl ?_
  refine pv_getR t_X11_isDuel_1 fl_X11_26 hh_67 rfl ?_
  refine pv_bipush (v := 20) t_X11_isDuel_4 zb_20 ?_
  refine sv_iald ((μ 72) 20) t_X11_isDuel_6 (Or.inl hh_72) (zin (by decide)) rfl ?_
  refine pv_iconst (v := -1) t_X11_isDuel_7 zi_m1 ?_
  refine pv_icmp_eq t_X11_isDuel_8 (fun c8 => ?_) (fun c8 => ?_)
  · skip
    refine pv_iconst (v := 0) t_X11_isDuel_15 zi_0 ?_
    exact pv_iretz t_X11_isDuel_16 rfl ⟨(by unfold a_X11_isDuel; rw [if_pos c8]), (by unfold a_X11_isDuel; rw [if_pos c8]; decide)⟩ rfl
  · skip
    refine pv_iconst (v := 1) t_X11_isDuel_11 zi_1 ?_
    refine pv_goto t_X11_isDuel_12 ?_
    exact pv_iretz t_X11_isDuel_16 rfl ⟨(by unfold a_X11_isDuel; rw [if_neg c8]), (by unfold a_X11_isDuel; rw [if_neg c8]; decide)⟩ rfl
def a_X11_goesOn (f72 : Nat → Int32) : Int32 := (if (a_X11_isDuel f72) = 0 then 0 else (if (f72 22) = 0 then 1 else 0))
theorem e_X11_goesOn {l : Launch} {X : zX} {d : Nat} {μ : zH} : zRn l X mi_X11_goesOn (d + 3) [.inr 67] (zSH, μ) (some (.inl (a_X11_goesOn (μ 72)))) (zSH, μ) := by
  refine pv_aload_n (i := 0) t_X11_goesOn_0 rfl rfl ?_
  refine sv_V0 (a_X11_isDuel (μ 72)) μ t_X11_goesOn_1 ml_X11_152 mo_X11_isDuel hh_67 rfl (Nat.le_of_ble_eq_true rfl) (e_X11_isDuel) (Nat.le_of_ble_eq_true rfl) rfl rfl ?_
  refine pv_if_eq t_X11_goesOn_4 (fun c4 => ?_) (fun c4 => ?_)
  · skip
    refine pv_iconst (v := 0) t_X11_goesOn_21 zi_0 ?_
    exact pv_iretz t_X11_goesOn_22 rfl ⟨(by unfold a_X11_goesOn; rw [if_pos c4]), (by unfold a_X11_goesOn; rw [if_pos c4]; decide)⟩ rfl
  · skip
    refine pv_aload_n (i := 0) t_X11_goesOn_7 rfl rfl ?_
    refine pv_getR t_X11_goesOn_8 fl_X11_26 hh_67 rfl ?_
    refine pv_bipush (v := 22) t_X11_goesOn_11 zb_22 ?_
    refine sv_iald ((μ 72) 22) t_X11_goesOn_13 (Or.inl hh_72) (zin (by decide)) rfl ?_
    refine pv_if_ne t_X11_goesOn_14 (fun c14 => ?_) (fun c14 => ?_)
    · skip
      refine pv_iconst (v := 0) t_X11_goesOn_21 zi_0 ?_
      exact pv_iretz t_X11_goesOn_22 rfl ⟨(by unfold a_X11_goesOn; rw [if_neg c4, if_neg c14]), (by unfold a_X11_goesOn; rw [if_neg c4, if_neg c14]; decide)⟩ rfl
    · skip
      refine pv_iconst (v := 1) t_X11_goesOn_17 zi_1 ?_
      refine pv_goto t_X11_goesOn_18 ?_
      exact pv_iretz t_X11_goesOn_22 rfl ⟨(by unfold a_X11_goesOn; rw [if_neg c4, if_pos c14]), (by unfold a_X11_goesOn; rw [if_neg c4, if_pos c14]; decide)⟩ rfl
def a_X11_whose (f72 : Nat → Int32) : Int32 := (if (f72 24) = 0 then f72 20 else f72 21)
theorem e_X11_whose {l : Launch} {X : zX} {d : Nat} {μ : zH} : zRn l X mi_X11_whose (d + 1) [.inr 67] (zSH, μ) (some (.inl (a_X11_whose (μ 72)))) (zSH, μ) := by
  refine pv_aload_n (i := 0) t_X11_whose_0 rfl rfl ?_
  refine pv_getR t_X11_whose_1 fl_X11_26 hh_67 rfl ?_
  refine pv_bipush (v := 24) t_X11_whose_4 zb_24 ?_
  refine sv_iald ((μ 72) 24) t_X11_whose_6 (Or.inl hh_72) (zin (by decide)) rfl ?_
  refine pv_if_ne t_X11_whose_7 (fun c7 => ?_) (fun c7 => ?_)
  · skip
    refine pv_aload_n (i := 0) t_X11_whose_20 rfl rfl ?_
    refine pv_getR t_X11_whose_21 fl_X11_26 hh_67 rfl ?_
    refine pv_bipush (v := 21) t_X11_whose_24 zb_21 ?_
    refine sv_iald ((μ 72) 21) t_X11_whose_26 (Or.inl hh_72) (zin (by decide)) rfl ?_
    exact pv_ireti t_X11_whose_27 rfl (by unfold a_X11_whose; rw [if_neg c7]) rfl
  · skip
    refine pv_aload_n (i := 0) t_X11_whose_10 rfl rfl ?_
    refine pv_getR t_X11_whose_11 fl_X11_26 hh_67 rfl ?_
    refine pv_bipush (v := 20) t_X11_whose_14 zb_20 ?_
    refine sv_iald ((μ 72) 20) t_X11_whose_16 (Or.inl hh_72) (zin (by decide)) rfl ?_
    refine pv_goto t_X11_whose_17 ?_
    exact pv_ireti t_X11_whose_27 rfl (by unfold a_X11_whose; rw [if_pos c7]) rfl
def a_X11_faultOf (f67 : Nat → Int32) : Int32 := (if (f67 4) = 3 then (if (f67 6) = 100 then (if (f67 12) = 4 then 3 else (if (f67 6) = 99 then (if (f67 13) = 8 then 3 else 0) else 0)) else (if (f67 6) = 99 then (if (f67 13) = 8 then 3 else 0) else 0)) else 1)
theorem e_X11_faultOf {l : Launch} {X : zX} {d : Nat} {μ : zH} : zRn l X mi_X11_faultOf (d + 1) [.inr 67] (zSH, μ) (some (.inl (a_X11_faultOf (μ 67)))) (zSH, μ) := by
  refine pv_aload_n (i := 0) t_X11_faultOf_0 rfl rfl ?_
  refine sv_getI ((μ 67) 4) t_X11_faultOf_1 fl_X11_91 hh_67 rfl rfl ?_
  refine pv_iconst (v := 3) t_X11_faultOf_4 zi_3 ?_
  refine pv_icmp_eq t_X11_faultOf_5 (fun c5 => ?_) (fun c5 => ?_)
  · skip
    refine pv_aload_n (i := 0) t_X11_faultOf_12 rfl rfl ?_
    refine sv_getI ((μ 67) 6) t_X11_faultOf_13 fl_X11_94 hh_67 rfl rfl ?_
    refine pv_bipush (v := 100) t_X11_faultOf_16 zb_100 ?_
    refine pv_icmp_ne t_X11_faultOf_18 (fun c18 => ?_) (fun c18 => ?_)
    · skip
      refine pv_aload_n (i := 0) t_X11_faultOf_29 rfl rfl ?_
      refine sv_getI ((μ 67) 6) t_X11_faultOf_30 fl_X11_94 hh_67 rfl rfl ?_
      refine pv_bipush (v := 99) t_X11_faultOf_33 zb_99 ?_
      refine pv_icmp_ne t_X11_faultOf_35 (fun c35 => ?_) (fun c35 => ?_)
      · skip
        refine pv_iconst (v := 0) t_X11_faultOf_51 zi_0 ?_
        exact pv_ireti t_X11_faultOf_52 rfl (by unfold a_X11_faultOf; rw [if_pos c5, if_neg c18, if_neg c35]) rfl
      · skip
        refine pv_aload_n (i := 0) t_X11_faultOf_38 rfl rfl ?_
        refine sv_getI ((μ 67) 13) t_X11_faultOf_39 fl_X11_121 hh_67 rfl rfl ?_
        refine pv_bipush (v := 8) t_X11_faultOf_42 zb_8 ?_
        refine pv_icmp_ne t_X11_faultOf_44 (fun c44 => ?_) (fun c44 => ?_)
        · skip
          refine pv_iconst (v := 0) t_X11_faultOf_51 zi_0 ?_
          exact pv_ireti t_X11_faultOf_52 rfl (by unfold a_X11_faultOf; rw [if_pos c5, if_neg c18, if_pos c35, if_neg c44]) rfl
        · skip
          refine pv_iconst (v := 3) t_X11_faultOf_47 zi_3 ?_
          refine pv_goto t_X11_faultOf_48 ?_
          exact pv_ireti t_X11_faultOf_52 rfl (by unfold a_X11_faultOf; rw [if_pos c5, if_neg c18, if_pos c35, if_pos c44]) rfl
    · skip
      refine pv_aload_n (i := 0) t_X11_faultOf_21 rfl rfl ?_
      refine sv_getI ((μ 67) 12) t_X11_faultOf_22 fl_X11_114 hh_67 rfl rfl ?_
      refine pv_iconst (v := 4) t_X11_faultOf_25 zi_4 ?_
      refine pv_icmp_eq t_X11_faultOf_26 (fun c26 => ?_) (fun c26 => ?_)
      · skip
        refine pv_iconst (v := 3) t_X11_faultOf_47 zi_3 ?_
        refine pv_goto t_X11_faultOf_48 ?_
        exact pv_ireti t_X11_faultOf_52 rfl (by unfold a_X11_faultOf; rw [if_pos c5, if_pos c18, if_pos c26]) rfl
      · skip
        refine pv_aload_n (i := 0) t_X11_faultOf_29 rfl rfl ?_
        refine sv_getI ((μ 67) 6) t_X11_faultOf_30 fl_X11_94 hh_67 rfl rfl ?_
        refine pv_bipush (v := 99) t_X11_faultOf_33 zb_99 ?_
        refine pv_icmp_ne t_X11_faultOf_35 (fun c35 => ?_) (fun c35 => ?_)
        · skip
          refine pv_iconst (v := 0) t_X11_faultOf_51 zi_0 ?_
          exact pv_ireti t_X11_faultOf_52 rfl (by unfold a_X11_faultOf; rw [if_pos c5, if_pos c18, if_neg c26, if_neg c35]) rfl
        · skip
          refine pv_aload_n (i := 0) t_X11_faultOf_38 rfl rfl ?_
          refine sv_getI ((μ 67) 13) t_X11_faultOf_39 fl_X11_121 hh_67 rfl rfl ?_
          refine pv_bipush (v := 8) t_X11_faultOf_42 zb_8 ?_
          refine pv_icmp_ne t_X11_faultOf_44 (fun c44 => ?_) (fun c44 => ?_)
          · skip
            refine pv_iconst (v := 0) t_X11_faultOf_51 zi_0 ?_
            exact pv_ireti t_X11_faultOf_52 rfl (by unfold a_X11_faultOf; rw [if_pos c5, if_pos c18, if_neg c26, if_pos c35, if_neg c44]) rfl
          · skip
            refine pv_iconst (v := 3) t_X11_faultOf_47 zi_3 ?_
            refine pv_goto t_X11_faultOf_48 ?_
            exact pv_ireti t_X11_faultOf_52 rfl (by unfold a_X11_faultOf; rw [if_pos c5, if_pos c18, if_neg c26, if_pos c35, if_pos c44]) rfl
  · skip
    refine pv_iconst (v := 1) t_X11_faultOf_8 zi_1 ?_
    refine pv_goto t_X11_faultOf_9 ?_
    exact pv_ireti t_X11_faultOf_52 rfl (by unfold a_X11_faultOf; rw [if_neg c5]) rfl
def a_X11_pairOf (a : Nat) (b : Nat) : Int32 := (if ((nI b)) ≤ ((nI a)) then (if ((nI b)) = 0 then ((nI a)) - 1 else ((nI b)) + ((nI a))) else (if ((nI a)) = 0 then ((nI b)) - 1 else ((nI a)) + ((nI b))))
theorem e_X11_pairOf {l : Launch} {X : zX} {d : Nat} {μ : zH} {a : Nat} {b : Nat} : zRn l X mi_X11_pairOf (d + 1) [.inl (nI a), .inl (nI b)] (zSH, μ) (some (.inl (a_X11_pairOf a b))) (zSH, μ) := by
  refine pv_iload_n (i := 0) t_X11_pairOf_0 rfl rfl ?_
  refine pv_iload_n (i := 1) t_X11_pairOf_1 rfl rfl ?_
  refine pv_icmp_ge t_X11_pairOf_2 (fun c2 => ?_) (fun c2 => ?_)
  · skip
    refine pv_iload_n (i := 1) t_X11_pairOf_9 rfl rfl ?_
    refine pv_istore_n (i := 2) t_X11_pairOf_10 rfl (Nat.le_of_ble_eq_true rfl) ?_
    refine pv_iload_n (i := 0) t_X11_pairOf_11 rfl rfl ?_
    refine pv_iload_n (i := 1) t_X11_pairOf_12 rfl rfl ?_
    refine pv_icmp_ge t_X11_pairOf_13 (fun c13 => ?_) (fun c13 => absurd c2 c13)
    refine pv_iload_n (i := 0) t_X11_pairOf_20 rfl rfl ?_
    refine pv_istore_n (i := 3) t_X11_pairOf_21 rfl (Nat.le_of_ble_eq_true rfl) ?_
    refine pv_iload_n (i := 2) t_X11_pairOf_22 rfl rfl ?_
    refine pv_if_ne t_X11_pairOf_23 (fun c23 => ?_) (fun c23 => ?_)
    · skip
      refine pv_iload_n (i := 2) t_X11_pairOf_32 rfl rfl ?_
      refine pv_iload_n (i := 3) t_X11_pairOf_33 rfl rfl ?_
      refine pv_iadd t_X11_pairOf_34 ?_
      exact pv_ireti t_X11_pairOf_35 rfl (by unfold a_X11_pairOf; rw [if_pos c2, if_neg c23]) rfl
    · skip
      refine pv_iload_n (i := 3) t_X11_pairOf_26 rfl rfl ?_
      refine pv_iconst (v := 1) t_X11_pairOf_27 zi_1 ?_
      refine pv_isub t_X11_pairOf_28 ?_
      refine pv_goto t_X11_pairOf_29 ?_
      exact pv_ireti t_X11_pairOf_35 rfl (by unfold a_X11_pairOf; rw [if_pos c2, if_pos c23]) rfl
  · skip
    refine pv_iload_n (i := 0) t_X11_pairOf_5 rfl rfl ?_
    refine pv_goto t_X11_pairOf_6 ?_
    refine pv_istore_n (i := 2) t_X11_pairOf_10 rfl (Nat.le_of_ble_eq_true rfl) ?_
    refine pv_iload_n (i := 0) t_X11_pairOf_11 rfl rfl ?_
    refine pv_iload_n (i := 1) t_X11_pairOf_12 rfl rfl ?_
    refine pv_icmp_ge t_X11_pairOf_13 (fun c13 => absurd c13 c2) (fun c13 => ?_)
    refine pv_iload_n (i := 1) t_X11_pairOf_16 rfl rfl ?_
    refine pv_goto t_X11_pairOf_17 ?_
    refine pv_istore_n (i := 3) t_X11_pairOf_21 rfl (Nat.le_of_ble_eq_true rfl) ?_
    refine pv_iload_n (i := 2) t_X11_pairOf_22 rfl rfl ?_
    refine pv_if_ne t_X11_pairOf_23 (fun c23 => ?_) (fun c23 => ?_)
    · skip
      refine pv_iload_n (i := 2) t_X11_pairOf_32 rfl rfl ?_
      refine pv_iload_n (i := 3) t_X11_pairOf_33 rfl rfl ?_
      refine pv_iadd t_X11_pairOf_34 ?_
      exact pv_ireti t_X11_pairOf_35 rfl (by unfold a_X11_pairOf; rw [if_neg c2, if_neg c23]) rfl
    · skip
      refine pv_iload_n (i := 3) t_X11_pairOf_26 rfl rfl ?_
      refine pv_iconst (v := 1) t_X11_pairOf_27 zi_1 ?_
      refine pv_isub t_X11_pairOf_28 ?_
      refine pv_goto t_X11_pairOf_29 ?_
      exact pv_ireti t_X11_pairOf_35 rfl (by unfold a_X11_pairOf; rw [if_neg c2, if_pos c23]) rfl
def prN (a b : Nat) : Nat := if a < b then (if a = 0 then b - 1 else a + b) else (if b = 0 then a - 1 else b + a)
theorem pr_e : ∀ a, a < 4 → ∀ b, b < 4 → a ≠ b → a_X11_pairOf a b = nI (prN a b) ∧ prN a b < 6 := by decide
theorem nI_ix {x : Int32} {n : Nat} (h : nb x n) (f : Nat → Int32) : f x.toNatClampNeg = f x.toNatClampNeg := rfl
def a_X11_against (f72 : Nat → Int32) : Int32 := (if (f72 24) = 0 then f72 21 else f72 20)
theorem e_X11_against {l : Launch} {X : zX} {d : Nat} {μ : zH} : zRn l X mi_X11_against (d + 1) [.inr 67] (zSH, μ) (some (.inl (a_X11_against (μ 72)))) (zSH, μ) := by
  refine pv_aload_n (i := 0) t_X11_against_0 rfl rfl ?_
  refine pv_getR t_X11_against_1 fl_X11_26 hh_67 rfl ?_
  refine pv_bipush (v := 24) t_X11_against_4 zb_24 ?_
  refine sv_iald ((μ 72) 24) t_X11_against_6 (Or.inl hh_72) (zin (by decide)) rfl ?_
  refine pv_if_ne t_X11_against_7 (fun c7 => ?_) (fun c7 => ?_)
  · skip
    refine pv_aload_n (i := 0) t_X11_against_20 rfl rfl ?_
    refine pv_getR t_X11_against_21 fl_X11_26 hh_67 rfl ?_
    refine pv_bipush (v := 20) t_X11_against_24 zb_20 ?_
    refine sv_iald ((μ 72) 20) t_X11_against_26 (Or.inl hh_72) (zin (by decide)) rfl ?_
    exact pv_ireti t_X11_against_27 rfl (by unfold a_X11_against; rw [if_neg c7]) rfl
  · skip
    refine pv_aload_n (i := 0) t_X11_against_10 rfl rfl ?_
    refine pv_getR t_X11_against_11 fl_X11_26 hh_67 rfl ?_
    refine pv_bipush (v := 21) t_X11_against_14 zb_21 ?_
    refine sv_iald ((μ 72) 21) t_X11_against_16 (Or.inl hh_72) (zin (by decide)) rfl ?_
    refine pv_goto t_X11_against_17 ?_
    exact pv_ireti t_X11_against_27 rfl (by unfold a_X11_against; rw [if_pos c7]) rfl
def a_X11_sideOf (f72 : Nat → Int32) (x : Int32) : Int32 := (if (a_X11_isDuel f72) = 0 then (-1) else (if (f72 20) = x then 0 else (if (f72 21) = x then 1 else (-1))))
theorem e_X11_sideOf {l : Launch} {X : zX} {d : Nat} {μ : zH} {x : Int32} : zRn l X mi_X11_sideOf (d + 3) [.inr 67, .inl (x)] (zSH, μ) (some (.inl (a_X11_sideOf (μ 72) x))) (zSH, μ) := by
  refine pv_aload_n (i := 0) t_X11_sideOf_0 rfl rfl ?_
  refine sv_V0 (a_X11_isDuel (μ 72)) μ t_X11_sideOf_1 ml_X11_152 mo_X11_isDuel hh_67 rfl (Nat.le_of_ble_eq_true rfl) (e_X11_isDuel) (Nat.le_of_ble_eq_true rfl) rfl rfl ?_
  refine pv_if_ne t_X11_sideOf_4 (fun c4 => ?_) (fun c4 => ?_)
  · skip
    refine pv_aload_n (i := 0) t_X11_sideOf_11 rfl rfl ?_
    refine pv_getR t_X11_sideOf_12 fl_X11_26 hh_67 rfl ?_
    refine pv_bipush (v := 20) t_X11_sideOf_15 zb_20 ?_
    refine sv_iald ((μ 72) 20) t_X11_sideOf_17 (Or.inl hh_72) (zin (by decide)) rfl ?_
    refine pv_iload_n (i := 1) t_X11_sideOf_18 rfl rfl ?_
    refine pv_icmp_ne t_X11_sideOf_19 (fun c19 => ?_) (fun c19 => ?_)
    · skip
      refine pv_aload_n (i := 0) t_X11_sideOf_26 rfl rfl ?_
      refine pv_getR t_X11_sideOf_27 fl_X11_26 hh_67 rfl ?_
      refine pv_bipush (v := 21) t_X11_sideOf_30 zb_21 ?_
      refine sv_iald ((μ 72) 21) t_X11_sideOf_32 (Or.inl hh_72) (zin (by decide)) rfl ?_
      refine pv_iload_n (i := 1) t_X11_sideOf_33 rfl rfl ?_
      refine pv_icmp_ne t_X11_sideOf_34 (fun c34 => ?_) (fun c34 => ?_)
      · skip
        refine pv_iconst (v := -1) t_X11_sideOf_41 zi_m1 ?_
        exact pv_ireti t_X11_sideOf_42 rfl (by unfold a_X11_sideOf; rw [if_neg c4, if_neg c19, if_neg c34]) rfl
      · skip
        refine pv_iconst (v := 1) t_X11_sideOf_37 zi_1 ?_
        refine pv_goto t_X11_sideOf_38 ?_
        exact pv_ireti t_X11_sideOf_42 rfl (by unfold a_X11_sideOf; rw [if_neg c4, if_neg c19, if_pos c34]) rfl
    · skip
      refine pv_iconst (v := 0) t_X11_sideOf_22 zi_0 ?_
      refine pv_goto t_X11_sideOf_23 ?_
      exact pv_ireti t_X11_sideOf_42 rfl (by unfold a_X11_sideOf; rw [if_neg c4, if_pos c19]) rfl
  · skip
    refine pv_iconst (v := -1) t_X11_sideOf_7 zi_m1 ?_
    refine pv_goto t_X11_sideOf_8 ?_
    exact pv_ireti t_X11_sideOf_42 rfl (by unfold a_X11_sideOf; rw [if_pos c4]) rfl
theorem sd_nb {f72 : Nat → Int32} {x : Int32} (h : ¬ a_X11_sideOf f72 x = -1) : nb (a_X11_sideOf f72 x) 2 := by
  have h1 : a_X11_sideOf f72 x = -1 ∨ a_X11_sideOf f72 x = 0 ∨ a_X11_sideOf f72 x = 1 := by
    unfold a_X11_sideOf
    repeat' split
    all_goals simp
  rcases h1 with h1 | h1 | h1
  · exact absurd h1 h
  · rw [h1]; exact ⟨by decide, rfl⟩
  · rw [h1]; exact ⟨by decide, rfl⟩
