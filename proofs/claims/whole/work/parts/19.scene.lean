def oC (sh : List zC) (c fo le du : Nat) : Prop := sh[c]? = some (.inr (.inr (8, [some (some fo), some (some le), some (some du), none])))
def bgV (tr va : Nat → Int32) (n : Nat) : Nat → Int32 := fun k => if k < n then trait tr (nI k / 4) (2 + (nI k - nI k / 4 * 4)) else va k
theorem bgV_s (tr va : Nat → Int32) (n : Nat) : upd (bgV tr va n) n (trait tr (nI n / 4) (2 + (nI n - nI n / 4 * 4))) = bgV tr va (n + 1) := by
  funext k
  simp only [upd, bgV]
  by_cases h : k = n
  · subst h; simp
  · by_cases h2 : k < n
    · rw [if_neg h, if_pos h2, if_pos (by omega)]
    · rw [if_neg h, if_neg h2, if_neg (by omega)]
def effS (pa ne dn va ce : Nat → Int32) (c p : Int32) : Int32 := effN pa ne dn va c p (if dSO ce p = -1 then 0 else dTold ce (dSO ce p) (part pa c 0))
def cntM (μ : zH) (lo me po : Nat) (p q r : Int32) : zH := zhs (zhs (zhs μ lo (lcL (μ lo) (μ me) p q r)) me (lcM (μ me) p q)) po (lcP (μ po) p q r)
def uncM (μ : zH) (me po : Nat) (p q r : Int32) : zH := zhs (zhs μ me (luM (μ me) p q)) po (luP (μ po) p q r)
def plC (μ : zH) (tr pa ne dn va a : Nat) (z : Int32) : Nat → Int32 := dPl (μ tr) (μ pa) (μ ne) (μ dn) (μ va) (μ a) z
def plM (μ : zH) (tr pa ne dn va a b : Nat) (z : Int32) : zH := zhs (zhs μ b (dRem (μ a) (μ b))) a (plC μ tr pa ne dn va a z)
def ptM (μ : zH) (tr pa ne dn va a b lo me po : Nat) (z : Int32) : zH := if cell (plC μ tr pa ne dn va a z) 2 = 0 then plM μ tr pa ne dn va a b z else cntM (plM μ tr pa ne dn va a b z) lo me po (dPer (plC μ tr pa ne dn va a z) 0) (dPer (plC μ tr pa ne dn va a z) 1) (cell (plC μ tr pa ne dn va a z) 2)
def sd1 (s : Int32) : Int32 := ((s.toInt64 * 1103515245 + 12345) - (s.toInt64 * 1103515245 + 12345) / 2147483648 * 2147483648).toInt32
def drw (s n : Int32) : Int32 := if 0 < n then sd1 s / 65536 - sd1 s / 65536 / n * n else 0
theorem lp_X2_begin {l : Launch} {X : zX} {d : Nat} {Ψ : List zC} {μ : zH} {m tr pa ne fd : Nat} (hm : oM Ψ m tr pa ne fd) {f dn va : Nat} (hf : oF Ψ f m dn va) : ∀ j i : Nat, i + j = 16 + 1 → i ≤ 16 → ∀ (x : Int32) , x = nI i → zEv l X mi_X2_begin (d + 2) 16 [(0, .inr f), (1, .inl x)] [] (Ψ, zhs μ va (bgV (μ tr) (μ va) i)) 0 0 none (Ψ, zhs μ va (bgV (μ tr) (μ va) 16)) := by
  intro j
  induction j with
  | zero => intro i h h2; omega
  | succ j ih =>
    intro i hij hle x  hx  
    subst hx
    have n1 : tr ≠ va := zne hm.2.1 hf.2.2 (by decide)
    refine pv_iload_n (i := 1) t_X2_begin_16 rfl rfl ?_
    refine pv_aload_n (i := 0) t_X2_begin_17 rfl rfl ?_
    refine pv_getR t_X2_begin_18 fl_X2_15 hf.1 rfl ?_
    refine pv_alen2 t_X2_begin_21 (Or.inl hf.2.2) zof ?_
    refine pv_icmp_ge t_X2_begin_22 (fun c22 => ?_) (fun c22 => ?_)
    · skip
      have hie : i = 16 := by have := (nI_leI (a := 16) (by omega) (by omega)).mp c22; omega
      rw [hie]
      exact pv_vret t_X2_begin_52 rfl rfl
    · skip
      have hin : i < 16 := Nat.lt_of_not_le (fun q => c22 (nI_le (a := 16) q (by omega)))
      refine pv_aload_n (i := 0) t_X2_begin_25 rfl rfl ?_
      refine pv_getR t_X2_begin_26 fl_X2_15 hf.1 rfl ?_
      refine pv_iload_n (i := 1) t_X2_begin_29 rfl rfl ?_
      refine pv_aload_n (i := 0) t_X2_begin_30 rfl rfl ?_
      refine pv_getR t_X2_begin_31 fl_X2_18 hf.1 rfl ?_
      refine pv_iload_n (i := 1) t_X2_begin_34 rfl rfl ?_
      refine pv_iconst (v := 4) t_X2_begin_35 zi_4 ?_
      refine pv_idiv t_X2_begin_36 (by decide) ?_
      refine pv_iconst (v := 2) t_X2_begin_37 zi_2 ?_
      refine pv_iload_n (i := 1) t_X2_begin_38 rfl rfl ?_
      refine pv_iconst (v := 4) t_X2_begin_39 zi_4 ?_
      refine pv_irem t_X2_begin_40 (by decide) ?_
      refine pv_iadd t_X2_begin_41 ?_
      refine pv_gV2 t_X2_begin_42 ml_X2_33 mo_X4_trait hm.1 rfl (Nat.le_of_ble_eq_true rfl) (e_X4_trait hm) (Nat.le_of_ble_eq_true rfl) ?_
      rw [zhs_n _ _ n1]
      refine pv_iast t_X2_begin_45 hf.2.2 (vp_in_nI hin (by decide)) ?_
      refine pv_iinc (v := 1) t_X2_begin_46 rfl zi_1 ?_
      refine pv_goto t_X2_begin_49 ?_
      refine pv_loc (lv' := [(0, _), (1, _)]) ⟨rfl, rfl, trivial⟩ ?_
      refine zst (S2 := (Ψ, zhs μ va (bgV (μ tr) (μ va) (i + 1)))) (by rw [zhs_hs, zhs_s, nI_clamp (by omega), bgV_s]) ?_
      exact ih (i + 1) (by omega) (by omega) _ (nI_1 i)

theorem e_X2_begin {l : Launch} {X : zX} {d : Nat} {Ψ : List zC} {μ : zH} {m tr pa ne fd : Nat} (hm : oM Ψ m tr pa ne fd) {f dn va : Nat} (hf : oF Ψ f m dn va) : zRn l X mi_X2_begin (d + 2) [.inr f] (Ψ, μ) none (Ψ, zhs (zhs μ dn (cpy 4 (μ fd) (μ dn))) va (bgV (μ tr) (μ va) 16)) := by
  refine pv_aload_n (i := 0) t_X2_begin_0 rfl rfl ?_
  refine pv_getR t_X2_begin_1 fl_X2_18 hf.1 rfl ?_
  refine pv_getR t_X2_begin_4 fl_X2_22 hm.1 rfl ?_
  refine pv_aload_n (i := 0) t_X2_begin_7 rfl rfl ?_
  refine pv_getR t_X2_begin_8 fl_X2_9 hf.1 rfl ?_
  refine pv_gS2 t_X2_begin_11 ml_X2_27 mo_X8_copy (Nat.le_of_ble_eq_true rfl) (e_X8_copy hm.2.2.2.2 hf.2.1 (by decide)) (Nat.le_of_ble_eq_true rfl) ?_
  refine pv_iconst (v := 0) t_X2_begin_14 zi_0 ?_
  refine pv_istore_n (i := 1) t_X2_begin_15 rfl (Nat.le_of_ble_eq_true rfl) ?_
  have h9 := lp_X2_begin (l := l) (X := X) (d := d) (μ := zhs μ dn (cpy 4 (μ fd) (μ dn))) hm hf 17 0 (by omega) (by omega) _ rfl
  rw [show bgV (zhs μ dn (cpy 4 (μ fd) (μ dn)) tr) (zhs μ dn (cpy 4 (μ fd) (μ dn)) va) 0 = zhs μ dn (cpy 4 (μ fd) (μ dn)) va from funext (fun k => if_neg (Nat.not_lt_zero k)), zhs_id, zhs_n _ _ (zne hm.2.1 hf.2.1 (by decide)), zhs_n _ _ (zne hf.2.2 hf.2.1 (by decide))] at h9
  exact h9

theorem e_X2_copyFrom {l : Launch} {X : zX} {d : Nat} {Ψ : List zC} {μ : zH} {f m dn va f2 m2 dn2 va2 : Nat} (hf : oF Ψ f m dn va) (hf2 : oF Ψ f2 m2 dn2 va2) : zRn l X mi_X2_copyFrom (d + 2) [.inr f, .inr f2] (Ψ, μ) none (Ψ, zhs (zhs μ dn (cpy 4 (μ dn2) (μ dn))) va (cpy 16 (μ va2) (μ va))) := by
  refine pv_aload_n (i := 1) t_X2_copyFrom_0 rfl rfl ?_
  refine pv_getR t_X2_copyFrom_1 fl_X2_9 hf2.1 rfl ?_
  refine pv_aload_n (i := 0) t_X2_copyFrom_4 rfl rfl ?_
  refine pv_getR t_X2_copyFrom_5 fl_X2_9 hf.1 rfl ?_
  refine pv_gS2 t_X2_copyFrom_8 ml_X2_27 mo_X8_copy (Nat.le_of_ble_eq_true rfl) (e_X8_copy hf2.2.1 hf.2.1 (by decide)) (Nat.le_of_ble_eq_true rfl) ?_
  refine pv_aload_n (i := 1) t_X2_copyFrom_11 rfl rfl ?_
  refine pv_getR t_X2_copyFrom_12 fl_X2_15 hf2.1 rfl ?_
  refine pv_aload_n (i := 0) t_X2_copyFrom_15 rfl rfl ?_
  refine pv_getR t_X2_copyFrom_16 fl_X2_15 hf.1 rfl ?_
  refine pv_gS2 t_X2_copyFrom_19 ml_X2_27 mo_X8_copy (Nat.le_of_ble_eq_true rfl) (e_X8_copy hf2.2.2 hf.2.2 (by decide)) (Nat.le_of_ble_eq_true rfl) ?_
  exact pv_vret t_X2_copyFrom_22 rfl (by rw [zhs_n _ _ (zne hf2.2.2 hf.2.1 (by decide)), zhs_n _ _ (zne hf.2.2 hf.2.1 (by decide))]; rfl)

theorem e_X9_effectNow {l : Launch} {X : zX} {d : Nat} {Ψ : List zC} {μ : zH} {m tr pa ne fd : Nat} (hm : oM Ψ m tr pa ne fd) {f dn va : Nat} (hf : oF Ψ f m dn va) {t a b : Nat} (hd : oD Ψ t a b) {c : Nat} {g po me lo su op : Nat} (hl : oL Ψ g po me lo su op) (hc : oC Ψ c f g t) {z p : Int32} : zRn l X mi_X9_effectNow (d + 4) [.inr c, .inl z, .inl p] (Ψ, μ) (some (.inl (effS (μ pa) (μ ne) (μ dn) (μ va) (μ a) z p))) (Ψ, μ) := by
  refine pv_aload_n (i := 0) t_X9_effectNow_0 rfl rfl ?_
  refine pv_getR t_X9_effectNow_1 fl_X9_21 hc rfl ?_
  refine pv_iload_n (i := 2) t_X9_effectNow_4 rfl rfl ?_
  refine pv_gV1 t_X9_effectNow_5 ml_X9_55 mo_X1_sideOf hd.1 rfl (Nat.le_of_ble_eq_true rfl) (e_X1_sideOf hd) (Nat.le_of_ble_eq_true rfl) ?_
  refine pv_istore_n (i := 3) t_X9_effectNow_8 rfl (Nat.le_of_ble_eq_true rfl) ?_
  refine pv_iload_n (i := 3) t_X9_effectNow_9 rfl rfl ?_
  refine pv_iconst (v := -1) t_X9_effectNow_10 zi_m1 ?_
  refine pv_icmp_ne t_X9_effectNow_11 (fun c11 => ?_) (fun c11 => ?_)
  · skip
    have e9 : (if dSO (μ a) p = -1 then 0 else dTold (μ a) (dSO (μ a) p) (part (μ pa) z 0)) = dTold (μ a) (dSO (μ a) p) (part (μ pa) z 0) := if_neg c11
    refine pv_aload_n (i := 0) t_X9_effectNow_18 rfl rfl ?_
    refine pv_getR t_X9_effectNow_19 fl_X9_21 hc rfl ?_
    refine pv_iload_n (i := 3) t_X9_effectNow_22 rfl rfl ?_
    refine pv_aload_n (i := 0) t_X9_effectNow_23 rfl rfl ?_
    refine pv_getR t_X9_effectNow_24 fl_X9_30 hc rfl ?_
    refine pv_getR t_X9_effectNow_27 fl_X9_59 hf.1 rfl ?_
    refine pv_iload_n (i := 1) t_X9_effectNow_30 rfl rfl ?_
    refine pv_iconst (v := 0) t_X9_effectNow_31 zi_0 ?_
    refine pv_gV2 t_X9_effectNow_32 ml_X9_65 mo_X4_part hm.1 rfl (Nat.le_of_ble_eq_true rfl) (e_X4_part hm) (Nat.le_of_ble_eq_true rfl) ?_
    refine pv_gV2 t_X9_effectNow_35 ml_X9_69 mo_X1_toldTo hd.1 rfl (Nat.le_of_ble_eq_true rfl) (e_X1_toldTo hd) (Nat.le_of_ble_eq_true rfl) ?_
    refine pv_istore t_X9_effectNow_38 (Nat.le_of_ble_eq_true rfl) ?_
    refine pv_aload_n (i := 0) t_X9_effectNow_40 rfl rfl ?_
    refine pv_getR t_X9_effectNow_41 fl_X9_30 hc rfl ?_
    refine pv_iload_n (i := 1) t_X9_effectNow_44 rfl rfl ?_
    refine pv_iload_n (i := 2) t_X9_effectNow_45 rfl rfl ?_
    refine pv_iload t_X9_effectNow_46 rfl ?_
    refine pv_gV3 t_X9_effectNow_48 ml_X9_72 mo_X2_effectOn hf.1 rfl (Nat.le_of_ble_eq_true rfl) (e_X2_effectOn hm hf) (Nat.le_of_ble_eq_true rfl) ?_
    exact pv_ireti t_X9_effectNow_51 rfl (by rw [effS, e9]) rfl
  · skip
    have e9 : (if dSO (μ a) p = -1 then 0 else dTold (μ a) (dSO (μ a) p) (part (μ pa) z 0)) = 0 := if_pos c11
    refine pv_iconst (v := 0) t_X9_effectNow_14 zi_0 ?_
    refine pv_goto t_X9_effectNow_15 ?_
    refine pv_istore t_X9_effectNow_38 (Nat.le_of_ble_eq_true rfl) ?_
    refine pv_aload_n (i := 0) t_X9_effectNow_40 rfl rfl ?_
    refine pv_getR t_X9_effectNow_41 fl_X9_30 hc rfl ?_
    refine pv_iload_n (i := 1) t_X9_effectNow_44 rfl rfl ?_
    refine pv_iload_n (i := 2) t_X9_effectNow_45 rfl rfl ?_
    refine pv_iload t_X9_effectNow_46 rfl ?_
    refine pv_gV3 t_X9_effectNow_48 ml_X9_72 mo_X2_effectOn hf.1 rfl (Nat.le_of_ble_eq_true rfl) (e_X2_effectOn hm hf) (Nat.le_of_ble_eq_true rfl) ?_
    exact pv_ireti t_X9_effectNow_51 rfl (by rw [effS, e9]) rfl

theorem e_X9_playTurn {l : Launch} {X : zX} {d : Nat} {Ψ : List zC} {μ : zH} {m tr pa ne fd : Nat} (hm : oM Ψ m tr pa ne fd) {f dn va : Nat} (hf : oF Ψ f m dn va) {t a b : Nat} (hd : oD Ψ t a b) {c : Nat} {g po me lo su op : Nat} (hl : oL Ψ g po me lo su op) (hc : oC Ψ c f g t) {z : Int32} : zRn l X mi_X9_playTurn (d + 5) [.inr c, .inl z] (Ψ, μ) (some (.inl (cell (plC μ tr pa ne dn va a z) 2))) (Ψ, ptM μ tr pa ne dn va a b lo me po z) := by
  refine pv_aload_n (i := 0) t_X9_playTurn_0 rfl rfl ?_
  refine pv_getR t_X9_playTurn_1 fl_X9_21 hc rfl ?_
  refine pv_iload_n (i := 1) t_X9_playTurn_4 rfl rfl ?_
  refine pv_aload_n (i := 0) t_X9_playTurn_5 rfl rfl ?_
  refine pv_getR t_X9_playTurn_6 fl_X9_30 hc rfl ?_
  refine pv_gV2 t_X9_playTurn_9 ml_X9_76 mo_X1_play hd.1 rfl (Nat.le_of_ble_eq_true rfl) (e_X1_play hm hf hd) (Nat.le_of_ble_eq_true rfl) ?_
  refine zst (S2 := (Ψ, (plM μ tr pa ne dn va a b z))) rfl ?_
  refine pv_aload_n (i := 0) t_X9_playTurn_12 rfl rfl ?_
  refine pv_getR t_X9_playTurn_13 fl_X9_21 hc rfl ?_
  refine pv_iconst (v := 2) t_X9_playTurn_16 zi_2 ?_
  refine pv_gV1 t_X9_playTurn_17 ml_X9_80 mo_X1_cell hd.1 rfl (Nat.le_of_ble_eq_true rfl) (e_X1_cell hd) (Nat.le_of_ble_eq_true rfl) ?_
  rw [show (plM μ tr pa ne dn va a b z) a = (plC μ tr pa ne dn va a z) from zhs_s _ _ _]
  refine pv_istore_n (i := 2) t_X9_playTurn_20 rfl (Nat.le_of_ble_eq_true rfl) ?_
  refine pv_iload_n (i := 2) t_X9_playTurn_21 rfl rfl ?_
  refine pv_if_eq t_X9_playTurn_22 (fun c22 => ?_) (fun c22 => ?_)
  · skip
    refine pv_iload_n (i := 2) t_X9_playTurn_49 rfl rfl ?_
    exact pv_ireti t_X9_playTurn_50 rfl rfl (by first | (rw [ptM, if_pos c22]; done) | (rw [ptM, if_neg c22]; rfl))
  · skip
    refine pv_aload_n (i := 0) t_X9_playTurn_25 rfl rfl ?_
    refine pv_getR t_X9_playTurn_26 fl_X9_12 hc rfl ?_
    refine pv_aload_n (i := 0) t_X9_playTurn_29 rfl rfl ?_
    refine pv_getR t_X9_playTurn_30 fl_X9_21 hc rfl ?_
    refine pv_iconst (v := 0) t_X9_playTurn_33 zi_0 ?_
    refine pv_gV1 t_X9_playTurn_34 ml_X9_83 mo_X1_person hd.1 rfl (Nat.le_of_ble_eq_true rfl) (e_X1_person hd) (Nat.le_of_ble_eq_true rfl) ?_
    rw [show (plM μ tr pa ne dn va a b z) a = (plC μ tr pa ne dn va a z) from zhs_s _ _ _]
    refine pv_aload_n (i := 0) t_X9_playTurn_37 rfl rfl ?_
    refine pv_getR t_X9_playTurn_38 fl_X9_21 hc rfl ?_
    refine pv_iconst (v := 1) t_X9_playTurn_41 zi_1 ?_
    refine pv_gV1 t_X9_playTurn_42 ml_X9_83 mo_X1_person hd.1 rfl (Nat.le_of_ble_eq_true rfl) (e_X1_person hd) (Nat.le_of_ble_eq_true rfl) ?_
    rw [show (plM μ tr pa ne dn va a b z) a = (plC μ tr pa ne dn va a z) from zhs_s _ _ _]
    refine pv_iload_n (i := 2) t_X9_playTurn_45 rfl rfl ?_
    refine pv_gV3 t_X9_playTurn_46 ml_X9_86 mo_X3_count hl.1 rfl (Nat.le_of_ble_eq_true rfl) (e_X3_count hl) (Nat.le_of_ble_eq_true rfl) ?_
    refine pv_iload_n (i := 2) t_X9_playTurn_49 rfl rfl ?_
    exact pv_ireti t_X9_playTurn_50 rfl rfl (by first | (rw [ptM, if_pos c22]; done) | (rw [ptM, if_neg c22]; rfl))

theorem e_X9_takeBack {l : Launch} {X : zX} {d : Nat} {Ψ : List zC} {μ : zH} {m tr pa ne fd : Nat} (hm : oM Ψ m tr pa ne fd) {f dn va : Nat} (hf : oF Ψ f m dn va) {t a b : Nat} (hd : oD Ψ t a b) {c : Nat} {g po me lo su op : Nat} (hl : oL Ψ g po me lo su op) (hc : oC Ψ c f g t) {n : Int32} : zRn l X mi_X9_takeBack (d + 4) [.inr c, .inl n] (Ψ, μ) none (Ψ, zhs (if cell (μ a) 2 = 0 then μ else uncM μ me po (dPer (μ a) 0) (dPer (μ a) 1) (cell (μ a) 2)) a (dTB (μ a) (μ b) n)) := by
  have n1 : a ≠ me := zne hd.2.1 hl.2.2.1 (by decide)
  have n2 : a ≠ po := zne hd.2.1 hl.2.1 (by decide)
  have n3 : b ≠ me := zne hd.2.2 hl.2.2.1 (by decide)
  have n4 : b ≠ po := zne hd.2.2 hl.2.1 (by decide)
  refine pv_aload_n (i := 0) t_X9_takeBack_0 rfl rfl ?_
  refine pv_getR t_X9_takeBack_1 fl_X9_21 hc rfl ?_
  refine pv_iconst (v := 2) t_X9_takeBack_4 zi_2 ?_
  refine pv_gV1 t_X9_takeBack_5 ml_X9_80 mo_X1_cell hd.1 rfl (Nat.le_of_ble_eq_true rfl) (e_X1_cell hd) (Nat.le_of_ble_eq_true rfl) ?_
  refine pv_istore_n (i := 2) t_X9_takeBack_8 rfl (Nat.le_of_ble_eq_true rfl) ?_
  refine pv_iload_n (i := 2) t_X9_takeBack_9 rfl rfl ?_
  refine pv_if_eq t_X9_takeBack_10 (fun c10 => ?_) (fun c10 => ?_)
  · skip
    refine pv_aload_n (i := 0) t_X9_takeBack_37 rfl rfl ?_
    refine pv_getR t_X9_takeBack_38 fl_X9_21 hc rfl ?_
    refine pv_iload_n (i := 1) t_X9_takeBack_41 rfl rfl ?_
    refine pv_gV1 t_X9_takeBack_42 ml_X9_93 mo_X1_takeBack hd.1 rfl (Nat.le_of_ble_eq_true rfl) (e_X1_takeBack hd) (Nat.le_of_ble_eq_true rfl) ?_
    exact pv_vret t_X9_takeBack_45 rfl (by first | (rw [if_pos c10]; done) | (rw [if_neg c10, show uncM μ me po (dPer (μ a) 0) (dPer (μ a) 1) (cell (μ a) 2) = zhs (zhs μ me (luM (μ me) (dPer (μ a) 0) (dPer (μ a) 1))) po (luP (μ po) (dPer (μ a) 0) (dPer (μ a) 1) (cell (μ a) 2)) from rfl]; simp only [zhs_n _ _ n1, zhs_n _ _ n2, zhs_n _ _ n3, zhs_n _ _ n4]))
  · skip
    refine pv_aload_n (i := 0) t_X9_takeBack_13 rfl rfl ?_
    refine pv_getR t_X9_takeBack_14 fl_X9_12 hc rfl ?_
    refine pv_aload_n (i := 0) t_X9_takeBack_17 rfl rfl ?_
    refine pv_getR t_X9_takeBack_18 fl_X9_21 hc rfl ?_
    refine pv_iconst (v := 0) t_X9_takeBack_21 zi_0 ?_
    refine pv_gV1 t_X9_takeBack_22 ml_X9_83 mo_X1_person hd.1 rfl (Nat.le_of_ble_eq_true rfl) (e_X1_person hd) (Nat.le_of_ble_eq_true rfl) ?_
    refine pv_aload_n (i := 0) t_X9_takeBack_25 rfl rfl ?_
    refine pv_getR t_X9_takeBack_26 fl_X9_21 hc rfl ?_
    refine pv_iconst (v := 1) t_X9_takeBack_29 zi_1 ?_
    refine pv_gV1 t_X9_takeBack_30 ml_X9_83 mo_X1_person hd.1 rfl (Nat.le_of_ble_eq_true rfl) (e_X1_person hd) (Nat.le_of_ble_eq_true rfl) ?_
    refine pv_iload_n (i := 2) t_X9_takeBack_33 rfl rfl ?_
    refine pv_gV3 t_X9_takeBack_34 ml_X9_90 mo_X3_uncount hl.1 rfl (Nat.le_of_ble_eq_true rfl) (e_X3_uncount hl) (Nat.le_of_ble_eq_true rfl) ?_
    refine pv_aload_n (i := 0) t_X9_takeBack_37 rfl rfl ?_
    refine pv_getR t_X9_takeBack_38 fl_X9_21 hc rfl ?_
    refine pv_iload_n (i := 1) t_X9_takeBack_41 rfl rfl ?_
    refine pv_gV1 t_X9_takeBack_42 ml_X9_93 mo_X1_takeBack hd.1 rfl (Nat.le_of_ble_eq_true rfl) (e_X1_takeBack hd) (Nat.le_of_ble_eq_true rfl) ?_
    exact pv_vret t_X9_takeBack_45 rfl (by first | (rw [if_pos c10]; done) | (rw [if_neg c10, show uncM μ me po (dPer (μ a) 0) (dPer (μ a) 1) (cell (μ a) 2) = zhs (zhs μ me (luM (μ me) (dPer (μ a) 0) (dPer (μ a) 1))) po (luP (μ po) (dPer (μ a) 0) (dPer (μ a) 1) (cell (μ a) 2)) from rfl]; simp only [zhs_n _ _ n1, zhs_n _ _ n2, zhs_n _ _ n3, zhs_n _ _ n4]))

theorem e_X9_draw {l : Launch} {X : zX} {d : Nat} {Ψ : List zC} {μ : zH} {m tr pa ne fd : Nat} (hm : oM Ψ m tr pa ne fd) {f dn va : Nat} (hf : oF Ψ f m dn va) {t a b : Nat} (hd : oD Ψ t a b) {c : Nat} {g po me lo su op : Nat} (hl : oL Ψ g po me lo su op) (hc : oC Ψ c f g t) {n : Int32} : zRn l X mi_X9_draw (d + 1) [.inr c, .inl n] (Ψ, μ) (some (.inl (drw (μ c 3) n))) (Ψ, zhs μ c (upd (μ c) 3 (sd1 (μ c 3)))) := by
  refine pv_aload_n (i := 0) t_X9_draw_0 rfl rfl ?_
  refine pv_aload_n (i := 0) t_X9_draw_1 rfl rfl ?_
  refine pv_getI t_X9_draw_2 fl_X9_51 hc rfl ?_
  refine pv_draw t_X9_draw_5 t_X9_draw_6 kl_X9_109 t_X9_draw_9 t_X9_draw_10 kl_X9_111 t_X9_draw_13 t_X9_draw_14 kl_X9_113 (by decide) t_X9_draw_17 t_X9_draw_18 rfl ?_
  refine pv_putI t_X9_draw_19 fl_X9_51 zfn_8_3 hc rfl ?_
  refine zst (S2 := (Ψ, zhs μ c (upd (μ c) 3 (sd1 (μ c 3))))) rfl ?_
  refine pv_iload_n (i := 1) t_X9_draw_22 rfl rfl ?_
  refine pv_if_le t_X9_draw_23 (fun c23 => ?_) (fun c23 => ?_)
  · skip
    refine pv_iconst (v := 0) t_X9_draw_38 zi_0 ?_
    exact pv_ireti t_X9_draw_39 rfl (by first | (rw [drw, if_neg (Int32.not_lt.mpr c23)]) | (rw [drw, if_pos (Int32.not_le.mp c23)])) rfl
  · skip
    refine pv_aload_n (i := 0) t_X9_draw_26 rfl rfl ?_
    refine pv_getI t_X9_draw_27 fl_X9_51 hc rfl ?_
    rw [show zhs μ c (upd (μ c) 3 (sd1 (μ c 3))) c 3 = sd1 (μ c 3) from by rw [zhs_s]; rfl]
    refine pv_ldc t_X9_draw_30 kc_X9_115 ?_
    refine pv_idiv t_X9_draw_32 (by decide) ?_
    refine pv_iload_n (i := 1) t_X9_draw_33 rfl rfl ?_
    refine pv_irem t_X9_draw_34 (fun q => c23 (by rw [q]; decide)) ?_
    refine pv_goto t_X9_draw_35 ?_
    exact pv_ireti t_X9_draw_39 rfl (by first | (rw [drw, if_neg (Int32.not_lt.mpr c23)]) | (rw [drw, if_pos (Int32.not_le.mp c23)])) rfl

theorem e_X9_drawTurn {l : Launch} {X : zX} {d : Nat} {Ψ : List zC} {μ : zH} {m tr pa ne fd : Nat} (hm : oM Ψ m tr pa ne fd) {f dn va : Nat} (hf : oF Ψ f m dn va) {t a b : Nat} (hd : oD Ψ t a b) {c : Nat} {g po me lo su op : Nat} (hl : oL Ψ g po me lo su op) (hc : oC Ψ c f g t) {nc : Nat} (hnc : μ m 1 = nI nc) (hc8 : nc ≤ 8) : zRn l X mi_X9_drawTurn (d + 4) [.inr c] (Ψ, μ) (some (.inl (dUA (μ a) nc 0 (drw (μ c 3) (dUC (μ a) nc + 1))))) (Ψ, zhs μ c (upd (μ c) 3 (sd1 (μ c 3)))) := by
  refine pv_aload_n (i := 0) t_X9_drawTurn_0 rfl rfl ?_
  refine pv_getR t_X9_drawTurn_1 fl_X9_21 hc rfl ?_
  refine pv_aload_n (i := 0) t_X9_drawTurn_4 rfl rfl ?_
  refine pv_getR t_X9_drawTurn_5 fl_X9_30 hc rfl ?_
  refine pv_getR t_X9_drawTurn_8 fl_X9_59 hf.1 rfl ?_
  refine pv_getI t_X9_drawTurn_11 fl_X9_97 hm.1 rfl ?_
  rw [hnc]
  refine pv_gV1 t_X9_drawTurn_14 ml_X9_100 mo_X1_unsaidCount hd.1 rfl (Nat.le_of_ble_eq_true rfl) (e_X1_unsaidCount hd hc8) (Nat.le_of_ble_eq_true rfl) ?_
  refine pv_istore_n (i := 1) t_X9_drawTurn_17 rfl (Nat.le_of_ble_eq_true rfl) ?_
  refine pv_aload_n (i := 0) t_X9_drawTurn_18 rfl rfl ?_
  refine pv_getR t_X9_drawTurn_19 fl_X9_21 hc rfl ?_
  refine pv_aload_n (i := 0) t_X9_drawTurn_22 rfl rfl ?_
  refine pv_iload_n (i := 1) t_X9_drawTurn_23 rfl rfl ?_
  refine pv_iconst (v := 1) t_X9_drawTurn_24 zi_1 ?_
  refine pv_iadd t_X9_drawTurn_25 ?_
  refine pv_gV1 t_X9_drawTurn_26 ml_X9_103 mo_X9_draw hc rfl (Nat.le_of_ble_eq_true rfl) (e_X9_draw hm hf hd hl hc) (Nat.le_of_ble_eq_true rfl) ?_
  refine pv_aload_n (i := 0) t_X9_drawTurn_29 rfl rfl ?_
  refine pv_getR t_X9_drawTurn_30 fl_X9_30 hc rfl ?_
  refine pv_getR t_X9_drawTurn_33 fl_X9_59 hf.1 rfl ?_
  refine pv_getI t_X9_drawTurn_36 fl_X9_97 hm.1 rfl ?_
  rw [show zhs μ c (upd (μ c) 3 (sd1 (μ c 3))) m 1 = μ m 1 from congrFun (zhs_n _ _ (zne hm.1 hc (by simp))) 1, hnc]
  refine pv_gV2 t_X9_drawTurn_39 ml_X9_106 mo_X1_unsaidAt hd.1 rfl (Nat.le_of_ble_eq_true rfl) (e_X1_unsaidAt hd hc8) (Nat.le_of_ble_eq_true rfl) ?_
  rw [show zhs μ c (upd (μ c) 3 (sd1 (μ c 3))) a = μ a from zhs_n _ _ (zne hd.2.1 hc (by simp))]
  exact pv_ireti t_X9_drawTurn_42 rfl rfl rfl

