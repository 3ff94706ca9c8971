theorem rsH_id (μ : zH) (rw fr rs : Nat) (h : rs ≠ rw ∧ rs ≠ fr ∧ rw ≠ fr) : rsH μ rw fr rs (μ rw, (μ fr, (μ rs 6, μ rs 7))) = μ := by
  simp only [rsH, zhs_id]
  rw [show upd (upd (μ rs) 6 (μ rs 6)) 7 (μ rs 7) = μ rs from by funext k; simp only [upd]; by_cases h7 : k = 7 <;> by_cases h6 : k = 6 <;> simp_all, zhs_id]
theorem e_X7_extend {l : Launch} {X : zX} {d : Nat} {Ψ : List zC} {m tr pa ne fd : Nat} (hm : oM Ψ m tr pa ne fd) {f dn va : Nat} (hf : oF Ψ f m dn va) {n wa ch bo ps : Nat} (hn : oN Ψ n wa ch bo ps) {rs rw tm fr : Nat} (hr : oRS Ψ rs f n rw tm fr dn ch) {kc nc : Nat} (hc8 : nc ≤ 8) (hk4 : kc ≤ 4) : ∀ j p : Nat, p + j = 4 → ∀ μ : zH, μ m 1 = nI nc → μ n 5 = nI kc → ∀ bl bg : Int32, zRn l X mi_X7_extend (d + j + 5) [.inr rs, .inl (nI p), .inl bl, .inl bg] (Ψ, μ) none (Ψ, rsH μ rw fr rs (exS (μ tr) (μ pa) (μ ne) (μ dn) (μ va) (μ ch) (μ rs 5) kc nc j p bl bg (μ tm) (μ rw, (μ fr, (μ rs 6, μ rs 7))))) := by
  intro j
  induction j with
  | zero =>
    intro p hp μ hnc hkc bl bg
    show zEv l X mi_X7_extend (d + 5) 0 (zent 0 [.inr rs, .inl (nI p), .inl bl, .inl bg]) [] (Ψ, μ) 0 0 _ _
    refine pv_iload_n (i := 1) t_X7_extend_0 rfl rfl ?_
    refine pv_aload_n (i := 0) t_X7_extend_1 rfl rfl ?_
    refine pv_getR t_X7_extend_2 fl_X7_27 hr.1 rfl ?_
    refine pv_getI t_X7_extend_5 fl_X7_67 hn.1 rfl ?_
    refine pv_icmp_ge t_X7_extend_8 (fun c8 => ?_) (fun c8 => ?_)
    · skip
      rw [hkc] at c8
      have hq : kc ≤ p := (nI_leI (by omega) (by omega)).mp c8
      refine pv_aload_n (i := 0) t_X7_extend_16 rfl rfl ?_
      refine pv_iload_n (i := 3) t_X7_extend_17 rfl rfl ?_
      refine pv_gV1 t_X7_extend_18 ml_X7_74 mo_X7_addRow hr.1 rfl (Nat.le_of_ble_eq_true rfl) (e_X7_addRow hm hf hn hr) (Nat.le_of_ble_eq_true rfl) ?_
      exact pv_vret t_X7_extend_21 rfl rfl
    · skip
      rw [hkc] at c8
      have hq : ¬ kc ≤ p := fun q => c8 (nI_le q (by omega))
      refine pv_iload_n (i := 1) t_X7_extend_11 rfl rfl ?_
      refine pv_iconst (v := 4) t_X7_extend_12 zi_4 ?_
      refine pv_icmp_lt t_X7_extend_13 (fun c13 => absurd c13 (by rw [show p = 4 by omega]; decide)) (fun c13 => ?_)
      refine pv_aload_n (i := 0) t_X7_extend_16 rfl rfl ?_
      refine pv_iload_n (i := 3) t_X7_extend_17 rfl rfl ?_
      refine pv_gV1 t_X7_extend_18 ml_X7_74 mo_X7_addRow hr.1 rfl (Nat.le_of_ble_eq_true rfl) (e_X7_addRow hm hf hn hr) (Nat.le_of_ble_eq_true rfl) ?_
      exact pv_vret t_X7_extend_21 rfl rfl
  | succ j ih =>
    intro p hp μ hnc hkc bl bg
    show zEv l X mi_X7_extend (d + j + 5 + 1) 0 (zent 0 [.inr rs, .inl (nI p), .inl bl, .inl bg]) [] (Ψ, μ) 0 0 _ _
    refine pv_iload_n (i := 1) t_X7_extend_0 rfl rfl ?_
    refine pv_aload_n (i := 0) t_X7_extend_1 rfl rfl ?_
    refine pv_getR t_X7_extend_2 fl_X7_27 hr.1 rfl ?_
    refine pv_getI t_X7_extend_5 fl_X7_67 hn.1 rfl ?_
    refine pv_icmp_ge t_X7_extend_8 (fun c8 => ?_) (fun c8 => ?_)
    · skip
      rw [hkc] at c8
      have hq : kc ≤ p := (nI_leI (by omega) (by omega)).mp c8
      refine pv_aload_n (i := 0) t_X7_extend_16 rfl rfl ?_
      refine pv_iload_n (i := 3) t_X7_extend_17 rfl rfl ?_
      refine pv_gV1 t_X7_extend_18 ml_X7_74 mo_X7_addRow hr.1 rfl (Nat.le_of_ble_eq_true rfl) (e_X7_addRow hm hf hn hr) (Nat.le_of_ble_eq_true rfl) ?_
      exact pv_vret t_X7_extend_21 rfl (by rw [exS_e, if_pos hq])
    · skip
      rw [hkc] at c8
      have hq : ¬ kc ≤ p := fun q => c8 (nI_le q (by omega))
      refine pv_iload_n (i := 1) t_X7_extend_11 rfl rfl ?_
      refine pv_iconst (v := 4) t_X7_extend_12 zi_4 ?_
      refine pv_icmp_lt t_X7_extend_13 (fun c13 => ?_) (fun c13 => absurd (nI_lt (show p < 4 by omega) (by decide)) c13)
      refine pv_aload_n (i := 0) t_X7_extend_22 rfl rfl ?_
      refine pv_getR t_X7_extend_23 fl_X7_23 hr.1 rfl ?_
      refine pv_astore t_X7_extend_26 (Nat.le_of_ble_eq_true rfl) ?_
      refine pv_aload_n (i := 0) t_X7_extend_28 rfl rfl ?_
      refine pv_getI t_X7_extend_29 fl_X7_44 hr.1 rfl ?_
      refine pv_istore t_X7_extend_32 (Nat.le_of_ble_eq_true rfl) ?_
      refine pv_iconst (v := 0) t_X7_extend_34 zi_0 ?_
      refine pv_istore t_X7_extend_35 (Nat.le_of_ble_eq_true rfl) ?_
      rw [exS_e, if_neg hq]
      have h9 := lp_X7_extend (l := l) (X := X) (μ := μ) (dd := d + j) (j := j) (p := p) (bl := bl) (bg := bg) (z0 := (μ rw, (μ fr, (μ rs 6, μ rs 7)))) hm hf hn hr hnc hc8 hkc hk4 (fun ν g1 g2 b1 q1 => by rw [nI_1]; exact ih (p + 1) (by omega) ν g1 g2 b1 q1) (nc + 1) 0 (by omega) (by omega) _ (μ rw, (μ fr, (μ rs 6, μ rs 7))) rfl rfl
      rw [rsH_id _ _ _ _ ⟨zne hr.1 hr.2.1 (by simp), zne hr.1 hr.2.2.2.1 (by simp), hr.2.2.2.2.1.2.1⟩] at h9
      exact h9

def tmS (ce tm : Nat → Int32) (o : Int32) : Nat → (Nat → Int32) := zfold (fun t f => rP f 4 (nI t) (dTold ce o (nI t))) tm
theorem tmS_s (ce tm : Nat → Int32) (o : Int32) (t : Nat) : tmS ce tm o (t + 1) = rP (tmS ce tm o t) 4 (nI t) (dTold ce o (nI t)) := rfl
theorem lp_X7_findT {l : Launch} {X : zX} {d : Nat} {Ψ : List zC} {μ : zH} {m tr pa ne fd : Nat} (hm : oM Ψ m tr pa ne fd) {f dn va : Nat} (hf : oF Ψ f m dn va) {n wa ch bo ps : Nat} (hn : oN Ψ n wa ch bo ps) {rs rw tm fr : Nat} (hr : oRS Ψ rs f n rw tm fr dn ch) {t a b : Nat} (hd : oD Ψ t a b) {o g9 : Int32} {r : Option zV} {S9 : zS} (K : zEv l X mi_X7_findAll (d + 3) 53 [(0, .inr rs), (1, .inr t), (2, .inl o), (3, .inl g9)] [] (Ψ, zhs μ tm (tmS (μ a) (μ tm) o 4)) 0 0 r S9) : ∀ j i : Nat, i + j = 4 + 1 → i ≤ 4 → ∀ (x : Int32) , x = nI i → zEv l X mi_X7_findAll (d + 3) 25 [(0, .inr rs), (1, .inr t), (2, .inl o), (3, .inl g9), (4, .inl x)] [] (Ψ, zhs μ tm (tmS (μ a) (μ tm) o i)) 0 0 r S9 := by
  intro j
  induction j with
  | zero => intro i h h2; omega
  | succ j ih =>
    intro i hij hle x  hx  
    subst hx
    have a1 : a ≠ tm := zne hd.2.1 hr.2.2.1 (by decide)
    refine pv_iload t_X7_findAll_25 rfl ?_
    refine pv_iconst (v := 4) t_X7_findAll_27 zi_4 ?_
    refine pv_icmp_ge t_X7_findAll_28 (fun c28 => ?_) (fun c28 => ?_)
    · skip
      have hie : i = 4 := by have := (nI_leI (a := 4) (by omega) (by omega)).mp c28; omega
      rw [hie]
      refine pv_loc (lv' := [(0, _), (1, _), (2, _), (3, _)]) ⟨rfl, rfl, rfl, rfl, trivial⟩ ?_
      exact K
    · skip
      have hin : i < 4 := Nat.lt_of_not_le (fun q => c28 (nI_le (a := 4) q (by omega)))
      refine pv_aload_n (i := 0) t_X7_findAll_31 rfl rfl ?_
      refine pv_getR t_X7_findAll_32 fl_X7_17 hr.1 rfl ?_
      refine pv_iload t_X7_findAll_35 rfl ?_
      refine pv_aload_n (i := 1) t_X7_findAll_37 rfl rfl ?_
      refine pv_iload_n (i := 2) t_X7_findAll_38 rfl rfl ?_
      refine pv_iload t_X7_findAll_39 rfl ?_
      refine pv_gV2 t_X7_findAll_41 ml_X7_47 mo_X1_toldTo hd.1 rfl (Nat.le_of_ble_eq_true rfl) (e_X1_toldTo hd) (Nat.le_of_ble_eq_true rfl) ?_
      rw [zhs_n _ _ a1]
      refine pv_gS3 t_X7_findAll_44 ml_X7_51 mo_X8_put (Nat.le_of_ble_eq_true rfl) (e_X8_put hr.2.2.1 (by decide)) (Nat.le_of_ble_eq_true rfl) ?_
      refine pv_iinc (v := 1) t_X7_findAll_47 rfl zi_1 ?_
      refine pv_goto t_X7_findAll_50 ?_
      refine pv_loc (lv' := [(0, _), (1, _), (2, _), (3, _), (4, _)]) ⟨rfl, rfl, rfl, rfl, rfl, trivial⟩ ?_
      refine zst (S2 := (Ψ, zhs μ tm (tmS (μ a) (μ tm) o (i + 1)))) (by rw [zhs_hs, zhs_s, tmS_s]) ?_
      exact ih (i + 1) (by omega) (by omega) _ (nI_1 i)

theorem fa6 (f : Nat → Int32) (p : Int32) : upd (upd (upd f 5 p) 6 0) 7 (-1) 6 = 0 := rfl
theorem fa7 (f : Nat → Int32) (p : Int32) : upd (upd (upd f 5 p) 6 0) 7 (-1) 7 = -1 := rfl
theorem fa5 (f : Nat → Int32) (p : Int32) : upd (upd (upd f 5 p) 6 0) 7 (-1) 5 = p := rfl
theorem fa_eq {μ : zH} {rs tm : Nat} (h : rs ≠ tm) (T : Nat → Int32) (p a b : Int32) : zhs (zhs (zhs (zhs μ rs (upd (μ rs) 5 p)) tm T) rs (upd (zhs (zhs μ rs (upd (μ rs) 5 p)) tm T rs) 6 a)) rs (upd (zhs (zhs (zhs μ rs (upd (μ rs) 5 p)) tm T) rs (upd (zhs (zhs μ rs (upd (μ rs) 5 p)) tm T rs) 6 a) rs) 7 b) = zhs (zhs μ tm T) rs (upd (upd (upd (μ rs) 5 p) 6 a) 7 b) := by
  rw [zhs_s, zhs_n _ _ h, zhs_s, zhs_hs]
  funext k
  by_cases h1 : k = rs
  · subst h1; rw [zhs_s, zhs_s]
  · rw [zhs_n _ _ h1, zhs_n _ _ h1]
    by_cases h2 : k = tm
    · subst h2; rw [zhs_s, zhs_s]
    · rw [zhs_n _ _ h2, zhs_n _ _ h2, zhs_n _ _ h1]
theorem e_X7_findAll {l : Launch} {X : zX} {d : Nat} {Ψ : List zC} {μ : zH} {m tr pa ne fd : Nat} (hm : oM Ψ m tr pa ne fd) {f dn va : Nat} (hf : oF Ψ f m dn va) {n wa ch bo ps : Nat} (hn : oN Ψ n wa ch bo ps) {rs rw tm fr : Nat} (hr : oRS Ψ rs f n rw tm fr dn ch) {t a b : Nat} (hd : oD Ψ t a b) {kc nc : Nat} (hnc : μ m 1 = nI nc) (hc8 : nc ≤ 8) (hkc : μ n 5 = nI kc) (hk4 : kc ≤ 4) : zRn l X mi_X7_findAll (d + 4 + 5 + 1) [.inr rs, .inr t] (Ψ, μ) none (Ψ, zhs (rsH (zhs (zhs μ tm (tmS (μ a) (μ tm) (1 - dSd (μ a)) 4)) rs (upd (upd (upd (μ rs) 5 (dPer (μ a) (1 - dSd (μ a)))) 6 0) 7 (-1))) rw fr rs (exS (μ tr) (μ pa) (μ ne) (μ dn) (μ va) (μ ch) (dPer (μ a) (1 - dSd (μ a))) kc nc 4 0 (cell (μ a) (6 + (1 - dSd (μ a)))) (cell (μ a) 4) (tmS (μ a) (μ tm) (1 - dSd (μ a)) 4) (μ rw, (μ fr, (0, -1))))) rs (upd (rsH (zhs (zhs μ tm (tmS (μ a) (μ tm) (1 - dSd (μ a)) 4)) rs (upd (upd (upd (μ rs) 5 (dPer (μ a) (1 - dSd (μ a)))) 6 0) 7 (-1))) rw fr rs (exS (μ tr) (μ pa) (μ ne) (μ dn) (μ va) (μ ch) (dPer (μ a) (1 - dSd (μ a))) kc nc 4 0 (cell (μ a) (6 + (1 - dSd (μ a)))) (cell (μ a) 4) (tmS (μ a) (μ tm) (1 - dSd (μ a)) 4) (μ rw, (μ fr, (0, -1)))) rs) 7 (if (exS (μ tr) (μ pa) (μ ne) (μ dn) (μ va) (μ ch) (dPer (μ a) (1 - dSd (μ a))) kc nc 4 0 (cell (μ a) (6 + (1 - dSd (μ a)))) (cell (μ a) 4) (tmS (μ a) (μ tm) (1 - dSd (μ a)) 4) (μ rw, (μ fr, (0, -1)))).2.2.1 = 0 then 0 else (exS (μ tr) (μ pa) (μ ne) (μ dn) (μ va) (μ ch) (dPer (μ a) (1 - dSd (μ a))) kc nc 4 0 (cell (μ a) (6 + (1 - dSd (μ a)))) (cell (μ a) 4) (tmS (μ a) (μ tm) (1 - dSd (μ a)) 4) (μ rw, (μ fr, (0, -1)))).2.2.2 &&& ((cell (μ a) 4) ^^^ -1)))) := by
  have q_tr_rw : tr ≠ rw := zne hm.2.1 hr.2.1 (by simp)
  have q_tr_tm : tr ≠ tm := zne hm.2.1 hr.2.2.1 (by simp)
  have q_tr_fr : tr ≠ fr := zne hm.2.1 hr.2.2.2.1 (by simp)
  have q_tr_rs : tr ≠ rs := zne hm.2.1 hr.1 (by simp)
  have q_pa_rw : pa ≠ rw := zne hm.2.2.1 hr.2.1 (by simp)
  have q_pa_tm : pa ≠ tm := zne hm.2.2.1 hr.2.2.1 (by simp)
  have q_pa_fr : pa ≠ fr := zne hm.2.2.1 hr.2.2.2.1 (by simp)
  have q_pa_rs : pa ≠ rs := zne hm.2.2.1 hr.1 (by simp)
  have q_ne_rw : ne ≠ rw := zne hm.2.2.2.1 hr.2.1 (by simp)
  have q_ne_tm : ne ≠ tm := zne hm.2.2.2.1 hr.2.2.1 (by simp)
  have q_ne_fr : ne ≠ fr := zne hm.2.2.2.1 hr.2.2.2.1 (by simp)
  have q_ne_rs : ne ≠ rs := zne hm.2.2.2.1 hr.1 (by simp)
  have q_va_rw : va ≠ rw := zne hf.2.2 hr.2.1 (by simp)
  have q_va_tm : va ≠ tm := zne hf.2.2 hr.2.2.1 (by simp)
  have q_va_fr : va ≠ fr := zne hf.2.2 hr.2.2.2.1 (by simp)
  have q_va_rs : va ≠ rs := zne hf.2.2 hr.1 (by simp)
  have q_dn_rw : dn ≠ rw := hr.2.2.2.2.2.1.1
  have q_dn_tm : dn ≠ tm := hr.2.2.2.2.2.1.2.1
  have q_dn_fr : dn ≠ fr := hr.2.2.2.2.2.1.2.2
  have q_dn_rs : dn ≠ rs := zne hf.2.1 hr.1 (by simp)
  have q_ch_rw : ch ≠ rw := hr.2.2.2.2.2.2.1
  have q_ch_tm : ch ≠ tm := hr.2.2.2.2.2.2.2.1
  have q_ch_fr : ch ≠ fr := hr.2.2.2.2.2.2.2.2
  have q_ch_rs : ch ≠ rs := zne hn.2.2.1 hr.1 (by simp)
  have q_m_rw : m ≠ rw := zne hm.1 hr.2.1 (by simp)
  have q_m_tm : m ≠ tm := zne hm.1 hr.2.2.1 (by simp)
  have q_m_fr : m ≠ fr := zne hm.1 hr.2.2.2.1 (by simp)
  have q_m_rs : m ≠ rs := zne hm.1 hr.1 (by simp)
  have q_n_rw : n ≠ rw := zne hn.1 hr.2.1 (by simp)
  have q_n_tm : n ≠ tm := zne hn.1 hr.2.2.1 (by simp)
  have q_n_fr : n ≠ fr := zne hn.1 hr.2.2.2.1 (by simp)
  have q_n_rs : n ≠ rs := zne hn.1 hr.1 (by simp)
  have r1 : rs ≠ rw := zne hr.1 hr.2.1 (by simp)
  have r2 : rs ≠ tm := zne hr.1 hr.2.2.1 (by simp)
  have r3 : rs ≠ fr := zne hr.1 hr.2.2.2.1 (by simp)
  have s1 : rw ≠ tm := hr.2.2.2.2.1.1
  have s2 : rw ≠ fr := hr.2.2.2.2.1.2.1
  have s3 : tm ≠ fr := hr.2.2.2.2.1.2.2
  have a1 : a ≠ tm := zne hd.2.1 hr.2.2.1 (by decide)
  have a2 : a ≠ rs := zne hd.2.1 hr.1 (by simp)
  have a3 : a ≠ rw := zne hd.2.1 hr.2.1 (by decide)
  have a4 : a ≠ fr := zne hd.2.1 hr.2.2.2.1 (by decide)
  refine pv_iconst (v := 1) t_X7_findAll_0 zi_1 ?_
  refine pv_aload_n (i := 1) t_X7_findAll_1 rfl rfl ?_
  refine pv_gV0 t_X7_findAll_2 ml_X7_31 mo_X1_side hd.1 rfl (Nat.le_of_ble_eq_true rfl) (e_X1_side hd) (Nat.le_of_ble_eq_true rfl) ?_
  refine pv_isub t_X7_findAll_5 ?_
  refine pv_istore_n (i := 2) t_X7_findAll_6 rfl (Nat.le_of_ble_eq_true rfl) ?_
  refine pv_aload_n (i := 1) t_X7_findAll_7 rfl rfl ?_
  refine pv_iconst (v := 4) t_X7_findAll_8 zi_4 ?_
  refine pv_gV1 t_X7_findAll_9 ml_X7_37 mo_X1_cell hd.1 rfl (Nat.le_of_ble_eq_true rfl) (e_X1_cell hd) (Nat.le_of_ble_eq_true rfl) ?_
  refine pv_istore_n (i := 3) t_X7_findAll_12 rfl (Nat.le_of_ble_eq_true rfl) ?_
  refine pv_aload_n (i := 0) t_X7_findAll_13 rfl rfl ?_
  refine pv_aload_n (i := 1) t_X7_findAll_14 rfl rfl ?_
  refine pv_iload_n (i := 2) t_X7_findAll_15 rfl rfl ?_
  refine pv_gV1 t_X7_findAll_16 ml_X7_41 mo_X1_person hd.1 rfl (Nat.le_of_ble_eq_true rfl) (e_X1_person hd) (Nat.le_of_ble_eq_true rfl) ?_
  refine pv_putI t_X7_findAll_19 fl_X7_44 zfn_7_5 hr.1 rfl ?_
  refine pv_iconst (v := 0) t_X7_findAll_22 zi_0 ?_
  refine pv_istore t_X7_findAll_23 (Nat.le_of_ble_eq_true rfl) ?_
  refine zst (S2 := (Ψ, zhs (zhs μ rs (upd (μ rs) 5 (dPer (μ a) (1 - dSd (μ a))))) tm (tmS ((zhs μ rs (upd (μ rs) 5 (dPer (μ a) (1 - dSd (μ a))))) a) ((zhs μ rs (upd (μ rs) 5 (dPer (μ a) (1 - dSd (μ a))))) tm) (1 - dSd (μ a)) 0))) (congrArg (Prod.mk _) (zhs_id _ _).symm) ?_
  refine lp_X7_findT (μ := (zhs μ rs (upd (μ rs) 5 (dPer (μ a) (1 - dSd (μ a)))))) hm hf hn hr hd ?_ 5 0 (by omega) (by omega) _ rfl
  refine pv_aload_n (i := 0) t_X7_findAll_53 rfl rfl ?_
  refine pv_iconst (v := 0) t_X7_findAll_54 zi_0 ?_
  refine pv_putI t_X7_findAll_55 fl_X7_57 zfn_7_6 hr.1 rfl ?_
  refine pv_aload_n (i := 0) t_X7_findAll_58 rfl rfl ?_
  refine pv_iconst (v := -1) t_X7_findAll_59 zi_m1 ?_
  refine pv_putI t_X7_findAll_60 fl_X7_60 zfn_7_7 hr.1 rfl ?_
  refine zst (S2 := (Ψ, (zhs (zhs μ tm (tmS (μ a) (μ tm) (1 - dSd (μ a)) 4)) rs (upd (upd (upd (μ rs) 5 (dPer (μ a) (1 - dSd (μ a)))) 6 0) 7 (-1))))) (by simp only [zhs_n _ _ a2, zhs_n _ _ (Ne.symm r2)]; exact congrArg (Prod.mk _) (fa_eq r2 _ _ _ _)) ?_
  refine pv_aload_n (i := 0) t_X7_findAll_63 rfl rfl ?_
  refine pv_iconst (v := 0) t_X7_findAll_64 zi_0 ?_
  refine pv_aload_n (i := 1) t_X7_findAll_65 rfl rfl ?_
  refine pv_bipush (v := 6) t_X7_findAll_66 zb_6 ?_
  refine pv_iload_n (i := 2) t_X7_findAll_68 rfl rfl ?_
  refine pv_iadd t_X7_findAll_69 ?_
  refine pv_gV1 t_X7_findAll_70 ml_X7_37 mo_X1_cell hd.1 rfl (Nat.le_of_ble_eq_true rfl) (e_X1_cell hd) (Nat.le_of_ble_eq_true rfl) ?_
  rw [show (zhs (zhs μ tm (tmS (μ a) (μ tm) (1 - dSd (μ a)) 4)) rs (upd (upd (upd (μ rs) 5 (dPer (μ a) (1 - dSd (μ a)))) 6 0) 7 (-1))) a = μ a from by simp only [zhs_n _ _ a1, zhs_n _ _ a2]]
  refine pv_iload_n (i := 3) t_X7_findAll_73 rfl rfl ?_
  refine pv_gS4 t_X7_findAll_74 ml_X7_63 mo_X7_extend (Nat.le_of_ble_eq_true rfl) (e_X7_extend (d := d) hm hf hn hr hc8 hk4 4 0 rfl (zhs (zhs μ tm (tmS (μ a) (μ tm) (1 - dSd (μ a)) 4)) rs (upd (upd (upd (μ rs) 5 (dPer (μ a) (1 - dSd (μ a)))) 6 0) 7 (-1))) (by simp only [zhs_n _ _ q_tr_rw, zhs_n _ _ q_tr_tm, zhs_n _ _ q_tr_fr, zhs_n _ _ q_tr_rs, zhs_n _ _ q_pa_rw, zhs_n _ _ q_pa_tm, zhs_n _ _ q_pa_fr, zhs_n _ _ q_pa_rs, zhs_n _ _ q_ne_rw, zhs_n _ _ q_ne_tm, zhs_n _ _ q_ne_fr, zhs_n _ _ q_ne_rs, zhs_n _ _ q_va_rw, zhs_n _ _ q_va_tm, zhs_n _ _ q_va_fr, zhs_n _ _ q_va_rs, zhs_n _ _ q_dn_rw, zhs_n _ _ q_dn_tm, zhs_n _ _ q_dn_fr, zhs_n _ _ q_dn_rs, zhs_n _ _ q_ch_rw, zhs_n _ _ q_ch_tm, zhs_n _ _ q_ch_fr, zhs_n _ _ q_ch_rs, zhs_n _ _ q_m_rw, zhs_n _ _ q_m_tm, zhs_n _ _ q_m_fr, zhs_n _ _ q_m_rs, zhs_n _ _ q_n_rw, zhs_n _ _ q_n_tm, zhs_n _ _ q_n_fr, zhs_n _ _ q_n_rs, zhs_n _ _ r1, zhs_n _ _ r2, zhs_n _ _ r3, zhs_n _ _ s1, zhs_n _ _ s2, zhs_n _ _ s3, zhs_n _ _ (Ne.symm r1), zhs_n _ _ (Ne.symm r2), zhs_n _ _ (Ne.symm r3), zhs_n _ _ (Ne.symm s1), zhs_n _ _ (Ne.symm s2), zhs_n _ _ (Ne.symm s3)]; exact hnc) (by simp only [zhs_n _ _ q_tr_rw, zhs_n _ _ q_tr_tm, zhs_n _ _ q_tr_fr, zhs_n _ _ q_tr_rs, zhs_n _ _ q_pa_rw, zhs_n _ _ q_pa_tm, zhs_n _ _ q_pa_fr, zhs_n _ _ q_pa_rs, zhs_n _ _ q_ne_rw, zhs_n _ _ q_ne_tm, zhs_n _ _ q_ne_fr, zhs_n _ _ q_ne_rs, zhs_n _ _ q_va_rw, zhs_n _ _ q_va_tm, zhs_n _ _ q_va_fr, zhs_n _ _ q_va_rs, zhs_n _ _ q_dn_rw, zhs_n _ _ q_dn_tm, zhs_n _ _ q_dn_fr, zhs_n _ _ q_dn_rs, zhs_n _ _ q_ch_rw, zhs_n _ _ q_ch_tm, zhs_n _ _ q_ch_fr, zhs_n _ _ q_ch_rs, zhs_n _ _ q_m_rw, zhs_n _ _ q_m_tm, zhs_n _ _ q_m_fr, zhs_n _ _ q_m_rs, zhs_n _ _ q_n_rw, zhs_n _ _ q_n_tm, zhs_n _ _ q_n_fr, zhs_n _ _ q_n_rs, zhs_n _ _ r1, zhs_n _ _ r2, zhs_n _ _ r3, zhs_n _ _ s1, zhs_n _ _ s2, zhs_n _ _ s3, zhs_n _ _ (Ne.symm r1), zhs_n _ _ (Ne.symm r2), zhs_n _ _ (Ne.symm r3), zhs_n _ _ (Ne.symm s1), zhs_n _ _ (Ne.symm s2), zhs_n _ _ (Ne.symm s3)]; exact hkc) _ _) (Nat.le_of_ble_eq_true rfl) ?_
  simp only [show (zhs (zhs μ tm (tmS (μ a) (μ tm) (1 - dSd (μ a)) 4)) rs (upd (upd (upd (μ rs) 5 (dPer (μ a) (1 - dSd (μ a)))) 6 0) 7 (-1))) tr = μ tr from by simp only [zhs_n _ _ q_tr_rw, zhs_n _ _ q_tr_tm, zhs_n _ _ q_tr_fr, zhs_n _ _ q_tr_rs, zhs_n _ _ q_pa_rw, zhs_n _ _ q_pa_tm, zhs_n _ _ q_pa_fr, zhs_n _ _ q_pa_rs, zhs_n _ _ q_ne_rw, zhs_n _ _ q_ne_tm, zhs_n _ _ q_ne_fr, zhs_n _ _ q_ne_rs, zhs_n _ _ q_va_rw, zhs_n _ _ q_va_tm, zhs_n _ _ q_va_fr, zhs_n _ _ q_va_rs, zhs_n _ _ q_dn_rw, zhs_n _ _ q_dn_tm, zhs_n _ _ q_dn_fr, zhs_n _ _ q_dn_rs, zhs_n _ _ q_ch_rw, zhs_n _ _ q_ch_tm, zhs_n _ _ q_ch_fr, zhs_n _ _ q_ch_rs, zhs_n _ _ q_m_rw, zhs_n _ _ q_m_tm, zhs_n _ _ q_m_fr, zhs_n _ _ q_m_rs, zhs_n _ _ q_n_rw, zhs_n _ _ q_n_tm, zhs_n _ _ q_n_fr, zhs_n _ _ q_n_rs, zhs_n _ _ r1, zhs_n _ _ r2, zhs_n _ _ r3, zhs_n _ _ s1, zhs_n _ _ s2, zhs_n _ _ s3, zhs_n _ _ (Ne.symm r1), zhs_n _ _ (Ne.symm r2), zhs_n _ _ (Ne.symm r3), zhs_n _ _ (Ne.symm s1), zhs_n _ _ (Ne.symm s2), zhs_n _ _ (Ne.symm s3)], show (zhs (zhs μ tm (tmS (μ a) (μ tm) (1 - dSd (μ a)) 4)) rs (upd (upd (upd (μ rs) 5 (dPer (μ a) (1 - dSd (μ a)))) 6 0) 7 (-1))) pa = μ pa from by simp only [zhs_n _ _ q_tr_rw, zhs_n _ _ q_tr_tm, zhs_n _ _ q_tr_fr, zhs_n _ _ q_tr_rs, zhs_n _ _ q_pa_rw, zhs_n _ _ q_pa_tm, zhs_n _ _ q_pa_fr, zhs_n _ _ q_pa_rs, zhs_n _ _ q_ne_rw, zhs_n _ _ q_ne_tm, zhs_n _ _ q_ne_fr, zhs_n _ _ q_ne_rs, zhs_n _ _ q_va_rw, zhs_n _ _ q_va_tm, zhs_n _ _ q_va_fr, zhs_n _ _ q_va_rs, zhs_n _ _ q_dn_rw, zhs_n _ _ q_dn_tm, zhs_n _ _ q_dn_fr, zhs_n _ _ q_dn_rs, zhs_n _ _ q_ch_rw, zhs_n _ _ q_ch_tm, zhs_n _ _ q_ch_fr, zhs_n _ _ q_ch_rs, zhs_n _ _ q_m_rw, zhs_n _ _ q_m_tm, zhs_n _ _ q_m_fr, zhs_n _ _ q_m_rs, zhs_n _ _ q_n_rw, zhs_n _ _ q_n_tm, zhs_n _ _ q_n_fr, zhs_n _ _ q_n_rs, zhs_n _ _ r1, zhs_n _ _ r2, zhs_n _ _ r3, zhs_n _ _ s1, zhs_n _ _ s2, zhs_n _ _ s3, zhs_n _ _ (Ne.symm r1), zhs_n _ _ (Ne.symm r2), zhs_n _ _ (Ne.symm r3), zhs_n _ _ (Ne.symm s1), zhs_n _ _ (Ne.symm s2), zhs_n _ _ (Ne.symm s3)], show (zhs (zhs μ tm (tmS (μ a) (μ tm) (1 - dSd (μ a)) 4)) rs (upd (upd (upd (μ rs) 5 (dPer (μ a) (1 - dSd (μ a)))) 6 0) 7 (-1))) ne = μ ne from by simp only [zhs_n _ _ q_tr_rw, zhs_n _ _ q_tr_tm, zhs_n _ _ q_tr_fr, zhs_n _ _ q_tr_rs, zhs_n _ _ q_pa_rw, zhs_n _ _ q_pa_tm, zhs_n _ _ q_pa_fr, zhs_n _ _ q_pa_rs, zhs_n _ _ q_ne_rw, zhs_n _ _ q_ne_tm, zhs_n _ _ q_ne_fr, zhs_n _ _ q_ne_rs, zhs_n _ _ q_va_rw, zhs_n _ _ q_va_tm, zhs_n _ _ q_va_fr, zhs_n _ _ q_va_rs, zhs_n _ _ q_dn_rw, zhs_n _ _ q_dn_tm, zhs_n _ _ q_dn_fr, zhs_n _ _ q_dn_rs, zhs_n _ _ q_ch_rw, zhs_n _ _ q_ch_tm, zhs_n _ _ q_ch_fr, zhs_n _ _ q_ch_rs, zhs_n _ _ q_m_rw, zhs_n _ _ q_m_tm, zhs_n _ _ q_m_fr, zhs_n _ _ q_m_rs, zhs_n _ _ q_n_rw, zhs_n _ _ q_n_tm, zhs_n _ _ q_n_fr, zhs_n _ _ q_n_rs, zhs_n _ _ r1, zhs_n _ _ r2, zhs_n _ _ r3, zhs_n _ _ s1, zhs_n _ _ s2, zhs_n _ _ s3, zhs_n _ _ (Ne.symm r1), zhs_n _ _ (Ne.symm r2), zhs_n _ _ (Ne.symm r3), zhs_n _ _ (Ne.symm s1), zhs_n _ _ (Ne.symm s2), zhs_n _ _ (Ne.symm s3)], show (zhs (zhs μ tm (tmS (μ a) (μ tm) (1 - dSd (μ a)) 4)) rs (upd (upd (upd (μ rs) 5 (dPer (μ a) (1 - dSd (μ a)))) 6 0) 7 (-1))) va = μ va from by simp only [zhs_n _ _ q_tr_rw, zhs_n _ _ q_tr_tm, zhs_n _ _ q_tr_fr, zhs_n _ _ q_tr_rs, zhs_n _ _ q_pa_rw, zhs_n _ _ q_pa_tm, zhs_n _ _ q_pa_fr, zhs_n _ _ q_pa_rs, zhs_n _ _ q_ne_rw, zhs_n _ _ q_ne_tm, zhs_n _ _ q_ne_fr, zhs_n _ _ q_ne_rs, zhs_n _ _ q_va_rw, zhs_n _ _ q_va_tm, zhs_n _ _ q_va_fr, zhs_n _ _ q_va_rs, zhs_n _ _ q_dn_rw, zhs_n _ _ q_dn_tm, zhs_n _ _ q_dn_fr, zhs_n _ _ q_dn_rs, zhs_n _ _ q_ch_rw, zhs_n _ _ q_ch_tm, zhs_n _ _ q_ch_fr, zhs_n _ _ q_ch_rs, zhs_n _ _ q_m_rw, zhs_n _ _ q_m_tm, zhs_n _ _ q_m_fr, zhs_n _ _ q_m_rs, zhs_n _ _ q_n_rw, zhs_n _ _ q_n_tm, zhs_n _ _ q_n_fr, zhs_n _ _ q_n_rs, zhs_n _ _ r1, zhs_n _ _ r2, zhs_n _ _ r3, zhs_n _ _ s1, zhs_n _ _ s2, zhs_n _ _ s3, zhs_n _ _ (Ne.symm r1), zhs_n _ _ (Ne.symm r2), zhs_n _ _ (Ne.symm r3), zhs_n _ _ (Ne.symm s1), zhs_n _ _ (Ne.symm s2), zhs_n _ _ (Ne.symm s3)], show (zhs (zhs μ tm (tmS (μ a) (μ tm) (1 - dSd (μ a)) 4)) rs (upd (upd (upd (μ rs) 5 (dPer (μ a) (1 - dSd (μ a)))) 6 0) 7 (-1))) dn = μ dn from by simp only [zhs_n _ _ q_tr_rw, zhs_n _ _ q_tr_tm, zhs_n _ _ q_tr_fr, zhs_n _ _ q_tr_rs, zhs_n _ _ q_pa_rw, zhs_n _ _ q_pa_tm, zhs_n _ _ q_pa_fr, zhs_n _ _ q_pa_rs, zhs_n _ _ q_ne_rw, zhs_n _ _ q_ne_tm, zhs_n _ _ q_ne_fr, zhs_n _ _ q_ne_rs, zhs_n _ _ q_va_rw, zhs_n _ _ q_va_tm, zhs_n _ _ q_va_fr, zhs_n _ _ q_va_rs, zhs_n _ _ q_dn_rw, zhs_n _ _ q_dn_tm, zhs_n _ _ q_dn_fr, zhs_n _ _ q_dn_rs, zhs_n _ _ q_ch_rw, zhs_n _ _ q_ch_tm, zhs_n _ _ q_ch_fr, zhs_n _ _ q_ch_rs, zhs_n _ _ q_m_rw, zhs_n _ _ q_m_tm, zhs_n _ _ q_m_fr, zhs_n _ _ q_m_rs, zhs_n _ _ q_n_rw, zhs_n _ _ q_n_tm, zhs_n _ _ q_n_fr, zhs_n _ _ q_n_rs, zhs_n _ _ r1, zhs_n _ _ r2, zhs_n _ _ r3, zhs_n _ _ s1, zhs_n _ _ s2, zhs_n _ _ s3, zhs_n _ _ (Ne.symm r1), zhs_n _ _ (Ne.symm r2), zhs_n _ _ (Ne.symm r3), zhs_n _ _ (Ne.symm s1), zhs_n _ _ (Ne.symm s2), zhs_n _ _ (Ne.symm s3)], show (zhs (zhs μ tm (tmS (μ a) (μ tm) (1 - dSd (μ a)) 4)) rs (upd (upd (upd (μ rs) 5 (dPer (μ a) (1 - dSd (μ a)))) 6 0) 7 (-1))) ch = μ ch from by simp only [zhs_n _ _ q_tr_rw, zhs_n _ _ q_tr_tm, zhs_n _ _ q_tr_fr, zhs_n _ _ q_tr_rs, zhs_n _ _ q_pa_rw, zhs_n _ _ q_pa_tm, zhs_n _ _ q_pa_fr, zhs_n _ _ q_pa_rs, zhs_n _ _ q_ne_rw, zhs_n _ _ q_ne_tm, zhs_n _ _ q_ne_fr, zhs_n _ _ q_ne_rs, zhs_n _ _ q_va_rw, zhs_n _ _ q_va_tm, zhs_n _ _ q_va_fr, zhs_n _ _ q_va_rs, zhs_n _ _ q_dn_rw, zhs_n _ _ q_dn_tm, zhs_n _ _ q_dn_fr, zhs_n _ _ q_dn_rs, zhs_n _ _ q_ch_rw, zhs_n _ _ q_ch_tm, zhs_n _ _ q_ch_fr, zhs_n _ _ q_ch_rs, zhs_n _ _ q_m_rw, zhs_n _ _ q_m_tm, zhs_n _ _ q_m_fr, zhs_n _ _ q_m_rs, zhs_n _ _ q_n_rw, zhs_n _ _ q_n_tm, zhs_n _ _ q_n_fr, zhs_n _ _ q_n_rs, zhs_n _ _ r1, zhs_n _ _ r2, zhs_n _ _ r3, zhs_n _ _ s1, zhs_n _ _ s2, zhs_n _ _ s3, zhs_n _ _ (Ne.symm r1), zhs_n _ _ (Ne.symm r2), zhs_n _ _ (Ne.symm r3), zhs_n _ _ (Ne.symm s1), zhs_n _ _ (Ne.symm s2), zhs_n _ _ (Ne.symm s3)], show (zhs (zhs μ tm (tmS (μ a) (μ tm) (1 - dSd (μ a)) 4)) rs (upd (upd (upd (μ rs) 5 (dPer (μ a) (1 - dSd (μ a)))) 6 0) 7 (-1))) tm = (tmS (μ a) (μ tm) (1 - dSd (μ a)) 4) from by simp only [zhs_s, zhs_n _ _ q_tr_rw, zhs_n _ _ q_tr_tm, zhs_n _ _ q_tr_fr, zhs_n _ _ q_tr_rs, zhs_n _ _ q_pa_rw, zhs_n _ _ q_pa_tm, zhs_n _ _ q_pa_fr, zhs_n _ _ q_pa_rs, zhs_n _ _ q_ne_rw, zhs_n _ _ q_ne_tm, zhs_n _ _ q_ne_fr, zhs_n _ _ q_ne_rs, zhs_n _ _ q_va_rw, zhs_n _ _ q_va_tm, zhs_n _ _ q_va_fr, zhs_n _ _ q_va_rs, zhs_n _ _ q_dn_rw, zhs_n _ _ q_dn_tm, zhs_n _ _ q_dn_fr, zhs_n _ _ q_dn_rs, zhs_n _ _ q_ch_rw, zhs_n _ _ q_ch_tm, zhs_n _ _ q_ch_fr, zhs_n _ _ q_ch_rs, zhs_n _ _ q_m_rw, zhs_n _ _ q_m_tm, zhs_n _ _ q_m_fr, zhs_n _ _ q_m_rs, zhs_n _ _ q_n_rw, zhs_n _ _ q_n_tm, zhs_n _ _ q_n_fr, zhs_n _ _ q_n_rs, zhs_n _ _ r1, zhs_n _ _ r2, zhs_n _ _ r3, zhs_n _ _ s1, zhs_n _ _ s2, zhs_n _ _ s3, zhs_n _ _ (Ne.symm r1), zhs_n _ _ (Ne.symm r2), zhs_n _ _ (Ne.symm r3), zhs_n _ _ (Ne.symm s1), zhs_n _ _ (Ne.symm s2), zhs_n _ _ (Ne.symm s3)], show (zhs (zhs μ tm (tmS (μ a) (μ tm) (1 - dSd (μ a)) 4)) rs (upd (upd (upd (μ rs) 5 (dPer (μ a) (1 - dSd (μ a)))) 6 0) 7 (-1))) rw = μ rw from by simp only [zhs_n _ _ q_tr_rw, zhs_n _ _ q_tr_tm, zhs_n _ _ q_tr_fr, zhs_n _ _ q_tr_rs, zhs_n _ _ q_pa_rw, zhs_n _ _ q_pa_tm, zhs_n _ _ q_pa_fr, zhs_n _ _ q_pa_rs, zhs_n _ _ q_ne_rw, zhs_n _ _ q_ne_tm, zhs_n _ _ q_ne_fr, zhs_n _ _ q_ne_rs, zhs_n _ _ q_va_rw, zhs_n _ _ q_va_tm, zhs_n _ _ q_va_fr, zhs_n _ _ q_va_rs, zhs_n _ _ q_dn_rw, zhs_n _ _ q_dn_tm, zhs_n _ _ q_dn_fr, zhs_n _ _ q_dn_rs, zhs_n _ _ q_ch_rw, zhs_n _ _ q_ch_tm, zhs_n _ _ q_ch_fr, zhs_n _ _ q_ch_rs, zhs_n _ _ q_m_rw, zhs_n _ _ q_m_tm, zhs_n _ _ q_m_fr, zhs_n _ _ q_m_rs, zhs_n _ _ q_n_rw, zhs_n _ _ q_n_tm, zhs_n _ _ q_n_fr, zhs_n _ _ q_n_rs, zhs_n _ _ r1, zhs_n _ _ r2, zhs_n _ _ r3, zhs_n _ _ s1, zhs_n _ _ s2, zhs_n _ _ s3, zhs_n _ _ (Ne.symm r1), zhs_n _ _ (Ne.symm r2), zhs_n _ _ (Ne.symm r3), zhs_n _ _ (Ne.symm s1), zhs_n _ _ (Ne.symm s2), zhs_n _ _ (Ne.symm s3)], show (zhs (zhs μ tm (tmS (μ a) (μ tm) (1 - dSd (μ a)) 4)) rs (upd (upd (upd (μ rs) 5 (dPer (μ a) (1 - dSd (μ a)))) 6 0) 7 (-1))) fr = μ fr from by simp only [zhs_n _ _ q_tr_rw, zhs_n _ _ q_tr_tm, zhs_n _ _ q_tr_fr, zhs_n _ _ q_tr_rs, zhs_n _ _ q_pa_rw, zhs_n _ _ q_pa_tm, zhs_n _ _ q_pa_fr, zhs_n _ _ q_pa_rs, zhs_n _ _ q_ne_rw, zhs_n _ _ q_ne_tm, zhs_n _ _ q_ne_fr, zhs_n _ _ q_ne_rs, zhs_n _ _ q_va_rw, zhs_n _ _ q_va_tm, zhs_n _ _ q_va_fr, zhs_n _ _ q_va_rs, zhs_n _ _ q_dn_rw, zhs_n _ _ q_dn_tm, zhs_n _ _ q_dn_fr, zhs_n _ _ q_dn_rs, zhs_n _ _ q_ch_rw, zhs_n _ _ q_ch_tm, zhs_n _ _ q_ch_fr, zhs_n _ _ q_ch_rs, zhs_n _ _ q_m_rw, zhs_n _ _ q_m_tm, zhs_n _ _ q_m_fr, zhs_n _ _ q_m_rs, zhs_n _ _ q_n_rw, zhs_n _ _ q_n_tm, zhs_n _ _ q_n_fr, zhs_n _ _ q_n_rs, zhs_n _ _ r1, zhs_n _ _ r2, zhs_n _ _ r3, zhs_n _ _ s1, zhs_n _ _ s2, zhs_n _ _ s3, zhs_n _ _ (Ne.symm r1), zhs_n _ _ (Ne.symm r2), zhs_n _ _ (Ne.symm r3), zhs_n _ _ (Ne.symm s1), zhs_n _ _ (Ne.symm s2), zhs_n _ _ (Ne.symm s3)], show (zhs (zhs μ tm (tmS (μ a) (μ tm) (1 - dSd (μ a)) 4)) rs (upd (upd (upd (μ rs) 5 (dPer (μ a) (1 - dSd (μ a)))) 6 0) 7 (-1))) rs = upd (upd (upd (μ rs) 5 (dPer (μ a) (1 - dSd (μ a)))) 6 0) 7 (-1) from zhs_s _ _ _]
  simp only [fa5, fa6, fa7]
  generalize hEX : (exS (μ tr) (μ pa) (μ ne) (μ dn) (μ va) (μ ch) (dPer (μ a) (1 - dSd (μ a))) kc nc 4 0 (cell (μ a) (6 + (1 - dSd (μ a)))) (cell (μ a) 4) (tmS (μ a) (μ tm) (1 - dSd (μ a)) 4) (μ rw, (μ fr, (0, -1)))) = EX
  have e6 : rsH (zhs (zhs μ tm (tmS (μ a) (μ tm) (1 - dSd (μ a)) 4)) rs (upd (upd (upd (μ rs) 5 (dPer (μ a) (1 - dSd (μ a)))) 6 0) 7 (-1))) rw fr rs EX rs 6 = EX.2.2.1 := by simp only [rsH, zhs_s]; rfl
  have e7 : rsH (zhs (zhs μ tm (tmS (μ a) (μ tm) (1 - dSd (μ a)) 4)) rs (upd (upd (upd (μ rs) 5 (dPer (μ a) (1 - dSd (μ a)))) 6 0) 7 (-1))) rw fr rs EX rs 7 = EX.2.2.2 := by simp only [rsH, zhs_s]; rfl
  refine pv_aload_n (i := 0) t_X7_findAll_77 rfl rfl ?_
  refine pv_aload_n (i := 0) t_X7_findAll_78 rfl rfl ?_
  refine pv_getI t_X7_findAll_79 fl_X7_57 hr.1 rfl ?_
  refine pv_if_ne t_X7_findAll_82 (fun c82 => ?_) (fun c82 => ?_)
  · skip
    rw [e6] at c82
    refine pv_aload_n (i := 0) t_X7_findAll_89 rfl rfl ?_
    refine pv_getI t_X7_findAll_90 fl_X7_60 hr.1 rfl ?_
    refine pv_iload_n (i := 3) t_X7_findAll_93 rfl rfl ?_
    refine pv_iconst (v := -1) t_X7_findAll_94 zi_m1 ?_
    refine pv_ixor t_X7_findAll_95 ?_
    refine pv_iand t_X7_findAll_96 ?_
    refine pv_putI t_X7_findAll_97 fl_X7_60 zfn_7_7 hr.1 rfl ?_
    exact pv_vret t_X7_findAll_100 rfl (by first | rw [if_pos c82] | rw [if_neg c82, e7])
  · skip
    rw [e6] at c82
    refine pv_iconst (v := 0) t_X7_findAll_85 zi_0 ?_
    refine pv_goto t_X7_findAll_86 ?_
    refine pv_putI t_X7_findAll_97 fl_X7_60 zfn_7_7 hr.1 rfl ?_
    exact pv_vret t_X7_findAll_100 rfl (by first | rw [if_pos c82] | rw [if_neg c82, e7])

