def pg (g : Nat → Int32) (many lim : Int32) : Nat → Int32 := upd (if lim ≤ many then gmk g 3 (g 5) else g) 5 (g 5 + 1)
theorem pg_2 {g : Nat → Int32} {many lim : Int32} : pg g many lim 2 = g 2 := by
  show (if lim ≤ many then gmk g 3 (g 5) else g) 2 = g 2
  split
  · rw [gmk_2]
  · rfl
theorem pg_5 {g : Nat → Int32} {many lim : Int32} {p : Nat} (h : g 5 = nI p) : pg g many lim 5 = nI (p + 1) := by
  show g 5 + 1 = _
  rw [h, nI_1]
theorem zq_0 {μ : zH} {rd tr p : Nat} {g : Nat → Int32} (h : tr ≠ rd) : zq μ rd tr (p, g, μ tr) = zhs μ rd g := by
  have h1 : zhs μ rd g tr = μ tr := zhs_n _ _ h
  rw [zq]
  show zhs (zhs μ rd g) tr (μ tr) = _
  rw [← h1, zhs_id]
theorem zq_p {μ : zH} {rd tr : Nat} {q : rdQ} {g : Nat → Int32} (h : rd ≠ tr) : zhs (zq μ rd tr q) rd g = zq μ rd tr (q.1, g, q.2.2) := by
  rw [zq, zq, zhs_cm h.symm, zhs_hs]
theorem tl_X6_readPerson {l : Launch} {X : zX} {d : Nat} {Ψ : List zC} {μ : zH} {rd dm le tr pa ne fd : Nat} (hr : oR Ψ rd dm le) (hm : oM Ψ dm tr pa ne fd) {n p : Nat} (hn250 : n ≤ 250) (hI : (peS (μ le) n tlo thi 24 (μ dm 0 * 6) 6 (p + 1, pg (μ rd) (μ dm 0) 4, μ tr)).2.1 2 = nI n ∧ (peS (μ le) n tlo thi 24 (μ dm 0 * 6) 6 (p + 1, pg (μ rd) (μ dm 0) 4, μ tr)).2.1 5 = nI (peS (μ le) n tlo thi 24 (μ dm 0 * 6) 6 (p + 1, pg (μ rd) (μ dm 0) 4, μ tr)).1 ∧ (peS (μ le) n tlo thi 24 (μ dm 0 * 6) 6 (p + 1, pg (μ rd) (μ dm 0) 4, μ tr)).1 ≤ n + 1) : zEv l X mi_X6_readPerson (d + 5) 86 [(0, .inr rd), (1, .inl (nI 6))] [] (Ψ, zq μ rd tr (peS (μ le) n tlo thi 24 (μ dm 0 * 6) 6 (p + 1, pg (μ rd) (μ dm 0) 4, μ tr))) 0 0 none (Ψ, zhs (zq μ rd tr ((peS (μ le) n tlo thi 24 (μ dm 0 * 6) 6 (p + 1, pg (μ rd) (μ dm 0) 4, μ tr)).1, gen (μ le) n (peS (μ le) n tlo thi 24 (μ dm 0 * 6) 6 (p + 1, pg (μ rd) (μ dm 0) 4, μ tr)).2.1 (peS (μ le) n tlo thi 24 (μ dm 0 * 6) 6 (p + 1, pg (μ rd) (μ dm 0) 4, μ tr)).1, (peS (μ le) n tlo thi 24 (μ dm 0 * 6) 6 (p + 1, pg (μ rd) (μ dm 0) 4, μ tr)).2.2)) dm (upd (μ dm) 0 (μ dm 0 + 1))) := by
  have n_rd_tr : rd ≠ tr := zne hr.1 hm.2.1 (by simp)
  have n_tr_rd : tr ≠ rd := zne hm.2.1 hr.1 (by simp)
  have n_dm_rd : dm ≠ rd := zne hm.1 hr.1 (by simp)
  have n_dm_tr : dm ≠ tr := zne hm.1 hm.2.1 (by simp)
  have n_le_rd : le ≠ rd := zne hr.2 hr.1 (by simp)
  have n_le_tr : le ≠ tr := zne hr.2 hm.2.1 (by simp)
  have n_ne_rd : ne ≠ rd := zne hm.2.2.2.1 hr.1 (by simp)
  have n_ne_tr : ne ≠ tr := zne hm.2.2.2.1 hm.2.1 (by simp)
  have n_pa_ne : pa ≠ ne := zne hm.2.2.1 hm.2.2.2.1 (by simp)
  have n_dm_ne : dm ≠ ne := zne hm.1 hm.2.2.2.1 (by simp)
  refine pv_aload_n (i := 0) t_X6_readPerson_86 rfl rfl ?_
  refine pv_gV0 t_X6_readPerson_87 ml_X6_84 mo_X6_readEnd hr.1 rfl (Nat.le_of_ble_eq_true rfl) (e_X6_readEnd (n := n) (p := (peS (μ le) n tlo thi 24 (μ dm 0 * 6) 6 (p + 1, pg (μ rd) (μ dm 0) 4, μ tr)).1) hr (by rw [zq_rd n_rd_tr]; exact hI.1) hn250 (by rw [zq_rd n_rd_tr]; exact hI.2.1) (by have := hI.2.2; omega) (by have := hI.2.2; omega)) (Nat.le_of_ble_eq_true rfl) ?_
  refine pv_aload_n (i := 0) t_X6_readPerson_90 rfl rfl ?_
  refine pv_getR t_X6_readPerson_91 fl_X6_12 hr.1 rfl ?_
  refine pv_dup t_X6_readPerson_94 ?_
  refine pv_getI t_X6_readPerson_95 fl_X6_64 hm.1 rfl ?_
  refine pv_iconst (v := 1) t_X6_readPerson_98 zi_1 ?_
  refine pv_iadd t_X6_readPerson_99 ?_
  refine pv_putI t_X6_readPerson_100 fl_X6_64 zfn_4_0 hm.1 rfl ?_
  exact pv_vret t_X6_readPerson_103 rfl (by rw [zq_p n_rd_tr, zq_rd n_rd_tr, zq_o n_le_rd n_le_tr, zq_o n_dm_rd n_dm_tr])

theorem e_X6_readPerson {l : Launch} {X : zX} {d : Nat} {Ψ : List zC} {μ : zH} {rd dm le tr pa ne fd : Nat} (hr : oR Ψ rd dm le) (hm : oM Ψ dm tr pa ne fd) {n p : Nat} (hn : μ rd 2 = nI n) (hn250 : n ≤ 250) (hp : μ rd 5 = nI p) (hpn : p ≤ n) : zRn l X mi_X6_readPerson (d + 5) [.inr rd] (Ψ, μ) none (Ψ, zhs (zq μ rd tr ((peS (μ le) n tlo thi 24 (μ dm 0 * 6) 6 (p + 1, pg (μ rd) (μ dm 0) 4, μ tr)).1, gen (μ le) n (peS (μ le) n tlo thi 24 (μ dm 0 * 6) 6 (p + 1, pg (μ rd) (μ dm 0) 4, μ tr)).2.1 (peS (μ le) n tlo thi 24 (μ dm 0 * 6) 6 (p + 1, pg (μ rd) (μ dm 0) 4, μ tr)).1, (peS (μ le) n tlo thi 24 (μ dm 0 * 6) 6 (p + 1, pg (μ rd) (μ dm 0) 4, μ tr)).2.2)) dm (upd (μ dm) 0 (μ dm 0 + 1))) := by
  have n_rd_tr : rd ≠ tr := zne hr.1 hm.2.1 (by simp)
  have n_tr_rd : tr ≠ rd := zne hm.2.1 hr.1 (by simp)
  have n_dm_rd : dm ≠ rd := zne hm.1 hr.1 (by simp)
  have n_dm_tr : dm ≠ tr := zne hm.1 hm.2.1 (by simp)
  have n_le_rd : le ≠ rd := zne hr.2 hr.1 (by simp)
  have n_le_tr : le ≠ tr := zne hr.2 hm.2.1 (by simp)
  have n_ne_rd : ne ≠ rd := zne hm.2.2.2.1 hr.1 (by simp)
  have n_ne_tr : ne ≠ tr := zne hm.2.2.2.1 hm.2.1 (by simp)
  have n_pa_ne : pa ≠ ne := zne hm.2.2.1 hm.2.2.2.1 (by simp)
  have n_dm_ne : dm ≠ ne := zne hm.1 hm.2.2.2.1 (by simp)
  have hJ2 : (p + 1, pg (μ rd) (μ dm 0) 4, μ tr).2.1 2 = nI n := pg_2.trans hn
  have hJ5 : (p + 1, pg (μ rd) (μ dm 0) 4, μ tr).2.1 5 = nI (p + 1) := pg_5 (many := μ dm 0) (lim := 4) hp
  have hJp : p + 1 ≤ n + 1 := by omega
  refine pv_aload_n (i := 0) t_X6_readPerson_0 rfl rfl ?_
  refine pv_getR t_X6_readPerson_1 fl_X6_12 hr.1 rfl ?_
  refine pv_getI t_X6_readPerson_4 fl_X6_64 hm.1 rfl ?_
  refine pv_iconst (v := 4) t_X6_readPerson_7 zi_4 ?_
  refine pv_icmp_lt t_X6_readPerson_8 (fun c8 => ?_) (fun c8 => ?_)
  · skip
    refine pv_aload_n (i := 0) t_X6_readPerson_20 rfl rfl ?_
    refine pv_dup t_X6_readPerson_21 ?_
    refine pv_getI t_X6_readPerson_22 fl_X6_41 hr.1 rfl ?_
    refine pv_iconst (v := 1) t_X6_readPerson_25 zi_1 ?_
    refine pv_iadd t_X6_readPerson_26 ?_
    refine pv_putI t_X6_readPerson_27 fl_X6_41 zfn_6_5 hr.1 rfl ?_
    refine pv_iconst (v := 0) t_X6_readPerson_30 zi_0 ?_
    refine pv_istore_n (i := 1) t_X6_readPerson_31 rfl (Nat.le_of_ble_eq_true rfl) ?_
    refine pv_loc (lv' := [(0, _), (1, .inl 0)]) ⟨rfl, rfl, trivial⟩ ?_
    refine zst (S2 := (Ψ, zq μ rd tr (p + 1, pg (μ rd) (μ dm 0) 4, μ tr))) ?_ (lp_X6_readPerson hr hm hn250 (s0 := (p + 1, pg (μ rd) (μ dm 0) 4, μ tr)) hJ2 hJ5 hJp (tl_X6_readPerson hr hm hn250 (peS_i hJ2 hJ5 hJp 6)) 7 0 (by omega) (by omega) _ rfl)
    rw [zq_0 n_tr_rd, pg, if_neg (Int32.not_le.mpr c8)]
  · skip
    refine pv_aload_n (i := 0) t_X6_readPerson_11 rfl rfl ?_
    refine pv_iconst (v := 3) t_X6_readPerson_12 zi_3 ?_
    refine pv_aload_n (i := 0) t_X6_readPerson_13 rfl rfl ?_
    refine pv_getI t_X6_readPerson_14 fl_X6_41 hr.1 rfl ?_
    refine pv_gV2 t_X6_readPerson_17 ml_X6_60 mo_X6_mark hr.1 rfl (Nat.le_of_ble_eq_true rfl) (e_X6_mark hr) (Nat.le_of_ble_eq_true rfl) ?_
    refine pv_aload_n (i := 0) t_X6_readPerson_20 rfl rfl ?_
    refine pv_dup t_X6_readPerson_21 ?_
    refine pv_getI t_X6_readPerson_22 fl_X6_41 hr.1 rfl ?_
    refine pv_iconst (v := 1) t_X6_readPerson_25 zi_1 ?_
    refine pv_iadd t_X6_readPerson_26 ?_
    refine pv_putI t_X6_readPerson_27 fl_X6_41 zfn_6_5 hr.1 rfl ?_
    refine pv_iconst (v := 0) t_X6_readPerson_30 zi_0 ?_
    refine pv_istore_n (i := 1) t_X6_readPerson_31 rfl (Nat.le_of_ble_eq_true rfl) ?_
    refine pv_loc (lv' := [(0, _), (1, .inl 0)]) ⟨rfl, rfl, trivial⟩ ?_
    refine zst (S2 := (Ψ, zq μ rd tr (p + 1, pg (μ rd) (μ dm 0) 4, μ tr))) ?_ (lp_X6_readPerson hr hm hn250 (s0 := (p + 1, pg (μ rd) (μ dm 0) 4, μ tr)) hJ2 hJ5 hJp (tl_X6_readPerson hr hm hn250 (peS_i hJ2 hJ5 hJp 6)) 7 0 (by omega) (by omega) _ rfl)
    rw [zq_0 n_tr_rd, pg, if_pos (Int32.not_lt.mp c8), zhs_hs, zhs_s, gmk_5]

theorem tl_X6_readPhrase {l : Launch} {X : zX} {d : Nat} {Ψ : List zC} {μ : zH} {rd dm le tr pa ne fd : Nat} (hr : oR Ψ rd dm le) (hm : oM Ψ dm tr pa ne fd) {n p : Nat} (hn250 : n ≤ 250) (hI : (peS (μ le) n plo phi 40 (μ dm 1 * 5) 5 (p + 1, pg (μ rd) (μ dm 1) 8, μ pa)).2.1 2 = nI n ∧ (peS (μ le) n plo phi 40 (μ dm 1 * 5) 5 (p + 1, pg (μ rd) (μ dm 1) 8, μ pa)).2.1 5 = nI (peS (μ le) n plo phi 40 (μ dm 1 * 5) 5 (p + 1, pg (μ rd) (μ dm 1) 8, μ pa)).1 ∧ (peS (μ le) n plo phi 40 (μ dm 1 * 5) 5 (p + 1, pg (μ rd) (μ dm 1) 8, μ pa)).1 ≤ n + 1) : zEv l X mi_X6_readPhrase (d + 5) 85 [(0, .inr rd), (1, .inl (nI 5))] [] (Ψ, zq μ rd pa (peS (μ le) n plo phi 40 (μ dm 1 * 5) 5 (p + 1, pg (μ rd) (μ dm 1) 8, μ pa))) 0 0 none (Ψ, zhs (zhs (zq μ rd pa ((peS (μ le) n plo phi 40 (μ dm 1 * 5) 5 (p + 1, pg (μ rd) (μ dm 1) 8, μ pa)).1, gen (μ le) n (peS (μ le) n plo phi 40 (μ dm 1 * 5) 5 (p + 1, pg (μ rd) (μ dm 1) 8, μ pa)).2.1 (peS (μ le) n plo phi 40 (μ dm 1 * 5) 5 (p + 1, pg (μ rd) (μ dm 1) 8, μ pa)).1, (peS (μ le) n plo phi 40 (μ dm 1 * 5) 5 (p + 1, pg (μ rd) (μ dm 1) 8, μ pa)).2.2)) ne (rP (μ ne) 8 (μ dm 1) (dbit (part (peS (μ le) n plo phi 40 (μ dm 1 * 5) 5 (p + 1, pg (μ rd) (μ dm 1) 8, μ pa)).2.2 (μ dm 1) 3) ||| dbit (part (peS (μ le) n plo phi 40 (μ dm 1 * 5) 5 (p + 1, pg (μ rd) (μ dm 1) 8, μ pa)).2.2 (μ dm 1) 4)))) dm (upd (μ dm) 1 (μ dm 1 + 1))) := by
  have n_rd_pa : rd ≠ pa := zne hr.1 hm.2.2.1 (by simp)
  have n_pa_rd : pa ≠ rd := zne hm.2.2.1 hr.1 (by simp)
  have n_dm_rd : dm ≠ rd := zne hm.1 hr.1 (by simp)
  have n_dm_pa : dm ≠ pa := zne hm.1 hm.2.2.1 (by simp)
  have n_le_rd : le ≠ rd := zne hr.2 hr.1 (by simp)
  have n_le_pa : le ≠ pa := zne hr.2 hm.2.2.1 (by simp)
  have n_ne_rd : ne ≠ rd := zne hm.2.2.2.1 hr.1 (by simp)
  have n_ne_pa : ne ≠ pa := zne hm.2.2.2.1 hm.2.2.1 (by simp)
  have n_dm_ne : dm ≠ ne := zne hm.1 hm.2.2.2.1 (by simp)
  have n_pa_ne : pa ≠ ne := zne hm.2.2.1 hm.2.2.2.1 (by simp)
  refine pv_aload_n (i := 0) t_X6_readPhrase_85 rfl rfl ?_
  refine pv_gV0 t_X6_readPhrase_86 ml_X6_84 mo_X6_readEnd hr.1 rfl (Nat.le_of_ble_eq_true rfl) (e_X6_readEnd (n := n) (p := (peS (μ le) n plo phi 40 (μ dm 1 * 5) 5 (p + 1, pg (μ rd) (μ dm 1) 8, μ pa)).1) hr (by rw [zq_rd n_rd_pa]; exact hI.1) hn250 (by rw [zq_rd n_rd_pa]; exact hI.2.1) (by have := hI.2.2; omega) (by have := hI.2.2; omega)) (Nat.le_of_ble_eq_true rfl) ?_
  refine pv_aload_n (i := 0) t_X6_readPhrase_89 rfl rfl ?_
  refine pv_getR t_X6_readPhrase_90 fl_X6_12 hr.1 rfl ?_
  refine pv_gV0 t_X6_readPhrase_93 ml_X6_99 mo_X4_addPhrase hm.1 rfl (Nat.le_of_ble_eq_true rfl) (e_X4_addPhrase hm) (Nat.le_of_ble_eq_true rfl) ?_
  exact pv_vret t_X6_readPhrase_96 rfl (by rw [zq_p n_rd_pa, zq_rd n_rd_pa, zq_o n_le_rd n_le_pa, zq_o n_dm_rd n_dm_pa, zq_o n_ne_rd n_ne_pa, zq_tr])

theorem e_X6_readPhrase {l : Launch} {X : zX} {d : Nat} {Ψ : List zC} {μ : zH} {rd dm le tr pa ne fd : Nat} (hr : oR Ψ rd dm le) (hm : oM Ψ dm tr pa ne fd) {n p : Nat} (hn : μ rd 2 = nI n) (hn250 : n ≤ 250) (hp : μ rd 5 = nI p) (hpn : p ≤ n) : zRn l X mi_X6_readPhrase (d + 5) [.inr rd] (Ψ, μ) none (Ψ, zhs (zhs (zq μ rd pa ((peS (μ le) n plo phi 40 (μ dm 1 * 5) 5 (p + 1, pg (μ rd) (μ dm 1) 8, μ pa)).1, gen (μ le) n (peS (μ le) n plo phi 40 (μ dm 1 * 5) 5 (p + 1, pg (μ rd) (μ dm 1) 8, μ pa)).2.1 (peS (μ le) n plo phi 40 (μ dm 1 * 5) 5 (p + 1, pg (μ rd) (μ dm 1) 8, μ pa)).1, (peS (μ le) n plo phi 40 (μ dm 1 * 5) 5 (p + 1, pg (μ rd) (μ dm 1) 8, μ pa)).2.2)) ne (rP (μ ne) 8 (μ dm 1) (dbit (part (peS (μ le) n plo phi 40 (μ dm 1 * 5) 5 (p + 1, pg (μ rd) (μ dm 1) 8, μ pa)).2.2 (μ dm 1) 3) ||| dbit (part (peS (μ le) n plo phi 40 (μ dm 1 * 5) 5 (p + 1, pg (μ rd) (μ dm 1) 8, μ pa)).2.2 (μ dm 1) 4)))) dm (upd (μ dm) 1 (μ dm 1 + 1))) := by
  have n_rd_pa : rd ≠ pa := zne hr.1 hm.2.2.1 (by simp)
  have n_pa_rd : pa ≠ rd := zne hm.2.2.1 hr.1 (by simp)
  have n_dm_rd : dm ≠ rd := zne hm.1 hr.1 (by simp)
  have n_dm_pa : dm ≠ pa := zne hm.1 hm.2.2.1 (by simp)
  have n_le_rd : le ≠ rd := zne hr.2 hr.1 (by simp)
  have n_le_pa : le ≠ pa := zne hr.2 hm.2.2.1 (by simp)
  have n_ne_rd : ne ≠ rd := zne hm.2.2.2.1 hr.1 (by simp)
  have n_ne_pa : ne ≠ pa := zne hm.2.2.2.1 hm.2.2.1 (by simp)
  have n_dm_ne : dm ≠ ne := zne hm.1 hm.2.2.2.1 (by simp)
  have n_pa_ne : pa ≠ ne := zne hm.2.2.1 hm.2.2.2.1 (by simp)
  have hJ2 : (p + 1, pg (μ rd) (μ dm 1) 8, μ pa).2.1 2 = nI n := pg_2.trans hn
  have hJ5 : (p + 1, pg (μ rd) (μ dm 1) 8, μ pa).2.1 5 = nI (p + 1) := pg_5 (many := μ dm 1) (lim := 8) hp
  have hJp : p + 1 ≤ n + 1 := by omega
  refine pv_aload_n (i := 0) t_X6_readPhrase_0 rfl rfl ?_
  refine pv_getR t_X6_readPhrase_1 fl_X6_12 hr.1 rfl ?_
  refine pv_getI t_X6_readPhrase_4 fl_X6_87 hm.1 rfl ?_
  refine pv_bipush (v := 8) t_X6_readPhrase_7 zb_8 ?_
  refine pv_icmp_lt t_X6_readPhrase_9 (fun c9 => ?_) (fun c9 => ?_)
  · skip
    refine pv_aload_n (i := 0) t_X6_readPhrase_21 rfl rfl ?_
    refine pv_dup t_X6_readPhrase_22 ?_
    refine pv_getI t_X6_readPhrase_23 fl_X6_41 hr.1 rfl ?_
    refine pv_iconst (v := 1) t_X6_readPhrase_26 zi_1 ?_
    refine pv_iadd t_X6_readPhrase_27 ?_
    refine pv_putI t_X6_readPhrase_28 fl_X6_41 zfn_6_5 hr.1 rfl ?_
    refine pv_iconst (v := 0) t_X6_readPhrase_31 zi_0 ?_
    refine pv_istore_n (i := 1) t_X6_readPhrase_32 rfl (Nat.le_of_ble_eq_true rfl) ?_
    refine pv_loc (lv' := [(0, _), (1, .inl 0)]) ⟨rfl, rfl, trivial⟩ ?_
    refine zst (S2 := (Ψ, zq μ rd pa (p + 1, pg (μ rd) (μ dm 1) 8, μ pa))) ?_ (lp_X6_readPhrase hr hm hn250 (s0 := (p + 1, pg (μ rd) (μ dm 1) 8, μ pa)) hJ2 hJ5 hJp (tl_X6_readPhrase hr hm hn250 (peS_i hJ2 hJ5 hJp 5)) 6 0 (by omega) (by omega) _ rfl)
    rw [zq_0 n_pa_rd, pg, if_neg (Int32.not_le.mpr c9)]
  · skip
    refine pv_aload_n (i := 0) t_X6_readPhrase_12 rfl rfl ?_
    refine pv_iconst (v := 3) t_X6_readPhrase_13 zi_3 ?_
    refine pv_aload_n (i := 0) t_X6_readPhrase_14 rfl rfl ?_
    refine pv_getI t_X6_readPhrase_15 fl_X6_41 hr.1 rfl ?_
    refine pv_gV2 t_X6_readPhrase_18 ml_X6_60 mo_X6_mark hr.1 rfl (Nat.le_of_ble_eq_true rfl) (e_X6_mark hr) (Nat.le_of_ble_eq_true rfl) ?_
    refine pv_aload_n (i := 0) t_X6_readPhrase_21 rfl rfl ?_
    refine pv_dup t_X6_readPhrase_22 ?_
    refine pv_getI t_X6_readPhrase_23 fl_X6_41 hr.1 rfl ?_
    refine pv_iconst (v := 1) t_X6_readPhrase_26 zi_1 ?_
    refine pv_iadd t_X6_readPhrase_27 ?_
    refine pv_putI t_X6_readPhrase_28 fl_X6_41 zfn_6_5 hr.1 rfl ?_
    refine pv_iconst (v := 0) t_X6_readPhrase_31 zi_0 ?_
    refine pv_istore_n (i := 1) t_X6_readPhrase_32 rfl (Nat.le_of_ble_eq_true rfl) ?_
    refine pv_loc (lv' := [(0, _), (1, .inl 0)]) ⟨rfl, rfl, trivial⟩ ?_
    refine zst (S2 := (Ψ, zq μ rd pa (p + 1, pg (μ rd) (μ dm 1) 8, μ pa))) ?_ (lp_X6_readPhrase hr hm hn250 (s0 := (p + 1, pg (μ rd) (μ dm 1) 8, μ pa)) hJ2 hJ5 hJp (tl_X6_readPhrase hr hm hn250 (peS_i hJ2 hJ5 hJp 5)) 6 0 (by omega) (by omega) _ rfl)
    rw [zq_0 n_pa_rd, pg, if_pos (Int32.not_lt.mp c9), zhs_hs, zhs_s, gmk_5]

def dG1 (L : Nat → Int32) (n : Nat) (g : Nat → Int32) (p : Nat) (b : Int32) : Int32 × (Nat → Int32) := gnu L n (upd g 5 (g 5 + 1)) (p + 1) 0 (b - 1)
def dG2 (L : Nat → Int32) (n : Nat) (g : Nat → Int32) (p : Nat) (b : Int32) : Int32 × (Nat → Int32) := gnu L n (dG1 L n g p b).2 (nx L n (p + 1)) 0 7
def dB (L : Nat → Int32) (n : Nat) (g : Nat → Int32) (p : Nat) (b : Int32) : Int32 := 1 <<< ((dG2 L n g p b).1 &&& 31)
def dG3 (L : Nat → Int32) (n : Nat) (g : Nat → Int32) (p : Nat) (b : Int32) (F : Nat → Int32) : Nat → Int32 := if rA F 4 (dG1 L n g p b).1 &&& dB L n g p b = 0 then (dG2 L n g p b).2 else gmk (dG2 L n g p b).2 4 ((dG2 L n g p b).2 6)
theorem dG3_2 {L : Nat → Int32} {n : Nat} {g : Nat → Int32} {p : Nat} {b : Int32} {F : Nat → Int32} : dG3 L n g p b F 2 = g 2 := by
  unfold dG3 dG2 dG1
  split
  · rw [gnu_2, gnu_2]; rfl
  · rw [gmk_2, gnu_2, gnu_2]; rfl
theorem dG3_5 {L : Nat → Int32} {n : Nat} {g : Nat → Int32} {p : Nat} {b : Int32} {F : Nat → Int32} : dG3 L n g p b F 5 = nI (nx L n (nx L n (p + 1))) := by
  unfold dG3 dG2
  split
  · rw [gnu_5]
  · rw [gmk_5, gnu_5]
theorem tl_X6_readDeed {l : Launch} {X : zX} {d : Nat} {Ψ : List zC} {μ : zH} {rd dm le tr pa ne fd : Nat} (hr : oR Ψ rd dm le) (hm : oM Ψ dm tr pa ne fd) {n p : Nat} (hn : μ rd 2 = nI n) (hn250 : n ≤ 250) (hp : μ rd 5 = nI p) (hpn : p ≤ n) : zEv l X mi_X6_readDeed (d + 5) 60 [(0, .inr rd), (1, .inl (dG1 (μ le) n (μ rd) p (μ dm 0)).1), (2, .inl (dB (μ le) n (μ rd) p (μ dm 0)))] [] (Ψ, zhs μ rd (dG3 (μ le) n (μ rd) p (μ dm 0) (μ fd))) 0 0 none (Ψ, zhs (zhs μ rd (gen (μ le) n (dG3 (μ le) n (μ rd) p (μ dm 0) (μ fd)) (nx (μ le) n (nx (μ le) n (p + 1))))) fd (rP (μ fd) 4 (dG1 (μ le) n (μ rd) p (μ dm 0)).1 (rA (μ fd) 4 (dG1 (μ le) n (μ rd) p (μ dm 0)).1 ||| dB (μ le) n (μ rd) p (μ dm 0)))) := by
  have n_rd_fd : rd ≠ fd := zne hr.1 hm.2.2.2.2 (by simp)
  have n_fd_rd : fd ≠ rd := zne hm.2.2.2.2 hr.1 (by simp)
  have n_dm_rd : dm ≠ rd := zne hm.1 hr.1 (by simp)
  have n_le_rd : le ≠ rd := zne hr.2 hr.1 (by simp)
  have n_dm_fd : dm ≠ fd := zne hm.1 hm.2.2.2.2 (by simp)
  have n_le_fd : le ≠ fd := zne hr.2 hm.2.2.2.2 (by simp)
  have hz1 := nx_le (L := μ le) (n := n) (p := p + 1)
  have hz2 := nx_le (L := μ le) (n := n) (p := nx (μ le) n (p + 1))
  refine pv_aload_n (i := 0) t_X6_readDeed_60 rfl rfl ?_
  refine pv_getR t_X6_readDeed_61 fl_X6_12 hr.1 rfl ?_
  refine pv_getR t_X6_readDeed_64 fl_X6_102 hm.1 rfl ?_
  refine pv_iload_n (i := 1) t_X6_readDeed_67 rfl rfl ?_
  refine pv_aload_n (i := 0) t_X6_readDeed_68 rfl rfl ?_
  refine pv_getR t_X6_readDeed_69 fl_X6_12 hr.1 rfl ?_
  refine pv_getR t_X6_readDeed_72 fl_X6_102 hm.1 rfl ?_
  refine pv_iload_n (i := 1) t_X6_readDeed_75 rfl rfl ?_
  refine pv_gS2 t_X6_readDeed_76 ml_X6_70 mo_X8_at (Nat.le_of_ble_eq_true rfl) (e_X8_at (Or.inl hm.2.2.2.2) (by decide)) (Nat.le_of_ble_eq_true rfl) ?_
  refine pv_iload_n (i := 2) t_X6_readDeed_79 rfl rfl ?_
  refine pv_ior t_X6_readDeed_80 ?_
  refine pv_gS3 t_X6_readDeed_81 ml_X6_26 mo_X8_put (Nat.le_of_ble_eq_true rfl) (e_X8_put hm.2.2.2.2 (by decide)) (Nat.le_of_ble_eq_true rfl) ?_
  refine pv_aload_n (i := 0) t_X6_readDeed_84 rfl rfl ?_
  refine pv_gV0 t_X6_readDeed_85 ml_X6_84 mo_X6_readEnd hr.1 rfl (Nat.le_of_ble_eq_true rfl) (e_X6_readEnd (n := n) (p := nx (μ le) n (nx (μ le) n (p + 1))) hr (by rw [zhs_n _ _ n_rd_fd, zhs_s, dG3_2, hn]) hn250 (by rw [zhs_n _ _ n_rd_fd, zhs_s, dG3_5]) (by omega) (by omega)) (Nat.le_of_ble_eq_true rfl) ?_
  exact pv_vret t_X6_readDeed_88 rfl (by rw [zhs_cm n_fd_rd, zhs_hs, zhs_n _ _ n_rd_fd, zhs_s, zhs_n _ _ n_le_fd, zhs_n _ _ n_le_rd, zhs_n _ _ n_fd_rd])

theorem e_X6_readDeed {l : Launch} {X : zX} {d : Nat} {Ψ : List zC} {μ : zH} {rd dm le tr pa ne fd : Nat} (hr : oR Ψ rd dm le) (hm : oM Ψ dm tr pa ne fd) {n p : Nat} (hn : μ rd 2 = nI n) (hn250 : n ≤ 250) (hp : μ rd 5 = nI p) (hpn : p ≤ n) : zRn l X mi_X6_readDeed (d + 5) [.inr rd] (Ψ, μ) none (Ψ, zhs (zhs μ rd (gen (μ le) n (dG3 (μ le) n (μ rd) p (μ dm 0) (μ fd)) (nx (μ le) n (nx (μ le) n (p + 1))))) fd (rP (μ fd) 4 (dG1 (μ le) n (μ rd) p (μ dm 0)).1 (rA (μ fd) 4 (dG1 (μ le) n (μ rd) p (μ dm 0)).1 ||| dB (μ le) n (μ rd) p (μ dm 0)))) := by
  have n_rd_fd : rd ≠ fd := zne hr.1 hm.2.2.2.2 (by simp)
  have n_fd_rd : fd ≠ rd := zne hm.2.2.2.2 hr.1 (by simp)
  have n_dm_rd : dm ≠ rd := zne hm.1 hr.1 (by simp)
  have n_le_rd : le ≠ rd := zne hr.2 hr.1 (by simp)
  have n_dm_fd : dm ≠ fd := zne hm.1 hm.2.2.2.2 (by simp)
  have n_le_fd : le ≠ fd := zne hr.2 hm.2.2.2.2 (by simp)
  have hz1 := nx_le (L := μ le) (n := n) (p := p + 1)
  refine pv_aload_n (i := 0) t_X6_readDeed_0 rfl rfl ?_
  refine pv_dup t_X6_readDeed_1 ?_
  refine pv_getI t_X6_readDeed_2 fl_X6_41 hr.1 rfl ?_
  refine pv_iconst (v := 1) t_X6_readDeed_5 zi_1 ?_
  refine pv_iadd t_X6_readDeed_6 ?_
  refine pv_putI t_X6_readDeed_7 fl_X6_41 zfn_6_5 hr.1 rfl ?_
  refine pv_aload_n (i := 0) t_X6_readDeed_10 rfl rfl ?_
  refine pv_iconst (v := 0) t_X6_readDeed_11 zi_0 ?_
  refine pv_aload_n (i := 0) t_X6_readDeed_12 rfl rfl ?_
  refine pv_getR t_X6_readDeed_13 fl_X6_12 hr.1 rfl ?_
  refine pv_getI t_X6_readDeed_16 fl_X6_64 hm.1 rfl ?_
  refine pv_iconst (v := 1) t_X6_readDeed_19 zi_1 ?_
  refine pv_isub t_X6_readDeed_20 ?_
  rw [zhs_n _ _ n_dm_rd]
  refine pv_gV2 t_X6_readDeed_21 ml_X6_77 mo_X6_readNumber hr.1 rfl (Nat.le_of_ble_eq_true rfl) (e_X6_readNumber (n := n) (p := p + 1) hr (by rw [zhs_s]; exact hn) hn250 (by rw [zhs_s]; show μ rd 5 + 1 = _; rw [hp, nI_1]) (by omega)) (Nat.le_of_ble_eq_true rfl) ?_
  rw [zhs_hs, zhs_s, zhs_n _ _ n_le_rd]
  rw [show gnu (μ le) n (upd (μ rd) 5 (μ rd 5 + 1)) (p + 1) 0 (μ dm 0 - 1) = (dG1 (μ le) n (μ rd) p (μ dm 0)) from rfl]
  refine pv_istore_n (i := 1) t_X6_readDeed_24 rfl (Nat.le_of_ble_eq_true rfl) ?_
  refine pv_iconst (v := 1) t_X6_readDeed_25 zi_1 ?_
  refine pv_aload_n (i := 0) t_X6_readDeed_26 rfl rfl ?_
  refine pv_iconst (v := 0) t_X6_readDeed_27 zi_0 ?_
  refine pv_bipush (v := 7) t_X6_readDeed_28 zb_7 ?_
  refine pv_gV2 t_X6_readDeed_30 ml_X6_77 mo_X6_readNumber hr.1 rfl (Nat.le_of_ble_eq_true rfl) (e_X6_readNumber (n := n) (p := nx (μ le) n (p + 1)) hr (by rw [zhs_s]; show (gnu _ _ _ _ _ _).2 2 = _; rw [gnu_2]; exact hn) hn250 (by rw [zhs_s]; exact gnu_5) (by omega)) (Nat.le_of_ble_eq_true rfl) ?_
  rw [zhs_hs, zhs_s, zhs_n _ _ n_le_rd]
  rw [show gnu (μ le) n (dG1 (μ le) n (μ rd) p (μ dm 0)).2 (nx (μ le) n (p + 1)) 0 7 = (dG2 (μ le) n (μ rd) p (μ dm 0)) from rfl]
  refine pv_ishl t_X6_readDeed_33 ?_
  refine pv_istore_n (i := 2) t_X6_readDeed_34 rfl (Nat.le_of_ble_eq_true rfl) ?_
  refine pv_aload_n (i := 0) t_X6_readDeed_35 rfl rfl ?_
  refine pv_getR t_X6_readDeed_36 fl_X6_12 hr.1 rfl ?_
  refine pv_getR t_X6_readDeed_39 fl_X6_102 hm.1 rfl ?_
  refine pv_iload_n (i := 1) t_X6_readDeed_42 rfl rfl ?_
  refine pv_gS2 t_X6_readDeed_43 ml_X6_70 mo_X8_at (Nat.le_of_ble_eq_true rfl) (e_X8_at (Or.inl hm.2.2.2.2) (by decide)) (Nat.le_of_ble_eq_true rfl) ?_
  rw [zhs_n _ _ n_fd_rd]
  refine pv_iload_n (i := 2) t_X6_readDeed_46 rfl rfl ?_
  refine pv_iand t_X6_readDeed_47 ?_
  refine pv_if_eq t_X6_readDeed_48 (fun c48 => ?_) (fun c48 => ?_)
  · skip
    refine pv_loc (lv' := [(0, _), (1, _), (2, _)]) ⟨rfl, rfl, rfl, trivial⟩ ?_
    refine zst (S2 := (Ψ, zhs μ rd (dG3 (μ le) n (μ rd) p (μ dm 0) (μ fd)))) (by rw [dG3, dB, if_pos c48]) (tl_X6_readDeed hr hm hn hn250 hp hpn)
  · skip
    refine pv_aload_n (i := 0) t_X6_readDeed_51 rfl rfl ?_
    refine pv_iconst (v := 4) t_X6_readDeed_52 zi_4 ?_
    refine pv_aload_n (i := 0) t_X6_readDeed_53 rfl rfl ?_
    refine pv_getI t_X6_readDeed_54 fl_X6_105 hr.1 rfl ?_
    refine pv_gV2 t_X6_readDeed_57 ml_X6_60 mo_X6_mark hr.1 rfl (Nat.le_of_ble_eq_true rfl) (e_X6_mark hr) (Nat.le_of_ble_eq_true rfl) ?_
    refine pv_loc (lv' := [(0, _), (1, _), (2, _)]) ⟨rfl, rfl, rfl, trivial⟩ ?_
    refine zst (S2 := (Ψ, zhs μ rd (dG3 (μ le) n (μ rd) p (μ dm 0) (μ fd)))) (by rw [dG3, dB, if_neg c48, zhs_hs, zhs_s]) (tl_X6_readDeed hr hm hn hn250 hp hpn)

