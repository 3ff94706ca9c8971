def ppF (pa ne dn : Nat → Int32) (e t set : Int32) (c : Nat) (z : Int32 × (Int32 × (Nat → Int32))) : Int32 × (Int32 × (Nat → Int32)) := if part pa (nI c) 0 = t then (if (gpS pa ne dn (nI c) e set (0, clr 82 z.2.2) 10).1 < z.2.1 then nI c else z.1, (imin z.2.1 (gpS pa ne dn (nI c) e set (0, clr 82 z.2.2) 10).1, (gpS pa ne dn (nI c) e set (0, clr 82 z.2.2) 10).2)) else z
def ppS (pa ne dn : Nat → Int32) (e t set : Int32) (z : Int32 × (Int32 × (Nat → Int32))) : Nat → Int32 × (Int32 × (Nat → Int32)) := zfold (ppF pa ne dn e t set) z
theorem ppS_s (pa ne dn : Nat → Int32) (e t set : Int32) (z : Int32 × (Int32 × (Nat → Int32))) (c : Nat) : ppS pa ne dn e t set z (c + 1) = ppF pa ne dn e t set c (ppS pa ne dn e t set z c) := rfl
def pbS (tr pa ne dn va bo : Nat → Int32) : Nat → Nat → (Nat → Int32) → (Nat → Int32) → Int32 × ((Nat → Int32) × (Nat → Int32))
  | 0, _, ce, pt => (-1, (ce, pt))
  | j + 1, i, ce, pt => if dAl ce (rA bo 20 (nI i)) = true then pbS tr pa ne dn va bo j (i + 1) (dPl tr pa ne dn va ce (rA bo 20 (nI i))) (dRem ce pt) else (nI i, (ce, pt))
theorem lp_X5_partingPhrase {l : Launch} {X : zX} {d : Nat} {Ψ : List zC} {μ : zH} {m tr pa ne fd : Nat} (hm : oM Ψ m tr pa ne fd) {f dn va : Nat} (hf : oF Ψ f m dn va) {n wa ch bo ps : Nat} (hn : oN Ψ n wa ch bo ps) {nc : Nat} (hnc : μ m 1 = nI nc) (hc8 : nc ≤ 8) {e t set : Int32} {z0 : Int32 × (Int32 × (Nat → Int32))} : ∀ j i : Nat, i + j = nc + 1 → i ≤ nc → ∀ (x : Int32) (a : Int32) (b : Int32) (s : Nat → Int32), x = nI i → True → True → (a, (b, s)) = ppS (μ pa) (μ ne) (μ dn) e t set z0 i → zEv l X mi_X5_partingPhrase (d + 4) 22 [(0, .inr n), (1, .inr f), (2, .inl e), (3, .inl t), (4, .inl set), (5, .inl b), (6, .inl a), (7, .inl x)] [] (Ψ, zhs μ ps s) 0 0 (some (.inl (ppS (μ pa) (μ ne) (μ dn) e t set z0 nc).1)) (Ψ, zhs μ ps (ppS (μ pa) (μ ne) (μ dn) e t set z0 nc).2.2) := by
  intro j
  induction j with
  | zero => intro i h h2; omega
  | succ j ih =>
    intro i hij hle x a b s hx ha hb hs 
    subst hx
    have k0 : m ≠ ps := zne hm.1 hn.2.2.2.2 (by simp)
    have k1 : pa ≠ ps := zne hm.2.2.1 hn.2.2.2.2 (by decide)
    have k2 : ne ≠ ps := zne hm.2.2.2.1 hn.2.2.2.2 (by decide)
    have k3 : dn ≠ ps := zne hf.2.1 hn.2.2.2.2 (by decide)
    refine pv_iload t_X5_partingPhrase_22 rfl ?_
    refine pv_aload_n (i := 1) t_X5_partingPhrase_24 rfl rfl ?_
    refine pv_getR t_X5_partingPhrase_25 fl_X5_52 hf.1 rfl ?_
    refine pv_getI t_X5_partingPhrase_28 fl_X5_77 hm.1 rfl ?_
    refine pv_icmp_ge t_X5_partingPhrase_31 (fun c31 => ?_) (fun c31 => ?_)
    · skip
      rw [show zhs μ ps s m 1 = μ m 1 from congrFun (zhs_n _ _ k0) 1, hnc] at c31
      have hie : i = nc := by have := (nI_leI (by omega) (by omega)).mp c31; omega
      rw [hie] at hs
      have e0 : a = (ppS (μ pa) (μ ne) (μ dn) e t set z0 nc).1 := by rw [← hs]
      have e1 : s = (ppS (μ pa) (μ ne) (μ dn) e t set z0 nc).2.2 := by rw [← hs]
      rw [e0, e1]
      refine pv_iload t_X5_partingPhrase_91 rfl ?_
      exact pv_ireti t_X5_partingPhrase_93 rfl rfl rfl
    · skip
      rw [show zhs μ ps s m 1 = μ m 1 from congrFun (zhs_n _ _ k0) 1, hnc] at c31
      have hin : i < nc := Nat.lt_of_not_le (fun q => c31 (nI_le q (by omega)))
      refine pv_aload_n (i := 1) t_X5_partingPhrase_34 rfl rfl ?_
      refine pv_getR t_X5_partingPhrase_35 fl_X5_52 hf.1 rfl ?_
      refine pv_iload t_X5_partingPhrase_38 rfl ?_
      refine pv_iconst (v := 0) t_X5_partingPhrase_40 zi_0 ?_
      refine pv_gV2 t_X5_partingPhrase_41 ml_X5_60 mo_X4_part hm.1 rfl (Nat.le_of_ble_eq_true rfl) (e_X4_part hm) (Nat.le_of_ble_eq_true rfl) ?_
      rw [zhs_n _ _ k1]
      refine pv_iload_n (i := 3) t_X5_partingPhrase_44 rfl rfl ?_
      refine pv_icmp_ne t_X5_partingPhrase_45 (fun c45 => ?_) (fun c45 => ?_)
      · skip
        have hq : ¬ (part (μ pa) (nI i) 0 = t) := c45
        refine pv_iinc (v := 1) t_X5_partingPhrase_85 rfl zi_1 ?_
        refine pv_goto t_X5_partingPhrase_88 ?_
        refine pv_loc (lv' := [(0, _), (1, _), (2, _), (3, _), (4, _), (5, _), (6, _), (7, _)]) ⟨rfl, rfl, rfl, rfl, rfl, rfl, rfl, rfl, trivial⟩ ?_
        refine ih (i + 1) (by omega) (by omega) _ _ _ _ (nI_1 i) trivial trivial ?_
        rw [ppS_s, ← hs, ppF]
        first | rw [if_neg hq] | (rw [if_pos hq]; first | (simp only [imin, if_pos hg]; done) | (simp only [imin, if_neg hg]; done))
      · skip
        have hq : (part (μ pa) (nI i) 0 = t) := c45
        refine pv_aload_n (i := 0) t_X5_partingPhrase_48 rfl rfl ?_
        refine pv_aload_n (i := 1) t_X5_partingPhrase_49 rfl rfl ?_
        refine pv_iload t_X5_partingPhrase_50 rfl ?_
        refine pv_iload_n (i := 2) t_X5_partingPhrase_52 rfl rfl ?_
        refine pv_iload t_X5_partingPhrase_53 rfl ?_
        refine pv_gV4 t_X5_partingPhrase_55 ml_X5_80 mo_X5_greatestPart hn.1 rfl (Nat.le_of_ble_eq_true rfl) (e_X5_greatestPart hm hf hn) (Nat.le_of_ble_eq_true rfl) ?_
        rw [zhs_n _ _ k1, zhs_n _ _ k2, zhs_n _ _ k3, zhs_s]
        refine zst (S2 := (Ψ, zhs μ ps (gpS (μ pa) (μ ne) (μ dn) (nI i) e set (0, clr 82 s) 10).2)) (by rw [zhs_hs]) ?_
        refine pv_istore t_X5_partingPhrase_58 (Nat.le_of_ble_eq_true rfl) ?_
        refine pv_iload t_X5_partingPhrase_60 rfl ?_
        refine pv_iload t_X5_partingPhrase_62 rfl ?_
        refine pv_icmp_ge t_X5_partingPhrase_64 (fun c64 => ?_) (fun c64 => ?_)
        · skip
          have hg : ¬ (gpS (μ pa) (μ ne) (μ dn) (nI i) e set (0, clr 82 s) 10).1 < b := Int32.not_lt.mpr c64
          refine pv_iload t_X5_partingPhrase_72 rfl ?_
          refine pv_istore t_X5_partingPhrase_74 (Nat.le_of_ble_eq_true rfl) ?_
          refine pv_iload t_X5_partingPhrase_76 rfl ?_
          refine pv_iload t_X5_partingPhrase_78 rfl ?_
          refine pv_gS2 t_X5_partingPhrase_80 ml_X5_84 mo_J_min (Nat.le_of_ble_eq_true rfl) e_J_min (Nat.le_of_ble_eq_true rfl) ?_
          refine pv_istore t_X5_partingPhrase_83 (Nat.le_of_ble_eq_true rfl) ?_
          refine pv_iinc (v := 1) t_X5_partingPhrase_85 rfl zi_1 ?_
          refine pv_goto t_X5_partingPhrase_88 ?_
          refine pv_loc (lv' := [(0, _), (1, _), (2, _), (3, _), (4, _), (5, _), (6, _), (7, _)]) ⟨rfl, rfl, rfl, rfl, rfl, rfl, rfl, rfl, trivial⟩ ?_
          refine ih (i + 1) (by omega) (by omega) _ _ _ _ (nI_1 i) trivial trivial ?_
          rw [ppS_s, ← hs, ppF]
          first | rw [if_neg hq] | (rw [if_pos hq]; first | (simp only [imin, if_pos hg]; done) | (simp only [imin, if_neg hg]; done))
        · skip
          have hg : (gpS (μ pa) (μ ne) (μ dn) (nI i) e set (0, clr 82 s) 10).1 < b := Int32.not_le.mp c64
          refine pv_iload t_X5_partingPhrase_67 rfl ?_
          refine pv_goto t_X5_partingPhrase_69 ?_
          refine pv_istore t_X5_partingPhrase_74 (Nat.le_of_ble_eq_true rfl) ?_
          refine pv_iload t_X5_partingPhrase_76 rfl ?_
          refine pv_iload t_X5_partingPhrase_78 rfl ?_
          refine pv_gS2 t_X5_partingPhrase_80 ml_X5_84 mo_J_min (Nat.le_of_ble_eq_true rfl) e_J_min (Nat.le_of_ble_eq_true rfl) ?_
          refine pv_istore t_X5_partingPhrase_83 (Nat.le_of_ble_eq_true rfl) ?_
          refine pv_iinc (v := 1) t_X5_partingPhrase_85 rfl zi_1 ?_
          refine pv_goto t_X5_partingPhrase_88 ?_
          refine pv_loc (lv' := [(0, _), (1, _), (2, _), (3, _), (4, _), (5, _), (6, _), (7, _)]) ⟨rfl, rfl, rfl, rfl, rfl, rfl, rfl, rfl, trivial⟩ ?_
          refine ih (i + 1) (by omega) (by omega) _ _ _ _ (nI_1 i) trivial trivial ?_
          rw [ppS_s, ← hs, ppF]
          first | rw [if_neg hq] | (rw [if_pos hq]; first | (simp only [imin, if_pos hg]; done) | (simp only [imin, if_neg hg]; done))

theorem e_X5_partingPhrase {l : Launch} {X : zX} {d : Nat} {Ψ : List zC} {μ : zH} {m tr pa ne fd : Nat} (hm : oM Ψ m tr pa ne fd) {f dn va : Nat} (hf : oF Ψ f m dn va) {n wa ch bo ps : Nat} (hn : oN Ψ n wa ch bo ps) {nc : Nat} (hnc : μ m 1 = nI nc) (hc8 : nc ≤ 8) {kw : Nat} (hkw : μ n 4 = nI kw) (hw12 : kw ≤ 12) {e t : Int32} : zRn l X mi_X5_partingPhrase (d + 5) [.inr n, .inr f, .inl e, .inl t] (Ψ, μ) (some (.inl (ppS (μ pa) (μ ne) (μ dn) e t (fvS (μ pa) (μ ne) (μ dn) (μ wa) e t kw 10) (-1, (bc (fvS (μ pa) (μ ne) (μ dn) (μ wa) e t kw 10), μ ps)) nc).1)) (Ψ, zhs μ ps (ppS (μ pa) (μ ne) (μ dn) e t (fvS (μ pa) (μ ne) (μ dn) (μ wa) e t kw 10) (-1, (bc (fvS (μ pa) (μ ne) (μ dn) (μ wa) e t kw 10), μ ps)) nc).2.2) := by
  refine pv_aload_n (i := 0) t_X5_partingPhrase_0 rfl rfl ?_
  refine pv_aload_n (i := 1) t_X5_partingPhrase_1 rfl rfl ?_
  refine pv_iload_n (i := 2) t_X5_partingPhrase_2 rfl rfl ?_
  refine pv_iload_n (i := 3) t_X5_partingPhrase_3 rfl rfl ?_
  refine pv_gV3 t_X5_partingPhrase_4 ml_X5_67 mo_X5_fittingVanities hn.1 rfl (Nat.le_of_ble_eq_true rfl) (e_X5_fittingVanities hm hf hn hkw hw12) (Nat.le_of_ble_eq_true rfl) ?_
  refine pv_istore t_X5_partingPhrase_7 (Nat.le_of_ble_eq_true rfl) ?_
  refine pv_iload t_X5_partingPhrase_9 rfl ?_
  refine pv_gS1 t_X5_partingPhrase_11 ml_X5_71 mo_J_bitCount (Nat.le_of_ble_eq_true rfl) e_J_bitCount (Nat.le_of_ble_eq_true rfl) ?_
  refine pv_istore t_X5_partingPhrase_14 (Nat.le_of_ble_eq_true rfl) ?_
  refine pv_iconst (v := -1) t_X5_partingPhrase_16 zi_m1 ?_
  refine pv_istore t_X5_partingPhrase_17 (Nat.le_of_ble_eq_true rfl) ?_
  refine pv_iconst (v := 0) t_X5_partingPhrase_19 zi_0 ?_
  refine pv_istore t_X5_partingPhrase_20 (Nat.le_of_ble_eq_true rfl) ?_
  refine zst (S2 := (Ψ, zhs μ ps (μ ps))) (by rw [zhs_id]) ?_
  exact lp_X5_partingPhrase (d := d + 1) (μ := μ) (z0 := (-1, (bc (fvS (μ pa) (μ ne) (μ dn) (μ wa) e t kw 10), μ ps))) hm hf hn hnc hc8 (nc + 1) 0 (by omega) (by omega) _ _ _ _ rfl trivial trivial rfl

theorem lp_X5_playBook {l : Launch} {X : zX} {d : Nat} {Ψ : List zC} {μ : zH} {m tr pa ne fd : Nat} (hm : oM Ψ m tr pa ne fd) {f dn va : Nat} (hf : oF Ψ f m dn va) {n wa ch bo ps : Nat} (hn : oN Ψ n wa ch bo ps) {t a b : Nat} (hd : oD Ψ t a b) {kb : Nat} (hkb : μ n 6 = nI kb) (hb20 : kb ≤ 20) (hbo : bo ≠ a) {z : Int32 × ((Nat → Int32) × (Nat → Int32))} : ∀ j i : Nat, i + j = kb + 1 → i ≤ kb → ∀ (x : Int32) (ce : Nat → Int32) (pt : Nat → Int32), x = nI i → True → pbS (μ tr) (μ pa) (μ ne) (μ dn) (μ va) (μ bo) (kb - i) i ce pt = z → zEv l X mi_X5_playBook (d + 5) 2 [(0, .inr n), (1, .inr t), (2, .inr f), (3, .inl x)] [] (Ψ, (zhs (zhs μ b pt) a ce)) 0 0 (some (.inl z.1)) (Ψ, zhs (zhs μ b z.2.2) a z.2.1) := by
  intro j
  induction j with
  | zero => intro i h h2; omega
  | succ j ih =>
    intro i hij hle x ce pt hx hce hpt 
    subst hx
    have n1 : tr ≠ a := zne hm.2.1 hd.2.1 (by decide)
    have n2 : pa ≠ a := zne hm.2.2.1 hd.2.1 (by decide)
    have n3 : ne ≠ a := zne hm.2.2.2.1 hd.2.1 (by decide)
    have n4 : dn ≠ a := zne hf.2.1 hd.2.1 (by decide)
    have n5 : va ≠ a := zne hf.2.2 hd.2.1 (by decide)
    have k1 : tr ≠ b := zne hm.2.1 hd.2.2 (by decide)
    have k2 : pa ≠ b := zne hm.2.2.1 hd.2.2 (by decide)
    have k3 : ne ≠ b := zne hm.2.2.2.1 hd.2.2 (by decide)
    have k4 : dn ≠ b := zne hf.2.1 hd.2.2 (by decide)
    have k5 : va ≠ b := zne hf.2.2 hd.2.2 (by decide)
    have nab : a ≠ b := zne hd.2.1 hd.2.2 (by decide)
    have nba : b ≠ a := fun q => nab q.symm
    have m1 : n ≠ a := zne hn.1 hd.2.1 (by simp)
    have m2 : n ≠ b := zne hn.1 hd.2.2 (by simp)
    have o2 : bo ≠ b := zne hn.2.2.2.1 hd.2.2 (by decide)
    refine pv_iload_n (i := 3) t_X5_playBook_2 rfl rfl ?_
    refine pv_aload_n (i := 0) t_X5_playBook_3 rfl rfl ?_
    refine pv_getI t_X5_playBook_4 fl_X5_31 hn.1 rfl ?_
    refine pv_icmp_ge t_X5_playBook_7 (fun c7 => ?_) (fun c7 => ?_)
    · skip
      rw [show (zhs (zhs μ b pt) a ce) n 6 = μ n 6 from congrFun ((zhs_n _ _ m1).trans (zhs_n _ _ m2)) 6, hkb] at c7
      have hie : i = kb := by have := (nI_leI (by omega) (by omega)).mp c7; omega
      rw [← hpt, hie, Nat.sub_self]
      refine pv_iconst (v := -1) t_X5_playBook_44 zi_m1 ?_
      exact pv_ireti t_X5_playBook_45 rfl rfl rfl
    · skip
      rw [show (zhs (zhs μ b pt) a ce) n 6 = μ n 6 from congrFun ((zhs_n _ _ m1).trans (zhs_n _ _ m2)) 6, hkb] at c7
      have hin : i < kb := Nat.lt_of_not_le (fun q => c7 (nI_le q (by omega)))
      refine pv_aload_n (i := 0) t_X5_playBook_10 rfl rfl ?_
      refine pv_getR t_X5_playBook_11 fl_X5_18 hn.1 rfl ?_
      refine pv_iload_n (i := 3) t_X5_playBook_14 rfl rfl ?_
      refine pv_gS2 t_X5_playBook_15 ml_X5_40 mo_X8_at (Nat.le_of_ble_eq_true rfl) (e_X8_at (Or.inl hn.2.2.2.1) (by decide)) (Nat.le_of_ble_eq_true rfl) ?_
      rw [show (zhs (zhs μ b pt) a ce) bo = μ bo from (zhs_n _ _ hbo).trans (zhs_n _ _ o2)]
      refine pv_istore t_X5_playBook_18 (Nat.le_of_ble_eq_true rfl) ?_
      refine pv_aload_n (i := 1) t_X5_playBook_20 rfl rfl ?_
      refine pv_iload t_X5_playBook_21 rfl ?_
      refine pv_gV1 t_X5_playBook_23 ml_X5_99 mo_X1_allows hd.1 rfl (Nat.le_of_ble_eq_true rfl) (e_X1_allows hd) (Nat.le_of_ble_eq_true rfl) ?_
      rw [zhs_s]
      refine pv_if_ne t_X5_playBook_26 (fun c26 => ?_) (fun c26 => ?_)
      · skip
        have hq : dAl ce (rA (μ bo) 20 (nI i)) = true := bz_n.mp c26
        refine pv_aload_n (i := 1) t_X5_playBook_31 rfl rfl ?_
        refine pv_iload t_X5_playBook_32 rfl ?_
        refine pv_aload_n (i := 2) t_X5_playBook_34 rfl rfl ?_
        refine pv_gV2 t_X5_playBook_35 ml_X5_105 mo_X1_play hd.1 rfl (Nat.le_of_ble_eq_true rfl) (e_X1_play hm hf hd) (Nat.le_of_ble_eq_true rfl) ?_
        refine pv_iinc (v := 1) t_X5_playBook_38 rfl zi_1 ?_
        refine pv_goto t_X5_playBook_41 ?_
        refine pv_loc (lv' := [(0, _), (1, _), (2, _), (3, _)]) ⟨rfl, rfl, rfl, rfl, trivial⟩ ?_
        refine zst (S2 := (Ψ, zhs (zhs μ b (dRem ce pt)) a (dPl (μ tr) (μ pa) (μ ne) (μ dn) (μ va) ce (rA (μ bo) 20 (nI i))))) ?_ ?_
        · have e9 : zhs (zhs (zhs (zhs μ b pt) a ce) b (dRem ce pt)) a (dPl (μ tr) (μ pa) (μ ne) (μ dn) (μ va) ce (rA (μ bo) 20 (nI i))) = zhs (zhs μ b (dRem ce pt)) a (dPl (μ tr) (μ pa) (μ ne) (μ dn) (μ va) ce (rA (μ bo) 20 (nI i))) := pw_hs nba _ _ _ _
          rw [← e9]
          simp only [zhs_s, zhs_n _ _ n1, zhs_n _ _ n2, zhs_n _ _ n3, zhs_n _ _ n4, zhs_n _ _ n5, zhs_n _ _ k1, zhs_n _ _ k2, zhs_n _ _ k3, zhs_n _ _ k4, zhs_n _ _ k5, zhs_n _ _ nab, zhs_n _ _ nba]
        exact ih (i + 1) (by omega) (by omega) _ _ _ (nI_1 i) trivial (by rw [← hpt, show kb - i = (kb - (i + 1)) + 1 by omega, pbS, if_pos hq])
      · skip
        have hq : ¬ dAl ce (rA (μ bo) 20 (nI i)) = true := by rw [bz_0.mp c26]; decide
        rw [← hpt, show kb - i = (kb - (i + 1)) + 1 by omega, pbS, if_neg hq]
        refine pv_iload_n (i := 3) t_X5_playBook_29 rfl rfl ?_
        exact pv_ireti t_X5_playBook_30 rfl rfl rfl

theorem e_X5_playBook {l : Launch} {X : zX} {d : Nat} {Ψ : List zC} {μ : zH} {m tr pa ne fd : Nat} (hm : oM Ψ m tr pa ne fd) {f dn va : Nat} (hf : oF Ψ f m dn va) {n wa ch bo ps : Nat} (hn : oN Ψ n wa ch bo ps) {t a b : Nat} (hd : oD Ψ t a b) {kb : Nat} (hkb : μ n 6 = nI kb) (hb20 : kb ≤ 20) (hbo : bo ≠ a) : zRn l X mi_X5_playBook (d + 5) [.inr n, .inr t, .inr f] (Ψ, μ) (some (.inl (pbS (μ tr) (μ pa) (μ ne) (μ dn) (μ va) (μ bo) kb 0 (μ a) (μ b)).1)) (Ψ, zhs (zhs μ b (pbS (μ tr) (μ pa) (μ ne) (μ dn) (μ va) (μ bo) kb 0 (μ a) (μ b)).2.2) a (pbS (μ tr) (μ pa) (μ ne) (μ dn) (μ va) (μ bo) kb 0 (μ a) (μ b)).2.1) := by
  refine pv_iconst (v := 0) t_X5_playBook_0 zi_0 ?_
  refine pv_istore_n (i := 3) t_X5_playBook_1 rfl (Nat.le_of_ble_eq_true rfl) ?_
  refine zst (S2 := (Ψ, zhs (zhs μ b (μ b)) a (μ a))) (by rw [zhs_id, zhs_id]) ?_
  exact lp_X5_playBook (μ := μ) hm hf hn hd hkb hb20 hbo (kb + 1) 0 (by omega) (by omega) _ _ _ rfl trivial rfl

