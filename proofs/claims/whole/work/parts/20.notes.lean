def oN (sh : List zC) (n wa ch bo ps : Nat) : Prop := sh[n]? = some (.inr (.inr (5, [some (some wa), some (some ch), some (some bo), some (some ps), none, none, none]))) ∧ sh[wa]? = some (.inl (0, 48)) ∧ sh[ch]? = some (.inl (0, 4)) ∧ sh[bo]? = some (.inl (0, 20)) ∧ sh[ps]? = some (.inl (0, 82))
def caN (f : Nat → Int32) : Nat → Int32 := upd (upd (upd f 4 0) 5 0) 6 0
def awW (wa : Nat → Int32) (k c p t e : Int32) : Nat → Int32 := rP (rP (rP (rP wa 48 (k * 4 + 0) c) 48 (k * 4 + 1) p) 48 (k * 4 + 2) t) 48 (k * 4 + 3) e
def mk (wa : Nat → Int32) (i w : Int32) : Int32 := rA wa 48 (i * 4 + w)
def faB (pa ne dn wa : Nat → Int32) (e t v : Int32) : Nat → Nat → Bool
  | 0, _ => true
  | j + 1, i => if (mk wa (nI i) 1 = e ∧ part pa (mk wa (nI i) 0) 0 = t) ∧ ¬ effB pa ne dn (mk wa (nI i) 0) e v (mk wa (nI i) 2) = mk wa (nI i) 3 then false else faB pa ne dn wa e t v j (i + 1)
def fvS (pa ne dn wa : Nat → Int32) (e t : Int32) (k : Nat) : Nat → Int32 := zfold (fun v s => if faB pa ne dn wa e t (nI v) k 0 = true then s ||| (1 <<< (nI v &&& 31)) else s) 0
theorem fvS_s (pa ne dn wa : Nat → Int32) (e t : Int32) (k v : Nat) : fvS pa ne dn wa e t k (v + 1) = if faB pa ne dn wa e t (nI v) k 0 = true then fvS pa ne dn wa e t k v ||| (1 <<< (nI v &&& 31)) else fvS pa ne dn wa e t k v := rfl
def gpF (pa ne dn : Nat → Int32) (c e set : Int32) (v : Nat) (z : Int32 × (Nat → Int32)) : Int32 × (Nat → Int32) := if (set >>> (nI v &&& 31)) &&& 1 = 1 then (imax z.1 (rA (rP z.2 82 (effB pa ne dn c e (nI v) 0) (rA z.2 82 (effB pa ne dn c e (nI v) 0) + 1)) 82 (effB pa ne dn c e (nI v) 0)), rP z.2 82 (effB pa ne dn c e (nI v) 0) (rA z.2 82 (effB pa ne dn c e (nI v) 0) + 1)) else z
def gpS (pa ne dn : Nat → Int32) (c e set : Int32) (z : Int32 × (Nat → Int32)) : Nat → Int32 × (Nat → Int32) := zfold (gpF pa ne dn c e set) z
theorem gpS_s (pa ne dn : Nat → Int32) (c e set : Int32) (z : Int32 × (Nat → Int32)) (v : Nat) : gpS pa ne dn c e set z (v + 1) = gpF pa ne dn c e set v (gpS pa ne dn c e set z v) := rfl
theorem e_X5_clearAll {l : Launch} {X : zX} {d : Nat} {Ψ : List zC} {μ : zH} {n wa ch bo ps : Nat} (hn : oN Ψ n wa ch bo ps) : zRn l X mi_X5_clearAll d [.inr n] (Ψ, μ) (some (.inl (μ n 4 + μ n 5 + μ n 6))) (Ψ, zhs μ n (caN (μ n))) := by
  refine pv_aload_n (i := 0) t_X5_clearAll_0 rfl rfl ?_
  refine pv_getI t_X5_clearAll_1 fl_X5_24 hn.1 rfl ?_
  refine pv_aload_n (i := 0) t_X5_clearAll_4 rfl rfl ?_
  refine pv_getI t_X5_clearAll_5 fl_X5_28 hn.1 rfl ?_
  refine pv_iadd t_X5_clearAll_8 ?_
  refine pv_aload_n (i := 0) t_X5_clearAll_9 rfl rfl ?_
  refine pv_getI t_X5_clearAll_10 fl_X5_31 hn.1 rfl ?_
  refine pv_iadd t_X5_clearAll_13 ?_
  refine pv_istore_n (i := 1) t_X5_clearAll_14 rfl (Nat.le_of_ble_eq_true rfl) ?_
  refine pv_aload_n (i := 0) t_X5_clearAll_15 rfl rfl ?_
  refine pv_iconst (v := 0) t_X5_clearAll_16 zi_0 ?_
  refine pv_putI t_X5_clearAll_17 fl_X5_24 zfn_5_4 hn.1 rfl ?_
  refine pv_aload_n (i := 0) t_X5_clearAll_20 rfl rfl ?_
  refine pv_iconst (v := 0) t_X5_clearAll_21 zi_0 ?_
  refine pv_putI t_X5_clearAll_22 fl_X5_28 zfn_5_5 hn.1 rfl ?_
  refine pv_aload_n (i := 0) t_X5_clearAll_25 rfl rfl ?_
  refine pv_iconst (v := 0) t_X5_clearAll_26 zi_0 ?_
  refine pv_putI t_X5_clearAll_27 fl_X5_31 zfn_5_6 hn.1 rfl ?_
  refine pv_iload_n (i := 1) t_X5_clearAll_30 rfl rfl ?_
  exact pv_ireti t_X5_clearAll_31 rfl rfl (by simp only [zhs_hs, zhs_s]; rfl)

theorem e_X5_addWarmed {l : Launch} {X : zX} {d : Nat} {Ψ : List zC} {μ : zH} {n wa ch bo ps : Nat} (hn : oN Ψ n wa ch bo ps) {c p t e : Int32} : zRn l X mi_X5_addWarmed (d + 1) [.inr n, .inl c, .inl p, .inl t, .inl e] (Ψ, μ) (some (.inl (μ n 4 + 1))) (Ψ, zhs (zhs μ wa (awW (μ wa) (μ n 4) c p t e)) n (upd (μ n) 4 (μ n 4 + 1))) := by
  have n1 : n ≠ wa := zne hn.1 hn.2.1 (by simp)
  have n2 : n ≠ ch := zne hn.1 hn.2.2.1 (by simp)
  have n3 : n ≠ bo := zne hn.1 hn.2.2.2.1 (by simp)
  have n4 : n ≠ ps := zne hn.1 hn.2.2.2.2 (by simp)
  refine pv_aload_n (i := 0) t_X5_addWarmed_0 rfl rfl ?_
  refine pv_getR t_X5_addWarmed_1 fl_X5_11 hn.1 rfl ?_
  refine pv_aload_n (i := 0) t_X5_addWarmed_4 rfl rfl ?_
  refine pv_getI t_X5_addWarmed_5 fl_X5_24 hn.1 rfl ?_
  refine pv_iconst (v := 4) t_X5_addWarmed_8 zi_4 ?_
  refine pv_imul t_X5_addWarmed_9 ?_
  refine pv_iconst (v := 0) t_X5_addWarmed_10 zi_0 ?_
  refine pv_iadd t_X5_addWarmed_11 ?_
  refine pv_iload_n (i := 1) t_X5_addWarmed_12 rfl rfl ?_
  refine pv_gS3 t_X5_addWarmed_13 ml_X5_34 mo_X8_put (Nat.le_of_ble_eq_true rfl) (e_X8_put hn.2.1 (by decide)) (Nat.le_of_ble_eq_true rfl) ?_
  refine pv_aload_n (i := 0) t_X5_addWarmed_16 rfl rfl ?_
  refine pv_getR t_X5_addWarmed_17 fl_X5_11 hn.1 rfl ?_
  refine pv_aload_n (i := 0) t_X5_addWarmed_20 rfl rfl ?_
  refine pv_getI t_X5_addWarmed_21 fl_X5_24 hn.1 rfl ?_
  refine pv_iconst (v := 4) t_X5_addWarmed_24 zi_4 ?_
  refine pv_imul t_X5_addWarmed_25 ?_
  refine pv_iconst (v := 1) t_X5_addWarmed_26 zi_1 ?_
  refine pv_iadd t_X5_addWarmed_27 ?_
  refine pv_iload_n (i := 2) t_X5_addWarmed_28 rfl rfl ?_
  refine pv_gS3 t_X5_addWarmed_29 ml_X5_34 mo_X8_put (Nat.le_of_ble_eq_true rfl) (e_X8_put hn.2.1 (by decide)) (Nat.le_of_ble_eq_true rfl) ?_
  refine pv_aload_n (i := 0) t_X5_addWarmed_32 rfl rfl ?_
  refine pv_getR t_X5_addWarmed_33 fl_X5_11 hn.1 rfl ?_
  refine pv_aload_n (i := 0) t_X5_addWarmed_36 rfl rfl ?_
  refine pv_getI t_X5_addWarmed_37 fl_X5_24 hn.1 rfl ?_
  refine pv_iconst (v := 4) t_X5_addWarmed_40 zi_4 ?_
  refine pv_imul t_X5_addWarmed_41 ?_
  refine pv_iconst (v := 2) t_X5_addWarmed_42 zi_2 ?_
  refine pv_iadd t_X5_addWarmed_43 ?_
  refine pv_iload_n (i := 3) t_X5_addWarmed_44 rfl rfl ?_
  refine pv_gS3 t_X5_addWarmed_45 ml_X5_34 mo_X8_put (Nat.le_of_ble_eq_true rfl) (e_X8_put hn.2.1 (by decide)) (Nat.le_of_ble_eq_true rfl) ?_
  refine pv_aload_n (i := 0) t_X5_addWarmed_48 rfl rfl ?_
  refine pv_getR t_X5_addWarmed_49 fl_X5_11 hn.1 rfl ?_
  refine pv_aload_n (i := 0) t_X5_addWarmed_52 rfl rfl ?_
  refine pv_getI t_X5_addWarmed_53 fl_X5_24 hn.1 rfl ?_
  refine pv_iconst (v := 4) t_X5_addWarmed_56 zi_4 ?_
  refine pv_imul t_X5_addWarmed_57 ?_
  refine pv_iconst (v := 3) t_X5_addWarmed_58 zi_3 ?_
  refine pv_iadd t_X5_addWarmed_59 ?_
  refine pv_iload t_X5_addWarmed_60 rfl ?_
  refine pv_gS3 t_X5_addWarmed_62 ml_X5_34 mo_X8_put (Nat.le_of_ble_eq_true rfl) (e_X8_put hn.2.1 (by decide)) (Nat.le_of_ble_eq_true rfl) ?_
  refine pv_aload_n (i := 0) t_X5_addWarmed_65 rfl rfl ?_
  refine pv_dup t_X5_addWarmed_66 ?_
  refine pv_getI t_X5_addWarmed_67 fl_X5_24 hn.1 rfl ?_
  refine pv_iconst (v := 1) t_X5_addWarmed_70 zi_1 ?_
  refine pv_iadd t_X5_addWarmed_71 ?_
  refine pv_putI t_X5_addWarmed_72 fl_X5_24 zfn_5_4 hn.1 rfl ?_
  refine pv_aload_n (i := 0) t_X5_addWarmed_75 rfl rfl ?_
  refine pv_getI t_X5_addWarmed_76 fl_X5_24 hn.1 rfl ?_
  exact pv_ireti t_X5_addWarmed_79 rfl (by simp only [zhs_hs, zhs_s, zhs_n _ _ n1, zhs_n _ _ n2, zhs_n _ _ n3, zhs_n _ _ n4]; rfl) (by simp only [zhs_hs, zhs_s, zhs_n _ _ n1, zhs_n _ _ n2, zhs_n _ _ n3, zhs_n _ _ n4]; rfl)

theorem e_X5_addCheek {l : Launch} {X : zX} {d : Nat} {Ψ : List zC} {μ : zH} {n wa ch bo ps : Nat} (hn : oN Ψ n wa ch bo ps) {c : Int32} : zRn l X mi_X5_addCheek (d + 1) [.inr n, .inl c] (Ψ, μ) (some (.inl (μ n 5 + 1))) (Ψ, zhs (zhs μ ch (rP (μ ch) 4 (μ n 5) c)) n (upd (μ n) 5 (μ n 5 + 1))) := by
  have n1 : n ≠ wa := zne hn.1 hn.2.1 (by simp)
  have n2 : n ≠ ch := zne hn.1 hn.2.2.1 (by simp)
  have n3 : n ≠ bo := zne hn.1 hn.2.2.2.1 (by simp)
  have n4 : n ≠ ps := zne hn.1 hn.2.2.2.2 (by simp)
  refine pv_aload_n (i := 0) t_X5_addCheek_0 rfl rfl ?_
  refine pv_getR t_X5_addCheek_1 fl_X5_15 hn.1 rfl ?_
  refine pv_aload_n (i := 0) t_X5_addCheek_4 rfl rfl ?_
  refine pv_getI t_X5_addCheek_5 fl_X5_28 hn.1 rfl ?_
  refine pv_iload_n (i := 1) t_X5_addCheek_8 rfl rfl ?_
  refine pv_gS3 t_X5_addCheek_9 ml_X5_34 mo_X8_put (Nat.le_of_ble_eq_true rfl) (e_X8_put hn.2.2.1 (by decide)) (Nat.le_of_ble_eq_true rfl) ?_
  refine pv_aload_n (i := 0) t_X5_addCheek_12 rfl rfl ?_
  refine pv_dup t_X5_addCheek_13 ?_
  refine pv_getI t_X5_addCheek_14 fl_X5_28 hn.1 rfl ?_
  refine pv_iconst (v := 1) t_X5_addCheek_17 zi_1 ?_
  refine pv_iadd t_X5_addCheek_18 ?_
  refine pv_putI t_X5_addCheek_19 fl_X5_28 zfn_5_5 hn.1 rfl ?_
  refine pv_aload_n (i := 0) t_X5_addCheek_22 rfl rfl ?_
  refine pv_getI t_X5_addCheek_23 fl_X5_28 hn.1 rfl ?_
  exact pv_ireti t_X5_addCheek_26 rfl (by simp only [zhs_hs, zhs_s, zhs_n _ _ n1, zhs_n _ _ n2, zhs_n _ _ n3, zhs_n _ _ n4]; rfl) (by simp only [zhs_hs, zhs_s, zhs_n _ _ n1, zhs_n _ _ n2, zhs_n _ _ n3, zhs_n _ _ n4])

theorem e_X5_addTurn {l : Launch} {X : zX} {d : Nat} {Ψ : List zC} {μ : zH} {n wa ch bo ps : Nat} (hn : oN Ψ n wa ch bo ps) {c : Int32} : zRn l X mi_X5_addTurn (d + 1) [.inr n, .inl c] (Ψ, μ) (some (.inl (μ n 6 + 1))) (Ψ, zhs (zhs μ bo (rP (μ bo) 20 (μ n 6) c)) n (upd (μ n) 6 (μ n 6 + 1))) := by
  have n1 : n ≠ wa := zne hn.1 hn.2.1 (by simp)
  have n2 : n ≠ ch := zne hn.1 hn.2.2.1 (by simp)
  have n3 : n ≠ bo := zne hn.1 hn.2.2.2.1 (by simp)
  have n4 : n ≠ ps := zne hn.1 hn.2.2.2.2 (by simp)
  refine pv_aload_n (i := 0) t_X5_addTurn_0 rfl rfl ?_
  refine pv_getR t_X5_addTurn_1 fl_X5_18 hn.1 rfl ?_
  refine pv_aload_n (i := 0) t_X5_addTurn_4 rfl rfl ?_
  refine pv_getI t_X5_addTurn_5 fl_X5_31 hn.1 rfl ?_
  refine pv_iload_n (i := 1) t_X5_addTurn_8 rfl rfl ?_
  refine pv_gS3 t_X5_addTurn_9 ml_X5_34 mo_X8_put (Nat.le_of_ble_eq_true rfl) (e_X8_put hn.2.2.2.1 (by decide)) (Nat.le_of_ble_eq_true rfl) ?_
  refine pv_aload_n (i := 0) t_X5_addTurn_12 rfl rfl ?_
  refine pv_dup t_X5_addTurn_13 ?_
  refine pv_getI t_X5_addTurn_14 fl_X5_31 hn.1 rfl ?_
  refine pv_iconst (v := 1) t_X5_addTurn_17 zi_1 ?_
  refine pv_iadd t_X5_addTurn_18 ?_
  refine pv_putI t_X5_addTurn_19 fl_X5_31 zfn_5_6 hn.1 rfl ?_
  refine pv_aload_n (i := 0) t_X5_addTurn_22 rfl rfl ?_
  refine pv_getI t_X5_addTurn_23 fl_X5_31 hn.1 rfl ?_
  exact pv_ireti t_X5_addTurn_26 rfl (by simp only [zhs_hs, zhs_s, zhs_n _ _ n1, zhs_n _ _ n2, zhs_n _ _ n3, zhs_n _ _ n4]; rfl) (by simp only [zhs_hs, zhs_s, zhs_n _ _ n1, zhs_n _ _ n2, zhs_n _ _ n3, zhs_n _ _ n4])

theorem e_X5_cheekAt {l : Launch} {X : zX} {d : Nat} {Ψ : List zC} {μ : zH} {n wa ch bo ps : Nat} (hn : oN Ψ n wa ch bo ps) {i : Int32} : zRn l X mi_X5_cheekAt (d + 1) [.inr n, .inl i] (Ψ, μ) (some (.inl (rA (μ ch) 4 i))) (Ψ, μ) := by
  refine pv_aload_n (i := 0) t_X5_cheekAt_0 rfl rfl ?_
  refine pv_getR t_X5_cheekAt_1 fl_X5_15 hn.1 rfl ?_
  refine pv_iload_n (i := 1) t_X5_cheekAt_4 rfl rfl ?_
  refine pv_gS2 t_X5_cheekAt_5 ml_X5_40 mo_X8_at (Nat.le_of_ble_eq_true rfl) (e_X8_at (Or.inl hn.2.2.1) (by decide)) (Nat.le_of_ble_eq_true rfl) ?_
  exact pv_ireti t_X5_cheekAt_8 rfl rfl rfl

theorem e_X5_mark {l : Launch} {X : zX} {d : Nat} {Ψ : List zC} {μ : zH} {n wa ch bo ps : Nat} (hn : oN Ψ n wa ch bo ps) {i w : Int32} : zRn l X mi_X5_mark (d + 1) [.inr n, .inl i, .inl w] (Ψ, μ) (some (.inl (mk (μ wa) i w))) (Ψ, μ) := by
  refine pv_aload_n (i := 0) t_X5_mark_0 rfl rfl ?_
  refine pv_getR t_X5_mark_1 fl_X5_11 hn.1 rfl ?_
  refine pv_iload_n (i := 1) t_X5_mark_4 rfl rfl ?_
  refine pv_iconst (v := 4) t_X5_mark_5 zi_4 ?_
  refine pv_imul t_X5_mark_6 ?_
  refine pv_iload_n (i := 2) t_X5_mark_7 rfl rfl ?_
  refine pv_iadd t_X5_mark_8 ?_
  refine pv_gS2 t_X5_mark_9 ml_X5_40 mo_X8_at (Nat.le_of_ble_eq_true rfl) (e_X8_at (Or.inl hn.2.1) (by decide)) (Nat.le_of_ble_eq_true rfl) ?_
  exact pv_ireti t_X5_mark_12 rfl rfl rfl

theorem lp_X5_fitsAll {l : Launch} {X : zX} {d : Nat} {Ψ : List zC} {μ : zH} {m tr pa ne fd : Nat} (hm : oM Ψ m tr pa ne fd) {f dn va : Nat} (hf : oF Ψ f m dn va) {n wa ch bo ps : Nat} (hn : oN Ψ n wa ch bo ps) {kw : Nat} (hkw : μ n 4 = nI kw) (hw12 : kw ≤ 12) {e t v : Int32} : ∀ j i : Nat, i + j = kw + 1 → i ≤ kw → ∀ (x : Int32) (r9 : Bool), x = nI i → r9 = faB (μ pa) (μ ne) (μ dn) (μ wa) e t v (kw - i) i → zEv l X mi_X5_fitsAll (d + 3) 3 [(0, .inr n), (1, .inr f), (2, .inl e), (3, .inl t), (4, .inl v), (5, .inl x)] [] (Ψ, μ) 0 0 (some (.inl (bz r9))) (Ψ, μ) := by
  intro j
  induction j with
  | zero => intro i h h2; omega
  | succ j ih =>
    intro i hij hle x r9 hx hr9 
    subst hx
    refine pv_iload t_X5_fitsAll_3 rfl ?_
    refine pv_aload_n (i := 0) t_X5_fitsAll_5 rfl rfl ?_
    refine pv_getI t_X5_fitsAll_6 fl_X5_24 hn.1 rfl ?_
    refine pv_icmp_ge t_X5_fitsAll_9 (fun c9 => ?_) (fun c9 => ?_)
    · skip
      rw [hkw] at c9
      have hie : i = kw := by have := (nI_leI (by omega) (by omega)).mp c9; omega
      refine pv_iconst (v := 1) t_X5_fitsAll_92 zi_1 ?_
      exact pv_iretz t_X5_fitsAll_93 rfl ⟨by rw [hr9, hie, Nat.sub_self]; rfl, bz_01 _⟩ rfl
    · skip
      rw [hkw] at c9
      have hin : i < kw := Nat.lt_of_not_le (fun q => c9 (nI_le q (by omega)))
      refine pv_aload_n (i := 0) t_X5_fitsAll_12 rfl rfl ?_
      refine pv_iload t_X5_fitsAll_13 rfl ?_
      refine pv_iconst (v := 0) t_X5_fitsAll_15 zi_0 ?_
      refine pv_gV2 t_X5_fitsAll_16 ml_X5_48 mo_X5_mark hn.1 rfl (Nat.le_of_ble_eq_true rfl) (e_X5_mark hn) (Nat.le_of_ble_eq_true rfl) ?_
      refine pv_istore t_X5_fitsAll_19 (Nat.le_of_ble_eq_true rfl) ?_
      refine pv_aload_n (i := 0) t_X5_fitsAll_21 rfl rfl ?_
      refine pv_iload t_X5_fitsAll_22 rfl ?_
      refine pv_iconst (v := 1) t_X5_fitsAll_24 zi_1 ?_
      refine pv_gV2 t_X5_fitsAll_25 ml_X5_48 mo_X5_mark hn.1 rfl (Nat.le_of_ble_eq_true rfl) (e_X5_mark hn) (Nat.le_of_ble_eq_true rfl) ?_
      refine pv_iload_n (i := 2) t_X5_fitsAll_28 rfl rfl ?_
      refine pv_icmp_ne t_X5_fitsAll_29 (fun c29 => ?_) (fun c29 => ?_)
      · skip
        have hq : ¬ ((mk (μ wa) (nI i) 1 = e ∧ part (μ pa) (mk (μ wa) (nI i) 0) 0 = t) ∧ ¬ effB (μ pa) (μ ne) (μ dn) (mk (μ wa) (nI i) 0) e v (mk (μ wa) (nI i) 2) = mk (μ wa) (nI i) 3) := fun z => c29 z.1.1
        refine pv_iconst (v := 0) t_X5_fitsAll_50 zi_0 ?_
        refine pv_istore t_X5_fitsAll_51 (Nat.le_of_ble_eq_true rfl) ?_
        refine pv_iload t_X5_fitsAll_53 rfl ?_
        refine pv_if_eq t_X5_fitsAll_55 (fun c55 => ?_) (fun c55 => absurd (by decide) c55)
        refine pv_iinc (v := 1) t_X5_fitsAll_86 rfl zi_1 ?_
        refine pv_goto t_X5_fitsAll_89 ?_
        refine pv_loc (lv' := [(0, _), (1, _), (2, _), (3, _), (4, _), (5, _)]) ⟨rfl, rfl, rfl, rfl, rfl, rfl, trivial⟩ ?_
        exact ih (i + 1) (by omega) (by omega) _ _ (nI_1 i) (by rw [hr9, show kw - i = (kw - (i + 1)) + 1 by omega, faB, if_neg hq])
      · skip
        refine pv_aload_n (i := 1) t_X5_fitsAll_32 rfl rfl ?_
        refine pv_getR t_X5_fitsAll_33 fl_X5_52 hf.1 rfl ?_
        refine pv_iload t_X5_fitsAll_36 rfl ?_
        refine pv_iconst (v := 0) t_X5_fitsAll_38 zi_0 ?_
        refine pv_gV2 t_X5_fitsAll_39 ml_X5_60 mo_X4_part hm.1 rfl (Nat.le_of_ble_eq_true rfl) (e_X4_part hm) (Nat.le_of_ble_eq_true rfl) ?_
        refine pv_iload_n (i := 3) t_X5_fitsAll_42 rfl rfl ?_
        refine pv_icmp_ne t_X5_fitsAll_43 (fun c43 => ?_) (fun c43 => ?_)
        · skip
          have hq : ¬ ((mk (μ wa) (nI i) 1 = e ∧ part (μ pa) (mk (μ wa) (nI i) 0) 0 = t) ∧ ¬ effB (μ pa) (μ ne) (μ dn) (mk (μ wa) (nI i) 0) e v (mk (μ wa) (nI i) 2) = mk (μ wa) (nI i) 3) := fun z => c43 z.1.2
          refine pv_iconst (v := 0) t_X5_fitsAll_50 zi_0 ?_
          refine pv_istore t_X5_fitsAll_51 (Nat.le_of_ble_eq_true rfl) ?_
          refine pv_iload t_X5_fitsAll_53 rfl ?_
          refine pv_if_eq t_X5_fitsAll_55 (fun c55 => ?_) (fun c55 => absurd (by decide) c55)
          refine pv_iinc (v := 1) t_X5_fitsAll_86 rfl zi_1 ?_
          refine pv_goto t_X5_fitsAll_89 ?_
          refine pv_loc (lv' := [(0, _), (1, _), (2, _), (3, _), (4, _), (5, _)]) ⟨rfl, rfl, rfl, rfl, rfl, rfl, trivial⟩ ?_
          exact ih (i + 1) (by omega) (by omega) _ _ (nI_1 i) (by rw [hr9, show kw - i = (kw - (i + 1)) + 1 by omega, faB, if_neg hq])
        · skip
          refine pv_iconst (v := 1) t_X5_fitsAll_46 zi_1 ?_
          refine pv_goto t_X5_fitsAll_47 ?_
          refine pv_istore t_X5_fitsAll_51 (Nat.le_of_ble_eq_true rfl) ?_
          refine pv_iload t_X5_fitsAll_53 rfl ?_
          refine pv_if_eq t_X5_fitsAll_55 (fun c55 => absurd c55 (by decide)) (fun c55 => ?_)
          refine pv_aload_n (i := 1) t_X5_fitsAll_58 rfl rfl ?_
          refine pv_iload t_X5_fitsAll_59 rfl ?_
          refine pv_iload_n (i := 2) t_X5_fitsAll_61 rfl rfl ?_
          refine pv_iload t_X5_fitsAll_62 rfl ?_
          refine pv_aload_n (i := 0) t_X5_fitsAll_64 rfl rfl ?_
          refine pv_iload t_X5_fitsAll_65 rfl ?_
          refine pv_iconst (v := 2) t_X5_fitsAll_67 zi_2 ?_
          refine pv_gV2 t_X5_fitsAll_68 ml_X5_48 mo_X5_mark hn.1 rfl (Nat.le_of_ble_eq_true rfl) (e_X5_mark hn) (Nat.le_of_ble_eq_true rfl) ?_
          refine pv_gV4 t_X5_fitsAll_71 ml_X5_63 mo_X2_effectBy hf.1 rfl (Nat.le_of_ble_eq_true rfl) (e_X2_effectBy hm hf) (Nat.le_of_ble_eq_true rfl) ?_
          refine pv_aload_n (i := 0) t_X5_fitsAll_74 rfl rfl ?_
          refine pv_iload t_X5_fitsAll_75 rfl ?_
          refine pv_iconst (v := 3) t_X5_fitsAll_77 zi_3 ?_
          refine pv_gV2 t_X5_fitsAll_78 ml_X5_48 mo_X5_mark hn.1 rfl (Nat.le_of_ble_eq_true rfl) (e_X5_mark hn) (Nat.le_of_ble_eq_true rfl) ?_
          refine pv_icmp_eq t_X5_fitsAll_81 (fun c81 => ?_) (fun c81 => ?_)
          · skip
            have hq : ¬ ((mk (μ wa) (nI i) 1 = e ∧ part (μ pa) (mk (μ wa) (nI i) 0) 0 = t) ∧ ¬ effB (μ pa) (μ ne) (μ dn) (mk (μ wa) (nI i) 0) e v (mk (μ wa) (nI i) 2) = mk (μ wa) (nI i) 3) := fun z => z.2 c81
            refine pv_iinc (v := 1) t_X5_fitsAll_86 rfl zi_1 ?_
            refine pv_goto t_X5_fitsAll_89 ?_
            refine pv_loc (lv' := [(0, _), (1, _), (2, _), (3, _), (4, _), (5, _)]) ⟨rfl, rfl, rfl, rfl, rfl, rfl, trivial⟩ ?_
            exact ih (i + 1) (by omega) (by omega) _ _ (nI_1 i) (by rw [hr9, show kw - i = (kw - (i + 1)) + 1 by omega, faB, if_neg hq])
          · skip
            have hq : ((mk (μ wa) (nI i) 1 = e ∧ part (μ pa) (mk (μ wa) (nI i) 0) 0 = t) ∧ ¬ effB (μ pa) (μ ne) (μ dn) (mk (μ wa) (nI i) 0) e v (mk (μ wa) (nI i) 2) = mk (μ wa) (nI i) 3) := And.intro (And.intro c29 c43) c81
            refine pv_iconst (v := 0) t_X5_fitsAll_84 zi_0 ?_
            exact pv_iretz t_X5_fitsAll_85 rfl ⟨by rw [hr9, show kw - i = (kw - (i + 1)) + 1 by omega, faB, if_pos hq]; rfl, bz_01 _⟩ rfl

theorem e_X5_fitsAll {l : Launch} {X : zX} {d : Nat} {Ψ : List zC} {μ : zH} {m tr pa ne fd : Nat} (hm : oM Ψ m tr pa ne fd) {f dn va : Nat} (hf : oF Ψ f m dn va) {n wa ch bo ps : Nat} (hn : oN Ψ n wa ch bo ps) {kw : Nat} (hkw : μ n 4 = nI kw) (hw12 : kw ≤ 12) {e t v : Int32} : zRn l X mi_X5_fitsAll (d + 3) [.inr n, .inr f, .inl e, .inl t, .inl v] (Ψ, μ) (some (.inl (bz (faB (μ pa) (μ ne) (μ dn) (μ wa) e t v kw 0)))) (Ψ, μ) := by
  refine pv_iconst (v := 0) t_X5_fitsAll_0 zi_0 ?_
  refine pv_istore t_X5_fitsAll_1 (Nat.le_of_ble_eq_true rfl) ?_
  exact lp_X5_fitsAll hm hf hn hkw hw12 (kw + 1) 0 (by omega) (by omega) _ _ rfl rfl

theorem lp_X5_fittingVanities {l : Launch} {X : zX} {d : Nat} {Ψ : List zC} {μ : zH} {m tr pa ne fd : Nat} (hm : oM Ψ m tr pa ne fd) {f dn va : Nat} (hf : oF Ψ f m dn va) {n wa ch bo ps : Nat} (hn : oN Ψ n wa ch bo ps) {kw : Nat} (hkw : μ n 4 = nI kw) (hw12 : kw ≤ 12) {e t : Int32} : ∀ j i : Nat, i + j = 10 + 1 → i ≤ 10 → ∀ (x : Int32) (a : Int32), x = nI i → a = fvS (μ pa) (μ ne) (μ dn) (μ wa) e t kw i → zEv l X mi_X5_fittingVanities (d + 4) 6 [(0, .inr n), (1, .inr f), (2, .inl e), (3, .inl t), (4, .inl a), (5, .inl x)] [] (Ψ, μ) 0 0 (some (.inl (fvS (μ pa) (μ ne) (μ dn) (μ wa) e t kw 10))) (Ψ, μ) := by
  intro j
  induction j with
  | zero => intro i h h2; omega
  | succ j ih =>
    intro i hij hle x a hx ha 
    subst hx
    refine pv_iload t_X5_fittingVanities_6 rfl ?_
    refine pv_bipush (v := 10) t_X5_fittingVanities_8 zb_10 ?_
    refine pv_icmp_ge t_X5_fittingVanities_10 (fun c10 => ?_) (fun c10 => ?_)
    · skip
      have hie : i = 10 := by have := (nI_leI (a := 10) (by omega) (by omega)).mp c10; omega
      rw [ha, hie]
      refine pv_iload t_X5_fittingVanities_40 rfl ?_
      exact pv_ireti t_X5_fittingVanities_42 rfl rfl rfl
    · skip
      have hin : i < 10 := Nat.lt_of_not_le (fun q => c10 (nI_le (a := 10) q (by omega)))
      refine pv_aload_n (i := 0) t_X5_fittingVanities_13 rfl rfl ?_
      refine pv_aload_n (i := 1) t_X5_fittingVanities_14 rfl rfl ?_
      refine pv_iload_n (i := 2) t_X5_fittingVanities_15 rfl rfl ?_
      refine pv_iload_n (i := 3) t_X5_fittingVanities_16 rfl rfl ?_
      refine pv_iload t_X5_fittingVanities_17 rfl ?_
      refine pv_gV4 t_X5_fittingVanities_19 ml_X5_44 mo_X5_fitsAll hn.1 rfl (Nat.le_of_ble_eq_true rfl) (e_X5_fitsAll hm hf hn hkw hw12) (Nat.le_of_ble_eq_true rfl) ?_
      refine pv_if_eq t_X5_fittingVanities_22 (fun c22 => ?_) (fun c22 => ?_)
      · skip
        have hq : ¬ faB (μ pa) (μ ne) (μ dn) (μ wa) e t (nI i) kw 0 = true := by rw [bz_0.mp c22]; decide
        refine pv_iinc (v := 1) t_X5_fittingVanities_34 rfl zi_1 ?_
        refine pv_goto t_X5_fittingVanities_37 ?_
        refine pv_loc (lv' := [(0, _), (1, _), (2, _), (3, _), (4, _), (5, _)]) ⟨rfl, rfl, rfl, rfl, rfl, rfl, trivial⟩ ?_
        exact ih (i + 1) (by omega) (by omega) _ _ (nI_1 i) (by subst ha; rw [fvS_s]; first | rw [if_pos hq] | rw [if_neg hq])
      · skip
        have hq : faB (μ pa) (μ ne) (μ dn) (μ wa) e t (nI i) kw 0 = true := bz_n.mp c22
        refine pv_iload t_X5_fittingVanities_25 rfl ?_
        refine pv_iconst (v := 1) t_X5_fittingVanities_27 zi_1 ?_
        refine pv_iload t_X5_fittingVanities_28 rfl ?_
        refine pv_ishl t_X5_fittingVanities_30 ?_
        refine pv_ior t_X5_fittingVanities_31 ?_
        refine pv_istore t_X5_fittingVanities_32 (Nat.le_of_ble_eq_true rfl) ?_
        refine pv_iinc (v := 1) t_X5_fittingVanities_34 rfl zi_1 ?_
        refine pv_goto t_X5_fittingVanities_37 ?_
        refine pv_loc (lv' := [(0, _), (1, _), (2, _), (3, _), (4, _), (5, _)]) ⟨rfl, rfl, rfl, rfl, rfl, rfl, trivial⟩ ?_
        exact ih (i + 1) (by omega) (by omega) _ _ (nI_1 i) (by subst ha; rw [fvS_s]; first | rw [if_pos hq] | rw [if_neg hq])

theorem e_X5_fittingVanities {l : Launch} {X : zX} {d : Nat} {Ψ : List zC} {μ : zH} {m tr pa ne fd : Nat} (hm : oM Ψ m tr pa ne fd) {f dn va : Nat} (hf : oF Ψ f m dn va) {n wa ch bo ps : Nat} (hn : oN Ψ n wa ch bo ps) {kw : Nat} (hkw : μ n 4 = nI kw) (hw12 : kw ≤ 12) {e t : Int32} : zRn l X mi_X5_fittingVanities (d + 4) [.inr n, .inr f, .inl e, .inl t] (Ψ, μ) (some (.inl (fvS (μ pa) (μ ne) (μ dn) (μ wa) e t kw 10))) (Ψ, μ) := by
  refine pv_iconst (v := 0) t_X5_fittingVanities_0 zi_0 ?_
  refine pv_istore t_X5_fittingVanities_1 (Nat.le_of_ble_eq_true rfl) ?_
  refine pv_iconst (v := 0) t_X5_fittingVanities_3 zi_0 ?_
  refine pv_istore t_X5_fittingVanities_4 (Nat.le_of_ble_eq_true rfl) ?_
  exact lp_X5_fittingVanities hm hf hn hkw hw12 11 0 (by omega) (by omega) _ _ rfl rfl

theorem lp_X5_greatestPart {l : Launch} {X : zX} {d : Nat} {Ψ : List zC} {μ : zH} {m tr pa ne fd : Nat} (hm : oM Ψ m tr pa ne fd) {f dn va : Nat} (hf : oF Ψ f m dn va) {n wa ch bo ps : Nat} (hn : oN Ψ n wa ch bo ps) {c e set : Int32} {z0 : Int32 × (Nat → Int32)} : ∀ j i : Nat, i + j = 10 + 1 → i ≤ 10 → ∀ (x : Int32) (a : Int32) (s : Nat → Int32), x = nI i → True → (a, s) = gpS (μ pa) (μ ne) (μ dn) c e set z0 i → zEv l X mi_X5_greatestPart (d + 3) 13 [(0, .inr n), (1, .inr f), (2, .inl c), (3, .inl e), (4, .inl set), (5, .inl a), (6, .inl x)] [] (Ψ, zhs μ ps s) 0 0 (some (.inl (gpS (μ pa) (μ ne) (μ dn) c e set z0 10).1)) (Ψ, zhs μ ps (gpS (μ pa) (μ ne) (μ dn) c e set z0 10).2) := by
  intro j
  induction j with
  | zero => intro i h h2; omega
  | succ j ih =>
    intro i hij hle x a s hx ha hs 
    subst hx
    have k1 : pa ≠ ps := zne hm.2.2.1 hn.2.2.2.2 (by decide)
    have k2 : ne ≠ ps := zne hm.2.2.2.1 hn.2.2.2.2 (by decide)
    have k3 : dn ≠ ps := zne hf.2.1 hn.2.2.2.2 (by decide)
    refine pv_iload t_X5_greatestPart_13 rfl ?_
    refine pv_bipush (v := 10) t_X5_greatestPart_15 zb_10 ?_
    refine pv_icmp_ge t_X5_greatestPart_17 (fun c17 => ?_) (fun c17 => ?_)
    · skip
      have hie : i = 10 := by have := (nI_leI (a := 10) (by omega) (by omega)).mp c17; omega
      rw [hie] at hs
      have e0 : a = (gpS (μ pa) (μ ne) (μ dn) c e set z0 10).1 := by rw [← hs]
      have e1 : s = (gpS (μ pa) (μ ne) (μ dn) c e set z0 10).2 := by rw [← hs]
      rw [e0, e1]
      refine pv_iload t_X5_greatestPart_74 rfl ?_
      exact pv_ireti t_X5_greatestPart_76 rfl rfl rfl
    · skip
      have hin : i < 10 := Nat.lt_of_not_le (fun q => c17 (nI_le (a := 10) q (by omega)))
      refine pv_iload t_X5_greatestPart_20 rfl ?_
      refine pv_iload t_X5_greatestPart_22 rfl ?_
      refine pv_ishr t_X5_greatestPart_24 ?_
      refine pv_iconst (v := 1) t_X5_greatestPart_25 zi_1 ?_
      refine pv_iand t_X5_greatestPart_26 ?_
      refine pv_iconst (v := 1) t_X5_greatestPart_27 zi_1 ?_
      refine pv_icmp_ne t_X5_greatestPart_28 (fun c28 => ?_) (fun c28 => ?_)
      · skip
        have hq : ¬ ((set >>> (nI i &&& 31)) &&& 1 = 1) := c28
        refine pv_iinc (v := 1) t_X5_greatestPart_68 rfl zi_1 ?_
        refine pv_goto t_X5_greatestPart_71 ?_
        refine pv_loc (lv' := [(0, _), (1, _), (2, _), (3, _), (4, _), (5, _), (6, _)]) ⟨rfl, rfl, rfl, rfl, rfl, rfl, rfl, trivial⟩ ?_
        refine ih (i + 1) (by omega) (by omega) _ _ _ (nI_1 i) trivial ?_
        rw [gpS_s, ← hs, gpF]
        first | rw [if_pos hq] | rw [if_neg hq]
        try rfl
      · skip
        have hq : ((set >>> (nI i &&& 31)) &&& 1 = 1) := c28
        refine pv_aload_n (i := 1) t_X5_greatestPart_31 rfl rfl ?_
        refine pv_iload_n (i := 2) t_X5_greatestPart_32 rfl rfl ?_
        refine pv_iload_n (i := 3) t_X5_greatestPart_33 rfl rfl ?_
        refine pv_iload t_X5_greatestPart_34 rfl ?_
        refine pv_iconst (v := 0) t_X5_greatestPart_36 zi_0 ?_
        refine pv_gV4 t_X5_greatestPart_37 ml_X5_63 mo_X2_effectBy hf.1 rfl (Nat.le_of_ble_eq_true rfl) (e_X2_effectBy hm hf) (Nat.le_of_ble_eq_true rfl) ?_
        rw [zhs_n _ _ k1, zhs_n _ _ k2, zhs_n _ _ k3]
        refine pv_istore t_X5_greatestPart_40 (Nat.le_of_ble_eq_true rfl) ?_
        refine pv_aload_n (i := 0) t_X5_greatestPart_42 rfl rfl ?_
        refine pv_getR t_X5_greatestPart_43 fl_X5_21 hn.1 rfl ?_
        refine pv_iload t_X5_greatestPart_46 rfl ?_
        refine pv_iconst (v := 1) t_X5_greatestPart_48 zi_1 ?_
        refine pv_gS3 t_X5_greatestPart_49 ml_X5_93 mo_X8_add (Nat.le_of_ble_eq_true rfl) (e_X8_add hn.2.2.2.2 (by decide)) (Nat.le_of_ble_eq_true rfl) ?_
        refine zst (S2 := (Ψ, zhs μ ps (rP s 82 (effB (μ pa) (μ ne) (μ dn) c e (nI i) 0) (rA s 82 (effB (μ pa) (μ ne) (μ dn) c e (nI i) 0) + 1)))) (by rw [zhs_hs, zhs_s]) ?_
        refine pv_iload t_X5_greatestPart_52 rfl ?_
        refine pv_aload_n (i := 0) t_X5_greatestPart_54 rfl rfl ?_
        refine pv_getR t_X5_greatestPart_55 fl_X5_21 hn.1 rfl ?_
        refine pv_iload t_X5_greatestPart_58 rfl ?_
        refine pv_gS2 t_X5_greatestPart_60 ml_X5_40 mo_X8_at (Nat.le_of_ble_eq_true rfl) (e_X8_at (Or.inl hn.2.2.2.2) (by decide)) (Nat.le_of_ble_eq_true rfl) ?_
        rw [zhs_s]
        refine pv_gS2 t_X5_greatestPart_63 ml_X5_96 mo_J_max (Nat.le_of_ble_eq_true rfl) e_J_max (Nat.le_of_ble_eq_true rfl) ?_
        refine pv_istore t_X5_greatestPart_66 (Nat.le_of_ble_eq_true rfl) ?_
        refine pv_iinc (v := 1) t_X5_greatestPart_68 rfl zi_1 ?_
        refine pv_goto t_X5_greatestPart_71 ?_
        refine pv_loc (lv' := [(0, _), (1, _), (2, _), (3, _), (4, _), (5, _), (6, _)]) ⟨rfl, rfl, rfl, rfl, rfl, rfl, rfl, trivial⟩ ?_
        refine ih (i + 1) (by omega) (by omega) _ _ _ (nI_1 i) trivial ?_
        rw [gpS_s, ← hs, gpF]
        first | rw [if_pos hq] | rw [if_neg hq]
        try rfl

theorem e_X5_greatestPart {l : Launch} {X : zX} {d : Nat} {Ψ : List zC} {μ : zH} {m tr pa ne fd : Nat} (hm : oM Ψ m tr pa ne fd) {f dn va : Nat} (hf : oF Ψ f m dn va) {n wa ch bo ps : Nat} (hn : oN Ψ n wa ch bo ps) {c e set : Int32} : zRn l X mi_X5_greatestPart (d + 3) [.inr n, .inr f, .inl c, .inl e, .inl set] (Ψ, μ) (some (.inl (gpS (μ pa) (μ ne) (μ dn) c e set (0, clr 82 (μ ps)) 10).1)) (Ψ, zhs μ ps (gpS (μ pa) (μ ne) (μ dn) c e set (0, clr 82 (μ ps)) 10).2) := by
  refine pv_aload_n (i := 0) t_X5_greatestPart_0 rfl rfl ?_
  refine pv_getR t_X5_greatestPart_1 fl_X5_21 hn.1 rfl ?_
  refine pv_gS1 t_X5_greatestPart_4 ml_X5_89 mo_X8_clear (Nat.le_of_ble_eq_true rfl) (e_X8_clear hn.2.2.2.2 (by decide)) (Nat.le_of_ble_eq_true rfl) ?_
  refine pv_iconst (v := 0) t_X5_greatestPart_7 zi_0 ?_
  refine pv_istore t_X5_greatestPart_8 (Nat.le_of_ble_eq_true rfl) ?_
  refine pv_iconst (v := 0) t_X5_greatestPart_10 zi_0 ?_
  refine pv_istore t_X5_greatestPart_11 (Nat.le_of_ble_eq_true rfl) ?_
  exact lp_X5_greatestPart (μ := μ) (z0 := (0, clr 82 (μ ps))) hm hf hn 11 0 (by omega) (by omega) _ _ _ rfl trivial rfl

