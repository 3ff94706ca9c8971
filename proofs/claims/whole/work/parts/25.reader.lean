theorem e_X4_addPhrase {l : Launch} {X : zX} {d : Nat} {Ψ : List zC} {μ : zH} {m tr pa ne fd : Nat} (hm : oM Ψ m tr pa ne fd) : zRn l X mi_X4_addPhrase (d + 2) [.inr m] (Ψ, μ) none (Ψ, zhs (zhs μ ne (rP (μ ne) 8 (μ m 1) (dbit (part (μ pa) (μ m 1) 3) ||| dbit (part (μ pa) (μ m 1) 4)))) m (upd (μ m) 1 (μ m 1 + 1))) := by
  have q1 : m ≠ ne := zne hm.1 hm.2.2.2.1 (by simp)
  have q2 : pa ≠ ne := zne hm.2.2.1 hm.2.2.2.1 (by decide)
  have q3 : m ≠ fd := zne hm.1 hm.2.2.2.2 (by simp)
  refine pv_aload_n (i := 0) t_X4_addPhrase_0 rfl rfl ?_
  refine pv_getR t_X4_addPhrase_1 fl_X4_18 hm.1 rfl ?_
  refine pv_aload_n (i := 0) t_X4_addPhrase_4 rfl rfl ?_
  refine pv_getI t_X4_addPhrase_5 fl_X4_28 hm.1 rfl ?_
  refine pv_aload_n (i := 0) t_X4_addPhrase_8 rfl rfl ?_
  refine pv_aload_n (i := 0) t_X4_addPhrase_9 rfl rfl ?_
  refine pv_getI t_X4_addPhrase_10 fl_X4_28 hm.1 rfl ?_
  refine pv_iconst (v := 3) t_X4_addPhrase_13 zi_3 ?_
  refine pv_gV2 t_X4_addPhrase_14 ml_X4_37 mo_X4_part hm.1 rfl (Nat.le_of_ble_eq_true rfl) (e_X4_part hm) (Nat.le_of_ble_eq_true rfl) ?_
  refine pv_gS1 t_X4_addPhrase_17 ml_X4_41 mo_X4_deedBit (Nat.le_of_ble_eq_true rfl) e_X4_deedBit (Nat.le_of_ble_eq_true rfl) ?_
  refine pv_aload_n (i := 0) t_X4_addPhrase_20 rfl rfl ?_
  refine pv_aload_n (i := 0) t_X4_addPhrase_21 rfl rfl ?_
  refine pv_getI t_X4_addPhrase_22 fl_X4_28 hm.1 rfl ?_
  refine pv_iconst (v := 4) t_X4_addPhrase_25 zi_4 ?_
  refine pv_gV2 t_X4_addPhrase_26 ml_X4_37 mo_X4_part hm.1 rfl (Nat.le_of_ble_eq_true rfl) (e_X4_part hm) (Nat.le_of_ble_eq_true rfl) ?_
  refine pv_gS1 t_X4_addPhrase_29 ml_X4_41 mo_X4_deedBit (Nat.le_of_ble_eq_true rfl) e_X4_deedBit (Nat.le_of_ble_eq_true rfl) ?_
  refine pv_ior t_X4_addPhrase_32 ?_
  refine pv_gS3 t_X4_addPhrase_33 ml_X4_45 mo_X8_put (Nat.le_of_ble_eq_true rfl) (e_X8_put hm.2.2.2.1 (by decide)) (Nat.le_of_ble_eq_true rfl) ?_
  refine pv_aload_n (i := 0) t_X4_addPhrase_36 rfl rfl ?_
  refine pv_dup t_X4_addPhrase_37 ?_
  refine pv_getI t_X4_addPhrase_38 fl_X4_28 hm.1 rfl ?_
  refine pv_iconst (v := 1) t_X4_addPhrase_41 zi_1 ?_
  refine pv_iadd t_X4_addPhrase_42 ?_
  refine pv_putI t_X4_addPhrase_43 fl_X4_28 zfn_4_1 hm.1 rfl ?_
  exact pv_vret t_X4_addPhrase_46 rfl (by simp only [zhs_n _ _ q1])

theorem e_X4_clear {l : Launch} {X : zX} {d : Nat} {Ψ : List zC} {μ : zH} {m tr pa ne fd : Nat} (hm : oM Ψ m tr pa ne fd) : zRn l X mi_X4_clear (d + 1) [.inr m] (Ψ, μ) none (Ψ, zhs (zhs μ m (upd (upd (μ m) 0 0) 1 0)) fd (fun k => if k < 4 then 0 else μ fd k)) := by
  have q1 : m ≠ ne := zne hm.1 hm.2.2.2.1 (by simp)
  have q2 : pa ≠ ne := zne hm.2.2.1 hm.2.2.2.1 (by decide)
  have q3 : m ≠ fd := zne hm.1 hm.2.2.2.2 (by simp)
  refine pv_aload_n (i := 0) t_X4_clear_0 rfl rfl ?_
  refine pv_iconst (v := 0) t_X4_clear_1 zi_0 ?_
  refine pv_putI t_X4_clear_2 fl_X4_24 zfn_4_0 hm.1 rfl ?_
  refine pv_aload_n (i := 0) t_X4_clear_5 rfl rfl ?_
  refine pv_iconst (v := 0) t_X4_clear_6 zi_0 ?_
  refine pv_putI t_X4_clear_7 fl_X4_28 zfn_4_1 hm.1 rfl ?_
  refine pv_aload_n (i := 0) t_X4_clear_10 rfl rfl ?_
  refine pv_getR t_X4_clear_11 fl_X4_21 hm.1 rfl ?_
  refine pv_gS1 t_X4_clear_14 ml_X4_49 mo_X8_clear (Nat.le_of_ble_eq_true rfl) (e_X8_clear hm.2.2.2.2 (by decide)) (Nat.le_of_ble_eq_true rfl) ?_
  exact pv_vret t_X4_clear_17 rfl (by simp only [zhs_hs, zhs_s, zhs_n _ _ (Ne.symm q3)])

def oR (sh : List zC) (rd dm le : Nat) : Prop := sh[rd]? = some (.inr (.inr (6, [some (some dm), some (some le), none, none, none, none, none]))) ∧ sh[le]? = some (.inl (0, 250))
def lt (L : Nat → Int32) (n p : Nat) : Int32 := if p < n then L p else -1
def skF (L : Nat → Int32) (n : Nat) : Nat → Nat → Nat
  | 0, p => p
  | j + 1, p => if p < n ∧ L p = 32 then skF L n j (p + 1) else p
theorem skF_stop {L : Nat → Int32} {n p : Nat} (h : ¬ (p < n ∧ L p = 32)) : ∀ j, skF L n j p = p
  | 0 => rfl
  | j + 1 => by rw [skF, if_neg h]
theorem skF_le {L : Nat → Int32} {n : Nat} : ∀ j p, p ≤ skF L n j p ∧ (p ≤ n → skF L n j p ≤ n)
  | 0, p => ⟨Nat.le_refl _, fun h => h⟩
  | j + 1, p => by
    rw [skF]
    by_cases h : p < n ∧ L p = 32
    · rw [if_pos h]
      have := skF_le (L := L) (n := n) j (p + 1)
      exact ⟨by omega, fun _ => this.2 (by omega)⟩
    · rw [if_neg h]
      exact ⟨Nat.le_refl _, fun h => h⟩
theorem skF_max {L : Nat → Int32} {n : Nat} : ∀ j p, skF L n j p ≤ max p n
  | 0, p => by simp only [skF]; omega
  | j + 1, p => by
    rw [skF]
    by_cases h : p < n ∧ L p = 32
    · rw [if_pos h]
      have := skF_max (L := L) (n := n) j (p + 1)
      omega
    · rw [if_neg h]
      omega
def sk (L : Nat → Int32) (n p : Nat) : Nat := skF L n (n - p) p
def gmk (g : Nat → Int32) (k w : Int32) : Nat → Int32 := if g 4 = 0 then upd (upd g 4 k) 3 w else g
def isDg (L : Nat → Int32) (n p : Nat) : Prop := p < n ∧ 48 ≤ L p ∧ L p ≤ 57
def dgF (L : Nat → Int32) (n q : Nat) : Nat → Nat → Int32 → Nat × Int32
  | 0, p, v => (p, v)
  | j + 1, p, v => if p < n ∧ 48 ≤ L p ∧ L p ≤ 57 then dgF L n q j (p + 1) (if p - q < 3 then v * 10 + L p - 48 else v) else (p, v)
theorem dgF_stop {L : Nat → Int32} {n q p : Nat} {v : Int32} (h : ¬ (p < n ∧ 48 ≤ L p ∧ L p ≤ 57)) : ∀ j, dgF L n q j p v = (p, v)
  | 0 => rfl
  | j + 1 => by rw [dgF, if_neg h]
theorem dgF_le {L : Nat → Int32} {n q : Nat} : ∀ j p v, p ≤ (dgF L n q j p v).1 ∧ (p ≤ n → (dgF L n q j p v).1 ≤ n)
  | 0, p, v => ⟨Nat.le_refl _, fun h => h⟩
  | j + 1, p, v => by
    rw [dgF]
    by_cases h : p < n ∧ 48 ≤ L p ∧ L p ≤ 57
    · rw [if_pos h]
      have := dgF_le (L := L) (n := n) (q := q) j (p + 1) (if p - q < 3 then v * 10 + L p - 48 else v)
      exact ⟨by omega, fun _ => this.2 (by omega)⟩
    · rw [if_neg h]
      exact ⟨Nat.le_refl _, fun h => h⟩
def dg (L : Nat → Int32) (n p : Nat) : Nat × Int32 := dgF L n p (n - p) p 0
def gen (L : Nat → Int32) (n : Nat) (g : Nat → Int32) (p : Nat) : Nat → Int32 := upd (if lt L n (sk L n p) = 59 then upd g 5 (nI (sk L n p)) else gmk (upd g 5 (nI (sk L n p))) 1 (nI (sk L n p))) 5 (nI (sk L n p) + 1)
theorem e_X6_letter {l : Launch} {X : zX} {d : Nat} {Ψ : List zC} {μ : zH} {rd dm le : Nat} (hr : oR Ψ rd dm le) {n p : Nat} (hn : μ rd 2 = nI n) (hn250 : n ≤ 250) (hp : μ rd 5 = nI p) (hp4 : p < 1000) : zRn l X mi_X6_letter (d + 1) [.inr rd] (Ψ, μ) (some (.inl (lt (μ le) n p))) (Ψ, μ) := by
  refine pv_aload_n (i := 0) t_X6_letter_0 rfl rfl ?_
  refine pv_getI t_X6_letter_1 fl_X6_41 hr.1 rfl ?_
  refine pv_aload_n (i := 0) t_X6_letter_4 rfl rfl ?_
  refine pv_getI t_X6_letter_5 fl_X6_22 hr.1 rfl ?_
  refine pv_icmp_ge t_X6_letter_8 (fun c8 => ?_) (fun c8 => ?_)
  · skip
    rw [hn, hp] at c8
    have hq : ¬ p < n := fun q => (nI_ge q (by omega)) c8
    refine pv_iconst (v := -1) t_X6_letter_25 zi_m1 ?_
    exact pv_ireti t_X6_letter_26 rfl (by first | rw [lt, if_pos hq] | rw [lt, if_neg hq]) rfl
  · skip
    rw [hn, hp] at c8
    have hq : p < n := Nat.lt_of_not_le (fun q => c8 (nI_le q (by omega)))
    refine pv_aload_n (i := 0) t_X6_letter_11 rfl rfl ?_
    refine pv_getR t_X6_letter_12 fl_X6_18 hr.1 rfl ?_
    refine pv_aload_n (i := 0) t_X6_letter_15 rfl rfl ?_
    refine pv_getI t_X6_letter_16 fl_X6_41 hr.1 rfl ?_
    rw [hp]
    refine pv_gS2 t_X6_letter_19 ml_X6_70 mo_X8_at (Nat.le_of_ble_eq_true rfl) (e_X8_at (Or.inl hr.2) (by decide)) (Nat.le_of_ble_eq_true rfl) ?_
    rw [rA_n (by omega) (by decide)]
    refine pv_goto t_X6_letter_22 ?_
    exact pv_ireti t_X6_letter_26 rfl (by first | rw [lt, if_pos hq] | rw [lt, if_neg hq]) rfl

theorem e_X6_mark {l : Launch} {X : zX} {d : Nat} {Ψ : List zC} {μ : zH} {rd dm le : Nat} (hr : oR Ψ rd dm le) {k w : Int32} : zRn l X mi_X6_mark d [.inr rd, .inl k, .inl w] (Ψ, μ) none (Ψ, zhs μ rd (gmk (μ rd) k w)) := by
  refine pv_aload_n (i := 0) t_X6_mark_0 rfl rfl ?_
  refine pv_getI t_X6_mark_1 fl_X6_35 hr.1 rfl ?_
  refine pv_if_ne t_X6_mark_4 (fun c4 => ?_) (fun c4 => ?_)
  · skip
    exact pv_vret t_X6_mark_17 rfl (by first | (rw [gmk, if_neg c4, zhs_id]) | (rw [gmk, if_pos c4, zhs_hs, zhs_s]))
  · skip
    refine pv_aload_n (i := 0) t_X6_mark_7 rfl rfl ?_
    refine pv_iload_n (i := 1) t_X6_mark_8 rfl rfl ?_
    refine pv_putI t_X6_mark_9 fl_X6_35 zfn_6_4 hr.1 rfl ?_
    refine pv_aload_n (i := 0) t_X6_mark_12 rfl rfl ?_
    refine pv_iload_n (i := 2) t_X6_mark_13 rfl rfl ?_
    refine pv_putI t_X6_mark_14 fl_X6_38 zfn_6_3 hr.1 rfl ?_
    exact pv_vret t_X6_mark_17 rfl (by first | (rw [gmk, if_neg c4, zhs_id]) | (rw [gmk, if_pos c4, zhs_hs, zhs_s]))

theorem e_X6_append {l : Launch} {X : zX} {d : Nat} {Ψ : List zC} {μ : zH} {rd dm le : Nat} (hr : oR Ψ rd dm le) {c : Int32} : zRn l X mi_X6_append (d + 1) [.inr rd, .inl c] (Ψ, μ) (some (.inl (μ rd 2 + 1))) (Ψ, zhs (zhs μ le (rP (μ le) 250 (μ rd 2) c)) rd (upd (μ rd) 2 (μ rd 2 + 1))) := by
  have q1 : rd ≠ le := zne hr.1 hr.2 (by simp)
  refine pv_aload_n (i := 0) t_X6_append_0 rfl rfl ?_
  refine pv_getR t_X6_append_1 fl_X6_18 hr.1 rfl ?_
  refine pv_aload_n (i := 0) t_X6_append_4 rfl rfl ?_
  refine pv_getI t_X6_append_5 fl_X6_22 hr.1 rfl ?_
  refine pv_iload_n (i := 1) t_X6_append_8 rfl rfl ?_
  refine pv_gS3 t_X6_append_9 ml_X6_26 mo_X8_put (Nat.le_of_ble_eq_true rfl) (e_X8_put hr.2 (by decide)) (Nat.le_of_ble_eq_true rfl) ?_
  refine pv_aload_n (i := 0) t_X6_append_12 rfl rfl ?_
  refine pv_dup t_X6_append_13 ?_
  refine pv_getI t_X6_append_14 fl_X6_22 hr.1 rfl ?_
  refine pv_iconst (v := 1) t_X6_append_17 zi_1 ?_
  refine pv_iadd t_X6_append_18 ?_
  refine pv_putI t_X6_append_19 fl_X6_22 zfn_6_2 hr.1 rfl ?_
  refine pv_aload_n (i := 0) t_X6_append_22 rfl rfl ?_
  refine pv_getI t_X6_append_23 fl_X6_22 hr.1 rfl ?_
  exact pv_ireti t_X6_append_26 rfl (by rw [zhs_s]; simp only [zhs_n _ _ q1]; rfl) (by simp only [zhs_n _ _ q1])

theorem upd_upd (g : Nat → Int32) (k : Nat) (a b : Int32) : upd (upd g k a) k b = upd g k b := by
  funext i; simp only [upd]; split <;> rfl
theorem upd_id (g : Nat → Int32) (k : Nat) : upd g k (g k) = g := by
  funext i; simp only [upd]; split <;> simp_all
theorem e_X6_skipBlanks {l : Launch} {X : zX} {d : Nat} {Ψ : List zC} {rd dm le : Nat} (hr : oR Ψ rd dm le) {n : Nat} (hn250 : n ≤ 250) : ∀ j p : Nat, n - p ≤ j → p < 1000 → ∀ μ : zH, μ rd 2 = nI n → μ rd 5 = nI p → zRn l X mi_X6_skipBlanks (d + 2) [.inr rd] (Ψ, μ) none (Ψ, zhs μ rd (upd (μ rd) 5 (nI (sk (μ le) n p)))) := by
  intro j
  have q1 : le ≠ rd := zne hr.2 hr.1 (by simp)
  induction j with
  | zero =>
    intro p hj hp4 μ hn hp
    refine pv_aload_n (i := 0) t_X6_skipBlanks_0 rfl rfl ?_
    refine pv_getI t_X6_skipBlanks_1 fl_X6_41 hr.1 rfl ?_
    refine pv_aload_n (i := 0) t_X6_skipBlanks_4 rfl rfl ?_
    refine pv_getI t_X6_skipBlanks_5 fl_X6_22 hr.1 rfl ?_
    refine pv_icmp_ge t_X6_skipBlanks_8 (fun c8 => ?_) (fun c8 => absurd (show μ rd 2 ≤ μ rd 5 by rw [hn, hp]; exact nI_le (by omega) (by omega)) c8)
    have hq : ¬ (p < n ∧ μ le p = 32) := fun q => by omega
    exact pv_vret t_X6_skipBlanks_33 rfl (by rw [sk, skF_stop hq, ← hp, upd_id, zhs_id])
  | succ j ih =>
    intro p hj hp4 μ hn hp
    refine pv_aload_n (i := 0) t_X6_skipBlanks_0 rfl rfl ?_
    refine pv_getI t_X6_skipBlanks_1 fl_X6_41 hr.1 rfl ?_
    refine pv_aload_n (i := 0) t_X6_skipBlanks_4 rfl rfl ?_
    refine pv_getI t_X6_skipBlanks_5 fl_X6_22 hr.1 rfl ?_
    refine pv_icmp_ge t_X6_skipBlanks_8 (fun c8 => ?_) (fun c8 => ?_)
    · skip
      rw [hn, hp] at c8
      have hq : ¬ (p < n ∧ μ le p = 32) := fun q => (nI_ge q.1 (by omega)) c8
      exact pv_vret t_X6_skipBlanks_33 rfl (by rw [sk, skF_stop hq, ← hp, upd_id, zhs_id])
    · skip
      rw [hn, hp] at c8
      have hin : p < n := Nat.lt_of_not_le (fun q => c8 (nI_le q (by omega)))
      refine pv_aload_n (i := 0) t_X6_skipBlanks_11 rfl rfl ?_
      refine pv_gV0 t_X6_skipBlanks_12 ml_X6_47 mo_X6_letter hr.1 rfl (Nat.le_of_ble_eq_true rfl) (e_X6_letter hr hn hn250 hp hp4) (Nat.le_of_ble_eq_true rfl) ?_
      refine pv_bipush (v := 32) t_X6_skipBlanks_15 zb_32 ?_
      refine pv_icmp_ne t_X6_skipBlanks_17 (fun c17 => ?_) (fun c17 => ?_)
      · skip
        rw [lt, if_pos hin] at c17
        have hq : ¬ (p < n ∧ μ le p = 32) := fun q => c17 q.2
        exact pv_vret t_X6_skipBlanks_33 rfl (by rw [sk, skF_stop hq, ← hp, upd_id, zhs_id])
      · skip
        rw [lt, if_pos hin] at c17
        have hq : p < n ∧ μ le p = 32 := And.intro hin c17
        refine pv_aload_n (i := 0) t_X6_skipBlanks_20 rfl rfl ?_
        refine pv_dup t_X6_skipBlanks_21 ?_
        refine pv_getI t_X6_skipBlanks_22 fl_X6_41 hr.1 rfl ?_
        refine pv_iconst (v := 1) t_X6_skipBlanks_25 zi_1 ?_
        refine pv_iadd t_X6_skipBlanks_26 ?_
        refine pv_putI t_X6_skipBlanks_27 fl_X6_41 zfn_6_5 hr.1 rfl ?_
        refine pv_goto t_X6_skipBlanks_30 ?_
        refine pv_loc (lv' := [(0, _)]) ⟨rfl, trivial⟩ ?_
        have h9 := ih (p + 1) (by omega) (by omega) (zhs μ rd (upd (μ rd) 5 (μ rd 5 + 1))) (by rw [zhs_s]; exact hn) (by rw [zhs_s, hp, nI_1]; rfl)
        rw [zhs_hs, zhs_s, zhs_n _ _ q1] at h9
        rw [sk, show n - p = (n - (p + 1)) + 1 by omega, skF, if_pos hq]
        rw [sk] at h9
        rw [show upd (upd (μ rd) 5 (μ rd 5 + 1)) 5 (nI (skF (μ le) n (n - (p + 1)) (p + 1))) = upd (μ rd) 5 (nI (skF (μ le) n (n - (p + 1)) (p + 1))) from upd_upd _ _ _ _] at h9
        exact h9

theorem gmk_5 (g : Nat → Int32) (k w : Int32) : gmk g k w 5 = g 5 := by
  unfold gmk; split <;> rfl
theorem e_X6_readEnd {l : Launch} {X : zX} {d : Nat} {Ψ : List zC} {μ : zH} {rd dm le : Nat} (hr : oR Ψ rd dm le) {n p : Nat} (hn : μ rd 2 = nI n) (hn250 : n ≤ 250) (hp : μ rd 5 = nI p) (hp4 : p < 1000) (hpn : p ≤ n + 5) : zRn l X mi_X6_readEnd (d + 3) [.inr rd] (Ψ, μ) none (Ψ, zhs μ rd (gen (μ le) n (μ rd) p)) := by
  have q1 : le ≠ rd := zne hr.2 hr.1 (by simp)
  refine pv_aload_n (i := 0) t_X6_readEnd_0 rfl rfl ?_
  refine pv_gV0 t_X6_readEnd_1 ml_X6_44 mo_X6_skipBlanks hr.1 rfl (Nat.le_of_ble_eq_true rfl) (e_X6_skipBlanks hr hn250 _ p (Nat.le_refl _) hp4 _ hn hp) (Nat.le_of_ble_eq_true rfl) ?_
  refine pv_aload_n (i := 0) t_X6_readEnd_4 rfl rfl ?_
  refine pv_gV0 t_X6_readEnd_5 ml_X6_47 mo_X6_letter hr.1 rfl (Nat.le_of_ble_eq_true rfl) (e_X6_letter (μ := (zhs μ rd (upd (μ rd) 5 (nI (sk (μ le) n p))))) hr (by rw [zhs_s]; exact hn) hn250 (p := sk (μ le) n p) (by rw [zhs_s]; rfl) (by have := (skF_max (L := μ le) (n := n) (n - p) p); simp only [sk]; omega)) (Nat.le_of_ble_eq_true rfl) ?_
  rw [zhs_n _ _ q1]
  refine pv_bipush (v := 59) t_X6_readEnd_8 zb_59 ?_
  refine pv_icmp_eq t_X6_readEnd_10 (fun c10 => ?_) (fun c10 => ?_)
  · skip
    refine pv_aload_n (i := 0) t_X6_readEnd_22 rfl rfl ?_
    refine pv_dup t_X6_readEnd_23 ?_
    refine pv_getI t_X6_readEnd_24 fl_X6_41 hr.1 rfl ?_
    refine pv_iconst (v := 1) t_X6_readEnd_27 zi_1 ?_
    refine pv_iadd t_X6_readEnd_28 ?_
    refine pv_putI t_X6_readEnd_29 fl_X6_41 zfn_6_5 hr.1 rfl ?_
    exact pv_vret t_X6_readEnd_32 rfl (by simp only [zhs_hs, zhs_s]; first | (rw [gen, if_pos c10]; rfl) | (rw [gen, if_neg c10, gmk_5]; rfl))
  · skip
    refine pv_aload_n (i := 0) t_X6_readEnd_13 rfl rfl ?_
    refine pv_iconst (v := 1) t_X6_readEnd_14 zi_1 ?_
    refine pv_aload_n (i := 0) t_X6_readEnd_15 rfl rfl ?_
    refine pv_getI t_X6_readEnd_16 fl_X6_41 hr.1 rfl ?_
    refine pv_gV2 t_X6_readEnd_19 ml_X6_60 mo_X6_mark hr.1 rfl (Nat.le_of_ble_eq_true rfl) (e_X6_mark hr) (Nat.le_of_ble_eq_true rfl) ?_
    refine pv_aload_n (i := 0) t_X6_readEnd_22 rfl rfl ?_
    refine pv_dup t_X6_readEnd_23 ?_
    refine pv_getI t_X6_readEnd_24 fl_X6_41 hr.1 rfl ?_
    refine pv_iconst (v := 1) t_X6_readEnd_27 zi_1 ?_
    refine pv_iadd t_X6_readEnd_28 ?_
    refine pv_putI t_X6_readEnd_29 fl_X6_41 zfn_6_5 hr.1 rfl ?_
    exact pv_vret t_X6_readEnd_32 rfl (by simp only [zhs_hs, zhs_s]; first | (rw [gen, if_pos c10]; rfl) | (rw [gen, if_neg c10, gmk_5]; rfl))

