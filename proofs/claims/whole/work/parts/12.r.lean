abbrev zRn (l : Launch) (X : zX) (y : zMI) (d : Nat) (as : List zV) (S0 : zS) (r : Option zV) (S9 : zS) : Prop := zEv l X y d 0 (zent 0 as) [] S0 0 0 r S9
def bz (b : Bool) : Int32 := match b with
  | true => 1
  | false => 0
theorem bz_01 (b : Bool) : bz b = 0 ∨ bz b = 1 := by cases b <;> simp [bz]
/-- row f of n places at i: 0 without -/
def rA (f : Nat → Int32) (n : Nat) (i : Int32) : Int32 := if 0 ≤ i.toInt ∧ i.toInt < n then f i.toNatClampNeg else 0
def rP (f : Nat → Int32) (n : Nat) (i v : Int32) : Nat → Int32 := if 0 ≤ i.toInt ∧ i.toInt < n then upd f i.toNatClampNeg v else f
theorem rA_in {f : Nat → Int32} {n : Nat} {i : Int32} (h : 0 ≤ i.toInt ∧ i.toInt < n) : rA f n i = f i.toNatClampNeg := if_pos h
theorem rA_out {f : Nat → Int32} {n : Nat} {i : Int32} (h : ¬ (0 ≤ i.toInt ∧ i.toInt < n)) : rA f n i = 0 := if_neg h
theorem rP_in {f : Nat → Int32} {n : Nat} {i v : Int32} (h : 0 ≤ i.toInt ∧ i.toInt < n) : rP f n i v = upd f i.toNatClampNeg v := if_pos h
theorem rP_out {f : Nat → Int32} {n : Nat} {i v : Int32} (h : ¬ (0 ≤ i.toInt ∧ i.toInt < n)) : rP f n i v = f := if_neg h
theorem rA_n {f : Nat → Int32} {n j : Nat} (h : j < n) (hn : n < 2 ^ 31) : rA f n (nI j) = f j := by
  rw [rA_in (by rw [nI_toInt (by omega)]; omega), nI_clamp (by omega)]
theorem rP_n {f : Nat → Int32} {n j : Nat} {v : Int32} (h : j < n) (hn : n < 2 ^ 31) : rP f n (nI j) v = upd f j v := by
  rw [rP_in (by rw [nI_toInt (by omega)]; omega), nI_clamp (by omega)]
theorem zlt0 {x : Int32} : x < 0 ↔ x.toInt < 0 := by rw [Int32.lt_iff_toInt_lt]; rfl
theorem znle {x : Int32} {n : Nat} (hn : n < 2 ^ 31) : nI n ≤ x ↔ (n : Int) ≤ x.toInt := by rw [Int32.le_iff_toInt_le, nI_toInt hn]
theorem zin_of {x : Int32} {n : Nat} (hn : n < 2 ^ 31) (h1 : ¬ x < 0) (h2 : ¬ nI n ≤ x) : 0 ≤ x.toInt ∧ x.toInt < n := by
  rw [zlt0] at h1
  rw [znle hn] at h2
  omega
theorem zin {x : Int32} {n : Nat} (h : 0 ≤ x.toInt ∧ x.toInt < n) : vp_in x n := vp_in_iff.mpr h
theorem zout0 {x : Int32} {n : Nat} (h1 : x < 0) : ¬ (0 ≤ x.toInt ∧ x.toInt < n) := by
  rw [zlt0] at h1
  omega
theorem zout1 {x : Int32} {n : Nat} (hn : n < 2 ^ 31) (h1 : nI n ≤ x) : ¬ (0 ≤ x.toInt ∧ x.toInt < n) := by
  rw [znle hn] at h1
  omega
theorem zof {n : Nat} : Int32.ofNat n = nI n := rfl
theorem zhs_hs (h : zH) (k : Nat) (f g : Nat → Int32) : zhs (zhs h k f) k g = zhs h k g := by
  funext a
  by_cases ha : a = k
  · subst ha; rw [zhs_s, zhs_s]
  · rw [zhs_n _ _ ha, zhs_n _ _ ha, zhs_n _ _ ha]
theorem e_X8_at {l : Launch} {X : zX} {d : Nat} {Ψ : List zC} {μ : zH} {a n : Nat} {i : Int32} (hr : zar X (Ψ, μ) a n) (hn : n < 2 ^ 31) : zRn l X mi_X8_at d [.inr a, .inl i] (Ψ, μ) (some (.inl (rA (μ a) n i))) (Ψ, μ) := by
  refine pv_iload_n (i := 1) t_X8_at_0 rfl rfl ?_
  refine pv_if_lt t_X8_at_1 (fun c1 => ?_) (fun c1 => ?_)
  · skip
    refine pv_iconst (v := 0) t_X8_at_16 zi_0 ?_
    exact pv_ireti t_X8_at_17 rfl (by first | exact (rA_in (zin_of hn c1 c7)).symm | exact (rA_out (zout0 c1)).symm | exact (rA_out (zout1 hn c7)).symm) rfl
  · skip
    refine pv_iload_n (i := 1) t_X8_at_4 rfl rfl ?_
    refine pv_aload_n (i := 0) t_X8_at_5 rfl rfl ?_
    refine pv_alen2 t_X8_at_6 hr zof ?_
    refine pv_icmp_ge t_X8_at_7 (fun c7 => ?_) (fun c7 => ?_)
    · skip
      refine pv_iconst (v := 0) t_X8_at_16 zi_0 ?_
      exact pv_ireti t_X8_at_17 rfl (by first | exact (rA_in (zin_of hn c1 c7)).symm | exact (rA_out (zout0 c1)).symm | exact (rA_out (zout1 hn c7)).symm) rfl
    · skip
      refine pv_aload_n (i := 0) t_X8_at_10 rfl rfl ?_
      refine pv_iload_n (i := 1) t_X8_at_11 rfl rfl ?_
      refine pv_iald2 t_X8_at_12 hr (zin (zin_of hn c1 c7)) ?_
      refine pv_goto t_X8_at_13 ?_
      exact pv_ireti t_X8_at_17 rfl (by first | exact (rA_in (zin_of hn c1 c7)).symm | exact (rA_out (zout0 c1)).symm | exact (rA_out (zout1 hn c7)).symm) rfl

theorem e_X8_put {l : Launch} {X : zX} {d : Nat} {Ψ : List zC} {μ : zH} {a n : Nat} {i v : Int32} (hr : Ψ[a]? = some (.inl (0, n))) (hn : n < 2 ^ 31) : zRn l X mi_X8_put d [.inr a, .inl i, .inl v] (Ψ, μ) none (Ψ, zhs μ a (rP (μ a) n i v)) := by
  refine pv_iload_n (i := 1) t_X8_put_0 rfl rfl ?_
  refine pv_if_lt t_X8_put_1 (fun c1 => ?_) (fun c1 => ?_)
  · skip
    exact pv_vret t_X8_put_14 rfl (by first | (rw [rP_in (zin_of hn c1 c7)]; done) | (rw [rP_out (zout0 c1), zhs_id]) | (rw [rP_out (zout1 hn c7), zhs_id]))
  · skip
    refine pv_iload_n (i := 1) t_X8_put_4 rfl rfl ?_
    refine pv_aload_n (i := 0) t_X8_put_5 rfl rfl ?_
    refine pv_alen2 t_X8_put_6 (Or.inl hr) zof ?_
    refine pv_icmp_ge t_X8_put_7 (fun c7 => ?_) (fun c7 => ?_)
    · skip
      exact pv_vret t_X8_put_14 rfl (by first | (rw [rP_in (zin_of hn c1 c7)]; done) | (rw [rP_out (zout0 c1), zhs_id]) | (rw [rP_out (zout1 hn c7), zhs_id]))
    · skip
      refine pv_aload_n (i := 0) t_X8_put_10 rfl rfl ?_
      refine pv_iload_n (i := 1) t_X8_put_11 rfl rfl ?_
      refine pv_iload_n (i := 2) t_X8_put_12 rfl rfl ?_
      refine pv_iast t_X8_put_13 hr (zin (zin_of hn c1 c7)) ?_
      exact pv_vret t_X8_put_14 rfl (by first | (rw [rP_in (zin_of hn c1 c7)]; done) | (rw [rP_out (zout0 c1), zhs_id]) | (rw [rP_out (zout1 hn c7), zhs_id]))

theorem e_X8_add {l : Launch} {X : zX} {d : Nat} {Ψ : List zC} {μ : zH} {a n : Nat} {i v : Int32} (hr : Ψ[a]? = some (.inl (0, n))) (hn : n < 2 ^ 31) : zRn l X mi_X8_add d [.inr a, .inl i, .inl v] (Ψ, μ) none (Ψ, zhs μ a (rP (μ a) n i (rA (μ a) n i + v))) := by
  refine pv_iload_n (i := 1) t_X8_add_0 rfl rfl ?_
  refine pv_if_lt t_X8_add_1 (fun c1 => ?_) (fun c1 => ?_)
  · skip
    exact pv_vret t_X8_add_17 rfl (by first | (rw [rP_in (zin_of hn c1 c7), rA_in (zin_of hn c1 c7)]; done) | (rw [rP_out (zout0 c1), zhs_id]) | (rw [rP_out (zout1 hn c7), zhs_id]))
  · skip
    refine pv_iload_n (i := 1) t_X8_add_4 rfl rfl ?_
    refine pv_aload_n (i := 0) t_X8_add_5 rfl rfl ?_
    refine pv_alen2 t_X8_add_6 (Or.inl hr) zof ?_
    refine pv_icmp_ge t_X8_add_7 (fun c7 => ?_) (fun c7 => ?_)
    · skip
      exact pv_vret t_X8_add_17 rfl (by first | (rw [rP_in (zin_of hn c1 c7), rA_in (zin_of hn c1 c7)]; done) | (rw [rP_out (zout0 c1), zhs_id]) | (rw [rP_out (zout1 hn c7), zhs_id]))
    · skip
      refine pv_aload_n (i := 0) t_X8_add_10 rfl rfl ?_
      refine pv_iload_n (i := 1) t_X8_add_11 rfl rfl ?_
      refine pv_dup2 t_X8_add_12 ?_
      refine pv_iald2 t_X8_add_13 (Or.inl hr) (zin (zin_of hn c1 c7)) ?_
      refine pv_iload_n (i := 2) t_X8_add_14 rfl rfl ?_
      refine pv_iadd t_X8_add_15 ?_
      refine pv_iast t_X8_add_16 hr (zin (zin_of hn c1 c7)) ?_
      exact pv_vret t_X8_add_17 rfl (by first | (rw [rP_in (zin_of hn c1 c7), rA_in (zin_of hn c1 c7)]; done) | (rw [rP_out (zout0 c1), zhs_id]) | (rw [rP_out (zout1 hn c7), zhs_id]))


theorem lp_X8_clear {l : Launch} {X : zX} {d : Nat} {Ψ : List zC} {μ : zH} {a n : Nat} (hr : Ψ[a]? = some (.inl (0, n))) (hn : n < 2 ^ 31) : ∀ j i : Nat, i + j = n + 1 → i ≤ n → zEv l X mi_X8_clear d 2 [(0, .inr a), (1, .inl (nI i))] [] (Ψ, zhs μ a (fun k => if k < i then 0 else μ a k)) 0 0 none (Ψ, zhs μ a (fun k => if k < n then 0 else μ a k)) := by
  intro j
  induction j with
  | zero => intro i h h2; omega
  | succ j ih =>
    intro i h h2
    refine pv_iload_n (i := 1) t_X8_clear_2 rfl rfl ?_
    refine pv_aload_n (i := 0) t_X8_clear_3 rfl rfl ?_
    refine pv_alen2 t_X8_clear_4 (Or.inl hr) zof ?_
    refine pv_icmp_ge t_X8_clear_5 (fun c5 => ?_) (fun c5 => ?_)
    · skip
      have hie : i = n := by have := (nI_leI hn (by omega)).mp c5; omega
      subst hie
      exact pv_vret t_X8_clear_18 rfl rfl
    · skip
      have hin : i < n := Nat.lt_of_not_le (fun q => c5 (nI_le q (by omega)))
      refine pv_aload_n (i := 0) t_X8_clear_8 rfl rfl ?_
      refine pv_iload_n (i := 1) t_X8_clear_9 rfl rfl ?_
      refine pv_iconst (v := 0) t_X8_clear_10 zi_0 ?_
      refine pv_iast t_X8_clear_11 hr (vp_in_nI hin hn) ?_
      refine pv_iinc (v := 1) t_X8_clear_12 rfl zi_1 ?_
      refine pv_goto t_X8_clear_15 ?_
      have e1 : nI i + 1 = nI (i + 1) := nI_1 i
      rw [e1]
      have e2 : zhs (zhs μ a (fun k => if k < i then 0 else μ a k)) a (upd (zhs μ a (fun k => if k < i then 0 else μ a k) a) (nI i).toNatClampNeg 0) = zhs μ a (fun k => if k < i + 1 then 0 else μ a k) := by
        rw [zhs_hs, zhs_s, nI_clamp (by omega)]
        congr 1
        funext k
        simp only [upd]
        by_cases hk : k = i
        · subst hk; simp
        · by_cases hk2 : k < i
          · rw [if_neg hk, if_pos hk2, if_pos (by omega)]
          · rw [if_neg hk, if_neg hk2, if_neg (by omega)]
      show zEv _ _ _ _ _ _ _ (Ψ, zhs (zhs μ a (fun k => if k < i then 0 else μ a k)) a (upd (zhs μ a (fun k => if k < i then 0 else μ a k) a) (nI i).toNatClampNeg 0)) _ _ _ _
      rw [e2]
      exact ih (i + 1) (by omega) (by omega)

theorem e_X8_clear {l : Launch} {X : zX} {d : Nat} {Ψ : List zC} {μ : zH} {a n : Nat} (hr : Ψ[a]? = some (.inl (0, n))) (hn : n < 2 ^ 31) : zRn l X mi_X8_clear d [.inr a] (Ψ, μ) none (Ψ, zhs μ a (fun k => if k < n then 0 else μ a k)) := by
  refine pv_iconst (v := 0) t_X8_clear_0 zi_0 ?_
  refine pv_istore_n (i := 1) t_X8_clear_1 rfl (Nat.le_of_ble_eq_true rfl) ?_
  have h := lp_X8_clear (l := l) (X := X) (d := d) (μ := μ) hr hn (n + 1) 0 (by omega) (by omega)
  rw [show (fun k => if k < 0 then (0 : Int32) else μ a k) = μ a from funext (fun k => if_neg (Nat.not_lt_zero k)), zhs_id] at h
  exact h

theorem e_J_max {l : Launch} {X : zX} {d : Nat} {Ψ : List zC} {μ : zH} {a b : Int32} : zRn l X mi_J_max d [.inl a, .inl b] (Ψ, μ) (some (.inl (if a < b then b else a))) (Ψ, μ) := by
  refine pv_iload_n (i := 0) t_J_max_0 rfl rfl ?_
  refine pv_iload_n (i := 1) t_J_max_1 rfl rfl ?_
  refine pv_icmp_lt t_J_max_2 (fun c2 => ?_) (fun c2 => ?_)
  · skip
    refine pv_iload_n (i := 1) t_J_max_9 rfl rfl ?_
    exact pv_ireti t_J_max_10 rfl (by first | exact (if_pos c2).symm | exact (if_neg c2).symm) rfl
  · skip
    refine pv_iload_n (i := 0) t_J_max_5 rfl rfl ?_
    refine pv_goto t_J_max_6 ?_
    exact pv_ireti t_J_max_10 rfl (by first | exact (if_pos c2).symm | exact (if_neg c2).symm) rfl

theorem e_J_min {l : Launch} {X : zX} {d : Nat} {Ψ : List zC} {μ : zH} {a b : Int32} : zRn l X mi_J_min d [.inl a, .inl b] (Ψ, μ) (some (.inl (if b < a then b else a))) (Ψ, μ) := by
  refine pv_iload_n (i := 0) t_J_min_0 rfl rfl ?_
  refine pv_iload_n (i := 1) t_J_min_1 rfl rfl ?_
  refine pv_icmp_gt t_J_min_2 (fun c2 => ?_) (fun c2 => ?_)
  · skip
    refine pv_iload_n (i := 1) t_J_min_9 rfl rfl ?_
    exact pv_ireti t_J_min_10 rfl (by first | exact (if_pos c2).symm | exact (if_neg c2).symm) rfl
  · skip
    refine pv_iload_n (i := 0) t_J_min_5 rfl rfl ?_
    refine pv_goto t_J_min_6 ?_
    exact pv_ireti t_J_min_10 rfl (by first | exact (if_pos c2).symm | exact (if_neg c2).symm) rfl

theorem e_X8_copy {l : Launch} {X : zX} {d : Nat} {Ψ : List zC} {μ : zH} {a b n : Nat} (ha : Ψ[a]? = some (.inl (0, n))) (hb : Ψ[b]? = some (.inl (0, n))) (hn : n < 2 ^ 31) : zRn l X mi_X8_copy (d + 1) [.inr a, .inr b] (Ψ, μ) none (Ψ, zhs μ b (fun k => if k < n then μ a k else μ b k)) := by
  refine pv_aload_n (i := 0) t_X8_copy_0 rfl rfl ?_
  refine pv_iconst (v := 0) t_X8_copy_1 zi_0 ?_
  refine pv_aload_n (i := 1) t_X8_copy_2 rfl rfl ?_
  refine pv_iconst (v := 0) t_X8_copy_3 zi_0 ?_
  refine pv_aload_n (i := 0) t_X8_copy_4 rfl rfl ?_
  refine pv_alen2 t_X8_copy_5 (Or.inl ha) zof ?_
  refine pv_aload_n (i := 1) t_X8_copy_6 rfl rfl ?_
  refine pv_alen2 t_X8_copy_7 (Or.inl hb) zof ?_
  refine pv_gS2 t_X8_copy_8 ml_X8_7 mo_J_min (Nat.le_of_ble_eq_true rfl) (e_J_min (d := d)) (Nat.le_of_ble_eq_true rfl) ?_
  rw [ite_self]
  refine pv_copy t_X8_copy_11 ac_X8_13 ha hb (by decide) (by decide) (nI_pos hn) (by rw [nI_clamp hn]; exact Nat.le_of_eq (Nat.zero_add n)) (by rw [nI_clamp hn]; exact Nat.le_of_eq (Nat.zero_add n)) (Nat.le_of_ble_eq_true rfl) rfl ?_
  exact pv_vret t_X8_copy_14 rfl (by rw [nI_clamp hn]; congr 2; funext k; simp [va_cpy])

