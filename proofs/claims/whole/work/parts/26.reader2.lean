def gT (g : Nat → Int32) (q p : Nat) (v lo hi : Int32) : Int32 × (Nat → Int32) :=
  if p = q then (0, gmk g 1 (nI p)) else if 3 < p - q ∨ v < lo ∨ hi < v then (0, gmk g 2 (nI q)) else (v, g)
theorem gT_1 {g : Nat → Int32} {q p : Nat} {v lo hi : Int32} (h : p = q) : gT g q p v lo hi = (0, gmk g 1 (nI p)) := if_pos h
theorem gT_2 {g : Nat → Int32} {q p : Nat} {v lo hi : Int32} (h : ¬ p = q) (h2 : 3 < p - q ∨ v < lo ∨ hi < v) : gT g q p v lo hi = (0, gmk g 2 (nI q)) := by rw [gT, if_neg h, if_pos h2]
theorem gT_3 {g : Nat → Int32} {q p : Nat} {v lo hi : Int32} (h : ¬ p = q) (h2 : ¬ (3 < p - q ∨ v < lo ∨ hi < v)) : gT g q p v lo hi = (v, g) := by rw [gT, if_neg h, if_neg h2]
theorem nI_s (a b : Nat) (h : b ≤ a) : nI a - nI b = nI (a - b) := by
  have h1 : nI (a - b) + nI b = nI a := by rw [nI_add, Nat.sub_add_cancel h]
  rw [← h1, Int32.add_sub_cancel]
theorem tl_X6_readNumber {l : Launch} {X : zX} {d : Nat} {Ψ : List zC} {μ : zH} {lo hi v : Int32} {rd dm le : Nat} (hr : oR Ψ rd dm le) {p q : Nat} (hp : μ rd 5 = nI p) (hq6 : μ rd 6 = nI q) (hqp : q ≤ p) (hp4 : p < 1000) : zEv l X mi_X6_readNumber (d + 1) 86 [(0, .inr rd), (1, .inl lo), (2, .inl hi), (3, .inl v)] [] (Ψ, μ) 0 0 (some (.inl (gT (μ rd) q p v lo hi).1)) (Ψ, zhs μ rd (gT (μ rd) q p v lo hi).2) := by
  refine pv_aload_n (i := 0) t_X6_readNumber_86 rfl rfl ?_
  refine pv_getI t_X6_readNumber_87 fl_X6_41 hr.1 rfl ?_
  refine pv_aload_n (i := 0) t_X6_readNumber_90 rfl rfl ?_
  refine pv_getI t_X6_readNumber_91 fl_X6_105 hr.1 rfl ?_
  refine pv_icmp_ne t_X6_readNumber_94 (fun c94 => ?_) (fun c94 => ?_)
  · skip
    rw [hp, hq6, nI_eq (by omega) (by omega)] at c94
    refine pv_aload_n (i := 0) t_X6_readNumber_108 rfl rfl ?_
    refine pv_getI t_X6_readNumber_109 fl_X6_41 hr.1 rfl ?_
    refine pv_aload_n (i := 0) t_X6_readNumber_112 rfl rfl ?_
    refine pv_getI t_X6_readNumber_113 fl_X6_105 hr.1 rfl ?_
    refine pv_isub t_X6_readNumber_116 ?_
    refine pv_iconst (v := 3) t_X6_readNumber_117 zi_3 ?_
    refine pv_icmp_gt t_X6_readNumber_118 (fun c118 => ?_) (fun c118 => ?_)
    · skip
      rw [hp, hq6, nI_s _ _ hqp] at c118
      have z118 : 3 < p - q := (nI_ltI (a := 3) (by omega) (by omega)).mp c118
      rw [gT_2 c94 (Or.inl z118)]
      refine pv_aload_n (i := 0) t_X6_readNumber_131 rfl rfl ?_
      refine pv_iconst (v := 2) t_X6_readNumber_132 zi_2 ?_
      refine pv_aload_n (i := 0) t_X6_readNumber_133 rfl rfl ?_
      refine pv_getI t_X6_readNumber_134 fl_X6_105 hr.1 rfl ?_
      refine pv_gV2 t_X6_readNumber_137 ml_X6_60 mo_X6_mark hr.1 rfl (Nat.le_of_ble_eq_true rfl) (e_X6_mark hr) (Nat.le_of_ble_eq_true rfl) ?_
      refine pv_iconst (v := 0) t_X6_readNumber_140 zi_0 ?_
      exact pv_ireti t_X6_readNumber_141 rfl rfl (by first | rw [hp] | rw [hq6])
    · skip
      rw [hp, hq6, nI_s _ _ hqp] at c118
      have z118 : ¬ 3 < p - q := fun z => c118 ((nI_ltI (a := 3) (by omega) (by omega)).mpr z)
      refine pv_iload_n (i := 3) t_X6_readNumber_121 rfl rfl ?_
      refine pv_iload_n (i := 1) t_X6_readNumber_122 rfl rfl ?_
      refine pv_icmp_lt t_X6_readNumber_123 (fun c123 => ?_) (fun c123 => ?_)
      · skip
        rw [gT_2 c94 (Or.inr (Or.inl c123))]
        refine pv_aload_n (i := 0) t_X6_readNumber_131 rfl rfl ?_
        refine pv_iconst (v := 2) t_X6_readNumber_132 zi_2 ?_
        refine pv_aload_n (i := 0) t_X6_readNumber_133 rfl rfl ?_
        refine pv_getI t_X6_readNumber_134 fl_X6_105 hr.1 rfl ?_
        refine pv_gV2 t_X6_readNumber_137 ml_X6_60 mo_X6_mark hr.1 rfl (Nat.le_of_ble_eq_true rfl) (e_X6_mark hr) (Nat.le_of_ble_eq_true rfl) ?_
        refine pv_iconst (v := 0) t_X6_readNumber_140 zi_0 ?_
        exact pv_ireti t_X6_readNumber_141 rfl rfl (by first | rw [hp] | rw [hq6])
      · skip
        refine pv_iload_n (i := 3) t_X6_readNumber_126 rfl rfl ?_
        refine pv_iload_n (i := 2) t_X6_readNumber_127 rfl rfl ?_
        refine pv_icmp_le t_X6_readNumber_128 (fun c128 => ?_) (fun c128 => ?_)
        · skip
          rw [gT_3 c94 (fun z => z.elim z118 (fun z => z.elim c123 (fun z => Int32.not_lt.mpr c128 z)))]
          dsimp only
          refine pv_iload_n (i := 3) t_X6_readNumber_142 rfl rfl ?_
          exact pv_ireti t_X6_readNumber_143 rfl rfl (by rw [zhs_id])
        · skip
          rw [gT_2 c94 (Or.inr (Or.inr (Int32.not_le.mp c128)))]
          refine pv_aload_n (i := 0) t_X6_readNumber_131 rfl rfl ?_
          refine pv_iconst (v := 2) t_X6_readNumber_132 zi_2 ?_
          refine pv_aload_n (i := 0) t_X6_readNumber_133 rfl rfl ?_
          refine pv_getI t_X6_readNumber_134 fl_X6_105 hr.1 rfl ?_
          refine pv_gV2 t_X6_readNumber_137 ml_X6_60 mo_X6_mark hr.1 rfl (Nat.le_of_ble_eq_true rfl) (e_X6_mark hr) (Nat.le_of_ble_eq_true rfl) ?_
          refine pv_iconst (v := 0) t_X6_readNumber_140 zi_0 ?_
          exact pv_ireti t_X6_readNumber_141 rfl rfl (by first | rw [hp] | rw [hq6])
  · skip
    rw [hp, hq6, nI_eq (by omega) (by omega)] at c94
    rw [gT_1 c94]
    refine pv_aload_n (i := 0) t_X6_readNumber_97 rfl rfl ?_
    refine pv_iconst (v := 1) t_X6_readNumber_98 zi_1 ?_
    refine pv_aload_n (i := 0) t_X6_readNumber_99 rfl rfl ?_
    refine pv_getI t_X6_readNumber_100 fl_X6_41 hr.1 rfl ?_
    refine pv_gV2 t_X6_readNumber_103 ml_X6_60 mo_X6_mark hr.1 rfl (Nat.le_of_ble_eq_true rfl) (e_X6_mark hr) (Nat.le_of_ble_eq_true rfl) ?_
    refine pv_iconst (v := 0) t_X6_readNumber_106 zi_0 ?_
    exact pv_ireti t_X6_readNumber_107 rfl rfl (by first | rw [hp] | rw [hq6])

theorem lp_X6_readNumber {l : Launch} {X : zX} {d : Nat} {Ψ : List zC} {lo hi : Int32} {rd dm le : Nat} (hr : oR Ψ rd dm le) {n q : Nat} (hn250 : n ≤ 250) : ∀ j p : Nat, n - p ≤ j → q ≤ p → p < 1000 → ∀ (μ : zH) (v : Int32), μ rd 2 = nI n → μ rd 5 = nI p → μ rd 6 = nI q → zEv l X mi_X6_readNumber (d + 2) 14 [(0, .inr rd), (1, .inl lo), (2, .inl hi), (3, .inl v)] [] (Ψ, μ) 0 0 (some (.inl (gT (upd (μ rd) 5 (nI (dgF (μ le) n q (n - p) p v).1)) q (dgF (μ le) n q (n - p) p v).1 (dgF (μ le) n q (n - p) p v).2 lo hi).1)) (Ψ, zhs μ rd (gT (upd (μ rd) 5 (nI (dgF (μ le) n q (n - p) p v).1)) q (dgF (μ le) n q (n - p) p v).1 (dgF (μ le) n q (n - p) p v).2 lo hi).2) := by
  intro j
  have q1 : le ≠ rd := zne hr.2 hr.1 (by simp)
  induction j with
  | zero =>
    intro p hj hqp hp4 μ v hn hp hq6
    refine pv_aload_n (i := 0) t_X6_readNumber_14 rfl rfl ?_
    refine pv_getI t_X6_readNumber_15 fl_X6_41 hr.1 rfl ?_
    refine pv_aload_n (i := 0) t_X6_readNumber_18 rfl rfl ?_
    refine pv_getI t_X6_readNumber_19 fl_X6_22 hr.1 rfl ?_
    refine pv_icmp_ge t_X6_readNumber_22 (fun c22 => ?_) (fun c22 => absurd (show μ rd 2 ≤ μ rd 5 by rw [hn, hp]; exact nI_le (by omega) (by omega)) c22)
    have hq : ¬ (p < n ∧ 48 ≤ μ le p ∧ μ le p ≤ 57) := fun q => by omega
    rw [dgF_stop hq]
    dsimp only
    rw [show upd (μ rd) 5 (nI p) = μ rd from hp ▸ upd_id (μ rd) 5]
    exact tl_X6_readNumber hr hp hq6 hqp hp4
  | succ j ih =>
    intro p hj hqp hp4 μ v hn hp hq6
    refine pv_aload_n (i := 0) t_X6_readNumber_14 rfl rfl ?_
    refine pv_getI t_X6_readNumber_15 fl_X6_41 hr.1 rfl ?_
    refine pv_aload_n (i := 0) t_X6_readNumber_18 rfl rfl ?_
    refine pv_getI t_X6_readNumber_19 fl_X6_22 hr.1 rfl ?_
    refine pv_icmp_ge t_X6_readNumber_22 (fun c22 => ?_) (fun c22 => ?_)
    · skip
      rw [hn, hp] at c22
      have hq : ¬ (p < n ∧ 48 ≤ μ le p ∧ μ le p ≤ 57) := fun q => (nI_ge q.1 (by omega)) c22
      rw [dgF_stop hq]
      dsimp only
      rw [show upd (μ rd) 5 (nI p) = μ rd from hp ▸ upd_id (μ rd) 5]
      exact tl_X6_readNumber hr hp hq6 hqp hp4
    · skip
      rw [hn, hp] at c22
      have hin : p < n := Nat.lt_of_not_le (fun q => c22 (nI_le q (by omega)))
      refine pv_aload_n (i := 0) t_X6_readNumber_25 rfl rfl ?_
      refine pv_gV0 t_X6_readNumber_26 ml_X6_47 mo_X6_letter hr.1 rfl (Nat.le_of_ble_eq_true rfl) (e_X6_letter hr hn hn250 hp hp4) (Nat.le_of_ble_eq_true rfl) ?_
      refine pv_bipush (v := 48) t_X6_readNumber_29 zb_48 ?_
      refine pv_icmp_lt t_X6_readNumber_31 (fun c31 => ?_) (fun c31 => ?_)
      · skip
        rw [lt, if_pos hin] at c31
        have hq : ¬ (p < n ∧ 48 ≤ μ le p ∧ μ le p ≤ 57) := fun q => Int32.not_lt.mpr q.2.1 c31
        rw [dgF_stop hq]
        dsimp only
        rw [show upd (μ rd) 5 (nI p) = μ rd from hp ▸ upd_id (μ rd) 5]
        exact tl_X6_readNumber hr hp hq6 hqp hp4
      · skip
        rw [lt, if_pos hin] at c31
        refine pv_aload_n (i := 0) t_X6_readNumber_34 rfl rfl ?_
        refine pv_gV0 t_X6_readNumber_35 ml_X6_47 mo_X6_letter hr.1 rfl (Nat.le_of_ble_eq_true rfl) (e_X6_letter hr hn hn250 hp hp4) (Nat.le_of_ble_eq_true rfl) ?_
        refine pv_bipush (v := 57) t_X6_readNumber_38 zb_57 ?_
        refine pv_icmp_gt t_X6_readNumber_40 (fun c40 => ?_) (fun c40 => ?_)
        · skip
          rw [lt, if_pos hin] at c40
          have hq : ¬ (p < n ∧ 48 ≤ μ le p ∧ μ le p ≤ 57) := fun q => Int32.not_lt.mpr q.2.2 c40
          rw [dgF_stop hq]
          dsimp only
          rw [show upd (μ rd) 5 (nI p) = μ rd from hp ▸ upd_id (μ rd) 5]
          exact tl_X6_readNumber hr hp hq6 hqp hp4
        · skip
          rw [lt, if_pos hin] at c40
          have hq : p < n ∧ 48 ≤ μ le p ∧ μ le p ≤ 57 := ⟨hin, Int32.not_lt.mp c31, Int32.not_lt.mp c40⟩
          refine pv_aload_n (i := 0) t_X6_readNumber_43 rfl rfl ?_
          refine pv_getI t_X6_readNumber_44 fl_X6_41 hr.1 rfl ?_
          refine pv_aload_n (i := 0) t_X6_readNumber_47 rfl rfl ?_
          refine pv_getI t_X6_readNumber_48 fl_X6_105 hr.1 rfl ?_
          refine pv_isub t_X6_readNumber_51 ?_
          refine pv_iconst (v := 3) t_X6_readNumber_52 zi_3 ?_
          refine pv_icmp_ge t_X6_readNumber_53 (fun c53 => ?_) (fun c53 => ?_)
          · skip
            rw [hp, hq6, nI_s _ _ hqp] at c53
            have z53 : ¬ p - q < 3 := fun z => Int32.not_lt.mpr c53 ((nI_ltI (b := 3) (by omega) (by omega)).mpr z)
            refine pv_iload_n (i := 3) t_X6_readNumber_71 rfl rfl ?_
            refine pv_istore_n (i := 3) t_X6_readNumber_72 rfl (Nat.le_of_ble_eq_true rfl) ?_
            refine pv_aload_n (i := 0) t_X6_readNumber_73 rfl rfl ?_
            refine pv_dup t_X6_readNumber_74 ?_
            refine pv_getI t_X6_readNumber_75 fl_X6_41 hr.1 rfl ?_
            refine pv_iconst (v := 1) t_X6_readNumber_78 zi_1 ?_
            refine pv_iadd t_X6_readNumber_79 ?_
            refine pv_putI t_X6_readNumber_80 fl_X6_41 zfn_6_5 hr.1 rfl ?_
            refine pv_goto t_X6_readNumber_83 ?_
            refine pv_loc (lv' := [(0, _), (1, _), (2, _), (3, _)]) ⟨rfl, rfl, rfl, rfl, trivial⟩ ?_
            have h9 := ih (p + 1) (by omega) (by omega) (by omega) (zhs μ rd (upd (μ rd) 5 (μ rd 5 + 1))) ((if p - q < 3 then v * 10 + μ le p - 48 else v)) (by rw [zhs_s]; exact hn) (by rw [zhs_s, hp, nI_1]; rfl) (by rw [zhs_s]; exact hq6)
            rw [zhs_hs, zhs_s, zhs_n _ _ q1, upd_upd] at h9
            rw [show n - p = (n - (p + 1)) + 1 by omega, dgF, if_pos hq]
            first | (rw [if_pos z53] at h9; rw [if_pos z53, show lt (μ le) n p = μ le p from if_pos hin]; exact h9) | (rw [if_neg z53] at h9; rw [if_neg z53]; exact h9)
          · skip
            rw [hp, hq6, nI_s _ _ hqp] at c53
            have z53 : p - q < 3 := Nat.lt_of_not_le (fun z => c53 ((nI_leI (a := 3) (by omega) (by omega)).mpr z))
            refine pv_iload_n (i := 3) t_X6_readNumber_56 rfl rfl ?_
            refine pv_bipush (v := 10) t_X6_readNumber_57 zb_10 ?_
            refine pv_imul t_X6_readNumber_59 ?_
            refine pv_aload_n (i := 0) t_X6_readNumber_60 rfl rfl ?_
            refine pv_gV0 t_X6_readNumber_61 ml_X6_47 mo_X6_letter hr.1 rfl (Nat.le_of_ble_eq_true rfl) (e_X6_letter hr hn hn250 hp hp4) (Nat.le_of_ble_eq_true rfl) ?_
            refine pv_iadd t_X6_readNumber_64 ?_
            refine pv_bipush (v := 48) t_X6_readNumber_65 zb_48 ?_
            refine pv_isub t_X6_readNumber_67 ?_
            refine pv_goto t_X6_readNumber_68 ?_
            refine pv_istore_n (i := 3) t_X6_readNumber_72 rfl (Nat.le_of_ble_eq_true rfl) ?_
            refine pv_aload_n (i := 0) t_X6_readNumber_73 rfl rfl ?_
            refine pv_dup t_X6_readNumber_74 ?_
            refine pv_getI t_X6_readNumber_75 fl_X6_41 hr.1 rfl ?_
            refine pv_iconst (v := 1) t_X6_readNumber_78 zi_1 ?_
            refine pv_iadd t_X6_readNumber_79 ?_
            refine pv_putI t_X6_readNumber_80 fl_X6_41 zfn_6_5 hr.1 rfl ?_
            refine pv_goto t_X6_readNumber_83 ?_
            refine pv_loc (lv' := [(0, _), (1, _), (2, _), (3, _)]) ⟨rfl, rfl, rfl, rfl, trivial⟩ ?_
            have h9 := ih (p + 1) (by omega) (by omega) (by omega) (zhs μ rd (upd (μ rd) 5 (μ rd 5 + 1))) ((if p - q < 3 then v * 10 + μ le p - 48 else v)) (by rw [zhs_s]; exact hn) (by rw [zhs_s, hp, nI_1]; rfl) (by rw [zhs_s]; exact hq6)
            rw [zhs_hs, zhs_s, zhs_n _ _ q1, upd_upd] at h9
            rw [show n - p = (n - (p + 1)) + 1 by omega, dgF, if_pos hq]
            first | (rw [if_pos z53] at h9; rw [if_pos z53, show lt (μ le) n p = μ le p from if_pos hin]; exact h9) | (rw [if_neg z53] at h9; rw [if_neg z53]; exact h9)

def gq (L : Nat → Int32) (n : Nat) (g : Nat → Int32) (p : Nat) : Nat → Int32 := upd (upd g 5 (nI (sk L n p))) 6 (nI (sk L n p))
/-- a number read from p on, the reader's cell being g: what it is, the cell behind it -/
def gnu (L : Nat → Int32) (n : Nat) (g : Nat → Int32) (p : Nat) (lo hi : Int32) : Int32 × (Nat → Int32) :=
  gT (upd (gq L n g p) 5 (nI (dg L n (sk L n p)).1)) (sk L n p) (dg L n (sk L n p)).1 (dg L n (sk L n p)).2 lo hi
theorem sk_le {L : Nat → Int32} {n p : Nat} : sk L n p ≤ max p n := skF_max _ _
theorem sk_ge {L : Nat → Int32} {n p : Nat} : p ≤ sk L n p := (skF_le _ _).1
theorem e_X6_readNumber {l : Launch} {X : zX} {d : Nat} {Ψ : List zC} {μ : zH} {rd dm le : Nat} (hr : oR Ψ rd dm le) {n p : Nat} (hn : μ rd 2 = nI n) (hn250 : n ≤ 250) (hp : μ rd 5 = nI p) (hpn : p ≤ n + 5) {lo hi : Int32} : zRn l X mi_X6_readNumber (d + 3) [.inr rd, .inl lo, .inl hi] (Ψ, μ) (some (.inl (gnu (μ le) n (μ rd) p lo hi).1)) (Ψ, zhs μ rd (gnu (μ le) n (μ rd) p lo hi).2) := by
  have q1 : le ≠ rd := zne hr.2 hr.1 (by simp)
  refine pv_aload_n (i := 0) t_X6_readNumber_0 rfl rfl ?_
  refine pv_gV0 t_X6_readNumber_1 ml_X6_44 mo_X6_skipBlanks hr.1 rfl (Nat.le_of_ble_eq_true rfl) (e_X6_skipBlanks hr hn250 _ p (Nat.le_refl _) (by omega) _ hn hp) (Nat.le_of_ble_eq_true rfl) ?_
  refine pv_aload_n (i := 0) t_X6_readNumber_4 rfl rfl ?_
  refine pv_aload_n (i := 0) t_X6_readNumber_5 rfl rfl ?_
  refine pv_getI t_X6_readNumber_6 fl_X6_41 hr.1 rfl ?_
  refine pv_putI t_X6_readNumber_9 fl_X6_105 zfn_6_6 hr.1 rfl ?_
  refine pv_iconst (v := 0) t_X6_readNumber_12 zi_0 ?_
  refine pv_istore_n (i := 3) t_X6_readNumber_13 rfl (Nat.le_of_ble_eq_true rfl) ?_
  have h9 := lp_X6_readNumber (l := l) (X := X) (d := d + 1) (lo := lo) (hi := hi) hr (n := n) (q := sk (μ le) n p) hn250 _ (sk (μ le) n p) (Nat.le_refl _) (Nat.le_refl _) (by have := sk_le (L := μ le) (n := n) (p := p); omega) (zhs μ rd (gq (μ le) n (μ rd) p)) 0 (by rw [zhs_s]; exact hn) (by rw [zhs_s]; rfl) (by rw [zhs_s]; rfl)
  rw [zhs_hs, zhs_s, zhs_n _ _ q1] at h9
  rw [zhs_hs, zhs_s]
  exact h9

