/-- how far the text is read -/
def PI (n : Nat) (g : Nat → Int32) : Prop := g 2 = nI n ∧ nb (g 3) (n + 1)
theorem PI.u {n : Nat} {g : Nat → Int32} {k : Nat} {v : Int32} (h : PI n g) (hk : k ≠ 2 ∧ k ≠ 3) : PI n (upd g k v) := ⟨(upn (Ne.symm hk.1)).trans h.1, by rw [upn (Ne.symm hk.2)]; exact h.2⟩
theorem PI.fails {n : Nat} {g : Nat → Int32} {k : Int32} (h : PI n g) : PI n (w_X11_fails_67 g k) := by
  unfold w_X11_fails_67
  split
  · exact h
  · exact (h.u (by decide)).u (by decide)
theorem lt_32 {L : Nat → Int32} {n p : Nat} : lt L n p = 32 ↔ p < n ∧ L p = 32 := by
  unfold lt
  by_cases h : p < n
  · rw [if_pos h]; exact ⟨fun q => ⟨h, q⟩, fun q => q.2⟩
  · rw [if_neg h]; exact ⟨fun q => absurd q (by decide), fun q => absurd q.1 h⟩
theorem in_le {v a b : Int32} : a_X11_in v a b = 0 ↔ ¬ (a ≤ v ∧ v ≤ b) := by
  rw [inX]
  by_cases h : a ≤ v ∧ v ≤ b
  · rw [if_pos h]; exact ⟨fun q => absurd q (by decide), fun q => absurd h q⟩
  · rw [if_neg h]; exact ⟨fun _ => h, fun _ => rfl⟩
theorem in_dg {L : Nat → Int32} {n p : Nat} : a_X11_in (lt L n p) 48 57 = 0 ↔ ¬ (p < n ∧ 48 ≤ L p ∧ L p ≤ 57) := by
  rw [in_le]
  unfold lt
  by_cases h : p < n
  · rw [if_pos h]
    exact ⟨fun q r => q r.2, fun q r => q ⟨h, r⟩⟩
  · rw [if_neg h]
    exact ⟨fun _ r => h r.1, fun _ r => absurd r.1 (by decide)⟩
def a_X11_letterAt (f67 : Nat → Int32) (f68 : Nat → Int32) (p : Nat) : Int32 := (if (f67 2) ≤ ((nI p)) then (-1) else f68 p)
theorem e_X11_letterAt {l : Launch} {X : zX} {d : Nat} {μ : zH} {n : Nat} {p : Nat} (h2 : μ 67 2 = nI n) (hn250 : n ≤ 250) (hp : p < 1000) : zRn l X mi_X11_letterAt (d + 1) [.inr 67, .inl (nI p)] (zSH, μ) (some (.inl (a_X11_letterAt (μ 67) (μ 68) p))) (zSH, μ) := by
  refine pv_iload_n (i := 1) t_X11_letterAt_0 rfl rfl ?_
  refine pv_aload_n (i := 0) t_X11_letterAt_1 rfl rfl ?_
  refine sv_getI ((μ 67) 2) t_X11_letterAt_2 fl_X11_77 hh_67 rfl rfl ?_
  refine pv_icmp_ge t_X11_letterAt_5 (fun c5 => ?_) (fun c5 => ?_)
  · skip
    refine pv_iconst (v := -1) t_X11_letterAt_17 zi_m1 ?_
    exact pv_ireti t_X11_letterAt_18 rfl (by unfold a_X11_letterAt; rw [if_pos c5]) rfl
  · skip
    have hpn : p < n := Nat.lt_of_not_le (fun q => c5 (by rw [h2]; exact nI_le q (by omega)))
    refine pv_aload_n (i := 0) t_X11_letterAt_8 rfl rfl ?_
    refine pv_getR t_X11_letterAt_9 fl_X11_7 hh_67 rfl ?_
    refine pv_iload_n (i := 1) t_X11_letterAt_12 rfl rfl ?_
    refine sv_iald ((μ 68) p) t_X11_letterAt_13 (Or.inl hh_68) (ixi (k := p) rfl (by omega) (by decide)) ((ixe (k := p) rfl (by omega)).trans (by first | rfl | (simp only [zhs_s, pk_us]; done) | (simp [zhs, upd]; done))) ?_
    refine pv_goto t_X11_letterAt_14 ?_
    exact pv_ireti t_X11_letterAt_18 rfl (by unfold a_X11_letterAt; rw [if_neg c5]) rfl
theorem e_lt {l : Launch} {X : zX} {d : Nat} {μ : zH} {n p : Nat} (h2 : μ 67 2 = nI n) (hn250 : n ≤ 250) (hp : p < 1000) : zRn l X mi_X11_letterAt (d + 1) [.inr 67, .inl (nI p)] (zSH, μ) (some (.inl (lt (μ 68) n p))) (zSH, μ) := by
  have h := e_X11_letterAt (l := l) (X := X) (d := d) (μ := μ) (p := p) h2 hn250 hp
  have e : a_X11_letterAt (μ 67) (μ 68) p = lt (μ 68) n p := by
    unfold a_X11_letterAt lt
    rw [h2]
    by_cases q : p < n
    · rw [if_pos q, if_neg (fun r => nI_ge q (by omega) r)]
    · rw [if_neg q, if_pos (nI_le (by omega) (by omega))]
  rw [e] at h
  exact h
theorem lp1_adv {l : Launch} {X : zX} {d : Nat} {μ : zH} {g : Nat → Int32} {n : Nat} (h2 : g 2 = nI n) (hn250 : n ≤ 250) {rr : Option zV} {S' : zS} : ∀ j p : Nat, n - p < j → p < 900 → (zEv l X mi_X11_advances (d + 3) 26 [(0, .inr 67)] [] (zSH, zhs μ 67 (upd g 3 (nI (sk (μ 68) n p)))) 0 0 rr S') → zEv l X mi_X11_advances (d + 3) 0 [(0, .inr 67)] [] (zSH, zhs μ 67 (upd g 3 (nI p))) 0 0 rr S' := by
  intro j
  induction j with
  | zero => intro p hj; omega
  | succ j ih =>
    intro p hj hp9 hk
    refine pv_aload_n (i := 0) t_X11_advances_0 rfl rfl ?_
    refine pv_aload_n (i := 0) t_X11_advances_1 rfl rfl ?_
    refine sv_getI ((nI p)) t_X11_advances_2 fl_X11_81 hh_67 rfl rfl ?_
    refine sv_V1 (lt (μ 68) n p) ((zhs μ 67 ((upd g 3 ((nI p)))))) t_X11_advances_5 ml_X11_84 mo_X11_letterAt hh_67 rfl (Nat.le_of_ble_eq_true rfl) (e_lt h2 hn250 (by omega)) (Nat.le_of_ble_eq_true rfl) rfl rfl ?_
    refine pv_bipush (v := 32) t_X11_advances_8 zb_32 ?_
    refine pv_icmp_ne t_X11_advances_10 (fun c10 => ?_) (fun c10 => ?_)
    · skip
      have hq : ¬ (p < n ∧ (μ 68) p = 32) := fun q => c10 (lt_32.mpr q)
      rw [sk, skF_stop hq] at hk
      refine pv_loc (lv' := [(0, .inr 67)]) ⟨rfl, trivial⟩ ?_
      exact hk
    · skip
      refine pv_aload_n (i := 0) t_X11_advances_13 rfl rfl ?_
      refine pv_dup t_X11_advances_14 ?_
      refine sv_getI ((nI p)) t_X11_advances_15 fl_X11_81 hh_67 rfl rfl ?_
      refine pv_iconst (v := 1) t_X11_advances_18 zi_1 ?_
      refine pv_iadd t_X11_advances_19 ?_
      refine sv_putI ((zhs μ 67 ((upd g 3 (((nI p)) + 1))))) t_X11_advances_20 fl_X11_81 zfn_10_3 hh_67 rfl (by rw [zhs_hs] <;> (first | rfl | (congr 1; funext k_; simp only [upd, zhs_s]; ((repeat' split) <;> first | rfl | omega | (subst_vars; contradiction) | (simp_all; done))))) ?_
      refine pv_goto t_X11_advances_23 ?_
      have hq := lt_32.mp c10
      refine pv_loc (lv' := [(0, .inr 67)]) ⟨rfl, trivial⟩ ?_
      rw [nI_1]
      have hpn := hq.1
      refine ih (p + 1) (by omega) (by omega) ?_
      rw [sk, show n - p = (n - (p + 1)) + 1 by omega, skF, if_pos hq] at hk
      exact hk
theorem lp2_adv {l : Launch} {X : zX} {d : Nat} {μ : zH} {g : Nat → Int32} {c : Int32} {n q : Nat} (h2 : g 2 = nI n) (hn250 : n ≤ 250) {rr : Option zV} {S' : zS} : ∀ (j p : Nat) (v : Int32), n - p < j → p < 900 → q ≤ p → (zEv l X mi_X11_advances (d + 3) 145 [(0, .inr 67), (1, .inl c)] [] (zSH, zhs μ 67 (upd (upd (upd g 3 (nI (dgF (μ 68) n q (n - p) p v).1)) 5 (nI q)) 6 (dgF (μ 68) n q (n - p) p v).2)) 0 0 rr S') → zEv l X mi_X11_advances (d + 3) 71 [(0, .inr 67), (1, .inl c)] [] (zSH, zhs μ 67 (upd (upd (upd g 3 (nI p)) 5 (nI q)) 6 v)) 0 0 rr S' := by
  intro j
  induction j with
  | zero => intro p v hj; omega
  | succ j ih =>
    intro p v hj hp9 hqp hk
    refine pv_aload_n (i := 0) t_X11_advances_71 rfl rfl ?_
    refine pv_aload_n (i := 0) t_X11_advances_72 rfl rfl ?_
    refine sv_getI ((nI p)) t_X11_advances_73 fl_X11_81 hh_67 rfl rfl ?_
    refine sv_V1 (lt (μ 68) n p) ((zhs μ 67 ((upd (upd (upd g 3 ((nI p))) 5 ((nI q))) 6 v)))) t_X11_advances_76 ml_X11_84 mo_X11_letterAt hh_67 rfl (Nat.le_of_ble_eq_true rfl) (e_lt h2 hn250 (by omega)) (Nat.le_of_ble_eq_true rfl) rfl rfl ?_
    refine pv_bipush (v := 48) t_X11_advances_79 zb_48 ?_
    refine pv_bipush (v := 57) t_X11_advances_81 zb_57 ?_
    refine sv_S3 (a_X11_in (lt (μ 68) n p) 48 57) ((zhs μ 67 ((upd (upd (upd g 3 ((nI p))) 5 ((nI q))) 6 v)))) t_X11_advances_83 ml_X11_72 mo_X11_in (Nat.le_of_ble_eq_true rfl) (e_X11_in) (Nat.le_of_ble_eq_true rfl) rfl rfl ?_
    refine pv_if_eq t_X11_advances_86 (fun c86 => ?_) (fun c86 => ?_)
    · skip
      have hq := in_dg.mp c86
      rw [dgF_stop hq] at hk
      refine pv_loc (lv' := [(0, .inr 67), (1, _)]) ⟨rfl, rfl, trivial⟩ ?_
      exact hk
    · skip
      refine pv_aload_n (i := 0) t_X11_advances_89 rfl rfl ?_
      refine pv_aload_n (i := 0) t_X11_advances_90 rfl rfl ?_
      refine sv_getI ((nI p)) t_X11_advances_91 fl_X11_81 hh_67 rfl rfl ?_
      refine pv_aload_n (i := 0) t_X11_advances_94 rfl rfl ?_
      refine sv_getI ((nI q)) t_X11_advances_95 fl_X11_88 hh_67 rfl rfl ?_
      refine pv_isub t_X11_advances_98 ?_
      refine pv_iconst (v := 3) t_X11_advances_99 zi_3 ?_
      refine pv_icmp_ge t_X11_advances_100 (fun c100 => ?_) (fun c100 => ?_)
      · skip
        refine pv_aload_n (i := 0) t_X11_advances_125 rfl rfl ?_
        refine sv_getI (v) t_X11_advances_126 fl_X11_94 hh_67 rfl rfl ?_
        refine sv_putI ((zhs μ 67 ((upd (upd (upd g 3 ((nI p))) 5 ((nI q))) 6 v)))) t_X11_advances_129 fl_X11_94 zfn_10_6 hh_67 rfl (by rw [zhs_hs] <;> (first | rfl | (congr 1; funext k_; simp only [upd, zhs_s]; ((repeat' split) <;> first | rfl | omega | (subst_vars; contradiction) | (simp_all; done))))) ?_
        refine pv_aload_n (i := 0) t_X11_advances_132 rfl rfl ?_
        refine pv_dup t_X11_advances_133 ?_
        refine sv_getI ((nI p)) t_X11_advances_134 fl_X11_81 hh_67 rfl rfl ?_
        refine pv_iconst (v := 1) t_X11_advances_137 zi_1 ?_
        refine pv_iadd t_X11_advances_138 ?_
        refine sv_putI ((zhs μ 67 ((upd (upd (upd g 5 ((nI q))) 6 v) 3 (((nI p)) + 1))))) t_X11_advances_139 fl_X11_81 zfn_10_3 hh_67 rfl (by rw [zhs_hs] <;> (first | rfl | (congr 1; funext k_; simp only [upd, zhs_s]; ((repeat' split) <;> first | rfl | omega | (subst_vars; contradiction) | (simp_all; done))))) ?_
        refine pv_goto t_X11_advances_142 ?_
        have hq := Classical.not_not.mp (fun z => c86 (in_dg.mpr z))
        have hpn := hq.1
        have hlt : lt (μ 68) n p = (μ 68) p := if_pos hq.1
        refine pv_loc (lv' := [(0, .inr 67), (1, _)]) ⟨rfl, rfl, trivial⟩ ?_
        refine zst (S2 := (zSH, zhs μ 67 (upd (upd (upd g 3 (nI p + 1)) 5 (nI q)) 6 v))) (congrArg (fun f => ((zSH, zhs μ 67 f) : zS)) (by first | rfl | (funext k_; simp only [upd]; done) | (funext k_; simp only [upd]; ((repeat' split) <;> first | rfl | omega | (simp_all; done))))) ?_
        rw [nI_1]
        rw [show n - p = (n - (p + 1)) + 1 by omega, dgF, if_pos hq] at hk
        rw [nI_s _ _ hqp] at c100
        have z2 : ¬ p - q < 3 := fun z => Int32.not_lt.mpr c100 ((nI_ltI (b := 3) (by omega) (by omega)).mpr z)
        rw [if_neg z2] at hk
        exact ih (p + 1) _ (by omega) (by omega) (by omega) hk
      · skip
        refine pv_bipush (v := 10) t_X11_advances_103 zb_10 ?_
        refine pv_aload_n (i := 0) t_X11_advances_105 rfl rfl ?_
        refine sv_getI (v) t_X11_advances_106 fl_X11_94 hh_67 rfl rfl ?_
        refine pv_imul t_X11_advances_109 ?_
        refine pv_aload_n (i := 0) t_X11_advances_110 rfl rfl ?_
        refine pv_aload_n (i := 0) t_X11_advances_111 rfl rfl ?_
        refine sv_getI ((nI p)) t_X11_advances_112 fl_X11_81 hh_67 rfl rfl ?_
        refine sv_V1 (lt (μ 68) n p) ((zhs μ 67 ((upd (upd (upd g 3 ((nI p))) 5 ((nI q))) 6 v)))) t_X11_advances_115 ml_X11_84 mo_X11_letterAt hh_67 rfl (Nat.le_of_ble_eq_true rfl) (e_lt h2 hn250 (by omega)) (Nat.le_of_ble_eq_true rfl) rfl rfl ?_
        refine pv_iadd t_X11_advances_118 ?_
        refine pv_bipush (v := 48) t_X11_advances_119 zb_48 ?_
        refine pv_isub t_X11_advances_121 ?_
        refine pv_goto t_X11_advances_122 ?_
        refine sv_putI ((zhs μ 67 ((upd (upd (upd g 3 ((nI p))) 5 ((nI q))) 6 (((10 * v) + (lt (μ 68) n p)) - 48))))) t_X11_advances_129 fl_X11_94 zfn_10_6 hh_67 rfl (by rw [zhs_hs] <;> (first | rfl | (congr 1; funext k_; simp only [upd, zhs_s]; ((repeat' split) <;> first | rfl | omega | (subst_vars; contradiction) | (simp_all; done))))) ?_
        refine pv_aload_n (i := 0) t_X11_advances_132 rfl rfl ?_
        refine pv_dup t_X11_advances_133 ?_
        refine sv_getI ((nI p)) t_X11_advances_134 fl_X11_81 hh_67 rfl rfl ?_
        refine pv_iconst (v := 1) t_X11_advances_137 zi_1 ?_
        refine pv_iadd t_X11_advances_138 ?_
        refine sv_putI ((zhs μ 67 ((upd (upd (upd g 5 ((nI q))) 6 (((10 * v) + (lt (μ 68) n p)) - 48)) 3 (((nI p)) + 1))))) t_X11_advances_139 fl_X11_81 zfn_10_3 hh_67 rfl (by rw [zhs_hs] <;> (first | rfl | (congr 1; funext k_; simp only [upd, zhs_s]; ((repeat' split) <;> first | rfl | omega | (subst_vars; contradiction) | (simp_all; done))))) ?_
        refine pv_goto t_X11_advances_142 ?_
        have hq := Classical.not_not.mp (fun z => c86 (in_dg.mpr z))
        have hpn := hq.1
        have hlt : lt (μ 68) n p = (μ 68) p := if_pos hq.1
        refine pv_loc (lv' := [(0, .inr 67), (1, _)]) ⟨rfl, rfl, trivial⟩ ?_
        refine zst (S2 := (zSH, zhs μ 67 (upd (upd (upd g 3 (nI p + 1)) 5 (nI q)) 6 (((10 * v) + (lt (μ 68) n p)) - 48)))) (congrArg (fun f => ((zSH, zhs μ 67 f) : zS)) (by first | rfl | (funext k_; simp only [upd]; done) | (funext k_; simp only [upd]; ((repeat' split) <;> first | rfl | omega | (simp_all; done))))) ?_
        rw [nI_1]
        rw [show n - p = (n - (p + 1)) + 1 by omega, dgF, if_pos hq] at hk
        rw [nI_s _ _ hqp] at c100
        have z2 : p - q < 3 := Nat.lt_of_not_le (fun z => c100 ((nI_leI (a := 3) (by omega) (by omega)).mpr z))
        rw [if_pos z2] at hk
        rw [hlt, Int32.mul_comm 10 v]
        exact ih (p + 1) _ (by omega) (by omega) (by omega) hk
def w_X11_advances_67 (f67 : Nat → Int32) (f68 : Nat → Int32) (n : Nat) : Nat → Int32 := (if 0 ≤ (lt f68 n ((sk f68 n (f67 3).toNatClampNeg))) then (if (a_X11_in (lt f68 n ((sk f68 n (f67 3).toNatClampNeg))) 48 57) = 0 then (upd (upd (upd (upd f67 5 ((nI (sk f68 n (f67 3).toNatClampNeg)))) 3 (((nI (sk f68 n (f67 3).toNatClampNeg))) + 1)) 6 (lt f68 n ((sk f68 n (f67 3).toNatClampNeg)))) 4 (if (lt f68 n ((sk f68 n (f67 3).toNatClampNeg))) = 59 then (2 : Int32) else (if (lt f68 n ((sk f68 n (f67 3).toNatClampNeg))) = 100 then (3 : Int32) else (if (lt f68 n ((sk f68 n (f67 3).toNatClampNeg))) = 99 then (3 : Int32) else (if (lt f68 n ((sk f68 n (f67 3).toNatClampNeg))) = 101 then (3 : Int32) else (4 : Int32) : Int32) : Int32) : Int32))) else (upd (upd (upd (upd (upd f67 3 ((nI (dg f68 n (sk f68 n (f67 3).toNatClampNeg)).1))) 5 ((nI (sk f68 n (f67 3).toNatClampNeg)))) 6 ((dg f68 n (sk f68 n (f67 3).toNatClampNeg)).2)) 7 (((nI (dg f68 n (sk f68 n (f67 3).toNatClampNeg)).1)) - ((nI (sk f68 n (f67 3).toNatClampNeg))))) 4 1)) else (upd (upd (upd f67 3 ((nI (sk f68 n (f67 3).toNatClampNeg)))) 5 ((nI (sk f68 n (f67 3).toNatClampNeg)))) 4 0))
theorem e_X11_advances {l : Launch} {X : zX} {d : Nat} {μ : zH} {n : Nat} (hP : PI n (μ 67)) (hn250 : n ≤ 250) : zRn l X mi_X11_advances (d + 3) [.inr 67] (zSH, μ) none (zSH, (zhs μ 67 (w_X11_advances_67 (μ 67) (μ 68) n))) := by
  have hp9 := hP.2.1
  have h2 := hP.1
  have hsk := sk_le (L := (μ 68)) (n := n) (p := ((μ 67) 3).toNatClampNeg)
  have hdg := dgF_le (L := (μ 68)) (n := n) (q := (sk (μ 68) n ((μ 67) 3).toNatClampNeg)) (n - (sk (μ 68) n ((μ 67) 3).toNatClampNeg)) (sk (μ 68) n ((μ 67) 3).toNatClampNeg) 0
  have hdg1 : (dg (μ 68) n (sk (μ 68) n ((μ 67) 3).toNatClampNeg)).1 ≤ n := hdg.2 (by omega)
  have hdg2 : (sk (μ 68) n ((μ 67) 3).toNatClampNeg) ≤ (dg (μ 68) n (sk (μ 68) n ((μ 67) 3).toNatClampNeg)).1 := hdg.1
  refine pv_loc (lv' := [(0, .inr 67)]) ⟨rfl, trivial⟩ ?_
  refine zst (S2 := (zSH, zhs μ 67 (upd (μ 67) 3 (nI ((μ 67) 3).toNatClampNeg)))) (by rw [← hP.2.2, upd_id, zhs_id]) ?_
  refine lp1_adv hP.1 hn250 (n + 1) _ (by omega) (by omega) ?_
  refine pv_aload_n (i := 0) t_X11_advances_26 rfl rfl ?_
  refine pv_aload_n (i := 0) t_X11_advances_27 rfl rfl ?_
  refine sv_getI ((nI (sk (μ 68) n ((μ 67) 3).toNatClampNeg))) t_X11_advances_28 fl_X11_81 hh_67 rfl rfl ?_
  refine sv_putI ((zhs μ 67 ((upd (upd (μ 67) 3 ((nI (sk (μ 68) n ((μ 67) 3).toNatClampNeg)))) 5 ((nI (sk (μ 68) n ((μ 67) 3).toNatClampNeg))))))) t_X11_advances_31 fl_X11_88 zfn_10_5 hh_67 rfl (by rw [zhs_hs] <;> (first | rfl | (congr 1; funext k_; simp only [upd, zhs_s]; ((repeat' split) <;> first | rfl | omega | (subst_vars; contradiction) | (simp_all; done))))) ?_
  refine pv_aload_n (i := 0) t_X11_advances_34 rfl rfl ?_
  refine pv_aload_n (i := 0) t_X11_advances_35 rfl rfl ?_
  refine sv_getI ((nI (sk (μ 68) n ((μ 67) 3).toNatClampNeg))) t_X11_advances_36 fl_X11_81 hh_67 rfl rfl ?_
  refine sv_V1 (lt (μ 68) n ((sk (μ 68) n ((μ 67) 3).toNatClampNeg))) ((zhs μ 67 ((upd (upd (μ 67) 3 ((nI (sk (μ 68) n ((μ 67) 3).toNatClampNeg)))) 5 ((nI (sk (μ 68) n ((μ 67) 3).toNatClampNeg))))))) t_X11_advances_39 ml_X11_84 mo_X11_letterAt hh_67 rfl (Nat.le_of_ble_eq_true rfl) (e_lt h2 hn250 (by omega)) (Nat.le_of_ble_eq_true rfl) rfl rfl ?_
  refine pv_istore_n (i := 1) t_X11_advances_42 rfl (Nat.le_of_ble_eq_true rfl) ?_
  refine pv_iload_n (i := 1) t_X11_advances_43 rfl rfl ?_
  refine pv_if_ge t_X11_advances_44 (fun c44 => ?_) (fun c44 => ?_)
  · skip
    refine pv_iload_n (i := 1) t_X11_advances_55 rfl rfl ?_
    refine pv_bipush (v := 48) t_X11_advances_56 zb_48 ?_
    refine pv_bipush (v := 57) t_X11_advances_58 zb_57 ?_
    refine sv_S3 (a_X11_in (lt (μ 68) n ((sk (μ 68) n ((μ 67) 3).toNatClampNeg))) 48 57) ((zhs μ 67 ((upd (upd (μ 67) 3 ((nI (sk (μ 68) n ((μ 67) 3).toNatClampNeg)))) 5 ((nI (sk (μ 68) n ((μ 67) 3).toNatClampNeg))))))) t_X11_advances_60 ml_X11_72 mo_X11_in (Nat.le_of_ble_eq_true rfl) (e_X11_in) (Nat.le_of_ble_eq_true rfl) rfl rfl ?_
    refine pv_if_eq t_X11_advances_63 (fun c63 => ?_) (fun c63 => ?_)
    · skip
      refine pv_aload_n (i := 0) t_X11_advances_166 rfl rfl ?_
      refine pv_dup t_X11_advances_167 ?_
      refine sv_getI ((nI (sk (μ 68) n ((μ 67) 3).toNatClampNeg))) t_X11_advances_168 fl_X11_81 hh_67 rfl rfl ?_
      refine pv_iconst (v := 1) t_X11_advances_171 zi_1 ?_
      refine pv_iadd t_X11_advances_172 ?_
      refine sv_putI ((zhs μ 67 ((upd (upd (μ 67) 5 ((nI (sk (μ 68) n ((μ 67) 3).toNatClampNeg)))) 3 (((nI (sk (μ 68) n ((μ 67) 3).toNatClampNeg))) + 1))))) t_X11_advances_173 fl_X11_81 zfn_10_3 hh_67 rfl (by rw [zhs_hs] <;> (first | rfl | (congr 1; funext k_; simp only [upd, zhs_s]; ((repeat' split) <;> first | rfl | omega | (subst_vars; contradiction) | (simp_all; done))))) ?_
      refine pv_aload_n (i := 0) t_X11_advances_176 rfl rfl ?_
      refine pv_iload_n (i := 1) t_X11_advances_177 rfl rfl ?_
      refine sv_putI ((zhs μ 67 ((upd (upd (upd (μ 67) 5 ((nI (sk (μ 68) n ((μ 67) 3).toNatClampNeg)))) 3 (((nI (sk (μ 68) n ((μ 67) 3).toNatClampNeg))) + 1)) 6 (lt (μ 68) n ((sk (μ 68) n ((μ 67) 3).toNatClampNeg))))))) t_X11_advances_178 fl_X11_94 zfn_10_6 hh_67 rfl (by rw [zhs_hs] <;> (first | rfl | (congr 1; funext k_; simp only [upd, zhs_s]; ((repeat' split) <;> first | rfl | omega | (subst_vars; contradiction) | (simp_all; done))))) ?_
      refine pv_aload_n (i := 0) t_X11_advances_181 rfl rfl ?_
      refine pv_iload_n (i := 1) t_X11_advances_182 rfl rfl ?_
      refine pv_bipush (v := 59) t_X11_advances_183 zb_59 ?_
      refine sv_phi (c := (lt (μ 68) n ((sk (μ 68) n ((μ 67) 3).toNatClampNeg))) = 59) (A := 2) (B := if (lt (μ 68) n ((sk (μ 68) n ((μ 67) 3).toNatClampNeg))) = 100 then (3 : Int32) else (if (lt (μ 68) n ((sk (μ 68) n ((μ 67) 3).toNatClampNeg))) = 99 then (3 : Int32) else (if (lt (μ 68) n ((sk (μ 68) n ((μ 67) 3).toNatClampNeg))) = 101 then (3 : Int32) else (4 : Int32) : Int32) : Int32)) (J := 215) (lv := [(0, .inr 67), (1, .inl (lt (μ 68) n ((sk (μ 68) n ((μ 67) 3).toNatClampNeg))))]) (st := [.inr 67]) (S := (zSH, (zhs μ 67 ((upd (upd (upd (μ 67) 5 ((nI (sk (μ 68) n ((μ 67) 3).toNatClampNeg)))) 3 (((nI (sk (μ 68) n ((μ 67) 3).toNatClampNeg))) + 1)) 6 (lt (μ 68) n ((sk (μ 68) n ((μ 67) 3).toNatClampNeg)))))))) (fun kT kF => ?_) ?_
      · skip
        refine pv_icmp_ne t_X11_advances_185 (fun c185 => ?_) (fun c185 => ?_)
        · skip
          refine pv_iload_n (i := 1) t_X11_advances_192 rfl rfl ?_
          refine pv_bipush (v := 100) t_X11_advances_193 zb_100 ?_
          refine sv_phi (c := (lt (μ 68) n ((sk (μ 68) n ((μ 67) 3).toNatClampNeg))) = 100) (A := 3) (B := if (lt (μ 68) n ((sk (μ 68) n ((μ 67) 3).toNatClampNeg))) = 99 then (3 : Int32) else (if (lt (μ 68) n ((sk (μ 68) n ((μ 67) 3).toNatClampNeg))) = 101 then (3 : Int32) else (4 : Int32) : Int32)) (J := 215) (lv := [(0, .inr 67), (1, .inl (lt (μ 68) n ((sk (μ 68) n ((μ 67) 3).toNatClampNeg))))]) (st := [.inr 67]) (S := (zSH, (zhs μ 67 ((upd (upd (upd (μ 67) 5 ((nI (sk (μ 68) n ((μ 67) 3).toNatClampNeg)))) 3 (((nI (sk (μ 68) n ((μ 67) 3).toNatClampNeg))) + 1)) 6 (lt (μ 68) n ((sk (μ 68) n ((μ 67) 3).toNatClampNeg)))))))) (fun kT kF => ?_) ?_
          · skip
            refine pv_icmp_eq t_X11_advances_195 (fun c195 => ?_) (fun c195 => ?_)
            · skip
              refine pv_iconst (v := 3) t_X11_advances_210 zi_3 ?_
              refine pv_goto t_X11_advances_211 ?_
              exact kT c195
            · skip
              refine pv_iload_n (i := 1) t_X11_advances_198 rfl rfl ?_
              refine pv_bipush (v := 99) t_X11_advances_199 zb_99 ?_
              refine sv_phi (c := (lt (μ 68) n ((sk (μ 68) n ((μ 67) 3).toNatClampNeg))) = 99) (A := 3) (B := if (lt (μ 68) n ((sk (μ 68) n ((μ 67) 3).toNatClampNeg))) = 101 then (3 : Int32) else (4 : Int32)) (J := 215) (lv := [(0, .inr 67), (1, .inl (lt (μ 68) n ((sk (μ 68) n ((μ 67) 3).toNatClampNeg))))]) (st := [.inr 67]) (S := (zSH, (zhs μ 67 ((upd (upd (upd (μ 67) 5 ((nI (sk (μ 68) n ((μ 67) 3).toNatClampNeg)))) 3 (((nI (sk (μ 68) n ((μ 67) 3).toNatClampNeg))) + 1)) 6 (lt (μ 68) n ((sk (μ 68) n ((μ 67) 3).toNatClampNeg)))))))) (fun kT kF => ?_) ?_
              · skip
                refine pv_icmp_eq t_X11_advances_201 (fun c201 => ?_) (fun c201 => ?_)
                · skip
                  refine pv_iconst (v := 3) t_X11_advances_210 zi_3 ?_
                  refine pv_goto t_X11_advances_211 ?_
                  exact kT c201
                · skip
                  refine pv_iload_n (i := 1) t_X11_advances_204 rfl rfl ?_
                  refine pv_bipush (v := 101) t_X11_advances_205 zb_101 ?_
                  refine sv_phi (c := (lt (μ 68) n ((sk (μ 68) n ((μ 67) 3).toNatClampNeg))) = 101) (A := 3) (B := 4) (J := 215) (lv := [(0, .inr 67), (1, .inl (lt (μ 68) n ((sk (μ 68) n ((μ 67) 3).toNatClampNeg))))]) (st := [.inr 67]) (S := (zSH, (zhs μ 67 ((upd (upd (upd (μ 67) 5 ((nI (sk (μ 68) n ((μ 67) 3).toNatClampNeg)))) 3 (((nI (sk (μ 68) n ((μ 67) 3).toNatClampNeg))) + 1)) 6 (lt (μ 68) n ((sk (μ 68) n ((μ 67) 3).toNatClampNeg)))))))) (fun kT kF => ?_) ?_
                  · skip
                    refine pv_icmp_ne t_X11_advances_207 (fun c207 => ?_) (fun c207 => ?_)
                    · skip
                      refine pv_iconst (v := 4) t_X11_advances_214 zi_4 ?_
                      exact kF c207
                    · skip
                      refine pv_iconst (v := 3) t_X11_advances_210 zi_3 ?_
                      refine pv_goto t_X11_advances_211 ?_
                      exact kT c207
                  exact kF c201
              exact kF c195
          exact kF c185
        · skip
          refine pv_iconst (v := 2) t_X11_advances_188 zi_2 ?_
          refine pv_goto t_X11_advances_189 ?_
          exact kT c185
      refine sv_putI ((zhs μ 67 ((upd (upd (upd (upd (μ 67) 5 ((nI (sk (μ 68) n ((μ 67) 3).toNatClampNeg)))) 3 (((nI (sk (μ 68) n ((μ 67) 3).toNatClampNeg))) + 1)) 6 (lt (μ 68) n ((sk (μ 68) n ((μ 67) 3).toNatClampNeg)))) 4 (if (lt (μ 68) n ((sk (μ 68) n ((μ 67) 3).toNatClampNeg))) = 59 then (2 : Int32) else (if (lt (μ 68) n ((sk (μ 68) n ((μ 67) 3).toNatClampNeg))) = 100 then (3 : Int32) else (if (lt (μ 68) n ((sk (μ 68) n ((μ 67) 3).toNatClampNeg))) = 99 then (3 : Int32) else (if (lt (μ 68) n ((sk (μ 68) n ((μ 67) 3).toNatClampNeg))) = 101 then (3 : Int32) else (4 : Int32) : Int32) : Int32) : Int32)))))) t_X11_advances_215 fl_X11_91 zfn_10_4 hh_67 rfl (by rw [zhs_hs] <;> (first | rfl | (congr 1; funext k_; simp only [upd, zhs_s]; ((repeat' split) <;> first | rfl | omega | (subst_vars; contradiction) | (simp_all; done))))) ?_
      exact pv_vret t_X11_advances_218 rfl (Prod.ext rfl (by have e67 : w_X11_advances_67 (μ 67) (μ 68) n = (upd (upd (upd (upd (μ 67) 5 ((nI (sk (μ 68) n ((μ 67) 3).toNatClampNeg)))) 3 (((nI (sk (μ 68) n ((μ 67) 3).toNatClampNeg))) + 1)) 6 (lt (μ 68) n ((sk (μ 68) n ((μ 67) 3).toNatClampNeg)))) 4 (if (lt (μ 68) n ((sk (μ 68) n ((μ 67) 3).toNatClampNeg))) = 59 then (2 : Int32) else (if (lt (μ 68) n ((sk (μ 68) n ((μ 67) 3).toNatClampNeg))) = 100 then (3 : Int32) else (if (lt (μ 68) n ((sk (μ 68) n ((μ 67) 3).toNatClampNeg))) = 99 then (3 : Int32) else (if (lt (μ 68) n ((sk (μ 68) n ((μ 67) 3).toNatClampNeg))) = 101 then (3 : Int32) else (4 : Int32) : Int32) : Int32) : Int32))) := (by unfold w_X11_advances_67; rw [if_pos c44, if_pos c63]); show _ = (zhs μ 67 (w_X11_advances_67 (μ 67) (μ 68) n)); symm; rw [e67]))
    · skip
      refine pv_aload_n (i := 0) t_X11_advances_66 rfl rfl ?_
      refine pv_iconst (v := 0) t_X11_advances_67 zi_0 ?_
      refine sv_putI ((zhs μ 67 ((upd (upd (upd (μ 67) 3 ((nI (sk (μ 68) n ((μ 67) 3).toNatClampNeg)))) 5 ((nI (sk (μ 68) n ((μ 67) 3).toNatClampNeg)))) 6 0)))) t_X11_advances_68 fl_X11_94 zfn_10_6 hh_67 rfl (by rw [zhs_hs] <;> (first | rfl | (congr 1; funext k_; simp only [upd, zhs_s]; ((repeat' split) <;> first | rfl | omega | (subst_vars; contradiction) | (simp_all; done))))) ?_
      refine pv_loc (lv' := [(0, .inr 67), (1, .inl (lt (μ 68) n ((sk (μ 68) n ((μ 67) 3).toNatClampNeg))))]) ⟨rfl, rfl, trivial⟩ ?_
      refine zst (S2 := (zSH, (zhs μ 67 ((upd (upd (upd (μ 67) 3 ((nI (sk (μ 68) n ((μ 67) 3).toNatClampNeg)))) 5 ((nI (sk (μ 68) n ((μ 67) 3).toNatClampNeg)))) 6 0))))) (congrArg (fun f => ((zSH, zhs μ 67 f) : zS)) (by first | rfl | (funext k_; simp only [upd]; done) | (funext k_; simp only [upd]; ((repeat' split) <;> first | rfl | omega | (simp_all; done))))) ?_
      refine lp2_adv hP.1 hn250 (n + 1) (sk (μ 68) n ((μ 67) 3).toNatClampNeg) 0 (by omega) (by omega) (Nat.le_refl _) ?_
      rw [show dgF (μ 68) n (sk (μ 68) n ((μ 67) 3).toNatClampNeg) (n - (sk (μ 68) n ((μ 67) 3).toNatClampNeg)) (sk (μ 68) n ((μ 67) 3).toNatClampNeg) 0 = (dg (μ 68) n (sk (μ 68) n ((μ 67) 3).toNatClampNeg)) from rfl]
      refine pv_aload_n (i := 0) t_X11_advances_145 rfl rfl ?_
      refine pv_aload_n (i := 0) t_X11_advances_146 rfl rfl ?_
      refine sv_getI ((nI (dg (μ 68) n (sk (μ 68) n ((μ 67) 3).toNatClampNeg)).1)) t_X11_advances_147 fl_X11_81 hh_67 rfl rfl ?_
      refine pv_aload_n (i := 0) t_X11_advances_150 rfl rfl ?_
      refine sv_getI ((nI (sk (μ 68) n ((μ 67) 3).toNatClampNeg))) t_X11_advances_151 fl_X11_88 hh_67 rfl rfl ?_
      refine pv_isub t_X11_advances_154 ?_
      refine sv_putI ((zhs μ 67 ((upd (upd (upd (upd (μ 67) 3 ((nI (dg (μ 68) n (sk (μ 68) n ((μ 67) 3).toNatClampNeg)).1))) 5 ((nI (sk (μ 68) n ((μ 67) 3).toNatClampNeg)))) 6 ((dg (μ 68) n (sk (μ 68) n ((μ 67) 3).toNatClampNeg)).2)) 7 (((nI (dg (μ 68) n (sk (μ 68) n ((μ 67) 3).toNatClampNeg)).1)) - ((nI (sk (μ 68) n ((μ 67) 3).toNatClampNeg)))))))) t_X11_advances_155 fl_X11_97 zfn_10_7 hh_67 rfl (by rw [zhs_hs] <;> (first | rfl | (congr 1; funext k_; simp only [upd, zhs_s]; ((repeat' split) <;> first | rfl | omega | (subst_vars; contradiction) | (simp_all; done))))) ?_
      refine pv_aload_n (i := 0) t_X11_advances_158 rfl rfl ?_
      refine pv_iconst (v := 1) t_X11_advances_159 zi_1 ?_
      refine sv_putI ((zhs μ 67 ((upd (upd (upd (upd (upd (μ 67) 3 ((nI (dg (μ 68) n (sk (μ 68) n ((μ 67) 3).toNatClampNeg)).1))) 5 ((nI (sk (μ 68) n ((μ 67) 3).toNatClampNeg)))) 6 ((dg (μ 68) n (sk (μ 68) n ((μ 67) 3).toNatClampNeg)).2)) 7 (((nI (dg (μ 68) n (sk (μ 68) n ((μ 67) 3).toNatClampNeg)).1)) - ((nI (sk (μ 68) n ((μ 67) 3).toNatClampNeg))))) 4 1)))) t_X11_advances_160 fl_X11_91 zfn_10_4 hh_67 rfl (by rw [zhs_hs] <;> (first | rfl | (congr 1; funext k_; simp only [upd, zhs_s]; ((repeat' split) <;> first | rfl | omega | (subst_vars; contradiction) | (simp_all; done))))) ?_
      refine pv_goto t_X11_advances_163 ?_
      exact pv_vret t_X11_advances_218 rfl (Prod.ext rfl (by have e67 : w_X11_advances_67 (μ 67) (μ 68) n = (upd (upd (upd (upd (upd (μ 67) 3 ((nI (dg (μ 68) n (sk (μ 68) n ((μ 67) 3).toNatClampNeg)).1))) 5 ((nI (sk (μ 68) n ((μ 67) 3).toNatClampNeg)))) 6 ((dg (μ 68) n (sk (μ 68) n ((μ 67) 3).toNatClampNeg)).2)) 7 (((nI (dg (μ 68) n (sk (μ 68) n ((μ 67) 3).toNatClampNeg)).1)) - ((nI (sk (μ 68) n ((μ 67) 3).toNatClampNeg))))) 4 1) := (by unfold w_X11_advances_67; rw [if_pos c44, if_neg c63]); show _ = (zhs μ 67 (w_X11_advances_67 (μ 67) (μ 68) n)); symm; rw [e67]))
  · skip
    refine pv_aload_n (i := 0) t_X11_advances_47 rfl rfl ?_
    refine pv_iconst (v := 0) t_X11_advances_48 zi_0 ?_
    refine sv_putI ((zhs μ 67 ((upd (upd (upd (μ 67) 3 ((nI (sk (μ 68) n ((μ 67) 3).toNatClampNeg)))) 5 ((nI (sk (μ 68) n ((μ 67) 3).toNatClampNeg)))) 4 0)))) t_X11_advances_49 fl_X11_91 zfn_10_4 hh_67 rfl (by rw [zhs_hs] <;> (first | rfl | (congr 1; funext k_; simp only [upd, zhs_s]; ((repeat' split) <;> first | rfl | omega | (subst_vars; contradiction) | (simp_all; done))))) ?_
    refine pv_goto t_X11_advances_52 ?_
    exact pv_vret t_X11_advances_218 rfl (Prod.ext rfl (by have e67 : w_X11_advances_67 (μ 67) (μ 68) n = (upd (upd (upd (μ 67) 3 ((nI (sk (μ 68) n ((μ 67) 3).toNatClampNeg)))) 5 ((nI (sk (μ 68) n ((μ 67) 3).toNatClampNeg)))) 4 0) := (by unfold w_X11_advances_67; rw [if_neg c44]); show _ = (zhs μ 67 (w_X11_advances_67 (μ 67) (μ 68) n)); symm; rw [e67]))
theorem adv_n {g L : Nat → Int32} {n : Nat} (hP : PI n g) (hn250 : n ≤ 250) : (∃ q, q ≤ n ∧ (g 3).toNatClampNeg ≤ q ∧ w_X11_advances_67 g L n 3 = nI q) ∧ w_X11_advances_67 g L n 2 = g 2 := by
  have hp9 := hP.2.1
  have hsk := sk_le (L := L) (n := n) (p := (g 3).toNatClampNeg)
  have hsk2 := sk_ge (L := L) (n := n) (p := (g 3).toNatClampNeg)
  have hdg := dgF_le (L := L) (n := n) (q := sk L n (g 3).toNatClampNeg) (n - sk L n (g 3).toNatClampNeg) (sk L n (g 3).toNatClampNeg) 0
  have hdg1 : (dg L n (sk L n (g 3).toNatClampNeg)).1 ≤ n := hdg.2 (by omega)
  have hdg2 : sk L n (g 3).toNatClampNeg ≤ (dg L n (sk L n (g 3).toNatClampNeg)).1 := hdg.1
  unfold w_X11_advances_67
  by_cases h1 : 0 ≤ lt L n (sk L n (g 3).toNatClampNeg)
  · rw [if_pos h1]
    by_cases h2 : a_X11_in (lt L n (sk L n (g 3).toNatClampNeg)) 48 57 = 0
    · rw [if_pos h2]
      refine ⟨⟨sk L n (g 3).toNatClampNeg + 1, ?_, by omega, ?_⟩, rfl⟩
      · have h3 : sk L n (g 3).toNatClampNeg < n := by
          refine Nat.lt_of_not_le (fun q => ?_)
          unfold lt at h1
          rw [if_neg (by omega)] at h1
          exact absurd h1 (by decide)
        omega
      · exact nI_1 _
    · rw [if_neg h2]
      exact ⟨⟨_, hdg1, by omega, rfl⟩, rfl⟩
  · rw [if_neg h1]
    exact ⟨⟨_, by omega, hsk2, rfl⟩, rfl⟩
theorem nb_I {k n : Nat} (h : k < n) (hn : n < 1000) : nb (nI k) n := nb_i h hn
theorem PI.adv {n : Nat} {g L : Nat → Int32} (hP : PI n g) (hn250 : n ≤ 250) : PI n (w_X11_advances_67 g L n) := by
  obtain ⟨⟨q, h1, h2, h3⟩, h4⟩ := adv_n (L := L) hP hn250
  refine ⟨h4.trans hP.1, ?_⟩
  rw [h3]
  exact nb_I (by omega) (by omega)
