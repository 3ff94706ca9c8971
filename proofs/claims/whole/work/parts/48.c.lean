def clD_F (f68 : Nat → Int32) (a0 : Nat) (n : Nat) (i : Nat) (g : Nat → Int32) (W : Nat → Int32) : (Nat → Int32) × (Nat → Int32) := ((w_X11_number_67 g f68 0 9 0 n), ((upd W (((a0 + 2) + i)) (a_X11_number g 0 9 0))))
def clD (f68 : Nat → Int32) (a0 : Nat) (n : Nat) (z0 : (Nat → Int32) × (Nat → Int32)) : Nat → (Nat → Int32) × (Nat → Int32) := zfold (fun i s => clD_F f68 a0 n i s.1 s.2) z0
theorem clD_Q {f68 : Nat → Int32} {a0 : Nat} {n : Nat} {z0 : (Nat → Int32) × (Nat → Int32)} {Q : (Nat → Int32) → Prop} (hQ : ∀ g lo hi ag, Q g → Q (w_X11_number_67 g f68 lo hi ag n)) (hz : Q z0.1) : ∀ i, Q (clD f68 a0 n z0 i).1 := by
  intro i
  induction i with
  | zero => exact hz
  | succ i ih => exact hQ _ _ _ _ ih
theorem lp_clD {l : Launch} {X : zX} {d : Nat} {μ : zH} {word : Int32} {a0 : Nat} {n : Nat} {z0 : (Nat → Int32) × (Nat → Int32)} (hn250 : n ≤ 250) (ha : a0 < 43) (hz0 : PI n z0.1) {r : Option zV} {S' : zS} (hk : zEv l X mi_X11_clause (d + 7) 79 [(0, .inr 67), (1, .inl word), (2, .inl ((nI a0))), (3, .inl (nI 4))] [] (zSH, (zhs (zhs μ 67 ((clD (μ 68) a0 n z0 4).1)) 69 ((clD (μ 68) a0 n z0 4).2))) 0 0 r S') : ∀ j i : Nat, i + j = 4 + 1 → i ≤ 4 → ∀ (y : Int32) (g : Nat → Int32) (W : Nat → Int32), y = nI i → (g, W) = (clD (μ 68) a0 n z0 i) → zEv l X mi_X11_clause (d + 7) 50 [(0, .inr 67), (1, .inl word), (2, .inl ((nI a0))), (3, .inl y)] [] (zSH, (zhs (zhs μ 67 g) 69 W)) 0 0 r S' := by
  intro j
  induction j with
  | zero => intros; omega
  | succ j ih =>
    intro i hij hle y g W hy hs
    subst hy
    have hP : PI n g := by
      have h9 := clD_Q (f68 := (μ 68)) (a0 := a0) (Q := PI n) (fun g lo hi ag h => PI.number h hn250) hz0 i
      rw [← hs] at h9
      exact h9
    refine pv_iload_n (i := 3) t_X11_clause_50 rfl rfl ?_
    refine pv_iconst (v := 4) t_X11_clause_51 zi_4 ?_
    refine pv_icmp_ge t_X11_clause_52 (fun c52 => ?_) (fun c52 => ?_)
    · skip
      have hie : i = 4 := by have := (nI_leI (a := 4) (by omega) (by omega)).mp c52; omega
      subst hie
      rw [← hs] at hk
      exact hk
    · skip
      have hin : i < 4 := Nat.lt_of_not_le (fun q => c52 (nI_le (a := 4) q (by omega)))
      refine pv_aload_n (i := 0) t_X11_clause_55 rfl rfl ?_
      refine pv_getR t_X11_clause_56 fl_X11_17 hh_67 rfl ?_
      refine pv_iload_n (i := 2) t_X11_clause_59 rfl rfl ?_
      refine pv_iconst (v := 2) t_X11_clause_60 zi_2 ?_
      refine pv_iadd t_X11_clause_61 ?_
      refine pv_iload_n (i := 3) t_X11_clause_62 rfl rfl ?_
      refine pv_iadd t_X11_clause_63 ?_
      refine pv_aload_n (i := 0) t_X11_clause_64 rfl rfl ?_
      refine pv_iconst (v := 0) t_X11_clause_65 zi_0 ?_
      refine pv_bipush (v := 9) t_X11_clause_66 zb_9 ?_
      refine pv_iconst (v := 0) t_X11_clause_68 zi_0 ?_
      refine sv_V3 (a_X11_number g 0 9 0) ((zhs (zhs μ 69 W) 67 (w_X11_number_67 g (μ 68) 0 9 0 n))) t_X11_clause_69 ml_X11_117 mo_X11_number hh_67 rfl (Nat.le_of_ble_eq_true rfl) (e_X11_number (by repeat (first | exact hP | refine PI.fails ?_ | refine PI.number ?_ hn250 | refine PI.adv ?_ hn250 | refine PI.u ?_ (by decide))) hn250) (Nat.le_of_ble_eq_true rfl) rfl (by (try simp (disch := decide) only [zhs_d, zhs_s]); rw [zhs_cm (μ := μ) (a := 67) (b := 69) (by decide), zhs_hs] <;> (first | rfl | (congr 1; funext k_; simp only [upd, zhs_s]; ((repeat' split) <;> first | rfl | omega | (subst_vars; contradiction) | (simp_all; done))))) ?_
      refine sv_iast ((zhs (zhs μ 67 (w_X11_number_67 g (μ 68) 0 9 0 n)) 69 ((upd W (((a0 + 2) + i)) (a_X11_number g 0 9 0))))) t_X11_clause_72 hh_69 (ixi (k := ((a0 + 2) + i)) (nIa (nIa rfl rfl) rfl) (by omega) (by decide)) (by rw [ixc (x := (((nI a0)) + 2) + ((nI i))) (k := ((a0 + 2) + i)) (nIa (nIa rfl rfl) rfl) (by omega), zhs_cm (μ := μ) (a := 69) (b := 67) (by decide), zhs_hs] <;> (first | rfl | (congr 1; funext k_; simp only [upd, zhs_s]; ((repeat' split) <;> first | rfl | omega | (subst_vars; contradiction) | (simp_all; done))))) ?_
      refine pv_iinc (v := 1) t_X11_clause_73 rfl zi_1 ?_
      refine pv_goto t_X11_clause_76 ?_
      refine pv_loc (lv' := [(0, _), (1, _), (2, _), (3, _)]) ⟨rfl, rfl, rfl, rfl, trivial⟩ ?_
      refine ih (i + 1) (by omega) (by omega) _ _ _ (nI_1 i) ?_
      have hs9 : (clD (μ 68) a0 n z0 (i + 1)) = clD_F (μ 68) a0 n i ((clD (μ 68) a0 n z0 i).1) ((clD (μ 68) a0 n z0 i).2) := rfl
      rw [hs9, ← hs]
      show _ = clD_F (μ 68) a0 n i g W
      unfold clD_F
      rfl
theorem clD_12 {f68 : Nat → Int32} {a0 n : Nat} {z0 : (Nat → Int32) × (Nat → Int32)} {k : Nat} (hk : 9 < k ∨ k = 2) (i : Nat) : (clD f68 a0 n z0 i).1 k = z0.1 k := clD_Q (Q := fun g => g k = z0.1 k) (fun g lo hi ag h => (nm_o hk).trans h) rfl i
