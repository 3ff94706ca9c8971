def scI (me lo : Nat → Int32) (g : Int32) (k : Nat) : Nat → Nat → (Nat → Int32) → Nat → Int32
  | 0, _, s => s
  | j + 1, i, s => if nI i < g ∧ nI i < rA me 6 (nI k) then scI me lo g k j (i + 1) (lAd (lAd s (lw k) (rA lo 12 (nI k * 2 + nI i))) (hg k) (2 - rA lo 12 (nI k * 2 + nI i))) else s
def scK (me lo : Nat → Int32) (g : Nat) (s : Nat → Int32) : Nat → (Nat → Int32) := zfold (fun k s => scI me lo (nI g) k (g + 1) 0 s) s
theorem scK_s (me lo : Nat → Int32) (g : Nat) (s : Nat → Int32) (k : Nat) : scK me lo g s (k + 1) = scI me lo (nI g) k (g + 1) 0 (scK me lo g s k) := rfl
theorem lAd_hs (μ : zH) (su : Nat) (s : Nat → Int32) (p v : Int32) : zhs (zhs μ su s) su (rP (zhs μ su s su) 4 p (rA (zhs μ su s su) 4 p + v)) = zhs μ su (lAd s p v) := by rw [zhs_hs, zhs_s]; rfl
theorem zhl {l : Launch} {X : zX} {y : zMI} {d pc : Nat} {lv : List (Nat × zV)} {st : List zV} {S : zS} {mc ms : Nat} {r : Option zV} {S9 : zS} (k : S.1.length ≤ 1000 → zEv l X y d pc lv st S mc ms r S9) : zEv l X y d pc lv st S mc ms r S9 := fun E G D p e R s m args below meth c H locs cells slots Q ls hB hW => k hW.2.1 E G D p e R s m args below meth c H locs cells slots Q ls hB hW
theorem lp_X3_sumI {l : Launch} {X : zX} {d : Nat} {Ψ : List zC} {μ : zH} {g po me lo su op : Nat} (hl : oL Ψ g po me lo su op) {gg : Nat} (hgg : gg < 1000) {k : Nat} (hk : k < 6) (hxs : ∀ (f : Nat → Int32) (j : Nat), j < 7 → zhs μ su f (1000 + j) = zxc X j) {s0 : Nat → Int32} {r : Option zV} {S9 : zS} (K : zEv l X mi_X3_sumCounted (d + 1) 88 [(0, .inr g), (1, .inl (nI gg)), (2, .inl (nI k))] [] (Ψ, zhs μ su (scI (μ me) (μ lo) (nI gg) k (gg + 1) 0 s0)) 0 0 r S9) : ∀ j i : Nat, i + j = gg + 1 → i ≤ gg → ∀ (x : Int32) (s : Nat → Int32), x = nI i → scI (μ me) (μ lo) (nI gg) k (j) i s = scI (μ me) (μ lo) (nI gg) k (gg + 1) 0 s0 → zEv l X mi_X3_sumCounted (d + 1) 17 [(0, .inr g), (1, .inl (nI gg)), (2, .inl (nI k)), (3, .inl x)] [] (Ψ, zhs μ su s) 0 0 r S9 := by
  intro j
  induction j with
  | zero => intro i h h2; omega
  | succ j ih =>
    intro i hij hle x s hx hs 
    subst hx
    have n1 : me ≠ su := zne hl.2.2.1 hl.2.2.2.2.1 (by decide)
    have n2 : lo ≠ su := zne hl.2.2.2.1 hl.2.2.2.2.1 (by decide)
    refine pv_iload_n (i := 3) t_X3_sumCounted_17 rfl rfl ?_
    refine pv_iload_n (i := 1) t_X3_sumCounted_18 rfl rfl ?_
    refine pv_icmp_ge t_X3_sumCounted_19 (fun c19 => ?_) (fun c19 => ?_)
    · skip
      have hq : ¬ (nI i < nI gg ∧ nI i < rA (μ me) 6 (nI k)) := fun z => Int32.not_le.mpr z.1 c19
      refine pv_loc (lv' := [(0, _), (1, _), (2, _)]) ⟨rfl, rfl, rfl, trivial⟩ ?_
      rw [scI, if_neg hq] at hs
      rw [hs]
      exact K
    · skip
      refine pv_iload_n (i := 3) t_X3_sumCounted_22 rfl rfl ?_
      refine pv_aload_n (i := 0) t_X3_sumCounted_23 rfl rfl ?_
      refine pv_getR t_X3_sumCounted_24 fl_X3_15 hl.1 rfl ?_
      refine pv_iload_n (i := 2) t_X3_sumCounted_27 rfl rfl ?_
      refine pv_gS2 t_X3_sumCounted_28 ml_X3_37 mo_X8_at (Nat.le_of_ble_eq_true rfl) (e_X8_at (Or.inl hl.2.2.1) (by decide)) (Nat.le_of_ble_eq_true rfl) ?_
      rw [zhs_n _ _ n1]
      refine pv_icmp_ge t_X3_sumCounted_31 (fun c31 => ?_) (fun c31 => ?_)
      · skip
        have hq : ¬ (nI i < nI gg ∧ nI i < rA (μ me) 6 (nI k)) := fun z => Int32.not_le.mpr z.2 c31
        refine pv_loc (lv' := [(0, _), (1, _), (2, _)]) ⟨rfl, rfl, rfl, trivial⟩ ?_
        rw [scI, if_neg hq] at hs
        rw [hs]
        exact K
      · skip
        refine pv_aload_n (i := 0) t_X3_sumCounted_34 rfl rfl ?_
        refine pv_getR t_X3_sumCounted_35 fl_X3_18 hl.1 rfl ?_
        refine pv_iload_n (i := 2) t_X3_sumCounted_38 rfl rfl ?_
        refine pv_iconst (v := 2) t_X3_sumCounted_39 zi_2 ?_
        refine pv_imul t_X3_sumCounted_40 ?_
        refine pv_iload_n (i := 3) t_X3_sumCounted_41 rfl rfl ?_
        refine pv_iadd t_X3_sumCounted_42 ?_
        refine pv_gS2 t_X3_sumCounted_43 ml_X3_37 mo_X8_at (Nat.le_of_ble_eq_true rfl) (e_X8_at (Or.inl hl.2.2.2.1) (by decide)) (Nat.le_of_ble_eq_true rfl) ?_
        rw [zhs_n _ _ n2]
        refine pv_istore t_X3_sumCounted_46 (Nat.le_of_ble_eq_true rfl) ?_
        refine pv_aload_n (i := 0) t_X3_sumCounted_48 rfl rfl ?_
        refine pv_getR t_X3_sumCounted_49 fl_X3_21 hl.1 rfl ?_
        refine pv_gets t_X3_sumCounted_52 gs_X3_45 (by decide) ?_
        refine pv_iload_n (i := 2) t_X3_sumCounted_55 rfl rfl ?_
        refine pv_gS2 t_X3_sumCounted_56 ml_X3_37 mo_X8_at (Nat.le_of_ble_eq_true rfl) (e_X8_at zr4 (by decide)) (Nat.le_of_ble_eq_true rfl) ?_
        rw [hxs s 4 (by decide), zx4 hk]
        refine pv_iload t_X3_sumCounted_59 rfl ?_
        refine pv_gS3 t_X3_sumCounted_61 ml_X3_67 mo_X8_add (Nat.le_of_ble_eq_true rfl) (e_X8_add hl.2.2.2.2.1 (by decide)) (Nat.le_of_ble_eq_true rfl) ?_
        refine zst (S2 := (Ψ, zhs μ su (lAd s (lw k) (rA (μ lo) 12 (nI k * 2 + nI i))))) (by simp only [lAd_hs]) ?_
        refine pv_aload_n (i := 0) t_X3_sumCounted_64 rfl rfl ?_
        refine pv_getR t_X3_sumCounted_65 fl_X3_21 hl.1 rfl ?_
        refine pv_gets t_X3_sumCounted_68 gs_X3_53 (by decide) ?_
        refine pv_iload_n (i := 2) t_X3_sumCounted_71 rfl rfl ?_
        refine pv_gS2 t_X3_sumCounted_72 ml_X3_37 mo_X8_at (Nat.le_of_ble_eq_true rfl) (e_X8_at zr5 (by decide)) (Nat.le_of_ble_eq_true rfl) ?_
        rw [hxs _ 5 (by decide), zx5 hk]
        refine pv_iconst (v := 2) t_X3_sumCounted_75 zi_2 ?_
        refine pv_iload t_X3_sumCounted_76 rfl ?_
        refine pv_isub t_X3_sumCounted_78 ?_
        refine pv_gS3 t_X3_sumCounted_79 ml_X3_67 mo_X8_add (Nat.le_of_ble_eq_true rfl) (e_X8_add hl.2.2.2.2.1 (by decide)) (Nat.le_of_ble_eq_true rfl) ?_
        refine pv_iinc (v := 1) t_X3_sumCounted_82 rfl zi_1 ?_
        refine pv_goto t_X3_sumCounted_85 ?_
        refine pv_loc (lv' := [(0, _), (1, _), (2, _), (3, _)]) ⟨rfl, rfl, rfl, rfl, trivial⟩ ?_
        refine zst (S2 := (Ψ, zhs μ su (lAd (lAd s (lw k) (rA (μ lo) 12 (nI k * 2 + nI i))) (hg k) (2 - rA (μ lo) 12 (nI k * 2 + nI i))))) (by simp only [lAd_hs]) ?_
        rw [scI, if_pos (And.intro (Int32.not_le.mp c19) (Int32.not_le.mp c31))] at hs
        exact ih (i + 1) (by omega) (Nat.lt_of_not_le (fun q => c19 (nI_le q (by omega)))) _ _ (nI_1 i) hs

theorem lp_X3_sumK {l : Launch} {X : zX} {d : Nat} {Ψ : List zC} {μ : zH} {g po me lo su op : Nat} (hl : oL Ψ g po me lo su op) {gg : Nat} (hgg : gg < 1000) (hxs : ∀ (f : Nat → Int32) (j : Nat), j < 7 → zhs μ su f (1000 + j) = zxc X j) {s0 : Nat → Int32} : ∀ j i : Nat, i + j = 6 + 1 → i ≤ 6 → ∀ (x : Int32) (s : Nat → Int32), x = nI i → s = scK (μ me) (μ lo) gg s0 i → zEv l X mi_X3_sumCounted (d + 1) 9 [(0, .inr g), (1, .inl (nI gg)), (2, .inl x)] [] (Ψ, zhs μ su s) 0 0 none (Ψ, zhs μ su (scK (μ me) (μ lo) gg s0 6)) := by
  intro j
  induction j with
  | zero => intro i h h2; omega
  | succ j ih =>
    intro i hij hle x s hx hs 
    subst hx
    refine pv_iload_n (i := 2) t_X3_sumCounted_9 rfl rfl ?_
    refine pv_bipush (v := 6) t_X3_sumCounted_10 zb_6 ?_
    refine pv_icmp_ge t_X3_sumCounted_12 (fun c12 => ?_) (fun c12 => ?_)
    · skip
      have hie : i = 6 := by have := (nI_leI (a := 6) (by omega) (by omega)).mp c12; omega
      rw [hs, hie]
      exact pv_vret t_X3_sumCounted_94 rfl rfl
    · skip
      have hin : i < 6 := Nat.lt_of_not_le (fun q => c12 (nI_le (a := 6) q (by omega)))
      refine pv_iconst (v := 0) t_X3_sumCounted_15 zi_0 ?_
      refine pv_istore_n (i := 3) t_X3_sumCounted_16 rfl (Nat.le_of_ble_eq_true rfl) ?_
      refine lp_X3_sumI (s0 := s) hl hgg hin hxs ?_ (gg + 1) 0 (by omega) (by omega) _ _ rfl rfl
      refine pv_iinc (v := 1) t_X3_sumCounted_88 rfl zi_1 ?_
      refine pv_goto t_X3_sumCounted_91 ?_
      refine pv_loc (lv' := [(0, _), (1, _), (2, _)]) ⟨rfl, rfl, rfl, trivial⟩ ?_
      exact ih (i + 1) (by omega) (by omega) _ _ (nI_1 i) (by rw [scK_s, hs])

theorem e_X3_sumCounted {l : Launch} {X : zX} {d : Nat} {Ψ : List zC} {μ : zH} {g po me lo su op : Nat} (hl : oL Ψ g po me lo su op) {gg : Nat} (hgg : gg < 1000) : zRn l X mi_X3_sumCounted (d + 1) [.inr g, .inl (nI gg)] (Ψ, μ) none (Ψ, zhs μ su (scK (μ me) (μ lo) gg (clr 4 (μ su)) 6)) := by
  refine pv_ext (fun hx => ?_)
  refine zhl (fun hlen => ?_)
  have hsl : su < 1000 := Nat.lt_of_lt_of_le (List.getElem?_eq_some_iff.mp hl.2.2.2.2.1).1 hlen
  have hxs : ∀ (f : Nat → Int32) (j : Nat), j < 7 → zhs μ su f (1000 + j) = zxc X j := fun f j hj => by rw [zhs_n _ _ (by omega)]; exact hx j hj
  refine pv_aload_n (i := 0) t_X3_sumCounted_0 rfl rfl ?_
  refine pv_getR t_X3_sumCounted_1 fl_X3_21 hl.1 rfl ?_
  refine pv_gS1 t_X3_sumCounted_4 ml_X3_27 mo_X8_clear (Nat.le_of_ble_eq_true rfl) (e_X8_clear hl.2.2.2.2.1 (by decide)) (Nat.le_of_ble_eq_true rfl) ?_
  refine pv_iconst (v := 0) t_X3_sumCounted_7 zi_0 ?_
  refine pv_istore_n (i := 2) t_X3_sumCounted_8 rfl (Nat.le_of_ble_eq_true rfl) ?_
  exact lp_X3_sumK (μ := μ) hl hgg hxs 7 0 (by omega) (by omega) _ _ rfl rfl

