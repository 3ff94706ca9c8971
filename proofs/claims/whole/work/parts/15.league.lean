theorem pv_ext {l : Launch} {X : zX} {y : zMI} {d pc : Nat} {lv : List (Nat × zV)} {st : List zV} {Ψ : List zC} {μ : zH} {mc ms : Nat} {r : Option zV} {S' : zS} (k : (∀ j, j < 7 → μ (1000 + j) = zxc X j) → zEv l X y d pc lv st (Ψ, μ) mc ms r S') : zEv l X y d pc lv st (Ψ, μ) mc ms r S' := fun E G D p e R s m args below meth c H locs cells slots Q ls hB hW => k hW.2.2 E G D p e R s m args below meth c H locs cells slots Q ls hB hW
def oL (sh : List zC) (g po me lo su op : Nat) : Prop := sh[g]? = some (.inr (.inr (3, [some (some po), some (some me), some (some lo), some (some su), some (some op)]))) ∧ sh[po]? = some (.inl (0, 4)) ∧ sh[me]? = some (.inl (0, 6)) ∧ sh[lo]? = some (.inl (0, 12)) ∧ sh[su]? = some (.inl (0, 4)) ∧ sh[op]? = some (.inl (0, 6)) ∧ po ≠ su ∧ me ≠ op
def lw (k : Nat) : Int32 := ([0, 0, 0, 1, 1, 2] : List Int32).getD k 0
def hg (k : Nat) : Int32 := ([1, 2, 3, 2, 3, 3] : List Int32).getD k 0
def imin (a b : Int32) : Int32 := if b < a then b else a
def prF (p q : Int32) : Nat → Nat → Int32
  | 0, _ => -1
  | j + 1, k => if lw k = imin p q ∧ hg k = imax p q then nI k else prF p q j (k + 1)
def prO (p q : Int32) : Int32 := prF p q 6 0
def scF (r : Int32) : Int32 := if r = 3 then 1 else if r = 1 then 2 else 0
theorem zx4 {X : zX} {k : Nat} (hk : k < 6) : rA (zxc X 4) 6 (nI k) = lw k := by rw [rA_n hk (by decide)]; rfl
theorem zx5 {X : zX} {k : Nat} (hk : k < 6) : rA (zxc X 5) 6 (nI k) = hg k := by rw [rA_n hk (by decide)]; rfl
theorem zr4 {X : zX} {Ψ : List zC} {μ : zH} : zar X (Ψ, μ) (1000 + 4) 6 := Or.inr ⟨4, by decide, rfl, rfl⟩
theorem zr5 {X : zX} {Ψ : List zC} {μ : zH} : zar X (Ψ, μ) (1000 + 5) 6 := Or.inr ⟨5, by decide, rfl, rfl⟩
theorem e_X3_pointsOf {l : Launch} {X : zX} {d : Nat} {Ψ : List zC} {μ : zH} {g po me lo su op : Nat} (hl : oL Ψ g po me lo su op) {p : Int32} : zRn l X mi_X3_pointsOf (d + 1) [.inr g, .inl p] (Ψ, μ) (some (.inl (rA (μ po) 4 p))) (Ψ, μ) := by
  refine pv_aload_n (i := 0) t_X3_pointsOf_0 rfl rfl ?_
  refine pv_getR t_X3_pointsOf_1 fl_X3_9 hl.1 rfl ?_
  refine pv_iload_n (i := 1) t_X3_pointsOf_4 rfl rfl ?_
  refine pv_gS2 t_X3_pointsOf_5 ml_X3_37 mo_X8_at (Nat.le_of_ble_eq_true rfl) (e_X8_at (Or.inl hl.2.1) (by decide)) (Nat.le_of_ble_eq_true rfl) ?_
  exact pv_ireti t_X3_pointsOf_8 rfl rfl rfl

theorem lp_X3_pairOf {l : Launch} {X : zX} {d : Nat} {Ψ : List zC} {μ : zH} {p q : Int32} (hx : ∀ j, j < 7 → μ (1000 + j) = zxc X j) : ∀ j i : Nat, i + j = 6 + 1 → i ≤ 6 → ∀ (x : Int32) (r9 : Int32), x = nI i → r9 = prF p q (6 - i) i → zEv l X mi_X3_pairOf (d + 1) 2 [(0, .inl p), (1, .inl q), (2, .inl x)] [] (Ψ, μ) 0 0 (some (.inl r9)) (Ψ, μ) := by
  intro j
  induction j with
  | zero => intro i h h2; omega
  | succ j ih =>
    intro i hij hle x r9 hxx hr9 
    subst hxx
    refine pv_iload_n (i := 2) t_X3_pairOf_2 rfl rfl ?_
    refine pv_bipush (v := 6) t_X3_pairOf_3 zb_6 ?_
    refine pv_icmp_ge t_X3_pairOf_5 (fun c5 => ?_) (fun c5 => ?_)
    · skip
      have hie : i = 6 := by have := (nI_leI (a := 6) (by omega) (by omega)).mp c5; omega
      rw [hr9, hie]
      refine pv_iconst (v := -1) t_X3_pairOf_46 zi_m1 ?_
      exact pv_ireti t_X3_pairOf_47 rfl rfl rfl
    · skip
      have hin : i < 6 := Nat.lt_of_not_le (fun q => c5 (nI_le (a := 6) q (by omega)))
      refine pv_gets t_X3_pairOf_8 gs_X3_45 (by decide) ?_
      refine pv_iload_n (i := 2) t_X3_pairOf_11 rfl rfl ?_
      refine pv_gS2 t_X3_pairOf_12 ml_X3_37 mo_X8_at (Nat.le_of_ble_eq_true rfl) (e_X8_at zr4 (by decide)) (Nat.le_of_ble_eq_true rfl) ?_
      rw [hx 4 (by decide), zx4 hin]
      refine pv_iload_n (i := 0) t_X3_pairOf_15 rfl rfl ?_
      refine pv_iload_n (i := 1) t_X3_pairOf_16 rfl rfl ?_
      refine pv_gS2 t_X3_pairOf_17 ml_X3_48 mo_J_min (Nat.le_of_ble_eq_true rfl) e_J_min (Nat.le_of_ble_eq_true rfl) ?_
      refine pv_icmp_ne t_X3_pairOf_20 (fun c20 => ?_) (fun c20 => ?_)
      · skip
        have hq : ¬ (lw i = imin p q ∧ hg i = imax p q) := fun z => c20 z.1
        refine pv_iinc (v := 1) t_X3_pairOf_40 rfl zi_1 ?_
        refine pv_goto t_X3_pairOf_43 ?_
        refine pv_loc (lv' := [(0, _), (1, _), (2, _)]) ⟨rfl, rfl, rfl, trivial⟩ ?_
        exact ih (i + 1) (by omega) (by omega) _ _ (nI_1 i) (by subst hr9; rw [show 6 - i = (6 - (i + 1)) + 1 by omega, prF, if_neg hq])
      · skip
        refine pv_gets t_X3_pairOf_23 gs_X3_53 (by decide) ?_
        refine pv_iload_n (i := 2) t_X3_pairOf_26 rfl rfl ?_
        refine pv_gS2 t_X3_pairOf_27 ml_X3_37 mo_X8_at (Nat.le_of_ble_eq_true rfl) (e_X8_at zr5 (by decide)) (Nat.le_of_ble_eq_true rfl) ?_
        rw [hx 5 (by decide), zx5 hin]
        refine pv_iload_n (i := 0) t_X3_pairOf_30 rfl rfl ?_
        refine pv_iload_n (i := 1) t_X3_pairOf_31 rfl rfl ?_
        refine pv_gS2 t_X3_pairOf_32 ml_X3_56 mo_J_max (Nat.le_of_ble_eq_true rfl) e_J_max (Nat.le_of_ble_eq_true rfl) ?_
        refine pv_icmp_ne t_X3_pairOf_35 (fun c35 => ?_) (fun c35 => ?_)
        · skip
          have hq : ¬ (lw i = imin p q ∧ hg i = imax p q) := fun z => c35 z.2
          refine pv_iinc (v := 1) t_X3_pairOf_40 rfl zi_1 ?_
          refine pv_goto t_X3_pairOf_43 ?_
          refine pv_loc (lv' := [(0, _), (1, _), (2, _)]) ⟨rfl, rfl, rfl, trivial⟩ ?_
          exact ih (i + 1) (by omega) (by omega) _ _ (nI_1 i) (by subst hr9; rw [show 6 - i = (6 - (i + 1)) + 1 by omega, prF, if_neg hq])
        · skip
          have hq : (lw i = imin p q ∧ hg i = imax p q) := And.intro c20 c35
          rw [hr9, show 6 - i = (6 - (i + 1)) + 1 by omega, prF, if_pos hq]
          refine pv_iload_n (i := 2) t_X3_pairOf_38 rfl rfl ?_
          exact pv_ireti t_X3_pairOf_39 rfl rfl rfl

theorem e_X3_pairOf {l : Launch} {X : zX} {d : Nat} {Ψ : List zC} {μ : zH} {p q : Int32} : zRn l X mi_X3_pairOf (d + 1) [.inl p, .inl q] (Ψ, μ) (some (.inl (prO p q))) (Ψ, μ) := by
  refine pv_ext (fun hx => ?_)
  refine pv_iconst (v := 0) t_X3_pairOf_0 zi_0 ?_
  refine pv_istore_n (i := 2) t_X3_pairOf_1 rfl (Nat.le_of_ble_eq_true rfl) ?_
  exact lp_X3_pairOf hx 7 0 (by omega) (by omega) _ _ rfl rfl

theorem e_X3_scoreOfFirst {l : Launch} {X : zX} {d : Nat} {Ψ : List zC} {μ : zH} {r : Int32} : zRn l X mi_X3_scoreOfFirst d [.inl r] (Ψ, μ) (some (.inl (scF r))) (Ψ, μ) := by
  refine pv_iload_n (i := 0) t_X3_scoreOfFirst_0 rfl rfl ?_
  refine pv_iconst (v := 3) t_X3_scoreOfFirst_1 zi_3 ?_
  refine pv_icmp_ne t_X3_scoreOfFirst_2 (fun c2 => ?_) (fun c2 => ?_)
  · skip
    refine pv_iload_n (i := 0) t_X3_scoreOfFirst_7 rfl rfl ?_
    refine pv_iconst (v := 1) t_X3_scoreOfFirst_8 zi_1 ?_
    refine pv_icmp_ne t_X3_scoreOfFirst_9 (fun c9 => ?_) (fun c9 => ?_)
    · skip
      refine pv_iconst (v := 0) t_X3_scoreOfFirst_16 zi_0 ?_
      exact pv_ireti t_X3_scoreOfFirst_17 rfl (by first | (rw [scF, if_neg c2, if_pos c9]) | (rw [scF, if_neg c2, if_neg c9])) rfl
    · skip
      refine pv_iconst (v := 2) t_X3_scoreOfFirst_12 zi_2 ?_
      refine pv_goto t_X3_scoreOfFirst_13 ?_
      exact pv_ireti t_X3_scoreOfFirst_17 rfl (by first | (rw [scF, if_neg c2, if_pos c9]) | (rw [scF, if_neg c2, if_neg c9])) rfl
  · skip
    refine pv_iconst (v := 1) t_X3_scoreOfFirst_5 zi_1 ?_
    exact pv_ireti t_X3_scoreOfFirst_6 rfl (by rw [scF, if_pos c2]) rfl

theorem e_X3_meetingsOf {l : Launch} {X : zX} {d : Nat} {Ψ : List zC} {μ : zH} {g po me lo su op : Nat} (hl : oL Ψ g po me lo su op) {p q : Int32} : zRn l X mi_X3_meetingsOf (d + 2) [.inr g, .inl p, .inl q] (Ψ, μ) (some (.inl (rA (μ me) 6 (prO p q)))) (Ψ, μ) := by
  refine pv_aload_n (i := 0) t_X3_meetingsOf_0 rfl rfl ?_
  refine pv_getR t_X3_meetingsOf_1 fl_X3_15 hl.1 rfl ?_
  refine pv_iload_n (i := 1) t_X3_meetingsOf_4 rfl rfl ?_
  refine pv_iload_n (i := 2) t_X3_meetingsOf_5 rfl rfl ?_
  refine pv_gS2 t_X3_meetingsOf_6 ml_X3_41 mo_X3_pairOf (Nat.le_of_ble_eq_true rfl) e_X3_pairOf (Nat.le_of_ble_eq_true rfl) ?_
  refine pv_gS2 t_X3_meetingsOf_9 ml_X3_37 mo_X8_at (Nat.le_of_ble_eq_true rfl) (e_X8_at (Or.inl hl.2.2.1) (by decide)) (Nat.le_of_ble_eq_true rfl) ?_
  exact pv_ireti t_X3_meetingsOf_12 rfl rfl rfl

def clr (n : Nat) (f : Nat → Int32) : Nat → Int32 := fun k => if k < n then 0 else f k
theorem e_X3_clear {l : Launch} {X : zX} {d : Nat} {Ψ : List zC} {μ : zH} {g po me lo su op : Nat} (hl : oL Ψ g po me lo su op) : zRn l X mi_X3_clear (d + 1) [.inr g] (Ψ, μ) none (Ψ, zhs (zhs μ po (clr 4 (μ po))) me (clr 6 (μ me))) := by
  refine pv_aload_n (i := 0) t_X3_clear_0 rfl rfl ?_
  refine pv_getR t_X3_clear_1 fl_X3_9 hl.1 rfl ?_
  refine pv_gS1 t_X3_clear_4 ml_X3_27 mo_X8_clear (Nat.le_of_ble_eq_true rfl) (e_X8_clear hl.2.1 (by decide)) (Nat.le_of_ble_eq_true rfl) ?_
  refine pv_aload_n (i := 0) t_X3_clear_7 rfl rfl ?_
  refine pv_getR t_X3_clear_8 fl_X3_15 hl.1 rfl ?_
  refine pv_gS1 t_X3_clear_11 ml_X3_27 mo_X8_clear (Nat.le_of_ble_eq_true rfl) (e_X8_clear hl.2.2.1 (by decide)) (Nat.le_of_ble_eq_true rfl) ?_
  exact pv_vret t_X3_clear_14 rfl (by rw [zhs_n _ _ (zne hl.2.2.1 hl.2.1 (by decide))]; rfl)

theorem e_X3_copyFrom {l : Launch} {X : zX} {d : Nat} {Ψ : List zC} {μ : zH} {g po me lo su op : Nat} (hl : oL Ψ g po me lo su op) {g2 po2 me2 lo2 su2 op2 : Nat} (hl2 : oL Ψ g2 po2 me2 lo2 su2 op2) : zRn l X mi_X3_copyFrom (d + 2) [.inr g, .inr g2] (Ψ, μ) none (Ψ, zhs (zhs (zhs μ po (cpy 4 (μ po2) (μ po))) me (cpy 6 (μ me2) (μ me))) lo (cpy 12 (μ lo2) (μ lo))) := by
  refine pv_aload_n (i := 1) t_X3_copyFrom_0 rfl rfl ?_
  refine pv_getR t_X3_copyFrom_1 fl_X3_9 hl2.1 rfl ?_
  refine pv_aload_n (i := 0) t_X3_copyFrom_4 rfl rfl ?_
  refine pv_getR t_X3_copyFrom_5 fl_X3_9 hl.1 rfl ?_
  refine pv_gS2 t_X3_copyFrom_8 ml_X3_33 mo_X8_copy (Nat.le_of_ble_eq_true rfl) (e_X8_copy hl2.2.1 hl.2.1 (by decide)) (Nat.le_of_ble_eq_true rfl) ?_
  refine pv_aload_n (i := 1) t_X3_copyFrom_11 rfl rfl ?_
  refine pv_getR t_X3_copyFrom_12 fl_X3_15 hl2.1 rfl ?_
  refine pv_aload_n (i := 0) t_X3_copyFrom_15 rfl rfl ?_
  refine pv_getR t_X3_copyFrom_16 fl_X3_15 hl.1 rfl ?_
  refine pv_gS2 t_X3_copyFrom_19 ml_X3_33 mo_X8_copy (Nat.le_of_ble_eq_true rfl) (e_X8_copy hl2.2.2.1 hl.2.2.1 (by decide)) (Nat.le_of_ble_eq_true rfl) ?_
  refine pv_aload_n (i := 1) t_X3_copyFrom_22 rfl rfl ?_
  refine pv_getR t_X3_copyFrom_23 fl_X3_18 hl2.1 rfl ?_
  refine pv_aload_n (i := 0) t_X3_copyFrom_26 rfl rfl ?_
  refine pv_getR t_X3_copyFrom_27 fl_X3_18 hl.1 rfl ?_
  refine pv_gS2 t_X3_copyFrom_30 ml_X3_33 mo_X8_copy (Nat.le_of_ble_eq_true rfl) (e_X8_copy hl2.2.2.2.1 hl.2.2.2.1 (by decide)) (Nat.le_of_ble_eq_true rfl) ?_
  exact pv_vret t_X3_copyFrom_33 rfl (by simp only [zhs_n _ _ (zne hl2.2.2.1 hl.2.1 (by decide)), zhs_n _ _ (zne hl.2.2.1 hl.2.1 (by decide)), zhs_n _ _ (zne hl2.2.2.2.1 hl.2.1 (by decide)), zhs_n _ _ (zne hl.2.2.2.1 hl.2.1 (by decide)), zhs_n _ _ (zne hl2.2.2.2.1 hl.2.2.1 (by decide)), zhs_n _ _ (zne hl.2.2.2.1 hl.2.2.1 (by decide))]; rfl)

def lcL (lo me : Nat → Int32) (p q r : Int32) : Nat → Int32 := if rA me 6 (prO p q) < 2 then rP lo 12 (prO p q * 2 + rA me 6 (prO p q)) (if p < q then scF r else 2 - scF r) else lo
def lcM (me : Nat → Int32) (p q : Int32) : Nat → Int32 := rP me 6 (prO p q) (rA me 6 (prO p q) + 1)
def lAd (po : Nat → Int32) (p v : Int32) : Nat → Int32 := rP po 4 p (rA po 4 p + v)
def lcP (po : Nat → Int32) (p q r : Int32) : Nat → Int32 := lAd (lAd po p (scF r)) q (2 - scF r)
def luM (me : Nat → Int32) (p q : Int32) : Nat → Int32 := rP me 6 (prO p q) (rA me 6 (prO p q) + -1)
def luP (po : Nat → Int32) (p q r : Int32) : Nat → Int32 := lAd (lAd po p (-scF r)) q (scF r - 2)
theorem e_X3_count {l : Launch} {X : zX} {d : Nat} {Ψ : List zC} {μ : zH} {g po me lo su op : Nat} (hl : oL Ψ g po me lo su op) {p q r : Int32} : zRn l X mi_X3_count (d + 2) [.inr g, .inl p, .inl q, .inl r] (Ψ, μ) none (Ψ, zhs (zhs (zhs μ lo (lcL (μ lo) (μ me) p q r)) me (lcM (μ me) p q)) po (lcP (μ po) p q r)) := by
  have n1 : me ≠ lo := zne hl.2.2.1 hl.2.2.2.1 (by decide)
  have n2 : po ≠ lo := zne hl.2.1 hl.2.2.2.1 (by decide)
  have n3 : po ≠ me := zne hl.2.1 hl.2.2.1 (by decide)
  refine pv_iload_n (i := 3) t_X3_count_0 rfl rfl ?_
  refine pv_gS1 t_X3_count_1 ml_X3_59 mo_X3_scoreOfFirst (Nat.le_of_ble_eq_true rfl) e_X3_scoreOfFirst (Nat.le_of_ble_eq_true rfl) ?_
  refine pv_istore t_X3_count_4 (Nat.le_of_ble_eq_true rfl) ?_
  refine pv_iload_n (i := 1) t_X3_count_6 rfl rfl ?_
  refine pv_iload_n (i := 2) t_X3_count_7 rfl rfl ?_
  refine pv_gS2 t_X3_count_8 ml_X3_41 mo_X3_pairOf (Nat.le_of_ble_eq_true rfl) e_X3_pairOf (Nat.le_of_ble_eq_true rfl) ?_
  refine pv_istore t_X3_count_11 (Nat.le_of_ble_eq_true rfl) ?_
  refine pv_aload_n (i := 0) t_X3_count_13 rfl rfl ?_
  refine pv_getR t_X3_count_14 fl_X3_15 hl.1 rfl ?_
  refine pv_iload t_X3_count_17 rfl ?_
  refine pv_gS2 t_X3_count_19 ml_X3_37 mo_X8_at (Nat.le_of_ble_eq_true rfl) (e_X8_at (Or.inl hl.2.2.1) (by decide)) (Nat.le_of_ble_eq_true rfl) ?_
  refine pv_istore t_X3_count_22 (Nat.le_of_ble_eq_true rfl) ?_
  refine pv_iload t_X3_count_24 rfl ?_
  refine pv_iconst (v := 2) t_X3_count_26 zi_2 ?_
  refine pv_icmp_ge t_X3_count_27 (fun c27x => ?_) (fun c27x => ?_)
  · skip
    have c27 := Int32.not_lt.mpr c27x
    refine pv_aload_n (i := 0) t_X3_count_58 rfl rfl ?_
    refine pv_getR t_X3_count_59 fl_X3_15 hl.1 rfl ?_
    refine pv_iload t_X3_count_62 rfl ?_
    refine pv_iload t_X3_count_64 rfl ?_
    refine pv_iconst (v := 1) t_X3_count_66 zi_1 ?_
    refine pv_iadd t_X3_count_67 ?_
    refine pv_gS3 t_X3_count_68 ml_X3_63 mo_X8_put (Nat.le_of_ble_eq_true rfl) (e_X8_put hl.2.2.1 (by decide)) (Nat.le_of_ble_eq_true rfl) ?_
    refine pv_aload_n (i := 0) t_X3_count_71 rfl rfl ?_
    refine pv_getR t_X3_count_72 fl_X3_9 hl.1 rfl ?_
    refine pv_iload_n (i := 1) t_X3_count_75 rfl rfl ?_
    refine pv_iload t_X3_count_76 rfl ?_
    refine pv_gS3 t_X3_count_78 ml_X3_67 mo_X8_add (Nat.le_of_ble_eq_true rfl) (e_X8_add hl.2.1 (by decide)) (Nat.le_of_ble_eq_true rfl) ?_
    refine pv_aload_n (i := 0) t_X3_count_81 rfl rfl ?_
    refine pv_getR t_X3_count_82 fl_X3_9 hl.1 rfl ?_
    refine pv_iload_n (i := 2) t_X3_count_85 rfl rfl ?_
    refine pv_iconst (v := 2) t_X3_count_86 zi_2 ?_
    refine pv_iload t_X3_count_87 rfl ?_
    refine pv_isub t_X3_count_89 ?_
    refine pv_gS3 t_X3_count_90 ml_X3_67 mo_X8_add (Nat.le_of_ble_eq_true rfl) (e_X8_add hl.2.1 (by decide)) (Nat.le_of_ble_eq_true rfl) ?_
    exact pv_vret t_X3_count_93 rfl (by simp only [zhs_hs, zhs_s, zhs_n _ _ n1, zhs_n _ _ n2, zhs_n _ _ n3]; first | (rw [lcL, if_pos c27, if_pos c43]; rfl) | (rw [lcL, if_pos c27, if_neg c43]; rfl) | (rw [lcL, if_neg c27, zhs_id]; rfl))
  · skip
    have c27 := Int32.not_le.mp c27x
    refine pv_aload_n (i := 0) t_X3_count_30 rfl rfl ?_
    refine pv_getR t_X3_count_31 fl_X3_18 hl.1 rfl ?_
    refine pv_iload t_X3_count_34 rfl ?_
    refine pv_iconst (v := 2) t_X3_count_36 zi_2 ?_
    refine pv_imul t_X3_count_37 ?_
    refine pv_iload t_X3_count_38 rfl ?_
    refine pv_iadd t_X3_count_40 ?_
    refine pv_iload_n (i := 1) t_X3_count_41 rfl rfl ?_
    refine pv_iload_n (i := 2) t_X3_count_42 rfl rfl ?_
    refine pv_icmp_ge t_X3_count_43 (fun c43x => ?_) (fun c43x => ?_)
    · skip
      have c43 := Int32.not_lt.mpr c43x
      refine pv_iconst (v := 2) t_X3_count_51 zi_2 ?_
      refine pv_iload t_X3_count_52 rfl ?_
      refine pv_isub t_X3_count_54 ?_
      refine pv_gS3 t_X3_count_55 ml_X3_63 mo_X8_put (Nat.le_of_ble_eq_true rfl) (e_X8_put hl.2.2.2.1 (by decide)) (Nat.le_of_ble_eq_true rfl) ?_
      refine pv_aload_n (i := 0) t_X3_count_58 rfl rfl ?_
      refine pv_getR t_X3_count_59 fl_X3_15 hl.1 rfl ?_
      refine pv_iload t_X3_count_62 rfl ?_
      refine pv_iload t_X3_count_64 rfl ?_
      refine pv_iconst (v := 1) t_X3_count_66 zi_1 ?_
      refine pv_iadd t_X3_count_67 ?_
      refine pv_gS3 t_X3_count_68 ml_X3_63 mo_X8_put (Nat.le_of_ble_eq_true rfl) (e_X8_put hl.2.2.1 (by decide)) (Nat.le_of_ble_eq_true rfl) ?_
      refine pv_aload_n (i := 0) t_X3_count_71 rfl rfl ?_
      refine pv_getR t_X3_count_72 fl_X3_9 hl.1 rfl ?_
      refine pv_iload_n (i := 1) t_X3_count_75 rfl rfl ?_
      refine pv_iload t_X3_count_76 rfl ?_
      refine pv_gS3 t_X3_count_78 ml_X3_67 mo_X8_add (Nat.le_of_ble_eq_true rfl) (e_X8_add hl.2.1 (by decide)) (Nat.le_of_ble_eq_true rfl) ?_
      refine pv_aload_n (i := 0) t_X3_count_81 rfl rfl ?_
      refine pv_getR t_X3_count_82 fl_X3_9 hl.1 rfl ?_
      refine pv_iload_n (i := 2) t_X3_count_85 rfl rfl ?_
      refine pv_iconst (v := 2) t_X3_count_86 zi_2 ?_
      refine pv_iload t_X3_count_87 rfl ?_
      refine pv_isub t_X3_count_89 ?_
      refine pv_gS3 t_X3_count_90 ml_X3_67 mo_X8_add (Nat.le_of_ble_eq_true rfl) (e_X8_add hl.2.1 (by decide)) (Nat.le_of_ble_eq_true rfl) ?_
      exact pv_vret t_X3_count_93 rfl (by simp only [zhs_hs, zhs_s, zhs_n _ _ n1, zhs_n _ _ n2, zhs_n _ _ n3]; first | (rw [lcL, if_pos c27, if_pos c43]; rfl) | (rw [lcL, if_pos c27, if_neg c43]; rfl) | (rw [lcL, if_neg c27, zhs_id]; rfl))
    · skip
      have c43 := Int32.not_le.mp c43x
      refine pv_iload t_X3_count_46 rfl ?_
      refine pv_goto t_X3_count_48 ?_
      refine pv_gS3 t_X3_count_55 ml_X3_63 mo_X8_put (Nat.le_of_ble_eq_true rfl) (e_X8_put hl.2.2.2.1 (by decide)) (Nat.le_of_ble_eq_true rfl) ?_
      refine pv_aload_n (i := 0) t_X3_count_58 rfl rfl ?_
      refine pv_getR t_X3_count_59 fl_X3_15 hl.1 rfl ?_
      refine pv_iload t_X3_count_62 rfl ?_
      refine pv_iload t_X3_count_64 rfl ?_
      refine pv_iconst (v := 1) t_X3_count_66 zi_1 ?_
      refine pv_iadd t_X3_count_67 ?_
      refine pv_gS3 t_X3_count_68 ml_X3_63 mo_X8_put (Nat.le_of_ble_eq_true rfl) (e_X8_put hl.2.2.1 (by decide)) (Nat.le_of_ble_eq_true rfl) ?_
      refine pv_aload_n (i := 0) t_X3_count_71 rfl rfl ?_
      refine pv_getR t_X3_count_72 fl_X3_9 hl.1 rfl ?_
      refine pv_iload_n (i := 1) t_X3_count_75 rfl rfl ?_
      refine pv_iload t_X3_count_76 rfl ?_
      refine pv_gS3 t_X3_count_78 ml_X3_67 mo_X8_add (Nat.le_of_ble_eq_true rfl) (e_X8_add hl.2.1 (by decide)) (Nat.le_of_ble_eq_true rfl) ?_
      refine pv_aload_n (i := 0) t_X3_count_81 rfl rfl ?_
      refine pv_getR t_X3_count_82 fl_X3_9 hl.1 rfl ?_
      refine pv_iload_n (i := 2) t_X3_count_85 rfl rfl ?_
      refine pv_iconst (v := 2) t_X3_count_86 zi_2 ?_
      refine pv_iload t_X3_count_87 rfl ?_
      refine pv_isub t_X3_count_89 ?_
      refine pv_gS3 t_X3_count_90 ml_X3_67 mo_X8_add (Nat.le_of_ble_eq_true rfl) (e_X8_add hl.2.1 (by decide)) (Nat.le_of_ble_eq_true rfl) ?_
      exact pv_vret t_X3_count_93 rfl (by simp only [zhs_hs, zhs_s, zhs_n _ _ n1, zhs_n _ _ n2, zhs_n _ _ n3]; first | (rw [lcL, if_pos c27, if_pos c43]; rfl) | (rw [lcL, if_pos c27, if_neg c43]; rfl) | (rw [lcL, if_neg c27, zhs_id]; rfl))

theorem e_X3_uncount {l : Launch} {X : zX} {d : Nat} {Ψ : List zC} {μ : zH} {g po me lo su op : Nat} (hl : oL Ψ g po me lo su op) {p q r : Int32} : zRn l X mi_X3_uncount (d + 2) [.inr g, .inl p, .inl q, .inl r] (Ψ, μ) none (Ψ, zhs (zhs μ me (luM (μ me) p q)) po (luP (μ po) p q r)) := by
  have n1 : me ≠ lo := zne hl.2.2.1 hl.2.2.2.1 (by decide)
  have n2 : po ≠ lo := zne hl.2.1 hl.2.2.2.1 (by decide)
  have n3 : po ≠ me := zne hl.2.1 hl.2.2.1 (by decide)
  refine pv_iload_n (i := 3) t_X3_uncount_0 rfl rfl ?_
  refine pv_gS1 t_X3_uncount_1 ml_X3_59 mo_X3_scoreOfFirst (Nat.le_of_ble_eq_true rfl) e_X3_scoreOfFirst (Nat.le_of_ble_eq_true rfl) ?_
  refine pv_istore t_X3_uncount_4 (Nat.le_of_ble_eq_true rfl) ?_
  refine pv_aload_n (i := 0) t_X3_uncount_6 rfl rfl ?_
  refine pv_getR t_X3_uncount_7 fl_X3_15 hl.1 rfl ?_
  refine pv_iload_n (i := 1) t_X3_uncount_10 rfl rfl ?_
  refine pv_iload_n (i := 2) t_X3_uncount_11 rfl rfl ?_
  refine pv_gS2 t_X3_uncount_12 ml_X3_41 mo_X3_pairOf (Nat.le_of_ble_eq_true rfl) e_X3_pairOf (Nat.le_of_ble_eq_true rfl) ?_
  refine pv_iconst (v := -1) t_X3_uncount_15 zi_m1 ?_
  refine pv_gS3 t_X3_uncount_16 ml_X3_67 mo_X8_add (Nat.le_of_ble_eq_true rfl) (e_X8_add hl.2.2.1 (by decide)) (Nat.le_of_ble_eq_true rfl) ?_
  refine pv_aload_n (i := 0) t_X3_uncount_19 rfl rfl ?_
  refine pv_getR t_X3_uncount_20 fl_X3_9 hl.1 rfl ?_
  refine pv_iload_n (i := 1) t_X3_uncount_23 rfl rfl ?_
  refine pv_iload t_X3_uncount_24 rfl ?_
  refine pv_ineg t_X3_uncount_26 ?_
  refine pv_gS3 t_X3_uncount_27 ml_X3_67 mo_X8_add (Nat.le_of_ble_eq_true rfl) (e_X8_add hl.2.1 (by decide)) (Nat.le_of_ble_eq_true rfl) ?_
  refine pv_aload_n (i := 0) t_X3_uncount_30 rfl rfl ?_
  refine pv_getR t_X3_uncount_31 fl_X3_9 hl.1 rfl ?_
  refine pv_iload_n (i := 2) t_X3_uncount_34 rfl rfl ?_
  refine pv_iload t_X3_uncount_35 rfl ?_
  refine pv_iconst (v := 2) t_X3_uncount_37 zi_2 ?_
  refine pv_isub t_X3_uncount_38 ?_
  refine pv_gS3 t_X3_uncount_39 ml_X3_67 mo_X8_add (Nat.le_of_ble_eq_true rfl) (e_X8_add hl.2.1 (by decide)) (Nat.le_of_ble_eq_true rfl) ?_
  exact pv_vret t_X3_uncount_42 rfl (by simp only [zhs_hs, zhs_s, zhs_n _ _ n3]; rfl)

def hmB (s : Nat → Int32) (p : Int32) : Nat → Nat → Bool
  | 0, _ => true
  | j + 1, i => if rA s 4 p < s i then false else hmB s p j (i + 1)
theorem lp_X3_hasMost {l : Launch} {X : zX} {d : Nat} {Ψ : List zC} {μ : zH} {s : Nat} (hs : Ψ[s]? = some (.inl (0, 4))) {p : Int32} : ∀ j i : Nat, i + j = 4 + 1 → i ≤ 4 → ∀ (x : Int32) (r9 : Bool), x = nI i → r9 = hmB (μ s) p (4 - i) i → zEv l X mi_X3_hasMost (d + 1) 2 [(0, .inr s), (1, .inl p), (2, .inl x)] [] (Ψ, μ) 0 0 (some (.inl (bz r9))) (Ψ, μ) := by
  intro j
  induction j with
  | zero => intro i h h2; omega
  | succ j ih =>
    intro i hij hle x r9 hx hr9 
    subst hx
    refine pv_iload_n (i := 2) t_X3_hasMost_2 rfl rfl ?_
    refine pv_aload_n (i := 0) t_X3_hasMost_3 rfl rfl ?_
    refine pv_alen2 t_X3_hasMost_4 (Or.inl hs) zof ?_
    refine pv_icmp_ge t_X3_hasMost_5 (fun c5 => ?_) (fun c5 => ?_)
    · skip
      have hie : i = 4 := by have := (nI_leI (a := 4) (by omega) (by omega)).mp c5; omega
      refine pv_iconst (v := 1) t_X3_hasMost_27 zi_1 ?_
      exact pv_iretz t_X3_hasMost_28 rfl ⟨by rw [hr9, hie]; rfl, bz_01 _⟩ rfl
    · skip
      have hin : i < 4 := Nat.lt_of_not_le (fun q => c5 (nI_le (a := 4) q (by omega)))
      refine pv_aload_n (i := 0) t_X3_hasMost_8 rfl rfl ?_
      refine pv_iload_n (i := 2) t_X3_hasMost_9 rfl rfl ?_
      refine pv_iald2 t_X3_hasMost_10 (Or.inl hs) (vp_in_nI hin (by decide)) ?_
      refine pv_aload_n (i := 0) t_X3_hasMost_11 rfl rfl ?_
      refine pv_iload_n (i := 1) t_X3_hasMost_12 rfl rfl ?_
      refine pv_gS2 t_X3_hasMost_13 ml_X3_37 mo_X8_at (Nat.le_of_ble_eq_true rfl) (e_X8_at (Or.inl hs) (by decide)) (Nat.le_of_ble_eq_true rfl) ?_
      refine pv_icmp_le t_X3_hasMost_16 (fun c16 => ?_) (fun c16 => ?_)
      · skip
        rw [nI_clamp (by omega)] at c16
        refine pv_iinc (v := 1) t_X3_hasMost_21 rfl zi_1 ?_
        refine pv_goto t_X3_hasMost_24 ?_
        refine pv_loc (lv' := [(0, _), (1, _), (2, _)]) ⟨rfl, rfl, rfl, trivial⟩ ?_
        exact ih (i + 1) (by omega) (by omega) _ _ (nI_1 i) (by subst hr9; rw [show 4 - i = (4 - (i + 1)) + 1 by omega, hmB, if_neg (Int32.not_lt.mpr c16)])
      · skip
        refine pv_iconst (v := 0) t_X3_hasMost_19 zi_0 ?_
        exact pv_iretz t_X3_hasMost_20 rfl ⟨by rw [hr9, show 4 - i = (4 - (i + 1)) + 1 by omega, hmB, if_pos (by rw [nI_clamp (by omega)] at c16; exact Int32.not_le.mp c16)]; rfl, bz_01 _⟩ rfl

theorem e_X3_hasMost {l : Launch} {X : zX} {d : Nat} {Ψ : List zC} {μ : zH} {s : Nat} (hs : Ψ[s]? = some (.inl (0, 4))) {p : Int32} : zRn l X mi_X3_hasMost (d + 1) [.inr s, .inl p] (Ψ, μ) (some (.inl (bz (hmB (μ s) p 4 0)))) (Ψ, μ) := by
  refine pv_iconst (v := 0) t_X3_hasMost_0 zi_0 ?_
  refine pv_istore_n (i := 2) t_X3_hasMost_1 rfl (Nat.le_of_ble_eq_true rfl) ?_
  exact lp_X3_hasMost hs 5 0 (by omega) (by omega) _ _ rfl rfl

