def pwL (me : Nat → Int32) (g np : Int32) (k : Nat) : Int32 := if hg k < np then imax 0 (g - rA me 6 (nI k)) else 0
def pwM (p : Int32) (k : Nat) : Bool := decide (lw k = p ∨ hg k = p)
def pwS (me : Nat → Int32) (g np p : Int32) (k : Nat) (z : (Nat → Int32) × (Nat → Int32)) : (Nat → Int32) × (Nat → Int32) := (lAd z.1 p (if pwM p k = true then 2 * pwL me g np k else 0), rP z.2 6 (nI k) (if pwM p k = true then 0 else 2 * pwL me g np k))
def pwI (me : Nat → Int32) (g np p : Int32) (z : (Nat → Int32) × (Nat → Int32)) : Nat → (Nat → Int32) × (Nat → Int32) := zfold (pwS me g np p) z
theorem pwI_s (me : Nat → Int32) (g np p : Int32) (z : (Nat → Int32) × (Nat → Int32)) (k : Nat) : pwI me g np p z (k + 1) = pwS me g np p k (pwI me g np p z k) := rfl
theorem imax0 {a b : Nat} (ha : a < 2 ^ 30) (hb : b < 2 ^ 30) : imax 0 (nI a - nI b) = nI (a - b) := by
  unfold imax
  by_cases h : b < a
  · rw [pk_sub (by omega), if_pos]
    rw [show (0 : Int32) = nI 0 from rfl]
    exact nI_lt (by omega) (by omega)
  · rw [if_neg, show a - b = 0 by omega]; rfl
    intro q
    have h1 := pk_sub_toInt ha hb
    rw [Int32.lt_iff_toInt_lt, h1] at q
    have : (0 : Int32).toInt = 0 := rfl
    omega
theorem pwL_n {me : Nat → Int32} {gg : Nat} (hgg : gg < 1000) {np : Int32} {k : Nat} (hk : k < 6) (hme : ∀ q, q < 6 → ∃ n, n < 100000 ∧ me q = nI n) : ∃ n, n ≤ gg ∧ pwL me (nI gg) np k = nI n := by
  obtain ⟨n, hn, e⟩ := hme k hk
  unfold pwL
  by_cases h : hg k < np
  · rw [if_pos h, rA_n hk (by decide), e, imax0 (by omega) (by omega)]
    exact ⟨gg - n, by omega, rfl⟩
  · rw [if_neg h]
    exact ⟨0, by omega, rfl⟩
theorem pwI_op {me : Nat → Int32} {gg : Nat} (hgg : gg < 400) {np p : Int32} {z : (Nat → Int32) × (Nat → Int32)} (hme : ∀ q, q < 6 → ∃ n, n < 100000 ∧ me q = nI n) : ∀ i, i ≤ 6 → ∀ q, q < i → ∃ n, n < 1000 ∧ (pwI me (nI gg) np p z i).2 q = nI n
  | 0, _, q, h => absurd h (by omega)
  | i + 1, hi, q, h => by
    rw [pwI_s]
    show ∃ n, n < 1000 ∧ rP _ 6 (nI i) _ q = nI n
    rw [rP_n (by omega) (by decide)]
    by_cases hq : q = i
    · subst hq
      obtain ⟨n, hn, e⟩ := pwL_n (np := np) (show gg < 1000 by omega) (show q < 6 by omega) hme
      simp only [upd, if_true]
      by_cases hm : pwM p q = true
      · rw [if_pos hm]; exact ⟨0, by omega, rfl⟩
      · rw [if_neg hm, e, show (2 : Int32) = nI 2 from rfl, pk_mul]; exact ⟨2 * n, by omega, rfl⟩
    · simp only [upd, hq, if_false]
      exact pwI_op hgg hme i (by omega) q (by omega)
theorem pw_hs {μ : zH} {su op : Nat} (h : su ≠ op) (s o s' o' : Nat → Int32) : zhs (zhs (zhs (zhs μ su s) op o) su s') op o' = zhs (zhs μ su s') op o' := by
  funext a
  by_cases h1 : a = op
  · subst h1; rw [zhs_s, zhs_s]
  · rw [zhs_n _ _ h1, zhs_n _ _ h1]
    by_cases h2 : a = su
    · subst h2; rw [zhs_s, zhs_s]
    · rw [zhs_n _ _ h2, zhs_n _ _ h2, zhs_n _ _ h1, zhs_n _ _ h2]
theorem pw_h1 {μ : zH} {su op : Nat} (h : su ≠ op) (s o s' : Nat → Int32) : zhs (zhs (zhs μ su s) op o) su s' = zhs (zhs μ su s') op o := by
  funext a
  by_cases h1 : a = op
  · subst h1; rw [zhs_n _ _ (Ne.symm h), zhs_s, zhs_s]
  · by_cases h2 : a = su
    · subst h2; rw [zhs_s, zhs_n _ _ h, zhs_s]
    · rw [zhs_n _ _ h2, zhs_n _ _ h1, zhs_n _ _ h2, zhs_n _ _ h1, zhs_n _ _ h2]
def pwO (me lo : Nat → Int32) (g : Nat) (np : Int32) : (Int32 × ((Nat → Int32) × (Nat → Int32))) → Nat → (Int32 × ((Nat → Int32) × (Nat → Int32))) := fun z => zfold (fun p z => let y := pwI me (nI g) np (nI p) (scK me lo g (clr 4 z.2.1) 6, z.2.2) 6; (if csB y.2 (nI p) 6 0 y.1 = true then z.1 ||| (1 <<< (nI p &&& 31)) else z.1, y)) z
theorem pwO_s (me lo : Nat → Int32) (g : Nat) (np : Int32) (z : Int32 × ((Nat → Int32) × (Nat → Int32))) (p : Nat) : pwO me lo g np z (p + 1) = (if csB (pwI me (nI g) np (nI p) (scK me lo g (clr 4 (pwO me lo g np z p).2.1) 6, (pwO me lo g np z p).2.2) 6).2 (nI p) 6 0 (pwI me (nI g) np (nI p) (scK me lo g (clr 4 (pwO me lo g np z p).2.1) 6, (pwO me lo g np z p).2.2) 6).1 = true then (pwO me lo g np z p).1 ||| (1 <<< (nI p &&& 31)) else (pwO me lo g np z p).1, pwI me (nI g) np (nI p) (scK me lo g (clr 4 (pwO me lo g np z p).2.1) 6, (pwO me lo g np z p).2.2) 6) := rfl
theorem lp_X3_pwI {l : Launch} {X : zX} {d : Nat} {Ψ : List zC} {μ : zH} {g po me lo su op : Nat} (hl : oL Ψ g po me lo su op) {g0 np p s9 : Int32} (hxs : ∀ (f q : Nat → Int32) (j : Nat), j < 7 → zhs (zhs μ su f) op q (1000 + j) = zxc X j) {z0 : (Nat → Int32) × (Nat → Int32)} {r : Option zV} {S9 : zS} (K : zEv l X mi_X3_possibleWinners (d + 1) 142 [(0, .inr g), (1, .inl g0), (2, .inl np), (3, .inl s9), (4, .inl p)] [] (Ψ, zhs (zhs μ su (pwI (μ me) g0 np p z0 6).1) op (pwI (μ me) g0 np p z0 6).2) 0 0 r S9) : ∀ j i : Nat, i + j = 6 + 1 → i ≤ 6 → ∀ (x : Int32) (s : Nat → Int32) (q : Nat → Int32), x = nI i → True → (s, q) = pwI (μ me) g0 np p z0 i → zEv l X mi_X3_possibleWinners (d + 1) 19 [(0, .inr g), (1, .inl g0), (2, .inl np), (3, .inl s9), (4, .inl p), (5, .inl x)] [] (Ψ, (zhs (zhs μ su s) op q)) 0 0 r S9 := by
  intro j
  induction j with
  | zero => intro i h h2; omega
  | succ j ih =>
    intro i hij hle x s q hx hs hq 
    subst hx
    have n1 : me ≠ su := zne hl.2.2.1 hl.2.2.2.2.1 (by decide)
    have n2 : lo ≠ su := zne hl.2.2.2.1 hl.2.2.2.2.1 (by decide)
    have n3 : su ≠ op := zne hl.2.2.2.2.1 hl.2.2.2.2.2.1 (by decide)
    have n4 : me ≠ op := hl.2.2.2.2.2.2.2
    have n5 : lo ≠ op := zne hl.2.2.2.1 hl.2.2.2.2.2.1 (by decide)
    refine pv_iload t_X3_possibleWinners_19 rfl ?_
    refine pv_bipush (v := 6) t_X3_possibleWinners_21 zb_6 ?_
    refine pv_icmp_ge t_X3_possibleWinners_23 (fun c23 => ?_) (fun c23 => ?_)
    · skip
      have hie : i = 6 := by have := (nI_leI (a := 6) (by omega) (by omega)).mp c23; omega
      refine pv_loc (lv' := [(0, _), (1, _), (2, _), (3, _), (4, _)]) ⟨rfl, rfl, rfl, rfl, rfl, trivial⟩ ?_
      rw [hie] at hq
      have e1 : s = (pwI (μ me) g0 np p z0 6).1 := by rw [← hq]
      have e2 : q = (pwI (μ me) g0 np p z0 6).2 := by rw [← hq]
      rw [e1, e2]
      exact K
    · skip
      have hin : i < 6 := Nat.lt_of_not_le (fun q => c23 (nI_le (a := 6) q (by omega)))
      refine pv_gets t_X3_possibleWinners_26 gs_X3_53 (by decide) ?_
      refine pv_iload t_X3_possibleWinners_29 rfl ?_
      refine pv_gS2 t_X3_possibleWinners_31 ml_X3_37 mo_X8_at (Nat.le_of_ble_eq_true rfl) (e_X8_at zr5 (by decide)) (Nat.le_of_ble_eq_true rfl) ?_
      rw [hxs _ _ 5 (by decide), zx5 hin]
      refine pv_iload_n (i := 2) t_X3_possibleWinners_34 rfl rfl ?_
      refine pv_icmp_ge t_X3_possibleWinners_35 (fun c35 => ?_) (fun c35 => ?_)
      · skip
        have hLf : pwL (μ me) g0 np i = 0 := if_neg (Int32.not_lt.mpr c35)
        refine pv_iconst (v := 0) t_X3_possibleWinners_56 zi_0 ?_
        refine pv_istore t_X3_possibleWinners_57 (Nat.le_of_ble_eq_true rfl) ?_
        refine pv_gets t_X3_possibleWinners_59 gs_X3_45 (by decide) ?_
        refine pv_iload t_X3_possibleWinners_62 rfl ?_
        refine pv_gS2 t_X3_possibleWinners_64 ml_X3_37 mo_X8_at (Nat.le_of_ble_eq_true rfl) (e_X8_at zr4 (by decide)) (Nat.le_of_ble_eq_true rfl) ?_
        rw [hxs _ _ 4 (by decide), zx4 hin]
        refine pv_iload t_X3_possibleWinners_67 rfl ?_
        refine pv_icmp_eq t_X3_possibleWinners_69 (fun c69 => ?_) (fun c69 => ?_)
        · skip
          have hM : pwM p i = true := decide_eq_true (Or.inl c69)
          refine pv_iconst (v := 1) t_X3_possibleWinners_85 zi_1 ?_
          refine pv_goto t_X3_possibleWinners_86 ?_
          refine pv_istore t_X3_possibleWinners_90 (Nat.le_of_ble_eq_true rfl) ?_
          refine pv_aload_n (i := 0) t_X3_possibleWinners_92 rfl rfl ?_
          refine pv_getR t_X3_possibleWinners_93 fl_X3_21 hl.1 rfl ?_
          refine pv_iload t_X3_possibleWinners_96 rfl ?_
          refine pv_iload t_X3_possibleWinners_98 rfl ?_
          refine pv_if_eq t_X3_possibleWinners_100 (fun c100 => absurd c100 (by decide)) (fun c100 => ?_)
          refine pv_iconst (v := 2) t_X3_possibleWinners_103 zi_2 ?_
          refine pv_iload t_X3_possibleWinners_104 rfl ?_
          refine pv_imul t_X3_possibleWinners_106 ?_
          refine pv_goto t_X3_possibleWinners_107 ?_
          refine pv_gS3 t_X3_possibleWinners_111 ml_X3_67 mo_X8_add (Nat.le_of_ble_eq_true rfl) (e_X8_add hl.2.2.2.2.1 (by decide)) (Nat.le_of_ble_eq_true rfl) ?_
          refine pv_aload_n (i := 0) t_X3_possibleWinners_114 rfl rfl ?_
          refine pv_getR t_X3_possibleWinners_115 fl_X3_24 hl.1 rfl ?_
          refine pv_iload t_X3_possibleWinners_118 rfl ?_
          refine pv_iload t_X3_possibleWinners_120 rfl ?_
          refine pv_if_eq t_X3_possibleWinners_122 (fun c122 => absurd c122 (by decide)) (fun c122 => ?_)
          refine pv_iconst (v := 0) t_X3_possibleWinners_125 zi_0 ?_
          refine pv_goto t_X3_possibleWinners_126 ?_
          refine pv_gS3 t_X3_possibleWinners_133 ml_X3_63 mo_X8_put (Nat.le_of_ble_eq_true rfl) (e_X8_put hl.2.2.2.2.2.1 (by decide)) (Nat.le_of_ble_eq_true rfl) ?_
          refine pv_iinc (v := 1) t_X3_possibleWinners_136 rfl zi_1 ?_
          refine pv_goto t_X3_possibleWinners_139 ?_
          refine pv_loc (lv' := [(0, _), (1, _), (2, _), (3, _), (4, _), (5, _)]) ⟨rfl, rfl, rfl, rfl, rfl, rfl, trivial⟩ ?_
          refine zst (S2 := (Ψ, zhs (zhs μ su (pwS (μ me) g0 np p i (s, q)).1) op (pwS (μ me) g0 np p i (s, q)).2)) ?_ ?_
          · simp only [pw_h1 n3, zhs_hs, zhs_s, zhs_n _ _ n3]; simp only [pwS, hM, hLf]; first | rfl | (simp; rfl)
          exact ih (i + 1) (by omega) (by omega) _ _ _ (nI_1 i) trivial (by rw [pwI_s, ← hq])
        · skip
          refine pv_gets t_X3_possibleWinners_72 gs_X3_53 (by decide) ?_
          refine pv_iload t_X3_possibleWinners_75 rfl ?_
          refine pv_gS2 t_X3_possibleWinners_77 ml_X3_37 mo_X8_at (Nat.le_of_ble_eq_true rfl) (e_X8_at zr5 (by decide)) (Nat.le_of_ble_eq_true rfl) ?_
          rw [hxs _ _ 5 (by decide), zx5 hin]
          refine pv_iload t_X3_possibleWinners_80 rfl ?_
          refine pv_icmp_ne t_X3_possibleWinners_82 (fun c82 => ?_) (fun c82 => ?_)
          · skip
            have hM : pwM p i = false := decide_eq_false (fun z => z.elim c69 c82)
            refine pv_iconst (v := 0) t_X3_possibleWinners_89 zi_0 ?_
            refine pv_istore t_X3_possibleWinners_90 (Nat.le_of_ble_eq_true rfl) ?_
            refine pv_aload_n (i := 0) t_X3_possibleWinners_92 rfl rfl ?_
            refine pv_getR t_X3_possibleWinners_93 fl_X3_21 hl.1 rfl ?_
            refine pv_iload t_X3_possibleWinners_96 rfl ?_
            refine pv_iload t_X3_possibleWinners_98 rfl ?_
            refine pv_if_eq t_X3_possibleWinners_100 (fun c100 => ?_) (fun c100 => absurd (by decide) c100)
            refine pv_iconst (v := 0) t_X3_possibleWinners_110 zi_0 ?_
            refine pv_gS3 t_X3_possibleWinners_111 ml_X3_67 mo_X8_add (Nat.le_of_ble_eq_true rfl) (e_X8_add hl.2.2.2.2.1 (by decide)) (Nat.le_of_ble_eq_true rfl) ?_
            refine pv_aload_n (i := 0) t_X3_possibleWinners_114 rfl rfl ?_
            refine pv_getR t_X3_possibleWinners_115 fl_X3_24 hl.1 rfl ?_
            refine pv_iload t_X3_possibleWinners_118 rfl ?_
            refine pv_iload t_X3_possibleWinners_120 rfl ?_
            refine pv_if_eq t_X3_possibleWinners_122 (fun c122 => ?_) (fun c122 => absurd (by decide) c122)
            refine pv_iconst (v := 2) t_X3_possibleWinners_129 zi_2 ?_
            refine pv_iload t_X3_possibleWinners_130 rfl ?_
            refine pv_imul t_X3_possibleWinners_132 ?_
            refine pv_gS3 t_X3_possibleWinners_133 ml_X3_63 mo_X8_put (Nat.le_of_ble_eq_true rfl) (e_X8_put hl.2.2.2.2.2.1 (by decide)) (Nat.le_of_ble_eq_true rfl) ?_
            refine pv_iinc (v := 1) t_X3_possibleWinners_136 rfl zi_1 ?_
            refine pv_goto t_X3_possibleWinners_139 ?_
            refine pv_loc (lv' := [(0, _), (1, _), (2, _), (3, _), (4, _), (5, _)]) ⟨rfl, rfl, rfl, rfl, rfl, rfl, trivial⟩ ?_
            refine zst (S2 := (Ψ, zhs (zhs μ su (pwS (μ me) g0 np p i (s, q)).1) op (pwS (μ me) g0 np p i (s, q)).2)) ?_ ?_
            · simp only [pw_h1 n3, zhs_hs, zhs_s, zhs_n _ _ n3]; simp only [pwS, hM, hLf]; first | rfl | (simp; rfl)
            exact ih (i + 1) (by omega) (by omega) _ _ _ (nI_1 i) trivial (by rw [pwI_s, ← hq])
          · skip
            have hM : pwM p i = true := decide_eq_true (Or.inr c82)
            refine pv_iconst (v := 1) t_X3_possibleWinners_85 zi_1 ?_
            refine pv_goto t_X3_possibleWinners_86 ?_
            refine pv_istore t_X3_possibleWinners_90 (Nat.le_of_ble_eq_true rfl) ?_
            refine pv_aload_n (i := 0) t_X3_possibleWinners_92 rfl rfl ?_
            refine pv_getR t_X3_possibleWinners_93 fl_X3_21 hl.1 rfl ?_
            refine pv_iload t_X3_possibleWinners_96 rfl ?_
            refine pv_iload t_X3_possibleWinners_98 rfl ?_
            refine pv_if_eq t_X3_possibleWinners_100 (fun c100 => absurd c100 (by decide)) (fun c100 => ?_)
            refine pv_iconst (v := 2) t_X3_possibleWinners_103 zi_2 ?_
            refine pv_iload t_X3_possibleWinners_104 rfl ?_
            refine pv_imul t_X3_possibleWinners_106 ?_
            refine pv_goto t_X3_possibleWinners_107 ?_
            refine pv_gS3 t_X3_possibleWinners_111 ml_X3_67 mo_X8_add (Nat.le_of_ble_eq_true rfl) (e_X8_add hl.2.2.2.2.1 (by decide)) (Nat.le_of_ble_eq_true rfl) ?_
            refine pv_aload_n (i := 0) t_X3_possibleWinners_114 rfl rfl ?_
            refine pv_getR t_X3_possibleWinners_115 fl_X3_24 hl.1 rfl ?_
            refine pv_iload t_X3_possibleWinners_118 rfl ?_
            refine pv_iload t_X3_possibleWinners_120 rfl ?_
            refine pv_if_eq t_X3_possibleWinners_122 (fun c122 => absurd c122 (by decide)) (fun c122 => ?_)
            refine pv_iconst (v := 0) t_X3_possibleWinners_125 zi_0 ?_
            refine pv_goto t_X3_possibleWinners_126 ?_
            refine pv_gS3 t_X3_possibleWinners_133 ml_X3_63 mo_X8_put (Nat.le_of_ble_eq_true rfl) (e_X8_put hl.2.2.2.2.2.1 (by decide)) (Nat.le_of_ble_eq_true rfl) ?_
            refine pv_iinc (v := 1) t_X3_possibleWinners_136 rfl zi_1 ?_
            refine pv_goto t_X3_possibleWinners_139 ?_
            refine pv_loc (lv' := [(0, _), (1, _), (2, _), (3, _), (4, _), (5, _)]) ⟨rfl, rfl, rfl, rfl, rfl, rfl, trivial⟩ ?_
            refine zst (S2 := (Ψ, zhs (zhs μ su (pwS (μ me) g0 np p i (s, q)).1) op (pwS (μ me) g0 np p i (s, q)).2)) ?_ ?_
            · simp only [pw_h1 n3, zhs_hs, zhs_s, zhs_n _ _ n3]; simp only [pwS, hM, hLf]; first | rfl | (simp; rfl)
            exact ih (i + 1) (by omega) (by omega) _ _ _ (nI_1 i) trivial (by rw [pwI_s, ← hq])
      · skip
        have hLf : pwL (μ me) g0 np i = imax 0 (g0 - rA (μ me) 6 (nI i)) := if_pos (Int32.not_le.mp c35)
        refine pv_iconst (v := 0) t_X3_possibleWinners_38 zi_0 ?_
        refine pv_iload_n (i := 1) t_X3_possibleWinners_39 rfl rfl ?_
        refine pv_aload_n (i := 0) t_X3_possibleWinners_40 rfl rfl ?_
        refine pv_getR t_X3_possibleWinners_41 fl_X3_15 hl.1 rfl ?_
        refine pv_iload t_X3_possibleWinners_44 rfl ?_
        refine pv_gS2 t_X3_possibleWinners_46 ml_X3_37 mo_X8_at (Nat.le_of_ble_eq_true rfl) (e_X8_at (Or.inl hl.2.2.1) (by decide)) (Nat.le_of_ble_eq_true rfl) ?_
        rw [show zhs (zhs μ su s) op q me = μ me from (zhs_n _ _ n4).trans (zhs_n _ _ n1)]
        refine pv_isub t_X3_possibleWinners_49 ?_
        refine pv_gS2 t_X3_possibleWinners_50 ml_X3_56 mo_J_max (Nat.le_of_ble_eq_true rfl) (e_J_max (d := d)) (Nat.le_of_ble_eq_true rfl) ?_
        refine pv_goto t_X3_possibleWinners_53 ?_
        refine pv_istore t_X3_possibleWinners_57 (Nat.le_of_ble_eq_true rfl) ?_
        refine pv_gets t_X3_possibleWinners_59 gs_X3_45 (by decide) ?_
        refine pv_iload t_X3_possibleWinners_62 rfl ?_
        refine pv_gS2 t_X3_possibleWinners_64 ml_X3_37 mo_X8_at (Nat.le_of_ble_eq_true rfl) (e_X8_at zr4 (by decide)) (Nat.le_of_ble_eq_true rfl) ?_
        rw [hxs _ _ 4 (by decide), zx4 hin]
        refine pv_iload t_X3_possibleWinners_67 rfl ?_
        refine pv_icmp_eq t_X3_possibleWinners_69 (fun c69 => ?_) (fun c69 => ?_)
        · skip
          have hM : pwM p i = true := decide_eq_true (Or.inl c69)
          refine pv_iconst (v := 1) t_X3_possibleWinners_85 zi_1 ?_
          refine pv_goto t_X3_possibleWinners_86 ?_
          refine pv_istore t_X3_possibleWinners_90 (Nat.le_of_ble_eq_true rfl) ?_
          refine pv_aload_n (i := 0) t_X3_possibleWinners_92 rfl rfl ?_
          refine pv_getR t_X3_possibleWinners_93 fl_X3_21 hl.1 rfl ?_
          refine pv_iload t_X3_possibleWinners_96 rfl ?_
          refine pv_iload t_X3_possibleWinners_98 rfl ?_
          refine pv_if_eq t_X3_possibleWinners_100 (fun c100 => absurd c100 (by decide)) (fun c100 => ?_)
          refine pv_iconst (v := 2) t_X3_possibleWinners_103 zi_2 ?_
          refine pv_iload t_X3_possibleWinners_104 rfl ?_
          refine pv_imul t_X3_possibleWinners_106 ?_
          refine pv_goto t_X3_possibleWinners_107 ?_
          refine pv_gS3 t_X3_possibleWinners_111 ml_X3_67 mo_X8_add (Nat.le_of_ble_eq_true rfl) (e_X8_add hl.2.2.2.2.1 (by decide)) (Nat.le_of_ble_eq_true rfl) ?_
          refine pv_aload_n (i := 0) t_X3_possibleWinners_114 rfl rfl ?_
          refine pv_getR t_X3_possibleWinners_115 fl_X3_24 hl.1 rfl ?_
          refine pv_iload t_X3_possibleWinners_118 rfl ?_
          refine pv_iload t_X3_possibleWinners_120 rfl ?_
          refine pv_if_eq t_X3_possibleWinners_122 (fun c122 => absurd c122 (by decide)) (fun c122 => ?_)
          refine pv_iconst (v := 0) t_X3_possibleWinners_125 zi_0 ?_
          refine pv_goto t_X3_possibleWinners_126 ?_
          refine pv_gS3 t_X3_possibleWinners_133 ml_X3_63 mo_X8_put (Nat.le_of_ble_eq_true rfl) (e_X8_put hl.2.2.2.2.2.1 (by decide)) (Nat.le_of_ble_eq_true rfl) ?_
          refine pv_iinc (v := 1) t_X3_possibleWinners_136 rfl zi_1 ?_
          refine pv_goto t_X3_possibleWinners_139 ?_
          refine pv_loc (lv' := [(0, _), (1, _), (2, _), (3, _), (4, _), (5, _)]) ⟨rfl, rfl, rfl, rfl, rfl, rfl, trivial⟩ ?_
          refine zst (S2 := (Ψ, zhs (zhs μ su (pwS (μ me) g0 np p i (s, q)).1) op (pwS (μ me) g0 np p i (s, q)).2)) ?_ ?_
          · simp only [pw_h1 n3, zhs_hs, zhs_s, zhs_n _ _ n3]; simp only [pwS, hM, hLf]; first | rfl | (simp; rfl)
          exact ih (i + 1) (by omega) (by omega) _ _ _ (nI_1 i) trivial (by rw [pwI_s, ← hq])
        · skip
          refine pv_gets t_X3_possibleWinners_72 gs_X3_53 (by decide) ?_
          refine pv_iload t_X3_possibleWinners_75 rfl ?_
          refine pv_gS2 t_X3_possibleWinners_77 ml_X3_37 mo_X8_at (Nat.le_of_ble_eq_true rfl) (e_X8_at zr5 (by decide)) (Nat.le_of_ble_eq_true rfl) ?_
          rw [hxs _ _ 5 (by decide), zx5 hin]
          refine pv_iload t_X3_possibleWinners_80 rfl ?_
          refine pv_icmp_ne t_X3_possibleWinners_82 (fun c82 => ?_) (fun c82 => ?_)
          · skip
            have hM : pwM p i = false := decide_eq_false (fun z => z.elim c69 c82)
            refine pv_iconst (v := 0) t_X3_possibleWinners_89 zi_0 ?_
            refine pv_istore t_X3_possibleWinners_90 (Nat.le_of_ble_eq_true rfl) ?_
            refine pv_aload_n (i := 0) t_X3_possibleWinners_92 rfl rfl ?_
            refine pv_getR t_X3_possibleWinners_93 fl_X3_21 hl.1 rfl ?_
            refine pv_iload t_X3_possibleWinners_96 rfl ?_
            refine pv_iload t_X3_possibleWinners_98 rfl ?_
            refine pv_if_eq t_X3_possibleWinners_100 (fun c100 => ?_) (fun c100 => absurd (by decide) c100)
            refine pv_iconst (v := 0) t_X3_possibleWinners_110 zi_0 ?_
            refine pv_gS3 t_X3_possibleWinners_111 ml_X3_67 mo_X8_add (Nat.le_of_ble_eq_true rfl) (e_X8_add hl.2.2.2.2.1 (by decide)) (Nat.le_of_ble_eq_true rfl) ?_
            refine pv_aload_n (i := 0) t_X3_possibleWinners_114 rfl rfl ?_
            refine pv_getR t_X3_possibleWinners_115 fl_X3_24 hl.1 rfl ?_
            refine pv_iload t_X3_possibleWinners_118 rfl ?_
            refine pv_iload t_X3_possibleWinners_120 rfl ?_
            refine pv_if_eq t_X3_possibleWinners_122 (fun c122 => ?_) (fun c122 => absurd (by decide) c122)
            refine pv_iconst (v := 2) t_X3_possibleWinners_129 zi_2 ?_
            refine pv_iload t_X3_possibleWinners_130 rfl ?_
            refine pv_imul t_X3_possibleWinners_132 ?_
            refine pv_gS3 t_X3_possibleWinners_133 ml_X3_63 mo_X8_put (Nat.le_of_ble_eq_true rfl) (e_X8_put hl.2.2.2.2.2.1 (by decide)) (Nat.le_of_ble_eq_true rfl) ?_
            refine pv_iinc (v := 1) t_X3_possibleWinners_136 rfl zi_1 ?_
            refine pv_goto t_X3_possibleWinners_139 ?_
            refine pv_loc (lv' := [(0, _), (1, _), (2, _), (3, _), (4, _), (5, _)]) ⟨rfl, rfl, rfl, rfl, rfl, rfl, trivial⟩ ?_
            refine zst (S2 := (Ψ, zhs (zhs μ su (pwS (μ me) g0 np p i (s, q)).1) op (pwS (μ me) g0 np p i (s, q)).2)) ?_ ?_
            · simp only [pw_h1 n3, zhs_hs, zhs_s, zhs_n _ _ n3]; simp only [pwS, hM, hLf]; first | rfl | (simp; rfl)
            exact ih (i + 1) (by omega) (by omega) _ _ _ (nI_1 i) trivial (by rw [pwI_s, ← hq])
          · skip
            have hM : pwM p i = true := decide_eq_true (Or.inr c82)
            refine pv_iconst (v := 1) t_X3_possibleWinners_85 zi_1 ?_
            refine pv_goto t_X3_possibleWinners_86 ?_
            refine pv_istore t_X3_possibleWinners_90 (Nat.le_of_ble_eq_true rfl) ?_
            refine pv_aload_n (i := 0) t_X3_possibleWinners_92 rfl rfl ?_
            refine pv_getR t_X3_possibleWinners_93 fl_X3_21 hl.1 rfl ?_
            refine pv_iload t_X3_possibleWinners_96 rfl ?_
            refine pv_iload t_X3_possibleWinners_98 rfl ?_
            refine pv_if_eq t_X3_possibleWinners_100 (fun c100 => absurd c100 (by decide)) (fun c100 => ?_)
            refine pv_iconst (v := 2) t_X3_possibleWinners_103 zi_2 ?_
            refine pv_iload t_X3_possibleWinners_104 rfl ?_
            refine pv_imul t_X3_possibleWinners_106 ?_
            refine pv_goto t_X3_possibleWinners_107 ?_
            refine pv_gS3 t_X3_possibleWinners_111 ml_X3_67 mo_X8_add (Nat.le_of_ble_eq_true rfl) (e_X8_add hl.2.2.2.2.1 (by decide)) (Nat.le_of_ble_eq_true rfl) ?_
            refine pv_aload_n (i := 0) t_X3_possibleWinners_114 rfl rfl ?_
            refine pv_getR t_X3_possibleWinners_115 fl_X3_24 hl.1 rfl ?_
            refine pv_iload t_X3_possibleWinners_118 rfl ?_
            refine pv_iload t_X3_possibleWinners_120 rfl ?_
            refine pv_if_eq t_X3_possibleWinners_122 (fun c122 => absurd c122 (by decide)) (fun c122 => ?_)
            refine pv_iconst (v := 0) t_X3_possibleWinners_125 zi_0 ?_
            refine pv_goto t_X3_possibleWinners_126 ?_
            refine pv_gS3 t_X3_possibleWinners_133 ml_X3_63 mo_X8_put (Nat.le_of_ble_eq_true rfl) (e_X8_put hl.2.2.2.2.2.1 (by decide)) (Nat.le_of_ble_eq_true rfl) ?_
            refine pv_iinc (v := 1) t_X3_possibleWinners_136 rfl zi_1 ?_
            refine pv_goto t_X3_possibleWinners_139 ?_
            refine pv_loc (lv' := [(0, _), (1, _), (2, _), (3, _), (4, _), (5, _)]) ⟨rfl, rfl, rfl, rfl, rfl, rfl, trivial⟩ ?_
            refine zst (S2 := (Ψ, zhs (zhs μ su (pwS (μ me) g0 np p i (s, q)).1) op (pwS (μ me) g0 np p i (s, q)).2)) ?_ ?_
            · simp only [pw_h1 n3, zhs_hs, zhs_s, zhs_n _ _ n3]; simp only [pwS, hM, hLf]; first | rfl | (simp; rfl)
            exact ih (i + 1) (by omega) (by omega) _ _ _ (nI_1 i) trivial (by rw [pwI_s, ← hq])

theorem lp_X3_pwO {l : Launch} {X : zX} {d : Nat} {Ψ : List zC} {μ : zH} {g po me lo su op : Nat} (hl : oL Ψ g po me lo su op) {gg np : Nat} (hgg : gg < 1000) (hgg4 : gg < 400) (hnp : np < 1000) (hme : ∀ z, z < 6 → ∃ n, n < 100000 ∧ μ me z = nI n) (hxs : ∀ (f q : Nat → Int32) (j : Nat), j < 7 → zhs (zhs μ su f) op q (1000 + j) = zxc X j) {z0 : Int32 × ((Nat → Int32) × (Nat → Int32))} : ∀ j i : Nat, i + j = np + 1 → i ≤ np → ∀ (x : Int32) (s : Nat → Int32) (s9 : Int32) (q : Nat → Int32), x = nI i → True → True → (s9, (s, q)) = pwO (μ me) (μ lo) gg (nI np) z0 i → zEv l X mi_X3_possibleWinners (d + 2 + 6 + 1) 5 [(0, .inr g), (1, .inl (nI gg)), (2, .inl (nI np)), (3, .inl s9), (4, .inl x)] [] (Ψ, (zhs (zhs μ su s) op q)) 0 0 (some (.inl (pwO (μ me) (μ lo) gg (nI np) z0 np).1)) (Ψ, zhs (zhs μ su (pwO (μ me) (μ lo) gg (nI np) z0 np).2.1) op (pwO (μ me) (μ lo) gg (nI np) z0 np).2.2) := by
  intro j
  induction j with
  | zero => intro i h h2; omega
  | succ j ih =>
    intro i hij hle x s s9 q hx hs hs9 hq 
    subst hx
    have n1 : me ≠ su := zne hl.2.2.1 hl.2.2.2.2.1 (by decide)
    have n2 : lo ≠ su := zne hl.2.2.2.1 hl.2.2.2.2.1 (by decide)
    have n3 : su ≠ op := zne hl.2.2.2.2.1 hl.2.2.2.2.2.1 (by decide)
    have n4 : me ≠ op := hl.2.2.2.2.2.2.2
    have n5 : lo ≠ op := zne hl.2.2.2.1 hl.2.2.2.2.2.1 (by decide)
    refine pv_iload t_X3_possibleWinners_5 rfl ?_
    refine pv_iload_n (i := 2) t_X3_possibleWinners_7 rfl rfl ?_
    refine pv_icmp_ge t_X3_possibleWinners_8 (fun c8 => ?_) (fun c8 => ?_)
    · skip
      have hie : i = np := by have := (nI_leI (by omega) (by omega)).mp c8; omega
      rw [hie] at hq
      have e0 : s9 = (pwO (μ me) (μ lo) gg (nI np) z0 np).1 := by rw [← hq]
      have e1 : s = (pwO (μ me) (μ lo) gg (nI np) z0 np).2.1 := by rw [← hq]
      have e2 : q = (pwO (μ me) (μ lo) gg (nI np) z0 np).2.2 := by rw [← hq]
      rw [e0, e1, e2]
      refine pv_iload_n (i := 3) t_X3_possibleWinners_172 rfl rfl ?_
      exact pv_ireti t_X3_possibleWinners_173 rfl rfl rfl
    · skip
      have hin : i < np := Nat.lt_of_not_le (fun q => c8 (nI_le q (by omega)))
      refine pv_aload_n (i := 0) t_X3_possibleWinners_11 rfl rfl ?_
      refine pv_iload_n (i := 1) t_X3_possibleWinners_12 rfl rfl ?_
      refine pv_gV1 t_X3_possibleWinners_13 ml_X3_70 mo_X3_sumCounted hl.1 rfl (Nat.le_of_ble_eq_true rfl) (e_X3_sumCounted hl hgg) (Nat.le_of_ble_eq_true rfl) ?_
      refine zst (S2 := (Ψ, zhs (zhs μ su (scK (μ me) (μ lo) gg (clr 4 s) 6)) op q)) (by rw [pw_h1 n3, show zhs (zhs μ su s) op q me = μ me from (zhs_n _ _ n4).trans (zhs_n _ _ n1), show zhs (zhs μ su s) op q lo = μ lo from (zhs_n _ _ n5).trans (zhs_n _ _ n2), show zhs (zhs μ su s) op q su = s from (zhs_n _ _ n3).trans (zhs_s _ _ _)]) ?_
      refine pv_iconst (v := 0) t_X3_possibleWinners_16 zi_0 ?_
      refine pv_istore t_X3_possibleWinners_17 (Nat.le_of_ble_eq_true rfl) ?_
      refine lp_X3_pwI (s9 := s9) (z0 := ((scK (μ me) (μ lo) gg (clr 4 s) 6), q)) hl hxs ?_ 7 0 (by omega) (by omega) _ _ _ rfl trivial rfl
      refine pv_aload_n (i := 0) t_X3_possibleWinners_142 rfl rfl ?_
      refine pv_getR t_X3_possibleWinners_143 fl_X3_21 hl.1 rfl ?_
      refine pv_aload_n (i := 0) t_X3_possibleWinners_146 rfl rfl ?_
      refine pv_getR t_X3_possibleWinners_147 fl_X3_24 hl.1 rfl ?_
      refine pv_iload t_X3_possibleWinners_150 rfl ?_
      refine pv_iconst (v := 0) t_X3_possibleWinners_152 zi_0 ?_
      have hop : ∀ z, z < 6 → ∃ n, n < 1000 ∧ (zhs (zhs μ su (pwI (μ me) (nI gg) (nI np) (nI i) ((scK (μ me) (μ lo) gg (clr 4 s) 6), q) 6).1) op (pwI (μ me) (nI gg) (nI np) (nI i) ((scK (μ me) (μ lo) gg (clr 4 s) 6), q) 6).2) op z = nI n := fun z hz => by rw [zhs_s]; exact pwI_op (by omega) hme 6 (by omega) z hz
      refine pv_gS4 t_X3_possibleWinners_153 ml_X3_74 mo_X3_canSettle (Nat.le_of_ble_eq_true rfl) (e_X3_canSettle (d := d) 6 0 rfl _ hop hl.2.2.2.2.1 hl.2.2.2.2.2.1) (Nat.le_of_ble_eq_true rfl) ?_
      rw [show zhs (zhs μ su (pwI (μ me) (nI gg) (nI np) (nI i) ((scK (μ me) (μ lo) gg (clr 4 s) 6), q) 6).1) op (pwI (μ me) (nI gg) (nI np) (nI i) ((scK (μ me) (μ lo) gg (clr 4 s) 6), q) 6).2 op = (pwI (μ me) (nI gg) (nI np) (nI i) ((scK (μ me) (μ lo) gg (clr 4 s) 6), q) 6).2 from zhs_s _ _ _, show zhs (zhs μ su (pwI (μ me) (nI gg) (nI np) (nI i) ((scK (μ me) (μ lo) gg (clr 4 s) 6), q) 6).1) op (pwI (μ me) (nI gg) (nI np) (nI i) ((scK (μ me) (μ lo) gg (clr 4 s) 6), q) 6).2 su = (pwI (μ me) (nI gg) (nI np) (nI i) ((scK (μ me) (μ lo) gg (clr 4 s) 6), q) 6).1 from (zhs_n _ _ n3).trans (zhs_s _ _ _)]
      refine pv_if_eq t_X3_possibleWinners_156 (fun c156 => ?_) (fun c156 => ?_)
      · skip
        have hcs : ¬ csB (pwI (μ me) (nI gg) (nI np) (nI i) ((scK (μ me) (μ lo) gg (clr 4 s) 6), q) 6).2 (nI i) 6 0 (pwI (μ me) (nI gg) (nI np) (nI i) ((scK (μ me) (μ lo) gg (clr 4 s) 6), q) 6).1 = true := by rw [bz_0.mp c156]; decide
        refine pv_iinc (v := 1) t_X3_possibleWinners_166 rfl zi_1 ?_
        refine pv_goto t_X3_possibleWinners_169 ?_
        refine pv_loc (lv' := [(0, _), (1, _), (2, _), (3, _), (4, _)]) ⟨rfl, rfl, rfl, rfl, rfl, trivial⟩ ?_
        exact ih (i + 1) (by omega) (by omega) _ _ _ _ (nI_1 i) trivial trivial (by rw [pwO_s, ← hq]; first | rw [if_pos hcs] | rw [if_neg hcs])
      · skip
        have hcs : csB (pwI (μ me) (nI gg) (nI np) (nI i) ((scK (μ me) (μ lo) gg (clr 4 s) 6), q) 6).2 (nI i) 6 0 (pwI (μ me) (nI gg) (nI np) (nI i) ((scK (μ me) (μ lo) gg (clr 4 s) 6), q) 6).1 = true := bz_n.mp c156
        refine pv_iload_n (i := 3) t_X3_possibleWinners_159 rfl rfl ?_
        refine pv_iconst (v := 1) t_X3_possibleWinners_160 zi_1 ?_
        refine pv_iload t_X3_possibleWinners_161 rfl ?_
        refine pv_ishl t_X3_possibleWinners_163 ?_
        refine pv_ior t_X3_possibleWinners_164 ?_
        refine pv_istore_n (i := 3) t_X3_possibleWinners_165 rfl (Nat.le_of_ble_eq_true rfl) ?_
        refine pv_iinc (v := 1) t_X3_possibleWinners_166 rfl zi_1 ?_
        refine pv_goto t_X3_possibleWinners_169 ?_
        refine pv_loc (lv' := [(0, _), (1, _), (2, _), (3, _), (4, _)]) ⟨rfl, rfl, rfl, rfl, rfl, trivial⟩ ?_
        exact ih (i + 1) (by omega) (by omega) _ _ _ _ (nI_1 i) trivial trivial (by rw [pwO_s, ← hq]; first | rw [if_pos hcs] | rw [if_neg hcs])

theorem e_X3_possibleWinners {l : Launch} {X : zX} {d : Nat} {Ψ : List zC} {μ : zH} {g po me lo su op : Nat} (hl : oL Ψ g po me lo su op) {gg np : Nat} (hgg : gg < 1000) (hgg4 : gg < 400) (hnp : np < 1000) (hme : ∀ z, z < 6 → ∃ n, n < 100000 ∧ μ me z = nI n) : zRn l X mi_X3_possibleWinners (d + 2 + 6 + 1) [.inr g, .inl (nI gg), .inl (nI np)] (Ψ, μ) (some (.inl (pwO (μ me) (μ lo) gg (nI np) (0, (μ su, μ op)) np).1)) (Ψ, zhs (zhs μ su (pwO (μ me) (μ lo) gg (nI np) (0, (μ su, μ op)) np).2.1) op (pwO (μ me) (μ lo) gg (nI np) (0, (μ su, μ op)) np).2.2) := by
  refine pv_ext (fun hx => ?_)
  refine zhl (fun hlen => ?_)
  have hsl : su < 1000 := Nat.lt_of_lt_of_le (List.getElem?_eq_some_iff.mp hl.2.2.2.2.1).1 hlen
  have hol : op < 1000 := Nat.lt_of_lt_of_le (List.getElem?_eq_some_iff.mp hl.2.2.2.2.2.1).1 hlen
  have hxs : ∀ (f q : Nat → Int32) (j : Nat), j < 7 → zhs (zhs μ su f) op q (1000 + j) = zxc X j := fun f q j hj => by rw [zhs_n _ _ (by omega), zhs_n _ _ (by omega)]; exact hx j hj
  refine pv_iconst (v := 0) t_X3_possibleWinners_0 zi_0 ?_
  refine pv_istore_n (i := 3) t_X3_possibleWinners_1 rfl (Nat.le_of_ble_eq_true rfl) ?_
  refine pv_iconst (v := 0) t_X3_possibleWinners_2 zi_0 ?_
  refine pv_istore t_X3_possibleWinners_3 (Nat.le_of_ble_eq_true rfl) ?_
  refine zst (S2 := (Ψ, zhs (zhs μ su (μ su)) op (μ op))) (by rw [zhs_id, zhs_id]) ?_
  exact lp_X3_pwO (μ := μ) (z0 := (0, (μ su, μ op))) hl hgg hgg4 hnp hme hxs (np + 1) 0 (by omega) (by omega) _ _ _ _ rfl trivial trivial rfl

