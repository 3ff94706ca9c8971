theorem upn {f : Nat → Int32} {k j : Nat} {v : Int32} (h : j ≠ k) : upd f k v j = f j := if_neg h
theorem ups {f : Nat → Int32} {k : Nat} {v : Int32} : upd f k v k = v := if_pos rfl
theorem nb01 : nb 0 2 := ⟨by decide, rfl⟩
theorem ph_nb {c : Prop} [Decidable c] {A B : Int32} {n : Nat} (hA : nb A n) (hB : nb B n) : nb (if c then A else B) n := by
  split
  · exact hA
  · exact hB
theorem nb_lt {x : Int32} {n m : Nat} (h : nb x n) (hn : n < 2 ^ 31) (c : ¬ nI m ≤ x) (hm : m < 2 ^ 31) : x.toNatClampNeg < m := by
  rw [h.2] at c
  have := h.1
  exact Nat.lt_of_not_le (fun q => c ((nI_leI hm (by omega)).mpr q))
/-- the row of a duel: what a result needs -/
def OB (r : Nat → Int32) : Prop := (nb (r 20) 4 ∧ nb (r 21) 4 ∧ r 20 ≠ r 21) ∧ nb (r 24) 2 ∧ ∀ p, p < 6 → nb (r (45 + p)) 2000
/-- .. and a turn -/
def RB (r : Nat → Int32) : Prop := OB r ∧ ∀ i, 33 ≤ i → i < 41 → nb (r i) 100
def okW (k : Nat) : Prop := k < 20 ∨ (22 ≤ k ∧ k < 24) ∨ (25 ≤ k ∧ k < 45) ∨ 51 ≤ k
theorem OB.u {r : Nat → Int32} {k : Nat} {v : Int32} (h : OB r) (hk : okW k) : OB (upd r k v) := by
  unfold okW at hk
  refine ⟨⟨?_, ?_, ?_⟩, ?_, ?_⟩
  · rw [upn (by omega)]; exact h.1.1
  · rw [upn (by omega)]; exact h.1.2.1
  · rw [upn (by omega), upn (by omega)]; exact h.1.2.2
  · rw [upn (by omega)]; exact h.2.1
  · intro p hp
    rw [upn (by omega)]; exact h.2.2 p hp
theorem RB.u {r : Nat → Int32} {k : Nat} {v : Int32} (h : RB r) (hk : okW k) (h2 : k < 33 ∨ 41 ≤ k) : RB (upd r k v) :=
  ⟨h.1.u hk, fun i h3 h4 => by rw [upn (by omega)]; exact h.2 i h3 h4⟩
theorem OB.pr {r : Nat → Int32} (h : OB r) : a_X11_pairOf (r 20).toNatClampNeg (r 21).toNatClampNeg = nI (prN (r 20).toNatClampNeg (r 21).toNatClampNeg) ∧ prN (r 20).toNatClampNeg (r 21).toNatClampNeg < 6 :=
  pr_e _ h.1.1.1 _ h.1.2.1.1 (fun q => h.1.2.2 (h.1.1.2.trans ((congrArg nI q).trans h.1.2.1.2.symm)))
/-- f, but from lo to hi as g has it -/
def cpR (f g : Nat → Int32) (lo hi : Nat) : Nat → Int32 := fun k => if lo ≤ k ∧ k < hi then g k else f k
theorem cpR_0 {f g : Nat → Int32} {lo hi : Nat} (h : hi ≤ lo) : cpR f g lo hi = f := by
  funext k
  exact if_neg (by omega)
theorem cpR_s {f g : Nat → Int32} {lo hi hi' : Nat} {v : Int32} (h : lo ≤ hi) (hv : v = g hi) (e : hi' = hi + 1) : upd (cpR f g lo hi) hi v = cpR f g lo hi' := by
  subst e hv
  funext k
  unfold upd cpR
  by_cases h1 : k = hi
  · subst h1; rw [if_pos rfl, if_pos ⟨h, Nat.lt_succ_self _⟩]
  · rw [if_neg h1]
    by_cases h2 : lo ≤ k ∧ k < hi
    · rw [if_pos h2, if_pos ⟨h2.1, by omega⟩]
    · rw [if_neg h2, if_neg (by omega)]
theorem rem64 {x : Int32} (h : nb x 64) : x - x / 64 * 64 = nI x.toNatClampNeg := by
  have h1 : ∀ k, k < 64 → nI k - nI k / 64 * 64 = nI k := by decide +kernel
  rw [h.2]
  have := h1 _ h.1
  rw [nI_clamp (by have := h.1; omega)]
  exact this
def w_X11_over_72_72 (f72 : Nat → Int32) (z : Int32) : Nat → Int32 := (if 2 ≤ (f72 ((45 + prN (f72 20).toNatClampNeg (f72 21).toNatClampNeg))) then (upd (upd (upd (upd f72 22 z) ((41 + (f72 20).toNatClampNeg)) ((f72 ((41 + (f72 20).toNatClampNeg))) + (if z = 1 then (2 : Int32) else (if z = 3 then (1 : Int32) else (0 : Int32) : Int32)))) ((41 + (f72 21).toNatClampNeg)) ((f72 ((41 + (f72 21).toNatClampNeg))) + (2 - (if z = 1 then (2 : Int32) else (if z = 3 then (1 : Int32) else (0 : Int32) : Int32))))) ((45 + prN (f72 20).toNatClampNeg (f72 21).toNatClampNeg)) ((f72 ((45 + prN (f72 20).toNatClampNeg (f72 21).toNatClampNeg))) + 1)) else (upd (upd (upd (upd (upd f72 22 z) ((41 + (f72 20).toNatClampNeg)) ((f72 ((41 + (f72 20).toNatClampNeg))) + (if z = 1 then (2 : Int32) else (if z = 3 then (1 : Int32) else (0 : Int32) : Int32)))) ((41 + (f72 21).toNatClampNeg)) ((f72 ((41 + (f72 21).toNatClampNeg))) + (2 - (if z = 1 then (2 : Int32) else (if z = 3 then (1 : Int32) else (0 : Int32) : Int32))))) (((51 + (2 * prN (f72 20).toNatClampNeg (f72 21).toNatClampNeg)) + (f72 (45 + prN (f72 20).toNatClampNeg (f72 21).toNatClampNeg)).toNatClampNeg)) (if (f72 21) ≤ (f72 20) then (2 - (if z = 1 then (2 : Int32) else (if z = 3 then (1 : Int32) else (0 : Int32) : Int32)) : Int32) else (if z = 1 then (2 : Int32) else (if z = 3 then (1 : Int32) else (0 : Int32) : Int32) : Int32))) ((45 + prN (f72 20).toNatClampNeg (f72 21).toNatClampNeg)) ((f72 ((45 + prN (f72 20).toNatClampNeg (f72 21).toNatClampNeg))) + 1)))
theorem e_X11_over_72 {l : Launch} {X : zX} {d : Nat} {μ : zH} {z : Int32} (hO : OB (μ 72)) : zRn l X mi_X11_over (d + 3) [.inr 72, .inl (z)] (zSH, μ) none (zSH, (zhs μ 72 (w_X11_over_72_72 (μ 72) z))) := by
  obtain ⟨hp1, hp2⟩ := hO.pr
  have ha4 := hO.1.1.1
  have hb4 := hO.1.2.1.1
  have hab : ¬ ((μ 72) 20).toNatClampNeg = ((μ 72) 21).toNatClampNeg := fun q => hO.1.2.2 (hO.1.1.2.trans ((congrArg nI q).trans hO.1.2.1.2.symm))
  have hm4 := hO.2.2 _ hp2
  refine pv_aload_n (i := 0) t_X11_over_0 rfl rfl ?_
  refine pv_bipush (v := 20) t_X11_over_1 zb_20 ?_
  refine sv_iald ((μ 72) 20) t_X11_over_3 (Or.inl hh_72) (zin (by decide)) rfl ?_
  refine pv_istore_n (i := 2) t_X11_over_4 rfl (Nat.le_of_ble_eq_true rfl) ?_
  refine pv_aload_n (i := 0) t_X11_over_5 rfl rfl ?_
  refine pv_bipush (v := 21) t_X11_over_6 zb_21 ?_
  refine sv_iald ((μ 72) 21) t_X11_over_8 (Or.inl hh_72) (zin (by decide)) rfl ?_
  refine pv_istore_n (i := 3) t_X11_over_9 rfl (Nat.le_of_ble_eq_true rfl) ?_
  refine pv_iload_n (i := 1) t_X11_over_10 rfl rfl ?_
  refine pv_iconst (v := 1) t_X11_over_11 zi_1 ?_
  refine sv_phi (c := z = 1) (A := 2) (B := if z = 3 then (1 : Int32) else (0 : Int32)) (J := 29) (lv := [(0, .inr 72), (1, .inl z), (2, .inl ((μ 72) 20)), (3, .inl ((μ 72) 21))]) (st := []) (S := (zSH, μ)) (fun kT kF => ?_) ?_
  · skip
    refine pv_icmp_ne t_X11_over_12 (fun c12 => ?_) (fun c12 => ?_)
    · skip
      refine pv_iload_n (i := 1) t_X11_over_19 rfl rfl ?_
      refine pv_iconst (v := 3) t_X11_over_20 zi_3 ?_
      refine sv_phi (c := z = 3) (A := 1) (B := 0) (J := 29) (lv := [(0, .inr 72), (1, .inl z), (2, .inl ((μ 72) 20)), (3, .inl ((μ 72) 21))]) (st := []) (S := (zSH, μ)) (fun kT kF => ?_) ?_
      · skip
        refine pv_icmp_ne t_X11_over_21 (fun c21 => ?_) (fun c21 => ?_)
        · skip
          refine pv_iconst (v := 0) t_X11_over_28 zi_0 ?_
          exact kF c21
        · skip
          refine pv_iconst (v := 1) t_X11_over_24 zi_1 ?_
          refine pv_goto t_X11_over_25 ?_
          exact kT c21
      exact kF c12
    · skip
      refine pv_iconst (v := 2) t_X11_over_15 zi_2 ?_
      refine pv_goto t_X11_over_16 ?_
      exact kT c12
  refine pv_istore t_X11_over_29 (Nat.le_of_ble_eq_true rfl) ?_
  refine pv_iload_n (i := 2) t_X11_over_31 rfl rfl ?_
  refine pv_iload_n (i := 3) t_X11_over_32 rfl rfl ?_
  refine sv_S2 (a_X11_pairOf (((μ 72) 20).toNatClampNeg) (((μ 72) 21).toNatClampNeg)) μ t_X11_over_33 ml_X11_189 mo_X11_pairOf (Nat.le_of_ble_eq_true rfl) (zas (lcI (k := ((μ 72) 20).toNatClampNeg) (nb_k hO.1.1) (lcI (k := ((μ 72) 21).toNatClampNeg) (nb_k hO.1.2.1) rfl)) (e_X11_pairOf (a := ((μ 72) 20).toNatClampNeg) (b := ((μ 72) 21).toNatClampNeg))) (Nat.le_of_ble_eq_true rfl) rfl rfl ?_
  refine pv_istore t_X11_over_36 (Nat.le_of_ble_eq_true rfl) ?_
  refine pv_aload_n (i := 0) t_X11_over_38 rfl rfl ?_
  refine pv_bipush (v := 22) t_X11_over_39 zb_22 ?_
  refine pv_iload_n (i := 1) t_X11_over_41 rfl rfl ?_
  refine sv_iast ((zhs μ 72 ((upd (μ 72) 22 z)))) t_X11_over_42 hh_72 (zin (by decide)) rfl ?_
  refine pv_aload_n (i := 0) t_X11_over_43 rfl rfl ?_
  refine pv_bipush (v := 41) t_X11_over_44 zb_41 ?_
  refine pv_iload_n (i := 2) t_X11_over_46 rfl rfl ?_
  refine pv_iadd t_X11_over_47 ?_
  refine pv_dup2 t_X11_over_48 ?_
  refine sv_iald ((μ 72) ((41 + ((μ 72) 20).toNatClampNeg))) t_X11_over_49 (Or.inl hh_72) (ixi (k := (41 + ((μ 72) 20).toNatClampNeg)) (nIa rfl (nb_k hO.1.1)) (by omega) (by decide)) ((ixe (k := (41 + ((μ 72) 20).toNatClampNeg)) (nIa rfl (nb_k hO.1.1)) (by omega)).trans (by (try simp (disch := decide) only [zhs_d, zhs_s]); repeat (first | rw [upn (by omega)] | rw [ups] | rfl))) ?_
  refine pv_iload t_X11_over_50 rfl ?_
  refine pv_iadd t_X11_over_52 ?_
  refine sv_iast ((zhs μ 72 ((upd (upd (μ 72) 22 z) ((41 + ((μ 72) 20).toNatClampNeg)) (((μ 72) ((41 + ((μ 72) 20).toNatClampNeg))) + (if z = 1 then (2 : Int32) else (if z = 3 then (1 : Int32) else (0 : Int32) : Int32))))))) t_X11_over_53 hh_72 (ixi (k := (41 + ((μ 72) 20).toNatClampNeg)) (nIa rfl (nb_k hO.1.1)) (by omega) (by decide)) (by rw [ixc (x := 41 + ((μ 72) 20)) (k := (41 + ((μ 72) 20).toNatClampNeg)) (nIa rfl (nb_k hO.1.1)) (by omega), zhs_hs] <;> (first | rfl | (congr 1; funext k_; simp only [upd]; ((repeat' split) <;> first | rfl | (simp_all; done))))) ?_
  refine pv_aload_n (i := 0) t_X11_over_54 rfl rfl ?_
  refine pv_bipush (v := 41) t_X11_over_55 zb_41 ?_
  refine pv_iload_n (i := 3) t_X11_over_57 rfl rfl ?_
  refine pv_iadd t_X11_over_58 ?_
  refine pv_dup2 t_X11_over_59 ?_
  refine sv_iald ((μ 72) ((41 + ((μ 72) 21).toNatClampNeg))) t_X11_over_60 (Or.inl hh_72) (ixi (k := (41 + ((μ 72) 21).toNatClampNeg)) (nIa rfl (nb_k hO.1.2.1)) (by omega) (by decide)) ((ixe (k := (41 + ((μ 72) 21).toNatClampNeg)) (nIa rfl (nb_k hO.1.2.1)) (by omega)).trans (by (try simp (disch := decide) only [zhs_d, zhs_s]); repeat (first | rw [upn (by omega)] | rw [ups] | rfl))) ?_
  refine pv_iconst (v := 2) t_X11_over_61 zi_2 ?_
  refine pv_iload t_X11_over_62 rfl ?_
  refine pv_isub t_X11_over_64 ?_
  refine pv_iadd t_X11_over_65 ?_
  refine sv_iast ((zhs μ 72 ((upd (upd (upd (μ 72) 22 z) ((41 + ((μ 72) 20).toNatClampNeg)) (((μ 72) ((41 + ((μ 72) 20).toNatClampNeg))) + (if z = 1 then (2 : Int32) else (if z = 3 then (1 : Int32) else (0 : Int32) : Int32)))) ((41 + ((μ 72) 21).toNatClampNeg)) (((μ 72) ((41 + ((μ 72) 21).toNatClampNeg))) + (2 - (if z = 1 then (2 : Int32) else (if z = 3 then (1 : Int32) else (0 : Int32) : Int32)))))))) t_X11_over_66 hh_72 (ixi (k := (41 + ((μ 72) 21).toNatClampNeg)) (nIa rfl (nb_k hO.1.2.1)) (by omega) (by decide)) (by rw [ixc (x := 41 + ((μ 72) 21)) (k := (41 + ((μ 72) 21).toNatClampNeg)) (nIa rfl (nb_k hO.1.2.1)) (by omega), zhs_hs] <;> (first | rfl | (congr 1; funext k_; simp only [upd]; ((repeat' split) <;> first | rfl | (simp_all; done))))) ?_
  refine pv_aload_n (i := 0) t_X11_over_67 rfl rfl ?_
  refine pv_bipush (v := 45) t_X11_over_68 zb_45 ?_
  refine pv_iload t_X11_over_70 rfl ?_
  refine pv_iadd t_X11_over_72 ?_
  refine sv_iald ((μ 72) ((45 + prN ((μ 72) 20).toNatClampNeg ((μ 72) 21).toNatClampNeg))) t_X11_over_73 (Or.inl hh_72) (ixi (k := (45 + prN ((μ 72) 20).toNatClampNeg ((μ 72) 21).toNatClampNeg)) (nIa rfl hp1) (by omega) (by decide)) ((ixe (k := (45 + prN ((μ 72) 20).toNatClampNeg ((μ 72) 21).toNatClampNeg)) (nIa rfl hp1) (by omega)).trans (by (try simp (disch := decide) only [zhs_d, zhs_s]); repeat (first | rw [upn (by omega)] | rw [ups] | rfl))) ?_
  refine pv_iconst (v := 2) t_X11_over_74 zi_2 ?_
  refine pv_icmp_ge t_X11_over_75 (fun c75 => ?_) (fun c75 => ?_)
  · skip
    refine pv_aload_n (i := 0) t_X11_over_109 rfl rfl ?_
    refine pv_bipush (v := 45) t_X11_over_110 zb_45 ?_
    refine pv_iload t_X11_over_112 rfl ?_
    refine pv_iadd t_X11_over_114 ?_
    refine pv_dup2 t_X11_over_115 ?_
    refine sv_iald ((μ 72) ((45 + prN ((μ 72) 20).toNatClampNeg ((μ 72) 21).toNatClampNeg))) t_X11_over_116 (Or.inl hh_72) (ixi (k := (45 + prN ((μ 72) 20).toNatClampNeg ((μ 72) 21).toNatClampNeg)) (nIa rfl hp1) (by omega) (by decide)) ((ixe (k := (45 + prN ((μ 72) 20).toNatClampNeg ((μ 72) 21).toNatClampNeg)) (nIa rfl hp1) (by omega)).trans (by (try simp (disch := decide) only [zhs_d, zhs_s]); repeat (first | rw [upn (by omega)] | rw [ups] | rfl))) ?_
    refine pv_iconst (v := 1) t_X11_over_117 zi_1 ?_
    refine pv_iadd t_X11_over_118 ?_
    refine sv_iast ((zhs μ 72 ((upd (upd (upd (upd (μ 72) 22 z) ((41 + ((μ 72) 20).toNatClampNeg)) (((μ 72) ((41 + ((μ 72) 20).toNatClampNeg))) + (if z = 1 then (2 : Int32) else (if z = 3 then (1 : Int32) else (0 : Int32) : Int32)))) ((41 + ((μ 72) 21).toNatClampNeg)) (((μ 72) ((41 + ((μ 72) 21).toNatClampNeg))) + (2 - (if z = 1 then (2 : Int32) else (if z = 3 then (1 : Int32) else (0 : Int32) : Int32))))) ((45 + prN ((μ 72) 20).toNatClampNeg ((μ 72) 21).toNatClampNeg)) (((μ 72) ((45 + prN ((μ 72) 20).toNatClampNeg ((μ 72) 21).toNatClampNeg))) + 1))))) t_X11_over_119 hh_72 (ixi (k := (45 + prN ((μ 72) 20).toNatClampNeg ((μ 72) 21).toNatClampNeg)) (nIa rfl hp1) (by omega) (by decide)) (by rw [ixc (x := 45 + (a_X11_pairOf (((μ 72) 20).toNatClampNeg) (((μ 72) 21).toNatClampNeg))) (k := (45 + prN ((μ 72) 20).toNatClampNeg ((μ 72) 21).toNatClampNeg)) (nIa rfl hp1) (by omega), zhs_hs] <;> (first | rfl | (congr 1; funext k_; simp only [upd]; ((repeat' split) <;> first | rfl | (simp_all; done))))) ?_
    exact pv_vret t_X11_over_120 rfl (Prod.ext rfl (by have e72 : w_X11_over_72_72 (μ 72) z = (upd (upd (upd (upd (μ 72) 22 z) ((41 + ((μ 72) 20).toNatClampNeg)) (((μ 72) ((41 + ((μ 72) 20).toNatClampNeg))) + (if z = 1 then (2 : Int32) else (if z = 3 then (1 : Int32) else (0 : Int32) : Int32)))) ((41 + ((μ 72) 21).toNatClampNeg)) (((μ 72) ((41 + ((μ 72) 21).toNatClampNeg))) + (2 - (if z = 1 then (2 : Int32) else (if z = 3 then (1 : Int32) else (0 : Int32) : Int32))))) ((45 + prN ((μ 72) 20).toNatClampNeg ((μ 72) 21).toNatClampNeg)) (((μ 72) ((45 + prN ((μ 72) 20).toNatClampNeg ((μ 72) 21).toNatClampNeg))) + 1)) := (by unfold w_X11_over_72_72; rw [if_pos c75]); show _ = (zhs μ 72 (w_X11_over_72_72 (μ 72) z)); symm; rw [e72]))
  · skip
    have hm2 : ((μ 72) (45 + prN ((μ 72) 20).toNatClampNeg ((μ 72) 21).toNatClampNeg)).toNatClampNeg < 2 := nb_lt (m := 2) hm4 (by decide) c75 (by decide)
    refine pv_aload_n (i := 0) t_X11_over_78 rfl rfl ?_
    refine pv_bipush (v := 51) t_X11_over_79 zb_51 ?_
    refine pv_iconst (v := 2) t_X11_over_81 zi_2 ?_
    refine pv_iload t_X11_over_82 rfl ?_
    refine pv_imul t_X11_over_84 ?_
    refine pv_iadd t_X11_over_85 ?_
    refine pv_aload_n (i := 0) t_X11_over_86 rfl rfl ?_
    refine pv_bipush (v := 45) t_X11_over_87 zb_45 ?_
    refine pv_iload t_X11_over_89 rfl ?_
    refine pv_iadd t_X11_over_91 ?_
    refine sv_iald ((μ 72) ((45 + prN ((μ 72) 20).toNatClampNeg ((μ 72) 21).toNatClampNeg))) t_X11_over_92 (Or.inl hh_72) (ixi (k := (45 + prN ((μ 72) 20).toNatClampNeg ((μ 72) 21).toNatClampNeg)) (nIa rfl hp1) (by omega) (by decide)) ((ixe (k := (45 + prN ((μ 72) 20).toNatClampNeg ((μ 72) 21).toNatClampNeg)) (nIa rfl hp1) (by omega)).trans (by (try simp (disch := decide) only [zhs_d, zhs_s]); repeat (first | rw [upn (by omega)] | rw [ups] | rfl))) ?_
    refine pv_iadd t_X11_over_93 ?_
    refine pv_iload_n (i := 2) t_X11_over_94 rfl rfl ?_
    refine pv_iload_n (i := 3) t_X11_over_95 rfl rfl ?_
    refine sv_phi (c := ((μ 72) 21) ≤ ((μ 72) 20)) (A := 2 - (if z = 1 then (2 : Int32) else (if z = 3 then (1 : Int32) else (0 : Int32) : Int32))) (B := if z = 1 then (2 : Int32) else (if z = 3 then (1 : Int32) else (0 : Int32) : Int32)) (J := 108) (lv := [(0, .inr 72), (1, .inl z), (2, .inl ((μ 72) 20)), (3, .inl ((μ 72) 21)), (4, .inl (if z = 1 then (2 : Int32) else (if z = 3 then (1 : Int32) else (0 : Int32) : Int32))), (5, .inl (a_X11_pairOf (((μ 72) 20).toNatClampNeg) (((μ 72) 21).toNatClampNeg)))]) (st := [.inl ((51 + (2 * (a_X11_pairOf (((μ 72) 20).toNatClampNeg) (((μ 72) 21).toNatClampNeg)))) + ((μ 72) ((45 + prN ((μ 72) 20).toNatClampNeg ((μ 72) 21).toNatClampNeg)))), .inr 72]) (S := (zSH, (zhs μ 72 ((upd (upd (upd (μ 72) 22 z) ((41 + ((μ 72) 20).toNatClampNeg)) (((μ 72) ((41 + ((μ 72) 20).toNatClampNeg))) + (if z = 1 then (2 : Int32) else (if z = 3 then (1 : Int32) else (0 : Int32) : Int32)))) ((41 + ((μ 72) 21).toNatClampNeg)) (((μ 72) ((41 + ((μ 72) 21).toNatClampNeg))) + (2 - (if z = 1 then (2 : Int32) else (if z = 3 then (1 : Int32) else (0 : Int32) : Int32))))))))) (fun kT kF => ?_) ?_
    · skip
      refine pv_icmp_ge t_X11_over_96 (fun c96 => ?_) (fun c96 => ?_)
      · skip
        refine pv_iconst (v := 2) t_X11_over_104 zi_2 ?_
        refine pv_iload t_X11_over_105 rfl ?_
        refine pv_isub t_X11_over_107 ?_
        exact kT c96
      · skip
        refine pv_iload t_X11_over_99 rfl ?_
        refine pv_goto t_X11_over_101 ?_
        exact kF c96
    refine sv_iast ((zhs μ 72 ((upd (upd (upd (upd (μ 72) 22 z) ((41 + ((μ 72) 20).toNatClampNeg)) (((μ 72) ((41 + ((μ 72) 20).toNatClampNeg))) + (if z = 1 then (2 : Int32) else (if z = 3 then (1 : Int32) else (0 : Int32) : Int32)))) ((41 + ((μ 72) 21).toNatClampNeg)) (((μ 72) ((41 + ((μ 72) 21).toNatClampNeg))) + (2 - (if z = 1 then (2 : Int32) else (if z = 3 then (1 : Int32) else (0 : Int32) : Int32))))) (((51 + (2 * prN ((μ 72) 20).toNatClampNeg ((μ 72) 21).toNatClampNeg)) + ((μ 72) (45 + prN ((μ 72) 20).toNatClampNeg ((μ 72) 21).toNatClampNeg)).toNatClampNeg)) (if ((μ 72) 21) ≤ ((μ 72) 20) then (2 - (if z = 1 then (2 : Int32) else (if z = 3 then (1 : Int32) else (0 : Int32) : Int32)) : Int32) else (if z = 1 then (2 : Int32) else (if z = 3 then (1 : Int32) else (0 : Int32) : Int32) : Int32)))))) t_X11_over_108 hh_72 (ixi (k := ((51 + (2 * prN ((μ 72) 20).toNatClampNeg ((μ 72) 21).toNatClampNeg)) + ((μ 72) (45 + prN ((μ 72) 20).toNatClampNeg ((μ 72) 21).toNatClampNeg)).toNatClampNeg)) (nIa (nIa rfl (nIm rfl hp1)) (by repeat (first | exact nb_k hm4 | rw [upn (by omega)]))) (by omega) (by decide)) (by rw [ixc (x := (51 + (2 * (a_X11_pairOf (((μ 72) 20).toNatClampNeg) (((μ 72) 21).toNatClampNeg)))) + ((μ 72) ((45 + prN ((μ 72) 20).toNatClampNeg ((μ 72) 21).toNatClampNeg)))) (k := ((51 + (2 * prN ((μ 72) 20).toNatClampNeg ((μ 72) 21).toNatClampNeg)) + ((μ 72) (45 + prN ((μ 72) 20).toNatClampNeg ((μ 72) 21).toNatClampNeg)).toNatClampNeg)) (nIa (nIa rfl (nIm rfl hp1)) (by repeat (first | exact nb_k hm4 | rw [upn (by omega)]))) (by omega), zhs_hs] <;> (first | rfl | (congr 1; funext k_; simp only [upd]; ((repeat' split) <;> first | rfl | (simp_all; done))))) ?_
    refine pv_aload_n (i := 0) t_X11_over_109 rfl rfl ?_
    refine pv_bipush (v := 45) t_X11_over_110 zb_45 ?_
    refine pv_iload t_X11_over_112 rfl ?_
    refine pv_iadd t_X11_over_114 ?_
    refine pv_dup2 t_X11_over_115 ?_
    refine sv_iald ((μ 72) ((45 + prN ((μ 72) 20).toNatClampNeg ((μ 72) 21).toNatClampNeg))) t_X11_over_116 (Or.inl hh_72) (ixi (k := (45 + prN ((μ 72) 20).toNatClampNeg ((μ 72) 21).toNatClampNeg)) (nIa rfl hp1) (by omega) (by decide)) ((ixe (k := (45 + prN ((μ 72) 20).toNatClampNeg ((μ 72) 21).toNatClampNeg)) (nIa rfl hp1) (by omega)).trans (by (try simp (disch := decide) only [zhs_d, zhs_s]); repeat (first | rw [upn (by omega)] | rw [ups] | rfl))) ?_
    refine pv_iconst (v := 1) t_X11_over_117 zi_1 ?_
    refine pv_iadd t_X11_over_118 ?_
    refine sv_iast ((zhs μ 72 ((upd (upd (upd (upd (upd (μ 72) 22 z) ((41 + ((μ 72) 20).toNatClampNeg)) (((μ 72) ((41 + ((μ 72) 20).toNatClampNeg))) + (if z = 1 then (2 : Int32) else (if z = 3 then (1 : Int32) else (0 : Int32) : Int32)))) ((41 + ((μ 72) 21).toNatClampNeg)) (((μ 72) ((41 + ((μ 72) 21).toNatClampNeg))) + (2 - (if z = 1 then (2 : Int32) else (if z = 3 then (1 : Int32) else (0 : Int32) : Int32))))) (((51 + (2 * prN ((μ 72) 20).toNatClampNeg ((μ 72) 21).toNatClampNeg)) + ((μ 72) (45 + prN ((μ 72) 20).toNatClampNeg ((μ 72) 21).toNatClampNeg)).toNatClampNeg)) (if ((μ 72) 21) ≤ ((μ 72) 20) then (2 - (if z = 1 then (2 : Int32) else (if z = 3 then (1 : Int32) else (0 : Int32) : Int32)) : Int32) else (if z = 1 then (2 : Int32) else (if z = 3 then (1 : Int32) else (0 : Int32) : Int32) : Int32))) ((45 + prN ((μ 72) 20).toNatClampNeg ((μ 72) 21).toNatClampNeg)) (((μ 72) ((45 + prN ((μ 72) 20).toNatClampNeg ((μ 72) 21).toNatClampNeg))) + 1))))) t_X11_over_119 hh_72 (ixi (k := (45 + prN ((μ 72) 20).toNatClampNeg ((μ 72) 21).toNatClampNeg)) (nIa rfl hp1) (by omega) (by decide)) (by rw [ixc (x := 45 + (a_X11_pairOf (((μ 72) 20).toNatClampNeg) (((μ 72) 21).toNatClampNeg))) (k := (45 + prN ((μ 72) 20).toNatClampNeg ((μ 72) 21).toNatClampNeg)) (nIa rfl hp1) (by omega), zhs_hs] <;> (first | rfl | (congr 1; funext k_; simp only [upd]; ((repeat' split) <;> first | rfl | (simp_all; done))))) ?_
    exact pv_vret t_X11_over_120 rfl (Prod.ext rfl (by have e72 : w_X11_over_72_72 (μ 72) z = (upd (upd (upd (upd (upd (μ 72) 22 z) ((41 + ((μ 72) 20).toNatClampNeg)) (((μ 72) ((41 + ((μ 72) 20).toNatClampNeg))) + (if z = 1 then (2 : Int32) else (if z = 3 then (1 : Int32) else (0 : Int32) : Int32)))) ((41 + ((μ 72) 21).toNatClampNeg)) (((μ 72) ((41 + ((μ 72) 21).toNatClampNeg))) + (2 - (if z = 1 then (2 : Int32) else (if z = 3 then (1 : Int32) else (0 : Int32) : Int32))))) (((51 + (2 * prN ((μ 72) 20).toNatClampNeg ((μ 72) 21).toNatClampNeg)) + ((μ 72) (45 + prN ((μ 72) 20).toNatClampNeg ((μ 72) 21).toNatClampNeg)).toNatClampNeg)) (if ((μ 72) 21) ≤ ((μ 72) 20) then (2 - (if z = 1 then (2 : Int32) else (if z = 3 then (1 : Int32) else (0 : Int32) : Int32)) : Int32) else (if z = 1 then (2 : Int32) else (if z = 3 then (1 : Int32) else (0 : Int32) : Int32) : Int32))) ((45 + prN ((μ 72) 20).toNatClampNeg ((μ 72) 21).toNatClampNeg)) (((μ 72) ((45 + prN ((μ 72) 20).toNatClampNeg ((μ 72) 21).toNatClampNeg))) + 1)) := (by unfold w_X11_over_72_72; rw [if_neg c75]); show _ = (zhs μ 72 (w_X11_over_72_72 (μ 72) z)); symm; rw [e72]))
def w_X11_over_73_73 (f73 : Nat → Int32) (z : Int32) : Nat → Int32 := (if 2 ≤ (f73 ((45 + prN (f73 20).toNatClampNeg (f73 21).toNatClampNeg))) then (upd (upd (upd (upd f73 22 z) ((41 + (f73 20).toNatClampNeg)) ((f73 ((41 + (f73 20).toNatClampNeg))) + (if z = 1 then (2 : Int32) else (if z = 3 then (1 : Int32) else (0 : Int32) : Int32)))) ((41 + (f73 21).toNatClampNeg)) ((f73 ((41 + (f73 21).toNatClampNeg))) + (2 - (if z = 1 then (2 : Int32) else (if z = 3 then (1 : Int32) else (0 : Int32) : Int32))))) ((45 + prN (f73 20).toNatClampNeg (f73 21).toNatClampNeg)) ((f73 ((45 + prN (f73 20).toNatClampNeg (f73 21).toNatClampNeg))) + 1)) else (upd (upd (upd (upd (upd f73 22 z) ((41 + (f73 20).toNatClampNeg)) ((f73 ((41 + (f73 20).toNatClampNeg))) + (if z = 1 then (2 : Int32) else (if z = 3 then (1 : Int32) else (0 : Int32) : Int32)))) ((41 + (f73 21).toNatClampNeg)) ((f73 ((41 + (f73 21).toNatClampNeg))) + (2 - (if z = 1 then (2 : Int32) else (if z = 3 then (1 : Int32) else (0 : Int32) : Int32))))) (((51 + (2 * prN (f73 20).toNatClampNeg (f73 21).toNatClampNeg)) + (f73 (45 + prN (f73 20).toNatClampNeg (f73 21).toNatClampNeg)).toNatClampNeg)) (if (f73 21) ≤ (f73 20) then (2 - (if z = 1 then (2 : Int32) else (if z = 3 then (1 : Int32) else (0 : Int32) : Int32)) : Int32) else (if z = 1 then (2 : Int32) else (if z = 3 then (1 : Int32) else (0 : Int32) : Int32) : Int32))) ((45 + prN (f73 20).toNatClampNeg (f73 21).toNatClampNeg)) ((f73 ((45 + prN (f73 20).toNatClampNeg (f73 21).toNatClampNeg))) + 1)))
theorem e_X11_over_73 {l : Launch} {X : zX} {d : Nat} {μ : zH} {z : Int32} (hO : OB (μ 73)) : zRn l X mi_X11_over (d + 3) [.inr 73, .inl (z)] (zSH, μ) none (zSH, (zhs μ 73 (w_X11_over_73_73 (μ 73) z))) := by
  obtain ⟨hp1, hp2⟩ := hO.pr
  have ha4 := hO.1.1.1
  have hb4 := hO.1.2.1.1
  have hab : ¬ ((μ 73) 20).toNatClampNeg = ((μ 73) 21).toNatClampNeg := fun q => hO.1.2.2 (hO.1.1.2.trans ((congrArg nI q).trans hO.1.2.1.2.symm))
  have hm4 := hO.2.2 _ hp2
  refine pv_aload_n (i := 0) t_X11_over_0 rfl rfl ?_
  refine pv_bipush (v := 20) t_X11_over_1 zb_20 ?_
  refine sv_iald ((μ 73) 20) t_X11_over_3 (Or.inl hh_73) (zin (by decide)) rfl ?_
  refine pv_istore_n (i := 2) t_X11_over_4 rfl (Nat.le_of_ble_eq_true rfl) ?_
  refine pv_aload_n (i := 0) t_X11_over_5 rfl rfl ?_
  refine pv_bipush (v := 21) t_X11_over_6 zb_21 ?_
  refine sv_iald ((μ 73) 21) t_X11_over_8 (Or.inl hh_73) (zin (by decide)) rfl ?_
  refine pv_istore_n (i := 3) t_X11_over_9 rfl (Nat.le_of_ble_eq_true rfl) ?_
  refine pv_iload_n (i := 1) t_X11_over_10 rfl rfl ?_
  refine pv_iconst (v := 1) t_X11_over_11 zi_1 ?_
  refine sv_phi (c := z = 1) (A := 2) (B := if z = 3 then (1 : Int32) else (0 : Int32)) (J := 29) (lv := [(0, .inr 73), (1, .inl z), (2, .inl ((μ 73) 20)), (3, .inl ((μ 73) 21))]) (st := []) (S := (zSH, μ)) (fun kT kF => ?_) ?_
  · skip
    refine pv_icmp_ne t_X11_over_12 (fun c12 => ?_) (fun c12 => ?_)
    · skip
      refine pv_iload_n (i := 1) t_X11_over_19 rfl rfl ?_
      refine pv_iconst (v := 3) t_X11_over_20 zi_3 ?_
      refine sv_phi (c := z = 3) (A := 1) (B := 0) (J := 29) (lv := [(0, .inr 73), (1, .inl z), (2, .inl ((μ 73) 20)), (3, .inl ((μ 73) 21))]) (st := []) (S := (zSH, μ)) (fun kT kF => ?_) ?_
      · skip
        refine pv_icmp_ne t_X11_over_21 (fun c21 => ?_) (fun c21 => ?_)
        · skip
          refine pv_iconst (v := 0) t_X11_over_28 zi_0 ?_
          exact kF c21
        · skip
          refine pv_iconst (v := 1) t_X11_over_24 zi_1 ?_
          refine pv_goto t_X11_over_25 ?_
          exact kT c21
      exact kF c12
    · skip
      refine pv_iconst (v := 2) t_X11_over_15 zi_2 ?_
      refine pv_goto t_X11_over_16 ?_
      exact kT c12
  refine pv_istore t_X11_over_29 (Nat.le_of_ble_eq_true rfl) ?_
  refine pv_iload_n (i := 2) t_X11_over_31 rfl rfl ?_
  refine pv_iload_n (i := 3) t_X11_over_32 rfl rfl ?_
  refine sv_S2 (a_X11_pairOf (((μ 73) 20).toNatClampNeg) (((μ 73) 21).toNatClampNeg)) μ t_X11_over_33 ml_X11_189 mo_X11_pairOf (Nat.le_of_ble_eq_true rfl) (zas (lcI (k := ((μ 73) 20).toNatClampNeg) (nb_k hO.1.1) (lcI (k := ((μ 73) 21).toNatClampNeg) (nb_k hO.1.2.1) rfl)) (e_X11_pairOf (a := ((μ 73) 20).toNatClampNeg) (b := ((μ 73) 21).toNatClampNeg))) (Nat.le_of_ble_eq_true rfl) rfl rfl ?_
  refine pv_istore t_X11_over_36 (Nat.le_of_ble_eq_true rfl) ?_
  refine pv_aload_n (i := 0) t_X11_over_38 rfl rfl ?_
  refine pv_bipush (v := 22) t_X11_over_39 zb_22 ?_
  refine pv_iload_n (i := 1) t_X11_over_41 rfl rfl ?_
  refine sv_iast ((zhs μ 73 ((upd (μ 73) 22 z)))) t_X11_over_42 hh_73 (zin (by decide)) rfl ?_
  refine pv_aload_n (i := 0) t_X11_over_43 rfl rfl ?_
  refine pv_bipush (v := 41) t_X11_over_44 zb_41 ?_
  refine pv_iload_n (i := 2) t_X11_over_46 rfl rfl ?_
  refine pv_iadd t_X11_over_47 ?_
  refine pv_dup2 t_X11_over_48 ?_
  refine sv_iald ((μ 73) ((41 + ((μ 73) 20).toNatClampNeg))) t_X11_over_49 (Or.inl hh_73) (ixi (k := (41 + ((μ 73) 20).toNatClampNeg)) (nIa rfl (nb_k hO.1.1)) (by omega) (by decide)) ((ixe (k := (41 + ((μ 73) 20).toNatClampNeg)) (nIa rfl (nb_k hO.1.1)) (by omega)).trans (by (try simp (disch := decide) only [zhs_d, zhs_s]); repeat (first | rw [upn (by omega)] | rw [ups] | rfl))) ?_
  refine pv_iload t_X11_over_50 rfl ?_
  refine pv_iadd t_X11_over_52 ?_
  refine sv_iast ((zhs μ 73 ((upd (upd (μ 73) 22 z) ((41 + ((μ 73) 20).toNatClampNeg)) (((μ 73) ((41 + ((μ 73) 20).toNatClampNeg))) + (if z = 1 then (2 : Int32) else (if z = 3 then (1 : Int32) else (0 : Int32) : Int32))))))) t_X11_over_53 hh_73 (ixi (k := (41 + ((μ 73) 20).toNatClampNeg)) (nIa rfl (nb_k hO.1.1)) (by omega) (by decide)) (by rw [ixc (x := 41 + ((μ 73) 20)) (k := (41 + ((μ 73) 20).toNatClampNeg)) (nIa rfl (nb_k hO.1.1)) (by omega), zhs_hs] <;> (first | rfl | (congr 1; funext k_; simp only [upd]; ((repeat' split) <;> first | rfl | (simp_all; done))))) ?_
  refine pv_aload_n (i := 0) t_X11_over_54 rfl rfl ?_
  refine pv_bipush (v := 41) t_X11_over_55 zb_41 ?_
  refine pv_iload_n (i := 3) t_X11_over_57 rfl rfl ?_
  refine pv_iadd t_X11_over_58 ?_
  refine pv_dup2 t_X11_over_59 ?_
  refine sv_iald ((μ 73) ((41 + ((μ 73) 21).toNatClampNeg))) t_X11_over_60 (Or.inl hh_73) (ixi (k := (41 + ((μ 73) 21).toNatClampNeg)) (nIa rfl (nb_k hO.1.2.1)) (by omega) (by decide)) ((ixe (k := (41 + ((μ 73) 21).toNatClampNeg)) (nIa rfl (nb_k hO.1.2.1)) (by omega)).trans (by (try simp (disch := decide) only [zhs_d, zhs_s]); repeat (first | rw [upn (by omega)] | rw [ups] | rfl))) ?_
  refine pv_iconst (v := 2) t_X11_over_61 zi_2 ?_
  refine pv_iload t_X11_over_62 rfl ?_
  refine pv_isub t_X11_over_64 ?_
  refine pv_iadd t_X11_over_65 ?_
  refine sv_iast ((zhs μ 73 ((upd (upd (upd (μ 73) 22 z) ((41 + ((μ 73) 20).toNatClampNeg)) (((μ 73) ((41 + ((μ 73) 20).toNatClampNeg))) + (if z = 1 then (2 : Int32) else (if z = 3 then (1 : Int32) else (0 : Int32) : Int32)))) ((41 + ((μ 73) 21).toNatClampNeg)) (((μ 73) ((41 + ((μ 73) 21).toNatClampNeg))) + (2 - (if z = 1 then (2 : Int32) else (if z = 3 then (1 : Int32) else (0 : Int32) : Int32)))))))) t_X11_over_66 hh_73 (ixi (k := (41 + ((μ 73) 21).toNatClampNeg)) (nIa rfl (nb_k hO.1.2.1)) (by omega) (by decide)) (by rw [ixc (x := 41 + ((μ 73) 21)) (k := (41 + ((μ 73) 21).toNatClampNeg)) (nIa rfl (nb_k hO.1.2.1)) (by omega), zhs_hs] <;> (first | rfl | (congr 1; funext k_; simp only [upd]; ((repeat' split) <;> first | rfl | (simp_all; done))))) ?_
  refine pv_aload_n (i := 0) t_X11_over_67 rfl rfl ?_
  refine pv_bipush (v := 45) t_X11_over_68 zb_45 ?_
  refine pv_iload t_X11_over_70 rfl ?_
  refine pv_iadd t_X11_over_72 ?_
  refine sv_iald ((μ 73) ((45 + prN ((μ 73) 20).toNatClampNeg ((μ 73) 21).toNatClampNeg))) t_X11_over_73 (Or.inl hh_73) (ixi (k := (45 + prN ((μ 73) 20).toNatClampNeg ((μ 73) 21).toNatClampNeg)) (nIa rfl hp1) (by omega) (by decide)) ((ixe (k := (45 + prN ((μ 73) 20).toNatClampNeg ((μ 73) 21).toNatClampNeg)) (nIa rfl hp1) (by omega)).trans (by (try simp (disch := decide) only [zhs_d, zhs_s]); repeat (first | rw [upn (by omega)] | rw [ups] | rfl))) ?_
  refine pv_iconst (v := 2) t_X11_over_74 zi_2 ?_
  refine pv_icmp_ge t_X11_over_75 (fun c75 => ?_) (fun c75 => ?_)
  · skip
    refine pv_aload_n (i := 0) t_X11_over_109 rfl rfl ?_
    refine pv_bipush (v := 45) t_X11_over_110 zb_45 ?_
    refine pv_iload t_X11_over_112 rfl ?_
    refine pv_iadd t_X11_over_114 ?_
    refine pv_dup2 t_X11_over_115 ?_
    refine sv_iald ((μ 73) ((45 + prN ((μ 73) 20).toNatClampNeg ((μ 73) 21).toNatClampNeg))) t_X11_over_116 (Or.inl hh_73) (ixi (k := (45 + prN ((μ 73) 20).toNatClampNeg ((μ 73) 21).toNatClampNeg)) (nIa rfl hp1) (by omega) (by decide)) ((ixe (k := (45 + prN ((μ 73) 20).toNatClampNeg ((μ 73) 21).toNatClampNeg)) (nIa rfl hp1) (by omega)).trans (by (try simp (disch := decide) only [zhs_d, zhs_s]); repeat (first | rw [upn (by omega)] | rw [ups] | rfl))) ?_
    refine pv_iconst (v := 1) t_X11_over_117 zi_1 ?_
    refine pv_iadd t_X11_over_118 ?_
    refine sv_iast ((zhs μ 73 ((upd (upd (upd (upd (μ 73) 22 z) ((41 + ((μ 73) 20).toNatClampNeg)) (((μ 73) ((41 + ((μ 73) 20).toNatClampNeg))) + (if z = 1 then (2 : Int32) else (if z = 3 then (1 : Int32) else (0 : Int32) : Int32)))) ((41 + ((μ 73) 21).toNatClampNeg)) (((μ 73) ((41 + ((μ 73) 21).toNatClampNeg))) + (2 - (if z = 1 then (2 : Int32) else (if z = 3 then (1 : Int32) else (0 : Int32) : Int32))))) ((45 + prN ((μ 73) 20).toNatClampNeg ((μ 73) 21).toNatClampNeg)) (((μ 73) ((45 + prN ((μ 73) 20).toNatClampNeg ((μ 73) 21).toNatClampNeg))) + 1))))) t_X11_over_119 hh_73 (ixi (k := (45 + prN ((μ 73) 20).toNatClampNeg ((μ 73) 21).toNatClampNeg)) (nIa rfl hp1) (by omega) (by decide)) (by rw [ixc (x := 45 + (a_X11_pairOf (((μ 73) 20).toNatClampNeg) (((μ 73) 21).toNatClampNeg))) (k := (45 + prN ((μ 73) 20).toNatClampNeg ((μ 73) 21).toNatClampNeg)) (nIa rfl hp1) (by omega), zhs_hs] <;> (first | rfl | (congr 1; funext k_; simp only [upd]; ((repeat' split) <;> first | rfl | (simp_all; done))))) ?_
    exact pv_vret t_X11_over_120 rfl (Prod.ext rfl (by have e73 : w_X11_over_73_73 (μ 73) z = (upd (upd (upd (upd (μ 73) 22 z) ((41 + ((μ 73) 20).toNatClampNeg)) (((μ 73) ((41 + ((μ 73) 20).toNatClampNeg))) + (if z = 1 then (2 : Int32) else (if z = 3 then (1 : Int32) else (0 : Int32) : Int32)))) ((41 + ((μ 73) 21).toNatClampNeg)) (((μ 73) ((41 + ((μ 73) 21).toNatClampNeg))) + (2 - (if z = 1 then (2 : Int32) else (if z = 3 then (1 : Int32) else (0 : Int32) : Int32))))) ((45 + prN ((μ 73) 20).toNatClampNeg ((μ 73) 21).toNatClampNeg)) (((μ 73) ((45 + prN ((μ 73) 20).toNatClampNeg ((μ 73) 21).toNatClampNeg))) + 1)) := (by unfold w_X11_over_73_73; rw [if_pos c75]); show _ = (zhs μ 73 (w_X11_over_73_73 (μ 73) z)); symm; rw [e73]))
  · skip
    have hm2 : ((μ 73) (45 + prN ((μ 73) 20).toNatClampNeg ((μ 73) 21).toNatClampNeg)).toNatClampNeg < 2 := nb_lt (m := 2) hm4 (by decide) c75 (by decide)
    refine pv_aload_n (i := 0) t_X11_over_78 rfl rfl ?_
    refine pv_bipush (v := 51) t_X11_over_79 zb_51 ?_
    refine pv_iconst (v := 2) t_X11_over_81 zi_2 ?_
    refine pv_iload t_X11_over_82 rfl ?_
    refine pv_imul t_X11_over_84 ?_
    refine pv_iadd t_X11_over_85 ?_
    refine pv_aload_n (i := 0) t_X11_over_86 rfl rfl ?_
    refine pv_bipush (v := 45) t_X11_over_87 zb_45 ?_
    refine pv_iload t_X11_over_89 rfl ?_
    refine pv_iadd t_X11_over_91 ?_
    refine sv_iald ((μ 73) ((45 + prN ((μ 73) 20).toNatClampNeg ((μ 73) 21).toNatClampNeg))) t_X11_over_92 (Or.inl hh_73) (ixi (k := (45 + prN ((μ 73) 20).toNatClampNeg ((μ 73) 21).toNatClampNeg)) (nIa rfl hp1) (by omega) (by decide)) ((ixe (k := (45 + prN ((μ 73) 20).toNatClampNeg ((μ 73) 21).toNatClampNeg)) (nIa rfl hp1) (by omega)).trans (by (try simp (disch := decide) only [zhs_d, zhs_s]); repeat (first | rw [upn (by omega)] | rw [ups] | rfl))) ?_
    refine pv_iadd t_X11_over_93 ?_
    refine pv_iload_n (i := 2) t_X11_over_94 rfl rfl ?_
    refine pv_iload_n (i := 3) t_X11_over_95 rfl rfl ?_
    refine sv_phi (c := ((μ 73) 21) ≤ ((μ 73) 20)) (A := 2 - (if z = 1 then (2 : Int32) else (if z = 3 then (1 : Int32) else (0 : Int32) : Int32))) (B := if z = 1 then (2 : Int32) else (if z = 3 then (1 : Int32) else (0 : Int32) : Int32)) (J := 108) (lv := [(0, .inr 73), (1, .inl z), (2, .inl ((μ 73) 20)), (3, .inl ((μ 73) 21)), (4, .inl (if z = 1 then (2 : Int32) else (if z = 3 then (1 : Int32) else (0 : Int32) : Int32))), (5, .inl (a_X11_pairOf (((μ 73) 20).toNatClampNeg) (((μ 73) 21).toNatClampNeg)))]) (st := [.inl ((51 + (2 * (a_X11_pairOf (((μ 73) 20).toNatClampNeg) (((μ 73) 21).toNatClampNeg)))) + ((μ 73) ((45 + prN ((μ 73) 20).toNatClampNeg ((μ 73) 21).toNatClampNeg)))), .inr 73]) (S := (zSH, (zhs μ 73 ((upd (upd (upd (μ 73) 22 z) ((41 + ((μ 73) 20).toNatClampNeg)) (((μ 73) ((41 + ((μ 73) 20).toNatClampNeg))) + (if z = 1 then (2 : Int32) else (if z = 3 then (1 : Int32) else (0 : Int32) : Int32)))) ((41 + ((μ 73) 21).toNatClampNeg)) (((μ 73) ((41 + ((μ 73) 21).toNatClampNeg))) + (2 - (if z = 1 then (2 : Int32) else (if z = 3 then (1 : Int32) else (0 : Int32) : Int32))))))))) (fun kT kF => ?_) ?_
    · skip
      refine pv_icmp_ge t_X11_over_96 (fun c96 => ?_) (fun c96 => ?_)
      · skip
        refine pv_iconst (v := 2) t_X11_over_104 zi_2 ?_
        refine pv_iload t_X11_over_105 rfl ?_
        refine pv_isub t_X11_over_107 ?_
        exact kT c96
      · skip
        refine pv_iload t_X11_over_99 rfl ?_
        refine pv_goto t_X11_over_101 ?_
        exact kF c96
    refine sv_iast ((zhs μ 73 ((upd (upd (upd (upd (μ 73) 22 z) ((41 + ((μ 73) 20).toNatClampNeg)) (((μ 73) ((41 + ((μ 73) 20).toNatClampNeg))) + (if z = 1 then (2 : Int32) else (if z = 3 then (1 : Int32) else (0 : Int32) : Int32)))) ((41 + ((μ 73) 21).toNatClampNeg)) (((μ 73) ((41 + ((μ 73) 21).toNatClampNeg))) + (2 - (if z = 1 then (2 : Int32) else (if z = 3 then (1 : Int32) else (0 : Int32) : Int32))))) (((51 + (2 * prN ((μ 73) 20).toNatClampNeg ((μ 73) 21).toNatClampNeg)) + ((μ 73) (45 + prN ((μ 73) 20).toNatClampNeg ((μ 73) 21).toNatClampNeg)).toNatClampNeg)) (if ((μ 73) 21) ≤ ((μ 73) 20) then (2 - (if z = 1 then (2 : Int32) else (if z = 3 then (1 : Int32) else (0 : Int32) : Int32)) : Int32) else (if z = 1 then (2 : Int32) else (if z = 3 then (1 : Int32) else (0 : Int32) : Int32) : Int32)))))) t_X11_over_108 hh_73 (ixi (k := ((51 + (2 * prN ((μ 73) 20).toNatClampNeg ((μ 73) 21).toNatClampNeg)) + ((μ 73) (45 + prN ((μ 73) 20).toNatClampNeg ((μ 73) 21).toNatClampNeg)).toNatClampNeg)) (nIa (nIa rfl (nIm rfl hp1)) (by repeat (first | exact nb_k hm4 | rw [upn (by omega)]))) (by omega) (by decide)) (by rw [ixc (x := (51 + (2 * (a_X11_pairOf (((μ 73) 20).toNatClampNeg) (((μ 73) 21).toNatClampNeg)))) + ((μ 73) ((45 + prN ((μ 73) 20).toNatClampNeg ((μ 73) 21).toNatClampNeg)))) (k := ((51 + (2 * prN ((μ 73) 20).toNatClampNeg ((μ 73) 21).toNatClampNeg)) + ((μ 73) (45 + prN ((μ 73) 20).toNatClampNeg ((μ 73) 21).toNatClampNeg)).toNatClampNeg)) (nIa (nIa rfl (nIm rfl hp1)) (by repeat (first | exact nb_k hm4 | rw [upn (by omega)]))) (by omega), zhs_hs] <;> (first | rfl | (congr 1; funext k_; simp only [upd]; ((repeat' split) <;> first | rfl | (simp_all; done))))) ?_
    refine pv_aload_n (i := 0) t_X11_over_109 rfl rfl ?_
    refine pv_bipush (v := 45) t_X11_over_110 zb_45 ?_
    refine pv_iload t_X11_over_112 rfl ?_
    refine pv_iadd t_X11_over_114 ?_
    refine pv_dup2 t_X11_over_115 ?_
    refine sv_iald ((μ 73) ((45 + prN ((μ 73) 20).toNatClampNeg ((μ 73) 21).toNatClampNeg))) t_X11_over_116 (Or.inl hh_73) (ixi (k := (45 + prN ((μ 73) 20).toNatClampNeg ((μ 73) 21).toNatClampNeg)) (nIa rfl hp1) (by omega) (by decide)) ((ixe (k := (45 + prN ((μ 73) 20).toNatClampNeg ((μ 73) 21).toNatClampNeg)) (nIa rfl hp1) (by omega)).trans (by (try simp (disch := decide) only [zhs_d, zhs_s]); repeat (first | rw [upn (by omega)] | rw [ups] | rfl))) ?_
    refine pv_iconst (v := 1) t_X11_over_117 zi_1 ?_
    refine pv_iadd t_X11_over_118 ?_
    refine sv_iast ((zhs μ 73 ((upd (upd (upd (upd (upd (μ 73) 22 z) ((41 + ((μ 73) 20).toNatClampNeg)) (((μ 73) ((41 + ((μ 73) 20).toNatClampNeg))) + (if z = 1 then (2 : Int32) else (if z = 3 then (1 : Int32) else (0 : Int32) : Int32)))) ((41 + ((μ 73) 21).toNatClampNeg)) (((μ 73) ((41 + ((μ 73) 21).toNatClampNeg))) + (2 - (if z = 1 then (2 : Int32) else (if z = 3 then (1 : Int32) else (0 : Int32) : Int32))))) (((51 + (2 * prN ((μ 73) 20).toNatClampNeg ((μ 73) 21).toNatClampNeg)) + ((μ 73) (45 + prN ((μ 73) 20).toNatClampNeg ((μ 73) 21).toNatClampNeg)).toNatClampNeg)) (if ((μ 73) 21) ≤ ((μ 73) 20) then (2 - (if z = 1 then (2 : Int32) else (if z = 3 then (1 : Int32) else (0 : Int32) : Int32)) : Int32) else (if z = 1 then (2 : Int32) else (if z = 3 then (1 : Int32) else (0 : Int32) : Int32) : Int32))) ((45 + prN ((μ 73) 20).toNatClampNeg ((μ 73) 21).toNatClampNeg)) (((μ 73) ((45 + prN ((μ 73) 20).toNatClampNeg ((μ 73) 21).toNatClampNeg))) + 1))))) t_X11_over_119 hh_73 (ixi (k := (45 + prN ((μ 73) 20).toNatClampNeg ((μ 73) 21).toNatClampNeg)) (nIa rfl hp1) (by omega) (by decide)) (by rw [ixc (x := 45 + (a_X11_pairOf (((μ 73) 20).toNatClampNeg) (((μ 73) 21).toNatClampNeg))) (k := (45 + prN ((μ 73) 20).toNatClampNeg ((μ 73) 21).toNatClampNeg)) (nIa rfl hp1) (by omega), zhs_hs] <;> (first | rfl | (congr 1; funext k_; simp only [upd]; ((repeat' split) <;> first | rfl | (simp_all; done))))) ?_
    exact pv_vret t_X11_over_120 rfl (Prod.ext rfl (by have e73 : w_X11_over_73_73 (μ 73) z = (upd (upd (upd (upd (upd (μ 73) 22 z) ((41 + ((μ 73) 20).toNatClampNeg)) (((μ 73) ((41 + ((μ 73) 20).toNatClampNeg))) + (if z = 1 then (2 : Int32) else (if z = 3 then (1 : Int32) else (0 : Int32) : Int32)))) ((41 + ((μ 73) 21).toNatClampNeg)) (((μ 73) ((41 + ((μ 73) 21).toNatClampNeg))) + (2 - (if z = 1 then (2 : Int32) else (if z = 3 then (1 : Int32) else (0 : Int32) : Int32))))) (((51 + (2 * prN ((μ 73) 20).toNatClampNeg ((μ 73) 21).toNatClampNeg)) + ((μ 73) (45 + prN ((μ 73) 20).toNatClampNeg ((μ 73) 21).toNatClampNeg)).toNatClampNeg)) (if ((μ 73) 21) ≤ ((μ 73) 20) then (2 - (if z = 1 then (2 : Int32) else (if z = 3 then (1 : Int32) else (0 : Int32) : Int32)) : Int32) else (if z = 1 then (2 : Int32) else (if z = 3 then (1 : Int32) else (0 : Int32) : Int32) : Int32))) ((45 + prN ((μ 73) 20).toNatClampNeg ((μ 73) 21).toNatClampNeg)) (((μ 73) ((45 + prN ((μ 73) 20).toNatClampNeg ((μ 73) 21).toNatClampNeg))) + 1)) := (by unfold w_X11_over_73_73; rw [if_neg c75]); show _ = (zhs μ 73 (w_X11_over_73_73 (μ 73) z)); symm; rw [e73]))
def a_X11_canTurn_72 (f67 : Nat → Int32) (f72 : Nat → Int32) (t : Int32) : Int32 := (if t = 8 then 1 else (if t = 9 then (if 0 < (f72 ((29 + (f72 24).toNatClampNeg))) then 1 else (if 8 ≤ t then 0 else (if (a_X11_isCompliment f67 t) = 0 then 0 else (if (((f72 25) >>> (t &&& 31)) &&& 1) = 0 then 1 else 0)))) else (if 8 ≤ t then 0 else (if (a_X11_isCompliment f67 t) = 0 then 0 else (if (((f72 25) >>> (t &&& 31)) &&& 1) = 0 then 1 else 0)))))
theorem e_X11_canTurn_72 {l : Launch} {X : zX} {d : Nat} {μ : zH} {t : Int32} (hO : OB (μ 72)) : zRn l X mi_X11_canTurn (d + 4) [.inr 67, .inr 72, .inl (t)] (zSH, μ) (some (.inl (a_X11_canTurn_72 (μ 67) (μ 72) t))) (zSH, μ) := by
  have hs1 := hO.2.1.1
  refine pv_iload_n (i := 2) t_X11_canTurn_0 rfl rfl ?_
  refine pv_bipush (v := 8) t_X11_canTurn_1 zb_8 ?_
  refine pv_icmp_eq t_X11_canTurn_3 (fun c3 => ?_) (fun c3 => ?_)
  · skip
    refine pv_iconst (v := 1) t_X11_canTurn_49 zi_1 ?_
    refine pv_goto t_X11_canTurn_50 ?_
    exact pv_iretz t_X11_canTurn_54 rfl ⟨(by unfold a_X11_canTurn_72; rw [if_pos c3]), (by unfold a_X11_canTurn_72; rw [if_pos c3]; decide)⟩ rfl
  · skip
    refine pv_iload_n (i := 2) t_X11_canTurn_6 rfl rfl ?_
    refine pv_bipush (v := 9) t_X11_canTurn_7 zb_9 ?_
    refine pv_icmp_ne t_X11_canTurn_9 (fun c9 => ?_) (fun c9 => ?_)
    · skip
      refine pv_iload_n (i := 2) t_X11_canTurn_24 rfl rfl ?_
      refine pv_bipush (v := 8) t_X11_canTurn_25 zb_8 ?_
      refine pv_icmp_ge t_X11_canTurn_27 (fun c27 => ?_) (fun c27 => ?_)
      · skip
        refine pv_iconst (v := 0) t_X11_canTurn_53 zi_0 ?_
        exact pv_iretz t_X11_canTurn_54 rfl ⟨(by unfold a_X11_canTurn_72; rw [if_neg c3, if_neg c9, if_pos c27]), (by unfold a_X11_canTurn_72; rw [if_neg c3, if_neg c9, if_pos c27]; decide)⟩ rfl
      · skip
        refine pv_aload_n (i := 0) t_X11_canTurn_30 rfl rfl ?_
        refine pv_iload_n (i := 2) t_X11_canTurn_31 rfl rfl ?_
        refine sv_V1 (a_X11_isCompliment (μ 67) t) μ t_X11_canTurn_32 ml_X11_169 mo_X11_isCompliment hh_67 rfl (Nat.le_of_ble_eq_true rfl) (e_X11_isCompliment) (Nat.le_of_ble_eq_true rfl) rfl rfl ?_
        refine pv_if_eq t_X11_canTurn_35 (fun c35 => ?_) (fun c35 => ?_)
        · skip
          refine pv_iconst (v := 0) t_X11_canTurn_53 zi_0 ?_
          exact pv_iretz t_X11_canTurn_54 rfl ⟨(by unfold a_X11_canTurn_72; rw [if_neg c3, if_neg c9, if_neg c27, if_pos c35]), (by unfold a_X11_canTurn_72; rw [if_neg c3, if_neg c9, if_neg c27, if_pos c35]; decide)⟩ rfl
        · skip
          refine pv_aload_n (i := 1) t_X11_canTurn_38 rfl rfl ?_
          refine pv_bipush (v := 25) t_X11_canTurn_39 zb_25 ?_
          refine sv_iald ((μ 72) 25) t_X11_canTurn_41 (Or.inl hh_72) (zin (by decide)) rfl ?_
          refine pv_iload_n (i := 2) t_X11_canTurn_42 rfl rfl ?_
          refine pv_ishr t_X11_canTurn_43 ?_
          refine pv_iconst (v := 1) t_X11_canTurn_44 zi_1 ?_
          refine pv_iand t_X11_canTurn_45 ?_
          refine pv_if_ne t_X11_canTurn_46 (fun c46 => ?_) (fun c46 => ?_)
          · skip
            refine pv_iconst (v := 0) t_X11_canTurn_53 zi_0 ?_
            exact pv_iretz t_X11_canTurn_54 rfl ⟨(by unfold a_X11_canTurn_72; rw [if_neg c3, if_neg c9, if_neg c27, if_neg c35, if_neg c46]), (by unfold a_X11_canTurn_72; rw [if_neg c3, if_neg c9, if_neg c27, if_neg c35, if_neg c46]; decide)⟩ rfl
          · skip
            refine pv_iconst (v := 1) t_X11_canTurn_49 zi_1 ?_
            refine pv_goto t_X11_canTurn_50 ?_
            exact pv_iretz t_X11_canTurn_54 rfl ⟨(by unfold a_X11_canTurn_72; rw [if_neg c3, if_neg c9, if_neg c27, if_neg c35, if_pos c46]), (by unfold a_X11_canTurn_72; rw [if_neg c3, if_neg c9, if_neg c27, if_neg c35, if_pos c46]; decide)⟩ rfl
    · skip
      refine pv_aload_n (i := 1) t_X11_canTurn_12 rfl rfl ?_
      refine pv_bipush (v := 29) t_X11_canTurn_13 zb_29 ?_
      refine pv_aload_n (i := 1) t_X11_canTurn_15 rfl rfl ?_
      refine pv_bipush (v := 24) t_X11_canTurn_16 zb_24 ?_
      refine sv_iald ((μ 72) 24) t_X11_canTurn_18 (Or.inl hh_72) (zin (by decide)) rfl ?_
      refine pv_iadd t_X11_canTurn_19 ?_
      refine sv_iald ((μ 72) ((29 + ((μ 72) 24).toNatClampNeg))) t_X11_canTurn_20 (Or.inl hh_72) (ixi (k := (29 + ((μ 72) 24).toNatClampNeg)) (nIa rfl (nb_k hO.2.1)) (by omega) (by decide)) ((ixe (k := (29 + ((μ 72) 24).toNatClampNeg)) (nIa rfl (nb_k hO.2.1)) (by omega)).trans (by first | rfl | (simp only [zhs_s, pk_us]; done) | (simp [zhs, upd]; done))) ?_
      refine pv_if_gt t_X11_canTurn_21 (fun c21 => ?_) (fun c21 => ?_)
      · skip
        refine pv_iconst (v := 1) t_X11_canTurn_49 zi_1 ?_
        refine pv_goto t_X11_canTurn_50 ?_
        exact pv_iretz t_X11_canTurn_54 rfl ⟨(by unfold a_X11_canTurn_72; rw [if_neg c3, if_pos c9, if_pos c21]), (by unfold a_X11_canTurn_72; rw [if_neg c3, if_pos c9, if_pos c21]; decide)⟩ rfl
      · skip
        refine pv_iload_n (i := 2) t_X11_canTurn_24 rfl rfl ?_
        refine pv_bipush (v := 8) t_X11_canTurn_25 zb_8 ?_
        refine pv_icmp_ge t_X11_canTurn_27 (fun c27 => ?_) (fun c27 => ?_)
        · skip
          refine pv_iconst (v := 0) t_X11_canTurn_53 zi_0 ?_
          exact pv_iretz t_X11_canTurn_54 rfl ⟨(by unfold a_X11_canTurn_72; rw [if_neg c3, if_pos c9, if_neg c21, if_pos c27]), (by unfold a_X11_canTurn_72; rw [if_neg c3, if_pos c9, if_neg c21, if_pos c27]; decide)⟩ rfl
        · skip
          refine pv_aload_n (i := 0) t_X11_canTurn_30 rfl rfl ?_
          refine pv_iload_n (i := 2) t_X11_canTurn_31 rfl rfl ?_
          refine sv_V1 (a_X11_isCompliment (μ 67) t) μ t_X11_canTurn_32 ml_X11_169 mo_X11_isCompliment hh_67 rfl (Nat.le_of_ble_eq_true rfl) (e_X11_isCompliment) (Nat.le_of_ble_eq_true rfl) rfl rfl ?_
          refine pv_if_eq t_X11_canTurn_35 (fun c35 => ?_) (fun c35 => ?_)
          · skip
            refine pv_iconst (v := 0) t_X11_canTurn_53 zi_0 ?_
            exact pv_iretz t_X11_canTurn_54 rfl ⟨(by unfold a_X11_canTurn_72; rw [if_neg c3, if_pos c9, if_neg c21, if_neg c27, if_pos c35]), (by unfold a_X11_canTurn_72; rw [if_neg c3, if_pos c9, if_neg c21, if_neg c27, if_pos c35]; decide)⟩ rfl
          · skip
            refine pv_aload_n (i := 1) t_X11_canTurn_38 rfl rfl ?_
            refine pv_bipush (v := 25) t_X11_canTurn_39 zb_25 ?_
            refine sv_iald ((μ 72) 25) t_X11_canTurn_41 (Or.inl hh_72) (zin (by decide)) rfl ?_
            refine pv_iload_n (i := 2) t_X11_canTurn_42 rfl rfl ?_
            refine pv_ishr t_X11_canTurn_43 ?_
            refine pv_iconst (v := 1) t_X11_canTurn_44 zi_1 ?_
            refine pv_iand t_X11_canTurn_45 ?_
            refine pv_if_ne t_X11_canTurn_46 (fun c46 => ?_) (fun c46 => ?_)
            · skip
              refine pv_iconst (v := 0) t_X11_canTurn_53 zi_0 ?_
              exact pv_iretz t_X11_canTurn_54 rfl ⟨(by unfold a_X11_canTurn_72; rw [if_neg c3, if_pos c9, if_neg c21, if_neg c27, if_neg c35, if_neg c46]), (by unfold a_X11_canTurn_72; rw [if_neg c3, if_pos c9, if_neg c21, if_neg c27, if_neg c35, if_neg c46]; decide)⟩ rfl
            · skip
              refine pv_iconst (v := 1) t_X11_canTurn_49 zi_1 ?_
              refine pv_goto t_X11_canTurn_50 ?_
              exact pv_iretz t_X11_canTurn_54 rfl ⟨(by unfold a_X11_canTurn_72; rw [if_neg c3, if_pos c9, if_neg c21, if_neg c27, if_neg c35, if_pos c46]), (by unfold a_X11_canTurn_72; rw [if_neg c3, if_pos c9, if_neg c21, if_neg c27, if_neg c35, if_pos c46]; decide)⟩ rfl
def a_X11_canTurn_73 (f67 : Nat → Int32) (f73 : Nat → Int32) (t : Int32) : Int32 := (if t = 8 then 1 else (if t = 9 then (if 0 < (f73 ((29 + (f73 24).toNatClampNeg))) then 1 else (if 8 ≤ t then 0 else (if (a_X11_isCompliment f67 t) = 0 then 0 else (if (((f73 25) >>> (t &&& 31)) &&& 1) = 0 then 1 else 0)))) else (if 8 ≤ t then 0 else (if (a_X11_isCompliment f67 t) = 0 then 0 else (if (((f73 25) >>> (t &&& 31)) &&& 1) = 0 then 1 else 0)))))
theorem e_X11_canTurn_73 {l : Launch} {X : zX} {d : Nat} {μ : zH} {t : Int32} (hO : OB (μ 73)) : zRn l X mi_X11_canTurn (d + 4) [.inr 67, .inr 73, .inl (t)] (zSH, μ) (some (.inl (a_X11_canTurn_73 (μ 67) (μ 73) t))) (zSH, μ) := by
  have hs1 := hO.2.1.1
  refine pv_iload_n (i := 2) t_X11_canTurn_0 rfl rfl ?_
  refine pv_bipush (v := 8) t_X11_canTurn_1 zb_8 ?_
  refine pv_icmp_eq t_X11_canTurn_3 (fun c3 => ?_) (fun c3 => ?_)
  · skip
    refine pv_iconst (v := 1) t_X11_canTurn_49 zi_1 ?_
    refine pv_goto t_X11_canTurn_50 ?_
    exact pv_iretz t_X11_canTurn_54 rfl ⟨(by unfold a_X11_canTurn_73; rw [if_pos c3]), (by unfold a_X11_canTurn_73; rw [if_pos c3]; decide)⟩ rfl
  · skip
    refine pv_iload_n (i := 2) t_X11_canTurn_6 rfl rfl ?_
    refine pv_bipush (v := 9) t_X11_canTurn_7 zb_9 ?_
    refine pv_icmp_ne t_X11_canTurn_9 (fun c9 => ?_) (fun c9 => ?_)
    · skip
      refine pv_iload_n (i := 2) t_X11_canTurn_24 rfl rfl ?_
      refine pv_bipush (v := 8) t_X11_canTurn_25 zb_8 ?_
      refine pv_icmp_ge t_X11_canTurn_27 (fun c27 => ?_) (fun c27 => ?_)
      · skip
        refine pv_iconst (v := 0) t_X11_canTurn_53 zi_0 ?_
        exact pv_iretz t_X11_canTurn_54 rfl ⟨(by unfold a_X11_canTurn_73; rw [if_neg c3, if_neg c9, if_pos c27]), (by unfold a_X11_canTurn_73; rw [if_neg c3, if_neg c9, if_pos c27]; decide)⟩ rfl
      · skip
        refine pv_aload_n (i := 0) t_X11_canTurn_30 rfl rfl ?_
        refine pv_iload_n (i := 2) t_X11_canTurn_31 rfl rfl ?_
        refine sv_V1 (a_X11_isCompliment (μ 67) t) μ t_X11_canTurn_32 ml_X11_169 mo_X11_isCompliment hh_67 rfl (Nat.le_of_ble_eq_true rfl) (e_X11_isCompliment) (Nat.le_of_ble_eq_true rfl) rfl rfl ?_
        refine pv_if_eq t_X11_canTurn_35 (fun c35 => ?_) (fun c35 => ?_)
        · skip
          refine pv_iconst (v := 0) t_X11_canTurn_53 zi_0 ?_
          exact pv_iretz t_X11_canTurn_54 rfl ⟨(by unfold a_X11_canTurn_73; rw [if_neg c3, if_neg c9, if_neg c27, if_pos c35]), (by unfold a_X11_canTurn_73; rw [if_neg c3, if_neg c9, if_neg c27, if_pos c35]; decide)⟩ rfl
        · skip
          refine pv_aload_n (i := 1) t_X11_canTurn_38 rfl rfl ?_
          refine pv_bipush (v := 25) t_X11_canTurn_39 zb_25 ?_
          refine sv_iald ((μ 73) 25) t_X11_canTurn_41 (Or.inl hh_73) (zin (by decide)) rfl ?_
          refine pv_iload_n (i := 2) t_X11_canTurn_42 rfl rfl ?_
          refine pv_ishr t_X11_canTurn_43 ?_
          refine pv_iconst (v := 1) t_X11_canTurn_44 zi_1 ?_
          refine pv_iand t_X11_canTurn_45 ?_
          refine pv_if_ne t_X11_canTurn_46 (fun c46 => ?_) (fun c46 => ?_)
          · skip
            refine pv_iconst (v := 0) t_X11_canTurn_53 zi_0 ?_
            exact pv_iretz t_X11_canTurn_54 rfl ⟨(by unfold a_X11_canTurn_73; rw [if_neg c3, if_neg c9, if_neg c27, if_neg c35, if_neg c46]), (by unfold a_X11_canTurn_73; rw [if_neg c3, if_neg c9, if_neg c27, if_neg c35, if_neg c46]; decide)⟩ rfl
          · skip
            refine pv_iconst (v := 1) t_X11_canTurn_49 zi_1 ?_
            refine pv_goto t_X11_canTurn_50 ?_
            exact pv_iretz t_X11_canTurn_54 rfl ⟨(by unfold a_X11_canTurn_73; rw [if_neg c3, if_neg c9, if_neg c27, if_neg c35, if_pos c46]), (by unfold a_X11_canTurn_73; rw [if_neg c3, if_neg c9, if_neg c27, if_neg c35, if_pos c46]; decide)⟩ rfl
    · skip
      refine pv_aload_n (i := 1) t_X11_canTurn_12 rfl rfl ?_
      refine pv_bipush (v := 29) t_X11_canTurn_13 zb_29 ?_
      refine pv_aload_n (i := 1) t_X11_canTurn_15 rfl rfl ?_
      refine pv_bipush (v := 24) t_X11_canTurn_16 zb_24 ?_
      refine sv_iald ((μ 73) 24) t_X11_canTurn_18 (Or.inl hh_73) (zin (by decide)) rfl ?_
      refine pv_iadd t_X11_canTurn_19 ?_
      refine sv_iald ((μ 73) ((29 + ((μ 73) 24).toNatClampNeg))) t_X11_canTurn_20 (Or.inl hh_73) (ixi (k := (29 + ((μ 73) 24).toNatClampNeg)) (nIa rfl (nb_k hO.2.1)) (by omega) (by decide)) ((ixe (k := (29 + ((μ 73) 24).toNatClampNeg)) (nIa rfl (nb_k hO.2.1)) (by omega)).trans (by first | rfl | (simp only [zhs_s, pk_us]; done) | (simp [zhs, upd]; done))) ?_
      refine pv_if_gt t_X11_canTurn_21 (fun c21 => ?_) (fun c21 => ?_)
      · skip
        refine pv_iconst (v := 1) t_X11_canTurn_49 zi_1 ?_
        refine pv_goto t_X11_canTurn_50 ?_
        exact pv_iretz t_X11_canTurn_54 rfl ⟨(by unfold a_X11_canTurn_73; rw [if_neg c3, if_pos c9, if_pos c21]), (by unfold a_X11_canTurn_73; rw [if_neg c3, if_pos c9, if_pos c21]; decide)⟩ rfl
      · skip
        refine pv_iload_n (i := 2) t_X11_canTurn_24 rfl rfl ?_
        refine pv_bipush (v := 8) t_X11_canTurn_25 zb_8 ?_
        refine pv_icmp_ge t_X11_canTurn_27 (fun c27 => ?_) (fun c27 => ?_)
        · skip
          refine pv_iconst (v := 0) t_X11_canTurn_53 zi_0 ?_
          exact pv_iretz t_X11_canTurn_54 rfl ⟨(by unfold a_X11_canTurn_73; rw [if_neg c3, if_pos c9, if_neg c21, if_pos c27]), (by unfold a_X11_canTurn_73; rw [if_neg c3, if_pos c9, if_neg c21, if_pos c27]; decide)⟩ rfl
        · skip
          refine pv_aload_n (i := 0) t_X11_canTurn_30 rfl rfl ?_
          refine pv_iload_n (i := 2) t_X11_canTurn_31 rfl rfl ?_
          refine sv_V1 (a_X11_isCompliment (μ 67) t) μ t_X11_canTurn_32 ml_X11_169 mo_X11_isCompliment hh_67 rfl (Nat.le_of_ble_eq_true rfl) (e_X11_isCompliment) (Nat.le_of_ble_eq_true rfl) rfl rfl ?_
          refine pv_if_eq t_X11_canTurn_35 (fun c35 => ?_) (fun c35 => ?_)
          · skip
            refine pv_iconst (v := 0) t_X11_canTurn_53 zi_0 ?_
            exact pv_iretz t_X11_canTurn_54 rfl ⟨(by unfold a_X11_canTurn_73; rw [if_neg c3, if_pos c9, if_neg c21, if_neg c27, if_pos c35]), (by unfold a_X11_canTurn_73; rw [if_neg c3, if_pos c9, if_neg c21, if_neg c27, if_pos c35]; decide)⟩ rfl
          · skip
            refine pv_aload_n (i := 1) t_X11_canTurn_38 rfl rfl ?_
            refine pv_bipush (v := 25) t_X11_canTurn_39 zb_25 ?_
            refine sv_iald ((μ 73) 25) t_X11_canTurn_41 (Or.inl hh_73) (zin (by decide)) rfl ?_
            refine pv_iload_n (i := 2) t_X11_canTurn_42 rfl rfl ?_
            refine pv_ishr t_X11_canTurn_43 ?_
            refine pv_iconst (v := 1) t_X11_canTurn_44 zi_1 ?_
            refine pv_iand t_X11_canTurn_45 ?_
            refine pv_if_ne t_X11_canTurn_46 (fun c46 => ?_) (fun c46 => ?_)
            · skip
              refine pv_iconst (v := 0) t_X11_canTurn_53 zi_0 ?_
              exact pv_iretz t_X11_canTurn_54 rfl ⟨(by unfold a_X11_canTurn_73; rw [if_neg c3, if_pos c9, if_neg c21, if_neg c27, if_neg c35, if_neg c46]), (by unfold a_X11_canTurn_73; rw [if_neg c3, if_pos c9, if_neg c21, if_neg c27, if_neg c35, if_neg c46]; decide)⟩ rfl
            · skip
              refine pv_iconst (v := 1) t_X11_canTurn_49 zi_1 ?_
              refine pv_goto t_X11_canTurn_50 ?_
              exact pv_iretz t_X11_canTurn_54 rfl ⟨(by unfold a_X11_canTurn_73; rw [if_neg c3, if_pos c9, if_neg c21, if_neg c27, if_neg c35, if_pos c46]), (by unfold a_X11_canTurn_73; rw [if_neg c3, if_pos c9, if_neg c21, if_neg c27, if_neg c35, if_pos c46]; decide)⟩ rfl
def w_X11_says_72_72 (f69 : Nat → Int32) (f70 : Nat → Int32) (f72 : Nat → Int32) (c : Nat) : Nat → Int32 := (if ((f72 ((29 + (f72 24).toNatClampNeg))) + (if (if (a_X11_truthBy f70 c (f72 ((if (f72 24) = 0 then (f72 21 : Int32) else (f72 20 : Int32)).toNatClampNeg))) = 0 then (1 : Int32) else (0 : Int32)) = 0 then (0 : Int32) else (1 : Int32))) = 3 then w_X11_over_72_72 ((upd (upd (upd (upd (upd (upd f72 ((28 - (f72 24).toNatClampNeg)) ((f72 ((28 - (f72 24).toNatClampNeg))) + (a_X11_effectBy f70 f72 c ((if (f72 24) = 0 then (f72 21 : Int32) else (f72 20 : Int32)).toNatClampNeg) (a_X11_vanityOf f72 ((if (f72 24) = 0 then (f72 21 : Int32) else (f72 20 : Int32)).toNatClampNeg) ((f70 (5 * c)).toNatClampNeg)) ((f72 (((33 + (4 * (1 - (f72 24).toNatClampNeg))) + (f70 (5 * c)).toNatClampNeg))).toNatClampNeg)))) (((33 + (4 * (1 - (f72 24).toNatClampNeg))) + (f70 (5 * c)).toNatClampNeg)) ((f72 (((33 + (4 * (1 - (f72 24).toNatClampNeg))) + (f70 (5 * c)).toNatClampNeg))) + 1)) 25 ((f72 25) ||| (1 <<< (((nI c)) &&& 31)))) ((31 + (f72 24).toNatClampNeg)) ((f72 ((31 + (f72 24).toNatClampNeg))) + (f70 (((5 * c) + 2))))) 26 0) ((29 + (f72 24).toNatClampNeg)) ((f72 ((29 + (f72 24).toNatClampNeg))) + (if (if (a_X11_truthBy f70 c (f72 ((if (f72 24) = 0 then (f72 21 : Int32) else (f72 20 : Int32)).toNatClampNeg))) = 0 then (1 : Int32) else (0 : Int32)) = 0 then (0 : Int32) else (1 : Int32))))) (2 - (f72 24)) else (if ((f72 ((28 - (f72 24).toNatClampNeg))) + (a_X11_effectBy f70 f72 c ((if (f72 24) = 0 then (f72 21 : Int32) else (f72 20 : Int32)).toNatClampNeg) (a_X11_vanityOf f72 ((if (f72 24) = 0 then (f72 21 : Int32) else (f72 20 : Int32)).toNatClampNeg) ((f70 (5 * c)).toNatClampNeg)) ((f72 (((33 + (4 * (1 - (f72 24).toNatClampNeg))) + (f70 (5 * c)).toNatClampNeg))).toNatClampNeg))) < (f69 ((6 * (if (f72 24) = 0 then (f72 21 : Int32) else (f72 20 : Int32)).toNatClampNeg))) then (upd (upd (upd (upd (upd (upd f72 ((28 - (f72 24).toNatClampNeg)) ((f72 ((28 - (f72 24).toNatClampNeg))) + (a_X11_effectBy f70 f72 c ((if (f72 24) = 0 then (f72 21 : Int32) else (f72 20 : Int32)).toNatClampNeg) (a_X11_vanityOf f72 ((if (f72 24) = 0 then (f72 21 : Int32) else (f72 20 : Int32)).toNatClampNeg) ((f70 (5 * c)).toNatClampNeg)) ((f72 (((33 + (4 * (1 - (f72 24).toNatClampNeg))) + (f70 (5 * c)).toNatClampNeg))).toNatClampNeg)))) (((33 + (4 * (1 - (f72 24).toNatClampNeg))) + (f70 (5 * c)).toNatClampNeg)) ((f72 (((33 + (4 * (1 - (f72 24).toNatClampNeg))) + (f70 (5 * c)).toNatClampNeg))) + 1)) 25 ((f72 25) ||| (1 <<< (((nI c)) &&& 31)))) ((31 + (f72 24).toNatClampNeg)) ((f72 ((31 + (f72 24).toNatClampNeg))) + (f70 (((5 * c) + 2))))) 26 0) ((29 + (f72 24).toNatClampNeg)) ((f72 ((29 + (f72 24).toNatClampNeg))) + (if (if (a_X11_truthBy f70 c (f72 ((if (f72 24) = 0 then (f72 21 : Int32) else (f72 20 : Int32)).toNatClampNeg))) = 0 then (1 : Int32) else (0 : Int32)) = 0 then (0 : Int32) else (1 : Int32)))) else w_X11_over_72_72 ((upd (upd (upd (upd (upd (upd f72 ((28 - (f72 24).toNatClampNeg)) ((f72 ((28 - (f72 24).toNatClampNeg))) + (a_X11_effectBy f70 f72 c ((if (f72 24) = 0 then (f72 21 : Int32) else (f72 20 : Int32)).toNatClampNeg) (a_X11_vanityOf f72 ((if (f72 24) = 0 then (f72 21 : Int32) else (f72 20 : Int32)).toNatClampNeg) ((f70 (5 * c)).toNatClampNeg)) ((f72 (((33 + (4 * (1 - (f72 24).toNatClampNeg))) + (f70 (5 * c)).toNatClampNeg))).toNatClampNeg)))) (((33 + (4 * (1 - (f72 24).toNatClampNeg))) + (f70 (5 * c)).toNatClampNeg)) ((f72 (((33 + (4 * (1 - (f72 24).toNatClampNeg))) + (f70 (5 * c)).toNatClampNeg))) + 1)) 25 ((f72 25) ||| (1 <<< (((nI c)) &&& 31)))) ((31 + (f72 24).toNatClampNeg)) ((f72 ((31 + (f72 24).toNatClampNeg))) + (f70 (((5 * c) + 2))))) 26 0) ((29 + (f72 24).toNatClampNeg)) ((f72 ((29 + (f72 24).toNatClampNeg))) + (if (if (a_X11_truthBy f70 c (f72 ((if (f72 24) = 0 then (f72 21 : Int32) else (f72 20 : Int32)).toNatClampNeg))) = 0 then (1 : Int32) else (0 : Int32)) = 0 then (0 : Int32) else (1 : Int32))))) (1 + (f72 24))))
theorem e_X11_says_72 {l : Launch} {X : zX} {d : Nat} {μ : zH} {c : Nat} (hc : c < 8) (hT : ∀ c, c < 8 → nb (μ 70 (5 * c)) 4) (hR : RB (μ 72)) : zRn l X mi_X11_says (d + 6) [.inr 67, .inr 72, .inl (nI c)] (zSH, μ) none (zSH, (zhs μ 72 (w_X11_says_72_72 (μ 69) (μ 70) (μ 72) c))) := by
  have hs1 := hR.1.2.1.1
  have ht1 : ((μ 70) (5 * c)).toNatClampNeg < 4 := (hT _ (by omega)).1
  have he1 : (if ((μ 72) 24) = 0 then ((μ 72) 21 : Int32) else ((μ 72) 20 : Int32)).toNatClampNeg < 4 := (ph_nb hR.1.1.2.1 hR.1.1.1).1
  have hO := hR.1
  refine pv_aload_n (i := 1) t_X11_says_0 rfl rfl ?_
  refine pv_bipush (v := 24) t_X11_says_1 zb_24 ?_
  refine sv_iald ((μ 72) 24) t_X11_says_3 (Or.inl hh_72) (zin (by decide)) rfl ?_
  refine pv_istore_n (i := 3) t_X11_says_4 rfl (Nat.le_of_ble_eq_true rfl) ?_
  refine pv_iload_n (i := 3) t_X11_says_5 rfl rfl ?_
  refine sv_phi (c := ((μ 72) 24) = 0) (A := (μ 72) 21) (B := (μ 72) 20) (J := 20) (lv := [(0, .inr 67), (1, .inr 72), (2, .inl ((nI c))), (3, .inl ((μ 72) 24))]) (st := []) (S := (zSH, μ)) (fun kT kF => ?_) ?_
  · skip
    refine pv_if_ne t_X11_says_6 (fun c6 => ?_) (fun c6 => ?_)
    · skip
      refine pv_aload_n (i := 1) t_X11_says_16 rfl rfl ?_
      refine pv_bipush (v := 20) t_X11_says_17 zb_20 ?_
      refine sv_iald ((μ 72) 20) t_X11_says_19 (Or.inl hh_72) (zin (by decide)) rfl ?_
      exact kF c6
    · skip
      refine pv_aload_n (i := 1) t_X11_says_9 rfl rfl ?_
      refine pv_bipush (v := 21) t_X11_says_10 zb_21 ?_
      refine sv_iald ((μ 72) 21) t_X11_says_12 (Or.inl hh_72) (zin (by decide)) rfl ?_
      refine pv_goto t_X11_says_13 ?_
      exact kT c6
  refine pv_istore t_X11_says_20 (Nat.le_of_ble_eq_true rfl) ?_
  refine pv_aload_n (i := 0) t_X11_says_22 rfl rfl ?_
  refine pv_getR t_X11_says_23 fl_X11_20 hh_67 rfl ?_
  refine pv_iconst (v := 5) t_X11_says_26 zi_5 ?_
  refine pv_iload_n (i := 2) t_X11_says_27 rfl rfl ?_
  refine pv_imul t_X11_says_28 ?_
  refine sv_iald ((μ 70) ((5 * c))) t_X11_says_29 (Or.inl hh_70) (ixi (k := (5 * c)) (nIm rfl rfl) (by omega) (by decide)) ((ixe (k := (5 * c)) (nIm rfl rfl) (by omega)).trans (by first | rfl | (simp only [zhs_s, pk_us]; done) | (simp [zhs, upd]; done))) ?_
  refine pv_istore t_X11_says_30 (Nat.le_of_ble_eq_true rfl) ?_
  refine pv_bipush (v := 33) t_X11_says_32 zb_33 ?_
  refine pv_iconst (v := 4) t_X11_says_34 zi_4 ?_
  refine pv_iconst (v := 1) t_X11_says_35 zi_1 ?_
  refine pv_iload_n (i := 3) t_X11_says_36 rfl rfl ?_
  refine pv_isub t_X11_says_37 ?_
  refine pv_imul t_X11_says_38 ?_
  refine pv_iadd t_X11_says_39 ?_
  refine pv_iload t_X11_says_40 rfl ?_
  refine pv_iadd t_X11_says_42 ?_
  refine pv_istore t_X11_says_43 (Nat.le_of_ble_eq_true rfl) ?_
  refine pv_aload_n (i := 1) t_X11_says_45 rfl rfl ?_
  refine pv_bipush (v := 28) t_X11_says_46 zb_28 ?_
  refine pv_iload_n (i := 3) t_X11_says_48 rfl rfl ?_
  refine pv_isub t_X11_says_49 ?_
  refine pv_dup2 t_X11_says_50 ?_
  refine sv_iald ((μ 72) ((28 - ((μ 72) 24).toNatClampNeg))) t_X11_says_51 (Or.inl hh_72) (ixi (k := (28 - ((μ 72) 24).toNatClampNeg)) (nIsb rfl (nb_k hR.1.2.1) (by omega)) (by omega) (by decide)) ((ixe (k := (28 - ((μ 72) 24).toNatClampNeg)) (nIsb rfl (nb_k hR.1.2.1) (by omega)) (by omega)).trans (by first | rfl | (simp only [zhs_s, pk_us]; done) | (simp [zhs, upd]; done))) ?_
  refine pv_aload_n (i := 0) t_X11_says_52 rfl rfl ?_
  refine pv_iload_n (i := 2) t_X11_says_53 rfl rfl ?_
  refine pv_iload t_X11_says_54 rfl ?_
  refine pv_aload_n (i := 0) t_X11_says_56 rfl rfl ?_
  refine pv_iload t_X11_says_57 rfl ?_
  refine pv_iload t_X11_says_59 rfl ?_
  refine sv_V2 (a_X11_vanityOf (μ 72) ((if ((μ 72) 24) = 0 then ((μ 72) 21 : Int32) else ((μ 72) 20 : Int32)).toNatClampNeg) (((μ 70) (5 * c)).toNatClampNeg)) μ t_X11_says_61 ml_X11_179 mo_X11_vanityOf hh_67 rfl (Nat.le_of_ble_eq_true rfl) (zas (lcS (lcI (k := (if ((μ 72) 24) = 0 then ((μ 72) 21 : Int32) else ((μ 72) 20 : Int32)).toNatClampNeg) (nb_k (ph_nb hR.1.1.2.1 hR.1.1.1)) (lcI (k := ((μ 70) (5 * c)).toNatClampNeg) (nb_k (hT _ (by omega))) rfl))) (e_X11_vanityOf (e := (if ((μ 72) 24) = 0 then ((μ 72) 21 : Int32) else ((μ 72) 20 : Int32)).toNatClampNeg) (t := ((μ 70) (5 * c)).toNatClampNeg) (by omega) (by omega))) (Nat.le_of_ble_eq_true rfl) rfl rfl ?_
  refine pv_aload_n (i := 1) t_X11_says_64 rfl rfl ?_
  refine pv_iload t_X11_says_65 rfl ?_
  refine sv_iald ((μ 72) (((33 + (4 * (1 - ((μ 72) 24).toNatClampNeg))) + ((μ 70) (5 * c)).toNatClampNeg))) t_X11_says_67 (Or.inl hh_72) (ixi (k := ((33 + (4 * (1 - ((μ 72) 24).toNatClampNeg))) + ((μ 70) (5 * c)).toNatClampNeg)) (nIa (nIa rfl (nIm rfl (nIsb rfl (nb_k hR.1.2.1) (by omega)))) (nb_k (hT _ (by omega)))) (by omega) (by decide)) ((ixe (k := ((33 + (4 * (1 - ((μ 72) 24).toNatClampNeg))) + ((μ 70) (5 * c)).toNatClampNeg)) (nIa (nIa rfl (nIm rfl (nIsb rfl (nb_k hR.1.2.1) (by omega)))) (nb_k (hT _ (by omega)))) (by omega)).trans (by first | rfl | (simp only [zhs_s, pk_us]; done) | (simp [zhs, upd]; done))) ?_
  have htt : ((μ 72) (((33 + (4 * (1 - ((μ 72) 24).toNatClampNeg))) + ((μ 70) (5 * c)).toNatClampNeg))).toNatClampNeg < 100 := (hR.2 _ (by omega) (by omega)).1
  refine sv_V4 (a_X11_effectBy (μ 70) (μ 72) c ((if ((μ 72) 24) = 0 then ((μ 72) 21 : Int32) else ((μ 72) 20 : Int32)).toNatClampNeg) (a_X11_vanityOf (μ 72) ((if ((μ 72) 24) = 0 then ((μ 72) 21 : Int32) else ((μ 72) 20 : Int32)).toNatClampNeg) (((μ 70) (5 * c)).toNatClampNeg)) (((μ 72) (((33 + (4 * (1 - ((μ 72) 24).toNatClampNeg))) + ((μ 70) (5 * c)).toNatClampNeg))).toNatClampNeg)) μ t_X11_says_68 ml_X11_182 mo_X11_effectBy hh_67 rfl (Nat.le_of_ble_eq_true rfl) (zas (lcS (lcI (k := c) rfl (lcI (k := (if ((μ 72) 24) = 0 then ((μ 72) 21 : Int32) else ((μ 72) 20 : Int32)).toNatClampNeg) (nb_k (ph_nb hR.1.1.2.1 hR.1.1.1)) (lcS (lcI (k := ((μ 72) (((33 + (4 * (1 - ((μ 72) 24).toNatClampNeg))) + ((μ 70) (5 * c)).toNatClampNeg))).toNatClampNeg) (nb_k (hR.2 _ (by omega) (by omega))) rfl))))) (e_X11_effectBy (c := c) (e := (if ((μ 72) 24) = 0 then ((μ 72) 21 : Int32) else ((μ 72) 20 : Int32)).toNatClampNeg) (tt := ((μ 72) (((33 + (4 * (1 - ((μ 72) 24).toNatClampNeg))) + ((μ 70) (5 * c)).toNatClampNeg))).toNatClampNeg) (by omega) (by omega) (by omega))) (Nat.le_of_ble_eq_true rfl) rfl rfl ?_
  refine pv_iadd t_X11_says_71 ?_
  refine sv_iast ((zhs μ 72 ((upd (μ 72) ((28 - ((μ 72) 24).toNatClampNeg)) (((μ 72) ((28 - ((μ 72) 24).toNatClampNeg))) + (a_X11_effectBy (μ 70) (μ 72) c ((if ((μ 72) 24) = 0 then ((μ 72) 21 : Int32) else ((μ 72) 20 : Int32)).toNatClampNeg) (a_X11_vanityOf (μ 72) ((if ((μ 72) 24) = 0 then ((μ 72) 21 : Int32) else ((μ 72) 20 : Int32)).toNatClampNeg) (((μ 70) (5 * c)).toNatClampNeg)) (((μ 72) (((33 + (4 * (1 - ((μ 72) 24).toNatClampNeg))) + ((μ 70) (5 * c)).toNatClampNeg))).toNatClampNeg))))))) t_X11_says_72 hh_72 (ixi (k := (28 - ((μ 72) 24).toNatClampNeg)) (nIsb rfl (nb_k hR.1.2.1) (by omega)) (by omega) (by decide)) (by rw [ixc (x := 28 - ((μ 72) 24)) (k := (28 - ((μ 72) 24).toNatClampNeg)) (nIsb rfl (nb_k hR.1.2.1) (by omega)) (by omega)] <;> (first | rfl | (congr 1; funext k_; simp only [upd]; ((repeat' split) <;> first | rfl | (simp_all; done))))) ?_
  refine pv_aload_n (i := 1) t_X11_says_73 rfl rfl ?_
  refine pv_iload t_X11_says_74 rfl ?_
  refine pv_dup2 t_X11_says_76 ?_
  refine sv_iald ((μ 72) (((33 + (4 * (1 - ((μ 72) 24).toNatClampNeg))) + ((μ 70) (5 * c)).toNatClampNeg))) t_X11_says_77 (Or.inl hh_72) (ixi (k := ((33 + (4 * (1 - ((μ 72) 24).toNatClampNeg))) + ((μ 70) (5 * c)).toNatClampNeg)) (nIa (nIa rfl (nIm rfl (nIsb rfl (nb_k hR.1.2.1) (by omega)))) (nb_k (hT _ (by omega)))) (by omega) (by decide)) ((ixe (k := ((33 + (4 * (1 - ((μ 72) 24).toNatClampNeg))) + ((μ 70) (5 * c)).toNatClampNeg)) (nIa (nIa rfl (nIm rfl (nIsb rfl (nb_k hR.1.2.1) (by omega)))) (nb_k (hT _ (by omega)))) (by omega)).trans (by (try simp (disch := decide) only [zhs_d, zhs_s]); repeat (first | rw [upn (by omega)] | rw [ups] | rfl))) ?_
  refine pv_iconst (v := 1) t_X11_says_78 zi_1 ?_
  refine pv_iadd t_X11_says_79 ?_
  refine sv_iast ((zhs μ 72 ((upd (upd (μ 72) ((28 - ((μ 72) 24).toNatClampNeg)) (((μ 72) ((28 - ((μ 72) 24).toNatClampNeg))) + (a_X11_effectBy (μ 70) (μ 72) c ((if ((μ 72) 24) = 0 then ((μ 72) 21 : Int32) else ((μ 72) 20 : Int32)).toNatClampNeg) (a_X11_vanityOf (μ 72) ((if ((μ 72) 24) = 0 then ((μ 72) 21 : Int32) else ((μ 72) 20 : Int32)).toNatClampNeg) (((μ 70) (5 * c)).toNatClampNeg)) (((μ 72) (((33 + (4 * (1 - ((μ 72) 24).toNatClampNeg))) + ((μ 70) (5 * c)).toNatClampNeg))).toNatClampNeg)))) (((33 + (4 * (1 - ((μ 72) 24).toNatClampNeg))) + ((μ 70) (5 * c)).toNatClampNeg)) (((μ 72) (((33 + (4 * (1 - ((μ 72) 24).toNatClampNeg))) + ((μ 70) (5 * c)).toNatClampNeg))) + 1))))) t_X11_says_80 hh_72 (ixi (k := ((33 + (4 * (1 - ((μ 72) 24).toNatClampNeg))) + ((μ 70) (5 * c)).toNatClampNeg)) (nIa (nIa rfl (nIm rfl (nIsb rfl (nb_k hR.1.2.1) (by omega)))) (nb_k (hT _ (by omega)))) (by omega) (by decide)) (by rw [ixc (x := (33 + (4 * (1 - ((μ 72) 24)))) + ((μ 70) ((5 * c)))) (k := ((33 + (4 * (1 - ((μ 72) 24).toNatClampNeg))) + ((μ 70) (5 * c)).toNatClampNeg)) (nIa (nIa rfl (nIm rfl (nIsb rfl (nb_k hR.1.2.1) (by omega)))) (nb_k (hT _ (by omega)))) (by omega), zhs_hs] <;> (first | rfl | (congr 1; funext k_; simp only [upd]; ((repeat' split) <;> first | rfl | (simp_all; done))))) ?_
  refine pv_aload_n (i := 1) t_X11_says_81 rfl rfl ?_
  refine pv_bipush (v := 25) t_X11_says_82 zb_25 ?_
  refine pv_dup2 t_X11_says_84 ?_
  refine sv_iald ((μ 72) 25) t_X11_says_85 (Or.inl hh_72) (zin (by decide)) ((congrArg _ (show (25 : Int32).toNatClampNeg = 25 from rfl)).trans (by (try simp (disch := decide) only [zhs_d, zhs_s]); repeat (first | rw [upn (by omega)] | rw [ups] | rfl))) ?_
  refine pv_iconst (v := 1) t_X11_says_86 zi_1 ?_
  refine pv_iload_n (i := 2) t_X11_says_87 rfl rfl ?_
  refine pv_ishl t_X11_says_88 ?_
  refine pv_ior t_X11_says_89 ?_
  refine sv_iast ((zhs μ 72 ((upd (upd (upd (μ 72) ((28 - ((μ 72) 24).toNatClampNeg)) (((μ 72) ((28 - ((μ 72) 24).toNatClampNeg))) + (a_X11_effectBy (μ 70) (μ 72) c ((if ((μ 72) 24) = 0 then ((μ 72) 21 : Int32) else ((μ 72) 20 : Int32)).toNatClampNeg) (a_X11_vanityOf (μ 72) ((if ((μ 72) 24) = 0 then ((μ 72) 21 : Int32) else ((μ 72) 20 : Int32)).toNatClampNeg) (((μ 70) (5 * c)).toNatClampNeg)) (((μ 72) (((33 + (4 * (1 - ((μ 72) 24).toNatClampNeg))) + ((μ 70) (5 * c)).toNatClampNeg))).toNatClampNeg)))) (((33 + (4 * (1 - ((μ 72) 24).toNatClampNeg))) + ((μ 70) (5 * c)).toNatClampNeg)) (((μ 72) (((33 + (4 * (1 - ((μ 72) 24).toNatClampNeg))) + ((μ 70) (5 * c)).toNatClampNeg))) + 1)) 25 (((μ 72) 25) ||| (1 <<< (((nI c)) &&& 31))))))) t_X11_says_90 hh_72 (zin (by decide)) (by rw [zhs_hs] <;> (first | rfl | (congr 1; funext k_; simp only [upd]; ((repeat' split) <;> first | rfl | (simp_all; done))))) ?_
  refine pv_aload_n (i := 1) t_X11_says_91 rfl rfl ?_
  refine pv_bipush (v := 31) t_X11_says_92 zb_31 ?_
  refine pv_iload_n (i := 3) t_X11_says_94 rfl rfl ?_
  refine pv_iadd t_X11_says_95 ?_
  refine pv_dup2 t_X11_says_96 ?_
  refine sv_iald ((μ 72) ((31 + ((μ 72) 24).toNatClampNeg))) t_X11_says_97 (Or.inl hh_72) (ixi (k := (31 + ((μ 72) 24).toNatClampNeg)) (nIa rfl (nb_k hR.1.2.1)) (by omega) (by decide)) ((ixe (k := (31 + ((μ 72) 24).toNatClampNeg)) (nIa rfl (nb_k hR.1.2.1)) (by omega)).trans (by (try simp (disch := decide) only [zhs_d, zhs_s]); repeat (first | rw [upn (by omega)] | rw [ups] | rfl))) ?_
  refine pv_aload_n (i := 0) t_X11_says_98 rfl rfl ?_
  refine pv_getR t_X11_says_99 fl_X11_20 hh_67 rfl ?_
  refine pv_iconst (v := 5) t_X11_says_102 zi_5 ?_
  refine pv_iload_n (i := 2) t_X11_says_103 rfl rfl ?_
  refine pv_imul t_X11_says_104 ?_
  refine pv_iconst (v := 2) t_X11_says_105 zi_2 ?_
  refine pv_iadd t_X11_says_106 ?_
  refine sv_iald ((μ 70) (((5 * c) + 2))) t_X11_says_107 (Or.inl hh_70) (ixi (k := ((5 * c) + 2)) (nIa (nIm rfl rfl) rfl) (by omega) (by decide)) ((ixe (k := ((5 * c) + 2)) (nIa (nIm rfl rfl) rfl) (by omega)).trans (by first | rfl | (simp only [zhs_s, pk_us]; done) | (simp [zhs, upd]; done))) ?_
  refine pv_iadd t_X11_says_108 ?_
  refine sv_iast ((zhs μ 72 ((upd (upd (upd (upd (μ 72) ((28 - ((μ 72) 24).toNatClampNeg)) (((μ 72) ((28 - ((μ 72) 24).toNatClampNeg))) + (a_X11_effectBy (μ 70) (μ 72) c ((if ((μ 72) 24) = 0 then ((μ 72) 21 : Int32) else ((μ 72) 20 : Int32)).toNatClampNeg) (a_X11_vanityOf (μ 72) ((if ((μ 72) 24) = 0 then ((μ 72) 21 : Int32) else ((μ 72) 20 : Int32)).toNatClampNeg) (((μ 70) (5 * c)).toNatClampNeg)) (((μ 72) (((33 + (4 * (1 - ((μ 72) 24).toNatClampNeg))) + ((μ 70) (5 * c)).toNatClampNeg))).toNatClampNeg)))) (((33 + (4 * (1 - ((μ 72) 24).toNatClampNeg))) + ((μ 70) (5 * c)).toNatClampNeg)) (((μ 72) (((33 + (4 * (1 - ((μ 72) 24).toNatClampNeg))) + ((μ 70) (5 * c)).toNatClampNeg))) + 1)) 25 (((μ 72) 25) ||| (1 <<< (((nI c)) &&& 31)))) ((31 + ((μ 72) 24).toNatClampNeg)) (((μ 72) ((31 + ((μ 72) 24).toNatClampNeg))) + ((μ 70) (((5 * c) + 2)))))))) t_X11_says_109 hh_72 (ixi (k := (31 + ((μ 72) 24).toNatClampNeg)) (nIa rfl (nb_k hR.1.2.1)) (by omega) (by decide)) (by rw [ixc (x := 31 + ((μ 72) 24)) (k := (31 + ((μ 72) 24).toNatClampNeg)) (nIa rfl (nb_k hR.1.2.1)) (by omega), zhs_hs] <;> (first | rfl | (congr 1; funext k_; simp only [upd]; ((repeat' split) <;> first | rfl | (simp_all; done))))) ?_
  refine pv_aload_n (i := 1) t_X11_says_110 rfl rfl ?_
  refine pv_bipush (v := 26) t_X11_says_111 zb_26 ?_
  refine pv_iconst (v := 0) t_X11_says_113 zi_0 ?_
  refine sv_iast ((zhs μ 72 ((upd (upd (upd (upd (upd (μ 72) ((28 - ((μ 72) 24).toNatClampNeg)) (((μ 72) ((28 - ((μ 72) 24).toNatClampNeg))) + (a_X11_effectBy (μ 70) (μ 72) c ((if ((μ 72) 24) = 0 then ((μ 72) 21 : Int32) else ((μ 72) 20 : Int32)).toNatClampNeg) (a_X11_vanityOf (μ 72) ((if ((μ 72) 24) = 0 then ((μ 72) 21 : Int32) else ((μ 72) 20 : Int32)).toNatClampNeg) (((μ 70) (5 * c)).toNatClampNeg)) (((μ 72) (((33 + (4 * (1 - ((μ 72) 24).toNatClampNeg))) + ((μ 70) (5 * c)).toNatClampNeg))).toNatClampNeg)))) (((33 + (4 * (1 - ((μ 72) 24).toNatClampNeg))) + ((μ 70) (5 * c)).toNatClampNeg)) (((μ 72) (((33 + (4 * (1 - ((μ 72) 24).toNatClampNeg))) + ((μ 70) (5 * c)).toNatClampNeg))) + 1)) 25 (((μ 72) 25) ||| (1 <<< (((nI c)) &&& 31)))) ((31 + ((μ 72) 24).toNatClampNeg)) (((μ 72) ((31 + ((μ 72) 24).toNatClampNeg))) + ((μ 70) (((5 * c) + 2))))) 26 0)))) t_X11_says_114 hh_72 (zin (by decide)) (by rw [zhs_hs] <;> (first | rfl | (congr 1; funext k_; simp only [upd]; ((repeat' split) <;> first | rfl | (simp_all; done))))) ?_
  refine pv_aload_n (i := 0) t_X11_says_115 rfl rfl ?_
  refine pv_iload_n (i := 2) t_X11_says_116 rfl rfl ?_
  refine pv_aload_n (i := 0) t_X11_says_117 rfl rfl ?_
  refine pv_getR t_X11_says_118 fl_X11_26 hh_67 rfl ?_
  refine pv_iload t_X11_says_121 rfl ?_
  refine sv_iald ((μ 72) ((if ((μ 72) 24) = 0 then ((μ 72) 21 : Int32) else ((μ 72) 20 : Int32)).toNatClampNeg)) t_X11_says_123 (Or.inl hh_72) (ixi (k := (if ((μ 72) 24) = 0 then ((μ 72) 21 : Int32) else ((μ 72) 20 : Int32)).toNatClampNeg) (nb_k (ph_nb hR.1.1.2.1 hR.1.1.1)) (by omega) (by decide)) ((ixe (k := (if ((μ 72) 24) = 0 then ((μ 72) 21 : Int32) else ((μ 72) 20 : Int32)).toNatClampNeg) (nb_k (ph_nb hR.1.1.2.1 hR.1.1.1)) (by omega)).trans (by (try simp (disch := decide) only [zhs_d, zhs_s]); repeat (first | rw [upn (by omega)] | rw [ups] | rfl))) ?_
  refine sv_V2 (a_X11_truthBy (μ 70) c ((μ 72) ((if ((μ 72) 24) = 0 then ((μ 72) 21 : Int32) else ((μ 72) 20 : Int32)).toNatClampNeg))) ((zhs μ 72 ((upd (upd (upd (upd (upd (μ 72) ((28 - ((μ 72) 24).toNatClampNeg)) (((μ 72) ((28 - ((μ 72) 24).toNatClampNeg))) + (a_X11_effectBy (μ 70) (μ 72) c ((if ((μ 72) 24) = 0 then ((μ 72) 21 : Int32) else ((μ 72) 20 : Int32)).toNatClampNeg) (a_X11_vanityOf (μ 72) ((if ((μ 72) 24) = 0 then ((μ 72) 21 : Int32) else ((μ 72) 20 : Int32)).toNatClampNeg) (((μ 70) (5 * c)).toNatClampNeg)) (((μ 72) (((33 + (4 * (1 - ((μ 72) 24).toNatClampNeg))) + ((μ 70) (5 * c)).toNatClampNeg))).toNatClampNeg)))) (((33 + (4 * (1 - ((μ 72) 24).toNatClampNeg))) + ((μ 70) (5 * c)).toNatClampNeg)) (((μ 72) (((33 + (4 * (1 - ((μ 72) 24).toNatClampNeg))) + ((μ 70) (5 * c)).toNatClampNeg))) + 1)) 25 (((μ 72) 25) ||| (1 <<< (((nI c)) &&& 31)))) ((31 + ((μ 72) 24).toNatClampNeg)) (((μ 72) ((31 + ((μ 72) 24).toNatClampNeg))) + ((μ 70) (((5 * c) + 2))))) 26 0)))) t_X11_says_124 ml_X11_175 mo_X11_truthBy hh_67 rfl (Nat.le_of_ble_eq_true rfl) (e_X11_truthBy (c := c) (by omega)) (Nat.le_of_ble_eq_true rfl) rfl rfl ?_
  refine sv_phi (c := (a_X11_truthBy (μ 70) c ((μ 72) ((if ((μ 72) 24) = 0 then ((μ 72) 21 : Int32) else ((μ 72) 20 : Int32)).toNatClampNeg))) = 0) (A := 1) (B := 0) (J := 135) (lv := [(0, .inr 67), (1, .inr 72), (2, .inl ((nI c))), (3, .inl ((μ 72) 24)), (4, .inl (if ((μ 72) 24) = 0 then ((μ 72) 21 : Int32) else ((μ 72) 20 : Int32))), (5, .inl ((μ 70) ((5 * c)))), (6, .inl ((33 + (4 * (1 - ((μ 72) 24)))) + ((μ 70) ((5 * c)))))]) (st := []) (S := (zSH, (zhs μ 72 ((upd (upd (upd (upd (upd (μ 72) ((28 - ((μ 72) 24).toNatClampNeg)) (((μ 72) ((28 - ((μ 72) 24).toNatClampNeg))) + (a_X11_effectBy (μ 70) (μ 72) c ((if ((μ 72) 24) = 0 then ((μ 72) 21 : Int32) else ((μ 72) 20 : Int32)).toNatClampNeg) (a_X11_vanityOf (μ 72) ((if ((μ 72) 24) = 0 then ((μ 72) 21 : Int32) else ((μ 72) 20 : Int32)).toNatClampNeg) (((μ 70) (5 * c)).toNatClampNeg)) (((μ 72) (((33 + (4 * (1 - ((μ 72) 24).toNatClampNeg))) + ((μ 70) (5 * c)).toNatClampNeg))).toNatClampNeg)))) (((33 + (4 * (1 - ((μ 72) 24).toNatClampNeg))) + ((μ 70) (5 * c)).toNatClampNeg)) (((μ 72) (((33 + (4 * (1 - ((μ 72) 24).toNatClampNeg))) + ((μ 70) (5 * c)).toNatClampNeg))) + 1)) 25 (((μ 72) 25) ||| (1 <<< (((nI c)) &&& 31)))) ((31 + ((μ 72) 24).toNatClampNeg)) (((μ 72) ((31 + ((μ 72) 24).toNatClampNeg))) + ((μ 70) (((5 * c) + 2))))) 26 0))))) (fun kT kF => ?_) ?_
  · skip
    refine pv_if_ne t_X11_says_127 (fun c127 => ?_) (fun c127 => ?_)
    · skip
      refine pv_iconst (v := 0) t_X11_says_134 zi_0 ?_
      exact kF c127
    · skip
      refine pv_iconst (v := 1) t_X11_says_130 zi_1 ?_
      refine pv_goto t_X11_says_131 ?_
      exact kT c127
  refine pv_istore t_X11_says_135 (Nat.le_of_ble_eq_true rfl) ?_
  refine pv_aload_n (i := 1) t_X11_says_137 rfl rfl ?_
  refine pv_bipush (v := 29) t_X11_says_138 zb_29 ?_
  refine pv_iload_n (i := 3) t_X11_says_140 rfl rfl ?_
  refine pv_iadd t_X11_says_141 ?_
  refine pv_dup2 t_X11_says_142 ?_
  refine sv_iald ((μ 72) ((29 + ((μ 72) 24).toNatClampNeg))) t_X11_says_143 (Or.inl hh_72) (ixi (k := (29 + ((μ 72) 24).toNatClampNeg)) (nIa rfl (nb_k hR.1.2.1)) (by omega) (by decide)) ((ixe (k := (29 + ((μ 72) 24).toNatClampNeg)) (nIa rfl (nb_k hR.1.2.1)) (by omega)).trans (by (try simp (disch := decide) only [zhs_d, zhs_s]); repeat (first | rw [upn (by omega)] | rw [ups] | rfl))) ?_
  refine pv_iload t_X11_says_144 rfl ?_
  refine sv_phi (c := (if (a_X11_truthBy (μ 70) c ((μ 72) ((if ((μ 72) 24) = 0 then ((μ 72) 21 : Int32) else ((μ 72) 20 : Int32)).toNatClampNeg))) = 0 then (1 : Int32) else (0 : Int32)) = 0) (A := 0) (B := 1) (J := 154) (lv := [(0, .inr 67), (1, .inr 72), (2, .inl ((nI c))), (3, .inl ((μ 72) 24)), (4, .inl (if ((μ 72) 24) = 0 then ((μ 72) 21 : Int32) else ((μ 72) 20 : Int32))), (5, .inl ((μ 70) ((5 * c)))), (6, .inl ((33 + (4 * (1 - ((μ 72) 24)))) + ((μ 70) ((5 * c))))), (7, .inl (if (a_X11_truthBy (μ 70) c ((μ 72) ((if ((μ 72) 24) = 0 then ((μ 72) 21 : Int32) else ((μ 72) 20 : Int32)).toNatClampNeg))) = 0 then (1 : Int32) else (0 : Int32)))]) (st := [.inl ((μ 72) ((29 + ((μ 72) 24).toNatClampNeg))), .inl (29 + ((μ 72) 24)), .inr 72]) (S := (zSH, (zhs μ 72 ((upd (upd (upd (upd (upd (μ 72) ((28 - ((μ 72) 24).toNatClampNeg)) (((μ 72) ((28 - ((μ 72) 24).toNatClampNeg))) + (a_X11_effectBy (μ 70) (μ 72) c ((if ((μ 72) 24) = 0 then ((μ 72) 21 : Int32) else ((μ 72) 20 : Int32)).toNatClampNeg) (a_X11_vanityOf (μ 72) ((if ((μ 72) 24) = 0 then ((μ 72) 21 : Int32) else ((μ 72) 20 : Int32)).toNatClampNeg) (((μ 70) (5 * c)).toNatClampNeg)) (((μ 72) (((33 + (4 * (1 - ((μ 72) 24).toNatClampNeg))) + ((μ 70) (5 * c)).toNatClampNeg))).toNatClampNeg)))) (((33 + (4 * (1 - ((μ 72) 24).toNatClampNeg))) + ((μ 70) (5 * c)).toNatClampNeg)) (((μ 72) (((33 + (4 * (1 - ((μ 72) 24).toNatClampNeg))) + ((μ 70) (5 * c)).toNatClampNeg))) + 1)) 25 (((μ 72) 25) ||| (1 <<< (((nI c)) &&& 31)))) ((31 + ((μ 72) 24).toNatClampNeg)) (((μ 72) ((31 + ((μ 72) 24).toNatClampNeg))) + ((μ 70) (((5 * c) + 2))))) 26 0))))) (fun kT kF => ?_) ?_
  · skip
    refine pv_if_eq t_X11_says_146 (fun c146 => ?_) (fun c146 => ?_)
    · skip
      refine pv_iconst (v := 0) t_X11_says_153 zi_0 ?_
      exact kT c146
    · skip
      refine pv_iconst (v := 1) t_X11_says_149 zi_1 ?_
      refine pv_goto t_X11_says_150 ?_
      exact kF c146
  refine pv_iadd t_X11_says_154 ?_
  refine sv_iast ((zhs μ 72 ((upd (upd (upd (upd (upd (upd (μ 72) ((28 - ((μ 72) 24).toNatClampNeg)) (((μ 72) ((28 - ((μ 72) 24).toNatClampNeg))) + (a_X11_effectBy (μ 70) (μ 72) c ((if ((μ 72) 24) = 0 then ((μ 72) 21 : Int32) else ((μ 72) 20 : Int32)).toNatClampNeg) (a_X11_vanityOf (μ 72) ((if ((μ 72) 24) = 0 then ((μ 72) 21 : Int32) else ((μ 72) 20 : Int32)).toNatClampNeg) (((μ 70) (5 * c)).toNatClampNeg)) (((μ 72) (((33 + (4 * (1 - ((μ 72) 24).toNatClampNeg))) + ((μ 70) (5 * c)).toNatClampNeg))).toNatClampNeg)))) (((33 + (4 * (1 - ((μ 72) 24).toNatClampNeg))) + ((μ 70) (5 * c)).toNatClampNeg)) (((μ 72) (((33 + (4 * (1 - ((μ 72) 24).toNatClampNeg))) + ((μ 70) (5 * c)).toNatClampNeg))) + 1)) 25 (((μ 72) 25) ||| (1 <<< (((nI c)) &&& 31)))) ((31 + ((μ 72) 24).toNatClampNeg)) (((μ 72) ((31 + ((μ 72) 24).toNatClampNeg))) + ((μ 70) (((5 * c) + 2))))) 26 0) ((29 + ((μ 72) 24).toNatClampNeg)) (((μ 72) ((29 + ((μ 72) 24).toNatClampNeg))) + (if (if (a_X11_truthBy (μ 70) c ((μ 72) ((if ((μ 72) 24) = 0 then ((μ 72) 21 : Int32) else ((μ 72) 20 : Int32)).toNatClampNeg))) = 0 then (1 : Int32) else (0 : Int32)) = 0 then (0 : Int32) else (1 : Int32))))))) t_X11_says_155 hh_72 (ixi (k := (29 + ((μ 72) 24).toNatClampNeg)) (nIa rfl (nb_k hR.1.2.1)) (by omega) (by decide)) (by rw [ixc (x := 29 + ((μ 72) 24)) (k := (29 + ((μ 72) 24).toNatClampNeg)) (nIa rfl (nb_k hR.1.2.1)) (by omega), zhs_hs] <;> (first | rfl | (congr 1; funext k_; simp only [upd]; ((repeat' split) <;> first | rfl | (simp_all; done))))) ?_
  refine pv_aload_n (i := 1) t_X11_says_156 rfl rfl ?_
  refine pv_bipush (v := 29) t_X11_says_157 zb_29 ?_
  refine pv_iload_n (i := 3) t_X11_says_159 rfl rfl ?_
  refine pv_iadd t_X11_says_160 ?_
  refine sv_iald (((μ 72) ((29 + ((μ 72) 24).toNatClampNeg))) + (if (if (a_X11_truthBy (μ 70) c ((μ 72) ((if ((μ 72) 24) = 0 then ((μ 72) 21 : Int32) else ((μ 72) 20 : Int32)).toNatClampNeg))) = 0 then (1 : Int32) else (0 : Int32)) = 0 then (0 : Int32) else (1 : Int32))) t_X11_says_161 (Or.inl hh_72) (ixi (k := (29 + ((μ 72) 24).toNatClampNeg)) (nIa rfl (nb_k hR.1.2.1)) (by omega) (by decide)) ((ixe (k := (29 + ((μ 72) 24).toNatClampNeg)) (nIa rfl (nb_k hR.1.2.1)) (by omega)).trans (by first | rfl | (simp only [zhs_s, pk_us]; done) | (simp [zhs, upd]; done))) ?_
  refine pv_iconst (v := 3) t_X11_says_162 zi_3 ?_
  refine pv_icmp_ne t_X11_says_163 (fun c163 => ?_) (fun c163 => ?_)
  · skip
    refine pv_aload_n (i := 1) t_X11_says_176 rfl rfl ?_
    refine pv_bipush (v := 28) t_X11_says_177 zb_28 ?_
    refine pv_iload_n (i := 3) t_X11_says_179 rfl rfl ?_
    refine pv_isub t_X11_says_180 ?_
    refine sv_iald (((μ 72) ((28 - ((μ 72) 24).toNatClampNeg))) + (a_X11_effectBy (μ 70) (μ 72) c ((if ((μ 72) 24) = 0 then ((μ 72) 21 : Int32) else ((μ 72) 20 : Int32)).toNatClampNeg) (a_X11_vanityOf (μ 72) ((if ((μ 72) 24) = 0 then ((μ 72) 21 : Int32) else ((μ 72) 20 : Int32)).toNatClampNeg) (((μ 70) (5 * c)).toNatClampNeg)) (((μ 72) (((33 + (4 * (1 - ((μ 72) 24).toNatClampNeg))) + ((μ 70) (5 * c)).toNatClampNeg))).toNatClampNeg))) t_X11_says_181 (Or.inl hh_72) (ixi (k := (28 - ((μ 72) 24).toNatClampNeg)) (nIsb rfl (nb_k hR.1.2.1) (by omega)) (by omega) (by decide)) ((ixe (k := (28 - ((μ 72) 24).toNatClampNeg)) (nIsb rfl (nb_k hR.1.2.1) (by omega)) (by omega)).trans (by (try simp (disch := decide) only [zhs_d, zhs_s]); repeat (first | rw [upn (by omega)] | rw [ups] | rfl))) ?_
    refine pv_aload_n (i := 0) t_X11_says_182 rfl rfl ?_
    refine pv_getR t_X11_says_183 fl_X11_17 hh_67 rfl ?_
    refine pv_bipush (v := 6) t_X11_says_186 zb_6 ?_
    refine pv_iload t_X11_says_188 rfl ?_
    refine pv_imul t_X11_says_190 ?_
    refine sv_iald ((μ 69) ((6 * (if ((μ 72) 24) = 0 then ((μ 72) 21 : Int32) else ((μ 72) 20 : Int32)).toNatClampNeg))) t_X11_says_191 (Or.inl hh_69) (ixi (k := (6 * (if ((μ 72) 24) = 0 then ((μ 72) 21 : Int32) else ((μ 72) 20 : Int32)).toNatClampNeg)) (nIm rfl (nb_k (ph_nb hR.1.1.2.1 hR.1.1.1))) (by omega) (by decide)) ((ixe (k := (6 * (if ((μ 72) 24) = 0 then ((μ 72) 21 : Int32) else ((μ 72) 20 : Int32)).toNatClampNeg)) (nIm rfl (nb_k (ph_nb hR.1.1.2.1 hR.1.1.1))) (by omega)).trans (by first | rfl | (simp only [zhs_s, pk_us]; done) | (simp [zhs, upd]; done))) ?_
    refine pv_icmp_lt t_X11_says_192 (fun c192 => ?_) (fun c192 => ?_)
    · skip
      exact pv_vret t_X11_says_202 rfl (Prod.ext rfl (by have e72 : w_X11_says_72_72 (μ 69) (μ 70) (μ 72) c = (upd (upd (upd (upd (upd (upd (μ 72) ((28 - ((μ 72) 24).toNatClampNeg)) (((μ 72) ((28 - ((μ 72) 24).toNatClampNeg))) + (a_X11_effectBy (μ 70) (μ 72) c ((if ((μ 72) 24) = 0 then ((μ 72) 21 : Int32) else ((μ 72) 20 : Int32)).toNatClampNeg) (a_X11_vanityOf (μ 72) ((if ((μ 72) 24) = 0 then ((μ 72) 21 : Int32) else ((μ 72) 20 : Int32)).toNatClampNeg) (((μ 70) (5 * c)).toNatClampNeg)) (((μ 72) (((33 + (4 * (1 - ((μ 72) 24).toNatClampNeg))) + ((μ 70) (5 * c)).toNatClampNeg))).toNatClampNeg)))) (((33 + (4 * (1 - ((μ 72) 24).toNatClampNeg))) + ((μ 70) (5 * c)).toNatClampNeg)) (((μ 72) (((33 + (4 * (1 - ((μ 72) 24).toNatClampNeg))) + ((μ 70) (5 * c)).toNatClampNeg))) + 1)) 25 (((μ 72) 25) ||| (1 <<< (((nI c)) &&& 31)))) ((31 + ((μ 72) 24).toNatClampNeg)) (((μ 72) ((31 + ((μ 72) 24).toNatClampNeg))) + ((μ 70) (((5 * c) + 2))))) 26 0) ((29 + ((μ 72) 24).toNatClampNeg)) (((μ 72) ((29 + ((μ 72) 24).toNatClampNeg))) + (if (if (a_X11_truthBy (μ 70) c ((μ 72) ((if ((μ 72) 24) = 0 then ((μ 72) 21 : Int32) else ((μ 72) 20 : Int32)).toNatClampNeg))) = 0 then (1 : Int32) else (0 : Int32)) = 0 then (0 : Int32) else (1 : Int32)))) := (by unfold w_X11_says_72_72; rw [if_neg c163, if_pos c192]); show _ = (zhs μ 72 (w_X11_says_72_72 (μ 69) (μ 70) (μ 72) c)); symm; rw [e72]))
    · skip
      refine pv_aload_n (i := 1) t_X11_says_195 rfl rfl ?_
      refine pv_iconst (v := 1) t_X11_says_196 zi_1 ?_
      refine pv_iload_n (i := 3) t_X11_says_197 rfl rfl ?_
      refine pv_iadd t_X11_says_198 ?_
      refine sv_WS2 ((zhs μ 72 (w_X11_over_72_72 ((upd (upd (upd (upd (upd (upd (μ 72) ((28 - ((μ 72) 24).toNatClampNeg)) (((μ 72) ((28 - ((μ 72) 24).toNatClampNeg))) + (a_X11_effectBy (μ 70) (μ 72) c ((if ((μ 72) 24) = 0 then ((μ 72) 21 : Int32) else ((μ 72) 20 : Int32)).toNatClampNeg) (a_X11_vanityOf (μ 72) ((if ((μ 72) 24) = 0 then ((μ 72) 21 : Int32) else ((μ 72) 20 : Int32)).toNatClampNeg) (((μ 70) (5 * c)).toNatClampNeg)) (((μ 72) (((33 + (4 * (1 - ((μ 72) 24).toNatClampNeg))) + ((μ 70) (5 * c)).toNatClampNeg))).toNatClampNeg)))) (((33 + (4 * (1 - ((μ 72) 24).toNatClampNeg))) + ((μ 70) (5 * c)).toNatClampNeg)) (((μ 72) (((33 + (4 * (1 - ((μ 72) 24).toNatClampNeg))) + ((μ 70) (5 * c)).toNatClampNeg))) + 1)) 25 (((μ 72) 25) ||| (1 <<< (((nI c)) &&& 31)))) ((31 + ((μ 72) 24).toNatClampNeg)) (((μ 72) ((31 + ((μ 72) 24).toNatClampNeg))) + ((μ 70) (((5 * c) + 2))))) 26 0) ((29 + ((μ 72) 24).toNatClampNeg)) (((μ 72) ((29 + ((μ 72) 24).toNatClampNeg))) + (if (if (a_X11_truthBy (μ 70) c ((μ 72) ((if ((μ 72) 24) = 0 then ((μ 72) 21 : Int32) else ((μ 72) 20 : Int32)).toNatClampNeg))) = 0 then (1 : Int32) else (0 : Int32)) = 0 then (0 : Int32) else (1 : Int32))))) (1 + ((μ 72) 24))))) t_X11_says_199 ml_X11_192 mo_X11_over (Nat.le_of_ble_eq_true rfl) (e_X11_over_72 (by repeat (first | exact hO | refine OB.u ?_ (by unfold okW; omega)))) (Nat.le_of_ble_eq_true rfl) (by (try simp (disch := decide) only [zhs_d, zhs_s]); rw [zhs_hs] <;> (first | rfl | (congr 1; funext k_; simp only [upd]; ((repeat' split) <;> first | rfl | (simp_all; done))))) ?_
      exact pv_vret t_X11_says_202 rfl (Prod.ext rfl (by have e72 : w_X11_says_72_72 (μ 69) (μ 70) (μ 72) c = w_X11_over_72_72 ((upd (upd (upd (upd (upd (upd (μ 72) ((28 - ((μ 72) 24).toNatClampNeg)) (((μ 72) ((28 - ((μ 72) 24).toNatClampNeg))) + (a_X11_effectBy (μ 70) (μ 72) c ((if ((μ 72) 24) = 0 then ((μ 72) 21 : Int32) else ((μ 72) 20 : Int32)).toNatClampNeg) (a_X11_vanityOf (μ 72) ((if ((μ 72) 24) = 0 then ((μ 72) 21 : Int32) else ((μ 72) 20 : Int32)).toNatClampNeg) (((μ 70) (5 * c)).toNatClampNeg)) (((μ 72) (((33 + (4 * (1 - ((μ 72) 24).toNatClampNeg))) + ((μ 70) (5 * c)).toNatClampNeg))).toNatClampNeg)))) (((33 + (4 * (1 - ((μ 72) 24).toNatClampNeg))) + ((μ 70) (5 * c)).toNatClampNeg)) (((μ 72) (((33 + (4 * (1 - ((μ 72) 24).toNatClampNeg))) + ((μ 70) (5 * c)).toNatClampNeg))) + 1)) 25 (((μ 72) 25) ||| (1 <<< (((nI c)) &&& 31)))) ((31 + ((μ 72) 24).toNatClampNeg)) (((μ 72) ((31 + ((μ 72) 24).toNatClampNeg))) + ((μ 70) (((5 * c) + 2))))) 26 0) ((29 + ((μ 72) 24).toNatClampNeg)) (((μ 72) ((29 + ((μ 72) 24).toNatClampNeg))) + (if (if (a_X11_truthBy (μ 70) c ((μ 72) ((if ((μ 72) 24) = 0 then ((μ 72) 21 : Int32) else ((μ 72) 20 : Int32)).toNatClampNeg))) = 0 then (1 : Int32) else (0 : Int32)) = 0 then (0 : Int32) else (1 : Int32))))) (1 + ((μ 72) 24)) := (by unfold w_X11_says_72_72; rw [if_neg c163, if_neg c192]); show _ = (zhs μ 72 (w_X11_says_72_72 (μ 69) (μ 70) (μ 72) c)); symm; rw [e72]))
  · skip
    refine pv_aload_n (i := 1) t_X11_says_166 rfl rfl ?_
    refine pv_iconst (v := 2) t_X11_says_167 zi_2 ?_
    refine pv_iload_n (i := 3) t_X11_says_168 rfl rfl ?_
    refine pv_isub t_X11_says_169 ?_
    refine sv_WS2 ((zhs μ 72 (w_X11_over_72_72 ((upd (upd (upd (upd (upd (upd (μ 72) ((28 - ((μ 72) 24).toNatClampNeg)) (((μ 72) ((28 - ((μ 72) 24).toNatClampNeg))) + (a_X11_effectBy (μ 70) (μ 72) c ((if ((μ 72) 24) = 0 then ((μ 72) 21 : Int32) else ((μ 72) 20 : Int32)).toNatClampNeg) (a_X11_vanityOf (μ 72) ((if ((μ 72) 24) = 0 then ((μ 72) 21 : Int32) else ((μ 72) 20 : Int32)).toNatClampNeg) (((μ 70) (5 * c)).toNatClampNeg)) (((μ 72) (((33 + (4 * (1 - ((μ 72) 24).toNatClampNeg))) + ((μ 70) (5 * c)).toNatClampNeg))).toNatClampNeg)))) (((33 + (4 * (1 - ((μ 72) 24).toNatClampNeg))) + ((μ 70) (5 * c)).toNatClampNeg)) (((μ 72) (((33 + (4 * (1 - ((μ 72) 24).toNatClampNeg))) + ((μ 70) (5 * c)).toNatClampNeg))) + 1)) 25 (((μ 72) 25) ||| (1 <<< (((nI c)) &&& 31)))) ((31 + ((μ 72) 24).toNatClampNeg)) (((μ 72) ((31 + ((μ 72) 24).toNatClampNeg))) + ((μ 70) (((5 * c) + 2))))) 26 0) ((29 + ((μ 72) 24).toNatClampNeg)) (((μ 72) ((29 + ((μ 72) 24).toNatClampNeg))) + (if (if (a_X11_truthBy (μ 70) c ((μ 72) ((if ((μ 72) 24) = 0 then ((μ 72) 21 : Int32) else ((μ 72) 20 : Int32)).toNatClampNeg))) = 0 then (1 : Int32) else (0 : Int32)) = 0 then (0 : Int32) else (1 : Int32))))) (2 - ((μ 72) 24))))) t_X11_says_170 ml_X11_192 mo_X11_over (Nat.le_of_ble_eq_true rfl) (e_X11_over_72 (by repeat (first | exact hO | refine OB.u ?_ (by unfold okW; omega)))) (Nat.le_of_ble_eq_true rfl) (by (try simp (disch := decide) only [zhs_d, zhs_s]); rw [zhs_hs] <;> (first | rfl | (congr 1; funext k_; simp only [upd]; ((repeat' split) <;> first | rfl | (simp_all; done))))) ?_
    refine pv_goto t_X11_says_173 ?_
    exact pv_vret t_X11_says_202 rfl (Prod.ext rfl (by have e72 : w_X11_says_72_72 (μ 69) (μ 70) (μ 72) c = w_X11_over_72_72 ((upd (upd (upd (upd (upd (upd (μ 72) ((28 - ((μ 72) 24).toNatClampNeg)) (((μ 72) ((28 - ((μ 72) 24).toNatClampNeg))) + (a_X11_effectBy (μ 70) (μ 72) c ((if ((μ 72) 24) = 0 then ((μ 72) 21 : Int32) else ((μ 72) 20 : Int32)).toNatClampNeg) (a_X11_vanityOf (μ 72) ((if ((μ 72) 24) = 0 then ((μ 72) 21 : Int32) else ((μ 72) 20 : Int32)).toNatClampNeg) (((μ 70) (5 * c)).toNatClampNeg)) (((μ 72) (((33 + (4 * (1 - ((μ 72) 24).toNatClampNeg))) + ((μ 70) (5 * c)).toNatClampNeg))).toNatClampNeg)))) (((33 + (4 * (1 - ((μ 72) 24).toNatClampNeg))) + ((μ 70) (5 * c)).toNatClampNeg)) (((μ 72) (((33 + (4 * (1 - ((μ 72) 24).toNatClampNeg))) + ((μ 70) (5 * c)).toNatClampNeg))) + 1)) 25 (((μ 72) 25) ||| (1 <<< (((nI c)) &&& 31)))) ((31 + ((μ 72) 24).toNatClampNeg)) (((μ 72) ((31 + ((μ 72) 24).toNatClampNeg))) + ((μ 70) (((5 * c) + 2))))) 26 0) ((29 + ((μ 72) 24).toNatClampNeg)) (((μ 72) ((29 + ((μ 72) 24).toNatClampNeg))) + (if (if (a_X11_truthBy (μ 70) c ((μ 72) ((if ((μ 72) 24) = 0 then ((μ 72) 21 : Int32) else ((μ 72) 20 : Int32)).toNatClampNeg))) = 0 then (1 : Int32) else (0 : Int32)) = 0 then (0 : Int32) else (1 : Int32))))) (2 - ((μ 72) 24)) := (by unfold w_X11_says_72_72; rw [if_pos c163]); show _ = (zhs μ 72 (w_X11_says_72_72 (μ 69) (μ 70) (μ 72) c)); symm; rw [e72]))
def w_X11_says_73_73 (f69 : Nat → Int32) (f70 : Nat → Int32) (f72 : Nat → Int32) (f73 : Nat → Int32) (c : Nat) : Nat → Int32 := (if ((f73 ((29 + (f73 24).toNatClampNeg))) + (if (if (a_X11_truthBy f70 c (f72 ((if (f73 24) = 0 then (f73 21 : Int32) else (f73 20 : Int32)).toNatClampNeg))) = 0 then (1 : Int32) else (0 : Int32)) = 0 then (0 : Int32) else (1 : Int32))) = 3 then w_X11_over_73_73 ((upd (upd (upd (upd (upd (upd f73 ((28 - (f73 24).toNatClampNeg)) ((f73 ((28 - (f73 24).toNatClampNeg))) + (a_X11_effectBy f70 f72 c ((if (f73 24) = 0 then (f73 21 : Int32) else (f73 20 : Int32)).toNatClampNeg) (a_X11_vanityOf f72 ((if (f73 24) = 0 then (f73 21 : Int32) else (f73 20 : Int32)).toNatClampNeg) ((f70 (5 * c)).toNatClampNeg)) ((f73 (((33 + (4 * (1 - (f73 24).toNatClampNeg))) + (f70 (5 * c)).toNatClampNeg))).toNatClampNeg)))) (((33 + (4 * (1 - (f73 24).toNatClampNeg))) + (f70 (5 * c)).toNatClampNeg)) ((f73 (((33 + (4 * (1 - (f73 24).toNatClampNeg))) + (f70 (5 * c)).toNatClampNeg))) + 1)) 25 ((f73 25) ||| (1 <<< (((nI c)) &&& 31)))) ((31 + (f73 24).toNatClampNeg)) ((f73 ((31 + (f73 24).toNatClampNeg))) + (f70 (((5 * c) + 2))))) 26 0) ((29 + (f73 24).toNatClampNeg)) ((f73 ((29 + (f73 24).toNatClampNeg))) + (if (if (a_X11_truthBy f70 c (f72 ((if (f73 24) = 0 then (f73 21 : Int32) else (f73 20 : Int32)).toNatClampNeg))) = 0 then (1 : Int32) else (0 : Int32)) = 0 then (0 : Int32) else (1 : Int32))))) (2 - (f73 24)) else (if ((f73 ((28 - (f73 24).toNatClampNeg))) + (a_X11_effectBy f70 f72 c ((if (f73 24) = 0 then (f73 21 : Int32) else (f73 20 : Int32)).toNatClampNeg) (a_X11_vanityOf f72 ((if (f73 24) = 0 then (f73 21 : Int32) else (f73 20 : Int32)).toNatClampNeg) ((f70 (5 * c)).toNatClampNeg)) ((f73 (((33 + (4 * (1 - (f73 24).toNatClampNeg))) + (f70 (5 * c)).toNatClampNeg))).toNatClampNeg))) < (f69 ((6 * (if (f73 24) = 0 then (f73 21 : Int32) else (f73 20 : Int32)).toNatClampNeg))) then (upd (upd (upd (upd (upd (upd f73 ((28 - (f73 24).toNatClampNeg)) ((f73 ((28 - (f73 24).toNatClampNeg))) + (a_X11_effectBy f70 f72 c ((if (f73 24) = 0 then (f73 21 : Int32) else (f73 20 : Int32)).toNatClampNeg) (a_X11_vanityOf f72 ((if (f73 24) = 0 then (f73 21 : Int32) else (f73 20 : Int32)).toNatClampNeg) ((f70 (5 * c)).toNatClampNeg)) ((f73 (((33 + (4 * (1 - (f73 24).toNatClampNeg))) + (f70 (5 * c)).toNatClampNeg))).toNatClampNeg)))) (((33 + (4 * (1 - (f73 24).toNatClampNeg))) + (f70 (5 * c)).toNatClampNeg)) ((f73 (((33 + (4 * (1 - (f73 24).toNatClampNeg))) + (f70 (5 * c)).toNatClampNeg))) + 1)) 25 ((f73 25) ||| (1 <<< (((nI c)) &&& 31)))) ((31 + (f73 24).toNatClampNeg)) ((f73 ((31 + (f73 24).toNatClampNeg))) + (f70 (((5 * c) + 2))))) 26 0) ((29 + (f73 24).toNatClampNeg)) ((f73 ((29 + (f73 24).toNatClampNeg))) + (if (if (a_X11_truthBy f70 c (f72 ((if (f73 24) = 0 then (f73 21 : Int32) else (f73 20 : Int32)).toNatClampNeg))) = 0 then (1 : Int32) else (0 : Int32)) = 0 then (0 : Int32) else (1 : Int32)))) else w_X11_over_73_73 ((upd (upd (upd (upd (upd (upd f73 ((28 - (f73 24).toNatClampNeg)) ((f73 ((28 - (f73 24).toNatClampNeg))) + (a_X11_effectBy f70 f72 c ((if (f73 24) = 0 then (f73 21 : Int32) else (f73 20 : Int32)).toNatClampNeg) (a_X11_vanityOf f72 ((if (f73 24) = 0 then (f73 21 : Int32) else (f73 20 : Int32)).toNatClampNeg) ((f70 (5 * c)).toNatClampNeg)) ((f73 (((33 + (4 * (1 - (f73 24).toNatClampNeg))) + (f70 (5 * c)).toNatClampNeg))).toNatClampNeg)))) (((33 + (4 * (1 - (f73 24).toNatClampNeg))) + (f70 (5 * c)).toNatClampNeg)) ((f73 (((33 + (4 * (1 - (f73 24).toNatClampNeg))) + (f70 (5 * c)).toNatClampNeg))) + 1)) 25 ((f73 25) ||| (1 <<< (((nI c)) &&& 31)))) ((31 + (f73 24).toNatClampNeg)) ((f73 ((31 + (f73 24).toNatClampNeg))) + (f70 (((5 * c) + 2))))) 26 0) ((29 + (f73 24).toNatClampNeg)) ((f73 ((29 + (f73 24).toNatClampNeg))) + (if (if (a_X11_truthBy f70 c (f72 ((if (f73 24) = 0 then (f73 21 : Int32) else (f73 20 : Int32)).toNatClampNeg))) = 0 then (1 : Int32) else (0 : Int32)) = 0 then (0 : Int32) else (1 : Int32))))) (1 + (f73 24))))
theorem e_X11_says_73 {l : Launch} {X : zX} {d : Nat} {μ : zH} {c : Nat} (hc : c < 8) (hT : ∀ c, c < 8 → nb (μ 70 (5 * c)) 4) (hR : RB (μ 73)) : zRn l X mi_X11_says (d + 6) [.inr 67, .inr 73, .inl (nI c)] (zSH, μ) none (zSH, (zhs μ 73 (w_X11_says_73_73 (μ 69) (μ 70) (μ 72) (μ 73) c))) := by
  have hs1 := hR.1.2.1.1
  have ht1 : ((μ 70) (5 * c)).toNatClampNeg < 4 := (hT _ (by omega)).1
  have he1 : (if ((μ 73) 24) = 0 then ((μ 73) 21 : Int32) else ((μ 73) 20 : Int32)).toNatClampNeg < 4 := (ph_nb hR.1.1.2.1 hR.1.1.1).1
  have hO := hR.1
  refine pv_aload_n (i := 1) t_X11_says_0 rfl rfl ?_
  refine pv_bipush (v := 24) t_X11_says_1 zb_24 ?_
  refine sv_iald ((μ 73) 24) t_X11_says_3 (Or.inl hh_73) (zin (by decide)) rfl ?_
  refine pv_istore_n (i := 3) t_X11_says_4 rfl (Nat.le_of_ble_eq_true rfl) ?_
  refine pv_iload_n (i := 3) t_X11_says_5 rfl rfl ?_
  refine sv_phi (c := ((μ 73) 24) = 0) (A := (μ 73) 21) (B := (μ 73) 20) (J := 20) (lv := [(0, .inr 67), (1, .inr 73), (2, .inl ((nI c))), (3, .inl ((μ 73) 24))]) (st := []) (S := (zSH, μ)) (fun kT kF => ?_) ?_
  · skip
    refine pv_if_ne t_X11_says_6 (fun c6 => ?_) (fun c6 => ?_)
    · skip
      refine pv_aload_n (i := 1) t_X11_says_16 rfl rfl ?_
      refine pv_bipush (v := 20) t_X11_says_17 zb_20 ?_
      refine sv_iald ((μ 73) 20) t_X11_says_19 (Or.inl hh_73) (zin (by decide)) rfl ?_
      exact kF c6
    · skip
      refine pv_aload_n (i := 1) t_X11_says_9 rfl rfl ?_
      refine pv_bipush (v := 21) t_X11_says_10 zb_21 ?_
      refine sv_iald ((μ 73) 21) t_X11_says_12 (Or.inl hh_73) (zin (by decide)) rfl ?_
      refine pv_goto t_X11_says_13 ?_
      exact kT c6
  refine pv_istore t_X11_says_20 (Nat.le_of_ble_eq_true rfl) ?_
  refine pv_aload_n (i := 0) t_X11_says_22 rfl rfl ?_
  refine pv_getR t_X11_says_23 fl_X11_20 hh_67 rfl ?_
  refine pv_iconst (v := 5) t_X11_says_26 zi_5 ?_
  refine pv_iload_n (i := 2) t_X11_says_27 rfl rfl ?_
  refine pv_imul t_X11_says_28 ?_
  refine sv_iald ((μ 70) ((5 * c))) t_X11_says_29 (Or.inl hh_70) (ixi (k := (5 * c)) (nIm rfl rfl) (by omega) (by decide)) ((ixe (k := (5 * c)) (nIm rfl rfl) (by omega)).trans (by first | rfl | (simp only [zhs_s, pk_us]; done) | (simp [zhs, upd]; done))) ?_
  refine pv_istore t_X11_says_30 (Nat.le_of_ble_eq_true rfl) ?_
  refine pv_bipush (v := 33) t_X11_says_32 zb_33 ?_
  refine pv_iconst (v := 4) t_X11_says_34 zi_4 ?_
  refine pv_iconst (v := 1) t_X11_says_35 zi_1 ?_
  refine pv_iload_n (i := 3) t_X11_says_36 rfl rfl ?_
  refine pv_isub t_X11_says_37 ?_
  refine pv_imul t_X11_says_38 ?_
  refine pv_iadd t_X11_says_39 ?_
  refine pv_iload t_X11_says_40 rfl ?_
  refine pv_iadd t_X11_says_42 ?_
  refine pv_istore t_X11_says_43 (Nat.le_of_ble_eq_true rfl) ?_
  refine pv_aload_n (i := 1) t_X11_says_45 rfl rfl ?_
  refine pv_bipush (v := 28) t_X11_says_46 zb_28 ?_
  refine pv_iload_n (i := 3) t_X11_says_48 rfl rfl ?_
  refine pv_isub t_X11_says_49 ?_
  refine pv_dup2 t_X11_says_50 ?_
  refine sv_iald ((μ 73) ((28 - ((μ 73) 24).toNatClampNeg))) t_X11_says_51 (Or.inl hh_73) (ixi (k := (28 - ((μ 73) 24).toNatClampNeg)) (nIsb rfl (nb_k hR.1.2.1) (by omega)) (by omega) (by decide)) ((ixe (k := (28 - ((μ 73) 24).toNatClampNeg)) (nIsb rfl (nb_k hR.1.2.1) (by omega)) (by omega)).trans (by first | rfl | (simp only [zhs_s, pk_us]; done) | (simp [zhs, upd]; done))) ?_
  refine pv_aload_n (i := 0) t_X11_says_52 rfl rfl ?_
  refine pv_iload_n (i := 2) t_X11_says_53 rfl rfl ?_
  refine pv_iload t_X11_says_54 rfl ?_
  refine pv_aload_n (i := 0) t_X11_says_56 rfl rfl ?_
  refine pv_iload t_X11_says_57 rfl ?_
  refine pv_iload t_X11_says_59 rfl ?_
  refine sv_V2 (a_X11_vanityOf (μ 72) ((if ((μ 73) 24) = 0 then ((μ 73) 21 : Int32) else ((μ 73) 20 : Int32)).toNatClampNeg) (((μ 70) (5 * c)).toNatClampNeg)) μ t_X11_says_61 ml_X11_179 mo_X11_vanityOf hh_67 rfl (Nat.le_of_ble_eq_true rfl) (zas (lcS (lcI (k := (if ((μ 73) 24) = 0 then ((μ 73) 21 : Int32) else ((μ 73) 20 : Int32)).toNatClampNeg) (nb_k (ph_nb hR.1.1.2.1 hR.1.1.1)) (lcI (k := ((μ 70) (5 * c)).toNatClampNeg) (nb_k (hT _ (by omega))) rfl))) (e_X11_vanityOf (e := (if ((μ 73) 24) = 0 then ((μ 73) 21 : Int32) else ((μ 73) 20 : Int32)).toNatClampNeg) (t := ((μ 70) (5 * c)).toNatClampNeg) (by omega) (by omega))) (Nat.le_of_ble_eq_true rfl) rfl rfl ?_
  refine pv_aload_n (i := 1) t_X11_says_64 rfl rfl ?_
  refine pv_iload t_X11_says_65 rfl ?_
  refine sv_iald ((μ 73) (((33 + (4 * (1 - ((μ 73) 24).toNatClampNeg))) + ((μ 70) (5 * c)).toNatClampNeg))) t_X11_says_67 (Or.inl hh_73) (ixi (k := ((33 + (4 * (1 - ((μ 73) 24).toNatClampNeg))) + ((μ 70) (5 * c)).toNatClampNeg)) (nIa (nIa rfl (nIm rfl (nIsb rfl (nb_k hR.1.2.1) (by omega)))) (nb_k (hT _ (by omega)))) (by omega) (by decide)) ((ixe (k := ((33 + (4 * (1 - ((μ 73) 24).toNatClampNeg))) + ((μ 70) (5 * c)).toNatClampNeg)) (nIa (nIa rfl (nIm rfl (nIsb rfl (nb_k hR.1.2.1) (by omega)))) (nb_k (hT _ (by omega)))) (by omega)).trans (by first | rfl | (simp only [zhs_s, pk_us]; done) | (simp [zhs, upd]; done))) ?_
  have htt : ((μ 73) (((33 + (4 * (1 - ((μ 73) 24).toNatClampNeg))) + ((μ 70) (5 * c)).toNatClampNeg))).toNatClampNeg < 100 := (hR.2 _ (by omega) (by omega)).1
  refine sv_V4 (a_X11_effectBy (μ 70) (μ 72) c ((if ((μ 73) 24) = 0 then ((μ 73) 21 : Int32) else ((μ 73) 20 : Int32)).toNatClampNeg) (a_X11_vanityOf (μ 72) ((if ((μ 73) 24) = 0 then ((μ 73) 21 : Int32) else ((μ 73) 20 : Int32)).toNatClampNeg) (((μ 70) (5 * c)).toNatClampNeg)) (((μ 73) (((33 + (4 * (1 - ((μ 73) 24).toNatClampNeg))) + ((μ 70) (5 * c)).toNatClampNeg))).toNatClampNeg)) μ t_X11_says_68 ml_X11_182 mo_X11_effectBy hh_67 rfl (Nat.le_of_ble_eq_true rfl) (zas (lcS (lcI (k := c) rfl (lcI (k := (if ((μ 73) 24) = 0 then ((μ 73) 21 : Int32) else ((μ 73) 20 : Int32)).toNatClampNeg) (nb_k (ph_nb hR.1.1.2.1 hR.1.1.1)) (lcS (lcI (k := ((μ 73) (((33 + (4 * (1 - ((μ 73) 24).toNatClampNeg))) + ((μ 70) (5 * c)).toNatClampNeg))).toNatClampNeg) (nb_k (hR.2 _ (by omega) (by omega))) rfl))))) (e_X11_effectBy (c := c) (e := (if ((μ 73) 24) = 0 then ((μ 73) 21 : Int32) else ((μ 73) 20 : Int32)).toNatClampNeg) (tt := ((μ 73) (((33 + (4 * (1 - ((μ 73) 24).toNatClampNeg))) + ((μ 70) (5 * c)).toNatClampNeg))).toNatClampNeg) (by omega) (by omega) (by omega))) (Nat.le_of_ble_eq_true rfl) rfl rfl ?_
  refine pv_iadd t_X11_says_71 ?_
  refine sv_iast ((zhs μ 73 ((upd (μ 73) ((28 - ((μ 73) 24).toNatClampNeg)) (((μ 73) ((28 - ((μ 73) 24).toNatClampNeg))) + (a_X11_effectBy (μ 70) (μ 72) c ((if ((μ 73) 24) = 0 then ((μ 73) 21 : Int32) else ((μ 73) 20 : Int32)).toNatClampNeg) (a_X11_vanityOf (μ 72) ((if ((μ 73) 24) = 0 then ((μ 73) 21 : Int32) else ((μ 73) 20 : Int32)).toNatClampNeg) (((μ 70) (5 * c)).toNatClampNeg)) (((μ 73) (((33 + (4 * (1 - ((μ 73) 24).toNatClampNeg))) + ((μ 70) (5 * c)).toNatClampNeg))).toNatClampNeg))))))) t_X11_says_72 hh_73 (ixi (k := (28 - ((μ 73) 24).toNatClampNeg)) (nIsb rfl (nb_k hR.1.2.1) (by omega)) (by omega) (by decide)) (by rw [ixc (x := 28 - ((μ 73) 24)) (k := (28 - ((μ 73) 24).toNatClampNeg)) (nIsb rfl (nb_k hR.1.2.1) (by omega)) (by omega)] <;> (first | rfl | (congr 1; funext k_; simp only [upd]; ((repeat' split) <;> first | rfl | (simp_all; done))))) ?_
  refine pv_aload_n (i := 1) t_X11_says_73 rfl rfl ?_
  refine pv_iload t_X11_says_74 rfl ?_
  refine pv_dup2 t_X11_says_76 ?_
  refine sv_iald ((μ 73) (((33 + (4 * (1 - ((μ 73) 24).toNatClampNeg))) + ((μ 70) (5 * c)).toNatClampNeg))) t_X11_says_77 (Or.inl hh_73) (ixi (k := ((33 + (4 * (1 - ((μ 73) 24).toNatClampNeg))) + ((μ 70) (5 * c)).toNatClampNeg)) (nIa (nIa rfl (nIm rfl (nIsb rfl (nb_k hR.1.2.1) (by omega)))) (nb_k (hT _ (by omega)))) (by omega) (by decide)) ((ixe (k := ((33 + (4 * (1 - ((μ 73) 24).toNatClampNeg))) + ((μ 70) (5 * c)).toNatClampNeg)) (nIa (nIa rfl (nIm rfl (nIsb rfl (nb_k hR.1.2.1) (by omega)))) (nb_k (hT _ (by omega)))) (by omega)).trans (by (try simp (disch := decide) only [zhs_d, zhs_s]); repeat (first | rw [upn (by omega)] | rw [ups] | rfl))) ?_
  refine pv_iconst (v := 1) t_X11_says_78 zi_1 ?_
  refine pv_iadd t_X11_says_79 ?_
  refine sv_iast ((zhs μ 73 ((upd (upd (μ 73) ((28 - ((μ 73) 24).toNatClampNeg)) (((μ 73) ((28 - ((μ 73) 24).toNatClampNeg))) + (a_X11_effectBy (μ 70) (μ 72) c ((if ((μ 73) 24) = 0 then ((μ 73) 21 : Int32) else ((μ 73) 20 : Int32)).toNatClampNeg) (a_X11_vanityOf (μ 72) ((if ((μ 73) 24) = 0 then ((μ 73) 21 : Int32) else ((μ 73) 20 : Int32)).toNatClampNeg) (((μ 70) (5 * c)).toNatClampNeg)) (((μ 73) (((33 + (4 * (1 - ((μ 73) 24).toNatClampNeg))) + ((μ 70) (5 * c)).toNatClampNeg))).toNatClampNeg)))) (((33 + (4 * (1 - ((μ 73) 24).toNatClampNeg))) + ((μ 70) (5 * c)).toNatClampNeg)) (((μ 73) (((33 + (4 * (1 - ((μ 73) 24).toNatClampNeg))) + ((μ 70) (5 * c)).toNatClampNeg))) + 1))))) t_X11_says_80 hh_73 (ixi (k := ((33 + (4 * (1 - ((μ 73) 24).toNatClampNeg))) + ((μ 70) (5 * c)).toNatClampNeg)) (nIa (nIa rfl (nIm rfl (nIsb rfl (nb_k hR.1.2.1) (by omega)))) (nb_k (hT _ (by omega)))) (by omega) (by decide)) (by rw [ixc (x := (33 + (4 * (1 - ((μ 73) 24)))) + ((μ 70) ((5 * c)))) (k := ((33 + (4 * (1 - ((μ 73) 24).toNatClampNeg))) + ((μ 70) (5 * c)).toNatClampNeg)) (nIa (nIa rfl (nIm rfl (nIsb rfl (nb_k hR.1.2.1) (by omega)))) (nb_k (hT _ (by omega)))) (by omega), zhs_hs] <;> (first | rfl | (congr 1; funext k_; simp only [upd]; ((repeat' split) <;> first | rfl | (simp_all; done))))) ?_
  refine pv_aload_n (i := 1) t_X11_says_81 rfl rfl ?_
  refine pv_bipush (v := 25) t_X11_says_82 zb_25 ?_
  refine pv_dup2 t_X11_says_84 ?_
  refine sv_iald ((μ 73) 25) t_X11_says_85 (Or.inl hh_73) (zin (by decide)) ((congrArg _ (show (25 : Int32).toNatClampNeg = 25 from rfl)).trans (by (try simp (disch := decide) only [zhs_d, zhs_s]); repeat (first | rw [upn (by omega)] | rw [ups] | rfl))) ?_
  refine pv_iconst (v := 1) t_X11_says_86 zi_1 ?_
  refine pv_iload_n (i := 2) t_X11_says_87 rfl rfl ?_
  refine pv_ishl t_X11_says_88 ?_
  refine pv_ior t_X11_says_89 ?_
  refine sv_iast ((zhs μ 73 ((upd (upd (upd (μ 73) ((28 - ((μ 73) 24).toNatClampNeg)) (((μ 73) ((28 - ((μ 73) 24).toNatClampNeg))) + (a_X11_effectBy (μ 70) (μ 72) c ((if ((μ 73) 24) = 0 then ((μ 73) 21 : Int32) else ((μ 73) 20 : Int32)).toNatClampNeg) (a_X11_vanityOf (μ 72) ((if ((μ 73) 24) = 0 then ((μ 73) 21 : Int32) else ((μ 73) 20 : Int32)).toNatClampNeg) (((μ 70) (5 * c)).toNatClampNeg)) (((μ 73) (((33 + (4 * (1 - ((μ 73) 24).toNatClampNeg))) + ((μ 70) (5 * c)).toNatClampNeg))).toNatClampNeg)))) (((33 + (4 * (1 - ((μ 73) 24).toNatClampNeg))) + ((μ 70) (5 * c)).toNatClampNeg)) (((μ 73) (((33 + (4 * (1 - ((μ 73) 24).toNatClampNeg))) + ((μ 70) (5 * c)).toNatClampNeg))) + 1)) 25 (((μ 73) 25) ||| (1 <<< (((nI c)) &&& 31))))))) t_X11_says_90 hh_73 (zin (by decide)) (by rw [zhs_hs] <;> (first | rfl | (congr 1; funext k_; simp only [upd]; ((repeat' split) <;> first | rfl | (simp_all; done))))) ?_
  refine pv_aload_n (i := 1) t_X11_says_91 rfl rfl ?_
  refine pv_bipush (v := 31) t_X11_says_92 zb_31 ?_
  refine pv_iload_n (i := 3) t_X11_says_94 rfl rfl ?_
  refine pv_iadd t_X11_says_95 ?_
  refine pv_dup2 t_X11_says_96 ?_
  refine sv_iald ((μ 73) ((31 + ((μ 73) 24).toNatClampNeg))) t_X11_says_97 (Or.inl hh_73) (ixi (k := (31 + ((μ 73) 24).toNatClampNeg)) (nIa rfl (nb_k hR.1.2.1)) (by omega) (by decide)) ((ixe (k := (31 + ((μ 73) 24).toNatClampNeg)) (nIa rfl (nb_k hR.1.2.1)) (by omega)).trans (by (try simp (disch := decide) only [zhs_d, zhs_s]); repeat (first | rw [upn (by omega)] | rw [ups] | rfl))) ?_
  refine pv_aload_n (i := 0) t_X11_says_98 rfl rfl ?_
  refine pv_getR t_X11_says_99 fl_X11_20 hh_67 rfl ?_
  refine pv_iconst (v := 5) t_X11_says_102 zi_5 ?_
  refine pv_iload_n (i := 2) t_X11_says_103 rfl rfl ?_
  refine pv_imul t_X11_says_104 ?_
  refine pv_iconst (v := 2) t_X11_says_105 zi_2 ?_
  refine pv_iadd t_X11_says_106 ?_
  refine sv_iald ((μ 70) (((5 * c) + 2))) t_X11_says_107 (Or.inl hh_70) (ixi (k := ((5 * c) + 2)) (nIa (nIm rfl rfl) rfl) (by omega) (by decide)) ((ixe (k := ((5 * c) + 2)) (nIa (nIm rfl rfl) rfl) (by omega)).trans (by first | rfl | (simp only [zhs_s, pk_us]; done) | (simp [zhs, upd]; done))) ?_
  refine pv_iadd t_X11_says_108 ?_
  refine sv_iast ((zhs μ 73 ((upd (upd (upd (upd (μ 73) ((28 - ((μ 73) 24).toNatClampNeg)) (((μ 73) ((28 - ((μ 73) 24).toNatClampNeg))) + (a_X11_effectBy (μ 70) (μ 72) c ((if ((μ 73) 24) = 0 then ((μ 73) 21 : Int32) else ((μ 73) 20 : Int32)).toNatClampNeg) (a_X11_vanityOf (μ 72) ((if ((μ 73) 24) = 0 then ((μ 73) 21 : Int32) else ((μ 73) 20 : Int32)).toNatClampNeg) (((μ 70) (5 * c)).toNatClampNeg)) (((μ 73) (((33 + (4 * (1 - ((μ 73) 24).toNatClampNeg))) + ((μ 70) (5 * c)).toNatClampNeg))).toNatClampNeg)))) (((33 + (4 * (1 - ((μ 73) 24).toNatClampNeg))) + ((μ 70) (5 * c)).toNatClampNeg)) (((μ 73) (((33 + (4 * (1 - ((μ 73) 24).toNatClampNeg))) + ((μ 70) (5 * c)).toNatClampNeg))) + 1)) 25 (((μ 73) 25) ||| (1 <<< (((nI c)) &&& 31)))) ((31 + ((μ 73) 24).toNatClampNeg)) (((μ 73) ((31 + ((μ 73) 24).toNatClampNeg))) + ((μ 70) (((5 * c) + 2)))))))) t_X11_says_109 hh_73 (ixi (k := (31 + ((μ 73) 24).toNatClampNeg)) (nIa rfl (nb_k hR.1.2.1)) (by omega) (by decide)) (by rw [ixc (x := 31 + ((μ 73) 24)) (k := (31 + ((μ 73) 24).toNatClampNeg)) (nIa rfl (nb_k hR.1.2.1)) (by omega), zhs_hs] <;> (first | rfl | (congr 1; funext k_; simp only [upd]; ((repeat' split) <;> first | rfl | (simp_all; done))))) ?_
  refine pv_aload_n (i := 1) t_X11_says_110 rfl rfl ?_
  refine pv_bipush (v := 26) t_X11_says_111 zb_26 ?_
  refine pv_iconst (v := 0) t_X11_says_113 zi_0 ?_
  refine sv_iast ((zhs μ 73 ((upd (upd (upd (upd (upd (μ 73) ((28 - ((μ 73) 24).toNatClampNeg)) (((μ 73) ((28 - ((μ 73) 24).toNatClampNeg))) + (a_X11_effectBy (μ 70) (μ 72) c ((if ((μ 73) 24) = 0 then ((μ 73) 21 : Int32) else ((μ 73) 20 : Int32)).toNatClampNeg) (a_X11_vanityOf (μ 72) ((if ((μ 73) 24) = 0 then ((μ 73) 21 : Int32) else ((μ 73) 20 : Int32)).toNatClampNeg) (((μ 70) (5 * c)).toNatClampNeg)) (((μ 73) (((33 + (4 * (1 - ((μ 73) 24).toNatClampNeg))) + ((μ 70) (5 * c)).toNatClampNeg))).toNatClampNeg)))) (((33 + (4 * (1 - ((μ 73) 24).toNatClampNeg))) + ((μ 70) (5 * c)).toNatClampNeg)) (((μ 73) (((33 + (4 * (1 - ((μ 73) 24).toNatClampNeg))) + ((μ 70) (5 * c)).toNatClampNeg))) + 1)) 25 (((μ 73) 25) ||| (1 <<< (((nI c)) &&& 31)))) ((31 + ((μ 73) 24).toNatClampNeg)) (((μ 73) ((31 + ((μ 73) 24).toNatClampNeg))) + ((μ 70) (((5 * c) + 2))))) 26 0)))) t_X11_says_114 hh_73 (zin (by decide)) (by rw [zhs_hs] <;> (first | rfl | (congr 1; funext k_; simp only [upd]; ((repeat' split) <;> first | rfl | (simp_all; done))))) ?_
  refine pv_aload_n (i := 0) t_X11_says_115 rfl rfl ?_
  refine pv_iload_n (i := 2) t_X11_says_116 rfl rfl ?_
  refine pv_aload_n (i := 0) t_X11_says_117 rfl rfl ?_
  refine pv_getR t_X11_says_118 fl_X11_26 hh_67 rfl ?_
  refine pv_iload t_X11_says_121 rfl ?_
  refine sv_iald ((μ 72) ((if ((μ 73) 24) = 0 then ((μ 73) 21 : Int32) else ((μ 73) 20 : Int32)).toNatClampNeg)) t_X11_says_123 (Or.inl hh_72) (ixi (k := (if ((μ 73) 24) = 0 then ((μ 73) 21 : Int32) else ((μ 73) 20 : Int32)).toNatClampNeg) (nb_k (ph_nb hR.1.1.2.1 hR.1.1.1)) (by omega) (by decide)) ((ixe (k := (if ((μ 73) 24) = 0 then ((μ 73) 21 : Int32) else ((μ 73) 20 : Int32)).toNatClampNeg) (nb_k (ph_nb hR.1.1.2.1 hR.1.1.1)) (by omega)).trans (by first | rfl | (simp only [zhs_s, pk_us]; done) | (simp [zhs, upd]; done))) ?_
  refine sv_V2 (a_X11_truthBy (μ 70) c ((μ 72) ((if ((μ 73) 24) = 0 then ((μ 73) 21 : Int32) else ((μ 73) 20 : Int32)).toNatClampNeg))) ((zhs μ 73 ((upd (upd (upd (upd (upd (μ 73) ((28 - ((μ 73) 24).toNatClampNeg)) (((μ 73) ((28 - ((μ 73) 24).toNatClampNeg))) + (a_X11_effectBy (μ 70) (μ 72) c ((if ((μ 73) 24) = 0 then ((μ 73) 21 : Int32) else ((μ 73) 20 : Int32)).toNatClampNeg) (a_X11_vanityOf (μ 72) ((if ((μ 73) 24) = 0 then ((μ 73) 21 : Int32) else ((μ 73) 20 : Int32)).toNatClampNeg) (((μ 70) (5 * c)).toNatClampNeg)) (((μ 73) (((33 + (4 * (1 - ((μ 73) 24).toNatClampNeg))) + ((μ 70) (5 * c)).toNatClampNeg))).toNatClampNeg)))) (((33 + (4 * (1 - ((μ 73) 24).toNatClampNeg))) + ((μ 70) (5 * c)).toNatClampNeg)) (((μ 73) (((33 + (4 * (1 - ((μ 73) 24).toNatClampNeg))) + ((μ 70) (5 * c)).toNatClampNeg))) + 1)) 25 (((μ 73) 25) ||| (1 <<< (((nI c)) &&& 31)))) ((31 + ((μ 73) 24).toNatClampNeg)) (((μ 73) ((31 + ((μ 73) 24).toNatClampNeg))) + ((μ 70) (((5 * c) + 2))))) 26 0)))) t_X11_says_124 ml_X11_175 mo_X11_truthBy hh_67 rfl (Nat.le_of_ble_eq_true rfl) (e_X11_truthBy (c := c) (by omega)) (Nat.le_of_ble_eq_true rfl) rfl rfl ?_
  refine sv_phi (c := (a_X11_truthBy (μ 70) c ((μ 72) ((if ((μ 73) 24) = 0 then ((μ 73) 21 : Int32) else ((μ 73) 20 : Int32)).toNatClampNeg))) = 0) (A := 1) (B := 0) (J := 135) (lv := [(0, .inr 67), (1, .inr 73), (2, .inl ((nI c))), (3, .inl ((μ 73) 24)), (4, .inl (if ((μ 73) 24) = 0 then ((μ 73) 21 : Int32) else ((μ 73) 20 : Int32))), (5, .inl ((μ 70) ((5 * c)))), (6, .inl ((33 + (4 * (1 - ((μ 73) 24)))) + ((μ 70) ((5 * c)))))]) (st := []) (S := (zSH, (zhs μ 73 ((upd (upd (upd (upd (upd (μ 73) ((28 - ((μ 73) 24).toNatClampNeg)) (((μ 73) ((28 - ((μ 73) 24).toNatClampNeg))) + (a_X11_effectBy (μ 70) (μ 72) c ((if ((μ 73) 24) = 0 then ((μ 73) 21 : Int32) else ((μ 73) 20 : Int32)).toNatClampNeg) (a_X11_vanityOf (μ 72) ((if ((μ 73) 24) = 0 then ((μ 73) 21 : Int32) else ((μ 73) 20 : Int32)).toNatClampNeg) (((μ 70) (5 * c)).toNatClampNeg)) (((μ 73) (((33 + (4 * (1 - ((μ 73) 24).toNatClampNeg))) + ((μ 70) (5 * c)).toNatClampNeg))).toNatClampNeg)))) (((33 + (4 * (1 - ((μ 73) 24).toNatClampNeg))) + ((μ 70) (5 * c)).toNatClampNeg)) (((μ 73) (((33 + (4 * (1 - ((μ 73) 24).toNatClampNeg))) + ((μ 70) (5 * c)).toNatClampNeg))) + 1)) 25 (((μ 73) 25) ||| (1 <<< (((nI c)) &&& 31)))) ((31 + ((μ 73) 24).toNatClampNeg)) (((μ 73) ((31 + ((μ 73) 24).toNatClampNeg))) + ((μ 70) (((5 * c) + 2))))) 26 0))))) (fun kT kF => ?_) ?_
  · skip
    refine pv_if_ne t_X11_says_127 (fun c127 => ?_) (fun c127 => ?_)
    · skip
      refine pv_iconst (v := 0) t_X11_says_134 zi_0 ?_
      exact kF c127
    · skip
      refine pv_iconst (v := 1) t_X11_says_130 zi_1 ?_
      refine pv_goto t_X11_says_131 ?_
      exact kT c127
  refine pv_istore t_X11_says_135 (Nat.le_of_ble_eq_true rfl) ?_
  refine pv_aload_n (i := 1) t_X11_says_137 rfl rfl ?_
  refine pv_bipush (v := 29) t_X11_says_138 zb_29 ?_
  refine pv_iload_n (i := 3) t_X11_says_140 rfl rfl ?_
  refine pv_iadd t_X11_says_141 ?_
  refine pv_dup2 t_X11_says_142 ?_
  refine sv_iald ((μ 73) ((29 + ((μ 73) 24).toNatClampNeg))) t_X11_says_143 (Or.inl hh_73) (ixi (k := (29 + ((μ 73) 24).toNatClampNeg)) (nIa rfl (nb_k hR.1.2.1)) (by omega) (by decide)) ((ixe (k := (29 + ((μ 73) 24).toNatClampNeg)) (nIa rfl (nb_k hR.1.2.1)) (by omega)).trans (by (try simp (disch := decide) only [zhs_d, zhs_s]); repeat (first | rw [upn (by omega)] | rw [ups] | rfl))) ?_
  refine pv_iload t_X11_says_144 rfl ?_
  refine sv_phi (c := (if (a_X11_truthBy (μ 70) c ((μ 72) ((if ((μ 73) 24) = 0 then ((μ 73) 21 : Int32) else ((μ 73) 20 : Int32)).toNatClampNeg))) = 0 then (1 : Int32) else (0 : Int32)) = 0) (A := 0) (B := 1) (J := 154) (lv := [(0, .inr 67), (1, .inr 73), (2, .inl ((nI c))), (3, .inl ((μ 73) 24)), (4, .inl (if ((μ 73) 24) = 0 then ((μ 73) 21 : Int32) else ((μ 73) 20 : Int32))), (5, .inl ((μ 70) ((5 * c)))), (6, .inl ((33 + (4 * (1 - ((μ 73) 24)))) + ((μ 70) ((5 * c))))), (7, .inl (if (a_X11_truthBy (μ 70) c ((μ 72) ((if ((μ 73) 24) = 0 then ((μ 73) 21 : Int32) else ((μ 73) 20 : Int32)).toNatClampNeg))) = 0 then (1 : Int32) else (0 : Int32)))]) (st := [.inl ((μ 73) ((29 + ((μ 73) 24).toNatClampNeg))), .inl (29 + ((μ 73) 24)), .inr 73]) (S := (zSH, (zhs μ 73 ((upd (upd (upd (upd (upd (μ 73) ((28 - ((μ 73) 24).toNatClampNeg)) (((μ 73) ((28 - ((μ 73) 24).toNatClampNeg))) + (a_X11_effectBy (μ 70) (μ 72) c ((if ((μ 73) 24) = 0 then ((μ 73) 21 : Int32) else ((μ 73) 20 : Int32)).toNatClampNeg) (a_X11_vanityOf (μ 72) ((if ((μ 73) 24) = 0 then ((μ 73) 21 : Int32) else ((μ 73) 20 : Int32)).toNatClampNeg) (((μ 70) (5 * c)).toNatClampNeg)) (((μ 73) (((33 + (4 * (1 - ((μ 73) 24).toNatClampNeg))) + ((μ 70) (5 * c)).toNatClampNeg))).toNatClampNeg)))) (((33 + (4 * (1 - ((μ 73) 24).toNatClampNeg))) + ((μ 70) (5 * c)).toNatClampNeg)) (((μ 73) (((33 + (4 * (1 - ((μ 73) 24).toNatClampNeg))) + ((μ 70) (5 * c)).toNatClampNeg))) + 1)) 25 (((μ 73) 25) ||| (1 <<< (((nI c)) &&& 31)))) ((31 + ((μ 73) 24).toNatClampNeg)) (((μ 73) ((31 + ((μ 73) 24).toNatClampNeg))) + ((μ 70) (((5 * c) + 2))))) 26 0))))) (fun kT kF => ?_) ?_
  · skip
    refine pv_if_eq t_X11_says_146 (fun c146 => ?_) (fun c146 => ?_)
    · skip
      refine pv_iconst (v := 0) t_X11_says_153 zi_0 ?_
      exact kT c146
    · skip
      refine pv_iconst (v := 1) t_X11_says_149 zi_1 ?_
      refine pv_goto t_X11_says_150 ?_
      exact kF c146
  refine pv_iadd t_X11_says_154 ?_
  refine sv_iast ((zhs μ 73 ((upd (upd (upd (upd (upd (upd (μ 73) ((28 - ((μ 73) 24).toNatClampNeg)) (((μ 73) ((28 - ((μ 73) 24).toNatClampNeg))) + (a_X11_effectBy (μ 70) (μ 72) c ((if ((μ 73) 24) = 0 then ((μ 73) 21 : Int32) else ((μ 73) 20 : Int32)).toNatClampNeg) (a_X11_vanityOf (μ 72) ((if ((μ 73) 24) = 0 then ((μ 73) 21 : Int32) else ((μ 73) 20 : Int32)).toNatClampNeg) (((μ 70) (5 * c)).toNatClampNeg)) (((μ 73) (((33 + (4 * (1 - ((μ 73) 24).toNatClampNeg))) + ((μ 70) (5 * c)).toNatClampNeg))).toNatClampNeg)))) (((33 + (4 * (1 - ((μ 73) 24).toNatClampNeg))) + ((μ 70) (5 * c)).toNatClampNeg)) (((μ 73) (((33 + (4 * (1 - ((μ 73) 24).toNatClampNeg))) + ((μ 70) (5 * c)).toNatClampNeg))) + 1)) 25 (((μ 73) 25) ||| (1 <<< (((nI c)) &&& 31)))) ((31 + ((μ 73) 24).toNatClampNeg)) (((μ 73) ((31 + ((μ 73) 24).toNatClampNeg))) + ((μ 70) (((5 * c) + 2))))) 26 0) ((29 + ((μ 73) 24).toNatClampNeg)) (((μ 73) ((29 + ((μ 73) 24).toNatClampNeg))) + (if (if (a_X11_truthBy (μ 70) c ((μ 72) ((if ((μ 73) 24) = 0 then ((μ 73) 21 : Int32) else ((μ 73) 20 : Int32)).toNatClampNeg))) = 0 then (1 : Int32) else (0 : Int32)) = 0 then (0 : Int32) else (1 : Int32))))))) t_X11_says_155 hh_73 (ixi (k := (29 + ((μ 73) 24).toNatClampNeg)) (nIa rfl (nb_k hR.1.2.1)) (by omega) (by decide)) (by rw [ixc (x := 29 + ((μ 73) 24)) (k := (29 + ((μ 73) 24).toNatClampNeg)) (nIa rfl (nb_k hR.1.2.1)) (by omega), zhs_hs] <;> (first | rfl | (congr 1; funext k_; simp only [upd]; ((repeat' split) <;> first | rfl | (simp_all; done))))) ?_
  refine pv_aload_n (i := 1) t_X11_says_156 rfl rfl ?_
  refine pv_bipush (v := 29) t_X11_says_157 zb_29 ?_
  refine pv_iload_n (i := 3) t_X11_says_159 rfl rfl ?_
  refine pv_iadd t_X11_says_160 ?_
  refine sv_iald (((μ 73) ((29 + ((μ 73) 24).toNatClampNeg))) + (if (if (a_X11_truthBy (μ 70) c ((μ 72) ((if ((μ 73) 24) = 0 then ((μ 73) 21 : Int32) else ((μ 73) 20 : Int32)).toNatClampNeg))) = 0 then (1 : Int32) else (0 : Int32)) = 0 then (0 : Int32) else (1 : Int32))) t_X11_says_161 (Or.inl hh_73) (ixi (k := (29 + ((μ 73) 24).toNatClampNeg)) (nIa rfl (nb_k hR.1.2.1)) (by omega) (by decide)) ((ixe (k := (29 + ((μ 73) 24).toNatClampNeg)) (nIa rfl (nb_k hR.1.2.1)) (by omega)).trans (by first | rfl | (simp only [zhs_s, pk_us]; done) | (simp [zhs, upd]; done))) ?_
  refine pv_iconst (v := 3) t_X11_says_162 zi_3 ?_
  refine pv_icmp_ne t_X11_says_163 (fun c163 => ?_) (fun c163 => ?_)
  · skip
    refine pv_aload_n (i := 1) t_X11_says_176 rfl rfl ?_
    refine pv_bipush (v := 28) t_X11_says_177 zb_28 ?_
    refine pv_iload_n (i := 3) t_X11_says_179 rfl rfl ?_
    refine pv_isub t_X11_says_180 ?_
    refine sv_iald (((μ 73) ((28 - ((μ 73) 24).toNatClampNeg))) + (a_X11_effectBy (μ 70) (μ 72) c ((if ((μ 73) 24) = 0 then ((μ 73) 21 : Int32) else ((μ 73) 20 : Int32)).toNatClampNeg) (a_X11_vanityOf (μ 72) ((if ((μ 73) 24) = 0 then ((μ 73) 21 : Int32) else ((μ 73) 20 : Int32)).toNatClampNeg) (((μ 70) (5 * c)).toNatClampNeg)) (((μ 73) (((33 + (4 * (1 - ((μ 73) 24).toNatClampNeg))) + ((μ 70) (5 * c)).toNatClampNeg))).toNatClampNeg))) t_X11_says_181 (Or.inl hh_73) (ixi (k := (28 - ((μ 73) 24).toNatClampNeg)) (nIsb rfl (nb_k hR.1.2.1) (by omega)) (by omega) (by decide)) ((ixe (k := (28 - ((μ 73) 24).toNatClampNeg)) (nIsb rfl (nb_k hR.1.2.1) (by omega)) (by omega)).trans (by (try simp (disch := decide) only [zhs_d, zhs_s]); repeat (first | rw [upn (by omega)] | rw [ups] | rfl))) ?_
    refine pv_aload_n (i := 0) t_X11_says_182 rfl rfl ?_
    refine pv_getR t_X11_says_183 fl_X11_17 hh_67 rfl ?_
    refine pv_bipush (v := 6) t_X11_says_186 zb_6 ?_
    refine pv_iload t_X11_says_188 rfl ?_
    refine pv_imul t_X11_says_190 ?_
    refine sv_iald ((μ 69) ((6 * (if ((μ 73) 24) = 0 then ((μ 73) 21 : Int32) else ((μ 73) 20 : Int32)).toNatClampNeg))) t_X11_says_191 (Or.inl hh_69) (ixi (k := (6 * (if ((μ 73) 24) = 0 then ((μ 73) 21 : Int32) else ((μ 73) 20 : Int32)).toNatClampNeg)) (nIm rfl (nb_k (ph_nb hR.1.1.2.1 hR.1.1.1))) (by omega) (by decide)) ((ixe (k := (6 * (if ((μ 73) 24) = 0 then ((μ 73) 21 : Int32) else ((μ 73) 20 : Int32)).toNatClampNeg)) (nIm rfl (nb_k (ph_nb hR.1.1.2.1 hR.1.1.1))) (by omega)).trans (by first | rfl | (simp only [zhs_s, pk_us]; done) | (simp [zhs, upd]; done))) ?_
    refine pv_icmp_lt t_X11_says_192 (fun c192 => ?_) (fun c192 => ?_)
    · skip
      exact pv_vret t_X11_says_202 rfl (Prod.ext rfl (by have e73 : w_X11_says_73_73 (μ 69) (μ 70) (μ 72) (μ 73) c = (upd (upd (upd (upd (upd (upd (μ 73) ((28 - ((μ 73) 24).toNatClampNeg)) (((μ 73) ((28 - ((μ 73) 24).toNatClampNeg))) + (a_X11_effectBy (μ 70) (μ 72) c ((if ((μ 73) 24) = 0 then ((μ 73) 21 : Int32) else ((μ 73) 20 : Int32)).toNatClampNeg) (a_X11_vanityOf (μ 72) ((if ((μ 73) 24) = 0 then ((μ 73) 21 : Int32) else ((μ 73) 20 : Int32)).toNatClampNeg) (((μ 70) (5 * c)).toNatClampNeg)) (((μ 73) (((33 + (4 * (1 - ((μ 73) 24).toNatClampNeg))) + ((μ 70) (5 * c)).toNatClampNeg))).toNatClampNeg)))) (((33 + (4 * (1 - ((μ 73) 24).toNatClampNeg))) + ((μ 70) (5 * c)).toNatClampNeg)) (((μ 73) (((33 + (4 * (1 - ((μ 73) 24).toNatClampNeg))) + ((μ 70) (5 * c)).toNatClampNeg))) + 1)) 25 (((μ 73) 25) ||| (1 <<< (((nI c)) &&& 31)))) ((31 + ((μ 73) 24).toNatClampNeg)) (((μ 73) ((31 + ((μ 73) 24).toNatClampNeg))) + ((μ 70) (((5 * c) + 2))))) 26 0) ((29 + ((μ 73) 24).toNatClampNeg)) (((μ 73) ((29 + ((μ 73) 24).toNatClampNeg))) + (if (if (a_X11_truthBy (μ 70) c ((μ 72) ((if ((μ 73) 24) = 0 then ((μ 73) 21 : Int32) else ((μ 73) 20 : Int32)).toNatClampNeg))) = 0 then (1 : Int32) else (0 : Int32)) = 0 then (0 : Int32) else (1 : Int32)))) := (by unfold w_X11_says_73_73; rw [if_neg c163, if_pos c192]); show _ = (zhs μ 73 (w_X11_says_73_73 (μ 69) (μ 70) (μ 72) (μ 73) c)); symm; rw [e73]))
    · skip
      refine pv_aload_n (i := 1) t_X11_says_195 rfl rfl ?_
      refine pv_iconst (v := 1) t_X11_says_196 zi_1 ?_
      refine pv_iload_n (i := 3) t_X11_says_197 rfl rfl ?_
      refine pv_iadd t_X11_says_198 ?_
      refine sv_WS2 ((zhs μ 73 (w_X11_over_73_73 ((upd (upd (upd (upd (upd (upd (μ 73) ((28 - ((μ 73) 24).toNatClampNeg)) (((μ 73) ((28 - ((μ 73) 24).toNatClampNeg))) + (a_X11_effectBy (μ 70) (μ 72) c ((if ((μ 73) 24) = 0 then ((μ 73) 21 : Int32) else ((μ 73) 20 : Int32)).toNatClampNeg) (a_X11_vanityOf (μ 72) ((if ((μ 73) 24) = 0 then ((μ 73) 21 : Int32) else ((μ 73) 20 : Int32)).toNatClampNeg) (((μ 70) (5 * c)).toNatClampNeg)) (((μ 73) (((33 + (4 * (1 - ((μ 73) 24).toNatClampNeg))) + ((μ 70) (5 * c)).toNatClampNeg))).toNatClampNeg)))) (((33 + (4 * (1 - ((μ 73) 24).toNatClampNeg))) + ((μ 70) (5 * c)).toNatClampNeg)) (((μ 73) (((33 + (4 * (1 - ((μ 73) 24).toNatClampNeg))) + ((μ 70) (5 * c)).toNatClampNeg))) + 1)) 25 (((μ 73) 25) ||| (1 <<< (((nI c)) &&& 31)))) ((31 + ((μ 73) 24).toNatClampNeg)) (((μ 73) ((31 + ((μ 73) 24).toNatClampNeg))) + ((μ 70) (((5 * c) + 2))))) 26 0) ((29 + ((μ 73) 24).toNatClampNeg)) (((μ 73) ((29 + ((μ 73) 24).toNatClampNeg))) + (if (if (a_X11_truthBy (μ 70) c ((μ 72) ((if ((μ 73) 24) = 0 then ((μ 73) 21 : Int32) else ((μ 73) 20 : Int32)).toNatClampNeg))) = 0 then (1 : Int32) else (0 : Int32)) = 0 then (0 : Int32) else (1 : Int32))))) (1 + ((μ 73) 24))))) t_X11_says_199 ml_X11_192 mo_X11_over (Nat.le_of_ble_eq_true rfl) (e_X11_over_73 (by repeat (first | exact hO | refine OB.u ?_ (by unfold okW; omega)))) (Nat.le_of_ble_eq_true rfl) (by (try simp (disch := decide) only [zhs_d, zhs_s]); rw [zhs_hs] <;> (first | rfl | (congr 1; funext k_; simp only [upd]; ((repeat' split) <;> first | rfl | (simp_all; done))))) ?_
      exact pv_vret t_X11_says_202 rfl (Prod.ext rfl (by have e73 : w_X11_says_73_73 (μ 69) (μ 70) (μ 72) (μ 73) c = w_X11_over_73_73 ((upd (upd (upd (upd (upd (upd (μ 73) ((28 - ((μ 73) 24).toNatClampNeg)) (((μ 73) ((28 - ((μ 73) 24).toNatClampNeg))) + (a_X11_effectBy (μ 70) (μ 72) c ((if ((μ 73) 24) = 0 then ((μ 73) 21 : Int32) else ((μ 73) 20 : Int32)).toNatClampNeg) (a_X11_vanityOf (μ 72) ((if ((μ 73) 24) = 0 then ((μ 73) 21 : Int32) else ((μ 73) 20 : Int32)).toNatClampNeg) (((μ 70) (5 * c)).toNatClampNeg)) (((μ 73) (((33 + (4 * (1 - ((μ 73) 24).toNatClampNeg))) + ((μ 70) (5 * c)).toNatClampNeg))).toNatClampNeg)))) (((33 + (4 * (1 - ((μ 73) 24).toNatClampNeg))) + ((μ 70) (5 * c)).toNatClampNeg)) (((μ 73) (((33 + (4 * (1 - ((μ 73) 24).toNatClampNeg))) + ((μ 70) (5 * c)).toNatClampNeg))) + 1)) 25 (((μ 73) 25) ||| (1 <<< (((nI c)) &&& 31)))) ((31 + ((μ 73) 24).toNatClampNeg)) (((μ 73) ((31 + ((μ 73) 24).toNatClampNeg))) + ((μ 70) (((5 * c) + 2))))) 26 0) ((29 + ((μ 73) 24).toNatClampNeg)) (((μ 73) ((29 + ((μ 73) 24).toNatClampNeg))) + (if (if (a_X11_truthBy (μ 70) c ((μ 72) ((if ((μ 73) 24) = 0 then ((μ 73) 21 : Int32) else ((μ 73) 20 : Int32)).toNatClampNeg))) = 0 then (1 : Int32) else (0 : Int32)) = 0 then (0 : Int32) else (1 : Int32))))) (1 + ((μ 73) 24)) := (by unfold w_X11_says_73_73; rw [if_neg c163, if_neg c192]); show _ = (zhs μ 73 (w_X11_says_73_73 (μ 69) (μ 70) (μ 72) (μ 73) c)); symm; rw [e73]))
  · skip
    refine pv_aload_n (i := 1) t_X11_says_166 rfl rfl ?_
    refine pv_iconst (v := 2) t_X11_says_167 zi_2 ?_
    refine pv_iload_n (i := 3) t_X11_says_168 rfl rfl ?_
    refine pv_isub t_X11_says_169 ?_
    refine sv_WS2 ((zhs μ 73 (w_X11_over_73_73 ((upd (upd (upd (upd (upd (upd (μ 73) ((28 - ((μ 73) 24).toNatClampNeg)) (((μ 73) ((28 - ((μ 73) 24).toNatClampNeg))) + (a_X11_effectBy (μ 70) (μ 72) c ((if ((μ 73) 24) = 0 then ((μ 73) 21 : Int32) else ((μ 73) 20 : Int32)).toNatClampNeg) (a_X11_vanityOf (μ 72) ((if ((μ 73) 24) = 0 then ((μ 73) 21 : Int32) else ((μ 73) 20 : Int32)).toNatClampNeg) (((μ 70) (5 * c)).toNatClampNeg)) (((μ 73) (((33 + (4 * (1 - ((μ 73) 24).toNatClampNeg))) + ((μ 70) (5 * c)).toNatClampNeg))).toNatClampNeg)))) (((33 + (4 * (1 - ((μ 73) 24).toNatClampNeg))) + ((μ 70) (5 * c)).toNatClampNeg)) (((μ 73) (((33 + (4 * (1 - ((μ 73) 24).toNatClampNeg))) + ((μ 70) (5 * c)).toNatClampNeg))) + 1)) 25 (((μ 73) 25) ||| (1 <<< (((nI c)) &&& 31)))) ((31 + ((μ 73) 24).toNatClampNeg)) (((μ 73) ((31 + ((μ 73) 24).toNatClampNeg))) + ((μ 70) (((5 * c) + 2))))) 26 0) ((29 + ((μ 73) 24).toNatClampNeg)) (((μ 73) ((29 + ((μ 73) 24).toNatClampNeg))) + (if (if (a_X11_truthBy (μ 70) c ((μ 72) ((if ((μ 73) 24) = 0 then ((μ 73) 21 : Int32) else ((μ 73) 20 : Int32)).toNatClampNeg))) = 0 then (1 : Int32) else (0 : Int32)) = 0 then (0 : Int32) else (1 : Int32))))) (2 - ((μ 73) 24))))) t_X11_says_170 ml_X11_192 mo_X11_over (Nat.le_of_ble_eq_true rfl) (e_X11_over_73 (by repeat (first | exact hO | refine OB.u ?_ (by unfold okW; omega)))) (Nat.le_of_ble_eq_true rfl) (by (try simp (disch := decide) only [zhs_d, zhs_s]); rw [zhs_hs] <;> (first | rfl | (congr 1; funext k_; simp only [upd]; ((repeat' split) <;> first | rfl | (simp_all; done))))) ?_
    refine pv_goto t_X11_says_173 ?_
    exact pv_vret t_X11_says_202 rfl (Prod.ext rfl (by have e73 : w_X11_says_73_73 (μ 69) (μ 70) (μ 72) (μ 73) c = w_X11_over_73_73 ((upd (upd (upd (upd (upd (upd (μ 73) ((28 - ((μ 73) 24).toNatClampNeg)) (((μ 73) ((28 - ((μ 73) 24).toNatClampNeg))) + (a_X11_effectBy (μ 70) (μ 72) c ((if ((μ 73) 24) = 0 then ((μ 73) 21 : Int32) else ((μ 73) 20 : Int32)).toNatClampNeg) (a_X11_vanityOf (μ 72) ((if ((μ 73) 24) = 0 then ((μ 73) 21 : Int32) else ((μ 73) 20 : Int32)).toNatClampNeg) (((μ 70) (5 * c)).toNatClampNeg)) (((μ 73) (((33 + (4 * (1 - ((μ 73) 24).toNatClampNeg))) + ((μ 70) (5 * c)).toNatClampNeg))).toNatClampNeg)))) (((33 + (4 * (1 - ((μ 73) 24).toNatClampNeg))) + ((μ 70) (5 * c)).toNatClampNeg)) (((μ 73) (((33 + (4 * (1 - ((μ 73) 24).toNatClampNeg))) + ((μ 70) (5 * c)).toNatClampNeg))) + 1)) 25 (((μ 73) 25) ||| (1 <<< (((nI c)) &&& 31)))) ((31 + ((μ 73) 24).toNatClampNeg)) (((μ 73) ((31 + ((μ 73) 24).toNatClampNeg))) + ((μ 70) (((5 * c) + 2))))) 26 0) ((29 + ((μ 73) 24).toNatClampNeg)) (((μ 73) ((29 + ((μ 73) 24).toNatClampNeg))) + (if (if (a_X11_truthBy (μ 70) c ((μ 72) ((if ((μ 73) 24) = 0 then ((μ 73) 21 : Int32) else ((μ 73) 20 : Int32)).toNatClampNeg))) = 0 then (1 : Int32) else (0 : Int32)) = 0 then (0 : Int32) else (1 : Int32))))) (2 - ((μ 73) 24)) := (by unfold w_X11_says_73_73; rw [if_pos c163]); show _ = (zhs μ 73 (w_X11_says_73_73 (μ 69) (μ 70) (μ 72) (μ 73) c)); symm; rw [e73]))
def w_X11_turns_72_72 (f69 : Nat → Int32) (f70 : Nat → Int32) (f72 : Nat → Int32) (t : Int32) : Nat → Int32 := (if t = 9 then (upd (upd (upd (upd (upd f72 ((27 + (f72 24).toNatClampNeg)) (if (f69 (((6 * (if (f72 24) = 0 then (f72 20 : Int32) else (f72 21 : Int32)).toNatClampNeg) + 1))) ≤ (f72 ((27 + (f72 24).toNatClampNeg))) then ((f72 ((27 + (f72 24).toNatClampNeg))) - (f69 (((6 * (if (f72 24) = 0 then (f72 20 : Int32) else (f72 21 : Int32)).toNatClampNeg) + 1))) : Int32) else (0 : Int32))) ((29 + (f72 24).toNatClampNeg)) ((f72 ((29 + (f72 24).toNatClampNeg))) - 1)) 26 0) 24 (1 - (f72 24))) 23 ((f72 23) + 1)) else (if t = 8 then (if ((f72 26) + 1) = 2 then (upd (upd (w_X11_over_72_72 ((upd (upd f72 ((27 + (f72 24).toNatClampNeg)) (if (f69 (((6 * (if (f72 24) = 0 then (f72 20 : Int32) else (f72 21 : Int32)).toNatClampNeg) + 1))) ≤ (f72 ((27 + (f72 24).toNatClampNeg))) then ((f72 ((27 + (f72 24).toNatClampNeg))) - (f69 (((6 * (if (f72 24) = 0 then (f72 20 : Int32) else (f72 21 : Int32)).toNatClampNeg) + 1))) : Int32) else (0 : Int32))) 26 ((f72 26) + 1))) 3) 24 (1 - (f72 24))) 23 (((w_X11_over_72_72 ((upd (upd f72 ((27 + (f72 24).toNatClampNeg)) (if (f69 (((6 * (if (f72 24) = 0 then (f72 20 : Int32) else (f72 21 : Int32)).toNatClampNeg) + 1))) ≤ (f72 ((27 + (f72 24).toNatClampNeg))) then ((f72 ((27 + (f72 24).toNatClampNeg))) - (f69 (((6 * (if (f72 24) = 0 then (f72 20 : Int32) else (f72 21 : Int32)).toNatClampNeg) + 1))) : Int32) else (0 : Int32))) 26 ((f72 26) + 1))) 3) 23) + 1)) else (upd (upd (upd (upd f72 ((27 + (f72 24).toNatClampNeg)) (if (f69 (((6 * (if (f72 24) = 0 then (f72 20 : Int32) else (f72 21 : Int32)).toNatClampNeg) + 1))) ≤ (f72 ((27 + (f72 24).toNatClampNeg))) then ((f72 ((27 + (f72 24).toNatClampNeg))) - (f69 (((6 * (if (f72 24) = 0 then (f72 20 : Int32) else (f72 21 : Int32)).toNatClampNeg) + 1))) : Int32) else (0 : Int32))) 26 ((f72 26) + 1)) 24 (1 - (f72 24))) 23 ((f72 23) + 1))) else (upd (upd (w_X11_says_72_72 f69 f70 ((upd f72 ((27 + (f72 24).toNatClampNeg)) (if (f69 (((6 * (if (f72 24) = 0 then (f72 20 : Int32) else (f72 21 : Int32)).toNatClampNeg) + 1))) ≤ (f72 ((27 + (f72 24).toNatClampNeg))) then ((f72 ((27 + (f72 24).toNatClampNeg))) - (f69 (((6 * (if (f72 24) = 0 then (f72 20 : Int32) else (f72 21 : Int32)).toNatClampNeg) + 1))) : Int32) else (0 : Int32)))) t.toNatClampNeg) 24 (1 - (f72 24))) 23 (((w_X11_says_72_72 f69 f70 ((upd f72 ((27 + (f72 24).toNatClampNeg)) (if (f69 (((6 * (if (f72 24) = 0 then (f72 20 : Int32) else (f72 21 : Int32)).toNatClampNeg) + 1))) ≤ (f72 ((27 + (f72 24).toNatClampNeg))) then ((f72 ((27 + (f72 24).toNatClampNeg))) - (f69 (((6 * (if (f72 24) = 0 then (f72 20 : Int32) else (f72 21 : Int32)).toNatClampNeg) + 1))) : Int32) else (0 : Int32)))) t.toNatClampNeg) 23) + 1))))
theorem e_X11_turns_72 {l : Launch} {X : zX} {d : Nat} {μ : zH} {t : Int32} (hT : ∀ c, c < 8 → nb (μ 70 (5 * c)) 4) (hR : RB (μ 72)) (ht : t = 9 ∨ t = 8 ∨ nb t 8) : zRn l X mi_X11_turns (d + 7) [.inr 67, .inr 72, .inl (t)] (zSH, μ) none (zSH, (zhs μ 72 (w_X11_turns_72_72 (μ 69) (μ 70) (μ 72) t))) := by
  have hs1 := hR.1.2.1.1
  have he1 : (if ((μ 72) 24) = 0 then ((μ 72) 20 : Int32) else ((μ 72) 21 : Int32)).toNatClampNeg < 4 := (ph_nb hR.1.1.1 hR.1.1.2.1).1
  have hO := hR.1
  refine pv_aload_n (i := 1) t_X11_turns_0 rfl rfl ?_
  refine pv_bipush (v := 24) t_X11_turns_1 zb_24 ?_
  refine sv_iald ((μ 72) 24) t_X11_turns_3 (Or.inl hh_72) (zin (by decide)) rfl ?_
  refine pv_istore_n (i := 3) t_X11_turns_4 rfl (Nat.le_of_ble_eq_true rfl) ?_
  refine pv_aload_n (i := 0) t_X11_turns_5 rfl rfl ?_
  refine pv_getR t_X11_turns_6 fl_X11_17 hh_67 rfl ?_
  refine pv_bipush (v := 6) t_X11_turns_9 zb_6 ?_
  refine pv_iload_n (i := 3) t_X11_turns_11 rfl rfl ?_
  refine sv_phi (c := ((μ 72) 24) = 0) (A := (μ 72) 20) (B := (μ 72) 21) (J := 26) (lv := [(0, .inr 67), (1, .inr 72), (2, .inl t), (3, .inl ((μ 72) 24))]) (st := [.inl 6, .inr 69]) (S := (zSH, μ)) (fun kT kF => ?_) ?_
  · skip
    refine pv_if_ne t_X11_turns_12 (fun c12 => ?_) (fun c12 => ?_)
    · skip
      refine pv_aload_n (i := 1) t_X11_turns_22 rfl rfl ?_
      refine pv_bipush (v := 21) t_X11_turns_23 zb_21 ?_
      refine sv_iald ((μ 72) 21) t_X11_turns_25 (Or.inl hh_72) (zin (by decide)) rfl ?_
      exact kF c12
    · skip
      refine pv_aload_n (i := 1) t_X11_turns_15 rfl rfl ?_
      refine pv_bipush (v := 20) t_X11_turns_16 zb_20 ?_
      refine sv_iald ((μ 72) 20) t_X11_turns_18 (Or.inl hh_72) (zin (by decide)) rfl ?_
      refine pv_goto t_X11_turns_19 ?_
      exact kT c12
  refine pv_imul t_X11_turns_26 ?_
  refine pv_iconst (v := 1) t_X11_turns_27 zi_1 ?_
  refine pv_iadd t_X11_turns_28 ?_
  refine sv_iald ((μ 69) (((6 * (if ((μ 72) 24) = 0 then ((μ 72) 20 : Int32) else ((μ 72) 21 : Int32)).toNatClampNeg) + 1))) t_X11_turns_29 (Or.inl hh_69) (ixi (k := ((6 * (if ((μ 72) 24) = 0 then ((μ 72) 20 : Int32) else ((μ 72) 21 : Int32)).toNatClampNeg) + 1)) (nIa (nIm rfl (nb_k (ph_nb hR.1.1.1 hR.1.1.2.1))) rfl) (by omega) (by decide)) ((ixe (k := ((6 * (if ((μ 72) 24) = 0 then ((μ 72) 20 : Int32) else ((μ 72) 21 : Int32)).toNatClampNeg) + 1)) (nIa (nIm rfl (nb_k (ph_nb hR.1.1.1 hR.1.1.2.1))) rfl) (by omega)).trans (by first | rfl | (simp only [zhs_s, pk_us]; done) | (simp [zhs, upd]; done))) ?_
  refine pv_istore t_X11_turns_30 (Nat.le_of_ble_eq_true rfl) ?_
  refine pv_aload_n (i := 1) t_X11_turns_32 rfl rfl ?_
  refine pv_bipush (v := 27) t_X11_turns_33 zb_27 ?_
  refine pv_iload_n (i := 3) t_X11_turns_35 rfl rfl ?_
  refine pv_iadd t_X11_turns_36 ?_
  refine pv_aload_n (i := 1) t_X11_turns_37 rfl rfl ?_
  refine pv_bipush (v := 27) t_X11_turns_38 zb_27 ?_
  refine pv_iload_n (i := 3) t_X11_turns_40 rfl rfl ?_
  refine pv_iadd t_X11_turns_41 ?_
  refine sv_iald ((μ 72) ((27 + ((μ 72) 24).toNatClampNeg))) t_X11_turns_42 (Or.inl hh_72) (ixi (k := (27 + ((μ 72) 24).toNatClampNeg)) (nIa rfl (nb_k hR.1.2.1)) (by omega) (by decide)) ((ixe (k := (27 + ((μ 72) 24).toNatClampNeg)) (nIa rfl (nb_k hR.1.2.1)) (by omega)).trans (by first | rfl | (simp only [zhs_s, pk_us]; done) | (simp [zhs, upd]; done))) ?_
  refine pv_iload t_X11_turns_43 rfl ?_
  refine sv_phi (c := ((μ 69) (((6 * (if ((μ 72) 24) = 0 then ((μ 72) 20 : Int32) else ((μ 72) 21 : Int32)).toNatClampNeg) + 1))) ≤ ((μ 72) ((27 + ((μ 72) 24).toNatClampNeg)))) (A := ((μ 72) ((27 + ((μ 72) 24).toNatClampNeg))) - ((μ 69) (((6 * (if ((μ 72) 24) = 0 then ((μ 72) 20 : Int32) else ((μ 72) 21 : Int32)).toNatClampNeg) + 1)))) (B := 0) (J := 61) (lv := [(0, .inr 67), (1, .inr 72), (2, .inl t), (3, .inl ((μ 72) 24)), (4, .inl ((μ 69) (((6 * (if ((μ 72) 24) = 0 then ((μ 72) 20 : Int32) else ((μ 72) 21 : Int32)).toNatClampNeg) + 1))))]) (st := [.inl (27 + ((μ 72) 24)), .inr 72]) (S := (zSH, μ)) (fun kT kF => ?_) ?_
  · skip
    refine pv_icmp_ge t_X11_turns_45 (fun c45 => ?_) (fun c45 => ?_)
    · skip
      refine pv_aload_n (i := 1) t_X11_turns_52 rfl rfl ?_
      refine pv_bipush (v := 27) t_X11_turns_53 zb_27 ?_
      refine pv_iload_n (i := 3) t_X11_turns_55 rfl rfl ?_
      refine pv_iadd t_X11_turns_56 ?_
      refine sv_iald ((μ 72) ((27 + ((μ 72) 24).toNatClampNeg))) t_X11_turns_57 (Or.inl hh_72) (ixi (k := (27 + ((μ 72) 24).toNatClampNeg)) (nIa rfl (nb_k hR.1.2.1)) (by omega) (by decide)) ((ixe (k := (27 + ((μ 72) 24).toNatClampNeg)) (nIa rfl (nb_k hR.1.2.1)) (by omega)).trans (by first | rfl | (simp only [zhs_s, pk_us]; done) | (simp [zhs, upd]; done))) ?_
      refine pv_iload t_X11_turns_58 rfl ?_
      refine pv_isub t_X11_turns_60 ?_
      exact kT c45
    · skip
      refine pv_iconst (v := 0) t_X11_turns_48 zi_0 ?_
      refine pv_goto t_X11_turns_49 ?_
      exact kF c45
  refine sv_iast ((zhs μ 72 ((upd (μ 72) ((27 + ((μ 72) 24).toNatClampNeg)) (if ((μ 69) (((6 * (if ((μ 72) 24) = 0 then ((μ 72) 20 : Int32) else ((μ 72) 21 : Int32)).toNatClampNeg) + 1))) ≤ ((μ 72) ((27 + ((μ 72) 24).toNatClampNeg))) then (((μ 72) ((27 + ((μ 72) 24).toNatClampNeg))) - ((μ 69) (((6 * (if ((μ 72) 24) = 0 then ((μ 72) 20 : Int32) else ((μ 72) 21 : Int32)).toNatClampNeg) + 1))) : Int32) else (0 : Int32)))))) t_X11_turns_61 hh_72 (ixi (k := (27 + ((μ 72) 24).toNatClampNeg)) (nIa rfl (nb_k hR.1.2.1)) (by omega) (by decide)) (by rw [ixc (x := 27 + ((μ 72) 24)) (k := (27 + ((μ 72) 24).toNatClampNeg)) (nIa rfl (nb_k hR.1.2.1)) (by omega)] <;> (first | rfl | (congr 1; funext k_; simp only [upd]; ((repeat' split) <;> first | rfl | (simp_all; done))))) ?_
  refine pv_iload_n (i := 2) t_X11_turns_62 rfl rfl ?_
  refine pv_bipush (v := 9) t_X11_turns_63 zb_9 ?_
  refine pv_icmp_ne t_X11_turns_65 (fun c65 => ?_) (fun c65 => ?_)
  · skip
    refine pv_iload_n (i := 2) t_X11_turns_86 rfl rfl ?_
    refine pv_bipush (v := 8) t_X11_turns_87 zb_8 ?_
    refine pv_icmp_ne t_X11_turns_89 (fun c89 => ?_) (fun c89 => ?_)
    · skip
      obtain ⟨ht1, ht2⟩ := (ht.resolve_left c65).resolve_left c89
      refine pv_aload_n (i := 0) t_X11_turns_116 rfl rfl ?_
      refine pv_aload_n (i := 1) t_X11_turns_117 rfl rfl ?_
      refine pv_iload_n (i := 2) t_X11_turns_118 rfl rfl ?_
      refine sv_WV2 ((zhs μ 72 (w_X11_says_72_72 (μ 69) (μ 70) ((upd (μ 72) ((27 + ((μ 72) 24).toNatClampNeg)) (if ((μ 69) (((6 * (if ((μ 72) 24) = 0 then ((μ 72) 20 : Int32) else ((μ 72) 21 : Int32)).toNatClampNeg) + 1))) ≤ ((μ 72) ((27 + ((μ 72) 24).toNatClampNeg))) then (((μ 72) ((27 + ((μ 72) 24).toNatClampNeg))) - ((μ 69) (((6 * (if ((μ 72) 24) = 0 then ((μ 72) 20 : Int32) else ((μ 72) 21 : Int32)).toNatClampNeg) + 1))) : Int32) else (0 : Int32)))) t.toNatClampNeg))) t_X11_turns_119 ml_X11_196 mo_X11_says hh_67 rfl (Nat.le_of_ble_eq_true rfl) (zas (lcS (lcS (lcI (k := t.toNatClampNeg) ht2 rfl))) (e_X11_says_72 (c := t.toNatClampNeg) (by omega) hT (by repeat (first | exact hR | refine RB.u ?_ (by unfold okW; omega) (by omega))))) (Nat.le_of_ble_eq_true rfl) (by (try simp (disch := decide) only [zhs_d, zhs_s]); rw [zhs_hs] <;> (first | rfl | (congr 1; funext k_; simp only [upd]; ((repeat' split) <;> first | rfl | (simp_all; done))))) ?_
      refine pv_aload_n (i := 1) t_X11_turns_122 rfl rfl ?_
      refine pv_bipush (v := 24) t_X11_turns_123 zb_24 ?_
      refine pv_iconst (v := 1) t_X11_turns_125 zi_1 ?_
      refine pv_iload_n (i := 3) t_X11_turns_126 rfl rfl ?_
      refine pv_isub t_X11_turns_127 ?_
      refine sv_iast ((zhs μ 72 ((upd (w_X11_says_72_72 (μ 69) (μ 70) ((upd (μ 72) ((27 + ((μ 72) 24).toNatClampNeg)) (if ((μ 69) (((6 * (if ((μ 72) 24) = 0 then ((μ 72) 20 : Int32) else ((μ 72) 21 : Int32)).toNatClampNeg) + 1))) ≤ ((μ 72) ((27 + ((μ 72) 24).toNatClampNeg))) then (((μ 72) ((27 + ((μ 72) 24).toNatClampNeg))) - ((μ 69) (((6 * (if ((μ 72) 24) = 0 then ((μ 72) 20 : Int32) else ((μ 72) 21 : Int32)).toNatClampNeg) + 1))) : Int32) else (0 : Int32)))) t.toNatClampNeg) 24 (1 - ((μ 72) 24)))))) t_X11_turns_128 hh_72 (zin (by decide)) (by rw [zhs_hs] <;> (first | rfl | (congr 1; funext k_; simp only [upd]; ((repeat' split) <;> first | rfl | (simp_all; done))))) ?_
      refine pv_aload_n (i := 1) t_X11_turns_129 rfl rfl ?_
      refine pv_bipush (v := 23) t_X11_turns_130 zb_23 ?_
      refine pv_dup2 t_X11_turns_132 ?_
      refine sv_iald ((w_X11_says_72_72 (μ 69) (μ 70) ((upd (μ 72) ((27 + ((μ 72) 24).toNatClampNeg)) (if ((μ 69) (((6 * (if ((μ 72) 24) = 0 then ((μ 72) 20 : Int32) else ((μ 72) 21 : Int32)).toNatClampNeg) + 1))) ≤ ((μ 72) ((27 + ((μ 72) 24).toNatClampNeg))) then (((μ 72) ((27 + ((μ 72) 24).toNatClampNeg))) - ((μ 69) (((6 * (if ((μ 72) 24) = 0 then ((μ 72) 20 : Int32) else ((μ 72) 21 : Int32)).toNatClampNeg) + 1))) : Int32) else (0 : Int32)))) t.toNatClampNeg) 23) t_X11_turns_133 (Or.inl hh_72) (zin (by decide)) ((congrArg _ (show (23 : Int32).toNatClampNeg = 23 from rfl)).trans (by (try simp (disch := decide) only [zhs_d, zhs_s]); repeat (first | rw [upn (by omega)] | rw [ups] | rfl))) ?_
      refine pv_iconst (v := 1) t_X11_turns_134 zi_1 ?_
      refine pv_iadd t_X11_turns_135 ?_
      refine sv_iast ((zhs μ 72 ((upd (upd (w_X11_says_72_72 (μ 69) (μ 70) ((upd (μ 72) ((27 + ((μ 72) 24).toNatClampNeg)) (if ((μ 69) (((6 * (if ((μ 72) 24) = 0 then ((μ 72) 20 : Int32) else ((μ 72) 21 : Int32)).toNatClampNeg) + 1))) ≤ ((μ 72) ((27 + ((μ 72) 24).toNatClampNeg))) then (((μ 72) ((27 + ((μ 72) 24).toNatClampNeg))) - ((μ 69) (((6 * (if ((μ 72) 24) = 0 then ((μ 72) 20 : Int32) else ((μ 72) 21 : Int32)).toNatClampNeg) + 1))) : Int32) else (0 : Int32)))) t.toNatClampNeg) 24 (1 - ((μ 72) 24))) 23 (((w_X11_says_72_72 (μ 69) (μ 70) ((upd (μ 72) ((27 + ((μ 72) 24).toNatClampNeg)) (if ((μ 69) (((6 * (if ((μ 72) 24) = 0 then ((μ 72) 20 : Int32) else ((μ 72) 21 : Int32)).toNatClampNeg) + 1))) ≤ ((μ 72) ((27 + ((μ 72) 24).toNatClampNeg))) then (((μ 72) ((27 + ((μ 72) 24).toNatClampNeg))) - ((μ 69) (((6 * (if ((μ 72) 24) = 0 then ((μ 72) 20 : Int32) else ((μ 72) 21 : Int32)).toNatClampNeg) + 1))) : Int32) else (0 : Int32)))) t.toNatClampNeg) 23) + 1))))) t_X11_turns_136 hh_72 (zin (by decide)) (by rw [zhs_hs] <;> (first | rfl | (congr 1; funext k_; simp only [upd]; ((repeat' split) <;> first | rfl | (simp_all; done))))) ?_
      exact pv_vret t_X11_turns_137 rfl (Prod.ext rfl (by have e72 : w_X11_turns_72_72 (μ 69) (μ 70) (μ 72) t = (upd (upd (w_X11_says_72_72 (μ 69) (μ 70) ((upd (μ 72) ((27 + ((μ 72) 24).toNatClampNeg)) (if ((μ 69) (((6 * (if ((μ 72) 24) = 0 then ((μ 72) 20 : Int32) else ((μ 72) 21 : Int32)).toNatClampNeg) + 1))) ≤ ((μ 72) ((27 + ((μ 72) 24).toNatClampNeg))) then (((μ 72) ((27 + ((μ 72) 24).toNatClampNeg))) - ((μ 69) (((6 * (if ((μ 72) 24) = 0 then ((μ 72) 20 : Int32) else ((μ 72) 21 : Int32)).toNatClampNeg) + 1))) : Int32) else (0 : Int32)))) t.toNatClampNeg) 24 (1 - ((μ 72) 24))) 23 (((w_X11_says_72_72 (μ 69) (μ 70) ((upd (μ 72) ((27 + ((μ 72) 24).toNatClampNeg)) (if ((μ 69) (((6 * (if ((μ 72) 24) = 0 then ((μ 72) 20 : Int32) else ((μ 72) 21 : Int32)).toNatClampNeg) + 1))) ≤ ((μ 72) ((27 + ((μ 72) 24).toNatClampNeg))) then (((μ 72) ((27 + ((μ 72) 24).toNatClampNeg))) - ((μ 69) (((6 * (if ((μ 72) 24) = 0 then ((μ 72) 20 : Int32) else ((μ 72) 21 : Int32)).toNatClampNeg) + 1))) : Int32) else (0 : Int32)))) t.toNatClampNeg) 23) + 1)) := (by unfold w_X11_turns_72_72; rw [if_neg c65, if_neg c89]); show _ = (zhs μ 72 (w_X11_turns_72_72 (μ 69) (μ 70) (μ 72) t)); symm; rw [e72]))
    · skip
      refine pv_aload_n (i := 1) t_X11_turns_92 rfl rfl ?_
      refine pv_bipush (v := 26) t_X11_turns_93 zb_26 ?_
      refine pv_dup2 t_X11_turns_95 ?_
      refine sv_iald ((μ 72) 26) t_X11_turns_96 (Or.inl hh_72) (zin (by decide)) ((congrArg _ (show (26 : Int32).toNatClampNeg = 26 from rfl)).trans (by (try simp (disch := decide) only [zhs_d, zhs_s]); repeat (first | rw [upn (by omega)] | rw [ups] | rfl))) ?_
      refine pv_iconst (v := 1) t_X11_turns_97 zi_1 ?_
      refine pv_iadd t_X11_turns_98 ?_
      refine sv_iast ((zhs μ 72 ((upd (upd (μ 72) ((27 + ((μ 72) 24).toNatClampNeg)) (if ((μ 69) (((6 * (if ((μ 72) 24) = 0 then ((μ 72) 20 : Int32) else ((μ 72) 21 : Int32)).toNatClampNeg) + 1))) ≤ ((μ 72) ((27 + ((μ 72) 24).toNatClampNeg))) then (((μ 72) ((27 + ((μ 72) 24).toNatClampNeg))) - ((μ 69) (((6 * (if ((μ 72) 24) = 0 then ((μ 72) 20 : Int32) else ((μ 72) 21 : Int32)).toNatClampNeg) + 1))) : Int32) else (0 : Int32))) 26 (((μ 72) 26) + 1))))) t_X11_turns_99 hh_72 (zin (by decide)) (by rw [zhs_hs] <;> (first | rfl | (congr 1; funext k_; simp only [upd]; ((repeat' split) <;> first | rfl | (simp_all; done))))) ?_
      refine pv_aload_n (i := 1) t_X11_turns_100 rfl rfl ?_
      refine pv_bipush (v := 26) t_X11_turns_101 zb_26 ?_
      refine sv_iald (((μ 72) 26) + 1) t_X11_turns_103 (Or.inl hh_72) (zin (by decide)) rfl ?_
      refine pv_iconst (v := 2) t_X11_turns_104 zi_2 ?_
      refine pv_icmp_ne t_X11_turns_105 (fun c105 => ?_) (fun c105 => ?_)
      · skip
        refine pv_aload_n (i := 1) t_X11_turns_122 rfl rfl ?_
        refine pv_bipush (v := 24) t_X11_turns_123 zb_24 ?_
        refine pv_iconst (v := 1) t_X11_turns_125 zi_1 ?_
        refine pv_iload_n (i := 3) t_X11_turns_126 rfl rfl ?_
        refine pv_isub t_X11_turns_127 ?_
        refine sv_iast ((zhs μ 72 ((upd (upd (upd (μ 72) ((27 + ((μ 72) 24).toNatClampNeg)) (if ((μ 69) (((6 * (if ((μ 72) 24) = 0 then ((μ 72) 20 : Int32) else ((μ 72) 21 : Int32)).toNatClampNeg) + 1))) ≤ ((μ 72) ((27 + ((μ 72) 24).toNatClampNeg))) then (((μ 72) ((27 + ((μ 72) 24).toNatClampNeg))) - ((μ 69) (((6 * (if ((μ 72) 24) = 0 then ((μ 72) 20 : Int32) else ((μ 72) 21 : Int32)).toNatClampNeg) + 1))) : Int32) else (0 : Int32))) 26 (((μ 72) 26) + 1)) 24 (1 - ((μ 72) 24)))))) t_X11_turns_128 hh_72 (zin (by decide)) (by rw [zhs_hs] <;> (first | rfl | (congr 1; funext k_; simp only [upd]; ((repeat' split) <;> first | rfl | (simp_all; done))))) ?_
        refine pv_aload_n (i := 1) t_X11_turns_129 rfl rfl ?_
        refine pv_bipush (v := 23) t_X11_turns_130 zb_23 ?_
        refine pv_dup2 t_X11_turns_132 ?_
        refine sv_iald ((μ 72) 23) t_X11_turns_133 (Or.inl hh_72) (zin (by decide)) ((congrArg _ (show (23 : Int32).toNatClampNeg = 23 from rfl)).trans (by (try simp (disch := decide) only [zhs_d, zhs_s]); repeat (first | rw [upn (by omega)] | rw [ups] | rfl))) ?_
        refine pv_iconst (v := 1) t_X11_turns_134 zi_1 ?_
        refine pv_iadd t_X11_turns_135 ?_
        refine sv_iast ((zhs μ 72 ((upd (upd (upd (upd (μ 72) ((27 + ((μ 72) 24).toNatClampNeg)) (if ((μ 69) (((6 * (if ((μ 72) 24) = 0 then ((μ 72) 20 : Int32) else ((μ 72) 21 : Int32)).toNatClampNeg) + 1))) ≤ ((μ 72) ((27 + ((μ 72) 24).toNatClampNeg))) then (((μ 72) ((27 + ((μ 72) 24).toNatClampNeg))) - ((μ 69) (((6 * (if ((μ 72) 24) = 0 then ((μ 72) 20 : Int32) else ((μ 72) 21 : Int32)).toNatClampNeg) + 1))) : Int32) else (0 : Int32))) 26 (((μ 72) 26) + 1)) 24 (1 - ((μ 72) 24))) 23 (((μ 72) 23) + 1))))) t_X11_turns_136 hh_72 (zin (by decide)) (by rw [zhs_hs] <;> (first | rfl | (congr 1; funext k_; simp only [upd]; ((repeat' split) <;> first | rfl | (simp_all; done))))) ?_
        exact pv_vret t_X11_turns_137 rfl (Prod.ext rfl (by have e72 : w_X11_turns_72_72 (μ 69) (μ 70) (μ 72) t = (upd (upd (upd (upd (μ 72) ((27 + ((μ 72) 24).toNatClampNeg)) (if ((μ 69) (((6 * (if ((μ 72) 24) = 0 then ((μ 72) 20 : Int32) else ((μ 72) 21 : Int32)).toNatClampNeg) + 1))) ≤ ((μ 72) ((27 + ((μ 72) 24).toNatClampNeg))) then (((μ 72) ((27 + ((μ 72) 24).toNatClampNeg))) - ((μ 69) (((6 * (if ((μ 72) 24) = 0 then ((μ 72) 20 : Int32) else ((μ 72) 21 : Int32)).toNatClampNeg) + 1))) : Int32) else (0 : Int32))) 26 (((μ 72) 26) + 1)) 24 (1 - ((μ 72) 24))) 23 (((μ 72) 23) + 1)) := (by unfold w_X11_turns_72_72; rw [if_neg c65, if_pos c89, if_neg c105]); show _ = (zhs μ 72 (w_X11_turns_72_72 (μ 69) (μ 70) (μ 72) t)); symm; rw [e72]))
      · skip
        refine pv_aload_n (i := 1) t_X11_turns_108 rfl rfl ?_
        refine pv_iconst (v := 3) t_X11_turns_109 zi_3 ?_
        refine sv_WS2 ((zhs μ 72 (w_X11_over_72_72 ((upd (upd (μ 72) ((27 + ((μ 72) 24).toNatClampNeg)) (if ((μ 69) (((6 * (if ((μ 72) 24) = 0 then ((μ 72) 20 : Int32) else ((μ 72) 21 : Int32)).toNatClampNeg) + 1))) ≤ ((μ 72) ((27 + ((μ 72) 24).toNatClampNeg))) then (((μ 72) ((27 + ((μ 72) 24).toNatClampNeg))) - ((μ 69) (((6 * (if ((μ 72) 24) = 0 then ((μ 72) 20 : Int32) else ((μ 72) 21 : Int32)).toNatClampNeg) + 1))) : Int32) else (0 : Int32))) 26 (((μ 72) 26) + 1))) 3))) t_X11_turns_110 ml_X11_192 mo_X11_over (Nat.le_of_ble_eq_true rfl) (e_X11_over_72 (by repeat (first | exact hO | refine OB.u ?_ (by unfold okW; omega)))) (Nat.le_of_ble_eq_true rfl) (by (try simp (disch := decide) only [zhs_d, zhs_s]); rw [zhs_hs] <;> (first | rfl | (congr 1; funext k_; simp only [upd]; ((repeat' split) <;> first | rfl | (simp_all; done))))) ?_
        refine pv_goto t_X11_turns_113 ?_
        refine pv_aload_n (i := 1) t_X11_turns_122 rfl rfl ?_
        refine pv_bipush (v := 24) t_X11_turns_123 zb_24 ?_
        refine pv_iconst (v := 1) t_X11_turns_125 zi_1 ?_
        refine pv_iload_n (i := 3) t_X11_turns_126 rfl rfl ?_
        refine pv_isub t_X11_turns_127 ?_
        refine sv_iast ((zhs μ 72 ((upd (w_X11_over_72_72 ((upd (upd (μ 72) ((27 + ((μ 72) 24).toNatClampNeg)) (if ((μ 69) (((6 * (if ((μ 72) 24) = 0 then ((μ 72) 20 : Int32) else ((μ 72) 21 : Int32)).toNatClampNeg) + 1))) ≤ ((μ 72) ((27 + ((μ 72) 24).toNatClampNeg))) then (((μ 72) ((27 + ((μ 72) 24).toNatClampNeg))) - ((μ 69) (((6 * (if ((μ 72) 24) = 0 then ((μ 72) 20 : Int32) else ((μ 72) 21 : Int32)).toNatClampNeg) + 1))) : Int32) else (0 : Int32))) 26 (((μ 72) 26) + 1))) 3) 24 (1 - ((μ 72) 24)))))) t_X11_turns_128 hh_72 (zin (by decide)) (by rw [zhs_hs] <;> (first | rfl | (congr 1; funext k_; simp only [upd]; ((repeat' split) <;> first | rfl | (simp_all; done))))) ?_
        refine pv_aload_n (i := 1) t_X11_turns_129 rfl rfl ?_
        refine pv_bipush (v := 23) t_X11_turns_130 zb_23 ?_
        refine pv_dup2 t_X11_turns_132 ?_
        refine sv_iald ((w_X11_over_72_72 ((upd (upd (μ 72) ((27 + ((μ 72) 24).toNatClampNeg)) (if ((μ 69) (((6 * (if ((μ 72) 24) = 0 then ((μ 72) 20 : Int32) else ((μ 72) 21 : Int32)).toNatClampNeg) + 1))) ≤ ((μ 72) ((27 + ((μ 72) 24).toNatClampNeg))) then (((μ 72) ((27 + ((μ 72) 24).toNatClampNeg))) - ((μ 69) (((6 * (if ((μ 72) 24) = 0 then ((μ 72) 20 : Int32) else ((μ 72) 21 : Int32)).toNatClampNeg) + 1))) : Int32) else (0 : Int32))) 26 (((μ 72) 26) + 1))) 3) 23) t_X11_turns_133 (Or.inl hh_72) (zin (by decide)) ((congrArg _ (show (23 : Int32).toNatClampNeg = 23 from rfl)).trans (by (try simp (disch := decide) only [zhs_d, zhs_s]); repeat (first | rw [upn (by omega)] | rw [ups] | rfl))) ?_
        refine pv_iconst (v := 1) t_X11_turns_134 zi_1 ?_
        refine pv_iadd t_X11_turns_135 ?_
        refine sv_iast ((zhs μ 72 ((upd (upd (w_X11_over_72_72 ((upd (upd (μ 72) ((27 + ((μ 72) 24).toNatClampNeg)) (if ((μ 69) (((6 * (if ((μ 72) 24) = 0 then ((μ 72) 20 : Int32) else ((μ 72) 21 : Int32)).toNatClampNeg) + 1))) ≤ ((μ 72) ((27 + ((μ 72) 24).toNatClampNeg))) then (((μ 72) ((27 + ((μ 72) 24).toNatClampNeg))) - ((μ 69) (((6 * (if ((μ 72) 24) = 0 then ((μ 72) 20 : Int32) else ((μ 72) 21 : Int32)).toNatClampNeg) + 1))) : Int32) else (0 : Int32))) 26 (((μ 72) 26) + 1))) 3) 24 (1 - ((μ 72) 24))) 23 (((w_X11_over_72_72 ((upd (upd (μ 72) ((27 + ((μ 72) 24).toNatClampNeg)) (if ((μ 69) (((6 * (if ((μ 72) 24) = 0 then ((μ 72) 20 : Int32) else ((μ 72) 21 : Int32)).toNatClampNeg) + 1))) ≤ ((μ 72) ((27 + ((μ 72) 24).toNatClampNeg))) then (((μ 72) ((27 + ((μ 72) 24).toNatClampNeg))) - ((μ 69) (((6 * (if ((μ 72) 24) = 0 then ((μ 72) 20 : Int32) else ((μ 72) 21 : Int32)).toNatClampNeg) + 1))) : Int32) else (0 : Int32))) 26 (((μ 72) 26) + 1))) 3) 23) + 1))))) t_X11_turns_136 hh_72 (zin (by decide)) (by rw [zhs_hs] <;> (first | rfl | (congr 1; funext k_; simp only [upd]; ((repeat' split) <;> first | rfl | (simp_all; done))))) ?_
        exact pv_vret t_X11_turns_137 rfl (Prod.ext rfl (by have e72 : w_X11_turns_72_72 (μ 69) (μ 70) (μ 72) t = (upd (upd (w_X11_over_72_72 ((upd (upd (μ 72) ((27 + ((μ 72) 24).toNatClampNeg)) (if ((μ 69) (((6 * (if ((μ 72) 24) = 0 then ((μ 72) 20 : Int32) else ((μ 72) 21 : Int32)).toNatClampNeg) + 1))) ≤ ((μ 72) ((27 + ((μ 72) 24).toNatClampNeg))) then (((μ 72) ((27 + ((μ 72) 24).toNatClampNeg))) - ((μ 69) (((6 * (if ((μ 72) 24) = 0 then ((μ 72) 20 : Int32) else ((μ 72) 21 : Int32)).toNatClampNeg) + 1))) : Int32) else (0 : Int32))) 26 (((μ 72) 26) + 1))) 3) 24 (1 - ((μ 72) 24))) 23 (((w_X11_over_72_72 ((upd (upd (μ 72) ((27 + ((μ 72) 24).toNatClampNeg)) (if ((μ 69) (((6 * (if ((μ 72) 24) = 0 then ((μ 72) 20 : Int32) else ((μ 72) 21 : Int32)).toNatClampNeg) + 1))) ≤ ((μ 72) ((27 + ((μ 72) 24).toNatClampNeg))) then (((μ 72) ((27 + ((μ 72) 24).toNatClampNeg))) - ((μ 69) (((6 * (if ((μ 72) 24) = 0 then ((μ 72) 20 : Int32) else ((μ 72) 21 : Int32)).toNatClampNeg) + 1))) : Int32) else (0 : Int32))) 26 (((μ 72) 26) + 1))) 3) 23) + 1)) := (by unfold w_X11_turns_72_72; rw [if_neg c65, if_pos c89, if_pos c105]); show _ = (zhs μ 72 (w_X11_turns_72_72 (μ 69) (μ 70) (μ 72) t)); symm; rw [e72]))
  · skip
    refine pv_aload_n (i := 1) t_X11_turns_68 rfl rfl ?_
    refine pv_bipush (v := 29) t_X11_turns_69 zb_29 ?_
    refine pv_iload_n (i := 3) t_X11_turns_71 rfl rfl ?_
    refine pv_iadd t_X11_turns_72 ?_
    refine pv_dup2 t_X11_turns_73 ?_
    refine sv_iald ((μ 72) ((29 + ((μ 72) 24).toNatClampNeg))) t_X11_turns_74 (Or.inl hh_72) (ixi (k := (29 + ((μ 72) 24).toNatClampNeg)) (nIa rfl (nb_k hR.1.2.1)) (by omega) (by decide)) ((ixe (k := (29 + ((μ 72) 24).toNatClampNeg)) (nIa rfl (nb_k hR.1.2.1)) (by omega)).trans (by (try simp (disch := decide) only [zhs_d, zhs_s]); repeat (first | rw [upn (by omega)] | rw [ups] | rfl))) ?_
    refine pv_iconst (v := 1) t_X11_turns_75 zi_1 ?_
    refine pv_isub t_X11_turns_76 ?_
    refine sv_iast ((zhs μ 72 ((upd (upd (μ 72) ((27 + ((μ 72) 24).toNatClampNeg)) (if ((μ 69) (((6 * (if ((μ 72) 24) = 0 then ((μ 72) 20 : Int32) else ((μ 72) 21 : Int32)).toNatClampNeg) + 1))) ≤ ((μ 72) ((27 + ((μ 72) 24).toNatClampNeg))) then (((μ 72) ((27 + ((μ 72) 24).toNatClampNeg))) - ((μ 69) (((6 * (if ((μ 72) 24) = 0 then ((μ 72) 20 : Int32) else ((μ 72) 21 : Int32)).toNatClampNeg) + 1))) : Int32) else (0 : Int32))) ((29 + ((μ 72) 24).toNatClampNeg)) (((μ 72) ((29 + ((μ 72) 24).toNatClampNeg))) - 1))))) t_X11_turns_77 hh_72 (ixi (k := (29 + ((μ 72) 24).toNatClampNeg)) (nIa rfl (nb_k hR.1.2.1)) (by omega) (by decide)) (by rw [ixc (x := 29 + ((μ 72) 24)) (k := (29 + ((μ 72) 24).toNatClampNeg)) (nIa rfl (nb_k hR.1.2.1)) (by omega), zhs_hs] <;> (first | rfl | (congr 1; funext k_; simp only [upd]; ((repeat' split) <;> first | rfl | (simp_all; done))))) ?_
    refine pv_aload_n (i := 1) t_X11_turns_78 rfl rfl ?_
    refine pv_bipush (v := 26) t_X11_turns_79 zb_26 ?_
    refine pv_iconst (v := 0) t_X11_turns_81 zi_0 ?_
    refine sv_iast ((zhs μ 72 ((upd (upd (upd (μ 72) ((27 + ((μ 72) 24).toNatClampNeg)) (if ((μ 69) (((6 * (if ((μ 72) 24) = 0 then ((μ 72) 20 : Int32) else ((μ 72) 21 : Int32)).toNatClampNeg) + 1))) ≤ ((μ 72) ((27 + ((μ 72) 24).toNatClampNeg))) then (((μ 72) ((27 + ((μ 72) 24).toNatClampNeg))) - ((μ 69) (((6 * (if ((μ 72) 24) = 0 then ((μ 72) 20 : Int32) else ((μ 72) 21 : Int32)).toNatClampNeg) + 1))) : Int32) else (0 : Int32))) ((29 + ((μ 72) 24).toNatClampNeg)) (((μ 72) ((29 + ((μ 72) 24).toNatClampNeg))) - 1)) 26 0)))) t_X11_turns_82 hh_72 (zin (by decide)) (by rw [zhs_hs] <;> (first | rfl | (congr 1; funext k_; simp only [upd]; ((repeat' split) <;> first | rfl | (simp_all; done))))) ?_
    refine pv_goto t_X11_turns_83 ?_
    refine pv_aload_n (i := 1) t_X11_turns_122 rfl rfl ?_
    refine pv_bipush (v := 24) t_X11_turns_123 zb_24 ?_
    refine pv_iconst (v := 1) t_X11_turns_125 zi_1 ?_
    refine pv_iload_n (i := 3) t_X11_turns_126 rfl rfl ?_
    refine pv_isub t_X11_turns_127 ?_
    refine sv_iast ((zhs μ 72 ((upd (upd (upd (upd (μ 72) ((27 + ((μ 72) 24).toNatClampNeg)) (if ((μ 69) (((6 * (if ((μ 72) 24) = 0 then ((μ 72) 20 : Int32) else ((μ 72) 21 : Int32)).toNatClampNeg) + 1))) ≤ ((μ 72) ((27 + ((μ 72) 24).toNatClampNeg))) then (((μ 72) ((27 + ((μ 72) 24).toNatClampNeg))) - ((μ 69) (((6 * (if ((μ 72) 24) = 0 then ((μ 72) 20 : Int32) else ((μ 72) 21 : Int32)).toNatClampNeg) + 1))) : Int32) else (0 : Int32))) ((29 + ((μ 72) 24).toNatClampNeg)) (((μ 72) ((29 + ((μ 72) 24).toNatClampNeg))) - 1)) 26 0) 24 (1 - ((μ 72) 24)))))) t_X11_turns_128 hh_72 (zin (by decide)) (by rw [zhs_hs] <;> (first | rfl | (congr 1; funext k_; simp only [upd]; ((repeat' split) <;> first | rfl | (simp_all; done))))) ?_
    refine pv_aload_n (i := 1) t_X11_turns_129 rfl rfl ?_
    refine pv_bipush (v := 23) t_X11_turns_130 zb_23 ?_
    refine pv_dup2 t_X11_turns_132 ?_
    refine sv_iald ((μ 72) 23) t_X11_turns_133 (Or.inl hh_72) (zin (by decide)) ((congrArg _ (show (23 : Int32).toNatClampNeg = 23 from rfl)).trans (by (try simp (disch := decide) only [zhs_d, zhs_s]); repeat (first | rw [upn (by omega)] | rw [ups] | rfl))) ?_
    refine pv_iconst (v := 1) t_X11_turns_134 zi_1 ?_
    refine pv_iadd t_X11_turns_135 ?_
    refine sv_iast ((zhs μ 72 ((upd (upd (upd (upd (upd (μ 72) ((27 + ((μ 72) 24).toNatClampNeg)) (if ((μ 69) (((6 * (if ((μ 72) 24) = 0 then ((μ 72) 20 : Int32) else ((μ 72) 21 : Int32)).toNatClampNeg) + 1))) ≤ ((μ 72) ((27 + ((μ 72) 24).toNatClampNeg))) then (((μ 72) ((27 + ((μ 72) 24).toNatClampNeg))) - ((μ 69) (((6 * (if ((μ 72) 24) = 0 then ((μ 72) 20 : Int32) else ((μ 72) 21 : Int32)).toNatClampNeg) + 1))) : Int32) else (0 : Int32))) ((29 + ((μ 72) 24).toNatClampNeg)) (((μ 72) ((29 + ((μ 72) 24).toNatClampNeg))) - 1)) 26 0) 24 (1 - ((μ 72) 24))) 23 (((μ 72) 23) + 1))))) t_X11_turns_136 hh_72 (zin (by decide)) (by rw [zhs_hs] <;> (first | rfl | (congr 1; funext k_; simp only [upd]; ((repeat' split) <;> first | rfl | (simp_all; done))))) ?_
    exact pv_vret t_X11_turns_137 rfl (Prod.ext rfl (by have e72 : w_X11_turns_72_72 (μ 69) (μ 70) (μ 72) t = (upd (upd (upd (upd (upd (μ 72) ((27 + ((μ 72) 24).toNatClampNeg)) (if ((μ 69) (((6 * (if ((μ 72) 24) = 0 then ((μ 72) 20 : Int32) else ((μ 72) 21 : Int32)).toNatClampNeg) + 1))) ≤ ((μ 72) ((27 + ((μ 72) 24).toNatClampNeg))) then (((μ 72) ((27 + ((μ 72) 24).toNatClampNeg))) - ((μ 69) (((6 * (if ((μ 72) 24) = 0 then ((μ 72) 20 : Int32) else ((μ 72) 21 : Int32)).toNatClampNeg) + 1))) : Int32) else (0 : Int32))) ((29 + ((μ 72) 24).toNatClampNeg)) (((μ 72) ((29 + ((μ 72) 24).toNatClampNeg))) - 1)) 26 0) 24 (1 - ((μ 72) 24))) 23 (((μ 72) 23) + 1)) := (by unfold w_X11_turns_72_72; rw [if_pos c65]); show _ = (zhs μ 72 (w_X11_turns_72_72 (μ 69) (μ 70) (μ 72) t)); symm; rw [e72]))
def w_X11_turns_73_73 (f69 : Nat → Int32) (f70 : Nat → Int32) (f72 : Nat → Int32) (f73 : Nat → Int32) (t : Int32) : Nat → Int32 := (if t = 9 then (upd (upd (upd (upd (upd f73 ((27 + (f73 24).toNatClampNeg)) (if (f69 (((6 * (if (f73 24) = 0 then (f73 20 : Int32) else (f73 21 : Int32)).toNatClampNeg) + 1))) ≤ (f73 ((27 + (f73 24).toNatClampNeg))) then ((f73 ((27 + (f73 24).toNatClampNeg))) - (f69 (((6 * (if (f73 24) = 0 then (f73 20 : Int32) else (f73 21 : Int32)).toNatClampNeg) + 1))) : Int32) else (0 : Int32))) ((29 + (f73 24).toNatClampNeg)) ((f73 ((29 + (f73 24).toNatClampNeg))) - 1)) 26 0) 24 (1 - (f73 24))) 23 ((f73 23) + 1)) else (if t = 8 then (if ((f73 26) + 1) = 2 then (upd (upd (w_X11_over_73_73 ((upd (upd f73 ((27 + (f73 24).toNatClampNeg)) (if (f69 (((6 * (if (f73 24) = 0 then (f73 20 : Int32) else (f73 21 : Int32)).toNatClampNeg) + 1))) ≤ (f73 ((27 + (f73 24).toNatClampNeg))) then ((f73 ((27 + (f73 24).toNatClampNeg))) - (f69 (((6 * (if (f73 24) = 0 then (f73 20 : Int32) else (f73 21 : Int32)).toNatClampNeg) + 1))) : Int32) else (0 : Int32))) 26 ((f73 26) + 1))) 3) 24 (1 - (f73 24))) 23 (((w_X11_over_73_73 ((upd (upd f73 ((27 + (f73 24).toNatClampNeg)) (if (f69 (((6 * (if (f73 24) = 0 then (f73 20 : Int32) else (f73 21 : Int32)).toNatClampNeg) + 1))) ≤ (f73 ((27 + (f73 24).toNatClampNeg))) then ((f73 ((27 + (f73 24).toNatClampNeg))) - (f69 (((6 * (if (f73 24) = 0 then (f73 20 : Int32) else (f73 21 : Int32)).toNatClampNeg) + 1))) : Int32) else (0 : Int32))) 26 ((f73 26) + 1))) 3) 23) + 1)) else (upd (upd (upd (upd f73 ((27 + (f73 24).toNatClampNeg)) (if (f69 (((6 * (if (f73 24) = 0 then (f73 20 : Int32) else (f73 21 : Int32)).toNatClampNeg) + 1))) ≤ (f73 ((27 + (f73 24).toNatClampNeg))) then ((f73 ((27 + (f73 24).toNatClampNeg))) - (f69 (((6 * (if (f73 24) = 0 then (f73 20 : Int32) else (f73 21 : Int32)).toNatClampNeg) + 1))) : Int32) else (0 : Int32))) 26 ((f73 26) + 1)) 24 (1 - (f73 24))) 23 ((f73 23) + 1))) else (upd (upd (w_X11_says_73_73 f69 f70 f72 ((upd f73 ((27 + (f73 24).toNatClampNeg)) (if (f69 (((6 * (if (f73 24) = 0 then (f73 20 : Int32) else (f73 21 : Int32)).toNatClampNeg) + 1))) ≤ (f73 ((27 + (f73 24).toNatClampNeg))) then ((f73 ((27 + (f73 24).toNatClampNeg))) - (f69 (((6 * (if (f73 24) = 0 then (f73 20 : Int32) else (f73 21 : Int32)).toNatClampNeg) + 1))) : Int32) else (0 : Int32)))) t.toNatClampNeg) 24 (1 - (f73 24))) 23 (((w_X11_says_73_73 f69 f70 f72 ((upd f73 ((27 + (f73 24).toNatClampNeg)) (if (f69 (((6 * (if (f73 24) = 0 then (f73 20 : Int32) else (f73 21 : Int32)).toNatClampNeg) + 1))) ≤ (f73 ((27 + (f73 24).toNatClampNeg))) then ((f73 ((27 + (f73 24).toNatClampNeg))) - (f69 (((6 * (if (f73 24) = 0 then (f73 20 : Int32) else (f73 21 : Int32)).toNatClampNeg) + 1))) : Int32) else (0 : Int32)))) t.toNatClampNeg) 23) + 1))))
theorem e_X11_turns_73 {l : Launch} {X : zX} {d : Nat} {μ : zH} {t : Int32} (hT : ∀ c, c < 8 → nb (μ 70 (5 * c)) 4) (hR : RB (μ 73)) (ht : t = 9 ∨ t = 8 ∨ nb t 8) : zRn l X mi_X11_turns (d + 7) [.inr 67, .inr 73, .inl (t)] (zSH, μ) none (zSH, (zhs μ 73 (w_X11_turns_73_73 (μ 69) (μ 70) (μ 72) (μ 73) t))) := by
  have hs1 := hR.1.2.1.1
  have he1 : (if ((μ 73) 24) = 0 then ((μ 73) 20 : Int32) else ((μ 73) 21 : Int32)).toNatClampNeg < 4 := (ph_nb hR.1.1.1 hR.1.1.2.1).1
  have hO := hR.1
  refine pv_aload_n (i := 1) t_X11_turns_0 rfl rfl ?_
  refine pv_bipush (v := 24) t_X11_turns_1 zb_24 ?_
  refine sv_iald ((μ 73) 24) t_X11_turns_3 (Or.inl hh_73) (zin (by decide)) rfl ?_
  refine pv_istore_n (i := 3) t_X11_turns_4 rfl (Nat.le_of_ble_eq_true rfl) ?_
  refine pv_aload_n (i := 0) t_X11_turns_5 rfl rfl ?_
  refine pv_getR t_X11_turns_6 fl_X11_17 hh_67 rfl ?_
  refine pv_bipush (v := 6) t_X11_turns_9 zb_6 ?_
  refine pv_iload_n (i := 3) t_X11_turns_11 rfl rfl ?_
  refine sv_phi (c := ((μ 73) 24) = 0) (A := (μ 73) 20) (B := (μ 73) 21) (J := 26) (lv := [(0, .inr 67), (1, .inr 73), (2, .inl t), (3, .inl ((μ 73) 24))]) (st := [.inl 6, .inr 69]) (S := (zSH, μ)) (fun kT kF => ?_) ?_
  · skip
    refine pv_if_ne t_X11_turns_12 (fun c12 => ?_) (fun c12 => ?_)
    · skip
      refine pv_aload_n (i := 1) t_X11_turns_22 rfl rfl ?_
      refine pv_bipush (v := 21) t_X11_turns_23 zb_21 ?_
      refine sv_iald ((μ 73) 21) t_X11_turns_25 (Or.inl hh_73) (zin (by decide)) rfl ?_
      exact kF c12
    · skip
      refine pv_aload_n (i := 1) t_X11_turns_15 rfl rfl ?_
      refine pv_bipush (v := 20) t_X11_turns_16 zb_20 ?_
      refine sv_iald ((μ 73) 20) t_X11_turns_18 (Or.inl hh_73) (zin (by decide)) rfl ?_
      refine pv_goto t_X11_turns_19 ?_
      exact kT c12
  refine pv_imul t_X11_turns_26 ?_
  refine pv_iconst (v := 1) t_X11_turns_27 zi_1 ?_
  refine pv_iadd t_X11_turns_28 ?_
  refine sv_iald ((μ 69) (((6 * (if ((μ 73) 24) = 0 then ((μ 73) 20 : Int32) else ((μ 73) 21 : Int32)).toNatClampNeg) + 1))) t_X11_turns_29 (Or.inl hh_69) (ixi (k := ((6 * (if ((μ 73) 24) = 0 then ((μ 73) 20 : Int32) else ((μ 73) 21 : Int32)).toNatClampNeg) + 1)) (nIa (nIm rfl (nb_k (ph_nb hR.1.1.1 hR.1.1.2.1))) rfl) (by omega) (by decide)) ((ixe (k := ((6 * (if ((μ 73) 24) = 0 then ((μ 73) 20 : Int32) else ((μ 73) 21 : Int32)).toNatClampNeg) + 1)) (nIa (nIm rfl (nb_k (ph_nb hR.1.1.1 hR.1.1.2.1))) rfl) (by omega)).trans (by first | rfl | (simp only [zhs_s, pk_us]; done) | (simp [zhs, upd]; done))) ?_
  refine pv_istore t_X11_turns_30 (Nat.le_of_ble_eq_true rfl) ?_
  refine pv_aload_n (i := 1) t_X11_turns_32 rfl rfl ?_
  refine pv_bipush (v := 27) t_X11_turns_33 zb_27 ?_
  refine pv_iload_n (i := 3) t_X11_turns_35 rfl rfl ?_
  refine pv_iadd t_X11_turns_36 ?_
  refine pv_aload_n (i := 1) t_X11_turns_37 rfl rfl ?_
  refine pv_bipush (v := 27) t_X11_turns_38 zb_27 ?_
  refine pv_iload_n (i := 3) t_X11_turns_40 rfl rfl ?_
  refine pv_iadd t_X11_turns_41 ?_
  refine sv_iald ((μ 73) ((27 + ((μ 73) 24).toNatClampNeg))) t_X11_turns_42 (Or.inl hh_73) (ixi (k := (27 + ((μ 73) 24).toNatClampNeg)) (nIa rfl (nb_k hR.1.2.1)) (by omega) (by decide)) ((ixe (k := (27 + ((μ 73) 24).toNatClampNeg)) (nIa rfl (nb_k hR.1.2.1)) (by omega)).trans (by first | rfl | (simp only [zhs_s, pk_us]; done) | (simp [zhs, upd]; done))) ?_
  refine pv_iload t_X11_turns_43 rfl ?_
  refine sv_phi (c := ((μ 69) (((6 * (if ((μ 73) 24) = 0 then ((μ 73) 20 : Int32) else ((μ 73) 21 : Int32)).toNatClampNeg) + 1))) ≤ ((μ 73) ((27 + ((μ 73) 24).toNatClampNeg)))) (A := ((μ 73) ((27 + ((μ 73) 24).toNatClampNeg))) - ((μ 69) (((6 * (if ((μ 73) 24) = 0 then ((μ 73) 20 : Int32) else ((μ 73) 21 : Int32)).toNatClampNeg) + 1)))) (B := 0) (J := 61) (lv := [(0, .inr 67), (1, .inr 73), (2, .inl t), (3, .inl ((μ 73) 24)), (4, .inl ((μ 69) (((6 * (if ((μ 73) 24) = 0 then ((μ 73) 20 : Int32) else ((μ 73) 21 : Int32)).toNatClampNeg) + 1))))]) (st := [.inl (27 + ((μ 73) 24)), .inr 73]) (S := (zSH, μ)) (fun kT kF => ?_) ?_
  · skip
    refine pv_icmp_ge t_X11_turns_45 (fun c45 => ?_) (fun c45 => ?_)
    · skip
      refine pv_aload_n (i := 1) t_X11_turns_52 rfl rfl ?_
      refine pv_bipush (v := 27) t_X11_turns_53 zb_27 ?_
      refine pv_iload_n (i := 3) t_X11_turns_55 rfl rfl ?_
      refine pv_iadd t_X11_turns_56 ?_
      refine sv_iald ((μ 73) ((27 + ((μ 73) 24).toNatClampNeg))) t_X11_turns_57 (Or.inl hh_73) (ixi (k := (27 + ((μ 73) 24).toNatClampNeg)) (nIa rfl (nb_k hR.1.2.1)) (by omega) (by decide)) ((ixe (k := (27 + ((μ 73) 24).toNatClampNeg)) (nIa rfl (nb_k hR.1.2.1)) (by omega)).trans (by first | rfl | (simp only [zhs_s, pk_us]; done) | (simp [zhs, upd]; done))) ?_
      refine pv_iload t_X11_turns_58 rfl ?_
      refine pv_isub t_X11_turns_60 ?_
      exact kT c45
    · skip
      refine pv_iconst (v := 0) t_X11_turns_48 zi_0 ?_
      refine pv_goto t_X11_turns_49 ?_
      exact kF c45
  refine sv_iast ((zhs μ 73 ((upd (μ 73) ((27 + ((μ 73) 24).toNatClampNeg)) (if ((μ 69) (((6 * (if ((μ 73) 24) = 0 then ((μ 73) 20 : Int32) else ((μ 73) 21 : Int32)).toNatClampNeg) + 1))) ≤ ((μ 73) ((27 + ((μ 73) 24).toNatClampNeg))) then (((μ 73) ((27 + ((μ 73) 24).toNatClampNeg))) - ((μ 69) (((6 * (if ((μ 73) 24) = 0 then ((μ 73) 20 : Int32) else ((μ 73) 21 : Int32)).toNatClampNeg) + 1))) : Int32) else (0 : Int32)))))) t_X11_turns_61 hh_73 (ixi (k := (27 + ((μ 73) 24).toNatClampNeg)) (nIa rfl (nb_k hR.1.2.1)) (by omega) (by decide)) (by rw [ixc (x := 27 + ((μ 73) 24)) (k := (27 + ((μ 73) 24).toNatClampNeg)) (nIa rfl (nb_k hR.1.2.1)) (by omega)] <;> (first | rfl | (congr 1; funext k_; simp only [upd]; ((repeat' split) <;> first | rfl | (simp_all; done))))) ?_
  refine pv_iload_n (i := 2) t_X11_turns_62 rfl rfl ?_
  refine pv_bipush (v := 9) t_X11_turns_63 zb_9 ?_
  refine pv_icmp_ne t_X11_turns_65 (fun c65 => ?_) (fun c65 => ?_)
  · skip
    refine pv_iload_n (i := 2) t_X11_turns_86 rfl rfl ?_
    refine pv_bipush (v := 8) t_X11_turns_87 zb_8 ?_
    refine pv_icmp_ne t_X11_turns_89 (fun c89 => ?_) (fun c89 => ?_)
    · skip
      obtain ⟨ht1, ht2⟩ := (ht.resolve_left c65).resolve_left c89
      refine pv_aload_n (i := 0) t_X11_turns_116 rfl rfl ?_
      refine pv_aload_n (i := 1) t_X11_turns_117 rfl rfl ?_
      refine pv_iload_n (i := 2) t_X11_turns_118 rfl rfl ?_
      refine sv_WV2 ((zhs μ 73 (w_X11_says_73_73 (μ 69) (μ 70) (μ 72) ((upd (μ 73) ((27 + ((μ 73) 24).toNatClampNeg)) (if ((μ 69) (((6 * (if ((μ 73) 24) = 0 then ((μ 73) 20 : Int32) else ((μ 73) 21 : Int32)).toNatClampNeg) + 1))) ≤ ((μ 73) ((27 + ((μ 73) 24).toNatClampNeg))) then (((μ 73) ((27 + ((μ 73) 24).toNatClampNeg))) - ((μ 69) (((6 * (if ((μ 73) 24) = 0 then ((μ 73) 20 : Int32) else ((μ 73) 21 : Int32)).toNatClampNeg) + 1))) : Int32) else (0 : Int32)))) t.toNatClampNeg))) t_X11_turns_119 ml_X11_196 mo_X11_says hh_67 rfl (Nat.le_of_ble_eq_true rfl) (zas (lcS (lcS (lcI (k := t.toNatClampNeg) ht2 rfl))) (e_X11_says_73 (c := t.toNatClampNeg) (by omega) hT (by repeat (first | exact hR | refine RB.u ?_ (by unfold okW; omega) (by omega))))) (Nat.le_of_ble_eq_true rfl) (by (try simp (disch := decide) only [zhs_d, zhs_s]); rw [zhs_hs] <;> (first | rfl | (congr 1; funext k_; simp only [upd]; ((repeat' split) <;> first | rfl | (simp_all; done))))) ?_
      refine pv_aload_n (i := 1) t_X11_turns_122 rfl rfl ?_
      refine pv_bipush (v := 24) t_X11_turns_123 zb_24 ?_
      refine pv_iconst (v := 1) t_X11_turns_125 zi_1 ?_
      refine pv_iload_n (i := 3) t_X11_turns_126 rfl rfl ?_
      refine pv_isub t_X11_turns_127 ?_
      refine sv_iast ((zhs μ 73 ((upd (w_X11_says_73_73 (μ 69) (μ 70) (μ 72) ((upd (μ 73) ((27 + ((μ 73) 24).toNatClampNeg)) (if ((μ 69) (((6 * (if ((μ 73) 24) = 0 then ((μ 73) 20 : Int32) else ((μ 73) 21 : Int32)).toNatClampNeg) + 1))) ≤ ((μ 73) ((27 + ((μ 73) 24).toNatClampNeg))) then (((μ 73) ((27 + ((μ 73) 24).toNatClampNeg))) - ((μ 69) (((6 * (if ((μ 73) 24) = 0 then ((μ 73) 20 : Int32) else ((μ 73) 21 : Int32)).toNatClampNeg) + 1))) : Int32) else (0 : Int32)))) t.toNatClampNeg) 24 (1 - ((μ 73) 24)))))) t_X11_turns_128 hh_73 (zin (by decide)) (by rw [zhs_hs] <;> (first | rfl | (congr 1; funext k_; simp only [upd]; ((repeat' split) <;> first | rfl | (simp_all; done))))) ?_
      refine pv_aload_n (i := 1) t_X11_turns_129 rfl rfl ?_
      refine pv_bipush (v := 23) t_X11_turns_130 zb_23 ?_
      refine pv_dup2 t_X11_turns_132 ?_
      refine sv_iald ((w_X11_says_73_73 (μ 69) (μ 70) (μ 72) ((upd (μ 73) ((27 + ((μ 73) 24).toNatClampNeg)) (if ((μ 69) (((6 * (if ((μ 73) 24) = 0 then ((μ 73) 20 : Int32) else ((μ 73) 21 : Int32)).toNatClampNeg) + 1))) ≤ ((μ 73) ((27 + ((μ 73) 24).toNatClampNeg))) then (((μ 73) ((27 + ((μ 73) 24).toNatClampNeg))) - ((μ 69) (((6 * (if ((μ 73) 24) = 0 then ((μ 73) 20 : Int32) else ((μ 73) 21 : Int32)).toNatClampNeg) + 1))) : Int32) else (0 : Int32)))) t.toNatClampNeg) 23) t_X11_turns_133 (Or.inl hh_73) (zin (by decide)) ((congrArg _ (show (23 : Int32).toNatClampNeg = 23 from rfl)).trans (by (try simp (disch := decide) only [zhs_d, zhs_s]); repeat (first | rw [upn (by omega)] | rw [ups] | rfl))) ?_
      refine pv_iconst (v := 1) t_X11_turns_134 zi_1 ?_
      refine pv_iadd t_X11_turns_135 ?_
      refine sv_iast ((zhs μ 73 ((upd (upd (w_X11_says_73_73 (μ 69) (μ 70) (μ 72) ((upd (μ 73) ((27 + ((μ 73) 24).toNatClampNeg)) (if ((μ 69) (((6 * (if ((μ 73) 24) = 0 then ((μ 73) 20 : Int32) else ((μ 73) 21 : Int32)).toNatClampNeg) + 1))) ≤ ((μ 73) ((27 + ((μ 73) 24).toNatClampNeg))) then (((μ 73) ((27 + ((μ 73) 24).toNatClampNeg))) - ((μ 69) (((6 * (if ((μ 73) 24) = 0 then ((μ 73) 20 : Int32) else ((μ 73) 21 : Int32)).toNatClampNeg) + 1))) : Int32) else (0 : Int32)))) t.toNatClampNeg) 24 (1 - ((μ 73) 24))) 23 (((w_X11_says_73_73 (μ 69) (μ 70) (μ 72) ((upd (μ 73) ((27 + ((μ 73) 24).toNatClampNeg)) (if ((μ 69) (((6 * (if ((μ 73) 24) = 0 then ((μ 73) 20 : Int32) else ((μ 73) 21 : Int32)).toNatClampNeg) + 1))) ≤ ((μ 73) ((27 + ((μ 73) 24).toNatClampNeg))) then (((μ 73) ((27 + ((μ 73) 24).toNatClampNeg))) - ((μ 69) (((6 * (if ((μ 73) 24) = 0 then ((μ 73) 20 : Int32) else ((μ 73) 21 : Int32)).toNatClampNeg) + 1))) : Int32) else (0 : Int32)))) t.toNatClampNeg) 23) + 1))))) t_X11_turns_136 hh_73 (zin (by decide)) (by rw [zhs_hs] <;> (first | rfl | (congr 1; funext k_; simp only [upd]; ((repeat' split) <;> first | rfl | (simp_all; done))))) ?_
      exact pv_vret t_X11_turns_137 rfl (Prod.ext rfl (by have e73 : w_X11_turns_73_73 (μ 69) (μ 70) (μ 72) (μ 73) t = (upd (upd (w_X11_says_73_73 (μ 69) (μ 70) (μ 72) ((upd (μ 73) ((27 + ((μ 73) 24).toNatClampNeg)) (if ((μ 69) (((6 * (if ((μ 73) 24) = 0 then ((μ 73) 20 : Int32) else ((μ 73) 21 : Int32)).toNatClampNeg) + 1))) ≤ ((μ 73) ((27 + ((μ 73) 24).toNatClampNeg))) then (((μ 73) ((27 + ((μ 73) 24).toNatClampNeg))) - ((μ 69) (((6 * (if ((μ 73) 24) = 0 then ((μ 73) 20 : Int32) else ((μ 73) 21 : Int32)).toNatClampNeg) + 1))) : Int32) else (0 : Int32)))) t.toNatClampNeg) 24 (1 - ((μ 73) 24))) 23 (((w_X11_says_73_73 (μ 69) (μ 70) (μ 72) ((upd (μ 73) ((27 + ((μ 73) 24).toNatClampNeg)) (if ((μ 69) (((6 * (if ((μ 73) 24) = 0 then ((μ 73) 20 : Int32) else ((μ 73) 21 : Int32)).toNatClampNeg) + 1))) ≤ ((μ 73) ((27 + ((μ 73) 24).toNatClampNeg))) then (((μ 73) ((27 + ((μ 73) 24).toNatClampNeg))) - ((μ 69) (((6 * (if ((μ 73) 24) = 0 then ((μ 73) 20 : Int32) else ((μ 73) 21 : Int32)).toNatClampNeg) + 1))) : Int32) else (0 : Int32)))) t.toNatClampNeg) 23) + 1)) := (by unfold w_X11_turns_73_73; rw [if_neg c65, if_neg c89]); show _ = (zhs μ 73 (w_X11_turns_73_73 (μ 69) (μ 70) (μ 72) (μ 73) t)); symm; rw [e73]))
    · skip
      refine pv_aload_n (i := 1) t_X11_turns_92 rfl rfl ?_
      refine pv_bipush (v := 26) t_X11_turns_93 zb_26 ?_
      refine pv_dup2 t_X11_turns_95 ?_
      refine sv_iald ((μ 73) 26) t_X11_turns_96 (Or.inl hh_73) (zin (by decide)) ((congrArg _ (show (26 : Int32).toNatClampNeg = 26 from rfl)).trans (by (try simp (disch := decide) only [zhs_d, zhs_s]); repeat (first | rw [upn (by omega)] | rw [ups] | rfl))) ?_
      refine pv_iconst (v := 1) t_X11_turns_97 zi_1 ?_
      refine pv_iadd t_X11_turns_98 ?_
      refine sv_iast ((zhs μ 73 ((upd (upd (μ 73) ((27 + ((μ 73) 24).toNatClampNeg)) (if ((μ 69) (((6 * (if ((μ 73) 24) = 0 then ((μ 73) 20 : Int32) else ((μ 73) 21 : Int32)).toNatClampNeg) + 1))) ≤ ((μ 73) ((27 + ((μ 73) 24).toNatClampNeg))) then (((μ 73) ((27 + ((μ 73) 24).toNatClampNeg))) - ((μ 69) (((6 * (if ((μ 73) 24) = 0 then ((μ 73) 20 : Int32) else ((μ 73) 21 : Int32)).toNatClampNeg) + 1))) : Int32) else (0 : Int32))) 26 (((μ 73) 26) + 1))))) t_X11_turns_99 hh_73 (zin (by decide)) (by rw [zhs_hs] <;> (first | rfl | (congr 1; funext k_; simp only [upd]; ((repeat' split) <;> first | rfl | (simp_all; done))))) ?_
      refine pv_aload_n (i := 1) t_X11_turns_100 rfl rfl ?_
      refine pv_bipush (v := 26) t_X11_turns_101 zb_26 ?_
      refine sv_iald (((μ 73) 26) + 1) t_X11_turns_103 (Or.inl hh_73) (zin (by decide)) rfl ?_
      refine pv_iconst (v := 2) t_X11_turns_104 zi_2 ?_
      refine pv_icmp_ne t_X11_turns_105 (fun c105 => ?_) (fun c105 => ?_)
      · skip
        refine pv_aload_n (i := 1) t_X11_turns_122 rfl rfl ?_
        refine pv_bipush (v := 24) t_X11_turns_123 zb_24 ?_
        refine pv_iconst (v := 1) t_X11_turns_125 zi_1 ?_
        refine pv_iload_n (i := 3) t_X11_turns_126 rfl rfl ?_
        refine pv_isub t_X11_turns_127 ?_
        refine sv_iast ((zhs μ 73 ((upd (upd (upd (μ 73) ((27 + ((μ 73) 24).toNatClampNeg)) (if ((μ 69) (((6 * (if ((μ 73) 24) = 0 then ((μ 73) 20 : Int32) else ((μ 73) 21 : Int32)).toNatClampNeg) + 1))) ≤ ((μ 73) ((27 + ((μ 73) 24).toNatClampNeg))) then (((μ 73) ((27 + ((μ 73) 24).toNatClampNeg))) - ((μ 69) (((6 * (if ((μ 73) 24) = 0 then ((μ 73) 20 : Int32) else ((μ 73) 21 : Int32)).toNatClampNeg) + 1))) : Int32) else (0 : Int32))) 26 (((μ 73) 26) + 1)) 24 (1 - ((μ 73) 24)))))) t_X11_turns_128 hh_73 (zin (by decide)) (by rw [zhs_hs] <;> (first | rfl | (congr 1; funext k_; simp only [upd]; ((repeat' split) <;> first | rfl | (simp_all; done))))) ?_
        refine pv_aload_n (i := 1) t_X11_turns_129 rfl rfl ?_
        refine pv_bipush (v := 23) t_X11_turns_130 zb_23 ?_
        refine pv_dup2 t_X11_turns_132 ?_
        refine sv_iald ((μ 73) 23) t_X11_turns_133 (Or.inl hh_73) (zin (by decide)) ((congrArg _ (show (23 : Int32).toNatClampNeg = 23 from rfl)).trans (by (try simp (disch := decide) only [zhs_d, zhs_s]); repeat (first | rw [upn (by omega)] | rw [ups] | rfl))) ?_
        refine pv_iconst (v := 1) t_X11_turns_134 zi_1 ?_
        refine pv_iadd t_X11_turns_135 ?_
        refine sv_iast ((zhs μ 73 ((upd (upd (upd (upd (μ 73) ((27 + ((μ 73) 24).toNatClampNeg)) (if ((μ 69) (((6 * (if ((μ 73) 24) = 0 then ((μ 73) 20 : Int32) else ((μ 73) 21 : Int32)).toNatClampNeg) + 1))) ≤ ((μ 73) ((27 + ((μ 73) 24).toNatClampNeg))) then (((μ 73) ((27 + ((μ 73) 24).toNatClampNeg))) - ((μ 69) (((6 * (if ((μ 73) 24) = 0 then ((μ 73) 20 : Int32) else ((μ 73) 21 : Int32)).toNatClampNeg) + 1))) : Int32) else (0 : Int32))) 26 (((μ 73) 26) + 1)) 24 (1 - ((μ 73) 24))) 23 (((μ 73) 23) + 1))))) t_X11_turns_136 hh_73 (zin (by decide)) (by rw [zhs_hs] <;> (first | rfl | (congr 1; funext k_; simp only [upd]; ((repeat' split) <;> first | rfl | (simp_all; done))))) ?_
        exact pv_vret t_X11_turns_137 rfl (Prod.ext rfl (by have e73 : w_X11_turns_73_73 (μ 69) (μ 70) (μ 72) (μ 73) t = (upd (upd (upd (upd (μ 73) ((27 + ((μ 73) 24).toNatClampNeg)) (if ((μ 69) (((6 * (if ((μ 73) 24) = 0 then ((μ 73) 20 : Int32) else ((μ 73) 21 : Int32)).toNatClampNeg) + 1))) ≤ ((μ 73) ((27 + ((μ 73) 24).toNatClampNeg))) then (((μ 73) ((27 + ((μ 73) 24).toNatClampNeg))) - ((μ 69) (((6 * (if ((μ 73) 24) = 0 then ((μ 73) 20 : Int32) else ((μ 73) 21 : Int32)).toNatClampNeg) + 1))) : Int32) else (0 : Int32))) 26 (((μ 73) 26) + 1)) 24 (1 - ((μ 73) 24))) 23 (((μ 73) 23) + 1)) := (by unfold w_X11_turns_73_73; rw [if_neg c65, if_pos c89, if_neg c105]); show _ = (zhs μ 73 (w_X11_turns_73_73 (μ 69) (μ 70) (μ 72) (μ 73) t)); symm; rw [e73]))
      · skip
        refine pv_aload_n (i := 1) t_X11_turns_108 rfl rfl ?_
        refine pv_iconst (v := 3) t_X11_turns_109 zi_3 ?_
        refine sv_WS2 ((zhs μ 73 (w_X11_over_73_73 ((upd (upd (μ 73) ((27 + ((μ 73) 24).toNatClampNeg)) (if ((μ 69) (((6 * (if ((μ 73) 24) = 0 then ((μ 73) 20 : Int32) else ((μ 73) 21 : Int32)).toNatClampNeg) + 1))) ≤ ((μ 73) ((27 + ((μ 73) 24).toNatClampNeg))) then (((μ 73) ((27 + ((μ 73) 24).toNatClampNeg))) - ((μ 69) (((6 * (if ((μ 73) 24) = 0 then ((μ 73) 20 : Int32) else ((μ 73) 21 : Int32)).toNatClampNeg) + 1))) : Int32) else (0 : Int32))) 26 (((μ 73) 26) + 1))) 3))) t_X11_turns_110 ml_X11_192 mo_X11_over (Nat.le_of_ble_eq_true rfl) (e_X11_over_73 (by repeat (first | exact hO | refine OB.u ?_ (by unfold okW; omega)))) (Nat.le_of_ble_eq_true rfl) (by (try simp (disch := decide) only [zhs_d, zhs_s]); rw [zhs_hs] <;> (first | rfl | (congr 1; funext k_; simp only [upd]; ((repeat' split) <;> first | rfl | (simp_all; done))))) ?_
        refine pv_goto t_X11_turns_113 ?_
        refine pv_aload_n (i := 1) t_X11_turns_122 rfl rfl ?_
        refine pv_bipush (v := 24) t_X11_turns_123 zb_24 ?_
        refine pv_iconst (v := 1) t_X11_turns_125 zi_1 ?_
        refine pv_iload_n (i := 3) t_X11_turns_126 rfl rfl ?_
        refine pv_isub t_X11_turns_127 ?_
        refine sv_iast ((zhs μ 73 ((upd (w_X11_over_73_73 ((upd (upd (μ 73) ((27 + ((μ 73) 24).toNatClampNeg)) (if ((μ 69) (((6 * (if ((μ 73) 24) = 0 then ((μ 73) 20 : Int32) else ((μ 73) 21 : Int32)).toNatClampNeg) + 1))) ≤ ((μ 73) ((27 + ((μ 73) 24).toNatClampNeg))) then (((μ 73) ((27 + ((μ 73) 24).toNatClampNeg))) - ((μ 69) (((6 * (if ((μ 73) 24) = 0 then ((μ 73) 20 : Int32) else ((μ 73) 21 : Int32)).toNatClampNeg) + 1))) : Int32) else (0 : Int32))) 26 (((μ 73) 26) + 1))) 3) 24 (1 - ((μ 73) 24)))))) t_X11_turns_128 hh_73 (zin (by decide)) (by rw [zhs_hs] <;> (first | rfl | (congr 1; funext k_; simp only [upd]; ((repeat' split) <;> first | rfl | (simp_all; done))))) ?_
        refine pv_aload_n (i := 1) t_X11_turns_129 rfl rfl ?_
        refine pv_bipush (v := 23) t_X11_turns_130 zb_23 ?_
        refine pv_dup2 t_X11_turns_132 ?_
        refine sv_iald ((w_X11_over_73_73 ((upd (upd (μ 73) ((27 + ((μ 73) 24).toNatClampNeg)) (if ((μ 69) (((6 * (if ((μ 73) 24) = 0 then ((μ 73) 20 : Int32) else ((μ 73) 21 : Int32)).toNatClampNeg) + 1))) ≤ ((μ 73) ((27 + ((μ 73) 24).toNatClampNeg))) then (((μ 73) ((27 + ((μ 73) 24).toNatClampNeg))) - ((μ 69) (((6 * (if ((μ 73) 24) = 0 then ((μ 73) 20 : Int32) else ((μ 73) 21 : Int32)).toNatClampNeg) + 1))) : Int32) else (0 : Int32))) 26 (((μ 73) 26) + 1))) 3) 23) t_X11_turns_133 (Or.inl hh_73) (zin (by decide)) ((congrArg _ (show (23 : Int32).toNatClampNeg = 23 from rfl)).trans (by (try simp (disch := decide) only [zhs_d, zhs_s]); repeat (first | rw [upn (by omega)] | rw [ups] | rfl))) ?_
        refine pv_iconst (v := 1) t_X11_turns_134 zi_1 ?_
        refine pv_iadd t_X11_turns_135 ?_
        refine sv_iast ((zhs μ 73 ((upd (upd (w_X11_over_73_73 ((upd (upd (μ 73) ((27 + ((μ 73) 24).toNatClampNeg)) (if ((μ 69) (((6 * (if ((μ 73) 24) = 0 then ((μ 73) 20 : Int32) else ((μ 73) 21 : Int32)).toNatClampNeg) + 1))) ≤ ((μ 73) ((27 + ((μ 73) 24).toNatClampNeg))) then (((μ 73) ((27 + ((μ 73) 24).toNatClampNeg))) - ((μ 69) (((6 * (if ((μ 73) 24) = 0 then ((μ 73) 20 : Int32) else ((μ 73) 21 : Int32)).toNatClampNeg) + 1))) : Int32) else (0 : Int32))) 26 (((μ 73) 26) + 1))) 3) 24 (1 - ((μ 73) 24))) 23 (((w_X11_over_73_73 ((upd (upd (μ 73) ((27 + ((μ 73) 24).toNatClampNeg)) (if ((μ 69) (((6 * (if ((μ 73) 24) = 0 then ((μ 73) 20 : Int32) else ((μ 73) 21 : Int32)).toNatClampNeg) + 1))) ≤ ((μ 73) ((27 + ((μ 73) 24).toNatClampNeg))) then (((μ 73) ((27 + ((μ 73) 24).toNatClampNeg))) - ((μ 69) (((6 * (if ((μ 73) 24) = 0 then ((μ 73) 20 : Int32) else ((μ 73) 21 : Int32)).toNatClampNeg) + 1))) : Int32) else (0 : Int32))) 26 (((μ 73) 26) + 1))) 3) 23) + 1))))) t_X11_turns_136 hh_73 (zin (by decide)) (by rw [zhs_hs] <;> (first | rfl | (congr 1; funext k_; simp only [upd]; ((repeat' split) <;> first | rfl | (simp_all; done))))) ?_
        exact pv_vret t_X11_turns_137 rfl (Prod.ext rfl (by have e73 : w_X11_turns_73_73 (μ 69) (μ 70) (μ 72) (μ 73) t = (upd (upd (w_X11_over_73_73 ((upd (upd (μ 73) ((27 + ((μ 73) 24).toNatClampNeg)) (if ((μ 69) (((6 * (if ((μ 73) 24) = 0 then ((μ 73) 20 : Int32) else ((μ 73) 21 : Int32)).toNatClampNeg) + 1))) ≤ ((μ 73) ((27 + ((μ 73) 24).toNatClampNeg))) then (((μ 73) ((27 + ((μ 73) 24).toNatClampNeg))) - ((μ 69) (((6 * (if ((μ 73) 24) = 0 then ((μ 73) 20 : Int32) else ((μ 73) 21 : Int32)).toNatClampNeg) + 1))) : Int32) else (0 : Int32))) 26 (((μ 73) 26) + 1))) 3) 24 (1 - ((μ 73) 24))) 23 (((w_X11_over_73_73 ((upd (upd (μ 73) ((27 + ((μ 73) 24).toNatClampNeg)) (if ((μ 69) (((6 * (if ((μ 73) 24) = 0 then ((μ 73) 20 : Int32) else ((μ 73) 21 : Int32)).toNatClampNeg) + 1))) ≤ ((μ 73) ((27 + ((μ 73) 24).toNatClampNeg))) then (((μ 73) ((27 + ((μ 73) 24).toNatClampNeg))) - ((μ 69) (((6 * (if ((μ 73) 24) = 0 then ((μ 73) 20 : Int32) else ((μ 73) 21 : Int32)).toNatClampNeg) + 1))) : Int32) else (0 : Int32))) 26 (((μ 73) 26) + 1))) 3) 23) + 1)) := (by unfold w_X11_turns_73_73; rw [if_neg c65, if_pos c89, if_pos c105]); show _ = (zhs μ 73 (w_X11_turns_73_73 (μ 69) (μ 70) (μ 72) (μ 73) t)); symm; rw [e73]))
  · skip
    refine pv_aload_n (i := 1) t_X11_turns_68 rfl rfl ?_
    refine pv_bipush (v := 29) t_X11_turns_69 zb_29 ?_
    refine pv_iload_n (i := 3) t_X11_turns_71 rfl rfl ?_
    refine pv_iadd t_X11_turns_72 ?_
    refine pv_dup2 t_X11_turns_73 ?_
    refine sv_iald ((μ 73) ((29 + ((μ 73) 24).toNatClampNeg))) t_X11_turns_74 (Or.inl hh_73) (ixi (k := (29 + ((μ 73) 24).toNatClampNeg)) (nIa rfl (nb_k hR.1.2.1)) (by omega) (by decide)) ((ixe (k := (29 + ((μ 73) 24).toNatClampNeg)) (nIa rfl (nb_k hR.1.2.1)) (by omega)).trans (by (try simp (disch := decide) only [zhs_d, zhs_s]); repeat (first | rw [upn (by omega)] | rw [ups] | rfl))) ?_
    refine pv_iconst (v := 1) t_X11_turns_75 zi_1 ?_
    refine pv_isub t_X11_turns_76 ?_
    refine sv_iast ((zhs μ 73 ((upd (upd (μ 73) ((27 + ((μ 73) 24).toNatClampNeg)) (if ((μ 69) (((6 * (if ((μ 73) 24) = 0 then ((μ 73) 20 : Int32) else ((μ 73) 21 : Int32)).toNatClampNeg) + 1))) ≤ ((μ 73) ((27 + ((μ 73) 24).toNatClampNeg))) then (((μ 73) ((27 + ((μ 73) 24).toNatClampNeg))) - ((μ 69) (((6 * (if ((μ 73) 24) = 0 then ((μ 73) 20 : Int32) else ((μ 73) 21 : Int32)).toNatClampNeg) + 1))) : Int32) else (0 : Int32))) ((29 + ((μ 73) 24).toNatClampNeg)) (((μ 73) ((29 + ((μ 73) 24).toNatClampNeg))) - 1))))) t_X11_turns_77 hh_73 (ixi (k := (29 + ((μ 73) 24).toNatClampNeg)) (nIa rfl (nb_k hR.1.2.1)) (by omega) (by decide)) (by rw [ixc (x := 29 + ((μ 73) 24)) (k := (29 + ((μ 73) 24).toNatClampNeg)) (nIa rfl (nb_k hR.1.2.1)) (by omega), zhs_hs] <;> (first | rfl | (congr 1; funext k_; simp only [upd]; ((repeat' split) <;> first | rfl | (simp_all; done))))) ?_
    refine pv_aload_n (i := 1) t_X11_turns_78 rfl rfl ?_
    refine pv_bipush (v := 26) t_X11_turns_79 zb_26 ?_
    refine pv_iconst (v := 0) t_X11_turns_81 zi_0 ?_
    refine sv_iast ((zhs μ 73 ((upd (upd (upd (μ 73) ((27 + ((μ 73) 24).toNatClampNeg)) (if ((μ 69) (((6 * (if ((μ 73) 24) = 0 then ((μ 73) 20 : Int32) else ((μ 73) 21 : Int32)).toNatClampNeg) + 1))) ≤ ((μ 73) ((27 + ((μ 73) 24).toNatClampNeg))) then (((μ 73) ((27 + ((μ 73) 24).toNatClampNeg))) - ((μ 69) (((6 * (if ((μ 73) 24) = 0 then ((μ 73) 20 : Int32) else ((μ 73) 21 : Int32)).toNatClampNeg) + 1))) : Int32) else (0 : Int32))) ((29 + ((μ 73) 24).toNatClampNeg)) (((μ 73) ((29 + ((μ 73) 24).toNatClampNeg))) - 1)) 26 0)))) t_X11_turns_82 hh_73 (zin (by decide)) (by rw [zhs_hs] <;> (first | rfl | (congr 1; funext k_; simp only [upd]; ((repeat' split) <;> first | rfl | (simp_all; done))))) ?_
    refine pv_goto t_X11_turns_83 ?_
    refine pv_aload_n (i := 1) t_X11_turns_122 rfl rfl ?_
    refine pv_bipush (v := 24) t_X11_turns_123 zb_24 ?_
    refine pv_iconst (v := 1) t_X11_turns_125 zi_1 ?_
    refine pv_iload_n (i := 3) t_X11_turns_126 rfl rfl ?_
    refine pv_isub t_X11_turns_127 ?_
    refine sv_iast ((zhs μ 73 ((upd (upd (upd (upd (μ 73) ((27 + ((μ 73) 24).toNatClampNeg)) (if ((μ 69) (((6 * (if ((μ 73) 24) = 0 then ((μ 73) 20 : Int32) else ((μ 73) 21 : Int32)).toNatClampNeg) + 1))) ≤ ((μ 73) ((27 + ((μ 73) 24).toNatClampNeg))) then (((μ 73) ((27 + ((μ 73) 24).toNatClampNeg))) - ((μ 69) (((6 * (if ((μ 73) 24) = 0 then ((μ 73) 20 : Int32) else ((μ 73) 21 : Int32)).toNatClampNeg) + 1))) : Int32) else (0 : Int32))) ((29 + ((μ 73) 24).toNatClampNeg)) (((μ 73) ((29 + ((μ 73) 24).toNatClampNeg))) - 1)) 26 0) 24 (1 - ((μ 73) 24)))))) t_X11_turns_128 hh_73 (zin (by decide)) (by rw [zhs_hs] <;> (first | rfl | (congr 1; funext k_; simp only [upd]; ((repeat' split) <;> first | rfl | (simp_all; done))))) ?_
    refine pv_aload_n (i := 1) t_X11_turns_129 rfl rfl ?_
    refine pv_bipush (v := 23) t_X11_turns_130 zb_23 ?_
    refine pv_dup2 t_X11_turns_132 ?_
    refine sv_iald ((μ 73) 23) t_X11_turns_133 (Or.inl hh_73) (zin (by decide)) ((congrArg _ (show (23 : Int32).toNatClampNeg = 23 from rfl)).trans (by (try simp (disch := decide) only [zhs_d, zhs_s]); repeat (first | rw [upn (by omega)] | rw [ups] | rfl))) ?_
    refine pv_iconst (v := 1) t_X11_turns_134 zi_1 ?_
    refine pv_iadd t_X11_turns_135 ?_
    refine sv_iast ((zhs μ 73 ((upd (upd (upd (upd (upd (μ 73) ((27 + ((μ 73) 24).toNatClampNeg)) (if ((μ 69) (((6 * (if ((μ 73) 24) = 0 then ((μ 73) 20 : Int32) else ((μ 73) 21 : Int32)).toNatClampNeg) + 1))) ≤ ((μ 73) ((27 + ((μ 73) 24).toNatClampNeg))) then (((μ 73) ((27 + ((μ 73) 24).toNatClampNeg))) - ((μ 69) (((6 * (if ((μ 73) 24) = 0 then ((μ 73) 20 : Int32) else ((μ 73) 21 : Int32)).toNatClampNeg) + 1))) : Int32) else (0 : Int32))) ((29 + ((μ 73) 24).toNatClampNeg)) (((μ 73) ((29 + ((μ 73) 24).toNatClampNeg))) - 1)) 26 0) 24 (1 - ((μ 73) 24))) 23 (((μ 73) 23) + 1))))) t_X11_turns_136 hh_73 (zin (by decide)) (by rw [zhs_hs] <;> (first | rfl | (congr 1; funext k_; simp only [upd]; ((repeat' split) <;> first | rfl | (simp_all; done))))) ?_
    exact pv_vret t_X11_turns_137 rfl (Prod.ext rfl (by have e73 : w_X11_turns_73_73 (μ 69) (μ 70) (μ 72) (μ 73) t = (upd (upd (upd (upd (upd (μ 73) ((27 + ((μ 73) 24).toNatClampNeg)) (if ((μ 69) (((6 * (if ((μ 73) 24) = 0 then ((μ 73) 20 : Int32) else ((μ 73) 21 : Int32)).toNatClampNeg) + 1))) ≤ ((μ 73) ((27 + ((μ 73) 24).toNatClampNeg))) then (((μ 73) ((27 + ((μ 73) 24).toNatClampNeg))) - ((μ 69) (((6 * (if ((μ 73) 24) = 0 then ((μ 73) 20 : Int32) else ((μ 73) 21 : Int32)).toNatClampNeg) + 1))) : Int32) else (0 : Int32))) ((29 + ((μ 73) 24).toNatClampNeg)) (((μ 73) ((29 + ((μ 73) 24).toNatClampNeg))) - 1)) 26 0) 24 (1 - ((μ 73) 24))) 23 (((μ 73) 23) + 1)) := (by unfold w_X11_turns_73_73; rw [if_pos c65]); show _ = (zhs μ 73 (w_X11_turns_73_73 (μ 69) (μ 70) (μ 72) (μ 73) t)); symm; rw [e73]))
theorem lp_dsL {l : Launch} {X : zX} {d : Nat} {μ : zH} {t : Int32} {at0 : Nat} {f74 : Nat → Int32} (hat : at0 ≤ 4032) {r : Option zV} {S' : zS} (hk : zEv l X mi_X11_does (d + 8) 42 [(0, .inr 67), (1, .inl t), (2, .inl ((nI at0))), (3, .inl (nI 64))] [] (zSH, (zhs μ 74 (cpR f74 (fun k => (μ 72) (k - at0)) (at0) (at0 + 64)))) 0 0 r S') : ∀ j i : Nat, i + j = 64 + 1 → i ≤ 64 → ∀ (y : Int32) (g74 : Nat → Int32), y = nI i → g74 = cpR f74 (fun k => (μ 72) (k - at0)) (at0) (at0 + i) → zEv l X mi_X11_does (d + 8) 16 [(0, .inr 67), (1, .inl t), (2, .inl ((nI at0))), (3, .inl y)] [] (zSH, (zhs μ 74 g74)) 0 0 r S' := by
  intro j
  induction j with
  | zero => intros; omega
  | succ j ih =>
    intro i hij hle y g74 hy hg
    subst hy
    refine pv_iload_n (i := 3) t_X11_does_16 rfl rfl ?_
    refine pv_bipush (v := 64) t_X11_does_17 zb_64 ?_
    refine pv_icmp_ge t_X11_does_19 (fun c19 => ?_) (fun c19 => ?_)
    · skip
      have hie : i = 64 := by have := (nI_leI (a := 64) (by omega) (by omega)).mp c19; omega
      subst hie
      rw [hg]
      exact hk
    · skip
      have hin : i < 64 := Nat.lt_of_not_le (fun q => c19 (nI_le (a := 64) q (by omega)))
      refine pv_aload_n (i := 0) t_X11_does_22 rfl rfl ?_
      refine pv_getR t_X11_does_23 fl_X11_32 hh_67 rfl ?_
      refine pv_iload_n (i := 2) t_X11_does_26 rfl rfl ?_
      refine pv_iload_n (i := 3) t_X11_does_27 rfl rfl ?_
      refine pv_iadd t_X11_does_28 ?_
      refine pv_aload_n (i := 0) t_X11_does_29 rfl rfl ?_
      refine pv_getR t_X11_does_30 fl_X11_26 hh_67 rfl ?_
      refine pv_iload_n (i := 3) t_X11_does_33 rfl rfl ?_
      refine sv_iald ((μ 72) i) t_X11_does_34 (Or.inl hh_72) (ixi (k := i) rfl (by omega) (by decide)) ((ixe (k := i) rfl (by omega)).trans (by first | rfl | (simp only [zhs_s, pk_us]; done) | (simp [zhs, upd]; done))) ?_
      refine sv_iast ((zhs μ 74 ((upd g74 ((at0 + i)) ((μ 72) i))))) t_X11_does_35 hh_74 (ixi (k := (at0 + i)) (nIa rfl rfl) (by omega) (by decide)) (by rw [ixc (x := ((nI at0)) + ((nI i))) (k := (at0 + i)) (nIa rfl rfl) (by omega), zhs_hs] <;> (first | rfl | (congr 1; funext k_; simp only [upd]; ((repeat' split) <;> first | rfl | (simp_all; done))))) ?_
      refine pv_iinc (v := 1) t_X11_does_36 rfl zi_1 ?_
      refine pv_goto t_X11_does_39 ?_
      refine pv_loc (lv' := [(0, _), (1, _), (2, _), (3, _)]) ⟨rfl, rfl, rfl, rfl, trivial⟩ ?_
      refine ih (i + 1) (by omega) (by omega) _ _ (nI_1 i) ?_
      rw [hg]
      exact cpR_s (by omega) (by show _ = μ 72 (at0 + i - at0); rw [Nat.add_sub_cancel_left]) (by omega)
def w_X11_does_74 (f72 : Nat → Int32) (f74 : Nat → Int32) : Nat → Int32 := cpR f74 (fun k => f72 (k - ((64 * (f72 23).toNatClampNeg)))) (((64 * (f72 23).toNatClampNeg))) (((64 * (f72 23).toNatClampNeg)) + 64)
def w_X11_does_72 (f69 : Nat → Int32) (f70 : Nat → Int32) (f72 : Nat → Int32) (t : Int32) : Nat → Int32 := w_X11_turns_72_72 f69 f70 f72 t
theorem e_X11_does {l : Launch} {X : zX} {d : Nat} {μ : zH} {t : Int32} (hT : ∀ c, c < 8 → nb (μ 70 (5 * c)) 4) (hR : RB (μ 72)) (hU : nb (μ 72 23) 64) (ht : t = 9 ∨ t = 8 ∨ nb t 8) : zRn l X mi_X11_does (d + 8) [.inr 67, .inl (t)] (zSH, μ) none (zSH, (zhs (zhs μ 74 (w_X11_does_74 (μ 72) (μ 74))) 72 (w_X11_does_72 (μ 69) (μ 70) (μ 72) t))) := by
  have hu1 := hU.1
  refine pv_bipush (v := 64) t_X11_does_0 zb_64 ?_
  refine pv_aload_n (i := 0) t_X11_does_2 rfl rfl ?_
  refine pv_getR t_X11_does_3 fl_X11_26 hh_67 rfl ?_
  refine pv_bipush (v := 23) t_X11_does_6 zb_23 ?_
  refine sv_iald ((μ 72) 23) t_X11_does_8 (Or.inl hh_72) (zin (by decide)) rfl ?_
  refine pv_bipush (v := 64) t_X11_does_9 zb_64 ?_
  refine pv_irem t_X11_does_11 (by decide) ?_
  refine pv_imul t_X11_does_12 ?_
  refine pv_istore_n (i := 2) t_X11_does_13 rfl (Nat.le_of_ble_eq_true rfl) ?_
  refine pv_iconst (v := 0) t_X11_does_14 zi_0 ?_
  refine pv_istore_n (i := 3) t_X11_does_15 rfl (Nat.le_of_ble_eq_true rfl) ?_
  refine pv_loc (lv' := [(0, .inr 67), (1, .inl t), (2, .inl (64 * (((μ 72) 23) - ((μ 72) 23) / 64 * 64))), (3, .inl 0)]) ⟨rfl, rfl, rfl, rfl, trivial⟩ ?_
  refine zls (llS (llS (llI (n := (64 * ((μ 72) 23).toNatClampNeg)) (nIm rfl (rem64 hU)) (llS rfl)))) ?_
  refine zst (S2 := (zSH, (zhs μ 74 (μ 74)))) (by symm; rw [zhs_i2 (ν := μ) (k := 74) (g := (μ 74)) rfl]) ?_
  refine lp_dsL (t := t) (at0 := (64 * ((μ 72) 23).toNatClampNeg)) (f74 := (μ 74)) (by omega) ?_ (64 + 1) 0 (by omega) (by omega) _ _ rfl (cpR_0 (by omega)).symm
  refine pv_aload_n (i := 0) t_X11_does_42 rfl rfl ?_
  refine pv_aload_n (i := 0) t_X11_does_43 rfl rfl ?_
  refine pv_getR t_X11_does_44 fl_X11_26 hh_67 rfl ?_
  refine pv_iload_n (i := 1) t_X11_does_47 rfl rfl ?_
  refine sv_WV2 ((zhs (zhs μ 74 (cpR (μ 74) (fun k => (μ 72) (k - ((64 * ((μ 72) 23).toNatClampNeg)))) (((64 * ((μ 72) 23).toNatClampNeg))) (((64 * ((μ 72) 23).toNatClampNeg)) + 64))) 72 (w_X11_turns_72_72 (μ 69) (μ 70) (μ 72) t))) t_X11_does_48 ml_X11_199 mo_X11_turns hh_67 rfl (Nat.le_of_ble_eq_true rfl) (e_X11_turns_72 hT hR ht) (Nat.le_of_ble_eq_true rfl) rfl ?_
  exact pv_vret t_X11_does_51 rfl (Prod.ext rfl (by have e74 : w_X11_does_74 (μ 72) (μ 74) = cpR (μ 74) (fun k => (μ 72) (k - ((64 * ((μ 72) 23).toNatClampNeg)))) (((64 * ((μ 72) 23).toNatClampNeg))) (((64 * ((μ 72) 23).toNatClampNeg)) + 64) := (by unfold w_X11_does_74; rfl); have e72 : w_X11_does_72 (μ 69) (μ 70) (μ 72) t = w_X11_turns_72_72 (μ 69) (μ 70) (μ 72) t := (by unfold w_X11_does_72; rfl); show _ = (zhs (zhs μ 74 (w_X11_does_74 (μ 72) (μ 74))) 72 (w_X11_does_72 (μ 69) (μ 70) (μ 72) t)); symm; rw [e74, e72]))
theorem isc1 {f : Nat → Int32} {x : Int32} {nc : Nat} (hnc : f 11 = nI nc) (hc8 : nc ≤ 8) (h : ¬ a_X11_isCompliment f x = 0) : nb x nc ∧ nb x 8 := isc hnc hc8 h
theorem sor (r : Nat → Int32) : (9 : Int32) = 9 ∨ (9 : Int32) = 8 ∨ nb 9 8 := Or.inl rfl
theorem pas (r : Nat → Int32) : (8 : Int32) = 9 ∨ (8 : Int32) = 8 ∨ nb 8 8 := Or.inr (Or.inl rfl)
def a_X11_say (f67 : Nat → Int32) (f69 : Nat → Int32) (f70 : Nat → Int32) (f72 : Nat → Int32) (x : Int32) : Int32 := (if (a_X11_isCompliment ((upd f67 0 0)) x) = 0 then (-1000000001) else (if (a_X11_goesOn f72) = 0 then (-1000000003) else (if (a_X11_canTurn_72 ((upd f67 0 0)) f72 x) = 0 then (-1000000003) else (w_X11_does_72 f69 f70 f72 x) 22)))
def w_X11_say_67 (f67 : Nat → Int32) : Nat → Int32 := (upd f67 0 0)
def w_X11_say_74 (f67 : Nat → Int32) (f72 : Nat → Int32) (f74 : Nat → Int32) (x : Int32) : Nat → Int32 := (if (a_X11_isCompliment ((upd f67 0 0)) x) = 0 then f74 else (if (a_X11_goesOn f72) = 0 then f74 else (if (a_X11_canTurn_72 ((upd f67 0 0)) f72 x) = 0 then f74 else w_X11_does_74 f72 f74)))
def w_X11_say_72 (f67 : Nat → Int32) (f69 : Nat → Int32) (f70 : Nat → Int32) (f72 : Nat → Int32) (x : Int32) : Nat → Int32 := (if (a_X11_isCompliment ((upd f67 0 0)) x) = 0 then f72 else (if (a_X11_goesOn f72) = 0 then f72 else (if (a_X11_canTurn_72 ((upd f67 0 0)) f72 x) = 0 then f72 else w_X11_does_72 f69 f70 f72 x)))
theorem e_X11_say {l : Launch} {X : zX} {d : Nat} {μ : zH} {nc : Nat} {x : Int32} (hnc : μ 67 11 = nI nc) (hc8 : nc ≤ 8) (hT : ∀ c, c < 8 → nb (μ 70 (5 * c)) 4) (hR : RB (μ 72)) (hU : nb (μ 72 23) 64) : zRn l X mi_X11_say (d + 10) [.inr 67, .inl (x)] (zSH, μ) (some (.inl (a_X11_say (μ 67) (μ 69) (μ 70) (μ 72) x))) (zSH, (zhs (zhs (zhs μ 67 (w_X11_say_67 (μ 67))) 74 (w_X11_say_74 (μ 67) (μ 72) (μ 74) x)) 72 (w_X11_say_72 (μ 67) (μ 69) (μ 70) (μ 72) x))) := by
  have hO := hR.1
  refine pv_aload_n (i := 0) t_X11_say_0 rfl rfl ?_
  refine pv_iconst (v := 0) t_X11_say_1 zi_0 ?_
  refine sv_putI ((zhs μ 67 ((upd (μ 67) 0 0)))) t_X11_say_2 fl_X11_69 zfn_10_0 hh_67 rfl rfl ?_
  refine pv_aload_n (i := 0) t_X11_say_5 rfl rfl ?_
  refine pv_iload_n (i := 1) t_X11_say_6 rfl rfl ?_
  refine sv_V1 (a_X11_isCompliment ((upd (μ 67) 0 0)) x) ((zhs μ 67 ((upd (μ 67) 0 0)))) t_X11_say_7 ml_X11_169 mo_X11_isCompliment hh_67 rfl (Nat.le_of_ble_eq_true rfl) (e_X11_isCompliment) (Nat.le_of_ble_eq_true rfl) rfl rfl ?_
  refine pv_if_ne t_X11_say_10 (fun c10 => ?_) (fun c10 => ?_)
  · skip
    obtain ⟨hx1, hx2⟩ := (isc (f := μ 67) hnc hc8 c10).2
    refine pv_aload_n (i := 0) t_X11_say_16 rfl rfl ?_
    refine sv_V0 (a_X11_goesOn (μ 72)) ((zhs μ 67 ((upd (μ 67) 0 0)))) t_X11_say_17 ml_X11_155 mo_X11_goesOn hh_67 rfl (Nat.le_of_ble_eq_true rfl) (e_X11_goesOn) (Nat.le_of_ble_eq_true rfl) rfl rfl ?_
    refine pv_if_eq t_X11_say_20 (fun c20 => ?_) (fun c20 => ?_)
    · skip
      refine pv_ldc t_X11_say_35 kc_X11_206 ?_
      exact pv_ireti t_X11_say_37 rfl (by unfold a_X11_say; rw [if_neg c10, if_pos c20]) (Prod.ext rfl (by have e67 : w_X11_say_67 (μ 67) = (upd (μ 67) 0 0) := (by unfold w_X11_say_67; rfl); have e74 : w_X11_say_74 (μ 67) (μ 72) (μ 74) x = (μ 74) := (by unfold w_X11_say_74; rw [if_neg c10, if_pos c20]); have e72 : w_X11_say_72 (μ 67) (μ 69) (μ 70) (μ 72) x = (μ 72) := (by unfold w_X11_say_72; rw [if_neg c10, if_pos c20]); show _ = (zhs (zhs (zhs μ 67 (w_X11_say_67 (μ 67))) 74 (w_X11_say_74 (μ 67) (μ 72) (μ 74) x)) 72 (w_X11_say_72 (μ 67) (μ 69) (μ 70) (μ 72) x)); symm; rw [e67, e74, e72]; rw [zhs_i2 (ν := (zhs μ 67 ((upd (μ 67) 0 0)))) (k := 74) (g := (μ 74)) rfl, zhs_i2 (ν := (zhs μ 67 ((upd (μ 67) 0 0)))) (k := 72) (g := (μ 72)) rfl]))
    · skip
      refine pv_aload_n (i := 0) t_X11_say_23 rfl rfl ?_
      refine pv_aload_n (i := 0) t_X11_say_24 rfl rfl ?_
      refine pv_getR t_X11_say_25 fl_X11_26 hh_67 rfl ?_
      refine pv_iload_n (i := 1) t_X11_say_28 rfl rfl ?_
      refine sv_V2 (a_X11_canTurn_72 ((upd (μ 67) 0 0)) (μ 72) x) ((zhs μ 67 ((upd (μ 67) 0 0)))) t_X11_say_29 ml_X11_202 mo_X11_canTurn hh_67 rfl (Nat.le_of_ble_eq_true rfl) (e_X11_canTurn_72 (by repeat (first | exact hO | refine OB.u ?_ (by unfold okW; omega)))) (Nat.le_of_ble_eq_true rfl) rfl rfl ?_
      refine pv_if_ne t_X11_say_32 (fun c32 => ?_) (fun c32 => ?_)
      · skip
        refine pv_aload_n (i := 0) t_X11_say_38 rfl rfl ?_
        refine pv_iload_n (i := 1) t_X11_say_39 rfl rfl ?_
        refine sv_WV1 ((zhs (zhs (zhs μ 67 ((upd (μ 67) 0 0))) 74 (w_X11_does_74 (μ 72) (μ 74))) 72 (w_X11_does_72 (μ 69) (μ 70) (μ 72) x))) t_X11_say_40 ml_X11_207 mo_X11_does hh_67 rfl (Nat.le_of_ble_eq_true rfl) (e_X11_does hT hR hU (Or.inr (Or.inr ⟨hx1, hx2⟩))) (Nat.le_of_ble_eq_true rfl) rfl ?_
        refine pv_aload_n (i := 0) t_X11_say_43 rfl rfl ?_
        refine pv_getR t_X11_say_44 fl_X11_26 hh_67 rfl ?_
        refine pv_bipush (v := 22) t_X11_say_47 zb_22 ?_
        refine sv_iald ((w_X11_does_72 (μ 69) (μ 70) (μ 72) x) 22) t_X11_say_49 (Or.inl hh_72) (zin (by decide)) rfl ?_
        exact pv_ireti t_X11_say_50 rfl (by unfold a_X11_say; rw [if_neg c10, if_neg c20, if_neg c32]) (Prod.ext rfl (by have e67 : w_X11_say_67 (μ 67) = (upd (μ 67) 0 0) := (by unfold w_X11_say_67; rfl); have e74 : w_X11_say_74 (μ 67) (μ 72) (μ 74) x = w_X11_does_74 (μ 72) (μ 74) := (by unfold w_X11_say_74; rw [if_neg c10, if_neg c20, if_neg c32]); have e72 : w_X11_say_72 (μ 67) (μ 69) (μ 70) (μ 72) x = w_X11_does_72 (μ 69) (μ 70) (μ 72) x := (by unfold w_X11_say_72; rw [if_neg c10, if_neg c20, if_neg c32]); show _ = (zhs (zhs (zhs μ 67 (w_X11_say_67 (μ 67))) 74 (w_X11_say_74 (μ 67) (μ 72) (μ 74) x)) 72 (w_X11_say_72 (μ 67) (μ 69) (μ 70) (μ 72) x)); symm; rw [e67, e74, e72]))
      · skip
        refine pv_ldc t_X11_say_35 kc_X11_206 ?_
        exact pv_ireti t_X11_say_37 rfl (by unfold a_X11_say; rw [if_neg c10, if_neg c20, if_pos c32]) (Prod.ext rfl (by have e67 : w_X11_say_67 (μ 67) = (upd (μ 67) 0 0) := (by unfold w_X11_say_67; rfl); have e74 : w_X11_say_74 (μ 67) (μ 72) (μ 74) x = (μ 74) := (by unfold w_X11_say_74; rw [if_neg c10, if_neg c20, if_pos c32]); have e72 : w_X11_say_72 (μ 67) (μ 69) (μ 70) (μ 72) x = (μ 72) := (by unfold w_X11_say_72; rw [if_neg c10, if_neg c20, if_pos c32]); show _ = (zhs (zhs (zhs μ 67 (w_X11_say_67 (μ 67))) 74 (w_X11_say_74 (μ 67) (μ 72) (μ 74) x)) 72 (w_X11_say_72 (μ 67) (μ 69) (μ 70) (μ 72) x)); symm; rw [e67, e74, e72]; rw [zhs_i2 (ν := (zhs μ 67 ((upd (μ 67) 0 0)))) (k := 74) (g := (μ 74)) rfl, zhs_i2 (ν := (zhs μ 67 ((upd (μ 67) 0 0)))) (k := 72) (g := (μ 72)) rfl]))
  · skip
    refine pv_ldc t_X11_say_13 kc_X11_165 ?_
    exact pv_ireti t_X11_say_15 rfl (by unfold a_X11_say; rw [if_pos c10]) (Prod.ext rfl (by have e67 : w_X11_say_67 (μ 67) = (upd (μ 67) 0 0) := (by unfold w_X11_say_67; rfl); have e74 : w_X11_say_74 (μ 67) (μ 72) (μ 74) x = (μ 74) := (by unfold w_X11_say_74; rw [if_pos c10]); have e72 : w_X11_say_72 (μ 67) (μ 69) (μ 70) (μ 72) x = (μ 72) := (by unfold w_X11_say_72; rw [if_pos c10]); show _ = (zhs (zhs (zhs μ 67 (w_X11_say_67 (μ 67))) 74 (w_X11_say_74 (μ 67) (μ 72) (μ 74) x)) 72 (w_X11_say_72 (μ 67) (μ 69) (μ 70) (μ 72) x)); symm; rw [e67, e74, e72]; rw [zhs_i2 (ν := (zhs μ 67 ((upd (μ 67) 0 0)))) (k := 74) (g := (μ 74)) rfl, zhs_i2 (ν := (zhs μ 67 ((upd (μ 67) 0 0)))) (k := 72) (g := (μ 72)) rfl]))
def a_X11_pass (f69 : Nat → Int32) (f70 : Nat → Int32) (f72 : Nat → Int32) : Int32 := (if (a_X11_goesOn f72) = 0 then (-1000000003) else (w_X11_does_72 f69 f70 f72 8) 22)
def w_X11_pass_67 (f67 : Nat → Int32) : Nat → Int32 := (upd f67 0 0)
def w_X11_pass_74 (f72 : Nat → Int32) (f74 : Nat → Int32) : Nat → Int32 := (if (a_X11_goesOn f72) = 0 then f74 else w_X11_does_74 f72 f74)
def w_X11_pass_72 (f69 : Nat → Int32) (f70 : Nat → Int32) (f72 : Nat → Int32) : Nat → Int32 := (if (a_X11_goesOn f72) = 0 then f72 else w_X11_does_72 f69 f70 f72 8)
theorem e_X11_pass {l : Launch} {X : zX} {d : Nat} {μ : zH} (hT : ∀ c, c < 8 → nb (μ 70 (5 * c)) 4) (hR : RB (μ 72)) (hU : nb (μ 72 23) 64) : zRn l X mi_X11_pass (d + 10) [.inr 67] (zSH, μ) (some (.inl (a_X11_pass (μ 69) (μ 70) (μ 72)))) (zSH, (zhs (zhs (zhs μ 67 (w_X11_pass_67 (μ 67))) 74 (w_X11_pass_74 (μ 72) (μ 74))) 72 (w_X11_pass_72 (μ 69) (μ 70) (μ 72)))) := by
  have hO := hR.1
  refine pv_aload_n (i := 0) t_X11_pass_0 rfl rfl ?_
  refine pv_iconst (v := 0) t_X11_pass_1 zi_0 ?_
  refine sv_putI ((zhs μ 67 ((upd (μ 67) 0 0)))) t_X11_pass_2 fl_X11_69 zfn_10_0 hh_67 rfl rfl ?_
  refine pv_aload_n (i := 0) t_X11_pass_5 rfl rfl ?_
  refine sv_V0 (a_X11_goesOn (μ 72)) ((zhs μ 67 ((upd (μ 67) 0 0)))) t_X11_pass_6 ml_X11_155 mo_X11_goesOn hh_67 rfl (Nat.le_of_ble_eq_true rfl) (e_X11_goesOn) (Nat.le_of_ble_eq_true rfl) rfl rfl ?_
  refine pv_if_ne t_X11_pass_9 (fun c9 => ?_) (fun c9 => ?_)
  · skip
    refine pv_aload_n (i := 0) t_X11_pass_15 rfl rfl ?_
    refine pv_bipush (v := 8) t_X11_pass_16 zb_8 ?_
    refine sv_WV1 ((zhs (zhs (zhs μ 67 ((upd (μ 67) 0 0))) 74 (w_X11_does_74 (μ 72) (μ 74))) 72 (w_X11_does_72 (μ 69) (μ 70) (μ 72) 8))) t_X11_pass_18 ml_X11_207 mo_X11_does hh_67 rfl (Nat.le_of_ble_eq_true rfl) (e_X11_does hT hR hU (Or.inr (Or.inl rfl))) (Nat.le_of_ble_eq_true rfl) rfl ?_
    refine pv_aload_n (i := 0) t_X11_pass_21 rfl rfl ?_
    refine pv_getR t_X11_pass_22 fl_X11_26 hh_67 rfl ?_
    refine pv_bipush (v := 22) t_X11_pass_25 zb_22 ?_
    refine sv_iald ((w_X11_does_72 (μ 69) (μ 70) (μ 72) 8) 22) t_X11_pass_27 (Or.inl hh_72) (zin (by decide)) rfl ?_
    exact pv_ireti t_X11_pass_28 rfl (by unfold a_X11_pass; rw [if_neg c9]) (Prod.ext rfl (by have e67 : w_X11_pass_67 (μ 67) = (upd (μ 67) 0 0) := (by unfold w_X11_pass_67; rfl); have e74 : w_X11_pass_74 (μ 72) (μ 74) = w_X11_does_74 (μ 72) (μ 74) := (by unfold w_X11_pass_74; rw [if_neg c9]); have e72 : w_X11_pass_72 (μ 69) (μ 70) (μ 72) = w_X11_does_72 (μ 69) (μ 70) (μ 72) 8 := (by unfold w_X11_pass_72; rw [if_neg c9]); show _ = (zhs (zhs (zhs μ 67 (w_X11_pass_67 (μ 67))) 74 (w_X11_pass_74 (μ 72) (μ 74))) 72 (w_X11_pass_72 (μ 69) (μ 70) (μ 72))); symm; rw [e67, e74, e72]))
  · skip
    refine pv_ldc t_X11_pass_12 kc_X11_206 ?_
    exact pv_ireti t_X11_pass_14 rfl (by unfold a_X11_pass; rw [if_pos c9]) (Prod.ext rfl (by have e67 : w_X11_pass_67 (μ 67) = (upd (μ 67) 0 0) := (by unfold w_X11_pass_67; rfl); have e74 : w_X11_pass_74 (μ 72) (μ 74) = (μ 74) := (by unfold w_X11_pass_74; rw [if_pos c9]); have e72 : w_X11_pass_72 (μ 69) (μ 70) (μ 72) = (μ 72) := (by unfold w_X11_pass_72; rw [if_pos c9]); show _ = (zhs (zhs (zhs μ 67 (w_X11_pass_67 (μ 67))) 74 (w_X11_pass_74 (μ 72) (μ 74))) 72 (w_X11_pass_72 (μ 69) (μ 70) (μ 72))); symm; rw [e67, e74, e72]; rw [zhs_i2 (ν := (zhs μ 67 ((upd (μ 67) 0 0)))) (k := 74) (g := (μ 74)) rfl, zhs_i2 (ν := (zhs μ 67 ((upd (μ 67) 0 0)))) (k := 72) (g := (μ 72)) rfl]))
def a_X11_sorr (f67 : Nat → Int32) (f69 : Nat → Int32) (f70 : Nat → Int32) (f72 : Nat → Int32) : Int32 := (if (a_X11_goesOn f72) = 0 then (-1000000003) else (if (a_X11_canTurn_72 ((upd f67 0 0)) f72 9) = 0 then (-1000000003) else (w_X11_does_72 f69 f70 f72 9) ((29 + (f72 24).toNatClampNeg))))
def w_X11_sorr_67 (f67 : Nat → Int32) : Nat → Int32 := (upd f67 0 0)
def w_X11_sorr_74 (f67 : Nat → Int32) (f72 : Nat → Int32) (f74 : Nat → Int32) : Nat → Int32 := (if (a_X11_goesOn f72) = 0 then f74 else (if (a_X11_canTurn_72 ((upd f67 0 0)) f72 9) = 0 then f74 else w_X11_does_74 f72 f74))
def w_X11_sorr_72 (f67 : Nat → Int32) (f69 : Nat → Int32) (f70 : Nat → Int32) (f72 : Nat → Int32) : Nat → Int32 := (if (a_X11_goesOn f72) = 0 then f72 else (if (a_X11_canTurn_72 ((upd f67 0 0)) f72 9) = 0 then f72 else w_X11_does_72 f69 f70 f72 9))
theorem e_X11_sorr {l : Launch} {X : zX} {d : Nat} {μ : zH} (hT : ∀ c, c < 8 → nb (μ 70 (5 * c)) 4) (hR : RB (μ 72)) (hU : nb (μ 72 23) 64) : zRn l X mi_X11_sorr (d + 10) [.inr 67] (zSH, μ) (some (.inl (a_X11_sorr (μ 67) (μ 69) (μ 70) (μ 72)))) (zSH, (zhs (zhs (zhs μ 67 (w_X11_sorr_67 (μ 67))) 74 (w_X11_sorr_74 (μ 67) (μ 72) (μ 74))) 72 (w_X11_sorr_72 (μ 67) (μ 69) (μ 70) (μ 72)))) := by
  have hO := hR.1
  have hs1 := hR.1.2.1.1
  refine pv_aload_n (i := 0) t_X11_sorr_0 rfl rfl ?_
  refine pv_iconst (v := 0) t_X11_sorr_1 zi_0 ?_
  refine sv_putI ((zhs μ 67 ((upd (μ 67) 0 0)))) t_X11_sorr_2 fl_X11_69 zfn_10_0 hh_67 rfl rfl ?_
  refine pv_aload_n (i := 0) t_X11_sorr_5 rfl rfl ?_
  refine sv_V0 (a_X11_goesOn (μ 72)) ((zhs μ 67 ((upd (μ 67) 0 0)))) t_X11_sorr_6 ml_X11_155 mo_X11_goesOn hh_67 rfl (Nat.le_of_ble_eq_true rfl) (e_X11_goesOn) (Nat.le_of_ble_eq_true rfl) rfl rfl ?_
  refine pv_if_eq t_X11_sorr_9 (fun c9 => ?_) (fun c9 => ?_)
  · skip
    refine pv_ldc t_X11_sorr_25 kc_X11_206 ?_
    exact pv_ireti t_X11_sorr_27 rfl (by unfold a_X11_sorr; rw [if_pos c9]) (Prod.ext rfl (by have e67 : w_X11_sorr_67 (μ 67) = (upd (μ 67) 0 0) := (by unfold w_X11_sorr_67; rfl); have e74 : w_X11_sorr_74 (μ 67) (μ 72) (μ 74) = (μ 74) := (by unfold w_X11_sorr_74; rw [if_pos c9]); have e72 : w_X11_sorr_72 (μ 67) (μ 69) (μ 70) (μ 72) = (μ 72) := (by unfold w_X11_sorr_72; rw [if_pos c9]); show _ = (zhs (zhs (zhs μ 67 (w_X11_sorr_67 (μ 67))) 74 (w_X11_sorr_74 (μ 67) (μ 72) (μ 74))) 72 (w_X11_sorr_72 (μ 67) (μ 69) (μ 70) (μ 72))); symm; rw [e67, e74, e72]; rw [zhs_i2 (ν := (zhs μ 67 ((upd (μ 67) 0 0)))) (k := 74) (g := (μ 74)) rfl, zhs_i2 (ν := (zhs μ 67 ((upd (μ 67) 0 0)))) (k := 72) (g := (μ 72)) rfl]))
  · skip
    refine pv_aload_n (i := 0) t_X11_sorr_12 rfl rfl ?_
    refine pv_aload_n (i := 0) t_X11_sorr_13 rfl rfl ?_
    refine pv_getR t_X11_sorr_14 fl_X11_26 hh_67 rfl ?_
    refine pv_bipush (v := 9) t_X11_sorr_17 zb_9 ?_
    refine sv_V2 (a_X11_canTurn_72 ((upd (μ 67) 0 0)) (μ 72) 9) ((zhs μ 67 ((upd (μ 67) 0 0)))) t_X11_sorr_19 ml_X11_202 mo_X11_canTurn hh_67 rfl (Nat.le_of_ble_eq_true rfl) (e_X11_canTurn_72 (by repeat (first | exact hO | refine OB.u ?_ (by unfold okW; omega)))) (Nat.le_of_ble_eq_true rfl) rfl rfl ?_
    refine pv_if_ne t_X11_sorr_22 (fun c22 => ?_) (fun c22 => ?_)
    · skip
      refine pv_aload_n (i := 0) t_X11_sorr_28 rfl rfl ?_
      refine pv_getR t_X11_sorr_29 fl_X11_26 hh_67 rfl ?_
      refine pv_bipush (v := 24) t_X11_sorr_32 zb_24 ?_
      refine sv_iald ((μ 72) 24) t_X11_sorr_34 (Or.inl hh_72) (zin (by decide)) rfl ?_
      refine pv_istore_n (i := 1) t_X11_sorr_35 rfl (Nat.le_of_ble_eq_true rfl) ?_
      refine pv_aload_n (i := 0) t_X11_sorr_36 rfl rfl ?_
      refine pv_bipush (v := 9) t_X11_sorr_37 zb_9 ?_
      refine sv_WV1 ((zhs (zhs (zhs μ 67 ((upd (μ 67) 0 0))) 74 (w_X11_does_74 (μ 72) (μ 74))) 72 (w_X11_does_72 (μ 69) (μ 70) (μ 72) 9))) t_X11_sorr_39 ml_X11_207 mo_X11_does hh_67 rfl (Nat.le_of_ble_eq_true rfl) (e_X11_does hT hR hU (Or.inl rfl)) (Nat.le_of_ble_eq_true rfl) rfl ?_
      refine pv_aload_n (i := 0) t_X11_sorr_42 rfl rfl ?_
      refine pv_getR t_X11_sorr_43 fl_X11_26 hh_67 rfl ?_
      refine pv_bipush (v := 29) t_X11_sorr_46 zb_29 ?_
      refine pv_iload_n (i := 1) t_X11_sorr_48 rfl rfl ?_
      refine pv_iadd t_X11_sorr_49 ?_
      refine sv_iald ((w_X11_does_72 (μ 69) (μ 70) (μ 72) 9) ((29 + ((μ 72) 24).toNatClampNeg))) t_X11_sorr_50 (Or.inl hh_72) (ixi (k := (29 + ((μ 72) 24).toNatClampNeg)) (nIa rfl (nb_k hR.1.2.1)) (by omega) (by decide)) ((ixe (k := (29 + ((μ 72) 24).toNatClampNeg)) (nIa rfl (nb_k hR.1.2.1)) (by omega)).trans (by first | rfl | (simp only [zhs_s, pk_us]; done) | (simp [zhs, upd]; done))) ?_
      exact pv_ireti t_X11_sorr_51 rfl (by unfold a_X11_sorr; rw [if_neg c9, if_neg c22]) (Prod.ext rfl (by have e67 : w_X11_sorr_67 (μ 67) = (upd (μ 67) 0 0) := (by unfold w_X11_sorr_67; rfl); have e74 : w_X11_sorr_74 (μ 67) (μ 72) (μ 74) = w_X11_does_74 (μ 72) (μ 74) := (by unfold w_X11_sorr_74; rw [if_neg c9, if_neg c22]); have e72 : w_X11_sorr_72 (μ 67) (μ 69) (μ 70) (μ 72) = w_X11_does_72 (μ 69) (μ 70) (μ 72) 9 := (by unfold w_X11_sorr_72; rw [if_neg c9, if_neg c22]); show _ = (zhs (zhs (zhs μ 67 (w_X11_sorr_67 (μ 67))) 74 (w_X11_sorr_74 (μ 67) (μ 72) (μ 74))) 72 (w_X11_sorr_72 (μ 67) (μ 69) (μ 70) (μ 72))); symm; rw [e67, e74, e72]))
    · skip
      refine pv_ldc t_X11_sorr_25 kc_X11_206 ?_
      exact pv_ireti t_X11_sorr_27 rfl (by unfold a_X11_sorr; rw [if_neg c9, if_pos c22]) (Prod.ext rfl (by have e67 : w_X11_sorr_67 (μ 67) = (upd (μ 67) 0 0) := (by unfold w_X11_sorr_67; rfl); have e74 : w_X11_sorr_74 (μ 67) (μ 72) (μ 74) = (μ 74) := (by unfold w_X11_sorr_74; rw [if_neg c9, if_pos c22]); have e72 : w_X11_sorr_72 (μ 67) (μ 69) (μ 70) (μ 72) = (μ 72) := (by unfold w_X11_sorr_72; rw [if_neg c9, if_pos c22]); show _ = (zhs (zhs (zhs μ 67 (w_X11_sorr_67 (μ 67))) 74 (w_X11_sorr_74 (μ 67) (μ 72) (μ 74))) 72 (w_X11_sorr_72 (μ 67) (μ 69) (μ 70) (μ 72))); symm; rw [e67, e74, e72]; rw [zhs_i2 (ν := (zhs μ 67 ((upd (μ 67) 0 0)))) (k := 74) (g := (μ 74)) rfl, zhs_i2 (ν := (zhs μ 67 ((upd (μ 67) 0 0)))) (k := 72) (g := (μ 72)) rfl]))
