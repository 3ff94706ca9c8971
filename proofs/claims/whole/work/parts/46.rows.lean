theorem and7 (x : Int32) : nb (x &&& 7) 8 := by
  have h1 : (x &&& 7).toBitVec.toNat < 8 := by
    rw [Int32.toBitVec_and, BitVec.toNat_and]
    exact Nat.lt_of_le_of_lt Nat.and_le_right (by decide)
  have h2 : x &&& 7 = nI (x &&& 7).toBitVec.toNat := by
    apply Int32.toBitVec_inj.mp
    show _ = BitVec.ofNat 32 _
    rw [BitVec.ofNat_toNat, BitVec.setWidth_eq]
  generalize (x &&& 7).toBitVec.toNat = k at h1 h2
  rw [h2]
  exact nb_i h1 (by decide)
def irI_F (f70 : Nat → Int32) (g85 : Nat → Int32) (c0 : Nat) (i : Nat) (w : Int32) : Int32 := w + (if (f70 ((5 * (g85 i).toNatClampNeg))) = (f70 ((5 * c0))) then (1 : Int32) else (0 : Int32))
def irI (f70 : Nat → Int32) (g85 : Nat → Int32) (c0 : Nat) (z0 : Int32) : Nat → Int32 := zfold (fun i s => irI_F f70 g85 c0 i s) z0
theorem irI_nb {f70 g85 : Nat → Int32} {c0 : Nat} {z0 : Int32} (hz : nb z0 100) : ∀ i : Nat, i ≤ 4 → nb (irI f70 g85 c0 z0 i) (100 + i) := by
  intro i
  induction i with
  | zero => intro _; exact hz
  | succ i ih =>
    intro hi
    have h1 := ih (by omega)
    show nb (irI_F f70 g85 c0 i (irI f70 g85 c0 z0 i)) (100 + (i + 1))
    generalize irI f70 g85 c0 z0 i = w at h1
    unfold irI_F
    split
    · have h2 : w + 1 = nI (w.toNatClampNeg + 1) := by
        have h3 := congrArg (· + 1) h1.2
        exact h3.trans (nI_1 _)
      have := h1.1
      exact ⟨by rw [h2, nI_clamp (by omega)]; omega, by rw [h2, nI_clamp (by omega)]⟩
    · rw [Int32.add_zero]; exact ⟨Nat.lt_of_lt_of_le h1.1 (by omega), h1.2⟩
theorem lp_irI {l : Launch} {X : zX} {d : Nat} {μ : zH} {way : Int32} {pe : Int32} {sd : Int32} {bl : Int32} {me : Int32} {sh : Int32} {iz : Int32} {k0 : Nat} {c0 : Nat} {g85 : Nat → Int32} {z0 : Int32} (hk0 : k0 < 4) (hc : c0 < 8) (hrw : ∀ e, e < k0 → nb (g85 e) 8) (hw : nb z0 100) {r : Option zV} {S' : zS} (hk : zEv l X mi_X11_isRow (d + 7) 205 [(0, .inr 67), (1, .inl way), (2, .inl pe), (3, .inl sd), (4, .inl bl), (5, .inl me), (6, .inl sh), (7, .inl iz), (8, .inl ((nI k0))), (9, .inl ((nI c0))), (10, .inl ((irI (μ 70) g85 c0 z0 k0))), (11, .inl (nI k0))] [] (zSH, (zhs μ 85 g85)) 0 0 r S') : ∀ j i : Nat, i + j = k0 + 1 → i ≤ k0 → ∀ (y : Int32) (w : Int32), y = nI i → w = (irI (μ 70) g85 c0 z0 i) → zEv l X mi_X11_isRow (d + 7) 156 [(0, .inr 67), (1, .inl way), (2, .inl pe), (3, .inl sd), (4, .inl bl), (5, .inl me), (6, .inl sh), (7, .inl iz), (8, .inl ((nI k0))), (9, .inl ((nI c0))), (10, .inl w), (11, .inl y)] [] (zSH, (zhs μ 85 g85)) 0 0 r S' := by
  intro j
  induction j with
  | zero => intros; omega
  | succ j ih =>
    intro i hij hle y w hy hs
    subst hy
    refine pv_iload t_X11_isRow_156 rfl ?_
    refine pv_iload t_X11_isRow_158 rfl ?_
    refine pv_icmp_ge t_X11_isRow_160 (fun c160 => ?_) (fun c160 => ?_)
    · skip
      have hie : i = k0 := by have := (nI_leI (a := k0) (by omega) (by omega)).mp c160; omega
      subst hie
      rw [← hs] at hk
      exact hk
    · skip
      have hin : i < k0 := Nat.lt_of_not_le (fun q => c160 (nI_le (a := k0) q (by omega)))
      have hr1 := (hrw i hin).1
      refine pv_iload t_X11_isRow_163 rfl ?_
      refine pv_aload_n (i := 0) t_X11_isRow_165 rfl rfl ?_
      refine pv_getR t_X11_isRow_166 fl_X11_20 hh_67 rfl ?_
      refine pv_iconst (v := 5) t_X11_isRow_169 zi_5 ?_
      refine pv_aload_n (i := 0) t_X11_isRow_170 rfl rfl ?_
      refine pv_getR t_X11_isRow_171 fl_X11_66 hh_67 rfl ?_
      refine pv_iload t_X11_isRow_174 rfl ?_
      refine sv_iald (g85 i) t_X11_isRow_176 (Or.inl hh_85) (ixi (k := i) rfl (by omega) (by decide)) ((ixe (k := i) rfl (by omega)).trans (by first | rfl | (simp only [zhs_s, pk_us]; done) | (simp [zhs, upd]; done))) ?_
      refine pv_imul t_X11_isRow_177 ?_
      refine sv_iald ((μ 70) ((5 * (g85 i).toNatClampNeg))) t_X11_isRow_178 (Or.inl hh_70) (ixi (k := (5 * (g85 i).toNatClampNeg)) (nIm rfl (nb_k (hrw i hin))) (by omega) (by decide)) ((ixe (k := (5 * (g85 i).toNatClampNeg)) (nIm rfl (nb_k (hrw i hin))) (by omega)).trans (by first | rfl | (simp only [zhs_s, pk_us]; done) | (simp [zhs, upd]; done))) ?_
      refine pv_aload_n (i := 0) t_X11_isRow_179 rfl rfl ?_
      refine pv_getR t_X11_isRow_180 fl_X11_20 hh_67 rfl ?_
      refine pv_iconst (v := 5) t_X11_isRow_183 zi_5 ?_
      refine pv_iload t_X11_isRow_184 rfl ?_
      refine pv_imul t_X11_isRow_186 ?_
      refine sv_iald ((μ 70) ((5 * c0))) t_X11_isRow_187 (Or.inl hh_70) (ixi (k := (5 * c0)) (nIm rfl rfl) (by omega) (by decide)) ((ixe (k := (5 * c0)) (nIm rfl rfl) (by omega)).trans (by first | rfl | (simp only [zhs_s, pk_us]; done) | (simp [zhs, upd]; done))) ?_
      refine sv_phi (c := ((μ 70) ((5 * (g85 i).toNatClampNeg))) = ((μ 70) ((5 * c0)))) (A := 1) (B := 0) (J := 196) (lv := [(0, .inr 67), (1, .inl way), (2, .inl pe), (3, .inl sd), (4, .inl bl), (5, .inl me), (6, .inl sh), (7, .inl iz), (8, .inl ((nI k0))), (9, .inl ((nI c0))), (10, .inl w), (11, .inl ((nI i)))]) (st := [.inl w]) (S := (zSH, (zhs μ 85 g85))) (fun kT kF => ?_) ?_
      · skip
        refine pv_icmp_ne t_X11_isRow_188 (fun c188 => ?_) (fun c188 => ?_)
        · skip
          refine pv_iconst (v := 0) t_X11_isRow_195 zi_0 ?_
          exact kF c188
        · skip
          refine pv_iconst (v := 1) t_X11_isRow_191 zi_1 ?_
          refine pv_goto t_X11_isRow_192 ?_
          exact kT c188
      refine pv_iadd t_X11_isRow_196 ?_
      refine pv_istore t_X11_isRow_197 (Nat.le_of_ble_eq_true rfl) ?_
      refine pv_iinc (v := 1) t_X11_isRow_199 rfl zi_1 ?_
      refine pv_goto t_X11_isRow_202 ?_
      refine pv_loc (lv' := [(0, _), (1, _), (2, _), (3, _), (4, _), (5, _), (6, _), (7, _), (8, _), (9, _), (10, _), (11, _)]) ⟨rfl, rfl, rfl, rfl, rfl, rfl, rfl, rfl, rfl, rfl, rfl, rfl, trivial⟩ ?_
      refine ih (i + 1) (by omega) (by omega) _ _ (nI_1 i) ?_
      have hs9 : (irI (μ 70) g85 c0 z0 (i + 1)) = irI_F (μ 70) g85 c0 i ((irI (μ 70) g85 c0 z0 i)) := rfl
      rw [hs9, ← hs]
      show _ = irI_F (μ 70) g85 c0 i w
      unfold irI_F
      rfl
def irc (way sh : Int32) : Int32 := (way >>> ((sh + (-3)) &&& 31)) &&& 7
/-- may c be next: it is there, not yet said, not a foul -/
def irQ (f67 : Nat → Int32) (f70 : Nat → Int32) (f72 : Nat → Int32) (e0 : Nat) (cc me : Int32) : Int32 := if (a_X11_isCompliment f67 cc) = 0 then (0 : Int32) else (if ((me >>> (cc &&& 31)) &&& 1) = 0 then (if (a_X11_truthBy f70 (cc.toNatClampNeg) (f72 e0)) ≤ 0 then (0 : Int32) else (1 : Int32) : Int32) else (0 : Int32) : Int32)
/-- the cheeks behind c -/
def irB (f70 : Nat → Int32) (f72 : Nat → Int32) (e0 s0 i : Nat) (rw : Nat → Int32) (bl cc : Int32) : Int32 := (bl + (a_X11_effectBy f70 f72 (cc.toNatClampNeg) e0 (a_X11_vanityOf f72 e0 ((f70 ((5 * cc.toNatClampNeg))).toNatClampNeg)) (((irI f70 rw (cc.toNatClampNeg) (f72 (((33 + (4 * s0)) + (f70 ((5 * cc.toNatClampNeg))).toNatClampNeg))) i)).toNatClampNeg)))
def irD (f69 : Nat → Int32) (e0 : Nat) (b : Int32) : Int32 := if f69 (6 * e0 + 1) ≤ b then b - f69 (6 * e0 + 1) else 0
def irS (f67 : Nat → Int32) (f69 : Nat → Int32) (f70 : Nat → Int32) (f72 : Nat → Int32) (f79 : Nat → Int32) (e0 s0 : Nat) (way : Int32) : Nat → Nat → Int32 → Int32 → Int32 → (Nat → Int32) → Int32 × (Nat → Int32)
  | 0, _, _, _, _, rw => (1, rw)
  | j + 1, i, bl, me, sh, rw => if irQ f67 f70 f72 e0 (irc way sh) me = 0 then (0, upd rw i (irc way sh)) else if irB f70 f72 e0 s0 i (upd rw i (irc way sh)) bl (irc way sh) = f79 i then irS f67 f69 f70 f72 f79 e0 s0 way j (i + 1) (irD f69 e0 (irB f70 f72 e0 s0 i (upd rw i (irc way sh)) bl (irc way sh))) (me ||| (1 <<< (nI (irc way sh).toNatClampNeg &&& 31))) (sh + (-3)) (upd rw i (irc way sh)) else (0, upd rw i (irc way sh))

theorem irR0 {rw : Nat → Int32} {i : Nat} {c : Int32} (hrw : ∀ e, e < i → nb (rw e) 8) : ∀ e, e < i → nb (upd rw i c e) 8 := fun e he => by rw [upn (by omega)]; exact hrw e he
theorem irR {rw : Nat → Int32} {i : Nat} {x : Int32} (hrw : ∀ e, e < i → nb (rw e) 8) : ∀ e, e < i + 1 → nb (upd rw i (x &&& 7) e) 8 := fun e he => by
  by_cases h : e = i
  · subst h; rw [ups]; exact and7 x
  · rw [upn h]; exact hrw e (by omega)
theorem ir_end {l : Launch} {X : zX} {d : Nat} {μ : zH} {kc i : Nat} {rw : Nat → Int32} (hkc : μ 67 26 = nI kc) (hk4 : kc ≤ 4) (hi : i ≤ kc) {rr : Option zV} {S' : zS} (hk : zEv l X mi_X11_isRow (d + 7) 303 [(0, .inr 67), (7, .inl 0)] [] (zSH, zhs μ 85 rw) 0 0 rr S') : zEv l X mi_X11_isRow (d + 7) 49 [(0, .inr 67), (7, .inl 0), (8, .inl (nI i))] [] (zSH, zhs μ 85 rw) 0 0 rr S' := by
  refine pv_iload t_X11_isRow_49 rfl ?_
  refine pv_aload_n (i := 0) t_X11_isRow_51 rfl rfl ?_
  refine sv_getI (nI kc) t_X11_isRow_52 fl_X11_146 hh_67 rfl hkc ?_
  refine pv_icmp_ge t_X11_isRow_55 (fun c55 => ?_) (fun c55 => ?_)
  · skip
    refine pv_loc (lv' := [(0, .inr 67), (7, .inl 0)]) ⟨rfl, rfl, trivial⟩ ?_
    exact hk
  · skip
    refine pv_iload t_X11_isRow_58 rfl ?_
    refine pv_if_eq t_X11_isRow_60 (fun c60 => ?_) (fun c60 => absurd (by decide) c60)
    refine pv_loc (lv' := [(0, .inr 67), (7, .inl 0)]) ⟨rfl, rfl, trivial⟩ ?_
    exact hk
theorem lp_X11_isRow {l : Launch} {X : zX} {d : Nat} {μ : zH} {e0 s0 kc : Nat} {way : Int32} (hkc : μ 67 26 = nI kc) (hk4 : kc ≤ 4) (he : e0 < 4) (hs : s0 < 2) (hT : ∀ c, c < 8 → nb (μ 70 (5 * c)) 4) (hTm : ∀ i, 33 ≤ i → i < 41 → nb (μ 72 i) 100) {rr : Option zV} {S' : zS} : ∀ j i : Nat, i + j = kc + 1 → i ≤ kc → ∀ (y bl me sh : Int32) (rw : Nat → Int32), y = nI i → (∀ e, e < i → nb (rw e) 8) → (zEv l X mi_X11_isRow (d + 7) 303 [(0, .inr 67), (7, .inl (irS (μ 67) (μ 69) (μ 70) (μ 72) (μ 79) e0 s0 way (kc - i) i bl me sh rw).1)] [] (zSH, zhs μ 85 (irS (μ 67) (μ 69) (μ 70) (μ 72) (μ 79) e0 s0 way (kc - i) i bl me sh rw).2) 0 0 rr S') → zEv l X mi_X11_isRow (d + 7) 49 [(0, .inr 67), (1, .inl way), (2, .inl (nI e0)), (3, .inl (nI s0)), (4, .inl bl), (5, .inl me), (6, .inl sh), (7, .inl 1), (8, .inl y)] [] (zSH, zhs μ 85 rw) 0 0 rr S' := by
  intro j
  induction j with
  | zero => intro i h h2; omega
  | succ j ih =>
    intro i hij hle y bl me sh rw hy hrw hk
    subst hy
    refine pv_iload t_X11_isRow_49 rfl ?_
    refine pv_aload_n (i := 0) t_X11_isRow_51 rfl rfl ?_
    refine sv_getI (nI kc) t_X11_isRow_52 fl_X11_146 hh_67 rfl hkc ?_
    refine pv_icmp_ge t_X11_isRow_55 (fun c55 => ?_) (fun c55 => ?_)
    · skip
      have hie : i = kc := by have := (nI_leI (by omega) (by omega)).mp c55; omega
      subst hie
      rw [Nat.sub_self, irS] at hk
      refine pv_loc (lv' := [(0, .inr 67), (7, .inl 1)]) ⟨rfl, rfl, trivial⟩ ?_
      exact hk
    · skip
      have hin : i < kc := Nat.lt_of_not_le (fun q => c55 (nI_le q (by omega)))
      refine pv_iload t_X11_isRow_58 rfl ?_
      refine pv_if_eq t_X11_isRow_60 (fun c60 => absurd c60 (by decide)) (fun c60 => ?_)
      refine pv_iinc (v := -3) t_X11_isRow_63 rfl zi_m3 ?_
      refine pv_iload_n (i := 1) t_X11_isRow_66 rfl rfl ?_
      refine pv_iload t_X11_isRow_67 rfl ?_
      refine pv_ishr t_X11_isRow_69 ?_
      refine pv_bipush (v := 7) t_X11_isRow_70 zb_7 ?_
      refine pv_iand t_X11_isRow_72 ?_
      refine pv_istore t_X11_isRow_73 (Nat.le_of_ble_eq_true rfl) ?_
      refine pv_aload_n (i := 0) t_X11_isRow_75 rfl rfl ?_
      refine pv_getR t_X11_isRow_76 fl_X11_66 hh_67 rfl ?_
      refine pv_iload t_X11_isRow_79 rfl ?_
      refine pv_iload t_X11_isRow_81 rfl ?_
      refine sv_iast ((zhs μ 85 ((upd rw i ((way >>> ((sh + (-3)) &&& 31)) &&& 7))))) t_X11_isRow_83 hh_85 (ixi (k := i) rfl (by omega) (by decide)) (by rw [ixc (x := (nI i)) (k := i) rfl (by omega), zhs_hs] <;> (first | rfl | (congr 1; funext k_; simp only [upd]; ((repeat' split) <;> first | rfl | (simp_all; done))))) ?_
      have hc9 : ((way >>> ((sh + (-3)) &&& 31)) &&& 7).toNatClampNeg < 8 := (and7 _).1
      refine pv_aload_n (i := 0) t_X11_isRow_84 rfl rfl ?_
      refine pv_iload t_X11_isRow_85 rfl ?_
      refine sv_V1 (a_X11_isCompliment (μ 67) ((way >>> ((sh + (-3)) &&& 31)) &&& 7)) ((zhs μ 85 ((upd rw i ((way >>> ((sh + (-3)) &&& 31)) &&& 7))))) t_X11_isRow_87 ml_X11_169 mo_X11_isCompliment hh_67 rfl (Nat.le_of_ble_eq_true rfl) (e_X11_isCompliment) (Nat.le_of_ble_eq_true rfl) rfl rfl ?_
      refine sv_phi (c := (a_X11_isCompliment (μ 67) ((way >>> ((sh + (-3)) &&& 31)) &&& 7)) = 0) (A := 0) (B := if ((me >>> (((way >>> ((sh + (-3)) &&& 31)) &&& 7) &&& 31)) &&& 1) = 0 then (if (a_X11_truthBy (μ 70) (((way >>> ((sh + (-3)) &&& 31)) &&& 7).toNatClampNeg) ((μ 72) e0)) ≤ 0 then (0 : Int32) else (1 : Int32) : Int32) else (0 : Int32)) (J := 123) (lv := [(0, .inr 67), (1, .inl way), (2, .inl ((nI e0))), (3, .inl ((nI s0))), (4, .inl bl), (5, .inl me), (6, .inl (sh + (-3))), (7, .inl 1), (8, .inl ((nI i))), (9, .inl ((way >>> ((sh + (-3)) &&& 31)) &&& 7))]) (st := []) (S := (zSH, (zhs μ 85 ((upd rw i ((way >>> ((sh + (-3)) &&& 31)) &&& 7)))))) (fun kT kF => ?_) ?_
      · skip
        refine pv_if_eq t_X11_isRow_90 (fun c90 => ?_) (fun c90 => ?_)
        · skip
          refine pv_iconst (v := 0) t_X11_isRow_122 zi_0 ?_
          exact kT c90
        · skip
          refine pv_iload t_X11_isRow_93 rfl ?_
          refine pv_iload t_X11_isRow_95 rfl ?_
          refine pv_ishr t_X11_isRow_97 ?_
          refine pv_iconst (v := 1) t_X11_isRow_98 zi_1 ?_
          refine pv_iand t_X11_isRow_99 ?_
          refine sv_phi (c := ((me >>> (((way >>> ((sh + (-3)) &&& 31)) &&& 7) &&& 31)) &&& 1) = 0) (A := if (a_X11_truthBy (μ 70) (((way >>> ((sh + (-3)) &&& 31)) &&& 7).toNatClampNeg) ((μ 72) e0)) ≤ 0 then (0 : Int32) else (1 : Int32)) (B := 0) (J := 123) (lv := [(0, .inr 67), (1, .inl way), (2, .inl ((nI e0))), (3, .inl ((nI s0))), (4, .inl bl), (5, .inl me), (6, .inl (sh + (-3))), (7, .inl 1), (8, .inl ((nI i))), (9, .inl ((way >>> ((sh + (-3)) &&& 31)) &&& 7))]) (st := []) (S := (zSH, (zhs μ 85 ((upd rw i ((way >>> ((sh + (-3)) &&& 31)) &&& 7)))))) (fun kT kF => ?_) ?_
          · skip
            refine pv_if_ne t_X11_isRow_100 (fun c100 => ?_) (fun c100 => ?_)
            · skip
              refine pv_iconst (v := 0) t_X11_isRow_122 zi_0 ?_
              exact kF c100
            · skip
              refine pv_aload_n (i := 0) t_X11_isRow_103 rfl rfl ?_
              refine pv_iload t_X11_isRow_104 rfl ?_
              refine pv_aload_n (i := 0) t_X11_isRow_106 rfl rfl ?_
              refine pv_getR t_X11_isRow_107 fl_X11_26 hh_67 rfl ?_
              refine pv_iload_n (i := 2) t_X11_isRow_110 rfl rfl ?_
              refine sv_iald ((μ 72) e0) t_X11_isRow_111 (Or.inl hh_72) (ixi (k := e0) rfl (by omega) (by decide)) ((ixe (k := e0) rfl (by omega)).trans (by first | rfl | (simp only [zhs_s, pk_us]; done) | (simp [zhs, upd]; done))) ?_
              refine sv_V2 (a_X11_truthBy (μ 70) (((way >>> ((sh + (-3)) &&& 31)) &&& 7).toNatClampNeg) ((μ 72) e0)) ((zhs μ 85 ((upd rw i ((way >>> ((sh + (-3)) &&& 31)) &&& 7))))) t_X11_isRow_112 ml_X11_175 mo_X11_truthBy hh_67 rfl (Nat.le_of_ble_eq_true rfl) (zas (lcS (lcI (k := ((way >>> ((sh + (-3)) &&& 31)) &&& 7).toNatClampNeg) (and7 _).2 (lcS rfl))) (e_X11_truthBy (c := ((way >>> ((sh + (-3)) &&& 31)) &&& 7).toNatClampNeg) (by omega))) (Nat.le_of_ble_eq_true rfl) rfl rfl ?_
              refine sv_phi (c := (a_X11_truthBy (μ 70) (((way >>> ((sh + (-3)) &&& 31)) &&& 7).toNatClampNeg) ((μ 72) e0)) ≤ 0) (A := 0) (B := 1) (J := 123) (lv := [(0, .inr 67), (1, .inl way), (2, .inl ((nI e0))), (3, .inl ((nI s0))), (4, .inl bl), (5, .inl me), (6, .inl (sh + (-3))), (7, .inl 1), (8, .inl ((nI i))), (9, .inl ((way >>> ((sh + (-3)) &&& 31)) &&& 7))]) (st := []) (S := (zSH, (zhs μ 85 ((upd rw i ((way >>> ((sh + (-3)) &&& 31)) &&& 7)))))) (fun kT kF => ?_) ?_
              · skip
                refine pv_if_le t_X11_isRow_115 (fun c115 => ?_) (fun c115 => ?_)
                · skip
                  refine pv_iconst (v := 0) t_X11_isRow_122 zi_0 ?_
                  exact kT c115
                · skip
                  refine pv_iconst (v := 1) t_X11_isRow_118 zi_1 ?_
                  refine pv_goto t_X11_isRow_119 ?_
                  exact kF c115
              exact kT c100
          exact kF c90
      refine pv_istore t_X11_isRow_123 (Nat.le_of_ble_eq_true rfl) ?_
      refine pv_iload t_X11_isRow_125 rfl ?_
      refine pv_if_eq t_X11_isRow_127 (fun c127 => ?_) (fun c127 => ?_)
      · skip
        refine pv_iinc (v := 1) t_X11_isRow_297 rfl zi_1 ?_
        refine pv_goto t_X11_isRow_300 ?_
        rw [show kc - i = (kc - (i + 1)) + 1 by omega, irS, if_pos (show irQ (μ 67) (μ 70) (μ 72) e0 (irc way sh) me = 0 from c127)] at hk
        refine pv_loc (lv' := [(0, .inr 67), (7, _), (8, _)]) ⟨rfl, rfl, rfl, trivial⟩ ?_
        rw [c127, nI_1]
        exact ir_end hkc hk4 (by omega) hk
      · skip
        refine pv_aload_n (i := 0) t_X11_isRow_130 rfl rfl ?_
        refine pv_getR t_X11_isRow_131 fl_X11_26 hh_67 rfl ?_
        refine pv_bipush (v := 33) t_X11_isRow_134 zb_33 ?_
        refine pv_iconst (v := 4) t_X11_isRow_136 zi_4 ?_
        refine pv_iload_n (i := 3) t_X11_isRow_137 rfl rfl ?_
        refine pv_imul t_X11_isRow_138 ?_
        refine pv_iadd t_X11_isRow_139 ?_
        refine pv_aload_n (i := 0) t_X11_isRow_140 rfl rfl ?_
        refine pv_getR t_X11_isRow_141 fl_X11_20 hh_67 rfl ?_
        refine pv_iconst (v := 5) t_X11_isRow_144 zi_5 ?_
        refine pv_iload t_X11_isRow_145 rfl ?_
        refine pv_imul t_X11_isRow_147 ?_
        refine sv_iald ((μ 70) ((5 * ((way >>> ((sh + (-3)) &&& 31)) &&& 7).toNatClampNeg))) t_X11_isRow_148 (Or.inl hh_70) (ixi (k := (5 * ((way >>> ((sh + (-3)) &&& 31)) &&& 7).toNatClampNeg)) (nIm rfl (and7 _).2) (by omega) (by decide)) ((ixe (k := (5 * ((way >>> ((sh + (-3)) &&& 31)) &&& 7).toNatClampNeg)) (nIm rfl (and7 _).2) (by omega)).trans (by first | rfl | (simp only [zhs_s, pk_us]; done) | (simp [zhs, upd]; done))) ?_
        have ht9 : ((μ 70) ((5 * ((way >>> ((sh + (-3)) &&& 31)) &&& 7).toNatClampNeg))).toNatClampNeg < 4 := (hT _ (by omega)).1
        refine pv_iadd t_X11_isRow_149 ?_
        refine sv_iald ((μ 72) (((33 + (4 * s0)) + ((μ 70) ((5 * ((way >>> ((sh + (-3)) &&& 31)) &&& 7).toNatClampNeg))).toNatClampNeg))) t_X11_isRow_150 (Or.inl hh_72) (ixi (k := ((33 + (4 * s0)) + ((μ 70) ((5 * ((way >>> ((sh + (-3)) &&& 31)) &&& 7).toNatClampNeg))).toNatClampNeg)) (nIa (nIa rfl (nIm rfl rfl)) (nb_k (hT _ (by omega)))) (by omega) (by decide)) ((ixe (k := ((33 + (4 * s0)) + ((μ 70) ((5 * ((way >>> ((sh + (-3)) &&& 31)) &&& 7).toNatClampNeg))).toNatClampNeg)) (nIa (nIa rfl (nIm rfl rfl)) (nb_k (hT _ (by omega)))) (by omega)).trans (by first | rfl | (simp only [zhs_s, pk_us]; done) | (simp [zhs, upd]; done))) ?_
        refine pv_istore t_X11_isRow_151 (Nat.le_of_ble_eq_true rfl) ?_
        refine pv_iconst (v := 0) t_X11_isRow_153 zi_0 ?_
        refine pv_istore t_X11_isRow_154 (Nat.le_of_ble_eq_true rfl) ?_
        refine pv_loc (lv' := [(0, .inr 67), (1, .inl way), (2, .inl ((nI e0))), (3, .inl ((nI s0))), (4, .inl bl), (5, .inl me), (6, .inl (sh + (-3))), (7, .inl (if (a_X11_isCompliment (μ 67) ((way >>> ((sh + (-3)) &&& 31)) &&& 7)) = 0 then (0 : Int32) else (if ((me >>> (((way >>> ((sh + (-3)) &&& 31)) &&& 7) &&& 31)) &&& 1) = 0 then (if (a_X11_truthBy (μ 70) (((way >>> ((sh + (-3)) &&& 31)) &&& 7).toNatClampNeg) ((μ 72) e0)) ≤ 0 then (0 : Int32) else (1 : Int32) : Int32) else (0 : Int32) : Int32))), (8, .inl ((nI i))), (9, .inl ((way >>> ((sh + (-3)) &&& 31)) &&& 7)), (10, .inl ((μ 72) (((33 + (4 * s0)) + ((μ 70) ((5 * ((way >>> ((sh + (-3)) &&& 31)) &&& 7).toNatClampNeg))).toNatClampNeg)))), (11, .inl 0)]) ⟨rfl, rfl, rfl, rfl, rfl, rfl, rfl, rfl, rfl, rfl, rfl, rfl, trivial⟩ ?_
        refine zls (llS (llS (llS (llS (llS (llS (llS (llS (llS (llI (n := ((way >>> ((sh + (-3)) &&& 31)) &&& 7).toNatClampNeg) (and7 _).2 (llS (llS rfl)))))))))))) ?_
        refine lp_irI (way := way) (pe := (nI e0)) (sd := (nI s0)) (bl := bl) (me := me) (sh := sh + (-3)) (iz := if (a_X11_isCompliment (μ 67) ((way >>> ((sh + (-3)) &&& 31)) &&& 7)) = 0 then (0 : Int32) else (if ((me >>> (((way >>> ((sh + (-3)) &&& 31)) &&& 7) &&& 31)) &&& 1) = 0 then (if (a_X11_truthBy (μ 70) (((way >>> ((sh + (-3)) &&& 31)) &&& 7).toNatClampNeg) ((μ 72) e0)) ≤ 0 then (0 : Int32) else (1 : Int32) : Int32) else (0 : Int32) : Int32)) (k0 := i) (c0 := ((way >>> ((sh + (-3)) &&& 31)) &&& 7).toNatClampNeg) (g85 := ((upd rw i ((way >>> ((sh + (-3)) &&& 31)) &&& 7)))) (z0 := (μ 72) (((33 + (4 * s0)) + ((μ 70) ((5 * ((way >>> ((sh + (-3)) &&& 31)) &&& 7).toNatClampNeg))).toNatClampNeg))) (by omega) (by omega) (irR0 hrw) (hTm _ (by omega) (by omega)) ?_ (i + 1) 0 (by omega) (by omega) _ _ rfl rfl
        have htn : nb ((irI (μ 70) (((upd rw i ((way >>> ((sh + (-3)) &&& 31)) &&& 7)))) (((way >>> ((sh + (-3)) &&& 31)) &&& 7).toNatClampNeg) ((μ 72) (((33 + (4 * s0)) + ((μ 70) ((5 * ((way >>> ((sh + (-3)) &&& 31)) &&& 7).toNatClampNeg))).toNatClampNeg))) i)) (100 + i) := irI_nb (hTm _ (by omega) (by omega)) i (by omega)
        have htn1 := htn.1
        refine pv_iload t_X11_isRow_205 rfl ?_
        refine pv_iconst (v := 1) t_X11_isRow_207 zi_1 ?_
        refine pv_iload t_X11_isRow_208 rfl ?_
        refine pv_ishl t_X11_isRow_210 ?_
        refine pv_ior t_X11_isRow_211 ?_
        refine pv_istore t_X11_isRow_212 (Nat.le_of_ble_eq_true rfl) ?_
        refine pv_iload t_X11_isRow_214 rfl ?_
        refine pv_aload_n (i := 0) t_X11_isRow_216 rfl rfl ?_
        refine pv_iload t_X11_isRow_217 rfl ?_
        refine pv_iload_n (i := 2) t_X11_isRow_219 rfl rfl ?_
        refine pv_aload_n (i := 0) t_X11_isRow_220 rfl rfl ?_
        refine pv_iload_n (i := 2) t_X11_isRow_221 rfl rfl ?_
        refine pv_aload_n (i := 0) t_X11_isRow_222 rfl rfl ?_
        refine pv_getR t_X11_isRow_223 fl_X11_20 hh_67 rfl ?_
        refine pv_iconst (v := 5) t_X11_isRow_226 zi_5 ?_
        refine pv_iload t_X11_isRow_227 rfl ?_
        refine pv_imul t_X11_isRow_229 ?_
        refine sv_iald ((μ 70) ((5 * ((way >>> ((sh + (-3)) &&& 31)) &&& 7).toNatClampNeg))) t_X11_isRow_230 (Or.inl hh_70) (ixi (k := (5 * ((way >>> ((sh + (-3)) &&& 31)) &&& 7).toNatClampNeg)) (nIm rfl rfl) (by omega) (by decide)) ((ixe (k := (5 * ((way >>> ((sh + (-3)) &&& 31)) &&& 7).toNatClampNeg)) (nIm rfl rfl) (by omega)).trans (by first | rfl | (simp only [zhs_s, pk_us]; done) | (simp [zhs, upd]; done))) ?_
        refine sv_V2 (a_X11_vanityOf (μ 72) e0 (((μ 70) ((5 * ((way >>> ((sh + (-3)) &&& 31)) &&& 7).toNatClampNeg))).toNatClampNeg)) ((zhs μ 85 (((upd rw i ((way >>> ((sh + (-3)) &&& 31)) &&& 7)))))) t_X11_isRow_231 ml_X11_179 mo_X11_vanityOf hh_67 rfl (Nat.le_of_ble_eq_true rfl) (zas (lcS (lcI (k := e0) rfl (lcI (k := ((μ 70) ((5 * ((way >>> ((sh + (-3)) &&& 31)) &&& 7).toNatClampNeg))).toNatClampNeg) (nb_k (hT _ (by omega))) rfl))) (e_X11_vanityOf (e := e0) (t := ((μ 70) ((5 * ((way >>> ((sh + (-3)) &&& 31)) &&& 7).toNatClampNeg))).toNatClampNeg) (by omega) (by omega))) (Nat.le_of_ble_eq_true rfl) rfl rfl ?_
        refine pv_iload t_X11_isRow_234 rfl ?_
        refine sv_V4 (a_X11_effectBy (μ 70) (μ 72) (((way >>> ((sh + (-3)) &&& 31)) &&& 7).toNatClampNeg) e0 (a_X11_vanityOf (μ 72) e0 (((μ 70) ((5 * ((way >>> ((sh + (-3)) &&& 31)) &&& 7).toNatClampNeg))).toNatClampNeg)) (((irI (μ 70) (((upd rw i ((way >>> ((sh + (-3)) &&& 31)) &&& 7)))) (((way >>> ((sh + (-3)) &&& 31)) &&& 7).toNatClampNeg) ((μ 72) (((33 + (4 * s0)) + ((μ 70) ((5 * ((way >>> ((sh + (-3)) &&& 31)) &&& 7).toNatClampNeg))).toNatClampNeg))) i)).toNatClampNeg)) ((zhs μ 85 (((upd rw i ((way >>> ((sh + (-3)) &&& 31)) &&& 7)))))) t_X11_isRow_236 ml_X11_182 mo_X11_effectBy hh_67 rfl (Nat.le_of_ble_eq_true rfl) (zas (lcS (lcI (k := ((way >>> ((sh + (-3)) &&& 31)) &&& 7).toNatClampNeg) rfl (lcI (k := e0) rfl (lcS (lcI (k := ((irI (μ 70) (((upd rw i ((way >>> ((sh + (-3)) &&& 31)) &&& 7)))) (((way >>> ((sh + (-3)) &&& 31)) &&& 7).toNatClampNeg) ((μ 72) (((33 + (4 * s0)) + ((μ 70) ((5 * ((way >>> ((sh + (-3)) &&& 31)) &&& 7).toNatClampNeg))).toNatClampNeg))) i)).toNatClampNeg) htn.2 rfl))))) (e_X11_effectBy (c := ((way >>> ((sh + (-3)) &&& 31)) &&& 7).toNatClampNeg) (e := e0) (tt := ((irI (μ 70) (((upd rw i ((way >>> ((sh + (-3)) &&& 31)) &&& 7)))) (((way >>> ((sh + (-3)) &&& 31)) &&& 7).toNatClampNeg) ((μ 72) (((33 + (4 * s0)) + ((μ 70) ((5 * ((way >>> ((sh + (-3)) &&& 31)) &&& 7).toNatClampNeg))).toNatClampNeg))) i)).toNatClampNeg) (by omega) (by omega) (by omega))) (Nat.le_of_ble_eq_true rfl) rfl rfl ?_
        refine pv_iadd t_X11_isRow_239 ?_
        refine pv_istore t_X11_isRow_240 (Nat.le_of_ble_eq_true rfl) ?_
        refine pv_iload t_X11_isRow_242 rfl ?_
        refine pv_aload_n (i := 0) t_X11_isRow_244 rfl rfl ?_
        refine pv_getR t_X11_isRow_245 fl_X11_48 hh_67 rfl ?_
        refine pv_iload t_X11_isRow_248 rfl ?_
        refine sv_iald ((μ 79) i) t_X11_isRow_250 (Or.inl hh_79) (ixi (k := i) rfl (by omega) (by decide)) ((ixe (k := i) rfl (by omega)).trans (by first | rfl | (simp only [zhs_s, pk_us]; done) | (simp [zhs, upd]; done))) ?_
        refine sv_phi (c := (bl + (a_X11_effectBy (μ 70) (μ 72) (((way >>> ((sh + (-3)) &&& 31)) &&& 7).toNatClampNeg) e0 (a_X11_vanityOf (μ 72) e0 (((μ 70) ((5 * ((way >>> ((sh + (-3)) &&& 31)) &&& 7).toNatClampNeg))).toNatClampNeg)) (((irI (μ 70) (((upd rw i ((way >>> ((sh + (-3)) &&& 31)) &&& 7)))) (((way >>> ((sh + (-3)) &&& 31)) &&& 7).toNatClampNeg) ((μ 72) (((33 + (4 * s0)) + ((μ 70) ((5 * ((way >>> ((sh + (-3)) &&& 31)) &&& 7).toNatClampNeg))).toNatClampNeg))) i)).toNatClampNeg))) = ((μ 79) i)) (A := 1) (B := 0) (J := 259) (lv := [(0, .inr 67), (1, .inl way), (2, .inl ((nI e0))), (3, .inl ((nI s0))), (4, .inl (bl + (a_X11_effectBy (μ 70) (μ 72) (((way >>> ((sh + (-3)) &&& 31)) &&& 7).toNatClampNeg) e0 (a_X11_vanityOf (μ 72) e0 (((μ 70) ((5 * ((way >>> ((sh + (-3)) &&& 31)) &&& 7).toNatClampNeg))).toNatClampNeg)) (((irI (μ 70) (((upd rw i ((way >>> ((sh + (-3)) &&& 31)) &&& 7)))) (((way >>> ((sh + (-3)) &&& 31)) &&& 7).toNatClampNeg) ((μ 72) (((33 + (4 * s0)) + ((μ 70) ((5 * ((way >>> ((sh + (-3)) &&& 31)) &&& 7).toNatClampNeg))).toNatClampNeg))) i)).toNatClampNeg)))), (5, .inl (me ||| (1 <<< (((nI ((way >>> ((sh + (-3)) &&& 31)) &&& 7).toNatClampNeg)) &&& 31)))), (6, .inl (sh + (-3))), (7, .inl (if (a_X11_isCompliment (μ 67) ((way >>> ((sh + (-3)) &&& 31)) &&& 7)) = 0 then (0 : Int32) else (if ((me >>> (((way >>> ((sh + (-3)) &&& 31)) &&& 7) &&& 31)) &&& 1) = 0 then (if (a_X11_truthBy (μ 70) (((way >>> ((sh + (-3)) &&& 31)) &&& 7).toNatClampNeg) ((μ 72) e0)) ≤ 0 then (0 : Int32) else (1 : Int32) : Int32) else (0 : Int32) : Int32))), (8, .inl ((nI i))), (9, .inl ((nI ((way >>> ((sh + (-3)) &&& 31)) &&& 7).toNatClampNeg))), (10, .inl ((irI (μ 70) (((upd rw i ((way >>> ((sh + (-3)) &&& 31)) &&& 7)))) (((way >>> ((sh + (-3)) &&& 31)) &&& 7).toNatClampNeg) ((μ 72) (((33 + (4 * s0)) + ((μ 70) ((5 * ((way >>> ((sh + (-3)) &&& 31)) &&& 7).toNatClampNeg))).toNatClampNeg))) i))), (11, .inl ((nI i)))]) (st := []) (S := (zSH, (zhs μ 85 (((upd rw i ((way >>> ((sh + (-3)) &&& 31)) &&& 7))))))) (fun kT kF => ?_) ?_
        · skip
          refine pv_icmp_ne t_X11_isRow_251 (fun c251 => ?_) (fun c251 => ?_)
          · skip
            refine pv_iconst (v := 0) t_X11_isRow_258 zi_0 ?_
            exact kF c251
          · skip
            refine pv_iconst (v := 1) t_X11_isRow_254 zi_1 ?_
            refine pv_goto t_X11_isRow_255 ?_
            exact kT c251
        refine pv_istore t_X11_isRow_259 (Nat.le_of_ble_eq_true rfl) ?_
        refine pv_iload t_X11_isRow_261 rfl ?_
        refine pv_aload_n (i := 0) t_X11_isRow_263 rfl rfl ?_
        refine pv_getR t_X11_isRow_264 fl_X11_17 hh_67 rfl ?_
        refine pv_bipush (v := 6) t_X11_isRow_267 zb_6 ?_
        refine pv_iload_n (i := 2) t_X11_isRow_269 rfl rfl ?_
        refine pv_imul t_X11_isRow_270 ?_
        refine pv_iconst (v := 1) t_X11_isRow_271 zi_1 ?_
        refine pv_iadd t_X11_isRow_272 ?_
        refine sv_iald ((μ 69) (((6 * e0) + 1))) t_X11_isRow_273 (Or.inl hh_69) (ixi (k := ((6 * e0) + 1)) (nIa (nIm rfl rfl) rfl) (by omega) (by decide)) ((ixe (k := ((6 * e0) + 1)) (nIa (nIm rfl rfl) rfl) (by omega)).trans (by first | rfl | (simp only [zhs_s, pk_us]; done) | (simp [zhs, upd]; done))) ?_
        refine sv_phi (c := ((μ 69) (((6 * e0) + 1))) ≤ (bl + (a_X11_effectBy (μ 70) (μ 72) (((way >>> ((sh + (-3)) &&& 31)) &&& 7).toNatClampNeg) e0 (a_X11_vanityOf (μ 72) e0 (((μ 70) ((5 * ((way >>> ((sh + (-3)) &&& 31)) &&& 7).toNatClampNeg))).toNatClampNeg)) (((irI (μ 70) (((upd rw i ((way >>> ((sh + (-3)) &&& 31)) &&& 7)))) (((way >>> ((sh + (-3)) &&& 31)) &&& 7).toNatClampNeg) ((μ 72) (((33 + (4 * s0)) + ((μ 70) ((5 * ((way >>> ((sh + (-3)) &&& 31)) &&& 7).toNatClampNeg))).toNatClampNeg))) i)).toNatClampNeg)))) (A := (bl + (a_X11_effectBy (μ 70) (μ 72) (((way >>> ((sh + (-3)) &&& 31)) &&& 7).toNatClampNeg) e0 (a_X11_vanityOf (μ 72) e0 (((μ 70) ((5 * ((way >>> ((sh + (-3)) &&& 31)) &&& 7).toNatClampNeg))).toNatClampNeg)) (((irI (μ 70) (((upd rw i ((way >>> ((sh + (-3)) &&& 31)) &&& 7)))) (((way >>> ((sh + (-3)) &&& 31)) &&& 7).toNatClampNeg) ((μ 72) (((33 + (4 * s0)) + ((μ 70) ((5 * ((way >>> ((sh + (-3)) &&& 31)) &&& 7).toNatClampNeg))).toNatClampNeg))) i)).toNatClampNeg))) - ((μ 69) (((6 * e0) + 1)))) (B := 0) (J := 295) (lv := [(0, .inr 67), (1, .inl way), (2, .inl ((nI e0))), (3, .inl ((nI s0))), (4, .inl (bl + (a_X11_effectBy (μ 70) (μ 72) (((way >>> ((sh + (-3)) &&& 31)) &&& 7).toNatClampNeg) e0 (a_X11_vanityOf (μ 72) e0 (((μ 70) ((5 * ((way >>> ((sh + (-3)) &&& 31)) &&& 7).toNatClampNeg))).toNatClampNeg)) (((irI (μ 70) (((upd rw i ((way >>> ((sh + (-3)) &&& 31)) &&& 7)))) (((way >>> ((sh + (-3)) &&& 31)) &&& 7).toNatClampNeg) ((μ 72) (((33 + (4 * s0)) + ((μ 70) ((5 * ((way >>> ((sh + (-3)) &&& 31)) &&& 7).toNatClampNeg))).toNatClampNeg))) i)).toNatClampNeg)))), (5, .inl (me ||| (1 <<< (((nI ((way >>> ((sh + (-3)) &&& 31)) &&& 7).toNatClampNeg)) &&& 31)))), (6, .inl (sh + (-3))), (7, .inl (if (bl + (a_X11_effectBy (μ 70) (μ 72) (((way >>> ((sh + (-3)) &&& 31)) &&& 7).toNatClampNeg) e0 (a_X11_vanityOf (μ 72) e0 (((μ 70) ((5 * ((way >>> ((sh + (-3)) &&& 31)) &&& 7).toNatClampNeg))).toNatClampNeg)) (((irI (μ 70) (((upd rw i ((way >>> ((sh + (-3)) &&& 31)) &&& 7)))) (((way >>> ((sh + (-3)) &&& 31)) &&& 7).toNatClampNeg) ((μ 72) (((33 + (4 * s0)) + ((μ 70) ((5 * ((way >>> ((sh + (-3)) &&& 31)) &&& 7).toNatClampNeg))).toNatClampNeg))) i)).toNatClampNeg))) = ((μ 79) i) then (1 : Int32) else (0 : Int32))), (8, .inl ((nI i))), (9, .inl ((nI ((way >>> ((sh + (-3)) &&& 31)) &&& 7).toNatClampNeg))), (10, .inl ((irI (μ 70) (((upd rw i ((way >>> ((sh + (-3)) &&& 31)) &&& 7)))) (((way >>> ((sh + (-3)) &&& 31)) &&& 7).toNatClampNeg) ((μ 72) (((33 + (4 * s0)) + ((μ 70) ((5 * ((way >>> ((sh + (-3)) &&& 31)) &&& 7).toNatClampNeg))).toNatClampNeg))) i))), (11, .inl ((nI i)))]) (st := []) (S := (zSH, (zhs μ 85 (((upd rw i ((way >>> ((sh + (-3)) &&& 31)) &&& 7))))))) (fun kT kF => ?_) ?_
        · skip
          refine pv_icmp_ge t_X11_isRow_274 (fun c274 => ?_) (fun c274 => ?_)
          · skip
            refine pv_iload t_X11_isRow_281 rfl ?_
            refine pv_aload_n (i := 0) t_X11_isRow_283 rfl rfl ?_
            refine pv_getR t_X11_isRow_284 fl_X11_17 hh_67 rfl ?_
            refine pv_bipush (v := 6) t_X11_isRow_287 zb_6 ?_
            refine pv_iload_n (i := 2) t_X11_isRow_289 rfl rfl ?_
            refine pv_imul t_X11_isRow_290 ?_
            refine pv_iconst (v := 1) t_X11_isRow_291 zi_1 ?_
            refine pv_iadd t_X11_isRow_292 ?_
            refine sv_iald ((μ 69) (((6 * e0) + 1))) t_X11_isRow_293 (Or.inl hh_69) (ixi (k := ((6 * e0) + 1)) (nIa (nIm rfl rfl) rfl) (by omega) (by decide)) ((ixe (k := ((6 * e0) + 1)) (nIa (nIm rfl rfl) rfl) (by omega)).trans (by first | rfl | (simp only [zhs_s, pk_us]; done) | (simp [zhs, upd]; done))) ?_
            refine pv_isub t_X11_isRow_294 ?_
            exact kT c274
          · skip
            refine pv_iconst (v := 0) t_X11_isRow_277 zi_0 ?_
            refine pv_goto t_X11_isRow_278 ?_
            exact kF c274
        refine pv_istore t_X11_isRow_295 (Nat.le_of_ble_eq_true rfl) ?_
        refine pv_iinc (v := 1) t_X11_isRow_297 rfl zi_1 ?_
        refine pv_goto t_X11_isRow_300 ?_
        by_cases hq : irB (μ 70) (μ 72) e0 s0 i (upd rw i (irc way sh)) bl (irc way sh) = (μ 79) i
        · skip
          rw [show kc - i = (kc - (i + 1)) + 1 by omega, irS, if_neg (show ¬ irQ (μ 67) (μ 70) (μ 72) e0 (irc way sh) me = 0 from c127), if_pos hq] at hk
          refine pv_loc (lv' := [(0, _), (1, _), (2, _), (3, _), (4, _), (5, _), (6, _), (7, _), (8, _)]) ⟨rfl, rfl, rfl, rfl, rfl, rfl, rfl, rfl, rfl, trivial⟩ ?_
          rw [if_pos (show ((bl + (a_X11_effectBy (μ 70) (μ 72) (((way >>> ((sh + (-3)) &&& 31)) &&& 7).toNatClampNeg) e0 (a_X11_vanityOf (μ 72) e0 (((μ 70) ((5 * ((way >>> ((sh + (-3)) &&& 31)) &&& 7).toNatClampNeg))).toNatClampNeg)) (((irI (μ 70) (((upd rw i ((way >>> ((sh + (-3)) &&& 31)) &&& 7)))) (((way >>> ((sh + (-3)) &&& 31)) &&& 7).toNatClampNeg) ((μ 72) (((33 + (4 * s0)) + ((μ 70) ((5 * ((way >>> ((sh + (-3)) &&& 31)) &&& 7).toNatClampNeg))).toNatClampNeg))) i)).toNatClampNeg)))) = (μ 79) i from hq)]
          exact ih (i + 1) (by omega) (by omega) _ _ _ _ _ (nI_1 i) (irR hrw) hk
        · skip
          rw [show kc - i = (kc - (i + 1)) + 1 by omega, irS, if_neg (show ¬ irQ (μ 67) (μ 70) (μ 72) e0 (irc way sh) me = 0 from c127), if_neg hq] at hk
          refine pv_loc (lv' := [(0, .inr 67), (7, _), (8, _)]) ⟨rfl, rfl, rfl, trivial⟩ ?_
          rw [if_neg (show ¬ ((bl + (a_X11_effectBy (μ 70) (μ 72) (((way >>> ((sh + (-3)) &&& 31)) &&& 7).toNatClampNeg) e0 (a_X11_vanityOf (μ 72) e0 (((μ 70) ((5 * ((way >>> ((sh + (-3)) &&& 31)) &&& 7).toNatClampNeg))).toNatClampNeg)) (((irI (μ 70) (((upd rw i ((way >>> ((sh + (-3)) &&& 31)) &&& 7)))) (((way >>> ((sh + (-3)) &&& 31)) &&& 7).toNatClampNeg) ((μ 72) (((33 + (4 * s0)) + ((μ 70) ((5 * ((way >>> ((sh + (-3)) &&& 31)) &&& 7).toNatClampNeg))).toNatClampNeg))) i)).toNatClampNeg)))) = (μ 79) i from hq), nI_1]
          exact ir_end hkc hk4 (by omega) hk
theorem irS_01 {f67 f69 f70 f72 f79 : Nat → Int32} {e0 s0 : Nat} {way : Int32} : ∀ (j i : Nat) (bl me sh : Int32) (rw : Nat → Int32), (irS f67 f69 f70 f72 f79 e0 s0 way j i bl me sh rw).1 = 0 ∨ (irS f67 f69 f70 f72 f79 e0 s0 way j i bl me sh rw).1 = 1 := by
  intro j
  induction j with
  | zero => intros; exact Or.inr rfl
  | succ j ih =>
    intro i bl me sh rw
    rw [irS]
    split
    · exact Or.inl rfl
    · split
      · exact ih _ _ _ _ _
      · exact Or.inl rfl
def a_X11_isRow (f67 : Nat → Int32) (f69 : Nat → Int32) (f70 : Nat → Int32) (f72 : Nat → Int32) (f79 : Nat → Int32) (f85 : Nat → Int32) (way : Int32) (kc : Nat) : Int32 := (irS f67 f69 f70 f72 f79 (a_X11_against f72).toNatClampNeg (1 - (f72 24).toNatClampNeg) way kc 0 (f72 ((27 + (1 - (f72 24).toNatClampNeg)))) (f72 25) (3 * (nI kc)) f85).1
def w_X11_isRow_85 (f67 : Nat → Int32) (f69 : Nat → Int32) (f70 : Nat → Int32) (f72 : Nat → Int32) (f79 : Nat → Int32) (f85 : Nat → Int32) (way : Int32) (kc : Nat) : Nat → Int32 := (irS f67 f69 f70 f72 f79 (a_X11_against f72).toNatClampNeg (1 - (f72 24).toNatClampNeg) way kc 0 (f72 ((27 + (1 - (f72 24).toNatClampNeg)))) (f72 25) (3 * (nI kc)) f85).2
theorem e_X11_isRow {l : Launch} {X : zX} {d : Nat} {μ : zH} {kc : Nat} {way : Int32} (hkc : μ 67 26 = nI kc) (hk4 : kc ≤ 4) (hT : ∀ c, c < 8 → nb (μ 70 (5 * c)) 4) (hTm : ∀ i, 33 ≤ i → i < 41 → nb (μ 72 i) 100) (hA : nb (μ 72 20) 4) (hB : nb (μ 72 21) 4) (hS : nb (μ 72 24) 2) : zRn l X mi_X11_isRow (d + 7) [.inr 67, .inl (way)] (zSH, μ) (some (.inl (a_X11_isRow (μ 67) (μ 69) (μ 70) (μ 72) (μ 79) (μ 85) way kc))) (zSH, (zhs μ 85 (w_X11_isRow_85 (μ 67) (μ 69) (μ 70) (μ 72) (μ 79) (μ 85) way kc))) := by
  have hs1 := hS.1
  have hag := (ag_nb hA hB).1
  refine pv_aload_n (i := 0) t_X11_isRow_0 rfl rfl ?_
  refine sv_V0 (a_X11_against (μ 72)) μ t_X11_isRow_1 ml_X11_238 mo_X11_against hh_67 rfl (Nat.le_of_ble_eq_true rfl) (e_X11_against) (Nat.le_of_ble_eq_true rfl) rfl rfl ?_
  refine pv_istore_n (i := 2) t_X11_isRow_4 rfl (Nat.le_of_ble_eq_true rfl) ?_
  refine pv_iconst (v := 1) t_X11_isRow_5 zi_1 ?_
  refine pv_aload_n (i := 0) t_X11_isRow_6 rfl rfl ?_
  refine pv_getR t_X11_isRow_7 fl_X11_26 hh_67 rfl ?_
  refine pv_bipush (v := 24) t_X11_isRow_10 zb_24 ?_
  refine sv_iald ((μ 72) 24) t_X11_isRow_12 (Or.inl hh_72) (zin (by decide)) rfl ?_
  refine pv_isub t_X11_isRow_13 ?_
  refine pv_istore_n (i := 3) t_X11_isRow_14 rfl (Nat.le_of_ble_eq_true rfl) ?_
  refine pv_aload_n (i := 0) t_X11_isRow_15 rfl rfl ?_
  refine pv_getR t_X11_isRow_16 fl_X11_26 hh_67 rfl ?_
  refine pv_bipush (v := 27) t_X11_isRow_19 zb_27 ?_
  refine pv_iload_n (i := 3) t_X11_isRow_21 rfl rfl ?_
  refine pv_iadd t_X11_isRow_22 ?_
  refine sv_iald ((μ 72) ((27 + (1 - ((μ 72) 24).toNatClampNeg)))) t_X11_isRow_23 (Or.inl hh_72) (ixi (k := (27 + (1 - ((μ 72) 24).toNatClampNeg))) (nIa rfl (nIsb rfl (nb_k hS) (by omega))) (by omega) (by decide)) ((ixe (k := (27 + (1 - ((μ 72) 24).toNatClampNeg))) (nIa rfl (nIsb rfl (nb_k hS) (by omega))) (by omega)).trans (by first | rfl | (simp only [zhs_s, pk_us]; done) | (simp [zhs, upd]; done))) ?_
  refine pv_istore t_X11_isRow_24 (Nat.le_of_ble_eq_true rfl) ?_
  refine pv_aload_n (i := 0) t_X11_isRow_26 rfl rfl ?_
  refine pv_getR t_X11_isRow_27 fl_X11_26 hh_67 rfl ?_
  refine pv_bipush (v := 25) t_X11_isRow_30 zb_25 ?_
  refine sv_iald ((μ 72) 25) t_X11_isRow_32 (Or.inl hh_72) (zin (by decide)) rfl ?_
  refine pv_istore t_X11_isRow_33 (Nat.le_of_ble_eq_true rfl) ?_
  refine pv_iconst (v := 3) t_X11_isRow_35 zi_3 ?_
  refine pv_aload_n (i := 0) t_X11_isRow_36 rfl rfl ?_
  refine sv_getI (nI kc) t_X11_isRow_37 fl_X11_146 hh_67 rfl hkc ?_
  refine pv_imul t_X11_isRow_40 ?_
  refine pv_istore t_X11_isRow_41 (Nat.le_of_ble_eq_true rfl) ?_
  refine pv_iconst (v := 1) t_X11_isRow_43 zi_1 ?_
  refine pv_istore t_X11_isRow_44 (Nat.le_of_ble_eq_true rfl) ?_
  refine pv_iconst (v := 0) t_X11_isRow_46 zi_0 ?_
  refine pv_istore t_X11_isRow_47 (Nat.le_of_ble_eq_true rfl) ?_
  refine zfin (S1 := (zSH, (zhs μ 85 ((irS (μ 67) (μ 69) (μ 70) (μ 72) (μ 79) (a_X11_against (μ 72)).toNatClampNeg (1 - ((μ 72) 24).toNatClampNeg) way kc 0 ((μ 72) ((27 + (1 - ((μ 72) 24).toNatClampNeg)))) ((μ 72) 25) (3 * (nI kc)) (μ 85)).2)))) (by unfold a_X11_isRow; rfl) (Prod.ext rfl (by have e85 : w_X11_isRow_85 (μ 67) (μ 69) (μ 70) (μ 72) (μ 79) (μ 85) way kc = (irS (μ 67) (μ 69) (μ 70) (μ 72) (μ 79) (a_X11_against (μ 72)).toNatClampNeg (1 - ((μ 72) 24).toNatClampNeg) way kc 0 ((μ 72) ((27 + (1 - ((μ 72) 24).toNatClampNeg)))) ((μ 72) 25) (3 * (nI kc)) (μ 85)).2 := (by unfold w_X11_isRow_85; rfl); show _ = (zhs μ 85 (w_X11_isRow_85 (μ 67) (μ 69) (μ 70) (μ 72) (μ 79) (μ 85) way kc)); symm; rw [e85])) ?_
  refine pv_loc (lv' := [(0, _), (1, _), (2, _), (3, _), (4, _), (5, _), (6, _), (7, _), (8, _)]) ⟨rfl, rfl, rfl, rfl, rfl, rfl, rfl, rfl, rfl, trivial⟩ ?_
  refine zls (llS (llS (llI (n := (a_X11_against (μ 72)).toNatClampNeg) (nb_k (ag_nb hA hB)) (llI (n := (1 - ((μ 72) 24).toNatClampNeg)) (nIsb rfl (nb_k hS) (by omega)) rfl)))) ?_
  refine zst (S2 := (zSH, zhs μ 85 (μ 85))) (by rw [zhs_id]) ?_
  refine lp_X11_isRow hkc hk4 (by omega) (by omega) hT hTm (kc + 1) 0 (by omega) (by omega) _ _ _ _ _ rfl (fun e h => absurd h (Nat.not_lt_zero e)) ?_
  exact pv_iload t_X11_isRow_303 rfl (pv_iretz t_X11_isRow_305 rfl ⟨rfl, irS_01 _ _ _ _ _ _⟩ rfl)
theorem in_kc {x : Int32} {kc : Nat} (hk4 : kc ≤ 4) (h : ¬ a_X11_in x 0 (nI kc - 1) = 0) : nb x 4 := by
  cases kc with
  | zero =>
    have h1 := in_t h
    exact absurd (Int32.le_trans h1.1 h1.2) (by decide)
  | succ n =>
    rw [nI_pred] at h
    exact nb_le (in_nb (n := n) (by rw [nI_toInt (by omega)]) (by omega) h) (by omega)
theorem sh3 {kc : Nat} (h : kc ≤ 4) : (1 : Int32) <<< ((3 * nI kc) &&& 31) = nI (8 ^ kc) ∧ 8 ^ kc ≤ 4096 := by
  have h1 : ∀ k, k < 5 → (1 : Int32) <<< ((3 * nI k) &&& 31) = nI (8 ^ k) ∧ 8 ^ k ≤ 4096 := by decide +kernel
  exact h1 kc (by omega)
def sdL_F (f69 : Nat → Int32) (f70 : Nat → Int32) (f72 : Nat → Int32) (f79 : Nat → Int32) (g67 : Nat → Int32) (x : Int32) (kc : Nat) (i : Nat) (w : Int32) (v : Int32) (rw : Nat → Int32) : Int32 × Int32 × (Nat → Int32) := (if (a_X11_isRow g67 f69 f70 f72 f79 rw ((nI i)) kc) = 0 then (w, v, (w_X11_isRow_85 g67 f69 f70 f72 f79 rw ((nI i)) kc)) else (if w = 0 then (w + 1, if (a_X11_in x 0 ((nI kc) - 1)) = 0 then (v : Int32) else ((w_X11_isRow_85 g67 f69 f70 f72 f79 rw ((nI i)) kc) x.toNatClampNeg : Int32), (w_X11_isRow_85 g67 f69 f70 f72 f79 rw ((nI i)) kc)) else (w + 1, v, (w_X11_isRow_85 g67 f69 f70 f72 f79 rw ((nI i)) kc))))
def sdL (f69 : Nat → Int32) (f70 : Nat → Int32) (f72 : Nat → Int32) (f79 : Nat → Int32) (g67 : Nat → Int32) (x : Int32) (kc : Nat) (z0 : Int32 × Int32 × (Nat → Int32)) : Nat → Int32 × Int32 × (Nat → Int32) := zfold (fun i s => sdL_F f69 f70 f72 f79 g67 x kc i s.1 s.2.1 s.2.2) z0
theorem lp_sdL {l : Launch} {X : zX} {d : Nat} {μ : zH} {x : Int32} {kc : Nat} {nw : Nat} {g67 : Nat → Int32} {z0 : Int32 × Int32 × (Nat → Int32)} (hkc : g67 26 = nI kc) (hk4 : kc ≤ 4) (hT : ∀ c, c < 8 → nb (μ 70 (5 * c)) 4) (hTm : ∀ i, 33 ≤ i → i < 41 → nb (μ 72 i) 100) (hA : nb (μ 72 20) 4) (hB : nb (μ 72 21) 4) (hS : nb (μ 72 24) 2) (hnw : (1 : Int32) <<< ((3 * nI kc) &&& 31) = nI nw) (hnw9 : nw ≤ 4096) {r : Option zV} {S' : zS} (hk : zEv l X mi_X11_said (d + 9) 82 [(0, .inr 67), (1, .inl x), (2, .inl ((sdL (μ 69) (μ 70) (μ 72) (μ 79) g67 x kc z0 nw).1)), (3, .inl ((sdL (μ 69) (μ 70) (μ 72) (μ 79) g67 x kc z0 nw).2.1)), (4, .inl (nI nw))] [] (zSH, (zhs (zhs μ 67 g67) 85 ((sdL (μ 69) (μ 70) (μ 72) (μ 79) g67 x kc z0 nw).2.2))) 0 0 r S') : ∀ j i : Nat, i + j = nw + 1 → i ≤ nw → ∀ (y : Int32) (w : Int32) (v : Int32) (rw : Nat → Int32), y = nI i → (w, v, rw) = (sdL (μ 69) (μ 70) (μ 72) (μ 79) g67 x kc z0 i) → zEv l X mi_X11_said (d + 9) 22 [(0, .inr 67), (1, .inl x), (2, .inl w), (3, .inl v), (4, .inl y)] [] (zSH, (zhs (zhs μ 67 g67) 85 rw)) 0 0 r S' := by
  intro j
  induction j with
  | zero => intros; omega
  | succ j ih =>
    intro i hij hle y w v rw hy hs
    subst hy
    refine pv_iload t_X11_said_22 rfl ?_
    refine pv_iconst (v := 1) t_X11_said_24 zi_1 ?_
    refine pv_iconst (v := 3) t_X11_said_25 zi_3 ?_
    refine pv_aload_n (i := 0) t_X11_said_26 rfl rfl ?_
    refine sv_getI (nI kc) t_X11_said_27 fl_X11_146 hh_67 rfl hkc ?_
    refine pv_imul t_X11_said_30 ?_
    refine pv_ishl t_X11_said_31 ?_
    refine pv_icmp_ge t_X11_said_32 (fun c32 => ?_) (fun c32 => ?_)
    · skip
      rw [hnw] at c32
      have hie : i = nw := by have := (nI_leI (a := nw) (by omega) (by omega)).mp c32; omega
      subst hie
      rw [← hs] at hk
      exact hk
    · skip
      rw [hnw] at c32
      have hin : i < nw := Nat.lt_of_not_le (fun q => c32 (nI_le (a := nw) q (by omega)))
      refine pv_aload_n (i := 0) t_X11_said_35 rfl rfl ?_
      refine pv_iload t_X11_said_36 rfl ?_
      refine sv_V1 (a_X11_isRow g67 (μ 69) (μ 70) (μ 72) (μ 79) rw ((nI i)) kc) ((zhs (zhs μ 67 g67) 85 (w_X11_isRow_85 g67 (μ 69) (μ 70) (μ 72) (μ 79) rw ((nI i)) kc))) t_X11_said_38 ml_X11_263 mo_X11_isRow hh_67 rfl (Nat.le_of_ble_eq_true rfl) (e_X11_isRow hkc hk4 hT hTm hA hB hS) (Nat.le_of_ble_eq_true rfl) rfl (by (try simp (disch := decide) only [zhs_d, zhs_s]); rw [zhs_hs] <;> (first | rfl | (congr 1; funext k_; simp only [upd]; ((repeat' split) <;> first | rfl | (simp_all; done))))) ?_
      refine pv_if_eq t_X11_said_41 (fun c41 => ?_) (fun c41 => ?_)
      · skip
        refine pv_iinc (v := 1) t_X11_said_76 rfl zi_1 ?_
        refine pv_goto t_X11_said_79 ?_
        refine pv_loc (lv' := [(0, _), (1, _), (2, _), (3, _), (4, _)]) ⟨rfl, rfl, rfl, rfl, rfl, trivial⟩ ?_
        refine ih (i + 1) (by omega) (by omega) _ _ _ _ (nI_1 i) ?_
        have hs9 : (sdL (μ 69) (μ 70) (μ 72) (μ 79) g67 x kc z0 (i + 1)) = sdL_F (μ 69) (μ 70) (μ 72) (μ 79) g67 x kc i ((sdL (μ 69) (μ 70) (μ 72) (μ 79) g67 x kc z0 i).1) ((sdL (μ 69) (μ 70) (μ 72) (μ 79) g67 x kc z0 i).2.1) ((sdL (μ 69) (μ 70) (μ 72) (μ 79) g67 x kc z0 i).2.2) := rfl
        rw [hs9, ← hs]
        show _ = sdL_F (μ 69) (μ 70) (μ 72) (μ 79) g67 x kc i w v rw
        unfold sdL_F
        rw [if_pos c41]
      · skip
        refine pv_iload_n (i := 2) t_X11_said_44 rfl rfl ?_
        refine pv_if_ne t_X11_said_45 (fun c45 => ?_) (fun c45 => ?_)
        · skip
          refine pv_iload_n (i := 3) t_X11_said_71 rfl rfl ?_
          refine pv_istore_n (i := 3) t_X11_said_72 rfl (Nat.le_of_ble_eq_true rfl) ?_
          refine pv_iinc (v := 1) t_X11_said_73 rfl zi_1 ?_
          refine pv_iinc (v := 1) t_X11_said_76 rfl zi_1 ?_
          refine pv_goto t_X11_said_79 ?_
          refine pv_loc (lv' := [(0, _), (1, _), (2, _), (3, _), (4, _)]) ⟨rfl, rfl, rfl, rfl, rfl, trivial⟩ ?_
          refine ih (i + 1) (by omega) (by omega) _ _ _ _ (nI_1 i) ?_
          have hs9 : (sdL (μ 69) (μ 70) (μ 72) (μ 79) g67 x kc z0 (i + 1)) = sdL_F (μ 69) (μ 70) (μ 72) (μ 79) g67 x kc i ((sdL (μ 69) (μ 70) (μ 72) (μ 79) g67 x kc z0 i).1) ((sdL (μ 69) (μ 70) (μ 72) (μ 79) g67 x kc z0 i).2.1) ((sdL (μ 69) (μ 70) (μ 72) (μ 79) g67 x kc z0 i).2.2) := rfl
          rw [hs9, ← hs]
          show _ = sdL_F (μ 69) (μ 70) (μ 72) (μ 79) g67 x kc i w v rw
          unfold sdL_F
          rw [if_neg c41, if_neg c45]
        · skip
          refine pv_iload_n (i := 1) t_X11_said_48 rfl rfl ?_
          refine pv_iconst (v := 0) t_X11_said_49 zi_0 ?_
          refine pv_aload_n (i := 0) t_X11_said_50 rfl rfl ?_
          refine sv_getI (nI kc) t_X11_said_51 fl_X11_146 hh_67 rfl hkc ?_
          refine pv_iconst (v := 1) t_X11_said_54 zi_1 ?_
          refine pv_isub t_X11_said_55 ?_
          refine sv_S3 (a_X11_in x 0 ((nI kc) - 1)) ((zhs (zhs μ 67 g67) 85 (w_X11_isRow_85 g67 (μ 69) (μ 70) (μ 72) (μ 79) rw ((nI i)) kc))) t_X11_said_56 ml_X11_72 mo_X11_in (Nat.le_of_ble_eq_true rfl) (e_X11_in) (Nat.le_of_ble_eq_true rfl) rfl rfl ?_
          refine sv_phi (c := (a_X11_in x 0 ((nI kc) - 1)) = 0) (A := v) (B := (w_X11_isRow_85 g67 (μ 69) (μ 70) (μ 72) (μ 79) rw ((nI i)) kc) x.toNatClampNeg) (J := 72) (lv := [(0, .inr 67), (1, .inl x), (2, .inl w), (3, .inl v), (4, .inl ((nI i)))]) (st := []) (S := (zSH, (zhs (zhs μ 67 g67) 85 (w_X11_isRow_85 g67 (μ 69) (μ 70) (μ 72) (μ 79) rw ((nI i)) kc)))) (fun kT kF => ?_) ?_
          · skip
            refine pv_if_eq t_X11_said_59 (fun c59 => ?_) (fun c59 => ?_)
            · skip
              refine pv_iload_n (i := 3) t_X11_said_71 rfl rfl ?_
              exact kT c59
            · skip
              obtain ⟨hx1, hx2⟩ := in_kc hk4 c59
              refine pv_aload_n (i := 0) t_X11_said_62 rfl rfl ?_
              refine pv_getR t_X11_said_63 fl_X11_66 hh_67 rfl ?_
              refine pv_iload_n (i := 1) t_X11_said_66 rfl rfl ?_
              refine sv_iald ((w_X11_isRow_85 g67 (μ 69) (μ 70) (μ 72) (μ 79) rw ((nI i)) kc) x.toNatClampNeg) t_X11_said_67 (Or.inl hh_85) (ixi (k := x.toNatClampNeg) hx2 (by omega) (by decide)) ((ixe (k := x.toNatClampNeg) hx2 (by omega)).trans (by first | rfl | (simp only [zhs_s, pk_us]; done) | (simp [zhs, upd]; done))) ?_
              refine pv_goto t_X11_said_68 ?_
              exact kF c59
          refine pv_istore_n (i := 3) t_X11_said_72 rfl (Nat.le_of_ble_eq_true rfl) ?_
          refine pv_iinc (v := 1) t_X11_said_73 rfl zi_1 ?_
          refine pv_iinc (v := 1) t_X11_said_76 rfl zi_1 ?_
          refine pv_goto t_X11_said_79 ?_
          refine pv_loc (lv' := [(0, _), (1, _), (2, _), (3, _), (4, _)]) ⟨rfl, rfl, rfl, rfl, rfl, trivial⟩ ?_
          refine ih (i + 1) (by omega) (by omega) _ _ _ _ (nI_1 i) ?_
          have hs9 : (sdL (μ 69) (μ 70) (μ 72) (μ 79) g67 x kc z0 (i + 1)) = sdL_F (μ 69) (μ 70) (μ 72) (μ 79) g67 x kc i ((sdL (μ 69) (μ 70) (μ 72) (μ 79) g67 x kc z0 i).1) ((sdL (μ 69) (μ 70) (μ 72) (μ 79) g67 x kc z0 i).2.1) ((sdL (μ 69) (μ 70) (μ 72) (μ 79) g67 x kc z0 i).2.2) := rfl
          rw [hs9, ← hs]
          show _ = sdL_F (μ 69) (μ 70) (μ 72) (μ 79) g67 x kc i w v rw
          unfold sdL_F
          rw [if_neg c41, if_pos c45]
def a_X11_said (f67 : Nat → Int32) (f69 : Nat → Int32) (f70 : Nat → Int32) (f72 : Nat → Int32) (f79 : Nat → Int32) (f85 : Nat → Int32) (x : Int32) (kc : Nat) (nw : Nat) : Int32 := (if (a_X11_goesOn f72) = 0 then (-1000000003) else if x = ((-1)) then ((sdL f69 f70 f72 f79 (((upd f67 0 0))) x kc ((0, (-1), f85)) nw).1 : Int32) else ((sdL f69 f70 f72 f79 (((upd f67 0 0))) x kc ((0, (-1), f85)) nw).2.1 : Int32))
def w_X11_said_67 (f67 : Nat → Int32) (f72 : Nat → Int32) : Nat → Int32 := (if (a_X11_goesOn f72) = 0 then (upd f67 0 0) else ((upd f67 0 0)))
def w_X11_said_85 (f67 : Nat → Int32) (f69 : Nat → Int32) (f70 : Nat → Int32) (f72 : Nat → Int32) (f79 : Nat → Int32) (f85 : Nat → Int32) (x : Int32) (kc : Nat) (nw : Nat) : Nat → Int32 := (if (a_X11_goesOn f72) = 0 then f85 else (sdL f69 f70 f72 f79 (((upd f67 0 0))) x kc ((0, (-1), f85)) nw).2.2)
theorem e_X11_said {l : Launch} {X : zX} {d : Nat} {μ : zH} {kc nw : Nat} {x : Int32} (hkc : μ 67 26 = nI kc) (hk4 : kc ≤ 4) (hT : ∀ c, c < 8 → nb (μ 70 (5 * c)) 4) (hTm : ∀ i, 33 ≤ i → i < 41 → nb (μ 72 i) 100) (hA : nb (μ 72 20) 4) (hB : nb (μ 72 21) 4) (hS : nb (μ 72 24) 2) (hnw : (1 : Int32) <<< ((3 * nI kc) &&& 31) = nI nw) (hnw9 : nw ≤ 4096) : zRn l X mi_X11_said (d + 9) [.inr 67, .inl (x)] (zSH, μ) (some (.inl (a_X11_said (μ 67) (μ 69) (μ 70) (μ 72) (μ 79) (μ 85) x kc nw))) (zSH, (zhs (zhs μ 67 (w_X11_said_67 (μ 67) (μ 72))) 85 (w_X11_said_85 (μ 67) (μ 69) (μ 70) (μ 72) (μ 79) (μ 85) x kc nw))) := by
  refine pv_aload_n (i := 0) t_X11_said_0 rfl rfl ?_
  refine pv_iconst (v := 0) t_X11_said_1 zi_0 ?_
  refine sv_putI ((zhs μ 67 ((upd (μ 67) 0 0)))) t_X11_said_2 fl_X11_69 zfn_10_0 hh_67 rfl rfl ?_
  refine pv_aload_n (i := 0) t_X11_said_5 rfl rfl ?_
  refine sv_V0 (a_X11_goesOn (μ 72)) ((zhs μ 67 ((upd (μ 67) 0 0)))) t_X11_said_6 ml_X11_155 mo_X11_goesOn hh_67 rfl (Nat.le_of_ble_eq_true rfl) (e_X11_goesOn) (Nat.le_of_ble_eq_true rfl) rfl rfl ?_
  refine pv_if_ne t_X11_said_9 (fun c9 => ?_) (fun c9 => ?_)
  · skip
    refine pv_iconst (v := 0) t_X11_said_15 zi_0 ?_
    refine pv_istore_n (i := 2) t_X11_said_16 rfl (Nat.le_of_ble_eq_true rfl) ?_
    refine pv_iconst (v := -1) t_X11_said_17 zi_m1 ?_
    refine pv_istore_n (i := 3) t_X11_said_18 rfl (Nat.le_of_ble_eq_true rfl) ?_
    refine pv_iconst (v := 0) t_X11_said_19 zi_0 ?_
    refine pv_istore t_X11_said_20 (Nat.le_of_ble_eq_true rfl) ?_
    refine pv_loc (lv' := [(0, .inr 67), (1, .inl x), (2, .inl 0), (3, .inl ((-1))), (4, .inl 0)]) ⟨rfl, rfl, rfl, rfl, rfl, trivial⟩ ?_
    refine zst (S2 := (zSH, (zhs (zhs μ 67 ((upd (μ 67) 0 0))) 85 (μ 85)))) (by symm; rw [zhs_i2 (ν := (zhs μ 67 ((upd (μ 67) 0 0)))) (k := 85) (g := (μ 85)) rfl]) ?_
    refine lp_sdL (x := x) (kc := kc) (nw := nw) (g67 := ((upd (μ 67) 0 0))) (z0 := (0, (-1), (μ 85))) hkc hk4 hT hTm hA hB hS hnw hnw9 ?_ (nw + 1) 0 (by omega) (by omega) _ _ _ _ rfl rfl
    refine pv_iload_n (i := 1) t_X11_said_82 rfl rfl ?_
    refine pv_iconst (v := -1) t_X11_said_83 zi_m1 ?_
    refine sv_phi (c := x = ((-1))) (A := (sdL (μ 69) (μ 70) (μ 72) (μ 79) (((upd (μ 67) 0 0))) x kc ((0, (-1), (μ 85))) nw).1) (B := (sdL (μ 69) (μ 70) (μ 72) (μ 79) (((upd (μ 67) 0 0))) x kc ((0, (-1), (μ 85))) nw).2.1) (J := 92) (lv := [(0, .inr 67), (1, .inl x), (2, .inl ((sdL (μ 69) (μ 70) (μ 72) (μ 79) (((upd (μ 67) 0 0))) x kc ((0, (-1), (μ 85))) nw).1)), (3, .inl ((sdL (μ 69) (μ 70) (μ 72) (μ 79) (((upd (μ 67) 0 0))) x kc ((0, (-1), (μ 85))) nw).2.1)), (4, .inl ((nI nw)))]) (st := []) (S := (zSH, (zhs (zhs μ 67 (((upd (μ 67) 0 0)))) 85 ((sdL (μ 69) (μ 70) (μ 72) (μ 79) (((upd (μ 67) 0 0))) x kc ((0, (-1), (μ 85))) nw).2.2)))) (fun kT kF => ?_) ?_
    · skip
      refine pv_icmp_ne t_X11_said_84 (fun c84 => ?_) (fun c84 => ?_)
      · skip
        refine pv_iload_n (i := 3) t_X11_said_91 rfl rfl ?_
        exact kF c84
      · skip
        refine pv_iload_n (i := 2) t_X11_said_87 rfl rfl ?_
        refine pv_goto t_X11_said_88 ?_
        exact kT c84
    exact pv_ireti t_X11_said_92 rfl (by unfold a_X11_said; rw [if_neg c9]) (Prod.ext rfl (by have e67 : w_X11_said_67 (μ 67) (μ 72) = ((upd (μ 67) 0 0)) := (by unfold w_X11_said_67; rw [if_neg c9]); have e85 : w_X11_said_85 (μ 67) (μ 69) (μ 70) (μ 72) (μ 79) (μ 85) x kc nw = (sdL (μ 69) (μ 70) (μ 72) (μ 79) (((upd (μ 67) 0 0))) x kc ((0, (-1), (μ 85))) nw).2.2 := (by unfold w_X11_said_85; rw [if_neg c9]); show _ = (zhs (zhs μ 67 (w_X11_said_67 (μ 67) (μ 72))) 85 (w_X11_said_85 (μ 67) (μ 69) (μ 70) (μ 72) (μ 79) (μ 85) x kc nw)); symm; rw [e67, e85]))
  · skip
    refine pv_ldc t_X11_said_12 kc_X11_206 ?_
    exact pv_ireti t_X11_said_14 rfl (by unfold a_X11_said; rw [if_pos c9]) (Prod.ext rfl (by have e67 : w_X11_said_67 (μ 67) (μ 72) = (upd (μ 67) 0 0) := (by unfold w_X11_said_67; rw [if_pos c9]); have e85 : w_X11_said_85 (μ 67) (μ 69) (μ 70) (μ 72) (μ 79) (μ 85) x kc nw = (μ 85) := (by unfold w_X11_said_85; rw [if_pos c9]); show _ = (zhs (zhs μ 67 (w_X11_said_67 (μ 67) (μ 72))) 85 (w_X11_said_85 (μ 67) (μ 69) (μ 70) (μ 72) (μ 79) (μ 85) x kc nw)); symm; rw [e67, e85]; rw [zhs_i2 (ν := (zhs μ 67 ((upd (μ 67) 0 0)))) (k := 85) (g := (μ 85)) rfl]))
def suI_F (g85 : Nat → Int32) (i : Nat) (w : Int32) : Int32 := w ||| (1 <<< ((g85 i) &&& 31))
def suI (g85 : Nat → Int32) (z0 : Int32) : Nat → Int32 := zfold (fun i s => suI_F g85 i s) z0
theorem lp_suI {l : Launch} {X : zX} {d : Nat} {μ : zH} {z : Int32} {w0 : Nat} {kc : Nat} {g67 : Nat → Int32} {g85 : Nat → Int32} {z0 : Int32} (hkc : g67 26 = nI kc) (hk4 : kc ≤ 4) {r : Option zV} {S' : zS} (hk : zEv l X mi_X11_surely (d + 9) 71 [(0, .inr 67), (1, .inl z), (2, .inl ((nI w0))), (3, .inl ((suI g85 z0 kc))), (4, .inl (nI kc))] [] (zSH, (zhs (zhs μ 67 g67) 85 g85)) 0 0 r S') : ∀ j i : Nat, i + j = kc + 1 → i ≤ kc → ∀ (y : Int32) (w : Int32), y = nI i → w = (suI g85 z0 i) → zEv l X mi_X11_surely (d + 9) 44 [(0, .inr 67), (1, .inl z), (2, .inl ((nI w0))), (3, .inl w), (4, .inl y)] [] (zSH, (zhs (zhs μ 67 g67) 85 g85)) 0 0 r S' := by
  intro j
  induction j with
  | zero => intros; omega
  | succ j ih =>
    intro i hij hle y w hy hs
    subst hy
    refine pv_iload t_X11_surely_44 rfl ?_
    refine pv_aload_n (i := 0) t_X11_surely_46 rfl rfl ?_
    refine sv_getI (nI kc) t_X11_surely_47 fl_X11_146 hh_67 rfl hkc ?_
    refine pv_icmp_ge t_X11_surely_50 (fun c50 => ?_) (fun c50 => ?_)
    · skip
      have hie : i = kc := by have := (nI_leI (a := kc) (by omega) (by omega)).mp c50; omega
      subst hie
      rw [← hs] at hk
      exact hk
    · skip
      have hin : i < kc := Nat.lt_of_not_le (fun q => c50 (nI_le (a := kc) q (by omega)))
      refine pv_iload_n (i := 3) t_X11_surely_53 rfl rfl ?_
      refine pv_iconst (v := 1) t_X11_surely_54 zi_1 ?_
      refine pv_aload_n (i := 0) t_X11_surely_55 rfl rfl ?_
      refine pv_getR t_X11_surely_56 fl_X11_66 hh_67 rfl ?_
      refine pv_iload t_X11_surely_59 rfl ?_
      refine sv_iald (g85 i) t_X11_surely_61 (Or.inl hh_85) (ixi (k := i) rfl (by omega) (by decide)) ((ixe (k := i) rfl (by omega)).trans (by first | rfl | (simp only [zhs_s, pk_us]; done) | (simp [zhs, upd]; done))) ?_
      refine pv_ishl t_X11_surely_62 ?_
      refine pv_ior t_X11_surely_63 ?_
      refine pv_istore_n (i := 3) t_X11_surely_64 rfl (Nat.le_of_ble_eq_true rfl) ?_
      refine pv_iinc (v := 1) t_X11_surely_65 rfl zi_1 ?_
      refine pv_goto t_X11_surely_68 ?_
      refine pv_loc (lv' := [(0, _), (1, _), (2, _), (3, _), (4, _)]) ⟨rfl, rfl, rfl, rfl, rfl, trivial⟩ ?_
      refine ih (i + 1) (by omega) (by omega) _ _ (nI_1 i) ?_
      have hs9 : (suI g85 z0 (i + 1)) = suI_F g85 i ((suI g85 z0 i)) := rfl
      rw [hs9, ← hs]
      show _ = suI_F g85 i w
      unfold suI_F
      rfl
def suO_F (f69 : Nat → Int32) (f70 : Nat → Int32) (f72 : Nat → Int32) (f79 : Nat → Int32) (g67 : Nat → Int32) (kc : Nat) (i : Nat) (z : Int32) (rw : Nat → Int32) : Int32 × (Nat → Int32) := (if (a_X11_isRow g67 f69 f70 f72 f79 rw ((nI i)) kc) = 0 then (z, (w_X11_isRow_85 g67 f69 f70 f72 f79 rw ((nI i)) kc)) else (if z = ((-1)) then ((suI ((w_X11_isRow_85 g67 f69 f70 f72 f79 rw ((nI i)) kc)) 0 kc) : Int32) else (z &&& ((suI ((w_X11_isRow_85 g67 f69 f70 f72 f79 rw ((nI i)) kc)) 0 kc)) : Int32), ((w_X11_isRow_85 g67 f69 f70 f72 f79 rw ((nI i)) kc))))
def suO (f69 : Nat → Int32) (f70 : Nat → Int32) (f72 : Nat → Int32) (f79 : Nat → Int32) (g67 : Nat → Int32) (kc : Nat) (z0 : Int32 × (Nat → Int32)) : Nat → Int32 × (Nat → Int32) := zfold (fun i s => suO_F f69 f70 f72 f79 g67 kc i s.1 s.2) z0
theorem lp_suO {l : Launch} {X : zX} {d : Nat} {μ : zH} {kc : Nat} {nw : Nat} {g67 : Nat → Int32} {z0 : Int32 × (Nat → Int32)} (hkc : g67 26 = nI kc) (hk4 : kc ≤ 4) (hT : ∀ c, c < 8 → nb (μ 70 (5 * c)) 4) (hTm : ∀ i, 33 ≤ i → i < 41 → nb (μ 72 i) 100) (hA : nb (μ 72 20) 4) (hB : nb (μ 72 21) 4) (hS : nb (μ 72 24) 2) (hnw : (1 : Int32) <<< ((3 * nI kc) &&& 31) = nI nw) (hnw9 : nw ≤ 4096) {r : Option zV} {S' : zS} (hk : zEv l X mi_X11_surely (d + 9) 90 [(0, .inr 67), (1, .inl ((suO (μ 69) (μ 70) (μ 72) (μ 79) g67 kc z0 nw).1)), (2, .inl (nI nw))] [] (zSH, (zhs (zhs μ 67 g67) 85 ((suO (μ 69) (μ 70) (μ 72) (μ 79) g67 kc z0 nw).2))) 0 0 r S') : ∀ j i : Nat, i + j = nw + 1 → i ≤ nw → ∀ (y : Int32) (z : Int32) (rw : Nat → Int32), y = nI i → (z, rw) = (suO (μ 69) (μ 70) (μ 72) (μ 79) g67 kc z0 i) → zEv l X mi_X11_surely (d + 9) 19 [(0, .inr 67), (1, .inl z), (2, .inl y)] [] (zSH, (zhs (zhs μ 67 g67) 85 rw)) 0 0 r S' := by
  intro j
  induction j with
  | zero => intros; omega
  | succ j ih =>
    intro i hij hle y z rw hy hs
    subst hy
    refine pv_iload_n (i := 2) t_X11_surely_19 rfl rfl ?_
    refine pv_iconst (v := 1) t_X11_surely_20 zi_1 ?_
    refine pv_iconst (v := 3) t_X11_surely_21 zi_3 ?_
    refine pv_aload_n (i := 0) t_X11_surely_22 rfl rfl ?_
    refine sv_getI (nI kc) t_X11_surely_23 fl_X11_146 hh_67 rfl hkc ?_
    refine pv_imul t_X11_surely_26 ?_
    refine pv_ishl t_X11_surely_27 ?_
    refine pv_icmp_ge t_X11_surely_28 (fun c28 => ?_) (fun c28 => ?_)
    · skip
      rw [hnw] at c28
      have hie : i = nw := by have := (nI_leI (a := nw) (by omega) (by omega)).mp c28; omega
      subst hie
      rw [← hs] at hk
      exact hk
    · skip
      rw [hnw] at c28
      have hin : i < nw := Nat.lt_of_not_le (fun q => c28 (nI_le (a := nw) q (by omega)))
      refine pv_aload_n (i := 0) t_X11_surely_31 rfl rfl ?_
      refine pv_iload_n (i := 2) t_X11_surely_32 rfl rfl ?_
      refine sv_V1 (a_X11_isRow g67 (μ 69) (μ 70) (μ 72) (μ 79) rw ((nI i)) kc) ((zhs (zhs μ 67 g67) 85 (w_X11_isRow_85 g67 (μ 69) (μ 70) (μ 72) (μ 79) rw ((nI i)) kc))) t_X11_surely_33 ml_X11_263 mo_X11_isRow hh_67 rfl (Nat.le_of_ble_eq_true rfl) (e_X11_isRow hkc hk4 hT hTm hA hB hS) (Nat.le_of_ble_eq_true rfl) rfl (by (try simp (disch := decide) only [zhs_d, zhs_s]); rw [zhs_hs] <;> (first | rfl | (congr 1; funext k_; simp only [upd]; ((repeat' split) <;> first | rfl | (simp_all; done))))) ?_
      refine pv_if_eq t_X11_surely_36 (fun c36 => ?_) (fun c36 => ?_)
      · skip
        refine pv_iinc (v := 1) t_X11_surely_84 rfl zi_1 ?_
        refine pv_goto t_X11_surely_87 ?_
        refine pv_loc (lv' := [(0, _), (1, _), (2, _)]) ⟨rfl, rfl, rfl, trivial⟩ ?_
        refine ih (i + 1) (by omega) (by omega) _ _ _ (nI_1 i) ?_
        have hs9 : (suO (μ 69) (μ 70) (μ 72) (μ 79) g67 kc z0 (i + 1)) = suO_F (μ 69) (μ 70) (μ 72) (μ 79) g67 kc i ((suO (μ 69) (μ 70) (μ 72) (μ 79) g67 kc z0 i).1) ((suO (μ 69) (μ 70) (μ 72) (μ 79) g67 kc z0 i).2) := rfl
        rw [hs9, ← hs]
        show _ = suO_F (μ 69) (μ 70) (μ 72) (μ 79) g67 kc i z rw
        unfold suO_F
        rw [if_pos c36]
      · skip
        refine pv_iconst (v := 0) t_X11_surely_39 zi_0 ?_
        refine pv_istore_n (i := 3) t_X11_surely_40 rfl (Nat.le_of_ble_eq_true rfl) ?_
        refine pv_iconst (v := 0) t_X11_surely_41 zi_0 ?_
        refine pv_istore t_X11_surely_42 (Nat.le_of_ble_eq_true rfl) ?_
        refine pv_loc (lv' := [(0, .inr 67), (1, .inl z), (2, .inl ((nI i))), (3, .inl 0), (4, .inl 0)]) ⟨rfl, rfl, rfl, rfl, rfl, trivial⟩ ?_
        refine lp_suI (z := z) (w0 := i) (kc := kc) (g67 := g67) (g85 := (w_X11_isRow_85 g67 (μ 69) (μ 70) (μ 72) (μ 79) rw ((nI i)) kc)) (z0 := 0) hkc hk4 ?_ (kc + 1) 0 (by omega) (by omega) _ _ rfl rfl
        refine pv_iload_n (i := 1) t_X11_surely_71 rfl rfl ?_
        refine pv_iconst (v := -1) t_X11_surely_72 zi_m1 ?_
        refine sv_phi (c := z = ((-1))) (A := (suI ((w_X11_isRow_85 g67 (μ 69) (μ 70) (μ 72) (μ 79) rw ((nI i)) kc)) 0 kc)) (B := z &&& ((suI ((w_X11_isRow_85 g67 (μ 69) (μ 70) (μ 72) (μ 79) rw ((nI i)) kc)) 0 kc))) (J := 83) (lv := [(0, .inr 67), (1, .inl z), (2, .inl ((nI i))), (3, .inl ((suI ((w_X11_isRow_85 g67 (μ 69) (μ 70) (μ 72) (μ 79) rw ((nI i)) kc)) 0 kc))), (4, .inl ((nI kc)))]) (st := []) (S := (zSH, (zhs (zhs μ 67 g67) 85 ((w_X11_isRow_85 g67 (μ 69) (μ 70) (μ 72) (μ 79) rw ((nI i)) kc))))) (fun kT kF => ?_) ?_
        · skip
          refine pv_icmp_ne t_X11_surely_73 (fun c73 => ?_) (fun c73 => ?_)
          · skip
            refine pv_iload_n (i := 1) t_X11_surely_80 rfl rfl ?_
            refine pv_iload_n (i := 3) t_X11_surely_81 rfl rfl ?_
            refine pv_iand t_X11_surely_82 ?_
            exact kF c73
          · skip
            refine pv_iload_n (i := 3) t_X11_surely_76 rfl rfl ?_
            refine pv_goto t_X11_surely_77 ?_
            exact kT c73
        refine pv_istore_n (i := 1) t_X11_surely_83 rfl (Nat.le_of_ble_eq_true rfl) ?_
        refine pv_iinc (v := 1) t_X11_surely_84 rfl zi_1 ?_
        refine pv_goto t_X11_surely_87 ?_
        refine pv_loc (lv' := [(0, _), (1, _), (2, _)]) ⟨rfl, rfl, rfl, trivial⟩ ?_
        refine ih (i + 1) (by omega) (by omega) _ _ _ (nI_1 i) ?_
        have hs9 : (suO (μ 69) (μ 70) (μ 72) (μ 79) g67 kc z0 (i + 1)) = suO_F (μ 69) (μ 70) (μ 72) (μ 79) g67 kc i ((suO (μ 69) (μ 70) (μ 72) (μ 79) g67 kc z0 i).1) ((suO (μ 69) (μ 70) (μ 72) (μ 79) g67 kc z0 i).2) := rfl
        rw [hs9, ← hs]
        show _ = suO_F (μ 69) (μ 70) (μ 72) (μ 79) g67 kc i z rw
        unfold suO_F
        rw [if_neg c36]
def a_X11_surely (f67 : Nat → Int32) (f69 : Nat → Int32) (f70 : Nat → Int32) (f72 : Nat → Int32) (f79 : Nat → Int32) (f85 : Nat → Int32) (kc : Nat) (nw : Nat) : Int32 := (if (a_X11_goesOn f72) = 0 then (-1000000003) else if ((suO f69 f70 f72 f79 (((upd f67 0 0))) kc (((-1), f85)) nw).1) = ((-1)) then (0 : Int32) else ((suO f69 f70 f72 f79 (((upd f67 0 0))) kc (((-1), f85)) nw).1 : Int32))
def w_X11_surely_67 (f67 : Nat → Int32) (f72 : Nat → Int32) : Nat → Int32 := (if (a_X11_goesOn f72) = 0 then (upd f67 0 0) else ((upd f67 0 0)))
def w_X11_surely_85 (f67 : Nat → Int32) (f69 : Nat → Int32) (f70 : Nat → Int32) (f72 : Nat → Int32) (f79 : Nat → Int32) (f85 : Nat → Int32) (kc : Nat) (nw : Nat) : Nat → Int32 := (if (a_X11_goesOn f72) = 0 then f85 else (suO f69 f70 f72 f79 (((upd f67 0 0))) kc (((-1), f85)) nw).2)
theorem e_X11_surely {l : Launch} {X : zX} {d : Nat} {μ : zH} {kc nw : Nat} (hkc : μ 67 26 = nI kc) (hk4 : kc ≤ 4) (hT : ∀ c, c < 8 → nb (μ 70 (5 * c)) 4) (hTm : ∀ i, 33 ≤ i → i < 41 → nb (μ 72 i) 100) (hA : nb (μ 72 20) 4) (hB : nb (μ 72 21) 4) (hS : nb (μ 72 24) 2) (hnw : (1 : Int32) <<< ((3 * nI kc) &&& 31) = nI nw) (hnw9 : nw ≤ 4096) : zRn l X mi_X11_surely (d + 9) [.inr 67] (zSH, μ) (some (.inl (a_X11_surely (μ 67) (μ 69) (μ 70) (μ 72) (μ 79) (μ 85) kc nw))) (zSH, (zhs (zhs μ 67 (w_X11_surely_67 (μ 67) (μ 72))) 85 (w_X11_surely_85 (μ 67) (μ 69) (μ 70) (μ 72) (μ 79) (μ 85) kc nw))) := by
  refine pv_aload_n (i := 0) t_X11_surely_0 rfl rfl ?_
  refine pv_iconst (v := 0) t_X11_surely_1 zi_0 ?_
  refine sv_putI ((zhs μ 67 ((upd (μ 67) 0 0)))) t_X11_surely_2 fl_X11_69 zfn_10_0 hh_67 rfl rfl ?_
  refine pv_aload_n (i := 0) t_X11_surely_5 rfl rfl ?_
  refine sv_V0 (a_X11_goesOn (μ 72)) ((zhs μ 67 ((upd (μ 67) 0 0)))) t_X11_surely_6 ml_X11_155 mo_X11_goesOn hh_67 rfl (Nat.le_of_ble_eq_true rfl) (e_X11_goesOn) (Nat.le_of_ble_eq_true rfl) rfl rfl ?_
  refine pv_if_ne t_X11_surely_9 (fun c9 => ?_) (fun c9 => ?_)
  · skip
    refine pv_iconst (v := -1) t_X11_surely_15 zi_m1 ?_
    refine pv_istore_n (i := 1) t_X11_surely_16 rfl (Nat.le_of_ble_eq_true rfl) ?_
    refine pv_iconst (v := 0) t_X11_surely_17 zi_0 ?_
    refine pv_istore_n (i := 2) t_X11_surely_18 rfl (Nat.le_of_ble_eq_true rfl) ?_
    refine pv_loc (lv' := [(0, .inr 67), (1, .inl ((-1))), (2, .inl 0)]) ⟨rfl, rfl, rfl, trivial⟩ ?_
    refine zst (S2 := (zSH, (zhs (zhs μ 67 ((upd (μ 67) 0 0))) 85 (μ 85)))) (by symm; rw [zhs_i2 (ν := (zhs μ 67 ((upd (μ 67) 0 0)))) (k := 85) (g := (μ 85)) rfl]) ?_
    refine lp_suO (kc := kc) (nw := nw) (g67 := ((upd (μ 67) 0 0))) (z0 := ((-1), (μ 85))) hkc hk4 hT hTm hA hB hS hnw hnw9 ?_ (nw + 1) 0 (by omega) (by omega) _ _ _ rfl rfl
    refine pv_iload_n (i := 1) t_X11_surely_90 rfl rfl ?_
    refine pv_iconst (v := -1) t_X11_surely_91 zi_m1 ?_
    refine sv_phi (c := ((suO (μ 69) (μ 70) (μ 72) (μ 79) (((upd (μ 67) 0 0))) kc (((-1), (μ 85))) nw).1) = ((-1))) (A := 0) (B := (suO (μ 69) (μ 70) (μ 72) (μ 79) (((upd (μ 67) 0 0))) kc (((-1), (μ 85))) nw).1) (J := 100) (lv := [(0, .inr 67), (1, .inl ((suO (μ 69) (μ 70) (μ 72) (μ 79) (((upd (μ 67) 0 0))) kc (((-1), (μ 85))) nw).1)), (2, .inl ((nI nw)))]) (st := []) (S := (zSH, (zhs (zhs μ 67 (((upd (μ 67) 0 0)))) 85 ((suO (μ 69) (μ 70) (μ 72) (μ 79) (((upd (μ 67) 0 0))) kc (((-1), (μ 85))) nw).2)))) (fun kT kF => ?_) ?_
    · skip
      refine pv_icmp_ne t_X11_surely_92 (fun c92 => ?_) (fun c92 => ?_)
      · skip
        refine pv_iload_n (i := 1) t_X11_surely_99 rfl rfl ?_
        exact kF c92
      · skip
        refine pv_iconst (v := 0) t_X11_surely_95 zi_0 ?_
        refine pv_goto t_X11_surely_96 ?_
        exact kT c92
    exact pv_ireti t_X11_surely_100 rfl (by unfold a_X11_surely; rw [if_neg c9]) (Prod.ext rfl (by have e67 : w_X11_surely_67 (μ 67) (μ 72) = ((upd (μ 67) 0 0)) := (by unfold w_X11_surely_67; rw [if_neg c9]); have e85 : w_X11_surely_85 (μ 67) (μ 69) (μ 70) (μ 72) (μ 79) (μ 85) kc nw = (suO (μ 69) (μ 70) (μ 72) (μ 79) (((upd (μ 67) 0 0))) kc (((-1), (μ 85))) nw).2 := (by unfold w_X11_surely_85; rw [if_neg c9]); show _ = (zhs (zhs μ 67 (w_X11_surely_67 (μ 67) (μ 72))) 85 (w_X11_surely_85 (μ 67) (μ 69) (μ 70) (μ 72) (μ 79) (μ 85) kc nw)); symm; rw [e67, e85]))
  · skip
    refine pv_ldc t_X11_surely_12 kc_X11_206 ?_
    exact pv_ireti t_X11_surely_14 rfl (by unfold a_X11_surely; rw [if_pos c9]) (Prod.ext rfl (by have e67 : w_X11_surely_67 (μ 67) (μ 72) = (upd (μ 67) 0 0) := (by unfold w_X11_surely_67; rw [if_pos c9]); have e85 : w_X11_surely_85 (μ 67) (μ 69) (μ 70) (μ 72) (μ 79) (μ 85) kc nw = (μ 85) := (by unfold w_X11_surely_85; rw [if_pos c9]); show _ = (zhs (zhs μ 67 (w_X11_surely_67 (μ 67) (μ 72))) 85 (w_X11_surely_85 (μ 67) (μ 69) (μ 70) (μ 72) (μ 79) (μ 85) kc nw)); symm; rw [e67, e85]; rw [zhs_i2 (ν := (zhs μ 67 ((upd (μ 67) 0 0)))) (k := 85) (g := (μ 85)) rfl]))
