/-- the rules, for what is tried -/
def tTu (f69 : Nat → Int32) (f70 : Nat → Int32) (f72 : Nat → Int32) (w : Nat → Int32) (t : Int32) : Nat → Int32 := w_X11_turns_73_73 f69 f70 f72 w t
def tCa (f67 : Nat → Int32) (w : Nat → Int32) (t : Int32) : Int32 := a_X11_canTurn_73 f67 w t
def tSc (w : Nat → Int32) (sd : Int32) : Int32 := if w 22 = 3 then 1 else if w 22 = 1 + sd then 2 else 0
def mgV (v : Int32) (k : Nat) (b : Int32 × Int32) : Int32 × Int32 := if b.1 < v then (v, nI k) else b
/-- what comes of a row, turn t and on being untried, b being the best so far, and the turn that it came of -/
def ndV (can : (Nat → Int32) → Int32 → Int32) (tu : (Nat → Int32) → Int32 → (Nat → Int32)) : Nat → (Nat → Int32) → Nat → Int32 × Int32 → Int32 × Int32
  | 0, _, _, b => b
  | fu + 1, r, t, b => if 8 < t ∨ b.1 = 2 then b else if can r (nI t) = 0 then ndV can tu fu r (t + 1) b else if 0 < (tu r (nI t)) 22 then ndV can tu fu r (t + 1) (mgV (tSc (tu r (nI t)) (r 24)) t b) else ndV can tu fu r (t + 1) (mgV (2 - (ndV can tu fu (tu r (nI t)) 0 (-1, 0)).1) t b)
/-- what the rows that are tried keep, and a measure that falls -/
def nI2 (can : (Nat → Int32) → Int32 → Int32) (tu : (Nat → Int32) → Int32 → (Nat → Int32)) (J : Nat → Int32) (I : (Nat → Int32) → Prop) (Mx : (Nat → Int32) → Nat) : Prop :=
  (∀ r, I r → RB r ∧ ¬ can r 8 = 0 ∧ ∀ k, 64 ≤ k → r k = J k) ∧ ∀ r t, I r → t ≤ 8 → ¬ can r (nI t) = 0 → (∀ k, 64 ≤ k → tu r (nI t) k = J k) ∧ (¬ 0 < (tu r (nI t)) 22 → I (tu r (nI t)) ∧ Mx (tu r (nI t)) < Mx r)

theorem nI_m1 (k : Nat) : nI (k + 1) + -1 = nI k := by
  rw [← nI_add]
  show nI k + 1 + -1 = nI k
  rw [Int32.add_assoc]
  exact Int32.add_zero _
theorem nt8 {t : Nat} (h : t ≤ 8) : nI t = 9 ∨ nI t = 8 ∨ nb (nI t) 8 := by
  by_cases e : t = 8
  · subst e; exact Or.inr (Or.inl rfl)
  · exact Or.inr (Or.inr ⟨by rw [nI_clamp (by omega)]; omega, by rw [nI_clamp (by omega)]⟩)
theorem st1_X11_plays {l : Launch} {X : zX} {d : Nat} {μ : zH} {h g73 g81 g82 g83 : Nat → Int32} {bt : Int32} {D t : Nat} {b : Int32} (hD : D < 16) (ht : g82 D = nI t) (ht8 : t ≤ 8) (hb : g83 D = b) (hb2 : ¬ 2 ≤ b) (hb3 : ¬ b = 2) {rr : Option zV} {S' : zS} (hk : zEv l X mi_X11_plays (d + 8) 78 [(0, .inr 67), (1, .inl (nI D))] [] (zSH, (zhs (zhs (zhs (zhs (zhs μ 67 ((upd h 32 bt))) 73 g73) 81 g81) 82 g82) 83 g83)) 0 0 rr S') : zEv l X mi_X11_plays (d + 8) 11 [(0, .inr 67), (1, .inl (nI D))] [] (zSH, (zhs (zhs (zhs (zhs (zhs μ 67 ((upd h 32 bt))) 73 g73) 81 g81) 82 g82) 83 g83)) 0 0 rr S' := by
  refine pv_iload_n (i := 1) t_X11_plays_11 rfl rfl ?_
  refine pv_if_gt t_X11_plays_12 (fun c12 => ?_) (fun c12 => ?_)
  · skip
    refine pv_aload_n (i := 0) t_X11_plays_36 rfl rfl ?_
    refine pv_getR t_X11_plays_37 fl_X11_57 hh_67 rfl ?_
    refine pv_iload_n (i := 1) t_X11_plays_40 rfl rfl ?_
    refine sv_iald (g82 D) t_X11_plays_41 (Or.inl hh_82) (ixi (k := D) rfl (by omega) (by decide)) ((ixe (k := D) rfl (by omega)).trans (by first | rfl | (simp only [zhs_s, pk_us]; done) | (simp [zhs, upd]; done))) ?_
    refine pv_bipush (v := 8) t_X11_plays_42 zb_8 ?_
    refine pv_icmp_gt t_X11_plays_44 (fun c44 => absurd ((nI_ltI (a := 8) (b := t) (by omega) (by omega)).mp (by rw [ht] at c44; exact c44)) (by omega)) (fun c44 => ?_)
    refine pv_aload_n (i := 0) t_X11_plays_47 rfl rfl ?_
    refine pv_getR t_X11_plays_48 fl_X11_60 hh_67 rfl ?_
    refine pv_iload_n (i := 1) t_X11_plays_51 rfl rfl ?_
    refine sv_iald (g83 D) t_X11_plays_52 (Or.inl hh_83) (ixi (k := D) rfl (by omega) (by decide)) ((ixe (k := D) rfl (by omega)).trans (by first | rfl | (simp only [zhs_s, pk_us]; done) | (simp [zhs, upd]; done))) ?_
    refine pv_iconst (v := 2) t_X11_plays_53 zi_2 ?_
    refine pv_icmp_ne t_X11_plays_54 (fun c54 => ?_) (fun c54 => absurd c54 (by rw [hb]; exact hb3))
    refine pv_loc (lv' := [(0, .inr 67), (1, .inl (nI D))]) ⟨rfl, rfl, trivial⟩ ?_
    exact hk
  · skip
    have hD0 : D = 0 := by have := (nI_leI (a := D) (b := 0) (by omega) (by omega)).mp (Int32.not_lt.mp c12); omega
    have ht0 : g82 0 = nI t := by rw [hD0] at ht; exact ht
    have hb0 : g83 0 = b := by rw [hD0] at hb; exact hb
    refine pv_aload_n (i := 0) t_X11_plays_15 rfl rfl ?_
    refine pv_getR t_X11_plays_16 fl_X11_57 hh_67 rfl ?_
    refine pv_iconst (v := 0) t_X11_plays_19 zi_0 ?_
    refine sv_iald (g82 0) t_X11_plays_20 (Or.inl hh_82) (zin (by decide)) rfl ?_
    refine pv_bipush (v := 8) t_X11_plays_21 zb_8 ?_
    refine pv_icmp_gt t_X11_plays_23 (fun c23 => absurd ((nI_ltI (a := 8) (b := t) (by omega) (by omega)).mp (by rw [ht0] at c23; exact c23)) (by omega)) (fun c23 => ?_)
    refine pv_aload_n (i := 0) t_X11_plays_26 rfl rfl ?_
    refine pv_getR t_X11_plays_27 fl_X11_60 hh_67 rfl ?_
    refine pv_iconst (v := 0) t_X11_plays_30 zi_0 ?_
    refine sv_iald (g83 0) t_X11_plays_31 (Or.inl hh_83) (zin (by decide)) rfl ?_
    refine pv_iconst (v := 2) t_X11_plays_32 zi_2 ?_
    refine pv_icmp_ge t_X11_plays_33 (fun c33 => absurd c33 (by rw [hb0]; exact hb2)) (fun c33 => ?_)
    refine pv_aload_n (i := 0) t_X11_plays_36 rfl rfl ?_
    refine pv_getR t_X11_plays_37 fl_X11_57 hh_67 rfl ?_
    refine pv_iload_n (i := 1) t_X11_plays_40 rfl rfl ?_
    refine sv_iald (g82 D) t_X11_plays_41 (Or.inl hh_82) (ixi (k := D) rfl (by omega) (by decide)) ((ixe (k := D) rfl (by omega)).trans (by first | rfl | (simp only [zhs_s, pk_us]; done) | (simp [zhs, upd]; done))) ?_
    refine pv_bipush (v := 8) t_X11_plays_42 zb_8 ?_
    refine pv_icmp_gt t_X11_plays_44 (fun c44 => absurd ((nI_ltI (a := 8) (b := t) (by omega) (by omega)).mp (by rw [ht] at c44; exact c44)) (by omega)) (fun c44 => ?_)
    refine pv_aload_n (i := 0) t_X11_plays_47 rfl rfl ?_
    refine pv_getR t_X11_plays_48 fl_X11_60 hh_67 rfl ?_
    refine pv_iload_n (i := 1) t_X11_plays_51 rfl rfl ?_
    refine sv_iald (g83 D) t_X11_plays_52 (Or.inl hh_83) (ixi (k := D) rfl (by omega) (by decide)) ((ixe (k := D) rfl (by omega)).trans (by first | rfl | (simp only [zhs_s, pk_us]; done) | (simp [zhs, upd]; done))) ?_
    refine pv_iconst (v := 2) t_X11_plays_53 zi_2 ?_
    refine pv_icmp_ne t_X11_plays_54 (fun c54 => ?_) (fun c54 => absurd c54 (by rw [hb]; exact hb3))
    refine pv_loc (lv' := [(0, .inr 67), (1, .inl (nI D))]) ⟨rfl, rfl, trivial⟩ ?_
    exact hk
theorem st2_X11_plays {l : Launch} {X : zX} {d : Nat} {μ : zH} {h g73 g81 g82 g83 : Nat → Int32} {bt : Int32} {w : Nat → Int32} {D t : Nat} (hD : D < 16) (ht : g82 D = nI t) (hw : w_X11_loads_73 g73 g81 D = w) (hR : RB w) {rr : Option zV} {S' : zS} (hk0 : tCa h w (g82 D) = 0 → zEv l X mi_X11_plays (d + 8) 11 [(0, .inr 67), (1, .inl (nI D))] [] (zSH, (zhs (zhs (zhs (zhs (zhs μ 67 ((upd h 32 bt))) 73 w) 81 g81) 82 ((upd g82 D (g82 D + 1)))) 83 g83)) 0 0 rr S') (hk1 : ¬ tCa h w (g82 D) = 0 → zEv l X mi_X11_plays (d + 8) 112 [(0, .inr 67), (1, .inl (nI D)), (2, .inl (nI t))] [] (zSH, (zhs (zhs (zhs (zhs (zhs μ 67 ((upd h 32 bt))) 73 w) 81 g81) 82 ((upd g82 D (g82 D + 1)))) 83 g83)) 0 0 rr S') : zEv l X mi_X11_plays (d + 8) 78 [(0, .inr 67), (1, .inl (nI D))] [] (zSH, (zhs (zhs (zhs (zhs (zhs μ 67 ((upd h 32 bt))) 73 g73) 81 g81) 82 g82) 83 g83)) 0 0 rr S' := by
  refine pv_aload_n (i := 0) t_X11_plays_78 rfl rfl ?_
  refine pv_getR t_X11_plays_79 fl_X11_57 hh_67 rfl ?_
  refine pv_iload_n (i := 1) t_X11_plays_82 rfl rfl ?_
  refine sv_iald (g82 D) t_X11_plays_83 (Or.inl hh_82) (ixi (k := D) rfl (by omega) (by decide)) ((ixe (k := D) rfl (by omega)).trans (by first | rfl | (simp only [zhs_s, pk_us]; done) | (simp [zhs, upd]; done))) ?_
  refine pv_istore_n (i := 2) t_X11_plays_84 rfl (Nat.le_of_ble_eq_true rfl) ?_
  refine pv_aload_n (i := 0) t_X11_plays_85 rfl rfl ?_
  refine pv_getR t_X11_plays_86 fl_X11_57 hh_67 rfl ?_
  refine pv_iload_n (i := 1) t_X11_plays_89 rfl rfl ?_
  refine pv_dup2 t_X11_plays_90 ?_
  refine sv_iald (g82 D) t_X11_plays_91 (Or.inl hh_82) (ixi (k := D) rfl (by omega) (by decide)) ((ixe (k := D) rfl (by omega)).trans (by first | rfl | (simp only [zhs_s, pk_us]; done) | (simp [zhs, upd]; done))) ?_
  refine pv_iconst (v := 1) t_X11_plays_92 zi_1 ?_
  refine pv_iadd t_X11_plays_93 ?_
  refine sv_iast ((zhs (zhs (zhs (zhs (zhs μ 67 ((upd h 32 bt))) 73 g73) 81 g81) 83 g83) 82 ((upd g82 D ((g82 D) + 1))))) t_X11_plays_94 hh_82 (ixi (k := D) rfl (by omega) (by decide)) (by rw [ixc (x := (nI D)) (k := D) rfl (by omega), zhs_cm (μ := (zhs (zhs (zhs μ 67 ((upd h 32 bt))) 73 g73) 81 g81)) (a := 82) (b := 83) (by decide), zhs_hs] <;> (first | rfl | (congr 1; funext k_; simp only [upd]; ((repeat' split) <;> first | rfl | (simp_all; done))))) ?_
  refine pv_aload_n (i := 0) t_X11_plays_95 rfl rfl ?_
  refine pv_iload_n (i := 1) t_X11_plays_96 rfl rfl ?_
  refine sv_WV1 ((zhs (zhs (zhs (zhs (zhs μ 67 ((upd h 32 bt))) 81 g81) 83 g83) 82 ((upd g82 D ((g82 D) + 1)))) 73 (w_X11_loads_73 g73 g81 D))) t_X11_plays_97 ml_X11_232 mo_X11_loads hh_67 rfl (Nat.le_of_ble_eq_true rfl) (e_X11_loads (e0 := D) (by omega)) (Nat.le_of_ble_eq_true rfl) (by (try simp (disch := decide) only [zhs_d, zhs_s]); rw [zhs_cm (μ := (zhs μ 67 ((upd h 32 bt)))) (a := 73) (b := 81) (by decide), zhs_cm (μ := (zhs (zhs μ 67 ((upd h 32 bt))) 81 g81)) (a := 73) (b := 83) (by decide), zhs_cm (μ := (zhs (zhs (zhs μ 67 ((upd h 32 bt))) 81 g81) 83 g83)) (a := 73) (b := 82) (by decide), zhs_hs] <;> (first | rfl | (congr 1; funext k_; simp only [upd]; ((repeat' split) <;> first | rfl | (simp_all; done))))) ?_
  rw [hw]
  have hO := hR.1
  refine pv_aload_n (i := 0) t_X11_plays_100 rfl rfl ?_
  refine pv_aload_n (i := 0) t_X11_plays_101 rfl rfl ?_
  refine pv_getR t_X11_plays_102 fl_X11_29 hh_67 rfl ?_
  refine pv_iload_n (i := 2) t_X11_plays_105 rfl rfl ?_
  refine sv_V2 (a_X11_canTurn_73 ((upd h 32 bt)) w (g82 D)) ((zhs (zhs (zhs (zhs (zhs μ 67 ((upd h 32 bt))) 81 g81) 83 g83) 82 ((upd g82 D ((g82 D) + 1)))) 73 w)) t_X11_plays_106 ml_X11_202 mo_X11_canTurn hh_67 rfl (Nat.le_of_ble_eq_true rfl) (e_X11_canTurn_73 (by repeat (first | exact hO | refine OB.u ?_ (by unfold okW; omega)))) (Nat.le_of_ble_eq_true rfl) rfl rfl ?_
  refine pv_if_eq t_X11_plays_109 (fun c109 => ?_) (fun c109 => ?_)
  · skip
    refine pv_goto t_X11_plays_188 ?_
    refine pv_loc (lv' := [(0, .inr 67), (1, .inl (nI D))]) ⟨rfl, rfl, trivial⟩ ?_
    refine zst (S2 := (zSH, (zhs (zhs (zhs (zhs (zhs μ 67 ((upd h 32 bt))) 73 w) 81 g81) 82 ((upd g82 D ((g82 D) + 1)))) 83 g83))) (by rw [zhs_cm (μ := (zhs (zhs (zhs μ 67 ((upd h 32 bt))) 81 g81) 83 g83)) (a := 82) (b := 73) (by decide), zhs_cm (μ := (zhs (zhs μ 67 ((upd h 32 bt))) 81 g81)) (a := 83) (b := 73) (by decide), zhs_cm (μ := (zhs μ 67 ((upd h 32 bt)))) (a := 81) (b := 73) (by decide), zhs_cm (μ := (zhs (zhs (zhs μ 67 ((upd h 32 bt))) 73 w) 81 g81)) (a := 83) (b := 82) (by decide)] <;> rfl) ?_
    exact hk0 c109
  · skip
    refine pv_loc (lv' := [(0, .inr 67), (1, .inl (nI D)), (2, .inl (g82 D))]) ⟨rfl, rfl, rfl, trivial⟩ ?_
    refine zls (llS (llS (llI (n := t) ht rfl))) ?_
    refine zst (S2 := (zSH, (zhs (zhs (zhs (zhs (zhs μ 67 ((upd h 32 bt))) 73 w) 81 g81) 82 ((upd g82 D ((g82 D) + 1)))) 83 g83))) (by rw [zhs_cm (μ := (zhs (zhs (zhs μ 67 ((upd h 32 bt))) 81 g81) 83 g83)) (a := 82) (b := 73) (by decide), zhs_cm (μ := (zhs (zhs μ 67 ((upd h 32 bt))) 81 g81)) (a := 83) (b := 73) (by decide), zhs_cm (μ := (zhs μ 67 ((upd h 32 bt)))) (a := 81) (b := 73) (by decide), zhs_cm (μ := (zhs (zhs (zhs μ 67 ((upd h 32 bt))) 73 w) 81 g81)) (a := 83) (b := 82) (by decide)] <;> rfl) ?_
    exact hk1 c109
theorem st3_X11_plays {l : Launch} {X : zX} {d : Nat} {μ : zH} {h g73 g81 g82 g83 : Nat → Int32} {bt : Int32} {w : Nat → Int32} {D t : Nat} (hD : D < 16) (ht8 : t ≤ 8) (hT : ∀ c, c < 8 → nb (μ 70 (5 * c)) 4) (hR : RB w) (hD1 : ¬ 0 < (tTu (μ 69) (μ 70) (μ 72) w (nI t)) 22 → D + 1 < 16) {rr : Option zV} {S' : zS} (hk1 : 0 < (tTu (μ 69) (μ 70) (μ 72) w (nI t)) 22 → zEv l X mi_X11_plays (d + 8) 11 [(0, .inr 67), (1, .inl (nI D))] [] (zSH, (zhs (zhs (zhs (zhs (zhs μ 67 ((w_X11_merges_67 (upd h 32 bt) g82 g83 D (tSc (tTu (μ 69) (μ 70) (μ 72) w (nI t)) (w 24))))) 73 ((tTu (μ 69) (μ 70) (μ 72) w (nI t)))) 81 g81) 82 g82) 83 ((w_X11_merges_83 g83 D (tSc (tTu (μ 69) (μ 70) (μ 72) w (nI t)) (w 24)))))) 0 0 rr S') (hk2 : ¬ 0 < (tTu (μ 69) (μ 70) (μ 72) w (nI t)) 22 → zEv l X mi_X11_plays (d + 8) 11 [(0, .inr 67), (1, .inl (nI (D + 1)))] [] (zSH, (zhs (zhs (zhs (zhs (zhs μ 67 ((upd h 32 bt))) 73 ((tTu (μ 69) (μ 70) (μ 72) w (nI t)))) 81 ((w_X11_pushes_81 (tTu (μ 69) (μ 70) (μ 72) w (nI t)) g81 (D + 1)))) 82 ((w_X11_pushes_82 g82 (D + 1)))) 83 ((w_X11_pushes_83 g83 (D + 1))))) 0 0 rr S') : zEv l X mi_X11_plays (d + 8) 112 [(0, .inr 67), (1, .inl (nI D)), (2, .inl (nI t))] [] (zSH, (zhs (zhs (zhs (zhs (zhs μ 67 ((upd h 32 bt))) 73 w) 81 g81) 82 g82) 83 g83)) 0 0 rr S' := by
  refine pv_aload_n (i := 0) t_X11_plays_112 rfl rfl ?_
  refine pv_getR t_X11_plays_113 fl_X11_29 hh_67 rfl ?_
  refine pv_bipush (v := 24) t_X11_plays_116 zb_24 ?_
  refine sv_iald (w 24) t_X11_plays_118 (Or.inl hh_73) (zin (by decide)) rfl ?_
  refine pv_istore_n (i := 3) t_X11_plays_119 rfl (Nat.le_of_ble_eq_true rfl) ?_
  refine pv_aload_n (i := 0) t_X11_plays_120 rfl rfl ?_
  refine pv_aload_n (i := 0) t_X11_plays_121 rfl rfl ?_
  refine pv_getR t_X11_plays_122 fl_X11_29 hh_67 rfl ?_
  refine pv_iload_n (i := 2) t_X11_plays_125 rfl rfl ?_
  have htt := nt8 ht8
  refine sv_WV2 ((zhs (zhs (zhs (zhs (zhs μ 67 ((upd h 32 bt))) 81 g81) 82 g82) 83 g83) 73 (w_X11_turns_73_73 (μ 69) (μ 70) (μ 72) w ((nI t))))) t_X11_plays_126 ml_X11_199 mo_X11_turns hh_67 rfl (Nat.le_of_ble_eq_true rfl) (e_X11_turns_73 hT hR htt) (Nat.le_of_ble_eq_true rfl) (by (try simp (disch := decide) only [zhs_d, zhs_s]); rw [zhs_cm (μ := (zhs μ 67 ((upd h 32 bt)))) (a := 73) (b := 81) (by decide), zhs_cm (μ := (zhs (zhs μ 67 ((upd h 32 bt))) 81 g81)) (a := 73) (b := 82) (by decide), zhs_cm (μ := (zhs (zhs (zhs μ 67 ((upd h 32 bt))) 81 g81) 82 g82)) (a := 73) (b := 83) (by decide), zhs_hs] <;> (first | rfl | (congr 1; funext k_; simp only [upd]; ((repeat' split) <;> first | rfl | (simp_all; done))))) ?_
  refine pv_aload_n (i := 0) t_X11_plays_129 rfl rfl ?_
  refine pv_getR t_X11_plays_130 fl_X11_29 hh_67 rfl ?_
  refine pv_bipush (v := 22) t_X11_plays_133 zb_22 ?_
  refine sv_iald ((w_X11_turns_73_73 (μ 69) (μ 70) (μ 72) w ((nI t))) 22) t_X11_plays_135 (Or.inl hh_73) (zin (by decide)) rfl ?_
  refine pv_if_le t_X11_plays_136 (fun c136 => ?_) (fun c136 => ?_)
  · skip
    have hD2 : D + 1 < 16 := hD1 (Int32.not_lt.mpr c136)
    refine pv_iinc (v := 1) t_X11_plays_180 rfl zi_1 ?_
    refine pv_aload_n (i := 0) t_X11_plays_183 rfl rfl ?_
    refine pv_iload_n (i := 1) t_X11_plays_184 rfl rfl ?_
    refine sv_WV1 ((zhs (zhs (zhs (zhs (zhs μ 67 ((upd h 32 bt))) 73 (w_X11_turns_73_73 (μ 69) (μ 70) (μ 72) w ((nI t)))) 81 (w_X11_pushes_81 (w_X11_turns_73_73 (μ 69) (μ 70) (μ 72) w ((nI t))) g81 ((D + 1)))) 82 (w_X11_pushes_82 g82 ((D + 1)))) 83 (w_X11_pushes_83 g83 ((D + 1))))) t_X11_plays_185 ml_X11_225 mo_X11_pushes hh_67 rfl (Nat.le_of_ble_eq_true rfl) (zas (lcS (lcI (k := (D + 1)) (nIa rfl rfl) rfl)) (e_X11_pushes (e0 := (D + 1)) (by omega))) (Nat.le_of_ble_eq_true rfl) (by (try simp (disch := decide) only [zhs_d, zhs_s]); rw [zhs_cm (μ := (zhs μ 67 ((upd h 32 bt)))) (a := 81) (b := 82) (by decide), zhs_cm (μ := (zhs (zhs μ 67 ((upd h 32 bt))) 82 g82)) (a := 81) (b := 83) (by decide), zhs_cm (μ := (zhs (zhs (zhs μ 67 ((upd h 32 bt))) 82 g82) 83 g83)) (a := 81) (b := 73) (by decide), zhs_hs, zhs_cm (μ := (zhs μ 67 ((upd h 32 bt)))) (a := 82) (b := 83) (by decide), zhs_cm (μ := (zhs (zhs μ 67 ((upd h 32 bt))) 83 g83)) (a := 82) (b := 73) (by decide), zhs_cm (μ := (zhs (zhs (zhs μ 67 ((upd h 32 bt))) 83 g83) 73 (w_X11_turns_73_73 (μ 69) (μ 70) (μ 72) w ((nI t))))) (a := 82) (b := 81) (by decide), zhs_hs, zhs_cm (μ := (zhs μ 67 ((upd h 32 bt)))) (a := 83) (b := 73) (by decide), zhs_cm (μ := (zhs (zhs μ 67 ((upd h 32 bt))) 73 (w_X11_turns_73_73 (μ 69) (μ 70) (μ 72) w ((nI t))))) (a := 83) (b := 81) (by decide), zhs_cm (μ := (zhs (zhs (zhs μ 67 ((upd h 32 bt))) 73 (w_X11_turns_73_73 (μ 69) (μ 70) (μ 72) w ((nI t)))) 81 (w_X11_pushes_81 (w_X11_turns_73_73 (μ 69) (μ 70) (μ 72) w ((nI t))) g81 ((D + 1))))) (a := 83) (b := 82) (by decide), zhs_hs] <;> (first | rfl | (congr 1; funext k_; simp only [upd]; ((repeat' split) <;> first | rfl | (simp_all; done))))) ?_
    refine pv_goto t_X11_plays_188 ?_
    refine pv_loc (lv' := [(0, .inr 67), (1, .inl (nI D + 1))]) ⟨rfl, rfl, trivial⟩ ?_
    refine zls (llS (llI (n := D + 1) (nIa rfl rfl) rfl)) ?_
    exact hk2 (Int32.not_lt.mpr c136)
  · skip
    refine pv_aload_n (i := 0) t_X11_plays_139 rfl rfl ?_
    refine pv_iload_n (i := 1) t_X11_plays_140 rfl rfl ?_
    refine pv_aload_n (i := 0) t_X11_plays_141 rfl rfl ?_
    refine pv_getR t_X11_plays_142 fl_X11_29 hh_67 rfl ?_
    refine pv_bipush (v := 22) t_X11_plays_145 zb_22 ?_
    refine sv_iald ((w_X11_turns_73_73 (μ 69) (μ 70) (μ 72) w ((nI t))) 22) t_X11_plays_147 (Or.inl hh_73) (zin (by decide)) rfl ?_
    refine pv_iconst (v := 3) t_X11_plays_148 zi_3 ?_
    refine sv_phi (c := ((w_X11_turns_73_73 (μ 69) (μ 70) (μ 72) w ((nI t))) 22) = 3) (A := 1) (B := if ((w_X11_turns_73_73 (μ 69) (μ 70) (μ 72) w ((nI t))) 22) = (1 + (w 24)) then (2 : Int32) else (0 : Int32)) (J := 174) (lv := [(0, .inr 67), (1, .inl ((nI D))), (2, .inl ((nI t))), (3, .inl (w 24))]) (st := [.inl ((nI D)), .inr 67]) (S := (zSH, (zhs (zhs (zhs (zhs (zhs μ 67 ((upd h 32 bt))) 81 g81) 82 g82) 83 g83) 73 (w_X11_turns_73_73 (μ 69) (μ 70) (μ 72) w ((nI t)))))) (fun kT kF => ?_) ?_
    · skip
      refine pv_icmp_ne t_X11_plays_149 (fun c149 => ?_) (fun c149 => ?_)
      · skip
        refine pv_aload_n (i := 0) t_X11_plays_156 rfl rfl ?_
        refine pv_getR t_X11_plays_157 fl_X11_29 hh_67 rfl ?_
        refine pv_bipush (v := 22) t_X11_plays_160 zb_22 ?_
        refine sv_iald ((w_X11_turns_73_73 (μ 69) (μ 70) (μ 72) w ((nI t))) 22) t_X11_plays_162 (Or.inl hh_73) (zin (by decide)) rfl ?_
        refine pv_iconst (v := 1) t_X11_plays_163 zi_1 ?_
        refine pv_iload_n (i := 3) t_X11_plays_164 rfl rfl ?_
        refine pv_iadd t_X11_plays_165 ?_
        refine sv_phi (c := ((w_X11_turns_73_73 (μ 69) (μ 70) (μ 72) w ((nI t))) 22) = (1 + (w 24))) (A := 2) (B := 0) (J := 174) (lv := [(0, .inr 67), (1, .inl ((nI D))), (2, .inl ((nI t))), (3, .inl (w 24))]) (st := [.inl ((nI D)), .inr 67]) (S := (zSH, (zhs (zhs (zhs (zhs (zhs μ 67 ((upd h 32 bt))) 81 g81) 82 g82) 83 g83) 73 (w_X11_turns_73_73 (μ 69) (μ 70) (μ 72) w ((nI t)))))) (fun kT kF => ?_) ?_
        · skip
          refine pv_icmp_ne t_X11_plays_166 (fun c166 => ?_) (fun c166 => ?_)
          · skip
            refine pv_iconst (v := 0) t_X11_plays_173 zi_0 ?_
            exact kF c166
          · skip
            refine pv_iconst (v := 2) t_X11_plays_169 zi_2 ?_
            refine pv_goto t_X11_plays_170 ?_
            exact kT c166
        exact kF c149
      · skip
        refine pv_iconst (v := 1) t_X11_plays_152 zi_1 ?_
        refine pv_goto t_X11_plays_153 ?_
        exact kT c149
    refine sv_WV2 ((zhs (zhs (zhs (zhs (zhs μ 81 g81) 82 g82) 73 (w_X11_turns_73_73 (μ 69) (μ 70) (μ 72) w ((nI t)))) 83 (w_X11_merges_83 g83 D (if ((w_X11_turns_73_73 (μ 69) (μ 70) (μ 72) w ((nI t))) 22) = 3 then (1 : Int32) else (if ((w_X11_turns_73_73 (μ 69) (μ 70) (μ 72) w ((nI t))) 22) = (1 + (w 24)) then (2 : Int32) else (0 : Int32) : Int32)))) 67 (w_X11_merges_67 ((upd h 32 bt)) g82 g83 D (if ((w_X11_turns_73_73 (μ 69) (μ 70) (μ 72) w ((nI t))) 22) = 3 then (1 : Int32) else (if ((w_X11_turns_73_73 (μ 69) (μ 70) (μ 72) w ((nI t))) 22) = (1 + (w 24)) then (2 : Int32) else (0 : Int32) : Int32))))) t_X11_plays_174 ml_X11_228 mo_X11_merges hh_67 rfl (Nat.le_of_ble_eq_true rfl) (e_X11_merges (e0 := D) (by omega)) (Nat.le_of_ble_eq_true rfl) (by (try simp (disch := decide) only [zhs_d, zhs_s]); rw [zhs_cm (μ := μ) (a := 67) (b := 81) (by decide), zhs_cm (μ := (zhs μ 81 g81)) (a := 67) (b := 82) (by decide), zhs_cm (μ := (zhs (zhs μ 81 g81) 82 g82)) (a := 67) (b := 83) (by decide), zhs_cm (μ := (zhs (zhs (zhs μ 81 g81) 82 g82) 83 g83)) (a := 67) (b := 73) (by decide), zhs_cm (μ := (zhs (zhs (zhs (zhs μ 81 g81) 82 g82) 83 g83) 73 (w_X11_turns_73_73 (μ 69) (μ 70) (μ 72) w ((nI t))))) (a := 67) (b := 83) (by decide), zhs_hs, zhs_cm (μ := (zhs (zhs μ 81 g81) 82 g82)) (a := 83) (b := 73) (by decide), zhs_hs] <;> (first | rfl | (congr 1; funext k_; simp only [upd]; ((repeat' split) <;> first | rfl | (simp_all; done))))) ?_
    refine pv_goto t_X11_plays_177 ?_
    refine pv_goto t_X11_plays_188 ?_
    refine pv_loc (lv' := [(0, .inr 67), (1, .inl (nI D))]) ⟨rfl, rfl, trivial⟩ ?_
    refine zst (S2 := (zSH, (zhs (zhs (zhs (zhs (zhs μ 67 (w_X11_merges_67 ((upd h 32 bt)) g82 g83 D (if ((w_X11_turns_73_73 (μ 69) (μ 70) (μ 72) w ((nI t))) 22) = 3 then (1 : Int32) else (if ((w_X11_turns_73_73 (μ 69) (μ 70) (μ 72) w ((nI t))) 22) = (1 + (w 24)) then (2 : Int32) else (0 : Int32) : Int32)))) 73 (w_X11_turns_73_73 (μ 69) (μ 70) (μ 72) w ((nI t)))) 81 g81) 82 g82) 83 (w_X11_merges_83 g83 D (if ((w_X11_turns_73_73 (μ 69) (μ 70) (μ 72) w ((nI t))) 22) = 3 then (1 : Int32) else (if ((w_X11_turns_73_73 (μ 69) (μ 70) (μ 72) w ((nI t))) 22) = (1 + (w 24)) then (2 : Int32) else (0 : Int32) : Int32)))))) (by rw [zhs_cm (μ := (zhs (zhs (zhs μ 81 g81) 82 g82) 73 (w_X11_turns_73_73 (μ 69) (μ 70) (μ 72) w ((nI t))))) (a := 83) (b := 67) (by decide), zhs_cm (μ := (zhs (zhs μ 81 g81) 82 g82)) (a := 73) (b := 67) (by decide), zhs_cm (μ := (zhs μ 81 g81)) (a := 82) (b := 67) (by decide), zhs_cm (μ := μ) (a := 81) (b := 67) (by decide), zhs_cm (μ := (zhs (zhs μ 67 (w_X11_merges_67 ((upd h 32 bt)) g82 g83 D (if ((w_X11_turns_73_73 (μ 69) (μ 70) (μ 72) w ((nI t))) 22) = 3 then (1 : Int32) else (if ((w_X11_turns_73_73 (μ 69) (μ 70) (μ 72) w ((nI t))) 22) = (1 + (w 24)) then (2 : Int32) else (0 : Int32) : Int32)))) 81 g81)) (a := 82) (b := 73) (by decide), zhs_cm (μ := (zhs μ 67 (w_X11_merges_67 ((upd h 32 bt)) g82 g83 D (if ((w_X11_turns_73_73 (μ 69) (μ 70) (μ 72) w ((nI t))) 22) = 3 then (1 : Int32) else (if ((w_X11_turns_73_73 (μ 69) (μ 70) (μ 72) w ((nI t))) 22) = (1 + (w 24)) then (2 : Int32) else (0 : Int32) : Int32))))) (a := 81) (b := 73) (by decide)] <;> rfl) ?_
    exact hk1 (Int32.not_le.mp c136)
theorem st4_X11_plays {l : Launch} {X : zX} {d : Nat} {μ : zH} {h g73 g81 g82 g83 : Nat → Int32} {bt : Int32} {D : Nat} (hD : D + 1 < 16) (hc : 8 < g82 (D + 1) ∨ g83 (D + 1) = 2) {rr : Option zV} {S' : zS} (hk : zEv l X mi_X11_plays (d + 8) 11 [(0, .inr 67), (1, .inl (nI D))] [] (zSH, (zhs (zhs (zhs (zhs (zhs μ 67 ((w_X11_merges_67 (upd h 32 bt) g82 g83 D (2 - g83 (D + 1))))) 73 g73) 81 g81) 82 g82) 83 ((w_X11_merges_83 g83 D (2 - g83 (D + 1)))))) 0 0 rr S') : zEv l X mi_X11_plays (d + 8) 11 [(0, .inr 67), (1, .inl (nI (D + 1)))] [] (zSH, (zhs (zhs (zhs (zhs (zhs μ 67 ((upd h 32 bt))) 73 g73) 81 g81) 82 g82) 83 g83)) 0 0 rr S' := by
  refine pv_iload_n (i := 1) t_X11_plays_11 rfl rfl ?_
  refine pv_if_gt t_X11_plays_12 (fun c12 => ?_) (fun c12 => absurd ((nI_ltI (a := 0) (b := D + 1) (by omega) (by omega)).mpr (by omega)) c12)
  refine pv_aload_n (i := 0) t_X11_plays_36 rfl rfl ?_
  refine pv_getR t_X11_plays_37 fl_X11_57 hh_67 rfl ?_
  refine pv_iload_n (i := 1) t_X11_plays_40 rfl rfl ?_
  refine sv_iald (g82 ((D + 1))) t_X11_plays_41 (Or.inl hh_82) (ixi (k := (D + 1)) rfl (by omega) (by decide)) ((ixe (k := (D + 1)) rfl (by omega)).trans (by first | rfl | (simp only [zhs_s, pk_us]; done) | (simp [zhs, upd]; done))) ?_
  refine pv_bipush (v := 8) t_X11_plays_42 zb_8 ?_
  refine pv_icmp_gt t_X11_plays_44 (fun c44 => ?_) (fun c44 => ?_)
  · skip
    refine pv_iconst (v := 2) t_X11_plays_57 zi_2 ?_
    refine pv_aload_n (i := 0) t_X11_plays_58 rfl rfl ?_
    refine pv_getR t_X11_plays_59 fl_X11_60 hh_67 rfl ?_
    refine pv_iload_n (i := 1) t_X11_plays_62 rfl rfl ?_
    refine sv_iald (g83 ((D + 1))) t_X11_plays_63 (Or.inl hh_83) (ixi (k := (D + 1)) rfl (by omega) (by decide)) ((ixe (k := (D + 1)) rfl (by omega)).trans (by first | rfl | (simp only [zhs_s, pk_us]; done) | (simp [zhs, upd]; done))) ?_
    refine pv_isub t_X11_plays_64 ?_
    refine pv_istore_n (i := 2) t_X11_plays_65 rfl (Nat.le_of_ble_eq_true rfl) ?_
    refine pv_iinc (v := -1) t_X11_plays_66 rfl zi_m1 ?_
    refine pv_aload_n (i := 0) t_X11_plays_69 rfl rfl ?_
    refine pv_iload_n (i := 1) t_X11_plays_70 rfl rfl ?_
    refine pv_iload_n (i := 2) t_X11_plays_71 rfl rfl ?_
    refine sv_WV2 ((zhs (zhs (zhs (zhs (zhs μ 73 g73) 81 g81) 82 g82) 83 (w_X11_merges_83 g83 D (2 - (g83 ((D + 1)))))) 67 (w_X11_merges_67 ((upd h 32 bt)) g82 g83 D (2 - (g83 ((D + 1))))))) t_X11_plays_72 ml_X11_228 mo_X11_merges hh_67 rfl (Nat.le_of_ble_eq_true rfl) (zas (lcS (lcI (k := D) (nI_m1 D) (lcS rfl))) (e_X11_merges (e0 := D) (by omega))) (Nat.le_of_ble_eq_true rfl) (by (try simp (disch := decide) only [zhs_d, zhs_s]); rw [zhs_cm (μ := μ) (a := 67) (b := 73) (by decide), zhs_cm (μ := (zhs μ 73 g73)) (a := 67) (b := 81) (by decide), zhs_cm (μ := (zhs (zhs μ 73 g73) 81 g81)) (a := 67) (b := 82) (by decide), zhs_cm (μ := (zhs (zhs (zhs μ 73 g73) 81 g81) 82 g82)) (a := 67) (b := 83) (by decide), zhs_cm (μ := (zhs (zhs (zhs (zhs μ 73 g73) 81 g81) 82 g82) 83 g83)) (a := 67) (b := 83) (by decide), zhs_hs, zhs_hs] <;> (first | rfl | (congr 1; funext k_; simp only [upd]; ((repeat' split) <;> first | rfl | (simp_all; done))))) ?_
    refine pv_goto t_X11_plays_75 ?_
    refine pv_loc (lv' := [(0, .inr 67), (1, .inl (nI (D + 1) + -1))]) ⟨rfl, rfl, trivial⟩ ?_
    rw [nI_m1]
    refine zst (S2 := (zSH, (zhs (zhs (zhs (zhs (zhs μ 67 (w_X11_merges_67 ((upd h 32 bt)) g82 g83 D (2 - (g83 ((D + 1)))))) 73 g73) 81 g81) 82 g82) 83 (w_X11_merges_83 g83 D (2 - (g83 ((D + 1)))))))) (by rw [zhs_cm (μ := (zhs (zhs (zhs μ 73 g73) 81 g81) 82 g82)) (a := 83) (b := 67) (by decide), zhs_cm (μ := (zhs (zhs μ 73 g73) 81 g81)) (a := 82) (b := 67) (by decide), zhs_cm (μ := (zhs μ 73 g73)) (a := 81) (b := 67) (by decide), zhs_cm (μ := μ) (a := 73) (b := 67) (by decide)] <;> rfl) ?_
    exact hk
  · skip
    refine pv_aload_n (i := 0) t_X11_plays_47 rfl rfl ?_
    refine pv_getR t_X11_plays_48 fl_X11_60 hh_67 rfl ?_
    refine pv_iload_n (i := 1) t_X11_plays_51 rfl rfl ?_
    refine sv_iald (g83 ((D + 1))) t_X11_plays_52 (Or.inl hh_83) (ixi (k := (D + 1)) rfl (by omega) (by decide)) ((ixe (k := (D + 1)) rfl (by omega)).trans (by first | rfl | (simp only [zhs_s, pk_us]; done) | (simp [zhs, upd]; done))) ?_
    refine pv_iconst (v := 2) t_X11_plays_53 zi_2 ?_
    refine pv_icmp_ne t_X11_plays_54 (fun c54 => absurd (hc.resolve_left (fun q => c44 q)) c54) (fun c54 => ?_)
    refine pv_iconst (v := 2) t_X11_plays_57 zi_2 ?_
    refine pv_aload_n (i := 0) t_X11_plays_58 rfl rfl ?_
    refine pv_getR t_X11_plays_59 fl_X11_60 hh_67 rfl ?_
    refine pv_iload_n (i := 1) t_X11_plays_62 rfl rfl ?_
    refine sv_iald (g83 ((D + 1))) t_X11_plays_63 (Or.inl hh_83) (ixi (k := (D + 1)) rfl (by omega) (by decide)) ((ixe (k := (D + 1)) rfl (by omega)).trans (by first | rfl | (simp only [zhs_s, pk_us]; done) | (simp [zhs, upd]; done))) ?_
    refine pv_isub t_X11_plays_64 ?_
    refine pv_istore_n (i := 2) t_X11_plays_65 rfl (Nat.le_of_ble_eq_true rfl) ?_
    refine pv_iinc (v := -1) t_X11_plays_66 rfl zi_m1 ?_
    refine pv_aload_n (i := 0) t_X11_plays_69 rfl rfl ?_
    refine pv_iload_n (i := 1) t_X11_plays_70 rfl rfl ?_
    refine pv_iload_n (i := 2) t_X11_plays_71 rfl rfl ?_
    refine sv_WV2 ((zhs (zhs (zhs (zhs (zhs μ 73 g73) 81 g81) 82 g82) 83 (w_X11_merges_83 g83 D (2 - (g83 ((D + 1)))))) 67 (w_X11_merges_67 ((upd h 32 bt)) g82 g83 D (2 - (g83 ((D + 1))))))) t_X11_plays_72 ml_X11_228 mo_X11_merges hh_67 rfl (Nat.le_of_ble_eq_true rfl) (zas (lcS (lcI (k := D) (nI_m1 D) (lcS rfl))) (e_X11_merges (e0 := D) (by omega))) (Nat.le_of_ble_eq_true rfl) (by (try simp (disch := decide) only [zhs_d, zhs_s]); rw [zhs_cm (μ := μ) (a := 67) (b := 73) (by decide), zhs_cm (μ := (zhs μ 73 g73)) (a := 67) (b := 81) (by decide), zhs_cm (μ := (zhs (zhs μ 73 g73) 81 g81)) (a := 67) (b := 82) (by decide), zhs_cm (μ := (zhs (zhs (zhs μ 73 g73) 81 g81) 82 g82)) (a := 67) (b := 83) (by decide), zhs_cm (μ := (zhs (zhs (zhs (zhs μ 73 g73) 81 g81) 82 g82) 83 g83)) (a := 67) (b := 83) (by decide), zhs_hs, zhs_hs] <;> (first | rfl | (congr 1; funext k_; simp only [upd]; ((repeat' split) <;> first | rfl | (simp_all; done))))) ?_
    refine pv_goto t_X11_plays_75 ?_
    refine pv_loc (lv' := [(0, .inr 67), (1, .inl (nI (D + 1) + -1))]) ⟨rfl, rfl, trivial⟩ ?_
    rw [nI_m1]
    refine zst (S2 := (zSH, (zhs (zhs (zhs (zhs (zhs μ 67 (w_X11_merges_67 ((upd h 32 bt)) g82 g83 D (2 - (g83 ((D + 1)))))) 73 g73) 81 g81) 82 g82) 83 (w_X11_merges_83 g83 D (2 - (g83 ((D + 1)))))))) (by rw [zhs_cm (μ := (zhs (zhs (zhs μ 73 g73) 81 g81) 82 g82)) (a := 83) (b := 67) (by decide), zhs_cm (μ := (zhs (zhs μ 73 g73) 81 g81)) (a := 82) (b := 67) (by decide), zhs_cm (μ := (zhs μ 73 g73)) (a := 81) (b := 67) (by decide), zhs_cm (μ := μ) (a := 73) (b := 67) (by decide)] <;> rfl) ?_
    exact hk
theorem st5_X11_plays {l : Launch} {X : zX} {d : Nat} {μ : zH} {h g73 g81 g82 g83 : Nat → Int32} {bt : Int32} (hc : 8 < g82 0 ∨ 2 ≤ g83 0) : zEv l X mi_X11_plays (d + 8) 11 [(0, .inr 67), (1, .inl (nI 0))] [] (zSH, (zhs (zhs (zhs (zhs (zhs μ 67 ((upd h 32 bt))) 73 g73) 81 g81) 82 g82) 83 g83)) 0 0 (some (.inl (g83 0))) (zSH, (zhs (zhs (zhs (zhs (zhs μ 67 ((upd h 32 bt))) 73 g73) 81 g81) 82 g82) 83 g83)) := by
  refine pv_iload_n (i := 1) t_X11_plays_11 rfl rfl ?_
  refine pv_if_gt t_X11_plays_12 (fun c12 => absurd ((nI_ltI (a := 0) (b := 0) (by omega) (by omega)).mp c12) (by omega)) (fun c12 => ?_)
  refine pv_aload_n (i := 0) t_X11_plays_15 rfl rfl ?_
  refine pv_getR t_X11_plays_16 fl_X11_57 hh_67 rfl ?_
  refine pv_iconst (v := 0) t_X11_plays_19 zi_0 ?_
  refine sv_iald (g82 0) t_X11_plays_20 (Or.inl hh_82) (zin (by decide)) rfl ?_
  refine pv_bipush (v := 8) t_X11_plays_21 zb_8 ?_
  refine pv_icmp_gt t_X11_plays_23 (fun c23 => ?_) (fun c23 => ?_)
  · skip
    refine pv_aload_n (i := 0) t_X11_plays_191 rfl rfl ?_
    refine pv_getR t_X11_plays_192 fl_X11_60 hh_67 rfl ?_
    refine pv_iconst (v := 0) t_X11_plays_195 zi_0 ?_
    refine sv_iald (g83 0) t_X11_plays_196 (Or.inl hh_83) (zin (by decide)) rfl ?_
    exact pv_ireti t_X11_plays_197 rfl rfl rfl
  · skip
    refine pv_aload_n (i := 0) t_X11_plays_26 rfl rfl ?_
    refine pv_getR t_X11_plays_27 fl_X11_60 hh_67 rfl ?_
    refine pv_iconst (v := 0) t_X11_plays_30 zi_0 ?_
    refine sv_iald (g83 0) t_X11_plays_31 (Or.inl hh_83) (zin (by decide)) rfl ?_
    refine pv_iconst (v := 2) t_X11_plays_32 zi_2 ?_
    refine pv_icmp_ge t_X11_plays_33 (fun c33 => ?_) (fun c33 => absurd (hc.resolve_left c23) c33)
    refine pv_aload_n (i := 0) t_X11_plays_191 rfl rfl ?_
    refine pv_getR t_X11_plays_192 fl_X11_60 hh_67 rfl ?_
    refine pv_iconst (v := 0) t_X11_plays_195 zi_0 ?_
    refine sv_iald (g83 0) t_X11_plays_196 (Or.inl hh_83) (zin (by decide)) rfl ?_
    exact pv_ireti t_X11_plays_197 rfl rfl rfl
