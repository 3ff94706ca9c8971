def imax (a b : Int32) : Int32 := if a < b then b else a
def hdS (pa ne dn va : Nat → Int32) (e v t : Int32) : Nat → Int32 := zfold (fun c a => if part pa (nI c) 0 = t ∧ tru ne dn (nI c) e = 2 ∧ 0 < part pa (nI c) 1 then imax a (vanO va e t - (v - 1) / part pa (nI c) 1) else a) 0
theorem hdS_s (pa ne dn va : Nat → Int32) (e v t : Int32) (c : Nat) : hdS pa ne dn va e v t (c + 1) = if part pa (nI c) 0 = t ∧ tru ne dn (nI c) e = 2 ∧ 0 < part pa (nI c) 1 then imax (hdS pa ne dn va e v t c) (vanO va e t - (v - 1) / part pa (nI c) 1) else hdS pa ne dn va e v t c := rfl
theorem lp_X2_hardenedBy {l : Launch} {X : zX} {d : Nat} {Ψ : List zC} {μ : zH} {m tr pa ne fd : Nat} (hm : oM Ψ m tr pa ne fd) {f dn va : Nat} (hf : oF Ψ f m dn va) {nc : Nat} (hnc : μ m 1 = nI nc) (hc8 : nc ≤ 8) {e v t : Int32} : ∀ j i : Nat, i + j = nc + 1 → i ≤ nc → ∀ (x : Int32) (a : Int32), x = nI i → a = hdS (μ pa) (μ ne) (μ dn) (μ va) e v t i → zEv l X mi_X2_hardenedBy (d + 2) 6 [(0, .inr f), (1, .inl e), (2, .inl v), (3, .inl t), (4, .inl a), (5, .inl x)] [] (Ψ, μ) 0 0 (some (.inl (hdS (μ pa) (μ ne) (μ dn) (μ va) e v t nc))) (Ψ, μ) := by
  intro j
  induction j with
  | zero => intro i h h2; omega
  | succ j ih =>
    intro i hij hle x a hx ha 
    subst hx
    refine pv_iload t_X2_hardenedBy_6 rfl ?_
    refine pv_aload_n (i := 0) t_X2_hardenedBy_8 rfl rfl ?_
    refine pv_getR t_X2_hardenedBy_9 fl_X2_18 hf.1 rfl ?_
    refine pv_getI t_X2_hardenedBy_12 fl_X2_61 hm.1 rfl ?_
    refine pv_icmp_ge t_X2_hardenedBy_15 (fun c15 => ?_) (fun c15 => ?_)
    · skip
      rw [hnc] at c15
      have hie : i = nc := by have := (nI_leI (by omega) (by omega)).mp c15; omega
      rw [ha, hie]
      refine pv_iload t_X2_hardenedBy_86 rfl ?_
      exact pv_ireti t_X2_hardenedBy_88 rfl rfl rfl
    · skip
      rw [hnc] at c15
      have hin : i < nc := Nat.lt_of_not_le (fun q => c15 (nI_le q (by omega)))
      refine pv_aload_n (i := 0) t_X2_hardenedBy_18 rfl rfl ?_
      refine pv_getR t_X2_hardenedBy_19 fl_X2_18 hf.1 rfl ?_
      refine pv_iload t_X2_hardenedBy_22 rfl ?_
      refine pv_iconst (v := 1) t_X2_hardenedBy_24 zi_1 ?_
      refine pv_gV2 t_X2_hardenedBy_25 ml_X2_44 mo_X4_part hm.1 rfl (Nat.le_of_ble_eq_true rfl) (e_X4_part hm) (Nat.le_of_ble_eq_true rfl) ?_
      refine pv_istore t_X2_hardenedBy_28 (Nat.le_of_ble_eq_true rfl) ?_
      refine pv_aload_n (i := 0) t_X2_hardenedBy_30 rfl rfl ?_
      refine pv_getR t_X2_hardenedBy_31 fl_X2_18 hf.1 rfl ?_
      refine pv_iload t_X2_hardenedBy_34 rfl ?_
      refine pv_iconst (v := 0) t_X2_hardenedBy_36 zi_0 ?_
      refine pv_gV2 t_X2_hardenedBy_37 ml_X2_44 mo_X4_part hm.1 rfl (Nat.le_of_ble_eq_true rfl) (e_X4_part hm) (Nat.le_of_ble_eq_true rfl) ?_
      refine pv_iload_n (i := 3) t_X2_hardenedBy_40 rfl rfl ?_
      refine pv_icmp_ne t_X2_hardenedBy_41 (fun c41 => ?_) (fun c41 => ?_)
      · skip
        have hq : ¬ (part (μ pa) (nI i) 0 = t ∧ tru (μ ne) (μ dn) (nI i) e = 2 ∧ 0 < part (μ pa) (nI i) 1) := fun q => c41 q.1
        refine pv_iinc (v := 1) t_X2_hardenedBy_80 rfl zi_1 ?_
        refine pv_goto t_X2_hardenedBy_83 ?_
        refine pv_loc (lv' := [(0, _), (1, _), (2, _), (3, _), (4, _), (5, _)]) ⟨rfl, rfl, rfl, rfl, rfl, rfl, trivial⟩ ?_
        refine ih (i + 1) (by omega) (by omega) _ _ (nI_1 i) ?_
        subst ha
        rw [hdS_s]
        first | rw [if_pos hq] | rw [if_neg hq]
        try rfl
      · skip
        refine pv_aload_n (i := 0) t_X2_hardenedBy_44 rfl rfl ?_
        refine pv_iload t_X2_hardenedBy_45 rfl ?_
        refine pv_iload_n (i := 1) t_X2_hardenedBy_47 rfl rfl ?_
        refine pv_gV2 t_X2_hardenedBy_48 ml_X2_54 mo_X2_truthOf hf.1 rfl (Nat.le_of_ble_eq_true rfl) (e_X2_truthOf hm hf) (Nat.le_of_ble_eq_true rfl) ?_
        refine pv_iconst (v := 2) t_X2_hardenedBy_51 zi_2 ?_
        refine pv_icmp_ne t_X2_hardenedBy_52 (fun c52 => ?_) (fun c52 => ?_)
        · skip
          have hq : ¬ (part (μ pa) (nI i) 0 = t ∧ tru (μ ne) (μ dn) (nI i) e = 2 ∧ 0 < part (μ pa) (nI i) 1) := fun q => c52 q.2.1
          refine pv_iinc (v := 1) t_X2_hardenedBy_80 rfl zi_1 ?_
          refine pv_goto t_X2_hardenedBy_83 ?_
          refine pv_loc (lv' := [(0, _), (1, _), (2, _), (3, _), (4, _), (5, _)]) ⟨rfl, rfl, rfl, rfl, rfl, rfl, trivial⟩ ?_
          refine ih (i + 1) (by omega) (by omega) _ _ (nI_1 i) ?_
          subst ha
          rw [hdS_s]
          first | rw [if_pos hq] | rw [if_neg hq]
          try rfl
        · skip
          refine pv_iload t_X2_hardenedBy_55 rfl ?_
          refine pv_if_le t_X2_hardenedBy_57 (fun c57 => ?_) (fun c57 => ?_)
          · skip
            have hq : ¬ (part (μ pa) (nI i) 0 = t ∧ tru (μ ne) (μ dn) (nI i) e = 2 ∧ 0 < part (μ pa) (nI i) 1) := fun q => Int32.not_le.mpr q.2.2 c57
            refine pv_iinc (v := 1) t_X2_hardenedBy_80 rfl zi_1 ?_
            refine pv_goto t_X2_hardenedBy_83 ?_
            refine pv_loc (lv' := [(0, _), (1, _), (2, _), (3, _), (4, _), (5, _)]) ⟨rfl, rfl, rfl, rfl, rfl, rfl, trivial⟩ ?_
            refine ih (i + 1) (by omega) (by omega) _ _ (nI_1 i) ?_
            subst ha
            rw [hdS_s]
            first | rw [if_pos hq] | rw [if_neg hq]
            try rfl
          · skip
            have hq : (part (μ pa) (nI i) 0 = t ∧ tru (μ ne) (μ dn) (nI i) e = 2 ∧ 0 < part (μ pa) (nI i) 1) := And.intro c41 (And.intro c52 (Int32.not_le.mp c57))
            refine pv_iload t_X2_hardenedBy_60 rfl ?_
            refine pv_aload_n (i := 0) t_X2_hardenedBy_62 rfl rfl ?_
            refine pv_iload_n (i := 1) t_X2_hardenedBy_63 rfl rfl ?_
            refine pv_iload_n (i := 3) t_X2_hardenedBy_64 rfl rfl ?_
            refine pv_gV2 t_X2_hardenedBy_65 ml_X2_47 mo_X2_vanityOf hf.1 rfl (Nat.le_of_ble_eq_true rfl) (e_X2_vanityOf hm hf) (Nat.le_of_ble_eq_true rfl) ?_
            refine pv_iload_n (i := 2) t_X2_hardenedBy_68 rfl rfl ?_
            refine pv_iconst (v := 1) t_X2_hardenedBy_69 zi_1 ?_
            refine pv_isub t_X2_hardenedBy_70 ?_
            refine pv_iload t_X2_hardenedBy_71 rfl ?_
            refine pv_idiv t_X2_hardenedBy_73 (fun q => c57 (by rw [q]; decide)) ?_
            refine pv_isub t_X2_hardenedBy_74 ?_
            refine pv_gS2 t_X2_hardenedBy_75 ml_X2_65 mo_J_max (Nat.le_of_ble_eq_true rfl) e_J_max (Nat.le_of_ble_eq_true rfl) ?_
            refine pv_istore t_X2_hardenedBy_78 (Nat.le_of_ble_eq_true rfl) ?_
            refine pv_iinc (v := 1) t_X2_hardenedBy_80 rfl zi_1 ?_
            refine pv_goto t_X2_hardenedBy_83 ?_
            refine pv_loc (lv' := [(0, _), (1, _), (2, _), (3, _), (4, _), (5, _)]) ⟨rfl, rfl, rfl, rfl, rfl, rfl, trivial⟩ ?_
            refine ih (i + 1) (by omega) (by omega) _ _ (nI_1 i) ?_
            subst ha
            rw [hdS_s]
            first | rw [if_pos hq] | rw [if_neg hq]
            try rfl

theorem e_X2_hardenedBy {l : Launch} {X : zX} {d : Nat} {Ψ : List zC} {μ : zH} {m tr pa ne fd : Nat} (hm : oM Ψ m tr pa ne fd) {f dn va : Nat} (hf : oF Ψ f m dn va) {nc : Nat} (hnc : μ m 1 = nI nc) (hc8 : nc ≤ 8) {e v t : Int32} : zRn l X mi_X2_hardenedBy (d + 2) [.inr f, .inl e, .inl v, .inl t] (Ψ, μ) (some (.inl (hdS (μ pa) (μ ne) (μ dn) (μ va) e v t nc))) (Ψ, μ) := by
  refine pv_iconst (v := 0) t_X2_hardenedBy_0 zi_0 ?_
  refine pv_istore t_X2_hardenedBy_1 (Nat.le_of_ble_eq_true rfl) ?_
  refine pv_iconst (v := 0) t_X2_hardenedBy_3 zi_0 ?_
  refine pv_istore t_X2_hardenedBy_4 (Nat.le_of_ble_eq_true rfl) ?_
  exact lp_X2_hardenedBy hm hf hnc hc8 (nc + 1) 0 (by omega) (by omega) _ _ rfl rfl

def oD (sh : List zC) (t a b : Nat) : Prop := sh[t]? = some (.inr (.inr (1, [some (some a), some (some b)]))) ∧ sh[a]? = some (.inl (0, 20)) ∧ sh[b]? = some (.inl (0, 800))
theorem zne {sh : List zC} {a b : Nat} {x y : zC} (ha : sh[a]? = some x) (hb : sh[b]? = some y) (h : x ≠ y) : a ≠ b := by
  intro e
  subst e
  rw [ha] at hb
  exact h (Option.some.inj hb)
theorem zst {l : Launch} {X : zX} {y : zMI} {d pc : Nat} {lv : List (Nat × zV)} {st : List zV} {S0 S2 : zS} {mc ms : Nat} {r : Option zV} {S' : zS} (h : S0 = S2) (k : zEv l X y d pc lv st S2 mc ms r S') : zEv l X y d pc lv st S0 mc ms r S' := h ▸ k
theorem bz_0 {b : Bool} : bz b = 0 ↔ b = false := by cases b <;> simp [bz]
theorem bz_n {b : Bool} : ¬ bz b = 0 ↔ b = true := by cases b <;> simp [bz]
def cell (ce : Nat → Int32) (i : Int32) : Int32 := rA ce 20 i
def dPut (ce : Nat → Int32) (i v : Int32) : Nat → Int32 := rP ce 20 i v
def dAdd (ce : Nat → Int32) (i v : Int32) : Nat → Int32 := rP ce 20 i (rA ce 20 i + v)
def dPer (ce : Nat → Int32) (s : Int32) : Int32 := rA ce 20 (0 + s)
def dTold (ce : Nat → Int32) (s t : Int32) : Int32 := rA ce 20 (12 + s * 4 + t)
def dEx (ce : Nat → Int32) : Bool := decide (¬ cell ce 0 = -1)
def dGo (ce : Nat → Int32) : Bool := dEx ce && decide (cell ce 2 = 0)
def dSd (ce : Nat → Int32) : Int32 := cell ce 3 &&& 1
def dSO (ce : Nat → Int32) (p : Int32) : Int32 := if p = dPer ce 0 then 0 else if p = dPer ce 1 then 1 else -1
def dUn (ce : Nat → Int32) (c : Int32) : Bool := zib c 8 && decide ((cell ce 4 >>> (c &&& 31)) &&& 1 = 0)
def dUC (ce : Nat → Int32) : Nat → Int32 := zfold (fun c a => a + bz (dUn ce (nI c))) 0
theorem dUC_s (ce : Nat → Int32) (c : Nat) : dUC ce (c + 1) = dUC ce c + bz (dUn ce (nI c)) := rfl
def dUA (ce : Nat → Int32) : Nat → Nat → Int32 → Int32
  | 0, _, _ => 8
  | j + 1, c, a => if dUn ce (nI c) = true ∧ a = 0 then nI c else dUA ce j (c + 1) (a - bz (dUn ce (nI c)))
def dAl (ce : Nat → Int32) (t : Int32) : Bool := dGo ce && decide (cell ce 3 < 40) && (if t = 9 then decide (0 < cell ce (8 + dSd ce)) else decide (t = 8) || dUn ce t)
def dRem (ce pt : Nat → Int32) : Nat → Int32 := if 0 ≤ (cell ce 3 * 20).toInt ∧ (cell ce 3 * 20).toInt ≤ 780 then va_cpy ce pt 0 (cell ce 3 * 20).toNatClampNeg 20 else pt
def dTB (ce pt : Nat → Int32) (n : Int32) : Nat → Int32 := if 0 < n ∧ 0 ≤ ((cell ce 3 - n) * 20).toInt ∧ ((cell ce 3 - n) * 20).toInt ≤ 780 then va_cpy pt ce ((cell ce 3 - n) * 20).toNatClampNeg 0 20 else ce
def dPO (ce : Nat → Int32) : Nat → Int32 := if 2 ≤ cell (dAdd ce 5 1) 5 then dPut (dAdd ce 5 1) 2 3 else dAdd ce 5 1
def dSp1 (pa ne dn va : Nat → Int32) (ce : Nat → Int32) (c s : Int32) : Nat → Int32 :=
  let o := 1 - s
  let p := dPer ce o
  let t := part pa c 0
  let e1 := dAdd ce (6 + o) (effO (tru ne dn c p) (part pa c 1 * vanO va p t) (dTold ce o t))
  let e2 := dAdd e1 (12 + o * 4 + t) 1
  let e3 := dAdd e2 (10 + s) (part pa c 2)
  let e4 := dPut e3 4 (cell e3 4 ||| (1 <<< (c &&& 31)))
  dPut e4 5 0
def dSp2 (ne dn ce e5 : Nat → Int32) (c s : Int32) : Nat → Int32 := if tru ne dn c (dPer ce (1 - s)) = 0 then dAdd e5 (8 + s) 1 else e5
def dSp3 (tr ce e6 : Nat → Int32) (s : Int32) : Nat → Int32 := if 3 ≤ cell e6 (8 + s) then dPut e6 2 (1 - s + 1) else if trait tr (dPer ce (1 - s)) 0 ≤ cell e6 (6 + (1 - s)) then dPut e6 2 (s + 1) else e6
def dSp (tr pa ne dn va ce : Nat → Int32) (c s : Int32) : Nat → Int32 := dSp3 tr ce (dSp2 ne dn ce (dSp1 pa ne dn va ce c s) c s) s
def dCl (tr ce : Nat → Int32) : Nat → Int32 := dPut ce (6 + dSd ce) (imax 0 (cell ce (6 + dSd ce) - trait tr (dPer ce (dSd ce)) 1))
def dPl (tr pa ne dn va ce : Nat → Int32) (t : Int32) : Nat → Int32 :=
  let e := dCl tr ce
  let s := dSd ce
  dAdd (if t = 8 then dPO e else if t = 9 then dPut (dAdd e (8 + s) (-1)) 5 0 else dSp tr pa ne dn va e t s) 3 1
theorem e_X1_cell {l : Launch} {X : zX} {d : Nat} {Ψ : List zC} {μ : zH} {t a b : Nat} (hd : oD Ψ t a b) {i : Int32} : zRn l X mi_X1_cell (d + 1) [.inr t, .inl i] (Ψ, μ) (some (.inl (cell (μ a) i))) (Ψ, μ) := by
  refine pv_aload_n (i := 0) t_X1_cell_0 rfl rfl ?_
  refine pv_getR t_X1_cell_1 fl_X1_11 hd.1 rfl ?_
  refine pv_iload_n (i := 1) t_X1_cell_4 rfl rfl ?_
  refine pv_gS2 t_X1_cell_5 ml_X1_38 mo_X8_at (Nat.le_of_ble_eq_true rfl) (e_X8_at (Or.inl hd.2.1) (by decide)) (Nat.le_of_ble_eq_true rfl) ?_
  exact pv_ireti t_X1_cell_8 rfl rfl rfl

theorem e_X1_person {l : Launch} {X : zX} {d : Nat} {Ψ : List zC} {μ : zH} {t a b : Nat} (hd : oD Ψ t a b) {i : Int32} : zRn l X mi_X1_person (d + 1) [.inr t, .inl i] (Ψ, μ) (some (.inl (dPer (μ a) i))) (Ψ, μ) := by
  refine pv_aload_n (i := 0) t_X1_person_0 rfl rfl ?_
  refine pv_getR t_X1_person_1 fl_X1_11 hd.1 rfl ?_
  refine pv_iconst (v := 0) t_X1_person_4 zi_0 ?_
  refine pv_iload_n (i := 1) t_X1_person_5 rfl rfl ?_
  refine pv_iadd t_X1_person_6 ?_
  refine pv_gS2 t_X1_person_7 ml_X1_38 mo_X8_at (Nat.le_of_ble_eq_true rfl) (e_X8_at (Or.inl hd.2.1) (by decide)) (Nat.le_of_ble_eq_true rfl) ?_
  exact pv_ireti t_X1_person_10 rfl rfl rfl

theorem e_X1_toldTo {l : Launch} {X : zX} {d : Nat} {Ψ : List zC} {μ : zH} {t a b : Nat} (hd : oD Ψ t a b) {i j : Int32} : zRn l X mi_X1_toldTo (d + 1) [.inr t, .inl i, .inl j] (Ψ, μ) (some (.inl (dTold (μ a) i j))) (Ψ, μ) := by
  refine pv_aload_n (i := 0) t_X1_toldTo_0 rfl rfl ?_
  refine pv_getR t_X1_toldTo_1 fl_X1_11 hd.1 rfl ?_
  refine pv_bipush (v := 12) t_X1_toldTo_4 zb_12 ?_
  refine pv_iload_n (i := 1) t_X1_toldTo_6 rfl rfl ?_
  refine pv_iconst (v := 4) t_X1_toldTo_7 zi_4 ?_
  refine pv_imul t_X1_toldTo_8 ?_
  refine pv_iadd t_X1_toldTo_9 ?_
  refine pv_iload_n (i := 2) t_X1_toldTo_10 rfl rfl ?_
  refine pv_iadd t_X1_toldTo_11 ?_
  refine pv_gS2 t_X1_toldTo_12 ml_X1_38 mo_X8_at (Nat.le_of_ble_eq_true rfl) (e_X8_at (Or.inl hd.2.1) (by decide)) (Nat.le_of_ble_eq_true rfl) ?_
  exact pv_ireti t_X1_toldTo_15 rfl rfl rfl

theorem e_X1_exists {l : Launch} {X : zX} {d : Nat} {Ψ : List zC} {μ : zH} {t a b : Nat} (hd : oD Ψ t a b) : zRn l X mi_X1_exists (d + 2) [.inr t] (Ψ, μ) (some (.inl (bz (dEx (μ a))))) (Ψ, μ) := by
  refine pv_aload_n (i := 0) t_X1_exists_0 rfl rfl ?_
  refine pv_iconst (v := 0) t_X1_exists_1 zi_0 ?_
  refine pv_gV1 t_X1_exists_2 ml_X1_42 mo_X1_cell hd.1 rfl (Nat.le_of_ble_eq_true rfl) (e_X1_cell hd) (Nat.le_of_ble_eq_true rfl) ?_
  refine pv_iconst (v := -1) t_X1_exists_5 zi_m1 ?_
  refine pv_icmp_eq t_X1_exists_6 (fun c6 => ?_) (fun c6 => ?_)
  · skip
    refine pv_iconst (v := 0) t_X1_exists_13 zi_0 ?_
    exact pv_iretz t_X1_exists_14 rfl (by first | exact ⟨by simp [dEx, bz, c6], bz_01 _⟩) rfl
  · skip
    refine pv_iconst (v := 1) t_X1_exists_9 zi_1 ?_
    refine pv_goto t_X1_exists_10 ?_
    exact pv_iretz t_X1_exists_14 rfl (by first | exact ⟨by simp [dEx, bz, c6], bz_01 _⟩) rfl

theorem e_X1_goesOn {l : Launch} {X : zX} {d : Nat} {Ψ : List zC} {μ : zH} {t a b : Nat} (hd : oD Ψ t a b) : zRn l X mi_X1_goesOn (d + 3) [.inr t] (Ψ, μ) (some (.inl (bz (dGo (μ a))))) (Ψ, μ) := by
  refine pv_aload_n (i := 0) t_X1_goesOn_0 rfl rfl ?_
  refine pv_gV0 t_X1_goesOn_1 ml_X1_46 mo_X1_exists hd.1 rfl (Nat.le_of_ble_eq_true rfl) (e_X1_exists hd) (Nat.le_of_ble_eq_true rfl) ?_
  refine pv_if_eq t_X1_goesOn_4 (fun c4 => ?_) (fun c4 => ?_)
  · skip
    refine pv_iconst (v := 0) t_X1_goesOn_19 zi_0 ?_
    exact pv_iretz t_X1_goesOn_20 rfl ⟨by cases hx : dEx (μ a) <;> simp_all [dGo, bz], bz_01 _⟩ rfl
  · skip
    refine pv_aload_n (i := 0) t_X1_goesOn_7 rfl rfl ?_
    refine pv_iconst (v := 2) t_X1_goesOn_8 zi_2 ?_
    refine pv_gV1 t_X1_goesOn_9 ml_X1_42 mo_X1_cell hd.1 rfl (Nat.le_of_ble_eq_true rfl) (e_X1_cell hd) (Nat.le_of_ble_eq_true rfl) ?_
    refine pv_if_ne t_X1_goesOn_12 (fun c12 => ?_) (fun c12 => ?_)
    · skip
      refine pv_iconst (v := 0) t_X1_goesOn_19 zi_0 ?_
      exact pv_iretz t_X1_goesOn_20 rfl ⟨by cases hx : dEx (μ a) <;> simp_all [dGo, bz], bz_01 _⟩ rfl
    · skip
      refine pv_iconst (v := 1) t_X1_goesOn_15 zi_1 ?_
      refine pv_goto t_X1_goesOn_16 ?_
      exact pv_iretz t_X1_goesOn_20 rfl ⟨by cases hx : dEx (μ a) <;> simp_all [dGo, bz], bz_01 _⟩ rfl

theorem e_X1_side {l : Launch} {X : zX} {d : Nat} {Ψ : List zC} {μ : zH} {t a b : Nat} (hd : oD Ψ t a b) : zRn l X mi_X1_side (d + 2) [.inr t] (Ψ, μ) (some (.inl (dSd (μ a)))) (Ψ, μ) := by
  refine pv_aload_n (i := 0) t_X1_side_0 rfl rfl ?_
  refine pv_iconst (v := 3) t_X1_side_1 zi_3 ?_
  refine pv_gV1 t_X1_side_2 ml_X1_42 mo_X1_cell hd.1 rfl (Nat.le_of_ble_eq_true rfl) (e_X1_cell hd) (Nat.le_of_ble_eq_true rfl) ?_
  refine pv_iconst (v := 1) t_X1_side_5 zi_1 ?_
  refine pv_iand t_X1_side_6 ?_
  exact pv_ireti t_X1_side_7 rfl rfl rfl

theorem e_X1_sideOf {l : Launch} {X : zX} {d : Nat} {Ψ : List zC} {μ : zH} {t a b : Nat} (hd : oD Ψ t a b) {p : Int32} : zRn l X mi_X1_sideOf (d + 2) [.inr t, .inl p] (Ψ, μ) (some (.inl (dSO (μ a) p))) (Ψ, μ) := by
  refine pv_iload_n (i := 1) t_X1_sideOf_0 rfl rfl ?_
  refine pv_aload_n (i := 0) t_X1_sideOf_1 rfl rfl ?_
  refine pv_iconst (v := 0) t_X1_sideOf_2 zi_0 ?_
  refine pv_gV1 t_X1_sideOf_3 ml_X1_50 mo_X1_person hd.1 rfl (Nat.le_of_ble_eq_true rfl) (e_X1_person hd) (Nat.le_of_ble_eq_true rfl) ?_
  refine pv_icmp_ne t_X1_sideOf_6 (fun c6 => ?_) (fun c6 => ?_)
  · skip
    refine pv_iload_n (i := 1) t_X1_sideOf_11 rfl rfl ?_
    refine pv_aload_n (i := 0) t_X1_sideOf_12 rfl rfl ?_
    refine pv_iconst (v := 1) t_X1_sideOf_13 zi_1 ?_
    refine pv_gV1 t_X1_sideOf_14 ml_X1_50 mo_X1_person hd.1 rfl (Nat.le_of_ble_eq_true rfl) (e_X1_person hd) (Nat.le_of_ble_eq_true rfl) ?_
    refine pv_icmp_ne t_X1_sideOf_17 (fun c17 => ?_) (fun c17 => ?_)
    · skip
      refine pv_iconst (v := -1) t_X1_sideOf_24 zi_m1 ?_
      exact pv_ireti t_X1_sideOf_25 rfl (by simp_all [dSO]) rfl
    · skip
      refine pv_iconst (v := 1) t_X1_sideOf_20 zi_1 ?_
      refine pv_goto t_X1_sideOf_21 ?_
      exact pv_ireti t_X1_sideOf_25 rfl (by simp_all [dSO]) rfl
  · skip
    refine pv_iconst (v := 0) t_X1_sideOf_9 zi_0 ?_
    exact pv_ireti t_X1_sideOf_10 rfl (by simp_all [dSO]) rfl

theorem e_X1_isUnsaid {l : Launch} {X : zX} {d : Nat} {Ψ : List zC} {μ : zH} {t a b : Nat} (hd : oD Ψ t a b) {c : Int32} : zRn l X mi_X1_isUnsaid (d + 2) [.inr t, .inl c] (Ψ, μ) (some (.inl (bz (dUn (μ a) c)))) (Ψ, μ) := by
  refine pv_iload_n (i := 1) t_X1_isUnsaid_0 rfl rfl ?_
  refine pv_if_lt t_X1_isUnsaid_1 (fun c1 => ?_) (fun c1 => ?_)
  · skip
    refine pv_iconst (v := 0) t_X1_isUnsaid_26 zi_0 ?_
    exact pv_iretz t_X1_isUnsaid_27 rfl (by first | exact ⟨by rw [dUn, zib_f1 c1]; rfl, bz_01 _⟩ | exact ⟨by rw [dUn, zib_f2 c7]; rfl, bz_01 _⟩ | exact ⟨by rw [dUn, zib_t c1 c7, Bool.true_and]; first | rw [decide_eq_true c19]; rfl | rw [decide_eq_false c19]; rfl, bz_01 _⟩) rfl
  · skip
    refine pv_iload_n (i := 1) t_X1_isUnsaid_4 rfl rfl ?_
    refine pv_bipush (v := 8) t_X1_isUnsaid_5 zb_8 ?_
    refine pv_icmp_ge t_X1_isUnsaid_7 (fun c7 => ?_) (fun c7 => ?_)
    · skip
      refine pv_iconst (v := 0) t_X1_isUnsaid_26 zi_0 ?_
      exact pv_iretz t_X1_isUnsaid_27 rfl (by first | exact ⟨by rw [dUn, zib_f1 c1]; rfl, bz_01 _⟩ | exact ⟨by rw [dUn, zib_f2 c7]; rfl, bz_01 _⟩ | exact ⟨by rw [dUn, zib_t c1 c7, Bool.true_and]; first | rw [decide_eq_true c19]; rfl | rw [decide_eq_false c19]; rfl, bz_01 _⟩) rfl
    · skip
      refine pv_aload_n (i := 0) t_X1_isUnsaid_10 rfl rfl ?_
      refine pv_iconst (v := 4) t_X1_isUnsaid_11 zi_4 ?_
      refine pv_gV1 t_X1_isUnsaid_12 ml_X1_42 mo_X1_cell hd.1 rfl (Nat.le_of_ble_eq_true rfl) (e_X1_cell hd) (Nat.le_of_ble_eq_true rfl) ?_
      refine pv_iload_n (i := 1) t_X1_isUnsaid_15 rfl rfl ?_
      refine pv_ishr t_X1_isUnsaid_16 ?_
      refine pv_iconst (v := 1) t_X1_isUnsaid_17 zi_1 ?_
      refine pv_iand t_X1_isUnsaid_18 ?_
      refine pv_if_ne t_X1_isUnsaid_19 (fun c19 => ?_) (fun c19 => ?_)
      · skip
        refine pv_iconst (v := 0) t_X1_isUnsaid_26 zi_0 ?_
        exact pv_iretz t_X1_isUnsaid_27 rfl (by first | exact ⟨by rw [dUn, zib_f1 c1]; rfl, bz_01 _⟩ | exact ⟨by rw [dUn, zib_f2 c7]; rfl, bz_01 _⟩ | exact ⟨by rw [dUn, zib_t c1 c7, Bool.true_and]; first | rw [decide_eq_true c19]; rfl | rw [decide_eq_false c19]; rfl, bz_01 _⟩) rfl
      · skip
        refine pv_iconst (v := 1) t_X1_isUnsaid_22 zi_1 ?_
        refine pv_goto t_X1_isUnsaid_23 ?_
        exact pv_iretz t_X1_isUnsaid_27 rfl (by first | exact ⟨by rw [dUn, zib_f1 c1]; rfl, bz_01 _⟩ | exact ⟨by rw [dUn, zib_f2 c7]; rfl, bz_01 _⟩ | exact ⟨by rw [dUn, zib_t c1 c7, Bool.true_and]; first | rw [decide_eq_true c19]; rfl | rw [decide_eq_false c19]; rfl, bz_01 _⟩) rfl

theorem lp_X1_unsaidCount {l : Launch} {X : zX} {d : Nat} {Ψ : List zC} {μ : zH} {t a b : Nat} (hd : oD Ψ t a b) {nc : Nat} (hc8 : nc ≤ 8) : ∀ j i : Nat, i + j = nc + 1 → i ≤ nc → ∀ (x : Int32) (a9 : Int32), x = nI i → a9 = dUC (μ a) i → zEv l X mi_X1_unsaidCount (d + 3) 4 [(0, .inr t), (1, .inl (nI nc)), (2, .inl a9), (3, .inl x)] [] (Ψ, μ) 0 0 (some (.inl (dUC (μ a) nc))) (Ψ, μ) := by
  intro j
  induction j with
  | zero => intro i h h2; omega
  | succ j ih =>
    intro i hij hle x a9 hx ha9 
    subst hx
    refine pv_iload_n (i := 3) t_X1_unsaidCount_4 rfl rfl ?_
    refine pv_iload_n (i := 1) t_X1_unsaidCount_5 rfl rfl ?_
    refine pv_icmp_ge t_X1_unsaidCount_6 (fun c6 => ?_) (fun c6 => ?_)
    · skip
      have hie : i = nc := by have := (nI_leI (by omega) (by omega)).mp c6; omega
      rw [ha9, hie]
      refine pv_iload_n (i := 2) t_X1_unsaidCount_31 rfl rfl ?_
      exact pv_ireti t_X1_unsaidCount_32 rfl rfl rfl
    · skip
      have hin : i < nc := Nat.lt_of_not_le (fun q => c6 (nI_le q (by omega)))
      refine pv_iload_n (i := 2) t_X1_unsaidCount_9 rfl rfl ?_
      refine pv_aload_n (i := 0) t_X1_unsaidCount_10 rfl rfl ?_
      refine pv_iload_n (i := 3) t_X1_unsaidCount_11 rfl rfl ?_
      refine pv_gV1 t_X1_unsaidCount_12 ml_X1_53 mo_X1_isUnsaid hd.1 rfl (Nat.le_of_ble_eq_true rfl) (e_X1_isUnsaid hd) (Nat.le_of_ble_eq_true rfl) ?_
      refine pv_if_eq t_X1_unsaidCount_15 (fun c15 => ?_) (fun c15 => ?_)
      · skip
        refine pv_iconst (v := 0) t_X1_unsaidCount_22 zi_0 ?_
        refine pv_iadd t_X1_unsaidCount_23 ?_
        refine pv_istore_n (i := 2) t_X1_unsaidCount_24 rfl (Nat.le_of_ble_eq_true rfl) ?_
        refine pv_iinc (v := 1) t_X1_unsaidCount_25 rfl zi_1 ?_
        refine pv_goto t_X1_unsaidCount_28 ?_
        refine pv_loc (lv' := [(0, _), (1, _), (2, _), (3, _)]) ⟨rfl, rfl, rfl, rfl, trivial⟩ ?_
        exact ih (i + 1) (by omega) (by omega) _ _ (nI_1 i) (by subst ha9; rw [dUC_s]; cases hx : dUn (μ a) (nI i) <;> simp_all [bz])
      · skip
        refine pv_iconst (v := 1) t_X1_unsaidCount_18 zi_1 ?_
        refine pv_goto t_X1_unsaidCount_19 ?_
        refine pv_iadd t_X1_unsaidCount_23 ?_
        refine pv_istore_n (i := 2) t_X1_unsaidCount_24 rfl (Nat.le_of_ble_eq_true rfl) ?_
        refine pv_iinc (v := 1) t_X1_unsaidCount_25 rfl zi_1 ?_
        refine pv_goto t_X1_unsaidCount_28 ?_
        refine pv_loc (lv' := [(0, _), (1, _), (2, _), (3, _)]) ⟨rfl, rfl, rfl, rfl, trivial⟩ ?_
        exact ih (i + 1) (by omega) (by omega) _ _ (nI_1 i) (by subst ha9; rw [dUC_s]; cases hx : dUn (μ a) (nI i) <;> simp_all [bz])

theorem e_X1_unsaidCount {l : Launch} {X : zX} {d : Nat} {Ψ : List zC} {μ : zH} {t a b : Nat} (hd : oD Ψ t a b) {nc : Nat} (hc8 : nc ≤ 8) : zRn l X mi_X1_unsaidCount (d + 3) [.inr t, .inl (nI nc)] (Ψ, μ) (some (.inl (dUC (μ a) nc))) (Ψ, μ) := by
  refine pv_iconst (v := 0) t_X1_unsaidCount_0 zi_0 ?_
  refine pv_istore_n (i := 2) t_X1_unsaidCount_1 rfl (Nat.le_of_ble_eq_true rfl) ?_
  refine pv_iconst (v := 0) t_X1_unsaidCount_2 zi_0 ?_
  refine pv_istore_n (i := 3) t_X1_unsaidCount_3 rfl (Nat.le_of_ble_eq_true rfl) ?_
  exact lp_X1_unsaidCount hd hc8 (nc + 1) 0 (by omega) (by omega) _ _ rfl rfl

theorem lp_X1_unsaidAt {l : Launch} {X : zX} {d : Nat} {Ψ : List zC} {μ : zH} {t a b : Nat} (hd : oD Ψ t a b) {nc : Nat} (hc8 : nc ≤ 8) {i0 : Int32} : ∀ j i : Nat, i + j = nc + 1 → i ≤ nc → ∀ (x : Int32) (a9 : Int32) (r9 : Int32), x = nI i → True → r9 = dUA (μ a) (nc - i) i a9 → zEv l X mi_X1_unsaidAt (d + 3) 5 [(0, .inr t), (1, .inl i0), (2, .inl (nI nc)), (3, .inl a9), (4, .inl x)] [] (Ψ, μ) 0 0 (some (.inl r9)) (Ψ, μ) := by
  intro j
  induction j with
  | zero => intro i h h2; omega
  | succ j ih =>
    intro i hij hle x a9 r9 hx ha9 hr9 
    subst hx
    refine pv_iload t_X1_unsaidAt_5 rfl ?_
    refine pv_iload_n (i := 2) t_X1_unsaidAt_7 rfl rfl ?_
    refine pv_icmp_ge t_X1_unsaidAt_8 (fun c8 => ?_) (fun c8 => ?_)
    · skip
      have hie : i = nc := by have := (nI_leI (by omega) (by omega)).mp c8; omega
      rw [hr9, hie, Nat.sub_self]
      refine pv_bipush (v := 8) t_X1_unsaidAt_50 zb_8 ?_
      exact pv_ireti t_X1_unsaidAt_52 rfl rfl rfl
    · skip
      have hin : i < nc := Nat.lt_of_not_le (fun q => c8 (nI_le q (by omega)))
      refine pv_aload_n (i := 0) t_X1_unsaidAt_11 rfl rfl ?_
      refine pv_iload t_X1_unsaidAt_12 rfl ?_
      refine pv_gV1 t_X1_unsaidAt_14 ml_X1_53 mo_X1_isUnsaid hd.1 rfl (Nat.le_of_ble_eq_true rfl) (e_X1_isUnsaid hd) (Nat.le_of_ble_eq_true rfl) ?_
      refine pv_if_eq t_X1_unsaidAt_17 (fun c17 => ?_) (fun c17 => ?_)
      · skip
        refine pv_iload_n (i := 3) t_X1_unsaidAt_27 rfl rfl ?_
        refine pv_aload_n (i := 0) t_X1_unsaidAt_28 rfl rfl ?_
        refine pv_iload t_X1_unsaidAt_29 rfl ?_
        refine pv_gV1 t_X1_unsaidAt_31 ml_X1_53 mo_X1_isUnsaid hd.1 rfl (Nat.le_of_ble_eq_true rfl) (e_X1_isUnsaid hd) (Nat.le_of_ble_eq_true rfl) ?_
        refine pv_if_eq t_X1_unsaidAt_34 (fun c34 => ?_) (fun c34 => ?_)
        · skip
          refine pv_iconst (v := 0) t_X1_unsaidAt_41 zi_0 ?_
          refine pv_isub t_X1_unsaidAt_42 ?_
          refine pv_istore_n (i := 3) t_X1_unsaidAt_43 rfl (Nat.le_of_ble_eq_true rfl) ?_
          refine pv_iinc (v := 1) t_X1_unsaidAt_44 rfl zi_1 ?_
          refine pv_goto t_X1_unsaidAt_47 ?_
          refine pv_loc (lv' := [(0, _), (1, _), (2, _), (3, _), (4, _)]) ⟨rfl, rfl, rfl, rfl, rfl, trivial⟩ ?_
          exact ih (i + 1) (by omega) (by omega) _ _ _ (nI_1 i) trivial (by subst hr9; rw [show nc - i = (nc - (i + 1)) + 1 by omega, dUA]; rw [if_neg (fun q => by cases hx : dUn (μ a) (nI i) <;> simp_all [bz])]; cases hx : dUn (μ a) (nI i) <;> simp_all [bz])
        · skip
          refine pv_iconst (v := 1) t_X1_unsaidAt_37 zi_1 ?_
          refine pv_goto t_X1_unsaidAt_38 ?_
          refine pv_isub t_X1_unsaidAt_42 ?_
          refine pv_istore_n (i := 3) t_X1_unsaidAt_43 rfl (Nat.le_of_ble_eq_true rfl) ?_
          refine pv_iinc (v := 1) t_X1_unsaidAt_44 rfl zi_1 ?_
          refine pv_goto t_X1_unsaidAt_47 ?_
          refine pv_loc (lv' := [(0, _), (1, _), (2, _), (3, _), (4, _)]) ⟨rfl, rfl, rfl, rfl, rfl, trivial⟩ ?_
          exact ih (i + 1) (by omega) (by omega) _ _ _ (nI_1 i) trivial (by subst hr9; rw [show nc - i = (nc - (i + 1)) + 1 by omega, dUA]; rw [if_neg (fun q => by cases hx : dUn (μ a) (nI i) <;> simp_all [bz])]; cases hx : dUn (μ a) (nI i) <;> simp_all [bz])
      · skip
        refine pv_iload_n (i := 3) t_X1_unsaidAt_20 rfl rfl ?_
        refine pv_if_ne t_X1_unsaidAt_21 (fun c21 => ?_) (fun c21 => ?_)
        · skip
          refine pv_iload_n (i := 3) t_X1_unsaidAt_27 rfl rfl ?_
          refine pv_aload_n (i := 0) t_X1_unsaidAt_28 rfl rfl ?_
          refine pv_iload t_X1_unsaidAt_29 rfl ?_
          refine pv_gV1 t_X1_unsaidAt_31 ml_X1_53 mo_X1_isUnsaid hd.1 rfl (Nat.le_of_ble_eq_true rfl) (e_X1_isUnsaid hd) (Nat.le_of_ble_eq_true rfl) ?_
          refine pv_if_eq t_X1_unsaidAt_34 (fun c34 => ?_) (fun c34 => ?_)
          · skip
            refine pv_iconst (v := 0) t_X1_unsaidAt_41 zi_0 ?_
            refine pv_isub t_X1_unsaidAt_42 ?_
            refine pv_istore_n (i := 3) t_X1_unsaidAt_43 rfl (Nat.le_of_ble_eq_true rfl) ?_
            refine pv_iinc (v := 1) t_X1_unsaidAt_44 rfl zi_1 ?_
            refine pv_goto t_X1_unsaidAt_47 ?_
            refine pv_loc (lv' := [(0, _), (1, _), (2, _), (3, _), (4, _)]) ⟨rfl, rfl, rfl, rfl, rfl, trivial⟩ ?_
            exact ih (i + 1) (by omega) (by omega) _ _ _ (nI_1 i) trivial (by subst hr9; rw [show nc - i = (nc - (i + 1)) + 1 by omega, dUA]; rw [if_neg (fun q => by cases hx : dUn (μ a) (nI i) <;> simp_all [bz])]; cases hx : dUn (μ a) (nI i) <;> simp_all [bz])
          · skip
            refine pv_iconst (v := 1) t_X1_unsaidAt_37 zi_1 ?_
            refine pv_goto t_X1_unsaidAt_38 ?_
            refine pv_isub t_X1_unsaidAt_42 ?_
            refine pv_istore_n (i := 3) t_X1_unsaidAt_43 rfl (Nat.le_of_ble_eq_true rfl) ?_
            refine pv_iinc (v := 1) t_X1_unsaidAt_44 rfl zi_1 ?_
            refine pv_goto t_X1_unsaidAt_47 ?_
            refine pv_loc (lv' := [(0, _), (1, _), (2, _), (3, _), (4, _)]) ⟨rfl, rfl, rfl, rfl, rfl, trivial⟩ ?_
            exact ih (i + 1) (by omega) (by omega) _ _ _ (nI_1 i) trivial (by subst hr9; rw [show nc - i = (nc - (i + 1)) + 1 by omega, dUA]; rw [if_neg (fun q => by cases hx : dUn (μ a) (nI i) <;> simp_all [bz])]; cases hx : dUn (μ a) (nI i) <;> simp_all [bz])
        · skip
          rw [hr9, show nc - i = (nc - (i + 1)) + 1 by omega, dUA, if_pos (by cases hx : dUn (μ a) (nI i) <;> simp_all [bz])]
          refine pv_iload t_X1_unsaidAt_24 rfl ?_
          exact pv_ireti t_X1_unsaidAt_26 rfl rfl rfl

theorem e_X1_unsaidAt {l : Launch} {X : zX} {d : Nat} {Ψ : List zC} {μ : zH} {t a b : Nat} (hd : oD Ψ t a b) {nc : Nat} (hc8 : nc ≤ 8) {i0 : Int32} : zRn l X mi_X1_unsaidAt (d + 3) [.inr t, .inl i0, .inl (nI nc)] (Ψ, μ) (some (.inl (dUA (μ a) nc 0 i0))) (Ψ, μ) := by
  refine pv_iload_n (i := 1) t_X1_unsaidAt_0 rfl rfl ?_
  refine pv_istore_n (i := 3) t_X1_unsaidAt_1 rfl (Nat.le_of_ble_eq_true rfl) ?_
  refine pv_iconst (v := 0) t_X1_unsaidAt_2 zi_0 ?_
  refine pv_istore t_X1_unsaidAt_3 (Nat.le_of_ble_eq_true rfl) ?_
  exact lp_X1_unsaidAt hd hc8 (nc + 1) 0 (by omega) (by omega) _ _ _ rfl trivial rfl

theorem e_X1_allows {l : Launch} {X : zX} {d : Nat} {Ψ : List zC} {μ : zH} {t a b : Nat} (hd : oD Ψ t a b) {z : Int32} : zRn l X mi_X1_allows (d + 4) [.inr t, .inl z] (Ψ, μ) (some (.inl (bz (dAl (μ a) z)))) (Ψ, μ) := by
  refine pv_aload_n (i := 0) t_X1_allows_0 rfl rfl ?_
  refine pv_gV0 t_X1_allows_1 ml_X1_57 mo_X1_goesOn hd.1 rfl (Nat.le_of_ble_eq_true rfl) (e_X1_goesOn hd) (Nat.le_of_ble_eq_true rfl) ?_
  refine pv_if_eq t_X1_allows_4 (fun c4 => ?_) (fun c4 => ?_)
  · skip
    have g4 := bz_0.mp c4
    refine pv_iconst (v := 0) t_X1_allows_17 zi_0 ?_
    exact pv_iretz t_X1_allows_18 rfl ⟨by first | (rw [dAl, g4, g14]; rfl) | (rw [dAl, g4]; rfl), bz_01 _⟩ rfl
  · skip
    have g4 := bz_n.mp c4
    refine pv_aload_n (i := 0) t_X1_allows_7 rfl rfl ?_
    refine pv_iconst (v := 3) t_X1_allows_8 zi_3 ?_
    refine pv_gV1 t_X1_allows_9 ml_X1_42 mo_X1_cell hd.1 rfl (Nat.le_of_ble_eq_true rfl) (e_X1_cell hd) (Nat.le_of_ble_eq_true rfl) ?_
    refine pv_bipush (v := 40) t_X1_allows_12 zb_40 ?_
    refine pv_icmp_lt t_X1_allows_14 (fun c14 => ?_) (fun c14 => ?_)
    · skip
      have g14 := decide_eq_true c14
      refine pv_iload_n (i := 1) t_X1_allows_19 rfl rfl ?_
      refine pv_bipush (v := 9) t_X1_allows_20 zb_9 ?_
      refine pv_icmp_ne t_X1_allows_22 (fun c22 => ?_) (fun c22 => ?_)
      · skip
        refine pv_iload_n (i := 1) t_X1_allows_45 rfl rfl ?_
        refine pv_bipush (v := 8) t_X1_allows_46 zb_8 ?_
        refine pv_icmp_eq t_X1_allows_48 (fun c48 => ?_) (fun c48 => ?_)
        · skip
          have g48 := decide_eq_true c48
          refine pv_iconst (v := 1) t_X1_allows_59 zi_1 ?_
          refine pv_goto t_X1_allows_60 ?_
          exact pv_iretz t_X1_allows_64 rfl ⟨by first | (rw [dAl, g4, g14, if_neg c22, g48, g56]; rfl) | (rw [dAl, g4, g14, if_neg c22, g48]; rfl), bz_01 _⟩ rfl
        · skip
          have g48 := decide_eq_false c48
          refine pv_aload_n (i := 0) t_X1_allows_51 rfl rfl ?_
          refine pv_iload_n (i := 1) t_X1_allows_52 rfl rfl ?_
          refine pv_gV1 t_X1_allows_53 ml_X1_53 mo_X1_isUnsaid hd.1 rfl (Nat.le_of_ble_eq_true rfl) (e_X1_isUnsaid hd) (Nat.le_of_ble_eq_true rfl) ?_
          refine pv_if_eq t_X1_allows_56 (fun c56 => ?_) (fun c56 => ?_)
          · skip
            have g56 := bz_0.mp c56
            refine pv_iconst (v := 0) t_X1_allows_63 zi_0 ?_
            exact pv_iretz t_X1_allows_64 rfl ⟨by first | (rw [dAl, g4, g14, if_neg c22, g48, g56]; rfl) | (rw [dAl, g4, g14, if_neg c22, g48]; rfl), bz_01 _⟩ rfl
          · skip
            have g56 := bz_n.mp c56
            refine pv_iconst (v := 1) t_X1_allows_59 zi_1 ?_
            refine pv_goto t_X1_allows_60 ?_
            exact pv_iretz t_X1_allows_64 rfl ⟨by first | (rw [dAl, g4, g14, if_neg c22, g48, g56]; rfl) | (rw [dAl, g4, g14, if_neg c22, g48]; rfl), bz_01 _⟩ rfl
      · skip
        refine pv_aload_n (i := 0) t_X1_allows_25 rfl rfl ?_
        refine pv_bipush (v := 8) t_X1_allows_26 zb_8 ?_
        refine pv_aload_n (i := 0) t_X1_allows_28 rfl rfl ?_
        refine pv_gV0 t_X1_allows_29 ml_X1_60 mo_X1_side hd.1 rfl (Nat.le_of_ble_eq_true rfl) (e_X1_side hd) (Nat.le_of_ble_eq_true rfl) ?_
        refine pv_iadd t_X1_allows_32 ?_
        refine pv_gV1 t_X1_allows_33 ml_X1_42 mo_X1_cell hd.1 rfl (Nat.le_of_ble_eq_true rfl) (e_X1_cell hd) (Nat.le_of_ble_eq_true rfl) ?_
        refine pv_if_le t_X1_allows_36 (fun c36 => ?_) (fun c36 => ?_)
        · skip
          have g36 := decide_eq_false (Int32.not_lt.mpr c36)
          refine pv_iconst (v := 0) t_X1_allows_43 zi_0 ?_
          exact pv_iretz t_X1_allows_44 rfl ⟨by rw [dAl, g4, g14, if_pos c22, g36]; rfl, bz_01 _⟩ rfl
        · skip
          have g36 := decide_eq_true (Int32.not_le.mp c36)
          refine pv_iconst (v := 1) t_X1_allows_39 zi_1 ?_
          refine pv_goto t_X1_allows_40 ?_
          exact pv_iretz t_X1_allows_44 rfl ⟨by rw [dAl, g4, g14, if_pos c22, g36]; rfl, bz_01 _⟩ rfl
    · skip
      have g14 := decide_eq_false c14
      refine pv_iconst (v := 0) t_X1_allows_17 zi_0 ?_
      exact pv_iretz t_X1_allows_18 rfl ⟨by first | (rw [dAl, g4, g14]; rfl) | (rw [dAl, g4]; rfl), bz_01 _⟩ rfl

theorem z780 {x : Int32} (h1 : ¬ x < 0) (h2 : ¬ nI 800 - 20 < x) : 0 ≤ x.toInt ∧ x.toInt ≤ 780 := by
  rw [zlt0] at h1
  have h3 := Int32.not_lt.mp h2
  rw [Int32.le_iff_toInt_le, show (nI 800 - 20).toInt = 780 by decide] at h3
  omega
theorem z780a {x : Int32} (h1 : x < 0) : ¬ (0 ≤ x.toInt ∧ x.toInt ≤ 780) := by
  rw [zlt0] at h1
  omega
theorem z780b {x : Int32} (h2 : nI 800 - 20 < x) : ¬ (0 ≤ x.toInt ∧ x.toInt ≤ 780) := by
  rw [Int32.lt_iff_toInt_lt, show (nI 800 - 20).toInt = 780 by decide] at h2
  omega
theorem zclamp {x : Int32} (h : 0 ≤ x.toInt) : (x.toNatClampNeg : Int) = x.toInt := by
  show ((x.toInt.toNat : Nat) : Int) = x.toInt
  omega
theorem e_X1_remember {l : Launch} {X : zX} {d : Nat} {Ψ : List zC} {μ : zH} {t a b : Nat} (hd : oD Ψ t a b) : zRn l X mi_X1_remember (d + 2) [.inr t] (Ψ, μ) none (Ψ, zhs μ b (dRem (μ a) (μ b))) := by
  refine pv_aload_n (i := 0) t_X1_remember_0 rfl rfl ?_
  refine pv_iconst (v := 3) t_X1_remember_1 zi_3 ?_
  refine pv_gV1 t_X1_remember_2 ml_X1_42 mo_X1_cell hd.1 rfl (Nat.le_of_ble_eq_true rfl) (e_X1_cell hd) (Nat.le_of_ble_eq_true rfl) ?_
  refine pv_bipush (v := 20) t_X1_remember_5 zb_20 ?_
  refine pv_imul t_X1_remember_7 ?_
  refine pv_istore_n (i := 1) t_X1_remember_8 rfl (Nat.le_of_ble_eq_true rfl) ?_
  refine pv_iload_n (i := 1) t_X1_remember_9 rfl rfl ?_
  refine pv_if_lt t_X1_remember_10 (fun c10 => ?_) (fun c10 => ?_)
  · skip
    exact pv_vret t_X1_remember_40 rfl (by first | (rw [dRem, if_pos (z780 c10 c22)]; rfl) | (rw [dRem, if_neg (z780b c22), zhs_id]) | (rw [dRem, if_neg (z780a c10), zhs_id]))
  · skip
    refine pv_iload_n (i := 1) t_X1_remember_13 rfl rfl ?_
    refine pv_aload_n (i := 0) t_X1_remember_14 rfl rfl ?_
    refine pv_getR t_X1_remember_15 fl_X1_15 hd.1 rfl ?_
    refine pv_alen2 t_X1_remember_18 (Or.inl hd.2.2) zof ?_
    refine pv_bipush (v := 20) t_X1_remember_19 zb_20 ?_
    refine pv_isub t_X1_remember_21 ?_
    refine pv_icmp_gt t_X1_remember_22 (fun c22 => ?_) (fun c22 => ?_)
    · skip
      exact pv_vret t_X1_remember_40 rfl (by first | (rw [dRem, if_pos (z780 c10 c22)]; rfl) | (rw [dRem, if_neg (z780b c22), zhs_id]) | (rw [dRem, if_neg (z780a c10), zhs_id]))
    · skip
      refine pv_aload_n (i := 0) t_X1_remember_25 rfl rfl ?_
      refine pv_getR t_X1_remember_26 fl_X1_11 hd.1 rfl ?_
      refine pv_iconst (v := 0) t_X1_remember_29 zi_0 ?_
      refine pv_aload_n (i := 0) t_X1_remember_30 rfl rfl ?_
      refine pv_getR t_X1_remember_31 fl_X1_15 hd.1 rfl ?_
      refine pv_iload_n (i := 1) t_X1_remember_34 rfl rfl ?_
      refine pv_bipush (v := 20) t_X1_remember_35 zb_20 ?_
      refine pv_copy t_X1_remember_37 ac_X1_94 hd.2.1 hd.2.2 (by decide) c10 (by decide) (by decide) (by have h9 := z780 c10 c22; have h8 := zclamp h9.1; show _ + 20 ≤ 800; omega) (Nat.le_of_ble_eq_true rfl) rfl ?_
      exact pv_vret t_X1_remember_40 rfl (by first | (rw [dRem, if_pos (z780 c10 c22)]; rfl) | (rw [dRem, if_neg (z780b c22), zhs_id]) | (rw [dRem, if_neg (z780a c10), zhs_id]))

theorem e_X1_takeBack {l : Launch} {X : zX} {d : Nat} {Ψ : List zC} {μ : zH} {t a b : Nat} (hd : oD Ψ t a b) {n : Int32} : zRn l X mi_X1_takeBack (d + 2) [.inr t, .inl n] (Ψ, μ) none (Ψ, zhs μ a (dTB (μ a) (μ b) n)) := by
  refine pv_aload_n (i := 0) t_X1_takeBack_0 rfl rfl ?_
  refine pv_iconst (v := 3) t_X1_takeBack_1 zi_3 ?_
  refine pv_gV1 t_X1_takeBack_2 ml_X1_42 mo_X1_cell hd.1 rfl (Nat.le_of_ble_eq_true rfl) (e_X1_cell hd) (Nat.le_of_ble_eq_true rfl) ?_
  refine pv_iload_n (i := 1) t_X1_takeBack_5 rfl rfl ?_
  refine pv_isub t_X1_takeBack_6 ?_
  refine pv_bipush (v := 20) t_X1_takeBack_7 zb_20 ?_
  refine pv_imul t_X1_takeBack_9 ?_
  refine pv_istore_n (i := 2) t_X1_takeBack_10 rfl (Nat.le_of_ble_eq_true rfl) ?_
  refine pv_iload_n (i := 1) t_X1_takeBack_11 rfl rfl ?_
  refine pv_if_le t_X1_takeBack_12 (fun c12 => ?_) (fun c12 => ?_)
  · skip
    exact pv_vret t_X1_takeBack_46 rfl (by first | (rw [dTB, if_pos (And.intro (Int32.not_le.mp c12) (z780 c16 c28))]; rfl) | (rw [dTB, if_neg (fun q => z780b c28 q.2), zhs_id]) | (rw [dTB, if_neg (fun q => z780a c16 q.2), zhs_id]) | (rw [dTB, if_neg (fun q => Int32.not_le.mpr q.1 c12), zhs_id]))
  · skip
    refine pv_iload_n (i := 2) t_X1_takeBack_15 rfl rfl ?_
    refine pv_if_lt t_X1_takeBack_16 (fun c16 => ?_) (fun c16 => ?_)
    · skip
      exact pv_vret t_X1_takeBack_46 rfl (by first | (rw [dTB, if_pos (And.intro (Int32.not_le.mp c12) (z780 c16 c28))]; rfl) | (rw [dTB, if_neg (fun q => z780b c28 q.2), zhs_id]) | (rw [dTB, if_neg (fun q => z780a c16 q.2), zhs_id]) | (rw [dTB, if_neg (fun q => Int32.not_le.mpr q.1 c12), zhs_id]))
    · skip
      refine pv_iload_n (i := 2) t_X1_takeBack_19 rfl rfl ?_
      refine pv_aload_n (i := 0) t_X1_takeBack_20 rfl rfl ?_
      refine pv_getR t_X1_takeBack_21 fl_X1_15 hd.1 rfl ?_
      refine pv_alen2 t_X1_takeBack_24 (Or.inl hd.2.2) zof ?_
      refine pv_bipush (v := 20) t_X1_takeBack_25 zb_20 ?_
      refine pv_isub t_X1_takeBack_27 ?_
      refine pv_icmp_gt t_X1_takeBack_28 (fun c28 => ?_) (fun c28 => ?_)
      · skip
        exact pv_vret t_X1_takeBack_46 rfl (by first | (rw [dTB, if_pos (And.intro (Int32.not_le.mp c12) (z780 c16 c28))]; rfl) | (rw [dTB, if_neg (fun q => z780b c28 q.2), zhs_id]) | (rw [dTB, if_neg (fun q => z780a c16 q.2), zhs_id]) | (rw [dTB, if_neg (fun q => Int32.not_le.mpr q.1 c12), zhs_id]))
      · skip
        refine pv_aload_n (i := 0) t_X1_takeBack_31 rfl rfl ?_
        refine pv_getR t_X1_takeBack_32 fl_X1_15 hd.1 rfl ?_
        refine pv_iload_n (i := 2) t_X1_takeBack_35 rfl rfl ?_
        refine pv_aload_n (i := 0) t_X1_takeBack_36 rfl rfl ?_
        refine pv_getR t_X1_takeBack_37 fl_X1_11 hd.1 rfl ?_
        refine pv_iconst (v := 0) t_X1_takeBack_40 zi_0 ?_
        refine pv_bipush (v := 20) t_X1_takeBack_41 zb_20 ?_
        refine pv_copy t_X1_takeBack_43 ac_X1_94 hd.2.2 hd.2.1 c16 (by decide) (by decide) (by have h9 := z780 c16 c28; have h8 := zclamp h9.1; show _ + 20 ≤ 800; omega) (by decide) (Nat.le_of_ble_eq_true rfl) rfl ?_
        exact pv_vret t_X1_takeBack_46 rfl (by first | (rw [dTB, if_pos (And.intro (Int32.not_le.mp c12) (z780 c16 c28))]; rfl) | (rw [dTB, if_neg (fun q => z780b c28 q.2), zhs_id]) | (rw [dTB, if_neg (fun q => z780a c16 q.2), zhs_id]) | (rw [dTB, if_neg (fun q => Int32.not_le.mpr q.1 c12), zhs_id]))

theorem e_X1_passOnce {l : Launch} {X : zX} {d : Nat} {Ψ : List zC} {μ : zH} {t a b : Nat} (hd : oD Ψ t a b) : zRn l X mi_X1_passOnce (d + 2) [.inr t] (Ψ, μ) none (Ψ, zhs μ a (dPO (μ a))) := by
  refine pv_aload_n (i := 0) t_X1_passOnce_0 rfl rfl ?_
  refine pv_getR t_X1_passOnce_1 fl_X1_11 hd.1 rfl ?_
  refine pv_iconst (v := 5) t_X1_passOnce_4 zi_5 ?_
  refine pv_iconst (v := 1) t_X1_passOnce_5 zi_1 ?_
  refine pv_gS3 t_X1_passOnce_6 ml_X1_87 mo_X8_add (Nat.le_of_ble_eq_true rfl) (e_X8_add hd.2.1 (by decide)) (Nat.le_of_ble_eq_true rfl) ?_
  refine zst (S2 := (Ψ, zhs μ a (dAdd (μ a) 5 1))) rfl ?_
  refine pv_aload_n (i := 0) t_X1_passOnce_9 rfl rfl ?_
  refine pv_iconst (v := 5) t_X1_passOnce_10 zi_5 ?_
  refine pv_gV1 t_X1_passOnce_11 ml_X1_42 mo_X1_cell hd.1 rfl (Nat.le_of_ble_eq_true rfl) (e_X1_cell hd) (Nat.le_of_ble_eq_true rfl) ?_
  rw [zhs_s]
  refine pv_iconst (v := 2) t_X1_passOnce_14 zi_2 ?_
  refine pv_icmp_lt t_X1_passOnce_15 (fun c15 => ?_) (fun c15 => ?_)
  · skip
    exact pv_vret t_X1_passOnce_27 rfl (by first | (show (Ψ, zhs (zhs μ a (dAdd (μ a) 5 1)) a (rP (zhs μ a (dAdd (μ a) 5 1) a) 20 2 3)) = _; rw [zhs_hs, zhs_s, dPO, if_pos (Int32.not_lt.mp c15)]; rfl) | (rw [dPO, if_neg (Int32.not_le.mpr c15)]))
  · skip
    refine pv_aload_n (i := 0) t_X1_passOnce_18 rfl rfl ?_
    refine pv_getR t_X1_passOnce_19 fl_X1_11 hd.1 rfl ?_
    refine pv_iconst (v := 2) t_X1_passOnce_22 zi_2 ?_
    refine pv_iconst (v := 3) t_X1_passOnce_23 zi_3 ?_
    refine pv_gS3 t_X1_passOnce_24 ml_X1_30 mo_X8_put (Nat.le_of_ble_eq_true rfl) (e_X8_put hd.2.1 (by decide)) (Nat.le_of_ble_eq_true rfl) ?_
    exact pv_vret t_X1_passOnce_27 rfl (by first | (show (Ψ, zhs (zhs μ a (dAdd (μ a) 5 1)) a (rP (zhs μ a (dAdd (μ a) 5 1) a) 20 2 3)) = _; rw [zhs_hs, zhs_s, dPO, if_pos (Int32.not_lt.mp c15)]; rfl) | (rw [dPO, if_neg (Int32.not_le.mpr c15)]))

def dBg (p q : Int32) (ce : Nat → Int32) : Nat → Int32 := dPut (dPut (fun k => if k < 20 then 0 else ce k) 0 p) 1 q
theorem e_X1_begin {l : Launch} {X : zX} {d : Nat} {Ψ : List zC} {μ : zH} {t a b : Nat} (hd : oD Ψ t a b) {p q : Int32} : zRn l X mi_X1_begin (d + 1) [.inr t, .inl p, .inl q] (Ψ, μ) none (Ψ, zhs μ a (dBg p q (μ a))) := by
  refine pv_aload_n (i := 0) t_X1_begin_0 rfl rfl ?_
  refine pv_getR t_X1_begin_1 fl_X1_11 hd.1 rfl ?_
  refine pv_gS1 t_X1_begin_4 ml_X1_25 mo_X8_clear (Nat.le_of_ble_eq_true rfl) (e_X8_clear hd.2.1 (by decide)) (Nat.le_of_ble_eq_true rfl) ?_
  refine pv_aload_n (i := 0) t_X1_begin_7 rfl rfl ?_
  refine pv_getR t_X1_begin_8 fl_X1_11 hd.1 rfl ?_
  refine pv_iconst (v := 0) t_X1_begin_11 zi_0 ?_
  refine pv_iload_n (i := 1) t_X1_begin_12 rfl rfl ?_
  refine pv_gS3 t_X1_begin_13 ml_X1_30 mo_X8_put (Nat.le_of_ble_eq_true rfl) (e_X8_put hd.2.1 (by decide)) (Nat.le_of_ble_eq_true rfl) ?_
  refine pv_aload_n (i := 0) t_X1_begin_16 rfl rfl ?_
  refine pv_getR t_X1_begin_17 fl_X1_11 hd.1 rfl ?_
  refine pv_iconst (v := 1) t_X1_begin_20 zi_1 ?_
  refine pv_iload_n (i := 2) t_X1_begin_21 rfl rfl ?_
  refine pv_gS3 t_X1_begin_22 ml_X1_30 mo_X8_put (Nat.le_of_ble_eq_true rfl) (e_X8_put hd.2.1 (by decide)) (Nat.le_of_ble_eq_true rfl) ?_
  exact pv_vret t_X1_begin_25 rfl (by simp only [zhs_hs, zhs_s]; rfl)

theorem e_X1_clear {l : Launch} {X : zX} {d : Nat} {Ψ : List zC} {μ : zH} {t a b : Nat} (hd : oD Ψ t a b) : zRn l X mi_X1_clear (d + 2) [.inr t] (Ψ, μ) none (Ψ, zhs μ a (dBg (-1) (-1) (μ a))) := by
  refine pv_aload_n (i := 0) t_X1_clear_0 rfl rfl ?_
  refine pv_iconst (v := -1) t_X1_clear_1 zi_m1 ?_
  refine pv_iconst (v := -1) t_X1_clear_2 zi_m1 ?_
  refine pv_gV2 t_X1_clear_3 ml_X1_21 mo_X1_begin hd.1 rfl (Nat.le_of_ble_eq_true rfl) (e_X1_begin hd) (Nat.le_of_ble_eq_true rfl) ?_
  exact pv_vret t_X1_clear_6 rfl rfl

def cpy (n : Nat) (f g : Nat → Int32) : Nat → Int32 := fun k => if k < n then f k else g k
theorem e_X1_copyFrom {l : Launch} {X : zX} {d : Nat} {Ψ : List zC} {μ : zH} {t a b : Nat} (hd : oD Ψ t a b) {t2 a2 b2 : Nat} (hd2 : oD Ψ t2 a2 b2) : zRn l X mi_X1_copyFrom (d + 2) [.inr t, .inr t2] (Ψ, μ) none (Ψ, zhs (zhs μ a (cpy 20 (μ a2) (μ a))) b (cpy 800 (μ b2) (μ b))) := by
  refine pv_aload_n (i := 1) t_X1_copyFrom_0 rfl rfl ?_
  refine pv_getR t_X1_copyFrom_1 fl_X1_11 hd2.1 rfl ?_
  refine pv_aload_n (i := 0) t_X1_copyFrom_4 rfl rfl ?_
  refine pv_getR t_X1_copyFrom_5 fl_X1_11 hd.1 rfl ?_
  refine pv_gS2 t_X1_copyFrom_8 ml_X1_34 mo_X8_copy (Nat.le_of_ble_eq_true rfl) (e_X8_copy hd2.2.1 hd.2.1 (by decide)) (Nat.le_of_ble_eq_true rfl) ?_
  refine pv_aload_n (i := 1) t_X1_copyFrom_11 rfl rfl ?_
  refine pv_getR t_X1_copyFrom_12 fl_X1_15 hd2.1 rfl ?_
  refine pv_aload_n (i := 0) t_X1_copyFrom_15 rfl rfl ?_
  refine pv_getR t_X1_copyFrom_16 fl_X1_15 hd.1 rfl ?_
  refine pv_gS2 t_X1_copyFrom_19 ml_X1_34 mo_X8_copy (Nat.le_of_ble_eq_true rfl) (e_X8_copy hd2.2.2 hd.2.2 (by decide)) (Nat.le_of_ble_eq_true rfl) ?_
  exact pv_vret t_X1_copyFrom_22 rfl (by rw [zhs_n _ _ (zne hd2.2.2 hd.2.1 (by decide)), zhs_n _ _ (zne hd.2.2 hd.2.1 (by decide))]; rfl)

theorem e_X1_speak {l : Launch} {X : zX} {d : Nat} {Ψ : List zC} {μ : zH} {m tr pa ne fd : Nat} (hm : oM Ψ m tr pa ne fd) {f dn va : Nat} (hf : oF Ψ f m dn va) {t a b : Nat} (hd : oD Ψ t a b) {c s : Int32} : zRn l X mi_X1_speak (d + 3) [.inr t, .inl c, .inl s, .inr f] (Ψ, μ) none (Ψ, zhs μ a (dSp (μ tr) (μ pa) (μ ne) (μ dn) (μ va) (μ a) c s)) := by
  have n1 : tr ≠ a := zne hm.2.1 hd.2.1 (by decide)
  have n2 : pa ≠ a := zne hm.2.2.1 hd.2.1 (by decide)
  have n3 : ne ≠ a := zne hm.2.2.2.1 hd.2.1 (by decide)
  have n4 : dn ≠ a := zne hf.2.1 hd.2.1 (by decide)
  have n5 : va ≠ a := zne hf.2.2 hd.2.1 (by decide)
  refine pv_iconst (v := 1) t_X1_speak_0 zi_1 ?_
  refine pv_iload_n (i := 2) t_X1_speak_1 rfl rfl ?_
  refine pv_isub t_X1_speak_2 ?_
  refine pv_istore t_X1_speak_3 (Nat.le_of_ble_eq_true rfl) ?_
  refine pv_aload_n (i := 0) t_X1_speak_5 rfl rfl ?_
  refine pv_iload t_X1_speak_6 rfl ?_
  refine pv_gV1 t_X1_speak_8 ml_X1_50 mo_X1_person hd.1 rfl (Nat.le_of_ble_eq_true rfl) (e_X1_person hd) (Nat.le_of_ble_eq_true rfl) ?_
  refine pv_istore t_X1_speak_11 (Nat.le_of_ble_eq_true rfl) ?_
  refine pv_aload_n (i := 3) t_X1_speak_13 rfl rfl ?_
  refine pv_getR t_X1_speak_14 fl_X1_67 hf.1 rfl ?_
  refine pv_iload_n (i := 1) t_X1_speak_17 rfl rfl ?_
  refine pv_iconst (v := 0) t_X1_speak_18 zi_0 ?_
  refine pv_gV2 t_X1_speak_19 ml_X1_100 mo_X4_part hm.1 rfl (Nat.le_of_ble_eq_true rfl) (e_X4_part hm) (Nat.le_of_ble_eq_true rfl) ?_
  refine pv_istore t_X1_speak_22 (Nat.le_of_ble_eq_true rfl) ?_
  refine pv_aload_n (i := 3) t_X1_speak_24 rfl rfl ?_
  refine pv_iload_n (i := 1) t_X1_speak_25 rfl rfl ?_
  refine pv_iload t_X1_speak_26 rfl ?_
  refine pv_gV2 t_X1_speak_28 ml_X1_103 mo_X2_truthOf hf.1 rfl (Nat.le_of_ble_eq_true rfl) (e_X2_truthOf hm hf) (Nat.le_of_ble_eq_true rfl) ?_
  refine pv_istore t_X1_speak_31 (Nat.le_of_ble_eq_true rfl) ?_
  refine pv_aload_n (i := 3) t_X1_speak_33 rfl rfl ?_
  refine pv_getR t_X1_speak_34 fl_X1_67 hf.1 rfl ?_
  refine pv_iload_n (i := 1) t_X1_speak_37 rfl rfl ?_
  refine pv_iconst (v := 1) t_X1_speak_38 zi_1 ?_
  refine pv_gV2 t_X1_speak_39 ml_X1_100 mo_X4_part hm.1 rfl (Nat.le_of_ble_eq_true rfl) (e_X4_part hm) (Nat.le_of_ble_eq_true rfl) ?_
  refine pv_aload_n (i := 3) t_X1_speak_42 rfl rfl ?_
  refine pv_iload t_X1_speak_43 rfl ?_
  refine pv_iload t_X1_speak_45 rfl ?_
  refine pv_gV2 t_X1_speak_47 ml_X1_106 mo_X2_vanityOf hf.1 rfl (Nat.le_of_ble_eq_true rfl) (e_X2_vanityOf hm hf) (Nat.le_of_ble_eq_true rfl) ?_
  refine pv_imul t_X1_speak_50 ?_
  refine pv_istore t_X1_speak_51 (Nat.le_of_ble_eq_true rfl) ?_
  refine pv_aload_n (i := 0) t_X1_speak_53 rfl rfl ?_
  refine pv_getR t_X1_speak_54 fl_X1_11 hd.1 rfl ?_
  refine pv_bipush (v := 6) t_X1_speak_57 zb_6 ?_
  refine pv_iload t_X1_speak_59 rfl ?_
  refine pv_iadd t_X1_speak_61 ?_
  refine pv_iload t_X1_speak_62 rfl ?_
  refine pv_iload t_X1_speak_64 rfl ?_
  refine pv_aload_n (i := 0) t_X1_speak_66 rfl rfl ?_
  refine pv_iload t_X1_speak_67 rfl ?_
  refine pv_iload t_X1_speak_69 rfl ?_
  refine pv_gV2 t_X1_speak_71 ml_X1_109 mo_X1_toldTo hd.1 rfl (Nat.le_of_ble_eq_true rfl) (e_X1_toldTo hd) (Nat.le_of_ble_eq_true rfl) ?_
  refine pv_gS3 t_X1_speak_74 ml_X1_112 mo_X2_effectOf (Nat.le_of_ble_eq_true rfl) e_X2_effectOf (Nat.le_of_ble_eq_true rfl) ?_
  refine pv_gS3 t_X1_speak_77 ml_X1_87 mo_X8_add (Nat.le_of_ble_eq_true rfl) (e_X8_add hd.2.1 (by decide)) (Nat.le_of_ble_eq_true rfl) ?_
  refine pv_aload_n (i := 0) t_X1_speak_80 rfl rfl ?_
  refine pv_getR t_X1_speak_81 fl_X1_11 hd.1 rfl ?_
  refine pv_bipush (v := 12) t_X1_speak_84 zb_12 ?_
  refine pv_iload t_X1_speak_86 rfl ?_
  refine pv_iconst (v := 4) t_X1_speak_88 zi_4 ?_
  refine pv_imul t_X1_speak_89 ?_
  refine pv_iadd t_X1_speak_90 ?_
  refine pv_iload t_X1_speak_91 rfl ?_
  refine pv_iadd t_X1_speak_93 ?_
  refine pv_iconst (v := 1) t_X1_speak_94 zi_1 ?_
  refine pv_gS3 t_X1_speak_95 ml_X1_87 mo_X8_add (Nat.le_of_ble_eq_true rfl) (e_X8_add hd.2.1 (by decide)) (Nat.le_of_ble_eq_true rfl) ?_
  refine pv_aload_n (i := 0) t_X1_speak_98 rfl rfl ?_
  refine pv_getR t_X1_speak_99 fl_X1_11 hd.1 rfl ?_
  refine pv_bipush (v := 10) t_X1_speak_102 zb_10 ?_
  refine pv_iload_n (i := 2) t_X1_speak_104 rfl rfl ?_
  refine pv_iadd t_X1_speak_105 ?_
  refine pv_aload_n (i := 3) t_X1_speak_106 rfl rfl ?_
  refine pv_getR t_X1_speak_107 fl_X1_67 hf.1 rfl ?_
  refine pv_iload_n (i := 1) t_X1_speak_110 rfl rfl ?_
  refine pv_iconst (v := 2) t_X1_speak_111 zi_2 ?_
  refine pv_gV2 t_X1_speak_112 ml_X1_100 mo_X4_part hm.1 rfl (Nat.le_of_ble_eq_true rfl) (e_X4_part hm) (Nat.le_of_ble_eq_true rfl) ?_
  refine pv_gS3 t_X1_speak_115 ml_X1_87 mo_X8_add (Nat.le_of_ble_eq_true rfl) (e_X8_add hd.2.1 (by decide)) (Nat.le_of_ble_eq_true rfl) ?_
  refine pv_aload_n (i := 0) t_X1_speak_118 rfl rfl ?_
  refine pv_getR t_X1_speak_119 fl_X1_11 hd.1 rfl ?_
  refine pv_iconst (v := 4) t_X1_speak_122 zi_4 ?_
  refine pv_aload_n (i := 0) t_X1_speak_123 rfl rfl ?_
  refine pv_iconst (v := 4) t_X1_speak_124 zi_4 ?_
  refine pv_gV1 t_X1_speak_125 ml_X1_42 mo_X1_cell hd.1 rfl (Nat.le_of_ble_eq_true rfl) (e_X1_cell hd) (Nat.le_of_ble_eq_true rfl) ?_
  refine pv_iconst (v := 1) t_X1_speak_128 zi_1 ?_
  refine pv_iload_n (i := 1) t_X1_speak_129 rfl rfl ?_
  refine pv_ishl t_X1_speak_130 ?_
  refine pv_ior t_X1_speak_131 ?_
  refine pv_gS3 t_X1_speak_132 ml_X1_30 mo_X8_put (Nat.le_of_ble_eq_true rfl) (e_X8_put hd.2.1 (by decide)) (Nat.le_of_ble_eq_true rfl) ?_
  refine pv_aload_n (i := 0) t_X1_speak_135 rfl rfl ?_
  refine pv_getR t_X1_speak_136 fl_X1_11 hd.1 rfl ?_
  refine pv_iconst (v := 5) t_X1_speak_139 zi_5 ?_
  refine pv_iconst (v := 0) t_X1_speak_140 zi_0 ?_
  refine pv_gS3 t_X1_speak_141 ml_X1_30 mo_X8_put (Nat.le_of_ble_eq_true rfl) (e_X8_put hd.2.1 (by decide)) (Nat.le_of_ble_eq_true rfl) ?_
  refine zst (S2 := (Ψ, zhs μ a (dSp1 (μ pa) (μ ne) (μ dn) (μ va) (μ a) c s))) (by simp only [zhs_hs, zhs_s, zhs_n _ _ n1, zhs_n _ _ n2, zhs_n _ _ n3, zhs_n _ _ n4, zhs_n _ _ n5]; rfl) ?_
  refine pv_iload t_X1_speak_144 rfl ?_
  refine pv_if_ne t_X1_speak_146 (fun c146 => ?_) (fun c146 => ?_)
  · skip
    refine zst (S2 := (Ψ, zhs μ a (dSp2 (μ ne) (μ dn) (μ a) (dSp1 (μ pa) (μ ne) (μ dn) (μ va) (μ a) c s) c s))) (by first | rw [dSp2, if_neg c146] | (rw [dSp2, if_pos c146]; show (Ψ, zhs (zhs μ a (dSp1 (μ pa) (μ ne) (μ dn) (μ va) (μ a) c s)) a (rP (zhs μ a (dSp1 (μ pa) (μ ne) (μ dn) (μ va) (μ a) c s) a) 20 (8 + s) (rA (zhs μ a (dSp1 (μ pa) (μ ne) (μ dn) (μ va) (μ a) c s) a) 20 (8 + s) + 1))) = _; rw [zhs_hs, zhs_s]; rfl)) ?_
    generalize hE : dSp2 (μ ne) (μ dn) (μ a) (dSp1 (μ pa) (μ ne) (μ dn) (μ va) (μ a) c s) c s = E6
    refine pv_aload_n (i := 0) t_X1_speak_161 rfl rfl ?_
    refine pv_bipush (v := 8) t_X1_speak_162 zb_8 ?_
    refine pv_iload_n (i := 2) t_X1_speak_164 rfl rfl ?_
    refine pv_iadd t_X1_speak_165 ?_
    refine pv_gV1 t_X1_speak_166 ml_X1_42 mo_X1_cell hd.1 rfl (Nat.le_of_ble_eq_true rfl) (e_X1_cell hd) (Nat.le_of_ble_eq_true rfl) ?_
    rw [zhs_s]
    refine pv_iconst (v := 3) t_X1_speak_169 zi_3 ?_
    refine pv_icmp_lt t_X1_speak_170 (fun c170 => ?_) (fun c170 => ?_)
    · skip
      refine pv_aload_n (i := 0) t_X1_speak_188 rfl rfl ?_
      refine pv_bipush (v := 6) t_X1_speak_189 zb_6 ?_
      refine pv_iload t_X1_speak_191 rfl ?_
      refine pv_iadd t_X1_speak_193 ?_
      refine pv_gV1 t_X1_speak_194 ml_X1_42 mo_X1_cell hd.1 rfl (Nat.le_of_ble_eq_true rfl) (e_X1_cell hd) (Nat.le_of_ble_eq_true rfl) ?_
      rw [zhs_s]
      refine pv_aload_n (i := 3) t_X1_speak_197 rfl rfl ?_
      refine pv_getR t_X1_speak_198 fl_X1_67 hf.1 rfl ?_
      refine pv_iload t_X1_speak_201 rfl ?_
      refine pv_iconst (v := 0) t_X1_speak_203 zi_0 ?_
      refine pv_gV2 t_X1_speak_204 ml_X1_75 mo_X4_trait hm.1 rfl (Nat.le_of_ble_eq_true rfl) (e_X4_trait hm) (Nat.le_of_ble_eq_true rfl) ?_
      rw [zhs_n _ _ n1]
      refine pv_icmp_lt t_X1_speak_207 (fun c207 => ?_) (fun c207 => ?_)
      · skip
        exact pv_vret t_X1_speak_221 rfl (by show (_, _) = (_, zhs μ a (dSp _ _ _ _ _ _ _ _)); rw [dSp, hE, dSp3]; first | (rw [if_pos (Int32.not_lt.mp c170)]; show (Ψ, zhs (zhs μ a E6) a (rP (zhs μ a E6 a) 20 2 _)) = _; rw [zhs_hs, zhs_s]; rfl) | (rw [if_neg (Int32.not_le.mpr c170), if_pos (Int32.not_lt.mp c207)]; show (Ψ, zhs (zhs μ a E6) a (rP (zhs μ a E6 a) 20 2 _)) = _; rw [zhs_hs, zhs_s]; rfl) | (rw [if_neg (Int32.not_le.mpr c170), if_neg (Int32.not_le.mpr c207)]))
      · skip
        refine pv_aload_n (i := 0) t_X1_speak_210 rfl rfl ?_
        refine pv_getR t_X1_speak_211 fl_X1_11 hd.1 rfl ?_
        refine pv_iconst (v := 2) t_X1_speak_214 zi_2 ?_
        refine pv_iload_n (i := 2) t_X1_speak_215 rfl rfl ?_
        refine pv_iconst (v := 1) t_X1_speak_216 zi_1 ?_
        refine pv_iadd t_X1_speak_217 ?_
        refine pv_gS3 t_X1_speak_218 ml_X1_30 mo_X8_put (Nat.le_of_ble_eq_true rfl) (e_X8_put hd.2.1 (by decide)) (Nat.le_of_ble_eq_true rfl) ?_
        exact pv_vret t_X1_speak_221 rfl (by show (_, _) = (_, zhs μ a (dSp _ _ _ _ _ _ _ _)); rw [dSp, hE, dSp3]; first | (rw [if_pos (Int32.not_lt.mp c170)]; show (Ψ, zhs (zhs μ a E6) a (rP (zhs μ a E6 a) 20 2 _)) = _; rw [zhs_hs, zhs_s]; rfl) | (rw [if_neg (Int32.not_le.mpr c170), if_pos (Int32.not_lt.mp c207)]; show (Ψ, zhs (zhs μ a E6) a (rP (zhs μ a E6 a) 20 2 _)) = _; rw [zhs_hs, zhs_s]; rfl) | (rw [if_neg (Int32.not_le.mpr c170), if_neg (Int32.not_le.mpr c207)]))
    · skip
      refine pv_aload_n (i := 0) t_X1_speak_173 rfl rfl ?_
      refine pv_getR t_X1_speak_174 fl_X1_11 hd.1 rfl ?_
      refine pv_iconst (v := 2) t_X1_speak_177 zi_2 ?_
      refine pv_iload t_X1_speak_178 rfl ?_
      refine pv_iconst (v := 1) t_X1_speak_180 zi_1 ?_
      refine pv_iadd t_X1_speak_181 ?_
      refine pv_gS3 t_X1_speak_182 ml_X1_30 mo_X8_put (Nat.le_of_ble_eq_true rfl) (e_X8_put hd.2.1 (by decide)) (Nat.le_of_ble_eq_true rfl) ?_
      refine pv_goto t_X1_speak_185 ?_
      exact pv_vret t_X1_speak_221 rfl (by show (_, _) = (_, zhs μ a (dSp _ _ _ _ _ _ _ _)); rw [dSp, hE, dSp3]; first | (rw [if_pos (Int32.not_lt.mp c170)]; show (Ψ, zhs (zhs μ a E6) a (rP (zhs μ a E6 a) 20 2 _)) = _; rw [zhs_hs, zhs_s]; rfl) | (rw [if_neg (Int32.not_le.mpr c170), if_pos (Int32.not_lt.mp c207)]; show (Ψ, zhs (zhs μ a E6) a (rP (zhs μ a E6 a) 20 2 _)) = _; rw [zhs_hs, zhs_s]; rfl) | (rw [if_neg (Int32.not_le.mpr c170), if_neg (Int32.not_le.mpr c207)]))
  · skip
    refine pv_aload_n (i := 0) t_X1_speak_149 rfl rfl ?_
    refine pv_getR t_X1_speak_150 fl_X1_11 hd.1 rfl ?_
    refine pv_bipush (v := 8) t_X1_speak_153 zb_8 ?_
    refine pv_iload_n (i := 2) t_X1_speak_155 rfl rfl ?_
    refine pv_iadd t_X1_speak_156 ?_
    refine pv_iconst (v := 1) t_X1_speak_157 zi_1 ?_
    refine pv_gS3 t_X1_speak_158 ml_X1_87 mo_X8_add (Nat.le_of_ble_eq_true rfl) (e_X8_add hd.2.1 (by decide)) (Nat.le_of_ble_eq_true rfl) ?_
    refine zst (S2 := (Ψ, zhs μ a (dSp2 (μ ne) (μ dn) (μ a) (dSp1 (μ pa) (μ ne) (μ dn) (μ va) (μ a) c s) c s))) (by first | rw [dSp2, if_neg c146] | (rw [dSp2, if_pos c146]; show (Ψ, zhs (zhs μ a (dSp1 (μ pa) (μ ne) (μ dn) (μ va) (μ a) c s)) a (rP (zhs μ a (dSp1 (μ pa) (μ ne) (μ dn) (μ va) (μ a) c s) a) 20 (8 + s) (rA (zhs μ a (dSp1 (μ pa) (μ ne) (μ dn) (μ va) (μ a) c s) a) 20 (8 + s) + 1))) = _; rw [zhs_hs, zhs_s]; rfl)) ?_
    generalize hE : dSp2 (μ ne) (μ dn) (μ a) (dSp1 (μ pa) (μ ne) (μ dn) (μ va) (μ a) c s) c s = E6
    refine pv_aload_n (i := 0) t_X1_speak_161 rfl rfl ?_
    refine pv_bipush (v := 8) t_X1_speak_162 zb_8 ?_
    refine pv_iload_n (i := 2) t_X1_speak_164 rfl rfl ?_
    refine pv_iadd t_X1_speak_165 ?_
    refine pv_gV1 t_X1_speak_166 ml_X1_42 mo_X1_cell hd.1 rfl (Nat.le_of_ble_eq_true rfl) (e_X1_cell hd) (Nat.le_of_ble_eq_true rfl) ?_
    rw [zhs_s]
    refine pv_iconst (v := 3) t_X1_speak_169 zi_3 ?_
    refine pv_icmp_lt t_X1_speak_170 (fun c170 => ?_) (fun c170 => ?_)
    · skip
      refine pv_aload_n (i := 0) t_X1_speak_188 rfl rfl ?_
      refine pv_bipush (v := 6) t_X1_speak_189 zb_6 ?_
      refine pv_iload t_X1_speak_191 rfl ?_
      refine pv_iadd t_X1_speak_193 ?_
      refine pv_gV1 t_X1_speak_194 ml_X1_42 mo_X1_cell hd.1 rfl (Nat.le_of_ble_eq_true rfl) (e_X1_cell hd) (Nat.le_of_ble_eq_true rfl) ?_
      rw [zhs_s]
      refine pv_aload_n (i := 3) t_X1_speak_197 rfl rfl ?_
      refine pv_getR t_X1_speak_198 fl_X1_67 hf.1 rfl ?_
      refine pv_iload t_X1_speak_201 rfl ?_
      refine pv_iconst (v := 0) t_X1_speak_203 zi_0 ?_
      refine pv_gV2 t_X1_speak_204 ml_X1_75 mo_X4_trait hm.1 rfl (Nat.le_of_ble_eq_true rfl) (e_X4_trait hm) (Nat.le_of_ble_eq_true rfl) ?_
      rw [zhs_n _ _ n1]
      refine pv_icmp_lt t_X1_speak_207 (fun c207 => ?_) (fun c207 => ?_)
      · skip
        exact pv_vret t_X1_speak_221 rfl (by show (_, _) = (_, zhs μ a (dSp _ _ _ _ _ _ _ _)); rw [dSp, hE, dSp3]; first | (rw [if_pos (Int32.not_lt.mp c170)]; show (Ψ, zhs (zhs μ a E6) a (rP (zhs μ a E6 a) 20 2 _)) = _; rw [zhs_hs, zhs_s]; rfl) | (rw [if_neg (Int32.not_le.mpr c170), if_pos (Int32.not_lt.mp c207)]; show (Ψ, zhs (zhs μ a E6) a (rP (zhs μ a E6 a) 20 2 _)) = _; rw [zhs_hs, zhs_s]; rfl) | (rw [if_neg (Int32.not_le.mpr c170), if_neg (Int32.not_le.mpr c207)]))
      · skip
        refine pv_aload_n (i := 0) t_X1_speak_210 rfl rfl ?_
        refine pv_getR t_X1_speak_211 fl_X1_11 hd.1 rfl ?_
        refine pv_iconst (v := 2) t_X1_speak_214 zi_2 ?_
        refine pv_iload_n (i := 2) t_X1_speak_215 rfl rfl ?_
        refine pv_iconst (v := 1) t_X1_speak_216 zi_1 ?_
        refine pv_iadd t_X1_speak_217 ?_
        refine pv_gS3 t_X1_speak_218 ml_X1_30 mo_X8_put (Nat.le_of_ble_eq_true rfl) (e_X8_put hd.2.1 (by decide)) (Nat.le_of_ble_eq_true rfl) ?_
        exact pv_vret t_X1_speak_221 rfl (by show (_, _) = (_, zhs μ a (dSp _ _ _ _ _ _ _ _)); rw [dSp, hE, dSp3]; first | (rw [if_pos (Int32.not_lt.mp c170)]; show (Ψ, zhs (zhs μ a E6) a (rP (zhs μ a E6 a) 20 2 _)) = _; rw [zhs_hs, zhs_s]; rfl) | (rw [if_neg (Int32.not_le.mpr c170), if_pos (Int32.not_lt.mp c207)]; show (Ψ, zhs (zhs μ a E6) a (rP (zhs μ a E6 a) 20 2 _)) = _; rw [zhs_hs, zhs_s]; rfl) | (rw [if_neg (Int32.not_le.mpr c170), if_neg (Int32.not_le.mpr c207)]))
    · skip
      refine pv_aload_n (i := 0) t_X1_speak_173 rfl rfl ?_
      refine pv_getR t_X1_speak_174 fl_X1_11 hd.1 rfl ?_
      refine pv_iconst (v := 2) t_X1_speak_177 zi_2 ?_
      refine pv_iload t_X1_speak_178 rfl ?_
      refine pv_iconst (v := 1) t_X1_speak_180 zi_1 ?_
      refine pv_iadd t_X1_speak_181 ?_
      refine pv_gS3 t_X1_speak_182 ml_X1_30 mo_X8_put (Nat.le_of_ble_eq_true rfl) (e_X8_put hd.2.1 (by decide)) (Nat.le_of_ble_eq_true rfl) ?_
      refine pv_goto t_X1_speak_185 ?_
      exact pv_vret t_X1_speak_221 rfl (by show (_, _) = (_, zhs μ a (dSp _ _ _ _ _ _ _ _)); rw [dSp, hE, dSp3]; first | (rw [if_pos (Int32.not_lt.mp c170)]; show (Ψ, zhs (zhs μ a E6) a (rP (zhs μ a E6 a) 20 2 _)) = _; rw [zhs_hs, zhs_s]; rfl) | (rw [if_neg (Int32.not_le.mpr c170), if_pos (Int32.not_lt.mp c207)]; show (Ψ, zhs (zhs μ a E6) a (rP (zhs μ a E6 a) 20 2 _)) = _; rw [zhs_hs, zhs_s]; rfl) | (rw [if_neg (Int32.not_le.mpr c170), if_neg (Int32.not_le.mpr c207)]))

theorem e_X1_play {l : Launch} {X : zX} {d : Nat} {Ψ : List zC} {μ : zH} {m tr pa ne fd : Nat} (hm : oM Ψ m tr pa ne fd) {f dn va : Nat} (hf : oF Ψ f m dn va) {t a b : Nat} (hd : oD Ψ t a b) {z : Int32} : zRn l X mi_X1_play (d + 4) [.inr t, .inl z, .inr f] (Ψ, μ) none (Ψ, zhs (zhs μ b (dRem (μ a) (μ b))) a (dPl (μ tr) (μ pa) (μ ne) (μ dn) (μ va) (μ a) z)) := by
  have n1 : tr ≠ a := zne hm.2.1 hd.2.1 (by decide)
  have n2 : pa ≠ a := zne hm.2.2.1 hd.2.1 (by decide)
  have n3 : ne ≠ a := zne hm.2.2.2.1 hd.2.1 (by decide)
  have n4 : dn ≠ a := zne hf.2.1 hd.2.1 (by decide)
  have n5 : va ≠ a := zne hf.2.2 hd.2.1 (by decide)
  have k1 : tr ≠ b := zne hm.2.1 hd.2.2 (by decide)
  have k2 : pa ≠ b := zne hm.2.2.1 hd.2.2 (by decide)
  have k3 : ne ≠ b := zne hm.2.2.2.1 hd.2.2 (by decide)
  have k4 : dn ≠ b := zne hf.2.1 hd.2.2 (by decide)
  have k5 : va ≠ b := zne hf.2.2 hd.2.2 (by decide)
  have nab : a ≠ b := zne hd.2.1 hd.2.2 (by decide)
  refine pv_aload_n (i := 0) t_X1_play_0 rfl rfl ?_
  refine pv_gV0 t_X1_play_1 ml_X1_60 mo_X1_side hd.1 rfl (Nat.le_of_ble_eq_true rfl) (e_X1_side hd) (Nat.le_of_ble_eq_true rfl) ?_
  refine pv_istore_n (i := 3) t_X1_play_4 rfl (Nat.le_of_ble_eq_true rfl) ?_
  refine pv_aload_n (i := 0) t_X1_play_5 rfl rfl ?_
  refine pv_gV0 t_X1_play_6 ml_X1_64 mo_X1_remember hd.1 rfl (Nat.le_of_ble_eq_true rfl) (e_X1_remember hd) (Nat.le_of_ble_eq_true rfl) ?_
  refine pv_aload_n (i := 0) t_X1_play_9 rfl rfl ?_
  refine pv_bipush (v := 6) t_X1_play_10 zb_6 ?_
  refine pv_iload_n (i := 3) t_X1_play_12 rfl rfl ?_
  refine pv_iadd t_X1_play_13 ?_
  refine pv_gV1 t_X1_play_14 ml_X1_42 mo_X1_cell hd.1 rfl (Nat.le_of_ble_eq_true rfl) (e_X1_cell hd) (Nat.le_of_ble_eq_true rfl) ?_
  refine pv_aload_n (i := 2) t_X1_play_17 rfl rfl ?_
  refine pv_getR t_X1_play_18 fl_X1_67 hf.1 rfl ?_
  refine pv_aload_n (i := 0) t_X1_play_21 rfl rfl ?_
  refine pv_iload_n (i := 3) t_X1_play_22 rfl rfl ?_
  refine pv_gV1 t_X1_play_23 ml_X1_50 mo_X1_person hd.1 rfl (Nat.le_of_ble_eq_true rfl) (e_X1_person hd) (Nat.le_of_ble_eq_true rfl) ?_
  refine pv_iconst (v := 1) t_X1_play_26 zi_1 ?_
  refine pv_gV2 t_X1_play_27 ml_X1_75 mo_X4_trait hm.1 rfl (Nat.le_of_ble_eq_true rfl) (e_X4_trait hm) (Nat.le_of_ble_eq_true rfl) ?_
  refine pv_isub t_X1_play_30 ?_
  refine pv_istore t_X1_play_31 (Nat.le_of_ble_eq_true rfl) ?_
  refine pv_aload_n (i := 0) t_X1_play_33 rfl rfl ?_
  refine pv_getR t_X1_play_34 fl_X1_11 hd.1 rfl ?_
  refine pv_bipush (v := 6) t_X1_play_37 zb_6 ?_
  refine pv_iload_n (i := 3) t_X1_play_39 rfl rfl ?_
  refine pv_iadd t_X1_play_40 ?_
  refine pv_iconst (v := 0) t_X1_play_41 zi_0 ?_
  refine pv_iload t_X1_play_42 rfl ?_
  refine pv_gS2 t_X1_play_44 ml_X1_79 mo_J_max (Nat.le_of_ble_eq_true rfl) e_J_max (Nat.le_of_ble_eq_true rfl) ?_
  refine pv_gS3 t_X1_play_47 ml_X1_30 mo_X8_put (Nat.le_of_ble_eq_true rfl) (e_X8_put hd.2.1 (by decide)) (Nat.le_of_ble_eq_true rfl) ?_
  refine pv_iload_n (i := 1) t_X1_play_50 rfl rfl ?_
  refine pv_bipush (v := 8) t_X1_play_51 zb_8 ?_
  refine pv_icmp_ne t_X1_play_53 (fun c53 => ?_) (fun c53 => ?_)
  · skip
    refine pv_iload_n (i := 1) t_X1_play_63 rfl rfl ?_
    refine pv_bipush (v := 9) t_X1_play_64 zb_9 ?_
    refine pv_icmp_ne t_X1_play_66 (fun c66 => ?_) (fun c66 => ?_)
    · skip
      refine pv_aload_n (i := 0) t_X1_play_93 rfl rfl ?_
      refine pv_iload_n (i := 1) t_X1_play_94 rfl rfl ?_
      refine pv_iload_n (i := 3) t_X1_play_95 rfl rfl ?_
      refine pv_aload_n (i := 2) t_X1_play_96 rfl rfl ?_
      refine pv_gV3 t_X1_play_97 ml_X1_90 mo_X1_speak hd.1 rfl (Nat.le_of_ble_eq_true rfl) (e_X1_speak hm hf hd) (Nat.le_of_ble_eq_true rfl) ?_
      refine pv_aload_n (i := 0) t_X1_play_100 rfl rfl ?_
      refine pv_getR t_X1_play_101 fl_X1_11 hd.1 rfl ?_
      refine pv_iconst (v := 3) t_X1_play_104 zi_3 ?_
      refine pv_iconst (v := 1) t_X1_play_105 zi_1 ?_
      refine pv_gS3 t_X1_play_106 ml_X1_87 mo_X8_add (Nat.le_of_ble_eq_true rfl) (e_X8_add hd.2.1 (by decide)) (Nat.le_of_ble_eq_true rfl) ?_
      exact pv_vret t_X1_play_109 rfl (by simp only [zhs_hs, zhs_s, zhs_n _ _ n1, zhs_n _ _ n2, zhs_n _ _ n3, zhs_n _ _ n4, zhs_n _ _ n5, zhs_n _ _ k1, zhs_n _ _ k2, zhs_n _ _ k3, zhs_n _ _ k4, zhs_n _ _ k5, zhs_n _ _ nab]; first | (rw [dPl, if_pos c53]; rfl) | (rw [dPl, if_neg c53, if_pos c66]; rfl) | (rw [dPl, if_neg c53, if_neg c66]; rfl))
    · skip
      refine pv_aload_n (i := 0) t_X1_play_69 rfl rfl ?_
      refine pv_getR t_X1_play_70 fl_X1_11 hd.1 rfl ?_
      refine pv_bipush (v := 8) t_X1_play_73 zb_8 ?_
      refine pv_iload_n (i := 3) t_X1_play_75 rfl rfl ?_
      refine pv_iadd t_X1_play_76 ?_
      refine pv_iconst (v := -1) t_X1_play_77 zi_m1 ?_
      refine pv_gS3 t_X1_play_78 ml_X1_87 mo_X8_add (Nat.le_of_ble_eq_true rfl) (e_X8_add hd.2.1 (by decide)) (Nat.le_of_ble_eq_true rfl) ?_
      refine pv_aload_n (i := 0) t_X1_play_81 rfl rfl ?_
      refine pv_getR t_X1_play_82 fl_X1_11 hd.1 rfl ?_
      refine pv_iconst (v := 5) t_X1_play_85 zi_5 ?_
      refine pv_iconst (v := 0) t_X1_play_86 zi_0 ?_
      refine pv_gS3 t_X1_play_87 ml_X1_30 mo_X8_put (Nat.le_of_ble_eq_true rfl) (e_X8_put hd.2.1 (by decide)) (Nat.le_of_ble_eq_true rfl) ?_
      refine pv_goto t_X1_play_90 ?_
      refine pv_aload_n (i := 0) t_X1_play_100 rfl rfl ?_
      refine pv_getR t_X1_play_101 fl_X1_11 hd.1 rfl ?_
      refine pv_iconst (v := 3) t_X1_play_104 zi_3 ?_
      refine pv_iconst (v := 1) t_X1_play_105 zi_1 ?_
      refine pv_gS3 t_X1_play_106 ml_X1_87 mo_X8_add (Nat.le_of_ble_eq_true rfl) (e_X8_add hd.2.1 (by decide)) (Nat.le_of_ble_eq_true rfl) ?_
      exact pv_vret t_X1_play_109 rfl (by simp only [zhs_hs, zhs_s, zhs_n _ _ n1, zhs_n _ _ n2, zhs_n _ _ n3, zhs_n _ _ n4, zhs_n _ _ n5, zhs_n _ _ k1, zhs_n _ _ k2, zhs_n _ _ k3, zhs_n _ _ k4, zhs_n _ _ k5, zhs_n _ _ nab]; first | (rw [dPl, if_pos c53]; rfl) | (rw [dPl, if_neg c53, if_pos c66]; rfl) | (rw [dPl, if_neg c53, if_neg c66]; rfl))
  · skip
    refine pv_aload_n (i := 0) t_X1_play_56 rfl rfl ?_
    refine pv_gV0 t_X1_play_57 ml_X1_84 mo_X1_passOnce hd.1 rfl (Nat.le_of_ble_eq_true rfl) (e_X1_passOnce hd) (Nat.le_of_ble_eq_true rfl) ?_
    refine pv_goto t_X1_play_60 ?_
    refine pv_aload_n (i := 0) t_X1_play_100 rfl rfl ?_
    refine pv_getR t_X1_play_101 fl_X1_11 hd.1 rfl ?_
    refine pv_iconst (v := 3) t_X1_play_104 zi_3 ?_
    refine pv_iconst (v := 1) t_X1_play_105 zi_1 ?_
    refine pv_gS3 t_X1_play_106 ml_X1_87 mo_X8_add (Nat.le_of_ble_eq_true rfl) (e_X8_add hd.2.1 (by decide)) (Nat.le_of_ble_eq_true rfl) ?_
    exact pv_vret t_X1_play_109 rfl (by simp only [zhs_hs, zhs_s, zhs_n _ _ n1, zhs_n _ _ n2, zhs_n _ _ n3, zhs_n _ _ n4, zhs_n _ _ n5, zhs_n _ _ k1, zhs_n _ _ k2, zhs_n _ _ k3, zhs_n _ _ k4, zhs_n _ _ k5, zhs_n _ _ nab]; first | (rw [dPl, if_pos c53]; rfl) | (rw [dPl, if_neg c53, if_pos c66]; rfl) | (rw [dPl, if_neg c53, if_neg c66]; rfl))

