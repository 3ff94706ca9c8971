/-- shapes of objects -/
def oM (sh : List zC) (m tr pa ne fd : Nat) : Prop := sh[m]? = some (.inr (.inr (4, [none, none, some (some tr), some (some pa), some (some ne), some (some fd)]))) ∧ sh[tr]? = some (.inl (0, 24)) ∧ sh[pa]? = some (.inl (0, 40)) ∧ sh[ne]? = some (.inl (0, 8)) ∧ sh[fd]? = some (.inl (0, 4))
def oF (sh : List zC) (f m dn va : Nat) : Prop := sh[f]? = some (.inr (.inr (2, [some (some m), some (some dn), some (some va)]))) ∧ sh[dn]? = some (.inl (0, 4)) ∧ sh[va]? = some (.inl (0, 16))
def zib (d n : Int32) : Bool := decide (0 ≤ d.toInt ∧ d.toInt < n.toInt)
theorem zib_t {d n : Int32} (h1 : ¬ d < 0) (h2 : ¬ n ≤ d) : zib d n = true := by
  rw [zlt0] at h1
  rw [Int32.le_iff_toInt_le] at h2
  exact decide_eq_true (by omega)
theorem zib_f1 {d n : Int32} (h1 : d < 0) : zib d n = false := by
  rw [zlt0] at h1
  exact decide_eq_false (by omega)
theorem zib_f2 {d n : Int32} (h2 : n ≤ d) : zib d n = false := by
  rw [Int32.le_iff_toInt_le] at h2
  exact decide_eq_false (by omega)
def zfold {σ : Type} (f : Nat → σ → σ) (s : σ) : Nat → σ
  | 0 => s
  | n + 1 => f n (zfold f s n)
def zus (x k : Int32) : Int32 := (x.toUInt32 >>> (k.toUInt32 &&& Int32.toUInt32 31)).toInt32
def bc (x : Int32) : Int32 :=
  let a := x - (zus x 1 &&& 1431655765)
  let b := (a &&& 858993459) + (zus a 2 &&& 858993459)
  let c := (b + zus b 4) &&& 252645135
  let e := c + zus c 8
  (e + zus e 16) &&& 63
def part (pa : Nat → Int32) (c w : Int32) : Int32 := rA pa 40 (c * 5 + w)
def trait (tr : Nat → Int32) (d w : Int32) : Int32 := rA tr 24 (d * 6 + w)
def dbit (n : Int32) : Int32 := if zib n 8 then 1 <<< (n &&& 31) else 0
def tru (ne dn : Nat → Int32) (c d : Int32) : Int32 := if rA ne 8 c &&& rA dn 4 d = rA ne 8 c then 2 else if rA ne 8 c &&& rA dn 4 d = 0 then 0 else 1
def effO (t w k : Int32) : Int32 := if t = 0 ∨ k < 0 ∨ 30 < k then 0 else (if t = 1 then w / 2 else w) >>> (k &&& 31)
def effB (pa ne dn : Nat → Int32) (c d v k : Int32) : Int32 := effO (tru ne dn c d) (part pa c 1 * v) k
def vanO (va : Nat → Int32) (d t : Int32) : Int32 := rA va 16 (d * 4 + t)
def effN (pa ne dn va : Nat → Int32) (c d k : Int32) : Int32 := effB pa ne dn c d (vanO va d (part pa c 0)) k
theorem e_J_bitCount {l : Launch} {X : zX} {d : Nat} {Ψ : List zC} {μ : zH} {a : Int32} : zRn l X mi_J_bitCount d [.inl a] (Ψ, μ) (some (.inl (bc a))) (Ψ, μ) := by
  refine pv_iload_n (i := 0) t_J_bitCount_0 rfl rfl ?_
  refine pv_iload_n (i := 0) t_J_bitCount_1 rfl rfl ?_
  refine pv_iconst (v := 1) t_J_bitCount_2 zi_1 ?_
  refine pv_iushr t_J_bitCount_3 ?_
  refine pv_ldcw t_J_bitCount_4 kc_J_265 ?_
  refine pv_iand t_J_bitCount_7 ?_
  refine pv_isub t_J_bitCount_8 ?_
  refine pv_istore_n (i := 0) t_J_bitCount_9 rfl (Nat.le_of_ble_eq_true rfl) ?_
  refine pv_iload_n (i := 0) t_J_bitCount_10 rfl rfl ?_
  refine pv_ldcw t_J_bitCount_11 kc_J_266 ?_
  refine pv_iand t_J_bitCount_14 ?_
  refine pv_iload_n (i := 0) t_J_bitCount_15 rfl rfl ?_
  refine pv_iconst (v := 2) t_J_bitCount_16 zi_2 ?_
  refine pv_iushr t_J_bitCount_17 ?_
  refine pv_ldcw t_J_bitCount_18 kc_J_266 ?_
  refine pv_iand t_J_bitCount_21 ?_
  refine pv_iadd t_J_bitCount_22 ?_
  refine pv_istore_n (i := 0) t_J_bitCount_23 rfl (Nat.le_of_ble_eq_true rfl) ?_
  refine pv_iload_n (i := 0) t_J_bitCount_24 rfl rfl ?_
  refine pv_iload_n (i := 0) t_J_bitCount_25 rfl rfl ?_
  refine pv_iconst (v := 4) t_J_bitCount_26 zi_4 ?_
  refine pv_iushr t_J_bitCount_27 ?_
  refine pv_iadd t_J_bitCount_28 ?_
  refine pv_ldcw t_J_bitCount_29 kc_J_267 ?_
  refine pv_iand t_J_bitCount_32 ?_
  refine pv_istore_n (i := 0) t_J_bitCount_33 rfl (Nat.le_of_ble_eq_true rfl) ?_
  refine pv_iload_n (i := 0) t_J_bitCount_34 rfl rfl ?_
  refine pv_iload_n (i := 0) t_J_bitCount_35 rfl rfl ?_
  refine pv_bipush (v := 8) t_J_bitCount_36 zb_8 ?_
  refine pv_iushr t_J_bitCount_38 ?_
  refine pv_iadd t_J_bitCount_39 ?_
  refine pv_istore_n (i := 0) t_J_bitCount_40 rfl (Nat.le_of_ble_eq_true rfl) ?_
  refine pv_iload_n (i := 0) t_J_bitCount_41 rfl rfl ?_
  refine pv_iload_n (i := 0) t_J_bitCount_42 rfl rfl ?_
  refine pv_bipush (v := 16) t_J_bitCount_43 zb_16 ?_
  refine pv_iushr t_J_bitCount_45 ?_
  refine pv_iadd t_J_bitCount_46 ?_
  refine pv_istore_n (i := 0) t_J_bitCount_47 rfl (Nat.le_of_ble_eq_true rfl) ?_
  refine pv_iload_n (i := 0) t_J_bitCount_48 rfl rfl ?_
  refine pv_bipush (v := 63) t_J_bitCount_49 zb_63 ?_
  refine pv_iand t_J_bitCount_51 ?_
  exact pv_ireti t_J_bitCount_52 rfl rfl rfl

theorem e_X4_hasPerson {l : Launch} {X : zX} {d : Nat} {Ψ : List zC} {μ : zH} {m tr pa ne fd : Nat} (hm : oM Ψ m tr pa ne fd) {c : Int32} : zRn l X mi_X4_hasPerson d [.inr m, .inl c] (Ψ, μ) (some (.inl (bz (zib c (μ m 0))))) (Ψ, μ) := by
  refine pv_iload_n (i := 1) t_X4_hasPerson_0 rfl rfl ?_
  refine pv_if_lt t_X4_hasPerson_1 (fun c1 => ?_) (fun c1 => ?_)
  · skip
    refine pv_iconst (v := 0) t_X4_hasPerson_16 zi_0 ?_
    exact pv_iretz t_X4_hasPerson_17 rfl (by first | exact ⟨by rw [zib_t c1 c9]; rfl, bz_01 _⟩ | exact ⟨by rw [zib_f2 c9]; rfl, bz_01 _⟩ | exact ⟨by rw [zib_f1 c1]; rfl, bz_01 _⟩) rfl
  · skip
    refine pv_iload_n (i := 1) t_X4_hasPerson_4 rfl rfl ?_
    refine pv_aload_n (i := 0) t_X4_hasPerson_5 rfl rfl ?_
    refine pv_getI t_X4_hasPerson_6 fl_X4_24 hm.1 rfl ?_
    refine pv_icmp_ge t_X4_hasPerson_9 (fun c9 => ?_) (fun c9 => ?_)
    · skip
      refine pv_iconst (v := 0) t_X4_hasPerson_16 zi_0 ?_
      exact pv_iretz t_X4_hasPerson_17 rfl (by first | exact ⟨by rw [zib_t c1 c9]; rfl, bz_01 _⟩ | exact ⟨by rw [zib_f2 c9]; rfl, bz_01 _⟩ | exact ⟨by rw [zib_f1 c1]; rfl, bz_01 _⟩) rfl
    · skip
      refine pv_iconst (v := 1) t_X4_hasPerson_12 zi_1 ?_
      refine pv_goto t_X4_hasPerson_13 ?_
      exact pv_iretz t_X4_hasPerson_17 rfl (by first | exact ⟨by rw [zib_t c1 c9]; rfl, bz_01 _⟩ | exact ⟨by rw [zib_f2 c9]; rfl, bz_01 _⟩ | exact ⟨by rw [zib_f1 c1]; rfl, bz_01 _⟩) rfl

theorem e_X4_hasPhrase {l : Launch} {X : zX} {d : Nat} {Ψ : List zC} {μ : zH} {m tr pa ne fd : Nat} (hm : oM Ψ m tr pa ne fd) {c : Int32} : zRn l X mi_X4_hasPhrase d [.inr m, .inl c] (Ψ, μ) (some (.inl (bz (zib c (μ m 1))))) (Ψ, μ) := by
  refine pv_iload_n (i := 1) t_X4_hasPhrase_0 rfl rfl ?_
  refine pv_if_lt t_X4_hasPhrase_1 (fun c1 => ?_) (fun c1 => ?_)
  · skip
    refine pv_iconst (v := 0) t_X4_hasPhrase_16 zi_0 ?_
    exact pv_iretz t_X4_hasPhrase_17 rfl (by first | exact ⟨by rw [zib_t c1 c9]; rfl, bz_01 _⟩ | exact ⟨by rw [zib_f2 c9]; rfl, bz_01 _⟩ | exact ⟨by rw [zib_f1 c1]; rfl, bz_01 _⟩) rfl
  · skip
    refine pv_iload_n (i := 1) t_X4_hasPhrase_4 rfl rfl ?_
    refine pv_aload_n (i := 0) t_X4_hasPhrase_5 rfl rfl ?_
    refine pv_getI t_X4_hasPhrase_6 fl_X4_28 hm.1 rfl ?_
    refine pv_icmp_ge t_X4_hasPhrase_9 (fun c9 => ?_) (fun c9 => ?_)
    · skip
      refine pv_iconst (v := 0) t_X4_hasPhrase_16 zi_0 ?_
      exact pv_iretz t_X4_hasPhrase_17 rfl (by first | exact ⟨by rw [zib_t c1 c9]; rfl, bz_01 _⟩ | exact ⟨by rw [zib_f2 c9]; rfl, bz_01 _⟩ | exact ⟨by rw [zib_f1 c1]; rfl, bz_01 _⟩) rfl
    · skip
      refine pv_iconst (v := 1) t_X4_hasPhrase_12 zi_1 ?_
      refine pv_goto t_X4_hasPhrase_13 ?_
      exact pv_iretz t_X4_hasPhrase_17 rfl (by first | exact ⟨by rw [zib_t c1 c9]; rfl, bz_01 _⟩ | exact ⟨by rw [zib_f2 c9]; rfl, bz_01 _⟩ | exact ⟨by rw [zib_f1 c1]; rfl, bz_01 _⟩) rfl

theorem e_X4_trait {l : Launch} {X : zX} {d : Nat} {Ψ : List zC} {μ : zH} {m tr pa ne fd : Nat} (hm : oM Ψ m tr pa ne fd) {c w : Int32} : zRn l X mi_X4_trait (d + 1) [.inr m, .inl c, .inl w] (Ψ, μ) (some (.inl (trait (μ tr) c w))) (Ψ, μ) := by
  refine pv_aload_n (i := 0) t_X4_trait_0 rfl rfl ?_
  refine pv_getR t_X4_trait_1 fl_X4_11 hm.1 rfl ?_
  refine pv_iload_n (i := 1) t_X4_trait_4 rfl rfl ?_
  refine pv_bipush (v := 6) t_X4_trait_5 zb_6 ?_
  refine pv_imul t_X4_trait_7 ?_
  refine pv_iload_n (i := 2) t_X4_trait_8 rfl rfl ?_
  refine pv_iadd t_X4_trait_9 ?_
  refine pv_gS2 t_X4_trait_10 ml_X4_31 mo_X8_at (Nat.le_of_ble_eq_true rfl) (e_X8_at (Or.inl hm.2.1) (by decide)) (Nat.le_of_ble_eq_true rfl) ?_
  exact pv_ireti t_X4_trait_13 rfl rfl rfl

theorem e_X4_part {l : Launch} {X : zX} {d : Nat} {Ψ : List zC} {μ : zH} {m tr pa ne fd : Nat} (hm : oM Ψ m tr pa ne fd) {c w : Int32} : zRn l X mi_X4_part (d + 1) [.inr m, .inl c, .inl w] (Ψ, μ) (some (.inl (part (μ pa) c w))) (Ψ, μ) := by
  refine pv_aload_n (i := 0) t_X4_part_0 rfl rfl ?_
  refine pv_getR t_X4_part_1 fl_X4_15 hm.1 rfl ?_
  refine pv_iload_n (i := 1) t_X4_part_4 rfl rfl ?_
  refine pv_iconst (v := 5) t_X4_part_5 zi_5 ?_
  refine pv_imul t_X4_part_6 ?_
  refine pv_iload_n (i := 2) t_X4_part_7 rfl rfl ?_
  refine pv_iadd t_X4_part_8 ?_
  refine pv_gS2 t_X4_part_9 ml_X4_31 mo_X8_at (Nat.le_of_ble_eq_true rfl) (e_X8_at (Or.inl hm.2.2.1) (by decide)) (Nat.le_of_ble_eq_true rfl) ?_
  exact pv_ireti t_X4_part_12 rfl rfl rfl

theorem e_X4_deedBit {l : Launch} {X : zX} {d : Nat} {Ψ : List zC} {μ : zH} {c : Int32} : zRn l X mi_X4_deedBit d [.inl c] (Ψ, μ) (some (.inl (dbit c))) (Ψ, μ) := by
  refine pv_iload_n (i := 0) t_X4_deedBit_0 rfl rfl ?_
  refine pv_if_lt t_X4_deedBit_1 (fun c1 => ?_) (fun c1 => ?_)
  · skip
    refine pv_iconst (v := 0) t_X4_deedBit_16 zi_0 ?_
    exact pv_ireti t_X4_deedBit_17 rfl (by first | exact (if_pos (zib_t c1 c7)).symm | exact (if_neg (by rw [zib_f2 c7]; decide)).symm | exact (if_neg (by rw [zib_f1 c1]; decide)).symm) rfl
  · skip
    refine pv_iload_n (i := 0) t_X4_deedBit_4 rfl rfl ?_
    refine pv_bipush (v := 8) t_X4_deedBit_5 zb_8 ?_
    refine pv_icmp_ge t_X4_deedBit_7 (fun c7 => ?_) (fun c7 => ?_)
    · skip
      refine pv_iconst (v := 0) t_X4_deedBit_16 zi_0 ?_
      exact pv_ireti t_X4_deedBit_17 rfl (by first | exact (if_pos (zib_t c1 c7)).symm | exact (if_neg (by rw [zib_f2 c7]; decide)).symm | exact (if_neg (by rw [zib_f1 c1]; decide)).symm) rfl
    · skip
      refine pv_iconst (v := 1) t_X4_deedBit_10 zi_1 ?_
      refine pv_iload_n (i := 0) t_X4_deedBit_11 rfl rfl ?_
      refine pv_ishl t_X4_deedBit_12 ?_
      refine pv_goto t_X4_deedBit_13 ?_
      exact pv_ireti t_X4_deedBit_17 rfl (by first | exact (if_pos (zib_t c1 c7)).symm | exact (if_neg (by rw [zib_f2 c7]; decide)).symm | exact (if_neg (by rw [zib_f1 c1]; decide)).symm) rfl

theorem e_X2_deedsOf {l : Launch} {X : zX} {d : Nat} {Ψ : List zC} {μ : zH} {m tr pa ne fd : Nat} (hm : oM Ψ m tr pa ne fd) {f dn va : Nat} (hf : oF Ψ f m dn va) {c : Int32} : zRn l X mi_X2_deedsOf (d + 1) [.inr f, .inl c] (Ψ, μ) (some (.inl (rA (μ dn) 4 c))) (Ψ, μ) := by
  refine pv_aload_n (i := 0) t_X2_deedsOf_0 rfl rfl ?_
  refine pv_getR t_X2_deedsOf_1 fl_X2_9 hf.1 rfl ?_
  refine pv_iload_n (i := 1) t_X2_deedsOf_4 rfl rfl ?_
  refine pv_gS2 t_X2_deedsOf_5 ml_X2_37 mo_X8_at (Nat.le_of_ble_eq_true rfl) (e_X8_at (Or.inl hf.2.1) (by decide)) (Nat.le_of_ble_eq_true rfl) ?_
  exact pv_ireti t_X2_deedsOf_8 rfl rfl rfl

theorem e_X2_vanityOf {l : Launch} {X : zX} {d : Nat} {Ψ : List zC} {μ : zH} {m tr pa ne fd : Nat} (hm : oM Ψ m tr pa ne fd) {f dn va : Nat} (hf : oF Ψ f m dn va) {c t : Int32} : zRn l X mi_X2_vanityOf (d + 1) [.inr f, .inl c, .inl t] (Ψ, μ) (some (.inl (vanO (μ va) c t))) (Ψ, μ) := by
  refine pv_aload_n (i := 0) t_X2_vanityOf_0 rfl rfl ?_
  refine pv_getR t_X2_vanityOf_1 fl_X2_15 hf.1 rfl ?_
  refine pv_iload_n (i := 1) t_X2_vanityOf_4 rfl rfl ?_
  refine pv_iconst (v := 4) t_X2_vanityOf_5 zi_4 ?_
  refine pv_imul t_X2_vanityOf_6 ?_
  refine pv_iload_n (i := 2) t_X2_vanityOf_7 rfl rfl ?_
  refine pv_iadd t_X2_vanityOf_8 ?_
  refine pv_gS2 t_X2_vanityOf_9 ml_X2_37 mo_X8_at (Nat.le_of_ble_eq_true rfl) (e_X8_at (Or.inl hf.2.2) (by decide)) (Nat.le_of_ble_eq_true rfl) ?_
  exact pv_ireti t_X2_vanityOf_12 rfl rfl rfl

theorem e_X2_truthOf {l : Launch} {X : zX} {d : Nat} {Ψ : List zC} {μ : zH} {m tr pa ne fd : Nat} (hm : oM Ψ m tr pa ne fd) {f dn va : Nat} (hf : oF Ψ f m dn va) {c e : Int32} : zRn l X mi_X2_truthOf (d + 1) [.inr f, .inl c, .inl e] (Ψ, μ) (some (.inl (tru (μ ne) (μ dn) c e))) (Ψ, μ) := by
  refine pv_aload_n (i := 0) t_X2_truthOf_0 rfl rfl ?_
  refine pv_getR t_X2_truthOf_1 fl_X2_18 hf.1 rfl ?_
  refine pv_getR t_X2_truthOf_4 fl_X2_41 hm.1 rfl ?_
  refine pv_iload_n (i := 1) t_X2_truthOf_7 rfl rfl ?_
  refine pv_gS2 t_X2_truthOf_8 ml_X2_37 mo_X8_at (Nat.le_of_ble_eq_true rfl) (e_X8_at (Or.inl hm.2.2.2.1) (by decide)) (Nat.le_of_ble_eq_true rfl) ?_
  refine pv_istore_n (i := 3) t_X2_truthOf_11 rfl (Nat.le_of_ble_eq_true rfl) ?_
  refine pv_iload_n (i := 3) t_X2_truthOf_12 rfl rfl ?_
  refine pv_aload_n (i := 0) t_X2_truthOf_13 rfl rfl ?_
  refine pv_getR t_X2_truthOf_14 fl_X2_9 hf.1 rfl ?_
  refine pv_iload_n (i := 2) t_X2_truthOf_17 rfl rfl ?_
  refine pv_gS2 t_X2_truthOf_18 ml_X2_37 mo_X8_at (Nat.le_of_ble_eq_true rfl) (e_X8_at (Or.inl hf.2.1) (by decide)) (Nat.le_of_ble_eq_true rfl) ?_
  refine pv_iand t_X2_truthOf_21 ?_
  refine pv_istore t_X2_truthOf_22 (Nat.le_of_ble_eq_true rfl) ?_
  refine pv_iload t_X2_truthOf_24 rfl ?_
  refine pv_iload_n (i := 3) t_X2_truthOf_26 rfl rfl ?_
  refine pv_icmp_ne t_X2_truthOf_27 (fun c27 => ?_) (fun c27 => ?_)
  · skip
    refine pv_iload t_X2_truthOf_32 rfl ?_
    refine pv_if_eq t_X2_truthOf_34 (fun c34 => ?_) (fun c34 => ?_)
    · skip
      refine pv_iconst (v := 0) t_X2_truthOf_41 zi_0 ?_
      exact pv_ireti t_X2_truthOf_42 rfl (by first | (simp only [tru]; rw [if_pos c27]) | (simp only [tru]; rw [if_neg c27, if_pos c34]) | (simp only [tru]; rw [if_neg c27, if_neg c34])) rfl
    · skip
      refine pv_iconst (v := 1) t_X2_truthOf_37 zi_1 ?_
      refine pv_goto t_X2_truthOf_38 ?_
      exact pv_ireti t_X2_truthOf_42 rfl (by first | (simp only [tru]; rw [if_pos c27]) | (simp only [tru]; rw [if_neg c27, if_pos c34]) | (simp only [tru]; rw [if_neg c27, if_neg c34])) rfl
  · skip
    refine pv_iconst (v := 2) t_X2_truthOf_30 zi_2 ?_
    exact pv_ireti t_X2_truthOf_31 rfl (by first | (simp only [tru]; rw [if_pos c27]) | (simp only [tru]; rw [if_neg c27, if_pos c34]) | (simp only [tru]; rw [if_neg c27, if_neg c34])) rfl

theorem e_X2_effectOf {l : Launch} {X : zX} {d : Nat} {Ψ : List zC} {μ : zH} {t w k : Int32} : zRn l X mi_X2_effectOf d [.inl t, .inl w, .inl k] (Ψ, μ) (some (.inl (effO t w k))) (Ψ, μ) := by
  refine pv_iload_n (i := 0) t_X2_effectOf_0 rfl rfl ?_
  refine pv_if_eq t_X2_effectOf_1 (fun c1 => ?_) (fun c1 => ?_)
  · skip
    refine pv_iconst (v := 0) t_X2_effectOf_14 zi_0 ?_
    exact pv_ireti t_X2_effectOf_15 rfl (by first | (simp only [effO]; rw [if_pos (Or.inl c1)]) | (simp only [effO]; rw [if_pos (Or.inr (Or.inl c5))]) | (simp only [effO]; rw [if_pos (Or.inr (Or.inr (Int32.not_le.mp c11)))]) | (simp only [effO]; rw [if_neg (by rintro (q | q | q); exact c1 q; exact c5 q; exact Int32.not_le.mpr q c11), if_pos c18]) | (simp only [effO]; rw [if_neg (by rintro (q | q | q); exact c1 q; exact c5 q; exact Int32.not_le.mpr q c11), if_neg c18])) rfl
  · skip
    refine pv_iload_n (i := 2) t_X2_effectOf_4 rfl rfl ?_
    refine pv_if_lt t_X2_effectOf_5 (fun c5 => ?_) (fun c5 => ?_)
    · skip
      refine pv_iconst (v := 0) t_X2_effectOf_14 zi_0 ?_
      exact pv_ireti t_X2_effectOf_15 rfl (by first | (simp only [effO]; rw [if_pos (Or.inl c1)]) | (simp only [effO]; rw [if_pos (Or.inr (Or.inl c5))]) | (simp only [effO]; rw [if_pos (Or.inr (Or.inr (Int32.not_le.mp c11)))]) | (simp only [effO]; rw [if_neg (by rintro (q | q | q); exact c1 q; exact c5 q; exact Int32.not_le.mpr q c11), if_pos c18]) | (simp only [effO]; rw [if_neg (by rintro (q | q | q); exact c1 q; exact c5 q; exact Int32.not_le.mpr q c11), if_neg c18])) rfl
    · skip
      refine pv_iload_n (i := 2) t_X2_effectOf_8 rfl rfl ?_
      refine pv_bipush (v := 30) t_X2_effectOf_9 zb_30 ?_
      refine pv_icmp_le t_X2_effectOf_11 (fun c11 => ?_) (fun c11 => ?_)
      · skip
        refine pv_iload_n (i := 0) t_X2_effectOf_16 rfl rfl ?_
        refine pv_iconst (v := 1) t_X2_effectOf_17 zi_1 ?_
        refine pv_icmp_ne t_X2_effectOf_18 (fun c18 => ?_) (fun c18 => ?_)
        · skip
          refine pv_iload_n (i := 1) t_X2_effectOf_27 rfl rfl ?_
          refine pv_iload_n (i := 2) t_X2_effectOf_28 rfl rfl ?_
          refine pv_ishr t_X2_effectOf_29 ?_
          exact pv_ireti t_X2_effectOf_30 rfl (by first | (simp only [effO]; rw [if_pos (Or.inl c1)]) | (simp only [effO]; rw [if_pos (Or.inr (Or.inl c5))]) | (simp only [effO]; rw [if_pos (Or.inr (Or.inr (Int32.not_le.mp c11)))]) | (simp only [effO]; rw [if_neg (by rintro (q | q | q); exact c1 q; exact c5 q; exact Int32.not_le.mpr q c11), if_pos c18]) | (simp only [effO]; rw [if_neg (by rintro (q | q | q); exact c1 q; exact c5 q; exact Int32.not_le.mpr q c11), if_neg c18])) rfl
        · skip
          refine pv_iload_n (i := 1) t_X2_effectOf_21 rfl rfl ?_
          refine pv_iconst (v := 2) t_X2_effectOf_22 zi_2 ?_
          refine pv_idiv t_X2_effectOf_23 (by decide) ?_
          refine pv_goto t_X2_effectOf_24 ?_
          refine pv_iload_n (i := 2) t_X2_effectOf_28 rfl rfl ?_
          refine pv_ishr t_X2_effectOf_29 ?_
          exact pv_ireti t_X2_effectOf_30 rfl (by first | (simp only [effO]; rw [if_pos (Or.inl c1)]) | (simp only [effO]; rw [if_pos (Or.inr (Or.inl c5))]) | (simp only [effO]; rw [if_pos (Or.inr (Or.inr (Int32.not_le.mp c11)))]) | (simp only [effO]; rw [if_neg (by rintro (q | q | q); exact c1 q; exact c5 q; exact Int32.not_le.mpr q c11), if_pos c18]) | (simp only [effO]; rw [if_neg (by rintro (q | q | q); exact c1 q; exact c5 q; exact Int32.not_le.mpr q c11), if_neg c18])) rfl
      · skip
        refine pv_iconst (v := 0) t_X2_effectOf_14 zi_0 ?_
        exact pv_ireti t_X2_effectOf_15 rfl (by first | (simp only [effO]; rw [if_pos (Or.inl c1)]) | (simp only [effO]; rw [if_pos (Or.inr (Or.inl c5))]) | (simp only [effO]; rw [if_pos (Or.inr (Or.inr (Int32.not_le.mp c11)))]) | (simp only [effO]; rw [if_neg (by rintro (q | q | q); exact c1 q; exact c5 q; exact Int32.not_le.mpr q c11), if_pos c18]) | (simp only [effO]; rw [if_neg (by rintro (q | q | q); exact c1 q; exact c5 q; exact Int32.not_le.mpr q c11), if_neg c18])) rfl

theorem e_X2_effectBy {l : Launch} {X : zX} {d : Nat} {Ψ : List zC} {μ : zH} {m tr pa ne fd : Nat} (hm : oM Ψ m tr pa ne fd) {f dn va : Nat} (hf : oF Ψ f m dn va) {c e v k : Int32} : zRn l X mi_X2_effectBy (d + 2) [.inr f, .inl c, .inl e, .inl v, .inl k] (Ψ, μ) (some (.inl (effB (μ pa) (μ ne) (μ dn) c e v k))) (Ψ, μ) := by
  refine pv_aload_n (i := 0) t_X2_effectBy_0 rfl rfl ?_
  refine pv_iload_n (i := 1) t_X2_effectBy_1 rfl rfl ?_
  refine pv_iload_n (i := 2) t_X2_effectBy_2 rfl rfl ?_
  refine pv_gV2 t_X2_effectBy_3 ml_X2_54 mo_X2_truthOf hf.1 rfl (Nat.le_of_ble_eq_true rfl) (e_X2_truthOf hm hf) (Nat.le_of_ble_eq_true rfl) ?_
  refine pv_aload_n (i := 0) t_X2_effectBy_6 rfl rfl ?_
  refine pv_getR t_X2_effectBy_7 fl_X2_18 hf.1 rfl ?_
  refine pv_iload_n (i := 1) t_X2_effectBy_10 rfl rfl ?_
  refine pv_iconst (v := 1) t_X2_effectBy_11 zi_1 ?_
  refine pv_gV2 t_X2_effectBy_12 ml_X2_44 mo_X4_part hm.1 rfl (Nat.le_of_ble_eq_true rfl) (e_X4_part hm) (Nat.le_of_ble_eq_true rfl) ?_
  refine pv_iload_n (i := 3) t_X2_effectBy_15 rfl rfl ?_
  refine pv_imul t_X2_effectBy_16 ?_
  refine pv_iload t_X2_effectBy_17 rfl ?_
  refine pv_gS3 t_X2_effectBy_19 ml_X2_57 mo_X2_effectOf (Nat.le_of_ble_eq_true rfl) e_X2_effectOf (Nat.le_of_ble_eq_true rfl) ?_
  exact pv_ireti t_X2_effectBy_22 rfl rfl rfl

theorem e_X2_effectOn {l : Launch} {X : zX} {d : Nat} {Ψ : List zC} {μ : zH} {m tr pa ne fd : Nat} (hm : oM Ψ m tr pa ne fd) {f dn va : Nat} (hf : oF Ψ f m dn va) {c e k : Int32} : zRn l X mi_X2_effectOn (d + 3) [.inr f, .inl c, .inl e, .inl k] (Ψ, μ) (some (.inl (effN (μ pa) (μ ne) (μ dn) (μ va) c e k))) (Ψ, μ) := by
  refine pv_aload_n (i := 0) t_X2_effectOn_0 rfl rfl ?_
  refine pv_iload_n (i := 1) t_X2_effectOn_1 rfl rfl ?_
  refine pv_iload_n (i := 2) t_X2_effectOn_2 rfl rfl ?_
  refine pv_aload_n (i := 0) t_X2_effectOn_3 rfl rfl ?_
  refine pv_iload_n (i := 2) t_X2_effectOn_4 rfl rfl ?_
  refine pv_aload_n (i := 0) t_X2_effectOn_5 rfl rfl ?_
  refine pv_getR t_X2_effectOn_6 fl_X2_18 hf.1 rfl ?_
  refine pv_iload_n (i := 1) t_X2_effectOn_9 rfl rfl ?_
  refine pv_iconst (v := 0) t_X2_effectOn_10 zi_0 ?_
  refine pv_gV2 t_X2_effectOn_11 ml_X2_44 mo_X4_part hm.1 rfl (Nat.le_of_ble_eq_true rfl) (e_X4_part hm) (Nat.le_of_ble_eq_true rfl) ?_
  refine pv_gV2 t_X2_effectOn_14 ml_X2_47 mo_X2_vanityOf hf.1 rfl (Nat.le_of_ble_eq_true rfl) (e_X2_vanityOf hm hf) (Nat.le_of_ble_eq_true rfl) ?_
  refine pv_iload_n (i := 3) t_X2_effectOn_17 rfl rfl ?_
  refine pv_gV4 t_X2_effectOn_18 ml_X2_50 mo_X2_effectBy hf.1 rfl (Nat.le_of_ble_eq_true rfl) (e_X2_effectBy hm hf) (Nat.le_of_ble_eq_true rfl) ?_
  exact pv_ireti t_X2_effectOn_21 rfl rfl rfl

def hmt (ne : Nat → Int32) (n : Nat) (z : Int32) : Int32 := zfold (fun c a => if ne c &&& z = ne c then a + 1 else a) 0 n
theorem lp_X2_howManyTrue {l : Launch} {X : zX} {d : Nat} {Ψ : List zC} {μ : zH} {m tr pa ne fd : Nat} (hm : oM Ψ m tr pa ne fd) {f dn va : Nat} (hf : oF Ψ f m dn va) {nc : Nat} (hnc : μ m 1 = nI nc) (hc8 : nc ≤ 8) {z : Int32} : ∀ j i : Nat, i + j = nc + 1 → i ≤ nc → ∀ (x : Int32) (a : Int32), x = nI i → a = hmt (μ ne) i z → zEv l X mi_X2_howManyTrue (d + 1) 4 [(0, .inr f), (1, .inl z), (2, .inl a), (3, .inl x)] [] (Ψ, μ) 0 0 (some (.inl (hmt (μ ne) nc z))) (Ψ, μ) := by
  intro j
  induction j with
  | zero => intro i h h2; omega
  | succ j ih =>
    intro i hij hle x a hx ha 
    subst hx
    refine pv_iload_n (i := 3) t_X2_howManyTrue_4 rfl rfl ?_
    refine pv_aload_n (i := 0) t_X2_howManyTrue_5 rfl rfl ?_
    refine pv_getR t_X2_howManyTrue_6 fl_X2_18 hf.1 rfl ?_
    refine pv_getI t_X2_howManyTrue_9 fl_X2_61 hm.1 rfl ?_
    refine pv_icmp_ge t_X2_howManyTrue_12 (fun c12 => ?_) (fun c12 => ?_)
    · skip
      rw [hnc] at c12
      have hie : i = nc := by have := (nI_leI (by omega) (by omega)).mp c12; omega
      rw [ha, hie]
      refine pv_iload_n (i := 2) t_X2_howManyTrue_46 rfl rfl ?_
      exact pv_ireti t_X2_howManyTrue_47 rfl rfl rfl
    · skip
      rw [hnc] at c12
      have hin : i < nc := Nat.lt_of_not_le (fun q => c12 (nI_le q (by omega)))
      refine pv_aload_n (i := 0) t_X2_howManyTrue_15 rfl rfl ?_
      refine pv_getR t_X2_howManyTrue_16 fl_X2_18 hf.1 rfl ?_
      refine pv_getR t_X2_howManyTrue_19 fl_X2_41 hm.1 rfl ?_
      refine pv_iload_n (i := 3) t_X2_howManyTrue_22 rfl rfl ?_
      refine pv_gS2 t_X2_howManyTrue_23 ml_X2_37 mo_X8_at (Nat.le_of_ble_eq_true rfl) (e_X8_at (Or.inl hm.2.2.2.1) (by decide)) (Nat.le_of_ble_eq_true rfl) ?_
      rw [rA_n (by omega) (by decide)]
      refine pv_istore t_X2_howManyTrue_26 (Nat.le_of_ble_eq_true rfl) ?_
      refine pv_iload t_X2_howManyTrue_28 rfl ?_
      refine pv_iload_n (i := 1) t_X2_howManyTrue_30 rfl rfl ?_
      refine pv_iand t_X2_howManyTrue_31 ?_
      refine pv_iload t_X2_howManyTrue_32 rfl ?_
      refine pv_icmp_ne t_X2_howManyTrue_34 (fun c34 => ?_) (fun c34 => ?_)
      · skip
        refine pv_iinc (v := 1) t_X2_howManyTrue_40 rfl zi_1 ?_
        refine pv_goto t_X2_howManyTrue_43 ?_
        refine pv_loc (lv' := [(0, _), (1, _), (2, _), (3, _)]) ⟨rfl, rfl, rfl, rfl, trivial⟩ ?_
        exact ih (i + 1) (by omega) (by omega) _ _ (nI_1 i) (by rw [ha, hmt, hmt, zfold]; first | rw [if_pos c34] | rw [if_neg c34])
      · skip
        refine pv_iinc (v := 1) t_X2_howManyTrue_37 rfl zi_1 ?_
        refine pv_iinc (v := 1) t_X2_howManyTrue_40 rfl zi_1 ?_
        refine pv_goto t_X2_howManyTrue_43 ?_
        refine pv_loc (lv' := [(0, _), (1, _), (2, _), (3, _)]) ⟨rfl, rfl, rfl, rfl, trivial⟩ ?_
        exact ih (i + 1) (by omega) (by omega) _ _ (nI_1 i) (by rw [ha, hmt, hmt, zfold]; first | rw [if_pos c34] | rw [if_neg c34])

theorem e_X2_howManyTrue {l : Launch} {X : zX} {d : Nat} {Ψ : List zC} {μ : zH} {m tr pa ne fd : Nat} (hm : oM Ψ m tr pa ne fd) {f dn va : Nat} (hf : oF Ψ f m dn va) {nc : Nat} (hnc : μ m 1 = nI nc) (hc8 : nc ≤ 8) {z : Int32} : zRn l X mi_X2_howManyTrue (d + 1) [.inr f, .inl z] (Ψ, μ) (some (.inl (hmt (μ ne) nc z))) (Ψ, μ) := by
  refine pv_iconst (v := 0) t_X2_howManyTrue_0 zi_0 ?_
  refine pv_istore_n (i := 2) t_X2_howManyTrue_1 rfl (Nat.le_of_ble_eq_true rfl) ?_
  refine pv_iconst (v := 0) t_X2_howManyTrue_2 zi_0 ?_
  refine pv_istore_n (i := 3) t_X2_howManyTrue_3 rfl (Nat.le_of_ble_eq_true rfl) ?_
  exact lp_X2_howManyTrue hm hf hnc hc8 (nc + 1) 0 (by omega) (by omega) _ _ rfl rfl

def fdS (ne : Nat → Int32) (nc : Nat) (h m : Int32) : Nat → Int32 := zfold (fun s b => if (b = -1 ∨ bc (nI s) < bc b) ∧ m ≤ hmt ne nc (h ||| nI s) then nI s else b) (-1)
theorem fdS_s (ne : Nat → Int32) (nc : Nat) (h m : Int32) (s : Nat) : fdS ne nc h m (s + 1) = if (fdS ne nc h m s = -1 ∨ bc (nI s) < bc (fdS ne nc h m s)) ∧ m ≤ hmt ne nc (h ||| nI s) then nI s else fdS ne nc h m s := rfl
theorem lp_X2_fewestDeeds {l : Launch} {X : zX} {d : Nat} {Ψ : List zC} {μ : zH} {m tr pa ne fd : Nat} (hm : oM Ψ m tr pa ne fd) {f dn va : Nat} (hf : oF Ψ f m dn va) {nc : Nat} (hnc : μ m 1 = nI nc) (hc8 : nc ≤ 8) {h0 m0 : Int32} : ∀ j i : Nat, i + j = 256 + 1 → i ≤ 256 → ∀ (x : Int32) (b : Int32), x = nI i → b = fdS (μ ne) nc (rA (μ dn) 4 h0) m0 i → zEv l X mi_X2_fewestDeeds (d + 2) 5 [(0, .inr f), (1, .inl h0), (2, .inl m0), (3, .inl b), (4, .inl x)] [] (Ψ, μ) 0 0 (some (.inl (fdS (μ ne) nc (rA (μ dn) 4 h0) m0 256))) (Ψ, μ) := by
  intro j
  induction j with
  | zero => intro i h h2; omega
  | succ j ih =>
    intro i hij hle x b hx hb 
    subst hx
    refine pv_iload t_X2_fewestDeeds_5 rfl ?_
    refine pv_sipush (v := 256) t_X2_fewestDeeds_7 zs_256 ?_
    refine pv_icmp_ge t_X2_fewestDeeds_10 (fun c10 => ?_) (fun c10 => ?_)
    · skip
      have hie : i = 256 := by have := (nI_leI (a := 256) (by decide) (by omega)).mp c10; omega
      rw [hb, hie]
      refine pv_iload_n (i := 3) t_X2_fewestDeeds_67 rfl rfl ?_
      exact pv_ireti t_X2_fewestDeeds_68 rfl rfl rfl
    · skip
      have hin : i < 256 := Nat.lt_of_not_le (fun q => c10 (nI_le (a := 256) q (by omega)))
      refine pv_iload_n (i := 3) t_X2_fewestDeeds_13 rfl rfl ?_
      refine pv_iconst (v := -1) t_X2_fewestDeeds_14 zi_m1 ?_
      refine pv_icmp_eq t_X2_fewestDeeds_15 (fun c15 => ?_) (fun c15 => ?_)
      · skip
        have hfw := Or.inl (b := bc (nI i) < bc b) c15
        refine pv_iconst (v := 1) t_X2_fewestDeeds_30 zi_1 ?_
        refine pv_goto t_X2_fewestDeeds_31 ?_
        refine pv_istore t_X2_fewestDeeds_35 (Nat.le_of_ble_eq_true rfl) ?_
        refine pv_iload t_X2_fewestDeeds_37 rfl ?_
        refine pv_if_eq t_X2_fewestDeeds_39 (fun c39 => absurd c39 (by decide)) (fun c39 => ?_)
        refine pv_aload_n (i := 0) t_X2_fewestDeeds_42 rfl rfl ?_
        refine pv_aload_n (i := 0) t_X2_fewestDeeds_43 rfl rfl ?_
        refine pv_iload_n (i := 1) t_X2_fewestDeeds_44 rfl rfl ?_
        refine pv_gV1 t_X2_fewestDeeds_45 ml_X2_76 mo_X2_deedsOf hf.1 rfl (Nat.le_of_ble_eq_true rfl) (e_X2_deedsOf hm hf) (Nat.le_of_ble_eq_true rfl) ?_
        refine pv_iload t_X2_fewestDeeds_48 rfl ?_
        refine pv_ior t_X2_fewestDeeds_50 ?_
        refine pv_gV1 t_X2_fewestDeeds_51 ml_X2_79 mo_X2_howManyTrue hf.1 rfl (Nat.le_of_ble_eq_true rfl) (e_X2_howManyTrue hm hf hnc hc8) (Nat.le_of_ble_eq_true rfl) ?_
        refine pv_iload_n (i := 2) t_X2_fewestDeeds_54 rfl rfl ?_
        refine pv_icmp_lt t_X2_fewestDeeds_55 (fun c55 => ?_) (fun c55 => ?_)
        · skip
          have hq : ¬ ((b = -1 ∨ bc (nI i) < bc b) ∧ m0 ≤ hmt (μ ne) nc (rA (μ dn) 4 h0 ||| nI i)) := fun q => Int32.not_le.mpr c55 q.2
          refine pv_iinc (v := 1) t_X2_fewestDeeds_61 rfl zi_1 ?_
          refine pv_goto t_X2_fewestDeeds_64 ?_
          refine pv_loc (lv' := [(0, _), (1, _), (2, _), (3, _), (4, _)]) ⟨rfl, rfl, rfl, rfl, rfl, trivial⟩ ?_
          refine ih (i + 1) (by omega) (by omega) _ _ (nI_1 i) ?_
          subst hb
          rw [fdS_s]
          first | rw [if_pos hq] | rw [if_neg hq]
        · skip
          have hq : ((b = -1 ∨ bc (nI i) < bc b) ∧ m0 ≤ hmt (μ ne) nc (rA (μ dn) 4 h0 ||| nI i)) := And.intro hfw (Int32.not_lt.mp c55)
          refine pv_iload t_X2_fewestDeeds_58 rfl ?_
          refine pv_istore_n (i := 3) t_X2_fewestDeeds_60 rfl (Nat.le_of_ble_eq_true rfl) ?_
          refine pv_iinc (v := 1) t_X2_fewestDeeds_61 rfl zi_1 ?_
          refine pv_goto t_X2_fewestDeeds_64 ?_
          refine pv_loc (lv' := [(0, _), (1, _), (2, _), (3, _), (4, _)]) ⟨rfl, rfl, rfl, rfl, rfl, trivial⟩ ?_
          refine ih (i + 1) (by omega) (by omega) _ _ (nI_1 i) ?_
          subst hb
          rw [fdS_s]
          first | rw [if_pos hq] | rw [if_neg hq]
      · skip
        refine pv_iload t_X2_fewestDeeds_18 rfl ?_
        refine pv_gS1 t_X2_fewestDeeds_20 ml_X2_70 mo_J_bitCount (Nat.le_of_ble_eq_true rfl) e_J_bitCount (Nat.le_of_ble_eq_true rfl) ?_
        refine pv_iload_n (i := 3) t_X2_fewestDeeds_23 rfl rfl ?_
        refine pv_gS1 t_X2_fewestDeeds_24 ml_X2_70 mo_J_bitCount (Nat.le_of_ble_eq_true rfl) e_J_bitCount (Nat.le_of_ble_eq_true rfl) ?_
        refine pv_icmp_ge t_X2_fewestDeeds_27 (fun c27 => ?_) (fun c27 => ?_)
        · skip
          have hq : ¬ ((b = -1 ∨ bc (nI i) < bc b) ∧ m0 ≤ hmt (μ ne) nc (rA (μ dn) 4 h0 ||| nI i)) := fun q => q.1.elim c15 (fun z => Int32.not_le.mpr z c27)
          refine pv_iconst (v := 0) t_X2_fewestDeeds_34 zi_0 ?_
          refine pv_istore t_X2_fewestDeeds_35 (Nat.le_of_ble_eq_true rfl) ?_
          refine pv_iload t_X2_fewestDeeds_37 rfl ?_
          refine pv_if_eq t_X2_fewestDeeds_39 (fun c39 => ?_) (fun c39 => absurd (by decide) c39)
          refine pv_iinc (v := 1) t_X2_fewestDeeds_61 rfl zi_1 ?_
          refine pv_goto t_X2_fewestDeeds_64 ?_
          refine pv_loc (lv' := [(0, _), (1, _), (2, _), (3, _), (4, _)]) ⟨rfl, rfl, rfl, rfl, rfl, trivial⟩ ?_
          refine ih (i + 1) (by omega) (by omega) _ _ (nI_1 i) ?_
          subst hb
          rw [fdS_s]
          first | rw [if_pos hq] | rw [if_neg hq]
        · skip
          have hfw := Or.inr (a := b = -1) (Int32.not_le.mp c27)
          refine pv_iconst (v := 1) t_X2_fewestDeeds_30 zi_1 ?_
          refine pv_goto t_X2_fewestDeeds_31 ?_
          refine pv_istore t_X2_fewestDeeds_35 (Nat.le_of_ble_eq_true rfl) ?_
          refine pv_iload t_X2_fewestDeeds_37 rfl ?_
          refine pv_if_eq t_X2_fewestDeeds_39 (fun c39 => absurd c39 (by decide)) (fun c39 => ?_)
          refine pv_aload_n (i := 0) t_X2_fewestDeeds_42 rfl rfl ?_
          refine pv_aload_n (i := 0) t_X2_fewestDeeds_43 rfl rfl ?_
          refine pv_iload_n (i := 1) t_X2_fewestDeeds_44 rfl rfl ?_
          refine pv_gV1 t_X2_fewestDeeds_45 ml_X2_76 mo_X2_deedsOf hf.1 rfl (Nat.le_of_ble_eq_true rfl) (e_X2_deedsOf hm hf) (Nat.le_of_ble_eq_true rfl) ?_
          refine pv_iload t_X2_fewestDeeds_48 rfl ?_
          refine pv_ior t_X2_fewestDeeds_50 ?_
          refine pv_gV1 t_X2_fewestDeeds_51 ml_X2_79 mo_X2_howManyTrue hf.1 rfl (Nat.le_of_ble_eq_true rfl) (e_X2_howManyTrue hm hf hnc hc8) (Nat.le_of_ble_eq_true rfl) ?_
          refine pv_iload_n (i := 2) t_X2_fewestDeeds_54 rfl rfl ?_
          refine pv_icmp_lt t_X2_fewestDeeds_55 (fun c55 => ?_) (fun c55 => ?_)
          · skip
            have hq : ¬ ((b = -1 ∨ bc (nI i) < bc b) ∧ m0 ≤ hmt (μ ne) nc (rA (μ dn) 4 h0 ||| nI i)) := fun q => Int32.not_le.mpr c55 q.2
            refine pv_iinc (v := 1) t_X2_fewestDeeds_61 rfl zi_1 ?_
            refine pv_goto t_X2_fewestDeeds_64 ?_
            refine pv_loc (lv' := [(0, _), (1, _), (2, _), (3, _), (4, _)]) ⟨rfl, rfl, rfl, rfl, rfl, trivial⟩ ?_
            refine ih (i + 1) (by omega) (by omega) _ _ (nI_1 i) ?_
            subst hb
            rw [fdS_s]
            first | rw [if_pos hq] | rw [if_neg hq]
          · skip
            have hq : ((b = -1 ∨ bc (nI i) < bc b) ∧ m0 ≤ hmt (μ ne) nc (rA (μ dn) 4 h0 ||| nI i)) := And.intro hfw (Int32.not_lt.mp c55)
            refine pv_iload t_X2_fewestDeeds_58 rfl ?_
            refine pv_istore_n (i := 3) t_X2_fewestDeeds_60 rfl (Nat.le_of_ble_eq_true rfl) ?_
            refine pv_iinc (v := 1) t_X2_fewestDeeds_61 rfl zi_1 ?_
            refine pv_goto t_X2_fewestDeeds_64 ?_
            refine pv_loc (lv' := [(0, _), (1, _), (2, _), (3, _), (4, _)]) ⟨rfl, rfl, rfl, rfl, rfl, trivial⟩ ?_
            refine ih (i + 1) (by omega) (by omega) _ _ (nI_1 i) ?_
            subst hb
            rw [fdS_s]
            first | rw [if_pos hq] | rw [if_neg hq]

theorem e_X2_fewestDeeds {l : Launch} {X : zX} {d : Nat} {Ψ : List zC} {μ : zH} {m tr pa ne fd : Nat} (hm : oM Ψ m tr pa ne fd) {f dn va : Nat} (hf : oF Ψ f m dn va) {nc : Nat} (hnc : μ m 1 = nI nc) (hc8 : nc ≤ 8) {h0 m0 : Int32} : zRn l X mi_X2_fewestDeeds (d + 2) [.inr f, .inl h0, .inl m0] (Ψ, μ) (some (.inl (fdS (μ ne) nc (rA (μ dn) 4 h0) m0 256))) (Ψ, μ) := by
  refine pv_iconst (v := -1) t_X2_fewestDeeds_0 zi_m1 ?_
  refine pv_istore_n (i := 3) t_X2_fewestDeeds_1 rfl (Nat.le_of_ble_eq_true rfl) ?_
  refine pv_iconst (v := 0) t_X2_fewestDeeds_2 zi_0 ?_
  refine pv_istore t_X2_fewestDeeds_3 (Nat.le_of_ble_eq_true rfl) ?_
  exact lp_X2_fewestDeeds hm hf hnc hc8 257 0 (by omega) (by omega) _ _ rfl rfl

