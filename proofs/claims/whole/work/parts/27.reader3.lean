theorem zhs_cm {μ : zH} {a b : Nat} {f g : Nat → Int32} (h : a ≠ b) : zhs (zhs μ a f) b g = zhs (zhs μ b g) a f := by
  funext x
  by_cases h1 : x = a
  · subst h1; rw [zhs_n _ _ h, zhs_s, zhs_s]
  · by_cases h2 : x = b
    · subst h2; rw [zhs_s, zhs_n _ _ h1, zhs_s]
    · rw [zhs_n _ _ h2, zhs_n _ _ h1, zhs_n _ _ h1, zhs_n _ _ h2]
def nx (L : Nat → Int32) (n p : Nat) : Nat := (dg L n (sk L n p)).1
theorem nx_le {L : Nat → Int32} {n p : Nat} : p ≤ nx L n p ∧ nx L n p ≤ max p n := by
  have h1 := sk_le (L := L) (n := n) (p := p)
  have h2 := sk_ge (L := L) (n := n) (p := p)
  unfold nx dg
  have h3 := dgF_le (L := L) (n := n) (q := sk L n p) (n - sk L n p) (sk L n p) 0
  by_cases h : sk L n p ≤ n
  · have := h3.2 h
    omega
  · rw [show n - sk L n p = 0 by omega, dgF]
    show p ≤ sk L n p ∧ sk L n p ≤ max p n
    omega
theorem gmk_2 (g : Nat → Int32) (k w : Int32) : gmk g k w 2 = g 2 := by unfold gmk; split <;> rfl
theorem gmk_6 (g : Nat → Int32) (k w : Int32) : gmk g k w 6 = g 6 := by unfold gmk; split <;> rfl
theorem gT_2f (g : Nat → Int32) (q p : Nat) (v lo hi : Int32) : (gT g q p v lo hi).2 2 = g 2 := by
  unfold gT; split
  · exact gmk_2 ..
  · split
    · exact gmk_2 ..
    · rfl
theorem gT_5f (g : Nat → Int32) (q p : Nat) (v lo hi : Int32) : (gT g q p v lo hi).2 5 = g 5 := by
  unfold gT; split
  · exact gmk_5 ..
  · split
    · exact gmk_5 ..
    · rfl
theorem gnu_2 {L : Nat → Int32} {n : Nat} {g : Nat → Int32} {p : Nat} {lo hi : Int32} : (gnu L n g p lo hi).2 2 = g 2 := by
  unfold gnu; rw [gT_2f]; rfl
theorem gnu_5 {L : Nat → Int32} {n : Nat} {g : Nat → Int32} {p : Nat} {lo hi : Int32} : (gnu L n g p lo hi).2 5 = nI (nx L n p) := by
  unfold gnu; rw [gT_5f]; rfl
theorem gen_2 {L : Nat → Int32} {n : Nat} {g : Nat → Int32} {p : Nat} : gen L n g p 2 = g 2 := by
  unfold gen
  show (if lt L n (sk L n p) = 59 then upd g 5 (nI (sk L n p)) else gmk (upd g 5 (nI (sk L n p))) 1 (nI (sk L n p))) 2 = g 2
  split
  · rfl
  · rw [gmk_2]; rfl
theorem gen_5 {L : Nat → Int32} {n : Nat} {g : Nat → Int32} {p : Nat} : gen L n g p 5 = nI (sk L n p + 1) := nI_1 _
abbrev rdQ := Nat × (Nat → Int32) × (Nat → Int32)
/-- i numbers read: the place, the reader's cell, the row they go to from b on -/
def peS (L : Nat → Int32) (n : Nat) (lo hi : Nat → Int32) (sz : Nat) (b : Int32) : Nat → rdQ → rdQ
  | 0, s => s
  | i + 1, s => (nx L n (peS L n lo hi sz b i s).1, (gnu L n (peS L n lo hi sz b i s).2.1 (peS L n lo hi sz b i s).1 (lo i) (hi i)).2, rP (peS L n lo hi sz b i s).2.2 sz (b + nI i) (gnu L n (peS L n lo hi sz b i s).2.1 (peS L n lo hi sz b i s).1 (lo i) (hi i)).1)
theorem peS_i {L : Nat → Int32} {n : Nat} {lo hi : Nat → Int32} {sz : Nat} {b : Int32} {s : rdQ} (h2 : s.2.1 2 = nI n) (h5 : s.2.1 5 = nI s.1) (hp : s.1 ≤ n + 1) : ∀ i, (peS L n lo hi sz b i s).2.1 2 = nI n ∧ (peS L n lo hi sz b i s).2.1 5 = nI (peS L n lo hi sz b i s).1 ∧ (peS L n lo hi sz b i s).1 ≤ n + 1
  | 0 => ⟨h2, h5, hp⟩
  | i + 1 => by
    obtain ⟨a, b', c⟩ := peS_i (lo := lo) (hi := hi) (sz := sz) (b := b) h2 h5 hp i
    refine ⟨?_, ?_, ?_⟩
    · show (gnu _ _ _ _ _ _).2 2 = _
      rw [gnu_2, a]
    · show (gnu _ _ _ _ _ _).2 5 = _
      rw [gnu_5]; rfl
    · show nx _ _ _ ≤ _
      have := nx_le (L := L) (n := n) (p := (peS L n lo hi sz b i s).1)
      omega
def tlo (k : Nat) : Int32 := ([1, 0, 0, 0, 0, 0] : List Int32).getD k 0
def thi (k : Nat) : Int32 := ([999, 99, 9, 9, 9, 9] : List Int32).getD k 0
def plo (k : Nat) : Int32 := ([0, 1, 1, 0, 0] : List Int32).getD k 0
def phi (k : Nat) : Int32 := ([3, 9, 9, 8, 8] : List Int32).getD k 0
theorem zx0 {X : zX} {k : Nat} (hk : k < 6) : rA (zxc X 0) 6 (nI k) = tlo k := by rw [rA_n hk (by decide)]; rfl
theorem zx1 {X : zX} {k : Nat} (hk : k < 6) : rA (zxc X 1) 6 (nI k) = thi k := by rw [rA_n hk (by decide)]; rfl
theorem zx2 {X : zX} {k : Nat} (hk : k < 5) : rA (zxc X 2) 5 (nI k) = plo k := by rw [rA_n hk (by decide)]; rfl
theorem zx3 {X : zX} {k : Nat} (hk : k < 5) : rA (zxc X 3) 5 (nI k) = phi k := by rw [rA_n hk (by decide)]; rfl
theorem zr0 {X : zX} {Ψ : List zC} {μ : zH} : zar X (Ψ, μ) (1000 + 0) 6 := Or.inr ⟨0, by decide, rfl, rfl⟩
theorem zr1 {X : zX} {Ψ : List zC} {μ : zH} : zar X (Ψ, μ) (1000 + 1) 6 := Or.inr ⟨1, by decide, rfl, rfl⟩
theorem zr2 {X : zX} {Ψ : List zC} {μ : zH} : zar X (Ψ, μ) (1000 + 2) 5 := Or.inr ⟨2, by decide, rfl, rfl⟩
theorem zr3 {X : zX} {Ψ : List zC} {μ : zH} : zar X (Ψ, μ) (1000 + 3) 5 := Or.inr ⟨3, by decide, rfl, rfl⟩
def zq (μ : zH) (rd tr : Nat) (q : rdQ) : zH := zhs (zhs μ rd q.2.1) tr q.2.2
theorem zq_rd {μ : zH} {rd tr : Nat} {q : rdQ} (h : rd ≠ tr) : zq μ rd tr q rd = q.2.1 := by rw [zq, zhs_n _ _ h, zhs_s]
theorem zq_tr {μ : zH} {rd tr : Nat} {q : rdQ} : zq μ rd tr q tr = q.2.2 := by rw [zq, zhs_s]
theorem zq_o {μ : zH} {rd tr x : Nat} {q : rdQ} (h1 : x ≠ rd) (h2 : x ≠ tr) : zq μ rd tr q x = μ x := by rw [zq, zhs_n _ _ h2, zhs_n _ _ h1]
theorem zq_zq {μ : zH} {rd tr : Nat} {q q' : rdQ} (h : rd ≠ tr) : zhs (zhs (zq μ rd tr q) rd q'.2.1) tr q'.2.2 = zq μ rd tr q' := by
  rw [zq, zq, zhs_cm h, zhs_hs, zhs_cm h, zhs_hs, zhs_cm h.symm]
theorem lp_X6_readPerson {l : Launch} {X : zX} {d : Nat} {Ψ : List zC} {μ : zH} {rd dm le tr pa ne fd : Nat} (hr : oR Ψ rd dm le) (hm : oM Ψ dm tr pa ne fd) {n : Nat} (hn250 : n ≤ 250) {s0 : rdQ} (h2 : s0.2.1 2 = nI n) (h5 : s0.2.1 5 = nI s0.1) (hp : s0.1 ≤ n + 1) {r9 : Option zV} {S9 : zS} (hk : zEv l X mi_X6_readPerson (d + 5) 86 [(0, .inr rd), (1, .inl (nI 6))] [] (Ψ, zq μ rd tr (peS (μ le) n tlo thi 24 (μ dm 0 * 6) 6 s0)) 0 0 r9 S9) : ∀ j i : Nat, i + j = 6 + 1 → i ≤ 6 → ∀ (x : Int32), x = nI i → zEv l X mi_X6_readPerson (d + 5) 32 [(0, .inr rd), (1, .inl x)] [] (Ψ, zq μ rd tr (peS (μ le) n tlo thi 24 (μ dm 0 * 6) i s0)) 0 0 r9 S9 := by
  intro j
  have n_rd_tr : rd ≠ tr := zne hr.1 hm.2.1 (by simp)
  have n_dm_rd : dm ≠ rd := zne hm.1 hr.1 (by simp)
  have n_dm_tr : dm ≠ tr := zne hm.1 hm.2.1 (by simp)
  have n_le_rd : le ≠ rd := zne hr.2 hr.1 (by simp)
  have n_le_tr : le ≠ tr := zne hr.2 hm.2.1 (by simp)
  induction j with
  | zero => intro i h h2; omega
  | succ j ih =>
    intro i hij hle x hxi
    subst hxi
    have hI := peS_i (L := μ le) (n := n) (lo := tlo) (hi := thi) (sz := 24) (b := μ dm 0 * 6) h2 h5 hp i
    refine pv_ext (fun hx => ?_)
    refine pv_iload_n (i := 1) t_X6_readPerson_32 rfl rfl ?_
    refine pv_bipush (v := 6) t_X6_readPerson_33 zb_6 ?_
    refine pv_icmp_ge t_X6_readPerson_35 (fun c35 => ?_) (fun c35 => ?_)
    · skip
      have hie : i = 6 := by have := (nI_leI (a := 6) (by omega) (by omega)).mp c35; omega
      subst hie
      exact hk
    · skip
      have hin : i < 6 := Nat.lt_of_not_le (fun q => c35 (nI_le (a := 6) q (by omega)))
      refine pv_aload_n (i := 0) t_X6_readPerson_38 rfl rfl ?_
      refine pv_gets t_X6_readPerson_39 gs_X6_67 (by decide) ?_
      refine pv_iload_n (i := 1) t_X6_readPerson_42 rfl rfl ?_
      refine pv_gS2 t_X6_readPerson_43 ml_X6_70 mo_X8_at (Nat.le_of_ble_eq_true rfl) (e_X8_at zr0 (by decide)) (Nat.le_of_ble_eq_true rfl) ?_
      rw [show (zq μ rd tr (peS (μ le) n tlo thi 24 (μ dm 0 * 6) i s0)) (1000 + 0) = zxc X 0 from hx 0 (by decide), zx0 hin]
      refine pv_gets t_X6_readPerson_46 gs_X6_74 (by decide) ?_
      refine pv_iload_n (i := 1) t_X6_readPerson_49 rfl rfl ?_
      refine pv_gS2 t_X6_readPerson_50 ml_X6_70 mo_X8_at (Nat.le_of_ble_eq_true rfl) (e_X8_at zr1 (by decide)) (Nat.le_of_ble_eq_true rfl) ?_
      rw [show (zq μ rd tr (peS (μ le) n tlo thi 24 (μ dm 0 * 6) i s0)) (1000 + 1) = zxc X 1 from hx 1 (by decide), zx1 hin]
      refine pv_gV2 t_X6_readPerson_53 ml_X6_77 mo_X6_readNumber hr.1 rfl (Nat.le_of_ble_eq_true rfl) (e_X6_readNumber (n := n) (p := (peS (μ le) n tlo thi 24 (μ dm 0 * 6) i s0).1) hr (by rw [zq_rd n_rd_tr]; exact hI.1) hn250 (by rw [zq_rd n_rd_tr]; exact hI.2.1) (by have := hI.2.2; omega)) (Nat.le_of_ble_eq_true rfl) ?_
      refine pv_istore_n (i := 2) t_X6_readPerson_56 rfl (Nat.le_of_ble_eq_true rfl) ?_
      refine pv_aload_n (i := 0) t_X6_readPerson_57 rfl rfl ?_
      refine pv_getR t_X6_readPerson_58 fl_X6_12 hr.1 rfl ?_
      refine pv_getR t_X6_readPerson_61 fl_X6_81 hm.1 rfl ?_
      refine pv_aload_n (i := 0) t_X6_readPerson_64 rfl rfl ?_
      refine pv_getR t_X6_readPerson_65 fl_X6_12 hr.1 rfl ?_
      refine pv_getI t_X6_readPerson_68 fl_X6_64 hm.1 rfl ?_
      refine pv_bipush (v := 6) t_X6_readPerson_71 zb_6 ?_
      refine pv_imul t_X6_readPerson_73 ?_
      refine pv_iload_n (i := 1) t_X6_readPerson_74 rfl rfl ?_
      refine pv_iadd t_X6_readPerson_75 ?_
      refine pv_iload_n (i := 2) t_X6_readPerson_76 rfl rfl ?_
      refine pv_gS3 t_X6_readPerson_77 ml_X6_26 mo_X8_put (Nat.le_of_ble_eq_true rfl) (e_X8_put hm.2.1 (by decide)) (Nat.le_of_ble_eq_true rfl) ?_
      refine pv_iinc (v := 1) t_X6_readPerson_80 rfl zi_1 ?_
      refine pv_goto t_X6_readPerson_83 ?_
      refine pv_loc (lv' := [(0, _), (1, _)]) ⟨rfl, rfl, trivial⟩ ?_
      refine zst ?_ (ih (i + 1) (by omega) (by omega) _ (nI_1 i))
      rw [zhs_n _ _ n_dm_rd, zq_o n_dm_rd n_dm_tr, zhs_n _ _ (Ne.symm n_rd_tr), zq_tr, zq_rd n_rd_tr, zq_o n_le_rd n_le_tr]
      exact congrArg (fun z => (Ψ, z)) (zq_zq (q' := peS (μ le) n tlo thi 24 (μ dm 0 * 6) (i + 1) s0) n_rd_tr)

theorem lp_X6_readPhrase {l : Launch} {X : zX} {d : Nat} {Ψ : List zC} {μ : zH} {rd dm le tr pa ne fd : Nat} (hr : oR Ψ rd dm le) (hm : oM Ψ dm tr pa ne fd) {n : Nat} (hn250 : n ≤ 250) {s0 : rdQ} (h2 : s0.2.1 2 = nI n) (h5 : s0.2.1 5 = nI s0.1) (hp : s0.1 ≤ n + 1) {r9 : Option zV} {S9 : zS} (hk : zEv l X mi_X6_readPhrase (d + 5) 85 [(0, .inr rd), (1, .inl (nI 5))] [] (Ψ, zq μ rd pa (peS (μ le) n plo phi 40 (μ dm 1 * 5) 5 s0)) 0 0 r9 S9) : ∀ j i : Nat, i + j = 5 + 1 → i ≤ 5 → ∀ (x : Int32), x = nI i → zEv l X mi_X6_readPhrase (d + 5) 33 [(0, .inr rd), (1, .inl x)] [] (Ψ, zq μ rd pa (peS (μ le) n plo phi 40 (μ dm 1 * 5) i s0)) 0 0 r9 S9 := by
  intro j
  have n_rd_pa : rd ≠ pa := zne hr.1 hm.2.2.1 (by simp)
  have n_dm_rd : dm ≠ rd := zne hm.1 hr.1 (by simp)
  have n_dm_pa : dm ≠ pa := zne hm.1 hm.2.2.1 (by simp)
  have n_le_rd : le ≠ rd := zne hr.2 hr.1 (by simp)
  have n_le_pa : le ≠ pa := zne hr.2 hm.2.2.1 (by simp)
  induction j with
  | zero => intro i h h2; omega
  | succ j ih =>
    intro i hij hle x hxi
    subst hxi
    have hI := peS_i (L := μ le) (n := n) (lo := plo) (hi := phi) (sz := 40) (b := μ dm 1 * 5) h2 h5 hp i
    refine pv_ext (fun hx => ?_)
    refine pv_iload_n (i := 1) t_X6_readPhrase_33 rfl rfl ?_
    refine pv_iconst (v := 5) t_X6_readPhrase_34 zi_5 ?_
    refine pv_icmp_ge t_X6_readPhrase_35 (fun c35 => ?_) (fun c35 => ?_)
    · skip
      have hie : i = 5 := by have := (nI_leI (a := 5) (by omega) (by omega)).mp c35; omega
      subst hie
      exact hk
    · skip
      have hin : i < 5 := Nat.lt_of_not_le (fun q => c35 (nI_le (a := 5) q (by omega)))
      refine pv_aload_n (i := 0) t_X6_readPhrase_38 rfl rfl ?_
      refine pv_gets t_X6_readPhrase_39 gs_X6_90 (by decide) ?_
      refine pv_iload_n (i := 1) t_X6_readPhrase_42 rfl rfl ?_
      refine pv_gS2 t_X6_readPhrase_43 ml_X6_70 mo_X8_at (Nat.le_of_ble_eq_true rfl) (e_X8_at zr2 (by decide)) (Nat.le_of_ble_eq_true rfl) ?_
      rw [show (zq μ rd pa (peS (μ le) n plo phi 40 (μ dm 1 * 5) i s0)) (1000 + 2) = zxc X 2 from hx 2 (by decide), zx2 hin]
      refine pv_gets t_X6_readPhrase_46 gs_X6_93 (by decide) ?_
      refine pv_iload_n (i := 1) t_X6_readPhrase_49 rfl rfl ?_
      refine pv_gS2 t_X6_readPhrase_50 ml_X6_70 mo_X8_at (Nat.le_of_ble_eq_true rfl) (e_X8_at zr3 (by decide)) (Nat.le_of_ble_eq_true rfl) ?_
      rw [show (zq μ rd pa (peS (μ le) n plo phi 40 (μ dm 1 * 5) i s0)) (1000 + 3) = zxc X 3 from hx 3 (by decide), zx3 hin]
      refine pv_gV2 t_X6_readPhrase_53 ml_X6_77 mo_X6_readNumber hr.1 rfl (Nat.le_of_ble_eq_true rfl) (e_X6_readNumber (n := n) (p := (peS (μ le) n plo phi 40 (μ dm 1 * 5) i s0).1) hr (by rw [zq_rd n_rd_pa]; exact hI.1) hn250 (by rw [zq_rd n_rd_pa]; exact hI.2.1) (by have := hI.2.2; omega)) (Nat.le_of_ble_eq_true rfl) ?_
      refine pv_istore_n (i := 2) t_X6_readPhrase_56 rfl (Nat.le_of_ble_eq_true rfl) ?_
      refine pv_aload_n (i := 0) t_X6_readPhrase_57 rfl rfl ?_
      refine pv_getR t_X6_readPhrase_58 fl_X6_12 hr.1 rfl ?_
      refine pv_getR t_X6_readPhrase_61 fl_X6_96 hm.1 rfl ?_
      refine pv_aload_n (i := 0) t_X6_readPhrase_64 rfl rfl ?_
      refine pv_getR t_X6_readPhrase_65 fl_X6_12 hr.1 rfl ?_
      refine pv_getI t_X6_readPhrase_68 fl_X6_87 hm.1 rfl ?_
      refine pv_iconst (v := 5) t_X6_readPhrase_71 zi_5 ?_
      refine pv_imul t_X6_readPhrase_72 ?_
      refine pv_iload_n (i := 1) t_X6_readPhrase_73 rfl rfl ?_
      refine pv_iadd t_X6_readPhrase_74 ?_
      refine pv_iload_n (i := 2) t_X6_readPhrase_75 rfl rfl ?_
      refine pv_gS3 t_X6_readPhrase_76 ml_X6_26 mo_X8_put (Nat.le_of_ble_eq_true rfl) (e_X8_put hm.2.2.1 (by decide)) (Nat.le_of_ble_eq_true rfl) ?_
      refine pv_iinc (v := 1) t_X6_readPhrase_79 rfl zi_1 ?_
      refine pv_goto t_X6_readPhrase_82 ?_
      refine pv_loc (lv' := [(0, _), (1, _)]) ⟨rfl, rfl, trivial⟩ ?_
      refine zst ?_ (ih (i + 1) (by omega) (by omega) _ (nI_1 i))
      rw [zhs_n _ _ n_dm_rd, zq_o n_dm_rd n_dm_pa, zhs_n _ _ (Ne.symm n_rd_pa), zq_tr, zq_rd n_rd_pa, zq_o n_le_rd n_le_pa]
      exact congrArg (fun z => (Ψ, z)) (zq_zq (q' := peS (μ le) n plo phi 40 (μ dm 1 * 5) (i + 1) s0) n_rd_pa)

