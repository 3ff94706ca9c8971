def csB (op : Nat → Int32) (p : Int32) : Nat → Nat → (Nat → Int32) → Bool
  | 0, _, s => hmB s p 4 0
  | j + 1, k, s => zfold (fun h c => c || csB op p j (k + 1) (lAd (lAd s (lw k) (nI h)) (hg k) (rA op 6 (nI k) - nI h))) false ((rA op 6 (nI k)).toNatClampNeg + 1)
def csL (op : Nat → Int32) (p : Int32) (j k : Nat) (s : Nat → Int32) : Nat → Bool := zfold (fun h c => c || csB op p j (k + 1) (lAd (lAd s (lw k) (nI h)) (hg k) (rA op 6 (nI k) - nI h))) false
theorem csL_s (op : Nat → Int32) (p : Int32) (j k : Nat) (s : Nat → Int32) (h : Nat) : csL op p j k s (h + 1) = (csL op p j k s h || csB op p j (k + 1) (lAd (lAd s (lw k) (nI h)) (hg k) (rA op 6 (nI k) - nI h))) := rfl
theorem csL_t (op : Nat → Int32) (p : Int32) (j k : Nat) (s : Nat → Int32) (h : Nat) (e : csL op p j k s h = true) : ∀ n, csL op p j k s (h + n) = true
  | 0 => e
  | n + 1 => by rw [← Nat.add_assoc, csL_s, csL_t op p j k s h e n]; rfl
theorem lAd_n {s : Nat → Int32} {k : Nat} {v : Int32} (h : k < 4) : lAd s (nI k) v = upd s k (s k + v) := by rw [lAd, rP_n h (by decide), rA_n h (by decide)]
theorem lw_n : ∀ k, k < 6 → ∃ a b, a < 4 ∧ b < 4 ∧ a ≠ b ∧ lw k = nI a ∧ hg k = nI b
  | 0, _ => ⟨0, 1, by decide, by decide, by decide, rfl, rfl⟩
  | 1, _ => ⟨0, 2, by decide, by decide, by decide, rfl, rfl⟩
  | 2, _ => ⟨0, 3, by decide, by decide, by decide, rfl, rfl⟩
  | 3, _ => ⟨1, 2, by decide, by decide, by decide, rfl, rfl⟩
  | 4, _ => ⟨1, 3, by decide, by decide, by decide, rfl, rfl⟩
  | 5, _ => ⟨2, 3, by decide, by decide, by decide, rfl, rfl⟩
  | k + 6, h => absurd h (by omega)
theorem lAd_back {s : Nat → Int32} {k : Nat} (hk : k < 6) (x y z : Int32) (hz : z = -y) : lAd (lAd (lAd (lAd s (lw k) x) (hg k) y) (lw k) (-x)) (hg k) z = s := by
  obtain ⟨a, b, ha, hb, hab, e1, e2⟩ := lw_n k hk
  subst hz
  rw [e1, e2, lAd_n ha, lAd_n hb, lAd_n ha, lAd_n hb]
  funext i
  simp only [upd]
  by_cases h1 : i = a
  · subst h1
    simp [hab]
    grind
  · by_cases h2 : i = b
    · subst h2
      simp [h1]
      grind
    · simp [h1, h2]
theorem lp_X3_canSettle {l : Launch} {X : zX} {Ψ : List zC} {μ : zH} {su op : Nat} (hs : Ψ[su]? = some (.inl (0, 4))) (ho : Ψ[op]? = some (.inl (0, 6))) {p : Int32} {dd j k n : Nat} (hk : k < 6) (hn : n < 1000) (hall : rA (μ op) 6 (nI k) = nI n) (hrec : ∀ s1 : Nat → Int32, zRn l X mi_X3_canSettle dd [.inr su, .inr op, .inl p, .inl (nI k + 1)] (Ψ, zhs μ su s1) (some (.inl (bz (csB (zhs μ su s1 op) p j (k + 1) (zhs μ su s1 su))))) (Ψ, zhs μ su s1))   : ∀ jj i : Nat, i + jj = (n + 1) + 1 → i ≤ (n + 1) → ∀ (x : Int32) (cn : Bool), x = nI i → cn = csL (μ op) p j k (μ su) i → zEv l X mi_X3_canSettle (dd + 1) 43 [(0, .inr su), (1, .inr op), (2, .inl p), (3, .inl (nI k)), (4, .inl (lw k)), (5, .inl (hg k)), (6, .inl (nI n)), (7, .inl (bz cn)), (8, .inl x)] [] (Ψ, μ) 0 0 (some (.inl (bz (csL (μ op) p j k (μ su) (n + 1))))) (Ψ, μ) := by
  intro jj
  induction jj with
  | zero => intro i h h2; omega
  | succ jj ih =>
    intro i hij hle x cn hx hcn 
    subst hx
    have nos : op ≠ su := zne ho hs (by decide)
    refine pv_iload t_X3_canSettle_43 rfl ?_
    refine pv_iload t_X3_canSettle_45 rfl ?_
    refine pv_icmp_gt t_X3_canSettle_47 (fun c47 => ?_) (fun c47 => ?_)
    · skip
      have hie : i = n + 1 := by have := (nI_ltI (by omega) (by omega)).mp c47; omega
      refine pv_iload t_X3_canSettle_111 rfl ?_
      first | exact pv_iretz t_X3_canSettle_113 rfl ⟨by rw [hcn, hie], bz_01 _⟩ rfl | exact pv_iretz t_X3_canSettle_113 rfl ⟨by rw [show n + 1 = i + (n + 1 - i) by omega, csL_t _ _ _ _ _ i (by rw [← hcn]; exact bz_n.mp c52), bz_n.mp c52], bz_01 _⟩ rfl
    · skip
      have hin : i < n + 1 := by have := Int32.not_lt.mp c47; have := (nI_leI (by omega) (by omega)).mp this; omega
      refine pv_iload t_X3_canSettle_50 rfl ?_
      refine pv_if_ne t_X3_canSettle_52 (fun c52 => ?_) (fun c52 => ?_)
      · skip
        refine pv_iload t_X3_canSettle_111 rfl ?_
        first | exact pv_iretz t_X3_canSettle_113 rfl ⟨by rw [hcn, hie], bz_01 _⟩ rfl | exact pv_iretz t_X3_canSettle_113 rfl ⟨by rw [show n + 1 = i + (n + 1 - i) by omega, csL_t _ _ _ _ _ i (by rw [← hcn]; exact bz_n.mp c52), bz_n.mp c52], bz_01 _⟩ rfl
      · skip
        refine pv_aload_n (i := 0) t_X3_canSettle_55 rfl rfl ?_
        refine pv_iload t_X3_canSettle_56 rfl ?_
        refine pv_iload t_X3_canSettle_58 rfl ?_
        refine pv_gS3 t_X3_canSettle_60 ml_X3_67 mo_X8_add (Nat.le_of_ble_eq_true rfl) (e_X8_add hs (by decide)) (Nat.le_of_ble_eq_true rfl) ?_
        refine pv_aload_n (i := 0) t_X3_canSettle_63 rfl rfl ?_
        refine pv_iload t_X3_canSettle_64 rfl ?_
        refine pv_iload t_X3_canSettle_66 rfl ?_
        refine pv_iload t_X3_canSettle_68 rfl ?_
        refine pv_isub t_X3_canSettle_70 ?_
        refine pv_gS3 t_X3_canSettle_71 ml_X3_67 mo_X8_add (Nat.le_of_ble_eq_true rfl) (e_X8_add hs (by decide)) (Nat.le_of_ble_eq_true rfl) ?_
        refine pv_aload_n (i := 0) t_X3_canSettle_74 rfl rfl ?_
        refine pv_aload_n (i := 1) t_X3_canSettle_75 rfl rfl ?_
        refine pv_iload_n (i := 2) t_X3_canSettle_76 rfl rfl ?_
        refine pv_iload_n (i := 3) t_X3_canSettle_77 rfl rfl ?_
        refine pv_iconst (v := 1) t_X3_canSettle_78 zi_1 ?_
        refine pv_iadd t_X3_canSettle_79 ?_
        refine zst (S2 := (Ψ, zhs μ su (lAd (lAd (μ su) (lw k) (nI i)) (hg k) (nI n - nI i)))) (by simp only [zhs_hs, zhs_s]; rfl) ?_
        refine pv_gS4 t_X3_canSettle_80 ml_X3_74 mo_X3_canSettle (Nat.le_of_ble_eq_true rfl) (hrec _) (Nat.le_of_ble_eq_true rfl) ?_
        rw [zhs_n _ _ nos, zhs_s]
        refine pv_istore t_X3_canSettle_83 (Nat.le_of_ble_eq_true rfl) ?_
        refine pv_aload_n (i := 0) t_X3_canSettle_85 rfl rfl ?_
        refine pv_iload t_X3_canSettle_86 rfl ?_
        refine pv_iload t_X3_canSettle_88 rfl ?_
        refine pv_ineg t_X3_canSettle_90 ?_
        refine pv_gS3 t_X3_canSettle_91 ml_X3_67 mo_X8_add (Nat.le_of_ble_eq_true rfl) (e_X8_add hs (by decide)) (Nat.le_of_ble_eq_true rfl) ?_
        refine pv_aload_n (i := 0) t_X3_canSettle_94 rfl rfl ?_
        refine pv_iload t_X3_canSettle_95 rfl ?_
        refine pv_iload t_X3_canSettle_97 rfl ?_
        refine pv_iload t_X3_canSettle_99 rfl ?_
        refine pv_isub t_X3_canSettle_101 ?_
        refine pv_gS3 t_X3_canSettle_102 ml_X3_67 mo_X8_add (Nat.le_of_ble_eq_true rfl) (e_X8_add hs (by decide)) (Nat.le_of_ble_eq_true rfl) ?_
        refine zst (S2 := (Ψ, μ)) (by simp only [zhs_hs, zhs_s]; show (Ψ, zhs μ su (lAd (lAd (lAd (lAd (μ su) (lw k) (nI i)) (hg k) (nI n - nI i)) (lw k) (-nI i)) (hg k) (nI i - nI n))) = (Ψ, μ); rw [lAd_back hk _ _ _ (by grind), zhs_id]) ?_
        refine pv_iinc (v := 1) t_X3_canSettle_105 rfl zi_1 ?_
        refine pv_goto t_X3_canSettle_108 ?_
        refine pv_loc (lv' := [(0, _), (1, _), (2, _), (3, _), (4, _), (5, _), (6, _), (7, _), (8, _)]) ⟨rfl, rfl, rfl, rfl, rfl, rfl, rfl, rfl, rfl, trivial⟩ ?_
        exact ih (i + 1) (by omega) (by omega) _ _ (nI_1 i) (by subst hcn; rw [csL_s, hall, bz_0.mp c52, Bool.false_or])

theorem e_X3_canSettle {l : Launch} {X : zX} {d : Nat} {Ψ : List zC} {p : Int32} {su op : Nat} : ∀ j k : Nat, k + j = 6 → ∀ μ : zH, (∀ q, q < 6 → ∃ n, n < 1000 ∧ μ op q = nI n) → Ψ[su]? = some (.inl (0, 4)) → Ψ[op]? = some (.inl (0, 6)) → zRn l X mi_X3_canSettle (d + 2 + j) [.inr su, .inr op, .inl p, .inl (nI k)] (Ψ, μ) (some (.inl (bz (csB (μ op) p j k (μ su))))) (Ψ, μ) := by
  intro j
  induction j with
  | zero =>
    intro k hkj μ hop hs ho
    have hk6 : k = 6 := by omega
    subst hk6
    show zEv l X mi_X3_canSettle (d + 2) 0 (zent 0 [.inr su, .inr op, .inl p, .inl (nI 6)]) [] (Ψ, μ) 0 0 _ _
    refine pv_iload_n (i := 3) t_X3_canSettle_0 rfl rfl ?_
    refine pv_bipush (v := 6) t_X3_canSettle_1 zb_6 ?_
    refine pv_icmp_lt t_X3_canSettle_3 (fun c3 => absurd c3 (by decide)) (fun c3 => ?_)
    refine pv_aload_n (i := 0) t_X3_canSettle_6 rfl rfl ?_
    refine pv_iload_n (i := 2) t_X3_canSettle_7 rfl rfl ?_
    refine pv_gS2 t_X3_canSettle_8 ml_X3_78 mo_X3_hasMost (Nat.le_of_ble_eq_true rfl) (e_X3_hasMost hs) (Nat.le_of_ble_eq_true rfl) ?_
    exact pv_iretz t_X3_canSettle_11 rfl ⟨rfl, bz_01 _⟩ rfl
  | succ j ih =>
    intro k hkj μ hop hs ho
    obtain ⟨n, hn9, hall0⟩ := hop k (by omega)
    have hall : rA (μ op) 6 (nI k) = nI n := by rw [rA_n (by omega) (by decide), hall0]
    refine pv_ext (fun hx => ?_)
    show zEv l X mi_X3_canSettle (d + 2 + j + 1) 0 (zent 0 [.inr su, .inr op, .inl p, .inl (nI k)]) [] (Ψ, μ) 0 0 _ _
    refine pv_iload_n (i := 3) t_X3_canSettle_0 rfl rfl ?_
    refine pv_bipush (v := 6) t_X3_canSettle_1 zb_6 ?_
    refine pv_icmp_lt t_X3_canSettle_3 (fun c3 => ?_) (fun c3 => absurd (nI_lt (show k < 6 by omega) (by decide)) c3)
    refine pv_gets t_X3_canSettle_12 gs_X3_45 (by decide) ?_
    refine pv_iload_n (i := 3) t_X3_canSettle_15 rfl rfl ?_
    refine pv_gS2 t_X3_canSettle_16 ml_X3_37 mo_X8_at (Nat.le_of_ble_eq_true rfl) (e_X8_at zr4 (by decide)) (Nat.le_of_ble_eq_true rfl) ?_
    rw [hx 4 (by decide), zx4 (show k < 6 by omega)]
    refine pv_istore t_X3_canSettle_19 (Nat.le_of_ble_eq_true rfl) ?_
    refine pv_gets t_X3_canSettle_21 gs_X3_53 (by decide) ?_
    refine pv_iload_n (i := 3) t_X3_canSettle_24 rfl rfl ?_
    refine pv_gS2 t_X3_canSettle_25 ml_X3_37 mo_X8_at (Nat.le_of_ble_eq_true rfl) (e_X8_at zr5 (by decide)) (Nat.le_of_ble_eq_true rfl) ?_
    rw [hx 5 (by decide), zx5 (show k < 6 by omega)]
    refine pv_istore t_X3_canSettle_28 (Nat.le_of_ble_eq_true rfl) ?_
    refine pv_aload_n (i := 1) t_X3_canSettle_30 rfl rfl ?_
    refine pv_iload_n (i := 3) t_X3_canSettle_31 rfl rfl ?_
    refine pv_gS2 t_X3_canSettle_32 ml_X3_37 mo_X8_at (Nat.le_of_ble_eq_true rfl) (e_X8_at (Or.inl ho) (by decide)) (Nat.le_of_ble_eq_true rfl) ?_
    rw [hall]
    refine pv_istore t_X3_canSettle_35 (Nat.le_of_ble_eq_true rfl) ?_
    refine pv_iconst (v := 0) t_X3_canSettle_37 zi_0 ?_
    refine pv_istore t_X3_canSettle_38 (Nat.le_of_ble_eq_true rfl) ?_
    refine pv_iconst (v := 0) t_X3_canSettle_40 zi_0 ?_
    refine pv_istore t_X3_canSettle_41 (Nat.le_of_ble_eq_true rfl) ?_
    have h9 := lp_X3_canSettle (l := l) (X := X) (μ := μ) (dd := d + 2 + j) (p := p) (j := j) (n := n) hs ho (show k < 6 by omega) hn9 hall (fun s1 => by
      rw [nI_1]
      have := ih (k + 1) (by omega) (zhs μ su s1) (fun q hq => by rw [zhs_n _ _ (zne ho hs (by decide))]; exact hop q hq) hs ho
      exact this) (n + 1 + 1) 0 (by omega) (by omega) _ _ rfl rfl
    have e9 : csB (μ op) p (j + 1) k (μ su) = csL (μ op) p j k (μ su) (n + 1) := by
      show csL (μ op) p j k (μ su) ((rA (μ op) 6 (nI k)).toNatClampNeg + 1) = _
      rw [hall, nI_clamp (by omega)]
    rw [e9]
    exact h9

