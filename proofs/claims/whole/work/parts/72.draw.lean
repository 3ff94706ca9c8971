/-- the next seed, alike -/
theorem sd1_e {v : Nat} (hv : v < 2 ^ 31) : sd1 (nI v) = nI ((v * 1103515245 + 12345) % 2147483648) := by
  unfold sd1
  have h0 : (nI v).toInt64 = Int64.ofNat v := Int32.toInt64_ofNat' (by rw [show Int32.maxValue.toInt = 2147483647 from rfl]; omega)
  have h1 : Int64.ofNat v * 1103515245 + 12345 = Int64.ofNat (v * 1103515245 + 12345) := by
    rw [Int64.ofNat_add, Int64.ofNat_mul]; rfl
  have h2 : Int64.ofNat (v * 1103515245 + 12345) / 2147483648 = Int64.ofNat ((v * 1103515245 + 12345) / 2147483648) := (Int64.ofNat_div (b := 2147483648) (by omega) (by decide)).symm
  have h3 : Int64.ofNat ((v * 1103515245 + 12345) / 2147483648) * 2147483648 = Int64.ofNat ((v * 1103515245 + 12345) / 2147483648 * 2147483648) := (Int64.ofNat_mul _ 2147483648).symm
  rw [h0, h1, h2, h3, ← Int64.ofNat_sub _ _ (Nat.div_mul_le_self _ _), Int64.toInt32_ofNat']
  generalize v * 1103515245 + 12345 = n
  have hq : n - n / 2147483648 * 2147483648 = n % 2147483648 := by omega
  exact congrArg nI hq
theorem msk31 (n : Nat) : nI n &&& 2147483647 = nI (n % 2147483648) := by
  have t0 : ∀ k, (nI k).toBitVec.toNat = k % 2 ^ 32 := fun k => BitVec.toNat_ofNat k 32
  have t2 : (2147483647 : Int32).toBitVec.toNat = 2 ^ 31 - 1 := by decide
  apply Int32.toBitVec_inj.mp
  apply BitVec.eq_of_toNat_eq
  rw [Int32.toBitVec_and, BitVec.toNat_and, t0, t0, t2, Nat.and_two_pow_sub_one_eq_mod]
  omega
theorem sdr_e {v : Nat} : (nI v * 1103515245 + 12345) &&& 2147483647 = nI ((v * 1103515245 + 12345) % 2147483648) := by
  have e1 : (1103515245 : Int32) = nI 1103515245 := rfl
  have e2 : (12345 : Int32) = nI 12345 := rfl
  rw [e1, e2, pk_mul, nI_add]
  exact msk31 _
theorem un_c : ∀ n, n < 9 → ∀ S, S < 2 ^ n → zfold (fun c a => a + (if S / 2 ^ c % 2 = 0 then 1 else 0)) 0 n = n - cb S := by decide +kernel
theorem dUn_n {ce : Nat → Int32} {S c : Nat} (h4 : ce 4 = nI S) (hS : S < 256) (hc : c < 8) : dUn ce (nI c) = decide (S / 2 ^ c % 2 = 0) := by
  have hbit : (nI (S / 2 ^ c % 2) = 0) = (S / 2 ^ c % 2 = 0) := eq_n (n := 0) (by omega) (by decide)
  unfold dUn zib
  rw [show cell ce 4 = ce 4 from cell_n (i := 4) (by decide), h4, nI_bit (by omega) (by omega), nI_toInt (by omega)]
  have : (0 : Int) ≤ (c : Int) ∧ (c : Int) < (8 : Int32).toInt := ⟨by omega, by show (c : Int) < 8; omega⟩
  rw [decide_eq_true this, Bool.true_and]
  simp only [hbit]
theorem dUC_n {ce : Nat → Int32} {S : Nat} (h4 : ce 4 = nI S) (hS : S < 256) : ∀ n, n ≤ 8 → dUC ce n = nI (zfold (fun c a => a + (if S / 2 ^ c % 2 = 0 then 1 else 0)) 0 n)
  | 0, _ => rfl
  | n + 1, hn => by
    show dUC ce n + bz (dUn ce (nI n)) = nI (zfold (fun c a => a + (if S / 2 ^ c % 2 = 0 then 1 else 0)) 0 n + (if S / 2 ^ n % 2 = 0 then 1 else 0))
    rw [dUC_n h4 hS n (by omega), dUn_n h4 hS (by omega), ← nI_add]
    congr 1
    by_cases q : S / 2 ^ n % 2 = 0
    · rw [decide_eq_true q, if_pos q]; rfl
    · rw [decide_eq_false q, if_neg q]; rfl
theorem uA_e {ce s : Nat → Int32} {S : Nat} (h4 : ce 4 = nI S) (hS : S < 256) (hs : s 25 = nI S) : ∀ j c (a : Int32), c + j ≤ 8 → unA s j c a = dUA ce j c a ∧ (dUA ce j c a = 8 ∨ ∃ k, k < c + j ∧ dUA ce j c a = nI k ∧ S / 2 ^ k % 2 = 0)
  | 0, _, _, _ => ⟨rfl, Or.inl rfl⟩
  | j + 1, c, a, h => by
    have hu := dUn_n h4 hS (c := c) (by omega)
    have hbit : (nI (S / 2 ^ c % 2) = 0) = (S / 2 ^ c % 2 = 0) := eq_n (n := 0) (by omega) (by decide)
    unfold unA dUA
    rw [hs, nI_bit (by omega) (by omega), hu]
    simp only [hbit]
    by_cases q : S / 2 ^ c % 2 = 0
    · rw [if_pos q, decide_eq_true q]
      by_cases w : a = 0
      · rw [if_pos w, if_pos ⟨rfl, w⟩]
        exact ⟨rfl, Or.inr ⟨c, by omega, rfl, q⟩⟩
      · rw [if_neg w, if_neg (fun z => w z.2)]
        obtain ⟨i1, i2⟩ := uA_e h4 hS hs j (c + 1) (a - bz true) (by omega)
        refine ⟨?_, i2.imp id (fun ⟨k, k1, k2⟩ => ⟨k, by omega, k2⟩)⟩
        rw [← i1, show a - bz true = a + -1 from Int32.sub_eq_add_neg a 1]
    · rw [if_neg q, decide_eq_false q, if_neg (fun z => absurd z.1 (by decide))]
      rw [show a - bz false = a from Int32.sub_zero a]
      obtain ⟨i1, i2⟩ := uA_e h4 hS hs j (c + 1) a (by omega)
      exact ⟨i1, i2.imp id (fun ⟨k, k1, k2⟩ => ⟨k, by omega, k2⟩)⟩
