/-- how many of ten bits are set -/
def cb (s : Nat) : Nat := s % 2 + s / 2 % 2 + s / 4 % 2 + s / 8 % 2 + s / 16 % 2 + s / 32 % 2 + s / 64 % 2 + s / 128 % 2 + s / 256 % 2 + s / 512 % 2
theorem nI_and {a b : Nat} (ha : a < 2 ^ 31) (hb : b < 2 ^ 31) : nI a &&& nI b = nI (a &&& b) := by
  apply Int32.toBitVec_inj.mp
  apply BitVec.eq_of_toNat_eq
  rw [Int32.toBitVec_and, BitVec.toNat_and, pk_tn (by omega), pk_tn (by omega), pk_tn (Nat.lt_of_le_of_lt Nat.and_le_left (by omega))]
theorem nI_or {a b : Nat} (ha : a < 2 ^ 31) (hb : b < 2 ^ 31) : nI a ||| nI b = nI (a ||| b) := by
  apply Int32.toBitVec_inj.mp
  apply BitVec.eq_of_toNat_eq
  rw [Int32.toBitVec_or, BitVec.toNat_or, pk_tn (by omega), pk_tn (by omega), pk_tn (Nat.lt_of_lt_of_le (Nat.or_lt_two_pow ha hb) (by decide))]
theorem sm_k : ∀ k, k < 32 → ((nI k &&& 31).toBitVec.smod 32).toNat = k := by decide +kernel
theorem nI_shr {a k : Nat} (ha : a < 2 ^ 31) (hk : k < 32) : nI a >>> (nI k &&& 31) = nI (a / 2 ^ k) := pk_shrN ha _ k (sm_k k hk)
theorem nI_shl {a k : Nat} (hk : k < 32) (h : a * 2 ^ k < 2 ^ 32) : nI a <<< (nI k &&& 31) = nI (a * 2 ^ k) := pk_shlN _ k (sm_k k hk) h
theorem nI_bit {a k : Nat} (ha : a < 2 ^ 31) (hk : k < 32) : (nI a >>> (nI k &&& 31)) &&& 1 = nI (a / 2 ^ k % 2) := by
  rw [nI_shr ha hk, pk_andN (Nat.lt_of_le_of_lt (Nat.div_le_self _ _) (by omega)) 1 rfl]
theorem onS_n {s : Nat} (hs : s < 2 ^ 31) : ∀ i, i < 32 → onS (nI s) i = nI (zfold (fun k a => a + s / 2 ^ k % 2) 0 i) := by
  intro i
  induction i with
  | zero => intro _; rfl
  | succ i ih =>
    intro hi
    show onS (nI s) i + ((nI s >>> (nI i &&& 31)) &&& 1) = nI (zfold (fun k a => a + s / 2 ^ k % 2) 0 i + s / 2 ^ i % 2)
    rw [ih (by omega), nI_bit hs (by omega), nI_add]
theorem ones_n {s : Nat} (hs : s < 2 ^ 31) : a_X11_ones (nI s) = nI (cb s) := by
  unfold a_X11_ones
  rw [onS_n hs 10 (by decide)]
  congr 1
  simp [zfold, cb]
def msk (n m : Nat) : Nat := (if n < 8 then 2 ^ n else 0) ||| (if m < 8 then 2 ^ m else 0)
theorem msk_lt : ∀ n, n < 9 → ∀ m, m < 9 → msk n m < 256 := by decide +kernel
theorem cb_and : ∀ n, n < 9 → ∀ m, m < 9 → ∀ s, s < 256 → (cb (msk n m &&& s) = cb (msk n m) ↔ msk n m &&& s = msk n m) ∧ (0 < cb (msk n m &&& s) ↔ ¬ msk n m &&& s = 0) := by decide +kernel
theorem cb_lt {s : Nat} : cb s ≤ 10 := by unfold cb; omega
def tv (a s : Nat) : Int32 := if a &&& s = a then 2 else if a &&& s = 0 then 0 else 1
theorem nd_e : ∀ n, n < 9 → ∀ m, m < 9 → ((if (8 : Int32) ≤ nI n then (0 : Int32) else 1 <<< (nI n &&& 31)) ||| (if (8 : Int32) ≤ nI m then (0 : Int32) else 1 <<< (nI m &&& 31))) = nI (msk n m) := by decide +kernel
theorem truthBy_n {f70 : Nat → Int32} {c n m s : Nat} (hn : n < 9) (hm : m < 9) (hs : s < 256) (h3 : f70 (5 * c + 3) = nI n) (h4 : f70 (5 * c + 4) = nI m) : a_X11_truthBy f70 c (nI s) = tv (msk n m) s := by
  unfold a_X11_truthBy
  rw [h3, h4, nd_e n hn m hm]
  have hk := msk_lt n hn m hm
  have hk2 : msk n m &&& s < 256 := Nat.lt_of_le_of_lt Nat.and_le_left hk
  rw [nI_and (by omega) (by omega), ones_n (by omega), ones_n (by omega)]
  obtain ⟨h5, h6⟩ := cb_and n hn m hm s hs
  have h7 := cb_lt (s := msk n m)
  have h8 := cb_lt (s := msk n m &&& s)
  unfold tv
  by_cases c1 : msk n m &&& s = msk n m
  · rw [if_pos c1, if_pos (by rw [h5.mpr c1])]
  · rw [if_neg c1, if_neg (fun q => c1 (h5.mp ((nI_eq (by omega) (by omega)).mp q)))]
    by_cases c2 : msk n m &&& s = 0
    · rw [if_pos c2, if_pos]
      rw [show cb (msk n m &&& s) = 0 from Nat.eq_zero_of_not_pos (fun q => h6.mp q c2)]
      decide
    · rw [if_neg c2, if_neg]
      intro q
      exact nI_nle (h6.mpr c2) (by omega) q
theorem tv_3 (a s : Nat) : tv a s = 0 ∨ tv a s = 1 ∨ tv a s = 2 := by
  unfold tv
  repeat' split
  all_goals simp
/-- THE MEADOW, in the class and in the reference -/
def LR (np nc : Nat) (tr pa ne who what : Nat → Int32) : Prop :=
  (∀ d, d < np → (∀ i, i < 6 → tr (6 * d + i) = who (6 * d + i)) ∧ nb (who (6 * d)) 1000 ∧ nb (who (6 * d + 1)) 100) ∧
  (∀ c, c < nc → (∀ i, i < 5 → pa (5 * c + i) = what (5 * c + i)) ∧ (∃ n m : Nat, n < 9 ∧ m < 9 ∧ what (5 * c + 3) = nI n ∧ what (5 * c + 4) = nI m ∧ ne c = nI (msk n m)) ∧ (nb (what (5 * c + 1)) 10 ∧ 0 < (what (5 * c + 1)).toNatClampNeg) ∧ nb (what (5 * c + 2)) 10) ∧
  (∀ c, c < 8 → nb (what (5 * c)) 4) ∧ np ≤ 4 ∧ nc ≤ 8
/-- DEEDS and VANITIES -/
def FR (np : Nat) (dn va s : Nat → Int32) : Prop := (∀ d, d < np → s d = dn d ∧ nb (s d) 256) ∧ ∀ d t, d < np → t < 4 → s (4 + 4 * d + t) = va (4 * d + t) ∧ nb (s (4 + 4 * d + t)) 10
theorem nb_e {x : Int32} {n : Nat} (h : nb x n) : ∃ k, k < n ∧ x = nI k := ⟨_, h.1, h.2⟩
theorem part_e {pa : Nat → Int32} {c i : Nat} (hc : c < 8) (hi : i < 5) : part pa (nI c) (nI i) = pa (5 * c + i) := by
  unfold part
  show rA pa 40 (nI c * nI 5 + nI i) = _
  rw [pk_mul, nI_add, rA_n (by omega) (by decide), Nat.mul_comm c 5]
theorem trait_e {tr : Nat → Int32} {d i : Nat} (hd : d < 4) (hi : i < 6) : trait tr (nI d) (nI i) = tr (6 * d + i) := by
  unfold trait
  show rA tr 24 (nI d * nI 6 + nI i) = _
  rw [pk_mul, nI_add, rA_n (by omega) (by decide), Nat.mul_comm d 6]
theorem vanO_e {va : Nat → Int32} {d t : Nat} (hd : d < 4) (ht : t < 4) : vanO va (nI d) (nI t) = va (4 * d + t) := by
  unfold vanO
  show rA va 16 (nI d * nI 4 + nI t) = _
  rw [pk_mul, nI_add, rA_n (by omega) (by decide), Nat.mul_comm d 4]
theorem tru_e {np nc : Nat} {tr pa ne who what dn va s : Nat → Int32} (hL : LR np nc tr pa ne who what) (hF : FR np dn va s) {c p : Nat} (hc : c < nc) (hp : p < np) :
    tru ne dn (nI c) (nI p) = a_X11_truthBy what c (s p) ∧ (tru ne dn (nI c) (nI p) = 0 ∨ tru ne dn (nI c) (nI p) = 1 ∨ tru ne dn (nI c) (nI p) = 2) := by
  have hc8 := hL.2.2.2.2; have hp4 := hL.2.2.2.1
  obtain ⟨n, m, hn, hm, h3, h4, h5⟩ := (hL.2.1 c hc).2.1
  obtain ⟨h6, h7⟩ := hF.1 p hp
  obtain ⟨k, hk, h8⟩ := nb_e h7
  have h9 : tru ne dn (nI c) (nI p) = tv (msk n m) k := by
    unfold tru tv
    have hm9 := msk_lt n hn m hm
    rw [rA_n (by omega) (by decide), rA_n (by omega) (by decide), h5, ← h6, h8, nI_and (by omega) (by omega)]
    have hk2 : msk n m &&& k < 256 := Nat.lt_of_le_of_lt Nat.and_le_left hm9
    simp only [nI_eq (show msk n m &&& k < 2 ^ 31 by omega) (show msk n m < 2 ^ 31 by omega), show (nI (msk n m &&& k) = 0) = (nI (msk n m &&& k) = nI 0) from rfl, nI_eq (show msk n m &&& k < 2 ^ 31 by omega) (show 0 < 2 ^ 31 by omega)]
  rw [h9, h8, truthBy_n hn hm hk h3 h4]
  exact ⟨rfl, tv_3 _ _⟩
theorem hlf_n {w : Nat} : ∀ k w, w < 2 ^ 31 → hlf k (nI w) = nI (w / 2 ^ k)
  | 0, w, _ => by rw [hlf, Nat.pow_zero, Nat.div_one]
  | k + 1, w, hw => by
    rw [hlf, show nI w / 2 = nI (w / 2) from pk_div hw (by decide) (by decide), hlf_n (w := w) k (w / 2) (by omega), Nat.div_div_eq_div_mul, Nat.pow_succ, Nat.mul_comm 2]
theorem effO_n {w k : Nat} {t : Int32} (hw : w < 100) (hk : k < 31) (ht : t = 0 ∨ t = 1 ∨ t = 2) : effO t (nI w) (nI k) = hlf k (if t = 1 then (if t = 0 then (0 : Int32) else nI w) / 2 else if t = 0 then (0 : Int32) else nI w) ∧ nb (effO t (nI w) (nI k)) (w + 1) := by
  have h30 : ¬ (30 : Int32) < nI k := fun q => by have := (nI_ltI (a := 30) (by omega) (by omega)).mp q; omega
  have h0 := nI_pos (n := k) (by omega)
  have hd : ∀ x : Nat, x ≤ w → nb (nI (x / 2 ^ k)) (w + 1) := fun x hx => nb_i (by have := Nat.div_le_self x (2 ^ k); omega) (by omega)
  unfold effO
  rcases ht with ht | ht | ht
  · rw [if_pos (Or.inl ht), if_neg (by rw [ht]; decide), if_pos ht, show (0 : Int32) = nI 0 from rfl, hlf_n (w := 0) k 0 (by decide), Nat.zero_div]
    exact ⟨rfl, nb_i (by omega) (by omega)⟩
  · rw [if_neg (by rw [ht]; exact fun q => q.elim (by decide) (fun q => q.elim h0 h30)), if_pos ht, if_pos ht, if_neg (by rw [ht]; decide), show nI w / 2 = nI (w / 2) from pk_div (by omega) (by decide) (by decide), hlf_n (w := 0) k _ (by omega), nI_shr (by omega) (by omega)]
    exact ⟨rfl, hd _ (by omega)⟩
  · rw [if_neg (by rw [ht]; exact fun q => q.elim (by decide) (fun q => q.elim h0 h30)), if_neg (by rw [ht]; decide), if_neg (by rw [ht]; decide), if_neg (by rw [ht]; decide), hlf_n (w := 0) k _ (by omega), nI_shr (by omega) (by omega)]
    exact ⟨rfl, hd _ (Nat.le_refl _)⟩
theorem effB_e {np nc : Nat} {tr pa ne who what dn va s : Nat → Int32} (hL : LR np nc tr pa ne who what) (hF : FR np dn va s) {c p k : Nat} {v : Int32} (hc : c < nc) (hp : p < np) (hv : nb v 10) (hk : k < 31) :
    effB pa ne dn (nI c) (nI p) v (nI k) = a_X11_effectBy what s c p v k ∧ nb (effB pa ne dn (nI c) (nI p) v (nI k)) 82 := by
  have hc8 := hL.2.2.2.2; have hp4 := hL.2.2.2.1
  obtain ⟨h1, h2⟩ := tru_e hL hF hc hp
  obtain ⟨g1, g2, g3, g4⟩ := hL.2.1 c hc
  obtain ⟨a, ha, h3⟩ := nb_e g3.1
  obtain ⟨b, hb, h4⟩ := nb_e hv
  have hab : a * b ≤ 81 := Nat.le_trans (Nat.mul_le_mul (show a ≤ 9 by omega) (show b ≤ 9 by omega)) (by decide)
  have h5 : part pa (nI c) 1 * v = nI (a * b) := by
    rw [show (1 : Int32) = nI 1 from rfl, part_e (by omega) (by decide), g1 1 (by decide), h3, h4, pk_mul]
  have h6 := effO_n (w := a * b) (k := k) (t := tru ne dn (nI c) (nI p)) (by omega) hk h2
  unfold effB a_X11_effectBy
  rw [h5]
  refine ⟨?_, nb_le h6.2 (by omega)⟩
  rw [h6.1, h1, h3, h4, pk_mul]
