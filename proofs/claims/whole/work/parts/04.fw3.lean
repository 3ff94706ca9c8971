theorem zsum (E : zE) (st : List zV) : ((st.map (zem E)).map fun v => v.category).sum = st.length := by
  induction st with
  | nil => rfl
  | cons a t ih =>
    rw [List.map_cons, List.map_cons, List.sum_cons, ih, zcat, List.length_cons]
    omega
section ZR2
variable {l : Launch} {X : zX} {y : zMI} {d pc pc' : Nat} {lv : List (Nat × zV)} {st : List zV} {S : zS} {mc ms : Nat} {r : Option zV} {S' : zS}
/-- the length of an int array, in the world or outside -/
def zal (X : zX) (S : zS) (k : Nat) : Option Nat := if k < 1000 then (match S.1[k]? with | some (.inl (t, n)) => if t = 0 then some n else none | _ => none) else if k < 1007 then some (zxl X (k - 1000)) else none
theorem zal_w {X : zX} {S : zS} {k n : Nat} (hk : k < 1000) (h : zal X S k = some n) : S.1[k]? = some (.inl (0, n)) := by
  unfold zal at h
  rw [if_pos hk] at h
  split at h
  · rename_i t n' he
    by_cases ht : t = 0
    · rw [if_pos ht] at h
      cases h
      rw [he, ht]
    · rw [if_neg ht] at h
      cases h
  · cases h
theorem zal_x {X : zX} {S : zS} {k n : Nat} (hk : ¬ k < 1000) (h : zal X S k = some n) : ∃ j, j < 7 ∧ k = 1000 + j ∧ n = zxl X j := by
  unfold zal at h
  rw [if_neg hk] at h
  by_cases h2 : k < 1007
  · rw [if_pos h2] at h
    exact ⟨k - 1000, by omega, by omega, (Option.some.inj h).symm⟩
  · rw [if_neg h2] at h
    cases h
theorem zad_hi {E : zE} {j : Nat} : zad E (1000 + j) = E.2 j := by
  unfold zad
  rw [if_neg (by omega), Nat.add_sub_cancel_left]
theorem ev_iald {a n : Nat} {i : Int32} (hd : zdn y.2.1 pc pc' (.iaload) 1) (hn : zal X S a = some n) (hi : vp_in i n) (k : zEv l X y d pc' lv (.inl (S.2 a i.toNatClampNeg) :: st) S mc ms r S') : zEv l X y d pc lv (.inl i :: .inr a :: st) S mc ms r S' := by
  obtain ⟨hd, rfl⟩ := hd
  intro E G D p e R s m args below meth c H locs cells slots Q ls hB hW hS hL hc h1 h2 hk
  show W p l e R s m args below meth c H locs cells slots Q (F0 m pc ls (.int i :: .ref (zad E a) :: st.map (zem E)))
  by_cases ha : a < 1000
  · rw [zad_lo ha]
    exact va_iald hB.1 hB.2.1 hB.2.2.2.2.2.1.1 hW.1 a 0 (zwl_at (zal_w ha hn)) rfl hi hd (k E G D p e R s m args below meth c H locs cells slots Q ls hB hW hS hL hc h1 h2 hk)
  · obtain ⟨j, hj, rfl, rfl⟩ := zal_x ha hn
    rw [zad_hi]
    refine va_ti hB.1 hB.2.1 (hB.2.2.2.2.2.1.2.2.2.1.2 j hj) hS hi rfl hd ?_
    have e9 : zxc X j i.toNatClampNeg = S.2 (1000 + j) i.toNatClampNeg := by rw [hW.2.2 j hj]
    rw [e9]
    exact k E G D p e R s m args below meth c H locs cells slots Q ls hB hW hS hL hc h1 h2 hk
theorem ev_alen {a n : Nat} {v : Int32} (hd : zdn y.2.1 pc pc' (.arraylength) 1) (hn : zal X S a = some n) (hv : Int32.ofNat n = v) (k : zEv l X y d pc' lv (.inl v :: st) S mc ms r S') : zEv l X y d pc lv (.inr a :: st) S mc ms r S' := by
  obtain ⟨hd, rfl⟩ := hd
  intro E G D p e R s m args below meth c H locs cells slots Q ls hB hW hS hL hc h1 h2 hk
  show W p l e R s m args below meth c H locs cells slots Q (F0 m pc ls (.ref (zad E a) :: st.map (zem E)))
  by_cases ha : a < 1000
  · rw [zad_lo ha]
    exact va_alen hB.1 hB.2.1 hB.2.2.2.2.2.1.1 hW.1 a 0 (zwl_at (zal_w ha hn)) (ty := .int) rfl hv hd (k E G D p e R s m args below meth c H locs cells slots Q ls hB hW hS hL hc h1 h2 hk)
  · obtain ⟨j, hj, rfl, rfl⟩ := zal_x ha hn
    rw [zad_hi]
    exact va_tlen hB.1 hB.2.1 (hB.2.2.2.2.2.1.2.2.2.1.2 j hj) hS hv hd (k E G D p e R s m args below meth c H locs cells slots Q ls hB hW hS hL hc h1 h2 hk)
theorem ev_iast {a n : Nat} {i x : Int32} (hd : zdn y.2.1 pc pc' (.iastore) 1) (hn : S.1[a]? = some (.inl (0, n))) (hi : vp_in i n) (k : zEv l X y d pc' lv st (S.1, zhs S.2 a (upd (S.2 a) i.toNatClampNeg x)) mc ms r S') : zEv l X y d pc lv (.inl x :: .inl i :: .inr a :: st) S mc ms r S' := by
  obtain ⟨hd, rfl⟩ := hd
  intro E G D p e R s m args below meth c H locs cells slots Q ls hB hW hS hL hc h1 h2 hk
  show W p l e R s m args below meth c H locs cells slots Q (F0 m pc ls (.int x :: .int i :: .ref (zad E a) :: st.map (zem E)))
  rw [zad_lo (hW.lt hn)]
  refine va_iast hB.1 hB.2.1 hB.2.2.2.2.2.1.1 hW.1 zwl_D hS a 0 (zwl_at hn) rfl hi hd (fun H1 locs1 hP _ hS1 => ?_)
  have hW1 := hW.to (c' := .inl (0, n)) (f := upd (S.2 a) i.toNatClampNeg x) hn hP
  rw [zset_same hn] at hW1
  exact k E G D p e R s m args below meth c H1 locs1 cells slots Q ls hB hW1 hS1 hL hc h1 h2 hk
theorem ev_zald {a n : Nat} {i : Int32} (hd : zdn y.2.1 pc pc' (.baload) 1) (hn : S.1[a]? = some (.inl (1, n))) (hi : vp_in i n) (k : zEv l X y d pc' lv (.inl (S.2 a i.toNatClampNeg) :: st) S mc ms r S') : zEv l X y d pc lv (.inl i :: .inr a :: st) S mc ms r S' := by
  obtain ⟨hd, rfl⟩ := hd
  intro E G D p e R s m args below meth c H locs cells slots Q ls hB hW hS hL hc h1 h2 hk
  show W p l e R s m args below meth c H locs cells slots Q (F0 m pc ls (.int i :: .ref (zad E a) :: st.map (zem E)))
  rw [zad_lo (hW.lt hn)]
  exact va_zald hB.1 hB.2.1 hB.2.2.2.2.2.1.1 hW.1 a 1 (zwl_at hn) rfl hi hd (k E G D p e R s m args below meth c H locs cells slots Q ls hB hW hS hL hc h1 h2 hk)
theorem ev_zast {a n : Nat} {i x : Int32} (hd : zdn y.2.1 pc pc' (.bastore) 1) (hn : S.1[a]? = some (.inl (1, n))) (hi : vp_in i n) (k : zEv l X y d pc' lv st (S.1, zhs S.2 a (upd (S.2 a) i.toNatClampNeg (vp_nar .boolean x))) mc ms r S') : zEv l X y d pc lv (.inl x :: .inl i :: .inr a :: st) S mc ms r S' := by
  obtain ⟨hd, rfl⟩ := hd
  intro E G D p e R s m args below meth c H locs cells slots Q ls hB hW hS hL hc h1 h2 hk
  show W p l e R s m args below meth c H locs cells slots Q (F0 m pc ls (.int x :: .int i :: .ref (zad E a) :: st.map (zem E)))
  rw [zad_lo (hW.lt hn)]
  refine va_zast hB.1 hB.2.1 hB.2.2.2.2.2.1.1 hW.1 zwl_D hS a 1 (zwl_at hn) rfl hi hd (fun H1 locs1 hP _ hS1 => ?_)
  have hW1 := hW.to (c' := .inl (1, n)) (f := upd (S.2 a) i.toNatClampNeg (vp_nar .boolean x)) hn hP
  rw [zset_same hn] at hW1
  exact k E G D p e R s m args below meth c H1 locs1 cells slots Q ls hB hW1 hS1 hL hc h1 h2 hk
theorem ev_zlen {a n t : Nat} {v : Int32} (hd : zdn y.2.1 pc pc' (.arraylength) 1) (hn : S.1[a]? = some (.inl (1, n))) (hv : Int32.ofNat n = v) (k : zEv l X y d pc' lv (.inl v :: st) S mc ms r S') : zEv l X y d pc lv (.inr a :: st) S mc ms r S' := by
  obtain ⟨hd, rfl⟩ := hd
  intro E G D p e R s m args below meth c H locs cells slots Q ls hB hW hS hL hc h1 h2 hk
  show W p l e R s m args below meth c H locs cells slots Q (F0 m pc ls (.ref (zad E a) :: st.map (zem E)))
  rw [zad_lo (hW.lt hn)]
  exact va_alen hB.1 hB.2.1 hB.2.2.2.2.2.1.1 hW.1 a 1 (zwl_at hn) (ty := .boolean) rfl hv hd (k E G D p e R s m args below meth c H locs cells slots Q ls hB hW hS hL hc h1 h2 hk)
theorem ev_qlen {a : Nat} {rs : List (Option Nat)} {v : Int32} (hd : zdn y.2.1 pc pc' (.arraylength) 1) (hn : S.1[a]? = some (.inr (.inl rs))) (hv : Int32.ofNat rs.length = v) (k : zEv l X y d pc' lv (.inl v :: st) S mc ms r S') : zEv l X y d pc lv (.inr a :: st) S mc ms r S' := by
  obtain ⟨hd, rfl⟩ := hd
  intro E G D p e R s m args below meth c H locs cells slots Q ls hB hW hS hL hc h1 h2 hk
  show W p l e R s m args below meth c H locs cells slots Q (F0 m pc ls (.ref (zad E a) :: st.map (zem E)))
  rw [zad_lo (hW.lt hn)]
  exact va_alen hB.1 hB.2.1 hB.2.2.2.2.2.1.1 hW.1 a 2 (zwl_at hn) (ty := .object RX9) rfl hv hd (k E G D p e R s m args below meth c H locs cells slots Q ls hB hW hS hL hc h1 h2 hk)
theorem ev_qald {a q : Nat} {rs : List (Option Nat)} {i : Int32} (hd : zdn y.2.1 pc pc' (.aaload) 1) (hn : S.1[a]? = some (.inr (.inl rs))) (hi : vp_in i rs.length) (hq : rs.getD i.toNatClampNeg none = some q) (k : zEv l X y d pc' lv (.inr q :: st) S mc ms r S') : zEv l X y d pc lv (.inl i :: .inr a :: st) S mc ms r S' := by
  obtain ⟨hd, rfl⟩ := hd
  intro E G D p e R s m args below meth c H locs cells slots Q ls hB hW hS hL hc h1 h2 hk
  show W p l e R s m args below meth c H locs cells slots Q (F0 m pc ls (.int i :: .ref (zad E a) :: st.map (zem E)))
  rw [zad_lo (hW.lt hn)]
  refine va_aldq hB.1 hB.2.1 hB.2.2.2.2.2.1.1 hW.1 a 2 (zwl_at hn) rfl hi hd ?_
  rw [hq]
  exact k E G D p e R s m args below meth c H locs cells slots Q ls hB hW hS hL hc h1 h2 hk
theorem ev_gets {idx j : Nat} (hd : zdn y.2.1 pc pc' (.getstatic idx) 3) (hg : zGS y.1.cls idx j) (hj : j < 6) (k : zEv l X y d pc' lv (.inr (1000 + j) :: st) S mc ms r S') : zEv l X y d pc lv st S mc ms r S' := by
  obtain ⟨hd, rfl⟩ := hd
  intro E G D p e R s m args below meth c H locs cells slots Q ls hB hW hS hL hc h1 h2 hk
  refine va_gets hB.1 hB.2.1 (hB.2.2.2.2.2.1.2.2.2.1.1 j hj) hS hB.2.2.2.1 (hB.2.2.2.2.1 _ hg) (fun _ h => h) hd ?_
  have h9 := k E G D p e R s m args below meth c H locs cells slots Q ls hB hW hS hL hc h1 h2 hk
  rw [List.map_cons] at h9
  rw [show zem E (.inr (1000 + j)) = .ref (E.2 j) by show Value.ref _ = _; rw [zad_hi]] at h9
  exact h9
theorem ev_oinit {idx o d' : Nat} (hd : zdn y.2.1 pc pc' (.invokespecial idx) 3) (ho : zOI y.1.cls idx) (hst : st.length ≤ 8) (hdd : d = d' + 1) (k : zEv l X y d pc' lv st S mc ms r S') : zEv l X y d pc lv (.inr o :: st) S mc ms r S' := by
  obtain ⟨hd, rfl⟩ := hd
  intro E G D p e R s m args below meth c H locs cells slots Q ls hB hW hS hL hc h1 h2 hk
  have hf := hB.2.2.2.2.2.2.2.1
  have hl := hB.2.2.2.2.2.2.2.2
  have hs : ((st.map (zem E)).map fun v => v.category).sum = st.length := zsum E st
  refine W.objInit hB.1 hB.2.1 hB.2.2.2.1 (hB.2.2.2.2.1 _ ho) (hB.2.2.2.2.1 _ zw_oinst) (hB.2.2.2.2.1 _ zw_ocode) rfl (by show ls.size = _; rw [hL.1, hB.2.2.1]) rfl hd (by omega) (by show 2 * 0 + _ + 12 ≤ _; rw [hs]; omega) ?_
  exact k E G D p e R s m args below meth c H locs cells slots Q ls hB hW hS hL hc h1 h2 hk
theorem ev_copy {idx a b na nb d' : Nat} {sp dp n : Int32} (hd : zdn y.2.1 pc pc' (.invokestatic idx) 3) (hl : Cond.methodLink y.1.cls idx arraycopyName ∈ zTW) (ha : S.1[a]? = some (.inl (0, na))) (hb : S.1[b]? = some (.inl (0, nb))) (g1 : ¬ sp < 0) (g2 : ¬ dp < 0) (g3 : ¬ n < 0) (g4 : sp.toNatClampNeg + n.toNatClampNeg ≤ na) (g5 : dp.toNatClampNeg + n.toNatClampNeg ≤ nb) (hst : st.length ≤ 8) (hdd : d = d' + 1) (k : zEv l X y d pc' lv st (S.1, zhs S.2 b (va_cpy (S.2 a) (S.2 b) sp.toNatClampNeg dp.toNatClampNeg n.toNatClampNeg)) mc ms r S') : zEv l X y d pc lv (.inl n :: .inl dp :: .inr b :: .inl sp :: .inr a :: st) S mc ms r S' := by
  obtain ⟨hd, rfl⟩ := hd
  intro E G D p e R s m args below meth c H locs cells slots Q ls hB hW hS hL hc h1 h2 hk
  have hf := hB.2.2.2.2.2.2.2.1
  have hl4 := hB.2.2.2.2.2.2.2.2
  have hs : ((st.map (zem E)).map fun v => v.category).sum = st.length := zsum E st
  have hnw : nativeFrameWords "java/lang/System" "arraycopy" 5 = 7 := by decide +kernel
  show W p l e R s m args below meth c H locs cells slots Q (F0 m pc ls (.int n :: .int dp :: .ref (zad E b) :: .int sp :: .ref (zad E a) :: st.map (zem E)))
  rw [zad_lo (hW.lt ha), zad_lo (hW.lt hb)]
  refine va_copyi hB.1 hB.2.1 (by rw [hL.1, hB.2.2.1]) hB.2.2.2.1 (hB.2.2.2.2.1 _ hl) (hB.2.2.2.2.1 _ zw_native) (hB.2.2.2.2.1 _ zw_acstat) (hB.2.2.2.2.1 _ zw_sysini) hB.2.2.2.2.2.1.1 hW.1 zwl_D hS a b 0 0 (ty := .int) (zwl_at ha) (zwl_at hb) rfl rfl rfl g1 g2 g3 g4 g5 (fun _ _ => rfl) (by omega) (by rw [hs, hnw]; omega) hd (fun H1 locs1 hP _ hS1 => ?_)
  have hW1 := hW.to (c' := .inl (0, nb)) (f := va_cpy (S.2 a) (S.2 b) sp.toNatClampNeg dp.toNatClampNeg n.toNatClampNeg) hb hP
  rw [zset_same hb] at hW1
  exact k E G D p e R s m args below meth c H1 locs1 cells slots Q ls hB hW1 hS1 hL hc h1 h2 hk
theorem ev_draw {x v : Int32} {p1 p2 p3 p4 p5 p6 p7 i1 i2 i3 : Nat} {k1 k2 k3 : Int64} (d1 : zdn y.2.1 pc p1 (.i2l) 1) (d2 : zdn y.2.1 p1 p2 (.ldc2_w i1) 3) (e1 : zKL y.1.cls i1 k1) (d3 : zdn y.2.1 p2 p3 (.lmul) 1) (d4 : zdn y.2.1 p3 p4 (.ldc2_w i2) 3) (e2 : zKL y.1.cls i2 k2) (d5 : zdn y.2.1 p4 p5 (.ladd) 1) (d6 : zdn y.2.1 p5 p6 (.ldc2_w i3) 3) (e3 : zKL y.1.cls i3 k3) (hk3 : ¬ k3 = 0) (d7 : zdn y.2.1 p6 p7 (.lrem) 1) (d8 : zdn y.2.1 p7 pc' (.l2i) 1) (hv : ((x.toInt64 * k1 + k2) - (x.toInt64 * k1 + k2) / k3 * k3).toInt32 = v) (k : zEv l X y d pc' lv (.inl v :: st) S mc ms r S') : zEv l X y d pc lv (.inl x :: st) S mc ms r S' := by
  obtain ⟨d1, rfl⟩ := d1
  obtain ⟨d2, rfl⟩ := d2
  obtain ⟨d3, rfl⟩ := d3
  obtain ⟨d4, rfl⟩ := d4
  obtain ⟨d5, rfl⟩ := d5
  obtain ⟨d6, rfl⟩ := d6
  obtain ⟨d7, rfl⟩ := d7
  obtain ⟨d8, rfl⟩ := d8
  intro E G D p e R s m args below meth c H locs cells slots Q ls hB hW hS hL hc h1 h2 hk
  show W p l e R s m args below meth c H locs cells slots Q (F0 m pc ls (.int x :: st.map (zem E)))
  refine lv_i2l hB.1 hB.2.1 d1 rfl ?_
  refine lv_ldc2 hB.1 hB.2.1 hB.2.2.2.1 (hB.2.2.2.2.1 _ e1) d2 ?_
  refine lv_lmul hB.1 hB.2.1 d3 ?_
  refine lv_ldc2 hB.1 hB.2.1 hB.2.2.2.1 (hB.2.2.2.2.1 _ e2) d4 ?_
  refine lv_ladd hB.1 hB.2.1 d5 ?_
  refine lv_ldc2 hB.1 hB.2.1 hB.2.2.2.1 (hB.2.2.2.2.1 _ e3) d6 ?_
  refine lv_lrem hB.1 hB.2.1 d7 hk3 ?_
  refine lv_l2i hB.1 hB.2.1 d8 hv ?_
  exact k E G D p e R s m args below meth c H locs cells slots Q ls hB hW hS hL hc h1 h2 hk
end ZR2
