section ZR
variable {l : Launch} {X : zX} {y : zMI} {d pc pc' : Nat} {lv : List (Nat × zV)} {st : List zV} {S : zS} {mc ms : Nat} {r : Option zV} {S' : zS}
theorem ev_iconst {n : Int} {v : Int32} (hd : zdn y.2.1 pc pc' (.iconst n) 1) (hv : Int32.ofInt n = v) (k : zEv l X y d pc' lv (.inl v :: st) S mc ms r S') : zEv l X y d pc lv st S mc ms r S' := by
  obtain ⟨hd, rfl⟩ := hd
  intro E G D p e R s m args below meth c H locs cells slots Q ls hB hW hS hL hc h1 h2 hk
  exact lv_iconst hB.1 hB.2.1 hd hv (k E G D p e R s m args below meth c H locs cells slots Q ls hB hW hS hL hc h1 h2 hk)
theorem ev_bipush {n : Int} {v : Int32} (hd : zdn y.2.1 pc pc' (.bipush n) 2) (hv : (Int8.ofInt n).toInt32 = v) (k : zEv l X y d pc' lv (.inl v :: st) S mc ms r S') : zEv l X y d pc lv st S mc ms r S' := by
  obtain ⟨hd, rfl⟩ := hd
  intro E G D p e R s m args below meth c H locs cells slots Q ls hB hW hS hL hc h1 h2 hk
  exact lv_bipush hB.1 hB.2.1 hd hv (k E G D p e R s m args below meth c H locs cells slots Q ls hB hW hS hL hc h1 h2 hk)
theorem ev_sipush {n : Int} {v : Int32} (hd : zdn y.2.1 pc pc' (.sipush n) 3) (hv : (Int16.ofInt n).toInt32 = v) (k : zEv l X y d pc' lv (.inl v :: st) S mc ms r S') : zEv l X y d pc lv st S mc ms r S' := by
  obtain ⟨hd, rfl⟩ := hd
  intro E G D p e R s m args below meth c H locs cells slots Q ls hB hW hS hL hc h1 h2 hk
  exact lv_sipush hB.1 hB.2.1 hd hv (k E G D p e R s m args below meth c H locs cells slots Q ls hB hW hS hL hc h1 h2 hk)
theorem ev_ldc {idx : Nat} {v : Int32} (hd : zdn y.2.1 pc pc' (.ldc idx) 2) (hv : zKI y.1.cls idx v) (k : zEv l X y d pc' lv (.inl v :: st) S mc ms r S') : zEv l X y d pc lv st S mc ms r S' := by
  obtain ⟨hd, rfl⟩ := hd
  intro E G D p e R s m args below meth c H locs cells slots Q ls hB hW hS hL hc h1 h2 hk
  exact lv_ldc hB.1 hB.2.1 hB.2.2.2.1 (hB.2.2.2.2.1 _ hv) hd (k E G D p e R s m args below meth c H locs cells slots Q ls hB hW hS hL hc h1 h2 hk)
theorem ev_ldcw {idx : Nat} {v : Int32} (hd : zdn y.2.1 pc pc' (.ldc_w idx) 3) (hv : zKI y.1.cls idx v) (k : zEv l X y d pc' lv (.inl v :: st) S mc ms r S') : zEv l X y d pc lv st S mc ms r S' := by
  obtain ⟨hd, rfl⟩ := hd
  intro E G D p e R s m args below meth c H locs cells slots Q ls hB hW hS hL hc h1 h2 hk
  exact lv_ldcw hB.1 hB.2.1 hB.2.2.2.1 (hB.2.2.2.2.1 _ hv) hd (k E G D p e R s m args below meth c H locs cells slots Q ls hB hW hS hL hc h1 h2 hk)
theorem ev_iload_n {kk : Fin 4} {i : Nat} {x : Int32} (hd : zdn y.2.1 pc pc' (.iload_n kk) 1) (hi : (kk : Nat) = i) (hg : zget lv i = some (.inl x)) (k : zEv l X y d pc' lv (.inl x :: st) S mc ms r S') : zEv l X y d pc lv st S mc ms r S' := by
  obtain ⟨hd, rfl⟩ := hd
  intro E G D p e R s m args below meth c H locs cells slots Q ls hB hW hS hL hc h1 h2 hk
  exact lv_iload_n hB.1 hB.2.1 hd hi (hL.2.2 _ _ hg) (k E G D p e R s m args below meth c H locs cells slots Q ls hB hW hS hL hc h1 h2 hk)
theorem ev_iload {i : Nat} {x : Int32} (hd : zdn y.2.1 pc pc' (.iload i) 2) (hg : zget lv i = some (.inl x)) (k : zEv l X y d pc' lv (.inl x :: st) S mc ms r S') : zEv l X y d pc lv st S mc ms r S' := by
  obtain ⟨hd, rfl⟩ := hd
  intro E G D p e R s m args below meth c H locs cells slots Q ls hB hW hS hL hc h1 h2 hk
  exact lv_iload hB.1 hB.2.1 hd (hL.2.2 _ _ hg) (k E G D p e R s m args below meth c H locs cells slots Q ls hB hW hS hL hc h1 h2 hk)
theorem ev_aload_n {kk : Fin 4} {i q : Nat} (hd : zdn y.2.1 pc pc' (.aload_n kk) 1) (hi : (kk : Nat) = i) (hg : zget lv i = some (.inr q)) (k : zEv l X y d pc' lv (.inr q :: st) S mc ms r S') : zEv l X y d pc lv st S mc ms r S' := by
  obtain ⟨hd, rfl⟩ := hd
  intro E G D p e R s m args below meth c H locs cells slots Q ls hB hW hS hL hc h1 h2 hk
  exact lv_aload_n hB.1 hB.2.1 hd hi (hL.2.2 _ _ hg) (k E G D p e R s m args below meth c H locs cells slots Q ls hB hW hS hL hc h1 h2 hk)
theorem ev_aload {i q : Nat} (hd : zdn y.2.1 pc pc' (.aload i) 2) (hg : zget lv i = some (.inr q)) (k : zEv l X y d pc' lv (.inr q :: st) S mc ms r S') : zEv l X y d pc lv st S mc ms r S' := by
  obtain ⟨hd, rfl⟩ := hd
  intro E G D p e R s m args below meth c H locs cells slots Q ls hB hW hS hL hc h1 h2 hk
  exact lv_aload hB.1 hB.2.1 hd (hL.2.2 _ _ hg) (k E G D p e R s m args below meth c H locs cells slots Q ls hB hW hS hL hc h1 h2 hk)
theorem ev_istore_n {kk : Fin 4} {i : Nat} {x : Int32} (hd : zdn y.2.1 pc pc' (.istore_n kk) 1) (hi : (kk : Nat) = i) (hn : i < y.2.2.1) (k : zEv l X y d pc' (zset lv i (.inl x : zV)) st S mc ms r S') : zEv l X y d pc lv ((.inl x : zV) :: st) S mc ms r S' := by
  obtain ⟨hd, rfl⟩ := hd
  intro E G D p e R s m args below meth c H locs cells slots Q ls hB hW hS hL hc h1 h2 hk
  exact lv_istore_n (lv := zlf E y.2.2.1 lv) (nL := y.2.2.1) hB.1 hB.2.1 hd hi hL.has hn rfl (fun lt hlt => k E G D p e R s m args below meth c H locs cells slots Q lt hB hW hS (hL.put (v := (.inl x : zV)) hlt) hc h1 h2 hk)
theorem ev_istore  {i : Nat} {x : Int32} (hd : zdn y.2.1 pc pc' (.istore i) 2)  (hn : i < y.2.2.1) (k : zEv l X y d pc' (zset lv i (.inl x : zV)) st S mc ms r S') : zEv l X y d pc lv ((.inl x : zV) :: st) S mc ms r S' := by
  obtain ⟨hd, rfl⟩ := hd
  intro E G D p e R s m args below meth c H locs cells slots Q ls hB hW hS hL hc h1 h2 hk
  exact lv_istore (lv := zlf E y.2.2.1 lv) (nL := y.2.2.1) hB.1 hB.2.1 hd  hL.has hn rfl (fun lt hlt => k E G D p e R s m args below meth c H locs cells slots Q lt hB hW hS (hL.put (v := (.inl x : zV)) hlt) hc h1 h2 hk)
theorem ev_astore_n {kk : Fin 4} {i : Nat} {q : Nat} (hd : zdn y.2.1 pc pc' (.astore_n kk) 1) (hi : (kk : Nat) = i) (hn : i < y.2.2.1) (k : zEv l X y d pc' (zset lv i (.inr q : zV)) st S mc ms r S') : zEv l X y d pc lv ((.inr q : zV) :: st) S mc ms r S' := by
  obtain ⟨hd, rfl⟩ := hd
  intro E G D p e R s m args below meth c H locs cells slots Q ls hB hW hS hL hc h1 h2 hk
  exact lv_astore_n (lv := zlf E y.2.2.1 lv) (nL := y.2.2.1) hB.1 hB.2.1 hd hi hL.has hn rfl (fun lt hlt => k E G D p e R s m args below meth c H locs cells slots Q lt hB hW hS (hL.put (v := (.inr q : zV)) hlt) hc h1 h2 hk)
theorem ev_astore  {i : Nat} {q : Nat} (hd : zdn y.2.1 pc pc' (.astore i) 2)  (hn : i < y.2.2.1) (k : zEv l X y d pc' (zset lv i (.inr q : zV)) st S mc ms r S') : zEv l X y d pc lv ((.inr q : zV) :: st) S mc ms r S' := by
  obtain ⟨hd, rfl⟩ := hd
  intro E G D p e R s m args below meth c H locs cells slots Q ls hB hW hS hL hc h1 h2 hk
  exact lv_astore (lv := zlf E y.2.2.1 lv) (nL := y.2.2.1) hB.1 hB.2.1 hd  hL.has hn rfl (fun lt hlt => k E G D p e R s m args below meth c H locs cells slots Q lt hB hW hS (hL.put (v := (.inr q : zV)) hlt) hc h1 h2 hk)
theorem ev_iinc {i : Nat} {n : Int} {x v : Int32} (hd : zdn y.2.1 pc pc' (.iinc i n) 3) (hg : zget lv i = some (.inl x)) (hv : Int32.ofInt n = v) (k : zEv l X y d pc' (zset lv i (.inl (x + v))) st S mc ms r S') : zEv l X y d pc lv st S mc ms r S' := by
  obtain ⟨hd, rfl⟩ := hd
  subst hv
  intro E G D p e R s m args below meth c H locs cells slots Q ls hB hW hS hL hc h1 h2 hk
  obtain ⟨hn, hm⟩ := hL.mem hg
  obtain ⟨j, hj⟩ := List.getElem?_of_mem hm
  exact lv_iinc (lv := zlf E y.2.2.1 lv) (nL := y.2.2.1) (k := j) (x := x) hB.1 hB.2.1 hd hL.has hj rfl hn rfl (fun ls' hl' => k E G D p e R s m args below meth c H locs cells slots Q ls' hB hW hS (hL.put (v := .inl (x + Int32.ofInt n)) hl') hc h1 h2 hk)
theorem ev_iadd {a b : Int32} (hd : zdn y.2.1 pc pc' (.iadd) 1) (k : zEv l X y d pc' lv (.inl (a + b) :: st) S mc ms r S') : zEv l X y d pc lv (.inl b :: .inl a :: st) S mc ms r S' := by
  obtain ⟨hd, rfl⟩ := hd
  intro E G D p e R s m args below meth c H locs cells slots Q ls hB hW hS hL hc h1 h2 hk
  exact lv_iadd hB.1 hB.2.1 hd (k E G D p e R s m args below meth c H locs cells slots Q ls hB hW hS hL hc h1 h2 hk)
theorem ev_isub {a b : Int32} (hd : zdn y.2.1 pc pc' (.isub) 1) (k : zEv l X y d pc' lv (.inl (a - b) :: st) S mc ms r S') : zEv l X y d pc lv (.inl b :: .inl a :: st) S mc ms r S' := by
  obtain ⟨hd, rfl⟩ := hd
  intro E G D p e R s m args below meth c H locs cells slots Q ls hB hW hS hL hc h1 h2 hk
  exact lv_isub hB.1 hB.2.1 hd (k E G D p e R s m args below meth c H locs cells slots Q ls hB hW hS hL hc h1 h2 hk)
theorem ev_imul {a b : Int32} (hd : zdn y.2.1 pc pc' (.imul) 1) (k : zEv l X y d pc' lv (.inl (a * b) :: st) S mc ms r S') : zEv l X y d pc lv (.inl b :: .inl a :: st) S mc ms r S' := by
  obtain ⟨hd, rfl⟩ := hd
  intro E G D p e R s m args below meth c H locs cells slots Q ls hB hW hS hL hc h1 h2 hk
  exact lv_imul hB.1 hB.2.1 hd (k E G D p e R s m args below meth c H locs cells slots Q ls hB hW hS hL hc h1 h2 hk)
theorem ev_iand {a b : Int32} (hd : zdn y.2.1 pc pc' (.iand) 1) (k : zEv l X y d pc' lv (.inl (a &&& b) :: st) S mc ms r S') : zEv l X y d pc lv (.inl b :: .inl a :: st) S mc ms r S' := by
  obtain ⟨hd, rfl⟩ := hd
  intro E G D p e R s m args below meth c H locs cells slots Q ls hB hW hS hL hc h1 h2 hk
  exact lv_iand hB.1 hB.2.1 hd (k E G D p e R s m args below meth c H locs cells slots Q ls hB hW hS hL hc h1 h2 hk)
theorem ev_ior {a b : Int32} (hd : zdn y.2.1 pc pc' (.ior) 1) (k : zEv l X y d pc' lv (.inl (a ||| b) :: st) S mc ms r S') : zEv l X y d pc lv (.inl b :: .inl a :: st) S mc ms r S' := by
  obtain ⟨hd, rfl⟩ := hd
  intro E G D p e R s m args below meth c H locs cells slots Q ls hB hW hS hL hc h1 h2 hk
  exact lv_ior hB.1 hB.2.1 hd (k E G D p e R s m args below meth c H locs cells slots Q ls hB hW hS hL hc h1 h2 hk)
theorem ev_ixor {a b : Int32} (hd : zdn y.2.1 pc pc' (.ixor) 1) (k : zEv l X y d pc' lv (.inl (a ^^^ b) :: st) S mc ms r S') : zEv l X y d pc lv (.inl b :: .inl a :: st) S mc ms r S' := by
  obtain ⟨hd, rfl⟩ := hd
  intro E G D p e R s m args below meth c H locs cells slots Q ls hB hW hS hL hc h1 h2 hk
  exact lv_ixor hB.1 hB.2.1 hd (k E G D p e R s m args below meth c H locs cells slots Q ls hB hW hS hL hc h1 h2 hk)
theorem ev_ishl {a b : Int32} (hd : zdn y.2.1 pc pc' (.ishl) 1) (k : zEv l X y d pc' lv (.inl (a <<< (b &&& 31)) :: st) S mc ms r S') : zEv l X y d pc lv (.inl b :: .inl a :: st) S mc ms r S' := by
  obtain ⟨hd, rfl⟩ := hd
  intro E G D p e R s m args below meth c H locs cells slots Q ls hB hW hS hL hc h1 h2 hk
  exact lv_ishl hB.1 hB.2.1 hd (k E G D p e R s m args below meth c H locs cells slots Q ls hB hW hS hL hc h1 h2 hk)
theorem ev_ishr {a b : Int32} (hd : zdn y.2.1 pc pc' (.ishr) 1) (k : zEv l X y d pc' lv (.inl (a >>> (b &&& 31)) :: st) S mc ms r S') : zEv l X y d pc lv (.inl b :: .inl a :: st) S mc ms r S' := by
  obtain ⟨hd, rfl⟩ := hd
  intro E G D p e R s m args below meth c H locs cells slots Q ls hB hW hS hL hc h1 h2 hk
  exact lv_ishr hB.1 hB.2.1 hd (k E G D p e R s m args below meth c H locs cells slots Q ls hB hW hS hL hc h1 h2 hk)
theorem ev_iushr {a b : Int32} (hd : zdn y.2.1 pc pc' (.iushr) 1) (k : zEv l X y d pc' lv (.inl ((a.toUInt32 >>> (b.toUInt32 &&& Int32.toUInt32 31)).toInt32) :: st) S mc ms r S') : zEv l X y d pc lv (.inl b :: .inl a :: st) S mc ms r S' := by
  obtain ⟨hd, rfl⟩ := hd
  intro E G D p e R s m args below meth c H locs cells slots Q ls hB hW hS hL hc h1 h2 hk
  exact lv_iushr hB.1 hB.2.1 hd rfl (k E G D p e R s m args below meth c H locs cells slots Q ls hB hW hS hL hc h1 h2 hk)
theorem ev_ineg {a : Int32} (hd : zdn y.2.1 pc pc' (.ineg) 1) (k : zEv l X y d pc' lv (.inl (-a) :: st) S mc ms r S') : zEv l X y d pc lv (.inl a :: st) S mc ms r S' := by
  obtain ⟨hd, rfl⟩ := hd
  intro E G D p e R s m args below meth c H locs cells slots Q ls hB hW hS hL hc h1 h2 hk
  exact lv_ineg hB.1 hB.2.1 hd (k E G D p e R s m args below meth c H locs cells slots Q ls hB hW hS hL hc h1 h2 hk)
theorem ev_idiv {a b : Int32} (hd : zdn y.2.1 pc pc' (.idiv) 1) (hne : ¬ b = 0) (k : zEv l X y d pc' lv (.inl (a / b) :: st) S mc ms r S') : zEv l X y d pc lv (.inl b :: .inl a :: st) S mc ms r S' := by
  obtain ⟨hd, rfl⟩ := hd
  intro E G D p e R s m args below meth c H locs cells slots Q ls hB hW hS hL hc h1 h2 hk
  exact lv_idiv hB.1 hB.2.1 hd hne (k E G D p e R s m args below meth c H locs cells slots Q ls hB hW hS hL hc h1 h2 hk)
theorem ev_irem {a b : Int32} (hd : zdn y.2.1 pc pc' (.irem) 1) (hne : ¬ b = 0) (k : zEv l X y d pc' lv (.inl (a - a / b * b) :: st) S mc ms r S') : zEv l X y d pc lv (.inl b :: .inl a :: st) S mc ms r S' := by
  obtain ⟨hd, rfl⟩ := hd
  intro E G D p e R s m args below meth c H locs cells slots Q ls hB hW hS hL hc h1 h2 hk
  exact lv_irem hB.1 hB.2.1 hd hne (k E G D p e R s m args below meth c H locs cells slots Q ls hB hW hS hL hc h1 h2 hk)
theorem ev_dup {a : zV} (hd : zdn y.2.1 pc pc' (.dup) 1) (k : zEv l X y d pc' lv (a :: a :: st) S mc ms r S') : zEv l X y d pc lv (a :: st) S mc ms r S' := by
  obtain ⟨hd, rfl⟩ := hd
  intro E G D p e R s m args below meth c H locs cells slots Q ls hB hW hS hL hc h1 h2 hk
  exact lv_dup hB.1 hB.2.1 hd (zcat E a) (k E G D p e R s m args below meth c H locs cells slots Q ls hB hW hS hL hc h1 h2 hk)
theorem ev_pop {a : zV} (hd : zdn y.2.1 pc pc' (.pop) 1) (k : zEv l X y d pc' lv st S mc ms r S') : zEv l X y d pc lv (a :: st) S mc ms r S' := by
  obtain ⟨hd, rfl⟩ := hd
  intro E G D p e R s m args below meth c H locs cells slots Q ls hB hW hS hL hc h1 h2 hk
  exact lv_pop hB.1 hB.2.1 hd (zcat E a) (k E G D p e R s m args below meth c H locs cells slots Q ls hB hW hS hL hc h1 h2 hk)
theorem ev_dup2 {a b : zV} (hd : zdn y.2.1 pc pc' (.dup2) 1) (k : zEv l X y d pc' lv (a :: b :: a :: b :: st) S mc ms r S') : zEv l X y d pc lv (a :: b :: st) S mc ms r S' := by
  obtain ⟨hd, rfl⟩ := hd
  intro E G D p e R s m args below meth c H locs cells slots Q ls hB hW hS hL hc h1 h2 hk
  exact lv_dup2_11 hB.1 hB.2.1 hd (zcat E a) (zcat E b) (k E G D p e R s m args below meth c H locs cells slots Q ls hB hW hS hL hc h1 h2 hk)
theorem ev_if_eq {tgt : Nat} {off : Int} {x : Int32} (hd : zbn y.2.1 pc pc' tgt (.ifCond .eq off) off) (kt : x = 0 → zEv l X y d tgt lv st S mc ms r S') (kf : ¬ x = 0 → zEv l X y d pc' lv st S mc ms r S') : zEv l X y d pc lv (.inl x :: st) S mc ms r S' := by
  obtain ⟨hd, rfl, ht⟩ := hd
  intro E G D p e R s m args below meth c H locs cells slots Q ls hB hW hS hL hc h1 h2 hk
  exact lv_if_eq hB.1 hB.2.1 hd ht (fun q => kt q E G D p e R s m args below meth c H locs cells slots Q ls hB hW hS hL hc h1 h2 hk) (fun q => kf q E G D p e R s m args below meth c H locs cells slots Q ls hB hW hS hL hc h1 h2 hk)
theorem ev_if_ne {tgt : Nat} {off : Int} {x : Int32} (hd : zbn y.2.1 pc pc' tgt (.ifCond .ne off) off) (kt : ¬ x = 0 → zEv l X y d tgt lv st S mc ms r S') (kf : x = 0 → zEv l X y d pc' lv st S mc ms r S') : zEv l X y d pc lv (.inl x :: st) S mc ms r S' := by
  obtain ⟨hd, rfl, ht⟩ := hd
  intro E G D p e R s m args below meth c H locs cells slots Q ls hB hW hS hL hc h1 h2 hk
  exact lv_if_ne hB.1 hB.2.1 hd ht (fun q => kt q E G D p e R s m args below meth c H locs cells slots Q ls hB hW hS hL hc h1 h2 hk) (fun q => kf q E G D p e R s m args below meth c H locs cells slots Q ls hB hW hS hL hc h1 h2 hk)
theorem ev_if_lt {tgt : Nat} {off : Int} {x : Int32} (hd : zbn y.2.1 pc pc' tgt (.ifCond .lt off) off) (kt : x < 0 → zEv l X y d tgt lv st S mc ms r S') (kf : ¬ x < 0 → zEv l X y d pc' lv st S mc ms r S') : zEv l X y d pc lv (.inl x :: st) S mc ms r S' := by
  obtain ⟨hd, rfl, ht⟩ := hd
  intro E G D p e R s m args below meth c H locs cells slots Q ls hB hW hS hL hc h1 h2 hk
  exact lv_if_lt hB.1 hB.2.1 hd ht (fun q => kt q E G D p e R s m args below meth c H locs cells slots Q ls hB hW hS hL hc h1 h2 hk) (fun q => kf q E G D p e R s m args below meth c H locs cells slots Q ls hB hW hS hL hc h1 h2 hk)
theorem ev_if_ge {tgt : Nat} {off : Int} {x : Int32} (hd : zbn y.2.1 pc pc' tgt (.ifCond .ge off) off) (kt : 0 ≤ x → zEv l X y d tgt lv st S mc ms r S') (kf : ¬ 0 ≤ x → zEv l X y d pc' lv st S mc ms r S') : zEv l X y d pc lv (.inl x :: st) S mc ms r S' := by
  obtain ⟨hd, rfl, ht⟩ := hd
  intro E G D p e R s m args below meth c H locs cells slots Q ls hB hW hS hL hc h1 h2 hk
  exact lv_if_ge hB.1 hB.2.1 hd ht (fun q => kt q E G D p e R s m args below meth c H locs cells slots Q ls hB hW hS hL hc h1 h2 hk) (fun q => kf q E G D p e R s m args below meth c H locs cells slots Q ls hB hW hS hL hc h1 h2 hk)
theorem ev_if_gt {tgt : Nat} {off : Int} {x : Int32} (hd : zbn y.2.1 pc pc' tgt (.ifCond .gt off) off) (kt : 0 < x → zEv l X y d tgt lv st S mc ms r S') (kf : ¬ 0 < x → zEv l X y d pc' lv st S mc ms r S') : zEv l X y d pc lv (.inl x :: st) S mc ms r S' := by
  obtain ⟨hd, rfl, ht⟩ := hd
  intro E G D p e R s m args below meth c H locs cells slots Q ls hB hW hS hL hc h1 h2 hk
  exact lv_if_gt hB.1 hB.2.1 hd ht (fun q => kt q E G D p e R s m args below meth c H locs cells slots Q ls hB hW hS hL hc h1 h2 hk) (fun q => kf q E G D p e R s m args below meth c H locs cells slots Q ls hB hW hS hL hc h1 h2 hk)
theorem ev_if_le {tgt : Nat} {off : Int} {x : Int32} (hd : zbn y.2.1 pc pc' tgt (.ifCond .le off) off) (kt : x ≤ 0 → zEv l X y d tgt lv st S mc ms r S') (kf : ¬ x ≤ 0 → zEv l X y d pc' lv st S mc ms r S') : zEv l X y d pc lv (.inl x :: st) S mc ms r S' := by
  obtain ⟨hd, rfl, ht⟩ := hd
  intro E G D p e R s m args below meth c H locs cells slots Q ls hB hW hS hL hc h1 h2 hk
  exact lv_if_le hB.1 hB.2.1 hd ht (fun q => kt q E G D p e R s m args below meth c H locs cells slots Q ls hB hW hS hL hc h1 h2 hk) (fun q => kf q E G D p e R s m args below meth c H locs cells slots Q ls hB hW hS hL hc h1 h2 hk)
theorem ev_icmp_eq {tgt : Nat} {off : Int} {x z : Int32} (hd : zbn y.2.1 pc pc' tgt (.if_icmp .eq off) off) (kt : x = z → zEv l X y d tgt lv st S mc ms r S') (kf : ¬ x = z → zEv l X y d pc' lv st S mc ms r S') : zEv l X y d pc lv (.inl z :: .inl x :: st) S mc ms r S' := by
  obtain ⟨hd, rfl, ht⟩ := hd
  intro E G D p e R s m args below meth c H locs cells slots Q ls hB hW hS hL hc h1 h2 hk
  exact lv_icmp_eq hB.1 hB.2.1 hd ht (fun q => kt q E G D p e R s m args below meth c H locs cells slots Q ls hB hW hS hL hc h1 h2 hk) (fun q => kf q E G D p e R s m args below meth c H locs cells slots Q ls hB hW hS hL hc h1 h2 hk)
theorem ev_icmp_ne {tgt : Nat} {off : Int} {x z : Int32} (hd : zbn y.2.1 pc pc' tgt (.if_icmp .ne off) off) (kt : ¬ x = z → zEv l X y d tgt lv st S mc ms r S') (kf : x = z → zEv l X y d pc' lv st S mc ms r S') : zEv l X y d pc lv (.inl z :: .inl x :: st) S mc ms r S' := by
  obtain ⟨hd, rfl, ht⟩ := hd
  intro E G D p e R s m args below meth c H locs cells slots Q ls hB hW hS hL hc h1 h2 hk
  exact lv_icmp_ne hB.1 hB.2.1 hd ht (fun q => kt q E G D p e R s m args below meth c H locs cells slots Q ls hB hW hS hL hc h1 h2 hk) (fun q => kf q E G D p e R s m args below meth c H locs cells slots Q ls hB hW hS hL hc h1 h2 hk)
theorem ev_icmp_lt {tgt : Nat} {off : Int} {x z : Int32} (hd : zbn y.2.1 pc pc' tgt (.if_icmp .lt off) off) (kt : x < z → zEv l X y d tgt lv st S mc ms r S') (kf : ¬ x < z → zEv l X y d pc' lv st S mc ms r S') : zEv l X y d pc lv (.inl z :: .inl x :: st) S mc ms r S' := by
  obtain ⟨hd, rfl, ht⟩ := hd
  intro E G D p e R s m args below meth c H locs cells slots Q ls hB hW hS hL hc h1 h2 hk
  exact lv_icmp_lt hB.1 hB.2.1 hd ht (fun q => kt q E G D p e R s m args below meth c H locs cells slots Q ls hB hW hS hL hc h1 h2 hk) (fun q => kf q E G D p e R s m args below meth c H locs cells slots Q ls hB hW hS hL hc h1 h2 hk)
theorem ev_icmp_ge {tgt : Nat} {off : Int} {x z : Int32} (hd : zbn y.2.1 pc pc' tgt (.if_icmp .ge off) off) (kt : z ≤ x → zEv l X y d tgt lv st S mc ms r S') (kf : ¬ z ≤ x → zEv l X y d pc' lv st S mc ms r S') : zEv l X y d pc lv (.inl z :: .inl x :: st) S mc ms r S' := by
  obtain ⟨hd, rfl, ht⟩ := hd
  intro E G D p e R s m args below meth c H locs cells slots Q ls hB hW hS hL hc h1 h2 hk
  exact lv_icmp_ge hB.1 hB.2.1 hd ht (fun q => kt q E G D p e R s m args below meth c H locs cells slots Q ls hB hW hS hL hc h1 h2 hk) (fun q => kf q E G D p e R s m args below meth c H locs cells slots Q ls hB hW hS hL hc h1 h2 hk)
theorem ev_icmp_gt {tgt : Nat} {off : Int} {x z : Int32} (hd : zbn y.2.1 pc pc' tgt (.if_icmp .gt off) off) (kt : z < x → zEv l X y d tgt lv st S mc ms r S') (kf : ¬ z < x → zEv l X y d pc' lv st S mc ms r S') : zEv l X y d pc lv (.inl z :: .inl x :: st) S mc ms r S' := by
  obtain ⟨hd, rfl, ht⟩ := hd
  intro E G D p e R s m args below meth c H locs cells slots Q ls hB hW hS hL hc h1 h2 hk
  exact lv_icmp_gt hB.1 hB.2.1 hd ht (fun q => kt q E G D p e R s m args below meth c H locs cells slots Q ls hB hW hS hL hc h1 h2 hk) (fun q => kf q E G D p e R s m args below meth c H locs cells slots Q ls hB hW hS hL hc h1 h2 hk)
theorem ev_icmp_le {tgt : Nat} {off : Int} {x z : Int32} (hd : zbn y.2.1 pc pc' tgt (.if_icmp .le off) off) (kt : x ≤ z → zEv l X y d tgt lv st S mc ms r S') (kf : ¬ x ≤ z → zEv l X y d pc' lv st S mc ms r S') : zEv l X y d pc lv (.inl z :: .inl x :: st) S mc ms r S' := by
  obtain ⟨hd, rfl, ht⟩ := hd
  intro E G D p e R s m args below meth c H locs cells slots Q ls hB hW hS hL hc h1 h2 hk
  exact lv_icmp_le hB.1 hB.2.1 hd ht (fun q => kt q E G D p e R s m args below meth c H locs cells slots Q ls hB hW hS hL hc h1 h2 hk) (fun q => kf q E G D p e R s m args below meth c H locs cells slots Q ls hB hW hS hL hc h1 h2 hk)
theorem ev_goto {tgt : Nat} {off : Int} (hd : zbn y.2.1 pc pc' tgt (.goto off) off) (k : zEv l X y d tgt lv st S mc ms r S') : zEv l X y d pc lv st S mc ms r S' := by
  obtain ⟨hd, -, ht⟩ := hd
  intro E G D p e R s m args below meth c H locs cells slots Q ls hB hW hS hL hc h1 h2 hk
  exact lv_goto hB.1 hB.2.1 hd ht (k E G D p e R s m args below meth c H locs cells slots Q ls hB hW hS hL hc h1 h2 hk)
theorem ev_ifnull {tgt q : Nat} {off : Int} (hd : zbn y.2.1 pc pc' tgt (.ifnull off) off) (k : zEv l X y d pc' lv st S mc ms r S') : zEv l X y d pc lv (.inr q :: st) S mc ms r S' := by
  obtain ⟨hd, rfl, -⟩ := hd
  intro E G D p e R s m args below meth c H locs cells slots Q ls hB hW hS hL hc h1 h2 hk
  exact lv_ifnull hB.1 hB.2.1 hd (k E G D p e R s m args below meth c H locs cells slots Q ls hB hW hS hL hc h1 h2 hk)
theorem ev_tabIn {dflt lo hi : Int} {offs : Array Int} {len tgt : Nat} {off : Int} {x : Int32} (hd : decode y.2.1 pc = .ok (.tableswitch dflt lo hi offs, len)) (h1 : ¬ x.toInt < lo) (h2 : ¬ hi < x.toInt) (ho : offs[(x.toInt - lo).toNat]? = some off) (ht : (pc : Int) + off = (tgt : Int)) (k : zEv l X y d tgt lv st S mc ms r S') : zEv l X y d pc lv (.inl x :: st) S mc ms r S' := by
  intro E G D p e R s m args below meth c H locs cells slots Q ls hB hW hS hL hc h3 h4 hk
  exact lv_tableIn hB.1 hB.2.1 hd h1 h2 ho ht (k E G D p e R s m args below meth c H locs cells slots Q ls hB hW hS hL hc h3 h4 hk)
theorem ev_tabOut {dflt lo hi : Int} {offs : Array Int} {len tgt : Nat} {x : Int32} (hd : decode y.2.1 pc = .ok (.tableswitch dflt lo hi offs, len)) (h : x.toInt < lo ∨ hi < x.toInt) (ht : (pc : Int) + dflt = (tgt : Int)) (k : zEv l X y d tgt lv st S mc ms r S') : zEv l X y d pc lv (.inl x :: st) S mc ms r S' := by
  intro E G D p e R s m args below meth c H locs cells slots Q ls hB hW hS hL hc h1 h2 hk
  exact lv_tableOut hB.1 hB.2.1 hd h ht (k E G D p e R s m args below meth c H locs cells slots Q ls hB hW hS hL hc h1 h2 hk)
theorem ev_loc {lv' : List (Nat × zV)} (hs : zsub lv lv') (k : zEv l X y d pc lv' st S mc ms r S') : zEv l X y d pc lv st S mc ms r S' := by
  intro E G D p e R s m args below meth c H locs cells slots Q ls hB hW hS hL hc h1 h2 hk
  exact k E G D p e R s m args below meth c H locs cells slots Q ls hB hW hS (hL.sub (zsub_get hs)) hc h1 h2 hk
theorem ev_iret {v : Int32} {ty : FieldType} (hd : zdn y.2.1 pc pc' (.ireturn) 1) (hr : y.2.2.2 = some ty) (hn : narrow ty (.int v) = .int v) : zEv l X y d pc lv [.inl v] S 0 0 (some (.inl v)) S := by
  obtain ⟨hd, -⟩ := hd
  intro E G D p e R s m args below meth c H locs cells slots Q ls hB hW hS hL hc h1 h2 hk
  exact hk pc ls H locs ⟨ty, hr, hn, hd⟩ hW hS hc
theorem ev_ireti {v v' : Int32} (hd : zdn y.2.1 pc pc' (.ireturn) 1) (hr : y.2.2.2 = some .int) (hv : v = v') (hS : S = S') : zEv l X y d pc lv [.inl v] S 0 0 (some (.inl v')) S' := by
  subst hv; subst hS
  exact ev_iret hd hr rfl
theorem ev_vret (hd : zdn y.2.1 pc pc' (.return_) 1) (hr : y.2.2.2 = none) (hS : S = S') : zEv l X y d pc lv [] S 0 0 none S' := by
  subst hS
  obtain ⟨hd, -⟩ := hd
  intro E G D p e R s m args below meth c H locs cells slots Q ls hB hW hS hL hc h1 h2 hk
  exact hk pc ls H locs ⟨hr, hd⟩ hW hS hc
theorem zlay {ci : Nat} {q : vw_C} (h : vwCl[ci]? = some q) : ∀ w ∈ u_ws q.1 q.2.1 q.2.2, w ∈ zTW := by
  match ci, h with
  | 0, h => cases h; exact zlay_X0
  | 1, h => cases h; exact zlay_X1
  | 2, h => cases h; exact zlay_X2
  | 3, h => cases h; exact zlay_X3
  | 4, h => cases h; exact zlay_X4
  | 5, h => cases h; exact zlay_X5
  | 6, h => cases h; exact zlay_X6
  | 7, h => cases h; exact zlay_X7
  | 8, h => cases h; exact zlay_X9
  | 9, h => cases h; exact zlay_X10
  | 10, h => cases h; exact zlay_X11
  | k + 11, h => simp at h
theorem znm {ci : Nat} {q : vw_C} (h : vwCl[ci]? = some q) : ∃ ty : Nat → FieldType, (∀ k, k < q.2.2 → parseFieldDescriptor (q.2.1 k).2.2.1 = some (ty k)) ∧ ∀ a, a < q.2.2 → ∀ b, b < q.2.2 → a ≠ b → (q.2.1 a).2.1 ≠ (q.2.1 b).2.1 := by
  match ci, h with
  | 0, h => cases h; exact ⟨_, tyX0_ok, nmX0⟩
  | 1, h => cases h; exact ⟨_, tyX1_ok, nmX1⟩
  | 2, h => cases h; exact ⟨_, tyX2_ok, nmX2⟩
  | 3, h => cases h; exact ⟨_, tyX3_ok, nmX3⟩
  | 4, h => cases h; exact ⟨_, tyX4_ok, nmX4⟩
  | 5, h => cases h; exact ⟨_, tyX5_ok, nmX5⟩
  | 6, h => cases h; exact ⟨_, tyX6_ok, nmX6⟩
  | 7, h => cases h; exact ⟨_, tyX7_ok, nmX7⟩
  | 8, h => cases h; exact ⟨_, tyX9_ok, nmX9⟩
  | 9, h => cases h; exact ⟨_, tyX10_ok, nmX10⟩
  | 10, h => cases h; exact ⟨_, tyX11_ok, nmX11⟩
  | k + 11, h => simp at h
theorem zfe_get (E : zE) (f : Nat → Int32) : ∀ (fs : List (Option (Option Nat))) (j k : Nat), (zfe E f j fs)[k]? = (fs[k]?).map (fun x => match x with | none => Value.int (f (j + k)) | some none => .null | some (some r) => .ref (zad E r))
  | [], j, k => by simp [zfe]
  | x :: xs, j, 0 => by rcases x with _ | _ | r <;> simp [zfe]
  | x :: xs, j, k + 1 => by
    simp only [zfe, List.getElem?_cons_succ]
    rw [zfe_get E f xs (j + 1) k]
    congr 1
    funext z
    rw [show j + 1 + k = j + (k + 1) by omega]
theorem zfe_len (E : zE) (f : Nat → Int32) : ∀ (fs : List (Option (Option Nat))) (j : Nat), (zfe E f j fs).length = fs.length
  | [], j => rfl
  | x :: xs, j => by simp [zfe, zfe_len E f xs (j + 1)]
theorem zfe_setI (E : zE) (f : Nat → Int32) (fs : List (Option (Option Nat))) (k : Nat) (x : Int32) (h : fs[k]? = some none) : (zfe E f 0 fs).set k (.int x) = zfe E (upd f k x) 0 fs := by
  apply List.ext_getElem?
  intro i
  by_cases hi : i = k
  · subst hi
    rw [List.getElem?_set_self (by rw [zfe_len]; exact (List.getElem?_eq_some_iff.mp h).1), zfe_get, h]
    simp [upd]
  · rw [List.getElem?_set_ne (Ne.symm hi), zfe_get, zfe_get]
    congr 1
    funext z
    simp [upd, hi]
theorem zfe_setR (E : zE) (f : Nat → Int32) (fs : List (Option (Option Nat))) (k r : Nat) (h : k < fs.length) : (zfe E f 0 fs).set k (.ref (zad E r)) = zfe E f 0 (fs.set k (some (some r))) := by
  apply List.ext_getElem?
  intro i
  by_cases hi : i = k
  · subst hi
    rw [List.getElem?_set_self (by rw [zfe_len]; exact h), zfe_get, List.getElem?_set_self h]
    rfl
  · rw [List.getElem?_set_ne (Ne.symm hi), zfe_get, zfe_get, List.getElem?_set_ne (Ne.symm hi)]
theorem zhs_id (h : zH) (k : Nat) : zhs h k (h k) = h := by
  funext a
  by_cases ha : a = k
  · subst ha; exact zhs_s _ _ _
  · exact zhs_n _ _ ha
/-- field kk of class ci: an int that is not final -/
def zFN (ci kk : Nat) : Prop := ∀ q : vw_C, vwCl[ci]? = some q → (q.2.1 kk).2.2.2 = false ∧ parseFieldDescriptor (q.2.1 kk).2.2.1 = some .int
/-- field kk of class ci: a reference, final, of the class own -/
def zFR (own : String) (ci kk : Nat) : Prop := ∀ q : vw_C, vwCl[ci]? = some q → (q.2.1 kk).2.2.2 = true ∧ (q.2.1 kk).1 = own ∧ ∃ ty, parseFieldDescriptor (q.2.1 kk).2.2.1 = some ty ∧ ∀ a : Nat, narrow ty (.ref a) = .ref a ∧ fits ty (.ref a) = true
theorem ev_getI {o ci kk idx : Nat} {fs : List (Option (Option Nat))} (hd : zdn y.2.1 pc pc' (.getfield idx) 3) (hf : zFL y.1.cls idx ci kk) (ho : S.1[o]? = some (.inr (.inr (ci, fs)))) (hx : fs[kk]? = some none) (k : zEv l X y d pc' lv (.inl (S.2 o kk) :: st) S mc ms r S') : zEv l X y d pc lv (.inr o :: st) S mc ms r S' := by
  obtain ⟨hd, rfl⟩ := hd
  intro E G D p e R s m args below meth c H locs cells slots Q ls hB hW hS hL hc h1 h2 hk
  obtain ⟨q, hq, hkn, hw⟩ := hf
  show W p l e R s m args below meth c H locs cells slots Q (F0 m pc ls (.ref (zad E o) :: st.map (zem E)))
  rw [zad_lo (hW.lt ho)]
  exact va_get (ref := (q.2.1 kk).1) (v := .int (S.2 o kk)) hB.1 hB.2.1 hB.2.2.2.2.1 (zlay hq) hB.2.2.2.1 hB.2.2.2.2.2.1.1 hW.1 o (zwl_at ho) hq kk hkn (hB.2.2.2.2.1 _ hw) (fun _ h => h) (by rw [zfe_get, hx]; simp) hd (k E G D p e R s m args below meth c H locs cells slots Q ls hB hW hS hL hc h1 h2 hk)
theorem ev_getR {o ci kk idx q0 : Nat} {fs : List (Option (Option Nat))} (hd : zdn y.2.1 pc pc' (.getfield idx) 3) (hf : zFL y.1.cls idx ci kk) (ho : S.1[o]? = some (.inr (.inr (ci, fs)))) (hx : fs[kk]? = some (some (some q0))) (k : zEv l X y d pc' lv (.inr q0 :: st) S mc ms r S') : zEv l X y d pc lv (.inr o :: st) S mc ms r S' := by
  obtain ⟨hd, rfl⟩ := hd
  intro E G D p e R s m args below meth c H locs cells slots Q ls hB hW hS hL hc h1 h2 hk
  obtain ⟨q, hq, hkn, hw⟩ := hf
  show W p l e R s m args below meth c H locs cells slots Q (F0 m pc ls (.ref (zad E o) :: st.map (zem E)))
  rw [zad_lo (hW.lt ho)]
  exact va_get (ref := (q.2.1 kk).1) (v := .ref (zad E q0)) hB.1 hB.2.1 hB.2.2.2.2.1 (zlay hq) hB.2.2.2.1 hB.2.2.2.2.2.1.1 hW.1 o (zwl_at ho) hq kk hkn (hB.2.2.2.2.1 _ hw) (fun _ h => h) (by rw [zfe_get, hx]; simp) hd (k E G D p e R s m args below meth c H locs cells slots Q ls hB hW hS hL hc h1 h2 hk)
theorem ev_putI {o ci kk idx : Nat} {x : Int32} {fs : List (Option (Option Nat))} (hd : zdn y.2.1 pc pc' (.putfield idx) 3) (hf : zFL y.1.cls idx ci kk) (hn : zFN ci kk) (ho : S.1[o]? = some (.inr (.inr (ci, fs)))) (hx : fs[kk]? = some none) (k : zEv l X y d pc' lv st (S.1, zhs S.2 o (upd (S.2 o) kk x)) mc ms r S') : zEv l X y d pc lv (.inl x :: .inr o :: st) S mc ms r S' := by
  obtain ⟨hd, rfl⟩ := hd
  intro E G D p e R s m args below meth c H locs cells slots Q ls hB hW hS hL hc h1 h2 hk
  obtain ⟨q, hq, hkn, hw⟩ := hf
  obtain ⟨hfin, hty⟩ := hn q hq
  obtain ⟨ty0, ht0, hnm⟩ := znm hq
  show W p l e R s m args below meth c H locs cells slots Q (F0 m pc ls (.int x :: .ref (zad E o) :: st.map (zem E)))
  rw [zad_lo (hW.lt ho)]
  refine va_put (ref := (q.2.1 kk).1) (v := .int x) (ty := .int) hB.1 hB.2.1 hB.2.2.2.2.1 (zlay hq) ty0 ht0 hnm hB.2.2.2.1 hB.2.2.2.2.2.1.1 hW.1 zwl_D hS o (zwl_at ho) hq kk hkn (hB.2.2.2.2.1 _ hw) (fun _ h => h) hfin hty rfl rfl (by rw [zfe_len]; exact (List.getElem?_eq_some_iff.mp hx).1) hd (fun H1 locs1 hP _ hS1 => ?_)
  rw [zfe_setI E _ fs kk x hx] at hP
  have hW1 := hW.to (c' := .inr (.inr (ci, fs))) (f := upd (S.2 o) kk x) ho hP
  rw [zset_same ho] at hW1
  exact k E G D p e R s m args below meth c H1 locs1 cells slots Q ls hB hW1 hS1 hL hc h1 h2 hk
theorem ev_putR {o ci kk idx q0 : Nat} {fs : List (Option (Option Nat))} (hd : zdn y.2.1 pc pc' (.putfield idx) 3) (hf : zFL y.1.cls idx ci kk) (hi : y.1.name = "<init>") (hn : zFR y.1.cls ci kk) (ho : S.1[o]? = some (.inr (.inr (ci, fs)))) (hx : kk < fs.length) (k : zEv l X y d pc' lv st (S.1.set o (.inr (.inr (ci, fs.set kk (some (some q0))))), S.2) mc ms r S') : zEv l X y d pc lv (.inr q0 :: .inr o :: st) S mc ms r S' := by
  obtain ⟨hd, rfl⟩ := hd
  intro E G D p e R s m args below meth c H locs cells slots Q ls hB hW hS hL hc h1 h2 hk
  obtain ⟨q, hq, hkn, hw⟩ := hf
  obtain ⟨hfin, hdecl, ty, hty, hnf⟩ := hn q hq
  obtain ⟨ty0, ht0, hnm⟩ := znm hq
  show W p l e R s m args below meth c H locs cells slots Q (F0 m pc ls (.ref (zad E q0) :: .ref (zad E o) :: st.map (zem E)))
  rw [zad_lo (k := o) (hW.lt ho)]
  refine va_putF (ref := (q.2.1 kk).1) (v := .ref (zad E q0)) (ty := ty) hB.1 hB.2.1 hB.2.2.2.2.1 (zlay hq) ty0 ht0 hnm hB.2.2.2.1 hB.2.2.2.2.2.1.1 hW.1 zwl_D hS o (zwl_at ho) hq kk hkn (hB.2.2.2.2.1 _ hw) (fun _ h => h) hfin (hB.2.2.2.2.2.2.1 hi) hdecl hty (hnf _).1 (hnf _).2 (by rw [zfe_len]; exact hx) hd (fun H1 locs1 hP _ hS1 => ?_)
  rw [zfe_setR E _ fs kk q0 hx] at hP
  have hW1 := hW.to (c' := .inr (.inr (ci, fs.set kk (some (some q0))))) (f := S.2 o) ho hP
  rw [zhs_id] at hW1
  exact k E G D p e R s m args below meth c H1 locs1 cells slots Q ls hB hW1 hS1 hL (by simpa using hc) h1 h2 hk
end ZR
