theorem ws_cl {args : Array Value} {s : State} (hts : ∀ w ∈ zTW, w.before args s = true) {own : String} {idx ci : Nat} (h : zNC own idx ci) : ∃ P : ClassId × (Nat → Nat), ∀ q : vw_C, vwCl[ci]? = some q → u_Kn s q.1 q.2.1 q.2.2 P.1 P.2 := by
  obtain ⟨q, hq, -, hi, -⟩ := h
  obtain ⟨cC, iS, hk⟩ := u_known (ws := zTW) hts (zlay hq) (hts _ hi)
  refine ⟨(cC, iS), fun q' hq' => ?_⟩
  cases hq.symm.trans hq'
  exact hk
theorem ws_D {args : Array Value} {s : State} (hts : ∀ w ∈ zTW, w.before args s = true) : ∃ D : va_G, ∀ (c : Nat) (q : vw_C), vwCl[c]? = some q → u_Kn s q.1 q.2.1 q.2.2 (D.1 c) (D.2 c) := by
  have h : ∀ c : Nat, ∃ P : ClassId × (Nat → Nat), ∀ q : vw_C, vwCl[c]? = some q → u_Kn s q.1 q.2.1 q.2.2 P.1 P.2 := by
    intro c
    match c with
    | 0 => exact ws_cl hts nc_X10_54
    | 1 => exact ws_cl hts nc_X9_18
    | 2 => exact ws_cl hts nc_X9_25
    | 3 => exact ws_cl hts nc_X9_9
    | 4 => exact ws_cl hts nc_X10_7
    | 5 => exact ws_cl hts nc_X10_40
    | 6 => exact ws_cl hts nc_X10_16
    | 7 => exact ws_cl hts nc_X10_67
    | 8 => exact ws_cl hts nc_X10_23
    | 9 => exact ws_cl hts nc_L_7
    | 10 => exact ws_cl hts nc_L_10
    | k + 11 => exact ⟨(0, fun _ => 0), fun q hq => by simp [vwCl] at hq⟩
  obtain ⟨f, hf⟩ := Classical.axiomOfChoice h
  exact ⟨(fun c => (f c).1, fun c => (f c).2), hf⟩
theorem ws_arr {args : Array Value} {s : State} {ty : FieldType} (h : (Cond.arrayClass ty).before args s = true) : ∃ c : ClassId, ArrOfT s c ty ∧ s.vm.findClass ("[" ++ ty.toString) = some c := by
  obtain ⟨c, k, comp, h1, h2, h3⟩ := Cond.arrayClass_spec h
  exact ⟨c, fun n z => ⟨fun i h => (by cases h), k, h2, comp, h3⟩, h1⟩
theorem ws_E {args : Array Value} {s : State} (X : zX) (hgv : (Jvm.Cond.and given_1 narrow_1).before args s = true) (hts : ∀ w ∈ lw_tbl, w.before args s = true) : ∃ g : Nat → Nat, ∀ j : Nat, j < 6 → va_Z (zSt j).1 (zSt j).2 "[I" (.ref (g j)) (fun q => s.heap.size ≤ q) s s.heap ∧ va_T .int (g j) (zxl X j) (fun i => .int (zxc X j i)) (fun q => s.heap.size ≤ q) s s.heap := by
  have hA : ∀ a : Nat, a < s.heap.size → ¬ (fun q => s.heap.size ≤ q) a := fun a ha h => absurd ha (Nat.not_lt.mpr h)
  have h : ∀ j : Nat, ∃ t : Nat, j < 6 → va_Z (zSt j).1 (zSt j).2 "[I" (.ref t) (fun q => s.heap.size ≤ q) s s.heap ∧ va_T .int t (zxl X j) (fun i => .int (zxc X j i)) (fun q => s.heap.size ≤ q) s s.heap := by
    intro j
    match j with
    | 0 => obtain ⟨t, h1, h2⟩ := ws_t0 (X := X) hgv hA; exact ⟨t, fun _ => ⟨ws_z0 hts hA h1, h2⟩⟩
    | 1 => obtain ⟨t, h1, h2⟩ := ws_t1 (X := X) hgv hA; exact ⟨t, fun _ => ⟨ws_z1 hts hA h1, h2⟩⟩
    | 2 => obtain ⟨t, h1, h2⟩ := ws_t2 (X := X) hgv hA; exact ⟨t, fun _ => ⟨ws_z2 hts hA h1, h2⟩⟩
    | 3 => obtain ⟨t, h1, h2⟩ := ws_t3 (X := X) hgv hA; exact ⟨t, fun _ => ⟨ws_z3 hts hA h1, h2⟩⟩
    | 4 => obtain ⟨t, h1, h2⟩ := ws_t4 (X := X) hgv hA; exact ⟨t, fun _ => ⟨ws_z4 hts hA h1, h2⟩⟩
    | 5 => obtain ⟨t, h1, h2⟩ := ws_t5 (X := X) hgv hA; exact ⟨t, fun _ => ⟨ws_z5 hts hA h1, h2⟩⟩
    | k + 6 => exact ⟨0, fun h => absurd h (by omega)⟩
  obtain ⟨f, hf⟩ := Classical.axiomOfChoice h
  exact ⟨f, hf⟩
theorem ws_XT {args : Array Value} {s : State} {b L : Nat} {xs : Nat → Int32} (hgv : (Jvm.Cond.and given_1 narrow_1).before args s = true) (hts : ∀ w ∈ lw_tbl, w.before args s = true) (hX : va_X b L xs s s.heap) (hbl : b < s.heap.size) : ∃ E : zE, E.1 = s.heap.size ∧ E.2 6 = b ∧ zXT E (L, xs) s := by
  obtain ⟨g, hg⟩ := ws_E (L, xs) hgv hts
  refine ⟨(s.heap.size, fun j => if j < 6 then g j else b), rfl, rfl, fun j hj => ?_, fun j hj => ?_⟩
  · show va_Z _ _ _ (.ref (if j < 6 then g j else b)) _ _ _
    rw [if_pos hj]
    exact (hg j hj).1
  · show va_T .int (if j < 6 then g j else b) _ _ _ _ _
    by_cases h : j < 6
    · rw [if_pos h]
      exact (hg j h).2
    · rw [if_neg h]
      have h6 : j = 6 := by omega
      subst h6
      obtain ⟨scr, x1, x2, x3, x4, x5⟩ := hX
      exact ⟨scr, x1, x2, x3, Nat.le_of_eq x4.symm, by rw [x4]; rfl, x5, Nat.not_le.mpr hbl⟩
theorem ws_K {args : Array Value} {s : State} {X : zX} {E : zE} (hts : ∀ w ∈ lw_tbl, w.before args s = true) (hE : E.1 = s.heap.size) (hXT : zXT E X s) : ∃ (G : zG) (D : va_G), zK E X G D s := by
  have htw : ∀ w ∈ zTW, w.before args s = true := fun w hw => hts w (zw_good hw).1
  obtain ⟨D, hD⟩ := ws_D htw
  obtain ⟨cI, hI, hI'⟩ := ws_arr (htw _ zw_arrI)
  obtain ⟨cZ, hZ, hZ'⟩ := ws_arr (htw _ zw_arrZ)
  obtain ⟨comp, cQ, kQ, q1, q2, q3, q4, q5⟩ := Cond.arrayOver_spec (hts _ zw_over)
  refine ⟨(cI, cZ, cQ), D, ⟨hD, fun k q hq => ?_⟩, fun w hw => ?_, va_AO.of (hts _ zw_over), hXT, Nat.le_of_eq hE⟩
  · match k with
    | 0 => cases hq; exact ⟨hI, hI'⟩
    | 1 => cases hq; exact ⟨hZ, hZ'⟩
    | 2 => cases hq; exact ⟨fun n z => ⟨fun i h => (by cases h), kQ, q3, comp, q4⟩, kQ, comp, q3, q4, q1, q5⟩
    | k + 3 => simp [zty] at hq
  · simp only [zNW, List.mem_cons, List.not_mem_nil, or_false] at hw
    rcases hw with rfl | rfl | rfl | rfl | rfl
    · exact va_Nw.of rfl (hts _ zw_nest0)
    · exact va_Nw.of rfl (hts _ zw_nest1)
    · exact va_Nw.of rfl (hts _ zw_nest2)
    · exact va_Nw.of rfl (hts _ zw_nest3)
    · exact va_Nw.of rfl (hts _ zw_nest4)
theorem ws_mu (X : zX) : ∃ μ : zH, ∀ j : Nat, μ (1000 + j) = zxc X j := ⟨fun k => zxc X (Nat.sub k 1000), fun j => by
  have e : Nat.sub (1000 + j) 1000 = j := Nat.add_sub_cancel_left 1000 j
  simp only [e]⟩
theorem whole_start {p : Program} {e : Env} {s : State} {m : MethodId} {below : List Frame} {meth : Method} {c : Code} (l : Launch) (hflags : l.flags = flags0) {b L : Nat} {xs : Nat → Int32} (hL : L ≤ 2560) (C0 : lw_At p s m meth c b L xs) : W p l e room_1 s m #[Value.ref b] below meth c s.heap [] 0 0 (lw_Z below #[Value.ref b] s) (entryFrame m ([Value.ref b] : List Value).toArray 4) := by
  obtain ⟨hx, hb, hr, hml, hown, hts, hX, hbl, hlocks, hgv⟩ := id C0
  obtain ⟨E, hE1, hE6, hXT⟩ := ws_XT hgv hts hX hbl
  obtain ⟨G, D, hK⟩ := ws_K hts hE1 hXT
  have htw : ∀ w ∈ zTW, w.before #[Value.ref b] s = true := fun w hw => hts w (zw_good hw).1
  have hB : zB E (L, xs) G D p room_1 s m #[Value.ref b] meth c mi_L 31 := ⟨hx, hb, hml, hown, htw, hK, fun h => absurd h (by decide), by decide, by decide⟩
  obtain ⟨μ, hμ⟩ := ws_mu (L, xs)
  have hW : zW E (L, xs) G D ([], μ) s.heap := ⟨fun k q h => by simp [zwl] at h, Nat.zero_le _, fun j _ => hμ j⟩
  have hle := lv_entry ([(.inr 1006 : zV)].map (zem E)) (n := 4) (by rw [zlgsl]; decide)
  have hLc : zL E _ 4 [(0, .inr 1006)] := ⟨hle.1, hle.2.1, fun i v hv => hle.2.2 _ (zent_in E [.inr 1006] 0 i v hv)⟩
  have ea : [(.inr 1006 : zV)].map (zem E) = [Value.ref b] := by
    show [Value.ref (E.2 6)] = _
    rw [hE6]
  rw [ea] at hLc
  rw [lg_entry_eq]
  obtain ⟨S', hS', hev⟩ := law_ev (l := l) (X := (L, xs)) (μ := μ) hL
  refine hev E G D p e room_1 s m #[Value.ref b] below meth c s.heap [] 0 0 _ _ hB hW va_S.rf hLc (by rw [hE1]; rfl) (Nat.le_of_ble_eq_true rfl) (Nat.le_of_ble_eq_true rfl) ?_
  intro pc' ls' H' locs' hRt hW' hS'' hc'
  obtain ⟨ty, h1, h2, h3⟩ := hRt
  refine va_forget (fun q hq => by rw [← hE1]; exact hS''.2.2 q hq) ?_
  refine W.widen (k := 600000) (n := 7302250) (Nat.le_of_ble_eq_true rfl) (Nat.le_of_ble_eq_true rfl) ?_
  exact lw_ret hx hb hr hlocks h3
