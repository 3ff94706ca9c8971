/-! THE CLAIM OUT OF ONE WALK OF THE LAW'S BODY. Your part is whole_start (and what it stands on); all else here is the same for every law, but numbers. -/
def R_law : String := "PraiseDuelsLaw"
def lw_P (b : Addr) (xs : List Int32) (args : Array Value) (s : State) : Prop := args = #[.ref b] ∧ s.IntsAt b xs ∧ xs.length ≤ 2560 ∧ (Jvm.Cond.and given_1 narrow_1).before args s = true
def lw_Q (_ : Array Value) (s : State) (o : Outcome) (t : State) : Prop := o = .returned (some (.int 1)) ∧ Framed s o t [] 600000 7302250
def lw_Z (below : List Frame) (a : Array Value) (s : State) : State → Prop := fun t => ∃ o, t.status = .running ∧ Ended t below o ∧ lw_Q a s o t
/-- the law's own end, with 1 on the stack, nothing written that was there before, its room as the claim has it -/
theorem lw_ret {p : Program} {l : Launch} {e : Env} {s : State} {m : MethodId} {below : List Frame} {meth : Method} {c : Code} {b : Nat} (hx : p.tables.exec = Jvm.exec) (hb : c.code = code) (hr : meth.sig.returnType = ret) (hlocks : meth.locks = false) {pc : Nat} {H : Heap} {ls : Array Slot} (hdg : decode code pc = .ok (.ireturn, 1)) : W p l e room_1 s m #[Value.ref b] below meth c H [] 600000 7302250 (lw_Z below #[Value.ref b] s) (F0 m pc ls [.int 1]) := by
  intro T hT X
  obtain ⟨fs, hret, hrun, hended, hW, hframe⟩ := X.leave (v := some (.int 1)) (hlocks := hlocks) (fun h => by rw [hr] at h; cases h)
  have hmeth' : T.vm.method? m = some meth := X.method'
  refine ⟨T.setFrames fs, ?_, .returned (some (.int 1)), hrun, hended, rfl, ⟨_, rfl⟩, hW, hframe⟩
  jvm_step X.here [X.here.top, hx, hb, hdg, hmeth', hr, ret, narrow_b1]
  (try refine ⟨rfl, ?_⟩); (try refine ⟨rfl, ?_⟩)
  first | (intro acts; rw [hret _ acts rfl rfl rfl]) | rw [hret _ _ rfl rfl rfl]
  exact Steps.refl _
/-- what holds at the law's entry: the machine, the code, the tables' words (any of lw_tbl by 'hts w (by decide +kernel)'), the script of L ints xs at the cell b, what the Statement gives of the start (any of its parts by flat_of_before) -/
def lw_At (p : Program) (s : State) (m : MethodId) (meth : Method) (c : Code) (b L : Nat) (xs : Nat → Int32) : Prop :=
  p.tables.exec = Jvm.exec ∧ c.code = code ∧ meth.sig.returnType = ret ∧ c.maxLocals = 4 ∧ s.vm.findClass R_law = some m.cls ∧ (∀ w ∈ lw_tbl, w.before #[Value.ref b] s = true) ∧ va_X b L xs s s.heap ∧ b < s.heap.size ∧ meth.locks = false ∧ (Jvm.Cond.and given_1 narrow_1).before #[Value.ref b] s = true

theorem ws_t0 {args : Array Value} {s : State} {X : zX} {A : Nat → Prop} (hgv : (Jvm.Cond.and given_1 narrow_1).before args s = true) (hA : ∀ a : Nat, a < s.heap.size → ¬ A a) : ∃ t : Nat, (Term.static (zSt 0).1 (zSt 0).2 "[I").eval args s none [] s = some (.ref t) ∧ va_T .int t (zxl X 0) (fun i => .int (zxc X 0 i)) A s s.heap := by
  have hs := flat_of_before _ hgv
  refine va_Tof (tm := .static "PraiseDuels$Reader" "TRAIT_LEAST" "[I") (ty := .int) (N := 6) (f := fun i => .int (zxc X 0 i)) (by decide) (hs _ (by decide +kernel)) (va_eqt (hs (Cond.eq (.length (.static "PraiseDuels$Reader" "TRAIT_LEAST" "[I")) (.int 6)) (by decide +kernel))) (fun i hi => ?_) hA
  match i, hi with
  | 0, _ => exact va_eqt (hs (Cond.eq (.elem (.static "PraiseDuels$Reader" "TRAIT_LEAST" "[I") (.int 0)) (.int 1)) (by decide +kernel))
  | 1, _ => exact va_eqt (hs (Cond.eq (.elem (.static "PraiseDuels$Reader" "TRAIT_LEAST" "[I") (.int 1)) (.int 0)) (by decide +kernel))
  | 2, _ => exact va_eqt (hs (Cond.eq (.elem (.static "PraiseDuels$Reader" "TRAIT_LEAST" "[I") (.int 2)) (.int 0)) (by decide +kernel))
  | 3, _ => exact va_eqt (hs (Cond.eq (.elem (.static "PraiseDuels$Reader" "TRAIT_LEAST" "[I") (.int 3)) (.int 0)) (by decide +kernel))
  | 4, _ => exact va_eqt (hs (Cond.eq (.elem (.static "PraiseDuels$Reader" "TRAIT_LEAST" "[I") (.int 4)) (.int 0)) (by decide +kernel))
  | 5, _ => exact va_eqt (hs (Cond.eq (.elem (.static "PraiseDuels$Reader" "TRAIT_LEAST" "[I") (.int 5)) (.int 0)) (by decide +kernel))
  | k + 6, h => exact absurd h (by omega)
theorem ws_z0 {args : Array Value} {s : State} {A : Nat → Prop} {t : Nat} (hts : ∀ w ∈ lw_tbl, w.before args s = true) (hA : ∀ a : Nat, a < s.heap.size → ¬ A a) (hv : (Term.static (zSt 0).1 (zSt 0).2 "[I").eval args s none [] s = some (.ref t)) : va_Z (zSt 0).1 (zSt 0).2 "[I" (.ref t) A s s.heap :=
  va_Zof (C := "PraiseDuels$Reader") (n := "TRAIT_LEAST") (hts (Cond.laysStatic "PraiseDuels$Reader" "TRAIT_LEAST" "[I") (List.mem_append_right _ (List.mem_of_getElem? (i := 355) (by decide +kernel)))) (hts _ (zw_good (mo_X6_init).1.1).1) hv hA
theorem ws_t1 {args : Array Value} {s : State} {X : zX} {A : Nat → Prop} (hgv : (Jvm.Cond.and given_1 narrow_1).before args s = true) (hA : ∀ a : Nat, a < s.heap.size → ¬ A a) : ∃ t : Nat, (Term.static (zSt 1).1 (zSt 1).2 "[I").eval args s none [] s = some (.ref t) ∧ va_T .int t (zxl X 1) (fun i => .int (zxc X 1 i)) A s s.heap := by
  have hs := flat_of_before _ hgv
  refine va_Tof (tm := .static "PraiseDuels$Reader" "TRAIT_MOST" "[I") (ty := .int) (N := 6) (f := fun i => .int (zxc X 1 i)) (by decide) (hs _ (by decide +kernel)) (va_eqt (hs (Cond.eq (.length (.static "PraiseDuels$Reader" "TRAIT_MOST" "[I")) (.int 6)) (by decide +kernel))) (fun i hi => ?_) hA
  match i, hi with
  | 0, _ => exact va_eqt (hs (Cond.eq (.elem (.static "PraiseDuels$Reader" "TRAIT_MOST" "[I") (.int 0)) (.int 999)) (by decide +kernel))
  | 1, _ => exact va_eqt (hs (Cond.eq (.elem (.static "PraiseDuels$Reader" "TRAIT_MOST" "[I") (.int 1)) (.int 99)) (by decide +kernel))
  | 2, _ => exact va_eqt (hs (Cond.eq (.elem (.static "PraiseDuels$Reader" "TRAIT_MOST" "[I") (.int 2)) (.int 9)) (by decide +kernel))
  | 3, _ => exact va_eqt (hs (Cond.eq (.elem (.static "PraiseDuels$Reader" "TRAIT_MOST" "[I") (.int 3)) (.int 9)) (by decide +kernel))
  | 4, _ => exact va_eqt (hs (Cond.eq (.elem (.static "PraiseDuels$Reader" "TRAIT_MOST" "[I") (.int 4)) (.int 9)) (by decide +kernel))
  | 5, _ => exact va_eqt (hs (Cond.eq (.elem (.static "PraiseDuels$Reader" "TRAIT_MOST" "[I") (.int 5)) (.int 9)) (by decide +kernel))
  | k + 6, h => exact absurd h (by omega)
theorem ws_z1 {args : Array Value} {s : State} {A : Nat → Prop} {t : Nat} (hts : ∀ w ∈ lw_tbl, w.before args s = true) (hA : ∀ a : Nat, a < s.heap.size → ¬ A a) (hv : (Term.static (zSt 1).1 (zSt 1).2 "[I").eval args s none [] s = some (.ref t)) : va_Z (zSt 1).1 (zSt 1).2 "[I" (.ref t) A s s.heap :=
  va_Zof (C := "PraiseDuels$Reader") (n := "TRAIT_MOST") (hts (Cond.laysStatic "PraiseDuels$Reader" "TRAIT_MOST" "[I") (List.mem_append_right _ (List.mem_of_getElem? (i := 357) (by decide +kernel)))) (hts _ (zw_good (mo_X6_init).1.1).1) hv hA
theorem ws_t2 {args : Array Value} {s : State} {X : zX} {A : Nat → Prop} (hgv : (Jvm.Cond.and given_1 narrow_1).before args s = true) (hA : ∀ a : Nat, a < s.heap.size → ¬ A a) : ∃ t : Nat, (Term.static (zSt 2).1 (zSt 2).2 "[I").eval args s none [] s = some (.ref t) ∧ va_T .int t (zxl X 2) (fun i => .int (zxc X 2 i)) A s s.heap := by
  have hs := flat_of_before _ hgv
  refine va_Tof (tm := .static "PraiseDuels$Reader" "PART_LEAST" "[I") (ty := .int) (N := 5) (f := fun i => .int (zxc X 2 i)) (by decide) (hs _ (by decide +kernel)) (va_eqt (hs (Cond.eq (.length (.static "PraiseDuels$Reader" "PART_LEAST" "[I")) (.int 5)) (by decide +kernel))) (fun i hi => ?_) hA
  match i, hi with
  | 0, _ => exact va_eqt (hs (Cond.eq (.elem (.static "PraiseDuels$Reader" "PART_LEAST" "[I") (.int 0)) (.int 0)) (by decide +kernel))
  | 1, _ => exact va_eqt (hs (Cond.eq (.elem (.static "PraiseDuels$Reader" "PART_LEAST" "[I") (.int 1)) (.int 1)) (by decide +kernel))
  | 2, _ => exact va_eqt (hs (Cond.eq (.elem (.static "PraiseDuels$Reader" "PART_LEAST" "[I") (.int 2)) (.int 1)) (by decide +kernel))
  | 3, _ => exact va_eqt (hs (Cond.eq (.elem (.static "PraiseDuels$Reader" "PART_LEAST" "[I") (.int 3)) (.int 0)) (by decide +kernel))
  | 4, _ => exact va_eqt (hs (Cond.eq (.elem (.static "PraiseDuels$Reader" "PART_LEAST" "[I") (.int 4)) (.int 0)) (by decide +kernel))
  | k + 5, h => exact absurd h (by omega)
theorem ws_z2 {args : Array Value} {s : State} {A : Nat → Prop} {t : Nat} (hts : ∀ w ∈ lw_tbl, w.before args s = true) (hA : ∀ a : Nat, a < s.heap.size → ¬ A a) (hv : (Term.static (zSt 2).1 (zSt 2).2 "[I").eval args s none [] s = some (.ref t)) : va_Z (zSt 2).1 (zSt 2).2 "[I" (.ref t) A s s.heap :=
  va_Zof (C := "PraiseDuels$Reader") (n := "PART_LEAST") (hts (Cond.laysStatic "PraiseDuels$Reader" "PART_LEAST" "[I") (List.mem_append_right _ (List.mem_of_getElem? (i := 371) (by decide +kernel)))) (hts _ (zw_good (mo_X6_init).1.1).1) hv hA
theorem ws_t3 {args : Array Value} {s : State} {X : zX} {A : Nat → Prop} (hgv : (Jvm.Cond.and given_1 narrow_1).before args s = true) (hA : ∀ a : Nat, a < s.heap.size → ¬ A a) : ∃ t : Nat, (Term.static (zSt 3).1 (zSt 3).2 "[I").eval args s none [] s = some (.ref t) ∧ va_T .int t (zxl X 3) (fun i => .int (zxc X 3 i)) A s s.heap := by
  have hs := flat_of_before _ hgv
  refine va_Tof (tm := .static "PraiseDuels$Reader" "PART_MOST" "[I") (ty := .int) (N := 5) (f := fun i => .int (zxc X 3 i)) (by decide) (hs _ (by decide +kernel)) (va_eqt (hs (Cond.eq (.length (.static "PraiseDuels$Reader" "PART_MOST" "[I")) (.int 5)) (by decide +kernel))) (fun i hi => ?_) hA
  match i, hi with
  | 0, _ => exact va_eqt (hs (Cond.eq (.elem (.static "PraiseDuels$Reader" "PART_MOST" "[I") (.int 0)) (.int 3)) (by decide +kernel))
  | 1, _ => exact va_eqt (hs (Cond.eq (.elem (.static "PraiseDuels$Reader" "PART_MOST" "[I") (.int 1)) (.int 9)) (by decide +kernel))
  | 2, _ => exact va_eqt (hs (Cond.eq (.elem (.static "PraiseDuels$Reader" "PART_MOST" "[I") (.int 2)) (.int 9)) (by decide +kernel))
  | 3, _ => exact va_eqt (hs (Cond.eq (.elem (.static "PraiseDuels$Reader" "PART_MOST" "[I") (.int 3)) (.int 8)) (by decide +kernel))
  | 4, _ => exact va_eqt (hs (Cond.eq (.elem (.static "PraiseDuels$Reader" "PART_MOST" "[I") (.int 4)) (.int 8)) (by decide +kernel))
  | k + 5, h => exact absurd h (by omega)
theorem ws_z3 {args : Array Value} {s : State} {A : Nat → Prop} {t : Nat} (hts : ∀ w ∈ lw_tbl, w.before args s = true) (hA : ∀ a : Nat, a < s.heap.size → ¬ A a) (hv : (Term.static (zSt 3).1 (zSt 3).2 "[I").eval args s none [] s = some (.ref t)) : va_Z (zSt 3).1 (zSt 3).2 "[I" (.ref t) A s s.heap :=
  va_Zof (C := "PraiseDuels$Reader") (n := "PART_MOST") (hts (Cond.laysStatic "PraiseDuels$Reader" "PART_MOST" "[I") (List.mem_append_right _ (List.mem_of_getElem? (i := 373) (by decide +kernel)))) (hts _ (zw_good (mo_X6_init).1.1).1) hv hA
theorem ws_t4 {args : Array Value} {s : State} {X : zX} {A : Nat → Prop} (hgv : (Jvm.Cond.and given_1 narrow_1).before args s = true) (hA : ∀ a : Nat, a < s.heap.size → ¬ A a) : ∃ t : Nat, (Term.static (zSt 4).1 (zSt 4).2 "[I").eval args s none [] s = some (.ref t) ∧ va_T .int t (zxl X 4) (fun i => .int (zxc X 4 i)) A s s.heap := by
  have hs := flat_of_before _ hgv
  refine va_Tof (tm := .static "PraiseDuels$League" "LOW" "[I") (ty := .int) (N := 6) (f := fun i => .int (zxc X 4 i)) (by decide) (hs _ (by decide +kernel)) (va_eqt (hs (Cond.eq (.length (.static "PraiseDuels$League" "LOW" "[I")) (.int 6)) (by decide +kernel))) (fun i hi => ?_) hA
  match i, hi with
  | 0, _ => exact va_eqt (hs (Cond.eq (.elem (.static "PraiseDuels$League" "LOW" "[I") (.int 0)) (.int 0)) (by decide +kernel))
  | 1, _ => exact va_eqt (hs (Cond.eq (.elem (.static "PraiseDuels$League" "LOW" "[I") (.int 1)) (.int 0)) (by decide +kernel))
  | 2, _ => exact va_eqt (hs (Cond.eq (.elem (.static "PraiseDuels$League" "LOW" "[I") (.int 2)) (.int 0)) (by decide +kernel))
  | 3, _ => exact va_eqt (hs (Cond.eq (.elem (.static "PraiseDuels$League" "LOW" "[I") (.int 3)) (.int 1)) (by decide +kernel))
  | 4, _ => exact va_eqt (hs (Cond.eq (.elem (.static "PraiseDuels$League" "LOW" "[I") (.int 4)) (.int 1)) (by decide +kernel))
  | 5, _ => exact va_eqt (hs (Cond.eq (.elem (.static "PraiseDuels$League" "LOW" "[I") (.int 5)) (.int 2)) (by decide +kernel))
  | k + 6, h => exact absurd h (by omega)
theorem ws_z4 {args : Array Value} {s : State} {A : Nat → Prop} {t : Nat} (hts : ∀ w ∈ lw_tbl, w.before args s = true) (hA : ∀ a : Nat, a < s.heap.size → ¬ A a) (hv : (Term.static (zSt 4).1 (zSt 4).2 "[I").eval args s none [] s = some (.ref t)) : va_Z (zSt 4).1 (zSt 4).2 "[I" (.ref t) A s s.heap :=
  va_Zof (C := "PraiseDuels$League") (n := "LOW") (hts (Cond.laysStatic "PraiseDuels$League" "LOW" "[I") (List.mem_append_right _ (List.mem_of_getElem? (i := 606) (by decide +kernel)))) (hts _ (zw_good (mo_X3_init).1.1).1) hv hA
theorem ws_t5 {args : Array Value} {s : State} {X : zX} {A : Nat → Prop} (hgv : (Jvm.Cond.and given_1 narrow_1).before args s = true) (hA : ∀ a : Nat, a < s.heap.size → ¬ A a) : ∃ t : Nat, (Term.static (zSt 5).1 (zSt 5).2 "[I").eval args s none [] s = some (.ref t) ∧ va_T .int t (zxl X 5) (fun i => .int (zxc X 5 i)) A s s.heap := by
  have hs := flat_of_before _ hgv
  refine va_Tof (tm := .static "PraiseDuels$League" "HIGH" "[I") (ty := .int) (N := 6) (f := fun i => .int (zxc X 5 i)) (by decide) (hs _ (by decide +kernel)) (va_eqt (hs (Cond.eq (.length (.static "PraiseDuels$League" "HIGH" "[I")) (.int 6)) (by decide +kernel))) (fun i hi => ?_) hA
  match i, hi with
  | 0, _ => exact va_eqt (hs (Cond.eq (.elem (.static "PraiseDuels$League" "HIGH" "[I") (.int 0)) (.int 1)) (by decide +kernel))
  | 1, _ => exact va_eqt (hs (Cond.eq (.elem (.static "PraiseDuels$League" "HIGH" "[I") (.int 1)) (.int 2)) (by decide +kernel))
  | 2, _ => exact va_eqt (hs (Cond.eq (.elem (.static "PraiseDuels$League" "HIGH" "[I") (.int 2)) (.int 3)) (by decide +kernel))
  | 3, _ => exact va_eqt (hs (Cond.eq (.elem (.static "PraiseDuels$League" "HIGH" "[I") (.int 3)) (.int 2)) (by decide +kernel))
  | 4, _ => exact va_eqt (hs (Cond.eq (.elem (.static "PraiseDuels$League" "HIGH" "[I") (.int 4)) (.int 3)) (by decide +kernel))
  | 5, _ => exact va_eqt (hs (Cond.eq (.elem (.static "PraiseDuels$League" "HIGH" "[I") (.int 5)) (.int 3)) (by decide +kernel))
  | k + 6, h => exact absurd h (by omega)
theorem ws_z5 {args : Array Value} {s : State} {A : Nat → Prop} {t : Nat} (hts : ∀ w ∈ lw_tbl, w.before args s = true) (hA : ∀ a : Nat, a < s.heap.size → ¬ A a) (hv : (Term.static (zSt 5).1 (zSt 5).2 "[I").eval args s none [] s = some (.ref t)) : va_Z (zSt 5).1 (zSt 5).2 "[I" (.ref t) A s s.heap :=
  va_Zof (C := "PraiseDuels$League") (n := "HIGH") (hts (Cond.laysStatic "PraiseDuels$League" "HIGH" "[I") (List.mem_append_right _ (List.mem_of_getElem? (i := 609) (by decide +kernel)))) (hts _ (zw_good (mo_X3_init).1.1).1) hv hA
