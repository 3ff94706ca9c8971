/-! THE SMALL MACHINE: values are ints and numbers of cells; a state is a list of cells' shapes and what they hold; a judgement 'zEv' says that a method, from a place in its code on, comes to its end with an answer and a state. Each row below is one instruction of the real machine, told over such states. -/
abbrev zV : Type := Int32 ⊕ Nat
abbrev zC : Type := (Nat × Nat) ⊕ (List (Option Nat) ⊕ (Nat × List (Option (Option Nat))))
abbrev zH : Type := Nat → Nat → Int32
abbrev zS : Type := List zC × zH
abbrev zE : Type := Nat × (Nat → Nat)
abbrev zX : Type := Nat × (Nat → Int32)
abbrev zG : Type := ClassId × ClassId × ClassId
def zad (E : zE) (k : Nat) : Nat := if k < 1000 then E.1 + k else E.2 (k - 1000)
def zem (E : zE) : zV → Value
  | .inl x => .int x
  | .inr k => .ref (zad E k)
def zfe (E : zE) (f : Nat → Int32) : Nat → List (Option (Option Nat)) → List Value
  | _, [] => []
  | j, x :: xs => (match x with | none => .int (f j) | some none => .null | some (some r) => .ref (zad E r)) :: zfe E f (j + 1) xs
def zce (E : zE) (G : zG) (f : Nat → Int32) : zC → va_E
  | .inl (t, n) => .inl (if t = 0 then G.1 else G.2.1, n, .inl f)
  | .inr (.inl rs) => .inl (G.2.2, rs.length, .inr (.inr (.inr (.inr (fun j => (rs.getD j none).map (zad E))))))
  | .inr (.inr (ci, fs)) => .inr (ci, zfe E f 0 fs)
def zwl (E : zE) (G : zG) (S : zS) : va_W := S.1.mapIdx (fun k c => (E.1 + k, zce E G (S.2 k) c))
def zxl (X : zX) (j : Nat) : Nat := match j with
  | 0 => 6
  | 1 => 6
  | 2 => 5
  | 3 => 5
  | 4 => 6
  | 5 => 6
  | _ => X.1
def zxc (X : zX) (j i : Nat) : Int32 := match j with
  | 0 => ([1, 0, 0, 0, 0, 0] : List Int32).getD i 0
  | 1 => ([999, 99, 9, 9, 9, 9] : List Int32).getD i 0
  | 2 => ([0, 1, 1, 0, 0] : List Int32).getD i 0
  | 3 => ([3, 9, 9, 8, 8] : List Int32).getD i 0
  | 4 => ([0, 0, 0, 1, 1, 2] : List Int32).getD i 0
  | 5 => ([1, 2, 3, 2, 3, 3] : List Int32).getD i 0
  | _ => X.2 i
def zA (E : zE) : Nat → Prop := fun q => E.1 ≤ q
def zW (E : zE) (X : zX) (G : zG) (D : va_G) (S : zS) (H : Heap) : Prop := va_P D vwCl (zwl E G S) H ∧ S.1.length ≤ 1000 ∧ ∀ j, j < 7 → S.2 (1000 + j) = zxc X j
def zty (G : zG) : List (ClassId × FieldType) := [(G.1, .int), (G.2.1, .boolean), (G.2.2, .object RX9)]
def zXT (E : zE) (X : zX) (s : State) : Prop := (∀ j, j < 6 → va_Z (zSt j).1 (zSt j).2 "[I" (.ref (E.2 j)) (zA E) s s.heap) ∧ ∀ j, j < 7 → va_T .int (E.2 j) (zxl X j) (fun i => .int (zxc X j i)) (zA E) s s.heap
def zK (E : zE) (X : zX) (G : zG) (D : va_G) (s : State) : Prop := va_K D vwCl (zty G) s ∧ (∀ w ∈ zNW, va_Nw w s) ∧ va_AO RX9 s ∧ zXT E X s ∧ E.1 ≤ s.heap.size
def zB (E : zE) (X : zX) (G : zG) (D : va_G) (p : Program) (R : Room) (s : State) (m : MethodId) (args : Array Value) (meth : Method) (c : Code) (y : zMI) (d : Nat) : Prop :=
  p.tables.exec = Jvm.exec ∧ c.code = y.2.1 ∧ c.maxLocals = y.2.2.1 ∧ s.vm.findClass y.1.cls = some m.cls ∧ (∀ w ∈ zTW, w.before args s = true) ∧ zK E X G D s ∧ (y.1.name = "<init>" → meth.name = "<init>") ∧ d ≤ R.frames ∧ 40 * d ≤ R.locals
def zget : List (Nat × zV) → Nat → Option zV
  | [], _ => none
  | (j, v) :: t, i => match Nat.beq j i with
    | true => some v
    | false => zget t i
def zset : List (Nat × zV) → Nat → zV → List (Nat × zV)
  | [], i, v => [(i, v)]
  | (j, w) :: t, i, v => match Nat.beq j i with
    | true => (i, v) :: t
    | false => (j, w) :: zset t i v
theorem zget_set (l : List (Nat × zV)) (i j : Nat) (v : zV) : zget (zset l i v) j = if j = i then some v else zget l j := by
  induction l with
  | nil =>
    simp only [zset, zget]
    cases h : Nat.beq i j with
    | true => rw [if_pos (Nat.eq_of_beq_eq_true h).symm]
    | false => rw [if_neg (fun e => Nat.ne_of_beq_eq_false h e.symm)]
  | cons q t ih =>
    obtain ⟨k, w⟩ := q
    simp only [zset]
    cases h : Nat.beq k i with
    | true =>
      have hk := Nat.eq_of_beq_eq_true h
      subst hk
      simp only [zget]
      cases h2 : Nat.beq k j with
      | true => rw [if_pos (Nat.eq_of_beq_eq_true h2).symm]
      | false => rw [if_neg (fun e => Nat.ne_of_beq_eq_false h2 e.symm)]
    | false =>
      simp only [zget]
      cases h2 : Nat.beq k j with
      | true =>
        have := Nat.eq_of_beq_eq_true h2
        have := Nat.ne_of_beq_eq_false h
        rw [if_neg (by omega)]
      | false => exact ih
def zL (E : zE) (ls : Array Slot) (n : Nat) (lv : List (Nat × zV)) : Prop := ls.size = n ∧ lv_wf ls ∧ ∀ i v, zget lv i = some v → ls[i]? = some (.val (zem E v))
def zlf (E : zE) (n : Nat) (lv : List (Nat × zV)) : List (Nat × Value) := (List.range n).filterMap (fun j => (zget lv j).map (fun v => (j, zem E v)))
theorem zcat (E : zE) (v : zV) : (zem E v).category = 1 := by cases v <;> rfl
theorem zL.has {E : zE} {ls : Array Slot} {n : Nat} {lv : List (Nat × zV)} (h : zL E ls n lv) : lv_has ls n (zlf E n lv) := by
  refine ⟨h.1, h.2.1, fun q hq => ?_⟩
  obtain ⟨j, -, hj⟩ := List.mem_filterMap.mp hq
  cases hg : zget lv j with
  | none => rw [hg] at hj; cases hj
  | some v =>
    rw [hg] at hj
    cases hj
    exact h.2.2 j v hg
theorem zL.mem {E : zE} {ls : Array Slot} {n : Nat} {lv : List (Nat × zV)} (h : zL E ls n lv) {i : Nat} {v : zV} (hg : zget lv i = some v) : i < n ∧ (i, zem E v) ∈ zlf E n lv := by
  have hi : i < ls.size := (Array.getElem?_eq_some_iff.mp (h.2.2 i v hg)).1
  have hn : i < n := by rw [← h.1]; exact hi
  exact ⟨hn, List.mem_filterMap.mpr ⟨i, List.mem_range.mpr hn, by rw [hg]; rfl⟩⟩
theorem zL.put {E : zE} {ls ls' : Array Slot} {n i : Nat} {lv : List (Nat × zV)} {v : zV} (h : zL E ls n lv) (h' : lv_has ls' n ((i, zem E v) :: (zlf E n lv).filter (fun q => !(q.1 == i) && !(q.1 + 1 == i && q.2.category == 2)))) : zL E ls' n (zset lv i v) := by
  refine ⟨h'.1, h'.2.1, fun j w hj => ?_⟩
  rw [zget_set] at hj
  by_cases hji : j = i
  · subst hji
    rw [if_pos rfl] at hj
    cases hj
    exact h'.2.2 _ List.mem_cons_self
  · rw [if_neg hji] at hj
    refine h'.2.2 (j, zem E w) (List.mem_cons_of_mem _ (List.mem_filter.mpr ⟨(h.mem hj).2, ?_⟩))
    have hc := zcat E w
    simp [hji, hc]
theorem zL.sub {E : zE} {ls : Array Slot} {n : Nat} {lv lv' : List (Nat × zV)} (h : zL E ls n lv) (hs : ∀ i v, zget lv' i = some v → zget lv i = some v) : zL E ls n lv' := ⟨h.1, h.2.1, fun i v hi => h.2.2 i v (hs i v hi)⟩
/-- every known value of lv' is known of lv -/
def zsub (lv : List (Nat × zV)) : List (Nat × zV) → Prop
  | [] => True
  | (i, v) :: t => zget lv i = some v ∧ zsub lv t
theorem zsub_get {lv : List (Nat × zV)} : ∀ {lv' : List (Nat × zV)}, zsub lv lv' → ∀ i v, zget lv' i = some v → zget lv i = some v
  | [], _, i, v, h => by simp [zget] at h
  | (j, w) :: t, hs, i, v, h => by
    simp only [zget] at h
    cases hb : Nat.beq j i with
    | true =>
      rw [hb] at h
      cases h
      rw [← Nat.eq_of_beq_eq_true hb]
      exact hs.1
    | false =>
      rw [hb] at h
      exact zsub_get hs.2 i v h
def zdn (b : ByteArray) (pc pc' : Nat) (i : Instr) (n : Nat) : Prop := decode b pc = .ok (i, n) ∧ pc + n = pc'
def zbn (b : ByteArray) (pc pc' tgt : Nat) (i : Instr) (off : Int) : Prop := decode b pc = .ok (i, 3) ∧ pc + 3 = pc' ∧ (pc : Int) + off = (tgt : Int)
def zRt (y : zMI) (pc : Nat) (r : Option zV) : Prop := match r with
  | none => y.2.2.2 = none ∧ decode y.2.1 pc = .ok (.return_, 1)
  | some (.inl v) => ∃ ty, y.2.2.2 = some ty ∧ narrow ty (.int v) = .int v ∧ decode y.2.1 pc = .ok (.ireturn, 1)
  | some (.inr _) => False
def zEv (l : Launch) (X : zX) (y : zMI) (d pc : Nat) (lv : List (Nat × zV)) (st : List zV) (S : zS) (mc ms : Nat) (r : Option zV) (S' : zS) : Prop :=
  ∀ (E : zE) (G : zG) (D : va_G) (p : Program) (e : Env) (R : Room) (s : State) (m : MethodId) (args : Array Value) (below : List Frame) (meth : Method) (c : Code) (H : Heap) (locs : List Loc) (cells slots : Nat) (Q : State → Prop) (ls : Array Slot),
    zB E X G D p R s m args meth c y d → zW E X G D S H → va_S (zA E) s.heap H locs → zL E ls y.2.2.1 lv → E.1 + S.1.length = s.heap.size + cells → cells + mc ≤ R.cells → slots + ms ≤ R.slots →
    (∀ (pc' : Nat) (ls' : Array Slot) (H' : Heap) (locs' : List Loc), zRt y pc' r → zW E X G D S' H' → va_S (zA E) s.heap H' locs' → E.1 + S'.1.length = s.heap.size + (cells + mc) → W p l e R s m args below meth c H' locs' (cells + mc) (slots + ms) Q (F0 m pc' ls' (r.map (zem E)).toList)) →
    W p l e R s m args below meth c H locs cells slots Q (F0 m pc ls (st.map (zem E)))
theorem zwl_at {E : zE} {G : zG} {S : zS} {k : Nat} {cc : zC} (h : S.1[k]? = some cc) : (zwl E G S)[k]? = some (E.1 + k, zce E G (S.2 k) cc) := by
  simp [zwl, List.getElem?_mapIdx, h]
theorem zwl_of {E : zE} {G : zG} {S : zS} {k : Nat} {q : Nat × va_E} (h : (zwl E G S)[k]? = some q) : q.1 = E.1 + k ∧ k < S.1.length := by
  simp only [zwl, List.getElem?_mapIdx] at h
  cases hc : S.1[k]? with
  | none => rw [hc] at h; cases h
  | some cc =>
    rw [hc] at h
    cases h
    exact ⟨rfl, (List.getElem?_eq_some_iff.mp hc).1⟩
theorem zwl_D {E : zE} {G : zG} {S : zS} : va_D (zA E) (zwl E G S) := by
  refine ⟨fun i j p q hi hj h => ?_, fun k q hk => ?_⟩
  · rw [(zwl_of hi).1, (zwl_of hj).1] at h
    omega
  · rw [(zwl_of hk).1]
    exact Nat.le_add_right _ _
/-- the heap's cell k becomes f -/
def zhs (h : zH) (k : Nat) (f : Nat → Int32) : zH := fun a => if a = k then f else h a
theorem zhs_s (h : zH) (k : Nat) (f : Nat → Int32) : zhs h k f k = f := if_pos rfl
theorem zhs_n (h : zH) {k a : Nat} (f : Nat → Int32) (hn : a ≠ k) : zhs h k f a = h a := if_neg hn
theorem zwl_set {E : zE} {G : zG} {S : zS} {k : Nat} {cc c' : zC} {h' : zH} (h : S.1[k]? = some cc) (hh : ∀ a, a ≠ k → h' a = S.2 a) : (zwl E G S).set k (E.1 + k, zce E G (h' k) c') = zwl E G (S.1.set k c', h') := by
  apply List.ext_getElem?
  intro i
  by_cases hi : i = k
  · subst hi
    have hl := (List.getElem?_eq_some_iff.mp h).1
    rw [List.getElem?_set_self (by simp [zwl]; exact hl)]
    simp only [zwl, List.getElem?_mapIdx, List.getElem?_set_self hl]
    rfl
  · rw [List.getElem?_set_ne (Ne.symm hi)]
    simp only [zwl, List.getElem?_mapIdx, List.getElem?_set_ne (Ne.symm hi)]
    rw [hh i hi]
theorem zset_same {α : Type} {l : List α} {k : Nat} {a : α} (h : l[k]? = some a) : l.set k a = l := by
  apply List.ext_getElem?
  intro i
  by_cases hi : i = k
  · subst hi
    rw [List.getElem?_set_self (List.getElem?_eq_some_iff.mp h).1, h]
  · rw [List.getElem?_set_ne (Ne.symm hi)]
theorem zad_lo {E : zE} {k : Nat} (h : k < 1000) : zad E k = E.1 + k := if_pos h
theorem zW.lt {E : zE} {X : zX} {G : zG} {D : va_G} {S : zS} {H : Heap} (h : zW E X G D S H) {k : Nat} {cc : zC} (hk : S.1[k]? = some cc) : k < 1000 := Nat.lt_of_lt_of_le (List.getElem?_eq_some_iff.mp hk).1 h.2.1
/-- a store into one cell, its shape c' behind it -/
theorem zW.to {E : zE} {X : zX} {G : zG} {D : va_G} {S : zS} {H H1 : Heap} {k : Nat} {cc c' : zC} {f : Nat → Int32} (h : zW E X G D S H) (hk : S.1[k]? = some cc) (hP : va_P D vwCl ((zwl E G S).set k (E.1 + k, zce E G f c')) H1) : zW E X G D (S.1.set k c', zhs S.2 k f) H1 := by
  have hlt := h.lt hk
  refine ⟨?_, by simpa using h.2.1, fun j hj => ?_⟩
  · have e := zwl_set (E := E) (G := G) (c' := c') (h' := zhs S.2 k f) hk (fun a ha => zhs_n _ _ ha)
    rw [zhs_s] at e
    rw [← e]
    exact hP
  · show zhs S.2 k f (1000 + j) = _
    rw [zhs_n _ _ (by omega)]
    exact h.2.2 j hj
theorem zsz {p : Program} {l : Launch} {e : Env} {R : Room} {s : State} {m : MethodId} {args : Array Value} {below : List Frame} {meth : Method} {c : Code} {H : Heap} {locs : List Loc} {cells slots : Nat} {Q : State → Prop} {g : JFrame} {E : zE} {X : zX} {G : zG} {D : va_G} {S : zS} (hW : zW E X G D S H) (hS : va_S (zA E) s.heap H locs) (hb : E.1 ≤ s.heap.size) (hc : E.1 + S.1.length = s.heap.size + cells) (k : H.size = E.1 + S.1.length → W p l e R s m args below meth c H locs cells slots Q g) : W p l e R s m args below meth c H locs cells slots Q g := by
  intro T hT Y
  refine k ?_ T hT Y
  have h1 : T.heap.size ≤ s.heap.size + cells := Y.heapSize
  rw [hT] at h1
  have h2 : E.1 + S.1.length ≤ H.size := by
    rcases Nat.eq_zero_or_pos S.1.length with hz | hz
    · have := hS.1
      omega
    · have hl : S.1.length - 1 < S.1.length := by omega
      have h3 := (hW.1 (S.1.length - 1) _ (zwl_at (List.getElem?_eq_getElem hl))).lt
      simp only at h3
      omega
  omega
