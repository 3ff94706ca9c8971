theorem zwl_push {E : zE} {G : zG} {S : zS} {cc : zC} {f : Nat → Int32} : zwl E G (S.1 ++ [cc], zhs S.2 S.1.length f) = zwl E G S ++ [(E.1 + S.1.length, zce E G f cc)] := by
  apply List.ext_getElem?
  intro i
  have hlen : (zwl E G S).length = S.1.length := by simp [zwl]
  rcases Nat.lt_trichotomy i S.1.length with hi | hi | hi
  · rw [List.getElem?_append_left (by rw [hlen]; exact hi)]
    simp only [zwl, List.getElem?_mapIdx]
    rw [List.getElem?_append_left hi, zhs_n _ _ (by omega)]
  · subst hi
    rw [List.getElem?_append_right (by omega), hlen, Nat.sub_self]
    simp only [zwl, List.getElem?_mapIdx]
    rw [List.getElem?_append_right (by omega), Nat.sub_self, zhs_s]
    rfl
  · rw [List.getElem?_append_right (by omega), hlen]
    simp only [zwl, List.getElem?_mapIdx]
    rw [List.getElem?_append_right (by omega)]
    have : ∃ z, i - S.1.length = z + 1 := ⟨i - S.1.length - 1, by omega⟩
    obtain ⟨z, hz⟩ := this
    rw [hz]
    simp
/-- a new cell at the heap's end -/
theorem zW.push {E : zE} {X : zX} {G : zG} {D : va_G} {S : zS} {H H1 : Heap} {cc : zC} {f : Nat → Int32} (h : zW E X G D S H) (hsz : H.size = E.1 + S.1.length) (hl : S.1.length < 1000) (ho : ∀ q, q < H.size → H1[q]? = H[q]?) (he : va_at D vwCl (E.1 + S.1.length, zce E G f cc) H1) : zW E X G D (S.1 ++ [cc], zhs S.2 S.1.length f) H1 := by
  refine ⟨?_, by simp; omega, fun j hj => ?_⟩
  · rw [zwl_push]
    refine (h.1.kept (fun k q hk => ho q.1 ((h.1 k q hk).lt))).app (fun k q hk => ?_)
    have hz : k < 1 := (List.getElem?_eq_some_iff.mp hk).1
    rw [show k = 0 by omega] at hk
    cases hk
    exact he
  · show zhs S.2 S.1.length f (1000 + j) = _
    rw [zhs_n _ _ (by omega)]
    exact h.2.2 j hj
theorem zS.push {E : zE} {H0 H H1 : Heap} {locs : List Loc} (h : va_S (zA E) H0 H locs) (hz : H1.size = H.size + 1) (ho : ∀ q, q < H.size → H1[q]? = H[q]?) : va_S (zA E) H0 H1 locs := ⟨by rw [hz]; exact Nat.le_succ_of_le h.1, fun q h1 h2 => (ho q (Nat.lt_of_lt_of_le h1 h.1)).trans (h.2.1 q h1 h2), h.2.2⟩
/-- fs is how a fresh object of class ci of n fields looks -/
def zDF (ci n : Nat) (fs : List (Option (Option Nat))) : Prop := ∀ q : vw_C, vwCl[ci]? = some q → q.2.2 = n ∧ ∃ ty : Nat → FieldType, (∀ k, k < q.2.2 → parseFieldDescriptor (q.2.1 k).2.2.1 = some (ty k)) ∧ ∀ E : zE, ∀ j, j < q.2.2 → defaultValue (ty j) = vp_V (zfe E (fun _ => 0) 0 fs) j
section ZR4
variable {l : Launch} {X : zX} {y : zMI} {d pc pc' : Nat} {lv : List (Nat × zV)} {st : List zV} {S : zS} {mc ms : Nat} {r : Option zV} {S' : zS}
theorem ev_new {idx ci n : Nat} {fs : List (Option (Option Nat))} (hd : zdn y.2.1 pc pc' (.new idx) 3) (hn : zNC y.1.cls idx ci) (hf : zDF ci n fs) (hlt : S.1.length < 1000) (k : zEv l X y d pc' lv (.inr S.1.length :: st) (S.1 ++ [.inr (.inr (ci, fs))], zhs S.2 S.1.length (fun _ => 0)) mc ms r S') : zEv l X y d pc lv st S (1 + mc) (n + ms) r S' := by
  obtain ⟨hd, rfl⟩ := hd
  intro E G D p e R s m args below meth c H locs cells slots Q ls hB hW hS hL hc h1 h2 hk
  obtain ⟨q, hq, w1, w2, w3⟩ := hn
  obtain ⟨hqn, ty, ht, hdf⟩ := hf q hq
  refine zsz hW hS hB.2.2.2.2.2.1.2.2.2.2 hc (fun hsz => ?_)
  have hKn := hB.2.2.2.2.2.1.1.1 ci _ hq
  have hts := hB.2.2.2.2.1
  refine W.newcK (n := n) hB.1 hB.2.1 hB.2.2.2.1 (hts _ w1) (by rw [← hqn]; exact hts _ w2) (hts _ w3) rfl hd (by omega) (by omega) hKn.2.1 rfl fun H1 kC hkC e1 z1 o1 => ?_
  have hW1 := hW.push (cc := .inr (.inr (ci, fs))) (f := fun _ => 0) hsz hlt o1 ⟨q, hq, (u_born ty hts (zlay hq) hKn hkC (by rw [← hsz]; exact e1) ht).to (hdf E)⟩
  have h9 := k E G D p e R s m args below meth c H1 locs (cells + 1) (slots + n) Q ls hB hW1 (zS.push hS z1 o1) hL (by simp; omega) (by omega) (by omega) (fun pc' ls' H' locs' a1 a2 a3 a4 => by have := hk pc' ls' H' locs' a1 a2 a3 (by omega); rw [Nat.add_assoc, Nat.add_assoc]; exact this)
  rw [List.map_cons, show zem E (.inr S.1.length) = .ref H.size by show Value.ref _ = _; rw [zad_lo hlt, hsz]] at h9
  exact h9
theorem ev_newI {z : Int32} {n : Nat} (hd : zdn y.2.1 pc pc' (.newarray .int) 2) (hz0 : ¬ z < 0) (hzn : z.toNatClampNeg = n) (hbig : n * 4 ≤ 536870912) (hlt : S.1.length < 1000) (k : zEv l X y d pc' lv (.inr S.1.length :: st) (S.1 ++ [.inl (0, n)], zhs S.2 S.1.length (fun _ => 0)) mc ms r S') : zEv l X y d pc lv (.inl z :: st) S (1 + mc) (n + ms) r S' := by
  obtain ⟨hd, rfl⟩ := hd
  intro E G D p e R s m args below meth c H locs cells slots Q ls hB hW hS hL hc h1 h2 hk
  refine zsz hW hS hB.2.2.2.2.2.1.2.2.2.2 hc (fun hsz => ?_)
  have hts := hB.2.2.2.2.1
  refine va_newaK (atype := .int) hB.1 hB.2.1 (hts _ zw_arrI) rfl hd rfl hz0 hzn (by show n * 4 ≤ _; exact hbig) (by omega) (by omega) hsz fun H1 cA e1 z1 o1 _ hNm => ?_
  have hG : cA = G.1 := Option.some.inj (hNm.symm.trans (hB.2.2.2.2.2.1.1.2 0 _ rfl).2)
  subst hG
  have o2 : ∀ q, q < H.size → H1[q]? = H[q]? := fun q hq => o1 q (by rw [← hsz]; exact hq)
  have hW1 := hW.push (cc := .inl (0, n)) (f := fun _ => 0) hsz hlt o2 e1
  have h9 := k E G D p e R s m args below meth c H1 locs (cells + 1) (slots + n) Q ls hB hW1 (zS.push hS (by rw [z1, hsz]) o2) hL (by simp; omega) (by omega) (by omega) (fun pc' ls' H' locs' a1 a2 a3 a4 => by have := hk pc' ls' H' locs' a1 a2 a3 (by omega); rw [Nat.add_assoc, Nat.add_assoc]; exact this)
  rw [List.map_cons, show zem E (.inr S.1.length) = .ref (E.1 + S.1.length) by show Value.ref _ = _; rw [zad_lo hlt]] at h9
  exact h9
theorem ev_newZ {z : Int32} {n : Nat} (hd : zdn y.2.1 pc pc' (.newarray .boolean) 2) (hz0 : ¬ z < 0) (hzn : z.toNatClampNeg = n) (hbig : n * 1 ≤ 536870912) (hlt : S.1.length < 1000) (k : zEv l X y d pc' lv (.inr S.1.length :: st) (S.1 ++ [.inl (1, n)], zhs S.2 S.1.length (fun _ => 0)) mc ms r S') : zEv l X y d pc lv (.inl z :: st) S (1 + mc) (n + ms) r S' := by
  obtain ⟨hd, rfl⟩ := hd
  intro E G D p e R s m args below meth c H locs cells slots Q ls hB hW hS hL hc h1 h2 hk
  refine zsz hW hS hB.2.2.2.2.2.1.2.2.2.2 hc (fun hsz => ?_)
  have hts := hB.2.2.2.2.1
  refine va_newaK (atype := .boolean) hB.1 hB.2.1 (hts _ zw_arrZ) rfl hd rfl hz0 hzn (by show n * 1 ≤ _; exact hbig) (by omega) (by omega) hsz fun H1 cA e1 z1 o1 _ hNm => ?_
  have hG : cA = G.2.1 := Option.some.inj (hNm.symm.trans (hB.2.2.2.2.2.1.1.2 1 _ rfl).2)
  subst hG
  have o2 : ∀ q, q < H.size → H1[q]? = H[q]? := fun q hq => o1 q (by rw [← hsz]; exact hq)
  have hW1 := hW.push (cc := .inl (1, n)) (f := fun _ => 0) hsz hlt o2 e1
  have h9 := k E G D p e R s m args below meth c H1 locs (cells + 1) (slots + n) Q ls hB hW1 (zS.push hS (by rw [z1, hsz]) o2) hL (by simp; omega) (by omega) (by omega) (fun pc' ls' H' locs' a1 a2 a3 a4 => by have := hk pc' ls' H' locs' a1 a2 a3 (by omega); rw [Nat.add_assoc, Nat.add_assoc]; exact this)
  rw [List.map_cons, show zem E (.inr S.1.length) = .ref (E.1 + S.1.length) by show Value.ref _ = _; rw [zad_lo hlt]] at h9
  exact h9
theorem ev_newQ {idx : Nat} {z : Int32} {n : Nat} (hd : zdn y.2.1 pc pc' (.anewarray idx) 3) (hw : Cond.classLink y.1.cls idx RX9 ∈ zTW) (hz0 : ¬ z < 0) (hzn : z.toNatClampNeg = n) (hbig : n * 4 ≤ 536870912) (hlt : S.1.length < 1000) (k : zEv l X y d pc' lv (.inr S.1.length :: st) (S.1 ++ [.inr (.inl (List.replicate n none))], zhs S.2 S.1.length (fun _ => 0)) mc ms r S') : zEv l X y d pc lv (.inl z :: st) S (1 + mc) (n + ms) r S' := by
  obtain ⟨hd, rfl⟩ := hd
  intro E G D p e R s m args below meth c H locs cells slots Q ls hB hW hS hL hc h1 h2 hk
  refine zsz hW hS hB.2.2.2.2.2.1.2.2.2.2 hc (fun hsz => ?_)
  have hts := hB.2.2.2.2.1
  subst hzn
  refine W.anew (C := RX9) hB.1 hB.2.1 hB.2.2.2.1 (hts _ hw) (va_AO.use hB.2.2.2.2.2.1.2.2.1) rfl hd rfl hz0 hbig (by omega) (by omega) fun cA kA comp f1 f2 f3 f4 => ?_
  obtain ⟨kA', comp', g1, g2, g3, g4⟩ := (hB.2.2.2.2.2.1.1.2 2 _ rfl).2
  have hG : cA = G.2.2 := Option.some.inj (f1.symm.trans g4)
  subst hG
  generalize hH1 : H.push ({ cls := G.2.2, slots := Array.replicate z.toNatClampNeg .null, vm := .none } : Cell) = H1
  have z1 : H1.size = H.size + 1 := by rw [← hH1, Array.size_push]
  have e1 : H1[H.size]? = some (arrV G.2.2 z.toNatClampNeg (fun _ => .null)) := by rw [← hH1, Array.getElem?_push_size, ← arrV_new]
  have o1 : ∀ q : Nat, q < H.size → H1[q]? = H[q]? := fun q hq => by rw [← hH1, Array.getElem?_push, if_neg (Nat.ne_of_lt hq)]
  have hW1 := hW.push (cc := .inr (.inl (List.replicate z.toNatClampNeg none))) (f := fun _ => 0) hsz hlt o1 (by
    show H1[E.1 + S.1.length]? = some (vp_cell _ _)
    rw [← hsz, e1, vp_cell_q, List.length_replicate]
    congr 2
    funext j
    rw [List.getD_eq_getElem?_getD, List.getElem?_replicate]
    split <;> rfl)
  have h9 := k E G D p e R s m args below meth c H1 locs (cells + 1) (slots + z.toNatClampNeg) Q ls hB hW1 (zS.push hS z1 o1) hL (by simp; omega) (by omega) (by omega) (fun pc' ls' H' locs' a1 a2 a3 a4 => by have := hk pc' ls' H' locs' a1 a2 a3 (by omega); rw [Nat.add_assoc, Nat.add_assoc]; exact this)
  rw [List.map_cons, show zem E (.inr S.1.length) = .ref H.size by show Value.ref _ = _; rw [zad_lo hlt, hsz]] at h9
  exact h9
theorem ev_qast {a q : Nat} {rs : List (Option Nat)} {fs : List (Option (Option Nat))} {i : Int32} (hd : zdn y.2.1 pc pc' (.aastore) 1) (hn : S.1[a]? = some (.inr (.inl rs))) (hi : vp_in i rs.length) (hq : S.1[q]? = some (.inr (.inr (8, fs)))) (k : zEv l X y d pc' lv st (S.1.set a (.inr (.inl (rs.set i.toNatClampNeg (some q)))), S.2) mc ms r S') : zEv l X y d pc lv (.inr q :: .inl i :: .inr a :: st) S mc ms r S' := by
  obtain ⟨hd, rfl⟩ := hd
  intro E G D p e R s m args below meth c H locs cells slots Q ls hB hW hS hL hc h1 h2 hk
  show W p l e R s m args below meth c H locs cells slots Q (F0 m pc ls (.ref (zad E q) :: .int i :: .ref (zad E a) :: st.map (zem E)))
  rw [zad_lo (hW.lt hn), zad_lo (hW.lt hq)]
  refine va_astq (qk := q) (ci := 8) (r := (RX9, TX9, 4)) hB.1 hB.2.1 hB.2.2.2.2.2.1.1 hW.1 zwl_D hS a 2 (zwl_at hn) rfl (zwl_at hq) rfl hi hd (fun H1 locs1 hP _ hS1 => ?_)
  have hlt : i.toNatClampNeg < rs.length := Nat.not_le.mp fun q => hi (Or.inr q)
  have hW1 := hW.to (c' := .inr (.inl (rs.set i.toNatClampNeg (some q)))) (f := S.2 a) hn (by
    have ef : (fun j => ((rs.set i.toNatClampNeg (some q)).getD j none).map (zad E)) = va_up (fun j => (rs.getD j none).map (zad E)) i.toNatClampNeg (some (E.1 + q)) := by
      funext j
      simp only [List.getD_eq_getElem?_getD, va_up]
      by_cases hj : j = i.toNatClampNeg
      · subst hj
        rw [List.getElem?_set_self hlt, if_pos rfl]
        show some (zad E q) = _
        rw [zad_lo (hW.lt hq)]
      · rw [List.getElem?_set_ne (Ne.symm hj), if_neg hj]
    show va_P D vwCl ((zwl E G S).set a (E.1 + a, .inl (G.2.2, (rs.set i.toNatClampNeg (some q)).length, .inr (.inr (.inr (.inr (fun j => ((rs.set i.toNatClampNeg (some q)).getD j none).map (zad E)))))))) H1
    rw [ef, List.length_set]
    exact hP)
  rw [zhs_id] at hW1
  exact k E G D p e R s m args below meth c H1 locs1 cells slots Q ls hB hW1 hS1 hL (by simpa using hc) h1 h2 hk
end ZR4
