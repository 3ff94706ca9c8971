theorem zfn_4_0 : zFN 4 0 := fun q h => by cases h; exact ⟨rfl, by decide +kernel⟩
theorem zfn_4_1 : zFN 4 1 := fun q h => by cases h; exact ⟨rfl, by decide +kernel⟩
theorem zfn_6_2 : zFN 6 2 := fun q h => by cases h; exact ⟨rfl, by decide +kernel⟩
theorem zfn_6_3 : zFN 6 3 := fun q h => by cases h; exact ⟨rfl, by decide +kernel⟩
theorem zfn_6_4 : zFN 6 4 := fun q h => by cases h; exact ⟨rfl, by decide +kernel⟩
theorem zfn_6_5 : zFN 6 5 := fun q h => by cases h; exact ⟨rfl, by decide +kernel⟩
theorem zfn_6_6 : zFN 6 6 := fun q h => by cases h; exact ⟨rfl, by decide +kernel⟩
theorem zfn_8_3 : zFN 8 3 := fun q h => by cases h; exact ⟨rfl, by decide +kernel⟩
theorem zfn_5_4 : zFN 5 4 := fun q h => by cases h; exact ⟨rfl, by decide +kernel⟩
theorem zfn_5_5 : zFN 5 5 := fun q h => by cases h; exact ⟨rfl, by decide +kernel⟩
theorem zfn_5_6 : zFN 5 6 := fun q h => by cases h; exact ⟨rfl, by decide +kernel⟩
theorem zfn_0_3 : zFN 0 3 := fun q h => by cases h; exact ⟨rfl, by decide +kernel⟩
theorem zfn_7_5 : zFN 7 5 := fun q h => by cases h; exact ⟨rfl, by decide +kernel⟩
theorem zfn_7_6 : zFN 7 6 := fun q h => by cases h; exact ⟨rfl, by decide +kernel⟩
theorem zfn_7_7 : zFN 7 7 := fun q h => by cases h; exact ⟨rfl, by decide +kernel⟩
theorem zfn_9_9 : zFN 9 9 := fun q h => by cases h; exact ⟨rfl, by decide +kernel⟩
theorem zfn_10_0 : zFN 10 0 := fun q h => by cases h; exact ⟨rfl, by decide +kernel⟩
theorem zfn_10_2 : zFN 10 2 := fun q h => by cases h; exact ⟨rfl, by decide +kernel⟩
theorem zfn_10_3 : zFN 10 3 := fun q h => by cases h; exact ⟨rfl, by decide +kernel⟩
theorem zfn_10_4 : zFN 10 4 := fun q h => by cases h; exact ⟨rfl, by decide +kernel⟩
theorem zfn_10_5 : zFN 10 5 := fun q h => by cases h; exact ⟨rfl, by decide +kernel⟩
theorem zfn_10_6 : zFN 10 6 := fun q h => by cases h; exact ⟨rfl, by decide +kernel⟩
theorem zfn_10_7 : zFN 10 7 := fun q h => by cases h; exact ⟨rfl, by decide +kernel⟩
theorem zfn_10_8 : zFN 10 8 := fun q h => by cases h; exact ⟨rfl, by decide +kernel⟩
theorem zfn_10_9 : zFN 10 9 := fun q h => by cases h; exact ⟨rfl, by decide +kernel⟩
theorem zfn_10_10 : zFN 10 10 := fun q h => by cases h; exact ⟨rfl, by decide +kernel⟩
theorem zfn_10_11 : zFN 10 11 := fun q h => by cases h; exact ⟨rfl, by decide +kernel⟩
theorem zfn_10_12 : zFN 10 12 := fun q h => by cases h; exact ⟨rfl, by decide +kernel⟩
theorem zfn_10_13 : zFN 10 13 := fun q h => by cases h; exact ⟨rfl, by decide +kernel⟩
theorem zfn_10_24 : zFN 10 24 := fun q h => by cases h; exact ⟨rfl, by decide +kernel⟩
theorem zfn_10_26 : zFN 10 26 := fun q h => by cases h; exact ⟨rfl, by decide +kernel⟩
theorem zfn_10_28 : zFN 10 28 := fun q h => by cases h; exact ⟨rfl, by decide +kernel⟩
theorem zfn_10_32 : zFN 10 32 := fun q h => by cases h; exact ⟨rfl, by decide +kernel⟩
/-- an int array of n places, in the world or outside -/
def zar (X : zX) (S : zS) (a n : Nat) : Prop := S.1[a]? = some (.inl (0, n)) ∨ ∃ j, j < 7 ∧ a = 1000 + j ∧ n = zxl X j
theorem zar.al {X : zX} {S : zS} {a n : Nat} (h : zar X S a n) (hl : S.1.length ≤ 1000) : zal X S a = some n := by
  rcases h with h | ⟨j, hj, rfl, rfl⟩
  · have ha : a < 1000 := Nat.lt_of_lt_of_le (List.getElem?_eq_some_iff.mp h).1 hl
    simp [zal, ha, h]
  · have h1 : ¬ 1000 + j < 1000 := by omega
    have h2 : 1000 + j < 1007 := by omega
    have h3 : 1000 + j - 1000 = j := by omega
    simp only [zal, h1, h2, if_false, if_true, h3]
section ZR5
variable {l : Launch} {X : zX} {y : zMI} {d pc pc' : Nat} {lv : List (Nat × zV)} {st : List zV} {S : zS} {mc ms : Nat} {r : Option zV} {S' : zS}
theorem ev_iald2 {a n : Nat} {i : Int32} (hd : zdn y.2.1 pc pc' (.iaload) 1) (hn : zar X S a n) (hi : vp_in i n) (k : zEv l X y d pc' lv (.inl (S.2 a i.toNatClampNeg) :: st) S mc ms r S') : zEv l X y d pc lv (.inl i :: .inr a :: st) S mc ms r S' := fun E G D p e R s m args below meth c H locs cells slots Q ls hB hW => ev_iald hd (hn.al hW.2.1) hi k E G D p e R s m args below meth c H locs cells slots Q ls hB hW
theorem ev_alen2 {a n : Nat} {v : Int32} (hd : zdn y.2.1 pc pc' (.arraylength) 1) (hn : zar X S a n) (hv : Int32.ofNat n = v) (k : zEv l X y d pc' lv (.inl v :: st) S mc ms r S') : zEv l X y d pc lv (.inr a :: st) S mc ms r S' := fun E G D p e R s m args below meth c H locs cells slots Q ls hB hW => ev_alen hd (hn.al hW.2.1) hv k E G D p e R s m args below meth c H locs cells slots Q ls hB hW
theorem ev_iretz {v v' : Int32} (hd : zdn y.2.1 pc pc' (.ireturn) 1) (hr : y.2.2.2 = some .boolean) (hv : v = v' ∧ (v' = 0 ∨ v' = 1)) (hS : S = S') : zEv l X y d pc lv [.inl v] S 0 0 (some (.inl v')) S' := by
  obtain ⟨rfl, hb⟩ := hv
  subst hS
  refine ev_iret hd hr ?_
  rcases hb with rfl | rfl <;> rfl
end ZR5
theorem ev_callV0 {l : Launch} {X : zX} {y : zMI} {d pc pc' : Nat} {lv : List (Nat × zV)} {st : List zV} {S : zS} {mc ms : Nat} {r : Option zV} {S' : zS} {y' : zMI} {b idx ci : Nat} {r1 : Option zV} {S1 : zS} {mc1 ms1 : Nat} {fs : List (Option (Option Nat))} (hd : zdn y.2.1 pc pc' (.invokevirtual idx) 3) (hl : zML y.1.cls idx y') (hy : zMV y' 0) (ho : S.1[b]? = some (.inr (.inr (ci, fs)))) (hcl : (vwCl[ci]?).map (fun q => q.1) = some y'.1.cls) (hlen : 0 + 1 ≤ y'.2.2.1)
    (hm : zEv l X y' d 0 (zent 0 [.inr b]) [] S mc1 ms1 r1 S1) (hst : st.length ≤ 8) (k : zEv l X y (d + 1) pc' lv (r1.toList ++ st) S1 mc ms r S') : zEv l X y (d + 1) pc lv (.inr b :: st) S (mc1 + mc) (ms1 + ms) r S' := ev_callV (as := []) hd hl hy ho hcl rfl hst hlen hm k
theorem ev_callS0 {l : Launch} {X : zX} {y : zMI} {d pc pc' : Nat} {lv : List (Nat × zV)} {st : List zV} {S : zS} {mc ms : Nat} {r : Option zV} {S' : zS} {y' : zMI} {idx : Nat} {r1 : Option zV} {S1 : zS} {mc1 ms1 : Nat} (hd : zdn y.2.1 pc pc' (.invokestatic idx) 3) (hl : zML y.1.cls idx y') (hy : zMS y' 0) (hlen : 0 ≤ y'.2.2.1)
    (hm : zEv l X y' d 0 (zent 0 []) [] S mc1 ms1 r1 S1) (hst : st.length ≤ 8) (k : zEv l X y (d + 1) pc' lv (r1.toList ++ st) S1 mc ms r S') : zEv l X y (d + 1) pc lv (st) S (mc1 + mc) (ms1 + ms) r S' := ev_callS (as := []) hd hl hy rfl hst hlen hm k
theorem ev_gV0 {l : Launch} {X : zX} {y : zMI} {d pc pc' : Nat} {lv : List (Nat × zV)} {st : List zV} {S : zS} {r : Option zV} {S' : zS} {y' : zMI} {b idx ci : Nat} {r1 : Option zV} {S1 : zS} {fs : List (Option (Option Nat))} (hd : zdn y.2.1 pc pc' (.invokevirtual idx) 3) (hl : zML y.1.cls idx y') (hy : zMV y' 0) (ho : S.1[b]? = some (.inr (.inr (ci, fs)))) (hcl : (vwCl[ci]?).map (fun q => q.1) = some y'.1.cls) (hlen : 0 + 1 ≤ y'.2.2.1)
    (hm : zEv l X y' d 0 (zent 0 [.inr b]) [] S 0 0 r1 S1) (hst : st.length ≤ 8) (k : zEv l X y (d + 1) pc' lv (r1.toList ++ st) S1 0 0 r S') : zEv l X y (d + 1) pc lv (.inr b :: st) S 0 0 r S' := ev_callV (as := []) hd hl hy ho hcl rfl hst hlen hm k
theorem ev_gS0 {l : Launch} {X : zX} {y : zMI} {d pc pc' : Nat} {lv : List (Nat × zV)} {st : List zV} {S : zS} {r : Option zV} {S' : zS} {y' : zMI} {idx : Nat} {r1 : Option zV} {S1 : zS} (hd : zdn y.2.1 pc pc' (.invokestatic idx) 3) (hl : zML y.1.cls idx y') (hy : zMS y' 0) (hlen : 0 ≤ y'.2.2.1)
    (hm : zEv l X y' d 0 (zent 0 []) [] S 0 0 r1 S1) (hst : st.length ≤ 8) (k : zEv l X y (d + 1) pc' lv (r1.toList ++ st) S1 0 0 r S') : zEv l X y (d + 1) pc lv (st) S 0 0 r S' := ev_callS (as := []) hd hl hy rfl hst hlen hm k
theorem ev_callV1 {l : Launch} {X : zX} {y : zMI} {d pc pc' : Nat} {lv : List (Nat × zV)} {st : List zV} {S : zS} {mc ms : Nat} {r : Option zV} {S' : zS} {y' : zMI} {b idx ci : Nat} {a0 : zV} {r1 : Option zV} {S1 : zS} {mc1 ms1 : Nat} {fs : List (Option (Option Nat))} (hd : zdn y.2.1 pc pc' (.invokevirtual idx) 3) (hl : zML y.1.cls idx y') (hy : zMV y' 1) (ho : S.1[b]? = some (.inr (.inr (ci, fs)))) (hcl : (vwCl[ci]?).map (fun q => q.1) = some y'.1.cls) (hlen : 1 + 1 ≤ y'.2.2.1)
    (hm : zEv l X y' d 0 (zent 0 [.inr b, a0]) [] S mc1 ms1 r1 S1) (hst : st.length ≤ 8) (k : zEv l X y (d + 1) pc' lv (r1.toList ++ st) S1 mc ms r S') : zEv l X y (d + 1) pc lv (a0 :: .inr b :: st) S (mc1 + mc) (ms1 + ms) r S' := ev_callV (as := [a0]) hd hl hy ho hcl rfl hst hlen hm k
theorem ev_callS1 {l : Launch} {X : zX} {y : zMI} {d pc pc' : Nat} {lv : List (Nat × zV)} {st : List zV} {S : zS} {mc ms : Nat} {r : Option zV} {S' : zS} {y' : zMI} {idx : Nat} {a0 : zV} {r1 : Option zV} {S1 : zS} {mc1 ms1 : Nat} (hd : zdn y.2.1 pc pc' (.invokestatic idx) 3) (hl : zML y.1.cls idx y') (hy : zMS y' 1) (hlen : 1 ≤ y'.2.2.1)
    (hm : zEv l X y' d 0 (zent 0 [a0]) [] S mc1 ms1 r1 S1) (hst : st.length ≤ 8) (k : zEv l X y (d + 1) pc' lv (r1.toList ++ st) S1 mc ms r S') : zEv l X y (d + 1) pc lv (a0 :: st) S (mc1 + mc) (ms1 + ms) r S' := ev_callS (as := [a0]) hd hl hy rfl hst hlen hm k
theorem ev_gV1 {l : Launch} {X : zX} {y : zMI} {d pc pc' : Nat} {lv : List (Nat × zV)} {st : List zV} {S : zS} {r : Option zV} {S' : zS} {y' : zMI} {b idx ci : Nat} {a0 : zV} {r1 : Option zV} {S1 : zS} {fs : List (Option (Option Nat))} (hd : zdn y.2.1 pc pc' (.invokevirtual idx) 3) (hl : zML y.1.cls idx y') (hy : zMV y' 1) (ho : S.1[b]? = some (.inr (.inr (ci, fs)))) (hcl : (vwCl[ci]?).map (fun q => q.1) = some y'.1.cls) (hlen : 1 + 1 ≤ y'.2.2.1)
    (hm : zEv l X y' d 0 (zent 0 [.inr b, a0]) [] S 0 0 r1 S1) (hst : st.length ≤ 8) (k : zEv l X y (d + 1) pc' lv (r1.toList ++ st) S1 0 0 r S') : zEv l X y (d + 1) pc lv (a0 :: .inr b :: st) S 0 0 r S' := ev_callV (as := [a0]) hd hl hy ho hcl rfl hst hlen hm k
theorem ev_gS1 {l : Launch} {X : zX} {y : zMI} {d pc pc' : Nat} {lv : List (Nat × zV)} {st : List zV} {S : zS} {r : Option zV} {S' : zS} {y' : zMI} {idx : Nat} {a0 : zV} {r1 : Option zV} {S1 : zS} (hd : zdn y.2.1 pc pc' (.invokestatic idx) 3) (hl : zML y.1.cls idx y') (hy : zMS y' 1) (hlen : 1 ≤ y'.2.2.1)
    (hm : zEv l X y' d 0 (zent 0 [a0]) [] S 0 0 r1 S1) (hst : st.length ≤ 8) (k : zEv l X y (d + 1) pc' lv (r1.toList ++ st) S1 0 0 r S') : zEv l X y (d + 1) pc lv (a0 :: st) S 0 0 r S' := ev_callS (as := [a0]) hd hl hy rfl hst hlen hm k
theorem ev_callV2 {l : Launch} {X : zX} {y : zMI} {d pc pc' : Nat} {lv : List (Nat × zV)} {st : List zV} {S : zS} {mc ms : Nat} {r : Option zV} {S' : zS} {y' : zMI} {b idx ci : Nat} {a0 a1 : zV} {r1 : Option zV} {S1 : zS} {mc1 ms1 : Nat} {fs : List (Option (Option Nat))} (hd : zdn y.2.1 pc pc' (.invokevirtual idx) 3) (hl : zML y.1.cls idx y') (hy : zMV y' 2) (ho : S.1[b]? = some (.inr (.inr (ci, fs)))) (hcl : (vwCl[ci]?).map (fun q => q.1) = some y'.1.cls) (hlen : 2 + 1 ≤ y'.2.2.1)
    (hm : zEv l X y' d 0 (zent 0 [.inr b, a0, a1]) [] S mc1 ms1 r1 S1) (hst : st.length ≤ 8) (k : zEv l X y (d + 1) pc' lv (r1.toList ++ st) S1 mc ms r S') : zEv l X y (d + 1) pc lv (a1 :: a0 :: .inr b :: st) S (mc1 + mc) (ms1 + ms) r S' := ev_callV (as := [a0, a1]) hd hl hy ho hcl rfl hst hlen hm k
theorem ev_callS2 {l : Launch} {X : zX} {y : zMI} {d pc pc' : Nat} {lv : List (Nat × zV)} {st : List zV} {S : zS} {mc ms : Nat} {r : Option zV} {S' : zS} {y' : zMI} {idx : Nat} {a0 a1 : zV} {r1 : Option zV} {S1 : zS} {mc1 ms1 : Nat} (hd : zdn y.2.1 pc pc' (.invokestatic idx) 3) (hl : zML y.1.cls idx y') (hy : zMS y' 2) (hlen : 2 ≤ y'.2.2.1)
    (hm : zEv l X y' d 0 (zent 0 [a0, a1]) [] S mc1 ms1 r1 S1) (hst : st.length ≤ 8) (k : zEv l X y (d + 1) pc' lv (r1.toList ++ st) S1 mc ms r S') : zEv l X y (d + 1) pc lv (a1 :: a0 :: st) S (mc1 + mc) (ms1 + ms) r S' := ev_callS (as := [a0, a1]) hd hl hy rfl hst hlen hm k
theorem ev_gV2 {l : Launch} {X : zX} {y : zMI} {d pc pc' : Nat} {lv : List (Nat × zV)} {st : List zV} {S : zS} {r : Option zV} {S' : zS} {y' : zMI} {b idx ci : Nat} {a0 a1 : zV} {r1 : Option zV} {S1 : zS} {fs : List (Option (Option Nat))} (hd : zdn y.2.1 pc pc' (.invokevirtual idx) 3) (hl : zML y.1.cls idx y') (hy : zMV y' 2) (ho : S.1[b]? = some (.inr (.inr (ci, fs)))) (hcl : (vwCl[ci]?).map (fun q => q.1) = some y'.1.cls) (hlen : 2 + 1 ≤ y'.2.2.1)
    (hm : zEv l X y' d 0 (zent 0 [.inr b, a0, a1]) [] S 0 0 r1 S1) (hst : st.length ≤ 8) (k : zEv l X y (d + 1) pc' lv (r1.toList ++ st) S1 0 0 r S') : zEv l X y (d + 1) pc lv (a1 :: a0 :: .inr b :: st) S 0 0 r S' := ev_callV (as := [a0, a1]) hd hl hy ho hcl rfl hst hlen hm k
theorem ev_gS2 {l : Launch} {X : zX} {y : zMI} {d pc pc' : Nat} {lv : List (Nat × zV)} {st : List zV} {S : zS} {r : Option zV} {S' : zS} {y' : zMI} {idx : Nat} {a0 a1 : zV} {r1 : Option zV} {S1 : zS} (hd : zdn y.2.1 pc pc' (.invokestatic idx) 3) (hl : zML y.1.cls idx y') (hy : zMS y' 2) (hlen : 2 ≤ y'.2.2.1)
    (hm : zEv l X y' d 0 (zent 0 [a0, a1]) [] S 0 0 r1 S1) (hst : st.length ≤ 8) (k : zEv l X y (d + 1) pc' lv (r1.toList ++ st) S1 0 0 r S') : zEv l X y (d + 1) pc lv (a1 :: a0 :: st) S 0 0 r S' := ev_callS (as := [a0, a1]) hd hl hy rfl hst hlen hm k
theorem ev_callV3 {l : Launch} {X : zX} {y : zMI} {d pc pc' : Nat} {lv : List (Nat × zV)} {st : List zV} {S : zS} {mc ms : Nat} {r : Option zV} {S' : zS} {y' : zMI} {b idx ci : Nat} {a0 a1 a2 : zV} {r1 : Option zV} {S1 : zS} {mc1 ms1 : Nat} {fs : List (Option (Option Nat))} (hd : zdn y.2.1 pc pc' (.invokevirtual idx) 3) (hl : zML y.1.cls idx y') (hy : zMV y' 3) (ho : S.1[b]? = some (.inr (.inr (ci, fs)))) (hcl : (vwCl[ci]?).map (fun q => q.1) = some y'.1.cls) (hlen : 3 + 1 ≤ y'.2.2.1)
    (hm : zEv l X y' d 0 (zent 0 [.inr b, a0, a1, a2]) [] S mc1 ms1 r1 S1) (hst : st.length ≤ 8) (k : zEv l X y (d + 1) pc' lv (r1.toList ++ st) S1 mc ms r S') : zEv l X y (d + 1) pc lv (a2 :: a1 :: a0 :: .inr b :: st) S (mc1 + mc) (ms1 + ms) r S' := ev_callV (as := [a0, a1, a2]) hd hl hy ho hcl rfl hst hlen hm k
theorem ev_callS3 {l : Launch} {X : zX} {y : zMI} {d pc pc' : Nat} {lv : List (Nat × zV)} {st : List zV} {S : zS} {mc ms : Nat} {r : Option zV} {S' : zS} {y' : zMI} {idx : Nat} {a0 a1 a2 : zV} {r1 : Option zV} {S1 : zS} {mc1 ms1 : Nat} (hd : zdn y.2.1 pc pc' (.invokestatic idx) 3) (hl : zML y.1.cls idx y') (hy : zMS y' 3) (hlen : 3 ≤ y'.2.2.1)
    (hm : zEv l X y' d 0 (zent 0 [a0, a1, a2]) [] S mc1 ms1 r1 S1) (hst : st.length ≤ 8) (k : zEv l X y (d + 1) pc' lv (r1.toList ++ st) S1 mc ms r S') : zEv l X y (d + 1) pc lv (a2 :: a1 :: a0 :: st) S (mc1 + mc) (ms1 + ms) r S' := ev_callS (as := [a0, a1, a2]) hd hl hy rfl hst hlen hm k
theorem ev_gV3 {l : Launch} {X : zX} {y : zMI} {d pc pc' : Nat} {lv : List (Nat × zV)} {st : List zV} {S : zS} {r : Option zV} {S' : zS} {y' : zMI} {b idx ci : Nat} {a0 a1 a2 : zV} {r1 : Option zV} {S1 : zS} {fs : List (Option (Option Nat))} (hd : zdn y.2.1 pc pc' (.invokevirtual idx) 3) (hl : zML y.1.cls idx y') (hy : zMV y' 3) (ho : S.1[b]? = some (.inr (.inr (ci, fs)))) (hcl : (vwCl[ci]?).map (fun q => q.1) = some y'.1.cls) (hlen : 3 + 1 ≤ y'.2.2.1)
    (hm : zEv l X y' d 0 (zent 0 [.inr b, a0, a1, a2]) [] S 0 0 r1 S1) (hst : st.length ≤ 8) (k : zEv l X y (d + 1) pc' lv (r1.toList ++ st) S1 0 0 r S') : zEv l X y (d + 1) pc lv (a2 :: a1 :: a0 :: .inr b :: st) S 0 0 r S' := ev_callV (as := [a0, a1, a2]) hd hl hy ho hcl rfl hst hlen hm k
theorem ev_gS3 {l : Launch} {X : zX} {y : zMI} {d pc pc' : Nat} {lv : List (Nat × zV)} {st : List zV} {S : zS} {r : Option zV} {S' : zS} {y' : zMI} {idx : Nat} {a0 a1 a2 : zV} {r1 : Option zV} {S1 : zS} (hd : zdn y.2.1 pc pc' (.invokestatic idx) 3) (hl : zML y.1.cls idx y') (hy : zMS y' 3) (hlen : 3 ≤ y'.2.2.1)
    (hm : zEv l X y' d 0 (zent 0 [a0, a1, a2]) [] S 0 0 r1 S1) (hst : st.length ≤ 8) (k : zEv l X y (d + 1) pc' lv (r1.toList ++ st) S1 0 0 r S') : zEv l X y (d + 1) pc lv (a2 :: a1 :: a0 :: st) S 0 0 r S' := ev_callS (as := [a0, a1, a2]) hd hl hy rfl hst hlen hm k
theorem ev_callV4 {l : Launch} {X : zX} {y : zMI} {d pc pc' : Nat} {lv : List (Nat × zV)} {st : List zV} {S : zS} {mc ms : Nat} {r : Option zV} {S' : zS} {y' : zMI} {b idx ci : Nat} {a0 a1 a2 a3 : zV} {r1 : Option zV} {S1 : zS} {mc1 ms1 : Nat} {fs : List (Option (Option Nat))} (hd : zdn y.2.1 pc pc' (.invokevirtual idx) 3) (hl : zML y.1.cls idx y') (hy : zMV y' 4) (ho : S.1[b]? = some (.inr (.inr (ci, fs)))) (hcl : (vwCl[ci]?).map (fun q => q.1) = some y'.1.cls) (hlen : 4 + 1 ≤ y'.2.2.1)
    (hm : zEv l X y' d 0 (zent 0 [.inr b, a0, a1, a2, a3]) [] S mc1 ms1 r1 S1) (hst : st.length ≤ 8) (k : zEv l X y (d + 1) pc' lv (r1.toList ++ st) S1 mc ms r S') : zEv l X y (d + 1) pc lv (a3 :: a2 :: a1 :: a0 :: .inr b :: st) S (mc1 + mc) (ms1 + ms) r S' := ev_callV (as := [a0, a1, a2, a3]) hd hl hy ho hcl rfl hst hlen hm k
theorem ev_callS4 {l : Launch} {X : zX} {y : zMI} {d pc pc' : Nat} {lv : List (Nat × zV)} {st : List zV} {S : zS} {mc ms : Nat} {r : Option zV} {S' : zS} {y' : zMI} {idx : Nat} {a0 a1 a2 a3 : zV} {r1 : Option zV} {S1 : zS} {mc1 ms1 : Nat} (hd : zdn y.2.1 pc pc' (.invokestatic idx) 3) (hl : zML y.1.cls idx y') (hy : zMS y' 4) (hlen : 4 ≤ y'.2.2.1)
    (hm : zEv l X y' d 0 (zent 0 [a0, a1, a2, a3]) [] S mc1 ms1 r1 S1) (hst : st.length ≤ 8) (k : zEv l X y (d + 1) pc' lv (r1.toList ++ st) S1 mc ms r S') : zEv l X y (d + 1) pc lv (a3 :: a2 :: a1 :: a0 :: st) S (mc1 + mc) (ms1 + ms) r S' := ev_callS (as := [a0, a1, a2, a3]) hd hl hy rfl hst hlen hm k
theorem ev_gV4 {l : Launch} {X : zX} {y : zMI} {d pc pc' : Nat} {lv : List (Nat × zV)} {st : List zV} {S : zS} {r : Option zV} {S' : zS} {y' : zMI} {b idx ci : Nat} {a0 a1 a2 a3 : zV} {r1 : Option zV} {S1 : zS} {fs : List (Option (Option Nat))} (hd : zdn y.2.1 pc pc' (.invokevirtual idx) 3) (hl : zML y.1.cls idx y') (hy : zMV y' 4) (ho : S.1[b]? = some (.inr (.inr (ci, fs)))) (hcl : (vwCl[ci]?).map (fun q => q.1) = some y'.1.cls) (hlen : 4 + 1 ≤ y'.2.2.1)
    (hm : zEv l X y' d 0 (zent 0 [.inr b, a0, a1, a2, a3]) [] S 0 0 r1 S1) (hst : st.length ≤ 8) (k : zEv l X y (d + 1) pc' lv (r1.toList ++ st) S1 0 0 r S') : zEv l X y (d + 1) pc lv (a3 :: a2 :: a1 :: a0 :: .inr b :: st) S 0 0 r S' := ev_callV (as := [a0, a1, a2, a3]) hd hl hy ho hcl rfl hst hlen hm k
theorem ev_gS4 {l : Launch} {X : zX} {y : zMI} {d pc pc' : Nat} {lv : List (Nat × zV)} {st : List zV} {S : zS} {r : Option zV} {S' : zS} {y' : zMI} {idx : Nat} {a0 a1 a2 a3 : zV} {r1 : Option zV} {S1 : zS} (hd : zdn y.2.1 pc pc' (.invokestatic idx) 3) (hl : zML y.1.cls idx y') (hy : zMS y' 4) (hlen : 4 ≤ y'.2.2.1)
    (hm : zEv l X y' d 0 (zent 0 [a0, a1, a2, a3]) [] S 0 0 r1 S1) (hst : st.length ≤ 8) (k : zEv l X y (d + 1) pc' lv (r1.toList ++ st) S1 0 0 r S') : zEv l X y (d + 1) pc lv (a3 :: a2 :: a1 :: a0 :: st) S 0 0 r S' := ev_callS (as := [a0, a1, a2, a3]) hd hl hy rfl hst hlen hm k
