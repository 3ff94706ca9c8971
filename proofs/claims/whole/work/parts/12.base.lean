theorem zfn_4_0 : zFN 4 0 := fun q h => by cases h; exact ⟨rfl, by decide +kernel⟩
theorem zfn_4_1 : zFN 4 1 := fun q h => by cases h; exact ⟨rfl, by decide +kernel⟩
theorem zfn_6_2 : zFN 6 2 := fun q h => by cases h; exact ⟨rfl, by decide +kernel⟩
theorem zfn_6_3 : zFN 6 3 := fun q h => by cases h; exact ⟨rfl, by decide +kernel⟩
theorem zfn_6_4 : zFN 6 4 := fun q h => by cases h; exact ⟨rfl, by decide +kernel⟩
theorem zfn_6_5 : zFN 6 5 := fun q h => by cases h; exact ⟨rfl, by decide +kernel⟩
theorem zfn_6_6 : zFN 6 6 := fun q h => by cases h; exact ⟨rfl, by decide +kernel⟩
theorem zfn_8_3 : zFN 8 3 := fun q h => by cases h; exact ⟨rfl, by decide +kernel⟩
theorem zfn_5_4 : zFN 5 4 := fun q h => by cases h; exact ⟨rfl, by decide +kernel⟩
theorem zfn_5_5 : zFN 5 5 := fun q h => by cases h; exact ⟨rfl, by decide +kernel⟩
theorem zfn_5_6 : zFN 5 6 := fun q h => by cases h; exact ⟨rfl, by decide +kernel⟩
theorem zfn_0_3 : zFN 0 3 := fun q h => by cases h; exact ⟨rfl, by decide +kernel⟩
theorem zfn_7_5 : zFN 7 5 := fun q h => by cases h; exact ⟨rfl, by decide +kernel⟩
theorem zfn_7_6 : zFN 7 6 := fun q h => by cases h; exact ⟨rfl, by decide +kernel⟩
theorem zfn_7_7 : zFN 7 7 := fun q h => by cases h; exact ⟨rfl, by decide +kernel⟩
theorem zfn_9_9 : zFN 9 9 := fun q h => by cases h; exact ⟨rfl, by decide +kernel⟩
theorem zfn_10_0 : zFN 10 0 := fun q h => by cases h; exact ⟨rfl, by decide +kernel⟩
theorem zfn_10_2 : zFN 10 2 := fun q h => by cases h; exact ⟨rfl, by decide +kernel⟩
theorem zfn_10_3 : zFN 10 3 := fun q h => by cases h; exact ⟨rfl, by decide +kernel⟩
theorem zfn_10_4 : zFN 10 4 := fun q h => by cases h; exact ⟨rfl, by decide +kernel⟩
theorem zfn_10_5 : zFN 10 5 := fun q h => by cases h; exact ⟨rfl, by decide +kernel⟩
theorem zfn_10_6 : zFN 10 6 := fun q h => by cases h; exact ⟨rfl, by decide +kernel⟩
theorem zfn_10_7 : zFN 10 7 := fun q h => by cases h; exact ⟨rfl, by decide +kernel⟩
theorem zfn_10_8 : zFN 10 8 := fun q h => by cases h; exact ⟨rfl, by decide +kernel⟩
theorem zfn_10_9 : zFN 10 9 := fun q h => by cases h; exact ⟨rfl, by decide +kernel⟩
theorem zfn_10_10 : zFN 10 10 := fun q h => by cases h; exact ⟨rfl, by decide +kernel⟩
theorem zfn_10_11 : zFN 10 11 := fun q h => by cases h; exact ⟨rfl, by decide +kernel⟩
theorem zfn_10_12 : zFN 10 12 := fun q h => by cases h; exact ⟨rfl, by decide +kernel⟩
theorem zfn_10_13 : zFN 10 13 := fun q h => by cases h; exact ⟨rfl, by decide +kernel⟩
theorem zfn_10_24 : zFN 10 24 := fun q h => by cases h; exact ⟨rfl, by decide +kernel⟩
theorem zfn_10_26 : zFN 10 26 := fun q h => by cases h; exact ⟨rfl, by decide +kernel⟩
theorem zfn_10_28 : zFN 10 28 := fun q h => by cases h; exact ⟨rfl, by decide +kernel⟩
theorem zfn_10_32 : zFN 10 32 := fun q h => by cases h; exact ⟨rfl, by decide +kernel⟩
/-- an int array of n places, in the world or outside -/
def zar (X : zX) (S : zS) (a n : Nat) : Prop := S.1[a]? = some (.inl (0, n)) ∨ ∃ j, j < 7 ∧ a = 1000 + j ∧ n = zxl X j
theorem zar.al {X : zX} {S : zS} {a n : Nat} (h : zar X S a n) (hl : S.1.length ≤ 1000) : zal X S a = some n := by
  rcases h with h | ⟨j, hj, rfl, rfl⟩
  · have ha : a < 1000 := Nat.lt_of_lt_of_le (List.getElem?_eq_some_iff.mp h).1 hl
    simp [zal, ha, h]
  · have h1 : ¬ 1000 + j < 1000 := by omega
    have h2 : 1000 + j < 1007 := by omega
    have h3 : 1000 + j - 1000 = j := by omega
    simp only [zal, h1, h2, if_false, if_true, h3]
section ZR5
variable {l : Launch} {X : zX} {y : zMI} {d pc pc' : Nat} {lv : List (Nat × zV)} {st : List zV} {S : zS} {mc ms : Nat} {r : Option zV} {S' : zS}
theorem ev_iald2 {a n : Nat} {i : Int32} (hd : zdn y.2.1 pc pc' (.iaload) 1) (hn : zar X S a n) (hi : vp_in i n) (k : zEv l X y d pc' lv (.inl (S.2 a i.toNatClampNeg) :: st) S mc ms r S') : zEv l X y d pc lv (.inl i :: .inr a :: st) S mc ms r S' := fun E G D p e R s m args below meth c H locs cells slots Q ls hB hW => ev_iald hd (hn.al hW.2.1) hi k E G D p e R s m args below meth c H locs cells slots Q ls hB hW
theorem ev_alen2 {a n : Nat} {v : Int32} (hd : zdn y.2.1 pc pc' (.arraylength) 1) (hn : zar X S a n) (hv : Int32.ofNat n = v) (k : zEv l X y d pc' lv (.inl v :: st) S mc ms r S') : zEv l X y d pc lv (.inr a :: st) S mc ms r S' := fun E G D p e R s m args below meth c H locs cells slots Q ls hB hW => ev_alen hd (hn.al hW.2.1) hv k E G D p e R s m args below meth c H locs cells slots Q ls hB hW
theorem ev_iretz {v v' : Int32} (hd : zdn y.2.1 pc pc' (.ireturn) 1) (hr : y.2.2.2 = some .boolean) (hv : v = v' ∧ (v' = 0 ∨ v' = 1)) (hS : S = S') : zEv l X y d pc lv [.inl v] S 0 0 (some (.inl v')) S' := by
  obtain ⟨rfl, hb⟩ := hv
  subst hS
  refine ev_iret hd hr ?_
  rcases hb with rfl | rfl <;> rfl
end ZR5
theorem ev_callV0 {l : Launch} {X : zX} {y : zMI} {d pc pc' : Nat} {lv : List (Nat × zV)} {st : List zV} {S : zS} {mc ms : Nat} {r : Option zV} {S' : zS} {y' : zMI} {b idx ci : Nat} {r1 : Option zV} {S1 : zS} {mc1 ms1 : Nat} {fs : List (Option (Option Nat))} (hd : zdn y.2.1 pc pc' (.invokevirtual idx) 3) (hl : zML y.1.cls idx y') (hy : zMV y' 0) (ho : S.1[b]? = some (.inr (.inr (ci, fs)))) (hcl : (vwCl[ci]?).map (fun q => q.1) = some y'.1.cls) (hlen : 0 + 1 ≤ y'.2.2.1)
    (hm : zEv l X y' d 0 (zent 0 [.inr b]) [] S mc1 ms1 r1 S1) (hst : st.length ≤ 8) (k : zEv l X y (d + 1) pc' lv (r1.toList ++ st) S1 mc ms r S') : zEv l X y (d + 1) pc lv (.inr b :: st) S (mc1 + mc) (ms1 + ms) r S' := ev_callV (as := []) hd hl hy ho hcl rfl hst hlen hm k
theorem ev_callS0 {l : Launch} {X : zX} {y : zMI} {d pc pc' : Nat} {lv : List (Nat × zV)} {st : List zV} {S : zS} {mc ms : Nat} {r : Option zV} {S' : zS} {y' : zMI} {idx : Nat} {r1 : Option zV} {S1 : zS} {mc1 ms1 : Nat} (hd : zdn y.2.1 pc pc' (.invokestatic idx) 3) (hl : zML y.1.cls idx y') (hy : zMS y' 0) (hlen : 0 ≤ y'.2.2.1)
    (hm : zEv l X y' d 0 (zent 0 []) [] S mc1 ms1 r1 S1) (hst : st.length ≤ 8) (k : zEv l X y (d + 1) pc' lv (r1.toList ++ st) S1 mc ms r S') : zEv l X y (d + 1) pc lv (st) S (mc1 + mc) (ms1 + ms) r S' := ev_callS (as := []) hd hl hy rfl hst hlen hm k
theorem ev_gV0 {l : Launch} {X : zX} {y : zMI} {d pc pc' : Nat} {lv : List (Nat × zV)} {st : List zV} {S : zS} {r : Option zV} {S' : zS} {y' : zMI} {b idx ci : Nat} {r1 : Option zV} {S1 : zS} {fs : List (Option (Option Nat))} (hd : zdn y.2.1 pc pc' (.invokevirtual idx) 3) (hl : zML y.1.cls idx y') (hy : zMV y' 0) (ho : S.1[b]? = some (.inr (.inr (ci, fs)))) (hcl : (vwCl[ci]?).map (fun q => q.1) = some y'.1.cls) (hlen : 0 + 1 ≤ y'.2.2.1)
    (hm : zEv l X y' d 0 (zent 0 [.inr b]) [] S 0 0 r1 S1) (hst : st.length ≤ 8) (k : zEv l X y (d + 1) pc' lv (r1.toList ++ st) S1 0 0 r S') : zEv l X y (d + 1) pc lv (.inr b :: st) S 0 0 r S' := ev_callV (as := []) hd hl hy ho hcl rfl hst hlen hm k
theorem ev_gS0 {l : Launch} {X : zX} {y : zMI} {d pc pc' : Nat} {lv : List (Nat × zV)} {st : List zV} {S : zS} {r : Option zV} {S' : zS} {y' : zMI} {idx : Nat} {r1 : Option zV} {S1 : zS} (hd : zdn y.2.1 pc pc' (.invokestatic idx) 3) (hl : zML y.1.cls idx y') (hy : zMS y' 0) (hlen : 0 ≤ y'.2.2.1)
    (hm : zEv l X y' d 0 (zent 0 []) [] S 0 0 r1 S1) (hst : st.length ≤ 8) (k : zEv l X y (d + 1) pc' lv (r1.toList ++ st) S1 0 0 r S') : zEv l X y (d + 1) pc lv (st) S 0 0 r S' := ev_callS (as := []) hd hl hy rfl hst hlen hm k
theorem ev_callV1 {l : Launch} {X : zX} {y : zMI} {d pc pc' : Nat} {lv : List (Nat × zV)} {st : List zV} {S : zS} {mc ms : Nat} {r : Option zV} {S' : zS} {y' : zMI} {b idx ci : Nat} {a0 : zV} {r1 : Option zV} {S1 : zS} {mc1 ms1 : Nat} {fs : List (Option (Option Nat))} (hd : zdn y.2.1 pc pc' (.invokevirtual idx) 3) (hl : zML y.1.cls idx y') (hy : zMV y' 1) (ho : S.1[b]? = some (.inr (.inr (ci, fs)))) (hcl : (vwCl[ci]?).map (fun q => q.1) = some y'.1.cls) (hlen : 1 + 1 ≤ y'.2.2.1)
    (hm : zEv l X y' d 0 (zent 0 [.inr b, a0]) [] S mc1 ms1 r1 S1) (hst : st.length ≤ 8) (k : zEv l X y (d + 1) pc' lv (r1.toList ++ st) S1 mc ms r S') : zEv l X y (d + 1) pc lv (a0 :: .inr b :: st) S (mc1 + mc) (ms1 + ms) r S' := ev_callV (as := [a0]) hd hl hy ho hcl rfl hst hlen hm k
theorem ev_callS1 {l : Launch} {X : zX} {y : zMI} {d pc pc' : Nat} {lv : List (Nat × zV)} {st : List zV} {S : zS} {mc ms : Nat} {r : Option zV} {S' : zS} {y' : zMI} {idx : Nat} {a0 : zV} {r1 : Option zV} {S1 : zS} {mc1 ms1 : Nat} (hd : zdn y.2.1 pc pc' (.invokestatic idx) 3) (hl : zML y.1.cls idx y') (hy : zMS y' 1) (hlen : 1 ≤ y'.2.2.1)
    (hm : zEv l X y' d 0 (zent 0 [a0]) [] S mc1 ms1 r1 S1) (hst : st.length ≤ 8) (k : zEv l X y (d + 1) pc' lv (r1.toList ++ st) S1 mc ms r S') : zEv l X y (d + 1) pc lv (a0 :: st) S (mc1 + mc) (ms1 + ms) r S' := ev_callS (as := [a0]) hd hl hy rfl hst hlen hm k
theorem ev_gV1 {l : Launch} {X : zX} {y : zMI} {d pc pc' : Nat} {lv : List (Nat × zV)} {st : List zV} {S : zS} {r : Option zV} {S' : zS} {y' : zMI} {b idx ci : Nat} {a0 : zV} {r1 : Option zV} {S1 : zS} {fs : List (Option (Option Nat))} (hd : zdn y.2.1 pc pc' (.invokevirtual idx) 3) (hl : zML y.1.cls idx y') (hy : zMV y' 1) (ho : S.1[b]? = some (.inr (.inr (ci, fs)))) (hcl : (vwCl[ci]?).map (fun q => q.1) = some y'.1.cls) (hlen : 1 + 1 ≤ y'.2.2.1)
    (hm : zEv l X y' d 0 (zent 0 [.inr b, a0]) [] S 0 0 r1 S1) (hst : st.length ≤ 8) (k : zEv l X y (d + 1) pc' lv (r1.toList ++ st) S1 0 0 r S') : zEv l X y (d + 1) pc lv (a0 :: .inr b :: st) S 0 0 r S' := ev_callV (as := [a0]) hd hl hy ho hcl rfl hst hlen hm k
theorem ev_gS1 {l : Launch} {X : zX} {y : zMI} {d pc pc' : Nat} {lv : List (Nat × zV)} {st : List zV} {S : zS} {r : Option zV} {S' : zS} {y' : zMI} {idx : Nat} {a0 : zV} {r1 : Option zV} {S1 : zS} (hd : zdn y.2.1 pc pc' (.invokestatic idx) 3) (hl : zML y.1.cls idx y') (hy : zMS y' 1) (hlen : 1 ≤ y'.2.2.1)
    (hm : zEv l X y' d 0 (zent 0 [a0]) [] S 0 0 r1 S1) (hst : st.length ≤ 8) (k : zEv l X y (d + 1) pc' lv (r1.toList ++ st) S1 0 0 r S') : zEv l X y (d + 1) pc lv (a0 :: st) S 0 0 r S' := ev_callS (as := [a0]) hd hl hy rfl hst hlen hm k
theorem ev_callV2 {l : Launch} {X : zX} {y : zMI} {d pc pc' : Nat} {lv : List (Nat × zV)} {st : List zV} {S : zS} {mc ms : Nat} {r : Option zV} {S' : zS} {y' : zMI} {b idx ci : Nat} {a0 a1 : zV} {r1 : Option zV} {S1 : zS} {mc1 ms1 : Nat} {fs : List (Option (Option Nat))} (hd : zdn y.2.1 pc pc' (.invokevirtual idx) 3) (hl : zML y.1.cls idx y') (hy : zMV y' 2) (ho : S.1[b]? = some (.inr (.inr (ci, fs)))) (hcl : (vwCl[ci]?).map (fun q => q.1) = some y'.1.cls) (hlen : 2 + 1 ≤ y'.2.2.1)
    (hm : zEv l X y' d 0 (zent 0 [.inr b, a0, a1]) [] S mc1 ms1 r1 S1) (hst : st.length ≤ 8) (k : zEv l X y (d + 1) pc' lv (r1.toList ++ st) S1 mc ms r S') : zEv l X y (d + 1) pc lv (a1 :: a0 :: .inr b :: st) S (mc1 + mc) (ms1 + ms) r S' := ev_callV (as := [a0, a1]) hd hl hy ho hcl rfl hst hlen hm k
theorem ev_callS2 {l : Launch} {X : zX} {y : zMI} {d pc pc' : Nat} {lv : List (Nat × zV)} {st : List zV} {S : zS} {mc ms : Nat} {r : Option zV} {S' : zS} {y' : zMI} {idx : Nat} {a0 a1 : zV} {r1 : Option zV} {S1 : zS} {mc1 ms1 : Nat} (hd : zdn y.2.1 pc pc' (.invokestatic idx) 3) (hl : zML y.1.cls idx y') (hy : zMS y' 2) (hlen : 2 ≤ y'.2.2.1)
    (hm : zEv l X y' d 0 (zent 0 [a0, a1]) [] S mc1 ms1 r1 S1) (hst : st.length ≤ 8) (k : zEv l X y (d + 1) pc' lv (r1.toList ++ st) S1 mc ms r S') : zEv l X y (d + 1) pc lv (a1 :: a0 :: st) S (mc1 + mc) (ms1 + ms) r S' := ev_callS (as := [a0, a1]) hd hl hy rfl hst hlen hm k
theorem ev_gV2 {l : Launch} {X : zX} {y : zMI} {d pc pc' : Nat} {lv : List (Nat × zV)} {st : List zV} {S : zS} {r : Option zV} {S' : zS} {y' : zMI} {b idx ci : Nat} {a0 a1 : zV} {r1 : Option zV} {S1 : zS} {fs : List (Option (Option Nat))} (hd : zdn y.2.1 pc pc' (.invokevirtual idx) 3) (hl : zML y.1.cls idx y') (hy : zMV y' 2) (ho : S.1[b]? = some (.inr (.inr (ci, fs)))) (hcl : (vwCl[ci]?).map (fun q => q.1) = some y'.1.cls) (hlen : 2 + 1 ≤ y'.2.2.1)
    (hm : zEv l X y' d 0 (zent 0 [.inr b, a0, a1]) [] S 0 0 r1 S1) (hst : st.length ≤ 8) (k : zEv l X y (d + 1) pc' lv (r1.toList ++ st) S1 0 0 r S') : zEv l X y (d + 1) pc lv (a1 :: a0 :: .inr b :: st) S 0 0 r S' := ev_callV (as := [a0, a1]) hd hl hy ho hcl rfl hst hlen hm k
theorem ev_gS2 {l : Launch} {X : zX} {y : zMI} {d pc pc' : Nat} {lv : List (Nat × zV)} {st : List zV} {S : zS} {r : Option zV} {S' : zS} {y' : zMI} {idx : Nat} {a0 a1 : zV} {r1 : Option zV} {S1 : zS} (hd : zdn y.2.1 pc pc' (.invokestatic idx) 3) (hl : zML y.1.cls idx y') (hy : zMS y' 2) (hlen : 2 ≤ y'.2.2.1)
    (hm : zEv l X y' d 0 (zent 0 [a0, a1]) [] S 0 0 r1 S1) (hst : st.length ≤ 8) (k : zEv l X y (d + 1) pc' lv (r1.toList ++ st) S1 0 0 r S') : zEv l X y (d + 1) pc lv (a1 :: a0 :: st) S 0 0 r S' := ev_callS (as := [a0, a1]) hd hl hy rfl hst hlen hm k
theorem ev_callV3 {l : Launch} {X : zX} {y : zMI} {d pc pc' : Nat} {lv : List (Nat × zV)} {st : List zV} {S : zS} {mc ms : Nat} {r : Option zV} {S' : zS} {y' : zMI} {b idx ci : Nat} {a0 a1 a2 : zV} {r1 : Option zV} {S1 : zS} {mc1 ms1 : Nat} {fs : List (Option (Option Nat))} (hd : zdn y.2.1 pc pc' (.invokevirtual idx) 3) (hl : zML y.1.cls idx y') (hy : zMV y' 3) (ho : S.1[b]? = some (.inr (.inr (ci, fs)))) (hcl : (vwCl[ci]?).map (fun q => q.1) = some y'.1.cls) (hlen : 3 + 1 ≤ y'.2.2.1)
    (hm : zEv l X y' d 0 (zent 0 [.inr b, a0, a1, a2]) [] S mc1 ms1 r1 S1) (hst : st.length ≤ 8) (k : zEv l X y (d + 1) pc' lv (r1.toList ++ st) S1 mc ms r S') : zEv l X y (d + 1) pc lv (a2 :: a1 :: a0 :: .inr b :: st) S (mc1 + mc) (ms1 + ms) r S' := ev_callV (as := [a0, a1, a2]) hd hl hy ho hcl rfl hst hlen hm k
theorem ev_callS3 {l : Launch} {X : zX} {y : zMI} {d pc pc' : Nat} {lv : List (Nat × zV)} {st : List zV} {S : zS} {mc ms : Nat} {r : Option zV} {S' : zS} {y' : zMI} {idx : Nat} {a0 a1 a2 : zV} {r1 : Option zV} {S1 : zS} {mc1 ms1 : Nat} (hd : zdn y.2.1 pc pc' (.invokestatic idx) 3) (hl : zML y.1.cls idx y') (hy : zMS y' 3) (hlen : 3 ≤ y'.2.2.1)
    (hm : zEv l X y' d 0 (zent 0 [a0, a1, a2]) [] S mc1 ms1 r1 S1) (hst : st.length ≤ 8) (k : zEv l X y (d + 1) pc' lv (r1.toList ++ st) S1 mc ms r S') : zEv l X y (d + 1) pc lv (a2 :: a1 :: a0 :: st) S (mc1 + mc) (ms1 + ms) r S' := ev_callS (as := [a0, a1, a2]) hd hl hy rfl hst hlen hm k
theorem ev_gV3 {l : Launch} {X : zX} {y : zMI} {d pc pc' : Nat} {lv : List (Nat × zV)} {st : List zV} {S : zS} {r : Option zV} {S' : zS} {y' : zMI} {b idx ci : Nat} {a0 a1 a2 : zV} {r1 : Option zV} {S1 : zS} {fs : List (Option (Option Nat))} (hd : zdn y.2.1 pc pc' (.invokevirtual idx) 3) (hl : zML y.1.cls idx y') (hy : zMV y' 3) (ho : S.1[b]? = some (.inr (.inr (ci, fs)))) (hcl : (vwCl[ci]?).map (fun q => q.1) = some y'.1.cls) (hlen : 3 + 1 ≤ y'.2.2.1)
    (hm : zEv l X y' d 0 (zent 0 [.inr b, a0, a1, a2]) [] S 0 0 r1 S1) (hst : st.length ≤ 8) (k : zEv l X y (d + 1) pc' lv (r1.toList ++ st) S1 0 0 r S') : zEv l X y (d + 1) pc lv (a2 :: a1 :: a0 :: .inr b :: st) S 0 0 r S' := ev_callV (as := [a0, a1, a2]) hd hl hy ho hcl rfl hst hlen hm k
theorem ev_gS3 {l : Launch} {X : zX} {y : zMI} {d pc pc' : Nat} {lv : List (Nat × zV)} {st : List zV} {S : zS} {r : Option zV} {S' : zS} {y' : zMI} {idx : Nat} {a0 a1 a2 : zV} {r1 : Option zV} {S1 : zS} (hd : zdn y.2.1 pc pc' (.invokestatic idx) 3) (hl : zML y.1.cls idx y') (hy : zMS y' 3) (hlen : 3 ≤ y'.2.2.1)
    (hm : zEv l X y' d 0 (zent 0 [a0, a1, a2]) [] S 0 0 r1 S1) (hst : st.length ≤ 8) (k : zEv l X y (d + 1) pc' lv (r1.toList ++ st) S1 0 0 r S') : zEv l X y (d + 1) pc lv (a2 :: a1 :: a0 :: st) S 0 0 r S' := ev_callS (as := [a0, a1, a2]) hd hl hy rfl hst hlen hm k
theorem ev_callV4 {l : Launch} {X : zX} {y : zMI} {d pc pc' : Nat} {lv : List (Nat × zV)} {st : List zV} {S : zS} {mc ms : Nat} {r : Option zV} {S' : zS} {y' : zMI} {b idx ci : Nat} {a0 a1 a2 a3 : zV} {r1 : Option zV} {S1 : zS} {mc1 ms1 : Nat} {fs : List (Option (Option Nat))} (hd : zdn y.2.1 pc pc' (.invokevirtual idx) 3) (hl : zML y.1.cls idx y') (hy : zMV y' 4) (ho : S.1[b]? = some (.inr (.inr (ci, fs)))) (hcl : (vwCl[ci]?).map (fun q => q.1) = some y'.1.cls) (hlen : 4 + 1 ≤ y'.2.2.1)
    (hm : zEv l X y' d 0 (zent 0 [.inr b, a0, a1, a2, a3]) [] S mc1 ms1 r1 S1) (hst : st.length ≤ 8) (k : zEv l X y (d + 1) pc' lv (r1.toList ++ st) S1 mc ms r S') : zEv l X y (d + 1) pc lv (a3 :: a2 :: a1 :: a0 :: .inr b :: st) S (mc1 + mc) (ms1 + ms) r S' := ev_callV (as := [a0, a1, a2, a3]) hd hl hy ho hcl rfl hst hlen hm k
theorem ev_callS4 {l : Launch} {X : zX} {y : zMI} {d pc pc' : Nat} {lv : List (Nat × zV)} {st : List zV} {S : zS} {mc ms : Nat} {r : Option zV} {S' : zS} {y' : zMI} {idx : Nat} {a0 a1 a2 a3 : zV} {r1 : Option zV} {S1 : zS} {mc1 ms1 : Nat} (hd : zdn y.2.1 pc pc' (.invokestatic idx) 3) (hl : zML y.1.cls idx y') (hy : zMS y' 4) (hlen : 4 ≤ y'.2.2.1)
    (hm : zEv l X y' d 0 (zent 0 [a0, a1, a2, a3]) [] S mc1 ms1 r1 S1) (hst : st.length ≤ 8) (k : zEv l X y (d + 1) pc' lv (r1.toList ++ st) S1 mc ms r S') : zEv l X y (d + 1) pc lv (a3 :: a2 :: a1 :: a0 :: st) S (mc1 + mc) (ms1 + ms) r S' := ev_callS (as := [a0, a1, a2, a3]) hd hl hy rfl hst hlen hm k
theorem ev_gV4 {l : Launch} {X : zX} {y : zMI} {d pc pc' : Nat} {lv : List (Nat × zV)} {st : List zV} {S : zS} {r : Option zV} {S' : zS} {y' : zMI} {b idx ci : Nat} {a0 a1 a2 a3 : zV} {r1 : Option zV} {S1 : zS} {fs : List (Option (Option Nat))} (hd : zdn y.2.1 pc pc' (.invokevirtual idx) 3) (hl : zML y.1.cls idx y') (hy : zMV y' 4) (ho : S.1[b]? = some (.inr (.inr (ci, fs)))) (hcl : (vwCl[ci]?).map (fun q => q.1) = some y'.1.cls) (hlen : 4 + 1 ≤ y'.2.2.1)
    (hm : zEv l X y' d 0 (zent 0 [.inr b, a0, a1, a2, a3]) [] S 0 0 r1 S1) (hst : st.length ≤ 8) (k : zEv l X y (d + 1) pc' lv (r1.toList ++ st) S1 0 0 r S') : zEv l X y (d + 1) pc lv (a3 :: a2 :: a1 :: a0 :: .inr b :: st) S 0 0 r S' := ev_callV (as := [a0, a1, a2, a3]) hd hl hy ho hcl rfl hst hlen hm k
theorem ev_gS4 {l : Launch} {X : zX} {y : zMI} {d pc pc' : Nat} {lv : List (Nat × zV)} {st : List zV} {S : zS} {r : Option zV} {S' : zS} {y' : zMI} {idx : Nat} {a0 a1 a2 a3 : zV} {r1 : Option zV} {S1 : zS} (hd : zdn y.2.1 pc pc' (.invokestatic idx) 3) (hl : zML y.1.cls idx y') (hy : zMS y' 4) (hlen : 4 ≤ y'.2.2.1)
    (hm : zEv l X y' d 0 (zent 0 [a0, a1, a2, a3]) [] S 0 0 r1 S1) (hst : st.length ≤ 8) (k : zEv l X y (d + 1) pc' lv (r1.toList ++ st) S1 0 0 r S') : zEv l X y (d + 1) pc lv (a3 :: a2 :: a1 :: a0 :: st) S 0 0 r S' := ev_callS (as := [a0, a1, a2, a3]) hd hl hy rfl hst hlen hm k
abbrev zRn (l : Launch) (X : zX) (y : zMI) (d : Nat) (as : List zV) (S : zS) (r : Option zV) (S' : zS) : Prop := zEv l X y d 0 (zent 0 as) [] S 0 0 r S'
def bz (b : Bool) : Int32 := match b with
  | true => 1
  | false => 0
theorem bz_01 (b : Bool) : bz b = 0 ∨ bz b = 1 := by cases b <;> simp [bz]
/-- row f of n places at i: 0 without -/
def rA (f : Nat → Int32) (n : Nat) (i : Int32) : Int32 := if 0 ≤ i.toInt ∧ i.toInt < n then f i.toNatClampNeg else 0
def rP (f : Nat → Int32) (n : Nat) (i v : Int32) : Nat → Int32 := if 0 ≤ i.toInt ∧ i.toInt < n then upd f i.toNatClampNeg v else f
theorem rA_in {f : Nat → Int32} {n : Nat} {i : Int32} (h : 0 ≤ i.toInt ∧ i.toInt < n) : rA f n i = f i.toNatClampNeg := if_pos h
theorem rA_out {f : Nat → Int32} {n : Nat} {i : Int32} (h : ¬ (0 ≤ i.toInt ∧ i.toInt < n)) : rA f n i = 0 := if_neg h
theorem rP_in {f : Nat → Int32} {n : Nat} {i v : Int32} (h : 0 ≤ i.toInt ∧ i.toInt < n) : rP f n i v = upd f i.toNatClampNeg v := if_pos h
theorem rP_out {f : Nat → Int32} {n : Nat} {i v : Int32} (h : ¬ (0 ≤ i.toInt ∧ i.toInt < n)) : rP f n i v = f := if_neg h
theorem rA_n {f : Nat → Int32} {n j : Nat} (h : j < n) (hn : n < 2 ^ 31) : rA f n (nI j) = f j := by
  rw [rA_in (by rw [nI_toInt (by omega)]; omega), nI_clamp (by omega)]
theorem rP_n {f : Nat → Int32} {n j : Nat} {v : Int32} (h : j < n) (hn : n < 2 ^ 31) : rP f n (nI j) v = upd f j v := by
  rw [rP_in (by rw [nI_toInt (by omega)]; omega), nI_clamp (by omega)]
theorem zlt0 {x : Int32} : x < 0 ↔ x.toInt < 0 := by rw [Int32.lt_iff_toInt_lt]; rfl
theorem znle {x : Int32} {n : Nat} (hn : n < 2 ^ 31) : nI n ≤ x ↔ (n : Int) ≤ x.toInt := by rw [Int32.le_iff_toInt_le, nI_toInt hn]
theorem zin_of {x : Int32} {n : Nat} (hn : n < 2 ^ 31) (h1 : ¬ x < 0) (h2 : ¬ nI n ≤ x) : 0 ≤ x.toInt ∧ x.toInt < n := by
  rw [zlt0] at h1
  rw [znle hn] at h2
  omega
theorem zin {x : Int32} {n : Nat} (h : 0 ≤ x.toInt ∧ x.toInt < n) : vp_in x n := vp_in_iff.mpr h
theorem zout0 {x : Int32} {n : Nat} (h1 : x < 0) : ¬ (0 ≤ x.toInt ∧ x.toInt < n) := by
  rw [zlt0] at h1
  omega
theorem zout1 {x : Int32} {n : Nat} (hn : n < 2 ^ 31) (h1 : nI n ≤ x) : ¬ (0 ≤ x.toInt ∧ x.toInt < n) := by
  rw [znle hn] at h1
  omega
theorem zof {n : Nat} : Int32.ofNat n = nI n := rfl
theorem zhs_hs (h : zH) (k : Nat) (f g : Nat → Int32) : zhs (zhs h k f) k g = zhs h k g := by
  funext a
  by_cases ha : a = k
  · subst ha; rw [zhs_s, zhs_s]
  · rw [zhs_n _ _ ha, zhs_n _ _ ha, zhs_n _ _ ha]
theorem e_X8_at {l : Launch} {X : zX} {d : Nat} {S : zS} {a n : Nat} {i : Int32} (hr : zar X S a n) (hn : n < 2 ^ 31) : zRn l X mi_X8_at d [.inr a, .inl i] S (some (.inl (rA (S.2 a) n i))) S := by
  refine ev_iload_n (i := 1) t_X8_at_0 rfl rfl ?_
  refine ev_if_lt t_X8_at_1 (fun c1 => ?_) (fun c1 => ?_)
  · skip
    refine ev_iconst (v := 0) t_X8_at_16 zi_0 ?_
    exact ev_ireti t_X8_at_17 rfl (by first | exact (rA_in (zin_of hn c1 c7)).symm | exact (rA_out (zout0 c1)).symm | exact (rA_out (zout1 hn c7)).symm) rfl
  · skip
    refine ev_iload_n (i := 1) t_X8_at_4 rfl rfl ?_
    refine ev_aload_n (i := 0) t_X8_at_5 rfl rfl ?_
    refine ev_alen2 t_X8_at_6 hr zof ?_
    refine ev_icmp_ge t_X8_at_7 (fun c7 => ?_) (fun c7 => ?_)
    · skip
      refine ev_iconst (v := 0) t_X8_at_16 zi_0 ?_
      exact ev_ireti t_X8_at_17 rfl (by first | exact (rA_in (zin_of hn c1 c7)).symm | exact (rA_out (zout0 c1)).symm | exact (rA_out (zout1 hn c7)).symm) rfl
    · skip
      refine ev_aload_n (i := 0) t_X8_at_10 rfl rfl ?_
      refine ev_iload_n (i := 1) t_X8_at_11 rfl rfl ?_
      refine ev_iald2 t_X8_at_12 hr (zin (zin_of hn c1 c7)) ?_
      refine ev_goto t_X8_at_13 ?_
      exact ev_ireti t_X8_at_17 rfl (by first | exact (rA_in (zin_of hn c1 c7)).symm | exact (rA_out (zout0 c1)).symm | exact (rA_out (zout1 hn c7)).symm) rfl

theorem e_X8_put {l : Launch} {X : zX} {d : Nat} {S : zS} {a n : Nat} {i v : Int32} (hr : S.1[a]? = some (.inl (0, n))) (hn : n < 2 ^ 31) : zRn l X mi_X8_put d [.inr a, .inl i, .inl v] S none (S.1, zhs S.2 a (rP (S.2 a) n i v)) := by
  refine ev_iload_n (i := 1) t_X8_put_0 rfl rfl ?_
  refine ev_if_lt t_X8_put_1 (fun c1 => ?_) (fun c1 => ?_)
  · skip
    exact ev_vret t_X8_put_14 rfl (by first | (rw [rP_in (zin_of hn c1 c7)]; done) | (rw [rP_out (zout0 c1), zhs_id]) | (rw [rP_out (zout1 hn c7), zhs_id]))
  · skip
    refine ev_iload_n (i := 1) t_X8_put_4 rfl rfl ?_
    refine ev_aload_n (i := 0) t_X8_put_5 rfl rfl ?_
    refine ev_alen2 t_X8_put_6 (Or.inl hr) zof ?_
    refine ev_icmp_ge t_X8_put_7 (fun c7 => ?_) (fun c7 => ?_)
    · skip
      exact ev_vret t_X8_put_14 rfl (by first | (rw [rP_in (zin_of hn c1 c7)]; done) | (rw [rP_out (zout0 c1), zhs_id]) | (rw [rP_out (zout1 hn c7), zhs_id]))
    · skip
      refine ev_aload_n (i := 0) t_X8_put_10 rfl rfl ?_
      refine ev_iload_n (i := 1) t_X8_put_11 rfl rfl ?_
      refine ev_iload_n (i := 2) t_X8_put_12 rfl rfl ?_
      refine ev_iast t_X8_put_13 hr (zin (zin_of hn c1 c7)) ?_
      exact ev_vret t_X8_put_14 rfl (by first | (rw [rP_in (zin_of hn c1 c7)]; done) | (rw [rP_out (zout0 c1), zhs_id]) | (rw [rP_out (zout1 hn c7), zhs_id]))

theorem e_X8_add {l : Launch} {X : zX} {d : Nat} {S : zS} {a n : Nat} {i v : Int32} (hr : S.1[a]? = some (.inl (0, n))) (hn : n < 2 ^ 31) : zRn l X mi_X8_add d [.inr a, .inl i, .inl v] S none (S.1, zhs S.2 a (rP (S.2 a) n i (rA (S.2 a) n i + v))) := by
  refine ev_iload_n (i := 1) t_X8_add_0 rfl rfl ?_
  refine ev_if_lt t_X8_add_1 (fun c1 => ?_) (fun c1 => ?_)
  · skip
    exact ev_vret t_X8_add_17 rfl (by first | (rw [rP_in (zin_of hn c1 c7), rA_in (zin_of hn c1 c7)]; done) | (rw [rP_out (zout0 c1), zhs_id]) | (rw [rP_out (zout1 hn c7), zhs_id]))
  · skip
    refine ev_iload_n (i := 1) t_X8_add_4 rfl rfl ?_
    refine ev_aload_n (i := 0) t_X8_add_5 rfl rfl ?_
    refine ev_alen2 t_X8_add_6 (Or.inl hr) zof ?_
    refine ev_icmp_ge t_X8_add_7 (fun c7 => ?_) (fun c7 => ?_)
    · skip
      exact ev_vret t_X8_add_17 rfl (by first | (rw [rP_in (zin_of hn c1 c7), rA_in (zin_of hn c1 c7)]; done) | (rw [rP_out (zout0 c1), zhs_id]) | (rw [rP_out (zout1 hn c7), zhs_id]))
    · skip
      refine ev_aload_n (i := 0) t_X8_add_10 rfl rfl ?_
      refine ev_iload_n (i := 1) t_X8_add_11 rfl rfl ?_
      refine ev_dup2 t_X8_add_12 ?_
      refine ev_iald2 t_X8_add_13 (Or.inl hr) (zin (zin_of hn c1 c7)) ?_
      refine ev_iload_n (i := 2) t_X8_add_14 rfl rfl ?_
      refine ev_iadd t_X8_add_15 ?_
      refine ev_iast t_X8_add_16 hr (zin (zin_of hn c1 c7)) ?_
      exact ev_vret t_X8_add_17 rfl (by first | (rw [rP_in (zin_of hn c1 c7), rA_in (zin_of hn c1 c7)]; done) | (rw [rP_out (zout0 c1), zhs_id]) | (rw [rP_out (zout1 hn c7), zhs_id]))


theorem lp_X8_clear {l : Launch} {X : zX} {d : Nat} {S : zS} {a n : Nat} (hr : S.1[a]? = some (.inl (0, n))) (hn : n < 2 ^ 31) : ∀ j i : Nat, i + j = n + 1 → i ≤ n → zEv l X mi_X8_clear d 2 [(0, .inr a), (1, .inl (nI i))] [] (S.1, zhs S.2 a (fun k => if k < i then 0 else S.2 a k)) 0 0 none (S.1, zhs S.2 a (fun k => if k < n then 0 else S.2 a k)) := by
  intro j
  induction j with
  | zero => intro i h h2; omega
  | succ j ih =>
    intro i h h2
    refine ev_iload_n (i := 1) t_X8_clear_2 rfl rfl ?_
    refine ev_aload_n (i := 0) t_X8_clear_3 rfl rfl ?_
    refine ev_alen2 t_X8_clear_4 (Or.inl hr) zof ?_
    refine ev_icmp_ge t_X8_clear_5 (fun c5 => ?_) (fun c5 => ?_)
    · skip
      have hie : i = n := by have := (nI_leI hn (by omega)).mp c5; omega
      subst hie
      exact ev_vret t_X8_clear_18 rfl rfl
    · skip
      have hin : i < n := Nat.lt_of_not_le (fun q => c5 (nI_le q (by omega)))
      refine ev_aload_n (i := 0) t_X8_clear_8 rfl rfl ?_
      refine ev_iload_n (i := 1) t_X8_clear_9 rfl rfl ?_
      refine ev_iconst (v := 0) t_X8_clear_10 zi_0 ?_
      refine ev_iast t_X8_clear_11 hr (vp_in_nI hin hn) ?_
      refine ev_iinc (v := 1) t_X8_clear_12 rfl zi_1 ?_
      refine ev_goto t_X8_clear_15 ?_
      have e1 : nI i + 1 = nI (i + 1) := nI_1 i
      rw [e1]
      have e2 : zhs (zhs S.2 a (fun k => if k < i then 0 else S.2 a k)) a (upd (zhs S.2 a (fun k => if k < i then 0 else S.2 a k) a) (nI i).toNatClampNeg 0) = zhs S.2 a (fun k => if k < i + 1 then 0 else S.2 a k) := by
        rw [zhs_hs, zhs_s, nI_clamp (by omega)]
        congr 1
        funext k
        simp only [upd]
        by_cases hk : k = i
        · subst hk; simp
        · by_cases hk2 : k < i
          · rw [if_neg hk, if_pos hk2, if_pos (by omega)]
          · rw [if_neg hk, if_neg hk2, if_neg (by omega)]
      show zEv _ _ _ _ _ _ _ (S.1, zhs (zhs S.2 a (fun k => if k < i then 0 else S.2 a k)) a (upd (zhs S.2 a (fun k => if k < i then 0 else S.2 a k) a) (nI i).toNatClampNeg 0)) _ _ _ _
      rw [e2]
      exact ih (i + 1) (by omega) (by omega)

theorem e_X8_clear {l : Launch} {X : zX} {d : Nat} {S : zS} {a n : Nat} (hr : S.1[a]? = some (.inl (0, n))) (hn : n < 2 ^ 31) : zRn l X mi_X8_clear d [.inr a] S none (S.1, zhs S.2 a (fun k => if k < n then 0 else S.2 a k)) := by
  refine ev_iconst (v := 0) t_X8_clear_0 zi_0 ?_
  refine ev_istore_n (i := 1) t_X8_clear_1 rfl (Nat.le_of_ble_eq_true rfl) ?_
  have h := lp_X8_clear (l := l) (X := X) (d := d) hr hn (n + 1) 0 (by omega) (by omega)
  rw [show (fun k => if k < 0 then (0 : Int32) else S.2 a k) = S.2 a from funext (fun k => if_neg (Nat.not_lt_zero k)), zhs_id] at h
  exact h

theorem e_J_max {l : Launch} {X : zX} {d : Nat} {S : zS} {a b : Int32} : zRn l X mi_J_max d [.inl a, .inl b] S (some (.inl (if a < b then b else a))) S := by
  refine ev_iload_n (i := 0) t_J_max_0 rfl rfl ?_
  refine ev_iload_n (i := 1) t_J_max_1 rfl rfl ?_
  refine ev_icmp_lt t_J_max_2 (fun c2 => ?_) (fun c2 => ?_)
  · skip
    refine ev_iload_n (i := 1) t_J_max_9 rfl rfl ?_
    exact ev_ireti t_J_max_10 rfl (by first | exact (if_pos c2).symm | exact (if_neg c2).symm) rfl
  · skip
    refine ev_iload_n (i := 0) t_J_max_5 rfl rfl ?_
    refine ev_goto t_J_max_6 ?_
    exact ev_ireti t_J_max_10 rfl (by first | exact (if_pos c2).symm | exact (if_neg c2).symm) rfl

theorem e_J_min {l : Launch} {X : zX} {d : Nat} {S : zS} {a b : Int32} : zRn l X mi_J_min d [.inl a, .inl b] S (some (.inl (if b < a then b else a))) S := by
  refine ev_iload_n (i := 0) t_J_min_0 rfl rfl ?_
  refine ev_iload_n (i := 1) t_J_min_1 rfl rfl ?_
  refine ev_icmp_gt t_J_min_2 (fun c2 => ?_) (fun c2 => ?_)
  · skip
    refine ev_iload_n (i := 1) t_J_min_9 rfl rfl ?_
    exact ev_ireti t_J_min_10 rfl (by first | exact (if_pos c2).symm | exact (if_neg c2).symm) rfl
  · skip
    refine ev_iload_n (i := 0) t_J_min_5 rfl rfl ?_
    refine ev_goto t_J_min_6 ?_
    exact ev_ireti t_J_min_10 rfl (by first | exact (if_pos c2).symm | exact (if_neg c2).symm) rfl

theorem e_X8_copy {l : Launch} {X : zX} {d : Nat} {S : zS} {a b n : Nat} (ha : S.1[a]? = some (.inl (0, n))) (hb : S.1[b]? = some (.inl (0, n))) (hn : n < 2 ^ 31) : zRn l X mi_X8_copy (d + 1) [.inr a, .inr b] S none (S.1, zhs S.2 b (fun k => if k < n then S.2 a k else S.2 b k)) := by
  refine ev_aload_n (i := 0) t_X8_copy_0 rfl rfl ?_
  refine ev_iconst (v := 0) t_X8_copy_1 zi_0 ?_
  refine ev_aload_n (i := 1) t_X8_copy_2 rfl rfl ?_
  refine ev_iconst (v := 0) t_X8_copy_3 zi_0 ?_
  refine ev_aload_n (i := 0) t_X8_copy_4 rfl rfl ?_
  refine ev_alen2 t_X8_copy_5 (Or.inl ha) zof ?_
  refine ev_aload_n (i := 1) t_X8_copy_6 rfl rfl ?_
  refine ev_alen2 t_X8_copy_7 (Or.inl hb) zof ?_
  refine ev_gS2 t_X8_copy_8 ml_X8_7 mo_J_min (Nat.le_of_ble_eq_true rfl) (e_J_min (d := d)) (Nat.le_of_ble_eq_true rfl) ?_
  rw [ite_self]
  refine ev_copy t_X8_copy_11 ac_X8_13 ha hb (by decide) (by decide) (nI_pos hn) (by rw [nI_clamp hn]; exact Nat.le_of_eq (Nat.zero_add n)) (by rw [nI_clamp hn]; exact Nat.le_of_eq (Nat.zero_add n)) (Nat.le_of_ble_eq_true rfl) rfl ?_
  exact ev_vret t_X8_copy_14 rfl (by rw [nI_clamp hn]; congr 2; funext k; simp [va_cpy])

