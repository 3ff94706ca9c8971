theorem PA.mono {np nc M N : Nat} {po me lo ce pt b : Nat → Int32} (h : PA np nc M po me lo ce pt b) (hn : M ≤ N) : PA np nc N po me lo ce pt b := fun t ht => ⟨(h t ht).1.mono hn, (h t ht).2⟩
theorem SR.mono {np nc M N : Nat} {dn va po me lo ce pt s b : Nat → Int32} {sd : Int32} (h : SR np nc M dn va po me lo ce pt sd s b) (hn : M ≤ N) : SR np nc N dn va po me lo ce pt sd s b :=
  ⟨h.1, h.2.1, fun p hp => nb_le (h.2.2.1 p hp) hn, h.2.2.2.1, h.2.2.2.2.1, h.2.2.2.2.2.1, h.2.2.2.2.2.2.1, h.2.2.2.2.2.2.2.imp id (fun q => ⟨q.1.mono hn, q.2.mono hn⟩)⟩
/-- other DEEDS, VANITIES -/
theorem SR.folk {np nc M : Nat} {dn va dn' va' po me lo ce pt s s' b : Nat → Int32} {sd : Int32} (h : SR np nc M dn va po me lo ce pt sd s b) (hF : FR np dn' va' s') (hs : ∀ k, 20 ≤ k → s' k = s k) : SR np nc M dn' va' po me lo ce pt sd s' b := by
  obtain ⟨-, hG, hme, hz, hlo, hsd, hE, hdu⟩ := h
  refine ⟨hF, hG.congr2 (fun k k1 k2 => hs k (by omega)), hme, hz, hlo, ⟨(hs 63 (by omega)).trans hsd.1, hsd.2⟩, fun i hi => ?_, ?_⟩
  · rw [hs _ (by unfold qx; split <;> omega)]; exact hE i hi
  · rcases hdu with ⟨a1, a2, a3, a4⟩ | ⟨a1, a2⟩
    · exact Or.inl ⟨a1, a2, a3, (hs 24 (by omega)).trans a4⟩
    · exact Or.inr ⟨a1.congr2 (fun _ _ => rfl) (fun k k1 k2 => hs k k1), a2⟩
theorem SR.seed {np nc M : Nat} {dn va po me lo ce pt s b : Nat → Int32} {sd v : Int32} (hp4 : np ≤ 4) (h : SR np nc M dn va po me lo ce pt sd s b) (hv : ¬ v < 0) : SR np nc M dn va po me lo ce pt v (upd s 63 v) b := by
  obtain ⟨hF, hG, hme, hz, hlo, hsd, hE, hdu⟩ := h
  refine ⟨⟨fun d hd => ?_, fun d t hd ht => ?_⟩, hG.congr2 (fun k k1 k2 => upn (by omega)), hme, hz, hlo, ⟨ups, hv⟩, fun i hi => ?_, ?_⟩
  · rw [upn (by omega)]; exact hF.1 d hd
  · rw [upn (by omega)]; exact hF.2 d t hd ht
  · rw [upn (by unfold qx; split <;> omega)]; exact hE i hi
  · rcases hdu with ⟨a1, a2, a3, a4⟩ | ⟨a1, a2⟩
    · exact Or.inl ⟨a1, a2, a3, (upn (by omega)).trans a4⟩
    · exact Or.inr ⟨a1.congr2 (fun _ _ => rfl) (fun k k1 k2 => upn (by omega)), a2⟩
/-- the same scene in other rows -/
theorem SR.congr {np nc M : Nat} {dn va po me lo ce pt s b dn' va' po' me' lo' ce' pt' s' b' : Nat → Int32} {sd : Int32} (hp4 : np ≤ 4) (hc8 : nc ≤ 8) (h : SR np nc M dn va po me lo ce pt sd s b)
    (h1 : ∀ i, i < 4 → dn' i = dn i) (h2 : ∀ i, i < 16 → va' i = va i) (h3 : ∀ i, i < 4 → po' i = po i) (h4 : ∀ i, i < 6 → me' i = me i) (h5 : ∀ i, i < 12 → lo' i = lo i) (h6 : ∀ i, i < 20 → ce' i = ce i) (h7 : ∀ i, i < 800 → pt' i = pt i) (h8 : ∀ i, i < 64 → s' i = s i) (h9 : ∀ i, i < 4096 → b' i = b i) : SR np nc M dn' va' po' me' lo' ce' pt' sd s' b' := by
  obtain ⟨hF, hG, hme, hz, hlo, hsd, hE, hdu⟩ := h
  refine ⟨⟨fun d hd => ?_, fun d t hd ht => ?_⟩, hG.congr h3 h4 h5 (fun k hk => h8 k (by omega)), fun p hp => ?_, fun p hp hn => ?_, fun p k hp hk hkm => ?_, ⟨?_, hsd.2⟩, fun i hi => ?_, ?_⟩
  · rw [h8 d (by omega), h1 d (by omega)]; exact hF.1 d hd
  · rw [h8 _ (by omega), h2 _ (by omega)]; exact hF.2 d t hd ht
  · rw [h4 p hp]; exact hme p hp
  · rw [h4 p hp]; exact hz p hp hn
  · rw [h4 p hp] at hkm; rw [h5 _ (by omega)]; exact hlo p k hp hk hkm
  · rw [h8 63 (by omega)]; exact hsd.1
  · rw [h8 _ (by unfold qx; split <;> omega), h6 i hi]; exact hE i hi
  · rcases hdu with ⟨a1, a2, a3, a4⟩ | ⟨a1, a2⟩
    · exact Or.inl ⟨(h6 0 (by omega)).trans a1, (h6 1 (by omega)).trans a2, fun i hi => (h6 _ (by omega)).trans (a3 i hi), (h8 24 (by omega)).trans a4⟩
    · obtain ⟨T, hT, hT35⟩ := a1.T hc8
      obtain ⟨A, B, hA, hB, hAB, eA, eB⟩ := a1.two hp4
      refine Or.inr ⟨a1.congr h6 (fun k hk => h8 k (by omega)), fun t ht => ?_⟩
      rw [h6 3 (by omega)] at ht
      obtain ⟨b1, b2, b3, b4, b5⟩ := a2 t ht
      have ht35 : t < 35 := by rw [hT, nI_clamp (by omega)] at ht; omega
      have e0 : ce' 0 = nI A := (h6 0 (by omega)).trans eA
      have e1 : ce' 1 = nI B := (h6 1 (by omega)).trans eB
      have e2 := h6 2 (by omega)
      refine ⟨b1.congr (fun i hi => h7 _ (by omega)) (fun k hk => h9 _ (by omega)), (h7 _ (by omega)).trans b2, (h7 _ (by omega)).trans b3, fun i hi => ?_, ?_⟩
      · rw [h7 _ (by omega), b4 i hi, h6 i (by omega)]
      · rw [tb15_e e0 e1, tb16_e e0 e1, e2]
        rw [tb15_e eA eB, tb16_e eA eB] at b5
        refine b5.congr (fun i hi => ?_) (fun i hi => ?_) h5 (fun k hk => h9 _ (by omega))
        · split
          · exact h3 i hi
          · unfold luP
            rw [lAdn4 (by omega), lAdn4 (by omega), lAdn4 (by omega), lAdn4 (by omega)]
            by_cases c1 : i = B
            · subst c1
              rw [ups, ups]
              by_cases c2 : i = A
              · exact absurd c2.symm hAB
              · rw [upn c2, upn c2, h3 i hi]
            · rw [upn c1, upn c1]
              by_cases c2 : i = A
              · subst c2; rw [ups, ups, h3 i hi]
              · rw [upn c2, upn c2, h3 i hi]
        · split
          · exact h4 i hi
          · unfold luM
            have hp6 := (pr_e A (by omega) B (by omega) hAB).2
            rw [prO_e A (by omega) B (by omega) hAB, rA_n hp6 (by decide), rP_n hp6 (by decide), rA_n hp6 (by decide), rP_n hp6 (by decide), h4 _ hp6]
            by_cases c1 : i = prN A B
            · subst c1; rw [ups, ups]
            · rw [upn c1, upn c1, h4 i hi]
def WH (np nc kw kc kb kn : Nat) (μ : zH) : Prop := (μ 1 0 = nI np ∧ μ 1 1 = nI nc ∧ μ 54 4 = nI kw ∧ μ 54 5 = nI kc ∧ μ 54 6 = nI kb ∧ μ 6 2 = nI kn) ∧ (μ 67 10 = nI np ∧ μ 67 11 = nI nc ∧ μ 67 24 = nI kw ∧ μ 67 26 = nI kc ∧ μ 67 28 = nI kb ∧ μ 67 2 = nI kn) ∧ μ 0 9 = μ 67 9 ∧ np ≤ 4 ∧ nc ≤ 8 ∧ kw ≤ 12 ∧ kc ≤ 4 ∧ kb ≤ 20 ∧ kn ≤ 250
def WT (kn : Nat) (μ : zH) : Prop := ∀ k, k < kn → μ 12 k = μ 68 k ∧ nb (μ 68 k) 256
def WL (np nc : Nat) (μ : zH) : Prop := LR np nc (μ 2) (μ 3) (μ 4) (μ 69) (μ 70) ∧ ∀ c, c < 8 → nb (μ 70 (40 + 5 * c)) 4
def WS (np nc M : Nat) (μ : zH) : Prop := SR np nc M (μ 24) (μ 25) (μ 15) (μ 16) (μ 17) (μ 21) (μ 22) (μ 13 3) (μ 72) (μ 74)
def WM (np nc M : Nat) (μ : zH) : Prop := (∀ i, i < 2 → μ 53 i = μ 77 i ∧ (μ 77 i = 0 ∨ μ 77 i = 1)) ∧
  (¬ μ 77 0 = 0 → SR np nc M (μ 38) (μ 39) (μ 29) (μ 30) (μ 31) (μ 35) (μ 36) (μ 27 3) (fun k => μ 75 (64 * 0 + k)) (fun k => μ 76 (4096 * 0 + k))) ∧
  (¬ μ 77 1 = 0 → SR np nc M (μ 51) (μ 52) (μ 42) (μ 43) (μ 44) (μ 48) (μ 49) (μ 40 3) (fun k => μ 75 (64 * 1 + k)) (fun k => μ 76 (4096 * 1 + k)))
def WN (np nc kw kc kb : Nat) (μ : zH) : Prop := (∀ k, k < kw → (∀ i, i < 4 → μ 55 (4 * k + i) = μ 78 (4 * k + i)) ∧ nb (μ 78 (4 * k)) nc ∧ nb (μ 78 (4 * k + 1)) np ∧ nb (μ 78 (4 * k + 2)) 10) ∧ (∀ k, k < kc → μ 56 k = μ 79 k) ∧ ∀ k, k < kb → μ 57 k = μ 80 k ∧ (μ 80 k = 9 ∨ μ 80 k = 8 ∨ nb (μ 80 k) nc)
/-- class and reference tell the same -/
def WI (M : Nat) (μ : zH) : Prop := ∃ np nc kw kc kb kn, WH np nc kw kc kb kn μ ∧ WT kn μ ∧ WL np nc μ ∧ WS np nc M μ ∧ WM np nc M μ ∧ WN np nc kw kc kb μ
/-- a call: both answer alike, and go on alike -/
def CL (M : Nat) (μ : zH) (y10 y11 : zMI) (as : List zV) : Prop := ∀ (l : Launch) (X : zX), ∃ (a : Int32) (μ1 μ2 : zH), zRn l X y10 30 (.inr 0 :: as) (zSH, μ) (some (.inl a)) (zSH, μ1) ∧ zRn l X y11 30 (.inr 67 :: as) (zSH, μ1) (some (.inl a)) (zSH, μ2) ∧ WI (M + 1) μ2
theorem WM.mono {np nc M N : Nat} {μ : zH} (h : WM np nc M μ) (hn : M ≤ N) : WM np nc N μ := ⟨h.1, fun q => (h.2.1 q).mono hn, fun q => (h.2.2 q).mono hn⟩
