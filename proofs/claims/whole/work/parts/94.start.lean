theorem zev_ex {l : Launch} {X : zX} {y : zMI} {d : Nat} {lv : List (Nat × zV)} {Ψ Ψ1 : List zC} {μ μ1 : zH} {mc ms : Nat} {r : Option zV} (h : zEv l X y d 0 lv [] (Ψ, μ) mc ms r (Ψ1, μ1)) : ∃ ν, ν = μ1 ∧ zEv l X y d 0 lv [] (Ψ, μ) mc ms r (Ψ1, ν) := ⟨_, rfl, h⟩
/-- both objects made: they tell the same -/
theorem law_ini {l : Launch} {X : zX} {μ : zH} : ∃ ν : zH, WI 1 ν ∧ ∀ (r : Option zV) (S' : zS), zEv l X mi_L 31 18 (lvL 0) [] (zSH, ν) 0 0 r S' → zEv l X mi_L 31 0 [(0, .inr 1006)] [] ([], μ) 86 18199 r S' := by
  obtain ⟨ν1, e1, c1⟩ := zev_ex (c_X10_init (l := l) (X := X) (d := 24) (μ := zhs μ 0 (fun _ => 0)))
  obtain ⟨ν2, e2, c2⟩ := zev_ex (c_X11_init (l := l) (X := X) (d := 29) (Ψ := zSC ++ [.inr (.inr (10, [none, some none, none, none, none, none, none, none, none, none, none, none, none, none, some none, some none, some none, some none, some none, some none, some none, some none, some none, some none, none, some none, none, some none, none, some none, some none, some none, none, some none, some none]))]) (μ := zhs ν1 67 (fun _ => 0)) (t := 67) (N := 68) rfl rfl (by decide) (by decide))
  refine ⟨ν2, ?_, fun r S' hk => ?_⟩
  rotate_left
  · refine cv_new (N := 0) (mc := 85) (ms := 18189) (Ψ' := [.inr (.inr (9, [some none, some none, some none, some none, some none, some none, some none, some none, some none, none]))]) t_L_law_0 nc_L_7 zdf_9 rfl (by decide) rfl rfl rfl ?_
    refine pv_dup t_L_law_3 ?_
    refine cv_callC0 (mc := 19) (ms := 14099) (Ψ' := zSC) (μ' := ν1) t_L_law_4 ml_L_9 mo_X10_init (by decide) (Nat.le_of_ble_eq_true rfl) c1 (Nat.le_of_ble_eq_true rfl) rfl rfl rfl ?_
    refine pv_astore_n (i := 1) t_L_law_7 rfl (Nat.le_of_ble_eq_true rfl) ?_
    refine cv_new (N := 67) (mc := 18) (ms := 14064) (Ψ' := zSC ++ [.inr (.inr (10, [none, some none, none, none, none, none, none, none, none, none, none, none, none, none, some none, some none, some none, some none, some none, some none, some none, some none, some none, some none, none, some none, none, some none, none, some none, some none, some none, none, some none, some none]))]) t_L_law_8 nc_L_10 zdf_10 rfl (by decide) rfl rfl rfl ?_
    refine pv_dup t_L_law_11 ?_
    refine cv_callC0 (mc := 0) (ms := 0) (Ψ' := zSH) (μ' := ν2) t_L_law_12 ml_L_12 mo_X11_init (by decide) (Nat.le_of_ble_eq_true rfl) c2 (Nat.le_of_ble_eq_true rfl) rfl rfl rfl ?_
    refine pv_astore_n (i := 2) t_L_law_15 rfl (Nat.le_of_ble_eq_true rfl) ?_
    refine pv_iconst (v := 0) t_L_law_16 zi_0 ?_
    refine pv_istore_n (i := 3) t_L_law_17 rfl (Nat.le_of_ble_eq_true rfl) ?_
    refine pv_loc (lv' := lvL 0) ⟨rfl, rfl, rfl, rfl, trivial⟩ ?_
    exact hk
  clear c1 c2
  have x1 : ν2 1 = (fun _ => 0) := by rw [e2, e1]; rfl
  have x54 : ν2 54 = (fun _ => 0) := by rw [e2, e1]; rfl
  have x6 : ν2 6 = (fun _ => 0) := by rw [e2, e1]; rfl
  have x70 : ν2 70 = (fun _ => 0) := by rw [e2, e1]; rfl
  have x53 : ν2 53 = (fun _ => 0) := by rw [e2, e1]; rfl
  have x77 : ν2 77 = (fun _ => 0) := by rw [e2, e1]; rfl
  have x24 : ν2 24 = (fun _ => 0) := by rw [e2, e1]; rfl
  have x25 : ν2 25 = (fun _ => 0) := by rw [e2, e1]; rfl
  have x15 : ν2 15 = (fun _ => 0) := by rw [e2, e1]; rfl
  have x16 : ν2 16 = (fun _ => 0) := by rw [e2, e1]; rfl
  have x17 : ν2 17 = (fun _ => 0) := by rw [e2, e1]; rfl
  have x21 : ν2 21 = dBg (-1) (-1) (fun _ => 0) := by rw [e2, e1]; rfl
  have x22 : ν2 22 = (fun _ => 0) := by rw [e2, e1]; rfl
  have x13 : ν2 13 = (fun _ => 0) := by rw [e2, e1]; rfl
  have x74 : ν2 74 = (fun _ => 0) := by rw [e2, e1]; rfl
  have x0 : ν2 0 = upd (fun _ => 0) 9 (-1) := by rw [e2, e1]; rfl
  have x67 : ν2 67 = upd (fun _ => 0) 9 (-1) := by rw [e2, e1]; rfl
  have x72 : ν2 72 = upd (upd (fun _ => 0) 20 (-1)) 21 (-1) := by rw [e2, e1]; rfl
  clear e1 e2
  have hz : nb (0 : Int32) 4 := ⟨by decide, rfl⟩
  refine ⟨0, 0, 0, 0, 0, 0, ⟨⟨by rw [x1]; rfl, by rw [x1]; rfl, by rw [x54]; rfl, by rw [x54]; rfl, by rw [x54]; rfl, by rw [x6]; rfl⟩, ⟨by rw [x67]; rfl, by rw [x67]; rfl, by rw [x67]; rfl, by rw [x67]; rfl, by rw [x67]; rfl, by rw [x67]; rfl⟩, by rw [x0, x67], by decide, by decide, by decide, by decide, by decide, by decide⟩, fun k hk => absurd hk (Nat.not_lt_zero _), ⟨⟨fun d hd => absurd hd (Nat.not_lt_zero _), fun c hc => absurd hc (Nat.not_lt_zero _), fun c hc => by rw [x70]; exact hz, by decide, by decide⟩, fun c hc => by rw [x70]; exact hz⟩, ?_, ⟨fun i hi => by rw [x53, x77]; exact ⟨rfl, Or.inl rfl⟩, fun q => absurd (by rw [x77]) q, fun q => absurd (by rw [x77]) q⟩, ⟨fun k hk => absurd hk (Nat.not_lt_zero _), fun k hk => absurd hk (Nat.not_lt_zero _), fun k hk => absurd hk (Nat.not_lt_zero _)⟩⟩
  unfold WS
  rw [x24, x25, x15, x16, x17, x21, x22, x13, x72, x74]
  have hs : ∀ k, ¬ k = 20 → ¬ k = 21 → upd (upd (fun _ => (0 : Int32)) 20 (-1)) 21 (-1) k = 0 := fun k h1 h2 => by rw [upn h2, upn h1]
  have ce0 : dBg (-1) (-1) (fun _ => 0) 0 = -1 := by rw [dBg_n, upn (by decide), ups]
  have ce1 : dBg (-1) (-1) (fun _ => 0) 1 = -1 := by rw [dBg_n, ups]
  have cez : ∀ i, 2 ≤ i → i < 20 → dBg (-1) (-1) (fun _ => 0) i = 0 := fun i h1 h2 => by rw [dBg_n, upn (by omega), upn (by omega), if_pos h2]
  have n0 : ∀ m : Nat, 0 < m → nb (0 : Int32) m := fun m hm => ⟨hm, rfl⟩
  refine ⟨⟨fun d hd => absurd hd (Nat.not_lt_zero _), fun d t hd => absurd hd (Nat.not_lt_zero _)⟩, ⟨fun i hi => hs _ (by omega) (by omega), fun p hp => hs _ (by omega) (by omega), fun p k hp hk hkm => absurd hkm (Nat.not_lt_zero _)⟩, fun p hp => n0 1 (by decide), fun p hp _ => rfl, fun p k hp hk hkm => absurd hkm (Nat.not_lt_zero _), ⟨rfl, by decide⟩, fun i hi => ?_, Or.inl ⟨ce0, ce1, fun i hi => cez _ (by omega) (by omega), rfl⟩⟩
  by_cases h0 : i = 0
  · subst h0; rw [ce0]; rfl
  · by_cases h1 : i = 1
    · subst h1; rw [ce1]; rfl
    · rw [cez i (by omega) hi]
      exact hs _ (by unfold qx; split <;> omega) (by unfold qx; split <;> omega)
/-- the law, from its first instruction to its end -/
theorem law_ev {l : Launch} {X : zX} {μ : zH} (hX : X.1 ≤ 2560) : ∃ S' : zS, S'.1 = zSH ∧ zEv l X mi_L 31 0 [(0, .inr 1006)] [] ([], μ) 86 18199 (some (.inl 1)) S' := by
  obtain ⟨ν, h1, h2⟩ := law_ini (l := l) (X := X) (μ := μ)
  obtain ⟨S', s1, s2⟩ := law_loop (l := l) hX 513 0 ν rfl h1
  exact ⟨S', s1, h2 _ _ s2⟩
