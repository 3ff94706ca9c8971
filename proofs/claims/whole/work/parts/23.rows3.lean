theorem rsH_back {μ : zH} {rw tm fr rs : Nat} (s1 : rw ≠ tm) (s2 : rw ≠ fr) (s3 : tm ≠ fr) (r1 : rs ≠ rw) (r2 : rs ≠ tm) (r3 : rs ≠ fr) (w0 w : rsT) (F T : Nat → Int32) : zhs (rsH (zhs (zhs (rsH μ rw fr rs w0) rw F) tm T) rw fr rs w) tm (μ tm) = rsH μ rw fr rs w := by
  funext a
  by_cases h1 : a = tm
  · subst h1
    rw [zhs_s]
    simp only [rsH]
    rw [zhs_n _ _ (Ne.symm r2), zhs_n _ _ s3, zhs_n _ _ (Ne.symm s1)]
  · rw [zhs_n _ _ h1]
    simp only [rsH]
    by_cases h2 : a = rs
    · subst h2
      rw [zhs_s, zhs_s, zhs_n _ _ r2, zhs_n _ _ r1, zhs_s]
      funext k; simp only [upd]; split <;> (try rfl); split <;> rfl
    · rw [zhs_n _ _ h2, zhs_n _ _ h2]
      by_cases h3 : a = fr
      · subst h3; rw [zhs_s, zhs_s]
      · rw [zhs_n _ _ h3, zhs_n _ _ h3]
        by_cases h4 : a = rw
        · subst h4; rw [zhs_s, zhs_s]
        · rw [zhs_n _ _ h4, zhs_n _ _ h4, zhs_n _ _ h1, zhs_n _ _ h4, zhs_n _ _ h2, zhs_n _ _ h3, zhs_n _ _ h4]
theorem lp_X7_extend {l : Launch} {X : zX} {Ψ : List zC} {μ : zH} {m tr pa ne fd : Nat} (hm : oM Ψ m tr pa ne fd) {f dn va : Nat} (hf : oF Ψ f m dn va) {n wa ch bo ps : Nat} (hn : oN Ψ n wa ch bo ps) {rs rw tm fr : Nat} (hr : oRS Ψ rs f n rw tm fr dn ch) {kc nc : Nat} (hnc : μ m 1 = nI nc) (hc8 : nc ≤ 8) (hkc : μ n 5 = nI kc) (hk4 : kc ≤ 4) {dd j p : Nat} {bl bg : Int32} (hrec : ∀ ν : zH, ν m 1 = nI nc → ν n 5 = nI kc → ∀ b1 g1 : Int32, zRn l X mi_X7_extend (dd + 5) [.inr rs, .inl (nI p + 1), .inl b1, .inl g1] (Ψ, ν) none (Ψ, rsH ν rw fr rs (exS (ν tr) (ν pa) (ν ne) (ν dn) (ν va) (ν ch) (ν rs 5) kc nc j (p + 1) b1 g1 (ν tm) (ν rw, (ν fr, (ν rs 6, ν rs 7)))))) {z0 : rsT} : ∀ jj i : Nat, i + jj = nc + 1 → i ≤ nc → ∀ (x : Int32) (z : rsT), x = nI i → z = zfold (exF (μ tr) (μ pa) (μ ne) (μ dn) (μ va) (μ ch) (μ rs 5) kc nc j p bl bg (μ tm)) z0 i → zEv l X mi_X7_extend (dd + 5 + 1) 37 [(0, .inr rs), (1, .inl (nI p)), (2, .inl bl), (3, .inl bg), (4, .inr f), (5, .inl (μ rs 5)), (6, .inl x)] [] (Ψ, rsH μ rw fr rs z) 0 0 none (Ψ, rsH μ rw fr rs (zfold (exF (μ tr) (μ pa) (μ ne) (μ dn) (μ va) (μ ch) (μ rs 5) kc nc j p bl bg (μ tm)) z0 nc)) := by
  intro jj
  induction jj with
  | zero => intro i h h2; omega
  | succ jj ih =>
    intro i hij hle x z hx hz 
    subst hx
    have q_tr_rw : tr ≠ rw := zne hm.2.1 hr.2.1 (by simp)
    have q_tr_tm : tr ≠ tm := zne hm.2.1 hr.2.2.1 (by simp)
    have q_tr_fr : tr ≠ fr := zne hm.2.1 hr.2.2.2.1 (by simp)
    have q_tr_rs : tr ≠ rs := zne hm.2.1 hr.1 (by simp)
    have q_pa_rw : pa ≠ rw := zne hm.2.2.1 hr.2.1 (by simp)
    have q_pa_tm : pa ≠ tm := zne hm.2.2.1 hr.2.2.1 (by simp)
    have q_pa_fr : pa ≠ fr := zne hm.2.2.1 hr.2.2.2.1 (by simp)
    have q_pa_rs : pa ≠ rs := zne hm.2.2.1 hr.1 (by simp)
    have q_ne_rw : ne ≠ rw := zne hm.2.2.2.1 hr.2.1 (by simp)
    have q_ne_tm : ne ≠ tm := zne hm.2.2.2.1 hr.2.2.1 (by simp)
    have q_ne_fr : ne ≠ fr := zne hm.2.2.2.1 hr.2.2.2.1 (by simp)
    have q_ne_rs : ne ≠ rs := zne hm.2.2.2.1 hr.1 (by simp)
    have q_va_rw : va ≠ rw := zne hf.2.2 hr.2.1 (by simp)
    have q_va_tm : va ≠ tm := zne hf.2.2 hr.2.2.1 (by simp)
    have q_va_fr : va ≠ fr := zne hf.2.2 hr.2.2.2.1 (by simp)
    have q_va_rs : va ≠ rs := zne hf.2.2 hr.1 (by simp)
    have q_dn_rw : dn ≠ rw := hr.2.2.2.2.2.1.1
    have q_dn_tm : dn ≠ tm := hr.2.2.2.2.2.1.2.1
    have q_dn_fr : dn ≠ fr := hr.2.2.2.2.2.1.2.2
    have q_dn_rs : dn ≠ rs := zne hf.2.1 hr.1 (by simp)
    have q_ch_rw : ch ≠ rw := hr.2.2.2.2.2.2.1
    have q_ch_tm : ch ≠ tm := hr.2.2.2.2.2.2.2.1
    have q_ch_fr : ch ≠ fr := hr.2.2.2.2.2.2.2.2
    have q_ch_rs : ch ≠ rs := zne hn.2.2.1 hr.1 (by simp)
    have q_m_rw : m ≠ rw := zne hm.1 hr.2.1 (by simp)
    have q_m_tm : m ≠ tm := zne hm.1 hr.2.2.1 (by simp)
    have q_m_fr : m ≠ fr := zne hm.1 hr.2.2.2.1 (by simp)
    have q_m_rs : m ≠ rs := zne hm.1 hr.1 (by simp)
    have q_n_rw : n ≠ rw := zne hn.1 hr.2.1 (by simp)
    have q_n_tm : n ≠ tm := zne hn.1 hr.2.2.1 (by simp)
    have q_n_fr : n ≠ fr := zne hn.1 hr.2.2.2.1 (by simp)
    have q_n_rs : n ≠ rs := zne hn.1 hr.1 (by simp)
    have r1 : rs ≠ rw := zne hr.1 hr.2.1 (by simp)
    have r2 : rs ≠ tm := zne hr.1 hr.2.2.1 (by simp)
    have r3 : rs ≠ fr := zne hr.1 hr.2.2.2.1 (by simp)
    have s1 : rw ≠ tm := hr.2.2.2.2.1.1
    have s2 : rw ≠ fr := hr.2.2.2.2.1.2.1
    have s3 : tm ≠ fr := hr.2.2.2.2.1.2.2
    have e_tr : ∀ (ν : zH) (w : rsT), rsH ν rw fr rs w tr = ν tr := by intro ν w; simp only [rsH, zhs_n _ _ q_tr_rw, zhs_n _ _ q_tr_tm, zhs_n _ _ q_tr_fr, zhs_n _ _ q_tr_rs, zhs_n _ _ q_pa_rw, zhs_n _ _ q_pa_tm, zhs_n _ _ q_pa_fr, zhs_n _ _ q_pa_rs, zhs_n _ _ q_ne_rw, zhs_n _ _ q_ne_tm, zhs_n _ _ q_ne_fr, zhs_n _ _ q_ne_rs, zhs_n _ _ q_va_rw, zhs_n _ _ q_va_tm, zhs_n _ _ q_va_fr, zhs_n _ _ q_va_rs, zhs_n _ _ q_dn_rw, zhs_n _ _ q_dn_tm, zhs_n _ _ q_dn_fr, zhs_n _ _ q_dn_rs, zhs_n _ _ q_ch_rw, zhs_n _ _ q_ch_tm, zhs_n _ _ q_ch_fr, zhs_n _ _ q_ch_rs, zhs_n _ _ q_m_rw, zhs_n _ _ q_m_tm, zhs_n _ _ q_m_fr, zhs_n _ _ q_m_rs, zhs_n _ _ q_n_rw, zhs_n _ _ q_n_tm, zhs_n _ _ q_n_fr, zhs_n _ _ q_n_rs, zhs_n _ _ r1, zhs_n _ _ r2, zhs_n _ _ r3, zhs_n _ _ s1, zhs_n _ _ s2, zhs_n _ _ s3, zhs_n _ _ (Ne.symm r1), zhs_n _ _ (Ne.symm r2), zhs_n _ _ (Ne.symm r3), zhs_n _ _ (Ne.symm s1), zhs_n _ _ (Ne.symm s2), zhs_n _ _ (Ne.symm s3)]
    have e_pa : ∀ (ν : zH) (w : rsT), rsH ν rw fr rs w pa = ν pa := by intro ν w; simp only [rsH, zhs_n _ _ q_tr_rw, zhs_n _ _ q_tr_tm, zhs_n _ _ q_tr_fr, zhs_n _ _ q_tr_rs, zhs_n _ _ q_pa_rw, zhs_n _ _ q_pa_tm, zhs_n _ _ q_pa_fr, zhs_n _ _ q_pa_rs, zhs_n _ _ q_ne_rw, zhs_n _ _ q_ne_tm, zhs_n _ _ q_ne_fr, zhs_n _ _ q_ne_rs, zhs_n _ _ q_va_rw, zhs_n _ _ q_va_tm, zhs_n _ _ q_va_fr, zhs_n _ _ q_va_rs, zhs_n _ _ q_dn_rw, zhs_n _ _ q_dn_tm, zhs_n _ _ q_dn_fr, zhs_n _ _ q_dn_rs, zhs_n _ _ q_ch_rw, zhs_n _ _ q_ch_tm, zhs_n _ _ q_ch_fr, zhs_n _ _ q_ch_rs, zhs_n _ _ q_m_rw, zhs_n _ _ q_m_tm, zhs_n _ _ q_m_fr, zhs_n _ _ q_m_rs, zhs_n _ _ q_n_rw, zhs_n _ _ q_n_tm, zhs_n _ _ q_n_fr, zhs_n _ _ q_n_rs, zhs_n _ _ r1, zhs_n _ _ r2, zhs_n _ _ r3, zhs_n _ _ s1, zhs_n _ _ s2, zhs_n _ _ s3, zhs_n _ _ (Ne.symm r1), zhs_n _ _ (Ne.symm r2), zhs_n _ _ (Ne.symm r3), zhs_n _ _ (Ne.symm s1), zhs_n _ _ (Ne.symm s2), zhs_n _ _ (Ne.symm s3)]
    have e_ne : ∀ (ν : zH) (w : rsT), rsH ν rw fr rs w ne = ν ne := by intro ν w; simp only [rsH, zhs_n _ _ q_tr_rw, zhs_n _ _ q_tr_tm, zhs_n _ _ q_tr_fr, zhs_n _ _ q_tr_rs, zhs_n _ _ q_pa_rw, zhs_n _ _ q_pa_tm, zhs_n _ _ q_pa_fr, zhs_n _ _ q_pa_rs, zhs_n _ _ q_ne_rw, zhs_n _ _ q_ne_tm, zhs_n _ _ q_ne_fr, zhs_n _ _ q_ne_rs, zhs_n _ _ q_va_rw, zhs_n _ _ q_va_tm, zhs_n _ _ q_va_fr, zhs_n _ _ q_va_rs, zhs_n _ _ q_dn_rw, zhs_n _ _ q_dn_tm, zhs_n _ _ q_dn_fr, zhs_n _ _ q_dn_rs, zhs_n _ _ q_ch_rw, zhs_n _ _ q_ch_tm, zhs_n _ _ q_ch_fr, zhs_n _ _ q_ch_rs, zhs_n _ _ q_m_rw, zhs_n _ _ q_m_tm, zhs_n _ _ q_m_fr, zhs_n _ _ q_m_rs, zhs_n _ _ q_n_rw, zhs_n _ _ q_n_tm, zhs_n _ _ q_n_fr, zhs_n _ _ q_n_rs, zhs_n _ _ r1, zhs_n _ _ r2, zhs_n _ _ r3, zhs_n _ _ s1, zhs_n _ _ s2, zhs_n _ _ s3, zhs_n _ _ (Ne.symm r1), zhs_n _ _ (Ne.symm r2), zhs_n _ _ (Ne.symm r3), zhs_n _ _ (Ne.symm s1), zhs_n _ _ (Ne.symm s2), zhs_n _ _ (Ne.symm s3)]
    have e_va : ∀ (ν : zH) (w : rsT), rsH ν rw fr rs w va = ν va := by intro ν w; simp only [rsH, zhs_n _ _ q_tr_rw, zhs_n _ _ q_tr_tm, zhs_n _ _ q_tr_fr, zhs_n _ _ q_tr_rs, zhs_n _ _ q_pa_rw, zhs_n _ _ q_pa_tm, zhs_n _ _ q_pa_fr, zhs_n _ _ q_pa_rs, zhs_n _ _ q_ne_rw, zhs_n _ _ q_ne_tm, zhs_n _ _ q_ne_fr, zhs_n _ _ q_ne_rs, zhs_n _ _ q_va_rw, zhs_n _ _ q_va_tm, zhs_n _ _ q_va_fr, zhs_n _ _ q_va_rs, zhs_n _ _ q_dn_rw, zhs_n _ _ q_dn_tm, zhs_n _ _ q_dn_fr, zhs_n _ _ q_dn_rs, zhs_n _ _ q_ch_rw, zhs_n _ _ q_ch_tm, zhs_n _ _ q_ch_fr, zhs_n _ _ q_ch_rs, zhs_n _ _ q_m_rw, zhs_n _ _ q_m_tm, zhs_n _ _ q_m_fr, zhs_n _ _ q_m_rs, zhs_n _ _ q_n_rw, zhs_n _ _ q_n_tm, zhs_n _ _ q_n_fr, zhs_n _ _ q_n_rs, zhs_n _ _ r1, zhs_n _ _ r2, zhs_n _ _ r3, zhs_n _ _ s1, zhs_n _ _ s2, zhs_n _ _ s3, zhs_n _ _ (Ne.symm r1), zhs_n _ _ (Ne.symm r2), zhs_n _ _ (Ne.symm r3), zhs_n _ _ (Ne.symm s1), zhs_n _ _ (Ne.symm s2), zhs_n _ _ (Ne.symm s3)]
    have e_dn : ∀ (ν : zH) (w : rsT), rsH ν rw fr rs w dn = ν dn := by intro ν w; simp only [rsH, zhs_n _ _ q_tr_rw, zhs_n _ _ q_tr_tm, zhs_n _ _ q_tr_fr, zhs_n _ _ q_tr_rs, zhs_n _ _ q_pa_rw, zhs_n _ _ q_pa_tm, zhs_n _ _ q_pa_fr, zhs_n _ _ q_pa_rs, zhs_n _ _ q_ne_rw, zhs_n _ _ q_ne_tm, zhs_n _ _ q_ne_fr, zhs_n _ _ q_ne_rs, zhs_n _ _ q_va_rw, zhs_n _ _ q_va_tm, zhs_n _ _ q_va_fr, zhs_n _ _ q_va_rs, zhs_n _ _ q_dn_rw, zhs_n _ _ q_dn_tm, zhs_n _ _ q_dn_fr, zhs_n _ _ q_dn_rs, zhs_n _ _ q_ch_rw, zhs_n _ _ q_ch_tm, zhs_n _ _ q_ch_fr, zhs_n _ _ q_ch_rs, zhs_n _ _ q_m_rw, zhs_n _ _ q_m_tm, zhs_n _ _ q_m_fr, zhs_n _ _ q_m_rs, zhs_n _ _ q_n_rw, zhs_n _ _ q_n_tm, zhs_n _ _ q_n_fr, zhs_n _ _ q_n_rs, zhs_n _ _ r1, zhs_n _ _ r2, zhs_n _ _ r3, zhs_n _ _ s1, zhs_n _ _ s2, zhs_n _ _ s3, zhs_n _ _ (Ne.symm r1), zhs_n _ _ (Ne.symm r2), zhs_n _ _ (Ne.symm r3), zhs_n _ _ (Ne.symm s1), zhs_n _ _ (Ne.symm s2), zhs_n _ _ (Ne.symm s3)]
    have e_ch : ∀ (ν : zH) (w : rsT), rsH ν rw fr rs w ch = ν ch := by intro ν w; simp only [rsH, zhs_n _ _ q_tr_rw, zhs_n _ _ q_tr_tm, zhs_n _ _ q_tr_fr, zhs_n _ _ q_tr_rs, zhs_n _ _ q_pa_rw, zhs_n _ _ q_pa_tm, zhs_n _ _ q_pa_fr, zhs_n _ _ q_pa_rs, zhs_n _ _ q_ne_rw, zhs_n _ _ q_ne_tm, zhs_n _ _ q_ne_fr, zhs_n _ _ q_ne_rs, zhs_n _ _ q_va_rw, zhs_n _ _ q_va_tm, zhs_n _ _ q_va_fr, zhs_n _ _ q_va_rs, zhs_n _ _ q_dn_rw, zhs_n _ _ q_dn_tm, zhs_n _ _ q_dn_fr, zhs_n _ _ q_dn_rs, zhs_n _ _ q_ch_rw, zhs_n _ _ q_ch_tm, zhs_n _ _ q_ch_fr, zhs_n _ _ q_ch_rs, zhs_n _ _ q_m_rw, zhs_n _ _ q_m_tm, zhs_n _ _ q_m_fr, zhs_n _ _ q_m_rs, zhs_n _ _ q_n_rw, zhs_n _ _ q_n_tm, zhs_n _ _ q_n_fr, zhs_n _ _ q_n_rs, zhs_n _ _ r1, zhs_n _ _ r2, zhs_n _ _ r3, zhs_n _ _ s1, zhs_n _ _ s2, zhs_n _ _ s3, zhs_n _ _ (Ne.symm r1), zhs_n _ _ (Ne.symm r2), zhs_n _ _ (Ne.symm r3), zhs_n _ _ (Ne.symm s1), zhs_n _ _ (Ne.symm s2), zhs_n _ _ (Ne.symm s3)]
    have e_m : ∀ (ν : zH) (w : rsT), rsH ν rw fr rs w m = ν m := by intro ν w; simp only [rsH, zhs_n _ _ q_tr_rw, zhs_n _ _ q_tr_tm, zhs_n _ _ q_tr_fr, zhs_n _ _ q_tr_rs, zhs_n _ _ q_pa_rw, zhs_n _ _ q_pa_tm, zhs_n _ _ q_pa_fr, zhs_n _ _ q_pa_rs, zhs_n _ _ q_ne_rw, zhs_n _ _ q_ne_tm, zhs_n _ _ q_ne_fr, zhs_n _ _ q_ne_rs, zhs_n _ _ q_va_rw, zhs_n _ _ q_va_tm, zhs_n _ _ q_va_fr, zhs_n _ _ q_va_rs, zhs_n _ _ q_dn_rw, zhs_n _ _ q_dn_tm, zhs_n _ _ q_dn_fr, zhs_n _ _ q_dn_rs, zhs_n _ _ q_ch_rw, zhs_n _ _ q_ch_tm, zhs_n _ _ q_ch_fr, zhs_n _ _ q_ch_rs, zhs_n _ _ q_m_rw, zhs_n _ _ q_m_tm, zhs_n _ _ q_m_fr, zhs_n _ _ q_m_rs, zhs_n _ _ q_n_rw, zhs_n _ _ q_n_tm, zhs_n _ _ q_n_fr, zhs_n _ _ q_n_rs, zhs_n _ _ r1, zhs_n _ _ r2, zhs_n _ _ r3, zhs_n _ _ s1, zhs_n _ _ s2, zhs_n _ _ s3, zhs_n _ _ (Ne.symm r1), zhs_n _ _ (Ne.symm r2), zhs_n _ _ (Ne.symm r3), zhs_n _ _ (Ne.symm s1), zhs_n _ _ (Ne.symm s2), zhs_n _ _ (Ne.symm s3)]
    have e_n : ∀ (ν : zH) (w : rsT), rsH ν rw fr rs w n = ν n := by intro ν w; simp only [rsH, zhs_n _ _ q_tr_rw, zhs_n _ _ q_tr_tm, zhs_n _ _ q_tr_fr, zhs_n _ _ q_tr_rs, zhs_n _ _ q_pa_rw, zhs_n _ _ q_pa_tm, zhs_n _ _ q_pa_fr, zhs_n _ _ q_pa_rs, zhs_n _ _ q_ne_rw, zhs_n _ _ q_ne_tm, zhs_n _ _ q_ne_fr, zhs_n _ _ q_ne_rs, zhs_n _ _ q_va_rw, zhs_n _ _ q_va_tm, zhs_n _ _ q_va_fr, zhs_n _ _ q_va_rs, zhs_n _ _ q_dn_rw, zhs_n _ _ q_dn_tm, zhs_n _ _ q_dn_fr, zhs_n _ _ q_dn_rs, zhs_n _ _ q_ch_rw, zhs_n _ _ q_ch_tm, zhs_n _ _ q_ch_fr, zhs_n _ _ q_ch_rs, zhs_n _ _ q_m_rw, zhs_n _ _ q_m_tm, zhs_n _ _ q_m_fr, zhs_n _ _ q_m_rs, zhs_n _ _ q_n_rw, zhs_n _ _ q_n_tm, zhs_n _ _ q_n_fr, zhs_n _ _ q_n_rs, zhs_n _ _ r1, zhs_n _ _ r2, zhs_n _ _ r3, zhs_n _ _ s1, zhs_n _ _ s2, zhs_n _ _ s3, zhs_n _ _ (Ne.symm r1), zhs_n _ _ (Ne.symm r2), zhs_n _ _ (Ne.symm r3), zhs_n _ _ (Ne.symm s1), zhs_n _ _ (Ne.symm s2), zhs_n _ _ (Ne.symm s3)]
    have e_tm : ∀ (ν : zH) (w : rsT), rsH ν rw fr rs w tm = ν tm := by intro ν w; simp only [rsH, zhs_n _ _ q_tr_rw, zhs_n _ _ q_tr_tm, zhs_n _ _ q_tr_fr, zhs_n _ _ q_tr_rs, zhs_n _ _ q_pa_rw, zhs_n _ _ q_pa_tm, zhs_n _ _ q_pa_fr, zhs_n _ _ q_pa_rs, zhs_n _ _ q_ne_rw, zhs_n _ _ q_ne_tm, zhs_n _ _ q_ne_fr, zhs_n _ _ q_ne_rs, zhs_n _ _ q_va_rw, zhs_n _ _ q_va_tm, zhs_n _ _ q_va_fr, zhs_n _ _ q_va_rs, zhs_n _ _ q_dn_rw, zhs_n _ _ q_dn_tm, zhs_n _ _ q_dn_fr, zhs_n _ _ q_dn_rs, zhs_n _ _ q_ch_rw, zhs_n _ _ q_ch_tm, zhs_n _ _ q_ch_fr, zhs_n _ _ q_ch_rs, zhs_n _ _ q_m_rw, zhs_n _ _ q_m_tm, zhs_n _ _ q_m_fr, zhs_n _ _ q_m_rs, zhs_n _ _ q_n_rw, zhs_n _ _ q_n_tm, zhs_n _ _ q_n_fr, zhs_n _ _ q_n_rs, zhs_n _ _ r1, zhs_n _ _ r2, zhs_n _ _ r3, zhs_n _ _ s1, zhs_n _ _ s2, zhs_n _ _ s3, zhs_n _ _ (Ne.symm r1), zhs_n _ _ (Ne.symm r2), zhs_n _ _ (Ne.symm r3), zhs_n _ _ (Ne.symm s1), zhs_n _ _ (Ne.symm s2), zhs_n _ _ (Ne.symm s3)]
    have e_rw : ∀ (ν : zH) (w : rsT), rsH ν rw fr rs w rw = w.1 := by intro ν w; simp only [rsH, zhs_s, zhs_n _ _ q_tr_rw, zhs_n _ _ q_tr_tm, zhs_n _ _ q_tr_fr, zhs_n _ _ q_tr_rs, zhs_n _ _ q_pa_rw, zhs_n _ _ q_pa_tm, zhs_n _ _ q_pa_fr, zhs_n _ _ q_pa_rs, zhs_n _ _ q_ne_rw, zhs_n _ _ q_ne_tm, zhs_n _ _ q_ne_fr, zhs_n _ _ q_ne_rs, zhs_n _ _ q_va_rw, zhs_n _ _ q_va_tm, zhs_n _ _ q_va_fr, zhs_n _ _ q_va_rs, zhs_n _ _ q_dn_rw, zhs_n _ _ q_dn_tm, zhs_n _ _ q_dn_fr, zhs_n _ _ q_dn_rs, zhs_n _ _ q_ch_rw, zhs_n _ _ q_ch_tm, zhs_n _ _ q_ch_fr, zhs_n _ _ q_ch_rs, zhs_n _ _ q_m_rw, zhs_n _ _ q_m_tm, zhs_n _ _ q_m_fr, zhs_n _ _ q_m_rs, zhs_n _ _ q_n_rw, zhs_n _ _ q_n_tm, zhs_n _ _ q_n_fr, zhs_n _ _ q_n_rs, zhs_n _ _ r1, zhs_n _ _ r2, zhs_n _ _ r3, zhs_n _ _ s1, zhs_n _ _ s2, zhs_n _ _ s3, zhs_n _ _ (Ne.symm r1), zhs_n _ _ (Ne.symm r2), zhs_n _ _ (Ne.symm r3), zhs_n _ _ (Ne.symm s1), zhs_n _ _ (Ne.symm s2), zhs_n _ _ (Ne.symm s3)]
    have e_fr : ∀ (ν : zH) (w : rsT), rsH ν rw fr rs w fr = w.2.1 := by intro ν w; simp only [rsH, zhs_s, zhs_n _ _ q_tr_rw, zhs_n _ _ q_tr_tm, zhs_n _ _ q_tr_fr, zhs_n _ _ q_tr_rs, zhs_n _ _ q_pa_rw, zhs_n _ _ q_pa_tm, zhs_n _ _ q_pa_fr, zhs_n _ _ q_pa_rs, zhs_n _ _ q_ne_rw, zhs_n _ _ q_ne_tm, zhs_n _ _ q_ne_fr, zhs_n _ _ q_ne_rs, zhs_n _ _ q_va_rw, zhs_n _ _ q_va_tm, zhs_n _ _ q_va_fr, zhs_n _ _ q_va_rs, zhs_n _ _ q_dn_rw, zhs_n _ _ q_dn_tm, zhs_n _ _ q_dn_fr, zhs_n _ _ q_dn_rs, zhs_n _ _ q_ch_rw, zhs_n _ _ q_ch_tm, zhs_n _ _ q_ch_fr, zhs_n _ _ q_ch_rs, zhs_n _ _ q_m_rw, zhs_n _ _ q_m_tm, zhs_n _ _ q_m_fr, zhs_n _ _ q_m_rs, zhs_n _ _ q_n_rw, zhs_n _ _ q_n_tm, zhs_n _ _ q_n_fr, zhs_n _ _ q_n_rs, zhs_n _ _ r1, zhs_n _ _ r2, zhs_n _ _ r3, zhs_n _ _ s1, zhs_n _ _ s2, zhs_n _ _ s3, zhs_n _ _ (Ne.symm r1), zhs_n _ _ (Ne.symm r2), zhs_n _ _ (Ne.symm r3), zhs_n _ _ (Ne.symm s1), zhs_n _ _ (Ne.symm s2), zhs_n _ _ (Ne.symm s3)]
    have e_rs : ∀ (ν : zH) (w : rsT), rsH ν rw fr rs w rs = upd (upd (ν rs) 6 w.2.2.1) 7 w.2.2.2 := by intro ν w; simp only [rsH, zhs_s]
    have e_5 : ∀ (g : Nat → Int32) (a b : Int32), upd (upd g 6 a) 7 b 5 = g 5 := fun _ _ _ => rfl
    have e_6 : ∀ (g : Nat → Int32) (a b : Int32), upd (upd g 6 a) 7 b 6 = a := fun _ _ _ => rfl
    have e_7 : ∀ (g : Nat → Int32) (a b : Int32), upd (upd g 6 a) 7 b 7 = b := fun _ _ _ => rfl
    have e_bk : ∀ (w0 w : rsT) (F T : Nat → Int32), zhs (rsH (zhs (zhs (rsH μ rw fr rs w0) rw F) tm T) rw fr rs w) tm (μ tm) = rsH μ rw fr rs w := by intro w0 w F T; exact rsH_back s1 s2 s3 r1 r2 r3 w0 w F T
    refine pv_iload t_X7_extend_37 rfl ?_
    refine pv_aload t_X7_extend_39 rfl ?_
    refine pv_getR t_X7_extend_41 fl_X7_78 hf.1 rfl ?_
    refine pv_getI t_X7_extend_44 fl_X7_84 hm.1 rfl ?_
    refine pv_icmp_ge t_X7_extend_47 (fun c47 => ?_) (fun c47 => ?_)
    · skip
      rw [e_m, hnc] at c47
      have hie : i = nc := by have := (nI_leI (by omega) (by omega)).mp c47; omega
      rw [hie] at hz
      rw [hz]
      exact pv_vret t_X7_extend_202 rfl rfl
    · skip
      rw [e_m, hnc] at c47
      have hin : i < nc := Nat.lt_of_not_le (fun q => c47 (nI_le q (by omega)))
      refine pv_aload t_X7_extend_50 rfl ?_
      refine pv_getR t_X7_extend_52 fl_X7_78 hf.1 rfl ?_
      refine pv_iload t_X7_extend_55 rfl ?_
      refine pv_iconst (v := 0) t_X7_extend_57 zi_0 ?_
      refine pv_gV2 t_X7_extend_58 ml_X7_89 mo_X4_part hm.1 rfl (Nat.le_of_ble_eq_true rfl) (e_X4_part hm) (Nat.le_of_ble_eq_true rfl) ?_
      try simp only [e_tr, e_pa, e_ne, e_va, e_dn, e_ch, e_m, e_n, e_tm, e_rw, e_fr, e_rs, e_5, e_6, e_7]
      refine pv_istore t_X7_extend_61 (Nat.le_of_ble_eq_true rfl) ?_
      refine pv_iload_n (i := 2) t_X7_extend_63 rfl rfl ?_
      refine pv_aload t_X7_extend_64 rfl ?_
      refine pv_iload t_X7_extend_66 rfl ?_
      refine pv_iload t_X7_extend_68 rfl ?_
      refine pv_aload_n (i := 0) t_X7_extend_70 rfl rfl ?_
      refine pv_getR t_X7_extend_71 fl_X7_17 hr.1 rfl ?_
      refine pv_iload t_X7_extend_74 rfl ?_
      refine pv_gS2 t_X7_extend_76 ml_X7_70 mo_X8_at (Nat.le_of_ble_eq_true rfl) (e_X8_at (Or.inl hr.2.2.1) (by decide)) (Nat.le_of_ble_eq_true rfl) ?_
      try simp only [e_tr, e_pa, e_ne, e_va, e_dn, e_ch, e_m, e_n, e_tm, e_rw, e_fr, e_rs, e_5, e_6, e_7]
      refine pv_gV3 t_X7_extend_79 ml_X7_92 mo_X2_effectOn hf.1 rfl (Nat.le_of_ble_eq_true rfl) (e_X2_effectOn hm hf) (Nat.le_of_ble_eq_true rfl) ?_
      try simp only [e_tr, e_pa, e_ne, e_va, e_dn, e_ch, e_m, e_n, e_tm, e_rw, e_fr, e_rs, e_5, e_6, e_7]
      refine pv_iadd t_X7_extend_82 ?_
      refine pv_istore t_X7_extend_83 (Nat.le_of_ble_eq_true rfl) ?_
      refine pv_iload_n (i := 3) t_X7_extend_85 rfl rfl ?_
      refine pv_iload t_X7_extend_86 rfl ?_
      refine pv_ishr t_X7_extend_88 ?_
      refine pv_iconst (v := 1) t_X7_extend_89 zi_1 ?_
      refine pv_iand t_X7_extend_90 ?_
      refine pv_if_ne t_X7_extend_91 (fun c91 => ?_) (fun c91 => ?_)
      · skip
        have hq : ¬ (((bg >>> (nI i &&& 31)) &&& 1 = 0 ∧ ¬ tru (μ ne) (μ dn) (nI i) (μ rs 5) = 0) ∧ bl + effN (μ pa) (μ ne) (μ dn) (μ va) (nI i) (μ rs 5) (rA (μ tm) 4 (part (μ pa) (nI i) 0)) = rA (μ ch) 4 (nI p)) := fun q => c91 q.1.1
        refine pv_iconst (v := 0) t_X7_extend_110 zi_0 ?_
        refine pv_istore t_X7_extend_111 (Nat.le_of_ble_eq_true rfl) ?_
        refine pv_iload t_X7_extend_113 rfl ?_
        refine pv_if_eq t_X7_extend_115 (fun c115 => ?_) (fun c115 => absurd (by decide) c115)
        refine pv_iinc (v := 1) t_X7_extend_196 rfl zi_1 ?_
        refine pv_goto t_X7_extend_199 ?_
        refine pv_loc (lv' := [(0, _), (1, _), (2, _), (3, _), (4, _), (5, _), (6, _)]) ⟨rfl, rfl, rfl, rfl, rfl, rfl, rfl, trivial⟩ ?_
        refine zst (S2 := (Ψ, rsH μ rw fr rs (exF (μ tr) (μ pa) (μ ne) (μ dn) (μ va) (μ ch) (μ rs 5) kc nc j p bl bg (μ tm) i z))) ?_ ?_
        · first | (rw [exF, if_neg hq]) | (rw [exF, if_pos hq]; simp only [e_tr, e_pa, e_ne, e_va, e_dn, e_ch, e_m, e_n, e_tm, e_rw, e_fr, e_rs, e_5, e_6, e_7, zhs_s, rP_back, zhs_n _ _ q_tr_rw, zhs_n _ _ q_tr_tm, zhs_n _ _ q_tr_fr, zhs_n _ _ q_tr_rs, zhs_n _ _ q_pa_rw, zhs_n _ _ q_pa_tm, zhs_n _ _ q_pa_fr, zhs_n _ _ q_pa_rs, zhs_n _ _ q_ne_rw, zhs_n _ _ q_ne_tm, zhs_n _ _ q_ne_fr, zhs_n _ _ q_ne_rs, zhs_n _ _ q_va_rw, zhs_n _ _ q_va_tm, zhs_n _ _ q_va_fr, zhs_n _ _ q_va_rs, zhs_n _ _ q_dn_rw, zhs_n _ _ q_dn_tm, zhs_n _ _ q_dn_fr, zhs_n _ _ q_dn_rs, zhs_n _ _ q_ch_rw, zhs_n _ _ q_ch_tm, zhs_n _ _ q_ch_fr, zhs_n _ _ q_ch_rs, zhs_n _ _ q_m_rw, zhs_n _ _ q_m_tm, zhs_n _ _ q_m_fr, zhs_n _ _ q_m_rs, zhs_n _ _ q_n_rw, zhs_n _ _ q_n_tm, zhs_n _ _ q_n_fr, zhs_n _ _ q_n_rs, zhs_n _ _ r1, zhs_n _ _ r2, zhs_n _ _ r3, zhs_n _ _ s1, zhs_n _ _ s2, zhs_n _ _ s3, zhs_n _ _ (Ne.symm r1), zhs_n _ _ (Ne.symm r2), zhs_n _ _ (Ne.symm r3), zhs_n _ _ (Ne.symm s1), zhs_n _ _ (Ne.symm s2), zhs_n _ _ (Ne.symm s3)]; rw [e_bk])
        exact ih (i + 1) (by omega) (by omega) _ _ (nI_1 i) (by rw [hz]; rfl)
      · skip
        refine pv_aload t_X7_extend_94 rfl ?_
        refine pv_iload t_X7_extend_96 rfl ?_
        refine pv_iload t_X7_extend_98 rfl ?_
        refine pv_gV2 t_X7_extend_100 ml_X7_96 mo_X2_truthOf hf.1 rfl (Nat.le_of_ble_eq_true rfl) (e_X2_truthOf hm hf) (Nat.le_of_ble_eq_true rfl) ?_
        try simp only [e_tr, e_pa, e_ne, e_va, e_dn, e_ch, e_m, e_n, e_tm, e_rw, e_fr, e_rs, e_5, e_6, e_7]
        refine pv_if_eq t_X7_extend_103 (fun c103 => ?_) (fun c103 => ?_)
        · skip
          have hq : ¬ (((bg >>> (nI i &&& 31)) &&& 1 = 0 ∧ ¬ tru (μ ne) (μ dn) (nI i) (μ rs 5) = 0) ∧ bl + effN (μ pa) (μ ne) (μ dn) (μ va) (nI i) (μ rs 5) (rA (μ tm) 4 (part (μ pa) (nI i) 0)) = rA (μ ch) 4 (nI p)) := fun q => q.1.2 c103
          refine pv_iconst (v := 0) t_X7_extend_110 zi_0 ?_
          refine pv_istore t_X7_extend_111 (Nat.le_of_ble_eq_true rfl) ?_
          refine pv_iload t_X7_extend_113 rfl ?_
          refine pv_if_eq t_X7_extend_115 (fun c115 => ?_) (fun c115 => absurd (by decide) c115)
          refine pv_iinc (v := 1) t_X7_extend_196 rfl zi_1 ?_
          refine pv_goto t_X7_extend_199 ?_
          refine pv_loc (lv' := [(0, _), (1, _), (2, _), (3, _), (4, _), (5, _), (6, _)]) ⟨rfl, rfl, rfl, rfl, rfl, rfl, rfl, trivial⟩ ?_
          refine zst (S2 := (Ψ, rsH μ rw fr rs (exF (μ tr) (μ pa) (μ ne) (μ dn) (μ va) (μ ch) (μ rs 5) kc nc j p bl bg (μ tm) i z))) ?_ ?_
          · first | (rw [exF, if_neg hq]) | (rw [exF, if_pos hq]; simp only [e_tr, e_pa, e_ne, e_va, e_dn, e_ch, e_m, e_n, e_tm, e_rw, e_fr, e_rs, e_5, e_6, e_7, zhs_s, rP_back, zhs_n _ _ q_tr_rw, zhs_n _ _ q_tr_tm, zhs_n _ _ q_tr_fr, zhs_n _ _ q_tr_rs, zhs_n _ _ q_pa_rw, zhs_n _ _ q_pa_tm, zhs_n _ _ q_pa_fr, zhs_n _ _ q_pa_rs, zhs_n _ _ q_ne_rw, zhs_n _ _ q_ne_tm, zhs_n _ _ q_ne_fr, zhs_n _ _ q_ne_rs, zhs_n _ _ q_va_rw, zhs_n _ _ q_va_tm, zhs_n _ _ q_va_fr, zhs_n _ _ q_va_rs, zhs_n _ _ q_dn_rw, zhs_n _ _ q_dn_tm, zhs_n _ _ q_dn_fr, zhs_n _ _ q_dn_rs, zhs_n _ _ q_ch_rw, zhs_n _ _ q_ch_tm, zhs_n _ _ q_ch_fr, zhs_n _ _ q_ch_rs, zhs_n _ _ q_m_rw, zhs_n _ _ q_m_tm, zhs_n _ _ q_m_fr, zhs_n _ _ q_m_rs, zhs_n _ _ q_n_rw, zhs_n _ _ q_n_tm, zhs_n _ _ q_n_fr, zhs_n _ _ q_n_rs, zhs_n _ _ r1, zhs_n _ _ r2, zhs_n _ _ r3, zhs_n _ _ s1, zhs_n _ _ s2, zhs_n _ _ s3, zhs_n _ _ (Ne.symm r1), zhs_n _ _ (Ne.symm r2), zhs_n _ _ (Ne.symm r3), zhs_n _ _ (Ne.symm s1), zhs_n _ _ (Ne.symm s2), zhs_n _ _ (Ne.symm s3)]; rw [e_bk])
          exact ih (i + 1) (by omega) (by omega) _ _ (nI_1 i) (by rw [hz]; rfl)
        · skip
          refine pv_iconst (v := 1) t_X7_extend_106 zi_1 ?_
          refine pv_goto t_X7_extend_107 ?_
          refine pv_istore t_X7_extend_111 (Nat.le_of_ble_eq_true rfl) ?_
          refine pv_iload t_X7_extend_113 rfl ?_
          refine pv_if_eq t_X7_extend_115 (fun c115 => absurd c115 (by decide)) (fun c115 => ?_)
          refine pv_iload t_X7_extend_118 rfl ?_
          refine pv_aload_n (i := 0) t_X7_extend_120 rfl rfl ?_
          refine pv_getR t_X7_extend_121 fl_X7_27 hr.1 rfl ?_
          refine pv_iload_n (i := 1) t_X7_extend_124 rfl rfl ?_
          refine pv_gV1 t_X7_extend_125 ml_X7_99 mo_X5_cheekAt hn.1 rfl (Nat.le_of_ble_eq_true rfl) (e_X5_cheekAt hn) (Nat.le_of_ble_eq_true rfl) ?_
          try simp only [e_tr, e_pa, e_ne, e_va, e_dn, e_ch, e_m, e_n, e_tm, e_rw, e_fr, e_rs, e_5, e_6, e_7]
          refine pv_icmp_ne t_X7_extend_128 (fun c128 => ?_) (fun c128 => ?_)
          · skip
            have hq : ¬ (((bg >>> (nI i &&& 31)) &&& 1 = 0 ∧ ¬ tru (μ ne) (μ dn) (nI i) (μ rs 5) = 0) ∧ bl + effN (μ pa) (μ ne) (μ dn) (μ va) (nI i) (μ rs 5) (rA (μ tm) 4 (part (μ pa) (nI i) 0)) = rA (μ ch) 4 (nI p)) := fun q => c128 q.2
            refine pv_iinc (v := 1) t_X7_extend_196 rfl zi_1 ?_
            refine pv_goto t_X7_extend_199 ?_
            refine pv_loc (lv' := [(0, _), (1, _), (2, _), (3, _), (4, _), (5, _), (6, _)]) ⟨rfl, rfl, rfl, rfl, rfl, rfl, rfl, trivial⟩ ?_
            refine zst (S2 := (Ψ, rsH μ rw fr rs (exF (μ tr) (μ pa) (μ ne) (μ dn) (μ va) (μ ch) (μ rs 5) kc nc j p bl bg (μ tm) i z))) ?_ ?_
            · first | (rw [exF, if_neg hq]) | (rw [exF, if_pos hq]; simp only [e_tr, e_pa, e_ne, e_va, e_dn, e_ch, e_m, e_n, e_tm, e_rw, e_fr, e_rs, e_5, e_6, e_7, zhs_s, rP_back, zhs_n _ _ q_tr_rw, zhs_n _ _ q_tr_tm, zhs_n _ _ q_tr_fr, zhs_n _ _ q_tr_rs, zhs_n _ _ q_pa_rw, zhs_n _ _ q_pa_tm, zhs_n _ _ q_pa_fr, zhs_n _ _ q_pa_rs, zhs_n _ _ q_ne_rw, zhs_n _ _ q_ne_tm, zhs_n _ _ q_ne_fr, zhs_n _ _ q_ne_rs, zhs_n _ _ q_va_rw, zhs_n _ _ q_va_tm, zhs_n _ _ q_va_fr, zhs_n _ _ q_va_rs, zhs_n _ _ q_dn_rw, zhs_n _ _ q_dn_tm, zhs_n _ _ q_dn_fr, zhs_n _ _ q_dn_rs, zhs_n _ _ q_ch_rw, zhs_n _ _ q_ch_tm, zhs_n _ _ q_ch_fr, zhs_n _ _ q_ch_rs, zhs_n _ _ q_m_rw, zhs_n _ _ q_m_tm, zhs_n _ _ q_m_fr, zhs_n _ _ q_m_rs, zhs_n _ _ q_n_rw, zhs_n _ _ q_n_tm, zhs_n _ _ q_n_fr, zhs_n _ _ q_n_rs, zhs_n _ _ r1, zhs_n _ _ r2, zhs_n _ _ r3, zhs_n _ _ s1, zhs_n _ _ s2, zhs_n _ _ s3, zhs_n _ _ (Ne.symm r1), zhs_n _ _ (Ne.symm r2), zhs_n _ _ (Ne.symm r3), zhs_n _ _ (Ne.symm s1), zhs_n _ _ (Ne.symm s2), zhs_n _ _ (Ne.symm s3)]; rw [e_bk])
            exact ih (i + 1) (by omega) (by omega) _ _ (nI_1 i) (by rw [hz]; rfl)
          · skip
            have hq : (((bg >>> (nI i &&& 31)) &&& 1 = 0 ∧ ¬ tru (μ ne) (μ dn) (nI i) (μ rs 5) = 0) ∧ bl + effN (μ pa) (μ ne) (μ dn) (μ va) (nI i) (μ rs 5) (rA (μ tm) 4 (part (μ pa) (nI i) 0)) = rA (μ ch) 4 (nI p)) := And.intro (And.intro c91 c103) c128
            refine pv_iload t_X7_extend_131 rfl ?_
            refine pv_aload t_X7_extend_133 rfl ?_
            refine pv_getR t_X7_extend_135 fl_X7_78 hf.1 rfl ?_
            refine pv_iload t_X7_extend_138 rfl ?_
            refine pv_iconst (v := 1) t_X7_extend_140 zi_1 ?_
            refine pv_gV2 t_X7_extend_141 ml_X7_102 mo_X4_trait hm.1 rfl (Nat.le_of_ble_eq_true rfl) (e_X4_trait hm) (Nat.le_of_ble_eq_true rfl) ?_
            try simp only [e_tr, e_pa, e_ne, e_va, e_dn, e_ch, e_m, e_n, e_tm, e_rw, e_fr, e_rs, e_5, e_6, e_7]
            refine pv_isub t_X7_extend_144 ?_
            refine pv_istore t_X7_extend_145 (Nat.le_of_ble_eq_true rfl) ?_
            refine pv_aload_n (i := 0) t_X7_extend_147 rfl rfl ?_
            refine pv_getR t_X7_extend_148 fl_X7_11 hr.1 rfl ?_
            refine pv_iload_n (i := 1) t_X7_extend_151 rfl rfl ?_
            refine pv_iload t_X7_extend_152 rfl ?_
            refine pv_gS3 t_X7_extend_154 ml_X7_51 mo_X8_put (Nat.le_of_ble_eq_true rfl) (e_X8_put hr.2.1 (by decide)) (Nat.le_of_ble_eq_true rfl) ?_
            refine pv_aload_n (i := 0) t_X7_extend_157 rfl rfl ?_
            refine pv_getR t_X7_extend_158 fl_X7_17 hr.1 rfl ?_
            refine pv_iload t_X7_extend_161 rfl ?_
            refine pv_iconst (v := 1) t_X7_extend_163 zi_1 ?_
            refine pv_gS3 t_X7_extend_164 ml_X7_105 mo_X8_add (Nat.le_of_ble_eq_true rfl) (e_X8_add hr.2.2.1 (by decide)) (Nat.le_of_ble_eq_true rfl) ?_
            refine zst (S2 := (Ψ, (zhs (zhs (rsH μ rw fr rs z) rw (rP z.1 4 (nI p) (nI i))) tm (rP (μ tm) 4 (part (μ pa) (nI i) 0) (rA (μ tm) 4 (part (μ pa) (nI i) 0) + 1))))) (by simp only [e_tr, e_pa, e_ne, e_va, e_dn, e_ch, e_m, e_n, e_tm, e_rw, e_fr, e_rs, e_5, e_6, e_7, zhs_n _ _ q_tr_rw, zhs_n _ _ q_tr_tm, zhs_n _ _ q_tr_fr, zhs_n _ _ q_tr_rs, zhs_n _ _ q_pa_rw, zhs_n _ _ q_pa_tm, zhs_n _ _ q_pa_fr, zhs_n _ _ q_pa_rs, zhs_n _ _ q_ne_rw, zhs_n _ _ q_ne_tm, zhs_n _ _ q_ne_fr, zhs_n _ _ q_ne_rs, zhs_n _ _ q_va_rw, zhs_n _ _ q_va_tm, zhs_n _ _ q_va_fr, zhs_n _ _ q_va_rs, zhs_n _ _ q_dn_rw, zhs_n _ _ q_dn_tm, zhs_n _ _ q_dn_fr, zhs_n _ _ q_dn_rs, zhs_n _ _ q_ch_rw, zhs_n _ _ q_ch_tm, zhs_n _ _ q_ch_fr, zhs_n _ _ q_ch_rs, zhs_n _ _ q_m_rw, zhs_n _ _ q_m_tm, zhs_n _ _ q_m_fr, zhs_n _ _ q_m_rs, zhs_n _ _ q_n_rw, zhs_n _ _ q_n_tm, zhs_n _ _ q_n_fr, zhs_n _ _ q_n_rs, zhs_n _ _ r1, zhs_n _ _ r2, zhs_n _ _ r3, zhs_n _ _ s1, zhs_n _ _ s2, zhs_n _ _ s3, zhs_n _ _ (Ne.symm r1), zhs_n _ _ (Ne.symm r2), zhs_n _ _ (Ne.symm r3), zhs_n _ _ (Ne.symm s1), zhs_n _ _ (Ne.symm s2), zhs_n _ _ (Ne.symm s3)]) ?_
            refine pv_aload_n (i := 0) t_X7_extend_167 rfl rfl ?_
            refine pv_iload_n (i := 1) t_X7_extend_168 rfl rfl ?_
            refine pv_iconst (v := 1) t_X7_extend_169 zi_1 ?_
            refine pv_iadd t_X7_extend_170 ?_
            refine pv_iconst (v := 0) t_X7_extend_171 zi_0 ?_
            refine pv_iload t_X7_extend_172 rfl ?_
            refine pv_gS2 t_X7_extend_174 ml_X7_108 mo_J_max (Nat.le_of_ble_eq_true rfl) e_J_max (Nat.le_of_ble_eq_true rfl) ?_
            rw [show (if (0:Int32) < bl + effN (μ pa) (μ ne) (μ dn) (μ va) (nI i) (μ rs 5) (rA (μ tm) 4 (part (μ pa) (nI i) 0)) - trait (μ tr) (μ rs 5) 1 then bl + effN (μ pa) (μ ne) (μ dn) (μ va) (nI i) (μ rs 5) (rA (μ tm) 4 (part (μ pa) (nI i) 0)) - trait (μ tr) (μ rs 5) 1 else 0) = imax 0 (bl + effN (μ pa) (μ ne) (μ dn) (μ va) (nI i) (μ rs 5) (rA (μ tm) 4 (part (μ pa) (nI i) 0)) - trait (μ tr) (μ rs 5) 1) from rfl]
            refine pv_iload_n (i := 3) t_X7_extend_177 rfl rfl ?_
            refine pv_iconst (v := 1) t_X7_extend_178 zi_1 ?_
            refine pv_iload t_X7_extend_179 rfl ?_
            refine pv_ishl t_X7_extend_181 ?_
            refine pv_ior t_X7_extend_182 ?_
            refine pv_gS4 t_X7_extend_183 ml_X7_63 mo_X7_extend (Nat.le_of_ble_eq_true rfl) (hrec (zhs (zhs (rsH μ rw fr rs z) rw (rP z.1 4 (nI p) (nI i))) tm (rP (μ tm) 4 (part (μ pa) (nI i) 0) (rA (μ tm) 4 (part (μ pa) (nI i) 0) + 1))) (by simp only [e_tr, e_pa, e_ne, e_va, e_dn, e_ch, e_m, e_n, e_tm, e_rw, e_fr, e_rs, e_5, e_6, e_7, zhs_n _ _ q_tr_rw, zhs_n _ _ q_tr_tm, zhs_n _ _ q_tr_fr, zhs_n _ _ q_tr_rs, zhs_n _ _ q_pa_rw, zhs_n _ _ q_pa_tm, zhs_n _ _ q_pa_fr, zhs_n _ _ q_pa_rs, zhs_n _ _ q_ne_rw, zhs_n _ _ q_ne_tm, zhs_n _ _ q_ne_fr, zhs_n _ _ q_ne_rs, zhs_n _ _ q_va_rw, zhs_n _ _ q_va_tm, zhs_n _ _ q_va_fr, zhs_n _ _ q_va_rs, zhs_n _ _ q_dn_rw, zhs_n _ _ q_dn_tm, zhs_n _ _ q_dn_fr, zhs_n _ _ q_dn_rs, zhs_n _ _ q_ch_rw, zhs_n _ _ q_ch_tm, zhs_n _ _ q_ch_fr, zhs_n _ _ q_ch_rs, zhs_n _ _ q_m_rw, zhs_n _ _ q_m_tm, zhs_n _ _ q_m_fr, zhs_n _ _ q_m_rs, zhs_n _ _ q_n_rw, zhs_n _ _ q_n_tm, zhs_n _ _ q_n_fr, zhs_n _ _ q_n_rs, zhs_n _ _ r1, zhs_n _ _ r2, zhs_n _ _ r3, zhs_n _ _ s1, zhs_n _ _ s2, zhs_n _ _ s3, zhs_n _ _ (Ne.symm r1), zhs_n _ _ (Ne.symm r2), zhs_n _ _ (Ne.symm r3), zhs_n _ _ (Ne.symm s1), zhs_n _ _ (Ne.symm s2), zhs_n _ _ (Ne.symm s3)]; exact hnc) (by simp only [e_tr, e_pa, e_ne, e_va, e_dn, e_ch, e_m, e_n, e_tm, e_rw, e_fr, e_rs, e_5, e_6, e_7, zhs_n _ _ q_tr_rw, zhs_n _ _ q_tr_tm, zhs_n _ _ q_tr_fr, zhs_n _ _ q_tr_rs, zhs_n _ _ q_pa_rw, zhs_n _ _ q_pa_tm, zhs_n _ _ q_pa_fr, zhs_n _ _ q_pa_rs, zhs_n _ _ q_ne_rw, zhs_n _ _ q_ne_tm, zhs_n _ _ q_ne_fr, zhs_n _ _ q_ne_rs, zhs_n _ _ q_va_rw, zhs_n _ _ q_va_tm, zhs_n _ _ q_va_fr, zhs_n _ _ q_va_rs, zhs_n _ _ q_dn_rw, zhs_n _ _ q_dn_tm, zhs_n _ _ q_dn_fr, zhs_n _ _ q_dn_rs, zhs_n _ _ q_ch_rw, zhs_n _ _ q_ch_tm, zhs_n _ _ q_ch_fr, zhs_n _ _ q_ch_rs, zhs_n _ _ q_m_rw, zhs_n _ _ q_m_tm, zhs_n _ _ q_m_fr, zhs_n _ _ q_m_rs, zhs_n _ _ q_n_rw, zhs_n _ _ q_n_tm, zhs_n _ _ q_n_fr, zhs_n _ _ q_n_rs, zhs_n _ _ r1, zhs_n _ _ r2, zhs_n _ _ r3, zhs_n _ _ s1, zhs_n _ _ s2, zhs_n _ _ s3, zhs_n _ _ (Ne.symm r1), zhs_n _ _ (Ne.symm r2), zhs_n _ _ (Ne.symm r3), zhs_n _ _ (Ne.symm s1), zhs_n _ _ (Ne.symm s2), zhs_n _ _ (Ne.symm s3)]; exact hkc) _ _) (Nat.le_of_ble_eq_true rfl) ?_
            refine pv_aload_n (i := 0) t_X7_extend_186 rfl rfl ?_
            refine pv_getR t_X7_extend_187 fl_X7_17 hr.1 rfl ?_
            refine pv_iload t_X7_extend_190 rfl ?_
            refine pv_iconst (v := -1) t_X7_extend_192 zi_m1 ?_
            refine pv_gS3 t_X7_extend_193 ml_X7_105 mo_X8_add (Nat.le_of_ble_eq_true rfl) (e_X8_add hr.2.2.1 (by decide)) (Nat.le_of_ble_eq_true rfl) ?_
            refine pv_iinc (v := 1) t_X7_extend_196 rfl zi_1 ?_
            refine pv_goto t_X7_extend_199 ?_
            refine pv_loc (lv' := [(0, _), (1, _), (2, _), (3, _), (4, _), (5, _), (6, _)]) ⟨rfl, rfl, rfl, rfl, rfl, rfl, rfl, trivial⟩ ?_
            refine zst (S2 := (Ψ, rsH μ rw fr rs (exF (μ tr) (μ pa) (μ ne) (μ dn) (μ va) (μ ch) (μ rs 5) kc nc j p bl bg (μ tm) i z))) ?_ ?_
            · first | (rw [exF, if_neg hq]) | (rw [exF, if_pos hq]; simp only [e_tr, e_pa, e_ne, e_va, e_dn, e_ch, e_m, e_n, e_tm, e_rw, e_fr, e_rs, e_5, e_6, e_7, zhs_s, rP_back, zhs_n _ _ q_tr_rw, zhs_n _ _ q_tr_tm, zhs_n _ _ q_tr_fr, zhs_n _ _ q_tr_rs, zhs_n _ _ q_pa_rw, zhs_n _ _ q_pa_tm, zhs_n _ _ q_pa_fr, zhs_n _ _ q_pa_rs, zhs_n _ _ q_ne_rw, zhs_n _ _ q_ne_tm, zhs_n _ _ q_ne_fr, zhs_n _ _ q_ne_rs, zhs_n _ _ q_va_rw, zhs_n _ _ q_va_tm, zhs_n _ _ q_va_fr, zhs_n _ _ q_va_rs, zhs_n _ _ q_dn_rw, zhs_n _ _ q_dn_tm, zhs_n _ _ q_dn_fr, zhs_n _ _ q_dn_rs, zhs_n _ _ q_ch_rw, zhs_n _ _ q_ch_tm, zhs_n _ _ q_ch_fr, zhs_n _ _ q_ch_rs, zhs_n _ _ q_m_rw, zhs_n _ _ q_m_tm, zhs_n _ _ q_m_fr, zhs_n _ _ q_m_rs, zhs_n _ _ q_n_rw, zhs_n _ _ q_n_tm, zhs_n _ _ q_n_fr, zhs_n _ _ q_n_rs, zhs_n _ _ r1, zhs_n _ _ r2, zhs_n _ _ r3, zhs_n _ _ s1, zhs_n _ _ s2, zhs_n _ _ s3, zhs_n _ _ (Ne.symm r1), zhs_n _ _ (Ne.symm r2), zhs_n _ _ (Ne.symm r3), zhs_n _ _ (Ne.symm s1), zhs_n _ _ (Ne.symm s2), zhs_n _ _ (Ne.symm s3)]; rw [e_bk])
            exact ih (i + 1) (by omega) (by omega) _ _ (nI_1 i) (by rw [hz]; rfl)

