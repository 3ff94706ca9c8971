def rdR : Type := Nat × (Nat → Int32) × (Nat → Int32) × (Nat → Int32) × (Nat → Int32) × (Nat → Int32) × (Nat → Int32)
abbrev rdR.p (s : rdR) : Nat := s.1
abbrev rdR.g (s : rdR) : Nat → Int32 := s.2.1
abbrev rdR.M (s : rdR) : Nat → Int32 := s.2.2.1
abbrev rdR.T (s : rdR) : Nat → Int32 := s.2.2.2.1
abbrev rdR.P (s : rdR) : Nat → Int32 := s.2.2.2.2.1
abbrev rdR.N (s : rdR) : Nat → Int32 := s.2.2.2.2.2.1
abbrev rdR.F (s : rdR) : Nat → Int32 := s.2.2.2.2.2.2
abbrev rdR.mk (p : Nat) (g M T P N F : Nat → Int32) : rdR := (p, g, M, T, P, N, F)
def rdN (rd dm le tr pa ne fd : Nat) : Prop := rd ≠ dm ∧ rd ≠ tr ∧ rd ≠ pa ∧ rd ≠ ne ∧ rd ≠ fd ∧ dm ≠ rd ∧ dm ≠ tr ∧ dm ≠ pa ∧ dm ≠ ne ∧ dm ≠ fd ∧ tr ≠ rd ∧ tr ≠ dm ∧ tr ≠ pa ∧ tr ≠ ne ∧ tr ≠ fd ∧ pa ≠ rd ∧ pa ≠ dm ∧ pa ≠ tr ∧ pa ≠ ne ∧ pa ≠ fd ∧ ne ≠ rd ∧ ne ≠ dm ∧ ne ≠ tr ∧ ne ≠ pa ∧ ne ≠ fd ∧ fd ≠ rd ∧ fd ≠ dm ∧ fd ≠ tr ∧ fd ≠ pa ∧ fd ≠ ne ∧ le ≠ rd ∧ le ≠ dm ∧ le ≠ tr ∧ le ≠ pa ∧ le ≠ ne ∧ le ≠ fd
theorem rdN.rd_dm {rd dm le tr pa ne fd : Nat} (h : rdN rd dm le tr pa ne fd) : rd ≠ dm := h.1
theorem rdN.rd_tr {rd dm le tr pa ne fd : Nat} (h : rdN rd dm le tr pa ne fd) : rd ≠ tr := h.2.1
theorem rdN.rd_pa {rd dm le tr pa ne fd : Nat} (h : rdN rd dm le tr pa ne fd) : rd ≠ pa := h.2.2.1
theorem rdN.rd_ne {rd dm le tr pa ne fd : Nat} (h : rdN rd dm le tr pa ne fd) : rd ≠ ne := h.2.2.2.1
theorem rdN.rd_fd {rd dm le tr pa ne fd : Nat} (h : rdN rd dm le tr pa ne fd) : rd ≠ fd := h.2.2.2.2.1
theorem rdN.dm_rd {rd dm le tr pa ne fd : Nat} (h : rdN rd dm le tr pa ne fd) : dm ≠ rd := h.2.2.2.2.2.1
theorem rdN.dm_tr {rd dm le tr pa ne fd : Nat} (h : rdN rd dm le tr pa ne fd) : dm ≠ tr := h.2.2.2.2.2.2.1
theorem rdN.dm_pa {rd dm le tr pa ne fd : Nat} (h : rdN rd dm le tr pa ne fd) : dm ≠ pa := h.2.2.2.2.2.2.2.1
theorem rdN.dm_ne {rd dm le tr pa ne fd : Nat} (h : rdN rd dm le tr pa ne fd) : dm ≠ ne := h.2.2.2.2.2.2.2.2.1
theorem rdN.dm_fd {rd dm le tr pa ne fd : Nat} (h : rdN rd dm le tr pa ne fd) : dm ≠ fd := h.2.2.2.2.2.2.2.2.2.1
theorem rdN.tr_rd {rd dm le tr pa ne fd : Nat} (h : rdN rd dm le tr pa ne fd) : tr ≠ rd := h.2.2.2.2.2.2.2.2.2.2.1
theorem rdN.tr_dm {rd dm le tr pa ne fd : Nat} (h : rdN rd dm le tr pa ne fd) : tr ≠ dm := h.2.2.2.2.2.2.2.2.2.2.2.1
theorem rdN.tr_pa {rd dm le tr pa ne fd : Nat} (h : rdN rd dm le tr pa ne fd) : tr ≠ pa := h.2.2.2.2.2.2.2.2.2.2.2.2.1
theorem rdN.tr_ne {rd dm le tr pa ne fd : Nat} (h : rdN rd dm le tr pa ne fd) : tr ≠ ne := h.2.2.2.2.2.2.2.2.2.2.2.2.2.1
theorem rdN.tr_fd {rd dm le tr pa ne fd : Nat} (h : rdN rd dm le tr pa ne fd) : tr ≠ fd := h.2.2.2.2.2.2.2.2.2.2.2.2.2.2.1
theorem rdN.pa_rd {rd dm le tr pa ne fd : Nat} (h : rdN rd dm le tr pa ne fd) : pa ≠ rd := h.2.2.2.2.2.2.2.2.2.2.2.2.2.2.2.1
theorem rdN.pa_dm {rd dm le tr pa ne fd : Nat} (h : rdN rd dm le tr pa ne fd) : pa ≠ dm := h.2.2.2.2.2.2.2.2.2.2.2.2.2.2.2.2.1
theorem rdN.pa_tr {rd dm le tr pa ne fd : Nat} (h : rdN rd dm le tr pa ne fd) : pa ≠ tr := h.2.2.2.2.2.2.2.2.2.2.2.2.2.2.2.2.2.1
theorem rdN.pa_ne {rd dm le tr pa ne fd : Nat} (h : rdN rd dm le tr pa ne fd) : pa ≠ ne := h.2.2.2.2.2.2.2.2.2.2.2.2.2.2.2.2.2.2.1
theorem rdN.pa_fd {rd dm le tr pa ne fd : Nat} (h : rdN rd dm le tr pa ne fd) : pa ≠ fd := h.2.2.2.2.2.2.2.2.2.2.2.2.2.2.2.2.2.2.2.1
theorem rdN.ne_rd {rd dm le tr pa ne fd : Nat} (h : rdN rd dm le tr pa ne fd) : ne ≠ rd := h.2.2.2.2.2.2.2.2.2.2.2.2.2.2.2.2.2.2.2.2.1
theorem rdN.ne_dm {rd dm le tr pa ne fd : Nat} (h : rdN rd dm le tr pa ne fd) : ne ≠ dm := h.2.2.2.2.2.2.2.2.2.2.2.2.2.2.2.2.2.2.2.2.2.1
theorem rdN.ne_tr {rd dm le tr pa ne fd : Nat} (h : rdN rd dm le tr pa ne fd) : ne ≠ tr := h.2.2.2.2.2.2.2.2.2.2.2.2.2.2.2.2.2.2.2.2.2.2.1
theorem rdN.ne_pa {rd dm le tr pa ne fd : Nat} (h : rdN rd dm le tr pa ne fd) : ne ≠ pa := h.2.2.2.2.2.2.2.2.2.2.2.2.2.2.2.2.2.2.2.2.2.2.2.1
theorem rdN.ne_fd {rd dm le tr pa ne fd : Nat} (h : rdN rd dm le tr pa ne fd) : ne ≠ fd := h.2.2.2.2.2.2.2.2.2.2.2.2.2.2.2.2.2.2.2.2.2.2.2.2.1
theorem rdN.fd_rd {rd dm le tr pa ne fd : Nat} (h : rdN rd dm le tr pa ne fd) : fd ≠ rd := h.2.2.2.2.2.2.2.2.2.2.2.2.2.2.2.2.2.2.2.2.2.2.2.2.2.1
theorem rdN.fd_dm {rd dm le tr pa ne fd : Nat} (h : rdN rd dm le tr pa ne fd) : fd ≠ dm := h.2.2.2.2.2.2.2.2.2.2.2.2.2.2.2.2.2.2.2.2.2.2.2.2.2.2.1
theorem rdN.fd_tr {rd dm le tr pa ne fd : Nat} (h : rdN rd dm le tr pa ne fd) : fd ≠ tr := h.2.2.2.2.2.2.2.2.2.2.2.2.2.2.2.2.2.2.2.2.2.2.2.2.2.2.2.1
theorem rdN.fd_pa {rd dm le tr pa ne fd : Nat} (h : rdN rd dm le tr pa ne fd) : fd ≠ pa := h.2.2.2.2.2.2.2.2.2.2.2.2.2.2.2.2.2.2.2.2.2.2.2.2.2.2.2.2.1
theorem rdN.fd_ne {rd dm le tr pa ne fd : Nat} (h : rdN rd dm le tr pa ne fd) : fd ≠ ne := h.2.2.2.2.2.2.2.2.2.2.2.2.2.2.2.2.2.2.2.2.2.2.2.2.2.2.2.2.2.1
theorem rdN.le_rd {rd dm le tr pa ne fd : Nat} (h : rdN rd dm le tr pa ne fd) : le ≠ rd := h.2.2.2.2.2.2.2.2.2.2.2.2.2.2.2.2.2.2.2.2.2.2.2.2.2.2.2.2.2.2.1
theorem rdN.le_dm {rd dm le tr pa ne fd : Nat} (h : rdN rd dm le tr pa ne fd) : le ≠ dm := h.2.2.2.2.2.2.2.2.2.2.2.2.2.2.2.2.2.2.2.2.2.2.2.2.2.2.2.2.2.2.2.1
theorem rdN.le_tr {rd dm le tr pa ne fd : Nat} (h : rdN rd dm le tr pa ne fd) : le ≠ tr := h.2.2.2.2.2.2.2.2.2.2.2.2.2.2.2.2.2.2.2.2.2.2.2.2.2.2.2.2.2.2.2.2.1
theorem rdN.le_pa {rd dm le tr pa ne fd : Nat} (h : rdN rd dm le tr pa ne fd) : le ≠ pa := h.2.2.2.2.2.2.2.2.2.2.2.2.2.2.2.2.2.2.2.2.2.2.2.2.2.2.2.2.2.2.2.2.2.1
theorem rdN.le_ne {rd dm le tr pa ne fd : Nat} (h : rdN rd dm le tr pa ne fd) : le ≠ ne := h.2.2.2.2.2.2.2.2.2.2.2.2.2.2.2.2.2.2.2.2.2.2.2.2.2.2.2.2.2.2.2.2.2.2.1
theorem rdN.le_fd {rd dm le tr pa ne fd : Nat} (h : rdN rd dm le tr pa ne fd) : le ≠ fd := h.2.2.2.2.2.2.2.2.2.2.2.2.2.2.2.2.2.2.2.2.2.2.2.2.2.2.2.2.2.2.2.2.2.2.2
theorem rdN_of {sh : List zC} {rd dm le tr pa ne fd : Nat} (hr : oR sh rd dm le) (hm : oM sh dm tr pa ne fd) : rdN rd dm le tr pa ne fd := ⟨zne hr.1 hm.1 (by simp), zne hr.1 hm.2.1 (by simp), zne hr.1 hm.2.2.1 (by simp), zne hr.1 hm.2.2.2.1 (by simp), zne hr.1 hm.2.2.2.2 (by simp), zne hm.1 hr.1 (by simp), zne hm.1 hm.2.1 (by simp), zne hm.1 hm.2.2.1 (by simp), zne hm.1 hm.2.2.2.1 (by simp), zne hm.1 hm.2.2.2.2 (by simp), zne hm.2.1 hr.1 (by simp), zne hm.2.1 hm.1 (by simp), zne hm.2.1 hm.2.2.1 (by simp), zne hm.2.1 hm.2.2.2.1 (by simp), zne hm.2.1 hm.2.2.2.2 (by simp), zne hm.2.2.1 hr.1 (by simp), zne hm.2.2.1 hm.1 (by simp), zne hm.2.2.1 hm.2.1 (by simp), zne hm.2.2.1 hm.2.2.2.1 (by simp), zne hm.2.2.1 hm.2.2.2.2 (by simp), zne hm.2.2.2.1 hr.1 (by simp), zne hm.2.2.2.1 hm.1 (by simp), zne hm.2.2.2.1 hm.2.1 (by simp), zne hm.2.2.2.1 hm.2.2.1 (by simp), zne hm.2.2.2.1 hm.2.2.2.2 (by simp), zne hm.2.2.2.2 hr.1 (by simp), zne hm.2.2.2.2 hm.1 (by simp), zne hm.2.2.2.2 hm.2.1 (by simp), zne hm.2.2.2.2 hm.2.2.1 (by simp), zne hm.2.2.2.2 hm.2.2.2.1 (by simp), zne hr.2 hr.1 (by simp), zne hr.2 hm.1 (by simp), zne hr.2 hm.2.1 (by simp), zne hr.2 hm.2.2.1 (by simp), zne hr.2 hm.2.2.2.1 (by simp), zne hr.2 hm.2.2.2.2 (by simp)⟩
def rm (rd dm tr pa ne fd : Nat) (μ : zH) (s : rdR) : zH := zhs (zhs (zhs (zhs (zhs (zhs μ rd s.g) dm s.M) tr s.T) pa s.P) ne s.N) fd s.F
theorem rm_rd {rd dm le tr pa ne fd : Nat} (hN : rdN rd dm le tr pa ne fd) {μ : zH} {s : rdR} : rm rd dm tr pa ne fd μ s rd = s.g := by rw [rm, zhs_n _ _ hN.rd_fd, zhs_n _ _ hN.rd_ne, zhs_n _ _ hN.rd_pa, zhs_n _ _ hN.rd_tr, zhs_n _ _ hN.rd_dm, zhs_s]
theorem rm_prd {rd dm le tr pa ne fd : Nat} (hN : rdN rd dm le tr pa ne fd) {μ : zH} {s : rdR} {G : Nat → Int32} : zhs (rm rd dm tr pa ne fd μ s) rd G = rm rd dm tr pa ne fd μ (rdR.mk s.p (G) s.M s.T s.P s.N s.F) := by rw [rm, rm, zhs_cm hN.fd_rd, zhs_cm hN.ne_rd, zhs_cm hN.pa_rd, zhs_cm hN.tr_rd, zhs_cm hN.dm_rd, zhs_hs]
theorem rm_dm {rd dm le tr pa ne fd : Nat} (hN : rdN rd dm le tr pa ne fd) {μ : zH} {s : rdR} : rm rd dm tr pa ne fd μ s dm = s.M := by rw [rm, zhs_n _ _ hN.dm_fd, zhs_n _ _ hN.dm_ne, zhs_n _ _ hN.dm_pa, zhs_n _ _ hN.dm_tr, zhs_s]
theorem rm_pdm {rd dm le tr pa ne fd : Nat} (hN : rdN rd dm le tr pa ne fd) {μ : zH} {s : rdR} {G : Nat → Int32} : zhs (rm rd dm tr pa ne fd μ s) dm G = rm rd dm tr pa ne fd μ (rdR.mk s.p s.g (G) s.T s.P s.N s.F) := by rw [rm, rm, zhs_cm hN.fd_dm, zhs_cm hN.ne_dm, zhs_cm hN.pa_dm, zhs_cm hN.tr_dm, zhs_hs]
theorem rm_tr {rd dm le tr pa ne fd : Nat} (hN : rdN rd dm le tr pa ne fd) {μ : zH} {s : rdR} : rm rd dm tr pa ne fd μ s tr = s.T := by rw [rm, zhs_n _ _ hN.tr_fd, zhs_n _ _ hN.tr_ne, zhs_n _ _ hN.tr_pa, zhs_s]
theorem rm_ptr {rd dm le tr pa ne fd : Nat} (hN : rdN rd dm le tr pa ne fd) {μ : zH} {s : rdR} {G : Nat → Int32} : zhs (rm rd dm tr pa ne fd μ s) tr G = rm rd dm tr pa ne fd μ (rdR.mk s.p s.g s.M (G) s.P s.N s.F) := by rw [rm, rm, zhs_cm hN.fd_tr, zhs_cm hN.ne_tr, zhs_cm hN.pa_tr, zhs_hs]
theorem rm_pa {rd dm le tr pa ne fd : Nat} (hN : rdN rd dm le tr pa ne fd) {μ : zH} {s : rdR} : rm rd dm tr pa ne fd μ s pa = s.P := by rw [rm, zhs_n _ _ hN.pa_fd, zhs_n _ _ hN.pa_ne, zhs_s]
theorem rm_ppa {rd dm le tr pa ne fd : Nat} (hN : rdN rd dm le tr pa ne fd) {μ : zH} {s : rdR} {G : Nat → Int32} : zhs (rm rd dm tr pa ne fd μ s) pa G = rm rd dm tr pa ne fd μ (rdR.mk s.p s.g s.M s.T (G) s.N s.F) := by rw [rm, rm, zhs_cm hN.fd_pa, zhs_cm hN.ne_pa, zhs_hs]
theorem rm_ne {rd dm le tr pa ne fd : Nat} (hN : rdN rd dm le tr pa ne fd) {μ : zH} {s : rdR} : rm rd dm tr pa ne fd μ s ne = s.N := by rw [rm, zhs_n _ _ hN.ne_fd, zhs_s]
theorem rm_pne {rd dm le tr pa ne fd : Nat} (hN : rdN rd dm le tr pa ne fd) {μ : zH} {s : rdR} {G : Nat → Int32} : zhs (rm rd dm tr pa ne fd μ s) ne G = rm rd dm tr pa ne fd μ (rdR.mk s.p s.g s.M s.T s.P (G) s.F) := by rw [rm, rm, zhs_cm hN.fd_ne, zhs_hs]
theorem rm_fd {rd dm le tr pa ne fd : Nat} (hN : rdN rd dm le tr pa ne fd) {μ : zH} {s : rdR} : rm rd dm tr pa ne fd μ s fd = s.F := by rw [rm, zhs_s]
theorem rm_pfd {rd dm le tr pa ne fd : Nat} (hN : rdN rd dm le tr pa ne fd) {μ : zH} {s : rdR} {G : Nat → Int32} : zhs (rm rd dm tr pa ne fd μ s) fd G = rm rd dm tr pa ne fd μ (rdR.mk s.p s.g s.M s.T s.P s.N (G)) := by rw [rm, rm, zhs_hs]
theorem rm_le {rd dm le tr pa ne fd : Nat} (hN : rdN rd dm le tr pa ne fd) {μ : zH} {s : rdR} : rm rd dm tr pa ne fd μ s le = μ le := by rw [rm, zhs_n _ _ hN.le_fd, zhs_n _ _ hN.le_ne, zhs_n _ _ hN.le_pa, zhs_n _ _ hN.le_tr, zhs_n _ _ hN.le_dm, zhs_n _ _ hN.le_rd]
theorem peS_p {L : Nat → Int32} {n : Nat} {lo hi : Nat → Int32} {sz : Nat} {b : Int32} {s : rdQ} (hp : s.1 ≤ n) : ∀ i, (peS L n lo hi sz b i s).1 ≤ n
  | 0 => hp
  | i + 1 => by
    have h1 := peS_p (L := L) (lo := lo) (hi := hi) (sz := sz) (b := b) hp i
    have h2 := nx_le (L := L) (n := n) (p := (peS L n lo hi sz b i s).1)
    show nx _ _ _ ≤ n
    omega
def cPer (L : Nat → Int32) (n : Nat) (s : rdR) : rdR :=
  let q := peS L n tlo thi 24 (s.M 0 * 6) 6 (s.p + 1, pg s.g (s.M 0) 4, s.T)
  rdR.mk (sk L n q.1 + 1) (gen L n q.2.1 q.1) (upd s.M 0 (s.M 0 + 1)) q.2.2 s.P s.N s.F
def cPhr (L : Nat → Int32) (n : Nat) (s : rdR) : rdR :=
  let q := peS L n plo phi 40 (s.M 1 * 5) 5 (s.p + 1, pg s.g (s.M 1) 8, s.P)
  rdR.mk (sk L n q.1 + 1) (gen L n q.2.1 q.1) (upd s.M 1 (s.M 1 + 1)) s.T q.2.2 (rP s.N 8 (s.M 1) (dbit (part q.2.2 (s.M 1) 3) ||| dbit (part q.2.2 (s.M 1) 4))) s.F
def cDee (L : Nat → Int32) (n : Nat) (s : rdR) : rdR :=
  let q := nx L n (nx L n (s.p + 1))
  rdR.mk (sk L n q + 1) (gen L n (dG3 L n s.g s.p (s.M 0) s.F) q) s.M s.T s.P s.N (rP s.F 4 (dG1 L n s.g s.p (s.M 0)).1 (rA s.F 4 (dG1 L n s.g s.p (s.M 0)).1 ||| dB L n s.g s.p (s.M 0)))
def cOne (L : Nat → Int32) (n : Nat) (s : rdR) : rdR :=
  if L s.p = 100 then cPer L n s else if L s.p = 99 then cPhr L n s else if L s.p = 101 then cDee L n s else rdR.mk s.p (gmk s.g 1 (s.g 5)) s.M s.T s.P s.N s.F
def cSk (L : Nat → Int32) (n : Nat) (s : rdR) : rdR := rdR.mk (sk L n s.p) (upd s.g 5 (nI (sk L n s.p))) s.M s.T s.P s.N s.F
def rAl (L : Nat → Int32) (n : Nat) : Nat → rdR → rdR
  | 0, s => s
  | j + 1, s => if s.g 4 = 0 then (if sk L n s.p < n then rAl L n j (cOne L n (cSk L n s)) else cSk L n s) else s
def rdI (n : Nat) (s : rdR) : Prop := s.g 2 = nI n ∧ s.g 5 = nI s.p ∧ s.p ≤ n + 1
theorem cSk_i {L : Nat → Int32} {n : Nat} {s : rdR} (h : rdI n s) : rdI n (cSk L n s) := ⟨h.1, rfl, by have h1 := sk_le (L := L) (n := n) (p := s.p); have h2 := h.2.2; show sk L n s.p ≤ n + 1; omega⟩
theorem cPer_i {L : Nat → Int32} {n : Nat} {s : rdR} (h : rdI n s) (hp : s.p < n) : rdI n (cPer L n s) := by
  have h3 := peS_i (L := L) (n := n) (lo := tlo) (hi := thi) (sz := 24) (b := s.M 0 * 6) (s := (s.p + 1, pg s.g (s.M 0) 4, s.T)) (pg_2.trans h.1) (pg_5 (many := s.M 0) (lim := 4) h.2.1) (by show s.p + 1 ≤ n + 1; omega) 6
  refine ⟨?_, gen_5 (L := L) (n := n) (g := (peS L n tlo thi 24 (s.M 0 * 6) 6 (s.p + 1, pg s.g (s.M 0) 4, s.T)).2.1) (p := (peS L n tlo thi 24 (s.M 0 * 6) 6 (s.p + 1, pg s.g (s.M 0) 4, s.T)).1), ?_⟩
  · show gen _ _ _ _ 2 = _
    rw [gen_2, h3.1]
  · show sk _ _ _ + 1 ≤ _
    have h4 : (peS L n tlo thi 24 (s.M 0 * 6) 6 (s.p + 1, pg s.g (s.M 0) 4, s.T)).1 ≤ n := peS_p (by show s.p + 1 ≤ n; omega) 6
    have h5 := sk_le (L := L) (n := n) (p := (peS L n tlo thi 24 (s.M 0 * 6) 6 (s.p + 1, pg s.g (s.M 0) 4, s.T)).1)
    omega
theorem cPhr_i {L : Nat → Int32} {n : Nat} {s : rdR} (h : rdI n s) (hp : s.p < n) : rdI n (cPhr L n s) := by
  have h3 := peS_i (L := L) (n := n) (lo := plo) (hi := phi) (sz := 40) (b := s.M 1 * 5) (s := (s.p + 1, pg s.g (s.M 1) 8, s.P)) (pg_2.trans h.1) (pg_5 (many := s.M 1) (lim := 8) h.2.1) (by show s.p + 1 ≤ n + 1; omega) 5
  refine ⟨?_, gen_5 (L := L) (n := n) (g := (peS L n plo phi 40 (s.M 1 * 5) 5 (s.p + 1, pg s.g (s.M 1) 8, s.P)).2.1) (p := (peS L n plo phi 40 (s.M 1 * 5) 5 (s.p + 1, pg s.g (s.M 1) 8, s.P)).1), ?_⟩
  · show gen _ _ _ _ 2 = _
    rw [gen_2, h3.1]
  · show sk _ _ _ + 1 ≤ _
    have h4 : (peS L n plo phi 40 (s.M 1 * 5) 5 (s.p + 1, pg s.g (s.M 1) 8, s.P)).1 ≤ n := peS_p (by show s.p + 1 ≤ n; omega) 5
    have h5 := sk_le (L := L) (n := n) (p := (peS L n plo phi 40 (s.M 1 * 5) 5 (s.p + 1, pg s.g (s.M 1) 8, s.P)).1)
    omega
theorem cDee_i {L : Nat → Int32} {n : Nat} {s : rdR} (h : rdI n s) (hp : s.p < n) : rdI n (cDee L n s) := by
  refine ⟨?_, gen_5 (L := L) (n := n) (g := dG3 L n s.g s.p (s.M 0) s.F) (p := nx L n (nx L n (s.p + 1))), ?_⟩
  · show gen _ _ _ _ 2 = _
    rw [gen_2, dG3_2, h.1]
  · show sk _ _ _ + 1 ≤ _
    have h1 := nx_le (L := L) (n := n) (p := s.p + 1)
    have h2 := nx_le (L := L) (n := n) (p := nx L n (s.p + 1))
    have h5 := sk_le (L := L) (n := n) (p := nx L n (nx L n (s.p + 1)))
    omega
theorem cOne_i {L : Nat → Int32} {n : Nat} {s : rdR} (h : rdI n s) (hp : s.p < n) : rdI n (cOne L n s) := by
  unfold cOne
  split
  · exact cPer_i h hp
  · split
    · exact cPhr_i h hp
    · split
      · exact cDee_i h hp
      · exact ⟨by show gmk _ _ _ 2 = _; rw [gmk_2]; exact h.1, by show gmk _ _ _ 5 = _; rw [gmk_5]; exact h.2.1, h.2.2⟩
theorem zsw {x : Int32} (h1 : ¬ x = 99) (h2 : ¬ x = 100) (h3 : ¬ x = 101) : x.toInt < 99 ∨ 101 < x.toInt := by
  have a1 : x.toInt ≠ 99 := fun h => h1 (Int32.toInt_inj.mp h)
  have a2 : x.toInt ≠ 100 := fun h => h2 (Int32.toInt_inj.mp h)
  have a3 : x.toInt ≠ 101 := fun h => h3 (Int32.toInt_inj.mp h)
  omega
theorem lp_X6_readAll {l : Launch} {X : zX} {d : Nat} {Ψ : List zC} {μ : zH} {rd dm le tr pa ne fd : Nat} (hr : oR Ψ rd dm le) (hm : oM Ψ dm tr pa ne fd) {n : Nat} (hn250 : n ≤ 250) : ∀ j i : Nat, i + j = 250 → ∀ s : rdR, rdI n s → zEv l X mi_X6_readAll (d + 6) 24 [(0, .inr rd), (1, .inl (nI i))] [] (Ψ, rm rd dm tr pa ne fd μ s) 0 0 (some (.inl ((rAl (μ le) n j s).g 4))) (Ψ, rm rd dm tr pa ne fd μ (rdR.mk (rAl (μ le) n j s).p (upd (rAl (μ le) n j s).g 2 0) (rAl (μ le) n j s).M (rAl (μ le) n j s).T (rAl (μ le) n j s).P (rAl (μ le) n j s).N (rAl (μ le) n j s).F)) := by
  have hN := rdN_of hr hm
  intro j
  induction j with
  | zero =>
    intro i hi s hI
    obtain rfl : i = 250 := by omega
    refine pv_iload_n (i := 1) t_X6_readAll_24 rfl rfl ?_
    refine pv_sipush (v := 250) t_X6_readAll_25 zs_250 ?_
    refine pv_icmp_ge t_X6_readAll_28 (fun c28 => ?_) (fun c28 => absurd (Int32.le_refl _) c28)
    have hz : rAl (μ le) n 0 s = s := rfl
    refine pv_aload_n (i := 0) t_X6_readAll_124 rfl rfl ?_
    refine pv_iconst (v := 0) t_X6_readAll_125 zi_0 ?_
    refine pv_putI t_X6_readAll_126 fl_X6_22 zfn_6_2 hr.1 rfl ?_
    refine pv_aload_n (i := 0) t_X6_readAll_129 rfl rfl ?_
    refine pv_getI t_X6_readAll_130 fl_X6_35 hr.1 rfl ?_
    exact pv_ireti t_X6_readAll_133 rfl (by rw [zhs_s, rm_rd hN, hz]; rfl) (by rw [rm_rd hN, hz, rm_prd hN])
  | succ j ih =>
    intro i hi s hI
    refine pv_iload_n (i := 1) t_X6_readAll_24 rfl rfl ?_
    refine pv_sipush (v := 250) t_X6_readAll_25 zs_250 ?_
    refine pv_icmp_ge t_X6_readAll_28 (fun c28 => absurd (show nI 250 ≤ nI i from c28) (nI_ge (by omega) (by omega))) (fun c28 => ?_)
    refine pv_aload_n (i := 0) t_X6_readAll_31 rfl rfl ?_
    refine pv_getI t_X6_readAll_32 fl_X6_35 hr.1 rfl ?_
    refine pv_if_ne t_X6_readAll_35 (fun c35 => ?_) (fun c35 => ?_)
    · skip
      have hz : rAl (μ le) n (j + 1) s = s := by rw [rm_rd hN] at c35; rw [rAl, if_neg c35]
      refine pv_aload_n (i := 0) t_X6_readAll_124 rfl rfl ?_
      refine pv_iconst (v := 0) t_X6_readAll_125 zi_0 ?_
      refine pv_putI t_X6_readAll_126 fl_X6_22 zfn_6_2 hr.1 rfl ?_
      refine pv_aload_n (i := 0) t_X6_readAll_129 rfl rfl ?_
      refine pv_getI t_X6_readAll_130 fl_X6_35 hr.1 rfl ?_
      exact pv_ireti t_X6_readAll_133 rfl (by rw [zhs_s, rm_rd hN, hz]; rfl) (by rw [rm_rd hN, hz, rm_prd hN])
    · skip
      rw [rm_rd hN] at c35
      refine pv_aload_n (i := 0) t_X6_readAll_38 rfl rfl ?_
      refine pv_gV0 t_X6_readAll_39 ml_X6_44 mo_X6_skipBlanks hr.1 rfl (Nat.le_of_ble_eq_true rfl) (e_X6_skipBlanks hr hn250 _ s.p (Nat.le_refl _) (by have := hI.2.2; omega) _ (by rw [rm_rd hN]; exact hI.1) (by rw [rm_rd hN]; exact hI.2.1)) (Nat.le_of_ble_eq_true rfl) ?_
      rw [rm_le hN, rm_rd hN, rm_prd hN, show rm rd dm tr pa ne fd μ (rdR.mk s.p (upd s.g 5 (nI (sk (μ le) n s.p))) s.M s.T s.P s.N s.F) = rm rd dm tr pa ne fd μ (cSk (μ le) n s) from rfl]
      have hS := cSk_i (L := μ le) hI
      refine pv_aload_n (i := 0) t_X6_readAll_42 rfl rfl ?_
      refine pv_getI t_X6_readAll_43 fl_X6_41 hr.1 rfl ?_
      refine pv_aload_n (i := 0) t_X6_readAll_46 rfl rfl ?_
      refine pv_getI t_X6_readAll_47 fl_X6_22 hr.1 rfl ?_
      refine pv_icmp_lt t_X6_readAll_50 (fun c50 => ?_) (fun c50 => ?_)
      · skip
        rw [rm_rd hN] at c50
        have hin : (sk (μ le) n s.p) < n := by rw [hS.1, hS.2.1] at c50; exact Nat.lt_of_not_le (fun q => nI_nlt q (by have := sk_le (L := μ le) (n := n) (p := s.p); have := hI.2.2; omega) c50)
        refine pv_aload_n (i := 0) t_X6_readAll_56 rfl rfl ?_
        refine pv_gV0 t_X6_readAll_57 ml_X6_47 mo_X6_letter hr.1 rfl (Nat.le_of_ble_eq_true rfl) (e_X6_letter hr (by rw [rm_rd hN]; exact hS.1) hn250 (p := (sk (μ le) n s.p)) (by rw [rm_rd hN]; exact hS.2.1) (by omega)) (Nat.le_of_ble_eq_true rfl) ?_
        rw [rm_le hN, lt, if_pos hin]
        have hz : rAl (μ le) n (j + 1) s = rAl (μ le) n j (cOne (μ le) n (cSk (μ le) n s)) := by rw [rAl, if_pos c35, if_pos hin]
        by_cases h1 : μ le (sk (μ le) n s.p) = 100
        · have hO : (cOne (μ le) n (cSk (μ le) n s)) = cPer (μ le) n (cSk (μ le) n s) := by rw [cOne, if_pos (show μ le (cSk (μ le) n s).p = 100 from h1)]
          refine pv_tabIn (tgt := 88) (off := 28) t_X6_readAll_60 (by rw [h1]; decide) (by rw [h1]; decide) (by rw [h1]; rfl) rfl ?_
          refine pv_aload_n (i := 0) t_X6_readAll_88 rfl rfl ?_
          refine pv_gV0 t_X6_readAll_89 ml_X6_51 mo_X6_readPerson hr.1 rfl (Nat.le_of_ble_eq_true rfl) (e_X6_readPerson hr hm (by rw [rm_rd hN]; exact hS.1) hn250 (p := (sk (μ le) n s.p)) (by rw [rm_rd hN]; exact hS.2.1) (by omega)) (Nat.le_of_ble_eq_true rfl) ?_
          refine pv_goto t_X6_readAll_92 ?_
          refine zst (S2 := (Ψ, rm rd dm tr pa ne fd μ (cOne (μ le) n (cSk (μ le) n s)))) (by rw [hO]; simp only [zq, rm_rd hN, rm_dm hN, rm_tr hN, rm_pa hN, rm_ne hN, rm_fd hN, rm_le hN, rm_prd hN, rm_pdm hN, rm_ptr hN, rm_ppa hN, rm_pne hN, rm_pfd hN] <;> rfl) ?_
          refine pv_iinc (v := 1) t_X6_readAll_118 rfl zi_1 ?_
          refine pv_goto t_X6_readAll_121 ?_
          refine pv_loc (lv' := [(0, _), (1, _)]) ⟨rfl, rfl, trivial⟩ ?_
          rw [nI_1, hz]
          exact ih (i + 1) (by omega) _ (cOne_i hS hin)
        by_cases h2 : μ le (sk (μ le) n s.p) = 99
        · have hO : (cOne (μ le) n (cSk (μ le) n s)) = cPhr (μ le) n (cSk (μ le) n s) := by rw [cOne, if_neg (show ¬ μ le (cSk (μ le) n s).p = 100 from h1), if_pos (show μ le (cSk (μ le) n s).p = 99 from h2)]
          refine pv_tabIn (tgt := 95) (off := 35) t_X6_readAll_60 (by rw [h2]; decide) (by rw [h2]; decide) (by rw [h2]; rfl) rfl ?_
          refine pv_aload_n (i := 0) t_X6_readAll_95 rfl rfl ?_
          refine pv_gV0 t_X6_readAll_96 ml_X6_54 mo_X6_readPhrase hr.1 rfl (Nat.le_of_ble_eq_true rfl) (e_X6_readPhrase hr hm (by rw [rm_rd hN]; exact hS.1) hn250 (p := (sk (μ le) n s.p)) (by rw [rm_rd hN]; exact hS.2.1) (by omega)) (Nat.le_of_ble_eq_true rfl) ?_
          refine pv_goto t_X6_readAll_99 ?_
          refine zst (S2 := (Ψ, rm rd dm tr pa ne fd μ (cOne (μ le) n (cSk (μ le) n s)))) (by rw [hO]; simp only [zq, rm_rd hN, rm_dm hN, rm_tr hN, rm_pa hN, rm_ne hN, rm_fd hN, rm_le hN, rm_prd hN, rm_pdm hN, rm_ptr hN, rm_ppa hN, rm_pne hN, rm_pfd hN] <;> rfl) ?_
          refine pv_iinc (v := 1) t_X6_readAll_118 rfl zi_1 ?_
          refine pv_goto t_X6_readAll_121 ?_
          refine pv_loc (lv' := [(0, _), (1, _)]) ⟨rfl, rfl, trivial⟩ ?_
          rw [nI_1, hz]
          exact ih (i + 1) (by omega) _ (cOne_i hS hin)
        by_cases h3 : μ le (sk (μ le) n s.p) = 101
        · have hO : (cOne (μ le) n (cSk (μ le) n s)) = cDee (μ le) n (cSk (μ le) n s) := by rw [cOne, if_neg (show ¬ μ le (cSk (μ le) n s).p = 100 from h1), if_neg (show ¬ μ le (cSk (μ le) n s).p = 99 from h2), if_pos (show μ le (cSk (μ le) n s).p = 101 from h3)]
          refine pv_tabIn (tgt := 102) (off := 42) t_X6_readAll_60 (by rw [h3]; decide) (by rw [h3]; decide) (by rw [h3]; rfl) rfl ?_
          refine pv_aload_n (i := 0) t_X6_readAll_102 rfl rfl ?_
          refine pv_gV0 t_X6_readAll_103 ml_X6_57 mo_X6_readDeed hr.1 rfl (Nat.le_of_ble_eq_true rfl) (e_X6_readDeed hr hm (by rw [rm_rd hN]; exact hS.1) hn250 (p := (sk (μ le) n s.p)) (by rw [rm_rd hN]; exact hS.2.1) (by omega)) (Nat.le_of_ble_eq_true rfl) ?_
          refine pv_goto t_X6_readAll_106 ?_
          refine zst (S2 := (Ψ, rm rd dm tr pa ne fd μ (cOne (μ le) n (cSk (μ le) n s)))) (by rw [hO]; simp only [rm_rd hN, rm_dm hN, rm_tr hN, rm_pa hN, rm_ne hN, rm_fd hN, rm_le hN, rm_prd hN, rm_pdm hN, rm_ptr hN, rm_ppa hN, rm_pne hN, rm_pfd hN] <;> rfl) ?_
          refine pv_iinc (v := 1) t_X6_readAll_118 rfl zi_1 ?_
          refine pv_goto t_X6_readAll_121 ?_
          refine pv_loc (lv' := [(0, _), (1, _)]) ⟨rfl, rfl, trivial⟩ ?_
          rw [nI_1, hz]
          exact ih (i + 1) (by omega) _ (cOne_i hS hin)
        have hO : (cOne (μ le) n (cSk (μ le) n s)) = (rdR.mk (cSk (μ le) n s).p (gmk (cSk (μ le) n s).g 1 ((cSk (μ le) n s).g 5)) (cSk (μ le) n s).M (cSk (μ le) n s).T (cSk (μ le) n s).P (cSk (μ le) n s).N (cSk (μ le) n s).F) := by rw [cOne, if_neg (show ¬ μ le (cSk (μ le) n s).p = 100 from h1), if_neg (show ¬ μ le (cSk (μ le) n s).p = 99 from h2), if_neg (show ¬ μ le (cSk (μ le) n s).p = 101 from h3)]
        refine pv_tabOut (tgt := 109) t_X6_readAll_60 (zsw h2 h1 h3) rfl ?_
        refine pv_aload_n (i := 0) t_X6_readAll_109 rfl rfl ?_
        refine pv_iconst (v := 1) t_X6_readAll_110 zi_1 ?_
        refine pv_aload_n (i := 0) t_X6_readAll_111 rfl rfl ?_
        refine pv_getI t_X6_readAll_112 fl_X6_41 hr.1 rfl ?_
        refine pv_gV2 t_X6_readAll_115 ml_X6_60 mo_X6_mark hr.1 rfl (Nat.le_of_ble_eq_true rfl) (e_X6_mark hr) (Nat.le_of_ble_eq_true rfl) ?_
        refine zst (S2 := (Ψ, rm rd dm tr pa ne fd μ (cOne (μ le) n (cSk (μ le) n s)))) (by rw [hO]; simp only [rm_rd hN, rm_dm hN, rm_tr hN, rm_pa hN, rm_ne hN, rm_fd hN, rm_le hN, rm_prd hN, rm_pdm hN, rm_ptr hN, rm_ppa hN, rm_pne hN, rm_pfd hN] <;> rfl) ?_
        refine pv_iinc (v := 1) t_X6_readAll_118 rfl zi_1 ?_
        refine pv_goto t_X6_readAll_121 ?_
        refine pv_loc (lv' := [(0, _), (1, _)]) ⟨rfl, rfl, trivial⟩ ?_
        rw [nI_1, hz]
        exact ih (i + 1) (by omega) _ (cOne_i hS hin)
      · skip
        rw [rm_rd hN] at c50
        have hin : ¬ (sk (μ le) n s.p) < n := by rw [hS.1, hS.2.1] at c50; exact fun q => c50 (nI_lt q (by omega))
        have hz : rAl (μ le) n (j + 1) s = (cSk (μ le) n s) := by rw [rAl, if_pos c35, if_neg hin]
        refine pv_goto t_X6_readAll_53 ?_
        refine pv_aload_n (i := 0) t_X6_readAll_124 rfl rfl ?_
        refine pv_iconst (v := 0) t_X6_readAll_125 zi_0 ?_
        refine pv_putI t_X6_readAll_126 fl_X6_22 zfn_6_2 hr.1 rfl ?_
        refine pv_aload_n (i := 0) t_X6_readAll_129 rfl rfl ?_
        refine pv_getI t_X6_readAll_130 fl_X6_35 hr.1 rfl ?_
        exact pv_ireti t_X6_readAll_133 rfl (by rw [zhs_s, rm_rd hN, hz]; rfl) (by rw [rm_rd hN, hz, rm_prd hN])
def rd0 (rd dm tr pa ne fd : Nat) (μ : zH) : rdR := rdR.mk 0 (upd (upd (upd (μ rd) 4 0) 3 (-1)) 5 0) (upd (upd (μ dm) 0 0) 1 0) (μ tr) (μ pa) (μ ne) (fun k => if k < 4 then 0 else μ fd k)
theorem rm_0 {rd dm le tr pa ne fd : Nat} (hN : rdN rd dm le tr pa ne fd) {μ : zH} {s : rdR} : rm rd dm tr pa ne fd μ (rdR.mk s.p (μ rd) (μ dm) (μ tr) (μ pa) (μ ne) (μ fd)) = μ := by
  funext x
  simp only [rm, zhs]
  repeat' split
  all_goals simp_all
theorem e_X6_readAll {l : Launch} {X : zX} {d : Nat} {Ψ : List zC} {μ : zH} {rd dm le tr pa ne fd : Nat} (hr : oR Ψ rd dm le) (hm : oM Ψ dm tr pa ne fd) {n : Nat} (hn : μ rd 2 = nI n) (hn250 : n ≤ 250) : zRn l X mi_X6_readAll (d + 6) [.inr rd] (Ψ, μ) (some (.inl ((rAl (μ le) n 250 (rd0 rd dm tr pa ne fd μ)).g 4))) (Ψ, rm rd dm tr pa ne fd μ (rdR.mk (rAl (μ le) n 250 (rd0 rd dm tr pa ne fd μ)).p (upd (rAl (μ le) n 250 (rd0 rd dm tr pa ne fd μ)).g 2 0) (rAl (μ le) n 250 (rd0 rd dm tr pa ne fd μ)).M (rAl (μ le) n 250 (rd0 rd dm tr pa ne fd μ)).T (rAl (μ le) n 250 (rd0 rd dm tr pa ne fd μ)).P (rAl (μ le) n 250 (rd0 rd dm tr pa ne fd μ)).N (rAl (μ le) n 250 (rd0 rd dm tr pa ne fd μ)).F)) := by
  have hN := rdN_of hr hm
  refine pv_aload_n (i := 0) t_X6_readAll_0 rfl rfl ?_
  refine pv_getR t_X6_readAll_1 fl_X6_12 hr.1 rfl ?_
  refine pv_gV0 t_X6_readAll_4 ml_X6_32 mo_X4_clear hm.1 rfl (Nat.le_of_ble_eq_true rfl) (e_X4_clear hm) (Nat.le_of_ble_eq_true rfl) ?_
  refine pv_aload_n (i := 0) t_X6_readAll_7 rfl rfl ?_
  refine pv_iconst (v := 0) t_X6_readAll_8 zi_0 ?_
  refine pv_putI t_X6_readAll_9 fl_X6_35 zfn_6_4 hr.1 rfl ?_
  refine pv_aload_n (i := 0) t_X6_readAll_12 rfl rfl ?_
  refine pv_iconst (v := -1) t_X6_readAll_13 zi_m1 ?_
  refine pv_putI t_X6_readAll_14 fl_X6_38 zfn_6_3 hr.1 rfl ?_
  refine pv_aload_n (i := 0) t_X6_readAll_17 rfl rfl ?_
  refine pv_iconst (v := 0) t_X6_readAll_18 zi_0 ?_
  refine pv_putI t_X6_readAll_19 fl_X6_41 zfn_6_5 hr.1 rfl ?_
  refine pv_iconst (v := 0) t_X6_readAll_22 zi_0 ?_
  refine pv_istore_n (i := 1) t_X6_readAll_23 rfl (Nat.le_of_ble_eq_true rfl) ?_
  refine zst (S2 := (Ψ, rm rd dm tr pa ne fd μ (rd0 rd dm tr pa ne fd μ))) ?_ (lp_X6_readAll hr hm hn250 250 0 rfl (rd0 rd dm tr pa ne fd μ) ⟨hn, rfl, Nat.zero_le _⟩)
  have hm0 := rm_0 hN (μ := μ) (s := rd0 rd dm tr pa ne fd μ)
  generalize hν : rm rd dm tr pa ne fd μ (rd0 rd dm tr pa ne fd μ) = ν
  rw [← hm0]
  simp only [rm_rd hN, rm_dm hN, rm_tr hN, rm_pa hN, rm_ne hN, rm_fd hN, rm_le hN, rm_prd hN, rm_pdm hN, rm_ptr hN, rm_ppa hN, rm_pne hN, rm_pfd hN]
  rw [← hν]
  rfl

