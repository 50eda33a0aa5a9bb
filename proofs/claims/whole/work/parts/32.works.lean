/-! ===== what agrees, what fits; the works ===== -/
theorem wb_rn_congr {le mo nd le' mo' nd' : Int → Int} {ho lo L0 H0 : Int} : ∀ k : Nat, (∀ m : Int, 0 ≤ m → m < k → le m = le' m ∧ mo m = mo' m ∧ nd m = nd' m) → wb_rn le mo ho lo nd L0 H0 k = wb_rn le' mo' ho lo nd' L0 H0 k ∧ wb_ok le mo ho lo nd L0 H0 k = wb_ok le' mo' ho lo nd' L0 H0 k := by
  intro k
  induction k with
  | zero => intro _; exact ⟨rfl, rfl⟩
  | succ k ih =>
    intro h
    obtain ⟨i1, i2⟩ := ih (fun m h1 h2 => h m h1 (by omega))
    obtain ⟨e1, e2, e3⟩ := h k (by omega) (by omega)
    have e : wb_rn le mo ho lo nd L0 H0 (k + 1) = wb_rn le' mo' ho lo nd' L0 H0 (k + 1) := by
      rw [wb_rn, wb_rn, i1, e1, e2, e3]
    refine ⟨e, ?_⟩
    rw [wb_ok, wb_ok, i2, e]
/-- a mixture agrees with a thing, with gives that are more and doubted months -/
def wb_A (n : Int) (c s : Int → Int) (sd sf more dou t x : Int) : Bool := wb_ok (wb_le c t more dou) (wb_mt c t more dou) (s (4 * t + 2)) (s (4 * t + 3)) (fun m => wb_ne c sd sf x m t) (s (4 * t)) (s (4 * t + 1)) n.toNat
def wb_al (f : Int → Bool) : Nat → Bool
  | 0 => true
  | k + 1 => wb_al f k && f k
/-- it agrees with all things -/
def wb_AA (n : Int) (c s : Int → Int) (sd sf more dou x : Int) : Bool := wb_al (fun t => wb_A n c s sd sf more dou t x) 3
def wb_ft (n : Int) (c s : Int → Int) (sd sf : Int) (K : Int → Bool) (more dou x : Int) : Bool := K x && wb_AA n c s sd sf more dou x
/-- who has so many keys -/
def wb_HL (hl n : Int) (c : Int → Int) (sd sf : Int) : Prop := (wb_sm1 c n sd sf ∧ hl = sd) ∨ (¬ wb_sm1 c n sd sf ∧ hl = -1)
def wb_cp (hl t : Int) : Nat := if t = hl then 72 else 45 + 9 * t.toNat
def wb_cr (hl t : Int) : Nat := if t = hl then 625 else 25
def wb_gu (hl sf t : Int) : Int := if t = hl then sf else -1
theorem wb_HL.rg {hl n : Int} {c s : Int → Int} {sd sf : Int} (h : wb_HL hl n c sd sf) (hR : wb_BR n c s sd sf) : (-1 ≤ hl ∧ hl ≤ 2) ∧ (0 ≤ hl → hl = sd ∧ 0 ≤ sf ∧ sf ≤ 2 ∧ sf ≠ sd) := by
  obtain ⟨r1, r2, r3, r4, r5, r6, r7, r8, r9⟩ := hR
  rcases h with ⟨h1, rfl⟩ | ⟨h1, rfl⟩
  · exact ⟨by omega, fun q => ⟨rfl, (r9 q).1, by omega, (r9 q).2⟩⟩
  · exact ⟨by omega, fun q => by omega⟩
theorem wb_gu_rm {hl n t : Int} {c s : Int → Int} {sd sf : Int} (h : wb_HL hl n c sd sf) (hR : wb_BR n c s sd sf) (ht : 0 ≤ t ∧ t < 3) : (wb_cr hl t = 25 ∧ wb_gu hl sf t = -1) ∨ (wb_cr hl t = 625 ∧ 0 ≤ wb_gu hl sf t ∧ wb_gu hl sf t < 3) := by
  have hr := h.rg hR
  unfold wb_cr wb_gu
  by_cases e : t = hl
  · rw [if_pos e, if_pos e]; right; have := hr.2 (by omega); omega
  · rw [if_neg e, if_neg e]; left; exact ⟨rfl, rfl⟩
theorem wb_cp_rg (hl : Int) {t : Int} (ht : 0 ≤ t ∧ t < 3) : 45 ≤ wb_cp hl t ∧ wb_cp hl t + 9 ≤ 81 := by
  unfold wb_cp; split <;> omega
theorem wb_cp_ap {hl t t' : Int} (ht : 0 ≤ t ∧ t < 3) (ht' : 0 ≤ t' ∧ t' < 3) (hne : t ≠ t') : wb_cp hl t + 9 ≤ wb_cp hl t' ∨ wb_cp hl t' + 9 ≤ wb_cp hl t := by
  unfold wb_cp
  by_cases e : t = hl
  · by_cases e' : t' = hl
    · omega
    · rw [if_pos e, if_neg e']; omega
  · by_cases e' : t' = hl
    · rw [if_neg e, if_pos e']; omega
    · rw [if_neg e, if_neg e']; omega
theorem wb_kn_rg {n : Int} {c s : Int → Int} {sd sf m t k : Int} (h : wb_BR n c s sd sf) (hk : 0 ≤ k ∧ k < 625) : 0 ≤ wb_kn c sd sf t k m ∧ wb_kn c sd sf t k m ≤ 320 := by
  have h1 := wb_ow_rg (m := m) (t := t) (r := k % 25) h (by omega)
  have h2 := wb_gn_rg (m := m) (t := t) (r := k / 25) h (by omega)
  unfold wb_kn; omega
/-- a key's needs are the mixture's -/
theorem wb_kn_ne {hl n : Int} {c s : Int → Int} {sd sf m t x : Int} (h : wb_HL hl n c sd sf) (hR : wb_BR n c s sd sf) (hm : 0 ≤ m ∧ m < n) (ht : 0 ≤ t ∧ t < 3) (hx : 0 ≤ x ∧ x < 15625) : wb_kn c sd sf t (25 * (if wb_gu hl sf t < 0 then 0 else wb_pr x (wb_gu hl sf t)) + wb_pr x t) m = wb_ne c sd sf x m t := by
  have hr := h.rg hR
  have p1 := wb_pr_rg (x := x) (t := t) hx.1
  unfold wb_kn wb_ne
  by_cases e : t = hl
  · have h2 := hr.2 (by omega)
    have p2 := wb_pr_rg (x := x) (t := sf) hx.1
    rw [show wb_gu hl sf t = sf by unfold wb_gu; rw [if_pos e], if_neg (by omega)]
    rw [show (25 * wb_pr x sf + wb_pr x t) % 25 = wb_pr x t by omega, show (25 * wb_pr x sf + wb_pr x t) / 25 = wb_pr x sf by omega]
  · rw [show wb_gu hl sf t = -1 by unfold wb_gu; rw [if_neg e], if_pos (by omega)]
    rw [show (25 * 0 + wb_pr x t) % 25 = wb_pr x t by omega]
    have g0 : ∀ r, wb_gn c sd sf m t r = 0 := fun r => by
      unfold wb_gn; rw [if_neg]; rintro ⟨q1, q2⟩
      rcases h with ⟨h1, h2⟩ | ⟨h1, h2⟩
      · omega
      · exact h1 ⟨m, hm.1, hm.2, q2⟩
    rw [g0, g0]
theorem wb_mp_A {hl n : Int} {c s : Int → Int} {sd sf more dou t x : Int} {le mo nd : Int → Int} (h : wb_HL hl n c sd sf) (hR : wb_BR n c s sd sf) (ht : 0 ≤ t ∧ t < 3) (hx : 0 ≤ x ∧ x < 15625) (hle : ∀ m, 0 ≤ m → m < n → le m = wb_le c t more dou m ∧ mo m = wb_mt c t more dou m) (hnd : ∀ k m : Int, 0 ≤ k → k < wb_cr hl t → 0 ≤ m → m < n → nd (k * 8 + m) = wb_kn c sd sf t k m) : wb_mp (wb_PP le mo (s (4 * t + 2)) (s (4 * t + 3)) nd (s (4 * t)) (s (4 * t + 1)) n (wb_cr hl t)) t (wb_gu hl sf t) x = wb_A n c s sd sf more dou t x := by
  have p1 := wb_pr_rg (x := x) (t := t) hx.1
  have hgu := wb_gu_rm h hR ht
  have hlt : 0 ≤ 25 * (if wb_gu hl sf t < 0 then 0 else wb_pr x (wb_gu hl sf t)) + wb_pr x t ∧ 25 * (if wb_gu hl sf t < 0 then 0 else wb_pr x (wb_gu hl sf t)) + wb_pr x t < wb_cr hl t := by
    rcases hgu with ⟨e1, e2⟩ | ⟨e1, e2⟩
    · rw [e1, e2, if_pos (by omega)]; omega
    · have p2 := wb_pr_rg (x := x) (t := wb_gu hl sf t) hx.1
      rw [e1, if_neg (by omega)]; omega
  unfold wb_mp wb_PP wb_A
  rw [decide_eq_true hlt.2, Bool.true_and]
  have hn := hR.1
  refine (wb_rn_congr n.toNat (fun m m1 m2 => ?_)).2
  obtain ⟨l1, l2⟩ := hle m m1 (by omega)
  exact ⟨l1, l2, by rw [hnd _ m hlt.1 hlt.2 m1 (by omega), wb_kn_ne h hR ⟨m1, by omega⟩ ht hx]⟩
/-- a course and its mesh have their shape -/
def wb_Sh (w : wb_W) (b rm : Nat) : Prop := (∃ (nd ah on : Int → Int) (t gu ke : Int), wb_Co w b rm nd ah on t gu ke) ∧ ∃ (t o : Int) (P : Int → Int → Bool), wb_Ms w (b + 6) 30 t o P
theorem wb_Sh.fr {w w' : wb_W} {b rm : Nat} (h : wb_Sh w b rm) (hf : ∀ k, b ≤ k → k < b + 9 → w' k = w k) : wb_Sh w' b rm := by
  obtain ⟨⟨nd, ah, on, t, gu, ke, h1⟩, t', o, P, h2⟩ := h
  exact ⟨⟨nd, ah, on, t, gu, ke, h1.fr (fun k p1 p2 => hf k p1 (by omega))⟩, t', o, P, h2.fr (fun k p1 p2 => hf k (by omega) (by omega))⟩
def wb_Sh4 (w : wb_W) : Prop := wb_Sh w 45 25 ∧ wb_Sh w 54 25 ∧ wb_Sh w 63 25 ∧ wb_Sh w 72 625
theorem wb_Sh4.fr {w w' : wb_W} (h : wb_Sh4 w) (hf : ∀ k, 45 ≤ k → k < 81 → w' k = w k) : wb_Sh4 w' :=
  ⟨h.1.fr (fun k p1 p2 => hf k (by omega) (by omega)), h.2.1.fr (fun k p1 p2 => hf k (by omega) (by omega)), h.2.2.1.fr (fun k p1 p2 => hf k (by omega) (by omega)), h.2.2.2.fr (fun k p1 p2 => hf k (by omega) (by omega))⟩
theorem wb_Sh4.at {w : wb_W} (h : wb_Sh4 w) (hl : Int) {t : Int} (ht : 0 ≤ t ∧ t < 3) : wb_Sh w (wb_cp hl t) (wb_cr hl t) := by
  unfold wb_cp wb_cr
  by_cases e : t = hl
  · rw [if_pos e, if_pos e]; exact h.2.2.2
  · rw [if_neg e, if_neg e]
    rcases (show t = 0 ∨ t = 1 ∨ t = 2 by omega) with rfl | rfl | rfl
    · exact h.1
    · exact h.2.1
    · exact h.2.2.1
theorem wb_Sh4.up {w w' : wb_W} (h : wb_Sh4 w) {hl t : Int} (ht : 0 ≤ t ∧ t < 3) (hs : wb_Sh w' (wb_cp hl t) (wb_cr hl t)) (hf : ∀ k, 45 ≤ k → k < 81 → (k < wb_cp hl t ∨ wb_cp hl t + 9 ≤ k) → w' k = w k) : wb_Sh4 w' := by
  unfold wb_cp wb_cr at hs
  unfold wb_cp at hf
  by_cases e : t = hl
  · rw [if_pos e, if_pos e] at hs
    rw [if_pos e] at hf
    exact ⟨h.1.fr (fun k p1 p2 => hf k (by omega) (by omega) (by omega)), h.2.1.fr (fun k p1 p2 => hf k (by omega) (by omega) (by omega)), h.2.2.1.fr (fun k p1 p2 => hf k (by omega) (by omega) (by omega)), hs⟩
  · rw [if_neg e, if_neg e] at hs
    rw [if_neg e] at hf
    rcases (show t = 0 ∨ t = 1 ∨ t = 2 by omega) with rfl | rfl | rfl
    · exact ⟨hs, h.2.1.fr (fun k p1 p2 => hf k (by omega) (by omega) (by omega)), h.2.2.1.fr (fun k p1 p2 => hf k (by omega) (by omega) (by omega)), h.2.2.2.fr (fun k p1 p2 => hf k (by omega) (by omega) (by omega))⟩
    · exact ⟨h.1.fr (fun k p1 p2 => hf k (by omega) (by omega) (by omega)), hs, h.2.2.1.fr (fun k p1 p2 => hf k (by omega) (by omega) (by omega)), h.2.2.2.fr (fun k p1 p2 => hf k (by omega) (by omega) (by omega))⟩
    · exact ⟨h.1.fr (fun k p1 p2 => hf k (by omega) (by omega) (by omega)), h.2.1.fr (fun k p1 p2 => hf k (by omega) (by omega) (by omega)), hs, h.2.2.2.fr (fun k p1 p2 => hf k (by omega) (by omega) (by omega))⟩
/-- a thing's course is set; its chart (cv) and its mesh (mv) are of this book -/
def wb_Ce (w : wb_W) (hl n : Int) (c s : Int → Int) (sd sf t : Int) (cv mv : Prop) : Prop :=
  (∃ nd ah on : Int → Int, wb_Co w (wb_cp hl t) (wb_cr hl t) nd ah on t (wb_gu hl sf t) (wb_cr hl t) ∧ (∀ k m : Int, 0 ≤ k → k < wb_cr hl t → 0 ≤ m → m < n → nd (k * 8 + m) = wb_kn c sd sf t k m) ∧
    (cv → (∀ k m : Int, 0 ≤ k → k < wb_cr hl t → 0 ≤ m → m ≤ n → ah (k * 9 + m) = wb_ah (wb_le c t 0 0) (wb_mt c t 0 0) (s (4 * t + 2)) (s (4 * t + 3)) (fun m => wb_kn c sd sf t k m) (s (4 * t)) (s (4 * t + 1)) m.toNat) ∧ (∀ k m : Int, 0 ≤ k → k < wb_cr hl t → 1 ≤ m → m ≤ n → on (k * 9 + m) = wb_on (wb_le c t 0 0) (wb_mt c t 0 0) (s (4 * t + 2)) (s (4 * t + 3)) (fun m => wb_kn c sd sf t k m) n (n - m).toNat))) ∧
  (mv → ∃ P, wb_Ms w (wb_cp hl t + 6) 30 t (wb_gu hl sf t) P ∧ ∀ x, 0 ≤ x → x < 15625 → wb_mp P t (wb_gu hl sf t) x = wb_A n c s sd sf 0 0 t x)
theorem wb_Ce.fr {w w' : wb_W} {hl n : Int} {c s : Int → Int} {sd sf t : Int} {cv mv : Prop} (h : wb_Ce w hl n c s sd sf t cv mv) (hf : ∀ k, wb_cp hl t ≤ k → k < wb_cp hl t + 9 → w' k = w k) : wb_Ce w' hl n c s sd sf t cv mv := by
  obtain ⟨⟨nd, ah, on, h1, h2, h3⟩, h4⟩ := h
  refine ⟨⟨nd, ah, on, h1.fr (fun k p1 p2 => hf k p1 (by omega)), h2, h3⟩, fun q => ?_⟩
  obtain ⟨P, h5, h6⟩ := h4 q
  exact ⟨P, h5.fr (fun k p1 p2 => hf k (by omega) (by omega)), h6⟩
theorem wb_Ce.no {w : wb_W} {hl n : Int} {c s : Int → Int} {sd sf t : Int} {cv mv cv' mv' : Prop} (h : wb_Ce w hl n c s sd sf t cv mv) (h1 : cv' → cv) (h2 : mv' → mv) : wb_Ce w hl n c s sd sf t cv' mv' := by
  obtain ⟨⟨nd, ah, on, a1, a2, a3⟩, h4⟩ := h
  exact ⟨⟨nd, ah, on, a1, a2, fun q => a3 (h1 q)⟩, fun q => h4 (h2 q)⟩
/-- the works themselves: holder, turns; parts, courses' row, shapes -/
def wb_Wo (w : wb_W) (hl wt ct mt : Int) : Prop :=
  w 29 = .inr (10, [.ref 4, .ref 30, .ref 35, .ref 44, .ref 72, .ref 38, .ref 40, .ref 42, .ref 43, .int (wb_i hl), .int (wb_i wt), .int (wb_i ct), .int (wb_i mt)]) ∧ w 44 = aQ 5 3 (fun j => some (45 + 9 * j)) ∧ wb_Pt w 30
theorem wb_Wo.fr {w w' : wb_W} {hl wt ct mt : Int} (h : wb_Wo w hl wt ct mt) (hf : ∀ k, (k = 29 ∨ k = 44 ∨ (30 ≤ k ∧ k < 35)) → w' k = w k) : wb_Wo w' hl wt ct mt :=
  ⟨(hf _ (by omega)).trans h.1, (hf _ (by omega)).trans h.2.1, h.2.2.fr (fun k p1 p2 => hf k (by omega))⟩
def wb_FS (w : wb_W) : Prop := ∃ (n : Int) (le mo : Int → Int) (fl fm ho lo L H : Int), wb_Fl w 35 n le mo fl fm ho lo L H
theorem wb_FS.fr {w w' : wb_W} (h : wb_FS w) (hf : ∀ k, 35 ≤ k → k < 38 → w' k = w k) : wb_FS w' := by
  obtain ⟨n, le, mo, fl, fm, ho, lo, L, H, h⟩ := h
  exact ⟨n, le, mo, fl, fm, ho, lo, L, H, h.fr (fun k p1 p2 => hf k p1 p2)⟩
theorem wb_FR_set {n : Int} {c s : Int → Int} {sd sf t more dou : Int} {le mo : Int → Int} (hR : wb_BR n c s sd sf) (ht : 0 ≤ t ∧ t < 3) (hmo : 0 ≤ more ∧ more ≤ 99) (hle : ∀ m, 0 ≤ m → m < n → le m = wb_le c t more dou m ∧ mo m = wb_mt c t more dou m) : wb_FR n le mo (s (4 * t)) (s (4 * t + 1)) (s (4 * t + 2)) (s (4 * t + 3)) := by
  obtain ⟨r1, r2, r3, r4, r5, r6, r7, r8, r9⟩ := hR
  have a0 := r3 (4 * t)
  have a1 := r3 (4 * t + 1)
  have a2 := r3 (4 * t + 2)
  have a3 := r3 (4 * t + 3)
  have a8 := r8 t
  refine ⟨r1, fun m m1 m2 => ?_, by omega, by omega, by omega, by omega⟩
  obtain ⟨l1, l2⟩ := hle m m1 m2
  have b1 := r2 (9 * m + t)
  have b2 := r2 (9 * m + 3)
  have b3 := r6 m
  rw [l1, l2]
  unfold wb_le wb_mt
  refine ⟨?_, ?_⟩
  · split
    · omega
    · split <;> omega
  · split <;> omega
