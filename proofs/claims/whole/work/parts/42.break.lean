/-! ===== changes: what can come later ===== -/
theorem wb_unl : ∀ p : Fin 25, wb_i 33554431 &&& ((wb_i 1 <<< (wb_i (p.val : Int) &&& 31)) ^^^ wb_i (-1)) = wb_i (33554431 - wb_p2 (p.val : Int)) := by decide +kernel
theorem wb_unlb : ∀ p j : Fin 25, wb_bt (33554431 - wb_p2 (p.val : Int)) (j.val : Int) = decide (j.val ≠ p.val) := by decide +kernel
theorem wb_unlr : ∀ p : Fin 25, 0 ≤ 33554431 - wb_p2 (p.val : Int) ∧ 33554431 - wb_p2 (p.val : Int) < 33554432 := by decide +kernel
theorem wb_unlike {p : Int} (hp : 0 ≤ p ∧ p < 25) : wb_i 33554431 &&& ((wb_i 1 <<< (wb_i p &&& 31)) ^^^ wb_i (-1)) = wb_i (33554431 - wb_p2 p) ∧ (0 ≤ 33554431 - wb_p2 p ∧ 33554431 - wb_p2 p < 33554432) ∧ ∀ j, 0 ≤ j → j < 25 → wb_bt (33554431 - wb_p2 p) j = decide (j ≠ p) := by
  have h1 := wb_unl ⟨p.toNat, by omega⟩
  have h3 := wb_unlr ⟨p.toNat, by omega⟩
  simp only [show ((p.toNat : Nat) : Int) = p by omega] at h1 h3
  refine ⟨h1, h3, fun j j1 j2 => ?_⟩
  have h2 := wb_unlb ⟨p.toNat, by omega⟩ ⟨j.toNat, by omega⟩
  simp only [show ((p.toNat : Nat) : Int) = p by omega, show ((j.toNat : Nat) : Int) = j by omega] at h2
  rw [h2]; exact decide_eq_decide.mpr (by omega)
theorem wb_al_congr {f f' : Int → Bool} : ∀ k : Nat, (∀ t : Int, 0 ≤ t → t < k → f t = f' t) → wb_al f k = wb_al f' k := by
  intro k
  induction k with
  | zero => intro _; rfl
  | succ k ih => intro h; rw [wb_al, wb_al, ih (fun t h1 h2 => h t h1 (by omega)), h k (by omega) (by omega)]
theorem wb_p2_bt {t u : Int} (ht : 0 ≤ t) (hu : 0 ≤ u) : wb_bt (wb_p2 t) u = decide (u = t) := by
  have e : wb_p2 t = wb_ad1 0 t := by unfold wb_p2 wb_ad1; simp
  rw [e, wb_ad1_bt u ht hu, wb_bt0, Bool.false_or]
/-- charts: ahead of a month by a key, and onward -/
def wb_AH (c s : Int → Int) (sd sf t k m : Int) : Int := wb_ah (wb_le c t 0 0) (wb_mt c t 0 0) (s (4 * t + 2)) (s (4 * t + 3)) (fun m => wb_kn c sd sf t k m) (s (4 * t)) (s (4 * t + 1)) m.toNat
def wb_ON (n : Int) (c s : Int → Int) (sd sf t k m : Int) : Int := wb_on (wb_le c t 0 0) (wb_mt c t 0 0) (s (4 * t + 2)) (s (4 * t + 3)) (fun m => wb_kn c sd sf t k m) n (n - m).toNat
theorem wb_AH_rg {n : Int} {c s : Int → Int} {sd sf t k m : Int} (hR : wb_BR n c s sd sf) : -1 ≤ wb_AH c s sd sf t k m ∧ wb_AH c s sd sf t k m ≤ 60000 := by
  have hs0 := hR.2.2.1 (4 * t)
  have hs2 := hR.2.2.1 (4 * t + 2)
  have hs8 := hR.2.2.2.2.2.2.2.1 t
  unfold wb_AH wb_ah
  split
  · rename_i h
    have := wb_ok_rg (le := wb_le c t 0 0) (mo := wb_mt c t 0 0) (lo := s (4 * t + 3)) (nd := fun m => wb_kn c sd sf t k m) (L0 := s (4 * t)) (H0 := s (4 * t + 1)) (ho := s (4 * t + 2)) ⟨hs0.1, hs8.1, by omega⟩ (by omega) _ h
    omega
  · omega
theorem wb_ON_rg {n : Int} {c s : Int → Int} {sd sf t k m : Int} (hR : wb_BR n c s sd sf) : -1 ≤ wb_ON n c s sd sf t k m ∧ wb_ON n c s sd sf t k m ≤ 60000 := by
  have hs2 := hR.2.2.1 (4 * t + 2)
  unfold wb_ON wb_on
  split
  · rename_i h
    have := wb_bo_rg (le := wb_le c t 0 0) (mo := wb_mt c t 0 0) (lo := s (4 * t + 3)) (nd := fun m => wb_kn c sd sf t k m) (n := n) (ho := s (4 * t + 2)) (by omega) _ h
    omega
  · omega
def wb_pa (hl sf t : Int) : Int := if hl < 0 then -1 else if t = hl then sf else if t = sf then hl else -1
/-- things that such a change touches -/
def wb_to (hl sf t u : Int) : Bool := decide (u = t) || (decide (0 ≤ wb_pa hl sf t ∧ wb_pa hl sf t = hl) && decide (u = hl))
def wb_S0 (n : Int) (c s : Int → Int) (sd sf : Int) (K : Int → Bool) (hl t x : Int) : Bool := K x && wb_al (fun u => wb_to hl sf t u || wb_A n c s sd sf 0 0 u x) 3
/-- a later pair j for a pair and the partner's pair -/
def wb_LW (n : Int) (c s : Int → Int) (sd sf hl t m p o j : Int) : Bool := if t = hl then wb_mt2 (wb_AH c s sd sf hl (p + 25 * o) m) (wb_ON n c s sd sf hl (25 * o + j) m) else wb_mt2 (wb_AH c s sd sf hl (o + 25 * p) m) (wb_ON n c s sd sf hl (o + 25 * j) m)
def wb_LO (n : Int) (c s : Int → Int) (sd sf hl t m p j : Int) : Bool := decide (j ≠ p) && (decide (t = hl) || wb_mt2 (wb_AH c s sd sf t p m) (wb_ON n c s sd sf t j m))
def wb_LB (n : Int) (c s : Int → Int) (sd sf hl t m p o j : Int) : Bool := wb_LO n c s sd sf hl t m p j && (decide (wb_pa hl sf t < 0) || wb_LW n c s sd sf hl t m p o j)
def wb_Br (w : wb_W) (pa bt mo th be bh : Int) : Prop := w 82 = .inr (1, [.ref 29, .ref 86, .ref 83, .ref 85, .int (wb_i pa), .int (wb_i bt), .int (wb_i mo), .int (wb_i th), .int (wb_i be), .int (wb_i bh)])
theorem wb_pa_rg {hl n : Int} {c s : Int → Int} {sd sf t : Int} (h : wb_HL hl n c sd sf) (hR : wb_BR n c s sd sf) : (-1 ≤ wb_pa hl sf t ∧ wb_pa hl sf t < 3) ∧ (0 ≤ wb_pa hl sf t → 0 ≤ hl ∧ (t = hl ∨ (t ≠ hl ∧ t = sf)) ∧ wb_pa hl sf t ≠ t ∧ (wb_pa hl sf t = hl ↔ t ≠ hl)) := by
  have hr := h.rg hR
  unfold wb_pa
  by_cases h0 : hl < 0
  · rw [if_pos h0]; omega
  · rw [if_neg h0]
    have h2 := hr.2 (by omega)
    split
    · omega
    · split <;> omega
section WBS42
variable {G : wb_G} {N : Nat} {w : wb_W} {Q : Option Value → Nat → wb_W → Prop}
variable {n : Int} {c s : Int → Int} {sd sf bo tu : Int} {g : Int → Int64} {K : Int → Bool} {hl wt ct mt : Int} {pa bt mo th be bh : Int}
theorem wb_Ce.ch {t : Int} (h : wb_Ce w hl n c s sd sf t True True) : ∃ nd ah on : Int → Int, wb_Co w (wb_cp hl t) (wb_cr hl t) nd ah on t (wb_gu hl sf t) (wb_cr hl t) ∧ (∀ k m : Int, 0 ≤ k → k < wb_cr hl t → 0 ≤ m → m < n → nd (k * 8 + m) = wb_kn c sd sf t k m) ∧ (∀ k m : Int, 0 ≤ k → k < wb_cr hl t → 0 ≤ m → m ≤ n → ah (k * 9 + m) = wb_AH c s sd sf t k m) ∧ (∀ k m : Int, 0 ≤ k → k < wb_cr hl t → 1 ≤ m → m ≤ n → on (k * 9 + m) = wb_ON n c s sd sf t k m) := by
  obtain ⟨⟨nd, ah, on, h1, h2, h3⟩, _⟩ := h
  exact ⟨nd, ah, on, h1, h2, (h3 trivial).1, (h3 trivial).2⟩
theorem sp_X1_partnerOf {t : Int} (hbr : wb_Br w pa bt mo th be bh) (hwo : wb_Wo w hl wt ct mt) (hR : wb_BR n c s sd sf) (hHL : wb_HL hl n c sd sf) (hce : ∀ t, 0 ≤ t → t < 3 → wb_Ce w hl n c s sd sf t True True) (ht : 0 ≤ t ∧ t < 3) (hQ : Q (some (.int (wb_i (wb_pa hl sf t)))) N w) : wb_M G M_X1_partnerOf [.ref 82, .int (wb_i t)] N w Q := by
  unfold wb_M
  have hr := hHL.rg hR
  have hbr' := hbr
  unfold wb_Br at hbr'
  have hk : 0 ≤ hl → ∃ (fs : List Value), w (wb_cp hl hl) = .inr (2, fs) ∧ fs[8]? = some (.int (wb_i sf)) := fun q => by
    obtain ⟨⟨nd, ah, on, ⟨f0, f1, k0, -⟩, -⟩, -⟩ := hce hl q (by omega)
    refine ⟨_, k0, ?_⟩
    rw [show wb_gu hl sf hl = sf by unfold wb_gu; rw [if_pos rfl]]; rfl
  have hsf := hR.2.2.2.2.1
  refine vi_aload_n 0 rfl rfl ?_
  refine vi_get 1 rfl f_X1_29 hbr' rfl rfl ?_
  refine vi_get 2 rfl f_X1_81 hwo.1 rfl rfl ?_
  refine vi_if_ge 3 rfl (by omega) (fun c_7 => ?_) (fun c_7 => ?_)
  · have h2 := hr.2 (by omega)
    obtain ⟨fs, k0, k8⟩ := hk (by omega)
    refine vi_aload_n 6 rfl rfl ?_
    refine vi_get 7 rfl f_X1_29 hbr' rfl rfl ?_
    refine vi_aload_n 8 rfl rfl ?_
    refine vi_get 9 rfl f_X1_29 hbr' rfl rfl ?_
    refine vi_get 10 rfl f_X1_81 hwo.1 rfl rfl ?_
    refine vi_V1 11 ok_X10_course rfl c_X1_84 hwo.1 rfl rfl ?_
    refine sp_X10_course ‹_› (by omega) (by omega) ?_
    refine vi_get 12 rfl f_X1_88 k0 rfl k8 ?_
    refine vi_istore_n 13 rfl rfl ?_
    refine vi_iload_n 14 rfl rfl ?_
    refine vi_aload_n 15 rfl rfl ?_
    refine vi_get 16 rfl f_X1_29 hbr' rfl rfl ?_
    refine vi_get 17 rfl f_X1_81 hwo.1 rfl rfl ?_
    refine vi_icmp_ne 18 rfl (by omega) (by omega) (fun c_38 => ?_) (fun c_38 => ?_)
    · refine vi_iload_n 21 rfl rfl ?_
      refine vi_iload_n 22 rfl rfl ?_
      refine vi_icmp_ne 23 rfl (by omega) (by omega) (fun c_47 => ?_) (fun c_47 => ?_)
      · refine vi_iconst 28 rfl ?_
        exact vi_ireturn 29 rfl rfl rfl (Nat.zero_le _) (Nat.zero_le _) (wb_e (by unfold wb_pa; first | (rw [if_pos (by omega)]; done) | (rw [if_neg (by omega), if_pos (by omega)]; done) | (rw [if_neg (by omega), if_neg (by omega), if_pos (by omega)]; done) | (rw [if_neg (by omega), if_neg (by omega), if_neg (by omega)]; done)) hQ)
      · refine vi_aload_n 24 rfl rfl ?_
        refine vi_get 25 rfl f_X1_29 hbr' rfl rfl ?_
        refine vi_get 26 rfl f_X1_81 hwo.1 rfl rfl ?_
        refine vi_goto 27 rfl ?_
        exact vi_ireturn 29 rfl rfl rfl (Nat.zero_le _) (Nat.zero_le _) (wb_e (by unfold wb_pa; first | (rw [if_pos (by omega)]; done) | (rw [if_neg (by omega), if_pos (by omega)]; done) | (rw [if_neg (by omega), if_neg (by omega), if_pos (by omega)]; done) | (rw [if_neg (by omega), if_neg (by omega), if_neg (by omega)]; done)) hQ)
    · refine vi_iload_n 19 rfl rfl ?_
      refine vi_goto 20 rfl ?_
      exact vi_ireturn 29 rfl rfl rfl (Nat.zero_le _) (Nat.zero_le _) (wb_e (by unfold wb_pa; first | (rw [if_pos (by omega)]; done) | (rw [if_neg (by omega), if_pos (by omega)]; done) | (rw [if_neg (by omega), if_neg (by omega), if_pos (by omega)]; done) | (rw [if_neg (by omega), if_neg (by omega), if_neg (by omega)]; done)) hQ)
  · refine vi_iconst 4 rfl ?_
    exact vi_ireturn 5 rfl rfl rfl (Nat.zero_le _) (Nat.zero_le _) (wb_e (by unfold wb_pa; first | (rw [if_pos (by omega)]; done) | (rw [if_neg (by omega), if_pos (by omega)]; done) | (rw [if_neg (by omega), if_neg (by omega), if_pos (by omega)]; done) | (rw [if_neg (by omega), if_neg (by omega), if_neg (by omega)]; done)) hQ)
theorem sp_X1_hasStarts {t : Int} {g0 : Int → Int64} (hbr : wb_Br w pa bt mo th be bh) (h83 : wb_Mw w 83 g0) (hwo : wb_Wo w hl wt ct mt) (hbk : wb_Bk w 4 n c s sd sf bo tu g) (hR : wb_BR n c s sd sf) (hK : wb_rp g K) (hHL : wb_HL hl n c sd sf) (hce : ∀ t, 0 ≤ t → t < 3 → wb_Ce w hl n c s sd sf t True True) (ht : 0 ≤ t ∧ t < 3)
    (k1 : ∀ (w' : wb_W) (g' : Int → Int64), wb_Br w' (wb_pa hl sf t) bt mo th be bh → wb_Mw w' 83 g' → wb_rp g' (wb_S0 n c s sd sf K hl t) → (∀ k, k ≠ 82 → k ≠ 84 → w' k = w k) → Q (some (.int (wb_i 1))) N w')
    (k0 : ∀ (w' : wb_W) (g' : Int → Int64), wb_Br w' (wb_pa hl sf t) bt mo th be bh → wb_Mw w' 83 g' → (∀ x, 0 ≤ x → x < 15625 → wb_S0 n c s sd sf K hl t x = false) → (∀ k, k ≠ 82 → k ≠ 84 → w' k = w k) → Q (some (.int (wb_i 0))) N w') : wb_M G M_X1_hasStarts [.ref 82, .int (wb_i t)] N w Q := by
  unfold wb_M
  have hr := hHL.rg hR
  have hpr := wb_pa_rg (t := t) hHL hR
  have hbr' := hbr
  unfold wb_Br at hbr'
  have hp2t := wb_p2_rg (n := t) (by omega)
  have tl : ∀ (z : Int) (w1 : wb_W), (0 ≤ z ∧ z < 8) → (∀ u, 0 ≤ u → u < 3 → wb_bt z u = wb_to hl sf t u) → wb_Br w1 (wb_pa hl sf t) bt mo th be bh → (∀ k, k ≠ 82 → w1 k = w k) → wb_V G M_X1_hasStarts 43 [(0, .ref 82), (1, .int (wb_i t)), (2, .int (wb_i z))] [] N w1 0 0 Q := by
    intro z w1 hz hzb hbr1 ef
    have hbr1' := hbr1
    unfold wb_Br at hbr1'
    have hwo1 : wb_Wo w1 hl wt ct mt := hwo.fr (fun k hk => ef k (by omega))
    have hbk1 : wb_Bk w1 4 n c s sd sf bo tu g := hbk.fr (fun k p1 p2 => ef k (by omega))
    refine vi_aload_n 25 rfl rfl ?_
    refine vi_get 26 rfl f_X1_29 hbr1' rfl rfl ?_
    refine vi_aload_n 27 rfl rfl ?_
    refine vi_get 28 rfl f_X1_12 hbr1' rfl rfl ?_
    refine vi_iload_n 29 rfl rfl ?_
    refine vi_V2 30 ok_X10_sift rfl c_X1_120 hwo1.1 rfl rfl ?_
    refine sp_X10_sift (cv := True) (mv := True) hwo1 hbk1 hR hK hHL (h83.fr (fun k p1 p2 => ef k (by omega))) (by omega) (fun t t1 t2 => have hcr := wb_cp_rg hl (t := t) ⟨t1, t2⟩; (hce t t1 t2).fr (fun k p1 p2 => ef k (by omega))) trivial hz (fun w2 g2 hg2 hm2 hf2 => ?_)
    have hg2' : wb_rp g2 (wb_S0 n c s sd sf K hl t) := hg2.to (fun x p1 p2 => by unfold wb_S0; rw [wb_al_congr 3 (fun u u1 u2 => by rw [hzb u u1 (by omega)])])
    have hnx := wb_nx_cases (wb_S0 n c s sd sf K hl t) 0
    refine vi_aload_n 31 rfl rfl ?_
    refine vi_get 32 rfl f_X1_12 ((hf2 _ (by omega)).trans hbr1') rfl rfl ?_
    refine vi_iconst 33 rfl ?_
    refine vi_V1 34 ok_X5_next rfl c_X1_124 hm2.1 rfl rfl ?_
    refine sp_X5_next hm2 hg2' (by omega) ?_
    refine vi_if_lt 35 rfl (by omega) (fun c_63 => ?_) (fun c_63 => ?_)
    · refine vi_iconst 38 rfl ?_
      exact vi_ireturn 39 rfl rfl rfl (Nat.zero_le _) (Nat.zero_le _) (k0 w2 g2 ((hf2 _ (by omega)).trans hbr1') hm2 (by rcases hnx with ⟨a, _⟩ | ⟨a, b⟩; omega; exact b) (fun k p1 p2 => (hf2 k (by omega)).trans (ef k p1)))
    · refine vi_iconst 36 rfl ?_
      refine vi_goto 37 rfl ?_
      exact vi_ireturn 39 rfl rfl rfl (Nat.zero_le _) (Nat.zero_le _) (k1 w2 g2 ((hf2 _ (by omega)).trans hbr1') hm2 hg2' (fun k p1 p2 => (hf2 k (by omega)).trans (ef k p1)))
  refine vi_aload_n 0 rfl rfl ?_
  refine vi_aload_n 1 rfl rfl ?_
  refine vi_iload_n 2 rfl rfl ?_
  refine vi_V1 3 ok_X1_partnerOf rfl c_X1_116 hbr' rfl rfl ?_
  refine sp_X1_partnerOf hbr hwo hR hHL hce ht ?_
  refine vi_put 4 rfl f_X1_22 hbr' rfl rfl rfl rfl ?_
  refine vi_iconst 5 rfl ?_
  refine vi_iload_n 6 rfl rfl ?_
  refine vi_ishl 7 rfl ?_
  rw [wb_shl1 (by omega)]
  refine vi_istore_n 8 rfl rfl ?_
  refine vi_aload_n 9 rfl rfl ?_
  refine vi_get 10 rfl f_X1_22 wb_ups rfl rfl ?_
  refine vi_if_lt 11 rfl (by omega) (fun c_17 => ?_) (fun c_17 => ?_)
  · first | exact vi_lc (tl (wb_ad1 (wb_p2 t) (wb_pa hl sf t)) _ (wb_ad1_rg (k := 3) (by rcases (show t = 0 ∨ t = 1 ∨ t = 2 by omega) with e | e | e <;> subst e <;> decide) (by omega)) (fun u u1 u2 => by rw [wb_ad1_bt u (by omega) u1, wb_p2_bt ht.1 u1]; unfold wb_to; rw [decide_eq_true (show 0 ≤ wb_pa hl sf t ∧ wb_pa hl sf t = hl by omega), Bool.true_and, c_31]) wb_ups (fun k hk => wb_upn hk)) ⟨rfl, rfl, rfl, trivial⟩ | exact vi_lc (tl (wb_p2 t) _ (by rcases (show t = 0 ∨ t = 1 ∨ t = 2 by omega) with e | e | e <;> subst e <;> decide) (fun u u1 u2 => by rw [wb_p2_bt ht.1 u1]; unfold wb_to; rw [decide_eq_false (show ¬ (0 ≤ wb_pa hl sf t ∧ wb_pa hl sf t = hl) by omega), Bool.false_and, Bool.or_false]) wb_ups (fun k hk => wb_upn hk)) ⟨rfl, rfl, rfl, trivial⟩
  · refine vi_aload_n 12 rfl rfl ?_
    refine vi_get 13 rfl f_X1_22 wb_ups rfl rfl ?_
    refine vi_aload_n 14 rfl rfl ?_
    refine vi_get 15 rfl f_X1_29 wb_ups rfl rfl ?_
    refine vi_get 16 rfl f_X1_81 ((wb_upn (by omega)).trans hwo.1) rfl rfl ?_
    refine vi_icmp_ne 17 rfl (by omega) (by omega) (fun c_31 => ?_) (fun c_31 => ?_)
    · first | exact vi_lc (tl (wb_ad1 (wb_p2 t) (wb_pa hl sf t)) _ (wb_ad1_rg (k := 3) (by rcases (show t = 0 ∨ t = 1 ∨ t = 2 by omega) with e | e | e <;> subst e <;> decide) (by omega)) (fun u u1 u2 => by rw [wb_ad1_bt u (by omega) u1, wb_p2_bt ht.1 u1]; unfold wb_to; rw [decide_eq_true (show 0 ≤ wb_pa hl sf t ∧ wb_pa hl sf t = hl by omega), Bool.true_and, c_31]) wb_ups (fun k hk => wb_upn hk)) ⟨rfl, rfl, rfl, trivial⟩ | exact vi_lc (tl (wb_p2 t) _ (by rcases (show t = 0 ∨ t = 1 ∨ t = 2 by omega) with e | e | e <;> subst e <;> decide) (fun u u1 u2 => by rw [wb_p2_bt ht.1 u1]; unfold wb_to; rw [decide_eq_false (show ¬ (0 ≤ wb_pa hl sf t ∧ wb_pa hl sf t = hl) by omega), Bool.false_and, Bool.or_false]) wb_ups (fun k hk => wb_upn hk)) ⟨rfl, rfl, rfl, trivial⟩
    · refine vi_iload_n 18 rfl rfl ?_
      refine vi_iconst 19 rfl ?_
      refine vi_aload_n 20 rfl rfl ?_
      refine vi_get 21 rfl f_X1_22 wb_ups rfl rfl ?_
      refine vi_ishl 22 rfl ?_
      refine vi_ior 23 rfl ?_
      rw [wb_or1 (by omega) (by omega)]
      refine vi_istore_n 24 rfl rfl ?_
      first | exact vi_lc (tl (wb_ad1 (wb_p2 t) (wb_pa hl sf t)) _ (wb_ad1_rg (k := 3) (by rcases (show t = 0 ∨ t = 1 ∨ t = 2 by omega) with e | e | e <;> subst e <;> decide) (by omega)) (fun u u1 u2 => by rw [wb_ad1_bt u (by omega) u1, wb_p2_bt ht.1 u1]; unfold wb_to; rw [decide_eq_true (show 0 ≤ wb_pa hl sf t ∧ wb_pa hl sf t = hl by omega), Bool.true_and, c_31]) wb_ups (fun k hk => wb_upn hk)) ⟨rfl, rfl, rfl, trivial⟩ | exact vi_lc (tl (wb_p2 t) _ (by rcases (show t = 0 ∨ t = 1 ∨ t = 2 by omega) with e | e | e <;> subst e <;> decide) (fun u u1 u2 => by rw [wb_p2_bt ht.1 u1]; unfold wb_to; rw [decide_eq_false (show ¬ (0 ≤ wb_pa hl sf t ∧ wb_pa hl sf t = hl) by omega), Bool.false_and, Bool.or_false]) wb_ups (fun k hk => wb_upn hk)) ⟨rfl, rfl, rfl, trivial⟩
theorem sp_X1_latersOf {m t p : Int} (hbr : wb_Br w pa bt mo th be bh) (hwo : wb_Wo w hl wt ct mt) (hR : wb_BR n c s sd sf) (hHL : wb_HL hl n c sd sf) (hce : ∀ t, 0 ≤ t → t < 3 → wb_Ce w hl n c s sd sf t True True) (ht : 0 ≤ t ∧ t < 3) (hm : 1 ≤ m ∧ m < n) (hp : 0 ≤ p ∧ p < 25)
    (hQ : ∀ z : Int, (0 ≤ z ∧ z < 33554432) → (∀ j, 0 ≤ j → j < 25 → wb_bt z j = wb_LO n c s sd sf hl t m p j) → Q (some (.int (wb_i z))) N w) : wb_M G M_X1_latersOf [.ref 82, .int (wb_i m), .int (wb_i t), .int (wb_i p)] N w Q := by
  unfold wb_M
  have hn := hR.1
  have hr := hHL.rg hR
  have hgr := wb_gu_rm hHL hR ht
  have hbr' := hbr
  unfold wb_Br at hbr'
  obtain ⟨u1, u2, u3⟩ := wb_unlike hp
  obtain ⟨nd, ah, on, hco, hnd, hah, hon⟩ := (hce t ht.1 ht.2).ch
  have hco' := hco
  obtain ⟨f0, f1, q0, -⟩ := hco'
  refine vi_ldc 0 rfl k_X1_108 ?_
  refine vi_iconst 1 rfl ?_
  refine vi_iload_n 2 rfl rfl ?_
  refine vi_ishl 3 rfl ?_
  refine vi_iconst 4 rfl ?_
  refine vi_ixor 5 rfl ?_
  refine vi_iand 6 rfl ?_
  rw [u1]
  refine vi_istore 7 rfl rfl ?_
  refine vi_aload_n 8 rfl rfl ?_
  refine vi_get 9 rfl f_X1_29 hbr' rfl rfl ?_
  refine vi_iload_n 10 rfl rfl ?_
  refine vi_V1 11 ok_X10_course rfl c_X1_84 hwo.1 rfl rfl ?_
  refine sp_X10_course ‹_› (by omega) (by omega) ?_
  refine vi_astore 12 rfl rfl ?_
  refine vi_iload_n 13 rfl rfl ?_
  refine vi_aload_n 14 rfl rfl ?_
  refine vi_get 15 rfl f_X1_29 hbr' rfl rfl ?_
  refine vi_get 16 rfl f_X1_81 hwo.1 rfl rfl ?_
  refine vi_icmp_ne 17 rfl (by omega) (by omega) (fun c_28 => ?_) (fun c_28 => ?_)
  · refine vi_aload 20 rfl rfl ?_
    refine vi_aload 21 rfl rfl ?_
    refine vi_iload_n 22 rfl rfl ?_
    refine vi_iload_n 23 rfl rfl ?_
    refine vi_V2 24 ok_X2_aheadOf rfl c_X1_109 q0 rfl rfl ?_
    refine sp_X2_aheadOf hco (by omega) (by omega) (by omega) (by omega) ?_
    rw [hah p m hp.1 (by omega) (by omega) (by omega)]
    refine vi_iload_n 25 rfl rfl ?_
    refine vi_iconst 26 rfl ?_
    refine vi_iconst 27 rfl ?_
    refine vi_iload 28 rfl rfl ?_
    refine vi_V5 29 ok_X2_onwardPairs rfl c_X1_113 q0 rfl rfl ?_
    refine sp_X2_onwardPairs hco (by omega) (by omega) (wb_AH_rg hR) (by omega) (by omega) (Or.inl rfl) (by omega) u2 (fun j j1 j2 => by rw [hon _ m (by omega) (by omega) hm.1 (by omega)]; exact wb_ON_rg hR) (fun z hz hzb => ?_)
    exact vi_ireturn 30 rfl rfl rfl (Nat.zero_le _) (Nat.zero_le _) ((by first | exact hQ z hz (fun j j1 j2 => by rw [hzb j j1 j2, u3 j j1 j2, hon _ m (by omega) (by omega) hm.1 (by omega), show (0 : Int) + 1 * j = j by omega]; unfold wb_LO; rw [decide_eq_false c_28, Bool.false_or]) | exact hQ _ u2 (fun j j1 j2 => by rw [u3 j j1 j2]; unfold wb_LO; rw [decide_eq_true (show t = hl by omega), Bool.true_or, Bool.and_true])))
  · refine vi_iload 18 rfl rfl ?_
    refine vi_goto 19 rfl ?_
    exact vi_ireturn 30 rfl rfl rfl (Nat.zero_le _) (Nat.zero_le _) ((by first | exact hQ z hz (fun j j1 j2 => by rw [hzb j j1 j2, u3 j j1 j2, hon _ m (by omega) (by omega) hm.1 (by omega), show (0 : Int) + 1 * j = j by omega]; unfold wb_LO; rw [decide_eq_false c_28, Bool.false_or]) | exact hQ _ u2 (fun j j1 j2 => by rw [u3 j j1 j2]; unfold wb_LO; rw [decide_eq_true (show t = hl by omega), Bool.true_or, Bool.and_true])))
theorem sp_X1_latersWith {m t p o am : Int} (hbr : wb_Br w (wb_pa hl sf t) bt mo th be bh) (hwo : wb_Wo w hl wt ct mt) (hR : wb_BR n c s sd sf) (hHL : wb_HL hl n c sd sf) (hce : ∀ t, 0 ≤ t → t < 3 → wb_Ce w hl n c s sd sf t True True) (ht : 0 ≤ t ∧ t < 3) (hm : 1 ≤ m ∧ m < n) (hp : 0 ≤ p ∧ p < 25) (ho : 0 ≤ o ∧ o < 25) (ham : 0 ≤ am ∧ am < 33554432)
    (hQ : ∀ z : Int, (0 ≤ z ∧ z < 33554432) → (∀ j, 0 ≤ j → j < 25 → wb_bt z j = (wb_bt am j && (decide (wb_pa hl sf t < 0) || wb_LW n c s sd sf hl t m p o j))) → Q (some (.int (wb_i z))) N w) : wb_M G M_X1_latersWith [.ref 82, .int (wb_i m), .int (wb_i t), .int (wb_i p), .int (wb_i o), .int (wb_i am)] N w Q := by
  unfold wb_M
  have hn := hR.1
  have hr := hHL.rg hR
  have hpr := wb_pa_rg (t := t) hHL hR
  have hbr' := hbr
  unfold wb_Br at hbr'
  have hq : 0 ≤ hl → wb_cr hl hl = 625 := fun _ => by unfold wb_cr; rw [if_pos rfl]
  have hch := fun q : 0 ≤ hl => (hce hl q (by omega)).ch
  refine vi_aload_n 0 rfl rfl ?_
  refine vi_get 1 rfl f_X1_22 hbr' rfl rfl ?_
  refine vi_if_ge 2 rfl (by omega) (fun c_4 => ?_) (fun c_4 => ?_)
  · have hp2 := hpr.2 (by omega)
    have hcr := hq (by omega)
    obtain ⟨nd, ah, on, hco, hnd, hah, hon⟩ := hch (by omega)
    have hco' := hco
    obtain ⟨f0, f1, q0, -⟩ := hco'
    rw [hcr] at hah hon hco
    refine vi_aload_n 5 rfl rfl ?_
    refine vi_get 6 rfl f_X1_29 hbr' rfl rfl ?_
    refine vi_aload_n 7 rfl rfl ?_
    refine vi_get 8 rfl f_X1_29 hbr' rfl rfl ?_
    refine vi_get 9 rfl f_X1_81 hwo.1 rfl rfl ?_
    refine vi_V1 10 ok_X10_course rfl c_X1_84 hwo.1 rfl rfl ?_
    refine sp_X10_course ‹_› (by omega) (by omega) ?_
    refine vi_astore 11 rfl rfl ?_
    refine vi_iload_n 12 rfl rfl ?_
    refine vi_aload_n 13 rfl rfl ?_
    refine vi_get 14 rfl f_X1_29 hbr' rfl rfl ?_
    refine vi_get 15 rfl f_X1_81 hwo.1 rfl rfl ?_
    refine vi_icmp_ne 16 rfl (by omega) (by omega) (fun c_34 => ?_) (fun c_34 => ?_)
    · refine vi_aload 34 rfl rfl ?_
      refine vi_aload 35 rfl rfl ?_
      refine vi_iload 36 rfl rfl ?_
      refine vi_bipush 37 rfl (by decide) ?_
      refine vi_iload_n 38 rfl rfl ?_
      refine vi_imul 39 rfl ?_
      refine vi_iadd 40 rfl ?_
      refine vi_iload_n 41 rfl rfl ?_
      refine vi_V2 42 ok_X2_aheadOf rfl c_X1_109 q0 rfl rfl ?_
      refine sp_X2_aheadOf hco (by omega) (by omega) (by omega) (by omega) ?_
      rw [hah _ m (by omega) (by omega) (by omega) (by omega)]
      refine vi_iload_n 43 rfl rfl ?_
      refine vi_iload 44 rfl rfl ?_
      refine vi_bipush 45 rfl (by decide) ?_
      refine vi_iload 46 rfl rfl ?_
      refine vi_V5 47 ok_X2_onwardPairs rfl c_X1_113 q0 rfl rfl ?_
      refine sp_X2_onwardPairs hco (by omega) (by omega) (wb_AH_rg hR) (by omega) (by omega) (Or.inr rfl) (by omega) ham (fun j j1 j2 => by rw [hon _ m (by omega) (by omega) hm.1 (by omega)]; exact wb_ON_rg hR) (fun z hz hzb => ?_)
      exact vi_ireturn 48 rfl rfl rfl (Nat.zero_le _) (Nat.zero_le _) (hQ z hz (fun j j1 j2 => by rw [hzb j j1 j2, hon _ m (by omega) (by omega) hm.1 (by omega), decide_eq_false (show ¬ wb_pa hl sf t < 0 by omega), Bool.false_or]; unfold wb_LW; rw [if_neg (by omega)]))
    · refine vi_aload 17 rfl rfl ?_
      refine vi_aload 18 rfl rfl ?_
      refine vi_iload_n 19 rfl rfl ?_
      refine vi_bipush 20 rfl (by decide) ?_
      refine vi_iload 21 rfl rfl ?_
      refine vi_imul 22 rfl ?_
      refine vi_iadd 23 rfl ?_
      refine vi_iload_n 24 rfl rfl ?_
      refine vi_V2 25 ok_X2_aheadOf rfl c_X1_109 q0 rfl rfl ?_
      refine sp_X2_aheadOf hco (by omega) (by omega) (by omega) (by omega) ?_
      rw [hah _ m (by omega) (by omega) (by omega) (by omega)]
      refine vi_iload_n 26 rfl rfl ?_
      refine vi_bipush 27 rfl (by decide) ?_
      refine vi_iload 28 rfl rfl ?_
      refine vi_imul 29 rfl ?_
      refine vi_iconst 30 rfl ?_
      refine vi_iload 31 rfl rfl ?_
      refine vi_V5 32 ok_X2_onwardPairs rfl c_X1_113 q0 rfl rfl ?_
      refine sp_X2_onwardPairs hco (by omega) (by omega) (wb_AH_rg hR) (by omega) (by omega) (Or.inl rfl) (by omega) ham (fun j j1 j2 => by rw [hon _ m (by omega) (by omega) hm.1 (by omega)]; exact wb_ON_rg hR) (fun z hz hzb => ?_)
      exact vi_ireturn 33 rfl rfl rfl (Nat.zero_le _) (Nat.zero_le _) (hQ z hz (fun j j1 j2 => by rw [hzb j j1 j2, hon _ m (by omega) (by omega) hm.1 (by omega), decide_eq_false (show ¬ wb_pa hl sf t < 0 by omega), Bool.false_or]; unfold wb_LW; rw [if_pos (by omega), show 25 * o + 1 * j = 25 * o + j by omega]))
  · refine vi_iload 3 rfl rfl ?_
    exact vi_ireturn 4 rfl rfl rfl (Nat.zero_le _) (Nat.zero_le _) (hQ am ham (fun j j1 j2 => by rw [decide_eq_true (show wb_pa hl sf t < 0 by omega), Bool.true_or, Bool.and_true]))
end WBS42
