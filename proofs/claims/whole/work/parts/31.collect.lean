/-! ===== what keeps a text: one fold over its signs ===== -/
theorem wb_rp_all {g : Int → Int64} (h : ∀ p, 0 ≤ p → p < 125 → g (2 * p) = -1 ∧ g (2 * p + 1) = wb_HA) : wb_rp g (fun _ => true) := by
  intro k b h1 h2 h3 h4
  have hp := h (k / 2) (by omega) (by omega)
  rcases (show k % 2 = 0 ∨ k % 2 = 1 by omega) with e | e
  · rw [show k = 2 * (k / 2) by omega, hp.1, wb_tb_m1 ⟨h3, h4⟩]
    simp; omega
  · rw [show k = 2 * (k / 2) + 1 by omega, hp.2, wb_tb_HA ⟨h3, h4⟩]
    rw [show (2 * (k / 2) + 1) % 2 = 1 by omega]
    simp; omega
theorem wb_rp_emp {g : Int → Int64} (h : ∀ p, 0 ≤ p → p < 250 → g p = 0) : wb_rp g (fun _ => false) := by
  intro k b h1 h2 h3 h4
  rw [h k h1 h2, wb_tb_0]; simp
theorem wb_rp_or {g g1 g2 : Int → Int64} {S T : Int → Bool} (h1 : wb_rp g1 S) (h2 : wb_rp g2 T) (h : ∀ p, 0 ≤ p → p < 250 → g p = g1 p ||| g2 p) : wb_rp g (fun x => S x || T x) := by
  intro k b k1 k2 k3 k4
  rw [h k k1 k2, wb_tb_or, h1 k b k1 k2 k3 k4, h2 k b k1 k2 k3 k4, ← Bool.and_or_distrib_left]
theorem wb_rp_eq {g g1 : Int → Int64} {S : Int → Bool} (h1 : wb_rp g1 S) (h : ∀ p, 0 ≤ p → p < 250 → g p = g1 p) : wb_rp g S := by
  intro k b k1 k2 k3 k4
  rw [h k k1 k2, h1 k b k1 k2 k3 k4]
/-- ware, sum, relation, number, all tests of the both, some both -/
abbrev wb_F : Type := Int × Int × Int × Int × Bool × Bool
def wb_fst (x : Int) (f : wb_F) (s : Int) : wb_F :=
  if wb_lnk s then ⟨f.1, 0, f.2.2.1, 0, if s = 124 then true else f.2.2.2.2.1 && wb_ts f.2.2.1 f.2.2.2.1 f.2.1, if s = 124 then f.2.2.2.2.2 || (f.2.2.2.2.1 && wb_ts f.2.2.1 f.2.2.2.1 f.2.1) else f.2.2.2.2.2⟩
  else if s = 112 ∨ s = 113 then ⟨s, f.2.1, f.2.2.1, f.2.2.2.1, f.2.2.2.2.1, f.2.2.2.2.2⟩
  else if wb_dig s then ⟨f.1, f.2.1, f.2.2.1, f.2.2.2.1 * 10 + s - 48, f.2.2.2.2.1, f.2.2.2.2.2⟩
  else if wb_rel s then ⟨f.1, f.2.1, s, f.2.2.2.1, f.2.2.2.2.1, f.2.2.2.2.2⟩
  else if 97 ≤ s ∧ s ≤ 99 then ⟨f.1, f.2.1 + (if f.1 = 112 then wb_am (x / 125) (s - 97) else wb_am (x % 125) (s - 97)), f.2.2.1, f.2.2.2.1, f.2.2.2.2.1, f.2.2.2.2.2⟩
  else f
def wb_fo (sg : Int → Int) (x : Int) : Nat → wb_F
  | 0 => ⟨0, 0, 0, 0, true, false⟩
  | k + 1 => wb_fst x (wb_fo sg x k) (sg k)
def wb_st (sg : Int → Int) : Nat → Int
  | 0 => 0
  | k + 1 => wb_nst (wb_st sg k) (sg k)
def wb_fe (f : wb_F) : Bool := f.2.2.2.2.2 || (f.2.2.2.2.1 && wb_ts f.2.2.1 f.2.2.2.1 f.2.1)
/-- does the mixture keep the text -/
def wb_kp (sg : Int → Int) (cnt : Int) (x : Int) : Bool := wb_fe (wb_fo sg x cnt.toNat)
theorem wb_st_ok {sg : Int → Int} {cnt : Int} : ∀ (k i : Nat), (i + k : Nat) = cnt.toNat → 0 ≤ cnt → wb_ff sg cnt k i (wb_st sg i) = -6 → (∀ j : Nat, i < j → (j : Int) ≤ cnt → 0 ≤ wb_st sg j) ∧ (wb_st sg cnt.toNat = 4 ∨ wb_st sg cnt.toNat = 5)
  | 0, i, h1, h2, h3 => by
    rw [wb_ff] at h3
    refine ⟨fun j p1 p2 => by omega, ?_⟩
    rw [← h1]
    by_cases hc : wb_st sg i = 4 ∨ wb_st sg i = 5
    · exact hc
    · rw [if_neg hc] at h3; omega
  | k + 1, i, h1, h2, h3 => by
    rw [wb_ff] at h3
    by_cases hc : wb_nst (wb_st sg i) (sg i) < 0
    · rw [if_pos hc] at h3; omega
    · rw [if_neg hc] at h3
      have := wb_st_ok k (i + 1) (by omega) h2 (by rw [show ((i + 1 : Nat) : Int) = (i : Int) + 1 by omega]; exact h3)
      refine ⟨fun j p1 p2 => ?_, this.2⟩
      by_cases hj : j = i + 1
      · subst hj; show 0 ≤ wb_nst _ _; omega
      · exact this.1 j (by omega) p2
theorem wb_fa_ok {sg : Int → Int} {cnt : Int} (h0 : 0 ≤ cnt) (h : wb_fa sg cnt = -6) : (∀ j : Nat, (j : Int) ≤ cnt → 0 ≤ wb_st sg j) ∧ (wb_st sg cnt.toNat = 4 ∨ wb_st sg cnt.toNat = 5) := by
  have := wb_st_ok (sg := sg) cnt.toNat 0 (by omega) h0 (by unfold wb_fa at h; exact h)
  refine ⟨fun j hj => ?_, this.2⟩
  by_cases h0 : j = 0
  · subst h0; exact Int.le_refl _
  · exact this.1 j (by omega) hj
/-- class and fold at one place of the text -/
def wb_CI (st i : Int) (F : Int → wb_F) (tp tq : Int → Int) (wa re nu : Int) (S A : Int → Bool) : Prop :=
  (∀ x, 0 ≤ x → x < 15625 → (st = 1 → (F x).1 = wa) ∧ (3 ≤ st → (F x).2.2.1 = re) ∧ (F x).2.2.2.1 = nu ∧ (F x).2.1 = wb_su3 tp (x / 125) + wb_su3 tq (x % 125) ∧ (F x).2.2.2.2.1 = A x ∧ (F x).2.2.2.2.2 = S x) ∧
  (0 ≤ st ∧ st ≤ 5) ∧ (st = 1 → wa = 112 ∨ wa = 113) ∧ (3 ≤ st → wb_rel re) ∧ (-1 ≤ wa ∧ wa ≤ 1000) ∧ (0 ≤ nu ∧ nu ≤ 99 ∧ (st < 4 → nu = 0) ∧ (st = 4 → nu ≤ 9)) ∧
  (0 ≤ tp 0 ∧ 0 ≤ tp 1 ∧ 0 ≤ tp 2 ∧ 0 ≤ tq 0 ∧ 0 ≤ tq 1 ∧ 0 ≤ tq 2) ∧
  3 * (tp 0 + tp 1 + tp 2 + tq 0 + tq 1 + tq 2) ≤ i + (if st = 2 then 1 else if st = 1 ∨ 4 ≤ st then -1 else 0)
theorem wb_su3_u {f : Int → Int} {j d p : Int} (hj : 0 ≤ j ∧ j ≤ 2) (hp : 0 ≤ p ∧ p < 125) : wb_su3 (wb_u f j (f j + d)) p = wb_su3 f p + d * wb_am p j := by
  have e : p / 25 % 5 = p / 25 := by omega
  rcases (show j = 0 ∨ j = 1 ∨ j = 2 by omega) with rfl | rfl | rfl
  · simp only [wb_su3, wb_u, wb_am]; simp [e, Int.add_mul]; omega
  · simp only [wb_su3, wb_u, wb_am]; simp [Int.add_mul]; omega
  · simp only [wb_su3, wb_u, wb_am]; simp [Int.add_mul]; omega
theorem wb_u_s {f : Int → Int} {j d : Int} (hj : 0 ≤ j ∧ j ≤ 2) (hd : 0 ≤ d) (hf : 0 ≤ f 0 ∧ 0 ≤ f 1 ∧ 0 ≤ f 2) : (0 ≤ wb_u f j (f j + d) 0 ∧ 0 ≤ wb_u f j (f j + d) 1 ∧ 0 ≤ wb_u f j (f j + d) 2) ∧ wb_u f j (f j + d) 0 + wb_u f j (f j + d) 1 + wb_u f j (f j + d) 2 = f 0 + f 1 + f 2 + d := by
  rcases (show j = 0 ∨ j = 1 ∨ j = 2 by omega) with rfl | rfl | rfl
  · simp [wb_u]; omega
  · simp [wb_u]; omega
  · simp [wb_u]; omega
theorem wb_CI_on {st i : Int} {F : Int → wb_F} {tp tq : Int → Int} {wa re nu : Int} {S A : Int → Bool} {s : Int} (h : wb_CI st i F tp tq wa re nu S A) (hn : 0 ≤ wb_nst st s) (hl : ¬ wb_lnk s) : wb_CI (wb_nst st s) (i + 1) (fun x => wb_fst x (F x) s) (if 97 ≤ s ∧ s ≤ 99 then wb_u tp (s - 97) (tp (s - 97) + (if wa = 112 then 1 else 0)) else tp) (if 97 ≤ s ∧ s ≤ 99 then wb_u tq (s - 97) (tq (s - 97) + (if wa = 113 then 1 else 0)) else tq) (if s = 112 ∨ s = 113 then s else wa) (if wb_rel s then s else re) (if wb_dig s then nu * 10 + s - 48 else nu) S A := by
  obtain ⟨hx, hst, h1, h3, hwa, hnu, hpos, hT⟩ := h
  rcases (show st = 0 ∨ st = 1 ∨ st = 2 ∨ st = 3 ∨ st = 4 ∨ st = 5 by omega) with rfl | rfl | rfl | rfl | rfl | rfl
  · have hs : s = 112 ∨ s = 113 := by
      refine Classical.byContradiction fun hc => ?_
      rw [show wb_nst 0 s = -1 by simp [wb_nst, hc]] at hn; omega
    have n1 : ¬ (97 ≤ s ∧ s ≤ 99) := by omega
    have n2 : ¬ wb_rel s := by omega
    have n3 : ¬ wb_dig s := by omega
    rw [show wb_nst 0 s = 1 by simp [wb_nst, hs], if_neg n1, if_neg n1, if_pos hs, if_neg n2, if_neg n3]
    refine ⟨fun x p1 p2 => ?_, by omega, fun _ => hs, fun q => by omega, by omega, ⟨by omega, by omega, fun _ => by omega, fun _ => by omega⟩, hpos, by simp at hT ⊢; omega⟩
    obtain ⟨a1, a2, a3, a4, a5, a6⟩ := hx x p1 p2
    have ef : wb_fst x (F x) s = (s, (F x).2.1, (F x).2.2.1, (F x).2.2.2.1, (F x).2.2.2.2.1, (F x).2.2.2.2.2) := by simp only [wb_fst, if_neg hl, if_pos hs]
    dsimp only
    rw [ef]
    exact ⟨fun _ => rfl, fun q => by omega, a3, a4, a5, a6⟩
  · have hs : 97 ≤ s ∧ s ≤ 99 := by
      refine Classical.byContradiction fun hc => ?_
      rw [show wb_nst 1 s = -1 by simp [wb_nst, hc]] at hn; omega
    have n1 : ¬ (s = 112 ∨ s = 113) := by omega
    have n2 : ¬ wb_rel s := by omega
    have n3 : ¬ wb_dig s := by omega
    have hw := h1 rfl
    have d1 : ∀ u : Int, 0 ≤ (if wa = u then (1 : Int) else 0) := fun u => by split <;> omega
    have dd : (if wa = 112 then (1 : Int) else 0) + (if wa = 113 then (1 : Int) else 0) = 1 := by rcases hw with rfl | rfl <;> rfl
    have u1 := wb_u_s (f := tp) (j := s - 97) (d := if wa = 112 then (1 : Int) else 0) (by omega) (d1 _) ⟨hpos.1, hpos.2.1, hpos.2.2.1⟩
    have u2 := wb_u_s (f := tq) (j := s - 97) (d := if wa = 113 then (1 : Int) else 0) (by omega) (d1 _) ⟨hpos.2.2.2.1, hpos.2.2.2.2.1, hpos.2.2.2.2.2⟩
    simp only [if_pos hs, if_neg n1, if_neg n2, if_neg n3]
    rw [show wb_nst 1 s = 2 by simp [wb_nst, hs]]
    refine ⟨fun x p1 p2 => ?_, by omega, fun q => by omega, fun q => by omega, by omega, ⟨by omega, by omega, fun _ => by omega, fun _ => by omega⟩, ?_, ?_⟩
    · obtain ⟨a1, a2, a3, a4, a5, a6⟩ := hx x p1 p2
      have ef : wb_fst x (F x) s = ((F x).1, (F x).2.1 + (if (F x).1 = 112 then wb_am (x / 125) (s - 97) else wb_am (x % 125) (s - 97)), (F x).2.2.1, (F x).2.2.2.1, (F x).2.2.2.2.1, (F x).2.2.2.2.2) := by simp only [wb_fst, if_neg hl, if_neg n1, if_neg n2, if_neg n3, if_pos hs]
      dsimp only
      rw [ef]
      refine ⟨fun q => by omega, fun q => by omega, a3, ?_, a5, a6⟩
      show (F x).2.1 + _ = _
      rw [wb_su3_u (by omega) (by omega), wb_su3_u (by omega) (by omega), a1 rfl, a4]
      rcases hw with rfl | rfl
      · rw [if_pos rfl, if_pos rfl, if_neg (by decide)]; omega
      · rw [if_neg (by decide), if_neg (by decide), if_pos rfl]; omega
    · exact ⟨u1.1.1, u1.1.2.1, u1.1.2.2, u2.1.1, u2.1.2.1, u2.1.2.2⟩
    · simp at hT ⊢; omega
  · have hs : s = 43 ∨ wb_rel s := by
      refine Classical.byContradiction fun hc => ?_
      rw [show wb_nst 2 s = -1 by simp [wb_nst]; omega] at hn; omega
    have n1 : ¬ (97 ≤ s ∧ s ≤ 99) := by omega
    have n2 : ¬ (s = 112 ∨ s = 113) := by omega
    have n3 : ¬ wb_dig s := by omega
    rw [if_neg n1, if_neg n1, if_neg n2, if_neg n3]
    by_cases h43 : s = 43
    · subst h43
      have n4 : ¬ wb_rel 43 := by omega
      rw [show wb_nst 2 43 = 0 by simp [wb_nst], if_neg n4]
      refine ⟨fun x p1 p2 => ?_, by omega, fun q => by omega, fun q => by omega, by omega, ⟨by omega, by omega, fun _ => by omega, fun _ => by omega⟩, hpos, by simp at hT ⊢; omega⟩
      obtain ⟨a1, a2, a3, a4, a5, a6⟩ := hx x p1 p2
      dsimp only
      rw [show wb_fst x (F x) 43 = F x by simp only [wb_fst, if_neg hl, if_neg n1, if_neg n2, if_neg n3, if_neg n4]]
      exact ⟨fun q => by omega, fun q => by omega, a3, a4, a5, a6⟩
    · have hr : wb_rel s := by omega
      rw [show wb_nst 2 s = 3 by simp [wb_nst, h43]; omega, if_pos hr]
      refine ⟨fun x p1 p2 => ?_, by omega, fun q => by omega, fun q => hr, by omega, ⟨by omega, by omega, fun _ => by omega, fun _ => by omega⟩, hpos, by simp at hT ⊢; omega⟩
      obtain ⟨a1, a2, a3, a4, a5, a6⟩ := hx x p1 p2
      have ef : wb_fst x (F x) s = ((F x).1, (F x).2.1, s, (F x).2.2.2.1, (F x).2.2.2.2.1, (F x).2.2.2.2.2) := by simp only [wb_fst, if_neg hl, if_neg n2, if_neg n3, if_pos hr]
      dsimp only
      rw [ef]
      exact ⟨fun q => by omega, fun q => rfl, a3, a4, a5, a6⟩
  · have hs : wb_dig s := by
      refine Classical.byContradiction fun hc => ?_
      rw [show wb_nst 3 s = -1 by simp [wb_nst]; omega] at hn; omega
    have n1 : ¬ (97 ≤ s ∧ s ≤ 99) := by omega
    have n2 : ¬ (s = 112 ∨ s = 113) := by omega
    have n3 : ¬ wb_rel s := by omega
    rw [show wb_nst 3 s = 4 by simp [wb_nst]; omega, if_neg n1, if_neg n1, if_neg n2, if_neg n3, if_pos hs]
    refine ⟨fun x p1 p2 => ?_, by omega, fun q => by omega, fun q => h3 (by omega), by omega, ⟨by omega, by omega, fun _ => by omega, fun _ => by omega⟩, hpos, by simp at hT ⊢; omega⟩
    obtain ⟨a1, a2, a3, a4, a5, a6⟩ := hx x p1 p2
    have ef : wb_fst x (F x) s = ((F x).1, (F x).2.1, (F x).2.2.1, (F x).2.2.2.1 * 10 + s - 48, (F x).2.2.2.2.1, (F x).2.2.2.2.2) := by simp only [wb_fst, if_neg hl, if_neg n2, if_pos hs]
    dsimp only
    rw [ef]
    exact ⟨fun q => by omega, fun q => a2 (by omega), by rw [a3], a4, a5, a6⟩
  · have hs : wb_dig s := by
      refine Classical.byContradiction fun hc => ?_
      rw [show wb_nst 4 s = -1 by simp [wb_nst]; omega] at hn; omega
    have n1 : ¬ (97 ≤ s ∧ s ≤ 99) := by omega
    have n2 : ¬ (s = 112 ∨ s = 113) := by omega
    have n3 : ¬ wb_rel s := by omega
    rw [show wb_nst 4 s = 5 by simp [wb_nst]; omega, if_neg n1, if_neg n1, if_neg n2, if_neg n3, if_pos hs]
    refine ⟨fun x p1 p2 => ?_, by omega, fun q => by omega, fun q => h3 (by omega), by omega, ⟨by omega, by omega, fun _ => by omega, fun _ => by omega⟩, hpos, by simp at hT ⊢; omega⟩
    obtain ⟨a1, a2, a3, a4, a5, a6⟩ := hx x p1 p2
    have ef : wb_fst x (F x) s = ((F x).1, (F x).2.1, (F x).2.2.1, (F x).2.2.2.1 * 10 + s - 48, (F x).2.2.2.2.1, (F x).2.2.2.2.2) := by simp only [wb_fst, if_neg hl, if_neg n2, if_pos hs]
    dsimp only
    rw [ef]
    exact ⟨fun q => by omega, fun q => a2 (by omega), by rw [a3], a4, a5, a6⟩
  · rw [show wb_nst 5 s = -1 by simp [wb_nst]; omega] at hn; omega
theorem wb_CI_lk {st i : Int} {F : Int → wb_F} {tp tq tp' tq' : Int → Int} {wa re nu : Int} {S A : Int → Bool} {s : Int} (h : wb_CI st i F tp tq wa re nu S A) (hi : 0 ≤ i) (h4 : 4 ≤ st) (hl : wb_lnk s) (hz : ∀ i, 0 ≤ i → i < 3 → tp' i = 0 ∧ tq' i = 0) : wb_CI (wb_nst st s) (i + 1) (fun x => wb_fst x (F x) s) tp' tq' wa re 0 (fun x => if s = 124 then S x || (A x && wb_ts re nu (wb_su3 tp (x / 125) + wb_su3 tq (x % 125))) else S x) (fun x => if s = 124 then true else A x && wb_ts re nu (wb_su3 tp (x / 125) + wb_su3 tq (x % 125))) := by
  obtain ⟨hx, hst, h1, h3, hwa, hnu, hpos, hT⟩ := h
  have z0 := hz 0 (by omega) (by omega)
  have z1 := hz 1 (by omega) (by omega)
  have z2 := hz 2 (by omega) (by omega)
  rw [show wb_nst st s = 0 by rcases (show st = 4 ∨ st = 5 by omega) with rfl | rfl <;> simp [wb_nst] <;> omega]
  refine ⟨fun x p1 p2 => ?_, by omega, fun q => by omega, fun q => by omega, by omega, ⟨by omega, by omega, fun _ => by omega, fun _ => by omega⟩, by omega, by rw [if_neg (by omega), if_neg (by omega)]; omega⟩
  obtain ⟨a1, a2, a3, a4, a5, a6⟩ := hx x p1 p2
  have ef : wb_fst x (F x) s = ((F x).1, 0, (F x).2.2.1, 0, if s = 124 then true else (F x).2.2.2.2.1 && wb_ts (F x).2.2.1 (F x).2.2.2.1 (F x).2.1, if s = 124 then (F x).2.2.2.2.2 || ((F x).2.2.2.2.1 && wb_ts (F x).2.2.1 (F x).2.2.2.1 (F x).2.1) else (F x).2.2.2.2.2) := by simp only [wb_fst, if_pos hl]
  dsimp only
  rw [ef]
  refine ⟨fun q => by omega, fun q => by omega, rfl, ?_, ?_, ?_⟩
  · simp only [wb_su3, z0.1, z0.2, z1.1, z1.2, z2.1, z2.2]; simp
  · rw [a2 (by omega), a3, a4, a5]
  · rw [a2 (by omega), a3, a4, a5, a6]
theorem wb_CI_bd {st i : Int} {F : Int → wb_F} {tp tq : Int → Int} {wa re nu : Int} {S A : Int → Bool} (h : wb_CI st i F tp tq wa re nu S A) (hi : i ≤ 50) (h4 : 4 ≤ st) : (∀ p, 0 ≤ p → p < 125 → 0 ≤ wb_su3 tq p ∧ wb_su3 tq p ≤ 64) ∧ (∀ p, 0 ≤ p → p < 125 → 0 ≤ wb_su3 tp p ∧ wb_su3 tp p ≤ 64) ∧ (0 ≤ nu ∧ nu ≤ 99) ∧ 0 ≤ re ∧ re ≤ 1000 := by
  obtain ⟨hx, hst, h1, h3, hwa, hnu, hpos, hT⟩ := h
  rw [if_neg (by omega), if_pos (by omega)] at hT
  have := h3 (by omega)
  refine ⟨fun p p1 p2 => ?_, fun p p1 p2 => ?_, by omega, by omega⟩
  · exact wb_su3_rg (B := 16) (by omega) (by omega) (by omega) (by omega) ⟨p1, p2⟩
  · exact wb_su3_rg (B := 16) (by omega) (by omega) (by omega) (by omega) ⟨p1, p2⟩
/-- how many of the first signs are '|' -/
def wb_br1 (sg : Int → Int) (n : Nat) : Int := wb_ct (fun i => decide (sg i = 124)) n
section WBS31
variable {G : wb_G} {N : Nat} {w : wb_W} {Q : Option Value → Nat → wb_W → Prop} {b kb : Nat} {sg : Int → Int} {cnt : Int} {tp tq : Int → Int} {bl bh : Int → Int64} {wa re nu : Int} {g gk : Int → Int64}
theorem sp_X8_collect (hb : wb_Tx w b sg cnt tp tq bl bh wa re nu) (hm : wb_Mw w (b + 2) g) (hk : wb_Mw w kb gk) (hap : kb + 2 ≤ b ∨ b + 8 ≤ kb) (hc : 0 ≤ cnt ∧ cnt ≤ 50) (hsg : ∀ i, 0 ≤ i → i < cnt → 33 ≤ sg i ∧ sg i ≤ 126) (hfa : wb_fa sg cnt = -6) (hwa : -1 ≤ wa ∧ wa ≤ 1000)
    (hQ : ∀ (w' : wb_W) (g' gk' : Int → Int64) (tp' tq' : Int → Int) (bl' bh' : Int → Int64) (wa' re' : Int), wb_rp gk' (wb_kp sg cnt) → wb_Mw w' kb gk' → wb_Mw w' (b + 2) g' → (-1 ≤ wa' ∧ wa' ≤ 1000) → wb_Tx w' b sg cnt tp' tq' bl' bh' wa' re' 0 → (∀ k, (k < b ∨ b + 8 ≤ k) → k ≠ kb + 1 → w' k = w k) → Q (some (.int (wb_i (1 + wb_br1 sg cnt.toNat)))) N w') : wb_M G M_X8_collect [.ref b, .ref kb] N w Q := by
  unfold wb_M
  obtain ⟨ho1, ho2⟩ := wb_fa_ok hc.1 hfa
  have lp : ∀ i, i ≤ cnt → ∀ (w1 : wb_W) (g1 gk1 : Int → Int64) (tp1 tq1 : Int → Int) (bl1 bh1 : Int → Int64) (wa1 re1 nu1 : Int) (S A : Int → Bool), 0 ≤ i → wb_CI (wb_st sg i.toNat) i (fun x => wb_fo sg x i.toNat) tp1 tq1 wa1 re1 nu1 S A → wb_rp g1 A → wb_rp gk1 S → wb_Mw w1 (b + 2) g1 → wb_Mw w1 kb gk1 → wb_Tx w1 b sg cnt tp1 tq1 bl1 bh1 wa1 re1 nu1 → (∀ k, (k < b ∨ b + 8 ≤ k) → k ≠ kb + 1 → w1 k = w k) → wb_V G M_X8_collect 19 [(0, .ref b), (1, .ref kb), (2, .int (wb_i (1 + wb_br1 sg i.toNat))), (3, .int (wb_i i))] [] N w1 0 0 Q := by
    refine wb_up cnt _ ?_
    intro i ih hi w1 g1 gk1 tp1 tq1 bl1 bh1 wa1 re1 nu1 S A hi0 hci hA hS hm1 hk1 ht1 ef
    have hbr := wb_ct_rg (fun i => decide (sg i = 124)) i.toNat
    have ht1' := ht1
    obtain ⟨x0, x1, x2, x3, x4, x5⟩ := ht1'
    have hs := fun q : i < cnt => hsg i hi0 q
    have en : (i + 1).toNat = i.toNat + 1 := by omega
    have ei : ((i.toNat : Nat) : Int) = i := by omega
    have est : wb_st sg (i + 1).toNat = wb_nst (wb_st sg i.toNat) (sg i) := by rw [en, wb_st, ei]
    have efo : (fun x => wb_fo sg x (i + 1).toNat) = fun x => wb_fst x (wb_fo sg x i.toNat) (sg i) := by funext x; rw [en, wb_fo, ei]
    have h0st : i < cnt → 0 ≤ wb_nst (wb_st sg i.toNat) (sg i) := fun q => by have := ho1 (i + 1).toNat (by omega); rwa [est] at this
    have hl4 : i < cnt → wb_lnk (sg i) → 4 ≤ wb_st sg i.toNat := fun q hl => by
      have h0 := h0st q
      have hr := hci.2.1
      refine Classical.byContradiction fun hc => ?_
      rcases (show wb_st sg i.toNat = 0 ∨ wb_st sg i.toNat = 1 ∨ wb_st sg i.toNat = 2 ∨ wb_st sg i.toNat = 3 by omega) with e | e | e | e <;> rw [e] at h0 <;> simp [wb_nst] at h0 <;> omega
    have ebr : wb_br1 sg (i + 1).toNat = wb_br1 sg i.toNat + (if sg i = 124 then 1 else 0) := by
      rw [en]; unfold wb_br1; rw [wb_ct, ei]; simp
    have hg3 : ∀ u : wb_W, (∀ k, (k < b ∨ b + 8 ≤ k) → u k = w1 k) → wb_Mw u kb gk1 := fun u hu => hk1.fr (fun k p1 p2 => hu k (by omega))
    have tl : i < cnt → ∀ (w2 : wb_W) (g2 : Int → Int64) (tp2 tq2 : Int → Int) (bl2 bh2 : Int → Int64) (wa2 re2 nu2 : Int) (A2 : Int → Bool), (sg i ≠ 124 → wb_CI (wb_nst (wb_st sg i.toNat) (sg i)) (i + 1) (fun x => wb_fst x (wb_fo sg x i.toNat) (sg i)) tp2 tq2 wa2 re2 nu2 S A2) → (sg i = 124 → wb_CI (wb_nst (wb_st sg i.toNat) (sg i)) (i + 1) (fun x => wb_fst x (wb_fo sg x i.toNat) (sg i)) tp2 tq2 wa2 re2 nu2 (fun x => S x || A2 x) (fun _ => true)) → wb_rp g2 A2 → wb_Mw w2 (b + 2) g2 → wb_Tx w2 b sg cnt tp2 tq2 bl2 bh2 wa2 re2 nu2 → (∀ k, (k < b ∨ b + 8 ≤ k) → w2 k = w1 k) → wb_V G M_X8_collect 62 [(0, .ref b), (1, .ref kb), (2, .int (wb_i (1 + wb_br1 sg i.toNat))), (3, .int (wb_i i))] [] N w2 0 0 Q := by
      intro hic w2 g2 tp2 tq2 bl2 bh2 wa2 re2 nu2 A2 hn1 hn2 hA2 hm2 ht2 hf2
      have hsr := hs hic
      have ht2' := ht2
      obtain ⟨y0, y1, y2, y3, y4, y5⟩ := ht2'
      have hk2 : wb_Mw w2 kb gk1 := hk1.fr (fun k p1 p2 => hf2 k (by omega))
      refine vi_aload_n 33 rfl rfl ?_
      refine vi_get 34 rfl f_X8_9 y0 rfl rfl ?_
      refine vi_iload_n 35 rfl rfl ?_
      refine vi_iald 36 rfl y1 (by omega) ?_
      refine vi_bipush 37 rfl (by decide) ?_
      refine vi_icmp_ne 38 rfl (by omega) (by omega) (fun c_70 => ?_) (fun c_70 => ?_)
      · have e124 : wb_br1 sg (i + 1).toNat = wb_br1 sg i.toNat := by rw [ebr, if_neg c_70, Int.add_zero]
        have key := ih (i + 1) (by omega) (by omega) w2 g2 gk1 tp2 tq2 bl2 bh2 wa2 re2 nu2 S A2 (by omega) (by rw [est, efo]; exact hn1 c_70) hA2 hS hm2 hk2 ht2 (fun k p1 p2 => (hf2 k p1).trans (ef k p1 p2))
        rw [e124] at key
        refine vi_iinc 47 rfl rfl rfl ?_
        refine vi_goto 48 rfl ?_
        first | exact vi_lc key ⟨rfl, rfl, rfl, rfl, trivial⟩ | (have key := ih (i + 1) (by omega) (by omega) w4 g4 g3 tp2 tq2 bl2 bh2 wa2 re2 nu2 _ _ (by omega) (by rw [est, efo]; exact hn2 (by omega)) (wb_rp_all hg4) (wb_rp_or hS hA2 hg3) hm4 (hk3.fr (fun k p1 p2 => hf4 k (by omega))) ((ht2.fr (fun k p1 p2 p3 p4 => hf3 k (by omega))).fr (fun k p1 p2 p3 p4 => hf4 k (by omega))) (fun k p1 p2 => (hf4 k (by omega)).trans ((hf3 k (by omega)).trans ((hf2 k p1).trans (ef k p1 p2)))); rw [e124, show 1 + (wb_br1 sg i.toNat + 1) = 1 + wb_br1 sg i.toNat + 1 by omega] at key; exact vi_lc key ⟨rfl, rfl, rfl, rfl, trivial⟩)
      · have e124 : wb_br1 sg (i + 1).toNat = wb_br1 sg i.toNat + 1 := by rw [ebr, if_pos (by omega)]
        refine vi_iinc 39 rfl rfl rfl ?_
        refine vi_aload_n 40 rfl rfl ?_
        refine vi_aload_n 41 rfl rfl ?_
        refine vi_get 42 rfl f_X8_18 y0 rfl rfl ?_
        refine vi_V1 43 ok_X5_join rfl c_X8_69 hk2.1 rfl rfl ?_
        refine sp_X5_join hk2 hm2 (by omega) (fun w3 g3 hg3 hk3 hf3 => ?_)
        refine vi_aload_n 44 rfl rfl ?_
        refine vi_get 45 rfl f_X8_18 ((hf3 _ (by omega)).trans y0) rfl rfl ?_
        refine vi_V0 46 ok_X5_addAll rfl c_X8_56 ((hf3 _ (by omega)).trans hm2.1) rfl rfl ?_
        refine sp_X5_addAll (hm2.fr (fun k p1 p2 => hf3 k (by omega))) (fun w4 g4 hg4 hm4 hf4 => ?_)
        refine vi_iinc 47 rfl rfl rfl ?_
        refine vi_goto 48 rfl ?_
        first | exact vi_lc key ⟨rfl, rfl, rfl, rfl, trivial⟩ | (have key := ih (i + 1) (by omega) (by omega) w4 g4 g3 tp2 tq2 bl2 bh2 wa2 re2 nu2 _ _ (by omega) (by rw [est, efo]; exact hn2 (by omega)) (wb_rp_all hg4) (wb_rp_or hS hA2 hg3) hm4 (hk3.fr (fun k p1 p2 => hf4 k (by omega))) ((ht2.fr (fun k p1 p2 p3 p4 => hf3 k (by omega))).fr (fun k p1 p2 p3 p4 => hf4 k (by omega))) (fun k p1 p2 => (hf4 k (by omega)).trans ((hf3 k (by omega)).trans ((hf2 k p1).trans (ef k p1 p2)))); rw [e124, show 1 + (wb_br1 sg i.toNat + 1) = 1 + wb_br1 sg i.toNat + 1 by omega] at key; exact vi_lc key ⟨rfl, rfl, rfl, rfl, trivial⟩)
    refine vi_iload_n 11 rfl rfl ?_
    refine vi_aload_n 12 rfl rfl ?_
    refine vi_get 13 rfl f_X8_35 x0 rfl rfl ?_
    refine vi_icmp_ge 14 rfl (by omega) (by omega) (fun c_24 => ?_) (fun c_24 => ?_)
    · have hic : i = cnt := by omega
      subst hic
      have hbd := wb_CI_bd hci (by omega) (by omega)
      refine vi_aload_n 49 rfl rfl ?_
      refine vi_V0 50 ok_X8_endTest rfl c_X8_62 x0 rfl rfl ?_
      refine sp_X8_endTest ht1 hm1 hA hbd.1 hbd.2.1 hbd.2.2.1 hbd.2.2.2 (fun w2 g2 tp2 tq2 bl2 bh2 hz2 hr2 hm2 ht2 hf2 => ?_)
      have ht2' := ht2
      obtain ⟨y0, -⟩ := ht2'
      have hk2 := hg3 w2 hf2
      refine vi_aload_n 51 rfl rfl ?_
      refine vi_aload_n 52 rfl rfl ?_
      refine vi_get 53 rfl f_X8_18 y0 rfl rfl ?_
      refine vi_V1 54 ok_X5_join rfl c_X8_69 hk2.1 rfl rfl ?_
      refine sp_X5_join hk2 hm2 (by omega) (fun w3 g3 hg3' hk3 hf3 => ?_)
      refine vi_iload_n 55 rfl rfl ?_
      exact vi_ireturn 56 rfl rfl rfl (Nat.zero_le _) (Nat.zero_le _) (hQ w3 g2 g3 tp2 tq2 bl2 bh2 wa1 re1 ((wb_rp_or hS hr2 hg3').to (fun x p1 p2 => by have hx := hci.1 x p1 p2; unfold wb_kp wb_fe; rw [hx.2.2.2.2.2, hx.2.2.2.2.1, hx.2.1 (by omega), hx.2.2.1, hx.2.2.2.1])) hk3 (hm2.fr (fun k p1 p2 => hf3 k (by omega))) hci.2.2.2.2.1 (ht2.fr (fun k p1 p2 p3 p4 => hf3 k (by omega))) (fun k p1 p2 => (hf3 k p2).trans ((hf2 k p1).trans (ef k p1 p2))))
    · refine vi_iload_n 15 rfl rfl ?_
      refine vi_bipush 16 rfl (by decide) ?_
      refine vi_icmp_ge 17 rfl (by omega) (by omega) (fun c_30 => by exfalso; omega) (fun c_30 => ?_)
      have hsr := hs (by omega)
      refine vi_aload_n 18 rfl rfl ?_
      refine vi_get 19 rfl f_X8_9 x0 rfl rfl ?_
      refine vi_iload_n 20 rfl rfl ?_
      refine vi_iald 21 rfl (by assumption) (by omega) ?_
      refine vi_S1 22 ok_X8_isLink rfl c_X8_50 rfl ?_
      refine sp_X8_isLink (by omega) (fun b_39 => ?_) (fun b_39 => ?_)
      · have hbd := wb_CI_bd hci (by omega) (hl4 (by omega) b_39)
        refine vi_if_eq 23 rfl (by omega) (fun c => absurd c (by decide)) (fun _ => ?_)
        refine vi_aload_n 24 rfl rfl ?_
        refine vi_V0 25 ok_X8_endTest rfl c_X8_62 x0 rfl rfl ?_
        refine sp_X8_endTest ht1 hm1 hA hbd.1 hbd.2.1 hbd.2.2.1 hbd.2.2.2 (fun w2 g2 tp2 tq2 bl2 bh2 hz2 hr2 hm2 ht2 hf2 => ?_)
        have hci2 := wb_CI_lk hci hi0 (hl4 (by omega) b_39) b_39 hz2
        have key := tl (by omega) w2 g2 tp2 tq2 bl2 bh2 wa1 re1 0 _ (fun q => by simpa only [if_neg q] using hci2) (fun q => by simpa only [if_pos q] using hci2) hr2 hm2 ht2 hf2
        refine vi_goto 26 rfl ?_
        exact key
      · refine vi_if_eq 23 rfl (by omega) (fun _ => ?_) (fun c => absurd c (by decide))
        refine vi_aload_n 27 rfl rfl ?_
        refine vi_aload_n 28 rfl rfl ?_
        refine vi_get 29 rfl f_X8_9 x0 rfl rfl ?_
        refine vi_iload_n 30 rfl rfl ?_
        refine vi_iald 31 rfl x1 (by omega) ?_
        refine vi_V1 32 ok_X8_readOn rfl c_X8_65 x0 rfl rfl ?_
        refine sp_X8_readOn ht1 hsr b_39 (by have := hci.2.2.2.2.2.1; omega) hci.2.2.2.2.1 (fun w2 ht2 hf2 => ?_)
        have hci2 := wb_CI_on hci (h0st (by omega)) b_39
        have key := tl (by omega) w2 g1 _ _ bl1 bh1 _ _ _ A (fun q => hci2) (fun q => absurd (Or.inr q) b_39) hA (hm1.fr (fun k p1 p2 => hf2 k (by omega) (by omega) (by omega))) ht2 (fun k hk => hf2 k (by omega) (by omega) (by omega))
        exact key
  have hb' := hb
  obtain ⟨x0, -⟩ := hb'
  refine vi_iconst 0 rfl ?_
  refine vi_istore_n 1 rfl rfl ?_
  refine vi_aload_n 2 rfl rfl ?_
  refine vi_V0 3 ok_X5_removeAll rfl c_X8_53 hk.1 rfl rfl ?_
  refine sp_X5_removeAll hk (fun w2 gk2 hg2 hk2 hf2 => ?_)
  have hb2 : wb_Tx w2 b sg cnt tp tq bl bh wa re nu := hb.fr (fun k p1 p2 p3 p4 => hf2 k (by omega))
  have hm2 : wb_Mw w2 (b + 2) g := hm.fr (fun k p1 p2 => hf2 k (by omega))
  have hb2' := hb2
  obtain ⟨y0, -⟩ := hb2'
  refine vi_aload_n 4 rfl rfl ?_
  refine vi_get 5 rfl f_X8_18 y0 rfl rfl ?_
  refine vi_V0 6 ok_X5_addAll rfl c_X8_56 hm2.1 rfl rfl ?_
  refine sp_X5_addAll hm2 (fun w3 g3 hg3 hm3 hf3 => ?_)
  have hb3 : wb_Tx w3 b sg cnt tp tq bl bh wa re nu := hb2.fr (fun k p1 p2 p3 p4 => hf3 k (by omega))
  have hk3 := hk2.fr (fun k p1 p2 => hf3 k (by omega))
  refine vi_aload_n 7 rfl rfl ?_
  refine vi_V0 8 ok_X8_beginTest rfl c_X8_59 hb3.1 rfl rfl ?_
  refine sp_X8_beginTest hb3 (fun w4 tp4 tq4 hz4 ht4 hf4 => ?_)
  refine vi_iconst 9 rfl ?_
  refine vi_istore_n 10 rfl rfl ?_
  refine vi_lc (lp 0 (by omega) w4 g3 gk2 tp4 tq4 bl bh wa re 0 (fun _ => false) (fun _ => true) (by omega) ?_ (wb_rp_all hg3) (wb_rp_emp hg2) (hm3.fr (fun k p1 p2 => hf4 k (by omega) (by omega) (by omega))) (hk3.fr (fun k p1 p2 => hf4 k (by omega) (by omega) (by omega))) ht4 (fun k p1 p2 => (hf4 k (by omega) (by omega) (by omega)).trans ((hf3 k (by omega)).trans (hf2 k (by omega))))) ⟨rfl, rfl, rfl, rfl, trivial⟩
  have z0 := hz4 0 (by omega) (by omega)
  have z1 := hz4 1 (by omega) (by omega)
  have z2 := hz4 2 (by omega) (by omega)
  show wb_CI 0 0 (fun x => (0, 0, 0, 0, true, false)) tp4 tq4 wa re 0 _ _
  refine ⟨fun x p1 p2 => ⟨fun q => by exact absurd q (by decide), fun q => by exact absurd q (by decide), rfl, ?_, rfl, rfl⟩, by decide, fun q => by exact absurd q (by decide), fun q => by exact absurd q (by decide), hwa, by decide, by omega, ?_⟩
  · simp only [wb_su3, z0.1, z0.2, z1.1, z1.2, z2.1, z2.2]; simp
  · rw [z0.1, z0.2, z1.1, z1.2, z2.1, z2.2]; decide
end WBS31
