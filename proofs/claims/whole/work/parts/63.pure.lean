/-! ===== charts meet: what goes on forward and backward ===== -/
theorem wb_meetA {L H le mo nd lo ho bl bh : Int} (h1 : 0 ≤ L ∧ L ≤ H ∧ H ≤ ho) (h2 : le ≤ mo) (h3 : 0 ≤ lo) (h4 : 0 ≤ bl ∧ bl ≤ bh ∧ bh ≤ ho) : (wb_c0 (L + le - nd - lo) ≤ wb_cx ho (H + mo - nd) ∧ wb_c0 (L + le - nd - lo) ≤ bh ∧ bl ≤ wb_cx ho (H + mo - nd)) ↔ (wb_c0 (bl - mo + nd) ≤ wb_cx ho (bh - le + nd + lo) ∧ L ≤ wb_cx ho (bh - le + nd + lo) ∧ wb_c0 (bl - mo + nd) ≤ H) := by
  unfold wb_c0 wb_cx
  split <;> split <;> split <;> split <;> omega
theorem wb_meetB {L H le mo nd lo ho bl bh : Int} (h1 : 0 ≤ L ∧ L ≤ H) (h2 : le ≤ mo) (h3 : 0 ≤ lo) (h4 : 0 ≤ bl ∧ bl ≤ bh ∧ bh ≤ ho) : (wb_c0 (L + le - nd - lo) ≤ wb_cx ho (H + mo - nd) ∧ wb_c0 (L + le - nd - lo) ≤ bh ∧ bl ≤ wb_cx ho (H + mo - nd)) ↔ (L + le - nd - lo ≤ bh ∧ bl ≤ H + mo - nd) := by
  unfold wb_c0 wb_cx
  split <;> split <;> omega
theorem wb_br_ho {le mo : Int → Int} {ho lo : Int} {nd : Int → Int} {n : Int} (d : Nat) : (wb_br le mo ho lo nd n d).2 ≤ ho := by
  cases d with
  | zero => exact Int.le_refl _
  | succ d => show wb_cx ho _ ≤ ho; unfold wb_cx; split <;> omega
theorem wb_rn_ho {le mo : Int → Int} {ho lo : Int} {nd : Int → Int} {L0 H0 : Int} {m : Nat} (hm : 1 ≤ m) : (wb_rn le mo ho lo nd L0 H0 m).2 ≤ ho := by
  obtain ⟨k, rfl⟩ : ∃ k, m = k + 1 := ⟨m - 1, by omega⟩
  show wb_cx ho _ ≤ ho; unfold wb_cx; split <;> omega
theorem wb_meet {le mo nd le' mo' nd' : Int → Int} {ho lo L0 H0 n : Int} (h0 : 0 ≤ L0 ∧ L0 ≤ H0 ∧ H0 ≤ 199) (hh : 0 ≤ ho ∧ ho ≤ 199) (hlo : 0 ≤ lo) (hlm : ∀ j : Int, 0 ≤ j → le j ≤ mo j) : ∀ (d m : Nat), 1 ≤ m → (m : Int) + d = n → (∀ j : Int, m ≤ j → j < n → le' j = le j ∧ mo' j = mo j ∧ nd' j = nd j) → (wb_ok le mo ho lo nd L0 H0 (m + d) = true ↔ wb_ok le mo ho lo nd L0 H0 m = true ∧ wb_bo le' mo' ho lo nd' n d = true ∧ (wb_rn le mo ho lo nd L0 H0 m).1 ≤ (wb_br le' mo' ho lo nd' n d).2 ∧ (wb_br le' mo' ho lo nd' n d).1 ≤ (wb_rn le mo ho lo nd L0 H0 m).2) := by
  intro d
  induction d with
  | zero =>
    intro m hm hmn hnd
    constructor
    · intro h
      have a := wb_ok_rg (le := le) (mo := mo) (lo := lo) (nd := nd) h0 hh.2 m h
      have b := wb_rn_ho (le := le) (mo := mo) (ho := ho) (lo := lo) (nd := nd) (L0 := L0) (H0 := H0) hm
      refine ⟨h, rfl, ?_, ?_⟩
      · show _ ≤ ho; omega
      · show 0 ≤ _; omega
    · intro h; exact h.1
  | succ d ih =>
    intro m hm hmn hnd
    have i1 := ih (m + 1) (by omega) (by omega) (fun j j1 j2 => hnd j (by omega) j2)
    rw [show m + (d + 1) = m + 1 + d by omega, i1]
    have e : n - 1 - (d : Int) = m := by omega
    obtain ⟨n1, n2, n3⟩ := hnd m (by omega) (by omega)
    have eb : wb_br le' mo' ho lo nd' n (d + 1) = (wb_c0 ((wb_br le' mo' ho lo nd' n d).1 - mo m + nd m), wb_cx ho ((wb_br le' mo' ho lo nd' n d).2 - le m + nd m + lo)) := by
      rw [wb_br, e, n1, n2, n3]
    have er : wb_rn le mo ho lo nd L0 H0 (m + 1) = (wb_c0 ((wb_rn le mo ho lo nd L0 H0 m).1 + le m - nd m - lo), wb_cx ho ((wb_rn le mo ho lo nd L0 H0 m).2 + mo m - nd m)) := rfl
    have eo : wb_ok le mo ho lo nd L0 H0 (m + 1) = (wb_ok le mo ho lo nd L0 H0 m && decide ((wb_rn le mo ho lo nd L0 H0 (m + 1)).1 ≤ (wb_rn le mo ho lo nd L0 H0 (m + 1)).2)) := rfl
    have ebo : wb_bo le' mo' ho lo nd' n (d + 1) = (wb_bo le' mo' ho lo nd' n d && decide ((wb_br le' mo' ho lo nd' n (d + 1)).1 ≤ (wb_br le' mo' ho lo nd' n (d + 1)).2)) := rfl
    rw [eo, ebo, eb, er, Bool.and_eq_true, Bool.and_eq_true, decide_eq_true_iff, decide_eq_true_iff]
    dsimp only
    have hml := hlm m (by omega)
    constructor
    · rintro ⟨⟨q1, q2⟩, q3, q4, q5⟩
      have a := wb_ok_rg (le := le) (mo := mo) (lo := lo) (nd := nd) h0 hh.2 m q1
      have a2 := wb_rn_ho (le := le) (mo := mo) (ho := ho) (lo := lo) (nd := nd) (L0 := L0) (H0 := H0) hm
      have b := wb_bo_rg (le := le') (mo := mo') (lo := lo) (nd := nd') (n := n) hh d q3
      have b2 := wb_br_ho (le := le') (mo := mo') (ho := ho) (lo := lo) (nd := nd') (n := n) d
      have := (wb_meetA (nd := nd m) ⟨a.1, a.2.1, a2⟩ hml hlo ⟨b.1, b.2.1, b2⟩).mp ⟨q2, q4, q5⟩
      exact ⟨q1, ⟨q3, this.1⟩, this.2⟩
    · rintro ⟨q1, ⟨q3, q2⟩, q4⟩
      have a := wb_ok_rg (le := le) (mo := mo) (lo := lo) (nd := nd) h0 hh.2 m q1
      have a2 := wb_rn_ho (le := le) (mo := mo) (ho := ho) (lo := lo) (nd := nd) (L0 := L0) (H0 := H0) hm
      have b := wb_bo_rg (le := le') (mo := mo') (lo := lo) (nd := nd') (n := n) hh d q3
      have b2 := wb_br_ho (le := le') (mo := mo') (ho := ho) (lo := lo) (nd := nd') (n := n) d
      have := (wb_meetA (nd := nd m) ⟨a.1, a.2.1, a2⟩ hml hlo ⟨b.1, b.2.1, b2⟩).mpr ⟨q2, q4⟩
      exact ⟨⟨q1, this.1⟩, q3, this.2⟩
theorem wb_le_mt {n : Int} {c s : Int → Int} {sd sf t j : Int} (hR : wb_BR n c s sd sf) : wb_le c t 0 0 j ≤ wb_mt c t 0 0 j := by
  have a := hR.2.1 (9 * j + t)
  have b := hR.2.1 (9 * j + 3)
  unfold wb_le wb_mt
  rw [wb_bt0, if_neg (show ¬ (false = true) by decide), if_neg (show ¬ (false = true) by decide)]
  split <;> omega
/-- a chart's span, read off -/
theorem wb_ah_sp {n : Int} {c s : Int → Int} {sd sf t k m : Int} (hR : wb_BR n c s sd sf) : (0 ≤ wb_AH c s sd sf t k m ↔ wb_ok (wb_le c t 0 0) (wb_mt c t 0 0) (s (4 * t + 2)) (s (4 * t + 3)) (fun m => wb_kn c sd sf t k m) (s (4 * t)) (s (4 * t + 1)) m.toNat = true) ∧ (0 ≤ wb_AH c s sd sf t k m → wb_AH c s sd sf t k m % 256 = (wb_rn (wb_le c t 0 0) (wb_mt c t 0 0) (s (4 * t + 2)) (s (4 * t + 3)) (fun m => wb_kn c sd sf t k m) (s (4 * t)) (s (4 * t + 1)) m.toNat).1 ∧ wb_AH c s sd sf t k m / 256 = (wb_rn (wb_le c t 0 0) (wb_mt c t 0 0) (s (4 * t + 2)) (s (4 * t + 3)) (fun m => wb_kn c sd sf t k m) (s (4 * t)) (s (4 * t + 1)) m.toNat).2) := by
  have hs0 := hR.2.2.1 (4 * t)
  have hs2 := hR.2.2.1 (4 * t + 2)
  have hs8 := hR.2.2.2.2.2.2.2.1 t
  unfold wb_AH wb_ah
  by_cases h : wb_ok (wb_le c t 0 0) (wb_mt c t 0 0) (s (4 * t + 2)) (s (4 * t + 3)) (fun m => wb_kn c sd sf t k m) (s (4 * t)) (s (4 * t + 1)) m.toNat = true
  · have a := wb_ok_rg (le := wb_le c t 0 0) (mo := wb_mt c t 0 0) (lo := s (4 * t + 3)) (nd := fun m => wb_kn c sd sf t k m) (L0 := s (4 * t)) (H0 := s (4 * t + 1)) (ho := s (4 * t + 2)) ⟨hs0.1, hs8.1, by omega⟩ (by omega) _ h
    rw [if_pos h]
    exact ⟨⟨fun _ => h, fun _ => by omega⟩, fun _ => by omega⟩
  · rw [if_neg h]
    exact ⟨⟨fun q => by omega, fun q => absurd q h⟩, fun q => by omega⟩
theorem wb_on_sp {n : Int} {c s : Int → Int} {sd sf t k m : Int} (hR : wb_BR n c s sd sf) : (0 ≤ wb_ON n c s sd sf t k m ↔ wb_bo (wb_le c t 0 0) (wb_mt c t 0 0) (s (4 * t + 2)) (s (4 * t + 3)) (fun m => wb_kn c sd sf t k m) n (n - m).toNat = true) ∧ (0 ≤ wb_ON n c s sd sf t k m → wb_ON n c s sd sf t k m % 256 = (wb_br (wb_le c t 0 0) (wb_mt c t 0 0) (s (4 * t + 2)) (s (4 * t + 3)) (fun m => wb_kn c sd sf t k m) n (n - m).toNat).1 ∧ wb_ON n c s sd sf t k m / 256 = (wb_br (wb_le c t 0 0) (wb_mt c t 0 0) (s (4 * t + 2)) (s (4 * t + 3)) (fun m => wb_kn c sd sf t k m) n (n - m).toNat).2) := by
  have hs2 := hR.2.2.1 (4 * t + 2)
  unfold wb_ON wb_on
  by_cases h : wb_bo (wb_le c t 0 0) (wb_mt c t 0 0) (s (4 * t + 2)) (s (4 * t + 3)) (fun m => wb_kn c sd sf t k m) n (n - m).toNat = true
  · have a := wb_bo_rg (le := wb_le c t 0 0) (mo := wb_mt c t 0 0) (lo := s (4 * t + 3)) (nd := fun m => wb_kn c sd sf t k m) (n := n) (ho := s (4 * t + 2)) (by omega) _ h
    rw [if_pos h]
    exact ⟨⟨fun _ => h, fun _ => by omega⟩, fun _ => by omega⟩
  · rw [if_neg h]
    exact ⟨⟨fun q => by omega, fun q => absurd q h⟩, fun q => by omega⟩
theorem wb_mt2_iff {a b : Int} : wb_mt2 a b = true ↔ 0 ≤ a ∧ 0 ≤ b ∧ a % 256 ≤ b / 256 ∧ b % 256 ≤ a / 256 := by
  unfold wb_mt2
  rw [Bool.and_eq_true, Bool.and_eq_true, Bool.and_eq_true, decide_eq_true_iff, decide_eq_true_iff, decide_eq_true_iff, decide_eq_true_iff]
theorem wb_kn_ab {c : Int → Int} {sd sf t a o j : Int} (ha : 0 ≤ a ∧ a < 25) : wb_kn c sd sf t (a + 25 * o) j = wb_ow c sd sf j t a + wb_gn c sd sf j t o := by
  unfold wb_kn
  rw [show (a + 25 * o) % 25 = a by omega, show (a + 25 * o) / 25 = o by omega]
/-- changed at a month: till then by one key, from then on by another -/
theorem wb_mt2_gk {n : Int} {c s : Int → Int} {sd sf tt tr t a b o1 o2 m k1 k2 : Int} (hR : wb_BR n c s sd sf) (hm : 1 ≤ m ∧ m < n) (ha : 0 ≤ a ∧ a < 25) (hb : 0 ≤ b ∧ b < 25) (e1 : k1 = a + 25 * o1) (e2 : k2 = b + 25 * o2) : wb_mt2 (wb_AH c s sd sf t k1 m) (wb_ON n c s sd sf t k2 m) = wb_gk c s sd sf 0 0 (-6) tt tr t a b o1 o2 m n.toNat := by
  subst e1; subst e2
  have hs0 := hR.2.2.1 (4 * t)
  have hs2 := hR.2.2.1 (4 * t + 2)
  have hs3 := hR.2.2.1 (4 * t + 3)
  have hs8 := hR.2.2.2.2.2.2.2.1 t
  have ha1 := wb_ah_sp (t := t) (k := a + 25 * o1) (m := m) hR
  have hb1 := wb_on_sp (t := t) (k := b + 25 * o2) (m := m) hR
  -- the run till m and the run by the changed one
  have er : wb_gk c s sd sf 0 0 (-6) tt tr t a b o1 o2 m n.toNat = wb_ok (wb_le c t 0 0) (wb_mt c t 0 0) (s (4 * t + 2)) (s (4 * t + 3)) (wb_nn2 c sd sf t a b o1 o2 m) (s (4 * t)) (s (4 * t + 1)) n.toNat := by
    refine (wb_rn_congr n.toNat (fun j j1 j2 => ?_)).2
    have z := wb_rl_le (c := c) (mo := 0) (db := 0) (tm := -6) (tt := tt) (tr := tr) (t := t) (m := j) (by omega)
    exact ⟨z.1, z.2, rfl⟩
  have ef := wb_rn_congr (le := wb_le c t 0 0) (mo := wb_mt c t 0 0) (le' := wb_le c t 0 0) (mo' := wb_mt c t 0 0) (nd := fun m => wb_kn c sd sf t (a + 25 * o1) m) (nd' := wb_nn2 c sd sf t a b o1 o2 m) (ho := s (4 * t + 2)) (lo := s (4 * t + 3)) (L0 := s (4 * t)) (H0 := s (4 * t + 1)) m.toNat (fun j j1 j2 => ⟨rfl, rfl, by rw [wb_kn_ab ha]; unfold wb_nn2; rw [if_pos (by omega)]⟩)
  have hme := wb_meet (le := wb_le c t 0 0) (mo := wb_mt c t 0 0) (nd := wb_nn2 c sd sf t a b o1 o2 m) (le' := wb_le c t 0 0) (mo' := wb_mt c t 0 0) (nd' := fun m => wb_kn c sd sf t (b + 25 * o2) m) (ho := s (4 * t + 2)) (lo := s (4 * t + 3)) (L0 := s (4 * t)) (H0 := s (4 * t + 1)) (n := n) ⟨hs0.1, hs8.1, by omega⟩ (by omega) (by omega) (fun j _ => wb_le_mt hR) (n - m).toNat m.toNat (by omega) (by omega) (fun j j1 j2 => ⟨rfl, rfl, by rw [wb_kn_ab hb]; unfold wb_nn2; rw [if_neg (by omega)]⟩)
  rw [show m.toNat + (n - m).toNat = n.toNat by omega] at hme
  rw [er]
  apply wb_not_iff
  rw [wb_mt2_iff, hme, ← ef.1, ← ef.2]
  constructor
  · rintro ⟨p1, p2, p3, p4⟩
    have u := ha1.2 p1
    have v := hb1.2 p2
    exact ⟨ha1.1.mp p1, hb1.1.mp p2, by rw [← u.1, ← v.2]; exact p3, by rw [← u.2, ← v.1]; exact p4⟩
  · rintro ⟨p1, p2, p3, p4⟩
    have q1 := ha1.1.mpr p1
    have q2 := hb1.1.mpr p2
    have u := ha1.2 q1
    have v := hb1.2 q2
    exact ⟨q1, q2, by rw [u.1, v.2]; exact p3, by rw [u.2, v.1]; exact p4⟩
/-- where it isn't the one that stands in in some month, the other's pair doesn't matter -/
theorem wb_gn_hl {hl n : Int} {c : Int → Int} {sd sf t j o : Int} (hHL : wb_HL hl n c sd sf) (ht : 0 ≤ t) (h : t ≠ hl) (hj : 0 ≤ j ∧ j < n) : wb_gn c sd sf j t o = 0 := by
  unfold wb_gn
  rw [if_neg]
  rintro ⟨q1, q2⟩
  rcases hHL with ⟨_, z2⟩ | ⟨z1, _⟩
  · omega
  · exact z1 ⟨j, hj.1, hj.2, q2⟩
theorem wb_gk_o {hl n : Int} {c s : Int → Int} {sd sf mo db tm tt tr t a b o1 o2 o1' o2' m : Int} (hHL : wb_HL hl n c sd sf) (ht : 0 ≤ t) (h : t ≠ hl) : wb_gk c s sd sf mo db tm tt tr t a b o1 o2 m n.toNat = wb_gk c s sd sf mo db tm tt tr t a b o1' o2' m n.toNat := by
  refine wb_gk_congr n.toNat (fun j j1 j2 => ⟨rfl, rfl, ?_⟩)
  unfold wb_nn2
  rw [wb_gn_hl hHL ht h (by omega), wb_gn_hl hHL ht h (by omega), wb_gn_hl hHL ht h (by omega), wb_gn_hl hHL ht h (by omega)]
/-- a thing agrees, changed at a month from one mixture to another -/
def wb_ac (n : Int) (c s : Int → Int) (sd sf u x y m : Int) : Bool := wb_gk c s sd sf 0 0 (-6) 0 0 u (wb_pr x u) (wb_pr y u) (if u = sd then wb_pr x sf else 0) (if u = sd then wb_pr y sf else 0) m n.toNat
theorem wb_gk_cst {c s : Int → Int} {sd sf mo db tm tt tr t a o m m' : Int} (k : Nat) : wb_gk c s sd sf mo db tm tt tr t a a o o m k = wb_gk c s sd sf mo db tm tt tr t a a o o m' k := by
  refine wb_gk_congr k (fun j j1 j2 => ⟨rfl, rfl, ?_⟩)
  unfold wb_nn2; split <;> split <;> rfl
theorem wb_gk_tt {c s : Int → Int} {sd sf mo db tt tr tt' tr' t a b o1 o2 m : Int} (k : Nat) : wb_gk c s sd sf mo db (-6) tt tr t a b o1 o2 m k = wb_gk c s sd sf mo db (-6) tt' tr' t a b o1 o2 m k := by
  refine wb_gk_congr k (fun j j1 j2 => ?_)
  have a := wb_rl_le (c := c) (mo := mo) (db := db) (tm := -6) (tt := tt) (tr := tr) (t := t) (m := j) (by omega)
  have b := wb_rl_le (c := c) (mo := mo) (db := db) (tm := -6) (tt := tt') (tr := tr') (t := t) (m := j) (by omega)
  exact ⟨a.1.trans b.1.symm, a.2.trans b.2.symm, rfl⟩
section WBS63
variable {n : Int} {c s : Int → Int} {sd sf hl t x r m : Int} {K : Int → Bool}
theorem wb_ac_A {u : Int} (hR : wb_BR n c s sd sf) (hHL : wb_HL hl n c sd sf) (hx : 0 ≤ x ∧ x < 15625) (ht : 0 ≤ t ∧ t < 3) (hr : 0 ≤ r ∧ r < 25) (hu : 0 ≤ u ∧ u < 3) (hto : wb_to hl sf t u = false) : wb_ac n c s sd sf u x (wb_wp x t r) m = wb_A n c s sd sf 0 0 u x := by
  have hrg := hHL.rg hR
  have hwp := (wb_wp_rg hx ht hr).2
  unfold wb_to at hto
  rw [Bool.or_eq_false_iff, Bool.and_eq_false_iff, decide_eq_false_iff_not, decide_eq_false_iff_not, decide_eq_false_iff_not] at hto
  obtain ⟨h1, h2⟩ := hto
  have r9 := hR.2.2.2.2.2.2.2.2
  have r5 := hR.2.2.2.2.1
  unfold wb_ac
  rw [hwp u hu.1 hu.2, if_neg h1]
  by_cases hus : u = sd
  · rw [if_pos hus, if_pos hus]
    have hsf := r9 (by omega)
    by_cases hst : sf = t
    · -- then it never stands in
      have hne : u ≠ hl := fun q => by
        rcases h2 with h2 | h2
        · apply h2; unfold wb_pa; rw [if_neg (by omega), if_neg (by omega), if_pos (by omega)]; omega
        · exact h2 q
      rw [wb_gk_o (o1' := wb_pr x sf) (o2' := wb_pr x sf) hHL hu.1 hne, wb_gk_cst (m' := 0)]
      exact (wb_gk_x hR (fun _ => rfl) _).1
    · rw [hwp sf hsf.1 (by omega), if_neg hst, wb_gk_cst (m' := 0)]
      exact (wb_gk_x hR (fun _ => rfl) _).1
  · rw [if_neg hus, if_neg hus, wb_gk_cst (m' := 0)]
    exact (wb_gk_x hR (fun q => absurd q hus) _).1
theorem wb_ac_t {u : Int} (hR : wb_BR n c s sd sf) (hHL : wb_HL hl n c sd sf) (hx : 0 ≤ x ∧ x < 15625) (ht : 0 ≤ t ∧ t < 3) (hr : 0 ≤ r ∧ r < 25) (hm : 1 ≤ m ∧ m < n) (hne : t ≠ hl) (hu : u = t) : wb_ac n c s sd sf u x (wb_wp x t r) m = wb_mt2 (wb_AH c s sd sf t (wb_pr x t) m) (wb_ON n c s sd sf t r m) := by
  subst hu
  have hwp := (wb_wp_rg hx ht hr).2
  have hp := wb_pr_rg (x := x) (t := u) hx.1
  unfold wb_ac
  rw [hwp u ht.1 ht.2, if_pos rfl, wb_mt2_gk (tt := 0) (tr := 0) (a := wb_pr x u) (b := r) (o1 := 0) (o2 := 0) hR hm (by omega) hr (by omega) (by omega)]
  exact wb_gk_o hHL ht.1 hne
theorem wb_ac_h (hR : wb_BR n c s sd sf) (hHL : wb_HL hl n c sd sf) (hx : 0 ≤ x ∧ x < 15625) (ht : 0 ≤ t ∧ t < 3) (hr : 0 ≤ r ∧ r < 25) (hm : 1 ≤ m ∧ m < n) (hth : t = hl) : wb_ac n c s sd sf t x (wb_wp x t r) m = wb_mt2 (wb_AH c s sd sf hl (wb_pr x t + 25 * wb_pr x sf) m) (wb_ON n c s sd sf hl (25 * wb_pr x sf + r) m) := by
  subst hth
  have hrg := (hHL.rg hR).2 ht.1
  have hwp := (wb_wp_rg hx ht hr).2
  have hp := wb_pr_rg (x := x) (t := t) hx.1
  unfold wb_ac
  rw [hwp t ht.1 ht.2, if_pos rfl, if_pos hrg.1, if_pos hrg.1, hwp sf hrg.2.1 (by omega), if_neg (by omega), wb_mt2_gk (tt := 0) (tr := 0) (a := wb_pr x t) (b := r) (o1 := wb_pr x sf) (o2 := wb_pr x sf) hR hm (by omega) hr (by omega) (by omega)]
theorem wb_ac_g (hR : wb_BR n c s sd sf) (hHL : wb_HL hl n c sd sf) (hx : 0 ≤ x ∧ x < 15625) (ht : 0 ≤ t ∧ t < 3) (hr : 0 ≤ r ∧ r < 25) (hm : 1 ≤ m ∧ m < n) (hh : 0 ≤ hl) (hth : t ≠ hl) (hsf : t = sf) : wb_ac n c s sd sf hl x (wb_wp x t r) m = wb_mt2 (wb_AH c s sd sf hl (wb_pr x hl + 25 * wb_pr x t) m) (wb_ON n c s sd sf hl (wb_pr x hl + 25 * r) m) := by
  have hrg := (hHL.rg hR).2 hh
  have hrg1 := (hHL.rg hR).1
  have hwp := (wb_wp_rg hx ht hr).2
  have hp := wb_pr_rg (x := x) (t := hl) hx.1
  subst hsf
  unfold wb_ac
  rw [hwp hl hh (by omega), if_neg (fun q => hth q.symm), if_pos hrg.1, if_pos hrg.1, hwp t ht.1 ht.2, if_pos rfl, wb_mt2_gk (tt := 0) (tr := 0) (a := wb_pr x hl) (b := wb_pr x hl) (o1 := wb_pr x t) (o2 := r) hR hm (by omega) (by omega) rfl rfl]
theorem wb_al3 {f : Int → Bool} : wb_al f 3 = true ↔ ∀ u : Int, 0 ≤ u → u < 3 → f u = true := by
  have e : wb_al f 3 = (((true && f 0) && f 1) && f 2) := rfl
  rw [e]
  constructor
  · intro h u u1 u2
    obtain ⟨h1, h2⟩ := wb_and h
    obtain ⟨h3, h4⟩ := wb_and h1
    obtain ⟨_, h5⟩ := wb_and h3
    rcases (show u = 0 ∨ u = 1 ∨ u = 2 by omega) with rfl | rfl | rfl
    · exact h5
    · exact h4
    · exact h2
  · intro h
    rw [h 0 (by omega) (by omega), h 1 (by omega) (by omega), h 2 (by omega) (by omega)]; rfl
/-- a change that the class finds is one that the reference finds -/
theorem wb_ch_eq (hR : wb_BR n c s sd sf) (hHL : wb_HL hl n c sd sf) (hx : 0 ≤ x ∧ x < 15625) (ht : 0 ≤ t ∧ t < 3) (hr : 0 ≤ r ∧ r < 25) (hm : 1 ≤ m ∧ m < n) : (wb_S0 n c s sd sf K hl t x = true ∧ wb_HF n c s sd sf hl t m K x r = true) ↔ (K x = true ∧ r ≠ wb_pr x t ∧ K (wb_wp x t r) = true ∧ ∀ u, 0 ≤ u → u < 3 → wb_ac n c s sd sf u x (wb_wp x t r) m = true) := by
  have hrg := hHL.rg hR
  have hpa := wb_pa_rg (t := t) hHL hR
  have hto : ∀ u, wb_to hl sf t u = true ↔ u = t ∨ ((0 ≤ wb_pa hl sf t ∧ wb_pa hl sf t = hl) ∧ u = hl) := fun u => by
    unfold wb_to; rw [Bool.or_eq_true, Bool.and_eq_true, decide_eq_true_iff, decide_eq_true_iff, decide_eq_true_iff]
  unfold wb_S0 wb_HF wb_LB wb_LO wb_oth
  rw [Bool.and_eq_true, Bool.and_eq_true, Bool.and_eq_true, Bool.and_eq_true, Bool.or_eq_true, Bool.or_eq_true, decide_eq_true_iff, decide_eq_true_iff, decide_eq_true_iff, wb_al3]
  constructor
  · rintro ⟨⟨k1, k2⟩, ⟨⟨k3, k4⟩, k5⟩, k6⟩
    refine ⟨k1, k3, k6, fun u u1 u2 => ?_⟩
    by_cases htu : wb_to hl sf t u = true
    · rcases (hto u).mp htu with e | ⟨⟨e1, e2⟩, e3⟩
      · subst e
        by_cases eh : u = hl
        · have hp : ¬ wb_pa hl sf u < 0 := by unfold wb_pa; rw [if_neg (by omega), if_pos eh]; have := hrg.2 (by omega); omega
          have k7 := k5.resolve_left hp
          unfold wb_LW at k7
          rw [if_pos eh, if_neg hp, show wb_pa hl sf u = sf by unfold wb_pa; rw [if_neg (by omega), if_pos eh]] at k7
          rw [wb_ac_h hR hHL hx ht hr hm eh]; exact k7
        · rw [wb_ac_t hR hHL hx ht hr hm eh rfl]; exact k4.resolve_left eh
      · have hp := hpa.2 e1
        have hne : t ≠ hl := hp.2.2.2.mp e2
        have k7 := k5.resolve_left (by omega)
        unfold wb_LW at k7
        rw [if_neg hne, if_neg (by omega), e2] at k7
        have hsf : t = sf := by rcases hp.2.1 with z | z; (exact absurd z hne); (exact z.2)
        rw [e3, wb_ac_g hR hHL hx ht hr hm hp.1 hne hsf]; exact k7
    · have htu' : wb_to hl sf t u = false := by simpa using htu
      rw [wb_ac_A hR hHL hx ht hr ⟨u1, u2⟩ htu']
      have := k2 u u1 u2
      rw [htu', Bool.false_or] at this; exact this
  · rintro ⟨k1, k3, k6, k7⟩
    refine ⟨⟨k1, fun u u1 u2 => ?_⟩, ⟨⟨k3, ?_⟩, ?_⟩, k6⟩
    · cases htu : wb_to hl sf t u with
      | true => rfl
      | false =>
        rw [Bool.false_or, ← wb_ac_A (m := m) hR hHL hx ht hr ⟨u1, u2⟩ htu]
        exact k7 u u1 u2
    · by_cases eh : t = hl
      · exact Or.inl eh
      · right; rw [← wb_ac_t hR hHL hx ht hr hm eh rfl]; exact k7 t ht.1 ht.2
    · by_cases hp : wb_pa hl sf t < 0
      · exact Or.inl hp
      · right
        have hp2 := hpa.2 (by omega)
        unfold wb_LW
        by_cases eh : t = hl
        · rw [if_pos eh, if_neg hp, show wb_pa hl sf t = sf by unfold wb_pa; rw [if_neg (by omega), if_pos eh], ← wb_ac_h hR hHL hx ht hr hm eh]
          exact k7 t ht.1 ht.2
        · have hsf : t = sf := by rcases hp2.2.1 with z | z; (exact absurd z eh); (exact z.2)
          rw [if_neg eh, if_neg hp, hp2.2.2.2.mpr eh, ← wb_ac_g hR hHL hx ht hr hm hp2.1 eh hsf]
          exact k7 hl hp2.1 (by omega)
end WBS63
