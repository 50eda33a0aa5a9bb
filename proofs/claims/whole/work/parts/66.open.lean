/-! ===== one in tried: counts by keys; the reference's counts ===== -/
theorem wb_sk_zero : ∀ k : Nat, wb_sk (fun _ => 0) k = 0 := by
  intro k
  induction k with
  | zero => rfl
  | succ k ih => rw [wb_sk, ih]; rfl
theorem wb_sk_pt {b v : Int} (hb : 0 ≤ b) : ∀ k : Nat, wb_sk (fun i => if i = b then v else 0) k = if b < k then v else 0 := by
  intro k
  induction k with
  | zero => rw [wb_sk, if_neg (by omega)]
  | succ k ih =>
    rw [wb_sk, ih]
    by_cases h1 : b < k
    · rw [if_pos h1, if_neg (by omega), if_pos (by omega)]; omega
    · by_cases h2 : (k : Int) = b
      · rw [if_neg h1, if_pos h2, if_pos (by omega)]; omega
      · rw [if_neg h1, if_neg h2, if_neg (by omega)]; rfl
theorem wb_sk_key {O P : Int → Bool} {ky : Int → Int} {ke : Nat} : ∀ M : Nat, (∀ x : Int, 0 ≤ x → x < M → 0 ≤ ky x ∧ ky x < ke) → wb_sk (fun k => if P k = true then wb_ct (fun x => O x && decide (ky x = k)) M else 0) ke = wb_ct (fun x => O x && P (ky x)) M := by
  intro M
  induction M with
  | zero =>
    intro _
    show wb_sk _ ke = 0
    rw [show (fun k => if P k = true then wb_ct (fun x => O x && decide (ky x = k)) 0 else 0) = fun _ => (0 : Int) from funext (fun k => by split <;> rfl), wb_sk_zero]
  | succ M ih =>
    intro hk
    have hM := hk M (by omega) (by omega)
    rw [wb_ct, ← ih (fun x x1 x2 => hk x x1 (by omega))]
    have e : ∀ k : Int, (if P k = true then wb_ct (fun x => O x && decide (ky x = k)) (M + 1) else 0) = (if P k = true then wb_ct (fun x => O x && decide (ky x = k)) M else 0) + (if k = ky M then (if (O M && P (ky M)) = true then 1 else 0) else 0) := fun k => by
      rw [wb_ct]
      by_cases e : k = ky M
      · subst e
        rw [if_pos rfl, decide_eq_true rfl, Bool.and_true]
        cases P (ky M) <;> cases O M <;> simp
      · rw [if_neg e, decide_eq_false (fun q => e q.symm), Bool.and_false]
        cases P k <;> simp
    rw [show (fun k => if P k = true then wb_ct (fun x => O x && decide (ky x = k)) (M + 1) else 0) = fun k => (if P k = true then wb_ct (fun x => O x && decide (ky x = k)) M else 0) + (if k = ky M then (if (O M && P (ky M)) = true then 1 else 0) else 0) from funext e, wb_sk_add, wb_sk_pt hM.1, if_pos hM.2]
theorem wb_VP_gk {n : Int} {c s : Int → Int} {sd sf t m v sl tr a o k : Int} (hR : wb_BR n c s sd sf) (hm : 0 ≤ m ∧ m < n) (ha : 0 ≤ a ∧ a < 25) (ek : k = a + 25 * o) (htr : -9 ≤ tr ∧ tr ≤ 1000) (hv : (0 ≤ tr ∧ v = tr ∧ sl = 0) ∨ (tr < 0 ∧ v = c (9 * m + t) - tr ∧ sl = c (9 * m + 3))) : wb_VP n c s sd sf t m v sl k ↔ wb_gk c s sd sf 0 0 m t tr t a a o o 0 n.toNat = true := by
  subst ek
  have hs0 := hR.2.2.1 (4 * t)
  have hs2 := hR.2.2.1 (4 * t + 2)
  have hs3 := hR.2.2.1 (4 * t + 3)
  have hs8 := hR.2.2.2.2.2.2.2.1 t
  have c1 := hR.2.1 (9 * m + t)
  have c3 := hR.2.1 (9 * m + 3)
  have ha1 := wb_ah_sp (t := t) (k := a + 25 * o) (m := m) hR
  have hb1 := wb_on_sp (t := t) (k := a + 25 * o) (m := m + 1) hR
  have eca : wb_ca c m t tr t m = v := by unfold wb_ca; rw [if_pos ⟨rfl, rfl⟩]; split <;> omega
  have egi : wb_gi c 0 m t tr t m = sl := by unfold wb_gi; rw [if_pos ⟨rfl, rfl⟩]; split <;> omega
  have erl : wb_rl c 0 0 m t tr t m = if v < sl then 0 else v - sl := by unfold wb_rl; rw [wb_bt0, if_neg (by decide), eca, egi]
  have erm : wb_rm2 c 0 0 m t tr t m = v + sl := by unfold wb_rm2; rw [wb_bt0, if_neg (by decide), eca, egi]
  have hvs : 0 ≤ v ∧ 0 ≤ sl := by omega
  have hoth : ∀ j : Int, j ≠ m → wb_rl c 0 0 m t tr t j = wb_le c t 0 0 j ∧ wb_rm2 c 0 0 m t tr t j = wb_mt c t 0 0 j := fun j hj => wb_rl_le (fun q => hj q.1)
  have hlm : ∀ j : Int, 0 ≤ j → wb_rl c 0 0 m t tr t j ≤ wb_rm2 c 0 0 m t tr t j := fun j _ => by
    by_cases e : j = m
    · subst e; rw [erl, erm]; split <;> omega
    · rw [(hoth j e).1, (hoth j e).2]; exact wb_le_mt hR
  have hnn : ∀ j : Int, 0 ≤ j → wb_nn2 c sd sf t a a o o 0 j = wb_kn c sd sf t (a + 25 * o) j := fun j j0 => by
    rw [wb_kn_ab ha]; unfold wb_nn2; rw [if_neg (by omega)]
  have ef := wb_rn_congr (le := wb_rl c 0 0 m t tr t) (mo := wb_rm2 c 0 0 m t tr t) (le' := wb_le c t 0 0) (mo' := wb_mt c t 0 0) (nd := wb_nn2 c sd sf t a a o o 0) (nd' := fun m => wb_kn c sd sf t (a + 25 * o) m) (ho := s (4 * t + 2)) (lo := s (4 * t + 3)) (L0 := s (4 * t)) (H0 := s (4 * t + 1)) m.toNat (fun j j1 j2 => ⟨(hoth j (by omega)).1, (hoth j (by omega)).2, hnn j j1⟩)
  have hme := wb_meet (le := wb_rl c 0 0 m t tr t) (mo := wb_rm2 c 0 0 m t tr t) (nd := wb_nn2 c sd sf t a a o o 0) (le' := wb_le c t 0 0) (mo' := wb_mt c t 0 0) (nd' := fun m => wb_kn c sd sf t (a + 25 * o) m) (ho := s (4 * t + 2)) (lo := s (4 * t + 3)) (L0 := s (4 * t)) (H0 := s (4 * t + 1)) (n := n) ⟨hs0.1, hs8.1, by omega⟩ (by omega) (by omega) hlm (n - (m + 1)).toNat (m.toNat + 1) (by omega) (by omega) (fun j j1 j2 => ⟨(hoth j (by omega)).1.symm, (hoth j (by omega)).2.symm, (hnn j (by omega)).symm⟩)
  rw [show m.toNat + 1 + (n - (m + 1)).toNat = n.toNat by omega] at hme
  have egk : wb_gk c s sd sf 0 0 m t tr t a a o o 0 n.toNat = wb_ok (wb_rl c 0 0 m t tr t) (wb_rm2 c 0 0 m t tr t) (s (4 * t + 2)) (s (4 * t + 3)) (wb_nn2 c sd sf t a a o o 0) (s (4 * t)) (s (4 * t + 1)) n.toNat := rfl
  have er : wb_rn (wb_rl c 0 0 m t tr t) (wb_rm2 c 0 0 m t tr t) (s (4 * t + 2)) (s (4 * t + 3)) (wb_nn2 c sd sf t a a o o 0) (s (4 * t)) (s (4 * t + 1)) (m.toNat + 1) = (wb_c0 ((wb_rn (wb_le c t 0 0) (wb_mt c t 0 0) (s (4 * t + 2)) (s (4 * t + 3)) (fun m => wb_kn c sd sf t (a + 25 * o) m) (s (4 * t)) (s (4 * t + 1)) m.toNat).1 + wb_rl c 0 0 m t tr t m - wb_kn c sd sf t (a + 25 * o) m - s (4 * t + 3)), wb_cx (s (4 * t + 2)) ((wb_rn (wb_le c t 0 0) (wb_mt c t 0 0) (s (4 * t + 2)) (s (4 * t + 3)) (fun m => wb_kn c sd sf t (a + 25 * o) m) (s (4 * t)) (s (4 * t + 1)) m.toNat).2 + wb_rm2 c 0 0 m t tr t m - wb_kn c sd sf t (a + 25 * o) m)) := by
    rw [wb_rn, ef.1, show ((m.toNat : Nat) : Int) = m by omega, hnn m hm.1]
  have eo : wb_ok (wb_rl c 0 0 m t tr t) (wb_rm2 c 0 0 m t tr t) (s (4 * t + 2)) (s (4 * t + 3)) (wb_nn2 c sd sf t a a o o 0) (s (4 * t)) (s (4 * t + 1)) (m.toNat + 1) = (wb_ok (wb_rl c 0 0 m t tr t) (wb_rm2 c 0 0 m t tr t) (s (4 * t + 2)) (s (4 * t + 3)) (wb_nn2 c sd sf t a a o o 0) (s (4 * t)) (s (4 * t + 1)) m.toNat && decide ((wb_rn (wb_rl c 0 0 m t tr t) (wb_rm2 c 0 0 m t tr t) (s (4 * t + 2)) (s (4 * t + 3)) (wb_nn2 c sd sf t a a o o 0) (s (4 * t)) (s (4 * t + 1)) (m.toNat + 1)).1 ≤ (wb_rn (wb_rl c 0 0 m t tr t) (wb_rm2 c 0 0 m t tr t) (s (4 * t + 2)) (s (4 * t + 3)) (wb_nn2 c sd sf t a a o o 0) (s (4 * t)) (s (4 * t + 1)) (m.toNat + 1)).2)) := rfl
  rw [egk, hme, eo, Bool.and_eq_true, decide_eq_true_iff, er, ef.2]
  dsimp only
  unfold wb_VP wb_cd wb_lea wb_mos
  have hml := hlm m hm.1
  clear hme eo er egk ef hnn hlm hoth eca egi
  generalize wb_AH c s sd sf t (a + 25 * o) m = X at ha1 ⊢
  generalize wb_ON n c s sd sf t (a + 25 * o) (m + 1) = Y at hb1 ⊢
  generalize wb_kn c sd sf t (a + 25 * o) m = nd
  rw [← ha1.1, ← hb1.1]
  have hok := fun q => wb_ok_rg (le := wb_le c t 0 0) (mo := wb_mt c t 0 0) (lo := s (4 * t + 3)) (nd := fun m => wb_kn c sd sf t (a + 25 * o) m) (L0 := s (4 * t)) (H0 := s (4 * t + 1)) (ho := s (4 * t + 2)) ⟨hs0.1, hs8.1, by omega⟩ (by omega) m.toNat (ha1.1.mp q)
  have hbk := fun q => wb_bo_rg (le := wb_le c t 0 0) (mo := wb_mt c t 0 0) (lo := s (4 * t + 3)) (nd := fun m => wb_kn c sd sf t (a + 25 * o) m) (n := n) (ho := s (4 * t + 2)) (by omega) (n - (m + 1)).toNat (hb1.1.mp q)
  have hbh := wb_br_ho (le := wb_le c t 0 0) (mo := wb_mt c t 0 0) (ho := s (4 * t + 2)) (lo := s (4 * t + 3)) (nd := fun m => wb_kn c sd sf t (a + 25 * o) m) (n := n) (n - (m + 1)).toNat
  have ha2 := ha1.2
  have hb2 := hb1.2
  clear ha1 hb1
  generalize wb_rn (wb_le c t 0 0) (wb_mt c t 0 0) (s (4 * t + 2)) (s (4 * t + 3)) (fun m => wb_kn c sd sf t (a + 25 * o) m) (s (4 * t)) (s (4 * t + 1)) m.toNat = RN at ha2 hok ⊢
  generalize wb_br (wb_le c t 0 0) (wb_mt c t 0 0) (s (4 * t + 2)) (s (4 * t + 3)) (fun m => wb_kn c sd sf t (a + 25 * o) m) n (n - (m + 1)).toNat = BR at hb2 hbk hbh ⊢
  obtain ⟨L, H⟩ := RN
  obtain ⟨bl, bh⟩ := BR
  dsimp only at ha2 hok hb2 hbk hbh ⊢
  rw [erl, erm] at hml ⊢
  generalize s (4 * t + 2) = ho at hs2 hbh ⊢
  generalize s (4 * t + 3) = lo at hs3 ⊢
  constructor
  · rintro ⟨⟨q1, q2, q3⟩, q4, q5⟩
    have u1 := ha2 q1
    have u2 := hb2 q2
    have u3 := hok q1
    have u4 := hbk q2
    have := (wb_meetB (nd := nd) (lo := lo) ⟨u3.1, u3.2.1⟩ hml (by omega) ⟨u4.1, u4.2.1, hbh⟩).mpr (by split <;> omega)
    exact ⟨⟨q1, this.1⟩, q2, this.2⟩
  · rintro ⟨⟨q1, q2⟩, q3, q4⟩
    have q3' := q3
    have u1 := ha2 q1
    have u2 := hb2 q3'
    have u3 := hok q1
    have u4 := hbk q3'
    have := (wb_meetB (nd := nd) (lo := lo) ⟨u3.1, u3.2.1⟩ hml (by omega) ⟨u4.1, u4.2.1, hbh⟩).mp ⟨q2, q4⟩
    refine ⟨⟨q1, q3', ?_⟩, ?_, ?_⟩
    · split at this <;> omega
    · split at this <;> omega
    · split at this <;> omega
/-- a mixture goes on with one in tried -/
def wb_tk (n : Int) (c s : Int → Int) (sd sf m t tr x : Int) : Bool := wb_gk c s sd sf 0 0 m t tr t (wb_pr x t) (wb_pr x t) (if t = sd then wb_pr x sf else 0) (if t = sd then wb_pr x sf else 0) 0 n.toNat
def wb_k2 (sd sf t x : Int) : Int := 25 * wb_pr x t + (if t = sd then wb_pr x sf else 0)
theorem wb_k2_rg {sd sf t x : Int} (hx : 0 ≤ x) : 0 ≤ wb_k2 sd sf t x ∧ wb_k2 sd sf t x < 625 ∧ wb_k2 sd sf t x / 25 = wb_pr x t ∧ wb_k2 sd sf t x % 25 = if t = sd then wb_pr x sf else 0 := by
  have a := wb_pr_rg (x := x) (t := t) hx
  have b := wb_pr_rg (x := x) (t := sf) hx
  unfold wb_k2
  split <;> omega
theorem wb_CN_ct {n : Int} {c s : Int → Int} {sd sf t m v sl tr hl : Int} {K : Int → Bool} (hR : wb_BR n c s sd sf) (hHL : wb_HL hl n c sd sf) (ht : 0 ≤ t ∧ t < 3) (hm : 0 ≤ m ∧ m < n) (htr : -9 ≤ tr ∧ tr ≤ 1000) (hv : (0 ≤ tr ∧ v = tr ∧ sl = 0) ∨ (tr < 0 ∧ v = c (9 * m + t) - tr ∧ sl = c (9 * m + 3))) : wb_CN n c s sd sf K hl t m v sl = wb_ct (fun x => wb_OO n c s sd sf K t x && wb_tk n c s sd sf m t tr x) 15625 := by
  have hrg := hHL.rg hR
  have e1 : wb_CN n c s sd sf K hl t m v sl = wb_sk (fun k => if decide (wb_VP n c s sd sf t m v sl k) = true then wb_ct (fun x => wb_OO n c s sd sf K t x && decide (wb_ky hl sf t x = k)) 15625 else 0) (wb_cr hl t) := by
    unfold wb_CN wb_cn wb_wg
    refine wb_sk_congr _ (fun k _ _ => ?_)
    by_cases q : wb_VP n c s sd sf t m v sl k
    · rw [if_pos q, if_pos (decide_eq_true q)]
    · rw [if_neg q, if_neg (by rw [decide_eq_false q]; decide)]
  rw [e1, wb_sk_key 15625 (fun x x1 x2 => ?_)]
  · refine wb_ct_congr _ (fun x x1 x2 => ?_)
    congr 1
    have a := wb_pr_rg (x := x) (t := t) x1
    apply wb_not_iff
    rw [decide_eq_true_iff, wb_VP_gk (k := wb_ky hl sf t x) (a := wb_pr x t) (o := if wb_gu hl sf t < 0 then 0 else wb_pr x (wb_gu hl sf t)) (tr := tr) hR hm (by omega) rfl htr hv]
    unfold wb_tk
    by_cases e : t = hl
    · have := hrg.2 (by omega)
      rw [show wb_gu hl sf t = sf from if_pos e, if_neg (by omega), if_pos (by omega)]
    · rw [wb_gk_o (o1' := if t = sd then wb_pr x sf else 0) (o2' := if t = sd then wb_pr x sf else 0) hHL ht.1 e]
  · have a := wb_pr_rg (x := x) (t := t) x1
    have b := wb_pr_rg (x := x) (t := sf) x1
    unfold wb_ky wb_gu wb_cr
    by_cases e : t = hl
    · have := hrg.2 (by omega)
      rw [if_pos e, if_pos e, if_neg (by omega)]; omega
    · rw [if_neg e, if_neg e, if_pos (by omega)]; omega
section WBS66
variable {G : wb_G} {N : Nat} {w : wb_W} {Q : Option Value → Nat → wb_W → Prop}
variable {n sd sf cnt ru ld mo db tm tt tr L H fi ch : Int} {c s sg rs im ik ag kp op : Int → Int} {K : Int → Bool}
theorem sp_X12_layOpen {t : Int} (hrf : wb_Rf w n sd sf cnt ru ld 0 0 tm tt tr L H fi ch) (h101 : w 101 = aZ 1875 ag) (hag : wb_AG ag n c s sd sf 0 0) (h102 : w 102 = aZ 15625 kp) (hkp : ∀ x, 0 ≤ x → x < 15625 → kp x = wb_b2 (K x)) (h105 : w 105 = aI 625 op) (hR : wb_BR n c s sd sf) (ht : 0 ≤ t ∧ t < 3)
    (hQ : ∀ (w' : wb_W) (op' : Int → Int), (∀ j, 0 ≤ j → j < 625 → op' j = wb_ct (fun x => wb_OO n c s sd sf K t x && decide (wb_k2 sd sf t x = j)) 15625) → w' 105 = aI 625 op' → (∀ k, k ≠ 105 → w' k = w k) → Q none N w') : wb_M G M_X12_layOpen [.ref 96, .int (wb_i t)] N w Q := by
  unfold wb_M
  have hrf' := hrf
  unfold wb_Rf at hrf'
  have g1 := wb_n6_rg hR.2.2.2.1
  have e1 := wb_n6s (z := sd) ht.1
  have r9 := hR.2.2.2.2.2.2.2.2
  have r5 := hR.2.2.2.2.1
  have e2 : 0 ≤ sf → wb_n6 sf = sf := fun q => if_neg (by omega)
  have lpX : ∀ x, x ≤ 15625 → ∀ (w1 : wb_W) (op1 : Int → Int), 0 ≤ x → (∀ j, 0 ≤ j → j < 625 → op1 j = wb_ct (fun x => wb_OO n c s sd sf K t x && decide (wb_k2 sd sf t x = j)) x.toNat) → w1 105 = aI 625 op1 → (∀ k, k ≠ 105 → w1 k = w k) → wb_V G M_X12_layOpen 24 [(0, .ref 96), (1, .int (wb_i t)), (2, .int (wb_i x))] [] N w1 0 0 Q := by
    refine wb_up 15625 _ ?_
    intro x ih hx w1 op1 hx0 hop h1051 ef
    have x96 := (ef 96 (by omega)).trans hrf'
    have hrf1 : wb_Rf w1 n sd sf cnt ru ld 0 0 tm tt tr L H fi ch := (ef 96 (by omega)).trans hrf
    have hk2 := wb_k2_rg (sd := sd) (sf := sf) (t := t) hx0
    have hst := fun j => wb_ct_s (F := fun x => wb_OO n c s sd sf K t x && decide (wb_k2 sd sf t x = j)) hx0
    have tz : x < 15625 → ∀ z : Int, z = wb_b2 (wb_OO n c s sd sf K t x) → wb_V G M_X12_layOpen 79 [(0, .ref 96), (1, .int (wb_i t)), (2, .int (wb_i x)), (3, .int (wb_i z))] [] N w1 0 0 Q := by
      intro hx5 z hz
      have hz01 : z = 0 ∨ z = 1 := by rw [hz]; exact wb_b2_rg _
      have ty : wb_V G M_X12_layOpen 112 [(0, .ref 96), (1, .int (wb_i t)), (2, .int (wb_i x)), (3, .int (wb_i z))] [.int (wb_i (wb_k2 sd sf t x)), .ref 105] N w1 0 0 Q := by
        have fin : ∀ d : Int, d = z → wb_V G M_X12_layOpen 123 [(0, .ref 96), (1, .int (wb_i t)), (2, .int (wb_i x))] [.int (wb_i d), .int (wb_i (op1 (wb_k2 sd sf t x))), .int (wb_i (wb_k2 sd sf t x)), .ref 105] N w1 0 0 Q := by
          intro d hd
          refine vi_iadd 68 rfl ?_
          refine vi_iast 69 rfl h1051 (by omega) ?_
          refine vi_iinc 70 rfl rfl rfl ?_
          refine vi_goto 71 rfl ?_
          refine vi_lc (ih (x + 1) (by omega) (by omega) _ _ (by omega) (fun j j1 j2 => ?_) wb_ups (fun k hk => by rw [wb_upn hk]; exact ef k hk)) ⟨rfl, rfl, rfl, trivial⟩
          rw [hst j]
          by_cases e : j = wb_k2 sd sf t x
          · rw [e, wb_us, hop _ hk2.1 hk2.2.1, hd, hz]; congr 1; rw [decide_eq_true rfl, Bool.and_true]; cases wb_OO n c s sd sf K t x <;> rfl
          · rw [wb_un e, hop j j1 j2, decide_eq_false (fun q => e q.symm), Bool.and_false]; simp
        refine vi_dup2 61 rfl rfl rfl ?_
        refine vi_iald 62 rfl h1051 (by omega) ?_
        refine vi_iload_n 63 rfl rfl ?_
        refine vi_if_eq 64 rfl (by omega) (fun c_115 => ?_) (fun c_115 => ?_)
        · refine vi_iconst 67 rfl ?_
          first | exact vi_lc (fin 1 (by omega)) ⟨rfl, rfl, rfl, trivial⟩ | exact vi_lc (fin 0 (by omega)) ⟨rfl, rfl, rfl, trivial⟩
        · refine vi_iconst 65 rfl ?_
          refine vi_goto 66 rfl ?_
          first | exact vi_lc (fin 1 (by omega)) ⟨rfl, rfl, rfl, trivial⟩ | exact vi_lc (fin 0 (by omega)) ⟨rfl, rfl, rfl, trivial⟩
      by_cases hts : t = sd
      · have hsf := r9 (by omega)
        have ek : 25 * wb_pr x t + wb_pr x sf = wb_k2 sd sf t x := by unfold wb_k2; rw [if_pos hts]
        refine vi_aload_n 43 rfl rfl ?_
        refine vi_get 44 rfl f_X12_47 x96 rfl rfl ?_
        refine vi_bipush 45 rfl (by decide) ?_
        refine vi_iload_n 46 rfl rfl ?_
        refine vi_iload_n 47 rfl rfl ?_
        refine vi_S2 48 ok_X12_amount rfl c_X12_127 rfl ?_
        refine sp_X12_amount (by omega) (by omega) ?_
        refine vi_imul 49 rfl ?_
        refine vi_iload_n 50 rfl rfl ?_
        refine vi_aload_n 51 rfl rfl ?_
        refine vi_get 52 rfl f_X12_16 x96 rfl rfl ?_
        refine vi_icmp_ne 53 rfl (by omega) (by omega) (fun c_96 => by exfalso; have := e1.mpr hts; omega) (fun c_96 => ?_)
        refine vi_iload_n 54 rfl rfl ?_
        refine vi_aload_n 55 rfl rfl ?_
        refine vi_get 56 rfl f_X12_20 x96 rfl rfl ?_
        rw [e2 hsf.1]
        refine vi_S2 57 ok_X12_amount rfl c_X12_127 rfl ?_
        refine sp_X12_amount (by omega) (by omega) ?_
        refine vi_goto 58 rfl ?_
        refine vi_iadd 60 rfl ?_
        rw [ek]
        exact vi_lc ty ⟨rfl, rfl, rfl, rfl, trivial⟩
      · have ek : 25 * wb_pr x t + 0 = wb_k2 sd sf t x := by unfold wb_k2; rw [if_neg hts]
        refine vi_aload_n 43 rfl rfl ?_
        refine vi_get 44 rfl f_X12_47 x96 rfl rfl ?_
        refine vi_bipush 45 rfl (by decide) ?_
        refine vi_iload_n 46 rfl rfl ?_
        refine vi_iload_n 47 rfl rfl ?_
        refine vi_S2 48 ok_X12_amount rfl c_X12_127 rfl ?_
        refine sp_X12_amount (by omega) (by omega) ?_
        refine vi_imul 49 rfl ?_
        refine vi_iload_n 50 rfl rfl ?_
        refine vi_aload_n 51 rfl rfl ?_
        refine vi_get 52 rfl f_X12_16 x96 rfl rfl ?_
        refine vi_icmp_ne 53 rfl (by omega) (by omega) (fun c_96 => ?_) (fun c_96 => by exfalso; have := e1.mp (by omega); omega)
        refine vi_iconst 59 rfl ?_
        refine vi_iadd 60 rfl ?_
        rw [ek]
        exact vi_lc ty ⟨rfl, rfl, rfl, rfl, trivial⟩
    have lpU : x < 15625 → ∀ u, u ≤ 3 → ∀ z : Int, 0 ≤ u → z = wb_b2 (K x && wb_al (fun u => decide (u = t) || wb_A n c s sd sf 0 0 u x) u.toNat) → wb_V G M_X12_layOpen 41 [(0, .ref 96), (1, .int (wb_i t)), (2, .int (wb_i x)), (3, .int (wb_i z)), (4, .int (wb_i u))] [] N w1 0 0 Q := by
      intro hx5
      refine wb_up 3 _ ?_
      intro u jh hu z hu0 hz
      have hz01 : z = 0 ∨ z = 1 := by rw [hz]; exact wb_b2_rg _
      have hal : wb_al (fun u => decide (u = t) || wb_A n c s sd sf 0 0 u x) (u + 1).toNat = (wb_al (fun u => decide (u = t) || wb_A n c s sd sf 0 0 u x) u.toNat && (decide (u = t) || wb_A n c s sd sf 0 0 u x)) := by
        rw [show (u + 1).toNat = u.toNat + 1 by omega, wb_al, show ((u.toNat : Nat) : Int) = u by omega]
      cases hB : (K x && wb_al (fun u => decide (u = t) || wb_A n c s sd sf 0 0 u x) u.toNat) with
      | false =>
        rw [hB] at hz
        have hz0 : z = 0 := hz
        have hoo : wb_OO n c s sd sf K t x = false := by
          cases hh : wb_OO n c s sd sf K t x with
          | false => rfl
          | true =>
            obtain ⟨q1, q2⟩ := wb_and hh
            rw [q1, wb_al_imp (by omega) q2] at hB; cases hB
        refine vi_iload 24 rfl rfl ?_
        refine vi_iconst 25 rfl ?_
        refine vi_icmp_ge 26 rfl (by omega) (by omega) (fun c_44 => ?_) (fun c_44 => ?_)
        · exact vi_lc (tz hx5 z (by rw [hoo]; exact hz0)) ⟨rfl, rfl, rfl, rfl, trivial⟩
        · refine vi_iload_n 27 rfl rfl ?_
          refine vi_if_eq 28 rfl (by omega) (fun c_48 => ?_) (fun c_48 => by exfalso; omega)
          exact vi_lc (tz hx5 z (by rw [hoo]; exact hz0)) ⟨rfl, rfl, rfl, rfl, trivial⟩
      | true =>
        rw [hB] at hz
        have hz1 : z = 1 := hz
        obtain ⟨q1, q2⟩ := wb_and hB
        rw [q2, Bool.true_and] at hal
        have e3 : u = 3 → wb_OO n c s sd sf K t x = true := fun q => by
          unfold wb_OO; rw [q1, Bool.true_and]; rw [q] at q2; exact q2
        refine vi_iload 24 rfl rfl ?_
        refine vi_iconst 25 rfl ?_
        refine vi_icmp_ge 26 rfl (by omega) (by omega) (fun c_44 => ?_) (fun c_44 => ?_)
        · exact vi_lc (tz hx5 z (by rw [e3 (by omega)]; exact hz1)) ⟨rfl, rfl, rfl, rfl, trivial⟩
        · refine vi_iload_n 27 rfl rfl ?_
          refine vi_if_eq 28 rfl (by omega) (fun c_48 => by exfalso; omega) (fun c_48 => ?_)
          refine vi_iload 29 rfl rfl ?_
          refine vi_iload_n 30 rfl rfl ?_
          refine vi_icmp_eq 31 rfl (by omega) (by omega) (fun c_54 => ?_) (fun c_54 => ?_)
          · refine vi_iconst 37 rfl ?_
            refine vi_goto 38 rfl ?_
            refine vi_istore_n 40 rfl rfl ?_
            refine vi_iinc 41 rfl rfl rfl ?_
            refine vi_goto 42 rfl ?_
            first | exact vi_lc (jh (u + 1) (by omega) (by omega) 1 (by omega) (by rw [hal, q1, b_61, Bool.or_true]; rfl)) ⟨rfl, rfl, rfl, rfl, rfl, trivial⟩ | exact vi_lc (jh (u + 1) (by omega) (by omega) 0 (by omega) (by rw [hal, b_61, decide_eq_false (show ¬ u = t by omega), q1]; rfl)) ⟨rfl, rfl, rfl, rfl, rfl, trivial⟩ | exact vi_lc (jh (u + 1) (by omega) (by omega) 1 (by omega) (by rw [hal, decide_eq_true (show u = t by omega), q1]; rfl)) ⟨rfl, rfl, rfl, rfl, rfl, trivial⟩
          · refine vi_aload_n 32 rfl rfl ?_
            refine vi_iload_n 33 rfl rfl ?_
            refine vi_iload 34 rfl rfl ?_
            refine vi_V2 35 ok_X12_agreesWith rfl c_X12_138 x96 rfl rfl ?_
            refine sp_X12_agreesWith hrf1 ((ef 101 (by omega)).trans h101) hag hR (by omega) (by omega) (fun b_61 => ?_) (fun b_61 => ?_)
            · refine vi_if_eq 36 rfl (by omega) (fun c => absurd c (by decide)) (fun _ => ?_)
              refine vi_iconst 37 rfl ?_
              refine vi_goto 38 rfl ?_
              refine vi_istore_n 40 rfl rfl ?_
              refine vi_iinc 41 rfl rfl rfl ?_
              refine vi_goto 42 rfl ?_
              first | exact vi_lc (jh (u + 1) (by omega) (by omega) 1 (by omega) (by rw [hal, q1, b_61, Bool.or_true]; rfl)) ⟨rfl, rfl, rfl, rfl, rfl, trivial⟩ | exact vi_lc (jh (u + 1) (by omega) (by omega) 0 (by omega) (by rw [hal, b_61, decide_eq_false (show ¬ u = t by omega), q1]; rfl)) ⟨rfl, rfl, rfl, rfl, rfl, trivial⟩ | exact vi_lc (jh (u + 1) (by omega) (by omega) 1 (by omega) (by rw [hal, decide_eq_true (show u = t by omega), q1]; rfl)) ⟨rfl, rfl, rfl, rfl, rfl, trivial⟩
            · refine vi_if_eq 36 rfl (by omega) (fun _ => ?_) (fun c => absurd c (by decide))
              refine vi_iconst 39 rfl ?_
              refine vi_istore_n 40 rfl rfl ?_
              refine vi_iinc 41 rfl rfl rfl ?_
              refine vi_goto 42 rfl ?_
              first | exact vi_lc (jh (u + 1) (by omega) (by omega) 1 (by omega) (by rw [hal, q1, b_61, Bool.or_true]; rfl)) ⟨rfl, rfl, rfl, rfl, rfl, trivial⟩ | exact vi_lc (jh (u + 1) (by omega) (by omega) 0 (by omega) (by rw [hal, b_61, decide_eq_false (show ¬ u = t by omega), q1]; rfl)) ⟨rfl, rfl, rfl, rfl, rfl, trivial⟩ | exact vi_lc (jh (u + 1) (by omega) (by omega) 1 (by omega) (by rw [hal, decide_eq_true (show u = t by omega), q1]; rfl)) ⟨rfl, rfl, rfl, rfl, rfl, trivial⟩
    refine vi_iload_n 14 rfl rfl ?_
    refine vi_sipush 15 rfl (by decide) ?_
    refine vi_icmp_ge 16 rfl (by omega) (by omega) (fun c_28 => ?_) (fun c_28 => ?_)
    · exact vi_return 72 rfl rfl (Nat.zero_le _) (Nat.zero_le _) (hQ w1 op1 (fun j j1 j2 => by rw [hop j j1 j2, show x.toNat = 15625 by omega]) h1051 ef)
    · refine vi_aload_n 17 rfl rfl ?_
      refine vi_get 18 rfl f_X12_36 x96 rfl rfl ?_
      refine vi_iload_n 19 rfl rfl ?_
      refine vi_zald 20 rfl ((ef 102 (by omega)).trans h102) (by omega) ?_
      refine vi_istore_n 21 rfl rfl ?_
      refine vi_iconst 22 rfl ?_
      refine vi_istore 23 rfl rfl ?_
      exact vi_lc (lpU (by omega) 0 (by omega) _ (by omega) (by rw [hkp x hx0 (by omega)]; congr 1; exact (Bool.and_true _).symm)) ⟨rfl, rfl, rfl, rfl, rfl, trivial⟩
  have lpA : ∀ k, k ≤ 625 → ∀ (w1 : wb_W) (op1 : Int → Int), 0 ≤ k → (∀ j, 0 ≤ j → j < k → op1 j = 0) → w1 105 = aI 625 op1 → (∀ k, k ≠ 105 → w1 k = w k) → wb_V G M_X12_layOpen 2 [(0, .ref 96), (1, .int (wb_i t)), (2, .int (wb_i k))] [] N w1 0 0 Q := by
    refine wb_up 625 _ ?_
    intro k ih hk w1 op1 hk0 hz h1051 ef
    have x96 := (ef 96 (by omega)).trans hrf'
    refine vi_iload_n 2 rfl rfl ?_
    refine vi_sipush 3 rfl (by decide) ?_
    refine vi_icmp_ge 4 rfl (by omega) (by omega) (fun c_6 => ?_) (fun c_6 => ?_)
    · refine vi_iconst 12 rfl ?_
      refine vi_istore_n 13 rfl rfl ?_
      exact vi_lc (lpX 0 (by omega) w1 op1 (by omega) (fun j j1 j2 => hz j j1 (by omega)) h1051 ef) ⟨rfl, rfl, rfl, trivial⟩
    · refine vi_aload_n 5 rfl rfl ?_
      refine vi_get 6 rfl f_X12_47 x96 rfl rfl ?_
      refine vi_iload_n 7 rfl rfl ?_
      refine vi_iconst 8 rfl ?_
      refine vi_iast 9 rfl h1051 (by omega) ?_
      refine vi_iinc 10 rfl rfl rfl ?_
      refine vi_goto 11 rfl ?_
      exact vi_lc (ih (k + 1) (by omega) (by omega) _ _ (by omega) (fun j j1 j2 => by (by_cases e : j = k; (rw [e, wb_us]); (rw [wb_un e]; exact hz j j1 (by omega)))) wb_ups (fun q hq => by rw [wb_upn hq]; exact ef q hq)) ⟨rfl, rfl, rfl, trivial⟩
  refine vi_iconst 0 rfl ?_
  refine vi_istore_n 1 rfl rfl ?_
  exact vi_lc (lpA 0 (by omega) w op (by omega) (fun j j1 j2 => by omega) h105 (fun _ _ => rfl)) ⟨rfl, rfl, rfl, trivial⟩
theorem sp_X12_countTried {t : Int} (hrf : wb_Rf w n sd sf cnt ru ld 0 0 tm t tr L H fi ch) (h97 : w 97 = aI 72 c) (h98 : w 98 = aI 12 s) (h105 : w 105 = aI 625 op) (hop : ∀ j, 0 ≤ j → j < 625 → op j = wb_ct (fun x => wb_OO n c s sd sf K t x && decide (wb_k2 sd sf t x = j)) 15625) (hR : wb_BR n c s sd sf) (htm : -10 ≤ tm ∧ tm ≤ 10) (htr : -9 ≤ tr ∧ tr ≤ 1000) (ht : 0 ≤ t ∧ t < 3)
    (hQ : ∀ (w' : wb_W) (L' H' : Int), wb_Rf w' n sd sf cnt ru ld 0 0 tm t tr L' H' fi ch → (∀ k, k ≠ 96 → w' k = w k) → Q (some (.int (wb_i (wb_ct (fun x => wb_OO n c s sd sf K t x && wb_tk n c s sd sf tm t tr x) 15625)))) N w') : wb_M G M_X12_countTried [.ref 96, .int (wb_i t)] N w Q := by
  unfold wb_M
  have hn := hR.1
  have key : wb_sk (fun k => if wb_gk c s sd sf 0 0 tm t tr t (k / 25) (k / 25) (k % 25) (k % 25) 0 n.toNat = true then op k else 0) 625 = wb_ct (fun x => wb_OO n c s sd sf K t x && wb_tk n c s sd sf tm t tr x) 15625 := by
    have e := wb_sk_key (O := wb_OO n c s sd sf K t) (P := fun k => wb_gk c s sd sf 0 0 tm t tr t (k / 25) (k / 25) (k % 25) (k % 25) 0 n.toNat) (ky := wb_k2 sd sf t) (ke := 625) 15625 (fun x x1 x2 => by have := wb_k2_rg (sd := sd) (sf := sf) (t := t) x1; omega)
    rw [← wb_ct_congr (p := fun x => wb_OO n c s sd sf K t x && (fun k => wb_gk c s sd sf 0 0 tm t tr t (k / 25) (k / 25) (k % 25) (k % 25) 0 n.toNat) (wb_k2 sd sf t x)) 15625 (fun x x1 x2 => ?_), ← e]
    · refine wb_sk_congr 625 (fun k k1 k2 => ?_)
      rw [hop k k1 (by omega)]
    · have := wb_k2_rg (sd := sd) (sf := sf) (t := t) x1
      dsimp only
      rw [this.2.2.1, this.2.2.2]; rfl
  have lp : ∀ k, k ≤ 625 → ∀ (w1 : wb_W) (L1 H1 v : Int), 0 ≤ k → v = wb_sk (fun k => if wb_gk c s sd sf 0 0 tm t tr t (k / 25) (k / 25) (k % 25) (k % 25) 0 n.toNat = true then op k else 0) k.toNat → wb_Rf w1 n sd sf cnt ru ld 0 0 tm t tr L1 H1 fi ch → (∀ k, k ≠ 96 → w1 k = w k) → wb_V G M_X12_countTried 4 [(0, .ref 96), (1, .int (wb_i t)), (2, .int (wb_i v)), (3, .int (wb_i k))] [] N w1 0 0 Q := by
    refine wb_up 625 _ ?_
    intro k ih hk w1 L1 H1 v hk0 hv hrf1 ef
    have hrf1' := hrf1
    unfold wb_Rf at hrf1'
    have hst := wb_sk_s (f := fun k => if wb_gk c s sd sf 0 0 tm t tr t (k / 25) (k / 25) (k % 25) (k % 25) 0 n.toNat = true then op k else 0) hk0
    have h1051 := (ef 105 (by omega)).trans h105
    have hor : k < 625 → 0 ≤ op k ∧ op k ≤ 15625 := fun q => by
      rw [hop k hk0 q]; have := wb_ct_rg (fun x => wb_OO n c s sd sf K t x && decide (wb_k2 sd sf t x = k)) 15625; omega
    have hfi := wb_fm_ok (le := wb_rl c 0 0 tm t tr t) (mo := wb_rm2 c 0 0 tm t tr t) (ho := s (4 * t + 2)) (lo := s (4 * t + 3)) (nd := wb_nn2 c sd sf t (k / 25) (k / 25) (k % 25) (k % 25) 0) (L0 := s (4 * t)) (H0 := s (4 * t + 1)) n.toNat
    change wb_fm (wb_gk c s sd sf 0 0 tm t tr t (k / 25) (k / 25) (k % 25) (k % 25) 0) n.toNat = (n.toNat : Nat) ↔ wb_gk c s sd sf 0 0 tm t tr t (k / 25) (k / 25) (k % 25) (k % 25) 0 n.toNat = true at hfi
    have hfr := wb_fm_rg (wb_gk c s sd sf 0 0 tm t tr t (k / 25) (k / 25) (k % 25) (k % 25) 0) n.toNat
    refine vi_iload_n 4 rfl rfl ?_
    refine vi_sipush 5 rfl (by decide) ?_
    refine vi_icmp_ge 6 rfl (by omega) (by omega) (fun c_8 => ?_) (fun c_8 => ?_)
    · refine vi_iload_n 42 rfl rfl ?_
      exact vi_ireturn 43 rfl rfl rfl (Nat.zero_le _) (Nat.zero_le _) (wb_e (by rw [hv, show k.toNat = 625 by omega, key]) (hQ w1 L1 H1 hrf1 ef))
    · have hor1 := hor (by omega)
      refine vi_aload_n 7 rfl rfl ?_
      refine vi_get 8 rfl f_X12_47 hrf1' rfl rfl ?_
      refine vi_iload_n 9 rfl rfl ?_
      refine vi_iald 10 rfl h1051 (by omega) ?_
      refine vi_if_le 11 rfl (by omega) (fun c_17 => ?_) (fun c_17 => ?_)
      · refine vi_iinc 40 rfl rfl rfl ?_
        refine vi_goto 41 rfl ?_
        first | exact vi_lc (ih (k + 1) (by omega) (by omega) w2 L2 H2 _ (by omega) (by rw [hst, hv, if_pos (hfi.mp (by omega))]) hrf2 ef2) ⟨rfl, rfl, rfl, rfl, trivial⟩ | exact vi_lc (ih (k + 1) (by omega) (by omega) w2 L2 H2 _ (by omega) (by rw [hst, hv, if_neg (fun q => by have := hfi.mpr q; omega)]) hrf2 ef2) ⟨rfl, rfl, rfl, rfl, trivial⟩ | exact vi_lc (ih (k + 1) (by omega) (by omega) w1 L1 H1 _ (by omega) (by rw [hst, hv, show op k = 0 by omega]; split <;> omega) hrf1 ef) ⟨rfl, rfl, rfl, rfl, trivial⟩
      · refine vi_iload_n 12 rfl rfl ?_
        refine vi_aload_n 13 rfl rfl ?_
        refine vi_iload_n 14 rfl rfl ?_
        refine vi_iload_n 15 rfl rfl ?_
        refine vi_bipush 16 rfl (by decide) ?_
        refine vi_idiv 17 rfl (by omega) (by omega) ?_
        refine vi_iload_n 18 rfl rfl ?_
        refine vi_bipush 19 rfl (by decide) ?_
        refine vi_idiv 20 rfl (by omega) (by omega) ?_
        refine vi_iload_n 21 rfl rfl ?_
        refine vi_bipush 22 rfl (by decide) ?_
        refine vi_irem 23 rfl (by omega) (by omega) ?_
        refine vi_iload_n 24 rfl rfl ?_
        refine vi_bipush 25 rfl (by decide) ?_
        refine vi_irem 26 rfl (by omega) (by omega) ?_
        refine vi_iconst 27 rfl ?_
        refine vi_V6 28 ok_X12_goes rfl c_X12_130 hrf1' rfl rfl ?_
        refine sp_X12_goes hrf1 ((ef 97 (by omega)).trans h97) ((ef 98 (by omega)).trans h98) hR (by omega) (by omega) htm (by omega) htr ht (by omega) (by omega) (by omega) (by omega) (by omega) (fun w2 L2 H2 _ hrf2 hf2 => ?_)
        have hrf2' := hrf2
        unfold wb_Rf at hrf2'
        have ef2 : ∀ k, k ≠ 96 → w2 k = w k := fun k hk => (hf2 k hk).trans (ef k hk)
        refine vi_aload_n 29 rfl rfl ?_
        refine vi_get 30 rfl f_X12_60 hrf2' rfl rfl ?_
        refine vi_icmp_ne 31 rfl (by omega) (by omega) (fun c_47 => ?_) (fun c_47 => ?_)
        · refine vi_iconst 37 rfl ?_
          refine vi_iadd 38 rfl ?_
          refine vi_istore_n 39 rfl rfl ?_
          refine vi_iinc 40 rfl rfl rfl ?_
          refine vi_goto 41 rfl ?_
          first | exact vi_lc (ih (k + 1) (by omega) (by omega) w2 L2 H2 _ (by omega) (by rw [hst, hv, if_pos (hfi.mp (by omega))]) hrf2 ef2) ⟨rfl, rfl, rfl, rfl, trivial⟩ | exact vi_lc (ih (k + 1) (by omega) (by omega) w2 L2 H2 _ (by omega) (by rw [hst, hv, if_neg (fun q => by have := hfi.mpr q; omega)]) hrf2 ef2) ⟨rfl, rfl, rfl, rfl, trivial⟩ | exact vi_lc (ih (k + 1) (by omega) (by omega) w1 L1 H1 _ (by omega) (by rw [hst, hv, show op k = 0 by omega]; split <;> omega) hrf1 ef) ⟨rfl, rfl, rfl, rfl, trivial⟩
        · refine vi_aload_n 32 rfl rfl ?_
          refine vi_get 33 rfl f_X12_47 hrf2' rfl rfl ?_
          refine vi_iload_n 34 rfl rfl ?_
          refine vi_iald 35 rfl ((ef2 105 (by omega)).trans h105) (by omega) ?_
          refine vi_goto 36 rfl ?_
          refine vi_iadd 38 rfl ?_
          refine vi_istore_n 39 rfl rfl ?_
          refine vi_iinc 40 rfl rfl rfl ?_
          refine vi_goto 41 rfl ?_
          first | exact vi_lc (ih (k + 1) (by omega) (by omega) w2 L2 H2 _ (by omega) (by rw [hst, hv, if_pos (hfi.mp (by omega))]) hrf2 ef2) ⟨rfl, rfl, rfl, rfl, trivial⟩ | exact vi_lc (ih (k + 1) (by omega) (by omega) w2 L2 H2 _ (by omega) (by rw [hst, hv, if_neg (fun q => by have := hfi.mpr q; omega)]) hrf2 ef2) ⟨rfl, rfl, rfl, rfl, trivial⟩ | exact vi_lc (ih (k + 1) (by omega) (by omega) w1 L1 H1 _ (by omega) (by rw [hst, hv, show op k = 0 by omega]; split <;> omega) hrf1 ef) ⟨rfl, rfl, rfl, rfl, trivial⟩
  refine vi_iconst 0 rfl ?_
  refine vi_istore_n 1 rfl rfl ?_
  refine vi_iconst 2 rfl ?_
  refine vi_istore_n 3 rfl rfl ?_
  exact vi_lc (lp 0 (by omega) w L H 0 (by omega) rfl hrf (fun _ _ => rfl)) ⟨rfl, rfl, rfl, rfl, trivial⟩
theorem sp_X12_mostBy {m t hl : Int} (hrf : wb_Rf w n sd sf cnt ru ld 0 0 ((-6)) tt tr L H fi ch) (h97 : w 97 = aI 72 c) (h98 : w 98 = aI 12 s) (h105 : w 105 = aI 625 op) (hop : ∀ j, 0 ≤ j → j < 625 → op j = wb_ct (fun x => wb_OO n c s sd sf K t x && decide (wb_k2 sd sf t x = j)) 15625) (hR : wb_BR n c s sd sf) (hHL : wb_HL hl n c sd sf) (htr : -9 ≤ tr ∧ tr ≤ 1000) (ht : 0 ≤ t ∧ t < 3) (hm : 0 ≤ m ∧ m < n)
    (hQ : ∀ (w' : wb_W) (L' H' tr' : Int), (-9 ≤ tr' ∧ tr' ≤ 1000) → wb_Rf w' n sd sf cnt ru ld 0 0 ((-6)) t tr' L' H' fi ch → (∀ k, k ≠ 96 → w' k = w k) → Q (some (.int (wb_i (wb_MX n c s sd sf K hl m t)))) N w') : wb_M G M_X12_mostBy [.ref 96, .int (wb_i m), .int (wb_i t)] N w Q := by
  unfold wb_M
  have hrf' := hrf
  unfold wb_Rf at hrf'
  have hn := hR.1
  have c1 := hR.2.1 (9 * m + t)
  have c3 := hR.2.1 (9 * m + 3)
  have c5 := hR.2.2.2.2.2.1 m
  have els : wb_ls c m t = if c (9 * m + 3) < c (9 * m + t) then c (9 * m + 3) else c (9 * m + t) := rfl
  have hls : 0 ≤ wb_ls c m t ∧ wb_ls c m t ≤ 5 ∧ wb_ls c m t ≤ c (9 * m + t) := by rw [els]; split <;> omega
  have lp : ∀ i, i ≤ wb_ls c m t + c (9 * m + 3) + 1 → ∀ (w1 : wb_W) (L1 H1 tr1 v mx : Int), 0 ≤ i → v = c (9 * m + t) + -wb_ls c m t + i → mx = wb_mx (fun i => wb_CN n c s sd sf K hl t m (c (9 * m + t) + -wb_ls c m t + i) 0) i.toNat → (0 ≤ mx ∧ mx ≤ 9765625) → (-9 ≤ tr1 ∧ tr1 ≤ 1000) → wb_Rf w1 n sd sf cnt ru ld 0 0 m t tr1 L1 H1 fi ch → (∀ k, k ≠ 96 → w1 k = w k) → wb_V G M_X12_mostBy 54 [(0, .ref 96), (1, .int (wb_i m)), (2, .int (wb_i t)), (3, .int (wb_i (c (9 * m + t)))), (4, .int (wb_i (c (9 * m + 3)))), (5, .int (wb_i mx)), (6, .int (wb_i v))] [] N w1 0 0 Q := by
    refine wb_up _ _ ?_
    intro i ih hi w1 L1 H1 tr1 v mx hi0 hv hmx hmr htr1 hrf1 ef
    have hrf1' := hrf1
    unfold wb_Rf at hrf1'
    have hst : wb_mx (fun i => wb_CN n c s sd sf K hl t m (c (9 * m + t) + -wb_ls c m t + i) 0) (i + 1).toNat = if mx < wb_CN n c s sd sf K hl t m v 0 then wb_CN n c s sd sf K hl t m v 0 else mx := by
      rw [show (i + 1).toNat = i.toNat + 1 by omega, wb_mx, ← hmx, show ((i.toNat : Nat) : Int) = i by omega, ← hv]
    have hCN := wb_CN_rg (n := n) (c := c) (s := s) (sd := sd) (sf := sf) (K := K) (hl := hl) (t := t) (m := m) (v := v) (sl := 0)
    have hct : v ≤ 1000 → wb_ct (fun x => wb_OO n c s sd sf K t x && wb_tk n c s sd sf m t v x) 15625 = wb_CN n c s sd sf K hl t m v 0 := fun q => (wb_CN_ct hR hHL ht hm (by omega) (Or.inl ⟨by omega, rfl, rfl⟩)).symm
    refine vi_iload 35 rfl rfl ?_
    refine vi_iload_n 36 rfl rfl ?_
    refine vi_iload 37 rfl rfl ?_
    refine vi_iadd 38 rfl ?_
    refine vi_icmp_gt 39 rfl (by omega) (by omega) (fun c_60 => ?_) (fun c_60 => ?_)
    · refine vi_aload_n 56 rfl rfl ?_
      refine vi_bipush 57 rfl (by decide) ?_
      refine vi_put 58 rfl f_X12_29 hrf1' rfl rfl rfl rfl ?_
      refine vi_iload 59 rfl rfl ?_
      exact vi_ireturn 60 rfl rfl rfl (Nat.zero_le _) (Nat.zero_le _) (wb_e (show mx = wb_MX n c s sd sf K hl m t by rw [hmx]; unfold wb_MX; rw [show i.toNat = (wb_ls c m t + c (9 * m + 3) + 1).toNat by omega]) (hQ _ L1 H1 tr1 htr1 wb_ups (fun k hk => by rw [wb_upn hk]; exact ef k hk)))
    · refine vi_aload_n 40 rfl rfl ?_
      refine vi_iload 41 rfl rfl ?_
      refine vi_put 42 rfl f_X12_107 hrf1' rfl rfl rfl rfl ?_
      refine vi_aload_n 43 rfl rfl ?_
      refine vi_iload_n 44 rfl rfl ?_
      refine vi_V1 45 ok_X12_countTried rfl c_X12_192 wb_ups rfl rfl ?_
      refine sp_X12_countTried (K := K) (show wb_Rf _ n sd sf cnt ru ld 0 0 m t v L1 H1 fi ch from wb_ups) ((wb_upn (by omega)).trans ((ef 97 (by omega)).trans h97)) ((wb_upn (by omega)).trans ((ef 98 (by omega)).trans h98)) ((wb_upn (by omega)).trans ((ef 105 (by omega)).trans h105)) hop hR (by omega) (by omega) ht (fun w2 L2 H2 hrf2 hf2 => ?_)
      rw [hct (by omega)]
      have ef2 : ∀ k, k ≠ 96 → w2 k = w k := fun k hk => by rw [hf2 k hk, wb_upn hk, ef k hk]
      refine vi_istore 46 rfl rfl ?_
      refine vi_iload 47 rfl rfl ?_
      refine vi_iload 48 rfl rfl ?_
      refine vi_icmp_le 49 rfl (by omega) (by omega) (fun c_80 => ?_) (fun c_80 => ?_)
      · refine vi_iload 52 rfl rfl ?_
        refine vi_istore 53 rfl rfl ?_
        refine vi_iinc 54 rfl rfl rfl ?_
        refine vi_goto 55 rfl ?_
        first | exact vi_lc (ih (i + 1) (by omega) (by omega) w2 L2 H2 v _ _ (by omega) (by omega) (by rw [hst, if_pos (by omega)]) (by omega) (by omega) hrf2 ef2) ⟨rfl, rfl, rfl, rfl, rfl, rfl, rfl, trivial⟩ | exact vi_lc (ih (i + 1) (by omega) (by omega) w2 L2 H2 v _ _ (by omega) (by omega) (by rw [hst, if_neg (by omega)]) (by omega) (by omega) hrf2 ef2) ⟨rfl, rfl, rfl, rfl, rfl, rfl, rfl, trivial⟩
      · refine vi_iload 50 rfl rfl ?_
        refine vi_goto 51 rfl ?_
        refine vi_istore 53 rfl rfl ?_
        refine vi_iinc 54 rfl rfl rfl ?_
        refine vi_goto 55 rfl ?_
        first | exact vi_lc (ih (i + 1) (by omega) (by omega) w2 L2 H2 v _ _ (by omega) (by omega) (by rw [hst, if_pos (by omega)]) (by omega) (by omega) hrf2 ef2) ⟨rfl, rfl, rfl, rfl, rfl, rfl, rfl, trivial⟩ | exact vi_lc (ih (i + 1) (by omega) (by omega) w2 L2 H2 v _ _ (by omega) (by omega) (by rw [hst, if_neg (by omega)]) (by omega) (by omega) hrf2 ef2) ⟨rfl, rfl, rfl, rfl, rfl, rfl, rfl, trivial⟩
  refine vi_aload_n 0 rfl rfl ?_
  refine vi_get 1 rfl f_X12_7 hrf' rfl rfl ?_
  refine vi_bipush 2 rfl (by decide) ?_
  refine vi_iload_n 3 rfl rfl ?_
  refine vi_imul 4 rfl ?_
  refine vi_iload_n 5 rfl rfl ?_
  refine vi_iadd 6 rfl ?_
  refine vi_iald 7 rfl h97 (by omega) ?_
  refine vi_istore_n 8 rfl rfl ?_
  refine vi_aload_n 9 rfl rfl ?_
  refine vi_get 10 rfl f_X12_7 hrf' rfl rfl ?_
  refine vi_bipush 11 rfl (by decide) ?_
  refine vi_iload_n 12 rfl rfl ?_
  refine vi_imul 13 rfl ?_
  refine vi_iconst 14 rfl ?_
  refine vi_iadd 15 rfl ?_
  refine vi_iald 16 rfl h97 (by omega) ?_
  refine vi_istore 17 rfl rfl ?_
  refine vi_iconst 18 rfl ?_
  refine vi_istore 19 rfl rfl ?_
  refine vi_aload_n 20 rfl rfl ?_
  refine vi_iload_n 21 rfl rfl ?_
  refine vi_put 22 rfl f_X12_29 hrf' rfl rfl rfl rfl ?_
  refine vi_aload_n 23 rfl rfl ?_
  refine vi_iload_n 24 rfl rfl ?_
  refine vi_put 25 rfl f_X12_104 wb_ups rfl rfl rfl rfl ?_
  rw [wb_upu]
  refine vi_iload_n 26 rfl rfl ?_
  refine vi_iload 27 rfl rfl ?_
  refine vi_icmp_ge 28 rfl (by omega) (by omega) (fun c_41 => ?_) (fun c_41 => ?_)
  · refine vi_iload_n 31 rfl rfl ?_
    refine vi_iload 32 rfl rfl ?_
    refine vi_isub 33 rfl ?_
    refine vi_istore 34 rfl rfl ?_
    first | exact vi_lc (lp 0 (by omega) _ L H tr _ 0 (by omega) (by rw [els, if_neg (by omega)]; omega) rfl (by omega) htr wb_ups (fun k hk => wb_upn hk)) ⟨rfl, rfl, rfl, rfl, rfl, rfl, rfl, trivial⟩ | exact vi_lc (lp 0 (by omega) _ L H tr _ 0 (by omega) (by rw [els]; split <;> omega) rfl (by omega) htr wb_ups (fun k hk => wb_upn hk)) ⟨rfl, rfl, rfl, rfl, rfl, rfl, rfl, trivial⟩
  · refine vi_iconst 29 rfl ?_
    refine vi_goto 30 rfl ?_
    refine vi_istore 34 rfl rfl ?_
    first | exact vi_lc (lp 0 (by omega) _ L H tr _ 0 (by omega) (by rw [els, if_neg (by omega)]; omega) rfl (by omega) htr wb_ups (fun k hk => wb_upn hk)) ⟨rfl, rfl, rfl, rfl, rfl, rfl, rfl, trivial⟩ | exact vi_lc (lp 0 (by omega) _ L H tr _ 0 (by omega) (by rw [els]; split <;> omega) rfl (by omega) htr wb_ups (fun k hk => wb_upn hk)) ⟨rfl, rfl, rfl, rfl, rfl, rfl, rfl, trivial⟩
end WBS66
