/-! ===== changes: what is found ===== -/
theorem wb_nxt_cs (T : Int → Bool) (n : Nat) : (0 ≤ wb_nxt T n 0 ∧ wb_nxt T n 0 < n ∧ T (wb_nxt T n 0) = true ∧ ∀ y, 0 ≤ y → y < wb_nxt T n 0 → T y = false) ∨ (wb_nxt T n 0 = -1 ∧ ∀ y : Int, 0 ≤ y → y < n → T y = false) := by
  by_cases h : ∃ y : Int, 0 ≤ y ∧ y < n ∧ T y = true
  · left
    have key : ∀ k : Nat, (∃ y : Int, 0 ≤ y ∧ y < k ∧ T y = true) → ∃ y : Int, 0 ≤ y ∧ y < k ∧ T y = true ∧ ∀ x, 0 ≤ x → x < y → T x = false := by
      intro k
      induction k with
      | zero => rintro ⟨y, h1, h2, _⟩; omega
      | succ k ih =>
        rintro ⟨y, h1, h2, h3⟩
        by_cases hk : ∃ y : Int, 0 ≤ y ∧ y < k ∧ T y = true
        · obtain ⟨z, z1, z2, z3, z4⟩ := ih hk
          exact ⟨z, z1, by omega, z3, z4⟩
        · refine ⟨y, h1, h2, h3, fun x x1 x2 => ?_⟩
          cases hT : T x with
          | false => rfl
          | true => exact absurd ⟨x, x1, by omega, hT⟩ hk
    obtain ⟨y, y1, y2, y3, y4⟩ := key n h
    rw [wb_nxt_at n 0 y y1 (by omega) y3 y4]
    exact ⟨y1, y2, y3, y4⟩
  · right
    have hn : ∀ y : Int, 0 ≤ y → y < n → T y = false := fun y y1 y2 => by
      cases hT : T y with
      | false => rfl
      | true => exact absurd ⟨y, y1, y2, hT⟩ h
    exact ⟨wb_nxt_no n 0 (fun y y1 y2 => hn y y1 (by omega)), hn⟩
theorem wb_wp_ab {a b t r : Int} (ha : 0 ≤ a ∧ a < 125) (hb : 0 ≤ b ∧ b < 125) (ht : 0 ≤ t ∧ t < 3) (hr : 0 ≤ r ∧ r < 25) : wb_wp (125 * a + b) t r = 125 * (a + (r / 5 - wb_am a t) * wb_sp t) + (b + (r % 5 - wb_am b t) * wb_sp t) := by
  unfold wb_wp wb_pr
  have e1 : (125 * a + b) / 125 = a := by omega
  have e2 : (125 * a + b) % 125 = b := by omega
  have h1 := wb_am_rg (p := a) (t := t) ha.1
  have h2 := wb_am_rg (p := b) (t := t) hb.1
  rw [e1, e2, show (5 * wb_am a t + wb_am b t) / 5 = wb_am a t by omega, show (5 * wb_am a t + wb_am b t) % 5 = wb_am b t by omega]
  rw [Int.mul_add, Int.mul_comm ((r / 5 - wb_am a t) * wb_sp t) 125]
  omega
theorem wb_am_wp {a t v : Int} (ha : 0 ≤ a ∧ a < 125) (ht : 0 ≤ t ∧ t < 3) (hv : 0 ≤ v ∧ v < 5) : (0 ≤ a + (v - wb_am a t) * wb_sp t ∧ a + (v - wb_am a t) * wb_sp t < 125) ∧ ∀ u, 0 ≤ u → u < 3 → wb_am (a + (v - wb_am a t) * wb_sp t) u = if u = t then v else wb_am a u := by
  rcases (show t = 0 ∨ t = 1 ∨ t = 2 by omega) with rfl | rfl | rfl
  · unfold wb_am wb_sp; simp only [if_pos]
    refine ⟨by omega, fun u u1 u2 => ?_⟩
    rcases (show u = 0 ∨ u = 1 ∨ u = 2 by omega) with rfl | rfl | rfl <;> simp <;> omega
  · unfold wb_am wb_sp; simp only [show ¬ (1 : Int) = 0 by decide, if_false, if_pos]
    refine ⟨by omega, fun u u1 u2 => ?_⟩
    rcases (show u = 0 ∨ u = 1 ∨ u = 2 by omega) with rfl | rfl | rfl <;> simp <;> omega
  · unfold wb_am wb_sp; simp only [show ¬ (2 : Int) = 0 by decide, show ¬ (2 : Int) = 1 by decide, if_false]
    refine ⟨by omega, fun u u1 u2 => ?_⟩
    rcases (show u = 0 ∨ u = 1 ∨ u = 2 by omega) with rfl | rfl | rfl <;> simp <;> omega
theorem wb_wp_rg {x t r : Int} (hx : 0 ≤ x ∧ x < 15625) (ht : 0 ≤ t ∧ t < 3) (hr : 0 ≤ r ∧ r < 25) : (0 ≤ wb_wp x t r ∧ wb_wp x t r < 15625) ∧ ∀ u, 0 ≤ u → u < 3 → wb_pr (wb_wp x t r) u = if u = t then r else wb_pr x u := by
  have e : x = 125 * (x / 125) + x % 125 := by omega
  have ha : 0 ≤ x / 125 ∧ x / 125 < 125 := by omega
  have hb : 0 ≤ x % 125 ∧ x % 125 < 125 := by omega
  have h1 := wb_wp_ab ha hb ht hr
  rw [← e] at h1
  have h2 := wb_am_wp ha ht (v := r / 5) (by omega)
  have h3 := wb_am_wp hb ht (v := r % 5) (by omega)
  generalize hA : x / 125 + (r / 5 - wb_am (x / 125) t) * wb_sp t = A at h1 h2
  generalize hB : x % 125 + (r % 5 - wb_am (x % 125) t) * wb_sp t = B at h1 h3
  rw [h1]
  refine ⟨by omega, fun u u1 u2 => ?_⟩
  unfold wb_pr
  rw [show (125 * A + B) / 125 = A by omega, show (125 * A + B) % 125 = B by omega, h2.2 u u1 u2, h3.2 u u1 u2]
  split
  · omega
  · rfl
theorem wb_wp_eq {x t r : Int} (hx : 0 ≤ x ∧ x < 15625) (ht : 0 ≤ t ∧ t < 3) (hr : 0 ≤ r ∧ r < 25) : wb_wp x t r = x ↔ r = wb_pr x t := by
  constructor
  · intro h
    have := (wb_wp_rg hx ht hr).2 t ht.1 ht.2
    rw [h, if_pos rfl] at this; exact this.symm
  · rintro rfl
    unfold wb_wp
    simp
theorem wb_bt_ex {z : Int} {f : Int → Bool} (hz : 0 ≤ z ∧ z < 33554432) (h : ∀ j, 0 ≤ j → j < 25 → wb_bt z j = f j) : z = 0 ↔ wb_ex f 25 = false := by
  rw [wb_ex_no]
  constructor
  · rintro rfl i h1 h2
    rw [← h i h1 (by omega), wb_bt0]
  · intro h0
    exact wb_bt_ext (k := 25) hz (by decide) (fun j j1 j2 => by rw [h j j1 (by omega), wb_bt0]; exact h0 j j1 j2)
section WBS43
variable {G : wb_G} {N : Nat} {w : wb_W} {Q : Option Value → Nat → wb_W → Prop}
variable {n : Int} {c s : Int → Int} {sd sf bo tu : Int} {g : Int → Int64} {K : Int → Bool} {hl wt ct mt : Int} {bt mo th be bh : Int}
/-- the later pairs are laid -/
def wb_lv (n : Int) (c s : Int → Int) (sd sf hl t m : Int) (la : Int → Int) (p o : Int) : Prop := (0 ≤ la (o * 25 + p) ∧ la (o * 25 + p) < 33554432) ∧ ∀ j, 0 ≤ j → j < 25 → wb_bt (la (o * 25 + p)) j = wb_LB n c s sd sf hl t m p o j
theorem sp_X1_hasLaters {m t t0 o0 : Int} {P0 : Int → Int → Bool} {la : Int → Int} (hbr : wb_Br w (wb_pa hl sf t) bt mo th be bh) (hms : wb_Ms w 86 30 t0 o0 P0) (h85 : w 85 = aI 625 la) (hwo : wb_Wo w hl wt ct mt) (hR : wb_BR n c s sd sf) (hHL : wb_HL hl n c sd sf) (hce : ∀ t, 0 ≤ t → t < 3 → wb_Ce w hl n c s sd sf t True True) (ht : 0 ≤ t ∧ t < 3) (hm : 1 ≤ m ∧ m < n)
    (k1 : ∀ (w' : wb_W) (la' : Int → Int), (∀ p o, 0 ≤ p → p < 25 → 0 ≤ o → o < (if wb_pa hl sf t < 0 then 1 else 25) → wb_lv n c s sd sf hl t m la' p o) → wb_Ms w' 86 30 t (wb_pa hl sf t) (fun p o => decide (o < (if wb_pa hl sf t < 0 then 1 else 25)) && wb_ex (wb_LB n c s sd sf hl t m p o) 25) → w' 85 = aI 625 la' → (∀ k, (k < 85 ∨ 89 ≤ k) → w' k = w k) → Q (some (.int (wb_i 1))) N w')
    (k0 : ∀ (w' : wb_W) (la' : Int → Int) (t' o' : Int) (P' : Int → Int → Bool), (∀ p o, 0 ≤ p → p < 25 → 0 ≤ o → o < (if wb_pa hl sf t < 0 then 1 else 25) → wb_ex (wb_LB n c s sd sf hl t m p o) 25 = false) → wb_Ms w' 86 30 t' o' P' → w' 85 = aI 625 la' → (∀ k, (k < 85 ∨ 89 ≤ k) → w' k = w k) → Q (some (.int (wb_i 0))) N w') : wb_M G M_X1_hasLaters [.ref 82, .int (wb_i m), .int (wb_i t)] N w Q := by
  unfold wb_M
  have hn := hR.1
  have hr := hHL.rg hR
  have hpr := wb_pa_rg (t := t) hHL hR
  have hbr' := hbr
  unfold wb_Br at hbr'
  obtain ⟨pp, hpp, hpp2⟩ : ∃ pp : Int, pp = (if wb_pa hl sf t < 0 then 1 else 25) ∧ (1 ≤ pp ∧ pp ≤ 25) := ⟨_, rfl, by split <;> omega⟩
  rw [← hpp] at k1 k0
  have lp1 : ∀ i, i ≤ 25 → ∀ (w1 : wb_W) (la1 : Int → Int) (sm : Int), 0 ≤ i → (sm = 0 ∨ sm = 1) → (sm = 0 → ∀ p o, 0 ≤ p → p < i → 0 ≤ o → o < pp → wb_ex (wb_LB n c s sd sf hl t m p o) 25 = false) → (∀ p o, 0 ≤ p → p < i → 0 ≤ o → o < pp → wb_lv n c s sd sf hl t m la1 p o) → wb_Ms w1 86 30 t (wb_pa hl sf t) (fun p o => decide (p < i ∧ o < pp) && wb_ex (wb_LB n c s sd sf hl t m p o) 25) → w1 85 = aI 625 la1 → (∀ k, (k < 85 ∨ 89 ≤ k) → w1 k = w k) → wb_V G M_X1_hasLaters 32 [(0, .ref 82), (1, .int (wb_i m)), (2, .int (wb_i t)), (3, .int (wb_i sm)), (4, .int (wb_i pp)), (5, .int (wb_i i))] [] N w1 0 0 Q := by
    refine wb_up 25 _ ?_
    intro i ih hi w1 la1 sm hi0 hsm hs0 hla hms1 h851 ef
    have lp2 : i < 25 → ∀ am : Int, (0 ≤ am ∧ am < 33554432) → (∀ j, 0 ≤ j → j < 25 → wb_bt am j = wb_LO n c s sd sf hl t m i j) → ∀ j, j ≤ pp → ∀ (w1 : wb_W) (la1 : Int → Int) (sm : Int), 0 ≤ j → (sm = 0 ∨ sm = 1) → (sm = 0 → ∀ p o, 0 ≤ p → 0 ≤ o → ((p < i ∧ o < pp) ∨ (p = i ∧ o < j)) → wb_ex (wb_LB n c s sd sf hl t m p o) 25 = false) → (∀ p o, 0 ≤ p → 0 ≤ o → ((p < i ∧ o < pp) ∨ (p = i ∧ o < j)) → wb_lv n c s sd sf hl t m la1 p o) → wb_Ms w1 86 30 t (wb_pa hl sf t) (fun p o => decide ((p < i ∧ o < pp) ∨ (p = i ∧ o < j)) && wb_ex (wb_LB n c s sd sf hl t m p o) 25) → w1 85 = aI 625 la1 → (∀ k, (k < 85 ∨ 89 ≤ k) → w1 k = w k) → wb_V G M_X1_hasLaters 52 [(0, .ref 82), (1, .int (wb_i m)), (2, .int (wb_i t)), (3, .int (wb_i sm)), (4, .int (wb_i pp)), (5, .int (wb_i i)), (6, .int (wb_i am)), (7, .int (wb_i j))] [] N w1 0 0 Q := by
      intro hi5 am ham hamb
      refine wb_up pp _ ?_
      intro j jh hj w1 la1 sm hj0 hsm hs0 hla hms1 h851 ef
      have hbr1 : wb_Br w1 (wb_pa hl sf t) bt mo th be bh := (ef 82 (by omega)).trans hbr
      have hbr1' := hbr1
      unfold wb_Br at hbr1'
      have hwo1 : wb_Wo w1 hl wt ct mt := hwo.fr (fun k hk => ef k (by omega))
      have hce1 : ∀ t, 0 ≤ t → t < 3 → wb_Ce w1 hl n c s sd sf t True True := fun t t1 t2 => have hcr := wb_cp_rg hl (t := t) ⟨t1, t2⟩; (hce t t1 t2).fr (fun k p1 p2 => ef k (by omega))
      have tl : j < pp → ∀ z : Int, (0 ≤ z ∧ z < 33554432) → (∀ r, 0 ≤ r → r < 25 → wb_bt z r = wb_LB n c s sd sf hl t m i j r) → wb_V G M_X1_hasLaters 82 [(0, .ref 82), (1, .int (wb_i m)), (2, .int (wb_i t)), (3, .int (wb_i sm)), (4, .int (wb_i pp)), (5, .int (wb_i i)), (6, .int (wb_i am)), (7, .int (wb_i j)), (8, .int (wb_i z))] [] N w1 0 0 Q := by
        intro hjp z hz hzb
        have hzx := wb_bt_ex hz hzb
        have hlv : ∀ p o, 0 ≤ p → 0 ≤ o → ((p < i ∧ o < pp) ∨ (p = i ∧ o < j + 1)) → wb_lv n c s sd sf hl t m (wb_u la1 (j * 25 + i) z) p o := fun p o p1 o1 h => by
          unfold wb_lv
          by_cases e : o * 25 + p = j * 25 + i
          · rw [e, wb_us]
            rw [show p = i by omega, show o = j by omega]; exact ⟨hz, hzb⟩
          · rw [wb_un e]; exact hla p o p1 o1 (by omega)
        have hms2 : ∀ v : va_E, wb_Ms (va_up w1 85 v) 86 30 t (wb_pa hl sf t) (fun p o => decide ((p < i ∧ o < pp) ∨ (p = i ∧ o < j)) && wb_ex (wb_LB n c s sd sf hl t m p o) 25) := fun v => hms1.fr (fun k p1 p2 => wb_upn (by omega))
        have hms3 := hms1
        obtain ⟨y0, y1, m0, -⟩ := hms3
        refine vi_aload_n 43 rfl rfl ?_
        refine vi_get 44 rfl f_X1_18 hbr1' rfl rfl ?_
        refine vi_iload 45 rfl rfl ?_
        refine vi_bipush 46 rfl (by decide) ?_
        refine vi_imul 47 rfl ?_
        refine vi_iload 48 rfl rfl ?_
        refine vi_iadd 49 rfl ?_
        refine vi_iload 50 rfl rfl ?_
        refine vi_iast 51 rfl h851 (by omega) ?_
        refine vi_iload 52 rfl rfl ?_
        refine vi_if_eq 53 rfl (by omega) (fun c_99 => ?_) (fun c_99 => ?_)
        · refine vi_iinc 61 rfl rfl rfl ?_
          refine vi_goto 62 rfl ?_
          first | exact vi_lc (jh (j + 1) (by omega) (by omega) w3 _ 1 (by omega) (Or.inr rfl) (fun q => by omega) hlv (hm3.to (fun p o p1 p2 o1 o2 => by (by_cases e : p = i ∧ o = j); (rw [e.1, e.2]; have hx : wb_ex (wb_LB n c s sd sf hl t m i j) 25 = true := (by cases h : wb_ex (wb_LB n c s sd sf hl t m i j) 25 with | true => rfl | false => exact absurd (hzx.mpr h) c_99); rw [hx, show decide ((i < i ∧ j < pp) ∨ (i = i ∧ j < j + 1)) = true from decide_eq_true (by omega)]; simp); (rw [show decide ((p < i ∧ o < pp) ∨ (p = i ∧ o < j + 1)) = decide ((p < i ∧ o < pp) ∨ (p = i ∧ o < j)) from decide_eq_decide.mpr (by omega), show (decide (p = i) && decide (o = j)) = false by rw [← Bool.decide_and]; exact decide_eq_false e, Bool.or_false]))) ((hf3 _ (by omega)).trans wb_ups) (fun k hk => (hf3 k (by omega)).trans ((wb_upn (by omega)).trans (ef k hk)))) ⟨rfl, rfl, rfl, rfl, rfl, rfl, rfl, rfl, trivial⟩ | exact vi_lc (jh (j + 1) (by omega) (by omega) _ _ sm (by omega) hsm (fun q p o p1 o1 h => by (by_cases e : p = i ∧ o = j); (rw [e.1, e.2]; exact hzx.mp c_99); exact hs0 q p o p1 o1 (by omega)) hlv ((hms2 _).to (fun p o p1 p2 o1 o2 => by (by_cases e : p = i ∧ o = j); (rw [e.1, e.2, hzx.mp c_99, Bool.and_false, Bool.and_false]); (rw [show decide ((p < i ∧ o < pp) ∨ (p = i ∧ o < j + 1)) = decide ((p < i ∧ o < pp) ∨ (p = i ∧ o < j)) from decide_eq_decide.mpr (by omega)]))) wb_ups (fun k hk => (wb_upn (by omega)).trans (ef k hk))) ⟨rfl, rfl, rfl, rfl, rfl, rfl, rfl, rfl, trivial⟩
        · refine vi_aload_n 54 rfl rfl ?_
          refine vi_get 55 rfl f_X1_44 ((wb_upn (by omega)).trans hbr1') rfl rfl ?_
          refine vi_iload 56 rfl rfl ?_
          refine vi_iload 57 rfl rfl ?_
          refine vi_V2 58 ok_X4_pass rfl c_X1_105 ((wb_upn (by omega)).trans m0) rfl rfl ?_
          refine sp_X4_pass (hms2 _) (hwo1.2.2.fr (fun k p1 p2 => wb_upn (by omega))) (by omega) ht (by omega) (by omega) (by omega) (fun q => by rw [if_pos q] at hpp; omega) (fun w3 hm3 hf3 => ?_)
          refine vi_iconst 59 rfl ?_
          refine vi_istore_n 60 rfl rfl ?_
          refine vi_iinc 61 rfl rfl rfl ?_
          refine vi_goto 62 rfl ?_
          first | exact vi_lc (jh (j + 1) (by omega) (by omega) w3 _ 1 (by omega) (Or.inr rfl) (fun q => by omega) hlv (hm3.to (fun p o p1 p2 o1 o2 => by (by_cases e : p = i ∧ o = j); (rw [e.1, e.2]; have hx : wb_ex (wb_LB n c s sd sf hl t m i j) 25 = true := (by cases h : wb_ex (wb_LB n c s sd sf hl t m i j) 25 with | true => rfl | false => exact absurd (hzx.mpr h) c_99); rw [hx, show decide ((i < i ∧ j < pp) ∨ (i = i ∧ j < j + 1)) = true from decide_eq_true (by omega)]; simp); (rw [show decide ((p < i ∧ o < pp) ∨ (p = i ∧ o < j + 1)) = decide ((p < i ∧ o < pp) ∨ (p = i ∧ o < j)) from decide_eq_decide.mpr (by omega), show (decide (p = i) && decide (o = j)) = false by rw [← Bool.decide_and]; exact decide_eq_false e, Bool.or_false]))) ((hf3 _ (by omega)).trans wb_ups) (fun k hk => (hf3 k (by omega)).trans ((wb_upn (by omega)).trans (ef k hk)))) ⟨rfl, rfl, rfl, rfl, rfl, rfl, rfl, rfl, trivial⟩ | exact vi_lc (jh (j + 1) (by omega) (by omega) _ _ sm (by omega) hsm (fun q p o p1 o1 h => by (by_cases e : p = i ∧ o = j); (rw [e.1, e.2]; exact hzx.mp c_99); exact hs0 q p o p1 o1 (by omega)) hlv ((hms2 _).to (fun p o p1 p2 o1 o2 => by (by_cases e : p = i ∧ o = j); (rw [e.1, e.2, hzx.mp c_99, Bool.and_false, Bool.and_false]); (rw [show decide ((p < i ∧ o < pp) ∨ (p = i ∧ o < j + 1)) = decide ((p < i ∧ o < pp) ∨ (p = i ∧ o < j)) from decide_eq_decide.mpr (by omega)]))) wb_ups (fun k hk => (wb_upn (by omega)).trans (ef k hk))) ⟨rfl, rfl, rfl, rfl, rfl, rfl, rfl, rfl, trivial⟩
      refine vi_iload 28 rfl rfl ?_
      refine vi_iload 29 rfl rfl ?_
      refine vi_icmp_ge 30 rfl (by omega) (by omega) (fun c_56 => ?_) (fun c_56 => ?_)
      · refine vi_iinc 63 rfl rfl rfl ?_
        refine vi_goto 64 rfl ?_
        exact vi_lc (ih (i + 1) (by omega) (by omega) w1 la1 sm (by omega) hsm (fun q p o p1 p2 o1 o2 => hs0 q p o p1 o1 (by omega)) (fun p o p1 p2 o1 o2 => hla p o p1 o1 (by omega)) (hms1.to (fun p o p1 p2 o1 o2 => by rw [show decide (p < i + 1 ∧ o < pp) = decide ((p < i ∧ o < pp) ∨ (p = i ∧ o < j)) from decide_eq_decide.mpr (by omega)])) h851 ef) ⟨rfl, rfl, rfl, rfl, rfl, rfl, trivial⟩
      · refine vi_iload 31 rfl rfl ?_
        refine vi_if_ne 32 rfl (by omega) (fun c_61 => ?_) (fun c_61 => ?_)
        · refine vi_aload_n 35 rfl rfl ?_
          refine vi_iload_n 36 rfl rfl ?_
          refine vi_iload_n 37 rfl rfl ?_
          refine vi_iload 38 rfl rfl ?_
          refine vi_iload 39 rfl rfl ?_
          refine vi_iload 40 rfl rfl ?_
          refine vi_V5 41 ok_X1_latersWith rfl c_X1_101 hbr1' rfl rfl ?_
          refine sp_X1_latersWith hbr1 hwo1 hR hHL hce1 ht hm (by omega) (by omega) ham (fun z hz hzb => ?_)
          refine vi_istore 42 rfl rfl ?_
          first | exact vi_lc (tl (by omega) z hz (fun r r1 r2 => by rw [hzb r r1 r2, hamb r r1 r2]; rfl)) ⟨rfl, rfl, rfl, rfl, rfl, rfl, rfl, rfl, rfl, trivial⟩ | exact vi_lc (tl (by omega) 0 (by omega) (fun r r1 r2 => by have := hamb r r1 r2; rw [show am = 0 by omega] at this; unfold wb_LB; rw [← this, wb_bt0, Bool.false_and])) ⟨rfl, rfl, rfl, rfl, rfl, rfl, rfl, rfl, rfl, trivial⟩
        · refine vi_iconst 33 rfl ?_
          refine vi_goto 34 rfl ?_
          refine vi_istore 42 rfl rfl ?_
          first | exact vi_lc (tl (by omega) z hz (fun r r1 r2 => by rw [hzb r r1 r2, hamb r r1 r2]; rfl)) ⟨rfl, rfl, rfl, rfl, rfl, rfl, rfl, rfl, rfl, trivial⟩ | exact vi_lc (tl (by omega) 0 (by omega) (fun r r1 r2 => by have := hamb r r1 r2; rw [show am = 0 by omega] at this; unfold wb_LB; rw [← this, wb_bt0, Bool.false_and])) ⟨rfl, rfl, rfl, rfl, rfl, rfl, rfl, rfl, rfl, trivial⟩
    have hbr1 : wb_Br w1 (wb_pa hl sf t) bt mo th be bh := (ef 82 (by omega)).trans hbr
    have hbr1' := hbr1
    unfold wb_Br at hbr1'
    have hwo1 : wb_Wo w1 hl wt ct mt := hwo.fr (fun k hk => ef k (by omega))
    have hce1 : ∀ t, 0 ≤ t → t < 3 → wb_Ce w1 hl n c s sd sf t True True := fun t t1 t2 => have hcr := wb_cp_rg hl (t := t) ⟨t1, t2⟩; (hce t t1 t2).fr (fun k p1 p2 => ef k (by omega))
    refine vi_iload 17 rfl rfl ?_
    refine vi_bipush 18 rfl (by decide) ?_
    refine vi_icmp_ge 19 rfl (by omega) (by omega) (fun c_36 => ?_) (fun c_36 => ?_)
    · have key1 := hms1.to (P' := fun p o => decide (o < pp) && wb_ex (wb_LB n c s sd sf hl t m p o) 25) (fun p o p1 p2 o1 o2 => by rw [show decide (p < i ∧ o < pp) = decide (o < pp) from decide_eq_decide.mpr (by omega)])
      rcases hsm with rfl | rfl
      · refine vi_iload_n 65 rfl rfl ?_; exact vi_ireturn 66 rfl rfl rfl (Nat.zero_le _) (Nat.zero_le _) (k0 w1 la1 _ _ _ (fun p o p1 p2 o1 o2 => hs0 rfl p o p1 (by omega) o1 o2) hms1 h851 ef)
      · refine vi_iload_n 65 rfl rfl ?_; exact vi_ireturn 66 rfl rfl rfl (Nat.zero_le _) (Nat.zero_le _) (k1 w1 la1 (fun p o p1 p2 o1 o2 => hla p o p1 (by omega) o1 o2) key1 h851 ef)
    · refine vi_aload_n 20 rfl rfl ?_
      refine vi_iload_n 21 rfl rfl ?_
      refine vi_iload_n 22 rfl rfl ?_
      refine vi_iload 23 rfl rfl ?_
      refine vi_V3 24 ok_X1_latersOf rfl c_X1_97 hbr1' rfl rfl ?_
      refine sp_X1_latersOf hbr1 hwo1 hR hHL hce1 ht hm (by omega) (fun am ham hamb => ?_)
      refine vi_istore 25 rfl rfl ?_
      refine vi_iconst 26 rfl ?_
      refine vi_istore 27 rfl rfl ?_
      exact vi_lc (lp2 (by omega) am ham hamb 0 (by omega) w1 la1 sm (by omega) hsm (fun q p o p1 o1 h => hs0 q p o p1 (by omega) o1 (by omega)) (fun p o p1 o1 h => hla p o p1 (by omega) o1 (by omega)) (hms1.to (fun p o p1 p2 o1 o2 => by rw [show decide (p < i ∧ o < pp) = decide ((p < i ∧ o < pp) ∨ (p = i ∧ o < 0)) from decide_eq_decide.mpr (by omega)])) h851 ef) ⟨rfl, rfl, rfl, rfl, rfl, rfl, rfl, rfl, trivial⟩
  have hms' := hms
  obtain ⟨y0, y1, m0, -⟩ := hms'
  refine vi_aload_n 0 rfl rfl ?_
  refine vi_get 1 rfl f_X1_44 hbr' rfl rfl ?_
  refine vi_iload_n 2 rfl rfl ?_
  refine vi_aload_n 3 rfl rfl ?_
  refine vi_get 4 rfl f_X1_22 hbr' rfl rfl ?_
  refine vi_V2 5 ok_X4_close rfl c_X1_93 m0 rfl rfl ?_
  refine sp_X4_close hms (fun w2 hm2 hf2 => ?_)
  refine vi_iconst 6 rfl ?_
  refine vi_istore_n 7 rfl rfl ?_
  refine vi_aload_n 8 rfl rfl ?_
  refine vi_get 9 rfl f_X1_22 ((hf2 _ (by omega)).trans hbr') rfl rfl ?_
  refine vi_if_ge 10 rfl (by omega) (fun c_18 => ?_) (fun c_18 => ?_)
  · rw [if_neg (by omega)] at hpp
    subst hpp
    refine vi_bipush 13 rfl (by decide) ?_
    refine vi_istore 14 rfl rfl ?_
    refine vi_iconst 15 rfl ?_
    refine vi_istore 16 rfl rfl ?_
    exact vi_lc (lp1 0 (by omega) w2 la 0 (by omega) (Or.inl rfl) (fun q p o p1 p2 o1 o2 => by omega) (fun p o p1 p2 o1 o2 => by omega) (hm2.to (fun p o p1 p2 o1 o2 => by rw [decide_eq_false (by omega), Bool.false_and])) ((hf2 _ (by omega)).trans h85) (fun k hk => hf2 k (by omega))) ⟨rfl, rfl, rfl, rfl, rfl, rfl, trivial⟩
  · rw [if_pos (by omega)] at hpp
    subst hpp
    refine vi_iconst 11 rfl ?_
    refine vi_goto 12 rfl ?_
    refine vi_istore 14 rfl rfl ?_
    refine vi_iconst 15 rfl ?_
    refine vi_istore 16 rfl rfl ?_
    exact vi_lc (lp1 0 (by omega) w2 la 0 (by omega) (Or.inl rfl) (fun q p o p1 p2 o1 o2 => by omega) (fun p o p1 p2 o1 o2 => by omega) (hm2.to (fun p o p1 p2 o1 o2 => by rw [decide_eq_false (by omega), Bool.false_and])) ((hf2 _ (by omega)).trans h85) (fun k hk => hf2 k (by omega))) ⟨rfl, rfl, rfl, rfl, rfl, rfl, trivial⟩
def wb_oth (hl sf t x : Int) : Int := if wb_pa hl sf t < 0 then 0 else wb_pr x (wb_pa hl sf t)
/-- from this mixture such a change leads to that pair -/
def wb_HF (n : Int) (c s : Int → Int) (sd sf hl t m : Int) (K : Int → Bool) (x r : Int) : Bool := wb_LB n c s sd sf hl t m (wb_pr x t) (wb_oth hl sf t x) r && K (wb_wp x t r)
theorem sp_X1_isFoundFrom {m t x : Int} {la : Int → Int} (hbr : wb_Br w (wb_pa hl sf t) bt mo th be bh) (h85 : w 85 = aI 625 la) (hla : ∀ p o, 0 ≤ p → p < 25 → 0 ≤ o → o < (if wb_pa hl sf t < 0 then 1 else 25) → wb_lv n c s sd sf hl t m la p o) (hwo : wb_Wo w hl wt ct mt) (hbk : wb_Bk w 4 n c s sd sf bo tu g) (hK : wb_rp g K) (hR : wb_BR n c s sd sf) (hHL : wb_HL hl n c sd sf) (ht : 0 ≤ t ∧ t < 3) (hx : 0 ≤ x ∧ x < 15625)
    (k1 : ∀ (w' : wb_W), 0 ≤ wb_nxt (wb_HF n c s sd sf hl t m K x) 25 0 → wb_Br w' (wb_pa hl sf t) bt mo th x (wb_wp x t (wb_nxt (wb_HF n c s sd sf hl t m K x) 25 0)) → (∀ k, k ≠ 82 → w' k = w k) → Q (some (.int (wb_i 1))) N w')
    (k0 : (∀ r, 0 ≤ r → r < 25 → wb_HF n c s sd sf hl t m K x r = false) → Q (some (.int (wb_i 0))) N w) : wb_M G M_X1_isFoundFrom [.ref 82, .int (wb_i x), .int (wb_i t)] N w Q := by
  unfold wb_M
  have hpr := wb_pa_rg (t := t) hHL hR
  have hbr' := hbr
  unfold wb_Br at hbr'
  have p1 := wb_pr_rg (x := x) (t := t) hx.1
  have p2 := wb_pr_rg (x := x) (t := wb_pa hl sf t) hx.1
  have ho : 0 ≤ wb_oth hl sf t x ∧ wb_oth hl sf t x < (if wb_pa hl sf t < 0 then 1 else 25) := by unfold wb_oth; split <;> omega
  have ho2 : wb_oth hl sf t x < 25 := by revert ho; split <;> omega
  obtain ⟨hz, hzb⟩ := hla (wb_pr x t) (wb_oth hl sf t x) p1.1 (by omega) ho.1 ho.2
  obtain ⟨b0, b1, b2, b3, b4⟩ := hbk
  have lp : ∀ i, i ≤ 25 → 0 ≤ i → (∀ r, 0 ≤ r → r < i → wb_HF n c s sd sf hl t m K x r = false) → wb_V G M_X1_isFoundFrom 40 [(0, .ref 82), (1, .int (wb_i x)), (2, .int (wb_i t)), (4, .int (wb_i (la (wb_oth hl sf t x * 25 + wb_pr x t)))), (5, .int (wb_i i))] [] N w 0 0 Q := by
    refine wb_up 25 _ ?_
    intro i ih hi hi0 hno
    have hsh := fun q : i < 25 => wb_sh1 (d := la (wb_oth hl sf t x * 25 + wb_pr x t)) (m := i) (by omega) (by omega)
    have hwr := fun q : i < 25 => (wb_wp_rg hx ht (r := i) ⟨hi0, q⟩).1
    have hstep : i < 25 → wb_HF n c s sd sf hl t m K x i = false → wb_V G M_X1_isFoundFrom 40 [(0, .ref 82), (1, .int (wb_i x)), (2, .int (wb_i t)), (4, .int (wb_i (la (wb_oth hl sf t x * 25 + wb_pr x t)))), (5, .int (wb_i (i + 1)))] [] N w 0 0 Q := fun q hf => ih (i + 1) (by omega) (by omega) (by omega) (fun r r1 r2 => by by_cases hr : r = i; (rw [hr]; exact hf); exact hno r r1 (by omega))
    refine vi_iload 23 rfl rfl ?_
    refine vi_bipush 24 rfl (by decide) ?_
    refine vi_icmp_ge 25 rfl (by omega) (by omega) (fun c_44 => ?_) (fun c_44 => ?_)
    · refine vi_iconst 55 rfl ?_
      exact vi_ireturn 56 rfl rfl rfl (Nat.zero_le _) (Nat.zero_le _) (k0 (fun r r1 r2 => hno r r1 (by omega)))
    · refine vi_iload 26 rfl rfl ?_
      refine vi_iload 27 rfl rfl ?_
      refine vi_ishr 28 rfl ?_
      refine vi_iconst 29 rfl ?_
      refine vi_iand 30 rfl ?_
      rw [hsh (by omega)]
      refine vi_if_eq 31 rfl (by split <;> decide) (fun c_54 => ?_) (fun c_54 => ?_)
      · have hbf : wb_bt (la (wb_oth hl sf t x * 25 + wb_pr x t)) i = false := by (cases hh : wb_bt (la (wb_oth hl sf t x * 25 + wb_pr x t)) i with | false => rfl | true => rw [hh] at c_54; simp at c_54)
        have hF : wb_HF n c s sd sf hl t m K x i = false := by (unfold wb_HF; rw [← hzb i hi0 (by omega), hbf, Bool.false_and])
        refine vi_iinc 53 rfl rfl rfl ?_
        refine vi_goto 54 rfl ?_
        exact vi_lc (hstep (by omega) hF) ⟨rfl, rfl, rfl, rfl, rfl, trivial⟩
      · have hbt : wb_bt (la (wb_oth hl sf t x * 25 + wb_pr x t)) i = true := by (cases hh : wb_bt (la (wb_oth hl sf t x * 25 + wb_pr x t)) i with | true => rfl | false => rw [hh] at c_54; simp at c_54)
        have hwi := hwr (by omega)
        refine vi_aload_n 32 rfl rfl ?_
        refine vi_get 33 rfl f_X1_29 hbr' rfl rfl ?_
        refine vi_get 34 rfl f_X1_58 hwo.1 rfl rfl ?_
        refine vi_get 35 rfl f_X1_137 b0 rfl rfl ?_
        refine vi_iload_n 36 rfl rfl ?_
        refine vi_iload_n 37 rfl rfl ?_
        refine vi_iload 38 rfl rfl ?_
        refine vi_S3 39 ok_X11_withPair rfl c_X1_140 rfl ?_
        refine sp_X11_withPair (by omega) (by omega) (by omega) ?_
        refine vi_V1 40 ok_X5_has rfl c_X1_143 b3 rfl rfl ?_
        refine sp_X5_has (b := 7) ⟨b3, b4⟩ hK (by omega) (fun b_74 => ?_) (fun b_74 => ?_)
        · have hF : wb_HF n c s sd sf hl t m K x i = true := by (unfold wb_HF; rw [← hzb i hi0 (by omega), hbt, Bool.true_and]; exact b_74.2)
          have hnx : wb_nxt (wb_HF n c s sd sf hl t m K x) 25 0 = i := wb_nxt_at 25 0 i hi0 (by omega) hF hno
          refine vi_if_eq 41 rfl (by omega) (fun c => absurd c (by decide)) (fun _ => ?_)
          refine vi_aload_n 42 rfl rfl ?_
          refine vi_iload_n 43 rfl rfl ?_
          refine vi_put 44 rfl f_X1_146 hbr' rfl rfl rfl rfl ?_
          refine vi_aload_n 45 rfl rfl ?_
          refine vi_iload_n 46 rfl rfl ?_
          refine vi_iload_n 47 rfl rfl ?_
          refine vi_iload 48 rfl rfl ?_
          refine vi_S3 49 ok_X11_withPair rfl c_X1_140 rfl ?_
          refine sp_X11_withPair (by omega) (by omega) (by omega) ?_
          refine vi_put 50 rfl f_X1_149 wb_ups rfl rfl rfl rfl ?_
          refine vi_iconst 51 rfl ?_
          exact vi_ireturn 52 rfl rfl rfl (Nat.zero_le _) (Nat.zero_le _) (k1 _ (by omega) (by rw [hnx]; exact wb_ups) (fun k hk => by rw [wb_upn hk, wb_upn hk]))
        · have hF : wb_HF n c s sd sf hl t m K x i = false := by (unfold wb_HF; rw [← hzb i hi0 (by omega), hbt, Bool.true_and]; cases hh : K (wb_wp x t i) with | false => rfl | true => exact absurd ⟨hwi, hh⟩ b_74)
          refine vi_if_eq 41 rfl (by omega) (fun _ => ?_) (fun c => absurd c (by decide))
          refine vi_iinc 53 rfl rfl rfl ?_
          refine vi_goto 54 rfl ?_
          exact vi_lc (hstep (by omega) hF) ⟨rfl, rfl, rfl, rfl, rfl, trivial⟩
  refine vi_aload_n 0 rfl rfl ?_
  refine vi_get 1 rfl f_X1_22 hbr' rfl rfl ?_
  refine vi_if_ge 2 rfl (by omega) (fun c_4 => ?_) (fun c_4 => ?_)
  · have eo : wb_pr x (wb_pa hl sf t) = wb_oth hl sf t x := by unfold wb_oth; rw [if_neg (by omega)]
    refine vi_iload_n 5 rfl rfl ?_
    refine vi_aload_n 6 rfl rfl ?_
    refine vi_get 7 rfl f_X1_22 hbr' rfl rfl ?_
    refine vi_S2 8 ok_X11_pairOf rfl c_X1_134 rfl ?_
    refine sp_X11_pairOf (by omega) (by omega) ?_
    refine vi_istore_n 9 rfl rfl ?_
    refine vi_aload_n 10 rfl rfl ?_
    refine vi_get 11 rfl f_X1_18 hbr' rfl rfl ?_
    refine vi_iload_n 12 rfl rfl ?_
    refine vi_bipush 13 rfl (by decide) ?_
    refine vi_imul 14 rfl ?_
    refine vi_iload_n 15 rfl rfl ?_
    refine vi_iload_n 16 rfl rfl ?_
    refine vi_S2 17 ok_X11_pairOf rfl c_X1_134 rfl ?_
    refine sp_X11_pairOf (by omega) (by omega) ?_
    refine vi_iadd 18 rfl ?_
    refine vi_iald 19 rfl h85 (by omega) ?_
    rw [eo]
    refine vi_istore 20 rfl rfl ?_
    refine vi_iconst 21 rfl ?_
    refine vi_istore 22 rfl rfl ?_
    exact vi_lc (lp 0 (by omega) (by omega) (fun r r1 r2 => by omega)) ⟨rfl, rfl, rfl, rfl, rfl, trivial⟩
  · have eo : (0 : Int) = wb_oth hl sf t x := by unfold wb_oth; rw [if_pos (by omega)]
    refine vi_iconst 3 rfl ?_
    refine vi_goto 4 rfl ?_
    refine vi_istore_n 9 rfl rfl ?_
    refine vi_aload_n 10 rfl rfl ?_
    refine vi_get 11 rfl f_X1_18 hbr' rfl rfl ?_
    refine vi_iload_n 12 rfl rfl ?_
    refine vi_bipush 13 rfl (by decide) ?_
    refine vi_imul 14 rfl ?_
    refine vi_iload_n 15 rfl rfl ?_
    refine vi_iload_n 16 rfl rfl ?_
    refine vi_S2 17 ok_X11_pairOf rfl c_X1_134 rfl ?_
    refine sp_X11_pairOf (by omega) (by omega) ?_
    refine vi_iadd 18 rfl ?_
    refine vi_iald 19 rfl h85 (by omega) ?_
    rw [eo]
    refine vi_istore 20 rfl rfl ?_
    refine vi_iconst 21 rfl ?_
    refine vi_istore 22 rfl rfl ?_
    exact vi_lc (lp 0 (by omega) (by omega) (fun r r1 r2 => by omega)) ⟨rfl, rfl, rfl, rfl, rfl, trivial⟩
theorem sp_X1_isFound {m t : Int} {la : Int → Int} {gs : Int → Int64} (hbr : wb_Br w (wb_pa hl sf t) bt mo th be bh) (h85 : w 85 = aI 625 la) (hla : ∀ p o, 0 ≤ p → p < 25 → 0 ≤ o → o < (if wb_pa hl sf t < 0 then 1 else 25) → wb_lv n c s sd sf hl t m la p o) (h83 : wb_Mw w 83 gs) (hgs : wb_rp gs (wb_S0 n c s sd sf K hl t)) (hms : wb_Ms w 86 30 t (wb_pa hl sf t) (fun p o => decide (o < (if wb_pa hl sf t < 0 then 1 else 25)) && wb_ex (wb_LB n c s sd sf hl t m p o) 25)) (hwo : wb_Wo w hl wt ct mt) (hbk : wb_Bk w 4 n c s sd sf bo tu g) (hK : wb_rp g K) (hR : wb_BR n c s sd sf) (hHL : wb_HL hl n c sd sf) (ht : 0 ≤ t ∧ t < 3)
    (k1 : ∀ (w' : wb_W) (g' : Int → Int64) (x : Int), (0 ≤ x ∧ x < 15625) → wb_S0 n c s sd sf K hl t x = true → 0 ≤ wb_nxt (wb_HF n c s sd sf hl t m K x) 25 0 → (∀ y, 0 ≤ y → y < x → wb_S0 n c s sd sf K hl t y = true → ∀ r, 0 ≤ r → r < 25 → wb_HF n c s sd sf hl t m K y r = false) → wb_Br w' (wb_pa hl sf t) bt mo th x (wb_wp x t (wb_nxt (wb_HF n c s sd sf hl t m K x) 25 0)) → wb_Mw w' 83 g' → (∀ k, k ≠ 82 → k ≠ 84 → w' k = w k) → Q (some (.int (wb_i 1))) N w')
    (k0 : ∀ (w' : wb_W) (g' : Int → Int64), (∀ y, 0 ≤ y → y < 15625 → wb_S0 n c s sd sf K hl t y = true → ∀ r, 0 ≤ r → r < 25 → wb_HF n c s sd sf hl t m K y r = false) → wb_Br w' (wb_pa hl sf t) bt mo th be bh → wb_Mw w' 83 g' → (∀ k, k ≠ 82 → k ≠ 84 → w' k = w k) → Q (some (.int (wb_i 0))) N w') : wb_M G M_X1_isFound [.ref 82, .int (wb_i t)] N w Q := by
  unfold wb_M
  have hpr := wb_pa_rg (t := t) hHL hR
  have hbr' := hbr
  unfold wb_Br at hbr'
  have hmx : ∀ y, 0 ≤ y → y < 15625 → wb_mp (fun p o => decide (o < (if wb_pa hl sf t < 0 then 1 else 25)) && wb_ex (wb_LB n c s sd sf hl t m p o) 25) t (wb_pa hl sf t) y = false → ∀ r, 0 ≤ r → r < 25 → wb_HF n c s sd sf hl t m K y r = false := fun y y1 y2 h r r1 r2 => by
    have p2 := wb_pr_rg (x := y) (t := wb_pa hl sf t) y1
    have ho : wb_oth hl sf t y < (if wb_pa hl sf t < 0 then 1 else 25) := by unfold wb_oth; split <;> omega
    have h2 : (decide (wb_oth hl sf t y < (if wb_pa hl sf t < 0 then 1 else 25)) && wb_ex (wb_LB n c s sd sf hl t m (wb_pr y t) (wb_oth hl sf t y)) 25) = false := h
    rw [decide_eq_true ho, Bool.true_and] at h2
    unfold wb_HF
    rw [wb_ex_no.mp h2 r r1 (by omega), Bool.false_and]
  have lp : ∀ (g1 : Int → Int64) (S1 : Int → Bool), wb_rp g1 S1 → (∀ y, 0 ≤ y → y < 15625 → S1 y = true → wb_S0 n c s sd sf K hl t y = true) → (∀ y, 0 ≤ y → y < 15625 → wb_S0 n c s sd sf K hl t y = true → S1 y = false → ∀ r, 0 ≤ r → r < 25 → wb_HF n c s sd sf hl t m K y r = false) → ∀ w1 : wb_W, wb_Mw w1 83 g1 → (∀ k, k ≠ 84 → w1 k = w k) → ∀ i, i ≤ 15625 → ∀ f : Int, 0 ≤ i → ((f = -1 ∧ ∀ y, 0 ≤ y → y < 15625 → S1 y = true → ∀ r, 0 ≤ r → r < 25 → wb_HF n c s sd sf hl t m K y r = false) ∨ ((i ≤ f ∧ f < 15625) ∧ S1 f = true ∧ ∀ y, 0 ≤ y → y < f → S1 y = true → ∀ r, 0 ≤ r → r < 25 → wb_HF n c s sd sf hl t m K y r = false)) → wb_V G M_X1_isFound 22 [(0, .ref 82), (1, .int (wb_i t)), (2, .int (wb_i f)), (3, .int (wb_i i))] [] N w1 0 0 Q := by
    intro g1 S1 hg1 hs1 hs0 w1 hm1 ef
    refine wb_up 15625 _ ?_
    intro i ih hi f hi0 hf
    have hbr1 : wb_Br w1 (wb_pa hl sf t) bt mo th be bh := (ef 82 (by omega)).trans hbr
    have hbr1' := hbr1
    unfold wb_Br at hbr1'
    have hfr : -1 ≤ f ∧ f < 15625 := by omega
    have hnx := wb_nx_cases S1 (f + 1)
    have all : ∀ x, (∀ y, 0 ≤ y → y < x → S1 y = true → ∀ r, 0 ≤ r → r < 25 → wb_HF n c s sd sf hl t m K y r = false) → x ≤ 15625 → ∀ y, 0 ≤ y → y < x → wb_S0 n c s sd sf K hl t y = true → ∀ r, 0 ≤ r → r < 25 → wb_HF n c s sd sf hl t m K y r = false := fun x h hx y y1 y2 y3 => by
      cases hS : S1 y with
      | true => exact h y y1 y2 hS
      | false => exact hs0 y y1 (by omega) y3 hS
    refine vi_iload_n 12 rfl rfl ?_
    refine vi_sipush 13 rfl (by decide) ?_
    refine vi_icmp_ge 14 rfl (by omega) (by omega) (fun c_26 => ?_) (fun c_26 => ?_)
    · refine vi_iconst 33 rfl ?_
      exact vi_ireturn 34 rfl rfl rfl (Nat.zero_le _) (Nat.zero_le _) (k0 w1 g1 (by rcases hf with ⟨f1, f2⟩ | ⟨f1, f2, f3⟩; (exact all 15625 f2 (by omega)); omega) hbr1 hm1 (fun k p1 p2 => ef k p2))
    · refine vi_iload_n 15 rfl rfl ?_
      refine vi_if_lt 16 rfl (by omega) (fun c_30 => ?_) (fun c_30 => ?_)
      · refine vi_iconst 33 rfl ?_
        exact vi_ireturn 34 rfl rfl rfl (Nat.zero_le _) (Nat.zero_le _) (k0 w1 g1 (by rcases hf with ⟨f1, f2⟩ | ⟨f1, f2, f3⟩; (exact all 15625 f2 (by omega)); omega) hbr1 hm1 (fun k p1 p2 => ef k p2))
      · refine vi_aload_n 17 rfl rfl ?_
        refine vi_iload_n 18 rfl rfl ?_
        refine vi_iload_n 19 rfl rfl ?_
        refine vi_V2 20 ok_X1_isFoundFrom rfl c_X1_131 hbr1' rfl rfl ?_
        rcases hf with ⟨f1, _⟩ | ⟨f1, f2, f3⟩
        · omega
        refine sp_X1_isFoundFrom hbr1 ((ef 85 (by omega)).trans h85) hla (hwo.fr (fun k hk => ef k (by omega))) (hbk.fr (fun k p1 p2 => ef k (by omega))) hK hR hHL ht (by omega) (fun w2 hr2 hbr2 hf2 => ?_) (fun hno => ?_)
        · refine vi_if_eq 21 rfl (by decide) (fun c => absurd c (by decide)) (fun _ => ?_); refine vi_iconst 22 rfl ?_; exact vi_ireturn 23 rfl rfl rfl (Nat.zero_le _) (Nat.zero_le _) (k1 w2 g1 f (by omega) (hs1 f (by omega) (by omega) f2) hr2 (all f f3 (by omega)) hbr2 (hm1.fr (fun k p1 p2 => hf2 k (by omega))) (fun k p1 p2 => (hf2 k p1).trans (ef k p2)))
        refine vi_if_eq 21 rfl (by omega) (fun c_39 => ?_) (fun c_39 => by exfalso; omega)
        refine vi_aload_n 24 rfl rfl ?_
        refine vi_get 25 rfl f_X1_12 hbr1' rfl rfl ?_
        refine vi_iload_n 26 rfl rfl ?_
        refine vi_iconst 27 rfl ?_
        refine vi_iadd 28 rfl ?_
        refine vi_V1 29 ok_X5_next rfl c_X1_124 hm1.1 rfl rfl ?_
        refine sp_X5_next hm1 hg1 (by omega) ?_
        refine vi_istore_n 30 rfl rfl ?_
        refine vi_iinc 31 rfl rfl rfl ?_
        refine vi_goto 32 rfl ?_
        exact vi_lc (ih (i + 1) (by omega) (by omega) (wb_nx S1 (f + 1)) (by omega) (by rcases hnx with ⟨n1, n2, n3, n4⟩ | ⟨n1, n2⟩; (exact Or.inr ⟨by omega, n3, fun y y1 y2 y3 => by by_cases hy : y < f; (exact f3 y y1 hy y3); (by_cases hy2 : y = f; (subst hy2; exact hno); (have := n4 y (by omega) y2; rw [this] at y3; cases y3))⟩); (exact Or.inl ⟨n1, fun y y1 y2 y3 => by by_cases hy : y < f; (exact f3 y y1 hy y3); (by_cases hy2 : y = f; (subst hy2; exact hno); (have := n2 y (by omega) y2; rw [this] at y3; cases y3))⟩))) ⟨rfl, rfl, rfl, rfl, trivial⟩
  have hms' := hms
  obtain ⟨y0, y1, m0, -⟩ := hms'
  refine vi_aload_n 0 rfl rfl ?_
  refine vi_get 1 rfl f_X1_44 hbr' rfl rfl ?_
  refine vi_aload_n 2 rfl rfl ?_
  refine vi_get 3 rfl f_X1_12 hbr' rfl rfl ?_
  refine vi_V1 4 ok_X4_narrow rfl c_X1_127 m0 rfl rfl ?_
  refine sp_X4_narrow hms h83 hgs (by omega) ht (by omega) (fun w2 g2 hg2 hm2 hf2 => ?_)
  refine vi_aload_n 5 rfl rfl ?_
  refine vi_get 6 rfl f_X1_12 ((hf2 _ (by omega)).trans hbr') rfl rfl ?_
  refine vi_iconst 7 rfl ?_
  refine vi_V1 8 ok_X5_next rfl c_X1_124 hm2.1 rfl rfl ?_
  refine sp_X5_next hm2 hg2 (by omega) ?_
  refine vi_istore_n 9 rfl rfl ?_
  refine vi_iconst 10 rfl ?_
  refine vi_istore_n 11 rfl rfl ?_
  refine vi_lc (lp g2 _ hg2 (fun y y1 y2 h => (wb_and h).1) (fun y y1 y2 h h2 => hmx y y1 y2 (by rw [h, Bool.true_and] at h2; exact h2)) w2 hm2 (fun k hk => hf2 k hk) 0 (by omega) _ (by omega) ?_) ⟨rfl, rfl, rfl, rfl, trivial⟩
  rcases wb_nx_cases (fun x => wb_S0 n c s sd sf K hl t x && wb_mp (fun p o => decide (o < (if wb_pa hl sf t < 0 then 1 else 25)) && wb_ex (wb_LB n c s sd sf hl t m p o) 25) t (wb_pa hl sf t) x) 0 with ⟨n1, n2, n3, n4⟩ | ⟨n1, n2⟩
  · exact Or.inr ⟨⟨n1, n2⟩, n3, fun y y1 y2 y3 => by rw [n4 y y1 y2] at y3; cases y3⟩
  · exact Or.inl ⟨n1, fun y y1 y2 y3 => by rw [n2 y y1 y2] at y3; cases y3⟩
end WBS43
