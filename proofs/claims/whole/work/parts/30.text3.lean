/-! ===== tests, boths, the whole rule ===== -/
def wb_cl (z : Int) : Int := if 0 < (if z < 65 then z else 65) then (if z < 65 then z else 65) else 0
theorem wb_cl_ok (z : Int) : (0 ≤ wb_cl z ∧ wb_cl z ≤ 65) ∧ ∀ v : Int, 0 ≤ v → v ≤ 64 → (v < wb_cl z ↔ v < z) := by
  unfold wb_cl
  refine ⟨?_, fun v h1 h2 => ?_⟩
  · split <;> split <;> omega
  · split <;> split <;> omega
theorem wb_rp_row {g g' : Int → Int64} {S T : Int → Bool} {p : Int} {lo hi : Int64} (hS : wb_rp g S) (hg : ∀ j, g' j = if j = 2 * p then g j &&& lo else if j = 2 * p + 1 then g j &&& hi else g j) (hlo : ∀ q, 0 ≤ q → q < 64 → wb_tb lo q = T q) (hhi : ∀ q, 0 ≤ q → q < 61 → wb_tb hi q = T (64 + q)) : wb_rp g' (fun x => S x && (decide (x / 125 ≠ p) || T (x % 125))) := by
  intro k b hk0 hk hb0 hb
  rw [hg k]
  have hSk := hS k b hk0 hk hb0 hb
  by_cases h1 : k = 2 * p
  · rw [if_pos h1, wb_tb_and, hSk, hlo b hb0 hb]
    have e1 : k % 2 = 0 := by omega
    have e2 : k / 2 = p := by omega
    simp only [e1, e2]
    rw [show p * 125 + 0 * 64 + b = p * 125 + b by omega, show (p * 125 + b) / 125 = p by omega, show (p * 125 + b) % 125 = b by omega]
    simp [Bool.and_assoc]
  · rw [if_neg h1]
    by_cases h2 : k = 2 * p + 1
    · rw [if_pos h2, wb_tb_and, hSk]
      have e1 : k % 2 = 1 := by omega
      have e2 : k / 2 = p := by omega
      simp only [e1, e2]
      by_cases h61 : b < 61
      · rw [hhi b hb0 h61, show p * 125 + 1 * 64 + b = p * 125 + (64 + b) by omega, show (p * 125 + (64 + b)) / 125 = p by omega, show (p * 125 + (64 + b)) % 125 = 64 + b by omega]
        simp [Bool.and_assoc]
      · rw [show decide (1 * 64 + b < 125) = false from decide_eq_false (by omega)]
        rfl
    · rw [if_neg h2, hSk]
      by_cases hd : k % 2 * 64 + b < 125
      · dsimp only
        rw [show (k / 2 * 125 + k % 2 * 64 + b) / 125 = k / 2 by omega]
        simp [hd, show ¬ k / 2 = p by omega]
      · simp [hd]
theorem wb_rp.to {g : Int → Int64} {S S' : Int → Bool} (h : wb_rp g S) (hS : ∀ x, 0 ≤ x → x < 15625 → S x = S' x) : wb_rp g S' := by
  intro k b hk0 hk hb0 hb
  rw [h k b hk0 hk hb0 hb]
  by_cases hd : k % 2 * 64 + b < 125
  · rw [hS _ (by omega) (by omega)]
  · simp [hd]
section WBS30
variable {G : wb_G} {N : Nat} {w : wb_W} {Q : Option Value → Nat → wb_W → Prop} {b : Nat} {sg : Int → Int} {cnt : Int} {tp tq : Int → Int} {bl bh : Int → Int64} {wa re nu : Int} {g : Int → Int64} {S : Int → Bool}
theorem sp_X8_narrowBoth {p lf : Int} (hb : wb_Tx w b sg cnt tp tq bl bh wa re nu) (hm : wb_Mw w (b + 2) g) (hS : wb_rp g S) (hbw : wb_bw tq bl bh) (hq : ∀ p, 0 ≤ p → p < 125 → 0 ≤ wb_su3 tq p ∧ wb_su3 tq p ≤ 64) (hp : 0 ≤ p ∧ p < 125) (hlf : -1000 ≤ lf ∧ lf ≤ 1000) (hre : 0 ≤ re ∧ re ≤ 1000)
    (hQ : ∀ (w' : wb_W) (g' : Int → Int64), wb_rp g' (fun x => S x && (decide (x / 125 ≠ p) || wb_ts re lf (wb_su3 tq (x % 125)))) → wb_Mw w' (b + 2) g' → (∀ k, k ≠ b + 3 → w' k = w k) → Q none N w') : wb_M G M_X8_narrowBoth [.ref b, .int (wb_i p), .int (wb_i lf)] N w Q := by
  obtain ⟨h0, h1, h2, h3, h4, h5⟩ := hb
  have hm' := hm
  obtain ⟨m0, m1⟩ := hm'
  unfold wb_M
  obtain ⟨a1, a2⟩ := wb_cl_ok lf
  obtain ⟨c1, c2⟩ := wb_cl_ok (lf + 1)
  have t60 : re = 60 → (∀ q, 0 ≤ q → q < 64 → wb_tb (bl (wb_cl lf)) q = wb_ts re lf (wb_su3 tq q)) ∧ (∀ q, 0 ≤ q → q < 61 → wb_tb (bh (wb_cl lf)) q = wb_ts re lf (wb_su3 tq (64 + q))) := by
    intro hr
    refine ⟨fun q q1 q2 => ?_, fun q q1 q2 => ?_⟩
    · have s := hq q q1 (by omega)
      rw [(hbw _ q a1.1 (by omega) q1 q2).1, wb_ts, if_pos hr]
      congr 1; exact propext (a2 _ s.1 s.2)
    · have s := hq (64 + q) (by omega) (by omega)
      rw [(hbw _ q a1.1 (by omega) q1 (by omega)).2, wb_ts, if_pos hr, decide_eq_true (show q < 61 by omega), Bool.true_and]
      congr 1; exact propext (a2 _ s.1 s.2)
  have t62 : ¬ re = 60 → re = 62 → (∀ q, 0 ≤ q → q < 64 → wb_tb (bl (wb_cl (lf + 1)) ^^^ -1) q = wb_ts re lf (wb_su3 tq q)) ∧ (∀ q, 0 ≤ q → q < 61 → wb_tb (bh (wb_cl (lf + 1)) ^^^ -1) q = wb_ts re lf (wb_su3 tq (64 + q))) := by
    intro hr hr2
    refine ⟨fun q q1 q2 => ?_, fun q q1 q2 => ?_⟩
    · have s := hq q q1 (by omega)
      rw [wb_tb_not ⟨q1, q2⟩, (hbw _ q c1.1 (by omega) q1 q2).1, wb_ts, if_neg hr, if_pos hr2, ← decide_not]
      congr 1; apply propext; have := c2 _ s.1 s.2; omega
    · have s := hq (64 + q) (by omega) (by omega)
      rw [wb_tb_not (by omega), (hbw _ q c1.1 (by omega) q1 (by omega)).2, wb_ts, if_neg hr, if_pos hr2, decide_eq_true (show q < 61 by omega), Bool.true_and, ← decide_not]
      congr 1; apply propext; have := c2 _ s.1 s.2; omega
  have t61 : ¬ re = 60 → ¬ re = 62 → (∀ q, 0 ≤ q → q < 64 → wb_tb (bl (wb_cl (lf + 1)) &&& (bl (wb_cl lf) ^^^ -1)) q = wb_ts re lf (wb_su3 tq q)) ∧ (∀ q, 0 ≤ q → q < 61 → wb_tb (bh (wb_cl (lf + 1)) &&& (bh (wb_cl lf) ^^^ -1)) q = wb_ts re lf (wb_su3 tq (64 + q))) := by
    intro hr hr2
    refine ⟨fun q q1 q2 => ?_, fun q q1 q2 => ?_⟩
    · have s := hq q q1 (by omega)
      rw [wb_tb_and, wb_tb_not ⟨q1, q2⟩, (hbw _ q c1.1 (by omega) q1 q2).1, (hbw _ q a1.1 (by omega) q1 q2).1, wb_ts, if_neg hr, if_neg hr2, ← decide_not, ← Bool.decide_and]
      congr 1; apply propext; have := c2 _ s.1 s.2; have := a2 _ s.1 s.2; omega
    · have s := hq (64 + q) (by omega) (by omega)
      rw [wb_tb_and, wb_tb_not (by omega), (hbw _ q c1.1 (by omega) q1 (by omega)).2, (hbw _ q a1.1 (by omega) q1 (by omega)).2, wb_ts, if_neg hr, if_neg hr2, decide_eq_true (show q < 61 by omega), Bool.true_and, Bool.true_and, ← decide_not, ← Bool.decide_and]
      congr 1; apply propext; have := c2 _ s.1 s.2; have := a2 _ s.1 s.2; omega
  have ecl : (if 0 < (if lf < 65 then lf else 65) then (if lf < 65 then lf else 65) else 0) = wb_cl lf := rfl
  have ecl1 : (if 0 < (if lf + 1 < 65 then lf + 1 else 65) then (if lf + 1 < 65 then lf + 1 else 65) else 0) = wb_cl (lf + 1) := rfl
  refine vi_iconst 0 rfl ?_
  refine vi_bipush 1 rfl (by decide) ?_
  refine vi_iload_n 2 rfl rfl ?_
  refine vi_min 3 rfl c_X8_93 rfl (by omega) (by omega) ?_
  refine vi_max 4 rfl c_X8_98 rfl (by omega) (by split <;> omega) ?_
  rw [ecl]
  refine vi_istore_n 5 rfl rfl ?_
  refine vi_iconst 6 rfl ?_
  refine vi_bipush 7 rfl (by decide) ?_
  refine vi_iload_n 8 rfl rfl ?_
  refine vi_iconst 9 rfl ?_
  refine vi_iadd 10 rfl ?_
  refine vi_min 11 rfl c_X8_93 rfl (by omega) (by omega) ?_
  refine vi_max 12 rfl c_X8_98 rfl (by omega) (by split <;> omega) ?_
  rw [ecl1]
  refine vi_istore 13 rfl rfl ?_
  refine vi_aload_n 14 rfl rfl ?_
  refine vi_get 15 rfl f_X8_79 h0 rfl rfl ?_
  refine vi_bipush 16 rfl (by decide) ?_
  refine vi_icmp_ne 17 rfl (by omega) (by omega) (fun c_31 => ?_) (fun c_31 => ?_)
  · refine vi_aload_n 31 rfl rfl ?_
    refine vi_get 32 rfl f_X8_79 h0 rfl rfl ?_
    refine vi_bipush 33 rfl (by decide) ?_
    refine vi_icmp_ne 34 rfl (by omega) (by omega) (fun c_63 => ?_) (fun c_63 => ?_)
    · refine vi_aload_n 52 rfl rfl ?_
      refine vi_get 53 rfl f_X8_18 h0 rfl rfl ?_
      refine vi_iload_n 54 rfl rfl ?_
      refine vi_aload_n 55 rfl rfl ?_
      refine vi_get 56 rfl f_X8_28 h0 rfl rfl ?_
      refine vi_iload 57 rfl rfl ?_
      refine vi_lald 58 rfl h4 (by omega) ?_
      refine vi_aload_n 59 rfl rfl ?_
      refine vi_get 60 rfl f_X8_28 h0 rfl rfl ?_
      refine vi_iload_n 61 rfl rfl ?_
      refine vi_lald 62 rfl h4 (by omega) ?_
      refine vi_ldc2 63 rfl k_X8_105 ?_
      refine vi_lxor 64 rfl ?_
      refine vi_land 65 rfl ?_
      refine vi_aload_n 66 rfl rfl ?_
      refine vi_get 67 rfl f_X8_32 h0 rfl rfl ?_
      refine vi_iload 68 rfl rfl ?_
      refine vi_lald 69 rfl h5 (by omega) ?_
      refine vi_aload_n 70 rfl rfl ?_
      refine vi_get 71 rfl f_X8_32 h0 rfl rfl ?_
      refine vi_iload_n 72 rfl rfl ?_
      refine vi_lald 73 rfl h5 (by omega) ?_
      refine vi_ldc2 74 rfl k_X8_105 ?_
      refine vi_lxor 75 rfl ?_
      refine vi_land 76 rfl ?_
      refine vi_V3 77 ok_X5_narrow rfl c_X8_101 m0 rfl rfl ?_
      refine sp_X5_narrow hm hp (fun w2 g2 hg2 hm2 hf2 => ?_)
      exact vi_return 78 rfl rfl (Nat.zero_le _) (Nat.zero_le _) (hQ w2 g2 (by first | exact wb_rp_row hS hg2 (t60 (by assumption)).1 (t60 (by assumption)).2 | exact wb_rp_row hS hg2 (t62 (by assumption) (by assumption)).1 (t62 (by assumption) (by assumption)).2 | exact wb_rp_row hS hg2 (t61 (by assumption) (by assumption)).1 (t61 (by assumption) (by assumption)).2) hm2 hf2)
    · refine vi_aload_n 35 rfl rfl ?_
      refine vi_get 36 rfl f_X8_18 h0 rfl rfl ?_
      refine vi_iload_n 37 rfl rfl ?_
      refine vi_aload_n 38 rfl rfl ?_
      refine vi_get 39 rfl f_X8_28 h0 rfl rfl ?_
      refine vi_iload 40 rfl rfl ?_
      refine vi_lald 41 rfl h4 (by omega) ?_
      refine vi_ldc2 42 rfl k_X8_105 ?_
      refine vi_lxor 43 rfl ?_
      refine vi_aload_n 44 rfl rfl ?_
      refine vi_get 45 rfl f_X8_32 h0 rfl rfl ?_
      refine vi_iload 46 rfl rfl ?_
      refine vi_lald 47 rfl h5 (by omega) ?_
      refine vi_ldc2 48 rfl k_X8_105 ?_
      refine vi_lxor 49 rfl ?_
      refine vi_V3 50 ok_X5_narrow rfl c_X8_101 m0 rfl rfl ?_
      refine sp_X5_narrow hm hp (fun w2 g2 hg2 hm2 hf2 => ?_)
      refine vi_goto 51 rfl ?_
      exact vi_return 78 rfl rfl (Nat.zero_le _) (Nat.zero_le _) (hQ w2 g2 (by first | exact wb_rp_row hS hg2 (t60 (by assumption)).1 (t60 (by assumption)).2 | exact wb_rp_row hS hg2 (t62 (by assumption) (by assumption)).1 (t62 (by assumption) (by assumption)).2 | exact wb_rp_row hS hg2 (t61 (by assumption) (by assumption)).1 (t61 (by assumption) (by assumption)).2) hm2 hf2)
  · refine vi_aload_n 18 rfl rfl ?_
    refine vi_get 19 rfl f_X8_18 h0 rfl rfl ?_
    refine vi_iload_n 20 rfl rfl ?_
    refine vi_aload_n 21 rfl rfl ?_
    refine vi_get 22 rfl f_X8_28 h0 rfl rfl ?_
    refine vi_iload_n 23 rfl rfl ?_
    refine vi_lald 24 rfl h4 (by omega) ?_
    refine vi_aload_n 25 rfl rfl ?_
    refine vi_get 26 rfl f_X8_32 h0 rfl rfl ?_
    refine vi_iload_n 27 rfl rfl ?_
    refine vi_lald 28 rfl h5 (by omega) ?_
    refine vi_V3 29 ok_X5_narrow rfl c_X8_101 m0 rfl rfl ?_
    refine sp_X5_narrow hm hp (fun w2 g2 hg2 hm2 hf2 => ?_)
    refine vi_goto 30 rfl ?_
    exact vi_return 78 rfl rfl (Nat.zero_le _) (Nat.zero_le _) (hQ w2 g2 (by first | exact wb_rp_row hS hg2 (t60 (by assumption)).1 (t60 (by assumption)).2 | exact wb_rp_row hS hg2 (t62 (by assumption) (by assumption)).1 (t62 (by assumption) (by assumption)).2 | exact wb_rp_row hS hg2 (t61 (by assumption) (by assumption)).1 (t61 (by assumption) (by assumption)).2) hm2 hf2)
/-- a test is put to all that are left -/
theorem sp_X8_endTest (hb : wb_Tx w b sg cnt tp tq bl bh wa re nu) (hm : wb_Mw w (b + 2) g) (hS : wb_rp g S) (hq : ∀ p, 0 ≤ p → p < 125 → 0 ≤ wb_su3 tq p ∧ wb_su3 tq p ≤ 64) (hpp : ∀ p, 0 ≤ p → p < 125 → 0 ≤ wb_su3 tp p ∧ wb_su3 tp p ≤ 64) (hnu : 0 ≤ nu ∧ nu ≤ 99) (hre : 0 ≤ re ∧ re ≤ 1000)
    (hQ : ∀ (w' : wb_W) (g' : Int → Int64) (tp' tq' : Int → Int) (bl' bh' : Int → Int64), (∀ i, 0 ≤ i → i < 3 → tp' i = 0 ∧ tq' i = 0) → wb_rp g' (fun x => S x && wb_ts re nu (wb_su3 tp (x / 125) + wb_su3 tq (x % 125))) → wb_Mw w' (b + 2) g' → wb_Tx w' b sg cnt tp' tq' bl' bh' wa re 0 → (∀ k, (k < b ∨ b + 8 ≤ k) → w' k = w k) → Q none N w') : wb_M G M_X8_endTest [.ref b] N w Q := by
  unfold wb_M
  have lp : ∀ (bl bh : Int → Int64), wb_bw tq bl bh → ∀ i, i ≤ 125 → ∀ (w1 : wb_W) (g1 : Int → Int64), 0 ≤ i → wb_rp g1 (fun x => S x && (decide (i ≤ x / 125) || wb_ts re nu (wb_su3 tp (x / 125) + wb_su3 tq (x % 125)))) → wb_Mw w1 (b + 2) g1 → wb_Tx w1 b sg cnt tp tq bl bh wa re nu → (∀ k, (k < b ∨ b + 8 ≤ k) → w1 k = w k) → wb_V G M_X8_endTest 6 [(0, .ref b), (1, .int (wb_i i))] [] N w1 0 0 Q := by
    intro bl bh hbw
    refine wb_up 125 _ ?_
    intro i ih hi w1 g1 hi0 hrp hm1 ht1 ef
    have ht2 := ht1
    obtain ⟨x0, x1, x2, x3, x4, x5⟩ := ht2
    have hpi := fun q : i < 125 => hpp i hi0 q
    have tse : ∀ v u : Int, wb_ts re (nu - v) u = wb_ts re nu (v + u) := fun v u => by
      unfold wb_ts
      split
      · congr 1; apply propext; omega
      · split
        · congr 1; apply propext; omega
        · congr 1; apply propext; omega
    refine vi_iload_n 4 rfl rfl ?_
    refine vi_bipush 5 rfl (by decide) ?_
    refine vi_icmp_ge 6 rfl (by omega) (by omega) (fun c_9 => ?_) (fun c_9 => ?_)
    · refine vi_aload_n 19 rfl rfl ?_
      refine vi_V0 20 ok_X8_beginTest rfl c_X8_59 x0 rfl rfl ?_
      refine sp_X8_beginTest ht1 (fun w2 tp2 tq2 hz2 ht3 hf2 => ?_)
      exact vi_return 21 rfl rfl (Nat.zero_le _) (Nat.zero_le _) (hQ w2 g1 tp2 tq2 bl bh hz2 (hrp.to (fun x p1 p2 => by rw [show decide (i ≤ x / 125) = false from decide_eq_false (by omega)]; rfl)) (hm1.fr (fun k q1 q2 => hf2 k (by omega) (by omega) (by omega))) ht3 (fun k hk => (hf2 k (by omega) (by omega) (by omega)).trans (ef k hk)))
    · have hpr := hpi (by omega)
      refine vi_aload_n 7 rfl rfl ?_
      refine vi_iload_n 8 rfl rfl ?_
      refine vi_aload_n 9 rfl rfl ?_
      refine vi_get 10 rfl f_X8_73 x0 rfl rfl ?_
      refine vi_aload_n 11 rfl rfl ?_
      refine vi_get 12 rfl f_X8_22 x0 rfl rfl ?_
      refine vi_iload_n 13 rfl rfl ?_
      refine vi_S2 14 ok_X8_sumOf rfl c_X8_85 rfl ?_
      refine sp_X8_sumOf x2 (by omega) ?_
      refine vi_isub 15 rfl ?_
      refine vi_V2 16 ok_X8_narrowBoth rfl c_X8_89 x0 rfl rfl ?_
      refine sp_X8_narrowBoth ht1 hm1 hrp hbw hq (by omega) (by omega) hre (fun w2 g2 hr2 hm2 hf2 => ?_)
      refine vi_iinc 17 rfl rfl rfl ?_
      refine vi_goto 18 rfl ?_
      refine vi_lc (ih (i + 1) (by omega) (by omega) w2 g2 (by omega) (hr2.to (fun x p1 p2 => ?_)) hm2 (ht1.fr (fun k q1 q2 q3 q4 => hf2 k (by omega))) (fun k hk => (hf2 k (by omega)).trans (ef k hk))) ⟨rfl, rfl, trivial⟩
      by_cases hxi : x / 125 = i
      · rw [hxi, tse]; simp [show ¬ i + 1 ≤ i by omega]
      · rw [show decide (i + 1 ≤ x / 125) = decide (i ≤ x / 125) by congr 1; apply propext; omega]; simp [hxi]
  have hb' := hb
  obtain ⟨x0, -⟩ := hb'
  refine vi_aload_n 0 rfl rfl ?_
  refine vi_V0 1 ok_X8_setBelow rfl c_X8_82 x0 rfl rfl ?_
  refine sp_X8_setBelow hb hq (fun w2 bl2 bh2 hbw2 ht2 hf2 => ?_)
  refine vi_iconst 2 rfl ?_
  refine vi_istore_n 3 rfl rfl ?_
  exact vi_lc (lp bl2 bh2 hbw2 0 (by omega) w2 g (by omega) (hS.to (fun x p1 p2 => by rw [show decide (0 ≤ x / 125) = true from decide_eq_true (by omega)]; simp)) (hm.fr (fun k q1 q2 => hf2 k (by omega) (by omega))) ht2 (fun k hk => hf2 k (by omega) (by omega))) ⟨rfl, rfl, trivial⟩
theorem sp_X8_readOn {s : Int} (hb : wb_Tx w b sg cnt tp tq bl bh wa re nu) (hs : 33 ≤ s ∧ s ≤ 126) (hl : ¬ wb_lnk s) (hnu : 0 ≤ nu ∧ nu ≤ 1000) (hwa : -1 ≤ wa ∧ wa ≤ 1000)
    (hQ : ∀ (w' : wb_W), wb_Tx w' b sg cnt (if 97 ≤ s ∧ s ≤ 99 then wb_u tp (s - 97) (tp (s - 97) + (if wa = 112 then 1 else 0)) else tp) (if 97 ≤ s ∧ s ≤ 99 then wb_u tq (s - 97) (tq (s - 97) + (if wa = 113 then 1 else 0)) else tq) bl bh (if s = 112 ∨ s = 113 then s else wa) (if wb_rel s then s else re) (if wb_dig s then nu * 10 + s - 48 else nu) → (∀ k, k ≠ b → k ≠ b + 4 → k ≠ b + 5 → w' k = w k) → Q none N w') : wb_M G M_X8_readOn [.ref b, .int (wb_i s)] N w Q := by
  obtain ⟨h0, h1, h2, h3, h4, h5⟩ := hb
  unfold wb_M
  refine vi_iload_n 0 rfl rfl ?_
  refine vi_bipush 1 rfl (by decide) ?_
  refine vi_icmp_eq 2 rfl (by omega) (by omega) (fun c_3 => ?_) (fun c_3 => ?_)
  · refine vi_aload_n 6 rfl rfl ?_
    refine vi_iload_n 7 rfl rfl ?_
    refine vi_put 8 rfl f_X8_76 (by assumption) rfl rfl rfl rfl ?_
    refine vi_goto 9 rfl ?_
    exact vi_return 69 rfl rfl (Nat.zero_le _) (Nat.zero_le _) (hQ _ (by first | (rw [if_neg (by omega), if_neg (by omega), if_pos (by omega), if_neg (by omega), if_neg (by omega)]; exact ⟨wb_ups, by rw [wb_upn (by omega)]; exact h1, by rw [wb_upn (by omega)]; exact h2, by rw [wb_upn (by omega)]; exact h3, by rw [wb_upn (by omega)]; exact h4, by rw [wb_upn (by omega)]; exact h5⟩) | (rw [if_neg (by omega), if_neg (by omega), if_neg (by omega), if_neg (by omega), if_pos (by omega)]; exact ⟨wb_ups, by rw [wb_upn (by omega)]; exact h1, by rw [wb_upn (by omega)]; exact h2, by rw [wb_upn (by omega)]; exact h3, by rw [wb_upn (by omega)]; exact h4, by rw [wb_upn (by omega)]; exact h5⟩) | (rw [if_neg (by omega), if_neg (by omega), if_neg (by omega), if_pos (by omega), if_neg (by omega)]; exact ⟨wb_ups, by rw [wb_upn (by omega)]; exact h1, by rw [wb_upn (by omega)]; exact h2, by rw [wb_upn (by omega)]; exact h3, by rw [wb_upn (by omega)]; exact h4, by rw [wb_upn (by omega)]; exact h5⟩) | (rw [if_neg (by omega), if_neg (by omega), if_neg (by omega), if_neg (by omega), if_neg (by omega)]; exact ⟨h0, h1, h2, h3, h4, h5⟩) | (rw [if_pos (show 97 ≤ s ∧ s ≤ 99 by omega), if_pos (show 97 ≤ s ∧ s ≤ 99 by omega), if_neg (show ¬ (s = 112 ∨ s = 113) by omega), if_neg (show ¬ wb_rel s by omega), if_neg (show ¬ wb_dig s by omega)]; exact ⟨by rw [wb_upn (by omega), wb_upn (by omega)]; exact h0, by rw [wb_upn (by omega), wb_upn (by omega)]; exact h1, by rw [wb_upn (by omega), wb_ups]; congr 2; split <;> omega, by rw [wb_ups]; congr 2; split <;> omega, by rw [wb_upn (by omega), wb_upn (by omega)]; exact h4, by rw [wb_upn (by omega), wb_upn (by omega)]; exact h5⟩)) (fun k p1 p2 p3 => by first | rfl | (rw [wb_upn p1]; done) | (rw [wb_upn p3, wb_upn p2]; done)))
  · refine vi_iload_n 3 rfl rfl ?_
    refine vi_bipush 4 rfl (by decide) ?_
    refine vi_icmp_ne 5 rfl (by omega) (by omega) (fun c_9 => ?_) (fun c_9 => ?_)
    · refine vi_iload_n 10 rfl rfl ?_
      refine vi_S1 11 ok_X8_isDigit rfl c_X8_47 rfl ?_
      refine sp_X8_isDigit (by omega) (fun b_21 => ?_) (fun b_21 => ?_)
      · refine vi_if_eq 12 rfl (by omega) (fun c => absurd c (by decide)) (fun _ => ?_)
        refine vi_aload_n 13 rfl rfl ?_
        refine vi_aload_n 14 rfl rfl ?_
        refine vi_get 15 rfl f_X8_73 (by assumption) rfl rfl ?_
        refine vi_bipush 16 rfl (by decide) ?_
        refine vi_imul 17 rfl ?_
        refine vi_iload_n 18 rfl rfl ?_
        refine vi_iadd 19 rfl ?_
        refine vi_bipush 20 rfl (by decide) ?_
        refine vi_isub 21 rfl ?_
        refine vi_put 22 rfl f_X8_73 (by assumption) rfl rfl rfl rfl ?_
        refine vi_goto 23 rfl ?_
        exact vi_return 69 rfl rfl (Nat.zero_le _) (Nat.zero_le _) (hQ _ (by first | (rw [if_neg (by omega), if_neg (by omega), if_pos (by omega), if_neg (by omega), if_neg (by omega)]; exact ⟨wb_ups, by rw [wb_upn (by omega)]; exact h1, by rw [wb_upn (by omega)]; exact h2, by rw [wb_upn (by omega)]; exact h3, by rw [wb_upn (by omega)]; exact h4, by rw [wb_upn (by omega)]; exact h5⟩) | (rw [if_neg (by omega), if_neg (by omega), if_neg (by omega), if_neg (by omega), if_pos (by omega)]; exact ⟨wb_ups, by rw [wb_upn (by omega)]; exact h1, by rw [wb_upn (by omega)]; exact h2, by rw [wb_upn (by omega)]; exact h3, by rw [wb_upn (by omega)]; exact h4, by rw [wb_upn (by omega)]; exact h5⟩) | (rw [if_neg (by omega), if_neg (by omega), if_neg (by omega), if_pos (by omega), if_neg (by omega)]; exact ⟨wb_ups, by rw [wb_upn (by omega)]; exact h1, by rw [wb_upn (by omega)]; exact h2, by rw [wb_upn (by omega)]; exact h3, by rw [wb_upn (by omega)]; exact h4, by rw [wb_upn (by omega)]; exact h5⟩) | (rw [if_neg (by omega), if_neg (by omega), if_neg (by omega), if_neg (by omega), if_neg (by omega)]; exact ⟨h0, h1, h2, h3, h4, h5⟩) | (rw [if_pos (show 97 ≤ s ∧ s ≤ 99 by omega), if_pos (show 97 ≤ s ∧ s ≤ 99 by omega), if_neg (show ¬ (s = 112 ∨ s = 113) by omega), if_neg (show ¬ wb_rel s by omega), if_neg (show ¬ wb_dig s by omega)]; exact ⟨by rw [wb_upn (by omega), wb_upn (by omega)]; exact h0, by rw [wb_upn (by omega), wb_upn (by omega)]; exact h1, by rw [wb_upn (by omega), wb_ups]; congr 2; split <;> omega, by rw [wb_ups]; congr 2; split <;> omega, by rw [wb_upn (by omega), wb_upn (by omega)]; exact h4, by rw [wb_upn (by omega), wb_upn (by omega)]; exact h5⟩)) (fun k p1 p2 p3 => by first | rfl | (rw [wb_upn p1]; done) | (rw [wb_upn p3, wb_upn p2]; done)))
      · refine vi_if_eq 12 rfl (by omega) (fun _ => ?_) (fun c => absurd c (by decide))
        refine vi_iload_n 24 rfl rfl ?_
        refine vi_S1 25 ok_X8_isRelation rfl c_X8_43 rfl ?_
        refine sp_X8_isRelation (by omega) (fun b_47 => ?_) (fun b_47 => ?_)
        · refine vi_if_eq 26 rfl (by omega) (fun c => absurd c (by decide)) (fun _ => ?_)
          refine vi_aload_n 27 rfl rfl ?_
          refine vi_iload_n 28 rfl rfl ?_
          refine vi_put 29 rfl f_X8_79 (by assumption) rfl rfl rfl rfl ?_
          refine vi_goto 30 rfl ?_
          exact vi_return 69 rfl rfl (Nat.zero_le _) (Nat.zero_le _) (hQ _ (by first | (rw [if_neg (by omega), if_neg (by omega), if_pos (by omega), if_neg (by omega), if_neg (by omega)]; exact ⟨wb_ups, by rw [wb_upn (by omega)]; exact h1, by rw [wb_upn (by omega)]; exact h2, by rw [wb_upn (by omega)]; exact h3, by rw [wb_upn (by omega)]; exact h4, by rw [wb_upn (by omega)]; exact h5⟩) | (rw [if_neg (by omega), if_neg (by omega), if_neg (by omega), if_neg (by omega), if_pos (by omega)]; exact ⟨wb_ups, by rw [wb_upn (by omega)]; exact h1, by rw [wb_upn (by omega)]; exact h2, by rw [wb_upn (by omega)]; exact h3, by rw [wb_upn (by omega)]; exact h4, by rw [wb_upn (by omega)]; exact h5⟩) | (rw [if_neg (by omega), if_neg (by omega), if_neg (by omega), if_pos (by omega), if_neg (by omega)]; exact ⟨wb_ups, by rw [wb_upn (by omega)]; exact h1, by rw [wb_upn (by omega)]; exact h2, by rw [wb_upn (by omega)]; exact h3, by rw [wb_upn (by omega)]; exact h4, by rw [wb_upn (by omega)]; exact h5⟩) | (rw [if_neg (by omega), if_neg (by omega), if_neg (by omega), if_neg (by omega), if_neg (by omega)]; exact ⟨h0, h1, h2, h3, h4, h5⟩) | (rw [if_pos (show 97 ≤ s ∧ s ≤ 99 by omega), if_pos (show 97 ≤ s ∧ s ≤ 99 by omega), if_neg (show ¬ (s = 112 ∨ s = 113) by omega), if_neg (show ¬ wb_rel s by omega), if_neg (show ¬ wb_dig s by omega)]; exact ⟨by rw [wb_upn (by omega), wb_upn (by omega)]; exact h0, by rw [wb_upn (by omega), wb_upn (by omega)]; exact h1, by rw [wb_upn (by omega), wb_ups]; congr 2; split <;> omega, by rw [wb_ups]; congr 2; split <;> omega, by rw [wb_upn (by omega), wb_upn (by omega)]; exact h4, by rw [wb_upn (by omega), wb_upn (by omega)]; exact h5⟩)) (fun k p1 p2 p3 => by first | rfl | (rw [wb_upn p1]; done) | (rw [wb_upn p3, wb_upn p2]; done)))
        · refine vi_if_eq 26 rfl (by omega) (fun _ => ?_) (fun c => absurd c (by decide))
          refine vi_iload_n 31 rfl rfl ?_
          refine vi_bipush 32 rfl (by decide) ?_
          refine vi_icmp_lt 33 rfl (by omega) (by omega) (fun c_64 => ?_) (fun c_64 => ?_)
          · exact vi_return 69 rfl rfl (Nat.zero_le _) (Nat.zero_le _) (hQ _ (by first | (rw [if_neg (by omega), if_neg (by omega), if_pos (by omega), if_neg (by omega), if_neg (by omega)]; exact ⟨wb_ups, by rw [wb_upn (by omega)]; exact h1, by rw [wb_upn (by omega)]; exact h2, by rw [wb_upn (by omega)]; exact h3, by rw [wb_upn (by omega)]; exact h4, by rw [wb_upn (by omega)]; exact h5⟩) | (rw [if_neg (by omega), if_neg (by omega), if_neg (by omega), if_neg (by omega), if_pos (by omega)]; exact ⟨wb_ups, by rw [wb_upn (by omega)]; exact h1, by rw [wb_upn (by omega)]; exact h2, by rw [wb_upn (by omega)]; exact h3, by rw [wb_upn (by omega)]; exact h4, by rw [wb_upn (by omega)]; exact h5⟩) | (rw [if_neg (by omega), if_neg (by omega), if_neg (by omega), if_pos (by omega), if_neg (by omega)]; exact ⟨wb_ups, by rw [wb_upn (by omega)]; exact h1, by rw [wb_upn (by omega)]; exact h2, by rw [wb_upn (by omega)]; exact h3, by rw [wb_upn (by omega)]; exact h4, by rw [wb_upn (by omega)]; exact h5⟩) | (rw [if_neg (by omega), if_neg (by omega), if_neg (by omega), if_neg (by omega), if_neg (by omega)]; exact ⟨h0, h1, h2, h3, h4, h5⟩) | (rw [if_pos (show 97 ≤ s ∧ s ≤ 99 by omega), if_pos (show 97 ≤ s ∧ s ≤ 99 by omega), if_neg (show ¬ (s = 112 ∨ s = 113) by omega), if_neg (show ¬ wb_rel s by omega), if_neg (show ¬ wb_dig s by omega)]; exact ⟨by rw [wb_upn (by omega), wb_upn (by omega)]; exact h0, by rw [wb_upn (by omega), wb_upn (by omega)]; exact h1, by rw [wb_upn (by omega), wb_ups]; congr 2; split <;> omega, by rw [wb_ups]; congr 2; split <;> omega, by rw [wb_upn (by omega), wb_upn (by omega)]; exact h4, by rw [wb_upn (by omega), wb_upn (by omega)]; exact h5⟩)) (fun k p1 p2 p3 => by first | rfl | (rw [wb_upn p1]; done) | (rw [wb_upn p3, wb_upn p2]; done)))
          · refine vi_iload_n 34 rfl rfl ?_
            refine vi_bipush 35 rfl (by decide) ?_
            refine vi_icmp_gt 36 rfl (by omega) (by omega) (fun c_70 => ?_) (fun c_70 => ?_)
            · exact vi_return 69 rfl rfl (Nat.zero_le _) (Nat.zero_le _) (hQ _ (by first | (rw [if_neg (by omega), if_neg (by omega), if_pos (by omega), if_neg (by omega), if_neg (by omega)]; exact ⟨wb_ups, by rw [wb_upn (by omega)]; exact h1, by rw [wb_upn (by omega)]; exact h2, by rw [wb_upn (by omega)]; exact h3, by rw [wb_upn (by omega)]; exact h4, by rw [wb_upn (by omega)]; exact h5⟩) | (rw [if_neg (by omega), if_neg (by omega), if_neg (by omega), if_neg (by omega), if_pos (by omega)]; exact ⟨wb_ups, by rw [wb_upn (by omega)]; exact h1, by rw [wb_upn (by omega)]; exact h2, by rw [wb_upn (by omega)]; exact h3, by rw [wb_upn (by omega)]; exact h4, by rw [wb_upn (by omega)]; exact h5⟩) | (rw [if_neg (by omega), if_neg (by omega), if_neg (by omega), if_pos (by omega), if_neg (by omega)]; exact ⟨wb_ups, by rw [wb_upn (by omega)]; exact h1, by rw [wb_upn (by omega)]; exact h2, by rw [wb_upn (by omega)]; exact h3, by rw [wb_upn (by omega)]; exact h4, by rw [wb_upn (by omega)]; exact h5⟩) | (rw [if_neg (by omega), if_neg (by omega), if_neg (by omega), if_neg (by omega), if_neg (by omega)]; exact ⟨h0, h1, h2, h3, h4, h5⟩) | (rw [if_pos (show 97 ≤ s ∧ s ≤ 99 by omega), if_pos (show 97 ≤ s ∧ s ≤ 99 by omega), if_neg (show ¬ (s = 112 ∨ s = 113) by omega), if_neg (show ¬ wb_rel s by omega), if_neg (show ¬ wb_dig s by omega)]; exact ⟨by rw [wb_upn (by omega), wb_upn (by omega)]; exact h0, by rw [wb_upn (by omega), wb_upn (by omega)]; exact h1, by rw [wb_upn (by omega), wb_ups]; congr 2; split <;> omega, by rw [wb_ups]; congr 2; split <;> omega, by rw [wb_upn (by omega), wb_upn (by omega)]; exact h4, by rw [wb_upn (by omega), wb_upn (by omega)]; exact h5⟩)) (fun k p1 p2 p3 => by first | rfl | (rw [wb_upn p1]; done) | (rw [wb_upn p3, wb_upn p2]; done)))
            · refine vi_aload_n 37 rfl rfl ?_
              refine vi_get 38 rfl f_X8_22 (by assumption) rfl rfl ?_
              refine vi_iload_n 39 rfl rfl ?_
              refine vi_bipush 40 rfl (by decide) ?_
              refine vi_isub 41 rfl ?_
              refine vi_dup2 42 rfl rfl rfl ?_
              refine vi_iald 43 rfl h2 (by omega) ?_
              refine vi_aload_n 44 rfl rfl ?_
              refine vi_get 45 rfl f_X8_76 (by assumption) rfl rfl ?_
              refine vi_bipush 46 rfl (by decide) ?_
              refine vi_icmp_ne 47 rfl (by omega) (by omega) (fun c_89 => ?_) (fun c_89 => ?_)
              · refine vi_iconst 50 rfl ?_
                refine vi_iadd 51 rfl ?_
                refine vi_iast 52 rfl h2 (by omega) ?_
                refine vi_aload_n 53 rfl rfl ?_
                refine vi_get 54 rfl f_X8_25 ((wb_upn (by omega)).trans h0) rfl rfl ?_
                refine vi_iload_n 55 rfl rfl ?_
                refine vi_bipush 56 rfl (by decide) ?_
                refine vi_isub 57 rfl ?_
                refine vi_dup2 58 rfl rfl rfl ?_
                refine vi_iald 59 rfl ((wb_upn (by omega)).trans h3) (by omega) ?_
                refine vi_aload_n 60 rfl rfl ?_
                refine vi_get 61 rfl f_X8_76 ((wb_upn (by omega)).trans h0) rfl rfl ?_
                refine vi_bipush 62 rfl (by decide) ?_
                refine vi_icmp_ne 63 rfl (by omega) (by omega) (fun c_115 => ?_) (fun c_115 => ?_)
                · refine vi_iconst 66 rfl ?_
                  refine vi_iadd 67 rfl ?_
                  refine vi_iast 68 rfl ((wb_upn (by omega)).trans h3) (by omega) ?_
                  exact vi_return 69 rfl rfl (Nat.zero_le _) (Nat.zero_le _) (hQ _ (by first | (rw [if_neg (by omega), if_neg (by omega), if_pos (by omega), if_neg (by omega), if_neg (by omega)]; exact ⟨wb_ups, by rw [wb_upn (by omega)]; exact h1, by rw [wb_upn (by omega)]; exact h2, by rw [wb_upn (by omega)]; exact h3, by rw [wb_upn (by omega)]; exact h4, by rw [wb_upn (by omega)]; exact h5⟩) | (rw [if_neg (by omega), if_neg (by omega), if_neg (by omega), if_neg (by omega), if_pos (by omega)]; exact ⟨wb_ups, by rw [wb_upn (by omega)]; exact h1, by rw [wb_upn (by omega)]; exact h2, by rw [wb_upn (by omega)]; exact h3, by rw [wb_upn (by omega)]; exact h4, by rw [wb_upn (by omega)]; exact h5⟩) | (rw [if_neg (by omega), if_neg (by omega), if_neg (by omega), if_pos (by omega), if_neg (by omega)]; exact ⟨wb_ups, by rw [wb_upn (by omega)]; exact h1, by rw [wb_upn (by omega)]; exact h2, by rw [wb_upn (by omega)]; exact h3, by rw [wb_upn (by omega)]; exact h4, by rw [wb_upn (by omega)]; exact h5⟩) | (rw [if_neg (by omega), if_neg (by omega), if_neg (by omega), if_neg (by omega), if_neg (by omega)]; exact ⟨h0, h1, h2, h3, h4, h5⟩) | (rw [if_pos (show 97 ≤ s ∧ s ≤ 99 by omega), if_pos (show 97 ≤ s ∧ s ≤ 99 by omega), if_neg (show ¬ (s = 112 ∨ s = 113) by omega), if_neg (show ¬ wb_rel s by omega), if_neg (show ¬ wb_dig s by omega)]; exact ⟨by rw [wb_upn (by omega), wb_upn (by omega)]; exact h0, by rw [wb_upn (by omega), wb_upn (by omega)]; exact h1, by rw [wb_upn (by omega), wb_ups]; congr 2; split <;> omega, by rw [wb_ups]; congr 2; split <;> omega, by rw [wb_upn (by omega), wb_upn (by omega)]; exact h4, by rw [wb_upn (by omega), wb_upn (by omega)]; exact h5⟩)) (fun k p1 p2 p3 => by first | rfl | (rw [wb_upn p1]; done) | (rw [wb_upn p3, wb_upn p2]; done)))
                · refine vi_iconst 64 rfl ?_
                  refine vi_goto 65 rfl ?_
                  refine vi_iadd 67 rfl ?_
                  refine vi_iast 68 rfl ((wb_upn (by omega)).trans h3) (by omega) ?_
                  exact vi_return 69 rfl rfl (Nat.zero_le _) (Nat.zero_le _) (hQ _ (by first | (rw [if_neg (by omega), if_neg (by omega), if_pos (by omega), if_neg (by omega), if_neg (by omega)]; exact ⟨wb_ups, by rw [wb_upn (by omega)]; exact h1, by rw [wb_upn (by omega)]; exact h2, by rw [wb_upn (by omega)]; exact h3, by rw [wb_upn (by omega)]; exact h4, by rw [wb_upn (by omega)]; exact h5⟩) | (rw [if_neg (by omega), if_neg (by omega), if_neg (by omega), if_neg (by omega), if_pos (by omega)]; exact ⟨wb_ups, by rw [wb_upn (by omega)]; exact h1, by rw [wb_upn (by omega)]; exact h2, by rw [wb_upn (by omega)]; exact h3, by rw [wb_upn (by omega)]; exact h4, by rw [wb_upn (by omega)]; exact h5⟩) | (rw [if_neg (by omega), if_neg (by omega), if_neg (by omega), if_pos (by omega), if_neg (by omega)]; exact ⟨wb_ups, by rw [wb_upn (by omega)]; exact h1, by rw [wb_upn (by omega)]; exact h2, by rw [wb_upn (by omega)]; exact h3, by rw [wb_upn (by omega)]; exact h4, by rw [wb_upn (by omega)]; exact h5⟩) | (rw [if_neg (by omega), if_neg (by omega), if_neg (by omega), if_neg (by omega), if_neg (by omega)]; exact ⟨h0, h1, h2, h3, h4, h5⟩) | (rw [if_pos (show 97 ≤ s ∧ s ≤ 99 by omega), if_pos (show 97 ≤ s ∧ s ≤ 99 by omega), if_neg (show ¬ (s = 112 ∨ s = 113) by omega), if_neg (show ¬ wb_rel s by omega), if_neg (show ¬ wb_dig s by omega)]; exact ⟨by rw [wb_upn (by omega), wb_upn (by omega)]; exact h0, by rw [wb_upn (by omega), wb_upn (by omega)]; exact h1, by rw [wb_upn (by omega), wb_ups]; congr 2; split <;> omega, by rw [wb_ups]; congr 2; split <;> omega, by rw [wb_upn (by omega), wb_upn (by omega)]; exact h4, by rw [wb_upn (by omega), wb_upn (by omega)]; exact h5⟩)) (fun k p1 p2 p3 => by first | rfl | (rw [wb_upn p1]; done) | (rw [wb_upn p3, wb_upn p2]; done)))
              · refine vi_iconst 48 rfl ?_
                refine vi_goto 49 rfl ?_
                refine vi_iadd 51 rfl ?_
                refine vi_iast 52 rfl h2 (by omega) ?_
                refine vi_aload_n 53 rfl rfl ?_
                refine vi_get 54 rfl f_X8_25 ((wb_upn (by omega)).trans h0) rfl rfl ?_
                refine vi_iload_n 55 rfl rfl ?_
                refine vi_bipush 56 rfl (by decide) ?_
                refine vi_isub 57 rfl ?_
                refine vi_dup2 58 rfl rfl rfl ?_
                refine vi_iald 59 rfl ((wb_upn (by omega)).trans h3) (by omega) ?_
                refine vi_aload_n 60 rfl rfl ?_
                refine vi_get 61 rfl f_X8_76 ((wb_upn (by omega)).trans h0) rfl rfl ?_
                refine vi_bipush 62 rfl (by decide) ?_
                refine vi_icmp_ne 63 rfl (by omega) (by omega) (fun c_115 => ?_) (fun c_115 => ?_)
                · refine vi_iconst 66 rfl ?_
                  refine vi_iadd 67 rfl ?_
                  refine vi_iast 68 rfl ((wb_upn (by omega)).trans h3) (by omega) ?_
                  exact vi_return 69 rfl rfl (Nat.zero_le _) (Nat.zero_le _) (hQ _ (by first | (rw [if_neg (by omega), if_neg (by omega), if_pos (by omega), if_neg (by omega), if_neg (by omega)]; exact ⟨wb_ups, by rw [wb_upn (by omega)]; exact h1, by rw [wb_upn (by omega)]; exact h2, by rw [wb_upn (by omega)]; exact h3, by rw [wb_upn (by omega)]; exact h4, by rw [wb_upn (by omega)]; exact h5⟩) | (rw [if_neg (by omega), if_neg (by omega), if_neg (by omega), if_neg (by omega), if_pos (by omega)]; exact ⟨wb_ups, by rw [wb_upn (by omega)]; exact h1, by rw [wb_upn (by omega)]; exact h2, by rw [wb_upn (by omega)]; exact h3, by rw [wb_upn (by omega)]; exact h4, by rw [wb_upn (by omega)]; exact h5⟩) | (rw [if_neg (by omega), if_neg (by omega), if_neg (by omega), if_pos (by omega), if_neg (by omega)]; exact ⟨wb_ups, by rw [wb_upn (by omega)]; exact h1, by rw [wb_upn (by omega)]; exact h2, by rw [wb_upn (by omega)]; exact h3, by rw [wb_upn (by omega)]; exact h4, by rw [wb_upn (by omega)]; exact h5⟩) | (rw [if_neg (by omega), if_neg (by omega), if_neg (by omega), if_neg (by omega), if_neg (by omega)]; exact ⟨h0, h1, h2, h3, h4, h5⟩) | (rw [if_pos (show 97 ≤ s ∧ s ≤ 99 by omega), if_pos (show 97 ≤ s ∧ s ≤ 99 by omega), if_neg (show ¬ (s = 112 ∨ s = 113) by omega), if_neg (show ¬ wb_rel s by omega), if_neg (show ¬ wb_dig s by omega)]; exact ⟨by rw [wb_upn (by omega), wb_upn (by omega)]; exact h0, by rw [wb_upn (by omega), wb_upn (by omega)]; exact h1, by rw [wb_upn (by omega), wb_ups]; congr 2; split <;> omega, by rw [wb_ups]; congr 2; split <;> omega, by rw [wb_upn (by omega), wb_upn (by omega)]; exact h4, by rw [wb_upn (by omega), wb_upn (by omega)]; exact h5⟩)) (fun k p1 p2 p3 => by first | rfl | (rw [wb_upn p1]; done) | (rw [wb_upn p3, wb_upn p2]; done)))
                · refine vi_iconst 64 rfl ?_
                  refine vi_goto 65 rfl ?_
                  refine vi_iadd 67 rfl ?_
                  refine vi_iast 68 rfl ((wb_upn (by omega)).trans h3) (by omega) ?_
                  exact vi_return 69 rfl rfl (Nat.zero_le _) (Nat.zero_le _) (hQ _ (by first | (rw [if_neg (by omega), if_neg (by omega), if_pos (by omega), if_neg (by omega), if_neg (by omega)]; exact ⟨wb_ups, by rw [wb_upn (by omega)]; exact h1, by rw [wb_upn (by omega)]; exact h2, by rw [wb_upn (by omega)]; exact h3, by rw [wb_upn (by omega)]; exact h4, by rw [wb_upn (by omega)]; exact h5⟩) | (rw [if_neg (by omega), if_neg (by omega), if_neg (by omega), if_neg (by omega), if_pos (by omega)]; exact ⟨wb_ups, by rw [wb_upn (by omega)]; exact h1, by rw [wb_upn (by omega)]; exact h2, by rw [wb_upn (by omega)]; exact h3, by rw [wb_upn (by omega)]; exact h4, by rw [wb_upn (by omega)]; exact h5⟩) | (rw [if_neg (by omega), if_neg (by omega), if_neg (by omega), if_pos (by omega), if_neg (by omega)]; exact ⟨wb_ups, by rw [wb_upn (by omega)]; exact h1, by rw [wb_upn (by omega)]; exact h2, by rw [wb_upn (by omega)]; exact h3, by rw [wb_upn (by omega)]; exact h4, by rw [wb_upn (by omega)]; exact h5⟩) | (rw [if_neg (by omega), if_neg (by omega), if_neg (by omega), if_neg (by omega), if_neg (by omega)]; exact ⟨h0, h1, h2, h3, h4, h5⟩) | (rw [if_pos (show 97 ≤ s ∧ s ≤ 99 by omega), if_pos (show 97 ≤ s ∧ s ≤ 99 by omega), if_neg (show ¬ (s = 112 ∨ s = 113) by omega), if_neg (show ¬ wb_rel s by omega), if_neg (show ¬ wb_dig s by omega)]; exact ⟨by rw [wb_upn (by omega), wb_upn (by omega)]; exact h0, by rw [wb_upn (by omega), wb_upn (by omega)]; exact h1, by rw [wb_upn (by omega), wb_ups]; congr 2; split <;> omega, by rw [wb_ups]; congr 2; split <;> omega, by rw [wb_upn (by omega), wb_upn (by omega)]; exact h4, by rw [wb_upn (by omega), wb_upn (by omega)]; exact h5⟩)) (fun k p1 p2 p3 => by first | rfl | (rw [wb_upn p1]; done) | (rw [wb_upn p3, wb_upn p2]; done)))
    · refine vi_aload_n 6 rfl rfl ?_
      refine vi_iload_n 7 rfl rfl ?_
      refine vi_put 8 rfl f_X8_76 (by assumption) rfl rfl rfl rfl ?_
      refine vi_goto 9 rfl ?_
      exact vi_return 69 rfl rfl (Nat.zero_le _) (Nat.zero_le _) (hQ _ (by first | (rw [if_neg (by omega), if_neg (by omega), if_pos (by omega), if_neg (by omega), if_neg (by omega)]; exact ⟨wb_ups, by rw [wb_upn (by omega)]; exact h1, by rw [wb_upn (by omega)]; exact h2, by rw [wb_upn (by omega)]; exact h3, by rw [wb_upn (by omega)]; exact h4, by rw [wb_upn (by omega)]; exact h5⟩) | (rw [if_neg (by omega), if_neg (by omega), if_neg (by omega), if_neg (by omega), if_pos (by omega)]; exact ⟨wb_ups, by rw [wb_upn (by omega)]; exact h1, by rw [wb_upn (by omega)]; exact h2, by rw [wb_upn (by omega)]; exact h3, by rw [wb_upn (by omega)]; exact h4, by rw [wb_upn (by omega)]; exact h5⟩) | (rw [if_neg (by omega), if_neg (by omega), if_neg (by omega), if_pos (by omega), if_neg (by omega)]; exact ⟨wb_ups, by rw [wb_upn (by omega)]; exact h1, by rw [wb_upn (by omega)]; exact h2, by rw [wb_upn (by omega)]; exact h3, by rw [wb_upn (by omega)]; exact h4, by rw [wb_upn (by omega)]; exact h5⟩) | (rw [if_neg (by omega), if_neg (by omega), if_neg (by omega), if_neg (by omega), if_neg (by omega)]; exact ⟨h0, h1, h2, h3, h4, h5⟩) | (rw [if_pos (show 97 ≤ s ∧ s ≤ 99 by omega), if_pos (show 97 ≤ s ∧ s ≤ 99 by omega), if_neg (show ¬ (s = 112 ∨ s = 113) by omega), if_neg (show ¬ wb_rel s by omega), if_neg (show ¬ wb_dig s by omega)]; exact ⟨by rw [wb_upn (by omega), wb_upn (by omega)]; exact h0, by rw [wb_upn (by omega), wb_upn (by omega)]; exact h1, by rw [wb_upn (by omega), wb_ups]; congr 2; split <;> omega, by rw [wb_ups]; congr 2; split <;> omega, by rw [wb_upn (by omega), wb_upn (by omega)]; exact h4, by rw [wb_upn (by omega), wb_upn (by omega)]; exact h5⟩)) (fun k p1 p2 p3 => by first | rfl | (rw [wb_upn p1]; done) | (rw [wb_upn p3, wb_upn p2]; done)))
end WBS30
