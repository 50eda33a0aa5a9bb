/-! ===== the rule out of the signs ===== -/
def wb_ts (re nu v : Int) : Bool := if re = 60 then decide (v < nu) else if re = 62 then decide (nu < v) else decide (v = nu)
theorem wb_su3_rg {f : Int → Int} {p B : Int} (h0 : 0 ≤ f 0) (h1 : 0 ≤ f 1) (h2 : 0 ≤ f 2) (hB : f 0 + f 1 + f 2 ≤ B) (hp : 0 ≤ p ∧ p < 125) : 0 ≤ wb_su3 f p ∧ wb_su3 f p ≤ 4 * B := by
  unfold wb_su3
  have a1 : 0 ≤ p / 25 ∧ p / 25 ≤ 4 := by omega
  have a2 : 0 ≤ p / 5 % 5 ∧ p / 5 % 5 ≤ 4 := by omega
  have a3 : 0 ≤ p % 5 ∧ p % 5 ≤ 4 := by omega
  have b1 := Int.mul_nonneg h0 a1.1
  have b2 := Int.mul_nonneg h1 a2.1
  have b3 := Int.mul_nonneg h2 a3.1
  have c1 : f 0 * (p / 25) ≤ f 0 * 4 := Int.mul_le_mul_of_nonneg_left a1.2 h0
  have c2 : f 1 * (p / 5 % 5) ≤ f 1 * 4 := Int.mul_le_mul_of_nonneg_left a2.2 h1
  have c3 : f 2 * (p % 5) ≤ f 2 * 4 := Int.mul_le_mul_of_nonneg_left a3.2 h2
  omega
/-- the rows 'below' hold which parts of q have a smaller sum -/
def wb_bw (tq : Int → Int) (bl bh : Int → Int64) : Prop := ∀ i q : Int, 0 ≤ i → i < 66 → 0 ≤ q → q < 64 → wb_tb (bl i) q = decide (wb_su3 tq q < i) ∧ wb_tb (bh i) q = (decide (q < 61) && decide (wb_su3 tq (64 + q) < i))
section WBS29
variable {G : wb_G} {N : Nat} {w : wb_W} {Q : Option Value → Nat → wb_W → Prop} {b : Nat} {sg : Int → Int} {cnt : Int} {tp tq : Int → Int} {bl bh : Int → Int64} {wa re nu : Int}
theorem wb_tb_sh1 {k b : Int} (hk : 0 ≤ k ∧ k < 64) (hb : 0 ≤ b ∧ b < 64) : wb_tb (Int64.ofNat (1 : Fin 2) <<< ((wb_i k).toInt64 &&& 63)) b = decide (b = k) := by
  rw [wb_tb_shl hk hb, show Int64.ofNat ((1 : Fin 2) : Nat) = 1 from rfl]
  by_cases h : k ≤ b
  · rw [wb_tb_1 (by omega)]
    simp [h]
    omega
  · simp [h]; omega
theorem sp_X8_setBelow (hb : wb_Tx w b sg cnt tp tq bl bh wa re nu) (hq : ∀ p, 0 ≤ p → p < 125 → 0 ≤ wb_su3 tq p ∧ wb_su3 tq p ≤ 64) (hQ : ∀ (w' : wb_W) (bl' bh' : Int → Int64), wb_bw tq bl' bh' → wb_Tx w' b sg cnt tp tq bl' bh' wa re nu → (∀ k, k ≠ b + 6 → k ≠ b + 7 → w' k = w k) → Q none N w') : wb_M G M_X8_setBelow [.ref b] N w Q := by
  obtain ⟨h0, h1, h2, h3, h4, h5⟩ := hb
  unfold wb_M
  have lp3 : ∀ i, i ≤ 66 → ∀ (w1 : wb_W) (l1 r1 : Int → Int64), 1 ≤ i → (∀ j q : Int, 0 ≤ j → j < 66 → 0 ≤ q → q < 64 → wb_tb (l1 j) q = (if j < i then decide (wb_su3 tq q < j) else decide (wb_su3 tq q + 1 = j)) ∧ wb_tb (r1 j) q = (decide (q < 61) && (if j < i then decide (wb_su3 tq (64 + q) < j) else decide (wb_su3 tq (64 + q) + 1 = j)))) → w1 (b + 6) = aL 66 l1 → w1 (b + 7) = aL 66 r1 → (∀ k, k ≠ b + 6 → k ≠ b + 7 → w1 k = w k) → wb_V G M_X8_setBelow 96 [(0, .ref b), (1, .int (wb_i i))] [] N w1 0 0 Q := by
    refine wb_up 66 _ ?_
    intro i ih hi w1 l1 r1 hi1 hz e6 e7 ef
    have e0 := (ef b (by omega) (by omega)).trans h0
    refine vi_iload_n 61 rfl rfl ?_
    refine vi_bipush 62 rfl (by decide) ?_
    refine vi_icmp_ge 63 rfl (by omega) (by omega) (fun c_99 => ?_) (fun c_99 => ?_)
    · exact vi_return 92 rfl rfl (Nat.zero_le _) (Nat.zero_le _) (hQ w1 l1 r1 (fun j q p1 p2 p3 p4 => by obtain ⟨z1, z2⟩ := hz j q p1 p2 p3 p4; rw [z1, z2, if_pos (by omega), if_pos (by omega)]; exact ⟨rfl, rfl⟩) ⟨e0, (ef _ (by omega) (by omega)).trans h1, (ef _ (by omega) (by omega)).trans h2, (ef _ (by omega) (by omega)).trans h3, e6, e7⟩ ef)
    · refine vi_aload_n 64 rfl rfl ?_
      refine vi_get 65 rfl f_X8_28 e0 rfl rfl ?_
      refine vi_iload_n 66 rfl rfl ?_
      refine vi_dup2 67 rfl rfl rfl ?_
      refine vi_lald 68 rfl e6 (by omega) ?_
      refine vi_aload_n 69 rfl rfl ?_
      refine vi_get 70 rfl f_X8_28 e0 rfl rfl ?_
      refine vi_iload_n 71 rfl rfl ?_
      refine vi_iconst 72 rfl ?_
      refine vi_isub 73 rfl ?_
      refine vi_lald 74 rfl e6 (by omega) ?_
      refine vi_lor 75 rfl ?_
      refine vi_last 76 rfl e6 (by omega) ?_
      refine vi_aload_n 77 rfl rfl ?_
      refine vi_get 78 rfl f_X8_32 ((wb_upn (by omega)).trans e0) rfl rfl ?_
      refine vi_iload_n 79 rfl rfl ?_
      refine vi_dup2 80 rfl rfl rfl ?_
      refine vi_lald 81 rfl ((wb_upn (by omega)).trans e7) (by omega) ?_
      refine vi_aload_n 82 rfl rfl ?_
      refine vi_get 83 rfl f_X8_32 ((wb_upn (by omega)).trans e0) rfl rfl ?_
      refine vi_iload_n 84 rfl rfl ?_
      refine vi_iconst 85 rfl ?_
      refine vi_isub 86 rfl ?_
      refine vi_lald 87 rfl ((wb_upn (by omega)).trans e7) (by omega) ?_
      refine vi_lor 88 rfl ?_
      refine vi_last 89 rfl ((wb_upn (by omega)).trans e7) (by omega) ?_
      refine vi_iinc 90 rfl rfl rfl ?_
      refine vi_goto 91 rfl ?_
      refine vi_lc (ih (i + 1) (by omega) (by omega) (va_up (va_up w1 (b + 6) _) (b + 7) _) _ _ (by omega) ?_ (by rw [wb_upn (by omega)]; exact wb_ups) wb_ups (fun k p1 p2 => by rw [wb_upn p2, wb_upn p1]; exact ef k p1 p2)) ⟨rfl, rfl, trivial⟩
      intro j q p1 p2 p3 p4
      obtain ⟨z1, z2⟩ := hz j q p1 p2 p3 p4
      by_cases hji : j = i
      · subst hji; obtain ⟨y1, y2⟩ := hz (j - 1) q (by omega) (by omega) p3 p4; rw [wb_us, wb_us, wb_tb_or, wb_tb_or, z1, z2, y1, y2]; simp only [show ¬ j < j by omega, show j - 1 < j by omega, show j < j + 1 by omega, if_true, if_false]; refine ⟨?_, ?_⟩
        · rw [← Bool.decide_or]; congr 1; apply propext; omega
        · rw [← Bool.and_or_distrib_left, ← Bool.decide_or]; congr 2; apply propext; omega
      · rw [wb_un hji, wb_un hji, z1, z2]; by_cases hq2 : j < i
        · rw [if_pos hq2, if_pos hq2, if_pos (by omega), if_pos (by omega)]; exact ⟨rfl, rfl⟩
        · rw [if_neg hq2, if_neg hq2, if_neg (by omega), if_neg (by omega)]; exact ⟨rfl, rfl⟩
  have lp2 : ∀ i, i ≤ 125 → ∀ (w1 : wb_W) (l1 r1 : Int → Int64), 0 ≤ i → (∀ j q : Int, 0 ≤ j → j < 66 → 0 ≤ q → q < 64 → wb_tb (l1 j) q = (decide (q < i) && decide (wb_su3 tq q + 1 = j)) ∧ wb_tb (r1 j) q = (decide (64 + q < i) && decide (wb_su3 tq (64 + q) + 1 = j))) → w1 (b + 6) = aL 66 l1 → w1 (b + 7) = aL 66 r1 → (∀ k, k ≠ b + 6 → k ≠ b + 7 → w1 k = w k) → wb_V G M_X8_setBelow 30 [(0, .ref b), (1, .int (wb_i i))] [] N w1 0 0 Q := by
    refine wb_up 125 _ ?_
    intro i ih hi w1 l1 r1 hi0 hz e6 e7 ef
    have e0 := (ef b (by omega) (by omega)).trans h0
    have e5 := (ef (b + 5) (by omega) (by omega)).trans h3
    have hqi := fun q : i < 125 => hq i hi0 q
    have emin : i < 125 → (if 64 < wb_su3 tq i then 64 else wb_su3 tq i) = wb_su3 tq i := fun q => by have := hqi q; rw [if_neg (by omega)]
    refine vi_iload_n 19 rfl rfl ?_
    refine vi_bipush 20 rfl (by decide) ?_
    refine vi_icmp_ge 21 rfl (by omega) (by omega) (fun c_33 => ?_) (fun c_33 => ?_)
    · refine vi_iconst 59 rfl ?_
      refine vi_istore_n 60 rfl rfl ?_
      exact vi_lc (lp3 1 (by omega) w1 l1 r1 (by omega) (fun j q p1 p2 p3 p4 => by obtain ⟨z1, z2⟩ := hz j q p1 p2 p3 p4; have s1 := hq q p3 (by omega); rw [z1, z2, show i = 125 by omega]; have d1 : decide (q < 125) = true := decide_eq_true (by omega); have d2 : decide (64 + q < 125) = decide (q < 61) := (by congr 1; apply propext; omega); rw [d1, d2]; refine ⟨?_, ?_⟩; (by_cases hj : j < 1; (rw [if_pos hj, show decide (wb_su3 tq q + 1 = j) = false from decide_eq_false (by omega), show decide (wb_su3 tq q < j) = false from decide_eq_false (by omega)]; rfl); (rw [if_neg hj]; rfl)); (by_cases hq6 : q < 61; (have s2 := hq (64 + q) (by omega) (by omega); by_cases hj : j < 1; (rw [if_pos hj, show decide (wb_su3 tq (64 + q) + 1 = j) = false from decide_eq_false (by omega), show decide (wb_su3 tq (64 + q) < j) = false from decide_eq_false (by omega)]); (rw [if_neg hj])); (rw [show decide (q < 61) = false from decide_eq_false hq6]; rfl))) e6 e7 ef) ⟨rfl, rfl, trivial⟩
    · have hqr := hqi (by omega)
      refine vi_iconst 22 rfl ?_
      refine vi_aload_n 23 rfl rfl ?_
      refine vi_get 24 rfl f_X8_25 e0 rfl rfl ?_
      refine vi_iload_n 25 rfl rfl ?_
      refine vi_S2 26 ok_X8_sumOf rfl c_X8_85 rfl ?_
      refine sp_X8_sumOf e5 (by omega) ?_
      refine vi_bipush 27 rfl (by decide) ?_
      refine vi_min 28 rfl c_X8_93 rfl (by omega) (by omega) ?_
      rw [emin (by omega)]
      refine vi_iadd 29 rfl ?_
      refine vi_istore_n 30 rfl rfl ?_
      refine vi_iload_n 31 rfl rfl ?_
      refine vi_bipush 32 rfl (by decide) ?_
      refine vi_icmp_ge 33 rfl (by omega) (by omega) (fun c_55 => ?_) (fun c_55 => ?_)
      · refine vi_aload_n 45 rfl rfl ?_
        refine vi_get 46 rfl f_X8_32 e0 rfl rfl ?_
        refine vi_iload_n 47 rfl rfl ?_
        refine vi_dup2 48 rfl rfl rfl ?_
        refine vi_lald 49 rfl e7 (by omega) ?_
        refine vi_lconst 50 rfl ?_
        refine vi_iload_n 51 rfl rfl ?_
        refine vi_bipush 52 rfl (by decide) ?_
        refine vi_isub 53 rfl ?_
        refine vi_lshl 54 rfl ?_
        refine vi_lor 55 rfl ?_
        refine vi_last 56 rfl e7 (by omega) ?_
        refine vi_iinc 57 rfl rfl rfl ?_
        refine vi_goto 58 rfl ?_
        first | (refine vi_lc (ih (i + 1) (by omega) (by omega) (va_up w1 (b + 6) _) _ r1 (by omega) ?_ wb_ups (by rw [wb_upn (by omega)]; exact e7) (fun k p1 p2 => by rw [wb_upn p1]; exact ef k p1 p2)) ⟨rfl, rfl, trivial⟩; intro j q p1 p2 p3 p4; obtain ⟨z1, z2⟩ := hz j q p1 p2 p3 p4; refine ⟨?_, by rw [z2]; congr 2; apply propext; omega⟩; by_cases hji : j = 1 + wb_su3 tq i; (rw [hji, wb_us, wb_tb_or, ← hji, z1, wb_tb_sh1 (by omega) (by omega)]; by_cases hqi2 : q = i; (subst hqi2; simp [show q < q + 1 by omega]; omega); (rw [show decide (q < i + 1) = decide (q < i) by congr 1; apply propext; omega]; simp [hqi2])); (rw [wb_un hji, z1]; by_cases hqi2 : q = i; (subst hqi2; simp [show ¬ wb_su3 tq q + 1 = j by omega]); (rw [show decide (q < i + 1) = decide (q < i) by congr 1; apply propext; omega]))) | (refine vi_lc (ih (i + 1) (by omega) (by omega) (va_up w1 (b + 7) _) l1 _ (by omega) ?_ (by rw [wb_upn (by omega)]; exact e6) wb_ups (fun k p1 p2 => by rw [wb_upn p2]; exact ef k p1 p2)) ⟨rfl, rfl, trivial⟩; intro j q p1 p2 p3 p4; obtain ⟨z1, z2⟩ := hz j q p1 p2 p3 p4; refine ⟨by rw [z1]; congr 2; apply propext; omega, ?_⟩; by_cases hji : j = 1 + wb_su3 tq i; (rw [hji, wb_us, wb_tb_or, ← hji, z2, wb_tb_sh1 (by omega) (by omega)]; by_cases hqi2 : 64 + q = i; (rw [hqi2]; simp [show q = i - 64 by omega, show i < i + 1 by omega]; omega); (rw [show decide (64 + q < i + 1) = decide (64 + q < i) by congr 1; apply propext; omega]; simp [show ¬ q = i - 64 by omega])); (rw [wb_un hji, z2]; by_cases hqi2 : 64 + q = i; (rw [hqi2]; simp [show ¬ wb_su3 tq i + 1 = j by omega]); (rw [show decide (64 + q < i + 1) = decide (64 + q < i) by congr 1; apply propext; omega])))
      · refine vi_aload_n 34 rfl rfl ?_
        refine vi_get 35 rfl f_X8_28 e0 rfl rfl ?_
        refine vi_iload_n 36 rfl rfl ?_
        refine vi_dup2 37 rfl rfl rfl ?_
        refine vi_lald 38 rfl e6 (by omega) ?_
        refine vi_lconst 39 rfl ?_
        refine vi_iload_n 40 rfl rfl ?_
        refine vi_lshl 41 rfl ?_
        refine vi_lor 42 rfl ?_
        refine vi_last 43 rfl e6 (by omega) ?_
        refine vi_goto 44 rfl ?_
        refine vi_iinc 57 rfl rfl rfl ?_
        refine vi_goto 58 rfl ?_
        first | (refine vi_lc (ih (i + 1) (by omega) (by omega) (va_up w1 (b + 6) _) _ r1 (by omega) ?_ wb_ups (by rw [wb_upn (by omega)]; exact e7) (fun k p1 p2 => by rw [wb_upn p1]; exact ef k p1 p2)) ⟨rfl, rfl, trivial⟩; intro j q p1 p2 p3 p4; obtain ⟨z1, z2⟩ := hz j q p1 p2 p3 p4; refine ⟨?_, by rw [z2]; congr 2; apply propext; omega⟩; by_cases hji : j = 1 + wb_su3 tq i; (rw [hji, wb_us, wb_tb_or, ← hji, z1, wb_tb_sh1 (by omega) (by omega)]; by_cases hqi2 : q = i; (subst hqi2; simp [show q < q + 1 by omega]; omega); (rw [show decide (q < i + 1) = decide (q < i) by congr 1; apply propext; omega]; simp [hqi2])); (rw [wb_un hji, z1]; by_cases hqi2 : q = i; (subst hqi2; simp [show ¬ wb_su3 tq q + 1 = j by omega]); (rw [show decide (q < i + 1) = decide (q < i) by congr 1; apply propext; omega]))) | (refine vi_lc (ih (i + 1) (by omega) (by omega) (va_up w1 (b + 7) _) l1 _ (by omega) ?_ (by rw [wb_upn (by omega)]; exact e6) wb_ups (fun k p1 p2 => by rw [wb_upn p2]; exact ef k p1 p2)) ⟨rfl, rfl, trivial⟩; intro j q p1 p2 p3 p4; obtain ⟨z1, z2⟩ := hz j q p1 p2 p3 p4; refine ⟨by rw [z1]; congr 2; apply propext; omega, ?_⟩; by_cases hji : j = 1 + wb_su3 tq i; (rw [hji, wb_us, wb_tb_or, ← hji, z2, wb_tb_sh1 (by omega) (by omega)]; by_cases hqi2 : 64 + q = i; (rw [hqi2]; simp [show q = i - 64 by omega, show i < i + 1 by omega]; omega); (rw [show decide (64 + q < i + 1) = decide (64 + q < i) by congr 1; apply propext; omega]; simp [show ¬ q = i - 64 by omega])); (rw [wb_un hji, z2]; by_cases hqi2 : 64 + q = i; (rw [hqi2]; simp [show ¬ wb_su3 tq i + 1 = j by omega]); (rw [show decide (64 + q < i + 1) = decide (64 + q < i) by congr 1; apply propext; omega])))
  have lp1 : ∀ i, i ≤ 66 → ∀ (w1 : wb_W) (l1 r1 : Int → Int64), 0 ≤ i → (∀ j, 0 ≤ j → j < i → l1 j = 0 ∧ r1 j = 0) → w1 (b + 6) = aL 66 l1 → w1 (b + 7) = aL 66 r1 → (∀ k, k ≠ b + 6 → k ≠ b + 7 → w1 k = w k) → wb_V G M_X8_setBelow 2 [(0, .ref b), (1, .int (wb_i i))] [] N w1 0 0 Q := by
    refine wb_up 66 _ ?_
    intro i ih hi w1 l1 r1 hi0 hz e6 e7 ef
    have e0 := (ef b (by omega) (by omega)).trans h0
    refine vi_iload_n 2 rfl rfl ?_
    refine vi_bipush 3 rfl (by decide) ?_
    refine vi_icmp_ge 4 rfl (by omega) (by omega) (fun c_5 => ?_) (fun c_5 => ?_)
    · refine vi_iconst 17 rfl ?_
      refine vi_istore_n 18 rfl rfl ?_
      exact vi_lc (lp2 0 (by omega) w1 l1 r1 (by omega) (fun j q p1 p2 p3 p4 => by obtain ⟨z1, z2⟩ := hz j p1 (by omega); rw [z1, z2, wb_tb_0]; simp [show ¬ q < 0 by omega, show ¬ 64 + q < 0 by omega]) e6 e7 ef) ⟨rfl, rfl, trivial⟩
    · refine vi_aload_n 5 rfl rfl ?_
      refine vi_get 6 rfl f_X8_28 e0 rfl rfl ?_
      refine vi_iload_n 7 rfl rfl ?_
      refine vi_lconst 8 rfl ?_
      refine vi_last 9 rfl e6 (by omega) ?_
      refine vi_aload_n 10 rfl rfl ?_
      refine vi_get 11 rfl f_X8_32 ((wb_upn (by omega)).trans e0) rfl rfl ?_
      refine vi_iload_n 12 rfl rfl ?_
      refine vi_lconst 13 rfl ?_
      refine vi_last 14 rfl ((wb_upn (by omega)).trans e7) (by omega) ?_
      refine vi_iinc 15 rfl rfl rfl ?_
      refine vi_goto 16 rfl ?_
      refine vi_lc (ih (i + 1) (by omega) (by omega) (va_up (va_up w1 (b + 6) _) (b + 7) _) _ _ (by omega) ?_ (by rw [wb_upn (by omega)]; exact wb_ups) wb_ups (fun k p1 p2 => by rw [wb_upn p2, wb_upn p1]; exact ef k p1 p2)) ⟨rfl, rfl, trivial⟩
      intro j p1 p2
      by_cases hji : j = i
      · subst hji; exact ⟨wb_us, wb_us⟩
      · rw [wb_un hji, wb_un hji]; exact hz j p1 (by omega)
  refine vi_iconst 0 rfl ?_
  refine vi_istore_n 1 rfl rfl ?_
  exact vi_lc (lp1 0 (by omega) w bl bh (by omega) (fun j p1 p2 => by omega) h4 h5 (fun _ _ _ => rfl)) ⟨rfl, rfl, trivial⟩
end WBS29
