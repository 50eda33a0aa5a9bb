/-! ===== the class's book ===== -/
/-- a book at b: months, cells, stocks, who stands in for whom, boths, turn, the words of what it keeps -/
def wb_Bk (w : wb_W) (b : Nat) (n : Int) (c s : Int → Int) (sd sf bo tu : Int) (g : Int → Int64) : Prop :=
  w b = .inr (0, [.int (wb_i n), .ref (b + 1), .ref (b + 2), .int (wb_i sd), .int (wb_i sf), .int (wb_i bo), .ref (b + 3), .int (wb_i tu)]) ∧ w (b + 1) = aI 72 c ∧ w (b + 2) = aI 12 s ∧ w (b + 3) = .inr (5, [.ref (b + 4)]) ∧ w (b + 4) = aL 250 g
/-- its numbers are as they must be -/
def wb_BR (n : Int) (c s : Int → Int) (sd sf : Int) : Prop :=
  (0 ≤ n ∧ n ≤ 8) ∧ (∀ i, 0 ≤ c i ∧ c i ≤ 99) ∧ (∀ i, 0 ≤ s i ∧ s i ≤ 199) ∧ (-1 ≤ sd ∧ sd ≤ 2) ∧ (-1 ≤ sf ∧ sf ≤ 2) ∧ (∀ m, c (9 * m + 3) ≤ 5) ∧ (∀ m, c (9 * m + 4) ≤ 20 ∧ c (9 * m + 5) ≤ 20) ∧ (∀ t, s (4 * t) ≤ s (4 * t + 1) ∧ s (4 * t + 1) ≤ 99 ∧ s (4 * t + 3) ≤ 5) ∧ (0 ≤ sd → 0 ≤ sf ∧ sf ≠ sd)
theorem wb_Bk.fr {w w' : wb_W} {b : Nat} {n : Int} {c s : Int → Int} {sd sf bo tu : Int} {g : Int → Int64} (h : wb_Bk w b n c s sd sf bo tu g) (hf : ∀ k, b ≤ k → k < b + 5 → w' k = w k) : wb_Bk w' b n c s sd sf bo tu g := by
  obtain ⟨h0, h1, h2, h3, h4⟩ := h
  exact ⟨(hf _ (by omega) (by omega)).trans h0, (hf _ (by omega) (by omega)).trans h1, (hf _ (by omega) (by omega)).trans h2, (hf _ (by omega) (by omega)).trans h3, (hf _ (by omega) (by omega)).trans h4⟩
/-- it stands in, in that month -/
abbrev wb_si (c : Int → Int) (sd sf m : Int) : Prop := 0 ≤ sd ∧ c (9 * m + (6 + sd)) < c (9 * m + (6 + sf))
def wb_nd (c : Int → Int) (m r : Int) : Int := c (9 * m + 4) * (r / 5) + c (9 * m + 5) * (r % 5)
theorem wb_nd_rg {n : Int} {c s : Int → Int} {sd sf m r : Int} (h : wb_BR n c s sd sf) (hr : 0 ≤ r ∧ r < 25) : 0 ≤ wb_nd c m r ∧ wb_nd c m r ≤ 160 := by
  have h4 := (h.2.2.2.2.2.2.1 m)
  have h1 := (h.2.1 (9 * m + 4))
  have h2 := (h.2.1 (9 * m + 5))
  unfold wb_nd
  have a1 : 0 ≤ r / 5 ∧ r / 5 ≤ 4 := by omega
  have a2 : 0 ≤ r % 5 ∧ r % 5 ≤ 4 := by omega
  have b1 : c (9 * m + 4) * (r / 5) ≤ 20 * 4 := Int.mul_le_mul h4.1 a1.2 a1.1 (by omega)
  have b2 : c (9 * m + 5) * (r % 5) ≤ 20 * 4 := Int.mul_le_mul h4.2 a2.2 a2.1 (by omega)
  have b3 : 0 ≤ c (9 * m + 4) * (r / 5) := Int.mul_nonneg h1.1 a1.1
  have b4 : 0 ≤ c (9 * m + 5) * (r % 5) := Int.mul_nonneg h2.1 a2.1
  omega
noncomputable section WBS13
variable {G : wb_G} {N : Nat} {w : wb_W} {Q : Option Value → Nat → wb_W → Prop} {b : Nat} {n : Int} {c s : Int → Int} {sd sf bo tu : Int} {g : Int → Int64}
theorem sp_X0_cell {m j : Int} (hb : wb_Bk w b n c s sd sf bo tu g) (hm : -1000 ≤ m ∧ m ≤ 1000) (hj : -1000 ≤ j ∧ j ≤ 1000) (hQ : Q (some (.int (wb_i (if 0 ≤ 9 * m + j ∧ 9 * m + j < 72 then c (9 * m + j) else 0)))) N w) : wb_M G M_X0_cell [.ref b, .int (wb_i m), .int (wb_i j)] N w Q := by
  obtain ⟨h0, h1, h2, h3, h4⟩ := hb
  unfold wb_M
  refine vi_iload_n 0 rfl rfl ?_
  refine vi_bipush 1 rfl (by decide) ?_
  refine vi_imul 2 rfl ?_
  refine vi_iload_n 3 rfl rfl ?_
  refine vi_iadd 4 rfl ?_
  refine vi_istore_n 5 rfl rfl ?_
  refine vi_iload_n 6 rfl rfl ?_
  refine vi_if_lt 7 rfl (by omega) (fun c_8 => ?_) (fun c_8 => ?_)
  · refine vi_iconst 18 rfl ?_
    exact vi_ireturn 19 rfl rfl rfl (Nat.zero_le _) (Nat.zero_le _) (wb_e (by split <;> first | omega | (rw [Int.mul_comm]; done) | (rw [Int.mul_comm m 9]; done) | skip) hQ)
  · refine vi_iload_n 8 rfl rfl ?_
    refine vi_aload_n 9 rfl rfl ?_
    refine vi_get 10 rfl f_X0_9 (by assumption) rfl rfl ?_
    refine vi_alen 11 rfl (by assumption) rfl ?_
    refine vi_icmp_ge 12 rfl (by omega) (by omega) (fun c_17 => ?_) (fun c_17 => ?_)
    · refine vi_iconst 18 rfl ?_
      exact vi_ireturn 19 rfl rfl rfl (Nat.zero_le _) (Nat.zero_le _) (wb_e (by split <;> first | omega | (rw [Int.mul_comm]; done) | (rw [Int.mul_comm m 9]; done) | skip) hQ)
    · refine vi_aload_n 13 rfl rfl ?_
      refine vi_get 14 rfl f_X0_9 (by assumption) rfl rfl ?_
      refine vi_iload_n 15 rfl rfl ?_
      refine vi_iald 16 rfl (by assumption) (by omega) ?_
      refine vi_goto 17 rfl ?_
      exact vi_ireturn 19 rfl rfl rfl (Nat.zero_le _) (Nat.zero_le _) (wb_e (by split <;> first | omega | (rw [Int.mul_comm]; done) | (rw [Int.mul_comm m 9]; done) | skip) hQ)
theorem sp_X0_stockCell {m j : Int} (hb : wb_Bk w b n c s sd sf bo tu g) (hm : -1000 ≤ m ∧ m ≤ 1000) (hj : -1000 ≤ j ∧ j ≤ 1000) (hQ : Q (some (.int (wb_i (if 0 ≤ 4 * m + j ∧ 4 * m + j < 12 then s (4 * m + j) else 0)))) N w) : wb_M G M_X0_stockCell [.ref b, .int (wb_i m), .int (wb_i j)] N w Q := by
  obtain ⟨h0, h1, h2, h3, h4⟩ := hb
  unfold wb_M
  refine vi_iload_n 0 rfl rfl ?_
  refine vi_iconst 1 rfl ?_
  refine vi_imul 2 rfl ?_
  refine vi_iload_n 3 rfl rfl ?_
  refine vi_iadd 4 rfl ?_
  refine vi_istore_n 5 rfl rfl ?_
  refine vi_iload_n 6 rfl rfl ?_
  refine vi_if_lt 7 rfl (by omega) (fun c_7 => ?_) (fun c_7 => ?_)
  · refine vi_iconst 18 rfl ?_
    exact vi_ireturn 19 rfl rfl rfl (Nat.zero_le _) (Nat.zero_le _) (wb_e (by split <;> first | omega | (rw [Int.mul_comm]; done) | (rw [Int.mul_comm m 4]; done) | skip) hQ)
  · refine vi_iload_n 8 rfl rfl ?_
    refine vi_aload_n 9 rfl rfl ?_
    refine vi_get 10 rfl f_X0_15 (by assumption) rfl rfl ?_
    refine vi_alen 11 rfl (by assumption) rfl ?_
    refine vi_icmp_ge 12 rfl (by omega) (by omega) (fun c_16 => ?_) (fun c_16 => ?_)
    · refine vi_iconst 18 rfl ?_
      exact vi_ireturn 19 rfl rfl rfl (Nat.zero_le _) (Nat.zero_le _) (wb_e (by split <;> first | omega | (rw [Int.mul_comm]; done) | (rw [Int.mul_comm m 4]; done) | skip) hQ)
    · refine vi_aload_n 13 rfl rfl ?_
      refine vi_get 14 rfl f_X0_15 (by assumption) rfl rfl ?_
      refine vi_iload_n 15 rfl rfl ?_
      refine vi_iald 16 rfl (by assumption) (by omega) ?_
      refine vi_goto 17 rfl ?_
      exact vi_ireturn 19 rfl rfl rfl (Nat.zero_le _) (Nat.zero_le _) (wb_e (by split <;> first | omega | (rw [Int.mul_comm]; done) | (rw [Int.mul_comm m 4]; done) | skip) hQ)
theorem sp_X0_setCell {m j v : Int} (hb : wb_Bk w b n c s sd sf bo tu g) (hm : -1000 ≤ m ∧ m ≤ 1000) (hj : -1000 ≤ j ∧ j ≤ 1000) (hin : 0 ≤ 9 * m + j ∧ 9 * m + j < 72) (hQ : ∀ w', wb_Bk w' b n (wb_u c (9 * m + j) v) s sd sf bo (tu + 1) g → (∀ k, (k < b ∨ b + 5 ≤ k) → w' k = w k) → Q none N w') : wb_M G M_X0_setCell [.ref b, .int (wb_i m), .int (wb_i j), .int (wb_i v)] N w Q := by
  obtain ⟨h0, h1, h2, h3, h4⟩ := hb
  unfold wb_M
  have e9 : m * 9 + j = 9 * m + j := by omega
  refine vi_iload_n 0 rfl rfl ?_
  refine vi_bipush 1 rfl (by decide) ?_
  refine vi_imul 2 rfl ?_
  refine vi_iload_n 3 rfl rfl ?_
  refine vi_iadd 4 rfl ?_
  refine vi_istore 5 rfl rfl ?_
  refine vi_iload 6 rfl rfl ?_
  refine vi_if_lt 7 rfl (by omega) (fun c_10 => by exfalso; omega) (fun c_10 => ?_)
  refine vi_iload 8 rfl rfl ?_
  refine vi_aload_n 9 rfl rfl ?_
  refine vi_get 10 rfl f_X0_9 (by assumption) rfl rfl ?_
  refine vi_alen 11 rfl (by assumption) rfl ?_
  refine vi_icmp_ge 12 rfl (by omega) (by omega) (fun c_20 => by exfalso; omega) (fun c_20 => ?_)
  refine vi_aload_n 13 rfl rfl ?_
  refine vi_get 14 rfl f_X0_9 (by assumption) rfl rfl ?_
  refine vi_iload 15 rfl rfl ?_
  refine vi_iload_n 16 rfl rfl ?_
  refine vi_iast 17 rfl (by assumption) (by omega) ?_
  refine vi_aload_n 18 rfl rfl ?_
  refine vi_dup 19 rfl rfl ?_
  refine vi_get 20 rfl f_X0_32 ((wb_upn (by omega)).trans h0) rfl rfl ?_
  refine vi_iconst 21 rfl ?_
  refine vi_iadd 22 rfl ?_
  refine vi_put 23 rfl f_X0_32 ((wb_upn (by omega)).trans h0) rfl rfl rfl rfl ?_
  exact vi_return 24 rfl rfl (Nat.zero_le _) (Nat.zero_le _) (hQ _ ⟨wb_ups, by rw [wb_upn (by omega), wb_ups, e9], by rw [wb_upn (by omega), wb_upn (by omega)]; exact h2, by rw [wb_upn (by omega), wb_upn (by omega)]; exact h3, by rw [wb_upn (by omega), wb_upn (by omega)]; exact h4⟩ (fun k hk => by rw [wb_upn (by omega), wb_upn (by omega)]))
theorem sp_X0_setStockCell {m j v : Int} (hb : wb_Bk w b n c s sd sf bo tu g) (hm : -1000 ≤ m ∧ m ≤ 1000) (hj : -1000 ≤ j ∧ j ≤ 1000) (hin : 0 ≤ 4 * m + j ∧ 4 * m + j < 12) (hQ : ∀ w', wb_Bk w' b n c (wb_u s (4 * m + j) v) sd sf bo (tu + 1) g → (∀ k, (k < b ∨ b + 5 ≤ k) → w' k = w k) → Q none N w') : wb_M G M_X0_setStockCell [.ref b, .int (wb_i m), .int (wb_i j), .int (wb_i v)] N w Q := by
  obtain ⟨h0, h1, h2, h3, h4⟩ := hb
  unfold wb_M
  have e9 : m * 4 + j = 4 * m + j := by omega
  refine vi_iload_n 0 rfl rfl ?_
  refine vi_iconst 1 rfl ?_
  refine vi_imul 2 rfl ?_
  refine vi_iload_n 3 rfl rfl ?_
  refine vi_iadd 4 rfl ?_
  refine vi_istore 5 rfl rfl ?_
  refine vi_iload 6 rfl rfl ?_
  refine vi_if_lt 7 rfl (by omega) (fun c_9 => by exfalso; omega) (fun c_9 => ?_)
  refine vi_iload 8 rfl rfl ?_
  refine vi_aload_n 9 rfl rfl ?_
  refine vi_get 10 rfl f_X0_15 (by assumption) rfl rfl ?_
  refine vi_alen 11 rfl (by assumption) rfl ?_
  refine vi_icmp_ge 12 rfl (by omega) (by omega) (fun c_19 => by exfalso; omega) (fun c_19 => ?_)
  refine vi_aload_n 13 rfl rfl ?_
  refine vi_get 14 rfl f_X0_15 (by assumption) rfl rfl ?_
  refine vi_iload 15 rfl rfl ?_
  refine vi_iload_n 16 rfl rfl ?_
  refine vi_iast 17 rfl (by assumption) (by omega) ?_
  refine vi_aload_n 18 rfl rfl ?_
  refine vi_dup 19 rfl rfl ?_
  refine vi_get 20 rfl f_X0_32 ((wb_upn (by omega)).trans h0) rfl rfl ?_
  refine vi_iconst 21 rfl ?_
  refine vi_iadd 22 rfl ?_
  refine vi_put 23 rfl f_X0_32 ((wb_upn (by omega)).trans h0) rfl rfl rfl rfl ?_
  exact vi_return 24 rfl rfl (Nat.zero_le _) (Nat.zero_le _) (hQ _ ⟨wb_ups, by rw [wb_upn (by omega), wb_upn (by omega)]; exact h1, by rw [wb_upn (by omega), wb_ups, e9], by rw [wb_upn (by omega), wb_upn (by omega)]; exact h3, by rw [wb_upn (by omega), wb_upn (by omega)]; exact h4⟩ (fun k hk => by rw [wb_upn (by omega), wb_upn (by omega)]))
theorem sp_X0_standing (hb : wb_Bk w b n c s sd sf bo tu g) (hR : wb_BR n c s sd sf) (hQ : Q (some (.int (wb_i (if sd < 0 then -6 else 10 * sd + sf)))) N w) : wb_M G M_X0_standing [.ref b] N w Q := by
  obtain ⟨h0, h1, h2, h3, h4⟩ := hb
  obtain ⟨r1, r2, r3, r4, r5, r6⟩ := hR
  unfold wb_M
  refine vi_aload_n 0 rfl rfl ?_
  refine vi_get 1 rfl f_X0_18 (by assumption) rfl rfl ?_
  refine vi_if_ge 2 rfl (by omega) (fun c_4 => ?_) (fun c_4 => ?_)
  · refine vi_bipush 5 rfl (by decide) ?_
    refine vi_aload_n 6 rfl rfl ?_
    refine vi_get 7 rfl f_X0_18 (by assumption) rfl rfl ?_
    refine vi_imul 8 rfl ?_
    refine vi_aload_n 9 rfl rfl ?_
    refine vi_get 10 rfl f_X0_22 (by assumption) rfl rfl ?_
    refine vi_iadd 11 rfl ?_
    exact vi_ireturn 12 rfl rfl rfl (Nat.zero_le _) (Nat.zero_le _) (wb_e (by split <;> omega) hQ)
  · refine vi_bipush 3 rfl (by decide) ?_
    refine vi_goto 4 rfl ?_
    exact vi_ireturn 12 rfl rfl rfl (Nat.zero_le _) (Nat.zero_le _) (wb_e (by split <;> omega) hQ)
theorem sp_X0_setStanding {t o : Int} (hb : wb_Bk w b n c s sd sf bo tu g) (hQ : ∀ w', wb_Bk w' b n c s t o bo (tu + 1) g → (∀ k, (k < b ∨ b + 5 ≤ k) → w' k = w k) → Q none N w') : wb_M G M_X0_setStanding [.ref b, .int (wb_i t), .int (wb_i o)] N w Q := by
  obtain ⟨h0, h1, h2, h3, h4⟩ := hb
  unfold wb_M
  refine vi_aload_n 0 rfl rfl ?_
  refine vi_iload_n 1 rfl rfl ?_
  refine vi_put 2 rfl f_X0_18 (by assumption) rfl rfl rfl rfl ?_
  refine vi_aload_n 3 rfl rfl ?_
  refine vi_iload_n 4 rfl rfl ?_
  refine vi_put 5 rfl f_X0_22 wb_ups rfl rfl rfl rfl ?_
  refine vi_aload_n 6 rfl rfl ?_
  refine vi_dup 7 rfl rfl ?_
  refine vi_get 8 rfl f_X0_32 wb_ups rfl rfl ?_
  refine vi_iconst 9 rfl ?_
  refine vi_iadd 10 rfl ?_
  refine vi_put 11 rfl f_X0_32 wb_ups rfl rfl rfl rfl ?_
  exact vi_return 12 rfl rfl (Nat.zero_le _) (Nat.zero_le _) (hQ _ ⟨wb_ups, by rw [wb_upu, wb_upu, wb_upn (by omega)]; exact h1, by rw [wb_upu, wb_upu, wb_upn (by omega)]; exact h2, by rw [wb_upu, wb_upu, wb_upn (by omega)]; exact h3, by rw [wb_upu, wb_upu, wb_upn (by omega)]; exact h4⟩ (fun k hk => by rw [wb_upu, wb_upu, wb_upn (by omega)]))
theorem sp_X0_setBoths {t : Int} (hb : wb_Bk w b n c s sd sf bo tu g) (hQ : ∀ w', wb_Bk w' b n c s sd sf t (tu + 1) g → (∀ k, (k < b ∨ b + 5 ≤ k) → w' k = w k) → Q none N w') : wb_M G M_X0_setBoths [.ref b, .int (wb_i t)] N w Q := by
  obtain ⟨h0, h1, h2, h3, h4⟩ := hb
  unfold wb_M
  refine vi_aload_n 0 rfl rfl ?_
  refine vi_iload_n 1 rfl rfl ?_
  refine vi_put 2 rfl f_X0_50 (by assumption) rfl rfl rfl rfl ?_
  refine vi_aload_n 3 rfl rfl ?_
  refine vi_dup 4 rfl rfl ?_
  refine vi_get 5 rfl f_X0_32 wb_ups rfl rfl ?_
  refine vi_iconst 6 rfl ?_
  refine vi_iadd 7 rfl ?_
  refine vi_put 8 rfl f_X0_32 wb_ups rfl rfl rfl rfl ?_
  exact vi_return 9 rfl rfl (Nat.zero_le _) (Nat.zero_le _) (hQ _ ⟨wb_ups, by rw [wb_upu, wb_upn (by omega)]; exact h1, by rw [wb_upu, wb_upn (by omega)]; exact h2, by rw [wb_upu, wb_upn (by omega)]; exact h3, by rw [wb_upu, wb_upn (by omega)]; exact h4⟩ (fun k hk => by rw [wb_upu, wb_upn (by omega)]))
theorem sp_X0_dropMonth (hb : wb_Bk w b n c s sd sf bo tu g) (hn : 0 ≤ n ∧ n ≤ 8) (h1n : 1 ≤ n) (hQ : ∀ w', wb_Bk w' b (n - 1) c s sd sf bo (tu + 1) g → (∀ k, (k < b ∨ b + 5 ≤ k) → w' k = w k) → Q (some (.int (wb_i (n - 1)))) N w') : wb_M G M_X0_dropMonth [.ref b] N w Q := by
  obtain ⟨h0, h1, h2, h3, h4⟩ := hb
  unfold wb_M
  have e : (if 0 < n - 1 then n - 1 else 0) = n - 1 := by split <;> omega
  refine vi_aload_n 0 rfl rfl ?_
  refine vi_dup 1 rfl rfl ?_
  refine vi_get 2 rfl f_X0_32 (by assumption) rfl rfl ?_
  refine vi_iconst 3 rfl ?_
  refine vi_iadd 4 rfl ?_
  refine vi_put 5 rfl f_X0_32 (by assumption) rfl rfl rfl rfl ?_
  refine vi_aload_n 6 rfl rfl ?_
  refine vi_iconst 7 rfl ?_
  refine vi_aload_n 8 rfl rfl ?_
  refine vi_get 9 rfl f_X0_41 wb_ups rfl rfl ?_
  refine vi_iconst 10 rfl ?_
  refine vi_isub 11 rfl ?_
  refine vi_max 12 rfl c_X0_57 rfl (by omega) (by omega) ?_
  rw [e]
  refine vi_put 13 rfl f_X0_41 wb_ups rfl rfl rfl rfl ?_
  refine vi_aload_n 14 rfl rfl ?_
  refine vi_get 15 rfl f_X0_41 wb_ups rfl rfl ?_
  exact vi_ireturn 16 rfl rfl rfl (Nat.zero_le _) (Nat.zero_le _) (hQ _ ⟨wb_ups, by rw [wb_upu, wb_upn (by omega)]; exact h1, by rw [wb_upu, wb_upn (by omega)]; exact h2, by rw [wb_upu, wb_upn (by omega)]; exact h3, by rw [wb_upu, wb_upn (by omega)]; exact h4⟩ (fun k hk => by rw [wb_upu, wb_upn (by omega)]))
theorem sp_X0_addMonth (hb : wb_Bk w b n c s sd sf bo tu g) (hn : 0 ≤ n ∧ n < 8) (hQ : ∀ (w' : wb_W) (c' : Int → Int), (∀ i, c' i = if 9 * n ≤ i ∧ i < 9 * n + 9 then 0 else c i) → wb_Bk w' b (n + 1) c' s sd sf bo (tu + 1) g → (∀ k, (k < b ∨ b + 5 ≤ k) → w' k = w k) → Q (some (.int (wb_i n))) N w') : wb_M G M_X0_addMonth [.ref b] N w Q := by
  obtain ⟨h0, h1, h2, h3, h4⟩ := hb
  unfold wb_M
  have lp : ∀ i, i ≤ 9 → ∀ (w1 : wb_W) (c1 : Int → Int), 0 ≤ i → (∀ j, c1 j = if 9 * n ≤ j ∧ j < 9 * n + i then 0 else c j) → w1 b = w b → w1 (b + 1) = aI 72 c1 → (∀ k, k ≠ b + 1 → w1 k = w k) → wb_V G M_X0_addMonth 13 [(0, .ref b), (1, .int (wb_i i))] [] N w1 0 0 Q := by
    refine wb_up 9 _ ?_
    intro i ih hi w1 c1 hi0 hc1 e0 e1 ef
    rw [h0] at e0
    refine vi_iload_n 8 rfl rfl ?_
    refine vi_bipush 9 rfl (by decide) ?_
    refine vi_icmp_ge 10 rfl (by omega) (by omega) (fun c_16 => ?_) (fun c_16 => ?_)
    · refine vi_aload_n 23 rfl rfl ?_
      refine vi_dup 24 rfl rfl ?_
      refine vi_get 25 rfl f_X0_32 (by assumption) rfl rfl ?_
      refine vi_iconst 26 rfl ?_
      refine vi_iadd 27 rfl ?_
      refine vi_put 28 rfl f_X0_32 (by assumption) rfl rfl rfl rfl ?_
      refine vi_aload_n 29 rfl rfl ?_
      refine vi_dup 30 rfl rfl ?_
      refine vi_get 31 rfl f_X0_41 wb_ups rfl rfl ?_
      refine vi_dup_x1 32 rfl rfl rfl ?_
      refine vi_iconst 33 rfl ?_
      refine vi_iadd 34 rfl ?_
      refine vi_put 35 rfl f_X0_41 wb_ups rfl rfl rfl rfl ?_
      exact vi_ireturn 36 rfl rfl rfl (Nat.zero_le _) (Nat.zero_le _) (hQ _ c1 (fun j => by rw [hc1 j, show i = 9 by omega]) ⟨wb_ups, by rw [wb_upu, wb_upn (by omega)]; exact e1, by rw [wb_upu, wb_upn (by omega), ef _ (by omega)]; exact h2, by rw [wb_upu, wb_upn (by omega), ef _ (by omega)]; exact h3, by rw [wb_upu, wb_upn (by omega), ef _ (by omega)]; exact h4⟩ (fun k hk => by rw [wb_upu, wb_upn (by omega), ef _ (by omega)]))
    · refine vi_aload_n 11 rfl rfl ?_
      refine vi_get 12 rfl f_X0_9 (by assumption) rfl rfl ?_
      refine vi_aload_n 13 rfl rfl ?_
      refine vi_get 14 rfl f_X0_41 (by assumption) rfl rfl ?_
      refine vi_bipush 15 rfl (by decide) ?_
      refine vi_imul 16 rfl ?_
      refine vi_iload_n 17 rfl rfl ?_
      refine vi_iadd 18 rfl ?_
      refine vi_iconst 19 rfl ?_
      refine vi_iast 20 rfl (by assumption) (by omega) ?_
      refine vi_iinc 21 rfl rfl rfl ?_
      refine vi_goto 22 rfl ?_
      refine vi_lc (ih (i + 1) (by omega) (by omega) (va_up w1 (b + 1) _) _ (by omega) ?_ ((wb_upn (by omega)).trans (e0.trans h0.symm)) wb_ups (fun k hk => (wb_upn hk).trans (ef k hk))) ⟨rfl, rfl, trivial⟩
      intro j
      rw [show n * 9 + i = 9 * n + i by omega]
      by_cases hj : j = 9 * n + i
      · subst hj; rw [wb_us, if_pos (by omega)]
      · rw [wb_un hj, hc1]; by_cases hq : 9 * n ≤ j ∧ j < 9 * n + i
        · rw [if_pos hq, if_pos (by omega)]
        · rw [if_neg hq, if_neg (by omega)]
  refine vi_aload_n 0 rfl rfl ?_
  refine vi_get 1 rfl f_X0_41 (by assumption) rfl rfl ?_
  refine vi_bipush 2 rfl (by decide) ?_
  refine vi_icmp_lt 3 rfl (by omega) (by omega) (fun c_6 => ?_) (fun c_6 => by exfalso; omega)
  refine vi_iconst 6 rfl ?_
  refine vi_istore_n 7 rfl rfl ?_
  exact vi_lc (lp 0 (by omega) w c (by omega) (fun j => by rw [if_neg (by omega)]) rfl h1 (fun _ _ => rfl)) ⟨rfl, rfl, trivial⟩
theorem sp_X0_standsIn {m : Int} (hb : wb_Bk w b n c s sd sf bo tu g) (hR : wb_BR n c s sd sf) (hm : 0 ≤ m ∧ m < 8) (k1 : wb_si c sd sf m → Q (some (.int (wb_i 1))) N w) (k0 : ¬ wb_si c sd sf m → Q (some (.int (wb_i 0))) N w) : wb_M G M_X0_standsIn [.ref b, .int (wb_i m)] N w Q := by
  have hb' := hb
  obtain ⟨h0, h1, h2, h3, h4⟩ := hb
  obtain ⟨r1, r2, r3, r4, r5, r6, r7, r8, r9⟩ := hR
  unfold wb_M
  have q1 := r2 (9 * m + (6 + sd))
  have q2 := r2 (9 * m + (6 + sf))
  refine vi_aload_n 0 rfl rfl ?_
  refine vi_get 1 rfl f_X0_18 (by assumption) rfl rfl ?_
  refine vi_if_lt 2 rfl (by omega) (fun c_4 => ?_) (fun c_4 => ?_)
  · refine vi_iconst 20 rfl ?_
    exact vi_ireturn 21 rfl rfl rfl (Nat.zero_le _) (Nat.zero_le _) (k0 (fun q => by have := q.1; have := q.2; omega))
  · refine vi_aload_n 3 rfl rfl ?_
    refine vi_iload_n 4 rfl rfl ?_
    refine vi_bipush 5 rfl (by decide) ?_
    refine vi_aload_n 6 rfl rfl ?_
    refine vi_get 7 rfl f_X0_18 (by assumption) rfl rfl ?_
    refine vi_iadd 8 rfl ?_
    refine vi_V2 9 ok_X0_cell rfl c_X0_63 (by assumption) rfl rfl ?_
    refine sp_X0_cell ‹_› (by omega) (by omega) ?_
    rw [if_pos (by omega)]
    refine vi_aload_n 10 rfl rfl ?_
    refine vi_iload_n 11 rfl rfl ?_
    refine vi_bipush 12 rfl (by decide) ?_
    refine vi_aload_n 13 rfl rfl ?_
    refine vi_get 14 rfl f_X0_22 (by assumption) rfl rfl ?_
    refine vi_iadd 15 rfl ?_
    refine vi_V2 16 ok_X0_cell rfl c_X0_63 (by assumption) rfl rfl ?_
    refine sp_X0_cell ‹_› (by omega) (by omega) ?_
    rw [if_pos (by have := r9 (by omega); omega)]
    refine vi_icmp_ge 17 rfl (by omega) (by omega) (fun c_31 => ?_) (fun c_31 => ?_)
    · refine vi_iconst 20 rfl ?_
      exact vi_ireturn 21 rfl rfl rfl (Nat.zero_le _) (Nat.zero_le _) (k0 (fun q => by have := q.1; have := q.2; omega))
    · refine vi_iconst 18 rfl ?_
      refine vi_goto 19 rfl ?_
      exact vi_ireturn 21 rfl rfl rfl (Nat.zero_le _) (Nat.zero_le _) (k1 ⟨by omega, by omega⟩)
theorem sp_X0_needOfPair {m r : Int} (hb : wb_Bk w b n c s sd sf bo tu g) (hR : wb_BR n c s sd sf) (hm : 0 ≤ m ∧ m < 8) (hr : 0 ≤ r ∧ r < 25) (hQ : Q (some (.int (wb_i (wb_nd c m r)))) N w) : wb_M G M_X0_needOfPair [.ref b, .int (wb_i m), .int (wb_i r)] N w Q := by
  have hb' := hb
  obtain ⟨h0, h1, h2, h3, h4⟩ := hb
  unfold wb_M
  refine vi_aload_n 0 rfl rfl ?_
  refine vi_iload_n 1 rfl rfl ?_
  refine vi_iconst 2 rfl ?_
  refine vi_V2 3 ok_X0_cell rfl c_X0_63 (by assumption) rfl rfl ?_
  refine sp_X0_cell ‹_› (by omega) (by omega) ?_
  rw [if_pos (by omega)]
  refine vi_iload_n 4 rfl rfl ?_
  refine vi_iconst 5 rfl ?_
  refine vi_idiv 6 rfl (by omega) (by omega) ?_
  refine vi_imul 7 rfl ?_
  refine vi_aload_n 8 rfl rfl ?_
  refine vi_iload_n 9 rfl rfl ?_
  refine vi_iconst 10 rfl ?_
  refine vi_V2 11 ok_X0_cell rfl c_X0_63 (by assumption) rfl rfl ?_
  refine sp_X0_cell ‹_› (by omega) (by omega) ?_
  rw [if_pos (by omega)]
  refine vi_iload_n 12 rfl rfl ?_
  refine vi_iconst 13 rfl ?_
  refine vi_irem 14 rfl (by omega) (by omega) ?_
  refine vi_imul 15 rfl ?_
  refine vi_iadd 16 rfl ?_
  exact vi_ireturn 17 rfl rfl rfl (Nat.zero_le _) (Nat.zero_le _) (hQ)
end WBS13
