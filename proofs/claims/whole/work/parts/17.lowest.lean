/-! ===== the lowest bit ===== -/
theorem wb_pn_ones : ∀ (j k : Nat), j ≤ k → wb_pn k (2 ^ j - 1) = j := by
  intro j
  induction j with
  | zero =>
    intro k _
    have : ∀ k, wb_pn k 0 = 0 := by
      intro k
      induction k with
      | zero => rfl
      | succ k ih => rw [wb_pn, Nat.zero_div, ih]
    exact this k
  | succ j ih =>
    intro k hk
    cases k with
    | zero => omega
    | succ k =>
      rw [wb_pn]
      have hp : 0 < 2 ^ j := Nat.two_pow_pos j
      have e : 2 ^ (j + 1) = 2 * 2 ^ j := by rw [Nat.pow_succ, Nat.mul_comm]
      rw [show (2 ^ (j + 1) - 1) % 2 = 1 by omega, show (2 ^ (j + 1) - 1) / 2 = 2 ^ j - 1 by omega, ih k (by omega)]
      omega
theorem wb_lowN {X j : Nat} (hX : X < 2 ^ 64) (hj : X.testBit j = true) (hlo : ∀ i, i < j → X.testBit i = false) : X &&& (2 ^ 64 - X) = 2 ^ j := by
  have hp : 0 < 2 ^ j := Nat.two_pow_pos j
  have h0 : X % 2 ^ j = 0 := by
    apply Nat.eq_of_testBit_eq
    intro i
    rw [Nat.testBit_mod_two_pow, Nat.zero_testBit]
    by_cases h : i < j
    · simp [h, hlo i h]
    · simp [h]
  obtain ⟨q, hq⟩ : ∃ q, X = 2 ^ j * q := ⟨X / 2 ^ j, by have := Nat.div_add_mod X (2 ^ j); omega⟩
  have hqt : ∀ i, X.testBit (j + i) = q.testBit i := by
    intro i
    have := Nat.testBit_two_pow_mul_add (i := j) q (b := 0) hp (j + i)
    rw [Nat.add_zero, ← hq, if_neg (by omega), show j + i - j = i by omega] at this
    exact this
  have hq0 : q.testBit 0 = true := by rw [← hqt 0]; exact hj
  have hqo : q % 2 = 1 := by
    rw [Nat.testBit_zero] at hq0
    simpa using hq0
  have hX1 : 1 ≤ X := by
    rcases Nat.eq_zero_or_pos X with h | h
    · rw [h, Nat.zero_testBit] at hj; cases hj
    · exact h
  have hXm : X - 1 = 2 ^ j * (q - 1) + (2 ^ j - 1) := by
    have e : 2 ^ j * q = 2 ^ j * (q - 1) + 2 ^ j := by
      conv => lhs; rw [show q = (q - 1) + 1 by omega, Nat.mul_add, Nat.mul_one]
    omega
  apply Nat.eq_of_testBit_eq
  intro i
  rw [Nat.testBit_and, show 2 ^ 64 - X = 2 ^ 64 - ((X - 1) + 1) by omega, Nat.testBit_two_pow_sub_succ (by omega), Nat.testBit_two_pow]
  by_cases h1 : i < j
  · simp [hlo i h1, show ¬ j = i by omega]
  · obtain ⟨d, rfl⟩ : ∃ d, i = j + d := ⟨i - j, by omega⟩
    rw [hqt d, hXm, Nat.testBit_two_pow_mul_add _ (by omega), if_neg (by omega), show j + d - j = d by omega]
    cases d with
    | zero =>
      have e2 : (q - 1).testBit 0 = false := by rw [Nat.testBit_zero]; simp; omega
      have hj64 : j < 64 := by
        rcases Nat.lt_or_ge j 64 with h | h
        · exact h
        · exfalso
          have := Nat.testBit_lt_two_pow (x := X) (i := j) (Nat.lt_of_lt_of_le hX (Nat.pow_le_pow_right (by decide) h))
          rw [hj] at this; cases this
      simp [hq0, e2, hj64]
    | succ d =>
      rw [Nat.testBit_succ, Nat.testBit_succ, show (q - 1) / 2 = q / 2 by omega]
      cases (q / 2).testBit d <;> simp [show ¬ j = j + (d + 1) by omega]
theorem wb_pc_low {x : Int64} {j : Int} (hj : 0 ≤ j ∧ j < 64) (h1 : wb_tb x j = true) (h2 : ∀ b, 0 ≤ b → b < j → wb_tb x b = false) : wb_pc ((x &&& -x) - 1) = j := by
  have hb : ∀ i : Nat, x.toBitVec.toNat.testBit i = x.toBitVec.getLsbD i := fun i => rfl
  have t1 : x.toBitVec.toNat.testBit j.toNat = true := h1
  have t2 : ∀ i, i < j.toNat → x.toBitVec.toNat.testBit i = false := fun i hi => by
    have := h2 (i : Int) (by omega) (by omega)
    exact this
  have hX : x.toBitVec.toNat < 2 ^ 64 := x.toBitVec.isLt
  have hl := wb_lowN hX t1 t2
  have hX1 : 1 ≤ x.toBitVec.toNat := by
    rcases Nat.eq_zero_or_pos x.toBitVec.toNat with h | h
    · rw [h, Nat.zero_testBit] at t1; cases t1
    · exact h
  have hn : (-x).toBitVec.toNat = 2 ^ 64 - x.toBitVec.toNat := by
    rw [Int64.toBitVec_neg, BitVec.toNat_neg, Nat.mod_eq_of_lt (by omega)]
  have e1 : (x &&& -x).toBitVec.toNat = 2 ^ j.toNat := by rw [wb_n_and, hn, hl]
  have hp : 0 < 2 ^ j.toNat := Nat.two_pow_pos _
  have e2 : ((x &&& -x) - 1).toBitVec.toNat = 2 ^ j.toNat - 1 := by
    rw [wb_n_sub (by rw [e1]; exact hp), e1]
    rfl
  rw [wb_pc_pn, e2, wb_pn_ones _ _ (by omega)]
  omega
/-- a long that is not 0 has a lowest bit -/
theorem wb_low_ex {x : Int64} (h : x ≠ 0) : ∃ j, (0 ≤ j ∧ j < 64) ∧ wb_tb x j = true ∧ ∀ b, 0 ≤ b → b < j → wb_tb x b = false := by
  have h1 : ∃ k : Nat, k < 64 ∧ wb_tb x (k : Int) = true := by
    refine Classical.byContradiction fun hn => h (wb_tb_eq0.mpr fun b h1 h2 => ?_)
    cases hb : wb_tb x b with
    | false => rfl
    | true => exact absurd ⟨b.toNat, by omega, by rw [show ((b.toNat : Nat) : Int) = b by omega]; exact hb⟩ hn
  obtain ⟨k, ⟨hk, hk2⟩, hk3⟩ := pk_least (fun k => k < 64 ∧ wb_tb x (k : Int) = true) h1
  refine ⟨k, by omega, hk2, fun b h1 h2 => ?_⟩
  cases hb : wb_tb x b with
  | false => rfl
  | true => exact absurd ⟨by omega, by rw [show ((b.toNat : Nat) : Int) = b by omega]; exact hb⟩ (hk3 b.toNat (by omega))
/-- the lowest bit, as a function -/
noncomputable def wb_lo (x : Int64) : Int := if h : x ≠ 0 then Classical.choose (wb_low_ex h) else 0
theorem wb_lo_spec {x : Int64} (h : x ≠ 0) : (0 ≤ wb_lo x ∧ wb_lo x < 64) ∧ wb_tb x (wb_lo x) = true ∧ ∀ b, 0 ≤ b → b < wb_lo x → wb_tb x b = false := by
  unfold wb_lo
  rw [dif_pos h]
  exact Classical.choose_spec (wb_low_ex h)
section WBS17
variable {G : wb_G} {N : Nat} {w : wb_W} {Q : Option Value → Nat → wb_W → Prop}
theorem sp_X11_lowestPlace {x : Int64} (hx : x ≠ 0) (hQ : Q (some (.int (wb_i (wb_lo x)))) N w) : wb_M G M_X11_lowestPlace [.long x] N w Q := by
  unfold wb_M
  obtain ⟨s1, s2, s3⟩ := wb_lo_spec hx
  rw [← wb_pc_low s1 s2 s3] at hQ
  refine vi_lload_n 0 rfl rfl ?_
  refine vi_lload_n 1 rfl rfl ?_
  refine vi_lneg 2 rfl ?_
  refine vi_land 3 rfl ?_
  refine vi_lconst 4 rfl ?_
  refine vi_lsub 5 rfl ?_
  refine vi_S1 6 ok_J13_bitCount_95d88 rfl c_X11_280 rfl ?_
  refine sp_bitCountL ?_
  exact vi_ireturn 7 rfl rfl rfl (Nat.zero_le _) (Nat.zero_le _) (hQ)
theorem sp_X5_numberOf {k : Int} {x : Int64} (hk : 0 ≤ k ∧ k < 250) (hx : x ≠ 0) (hQ : Q (some (.int (wb_i (k / 2 * 125 + k % 2 * 64 + wb_lo x)))) N w) : wb_M G M_X5_numberOf [.int (wb_i k), .long x] N w Q := by
  unfold wb_M
  refine vi_iload_n 0 rfl rfl ?_
  refine vi_iconst 1 rfl ?_
  refine vi_idiv 2 rfl (by omega) (by omega) ?_
  refine vi_bipush 3 rfl (by decide) ?_
  refine vi_imul 4 rfl ?_
  refine vi_iload_n 5 rfl rfl ?_
  refine vi_iconst 6 rfl ?_
  refine vi_irem 7 rfl (by omega) (by omega) ?_
  refine vi_bipush 8 rfl (by decide) ?_
  refine vi_imul 9 rfl ?_
  refine vi_iadd 10 rfl ?_
  refine vi_lload_n 11 rfl rfl ?_
  refine vi_S1 12 ok_X11_lowestPlace rfl c_X5_50 rfl ?_
  refine sp_X11_lowestPlace (by assumption) ?_
  refine vi_iadd 13 rfl ?_
  exact vi_ireturn 14 rfl rfl rfl (Nat.zero_le _) (Nat.zero_le _) (hQ)
end WBS17
