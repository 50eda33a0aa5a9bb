/-! ===== the i-th member ===== -/
theorem wb_ct_mono {p : Int → Bool} {m n : Nat} (h : m ≤ n) : wb_ct p m ≤ wb_ct p n := by
  obtain ⟨d, rfl⟩ : ∃ d, n = m + d := ⟨n - m, by omega⟩
  rw [wb_ct_split]
  have := (wb_ct_rg (fun i => p (m + i)) d).1
  omega
theorem wb_ct_lt {p : Int → Bool} {m n : Nat} (h : m < n) (hp : p (m : Int) = true) : wb_ct p m < wb_ct p n := by
  have h1 : wb_ct p (m + 1) = wb_ct p m + 1 := by rw [wb_ct, if_pos hp]
  have h2 := wb_ct_mono (p := p) (m := m + 1) (n := n) h
  omega
theorem wb_ct_kth {p : Int → Bool} {k : Int} (hk : 0 ≤ k) : ∀ n : Nat, k < wb_ct p n → ∃ b : Nat, b < n ∧ p (b : Int) = true ∧ wb_ct p b = k := by
  intro n
  induction n with
  | zero => intro h; simp [wb_ct] at h; omega
  | succ n ih =>
    intro h
    by_cases h1 : k < wb_ct p n
    · obtain ⟨b, h2, h3⟩ := ih h1
      exact ⟨b, by omega, h3⟩
    · rw [wb_ct] at h
      by_cases h2 : p (n : Int) = true
      · rw [if_pos h2] at h
        exact ⟨n, by omega, h2, by omega⟩
      · rw [if_neg h2] at h; omega
theorem wb_clrN {X j : Nat} (hj : X.testBit j = true) (hlo : ∀ i, i < j → X.testBit i = false) (i : Nat) : (X &&& (X - 1)).testBit i = (X.testBit i && decide (i ≠ j)) := by
  have hp : 0 < 2 ^ j := Nat.two_pow_pos j
  have h0 : X % 2 ^ j = 0 := by
    apply Nat.eq_of_testBit_eq
    intro i
    rw [Nat.testBit_mod_two_pow, Nat.zero_testBit]
    by_cases h : i < j
    · simp [h, hlo i h]
    · simp [h]
  obtain ⟨q, hq⟩ : ∃ q, X = 2 ^ j * q := ⟨X / 2 ^ j, by have := Nat.div_add_mod X (2 ^ j); omega⟩
  have hqt : ∀ i, X.testBit (j + i) = q.testBit i := by
    intro i
    have := Nat.testBit_two_pow_mul_add (i := j) q (b := 0) hp (j + i)
    rw [Nat.add_zero, ← hq, if_neg (by omega), show j + i - j = i by omega] at this
    exact this
  have hq0 : q.testBit 0 = true := by rw [← hqt 0]; exact hj
  have hqo : q % 2 = 1 := by
    rw [Nat.testBit_zero] at hq0
    simpa using hq0
  have hXm : X - 1 = 2 ^ j * (q - 1) + (2 ^ j - 1) := by
    have e : 2 ^ j * q = 2 ^ j * (q - 1) + 2 ^ j := by
      conv => lhs; rw [show q = (q - 1) + 1 by omega, Nat.mul_add, Nat.mul_one]
    omega
  rw [Nat.testBit_and]
  by_cases h1 : i < j
  · simp [hlo i h1]
  · obtain ⟨d, rfl⟩ : ∃ d, i = j + d := ⟨i - j, by omega⟩
    rw [hqt d, hXm, Nat.testBit_two_pow_mul_add _ (by omega), if_neg (by omega), show j + d - j = d by omega]
    cases d with
    | zero =>
      have e2 : (q - 1).testBit 0 = false := by rw [Nat.testBit_zero]; simp; omega
      simp [hq0, e2]
    | succ d =>
      rw [Nat.testBit_succ, Nat.testBit_succ, show (q - 1) / 2 = q / 2 by omega]
      cases (q / 2).testBit d <;> simp
theorem wb_tb_clr {x : Int64} (hx : x ≠ 0) {b : Int} (hb : 0 ≤ b ∧ b < 64) : wb_tb (x &&& (x - Int64.ofNat (1 : Fin 2))) b = (wb_tb x b && decide (b ≠ wb_lo x)) := by
  obtain ⟨s1, s2, s3⟩ := wb_lo_spec hx
  have t1 : x.toBitVec.toNat.testBit (wb_lo x).toNat = true := s2
  have t2 : ∀ i, i < (wb_lo x).toNat → x.toBitVec.toNat.testBit i = false := fun i hi => by
    have := s3 (i : Int) (by omega) (by omega)
    exact this
  have hX1 : 1 ≤ x.toBitVec.toNat := by
    rcases Nat.eq_zero_or_pos x.toBitVec.toNat with h | h
    · rw [h, Nat.zero_testBit] at t1; cases t1
    · exact h
  have e := wb_clrN t1 t2 b.toNat
  have e2 : (x &&& (x - Int64.ofNat (1 : Fin 2))).toBitVec.toNat = x.toBitVec.toNat &&& (x.toBitVec.toNat - 1) := by
    rw [wb_n_and, wb_n_sub (by exact hX1)]
    rfl
  show (x &&& (x - Int64.ofNat (1 : Fin 2))).toBitVec.toNat.testBit b.toNat = _
  rw [e2, e]
  show (wb_tb x b && _) = _
  congr 1
  by_cases h : b = wb_lo x
  · rw [h]; simp
  · simp [h, show ¬ b.toNat = (wb_lo x).toNat by omega]
/-- x without its m lowest bits -/
def wb_wl (x y : Int64) (m : Int) : Prop := ∀ b, 0 ≤ b → b < 64 → wb_tb y b = (wb_tb x b && decide (m ≤ wb_ct (wb_tb x) b.toNat))
theorem wb_wl_lo {x y : Int64} {m : Int} (hm : 0 ≤ m) (h : wb_wl x y m) (hy : y ≠ 0) : wb_tb x (wb_lo y) = true ∧ wb_ct (wb_tb x) (wb_lo y).toNat = m := by
  obtain ⟨s1, s2, s3⟩ := wb_lo_spec hy
  have e := h _ s1.1 s1.2
  rw [s2] at e
  have e := e.symm
  simp only [Bool.and_eq_true, decide_eq_true_eq] at e
  refine ⟨e.1, ?_⟩
  rcases (show wb_ct (wb_tb x) (wb_lo y).toNat = m ∨ m < wb_ct (wb_tb x) (wb_lo y).toNat by omega) with h1 | h1
  · exact h1
  · obtain ⟨b, h2, h3, h4⟩ := wb_ct_kth hm _ h1
    have := s3 (b : Int) (by omega) (by omega)
    rw [h _ (by omega) (by omega), h3, show ((b : Int)).toNat = b by omega, h4] at this
    simp at this
theorem wb_wl_step {x y : Int64} {m : Int} (hm : 0 ≤ m) (h : wb_wl x y m) : wb_wl x (y &&& (y - Int64.ofNat (1 : Fin 2))) (m + 1) := by
  intro b h1 h2
  by_cases hy : y = 0
  · have e0 := wb_tb_eq0.mp hy
    have e1 := e0 b h1 h2
    rw [wb_tb_and, e1]
    have e2 := h b h1 h2
    rw [e1] at e2
    cases hx : wb_tb x b with
    | false => rfl
    | true =>
      rw [hx] at e2
      simp at e2
      simp
      omega
  · obtain ⟨l1, l2⟩ := wb_wl_lo hm h hy
    obtain ⟨s1, s2, s3⟩ := wb_lo_spec hy
    rw [wb_tb_clr hy ⟨h1, h2⟩, h b h1 h2]
    cases hx : wb_tb x b with
    | false => simp
    | true =>
      by_cases hb : b = wb_lo y
      · rw [hb]; simp [l2]; omega
      · have : wb_ct (wb_tb x) b.toNat ≠ m := by
          intro hc
          rcases (show b < wb_lo y ∨ wb_lo y < b by omega) with h3 | h3
          · have := wb_ct_lt (p := wb_tb x) (m := b.toNat) (n := (wb_lo y).toNat) (by omega) (by rw [show ((b.toNat : Nat) : Int) = b by omega]; exact hx)
            omega
          · have := wb_ct_lt (p := wb_tb x) (m := (wb_lo y).toNat) (n := b.toNat) (by omega) (by rw [show (((wb_lo y).toNat : Nat) : Int) = wb_lo y by omega]; exact l1)
            omega
        simp [hb]
        omega
/-- the i-th member -/
def wb_nh (S : Int → Bool) (i : Int) : Int := wb_nx (fun x => S x && decide (wb_ct S x.toNat = i)) 0
theorem wb_nh_at {S : Int → Bool} {i x : Int} (hx : 0 ≤ x ∧ x < 15625) (h1 : S x = true) (h2 : wb_ct S x.toNat = i) : wb_nh S i = x := by
  refine wb_nx_at hx.1 hx.2 (by simp [h1, h2]) (fun y h3 h4 => ?_)
  cases hy : S y with
  | false => rfl
  | true =>
    have := wb_ct_lt (p := S) (m := y.toNat) (n := x.toNat) (by omega) (by rw [show ((y.toNat : Nat) : Int) = y by omega]; exact hy)
    simp
    omega
theorem wb_nh_no {S : Int → Bool} {i : Int} (h : wb_ct S 15625 ≤ i) : wb_nh S i = -1 := by
  refine wb_nx_no (fun y h1 h2 => ?_)
  cases hy : S y with
  | false => rfl
  | true =>
    have := wb_ct_lt (p := S) (m := y.toNat) (n := 15625) (by omega) (by rw [show ((y.toNat : Nat) : Int) = y by omega]; exact hy)
    simp
    omega
theorem wb_nh_neg {S : Int → Bool} {i : Int} (h : i < 0) : wb_nh S i = -1 := by
  refine wb_nx_no (fun y h1 h2 => ?_)
  have := (wb_ct_rg S y.toNat).1
  cases hy : S y with
  | false => rfl
  | true => simp; omega
section WBS19
variable {G : wb_G} {N : Nat} {w : wb_W} {Q : Option Value → Nat → wb_W → Prop} {b : Nat} {g : Int → Int64} {S : Int → Bool}
theorem sp_X5_withoutLowest {x : Int64} {m : Int} (hm : 0 ≤ m ∧ m ≤ 64) (hQ : ∀ y, wb_wl x y m → Q (some (.long y)) N w) : wb_M G M_X5_withoutLowest [.long x, .int (wb_i m)] N w Q := by
  unfold wb_M
  have lp : ∀ i, i ≤ m → ∀ y : Int64, 0 ≤ i → wb_wl x y i → wb_V G M_X5_withoutLowest 5 [(2, .int (wb_i m)), (3, .long y), (5, .int (wb_i i))] [] N w 0 0 Q := by
    refine wb_up m _ ?_
    intro i ih hi y hi0 hy
    refine vi_iload 4 rfl rfl ?_
    refine vi_iload_n 5 rfl rfl ?_
    refine vi_icmp_ge 6 rfl (by omega) (by omega) (fun c_8 => ?_) (fun c_8 => ?_)
    · refine vi_lload_n 15 rfl rfl ?_
      exact vi_lreturn 16 rfl rfl (Nat.zero_le _) (Nat.zero_le _) (hQ y (by rw [show m = i by omega]; exact hy))
    · refine vi_lload_n 7 rfl rfl ?_
      refine vi_lload_n 8 rfl rfl ?_
      refine vi_lconst 9 rfl ?_
      refine vi_lsub 10 rfl ?_
      refine vi_land 11 rfl ?_
      refine vi_lstore_n 12 rfl rfl ?_
      refine vi_iinc 13 rfl rfl rfl ?_
      refine vi_goto 14 rfl ?_
      exact vi_lc (ih (i + 1) (by omega) (by omega) _ (by omega) (wb_wl_step hi0 hy)) ⟨rfl, rfl, rfl, trivial⟩
  refine vi_lload_n 0 rfl rfl ?_
  refine vi_lstore_n 1 rfl rfl ?_
  refine vi_iconst 2 rfl ?_
  refine vi_istore 3 rfl rfl ?_
  exact vi_lc (lp 0 (by omega) x (by omega) (fun b h1 h2 => by have := (wb_ct_rg (wb_tb x) b.toNat).1; simp [this])) ⟨rfl, rfl, rfl, trivial⟩
theorem wb_wl_ne {x y : Int64} {m : Int} (hm : 0 ≤ m) (h : wb_wl x y m) (hc : m < wb_pc x) : y ≠ 0 := by
  intro hy
  obtain ⟨b, h2, h3, h4⟩ := wb_ct_kth hm 64 hc
  have := wb_tb_eq0.mp hy (b : Int) (by omega) (by omega)
  rw [h _ (by omega) (by omega), h3, show ((b : Int)).toNat = b by omega, h4] at this
  simp at this
theorem wb_rp_nh {g : Int → Int64} {S : Int → Bool} (h : wb_rp g S) {k a i : Int} {y : Int64} (hk : 0 ≤ k ∧ k < 250) (ha : 0 ≤ a) (hai : a + wb_ct S ((k / 2 * 125 + k % 2 * 64).toNat) = i) (hl : wb_wl (g k) y a) (hc : a < wb_pc (g k)) : wb_nh S i = k / 2 * 125 + k % 2 * 64 + wb_lo y := by
  have hy := wb_wl_ne ha hl hc
  obtain ⟨l1, l2⟩ := wb_wl_lo ha hl hy
  obtain ⟨s1, s2, s3⟩ := wb_lo_spec hy
  have e := h k _ hk.1 hk.2 s1.1 s1.2
  rw [l1] at e
  have e2 := e.symm
  simp only [Bool.and_eq_true, decide_eq_true_eq] at e2
  refine wb_nh_at (by omega) e2.2 ?_
  rw [show (k / 2 * 125 + k % 2 * 64 + wb_lo y).toNat = (k / 2 * 125 + k % 2 * 64).toNat + (wb_lo y).toNat by omega, wb_ct_split]
  have : wb_ct (fun i => S (((k / 2 * 125 + k % 2 * 64).toNat : Nat) + i)) (wb_lo y).toNat = wb_ct (wb_tb (g k)) (wb_lo y).toNat := by
    apply wb_ct_congr
    intro b h1 h2
    rw [h k b hk.1 hk.2 h1 (by omega)]
    simp [show k % 2 * 64 + b < 125 by omega]
    congr 1
    omega
  rw [this, l2]
  omega
theorem sp_X5_nth {i : Int} (hb : wb_Mw w b g) (hS : wb_rp g S) (hi : -2147483648 ≤ i ∧ i ≤ 2147483647) (hQ : Q (some (.int (wb_i (wb_nh S i)))) N w) : wb_M G M_X5_nth [.ref b, .int (wb_i i)] N w Q := by
  obtain ⟨h0, h1⟩ := hb
  unfold wb_M
  have lp : ∀ k, k ≤ 250 → ∀ a : Int, 0 ≤ k → 0 ≤ a → a + wb_ct S ((k / 2 * 125 + k % 2 * 64).toNat) = i → wb_V G M_X5_nth 10 [(0, .ref b), (2, .int (wb_i a)), (3, .int (wb_i k))] [] N w 0 0 Q := by
    refine wb_up 250 _ ?_
    intro k ih hk a hk0 ha hai
    have hpr := (wb_ct_rg S ((k / 2 * 125 + k % 2 * 64).toNat)).1
    have hpc := wb_ct_rg (wb_tb (g k)) 64
    have hpe : wb_ct (wb_tb (g k)) 64 = wb_pc (g k) := rfl
    refine vi_iload_n 8 rfl rfl ?_
    refine vi_sipush 9 rfl (by decide) ?_
    refine vi_icmp_ge 10 rfl (by omega) (by omega) (fun c_14 => ?_) (fun c_14 => ?_)
    · refine vi_iconst 35 rfl ?_
      exact vi_ireturn 36 rfl rfl rfl (Nat.zero_le _) (Nat.zero_le _) (wb_e (wb_nh_no (by have e : k = 250 := (by omega); subst e; have e2 : ((250 : Int) / 2 * 125 + 250 % 2 * 64).toNat = 15625 := rfl; rw [e2] at hai; omega)).symm hQ)
    · refine vi_aload_n 11 rfl rfl ?_
      refine vi_get 12 rfl f_X5_11 (by assumption) rfl rfl ?_
      refine vi_iload_n 13 rfl rfl ?_
      refine vi_lald 14 rfl (by assumption) (by omega) ?_
      refine vi_S1 15 ok_J13_bitCount_95d88 rfl c_X5_36 rfl ?_
      refine sp_bitCountL ?_
      refine vi_istore 16 rfl rfl ?_
      refine vi_iload_n 17 rfl rfl ?_
      refine vi_iload 18 rfl rfl ?_
      refine vi_icmp_ge 19 rfl (by omega) (by omega) (fun c_31 => ?_) (fun c_31 => ?_)
      · refine vi_iload_n 29 rfl rfl ?_
        refine vi_iload 30 rfl rfl ?_
        refine vi_isub 31 rfl ?_
        refine vi_istore_n 32 rfl rfl ?_
        refine vi_iinc 33 rfl rfl rfl ?_
        refine vi_goto 34 rfl ?_
        exact vi_lc (ih (k + 1) (by omega) (by omega) (a - wb_pc (g k)) (by omega) (by omega) (by rw [wb_rp_pc hS (by omega)]; omega)) ⟨rfl, rfl, rfl, trivial⟩
      · refine vi_iload_n 20 rfl rfl ?_
        refine vi_aload_n 21 rfl rfl ?_
        refine vi_get 22 rfl f_X5_11 (by assumption) rfl rfl ?_
        refine vi_iload_n 23 rfl rfl ?_
        refine vi_lald 24 rfl (by assumption) (by omega) ?_
        refine vi_iload_n 25 rfl rfl ?_
        refine vi_S2 26 ok_X5_withoutLowest rfl c_X5_46 rfl ?_
        refine sp_X5_withoutLowest (by omega) (fun y hy => ?_)
        refine vi_S2 27 ok_X5_numberOf rfl c_X5_42 rfl ?_
        refine sp_X5_numberOf (by omega) (wb_wl_ne ha hy (by omega)) ?_
        exact vi_ireturn 28 rfl rfl rfl (Nat.zero_le _) (Nat.zero_le _) (wb_e (wb_rp_nh hS (by omega) ha hai hy (by omega)).symm hQ)
  refine vi_iload_n 0 rfl rfl ?_
  refine vi_if_ge 1 rfl (by omega) (fun c_1 => ?_) (fun c_1 => ?_)
  · refine vi_iload_n 4 rfl rfl ?_
    refine vi_istore_n 5 rfl rfl ?_
    refine vi_iconst 6 rfl ?_
    refine vi_istore_n 7 rfl rfl ?_
    exact vi_lc (lp 0 (by omega) i (by omega) (by omega) (by simp [wb_ct])) ⟨rfl, rfl, rfl, trivial⟩
  · refine vi_iconst 2 rfl ?_
    exact vi_ireturn 3 rfl rfl rfl (Nat.zero_le _) (Nat.zero_le _) (wb_e (wb_nh_neg (by omega)).symm hQ)
end WBS19
