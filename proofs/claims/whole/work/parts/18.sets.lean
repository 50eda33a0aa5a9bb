/-! ===== sets of mixtures by their members ===== -/
def wb_rp (g : Int → Int64) (S : Int → Bool) : Prop := ∀ k b : Int, 0 ≤ k → k < 250 → 0 ≤ b → b < 64 → wb_tb (g k) b = (decide (k % 2 * 64 + b < 125) && S (k / 2 * 125 + k % 2 * 64 + b))
theorem wb_rp_at {g : Int → Int64} {S : Int → Bool} (h : wb_rp g S) {x : Int} (hx : 0 ≤ x ∧ x < 15625) : wb_tb (g (x / 125 * 2 + x % 125 / 64)) (x % 125 % 64) = S x := by
  rw [h _ _ (by omega) (by omega) (by omega) (by omega)]
  have e1 : (x / 125 * 2 + x % 125 / 64) % 2 = x % 125 / 64 := by omega
  have e2 : (x / 125 * 2 + x % 125 / 64) / 2 = x / 125 := by omega
  rw [e1, e2, show x / 125 * 125 + x % 125 / 64 * 64 + x % 125 % 64 = x by omega]
  simp [show x % 125 / 64 * 64 + x % 125 % 64 < 125 by omega]
theorem wb_cmp0 (x : Int64) : lg_cmp x 0 = 0 ↔ x = 0 := by
  unfold lg_cmp
  constructor
  · intro h
    split at h
    · exact absurd h (by decide)
    · split at h
      · assumption
      · exact absurd h (by decide)
  · intro h; subst h; decide
theorem wb_bit0 {x : Int64} {k : Int} (hk : 0 ≤ k ∧ k < 64) : ((x.toUInt64 >>> ((wb_i k).toInt64.toUInt64 &&& Int64.toUInt64 63)).toInt64 &&& Int64.ofNat (1 : Fin 2)) = 0 ↔ wb_tb x k = false := by
  rw [wb_tb_eq0]
  constructor
  · intro h
    have := h 0 (by omega) (by omega)
    rw [wb_tb_and, wb_tb_shr hk (by omega), show Int64.ofNat ((1 : Fin 2) : Nat) = 1 from rfl, wb_tb_1 (by omega)] at this
    simpa using this
  · intro h b h1 h2
    rw [wb_tb_and, wb_tb_shr hk h1, show Int64.ofNat ((1 : Fin 2) : Nat) = 1 from rfl, wb_tb_1 ⟨h1, h2⟩]
    by_cases hb : b = 0
    · subst hb; simp [h]
    · simp [hb]
theorem wb_ct_split (p : Int → Bool) (m : Nat) : ∀ n : Nat, wb_ct p (m + n) = wb_ct p m + wb_ct (fun i => p (m + i)) n := by
  intro n
  induction n with
  | zero => simp [wb_ct]
  | succ n ih =>
    rw [show m + (n + 1) = (m + n) + 1 by omega, wb_ct, ih, wb_ct]
    rw [show ((m + n : Nat) : Int) = (m : Int) + (n : Int) by omega]
    exact Int.add_assoc _ _ _
theorem wb_ct_none {p : Int → Bool} : ∀ n : Nat, (∀ i : Int, 0 ≤ i → i < n → p i = false) → wb_ct p n = 0 := by
  intro n
  induction n with
  | zero => intro _; rfl
  | succ n ih => intro h; rw [wb_ct, ih (fun i h1 h2 => h i h1 (by omega)), h n (by omega) (by omega)]; rfl
/-- a word's bits are the next members -/
theorem wb_rp_pc {g : Int → Int64} {S : Int → Bool} (h : wb_rp g S) {k : Int} (hk : 0 ≤ k ∧ k < 250) : wb_ct S (((k + 1) / 2 * 125 + (k + 1) % 2 * 64).toNat) = wb_ct S ((k / 2 * 125 + k % 2 * 64).toNat) + wb_pc (g k) := by
  rcases (show k % 2 = 0 ∨ k % 2 = 1 by omega) with hp | hp
  · rw [show ((k + 1) / 2 * 125 + (k + 1) % 2 * 64).toNat = (k / 2 * 125 + k % 2 * 64).toNat + 64 by omega, wb_ct_split]
    congr 1
    apply wb_ct_congr
    intro b h1 h2
    rw [h k b hk.1 hk.2 h1 (by omega), hp]
    simp [show b < 125 by omega]
    congr 1
    omega
  · rw [show ((k + 1) / 2 * 125 + (k + 1) % 2 * 64).toNat = (k / 2 * 125 + k % 2 * 64).toNat + 61 by omega, wb_ct_split]
    congr 1
    unfold wb_pc
    rw [show (64 : Nat) = 61 + 3 from rfl, wb_ct_split]
    have z : wb_ct (fun i => wb_tb (g k) (((61 : Nat) : Int) + i)) 3 = 0 := by
      apply wb_ct_none
      intro i h1 h2
      rw [h k _ hk.1 hk.2 (by omega) (by omega), hp]
      simp
      omega
    rw [z, Int.add_zero]
    apply wb_ct_congr
    intro b h1 h2
    rw [h k b hk.1 hk.2 h1 (by omega), hp]
    simp [show 64 + b < 125 by omega]
    congr 1
    omega
/-- the first member from a number on -/
def wb_nxt (S : Int → Bool) : Nat → Int → Int
  | 0, _ => -1
  | n + 1, x => if S x then x else wb_nxt S n (x + 1)
def wb_nx (S : Int → Bool) (x : Int) : Int := wb_nxt S (15625 - x).toNat x
theorem wb_nxt_at {S : Int → Bool} : ∀ (n : Nat) (a x : Int), a ≤ x → x < a + n → S x = true → (∀ y, a ≤ y → y < x → S y = false) → wb_nxt S n a = x := by
  intro n
  induction n with
  | zero => intro a x h1 h2; omega
  | succ n ih =>
    intro a x h1 h2 hx hy
    unfold wb_nxt
    by_cases h : a = x
    · subst h; rw [if_pos hx]
    · rw [if_neg (by rw [hy a (by omega) (by omega)]; decide)]
      exact ih (a + 1) x (by omega) (by omega) hx (fun y h3 h4 => hy y (by omega) h4)
theorem wb_nxt_no {S : Int → Bool} : ∀ (n : Nat) (a : Int), (∀ y, a ≤ y → y < a + n → S y = false) → wb_nxt S n a = -1 := by
  intro n
  induction n with
  | zero => intro a _; rfl
  | succ n ih =>
    intro a hy
    unfold wb_nxt
    rw [if_neg (by rw [hy a (by omega) (by omega)]; decide)]
    exact ih (a + 1) (fun y h3 h4 => hy y (by omega) (by omega))
theorem wb_nx_at {S : Int → Bool} {a x : Int} (h1 : a ≤ x) (h2 : x < 15625) (hx : S x = true) (hy : ∀ y, a ≤ y → y < x → S y = false) : wb_nx S a = x := wb_nxt_at _ a x h1 (by omega) hx hy
theorem wb_nx_no {S : Int → Bool} {a : Int} (hy : ∀ y, a ≤ y → y < 15625 → S y = false) : wb_nx S a = -1 := wb_nxt_no _ a (fun y h1 h2 => hy y h1 (by omega))
theorem wb_nx_cases (S : Int → Bool) (a : Int) : (a ≤ wb_nx S a ∧ wb_nx S a < 15625 ∧ S (wb_nx S a) = true ∧ ∀ y, a ≤ y → y < wb_nx S a → S y = false) ∨ (wb_nx S a = -1 ∧ ∀ y, a ≤ y → y < 15625 → S y = false) := by
  have : ∀ (n : Nat) (a : Int), (a ≤ wb_nxt S n a ∧ wb_nxt S n a < a + n ∧ S (wb_nxt S n a) = true ∧ ∀ y, a ≤ y → y < wb_nxt S n a → S y = false) ∨ (wb_nxt S n a = -1 ∧ ∀ y, a ≤ y → y < a + n → S y = false) := by
    intro n
    induction n with
    | zero => intro a; exact Or.inr ⟨rfl, fun y h1 h2 => by omega⟩
    | succ n ih =>
      intro a
      unfold wb_nxt
      by_cases h : S a = true
      · rw [if_pos h]; exact Or.inl ⟨by omega, by omega, h, fun y h1 h2 => by omega⟩
      · rw [if_neg h]
        have h' : S a = false := by simpa using h
        rcases ih (a + 1) with ⟨h1, h2, h3, h4⟩ | ⟨h1, h2⟩
        · refine Or.inl ⟨by omega, by omega, h3, fun y h5 h6 => ?_⟩
          by_cases hy : y = a
          · rw [hy]; exact h'
          · exact h4 y (by omega) h6
        · refine Or.inr ⟨h1, fun y h5 h6 => ?_⟩
          by_cases hy : y = a
          · rw [hy]; exact h'
          · exact h2 y (by omega) (by omega)
  rcases this (15625 - a).toNat a with ⟨h1, h2, h3, h4⟩ | ⟨h1, h2⟩
  · refine Or.inl ⟨h1, ?_, h3, h4⟩
    show wb_nxt S _ a < _
    rcases (show a < 15625 ∨ 15625 ≤ a by omega) with h | h
    · omega
    · rw [show (15625 - a).toNat = 0 by omega] at h2 ⊢; show wb_nxt S 0 a < _; simp [wb_nxt]
  · refine Or.inr ⟨h1, fun y h3 h4 => h2 y h3 (by omega)⟩
section WBS18
variable {G : wb_G} {N : Nat} {w : wb_W} {Q : Option Value → Nat → wb_W → Prop} {b : Nat} {g : Int → Int64} {S : Int → Bool}
theorem sp_X5_has {x : Int} (hb : wb_Mw w b g) (hS : wb_rp g S) (hx : -2147483648 ≤ x ∧ x ≤ 2147483647) (k1 : (0 ≤ x ∧ x < 15625) ∧ S x = true → Q (some (.int (wb_i 1))) N w) (k0 : ¬ ((0 ≤ x ∧ x < 15625) ∧ S x = true) → Q (some (.int (wb_i 0))) N w) : wb_M G M_X5_has [.ref b, .int (wb_i x)] N w Q := by
  obtain ⟨h0, h1⟩ := hb
  unfold wb_M
  refine vi_iload_n 0 rfl rfl ?_
  refine vi_S1 1 ok_X11_isMixture rfl c_X5_25 rfl ?_
  refine sp_X11_isMixture (by omega) (fun b_1 => ?_) (fun b_1 => ?_)
  · have e := wb_rp_at hS b_1
    refine vi_if_ne 2 rfl (by omega) (fun _ => ?_) (fun c => absurd c (by decide))
    refine vi_aload_n 5 rfl rfl ?_
    refine vi_get 6 rfl f_X5_11 (by assumption) rfl rfl ?_
    refine vi_iload_n 7 rfl rfl ?_
    refine vi_S1 8 ok_X5_wordOf rfl c_X5_29 rfl ?_
    refine sp_X5_wordOf (by omega) ?_
    refine vi_lald 9 rfl (by assumption) (by omega) ?_
    refine vi_iload_n 10 rfl rfl ?_
    refine vi_S1 11 ok_X5_bitOf rfl c_X5_33 rfl ?_
    refine sp_X5_bitOf (by omega) ?_
    refine vi_lushr 12 rfl ?_
    refine vi_lconst 13 rfl ?_
    refine vi_land 14 rfl ?_
    refine vi_lconst 15 rfl ?_
    refine vi_lcmp 16 rfl ?_
    refine vi_if_eq32 17 rfl  (fun c_27 => ?_) (fun c_27 => ?_)
    · refine vi_iconst 20 rfl ?_
      exact vi_ireturn 21 rfl rfl rfl (Nat.zero_le _) (Nat.zero_le _) (k0 (fun q => by have := (wb_bit0 (by omega)).mp ((wb_cmp0 _).mp c_27); rw [e, q.2] at this; cases this))
    · refine vi_iconst 18 rfl ?_
      refine vi_goto 19 rfl ?_
      exact vi_ireturn 21 rfl rfl rfl (Nat.zero_le _) (Nat.zero_le _) (k1 ⟨b_1, by rw [← e]; cases hh : wb_tb (g (x / 125 * 2 + x % 125 / 64)) (x % 125 % 64) with | true => rfl | false => exact absurd ((wb_cmp0 _).mpr ((wb_bit0 (by omega)).mpr hh)) c_27⟩)
  · replace k0 := k0 (fun q => b_1 q.1)
    refine vi_if_ne 2 rfl (by omega) (fun c => absurd c (by decide)) (fun _ => ?_)
    refine vi_iconst 3 rfl ?_
    exact vi_ireturn 4 rfl rfl rfl (Nat.zero_le _) (Nat.zero_le _) (k0)
theorem sp_X5_count (hb : wb_Mw w b g) (hS : wb_rp g S) (hQ : Q (some (.int (wb_i (wb_ct S 15625)))) N w) : wb_M G M_X5_count [.ref b] N w Q := by
  obtain ⟨h0, h1⟩ := hb
  unfold wb_M
  have lp : ∀ i, i ≤ 250 → ∀ c : Int, 0 ≤ i → c = wb_ct S ((i / 2 * 125 + i % 2 * 64).toNat) → wb_V G M_X5_count 4 [(0, .ref b), (1, .int (wb_i c)), (2, .int (wb_i i))] [] N w 0 0 Q := by
    refine wb_up 250 _ ?_
    intro i ih hi c hi0 hc
    refine vi_iload_n 4 rfl rfl ?_
    refine vi_sipush 5 rfl (by decide) ?_
    refine vi_icmp_ge 6 rfl (by omega) (by omega) (fun c_8 => ?_) (fun c_8 => ?_)
    · refine vi_iload_n 17 rfl rfl ?_
      exact vi_ireturn 18 rfl rfl rfl (Nat.zero_le _) (Nat.zero_le _) (wb_e (by rw [hc, show i = 250 by omega]; rfl) hQ)
    · refine vi_iload_n 7 rfl rfl ?_
      refine vi_aload_n 8 rfl rfl ?_
      refine vi_get 9 rfl f_X5_11 (by assumption) rfl rfl ?_
      refine vi_iload_n 10 rfl rfl ?_
      refine vi_lald 11 rfl (by assumption) (by omega) ?_
      refine vi_S1 12 ok_J13_bitCount_95d88 rfl c_X5_36 rfl ?_
      refine sp_bitCountL ?_
      refine vi_iadd 13 rfl ?_
      refine vi_istore_n 14 rfl rfl ?_
      refine vi_iinc 15 rfl rfl rfl ?_
      refine vi_goto 16 rfl ?_
      exact vi_lc (ih (i + 1) (by omega) (by omega) (c + wb_pc (g i)) (by omega) (by rw [hc, wb_rp_pc hS (by omega)])) ⟨rfl, rfl, rfl, trivial⟩
  refine vi_iconst 0 rfl ?_
  refine vi_istore_n 1 rfl rfl ?_
  refine vi_iconst 2 rfl ?_
  refine vi_istore_n 3 rfl rfl ?_
  exact vi_lc (lp 0 (by omega) 0 (by omega) (by simp [wb_ct])) ⟨rfl, rfl, rfl, trivial⟩
theorem wb_rp_lo {g : Int → Int64} {S : Int → Bool} (h : wb_rp g S) {k a a' : Int} {x : Int64} (hk : 0 ≤ k ∧ k < 250) (ha : 0 ≤ a ∧ a < 64) (hx0 : x ≠ 0) (hx : ∀ b, 0 ≤ b → b < 64 → wb_tb x b = (decide (a ≤ b) && wb_tb (g k) b)) (hy : ∀ y, a' ≤ y → y < k / 2 * 125 + k % 2 * 64 + a → S y = false) (ha' : a' ≤ k / 2 * 125 + k % 2 * 64 + a) : wb_nx S a' = k / 2 * 125 + k % 2 * 64 + wb_lo x := by
  obtain ⟨s1, s2, s3⟩ := wb_lo_spec hx0
  have e := hx _ s1.1 s1.2
  rw [s2, h k _ hk.1 hk.2 s1.1 s1.2] at e
  have e2 := e.symm
  simp only [Bool.and_eq_true, decide_eq_true_eq] at e2
  refine wb_nx_at (by omega) (by omega) e2.2.2 (fun y h1 h2 => ?_)
  rcases (show y < k / 2 * 125 + k % 2 * 64 + a ∨ k / 2 * 125 + k % 2 * 64 + a ≤ y by omega) with h3 | h3
  · exact hy y h1 h3
  · have h4 := s3 (y - (k / 2 * 125 + k % 2 * 64)) (by omega) (by omega)
    rw [hx _ (by omega) (by omega), h k _ hk.1 hk.2 (by omega) (by omega), show k / 2 * 125 + k % 2 * 64 + (y - (k / 2 * 125 + k % 2 * 64)) = y by omega] at h4
    simpa [show a ≤ y - (k / 2 * 125 + k % 2 * 64) by omega, show k % 2 * 64 + (y - (k / 2 * 125 + k % 2 * 64)) < 125 by omega] using h4
theorem wb_rp_no {g : Int → Int64} {S : Int → Bool} (h : wb_rp g S) {k a : Int} {x : Int64} (hk : 0 ≤ k ∧ k < 250) (hx0 : x = 0) (hx : ∀ b, 0 ≤ b → b < 64 → wb_tb x b = (decide (a ≤ b) && wb_tb (g k) b)) (ha : 0 ≤ a ∧ a < 64) : ∀ y, k / 2 * 125 + k % 2 * 64 + a ≤ y → y < (k + 1) / 2 * 125 + (k + 1) % 2 * 64 → S y = false := by
  intro y h1 h2
  have e := wb_tb_eq0.mp hx0 (y - (k / 2 * 125 + k % 2 * 64)) (by omega) (by omega)
  rw [hx _ (by omega) (by omega), h k _ hk.1 hk.2 (by omega) (by omega), show k / 2 * 125 + k % 2 * 64 + (y - (k / 2 * 125 + k % 2 * 64)) = y by omega] at e
  simpa [show a ≤ y - (k / 2 * 125 + k % 2 * 64) by omega, show k % 2 * 64 + (y - (k / 2 * 125 + k % 2 * 64)) < 125 by omega] using e
theorem sp_X5_next {a : Int} (hb : wb_Mw w b g) (hS : wb_rp g S) (ha : 0 ≤ a ∧ a ≤ 2147483647) (hQ : Q (some (.int (wb_i (wb_nx S a)))) N w) : wb_M G M_X5_next [.ref b, .int (wb_i a)] N w Q := by
  obtain ⟨h0, h1⟩ := hb
  unfold wb_M
  have lp : ∀ i, i ≤ 250 → 0 ≤ i → (∀ y, a ≤ y → y < i / 2 * 125 + i % 2 * 64 → S y = false) → a ≤ i / 2 * 125 + i % 2 * 64 → wb_V G M_X5_next 50 [(0, .ref b), (6, .int (wb_i i))] [] N w 0 0 Q := by
    refine wb_up 250 _ ?_
    intro i ih hi hi0 hy hai
    have hx : i < 250 → ∀ b, 0 ≤ b → b < 64 → wb_tb (g i) b = (decide (0 ≤ b) && wb_tb (g i) b) := fun _ b h1 _ => by simp [h1]
    refine vi_iload 32 rfl rfl ?_
    refine vi_sipush 33 rfl (by decide) ?_
    refine vi_icmp_ge 34 rfl (by omega) (by omega) (fun c_55 => ?_) (fun c_55 => ?_)
    · refine vi_iconst 51 rfl ?_
      exact vi_ireturn 52 rfl rfl rfl (Nat.zero_le _) (Nat.zero_le _) (wb_e (wb_nx_no (fun y q1 q2 => hy y q1 (by omega))).symm hQ)
    · refine vi_aload_n 35 rfl rfl ?_
      refine vi_get 36 rfl f_X5_11 (by assumption) rfl rfl ?_
      refine vi_iload 37 rfl rfl ?_
      refine vi_lald 38 rfl (by assumption) (by omega) ?_
      refine vi_lconst 39 rfl ?_
      refine vi_lcmp 40 rfl ?_
      refine vi_if_eq32 41 rfl  (fun c_67 => ?_) (fun c_67 => ?_)
      · refine vi_iinc 49 rfl rfl rfl ?_
        refine vi_goto 50 rfl ?_
        exact vi_lc (ih (i + 1) (by omega) (by omega) (by omega) (fun y q1 q2 => (show y < i / 2 * 125 + i % 2 * 64 ∨ i / 2 * 125 + i % 2 * 64 + 0 ≤ y by omega).elim (hy y q1) (fun q3 => wb_rp_no hS (k := i) (a := 0) (by omega) ((wb_cmp0 _).mp c_67) (hx (by omega)) (by omega) y q3 q2)) (by omega)) ⟨rfl, rfl, trivial⟩
      · refine vi_iload 42 rfl rfl ?_
        refine vi_aload_n 43 rfl rfl ?_
        refine vi_get 44 rfl f_X5_11 (by assumption) rfl rfl ?_
        refine vi_iload 45 rfl rfl ?_
        refine vi_lald 46 rfl (by assumption) (by omega) ?_
        refine vi_S2 47 ok_X5_numberOf rfl c_X5_42 rfl ?_
        refine sp_X5_numberOf (by omega) (fun q => c_67 ((wb_cmp0 _).mpr q)) ?_
        exact vi_ireturn 48 rfl rfl rfl (Nat.zero_le _) (Nat.zero_le _) (wb_e (wb_rp_lo hS (a' := a) (a := 0) (by omega) (by omega) (fun q => c_67 ((wb_cmp0 _).mpr q)) (hx (by omega)) (by simpa using hy) (by omega)).symm hQ)
  refine vi_iload_n 0 rfl rfl ?_
  refine vi_S1 1 ok_X11_isMixture rfl c_X5_25 rfl ?_
  refine sp_X11_isMixture (by omega) (fun b_1 => ?_) (fun b_1 => ?_)
  · have hx : ∀ b, 0 ≤ b → b < 64 → wb_tb (((g (a / 125 * 2 + a % 125 / 64)).toUInt64 >>> ((wb_i (a % 125 % 64)).toInt64.toUInt64 &&& Int64.toUInt64 63)).toInt64 <<< ((wb_i (a % 125 % 64)).toInt64 &&& 63)) b = (decide (a % 125 % 64 ≤ b) && wb_tb (g (a / 125 * 2 + a % 125 / 64)) b) := fun b q1 q2 => by rw [wb_tb_shl (by omega) ⟨q1, q2⟩]; (by_cases hq : a % 125 % 64 ≤ b); (rw [wb_tb_shr (by omega) (by omega), show b - a % 125 % 64 + a % 125 % 64 = b by omega]); simp [hq]
    refine vi_if_ne 2 rfl (by omega) (fun _ => ?_) (fun c => absurd c (by decide))
    refine vi_iload_n 5 rfl rfl ?_
    refine vi_S1 6 ok_X5_wordOf rfl c_X5_29 rfl ?_
    refine sp_X5_wordOf (by omega) ?_
    refine vi_istore_n 7 rfl rfl ?_
    refine vi_iload_n 8 rfl rfl ?_
    refine vi_S1 9 ok_X5_bitOf rfl c_X5_33 rfl ?_
    refine sp_X5_bitOf (by omega) ?_
    refine vi_istore_n 10 rfl rfl ?_
    refine vi_aload_n 11 rfl rfl ?_
    refine vi_get 12 rfl f_X5_11 (by assumption) rfl rfl ?_
    refine vi_iload_n 13 rfl rfl ?_
    refine vi_lald 14 rfl (by assumption) (by omega) ?_
    refine vi_iload_n 15 rfl rfl ?_
    refine vi_lushr 16 rfl ?_
    refine vi_iload_n 17 rfl rfl ?_
    refine vi_lshl 18 rfl ?_
    refine vi_lstore 19 rfl rfl ?_
    refine vi_lload 20 rfl rfl ?_
    refine vi_lconst 21 rfl ?_
    refine vi_lcmp 22 rfl ?_
    refine vi_if_eq32 23 rfl  (fun c_35 => ?_) (fun c_35 => ?_)
    · refine vi_iload_n 28 rfl rfl ?_
      refine vi_iconst 29 rfl ?_
      refine vi_iadd 30 rfl ?_
      refine vi_istore 31 rfl rfl ?_
      exact vi_lc (lp (a / 125 * 2 + a % 125 / 64 + 1) (by omega) (by omega) (fun y q1 q2 => wb_rp_no hS (k := a / 125 * 2 + a % 125 / 64) (by omega) ((wb_cmp0 _).mp c_35) hx (by omega) y (by omega) q2) (by omega)) ⟨rfl, rfl, trivial⟩
    · refine vi_iload_n 24 rfl rfl ?_
      refine vi_lload 25 rfl rfl ?_
      refine vi_S2 26 ok_X5_numberOf rfl c_X5_42 rfl ?_
      refine sp_X5_numberOf (by omega) (fun q => c_35 ((wb_cmp0 _).mpr q)) ?_
      exact vi_ireturn 27 rfl rfl rfl (Nat.zero_le _) (Nat.zero_le _) (wb_e (wb_rp_lo hS (a' := a) (by omega) (by omega) (fun q => c_35 ((wb_cmp0 _).mpr q)) hx (fun y q1 q2 => by omega) (by omega)).symm hQ)
  · refine vi_if_ne 2 rfl (by omega) (fun c => absurd c (by decide)) (fun _ => ?_)
    refine vi_iconst 3 rfl ?_
    exact vi_ireturn 4 rfl rfl rfl (Nat.zero_le _) (Nat.zero_le _) (wb_e (wb_nx_no (fun y q1 q2 => by omega)).symm hQ)
end WBS18
