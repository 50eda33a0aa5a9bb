/-! ===== sets of mixtures: the words ===== -/
/-- a set at b: its words -/
def wb_Mw (w : wb_W) (b : Nat) (g : Int → Int64) : Prop := w b = .inr (5, [.ref (b + 1)]) ∧ w (b + 1) = aL 250 g
theorem wb_Mw.fr {w w' : wb_W} {b : Nat} {g : Int → Int64} (h : wb_Mw w b g) (hf : ∀ k, b ≤ k → k < b + 2 → w' k = w k) : wb_Mw w' b g := ⟨(hf _ (by omega) (by omega)).trans h.1, (hf _ (by omega) (by omega)).trans h.2⟩
def wb_HA : Int64 := 2305843009213693951
section WBS14
variable {G : wb_G} {N : Nat} {w : wb_W} {Q : Option Value → Nat → wb_W → Prop} {b : Nat} {g : Int → Int64}
theorem sp_X5_low {p : Int} (hb : wb_Mw w b g) (hp : -2147483648 ≤ p ∧ p ≤ 2147483647) (hQ : Q (some (.long (if 0 ≤ p ∧ p < 125 then g (2 * p) else 0))) N w) : wb_M G M_X5_low [.ref b, .int (wb_i p)] N w Q := by
  obtain ⟨h0, h1⟩ := hb
  unfold wb_M
  refine vi_iload_n 0 rfl rfl ?_
  refine vi_if_lt 1 rfl (by omega) (fun c_1 => ?_) (fun c_1 => ?_)
  · refine vi_lconst 12 rfl ?_
    exact vi_lreturn 13 rfl rfl (Nat.zero_le _) (Nat.zero_le _) (by first | (rw [if_pos (by omega)] at hQ; exact hQ) | (rw [if_neg (by omega)] at hQ; exact hQ))
  · refine vi_iload_n 2 rfl rfl ?_
    refine vi_bipush 3 rfl (by decide) ?_
    refine vi_icmp_ge 4 rfl (by omega) (by omega) (fun c_7 => ?_) (fun c_7 => ?_)
    · refine vi_lconst 12 rfl ?_
      exact vi_lreturn 13 rfl rfl (Nat.zero_le _) (Nat.zero_le _) (by first | (rw [if_pos (by omega)] at hQ; exact hQ) | (rw [if_neg (by omega)] at hQ; exact hQ))
    · refine vi_aload_n 5 rfl rfl ?_
      refine vi_get 6 rfl f_X5_11 (by assumption) rfl rfl ?_
      refine vi_iconst 7 rfl ?_
      refine vi_iload_n 8 rfl rfl ?_
      refine vi_imul 9 rfl ?_
      refine vi_lald 10 rfl (by assumption) (by omega) ?_
      refine vi_goto 11 rfl ?_
      exact vi_lreturn 13 rfl rfl (Nat.zero_le _) (Nat.zero_le _) (by first | (rw [if_pos (by omega)] at hQ; exact hQ) | (rw [if_neg (by omega)] at hQ; exact hQ))
theorem sp_X5_high {p : Int} (hb : wb_Mw w b g) (hp : -2147483648 ≤ p ∧ p ≤ 2147483647) (hQ : Q (some (.long (if 0 ≤ p ∧ p < 125 then g (2 * p + 1) else 0))) N w) : wb_M G M_X5_high [.ref b, .int (wb_i p)] N w Q := by
  obtain ⟨h0, h1⟩ := hb
  unfold wb_M
  refine vi_iload_n 0 rfl rfl ?_
  refine vi_if_lt 1 rfl (by omega) (fun c_1 => ?_) (fun c_1 => ?_)
  · refine vi_lconst 14 rfl ?_
    exact vi_lreturn 15 rfl rfl (Nat.zero_le _) (Nat.zero_le _) (by first | (rw [if_pos (by omega)] at hQ; exact hQ) | (rw [if_neg (by omega)] at hQ; exact hQ))
  · refine vi_iload_n 2 rfl rfl ?_
    refine vi_bipush 3 rfl (by decide) ?_
    refine vi_icmp_ge 4 rfl (by omega) (by omega) (fun c_7 => ?_) (fun c_7 => ?_)
    · refine vi_lconst 14 rfl ?_
      exact vi_lreturn 15 rfl rfl (Nat.zero_le _) (Nat.zero_le _) (by first | (rw [if_pos (by omega)] at hQ; exact hQ) | (rw [if_neg (by omega)] at hQ; exact hQ))
    · refine vi_aload_n 5 rfl rfl ?_
      refine vi_get 6 rfl f_X5_11 (by assumption) rfl rfl ?_
      refine vi_iconst 7 rfl ?_
      refine vi_iload_n 8 rfl rfl ?_
      refine vi_imul 9 rfl ?_
      refine vi_iconst 10 rfl ?_
      refine vi_iadd 11 rfl ?_
      refine vi_lald 12 rfl (by assumption) (by omega) ?_
      refine vi_goto 13 rfl ?_
      exact vi_lreturn 15 rfl rfl (Nat.zero_le _) (Nat.zero_le _) (by first | (rw [if_pos (by omega)] at hQ; exact hQ) | (rw [if_neg (by omega)] at hQ; exact hQ))
theorem sp_X5_wordOf {x : Int} (hx : 0 ≤ x ∧ x ≤ 2147483647) (hQ : Q (some (.int (wb_i (x / 125 * 2 + x % 125 / 64)))) N w) : wb_M G M_X5_wordOf [.int (wb_i x)] N w Q := by
  unfold wb_M
  refine vi_iload_n 0 rfl rfl ?_
  refine vi_bipush 1 rfl (by decide) ?_
  refine vi_idiv 2 rfl (by omega) (by omega) ?_
  refine vi_iconst 3 rfl ?_
  refine vi_imul 4 rfl ?_
  refine vi_iload_n 5 rfl rfl ?_
  refine vi_bipush 6 rfl (by decide) ?_
  refine vi_irem 7 rfl (by omega) (by omega) ?_
  refine vi_bipush 8 rfl (by decide) ?_
  refine vi_idiv 9 rfl (by omega) (by omega) ?_
  refine vi_iadd 10 rfl ?_
  exact vi_ireturn 11 rfl rfl rfl (Nat.zero_le _) (Nat.zero_le _) (hQ)
theorem sp_X5_bitOf {x : Int} (hx : 0 ≤ x ∧ x ≤ 2147483647) (hQ : Q (some (.int (wb_i (x % 125 % 64)))) N w) : wb_M G M_X5_bitOf [.int (wb_i x)] N w Q := by
  unfold wb_M
  refine vi_iload_n 0 rfl rfl ?_
  refine vi_bipush 1 rfl (by decide) ?_
  refine vi_irem 2 rfl (by omega) (by omega) ?_
  refine vi_bipush 3 rfl (by decide) ?_
  refine vi_irem 4 rfl (by omega) (by omega) ?_
  exact vi_ireturn 5 rfl rfl rfl (Nat.zero_le _) (Nat.zero_le _) (hQ)
theorem sp_X5_addAll (hb : wb_Mw w b g) (hQ : ∀ (w' : wb_W) (g' : Int → Int64), (∀ p, 0 ≤ p → p < 125 → g' (2 * p) = -1 ∧ g' (2 * p + 1) = wb_HA) → wb_Mw w' b g' → (∀ k, k ≠ b + 1 → w' k = w k) → Q none N w') : wb_M G M_X5_addAll [.ref b] N w Q := by
  obtain ⟨h0, h1⟩ := hb
  unfold wb_M
  have lp : ∀ i, i ≤ 125 → ∀ (w1 : wb_W) (g1 : Int → Int64), 0 ≤ i → (∀ p, 0 ≤ p → p < i → g1 (2 * p) = -1 ∧ g1 (2 * p + 1) = wb_HA) → w1 b = w b → w1 (b + 1) = aL 250 g1 → (∀ k, k ≠ b + 1 → w1 k = w k) → wb_V G M_X5_addAll 2 [(0, .ref b), (1, .int (wb_i i))] [] N w1 0 0 Q := by
    refine wb_up 125 _ ?_
    intro i ih hi w1 g1 hi0 hg1 e0 e1 ef
    rw [h0] at e0
    refine vi_iload_n 2 rfl rfl ?_
    refine vi_bipush 3 rfl (by decide) ?_
    refine vi_icmp_ge 4 rfl (by omega) (by omega) (fun c_5 => ?_) (fun c_5 => ?_)
    · exact vi_return 23 rfl rfl (Nat.zero_le _) (Nat.zero_le _) (hQ w1 g1 (fun p h1 h2 => hg1 p h1 (by omega)) ⟨e0, e1⟩ ef)
    · refine vi_aload_n 5 rfl rfl ?_
      refine vi_get 6 rfl f_X5_11 (by assumption) rfl rfl ?_
      refine vi_iconst 7 rfl ?_
      refine vi_iload_n 8 rfl rfl ?_
      refine vi_imul 9 rfl ?_
      refine vi_ldc2 10 rfl k_X5_15 ?_
      refine vi_last 11 rfl (by assumption) (by omega) ?_
      refine vi_aload_n 12 rfl rfl ?_
      refine vi_get 13 rfl f_X5_11 ((wb_upn (by omega)).trans e0) rfl rfl ?_
      refine vi_iconst 14 rfl ?_
      refine vi_iload_n 15 rfl rfl ?_
      refine vi_imul 16 rfl ?_
      refine vi_iconst 17 rfl ?_
      refine vi_iadd 18 rfl ?_
      refine vi_ldc2 19 rfl k_X5_17 ?_
      refine vi_last 20 rfl wb_ups (by omega) ?_
      refine vi_iinc 21 rfl rfl rfl ?_
      refine vi_goto 22 rfl ?_
      refine vi_lc (ih (i + 1) (by omega) (by omega) (va_up (va_up w1 (b + 1) _) (b + 1) _) _ (by omega) ?_ (by rw [wb_upu, wb_upn (by omega), e0, h0]) wb_ups (fun k hk => by rw [wb_upu, wb_upn hk]; exact ef k hk)) ⟨rfl, rfl, trivial⟩
      intro p h1 h2
      by_cases hp : p = i
      · subst hp; exact ⟨by rw [wb_un (by omega), wb_us], wb_us⟩
      · rw [wb_un (by omega), wb_un (by omega), wb_un (by omega), wb_un (by omega)]; exact hg1 p h1 (by omega)
  refine vi_iconst 0 rfl ?_
  refine vi_istore_n 1 rfl rfl ?_
  exact vi_lc (lp 0 (by omega) w g (by omega) (fun p h1 h2 => by omega) rfl h1 (fun _ _ => rfl)) ⟨rfl, rfl, trivial⟩
theorem sp_X5_removeAll (hb : wb_Mw w b g) (hQ : ∀ (w' : wb_W) (g' : Int → Int64), (∀ p, 0 ≤ p → p < 250 → g' p = 0) → wb_Mw w' b g' → (∀ k, k ≠ b + 1 → w' k = w k) → Q none N w') : wb_M G M_X5_removeAll [.ref b] N w Q := by
  obtain ⟨h0, h1⟩ := hb
  unfold wb_M
  have lp : ∀ i, i ≤ 250 → ∀ (w1 : wb_W) (g1 : Int → Int64), 0 ≤ i → (∀ p, 0 ≤ p → p < i → g1 p = 0) → w1 b = w b → w1 (b + 1) = aL 250 g1 → (∀ k, k ≠ b + 1 → w1 k = w k) → wb_V G M_X5_removeAll 2 [(0, .ref b), (1, .int (wb_i i))] [] N w1 0 0 Q := by
    refine wb_up 250 _ ?_
    intro i ih hi w1 g1 hi0 hg1 e0 e1 ef
    rw [h0] at e0
    refine vi_iload_n 2 rfl rfl ?_
    refine vi_sipush 3 rfl (by decide) ?_
    refine vi_icmp_ge 4 rfl (by omega) (by omega) (fun c_6 => ?_) (fun c_6 => ?_)
    · exact vi_return 12 rfl rfl (Nat.zero_le _) (Nat.zero_le _) (hQ w1 g1 (fun p h1 h2 => hg1 p h1 (by omega)) ⟨e0, e1⟩ ef)
    · refine vi_aload_n 5 rfl rfl ?_
      refine vi_get 6 rfl f_X5_11 (by assumption) rfl rfl ?_
      refine vi_iload_n 7 rfl rfl ?_
      refine vi_lconst 8 rfl ?_
      refine vi_last 9 rfl (by assumption) (by omega) ?_
      refine vi_iinc 10 rfl rfl rfl ?_
      refine vi_goto 11 rfl ?_
      refine vi_lc (ih (i + 1) (by omega) (by omega) (va_up w1 (b + 1) _) _ (by omega) ?_ (by rw [wb_upn (by omega), e0, h0]) wb_ups (fun k hk => by rw [wb_upn hk]; exact ef k hk)) ⟨rfl, rfl, trivial⟩
      intro p h1 h2
      by_cases hp : p = i
      · subst hp; exact wb_us
      · rw [wb_un (by omega)]; exact hg1 p h1 (by omega)
  refine vi_iconst 0 rfl ?_
  refine vi_istore_n 1 rfl rfl ?_
  exact vi_lc (lp 0 (by omega) w g (by omega) (fun p h1 h2 => by omega) rfl h1 (fun _ _ => rfl)) ⟨rfl, rfl, trivial⟩
theorem sp_X5_copy {b2 : Nat} {g2 : Int → Int64} (hb : wb_Mw w b g) (hb2 : wb_Mw w b2 g2) (hQ : ∀ (w' : wb_W) (g' : Int → Int64), (∀ p, 0 ≤ p → p < 250 → g' p = g2 p) → wb_Mw w' b g' → (∀ k, k ≠ b + 1 → w' k = w k) → Q none N w') : wb_M G M_X5_copy [.ref b, .ref b2] N w Q := by
  obtain ⟨h0, h1⟩ := hb
  obtain ⟨k0, k1⟩ := hb2
  unfold wb_M
  refine vi_aload_n 0 rfl rfl ?_
  refine vi_get 1 rfl f_X5_11 k0 rfl rfl ?_
  refine vi_iconst 2 rfl ?_
  refine vi_aload_n 3 rfl rfl ?_
  refine vi_get 4 rfl f_X5_11 h0 rfl rfl ?_
  refine vi_iconst 5 rfl ?_
  refine vi_sipush 6 rfl (by decide) ?_
  refine vi_copyL 7 rfl c_X5_19 (n := 250) k1 h1 (by decide) rfl rfl ?_
  exact vi_return 8 rfl rfl (Nat.zero_le _) (Nat.zero_le _) (hQ _ _ (fun p h1 h2 => if_pos ⟨h1, h2⟩) ⟨by rw [wb_upn (by omega)]; exact h0, wb_ups⟩ (fun k hk => wb_upn hk))
theorem sp_X5_join {b2 : Nat} {g2 : Int → Int64} (hb : wb_Mw w b g) (hb2 : wb_Mw w b2 g2) (hne : b + 1 ≠ b2 + 1 ∧ b + 1 ≠ b2) (hQ : ∀ (w' : wb_W) (g' : Int → Int64), (∀ p, 0 ≤ p → p < 250 → g' p = g p ||| g2 p) → wb_Mw w' b g' → (∀ k, k ≠ b + 1 → w' k = w k) → Q none N w') : wb_M G M_X5_join [.ref b, .ref b2] N w Q := by
  obtain ⟨h0, h1⟩ := hb
  obtain ⟨k0, k1⟩ := hb2
  unfold wb_M
  have lp : ∀ i, i ≤ 250 → ∀ (w1 : wb_W) (g1 : Int → Int64), 0 ≤ i → (∀ p, 0 ≤ p → p < 250 → g1 p = if p < i then g p ||| g2 p else g p) → w1 b = w b → w1 (b + 1) = aL 250 g1 → (∀ k, k ≠ b + 1 → w1 k = w k) → wb_V G M_X5_join 2 [(0, .ref b), (1, .ref b2), (2, .int (wb_i i))] [] N w1 0 0 Q := by
    refine wb_up 250 _ ?_
    intro i ih hi w1 g1 hi0 hg1 e0 e1 ef
    rw [h0] at e0
    have f0 : w1 b2 = _ := (ef b2 (Ne.symm hne.2)).trans k0
    have f1 : w1 (b2 + 1) = _ := (ef _ (Ne.symm hne.1)).trans k1
    refine vi_iload_n 2 rfl rfl ?_
    refine vi_sipush 3 rfl (by decide) ?_
    refine vi_icmp_ge 4 rfl (by omega) (by omega) (fun c_6 => ?_) (fun c_6 => ?_)
    · exact vi_return 18 rfl rfl (Nat.zero_le _) (Nat.zero_le _) (hQ w1 g1 (fun p h1 h2 => by rw [hg1 p h1 h2, if_pos (by omega)]) ⟨e0, e1⟩ ef)
    · refine vi_aload_n 5 rfl rfl ?_
      refine vi_get 6 rfl f_X5_11 e0 rfl rfl ?_
      refine vi_iload_n 7 rfl rfl ?_
      refine vi_dup2 8 rfl rfl rfl ?_
      refine vi_lald 9 rfl e1 (by omega) ?_
      refine vi_aload_n 10 rfl rfl ?_
      refine vi_get 11 rfl f_X5_11 f0 rfl rfl ?_
      refine vi_iload_n 12 rfl rfl ?_
      refine vi_lald 13 rfl f1 (by omega) ?_
      refine vi_lor 14 rfl ?_
      refine vi_last 15 rfl e1 (by omega) ?_
      refine vi_iinc 16 rfl rfl rfl ?_
      refine vi_goto 17 rfl ?_
      refine vi_lc (ih (i + 1) (by omega) (by omega) (va_up w1 (b + 1) _) _ (by omega) ?_ (by rw [wb_upn (by omega), e0, h0]) wb_ups (fun k hk => by rw [wb_upn hk]; exact ef k hk)) ⟨rfl, rfl, rfl, trivial⟩
      intro p h1 h2
      by_cases hp : p = i
      · subst hp; rw [wb_us, if_pos (by omega), hg1 p h1 h2, if_neg (by omega)]
      · rw [wb_un (by omega), hg1 p h1 h2]; by_cases hq : p < i
        · rw [if_pos hq, if_pos (by omega)]
        · rw [if_neg hq, if_neg (by omega)]
  refine vi_iconst 0 rfl ?_
  refine vi_istore_n 1 rfl rfl ?_
  exact vi_lc (lp 0 (by omega) w g (by omega) (fun p h1 h2 => by rw [if_neg (by omega)]) rfl h1 (fun _ _ => rfl)) ⟨rfl, rfl, rfl, trivial⟩
theorem sp_X5_narrow {p : Int} {lo hi : Int64} (hb : wb_Mw w b g) (hp : 0 ≤ p ∧ p < 125) (hQ : ∀ (w' : wb_W) (g' : Int → Int64), (∀ j, g' j = if j = 2 * p then g j &&& lo else if j = 2 * p + 1 then g j &&& hi else g j) → wb_Mw w' b g' → (∀ k, k ≠ b + 1 → w' k = w k) → Q none N w') : wb_M G M_X5_narrow [.ref b, .int (wb_i p), .long lo, .long hi] N w Q := by
  obtain ⟨h0, h1⟩ := hb
  unfold wb_M
  refine vi_iload_n 0 rfl rfl ?_
  refine vi_if_lt 1 rfl (by omega) (fun c_1 => by exfalso; omega) (fun c_1 => ?_)
  refine vi_iload_n 2 rfl rfl ?_
  refine vi_bipush 3 rfl (by decide) ?_
  refine vi_icmp_ge 4 rfl (by omega) (by omega) (fun c_7 => by exfalso; omega) (fun c_7 => ?_)
  refine vi_aload_n 5 rfl rfl ?_
  refine vi_get 6 rfl f_X5_11 h0 rfl rfl ?_
  refine vi_iconst 7 rfl ?_
  refine vi_iload_n 8 rfl rfl ?_
  refine vi_imul 9 rfl ?_
  refine vi_dup2 10 rfl rfl rfl ?_
  refine vi_lald 11 rfl h1 (by omega) ?_
  refine vi_lload_n 12 rfl rfl ?_
  refine vi_land 13 rfl ?_
  refine vi_last 14 rfl h1 (by omega) ?_
  refine vi_aload_n 15 rfl rfl ?_
  refine vi_get 16 rfl f_X5_11 ((wb_upn (by omega)).trans h0) rfl rfl ?_
  refine vi_iconst 17 rfl ?_
  refine vi_iload_n 18 rfl rfl ?_
  refine vi_imul 19 rfl ?_
  refine vi_iconst 20 rfl ?_
  refine vi_iadd 21 rfl ?_
  refine vi_dup2 22 rfl rfl rfl ?_
  refine vi_lald 23 rfl wb_ups (by omega) ?_
  refine vi_lload 24 rfl rfl ?_
  refine vi_land 25 rfl ?_
  refine vi_last 26 rfl wb_ups (by omega) ?_
  exact vi_return 27 rfl rfl (Nat.zero_le _) (Nat.zero_le _) (hQ _ _ (fun j => by by_cases h1 : j = 2 * p + 1; (subst h1; rw [wb_us, wb_un (by omega), if_neg (by omega), if_pos rfl]); (rw [wb_un h1, if_neg h1]; by_cases h2 : j = 2 * p; (subst h2; rw [wb_us, if_pos rfl]); rw [wb_un h2, if_neg h2])) ⟨by rw [wb_upu, wb_upn (by omega)]; exact h0, wb_ups⟩ (fun k hk => by rw [wb_upu, wb_upn hk]))
end WBS14
