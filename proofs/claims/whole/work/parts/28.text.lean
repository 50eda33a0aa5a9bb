/-! ===== the signs ===== -/
/-- the text at b, but for its set 'both' (b + 2) -/
def wb_Tx (w : wb_W) (b : Nat) (sg : Int → Int) (cnt : Int) (tp tq : Int → Int) (bl bh : Int → Int64) (wa re nu : Int) : Prop := w b = .inr (8, [.ref (b + 1), .int (wb_i cnt), .ref (b + 2), .ref (b + 4), .ref (b + 5), .ref (b + 6), .ref (b + 7), .int (wb_i wa), .int (wb_i re), .int (wb_i nu)]) ∧ w (b + 1) = aI 50 sg ∧ w (b + 4) = aI 3 tp ∧ w (b + 5) = aI 3 tq ∧ w (b + 6) = aL 66 bl ∧ w (b + 7) = aL 66 bh
theorem wb_Tx.fr {w w' : wb_W} {b : Nat} {sg : Int → Int} {cnt : Int} {tp tq : Int → Int} {bl bh : Int → Int64} {wa re nu : Int} (h : wb_Tx w b sg cnt tp tq bl bh wa re nu) (hf : ∀ k, b ≤ k → k < b + 8 → k ≠ b + 2 → k ≠ b + 3 → w' k = w k) : wb_Tx w' b sg cnt tp tq bl bh wa re nu := by
  obtain ⟨h0, h1, h2, h3, h4, h5⟩ := h
  exact ⟨(hf _ (by omega) (by omega) (by omega) (by omega)).trans h0, (hf _ (by omega) (by omega) (by omega) (by omega)).trans h1, (hf _ (by omega) (by omega) (by omega) (by omega)).trans h2, (hf _ (by omega) (by omega) (by omega) (by omega)).trans h3, (hf _ (by omega) (by omega) (by omega) (by omega)).trans h4, (hf _ (by omega) (by omega) (by omega) (by omega)).trans h5⟩
abbrev wb_dig (s : Int) : Prop := 48 ≤ s ∧ s ≤ 57
abbrev wb_rel (s : Int) : Prop := s = 60 ∨ s = 62 ∨ s = 61
abbrev wb_lnk (s : Int) : Prop := s = 38 ∨ s = 124
/-- what must or may come next -/
def wb_nst (st s : Int) : Int :=
  if st = 0 then (if s = 112 ∨ s = 113 then 1 else -1)
  else if st = 1 then (if 97 ≤ s ∧ s ≤ 99 then 2 else -1)
  else if st = 2 then (if s = 43 then 0 else if wb_rel s then 3 else -1)
  else if st = 3 then (if wb_dig s then 4 else -1)
  else if st = 4 then (if wb_dig s then 5 else if wb_lnk s then 0 else -1)
  else (if wb_lnk s then 0 else -1)
theorem wb_nst_rg (st s : Int) : -1 ≤ wb_nst st s ∧ wb_nst st s ≤ 5 := by
  unfold wb_nst
  split <;> (try split) <;> (try split) <;> (try split) <;> (try split) <;> (try split) <;> (try split) <;> omega
/-- the first fault, from place i on in a state -/
def wb_ff (sg : Int → Int) (cnt : Int) : Nat → Int → Int → Int
  | 0, _, st => if st = 4 ∨ st = 5 then -6 else cnt
  | k + 1, i, st => if wb_nst st (sg i) < 0 then i else wb_ff sg cnt k (i + 1) (wb_nst st (sg i))
def wb_fa (sg : Int → Int) (cnt : Int) : Int := wb_ff sg cnt cnt.toNat 0 0
section WBS28
variable {G : wb_G} {N : Nat} {w : wb_W} {Q : Option Value → Nat → wb_W → Prop} {b : Nat} {sg : Int → Int} {cnt : Int} {tp tq : Int → Int} {bl bh : Int → Int64} {wa re nu : Int}
theorem sp_X8_isDigit {s : Int} (hs : -2147483648 ≤ s ∧ s ≤ 2147483647) (k1 : wb_dig s → Q (some (.int (wb_i 1))) N w) (k0 : ¬ wb_dig s → Q (some (.int (wb_i 0))) N w) : wb_M G M_X8_isDigit [.int (wb_i s)] N w Q := by
  unfold wb_M
  refine vi_iload_n 0 rfl rfl ?_
  refine vi_bipush 1 rfl (by decide) ?_
  refine vi_icmp_lt 2 rfl (by omega) (by omega) (fun c_3 => ?_) (fun c_3 => ?_)
  · refine vi_iconst 8 rfl ?_
    exact vi_ireturn 9 rfl rfl rfl (Nat.zero_le _) (Nat.zero_le _) (k0 (by omega))
  · refine vi_iload_n 3 rfl rfl ?_
    refine vi_bipush 4 rfl (by decide) ?_
    refine vi_icmp_gt 5 rfl (by omega) (by omega) (fun c_9 => ?_) (fun c_9 => ?_)
    · refine vi_iconst 8 rfl ?_
      exact vi_ireturn 9 rfl rfl rfl (Nat.zero_le _) (Nat.zero_le _) (k0 (by omega))
    · refine vi_iconst 6 rfl ?_
      refine vi_goto 7 rfl ?_
      exact vi_ireturn 9 rfl rfl rfl (Nat.zero_le _) (Nat.zero_le _) (k1 (by omega))
theorem sp_X8_isRelation {s : Int} (hs : -2147483648 ≤ s ∧ s ≤ 2147483647) (k1 : wb_rel s → Q (some (.int (wb_i 1))) N w) (k0 : ¬ wb_rel s → Q (some (.int (wb_i 0))) N w) : wb_M G M_X8_isRelation [.int (wb_i s)] N w Q := by
  unfold wb_M
  refine vi_iload_n 0 rfl rfl ?_
  refine vi_bipush 1 rfl (by decide) ?_
  refine vi_icmp_eq 2 rfl (by omega) (by omega) (fun c_3 => ?_) (fun c_3 => ?_)
  · refine vi_iconst 9 rfl ?_
    refine vi_goto 10 rfl ?_
    exact vi_ireturn 12 rfl rfl rfl (Nat.zero_le _) (Nat.zero_le _) (k1 (by omega))
  · refine vi_iload_n 3 rfl rfl ?_
    refine vi_bipush 4 rfl (by decide) ?_
    refine vi_icmp_eq 5 rfl (by omega) (by omega) (fun c_9 => ?_) (fun c_9 => ?_)
    · refine vi_iconst 9 rfl ?_
      refine vi_goto 10 rfl ?_
      exact vi_ireturn 12 rfl rfl rfl (Nat.zero_le _) (Nat.zero_le _) (k1 (by omega))
    · refine vi_iload_n 6 rfl rfl ?_
      refine vi_bipush 7 rfl (by decide) ?_
      refine vi_icmp_ne 8 rfl (by omega) (by omega) (fun c_15 => ?_) (fun c_15 => ?_)
      · refine vi_iconst 11 rfl ?_
        exact vi_ireturn 12 rfl rfl rfl (Nat.zero_le _) (Nat.zero_le _) (k0 (by omega))
      · refine vi_iconst 9 rfl ?_
        refine vi_goto 10 rfl ?_
        exact vi_ireturn 12 rfl rfl rfl (Nat.zero_le _) (Nat.zero_le _) (k1 (by omega))
theorem sp_X8_isLink {s : Int} (hs : -2147483648 ≤ s ∧ s ≤ 2147483647) (k1 : wb_lnk s → Q (some (.int (wb_i 1))) N w) (k0 : ¬ wb_lnk s → Q (some (.int (wb_i 0))) N w) : wb_M G M_X8_isLink [.int (wb_i s)] N w Q := by
  unfold wb_M
  refine vi_iload_n 0 rfl rfl ?_
  refine vi_bipush 1 rfl (by decide) ?_
  refine vi_icmp_eq 2 rfl (by omega) (by omega) (fun c_3 => ?_) (fun c_3 => ?_)
  · refine vi_iconst 6 rfl ?_
    refine vi_goto 7 rfl ?_
    exact vi_ireturn 9 rfl rfl rfl (Nat.zero_le _) (Nat.zero_le _) (k1 (by omega))
  · refine vi_iload_n 3 rfl rfl ?_
    refine vi_bipush 4 rfl (by decide) ?_
    refine vi_icmp_ne 5 rfl (by omega) (by omega) (fun c_9 => ?_) (fun c_9 => ?_)
    · refine vi_iconst 8 rfl ?_
      exact vi_ireturn 9 rfl rfl rfl (Nat.zero_le _) (Nat.zero_le _) (k0 (by omega))
    · refine vi_iconst 6 rfl ?_
      refine vi_goto 7 rfl ?_
      exact vi_ireturn 9 rfl rfl rfl (Nat.zero_le _) (Nat.zero_le _) (k1 (by omega))
theorem sp_X8_behind {st s : Int} (hst : 0 ≤ st ∧ st ≤ 5) (hs : -2147483648 ≤ s ∧ s ≤ 2147483647) (hQ : Q (some (.int (wb_i (wb_nst st s)))) N w) : wb_M G M_X8_behind [.int (wb_i st), .int (wb_i s)] N w Q := by
  unfold wb_M
  refine vi_iload_n 0 rfl rfl ?_
  rcases (show st = 0 ∨ st = 1 ∨ st = 2 ∨ st = 3 ∨ st = 4 ∨ st = 5 by omega) with rfl | rfl | rfl | rfl | rfl | rfl
  · refine vi_tab 1 36 rfl (by omega) (Or.inr ⟨by decide, by decide, _, rfl, by decide⟩) ?_
    refine vi_iload_n 2 rfl rfl ?_
    refine vi_bipush 3 rfl (by decide) ?_
    refine vi_icmp_eq 4 rfl (by omega) (by omega) (fun c_39 => ?_) (fun c_39 => ?_)
    · refine vi_iconst 8 rfl ?_
      refine vi_goto 9 rfl ?_
      exact vi_ireturn 11 rfl rfl rfl (Nat.zero_le _) (Nat.zero_le _) (wb_e (by simp [wb_nst]; omega) hQ)
    · refine vi_iload_n 5 rfl rfl ?_
      refine vi_bipush 6 rfl (by decide) ?_
      refine vi_icmp_ne 7 rfl (by omega) (by omega) (fun c_45 => ?_) (fun c_45 => ?_)
      · refine vi_iconst 10 rfl ?_
        exact vi_ireturn 11 rfl rfl rfl (Nat.zero_le _) (Nat.zero_le _) (wb_e (by simp [wb_nst]; omega) hQ)
      · refine vi_iconst 8 rfl ?_
        refine vi_goto 9 rfl ?_
        exact vi_ireturn 11 rfl rfl rfl (Nat.zero_le _) (Nat.zero_le _) (wb_e (by simp [wb_nst]; omega) hQ)
  · refine vi_tab 1 54 rfl (by omega) (Or.inr ⟨by decide, by decide, _, rfl, by decide⟩) ?_
    refine vi_iload_n 12 rfl rfl ?_
    refine vi_bipush 13 rfl (by decide) ?_
    refine vi_icmp_lt 14 rfl (by omega) (by omega) (fun c_57 => ?_) (fun c_57 => ?_)
    · refine vi_iconst 20 rfl ?_
      exact vi_ireturn 21 rfl rfl rfl (Nat.zero_le _) (Nat.zero_le _) (wb_e (by simp [wb_nst]; omega) hQ)
    · refine vi_iload_n 15 rfl rfl ?_
      refine vi_bipush 16 rfl (by decide) ?_
      refine vi_icmp_gt 17 rfl (by omega) (by omega) (fun c_63 => ?_) (fun c_63 => ?_)
      · refine vi_iconst 20 rfl ?_
        exact vi_ireturn 21 rfl rfl rfl (Nat.zero_le _) (Nat.zero_le _) (wb_e (by simp [wb_nst]; omega) hQ)
      · refine vi_iconst 18 rfl ?_
        refine vi_goto 19 rfl ?_
        exact vi_ireturn 21 rfl rfl rfl (Nat.zero_le _) (Nat.zero_le _) (wb_e (by simp [wb_nst]; omega) hQ)
  · refine vi_tab 1 72 rfl (by omega) (Or.inr ⟨by decide, by decide, _, rfl, by decide⟩) ?_
    refine vi_iload_n 22 rfl rfl ?_
    refine vi_bipush 23 rfl (by decide) ?_
    refine vi_icmp_ne 24 rfl (by omega) (by omega) (fun c_75 => ?_) (fun c_75 => ?_)
    · refine vi_iload_n 27 rfl rfl ?_
      refine vi_S1 28 ok_X8_isRelation rfl c_X8_43 rfl ?_
      refine sp_X8_isRelation (by omega) (fun b_83 => ?_) (fun b_83 => ?_)
      · refine vi_if_eq 29 rfl (by omega) (fun c => absurd c (by decide)) (fun _ => ?_)
        refine vi_iconst 30 rfl ?_
        refine vi_goto 31 rfl ?_
        exact vi_ireturn 33 rfl rfl rfl (Nat.zero_le _) (Nat.zero_le _) (wb_e (by simp [wb_nst]; omega) hQ)
      · refine vi_if_eq 29 rfl (by omega) (fun _ => ?_) (fun c => absurd c (by decide))
        refine vi_iconst 32 rfl ?_
        exact vi_ireturn 33 rfl rfl rfl (Nat.zero_le _) (Nat.zero_le _) (wb_e (by simp [wb_nst]; omega) hQ)
    · refine vi_iconst 25 rfl ?_
      refine vi_goto 26 rfl ?_
      exact vi_ireturn 33 rfl rfl rfl (Nat.zero_le _) (Nat.zero_le _) (wb_e (by simp [wb_nst]; omega) hQ)
  · refine vi_tab 1 95 rfl (by omega) (Or.inr ⟨by decide, by decide, _, rfl, by decide⟩) ?_
    refine vi_iload_n 34 rfl rfl ?_
    refine vi_S1 35 ok_X8_isDigit rfl c_X8_47 rfl ?_
    refine sp_X8_isDigit (by omega) (fun b_96 => ?_) (fun b_96 => ?_)
    · refine vi_if_eq 36 rfl (by omega) (fun c => absurd c (by decide)) (fun _ => ?_)
      refine vi_iconst 37 rfl ?_
      refine vi_goto 38 rfl ?_
      exact vi_ireturn 40 rfl rfl rfl (Nat.zero_le _) (Nat.zero_le _) (wb_e (by simp [wb_nst]; omega) hQ)
    · refine vi_if_eq 36 rfl (by omega) (fun _ => ?_) (fun c => absurd c (by decide))
      refine vi_iconst 39 rfl ?_
      exact vi_ireturn 40 rfl rfl rfl (Nat.zero_le _) (Nat.zero_le _) (wb_e (by simp [wb_nst]; omega) hQ)
  · refine vi_tab 1 108 rfl (by omega) (Or.inr ⟨by decide, by decide, _, rfl, by decide⟩) ?_
    refine vi_iload_n 41 rfl rfl ?_
    refine vi_S1 42 ok_X8_isDigit rfl c_X8_47 rfl ?_
    refine sp_X8_isDigit (by omega) (fun b_109 => ?_) (fun b_109 => ?_)
    · refine vi_if_eq 43 rfl (by omega) (fun c => absurd c (by decide)) (fun _ => ?_)
      refine vi_iconst 44 rfl ?_
      refine vi_goto 45 rfl ?_
      exact vi_ireturn 52 rfl rfl rfl (Nat.zero_le _) (Nat.zero_le _) (wb_e (by simp [wb_nst]; omega) hQ)
    · refine vi_if_eq 43 rfl (by omega) (fun _ => ?_) (fun c => absurd c (by decide))
      refine vi_iload_n 46 rfl rfl ?_
      refine vi_S1 47 ok_X8_isLink rfl c_X8_50 rfl ?_
      refine sp_X8_isLink (by omega) (fun b_120 => ?_) (fun b_120 => ?_)
      · refine vi_if_eq 48 rfl (by omega) (fun c => absurd c (by decide)) (fun _ => ?_)
        refine vi_iconst 49 rfl ?_
        refine vi_goto 50 rfl ?_
        exact vi_ireturn 52 rfl rfl rfl (Nat.zero_le _) (Nat.zero_le _) (wb_e (by simp [wb_nst]; omega) hQ)
      · refine vi_if_eq 48 rfl (by omega) (fun _ => ?_) (fun c => absurd c (by decide))
        refine vi_iconst 51 rfl ?_
        exact vi_ireturn 52 rfl rfl rfl (Nat.zero_le _) (Nat.zero_le _) (wb_e (by simp [wb_nst]; omega) hQ)
  · refine vi_tab 1 132 rfl (by omega) (Or.inl ⟨Or.inr (by decide), by decide⟩) ?_
    refine vi_iload_n 53 rfl rfl ?_
    refine vi_S1 54 ok_X8_isLink rfl c_X8_50 rfl ?_
    refine sp_X8_isLink (by omega) (fun b_133 => ?_) (fun b_133 => ?_)
    · refine vi_if_eq 55 rfl (by omega) (fun c => absurd c (by decide)) (fun _ => ?_)
      refine vi_iconst 56 rfl ?_
      refine vi_goto 57 rfl ?_
      exact vi_ireturn 59 rfl rfl rfl (Nat.zero_le _) (Nat.zero_le _) (wb_e (by simp [wb_nst]; omega) hQ)
    · refine vi_if_eq 55 rfl (by omega) (fun _ => ?_) (fun c => absurd c (by decide))
      refine vi_iconst 58 rfl ?_
      exact vi_ireturn 59 rfl rfl rfl (Nat.zero_le _) (Nat.zero_le _) (wb_e (by simp [wb_nst]; omega) hQ)
theorem sp_X8_add {s : Int} (hb : wb_Tx w b sg cnt tp tq bl bh wa re nu) (hc : 0 ≤ cnt ∧ cnt ≤ 50) (k1 : ∀ w', cnt < 50 → wb_Tx w' b (wb_u sg cnt s) (cnt + 1) tp tq bl bh wa re nu → (∀ k, k ≠ b → k ≠ b + 1 → w' k = w k) → Q (some (.int (wb_i 1))) N w') (k0 : cnt = 50 → Q (some (.int (wb_i 0))) N w) : wb_M G M_X8_add [.ref b, .int (wb_i s)] N w Q := by
  obtain ⟨h0, h1, h2, h3, h4, h5⟩ := hb
  unfold wb_M
  refine vi_aload_n 0 rfl rfl ?_
  refine vi_get 1 rfl f_X8_35 (by assumption) rfl rfl ?_
  refine vi_bipush 2 rfl (by decide) ?_
  refine vi_icmp_lt 3 rfl (by omega) (by omega) (fun c_6 => ?_) (fun c_6 => ?_)
  · refine vi_aload_n 6 rfl rfl ?_
    refine vi_get 7 rfl f_X8_9 (by assumption) rfl rfl ?_
    refine vi_aload_n 8 rfl rfl ?_
    refine vi_get 9 rfl f_X8_35 (by assumption) rfl rfl ?_
    refine vi_iload_n 10 rfl rfl ?_
    refine vi_iast 11 rfl (by assumption) (by omega) ?_
    refine vi_aload_n 12 rfl rfl ?_
    refine vi_dup 13 rfl rfl ?_
    refine vi_get 14 rfl f_X8_35 ((wb_upn (by omega)).trans h0) rfl rfl ?_
    refine vi_iconst 15 rfl ?_
    refine vi_iadd 16 rfl ?_
    refine vi_put 17 rfl f_X8_35 ((wb_upn (by omega)).trans h0) rfl rfl rfl rfl ?_
    refine vi_iconst 18 rfl ?_
    exact vi_ireturn 19 rfl rfl rfl (Nat.zero_le _) (Nat.zero_le _) (k1 _ (by omega) ⟨wb_ups, by rw [wb_upn (by omega)]; exact wb_ups, by rw [wb_upn (by omega), wb_upn (by omega)]; exact h2, by rw [wb_upn (by omega), wb_upn (by omega)]; exact h3, by rw [wb_upn (by omega), wb_upn (by omega)]; exact h4, by rw [wb_upn (by omega), wb_upn (by omega)]; exact h5⟩ (fun k p1 p2 => by rw [wb_upn p1, wb_upn p2]))
  · refine vi_iconst 4 rfl ?_
    exact vi_ireturn 5 rfl rfl rfl (Nat.zero_le _) (Nat.zero_le _) (k0 (by omega))
theorem sp_X8_empty (hb : wb_Tx w b sg cnt tp tq bl bh wa re nu) (hQ : ∀ w', wb_Tx w' b sg 0 tp tq bl bh wa re nu → (∀ k, k ≠ b → w' k = w k) → Q (some (.int (wb_i cnt))) N w') : wb_M G M_X8_empty [.ref b] N w Q := by
  obtain ⟨h0, h1, h2, h3, h4, h5⟩ := hb
  unfold wb_M
  refine vi_aload_n 0 rfl rfl ?_
  refine vi_get 1 rfl f_X8_35 (by assumption) rfl rfl ?_
  refine vi_istore_n 2 rfl rfl ?_
  refine vi_aload_n 3 rfl rfl ?_
  refine vi_iconst 4 rfl ?_
  refine vi_put 5 rfl f_X8_35 (by assumption) rfl rfl rfl rfl ?_
  refine vi_iload_n 6 rfl rfl ?_
  exact vi_ireturn 7 rfl rfl rfl (Nat.zero_le _) (Nat.zero_le _) (hQ _ ⟨wb_ups, by rw [wb_upn (by omega)]; exact h1, by rw [wb_upn (by omega)]; exact h2, by rw [wb_upn (by omega)]; exact h3, by rw [wb_upn (by omega)]; exact h4, by rw [wb_upn (by omega)]; exact h5⟩ (fun k p1 => by rw [wb_upn p1]))
theorem sp_X8_firstFault (hb : wb_Tx w b sg cnt tp tq bl bh wa re nu) (hc : 0 ≤ cnt ∧ cnt ≤ 50) (hsg : ∀ i, 0 ≤ i → i < cnt → 33 ≤ sg i ∧ sg i ≤ 126) (hQ : Q (some (.int (wb_i (wb_fa sg cnt)))) N w) : wb_M G M_X8_firstFault [.ref b] N w Q := by
  obtain ⟨h0, h1, h2, h3, h4, h5⟩ := hb
  unfold wb_M
  have lp : ∀ i, i ≤ cnt → ∀ st : Int, 0 ≤ i → (0 ≤ st ∧ st ≤ 5) → wb_ff sg cnt (cnt - i).toNat i st = wb_fa sg cnt → wb_V G M_X8_firstFault 4 [(0, .ref b), (1, .int (wb_i st)), (2, .int (wb_i i))] [] N w 0 0 Q := by
    refine wb_up cnt _ ?_
    intro i ih hi st hi0 hst he
    have hr := wb_nst_rg st (sg i)
    have hs := fun q : i < cnt => hsg i hi0 q
    have hstep : i < cnt → (cnt - i).toNat = (cnt - (i + 1)).toNat + 1 := fun _ => by omega
    have hend : ¬ i < cnt → (cnt - i).toNat = 0 := fun _ => by omega
    refine vi_iload_n 4 rfl rfl ?_
    refine vi_aload_n 5 rfl rfl ?_
    refine vi_get 6 rfl f_X8_35 (by assumption) rfl rfl ?_
    refine vi_icmp_ge 7 rfl (by omega) (by omega) (fun c_9 => ?_) (fun c_9 => ?_)
    · refine vi_iload_n 24 rfl rfl ?_
      refine vi_iconst 25 rfl ?_
      refine vi_icmp_eq 26 rfl (by omega) (by omega) (fun c_43 => ?_) (fun c_43 => ?_)
      · refine vi_bipush 30 rfl (by decide) ?_
        refine vi_goto 31 rfl ?_
        exact vi_ireturn 34 rfl rfl rfl (Nat.zero_le _) (Nat.zero_le _) (wb_e (by rw [← he, hend (by omega), wb_ff]; split <;> omega) hQ)
      · refine vi_iload_n 27 rfl rfl ?_
        refine vi_iconst 28 rfl ?_
        refine vi_icmp_ne 29 rfl (by omega) (by omega) (fun c_48 => ?_) (fun c_48 => ?_)
        · refine vi_aload_n 32 rfl rfl ?_
          refine vi_get 33 rfl f_X8_35 (by assumption) rfl rfl ?_
          exact vi_ireturn 34 rfl rfl rfl (Nat.zero_le _) (Nat.zero_le _) (wb_e (by rw [← he, hend (by omega), wb_ff]; split <;> omega) hQ)
        · refine vi_bipush 30 rfl (by decide) ?_
          refine vi_goto 31 rfl ?_
          exact vi_ireturn 34 rfl rfl rfl (Nat.zero_le _) (Nat.zero_le _) (wb_e (by rw [← he, hend (by omega), wb_ff]; split <;> omega) hQ)
    · refine vi_iload_n 8 rfl rfl ?_
      refine vi_bipush 9 rfl (by decide) ?_
      refine vi_icmp_ge 10 rfl (by omega) (by omega) (fun c_15 => by exfalso; omega) (fun c_15 => ?_)
      have hsr := hs (by omega)
      refine vi_iload_n 11 rfl rfl ?_
      refine vi_aload_n 12 rfl rfl ?_
      refine vi_get 13 rfl f_X8_9 (by assumption) rfl rfl ?_
      refine vi_iload_n 14 rfl rfl ?_
      refine vi_iald 15 rfl (by assumption) (by omega) ?_
      refine vi_S2 16 ok_X8_behind rfl c_X8_39 rfl ?_
      refine sp_X8_behind (by omega) (by omega) ?_
      refine vi_istore_n 17 rfl rfl ?_
      refine vi_iload_n 18 rfl rfl ?_
      refine vi_if_ge 19 rfl (by omega) (fun c_30 => ?_) (fun c_30 => ?_)
      · refine vi_iinc 22 rfl rfl rfl ?_
        refine vi_goto 23 rfl ?_
        exact vi_lc (ih (i + 1) (by omega) (by omega) _ (by omega) (by omega) (by rw [← he, hstep (by omega), wb_ff, if_neg (by omega)])) ⟨rfl, rfl, rfl, trivial⟩
      · refine vi_iload_n 20 rfl rfl ?_
        exact vi_ireturn 21 rfl rfl rfl (Nat.zero_le _) (Nat.zero_le _) (wb_e (by rw [← he, hstep (by omega), wb_ff, if_pos (by omega)]) hQ)
  refine vi_iconst 0 rfl ?_
  refine vi_istore_n 1 rfl rfl ?_
  refine vi_iconst 2 rfl ?_
  refine vi_istore_n 3 rfl rfl ?_
  exact vi_lc (lp 0 (by omega) 0 (by omega) (by omega) (by unfold wb_fa; rw [show (cnt - 0).toNat = cnt.toNat by omega])) ⟨rfl, rfl, rfl, trivial⟩
theorem sp_X8_beginTest (hb : wb_Tx w b sg cnt tp tq bl bh wa re nu) (hQ : ∀ (w' : wb_W) (tp' tq' : Int → Int), (∀ i, 0 ≤ i → i < 3 → tp' i = 0 ∧ tq' i = 0) → wb_Tx w' b sg cnt tp' tq' bl bh wa re 0 → (∀ k, k ≠ b → k ≠ b + 4 → k ≠ b + 5 → w' k = w k) → Q none N w') : wb_M G M_X8_beginTest [.ref b] N w Q := by
  obtain ⟨h0, h1, h2, h3, h4, h5⟩ := hb
  unfold wb_M
  have lp : ∀ i, i ≤ 3 → ∀ (w1 : wb_W) (tp1 tq1 : Int → Int), 0 ≤ i → (∀ j, 0 ≤ j → j < i → tp1 j = 0 ∧ tq1 j = 0) → w1 (b + 4) = aI 3 tp1 → w1 (b + 5) = aI 3 tq1 → (∀ k, k ≠ b + 4 → k ≠ b + 5 → w1 k = w k) → wb_V G M_X8_beginTest 2 [(0, .ref b), (1, .int (wb_i i))] [] N w1 0 0 Q := by
    refine wb_up 3 _ ?_
    intro i ih hi w1 tp1 tq1 hi0 hz e4 e5 ef
    have e0 := (ef b (by omega) (by omega)).trans h0
    refine vi_iload_n 2 rfl rfl ?_
    refine vi_iconst 3 rfl ?_
    refine vi_icmp_ge 4 rfl (by omega) (by omega) (fun c_4 => ?_) (fun c_4 => ?_)
    · refine vi_aload_n 17 rfl rfl ?_
      refine vi_iconst 18 rfl ?_
      refine vi_put 19 rfl f_X8_73 e0 rfl rfl rfl rfl ?_
      exact vi_return 20 rfl rfl (Nat.zero_le _) (Nat.zero_le _) (hQ _ tp1 tq1 (fun j p1 p2 => hz j p1 (by omega)) ⟨wb_ups, by rw [wb_upn (by omega), ef _ (by omega) (by omega)]; exact h1, by rw [wb_upn (by omega)]; exact e4, by rw [wb_upn (by omega)]; exact e5, by rw [wb_upn (by omega), ef _ (by omega) (by omega)]; exact h4, by rw [wb_upn (by omega), ef _ (by omega) (by omega)]; exact h5⟩ (fun k p1 p2 p3 => by rw [wb_upn p1]; exact ef k p2 p3))
    · refine vi_aload_n 5 rfl rfl ?_
      refine vi_get 6 rfl f_X8_22 e0 rfl rfl ?_
      refine vi_iload_n 7 rfl rfl ?_
      refine vi_iconst 8 rfl ?_
      refine vi_iast 9 rfl e4 (by omega) ?_
      refine vi_aload_n 10 rfl rfl ?_
      refine vi_get 11 rfl f_X8_25 ((wb_upn (by omega)).trans e0) rfl rfl ?_
      refine vi_iload_n 12 rfl rfl ?_
      refine vi_iconst 13 rfl ?_
      refine vi_iast 14 rfl ((wb_upn (by omega)).trans e5) (by omega) ?_
      refine vi_iinc 15 rfl rfl rfl ?_
      refine vi_goto 16 rfl ?_
      refine vi_lc (ih (i + 1) (by omega) (by omega) (va_up (va_up w1 (b + 4) _) (b + 5) _) _ _ (by omega) ?_ (by rw [wb_upn (by omega)]; exact wb_ups) wb_ups (fun k p1 p2 => by rw [wb_upn p2, wb_upn p1]; exact ef k p1 p2)) ⟨rfl, rfl, trivial⟩
      intro j p1 p2
      by_cases hji : j = i
      · subst hji; exact ⟨wb_us, wb_us⟩
      · rw [wb_un hji, wb_un hji]; exact hz j p1 (by omega)
  refine vi_iconst 0 rfl ?_
  refine vi_istore_n 1 rfl rfl ?_
  exact vi_lc (lp 0 (by omega) w tp tq (by omega) (fun j p1 p2 => by omega) h2 h3 (fun _ _ _ => rfl)) ⟨rfl, rfl, trivial⟩
def wb_su3 (f : Int → Int) (p : Int) : Int := f 0 * (p / 25) + f 1 * (p / 5 % 5) + f 2 * (p % 5)
theorem sp_X8_sumOf {q : Nat} {f : Int → Int} {p : Int} (hw : w q = aI 3 f) (hp : 0 ≤ p ∧ p < 125) (hQ : Q (some (.int (wb_i (wb_su3 f p)))) N w) : wb_M G M_X8_sumOf [.ref q, .int (wb_i p)] N w Q := by
  unfold wb_M
  refine vi_aload_n 0 rfl rfl ?_
  refine vi_iconst 1 rfl ?_
  refine vi_iald 2 rfl (by assumption) (by omega) ?_
  refine vi_iload_n 3 rfl rfl ?_
  refine vi_bipush 4 rfl (by decide) ?_
  refine vi_idiv 5 rfl (by omega) (by omega) ?_
  refine vi_imul 6 rfl ?_
  refine vi_aload_n 7 rfl rfl ?_
  refine vi_iconst 8 rfl ?_
  refine vi_iald 9 rfl (by assumption) (by omega) ?_
  refine vi_iload_n 10 rfl rfl ?_
  refine vi_iconst 11 rfl ?_
  refine vi_idiv 12 rfl (by omega) (by omega) ?_
  refine vi_iconst 13 rfl ?_
  refine vi_irem 14 rfl (by omega) (by omega) ?_
  refine vi_imul 15 rfl ?_
  refine vi_iadd 16 rfl ?_
  refine vi_aload_n 17 rfl rfl ?_
  refine vi_iconst 18 rfl ?_
  refine vi_iald 19 rfl (by assumption) (by omega) ?_
  refine vi_iload_n 20 rfl rfl ?_
  refine vi_iconst 21 rfl ?_
  refine vi_irem 22 rfl (by omega) (by omega) ?_
  refine vi_imul 23 rfl ?_
  refine vi_iadd 24 rfl ?_
  exact vi_ireturn 25 rfl rfl rfl (Nat.zero_le _) (Nat.zero_le _) (hQ)
end WBS28
