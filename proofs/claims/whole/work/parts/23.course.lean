/-! ===== the course: needs by key, what goes through ===== -/
/-- a course at b, but for its mesh -/
def wb_Co (w : wb_W) (b : Nat) (rm : Nat) (nd ah on : Int → Int) (t gu ke : Int) : Prop := ∃ f0 f1 : Int → Int, w b = .inr (2, [.int (wb_i rm), .ref (b + 3), .ref (b + 1), .ref (b + 2), .ref (b + 4), .ref (b + 5), .ref (b + 6), .int (wb_i t), .int (wb_i gu), .int (wb_i ke)]) ∧ w (b + 1) = aI 25 f0 ∧ w (b + 2) = aI 25 f1 ∧ w (b + 3) = aI (rm * 8) nd ∧ w (b + 4) = aI (rm * 9) ah ∧ w (b + 5) = aI (rm * 9) on
theorem wb_Co.fr {w w' : wb_W} {b rm : Nat} {nd ah on : Int → Int} {t gu ke : Int} (h : wb_Co w b rm nd ah on t gu ke) (hf : ∀ k, b ≤ k → k < b + 6 → w' k = w k) : wb_Co w' b rm nd ah on t gu ke := by
  obtain ⟨f0, f1, h0, h1, h2, h3, h4, h5⟩ := h
  exact ⟨f0, f1, (hf _ (by omega) (by omega)).trans h0, (hf _ (by omega) (by omega)).trans h1, (hf _ (by omega) (by omega)).trans h2, (hf _ (by omega) (by omega)).trans h3, (hf _ (by omega) (by omega)).trans h4, (hf _ (by omega) (by omega)).trans h5⟩
/-- what is needed of a thing in a month by a key -/
def wb_kn (c : Int → Int) (sd sf t key m : Int) : Int := wb_ow c sd sf m t (key % 25) + wb_gn c sd sf m t (key / 25)
section WBS23
variable {G : wb_G} {N : Nat} {w : wb_W} {Q : Option Value → Nat → wb_W → Prop} {b bb : Nat} {rm : Nat} {nd ah on : Int → Int} {t gu ke : Int}
variable {n : Int} {c s : Int → Int} {sd sf bo tu : Int} {g : Int → Int64}
theorem sp_X2_isPlace {k m : Int} (hb : wb_Co w b rm nd ah on t gu ke) (hke : 0 ≤ ke ∧ ke ≤ 625) (hk : -2147483648 ≤ k ∧ k ≤ 2147483647) (hm : -2147483648 ≤ m ∧ m ≤ 2147483647) (k1 : (0 ≤ k ∧ k < ke) ∧ 0 ≤ m ∧ m < 8 → Q (some (.int (wb_i 1))) N w) (k0 : ¬ ((0 ≤ k ∧ k < ke) ∧ 0 ≤ m ∧ m < 8) → Q (some (.int (wb_i 0))) N w) : wb_M G M_X2_isPlace [.ref b, .int (wb_i k), .int (wb_i m)] N w Q := by
  obtain ⟨f0, f1, h0, h1, h2, h3, h4, h5⟩ := hb
  unfold wb_M
  refine vi_iload_n 0 rfl rfl ?_
  refine vi_if_lt 1 rfl (by omega) (fun c_1 => ?_) (fun c_1 => ?_)
  · refine vi_iconst 13 rfl ?_
    exact vi_ireturn 14 rfl rfl rfl (Nat.zero_le _) (Nat.zero_le _) (k0 (by omega))
  · refine vi_iload_n 2 rfl rfl ?_
    refine vi_aload_n 3 rfl rfl ?_
    refine vi_get 4 rfl f_X2_52 (by assumption) rfl rfl ?_
    refine vi_icmp_ge 5 rfl (by omega) (by omega) (fun c_9 => ?_) (fun c_9 => ?_)
    · refine vi_iconst 13 rfl ?_
      exact vi_ireturn 14 rfl rfl rfl (Nat.zero_le _) (Nat.zero_le _) (k0 (by omega))
    · refine vi_iload_n 6 rfl rfl ?_
      refine vi_if_lt 7 rfl (by omega) (fun c_13 => ?_) (fun c_13 => ?_)
      · refine vi_iconst 13 rfl ?_
        exact vi_ireturn 14 rfl rfl rfl (Nat.zero_le _) (Nat.zero_le _) (k0 (by omega))
      · refine vi_iload_n 8 rfl rfl ?_
        refine vi_bipush 9 rfl (by decide) ?_
        refine vi_icmp_ge 10 rfl (by omega) (by omega) (fun c_19 => ?_) (fun c_19 => ?_)
        · refine vi_iconst 13 rfl ?_
          exact vi_ireturn 14 rfl rfl rfl (Nat.zero_le _) (Nat.zero_le _) (k0 (by omega))
        · refine vi_iconst 11 rfl ?_
          refine vi_goto 12 rfl ?_
          exact vi_ireturn 14 rfl rfl rfl (Nat.zero_le _) (Nat.zero_le _) (k1 (by omega))
theorem sp_X2_needAt {k m : Int} (hb : wb_Co w b rm nd ah on t gu ke) (hke : 0 ≤ ke ∧ ke ≤ 625) (hrm : ke ≤ rm) (hk : 0 ≤ k ∧ k < ke) (hm : 0 ≤ m ∧ m < 8) (hQ : Q (some (.int (wb_i (nd (k * 8 + m))))) N w) : wb_M G M_X2_needAt [.ref b, .int (wb_i k), .int (wb_i m)] N w Q := by
  have hb' := hb
  obtain ⟨f0, f1, h0, h1, h2, h3, h4, h5⟩ := hb
  unfold wb_M
  refine vi_aload_n 0 rfl rfl ?_
  refine vi_iload_n 1 rfl rfl ?_
  refine vi_iload_n 2 rfl rfl ?_
  refine vi_V2 3 ok_X2_isPlace rfl c_X2_114 h0 rfl rfl ?_
  refine sp_X2_isPlace ‹_› (by omega) (by omega) (by omega) (fun b_3 => ?_) (fun b_3 => ?_)
  · refine vi_if_eq 4 rfl (by omega) (fun c => absurd c (by decide)) (fun _ => ?_)
    refine vi_aload_n 5 rfl rfl ?_
    refine vi_get 6 rfl f_X2_25 (by assumption) rfl rfl ?_
    refine vi_iload_n 7 rfl rfl ?_
    refine vi_bipush 8 rfl (by decide) ?_
    refine vi_imul 9 rfl ?_
    refine vi_iload_n 10 rfl rfl ?_
    refine vi_iadd 11 rfl ?_
    refine vi_iald 12 rfl (by assumption) (by omega) ?_
    refine vi_goto 13 rfl ?_
    exact vi_ireturn 15 rfl rfl rfl (Nat.zero_le _) (Nat.zero_le _) (hQ)
  · exfalso
    omega
theorem sp_X2_aheadOf {k m : Int} (hb : wb_Co w b rm nd ah on t gu ke) (hke : 0 ≤ ke ∧ ke ≤ 625) (hrm : ke ≤ rm) (hk : 0 ≤ k ∧ k < ke) (hm : 0 ≤ m ∧ m < 8) (hQ : Q (some (.int (wb_i (ah (k * 9 + m))))) N w) : wb_M G M_X2_aheadOf [.ref b, .int (wb_i k), .int (wb_i m)] N w Q := by
  have hb' := hb
  obtain ⟨f0, f1, h0, h1, h2, h3, h4, h5⟩ := hb
  unfold wb_M
  refine vi_aload_n 0 rfl rfl ?_
  refine vi_iload_n 1 rfl rfl ?_
  refine vi_iload_n 2 rfl rfl ?_
  refine vi_V2 3 ok_X2_isPlace rfl c_X2_114 h0 rfl rfl ?_
  refine sp_X2_isPlace ‹_› (by omega) (by omega) (by omega) (fun b_3 => ?_) (fun b_3 => ?_)
  · refine vi_if_eq 4 rfl (by omega) (fun c => absurd c (by decide)) (fun _ => ?_)
    refine vi_aload_n 5 rfl rfl ?_
    refine vi_get 6 rfl f_X2_28 (by assumption) rfl rfl ?_
    refine vi_iload_n 7 rfl rfl ?_
    refine vi_bipush 8 rfl (by decide) ?_
    refine vi_imul 9 rfl ?_
    refine vi_iload_n 10 rfl rfl ?_
    refine vi_iadd 11 rfl ?_
    refine vi_iald 12 rfl (by assumption) (by omega) ?_
    refine vi_goto 13 rfl ?_
    exact vi_ireturn 15 rfl rfl rfl (Nat.zero_le _) (Nat.zero_le _) (hQ)
  · exfalso
    omega
theorem sp_X2_onwardFrom {k m : Int} (hb : wb_Co w b rm nd ah on t gu ke) (hke : 0 ≤ ke ∧ ke ≤ 625) (hrm : ke ≤ rm) (hk : 0 ≤ k ∧ k < ke) (hm : 1 ≤ m ∧ m < 9) (hQ : Q (some (.int (wb_i (on (k * 9 + m))))) N w) : wb_M G M_X2_onwardFrom [.ref b, .int (wb_i k), .int (wb_i m)] N w Q := by
  have hb' := hb
  obtain ⟨f0, f1, h0, h1, h2, h3, h4, h5⟩ := hb
  unfold wb_M
  refine vi_aload_n 0 rfl rfl ?_
  refine vi_iload_n 1 rfl rfl ?_
  refine vi_iload_n 2 rfl rfl ?_
  refine vi_iconst 3 rfl ?_
  refine vi_isub 4 rfl ?_
  refine vi_V2 5 ok_X2_isPlace rfl c_X2_114 h0 rfl rfl ?_
  refine sp_X2_isPlace ‹_› (by omega) (by omega) (by omega) (fun b_5 => ?_) (fun b_5 => ?_)
  · refine vi_if_eq 6 rfl (by omega) (fun c => absurd c (by decide)) (fun _ => ?_)
    refine vi_aload_n 7 rfl rfl ?_
    refine vi_get 8 rfl f_X2_31 (by assumption) rfl rfl ?_
    refine vi_iload_n 9 rfl rfl ?_
    refine vi_bipush 10 rfl (by decide) ?_
    refine vi_imul 11 rfl ?_
    refine vi_iload_n 12 rfl rfl ?_
    refine vi_iadd 13 rfl ?_
    refine vi_iald 14 rfl (by assumption) (by omega) ?_
    refine vi_goto 15 rfl ?_
    exact vi_ireturn 17 rfl rfl rfl (Nat.zero_le _) (Nat.zero_le _) (hQ)
  · exfalso
    omega
theorem sp_X2_setNeeds {m : Int} (hb : wb_Co w b rm nd ah on t gu ke) (hbk : wb_Bk w bb n c s sd sf bo tu g) (hR : wb_BR n c s sd sf) (hap : bb + 5 ≤ b ∨ b + 6 ≤ bb) (hke : (ke = 25 ∨ ke = 625) ∧ ke ≤ rm) (ht : 0 ≤ t ∧ t < 3) (hm : 0 ≤ m ∧ m < 8)
    (hQ : ∀ (w' : wb_W) (nd' : Int → Int), (∀ k j, 0 ≤ k → k < ke → 0 ≤ j → j < 8 → nd' (k * 8 + j) = if j = m then wb_kn c sd sf t k m else nd (k * 8 + j)) → wb_Co w' b rm nd' ah on t gu ke → (∀ k, (k < b ∨ b + 6 ≤ k) → w' k = w k) → Q none N w') : wb_M G M_X2_setNeeds [.ref b, .ref bb, .int (wb_i m)] N w Q := by
  obtain ⟨f0, f1, h0, h1, h2, h3, h4, h5⟩ := hb
  have hR' := hR
  unfold wb_M
  have lp3 : ∀ (f0 f1 : Int → Int), (∀ r, 0 ≤ r → r < 25 → f0 r = wb_ow c sd sf m t r ∧ f1 r = wb_gn c sd sf m t r) → ∀ u, 0 ≤ u → u * 25 < ke → (∀ (w1 : wb_W) (nd1 : Int → Int), (∀ k j, 0 ≤ k → k < ke → 0 ≤ j → j < 8 → nd1 (k * 8 + j) = if j = m ∧ k < (u + 1) * 25 then wb_kn c sd sf t k m else nd (k * 8 + j)) → w1 b = w b → w1 (b + 1) = aI 25 f0 → w1 (b + 2) = aI 25 f1 → w1 (b + 3) = aI (rm * 8) nd1 → w1 (b + 4) = w (b + 4) → w1 (b + 5) = w (b + 5) → (∀ k, (k < b ∨ b + 6 ≤ k) → w1 k = w k) → wb_V G M_X2_setNeeds 48 [(0, .ref b), (1, .ref bb), (2, .int (wb_i m)), (3, .int (wb_i (u + 1)))] [] N w1 0 0 Q) → ∀ i, i ≤ 25 → ∀ (w1 : wb_W) (nd1 : Int → Int), 0 ≤ i → (∀ k j, 0 ≤ k → k < ke → 0 ≤ j → j < 8 → nd1 (k * 8 + j) = if j = m ∧ k < u * 25 + i then wb_kn c sd sf t k m else nd (k * 8 + j)) → w1 b = w b → w1 (b + 1) = aI 25 f0 → w1 (b + 2) = aI 25 f1 → w1 (b + 3) = aI (rm * 8) nd1 → w1 (b + 4) = w (b + 4) → w1 (b + 5) = w (b + 5) → (∀ k, (k < b ∨ b + 6 ≤ k) → w1 k = w k) → wb_V G M_X2_setNeeds 62 [(0, .ref b), (1, .ref bb), (2, .int (wb_i m)), (3, .int (wb_i u)), (4, .int (wb_i i))] [] N w1 0 0 Q := by
    intro f0 f1 hff u hu0 hu nx
    refine wb_up 25 _ ?_
    intro i ih hi w1 nd1 hi0 hnd e0 e1 e2 e3 e4 e5 ef
    rw [h0] at e0
    refine vi_iload 37 rfl rfl ?_
    refine vi_bipush 38 rfl (by decide) ?_
    refine vi_icmp_ge 39 rfl (by omega) (by omega) (fun c_66 => ?_) (fun c_66 => ?_)
    · refine vi_iinc 65 rfl rfl rfl ?_
      refine vi_goto 66 rfl ?_
      exact vi_lc (nx w1 nd1 (fun k j p1 p2 p3 p4 => by rw [hnd k j p1 p2 p3 p4, show u * 25 + i = (u + 1) * 25 by omega]) (e0.trans h0.symm) e1 e2 e3 e4 e5 ef) ⟨rfl, rfl, rfl, rfl, trivial⟩
    · refine vi_iload_n 40 rfl rfl ?_
      refine vi_bipush 41 rfl (by decide) ?_
      refine vi_imul 42 rfl ?_
      refine vi_iload 43 rfl rfl ?_
      refine vi_iadd 44 rfl ?_
      refine vi_istore 45 rfl rfl ?_
      refine vi_aload_n 46 rfl rfl ?_
      refine vi_get 47 rfl f_X2_25 e0 rfl rfl ?_
      refine vi_iload 48 rfl rfl ?_
      refine vi_bipush 49 rfl (by decide) ?_
      refine vi_imul 50 rfl ?_
      refine vi_iload_n 51 rfl rfl ?_
      refine vi_iadd 52 rfl ?_
      refine vi_aload_n 53 rfl rfl ?_
      refine vi_get 54 rfl f_X2_9 e0 rfl rfl ?_
      refine vi_iload 55 rfl rfl ?_
      refine vi_iald 56 rfl e1 (by omega) ?_
      refine vi_aload_n 57 rfl rfl ?_
      refine vi_get 58 rfl f_X2_15 e0 rfl rfl ?_
      refine vi_iload_n 59 rfl rfl ?_
      refine vi_iald 60 rfl e2 (by omega) ?_
      refine vi_iadd 61 rfl ?_
      refine vi_iast 62 rfl e3 (by omega) ?_
      refine vi_iinc 63 rfl rfl rfl ?_
      refine vi_goto 64 rfl ?_
      refine vi_lc (ih (i + 1) (by omega) (by omega) (va_up w1 (b + 3) _) _ (by omega) ?_ (by rw [wb_upn (by omega), e0, h0]) (by rw [wb_upn (by omega)]; exact e1) (by rw [wb_upn (by omega)]; exact e2) wb_ups (by rw [wb_upn (by omega)]; exact e4) (by rw [wb_upn (by omega)]; exact e5) (fun k hk => by rw [wb_upn (by omega)]; exact ef k hk)) ⟨rfl, rfl, rfl, rfl, rfl, trivial⟩
      intro k j p1 p2 p3 p4
      obtain ⟨z1, -⟩ := hff i (by omega) (by omega)
      obtain ⟨-, z2⟩ := hff u (by omega) (by omega)
      by_cases hkj : k * 8 + j = (u * 25 + i) * 8 + m
      · rw [hkj, wb_us, if_pos (by omega), z1, z2, show k = u * 25 + i by omega]; unfold wb_kn; rw [show (u * 25 + i) % 25 = i by omega, show (u * 25 + i) / 25 = u by omega]
      · rw [wb_un hkj, hnd k j p1 p2 p3 p4]; by_cases hq : j = m ∧ k < u * 25 + i
        · rw [if_pos hq, if_pos (by omega)]
        · rw [if_neg hq, if_neg (by omega)]
  have lp2 : ∀ (f0 f1 : Int → Int), (∀ r, 0 ≤ r → r < 25 → f0 r = wb_ow c sd sf m t r ∧ f1 r = wb_gn c sd sf m t r) → ∀ u, u ≤ 25 → ∀ (w1 : wb_W) (nd1 : Int → Int), 0 ≤ u → (∀ k j, 0 ≤ k → k < ke → 0 ≤ j → j < 8 → nd1 (k * 8 + j) = if j = m ∧ k < u * 25 then wb_kn c sd sf t k m else nd (k * 8 + j)) → w1 b = w b → w1 (b + 1) = aI 25 f0 → w1 (b + 2) = aI 25 f1 → w1 (b + 3) = aI (rm * 8) nd1 → w1 (b + 4) = w (b + 4) → w1 (b + 5) = w (b + 5) → (∀ k, (k < b ∨ b + 6 ≤ k) → w1 k = w k) → wb_V G M_X2_setNeeds 48 [(0, .ref b), (1, .ref bb), (2, .int (wb_i m)), (3, .int (wb_i u))] [] N w1 0 0 Q := by
    intro f0 f1 hff
    refine wb_up 25 _ ?_
    intro u ih hu w1 nd1 hu0 hnd e0 e1 e2 e3 e4 e5 ef
    rw [h0] at e0
    refine vi_iload_n 29 rfl rfl ?_
    refine vi_bipush 30 rfl (by decide) ?_
    refine vi_imul 31 rfl ?_
    refine vi_aload_n 32 rfl rfl ?_
    refine vi_get 33 rfl f_X2_52 e0 rfl rfl ?_
    refine vi_icmp_ge 34 rfl (by omega) (by omega) (fun c_56 => ?_) (fun c_56 => ?_)
    · exact vi_return 67 rfl rfl (Nat.zero_le _) (Nat.zero_le _) (hQ w1 nd1 (fun k j p1 p2 p3 p4 => by rw [hnd k j p1 p2 p3 p4]; by_cases hj : j = m; (rw [if_pos hj, if_pos ⟨hj, by omega⟩]); (rw [if_neg hj, if_neg (fun q => hj q.1)])) ⟨f0, f1, e0, e1, e2, e3, e4.trans h4, e5.trans h5⟩ ef)
    · refine vi_iconst 35 rfl ?_
      refine vi_istore 36 rfl rfl ?_
      exact vi_lc (lp3 f0 f1 hff u hu0 (by omega) (fun w2 nd2 a1 a2 a3 a4 a5 a6 a7 a8 => ih (u + 1) (by omega) (by omega) w2 nd2 (by omega) a1 a2 a3 a4 a5 a6 a7 a8) 0 (by omega) w1 nd1 (by omega) (fun k j p1 p2 p3 p4 => by rw [hnd k j p1 p2 p3 p4, show u * 25 + 0 = u * 25 by omega]) (e0.trans h0.symm) e1 e2 e3 e4 e5 ef) ⟨rfl, rfl, rfl, rfl, rfl, trivial⟩
  have lp1 : ∀ i, i ≤ 25 → ∀ (w1 : wb_W) (f0 f1 : Int → Int), 0 ≤ i → (∀ r, 0 ≤ r → r < i → f0 r = wb_ow c sd sf m t r ∧ f1 r = wb_gn c sd sf m t r) → w1 b = w b → w1 (b + 1) = aI 25 f0 → w1 (b + 2) = aI 25 f1 → w1 (b + 3) = w (b + 3) → w1 (b + 4) = w (b + 4) → w1 (b + 5) = w (b + 5) → (∀ k, (k < b ∨ b + 6 ≤ k) → w1 k = w k) → wb_V G M_X2_setNeeds 2 [(0, .ref b), (1, .ref bb), (2, .int (wb_i m)), (3, .int (wb_i i))] [] N w1 0 0 Q := by
    refine wb_up 25 _ ?_
    intro i ih hi w1 f0 f1 hi0 hff e0 e1 e2 e3 e4 e5 ef
    rw [h0] at e0
    have hbk1 : wb_Bk w1 bb n c s sd sf bo tu g := hbk.fr (fun k q1 q2 => ef k (by omega))
    have hbk2 := hbk1
    obtain ⟨y0, -⟩ := hbk2
    refine vi_iload_n 2 rfl rfl ?_
    refine vi_bipush 3 rfl (by decide) ?_
    refine vi_icmp_ge 4 rfl (by omega) (by omega) (fun c_5 => ?_) (fun c_5 => ?_)
    · refine vi_iconst 27 rfl ?_
      refine vi_istore_n 28 rfl rfl ?_
      exact vi_lc (lp2 f0 f1 (fun r p1 p2 => hff r p1 (by omega)) 0 (by omega) w1 nd (by omega) (fun k j p1 p2 p3 p4 => by rw [if_neg (by omega)]) (e0.trans h0.symm) e1 e2 (e3.trans h3) e4 e5 ef) ⟨rfl, rfl, rfl, rfl, trivial⟩
    · refine vi_aload_n 5 rfl rfl ?_
      refine vi_get 6 rfl f_X2_9 e0 rfl rfl ?_
      refine vi_iload_n 7 rfl rfl ?_
      refine vi_aload_n 8 rfl rfl ?_
      refine vi_iload_n 9 rfl rfl ?_
      refine vi_aload_n 10 rfl rfl ?_
      refine vi_get 11 rfl f_X2_43 e0 rfl rfl ?_
      refine vi_iload_n 12 rfl rfl ?_
      refine vi_V3 13 ok_X0_ownNeed rfl c_X2_64 y0 rfl rfl ?_
      refine sp_X0_ownNeed ‹_› ‹_› (by omega) (by omega) (by omega) ?_
      refine vi_iast 14 rfl e1 (by omega) ?_
      refine vi_aload_n 15 rfl rfl ?_
      refine vi_get 16 rfl f_X2_15 ((wb_upn (by omega)).trans e0) rfl rfl ?_
      refine vi_iload_n 17 rfl rfl ?_
      refine vi_aload_n 18 rfl rfl ?_
      refine vi_iload_n 19 rfl rfl ?_
      refine vi_aload_n 20 rfl rfl ?_
      refine vi_get 21 rfl f_X2_43 ((wb_upn (by omega)).trans e0) rfl rfl ?_
      refine vi_iload_n 22 rfl rfl ?_
      refine vi_V3 23 ok_X0_guestNeed rfl c_X2_68 ((wb_upn (by omega)).trans y0) rfl rfl ?_
      refine sp_X0_guestNeed (hbk1.fr (fun k q1 q2 => wb_upn (by omega))) hR' (by omega) (by omega) (by omega) ?_
      refine vi_iast 24 rfl ((wb_upn (by omega)).trans e2) (by omega) ?_
      refine vi_iinc 25 rfl rfl rfl ?_
      refine vi_goto 26 rfl ?_
      refine vi_lc (ih (i + 1) (by omega) (by omega) (va_up (va_up w1 (b + 1) _) (b + 2) _) _ _ (by omega) ?_ (by rw [wb_upn (by omega), wb_upn (by omega), e0, h0]) (by rw [wb_upn (by omega)]; exact wb_ups) wb_ups (by rw [wb_upn (by omega), wb_upn (by omega)]; exact e3) (by rw [wb_upn (by omega), wb_upn (by omega)]; exact e4) (by rw [wb_upn (by omega), wb_upn (by omega)]; exact e5) (fun k hk => by rw [wb_upn (by omega), wb_upn (by omega)]; exact ef k hk)) ⟨rfl, rfl, rfl, rfl, trivial⟩
      intro r p1 p2
      by_cases hri : r = i
      · subst hri; exact ⟨wb_us, wb_us⟩
      · rw [wb_un hri, wb_un hri]; exact hff r p1 (by omega)
  refine vi_iconst 0 rfl ?_
  refine vi_istore_n 1 rfl rfl ?_
  exact vi_lc (lp1 0 (by omega) w f0 f1 (by omega) (fun r p1 p2 => by omega) rfl h1 h2 rfl rfl rfl (fun _ _ => rfl)) ⟨rfl, rfl, rfl, rfl, trivial⟩
end WBS23
