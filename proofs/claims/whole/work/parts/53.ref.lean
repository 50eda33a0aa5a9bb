/-! ===== the reference: its object, its book, its signs ===== -/
def wb_n6 (z : Int) : Int := if z < 0 then -6 else z
/-- the reference's object -/
def wb_Rf (w : wb_W) (n sd sf cnt ru ld mo db tm tt tr L H fi ch : Int) : Prop := w 96 = .inr (12, [.int (wb_i n), .ref 97, .ref 98, .int (wb_i (wb_n6 sd)), .int (wb_i (wb_n6 sf)), .int (wb_i cnt), .ref 99, .int (wb_i ru), .ref 100, .int (wb_i ld), .int (wb_i mo), .int (wb_i db), .int (wb_i tm), .int (wb_i tt), .int (wb_i tr), .int (wb_i L), .int (wb_i H), .ref 101, .ref 102, .ref 103, .int (wb_i fi), .ref 104, .int (wb_i ch), .ref 105, .ref 106, .ref 107])
section WBS53
variable {G : wb_G} {N : Nat} {w : wb_W} {Q : Option Value → Nat → wb_W → Prop}
variable {n sd sf cnt ru ld mo db tm tt tr L H fi ch : Int} {c s sg rs : Int → Int}
theorem sp_X12_isMonth {m : Int} (hrf : wb_Rf w n sd sf cnt ru ld mo db tm tt tr L H fi ch) (hn : 0 ≤ n ∧ n ≤ 8) (hm : -2147483648 ≤ m ∧ m ≤ 2147483647) (k1 : (0 ≤ m ∧ m < n) → Q (some (.int (wb_i 1))) N w) (k0 : ¬ (0 ≤ m ∧ m < n) → Q (some (.int (wb_i 0))) N w) : wb_M G M_X12_isMonth [.ref 96, .int (wb_i m)] N w Q := by
  unfold wb_M
  unfold wb_Rf at hrf
  refine vi_iload_n 0 rfl rfl ?_
  refine vi_iconst 1 rfl ?_
  refine vi_aload_n 2 rfl rfl ?_
  refine vi_get 3 rfl f_X12_60 hrf rfl rfl ?_
  refine vi_iconst 4 rfl ?_
  refine vi_isub 5 rfl ?_
  refine vi_S3 6 ok_X12_in rfl c_X12_56 rfl ?_
  refine sp_X12_in (by omega) (by omega) (by omega) (fun b_8 => ?_) (fun b_8 => ?_)
  · exact vi_ireturn 7 rfl rfl rfl (Nat.zero_le _) (Nat.zero_le _) (k1 (by omega))
  · exact vi_ireturn 7 rfl rfl rfl (Nat.zero_le _) (Nat.zero_le _) (k0 (by omega))
theorem wb_mc9 (n : Int) (c : Int → Int) (a b d v p q : Int) : wb_u (wb_u (wb_u (wb_u (wb_u (wb_u (wb_u (wb_u (wb_u c (9 * n) a) (9 * n + 1) b) (9 * n + 2) d) (9 * n + 3) v) (9 * n + 4) p) (9 * n + 5) q) (9 * n + 6) 0) (9 * n + 7) 0) (9 * n + 8) 0 = wb_mc n c a b d v p q := by
  funext i
  unfold wb_mc wb_u wb_zc
  by_cases h : 9 * n ≤ i ∧ i < 9 * n + 9
  · rcases (show i = 9 * n ∨ i = 9 * n + 1 ∨ i = 9 * n + 2 ∨ i = 9 * n + 3 ∨ i = 9 * n + 4 ∨ i = 9 * n + 5 ∨ i = 9 * n + 6 ∨ i = 9 * n + 7 ∨ i = 9 * n + 8 by omega) with e | e | e | e | e | e | e | e | e <;> subst e <;> simp <;> omega
  · rw [if_neg (by omega), if_neg (by omega), if_neg (by omega), if_neg (by omega), if_neg (by omega), if_neg (by omega), if_neg (by omega), if_neg (by omega), if_neg (by omega), if_neg (by omega), if_neg (by omega), if_neg (by omega), if_neg (by omega), if_neg (by omega), if_neg (by omega), if_neg h]
theorem sp_X12_month {a b d v p q : Int} (hrf : wb_Rf w n sd sf cnt ru ld mo db tm tt tr L H fi ch) (h97 : w 97 = aI 72 c) (hn : 0 ≤ n ∧ n ≤ 8) (ha : -2147483648 ≤ a ∧ a ≤ 2147483647) (hb : -2147483648 ≤ b ∧ b ≤ 2147483647) (hd : -2147483648 ≤ d ∧ d ≤ 2147483647) (hv : -2147483648 ≤ v ∧ v ≤ 2147483647) (hp : -2147483648 ≤ p ∧ p ≤ 2147483647) (hq : -2147483648 ≤ q ∧ q ≤ 2147483647)
    (k2 : ¬ wb_mk6 a b d v p q → Q (some (.int (wb_i (-2)))) N w) (k4 : wb_mk6 a b d v p q → n = 8 → Q (some (.int (wb_i (-4)))) N w)
    (k1 : ∀ w', wb_mk6 a b d v p q → n < 8 → wb_Rf w' (n + 1) sd sf cnt ru 0 mo db tm tt tr L H fi ch → w' 97 = aI 72 (wb_mc n c a b d v p q) → (∀ k, k ≠ 96 → k ≠ 97 → w' k = w k) → Q (some (.int (wb_i n))) N w') : wb_M G M_X12_month [.ref 96, .int (wb_i a), .int (wb_i b), .int (wb_i d), .int (wb_i v), .int (wb_i p), .int (wb_i q)] N w Q := by
  unfold wb_M
  unfold wb_Rf at hrf
  have tl : wb_mk6 a b d v p q → wb_V G M_X12_month 65 [(0, .ref 96), (1, .int (wb_i a)), (2, .int (wb_i b)), (3, .int (wb_i d)), (4, .int (wb_i v)), (5, .int (wb_i p)), (6, .int (wb_i q))] [] N w 0 0 Q := by
    intro hok
    refine vi_aload_n 32 rfl rfl ?_
    refine vi_get 33 rfl f_X12_60 hrf rfl rfl ?_
    refine vi_bipush 34 rfl (by decide) ?_
    refine vi_icmp_ne 35 rfl (by omega) (by omega) (fun c_71 => ?_) (fun c_71 => ?_)
    · refine vi_bipush 38 rfl (by decide) ?_
      refine vi_aload_n 39 rfl rfl ?_
      refine vi_get 40 rfl f_X12_60 hrf rfl rfl ?_
      refine vi_imul 41 rfl ?_
      refine vi_istore 42 rfl rfl ?_
      refine vi_aload_n 43 rfl rfl ?_
      refine vi_get 44 rfl f_X12_7 hrf rfl rfl ?_
      refine vi_iload 45 rfl rfl ?_
      refine vi_iload_n 46 rfl rfl ?_
      refine vi_iast 47 rfl h97 (by omega) ?_
      refine vi_aload_n 48 rfl rfl ?_
      refine vi_get 49 rfl f_X12_7 ((wb_upn (by omega)).trans hrf) rfl rfl ?_
      refine vi_iload 50 rfl rfl ?_
      refine vi_iconst 51 rfl ?_
      refine vi_iadd 52 rfl ?_
      refine vi_iload_n 53 rfl rfl ?_
      refine vi_iast 54 rfl wb_ups (by omega) ?_
      rw [wb_upu]
      refine vi_aload_n 55 rfl rfl ?_
      refine vi_get 56 rfl f_X12_7 ((wb_upn (by omega)).trans hrf) rfl rfl ?_
      refine vi_iload 57 rfl rfl ?_
      refine vi_iconst 58 rfl ?_
      refine vi_iadd 59 rfl ?_
      refine vi_iload_n 60 rfl rfl ?_
      refine vi_iast 61 rfl wb_ups (by omega) ?_
      rw [wb_upu]
      refine vi_aload_n 62 rfl rfl ?_
      refine vi_get 63 rfl f_X12_7 ((wb_upn (by omega)).trans hrf) rfl rfl ?_
      refine vi_iload 64 rfl rfl ?_
      refine vi_iconst 65 rfl ?_
      refine vi_iadd 66 rfl ?_
      refine vi_iload 67 rfl rfl ?_
      refine vi_iast 68 rfl wb_ups (by omega) ?_
      rw [wb_upu]
      refine vi_aload_n 69 rfl rfl ?_
      refine vi_get 70 rfl f_X12_7 ((wb_upn (by omega)).trans hrf) rfl rfl ?_
      refine vi_iload 71 rfl rfl ?_
      refine vi_iconst 72 rfl ?_
      refine vi_iadd 73 rfl ?_
      refine vi_iload 74 rfl rfl ?_
      refine vi_iast 75 rfl wb_ups (by omega) ?_
      rw [wb_upu]
      refine vi_aload_n 76 rfl rfl ?_
      refine vi_get 77 rfl f_X12_7 ((wb_upn (by omega)).trans hrf) rfl rfl ?_
      refine vi_iload 78 rfl rfl ?_
      refine vi_iconst 79 rfl ?_
      refine vi_iadd 80 rfl ?_
      refine vi_iload 81 rfl rfl ?_
      refine vi_iast 82 rfl wb_ups (by omega) ?_
      rw [wb_upu]
      refine vi_aload_n 83 rfl rfl ?_
      refine vi_get 84 rfl f_X12_7 ((wb_upn (by omega)).trans hrf) rfl rfl ?_
      refine vi_iload 85 rfl rfl ?_
      refine vi_bipush 86 rfl (by decide) ?_
      refine vi_iadd 87 rfl ?_
      refine vi_iconst 88 rfl ?_
      refine vi_iast 89 rfl wb_ups (by omega) ?_
      rw [wb_upu]
      refine vi_aload_n 90 rfl rfl ?_
      refine vi_get 91 rfl f_X12_7 ((wb_upn (by omega)).trans hrf) rfl rfl ?_
      refine vi_iload 92 rfl rfl ?_
      refine vi_bipush 93 rfl (by decide) ?_
      refine vi_iadd 94 rfl ?_
      refine vi_iconst 95 rfl ?_
      refine vi_iast 96 rfl wb_ups (by omega) ?_
      rw [wb_upu]
      refine vi_aload_n 97 rfl rfl ?_
      refine vi_get 98 rfl f_X12_7 ((wb_upn (by omega)).trans hrf) rfl rfl ?_
      refine vi_iload 99 rfl rfl ?_
      refine vi_bipush 100 rfl (by decide) ?_
      refine vi_iadd 101 rfl ?_
      refine vi_iconst 102 rfl ?_
      refine vi_iast 103 rfl wb_ups (by omega) ?_
      rw [wb_upu]
      refine vi_aload_n 104 rfl rfl ?_
      refine vi_dup 105 rfl rfl ?_
      refine vi_get 106 rfl f_X12_60 ((wb_upn (by omega)).trans hrf) rfl rfl ?_
      refine vi_iconst 107 rfl ?_
      refine vi_iadd 108 rfl ?_
      refine vi_put 109 rfl f_X12_60 ((wb_upn (by omega)).trans hrf) rfl rfl rfl rfl ?_
      refine vi_aload_n 110 rfl rfl ?_
      refine vi_iconst 111 rfl ?_
      refine vi_put 112 rfl f_X12_63 wb_ups rfl rfl rfl rfl ?_
      refine vi_aload_n 113 rfl rfl ?_
      refine vi_get 114 rfl f_X12_60 wb_ups rfl rfl ?_
      refine vi_iconst 115 rfl ?_
      refine vi_isub 116 rfl ?_
      exact vi_ireturn 117 rfl rfl rfl (Nat.zero_le _) (Nat.zero_le _) (wb_e (show n + 1 - 1 = n by omega) (k1 _ hok (by omega) wb_ups (by rw [wb_upn (by omega), wb_upn (by omega), wb_ups, wb_mc9]) (fun k p1 p2 => by rw [wb_upn p1, wb_upn p1, wb_upn p2])))
    · refine vi_bipush 36 rfl (by decide) ?_
      exact vi_ireturn 37 rfl rfl rfl (Nat.zero_le _) (Nat.zero_le _) (k4 hok (by omega))
  refine vi_iload_n 0 rfl rfl ?_
  refine vi_iconst 1 rfl ?_
  refine vi_bipush 2 rfl (by decide) ?_
  refine vi_S3 3 ok_X12_in rfl c_X12_56 rfl ?_
  refine sp_X12_in (by omega) (by omega) (by omega) (fun b_4 => ?_) (fun b_4 => ?_)
  · refine vi_if_eq 4 rfl (by omega) (fun c => absurd c (by decide)) (fun _ => ?_)
    refine vi_iload_n 5 rfl rfl ?_
    refine vi_iconst 6 rfl ?_
    refine vi_bipush 7 rfl (by decide) ?_
    refine vi_S3 8 ok_X12_in rfl c_X12_56 rfl ?_
    refine sp_X12_in (by omega) (by omega) (by omega) (fun b_14 => ?_) (fun b_14 => ?_)
    · refine vi_if_eq 9 rfl (by omega) (fun c => absurd c (by decide)) (fun _ => ?_)
      refine vi_iload_n 10 rfl rfl ?_
      refine vi_iconst 11 rfl ?_
      refine vi_bipush 12 rfl (by decide) ?_
      refine vi_S3 13 ok_X12_in rfl c_X12_56 rfl ?_
      refine sp_X12_in (by omega) (by omega) (by omega) (fun b_24 => ?_) (fun b_24 => ?_)
      · refine vi_if_eq 14 rfl (by omega) (fun c => absurd c (by decide)) (fun _ => ?_)
        refine vi_iload 15 rfl rfl ?_
        refine vi_iconst 16 rfl ?_
        refine vi_iconst 17 rfl ?_
        refine vi_S3 18 ok_X12_in rfl c_X12_56 rfl ?_
        refine sp_X12_in (by omega) (by omega) (by omega) (fun b_34 => ?_) (fun b_34 => ?_)
        · refine vi_if_eq 19 rfl (by omega) (fun c => absurd c (by decide)) (fun _ => ?_)
          refine vi_iload 20 rfl rfl ?_
          refine vi_iconst 21 rfl ?_
          refine vi_bipush 22 rfl (by decide) ?_
          refine vi_S3 23 ok_X12_in rfl c_X12_56 rfl ?_
          refine sp_X12_in (by omega) (by omega) (by omega) (fun b_45 => ?_) (fun b_45 => ?_)
          · refine vi_if_eq 24 rfl (by omega) (fun c => absurd c (by decide)) (fun _ => ?_)
            refine vi_iload 25 rfl rfl ?_
            refine vi_iconst 26 rfl ?_
            refine vi_bipush 27 rfl (by decide) ?_
            refine vi_S3 28 ok_X12_in rfl c_X12_56 rfl ?_
            refine sp_X12_in (by omega) (by omega) (by omega) (fun b_56 => ?_) (fun b_56 => ?_)
            · refine vi_if_ne 29 rfl (by omega) (fun _ => ?_) (fun c => absurd c (by decide))
              exact vi_lc (tl (by omega)) ⟨rfl, rfl, rfl, rfl, rfl, rfl, rfl, trivial⟩
            · refine vi_if_ne 29 rfl (by omega) (fun c => absurd c (by decide)) (fun _ => ?_)
              refine vi_bipush 30 rfl (by decide) ?_
              exact vi_ireturn 31 rfl rfl rfl (Nat.zero_le _) (Nat.zero_le _) (k2 (by omega))
          · refine vi_if_eq 24 rfl (by omega) (fun _ => ?_) (fun c => absurd c (by decide))
            refine vi_bipush 30 rfl (by decide) ?_
            exact vi_ireturn 31 rfl rfl rfl (Nat.zero_le _) (Nat.zero_le _) (k2 (by omega))
        · refine vi_if_eq 19 rfl (by omega) (fun _ => ?_) (fun c => absurd c (by decide))
          refine vi_bipush 30 rfl (by decide) ?_
          exact vi_ireturn 31 rfl rfl rfl (Nat.zero_le _) (Nat.zero_le _) (k2 (by omega))
      · refine vi_if_eq 14 rfl (by omega) (fun _ => ?_) (fun c => absurd c (by decide))
        refine vi_bipush 30 rfl (by decide) ?_
        exact vi_ireturn 31 rfl rfl rfl (Nat.zero_le _) (Nat.zero_le _) (k2 (by omega))
    · refine vi_if_eq 9 rfl (by omega) (fun _ => ?_) (fun c => absurd c (by decide))
      refine vi_bipush 30 rfl (by decide) ?_
      exact vi_ireturn 31 rfl rfl rfl (Nat.zero_le _) (Nat.zero_le _) (k2 (by omega))
  · refine vi_if_eq 4 rfl (by omega) (fun _ => ?_) (fun c => absurd c (by decide))
    refine vi_bipush 30 rfl (by decide) ?_
    exact vi_ireturn 31 rfl rfl rfl (Nat.zero_le _) (Nat.zero_le _) (k2 (by omega))
theorem sp_X12_change {m j v : Int} (hrf : wb_Rf w n sd sf cnt ru ld mo db tm tt tr L H fi ch) (h97 : w 97 = aI 72 c) (hn : 0 ≤ n ∧ n ≤ 8) (hm : -2147483648 ≤ m ∧ m ≤ 2147483647) (hj : -2147483648 ≤ j ∧ j ≤ 2147483647) (hv : -2147483648 ≤ v ∧ v ≤ 2147483647)
    (ku : ¬ (0 ≤ m ∧ m < n) → Q (some (.int (wb_i (-1)))) N w) (k2 : (0 ≤ m ∧ m < n) → ¬ ((0 ≤ j ∧ j < 9) ∧ 0 ≤ v ∧ v ≤ wb_mo j) → Q (some (.int (wb_i (-2)))) N w)
    (k1 : ∀ w', (0 ≤ m ∧ m < n) → ((0 ≤ j ∧ j < 9) ∧ 0 ≤ v ∧ v ≤ wb_mo j) → wb_Rf w' n sd sf cnt ru 0 mo db tm tt tr L H fi ch → w' 97 = aI 72 (wb_u c (9 * m + j) v) → (∀ k, k ≠ 96 → k ≠ 97 → w' k = w k) → Q (some (.int (wb_i (c (9 * m + j))))) N w') : wb_M G M_X12_change [.ref 96, .int (wb_i m), .int (wb_i j), .int (wb_i v)] N w Q := by
  unfold wb_M
  have hrf' := hrf
  unfold wb_Rf at hrf'
  have hmo := wb_mo_rg j
  refine vi_aload_n 0 rfl rfl ?_
  refine vi_iload_n 1 rfl rfl ?_
  refine vi_V1 2 ok_X12_isMonth rfl c_X12_67 hrf' rfl rfl ?_
  refine sp_X12_isMonth ‹_› (by omega) (by omega) (fun b_2 => ?_) (fun b_2 => ?_)
  · refine vi_if_ne 3 rfl (by omega) (fun _ => ?_) (fun c => absurd c (by decide))
    refine vi_iload_n 6 rfl rfl ?_
    refine vi_iconst 7 rfl ?_
    refine vi_bipush 8 rfl (by decide) ?_
    refine vi_S3 9 ok_X12_in rfl c_X12_56 rfl ?_
    refine sp_X12_in (by omega) (by omega) (by omega) (fun b_14 => ?_) (fun b_14 => ?_)
    · refine vi_if_eq 10 rfl (by omega) (fun c => absurd c (by decide)) (fun _ => ?_)
      refine vi_iload_n 11 rfl rfl ?_
      refine vi_iconst 12 rfl ?_
      refine vi_iload_n 13 rfl rfl ?_
      refine vi_S1 14 ok_X12_mostOf rfl c_X12_71 rfl ?_
      refine sp_X12_mostOf hj ?_
      refine vi_S3 15 ok_X12_in rfl c_X12_56 rfl ?_
      refine sp_X12_in (by omega) (by omega) (by omega) (fun b_26 => ?_) (fun b_26 => ?_)
      · refine vi_if_ne 16 rfl (by omega) (fun _ => ?_) (fun c => absurd c (by decide))
        refine vi_aload_n 19 rfl rfl ?_
        refine vi_get 20 rfl f_X12_7 hrf' rfl rfl ?_
        refine vi_bipush 21 rfl (by decide) ?_
        refine vi_iload_n 22 rfl rfl ?_
        refine vi_imul 23 rfl ?_
        refine vi_iload_n 24 rfl rfl ?_
        refine vi_iadd 25 rfl ?_
        refine vi_iald 26 rfl h97 (by omega) ?_
        refine vi_istore 27 rfl rfl ?_
        refine vi_aload_n 28 rfl rfl ?_
        refine vi_get 29 rfl f_X12_7 hrf' rfl rfl ?_
        refine vi_bipush 30 rfl (by decide) ?_
        refine vi_iload_n 31 rfl rfl ?_
        refine vi_imul 32 rfl ?_
        refine vi_iload_n 33 rfl rfl ?_
        refine vi_iadd 34 rfl ?_
        refine vi_iload_n 35 rfl rfl ?_
        refine vi_iast 36 rfl h97 (by omega) ?_
        refine vi_aload_n 37 rfl rfl ?_
        refine vi_iconst 38 rfl ?_
        refine vi_put 39 rfl f_X12_63 ((wb_upn (by omega)).trans hrf') rfl rfl rfl rfl ?_
        refine vi_iload 40 rfl rfl ?_
        exact vi_ireturn 41 rfl rfl rfl (Nat.zero_le _) (Nat.zero_le _) (k1 _ b_2 (by omega) wb_ups (by rw [wb_upn (by omega)]; exact wb_ups) (fun k p1 p2 => by rw [wb_upn p1, wb_upn p2]))
      · refine vi_if_ne 16 rfl (by omega) (fun c => absurd c (by decide)) (fun _ => ?_)
        refine vi_bipush 17 rfl (by decide) ?_
        exact vi_ireturn 18 rfl rfl rfl (Nat.zero_le _) (Nat.zero_le _) (k2 b_2 (by omega))
    · refine vi_if_eq 10 rfl (by omega) (fun _ => ?_) (fun c => absurd c (by decide))
      refine vi_bipush 17 rfl (by decide) ?_
      exact vi_ireturn 18 rfl rfl rfl (Nat.zero_le _) (Nat.zero_le _) (k2 b_2 (by omega))
  · refine vi_if_ne 3 rfl (by omega) (fun c => absurd c (by decide)) (fun _ => ?_)
    refine vi_iconst 4 rfl ?_
    exact vi_ireturn 5 rfl rfl rfl (Nat.zero_le _) (Nat.zero_le _) (ku b_2)
theorem sp_X12_about {m j : Int} (hrf : wb_Rf w n sd sf cnt ru ld mo db tm tt tr L H fi ch) (h97 : w 97 = aI 72 c) (hn : 0 ≤ n ∧ n ≤ 8) (hm : -2147483648 ≤ m ∧ m ≤ 2147483647) (hj : -2147483648 ≤ j ∧ j ≤ 2147483647)
    (hQ : Q (some (.int (wb_i (if 0 ≤ m ∧ m < n then (if 0 ≤ j ∧ j ≤ 8 then c (9 * m + j) else -2) else -1)))) N w) : wb_M G M_X12_about [.ref 96, .int (wb_i m), .int (wb_i j)] N w Q := by
  unfold wb_M
  have hrf' := hrf
  unfold wb_Rf at hrf'
  refine vi_aload_n 0 rfl rfl ?_
  refine vi_iload_n 1 rfl rfl ?_
  refine vi_V1 2 ok_X12_isMonth rfl c_X12_67 hrf' rfl rfl ?_
  refine sp_X12_isMonth ‹_› (by omega) (by omega) (fun b_2 => ?_) (fun b_2 => ?_)
  · refine vi_if_ne 3 rfl (by omega) (fun _ => ?_) (fun c => absurd c (by decide))
    refine vi_iload_n 6 rfl rfl ?_
    refine vi_iconst 7 rfl ?_
    refine vi_bipush 8 rfl (by decide) ?_
    refine vi_S3 9 ok_X12_in rfl c_X12_56 rfl ?_
    refine sp_X12_in (by omega) (by omega) (by omega) (fun b_14 => ?_) (fun b_14 => ?_)
    · refine vi_if_eq 10 rfl (by omega) (fun c => absurd c (by decide)) (fun _ => ?_)
      refine vi_aload_n 11 rfl rfl ?_
      refine vi_get 12 rfl f_X12_7 hrf' rfl rfl ?_
      refine vi_bipush 13 rfl (by decide) ?_
      refine vi_iload_n 14 rfl rfl ?_
      refine vi_imul 15 rfl ?_
      refine vi_iload_n 16 rfl rfl ?_
      refine vi_iadd 17 rfl ?_
      refine vi_iald 18 rfl h97 (by omega) ?_
      refine vi_goto 19 rfl ?_
      exact vi_ireturn 21 rfl rfl rfl (Nat.zero_le _) (Nat.zero_le _) (by first | (rw [if_pos b_2, if_pos b_14] at hQ; exact hQ) | (rw [if_pos b_2, if_neg b_14] at hQ; exact hQ))
    · refine vi_if_eq 10 rfl (by omega) (fun _ => ?_) (fun c => absurd c (by decide))
      refine vi_bipush 20 rfl (by decide) ?_
      exact vi_ireturn 21 rfl rfl rfl (Nat.zero_le _) (Nat.zero_le _) (by first | (rw [if_pos b_2, if_pos b_14] at hQ; exact hQ) | (rw [if_pos b_2, if_neg b_14] at hQ; exact hQ))
  · refine vi_if_ne 3 rfl (by omega) (fun c => absurd c (by decide)) (fun _ => ?_)
    refine vi_iconst 4 rfl ?_
    exact vi_ireturn 5 rfl rfl rfl (Nat.zero_le _) (Nat.zero_le _) (by rw [if_neg b_2] at hQ; exact hQ)
theorem sp_X12_tear (hrf : wb_Rf w n sd sf cnt ru ld mo db tm tt tr L H fi ch) (hn : 0 ≤ n ∧ n ≤ 8) (k5 : n = 0 → Q (some (.int (wb_i (-5)))) N w) (k1 : ∀ w', 1 ≤ n → wb_Rf w' (n - 1) sd sf cnt ru 0 mo db tm tt tr L H fi ch → (∀ k, k ≠ 96 → w' k = w k) → Q (some (.int (wb_i (n - 1)))) N w') : wb_M G M_X12_tear [.ref 96] N w Q := by
  unfold wb_M
  unfold wb_Rf at hrf
  refine vi_aload_n 0 rfl rfl ?_
  refine vi_get 1 rfl f_X12_60 hrf rfl rfl ?_
  refine vi_if_ne 2 rfl (by omega) (fun c_4 => ?_) (fun c_4 => ?_)
  · refine vi_aload_n 5 rfl rfl ?_
    refine vi_dup 6 rfl rfl ?_
    refine vi_get 7 rfl f_X12_60 hrf rfl rfl ?_
    refine vi_iconst 8 rfl ?_
    refine vi_isub 9 rfl ?_
    refine vi_put 10 rfl f_X12_60 hrf rfl rfl rfl rfl ?_
    refine vi_aload_n 11 rfl rfl ?_
    refine vi_iconst 12 rfl ?_
    refine vi_put 13 rfl f_X12_63 wb_ups rfl rfl rfl rfl ?_
    refine vi_aload_n 14 rfl rfl ?_
    refine vi_get 15 rfl f_X12_60 wb_ups rfl rfl ?_
    exact vi_ireturn 16 rfl rfl rfl (Nat.zero_le _) (Nat.zero_le _) (k1 _ (by omega) wb_ups (fun k p1 => by rw [wb_upn p1, wb_upn p1]))
  · refine vi_bipush 3 rfl (by decide) ?_
    exact vi_ireturn 4 rfl rfl rfl (Nat.zero_le _) (Nat.zero_le _) (k5 (by omega))
theorem sp_X12_stock {t j v : Int} (hrf : wb_Rf w n sd sf cnt ru ld mo db tm tt tr L H fi ch) (h98 : w 98 = aI 12 s) (hs : ∀ i, 0 ≤ s i ∧ s i ≤ 199) (ht : -2147483648 ≤ t ∧ t ≤ 2147483647) (hj : -2147483648 ≤ j ∧ j ≤ 2147483647) (hv : -2147483648 ≤ v ∧ v ≤ 2147483647)
    (ku : ¬ (0 ≤ t ∧ t < 3) → Q (some (.int (wb_i (-1)))) N w) (k2 : (0 ≤ t ∧ t < 3) → ¬ wb_sok s t j v → Q (some (.int (wb_i (-2)))) N w)
    (k1 : ∀ w', (0 ≤ t ∧ t < 3) → wb_sok s t j v → wb_Rf w' n sd sf cnt ru 0 mo db tm tt tr L H fi ch → w' 98 = aI 12 (wb_u s (4 * t + j) v) → (∀ k, k ≠ 96 → k ≠ 98 → w' k = w k) → Q (some (.int (wb_i (s (4 * t + j))))) N w') : wb_M G M_X12_stock [.ref 96, .int (wb_i t), .int (wb_i j), .int (wb_i v)] N w Q := by
  unfold wb_M
  unfold wb_Rf at hrf
  have s1 := hs (4 * t + 1)
  have s0 := hs (4 * t)
  have tl : (0 ≤ t ∧ t < 3) → wb_sok s t j v → wb_V G M_X12_stock 89 [(0, .ref 96), (1, .int (wb_i t)), (2, .int (wb_i j)), (3, .int (wb_i v))] [] N w 0 0 Q := by
    intro ht3 hok
    have h1 := hok.1.1
    refine vi_aload_n 52 rfl rfl ?_
    refine vi_get 53 rfl f_X12_13 hrf rfl rfl ?_
    refine vi_iconst 54 rfl ?_
    refine vi_iload_n 55 rfl rfl ?_
    refine vi_imul 56 rfl ?_
    refine vi_iload_n 57 rfl rfl ?_
    refine vi_iadd 58 rfl ?_
    refine vi_iald 59 rfl h98 (by omega) ?_
    refine vi_istore 60 rfl rfl ?_
    refine vi_aload_n 61 rfl rfl ?_
    refine vi_get 62 rfl f_X12_13 hrf rfl rfl ?_
    refine vi_iconst 63 rfl ?_
    refine vi_iload_n 64 rfl rfl ?_
    refine vi_imul 65 rfl ?_
    refine vi_iload_n 66 rfl rfl ?_
    refine vi_iadd 67 rfl ?_
    refine vi_iload_n 68 rfl rfl ?_
    refine vi_iast 69 rfl h98 (by omega) ?_
    refine vi_aload_n 70 rfl rfl ?_
    refine vi_iconst 71 rfl ?_
    refine vi_put 72 rfl f_X12_63 ((wb_upn (by omega)).trans hrf) rfl rfl rfl rfl ?_
    refine vi_iload 73 rfl rfl ?_
    exact vi_ireturn 74 rfl rfl rfl (Nat.zero_le _) (Nat.zero_le _) (k1 _ ht3 hok wb_ups (by rw [wb_upn (by omega)]; exact wb_ups) (fun k p1 p2 => by rw [wb_upn p1, wb_upn p2]))
  have tl2 : (0 ≤ t ∧ t < 3) → ((0 ≤ j ∧ j < 4) ∧ 0 ≤ v ∧ v ≤ wb_sq j) → wb_V G M_X12_stock 51 [(0, .ref 96), (1, .int (wb_i t)), (2, .int (wb_i j)), (3, .int (wb_i v))] [] N w 0 0 Q := by
    intro ht3 hok
    refine vi_iload_n 27 rfl rfl ?_
    refine vi_if_ne 28 rfl (by omega) (fun c_52 => ?_) (fun c_52 => ?_)
    · refine vi_iload_n 39 rfl rfl ?_
      refine vi_iconst 40 rfl ?_
      refine vi_icmp_ne 41 rfl (by omega) (by omega) (fun c_71 => ?_) (fun c_71 => ?_)
      · exact vi_lc (tl ht3 ⟨hok, fun q => by omega, fun q => by omega⟩) ⟨rfl, rfl, rfl, rfl, trivial⟩
      · refine vi_iload_n 42 rfl rfl ?_
        refine vi_aload_n 43 rfl rfl ?_
        refine vi_get 44 rfl f_X12_13 hrf rfl rfl ?_
        refine vi_iconst 45 rfl ?_
        refine vi_iload_n 46 rfl rfl ?_
        refine vi_imul 47 rfl ?_
        refine vi_iald 48 rfl h98 (by omega) ?_
        refine vi_icmp_ge 49 rfl (by omega) (by omega) (fun c_83 => ?_) (fun c_83 => ?_)
        · exact vi_lc (tl ht3 ⟨hok, fun q => by omega, fun q => by omega⟩) ⟨rfl, rfl, rfl, rfl, trivial⟩
        · refine vi_bipush 50 rfl (by decide) ?_
          exact vi_ireturn 51 rfl rfl rfl (Nat.zero_le _) (Nat.zero_le _) (k2 ht3 (fun q => by obtain ⟨q1, q3, q4⟩ := q; first | (have := q3 (by omega); omega) | (have := q4 (by omega); omega)))
    · refine vi_iload_n 29 rfl rfl ?_
      refine vi_aload_n 30 rfl rfl ?_
      refine vi_get 31 rfl f_X12_13 hrf rfl rfl ?_
      refine vi_iconst 32 rfl ?_
      refine vi_iload_n 33 rfl rfl ?_
      refine vi_imul 34 rfl ?_
      refine vi_iconst 35 rfl ?_
      refine vi_iadd 36 rfl ?_
      refine vi_iald 37 rfl h98 (by omega) ?_
      refine vi_icmp_gt 38 rfl (by omega) (by omega) (fun c_66 => ?_) (fun c_66 => ?_)
      · refine vi_bipush 50 rfl (by decide) ?_
        exact vi_ireturn 51 rfl rfl rfl (Nat.zero_le _) (Nat.zero_le _) (k2 ht3 (fun q => by obtain ⟨q1, q3, q4⟩ := q; first | (have := q3 (by omega); omega) | (have := q4 (by omega); omega)))
      · refine vi_iload_n 39 rfl rfl ?_
        refine vi_iconst 40 rfl ?_
        refine vi_icmp_ne 41 rfl (by omega) (by omega) (fun c_71 => ?_) (fun c_71 => ?_)
        · exact vi_lc (tl ht3 ⟨hok, fun q => by omega, fun q => by omega⟩) ⟨rfl, rfl, rfl, rfl, trivial⟩
        · refine vi_iload_n 42 rfl rfl ?_
          refine vi_aload_n 43 rfl rfl ?_
          refine vi_get 44 rfl f_X12_13 hrf rfl rfl ?_
          refine vi_iconst 45 rfl ?_
          refine vi_iload_n 46 rfl rfl ?_
          refine vi_imul 47 rfl ?_
          refine vi_iald 48 rfl h98 (by omega) ?_
          refine vi_icmp_ge 49 rfl (by omega) (by omega) (fun c_83 => ?_) (fun c_83 => ?_)
          · exact vi_lc (tl ht3 ⟨hok, fun q => by omega, fun q => by omega⟩) ⟨rfl, rfl, rfl, rfl, trivial⟩
          · refine vi_bipush 50 rfl (by decide) ?_
            exact vi_ireturn 51 rfl rfl rfl (Nat.zero_le _) (Nat.zero_le _) (k2 ht3 (fun q => by obtain ⟨q1, q3, q4⟩ := q; first | (have := q3 (by omega); omega) | (have := q4 (by omega); omega)))
  have q2 : ∀ z, wb_sq z = if z < 2 then 99 else if z = 2 then 199 else 5 := fun _ => rfl
  have qj := q2 j
  refine vi_iload_n 0 rfl rfl ?_
  refine vi_S1 1 ok_X12_isThing rfl c_X12_75 rfl ?_
  refine sp_X12_isThing (by omega) (fun b_1 => ?_) (fun b_1 => ?_)
  · refine vi_if_ne 2 rfl (by omega) (fun _ => ?_) (fun c => absurd c (by decide))
    refine vi_iload_n 5 rfl rfl ?_
    refine vi_iconst 6 rfl ?_
    refine vi_iconst 7 rfl ?_
    refine vi_S3 8 ok_X12_in rfl c_X12_56 rfl ?_
    refine sp_X12_in (by omega) (by omega) (by omega) (fun b_12 => ?_) (fun b_12 => ?_)
    · refine vi_if_eq 9 rfl (by omega) (fun c => absurd c (by decide)) (fun _ => ?_)
      refine vi_iload_n 10 rfl rfl ?_
      refine vi_iconst 11 rfl ?_
      refine vi_iload_n 12 rfl rfl ?_
      refine vi_iconst 13 rfl ?_
      refine vi_icmp_ge 14 rfl (by omega) (by omega) (fun c_22 => ?_) (fun c_22 => ?_)
      · refine vi_iload_n 17 rfl rfl ?_
        refine vi_iconst 18 rfl ?_
        refine vi_icmp_ne 19 rfl (by omega) (by omega) (fun c_32 => ?_) (fun c_32 => ?_)
        · refine vi_iconst 22 rfl ?_
          refine vi_S3 23 ok_X12_in rfl c_X12_56 rfl ?_
          refine sp_X12_in (by omega) (by omega) (by omega) (fun b_42 => ?_) (fun b_42 => ?_)
          · refine vi_if_ne 24 rfl (by omega) (fun _ => ?_) (fun c => absurd c (by decide))
            exact vi_lc (tl2 (by omega) (by rw [qj]; first | (rw [if_pos (by omega)]; omega) | (rw [if_neg (by omega), if_pos (by omega)]; omega) | (rw [if_neg (by omega), if_neg (by omega)]; omega))) ⟨rfl, rfl, rfl, rfl, trivial⟩
          · refine vi_if_ne 24 rfl (by omega) (fun c => absurd c (by decide)) (fun _ => ?_)
            refine vi_bipush 25 rfl (by decide) ?_
            exact vi_ireturn 26 rfl rfl rfl (Nat.zero_le _) (Nat.zero_le _) (k2 (by omega) (fun q => by obtain ⟨⟨q1, q2⟩, q3, q4⟩ := q; rw [qj] at q2; first | omega | (rw [if_pos (by omega)] at q2; omega) | (rw [if_neg (by omega), if_pos (by omega)] at q2; omega) | (rw [if_neg (by omega), if_neg (by omega)] at q2; omega)))
        · refine vi_sipush 20 rfl (by decide) ?_
          refine vi_goto 21 rfl ?_
          refine vi_S3 23 ok_X12_in rfl c_X12_56 rfl ?_
          refine sp_X12_in (by omega) (by omega) (by omega) (fun b_42 => ?_) (fun b_42 => ?_)
          · refine vi_if_ne 24 rfl (by omega) (fun _ => ?_) (fun c => absurd c (by decide))
            exact vi_lc (tl2 (by omega) (by rw [qj]; first | (rw [if_pos (by omega)]; omega) | (rw [if_neg (by omega), if_pos (by omega)]; omega) | (rw [if_neg (by omega), if_neg (by omega)]; omega))) ⟨rfl, rfl, rfl, rfl, trivial⟩
          · refine vi_if_ne 24 rfl (by omega) (fun c => absurd c (by decide)) (fun _ => ?_)
            refine vi_bipush 25 rfl (by decide) ?_
            exact vi_ireturn 26 rfl rfl rfl (Nat.zero_le _) (Nat.zero_le _) (k2 (by omega) (fun q => by obtain ⟨⟨q1, q2⟩, q3, q4⟩ := q; rw [qj] at q2; first | omega | (rw [if_pos (by omega)] at q2; omega) | (rw [if_neg (by omega), if_pos (by omega)] at q2; omega) | (rw [if_neg (by omega), if_neg (by omega)] at q2; omega)))
      · refine vi_bipush 15 rfl (by decide) ?_
        refine vi_goto 16 rfl ?_
        refine vi_S3 23 ok_X12_in rfl c_X12_56 rfl ?_
        refine sp_X12_in (by omega) (by omega) (by omega) (fun b_42 => ?_) (fun b_42 => ?_)
        · refine vi_if_ne 24 rfl (by omega) (fun _ => ?_) (fun c => absurd c (by decide))
          exact vi_lc (tl2 (by omega) (by rw [qj]; first | (rw [if_pos (by omega)]; omega) | (rw [if_neg (by omega), if_pos (by omega)]; omega) | (rw [if_neg (by omega), if_neg (by omega)]; omega))) ⟨rfl, rfl, rfl, rfl, trivial⟩
        · refine vi_if_ne 24 rfl (by omega) (fun c => absurd c (by decide)) (fun _ => ?_)
          refine vi_bipush 25 rfl (by decide) ?_
          exact vi_ireturn 26 rfl rfl rfl (Nat.zero_le _) (Nat.zero_le _) (k2 (by omega) (fun q => by obtain ⟨⟨q1, q2⟩, q3, q4⟩ := q; rw [qj] at q2; first | omega | (rw [if_pos (by omega)] at q2; omega) | (rw [if_neg (by omega), if_pos (by omega)] at q2; omega) | (rw [if_neg (by omega), if_neg (by omega)] at q2; omega)))
    · refine vi_if_eq 9 rfl (by omega) (fun _ => ?_) (fun c => absurd c (by decide))
      refine vi_bipush 25 rfl (by decide) ?_
      exact vi_ireturn 26 rfl rfl rfl (Nat.zero_le _) (Nat.zero_le _) (k2 (by omega) (fun q => by obtain ⟨⟨q1, q2⟩, q3, q4⟩ := q; rw [qj] at q2; first | omega | (rw [if_pos (by omega)] at q2; omega) | (rw [if_neg (by omega), if_pos (by omega)] at q2; omega) | (rw [if_neg (by omega), if_neg (by omega)] at q2; omega)))
  · refine vi_if_ne 2 rfl (by omega) (fun c => absurd c (by decide)) (fun _ => ?_)
    refine vi_iconst 3 rfl ?_
    exact vi_ireturn 4 rfl rfl rfl (Nat.zero_le _) (Nat.zero_le _) (ku (by omega))
theorem wb_n6_rg {z : Int} (h : -1 ≤ z ∧ z ≤ 2) : -6 ≤ wb_n6 z ∧ wb_n6 z ≤ 2 := by unfold wb_n6; split <;> omega
theorem sp_X12_standOf (hrf : wb_Rf w n sd sf cnt ru ld mo db tm tt tr L H fi ch) (hsd : -1 ≤ sd ∧ sd ≤ 2) (hsf : -1 ≤ sf ∧ sf ≤ 2) (h9 : 0 ≤ sd → 0 ≤ sf) (hQ : Q (some (.int (wb_i (if sd < 0 then -6 else 10 * sd + sf)))) N w) : wb_M G M_X12_standOf [.ref 96] N w Q := by
  unfold wb_M
  unfold wb_Rf at hrf
  have h1 := wb_n6_rg hsd
  have e1 : wb_n6 sd = if sd < 0 then -6 else sd := rfl
  have e2 : wb_n6 sf = if sf < 0 then -6 else sf := rfl
  by_cases hd : sd < 0
  · rw [if_pos hd] at e1
    refine vi_aload_n 0 rfl rfl ?_
    refine vi_get 1 rfl f_X12_16 hrf rfl rfl ?_
    refine vi_if_ge 2 rfl (by omega) (fun c_4 => by exfalso; omega) (fun c_4 => ?_)
    refine vi_bipush 3 rfl (by decide) ?_
    refine vi_goto 4 rfl ?_
    exact vi_ireturn 12 rfl rfl rfl (Nat.zero_le _) (Nat.zero_le _) (by rw [if_pos hd] at hQ; exact hQ)
  · have := h9 (by omega)
    rw [if_neg hd] at e1
    rw [if_neg (by omega)] at e2
    refine vi_aload_n 0 rfl rfl ?_
    refine vi_get 1 rfl f_X12_16 hrf rfl rfl ?_
    refine vi_if_ge 2 rfl (by omega) (fun c_4 => ?_) (fun c_4 => by exfalso; omega)
    refine vi_bipush 5 rfl (by decide) ?_
    refine vi_aload_n 6 rfl rfl ?_
    refine vi_get 7 rfl f_X12_16 hrf rfl rfl ?_
    refine vi_imul 8 rfl ?_
    refine vi_aload_n 9 rfl rfl ?_
    refine vi_get 10 rfl f_X12_20 hrf rfl rfl ?_
    refine vi_iadd 11 rfl ?_
    exact vi_ireturn 12 rfl rfl rfl (Nat.zero_le _) (Nat.zero_le _) (wb_e (by rw [e1, e2]) (by rw [if_neg hd] at hQ; exact hQ))
theorem sp_X12_stand {t o : Int} (hrf : wb_Rf w n sd sf cnt ru ld mo db tm tt tr L H fi ch) (hsd : -1 ≤ sd ∧ sd ≤ 2) (hsf : -1 ≤ sf ∧ sf ≤ 2) (h9 : 0 ≤ sd → 0 ≤ sf) (ht : -2147483648 ≤ t ∧ t ≤ 2147483647) (ho : -2147483648 ≤ o ∧ o ≤ 2147483647)
    (ku : ¬ wb_stk t o → Q (some (.int (wb_i (-1)))) N w) (k1 : ∀ w', wb_stk t o → wb_Rf w' n t o cnt ru 0 mo db tm tt tr L H fi ch → (∀ k, k ≠ 96 → w' k = w k) → Q (some (.int (wb_i (if sd < 0 then -6 else 10 * sd + sf)))) N w') : wb_M G M_X12_stand [.ref 96, .int (wb_i t), .int (wb_i o)] N w Q := by
  unfold wb_M
  have hrf' := hrf
  unfold wb_Rf at hrf'
  have tl : wb_stk t o → ∀ z : Int, ((z = 1 ∧ t = -1 ∧ o = -1) ∨ (z = 0 ∧ 0 ≤ t ∧ 0 ≤ o)) → wb_V G M_X12_stand 41 [(0, .ref 96), (1, .int (wb_i t)), (2, .int (wb_i o)), (3, .int (wb_i z))] [] N w 0 0 Q := by
    intro hok z hz
    rcases hz with ⟨rfl, rfl, rfl⟩ | ⟨rfl, h1, h2⟩
    · skip
      refine vi_aload_n 23 rfl rfl ?_
      refine vi_V0 24 ok_X12_standOf rfl c_X12_78 hrf' rfl rfl ?_
      refine sp_X12_standOf hrf hsd hsf h9 ?_
      refine vi_istore 25 rfl rfl ?_
      refine vi_aload_n 26 rfl rfl ?_
      refine vi_iload_n 27 rfl rfl ?_
      refine vi_if_eq 28 rfl (by omega) (fun c_49 => by exfalso; omega) (fun c_49 => ?_)
      refine vi_bipush 29 rfl (by decide) ?_
      refine vi_goto 30 rfl ?_
      refine vi_put 32 rfl f_X12_16 hrf' rfl rfl rfl rfl ?_
      refine vi_aload_n 33 rfl rfl ?_
      refine vi_iload_n 34 rfl rfl ?_
      refine vi_if_eq 35 rfl (by omega) (fun c_63 => by exfalso; omega) (fun c_63 => ?_)
      refine vi_bipush 36 rfl (by decide) ?_
      refine vi_goto 37 rfl ?_
      refine vi_put 39 rfl f_X12_20 wb_ups rfl rfl rfl rfl ?_
      refine vi_aload_n 40 rfl rfl ?_
      refine vi_iconst 41 rfl ?_
      refine vi_put 42 rfl f_X12_63 wb_ups rfl rfl rfl rfl ?_
      refine vi_iload 43 rfl rfl ?_
      exact vi_ireturn 44 rfl rfl rfl (Nat.zero_le _) (Nat.zero_le _) (k1 _ hok wb_ups (fun k p1 => by rw [wb_upn p1, wb_upn p1, wb_upn p1]))
    · have e1 : wb_n6 t = t := if_neg (by omega)
      have e2 : wb_n6 o = o := if_neg (by omega)
      refine vi_aload_n 23 rfl rfl ?_
      refine vi_V0 24 ok_X12_standOf rfl c_X12_78 hrf' rfl rfl ?_
      refine sp_X12_standOf hrf hsd hsf h9 ?_
      refine vi_istore 25 rfl rfl ?_
      refine vi_aload_n 26 rfl rfl ?_
      refine vi_iload_n 27 rfl rfl ?_
      refine vi_if_eq 28 rfl (by omega) (fun c_49 => ?_) (fun c_49 => by exfalso; omega)
      refine vi_iload_n 31 rfl rfl ?_
      refine vi_put 32 rfl f_X12_16 hrf' rfl rfl rfl rfl ?_
      refine vi_aload_n 33 rfl rfl ?_
      refine vi_iload_n 34 rfl rfl ?_
      refine vi_if_eq 35 rfl (by omega) (fun c_63 => ?_) (fun c_63 => by exfalso; omega)
      refine vi_iload_n 38 rfl rfl ?_
      refine vi_put 39 rfl f_X12_20 wb_ups rfl rfl rfl rfl ?_
      refine vi_aload_n 40 rfl rfl ?_
      refine vi_iconst 41 rfl ?_
      refine vi_put 42 rfl f_X12_63 wb_ups rfl rfl rfl rfl ?_
      refine vi_iload 43 rfl rfl ?_
      exact vi_ireturn 44 rfl rfl rfl (Nat.zero_le _) (Nat.zero_le _) (k1 _ hok (by unfold wb_Rf; rw [e1, e2]; exact wb_ups) (fun k p1 => by rw [wb_upn p1, wb_upn p1, wb_upn p1]))
  refine vi_iload_n 0 rfl rfl ?_
  refine vi_iconst 1 rfl ?_
  refine vi_icmp_ne 2 rfl (by omega) (by omega) (fun c_2 => ?_) (fun c_2 => ?_)
  · refine vi_iconst 8 rfl ?_
    refine vi_istore_n 9 rfl rfl ?_
    refine vi_iload_n 10 rfl rfl ?_
    refine vi_if_ne 11 rfl (by omega) (fun c => absurd c (by decide)) (fun _ => ?_)
    refine vi_iload_n 12 rfl rfl ?_
    refine vi_S1 13 ok_X12_isThing rfl c_X12_75 rfl ?_
    refine sp_X12_isThing (by omega) (fun b_21 => ?_) (fun b_21 => ?_)
    · refine vi_if_eq 14 rfl (by omega) (fun c => absurd c (by decide)) (fun _ => ?_)
      refine vi_iload_n 15 rfl rfl ?_
      refine vi_S1 16 ok_X12_isThing rfl c_X12_75 rfl ?_
      refine sp_X12_isThing (by omega) (fun b_28 => ?_) (fun b_28 => ?_)
      · refine vi_if_eq 17 rfl (by omega) (fun c => absurd c (by decide)) (fun _ => ?_)
        refine vi_iload_n 18 rfl rfl ?_
        refine vi_iload_n 19 rfl rfl ?_
        refine vi_icmp_ne 20 rfl (by omega) (by omega) (fun c_36 => ?_) (fun c_36 => ?_)
        · first | exact vi_lc (tl (by omega) 1 (by omega)) ⟨rfl, rfl, rfl, rfl, trivial⟩ | exact vi_lc (tl (by omega) 0 (by omega)) ⟨rfl, rfl, rfl, rfl, trivial⟩
        · refine vi_iconst 21 rfl ?_
          exact vi_ireturn 22 rfl rfl rfl (Nat.zero_le _) (Nat.zero_le _) (ku (by omega))
      · refine vi_if_eq 17 rfl (by omega) (fun _ => ?_) (fun c => absurd c (by decide))
        refine vi_iconst 21 rfl ?_
        exact vi_ireturn 22 rfl rfl rfl (Nat.zero_le _) (Nat.zero_le _) (ku (by omega))
    · refine vi_if_eq 14 rfl (by omega) (fun _ => ?_) (fun c => absurd c (by decide))
      refine vi_iconst 21 rfl ?_
      exact vi_ireturn 22 rfl rfl rfl (Nat.zero_le _) (Nat.zero_le _) (ku (by omega))
  · refine vi_iload_n 3 rfl rfl ?_
    refine vi_iconst 4 rfl ?_
    refine vi_icmp_ne 5 rfl (by omega) (by omega) (fun c_7 => ?_) (fun c_7 => ?_)
    · refine vi_iconst 8 rfl ?_
      refine vi_istore_n 9 rfl rfl ?_
      refine vi_iload_n 10 rfl rfl ?_
      refine vi_if_ne 11 rfl (by omega) (fun c => absurd c (by decide)) (fun _ => ?_)
      refine vi_iload_n 12 rfl rfl ?_
      refine vi_S1 13 ok_X12_isThing rfl c_X12_75 rfl ?_
      refine sp_X12_isThing (by omega) (fun b_21 => ?_) (fun b_21 => ?_)
      · refine vi_if_eq 14 rfl (by omega) (fun c => absurd c (by decide)) (fun _ => ?_)
        refine vi_iload_n 15 rfl rfl ?_
        refine vi_S1 16 ok_X12_isThing rfl c_X12_75 rfl ?_
        refine sp_X12_isThing (by omega) (fun b_28 => ?_) (fun b_28 => ?_)
        · refine vi_if_eq 17 rfl (by omega) (fun c => absurd c (by decide)) (fun _ => ?_)
          refine vi_iload_n 18 rfl rfl ?_
          refine vi_iload_n 19 rfl rfl ?_
          refine vi_icmp_ne 20 rfl (by omega) (by omega) (fun c_36 => ?_) (fun c_36 => ?_)
          · first | exact vi_lc (tl (by omega) 1 (by omega)) ⟨rfl, rfl, rfl, rfl, trivial⟩ | exact vi_lc (tl (by omega) 0 (by omega)) ⟨rfl, rfl, rfl, rfl, trivial⟩
          · refine vi_iconst 21 rfl ?_
            exact vi_ireturn 22 rfl rfl rfl (Nat.zero_le _) (Nat.zero_le _) (ku (by omega))
        · refine vi_if_eq 17 rfl (by omega) (fun _ => ?_) (fun c => absurd c (by decide))
          refine vi_iconst 21 rfl ?_
          exact vi_ireturn 22 rfl rfl rfl (Nat.zero_le _) (Nat.zero_le _) (ku (by omega))
      · refine vi_if_eq 14 rfl (by omega) (fun _ => ?_) (fun c => absurd c (by decide))
        refine vi_iconst 21 rfl ?_
        exact vi_ireturn 22 rfl rfl rfl (Nat.zero_le _) (Nat.zero_le _) (ku (by omega))
    · refine vi_iconst 6 rfl ?_
      refine vi_goto 7 rfl ?_
      refine vi_istore_n 9 rfl rfl ?_
      refine vi_iload_n 10 rfl rfl ?_
      refine vi_if_ne 11 rfl (by omega) (fun _ => ?_) (fun c => absurd c (by decide))
      first | exact vi_lc (tl (by omega) 1 (by omega)) ⟨rfl, rfl, rfl, rfl, trivial⟩ | exact vi_lc (tl (by omega) 0 (by omega)) ⟨rfl, rfl, rfl, rfl, trivial⟩
theorem sp_X12_say {v : Int} (hrf : wb_Rf w n sd sf cnt ru ld mo db tm tt tr L H fi ch) (h99 : w 99 = aI 50 sg) (hc : 0 ≤ cnt ∧ cnt ≤ 50) (hv : -2147483648 ≤ v ∧ v ≤ 2147483647)
    (k2 : ¬ (33 ≤ v ∧ v ≤ 126) → Q (some (.int (wb_i (-2)))) N w) (k4 : (33 ≤ v ∧ v ≤ 126) → cnt = 50 → Q (some (.int (wb_i (-4)))) N w) (k1 : ∀ w', (33 ≤ v ∧ v ≤ 126) → cnt < 50 → wb_Rf w' n sd sf (cnt + 1) ru ld mo db tm tt tr L H fi ch → w' 99 = aI 50 (wb_u sg cnt v) → (∀ k, k ≠ 96 → k ≠ 99 → w' k = w k) → Q (some (.int (wb_i (cnt + 1)))) N w') : wb_M G M_X12_say [.ref 96, .int (wb_i v)] N w Q := by
  unfold wb_M
  unfold wb_Rf at hrf
  refine vi_iload_n 0 rfl rfl ?_
  refine vi_bipush 1 rfl (by decide) ?_
  refine vi_bipush 2 rfl (by decide) ?_
  refine vi_S3 3 ok_X12_in rfl c_X12_56 rfl ?_
  refine sp_X12_in (by omega) (by omega) (by omega) (fun b_5 => ?_) (fun b_5 => ?_)
  · refine vi_if_ne 4 rfl (by omega) (fun _ => ?_) (fun c => absurd c (by decide))
    refine vi_aload_n 7 rfl rfl ?_
    refine vi_get 8 rfl f_X12_82 hrf rfl rfl ?_
    refine vi_bipush 9 rfl (by decide) ?_
    refine vi_icmp_ne 10 rfl (by omega) (by omega) (fun c_20 => ?_) (fun c_20 => ?_)
    · refine vi_aload_n 13 rfl rfl ?_
      refine vi_get 14 rfl f_X12_23 hrf rfl rfl ?_
      refine vi_aload_n 15 rfl rfl ?_
      refine vi_get 16 rfl f_X12_82 hrf rfl rfl ?_
      refine vi_iload_n 17 rfl rfl ?_
      refine vi_iast 18 rfl h99 (by omega) ?_
      refine vi_aload_n 19 rfl rfl ?_
      refine vi_dup 20 rfl rfl ?_
      refine vi_get 21 rfl f_X12_82 ((wb_upn (by omega)).trans hrf) rfl rfl ?_
      refine vi_iconst 22 rfl ?_
      refine vi_iadd 23 rfl ?_
      refine vi_put 24 rfl f_X12_82 ((wb_upn (by omega)).trans hrf) rfl rfl rfl rfl ?_
      refine vi_aload_n 25 rfl rfl ?_
      refine vi_get 26 rfl f_X12_82 wb_ups rfl rfl ?_
      exact vi_ireturn 27 rfl rfl rfl (Nat.zero_le _) (Nat.zero_le _) (k1 _ b_5 (by omega) wb_ups (by rw [wb_upn (by omega)]; exact wb_ups) (fun k p1 p2 => by rw [wb_upn p1, wb_upn p2]))
    · refine vi_bipush 11 rfl (by decide) ?_
      exact vi_ireturn 12 rfl rfl rfl (Nat.zero_le _) (Nat.zero_le _) (k4 b_5 (by omega))
  · refine vi_if_ne 4 rfl (by omega) (fun c => absurd c (by decide)) (fun _ => ?_)
    refine vi_bipush 5 rfl (by decide) ?_
    exact vi_ireturn 6 rfl rfl rfl (Nat.zero_le _) (Nat.zero_le _) (k2 b_5)
theorem sp_X12_wipe (hrf : wb_Rf w n sd sf cnt ru ld mo db tm tt tr L H fi ch) (hQ : ∀ w', wb_Rf w' n sd sf 0 ru ld mo db tm tt tr L H fi ch → (∀ k, k ≠ 96 → w' k = w k) → Q (some (.int (wb_i cnt))) N w') : wb_M G M_X12_wipe [.ref 96] N w Q := by
  unfold wb_M
  unfold wb_Rf at hrf
  refine vi_aload_n 0 rfl rfl ?_
  refine vi_get 1 rfl f_X12_82 hrf rfl rfl ?_
  refine vi_istore_n 2 rfl rfl ?_
  refine vi_aload_n 3 rfl rfl ?_
  refine vi_iconst 4 rfl ?_
  refine vi_put 5 rfl f_X12_82 hrf rfl rfl rfl rfl ?_
  refine vi_iload_n 6 rfl rfl ?_
  exact vi_ireturn 7 rfl rfl rfl (Nat.zero_le _) (Nat.zero_le _) (hQ _ wb_ups (fun k p1 => wb_upn p1))
theorem wb_nst0 (s : Int) : wb_nst 0 s = if s = 112 ∨ s = 113 then 1 else -1 := rfl
theorem wb_nst1 (s : Int) : wb_nst 1 s = if 97 ≤ s ∧ s ≤ 99 then 2 else -1 := rfl
theorem wb_nst2 (s : Int) : wb_nst 2 s = if s = 43 then 0 else if wb_rel s then 3 else -1 := rfl
theorem wb_nst3 (s : Int) : wb_nst 3 s = if wb_dig s then 4 else -1 := rfl
theorem wb_nst4 (s : Int) : wb_nst 4 s = if wb_dig s then 5 else if wb_lnk s then 0 else -1 := rfl
theorem wb_nst5 (s : Int) : wb_nst 5 s = if wb_lnk s then 0 else -1 := rfl
theorem sp_X12_faultOf (hrf : wb_Rf w n sd sf cnt ru ld mo db tm tt tr L H fi ch) (h99 : w 99 = aI 50 sg) (hc : 0 ≤ cnt ∧ cnt ≤ 50) (hsg : ∀ i, 0 ≤ i → i < cnt → 33 ≤ sg i ∧ sg i ≤ 126) (hQ : Q (some (.int (wb_i (wb_fa sg cnt)))) N w) : wb_M G M_X12_faultOf [.ref 96] N w Q := by
  unfold wb_M
  unfold wb_Rf at hrf
  have lp : ∀ i, i ≤ cnt → ∀ st : Int, 0 ≤ i → (0 ≤ st ∧ st ≤ 5) → wb_ff sg cnt (cnt - i).toNat i st = wb_fa sg cnt → wb_V G M_X12_faultOf 4 [(0, .ref 96), (1, .int (wb_i st)), (2, .int (wb_i i))] [] N w 0 0 Q := by
    refine wb_up cnt _ ?_
    intro i ih hi st hi0 hst he
    have hs := fun q : i < cnt => hsg i hi0 q
    have hstep : i < cnt → (cnt - i).toNat = (cnt - (i + 1)).toNat + 1 := fun _ => by omega
    have hend : ¬ i < cnt → (cnt - i).toNat = 0 := fun _ => by omega
    have tl : i < cnt → ∀ z : Int, ((z = -6 ∧ wb_nst st (sg i) < 0) ∨ (0 ≤ z ∧ z ≤ 5 ∧ wb_nst st (sg i) = z)) → wb_V G M_X12_faultOf 165 [(0, .ref 96), (2, .int (wb_i i)), (4, .int (wb_i z))] [] N w 0 0 Q := by
      intro hic z hz
      refine vi_iload 87 rfl rfl ?_
      refine vi_if_ge 88 rfl (by omega) (fun c_167 => ?_) (fun c_167 => ?_)
      · refine vi_iload 91 rfl rfl ?_
        refine vi_istore_n 92 rfl rfl ?_
        refine vi_iinc 93 rfl rfl rfl ?_
        refine vi_goto 94 rfl ?_
        exact vi_lc (ih (i + 1) (by omega) (by omega) z (by omega) (by omega) (by rw [← he, hstep (by omega), wb_ff, if_neg (by omega), show wb_nst st (sg i) = z by omega])) ⟨rfl, rfl, rfl, trivial⟩
      · refine vi_iload_n 89 rfl rfl ?_
        exact vi_ireturn 90 rfl rfl rfl (Nat.zero_le _) (Nat.zero_le _) (wb_e (by rw [← he, hstep (by omega), wb_ff, if_pos (by omega)]) hQ)
    have n0 : st = 0 → wb_nst st (sg i) = if sg i = 112 ∨ sg i = 113 then 1 else -1 := fun e => by rw [e]; rfl
    have n1 : st = 1 → wb_nst st (sg i) = if 97 ≤ sg i ∧ sg i ≤ 99 then 2 else -1 := fun e => by rw [e]; rfl
    have n2 : st = 2 → wb_nst st (sg i) = if sg i = 43 then 0 else if wb_rel (sg i) then 3 else -1 := fun e => by rw [e]; rfl
    have n3 : st = 3 → wb_nst st (sg i) = if wb_dig (sg i) then 4 else -1 := fun e => by rw [e]; rfl
    have n4 : st = 4 → wb_nst st (sg i) = if wb_dig (sg i) then 5 else if wb_lnk (sg i) then 0 else -1 := fun e => by rw [e]; rfl
    have n5 : st = 5 → wb_nst st (sg i) = if wb_lnk (sg i) then 0 else -1 := fun e => by rw [e]; rfl
    refine vi_iload_n 4 rfl rfl ?_
    refine vi_aload_n 5 rfl rfl ?_
    refine vi_get 6 rfl f_X12_82 hrf rfl rfl ?_
    refine vi_icmp_ge 7 rfl (by omega) (by omega) (fun c_9 => ?_) (fun c_9 => ?_)
    · refine vi_iload_n 95 rfl rfl ?_
      refine vi_iconst 96 rfl ?_
      refine vi_icmp_le 97 rfl (by omega) (by omega) (fun c_183 => ?_) (fun c_183 => ?_)
      · refine vi_aload_n 100 rfl rfl ?_
        refine vi_get 101 rfl f_X12_82 hrf rfl rfl ?_
        exact vi_ireturn 102 rfl rfl rfl (Nat.zero_le _) (Nat.zero_le _) (wb_e (by rw [← he, hend (by omega), wb_ff]; split <;> omega) hQ)
      · refine vi_bipush 98 rfl (by decide) ?_
        refine vi_goto 99 rfl ?_
        exact vi_ireturn 102 rfl rfl rfl (Nat.zero_le _) (Nat.zero_le _) (wb_e (by rw [← he, hend (by omega), wb_ff]; split <;> omega) hQ)
    · have hsr := hs (by omega)
      refine vi_aload_n 8 rfl rfl ?_
      refine vi_get 9 rfl f_X12_23 hrf rfl rfl ?_
      refine vi_iload_n 10 rfl rfl ?_
      refine vi_iald 11 rfl h99 (by omega) ?_
      refine vi_istore_n 12 rfl rfl ?_
      refine vi_bipush 13 rfl (by decide) ?_
      refine vi_istore 14 rfl rfl ?_
      refine vi_iload_n 15 rfl rfl ?_
      refine vi_if_ne 16 rfl (by omega) (fun c_24 => ?_) (fun c_24 => ?_)
      · refine vi_iload_n 28 rfl rfl ?_
        refine vi_iconst 29 rfl ?_
        refine vi_icmp_ne 30 rfl (by omega) (by omega) (fun c_52 => ?_) (fun c_52 => ?_)
        · refine vi_iload_n 41 rfl rfl ?_
          refine vi_iconst 42 rfl ?_
          refine vi_icmp_ne 43 rfl (by omega) (by omega) (fun c_79 => ?_) (fun c_79 => ?_)
          · refine vi_iload_n 63 rfl rfl ?_
            refine vi_iconst 64 rfl ?_
            refine vi_icmp_ge 65 rfl (by omega) (by omega) (fun c_123 => ?_) (fun c_123 => ?_)
            · refine vi_iload_n 76 rfl rfl ?_
              refine vi_iconst 77 rfl ?_
              refine vi_icmp_le 78 rfl (by omega) (by omega) (fun c_147 => ?_) (fun c_147 => ?_)
              · refine vi_lc (tl (by omega) _ ?_) ⟨rfl, rfl, rfl, trivial⟩
                first | (rw [n0 (by omega)]; split <;> omega) | (rw [n1 (by omega)]; split <;> omega) | (rw [n2 (by omega)]; split <;> (try split) <;> omega) | (rcases (show st = 3 ∨ st = 4 ∨ st = 5 by omega) with e | e | e; (rw [n3 e]; split <;> omega); (rw [n4 e]; split <;> (try split) <;> omega); (rw [n5 e]; split <;> omega))
              · refine vi_iload_n 79 rfl rfl ?_
                refine vi_bipush 80 rfl (by decide) ?_
                refine vi_icmp_eq 81 rfl (by omega) (by omega) (fun c_153 => ?_) (fun c_153 => ?_)
                · refine vi_iconst 85 rfl ?_
                  refine vi_istore 86 rfl rfl ?_
                  refine vi_lc (tl (by omega) _ ?_) ⟨rfl, rfl, rfl, trivial⟩
                  first | (rw [n0 (by omega)]; split <;> omega) | (rw [n1 (by omega)]; split <;> omega) | (rw [n2 (by omega)]; split <;> (try split) <;> omega) | (rcases (show st = 3 ∨ st = 4 ∨ st = 5 by omega) with e | e | e; (rw [n3 e]; split <;> omega); (rw [n4 e]; split <;> (try split) <;> omega); (rw [n5 e]; split <;> omega))
                · refine vi_iload_n 82 rfl rfl ?_
                  refine vi_bipush 83 rfl (by decide) ?_
                  refine vi_icmp_ne 84 rfl (by omega) (by omega) (fun c_159 => ?_) (fun c_159 => ?_)
                  · refine vi_lc (tl (by omega) _ ?_) ⟨rfl, rfl, rfl, trivial⟩
                    first | (rw [n0 (by omega)]; split <;> omega) | (rw [n1 (by omega)]; split <;> omega) | (rw [n2 (by omega)]; split <;> (try split) <;> omega) | (rcases (show st = 3 ∨ st = 4 ∨ st = 5 by omega) with e | e | e; (rw [n3 e]; split <;> omega); (rw [n4 e]; split <;> (try split) <;> omega); (rw [n5 e]; split <;> omega))
                  · refine vi_iconst 85 rfl ?_
                    refine vi_istore 86 rfl rfl ?_
                    refine vi_lc (tl (by omega) _ ?_) ⟨rfl, rfl, rfl, trivial⟩
                    first | (rw [n0 (by omega)]; split <;> omega) | (rw [n1 (by omega)]; split <;> omega) | (rw [n2 (by omega)]; split <;> (try split) <;> omega) | (rcases (show st = 3 ∨ st = 4 ∨ st = 5 by omega) with e | e | e; (rw [n3 e]; split <;> omega); (rw [n4 e]; split <;> (try split) <;> omega); (rw [n5 e]; split <;> omega))
            · refine vi_iload_n 66 rfl rfl ?_
              refine vi_bipush 67 rfl (by decide) ?_
              refine vi_bipush 68 rfl (by decide) ?_
              refine vi_S3 69 ok_X12_in rfl c_X12_56 rfl ?_
              refine sp_X12_in (by omega) (by omega) (by omega) (fun b_131 => ?_) (fun b_131 => ?_)
              · refine vi_if_eq 70 rfl (by omega) (fun c => absurd c (by decide)) (fun _ => ?_)
                refine vi_iload_n 71 rfl rfl ?_
                refine vi_iconst 72 rfl ?_
                refine vi_iadd 73 rfl ?_
                refine vi_istore 74 rfl rfl ?_
                refine vi_goto 75 rfl ?_
                refine vi_lc (tl (by omega) _ ?_) ⟨rfl, rfl, rfl, trivial⟩
                first | (rw [n0 (by omega)]; split <;> omega) | (rw [n1 (by omega)]; split <;> omega) | (rw [n2 (by omega)]; split <;> (try split) <;> omega) | (rcases (show st = 3 ∨ st = 4 ∨ st = 5 by omega) with e | e | e; (rw [n3 e]; split <;> omega); (rw [n4 e]; split <;> (try split) <;> omega); (rw [n5 e]; split <;> omega))
              · refine vi_if_eq 70 rfl (by omega) (fun _ => ?_) (fun c => absurd c (by decide))
                refine vi_iload_n 76 rfl rfl ?_
                refine vi_iconst 77 rfl ?_
                refine vi_icmp_le 78 rfl (by omega) (by omega) (fun c_147 => ?_) (fun c_147 => ?_)
                · refine vi_lc (tl (by omega) _ ?_) ⟨rfl, rfl, rfl, trivial⟩
                  first | (rw [n0 (by omega)]; split <;> omega) | (rw [n1 (by omega)]; split <;> omega) | (rw [n2 (by omega)]; split <;> (try split) <;> omega) | (rcases (show st = 3 ∨ st = 4 ∨ st = 5 by omega) with e | e | e; (rw [n3 e]; split <;> omega); (rw [n4 e]; split <;> (try split) <;> omega); (rw [n5 e]; split <;> omega))
                · refine vi_iload_n 79 rfl rfl ?_
                  refine vi_bipush 80 rfl (by decide) ?_
                  refine vi_icmp_eq 81 rfl (by omega) (by omega) (fun c_153 => ?_) (fun c_153 => ?_)
                  · refine vi_iconst 85 rfl ?_
                    refine vi_istore 86 rfl rfl ?_
                    refine vi_lc (tl (by omega) _ ?_) ⟨rfl, rfl, rfl, trivial⟩
                    first | (rw [n0 (by omega)]; split <;> omega) | (rw [n1 (by omega)]; split <;> omega) | (rw [n2 (by omega)]; split <;> (try split) <;> omega) | (rcases (show st = 3 ∨ st = 4 ∨ st = 5 by omega) with e | e | e; (rw [n3 e]; split <;> omega); (rw [n4 e]; split <;> (try split) <;> omega); (rw [n5 e]; split <;> omega))
                  · refine vi_iload_n 82 rfl rfl ?_
                    refine vi_bipush 83 rfl (by decide) ?_
                    refine vi_icmp_ne 84 rfl (by omega) (by omega) (fun c_159 => ?_) (fun c_159 => ?_)
                    · refine vi_lc (tl (by omega) _ ?_) ⟨rfl, rfl, rfl, trivial⟩
                      first | (rw [n0 (by omega)]; split <;> omega) | (rw [n1 (by omega)]; split <;> omega) | (rw [n2 (by omega)]; split <;> (try split) <;> omega) | (rcases (show st = 3 ∨ st = 4 ∨ st = 5 by omega) with e | e | e; (rw [n3 e]; split <;> omega); (rw [n4 e]; split <;> (try split) <;> omega); (rw [n5 e]; split <;> omega))
                    · refine vi_iconst 85 rfl ?_
                      refine vi_istore 86 rfl rfl ?_
                      refine vi_lc (tl (by omega) _ ?_) ⟨rfl, rfl, rfl, trivial⟩
                      first | (rw [n0 (by omega)]; split <;> omega) | (rw [n1 (by omega)]; split <;> omega) | (rw [n2 (by omega)]; split <;> (try split) <;> omega) | (rcases (show st = 3 ∨ st = 4 ∨ st = 5 by omega) with e | e | e; (rw [n3 e]; split <;> omega); (rw [n4 e]; split <;> (try split) <;> omega); (rw [n5 e]; split <;> omega))
          · refine vi_iload_n 44 rfl rfl ?_
            refine vi_bipush 45 rfl (by decide) ?_
            refine vi_icmp_ne 46 rfl (by omega) (by omega) (fun c_85 => ?_) (fun c_85 => ?_)
            · refine vi_iload_n 49 rfl rfl ?_
              refine vi_bipush 50 rfl (by decide) ?_
              refine vi_icmp_eq 51 rfl (by omega) (by omega) (fun c_95 => ?_) (fun c_95 => ?_)
              · refine vi_iconst 58 rfl ?_
                refine vi_goto 59 rfl ?_
                refine vi_istore 61 rfl rfl ?_
                refine vi_goto 62 rfl ?_
                refine vi_lc (tl (by omega) _ ?_) ⟨rfl, rfl, rfl, trivial⟩
                first | (rw [n0 (by omega)]; split <;> omega) | (rw [n1 (by omega)]; split <;> omega) | (rw [n2 (by omega)]; split <;> (try split) <;> omega) | (rcases (show st = 3 ∨ st = 4 ∨ st = 5 by omega) with e | e | e; (rw [n3 e]; split <;> omega); (rw [n4 e]; split <;> (try split) <;> omega); (rw [n5 e]; split <;> omega))
              · refine vi_iload_n 52 rfl rfl ?_
                refine vi_bipush 53 rfl (by decide) ?_
                refine vi_icmp_eq 54 rfl (by omega) (by omega) (fun c_101 => ?_) (fun c_101 => ?_)
                · refine vi_iconst 58 rfl ?_
                  refine vi_goto 59 rfl ?_
                  refine vi_istore 61 rfl rfl ?_
                  refine vi_goto 62 rfl ?_
                  refine vi_lc (tl (by omega) _ ?_) ⟨rfl, rfl, rfl, trivial⟩
                  first | (rw [n0 (by omega)]; split <;> omega) | (rw [n1 (by omega)]; split <;> omega) | (rw [n2 (by omega)]; split <;> (try split) <;> omega) | (rcases (show st = 3 ∨ st = 4 ∨ st = 5 by omega) with e | e | e; (rw [n3 e]; split <;> omega); (rw [n4 e]; split <;> (try split) <;> omega); (rw [n5 e]; split <;> omega))
                · refine vi_iload_n 55 rfl rfl ?_
                  refine vi_bipush 56 rfl (by decide) ?_
                  refine vi_icmp_ne 57 rfl (by omega) (by omega) (fun c_107 => ?_) (fun c_107 => ?_)
                  · refine vi_bipush 60 rfl (by decide) ?_
                    refine vi_istore 61 rfl rfl ?_
                    refine vi_goto 62 rfl ?_
                    refine vi_lc (tl (by omega) _ ?_) ⟨rfl, rfl, rfl, trivial⟩
                    first | (rw [n0 (by omega)]; split <;> omega) | (rw [n1 (by omega)]; split <;> omega) | (rw [n2 (by omega)]; split <;> (try split) <;> omega) | (rcases (show st = 3 ∨ st = 4 ∨ st = 5 by omega) with e | e | e; (rw [n3 e]; split <;> omega); (rw [n4 e]; split <;> (try split) <;> omega); (rw [n5 e]; split <;> omega))
                  · refine vi_iconst 58 rfl ?_
                    refine vi_goto 59 rfl ?_
                    refine vi_istore 61 rfl rfl ?_
                    refine vi_goto 62 rfl ?_
                    refine vi_lc (tl (by omega) _ ?_) ⟨rfl, rfl, rfl, trivial⟩
                    first | (rw [n0 (by omega)]; split <;> omega) | (rw [n1 (by omega)]; split <;> omega) | (rw [n2 (by omega)]; split <;> (try split) <;> omega) | (rcases (show st = 3 ∨ st = 4 ∨ st = 5 by omega) with e | e | e; (rw [n3 e]; split <;> omega); (rw [n4 e]; split <;> (try split) <;> omega); (rw [n5 e]; split <;> omega))
            · refine vi_iconst 47 rfl ?_
              refine vi_goto 48 rfl ?_
              refine vi_istore 61 rfl rfl ?_
              refine vi_goto 62 rfl ?_
              refine vi_lc (tl (by omega) _ ?_) ⟨rfl, rfl, rfl, trivial⟩
              first | (rw [n0 (by omega)]; split <;> omega) | (rw [n1 (by omega)]; split <;> omega) | (rw [n2 (by omega)]; split <;> (try split) <;> omega) | (rcases (show st = 3 ∨ st = 4 ∨ st = 5 by omega) with e | e | e; (rw [n3 e]; split <;> omega); (rw [n4 e]; split <;> (try split) <;> omega); (rw [n5 e]; split <;> omega))
        · refine vi_iload_n 31 rfl rfl ?_
          refine vi_bipush 32 rfl (by decide) ?_
          refine vi_bipush 33 rfl (by decide) ?_
          refine vi_S3 34 ok_X12_in rfl c_X12_56 rfl ?_
          refine sp_X12_in (by omega) (by omega) (by omega) (fun b_60 => ?_) (fun b_60 => ?_)
          · refine vi_if_eq 35 rfl (by omega) (fun c => absurd c (by decide)) (fun _ => ?_)
            refine vi_iconst 36 rfl ?_
            refine vi_goto 37 rfl ?_
            refine vi_istore 39 rfl rfl ?_
            refine vi_goto 40 rfl ?_
            refine vi_lc (tl (by omega) _ ?_) ⟨rfl, rfl, rfl, trivial⟩
            first | (rw [n0 (by omega)]; split <;> omega) | (rw [n1 (by omega)]; split <;> omega) | (rw [n2 (by omega)]; split <;> (try split) <;> omega) | (rcases (show st = 3 ∨ st = 4 ∨ st = 5 by omega) with e | e | e; (rw [n3 e]; split <;> omega); (rw [n4 e]; split <;> (try split) <;> omega); (rw [n5 e]; split <;> omega))
          · refine vi_if_eq 35 rfl (by omega) (fun _ => ?_) (fun c => absurd c (by decide))
            refine vi_bipush 38 rfl (by decide) ?_
            refine vi_istore 39 rfl rfl ?_
            refine vi_goto 40 rfl ?_
            refine vi_lc (tl (by omega) _ ?_) ⟨rfl, rfl, rfl, trivial⟩
            first | (rw [n0 (by omega)]; split <;> omega) | (rw [n1 (by omega)]; split <;> omega) | (rw [n2 (by omega)]; split <;> (try split) <;> omega) | (rcases (show st = 3 ∨ st = 4 ∨ st = 5 by omega) with e | e | e; (rw [n3 e]; split <;> omega); (rw [n4 e]; split <;> (try split) <;> omega); (rw [n5 e]; split <;> omega))
      · refine vi_iload_n 17 rfl rfl ?_
        refine vi_bipush 18 rfl (by decide) ?_
        refine vi_icmp_eq 19 rfl (by omega) (by omega) (fun c_30 => ?_) (fun c_30 => ?_)
        · refine vi_iconst 23 rfl ?_
          refine vi_goto 24 rfl ?_
          refine vi_istore 26 rfl rfl ?_
          refine vi_goto 27 rfl ?_
          refine vi_lc (tl (by omega) _ ?_) ⟨rfl, rfl, rfl, trivial⟩
          first | (rw [n0 (by omega)]; split <;> omega) | (rw [n1 (by omega)]; split <;> omega) | (rw [n2 (by omega)]; split <;> (try split) <;> omega) | (rcases (show st = 3 ∨ st = 4 ∨ st = 5 by omega) with e | e | e; (rw [n3 e]; split <;> omega); (rw [n4 e]; split <;> (try split) <;> omega); (rw [n5 e]; split <;> omega))
        · refine vi_iload_n 20 rfl rfl ?_
          refine vi_bipush 21 rfl (by decide) ?_
          refine vi_icmp_ne 22 rfl (by omega) (by omega) (fun c_36 => ?_) (fun c_36 => ?_)
          · refine vi_bipush 25 rfl (by decide) ?_
            refine vi_istore 26 rfl rfl ?_
            refine vi_goto 27 rfl ?_
            refine vi_lc (tl (by omega) _ ?_) ⟨rfl, rfl, rfl, trivial⟩
            first | (rw [n0 (by omega)]; split <;> omega) | (rw [n1 (by omega)]; split <;> omega) | (rw [n2 (by omega)]; split <;> (try split) <;> omega) | (rcases (show st = 3 ∨ st = 4 ∨ st = 5 by omega) with e | e | e; (rw [n3 e]; split <;> omega); (rw [n4 e]; split <;> (try split) <;> omega); (rw [n5 e]; split <;> omega))
          · refine vi_iconst 23 rfl ?_
            refine vi_goto 24 rfl ?_
            refine vi_istore 26 rfl rfl ?_
            refine vi_goto 27 rfl ?_
            refine vi_lc (tl (by omega) _ ?_) ⟨rfl, rfl, rfl, trivial⟩
            first | (rw [n0 (by omega)]; split <;> omega) | (rw [n1 (by omega)]; split <;> omega) | (rw [n2 (by omega)]; split <;> (try split) <;> omega) | (rcases (show st = 3 ∨ st = 4 ∨ st = 5 by omega) with e | e | e; (rw [n3 e]; split <;> omega); (rw [n4 e]; split <;> (try split) <;> omega); (rw [n5 e]; split <;> omega))
  refine vi_iconst 0 rfl ?_
  refine vi_istore_n 1 rfl rfl ?_
  refine vi_iconst 2 rfl ?_
  refine vi_istore_n 3 rfl rfl ?_
  exact vi_lc (lp 0 (by omega) 0 (by omega) (by omega) (by unfold wb_fa; rw [show (cnt - 0).toNat = cnt.toNat by omega])) ⟨rfl, rfl, rfl, trivial⟩
theorem sp_X12_fault (hrf : wb_Rf w n sd sf cnt ru ld mo db tm tt tr L H fi ch) (h99 : w 99 = aI 50 sg) (hc : 0 ≤ cnt ∧ cnt ≤ 50) (hsg : ∀ i, 0 ≤ i → i < cnt → 33 ≤ sg i ∧ sg i ≤ 126) (hQ : Q (some (.int (wb_i (wb_fa sg cnt)))) N w) : wb_M G M_X12_fault [.ref 96] N w Q := by
  unfold wb_M
  have hrf' := hrf
  unfold wb_Rf at hrf'
  refine vi_aload_n 0 rfl rfl ?_
  refine vi_V0 1 ok_X12_faultOf rfl c_X12_85 hrf' rfl rfl ?_
  refine sp_X12_faultOf hrf h99 hc hsg ?_
  exact vi_ireturn 2 rfl rfl rfl (Nat.zero_le _) (Nat.zero_le _) (hQ)
/-- how many boths a rule has -/
def wb_bo1 (rs : Int → Int) (ru : Int) : Int := if 0 < ru then 1 + wb_br1 rs ru.toNat else 0
theorem sp_X12_boths (hrf : wb_Rf w n sd sf cnt ru ld mo db tm tt tr L H fi ch) (h100 : w 100 = aI 50 rs) (hru : 0 ≤ ru ∧ ru ≤ 50) (hrs : ∀ i, 0 ≤ i → i < ru → 33 ≤ rs i ∧ rs i ≤ 126) (hQ : Q (some (.int (wb_i (wb_bo1 rs ru)))) N w) : wb_M G M_X12_boths [.ref 96] N w Q := by
  unfold wb_M
  unfold wb_Rf at hrf
  have lp : ∀ i, i ≤ ru → ∀ v : Int, 0 ≤ i → v = (if 0 < ru then 1 else 0) + wb_br1 rs i.toNat → wb_V G M_X12_boths 15 [(0, .ref 96), (1, .int (wb_i v)), (2, .int (wb_i i))] [] N w 0 0 Q := by
    refine wb_up ru _ ?_
    intro i ih hi v hi0 hv
    have hr := fun q : i < ru => hrs i hi0 q
    have ebr : wb_br1 rs (i + 1).toNat = wb_br1 rs i.toNat + (if rs i = 124 then 1 else 0) := by
      rw [show (i + 1).toNat = i.toNat + 1 by omega]; unfold wb_br1; rw [wb_ct, show ((i.toNat : Nat) : Int) = i by omega]; simp
    refine vi_iload_n 9 rfl rfl ?_
    refine vi_aload_n 10 rfl rfl ?_
    refine vi_get 11 rfl f_X12_88 hrf rfl rfl ?_
    refine vi_icmp_ge 12 rfl (by omega) (by omega) (fun c_20 => ?_) (fun c_20 => ?_)
    · refine vi_iload_n 27 rfl rfl ?_
      exact vi_ireturn 28 rfl rfl rfl (Nat.zero_le _) (Nat.zero_le _) (wb_e (by rw [hv, show i = ru by omega]; unfold wb_bo1; split <;> (try rfl); rw [show ru.toNat = 0 by omega]; rfl) hQ)
    · have hrr := hr (by omega)
      refine vi_iload_n 13 rfl rfl ?_
      refine vi_aload_n 14 rfl rfl ?_
      refine vi_get 15 rfl f_X12_26 hrf rfl rfl ?_
      refine vi_iload_n 16 rfl rfl ?_
      refine vi_iald 17 rfl h100 (by omega) ?_
      refine vi_bipush 18 rfl (by decide) ?_
      refine vi_icmp_ne 19 rfl (by omega) (by omega) (fun c_32 => ?_) (fun c_32 => ?_)
      · refine vi_iconst 22 rfl ?_
        refine vi_iadd 23 rfl ?_
        refine vi_istore_n 24 rfl rfl ?_
        refine vi_iinc 25 rfl rfl rfl ?_
        refine vi_goto 26 rfl ?_
        exact vi_lc (ih (i + 1) (by omega) (by omega) _ (by omega) (by rw [ebr, hv]; split <;> (try split) <;> omega)) ⟨rfl, rfl, rfl, trivial⟩
      · refine vi_iconst 20 rfl ?_
        refine vi_goto 21 rfl ?_
        refine vi_iadd 23 rfl ?_
        refine vi_istore_n 24 rfl rfl ?_
        refine vi_iinc 25 rfl rfl rfl ?_
        refine vi_goto 26 rfl ?_
        exact vi_lc (ih (i + 1) (by omega) (by omega) _ (by omega) (by rw [ebr, hv]; split <;> (try split) <;> omega)) ⟨rfl, rfl, rfl, trivial⟩
  refine vi_aload_n 0 rfl rfl ?_
  refine vi_get 1 rfl f_X12_88 hrf rfl rfl ?_
  refine vi_if_le 2 rfl (by omega) (fun c_4 => ?_) (fun c_4 => ?_)
  · refine vi_iconst 5 rfl ?_
    refine vi_istore_n 6 rfl rfl ?_
    refine vi_iconst 7 rfl ?_
    refine vi_istore_n 8 rfl rfl ?_
    exact vi_lc (lp 0 (by omega) _ (by omega) (by first | (rw [if_neg (by omega)]; rfl) | (rw [if_pos (by omega)]; rfl))) ⟨rfl, rfl, rfl, trivial⟩
  · refine vi_iconst 3 rfl ?_
    refine vi_goto 4 rfl ?_
    refine vi_istore_n 6 rfl rfl ?_
    refine vi_iconst 7 rfl ?_
    refine vi_istore_n 8 rfl rfl ?_
    exact vi_lc (lp 0 (by omega) _ (by omega) (by first | (rw [if_neg (by omega)]; rfl) | (rw [if_pos (by omega)]; rfl))) ⟨rfl, rfl, rfl, trivial⟩
theorem sp_X12_rule (hrf : wb_Rf w n sd sf cnt ru ld mo db tm tt tr L H fi ch) (h99 : w 99 = aI 50 sg) (h100 : w 100 = aI 50 rs) (hc : 0 ≤ cnt ∧ cnt ≤ 50) (hsg : ∀ i, 0 ≤ i → i < cnt → 33 ≤ sg i ∧ sg i ≤ 126)
    (k5 : wb_fa sg cnt ≠ -6 → Q (some (.int (wb_i (-5)))) N w) (k1 : ∀ (w' : wb_W), wb_fa sg cnt = -6 → wb_Rf w' n sd sf 0 cnt 0 mo db tm tt tr L H fi ch → w' 100 = aI 50 (fun j => if 0 ≤ j ∧ j < cnt then sg j else rs j) → (∀ k, k ≠ 96 → k ≠ 100 → w' k = w k) → Q (some (.int (wb_i (wb_bo1 sg cnt)))) N w') : wb_M G M_X12_rule [.ref 96] N w Q := by
  unfold wb_M
  have hrf' := hrf
  unfold wb_Rf at hrf'
  have hfr := wb_fa_rg (sg := sg) hc
  have ebo : wb_bo1 (fun j => if 0 ≤ j ∧ j < cnt then sg j else rs j) cnt = wb_bo1 sg cnt := by
    unfold wb_bo1
    split
    · congr 1; unfold wb_br1; exact wb_ct_congr _ (fun i i1 i2 => decide_eq_decide.mpr (by dsimp only; rw [if_pos (by omega)]))
    · rfl
  have lp : wb_fa sg cnt = -6 → ∀ i, i ≤ cnt → ∀ (w1 : wb_W) (r1 : Int → Int), 0 ≤ i → (∀ j, r1 j = if 0 ≤ j ∧ j < i then sg j else rs j) → wb_Rf w1 n sd sf cnt cnt ld mo db tm tt tr L H fi ch → w1 100 = aI 50 r1 → (∀ k, k ≠ 96 → k ≠ 100 → w1 k = w k) → wb_V G M_X12_rule 20 [(0, .ref 96), (1, .int (wb_i i))] [] N w1 0 0 Q := by
    intro hfa
    refine wb_up cnt _ ?_
    intro i ih hi w1 r1 hi0 hr1 hrf1 h1001 ef
    have hrf1' := hrf1
    unfold wb_Rf at hrf1'
    have h991 := (ef 99 (by omega) (by omega)).trans h99
    refine vi_iload_n 11 rfl rfl ?_
    refine vi_aload_n 12 rfl rfl ?_
    refine vi_get 13 rfl f_X12_82 hrf1' rfl rfl ?_
    refine vi_icmp_ge 14 rfl (by omega) (by omega) (fun c_25 => ?_) (fun c_25 => ?_)
    · refine vi_aload_n 25 rfl rfl ?_
      refine vi_iconst 26 rfl ?_
      refine vi_put 27 rfl f_X12_82 hrf1' rfl rfl rfl rfl ?_
      refine vi_aload_n 28 rfl rfl ?_
      refine vi_iconst 29 rfl ?_
      refine vi_put 30 rfl f_X12_63 wb_ups rfl rfl rfl rfl ?_
      have er : r1 = (fun j => if 0 ≤ j ∧ j < cnt then sg j else rs j) := funext (fun j => by rw [hr1 j, show i = cnt by omega])
      subst er
      refine vi_aload_n 31 rfl rfl ?_
      refine vi_V0 32 ok_X12_boths rfl c_X12_91 wb_ups rfl rfl ?_
      refine sp_X12_boths (rs := fun j => if 0 ≤ j ∧ j < cnt then sg j else rs j) (show wb_Rf _ n sd sf 0 cnt 0 mo db tm tt tr L H fi ch from wb_ups) (by rw [wb_upn (by omega), wb_upn (by omega)]; exact h1001) hc (fun i i1 i2 => by rw [if_pos (by omega)]; exact hsg i i1 i2) ?_
      exact vi_ireturn 33 rfl rfl rfl (Nat.zero_le _) (Nat.zero_le _) (wb_e ebo (k1 _ hfa wb_ups (by rw [wb_upn (by omega), wb_upn (by omega)]; exact h1001) (fun k p1 p2 => by rw [wb_upn p1, wb_upn p1]; exact ef k p1 p2)))
    · refine vi_aload_n 15 rfl rfl ?_
      refine vi_get 16 rfl f_X12_26 hrf1' rfl rfl ?_
      refine vi_iload_n 17 rfl rfl ?_
      refine vi_aload_n 18 rfl rfl ?_
      refine vi_get 19 rfl f_X12_23 hrf1' rfl rfl ?_
      refine vi_iload_n 20 rfl rfl ?_
      refine vi_iald 21 rfl h991 (by omega) ?_
      refine vi_iast 22 rfl h1001 (by omega) ?_
      refine vi_iinc 23 rfl rfl rfl ?_
      refine vi_goto 24 rfl ?_
      refine vi_lc (ih (i + 1) (by omega) (by omega) _ _ (by omega) ?_ (by unfold wb_Rf; rw [wb_upn (by omega)]; exact hrf1') wb_ups (fun k p1 p2 => by rw [wb_upn p2]; exact ef k p1 p2)) ⟨rfl, rfl, trivial⟩
      intro j
      by_cases hj : j = i
      · subst hj; rw [wb_us, if_pos (by omega)]
      · rw [wb_un hj, hr1]; by_cases hq : 0 ≤ j ∧ j < i
        · rw [if_pos hq, if_pos (by omega)]
        · rw [if_neg hq, if_neg (by omega)]
  refine vi_aload_n 0 rfl rfl ?_
  refine vi_V0 1 ok_X12_faultOf rfl c_X12_85 hrf' rfl rfl ?_
  refine sp_X12_faultOf hrf h99 hc hsg ?_
  refine vi_if_lt 2 rfl (by omega) (fun c_4 => ?_) (fun c_4 => ?_)
  · refine vi_aload_n 5 rfl rfl ?_
    refine vi_aload_n 6 rfl rfl ?_
    refine vi_get 7 rfl f_X12_82 hrf' rfl rfl ?_
    refine vi_put 8 rfl f_X12_88 hrf' rfl rfl rfl rfl ?_
    refine vi_iconst 9 rfl ?_
    refine vi_istore_n 10 rfl rfl ?_
    exact vi_lc (lp (by omega) 0 (by omega) _ rs (by omega) (fun j => by rw [if_neg (by omega)]) wb_ups (by rw [wb_upn (by omega)]; exact h100) (fun k p1 p2 => wb_upn p1)) ⟨rfl, rfl, trivial⟩
  · refine vi_bipush 3 rfl (by decide) ?_
    exact vi_ireturn 4 rfl rfl rfl (Nat.zero_le _) (Nat.zero_le _) (k5 (by omega))
theorem sp_X12_free (hrf : wb_Rf w n sd sf cnt ru ld mo db tm tt tr L H fi ch) (h100 : w 100 = aI 50 rs) (hru : 0 ≤ ru ∧ ru ≤ 50) (hrs : ∀ i, 0 ≤ i → i < ru → 33 ≤ rs i ∧ rs i ≤ 126) (hQ : ∀ w', wb_Rf w' n sd sf cnt 0 0 mo db tm tt tr L H fi ch → (∀ k, k ≠ 96 → w' k = w k) → Q (some (.int (wb_i (wb_bo1 rs ru)))) N w') : wb_M G M_X12_free [.ref 96] N w Q := by
  unfold wb_M
  have hrf' := hrf
  unfold wb_Rf at hrf'
  refine vi_aload_n 0 rfl rfl ?_
  refine vi_V0 1 ok_X12_boths rfl c_X12_91 hrf' rfl rfl ?_
  refine sp_X12_boths hrf h100 hru hrs ?_
  refine vi_istore_n 2 rfl rfl ?_
  refine vi_aload_n 3 rfl rfl ?_
  refine vi_iconst 4 rfl ?_
  refine vi_put 5 rfl f_X12_88 hrf' rfl rfl rfl rfl ?_
  refine vi_aload_n 6 rfl rfl ?_
  refine vi_iconst 7 rfl ?_
  refine vi_put 8 rfl f_X12_63 wb_ups rfl rfl rfl rfl ?_
  refine vi_iload_n 9 rfl rfl ?_
  exact vi_ireturn 10 rfl rfl rfl (Nat.zero_le _) (Nat.zero_le _) (hQ _ wb_ups (fun k p1 => by rw [wb_upn p1, wb_upn p1]))
end WBS53
