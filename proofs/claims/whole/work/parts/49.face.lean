/-! ===== the class's face: the book, the signs ===== -/
abbrev wb_X3 (w : wb_W) : Prop := w 3 = .inr (11, [.ref 4, .ref 9, .ref 20, .ref 21, .ref 29, .ref 81, .ref 82, .ref 89])
theorem wb_xc {G : wb_G} {j : Int} (hj : 0 ≤ j ∧ j < 9) : wb_xF G 2 j.toNat = wb_i (wb_mo j) := by
  show wb_cm j.toNat = _
  rcases (show j = 0 ∨ j = 1 ∨ j = 2 ∨ j = 3 ∨ j = 4 ∨ j = 5 ∨ j = 6 ∨ j = 7 ∨ j = 8 by omega) with rfl | rfl | rfl | rfl | rfl | rfl | rfl | rfl | rfl <;> decide
def wb_sq (j : Int) : Int := if j < 2 then 99 else if j = 2 then 199 else 5
theorem wb_xs {G : wb_G} {j : Int} (hj : 0 ≤ j ∧ j < 4) : wb_xF G 1 j.toNat = wb_i (wb_sq j) := by
  show wb_sm j.toNat = _
  rcases (show j = 0 ∨ j = 1 ∨ j = 2 ∨ j = 3 by omega) with rfl | rfl | rfl | rfl <;> decide
theorem wb_mo_rg (j : Int) : 0 ≤ wb_mo j ∧ wb_mo j ≤ 99 := by unfold wb_mo; split <;> (try split) <;> omega
theorem wb_sq_rg (j : Int) : 0 ≤ wb_sq j ∧ wb_sq j ≤ 199 := by unfold wb_sq; split <;> (try split) <;> omega
def wb_zc (n : Int) (c : Int → Int) : Int → Int := fun i => if 9 * n ≤ i ∧ i < 9 * n + 9 then 0 else c i
/-- the cells with a month more -/
def wb_mc (n : Int) (c : Int → Int) (a b d v p q : Int) : Int → Int := wb_u (wb_u (wb_u (wb_u (wb_u (wb_u (wb_zc n c) (9 * n + 0) a) (9 * n + 1) b) (9 * n + 2) d) (9 * n + 3) v) (9 * n + 4) p) (9 * n + 5) q
abbrev wb_mk6 (a b d v p q : Int) : Prop := (0 ≤ a ∧ a ≤ 99) ∧ (0 ≤ b ∧ b ≤ 99) ∧ (0 ≤ d ∧ d ≤ 99) ∧ (0 ≤ v ∧ v ≤ 5) ∧ (0 ≤ p ∧ p ≤ 20) ∧ (0 ≤ q ∧ q ≤ 20)
theorem wb_BR_set {n : Int} {c s : Int → Int} {sd sf m j v : Int} (h : wb_BR n c s sd sf) (hj : 0 ≤ j ∧ j < 9) (hv : 0 ≤ v ∧ v ≤ wb_mo j) : wb_BR n (wb_u c (9 * m + j) v) s sd sf := by
  obtain ⟨r1, r2, r3, r4, r5, r6, r7, r8, r9⟩ := h
  have hmo := wb_mo_rg j
  refine ⟨r1, fun i => ?_, r3, r4, r5, fun i => ?_, fun i => ⟨?_, ?_⟩, r8, r9⟩
  · unfold wb_u; split
    · omega
    · exact r2 i
  · unfold wb_u; split
    · rename_i e; rw [show j = 3 by omega] at hv; exact hv.2
    · exact r6 i
  · unfold wb_u; split
    · rename_i e; rw [show j = 4 by omega] at hv; exact hv.2
    · exact (r7 i).1
  · unfold wb_u; split
    · rename_i e; rw [show j = 5 by omega] at hv; exact hv.2
    · exact (r7 i).2
theorem wb_BR_z {n : Int} {c s : Int → Int} {sd sf : Int} (h : wb_BR n c s sd sf) (hn : n < 8) : wb_BR (n + 1) (wb_zc n c) s sd sf := by
  obtain ⟨r1, r2, r3, r4, r5, r6, r7, r8, r9⟩ := h
  refine ⟨by omega, fun i => ?_, r3, r4, r5, fun i => ?_, fun i => ⟨?_, ?_⟩, r8, r9⟩ <;> unfold wb_zc <;> split
  · omega
  · exact r2 i
  · omega
  · exact r6 i
  · omega
  · exact (r7 i).1
  · omega
  · exact (r7 i).2
theorem wb_BR_mc {n : Int} {c s : Int → Int} {sd sf a b d v p q : Int} (h : wb_BR n c s sd sf) (hn : n < 8) (hk : wb_mk6 a b d v p q) : wb_BR (n + 1) (wb_mc n c a b d v p q) s sd sf := by
  obtain ⟨h1, h2, h3, h4, h5, h6⟩ := hk
  exact wb_BR_set (wb_BR_set (wb_BR_set (wb_BR_set (wb_BR_set (wb_BR_set (wb_BR_z h hn) (by omega) h1) (by omega) h2) (by omega) h3) (by omega) h4) (by omega) h5) (by omega) h6
theorem wb_BR_st {n : Int} {c s : Int → Int} {sd sf t j v : Int} (h : wb_BR n c s sd sf) (hj : 0 ≤ j ∧ j < 4) (hv : 0 ≤ v ∧ v ≤ wb_sq j) (h0 : j = 0 → v ≤ s (4 * t + 1)) (h1 : j = 1 → s (4 * t) ≤ v) : wb_BR n c (wb_u s (4 * t + j) v) sd sf := by
  obtain ⟨r1, r2, r3, r4, r5, r6, r7, r8, r9⟩ := h
  have hsq := wb_sq_rg j
  refine ⟨r1, r2, fun i => ?_, r4, r5, r6, r7, fun u => ?_, r9⟩
  · unfold wb_u; split
    · omega
    · exact r3 i
  · have hu := r8 u
    have hq : (j = 0 → wb_sq j = 99) ∧ (j = 1 → wb_sq j = 99) ∧ (j = 3 → wb_sq j = 5) := ⟨fun e => by rw [e]; rfl, fun e => by rw [e]; rfl, fun e => by rw [e]; rfl⟩
    unfold wb_u
    by_cases e : u = t
    · subst e
      rcases (show j = 0 ∨ j = 1 ∨ j = 2 ∨ j = 3 by omega) with e | e | e | e <;> subst e
      · have := h0 rfl
        rw [if_pos (by omega), if_neg (by omega), if_neg (by omega)]; omega
      · have := h1 rfl
        rw [if_neg (by omega), if_pos (by omega), if_neg (by omega)]; omega
      · rw [if_neg (by omega), if_neg (by omega), if_neg (by omega)]; omega
      · rw [if_neg (by omega), if_neg (by omega), if_pos (by omega)]; omega
    · rw [if_neg (by omega), if_neg (by omega), if_neg (by omega)]; exact hu
section WBS49
variable {G : wb_G} {N : Nat} {w : wb_W} {Q : Option Value → Nat → wb_W → Prop} {b b2 : Nat}
variable {n : Int} {c s : Int → Int} {sd sf bo tu : Int} {g : Int → Int64} {K : Int → Bool}
theorem sp_X0_copy {n2 : Int} {c2 s2 : Int → Int} {sd2 sf2 bo2 tu2 : Int} {g2 : Int → Int64} (hb : wb_Bk w b n c s sd sf bo tu g) (hb2 : wb_Bk w b2 n2 c2 s2 sd2 sf2 bo2 tu2 g2) (hap : b + 5 ≤ b2 ∨ b2 + 5 ≤ b)
    (hQ : ∀ (w' : wb_W) (g' : Int → Int64), (∀ p, 0 ≤ p → p < 250 → g' p = g2 p) → wb_Bk w' b n2 (fun p => if 0 ≤ p ∧ p < 72 then c2 p else c p) (fun p => if 0 ≤ p ∧ p < 12 then s2 p else s p) sd2 sf2 bo2 (tu + 1) g' → (∀ k, (k < b ∨ b + 5 ≤ k) → w' k = w k) → Q none N w') : wb_M G M_X0_copy [.ref b, .ref b2] N w Q := by
  obtain ⟨h0, h1, h2, h3, h4⟩ := hb
  obtain ⟨k0, k1, k2, k3, k4⟩ := hb2
  unfold wb_M
  refine vi_aload_n 0 rfl rfl ?_
  refine vi_aload_n 1 rfl rfl ?_
  refine vi_get 2 rfl f_X0_41 k0 rfl rfl ?_
  refine vi_put 3 rfl f_X0_41 h0 rfl rfl rfl rfl ?_
  refine vi_aload_n 4 rfl rfl ?_
  refine vi_get 5 rfl f_X0_9 ((wb_upn (by omega)).trans k0) rfl rfl ?_
  refine vi_iconst 6 rfl ?_
  refine vi_aload_n 7 rfl rfl ?_
  refine vi_get 8 rfl f_X0_9 wb_ups rfl rfl ?_
  refine vi_iconst 9 rfl ?_
  refine vi_aload_n 10 rfl rfl ?_
  refine vi_get 11 rfl f_X0_9 wb_ups rfl rfl ?_
  refine vi_alen 12 rfl ((wb_upn (by omega)).trans h1) rfl ?_
  refine vi_copyI 13 rfl c_X0_44 (n := 72) ((wb_upn (by omega)).trans k1) ((wb_upn (by omega)).trans h1) (by decide) rfl rfl ?_
  refine vi_aload_n 14 rfl rfl ?_
  refine vi_get 15 rfl f_X0_15 (by rw [wb_upn (by omega), wb_upn (by omega)]; exact k0) rfl rfl ?_
  refine vi_iconst 16 rfl ?_
  refine vi_aload_n 17 rfl rfl ?_
  refine vi_get 18 rfl f_X0_15 ((wb_upn (by omega)).trans wb_ups) rfl rfl ?_
  refine vi_iconst 19 rfl ?_
  refine vi_aload_n 20 rfl rfl ?_
  refine vi_get 21 rfl f_X0_15 ((wb_upn (by omega)).trans wb_ups) rfl rfl ?_
  refine vi_alen 22 rfl (by rw [wb_upn (by omega), wb_upn (by omega)]; exact h2) rfl ?_
  refine vi_copyI 23 rfl c_X0_44 (n := 12) (by rw [wb_upn (by omega), wb_upn (by omega)]; exact k2) (by rw [wb_upn (by omega), wb_upn (by omega)]; exact h2) (by decide) rfl rfl ?_
  refine vi_aload_n 24 rfl rfl ?_
  refine vi_aload_n 25 rfl rfl ?_
  refine vi_get 26 rfl f_X0_18 (by rw [wb_upn (by omega), wb_upn (by omega), wb_upn (by omega)]; exact k0) rfl rfl ?_
  refine vi_put 27 rfl f_X0_18 (by rw [wb_upn (by omega), wb_upn (by omega)]; exact wb_ups) rfl rfl rfl rfl ?_
  refine vi_aload_n 28 rfl rfl ?_
  refine vi_aload_n 29 rfl rfl ?_
  refine vi_get 30 rfl f_X0_22 (by rw [wb_upn (by omega), wb_upn (by omega), wb_upn (by omega), wb_upn (by omega)]; exact k0) rfl rfl ?_
  refine vi_put 31 rfl f_X0_22 wb_ups rfl rfl rfl rfl ?_
  refine vi_aload_n 32 rfl rfl ?_
  refine vi_aload_n 33 rfl rfl ?_
  refine vi_get 34 rfl f_X0_50 (by rw [wb_upn (by omega), wb_upn (by omega), wb_upn (by omega), wb_upn (by omega), wb_upn (by omega)]; exact k0) rfl rfl ?_
  refine vi_put 35 rfl f_X0_50 wb_ups rfl rfl rfl rfl ?_
  refine vi_aload_n 36 rfl rfl ?_
  refine vi_get 37 rfl f_X0_28 wb_ups rfl rfl ?_
  refine vi_aload_n 38 rfl rfl ?_
  refine vi_get 39 rfl f_X0_28 (by rw [wb_upu, wb_upu, wb_upn (by omega), wb_upn (by omega), wb_upn (by omega), wb_upn (by omega)]; exact k0) rfl rfl ?_
  refine vi_V1 40 ok_X5_copy rfl c_X0_53 (by rw [wb_upu, wb_upu, wb_upn (by omega), wb_upn (by omega), wb_upn (by omega), wb_upn (by omega)]; exact h3) rfl rfl ?_
  refine sp_X5_copy (b := b + 3) (b2 := b2 + 3) ⟨by rw [wb_upu, wb_upu, wb_upn (by omega), wb_upn (by omega), wb_upn (by omega), wb_upn (by omega)]; exact h3, by rw [wb_upu, wb_upu, wb_upn (by omega), wb_upn (by omega), wb_upn (by omega), wb_upn (by omega)]; exact h4⟩ ⟨by rw [wb_upu, wb_upu, wb_upn (by omega), wb_upn (by omega), wb_upn (by omega), wb_upn (by omega)]; exact k3, by rw [wb_upu, wb_upu, wb_upn (by omega), wb_upn (by omega), wb_upn (by omega), wb_upn (by omega)]; exact k4⟩ (fun w3 g3 hg3 hm3 hf3 => ?_)
  have hb0 := (hf3 b (by omega)).trans wb_ups
  refine vi_aload_n 41 rfl rfl ?_
  refine vi_dup 42 rfl rfl ?_
  refine vi_get 43 rfl f_X0_32 hb0 rfl rfl ?_
  refine vi_iconst 44 rfl ?_
  refine vi_iadd 45 rfl ?_
  refine vi_put 46 rfl f_X0_32 hb0 rfl rfl rfl rfl ?_
  exact vi_return 47 rfl rfl (Nat.zero_le _) (Nat.zero_le _) (hQ _ g3 hg3 ⟨wb_ups, by rw [wb_upn (by omega), hf3 _ (by omega), wb_upu, wb_upu, wb_upn (by omega), wb_upn (by omega)]; exact wb_ups, by rw [wb_upn (by omega), hf3 _ (by omega), wb_upu, wb_upu, wb_upn (by omega)]; exact wb_ups, by rw [wb_upn (by omega)]; exact hm3.1, by rw [wb_upn (by omega)]; exact hm3.2⟩ (fun k hk => by rw [wb_upn (by omega), hf3 _ (by omega), wb_upu, wb_upu, wb_upn (by omega), wb_upn (by omega), wb_upn (by omega), wb_upn (by omega)]))
theorem sp_X11_isMonth {m : Int} (hx3 : wb_X3 w) (hbk : wb_Bk w 4 n c s sd sf bo tu g) (hn : 0 ≤ n ∧ n ≤ 8) (hm : -2147483648 ≤ m ∧ m ≤ 2147483647) (k1 : (0 ≤ m ∧ m < n) → Q (some (.int (wb_i 1))) N w) (k0 : ¬ (0 ≤ m ∧ m < n) → Q (some (.int (wb_i 0))) N w) : wb_M G M_X11_isMonth [.ref 3, .int (wb_i m)] N w Q := by
  unfold wb_M
  refine vi_iload_n 0 rfl rfl ?_
  refine vi_if_lt 1 rfl (by omega) (fun c_1 => ?_) (fun c_1 => ?_)
  · refine vi_iconst 9 rfl ?_
    exact vi_ireturn 10 rfl rfl rfl (Nat.zero_le _) (Nat.zero_le _) (k0 (by omega))
  · refine vi_iload_n 2 rfl rfl ?_
    refine vi_aload_n 3 rfl rfl ?_
    refine vi_get 4 rfl f_X11_10 hx3 rfl rfl ?_
    refine vi_get 5 rfl f_X11_71 hbk.1 rfl rfl ?_
    refine vi_icmp_ge 6 rfl (by omega) (by omega) (fun c_12 => ?_) (fun c_12 => ?_)
    · refine vi_iconst 9 rfl ?_
      exact vi_ireturn 10 rfl rfl rfl (Nat.zero_le _) (Nat.zero_le _) (k0 (by omega))
    · refine vi_iconst 7 rfl ?_
      refine vi_goto 8 rfl ?_
      exact vi_ireturn 10 rfl rfl rfl (Nat.zero_le _) (Nat.zero_le _) (k1 (by omega))
theorem sp_X11_month {a b d v p q : Int} (hx3 : wb_X3 w) (hbk : wb_Bk w 4 n c s sd sf bo tu g) (hR : wb_BR n c s sd sf) (ha : -2147483648 ≤ a ∧ a ≤ 2147483647) (hb : -2147483648 ≤ b ∧ b ≤ 2147483647) (hd : -2147483648 ≤ d ∧ d ≤ 2147483647) (hv : -2147483648 ≤ v ∧ v ≤ 2147483647) (hp : -2147483648 ≤ p ∧ p ≤ 2147483647) (hq : -2147483648 ≤ q ∧ q ≤ 2147483647)
    (k2 : ¬ wb_mk6 a b d v p q → Q (some (.int (wb_i (-2)))) N w) (k4 : wb_mk6 a b d v p q → n = 8 → Q (some (.int (wb_i (-4)))) N w)
    (k1 : ∀ w', wb_mk6 a b d v p q → n < 8 → wb_Bk w' 4 (n + 1) (wb_mc n c a b d v p q) s sd sf bo (tu + 7) g → (∀ k, (k < 4 ∨ 9 ≤ k) → w' k = w k) → Q (some (.int (wb_i n))) N w') : wb_M G M_X11_month [.ref 3, .int (wb_i a), .int (wb_i b), .int (wb_i d), .int (wb_i v), .int (wb_i p), .int (wb_i q)] N w Q := by
  unfold wb_M
  have hn := hR.1
  have hx9 : wb_xL G 2 = 9 := rfl
  have m0 : wb_mo 0 = 99 := rfl
  have m1 : wb_mo 1 = 99 := rfl
  have m2 : wb_mo 2 = 99 := rfl
  have m3 : wb_mo 3 = 5 := rfl
  have m4 : wb_mo 4 = 20 := rfl
  have m5 : wb_mo 5 = 20 := rfl
  have tl : wb_mk6 a b d v p q → wb_V G M_X11_month 102 [(0, .ref 3), (1, .int (wb_i a)), (2, .int (wb_i b)), (3, .int (wb_i d)), (4, .int (wb_i v)), (5, .int (wb_i p)), (6, .int (wb_i q))] [] N w 0 0 Q := by
    intro hok
    refine vi_aload_n 50 rfl rfl ?_
    refine vi_get 51 rfl f_X11_10 hx3 rfl rfl ?_
    refine vi_get 52 rfl f_X11_71 hbk.1 rfl rfl ?_
    refine vi_bipush 53 rfl (by decide) ?_
    refine vi_icmp_lt 54 rfl (by omega) (by omega) (fun c_111 => ?_) (fun c_111 => ?_)
    · refine vi_aload_n 57 rfl rfl ?_
      refine vi_get 58 rfl f_X11_10 hx3 rfl rfl ?_
      refine vi_V0 59 ok_X0_addMonth rfl c_X11_75 hbk.1 rfl rfl ?_
      refine sp_X0_addMonth hbk (by omega) (fun w2 c2 hc2 hb2 hf2 => ?_)
      have ec : c2 = wb_zc n c := funext hc2
      subst ec
      have x2 : wb_X3 w2 := (hf2 3 (by omega)).trans hx3
      refine vi_istore 60 rfl rfl ?_
      refine vi_aload_n 61 rfl rfl ?_
      refine vi_get 62 rfl f_X11_10 x2 rfl rfl ?_
      refine vi_iload 63 rfl rfl ?_
      refine vi_iconst 64 rfl ?_
      refine vi_iload_n 65 rfl rfl ?_
      refine vi_V3 66 ok_X0_setCell rfl c_X11_79 hb2.1 rfl rfl ?_
      refine sp_X0_setCell hb2 (by omega) (by omega) (by omega) (fun w3 hb3 hf3 => ?_)
      have x3 : wb_X3 w3 := (hf3 3 (by omega)).trans x2
      refine vi_aload_n 67 rfl rfl ?_
      refine vi_get 68 rfl f_X11_10 x3 rfl rfl ?_
      refine vi_iload 69 rfl rfl ?_
      refine vi_iconst 70 rfl ?_
      refine vi_iload_n 71 rfl rfl ?_
      refine vi_V3 72 ok_X0_setCell rfl c_X11_79 hb3.1 rfl rfl ?_
      refine sp_X0_setCell hb3 (by omega) (by omega) (by omega) (fun w4 hb4 hf4 => ?_)
      have x4 : wb_X3 w4 := (hf4 3 (by omega)).trans x3
      refine vi_aload_n 73 rfl rfl ?_
      refine vi_get 74 rfl f_X11_10 x4 rfl rfl ?_
      refine vi_iload 75 rfl rfl ?_
      refine vi_iconst 76 rfl ?_
      refine vi_iload_n 77 rfl rfl ?_
      refine vi_V3 78 ok_X0_setCell rfl c_X11_79 hb4.1 rfl rfl ?_
      refine sp_X0_setCell hb4 (by omega) (by omega) (by omega) (fun w5 hb5 hf5 => ?_)
      have x5 : wb_X3 w5 := (hf5 3 (by omega)).trans x4
      refine vi_aload_n 79 rfl rfl ?_
      refine vi_get 80 rfl f_X11_10 x5 rfl rfl ?_
      refine vi_iload 81 rfl rfl ?_
      refine vi_iconst 82 rfl ?_
      refine vi_iload 83 rfl rfl ?_
      refine vi_V3 84 ok_X0_setCell rfl c_X11_79 hb5.1 rfl rfl ?_
      refine sp_X0_setCell hb5 (by omega) (by omega) (by omega) (fun w6 hb6 hf6 => ?_)
      have x6 : wb_X3 w6 := (hf6 3 (by omega)).trans x5
      refine vi_aload_n 85 rfl rfl ?_
      refine vi_get 86 rfl f_X11_10 x6 rfl rfl ?_
      refine vi_iload 87 rfl rfl ?_
      refine vi_iconst 88 rfl ?_
      refine vi_iload 89 rfl rfl ?_
      refine vi_V3 90 ok_X0_setCell rfl c_X11_79 hb6.1 rfl rfl ?_
      refine sp_X0_setCell hb6 (by omega) (by omega) (by omega) (fun w7 hb7 hf7 => ?_)
      have x7 : wb_X3 w7 := (hf7 3 (by omega)).trans x6
      refine vi_aload_n 91 rfl rfl ?_
      refine vi_get 92 rfl f_X11_10 x7 rfl rfl ?_
      refine vi_iload 93 rfl rfl ?_
      refine vi_iconst 94 rfl ?_
      refine vi_iload 95 rfl rfl ?_
      refine vi_V3 96 ok_X0_setCell rfl c_X11_79 hb7.1 rfl rfl ?_
      refine sp_X0_setCell hb7 (by omega) (by omega) (by omega) (fun w8 hb8 hf8 => ?_)
      refine vi_iload 97 rfl rfl ?_
      exact vi_ireturn 98 rfl rfl rfl (Nat.zero_le _) (Nat.zero_le _) (k1 w8 hok (by omega) (by rw [show tu + 7 = tu + 1 + 1 + 1 + 1 + 1 + 1 + 1 by omega]; exact hb8) (fun k hk => (hf8 k (by omega)).trans ((hf7 k (by omega)).trans ((hf6 k (by omega)).trans ((hf5 k (by omega)).trans ((hf4 k (by omega)).trans ((hf3 k (by omega)).trans (hf2 k (by omega)))))))))
    · refine vi_bipush 55 rfl (by decide) ?_
      exact vi_ireturn 56 rfl rfl rfl (Nat.zero_le _) (Nat.zero_le _) (k4 hok (by omega))
  refine vi_iload_n 0 rfl rfl ?_
  refine vi_gets 1 rfl st_X11_63 (Or.inr ⟨rfl, rfl⟩) ?_
  refine vi_iconst 2 rfl ?_
  refine vi_xald 3 rfl rfl (by omega) ?_
  rw [wb_xc (by omega)]
  refine vi_S2 4 ok_X11_within rfl c_X11_67 rfl ?_
  refine sp_X11_within (by omega) (by omega) (fun b_6 => ?_) (fun b_6 => ?_)
  · refine vi_if_eq 5 rfl (by omega) (fun c => absurd c (by decide)) (fun _ => ?_)
    refine vi_iload_n 6 rfl rfl ?_
    refine vi_gets 7 rfl st_X11_63 (Or.inr ⟨rfl, rfl⟩) ?_
    refine vi_iconst 8 rfl ?_
    refine vi_xald 9 rfl rfl (by omega) ?_
    rw [wb_xc (by omega)]
    refine vi_S2 10 ok_X11_within rfl c_X11_67 rfl ?_
    refine sp_X11_within (by omega) (by omega) (fun b_18 => ?_) (fun b_18 => ?_)
    · refine vi_if_eq 11 rfl (by omega) (fun c => absurd c (by decide)) (fun _ => ?_)
      refine vi_iload_n 12 rfl rfl ?_
      refine vi_gets 13 rfl st_X11_63 (Or.inr ⟨rfl, rfl⟩) ?_
      refine vi_iconst 14 rfl ?_
      refine vi_xald 15 rfl rfl (by omega) ?_
      rw [wb_xc (by omega)]
      refine vi_S2 16 ok_X11_within rfl c_X11_67 rfl ?_
      refine sp_X11_within (by omega) (by omega) (fun b_30 => ?_) (fun b_30 => ?_)
      · refine vi_if_eq 17 rfl (by omega) (fun c => absurd c (by decide)) (fun _ => ?_)
        refine vi_iconst 18 rfl ?_
        refine vi_goto 19 rfl ?_
        refine vi_istore 21 rfl rfl ?_
        refine vi_iload 22 rfl rfl ?_
        refine vi_gets 23 rfl st_X11_63 (Or.inr ⟨rfl, rfl⟩) ?_
        refine vi_iconst 24 rfl ?_
        refine vi_xald 25 rfl rfl (by omega) ?_
        rw [wb_xc (by omega)]
        refine vi_S2 26 ok_X11_within rfl c_X11_67 rfl ?_
        refine sp_X11_within (by omega) (by omega) (fun b_50 => ?_) (fun b_50 => ?_)
        · refine vi_if_eq 27 rfl (by omega) (fun c => absurd c (by decide)) (fun _ => ?_)
          refine vi_iload 28 rfl rfl ?_
          refine vi_gets 29 rfl st_X11_63 (Or.inr ⟨rfl, rfl⟩) ?_
          refine vi_iconst 30 rfl ?_
          refine vi_xald 31 rfl rfl (by omega) ?_
          rw [wb_xc (by omega)]
          refine vi_S2 32 ok_X11_within rfl c_X11_67 rfl ?_
          refine sp_X11_within (by omega) (by omega) (fun b_63 => ?_) (fun b_63 => ?_)
          · refine vi_if_eq 33 rfl (by omega) (fun c => absurd c (by decide)) (fun _ => ?_)
            refine vi_iconst 34 rfl ?_
            refine vi_goto 35 rfl ?_
            refine vi_istore 37 rfl rfl ?_
            refine vi_iload 38 rfl rfl ?_
            refine vi_if_eq 39 rfl (by omega) (fun c => absurd c (by decide)) (fun _ => ?_)
            refine vi_iload 40 rfl rfl ?_
            refine vi_if_eq 41 rfl (by omega) (fun c => absurd c (by decide)) (fun _ => ?_)
            refine vi_iload 42 rfl rfl ?_
            refine vi_gets 43 rfl st_X11_63 (Or.inr ⟨rfl, rfl⟩) ?_
            refine vi_iconst 44 rfl ?_
            refine vi_xald 45 rfl rfl (by omega) ?_
            rw [wb_xc (by omega)]
            refine vi_S2 46 ok_X11_within rfl c_X11_67 rfl ?_
            refine sp_X11_within (by omega) (by omega) (fun b_93 => ?_) (fun b_93 => ?_)
            · refine vi_if_ne 47 rfl (by omega) (fun _ => ?_) (fun c => absurd c (by decide))
              exact vi_lc (tl (by omega)) ⟨rfl, rfl, rfl, rfl, rfl, rfl, rfl, trivial⟩
            · refine vi_if_ne 47 rfl (by omega) (fun c => absurd c (by decide)) (fun _ => ?_)
              refine vi_bipush 48 rfl (by decide) ?_
              exact vi_ireturn 49 rfl rfl rfl (Nat.zero_le _) (Nat.zero_le _) (k2 (by omega))
          · refine vi_if_eq 33 rfl (by omega) (fun _ => ?_) (fun c => absurd c (by decide))
            refine vi_iconst 36 rfl ?_
            refine vi_istore 37 rfl rfl ?_
            refine vi_iload 38 rfl rfl ?_
            refine vi_if_eq 39 rfl (by omega) (fun c => absurd c (by decide)) (fun _ => ?_)
            refine vi_iload 40 rfl rfl ?_
            refine vi_if_eq 41 rfl (by omega) (fun _ => ?_) (fun c => absurd c (by decide))
            refine vi_bipush 48 rfl (by decide) ?_
            exact vi_ireturn 49 rfl rfl rfl (Nat.zero_le _) (Nat.zero_le _) (k2 (by omega))
        · refine vi_if_eq 27 rfl (by omega) (fun _ => ?_) (fun c => absurd c (by decide))
          refine vi_iconst 36 rfl ?_
          refine vi_istore 37 rfl rfl ?_
          refine vi_iload 38 rfl rfl ?_
          refine vi_if_eq 39 rfl (by omega) (fun c => absurd c (by decide)) (fun _ => ?_)
          refine vi_iload 40 rfl rfl ?_
          refine vi_if_eq 41 rfl (by omega) (fun _ => ?_) (fun c => absurd c (by decide))
          refine vi_bipush 48 rfl (by decide) ?_
          exact vi_ireturn 49 rfl rfl rfl (Nat.zero_le _) (Nat.zero_le _) (k2 (by omega))
      · refine vi_if_eq 17 rfl (by omega) (fun _ => ?_) (fun c => absurd c (by decide))
        refine vi_iconst 20 rfl ?_
        refine vi_istore 21 rfl rfl ?_
        refine vi_iload 22 rfl rfl ?_
        refine vi_gets 23 rfl st_X11_63 (Or.inr ⟨rfl, rfl⟩) ?_
        refine vi_iconst 24 rfl ?_
        refine vi_xald 25 rfl rfl (by omega) ?_
        rw [wb_xc (by omega)]
        refine vi_S2 26 ok_X11_within rfl c_X11_67 rfl ?_
        refine sp_X11_within (by omega) (by omega) (fun b_50 => ?_) (fun b_50 => ?_)
        · refine vi_if_eq 27 rfl (by omega) (fun c => absurd c (by decide)) (fun _ => ?_)
          refine vi_iload 28 rfl rfl ?_
          refine vi_gets 29 rfl st_X11_63 (Or.inr ⟨rfl, rfl⟩) ?_
          refine vi_iconst 30 rfl ?_
          refine vi_xald 31 rfl rfl (by omega) ?_
          rw [wb_xc (by omega)]
          refine vi_S2 32 ok_X11_within rfl c_X11_67 rfl ?_
          refine sp_X11_within (by omega) (by omega) (fun b_63 => ?_) (fun b_63 => ?_)
          · refine vi_if_eq 33 rfl (by omega) (fun c => absurd c (by decide)) (fun _ => ?_)
            refine vi_iconst 34 rfl ?_
            refine vi_goto 35 rfl ?_
            refine vi_istore 37 rfl rfl ?_
            refine vi_iload 38 rfl rfl ?_
            refine vi_if_eq 39 rfl (by omega) (fun _ => ?_) (fun c => absurd c (by decide))
            refine vi_bipush 48 rfl (by decide) ?_
            exact vi_ireturn 49 rfl rfl rfl (Nat.zero_le _) (Nat.zero_le _) (k2 (by omega))
          · refine vi_if_eq 33 rfl (by omega) (fun _ => ?_) (fun c => absurd c (by decide))
            refine vi_iconst 36 rfl ?_
            refine vi_istore 37 rfl rfl ?_
            refine vi_iload 38 rfl rfl ?_
            refine vi_if_eq 39 rfl (by omega) (fun _ => ?_) (fun c => absurd c (by decide))
            refine vi_bipush 48 rfl (by decide) ?_
            exact vi_ireturn 49 rfl rfl rfl (Nat.zero_le _) (Nat.zero_le _) (k2 (by omega))
        · refine vi_if_eq 27 rfl (by omega) (fun _ => ?_) (fun c => absurd c (by decide))
          refine vi_iconst 36 rfl ?_
          refine vi_istore 37 rfl rfl ?_
          refine vi_iload 38 rfl rfl ?_
          refine vi_if_eq 39 rfl (by omega) (fun _ => ?_) (fun c => absurd c (by decide))
          refine vi_bipush 48 rfl (by decide) ?_
          exact vi_ireturn 49 rfl rfl rfl (Nat.zero_le _) (Nat.zero_le _) (k2 (by omega))
    · refine vi_if_eq 11 rfl (by omega) (fun _ => ?_) (fun c => absurd c (by decide))
      refine vi_iconst 20 rfl ?_
      refine vi_istore 21 rfl rfl ?_
      refine vi_iload 22 rfl rfl ?_
      refine vi_gets 23 rfl st_X11_63 (Or.inr ⟨rfl, rfl⟩) ?_
      refine vi_iconst 24 rfl ?_
      refine vi_xald 25 rfl rfl (by omega) ?_
      rw [wb_xc (by omega)]
      refine vi_S2 26 ok_X11_within rfl c_X11_67 rfl ?_
      refine sp_X11_within (by omega) (by omega) (fun b_50 => ?_) (fun b_50 => ?_)
      · refine vi_if_eq 27 rfl (by omega) (fun c => absurd c (by decide)) (fun _ => ?_)
        refine vi_iload 28 rfl rfl ?_
        refine vi_gets 29 rfl st_X11_63 (Or.inr ⟨rfl, rfl⟩) ?_
        refine vi_iconst 30 rfl ?_
        refine vi_xald 31 rfl rfl (by omega) ?_
        rw [wb_xc (by omega)]
        refine vi_S2 32 ok_X11_within rfl c_X11_67 rfl ?_
        refine sp_X11_within (by omega) (by omega) (fun b_63 => ?_) (fun b_63 => ?_)
        · refine vi_if_eq 33 rfl (by omega) (fun c => absurd c (by decide)) (fun _ => ?_)
          refine vi_iconst 34 rfl ?_
          refine vi_goto 35 rfl ?_
          refine vi_istore 37 rfl rfl ?_
          refine vi_iload 38 rfl rfl ?_
          refine vi_if_eq 39 rfl (by omega) (fun _ => ?_) (fun c => absurd c (by decide))
          refine vi_bipush 48 rfl (by decide) ?_
          exact vi_ireturn 49 rfl rfl rfl (Nat.zero_le _) (Nat.zero_le _) (k2 (by omega))
        · refine vi_if_eq 33 rfl (by omega) (fun _ => ?_) (fun c => absurd c (by decide))
          refine vi_iconst 36 rfl ?_
          refine vi_istore 37 rfl rfl ?_
          refine vi_iload 38 rfl rfl ?_
          refine vi_if_eq 39 rfl (by omega) (fun _ => ?_) (fun c => absurd c (by decide))
          refine vi_bipush 48 rfl (by decide) ?_
          exact vi_ireturn 49 rfl rfl rfl (Nat.zero_le _) (Nat.zero_le _) (k2 (by omega))
      · refine vi_if_eq 27 rfl (by omega) (fun _ => ?_) (fun c => absurd c (by decide))
        refine vi_iconst 36 rfl ?_
        refine vi_istore 37 rfl rfl ?_
        refine vi_iload 38 rfl rfl ?_
        refine vi_if_eq 39 rfl (by omega) (fun _ => ?_) (fun c => absurd c (by decide))
        refine vi_bipush 48 rfl (by decide) ?_
        exact vi_ireturn 49 rfl rfl rfl (Nat.zero_le _) (Nat.zero_le _) (k2 (by omega))
  · refine vi_if_eq 5 rfl (by omega) (fun _ => ?_) (fun c => absurd c (by decide))
    refine vi_iconst 20 rfl ?_
    refine vi_istore 21 rfl rfl ?_
    refine vi_iload 22 rfl rfl ?_
    refine vi_gets 23 rfl st_X11_63 (Or.inr ⟨rfl, rfl⟩) ?_
    refine vi_iconst 24 rfl ?_
    refine vi_xald 25 rfl rfl (by omega) ?_
    rw [wb_xc (by omega)]
    refine vi_S2 26 ok_X11_within rfl c_X11_67 rfl ?_
    refine sp_X11_within (by omega) (by omega) (fun b_50 => ?_) (fun b_50 => ?_)
    · refine vi_if_eq 27 rfl (by omega) (fun c => absurd c (by decide)) (fun _ => ?_)
      refine vi_iload 28 rfl rfl ?_
      refine vi_gets 29 rfl st_X11_63 (Or.inr ⟨rfl, rfl⟩) ?_
      refine vi_iconst 30 rfl ?_
      refine vi_xald 31 rfl rfl (by omega) ?_
      rw [wb_xc (by omega)]
      refine vi_S2 32 ok_X11_within rfl c_X11_67 rfl ?_
      refine sp_X11_within (by omega) (by omega) (fun b_63 => ?_) (fun b_63 => ?_)
      · refine vi_if_eq 33 rfl (by omega) (fun c => absurd c (by decide)) (fun _ => ?_)
        refine vi_iconst 34 rfl ?_
        refine vi_goto 35 rfl ?_
        refine vi_istore 37 rfl rfl ?_
        refine vi_iload 38 rfl rfl ?_
        refine vi_if_eq 39 rfl (by omega) (fun _ => ?_) (fun c => absurd c (by decide))
        refine vi_bipush 48 rfl (by decide) ?_
        exact vi_ireturn 49 rfl rfl rfl (Nat.zero_le _) (Nat.zero_le _) (k2 (by omega))
      · refine vi_if_eq 33 rfl (by omega) (fun _ => ?_) (fun c => absurd c (by decide))
        refine vi_iconst 36 rfl ?_
        refine vi_istore 37 rfl rfl ?_
        refine vi_iload 38 rfl rfl ?_
        refine vi_if_eq 39 rfl (by omega) (fun _ => ?_) (fun c => absurd c (by decide))
        refine vi_bipush 48 rfl (by decide) ?_
        exact vi_ireturn 49 rfl rfl rfl (Nat.zero_le _) (Nat.zero_le _) (k2 (by omega))
    · refine vi_if_eq 27 rfl (by omega) (fun _ => ?_) (fun c => absurd c (by decide))
      refine vi_iconst 36 rfl ?_
      refine vi_istore 37 rfl rfl ?_
      refine vi_iload 38 rfl rfl ?_
      refine vi_if_eq 39 rfl (by omega) (fun _ => ?_) (fun c => absurd c (by decide))
      refine vi_bipush 48 rfl (by decide) ?_
      exact vi_ireturn 49 rfl rfl rfl (Nat.zero_le _) (Nat.zero_le _) (k2 (by omega))
theorem sp_X11_change {m j v : Int} (hx3 : wb_X3 w) (hbk : wb_Bk w 4 n c s sd sf bo tu g) (hR : wb_BR n c s sd sf) (hm : -2147483648 ≤ m ∧ m ≤ 2147483647) (hj : -2147483648 ≤ j ∧ j ≤ 2147483647) (hv : -2147483648 ≤ v ∧ v ≤ 2147483647)
    (ku : ¬ (0 ≤ m ∧ m < n) → Q (some (.int (wb_i (-1)))) N w) (k2 : (0 ≤ m ∧ m < n) → ¬ ((0 ≤ j ∧ j < 9) ∧ 0 ≤ v ∧ v ≤ wb_mo j) → Q (some (.int (wb_i (-2)))) N w)
    (k1 : ∀ w', (0 ≤ m ∧ m < n) → ((0 ≤ j ∧ j < 9) ∧ 0 ≤ v ∧ v ≤ wb_mo j) → wb_Bk w' 4 n (wb_u c (9 * m + j) v) s sd sf bo (tu + 1) g → (∀ k, (k < 4 ∨ 9 ≤ k) → w' k = w k) → Q (some (.int (wb_i (c (9 * m + j))))) N w') : wb_M G M_X11_change [.ref 3, .int (wb_i m), .int (wb_i j), .int (wb_i v)] N w Q := by
  unfold wb_M
  have hn := hR.1
  have hx9 : wb_xL G 2 = 9 := rfl
  have hmo := wb_mo_rg j
  refine vi_aload_n 0 rfl rfl ?_
  refine vi_iload_n 1 rfl rfl ?_
  refine vi_V1 2 ok_X11_isMonth rfl c_X11_83 hx3 rfl rfl ?_
  refine sp_X11_isMonth ‹_› ‹_› (by omega) (by omega) (fun b_2 => ?_) (fun b_2 => ?_)
  · refine vi_if_ne 3 rfl (by omega) (fun _ => ?_) (fun c => absurd c (by decide))
    refine vi_iload_n 6 rfl rfl ?_
    refine vi_if_lt 7 rfl (by omega) (fun c_11 => ?_) (fun c_11 => ?_)
    · refine vi_bipush 17 rfl (by decide) ?_
      exact vi_ireturn 18 rfl rfl rfl (Nat.zero_le _) (Nat.zero_le _) (k2 b_2 (by omega))
    · refine vi_iload_n 8 rfl rfl ?_
      refine vi_bipush 9 rfl (by decide) ?_
      refine vi_icmp_ge 10 rfl (by omega) (by omega) (fun c_17 => ?_) (fun c_17 => ?_)
      · refine vi_bipush 17 rfl (by decide) ?_
        exact vi_ireturn 18 rfl rfl rfl (Nat.zero_le _) (Nat.zero_le _) (k2 b_2 (by omega))
      · refine vi_iload_n 11 rfl rfl ?_
        refine vi_gets 12 rfl st_X11_63 (Or.inr ⟨rfl, rfl⟩) ?_
        refine vi_iload_n 13 rfl rfl ?_
        refine vi_xald 14 rfl rfl (by omega) ?_
        rw [wb_xc (by omega)]
        refine vi_S2 15 ok_X11_within rfl c_X11_67 rfl ?_
        refine sp_X11_within (by omega) (by omega) (fun b_26 => ?_) (fun b_26 => ?_)
        · refine vi_if_ne 16 rfl (by omega) (fun _ => ?_) (fun c => absurd c (by decide))
          refine vi_aload_n 19 rfl rfl ?_
          refine vi_get 20 rfl f_X11_10 hx3 rfl rfl ?_
          refine vi_iload_n 21 rfl rfl ?_
          refine vi_iload_n 22 rfl rfl ?_
          refine vi_V2 23 ok_X0_cell rfl c_X11_87 hbk.1 rfl rfl ?_
          refine sp_X0_cell hbk (by omega) (by omega) ?_
          rw [if_pos (by omega)]
          refine vi_istore 24 rfl rfl ?_
          refine vi_aload_n 25 rfl rfl ?_
          refine vi_get 26 rfl f_X11_10 hx3 rfl rfl ?_
          refine vi_iload_n 27 rfl rfl ?_
          refine vi_iload_n 28 rfl rfl ?_
          refine vi_iload_n 29 rfl rfl ?_
          refine vi_V3 30 ok_X0_setCell rfl c_X11_79 hbk.1 rfl rfl ?_
          refine sp_X0_setCell hbk (by omega) (by omega) (by omega) (fun w2 hb2 hf2 => ?_)
          refine vi_iload 31 rfl rfl ?_
          exact vi_ireturn 32 rfl rfl rfl (Nat.zero_le _) (Nat.zero_le _) (k1 w2 b_2 (by omega) hb2 (fun k hk => hf2 k (by omega)))
        · refine vi_if_ne 16 rfl (by omega) (fun c => absurd c (by decide)) (fun _ => ?_)
          refine vi_bipush 17 rfl (by decide) ?_
          exact vi_ireturn 18 rfl rfl rfl (Nat.zero_le _) (Nat.zero_le _) (k2 b_2 (by omega))
  · refine vi_if_ne 3 rfl (by omega) (fun c => absurd c (by decide)) (fun _ => ?_)
    refine vi_iconst 4 rfl ?_
    exact vi_ireturn 5 rfl rfl rfl (Nat.zero_le _) (Nat.zero_le _) (ku b_2)
theorem sp_X11_about {m j : Int} (hx3 : wb_X3 w) (hbk : wb_Bk w 4 n c s sd sf bo tu g) (hR : wb_BR n c s sd sf) (hm : -2147483648 ≤ m ∧ m ≤ 2147483647) (hj : -2147483648 ≤ j ∧ j ≤ 2147483647)
    (hQ : Q (some (.int (wb_i (if 0 ≤ m ∧ m < n then (if 0 ≤ j ∧ j ≤ 8 then c (9 * m + j) else -2) else -1)))) N w) : wb_M G M_X11_about [.ref 3, .int (wb_i m), .int (wb_i j)] N w Q := by
  unfold wb_M
  have hn := hR.1
  refine vi_aload_n 0 rfl rfl ?_
  refine vi_iload_n 1 rfl rfl ?_
  refine vi_V1 2 ok_X11_isMonth rfl c_X11_83 hx3 rfl rfl ?_
  refine sp_X11_isMonth ‹_› ‹_› (by omega) (by omega) (fun b_2 => ?_) (fun b_2 => ?_)
  · refine vi_if_ne 3 rfl (by omega) (fun _ => ?_) (fun c => absurd c (by decide))
    refine vi_iload_n 6 rfl rfl ?_
    refine vi_bipush 7 rfl (by decide) ?_
    refine vi_S2 8 ok_X11_within rfl c_X11_67 rfl ?_
    refine sp_X11_within (by omega) (by omega) (fun b_13 => ?_) (fun b_13 => ?_)
    · refine vi_if_eq 9 rfl (by omega) (fun c => absurd c (by decide)) (fun _ => ?_)
      refine vi_aload_n 10 rfl rfl ?_
      refine vi_get 11 rfl f_X11_10 hx3 rfl rfl ?_
      refine vi_iload_n 12 rfl rfl ?_
      refine vi_iload_n 13 rfl rfl ?_
      refine vi_V2 14 ok_X0_cell rfl c_X11_87 hbk.1 rfl rfl ?_
      refine sp_X0_cell hbk (by omega) (by omega) ?_
      rw [if_pos (by omega)]
      refine vi_goto 15 rfl ?_
      exact vi_ireturn 17 rfl rfl rfl (Nat.zero_le _) (Nat.zero_le _) (by first | (rw [if_pos b_2, if_pos (by omega)] at hQ; exact hQ) | (rw [if_pos b_2, if_neg (by omega)] at hQ; exact hQ))
    · refine vi_if_eq 9 rfl (by omega) (fun _ => ?_) (fun c => absurd c (by decide))
      refine vi_bipush 16 rfl (by decide) ?_
      exact vi_ireturn 17 rfl rfl rfl (Nat.zero_le _) (Nat.zero_le _) (by first | (rw [if_pos b_2, if_pos (by omega)] at hQ; exact hQ) | (rw [if_pos b_2, if_neg (by omega)] at hQ; exact hQ))
  · refine vi_if_ne 3 rfl (by omega) (fun c => absurd c (by decide)) (fun _ => ?_)
    refine vi_iconst 4 rfl ?_
    exact vi_ireturn 5 rfl rfl rfl (Nat.zero_le _) (Nat.zero_le _) (by rw [if_neg b_2] at hQ; exact hQ)
theorem sp_X11_tear (hx3 : wb_X3 w) (hbk : wb_Bk w 4 n c s sd sf bo tu g) (hR : wb_BR n c s sd sf) (k5 : n = 0 → Q (some (.int (wb_i (-5)))) N w) (k1 : ∀ w', 1 ≤ n → wb_Bk w' 4 (n - 1) c s sd sf bo (tu + 1) g → (∀ k, (k < 4 ∨ 9 ≤ k) → w' k = w k) → Q (some (.int (wb_i (n - 1)))) N w') : wb_M G M_X11_tear [.ref 3] N w Q := by
  unfold wb_M
  have hn := hR.1
  refine vi_aload_n 0 rfl rfl ?_
  refine vi_get 1 rfl f_X11_10 hx3 rfl rfl ?_
  refine vi_get 2 rfl f_X11_71 hbk.1 rfl rfl ?_
  refine vi_if_ne 3 rfl (by omega) (fun c_7 => ?_) (fun c_7 => ?_)
  · refine vi_aload_n 6 rfl rfl ?_
    refine vi_get 7 rfl f_X11_10 hx3 rfl rfl ?_
    refine vi_V0 8 ok_X0_dropMonth rfl c_X11_91 hbk.1 rfl rfl ?_
    refine sp_X0_dropMonth hbk hn (by omega) (fun w2 hb2 hf2 => ?_)
    exact vi_ireturn 9 rfl rfl rfl (Nat.zero_le _) (Nat.zero_le _) (k1 w2 (by omega) hb2 (fun k hk => hf2 k (by omega)))
  · refine vi_bipush 4 rfl (by decide) ?_
    exact vi_ireturn 5 rfl rfl rfl (Nat.zero_le _) (Nat.zero_le _) (k5 (by omega))
abbrev wb_sok (s : Int → Int) (t j v : Int) : Prop := ((0 ≤ j ∧ j < 4) ∧ 0 ≤ v ∧ v ≤ wb_sq j) ∧ (j = 0 → v ≤ s (4 * t + 1)) ∧ (j = 1 → s (4 * t) ≤ v)
theorem sp_X11_stock {t j v : Int} (hx3 : wb_X3 w) (hbk : wb_Bk w 4 n c s sd sf bo tu g) (hR : wb_BR n c s sd sf) (ht : -2147483648 ≤ t ∧ t ≤ 2147483647) (hj : -2147483648 ≤ j ∧ j ≤ 2147483647) (hv : -2147483648 ≤ v ∧ v ≤ 2147483647)
    (ku : ¬ (0 ≤ t ∧ t < 3) → Q (some (.int (wb_i (-1)))) N w) (k2 : (0 ≤ t ∧ t < 3) → ¬ wb_sok s t j v → Q (some (.int (wb_i (-2)))) N w)
    (k1 : ∀ w', (0 ≤ t ∧ t < 3) → wb_sok s t j v → wb_Bk w' 4 n c (wb_u s (4 * t + j) v) sd sf bo (tu + 1) g → (∀ k, (k < 4 ∨ 9 ≤ k) → w' k = w k) → Q (some (.int (wb_i (s (4 * t + j))))) N w') : wb_M G M_X11_stock [.ref 3, .int (wb_i t), .int (wb_i j), .int (wb_i v)] N w Q := by
  unfold wb_M
  have hn := hR.1
  have hx9 : wb_xL G 1 = 4 := rfl
  have hsq := wb_sq_rg j
  have s1 := hR.2.2.1 (4 * t + 1)
  have s0 := hR.2.2.1 (4 * t)
  have tl : (0 ≤ t ∧ t < 3) → wb_sok s t j v → wb_V G M_X11_stock 74 [(0, .ref 3), (1, .int (wb_i t)), (2, .int (wb_i j)), (3, .int (wb_i v))] [] N w 0 0 Q := by
    intro ht3 hok
    have h1 := hok.1.1
    refine vi_aload_n 41 rfl rfl ?_
    refine vi_get 42 rfl f_X11_10 hx3 rfl rfl ?_
    refine vi_iload_n 43 rfl rfl ?_
    refine vi_iload_n 44 rfl rfl ?_
    refine vi_V2 45 ok_X0_stockCell rfl c_X11_100 hbk.1 rfl rfl ?_
    refine sp_X0_stockCell hbk (by omega) (by omega) ?_
    rw [if_pos (by omega)]
    refine vi_istore 46 rfl rfl ?_
    refine vi_aload_n 47 rfl rfl ?_
    refine vi_get 48 rfl f_X11_10 hx3 rfl rfl ?_
    refine vi_iload_n 49 rfl rfl ?_
    refine vi_iload_n 50 rfl rfl ?_
    refine vi_iload_n 51 rfl rfl ?_
    refine vi_V3 52 ok_X0_setStockCell rfl c_X11_103 hbk.1 rfl rfl ?_
    refine sp_X0_setStockCell hbk (by omega) (by omega) (by omega) (fun w2 hb2 hf2 => ?_)
    refine vi_iload 53 rfl rfl ?_
    exact vi_ireturn 54 rfl rfl rfl (Nat.zero_le _) (Nat.zero_le _) (k1 w2 ht3 hok hb2 (fun k hk => hf2 k (by omega)))
  refine vi_iload_n 0 rfl rfl ?_
  refine vi_S1 1 ok_X11_isThing rfl c_X11_94 rfl ?_
  refine sp_X11_isThing (by omega) (fun b_1 => ?_) (fun b_1 => ?_)
  · refine vi_if_ne 2 rfl (by omega) (fun _ => ?_) (fun c => absurd c (by decide))
    refine vi_iload_n 5 rfl rfl ?_
    refine vi_if_lt 6 rfl (by omega) (fun c_10 => ?_) (fun c_10 => ?_)
    · refine vi_bipush 16 rfl (by decide) ?_
      exact vi_ireturn 17 rfl rfl rfl (Nat.zero_le _) (Nat.zero_le _) (k2 b_1 (fun q => by obtain ⟨⟨q1, q2⟩, q3, q4⟩ := q; omega))
    · refine vi_iload_n 7 rfl rfl ?_
      refine vi_iconst 8 rfl ?_
      refine vi_icmp_ge 9 rfl (by omega) (by omega) (fun c_15 => ?_) (fun c_15 => ?_)
      · refine vi_bipush 16 rfl (by decide) ?_
        exact vi_ireturn 17 rfl rfl rfl (Nat.zero_le _) (Nat.zero_le _) (k2 b_1 (fun q => by obtain ⟨⟨q1, q2⟩, q3, q4⟩ := q; omega))
      · refine vi_iload_n 10 rfl rfl ?_
        refine vi_gets 11 rfl st_X11_97 (Or.inl ⟨rfl, rfl⟩) ?_
        refine vi_iload_n 12 rfl rfl ?_
        refine vi_xald 13 rfl rfl (by omega) ?_
        rw [wb_xs (by omega)]
        refine vi_S2 14 ok_X11_within rfl c_X11_67 rfl ?_
        refine sp_X11_within (by omega) (by omega) (fun b_24 => ?_) (fun b_24 => ?_)
        · refine vi_if_ne 15 rfl (by omega) (fun _ => ?_) (fun c => absurd c (by decide))
          refine vi_iload_n 18 rfl rfl ?_
          refine vi_if_ne 19 rfl (by omega) (fun c_34 => ?_) (fun c_34 => ?_)
          · refine vi_iload_n 29 rfl rfl ?_
            refine vi_iconst 30 rfl ?_
            refine vi_icmp_ne 31 rfl (by omega) (by omega) (fun c_55 => ?_) (fun c_55 => ?_)
            · exact vi_lc (tl b_1 ⟨by omega, fun q => by omega, fun q => by omega⟩) ⟨rfl, rfl, rfl, rfl, trivial⟩
            · refine vi_iload_n 32 rfl rfl ?_
              refine vi_aload_n 33 rfl rfl ?_
              refine vi_get 34 rfl f_X11_10 hx3 rfl rfl ?_
              refine vi_iload_n 35 rfl rfl ?_
              refine vi_iconst 36 rfl ?_
              refine vi_V2 37 ok_X0_stockCell rfl c_X11_100 hbk.1 rfl rfl ?_
              refine sp_X0_stockCell hbk (by omega) (by omega) ?_
              rw [if_pos (by omega), show 4 * t + 0 = 4 * t by omega]
              refine vi_icmp_ge 38 rfl (by omega) (by omega) (fun c_68 => ?_) (fun c_68 => ?_)
              · exact vi_lc (tl b_1 ⟨by omega, fun q => by omega, fun q => by omega⟩) ⟨rfl, rfl, rfl, rfl, trivial⟩
              · refine vi_bipush 39 rfl (by decide) ?_
                exact vi_ireturn 40 rfl rfl rfl (Nat.zero_le _) (Nat.zero_le _) (k2 b_1 (fun q => by obtain ⟨⟨q1, q2⟩, q3, q4⟩ := q; have := q4 (by omega); omega))
          · refine vi_iload_n 20 rfl rfl ?_
            refine vi_aload_n 21 rfl rfl ?_
            refine vi_get 22 rfl f_X11_10 hx3 rfl rfl ?_
            refine vi_iload_n 23 rfl rfl ?_
            refine vi_iconst 24 rfl ?_
            refine vi_V2 25 ok_X0_stockCell rfl c_X11_100 hbk.1 rfl rfl ?_
            refine sp_X0_stockCell hbk (by omega) (by omega) ?_
            rw [if_pos (by omega)]
            refine vi_icmp_le 26 rfl (by omega) (by omega) (fun c_47 => ?_) (fun c_47 => ?_)
            · refine vi_iload_n 29 rfl rfl ?_
              refine vi_iconst 30 rfl ?_
              refine vi_icmp_ne 31 rfl (by omega) (by omega) (fun c_55 => ?_) (fun c_55 => ?_)
              · exact vi_lc (tl b_1 ⟨by omega, fun q => by omega, fun q => by omega⟩) ⟨rfl, rfl, rfl, rfl, trivial⟩
              · refine vi_iload_n 32 rfl rfl ?_
                refine vi_aload_n 33 rfl rfl ?_
                refine vi_get 34 rfl f_X11_10 hx3 rfl rfl ?_
                refine vi_iload_n 35 rfl rfl ?_
                refine vi_iconst 36 rfl ?_
                refine vi_V2 37 ok_X0_stockCell rfl c_X11_100 hbk.1 rfl rfl ?_
                refine sp_X0_stockCell hbk (by omega) (by omega) ?_
                rw [if_pos (by omega), show 4 * t + 0 = 4 * t by omega]
                refine vi_icmp_ge 38 rfl (by omega) (by omega) (fun c_68 => ?_) (fun c_68 => ?_)
                · exact vi_lc (tl b_1 ⟨by omega, fun q => by omega, fun q => by omega⟩) ⟨rfl, rfl, rfl, rfl, trivial⟩
                · refine vi_bipush 39 rfl (by decide) ?_
                  exact vi_ireturn 40 rfl rfl rfl (Nat.zero_le _) (Nat.zero_le _) (k2 b_1 (fun q => by obtain ⟨⟨q1, q2⟩, q3, q4⟩ := q; have := q4 (by omega); omega))
            · refine vi_bipush 27 rfl (by decide) ?_
              exact vi_ireturn 28 rfl rfl rfl (Nat.zero_le _) (Nat.zero_le _) (k2 b_1 (fun q => by obtain ⟨⟨q1, q2⟩, q3, q4⟩ := q; have := q3 (by omega); omega))
        · refine vi_if_ne 15 rfl (by omega) (fun c => absurd c (by decide)) (fun _ => ?_)
          refine vi_bipush 16 rfl (by decide) ?_
          exact vi_ireturn 17 rfl rfl rfl (Nat.zero_le _) (Nat.zero_le _) (k2 b_1 (fun q => by obtain ⟨⟨q1, q2⟩, q3, q4⟩ := q; omega))
  · refine vi_if_ne 2 rfl (by omega) (fun c => absurd c (by decide)) (fun _ => ?_)
    refine vi_iconst 3 rfl ?_
    exact vi_ireturn 4 rfl rfl rfl (Nat.zero_le _) (Nat.zero_le _) (ku b_1)
abbrev wb_stk (t o : Int) : Prop := (t = -1 ∧ o = -1) ∨ ((0 ≤ t ∧ t < 3) ∧ (0 ≤ o ∧ o < 3) ∧ t ≠ o)
theorem sp_X11_stand {t o : Int} (hx3 : wb_X3 w) (hbk : wb_Bk w 4 n c s sd sf bo tu g) (hR : wb_BR n c s sd sf) (ht : -2147483648 ≤ t ∧ t ≤ 2147483647) (ho : -2147483648 ≤ o ∧ o ≤ 2147483647)
    (ku : ¬ wb_stk t o → Q (some (.int (wb_i (-1)))) N w) (k1 : ∀ w', wb_stk t o → wb_Bk w' 4 n c s t o bo (tu + 1) g → (∀ k, (k < 4 ∨ 9 ≤ k) → w' k = w k) → Q (some (.int (wb_i (if sd < 0 then -6 else 10 * sd + sf)))) N w') : wb_M G M_X11_stand [.ref 3, .int (wb_i t), .int (wb_i o)] N w Q := by
  unfold wb_M
  have hn := hR.1
  have tl : wb_stk t o → wb_V G M_X11_stand 53 [(0, .ref 3), (1, .int (wb_i t)), (2, .int (wb_i o))] [] N w 0 0 Q := by
    intro hok
    refine vi_aload_n 29 rfl rfl ?_
    refine vi_get 30 rfl f_X11_10 hx3 rfl rfl ?_
    refine vi_V0 31 ok_X0_standing rfl c_X11_106 hbk.1 rfl rfl ?_
    refine sp_X0_standing hbk hR ?_
    refine vi_istore 32 rfl rfl ?_
    refine vi_aload_n 33 rfl rfl ?_
    refine vi_get 34 rfl f_X11_10 hx3 rfl rfl ?_
    refine vi_iload_n 35 rfl rfl ?_
    refine vi_iload_n 36 rfl rfl ?_
    refine vi_V2 37 ok_X0_setStanding rfl c_X11_109 hbk.1 rfl rfl ?_
    refine sp_X0_setStanding hbk (fun w2 hb2 hf2 => ?_)
    refine vi_iload 38 rfl rfl ?_
    exact vi_ireturn 39 rfl rfl rfl (Nat.zero_le _) (Nat.zero_le _) (k1 w2 hok hb2 (fun k hk => hf2 k (by omega)))
  refine vi_iload_n 0 rfl rfl ?_
  refine vi_iconst 1 rfl ?_
  refine vi_icmp_ne 2 rfl (by omega) (by omega) (fun c_2 => ?_) (fun c_2 => ?_)
  · refine vi_iconst 8 rfl ?_
    refine vi_istore_n 9 rfl rfl ?_
    refine vi_iload_n 10 rfl rfl ?_
    refine vi_S1 11 ok_X11_isThing rfl c_X11_94 rfl ?_
    refine sp_X11_isThing (by omega) (fun b_17 => ?_) (fun b_17 => ?_)
    · refine vi_if_eq 12 rfl (by omega) (fun c => absurd c (by decide)) (fun _ => ?_)
      refine vi_iload_n 13 rfl rfl ?_
      refine vi_S1 14 ok_X11_isThing rfl c_X11_94 rfl ?_
      refine sp_X11_isThing (by omega) (fun b_24 => ?_) (fun b_24 => ?_)
      · refine vi_if_eq 15 rfl (by omega) (fun c => absurd c (by decide)) (fun _ => ?_)
        refine vi_iload_n 16 rfl rfl ?_
        refine vi_iload_n 17 rfl rfl ?_
        refine vi_icmp_eq 18 rfl (by omega) (by omega) (fun c_32 => ?_) (fun c_32 => ?_)
        · refine vi_iconst 21 rfl ?_
          refine vi_istore 22 rfl rfl ?_
          refine vi_iload_n 23 rfl rfl ?_
          refine vi_if_ne 24 rfl (by omega) (fun c => absurd c (by decide)) (fun _ => ?_)
          refine vi_iload 25 rfl rfl ?_
          refine vi_if_ne 26 rfl (by omega) (fun c => absurd c (by decide)) (fun _ => ?_)
          refine vi_iconst 27 rfl ?_
          exact vi_ireturn 28 rfl rfl rfl (Nat.zero_le _) (Nat.zero_le _) (ku (by omega))
        · refine vi_iconst 19 rfl ?_
          refine vi_goto 20 rfl ?_
          refine vi_istore 22 rfl rfl ?_
          refine vi_iload_n 23 rfl rfl ?_
          refine vi_if_ne 24 rfl (by omega) (fun c => absurd c (by decide)) (fun _ => ?_)
          refine vi_iload 25 rfl rfl ?_
          refine vi_if_ne 26 rfl (by omega) (fun _ => ?_) (fun c => absurd c (by decide))
          exact vi_lc (tl (by omega)) ⟨rfl, rfl, rfl, trivial⟩
      · refine vi_if_eq 15 rfl (by omega) (fun _ => ?_) (fun c => absurd c (by decide))
        refine vi_iconst 21 rfl ?_
        refine vi_istore 22 rfl rfl ?_
        refine vi_iload_n 23 rfl rfl ?_
        refine vi_if_ne 24 rfl (by omega) (fun c => absurd c (by decide)) (fun _ => ?_)
        refine vi_iload 25 rfl rfl ?_
        refine vi_if_ne 26 rfl (by omega) (fun c => absurd c (by decide)) (fun _ => ?_)
        refine vi_iconst 27 rfl ?_
        exact vi_ireturn 28 rfl rfl rfl (Nat.zero_le _) (Nat.zero_le _) (ku (by omega))
    · refine vi_if_eq 12 rfl (by omega) (fun _ => ?_) (fun c => absurd c (by decide))
      refine vi_iconst 21 rfl ?_
      refine vi_istore 22 rfl rfl ?_
      refine vi_iload_n 23 rfl rfl ?_
      refine vi_if_ne 24 rfl (by omega) (fun c => absurd c (by decide)) (fun _ => ?_)
      refine vi_iload 25 rfl rfl ?_
      refine vi_if_ne 26 rfl (by omega) (fun c => absurd c (by decide)) (fun _ => ?_)
      refine vi_iconst 27 rfl ?_
      exact vi_ireturn 28 rfl rfl rfl (Nat.zero_le _) (Nat.zero_le _) (ku (by omega))
  · refine vi_iload_n 3 rfl rfl ?_
    refine vi_iconst 4 rfl ?_
    refine vi_icmp_ne 5 rfl (by omega) (by omega) (fun c_7 => ?_) (fun c_7 => ?_)
    · refine vi_iconst 8 rfl ?_
      refine vi_istore_n 9 rfl rfl ?_
      refine vi_iload_n 10 rfl rfl ?_
      refine vi_S1 11 ok_X11_isThing rfl c_X11_94 rfl ?_
      refine sp_X11_isThing (by omega) (fun b_17 => ?_) (fun b_17 => ?_)
      · refine vi_if_eq 12 rfl (by omega) (fun c => absurd c (by decide)) (fun _ => ?_)
        refine vi_iload_n 13 rfl rfl ?_
        refine vi_S1 14 ok_X11_isThing rfl c_X11_94 rfl ?_
        refine sp_X11_isThing (by omega) (fun b_24 => ?_) (fun b_24 => ?_)
        · refine vi_if_eq 15 rfl (by omega) (fun c => absurd c (by decide)) (fun _ => ?_)
          refine vi_iload_n 16 rfl rfl ?_
          refine vi_iload_n 17 rfl rfl ?_
          refine vi_icmp_eq 18 rfl (by omega) (by omega) (fun c_32 => ?_) (fun c_32 => ?_)
          · refine vi_iconst 21 rfl ?_
            refine vi_istore 22 rfl rfl ?_
            refine vi_iload_n 23 rfl rfl ?_
            refine vi_if_ne 24 rfl (by omega) (fun c => absurd c (by decide)) (fun _ => ?_)
            refine vi_iload 25 rfl rfl ?_
            refine vi_if_ne 26 rfl (by omega) (fun c => absurd c (by decide)) (fun _ => ?_)
            refine vi_iconst 27 rfl ?_
            exact vi_ireturn 28 rfl rfl rfl (Nat.zero_le _) (Nat.zero_le _) (ku (by omega))
          · refine vi_iconst 19 rfl ?_
            refine vi_goto 20 rfl ?_
            refine vi_istore 22 rfl rfl ?_
            refine vi_iload_n 23 rfl rfl ?_
            refine vi_if_ne 24 rfl (by omega) (fun c => absurd c (by decide)) (fun _ => ?_)
            refine vi_iload 25 rfl rfl ?_
            refine vi_if_ne 26 rfl (by omega) (fun _ => ?_) (fun c => absurd c (by decide))
            exact vi_lc (tl (by omega)) ⟨rfl, rfl, rfl, trivial⟩
        · refine vi_if_eq 15 rfl (by omega) (fun _ => ?_) (fun c => absurd c (by decide))
          refine vi_iconst 21 rfl ?_
          refine vi_istore 22 rfl rfl ?_
          refine vi_iload_n 23 rfl rfl ?_
          refine vi_if_ne 24 rfl (by omega) (fun c => absurd c (by decide)) (fun _ => ?_)
          refine vi_iload 25 rfl rfl ?_
          refine vi_if_ne 26 rfl (by omega) (fun c => absurd c (by decide)) (fun _ => ?_)
          refine vi_iconst 27 rfl ?_
          exact vi_ireturn 28 rfl rfl rfl (Nat.zero_le _) (Nat.zero_le _) (ku (by omega))
      · refine vi_if_eq 12 rfl (by omega) (fun _ => ?_) (fun c => absurd c (by decide))
        refine vi_iconst 21 rfl ?_
        refine vi_istore 22 rfl rfl ?_
        refine vi_iload_n 23 rfl rfl ?_
        refine vi_if_ne 24 rfl (by omega) (fun c => absurd c (by decide)) (fun _ => ?_)
        refine vi_iload 25 rfl rfl ?_
        refine vi_if_ne 26 rfl (by omega) (fun c => absurd c (by decide)) (fun _ => ?_)
        refine vi_iconst 27 rfl ?_
        exact vi_ireturn 28 rfl rfl rfl (Nat.zero_le _) (Nat.zero_le _) (ku (by omega))
    · refine vi_iconst 6 rfl ?_
      refine vi_goto 7 rfl ?_
      refine vi_istore_n 9 rfl rfl ?_
      refine vi_iload_n 10 rfl rfl ?_
      refine vi_S1 11 ok_X11_isThing rfl c_X11_94 rfl ?_
      refine sp_X11_isThing (by omega) (fun b_17 => ?_) (fun b_17 => ?_)
      · refine vi_if_eq 12 rfl (by omega) (fun c => absurd c (by decide)) (fun _ => ?_)
        refine vi_iload_n 13 rfl rfl ?_
        refine vi_S1 14 ok_X11_isThing rfl c_X11_94 rfl ?_
        refine sp_X11_isThing (by omega) (fun b_24 => ?_) (fun b_24 => ?_)
        · refine vi_if_eq 15 rfl (by omega) (fun c => absurd c (by decide)) (fun _ => ?_)
          refine vi_iload_n 16 rfl rfl ?_
          refine vi_iload_n 17 rfl rfl ?_
          refine vi_icmp_eq 18 rfl (by omega) (by omega) (fun c_32 => ?_) (fun c_32 => ?_)
          · refine vi_iconst 21 rfl ?_
            refine vi_istore 22 rfl rfl ?_
            refine vi_iload_n 23 rfl rfl ?_
            refine vi_if_ne 24 rfl (by omega) (fun _ => ?_) (fun c => absurd c (by decide))
            exact vi_lc (tl (by omega)) ⟨rfl, rfl, rfl, trivial⟩
          · refine vi_iconst 19 rfl ?_
            refine vi_goto 20 rfl ?_
            refine vi_istore 22 rfl rfl ?_
            refine vi_iload_n 23 rfl rfl ?_
            refine vi_if_ne 24 rfl (by omega) (fun _ => ?_) (fun c => absurd c (by decide))
            exact vi_lc (tl (by omega)) ⟨rfl, rfl, rfl, trivial⟩
        · refine vi_if_eq 15 rfl (by omega) (fun _ => ?_) (fun c => absurd c (by decide))
          refine vi_iconst 21 rfl ?_
          refine vi_istore 22 rfl rfl ?_
          refine vi_iload_n 23 rfl rfl ?_
          refine vi_if_ne 24 rfl (by omega) (fun _ => ?_) (fun c => absurd c (by decide))
          exact vi_lc (tl (by omega)) ⟨rfl, rfl, rfl, trivial⟩
      · refine vi_if_eq 12 rfl (by omega) (fun _ => ?_) (fun c => absurd c (by decide))
        refine vi_iconst 21 rfl ?_
        refine vi_istore 22 rfl rfl ?_
        refine vi_iload_n 23 rfl rfl ?_
        refine vi_if_ne 24 rfl (by omega) (fun _ => ?_) (fun c => absurd c (by decide))
        exact vi_lc (tl (by omega)) ⟨rfl, rfl, rfl, trivial⟩
variable {sg : Int → Int} {cnt : Int} {tp tq : Int → Int} {bl bh : Int → Int64} {wa re nu : Int}
theorem sp_X11_say {v : Int} (hx3 : wb_X3 w) (htx : wb_Tx w 21 sg cnt tp tq bl bh wa re nu) (hc : 0 ≤ cnt ∧ cnt ≤ 50) (hv : -2147483648 ≤ v ∧ v ≤ 2147483647)
    (k2 : ¬ (33 ≤ v ∧ v ≤ 126) → Q (some (.int (wb_i (-2)))) N w) (k4 : (33 ≤ v ∧ v ≤ 126) → cnt = 50 → Q (some (.int (wb_i (-4)))) N w) (k1 : ∀ w', (33 ≤ v ∧ v ≤ 126) → cnt < 50 → wb_Tx w' 21 (wb_u sg cnt v) (cnt + 1) tp tq bl bh wa re nu → (∀ k, k ≠ 21 → k ≠ 22 → w' k = w k) → Q (some (.int (wb_i (cnt + 1)))) N w') : wb_M G M_X11_say [.ref 3, .int (wb_i v)] N w Q := by
  unfold wb_M
  refine vi_iload_n 0 rfl rfl ?_
  refine vi_bipush 1 rfl (by decide) ?_
  refine vi_icmp_lt 2 rfl (by omega) (by omega) (fun c_3 => ?_) (fun c_3 => ?_)
  · refine vi_bipush 6 rfl (by decide) ?_
    exact vi_ireturn 7 rfl rfl rfl (Nat.zero_le _) (Nat.zero_le _) (k2 (by omega))
  · refine vi_iload_n 3 rfl rfl ?_
    refine vi_bipush 4 rfl (by decide) ?_
    refine vi_icmp_le 5 rfl (by omega) (by omega) (fun c_9 => ?_) (fun c_9 => ?_)
    · refine vi_aload_n 8 rfl rfl ?_
      refine vi_get 9 rfl f_X11_27 hx3 rfl rfl ?_
      refine vi_iload_n 10 rfl rfl ?_
      refine vi_V1 11 ok_X8_add rfl c_X11_113 htx.1 rfl rfl ?_
      refine sp_X8_add htx hc (fun b_20 => ?_) (fun b_20 => ?_)
      · intro hlt ht2 hf2
        refine vi_if_eq 12 rfl (by omega) (fun c => absurd c (by decide)) (fun _ => ?_)
        refine vi_aload_n 13 rfl rfl ?_
        refine vi_get 14 rfl f_X11_27 ((hf2 3 (by omega) (by omega)).trans hx3) rfl rfl ?_
        refine vi_get 15 rfl f_X11_116 ht2.1 rfl rfl ?_
        refine vi_goto 16 rfl ?_
        exact vi_ireturn 18 rfl rfl rfl (Nat.zero_le _) (Nat.zero_le _) (by first | exact k4 (by omega) b_20 | exact k1 b_20 (by omega) hlt ht2 hf2)
      · refine vi_if_eq 12 rfl (by omega) (fun _ => ?_) (fun c => absurd c (by decide))
        refine vi_bipush 17 rfl (by decide) ?_
        exact vi_ireturn 18 rfl rfl rfl (Nat.zero_le _) (Nat.zero_le _) (by first | exact k4 (by omega) b_20 | exact k1 b_20 (by omega) hlt ht2 hf2)
    · refine vi_bipush 6 rfl (by decide) ?_
      exact vi_ireturn 7 rfl rfl rfl (Nat.zero_le _) (Nat.zero_le _) (k2 (by omega))
theorem sp_X11_wipe (hx3 : wb_X3 w) (htx : wb_Tx w 21 sg cnt tp tq bl bh wa re nu) (hQ : ∀ w', wb_Tx w' 21 sg 0 tp tq bl bh wa re nu → (∀ k, k ≠ 21 → w' k = w k) → Q (some (.int (wb_i cnt))) N w') : wb_M G M_X11_wipe [.ref 3] N w Q := by
  unfold wb_M
  refine vi_aload_n 0 rfl rfl ?_
  refine vi_get 1 rfl f_X11_27 hx3 rfl rfl ?_
  refine vi_V0 2 ok_X8_empty rfl c_X11_119 htx.1 rfl rfl ?_
  refine sp_X8_empty htx (fun w2 ht2 hf2 => ?_)
  exact vi_ireturn 3 rfl rfl rfl (Nat.zero_le _) (Nat.zero_le _) (hQ w2 ht2 hf2)
theorem sp_X11_fault (hx3 : wb_X3 w) (htx : wb_Tx w 21 sg cnt tp tq bl bh wa re nu) (hc : 0 ≤ cnt ∧ cnt ≤ 50) (hsg : ∀ i, 0 ≤ i → i < cnt → 33 ≤ sg i ∧ sg i ≤ 126) (hQ : Q (some (.int (wb_i (wb_fa sg cnt)))) N w) : wb_M G M_X11_fault [.ref 3] N w Q := by
  unfold wb_M
  refine vi_aload_n 0 rfl rfl ?_
  refine vi_get 1 rfl f_X11_27 hx3 rfl rfl ?_
  refine vi_V0 2 ok_X8_firstFault rfl c_X11_122 htx.1 rfl rfl ?_
  refine sp_X8_firstFault htx hc hsg ?_
  exact vi_ireturn 3 rfl rfl rfl (Nat.zero_le _) (Nat.zero_le _) (hQ)
theorem wb_ff_rg {sg : Int → Int} {cnt : Int} : ∀ (k : Nat) (i st : Int), 0 ≤ i → i + k ≤ 50 → 0 ≤ cnt → cnt ≤ 50 → wb_ff sg cnt k i st = -6 ∨ (0 ≤ wb_ff sg cnt k i st ∧ wb_ff sg cnt k i st ≤ 50) := by
  intro k
  induction k with
  | zero => intro i st _ _ _ _; unfold wb_ff; split <;> omega
  | succ k ih =>
    intro i st h1 h2 h3 h4
    unfold wb_ff
    split
    · omega
    · exact ih (i + 1) _ (by omega) (by omega) h3 h4
theorem wb_fa_rg {sg : Int → Int} {cnt : Int} (hc : 0 ≤ cnt ∧ cnt ≤ 50) : wb_fa sg cnt = -6 ∨ (0 ≤ wb_fa sg cnt ∧ wb_fa sg cnt ≤ 50) := wb_ff_rg _ 0 0 (by omega) (by omega) hc.1 hc.2
theorem sp_X11_rule {g2 : Int → Int64} (hx3 : wb_X3 w) (hbk : wb_Bk w 4 n c s sd sf bo tu g) (htx : wb_Tx w 21 sg cnt tp tq bl bh wa re nu) (hm : wb_Mw w 23 g2) (hc : 0 ≤ cnt ∧ cnt ≤ 50) (hsg : ∀ i, 0 ≤ i → i < cnt → 33 ≤ sg i ∧ sg i ≤ 126) (hwa : -1 ≤ wa ∧ wa ≤ 1000)
    (k5 : wb_fa sg cnt ≠ -6 → Q (some (.int (wb_i (-5)))) N w) (k1 : ∀ (w' : wb_W) (g' g2' : Int → Int64) (tp' tq' : Int → Int) (bl' bh' : Int → Int64) (wa' re' : Int), wb_fa sg cnt = -6 → wb_rp g' (wb_kp sg cnt) → wb_Bk w' 4 n c s sd sf (1 + wb_br1 sg cnt.toNat) (tu + 1) g' → wb_Tx w' 21 sg 0 tp' tq' bl' bh' wa' re' 0 → wb_Mw w' 23 g2' → (-1 ≤ wa' ∧ wa' ≤ 1000) → (∀ k, (k < 4 ∨ (9 ≤ k ∧ k < 21) ∨ 29 ≤ k) → w' k = w k) → Q (some (.int (wb_i (1 + wb_br1 sg cnt.toNat)))) N w') : wb_M G M_X11_rule [.ref 3] N w Q := by
  unfold wb_M
  have hfr := wb_fa_rg (sg := sg) hc
  have hbk' := hbk
  obtain ⟨h0, h1, h2, h3, h4⟩ := hbk'
  refine vi_aload_n 0 rfl rfl ?_
  refine vi_get 1 rfl f_X11_27 hx3 rfl rfl ?_
  refine vi_V0 2 ok_X8_firstFault rfl c_X11_122 htx.1 rfl rfl ?_
  refine sp_X8_firstFault htx hc hsg ?_
  refine vi_bipush 3 rfl (by decide) ?_
  refine vi_icmp_eq 4 rfl (by omega) (by omega) (fun c_9 => ?_) (fun c_9 => ?_)
  · refine vi_aload_n 7 rfl rfl ?_
    refine vi_get 8 rfl f_X11_27 hx3 rfl rfl ?_
    refine vi_aload_n 9 rfl rfl ?_
    refine vi_get 10 rfl f_X11_10 hx3 rfl rfl ?_
    refine vi_get 11 rfl f_X11_125 h0 rfl rfl ?_
    refine vi_V1 12 ok_X8_collect rfl c_X11_129 htx.1 rfl rfl ?_
    refine sp_X8_collect (kb := 7) htx hm ⟨h3, h4⟩ (by omega) hc hsg c_9 hwa (fun w2 g3 gk2 tp2 tq2 bl2 bh2 wa2 re2 hrp2 hk2 hm2 hwa2 ht2 hf2 => ?_)
    have x2 : wb_X3 w2 := (hf2 3 (by omega) (by omega)).trans hx3
    have hb2 : wb_Bk w2 4 n c s sd sf bo tu gk2 := ⟨(hf2 _ (by omega) (by omega)).trans h0, (hf2 _ (by omega) (by omega)).trans h1, (hf2 _ (by omega) (by omega)).trans h2, hk2.1, hk2.2⟩
    refine vi_istore_n 13 rfl rfl ?_
    refine vi_aload_n 14 rfl rfl ?_
    refine vi_get 15 rfl f_X11_10 x2 rfl rfl ?_
    refine vi_iload_n 16 rfl rfl ?_
    refine vi_V1 17 ok_X0_setBoths rfl c_X11_133 hb2.1 rfl rfl ?_
    refine sp_X0_setBoths hb2 (fun w3 hb3 hf3 => ?_)
    have x3 : wb_X3 w3 := (hf3 3 (by omega)).trans x2
    have ht3 : wb_Tx w3 21 sg cnt tp2 tq2 bl2 bh2 wa2 re2 0 := ht2.fr (fun k p1 p2 p3 p4 => hf3 k (by omega))
    refine vi_aload_n 18 rfl rfl ?_
    refine vi_get 19 rfl f_X11_27 x3 rfl rfl ?_
    refine vi_V0 20 ok_X8_empty rfl c_X11_119 ht3.1 rfl rfl ?_
    refine sp_X8_empty ht3 (fun w4 ht4 hf4 => ?_)
    refine vi_pop 21 rfl rfl ?_
    refine vi_iload_n 22 rfl rfl ?_
    exact vi_ireturn 23 rfl rfl rfl (Nat.zero_le _) (Nat.zero_le _) (k1 w4 gk2 g3 tp2 tq2 bl2 bh2 wa2 re2 c_9 hrp2 (hb3.fr (fun k p1 p2 => hf4 k (by omega))) ht4 ((hm2.fr (fun k p1 p2 => hf3 k (by omega))).fr (fun k p1 p2 => hf4 k (by omega))) hwa2 (fun k hk => (hf4 k (by omega)).trans ((hf3 k (by omega)).trans (hf2 k (by omega) (by omega)))))
  · refine vi_bipush 5 rfl (by decide) ?_
    exact vi_ireturn 6 rfl rfl rfl (Nat.zero_le _) (Nat.zero_le _) (k5 c_9)
theorem sp_X11_free (hx3 : wb_X3 w) (hbk : wb_Bk w 4 n c s sd sf bo tu g) (hQ : ∀ (w' : wb_W) (g' : Int → Int64), wb_rp g' (fun _ => true) → wb_Bk w' 4 n c s sd sf 0 (tu + 1) g' → (∀ k, (k < 4 ∨ 9 ≤ k) → w' k = w k) → Q (some (.int (wb_i bo))) N w') : wb_M G M_X11_free [.ref 3] N w Q := by
  unfold wb_M
  have hbk' := hbk
  obtain ⟨h0, h1, h2, h3, h4⟩ := hbk'
  refine vi_aload_n 0 rfl rfl ?_
  refine vi_get 1 rfl f_X11_10 hx3 rfl rfl ?_
  refine vi_get 2 rfl f_X11_137 h0 rfl rfl ?_
  refine vi_istore_n 3 rfl rfl ?_
  refine vi_aload_n 4 rfl rfl ?_
  refine vi_get 5 rfl f_X11_10 hx3 rfl rfl ?_
  refine vi_get 6 rfl f_X11_125 h0 rfl rfl ?_
  refine vi_V0 7 ok_X5_addAll rfl c_X11_140 h3 rfl rfl ?_
  refine sp_X5_addAll (b := 7) ⟨h3, h4⟩ (fun w2 g2 hg2 hm2 hf2 => ?_)
  have x2 : wb_X3 w2 := (hf2 3 (by omega)).trans hx3
  have hb2 : wb_Bk w2 4 n c s sd sf bo tu g2 := ⟨(hf2 _ (by omega)).trans h0, (hf2 _ (by omega)).trans h1, (hf2 _ (by omega)).trans h2, hm2.1, hm2.2⟩
  refine vi_aload_n 8 rfl rfl ?_
  refine vi_get 9 rfl f_X11_10 x2 rfl rfl ?_
  refine vi_iconst 10 rfl ?_
  refine vi_V1 11 ok_X0_setBoths rfl c_X11_133 hb2.1 rfl rfl ?_
  refine sp_X0_setBoths hb2 (fun w3 hb3 hf3 => ?_)
  refine vi_iload_n 12 rfl rfl ?_
  exact vi_ireturn 13 rfl rfl rfl (Nat.zero_le _) (Nat.zero_le _) (hQ w3 g2 (wb_rp_all hg2) hb3 (fun k hk => (hf3 k (by omega)).trans (hf2 k (by omega))))
end WBS49
