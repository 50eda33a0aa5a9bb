/-! ===== objects are made: book, parts, course, break, weighing ===== -/
/-- the stocks of a new book -/
def wb_s0 (i : Int) : Int → Int := fun j => if 0 ≤ j ∧ j % 4 = 2 ∧ j < 4 * i then 199 else 0
theorem wb_s0_s {i a : Int} (hi : 0 ≤ i) (ha : a = 4 * i + 2) : wb_u (wb_s0 i) a 199 = wb_s0 (i + 1) := by
  funext j
  unfold wb_u wb_s0
  by_cases e : j = a
  · rw [if_pos e, if_pos (by omega)]
  · rw [if_neg e]
    by_cases q : 0 ≤ j ∧ j % 4 = 2 ∧ j < 4 * i
    · rw [if_pos q, if_pos (by omega)]
    · rw [if_neg q, if_neg (by omega)]
theorem wb_s0_0 : wb_s0 0 = fun _ => 0 := by
  funext j; unfold wb_s0; rw [if_neg (by omega)]
section WBS69
variable {G : wb_G} {w : wb_W} {Q : Option Value → Nat → wb_W → Prop} {b pb : Nat}
theorem sp_X0_init (h : w b = .inr (0, [.int (wb_i 0), .null, .null, .int (wb_i 0), .int (wb_i 0), .int (wb_i 0), .null, .int (wb_i 0)])) (hQ : ∀ (w' : wb_W) (g : Int → Int64), wb_rp g (fun _ => true) → wb_Bk w' b 0 (fun _ => 0) (wb_s0 3) (-1) (-1) 0 1 g → (∀ k, (k < b ∨ b + 5 ≤ k) → w' k = w k) → Q none (b + 5) w') : wb_M G M_X0_init [.ref b] (b + 1) w Q := by
  unfold wb_M
  have lp : ∀ i, i ≤ 3 → ∀ w1 : wb_W, 0 ≤ i → w1 b = .inr (0, [.int (wb_i 0), .ref (b + 1), .ref (b + 2), .int (wb_i (-1)), .int (wb_i (-1)), .int (wb_i 0), .ref (b + 3), .int (wb_i 1)]) → w1 (b + 1) = aI 72 (fun _ => 0) → w1 (b + 2) = aI 12 (wb_s0 i) → wb_Mw w1 (b + 3) (fun _ => 0) → (∀ k, (k < b ∨ b + 5 ≤ k) → w1 k = w k) → wb_V G M_X0_init 48 [(0, .ref b), (1, .int (wb_i i))] [] (b + 5) w1 4 335 Q := by
    refine wb_up 3 _ ?_
    intro i ih hi w1 hi0 x0 x1 x2 x3 ef
    have e199 : wb_xF G 1 (Int.toNat 2) = wb_i 199 := rfl
    refine vi_iload_n 26 rfl rfl ?_
    refine vi_iconst 27 rfl ?_
    refine vi_icmp_ge 28 rfl (by omega) (by omega) (fun c_50 => ?_) (fun c_50 => ?_)
    · refine vi_aload_n 42 rfl rfl ?_
      refine vi_get 43 rfl f_X0_28 x0 rfl rfl ?_
      refine vi_V0 44 ok_X5_addAll rfl c_X0_38 x3.1 rfl rfl ?_
      refine sp_X5_addAll x3 (fun w2 g2 hg2 hm2 ef2 => ?_)
      exact vi_return 45 rfl rfl (Nat.le_of_ble_eq_true rfl) (Nat.le_of_ble_eq_true rfl) (hQ w2 g2 (wb_rp_all hg2) ⟨(ef2 b (by omega)).trans x0, (ef2 _ (by omega)).trans x1, by rw [ef2 _ (by omega), x2, show i = 3 by omega], hm2.1, hm2.2⟩ (fun k hk => by rw [ef2 k (by omega)]; exact ef k hk))
    · refine vi_aload_n 29 rfl rfl ?_
      refine vi_get 30 rfl f_X0_15 x0 rfl rfl ?_
      refine vi_iload_n 31 rfl rfl ?_
      refine vi_iconst 32 rfl ?_
      refine vi_imul 33 rfl ?_
      refine vi_iconst 34 rfl ?_
      refine vi_iadd 35 rfl ?_
      refine vi_gets 36 rfl st_X0_35 (Or.inl ⟨rfl, rfl⟩) ?_
      refine vi_iconst 37 rfl ?_
      refine vi_xald 38 rfl rfl ⟨by omega, by show (2 : Int) < ((4 : Nat) : Int); omega, by omega⟩ ?_
      rw [e199]
      refine vi_iast 39 rfl x2 (by omega) ?_
      rw [wb_s0_s hi0 (by omega)]
      refine vi_iinc 40 rfl rfl rfl ?_
      refine vi_goto 41 rfl ?_
      exact vi_lc (ih (i + 1) (by omega) (by omega) _ (by omega) ((wb_upn (by omega)).trans x0) ((wb_upn (by omega)).trans x1) wb_ups (x3.fr (fun k p1 p2 => wb_upn (by omega))) (fun k hk => by rw [wb_upn (by omega)]; exact ef k hk)) ⟨rfl, rfl, trivial⟩
  refine vi_aload_n 0 rfl rfl ?_
  refine vi_obj 1 rfl c_X0_3 rfl rfl ?_
  refine vi_aload_n 2 rfl rfl ?_
  refine vi_bipush 3 rfl (by decide) ?_
  refine vi_newaI 4 72 rfl l_arr_int rfl (by decide) rfl rfl ?_
  refine vi_putF 5 rfl ff_X0_9 rfl ((wb_upn (by omega)).trans h) rfl rfl rfl rfl ?_
  refine vi_aload_n 6 rfl rfl ?_
  refine vi_bipush 7 rfl (by decide) ?_
  refine vi_newaI 8 12 rfl l_arr_int rfl (by decide) rfl rfl ?_
  refine vi_putF 9 rfl ff_X0_15 rfl ((wb_upn (by omega)).trans wb_ups) rfl rfl rfl rfl ?_
  refine vi_aload_n 10 rfl rfl ?_
  refine vi_iconst 11 rfl ?_
  refine vi_put 12 rfl f_X0_18 wb_ups rfl rfl rfl rfl ?_
  rw [wb_upu]
  refine vi_aload_n 13 rfl rfl ?_
  refine vi_iconst 14 rfl ?_
  refine vi_put 15 rfl f_X0_22 wb_ups rfl rfl rfl rfl ?_
  rw [wb_upu]
  refine vi_aload_n 16 rfl rfl ?_
  refine vi_new 17 rfl (nw_5 l_X0_25) rfl rfl rfl ?_
  refine vi_dup 18 rfl rfl ?_
  refine vi_I0 19 ok_X5_init rfl rfl c_X0_27 rfl ?_
  refine sp_X5_init (b := b + 1 + 1 + 1) wb_ups (fun w2 hm2 ef2 => ?_)
  have x0 := (ef2 b (by omega)).trans ((wb_upn (by omega)).trans wb_ups)
  have x1 : w2 (b + 1) = aI 72 (fun _ => 0) := (by rw [ef2 _ (by omega)]; (repeat (first | rw [wb_upn (by omega)] | rw [wb_upe (by omega)])))
  have x2 : w2 (b + 2) = aI 12 (fun _ => 0) := (by rw [ef2 _ (by omega)]; (repeat (first | rw [wb_upn (by omega)] | rw [wb_upe (by omega)])))
  refine vi_putF 20 rfl ff_X0_28 rfl x0 rfl rfl rfl rfl ?_
  refine vi_aload_n 21 rfl rfl ?_
  refine vi_iconst 22 rfl ?_
  refine vi_put 23 rfl f_X0_32 wb_ups rfl rfl rfl rfl ?_
  rw [wb_upu]
  refine vi_iconst 24 rfl ?_
  refine vi_istore_n 25 rfl rfl ?_
  exact vi_lc (lp 0 (by omega) _ (by omega) wb_ups ((wb_upn (by omega)).trans x1) (by rw [wb_upn (by omega), x2, wb_s0_0]) (hm2.fr (fun k p1 p2 => wb_upn (by omega))) (fun k hk => by rw [wb_upn (by omega), ef2 k (by omega)]; (repeat (first | rw [wb_upn (by omega)] | rw [wb_upe (by omega)])))) ⟨rfl, rfl, trivial⟩
theorem sp_X2_init {rm : Nat} (hrm : rm = 25 ∨ rm = 625) (h : w b = .inr (2, [.int (wb_i 0), .null, .null, .null, .null, .null, .null, .int (wb_i 0), .int (wb_i 0), .int (wb_i 0)])) (hQ : ∀ w', wb_Co w' b rm (fun _ => 0) (fun _ => 0) (fun _ => 0) 0 (-1) 0 → wb_Ms w' (b + 6) pb 0 (-1) (fun _ _ => false) → (∀ k, (k < b ∨ b + 9 ≤ k) → w' k = w k) → Q none (b + 9) w') : wb_M G M_X2_init [.ref b, .ref pb, .int (wb_i rm)] (b + 1) w Q := by
  unfold wb_M
  rcases hrm with rfl | rfl
  · skip
    refine vi_aload_n 0 rfl rfl ?_
    refine vi_obj 1 rfl c_X2_3 rfl rfl ?_
    refine vi_aload_n 2 rfl rfl ?_
    refine vi_bipush 3 rfl (by decide) ?_
    refine vi_newaI 4 25 rfl l_arr_int rfl (by decide) rfl rfl ?_
    refine vi_putF 5 rfl ff_X2_9 rfl ((wb_upn (by omega)).trans h) rfl rfl rfl rfl ?_
    refine vi_aload_n 6 rfl rfl ?_
    refine vi_bipush 7 rfl (by decide) ?_
    refine vi_newaI 8 25 rfl l_arr_int rfl (by decide) rfl rfl ?_
    refine vi_putF 9 rfl ff_X2_15 rfl ((wb_upn (by omega)).trans wb_ups) rfl rfl rfl rfl ?_
    refine vi_aload_n 10 rfl rfl ?_
    refine vi_iconst 11 rfl ?_
    refine vi_put 12 rfl f_X2_18 wb_ups rfl rfl rfl rfl ?_
    rw [wb_upu]
    refine vi_aload_n 13 rfl rfl ?_
    refine vi_iload_n 14 rfl rfl ?_
    refine vi_putF 15 rfl ff_X2_22 rfl wb_ups rfl rfl rfl rfl ?_
    rw [wb_upu]
    refine vi_aload_n 16 rfl rfl ?_
    refine vi_iload_n 17 rfl rfl ?_
    refine vi_bipush 18 rfl (by decide) ?_
    refine vi_imul 19 rfl ?_
    refine vi_newaI 20 200 rfl l_arr_int rfl (by decide) rfl rfl ?_
    refine vi_putF 21 rfl ff_X2_25 rfl ((wb_upn (by omega)).trans wb_ups) rfl rfl rfl rfl ?_
    refine vi_aload_n 22 rfl rfl ?_
    refine vi_iload_n 23 rfl rfl ?_
    refine vi_bipush 24 rfl (by decide) ?_
    refine vi_imul 25 rfl ?_
    refine vi_newaI 26 225 rfl l_arr_int rfl (by decide) rfl rfl ?_
    refine vi_putF 27 rfl ff_X2_28 rfl ((wb_upn (by omega)).trans wb_ups) rfl rfl rfl rfl ?_
    refine vi_aload_n 28 rfl rfl ?_
    refine vi_iload_n 29 rfl rfl ?_
    refine vi_bipush 30 rfl (by decide) ?_
    refine vi_imul 31 rfl ?_
    refine vi_newaI 32 225 rfl l_arr_int rfl (by decide) rfl rfl ?_
    refine vi_putF 33 rfl ff_X2_31 rfl ((wb_upn (by omega)).trans wb_ups) rfl rfl rfl rfl ?_
    refine vi_aload_n 34 rfl rfl ?_
    refine vi_new 35 rfl (nw_4 l_X2_34) rfl rfl rfl ?_
    refine vi_dup 36 rfl rfl ?_
    refine vi_aload_n 37 rfl rfl ?_
    refine vi_I1 38 ok_X4_init rfl rfl c_X2_36 rfl ?_
    refine sp_X4_init (b := b + 1 + 1 + 1 + 1 + 1 + 1) (pb := pb) wb_ups (fun w2 hm2 ef2 => ?_)
    have x0 := (ef2 b (by omega)).trans ((wb_upn (by omega)).trans wb_ups)
    refine vi_putF 39 rfl ff_X2_39 rfl x0 rfl rfl rfl rfl ?_
    exact vi_return 40 rfl rfl (Nat.le_of_ble_eq_true rfl) (Nat.le_of_ble_eq_true rfl) (hQ _ ⟨fun _ => 0, fun _ => 0, wb_ups, by rw [wb_upn (by omega), ef2 _ (by omega)]; (repeat (first | rw [wb_upn (by omega)] | rw [wb_upe (by omega)])), by rw [wb_upn (by omega), ef2 _ (by omega)]; (repeat (first | rw [wb_upn (by omega)] | rw [wb_upe (by omega)])), by rw [wb_upn (by omega), ef2 _ (by omega)]; (repeat (first | rw [wb_upn (by omega)] | rw [wb_upe (by omega)])), by rw [wb_upn (by omega), ef2 _ (by omega)]; (repeat (first | rw [wb_upn (by omega)] | rw [wb_upe (by omega)])), by rw [wb_upn (by omega), ef2 _ (by omega)]; (repeat (first | rw [wb_upn (by omega)] | rw [wb_upe (by omega)]))⟩ (hm2.fr (fun k p1 p2 => wb_upn (by omega))) (fun k hk => by rw [wb_upn (by omega), ef2 _ (by omega)]; (repeat (first | rw [wb_upn (by omega)] | rw [wb_upe (by omega)]))))
  · skip
    refine vi_aload_n 0 rfl rfl ?_
    refine vi_obj 1 rfl c_X2_3 rfl rfl ?_
    refine vi_aload_n 2 rfl rfl ?_
    refine vi_bipush 3 rfl (by decide) ?_
    refine vi_newaI 4 25 rfl l_arr_int rfl (by decide) rfl rfl ?_
    refine vi_putF 5 rfl ff_X2_9 rfl ((wb_upn (by omega)).trans h) rfl rfl rfl rfl ?_
    refine vi_aload_n 6 rfl rfl ?_
    refine vi_bipush 7 rfl (by decide) ?_
    refine vi_newaI 8 25 rfl l_arr_int rfl (by decide) rfl rfl ?_
    refine vi_putF 9 rfl ff_X2_15 rfl ((wb_upn (by omega)).trans wb_ups) rfl rfl rfl rfl ?_
    refine vi_aload_n 10 rfl rfl ?_
    refine vi_iconst 11 rfl ?_
    refine vi_put 12 rfl f_X2_18 wb_ups rfl rfl rfl rfl ?_
    rw [wb_upu]
    refine vi_aload_n 13 rfl rfl ?_
    refine vi_iload_n 14 rfl rfl ?_
    refine vi_putF 15 rfl ff_X2_22 rfl wb_ups rfl rfl rfl rfl ?_
    rw [wb_upu]
    refine vi_aload_n 16 rfl rfl ?_
    refine vi_iload_n 17 rfl rfl ?_
    refine vi_bipush 18 rfl (by decide) ?_
    refine vi_imul 19 rfl ?_
    refine vi_newaI 20 5000 rfl l_arr_int rfl (by decide) rfl rfl ?_
    refine vi_putF 21 rfl ff_X2_25 rfl ((wb_upn (by omega)).trans wb_ups) rfl rfl rfl rfl ?_
    refine vi_aload_n 22 rfl rfl ?_
    refine vi_iload_n 23 rfl rfl ?_
    refine vi_bipush 24 rfl (by decide) ?_
    refine vi_imul 25 rfl ?_
    refine vi_newaI 26 5625 rfl l_arr_int rfl (by decide) rfl rfl ?_
    refine vi_putF 27 rfl ff_X2_28 rfl ((wb_upn (by omega)).trans wb_ups) rfl rfl rfl rfl ?_
    refine vi_aload_n 28 rfl rfl ?_
    refine vi_iload_n 29 rfl rfl ?_
    refine vi_bipush 30 rfl (by decide) ?_
    refine vi_imul 31 rfl ?_
    refine vi_newaI 32 5625 rfl l_arr_int rfl (by decide) rfl rfl ?_
    refine vi_putF 33 rfl ff_X2_31 rfl ((wb_upn (by omega)).trans wb_ups) rfl rfl rfl rfl ?_
    refine vi_aload_n 34 rfl rfl ?_
    refine vi_new 35 rfl (nw_4 l_X2_34) rfl rfl rfl ?_
    refine vi_dup 36 rfl rfl ?_
    refine vi_aload_n 37 rfl rfl ?_
    refine vi_I1 38 ok_X4_init rfl rfl c_X2_36 rfl ?_
    refine sp_X4_init (b := b + 1 + 1 + 1 + 1 + 1 + 1) (pb := pb) wb_ups (fun w2 hm2 ef2 => ?_)
    have x0 := (ef2 b (by omega)).trans ((wb_upn (by omega)).trans wb_ups)
    refine vi_putF 39 rfl ff_X2_39 rfl x0 rfl rfl rfl rfl ?_
    exact vi_return 40 rfl rfl (Nat.le_of_ble_eq_true rfl) (Nat.le_of_ble_eq_true rfl) (hQ _ ⟨fun _ => 0, fun _ => 0, wb_ups, by rw [wb_upn (by omega), ef2 _ (by omega)]; (repeat (first | rw [wb_upn (by omega)] | rw [wb_upe (by omega)])), by rw [wb_upn (by omega), ef2 _ (by omega)]; (repeat (first | rw [wb_upn (by omega)] | rw [wb_upe (by omega)])), by rw [wb_upn (by omega), ef2 _ (by omega)]; (repeat (first | rw [wb_upn (by omega)] | rw [wb_upe (by omega)])), by rw [wb_upn (by omega), ef2 _ (by omega)]; (repeat (first | rw [wb_upn (by omega)] | rw [wb_upe (by omega)])), by rw [wb_upn (by omega), ef2 _ (by omega)]; (repeat (first | rw [wb_upn (by omega)] | rw [wb_upe (by omega)]))⟩ (hm2.fr (fun k p1 p2 => wb_upn (by omega))) (fun k hk => by rw [wb_upn (by omega), ef2 _ (by omega)]; (repeat (first | rw [wb_upn (by omega)] | rw [wb_upe (by omega)]))))
set_option maxRecDepth 20000 in
theorem sp_X1_init {a : Nat} {fs : List Value} (h : w b = .inr (1, [.null, .null, .null, .null, .int (wb_i 0), .int (wb_i 0), .int (wb_i 0), .int (wb_i 0), .int (wb_i 0), .int (wb_i 0)])) (hab : a < b) (ha : w a = .inr (10, fs)) (hfs : fs[1]? = some (.ref pb)) (hQ : ∀ w', w' b = .inr (1, [.ref a, .ref (b + 4), .ref (b + 1), .ref (b + 3), .int (wb_i (-1)), .int (wb_i 0), .int (wb_i (-1)), .int (wb_i 0), .int (wb_i 0), .int (wb_i 0)]) → wb_Mw w' (b + 1) (fun _ => 0) → w' (b + 3) = aI 625 (fun _ => 0) → wb_Ms w' (b + 4) pb 0 (-1) (fun _ _ => false) → (∀ k, (k < b ∨ b + 7 ≤ k) → w' k = w k) → Q none (b + 7) w') : wb_M G M_X1_init [.ref b, .ref a] (b + 1) w Q := by
  unfold wb_M
  refine vi_aload_n 0 rfl rfl ?_
  refine vi_obj 1 rfl c_X1_3 rfl rfl ?_
  refine vi_aload_n 2 rfl rfl ?_
  refine vi_new 3 rfl (nw_5 l_X1_9) rfl rfl rfl ?_
  refine vi_dup 4 rfl rfl ?_
  refine vi_I0 5 ok_X5_init rfl rfl c_X1_11 rfl ?_
  refine sp_X5_init (b := b + 1) wb_ups (fun w2 hm2 ef2 => ?_)
  have x0 := (ef2 b (by omega)).trans ((wb_upn (by omega)).trans h)
  have xa := (ef2 a (by omega)).trans ((wb_upn (by omega)).trans ha)
  refine vi_putF 6 rfl ff_X1_12 rfl x0 rfl rfl rfl rfl ?_
  refine vi_aload_n 7 rfl rfl ?_
  refine vi_sipush 8 rfl (by decide) ?_
  refine vi_newaI 9 625 rfl l_arr_int rfl (by decide) rfl rfl ?_
  refine vi_putF 10 rfl ff_X1_18 rfl ((wb_upn (by omega)).trans wb_ups) rfl rfl rfl rfl ?_
  refine vi_aload_n 11 rfl rfl ?_
  refine vi_iconst 12 rfl ?_
  refine vi_put 13 rfl f_X1_22 wb_ups rfl rfl rfl rfl ?_
  rw [wb_upu]
  refine vi_aload_n 14 rfl rfl ?_
  refine vi_iconst 15 rfl ?_
  refine vi_put 16 rfl f_X1_26 wb_ups rfl rfl rfl rfl ?_
  rw [wb_upu]
  refine vi_aload_n 17 rfl rfl ?_
  refine vi_aload_n 18 rfl rfl ?_
  refine vi_putF 19 rfl ff_X1_29 rfl wb_ups rfl rfl rfl rfl ?_
  rw [wb_upu]
  refine vi_aload_n 20 rfl rfl ?_
  refine vi_new 21 rfl (nw_4 l_X1_33) rfl rfl rfl ?_
  refine vi_dup 22 rfl rfl ?_
  refine vi_aload_n 23 rfl rfl ?_
  refine vi_get 24 rfl f_X1_35 (show _ = (Sum.inr (10, fs) : va_E) by (repeat (first | rw [wb_upn (by omega)] | rw [wb_upe (by omega)])); exact xa) rfl hfs ?_
  refine vi_I1 25 ok_X4_init rfl rfl c_X1_41 rfl ?_
  refine sp_X4_init (b := b + 1 + 2 + 1) (pb := pb) wb_ups (fun w3 hm3 ef3 => ?_)
  have y0 := (ef3 b (by omega)).trans ((wb_upn (by omega)).trans wb_ups)
  refine vi_putF 26 rfl ff_X1_44 rfl y0 rfl rfl rfl rfl ?_
  exact vi_return 27 rfl rfl (Nat.le_of_ble_eq_true rfl) (Nat.le_of_ble_eq_true rfl) (hQ _ wb_ups (hm2.fr (fun k p1 p2 => by rw [wb_upn (by omega), ef3 _ (by omega)]; (repeat (first | rw [wb_upn (by omega)] | rw [wb_upe (by omega)])))) (by rw [wb_upn (by omega), ef3 _ (by omega)]; (repeat (first | rw [wb_upn (by omega)] | rw [wb_upe (by omega)]))) (hm3.fr (fun k p1 p2 => wb_upn (by omega))) (fun k hk => by rw [wb_upn (by omega), ef3 _ (by omega)]; (repeat (first | rw [wb_upn (by omega)] | rw [wb_upe (by omega)])); rw [ef2 _ (by omega)]; (repeat (first | rw [wb_upn (by omega)] | rw [wb_upe (by omega)]))))
theorem sp_X9_init {a : Nat} (h : w b = .inr (9, [.null, .null, .null, .null, .null, .null, .int (wb_i 0)])) (hQ : ∀ w', w' b = .inr (9, [.ref a, .ref (b + 1), .ref (b + 3), .ref (b + 4), .ref (b + 5), .ref (b + 6), .int (wb_i 0)]) → wb_Mw w' (b + 1) (fun _ => 0) → w' (b + 3) = aI 625 (fun _ => 0) → w' (b + 4) = aI 12 (fun _ => 0) → w' (b + 5) = aI 24 (fun _ => 0) → w' (b + 6) = aI 216 (fun _ => 0) → (∀ k, (k < b ∨ b + 7 ≤ k) → w' k = w k) → Q none (b + 7) w') : wb_M G M_X9_init [.ref b, .ref a] (b + 1) w Q := by
  unfold wb_M
  refine vi_aload_n 0 rfl rfl ?_
  refine vi_obj 1 rfl c_X9_3 rfl rfl ?_
  refine vi_aload_n 2 rfl rfl ?_
  refine vi_new 3 rfl (nw_5 l_X9_9) rfl rfl rfl ?_
  refine vi_dup 4 rfl rfl ?_
  refine vi_I0 5 ok_X5_init rfl rfl c_X9_11 rfl ?_
  refine sp_X5_init (b := b + 1) wb_ups (fun w2 hm2 ef2 => ?_)
  have x0 := (ef2 b (by omega)).trans ((wb_upn (by omega)).trans h)
  refine vi_putF 6 rfl ff_X9_12 rfl x0 rfl rfl rfl rfl ?_
  refine vi_aload_n 7 rfl rfl ?_
  refine vi_sipush 8 rfl (by decide) ?_
  refine vi_newaI 9 625 rfl l_arr_int rfl (by decide) rfl rfl ?_
  refine vi_putF 10 rfl ff_X9_18 rfl ((wb_upn (by omega)).trans wb_ups) rfl rfl rfl rfl ?_
  refine vi_aload_n 11 rfl rfl ?_
  refine vi_bipush 12 rfl (by decide) ?_
  refine vi_newaI 13 12 rfl l_arr_int rfl (by decide) rfl rfl ?_
  refine vi_putF 14 rfl ff_X9_22 rfl ((wb_upn (by omega)).trans wb_ups) rfl rfl rfl rfl ?_
  refine vi_aload_n 15 rfl rfl ?_
  refine vi_bipush 16 rfl (by decide) ?_
  refine vi_newaI 17 24 rfl l_arr_int rfl (by decide) rfl rfl ?_
  refine vi_putF 18 rfl ff_X9_25 rfl ((wb_upn (by omega)).trans wb_ups) rfl rfl rfl rfl ?_
  refine vi_aload_n 19 rfl rfl ?_
  refine vi_sipush 20 rfl (by decide) ?_
  refine vi_newaI 21 216 rfl l_arr_int rfl (by decide) rfl rfl ?_
  refine vi_putF 22 rfl ff_X9_28 rfl ((wb_upn (by omega)).trans wb_ups) rfl rfl rfl rfl ?_
  refine vi_aload_n 23 rfl rfl ?_
  refine vi_aload_n 24 rfl rfl ?_
  refine vi_putF 25 rfl ff_X9_31 rfl wb_ups rfl rfl rfl rfl ?_
  rw [wb_upu]
  exact vi_return 26 rfl rfl (Nat.le_of_ble_eq_true rfl) (Nat.le_of_ble_eq_true rfl) (hQ _ wb_ups (hm2.fr (fun k p1 p2 => by (repeat (first | rw [wb_upn (by omega)] | rw [wb_upe (by omega)])))) (by (repeat (first | rw [wb_upn (by omega)] | rw [wb_upe (by omega)]))) (by (repeat (first | rw [wb_upn (by omega)] | rw [wb_upe (by omega)]))) (by (repeat (first | rw [wb_upn (by omega)] | rw [wb_upe (by omega)]))) (by (repeat (first | rw [wb_upn (by omega)] | rw [wb_upe (by omega)]))) (fun k hk => by (repeat (first | rw [wb_upn (by omega)] | rw [wb_upe (by omega)])); rw [ef2 _ (by omega)]; (repeat (first | rw [wb_upn (by omega)] | rw [wb_upe (by omega)]))))
end WBS69
