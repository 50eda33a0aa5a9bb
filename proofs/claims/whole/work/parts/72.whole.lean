/-! ===== objects are made: the class, the reference ===== -/
section WBS72
variable {G : wb_G} {w : wb_W} {Q : Option Value → Nat → wb_W → Prop}
theorem sp_X12_init (h : w 96 = .inr (12, [.int (wb_i 0), .null, .null, .int (wb_i 0), .int (wb_i 0), .int (wb_i 0), .null, .int (wb_i 0), .null, .int (wb_i 0), .int (wb_i 0), .int (wb_i 0), .int (wb_i 0), .int (wb_i 0), .int (wb_i 0), .int (wb_i 0), .int (wb_i 0), .null, .null, .null, .int (wb_i 0), .null, .int (wb_i 0), .null, .null, .null])) (hQ : ∀ w', wb_Ra w' (fun _ => 0) (wb_s0 3) (fun _ => 0) (fun _ => 0) (fun _ => 0) (fun _ => 0) → wb_RU w' 0 (-1) (-1) 0 0 → (∀ k, (k < 96 ∨ 108 ≤ k) → w' k = w k) → Q none 108 w') : wb_M G M_X12_init [.ref 96] 97 w Q := by
  unfold wb_M
  have lp : ∀ i, i ≤ 3 → ∀ w1 : wb_W, 0 ≤ i → wb_Rf w1 0 (-1) (-1) 0 0 0 0 0 (-6) 0 0 0 0 0 0 → w1 97 = aI 72 (fun _ => 0) → w1 98 = aI 12 (wb_s0 i) → w1 99 = aI 50 (fun _ => 0) → w1 100 = aI 50 (fun _ => 0) → w1 101 = aZ 1875 (fun _ => 0) → w1 102 = aZ 15625 (fun _ => 0) → w1 103 = aZ 15625 (fun _ => 0) → w1 104 = aB 46875 (fun _ => 0) → w1 105 = aI 625 (fun _ => 0) → w1 106 = aI 280 (fun _ => 0) → w1 107 = aZ 2 (fun _ => 0) → (∀ k, (k < 96 ∨ 108 ≤ k) → w1 k = w k) → wb_V G M_X12_init 116 [(0, .ref 96), (1, .int (wb_i i))] [] 108 w1 11 81091 Q := by
    refine wb_up 3 _ ?_
    intro i ih hi w1 hi0 x96 x97 x98 x99 x100 x101 x102 x103 x104 x105 x106 x107 ef
    have x96' := x96
    unfold wb_Rf at x96'
    refine vi_iload_n 57 rfl rfl ?_
    refine vi_iconst 58 rfl ?_
    refine vi_icmp_ge 59 rfl (by omega) (by omega) (fun c_118 => ?_) (fun c_118 => ?_)
    · exact vi_return 71 rfl rfl (Nat.le_of_ble_eq_true rfl) (Nat.le_of_ble_eq_true rfl) (hQ w1 ⟨x97, by rw [x98, show i = 3 by omega], x99, x100, x106, x107⟩ ⟨0, 0, 0, 0, 0, 0, _, _, _, _, _, x96, x101, x102, x103, x104, x105, by omega, by omega⟩ ef)
    · refine vi_aload_n 60 rfl rfl ?_
      refine vi_get 61 rfl f_X12_13 x96' rfl rfl ?_
      refine vi_iconst 62 rfl ?_
      refine vi_iload_n 63 rfl rfl ?_
      refine vi_imul 64 rfl ?_
      refine vi_iconst 65 rfl ?_
      refine vi_iadd 66 rfl ?_
      refine vi_sipush 67 rfl (by decide) ?_
      refine vi_iast 68 rfl x98 (by omega) ?_
      rw [wb_s0_s hi0 (by omega)]
      refine vi_iinc 69 rfl rfl rfl ?_
      refine vi_goto 70 rfl ?_
      exact vi_lc (ih (i + 1) (by omega) (by omega) _ (by omega) ((wb_upn (by omega)).trans x96) ((wb_upn (by omega)).trans x97) wb_ups ((wb_upn (by omega)).trans x99) ((wb_upn (by omega)).trans x100) ((wb_upn (by omega)).trans x101) ((wb_upn (by omega)).trans x102) ((wb_upn (by omega)).trans x103) ((wb_upn (by omega)).trans x104) ((wb_upn (by omega)).trans x105) ((wb_upn (by omega)).trans x106) ((wb_upn (by omega)).trans x107) (fun k hk => by rw [wb_upn (by omega)]; exact ef k hk)) ⟨rfl, rfl, trivial⟩
  refine vi_aload_n 0 rfl rfl ?_
  refine vi_obj 1 rfl c_X12_1 rfl rfl ?_
  refine vi_aload_n 2 rfl rfl ?_
  refine vi_bipush 3 rfl (by decide) ?_
  refine vi_newaI 4 72 rfl l_arr_int rfl (by decide) rfl rfl ?_
  refine vi_putF 5 rfl ff_X12_7 rfl ((wb_upn (by omega)).trans h) rfl rfl rfl rfl ?_
  refine vi_aload_n 6 rfl rfl ?_
  refine vi_bipush 7 rfl (by decide) ?_
  refine vi_newaI 8 12 rfl l_arr_int rfl (by decide) rfl rfl ?_
  refine vi_putF 9 rfl ff_X12_13 rfl ((wb_upn (by omega)).trans wb_ups) rfl rfl rfl rfl ?_
  refine vi_aload_n 10 rfl rfl ?_
  refine vi_bipush 11 rfl (by decide) ?_
  refine vi_put 12 rfl f_X12_16 wb_ups rfl rfl rfl rfl ?_
  rw [wb_upu]
  refine vi_aload_n 13 rfl rfl ?_
  refine vi_bipush 14 rfl (by decide) ?_
  refine vi_put 15 rfl f_X12_20 wb_ups rfl rfl rfl rfl ?_
  rw [wb_upu]
  refine vi_aload_n 16 rfl rfl ?_
  refine vi_bipush 17 rfl (by decide) ?_
  refine vi_newaI 18 50 rfl l_arr_int rfl (by decide) rfl rfl ?_
  refine vi_putF 19 rfl ff_X12_23 rfl ((wb_upn (by omega)).trans wb_ups) rfl rfl rfl rfl ?_
  refine vi_aload_n 20 rfl rfl ?_
  refine vi_bipush 21 rfl (by decide) ?_
  refine vi_newaI 22 50 rfl l_arr_int rfl (by decide) rfl rfl ?_
  refine vi_putF 23 rfl ff_X12_26 rfl ((wb_upn (by omega)).trans wb_ups) rfl rfl rfl rfl ?_
  refine vi_aload_n 24 rfl rfl ?_
  refine vi_bipush 25 rfl (by decide) ?_
  refine vi_put 26 rfl f_X12_29 wb_ups rfl rfl rfl rfl ?_
  rw [wb_upu]
  refine vi_aload_n 27 rfl rfl ?_
  refine vi_sipush 28 rfl (by decide) ?_
  refine vi_newaZ 29 1875 rfl l_arr_boolean rfl (by decide) rfl rfl ?_
  refine vi_putF 30 rfl ff_X12_32 rfl ((wb_upn (by omega)).trans wb_ups) rfl rfl rfl rfl ?_
  refine vi_aload_n 31 rfl rfl ?_
  refine vi_sipush 32 rfl (by decide) ?_
  refine vi_newaZ 33 15625 rfl l_arr_boolean rfl (by decide) rfl rfl ?_
  refine vi_putF 34 rfl ff_X12_36 rfl ((wb_upn (by omega)).trans wb_ups) rfl rfl rfl rfl ?_
  refine vi_aload_n 35 rfl rfl ?_
  refine vi_sipush 36 rfl (by decide) ?_
  refine vi_newaZ 37 15625 rfl l_arr_boolean rfl (by decide) rfl rfl ?_
  refine vi_putF 38 rfl ff_X12_39 rfl ((wb_upn (by omega)).trans wb_ups) rfl rfl rfl rfl ?_
  refine vi_aload_n 39 rfl rfl ?_
  refine vi_ldc 40 rfl k_X12_42 ?_
  refine vi_newaB 41 46875 rfl l_arr_byte rfl (by decide) rfl rfl ?_
  refine vi_putF 42 rfl ff_X12_43 rfl ((wb_upn (by omega)).trans wb_ups) rfl rfl rfl rfl ?_
  refine vi_aload_n 43 rfl rfl ?_
  refine vi_sipush 44 rfl (by decide) ?_
  refine vi_newaI 45 625 rfl l_arr_int rfl (by decide) rfl rfl ?_
  refine vi_putF 46 rfl ff_X12_47 rfl ((wb_upn (by omega)).trans wb_ups) rfl rfl rfl rfl ?_
  refine vi_aload_n 47 rfl rfl ?_
  refine vi_sipush 48 rfl (by decide) ?_
  refine vi_newaI 49 280 rfl l_arr_int rfl (by decide) rfl rfl ?_
  refine vi_putF 50 rfl ff_X12_50 rfl ((wb_upn (by omega)).trans wb_ups) rfl rfl rfl rfl ?_
  refine vi_aload_n 51 rfl rfl ?_
  refine vi_iconst 52 rfl ?_
  refine vi_newaZ 53 2 rfl l_arr_boolean rfl (by decide) rfl rfl ?_
  refine vi_putF 54 rfl ff_X12_53 rfl ((wb_upn (by omega)).trans wb_ups) rfl rfl rfl rfl ?_
  refine vi_iconst 55 rfl ?_
  refine vi_istore_n 56 rfl rfl ?_
  exact vi_lc (lp 0 (by omega) _ (by omega) wb_ups (by (repeat (first | rw [wb_upn (by omega)] | rw [wb_upe (by omega)]))) (by (repeat (first | rw [wb_upn (by omega)] | rw [wb_upe (by omega)])); rw [wb_s0_0]) (by (repeat (first | rw [wb_upn (by omega)] | rw [wb_upe (by omega)]))) (by (repeat (first | rw [wb_upn (by omega)] | rw [wb_upe (by omega)]))) (by (repeat (first | rw [wb_upn (by omega)] | rw [wb_upe (by omega)]))) (by (repeat (first | rw [wb_upn (by omega)] | rw [wb_upe (by omega)]))) (by (repeat (first | rw [wb_upn (by omega)] | rw [wb_upe (by omega)]))) (by (repeat (first | rw [wb_upn (by omega)] | rw [wb_upe (by omega)]))) (by (repeat (first | rw [wb_upn (by omega)] | rw [wb_upe (by omega)]))) (by (repeat (first | rw [wb_upn (by omega)] | rw [wb_upe (by omega)]))) (by (repeat (first | rw [wb_upn (by omega)] | rw [wb_upe (by omega)]))) (fun k hk => by (repeat (first | rw [wb_upn (by omega)] | rw [wb_upe (by omega)])))) ⟨rfl, rfl, trivial⟩
/-- a new class -/
def wb_N0 (w : wb_W) : Prop := wb_X3 w ∧ (∃ g, wb_rp g (fun _ => true) ∧ wb_Bk w 4 0 (fun _ => 0) (wb_s0 3) (-1) (-1) 0 1 g) ∧ (∃ g, wb_Bk w 10 0 (fun _ => 0) (wb_s0 3) (-1) (-1) 0 1 g) ∧ (∃ g, wb_Bk w 15 0 (fun _ => 0) (wb_s0 3) (-1) (-1) 0 1 g) ∧ wb_Im w (fun _ => 0) ∧ wb_Tx w 21 (fun _ => 0) 0 (fun _ => 0) (fun _ => 0) (fun _ => 0) (fun _ => 0) 0 0 0 ∧ wb_Mw w 23 (fun _ => 0) ∧ ∀ K, wb_In w 0 (fun _ => 0) (wb_s0 3) (-1) (-1) 1 K 0
theorem wb_N0.fr {w w' : wb_W} (h : wb_N0 w) (hf : ∀ k, 3 ≤ k → k < 96 → w' k = w k) : wb_N0 w' := by
  obtain ⟨h1, ⟨g2, r2, h2⟩, ⟨g3, h3⟩, ⟨g4, h4⟩, h5, h6, h7, h8⟩ := h
  exact ⟨(hf _ (by omega) (by omega)).trans h1, ⟨g2, r2, h2.fr (fun k p1 p2 => hf k (by omega) (by omega))⟩, ⟨g3, h3.fr (fun k p1 p2 => hf k (by omega) (by omega))⟩, ⟨g4, h4.fr (fun k p1 p2 => hf k (by omega) (by omega))⟩, ⟨(hf _ (by omega) (by omega)).trans h5.1, (hf _ (by omega) (by omega)).trans h5.2⟩, h6.fr (fun k p1 p2 _ _ => hf k (by omega) (by omega)), h7.fr (fun k p1 p2 => hf k (by omega) (by omega)), fun K => (h8 K).fr (fun k p1 p2 => hf k (by omega) (by omega))⟩
theorem sp_X11_init (h : w 3 = .inr (11, [.null, .null, .null, .null, .null, .null, .null, .null])) (hQ : ∀ w', wb_N0 w' → (∀ k, (k < 3 ∨ 96 ≤ k) → w' k = w k) → Q none 96 w') : wb_M G M_X11_init [.ref 3] 4 w Q := by
  unfold wb_M
  refine vi_aload_n 0 rfl rfl ?_
  refine vi_obj 1 rfl c_X11_1 rfl rfl ?_
  refine vi_aload_n 2 rfl rfl ?_
  refine vi_new 3 rfl (nw_0 l_X11_7) rfl rfl rfl ?_
  refine vi_dup 4 rfl rfl ?_
  refine vi_I0 5 ok_X0_init rfl rfl c_X11_9 rfl ?_
  refine sp_X0_init (b := 4) wb_ups (fun w2 g2 hg2 hbk2 ef2 => ?_)
  have y2 := (ef2 3 (by omega)).trans ((wb_upn (by omega)).trans h)
  have q2 : ∀ k, (k < 3 ∨ 9 ≤ k) → w2 k = w k := fun k hk => (by rw [ef2 k (by omega)]; (repeat (first | rw [wb_upn (by omega)] | rw [wb_upe (by omega)])))
  refine vi_putF 6 rfl ff_X11_10 rfl y2 rfl rfl rfl rfl ?_
  refine vi_aload_n 7 rfl rfl ?_
  refine vi_iconst 8 rfl ?_
  refine vi_anew 9 2 rfl l_X11_7 (Or.inl ⟨rfl, rfl⟩) rfl (by decide) rfl rfl ?_
  refine vi_dup 10 rfl rfl ?_
  refine vi_iconst 11 rfl ?_
  refine vi_new 12 rfl (nw_0 l_X11_7) rfl rfl rfl ?_
  refine vi_dup 13 rfl rfl ?_
  refine vi_I0 14 ok_X0_init rfl rfl c_X11_9 rfl ?_
  refine sp_X0_init (b := 10) wb_ups (fun w3 g3 hg3 hbk3 ef3 => ?_)
  have y3 := (ef3 3 (by omega)).trans ((wb_upn (by omega)).trans ((wb_upn (by omega)).trans wb_ups))
  have q3 : ∀ k, (k < 9 ∧ k ≠ 3 ∨ 15 ≤ k) → w3 k = w2 k := fun k hk => (by rw [ef3 k (by omega)]; (repeat (first | rw [wb_upn (by omega)] | rw [wb_upe (by omega)])))
  have z9 := (ef3 9 (by omega)).trans ((wb_upn (by omega)).trans wb_ups)
  refine vi_aast 15 rfl z9 (Or.inl ⟨rfl, rfl⟩) hbk3.1 (by omega) ?_
  refine vi_dup 16 rfl rfl ?_
  refine vi_iconst 17 rfl ?_
  refine vi_new 18 rfl (nw_0 l_X11_7) rfl rfl rfl ?_
  refine vi_dup 19 rfl rfl ?_
  refine vi_I0 20 ok_X0_init rfl rfl c_X11_9 rfl ?_
  refine sp_X0_init (b := 15) wb_ups (fun w4 g4 hg4 hbk4 ef4 => ?_)
  have y4 := (ef4 3 (by omega)).trans ((wb_upn (by omega)).trans ((wb_upn (by omega)).trans y3))
  have q4 : ∀ k, (k < 15 ∧ k ≠ 9 ∨ 20 ≤ k) → w4 k = w3 k := fun k hk => (by rw [ef4 k (by omega)]; (repeat (first | rw [wb_upn (by omega)] | rw [wb_upe (by omega)])))
  have u9 := (ef4 9 (by omega)).trans ((wb_upn (by omega)).trans wb_ups)
  refine vi_aast 21 rfl u9 (Or.inl ⟨rfl, rfl⟩) hbk4.1 (by omega) ?_
  refine vi_reQ (g' := fun j => some (10 + 5 * j)) wb_ups (fun j hj => ?_) ?_
  · rcases (show j = 0 ∨ j = 1 by omega) with rfl | rfl <;> rfl
  rw [wb_upu]
  refine vi_putF 22 rfl ff_X11_16 rfl ((wb_upn (by omega)).trans y4) rfl rfl rfl rfl ?_
  refine vi_aload_n 23 rfl rfl ?_
  refine vi_iconst 24 rfl ?_
  refine vi_newaZ 25 2 rfl l_arr_boolean rfl (by decide) rfl rfl ?_
  refine vi_putF 26 rfl ff_X11_20 rfl ((wb_upn (by omega)).trans wb_ups) rfl rfl rfl rfl ?_
  refine vi_aload_n 27 rfl rfl ?_
  refine vi_new 28 rfl (nw_8 l_X11_24) rfl rfl rfl ?_
  refine vi_dup 29 rfl rfl ?_
  refine vi_I0 30 ok_X8_init rfl rfl c_X11_26 rfl ?_
  refine sp_X8_init (b := 21) wb_ups (fun w5 htx5 hm5 ef5 => ?_)
  have y5 := (ef5 3 (by omega)).trans ((wb_upn (by omega)).trans wb_ups)
  have q5 : ∀ k, (k < 20 ∧ k ≠ 3 ∧ k ≠ 9 ∨ 29 ≤ k) → w5 k = w4 k := fun k hk => (by rw [ef5 k (by omega)]; (repeat (first | rw [wb_upn (by omega)] | rw [wb_upe (by omega)])))
  have v9 : w5 9 = aQ 4 2 (fun j => some (10 + 5 * j)) := (by rw [ef5 _ (by omega)]; (repeat (first | rw [wb_upn (by omega)] | rw [wb_upe (by omega)])))
  have v20 : w5 20 = aZ 2 (fun _ => 0) := (by rw [ef5 _ (by omega)]; (repeat (first | rw [wb_upn (by omega)] | rw [wb_upe (by omega)])))
  refine vi_putF 31 rfl ff_X11_27 rfl y5 rfl rfl rfl rfl ?_
  refine vi_aload_n 32 rfl rfl ?_
  refine vi_new 33 rfl (nw_10 l_X11_31) rfl rfl rfl ?_
  refine vi_dup 34 rfl rfl ?_
  refine vi_aload_n 35 rfl rfl ?_
  refine vi_get 36 rfl f_X11_10 ((wb_upn (by omega)).trans wb_ups) rfl rfl ?_
  refine vi_I1 37 ok_X10_init rfl rfl c_X11_33 rfl ?_
  refine sp_X10_init wb_ups (fun w6 hwo6 hfs6 hsh6 hm26 hm386 hm406 ef6 => ?_)
  have y6 := (ef6 3 (by omega)).trans ((wb_upn (by omega)).trans wb_ups)
  have q6 : ∀ k, (k < 29 ∧ k ≠ 3 ∨ 81 ≤ k) → w6 k = w5 k := fun k hk => (by rw [ef6 k (by omega)]; (repeat (first | rw [wb_upn (by omega)] | rw [wb_upe (by omega)])))
  refine vi_putF 38 rfl ff_X11_36 rfl y6 rfl rfl rfl rfl ?_
  refine vi_aload_n 39 rfl rfl ?_
  refine vi_new 40 rfl (nw_7 l_X11_40) rfl rfl rfl ?_
  refine vi_dup 41 rfl rfl ?_
  refine vi_aload_n 42 rfl rfl ?_
  refine vi_get 43 rfl f_X11_36 ((wb_upn (by omega)).trans wb_ups) rfl rfl ?_
  refine vi_I1 44 ok_X7_init rfl rfl c_X11_42 rfl ?_
  refine sp_X7_init (b := 81) (a := 29) wb_ups (fun w7 hse7 ef7 => ?_)
  have y7 := (ef7 3 (by omega)).trans ((wb_upn (by omega)).trans wb_ups)
  have q7 : ∀ k, (k ≠ 3 ∧ k ≠ 81) → w7 k = w6 k := fun k hk => (by rw [ef7 k (by omega)]; (repeat (first | rw [wb_upn (by omega)] | rw [wb_upe (by omega)])))
  refine vi_putF 45 rfl ff_X11_45 rfl y7 rfl rfl rfl rfl ?_
  refine vi_aload_n 46 rfl rfl ?_
  refine vi_new 47 rfl (nw_1 l_X11_49) rfl rfl rfl ?_
  refine vi_dup 48 rfl rfl ?_
  refine vi_aload_n 49 rfl rfl ?_
  refine vi_get 50 rfl f_X11_36 ((wb_upn (by omega)).trans wb_ups) rfl rfl ?_
  refine vi_I1 51 ok_X1_init rfl rfl c_X11_51 rfl ?_
  refine sp_X1_init (b := 82) (a := 29) (pb := 30) wb_ups (by omega) ((wb_upn (by omega)).trans ((wb_upn (by omega)).trans ((q7 29 (by omega)).trans hwo6.1))) rfl (fun w8 hbr8 hm838 h858 hms8 ef8 => ?_)
  have y8 := (ef8 3 (by omega)).trans ((wb_upn (by omega)).trans wb_ups)
  have q8 : ∀ k, (k < 82 ∧ k ≠ 3 ∨ 89 ≤ k) → w8 k = w7 k := fun k hk => (by rw [ef8 k (by omega)]; (repeat (first | rw [wb_upn (by omega)] | rw [wb_upe (by omega)])))
  refine vi_putF 52 rfl ff_X11_52 rfl y8 rfl rfl rfl rfl ?_
  refine vi_aload_n 53 rfl rfl ?_
  refine vi_new 54 rfl (nw_9 l_X11_56) rfl rfl rfl ?_
  refine vi_dup 55 rfl rfl ?_
  refine vi_aload_n 56 rfl rfl ?_
  refine vi_get 57 rfl f_X11_36 ((wb_upn (by omega)).trans wb_ups) rfl rfl ?_
  refine vi_I1 58 ok_X9_init rfl rfl c_X11_58 rfl ?_
  refine sp_X9_init (b := 89) (a := 29) wb_ups (fun w9 hwe9 hm909 h929 h939 h949 h959 ef9 => ?_)
  have y9 := (ef9 3 (by omega)).trans ((wb_upn (by omega)).trans wb_ups)
  have q9 : ∀ k, (k < 89 ∧ k ≠ 3 ∨ 96 ≤ k) → w9 k = w8 k := fun k hk => (by rw [ef9 k (by omega)]; (repeat (first | rw [wb_upn (by omega)] | rw [wb_upe (by omega)])))
  refine vi_putF 59 rfl ff_X11_59 rfl y9 rfl rfl rfl rfl ?_
  exact vi_return 60 rfl rfl (Nat.le_of_ble_eq_true rfl) (Nat.le_of_ble_eq_true rfl) (hQ _ ⟨wb_ups, ⟨g2, hg2, hbk2.fr (fun k p1 p2 => by rw [wb_upn (by omega), q9 k (by omega), q8 k (by omega), q7 k (by omega), q6 k (by omega), q5 k (by omega), q4 k (by omega), q3 k (by omega)])⟩, ⟨g3, hbk3.fr (fun k p1 p2 => by rw [wb_upn (by omega), q9 k (by omega), q8 k (by omega), q7 k (by omega), q6 k (by omega), q5 k (by omega), q4 k (by omega)])⟩, ⟨g4, hbk4.fr (fun k p1 p2 => by rw [wb_upn (by omega), q9 k (by omega), q8 k (by omega), q7 k (by omega), q6 k (by omega), q5 k (by omega)])⟩, ⟨by rw [wb_upn (by omega), q9 _ (by omega), q8 _ (by omega), q7 _ (by omega), q6 _ (by omega)]; exact v9, by rw [wb_upn (by omega), q9 _ (by omega), q8 _ (by omega), q7 _ (by omega), q6 _ (by omega)]; exact v20⟩, htx5.fr (fun k p1 p2 _ _ => by rw [wb_upn (by omega), q9 k (by omega), q8 k (by omega), q7 k (by omega), q6 k (by omega)]), hm5.fr (fun k p1 p2 => by rw [wb_upn (by omega), q9 k (by omega), q8 k (by omega), q7 k (by omega), q6 k (by omega)]), fun K => ⟨⟨-1, 0, 0, hwo6.fr (fun k hk => by rw [wb_upn (by omega), q9 k (by omega), q8 k (by omega), q7 k (by omega)]), hfs6.fr (fun k p1 p2 => by rw [wb_upn (by omega), q9 k (by omega), q8 k (by omega), q7 k (by omega)]), hsh6.fr (fun k p1 p2 => by rw [wb_upn (by omega), q9 k (by omega), q8 k (by omega), q7 k (by omega)]), hm26.fr (fun k p1 p2 => by rw [wb_upn (by omega), q9 k (by omega), q8 k (by omega), q7 k (by omega)]), ⟨_, hm386.fr (fun k p1 p2 => by rw [wb_upn (by omega), q9 k (by omega), q8 k (by omega), q7 k (by omega)])⟩, ⟨_, hm406.fr (fun k p1 p2 => by rw [wb_upn (by omega), q9 k (by omega), q8 k (by omega), q7 k (by omega)])⟩, by omega, fun q => by omega⟩, ⟨0, 0, -1, 0, 0, -1, by unfold wb_Se; rw [wb_upn (by omega), q9 _ (by omega), q8 _ (by omega)]; exact hse7, by omega, fun q => by omega, by omega, fun q => by omega⟩, ⟨-1, 0, -1, 0, 0, 0, by unfold wb_Br; rw [wb_upn (by omega), q9 _ (by omega)]; exact hbr8, ⟨⟨_, hm838.fr (fun k p1 p2 => by rw [wb_upn (by omega), q9 k (by omega)])⟩, ⟨_, by rw [wb_upn (by omega), q9 _ (by omega)]; exact h858⟩, _, _, _, hms8.fr (fun k p1 p2 => by rw [wb_upn (by omega), q9 k (by omega)])⟩, by omega, fun q => by omega⟩, ⟨0, _, _, _, _, ⟨(wb_upn (by omega)).trans hwe9, (wb_upn (by omega)).trans h929, (wb_upn (by omega)).trans h939, (wb_upn (by omega)).trans h949, (wb_upn (by omega)).trans h959⟩, ⟨_, hm909.fr (fun k p1 p2 => wb_upn (by omega))⟩, by omega, fun q => by omega⟩⟩⟩ (fun k hk => by rw [wb_upn (by omega), q9 k (by omega), q8 k (by omega), q7 k (by omega), q6 k (by omega), q5 k (by omega), q4 k (by omega), q3 k (by omega), q2 k (by omega)]))
end WBS72
