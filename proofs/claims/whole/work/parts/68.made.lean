/-! ===== objects are made: the small ones ===== -/
theorem nw_0 {o : String} {idx : Nat} (h : Cond.classLink o idx RX0 ∈ wb_GW) : wb_LN o idx 0 [.int (wb_i 0), .null, .null, .int (wb_i 0), .int (wb_i 0), .int (wb_i 0), .null, .int (wb_i 0)] := ⟨RX0, TX0, tyX0, cl_0, h, fun j hj => by
  match j, hj with
  | 0, _ => rfl
  | 1, _ => rfl
  | 2, _ => rfl
  | 3, _ => rfl
  | 4, _ => rfl
  | 5, _ => rfl
  | 6, _ => rfl
  | 7, _ => rfl
  | j + 8, hj => exact absurd hj (by show ¬ (j + 8 < 8); omega)⟩
theorem nw_1 {o : String} {idx : Nat} (h : Cond.classLink o idx RX1 ∈ wb_GW) : wb_LN o idx 1 [.null, .null, .null, .null, .int (wb_i 0), .int (wb_i 0), .int (wb_i 0), .int (wb_i 0), .int (wb_i 0), .int (wb_i 0)] := ⟨RX1, TX1, tyX1, cl_1, h, fun j hj => by
  match j, hj with
  | 0, _ => rfl
  | 1, _ => rfl
  | 2, _ => rfl
  | 3, _ => rfl
  | 4, _ => rfl
  | 5, _ => rfl
  | 6, _ => rfl
  | 7, _ => rfl
  | 8, _ => rfl
  | 9, _ => rfl
  | j + 10, hj => exact absurd hj (by show ¬ (j + 10 < 10); omega)⟩
theorem nw_2 {o : String} {idx : Nat} (h : Cond.classLink o idx RX2 ∈ wb_GW) : wb_LN o idx 2 [.int (wb_i 0), .null, .null, .null, .null, .null, .null, .int (wb_i 0), .int (wb_i 0), .int (wb_i 0)] := ⟨RX2, TX2, tyX2, cl_2, h, fun j hj => by
  match j, hj with
  | 0, _ => rfl
  | 1, _ => rfl
  | 2, _ => rfl
  | 3, _ => rfl
  | 4, _ => rfl
  | 5, _ => rfl
  | 6, _ => rfl
  | 7, _ => rfl
  | 8, _ => rfl
  | 9, _ => rfl
  | j + 10, hj => exact absurd hj (by show ¬ (j + 10 < 10); omega)⟩
theorem nw_3 {o : String} {idx : Nat} (h : Cond.classLink o idx RX3 ∈ wb_GW) : wb_LN o idx 3 [.int (wb_i 0), .null, .null, .int (wb_i 0), .int (wb_i 0), .int (wb_i 0), .int (wb_i 0), .int (wb_i 0), .int (wb_i 0)] := ⟨RX3, TX3, tyX3, cl_3, h, fun j hj => by
  match j, hj with
  | 0, _ => rfl
  | 1, _ => rfl
  | 2, _ => rfl
  | 3, _ => rfl
  | 4, _ => rfl
  | 5, _ => rfl
  | 6, _ => rfl
  | 7, _ => rfl
  | 8, _ => rfl
  | j + 9, hj => exact absurd hj (by show ¬ (j + 9 < 9); omega)⟩
theorem nw_4 {o : String} {idx : Nat} (h : Cond.classLink o idx RX4 ∈ wb_GW) : wb_LN o idx 4 [.null, .null, .null, .int (wb_i 0), .int (wb_i 0)] := ⟨RX4, TX4, tyX4, cl_4, h, fun j hj => by
  match j, hj with
  | 0, _ => rfl
  | 1, _ => rfl
  | 2, _ => rfl
  | 3, _ => rfl
  | 4, _ => rfl
  | j + 5, hj => exact absurd hj (by show ¬ (j + 5 < 5); omega)⟩
theorem nw_5 {o : String} {idx : Nat} (h : Cond.classLink o idx RX5 ∈ wb_GW) : wb_LN o idx 5 [.null] := ⟨RX5, TX5, tyX5, cl_5, h, fun j hj => by
  match j, hj with
  | 0, _ => rfl
  | j + 1, hj => exact absurd hj (by show ¬ (j + 1 < 1); omega)⟩
theorem nw_6 {o : String} {idx : Nat} (h : Cond.classLink o idx RX6 ∈ wb_GW) : wb_LN o idx 6 [.null, .null, .null, .null] := ⟨RX6, TX6, tyX6, cl_6, h, fun j hj => by
  match j, hj with
  | 0, _ => rfl
  | 1, _ => rfl
  | 2, _ => rfl
  | 3, _ => rfl
  | j + 4, hj => exact absurd hj (by show ¬ (j + 4 < 4); omega)⟩
theorem nw_7 {o : String} {idx : Nat} (h : Cond.classLink o idx RX7 ∈ wb_GW) : wb_LN o idx 7 [.null, .int (wb_i 0), .int (wb_i 0), .int (wb_i 0), .int (wb_i 0), .int (wb_i 0), .int (wb_i 0)] := ⟨RX7, TX7, tyX7, cl_7, h, fun j hj => by
  match j, hj with
  | 0, _ => rfl
  | 1, _ => rfl
  | 2, _ => rfl
  | 3, _ => rfl
  | 4, _ => rfl
  | 5, _ => rfl
  | 6, _ => rfl
  | j + 7, hj => exact absurd hj (by show ¬ (j + 7 < 7); omega)⟩
theorem nw_8 {o : String} {idx : Nat} (h : Cond.classLink o idx RX8 ∈ wb_GW) : wb_LN o idx 8 [.null, .int (wb_i 0), .null, .null, .null, .null, .null, .int (wb_i 0), .int (wb_i 0), .int (wb_i 0)] := ⟨RX8, TX8, tyX8, cl_8, h, fun j hj => by
  match j, hj with
  | 0, _ => rfl
  | 1, _ => rfl
  | 2, _ => rfl
  | 3, _ => rfl
  | 4, _ => rfl
  | 5, _ => rfl
  | 6, _ => rfl
  | 7, _ => rfl
  | 8, _ => rfl
  | 9, _ => rfl
  | j + 10, hj => exact absurd hj (by show ¬ (j + 10 < 10); omega)⟩
theorem nw_9 {o : String} {idx : Nat} (h : Cond.classLink o idx RX9 ∈ wb_GW) : wb_LN o idx 9 [.null, .null, .null, .null, .null, .null, .int (wb_i 0)] := ⟨RX9, TX9, tyX9, cl_9, h, fun j hj => by
  match j, hj with
  | 0, _ => rfl
  | 1, _ => rfl
  | 2, _ => rfl
  | 3, _ => rfl
  | 4, _ => rfl
  | 5, _ => rfl
  | 6, _ => rfl
  | j + 7, hj => exact absurd hj (by show ¬ (j + 7 < 7); omega)⟩
theorem nw_10 {o : String} {idx : Nat} (h : Cond.classLink o idx RX10 ∈ wb_GW) : wb_LN o idx 10 [.null, .null, .null, .null, .null, .null, .null, .null, .null, .int (wb_i 0), .int (wb_i 0), .int (wb_i 0), .int (wb_i 0)] := ⟨RX10, TX10, tyX10, cl_10, h, fun j hj => by
  match j, hj with
  | 0, _ => rfl
  | 1, _ => rfl
  | 2, _ => rfl
  | 3, _ => rfl
  | 4, _ => rfl
  | 5, _ => rfl
  | 6, _ => rfl
  | 7, _ => rfl
  | 8, _ => rfl
  | 9, _ => rfl
  | 10, _ => rfl
  | 11, _ => rfl
  | 12, _ => rfl
  | j + 13, hj => exact absurd hj (by show ¬ (j + 13 < 13); omega)⟩
theorem nw_11 {o : String} {idx : Nat} (h : Cond.classLink o idx RX11 ∈ wb_GW) : wb_LN o idx 11 [.null, .null, .null, .null, .null, .null, .null, .null] := ⟨RX11, TX11, tyX11, cl_11, h, fun j hj => by
  match j, hj with
  | 0, _ => rfl
  | 1, _ => rfl
  | 2, _ => rfl
  | 3, _ => rfl
  | 4, _ => rfl
  | 5, _ => rfl
  | 6, _ => rfl
  | 7, _ => rfl
  | j + 8, hj => exact absurd hj (by show ¬ (j + 8 < 8); omega)⟩
theorem nw_12 {o : String} {idx : Nat} (h : Cond.classLink o idx RX12 ∈ wb_GW) : wb_LN o idx 12 [.int (wb_i 0), .null, .null, .int (wb_i 0), .int (wb_i 0), .int (wb_i 0), .null, .int (wb_i 0), .null, .int (wb_i 0), .int (wb_i 0), .int (wb_i 0), .int (wb_i 0), .int (wb_i 0), .int (wb_i 0), .int (wb_i 0), .int (wb_i 0), .null, .null, .null, .int (wb_i 0), .null, .int (wb_i 0), .null, .null, .null] := ⟨RX12, TX12, tyX12, cl_12, h, fun j hj => by
  match j, hj with
  | 0, _ => rfl
  | 1, _ => rfl
  | 2, _ => rfl
  | 3, _ => rfl
  | 4, _ => rfl
  | 5, _ => rfl
  | 6, _ => rfl
  | 7, _ => rfl
  | 8, _ => rfl
  | 9, _ => rfl
  | 10, _ => rfl
  | 11, _ => rfl
  | 12, _ => rfl
  | 13, _ => rfl
  | 14, _ => rfl
  | 15, _ => rfl
  | 16, _ => rfl
  | 17, _ => rfl
  | 18, _ => rfl
  | 19, _ => rfl
  | 20, _ => rfl
  | 21, _ => rfl
  | 22, _ => rfl
  | 23, _ => rfl
  | 24, _ => rfl
  | 25, _ => rfl
  | j + 26, hj => exact absurd hj (by show ¬ (j + 26 < 26); omega)⟩
theorem wb_upe {w : wb_W} {k j : Nat} {e : va_E} (h : j = k) : va_up w k e j = e := if_pos h
section WBS68
variable {G : wb_G} {w : wb_W} {Q : Option Value → Nat → wb_W → Prop} {b pb : Nat}
theorem sp_X5_init (h : w b = .inr (5, [.null])) (hQ : ∀ w', wb_Mw w' b (fun _ => 0) → (∀ k, (k < b ∨ b + 2 ≤ k) → w' k = w k) → Q none (b + 2) w') : wb_M G M_X5_init [.ref b] (b + 1) w Q := by
  unfold wb_M
  refine vi_aload_n 0 rfl rfl ?_
  refine vi_obj 1 rfl c_X5_3 rfl rfl ?_
  refine vi_aload_n 2 rfl rfl ?_
  refine vi_sipush 3 rfl (by decide) ?_
  refine vi_newaL 4 250 rfl l_arr_long rfl (by decide) rfl rfl ?_
  refine vi_putF 5 rfl ff_X5_11 rfl ((wb_upn (by omega)).trans h) rfl rfl rfl rfl ?_
  exact vi_return 6 rfl rfl (Nat.le_of_ble_eq_true rfl) (Nat.le_of_ble_eq_true rfl) (hQ _ ⟨wb_ups, (wb_upn (by omega)).trans wb_ups⟩ (fun k hk => by rw [wb_upn (by omega), wb_upn (by omega)]))
theorem sp_X3_init (h : w b = .inr (3, [.int (wb_i 0), .null, .null, .int (wb_i 0), .int (wb_i 0), .int (wb_i 0), .int (wb_i 0), .int (wb_i 0), .int (wb_i 0)])) (hQ : ∀ w', wb_Fl w' b 0 (fun _ => 0) (fun _ => 0) 0 0 0 0 0 0 → (∀ k, (k < b ∨ b + 3 ≤ k) → w' k = w k) → Q none (b + 3) w') : wb_M G M_X3_init [.ref b] (b + 1) w Q := by
  unfold wb_M
  refine vi_aload_n 0 rfl rfl ?_
  refine vi_obj 1 rfl c_X3_3 rfl rfl ?_
  refine vi_aload_n 2 rfl rfl ?_
  refine vi_bipush 3 rfl (by decide) ?_
  refine vi_newaI 4 8 rfl l_arr_int rfl (by decide) rfl rfl ?_
  refine vi_putF 5 rfl ff_X3_9 rfl ((wb_upn (by omega)).trans h) rfl rfl rfl rfl ?_
  refine vi_aload_n 6 rfl rfl ?_
  refine vi_bipush 7 rfl (by decide) ?_
  refine vi_newaI 8 8 rfl l_arr_int rfl (by decide) rfl rfl ?_
  refine vi_putF 9 rfl ff_X3_15 rfl ((wb_upn (by omega)).trans wb_ups) rfl rfl rfl rfl ?_
  exact vi_return 10 rfl rfl (Nat.le_of_ble_eq_true rfl) (Nat.le_of_ble_eq_true rfl) (hQ _ ⟨wb_ups, by rw [wb_upn (by omega), wb_upn (by omega), wb_upn (by omega), wb_ups], by rw [wb_upn (by omega), wb_ups]⟩ (fun k hk => by rw [wb_upn (by omega), wb_upn (by omega), wb_upn (by omega), wb_upn (by omega)]))
theorem sp_X4_init (h : w b = .inr (4, [.null, .null, .null, .int (wb_i 0), .int (wb_i 0)])) (hQ : ∀ w', wb_Ms w' b pb 0 (-1) (fun _ _ => false) → (∀ k, (k < b ∨ b + 3 ≤ k) → w' k = w k) → Q none (b + 3) w') : wb_M G M_X4_init [.ref b, .ref pb] (b + 1) w Q := by
  unfold wb_M
  refine vi_aload_n 0 rfl rfl ?_
  refine vi_obj 1 rfl c_X4_3 rfl rfl ?_
  refine vi_aload_n 2 rfl rfl ?_
  refine vi_bipush 3 rfl (by decide) ?_
  refine vi_newaL 4 25 rfl l_arr_long rfl (by decide) rfl rfl ?_
  refine vi_putF 5 rfl ff_X4_9 rfl ((wb_upn (by omega)).trans h) rfl rfl rfl rfl ?_
  refine vi_aload_n 6 rfl rfl ?_
  refine vi_bipush 7 rfl (by decide) ?_
  refine vi_newaL 8 25 rfl l_arr_long rfl (by decide) rfl rfl ?_
  refine vi_putF 9 rfl ff_X4_15 rfl ((wb_upn (by omega)).trans wb_ups) rfl rfl rfl rfl ?_
  refine vi_aload_n 10 rfl rfl ?_
  refine vi_iconst 11 rfl ?_
  refine vi_put 12 rfl f_X4_18 wb_ups rfl rfl rfl rfl ?_
  rw [wb_upu]
  refine vi_aload_n 13 rfl rfl ?_
  refine vi_aload_n 14 rfl rfl ?_
  refine vi_putF 15 rfl ff_X4_22 rfl wb_ups rfl rfl rfl rfl ?_
  rw [wb_upu]
  exact vi_return 16 rfl rfl (Nat.le_of_ble_eq_true rfl) (Nat.le_of_ble_eq_true rfl) (hQ _ ⟨fun _ => 0, fun _ => 0, wb_ups, by rw [wb_upn (by omega), wb_upn (by omega), wb_upn (by omega), wb_ups], by rw [wb_upn (by omega), wb_ups], fun r q _ _ _ _ => ⟨wb_tb_0 q, by rw [wb_tb_0, Bool.and_false]⟩⟩ (fun k hk => by rw [wb_upn (by omega), wb_upn (by omega), wb_upn (by omega), wb_upn (by omega)]))
theorem sp_X7_init {a : Nat} (h : w b = .inr (7, [.null, .int (wb_i 0), .int (wb_i 0), .int (wb_i 0), .int (wb_i 0), .int (wb_i 0), .int (wb_i 0)])) (hQ : ∀ w', w' b = .inr (7, [.ref a, .int (wb_i 0), .int (wb_i 0), .int (wb_i (-1)), .int (wb_i 0), .int (wb_i 0), .int (wb_i (-1))]) → (∀ k, k ≠ b → w' k = w k) → Q none (b + 1) w') : wb_M G M_X7_init [.ref b, .ref a] (b + 1) w Q := by
  unfold wb_M
  refine vi_aload_n 0 rfl rfl ?_
  refine vi_obj 1 rfl c_X7_3 rfl rfl ?_
  refine vi_aload_n 2 rfl rfl ?_
  refine vi_iconst 3 rfl ?_
  refine vi_put 4 rfl f_X7_9 h rfl rfl rfl rfl ?_
  refine vi_aload_n 5 rfl rfl ?_
  refine vi_iconst 6 rfl ?_
  refine vi_put 7 rfl f_X7_15 wb_ups rfl rfl rfl rfl ?_
  rw [wb_upu]
  refine vi_aload_n 8 rfl rfl ?_
  refine vi_aload_n 9 rfl rfl ?_
  refine vi_putF 10 rfl ff_X7_18 rfl wb_ups rfl rfl rfl rfl ?_
  rw [wb_upu]
  exact vi_return 11 rfl rfl (Nat.le_of_ble_eq_true rfl) (Nat.le_of_ble_eq_true rfl) (hQ _ wb_ups (fun k hk => wb_upn hk))
theorem sp_X8_init (h : w b = .inr (8, [.null, .int (wb_i 0), .null, .null, .null, .null, .null, .int (wb_i 0), .int (wb_i 0), .int (wb_i 0)])) (hQ : ∀ w', wb_Tx w' b (fun _ => 0) 0 (fun _ => 0) (fun _ => 0) (fun _ => 0) (fun _ => 0) 0 0 0 → wb_Mw w' (b + 2) (fun _ => 0) → (∀ k, (k < b ∨ b + 8 ≤ k) → w' k = w k) → Q none (b + 8) w') : wb_M G M_X8_init [.ref b] (b + 1) w Q := by
  unfold wb_M
  refine vi_aload_n 0 rfl rfl ?_
  refine vi_obj 1 rfl c_X8_3 rfl rfl ?_
  refine vi_aload_n 2 rfl rfl ?_
  refine vi_bipush 3 rfl (by decide) ?_
  refine vi_newaI 4 50 rfl l_arr_int rfl (by decide) rfl rfl ?_
  refine vi_putF 5 rfl ff_X8_9 rfl ((wb_upn (by omega)).trans h) rfl rfl rfl rfl ?_
  refine vi_aload_n 6 rfl rfl ?_
  refine vi_new 7 rfl (nw_5 l_X8_15) rfl rfl rfl ?_
  refine vi_dup 8 rfl rfl ?_
  refine vi_I0 9 ok_X5_init rfl rfl c_X8_17 rfl ?_
  refine sp_X5_init (b := b + 1 + 1) wb_ups (fun w2 hm2 ef2 => ?_)
  have x0 := (ef2 b (by omega)).trans ((wb_upn (by omega)).trans wb_ups)
  have x1 := (ef2 (b + 1) (by omega)).trans ((wb_upn (by omega)).trans ((wb_upn (by omega)).trans wb_ups))
  refine vi_putF 10 rfl ff_X8_18 rfl x0 rfl rfl rfl rfl ?_
  refine vi_aload_n 11 rfl rfl ?_
  refine vi_iconst 12 rfl ?_
  refine vi_newaI 13 3 rfl l_arr_int rfl (by decide) rfl rfl ?_
  refine vi_putF 14 rfl ff_X8_22 rfl ((wb_upn (by omega)).trans wb_ups) rfl rfl rfl rfl ?_
  refine vi_aload_n 15 rfl rfl ?_
  refine vi_iconst 16 rfl ?_
  refine vi_newaI 17 3 rfl l_arr_int rfl (by decide) rfl rfl ?_
  refine vi_putF 18 rfl ff_X8_25 rfl ((wb_upn (by omega)).trans wb_ups) rfl rfl rfl rfl ?_
  refine vi_aload_n 19 rfl rfl ?_
  refine vi_bipush 20 rfl (by decide) ?_
  refine vi_newaL 21 66 rfl l_arr_long rfl (by decide) rfl rfl ?_
  refine vi_putF 22 rfl ff_X8_28 rfl ((wb_upn (by omega)).trans wb_ups) rfl rfl rfl rfl ?_
  refine vi_aload_n 23 rfl rfl ?_
  refine vi_bipush 24 rfl (by decide) ?_
  refine vi_newaL 25 66 rfl l_arr_long rfl (by decide) rfl rfl ?_
  refine vi_putF 26 rfl ff_X8_32 rfl ((wb_upn (by omega)).trans wb_ups) rfl rfl rfl rfl ?_
  exact vi_return 27 rfl rfl (Nat.le_of_ble_eq_true rfl) (Nat.le_of_ble_eq_true rfl) (hQ _ ⟨wb_ups, by (repeat (first | rw [wb_upn (by omega)] | rw [wb_upe (by omega)])); exact x1, by (repeat (first | rw [wb_upn (by omega)] | rw [wb_upe (by omega)])), by (repeat (first | rw [wb_upn (by omega)] | rw [wb_upe (by omega)])), by (repeat (first | rw [wb_upn (by omega)] | rw [wb_upe (by omega)])), by (repeat (first | rw [wb_upn (by omega)] | rw [wb_upe (by omega)]))⟩ ⟨by (repeat (first | rw [wb_upn (by omega)] | rw [wb_upe (by omega)])); exact hm2.1, by (repeat (first | rw [wb_upn (by omega)] | rw [wb_upe (by omega)])); exact hm2.2⟩ (fun k hk => by (repeat (first | rw [wb_upn (by omega)] | rw [wb_upe (by omega)])); rw [ef2 k (by omega)]; (repeat (first | rw [wb_upn (by omega)] | rw [wb_upe (by omega)]))))
end WBS68
