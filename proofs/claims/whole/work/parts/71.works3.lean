/-! ===== objects are made: the works ===== -/
theorem wb_arrV {cI : ClassId} {n : Nat} {f f' : Nat → Value} (h : ∀ j, j < n → f j = f' j) : arrV cI n f = arrV cI n f' := by
  unfold arrV
  rw [show (fun j : Fin n => f j.val) = (fun j : Fin n => f' j.val) from funext (fun j => h j.val j.isLt)]
section WBS71
variable {G : wb_G} {w : wb_W} {Q : Option Value → Nat → wb_W → Prop}
/-- of an array only the elements that it has matter -/
theorem vi_reQ {M : wb_MD} {pc : Nat} {l : List (Nat × Value)} {st : List Value} {N : Nat} {cc cs : Nat} {q t n : Nat} {g g' : Nat → Option Nat} (hw : w q = aQ t n g) (hg : ∀ j, j < n → g j = g' j) (kk : wb_V G M pc l st N (va_up w q (aQ t n g')) cc cs Q) : wb_V G M pc l st N w cc cs Q := by
  intro p e s m args below meth c H locs ls Qe hC hR hl hf hq
  obtain ⟨h3, hqN, ha⟩ := hR.at hw (by intro q; unfold wb_no aQ at q; cases q)
  refine kk p e s m args below meth c H locs ls Qe hC (hR.set h3 hqN rfl (fun _ _ => rfl) ?_) hl hf hq
  have ha' : H[wb_ad G q]? = some (vp_cell (wb_gc G t) (n, .inr (.inr (.inr (.inr fun j => (g j).map (wb_ad G)))))) := ha
  show H[wb_ad G q]? = some (vp_cell (wb_gc G t) (n, .inr (.inr (.inr (.inr fun j => (g' j).map (wb_ad G))))))
  rw [ha', vp_cell_q, vp_cell_q]
  congr 1
  exact wb_arrV (fun j hj => by rw [hg j hj])
theorem sp_X10_init (h : w 29 = .inr (10, [.null, .null, .null, .null, .null, .null, .null, .null, .null, .int (wb_i 0), .int (wb_i 0), .int (wb_i 0), .int (wb_i 0)])) (hQ : ∀ w', wb_Wo w' (-1) 0 0 0 → wb_FS w' → wb_Sh4 w' → wb_M2 w' → wb_Mw w' 38 (fun _ => 0) → wb_Mw w' 40 (fun _ => 0) → (∀ k, (k < 29 ∨ 81 ≤ k) → w' k = w k) → Q none 81 w') : wb_M G M_X10_init [.ref 29, .ref 4] 30 w Q := by
  unfold wb_M
  refine vi_aload_n 0 rfl rfl ?_
  refine vi_obj 1 rfl c_X10_3 rfl rfl ?_
  refine vi_aload_n 2 rfl rfl ?_
  refine vi_new 3 rfl (nw_6 l_X10_9) rfl rfl rfl ?_
  refine vi_dup 4 rfl rfl ?_
  refine vi_I0 5 ok_X6_init rfl rfl c_X10_11 rfl ?_
  refine sp_X6_init (b := 30) wb_ups (fun w2 hpt2 ef2 => ?_)
  have y2 := (ef2 29 (by omega)).trans ((wb_upn (by omega)).trans h)
  have g2 : ∀ k, (k < 29 ∨ 35 ≤ k) → w2 k = w k := fun k hk => (by rw [ef2 k (by omega)]; (repeat (first | rw [wb_upn (by omega)] | rw [wb_upe (by omega)])))
  refine vi_putF 6 rfl ff_X10_12 rfl y2 rfl rfl rfl rfl ?_
  refine vi_aload_n 7 rfl rfl ?_
  refine vi_new 8 rfl (nw_3 l_X10_18) rfl rfl rfl ?_
  refine vi_dup 9 rfl rfl ?_
  refine vi_I0 10 ok_X3_init rfl rfl c_X10_20 rfl ?_
  refine sp_X3_init (b := 35) wb_ups (fun w3 hfl3 ef3 => ?_)
  have y3 := (ef3 29 (by omega)).trans ((wb_upn (by omega)).trans wb_ups)
  have g3 : ∀ k, ((k < 35 ∧ k ≠ 29) ∨ 38 ≤ k) → w3 k = w2 k := fun k hk => (by rw [ef3 k (by omega)]; (repeat (first | rw [wb_upn (by omega)] | rw [wb_upe (by omega)])))
  refine vi_putF 11 rfl ff_X10_21 rfl y3 rfl rfl rfl rfl ?_
  refine vi_aload_n 12 rfl rfl ?_
  refine vi_new 13 rfl (nw_5 l_X10_25) rfl rfl rfl ?_
  refine vi_dup 14 rfl rfl ?_
  refine vi_I0 15 ok_X5_init rfl rfl c_X10_27 rfl ?_
  refine sp_X5_init (b := 38) wb_ups (fun w4 hm4 ef4 => ?_)
  have y4 := (ef4 29 (by omega)).trans ((wb_upn (by omega)).trans wb_ups)
  have g4 : ∀ k, ((k < 38 ∧ k ≠ 29) ∨ 40 ≤ k) → w4 k = w3 k := fun k hk => (by rw [ef4 k (by omega)]; (repeat (first | rw [wb_upn (by omega)] | rw [wb_upe (by omega)])))
  refine vi_putF 16 rfl ff_X10_28 rfl y4 rfl rfl rfl rfl ?_
  refine vi_aload_n 17 rfl rfl ?_
  refine vi_new 18 rfl (nw_5 l_X10_25) rfl rfl rfl ?_
  refine vi_dup 19 rfl rfl ?_
  refine vi_I0 20 ok_X5_init rfl rfl c_X10_27 rfl ?_
  refine sp_X5_init (b := 40) wb_ups (fun w5 hm5 ef5 => ?_)
  have y5 := (ef5 29 (by omega)).trans ((wb_upn (by omega)).trans wb_ups)
  have g5 : ∀ k, ((k < 40 ∧ k ≠ 29) ∨ 42 ≤ k) → w5 k = w4 k := fun k hk => (by rw [ef5 k (by omega)]; (repeat (first | rw [wb_upn (by omega)] | rw [wb_upe (by omega)])))
  refine vi_putF 21 rfl ff_X10_32 rfl y5 rfl rfl rfl rfl ?_
  refine vi_aload_n 22 rfl rfl ?_
  refine vi_iconst 23 rfl ?_
  refine vi_newaL 24 2 rfl l_arr_long rfl (by decide) rfl rfl ?_
  refine vi_putF 25 rfl ff_X10_35 rfl ((wb_upn (by omega)).trans wb_ups) rfl rfl rfl rfl ?_
  refine vi_aload_n 26 rfl rfl ?_
  refine vi_iconst 27 rfl ?_
  refine vi_newaL 28 2 rfl l_arr_long rfl (by decide) rfl rfl ?_
  refine vi_putF 29 rfl ff_X10_39 rfl ((wb_upn (by omega)).trans wb_ups) rfl rfl rfl rfl ?_
  refine vi_aload_n 30 rfl rfl ?_
  refine vi_iconst 31 rfl ?_
  refine vi_put 32 rfl f_X10_42 wb_ups rfl rfl rfl rfl ?_
  rw [wb_upu]
  refine vi_aload_n 33 rfl rfl ?_
  refine vi_aload_n 34 rfl rfl ?_
  refine vi_putF 35 rfl ff_X10_46 rfl wb_ups rfl rfl rfl rfl ?_
  rw [wb_upu]
  refine vi_aload_n 36 rfl rfl ?_
  refine vi_iconst 37 rfl ?_
  refine vi_anew 38 3 rfl l_X10_50 (Or.inr ⟨rfl, rfl⟩) rfl (by decide) rfl rfl ?_
  refine vi_dup 39 rfl rfl ?_
  refine vi_iconst 40 rfl ?_
  refine vi_new 41 rfl (nw_2 l_X10_50) rfl rfl rfl ?_
  refine vi_dup 42 rfl rfl ?_
  refine vi_aload_n 43 rfl rfl ?_
  refine vi_get 44 rfl f_X10_12 ((wb_upn (by omega)).trans ((wb_upn (by omega)).trans wb_ups)) rfl rfl ?_
  refine vi_bipush 45 rfl (by decide) ?_
  refine vi_I2 46 ok_X2_init rfl rfl c_X10_52 rfl ?_
  refine sp_X2_init (b := 45) (pb := 30) (rm := 25) (Or.inl rfl) wb_ups (fun w6 hco6 hms6 ef6 => ?_)
  have y6 := (ef6 29 (by omega)).trans ((wb_upn (by omega)).trans ((wb_upn (by omega)).trans wb_ups))
  have g6 : ∀ k, ((k < 42 ∧ k ≠ 29) ∨ 54 ≤ k) → w6 k = w5 k := fun k hk => (by rw [ef6 k (by omega)]; (repeat (first | rw [wb_upn (by omega)] | rw [wb_upe (by omega)])))
  have z42 : w6 42 = aL 2 (fun _ => 0) := (by rw [ef6 _ (by omega)]; (repeat (first | rw [wb_upn (by omega)] | rw [wb_upe (by omega)])))
  have z43 : w6 43 = aL 2 (fun _ => 0) := (by rw [ef6 _ (by omega)]; (repeat (first | rw [wb_upn (by omega)] | rw [wb_upe (by omega)])))
  have z44 := (ef6 44 (by omega)).trans ((wb_upn (by omega)).trans wb_ups)
  obtain ⟨p0, p1, p2⟩ : ∃ fs, w6 45 = .inr (2, fs) ∧ True := (by obtain ⟨_, _, q, _⟩ := hco6; exact ⟨_, q, trivial⟩)
  refine vi_aast 47 rfl z44 (Or.inr ⟨rfl, rfl⟩) p1 (by omega) ?_
  refine vi_dup 48 rfl rfl ?_
  refine vi_iconst 49 rfl ?_
  refine vi_new 50 rfl (nw_2 l_X10_50) rfl rfl rfl ?_
  refine vi_dup 51 rfl rfl ?_
  refine vi_aload_n 52 rfl rfl ?_
  refine vi_get 53 rfl f_X10_12 ((wb_upn (by omega)).trans ((wb_upn (by omega)).trans y6)) rfl rfl ?_
  refine vi_bipush 54 rfl (by decide) ?_
  refine vi_I2 55 ok_X2_init rfl rfl c_X10_52 rfl ?_
  refine sp_X2_init (b := 54) (pb := 30) (rm := 25) (Or.inl rfl) wb_ups (fun w7 hco7 hms7 ef7 => ?_)
  have y7 := (ef7 29 (by omega)).trans ((wb_upn (by omega)).trans ((wb_upn (by omega)).trans y6))
  have g7 : ∀ k, ((k < 54 ∧ k ≠ 44) ∨ 63 ≤ k) → w7 k = w6 k := fun k hk => (by rw [ef7 k (by omega)]; (repeat (first | rw [wb_upn (by omega)] | rw [wb_upe (by omega)])))
  have u44 := (ef7 44 (by omega)).trans ((wb_upn (by omega)).trans wb_ups)
  obtain ⟨p3, p4, p5⟩ : ∃ fs, w7 54 = .inr (2, fs) ∧ True := (by obtain ⟨_, _, q, _⟩ := hco7; exact ⟨_, q, trivial⟩)
  refine vi_aast 56 rfl u44 (Or.inr ⟨rfl, rfl⟩) p4 (by omega) ?_
  refine vi_dup 57 rfl rfl ?_
  refine vi_iconst 58 rfl ?_
  refine vi_new 59 rfl (nw_2 l_X10_50) rfl rfl rfl ?_
  refine vi_dup 60 rfl rfl ?_
  refine vi_aload_n 61 rfl rfl ?_
  refine vi_get 62 rfl f_X10_12 ((wb_upn (by omega)).trans ((wb_upn (by omega)).trans y7)) rfl rfl ?_
  refine vi_bipush 63 rfl (by decide) ?_
  refine vi_I2 64 ok_X2_init rfl rfl c_X10_52 rfl ?_
  refine sp_X2_init (b := 63) (pb := 30) (rm := 25) (Or.inl rfl) wb_ups (fun w8 hco8 hms8 ef8 => ?_)
  have y8 := (ef8 29 (by omega)).trans ((wb_upn (by omega)).trans ((wb_upn (by omega)).trans y7))
  have g8 : ∀ k, ((k < 63 ∧ k ≠ 44) ∨ 72 ≤ k) → w8 k = w7 k := fun k hk => (by rw [ef8 k (by omega)]; (repeat (first | rw [wb_upn (by omega)] | rw [wb_upe (by omega)])))
  have v44 := (ef8 44 (by omega)).trans ((wb_upn (by omega)).trans wb_ups)
  obtain ⟨p6, p7, p8⟩ : ∃ fs, w8 63 = .inr (2, fs) ∧ True := (by obtain ⟨_, _, q, _⟩ := hco8; exact ⟨_, q, trivial⟩)
  refine vi_aast 65 rfl v44 (Or.inr ⟨rfl, rfl⟩) p7 (by omega) ?_
  refine vi_reQ (g' := fun j => some (45 + 9 * j)) wb_ups (fun j hj => ?_) ?_
  · rcases (show j = 0 ∨ j = 1 ∨ j = 2 by omega) with rfl | rfl | rfl <;> rfl
  rw [wb_upu]
  refine vi_putF 66 rfl ff_X10_55 rfl ((wb_upn (by omega)).trans y8) rfl rfl rfl rfl ?_
  refine vi_aload_n 67 rfl rfl ?_
  refine vi_new 68 rfl (nw_2 l_X10_50) rfl rfl rfl ?_
  refine vi_dup 69 rfl rfl ?_
  refine vi_aload_n 70 rfl rfl ?_
  refine vi_get 71 rfl f_X10_12 ((wb_upn (by omega)).trans wb_ups) rfl rfl ?_
  refine vi_sipush 72 rfl (by decide) ?_
  refine vi_I2 73 ok_X2_init rfl rfl c_X10_52 rfl ?_
  refine sp_X2_init (b := 72) (pb := 30) (rm := 625) (Or.inr rfl) wb_ups (fun w9 hco9 hms9 ef9 => ?_)
  have y9 := (ef9 29 (by omega)).trans ((wb_upn (by omega)).trans wb_ups)
  have g9 : ∀ k, ((k < 72 ∧ k ≠ 44 ∧ k ≠ 29) ∨ 81 ≤ k) → w9 k = w8 k := fun k hk => (by rw [ef9 k (by omega)]; (repeat (first | rw [wb_upn (by omega)] | rw [wb_upe (by omega)])))
  have x44 : w9 44 = aQ 5 3 (fun j => some (45 + 9 * j)) := (by rw [ef9 _ (by omega)]; (repeat (first | rw [wb_upn (by omega)] | rw [wb_upe (by omega)])))
  refine vi_putF 74 rfl ff_X10_59 rfl y9 rfl rfl rfl rfl ?_
  exact vi_return 75 rfl rfl (Nat.le_of_ble_eq_true rfl) (Nat.le_of_ble_eq_true rfl) (hQ _ ⟨wb_ups, (wb_upn (by omega)).trans x44, hpt2.fr (fun k p1 p2 => by rw [wb_upn (by omega), g9 k (by omega), g8 k (by omega), g7 k (by omega), g6 k (by omega), g5 k (by omega), g4 k (by omega), g3 k (by omega)])⟩ ⟨_, _, _, _, _, _, _, _, _, hfl3.fr (fun k p1 p2 => by rw [wb_upn (by omega), g9 k (by omega), g8 k (by omega), g7 k (by omega), g6 k (by omega), g5 k (by omega), g4 k (by omega)])⟩ ⟨⟨⟨_, _, _, _, _, _, hco6.fr (fun k p1 p2 => by rw [wb_upn (by omega), g9 k (by omega), g8 k (by omega), g7 k (by omega)])⟩, _, _, _, hms6.fr (fun k p1 p2 => by rw [wb_upn (by omega), g9 k (by omega), g8 k (by omega), g7 k (by omega)])⟩, ⟨⟨_, _, _, _, _, _, hco7.fr (fun k p1 p2 => by rw [wb_upn (by omega), g9 k (by omega), g8 k (by omega)])⟩, _, _, _, hms7.fr (fun k p1 p2 => by rw [wb_upn (by omega), g9 k (by omega), g8 k (by omega)])⟩, ⟨⟨_, _, _, _, _, _, hco8.fr (fun k p1 p2 => by rw [wb_upn (by omega), g9 k (by omega)])⟩, _, _, _, hms8.fr (fun k p1 p2 => by rw [wb_upn (by omega), g9 k (by omega)])⟩, ⟨⟨_, _, _, _, _, _, hco9.fr (fun k p1 p2 => wb_upn (by omega))⟩, _, _, _, hms9.fr (fun k p1 p2 => wb_upn (by omega))⟩⟩ ⟨_, _, by rw [wb_upn (by omega), g9 _ (by omega), g8 _ (by omega), g7 _ (by omega)]; exact z42, by rw [wb_upn (by omega), g9 _ (by omega), g8 _ (by omega), g7 _ (by omega)]; exact z43⟩ (hm4.fr (fun k p1 p2 => by rw [wb_upn (by omega), g9 k (by omega), g8 k (by omega), g7 k (by omega), g6 k (by omega), g5 k (by omega)])) (hm5.fr (fun k p1 p2 => by rw [wb_upn (by omega), g9 k (by omega), g8 k (by omega), g7 k (by omega), g6 k (by omega)])) (fun k hk => by rw [wb_upn (by omega), g9 k (by omega), g8 k (by omega), g7 k (by omega), g6 k (by omega), g5 k (by omega), g4 k (by omega), g3 k (by omega), g2 k (by omega)]))
end WBS71
