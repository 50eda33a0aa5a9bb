/-! ===== the reference's static helpers ===== -/
def wb_dg (x j : Int) : Int := if j = 0 then x / 3125 % 5 else if j = 1 then x / 625 % 5 else if j = 2 then x / 125 % 5 else if j = 3 then x / 25 % 5 else if j = 4 then x / 5 % 5 else x % 5
theorem wb_dg_rg {x j : Int} (hx : 0 ≤ x) : 0 ≤ wb_dg x j ∧ wb_dg x j ≤ 4 := by unfold wb_dg; split <;> (try split) <;> (try split) <;> (try split) <;> (try split) <;> omega
theorem wb_dg_lo {x t : Int} (ht : 0 ≤ t ∧ t ≤ 2) (hx : 0 ≤ x ∧ x < 15625) : wb_dg x t = wb_am (x / 125) t := by
  rcases (show t = 0 ∨ t = 1 ∨ t = 2 by omega) with rfl | rfl | rfl <;> simp [wb_dg, wb_am] <;> omega
theorem wb_dg_hi {x t : Int} (ht : 0 ≤ t ∧ t ≤ 2) (hx : 0 ≤ x ∧ x < 15625) : wb_dg x (3 + t) = wb_am (x % 125) t := by
  rcases (show t = 0 ∨ t = 1 ∨ t = 2 by omega) with rfl | rfl | rfl <;> simp [wb_dg, wb_am] <;> omega
section WBS12
variable {G : wb_G} {N : Nat} {w : wb_W} {Q : Option Value → Nat → wb_W → Prop}
theorem sp_X12_in {v a b : Int} (hv : -2147483648 ≤ v ∧ v ≤ 2147483647) (ha : -2147483648 ≤ a ∧ a ≤ 2147483647) (hb : -2147483648 ≤ b ∧ b ≤ 2147483647) (h1 : (a ≤ v ∧ v ≤ b) → Q (some (.int (wb_i 1))) N w) (h0 : ¬ (a ≤ v ∧ v ≤ b) → Q (some (.int (wb_i 0))) N w) : wb_M G M_X12_in [.int (wb_i v), .int (wb_i a), .int (wb_i b)] N w Q := by
  unfold wb_M
  refine vi_iload_n 0 rfl rfl ?_
  refine vi_iload_n 1 rfl rfl ?_
  refine vi_icmp_lt 2 rfl (by omega) (by omega) (fun c_2 => ?_) (fun c_2 => ?_)
  · refine vi_iconst 8 rfl ?_
    exact vi_ireturn 9 rfl rfl rfl (Nat.zero_le _) (Nat.zero_le _) (h0 (by omega))
  · refine vi_iload_n 3 rfl rfl ?_
    refine vi_iload_n 4 rfl rfl ?_
    refine vi_icmp_gt 5 rfl (by omega) (by omega) (fun c_7 => ?_) (fun c_7 => ?_)
    · refine vi_iconst 8 rfl ?_
      exact vi_ireturn 9 rfl rfl rfl (Nat.zero_le _) (Nat.zero_le _) (h0 (by omega))
    · refine vi_iconst 6 rfl ?_
      refine vi_goto 7 rfl ?_
      exact vi_ireturn 9 rfl rfl rfl (Nat.zero_le _) (Nat.zero_le _) (h1 (by omega))
theorem sp_X12_isThing {v : Int} (hv : -2147483648 ≤ v ∧ v ≤ 2147483647) (h1 : (0 ≤ v ∧ v ≤ 2) → Q (some (.int (wb_i 1))) N w) (h0 : ¬ (0 ≤ v ∧ v ≤ 2) → Q (some (.int (wb_i 0))) N w) : wb_M G M_X12_isThing [.int (wb_i v)] N w Q := by
  unfold wb_M
  refine vi_iload_n 0 rfl rfl ?_
  refine vi_iconst 1 rfl ?_
  refine vi_iconst 2 rfl ?_
  refine vi_S3 3 ok_X12_in rfl c_X12_56 rfl ?_
  refine sp_X12_in (by omega) (by omega) (by omega) (fun b_3 => ?_) (fun b_3 => ?_)
  · exact vi_ireturn 4 rfl rfl rfl (Nat.zero_le _) (Nat.zero_le _) (h1 (by omega))
  · exact vi_ireturn 4 rfl rfl rfl (Nat.zero_le _) (Nat.zero_le _) (h0 (by omega))
theorem sp_X12_isMixture {v : Int} (hv : -2147483648 ≤ v ∧ v ≤ 2147483647) (h1 : (0 ≤ v ∧ v ≤ 15624) → Q (some (.int (wb_i 1))) N w) (h0 : ¬ (0 ≤ v ∧ v ≤ 15624) → Q (some (.int (wb_i 0))) N w) : wb_M G M_X12_isMixture [.int (wb_i v)] N w Q := by
  unfold wb_M
  refine vi_iload_n 0 rfl rfl ?_
  refine vi_iconst 1 rfl ?_
  refine vi_sipush 2 rfl (by decide) ?_
  refine vi_S3 3 ok_X12_in rfl c_X12_56 rfl ?_
  refine sp_X12_in (by omega) (by omega) (by omega) (fun b_5 => ?_) (fun b_5 => ?_)
  · exact vi_ireturn 4 rfl rfl rfl (Nat.zero_le _) (Nat.zero_le _) (h1 (by omega))
  · exact vi_ireturn 4 rfl rfl rfl (Nat.zero_le _) (Nat.zero_le _) (h0 (by omega))
/-- the most that what change() tells can be -/
def wb_mo (j : Int) : Int := if j = 3 then 5 else if j = 4 ∨ j = 5 then 20 else 99
theorem sp_X12_mostOf {j : Int} (hj : -2147483648 ≤ j ∧ j ≤ 2147483647) (hQ : Q (some (.int (wb_i (wb_mo j)))) N w) : wb_M G M_X12_mostOf [.int (wb_i j)] N w Q := by
  unfold wb_M
  refine vi_iload_n 0 rfl rfl ?_
  refine vi_iconst 1 rfl ?_
  refine vi_icmp_ne 2 rfl (by omega) (by omega) (fun c_2 => ?_) (fun c_2 => ?_)
  · refine vi_iload_n 5 rfl rfl ?_
    refine vi_iconst 6 rfl ?_
    refine vi_icmp_eq 7 rfl (by omega) (by omega) (fun c_11 => ?_) (fun c_11 => ?_)
    · refine vi_bipush 11 rfl (by decide) ?_
      refine vi_goto 12 rfl ?_
      exact vi_ireturn 14 rfl rfl rfl (Nat.zero_le _) (Nat.zero_le _) (wb_e (by unfold wb_mo; split <;> (try split) <;> omega) hQ)
    · refine vi_iload_n 8 rfl rfl ?_
      refine vi_iconst 9 rfl ?_
      refine vi_icmp_ne 10 rfl (by omega) (by omega) (fun c_16 => ?_) (fun c_16 => ?_)
      · refine vi_bipush 13 rfl (by decide) ?_
        exact vi_ireturn 14 rfl rfl rfl (Nat.zero_le _) (Nat.zero_le _) (wb_e (by unfold wb_mo; split <;> (try split) <;> omega) hQ)
      · refine vi_bipush 11 rfl (by decide) ?_
        refine vi_goto 12 rfl ?_
        exact vi_ireturn 14 rfl rfl rfl (Nat.zero_le _) (Nat.zero_le _) (wb_e (by unfold wb_mo; split <;> (try split) <;> omega) hQ)
  · refine vi_iconst 3 rfl ?_
    refine vi_goto 4 rfl ?_
    exact vi_ireturn 14 rfl rfl rfl (Nat.zero_le _) (Nat.zero_le _) (wb_e (by unfold wb_mo; split <;> (try split) <;> omega) hQ)
theorem sp_X12_digit {x j : Int} (hx : 0 ≤ x ∧ x ≤ 2147483647) (hj : 0 ≤ j ∧ j ≤ 5) (hQ : Q (some (.int (wb_i (wb_dg x j)))) N w) : wb_M G M_X12_digit [.int (wb_i x), .int (wb_i j)] N w Q := by
  unfold wb_M
  have lp : ∀ i, i ≤ 5 → ∀ y : Int, 0 ≤ i → 0 ≤ y → y ≤ 2147483647 → wb_dg y i = wb_dg x j → wb_V G M_X12_digit 4 [(2, .int (wb_i y)), (3, .int (wb_i i))] [] N w 0 0 Q := by
    refine wb_up 5 _ ?_
    intro i ih hi y h0 hy hy2 he
    refine vi_iload_n 4 rfl rfl ?_
    refine vi_iconst 5 rfl ?_
    refine vi_icmp_ge 6 rfl (by omega) (by omega) (fun c_6 => ?_) (fun c_6 => ?_)
    · refine vi_iload_n 13 rfl rfl ?_
      refine vi_iconst 14 rfl ?_
      refine vi_irem 15 rfl (by omega) (by omega) ?_
      exact vi_ireturn 16 rfl rfl rfl (Nat.zero_le _) (Nat.zero_le _) (wb_e (by rw [← he]; have : i = 5 := (by omega); subst this; simp [wb_dg]) hQ)
    · refine vi_iload_n 7 rfl rfl ?_
      refine vi_iconst 8 rfl ?_
      refine vi_idiv 9 rfl (by omega) (by omega) ?_
      refine vi_istore_n 10 rfl rfl ?_
      refine vi_iinc 11 rfl rfl rfl ?_
      refine vi_goto 12 rfl ?_
      refine vi_loc [(2, .int (wb_i (y / 5))), (3, .int (wb_i (i + 1)))] ⟨rfl, rfl, trivial⟩ (ih (i + 1) (by omega) (by omega) _ (by omega) (by omega) (by omega) ?_)
      rw [← he]
      rcases (show i = 0 ∨ i = 1 ∨ i = 2 ∨ i = 3 ∨ i = 4 by omega) with rfl | rfl | rfl | rfl | rfl <;> simp [wb_dg] <;> omega
  refine vi_iload_n 0 rfl rfl ?_
  refine vi_istore_n 1 rfl rfl ?_
  refine vi_iload_n 2 rfl rfl ?_
  refine vi_istore_n 3 rfl rfl ?_
  exact vi_lc (lp j (by omega) x (by omega) (by omega) (by omega) rfl) ⟨rfl, rfl, trivial⟩
theorem sp_X12_amount {x t : Int} (hx : 0 ≤ x ∧ x < 15625) (ht : 0 ≤ t ∧ t ≤ 2) (hQ : Q (some (.int (wb_i (wb_pr x t)))) N w) : wb_M G M_X12_amount [.int (wb_i x), .int (wb_i t)] N w Q := by
  unfold wb_M
  refine vi_iconst 0 rfl ?_
  refine vi_iload_n 1 rfl rfl ?_
  refine vi_iload_n 2 rfl rfl ?_
  refine vi_S2 3 ok_X12_digit rfl c_X12_94 rfl ?_
  refine sp_X12_digit (by omega) (by omega) ?_
  refine vi_imul 4 rfl ?_
  refine vi_iload_n 5 rfl rfl ?_
  refine vi_iconst 6 rfl ?_
  refine vi_iload_n 7 rfl rfl ?_
  refine vi_iadd 8 rfl ?_
  refine vi_S2 9 ok_X12_digit rfl c_X12_94 rfl ?_
  refine sp_X12_digit (by omega) (by omega) ?_
  refine vi_iadd 10 rfl ?_
  exact vi_ireturn 11 rfl rfl rfl (Nat.zero_le _) (Nat.zero_le _) (wb_e (by unfold wb_pr; rw [wb_dg_lo ht hx, wb_dg_hi ht hx]) hQ)
theorem sp_X12_things {x : Int} (hx : 0 ≤ x ∧ x < 15625) (hQ : Q (some (.int (wb_i (wb_th (x / 125) + wb_th (x % 125))))) N w) : wb_M G M_X12_things [.int (wb_i x)] N w Q := by
  unfold wb_M
  have lp : ∀ i, i ≤ 6 → ∀ n : Int, 0 ≤ i → 0 ≤ n → n ≤ i → n = (if 0 < i then (if 0 < wb_dg x 0 then 1 else 0) else 0) + (if 1 < i then (if 0 < wb_dg x 1 then 1 else 0) else 0) + (if 2 < i then (if 0 < wb_dg x 2 then 1 else 0) else 0) + ((if 3 < i then (if 0 < wb_dg x 3 then 1 else 0) else 0) + (if 4 < i then (if 0 < wb_dg x 4 then 1 else 0) else 0) + (if 5 < i then (if 0 < wb_dg x 5 then 1 else 0) else 0)) → wb_V G M_X12_things 4 [(0, .int (wb_i x)), (1, .int (wb_i n)), (2, .int (wb_i i))] [] N w 0 0 Q := by
    refine wb_up 6 _ ?_
    intro i ih hi n h0 hn hni hn2
    have ha := wb_dg_rg (x := x) (j := i) hx.1
    refine vi_iload_n 4 rfl rfl ?_
    refine vi_bipush 5 rfl (by decide) ?_
    refine vi_icmp_ge 6 rfl (by omega) (by omega) (fun c_7 => ?_) (fun c_7 => ?_)
    · refine vi_iload_n 19 rfl rfl ?_
      exact vi_ireturn 20 rfl rfl rfl (Nat.zero_le _) (Nat.zero_le _) (wb_e (by have : i = 6 := (by omega); subst this; rw [show wb_th (x / 125) = (if 0 < wb_dg x 0 then 1 else 0) + (if 0 < wb_dg x 1 then 1 else 0) + (if 0 < wb_dg x 2 then 1 else 0) by unfold wb_th; rw [wb_dg_lo (t := 0) (by omega) hx, wb_dg_lo (t := 1) (by omega) hx, wb_dg_lo (t := 2) (by omega) hx], show wb_th (x % 125) = (if 0 < wb_dg x 3 then 1 else 0) + (if 0 < wb_dg x 4 then 1 else 0) + (if 0 < wb_dg x 5 then 1 else 0) by unfold wb_th; rw [← wb_dg_hi (t := 0) (by omega) hx, ← wb_dg_hi (t := 1) (by omega) hx, ← wb_dg_hi (t := 2) (by omega) hx]; rfl]; simpa using hn2) hQ)
    · refine vi_iload_n 7 rfl rfl ?_
      refine vi_iload_n 8 rfl rfl ?_
      refine vi_iload_n 9 rfl rfl ?_
      refine vi_S2 10 ok_X12_digit rfl c_X12_94 rfl ?_
      refine sp_X12_digit (by omega) (by omega) ?_
      refine vi_if_le 11 rfl (by omega) (fun c_16 => ?_) (fun c_16 => ?_)
      · refine vi_iconst 14 rfl ?_
        refine vi_iadd 15 rfl ?_
        refine vi_istore_n 16 rfl rfl ?_
        refine vi_iinc 17 rfl rfl rfl ?_
        refine vi_goto 18 rfl ?_
        refine vi_loc [(0, .int (wb_i x)), (1, .int (wb_i _)), (2, .int (wb_i (i + 1)))] ⟨rfl, rfl, rfl, trivial⟩ (ih (i + 1) (by omega) (by omega) _ (by omega) (by omega) (by omega) ?_)
        rcases (show i = 0 ∨ i = 1 ∨ i = 2 ∨ i = 3 ∨ i = 4 ∨ i = 5 by omega) with rfl | rfl | rfl | rfl | rfl | rfl <;> simp at hn2 ⊢ <;> split <;> omega
      · refine vi_iconst 12 rfl ?_
        refine vi_goto 13 rfl ?_
        refine vi_iadd 15 rfl ?_
        refine vi_istore_n 16 rfl rfl ?_
        refine vi_iinc 17 rfl rfl rfl ?_
        refine vi_goto 18 rfl ?_
        refine vi_loc [(0, .int (wb_i x)), (1, .int (wb_i _)), (2, .int (wb_i (i + 1)))] ⟨rfl, rfl, rfl, trivial⟩ (ih (i + 1) (by omega) (by omega) _ (by omega) (by omega) (by omega) ?_)
        rcases (show i = 0 ∨ i = 1 ∨ i = 2 ∨ i = 3 ∨ i = 4 ∨ i = 5 by omega) with rfl | rfl | rfl | rfl | rfl | rfl <;> simp at hn2 ⊢ <;> split <;> omega
  refine vi_iconst 0 rfl ?_
  refine vi_istore_n 1 rfl rfl ?_
  refine vi_iconst 2 rfl ?_
  refine vi_istore_n 3 rfl rfl ?_
  exact vi_lc (lp 0 (by omega) 0 (by omega) (by omega) (by omega) (by simp)) ⟨rfl, rfl, rfl, trivial⟩
end WBS12
