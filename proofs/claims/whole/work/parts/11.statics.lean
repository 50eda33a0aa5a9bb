/-! ===== the class's static helpers ===== -/
def wb_am (p t : Int) : Int := if t = 0 then p / 25 % 5 else if t = 1 then p / 5 % 5 else p % 5
def wb_pr (x t : Int) : Int := 5 * wb_am (x / 125) t + wb_am (x % 125) t
/-- how many THINGS are in a part -/
def wb_th (p : Int) : Int := (if 0 < wb_am p 0 then 1 else 0) + (if 0 < wb_am p 1 then 1 else 0) + (if 0 < wb_am p 2 then 1 else 0)
theorem wb_am_rg {p t : Int} (hp : 0 ≤ p) : 0 ≤ wb_am p t ∧ wb_am p t ≤ 4 := by unfold wb_am; split <;> (try split) <;> omega
theorem wb_pr_rg {x t : Int} (hx : 0 ≤ x) : 0 ≤ wb_pr x t ∧ wb_pr x t ≤ 24 := by
  have h1 := wb_am_rg (p := x / 125) (t := t) (by omega)
  have h2 := wb_am_rg (p := x % 125) (t := t) (by omega)
  unfold wb_pr
  omega
section WBS11
variable {G : wb_G} {N : Nat} {w : wb_W} {Q : Option Value → Nat → wb_W → Prop}
theorem wb_e {a b : Int} (h : a = b) (hQ : Q (some (.int (wb_i b))) N w) : Q (some (.int (wb_i a))) N w := by rw [h]; exact hQ
theorem sp_X11_within {v m : Int} (hv : -2147483648 ≤ v ∧ v ≤ 2147483647) (hm : -2147483648 ≤ m ∧ m ≤ 2147483647) (h1 : (0 ≤ v ∧ v ≤ m) → Q (some (.int (wb_i 1))) N w) (h0 : ¬ (0 ≤ v ∧ v ≤ m) → Q (some (.int (wb_i 0))) N w) : wb_M G M_X11_within [.int (wb_i v), .int (wb_i m)] N w Q := by
  unfold wb_M
  refine vi_iload_n 0 rfl rfl ?_
  refine vi_if_lt 1 rfl (by omega) (fun c_1 => ?_) (fun c_1 => ?_)
  · refine vi_iconst 7 rfl ?_
    exact vi_ireturn 8 rfl rfl rfl (Nat.zero_le _) (Nat.zero_le _) (h0 (by omega))
  · refine vi_iload_n 2 rfl rfl ?_
    refine vi_iload_n 3 rfl rfl ?_
    refine vi_icmp_gt 4 rfl (by omega) (by omega) (fun c_6 => ?_) (fun c_6 => ?_)
    · refine vi_iconst 7 rfl ?_
      exact vi_ireturn 8 rfl rfl rfl (Nat.zero_le _) (Nat.zero_le _) (h0 (by omega))
    · refine vi_iconst 5 rfl ?_
      refine vi_goto 6 rfl ?_
      exact vi_ireturn 8 rfl rfl rfl (Nat.zero_le _) (Nat.zero_le _) (h1 (by omega))
theorem sp_X11_isThing {v : Int} (hv : -2147483648 ≤ v ∧ v ≤ 2147483647) (h1 : (0 ≤ v ∧ v < 3) → Q (some (.int (wb_i 1))) N w) (h0 : ¬ (0 ≤ v ∧ v < 3) → Q (some (.int (wb_i 0))) N w) : wb_M G M_X11_isThing [.int (wb_i v)] N w Q := by
  unfold wb_M
  refine vi_iload_n 0 rfl rfl ?_
  refine vi_if_lt 1 rfl (by omega) (fun c_1 => ?_) (fun c_1 => ?_)
  · refine vi_iconst 7 rfl ?_
    exact vi_ireturn 8 rfl rfl rfl (Nat.zero_le _) (Nat.zero_le _) (h0 (by omega))
  · refine vi_iload_n 2 rfl rfl ?_
    refine vi_iconst 3 rfl ?_
    refine vi_icmp_ge 4 rfl (by omega) (by omega) (fun c_6 => ?_) (fun c_6 => ?_)
    · refine vi_iconst 7 rfl ?_
      exact vi_ireturn 8 rfl rfl rfl (Nat.zero_le _) (Nat.zero_le _) (h0 (by omega))
    · refine vi_iconst 5 rfl ?_
      refine vi_goto 6 rfl ?_
      exact vi_ireturn 8 rfl rfl rfl (Nat.zero_le _) (Nat.zero_le _) (h1 (by omega))
theorem sp_X11_isWare {v : Int} (hv : -2147483648 ≤ v ∧ v ≤ 2147483647) (h1 : (0 ≤ v ∧ v < 2) → Q (some (.int (wb_i 1))) N w) (h0 : ¬ (0 ≤ v ∧ v < 2) → Q (some (.int (wb_i 0))) N w) : wb_M G M_X11_isWare [.int (wb_i v)] N w Q := by
  unfold wb_M
  refine vi_iload_n 0 rfl rfl ?_
  refine vi_if_lt 1 rfl (by omega) (fun c_1 => ?_) (fun c_1 => ?_)
  · refine vi_iconst 7 rfl ?_
    exact vi_ireturn 8 rfl rfl rfl (Nat.zero_le _) (Nat.zero_le _) (h0 (by omega))
  · refine vi_iload_n 2 rfl rfl ?_
    refine vi_iconst 3 rfl ?_
    refine vi_icmp_ge 4 rfl (by omega) (by omega) (fun c_6 => ?_) (fun c_6 => ?_)
    · refine vi_iconst 7 rfl ?_
      exact vi_ireturn 8 rfl rfl rfl (Nat.zero_le _) (Nat.zero_le _) (h0 (by omega))
    · refine vi_iconst 5 rfl ?_
      refine vi_goto 6 rfl ?_
      exact vi_ireturn 8 rfl rfl rfl (Nat.zero_le _) (Nat.zero_le _) (h1 (by omega))
theorem sp_X11_isMixture {v : Int} (hv : -2147483648 ≤ v ∧ v ≤ 2147483647) (h1 : (0 ≤ v ∧ v < 15625) → Q (some (.int (wb_i 1))) N w) (h0 : ¬ (0 ≤ v ∧ v < 15625) → Q (some (.int (wb_i 0))) N w) : wb_M G M_X11_isMixture [.int (wb_i v)] N w Q := by
  unfold wb_M
  refine vi_iload_n 0 rfl rfl ?_
  refine vi_if_lt 1 rfl (by omega) (fun c_1 => ?_) (fun c_1 => ?_)
  · refine vi_iconst 7 rfl ?_
    exact vi_ireturn 8 rfl rfl rfl (Nat.zero_le _) (Nat.zero_le _) (h0 (by omega))
  · refine vi_iload_n 2 rfl rfl ?_
    refine vi_sipush 3 rfl (by decide) ?_
    refine vi_icmp_ge 4 rfl (by omega) (by omega) (fun c_8 => ?_) (fun c_8 => ?_)
    · refine vi_iconst 7 rfl ?_
      exact vi_ireturn 8 rfl rfl rfl (Nat.zero_le _) (Nat.zero_le _) (h0 (by omega))
    · refine vi_iconst 5 rfl ?_
      refine vi_goto 6 rfl ?_
      exact vi_ireturn 8 rfl rfl rfl (Nat.zero_le _) (Nat.zero_le _) (h1 (by omega))
theorem sp_X11_amountIn {p t : Int} (hp : 0 ≤ p ∧ p ≤ 2147483647) (ht : -2147483648 ≤ t ∧ t ≤ 2147483647) (hQ : Q (some (.int (wb_i (wb_am p t)))) N w) : wb_M G M_X11_amountIn [.int (wb_i p), .int (wb_i t)] N w Q := by
  unfold wb_M
  refine vi_iload_n 0 rfl rfl ?_
  refine vi_if_ne 1 rfl (by omega) (fun c_1 => ?_) (fun c_1 => ?_)
  · refine vi_iload_n 8 rfl rfl ?_
    refine vi_iconst 9 rfl ?_
    refine vi_icmp_ne 10 rfl (by omega) (by omega) (fun c_15 => ?_) (fun c_15 => ?_)
    · refine vi_iload_n 17 rfl rfl ?_
      refine vi_iconst 18 rfl ?_
      refine vi_irem 19 rfl (by omega) (by omega) ?_
      exact vi_ireturn 20 rfl rfl rfl (Nat.zero_le _) (Nat.zero_le _) (wb_e (by unfold wb_am; split <;> (try split) <;> omega) hQ)
    · refine vi_iload_n 11 rfl rfl ?_
      refine vi_iconst 12 rfl ?_
      refine vi_idiv 13 rfl (by omega) (by omega) ?_
      refine vi_iconst 14 rfl ?_
      refine vi_irem 15 rfl (by omega) (by omega) ?_
      refine vi_goto 16 rfl ?_
      exact vi_ireturn 20 rfl rfl rfl (Nat.zero_le _) (Nat.zero_le _) (wb_e (by unfold wb_am; split <;> (try split) <;> omega) hQ)
  · refine vi_iload_n 2 rfl rfl ?_
    refine vi_bipush 3 rfl (by decide) ?_
    refine vi_idiv 4 rfl (by omega) (by omega) ?_
    refine vi_iconst 5 rfl ?_
    refine vi_irem 6 rfl (by omega) (by omega) ?_
    refine vi_goto 7 rfl ?_
    exact vi_ireturn 20 rfl rfl rfl (Nat.zero_le _) (Nat.zero_le _) (wb_e (by unfold wb_am; split <;> (try split) <;> omega) hQ)
theorem sp_X11_pairOf {x t : Int} (hx : 0 ≤ x ∧ x ≤ 2147483647) (ht : -2147483648 ≤ t ∧ t ≤ 2147483647) (hQ : Q (some (.int (wb_i (wb_pr x t)))) N w) : wb_M G M_X11_pairOf [.int (wb_i x), .int (wb_i t)] N w Q := by
  unfold wb_M
  refine vi_iconst 0 rfl ?_
  refine vi_iload_n 1 rfl rfl ?_
  refine vi_bipush 2 rfl (by decide) ?_
  refine vi_idiv 3 rfl (by omega) (by omega) ?_
  refine vi_iload_n 4 rfl rfl ?_
  refine vi_S2 5 ok_X11_amountIn rfl c_X11_274 rfl ?_
  refine sp_X11_amountIn (by omega) (by omega) ?_
  refine vi_imul 6 rfl ?_
  refine vi_iload_n 7 rfl rfl ?_
  refine vi_bipush 8 rfl (by decide) ?_
  refine vi_irem 9 rfl (by omega) (by omega) ?_
  refine vi_iload_n 10 rfl rfl ?_
  refine vi_S2 11 ok_X11_amountIn rfl c_X11_274 rfl ?_
  refine sp_X11_amountIn (by omega) (by omega) ?_
  refine vi_iadd 12 rfl ?_
  exact vi_ireturn 13 rfl rfl rfl (Nat.zero_le _) (Nat.zero_le _) (hQ)
def wb_sp (t : Int) : Int := if t = 0 then 25 else if t = 1 then 5 else 1
/-- the mixture with another pair of a thing -/
def wb_wp (x t r : Int) : Int := x + (r / 5 - wb_pr x t / 5) * wb_sp t * 125 + (r % 5 - wb_pr x t % 5) * wb_sp t
theorem sp_X11_withPair {x t r : Int} (hx : 0 ≤ x ∧ x ≤ 2147483647) (ht : -2147483648 ≤ t ∧ t ≤ 2147483647) (hr : 0 ≤ r ∧ r < 25) (hQ : Q (some (.int (wb_i (wb_wp x t r)))) N w) : wb_M G M_X11_withPair [.int (wb_i x), .int (wb_i t), .int (wb_i r)] N w Q := by
  unfold wb_M
  have hp := wb_pr_rg (x := x) (t := t) hx.1
  refine vi_iload_n 0 rfl rfl ?_
  refine vi_if_ne 1 rfl (by omega) (fun c_1 => ?_) (fun c_1 => ?_)
  · refine vi_iload_n 4 rfl rfl ?_
    refine vi_iconst 5 rfl ?_
    refine vi_icmp_ne 6 rfl (by omega) (by omega) (fun c_11 => ?_) (fun c_11 => ?_)
    · refine vi_iconst 9 rfl ?_
      refine vi_istore_n 10 rfl rfl ?_
      refine vi_iload_n 11 rfl rfl ?_
      refine vi_iload_n 12 rfl rfl ?_
      refine vi_S2 13 ok_X11_pairOf rfl c_X11_277 rfl ?_
      refine sp_X11_pairOf (by omega) (by omega) ?_
      refine vi_istore 14 rfl rfl ?_
      refine vi_iload_n 15 rfl rfl ?_
      refine vi_iload_n 16 rfl rfl ?_
      refine vi_iconst 17 rfl ?_
      refine vi_idiv 18 rfl (by omega) (by omega) ?_
      refine vi_iload 19 rfl rfl ?_
      refine vi_iconst 20 rfl ?_
      refine vi_idiv 21 rfl (by omega) (by omega) ?_
      refine vi_isub 22 rfl ?_
      refine vi_iload_n 23 rfl rfl ?_
      refine vi_imul 24 rfl ?_
      refine vi_bipush 25 rfl (by decide) ?_
      refine vi_imul 26 rfl ?_
      refine vi_iadd 27 rfl ?_
      refine vi_iload_n 28 rfl rfl ?_
      refine vi_iconst 29 rfl ?_
      refine vi_irem 30 rfl (by omega) (by omega) ?_
      refine vi_iload 31 rfl rfl ?_
      refine vi_iconst 32 rfl ?_
      refine vi_irem 33 rfl (by omega) (by omega) ?_
      refine vi_isub 34 rfl ?_
      refine vi_iload_n 35 rfl rfl ?_
      refine vi_imul 36 rfl ?_
      refine vi_iadd 37 rfl ?_
      exact vi_ireturn 38 rfl rfl rfl (Nat.zero_le _) (Nat.zero_le _) (wb_e (by unfold wb_wp wb_sp; split <;> (try split) <;> omega) hQ)
    · refine vi_iconst 7 rfl ?_
      refine vi_goto 8 rfl ?_
      refine vi_istore_n 10 rfl rfl ?_
      refine vi_iload_n 11 rfl rfl ?_
      refine vi_iload_n 12 rfl rfl ?_
      refine vi_S2 13 ok_X11_pairOf rfl c_X11_277 rfl ?_
      refine sp_X11_pairOf (by omega) (by omega) ?_
      refine vi_istore 14 rfl rfl ?_
      refine vi_iload_n 15 rfl rfl ?_
      refine vi_iload_n 16 rfl rfl ?_
      refine vi_iconst 17 rfl ?_
      refine vi_idiv 18 rfl (by omega) (by omega) ?_
      refine vi_iload 19 rfl rfl ?_
      refine vi_iconst 20 rfl ?_
      refine vi_idiv 21 rfl (by omega) (by omega) ?_
      refine vi_isub 22 rfl ?_
      refine vi_iload_n 23 rfl rfl ?_
      refine vi_imul 24 rfl ?_
      refine vi_bipush 25 rfl (by decide) ?_
      refine vi_imul 26 rfl ?_
      refine vi_iadd 27 rfl ?_
      refine vi_iload_n 28 rfl rfl ?_
      refine vi_iconst 29 rfl ?_
      refine vi_irem 30 rfl (by omega) (by omega) ?_
      refine vi_iload 31 rfl rfl ?_
      refine vi_iconst 32 rfl ?_
      refine vi_irem 33 rfl (by omega) (by omega) ?_
      refine vi_isub 34 rfl ?_
      refine vi_iload_n 35 rfl rfl ?_
      refine vi_imul 36 rfl ?_
      refine vi_iadd 37 rfl ?_
      exact vi_ireturn 38 rfl rfl rfl (Nat.zero_le _) (Nat.zero_le _) (wb_e (by unfold wb_wp wb_sp; split <;> (try split) <;> omega) hQ)
  · refine vi_bipush 2 rfl (by decide) ?_
    refine vi_goto 3 rfl ?_
    refine vi_istore_n 10 rfl rfl ?_
    refine vi_iload_n 11 rfl rfl ?_
    refine vi_iload_n 12 rfl rfl ?_
    refine vi_S2 13 ok_X11_pairOf rfl c_X11_277 rfl ?_
    refine sp_X11_pairOf (by omega) (by omega) ?_
    refine vi_istore 14 rfl rfl ?_
    refine vi_iload_n 15 rfl rfl ?_
    refine vi_iload_n 16 rfl rfl ?_
    refine vi_iconst 17 rfl ?_
    refine vi_idiv 18 rfl (by omega) (by omega) ?_
    refine vi_iload 19 rfl rfl ?_
    refine vi_iconst 20 rfl ?_
    refine vi_idiv 21 rfl (by omega) (by omega) ?_
    refine vi_isub 22 rfl ?_
    refine vi_iload_n 23 rfl rfl ?_
    refine vi_imul 24 rfl ?_
    refine vi_bipush 25 rfl (by decide) ?_
    refine vi_imul 26 rfl ?_
    refine vi_iadd 27 rfl ?_
    refine vi_iload_n 28 rfl rfl ?_
    refine vi_iconst 29 rfl ?_
    refine vi_irem 30 rfl (by omega) (by omega) ?_
    refine vi_iload 31 rfl rfl ?_
    refine vi_iconst 32 rfl ?_
    refine vi_irem 33 rfl (by omega) (by omega) ?_
    refine vi_isub 34 rfl ?_
    refine vi_iload_n 35 rfl rfl ?_
    refine vi_imul 36 rfl ?_
    refine vi_iadd 37 rfl ?_
    exact vi_ireturn 38 rfl rfl rfl (Nat.zero_le _) (Nat.zero_le _) (wb_e (by unfold wb_wp wb_sp; split <;> (try split) <;> omega) hQ)
theorem sp_X11_thingsInPart {p : Int} (hp : 0 ≤ p ∧ p ≤ 2147483647) (hQ : Q (some (.int (wb_i (wb_th p)))) N w) : wb_M G M_X11_thingsInPart [.int (wb_i p)] N w Q := by
  unfold wb_M
  have lp : ∀ i, i ≤ 3 → ∀ n : Int, 0 ≤ i → 0 ≤ n → n ≤ i → n = (if 0 < i then (if 0 < wb_am p 0 then 1 else 0) else 0) + (if 1 < i then (if 0 < wb_am p 1 then 1 else 0) else 0) + (if 2 < i then (if 0 < wb_am p 2 then 1 else 0) else 0) → wb_V G M_X11_thingsInPart 4 [(0, .int (wb_i p)), (1, .int (wb_i n)), (2, .int (wb_i i))] [] N w 0 0 Q := by
    refine wb_up 3 _ ?_
    intro i ih hi n h0 hn hni hn2
    have ha := wb_am_rg (p := p) (t := i) hp.1
    refine vi_iload_n 4 rfl rfl ?_
    refine vi_iconst 5 rfl ?_
    refine vi_icmp_ge 6 rfl (by omega) (by omega) (fun c_6 => ?_) (fun c_6 => ?_)
    · refine vi_iload_n 19 rfl rfl ?_
      exact vi_ireturn 20 rfl rfl rfl (Nat.zero_le _) (Nat.zero_le _) (wb_e (by unfold wb_th; have : i = 3 := (by omega); subst this; simpa using hn2) hQ)
    · refine vi_iload_n 7 rfl rfl ?_
      refine vi_iload_n 8 rfl rfl ?_
      refine vi_iload_n 9 rfl rfl ?_
      refine vi_S2 10 ok_X11_amountIn rfl c_X11_274 rfl ?_
      refine sp_X11_amountIn (by omega) (by omega) ?_
      refine vi_if_le 11 rfl (by omega) (fun c_15 => ?_) (fun c_15 => ?_)
      · refine vi_iconst 14 rfl ?_
        refine vi_iadd 15 rfl ?_
        refine vi_istore_n 16 rfl rfl ?_
        refine vi_iinc 17 rfl rfl rfl ?_
        refine vi_goto 18 rfl ?_
        refine vi_loc [(0, .int (wb_i p)), (1, .int (wb_i _)), (2, .int (wb_i (i + 1)))] ⟨rfl, rfl, rfl, trivial⟩ (ih (i + 1) (by omega) (by omega) _ (by omega) (by omega) (by omega) ?_)
        rcases (show i = 0 ∨ i = 1 ∨ i = 2 by omega) with rfl | rfl | rfl <;> simp at hn2 ⊢ <;> split <;> omega
      · refine vi_iconst 12 rfl ?_
        refine vi_goto 13 rfl ?_
        refine vi_iadd 15 rfl ?_
        refine vi_istore_n 16 rfl rfl ?_
        refine vi_iinc 17 rfl rfl rfl ?_
        refine vi_goto 18 rfl ?_
        refine vi_loc [(0, .int (wb_i p)), (1, .int (wb_i _)), (2, .int (wb_i (i + 1)))] ⟨rfl, rfl, rfl, trivial⟩ (ih (i + 1) (by omega) (by omega) _ (by omega) (by omega) (by omega) ?_)
        rcases (show i = 0 ∨ i = 1 ∨ i = 2 by omega) with rfl | rfl | rfl <;> simp at hn2 ⊢ <;> split <;> omega
  refine vi_iconst 0 rfl ?_
  refine vi_istore_n 1 rfl rfl ?_
  refine vi_iconst 2 rfl ?_
  refine vi_istore_n 3 rfl rfl ?_
  exact vi_lc (lp 0 (by omega) 0 (by omega) (by omega) (by omega) (by simp)) ⟨rfl, rfl, rfl, trivial⟩
/-- both ends of a span in one number -/
def wb_so (a b : Int) : Int := if a ≤ b then a + 256 * b else -1
theorem sp_X11_spanOf {a b : Int} (ha : -2147483648 ≤ a ∧ a ≤ 2147483647) (hb : -2147483648 ≤ b ∧ b ≤ 2147483647) (hQ : Q (some (.int (wb_i (wb_so a b)))) N w) : wb_M G M_X11_spanOf [.int (wb_i a), .int (wb_i b)] N w Q := by
  unfold wb_M
  refine vi_iload_n 0 rfl rfl ?_
  refine vi_iload_n 1 rfl rfl ?_
  refine vi_icmp_gt 2 rfl (by omega) (by omega) (fun c_2 => ?_) (fun c_2 => ?_)
  · refine vi_iconst 9 rfl ?_
    exact vi_ireturn 10 rfl rfl rfl (Nat.zero_le _) (Nat.zero_le _) (wb_e (by unfold wb_so; split <;> omega) hQ)
  · refine vi_iload_n 3 rfl rfl ?_
    refine vi_sipush 4 rfl (by decide) ?_
    refine vi_iload_n 5 rfl rfl ?_
    refine vi_imul 6 rfl ?_
    refine vi_iadd 7 rfl ?_
    refine vi_goto 8 rfl ?_
    exact vi_ireturn 10 rfl rfl rfl (Nat.zero_le _) (Nat.zero_le _) (wb_e (by unfold wb_so; split <;> omega) hQ)
end WBS11
