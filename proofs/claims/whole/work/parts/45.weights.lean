/-! ===== weights: how many by each key ===== -/
theorem wb_ct_add {f g h : Int → Bool} : ∀ n : Nat, (∀ q : Int, 0 ≤ q → q < n → (if f q then (1 : Int) else 0) = (if g q then 1 else 0) + (if h q then 1 else 0)) → wb_ct f n = wb_ct g n + wb_ct h n := by
  intro n
  induction n with
  | zero => intro _; rfl
  | succ n ih =>
    intro hq
    have h1 := hq n (by omega) (by omega)
    have h2 := ih (fun q q1 q2 => hq q q1 (by omega))
    rw [wb_ct, wb_ct, wb_ct, h2, h1]; omega
theorem wb_ct_lt1 (f : Int → Bool) (a : Int → Int) (i : Int) (n : Nat) : wb_ct (fun q => f q && decide (a q < i + 1)) n = wb_ct (fun q => f q && decide (a q < i)) n + wb_ct (fun q => f q && decide (a q = i)) n := by
  refine wb_ct_add n (fun q _ _ => ?_)
  cases f q
  · simp
  · by_cases h : a q < i
    · simp [h, show a q < i + 1 by omega, show ¬ a q = i by omega]
    · by_cases h2 : a q = i
      · simp [h2]; omega
      · simp [h, h2, show ¬ a q < i + 1 by omega]
/-- one key's share -/
theorem wb_ct_key {f : Int → Bool} {a ke : Int → Int} {i k0 k : Int} {n : Nat} (h : ∀ q : Int, 0 ≤ q → q < n → a q = i → ke q = k0) : wb_ct (fun q => f q && decide (ke q = k) && decide (a q = i)) n = if k = k0 then wb_ct (fun q => f q && decide (a q = i)) n else 0 := by
  split
  · rename_i e
    refine wb_ct_congr n (fun q q1 q2 => ?_)
    by_cases h2 : a q = i
    · simp [h2, h q q1 q2 h2, e]
    · simp [h2]
  · rename_i e
    refine wb_ct_none n (fun q q1 q2 => ?_)
    by_cases h2 : a q = i
    · simp [h2, h q q1 q2 h2, show ¬ k0 = k from fun q => e q.symm]
    · simp [h2]
/-- of those that keep the rule and agree with the other two -/
def wb_OO (n : Int) (c s : Int → Int) (sd sf : Int) (K : Int → Bool) (t x : Int) : Bool := K x && wb_al (fun u => decide (u = t) || wb_A n c s sd sf 0 0 u x) 3
def wb_ky (hl sf t x : Int) : Int := wb_pr x t + 25 * (if wb_gu hl sf t < 0 then 0 else wb_pr x (wb_gu hl sf t))
theorem wb_ky_row {hl sf t p q : Int} (hq : 0 ≤ q ∧ q < 125) : wb_ky hl sf t (p * 125 + q) = 5 * wb_am p t + wb_am q t + 25 * (if wb_gu hl sf t < 0 then 0 else 5 * wb_am p (wb_gu hl sf t) + wb_am q (wb_gu hl sf t)) := by
  unfold wb_ky wb_pr
  rw [show (p * 125 + q) / 125 = p by omega, show (p * 125 + q) % 125 = q by omega]
/-- weighing's object, its sets and rows -/
def wb_We (w : wb_W) (wt : Int) (wf cf ms ff : Int → Int) : Prop := w 89 = .inr (9, [.ref 29, .ref 90, .ref 92, .ref 93, .ref 94, .ref 95, .int (wb_i wt)]) ∧ w 92 = aI 625 wf ∧ w 93 = aI 12 cf ∧ w 94 = aI 24 ms ∧ w 95 = aI 216 ff
theorem wb_We.fr {w w' : wb_W} {wt : Int} {wf cf ms ff : Int → Int} (h : wb_We w wt wf cf ms ff) (hf : ∀ k, k = 89 ∨ (92 ≤ k ∧ k < 96) → w' k = w k) : wb_We w' wt wf cf ms ff :=
  ⟨(hf _ (by omega)).trans h.1, (hf _ (by omega)).trans h.2.1, (hf _ (by omega)).trans h.2.2.1, (hf _ (by omega)).trans h.2.2.2.1, (hf _ (by omega)).trans h.2.2.2.2⟩
section WBS45
variable {G : wb_G} {N : Nat} {w : wb_W} {Q : Option Value → Nat → wb_W → Prop}
variable {n : Int} {c s : Int → Int} {sd sf bo tu : Int} {g : Int → Int64} {K : Int → Bool} {hl wt ct mt : Int} {xt : Int} {wf cf ms ff : Int → Int}
theorem sp_X9_addGuestWeights {pr gp gu : Int} {lo hi : Int64} {T : Int → Bool} (hwe : wb_We w xt wf cf ms ff) (hwo : wb_Wo w hl wt ct mt) (hpr : 0 ≤ pr ∧ pr < 25) (hgp : 0 ≤ gp ∧ gp ≤ 20) (hgu : 0 ≤ gu ∧ gu < 3) (hT : wb_w2 lo hi T)
    (hQ : ∀ (w' : wb_W) (wf' : Int → Int), (∀ k, 0 ≤ k → k < 625 → wf' k = wf k + wb_ct (fun q => T q && decide (pr + 25 * (gp + wb_am q gu) = k)) 125) → wb_We w' xt wf' cf ms ff → (∀ k, k ≠ 92 → w' k = w k) → Q none N w') : wb_M G M_X9_addGuestWeights [.ref 89, .int (wb_i pr), .int (wb_i gp), .int (wb_i gu), .long lo, .long hi] N w Q := by
  unfold wb_M
  have hpt := hwo.2.2
  have lp : ∀ i, i ≤ 5 → ∀ (w1 : wb_W) (wf1 : Int → Int), 0 ≤ i → (∀ k, 0 ≤ k → k < 625 → wf1 k = wf k + wb_ct (fun q => T q && decide (pr + 25 * (gp + wb_am q gu) = k) && decide (wb_am q gu < i)) 125) → wb_We w1 xt wf1 cf ms ff → (∀ k, k ≠ 92 → w1 k = w k) → wb_V G M_X9_addGuestWeights 12 [(0, .ref 89), (1, .int (wb_i pr)), (2, .int (wb_i gp)), (3, .int (wb_i gu)), (4, .long lo), (6, .long hi), (8, .ref 30), (9, .int (wb_i i))] [] N w1 0 0 Q := by
    refine wb_up 5 _ ?_
    intro i ih hi w1 wf1 hi0 hwf hwe1 ef
    have hwe1' := hwe1
    obtain ⟨e0, e1, e2, e3, e4⟩ := hwe1'
    have hpt1 : wb_Pt w1 30 := hpt.fr (fun k p1 p2 => ef k (by omega))
    have hpt1' := hpt1
    obtain ⟨_, _, _, _, p0, -⟩ := hpt1'
    refine vi_iload 6 rfl rfl ?_
    refine vi_iconst 7 rfl ?_
    refine vi_icmp_ge 8 rfl (by omega) (by omega) (fun c_15 => ?_) (fun c_15 => ?_)
    · exact vi_return 48 rfl rfl (Nat.zero_le _) (Nat.zero_le _) (hQ w1 wf1 (fun k k1 k2 => by rw [hwf k k1 k2, wb_ct_congr 125 (fun q q1 q2 => by have := wb_am_rg (p := q) (t := gu) q1; rw [decide_eq_true (show wb_am q gu < i by omega), Bool.and_true])]) hwe1 ef)
    · refine vi_iload_n 9 rfl rfl ?_
      refine vi_bipush 10 rfl (by decide) ?_
      refine vi_iload_n 11 rfl rfl ?_
      refine vi_iload 12 rfl rfl ?_
      refine vi_iadd 13 rfl ?_
      refine vi_imul 14 rfl ?_
      refine vi_iadd 15 rfl ?_
      refine vi_istore 16 rfl rfl ?_
      refine vi_iload 17 rfl rfl ?_
      refine vi_if_lt 18 rfl (by omega) (fun c_31 => by exfalso; omega) (fun c_31 => ?_)
      refine vi_iload 19 rfl rfl ?_
      refine vi_aload_n 20 rfl rfl ?_
      refine vi_get 21 rfl f_X9_18 e0 rfl rfl ?_
      refine vi_alen 22 rfl e1 rfl ?_
      refine vi_icmp_ge 23 rfl (by omega) (by omega) (fun c_41 => by exfalso; omega) (fun c_41 => ?_)
      refine vi_aload_n 24 rfl rfl ?_
      refine vi_get 25 rfl f_X9_18 e0 rfl rfl ?_
      refine vi_iload 26 rfl rfl ?_
      refine vi_dup2 27 rfl rfl rfl ?_
      refine vi_iald 28 rfl e1 (by omega) ?_
      refine vi_lload 29 rfl rfl ?_
      refine vi_aload 30 rfl rfl ?_
      refine vi_iload_n 31 rfl rfl ?_
      refine vi_iload 32 rfl rfl ?_
      refine vi_V2 33 ok_X6_lowWith rfl c_X9_151 p0 rfl rfl ?_
      refine sp_X6_lowWith hpt1 (by omega) (by omega) (fun v_59 hv_59 => ?_)
      refine vi_land 34 rfl ?_
      refine vi_S1 35 ok_J13_bitCount_95d88 rfl c_X9_160 rfl ?_
      refine sp_bitCountL ?_
      refine vi_lload 36 rfl rfl ?_
      refine vi_aload 37 rfl rfl ?_
      refine vi_iload_n 38 rfl rfl ?_
      refine vi_iload 39 rfl rfl ?_
      refine vi_V2 40 ok_X6_highWith rfl c_X9_157 p0 rfl rfl ?_
      refine sp_X6_highWith hpt1 (by omega) (by omega) (fun v_73 hv_73 => ?_)
      have hct := wb_w2_ct (wb_w2_and hT (⟨hv_59, hv_73⟩ : wb_w2 v_59 v_73 (fun q => decide (wb_am q gu = i))))
      refine vi_land 41 rfl ?_
      refine vi_S1 42 ok_J13_bitCount_95d88 rfl c_X9_160 rfl ?_
      refine sp_bitCountL ?_
      refine vi_iadd 43 rfl ?_
      rw [hct]
      refine vi_iadd 44 rfl ?_
      refine vi_iast 45 rfl e1 (by omega) ?_
      refine vi_iinc 46 rfl rfl rfl ?_
      refine vi_goto 47 rfl ?_
      refine vi_lc (ih (i + 1) (by omega) (by omega) _ (wb_u wf1 (pr + 25 * (gp + i)) _) (by omega) (fun k k1 k2 => ?_) ⟨by rw [wb_upn (by omega)]; exact e0, wb_ups, by rw [wb_upn (by omega)]; exact e2, by rw [wb_upn (by omega)]; exact e3, by rw [wb_upn (by omega)]; exact e4⟩ (fun k hk => (wb_upn hk).trans (ef k hk))) ⟨rfl, rfl, rfl, rfl, rfl, rfl, rfl, rfl, trivial⟩
      rw [wb_ct_lt1, wb_ct_key (k0 := pr + 25 * (gp + i)) (fun q q1 q2 h => by rw [h])]
      by_cases e : k = pr + 25 * (gp + i)
      · rw [if_pos e, e, wb_us, hwf _ (by omega) (by omega)]; omega
      · rw [if_neg e, wb_un e, hwf k k1 k2]; omega
  have hwe' := hwe
  obtain ⟨e0, -⟩ := hwe'
  refine vi_aload_n 0 rfl rfl ?_
  refine vi_get 1 rfl f_X9_31 e0 rfl rfl ?_
  refine vi_get 2 rfl f_X9_144 hwo.1 rfl rfl ?_
  refine vi_astore 3 rfl rfl ?_
  refine vi_iconst 4 rfl ?_
  refine vi_istore 5 rfl rfl ?_
  exact vi_lc (lp 0 (by omega) w wf (by omega) (fun k k1 k2 => by rw [wb_ct_none 125 (fun q q1 q2 => by have := wb_am_rg (p := q) (t := gu) q1; rw [decide_eq_false (show ¬ wb_am q gu < 0 by omega), Bool.and_false]), Int.add_zero]) hwe (fun _ _ => rfl)) ⟨rfl, rfl, rfl, rfl, rfl, rfl, rfl, rfl, trivial⟩
theorem sp_X9_addWeights {p t : Int} {g9 : Int → Int64} {O : Int → Bool} (hwe : wb_We w xt wf cf ms ff) (hwo : wb_Wo w hl wt ct mt) (h90 : wb_Mw w 90 g9) (hO : wb_rp g9 O) (hR : wb_BR n c s sd sf) (hHL : wb_HL hl n c sd sf) (hp : 0 ≤ p ∧ p < 125) (ht : 0 ≤ t ∧ t < 3)
    (hQ : ∀ (w' : wb_W) (wf' : Int → Int), (∀ k, 0 ≤ k → k < 625 → wf' k = wf k + wb_ct (fun q => O (p * 125 + q) && decide (wb_ky hl sf t (p * 125 + q) = k)) 125) → wb_We w' xt wf' cf ms ff → (∀ k, k ≠ 92 → w' k = w k) → Q none N w') : wb_M G M_X9_addWeights [.ref 89, .int (wb_i p), .int (wb_i t), .int (wb_i (wb_gu hl sf t))] N w Q := by
  unfold wb_M
  have hgr := wb_gu_rm hHL hR ht
  have hpt := hwo.2.2
  have hrow := wb_w2_row hO hp
  have ha := wb_am_rg (p := p) (t := t) hp.1
  have hag := wb_am_rg (p := p) (t := wb_gu hl sf t) hp.1
  have lp : ∀ i, i ≤ 5 → ∀ (w1 : wb_W) (wf1 : Int → Int), 0 ≤ i → (∀ k, 0 ≤ k → k < 625 → wf1 k = wf k + wb_ct (fun q => O (p * 125 + q) && decide (wb_ky hl sf t (p * 125 + q) = k) && decide (wb_am q t < i)) 125) → wb_We w1 xt wf1 cf ms ff → (∀ k, k ≠ 92 → w1 k = w k) → wb_V G M_X9_addWeights 21 [(0, .ref 89), (1, .int (wb_i p)), (2, .int (wb_i t)), (3, .int (wb_i (wb_gu hl sf t))), (4, .ref 30), (5, .int (wb_i (5 * wb_am p t))), (6, .int (wb_i i))] [] N w1 0 0 Q := by
    refine wb_up 5 _ ?_
    intro i ih hi w1 wf1 hi0 hwf hwe1 ef
    have hwe1' := hwe1
    obtain ⟨e0, e1, e2, e3, e4⟩ := hwe1'
    have hwo1 : wb_Wo w1 hl wt ct mt := hwo.fr (fun k hk => ef k (by omega))
    have hpt1 : wb_Pt w1 30 := hpt.fr (fun k p1 p2 => ef k (by omega))
    have hpt1' := hpt1
    obtain ⟨_, _, _, _, p0, -⟩ := hpt1'
    have h901 : wb_Mw w1 90 g9 := h90.fr (fun k p1 p2 => ef k (by omega))
    have lst : ∀ k, wb_ct (fun q => O (p * 125 + q) && decide (wb_ky hl sf t (p * 125 + q) = k) && decide (wb_am q t < i + 1)) 125 = wb_ct (fun q => O (p * 125 + q) && decide (wb_ky hl sf t (p * 125 + q) = k) && decide (wb_am q t < i)) 125 + wb_ct (fun q => O (p * 125 + q) && decide (wb_ky hl sf t (p * 125 + q) = k) && decide (wb_am q t = i)) 125 := fun k => wb_ct_lt1 _ _ i 125
    have keyN : wb_gu hl sf t < 0 → ∀ k, wb_ct (fun q => O (p * 125 + q) && decide (wb_ky hl sf t (p * 125 + q) = k) && decide (wb_am q t = i)) 125 = if k = 5 * wb_am p t + i then wb_ct (fun q => O (p * 125 + q) && decide (wb_am q t = i)) 125 else 0 := fun hg k => wb_ct_key (fun q q1 q2 h => by rw [wb_ky_row ⟨q1, by omega⟩, if_pos hg, h]; omega)
    have keyG : 0 ≤ wb_gu hl sf t → ∀ k, wb_ct (fun q => O (p * 125 + q) && decide (wb_ky hl sf t (p * 125 + q) = k) && decide (wb_am q t = i)) 125 = wb_ct (fun q => (O (p * 125 + q) && decide (wb_am q t = i)) && decide (5 * wb_am p t + i + 25 * (5 * wb_am p (wb_gu hl sf t) + wb_am q (wb_gu hl sf t)) = k)) 125 := fun hg k => wb_ct_congr 125 (fun q q1 q2 => by
      rw [wb_ky_row ⟨q1, by omega⟩, if_neg (by omega)]
      by_cases h : wb_am q t = i
      · rw [h]; simp
      · simp [h])
    have nxt : i < 5 → ∀ (w2 : wb_W) (wf2 : Int → Int), (∀ k, 0 ≤ k → k < 625 → wf2 k = wf1 k + wb_ct (fun q => O (p * 125 + q) && decide (wb_ky hl sf t (p * 125 + q) = k) && decide (wb_am q t = i)) 125) → wb_We w2 xt wf2 cf ms ff → (∀ k, k ≠ 92 → w2 k = w1 k) → wb_V G M_X9_addWeights 21 [(0, .ref 89), (1, .int (wb_i p)), (2, .int (wb_i t)), (3, .int (wb_i (wb_gu hl sf t))), (4, .ref 30), (5, .int (wb_i (5 * wb_am p t))), (6, .int (wb_i (i + 1)))] [] N w2 0 0 Q := fun h5 w2 wf2 h2 hwe2 hf2 => ih (i + 1) (by omega) (by omega) w2 wf2 (by omega) (fun k k1 k2 => by rw [h2 k k1 k2, hwf k k1 k2, lst k]; omega) hwe2 (fun k hk => (hf2 k hk).trans (ef k hk))
    refine vi_iload 12 rfl rfl ?_
    refine vi_iconst 13 rfl ?_
    refine vi_icmp_ge 14 rfl (by omega) (by omega) (fun c_24 => ?_) (fun c_24 => ?_)
    · exact vi_return 82 rfl rfl (Nat.zero_le _) (Nat.zero_le _) (hQ w1 wf1 (fun k k1 k2 => by rw [hwf k k1 k2, wb_ct_congr 125 (fun q q1 q2 => by have := wb_am_rg (p := q) (t := t) q1; rw [decide_eq_true (show wb_am q t < i by omega), Bool.and_true])]) hwe1 ef)
    · refine vi_aload_n 15 rfl rfl ?_
      refine vi_get 16 rfl f_X9_12 e0 rfl rfl ?_
      refine vi_iload_n 17 rfl rfl ?_
      refine vi_V1 18 ok_X5_low rfl c_X9_133 h901.1 rfl rfl ?_
      refine sp_X5_low h901 (by omega) ?_
      rw [if_pos (by omega)]
      refine vi_aload 19 rfl rfl ?_
      refine vi_iload_n 20 rfl rfl ?_
      refine vi_iload 21 rfl rfl ?_
      refine vi_V2 22 ok_X6_lowWith rfl c_X9_151 p0 rfl rfl ?_
      refine sp_X6_lowWith hpt1 (by omega) (by omega) (fun v_40 hv_40 => ?_)
      refine vi_land 23 rfl ?_
      refine vi_lstore 24 rfl rfl ?_
      refine vi_aload_n 25 rfl rfl ?_
      refine vi_get 26 rfl f_X9_12 e0 rfl rfl ?_
      refine vi_iload_n 27 rfl rfl ?_
      refine vi_V1 28 ok_X5_high rfl c_X9_137 h901.1 rfl rfl ?_
      refine sp_X5_high h901 (by omega) ?_
      rw [if_pos (by omega)]
      refine vi_aload 29 rfl rfl ?_
      refine vi_iload_n 30 rfl rfl ?_
      refine vi_iload 31 rfl rfl ?_
      refine vi_V2 32 ok_X6_highWith rfl c_X9_157 p0 rfl rfl ?_
      refine sp_X6_highWith hpt1 (by omega) (by omega) (fun v_59 hv_59 => ?_)
      have hw2 := wb_w2_and hrow (⟨hv_40, hv_59⟩ : wb_w2 v_40 v_59 (fun q => decide (wb_am q t = i)))
      have hct := wb_w2_ct hw2
      have hne := wb_w2_ne hw2
      refine vi_land 33 rfl ?_
      refine vi_lstore 34 rfl rfl ?_
      refine vi_iload_n 35 rfl rfl ?_
      refine vi_if_ge 36 rfl (by omega) (fun c_66 => ?_) (fun c_66 => ?_)
      · refine vi_iload_n 59 rfl rfl ?_
        refine vi_if_lt 60 rfl (by omega) (fun c_110 => by exfalso; omega) (fun c_110 => ?_)
        refine vi_lload 61 rfl rfl ?_
        refine vi_lload 62 rfl rfl ?_
        refine vi_lor 63 rfl ?_
        refine vi_lconst 64 rfl ?_
        refine vi_lcmp 65 rfl ?_
        refine vi_if_eq32 66 rfl  (fun c_120 => ?_) (fun c_120 => ?_)
        · refine vi_iinc 80 rfl rfl rfl ?_
          refine vi_goto 81 rfl ?_
          first | exact vi_lc (nxt (by omega) w2 wf2 (fun k k1 k2 => by rw [hwf2 k k1 k2, keyG (by omega) k]) hwe2 hf2) ⟨rfl, rfl, rfl, rfl, rfl, rfl, rfl, trivial⟩ | exact vi_lc (nxt (by omega) _ (wb_u wf1 (5 * wb_am p t + i) _) (fun k k1 k2 => by rw [keyN (by omega) k]; by_cases e : k = 5 * wb_am p t + i; (rw [if_pos e, e, wb_us]); (rw [if_neg e, wb_un e, Int.add_zero])) ⟨by rw [wb_upn (by omega)]; exact e0, wb_ups, by rw [wb_upn (by omega)]; exact e2, by rw [wb_upn (by omega)]; exact e3, by rw [wb_upn (by omega)]; exact e4⟩ (fun k hk => wb_upn hk)) ⟨rfl, rfl, rfl, rfl, rfl, rfl, rfl, trivial⟩ | exact vi_lc (nxt (by omega) w1 wf1 (fun k k1 k2 => by rw [keyG (by omega) k, wb_ct_none 125 (fun q q1 q2 => by rw [wb_ex_no.mp (hne.mp ((wb_cmp0 _).mp c_120)) q q1 q2, Bool.false_and]), Int.add_zero]) hwe1 (fun _ _ => rfl)) ⟨rfl, rfl, rfl, rfl, rfl, rfl, rfl, trivial⟩
        · refine vi_aload_n 67 rfl rfl ?_
          refine vi_iload 68 rfl rfl ?_
          refine vi_iload 69 rfl rfl ?_
          refine vi_iadd 70 rfl ?_
          refine vi_iconst 71 rfl ?_
          refine vi_iload_n 72 rfl rfl ?_
          refine vi_iload_n 73 rfl rfl ?_
          refine vi_S2 74 ok_X11_amountIn rfl c_X9_148 rfl ?_
          refine sp_X11_amountIn (by omega) (by omega) ?_
          refine vi_imul 75 rfl ?_
          refine vi_iload_n 76 rfl rfl ?_
          refine vi_lload 77 rfl rfl ?_
          refine vi_lload 78 rfl rfl ?_
          refine vi_V5 79 ok_X9_addGuestWeights rfl c_X9_166 e0 rfl rfl ?_
          refine sp_X9_addGuestWeights hwe1 hwo1 (by omega) (by omega) (by omega) hw2 (fun w2 wf2 hwf2 hwe2 hf2 => ?_)
          refine vi_iinc 80 rfl rfl rfl ?_
          refine vi_goto 81 rfl ?_
          first | exact vi_lc (nxt (by omega) w2 wf2 (fun k k1 k2 => by rw [hwf2 k k1 k2, keyG (by omega) k]) hwe2 hf2) ⟨rfl, rfl, rfl, rfl, rfl, rfl, rfl, trivial⟩ | exact vi_lc (nxt (by omega) _ (wb_u wf1 (5 * wb_am p t + i) _) (fun k k1 k2 => by rw [keyN (by omega) k]; by_cases e : k = 5 * wb_am p t + i; (rw [if_pos e, e, wb_us]); (rw [if_neg e, wb_un e, Int.add_zero])) ⟨by rw [wb_upn (by omega)]; exact e0, wb_ups, by rw [wb_upn (by omega)]; exact e2, by rw [wb_upn (by omega)]; exact e3, by rw [wb_upn (by omega)]; exact e4⟩ (fun k hk => wb_upn hk)) ⟨rfl, rfl, rfl, rfl, rfl, rfl, rfl, trivial⟩ | exact vi_lc (nxt (by omega) w1 wf1 (fun k k1 k2 => by rw [keyG (by omega) k, wb_ct_none 125 (fun q q1 q2 => by rw [wb_ex_no.mp (hne.mp ((wb_cmp0 _).mp c_120)) q q1 q2, Bool.false_and]), Int.add_zero]) hwe1 (fun _ _ => rfl)) ⟨rfl, rfl, rfl, rfl, rfl, rfl, rfl, trivial⟩
      · refine vi_iload 37 rfl rfl ?_
        refine vi_iload 38 rfl rfl ?_
        refine vi_iadd 39 rfl ?_
        refine vi_aload_n 40 rfl rfl ?_
        refine vi_get 41 rfl f_X9_18 e0 rfl rfl ?_
        refine vi_alen 42 rfl e1 rfl ?_
        refine vi_icmp_ge 43 rfl (by omega) (by omega) (fun c_79 => by exfalso; omega) (fun c_79 => ?_)
        refine vi_aload_n 44 rfl rfl ?_
        refine vi_get 45 rfl f_X9_18 e0 rfl rfl ?_
        refine vi_iload 46 rfl rfl ?_
        refine vi_iload 47 rfl rfl ?_
        refine vi_iadd 48 rfl ?_
        refine vi_dup2 49 rfl rfl rfl ?_
        refine vi_iald 50 rfl e1 (by omega) ?_
        refine vi_lload 51 rfl rfl ?_
        refine vi_S1 52 ok_J13_bitCount_95d88 rfl c_X9_160 rfl ?_
        refine sp_bitCountL ?_
        refine vi_lload 53 rfl rfl ?_
        refine vi_S1 54 ok_J13_bitCount_95d88 rfl c_X9_160 rfl ?_
        refine sp_bitCountL ?_
        refine vi_iadd 55 rfl ?_
        rw [hct]
        refine vi_iadd 56 rfl ?_
        refine vi_iast 57 rfl e1 (by omega) ?_
        refine vi_goto 58 rfl ?_
        refine vi_iinc 80 rfl rfl rfl ?_
        refine vi_goto 81 rfl ?_
        first | exact vi_lc (nxt (by omega) w2 wf2 (fun k k1 k2 => by rw [hwf2 k k1 k2, keyG (by omega) k]) hwe2 hf2) ⟨rfl, rfl, rfl, rfl, rfl, rfl, rfl, trivial⟩ | exact vi_lc (nxt (by omega) _ (wb_u wf1 (5 * wb_am p t + i) _) (fun k k1 k2 => by rw [keyN (by omega) k]; by_cases e : k = 5 * wb_am p t + i; (rw [if_pos e, e, wb_us]); (rw [if_neg e, wb_un e, Int.add_zero])) ⟨by rw [wb_upn (by omega)]; exact e0, wb_ups, by rw [wb_upn (by omega)]; exact e2, by rw [wb_upn (by omega)]; exact e3, by rw [wb_upn (by omega)]; exact e4⟩ (fun k hk => wb_upn hk)) ⟨rfl, rfl, rfl, rfl, rfl, rfl, rfl, trivial⟩ | exact vi_lc (nxt (by omega) w1 wf1 (fun k k1 k2 => by rw [keyG (by omega) k, wb_ct_none 125 (fun q q1 q2 => by rw [wb_ex_no.mp (hne.mp ((wb_cmp0 _).mp c_120)) q q1 q2, Bool.false_and]), Int.add_zero]) hwe1 (fun _ _ => rfl)) ⟨rfl, rfl, rfl, rfl, rfl, rfl, rfl, trivial⟩
  have hwe' := hwe
  obtain ⟨e0, -⟩ := hwe'
  refine vi_aload_n 0 rfl rfl ?_
  refine vi_get 1 rfl f_X9_31 e0 rfl rfl ?_
  refine vi_get 2 rfl f_X9_144 hwo.1 rfl rfl ?_
  refine vi_astore 3 rfl rfl ?_
  refine vi_iconst 4 rfl ?_
  refine vi_iload_n 5 rfl rfl ?_
  refine vi_iload_n 6 rfl rfl ?_
  refine vi_S2 7 ok_X11_amountIn rfl c_X9_148 rfl ?_
  refine sp_X11_amountIn (by omega) (by omega) ?_
  refine vi_imul 8 rfl ?_
  refine vi_istore 9 rfl rfl ?_
  refine vi_iconst 10 rfl ?_
  refine vi_istore 11 rfl rfl ?_
  exact vi_lc (lp 0 (by omega) w wf (by omega) (fun k k1 k2 => by rw [wb_ct_none 125 (fun q q1 q2 => by have := wb_am_rg (p := q) (t := t) q1; rw [decide_eq_false (show ¬ wb_am q t < 0 by omega), Bool.and_false]), Int.add_zero]) hwe (fun _ _ => rfl)) ⟨rfl, rfl, rfl, rfl, rfl, rfl, rfl, trivial⟩
theorem sp_X9_setWeights {t : Int} {g9 : Int → Int64} (hwe : wb_We w xt wf cf ms ff) (h90 : wb_Mw w 90 g9) (hwo : wb_Wo w hl wt ct mt) (hbk : wb_Bk w 4 n c s sd sf bo tu g) (hR : wb_BR n c s sd sf) (hK : wb_rp g K) (hHL : wb_HL hl n c sd sf) (hce : ∀ t, 0 ≤ t → t < 3 → wb_Ce w hl n c s sd sf t True True) (ht : 0 ≤ t ∧ t < 3)
    (hQ : ∀ (w' : wb_W) (wf' : Int → Int) (g' : Int → Int64), (∀ k, 0 ≤ k → k < 625 → wf' k = wb_ct (fun x => wb_OO n c s sd sf K t x && decide (wb_ky hl sf t x = k)) 15625) → wb_We w' xt wf' cf ms ff → wb_Mw w' 90 g' → (∀ k, k ≠ 91 → k ≠ 92 → w' k = w k) → Q none N w') : wb_M G M_X9_setWeights [.ref 89, .int (wb_i t)] N w Q := by
  unfold wb_M
  have hrg := hHL.rg hR
  have hp2t := wb_p2_rg (n := t) (by omega)
  have lp2 : ∀ (g1 : Int → Int64), wb_rp g1 (wb_OO n c s sd sf K t) → ∀ i, i ≤ 125 → ∀ (w1 : wb_W) (wf1 : Int → Int), 0 ≤ i → wb_Mw w1 90 g1 → (∀ k, 0 ≤ k → k < 625 → wf1 k = wb_ct (fun x => wb_OO n c s sd sf K t x && decide (wb_ky hl sf t x = k)) (125 * i.toNat)) → wb_We w1 xt wf1 cf ms ff → (∀ k, k ≠ 91 → k ≠ 92 → w1 k = w k) → wb_V G M_X9_setWeights 52 [(0, .ref 89), (1, .int (wb_i t)), (2, .int (wb_i (wb_gu hl sf t))), (3, .int (wb_i i))] [] N w1 0 0 Q := by
    intro g1 hg1
    refine wb_up 125 _ ?_
    intro i ih hi w1 wf1 hi0 hm1 hwf hwe1 ef
    have hwe1' := hwe1
    obtain ⟨e0, e1, e2, e3, e4⟩ := hwe1'
    have hwo1 : wb_Wo w1 hl wt ct mt := hwo.fr (fun k hk => ef k (by omega) (by omega))
    have hne := fun q : i < 125 => wb_w2_ne (wb_w2_row hg1 (p := i) ⟨hi0, q⟩)
    have hsp : ∀ k, wb_ct (fun x => wb_OO n c s sd sf K t x && decide (wb_ky hl sf t x = k)) (125 * (i + 1).toNat) = wb_ct (fun x => wb_OO n c s sd sf K t x && decide (wb_ky hl sf t x = k)) (125 * i.toNat) + wb_ct (fun q => wb_OO n c s sd sf K t (i * 125 + q) && decide (wb_ky hl sf t (i * 125 + q) = k)) 125 := fun k => by
      rw [show 125 * (i + 1).toNat = 125 * i.toNat + 125 by omega, wb_ct_split]
      rw [wb_ct_congr (q := fun q => wb_OO n c s sd sf K t (i * 125 + q) && decide (wb_ky hl sf t (i * 125 + q) = k)) 125 (fun q q1 q2 => by rw [show ((125 * i.toNat : Nat) : Int) + q = i * 125 + q by omega])]
    refine vi_iload_n 30 rfl rfl ?_
    refine vi_bipush 31 rfl (by decide) ?_
    refine vi_icmp_ge 32 rfl (by omega) (by omega) (fun c_55 => ?_) (fun c_55 => ?_)
    · exact vi_return 52 rfl rfl (Nat.zero_le _) (Nat.zero_le _) (hQ w1 wf1 g1 (fun k k1 k2 => by rw [hwf k k1 k2, show 125 * i.toNat = 15625 by omega]) hwe1 hm1 ef)
    · refine vi_aload_n 33 rfl rfl ?_
      refine vi_get 34 rfl f_X9_12 e0 rfl rfl ?_
      refine vi_iload_n 35 rfl rfl ?_
      refine vi_V1 36 ok_X5_low rfl c_X9_133 hm1.1 rfl rfl ?_
      refine sp_X5_low hm1 (by omega) ?_
      rw [if_pos (by omega)]
      refine vi_aload_n 37 rfl rfl ?_
      refine vi_get 38 rfl f_X9_12 e0 rfl rfl ?_
      refine vi_iload_n 39 rfl rfl ?_
      refine vi_V1 40 ok_X5_high rfl c_X9_137 hm1.1 rfl rfl ?_
      refine sp_X5_high hm1 (by omega) ?_
      rw [if_pos (by omega)]
      refine vi_lor 41 rfl ?_
      refine vi_lconst 42 rfl ?_
      refine vi_lcmp 43 rfl ?_
      refine vi_if_eq32 44 rfl  (fun c_77 => ?_) (fun c_77 => ?_)
      · refine vi_iinc 50 rfl rfl rfl ?_
        refine vi_goto 51 rfl ?_
        first | exact vi_lc (ih (i + 1) (by omega) (by omega) w2 wf2 (by omega) (hm1.fr (fun k p1 p2 => hf2 k (by omega))) (fun k k1 k2 => by rw [hwf2 k k1 k2, hwf k k1 k2, hsp k]) hwe2 (fun k p1 p2 => (hf2 k p2).trans (ef k p1 p2))) ⟨rfl, rfl, rfl, rfl, trivial⟩ | exact vi_lc (ih (i + 1) (by omega) (by omega) w1 wf1 (by omega) hm1 (fun k k1 k2 => by rw [hwf k k1 k2, hsp k, wb_ct_none 125 (fun q q1 q2 => by rw [wb_ex_no.mp ((hne (by omega)).mp ((wb_cmp0 _).mp c_77)) q q1 q2, Bool.false_and]), Int.add_zero]) hwe1 ef) ⟨rfl, rfl, rfl, rfl, trivial⟩
      · refine vi_aload_n 45 rfl rfl ?_
        refine vi_iload_n 46 rfl rfl ?_
        refine vi_iload_n 47 rfl rfl ?_
        refine vi_iload_n 48 rfl rfl ?_
        refine vi_V3 49 ok_X9_addWeights rfl c_X9_140 e0 rfl rfl ?_
        refine sp_X9_addWeights hwe1 hwo1 hm1 hg1 hR hHL (by omega) ht (fun w2 wf2 hwf2 hwe2 hf2 => ?_)
        refine vi_iinc 50 rfl rfl rfl ?_
        refine vi_goto 51 rfl ?_
        first | exact vi_lc (ih (i + 1) (by omega) (by omega) w2 wf2 (by omega) (hm1.fr (fun k p1 p2 => hf2 k (by omega))) (fun k k1 k2 => by rw [hwf2 k k1 k2, hwf k k1 k2, hsp k]) hwe2 (fun k p1 p2 => (hf2 k p2).trans (ef k p1 p2))) ⟨rfl, rfl, rfl, rfl, trivial⟩ | exact vi_lc (ih (i + 1) (by omega) (by omega) w1 wf1 (by omega) hm1 (fun k k1 k2 => by rw [hwf k k1 k2, hsp k, wb_ct_none 125 (fun q q1 q2 => by rw [wb_ex_no.mp ((hne (by omega)).mp ((wb_cmp0 _).mp c_77)) q q1 q2, Bool.false_and]), Int.add_zero]) hwe1 ef) ⟨rfl, rfl, rfl, rfl, trivial⟩
  have hk : ∀ u : wb_W, wb_Ce u hl n c s sd sf t True True → ∃ (fs : List Value), u (wb_cp hl t) = .inr (2, fs) ∧ fs[8]? = some (.int (wb_i (wb_gu hl sf t))) := fun u hu => by
    obtain ⟨⟨nd, ah, on, ⟨f0, f1, k0, -⟩, -⟩, -⟩ := hu
    exact ⟨_, k0, rfl⟩
  have lp1 : ∀ (g1 : Int → Int64), wb_rp g1 (wb_OO n c s sd sf K t) → ∀ i, i ≤ 625 → ∀ (w1 : wb_W) (wf1 : Int → Int), 0 ≤ i → wb_Mw w1 90 g1 → (∀ k, 0 ≤ k → k < i → wf1 k = 0) → wb_We w1 xt wf1 cf ms ff → (∀ k, k ≠ 91 → k ≠ 92 → w1 k = w k) → wb_V G M_X9_setWeights 16 [(0, .ref 89), (1, .int (wb_i t)), (2, .int (wb_i i))] [] N w1 0 0 Q := by
    intro g1 hg1
    refine wb_up 625 _ ?_
    intro i ih hi w1 wf1 hi0 hm1 hwf hwe1 ef
    have hwe1' := hwe1
    obtain ⟨e0, e1, e2, e3, e4⟩ := hwe1'
    have hwo1 : wb_Wo w1 hl wt ct mt := hwo.fr (fun k hk => ef k (by omega) (by omega))
    have hcr := wb_cp_rg hl ht
    obtain ⟨fs, k0, k8⟩ := hk w1 ((hce t ht.1 ht.2).fr (fun k p1 p2 => ef k (by omega) (by omega)))
    refine vi_iload_n 10 rfl rfl ?_
    refine vi_aload_n 11 rfl rfl ?_
    refine vi_get 12 rfl f_X9_18 e0 rfl rfl ?_
    refine vi_alen 13 rfl e1 rfl ?_
    refine vi_icmp_ge 14 rfl (by omega) (by omega) (fun c_22 => ?_) (fun c_22 => ?_)
    · refine vi_aload_n 22 rfl rfl ?_
      refine vi_get 23 rfl f_X9_31 e0 rfl rfl ?_
      refine vi_iload_n 24 rfl rfl ?_
      refine vi_V1 25 ok_X10_course rfl c_X9_76 hwo1.1 rfl rfl ?_
      refine sp_X10_course ‹_› (by omega) (by omega) ?_
      refine vi_get 26 rfl f_X9_130 k0 rfl k8 ?_
      refine vi_istore_n 27 rfl rfl ?_
      refine vi_iconst 28 rfl ?_
      refine vi_istore_n 29 rfl rfl ?_
      exact vi_lc (lp2 g1 hg1 0 (by omega) w1 wf1 (by omega) hm1 (fun k k1 k2 => by rw [hwf k k1 (by omega)]; rfl) hwe1 ef) ⟨rfl, rfl, rfl, rfl, trivial⟩
    · refine vi_aload_n 15 rfl rfl ?_
      refine vi_get 16 rfl f_X9_18 e0 rfl rfl ?_
      refine vi_iload_n 17 rfl rfl ?_
      refine vi_iconst 18 rfl ?_
      refine vi_iast 19 rfl e1 (by omega) ?_
      refine vi_iinc 20 rfl rfl rfl ?_
      refine vi_goto 21 rfl ?_
      exact vi_lc (ih (i + 1) (by omega) (by omega) _ (wb_u wf1 i 0) (by omega) (hm1.fr (fun k p1 p2 => wb_upn (by omega))) (fun k k1 k2 => by by_cases e : k = i; (rw [e]; exact wb_us); (rw [wb_un e]; exact hwf k k1 (by omega))) ⟨by rw [wb_upn (by omega)]; exact e0, wb_ups, by rw [wb_upn (by omega)]; exact e2, by rw [wb_upn (by omega)]; exact e3, by rw [wb_upn (by omega)]; exact e4⟩ (fun k p1 p2 => (wb_upn p2).trans (ef k p1 p2))) ⟨rfl, rfl, rfl, trivial⟩
  have hwe' := hwe
  obtain ⟨e0, -⟩ := hwe'
  refine vi_aload_n 0 rfl rfl ?_
  refine vi_get 1 rfl f_X9_31 e0 rfl rfl ?_
  refine vi_aload_n 2 rfl rfl ?_
  refine vi_get 3 rfl f_X9_12 e0 rfl rfl ?_
  refine vi_iconst 4 rfl ?_
  refine vi_iload_n 5 rfl rfl ?_
  refine vi_ishl 6 rfl ?_
  rw [wb_shl1 (by omega)]
  refine vi_V2 7 ok_X10_sift rfl c_X9_126 hwo.1 rfl rfl ?_
  refine sp_X10_sift (cv := True) (mv := True) (wo := wb_p2 t) hwo hbk hR hK hHL h90 (by omega) hce trivial (by rcases (show t = 0 ∨ t = 1 ∨ t = 2 by omega) with e | e | e <;> subst e <;> decide) (fun w2 g2 hg2 hm2 hf2 => ?_)
  refine vi_iconst 8 rfl ?_
  refine vi_istore_n 9 rfl rfl ?_
  exact vi_lc (lp1 g2 (hg2.to (fun x p1 p2 => by unfold wb_OO; rw [wb_al_congr 3 (fun u u1 u2 => by rw [wb_p2_bt ht.1 u1])])) 0 (by omega) w2 wf (by omega) hm2 (fun k k1 k2 => by omega) (hwe.fr (fun k hk => hf2 k (by omega))) (fun k p1 p2 => hf2 k p1)) ⟨rfl, rfl, rfl, trivial⟩
end WBS45
