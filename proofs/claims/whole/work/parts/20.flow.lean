/-! ===== parts, flow ===== -/
/-- the parts at b: which parts of q (or p) have so much of a thing, so many things -/
def wb_Pt (w : wb_W) (b : Nat) : Prop := ∃ f0 f1 f2 f3 : Int → Int64, w b = .inr (6, [.ref (b + 1), .ref (b + 2), .ref (b + 3), .ref (b + 4)]) ∧ w (b + 1) = aL 15 f0 ∧ w (b + 2) = aL 15 f1 ∧ w (b + 3) = aL 4 f2 ∧ w (b + 4) = aL 4 f3 ∧
  (∀ t a q, 0 ≤ t → t < 3 → 0 ≤ a → a < 5 → 0 ≤ q → q < 64 → wb_tb (f0 (5 * t + a)) q = decide (wb_am q t = a) ∧ wb_tb (f1 (5 * t + a)) q = (decide (q < 61) && decide (wb_am (64 + q) t = a))) ∧
  (∀ m q, 0 ≤ m → m < 4 → 0 ≤ q → q < 64 → wb_tb (f2 m) q = decide (wb_th q = m) ∧ wb_tb (f3 m) q = (decide (q < 61) && decide (wb_th (64 + q) = m)))
theorem wb_Pt.fr {w w' : wb_W} {b : Nat} (h : wb_Pt w b) (hf : ∀ k, b ≤ k → k < b + 5 → w' k = w k) : wb_Pt w' b := by
  obtain ⟨f0, f1, f2, f3, h0, h1, h2, h3, h4, h5⟩ := h
  exact ⟨f0, f1, f2, f3, (hf _ (by omega) (by omega)).trans h0, (hf _ (by omega) (by omega)).trans h1, (hf _ (by omega) (by omega)).trans h2, (hf _ (by omega) (by omega)).trans h3, (hf _ (by omega) (by omega)).trans h4, h5⟩
/-- a flow at b -/
def wb_Fl (w : wb_W) (b : Nat) (n : Int) (le mo : Int → Int) (fl fm ho lo L H : Int) : Prop :=
  w b = .inr (3, [.int (wb_i n), .ref (b + 1), .ref (b + 2), .int (wb_i fl), .int (wb_i fm), .int (wb_i ho), .int (wb_i lo), .int (wb_i L), .int (wb_i H)]) ∧ w (b + 1) = aI 8 le ∧ w (b + 2) = aI 8 mo
theorem wb_Fl.fr {w w' : wb_W} {b : Nat} {n : Int} {le mo : Int → Int} {fl fm ho lo L H : Int} (h : wb_Fl w b n le mo fl fm ho lo L H) (hf : ∀ k, b ≤ k → k < b + 3 → w' k = w k) : wb_Fl w' b n le mo fl fm ho lo L H := by
  obtain ⟨h0, h1, h2⟩ := h
  exact ⟨(hf _ (by omega) (by omega)).trans h0, (hf _ (by omega) (by omega)).trans h1, (hf _ (by omega) (by omega)).trans h2⟩
/-- its numbers are small -/
def wb_FR (n : Int) (le mo : Int → Int) (fl fm ho lo : Int) : Prop := (0 ≤ n ∧ n ≤ 8) ∧ (∀ m, 0 ≤ m → m < n → (0 ≤ le m ∧ le m ≤ 1000) ∧ 0 ≤ mo m ∧ mo m ≤ 100000) ∧ (0 ≤ fl ∧ fl ≤ 99) ∧ (0 ≤ fm ∧ fm ≤ 99) ∧ (0 ≤ ho ∧ ho ≤ 199) ∧ (0 ≤ lo ∧ lo ≤ 5)
def wb_c0 (z : Int) : Int := if z < 0 then 0 else z
def wb_cx (ho z : Int) : Int := if ho < z then ho else z
/-- the bit of a set of months -/
def wb_bt (d m : Int) : Bool := d.toNat.testBit m.toNat
theorem wb_sh31 : ∀ k : Fin 31, (((wb_i (k.val : Int)) &&& 31).toBitVec.smod 32).toNat = k.val := by decide +kernel
theorem wb_sh1 {d m : Int} (hd : 0 ≤ d ∧ d ≤ 2147483647) (hm : 0 ≤ m ∧ m < 31) : (wb_i d >>> (wb_i m &&& 31)) &&& wb_i 1 = wb_i (if wb_bt d m then 1 else 0) := by
  have e := wb_sh31 ⟨m.toNat, by omega⟩
  simp only [show ((m.toNat : Nat) : Int) = m by omega] at e
  obtain ⟨a, rfl⟩ := Int.eq_ofNat_of_zero_le hd.1
  rw [wb_i_nat, pk_shrN (by omega) _ m.toNat e, pk_andN (by have := Nat.div_le_self a (2 ^ m.toNat); omega) 1 (by decide)]
  unfold wb_bt
  rw [Nat.testBit_eq_decide_div_mod_eq, show ((a : Int)).toNat = a by omega]
  rcases Nat.mod_two_eq_zero_or_one (a / 2 ^ m.toNat) with h | h
  · rw [show a / 2 ^ m.toNat % 2 ^ 1 = a / 2 ^ m.toNat % 2 by rfl, h]; rfl
  · rw [show a / 2 ^ m.toNat % 2 ^ 1 = a / 2 ^ m.toNat % 2 by rfl, h]; rfl
section WBS20
variable {G : wb_G} {N : Nat} {w : wb_W} {Q : Option Value → Nat → wb_W → Prop} {b : Nat}
theorem sp_X6_lowWith {t a : Int} (hb : wb_Pt w b) (ht : 0 ≤ t ∧ t < 3) (ha : 0 ≤ a ∧ a < 5) (hQ : ∀ v : Int64, (∀ q, 0 ≤ q → q < 64 → wb_tb v q = decide (wb_am q t = a)) → Q (some (.long v)) N w) : wb_M G M_X6_lowWith [.ref b, .int (wb_i t), .int (wb_i a)] N w Q := by
  obtain ⟨f0, f1, f2, f3, h0, h1, h2, h3, h4, h5, h6⟩ := hb
  unfold wb_M
  refine vi_iload_n 0 rfl rfl ?_
  refine vi_iconst 1 rfl ?_
  refine vi_imul 2 rfl ?_
  refine vi_iload_n 3 rfl rfl ?_
  refine vi_iadd 4 rfl ?_
  refine vi_istore_n 5 rfl rfl ?_
  refine vi_iload_n 6 rfl rfl ?_
  refine vi_if_lt 7 rfl (by omega) (fun c_7 => by exfalso; omega) (fun c_7 => ?_)
  refine vi_iload_n 8 rfl rfl ?_
  refine vi_aload_n 9 rfl rfl ?_
  refine vi_get 10 rfl f_X6_11 h0 rfl rfl ?_
  refine vi_alen 11 rfl h1 rfl ?_
  refine vi_icmp_ge 12 rfl (by omega) (by omega) (fun c_16 => by exfalso; omega) (fun c_16 => ?_)
  refine vi_aload_n 13 rfl rfl ?_
  refine vi_get 14 rfl f_X6_11 h0 rfl rfl ?_
  refine vi_iload_n 15 rfl rfl ?_
  refine vi_lald 16 rfl h1 (by omega) ?_
  refine vi_goto 17 rfl ?_
  exact vi_lreturn 19 rfl rfl (Nat.zero_le _) (Nat.zero_le _) (hQ _ (fun q q1 q2 => by rw [show t * 5 + a = 5 * t + a by omega]; exact (h5 t a q ht.1 ht.2 ha.1 ha.2 q1 q2).1))
theorem sp_X6_highWith {t a : Int} (hb : wb_Pt w b) (ht : 0 ≤ t ∧ t < 3) (ha : 0 ≤ a ∧ a < 5) (hQ : ∀ v : Int64, (∀ q, 0 ≤ q → q < 64 → wb_tb v q = (decide (q < 61) && decide (wb_am (64 + q) t = a))) → Q (some (.long v)) N w) : wb_M G M_X6_highWith [.ref b, .int (wb_i t), .int (wb_i a)] N w Q := by
  obtain ⟨f0, f1, f2, f3, h0, h1, h2, h3, h4, h5, h6⟩ := hb
  unfold wb_M
  refine vi_iload_n 0 rfl rfl ?_
  refine vi_iconst 1 rfl ?_
  refine vi_imul 2 rfl ?_
  refine vi_iload_n 3 rfl rfl ?_
  refine vi_iadd 4 rfl ?_
  refine vi_istore_n 5 rfl rfl ?_
  refine vi_iload_n 6 rfl rfl ?_
  refine vi_if_lt 7 rfl (by omega) (fun c_7 => by exfalso; omega) (fun c_7 => ?_)
  refine vi_iload_n 8 rfl rfl ?_
  refine vi_aload_n 9 rfl rfl ?_
  refine vi_get 10 rfl f_X6_15 h0 rfl rfl ?_
  refine vi_alen 11 rfl h2 rfl ?_
  refine vi_icmp_ge 12 rfl (by omega) (by omega) (fun c_16 => by exfalso; omega) (fun c_16 => ?_)
  refine vi_aload_n 13 rfl rfl ?_
  refine vi_get 14 rfl f_X6_15 h0 rfl rfl ?_
  refine vi_iload_n 15 rfl rfl ?_
  refine vi_lald 16 rfl h2 (by omega) ?_
  refine vi_goto 17 rfl ?_
  exact vi_lreturn 19 rfl rfl (Nat.zero_le _) (Nat.zero_le _) (hQ _ (fun q q1 q2 => by rw [show t * 5 + a = 5 * t + a by omega]; exact (h5 t a q ht.1 ht.2 ha.1 ha.2 q1 q2).2))
theorem sp_X6_lowOfThings {m : Int} (hb : wb_Pt w b) (hm : 0 ≤ m ∧ m < 4) (hQ : ∀ v : Int64, (∀ q, 0 ≤ q → q < 64 → wb_tb v q = decide (wb_th q = m)) → Q (some (.long v)) N w) : wb_M G M_X6_lowOfThings [.ref b, .int (wb_i m)] N w Q := by
  obtain ⟨f0, f1, f2, f3, h0, h1, h2, h3, h4, h5, h6⟩ := hb
  unfold wb_M
  refine vi_iload_n 0 rfl rfl ?_
  refine vi_iconst 1 rfl ?_
  refine vi_S2 2 ok_X11_within rfl c_X6_32 rfl ?_
  refine sp_X11_within (by omega) (by omega) (fun b_2 => ?_) (fun b_2 => ?_)
  · refine vi_if_eq 3 rfl (by omega) (fun c => absurd c (by decide)) (fun _ => ?_)
    refine vi_aload_n 4 rfl rfl ?_
    refine vi_get 5 rfl f_X6_18 h0 rfl rfl ?_
    refine vi_iload_n 6 rfl rfl ?_
    refine vi_lald 7 rfl h3 (by omega) ?_
    refine vi_goto 8 rfl ?_
    exact vi_lreturn 10 rfl rfl (Nat.zero_le _) (Nat.zero_le _) (by first | exact hQ _ (fun q q1 q2 => (h6 m q hm.1 hm.2 q1 q2).1) | (exfalso; omega))
  · refine vi_if_eq 3 rfl (by omega) (fun _ => ?_) (fun c => absurd c (by decide))
    refine vi_lconst 9 rfl ?_
    exact vi_lreturn 10 rfl rfl (Nat.zero_le _) (Nat.zero_le _) (by first | exact hQ _ (fun q q1 q2 => (h6 m q hm.1 hm.2 q1 q2).1) | (exfalso; omega))
theorem sp_X6_highOfThings {m : Int} (hb : wb_Pt w b) (hm : 0 ≤ m ∧ m < 4) (hQ : ∀ v : Int64, (∀ q, 0 ≤ q → q < 64 → wb_tb v q = (decide (q < 61) && decide (wb_th (64 + q) = m))) → Q (some (.long v)) N w) : wb_M G M_X6_highOfThings [.ref b, .int (wb_i m)] N w Q := by
  obtain ⟨f0, f1, f2, f3, h0, h1, h2, h3, h4, h5, h6⟩ := hb
  unfold wb_M
  refine vi_iload_n 0 rfl rfl ?_
  refine vi_iconst 1 rfl ?_
  refine vi_S2 2 ok_X11_within rfl c_X6_32 rfl ?_
  refine sp_X11_within (by omega) (by omega) (fun b_2 => ?_) (fun b_2 => ?_)
  · refine vi_if_eq 3 rfl (by omega) (fun c => absurd c (by decide)) (fun _ => ?_)
    refine vi_aload_n 4 rfl rfl ?_
    refine vi_get 5 rfl f_X6_21 h0 rfl rfl ?_
    refine vi_iload_n 6 rfl rfl ?_
    refine vi_lald 7 rfl h4 (by omega) ?_
    refine vi_goto 8 rfl ?_
    exact vi_lreturn 10 rfl rfl (Nat.zero_le _) (Nat.zero_le _) (by first | exact hQ _ (fun q q1 q2 => (h6 m q hm.1 hm.2 q1 q2).2) | (exfalso; omega))
  · refine vi_if_eq 3 rfl (by omega) (fun _ => ?_) (fun c => absurd c (by decide))
    refine vi_lconst 9 rfl ?_
    exact vi_lreturn 10 rfl rfl (Nat.zero_le _) (Nat.zero_le _) (by first | exact hQ _ (fun q q1 q2 => (h6 m q hm.1 hm.2 q1 q2).2) | (exfalso; omega))
variable {n : Int} {le mo : Int → Int} {fl fm ho lo L H : Int}
theorem sp_X3_begin (hb : wb_Fl w b n le mo fl fm ho lo L H) (hQ : ∀ w', wb_Fl w' b n le mo fl fm ho lo fl fm → (∀ k, k ≠ b → w' k = w k) → Q none N w') : wb_M G M_X3_begin [.ref b] N w Q := by
  obtain ⟨h0, h1, h2⟩ := hb
  unfold wb_M
  refine vi_aload_n 0 rfl rfl ?_
  refine vi_aload_n 1 rfl rfl ?_
  refine vi_get 2 rfl f_X3_41 (by assumption) rfl rfl ?_
  refine vi_put 3 rfl f_X3_53 (by assumption) rfl rfl rfl rfl ?_
  refine vi_aload_n 4 rfl rfl ?_
  refine vi_aload_n 5 rfl rfl ?_
  refine vi_get 6 rfl f_X3_44 wb_ups rfl rfl ?_
  refine vi_put 7 rfl f_X3_56 wb_ups rfl rfl rfl rfl ?_
  exact vi_return 8 rfl rfl (Nat.zero_le _) (Nat.zero_le _) (hQ _ ⟨wb_ups, by rw [wb_upu, wb_upn (by omega)]; exact h1, by rw [wb_upu, wb_upn (by omega)]; exact h2⟩ (fun k hk => by rw [wb_upu, wb_upn hk]))
theorem sp_X3_beginBehind (hb : wb_Fl w b n le mo fl fm ho lo L H) (hQ : ∀ w', wb_Fl w' b n le mo fl fm ho lo 0 ho → (∀ k, k ≠ b → w' k = w k) → Q none N w') : wb_M G M_X3_beginBehind [.ref b] N w Q := by
  obtain ⟨h0, h1, h2⟩ := hb
  unfold wb_M
  refine vi_aload_n 0 rfl rfl ?_
  refine vi_iconst 1 rfl ?_
  refine vi_put 2 rfl f_X3_53 (by assumption) rfl rfl rfl rfl ?_
  refine vi_aload_n 3 rfl rfl ?_
  refine vi_aload_n 4 rfl rfl ?_
  refine vi_get 5 rfl f_X3_47 wb_ups rfl rfl ?_
  refine vi_put 6 rfl f_X3_56 wb_ups rfl rfl rfl rfl ?_
  exact vi_return 7 rfl rfl (Nat.zero_le _) (Nat.zero_le _) (hQ _ ⟨wb_ups, by rw [wb_upu, wb_upn (by omega)]; exact h1, by rw [wb_upu, wb_upn (by omega)]; exact h2⟩ (fun k hk => by rw [wb_upu, wb_upn hk]))
theorem sp_X3_go {m d : Int} (hb : wb_Fl w b n le mo fl fm ho lo L H) (hR : wb_FR n le mo fl fm ho lo) (hL : 0 ≤ L ∧ L ≤ 100000) (hH : -100000 ≤ H ∧ H ≤ 199) (hm : 0 ≤ m ∧ m < n) (hd : 0 ≤ d ∧ d ≤ 100000)
    (k1 : ∀ (w' : wb_W) (L' H' : Int), L' = wb_c0 (L + le m - d - lo) → H' = wb_cx ho (H + mo m - d) → L' ≤ H' → wb_Fl w' b n le mo fl fm ho lo L' H' → (∀ k, k ≠ b → w' k = w k) → Q (some (.int (wb_i 1))) N w')
    (k0 : ∀ (w' : wb_W) (L' H' : Int), L' = wb_c0 (L + le m - d - lo) → H' = wb_cx ho (H + mo m - d) → ¬ L' ≤ H' → wb_Fl w' b n le mo fl fm ho lo L' H' → (∀ k, k ≠ b → w' k = w k) → Q (some (.int (wb_i 0))) N w') : wb_M G M_X3_go [.ref b, .int (wb_i m), .int (wb_i d)] N w Q := by
  obtain ⟨h0, h1, h2⟩ := hb
  obtain ⟨r1, r2, r3, r4, r5, r6⟩ := hR
  have rm := r2 m hm.1 hm.2
  unfold wb_M
  refine vi_iload_n 0 rfl rfl ?_
  refine vi_if_lt 1 rfl (by omega) (fun c_1 => by exfalso; omega) (fun c_1 => ?_)
  refine vi_iload_n 2 rfl rfl ?_
  refine vi_aload_n 3 rfl rfl ?_
  refine vi_get 4 rfl f_X3_30 (by assumption) rfl rfl ?_
  refine vi_icmp_lt 5 rfl (by omega) (by omega) (fun c_9 => ?_) (fun c_9 => by exfalso; omega)
  refine vi_aload_n 8 rfl rfl ?_
  refine vi_get 9 rfl f_X3_53 (by assumption) rfl rfl ?_
  refine vi_aload_n 10 rfl rfl ?_
  refine vi_get 11 rfl f_X3_9 (by assumption) rfl rfl ?_
  refine vi_iload_n 12 rfl rfl ?_
  refine vi_iald 13 rfl (by assumption) (by omega) ?_
  refine vi_iadd 14 rfl ?_
  refine vi_iload_n 15 rfl rfl ?_
  refine vi_isub 16 rfl ?_
  refine vi_aload_n 17 rfl rfl ?_
  refine vi_get 18 rfl f_X3_50 (by assumption) rfl rfl ?_
  refine vi_isub 19 rfl ?_
  refine vi_istore_n 20 rfl rfl ?_
  refine vi_aload_n 21 rfl rfl ?_
  refine vi_get 22 rfl f_X3_56 (by assumption) rfl rfl ?_
  refine vi_aload_n 23 rfl rfl ?_
  refine vi_get 24 rfl f_X3_15 (by assumption) rfl rfl ?_
  refine vi_iload_n 25 rfl rfl ?_
  refine vi_iald 26 rfl (by assumption) (by omega) ?_
  refine vi_iadd 27 rfl ?_
  refine vi_iload_n 28 rfl rfl ?_
  refine vi_isub 29 rfl ?_
  refine vi_istore 30 rfl rfl ?_
  refine vi_aload_n 31 rfl rfl ?_
  refine vi_iload_n 32 rfl rfl ?_
  refine vi_if_ge 33 rfl (by omega) (fun c_50 => ?_) (fun c_50 => ?_)
  · refine vi_iload_n 36 rfl rfl ?_
    refine vi_put 37 rfl f_X3_53 (by assumption) rfl rfl rfl rfl ?_
    refine vi_aload_n 38 rfl rfl ?_
    refine vi_iload 39 rfl rfl ?_
    refine vi_aload_n 40 rfl rfl ?_
    refine vi_get 41 rfl f_X3_47 wb_ups rfl rfl ?_
    refine vi_icmp_le 42 rfl (by omega) (by omega) (fun c_68 => ?_) (fun c_68 => ?_)
    · refine vi_iload 46 rfl rfl ?_
      refine vi_put 47 rfl f_X3_56 wb_ups rfl rfl rfl rfl ?_
      refine vi_aload_n 48 rfl rfl ?_
      refine vi_get 49 rfl f_X3_53 wb_ups rfl rfl ?_
      refine vi_aload_n 50 rfl rfl ?_
      refine vi_get 51 rfl f_X3_56 wb_ups rfl rfl ?_
      refine vi_icmp_gt 52 rfl (by omega) (by omega) (fun c_91 => ?_) (fun c_91 => ?_)
      · refine vi_iconst 55 rfl ?_
        exact vi_ireturn 56 rfl rfl rfl (Nat.zero_le _) (Nat.zero_le _) (k0 _ _ _ (by unfold wb_c0; split <;> omega) (by unfold wb_cx; split <;> omega) (by omega) ⟨wb_ups, by rw [wb_upu, wb_upn (by omega)]; exact h1, by rw [wb_upu, wb_upn (by omega)]; exact h2⟩ (fun k hk => by rw [wb_upu, wb_upn hk]))
      · refine vi_iconst 53 rfl ?_
        refine vi_goto 54 rfl ?_
        exact vi_ireturn 56 rfl rfl rfl (Nat.zero_le _) (Nat.zero_le _) (k1 _ _ _ (by unfold wb_c0; split <;> omega) (by unfold wb_cx; split <;> omega) (by omega) ⟨wb_ups, by rw [wb_upu, wb_upn (by omega)]; exact h1, by rw [wb_upu, wb_upn (by omega)]; exact h2⟩ (fun k hk => by rw [wb_upu, wb_upn hk]))
    · refine vi_aload_n 43 rfl rfl ?_
      refine vi_get 44 rfl f_X3_47 wb_ups rfl rfl ?_
      refine vi_goto 45 rfl ?_
      refine vi_put 47 rfl f_X3_56 wb_ups rfl rfl rfl rfl ?_
      refine vi_aload_n 48 rfl rfl ?_
      refine vi_get 49 rfl f_X3_53 wb_ups rfl rfl ?_
      refine vi_aload_n 50 rfl rfl ?_
      refine vi_get 51 rfl f_X3_56 wb_ups rfl rfl ?_
      refine vi_icmp_gt 52 rfl (by omega) (by omega) (fun c_91 => ?_) (fun c_91 => ?_)
      · refine vi_iconst 55 rfl ?_
        exact vi_ireturn 56 rfl rfl rfl (Nat.zero_le _) (Nat.zero_le _) (k0 _ _ _ (by unfold wb_c0; split <;> omega) (by unfold wb_cx; split <;> omega) (by omega) ⟨wb_ups, by rw [wb_upu, wb_upn (by omega)]; exact h1, by rw [wb_upu, wb_upn (by omega)]; exact h2⟩ (fun k hk => by rw [wb_upu, wb_upn hk]))
      · refine vi_iconst 53 rfl ?_
        refine vi_goto 54 rfl ?_
        exact vi_ireturn 56 rfl rfl rfl (Nat.zero_le _) (Nat.zero_le _) (k1 _ _ _ (by unfold wb_c0; split <;> omega) (by unfold wb_cx; split <;> omega) (by omega) ⟨wb_ups, by rw [wb_upu, wb_upn (by omega)]; exact h1, by rw [wb_upu, wb_upn (by omega)]; exact h2⟩ (fun k hk => by rw [wb_upu, wb_upn hk]))
  · refine vi_iconst 34 rfl ?_
    refine vi_goto 35 rfl ?_
    refine vi_put 37 rfl f_X3_53 (by assumption) rfl rfl rfl rfl ?_
    refine vi_aload_n 38 rfl rfl ?_
    refine vi_iload 39 rfl rfl ?_
    refine vi_aload_n 40 rfl rfl ?_
    refine vi_get 41 rfl f_X3_47 wb_ups rfl rfl ?_
    refine vi_icmp_le 42 rfl (by omega) (by omega) (fun c_68 => ?_) (fun c_68 => ?_)
    · refine vi_iload 46 rfl rfl ?_
      refine vi_put 47 rfl f_X3_56 wb_ups rfl rfl rfl rfl ?_
      refine vi_aload_n 48 rfl rfl ?_
      refine vi_get 49 rfl f_X3_53 wb_ups rfl rfl ?_
      refine vi_aload_n 50 rfl rfl ?_
      refine vi_get 51 rfl f_X3_56 wb_ups rfl rfl ?_
      refine vi_icmp_gt 52 rfl (by omega) (by omega) (fun c_91 => ?_) (fun c_91 => ?_)
      · refine vi_iconst 55 rfl ?_
        exact vi_ireturn 56 rfl rfl rfl (Nat.zero_le _) (Nat.zero_le _) (k0 _ _ _ (by unfold wb_c0; split <;> omega) (by unfold wb_cx; split <;> omega) (by omega) ⟨wb_ups, by rw [wb_upu, wb_upn (by omega)]; exact h1, by rw [wb_upu, wb_upn (by omega)]; exact h2⟩ (fun k hk => by rw [wb_upu, wb_upn hk]))
      · refine vi_iconst 53 rfl ?_
        refine vi_goto 54 rfl ?_
        exact vi_ireturn 56 rfl rfl rfl (Nat.zero_le _) (Nat.zero_le _) (k1 _ _ _ (by unfold wb_c0; split <;> omega) (by unfold wb_cx; split <;> omega) (by omega) ⟨wb_ups, by rw [wb_upu, wb_upn (by omega)]; exact h1, by rw [wb_upu, wb_upn (by omega)]; exact h2⟩ (fun k hk => by rw [wb_upu, wb_upn hk]))
    · refine vi_aload_n 43 rfl rfl ?_
      refine vi_get 44 rfl f_X3_47 wb_ups rfl rfl ?_
      refine vi_goto 45 rfl ?_
      refine vi_put 47 rfl f_X3_56 wb_ups rfl rfl rfl rfl ?_
      refine vi_aload_n 48 rfl rfl ?_
      refine vi_get 49 rfl f_X3_53 wb_ups rfl rfl ?_
      refine vi_aload_n 50 rfl rfl ?_
      refine vi_get 51 rfl f_X3_56 wb_ups rfl rfl ?_
      refine vi_icmp_gt 52 rfl (by omega) (by omega) (fun c_91 => ?_) (fun c_91 => ?_)
      · refine vi_iconst 55 rfl ?_
        exact vi_ireturn 56 rfl rfl rfl (Nat.zero_le _) (Nat.zero_le _) (k0 _ _ _ (by unfold wb_c0; split <;> omega) (by unfold wb_cx; split <;> omega) (by omega) ⟨wb_ups, by rw [wb_upu, wb_upn (by omega)]; exact h1, by rw [wb_upu, wb_upn (by omega)]; exact h2⟩ (fun k hk => by rw [wb_upu, wb_upn hk]))
      · refine vi_iconst 53 rfl ?_
        refine vi_goto 54 rfl ?_
        exact vi_ireturn 56 rfl rfl rfl (Nat.zero_le _) (Nat.zero_le _) (k1 _ _ _ (by unfold wb_c0; split <;> omega) (by unfold wb_cx; split <;> omega) (by omega) ⟨wb_ups, by rw [wb_upu, wb_upn (by omega)]; exact h1, by rw [wb_upu, wb_upn (by omega)]; exact h2⟩ (fun k hk => by rw [wb_upu, wb_upn hk]))
theorem sp_X3_goBack {m d : Int} (hb : wb_Fl w b n le mo fl fm ho lo L H) (hR : wb_FR n le mo fl fm ho lo) (hL : 0 ≤ L ∧ L ≤ 100000) (hH : -100000 ≤ H ∧ H ≤ 199) (hm : 0 ≤ m ∧ m < n) (hd : 0 ≤ d ∧ d ≤ 100000)
    (k1 : ∀ (w' : wb_W) (L' H' : Int), L' = wb_c0 (L - mo m + d) → H' = wb_cx ho (H - le m + d + lo) → L' ≤ H' → wb_Fl w' b n le mo fl fm ho lo L' H' → (∀ k, k ≠ b → w' k = w k) → Q (some (.int (wb_i 1))) N w')
    (k0 : ∀ (w' : wb_W) (L' H' : Int), L' = wb_c0 (L - mo m + d) → H' = wb_cx ho (H - le m + d + lo) → ¬ L' ≤ H' → wb_Fl w' b n le mo fl fm ho lo L' H' → (∀ k, k ≠ b → w' k = w k) → Q (some (.int (wb_i 0))) N w') : wb_M G M_X3_goBack [.ref b, .int (wb_i m), .int (wb_i d)] N w Q := by
  obtain ⟨h0, h1, h2⟩ := hb
  obtain ⟨r1, r2, r3, r4, r5, r6⟩ := hR
  have rm := r2 m hm.1 hm.2
  unfold wb_M
  refine vi_iload_n 0 rfl rfl ?_
  refine vi_if_lt 1 rfl (by omega) (fun c_1 => by exfalso; omega) (fun c_1 => ?_)
  refine vi_iload_n 2 rfl rfl ?_
  refine vi_aload_n 3 rfl rfl ?_
  refine vi_get 4 rfl f_X3_30 (by assumption) rfl rfl ?_
  refine vi_icmp_lt 5 rfl (by omega) (by omega) (fun c_9 => ?_) (fun c_9 => by exfalso; omega)
  refine vi_aload_n 8 rfl rfl ?_
  refine vi_get 9 rfl f_X3_53 (by assumption) rfl rfl ?_
  refine vi_aload_n 10 rfl rfl ?_
  refine vi_get 11 rfl f_X3_15 (by assumption) rfl rfl ?_
  refine vi_iload_n 12 rfl rfl ?_
  refine vi_iald 13 rfl (by assumption) (by omega) ?_
  refine vi_isub 14 rfl ?_
  refine vi_iload_n 15 rfl rfl ?_
  refine vi_iadd 16 rfl ?_
  refine vi_istore_n 17 rfl rfl ?_
  refine vi_aload_n 18 rfl rfl ?_
  refine vi_get 19 rfl f_X3_56 (by assumption) rfl rfl ?_
  refine vi_aload_n 20 rfl rfl ?_
  refine vi_get 21 rfl f_X3_9 (by assumption) rfl rfl ?_
  refine vi_iload_n 22 rfl rfl ?_
  refine vi_iald 23 rfl (by assumption) (by omega) ?_
  refine vi_isub 24 rfl ?_
  refine vi_iload_n 25 rfl rfl ?_
  refine vi_iadd 26 rfl ?_
  refine vi_aload_n 27 rfl rfl ?_
  refine vi_get 28 rfl f_X3_50 (by assumption) rfl rfl ?_
  refine vi_iadd 29 rfl ?_
  refine vi_istore 30 rfl rfl ?_
  refine vi_aload_n 31 rfl rfl ?_
  refine vi_iload_n 32 rfl rfl ?_
  refine vi_if_ge 33 rfl (by omega) (fun c_50 => ?_) (fun c_50 => ?_)
  · refine vi_iload_n 36 rfl rfl ?_
    refine vi_put 37 rfl f_X3_53 (by assumption) rfl rfl rfl rfl ?_
    refine vi_aload_n 38 rfl rfl ?_
    refine vi_iload 39 rfl rfl ?_
    refine vi_aload_n 40 rfl rfl ?_
    refine vi_get 41 rfl f_X3_47 wb_ups rfl rfl ?_
    refine vi_icmp_le 42 rfl (by omega) (by omega) (fun c_68 => ?_) (fun c_68 => ?_)
    · refine vi_iload 46 rfl rfl ?_
      refine vi_put 47 rfl f_X3_56 wb_ups rfl rfl rfl rfl ?_
      refine vi_aload_n 48 rfl rfl ?_
      refine vi_get 49 rfl f_X3_53 wb_ups rfl rfl ?_
      refine vi_aload_n 50 rfl rfl ?_
      refine vi_get 51 rfl f_X3_56 wb_ups rfl rfl ?_
      refine vi_icmp_gt 52 rfl (by omega) (by omega) (fun c_91 => ?_) (fun c_91 => ?_)
      · refine vi_iconst 55 rfl ?_
        exact vi_ireturn 56 rfl rfl rfl (Nat.zero_le _) (Nat.zero_le _) (k0 _ _ _ (by unfold wb_c0; split <;> omega) (by unfold wb_cx; split <;> omega) (by omega) ⟨wb_ups, by rw [wb_upu, wb_upn (by omega)]; exact h1, by rw [wb_upu, wb_upn (by omega)]; exact h2⟩ (fun k hk => by rw [wb_upu, wb_upn hk]))
      · refine vi_iconst 53 rfl ?_
        refine vi_goto 54 rfl ?_
        exact vi_ireturn 56 rfl rfl rfl (Nat.zero_le _) (Nat.zero_le _) (k1 _ _ _ (by unfold wb_c0; split <;> omega) (by unfold wb_cx; split <;> omega) (by omega) ⟨wb_ups, by rw [wb_upu, wb_upn (by omega)]; exact h1, by rw [wb_upu, wb_upn (by omega)]; exact h2⟩ (fun k hk => by rw [wb_upu, wb_upn hk]))
    · refine vi_aload_n 43 rfl rfl ?_
      refine vi_get 44 rfl f_X3_47 wb_ups rfl rfl ?_
      refine vi_goto 45 rfl ?_
      refine vi_put 47 rfl f_X3_56 wb_ups rfl rfl rfl rfl ?_
      refine vi_aload_n 48 rfl rfl ?_
      refine vi_get 49 rfl f_X3_53 wb_ups rfl rfl ?_
      refine vi_aload_n 50 rfl rfl ?_
      refine vi_get 51 rfl f_X3_56 wb_ups rfl rfl ?_
      refine vi_icmp_gt 52 rfl (by omega) (by omega) (fun c_91 => ?_) (fun c_91 => ?_)
      · refine vi_iconst 55 rfl ?_
        exact vi_ireturn 56 rfl rfl rfl (Nat.zero_le _) (Nat.zero_le _) (k0 _ _ _ (by unfold wb_c0; split <;> omega) (by unfold wb_cx; split <;> omega) (by omega) ⟨wb_ups, by rw [wb_upu, wb_upn (by omega)]; exact h1, by rw [wb_upu, wb_upn (by omega)]; exact h2⟩ (fun k hk => by rw [wb_upu, wb_upn hk]))
      · refine vi_iconst 53 rfl ?_
        refine vi_goto 54 rfl ?_
        exact vi_ireturn 56 rfl rfl rfl (Nat.zero_le _) (Nat.zero_le _) (k1 _ _ _ (by unfold wb_c0; split <;> omega) (by unfold wb_cx; split <;> omega) (by omega) ⟨wb_ups, by rw [wb_upu, wb_upn (by omega)]; exact h1, by rw [wb_upu, wb_upn (by omega)]; exact h2⟩ (fun k hk => by rw [wb_upu, wb_upn hk]))
  · refine vi_iconst 34 rfl ?_
    refine vi_goto 35 rfl ?_
    refine vi_put 37 rfl f_X3_53 (by assumption) rfl rfl rfl rfl ?_
    refine vi_aload_n 38 rfl rfl ?_
    refine vi_iload 39 rfl rfl ?_
    refine vi_aload_n 40 rfl rfl ?_
    refine vi_get 41 rfl f_X3_47 wb_ups rfl rfl ?_
    refine vi_icmp_le 42 rfl (by omega) (by omega) (fun c_68 => ?_) (fun c_68 => ?_)
    · refine vi_iload 46 rfl rfl ?_
      refine vi_put 47 rfl f_X3_56 wb_ups rfl rfl rfl rfl ?_
      refine vi_aload_n 48 rfl rfl ?_
      refine vi_get 49 rfl f_X3_53 wb_ups rfl rfl ?_
      refine vi_aload_n 50 rfl rfl ?_
      refine vi_get 51 rfl f_X3_56 wb_ups rfl rfl ?_
      refine vi_icmp_gt 52 rfl (by omega) (by omega) (fun c_91 => ?_) (fun c_91 => ?_)
      · refine vi_iconst 55 rfl ?_
        exact vi_ireturn 56 rfl rfl rfl (Nat.zero_le _) (Nat.zero_le _) (k0 _ _ _ (by unfold wb_c0; split <;> omega) (by unfold wb_cx; split <;> omega) (by omega) ⟨wb_ups, by rw [wb_upu, wb_upn (by omega)]; exact h1, by rw [wb_upu, wb_upn (by omega)]; exact h2⟩ (fun k hk => by rw [wb_upu, wb_upn hk]))
      · refine vi_iconst 53 rfl ?_
        refine vi_goto 54 rfl ?_
        exact vi_ireturn 56 rfl rfl rfl (Nat.zero_le _) (Nat.zero_le _) (k1 _ _ _ (by unfold wb_c0; split <;> omega) (by unfold wb_cx; split <;> omega) (by omega) ⟨wb_ups, by rw [wb_upu, wb_upn (by omega)]; exact h1, by rw [wb_upu, wb_upn (by omega)]; exact h2⟩ (fun k hk => by rw [wb_upu, wb_upn hk]))
    · refine vi_aload_n 43 rfl rfl ?_
      refine vi_get 44 rfl f_X3_47 wb_ups rfl rfl ?_
      refine vi_goto 45 rfl ?_
      refine vi_put 47 rfl f_X3_56 wb_ups rfl rfl rfl rfl ?_
      refine vi_aload_n 48 rfl rfl ?_
      refine vi_get 49 rfl f_X3_53 wb_ups rfl rfl ?_
      refine vi_aload_n 50 rfl rfl ?_
      refine vi_get 51 rfl f_X3_56 wb_ups rfl rfl ?_
      refine vi_icmp_gt 52 rfl (by omega) (by omega) (fun c_91 => ?_) (fun c_91 => ?_)
      · refine vi_iconst 55 rfl ?_
        exact vi_ireturn 56 rfl rfl rfl (Nat.zero_le _) (Nat.zero_le _) (k0 _ _ _ (by unfold wb_c0; split <;> omega) (by unfold wb_cx; split <;> omega) (by omega) ⟨wb_ups, by rw [wb_upu, wb_upn (by omega)]; exact h1, by rw [wb_upu, wb_upn (by omega)]; exact h2⟩ (fun k hk => by rw [wb_upu, wb_upn hk]))
      · refine vi_iconst 53 rfl ?_
        refine vi_goto 54 rfl ?_
        exact vi_ireturn 56 rfl rfl rfl (Nat.zero_le _) (Nat.zero_le _) (k1 _ _ _ (by unfold wb_c0; split <;> omega) (by unfold wb_cx; split <;> omega) (by omega) ⟨wb_ups, by rw [wb_upu, wb_upn (by omega)]; exact h1, by rw [wb_upu, wb_upn (by omega)]; exact h2⟩ (fun k hk => by rw [wb_upu, wb_upn hk]))
end WBS20
