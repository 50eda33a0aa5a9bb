/-! ===== the mesh ===== -/
def wb_oa (o q : Int) : Int := if o < 0 then 0 else wb_am q o
theorem wb_oa_rg {o q : Int} (hq : 0 ≤ q) : 0 ≤ wb_oa o q ∧ wb_oa o q ≤ 4 := by
  have := wb_am_rg (p := q) (t := o) hq
  unfold wb_oa; split <;> omega
/-- rows of a mesh by what passes -/
def wb_mr (f0 f1 : Int → Int64) (t o : Int) (P : Int → Int → Bool) : Prop := ∀ r q : Int, 0 ≤ r → r < 25 → 0 ≤ q → q < 64 → wb_tb (f0 r) q = P (5 * (r % 5) + wb_am q t) (5 * (r / 5) + wb_oa o q) ∧ wb_tb (f1 r) q = (decide (q < 61) && P (5 * (r % 5) + wb_am (64 + q) t) (5 * (r / 5) + wb_oa o (64 + q)))
/-- a mesh at b; its parts at pb -/
def wb_Ms (w : wb_W) (b pb : Nat) (t o : Int) (P : Int → Int → Bool) : Prop := ∃ f0 f1 : Int → Int64, w b = .inr (4, [.ref pb, .ref (b + 1), .ref (b + 2), .int (wb_i t), .int (wb_i o)]) ∧ w (b + 1) = aL 25 f0 ∧ w (b + 2) = aL 25 f1 ∧ wb_mr f0 f1 t o P
theorem wb_Ms.fr {w w' : wb_W} {b pb : Nat} {t o : Int} {P : Int → Int → Bool} (h : wb_Ms w b pb t o P) (hf : ∀ k, b ≤ k → k < b + 3 → w' k = w k) : wb_Ms w' b pb t o P := by
  obtain ⟨f0, f1, h0, h1, h2, h3⟩ := h
  exact ⟨f0, f1, (hf _ (by omega) (by omega)).trans h0, (hf _ (by omega) (by omega)).trans h1, (hf _ (by omega) (by omega)).trans h2, h3⟩
/-- what passes of mixtures -/
def wb_mp (P : Int → Int → Bool) (t o x : Int) : Bool := P (wb_pr x t) (if o < 0 then 0 else wb_pr x o)
theorem wb_mr_narrow {f0 f1 g g' : Int → Int64} {t o : Int} {P : Int → Int → Bool} {S : Int → Bool} (hm : wb_mr f0 f1 t o P) (hS : wb_rp g S) (hg : ∀ p, 0 ≤ p → p < 125 → g' (2 * p) = g (2 * p) &&& f0 (wb_am p t + 5 * wb_oa o p) ∧ g' (2 * p + 1) = g (2 * p + 1) &&& f1 (wb_am p t + 5 * wb_oa o p)) : wb_rp g' (fun x => S x && wb_mp P t o x) := by
  intro k b hk0 hk hb0 hb
  have a1 := wb_am_rg (p := k / 2) (t := t) (by omega)
  have a2 := wb_oa_rg (q := k / 2) (o := o) (by omega)
  have e1 : (wb_am (k / 2) t + 5 * wb_oa o (k / 2)) % 5 = wb_am (k / 2) t := by omega
  have e2 : (wb_am (k / 2) t + 5 * wb_oa o (k / 2)) / 5 = wb_oa o (k / 2) := by omega
  obtain ⟨m1, m2⟩ := hm (wb_am (k / 2) t + 5 * wb_oa o (k / 2)) b (by omega) (by omega) hb0 hb
  obtain ⟨g1, g2⟩ := hg (k / 2) (by omega) (by omega)
  have pe : ∀ q, 0 ≤ q → q < 125 → wb_mp P t o (k / 2 * 125 + q) = P (5 * wb_am (k / 2) t + wb_am q t) (5 * wb_oa o (k / 2) + wb_oa o q) := by
    intro q q1 q2
    unfold wb_mp wb_pr wb_oa
    rw [show (k / 2 * 125 + q) / 125 = k / 2 by omega, show (k / 2 * 125 + q) % 125 = q by omega]
    by_cases ho : o < 0
    · simp [ho]
    · simp [ho]
  rcases (show k % 2 = 0 ∨ k % 2 = 1 by omega) with hp | hp
  · rw [show g' k = g' (2 * (k / 2)) by congr 1; omega, g1, wb_tb_and, m1, e1, e2, show g (2 * (k / 2)) = g k by congr 1; omega, hS k b hk0 hk hb0 hb, hp]
    simp only [show (0 : Int) * 64 + b < 125 by omega, decide_true, Bool.true_and]
    rw [show k / 2 * 125 + 0 * 64 + b = k / 2 * 125 + b by omega, pe b hb0 (by omega)]
  · rw [show g' k = g' (2 * (k / 2) + 1) by congr 1; omega, g2, wb_tb_and, m2, e1, e2, show g (2 * (k / 2) + 1) = g k by congr 1; omega, hS k b hk0 hk hb0 hb, hp]
    by_cases h61 : b < 61
    · simp only [show (1 : Int) * 64 + b < 125 by omega, h61, decide_true, Bool.true_and]
      rw [show k / 2 * 125 + 1 * 64 + b = k / 2 * 125 + (64 + b) by omega, pe (64 + b) (by omega) (by omega)]
    · simp [h61, show ¬ (1 : Int) * 64 + b < 125 by omega]
      omega
section WBS22
variable {G : wb_G} {N : Nat} {w : wb_W} {Q : Option Value → Nat → wb_W → Prop} {b pb : Nat} {t o : Int} {P : Int → Int → Bool}
theorem sp_X4_close {t' o' : Int} (hb : wb_Ms w b pb t o P) (hQ : ∀ w', wb_Ms w' b pb t' o' (fun _ _ => false) → (∀ k, (k < b ∨ b + 3 ≤ k) → w' k = w k) → Q none N w') : wb_M G M_X4_close [.ref b, .int (wb_i t'), .int (wb_i o')] N w Q := by
  obtain ⟨f0, f1, h0, h1, h2, h3⟩ := hb
  unfold wb_M
  have lp : ∀ i, i ≤ 25 → ∀ (w1 : wb_W) (g0 g1 : Int → Int64), 0 ≤ i → (∀ r, 0 ≤ r → r < i → g0 r = 0 ∧ g1 r = 0) → w1 b = .inr (4, [.ref pb, .ref (b + 1), .ref (b + 2), .int (wb_i t'), .int (wb_i o')]) → w1 (b + 1) = aL 25 g0 → w1 (b + 2) = aL 25 g1 → (∀ k, (k < b ∨ b + 3 ≤ k) → w1 k = w k) → wb_V G M_X4_close 12 [(0, .ref b), (3, .int (wb_i i))] [] N w1 0 0 Q := by
    refine wb_up 25 _ ?_
    intro i ih hi w1 g0 g1 hi0 hg e0 e1 e2 ef
    refine vi_iload_n 8 rfl rfl ?_
    refine vi_bipush 9 rfl (by decide) ?_
    refine vi_icmp_ge 10 rfl (by omega) (by omega) (fun c_15 => ?_) (fun c_15 => ?_)
    · exact vi_return 23 rfl rfl (Nat.zero_le _) (Nat.zero_le _) (hQ w1 ⟨g0, g1, e0, e1, e2, fun r q p1 p2 p3 p4 => by obtain ⟨z0, z1⟩ := hg r p1 (by omega); rw [z0, z1, wb_tb_0]; simp⟩ ef)
    · refine vi_aload_n 11 rfl rfl ?_
      refine vi_get 12 rfl f_X4_9 e0 rfl rfl ?_
      refine vi_iload_n 13 rfl rfl ?_
      refine vi_lconst 14 rfl ?_
      refine vi_last 15 rfl e1 (by omega) ?_
      refine vi_aload_n 16 rfl rfl ?_
      refine vi_get 17 rfl f_X4_15 ((wb_upn (by omega)).trans e0) rfl rfl ?_
      refine vi_iload_n 18 rfl rfl ?_
      refine vi_lconst 19 rfl ?_
      refine vi_last 20 rfl ((wb_upn (by omega)).trans e2) (by omega) ?_
      refine vi_iinc 21 rfl rfl rfl ?_
      refine vi_goto 22 rfl ?_
      refine vi_lc (ih (i + 1) (by omega) (by omega) (va_up (va_up w1 (b + 1) _) (b + 2) _) _ _ (by omega) ?_ (by rw [wb_upn (by omega), wb_upn (by omega)]; exact e0) (by rw [wb_upn (by omega)]; exact wb_ups) wb_ups (fun k hk => by rw [wb_upn (by omega), wb_upn (by omega)]; exact ef k hk)) ⟨rfl, rfl, trivial⟩
      intro r p1 p2
      by_cases hri : r = i
      · subst hri; exact ⟨wb_us, wb_us⟩
      · rw [wb_un hri, wb_un hri]; exact hg r p1 (by omega)
  refine vi_aload_n 0 rfl rfl ?_
  refine vi_iload_n 1 rfl rfl ?_
  refine vi_put 2 rfl f_X4_26 (by assumption) rfl rfl rfl rfl ?_
  refine vi_aload_n 3 rfl rfl ?_
  refine vi_iload_n 4 rfl rfl ?_
  refine vi_put 5 rfl f_X4_18 wb_ups rfl rfl rfl rfl ?_
  refine vi_iconst 6 rfl ?_
  refine vi_istore_n 7 rfl rfl ?_
  exact vi_lc (lp 0 (by omega) (va_up (va_up w b _) b _) f0 f1 (by omega) (fun r p1 p2 => by omega) wb_ups (by rw [wb_upu, wb_upn (by omega)]; exact h1) (by rw [wb_upu, wb_upn (by omega)]; exact h2) (fun k hk => by rw [wb_upu, wb_upn (by omega)])) ⟨rfl, rfl, trivial⟩
theorem wb_pass {f0 f1 : Int → Int64} {p0 o0 : Int} {v u : Int64} (hm : wb_mr f0 f1 t o P) (hp : 0 ≤ p0 ∧ p0 < 25) (ho : 0 ≤ o0 ∧ o0 < 25) (ho2 : o < 0 → o0 = 0)
    (hv : ∀ q, 0 ≤ q → q < 64 → wb_tb v q = (decide (wb_am q t = p0 % 5) && decide (wb_oa o q = o0 % 5))) (hu : ∀ q, 0 ≤ q → q < 64 → wb_tb u q = (decide (q < 61) && (decide (wb_am (64 + q) t = p0 % 5) && decide (wb_oa o (64 + q) = o0 % 5)))) :
    wb_mr (wb_u f0 (p0 / 5 + o0 / 5 * 5) (f0 (p0 / 5 + o0 / 5 * 5) ||| v)) (wb_u f1 (p0 / 5 + o0 / 5 * 5) (f1 (p0 / 5 + o0 / 5 * 5) ||| u)) t o (fun a c => P a c || (decide (a = p0) && decide (c = o0))) := by
  intro r q r1 r2 q1 q2
  obtain ⟨m1, m2⟩ := hm r q r1 r2 q1 q2
  have a1 := wb_am_rg (p := q) (t := t) q1
  have a2 := wb_am_rg (p := 64 + q) (t := t) (by omega)
  have a3 := wb_oa_rg (q := q) (o := o) q1
  have a4 := wb_oa_rg (q := 64 + q) (o := o) (by omega)
  by_cases hr : r = p0 / 5 + o0 / 5 * 5
  · subst hr
    rw [wb_us, wb_us, wb_tb_or, wb_tb_or, m1, m2, hv q q1 q2, hu q q1 q2]
    have e1 : (p0 / 5 + o0 / 5 * 5) % 5 = p0 / 5 := by omega
    have e2 : (p0 / 5 + o0 / 5 * 5) / 5 = o0 / 5 := by omega
    rw [e1, e2]
    have d1 : ∀ z, decide (z = p0 % 5) = decide (5 * (p0 / 5) + z = p0) := fun z => by congr 1; apply propext; omega
    have d2 : ∀ z, decide (z = o0 % 5) = decide (5 * (o0 / 5) + z = o0) := fun z => by congr 1; apply propext; omega
    rw [d1, d2, d1, d2]
    refine ⟨rfl, ?_⟩
    cases decide (q < 61) <;> simp
  · rw [wb_un hr, wb_un hr, m1, m2]
    have n1 : ∀ z y, 0 ≤ z → z ≤ 4 → 0 ≤ y → y ≤ 4 → (decide (5 * (r % 5) + z = p0) && decide (5 * (r / 5) + y = o0)) = false := by
      intro z y z1 z2 y1 y2
      by_cases h1 : 5 * (r % 5) + z = p0
      · have : ¬ (5 * (r / 5) + y = o0) := by omega
        simp [this]
      · simp [h1]
    dsimp only
    rw [n1 _ _ a1.1 a1.2 a3.1 a3.2, n1 _ _ a2.1 a2.2 a4.1 a4.2]
    simp
theorem sp_X4_pass {p0 o0 : Int} (hb : wb_Ms w b pb t o P) (hpt : wb_Pt w pb) (hap : pb + 5 ≤ b ∨ b + 3 ≤ pb) (ht : 0 ≤ t ∧ t < 3) (ho : -1 ≤ o ∧ o < 3) (hp0 : 0 ≤ p0 ∧ p0 < 25) (ho0 : 0 ≤ o0 ∧ o0 < 25) (ho2 : o < 0 → o0 = 0) (hQ : ∀ w', wb_Ms w' b pb t o (fun a c => P a c || (decide (a = p0) && decide (c = o0))) → (∀ k, (k < b ∨ b + 3 ≤ k) → w' k = w k) → Q none N w') : wb_M G M_X4_pass [.ref b, .int (wb_i p0), .int (wb_i o0)] N w Q := by
  obtain ⟨f0, f1, h0, h1, h2, h3⟩ := hb
  have hpt' := hpt
  obtain ⟨j0, j1, j2, j3, i0, i1, i2, i3, i4, i5⟩ := hpt'
  unfold wb_M
  refine vi_iload_n 0 rfl rfl ?_
  refine vi_bipush 1 rfl (by decide) ?_
  refine vi_S2 2 ok_X11_within rfl c_X4_29 rfl ?_
  refine sp_X11_within (by omega) (by omega) (fun b_3 => ?_) (fun b_3 => ?_)
  · refine vi_if_eq 3 rfl (by omega) (fun c => absurd c (by decide)) (fun _ => ?_)
    refine vi_iload_n 4 rfl rfl ?_
    refine vi_bipush 5 rfl (by decide) ?_
    refine vi_S2 6 ok_X11_within rfl c_X4_29 rfl ?_
    refine sp_X11_within (by omega) (by omega) (fun b_12 => ?_) (fun b_12 => ?_)
    · refine vi_if_ne 7 rfl (by omega) (fun _ => ?_) (fun c => absurd c (by decide))
      refine vi_aload_n 9 rfl rfl ?_
      refine vi_get 10 rfl f_X4_22 h0 rfl rfl ?_
      refine vi_aload_n 11 rfl rfl ?_
      refine vi_get 12 rfl f_X4_26 h0 rfl rfl ?_
      refine vi_iload_n 13 rfl rfl ?_
      refine vi_iconst 14 rfl ?_
      refine vi_irem 15 rfl (by omega) (by omega) ?_
      refine vi_V2 16 ok_X6_lowWith rfl c_X4_33 i0 rfl rfl ?_
      refine sp_X6_lowWith ‹_› (by omega) (by omega) (fun v_30 hv_30 => ?_)
      refine vi_lstore_n 17 rfl rfl ?_
      refine vi_aload_n 18 rfl rfl ?_
      refine vi_get 19 rfl f_X4_22 h0 rfl rfl ?_
      refine vi_aload_n 20 rfl rfl ?_
      refine vi_get 21 rfl f_X4_26 h0 rfl rfl ?_
      refine vi_iload_n 22 rfl rfl ?_
      refine vi_iconst 23 rfl ?_
      refine vi_irem 24 rfl (by omega) (by omega) ?_
      refine vi_V2 25 ok_X6_highWith rfl c_X4_39 i0 rfl rfl ?_
      refine sp_X6_highWith ‹_› (by omega) (by omega) (fun v_45 hv_45 => ?_)
      refine vi_lstore 26 rfl rfl ?_
      refine vi_aload_n 27 rfl rfl ?_
      refine vi_get 28 rfl f_X4_18 h0 rfl rfl ?_
      refine vi_if_lt 29 rfl (by omega) (fun c_54 => ?_) (fun c_54 => ?_)
      · refine vi_iload_n 52 rfl rfl ?_
        refine vi_iconst 53 rfl ?_
        refine vi_idiv 54 rfl (by omega) (by omega) ?_
        refine vi_iload_n 55 rfl rfl ?_
        refine vi_iconst 56 rfl ?_
        refine vi_idiv 57 rfl (by omega) (by omega) ?_
        refine vi_iconst 58 rfl ?_
        refine vi_imul 59 rfl ?_
        refine vi_iadd 60 rfl ?_
        refine vi_istore 61 rfl rfl ?_
        refine vi_aload_n 62 rfl rfl ?_
        refine vi_get 63 rfl f_X4_9 h0 rfl rfl ?_
        refine vi_iload 64 rfl rfl ?_
        refine vi_dup2 65 rfl rfl rfl ?_
        refine vi_lald 66 rfl h1 (by omega) ?_
        refine vi_lload_n 67 rfl rfl ?_
        refine vi_lor 68 rfl ?_
        refine vi_last 69 rfl h1 (by omega) ?_
        refine vi_aload_n 70 rfl rfl ?_
        refine vi_get 71 rfl f_X4_15 ((wb_upn (by omega)).trans h0) rfl rfl ?_
        refine vi_iload 72 rfl rfl ?_
        refine vi_dup2 73 rfl rfl rfl ?_
        refine vi_lald 74 rfl ((wb_upn (by omega)).trans h2) (by omega) ?_
        refine vi_lload 75 rfl rfl ?_
        refine vi_lor 76 rfl ?_
        refine vi_last 77 rfl ((wb_upn (by omega)).trans h2) (by omega) ?_
        exact vi_return 78 rfl rfl (Nat.zero_le _) (Nat.zero_le _) (hQ _ ⟨_, _, by rw [wb_upn (by omega), wb_upn (by omega)]; exact h0, by rw [wb_upn (by omega)]; exact wb_ups, wb_ups, wb_pass h3 hp0 ho0 ho2 (fun q q1 q2 => by first | (rw [wb_tb_and, hv_30 q q1 q2, hv_69 q q1 q2]; simp [wb_oa, c_54]; done) | (rw [hv_30 q q1 q2]; simp [wb_oa, c_54, ho2 c_54]; done)) (fun q q1 q2 => by first | (rw [wb_tb_and, hv_45 q q1 q2, hv_87 q q1 q2]; simp [wb_oa, c_54]; cases decide (q < 61) <;> simp; done) | (rw [hv_45 q q1 q2]; simp [wb_oa, c_54, ho2 c_54]; done))⟩ (fun k hk => by rw [wb_upn (by omega), wb_upn (by omega)]))
      · refine vi_lload_n 30 rfl rfl ?_
        refine vi_aload_n 31 rfl rfl ?_
        refine vi_get 32 rfl f_X4_22 h0 rfl rfl ?_
        refine vi_aload_n 33 rfl rfl ?_
        refine vi_get 34 rfl f_X4_18 h0 rfl rfl ?_
        refine vi_iload_n 35 rfl rfl ?_
        refine vi_iconst 36 rfl ?_
        refine vi_irem 37 rfl (by omega) (by omega) ?_
        refine vi_V2 38 ok_X6_lowWith rfl c_X4_33 i0 rfl rfl ?_
        refine sp_X6_lowWith ‹_› (by omega) (by omega) (fun v_69 hv_69 => ?_)
        refine vi_land 39 rfl ?_
        refine vi_lstore_n 40 rfl rfl ?_
        refine vi_lload 41 rfl rfl ?_
        refine vi_aload_n 42 rfl rfl ?_
        refine vi_get 43 rfl f_X4_22 h0 rfl rfl ?_
        refine vi_aload_n 44 rfl rfl ?_
        refine vi_get 45 rfl f_X4_18 h0 rfl rfl ?_
        refine vi_iload_n 46 rfl rfl ?_
        refine vi_iconst 47 rfl ?_
        refine vi_irem 48 rfl (by omega) (by omega) ?_
        refine vi_V2 49 ok_X6_highWith rfl c_X4_39 i0 rfl rfl ?_
        refine sp_X6_highWith ‹_› (by omega) (by omega) (fun v_87 hv_87 => ?_)
        refine vi_land 50 rfl ?_
        refine vi_lstore 51 rfl rfl ?_
        refine vi_iload_n 52 rfl rfl ?_
        refine vi_iconst 53 rfl ?_
        refine vi_idiv 54 rfl (by omega) (by omega) ?_
        refine vi_iload_n 55 rfl rfl ?_
        refine vi_iconst 56 rfl ?_
        refine vi_idiv 57 rfl (by omega) (by omega) ?_
        refine vi_iconst 58 rfl ?_
        refine vi_imul 59 rfl ?_
        refine vi_iadd 60 rfl ?_
        refine vi_istore 61 rfl rfl ?_
        refine vi_aload_n 62 rfl rfl ?_
        refine vi_get 63 rfl f_X4_9 h0 rfl rfl ?_
        refine vi_iload 64 rfl rfl ?_
        refine vi_dup2 65 rfl rfl rfl ?_
        refine vi_lald 66 rfl h1 (by omega) ?_
        refine vi_lload_n 67 rfl rfl ?_
        refine vi_lor 68 rfl ?_
        refine vi_last 69 rfl h1 (by omega) ?_
        refine vi_aload_n 70 rfl rfl ?_
        refine vi_get 71 rfl f_X4_15 ((wb_upn (by omega)).trans h0) rfl rfl ?_
        refine vi_iload 72 rfl rfl ?_
        refine vi_dup2 73 rfl rfl rfl ?_
        refine vi_lald 74 rfl ((wb_upn (by omega)).trans h2) (by omega) ?_
        refine vi_lload 75 rfl rfl ?_
        refine vi_lor 76 rfl ?_
        refine vi_last 77 rfl ((wb_upn (by omega)).trans h2) (by omega) ?_
        exact vi_return 78 rfl rfl (Nat.zero_le _) (Nat.zero_le _) (hQ _ ⟨_, _, by rw [wb_upn (by omega), wb_upn (by omega)]; exact h0, by rw [wb_upn (by omega)]; exact wb_ups, wb_ups, wb_pass h3 hp0 ho0 ho2 (fun q q1 q2 => by first | (rw [wb_tb_and, hv_30 q q1 q2, hv_69 q q1 q2]; simp [wb_oa, c_54]; done) | (rw [hv_30 q q1 q2]; simp [wb_oa, c_54, ho2 c_54]; done)) (fun q q1 q2 => by first | (rw [wb_tb_and, hv_45 q q1 q2, hv_87 q q1 q2]; simp [wb_oa, c_54]; cases decide (q < 61) <;> simp; done) | (rw [hv_45 q q1 q2]; simp [wb_oa, c_54, ho2 c_54]; done))⟩ (fun k hk => by rw [wb_upn (by omega), wb_upn (by omega)]))
    · exfalso
      omega
  · exfalso
    omega
theorem sp_X4_narrow {mb : Nat} {g : Int → Int64} {S : Int → Bool} (hb : wb_Ms w b pb t o P) (hg : wb_Mw w mb g) (hS : wb_rp g S) (hap : mb + 2 ≤ b ∨ b + 3 ≤ mb) (ht : 0 ≤ t ∧ t < 3) (ho : -1 ≤ o ∧ o < 3) (hQ : ∀ (w' : wb_W) (g' : Int → Int64), wb_rp g' (fun x => S x && wb_mp P t o x) → wb_Mw w' mb g' → (∀ k, k ≠ mb + 1 → w' k = w k) → Q none N w') : wb_M G M_X4_narrow [.ref b, .ref mb] N w Q := by
  obtain ⟨f0, f1, h0, h1, h2, h3⟩ := hb
  unfold wb_M
  have lp : ∀ i, i ≤ 125 → ∀ (w1 : wb_W) (g1 : Int → Int64), 0 ≤ i → (∀ p, 0 ≤ p → p < i → g1 (2 * p) = g (2 * p) &&& f0 (wb_am p t + 5 * wb_oa o p) ∧ g1 (2 * p + 1) = g (2 * p + 1) &&& f1 (wb_am p t + 5 * wb_oa o p)) → (∀ j, 2 * i ≤ j → g1 j = g j) → wb_Mw w1 mb g1 → (∀ k, k ≠ mb + 1 → w1 k = w k) → wb_V G M_X4_narrow 2 [(0, .ref b), (1, .ref mb), (2, .int (wb_i i))] [] N w1 0 0 Q := by
    refine wb_up 125 _ ?_
    intro i ih hi w1 g1 hi0 hg1 hg2 em ef
    have em' := em
    obtain ⟨m0, m1⟩ := em'
    have e0 := (ef b (by omega)).trans h0
    have e1 := (ef (b + 1) (by omega)).trans h1
    have e2 := (ef (b + 2) (by omega)).trans h2
    have a1 := wb_am_rg (p := i) (t := t) hi0
    have a2 := wb_am_rg (p := i) (t := o) hi0
    have nx : ∀ (gg : Int → Int64) (lo hi : Int64), (∀ j, gg j = if j = 2 * i then g1 j &&& lo else if j = 2 * i + 1 then g1 j &&& hi else g1 j) → lo = f0 (wb_am i t + 5 * wb_oa o i) → hi = f1 (wb_am i t + 5 * wb_oa o i) → i < 125 → (∀ p, 0 ≤ p → p < i + 1 → gg (2 * p) = g (2 * p) &&& f0 (wb_am p t + 5 * wb_oa o p) ∧ gg (2 * p + 1) = g (2 * p + 1) &&& f1 (wb_am p t + 5 * wb_oa o p)) ∧ (∀ j, 2 * (i + 1) ≤ j → gg j = g j) := by
      intro gg lo hi hgg hlo hhi _
      refine ⟨fun p p1 p2 => ?_, fun j hj => ?_⟩
      · by_cases hpi : p = i
        · subst hpi
          rw [hgg, if_pos rfl, hgg, if_neg (by omega), if_pos rfl, hg2 _ (by omega), hg2 _ (by omega), hlo, hhi]
          exact ⟨rfl, rfl⟩
        · rw [hgg, if_neg (by omega), if_neg (by omega), hgg, if_neg (by omega), if_neg (by omega)]
          exact hg1 p p1 (by omega)
      · rw [hgg, if_neg (by omega), if_neg (by omega)]
        exact hg2 j (by omega)
    refine vi_iload_n 2 rfl rfl ?_
    refine vi_bipush 3 rfl (by decide) ?_
    refine vi_icmp_ge 4 rfl (by omega) (by omega) (fun c_5 => ?_) (fun c_5 => ?_)
    · exact vi_return 35 rfl rfl (Nat.zero_le _) (Nat.zero_le _) (hQ w1 g1 (wb_mr_narrow h3 hS (fun p p1 p2 => hg1 p p1 (by omega))) em ef)
    · refine vi_iload_n 5 rfl rfl ?_
      refine vi_aload_n 6 rfl rfl ?_
      refine vi_get 7 rfl f_X4_26 e0 rfl rfl ?_
      refine vi_S2 8 ok_X11_amountIn rfl c_X4_42 rfl ?_
      refine sp_X11_amountIn (by omega) (by omega) ?_
      refine vi_aload_n 9 rfl rfl ?_
      refine vi_get 10 rfl f_X4_18 e0 rfl rfl ?_
      refine vi_if_ge 11 rfl (by omega) (fun c_20 => ?_) (fun c_20 => ?_)
      · refine vi_iconst 14 rfl ?_
        refine vi_iload_n 15 rfl rfl ?_
        refine vi_aload_n 16 rfl rfl ?_
        refine vi_get 17 rfl f_X4_18 e0 rfl rfl ?_
        refine vi_S2 18 ok_X11_amountIn rfl c_X4_42 rfl ?_
        refine sp_X11_amountIn (by omega) (by omega) ?_
        refine vi_imul 19 rfl ?_
        refine vi_iadd 20 rfl ?_
        refine vi_istore_n 21 rfl rfl ?_
        refine vi_aload_n 22 rfl rfl ?_
        refine vi_iload_n 23 rfl rfl ?_
        refine vi_aload_n 24 rfl rfl ?_
        refine vi_get 25 rfl f_X4_9 e0 rfl rfl ?_
        refine vi_iload_n 26 rfl rfl ?_
        refine vi_lald 27 rfl e1 (by omega) ?_
        refine vi_aload_n 28 rfl rfl ?_
        refine vi_get 29 rfl f_X4_15 e0 rfl rfl ?_
        refine vi_iload_n 30 rfl rfl ?_
        refine vi_lald 31 rfl e2 (by omega) ?_
        refine vi_V3 32 ok_X5_narrow rfl c_X4_46 m0 rfl rfl ?_
        refine sp_X5_narrow ‹_› (by omega) (fun w_53 g_53 hg_53 hm_53 hf_53 => ?_)
        refine vi_iinc 33 rfl rfl rfl ?_
        refine vi_goto 34 rfl ?_
        obtain ⟨n1, n2⟩ := nx _ _ _ hg_53 (by congr 1; unfold wb_oa; split <;> omega) (by congr 1; unfold wb_oa; split <;> omega) (by omega)
        exact vi_lc (ih (i + 1) (by omega) (by omega) w_53 g_53 (by omega) n1 n2 hm_53 (fun k hk => (hf_53 k hk).trans (ef k hk))) ⟨rfl, rfl, rfl, trivial⟩
      · refine vi_iconst 12 rfl ?_
        refine vi_goto 13 rfl ?_
        refine vi_iadd 20 rfl ?_
        refine vi_istore_n 21 rfl rfl ?_
        refine vi_aload_n 22 rfl rfl ?_
        refine vi_iload_n 23 rfl rfl ?_
        refine vi_aload_n 24 rfl rfl ?_
        refine vi_get 25 rfl f_X4_9 e0 rfl rfl ?_
        refine vi_iload_n 26 rfl rfl ?_
        refine vi_lald 27 rfl e1 (by omega) ?_
        refine vi_aload_n 28 rfl rfl ?_
        refine vi_get 29 rfl f_X4_15 e0 rfl rfl ?_
        refine vi_iload_n 30 rfl rfl ?_
        refine vi_lald 31 rfl e2 (by omega) ?_
        refine vi_V3 32 ok_X5_narrow rfl c_X4_46 m0 rfl rfl ?_
        refine sp_X5_narrow ‹_› (by omega) (fun w_53 g_53 hg_53 hm_53 hf_53 => ?_)
        refine vi_iinc 33 rfl rfl rfl ?_
        refine vi_goto 34 rfl ?_
        obtain ⟨n1, n2⟩ := nx _ _ _ hg_53 (by congr 1; unfold wb_oa; split <;> omega) (by congr 1; unfold wb_oa; split <;> omega) (by omega)
        exact vi_lc (ih (i + 1) (by omega) (by omega) w_53 g_53 (by omega) n1 n2 hm_53 (fun k hk => (hf_53 k hk).trans (ef k hk))) ⟨rfl, rfl, rfl, trivial⟩
  refine vi_iconst 0 rfl ?_
  refine vi_istore_n 1 rfl rfl ?_
  exact vi_lc (lp 0 (by omega) w g (by omega) (fun p p1 p2 => by omega) (fun _ _ => rfl) hg (fun _ _ => rfl)) ⟨rfl, rfl, rfl, trivial⟩
end WBS22
