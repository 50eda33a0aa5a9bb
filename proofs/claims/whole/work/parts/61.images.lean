/-! ===== the reference: images ===== -/
/-- what an image holds -/
def wb_it (n sd sf ru : Int) (c s rs : Int → Int) (d : Int) : Int := if d = 0 then n else if d = 1 then wb_n6 sd else if d = 2 then wb_n6 sf else if d = 3 then ru else if d < 76 then c (d - 4) else if d < 88 then s (d - 76) else rs (d - 88)
def wb_iu (im : Int → Int) (i : Int) (T : Int → Int) (D : Int) : Int → Int := fun j => if 140 * i ≤ j ∧ j < 140 * i + D then T (j - 140 * i) else im j
theorem wb_iu_s {im T : Int → Int} {i D D1 j v : Int} (hD : 0 ≤ D) (hj : j = 140 * i + D) (hv : v = T D) (h1 : D1 = D + 1) : wb_u (wb_iu im i T D) j v = wb_iu im i T D1 := by
  funext k
  unfold wb_u wb_iu
  by_cases e : k = j
  · rw [if_pos e, if_pos (by omega), hv]; congr 1; omega
  · rw [if_neg e, h1]
    by_cases q : 140 * i ≤ k ∧ k < 140 * i + D
    · rw [if_pos q, if_pos (by omega)]
    · rw [if_neg q, if_neg (by omega)]
theorem wb_iu_0 {im T : Int → Int} {i : Int} : wb_iu im i T 0 = im := by
  funext k; unfold wb_iu; rw [if_neg (by omega)]
def wb_cu (f g : Int → Int) (k : Int) : Int → Int := fun p => if 0 ≤ p ∧ p < k then f p else g p
theorem wb_cu_s {f g : Int → Int} {k v : Int} (hk : 0 ≤ k) (hv : v = f k) : wb_u (wb_cu f g k) k v = wb_cu f g (k + 1) := by
  funext p
  unfold wb_u wb_cu
  by_cases e : p = k
  · rw [if_pos e, if_pos (by omega), hv, e]
  · rw [if_neg e]
    by_cases q : 0 ≤ p ∧ p < k
    · rw [if_pos q, if_pos (by omega)]
    · rw [if_neg q, if_neg (by omega)]
theorem wb_cu_0 {f g : Int → Int} : wb_cu f g 0 = g := by
  funext p; unfold wb_cu; rw [if_neg (by omega)]
section WBS61
variable {G : wb_G} {N : Nat} {w : wb_W} {Q : Option Value → Nat → wb_W → Prop}
variable {n sd sf cnt ru ld mo db tm tt tr L H fi ch : Int} {c s sg rs im ik : Int → Int} {K : Int → Bool}
theorem sp_X12_image {i : Int} (hra : wb_Ra w c s sg rs im ik) (hrr : wb_RR w n c s sd sf cnt ru K) (hi : -2147483648 ≤ i ∧ i ≤ 2147483647)
    (k2 : ¬ (0 ≤ i ∧ i < 2) → Q (some (.int (wb_i (-2)))) N w)
    (k1 : ∀ w', (0 ≤ i ∧ i < 2) → wb_Ra w' c s sg rs (wb_iu im i (wb_it n sd sf ru c s rs) 138) (wb_u ik i 1) → wb_RR w' n c s sd sf cnt ru K → (∀ k, k ≠ 106 → k ≠ 107 → w' k = w k) → Q (some (.int (wb_i 1))) N w') : wb_M G M_X12_image [.ref 96, .int (wb_i i)] N w Q := by
  unfold wb_M
  obtain ⟨ld, tt, tr, L, H, fi, ch, hrf, -, -, hre, -⟩ := hrr.op
  have hrf' := hrf
  unfold wb_Rf at hrf'
  obtain ⟨h97, h98, h99, h100, h106, h107⟩ := hra
  have lp3 : (0 ≤ i ∧ i < 2) → ∀ k, k ≤ 50 → ∀ (w1 : wb_W), 0 ≤ k → w1 106 = aI 280 (wb_iu im i (wb_it n sd sf ru c s rs) (88 + k)) → (∀ q, q ≠ 106 → w1 q = w q) → wb_V G M_X12_image 127 [(0, .ref 96), (1, .int (wb_i i)), (2, .int (wb_i (140 * i))), (3, .int (wb_i k))] [] N w1 0 0 Q := by
    intro gi
    refine wb_up 50 _ ?_
    intro k ih hk w1 hk0 h1061 ef
    have x96 := (ef 96 (by omega)).trans hrf'
    refine vi_iload_n 81 rfl rfl ?_
    refine vi_bipush 82 rfl (by decide) ?_
    refine vi_icmp_ge 83 rfl (by omega) (by omega) (fun c_130 => ?_) (fun c_130 => ?_)
    · refine vi_aload_n 98 rfl rfl ?_
      refine vi_get 99 rfl f_X12_53 x96 rfl rfl ?_
      refine vi_iload_n 100 rfl rfl ?_
      refine vi_iconst 101 rfl ?_
      refine vi_zast 102 rfl ((ef 107 (by omega)).trans h107) (by omega) (Or.inr rfl) ?_
      refine vi_iconst 103 rfl ?_
      exact vi_ireturn 104 rfl rfl rfl (Nat.zero_le _) (Nat.zero_le _) (k1 _ gi ⟨by rw [wb_upn (by omega), ef _ (by omega)]; exact h97, by rw [wb_upn (by omega), ef _ (by omega)]; exact h98, by rw [wb_upn (by omega), ef _ (by omega)]; exact h99, by rw [wb_upn (by omega), ef _ (by omega)]; exact h100, by rw [wb_upn (by omega), h1061, show 88 + k = 138 by omega], wb_ups⟩ (hre _ L H cnt (by unfold wb_Rf; rw [wb_upn (by omega)]; exact x96) (fun q q1 q2 => by rw [wb_upn (by omega), ef _ (by omega)])) (fun q q1 q2 => by rw [wb_upn q2, ef q q1]))
    · refine vi_aload_n 84 rfl rfl ?_
      refine vi_get 85 rfl f_X12_50 x96 rfl rfl ?_
      refine vi_iload_n 86 rfl rfl ?_
      refine vi_bipush 87 rfl (by decide) ?_
      refine vi_iadd 88 rfl ?_
      refine vi_iload_n 89 rfl rfl ?_
      refine vi_iadd 90 rfl ?_
      refine vi_aload_n 91 rfl rfl ?_
      refine vi_get 92 rfl f_X12_26 x96 rfl rfl ?_
      refine vi_iload_n 93 rfl rfl ?_
      refine vi_iald 94 rfl ((ef 100 (by omega)).trans h100) (by omega) ?_
      refine vi_iast 95 rfl h1061 (by omega) ?_
      refine vi_iinc 96 rfl rfl rfl ?_
      refine vi_goto 97 rfl ?_
      exact vi_lc (ih (k + 1) (by omega) (by omega) _ (by omega) (by rw [wb_ups, wb_iu_s (D1 := 88 + (k + 1)) (by omega) (by omega) (by unfold wb_it; rw [if_neg (by omega), if_neg (by omega), if_neg (by omega), if_neg (by omega), if_neg (by omega), if_neg (by omega), show 88 + k - 88 = k by omega]) (by omega)]) (fun q hq => by rw [wb_upn hq]; exact ef q hq)) ⟨rfl, rfl, rfl, rfl, trivial⟩
  have lp2 : (0 ≤ i ∧ i < 2) → ∀ k, k ≤ 12 → ∀ (w1 : wb_W), 0 ≤ k → w1 106 = aI 280 (wb_iu im i (wb_it n sd sf ru c s rs) (76 + k)) → (∀ q, q ≠ 106 → w1 q = w q) → wb_V G M_X12_image 96 [(0, .ref 96), (1, .int (wb_i i)), (2, .int (wb_i (140 * i))), (3, .int (wb_i k))] [] N w1 0 0 Q := by
    intro gi
    refine wb_up 12 _ ?_
    intro k ih hk w1 hk0 h1061 ef
    have x96 := (ef 96 (by omega)).trans hrf'
    refine vi_iload_n 62 rfl rfl ?_
    refine vi_bipush 63 rfl (by decide) ?_
    refine vi_icmp_ge 64 rfl (by omega) (by omega) (fun c_99 => ?_) (fun c_99 => ?_)
    · refine vi_iconst 79 rfl ?_
      refine vi_istore_n 80 rfl rfl ?_
      exact vi_lc (lp3 gi 0 (by omega) w1 (by omega) (by rw [h1061, show 76 + k = 88 + 0 by omega]) ef) ⟨rfl, rfl, rfl, rfl, trivial⟩
    · refine vi_aload_n 65 rfl rfl ?_
      refine vi_get 66 rfl f_X12_50 x96 rfl rfl ?_
      refine vi_iload_n 67 rfl rfl ?_
      refine vi_bipush 68 rfl (by decide) ?_
      refine vi_iadd 69 rfl ?_
      refine vi_iload_n 70 rfl rfl ?_
      refine vi_iadd 71 rfl ?_
      refine vi_aload_n 72 rfl rfl ?_
      refine vi_get 73 rfl f_X12_13 x96 rfl rfl ?_
      refine vi_iload_n 74 rfl rfl ?_
      refine vi_iald 75 rfl ((ef 98 (by omega)).trans h98) (by omega) ?_
      refine vi_iast 76 rfl h1061 (by omega) ?_
      refine vi_iinc 77 rfl rfl rfl ?_
      refine vi_goto 78 rfl ?_
      exact vi_lc (ih (k + 1) (by omega) (by omega) _ (by omega) (by rw [wb_ups, wb_iu_s (D1 := 76 + (k + 1)) (by omega) (by omega) (by unfold wb_it; rw [if_neg (by omega), if_neg (by omega), if_neg (by omega), if_neg (by omega), if_neg (by omega), if_pos (by omega), show 76 + k - 76 = k by omega]) (by omega)]) (fun q hq => by rw [wb_upn hq]; exact ef q hq)) ⟨rfl, rfl, rfl, rfl, trivial⟩
  have lp1 : (0 ≤ i ∧ i < 2) → ∀ k, k ≤ 72 → ∀ (w1 : wb_W), 0 ≤ k → w1 106 = aI 280 (wb_iu im i (wb_it n sd sf ru c s rs) (4 + k)) → (∀ q, q ≠ 106 → w1 q = w q) → wb_V G M_X12_image 66 [(0, .ref 96), (1, .int (wb_i i)), (2, .int (wb_i (140 * i))), (3, .int (wb_i k))] [] N w1 0 0 Q := by
    intro gi
    refine wb_up 72 _ ?_
    intro k ih hk w1 hk0 h1061 ef
    have x96 := (ef 96 (by omega)).trans hrf'
    refine vi_iload_n 43 rfl rfl ?_
    refine vi_bipush 44 rfl (by decide) ?_
    refine vi_icmp_ge 45 rfl (by omega) (by omega) (fun c_69 => ?_) (fun c_69 => ?_)
    · refine vi_iconst 60 rfl ?_
      refine vi_istore_n 61 rfl rfl ?_
      exact vi_lc (lp2 gi 0 (by omega) w1 (by omega) (by rw [h1061, show 4 + k = 76 + 0 by omega]) ef) ⟨rfl, rfl, rfl, rfl, trivial⟩
    · refine vi_aload_n 46 rfl rfl ?_
      refine vi_get 47 rfl f_X12_50 x96 rfl rfl ?_
      refine vi_iload_n 48 rfl rfl ?_
      refine vi_iconst 49 rfl ?_
      refine vi_iadd 50 rfl ?_
      refine vi_iload_n 51 rfl rfl ?_
      refine vi_iadd 52 rfl ?_
      refine vi_aload_n 53 rfl rfl ?_
      refine vi_get 54 rfl f_X12_7 x96 rfl rfl ?_
      refine vi_iload_n 55 rfl rfl ?_
      refine vi_iald 56 rfl ((ef 97 (by omega)).trans h97) (by omega) ?_
      refine vi_iast 57 rfl h1061 (by omega) ?_
      refine vi_iinc 58 rfl rfl rfl ?_
      refine vi_goto 59 rfl ?_
      exact vi_lc (ih (k + 1) (by omega) (by omega) _ (by omega) (by rw [wb_ups, wb_iu_s (D1 := 4 + (k + 1)) (by omega) (by omega) (by unfold wb_it; rw [if_neg (by omega), if_neg (by omega), if_neg (by omega), if_neg (by omega), if_pos (by omega), show 4 + k - 4 = k by omega]) (by omega)]) (fun q hq => by rw [wb_upn hq]; exact ef q hq)) ⟨rfl, rfl, rfl, rfl, trivial⟩
  have e4 : wb_u (wb_u (wb_u (wb_u im (140 * i) n) (140 * i + 1) (wb_n6 sd)) (140 * i + 2) (wb_n6 sf)) (140 * i + 3) ru = wb_iu im i (wb_it n sd sf ru c s rs) (4 + 0) := by
    have a : wb_u im (140 * i) n = wb_iu im i (wb_it n sd sf ru c s rs) 1 := by
      have := wb_iu_s (im := im) (T := wb_it n sd sf ru c s rs) (i := i) (D := 0) (D1 := 1) (j := 140 * i) (v := n) (by omega) (by omega) rfl (by omega)
      rw [wb_iu_0] at this; exact this
    have b := wb_iu_s (im := im) (T := wb_it n sd sf ru c s rs) (i := i) (D := 1) (D1 := 2) (j := 140 * i + 1) (v := wb_n6 sd) (by omega) rfl rfl (by omega)
    have d := wb_iu_s (im := im) (T := wb_it n sd sf ru c s rs) (i := i) (D := 2) (D1 := 3) (j := 140 * i + 2) (v := wb_n6 sf) (by omega) rfl rfl (by omega)
    have e := wb_iu_s (im := im) (T := wb_it n sd sf ru c s rs) (i := i) (D := 3) (D1 := 4 + 0) (j := 140 * i + 3) (v := ru) (by omega) rfl rfl (by omega)
    rw [a, b, d, e]
  refine vi_iload_n 0 rfl rfl ?_
  refine vi_iconst 1 rfl ?_
  refine vi_iconst 2 rfl ?_
  refine vi_S3 3 ok_X12_in rfl c_X12_56 rfl ?_
  refine sp_X12_in (by omega) (by omega) (by omega) (fun b_3 => ?_) (fun b_3 => ?_)
  · refine vi_if_ne 4 rfl (by omega) (fun _ => ?_) (fun c => absurd c (by decide))
    refine vi_sipush 7 rfl (by decide) ?_
    refine vi_iload_n 8 rfl rfl ?_
    refine vi_imul 9 rfl ?_
    refine vi_istore_n 10 rfl rfl ?_
    refine vi_aload_n 11 rfl rfl ?_
    refine vi_get 12 rfl f_X12_50 hrf' rfl rfl ?_
    refine vi_iload_n 13 rfl rfl ?_
    refine vi_aload_n 14 rfl rfl ?_
    refine vi_get 15 rfl f_X12_60 hrf' rfl rfl ?_
    refine vi_iast 16 rfl h106 (by omega) ?_
    refine vi_aload_n 17 rfl rfl ?_
    refine vi_get 18 rfl f_X12_50 ((wb_upn (by omega)).trans hrf') rfl rfl ?_
    refine vi_iload_n 19 rfl rfl ?_
    refine vi_iconst 20 rfl ?_
    refine vi_iadd 21 rfl ?_
    refine vi_aload_n 22 rfl rfl ?_
    refine vi_get 23 rfl f_X12_16 ((wb_upn (by omega)).trans hrf') rfl rfl ?_
    refine vi_iast 24 rfl wb_ups (by omega) ?_
    rw [wb_upu]
    refine vi_aload_n 25 rfl rfl ?_
    refine vi_get 26 rfl f_X12_50 ((wb_upn (by omega)).trans hrf') rfl rfl ?_
    refine vi_iload_n 27 rfl rfl ?_
    refine vi_iconst 28 rfl ?_
    refine vi_iadd 29 rfl ?_
    refine vi_aload_n 30 rfl rfl ?_
    refine vi_get 31 rfl f_X12_20 ((wb_upn (by omega)).trans hrf') rfl rfl ?_
    refine vi_iast 32 rfl wb_ups (by omega) ?_
    rw [wb_upu]
    refine vi_aload_n 33 rfl rfl ?_
    refine vi_get 34 rfl f_X12_50 ((wb_upn (by omega)).trans hrf') rfl rfl ?_
    refine vi_iload_n 35 rfl rfl ?_
    refine vi_iconst 36 rfl ?_
    refine vi_iadd 37 rfl ?_
    refine vi_aload_n 38 rfl rfl ?_
    refine vi_get 39 rfl f_X12_88 ((wb_upn (by omega)).trans hrf') rfl rfl ?_
    refine vi_iast 40 rfl wb_ups (by omega) ?_
    rw [wb_upu, e4]
    refine vi_iconst 41 rfl ?_
    refine vi_istore_n 42 rfl rfl ?_
    exact vi_lc (lp1 (by omega) 0 (by omega) _ (by omega) wb_ups (fun q hq => wb_upn hq)) ⟨rfl, rfl, rfl, rfl, trivial⟩
  · refine vi_if_ne 4 rfl (by omega) (fun c => absurd c (by decide)) (fun _ => ?_)
    refine vi_bipush 5 rfl (by decide) ?_
    exact vi_ireturn 6 rfl rfl rfl (Nat.zero_le _) (Nat.zero_le _) (k2 (by omega))
theorem sp_X12_restore {i : Int} {n1 sd1 sf1 ru1 : Int} {c1 s1 rs1 : Int → Int} (hra : wb_Ra w c s sg rs im ik) (hrr : wb_RR w n c s sd sf cnt ru K) (hi : -2147483648 ≤ i ∧ i ≤ 2147483647) (hik : ∀ j, ik j = 0 ∨ ik j = 1) (him : (0 ≤ i ∧ i < 2) → ik i = 1 → ∀ d, 0 ≤ d → d < 138 → im (140 * i + d) = wb_it n1 sd1 sf1 ru1 c1 s1 rs1 d)
    (k2 : ¬ (0 ≤ i ∧ i < 2) → Q (some (.int (wb_i (-2)))) N w) (k3 : (0 ≤ i ∧ i < 2) → ik i = 0 → Q (some (.int (wb_i (-3)))) N w)
    (k1 : ∀ w', (0 ≤ i ∧ i < 2) → ik i = 1 → wb_Ra w' (wb_cu c1 c 72) (wb_cu s1 s 12) sg (wb_cu rs1 rs 50) im ik → (∀ c' s' K', wb_RR w' n1 c' s' sd1 sf1 cnt ru1 K') → (∀ k, (k < 96 ∨ 108 ≤ k) → w' k = w k) → Q (some (.int (wb_i 1))) N w') : wb_M G M_X12_restore [.ref 96, .int (wb_i i)] N w Q := by
  unfold wb_M
  obtain ⟨ld, tt, tr, L, H, fi, ch, hrf, -, -, -, hre⟩ := hrr.op
  have hrf' := hrf
  unfold wb_Rf at hrf'
  obtain ⟨h97, h98, h99, h100, h106, h107⟩ := hra
  have hiki := hik i
  have lp3 : (0 ≤ i ∧ i < 2) → ik i = 1 → ∀ k, k ≤ 50 → ∀ (w1 : wb_W), 0 ≤ k → wb_Rf w1 n1 sd1 sf1 cnt ru1 ld 0 0 (-6) tt tr L H fi ch → w1 97 = aI 72 (wb_cu c1 c 72) → w1 98 = aI 12 (wb_cu s1 s 12) → w1 100 = aI 50 (wb_cu rs1 rs k) → (∀ q, q ≠ 96 → q ≠ 97 → q ≠ 98 → q ≠ 100 → w1 q = w q) → wb_V G M_X12_restore 139 [(0, .ref 96), (1, .int (wb_i i)), (2, .int (wb_i (140 * i))), (3, .int (wb_i k))] [] N w1 0 0 Q := by
    intro gi gk
    refine wb_up 50 _ ?_
    intro k ih hk w1 hk0 hrf1 h971 h981 h1001 ef
    have x96 := hrf1
    unfold wb_Rf at x96
    have hv := fun q : k < 50 => him gi gk (88 + k) (by omega) (by omega)
    have ha : 140 * i + 88 + k = 140 * i + (88 + k) := by omega
    rw [← ha] at hv
    refine vi_iload_n 88 rfl rfl ?_
    refine vi_bipush 89 rfl (by decide) ?_
    refine vi_icmp_ge 90 rfl (by omega) (by omega) (fun c_142 => ?_) (fun c_142 => ?_)
    · refine vi_aload_n 105 rfl rfl ?_
      refine vi_iconst 106 rfl ?_
      refine vi_put 107 rfl f_X12_63 x96 rfl rfl rfl rfl ?_
      refine vi_iconst 108 rfl ?_
      exact vi_ireturn 109 rfl rfl rfl (Nat.zero_le _) (Nat.zero_le _) (k1 _ gi gk ⟨(wb_upn (by omega)).trans h971, (wb_upn (by omega)).trans h981, by rw [wb_upn (by omega), ef _ (by omega) (by omega) (by omega) (by omega)]; exact h99, by rw [wb_upn (by omega), h1001, show k = 50 by omega], by rw [wb_upn (by omega), ef _ (by omega) (by omega) (by omega) (by omega)]; exact h106, by rw [wb_upn (by omega), ef _ (by omega) (by omega) (by omega) (by omega)]; exact h107⟩ (fun c' s' K' => hre _ n1 c' s' sd1 sf1 cnt ru1 K' wb_ups (fun q q1 q2 => by rw [wb_upn (by omega), ef _ (by omega) (by omega) (by omega) (by omega)])) (fun q hq => by rw [wb_upn (by omega), ef _ (by omega) (by omega) (by omega) (by omega)]))
    · refine vi_aload_n 91 rfl rfl ?_
      refine vi_get 92 rfl f_X12_26 x96 rfl rfl ?_
      refine vi_iload_n 93 rfl rfl ?_
      refine vi_aload_n 94 rfl rfl ?_
      refine vi_get 95 rfl f_X12_50 x96 rfl rfl ?_
      refine vi_iload_n 96 rfl rfl ?_
      refine vi_bipush 97 rfl (by decide) ?_
      refine vi_iadd 98 rfl ?_
      refine vi_iload_n 99 rfl rfl ?_
      refine vi_iadd 100 rfl ?_
      refine vi_iald 101 rfl ((ef 106 (by omega) (by omega) (by omega) (by omega)).trans h106) (by omega) ?_
      refine vi_iast 102 rfl h1001 (by omega) ?_
      refine vi_iinc 103 rfl rfl rfl ?_
      refine vi_goto 104 rfl ?_
      exact vi_lc (ih (k + 1) (by omega) (by omega) _ (by omega) ((wb_upn (by omega)).trans hrf1) ((wb_upn (by omega)).trans h971) ((wb_upn (by omega)).trans h981) (by rw [wb_ups, wb_cu_s hk0 (by rw [hv (by omega)]; unfold wb_it; rw [if_neg (by omega), if_neg (by omega), if_neg (by omega), if_neg (by omega), if_neg (by omega), if_neg (by omega), show 88 + k - 88 = k by omega])]) (fun q q1 q2 q3 q4 => by rw [wb_upn q4]; exact ef q q1 q2 q3 q4)) ⟨rfl, rfl, rfl, rfl, trivial⟩
  have lp2 : (0 ≤ i ∧ i < 2) → ik i = 1 → ∀ k, k ≤ 12 → ∀ (w1 : wb_W), 0 ≤ k → wb_Rf w1 n1 sd1 sf1 cnt ru1 ld 0 0 (-6) tt tr L H fi ch → w1 97 = aI 72 (wb_cu c1 c 72) → w1 98 = aI 12 (wb_cu s1 s k) → (∀ q, q ≠ 96 → q ≠ 97 → q ≠ 98 → w1 q = w q) → wb_V G M_X12_restore 108 [(0, .ref 96), (1, .int (wb_i i)), (2, .int (wb_i (140 * i))), (3, .int (wb_i k))] [] N w1 0 0 Q := by
    intro gi gk
    refine wb_up 12 _ ?_
    intro k ih hk w1 hk0 hrf1 h971 h981 ef
    have x96 := hrf1
    unfold wb_Rf at x96
    have hv := fun q : k < 12 => him gi gk (76 + k) (by omega) (by omega)
    have ha : 140 * i + 76 + k = 140 * i + (76 + k) := by omega
    rw [← ha] at hv
    refine vi_iload_n 69 rfl rfl ?_
    refine vi_bipush 70 rfl (by decide) ?_
    refine vi_icmp_ge 71 rfl (by omega) (by omega) (fun c_111 => ?_) (fun c_111 => ?_)
    · refine vi_iconst 86 rfl ?_
      refine vi_istore_n 87 rfl rfl ?_
      exact vi_lc (lp3 gi gk 0 (by omega) w1 (by omega) hrf1 h971 (by rw [h981, show k = 12 by omega]) (by rw [ef _ (by omega) (by omega) (by omega), wb_cu_0]; exact h100) (fun q q1 q2 q3 q4 => ef q q1 q2 q3)) ⟨rfl, rfl, rfl, rfl, trivial⟩
    · refine vi_aload_n 72 rfl rfl ?_
      refine vi_get 73 rfl f_X12_13 x96 rfl rfl ?_
      refine vi_iload_n 74 rfl rfl ?_
      refine vi_aload_n 75 rfl rfl ?_
      refine vi_get 76 rfl f_X12_50 x96 rfl rfl ?_
      refine vi_iload_n 77 rfl rfl ?_
      refine vi_bipush 78 rfl (by decide) ?_
      refine vi_iadd 79 rfl ?_
      refine vi_iload_n 80 rfl rfl ?_
      refine vi_iadd 81 rfl ?_
      refine vi_iald 82 rfl ((ef 106 (by omega) (by omega) (by omega)).trans h106) (by omega) ?_
      refine vi_iast 83 rfl h981 (by omega) ?_
      refine vi_iinc 84 rfl rfl rfl ?_
      refine vi_goto 85 rfl ?_
      exact vi_lc (ih (k + 1) (by omega) (by omega) _ (by omega) ((wb_upn (by omega)).trans hrf1) ((wb_upn (by omega)).trans h971) (by rw [wb_ups, wb_cu_s hk0 (by rw [hv (by omega)]; unfold wb_it; rw [if_neg (by omega), if_neg (by omega), if_neg (by omega), if_neg (by omega), if_neg (by omega), if_pos (by omega), show 76 + k - 76 = k by omega])]) (fun q q1 q2 q3 => by rw [wb_upn q3]; exact ef q q1 q2 q3)) ⟨rfl, rfl, rfl, rfl, trivial⟩
  have lp1 : (0 ≤ i ∧ i < 2) → ik i = 1 → ∀ k, k ≤ 72 → ∀ (w1 : wb_W), 0 ≤ k → wb_Rf w1 n1 sd1 sf1 cnt ru1 ld 0 0 (-6) tt tr L H fi ch → w1 97 = aI 72 (wb_cu c1 c k) → (∀ q, q ≠ 96 → q ≠ 97 → w1 q = w q) → wb_V G M_X12_restore 78 [(0, .ref 96), (1, .int (wb_i i)), (2, .int (wb_i (140 * i))), (3, .int (wb_i k))] [] N w1 0 0 Q := by
    intro gi gk
    refine wb_up 72 _ ?_
    intro k ih hk w1 hk0 hrf1 h971 ef
    have x96 := hrf1
    unfold wb_Rf at x96
    have hv := fun q : k < 72 => him gi gk (4 + k) (by omega) (by omega)
    have ha : 140 * i + 4 + k = 140 * i + (4 + k) := by omega
    rw [← ha] at hv
    refine vi_iload_n 50 rfl rfl ?_
    refine vi_bipush 51 rfl (by decide) ?_
    refine vi_icmp_ge 52 rfl (by omega) (by omega) (fun c_81 => ?_) (fun c_81 => ?_)
    · refine vi_iconst 67 rfl ?_
      refine vi_istore_n 68 rfl rfl ?_
      exact vi_lc (lp2 gi gk 0 (by omega) w1 (by omega) hrf1 (by rw [h971, show k = 72 by omega]) (by rw [ef _ (by omega) (by omega), wb_cu_0]; exact h98) (fun q q1 q2 q3 => ef q q1 q2)) ⟨rfl, rfl, rfl, rfl, trivial⟩
    · refine vi_aload_n 53 rfl rfl ?_
      refine vi_get 54 rfl f_X12_7 x96 rfl rfl ?_
      refine vi_iload_n 55 rfl rfl ?_
      refine vi_aload_n 56 rfl rfl ?_
      refine vi_get 57 rfl f_X12_50 x96 rfl rfl ?_
      refine vi_iload_n 58 rfl rfl ?_
      refine vi_iconst 59 rfl ?_
      refine vi_iadd 60 rfl ?_
      refine vi_iload_n 61 rfl rfl ?_
      refine vi_iadd 62 rfl ?_
      refine vi_iald 63 rfl ((ef 106 (by omega) (by omega)).trans h106) (by omega) ?_
      refine vi_iast 64 rfl h971 (by omega) ?_
      refine vi_iinc 65 rfl rfl rfl ?_
      refine vi_goto 66 rfl ?_
      exact vi_lc (ih (k + 1) (by omega) (by omega) _ (by omega) ((wb_upn (by omega)).trans hrf1) (by rw [wb_ups, wb_cu_s hk0 (by rw [hv (by omega)]; unfold wb_it; rw [if_neg (by omega), if_neg (by omega), if_neg (by omega), if_neg (by omega), if_pos (by omega), show 4 + k - 4 = k by omega])]) (fun q q1 q2 => by rw [wb_upn q2]; exact ef q q1 q2)) ⟨rfl, rfl, rfl, rfl, trivial⟩
  have v0 : (0 ≤ i ∧ i < 2) → ik i = 1 → im (140 * i) = n1 := fun a b => by
    have := him a b 0 (by omega) (by omega)
    rw [Int.add_zero] at this; exact this
  have v1 : (0 ≤ i ∧ i < 2) → ik i = 1 → im (140 * i + 1) = wb_n6 sd1 := fun a b => him a b 1 (by omega) (by omega)
  have v2 : (0 ≤ i ∧ i < 2) → ik i = 1 → im (140 * i + 2) = wb_n6 sf1 := fun a b => him a b 2 (by omega) (by omega)
  have v3 : (0 ≤ i ∧ i < 2) → ik i = 1 → im (140 * i + 3) = ru1 := fun a b => him a b 3 (by omega) (by omega)
  refine vi_iload_n 0 rfl rfl ?_
  refine vi_iconst 1 rfl ?_
  refine vi_iconst 2 rfl ?_
  refine vi_S3 3 ok_X12_in rfl c_X12_56 rfl ?_
  refine sp_X12_in (by omega) (by omega) (by omega) (fun b_3 => ?_) (fun b_3 => ?_)
  · refine vi_if_ne 4 rfl (by omega) (fun _ => ?_) (fun c => absurd c (by decide))
    refine vi_aload_n 7 rfl rfl ?_
    refine vi_get 8 rfl f_X12_53 hrf' rfl rfl ?_
    refine vi_iload_n 9 rfl rfl ?_
    refine vi_zald 10 rfl h107 (by omega) ?_
    refine vi_if_ne 11 rfl (by omega) (fun c_18 => ?_) (fun c_18 => ?_)
    · refine vi_sipush 14 rfl (by decide) ?_
      refine vi_iload_n 15 rfl rfl ?_
      refine vi_imul 16 rfl ?_
      refine vi_istore_n 17 rfl rfl ?_
      refine vi_aload_n 18 rfl rfl ?_
      refine vi_aload_n 19 rfl rfl ?_
      refine vi_get 20 rfl f_X12_50 hrf' rfl rfl ?_
      refine vi_iload_n 21 rfl rfl ?_
      refine vi_iald 22 rfl h106 (by omega) ?_
      rw [v0 (by omega) (by omega)]
      refine vi_put 23 rfl f_X12_60 hrf' rfl rfl rfl rfl ?_
      refine vi_aload_n 24 rfl rfl ?_
      refine vi_aload_n 25 rfl rfl ?_
      refine vi_get 26 rfl f_X12_50 wb_ups rfl rfl ?_
      refine vi_iload_n 27 rfl rfl ?_
      refine vi_iconst 28 rfl ?_
      refine vi_iadd 29 rfl ?_
      refine vi_iald 30 rfl ((wb_upn (by omega)).trans h106) (by omega) ?_
      rw [v1 (by omega) (by omega)]
      refine vi_put 31 rfl f_X12_16 wb_ups rfl rfl rfl rfl ?_
      rw [wb_upu]
      refine vi_aload_n 32 rfl rfl ?_
      refine vi_aload_n 33 rfl rfl ?_
      refine vi_get 34 rfl f_X12_50 wb_ups rfl rfl ?_
      refine vi_iload_n 35 rfl rfl ?_
      refine vi_iconst 36 rfl ?_
      refine vi_iadd 37 rfl ?_
      refine vi_iald 38 rfl ((wb_upn (by omega)).trans h106) (by omega) ?_
      rw [v2 (by omega) (by omega)]
      refine vi_put 39 rfl f_X12_20 wb_ups rfl rfl rfl rfl ?_
      rw [wb_upu]
      refine vi_aload_n 40 rfl rfl ?_
      refine vi_aload_n 41 rfl rfl ?_
      refine vi_get 42 rfl f_X12_50 wb_ups rfl rfl ?_
      refine vi_iload_n 43 rfl rfl ?_
      refine vi_iconst 44 rfl ?_
      refine vi_iadd 45 rfl ?_
      refine vi_iald 46 rfl ((wb_upn (by omega)).trans h106) (by omega) ?_
      rw [v3 (by omega) (by omega)]
      refine vi_put 47 rfl f_X12_88 wb_ups rfl rfl rfl rfl ?_
      rw [wb_upu]
      refine vi_iconst 48 rfl ?_
      refine vi_istore_n 49 rfl rfl ?_
      exact vi_lc (lp1 (by omega) (by omega) 0 (by omega) _ (by omega) wb_ups (by rw [wb_upn (by omega), wb_cu_0]; exact h97) (fun q q1 q2 => wb_upn q1)) ⟨rfl, rfl, rfl, rfl, trivial⟩
    · refine vi_bipush 12 rfl (by decide) ?_
      exact vi_ireturn 13 rfl rfl rfl (Nat.zero_le _) (Nat.zero_le _) (k3 (by omega) (by omega))
  · refine vi_if_ne 4 rfl (by omega) (fun c => absurd c (by decide)) (fun _ => ?_)
    refine vi_bipush 5 rfl (by decide) ?_
    exact vi_ireturn 6 rfl rfl rfl (Nat.zero_le _) (Nat.zero_le _) (k2 (by omega))
end WBS61
