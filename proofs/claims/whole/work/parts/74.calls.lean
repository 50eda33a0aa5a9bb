/-! ===== each call: the class, then the reference, answer alike ===== -/
theorem wb_Zo.u {c s rs : Int → Int} {j v : Int} (h : wb_Zo c s rs) (hj : 0 ≤ j ∧ j < 72) : wb_Zo (wb_u c j v) s rs := ⟨fun p hp => by rw [wb_un (by omega)]; exact h.1 p hp, h.2⟩
theorem wb_Zo.v {c s rs : Int → Int} {j v : Int} (h : wb_Zo c s rs) (hj : 0 ≤ j ∧ j < 12) : wb_Zo c (wb_u s j v) rs := ⟨h.1, fun p hp => by rw [wb_un (by omega)]; exact h.2.1 p hp, h.2.2⟩
theorem wb_Zo.m {c s rs : Int → Int} {n a b d v p q : Int} (h : wb_Zo c s rs) (hn : 0 ≤ n ∧ n < 8) : wb_Zo (wb_mc n c a b d v p q) s rs := by
  have h0 : wb_Zo (wb_zc n c) s rs := ⟨fun k hk => by unfold wb_zc; rw [if_neg (by omega)]; exact h.1 k hk, h.2⟩
  unfold wb_mc
  exact ((((((h0.u (by omega)).u (by omega)).u (by omega)).u (by omega)).u (by omega)).u (by omega))
theorem wb_ff_congr {sg sg' : Int → Int} {cnt : Int} : ∀ (k : Nat) (i st : Int), 0 ≤ i → i + k ≤ cnt → (∀ j, 0 ≤ j → j < cnt → sg' j = sg j) → wb_ff sg' cnt k i st = wb_ff sg cnt k i st := by
  intro k
  induction k with
  | zero => intro i st _ _ _; rfl
  | succ k ih =>
    intro i st h1 h2 h
    rw [wb_ff, wb_ff, h i h1 (by omega), ih (i + 1) _ (by omega) (by omega) h]
theorem wb_fo_congr {sg sg' : Int → Int} {x : Int} : ∀ k : Nat, (∀ j : Int, 0 ≤ j → j < k → sg' j = sg j) → wb_fo sg' x k = wb_fo sg x k := by
  intro k
  induction k with
  | zero => intro _; rfl
  | succ k ih => intro h; rw [wb_fo, wb_fo, ih (fun j j1 j2 => h j j1 (by omega)), h k (by omega) (by omega)]
theorem wb_bo1_congr {sg sg' : Int → Int} {cnt : Int} (h : ∀ j, 0 ≤ j → j < cnt → sg' j = sg j) : wb_bo1 sg' cnt = wb_bo1 sg cnt := by
  unfold wb_bo1
  split
  · congr 1; unfold wb_br1; exact wb_ct_congr _ (fun i i1 i2 => decide_eq_decide.mpr (by rw [h i i1 (by omega)]))
  · rfl
theorem wb_fa_pos {sg : Int → Int} {cnt : Int} (hc : 0 ≤ cnt) (h : wb_fa sg cnt = -6) : 0 < cnt := by
  refine Classical.byContradiction fun q => ?_
  obtain rfl : cnt = 0 := by omega
  have e : wb_fa sg 0 = 0 := rfl
  omega
theorem wb_zcu {f g : Int → Int} {k : Int} (hf : ∀ p, (p < 0 ∨ k ≤ p) → f p = 0) (hg : ∀ p, (p < 0 ∨ k ≤ p) → g p = 0) : (fun p => if 0 ≤ p ∧ p < k then f p else g p) = f := by
  funext p
  by_cases q : 0 ≤ p ∧ p < k
  · rw [if_pos q]
  · rw [if_neg q, hg p (by omega), hf p (by omega)]
section WBS74
variable {G : wb_G} {N : Nat} {w : wb_W} {Q : Option Value → Nat → wb_W → Prop} {i : Int}
theorem st_month {a b d v p q : Int} (hJ : wb_I w i) (hi : i ≤ 1000) (h_a : -2147483648 ≤ a ∧ a ≤ 2147483647) (h_b : -2147483648 ≤ b ∧ b ≤ 2147483647) (h_d : -2147483648 ≤ d ∧ d ≤ 2147483647) (h_v : -2147483648 ≤ v ∧ v ≤ 2147483647) (h_p : -2147483648 ≤ p ∧ p ≤ 2147483647) (h_q : -2147483648 ≤ q ∧ q ≤ 2147483647) (hQ : ∀ (w' : wb_W) (r : Int), (∃ fs, w' 96 = .inr (12, fs)) → (∀ Q2 : Option Value → Nat → wb_W → Prop, (∀ w2, wb_I w2 (i + 7) → Q2 (some (.int (wb_i r))) N w2) → wb_M G M_X12_month [.ref 96, .int (wb_i a), .int (wb_i b), .int (wb_i d), .int (wb_i v), .int (wb_i p), .int (wb_i q)] N w' Q2) → Q (some (.int (wb_i r))) N w') : wb_M G M_X11_month [.ref 3, .int (wb_i a), .int (wb_i b), .int (wb_i d), .int (wb_i v), .int (wb_i p), .int (wb_i q)] N w Q := by
  obtain ⟨n, c, s, sd, sf, tu, g, wt, sg, cnt, rs, ru, im, fz, h⟩ := hJ
  have h' := h
  obtain ⟨hx3, hbk, hK, hIn, hR, hz, htu, hTe, hc, hsg, him, hfz, hP0, hP1, hra, hrr, hru⟩ := h'
  refine sp_X11_month hx3 hbk hR h_a h_b h_d h_v h_p h_q (fun hno => ?_) (fun hok h8 => ?_) (fun w' hok hn8 hbk' ef => ?_)
  · exact h.qq hQ hIn (fun _ _ => rfl) (fun hra' hrr' Q2 hQ2 => by obtain ⟨ld, tt, tr, L, H, fi, ch, hrf, -, -, hre1, hre2⟩ := hrr'.op; obtain ⟨h97, h98, h99, h100, h106, h107⟩ := hra'; exact sp_X12_month hrf h97 hR.1 h_a h_b h_d h_v h_p h_q (fun _ => hQ2 w ⟨h97, h98, h99, h100, h106, h107⟩ hrr' (fun _ _ => rfl)) (fun q => absurd q hno) (fun _ q => absurd q hno))
  · exact h.qq hQ hIn (fun _ _ => rfl) (fun hra' hrr' Q2 hQ2 => by obtain ⟨ld, tt, tr, L, H, fi, ch, hrf, -, -, hre1, hre2⟩ := hrr'.op; obtain ⟨h97, h98, h99, h100, h106, h107⟩ := hra'; exact sp_X12_month hrf h97 hR.1 h_a h_b h_d h_v h_p h_q (fun q => absurd hok q) (fun _ _ => hQ2 w ⟨h97, h98, h99, h100, h106, h107⟩ hrr' (fun _ _ => rfl)) (fun _ _ q => by omega))
  · exact h.bb hQ hi hbk' (by omega) (wb_BR_mc hR hn8 hok) (hz.m ⟨hR.1.1, hn8⟩) hK (hTe.fr (fun k p1 p2 => ef k (by omega))) hc hsg hru (fun k hk => ef k (by omega)) (fun hra' hrr' Q2 hQ2 => by obtain ⟨ld, tt, tr, L, H, fi, ch, hrf, -, -, hre1, hre2⟩ := hrr'.op; obtain ⟨h97, h98, h99, h100, h106, h107⟩ := hra'; exact sp_X12_month hrf h97 hR.1 h_a h_b h_d h_v h_p h_q (fun q => absurd hok q) (fun _ q => by omega) (fun w2 _ _ hrf2 h972 ef2 => hQ2 w2 ⟨h972, (ef2 _ (by omega) (by omega)).trans h98, (ef2 _ (by omega) (by omega)).trans h99, (ef2 _ (by omega) (by omega)).trans h100, (ef2 _ (by omega) (by omega)).trans h106, (ef2 _ (by omega) (by omega)).trans h107⟩ (hre2 w2 _ _ _ _ _ _ _ _ hrf2 (fun k k1 k2 => ef2 k (by omega) (by omega))) (fun k hk => ef2 k (by omega) (by omega))))
theorem st_change {m j v : Int} (hJ : wb_I w i) (hi : i ≤ 1000) (h_m : -2147483648 ≤ m ∧ m ≤ 2147483647) (h_j : -2147483648 ≤ j ∧ j ≤ 2147483647) (h_v : -2147483648 ≤ v ∧ v ≤ 2147483647) (hQ : ∀ (w' : wb_W) (r : Int), (∃ fs, w' 96 = .inr (12, fs)) → (∀ Q2 : Option Value → Nat → wb_W → Prop, (∀ w2, wb_I w2 (i + 7) → Q2 (some (.int (wb_i r))) N w2) → wb_M G M_X12_change [.ref 96, .int (wb_i m), .int (wb_i j), .int (wb_i v)] N w' Q2) → Q (some (.int (wb_i r))) N w') : wb_M G M_X11_change [.ref 3, .int (wb_i m), .int (wb_i j), .int (wb_i v)] N w Q := by
  obtain ⟨n, c, s, sd, sf, tu, g, wt, sg, cnt, rs, ru, im, fz, h⟩ := hJ
  have h' := h
  obtain ⟨hx3, hbk, hK, hIn, hR, hz, htu, hTe, hc, hsg, him, hfz, hP0, hP1, hra, hrr, hru⟩ := h'
  refine sp_X11_change hx3 hbk hR h_m h_j h_v (fun hno => ?_) (fun hm hno => ?_) (fun w' hm hok hbk' ef => ?_)
  · exact h.qq hQ hIn (fun _ _ => rfl) (fun hra' hrr' Q2 hQ2 => by obtain ⟨ld, tt, tr, L, H, fi, ch, hrf, -, -, hre1, hre2⟩ := hrr'.op; obtain ⟨h97, h98, h99, h100, h106, h107⟩ := hra'; exact sp_X12_change hrf h97 hR.1 h_m h_j h_v (fun _ => hQ2 w ⟨h97, h98, h99, h100, h106, h107⟩ hrr' (fun _ _ => rfl)) (fun q => absurd q hno) (fun _ q => absurd q hno))
  · exact h.qq hQ hIn (fun _ _ => rfl) (fun hra' hrr' Q2 hQ2 => by obtain ⟨ld, tt, tr, L, H, fi, ch, hrf, -, -, hre1, hre2⟩ := hrr'.op; obtain ⟨h97, h98, h99, h100, h106, h107⟩ := hra'; exact sp_X12_change hrf h97 hR.1 h_m h_j h_v (fun q => absurd hm q) (fun _ _ => hQ2 w ⟨h97, h98, h99, h100, h106, h107⟩ hrr' (fun _ _ => rfl)) (fun _ _ q => absurd q hno))
  · exact h.bb hQ hi hbk' (by omega) (wb_BR_set hR hok.1 hok.2) (hz.u (by have := hR.1; omega)) hK (hTe.fr (fun k p1 p2 => ef k (by omega))) hc hsg hru (fun k hk => ef k (by omega)) (fun hra' hrr' Q2 hQ2 => by obtain ⟨ld, tt, tr, L, H, fi, ch, hrf, -, -, hre1, hre2⟩ := hrr'.op; obtain ⟨h97, h98, h99, h100, h106, h107⟩ := hra'; exact sp_X12_change hrf h97 hR.1 h_m h_j h_v (fun q => absurd hm q) (fun _ q => absurd hok q) (fun w2 _ _ hrf2 h972 ef2 => hQ2 w2 ⟨h972, (ef2 _ (by omega) (by omega)).trans h98, (ef2 _ (by omega) (by omega)).trans h99, (ef2 _ (by omega) (by omega)).trans h100, (ef2 _ (by omega) (by omega)).trans h106, (ef2 _ (by omega) (by omega)).trans h107⟩ (hre2 w2 _ _ _ _ _ _ _ _ hrf2 (fun k k1 k2 => ef2 k (by omega) (by omega))) (fun k hk => ef2 k (by omega) (by omega))))
theorem st_about {m j : Int} (hJ : wb_I w i) (hi : i ≤ 1000) (h_m : -2147483648 ≤ m ∧ m ≤ 2147483647) (h_j : -2147483648 ≤ j ∧ j ≤ 2147483647) (hQ : ∀ (w' : wb_W) (r : Int), (∃ fs, w' 96 = .inr (12, fs)) → (∀ Q2 : Option Value → Nat → wb_W → Prop, (∀ w2, wb_I w2 (i + 7) → Q2 (some (.int (wb_i r))) N w2) → wb_M G M_X12_about [.ref 96, .int (wb_i m), .int (wb_i j)] N w' Q2) → Q (some (.int (wb_i r))) N w') : wb_M G M_X11_about [.ref 3, .int (wb_i m), .int (wb_i j)] N w Q := by
  obtain ⟨n, c, s, sd, sf, tu, g, wt, sg, cnt, rs, ru, im, fz, h⟩ := hJ
  have h' := h
  obtain ⟨hx3, hbk, hK, hIn, hR, hz, htu, hTe, hc, hsg, him, hfz, hP0, hP1, hra, hrr, hru⟩ := h'
  exact sp_X11_about hx3 hbk hR h_m h_j (h.qq hQ hIn (fun _ _ => rfl) (fun hra' hrr' Q2 hQ2 => by obtain ⟨ld, tt, tr, L, H, fi, ch, hrf, -, -, hre1, hre2⟩ := hrr'.op; obtain ⟨h97, h98, h99, h100, h106, h107⟩ := hra'; exact sp_X12_about hrf h97 hR.1 h_m h_j (hQ2 w ⟨h97, h98, h99, h100, h106, h107⟩ hrr' (fun _ _ => rfl))))
theorem st_tear (hJ : wb_I w i) (hi : i ≤ 1000)  (hQ : ∀ (w' : wb_W) (r : Int), (∃ fs, w' 96 = .inr (12, fs)) → (∀ Q2 : Option Value → Nat → wb_W → Prop, (∀ w2, wb_I w2 (i + 7) → Q2 (some (.int (wb_i r))) N w2) → wb_M G M_X12_tear [.ref 96] N w' Q2) → Q (some (.int (wb_i r))) N w') : wb_M G M_X11_tear [.ref 3] N w Q := by
  obtain ⟨n, c, s, sd, sf, tu, g, wt, sg, cnt, rs, ru, im, fz, h⟩ := hJ
  have h' := h
  obtain ⟨hx3, hbk, hK, hIn, hR, hz, htu, hTe, hc, hsg, him, hfz, hP0, hP1, hra, hrr, hru⟩ := h'
  refine sp_X11_tear hx3 hbk hR (fun h0 => ?_) (fun w' hn1 hbk' ef => ?_)
  · exact h.qq hQ hIn (fun _ _ => rfl) (fun hra' hrr' Q2 hQ2 => by obtain ⟨ld, tt, tr, L, H, fi, ch, hrf, -, -, hre1, hre2⟩ := hrr'.op; obtain ⟨h97, h98, h99, h100, h106, h107⟩ := hra'; exact sp_X12_tear hrf hR.1 (fun _ => hQ2 w ⟨h97, h98, h99, h100, h106, h107⟩ hrr' (fun _ _ => rfl)) (fun _ q => by omega))
  · exact h.bb hQ hi hbk' (by omega) ⟨by have := hR.1; omega, hR.2⟩ hz hK (hTe.fr (fun k p1 p2 => ef k (by omega))) hc hsg hru (fun k hk => ef k (by omega)) (fun hra' hrr' Q2 hQ2 => by obtain ⟨ld, tt, tr, L, H, fi, ch, hrf, -, -, hre1, hre2⟩ := hrr'.op; obtain ⟨h97, h98, h99, h100, h106, h107⟩ := hra'; exact sp_X12_tear hrf hR.1 (fun q => by omega) (fun w2 _ hrf2 ef2 => hQ2 w2 ⟨(ef2 _ (by omega)).trans h97, (ef2 _ (by omega)).trans h98, (ef2 _ (by omega)).trans h99, (ef2 _ (by omega)).trans h100, (ef2 _ (by omega)).trans h106, (ef2 _ (by omega)).trans h107⟩ (hre2 w2 _ _ _ _ _ _ _ _ hrf2 (fun k k1 k2 => ef2 k (by omega))) (fun k hk => ef2 k (by omega))))
theorem st_stock {t j v : Int} (hJ : wb_I w i) (hi : i ≤ 1000) (h_t : -2147483648 ≤ t ∧ t ≤ 2147483647) (h_j : -2147483648 ≤ j ∧ j ≤ 2147483647) (h_v : -2147483648 ≤ v ∧ v ≤ 2147483647) (hQ : ∀ (w' : wb_W) (r : Int), (∃ fs, w' 96 = .inr (12, fs)) → (∀ Q2 : Option Value → Nat → wb_W → Prop, (∀ w2, wb_I w2 (i + 7) → Q2 (some (.int (wb_i r))) N w2) → wb_M G M_X12_stock [.ref 96, .int (wb_i t), .int (wb_i j), .int (wb_i v)] N w' Q2) → Q (some (.int (wb_i r))) N w') : wb_M G M_X11_stock [.ref 3, .int (wb_i t), .int (wb_i j), .int (wb_i v)] N w Q := by
  obtain ⟨n, c, s, sd, sf, tu, g, wt, sg, cnt, rs, ru, im, fz, h⟩ := hJ
  have h' := h
  obtain ⟨hx3, hbk, hK, hIn, hR, hz, htu, hTe, hc, hsg, him, hfz, hP0, hP1, hra, hrr, hru⟩ := h'
  refine sp_X11_stock hx3 hbk hR h_t h_j h_v (fun hno => ?_) (fun ht hno => ?_) (fun w' ht hok hbk' ef => ?_)
  · exact h.qq hQ hIn (fun _ _ => rfl) (fun hra' hrr' Q2 hQ2 => by obtain ⟨ld, tt, tr, L, H, fi, ch, hrf, -, -, hre1, hre2⟩ := hrr'.op; obtain ⟨h97, h98, h99, h100, h106, h107⟩ := hra'; exact sp_X12_stock hrf h98 hR.2.2.1 h_t h_j h_v (fun _ => hQ2 w ⟨h97, h98, h99, h100, h106, h107⟩ hrr' (fun _ _ => rfl)) (fun q => absurd q hno) (fun _ q => absurd q hno))
  · exact h.qq hQ hIn (fun _ _ => rfl) (fun hra' hrr' Q2 hQ2 => by obtain ⟨ld, tt, tr, L, H, fi, ch, hrf, -, -, hre1, hre2⟩ := hrr'.op; obtain ⟨h97, h98, h99, h100, h106, h107⟩ := hra'; exact sp_X12_stock hrf h98 hR.2.2.1 h_t h_j h_v (fun q => absurd ht q) (fun _ _ => hQ2 w ⟨h97, h98, h99, h100, h106, h107⟩ hrr' (fun _ _ => rfl)) (fun _ _ q => absurd q hno))
  · exact h.bb hQ hi hbk' (by omega) (wb_BR_st hR hok.1.1 hok.1.2 hok.2.1 hok.2.2) (hz.v (by have := hok.1.1; omega)) hK (hTe.fr (fun k p1 p2 => ef k (by omega))) hc hsg hru (fun k hk => ef k (by omega)) (fun hra' hrr' Q2 hQ2 => by obtain ⟨ld, tt, tr, L, H, fi, ch, hrf, -, -, hre1, hre2⟩ := hrr'.op; obtain ⟨h97, h98, h99, h100, h106, h107⟩ := hra'; exact sp_X12_stock hrf h98 hR.2.2.1 h_t h_j h_v (fun q => absurd ht q) (fun _ q => absurd hok q) (fun w2 _ _ hrf2 h982 ef2 => hQ2 w2 ⟨(ef2 _ (by omega) (by omega)).trans h97, h982, (ef2 _ (by omega) (by omega)).trans h99, (ef2 _ (by omega) (by omega)).trans h100, (ef2 _ (by omega) (by omega)).trans h106, (ef2 _ (by omega) (by omega)).trans h107⟩ (hre2 w2 _ _ _ _ _ _ _ _ hrf2 (fun k k1 k2 => ef2 k (by omega) (by omega))) (fun k hk => ef2 k (by omega) (by omega))))
theorem st_stand {t o : Int} (hJ : wb_I w i) (hi : i ≤ 1000) (h_t : -2147483648 ≤ t ∧ t ≤ 2147483647) (h_o : -2147483648 ≤ o ∧ o ≤ 2147483647) (hQ : ∀ (w' : wb_W) (r : Int), (∃ fs, w' 96 = .inr (12, fs)) → (∀ Q2 : Option Value → Nat → wb_W → Prop, (∀ w2, wb_I w2 (i + 7) → Q2 (some (.int (wb_i r))) N w2) → wb_M G M_X12_stand [.ref 96, .int (wb_i t), .int (wb_i o)] N w' Q2) → Q (some (.int (wb_i r))) N w') : wb_M G M_X11_stand [.ref 3, .int (wb_i t), .int (wb_i o)] N w Q := by
  obtain ⟨n, c, s, sd, sf, tu, g, wt, sg, cnt, rs, ru, im, fz, h⟩ := hJ
  have h' := h
  obtain ⟨hx3, hbk, hK, hIn, hR, hz, htu, hTe, hc, hsg, him, hfz, hP0, hP1, hra, hrr, hru⟩ := h'
  have h9 : 0 ≤ sd → 0 ≤ sf := fun q => (hR.2.2.2.2.2.2.2.2 q).1
  refine sp_X11_stand hx3 hbk hR h_t h_o (fun hno => ?_) (fun w' hok hbk' ef => ?_)
  · exact h.qq hQ hIn (fun _ _ => rfl) (fun hra' hrr' Q2 hQ2 => by obtain ⟨ld, tt, tr, L, H, fi, ch, hrf, -, -, hre1, hre2⟩ := hrr'.op; obtain ⟨h97, h98, h99, h100, h106, h107⟩ := hra'; exact sp_X12_stand hrf hR.2.2.2.1 hR.2.2.2.2.1 h9 h_t h_o (fun _ => hQ2 w ⟨h97, h98, h99, h100, h106, h107⟩ hrr' (fun _ _ => rfl)) (fun _ q => absurd q hno))
  · exact h.bb hQ hi hbk' (by omega) ⟨hR.1, hR.2.1, hR.2.2.1, by omega, by omega, hR.2.2.2.2.2.1, hR.2.2.2.2.2.2.1, hR.2.2.2.2.2.2.2.1, fun q => by omega⟩ hz hK (hTe.fr (fun k p1 p2 => ef k (by omega))) hc hsg hru (fun k hk => ef k (by omega)) (fun hra' hrr' Q2 hQ2 => by obtain ⟨ld, tt, tr, L, H, fi, ch, hrf, -, -, hre1, hre2⟩ := hrr'.op; obtain ⟨h97, h98, h99, h100, h106, h107⟩ := hra'; exact sp_X12_stand hrf hR.2.2.2.1 hR.2.2.2.2.1 h9 h_t h_o (fun q => absurd hok q) (fun w2 _ hrf2 ef2 => hQ2 w2 ⟨(ef2 _ (by omega)).trans h97, (ef2 _ (by omega)).trans h98, (ef2 _ (by omega)).trans h99, (ef2 _ (by omega)).trans h100, (ef2 _ (by omega)).trans h106, (ef2 _ (by omega)).trans h107⟩ (hre2 w2 _ _ _ _ _ _ _ _ hrf2 (fun k k1 k2 => ef2 k (by omega))) (fun k hk => ef2 k (by omega))))
theorem st_say {v : Int} (hJ : wb_I w i) (hi : i ≤ 1000) (h_v : -2147483648 ≤ v ∧ v ≤ 2147483647) (hQ : ∀ (w' : wb_W) (r : Int), (∃ fs, w' 96 = .inr (12, fs)) → (∀ Q2 : Option Value → Nat → wb_W → Prop, (∀ w2, wb_I w2 (i + 7) → Q2 (some (.int (wb_i r))) N w2) → wb_M G M_X12_say [.ref 96, .int (wb_i v)] N w' Q2) → Q (some (.int (wb_i r))) N w') : wb_M G M_X11_say [.ref 3, .int (wb_i v)] N w Q := by
  obtain ⟨n, c, s, sd, sf, tu, g, wt, sg, cnt, rs, ru, im, fz, h⟩ := hJ
  have h' := h
  obtain ⟨hx3, hbk, hK, hIn, hR, hz, htu, hTe, hc, hsg, him, hfz, hP0, hP1, hra, hrr, hru⟩ := h'
  obtain ⟨tp, tq, bl, bh, wa, re, nu, g2, htx, hm2, hwa⟩ := id hTe
  refine sp_X11_say hx3 htx hc h_v (fun hno => ?_) (fun hok h50 => ?_) (fun w' hok hlt htx' ef => ?_)
  · exact h.qq hQ hIn (fun _ _ => rfl) (fun hra' hrr' Q2 hQ2 => by obtain ⟨ld, tt, tr, L, H, fi, ch, hrf, -, -, hre1, hre2⟩ := hrr'.op; obtain ⟨h97, h98, h99, h100, h106, h107⟩ := hra'; exact sp_X12_say hrf h99 hc h_v (fun _ => hQ2 w ⟨h97, h98, h99, h100, h106, h107⟩ hrr' (fun _ _ => rfl)) (fun q => absurd q hno) (fun _ q => absurd q hno))
  · exact h.qq hQ hIn (fun _ _ => rfl) (fun hra' hrr' Q2 hQ2 => by obtain ⟨ld, tt, tr, L, H, fi, ch, hrf, -, -, hre1, hre2⟩ := hrr'.op; obtain ⟨h97, h98, h99, h100, h106, h107⟩ := hra'; exact sp_X12_say hrf h99 hc h_v (fun q => absurd hok q) (fun _ _ => hQ2 w ⟨h97, h98, h99, h100, h106, h107⟩ hrr' (fun _ _ => rfl)) (fun _ _ q => by omega))
  · exact h.gg hQ (hbk.fr (fun k p1 p2 => ef k (by omega) (by omega))) (by omega) hR hz hK (hIn.fr (fun k p1 p2 => ef k (by omega) (by omega))) ⟨_, _, _, _, _, _, _, g2, htx', hm2.fr (fun k p1 p2 => ef k (by omega) (by omega)), hwa⟩ (by omega) (fun k k1 k2 => by (by_cases e : k = cnt; (rw [e, wb_us]; exact hok); (rw [wb_un e]; exact hsg k k1 (by omega)))) hru (fun k hk => ef k (by omega) (by omega)) (fun hra' hrr' Q2 hQ2 => by obtain ⟨ld, tt, tr, L, H, fi, ch, hrf, -, -, hre1, hre2⟩ := hrr'.op; obtain ⟨h97, h98, h99, h100, h106, h107⟩ := hra'; exact sp_X12_say hrf h99 hc h_v (fun q => absurd hok q) (fun _ q => by omega) (fun w2 _ _ hrf2 h992 ef2 => hQ2 w2 ⟨(ef2 _ (by omega) (by omega)).trans h97, (ef2 _ (by omega) (by omega)).trans h98, h992, (ef2 _ (by omega) (by omega)).trans h100, (ef2 _ (by omega) (by omega)).trans h106, (ef2 _ (by omega) (by omega)).trans h107⟩ (hre1 w2 _ _ _ hrf2 (fun k k1 k2 => ef2 k (by omega) (by omega))) (fun k hk => ef2 k (by omega) (by omega))))
theorem st_wipe (hJ : wb_I w i) (hi : i ≤ 1000)  (hQ : ∀ (w' : wb_W) (r : Int), (∃ fs, w' 96 = .inr (12, fs)) → (∀ Q2 : Option Value → Nat → wb_W → Prop, (∀ w2, wb_I w2 (i + 7) → Q2 (some (.int (wb_i r))) N w2) → wb_M G M_X12_wipe [.ref 96] N w' Q2) → Q (some (.int (wb_i r))) N w') : wb_M G M_X11_wipe [.ref 3] N w Q := by
  obtain ⟨n, c, s, sd, sf, tu, g, wt, sg, cnt, rs, ru, im, fz, h⟩ := hJ
  have h' := h
  obtain ⟨hx3, hbk, hK, hIn, hR, hz, htu, hTe, hc, hsg, him, hfz, hP0, hP1, hra, hrr, hru⟩ := h'
  obtain ⟨tp, tq, bl, bh, wa, re, nu, g2, htx, hm2, hwa⟩ := id hTe
  refine sp_X11_wipe hx3 htx (fun w' htx' ef => ?_)
  exact h.gg hQ (hbk.fr (fun k p1 p2 => ef k (by omega))) (by omega) hR hz hK (hIn.fr (fun k p1 p2 => ef k (by omega))) ⟨_, _, _, _, _, _, _, g2, htx', hm2.fr (fun k p1 p2 => ef k (by omega)), hwa⟩ (by omega) (fun k k1 k2 => by omega) hru (fun k hk => ef k (by omega)) (fun hra' hrr' Q2 hQ2 => by obtain ⟨ld, tt, tr, L, H, fi, ch, hrf, -, -, hre1, hre2⟩ := hrr'.op; obtain ⟨h97, h98, h99, h100, h106, h107⟩ := hra'; exact sp_X12_wipe hrf (fun w2 hrf2 ef2 => hQ2 w2 ⟨(ef2 _ (by omega)).trans h97, (ef2 _ (by omega)).trans h98, (ef2 _ (by omega)).trans h99, (ef2 _ (by omega)).trans h100, (ef2 _ (by omega)).trans h106, (ef2 _ (by omega)).trans h107⟩ (hre1 w2 _ _ _ hrf2 (fun k k1 k2 => ef2 k (by omega))) (fun k hk => ef2 k (by omega))))
theorem st_fault (hJ : wb_I w i) (hi : i ≤ 1000)  (hQ : ∀ (w' : wb_W) (r : Int), (∃ fs, w' 96 = .inr (12, fs)) → (∀ Q2 : Option Value → Nat → wb_W → Prop, (∀ w2, wb_I w2 (i + 7) → Q2 (some (.int (wb_i r))) N w2) → wb_M G M_X12_fault [.ref 96] N w' Q2) → Q (some (.int (wb_i r))) N w') : wb_M G M_X11_fault [.ref 3] N w Q := by
  obtain ⟨n, c, s, sd, sf, tu, g, wt, sg, cnt, rs, ru, im, fz, h⟩ := hJ
  have h' := h
  obtain ⟨hx3, hbk, hK, hIn, hR, hz, htu, hTe, hc, hsg, him, hfz, hP0, hP1, hra, hrr, hru⟩ := h'
  obtain ⟨tp, tq, bl, bh, wa, re, nu, g2, htx, hm2, hwa⟩ := id hTe
  exact sp_X11_fault hx3 htx hc hsg (h.qq hQ hIn (fun _ _ => rfl) (fun hra' hrr' Q2 hQ2 => by obtain ⟨ld, tt, tr, L, H, fi, ch, hrf, -, -, hre1, hre2⟩ := hrr'.op; obtain ⟨h97, h98, h99, h100, h106, h107⟩ := hra'; exact sp_X12_fault hrf h99 hc hsg (hQ2 w ⟨h97, h98, h99, h100, h106, h107⟩ hrr' (fun _ _ => rfl))))
theorem st_rule (hJ : wb_I w i) (hi : i ≤ 1000)  (hQ : ∀ (w' : wb_W) (r : Int), (∃ fs, w' 96 = .inr (12, fs)) → (∀ Q2 : Option Value → Nat → wb_W → Prop, (∀ w2, wb_I w2 (i + 7) → Q2 (some (.int (wb_i r))) N w2) → wb_M G M_X12_rule [.ref 96] N w' Q2) → Q (some (.int (wb_i r))) N w') : wb_M G M_X11_rule [.ref 3] N w Q := by
  obtain ⟨n, c, s, sd, sf, tu, g, wt, sg, cnt, rs, ru, im, fz, h⟩ := hJ
  have h' := h
  obtain ⟨hx3, hbk, hK, hIn, hR, hz, htu, hTe, hc, hsg, him, hfz, hP0, hP1, hra, hrr, hru⟩ := h'
  obtain ⟨tp, tq, bl, bh, wa, re, nu, g2, htx, hm2, hwa⟩ := id hTe
  refine sp_X11_rule hx3 hbk htx hm2 hc hsg hwa (fun hno => ?_) (fun w' g' g2' tp' tq' bl' bh' wa' re' hfa hrp hbk' htx' hm2' hwa' ef => ?_)
  · exact h.qq hQ hIn (fun _ _ => rfl) (fun hra' hrr' Q2 hQ2 => by obtain ⟨ld, tt, tr, L, H, fi, ch, hrf, -, -, hre1, hre2⟩ := hrr'.op; obtain ⟨h97, h98, h99, h100, h106, h107⟩ := hra'; exact sp_X12_rule hrf h99 h100 hc hsg (fun _ => hQ2 w ⟨h97, h98, h99, h100, h106, h107⟩ hrr' (fun _ _ => rfl)) (fun _ q => absurd q hno))
  · have hpos := wb_fa_pos hc.1 hfa
    have ers : ∀ j, 0 ≤ j → j < cnt → (fun j => if 0 ≤ j ∧ j < cnt then sg j else rs j) j = sg j := fun j j1 j2 => if_pos ⟨j1, j2⟩
    have ebo : (1 + wb_br1 sg cnt.toNat : Int) = wb_bo1 (fun j => if 0 ≤ j ∧ j < cnt then sg j else rs j) cnt := by
      rw [wb_bo1_congr ers]; unfold wb_bo1; rw [if_pos hpos]
    have ebo2 : (1 + wb_br1 sg cnt.toNat : Int) = wb_bo1 sg cnt := by unfold wb_bo1; rw [if_pos hpos]
    have ekk : ∀ x, wb_kp sg cnt x = wb_KK (fun j => if 0 ≤ j ∧ j < cnt then sg j else rs j) cnt x := fun x => by
      unfold wb_KK wb_kp; rw [if_neg (by omega), wb_fo_congr (sg := sg) cnt.toNat (fun j j1 j2 => ers j j1 (by omega))]
    have hru2 : wb_RuO (fun j => if 0 ≤ j ∧ j < cnt then sg j else rs j) cnt := ⟨hc, fun j j1 j2 => by rw [ers j j1 j2]; exact hsg j j1 j2, Or.inr (by unfold wb_fa at hfa ⊢; rw [wb_ff_congr cnt.toNat 0 0 (by omega) (by omega) ers]; exact hfa)⟩
    have hz2 : wb_Zo c s (fun j => if 0 ≤ j ∧ j < cnt then sg j else rs j) := ⟨hz.1, hz.2.1, fun p hp => by dsimp only; rw [if_neg (by omega)]; exact hz.2.2 p hp⟩
    rw [ebo] at hbk'
    exact h.bb hQ hi hbk' (by omega) hR hz2 (hrp.to (fun x _ _ => ekk x)) ⟨_, _, _, _, _, _, _, _, htx', hm2', hwa'⟩ (by omega) (fun k k1 k2 => by omega) hru2 (fun k hk => ef k (by omega)) (fun hra' hrr' Q2 hQ2 => by obtain ⟨ld, tt, tr, L, H, fi, ch, hrf, -, -, hre1, hre2⟩ := hrr'.op; obtain ⟨h97, h98, h99, h100, h106, h107⟩ := hra'; rw [ebo2] at hQ2; exact sp_X12_rule hrf h99 h100 hc hsg (fun q => absurd hfa q) (fun w2 _ hrf2 h1002 ef2 => hQ2 w2 ⟨(ef2 _ (by omega) (by omega)).trans h97, (ef2 _ (by omega) (by omega)).trans h98, (ef2 _ (by omega) (by omega)).trans h99, h1002, (ef2 _ (by omega) (by omega)).trans h106, (ef2 _ (by omega) (by omega)).trans h107⟩ (hre2 w2 _ _ _ _ _ _ _ _ hrf2 (fun k k1 k2 => ef2 k (by omega) (by omega))) (fun k hk => ef2 k (by omega) (by omega))))
theorem st_free (hJ : wb_I w i) (hi : i ≤ 1000)  (hQ : ∀ (w' : wb_W) (r : Int), (∃ fs, w' 96 = .inr (12, fs)) → (∀ Q2 : Option Value → Nat → wb_W → Prop, (∀ w2, wb_I w2 (i + 7) → Q2 (some (.int (wb_i r))) N w2) → wb_M G M_X12_free [.ref 96] N w' Q2) → Q (some (.int (wb_i r))) N w') : wb_M G M_X11_free [.ref 3] N w Q := by
  obtain ⟨n, c, s, sd, sf, tu, g, wt, sg, cnt, rs, ru, im, fz, h⟩ := hJ
  have h' := h
  obtain ⟨hx3, hbk, hK, hIn, hR, hz, htu, hTe, hc, hsg, him, hfz, hP0, hP1, hra, hrr, hru⟩ := h'
  refine sp_X11_free hx3 hbk (fun w' g' hrp hbk' ef => ?_)
  exact h.bb hQ hi (rs' := rs) (ru' := 0) hbk' (by omega) hR hz (hrp.to (fun x _ _ => rfl)) (hTe.fr (fun k p1 p2 => ef k (by omega))) hc hsg ⟨by omega, fun k k1 k2 => by omega, Or.inl rfl⟩ (fun k hk => ef k (by omega)) (fun hra' hrr' Q2 hQ2 => by obtain ⟨ld, tt, tr, L, H, fi, ch, hrf, -, -, hre1, hre2⟩ := hrr'.op; obtain ⟨h97, h98, h99, h100, h106, h107⟩ := hra'; exact sp_X12_free hrf h100 hru.1 hru.2.1 (fun w2 hrf2 ef2 => hQ2 w2 ⟨(ef2 _ (by omega)).trans h97, (ef2 _ (by omega)).trans h98, (ef2 _ (by omega)).trans h99, (ef2 _ (by omega)).trans h100, (ef2 _ (by omega)).trans h106, (ef2 _ (by omega)).trans h107⟩ (hre2 w2 _ _ _ _ _ _ _ _ hrf2 (fun k k1 k2 => ef2 k (by omega))) (fun k hk => ef2 k (by omega))))
theorem st_fits {x u : Int} (hJ : wb_I w i) (hi : i ≤ 1000) (h_x : -2147483648 ≤ x ∧ x ≤ 2147483647) (h_u : -2147483648 ≤ u ∧ u ≤ 2147483647) (hQ : ∀ (w' : wb_W) (r : Int), (∃ fs, w' 96 = .inr (12, fs)) → (∀ Q2 : Option Value → Nat → wb_W → Prop, (∀ w2, wb_I w2 (i + 7) → Q2 (some (.int (wb_i r))) N w2) → wb_M G M_X12_fits [.ref 96, .int (wb_i x), .int (wb_i u)] N w' Q2) → Q (some (.int (wb_i r))) N w') : wb_M G M_X11_fits [.ref 3, .int (wb_i x), .int (wb_i u)] N w Q := by
  obtain ⟨n, c, s, sd, sf, tu, g, wt, sg, cnt, rs, ru, im, fz, h⟩ := hJ
  have h' := h
  obtain ⟨hx3, hbk, hK, hIn, hR, hz, htu, hTe, hc, hsg, him, hfz, hP0, hP1, hra, hrr, hru⟩ := h'
  refine sp_X11_fits hx3 hbk hR hK hIn h_x h_u (fun w' r hD hIn' ef => ?_)
  exact h.qq hQ hIn' ef (fun hra' hrr' Q2 hQ2 => sp_X12_fits hra' hrr' hR hru h_x h_u hD (fun w2 hrr2 ef2 => hQ2 w2 (hra'.fr (fun k hk => ef2 k (by omega))) hrr2 (fun k hk => ef2 k (by omega))))
theorem st_needs {x m t : Int} (hJ : wb_I w i) (hi : i ≤ 1000) (h_x : -2147483648 ≤ x ∧ x ≤ 2147483647) (h_m : -2147483648 ≤ m ∧ m ≤ 2147483647) (h_t : -2147483648 ≤ t ∧ t ≤ 2147483647) (hQ : ∀ (w' : wb_W) (r : Int), (∃ fs, w' 96 = .inr (12, fs)) → (∀ Q2 : Option Value → Nat → wb_W → Prop, (∀ w2, wb_I w2 (i + 7) → Q2 (some (.int (wb_i r))) N w2) → wb_M G M_X12_needs [.ref 96, .int (wb_i x), .int (wb_i m), .int (wb_i t)] N w' Q2) → Q (some (.int (wb_i r))) N w') : wb_M G M_X11_needs [.ref 3, .int (wb_i x), .int (wb_i m), .int (wb_i t)] N w Q := by
  obtain ⟨n, c, s, sd, sf, tu, g, wt, sg, cnt, rs, ru, im, fz, h⟩ := hJ
  have h' := h
  obtain ⟨hx3, hbk, hK, hIn, hR, hz, htu, hTe, hc, hsg, him, hfz, hP0, hP1, hra, hrr, hru⟩ := h'
  exact sp_X11_needs hx3 hbk hR h_x h_m h_t (h.qq hQ hIn (fun _ _ => rfl) (fun hra' hrr' Q2 hQ2 => sp_X12_needs hra' hrr' hR h_x h_m h_t (hQ2 w hra' hrr' (fun _ _ => rfl))))
theorem st_judge {x u : Int} (hJ : wb_I w i) (hi : i ≤ 1000) (h_x : -2147483648 ≤ x ∧ x ≤ 2147483647) (h_u : -2147483648 ≤ u ∧ u ≤ 2147483647) (hQ : ∀ (w' : wb_W) (r : Int), (∃ fs, w' 96 = .inr (12, fs)) → (∀ Q2 : Option Value → Nat → wb_W → Prop, (∀ w2, wb_I w2 (i + 7) → Q2 (some (.int (wb_i r))) N w2) → wb_M G M_X12_judge [.ref 96, .int (wb_i x), .int (wb_i u)] N w' Q2) → Q (some (.int (wb_i r))) N w') : wb_M G M_X11_judge [.ref 3, .int (wb_i x), .int (wb_i u)] N w Q := by
  obtain ⟨n, c, s, sd, sf, tu, g, wt, sg, cnt, rs, ru, im, fz, h⟩ := hJ
  have h' := h
  obtain ⟨hx3, hbk, hK, hIn, hR, hz, htu, hTe, hc, hsg, him, hfz, hP0, hP1, hra, hrr, hru⟩ := h'
  exact sp_X11_judge hx3 hbk hR hIn h_x h_u (fun w' hIn' ef => h.qq hQ hIn' ef (fun hra' hrr' Q2 hQ2 => sp_X12_judge hra' hrr' hR h_x h_u (fun w2 hrr2 ef2 => hQ2 w2 (hra'.fr (fun k hk => ef2 k (by omega))) hrr2 (fun k hk => ef2 k (by omega)))))
theorem st_lies {x t m e : Int} (hJ : wb_I w i) (hi : i ≤ 1000) (h_x : -2147483648 ≤ x ∧ x ≤ 2147483647) (h_t : -2147483648 ≤ t ∧ t ≤ 2147483647) (h_m : -2147483648 ≤ m ∧ m ≤ 2147483647) (h_e : -2147483648 ≤ e ∧ e ≤ 2147483647) (hQ : ∀ (w' : wb_W) (r : Int), (∃ fs, w' 96 = .inr (12, fs)) → (∀ Q2 : Option Value → Nat → wb_W → Prop, (∀ w2, wb_I w2 (i + 7) → Q2 (some (.int (wb_i r))) N w2) → wb_M G M_X12_lies [.ref 96, .int (wb_i x), .int (wb_i t), .int (wb_i m), .int (wb_i e)] N w' Q2) → Q (some (.int (wb_i r))) N w') : wb_M G M_X11_lies [.ref 3, .int (wb_i x), .int (wb_i t), .int (wb_i m), .int (wb_i e)] N w Q := by
  obtain ⟨n, c, s, sd, sf, tu, g, wt, sg, cnt, rs, ru, im, fz, h⟩ := hJ
  have h' := h
  obtain ⟨hx3, hbk, hK, hIn, hR, hz, htu, hTe, hc, hsg, him, hfz, hP0, hP1, hra, hrr, hru⟩ := h'
  exact sp_X11_lies hx3 hbk hR hIn h_x h_t h_m h_e (fun w' hIn' ef => h.qq hQ hIn' ef (fun hra' hrr' Q2 hQ2 => sp_X12_lies hra' hrr' hR h_x h_t h_m h_e (fun w2 hrr2 ef2 => hQ2 w2 (hra'.fr (fun k hk => ef2 k (by omega))) hrr2 (fun k hk => ef2 k (by omega)))))
theorem st_all {j : Int} (hJ : wb_I w i) (hi : i ≤ 1000) (h_j : -2147483648 ≤ j ∧ j ≤ 2147483647) (hQ : ∀ (w' : wb_W) (r : Int), (∃ fs, w' 96 = .inr (12, fs)) → (∀ Q2 : Option Value → Nat → wb_W → Prop, (∀ w2, wb_I w2 (i + 7) → Q2 (some (.int (wb_i r))) N w2) → wb_M G M_X12_all [.ref 96, .int (wb_i j)] N w' Q2) → Q (some (.int (wb_i r))) N w') : wb_M G M_X11_all [.ref 3, .int (wb_i j)] N w Q := by
  obtain ⟨n, c, s, sd, sf, tu, g, wt, sg, cnt, rs, ru, im, fz, h⟩ := hJ
  have h' := h
  obtain ⟨hx3, hbk, hK, hIn, hR, hz, htu, hTe, hc, hsg, him, hfz, hP0, hP1, hra, hrr, hru⟩ := h'
  exact sp_X11_all hx3 hbk hR hK htu.1 hIn h_j (fun w' hIn' ef => h.qq hQ hIn' ef (fun hra' hrr' Q2 hQ2 => sp_X12_all hra' hrr' hR hru h_j rfl hQ2))
theorem st_ends {v t e : Int} (hJ : wb_I w i) (hi : i ≤ 1000) (h_v : -2147483648 ≤ v ∧ v ≤ 2147483647) (h_t : -2147483648 ≤ t ∧ t ≤ 2147483647) (h_e : -2147483648 ≤ e ∧ e ≤ 2147483647) (hQ : ∀ (w' : wb_W) (r : Int), (∃ fs, w' 96 = .inr (12, fs)) → (∀ Q2 : Option Value → Nat → wb_W → Prop, (∀ w2, wb_I w2 (i + 7) → Q2 (some (.int (wb_i r))) N w2) → wb_M G M_X12_ends [.ref 96, .int (wb_i v), .int (wb_i t), .int (wb_i e)] N w' Q2) → Q (some (.int (wb_i r))) N w') : wb_M G M_X11_ends [.ref 3, .int (wb_i v), .int (wb_i t), .int (wb_i e)] N w Q := by
  obtain ⟨n, c, s, sd, sf, tu, g, wt, sg, cnt, rs, ru, im, fz, h⟩ := hJ
  have h' := h
  obtain ⟨hx3, hbk, hK, hIn, hR, hz, htu, hTe, hc, hsg, him, hfz, hP0, hP1, hra, hrr, hru⟩ := h'
  refine sp_X11_ends hx3 hbk hR hK htu.1 hIn h_v h_t h_e (fun hno => ?_) (fun hv hno => ?_) (fun w' r hv he hab hIn' ef => ?_)
  · exact h.qq hQ hIn (fun _ _ => rfl) (fun hra' hrr' Q2 hQ2 => sp_X12_ends hra' hrr' hR hru h_v h_t h_e (Or.inl ⟨hno, rfl⟩) hQ2)
  · exact h.qq hQ hIn (fun _ _ => rfl) (fun hra' hrr' Q2 hQ2 => sp_X12_ends hra' hrr' hR hru h_v h_t h_e (Or.inr (Or.inl ⟨hv, hno, rfl⟩)) hQ2)
  · exact h.qq hQ hIn' ef (fun hra' hrr' Q2 hQ2 => sp_X12_ends hra' hrr' hR hru h_v h_t h_e (Or.inr (Or.inr ⟨hv, he, hab⟩)) hQ2)
theorem st_must {u : Int} (hJ : wb_I w i) (hi : i ≤ 1000) (h_u : -2147483648 ≤ u ∧ u ≤ 2147483647) (hQ : ∀ (w' : wb_W) (r : Int), (∃ fs, w' 96 = .inr (12, fs)) → (∀ Q2 : Option Value → Nat → wb_W → Prop, (∀ w2, wb_I w2 (i + 7) → Q2 (some (.int (wb_i r))) N w2) → wb_M G M_X12_must [.ref 96, .int (wb_i u)] N w' Q2) → Q (some (.int (wb_i r))) N w') : wb_M G M_X11_must [.ref 3, .int (wb_i u)] N w Q := by
  obtain ⟨n, c, s, sd, sf, tu, g, wt, sg, cnt, rs, ru, im, fz, h⟩ := hJ
  have h' := h
  obtain ⟨hx3, hbk, hK, hIn, hR, hz, htu, hTe, hc, hsg, him, hfz, hP0, hP1, hra, hrr, hru⟩ := h'
  refine sp_X11_must hx3 hbk hR hK htu.1 hIn h_u (fun hno => ?_) (fun w' hu hF hIn' ef => ?_) (fun w' r hu hF hmu hIn' ef => ?_)
  · exact h.qq hQ hIn (fun _ _ => rfl) (fun hra' hrr' Q2 hQ2 => sp_X12_must hra' hrr' hR hru h_u (Or.inl ⟨hno, rfl⟩) hQ2)
  · exact h.qq hQ hIn' ef (fun hra' hrr' Q2 hQ2 => sp_X12_must hra' hrr' hR hru h_u (Or.inr (Or.inl ⟨hu, hF, rfl⟩)) hQ2)
  · exact h.qq hQ hIn' ef (fun hra' hrr' Q2 hQ2 => sp_X12_must hra' hrr' hR hru h_u (Or.inr (Or.inr ⟨hu, hF, hmu⟩)) hQ2)
theorem st_plain {u : Int} (hJ : wb_I w i) (hi : i ≤ 1000) (h_u : -2147483648 ≤ u ∧ u ≤ 2147483647) (hQ : ∀ (w' : wb_W) (r : Int), (∃ fs, w' 96 = .inr (12, fs)) → (∀ Q2 : Option Value → Nat → wb_W → Prop, (∀ w2, wb_I w2 (i + 7) → Q2 (some (.int (wb_i r))) N w2) → wb_M G M_X12_plain [.ref 96, .int (wb_i u)] N w' Q2) → Q (some (.int (wb_i r))) N w') : wb_M G M_X11_plain [.ref 3, .int (wb_i u)] N w Q := by
  obtain ⟨n, c, s, sd, sf, tu, g, wt, sg, cnt, rs, ru, im, fz, h⟩ := hJ
  have h' := h
  obtain ⟨hx3, hbk, hK, hIn, hR, hz, htu, hTe, hc, hsg, him, hfz, hP0, hP1, hra, hrr, hru⟩ := h'
  refine sp_X11_plain hx3 hbk hR hK htu.1 hIn h_u (fun hno => ?_) (fun w' p hu hpl hIn' ef => ?_)
  · exact h.qq hQ hIn (fun _ _ => rfl) (fun hra' hrr' Q2 hQ2 => sp_X12_plain (p := 0) hra' hrr' hR hru h_u (Or.inl ⟨hno, rfl⟩) hQ2)
  · exact h.qq hQ hIn' ef (fun hra' hrr' Q2 hQ2 => sp_X12_plain hra' hrr' hR hru h_u (Or.inr ⟨hu, hpl, rfl⟩) hQ2)
theorem st_near {u : Int} (hJ : wb_I w i) (hi : i ≤ 1000) (h_u : -2147483648 ≤ u ∧ u ≤ 2147483647) (hQ : ∀ (w' : wb_W) (r : Int), (∃ fs, w' 96 = .inr (12, fs)) → (∀ Q2 : Option Value → Nat → wb_W → Prop, (∀ w2, wb_I w2 (i + 7) → Q2 (some (.int (wb_i r))) N w2) → wb_M G M_X12_near [.ref 96, .int (wb_i u)] N w' Q2) → Q (some (.int (wb_i r))) N w') : wb_M G M_X11_near [.ref 3, .int (wb_i u)] N w Q := by
  obtain ⟨n, c, s, sd, sf, tu, g, wt, sg, cnt, rs, ru, im, fz, h⟩ := hJ
  have h' := h
  obtain ⟨hx3, hbk, hK, hIn, hR, hz, htu, hTe, hc, hsg, him, hfz, hP0, hP1, hra, hrr, hru⟩ := h'
  refine sp_X11_near hx3 hbk hR hK htu.1 hIn h_u (fun hno => ?_) (fun w' nb nf hu hnr hIn' ef => ?_)
  · exact h.qq hQ hIn (fun _ _ => rfl) (fun hra' hrr' Q2 hQ2 => sp_X12_near (nb := 0) (nf := 0) hra' hrr' hR hru h_u (Or.inl ⟨hno, rfl⟩) hQ2)
  · exact h.qq hQ hIn' ef (fun hra' hrr' Q2 hQ2 => sp_X12_near hra' hrr' hR hru h_u (Or.inr ⟨hu, hnr, rfl⟩) hQ2)
theorem st_doubt {u : Int} (hJ : wb_I w i) (hi : i ≤ 1000) (h_u : -2147483648 ≤ u ∧ u ≤ 2147483647) (hQ : ∀ (w' : wb_W) (r : Int), (∃ fs, w' 96 = .inr (12, fs)) → (∀ Q2 : Option Value → Nat → wb_W → Prop, (∀ w2, wb_I w2 (i + 7) → Q2 (some (.int (wb_i r))) N w2) → wb_M G M_X12_doubt [.ref 96, .int (wb_i u)] N w' Q2) → Q (some (.int (wb_i r))) N w') : wb_M G M_X11_doubt [.ref 3, .int (wb_i u)] N w Q := by
  obtain ⟨n, c, s, sd, sf, tu, g, wt, sg, cnt, rs, ru, im, fz, h⟩ := hJ
  have h' := h
  obtain ⟨hx3, hbk, hK, hIn, hR, hz, htu, hTe, hc, hsg, him, hfz, hP0, hP1, hra, hrr, hru⟩ := h'
  refine sp_X11_doubt hx3 hbk hR hK htu.1 hIn h_u (fun hno => ?_) (fun w' nb nf hu hnr hIn' ef => ?_)
  · exact h.qq hQ hIn (fun _ _ => rfl) (fun hra' hrr' Q2 hQ2 => sp_X12_doubt (nb := 0) (nf := 0) hra' hrr' hR hru h_u (Or.inl ⟨hno, rfl⟩) hQ2)
  · exact h.qq hQ hIn' ef (fun hra' hrr' Q2 hQ2 => sp_X12_doubt hra' hrr' hR hru h_u (Or.inr ⟨hu, hnr, rfl⟩) hQ2)
theorem st_changed {u : Int} (hJ : wb_I w i) (hi : i ≤ 1000) (h_u : -2147483648 ≤ u ∧ u ≤ 2147483647) (hQ : ∀ (w' : wb_W) (r : Int), (∃ fs, w' 96 = .inr (12, fs)) → (∀ Q2 : Option Value → Nat → wb_W → Prop, (∀ w2, wb_I w2 (i + 7) → Q2 (some (.int (wb_i r))) N w2) → wb_M G M_X12_changed [.ref 96, .int (wb_i u)] N w' Q2) → Q (some (.int (wb_i r))) N w') : wb_M G M_X11_changed [.ref 3, .int (wb_i u)] N w Q := by
  obtain ⟨n, c, s, sd, sf, tu, g, wt, sg, cnt, rs, ru, im, fz, h⟩ := hJ
  have h' := h
  obtain ⟨hx3, hbk, hK, hIn, hR, hz, htu, hTe, hc, hsg, him, hfz, hP0, hP1, hra, hrr, hru⟩ := h'
  refine sp_X11_changed hx3 hbk hR hK htu.1 hIn h_u (fun hno => ?_) (fun w' hu hF hIn' ef => ?_) (fun w' hl mo th be bh hu hF hHL hcg hIn' ef => ?_)
  · exact h.qq hQ hIn (fun _ _ => rfl) (fun hra' hrr' Q2 hQ2 => sp_X12_changed (hl := 0) (mo := 0) (th := 0) (be := 0) (bh := 0) hra' hrr' hR hru h_u (Or.inl ⟨hno, rfl⟩) hQ2)
  · exact h.qq hQ hIn' ef (fun hra' hrr' Q2 hQ2 => sp_X12_changed (hl := 0) (mo := 0) (th := 0) (be := 0) (bh := 0) hra' hrr' hR hru h_u (Or.inr (Or.inl ⟨hu, hF, rfl⟩)) hQ2)
  · exact h.qq hQ hIn' ef (fun hra' hrr' Q2 hQ2 => sp_X12_changed hra' hrr' hR hru h_u (Or.inr (Or.inr ⟨hu, hF, hHL, hcg, rfl⟩)) hQ2)
theorem st_cost {x v m : Int} (hJ : wb_I w i) (hi : i ≤ 1000) (h_x : -2147483648 ≤ x ∧ x ≤ 2147483647) (h_v : -2147483648 ≤ v ∧ v ≤ 2147483647) (h_m : -2147483648 ≤ m ∧ m ≤ 2147483647) (hQ : ∀ (w' : wb_W) (r : Int), (∃ fs, w' 96 = .inr (12, fs)) → (∀ Q2 : Option Value → Nat → wb_W → Prop, (∀ w2, wb_I w2 (i + 7) → Q2 (some (.int (wb_i r))) N w2) → wb_M G M_X12_cost [.ref 96, .int (wb_i x), .int (wb_i v), .int (wb_i m)] N w' Q2) → Q (some (.int (wb_i r))) N w') : wb_M G M_X11_cost [.ref 3, .int (wb_i x), .int (wb_i v), .int (wb_i m)] N w Q := by
  obtain ⟨n, c, s, sd, sf, tu, g, wt, sg, cnt, rs, ru, im, fz, h⟩ := hJ
  have h' := h
  obtain ⟨hx3, hbk, hK, hIn, hR, hz, htu, hTe, hc, hsg, him, hfz, hP0, hP1, hra, hrr, hru⟩ := h'
  exact sp_X11_cost hx3 hbk hR h_x h_v h_m (h.qq hQ hIn (fun _ _ => rfl) (fun hra' hrr' Q2 hQ2 => sp_X12_cost hra' hrr' hR h_x h_v h_m (hQ2 w hra' hrr' (fun _ _ => rfl))))
theorem st_costs {v m e : Int} (hJ : wb_I w i) (hi : i ≤ 1000) (h_v : -2147483648 ≤ v ∧ v ≤ 2147483647) (h_m : -2147483648 ≤ m ∧ m ≤ 2147483647) (h_e : -2147483648 ≤ e ∧ e ≤ 2147483647) (hQ : ∀ (w' : wb_W) (r : Int), (∃ fs, w' 96 = .inr (12, fs)) → (∀ Q2 : Option Value → Nat → wb_W → Prop, (∀ w2, wb_I w2 (i + 7) → Q2 (some (.int (wb_i r))) N w2) → wb_M G M_X12_costs [.ref 96, .int (wb_i v), .int (wb_i m), .int (wb_i e)] N w' Q2) → Q (some (.int (wb_i r))) N w') : wb_M G M_X11_costs [.ref 3, .int (wb_i v), .int (wb_i m), .int (wb_i e)] N w Q := by
  obtain ⟨n, c, s, sd, sf, tu, g, wt, sg, cnt, rs, ru, im, fz, h⟩ := hJ
  have h' := h
  obtain ⟨hx3, hbk, hK, hIn, hR, hz, htu, hTe, hc, hsg, him, hfz, hP0, hP1, hra, hrr, hru⟩ := h'
  refine sp_X11_costs hx3 hbk hR hK htu.1 hIn h_v h_m h_e (fun hno => ?_) (fun hv hno => ?_) (fun w' r hv he hab hIn' ef => ?_)
  · exact h.qq hQ hIn (fun _ _ => rfl) (fun hra' hrr' Q2 hQ2 => sp_X12_costs hra' hrr' hR hru h_v h_m h_e (Or.inl ⟨hno, rfl⟩) hQ2)
  · exact h.qq hQ hIn (fun _ _ => rfl) (fun hra' hrr' Q2 hQ2 => sp_X12_costs hra' hrr' hR hru h_v h_m h_e (Or.inr (Or.inl ⟨hv, hno, rfl⟩)) hQ2)
  · exact h.qq hQ hIn' ef (fun hra' hrr' Q2 hQ2 => sp_X12_costs hra' hrr' hR hru h_v h_m h_e (Or.inr (Or.inr ⟨hv, he, hab⟩)) hQ2)
theorem st_buy {t p q e : Int} (hJ : wb_I w i) (hi : i ≤ 1000) (h_t : -2147483648 ≤ t ∧ t ≤ 2147483647) (h_p : -2147483648 ≤ p ∧ p ≤ 2147483647) (h_q : -2147483648 ≤ q ∧ q ≤ 2147483647) (h_e : -2147483648 ≤ e ∧ e ≤ 2147483647) (hQ : ∀ (w' : wb_W) (r : Int), (∃ fs, w' 96 = .inr (12, fs)) → (∀ Q2 : Option Value → Nat → wb_W → Prop, (∀ w2, wb_I w2 (i + 7) → Q2 (some (.int (wb_i r))) N w2) → wb_M G M_X12_buy [.ref 96, .int (wb_i t), .int (wb_i p), .int (wb_i q), .int (wb_i e)] N w' Q2) → Q (some (.int (wb_i r))) N w') : wb_M G M_X11_buy [.ref 3, .int (wb_i t), .int (wb_i p), .int (wb_i q), .int (wb_i e)] N w Q := by
  obtain ⟨n, c, s, sd, sf, tu, g, wt, sg, cnt, rs, ru, im, fz, h⟩ := hJ
  have h' := h
  obtain ⟨hx3, hbk, hK, hIn, hR, hz, htu, hTe, hc, hsg, him, hfz, hP0, hP1, hra, hrr, hru⟩ := h'
  refine sp_X11_buy hx3 hbk hR hK htu.1 hIn h_t h_p h_q h_e (fun hno => ?_) (fun hv hno => ?_) (fun w' r hv he hab hIn' ef => ?_)
  · exact h.qq hQ hIn (fun _ _ => rfl) (fun hra' hrr' Q2 hQ2 => sp_X12_buy hra' hrr' hR hru h_t h_p h_q h_e (Or.inl ⟨hno, rfl⟩) hQ2)
  · exact h.qq hQ hIn (fun _ _ => rfl) (fun hra' hrr' Q2 hQ2 => sp_X12_buy hra' hrr' hR hru h_t h_p h_q h_e (Or.inr (Or.inl ⟨hv, hno, rfl⟩)) hQ2)
  · exact h.qq hQ hIn' ef (fun hra' hrr' Q2 hQ2 => sp_X12_buy hra' hrr' hR hru h_t h_p h_q h_e (Or.inr (Or.inr ⟨hv, he, hab⟩)) hQ2)
theorem st_settle {u : Int} (hJ : wb_I w i) (hi : i ≤ 1000) (h_u : -2147483648 ≤ u ∧ u ≤ 2147483647) (hQ : ∀ (w' : wb_W) (r : Int), (∃ fs, w' 96 = .inr (12, fs)) → (∀ Q2 : Option Value → Nat → wb_W → Prop, (∀ w2, wb_I w2 (i + 7) → Q2 (some (.int (wb_i r))) N w2) → wb_M G M_X12_settle [.ref 96, .int (wb_i u)] N w' Q2) → Q (some (.int (wb_i r))) N w') : wb_M G M_X11_settle [.ref 3, .int (wb_i u)] N w Q := by
  obtain ⟨n, c, s, sd, sf, tu, g, wt, sg, cnt, rs, ru, im, fz, h⟩ := hJ
  have h' := h
  obtain ⟨hx3, hbk, hK, hIn, hR, hz, htu, hTe, hc, hsg, him, hfz, hP0, hP1, hra, hrr, hru⟩ := h'
  refine sp_X11_settle hx3 hbk hR hK htu.1 hIn h_u (fun hno => ?_) (fun hu h0 => ?_) (fun w' hu hn hF hIn' ef => ?_) (fun w' hl p hu hn hF hHL hsg2 hIn' ef => ?_)
  · exact h.qq hQ hIn (fun _ _ => rfl) (fun hra' hrr' Q2 hQ2 => sp_X12_settle (hl := 0) (p := 0) hra' hrr' hR hru h_u (Or.inl ⟨hno, rfl⟩) hQ2)
  · exact h.qq hQ hIn (fun _ _ => rfl) (fun hra' hrr' Q2 hQ2 => sp_X12_settle (hl := 0) (p := 0) hra' hrr' hR hru h_u (Or.inr (Or.inl ⟨hu, h0, rfl⟩)) hQ2)
  · exact h.qq hQ hIn' ef (fun hra' hrr' Q2 hQ2 => sp_X12_settle (hl := 0) (p := 0) hra' hrr' hR hru h_u (Or.inr (Or.inr (Or.inl ⟨hu, hn, hF, rfl⟩))) hQ2)
  · exact h.qq hQ hIn' ef (fun hra' hrr' Q2 hQ2 => sp_X12_settle hra' hrr' hR hru h_u (Or.inr (Or.inr (Or.inr ⟨hu, hn, hF, hHL, hsg2, rfl⟩))) hQ2)
theorem st_hide {pu u : Int} (hJ : wb_I w i) (hi : i ≤ 1000) (h_pu : -2147483648 ≤ pu ∧ pu ≤ 2147483647) (h_u : -2147483648 ≤ u ∧ u ≤ 2147483647) (hQ : ∀ (w' : wb_W) (r : Int), (∃ fs, w' 96 = .inr (12, fs)) → (∀ Q2 : Option Value → Nat → wb_W → Prop, (∀ w2, wb_I w2 (i + 7) → Q2 (some (.int (wb_i r))) N w2) → wb_M G M_X12_hide [.ref 96, .int (wb_i pu), .int (wb_i u)] N w' Q2) → Q (some (.int (wb_i r))) N w') : wb_M G M_X11_hide [.ref 3, .int (wb_i pu), .int (wb_i u)] N w Q := by
  obtain ⟨n, c, s, sd, sf, tu, g, wt, sg, cnt, rs, ru, im, fz, h⟩ := hJ
  have h' := h
  obtain ⟨hx3, hbk, hK, hIn, hR, hz, htu, hTe, hc, hsg, him, hfz, hP0, hP1, hra, hrr, hru⟩ := h'
  refine sp_X11_hide hx3 hbk hR hK htu.1 hIn h_pu h_u (fun hno => ?_) (fun hu h0 => ?_) (fun w' hl p hu hn hHL hhd hIn' ef => ?_)
  · exact h.qq hQ hIn (fun _ _ => rfl) (fun hra' hrr' Q2 hQ2 => sp_X12_hide (hl := 0) (p := 0) hra' hrr' hR hru h_pu h_u (Or.inl ⟨hno, rfl⟩) hQ2)
  · exact h.qq hQ hIn (fun _ _ => rfl) (fun hra' hrr' Q2 hQ2 => sp_X12_hide (hl := 0) (p := 0) hra' hrr' hR hru h_pu h_u (Or.inr (Or.inl ⟨hu, h0, rfl⟩)) hQ2)
  · exact h.qq hQ hIn' ef (fun hra' hrr' Q2 hQ2 => sp_X12_hide hra' hrr' hR hru h_pu h_u (Or.inr (Or.inr ⟨hu, hn, hHL, hhd, rfl⟩)) hQ2)
theorem st_told {j : Int} (hJ : wb_I w i) (hi : i ≤ 1000) (h_j : -2147483648 ≤ j ∧ j ≤ 2147483647) (hQ : ∀ (w' : wb_W) (r : Int), (∃ fs, w' 96 = .inr (12, fs)) → (∀ Q2 : Option Value → Nat → wb_W → Prop, (∀ w2, wb_I w2 (i + 7) → Q2 (some (.int (wb_i r))) N w2) → wb_M G M_X12_told [.ref 96, .int (wb_i j)] N w' Q2) → Q (some (.int (wb_i r))) N w') : wb_M G M_X11_told [.ref 3, .int (wb_i j)] N w Q := by
  obtain ⟨n, c, s, sd, sf, tu, g, wt, sg, cnt, rs, ru, im, fz, h⟩ := hJ
  have h' := h
  obtain ⟨hx3, hbk, hK, hIn, hR, hz, htu, hTe, hc, hsg, him, hfz, hP0, hP1, hra, hrr, hru⟩ := h'
  obtain ⟨tp, tq, bl, bh, wa, re, nu, g2, htx, hm2, hwa⟩ := id hTe
  exact sp_X11_told hx3 hbk hR htx h_j (h.qq hQ hIn (fun _ _ => rfl) (fun hra' hrr' Q2 hQ2 => sp_X12_told hra' hrr' hR hru h_j (hQ2 w hra' hrr' (fun _ _ => rfl))))
end WBS74
