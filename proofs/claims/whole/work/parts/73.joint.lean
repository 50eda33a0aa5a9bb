/-! ===== class and reference, side by side ===== -/
def wb_Zo (c s rs : Int → Int) : Prop := (∀ p, (p < 0 ∨ 72 ≤ p) → c p = 0) ∧ (∀ p, (p < 0 ∨ 12 ≤ p) → s p = 0) ∧ (∀ p, (p < 0 ∨ 50 ≤ p) → rs p = 0)
def wb_Te (w : wb_W) (sg : Int → Int) (cnt : Int) : Prop := ∃ (tp tq : Int → Int) (bl bh : Int → Int64) (wa re nu : Int) (g2 : Int → Int64), wb_Tx w 21 sg cnt tp tq bl bh wa re nu ∧ wb_Mw w 23 g2 ∧ (-1 ≤ wa ∧ wa ≤ 1000)
theorem wb_Te.fr {w w' : wb_W} {sg : Int → Int} {cnt : Int} (h : wb_Te w sg cnt) (hf : ∀ k, 21 ≤ k → k < 29 → w' k = w k) : wb_Te w' sg cnt := by
  obtain ⟨tp, tq, bl, bh, wa, re, nu, g2, h1, h2, h3⟩ := h
  exact ⟨tp, tq, bl, bh, wa, re, nu, g2, h1.fr (fun k p1 p2 _ _ => hf k p1 p2), h2.fr (fun k p1 p2 => hf k (by omega) (by omega)), h3⟩
/-- an image: the class's and the reference's -/
def wb_Pi (w : wb_W) (im fz : Int → Int) (q : Int) : Prop := ∃ (n1 : Int) (c1 s1 rs1 : Int → Int) (sd1 sf1 bo1 tu1 ru1 : Int) (g1 : Int → Int64), wb_Bk w (10 + 5 * q.toNat) n1 c1 s1 sd1 sf1 bo1 tu1 g1 ∧ wb_Zo c1 s1 rs1 ∧ (fz q = 1 → wb_BR n1 c1 s1 sd1 sf1 ∧ wb_rp g1 (wb_KK rs1 ru1) ∧ wb_RuO rs1 ru1 ∧ bo1 = wb_bo1 rs1 ru1 ∧ ∀ d, 0 ≤ d → d < 138 → im (140 * q + d) = wb_it n1 sd1 sf1 ru1 c1 s1 rs1 d)
theorem wb_Pi.fr {w w' : wb_W} {im im' fz fz' : Int → Int} {q : Int} (h : wb_Pi w im fz q) (hf : ∀ k, 10 + 5 * q.toNat ≤ k → k < 15 + 5 * q.toNat → w' k = w k) (hi : ∀ d, 0 ≤ d → d < 138 → im' (140 * q + d) = im (140 * q + d)) (hz : fz' q = fz q) : wb_Pi w' im' fz' q := by
  obtain ⟨n1, c1, s1, rs1, sd1, sf1, bo1, tu1, ru1, g1, h1, h2, h3⟩ := h
  refine ⟨n1, c1, s1, rs1, sd1, sf1, bo1, tu1, ru1, g1, h1.fr (fun k p1 p2 => hf k p1 (by omega)), h2, fun q => ?_⟩
  obtain ⟨a1, a2, a3, a4, a5⟩ := h3 (by rw [← hz]; exact q)
  exact ⟨a1, a2, a3, a4, fun d d1 d2 => by rw [hi d d1 d2]; exact a5 d d1 d2⟩
def wb_J0 (w : wb_W) (i n : Int) (c s : Int → Int) (sd sf tu : Int) (g : Int → Int64) (wt : Int) (sg : Int → Int) (cnt : Int) (rs : Int → Int) (ru : Int) (im fz : Int → Int) : Prop :=
  wb_X3 w ∧ wb_Bk w 4 n c s sd sf (wb_bo1 rs ru) tu g ∧ wb_rp g (wb_KK rs ru) ∧ wb_In w n c s sd sf tu (wb_KK rs ru) wt ∧ wb_BR n c s sd sf ∧ wb_Zo c s rs ∧ (1 ≤ tu ∧ tu ≤ 1 + i) ∧ wb_Te w sg cnt ∧ (0 ≤ cnt ∧ cnt ≤ 50) ∧ (∀ i, 0 ≤ i → i < cnt → 33 ≤ sg i ∧ sg i ≤ 126) ∧ wb_Im w fz ∧ (∀ j, fz j = 0 ∨ fz j = 1) ∧ wb_Pi w im fz 0 ∧ wb_Pi w im fz 1 ∧ wb_Ra w c s sg rs im fz ∧ wb_RR w n c s sd sf cnt ru (wb_KK rs ru) ∧ wb_RuO rs ru
def wb_I (w : wb_W) (i : Int) : Prop := ∃ (n : Int) (c s : Int → Int) (sd sf tu : Int) (g : Int → Int64) (wt : Int) (sg : Int → Int) (cnt : Int) (rs : Int → Int) (ru : Int) (im fz : Int → Int), wb_J0 w i n c s sd sf tu g wt sg cnt rs ru im fz
/-- new ones are alike -/
theorem wb_I.new {w w' : wb_W} (h : wb_N0 w) (hf : ∀ k, 3 ≤ k → k < 96 → w' k = w k) (hra : wb_Ra w' (fun _ => 0) (wb_s0 3) (fun _ => 0) (fun _ => 0) (fun _ => 0) (fun _ => 0)) (hru : wb_RU w' 0 (-1) (-1) 0 0) : wb_I w' 0 := by
  obtain ⟨h1, ⟨g2, r2, h2⟩, ⟨g3, h3⟩, ⟨g4, h4⟩, h5, h6, h7, h8⟩ := h.fr hf
  have hs0 : ∀ p, 0 ≤ wb_s0 3 p ∧ wb_s0 3 p ≤ 199 := fun p => by unfold wb_s0; split <;> omega
  have hs1 : ∀ t, wb_s0 3 (4 * t) = 0 ∧ wb_s0 3 (4 * t + 1) = 0 ∧ wb_s0 3 (4 * t + 3) = 0 := fun t => by
    unfold wb_s0; rw [if_neg (by omega), if_neg (by omega), if_neg (by omega)]; exact ⟨rfl, rfl, rfl⟩
  have hz : wb_Zo (fun _ => 0) (wb_s0 3) (fun _ => 0) := ⟨fun _ _ => rfl, fun p hp => by unfold wb_s0; rw [if_neg (by omega)], fun _ _ => rfl⟩
  refine ⟨0, fun _ => 0, wb_s0 3, -1, -1, 1, g2, 0, fun _ => 0, 0, fun _ => 0, 0, fun _ => 0, fun _ => 0, h1, h2, r2, h8 _, ⟨by omega, fun _ => (by dsimp only; omega), hs0, by omega, by omega, fun _ => (by dsimp only; omega), fun _ => (by dsimp only; omega), fun t => ?_, fun q => by omega⟩, hz, by omega, ⟨_, _, _, _, _, _, _, _, h6, h7, by omega⟩, by omega, fun i i1 i2 => by omega, h5, fun _ => Or.inl rfl, ⟨0, _, _, fun _ => 0, -1, -1, 0, 1, 0, g3, h3, hz, fun q => by cases q⟩, ⟨0, _, _, fun _ => 0, -1, -1, 0, 1, 0, g4, h4, hz, fun q => by cases q⟩, hra, Or.inl hru, ⟨by omega, fun i i1 i2 => by omega, Or.inl rfl⟩⟩
  have := hs1 t
  omega
section WBS73
variable {G : wb_G} {N : Nat} {w w' : wb_W} {Q : Option Value → Nat → wb_W → Prop} {M2 : wb_MD} {As : List Value} {r : Int}
variable {i n n' : Int} {c s c' s' : Int → Int} {sd sf sd' sf' tu tu' : Int} {g g' : Int → Int64} {wt wt' : Int} {sg sg' : Int → Int} {cnt cnt' : Int} {rs rs' : Int → Int} {ru ru' : Int} {im fz : Int → Int}
theorem wb_J0.gg (h : wb_J0 w i n c s sd sf tu g wt sg cnt rs ru im fz) (hQ : ∀ (w' : wb_W) (r : Int), (∃ fs, w' 96 = .inr (12, fs)) → (∀ Q2 : Option Value → Nat → wb_W → Prop, (∀ w2, wb_I w2 (i + 7) → Q2 (some (.int (wb_i r))) N w2) → wb_M G M2 As N w' Q2) → Q (some (.int (wb_i r))) N w') (hbk' : wb_Bk w' 4 n' c' s' sd' sf' (wb_bo1 rs' ru') tu' g') (htu' : 1 ≤ tu' ∧ tu' ≤ 1 + i + 7) (hR' : wb_BR n' c' s' sd' sf') (hz' : wb_Zo c' s' rs') (hK' : wb_rp g' (wb_KK rs' ru')) (hIn' : wb_In w' n' c' s' sd' sf' tu' (wb_KK rs' ru') wt') (hTe' : wb_Te w' sg' cnt') (hc' : 0 ≤ cnt' ∧ cnt' ≤ 50) (hsg' : ∀ i, 0 ≤ i → i < cnt' → 33 ≤ sg' i ∧ sg' i ≤ 126) (hru' : wb_RuO rs' ru') (ef : ∀ k, (k = 3 ∨ (9 ≤ k ∧ k < 21) ∨ 96 ≤ k) → w' k = w k)
    (href : wb_Ra w' c s sg rs im fz → wb_RR w' n c s sd sf cnt ru (wb_KK rs ru) → ∀ Q2 : Option Value → Nat → wb_W → Prop, (∀ w2, wb_Ra w2 c' s' sg' rs' im fz → wb_RR w2 n' c' s' sd' sf' cnt' ru' (wb_KK rs' ru') → (∀ k, (k < 96 ∨ 108 ≤ k) → w2 k = w' k) → Q2 (some (.int (wb_i r))) N w2) → wb_M G M2 As N w' Q2) : Q (some (.int (wb_i r))) N w' := by
  obtain ⟨hx3, hbk, hK, hIn, hR, hz, htu, hTe, hc, hsg, him, hfz, hP0, hP1, hra, hrr, hru⟩ := h
  have hra' : wb_Ra w' c s sg rs im fz := hra.fr (fun k hk => ef k (by omega))
  have hrr' : wb_RR w' n c s sd sf cnt ru (wb_KK rs ru) := hrr.fr (fun k k1 k2 => ef k (by omega))
  refine hQ w' r ?_ (fun Q2 hQ2 => href hra' hrr' Q2 (fun w2 hra2 hrr2 ef2 => hQ2 w2 ⟨n', c', s', sd', sf', tu', g', wt', sg', cnt', rs', ru', im, fz, (ef2 _ (by omega)).trans ((ef _ (by omega)).trans hx3), hbk'.fr (fun k p1 p2 => ef2 k (by omega)), hK', hIn'.fr (fun k p1 p2 => ef2 k (by omega)), hR', hz', by omega, hTe'.fr (fun k p1 p2 => ef2 k (by omega)), hc', hsg', ⟨(ef2 _ (by omega)).trans ((ef _ (by omega)).trans him.1), (ef2 _ (by omega)).trans ((ef _ (by omega)).trans him.2)⟩, hfz, hP0.fr (fun k p1 p2 => (ef2 k (by omega)).trans (ef k (by omega))) (fun _ _ _ => rfl) rfl, hP1.fr (fun k p1 p2 => (ef2 k (by omega)).trans (ef k (by omega))) (fun _ _ _ => rfl) rfl, hra2, hrr2, hru'⟩))
  obtain ⟨ld, tt, tr, L, H, fi, ch, hrf, -⟩ := hrr'.op
  exact ⟨_, hrf⟩
theorem wb_J0.qq (h : wb_J0 w i n c s sd sf tu g wt sg cnt rs ru im fz) (hQ : ∀ (w' : wb_W) (r : Int), (∃ fs, w' 96 = .inr (12, fs)) → (∀ Q2 : Option Value → Nat → wb_W → Prop, (∀ w2, wb_I w2 (i + 7) → Q2 (some (.int (wb_i r))) N w2) → wb_M G M2 As N w' Q2) → Q (some (.int (wb_i r))) N w') (hIn' : wb_In w' n c s sd sf tu (wb_KK rs ru) wt') (ef : ∀ k, (k < 29 ∨ 96 ≤ k) → w' k = w k)
    (href : wb_Ra w' c s sg rs im fz → wb_RR w' n c s sd sf cnt ru (wb_KK rs ru) → ∀ Q2 : Option Value → Nat → wb_W → Prop, (∀ w2, wb_Ra w2 c s sg rs im fz → wb_RR w2 n c s sd sf cnt ru (wb_KK rs ru) → (∀ k, (k < 96 ∨ 108 ≤ k) → w2 k = w' k) → Q2 (some (.int (wb_i r))) N w2) → wb_M G M2 As N w' Q2) : Q (some (.int (wb_i r))) N w' := by
  have h' := h
  obtain ⟨hx3, hbk, hK, hIn, hR, hz, htu, hTe, hc, hsg, him, hfz, hP0, hP1, hra, hrr, hru⟩ := h'
  exact h.gg hQ (hbk.fr (fun k p1 p2 => ef k (by omega))) (by omega) hR hz hK hIn' (hTe.fr (fun k p1 p2 => ef k (by omega))) hc hsg hru (fun k hk => ef k (by omega)) href
theorem wb_J0.bb (h : wb_J0 w i n c s sd sf tu g wt sg cnt rs ru im fz) (hQ : ∀ (w' : wb_W) (r : Int), (∃ fs, w' 96 = .inr (12, fs)) → (∀ Q2 : Option Value → Nat → wb_W → Prop, (∀ w2, wb_I w2 (i + 7) → Q2 (some (.int (wb_i r))) N w2) → wb_M G M2 As N w' Q2) → Q (some (.int (wb_i r))) N w') (hi : i ≤ 1000) (hbk' : wb_Bk w' 4 n' c' s' sd' sf' (wb_bo1 rs' ru') tu' g') (htu' : tu < tu' ∧ tu' ≤ tu + 7) (hR' : wb_BR n' c' s' sd' sf') (hz' : wb_Zo c' s' rs') (hK' : wb_rp g' (wb_KK rs' ru')) (hTe' : wb_Te w' sg' cnt') (hc' : 0 ≤ cnt' ∧ cnt' ≤ 50) (hsg' : ∀ i, 0 ≤ i → i < cnt' → 33 ≤ sg' i ∧ sg' i ≤ 126) (hru' : wb_RuO rs' ru') (ef : ∀ k, (k < 4 ∨ (9 ≤ k ∧ k < 21) ∨ 29 ≤ k) → w' k = w k)
    (href : wb_Ra w' c s sg rs im fz → wb_RR w' n c s sd sf cnt ru (wb_KK rs ru) → ∀ Q2 : Option Value → Nat → wb_W → Prop, (∀ w2, wb_Ra w2 c' s' sg' rs' im fz → wb_RR w2 n' c' s' sd' sf' cnt' ru' (wb_KK rs' ru') → (∀ k, (k < 96 ∨ 108 ≤ k) → w2 k = w' k) → Q2 (some (.int (wb_i r))) N w2) → wb_M G M2 As N w' Q2) : Q (some (.int (wb_i r))) N w' := by
  have h' := h
  obtain ⟨hx3, hbk, hK, hIn, hR, hz, htu, hTe, hc, hsg, him, hfz, hP0, hP1, hra, hrr, hru⟩ := h'
  exact h.gg hQ hbk' (by omega) hR' hz' hK' ((hIn.new (n' := n') (c' := c') (s' := s') (sd' := sd') (sf' := sf') (K' := wb_KK rs' ru') htu'.1 (by omega)).fr (fun k p1 p2 => ef k (by omega))) hTe' hc' hsg' hru' (fun k hk => ef k (by omega)) href
end WBS73
