/-! ===== image, restore: the class, then the reference ===== -/
section WBS75
variable {G : wb_G} {N : Nat} {w : wb_W} {Q : Option Value → Nat → wb_W → Prop} {i : Int}
theorem st_image {j : Int} (hJ : wb_I w i) (hi : i ≤ 1000) (h_j : -2147483648 ≤ j ∧ j ≤ 2147483647) (hQ : ∀ (w' : wb_W) (r : Int), (∃ fs, w' 96 = .inr (12, fs)) → (∀ Q2 : Option Value → Nat → wb_W → Prop, (∀ w2, wb_I w2 (i + 7) → Q2 (some (.int (wb_i r))) N w2) → wb_M G M_X12_image [.ref 96, .int (wb_i j)] N w' Q2) → Q (some (.int (wb_i r))) N w') : wb_M G M_X11_image [.ref 3, .int (wb_i j)] N w Q := by
  obtain ⟨n, c, s, sd, sf, tu, g, wt, sg, cnt, rs, ru, im, fz, h⟩ := hJ
  have h' := h
  obtain ⟨hx3, hbk, hK, hIn, hR, hz, htu, hTe, hc, hsg, him, hfz, hP0, hP1, hra, hrr, hru⟩ := h'
  by_cases hj : 0 ≤ j ∧ j < 2
  · have hPj : wb_Pi w im fz j := by
      rcases (show j = 0 ∨ j = 1 by omega) with e | e
      · rw [e]; exact hP0
      · rw [e]; exact hP1
    obtain ⟨n1, c1, s1, rs1, sd1, sf1, bo1, tu1, ru1, g1, hb1, hz1, -⟩ := hPj
    refine sp_X11_image hx3 him hbk (fun _ => hb1) h_j (fun q => absurd hj q) (fun w' g' _ hg' hbk' him' ef => ?_)
    rw [wb_zcu hz.1 hz1.1, wb_zcu hz.2.1 hz1.2.1] at hbk'
    have hra' : wb_Ra w' c s sg rs im fz := hra.fr (fun k hk => ef k (by omega) (by omega))
    have hrr' : wb_RR w' n c s sd sf cnt ru (wb_KK rs ru) := hrr.fr (fun k k1 k2 => ef k (by omega) (by omega))
    refine hQ w' 1 ?_ (fun Q2 hQ2 => ?_)
    · obtain ⟨ld, tt, tr, L, H, fi, ch, hrf, -⟩ := hrr'.op
      exact ⟨_, hrf⟩
    · refine sp_X12_image hra' hrr' h_j (fun q => absurd hj q) (fun w2 _ hra2 hrr2 ef2 => hQ2 w2 ?_)
      have hnew : wb_Pi w2 (wb_iu im j (wb_it n sd sf ru c s rs) 138) (wb_u fz j 1) j := by
        refine ⟨n, c, s, rs, sd, sf, wb_bo1 rs ru, tu1 + 1, ru, g', hbk'.fr (fun k p1 p2 => ef2 k (by omega) (by omega)), hz, fun _ => ⟨hR, wb_rp_eq hK hg', hru, rfl, fun d d1 d2 => ?_⟩⟩
        unfold wb_iu
        rw [if_pos (by omega)]
        congr 1; omega
      have hold : ∀ q, 0 ≤ q → q < 2 → q ≠ j → wb_Pi w im fz q → wb_Pi w2 (wb_iu im j (wb_it n sd sf ru c s rs) 138) (wb_u fz j 1) q := fun q q1 q2 q3 hP => hP.fr (fun k p1 p2 => (ef2 k (by omega) (by omega)).trans (ef k (by omega) (by omega))) (fun d d1 d2 => by unfold wb_iu; rw [if_neg (by omega)]) (wb_un q3)
      have hboth : wb_Pi w2 (wb_iu im j (wb_it n sd sf ru c s rs) 138) (wb_u fz j 1) 0 ∧ wb_Pi w2 (wb_iu im j (wb_it n sd sf ru c s rs) 138) (wb_u fz j 1) 1 := by
        rcases (show j = 0 ∨ j = 1 by omega) with e | e
        · rw [e] at hnew hold ⊢; exact ⟨hnew, hold 1 (by omega) (by omega) (by omega) hP1⟩
        · rw [e] at hnew hold ⊢; exact ⟨hold 0 (by omega) (by omega) (by omega) hP0, hnew⟩
      exact ⟨n, c, s, sd, sf, tu, g, wt, sg, cnt, rs, ru, _, _, (ef2 _ (by omega) (by omega)).trans ((ef _ (by omega) (by omega)).trans hx3), hbk.fr (fun k p1 p2 => (ef2 k (by omega) (by omega)).trans (ef k (by omega) (by omega))), hK, hIn.fr (fun k p1 p2 => (ef2 k (by omega) (by omega)).trans (ef k (by omega) (by omega))), hR, hz, by omega, hTe.fr (fun k p1 p2 => (ef2 k (by omega) (by omega)).trans (ef k (by omega) (by omega))), hc, hsg, ⟨(ef2 _ (by omega) (by omega)).trans him'.1, (ef2 _ (by omega) (by omega)).trans him'.2⟩, fun q => (by by_cases e : q = j; (rw [e, wb_us]; exact Or.inr rfl); (rw [wb_un e]; exact hfz q)), hboth.1, hboth.2, hra2, hrr2, hru⟩
  · exact sp_X11_image (n1 := 0) (c1 := fun _ => 0) (s1 := fun _ => 0) (sd1 := 0) (sf1 := 0) (bo1 := 0) (tu1 := 0) (g1 := fun _ => 0) hx3 him hbk (fun q => absurd q hj) h_j (fun _ => h.qq hQ hIn (fun _ _ => rfl) (fun hra' hrr' Q2 hQ2 => sp_X12_image hra' hrr' h_j (fun _ => hQ2 w hra' hrr' (fun _ _ => rfl)) (fun _ q => absurd q hj))) (fun _ _ q => absurd q hj)
theorem st_restore {j : Int} (hJ : wb_I w i) (hi : i ≤ 1000) (h_j : -2147483648 ≤ j ∧ j ≤ 2147483647) (hQ : ∀ (w' : wb_W) (r : Int), (∃ fs, w' 96 = .inr (12, fs)) → (∀ Q2 : Option Value → Nat → wb_W → Prop, (∀ w2, wb_I w2 (i + 7) → Q2 (some (.int (wb_i r))) N w2) → wb_M G M_X12_restore [.ref 96, .int (wb_i j)] N w' Q2) → Q (some (.int (wb_i r))) N w') : wb_M G M_X11_restore [.ref 3, .int (wb_i j)] N w Q := by
  obtain ⟨n, c, s, sd, sf, tu, g, wt, sg, cnt, rs, ru, im, fz, h⟩ := hJ
  have h' := h
  obtain ⟨hx3, hbk, hK, hIn, hR, hz, htu, hTe, hc, hsg, him, hfz, hP0, hP1, hra, hrr, hru⟩ := h'
  by_cases hj : 0 ≤ j ∧ j < 2
  · have hPj : wb_Pi w im fz j := by
      rcases (show j = 0 ∨ j = 1 by omega) with e | e
      · rw [e]; exact hP0
      · rw [e]; exact hP1
    obtain ⟨n1, c1, s1, rs1, sd1, sf1, bo1, tu1, ru1, g1, hb1, hz1, h3⟩ := hPj
    refine sp_X11_restore hx3 him hbk (fun _ => hb1) h_j hfz (fun q => absurd hj q) (fun _ h0 => ?_) (fun w' g' _ h1 hg' hbk' ef => ?_)
    · exact h.qq hQ hIn (fun _ _ => rfl) (fun hra' hrr' Q2 hQ2 => sp_X12_restore (n1 := 0) (sd1 := 0) (sf1 := 0) (ru1 := 0) (c1 := fun _ => 0) (s1 := fun _ => 0) (rs1 := fun _ => 0) hra' hrr' h_j hfz (fun _ q => by omega) (fun q => absurd hj q) (fun _ _ => hQ2 w hra' hrr' (fun _ _ => rfl)) (fun _ _ q => by omega))
    · obtain ⟨a1, a2, a3, a4, a5⟩ := h3 h1
      subst a4
      rw [wb_zcu hz1.1 hz.1, wb_zcu hz1.2.1 hz.2.1] at hbk'
      refine h.bb hQ hi hbk' (by omega) a1 hz1 (wb_rp_eq a2 hg') (hTe.fr (fun k p1 p2 => ef k (by omega))) hc hsg a3 (fun k hk => ef k (by omega)) (fun hra' hrr' Q2 hQ2 => ?_)
      refine sp_X12_restore hra' hrr' h_j hfz (fun _ _ => a5) (fun q => absurd hj q) (fun _ q => by omega) (fun w2 _ _ hra2 hrr2 ef2 => hQ2 w2 ?_ (hrr2 _ _ _) ef2)
      have e1 : wb_cu c1 c 72 = c1 := wb_zcu hz1.1 hz.1
      have e2 : wb_cu s1 s 12 = s1 := wb_zcu hz1.2.1 hz.2.1
      have e3 : wb_cu rs1 rs 50 = rs1 := wb_zcu hz1.2.2 hz.2.2
      rw [e1, e2, e3] at hra2
      exact hra2
  · exact sp_X11_restore (n1 := 0) (c1 := fun _ => 0) (s1 := fun _ => 0) (sd1 := 0) (sf1 := 0) (bo1 := 0) (tu1 := 0) (g1 := fun _ => 0) hx3 him hbk (fun q => absurd q hj) h_j hfz (fun _ => h.qq hQ hIn (fun _ _ => rfl) (fun hra' hrr' Q2 hQ2 => sp_X12_restore (n1 := 0) (sd1 := 0) (sf1 := 0) (ru1 := 0) (c1 := fun _ => 0) (s1 := fun _ => 0) (rs1 := fun _ => 0) hra' hrr' h_j hfz (fun q => absurd q hj) (fun _ => hQ2 w hra' hrr' (fun _ _ => rfl)) (fun q => absurd q hj) (fun _ q => absurd q hj))) (fun q => absurd q hj) (fun _ _ q => absurd q hj)
end WBS75
