/-! ===== the works are brought up to date ===== -/
/-- the class's works: what they hold is of this book where their turn is the book's -/
def wb_Wk (w : wb_W) (n : Int) (c s : Int → Int) (sd sf tu : Int) (K : Int → Bool) (hl wt ct mt : Int) : Prop :=
  wb_Wo w hl wt ct mt ∧ wb_FS w ∧ wb_Sh4 w ∧ wb_M2 w ∧ (∃ g, wb_Mw w 38 g) ∧ (∃ g, wb_Mw w 40 g) ∧ (0 ≤ ct ∧ ct ≤ wt ∧ 0 ≤ mt ∧ mt ≤ wt ∧ wt ≤ tu ∧ tu ≤ 1000000) ∧
  (wt = tu → wb_HL hl n c sd sf ∧ (∃ g, wb_Mw w 38 g ∧ wb_rp g (wb_ft n c s sd sf K 0 0)) ∧ wb_Md w (wb_ft n c s sd sf K 0 0) ∧ ∀ t, 0 ≤ t → t < 3 → wb_Ce w hl n c s sd sf t (ct = wt) (mt = wt))
theorem wb_Wk.new {w : wb_W} {n n' : Int} {c s c' s' : Int → Int} {sd sf sd' sf' tu tu' : Int} {K K' : Int → Bool} {hl wt ct mt : Int} (h : wb_Wk w n c s sd sf tu K hl wt ct mt) (ht : tu < tu') (ht2 : tu' ≤ 1000000) : wb_Wk w n' c' s' sd' sf' tu' K' hl wt ct mt := by
  obtain ⟨h1, h2, h3, h4, h5, h6, h7, h8⟩ := h
  exact ⟨h1, h2, h3, h4, h5, h6, by omega, fun q => by omega⟩
theorem wb_Wk.fr {w w' : wb_W} {n : Int} {c s : Int → Int} {sd sf tu : Int} {K : Int → Bool} {hl wt ct mt : Int} (h : wb_Wk w n c s sd sf tu K hl wt ct mt) (hf : ∀ k, 29 ≤ k → k < 81 → w' k = w k) : wb_Wk w' n c s sd sf tu K hl wt ct mt := by
  obtain ⟨h1, h2, h3, h4, ⟨g5, h5⟩, ⟨g6, h6⟩, h7, h8⟩ := h
  refine ⟨h1.fr (fun k hk => hf k (by omega) (by omega)), h2.fr (fun k p1 p2 => hf k (by omega) (by omega)), h3.fr (fun k p1 p2 => hf k (by omega) (by omega)), h4.fr (fun k p1 p2 => hf k (by omega) (by omega)), ⟨g5, h5.fr (fun k p1 p2 => hf k (by omega) (by omega))⟩, ⟨g6, h6.fr (fun k p1 p2 => hf k (by omega) (by omega))⟩, h7, fun q => ?_⟩
  obtain ⟨a1, ⟨g, a2, a3⟩, a4, a5⟩ := h8 q
  exact ⟨a1, ⟨g, a2.fr (fun k p1 p2 => hf k (by omega) (by omega)), a3⟩, a4.fr (fun k p1 p2 => hf k (by omega) (by omega)), fun t t1 t2 => have hcr := wb_cp_rg hl (t := t) ⟨t1, t2⟩; (a5 t t1 t2).fr (fun k p1 p2 => hf k (by omega) (by omega))⟩
theorem wb_HL_ex (n : Int) (c : Int → Int) (sd sf : Int) : ∃ hl, wb_HL hl n c sd sf := by
  by_cases h : wb_sm1 c n sd sf
  · exact ⟨sd, Or.inl ⟨h, rfl⟩⟩
  · exact ⟨-1, Or.inr ⟨h, rfl⟩⟩
theorem wb_sm1_rg {n : Int} {c : Int → Int} {sd sf : Int} (h : wb_sm1 c n sd sf) : 0 ≤ sd := by
  obtain ⟨m, _, _, h, _⟩ := h; exact h
section WBS35
variable {G : wb_G} {N : Nat} {w : wb_W} {Q : Option Value → Nat → wb_W → Prop}
variable {n : Int} {c s : Int → Int} {sd sf bo tu : Int} {g : Int → Int64} {K : Int → Bool} {hl wt ct mt : Int} {cv mv : Prop} {b : Nat}
theorem sp_guestHL (hb : wb_Bk w b n c s sd sf bo tu g) (hR : wb_BR n c s sd sf) (h : wb_HL hl n c sd sf) (hQ : Q (some (.int (wb_i (if hl < 0 then -1 else sf)))) N w) : wb_M G M_X0_guestOf [.ref b, .int (wb_i sd)] N w Q := by
  have hr := hR.2.2.2.1
  refine sp_X0_guestOf hb hR (by omega) (fun _ h1 => ?_) (fun h1 => ?_)
  · have := wb_sm1_rg h1
    rcases h with ⟨_, rfl⟩ | ⟨h2, _⟩
    · rw [if_neg (by omega)] at hQ; exact hQ
    · exact absurd h1 h2
  · rcases h with ⟨h2, _⟩ | ⟨_, rfl⟩
    · exact absurd ⟨rfl, h2⟩ h1
    · exact hQ
theorem sp_guestT {t : Int} (hb : wb_Bk w b n c s sd sf bo tu g) (hR : wb_BR n c s sd sf) (h : wb_HL hl n c sd sf) (ht : 0 ≤ t ∧ t < 3) (hQ : Q (some (.int (wb_i (wb_gu hl sf t)))) N w) : wb_M G M_X0_guestOf [.ref b, .int (wb_i t)] N w Q := by
  refine sp_X0_guestOf hb hR (by omega) (fun e1 h1 => ?_) (fun h1 => ?_)
  · rcases h with ⟨_, rfl⟩ | ⟨h2, _⟩
    · unfold wb_gu at hQ; rw [if_pos e1] at hQ; exact hQ
    · exact absurd h1 h2
  · have hne : t ≠ hl := by
      rcases h with ⟨h2, rfl⟩ | ⟨_, rfl⟩
      · exact fun e => h1 ⟨e, h2⟩
      · omega
    unfold wb_gu at hQ; rw [if_neg hne] at hQ; exact hQ
theorem sp_X10_update (hbk : wb_Bk w 4 n c s sd sf bo tu g) (hR : wb_BR n c s sd sf) (hK : wb_rp g K) (hwk : wb_Wk w n c s sd sf tu K hl wt ct mt) (htu : 1 ≤ tu)
    (hQ : ∀ (w' : wb_W) (hl' ct' mt' : Int), wb_Wk w' n c s sd sf tu K hl' tu ct' mt' → (∀ k, (k < 29 ∨ 81 ≤ k) → w' k = w k) → Q none N w') : wb_M G M_X10_update [.ref 29] N w Q := by
  unfold wb_M
  have hwk' := hwk
  obtain ⟨hwo, hfs, hsh, hm2, ⟨g5, h38⟩, ⟨g6, h40⟩, hrt, hval⟩ := hwk'
  have hsr := hR.2.2.2.1
  have hbk' := hbk
  obtain ⟨b0, -⟩ := hbk'
  obtain ⟨hl', hHL⟩ := wb_HL_ex n c sd sf
  have hrg := hHL.rg hR
  have lp : wt < tu → ∀ i, i ≤ 3 → ∀ (w1 : wb_W), 0 ≤ i → wb_Wo w1 hl' tu ct mt → wb_Sh4 w1 → (∀ t, 0 ≤ t → t < i → wb_Ce w1 hl' n c s sd sf t (ct = tu) (mt = tu)) → (∀ k, k ≠ 29 → (k < 45 ∨ 81 ≤ k) → w1 k = w k) → wb_V G M_X10_update 60 [(0, .ref 29), (1, .int (wb_i i))] [] N w1 0 0 Q := by
    intro hlt
    refine wb_up 3 _ ?_
    intro i ih hi w1 hi0 hwo1 hsh1 hce1 ef
    have hbk1 : wb_Bk w1 4 n c s sd sf bo tu g := hbk.fr (fun k p1 p2 => ef k (by omega) (by omega))
    have hfs1 : wb_FS w1 := hfs.fr (fun k p1 p2 => ef k (by omega) (by omega))
    refine vi_iload_n 28 rfl rfl ?_
    refine vi_iconst 29 rfl ?_
    refine vi_icmp_ge 30 rfl (by omega) (by omega) (fun c_62 => ?_) (fun c_62 => ?_)
    · refine vi_aload_n 44 rfl rfl ?_
      refine vi_V0 45 ok_X10_strain rfl c_X10_88 hwo1.1 rfl rfl ?_
      refine sp_X10_strain hwo1 hbk1 hR hHL hfs1 hsh1 (fun t t1 t2 => hce1 t t1 (by omega)) (by omega) (by omega) (fun w2 hwo2 hfs2 hsh2 hce2 hf2 => ?_)
      have hbk2 : wb_Bk w2 4 n c s sd sf bo tu g := hbk1.fr (fun k p1 p2 => hf2 k (by omega))
      have h38b : wb_Mw w2 38 g5 := h38.fr (fun k p1 p2 => (hf2 k (by omega)).trans (ef k (by omega) (by omega)))
      refine vi_aload_n 46 rfl rfl ?_
      refine vi_aload_n 47 rfl rfl ?_
      refine vi_get 48 rfl f_X10_28 hwo2.1 rfl rfl ?_
      refine vi_iconst 49 rfl ?_
      refine vi_V2 50 ok_X10_sift rfl c_X10_91 hwo2.1 rfl rfl ?_
      refine sp_X10_sift hwo2 hbk2 hR hK hHL h38b (by omega) hce2 trivial (by omega) (fun w3 g3 hg3 hm3 hf3 => ?_)
      have hg3' : wb_rp g3 (wb_ft n c s sd sf K 0 0) := hg3.to (fun x p1 p2 => by unfold wb_ft wb_AA; simp only [wb_bt0, Bool.false_or])
      have hwo3 : wb_Wo w3 hl' tu ct tu := hwo2.fr (fun k hk => hf3 k (by omega))
      have hm23 : wb_M2 w3 := hm2.fr (fun k p1 p2 => (hf3 k (by omega)).trans ((hf2 k (by omega)).trans (ef k (by omega) (by omega))))
      refine vi_aload_n 51 rfl rfl ?_
      refine vi_V0 52 ok_X10_setMade rfl c_X10_95 hwo3.1 rfl rfl ?_
      refine sp_X10_setMade hwo3 hm3 hg3' hm23 (fun w4 hmd4 hf4 => ?_)
      exact vi_return 53 rfl rfl (Nat.zero_le _) (Nat.zero_le _) (hQ w4 hl' ct tu ⟨hwo3.fr (fun k hk => hf4 k (by omega) (by omega)), (hfs2.fr (fun k p1 p2 => hf3 k (by omega))).fr (fun k p1 p2 => hf4 k (by omega) (by omega)), (hsh2.fr (fun k p1 p2 => hf3 k (by omega))).fr (fun k p1 p2 => hf4 k (by omega) (by omega)), hmd4.elim fun ml h => h.elim fun mh h => ⟨ml, mh, h.1, h.2.1⟩, ⟨g3, hm3.fr (fun k p1 p2 => hf4 k (by omega) (by omega))⟩, ⟨g6, h40.fr (fun k p1 p2 => (hf4 k (by omega) (by omega)).trans ((hf3 k (by omega)).trans ((hf2 k (by omega)).trans (ef k (by omega) (by omega)))))⟩, by omega, fun _ => ⟨hHL, ⟨g3, hm3.fr (fun k p1 p2 => hf4 k (by omega) (by omega)), hg3'⟩, hmd4, fun t t1 t2 => have hcr := wb_cp_rg hl' (t := t) ⟨t1, t2⟩; ((hce2 t t1 t2).no id (fun _ => trivial)).fr (fun k p1 p2 => (hf4 k (by omega) (by omega)).trans (hf3 k (by omega)))⟩⟩ (fun k hk => (hf4 k (by omega) (by omega)).trans ((hf3 k (by omega)).trans ((hf2 k (by omega)).trans (ef k (by omega) (by omega))))))
    · have hti : 0 ≤ i ∧ i < 3 := by omega
      have hcr := wb_cp_rg hl' hti
      obtain ⟨⟨nd0, ah0, on0, t0, gu0, ke0, hco⟩, t', o', P', hms⟩ := hsh1.at hl' hti
      have hco' := hco
      obtain ⟨f0, f1, k0, -⟩ := hco'
      refine vi_aload_n 31 rfl rfl ?_
      refine vi_iload_n 32 rfl rfl ?_
      refine vi_V1 33 ok_X10_course rfl c_X10_80 hwo1.1 rfl rfl ?_
      refine sp_X10_course ‹_› (by omega) (by omega) ?_
      refine vi_aload_n 34 rfl rfl ?_
      refine vi_get 35 rfl f_X10_46 hwo1.1 rfl rfl ?_
      refine vi_iload_n 36 rfl rfl ?_
      refine vi_aload_n 37 rfl rfl ?_
      refine vi_get 38 rfl f_X10_46 hwo1.1 rfl rfl ?_
      refine vi_iload_n 39 rfl rfl ?_
      refine vi_V1 40 ok_X0_guestOf rfl c_X10_76 hbk1.1 rfl rfl ?_
      refine sp_guestT hbk1 hR hHL hti ?_
      refine vi_V3 41 ok_X2_set rfl c_X10_84 k0 rfl rfl ?_
      refine sp_X2_set hco hbk1 hR (by omega) (wb_gu_rm hHL hR hti) hti (fun w2 nd2 hnd2 hco2 hf2 => ?_)
      have hms2 : wb_Ms w2 (wb_cp hl' i + 6) 30 t' o' P' := hms.fr (fun k p1 p2 => hf2 k (by omega))
      refine vi_iinc 42 rfl rfl rfl ?_
      refine vi_goto 43 rfl ?_
      refine vi_lc (ih (i + 1) (by omega) (by omega) w2 (by omega) (hwo1.fr (fun k hk => hf2 k (by omega))) (hsh1.up hti ⟨⟨_, _, _, _, _, _, hco2⟩, _, _, _, hms2⟩ (fun k p1 p2 p3 => hf2 k (by omega))) (fun t t1 t2 => ?_) (fun k p1 p2 => (hf2 k (by omega)).trans (ef k p1 p2))) ⟨rfl, rfl, trivial⟩
      by_cases hti2 : t = i
      · subst hti2; exact ⟨⟨nd2, _, _, hco2, hnd2, fun q => by omega⟩, fun q => by omega⟩
      · have hap := wb_cp_ap (hl := hl') hti (t' := t) ⟨t1, by omega⟩ (fun q => hti2 q.symm)
        have hcr2 := wb_cp_rg hl' (t := t) ⟨t1, by omega⟩
        exact (hce1 t t1 (by omega)).fr (fun k p1 p2 => hf2 k (by omega))
  refine vi_aload_n 0 rfl rfl ?_
  refine vi_get 1 rfl f_X10_67 hwo.1 rfl rfl ?_
  refine vi_aload_n 2 rfl rfl ?_
  refine vi_get 3 rfl f_X10_46 hwo.1 rfl rfl ?_
  refine vi_get 4 rfl f_X10_70 b0 rfl rfl ?_
  refine vi_icmp_ne 5 rfl (by omega) (by omega) (fun c_11 => ?_) (fun c_11 => ?_)
  · refine vi_aload_n 7 rfl rfl ?_
    refine vi_aload_n 8 rfl rfl ?_
    refine vi_get 9 rfl f_X10_46 hwo.1 rfl rfl ?_
    refine vi_get 10 rfl f_X10_70 b0 rfl rfl ?_
    refine vi_put 11 rfl f_X10_67 hwo.1 rfl rfl rfl rfl ?_
    refine vi_aload_n 12 rfl rfl ?_
    refine vi_aload_n 13 rfl rfl ?_
    refine vi_get 14 rfl f_X10_46 wb_ups rfl rfl ?_
    refine vi_aload_n 15 rfl rfl ?_
    refine vi_get 16 rfl f_X10_46 wb_ups rfl rfl ?_
    refine vi_get 17 rfl f_X10_73 ((wb_upn (by omega)).trans b0) rfl rfl ?_
    refine vi_V1 18 ok_X0_guestOf rfl c_X10_76 ((wb_upn (by omega)).trans b0) rfl rfl ?_
    refine sp_guestHL (hbk.fr (fun k p1 p2 => wb_upn (by omega))) hR hHL ?_
    refine vi_if_ge 19 rfl (by split <;> omega) (fun c_41 => ?_) (fun c_41 => ?_)
    · refine vi_aload_n 22 rfl rfl ?_
      refine vi_get 23 rfl f_X10_46 wb_ups rfl rfl ?_
      refine vi_get 24 rfl f_X10_73 ((wb_upn (by omega)).trans b0) rfl rfl ?_
      refine vi_put 25 rfl f_X10_42 wb_ups rfl rfl rfl rfl ?_
      refine vi_iconst 26 rfl ?_
      refine vi_istore_n 27 rfl rfl ?_
      first | (have hh : hl' = sd := by { by_cases q : hl' < 0; (rw [if_pos q] at c_41; omega); exact (hrg.2 (by omega)).1 }; subst hh; exact vi_lc (lp (by omega) 0 (by omega) _ (by omega) ⟨wb_ups, by rw [wb_upn (by omega), wb_upn (by omega)]; exact hwo.2.1, hwo.2.2.fr (fun k p1 p2 => by rw [wb_upn (by omega), wb_upn (by omega)])⟩ (hsh.fr (fun k p1 p2 => by rw [wb_upn (by omega), wb_upn (by omega)])) (fun t t1 t2 => by omega) (fun k p1 p2 => by rw [wb_upn p1, wb_upn p1])) ⟨rfl, rfl, trivial⟩) | (have hh : hl' = -1 := by { by_cases q : hl' < 0; omega; (rw [if_neg q] at c_41; have := hrg.2 (by omega); omega) }; subst hh; exact vi_lc (lp (by omega) 0 (by omega) _ (by omega) ⟨wb_ups, by rw [wb_upn (by omega), wb_upn (by omega)]; exact hwo.2.1, hwo.2.2.fr (fun k p1 p2 => by rw [wb_upn (by omega), wb_upn (by omega)])⟩ (hsh.fr (fun k p1 p2 => by rw [wb_upn (by omega), wb_upn (by omega)])) (fun t t1 t2 => by omega) (fun k p1 p2 => by rw [wb_upn p1, wb_upn p1])) ⟨rfl, rfl, trivial⟩)
    · refine vi_iconst 20 rfl ?_
      refine vi_goto 21 rfl ?_
      refine vi_put 25 rfl f_X10_42 wb_ups rfl rfl rfl rfl ?_
      refine vi_iconst 26 rfl ?_
      refine vi_istore_n 27 rfl rfl ?_
      first | (have hh : hl' = sd := by { by_cases q : hl' < 0; (rw [if_pos q] at c_41; omega); exact (hrg.2 (by omega)).1 }; subst hh; exact vi_lc (lp (by omega) 0 (by omega) _ (by omega) ⟨wb_ups, by rw [wb_upn (by omega), wb_upn (by omega)]; exact hwo.2.1, hwo.2.2.fr (fun k p1 p2 => by rw [wb_upn (by omega), wb_upn (by omega)])⟩ (hsh.fr (fun k p1 p2 => by rw [wb_upn (by omega), wb_upn (by omega)])) (fun t t1 t2 => by omega) (fun k p1 p2 => by rw [wb_upn p1, wb_upn p1])) ⟨rfl, rfl, trivial⟩) | (have hh : hl' = -1 := by { by_cases q : hl' < 0; omega; (rw [if_neg q] at c_41; have := hrg.2 (by omega); omega) }; subst hh; exact vi_lc (lp (by omega) 0 (by omega) _ (by omega) ⟨wb_ups, by rw [wb_upn (by omega), wb_upn (by omega)]; exact hwo.2.1, hwo.2.2.fr (fun k p1 p2 => by rw [wb_upn (by omega), wb_upn (by omega)])⟩ (hsh.fr (fun k p1 p2 => by rw [wb_upn (by omega), wb_upn (by omega)])) (fun t t1 t2 => by omega) (fun k p1 p2 => by rw [wb_upn p1, wb_upn p1])) ⟨rfl, rfl, trivial⟩)
  · exact vi_return 6 rfl rfl (Nat.zero_le _) (Nat.zero_le _) (hQ w hl ct mt (by have := hwk; rw [show wt = tu by omega] at this; exact this) (fun _ _ => rfl))
end WBS35
