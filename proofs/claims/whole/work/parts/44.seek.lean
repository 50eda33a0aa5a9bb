/-! ===== the month from which it was changed ===== -/
def wb_NH (n : Int) (c s : Int → Int) (sd sf : Int) (K : Int → Bool) (hl m t : Int) : Prop := ∀ y, 0 ≤ y → y < 15625 → wb_S0 n c s sd sf K hl t y = true → ∀ r, 0 ≤ r → r < 25 → wb_HF n c s sd sf hl t m K y r = false
def wb_cg (n : Int) (c s : Int → Int) (sd sf : Int) (K : Int → Bool) (hl mo th be bh : Int) : Prop := (mo = -1 ∧ ∀ m t, 1 ≤ m → m < n → 0 ≤ t → t < 3 → wb_NH n c s sd sf K hl m t) ∨ ((1 ≤ mo ∧ mo < n) ∧ (0 ≤ th ∧ th < 3) ∧ (0 ≤ be ∧ be < 15625) ∧ wb_S0 n c s sd sf K hl th be = true ∧ 0 ≤ wb_nxt (wb_HF n c s sd sf hl th mo K be) 25 0 ∧ (∀ y, 0 ≤ y → y < be → wb_S0 n c s sd sf K hl th y = true → ∀ r, 0 ≤ r → r < 25 → wb_HF n c s sd sf hl th mo K y r = false) ∧ bh = wb_wp be th (wb_nxt (wb_HF n c s sd sf hl th mo K be) 25 0) ∧ ∀ m t, 1 ≤ m → 0 ≤ t → t < 3 → (m < mo ∨ (m = mo ∧ t < th)) → wb_NH n c s sd sf K hl m t)
def wb_BS (w : wb_W) : Prop := (∃ g, wb_Mw w 83 g) ∧ (∃ la : Int → Int, w 85 = aI 625 la) ∧ ∃ (t o : Int) (P : Int → Int → Bool), wb_Ms w 86 30 t o P
theorem wb_BS.fr {w w' : wb_W} (h : wb_BS w) (hf : ∀ k, 83 ≤ k → k < 89 → w' k = w k) : wb_BS w' := by
  obtain ⟨⟨g, h1⟩, ⟨la, h2⟩, t, o, P, h3⟩ := h
  exact ⟨⟨g, h1.fr (fun k p1 p2 => hf k (by omega) (by omega))⟩, ⟨la, (hf _ (by omega) (by omega)).trans h2⟩, t, o, P, h3.fr (fun k p1 p2 => hf k (by omega) (by omega))⟩
section WBS44
variable {G : wb_G} {N : Nat} {w : wb_W} {Q : Option Value → Nat → wb_W → Prop}
variable {n : Int} {c s : Int → Int} {sd sf bo tu : Int} {g : Int → Int64} {K : Int → Bool} {hl ct mt : Int} {pa bt mo th be bh : Int}
theorem wb_wk_chart (hbk : wb_Bk w 4 n c s sd sf bo tu g) (hR : wb_BR n c s sd sf) (htu : 1 ≤ tu) (hwk : wb_Wk w n c s sd sf tu K hl tu ct mt)
    (hQ : ∀ (w' : wb_W), wb_Wk w' n c s sd sf tu K hl tu tu mt → (∀ k, (k < 29 ∨ 81 ≤ k) → w' k = w k) → Q none N w') : wb_M G M_X10_chart [.ref 29] N w Q := by
  obtain ⟨hwo, hfs, hsh, hm2, ⟨g5, h38⟩, ⟨g6, h40⟩, hrt, hval⟩ := hwk
  obtain ⟨hHL, ⟨g7, f1, f2⟩, hmd, hce⟩ := hval rfl
  refine sp_X10_chart hwo hbk hR hHL hfs hsh hce (by omega) (by omega) (fun w' hwo' hfs' hsh' hce' hf => ?_)
  exact hQ w' ⟨hwo', hfs', hsh', hm2.fr (fun k p1 p2 => hf k (by omega)), ⟨g5, h38.fr (fun k p1 p2 => hf k (by omega))⟩, ⟨g6, h40.fr (fun k p1 p2 => hf k (by omega))⟩, by omega, fun _ => ⟨hHL, ⟨g7, f1.fr (fun k p1 p2 => hf k (by omega)), f2⟩, hmd.fr (fun k p1 p2 => hf k (by omega)), fun t t1 t2 => (hce' t t1 t2).no (fun _ => trivial) id⟩⟩ (fun k hk => hf k (by omega))
theorem wb_wk_strain (hbk : wb_Bk w 4 n c s sd sf bo tu g) (hR : wb_BR n c s sd sf) (htu : 1 ≤ tu) (hwk : wb_Wk w n c s sd sf tu K hl tu ct mt)
    (hQ : ∀ (w' : wb_W), wb_Wk w' n c s sd sf tu K hl tu ct tu → (∀ k, (k < 29 ∨ 81 ≤ k) → w' k = w k) → Q none N w') : wb_M G M_X10_strain [.ref 29] N w Q := by
  obtain ⟨hwo, hfs, hsh, hm2, ⟨g5, h38⟩, ⟨g6, h40⟩, hrt, hval⟩ := hwk
  obtain ⟨hHL, ⟨g7, f1, f2⟩, hmd, hce⟩ := hval rfl
  refine sp_X10_strain hwo hbk hR hHL hfs hsh hce (by omega) (by omega) (fun w' hwo' hfs' hsh' hce' hf => ?_)
  exact hQ w' ⟨hwo', hfs', hsh', hm2.fr (fun k p1 p2 => hf k (by omega)), ⟨g5, h38.fr (fun k p1 p2 => hf k (by omega))⟩, ⟨g6, h40.fr (fun k p1 p2 => hf k (by omega))⟩, by omega, fun _ => ⟨hHL, ⟨g7, f1.fr (fun k p1 p2 => hf k (by omega)), f2⟩, hmd.fr (fun k p1 p2 => hf k (by omega)), fun t t1 t2 => (hce' t t1 t2).no id (fun _ => trivial)⟩⟩ (fun k hk => hf k (by omega))
theorem sp_X1_seek (hbr : wb_Br w pa bt mo th be bh) (hbs : wb_BS w) (hbk : wb_Bk w 4 n c s sd sf bo tu g) (hR : wb_BR n c s sd sf) (hK : wb_rp g K) (htu : 1 ≤ tu) (hwk : wb_Wk w n c s sd sf tu K hl tu ct mt) (hbt : 0 ≤ bt ∧ bt ≤ tu) (hval : bt = tu → wb_cg n c s sd sf K hl mo th be bh)
    (hQ : ∀ (w' : wb_W) (pa' mo' th' be' bh' mt' : Int), wb_cg n c s sd sf K hl mo' th' be' bh' → wb_Br w' pa' tu mo' th' be' bh' → wb_BS w' → wb_Wk w' n c s sd sf tu K hl tu tu mt' → (∀ k, (k < 29 ∨ k = 81 ∨ 89 ≤ k) → w' k = w k) → Q none N w') : wb_M G M_X1_seek [.ref 82] N w Q := by
  unfold wb_M
  have hn := hR.1
  have htm := hwk.2.2.2.2.2.2.1
  have hHL : wb_HL hl n c sd sf := (hwk.2.2.2.2.2.2.2 rfl).1
  have hbr' := hbr
  unfold wb_Br at hbr'
  have lp : ∀ w0 : wb_W, wb_Wk w0 n c s sd sf tu K hl tu tu tu → (∀ k, (k < 29 ∨ k = 81 ∨ 89 ≤ k) → w0 k = w k) → ∀ i, i ≤ 9 → ∀ (w1 : wb_W) (pa1 mo1 th1 be1 bh1 : Int), 1 ≤ i → i ≤ (if n < 1 then 1 else n) + 1 → (-1 ≤ mo1 ∧ mo1 ≤ 8) → ((mo1 = -1 ∧ i ≤ (if n < 1 then 1 else n) ∧ ∀ m t, 1 ≤ m → m < i → 0 ≤ t → t < 3 → wb_NH n c s sd sf K hl m t) ∨ (1 ≤ mo1 ∧ wb_cg n c s sd sf K hl mo1 th1 be1 bh1)) → wb_Br w1 pa1 tu mo1 th1 be1 bh1 → wb_BS w1 → (∀ k, (k < 82 ∨ 89 ≤ k) → w1 k = w0 k) → wb_V G M_X1_seek 47 [(0, .ref 82), (1, .int (wb_i i))] [] N w1 0 0 Q := by
    intro w0 hwk0 ef0
    refine wb_up 9 _ ?_
    intro i ih hi w1 pa1 mo1 th1 be1 bh1 hi0 hin hmr hv hbr1 hbs1 ef
    have hwk1 : wb_Wk w1 n c s sd sf tu K hl tu tu tu := hwk0.fr (fun k p1 p2 => ef k (by omega))
    have hbk1 : wb_Bk w1 4 n c s sd sf bo tu g := hbk.fr (fun k p1 p2 => (ef k (by omega)).trans (ef0 k (by omega)))
    have hbr1' := hbr1
    unfold wb_Br at hbr1'
    have lp2 : i < n → ∀ j, j ≤ 3 → ∀ (w1 : wb_W) (pa1 mo1 th1 be1 bh1 : Int), 0 ≤ j → (-1 ≤ mo1 ∧ mo1 ≤ 8) → ((mo1 = -1 ∧ ∀ m t, 1 ≤ m → 0 ≤ t → t < 3 → (m < i ∨ (m = i ∧ t < j)) → wb_NH n c s sd sf K hl m t) ∨ (1 ≤ mo1 ∧ wb_cg n c s sd sf K hl mo1 th1 be1 bh1)) → wb_Br w1 pa1 tu mo1 th1 be1 bh1 → wb_BS w1 → (∀ k, (k < 82 ∨ 89 ≤ k) → w1 k = w0 k) → wb_V G M_X1_seek 70 [(0, .ref 82), (1, .int (wb_i i)), (2, .int (wb_i j))] [] N w1 0 0 Q := by
      intro hin2
      refine wb_up 3 _ ?_
      intro j jh hj w1 pa1 mo1 th1 be1 bh1 hj0 hmr hv hbr1 hbs1 ef
      have hwk1 : wb_Wk w1 n c s sd sf tu K hl tu tu tu := hwk0.fr (fun k p1 p2 => ef k (by omega))
      obtain ⟨hwo1, -, -, -, -, -, -, hval1⟩ := hwk1
      obtain ⟨-, -, -, hce1⟩ := hval1 rfl
      have hce1 : ∀ t, 0 ≤ t → t < 3 → wb_Ce w1 hl n c s sd sf t True True := fun t t1 t2 => (hce1 t t1 t2).no (fun _ => rfl) (fun _ => rfl)
      have hbk1 : wb_Bk w1 4 n c s sd sf bo tu g := hbk.fr (fun k p1 p2 => (ef k (by omega)).trans (ef0 k (by omega)))
      have hbr1' := hbr1
      unfold wb_Br at hbr1'
      obtain ⟨⟨g83, h83⟩, ⟨la0, h85⟩, t0, o0, P0, h86⟩ := hbs1
      have hpr := wb_pa_rg (t := j) hHL hR
      have nx : wb_NH n c s sd sf K hl i j → mo1 = -1 → ∀ (w2 : wb_W) (pa2 : Int), wb_Br w2 pa2 tu mo1 th1 be1 bh1 → wb_BS w2 → (∀ k, (k < 82 ∨ 89 ≤ k) → w2 k = w0 k) → j < 3 → wb_V G M_X1_seek 70 [(0, .ref 82), (1, .int (wb_i i)), (2, .int (wb_i (j + 1)))] [] N w2 0 0 Q := fun hnh hm1 w2 pa2 hbr2 hbs2 ef2 hj3 => jh (j + 1) (by omega) (by omega) w2 pa2 mo1 th1 be1 bh1 (by omega) hmr (Or.inl ⟨hm1, fun m t m1 t1 t2 h => by by_cases e : m = i ∧ t = j; (rw [e.1, e.2]; exact hnh); (rcases hv with ⟨_, v2⟩ | ⟨v1, _⟩; (exact v2 m t m1 t1 t2 (by omega)); omega)⟩) hbr2 hbs2 ef2
      refine vi_iload_n 34 rfl rfl ?_
      refine vi_iconst 35 rfl ?_
      refine vi_icmp_ge 36 rfl (by omega) (by omega) (fun c_72 => ?_) (fun c_72 => ?_)
      · refine vi_iinc 61 rfl rfl rfl ?_
        refine vi_goto 62 rfl ?_
        exact vi_lc (ih (i + 1) (by omega) (by omega) w1 pa1 mo1 th1 be1 bh1 (by omega) (by split <;> omega) hmr (by rcases hv with ⟨v1, v2⟩ | v; (exact Or.inl ⟨v1, by split <;> omega, fun m t m1 m2 t1 t2 => v2 m t m1 t1 t2 (by omega)⟩); exact Or.inr v) hbr1 ⟨⟨g83, h83⟩, ⟨la0, h85⟩, t0, o0, P0, h86⟩ ef) ⟨rfl, rfl, trivial⟩
      · refine vi_aload_n 37 rfl rfl ?_
        refine vi_get 38 rfl f_X1_26 hbr1' rfl rfl ?_
        refine vi_if_ge 39 rfl (by omega) (fun c_79 => ?_) (fun c_79 => ?_)
        · refine vi_iinc 61 rfl rfl rfl ?_
          refine vi_goto 62 rfl ?_
          exact vi_lc (ih (i + 1) (by omega) (by omega) w1 pa1 mo1 th1 be1 bh1 (by omega) (by split <;> omega) hmr (by rcases hv with ⟨v1, v2⟩ | v; (exact Or.inl ⟨v1, by split <;> omega, fun m t m1 m2 t1 t2 => v2 m t m1 t1 t2 (by omega)⟩); exact Or.inr v) hbr1 ⟨⟨g83, h83⟩, ⟨la0, h85⟩, t0, o0, P0, h86⟩ ef) ⟨rfl, rfl, trivial⟩
        · refine vi_aload_n 40 rfl rfl ?_
          refine vi_iload_n 41 rfl rfl ?_
          refine vi_V1 42 ok_X1_hasStarts rfl c_X1_67 hbr1' rfl rfl ?_
          refine sp_X1_hasStarts hbr1 h83 hwo1 hbk1 hR hK hHL hce1 (by omega) (fun b_84 => ?_) (fun b_84 => ?_)
          · intro g2 hbr2 h832 hS0 hf2
            have hwo2 : wb_Wo b_84 hl tu tu tu := hwo1.fr (fun k hk => hf2 k (by omega) (by omega))
            have hbk2 : wb_Bk b_84 4 n c s sd sf bo tu g := hbk1.fr (fun k p1 p2 => hf2 k (by omega) (by omega))
            have hce2 : ∀ t, 0 ≤ t → t < 3 → wb_Ce b_84 hl n c s sd sf t True True := fun t t1 t2 => have hcr := wb_cp_rg hl (t := t) ⟨t1, t2⟩; (hce1 t t1 t2).fr (fun k p1 p2 => hf2 k (by omega) (by omega))
            have hbr2' := hbr2
            unfold wb_Br at hbr2'
            refine vi_if_eq 43 rfl (by omega) (fun c => absurd c (by decide)) (fun _ => ?_)
            refine vi_aload_n 44 rfl rfl ?_
            refine vi_iload_n 45 rfl rfl ?_
            refine vi_iload_n 46 rfl rfl ?_
            refine vi_V2 47 ok_X1_hasLaters rfl c_X1_71 hbr2' rfl rfl ?_
            refine sp_X1_hasLaters hbr2 (h86.fr (fun k p1 p2 => hf2 k (by omega) (by omega))) ((hf2 _ (by omega) (by omega)).trans h85) hwo2 hR hHL hce2 (by omega) (by omega) (fun b_93 => ?_) (fun b_93 => ?_)
            · intro la3 hla3 hms3 h853 hf3
              have hbr3 : wb_Br b_93 (wb_pa hl sf j) tu mo1 th1 be1 bh1 := (hf3 _ (by omega)).trans hbr2
              have hbr3' := hbr3
              unfold wb_Br at hbr3'
              have h833 : wb_Mw b_93 83 g2 := h832.fr (fun k p1 p2 => hf3 k (by omega))
              refine vi_if_eq 48 rfl (by omega) (fun c => absurd c (by decide)) (fun _ => ?_)
              refine vi_aload_n 49 rfl rfl ?_
              refine vi_iload_n 50 rfl rfl ?_
              refine vi_V1 51 ok_X1_isFound rfl c_X1_75 hbr3' rfl rfl ?_
              refine sp_X1_isFound hbr3 h853 hla3 h833 hS0 hms3 (hwo2.fr (fun k hk => hf3 k (by omega))) (hbk2.fr (fun k p1 p2 => hf3 k (by omega))) hK hR hHL (by omega) (fun b_101 => ?_) (fun b_101 => ?_)
              · intro g4 x hx1 hx2 hx3 hx4 hbr4 h834 hf4
                have hbr4' := hbr4
                unfold wb_Br at hbr4'
                refine vi_if_eq 52 rfl (by omega) (fun c => absurd c (by decide)) (fun _ => ?_)
                refine vi_aload_n 53 rfl rfl ?_
                refine vi_iload_n 54 rfl rfl ?_
                refine vi_put 55 rfl f_X1_26 hbr4' rfl rfl rfl rfl ?_
                refine vi_aload_n 56 rfl rfl ?_
                refine vi_iload_n 57 rfl rfl ?_
                refine vi_put 58 rfl f_X1_78 wb_ups rfl rfl rfl rfl ?_
                refine vi_iinc 59 rfl rfl rfl ?_
                refine vi_goto 60 rfl ?_
                first | exact vi_lc hgo ⟨rfl, rfl, rfl, trivial⟩ | exact vi_lc (jh (j + 1) (by omega) (by omega) _ (wb_pa hl sf j) i j x (wb_wp x j (wb_nxt (wb_HF n c s sd sf hl j i K x) 25 0)) (by omega) (by omega) (Or.inr ⟨by omega, Or.inr ⟨by omega, by omega, hx1, hx2, hx3, hx4, rfl, fun m t m1 t1 t2 h => by rcases hv with ⟨_, v2⟩ | ⟨v1, _⟩; (exact v2 m t m1 t1 t2 h); omega⟩⟩) wb_ups ⟨⟨g4, h834.fr (fun k p1 p2 => by rw [wb_upn (by omega), wb_upn (by omega)])⟩, ⟨la3, by rw [wb_upn (by omega), wb_upn (by omega)]; exact (hf4 _ (by omega) (by omega)).trans h853⟩, _, _, _, hms3.fr (fun k p1 p2 => by rw [wb_upn (by omega), wb_upn (by omega)]; exact hf4 k (by omega) (by omega))⟩ (fun k hk => by rw [wb_upn (by omega), wb_upn (by omega)]; exact (hf4 k (by omega) (by omega)).trans ((hf3 k (by omega)).trans ((hf2 k (by omega) (by omega)).trans (ef k hk))))) ⟨rfl, rfl, rfl, trivial⟩
              · intro g4 hno hbr4 h834 hf4
                have hgo := nx hno (by omega) b_101 _ hbr4 ⟨⟨g4, h834⟩, ⟨la3, (hf4 _ (by omega) (by omega)).trans h853⟩, _, _, _, hms3.fr (fun k p1 p2 => hf4 k (by omega) (by omega))⟩ (fun k hk => (hf4 k (by omega) (by omega)).trans ((hf3 k (by omega)).trans ((hf2 k (by omega) (by omega)).trans (ef k hk)))) (by omega)
                refine vi_if_eq 52 rfl (by omega) (fun _ => ?_) (fun c => absurd c (by decide))
                refine vi_iinc 59 rfl rfl rfl ?_
                refine vi_goto 60 rfl ?_
                first | exact vi_lc hgo ⟨rfl, rfl, rfl, trivial⟩ | exact vi_lc (jh (j + 1) (by omega) (by omega) _ (wb_pa hl sf j) i j x (wb_wp x j (wb_nxt (wb_HF n c s sd sf hl j i K x) 25 0)) (by omega) (by omega) (Or.inr ⟨by omega, Or.inr ⟨by omega, by omega, hx1, hx2, hx3, hx4, rfl, fun m t m1 t1 t2 h => by rcases hv with ⟨_, v2⟩ | ⟨v1, _⟩; (exact v2 m t m1 t1 t2 h); omega⟩⟩) wb_ups ⟨⟨g4, h834.fr (fun k p1 p2 => by rw [wb_upn (by omega), wb_upn (by omega)])⟩, ⟨la3, by rw [wb_upn (by omega), wb_upn (by omega)]; exact (hf4 _ (by omega) (by omega)).trans h853⟩, _, _, _, hms3.fr (fun k p1 p2 => by rw [wb_upn (by omega), wb_upn (by omega)]; exact hf4 k (by omega) (by omega))⟩ (fun k hk => by rw [wb_upn (by omega), wb_upn (by omega)]; exact (hf4 k (by omega) (by omega)).trans ((hf3 k (by omega)).trans ((hf2 k (by omega) (by omega)).trans (ef k hk))))) ⟨rfl, rfl, rfl, trivial⟩
            · intro la3 t3 o3 P3 hno hms3 h853 hf3
              have hgo := nx (fun y y1 y2 y3 r r1 r2 => by have p1 := wb_pr_rg (x := y) (t := j) y1; have p2 := wb_pr_rg (x := y) (t := wb_pa hl sf j) y1; (have ho : 0 ≤ wb_oth hl sf j y ∧ wb_oth hl sf j y < (if wb_pa hl sf j < 0 then 1 else 25) := by unfold wb_oth; split <;> omega); unfold wb_HF; rw [wb_ex_no.mp (hno (wb_pr y j) (wb_oth hl sf j y) p1.1 (by omega) ho.1 ho.2) r r1 (by omega), Bool.false_and]) (by omega) b_93 _ ((hf3 _ (by omega)).trans hbr2) ⟨⟨g2, h832.fr (fun k p1 p2 => hf3 k (by omega))⟩, ⟨la3, h853⟩, t3, o3, P3, hms3⟩ (fun k hk => (hf3 k (by omega)).trans ((hf2 k (by omega) (by omega)).trans (ef k hk))) (by omega)
              refine vi_if_eq 48 rfl (by omega) (fun _ => ?_) (fun c => absurd c (by decide))
              refine vi_iinc 59 rfl rfl rfl ?_
              refine vi_goto 60 rfl ?_
              first | exact vi_lc hgo ⟨rfl, rfl, rfl, trivial⟩ | exact vi_lc (jh (j + 1) (by omega) (by omega) _ (wb_pa hl sf j) i j x (wb_wp x j (wb_nxt (wb_HF n c s sd sf hl j i K x) 25 0)) (by omega) (by omega) (Or.inr ⟨by omega, Or.inr ⟨by omega, by omega, hx1, hx2, hx3, hx4, rfl, fun m t m1 t1 t2 h => by rcases hv with ⟨_, v2⟩ | ⟨v1, _⟩; (exact v2 m t m1 t1 t2 h); omega⟩⟩) wb_ups ⟨⟨g4, h834.fr (fun k p1 p2 => by rw [wb_upn (by omega), wb_upn (by omega)])⟩, ⟨la3, by rw [wb_upn (by omega), wb_upn (by omega)]; exact (hf4 _ (by omega) (by omega)).trans h853⟩, _, _, _, hms3.fr (fun k p1 p2 => by rw [wb_upn (by omega), wb_upn (by omega)]; exact hf4 k (by omega) (by omega))⟩ (fun k hk => by rw [wb_upn (by omega), wb_upn (by omega)]; exact (hf4 k (by omega) (by omega)).trans ((hf3 k (by omega)).trans ((hf2 k (by omega) (by omega)).trans (ef k hk))))) ⟨rfl, rfl, rfl, trivial⟩
          · intro g2 hbr2 h832 hS0 hf2
            have hgo := nx (fun y y1 y2 y3 => by rw [hS0 y y1 y2] at y3; cases y3) (by omega) b_84 _ hbr2 ⟨⟨g2, h832⟩, ⟨la0, (hf2 _ (by omega) (by omega)).trans h85⟩, t0, o0, P0, h86.fr (fun k p1 p2 => hf2 k (by omega) (by omega))⟩ (fun k hk => (hf2 k (by omega) (by omega)).trans (ef k hk)) (by omega)
            refine vi_if_eq 43 rfl (by omega) (fun _ => ?_) (fun c => absurd c (by decide))
            refine vi_iinc 59 rfl rfl rfl ?_
            refine vi_goto 60 rfl ?_
            first | exact vi_lc hgo ⟨rfl, rfl, rfl, trivial⟩ | exact vi_lc (jh (j + 1) (by omega) (by omega) _ (wb_pa hl sf j) i j x (wb_wp x j (wb_nxt (wb_HF n c s sd sf hl j i K x) 25 0)) (by omega) (by omega) (Or.inr ⟨by omega, Or.inr ⟨by omega, by omega, hx1, hx2, hx3, hx4, rfl, fun m t m1 t1 t2 h => by rcases hv with ⟨_, v2⟩ | ⟨v1, _⟩; (exact v2 m t m1 t1 t2 h); omega⟩⟩) wb_ups ⟨⟨g4, h834.fr (fun k p1 p2 => by rw [wb_upn (by omega), wb_upn (by omega)])⟩, ⟨la3, by rw [wb_upn (by omega), wb_upn (by omega)]; exact (hf4 _ (by omega) (by omega)).trans h853⟩, _, _, _, hms3.fr (fun k p1 p2 => by rw [wb_upn (by omega), wb_upn (by omega)]; exact hf4 k (by omega) (by omega))⟩ (fun k hk => by rw [wb_upn (by omega), wb_upn (by omega)]; exact (hf4 k (by omega) (by omega)).trans ((hf3 k (by omega)).trans ((hf2 k (by omega) (by omega)).trans (ef k hk))))) ⟨rfl, rfl, rfl, trivial⟩
    refine vi_iload_n 23 rfl rfl ?_
    refine vi_aload_n 24 rfl rfl ?_
    refine vi_get 25 rfl f_X1_29 hbr1' rfl rfl ?_
    refine vi_get 26 rfl f_X1_58 hwk1.1.1 rfl rfl ?_
    refine vi_get 27 rfl f_X1_62 hbk1.1 rfl rfl ?_
    refine vi_icmp_ge 28 rfl (by omega) (by omega) (fun c_58 => ?_) (fun c_58 => ?_)
    · exact vi_return 63 rfl rfl (Nat.zero_le _) (Nat.zero_le _) (hQ w1 pa1 mo1 th1 be1 bh1 tu (by rcases hv with ⟨v1, v3, v2⟩ | ⟨v1, v2⟩; (exact Or.inl ⟨v1, fun m t m1 m2 t1 t2 => v2 m t m1 (by first | omega | (split at v3 <;> omega)) t1 t2⟩); exact v2) hbr1 hbs1 hwk1 (fun k hk => (ef k (by omega)).trans (ef0 k hk)))
    · refine vi_aload_n 29 rfl rfl ?_
      refine vi_get 30 rfl f_X1_26 hbr1' rfl rfl ?_
      refine vi_if_ge 31 rfl (by omega) (fun c_65 => ?_) (fun c_65 => ?_)
      · exact vi_return 63 rfl rfl (Nat.zero_le _) (Nat.zero_le _) (hQ w1 pa1 mo1 th1 be1 bh1 tu (by rcases hv with ⟨v1, v3, v2⟩ | ⟨v1, v2⟩; (exact Or.inl ⟨v1, fun m t m1 m2 t1 t2 => v2 m t m1 (by first | omega | (split at v3 <;> omega)) t1 t2⟩); exact v2) hbr1 hbs1 hwk1 (fun k hk => (ef k (by omega)).trans (ef0 k hk)))
      · refine vi_iconst 32 rfl ?_
        refine vi_istore_n 33 rfl rfl ?_
        exact vi_lc (lp2 (by omega) 0 (by omega) w1 pa1 mo1 th1 be1 bh1 (by omega) hmr (by rcases hv with ⟨v1, _, v2⟩ | v; (exact Or.inl ⟨v1, fun m t m1 t1 t2 h => v2 m t m1 (by omega) t1 t2⟩); exact Or.inr v) hbr1 hbs1 ef) ⟨rfl, rfl, rfl, trivial⟩
  refine vi_aload_n 0 rfl rfl ?_
  refine vi_get 1 rfl f_X1_29 hbr' rfl rfl ?_
  refine vi_V0 2 ok_X10_chart rfl c_X1_48 hwk.1.1 rfl rfl ?_
  refine wb_wk_chart hbk hR htu hwk (fun w2 hwk2 hf2 => ?_)
  have hbr2 : wb_Br w2 pa bt mo th be bh := (hf2 _ (by omega)).trans hbr
  have hbr2' := hbr2
  unfold wb_Br at hbr2'
  have hbk2 : wb_Bk w2 4 n c s sd sf bo tu g := hbk.fr (fun k p1 p2 => hf2 k (by omega))
  refine vi_aload_n 3 rfl rfl ?_
  refine vi_get 4 rfl f_X1_51 hbr2' rfl rfl ?_
  refine vi_aload_n 5 rfl rfl ?_
  refine vi_get 6 rfl f_X1_29 hbr2' rfl rfl ?_
  refine vi_get 7 rfl f_X1_54 hwk2.1.1 rfl rfl ?_
  refine vi_icmp_ne 8 rfl (by omega) (by omega) (fun c_18 => ?_) (fun c_18 => ?_)
  · refine vi_aload_n 10 rfl rfl ?_
    refine vi_aload_n 11 rfl rfl ?_
    refine vi_get 12 rfl f_X1_29 hbr2' rfl rfl ?_
    refine vi_get 13 rfl f_X1_54 hwk2.1.1 rfl rfl ?_
    refine vi_put 14 rfl f_X1_51 hbr2' rfl rfl rfl rfl ?_
    refine vi_aload_n 15 rfl rfl ?_
    refine vi_get 16 rfl f_X1_29 wb_ups rfl rfl ?_
    refine vi_V0 17 ok_X10_strain rfl c_X1_55 ((wb_upn (by omega)).trans hwk2.1.1) rfl rfl ?_
    refine wb_wk_strain (hbk2.fr (fun k p1 p2 => wb_upn (by omega))) hR htu (hwk2.fr (fun k p1 p2 => wb_upn (by omega))) (fun w3 hwk3 hf3 => ?_)
    have hbr3 : wb_Br w3 pa tu mo th be bh := (hf3 _ (by omega)).trans wb_ups
    have hbr3' := hbr3
    unfold wb_Br at hbr3'
    refine vi_aload_n 18 rfl rfl ?_
    refine vi_iconst 19 rfl ?_
    refine vi_put 20 rfl f_X1_26 hbr3' rfl rfl rfl rfl ?_
    refine vi_iconst 21 rfl ?_
    refine vi_istore_n 22 rfl rfl ?_
    exact vi_lc (lp w3 hwk3 (fun k hk => (hf3 k (by omega)).trans ((wb_upn (by omega)).trans (hf2 k (by omega)))) 1 (by omega) _ pa (-1) th be bh (by omega) (by split <;> omega) (by omega) (Or.inl ⟨rfl, by split <;> omega, fun m t m1 m2 t1 t2 => by omega⟩) wb_ups (hbs.fr (fun k p1 p2 => (wb_upn (by omega)).trans ((hf3 k (by omega)).trans ((wb_upn (by omega)).trans (hf2 k (by omega)))))) (fun k hk => wb_upn (by omega))) ⟨rfl, rfl, trivial⟩
  · exact vi_return 9 rfl rfl (Nat.zero_le _) (Nat.zero_le _) (hQ w2 pa mo th be bh mt (hval (by omega)) (by have := hbr2; rw [show bt = tu by omega] at this; exact this) (hbs.fr (fun k p1 p2 => hf2 k (by omega))) hwk2 (fun k hk => hf2 k (by omega)))
end WBS44
