/-! ===== the class's face: changed, costs, buy, settle, hide ===== -/
section WBS52
variable {G : wb_G} {N : Nat} {w : wb_W} {Q : Option Value → Nat → wb_W → Prop}
variable {n : Int} {c s : Int → Int} {sd sf bo tu : Int} {g : Int → Int64} {K : Int → Bool} {wt : Int}
theorem sp_X11_changed {h : Int} (hx3 : wb_X3 w) (hbk : wb_Bk w 4 n c s sd sf bo tu g) (hR : wb_BR n c s sd sf) (hK : wb_rp g K) (htu : 1 ≤ tu) (hI : wb_In w n c s sd sf tu K wt) (hh : -2147483648 ≤ h ∧ h ≤ 2147483647)
    (k2 : ¬ (0 ≤ h ∧ h ≤ 3) → Q (some (.int (wb_i (-2)))) N w) (k3 : ∀ (w' : wb_W), (0 ≤ h ∧ h ≤ 3) → (∃ x, (0 ≤ x ∧ x < 15625) ∧ wb_ft n c s sd sf K 0 0 x = true) → wb_In w' n c s sd sf tu K tu → (∀ k, (k < 29 ∨ 96 ≤ k) → w' k = w k) → Q (some (.int (wb_i (-3)))) N w')
    (k1 : ∀ (w' : wb_W) (hl mo th be bh : Int), (0 ≤ h ∧ h ≤ 3) → (∀ x, 0 ≤ x → x < 15625 → wb_ft n c s sd sf K 0 0 x = false) → wb_HL hl n c sd sf → wb_cg n c s sd sf K hl mo th be bh → wb_In w' n c s sd sf tu K tu → (∀ k, (k < 29 ∨ 96 ≤ k) → w' k = w k) → Q (some (.int (wb_i (if mo < 0 then -5 else if h = 0 then mo else if h = 1 then th else if h = 2 then be else bh)))) N w') : wb_M G M_X11_changed [.ref 3, .int (wb_i h)] N w Q := by
  unfold wb_M
  have hn := hR.1
  obtain ⟨fs29, h29⟩ := hI.r29
  have hnr := wb_nx0_rg (wb_ft n c s sd sf K 0 0)
  have tl : ∀ (w3 : wb_W) (pa bt mo th be bh : Int), (0 ≤ h ∧ h ≤ 3) → wb_X3 w3 → wb_Br w3 pa bt mo th be bh → Q (some (.int (wb_i (if h = 0 then mo else if h = 1 then th else if h = 2 then be else bh)))) N w3 → wb_V G M_X11_changed 51 [(0, .ref 3), (1, .int (wb_i h))] [] N w3 0 0 Q := by
    intro w3 pa bt mo th be bh hh3 y3 hy hQ2
    unfold wb_Br at hy
    refine vi_iload_n 24 rfl rfl ?_
    by_cases j0 : h = 0
    · rw [if_pos j0] at hQ2
      subst j0
      refine vi_tab 25 80 rfl (by omega) (Or.inr ⟨by decide, by decide, _, rfl, by decide⟩) ?_
      refine vi_aload_n 26 rfl rfl ?_
      refine vi_get 27 rfl f_X11_52 y3 rfl rfl ?_
      refine vi_get 28 rfl f_X11_234 hy rfl rfl ?_
      exact vi_ireturn 29 rfl rfl rfl (Nat.zero_le _) (Nat.zero_le _) (hQ2)
    · rw [if_neg j0] at hQ2
      by_cases j1 : h = 1
      · rw [if_pos j1] at hQ2
        subst j1
        refine vi_tab 25 88 rfl (by omega) (Or.inr ⟨by decide, by decide, _, rfl, by decide⟩) ?_
        refine vi_aload_n 30 rfl rfl ?_
        refine vi_get 31 rfl f_X11_52 y3 rfl rfl ?_
        refine vi_get 32 rfl f_X11_237 hy rfl rfl ?_
        exact vi_ireturn 33 rfl rfl rfl (Nat.zero_le _) (Nat.zero_le _) (hQ2)
      · rw [if_neg j1] at hQ2
        by_cases j2 : h = 2
        · rw [if_pos j2] at hQ2
          subst j2
          refine vi_tab 25 96 rfl (by omega) (Or.inr ⟨by decide, by decide, _, rfl, by decide⟩) ?_
          refine vi_aload_n 34 rfl rfl ?_
          refine vi_get 35 rfl f_X11_52 y3 rfl rfl ?_
          refine vi_get 36 rfl f_X11_240 hy rfl rfl ?_
          exact vi_ireturn 37 rfl rfl rfl (Nat.zero_le _) (Nat.zero_le _) (hQ2)
        · rw [if_neg j2] at hQ2
          refine vi_tab 25 104 rfl (by omega) (Or.inl ⟨by omega, by decide⟩) ?_
          refine vi_aload_n 38 rfl rfl ?_
          refine vi_get 39 rfl f_X11_52 y3 rfl rfl ?_
          refine vi_get 40 rfl f_X11_243 hy rfl rfl ?_
          exact vi_ireturn 41 rfl rfl rfl (Nat.zero_le _) (Nat.zero_le _) (hQ2)
  refine vi_iload_n 0 rfl rfl ?_
  refine vi_iconst 1 rfl ?_
  refine vi_S2 2 ok_X11_within rfl c_X11_67 rfl ?_
  refine sp_X11_within (by omega) (by omega) (fun b_2 => ?_) (fun b_2 => ?_)
  · refine vi_if_ne 3 rfl (by omega) (fun _ => ?_) (fun c => absurd c (by decide))
    refine vi_aload_n 6 rfl rfl ?_
    refine vi_get 7 rfl f_X11_36 hx3 rfl rfl ?_
    refine vi_V0 8 ok_X10_update rfl c_X11_174 h29 rfl rfl ?_
    refine wb_updI hbk hR hK htu hI (fun w2 hI2 hf2 => ?_)
    have x2 : wb_X3 w2 := (hf2 3 (by omega)).trans hx3
    have hI2' := hI2
    obtain ⟨⟨hl, ct, mt, hwk⟩, hIS, ⟨pa, bt, mo, th, be, bh, hbr, hbs, b3, b4⟩, hIW⟩ := hI2'
    have hbk2 : wb_Bk w2 4 n c s sd sf bo tu g := hbk.fr (fun k p1 p2 => hf2 k (by omega))
    have hHL : wb_HL hl n c sd sf := (hwk.2.2.2.2.2.2.2 rfl).1
    refine vi_aload_n 9 rfl rfl ?_
    refine vi_get 10 rfl f_X11_36 x2 rfl rfl ?_
    refine vi_V0 11 ok_X10_first rfl c_X11_198 hwk.1.1 rfl rfl ?_
    refine sp_X10_first hwk ?_
    refine vi_if_lt 12 rfl (by omega) (fun c_25 => ?_) (fun c_25 => ?_)
    · have hno := wb_nx_none (F := wb_ft n c s sd sf K 0 0) (by omega)
      refine vi_aload_n 15 rfl rfl ?_
      refine vi_get 16 rfl f_X11_52 x2 rfl rfl ?_
      refine vi_V0 17 ok_X1_seek rfl c_X11_231 hbr rfl rfl ?_
      refine sp_X1_seek hbr hbs hbk2 hR hK htu hwk b3 (fun q => b4 q hl hHL) (fun w3 pa3 mo3 th3 be3 bh3 mt3 hcg hbr3 hbs3 hwk3 hf3 => ?_)
      have x3 : wb_X3 w3 := (hf3 3 (by omega)).trans x2
      have hI3 : wb_In w3 n c s sd sf tu K tu := ⟨⟨hl, tu, mt3, hwk3⟩, hIS.fr (by omega) (hf3 _ (by omega)), ⟨pa3, tu, mo3, th3, be3, bh3, hbr3, hbs3, by omega, fun _ hl2 hHL2 => by rw [wb_HL_eq hHL2 hHL]; exact hcg⟩, hIW.fr (by omega) (fun k p1 p2 => hf3 k (by omega))⟩
      have hQ2 := k1 w3 hl mo3 th3 be3 bh3 b_2 hno hHL hcg hI3 (fun k hk => (hf3 k (by omega)).trans (hf2 k (by omega)))
      have hmr : -1 ≤ mo3 ∧ mo3 ≤ 8 := (by rcases hcg with ⟨z, _⟩ | ⟨z, _⟩ <;> omega)
      have hbr3' := hbr3
      unfold wb_Br at hbr3'
      refine vi_aload_n 18 rfl rfl ?_
      refine vi_get 19 rfl f_X11_52 x3 rfl rfl ?_
      refine vi_get 20 rfl f_X11_234 hbr3' rfl rfl ?_
      refine vi_if_ge 21 rfl (by omega) (fun c_45 => ?_) (fun c_45 => ?_)
      · rw [if_neg (by omega)] at hQ2
        exact vi_lc (tl w3 _ _ _ _ _ _ b_2 x3 hbr3 hQ2) ⟨rfl, rfl, trivial⟩
      · refine vi_bipush 22 rfl (by decide) ?_
        exact vi_ireturn 23 rfl rfl rfl (Nat.zero_le _) (Nat.zero_le _) (by rw [if_pos (by omega)] at hQ2; exact hQ2)
    · refine vi_bipush 13 rfl (by decide) ?_
      exact vi_ireturn 14 rfl rfl rfl (Nat.zero_le _) (Nat.zero_le _) (k3 w2 b_2 (wb_nx_some (by omega)) hI2 (fun k hk => hf2 k (by omega)))
  · refine vi_if_ne 3 rfl (by omega) (fun c => absurd c (by decide)) (fun _ => ?_)
    refine vi_bipush 4 rfl (by decide) ?_
    exact vi_ireturn 5 rfl rfl rfl (Nat.zero_le _) (Nat.zero_le _) (k2 b_2)
theorem sp_X11_costs {v m e : Int} (hx3 : wb_X3 w) (hbk : wb_Bk w 4 n c s sd sf bo tu g) (hR : wb_BR n c s sd sf) (hK : wb_rp g K) (htu : 1 ≤ tu) (hI : wb_In w n c s sd sf tu K wt) (hv : -2147483648 ≤ v ∧ v ≤ 2147483647) (hm : -2147483648 ≤ m ∧ m ≤ 2147483647) (he : -2147483648 ≤ e ∧ e ≤ 2147483647)
    (ku : ¬ ((0 ≤ v ∧ v < 2) ∧ (0 ≤ m ∧ m < n)) → Q (some (.int (wb_i (-1)))) N w) (k2 : ((0 ≤ v ∧ v < 2) ∧ (0 ≤ m ∧ m < n)) → ¬ (0 ≤ e ∧ e ≤ 1) → Q (some (.int (wb_i (-2)))) N w)
    (k1 : ∀ (w' : wb_W) (r : Int), ((0 ≤ v ∧ v < 2) ∧ (0 ≤ m ∧ m < n)) → (0 ≤ e ∧ e ≤ 1) → wb_ab (wb_ft n c s sd sf K 0 0) e (fun x => wb_pp c m (wb_vp v x)) r → wb_In w' n c s sd sf tu K tu → (∀ k, (k < 29 ∨ 96 ≤ k) → w' k = w k) → Q (some (.int (wb_i r))) N w') : wb_M G M_X11_costs [.ref 3, .int (wb_i v), .int (wb_i m), .int (wb_i e)] N w Q := by
  unfold wb_M
  have hn := hR.1
  obtain ⟨fs29, h29⟩ := hI.r29
  have hnr := wb_nx0_rg (wb_ft n c s sd sf K 0 0)
  refine vi_iload_n 0 rfl rfl ?_
  refine vi_S1 1 ok_X11_isWare rfl c_X11_185 rfl ?_
  refine sp_X11_isWare (by omega) (fun b_1 => ?_) (fun b_1 => ?_)
  · refine vi_if_eq 2 rfl (by omega) (fun c => absurd c (by decide)) (fun _ => ?_)
    refine vi_aload_n 3 rfl rfl ?_
    refine vi_iload_n 4 rfl rfl ?_
    refine vi_V1 5 ok_X11_isMonth rfl c_X11_83 hx3 rfl rfl ?_
    refine sp_X11_isMonth ‹_› ‹_› (by omega) (by omega) (fun b_9 => ?_) (fun b_9 => ?_)
    · refine vi_if_ne 6 rfl (by omega) (fun _ => ?_) (fun c => absurd c (by decide))
      refine vi_iload_n 9 rfl rfl ?_
      refine vi_iconst 10 rfl ?_
      refine vi_S2 11 ok_X11_within rfl c_X11_67 rfl ?_
      refine sp_X11_within (by omega) (by omega) (fun b_19 => ?_) (fun b_19 => ?_)
      · refine vi_if_ne 12 rfl (by omega) (fun _ => ?_) (fun c => absurd c (by decide))
        refine vi_aload_n 15 rfl rfl ?_
        refine vi_get 16 rfl f_X11_36 hx3 rfl rfl ?_
        refine vi_V0 17 ok_X10_update rfl c_X11_174 h29 rfl rfl ?_
        refine wb_updI hbk hR hK htu hI (fun w2 hI2 hf2 => ?_)
        have x2 : wb_X3 w2 := (hf2 3 (by omega)).trans hx3
        obtain ⟨hl, ct, mt, hwk⟩ := hI2.wk
        obtain ⟨-, -, hmd, -⟩ := hwk.2.2.2.2.2.2.2 rfl
        have hwo := hwk.1
        have hbk2 : wb_Bk w2 4 n c s sd sf bo tu g := hbk.fr (fun k p1 p2 => hf2 k (by omega))
        have hQ2 := fun r hr => k1 w2 r ⟨b_1, b_9⟩ b_19 hr hI2 (fun k hk => hf2 k (by omega))
        refine vi_aload_n 18 rfl rfl ?_
        refine vi_get 19 rfl f_X11_36 x2 rfl rfl ?_
        refine vi_V0 20 ok_X10_first rfl c_X11_198 hwo.1 rfl rfl ?_
        refine sp_X10_first hwk ?_
        refine vi_if_ge 21 rfl (by omega) (fun c_42 => ?_) (fun c_42 => ?_)
        · obtain ⟨x0, hx0, hF0⟩ := wb_nx_some (F := wb_ft n c s sd sf K 0 0) (by omega)
          refine vi_aload_n 24 rfl rfl ?_
          refine vi_get 25 rfl f_X11_36 x2 rfl rfl ?_
          refine vi_iload_n 26 rfl rfl ?_
          refine vi_iload_n 27 rfl rfl ?_
          refine vi_iload_n 28 rfl rfl ?_
          refine vi_V3 29 ok_X10_endOfPrices rfl c_X11_249 hwo.1 rfl rfl ?_
          refine sp_X10_endOfPrices hwo hmd hbk2 hR b_1 (by omega) b_19 ?_
          exact vi_ireturn 30 rfl rfl rfl (Nat.zero_le _) (Nat.zero_le _) (hQ2 _ (Or.inr (by have hvx : 0 ≤ wb_vp v x0 ∧ wb_vp v x0 < 125 := (by unfold wb_vp; split <;> omega); rcases wb_ef_bs (P := wb_mw (wb_ft n c s sd sf K 0 0) v) (e := e) (f := fun p => wb_pp c m p) 125 (fun j j1 j2 => (wb_pp_rg hR j1).1) with ⟨z1, z2⟩ | ⟨z1, z2⟩; (have := z1 _ hvx.1 (by omega); rw [(wb_mwF b_1 hvx).mpr ⟨x0, hx0.1, hx0.2, hF0, rfl⟩] at this; cases this); exact wb_bs_vp b_1 z2)))
        · refine vi_bipush 22 rfl (by decide) ?_
          exact vi_ireturn 23 rfl rfl rfl (Nat.zero_le _) (Nat.zero_le _) (hQ2 (-5) (Or.inl ⟨wb_nx_none (by omega), rfl⟩))
      · refine vi_if_ne 12 rfl (by omega) (fun c => absurd c (by decide)) (fun _ => ?_)
        refine vi_bipush 13 rfl (by decide) ?_
        exact vi_ireturn 14 rfl rfl rfl (Nat.zero_le _) (Nat.zero_le _) (k2 (by omega) b_19)
    · refine vi_if_ne 6 rfl (by omega) (fun c => absurd c (by decide)) (fun _ => ?_)
      refine vi_iconst 7 rfl ?_
      exact vi_ireturn 8 rfl rfl rfl (Nat.zero_le _) (Nat.zero_le _) (ku (by omega))
  · refine vi_if_eq 2 rfl (by omega) (fun _ => ?_) (fun c => absurd c (by decide))
    refine vi_iconst 7 rfl ?_
    exact vi_ireturn 8 rfl rfl rfl (Nat.zero_le _) (Nat.zero_le _) (ku (by omega))
theorem sp_X11_buy {t p q e : Int} (hx3 : wb_X3 w) (hbk : wb_Bk w 4 n c s sd sf bo tu g) (hR : wb_BR n c s sd sf) (hK : wb_rp g K) (htu : 1 ≤ tu) (hI : wb_In w n c s sd sf tu K wt) (ht : -2147483648 ≤ t ∧ t ≤ 2147483647) (hp : -2147483648 ≤ p ∧ p ≤ 2147483647) (hq : -2147483648 ≤ q ∧ q ≤ 2147483647) (he : -2147483648 ≤ e ∧ e ≤ 2147483647)
    (ku : ¬ (0 ≤ t ∧ t < 3) → Q (some (.int (wb_i (-1)))) N w) (k2 : (0 ≤ t ∧ t < 3) → ¬ ((0 ≤ p ∧ p ≤ 20) ∧ (0 ≤ q ∧ q ≤ 20) ∧ (0 ≤ e ∧ e ≤ 1)) → Q (some (.int (wb_i (-2)))) N w)
    (k1 : ∀ (w' : wb_W) (r : Int), (0 ≤ t ∧ t < 3) → ((0 ≤ p ∧ p ≤ 20) ∧ (0 ≤ q ∧ q ≤ 20) ∧ (0 ≤ e ∧ e ≤ 1)) → wb_ab (wb_ft n c s sd sf K 0 0) e (fun x => p * (wb_pr x t / 5) + q * (wb_pr x t % 5)) r → wb_In w' n c s sd sf tu K tu → (∀ k, (k < 29 ∨ 96 ≤ k) → w' k = w k) → Q (some (.int (wb_i r))) N w') : wb_M G M_X11_buy [.ref 3, .int (wb_i t), .int (wb_i p), .int (wb_i q), .int (wb_i e)] N w Q := by
  unfold wb_M
  obtain ⟨fs29, h29⟩ := hI.r29
  have hx9 : wb_xL G 2 = 9 := rfl
  have m4 : wb_mo 4 = 20 := rfl
  have m5 : wb_mo 5 = 20 := rfl
  refine vi_iload_n 0 rfl rfl ?_
  refine vi_S1 1 ok_X11_isThing rfl c_X11_94 rfl ?_
  refine sp_X11_isThing (by omega) (fun b_1 => ?_) (fun b_1 => ?_)
  · refine vi_if_ne 2 rfl (by omega) (fun _ => ?_) (fun c => absurd c (by decide))
    refine vi_iload_n 5 rfl rfl ?_
    refine vi_gets 6 rfl st_X11_63 (Or.inr ⟨rfl, rfl⟩) ?_
    refine vi_iconst 7 rfl ?_
    refine vi_xald 8 rfl rfl (by omega) ?_
    rw [wb_xc (by omega)]
    refine vi_S2 9 ok_X11_within rfl c_X11_67 rfl ?_
    refine sp_X11_within (by omega) (by omega) (fun b_15 => ?_) (fun b_15 => ?_)
    · refine vi_if_eq 10 rfl (by omega) (fun c => absurd c (by decide)) (fun _ => ?_)
      refine vi_iload_n 11 rfl rfl ?_
      refine vi_gets 12 rfl st_X11_63 (Or.inr ⟨rfl, rfl⟩) ?_
      refine vi_iconst 13 rfl ?_
      refine vi_xald 14 rfl rfl (by omega) ?_
      rw [wb_xc (by omega)]
      refine vi_S2 15 ok_X11_within rfl c_X11_67 rfl ?_
      refine sp_X11_within (by omega) (by omega) (fun b_27 => ?_) (fun b_27 => ?_)
      · refine vi_if_eq 16 rfl (by omega) (fun c => absurd c (by decide)) (fun _ => ?_)
        refine vi_iload 17 rfl rfl ?_
        refine vi_iconst 18 rfl ?_
        refine vi_S2 19 ok_X11_within rfl c_X11_67 rfl ?_
        refine sp_X11_within (by omega) (by omega) (fun b_36 => ?_) (fun b_36 => ?_)
        · refine vi_if_ne 20 rfl (by omega) (fun _ => ?_) (fun c => absurd c (by decide))
          refine vi_aload_n 23 rfl rfl ?_
          refine vi_get 24 rfl f_X11_36 hx3 rfl rfl ?_
          refine vi_V0 25 ok_X10_update rfl c_X11_174 h29 rfl rfl ?_
          refine wb_updI hbk hR hK htu hI (fun w2 hI2 hf2 => ?_)
          have x2 : wb_X3 w2 := (hf2 3 (by omega)).trans hx3
          obtain ⟨hl, ct, mt, hwk⟩ := hI2.wk
          obtain ⟨-, ⟨g5, h38, hrp⟩, -, -⟩ := hwk.2.2.2.2.2.2.2 rfl
          have hwo := hwk.1
          have hQ2 := fun r hr => k1 w2 r b_1 (by omega) hr hI2 (fun k hk => hf2 k (by omega))
          refine vi_aload_n 26 rfl rfl ?_
          refine vi_get 27 rfl f_X11_36 x2 rfl rfl ?_
          refine vi_iload_n 28 rfl rfl ?_
          refine vi_V1 29 ok_X10_pairs rfl c_X11_252 hwo.1 rfl rfl ?_
          refine sp_X10_pairs hwo h38 hrp b_1 (fun z hz hb => ?_)
          have hbx : ∀ r, 0 ≤ r → r < 25 → (wb_bt z r = true ↔ ∃ x : Int, 0 ≤ x ∧ x < 15625 ∧ wb_ft n c s sd sf K 0 0 x = true ∧ wb_pr x t = r) := (fun r r1 r2 => by rw [hb r r1 r2]; exact wb_rwF ⟨r1, r2⟩)
          have hz2 : 0 ≤ z ∧ z < 33554432 := hz
          refine vi_istore 30 rfl rfl ?_
          refine vi_iload 31 rfl rfl ?_
          refine vi_if_ne 32 rfl (by omega) (fun c_64 => ?_) (fun c_64 => ?_)
          · refine vi_iload 35 rfl rfl ?_
            refine vi_iload_n 36 rfl rfl ?_
            refine vi_iload_n 37 rfl rfl ?_
            refine vi_iload 38 rfl rfl ?_
            refine vi_S4 39 ok_X11_endOfNeeds rfl c_X11_255 rfl ?_
            refine sp_X11_endOfNeeds (by omega) (by omega) (by omega) (by omega) ?_
            exact vi_ireturn 40 rfl rfl rfl (Nat.zero_le _) (Nat.zero_le _) (hQ2 _ (Or.inr (by rw [wb_en_ef]; have hex : ∃ j : Int, (0 ≤ j ∧ j < 25) ∧ wb_bt z j = true := Classical.byContradiction (fun hn => c_64 (wb_bt_ext (k := 25) (y := 0) hz (by decide) (fun j j1 j2 => by rw [wb_bt0]; cases hh : wb_bt z j with | false => rfl | true => exact absurd ⟨j, ⟨j1, by omega⟩, hh⟩ hn))); obtain ⟨j, hj, hjb⟩ := hex; rcases wb_ef_bs (P := wb_bt z) (e := e) (f := fun r => p * (r / 5) + q * (r % 5)) 25 (fun j j1 j2 => Int.add_nonneg (Int.mul_nonneg (by omega) (by omega)) (Int.mul_nonneg (by omega) (by omega))) with ⟨z1, z2⟩ | ⟨z1, ⟨y, y1, y2, y3, y4⟩, z3⟩; (rw [z1 j hj.1 (by omega)] at hjb; cases hjb); (obtain ⟨x, x1, x2, x3, x4⟩ := (hbx y y1 (by omega)).mp y3; refine ⟨⟨x, x1, by omega, x3, by show p * (wb_pr x t / 5) + q * (wb_pr x t % 5) = _; rw [x4]; exact y4⟩, fun u u1 u2 u3 => ?_⟩; have hpr := wb_pr_rg (x := u) (t := t) u1; exact z3 _ hpr.1 (by omega) ((hbx _ hpr.1 (by omega)).mpr ⟨u, u1, by omega, u3, rfl⟩)))))
          · refine vi_bipush 33 rfl (by decide) ?_
            exact vi_ireturn 34 rfl rfl rfl (Nat.zero_le _) (Nat.zero_le _) (hQ2 (-5) (Or.inl ⟨fun x x1 x2 => by cases hF : wb_ft n c s sd sf K 0 0 x with | false => rfl | true => (have hpr := wb_pr_rg (x := x) (t := t) x1; have := (hbx _ hpr.1 (by omega)).mpr ⟨x, x1, x2, hF, rfl⟩; rw [show z = 0 by omega, wb_bt0] at this; cases this), rfl⟩))
        · refine vi_if_ne 20 rfl (by omega) (fun c => absurd c (by decide)) (fun _ => ?_)
          refine vi_bipush 21 rfl (by decide) ?_
          exact vi_ireturn 22 rfl rfl rfl (Nat.zero_le _) (Nat.zero_le _) (k2 b_1 (by omega))
      · refine vi_if_eq 16 rfl (by omega) (fun _ => ?_) (fun c => absurd c (by decide))
        refine vi_bipush 21 rfl (by decide) ?_
        exact vi_ireturn 22 rfl rfl rfl (Nat.zero_le _) (Nat.zero_le _) (k2 b_1 (by omega))
    · refine vi_if_eq 10 rfl (by omega) (fun _ => ?_) (fun c => absurd c (by decide))
      refine vi_bipush 21 rfl (by decide) ?_
      exact vi_ireturn 22 rfl rfl rfl (Nat.zero_le _) (Nat.zero_le _) (k2 b_1 (by omega))
  · refine vi_if_ne 2 rfl (by omega) (fun c => absurd c (by decide)) (fun _ => ?_)
    refine vi_iconst 3 rfl ?_
    exact vi_ireturn 4 rfl rfl rfl (Nat.zero_le _) (Nat.zero_le _) (ku b_1)
theorem sp_X11_settle {h : Int} (hx3 : wb_X3 w) (hbk : wb_Bk w 4 n c s sd sf bo tu g) (hR : wb_BR n c s sd sf) (hK : wb_rp g K) (htu : 1 ≤ tu) (hI : wb_In w n c s sd sf tu K wt) (hh : -2147483648 ≤ h ∧ h ≤ 2147483647)
    (k2 : ¬ (0 ≤ h ∧ h ≤ 2) → Q (some (.int (wb_i (-2)))) N w) (k3 : (0 ≤ h ∧ h ≤ 2) → n = 0 → Q (some (.int (wb_i (-3)))) N w)
    (k5 : ∀ (w' : wb_W), (0 ≤ h ∧ h ≤ 2) → 1 ≤ n → (∀ x, 0 ≤ x → x < 15625 → wb_ft n c s sd sf K 0 0 x = false) → wb_In w' n c s sd sf tu K tu → (∀ k, (k < 29 ∨ 96 ≤ k) → w' k = w k) → Q (some (.int (wb_i (-5)))) N w')
    (k1 : ∀ (w' : wb_W) (hl r : Int), (0 ≤ h ∧ h ≤ 2) → 1 ≤ n → (∃ x, (0 ≤ x ∧ x < 15625) ∧ wb_ft n c s sd sf K 0 0 x = true) → wb_HL hl n c sd sf → wb_sg n c s sd sf K hl r → wb_In w' n c s sd sf tu K tu → (∀ k, (k < 29 ∨ 96 ≤ k) → w' k = w k) → Q (some (.int (wb_i (if h = 2 then wb_MP n c s sd sf K hl r else if h = 0 then r / 3 else r % 3)))) N w') : wb_M G M_X11_settle [.ref 3, .int (wb_i h)] N w Q := by
  unfold wb_M
  have hn := hR.1
  obtain ⟨fs29, h29⟩ := hI.r29
  have hnr := wb_nx0_rg (wb_ft n c s sd sf K 0 0)
  refine vi_iload_n 0 rfl rfl ?_
  refine vi_iconst 1 rfl ?_
  refine vi_S2 2 ok_X11_within rfl c_X11_67 rfl ?_
  refine sp_X11_within (by omega) (by omega) (fun b_2 => ?_) (fun b_2 => ?_)
  · refine vi_if_ne 3 rfl (by omega) (fun _ => ?_) (fun c => absurd c (by decide))
    refine vi_aload_n 6 rfl rfl ?_
    refine vi_get 7 rfl f_X11_10 hx3 rfl rfl ?_
    refine vi_get 8 rfl f_X11_71 hbk.1 rfl rfl ?_
    refine vi_if_ne 9 rfl (by omega) (fun c_18 => ?_) (fun c_18 => ?_)
    · refine vi_aload_n 12 rfl rfl ?_
      refine vi_get 13 rfl f_X11_36 hx3 rfl rfl ?_
      refine vi_V0 14 ok_X10_update rfl c_X11_174 h29 rfl rfl ?_
      refine wb_updI hbk hR hK htu hI (fun w2 hI2 hf2 => ?_)
      have x2 : wb_X3 w2 := (hf2 3 (by omega)).trans hx3
      have hI2' := hI2
      obtain ⟨⟨hl, ct, mt, hwk⟩, hIS, hIB, xt, wf, cf, ms, ff, hwe, h90, b3, b4⟩ := hI2'
      have hbk2 : wb_Bk w2 4 n c s sd sf bo tu g := hbk.fr (fun k p1 p2 => hf2 k (by omega))
      have hHL : wb_HL hl n c sd sf := (hwk.2.2.2.2.2.2.2 rfl).1
      refine vi_aload_n 15 rfl rfl ?_
      refine vi_get 16 rfl f_X11_36 x2 rfl rfl ?_
      refine vi_V0 17 ok_X10_first rfl c_X11_198 hwk.1.1 rfl rfl ?_
      refine sp_X10_first hwk ?_
      refine vi_if_ge 18 rfl (by omega) (fun c_38 => ?_) (fun c_38 => ?_)
      · have hsome := wb_nx_some (F := wb_ft n c s sd sf K 0 0) (by omega)
        refine vi_aload_n 21 rfl rfl ?_
        refine vi_get 22 rfl f_X11_59 x2 rfl rfl ?_
        refine vi_V0 23 ok_X9_settling rfl c_X11_259 hwe.1 rfl rfl ?_
        refine sp_X9_settling hwe h90 hbk2 hR hK htu hwk b3 (fun q => b4 q hl hHL) (by omega) (fun w3 wf3 cf3 ms3 ff3 mt3 r hsg hwv3 hwe3 h903 hwk3 hf3 => ?_)
        have x3 : wb_X3 w3 := (hf3 3 (by omega)).trans x2
        have hI3 : wb_In w3 n c s sd sf tu K tu := ⟨⟨hl, tu, mt3, hwk3⟩, hIS.fr (by omega) (hf3 _ (by omega)), hIB.fr (by omega) (fun k p1 p2 => hf3 k (by omega)), tu, wf3, cf3, ms3, ff3, hwe3, h903, by omega, fun _ hl2 hHL2 => by rw [wb_HL_eq hHL2 hHL]; exact hwv3⟩
        have hQ2 := k1 w3 hl r b_2 (by omega) hsome hHL hsg hI3 (fun k hk => (hf3 k (by omega)).trans (hf2 k (by omega)))
        have hrr := hsg.1
        refine vi_istore_n 24 rfl rfl ?_
        refine vi_iload_n 25 rfl rfl ?_
        refine vi_iconst 26 rfl ?_
        refine vi_icmp_ne 27 rfl (by omega) (by omega) (fun c_54 => ?_) (fun c_54 => ?_)
        · refine vi_iload_n 33 rfl rfl ?_
          refine vi_if_ne 34 rfl (by omega) (fun c_67 => ?_) (fun c_67 => ?_)
          · refine vi_iload_n 39 rfl rfl ?_
            refine vi_iconst 40 rfl ?_
            refine vi_irem 41 rfl (by omega) (by omega) ?_
            exact vi_ireturn 42 rfl rfl rfl (Nat.zero_le _) (Nat.zero_le _) (by first | (rw [if_neg (by omega), if_pos (by omega)] at hQ2; exact hQ2) | (rw [if_neg (by omega), if_neg (by omega)] at hQ2; exact hQ2))
          · refine vi_iload_n 35 rfl rfl ?_
            refine vi_iconst 36 rfl ?_
            refine vi_idiv 37 rfl (by omega) (by omega) ?_
            refine vi_goto 38 rfl ?_
            exact vi_ireturn 42 rfl rfl rfl (Nat.zero_le _) (Nat.zero_le _) (by first | (rw [if_neg (by omega), if_pos (by omega)] at hQ2; exact hQ2) | (rw [if_neg (by omega), if_neg (by omega)] at hQ2; exact hQ2))
        · refine vi_aload_n 28 rfl rfl ?_
          refine vi_get 29 rfl f_X11_59 x3 rfl rfl ?_
          refine vi_iload_n 30 rfl rfl ?_
          refine vi_V1 31 ok_X9_mostLeft rfl c_X11_262 hwe3.1 rfl rfl ?_
          refine sp_X9_mostLeft hwe3 (by omega) ?_
          rw [wb_wv_m hwv3 hrr]
          exact vi_ireturn 32 rfl rfl rfl (Nat.zero_le _) (Nat.zero_le _) (by rw [if_pos (by omega)] at hQ2; exact hQ2)
      · refine vi_bipush 19 rfl (by decide) ?_
        exact vi_ireturn 20 rfl rfl rfl (Nat.zero_le _) (Nat.zero_le _) (k5 w2 b_2 (by omega) (wb_nx_none (by omega)) hI2 (fun k hk => hf2 k (by omega)))
    · refine vi_bipush 10 rfl (by decide) ?_
      exact vi_ireturn 11 rfl rfl rfl (Nat.zero_le _) (Nat.zero_le _) (k3 b_2 (by omega))
  · refine vi_if_ne 3 rfl (by omega) (fun c => absurd c (by decide)) (fun _ => ?_)
    refine vi_bipush 4 rfl (by decide) ?_
    exact vi_ireturn 5 rfl rfl rfl (Nat.zero_le _) (Nat.zero_le _) (k2 b_2)
theorem sp_X11_hide {pu h : Int} (hx3 : wb_X3 w) (hbk : wb_Bk w 4 n c s sd sf bo tu g) (hR : wb_BR n c s sd sf) (hK : wb_rp g K) (htu : 1 ≤ tu) (hI : wb_In w n c s sd sf tu K wt) (hpu : -2147483648 ≤ pu ∧ pu ≤ 2147483647) (hh : -2147483648 ≤ h ∧ h ≤ 2147483647)
    (k2 : ¬ ((0 ≤ pu ∧ pu ≤ 999) ∧ (0 ≤ h ∧ h ≤ 3)) → Q (some (.int (wb_i (-2)))) N w) (k3 : ((0 ≤ pu ∧ pu ≤ 999) ∧ (0 ≤ h ∧ h ≤ 3)) → n = 0 → Q (some (.int (wb_i (-3)))) N w)
    (k1 : ∀ (w' : wb_W) (hl r : Int), ((0 ≤ pu ∧ pu ≤ 999) ∧ (0 ≤ h ∧ h ≤ 3)) → 1 ≤ n → wb_HL hl n c sd sf → wb_hd n c s sd sf K hl pu (27 * n) r → wb_In w' n c s sd sf tu K tu → (∀ k, (k < 29 ∨ 96 ≤ k) → w' k = w k) → Q (some (.int (wb_i (if r < 0 then -5 else if h = 0 then r / 9 / 3 else if h = 1 then r / 9 % 3 else if h = 2 then r % 9 + 1 else wb_HP n c s sd sf K hl r)))) N w') : wb_M G M_X11_hide [.ref 3, .int (wb_i pu), .int (wb_i h)] N w Q := by
  unfold wb_M
  have hn := hR.1
  obtain ⟨fs29, h29⟩ := hI.r29
  have tl : ∀ (w3 : wb_W) (hl r : Int) (wf3 cf3 ms3 ff3 : Int → Int), (0 ≤ h ∧ h ≤ 3) → (0 ≤ r ∧ r < 27 * n) → wb_X3 w3 → wb_We w3 tu wf3 cf3 ms3 ff3 → wb_wv n c s sd sf K hl ms3 ff3 → Q (some (.int (wb_i (if h = 0 then r / 9 / 3 else if h = 1 then r / 9 % 3 else if h = 2 then r % 9 + 1 else wb_HP n c s sd sf K hl r)))) N w3 → wb_V G M_X11_hide 57 [(0, .ref 3), (2, .int (wb_i h)), (3, .int (wb_i r))] [] N w3 0 0 Q := by
    intro w3 hl r wf3 cf3 ms3 ff3 hh3 hrr y3 hwe3 hwv3 hQ2
    refine vi_iload_n 28 rfl rfl ?_
    by_cases j0 : h = 0
    · rw [if_pos j0] at hQ2
      subst j0
      refine vi_tab 29 84 rfl (by omega) (Or.inr ⟨by decide, by decide, _, rfl, by decide⟩) ?_
      refine vi_iload_n 30 rfl rfl ?_
      refine vi_bipush 31 rfl (by decide) ?_
      refine vi_idiv 32 rfl (by omega) (by omega) ?_
      refine vi_iconst 33 rfl ?_
      refine vi_idiv 34 rfl (by omega) (by omega) ?_
      exact vi_ireturn 35 rfl rfl rfl (Nat.zero_le _) (Nat.zero_le _) (hQ2)
    · rw [if_neg j0] at hQ2
      by_cases j1 : h = 1
      · rw [if_pos j1] at hQ2
        subst j1
        refine vi_tab 29 91 rfl (by omega) (Or.inr ⟨by decide, by decide, _, rfl, by decide⟩) ?_
        refine vi_iload_n 36 rfl rfl ?_
        refine vi_bipush 37 rfl (by decide) ?_
        refine vi_idiv 38 rfl (by omega) (by omega) ?_
        refine vi_iconst 39 rfl ?_
        refine vi_irem 40 rfl (by omega) (by omega) ?_
        exact vi_ireturn 41 rfl rfl rfl (Nat.zero_le _) (Nat.zero_le _) (hQ2)
      · rw [if_neg j1] at hQ2
        by_cases j2 : h = 2
        · rw [if_pos j2] at hQ2
          subst j2
          refine vi_tab 29 98 rfl (by omega) (Or.inr ⟨by decide, by decide, _, rfl, by decide⟩) ?_
          refine vi_iload_n 42 rfl rfl ?_
          refine vi_bipush 43 rfl (by decide) ?_
          refine vi_irem 44 rfl (by omega) (by omega) ?_
          refine vi_iconst 45 rfl ?_
          refine vi_iadd 46 rfl ?_
          exact vi_ireturn 47 rfl rfl rfl (Nat.zero_le _) (Nat.zero_le _) (hQ2)
        · rw [if_neg j2] at hQ2
          refine vi_tab 29 105 rfl (by omega) (Or.inl ⟨by omega, by decide⟩) ?_
          refine vi_aload_n 48 rfl rfl ?_
          refine vi_get 49 rfl f_X11_59 y3 rfl rfl ?_
          refine vi_iload_n 50 rfl rfl ?_
          refine vi_V1 51 ok_X9_hidden rfl c_X11_268 hwe3.1 rfl rfl ?_
          refine sp_X9_hidden hwe3 (by omega) ?_
          rw [wb_wv_h hwv3 (by omega)]
          exact vi_ireturn 52 rfl rfl rfl (Nat.zero_le _) (Nat.zero_le _) (hQ2)
  refine vi_iload_n 0 rfl rfl ?_
  refine vi_sipush 1 rfl (by decide) ?_
  refine vi_S2 2 ok_X11_within rfl c_X11_67 rfl ?_
  refine sp_X11_within (by omega) (by omega) (fun b_4 => ?_) (fun b_4 => ?_)
  · refine vi_if_eq 3 rfl (by omega) (fun c => absurd c (by decide)) (fun _ => ?_)
    refine vi_iload_n 4 rfl rfl ?_
    refine vi_iconst 5 rfl ?_
    refine vi_S2 6 ok_X11_within rfl c_X11_67 rfl ?_
    refine sp_X11_within (by omega) (by omega) (fun b_12 => ?_) (fun b_12 => ?_)
    · refine vi_if_ne 7 rfl (by omega) (fun _ => ?_) (fun c => absurd c (by decide))
      refine vi_aload_n 10 rfl rfl ?_
      refine vi_get 11 rfl f_X11_10 hx3 rfl rfl ?_
      refine vi_get 12 rfl f_X11_71 hbk.1 rfl rfl ?_
      refine vi_if_ne 13 rfl (by omega) (fun c_28 => ?_) (fun c_28 => ?_)
      · refine vi_aload_n 16 rfl rfl ?_
        refine vi_get 17 rfl f_X11_36 hx3 rfl rfl ?_
        refine vi_V0 18 ok_X10_update rfl c_X11_174 h29 rfl rfl ?_
        refine wb_updI hbk hR hK htu hI (fun w2 hI2 hf2 => ?_)
        have x2 : wb_X3 w2 := (hf2 3 (by omega)).trans hx3
        have hI2' := hI2
        obtain ⟨⟨hl, ct, mt, hwk⟩, hIS, hIB, xt, wf, cf, ms, ff, hwe, h90, b3, b4⟩ := hI2'
        have hbk2 : wb_Bk w2 4 n c s sd sf bo tu g := hbk.fr (fun k p1 p2 => hf2 k (by omega))
        have hHL : wb_HL hl n c sd sf := (hwk.2.2.2.2.2.2.2 rfl).1
        refine vi_aload_n 19 rfl rfl ?_
        refine vi_get 20 rfl f_X11_59 x2 rfl rfl ?_
        refine vi_iload_n 21 rfl rfl ?_
        refine vi_V1 22 ok_X9_hiding rfl c_X11_265 hwe.1 rfl rfl ?_
        refine sp_X9_hiding hwe h90 hbk2 hR hK htu hwk b3 (fun q => b4 q hl hHL) b_4 (fun w3 wf3 cf3 ms3 ff3 mt3 r hsg hwv3 hwe3 h903 hwk3 hf3 => ?_)
        have x3 : wb_X3 w3 := (hf3 3 (by omega)).trans x2
        have hI3 : wb_In w3 n c s sd sf tu K tu := ⟨⟨hl, tu, mt3, hwk3⟩, hIS.fr (by omega) (hf3 _ (by omega)), hIB.fr (by omega) (fun k p1 p2 => hf3 k (by omega)), tu, wf3, cf3, ms3, ff3, hwe3, h903, by omega, fun _ hl2 hHL2 => by rw [wb_HL_eq hHL2 hHL]; exact hwv3⟩
        have hQ2 := k1 w3 hl r ⟨b_4, b_12⟩ (by omega) hHL hsg hI3 (fun k hk => (hf3 k (by omega)).trans (hf2 k (by omega)))
        have hrr : -1 ≤ r ∧ r < 27 * n := (by rcases hsg with ⟨z, _⟩ | ⟨z, _⟩ <;> omega)
        refine vi_istore_n 23 rfl rfl ?_
        refine vi_iload_n 24 rfl rfl ?_
        refine vi_if_ge 25 rfl (by omega) (fun c_51 => ?_) (fun c_51 => ?_)
        · rw [if_neg (by omega)] at hQ2
          exact vi_lc (tl w3 hl r _ _ _ _ b_12 (by omega) x3 hwe3 hwv3 hQ2) ⟨rfl, rfl, rfl, trivial⟩
        · refine vi_bipush 26 rfl (by decide) ?_
          exact vi_ireturn 27 rfl rfl rfl (Nat.zero_le _) (Nat.zero_le _) (by rw [if_pos (by omega)] at hQ2; exact hQ2)
      · refine vi_bipush 14 rfl (by decide) ?_
        exact vi_ireturn 15 rfl rfl rfl (Nat.zero_le _) (Nat.zero_le _) (k3 (by omega) (by omega))
    · refine vi_if_ne 7 rfl (by omega) (fun c => absurd c (by decide)) (fun _ => ?_)
      refine vi_bipush 8 rfl (by decide) ?_
      exact vi_ireturn 9 rfl rfl rfl (Nat.zero_le _) (Nat.zero_le _) (k2 (by omega))
  · refine vi_if_eq 3 rfl (by omega) (fun _ => ?_) (fun c => absurd c (by decide))
    refine vi_bipush 8 rfl (by decide) ?_
    exact vi_ireturn 9 rfl rfl rfl (Nat.zero_le _) (Nat.zero_le _) (k2 (by omega))
end WBS52
