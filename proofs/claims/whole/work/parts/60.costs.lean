/-! ===== the reference: costs, buy, told, images ===== -/
theorem wb_sk_s {f : Int → Int} {x : Int} (hx : 0 ≤ x) : wb_sk f (x + 1).toNat = wb_sk f x.toNat + f x := by
  rw [show (x + 1).toNat = x.toNat + 1 by omega, wb_sk, show ((x.toNat : Nat) : Int) = x by omega]
theorem wb_vp_rg {v x : Int} (hx : 0 ≤ x ∧ x < 15625) : 0 ≤ wb_vp v x ∧ wb_vp v x < 125 := by unfold wb_vp; split <;> omega
section WBS60
variable {G : wb_G} {N : Nat} {w : wb_W} {Q : Option Value → Nat → wb_W → Prop}
variable {n sd sf cnt ru ld mo db tm tt tr L H fi ch : Int} {c s sg rs im ik : Int → Int}
theorem sp_X12_costOf {x v m : Int} (hrf : wb_Rf w n sd sf cnt ru ld mo db tm tt tr L H fi ch) (h97 : w 97 = aI 72 c) (hx : 0 ≤ x ∧ x < 15625) (hv : 0 ≤ v ∧ v < 2) (hm : 0 ≤ m ∧ m < 8) (hQ : Q (some (.int (wb_i (wb_pp c m (wb_vp v x))))) N w) : wb_M G M_X12_costOf [.ref 96, .int (wb_i x), .int (wb_i v), .int (wb_i m)] N w Q := by
  unfold wb_M
  unfold wb_Rf at hrf
  have lp : ∀ i, i ≤ 3 → ∀ z : Int, 0 ≤ i → z = wb_sk (fun i => c (9 * m + 6 + i) * wb_dg x (3 * v + i)) i.toNat → wb_V G M_X12_costOf 6 [(0, .ref 96), (1, .int (wb_i x)), (2, .int (wb_i v)), (3, .int (wb_i m)), (4, .int (wb_i z)), (5, .int (wb_i i))] [] N w 0 0 Q := by
    refine wb_up 3 _ ?_
    intro i ih hi z hi0 hz
    have hst := wb_sk_s (f := fun i => c (9 * m + 6 + i) * wb_dg x (3 * v + i)) hi0
    refine vi_iload 4 rfl rfl ?_
    refine vi_iconst 5 rfl ?_
    refine vi_icmp_ge 6 rfl (by omega) (by omega) (fun c_9 => ?_) (fun c_9 => ?_)
    · refine vi_iload 30 rfl rfl ?_
      exact vi_ireturn 31 rfl rfl rfl (Nat.zero_le _) (Nat.zero_le _) (by obtain rfl : i = 3 := (by omega); rw [hz]; refine wb_e ?_ hQ; show 0 + c (9 * m + 6 + 0) * wb_dg x (3 * v + 0) + c (9 * m + 6 + 1) * wb_dg x (3 * v + 1) + c (9 * m + 6 + 2) * wb_dg x (3 * v + 2) = _; rw [wb_dg_vp hx hv (by omega), wb_dg_vp hx hv (by omega), wb_dg_vp hx hv (by omega)]; unfold wb_pp; rw [show 9 * m + 6 + 0 = 9 * m + 6 by omega, show 9 * m + 6 + 1 = 9 * m + 7 by omega, show 9 * m + 6 + 2 = 9 * m + 8 by omega, Int.zero_add])
    · refine vi_iload 7 rfl rfl ?_
      refine vi_aload_n 8 rfl rfl ?_
      refine vi_get 9 rfl f_X12_7 hrf rfl rfl ?_
      refine vi_bipush 10 rfl (by decide) ?_
      refine vi_iload_n 11 rfl rfl ?_
      refine vi_imul 12 rfl ?_
      refine vi_bipush 13 rfl (by decide) ?_
      refine vi_iadd 14 rfl ?_
      refine vi_iload 15 rfl rfl ?_
      refine vi_iadd 16 rfl ?_
      refine vi_iald 17 rfl h97 (by omega) ?_
      refine vi_iload_n 18 rfl rfl ?_
      refine vi_iconst 19 rfl ?_
      refine vi_iload_n 20 rfl rfl ?_
      refine vi_imul 21 rfl ?_
      refine vi_iload 22 rfl rfl ?_
      refine vi_iadd 23 rfl ?_
      refine vi_S2 24 ok_X12_digit rfl c_X12_94 rfl ?_
      refine sp_X12_digit (by omega) (by omega) ?_
      refine vi_imul 25 rfl ?_
      refine vi_iadd 26 rfl ?_
      refine vi_istore 27 rfl rfl ?_
      refine vi_iinc 28 rfl rfl rfl ?_
      refine vi_goto 29 rfl ?_
      exact vi_lc (ih (i + 1) (by omega) (by omega) _ (by omega) (by rw [hst, hz])) ⟨rfl, rfl, rfl, rfl, rfl, rfl, trivial⟩
  refine vi_iconst 0 rfl ?_
  refine vi_istore 1 rfl rfl ?_
  refine vi_iconst 2 rfl ?_
  refine vi_istore 3 rfl rfl ?_
  exact vi_lc (lp 0 (by omega) 0 (by omega) rfl) ⟨rfl, rfl, rfl, rfl, rfl, rfl, trivial⟩
theorem sp_X12_cost {x v m : Int} (hra : wb_Ra w c s sg rs im ik) (hrr : wb_RR w n c s sd sf cnt ru (wb_KK rs ru)) (hR : wb_BR n c s sd sf) (hx : -2147483648 ≤ x ∧ x ≤ 2147483647) (hv : -2147483648 ≤ v ∧ v ≤ 2147483647) (hm : -2147483648 ≤ m ∧ m ≤ 2147483647)
    (hQ : Q (some (.int (wb_i (if (0 ≤ x ∧ x < 15625) ∧ (0 ≤ v ∧ v < 2) ∧ (0 ≤ m ∧ m < n) then wb_pp c m (if v = 0 then x / 125 else x % 125) else -1)))) N w) : wb_M G M_X12_cost [.ref 96, .int (wb_i x), .int (wb_i v), .int (wb_i m)] N w Q := by
  unfold wb_M
  obtain ⟨ld, tt, tr, L, H, fi, ch, hrf, -⟩ := hrr.op
  have hrf' := hrf
  unfold wb_Rf at hrf'
  have hn := hR.1
  refine vi_iload_n 0 rfl rfl ?_
  refine vi_S1 1 ok_X12_isMixture rfl c_X12_154 rfl ?_
  refine sp_X12_isMixture (by omega) (fun b_1 => ?_) (fun b_1 => ?_)
  · refine vi_if_eq 2 rfl (by omega) (fun c => absurd c (by decide)) (fun _ => ?_)
    refine vi_iload_n 3 rfl rfl ?_
    refine vi_iconst 4 rfl ?_
    refine vi_iconst 5 rfl ?_
    refine vi_S3 6 ok_X12_in rfl c_X12_56 rfl ?_
    refine sp_X12_in (by omega) (by omega) (by omega) (fun b_10 => ?_) (fun b_10 => ?_)
    · refine vi_if_eq 7 rfl (by omega) (fun c => absurd c (by decide)) (fun _ => ?_)
      refine vi_aload_n 8 rfl rfl ?_
      refine vi_iload_n 9 rfl rfl ?_
      refine vi_V1 10 ok_X12_isMonth rfl c_X12_67 hrf' rfl rfl ?_
      refine sp_X12_isMonth hrf hn (by omega) (fun b_18 => ?_) (fun b_18 => ?_)
      · refine vi_if_eq 11 rfl (by omega) (fun c => absurd c (by decide)) (fun _ => ?_)
        refine vi_aload_n 12 rfl rfl ?_
        refine vi_iload_n 13 rfl rfl ?_
        refine vi_iload_n 14 rfl rfl ?_
        refine vi_iload_n 15 rfl rfl ?_
        refine vi_V3 16 ok_X12_costOf rfl c_X12_182 hrf' rfl rfl ?_
        refine sp_X12_costOf hrf hra.1 (by omega) (by omega) (by omega) ?_
        refine vi_goto 17 rfl ?_
        exact vi_ireturn 19 rfl rfl rfl (Nat.zero_le _) (Nat.zero_le _) (by first | (rw [if_neg (by omega)] at hQ; exact hQ) | (rw [if_pos (by omega)] at hQ; exact hQ))
      · refine vi_if_eq 11 rfl (by omega) (fun _ => ?_) (fun c => absurd c (by decide))
        refine vi_iconst 18 rfl ?_
        exact vi_ireturn 19 rfl rfl rfl (Nat.zero_le _) (Nat.zero_le _) (by first | (rw [if_neg (by omega)] at hQ; exact hQ) | (rw [if_pos (by omega)] at hQ; exact hQ))
    · refine vi_if_eq 7 rfl (by omega) (fun _ => ?_) (fun c => absurd c (by decide))
      refine vi_iconst 18 rfl ?_
      exact vi_ireturn 19 rfl rfl rfl (Nat.zero_le _) (Nat.zero_le _) (by first | (rw [if_neg (by omega)] at hQ; exact hQ) | (rw [if_pos (by omega)] at hQ; exact hQ))
  · refine vi_if_eq 2 rfl (by omega) (fun _ => ?_) (fun c => absurd c (by decide))
    refine vi_iconst 18 rfl ?_
    exact vi_ireturn 19 rfl rfl rfl (Nat.zero_le _) (Nat.zero_le _) (by first | (rw [if_neg (by omega)] at hQ; exact hQ) | (rw [if_pos (by omega)] at hQ; exact hQ))
theorem sp_X12_costs {v m e r : Int} (hra : wb_Ra w c s sg rs im ik) (hrr : wb_RR w n c s sd sf cnt ru (wb_KK rs ru)) (hR : wb_BR n c s sd sf) (hru : wb_RuO rs ru) (hv : -2147483648 ≤ v ∧ v ≤ 2147483647) (hm : -2147483648 ≤ m ∧ m ≤ 2147483647) (he : -2147483648 ≤ e ∧ e ≤ 2147483647) (hD : (¬ ((0 ≤ v ∧ v < 2) ∧ (0 ≤ m ∧ m < n)) ∧ r = -1) ∨ (((0 ≤ v ∧ v < 2) ∧ (0 ≤ m ∧ m < n)) ∧ ¬ (0 ≤ e ∧ e ≤ 1) ∧ r = -2) ∨ (((0 ≤ v ∧ v < 2) ∧ (0 ≤ m ∧ m < n)) ∧ (0 ≤ e ∧ e ≤ 1) ∧ wb_ab (wb_ft n c s sd sf (wb_KK rs ru) 0 0) e (fun x => wb_pp c m (wb_vp v x)) r)) (hQ : ∀ (w' : wb_W), wb_Ra w' c s sg rs im ik → wb_RR w' n c s sd sf cnt ru (wb_KK rs ru) → (∀ k, (k < 96 ∨ 108 ≤ k) → w' k = w k) → Q (some (.int (wb_i r))) N w') : wb_M G M_X12_costs [.ref 96, .int (wb_i v), .int (wb_i m), .int (wb_i e)] N w Q := by
  unfold wb_M
  obtain ⟨ld, tt, tr, L, H, fi, ch, hrf0, -⟩ := hrr.op
  have hrf := hrf0
  unfold wb_Rf at hrf
  have hn := hR.1
  have d1 : ¬ ((0 ≤ v ∧ v < 2) ∧ (0 ≤ m ∧ m < n)) → r = -1 := fun q => by
    rcases hD with h | h | h
    · exact h.2
    · exact absurd h.1 q
    · exact absurd h.1 q
  have d2 : ((0 ≤ v ∧ v < 2) ∧ (0 ≤ m ∧ m < n)) → ¬ (0 ≤ e ∧ e ≤ 1) → r = -2 := fun p q => by
    rcases hD with h | h | h
    · exact absurd p h.1
    · exact h.2.2
    · exact absurd h.2.1 q
  have d3 : ((0 ≤ v ∧ v < 2) ∧ (0 ≤ m ∧ m < n)) → (0 ≤ e ∧ e ≤ 1) → wb_ab (wb_ft n c s sd sf (wb_KK rs ru) 0 0) e (fun x => wb_pp c m (wb_vp v x)) r := fun p q => by
    rcases hD with h | h | h
    · exact absurd p h.1
    · exact absurd q h.2.1
    · exact h.2.2
  clear hD
  have tl : ((0 ≤ v ∧ v < 2) ∧ (0 ≤ m ∧ m < n)) → (0 ≤ e ∧ e ≤ 1) → wb_V G M_X12_costs 31 [(0, .ref 96), (1, .int (wb_i v)), (2, .int (wb_i m)), (3, .int (wb_i e))] [] N w 0 0 Q := by
    intro gv ge
    have hr := d3 gv ge
    obtain ⟨f, hfd⟩ : ∃ f : Int → Int, f = fun x => wb_pp c m (wb_vp v x) := ⟨_, rfl⟩
    rw [← hfd] at hr
    have hf : ∀ x, 0 ≤ x → x < 15625 → wb_pp c m (wb_vp v x) = f x ∧ 0 ≤ f x ∧ f x ≤ 1188 := fun x x1 x2 => by
      have a := wb_vp_rg (v := v) (x := x) ⟨x1, x2⟩
      have b := wb_pp_rg (m := m) hR a.1
      rw [hfd]; exact ⟨rfl, b⟩
    clear hfd
    refine vi_aload_n 18 rfl rfl ?_
    refine vi_V0 19 ok_X12_lay rfl c_X12_160 hrf rfl rfl ?_
    refine sp_X12_lay hra hrr hR hru (fun w1 hra1 hrl1 ef1 => ?_)
    obtain ⟨tt1, tr1, L1, H1, ch1, ag, kp, ft, me, op, hrf10, h101, h102, h103, h104, h105, hag, hkp, hft, -⟩ := id hrl1
    have hrf1 := hrf10
    unfold wb_Rf at hrf1
    have hcr := wb_ct_rg (wb_ft n c s sd sf (wb_KK rs ru) 0 0) 15625
    have fin : Q (some (.int (wb_i r))) N w1 := hQ w1 hra1 (Or.inr hrl1) ef1
    have lp : wb_ct (wb_ft n c s sd sf (wb_KK rs ru) 0 0) 15625 ≠ 0 → ∀ x, x ≤ 15625 → ∀ b : Int, 0 ≤ x → (-1 ≤ wb_ef (wb_ft n c s sd sf (wb_KK rs ru) 0 0) e f x.toNat ∧ wb_ef (wb_ft n c s sd sf (wb_KK rs ru) 0 0) e f x.toNat ≤ 1188) → ((wb_ef (wb_ft n c s sd sf (wb_KK rs ru) 0 0) e f x.toNat = -1 ∧ b = -6) ∨ (0 ≤ wb_ef (wb_ft n c s sd sf (wb_KK rs ru) 0 0) e f x.toNat ∧ b = wb_ef (wb_ft n c s sd sf (wb_KK rs ru) 0 0) e f x.toNat)) → wb_V G M_X12_costs 48 [(0, .ref 96), (1, .int (wb_i v)), (2, .int (wb_i m)), (3, .int (wb_i e)), (4, .int (wb_i b)), (5, .int (wb_i x))] [] N w1 0 0 Q := by
      intro gc
      refine wb_up 15625 _ ?_
      intro x ih hx b hx0 hef hb
      have hst := wb_ef_s (F := (wb_ft n c s sd sf (wb_KK rs ru) 0 0)) (e := e) (f := f) hx0
      have hfx := fun q : x < 15625 => hft x hx0 q
      have hgx := fun q : x < 15625 => hf x hx0 q
      have hend : ¬ x < 15625 → b = r := fun q => by
        have h := wb_ef_ab (fun j j1 j2 => (hf j j1 j2).2.1) gc hr
        rw [show x.toNat = 15625 by omega] at hb; omega
      cases hF : (wb_ft n c s sd sf (wb_KK rs ru) 0 0) x with
      | true =>
        rw [hF] at hst hfx
        rw [if_pos rfl] at hst
        unfold wb_eo at hst
        rw [show wb_b2 true = 1 from rfl] at hfx
        refine vi_iload 27 rfl rfl ?_
        refine vi_sipush 28 rfl (by decide) ?_
        refine vi_icmp_ge 29 rfl (by omega) (by omega) (fun c_53 => ?_) (fun c_53 => ?_)
        · refine vi_iload 58 rfl rfl ?_
          exact vi_ireturn 59 rfl rfl rfl (Nat.zero_le _) (Nat.zero_le _) (wb_e (hend (by omega)) fin)
        · have hfx1 := hfx (by omega)
          obtain ⟨hg1, hg2, hg3⟩ := hgx (by omega)
          refine vi_aload_n 30 rfl rfl ?_
          refine vi_get 31 rfl f_X12_39 hrf1 rfl rfl ?_
          refine vi_iload 32 rfl rfl ?_
          refine vi_zald 33 rfl h103 (by omega) ?_
          refine vi_if_eq 34 rfl (by omega) (fun c_63 => by exfalso; omega) (fun c_63 => ?_)
          refine vi_aload_n 35 rfl rfl ?_
          refine vi_iload 36 rfl rfl ?_
          refine vi_iload_n 37 rfl rfl ?_
          refine vi_iload_n 38 rfl rfl ?_
          refine vi_V3 39 ok_X12_costOf rfl c_X12_182 hrf1 rfl rfl ?_
          refine sp_X12_costOf hrf10 hra1.1 (by omega) (by omega) (by omega) ?_
          rw [hg1]
          refine vi_istore 40 rfl rfl ?_
          refine vi_iload 41 rfl rfl ?_
          refine vi_if_lt 42 rfl (by omega) (fun c_78 => ?_) (fun c_78 => ?_)
          · refine vi_iload 52 rfl rfl ?_
            refine vi_goto 53 rfl ?_
            refine vi_istore 55 rfl rfl ?_
            refine vi_iinc 56 rfl rfl rfl ?_
            refine vi_goto 57 rfl ?_
            exact vi_lc (ih (x + 1) (by omega) (by omega) _ (by omega) (by rw [hst]; split <;> (try split) <;> (try split) <;> omega) (by rw [hst]; split <;> (try split) <;> (try split) <;> omega)) ⟨rfl, rfl, rfl, rfl, rfl, rfl, trivial⟩
          · refine vi_iload_n 43 rfl rfl ?_
            refine vi_if_ne 44 rfl (by omega) (fun c_82 => ?_) (fun c_82 => ?_)
            · refine vi_iload 49 rfl rfl ?_
              refine vi_iload 50 rfl rfl ?_
              refine vi_icmp_le 51 rfl (by omega) (by omega) (fun c_99 => ?_) (fun c_99 => ?_)
              · refine vi_iload 54 rfl rfl ?_
                refine vi_istore 55 rfl rfl ?_
                refine vi_iinc 56 rfl rfl rfl ?_
                refine vi_goto 57 rfl ?_
                exact vi_lc (ih (x + 1) (by omega) (by omega) _ (by omega) (by rw [hst]; split <;> (try split) <;> (try split) <;> omega) (by rw [hst]; split <;> (try split) <;> (try split) <;> omega)) ⟨rfl, rfl, rfl, rfl, rfl, rfl, trivial⟩
              · refine vi_iload 52 rfl rfl ?_
                refine vi_goto 53 rfl ?_
                refine vi_istore 55 rfl rfl ?_
                refine vi_iinc 56 rfl rfl rfl ?_
                refine vi_goto 57 rfl ?_
                exact vi_lc (ih (x + 1) (by omega) (by omega) _ (by omega) (by rw [hst]; split <;> (try split) <;> (try split) <;> omega) (by rw [hst]; split <;> (try split) <;> (try split) <;> omega)) ⟨rfl, rfl, rfl, rfl, rfl, rfl, trivial⟩
            · refine vi_iload 45 rfl rfl ?_
              refine vi_iload 46 rfl rfl ?_
              refine vi_icmp_ge 47 rfl (by omega) (by omega) (fun c_89 => ?_) (fun c_89 => ?_)
              · refine vi_iload 54 rfl rfl ?_
                refine vi_istore 55 rfl rfl ?_
                refine vi_iinc 56 rfl rfl rfl ?_
                refine vi_goto 57 rfl ?_
                exact vi_lc (ih (x + 1) (by omega) (by omega) _ (by omega) (by rw [hst]; split <;> (try split) <;> (try split) <;> omega) (by rw [hst]; split <;> (try split) <;> (try split) <;> omega)) ⟨rfl, rfl, rfl, rfl, rfl, rfl, trivial⟩
              · refine vi_goto 48 rfl ?_
                refine vi_iload 52 rfl rfl ?_
                refine vi_goto 53 rfl ?_
                refine vi_istore 55 rfl rfl ?_
                refine vi_iinc 56 rfl rfl rfl ?_
                refine vi_goto 57 rfl ?_
                exact vi_lc (ih (x + 1) (by omega) (by omega) _ (by omega) (by rw [hst]; split <;> (try split) <;> (try split) <;> omega) (by rw [hst]; split <;> (try split) <;> (try split) <;> omega)) ⟨rfl, rfl, rfl, rfl, rfl, rfl, trivial⟩
      | false =>
        rw [hF] at hst hfx
        rw [if_neg (by decide)] at hst
        rw [show wb_b2 false = 0 from rfl] at hfx
        refine vi_iload 27 rfl rfl ?_
        refine vi_sipush 28 rfl (by decide) ?_
        refine vi_icmp_ge 29 rfl (by omega) (by omega) (fun c_53 => ?_) (fun c_53 => ?_)
        · refine vi_iload 58 rfl rfl ?_
          exact vi_ireturn 59 rfl rfl rfl (Nat.zero_le _) (Nat.zero_le _) (wb_e (hend (by omega)) fin)
        · have hfx1 := hfx (by omega)
          refine vi_aload_n 30 rfl rfl ?_
          refine vi_get 31 rfl f_X12_39 hrf1 rfl rfl ?_
          refine vi_iload 32 rfl rfl ?_
          refine vi_zald 33 rfl h103 (by omega) ?_
          refine vi_if_eq 34 rfl (by omega) (fun c_63 => ?_) (fun c_63 => by exfalso; omega)
          refine vi_iinc 56 rfl rfl rfl ?_
          refine vi_goto 57 rfl ?_
          exact vi_lc (ih (x + 1) (by omega) (by omega) _ (by omega) (by rw [hst]; omega) (by rw [hst]; omega)) ⟨rfl, rfl, rfl, rfl, rfl, rfl, trivial⟩
    refine vi_if_ne 20 rfl (by omega) (fun c_35 => ?_) (fun c_35 => ?_)
    · refine vi_bipush 23 rfl (by decide) ?_
      refine vi_istore 24 rfl rfl ?_
      refine vi_iconst 25 rfl ?_
      refine vi_istore 26 rfl rfl ?_
      exact vi_lc (lp (by omega) 0 (by omega) _ (by omega) (by show -1 ≤ (-1 : Int) ∧ (-1 : Int) ≤ 1188; omega) (Or.inl ⟨rfl, by omega⟩)) ⟨rfl, rfl, rfl, rfl, rfl, rfl, trivial⟩
    · refine vi_bipush 21 rfl (by decide) ?_
      exact vi_ireturn 22 rfl rfl rfl (Nat.zero_le _) (Nat.zero_le _) (wb_e (wb_ab_no (by omega) hr).symm fin)
  have hf0 : Q (some (.int (wb_i r))) N w := hQ w hra hrr (fun _ _ => rfl)
  refine vi_iload_n 0 rfl rfl ?_
  refine vi_iconst 1 rfl ?_
  refine vi_iconst 2 rfl ?_
  refine vi_S3 3 ok_X12_in rfl c_X12_56 rfl ?_
  refine sp_X12_in (by omega) (by omega) (by omega) (fun b_3 => ?_) (fun b_3 => ?_)
  · refine vi_if_eq 4 rfl (by omega) (fun c => absurd c (by decide)) (fun _ => ?_)
    refine vi_aload_n 5 rfl rfl ?_
    refine vi_iload_n 6 rfl rfl ?_
    refine vi_V1 7 ok_X12_isMonth rfl c_X12_67 hrf rfl rfl ?_
    refine sp_X12_isMonth hrf0 hn (by omega) (fun b_11 => ?_) (fun b_11 => ?_)
    · refine vi_if_ne 8 rfl (by omega) (fun _ => ?_) (fun c => absurd c (by decide))
      refine vi_iload_n 11 rfl rfl ?_
      refine vi_iconst 12 rfl ?_
      refine vi_iconst 13 rfl ?_
      refine vi_S3 14 ok_X12_in rfl c_X12_56 rfl ?_
      refine sp_X12_in (by omega) (by omega) (by omega) (fun b_22 => ?_) (fun b_22 => ?_)
      · refine vi_if_ne 15 rfl (by omega) (fun _ => ?_) (fun c => absurd c (by decide))
        exact vi_lc (tl (by omega) (by omega)) ⟨rfl, rfl, rfl, rfl, trivial⟩
      · refine vi_if_ne 15 rfl (by omega) (fun c => absurd c (by decide)) (fun _ => ?_)
        refine vi_bipush 16 rfl (by decide) ?_
        exact vi_ireturn 17 rfl rfl rfl (Nat.zero_le _) (Nat.zero_le _) (wb_e (d2 (by omega) (by omega)).symm hf0)
    · refine vi_if_ne 8 rfl (by omega) (fun c => absurd c (by decide)) (fun _ => ?_)
      refine vi_iconst 9 rfl ?_
      exact vi_ireturn 10 rfl rfl rfl (Nat.zero_le _) (Nat.zero_le _) (wb_e (d1 (by omega)).symm hf0)
  · refine vi_if_eq 4 rfl (by omega) (fun _ => ?_) (fun c => absurd c (by decide))
    refine vi_iconst 9 rfl ?_
    exact vi_ireturn 10 rfl rfl rfl (Nat.zero_le _) (Nat.zero_le _) (wb_e (d1 (by omega)).symm hf0)
theorem wb_pr_dg {x t : Int} (hx : 0 ≤ x ∧ x < 15625) (ht : 0 ≤ t ∧ t < 3) : wb_pr x t / 5 = wb_dg x t ∧ wb_pr x t % 5 = wb_dg x (3 + t) := by
  rw [wb_dg_lo (by omega) hx, wb_dg_hi (by omega) hx]
  have a := wb_am_rg (p := x / 125) (t := t) (by omega)
  have b := wb_am_rg (p := x % 125) (t := t) (by omega)
  unfold wb_pr
  omega
theorem wb_mul_rg {x y : Int} (hx : 0 ≤ x ∧ x ≤ 20) (hy : 0 ≤ y ∧ y ≤ 4) : 0 ≤ x * y ∧ x * y ≤ 80 := by
  rcases (show y = 0 ∨ y = 1 ∨ y = 2 ∨ y = 3 ∨ y = 4 by omega) with e | e | e | e | e <;> subst e <;> omega
theorem sp_X12_buy {t p q e r : Int} (hra : wb_Ra w c s sg rs im ik) (hrr : wb_RR w n c s sd sf cnt ru (wb_KK rs ru)) (hR : wb_BR n c s sd sf) (hru : wb_RuO rs ru) (ht : -2147483648 ≤ t ∧ t ≤ 2147483647) (hp : -2147483648 ≤ p ∧ p ≤ 2147483647) (hq : -2147483648 ≤ q ∧ q ≤ 2147483647) (he : -2147483648 ≤ e ∧ e ≤ 2147483647) (hD : (¬ (0 ≤ t ∧ t < 3) ∧ r = -1) ∨ ((0 ≤ t ∧ t < 3) ∧ ¬ ((0 ≤ p ∧ p ≤ 20) ∧ (0 ≤ q ∧ q ≤ 20) ∧ (0 ≤ e ∧ e ≤ 1)) ∧ r = -2) ∨ ((0 ≤ t ∧ t < 3) ∧ ((0 ≤ p ∧ p ≤ 20) ∧ (0 ≤ q ∧ q ≤ 20) ∧ (0 ≤ e ∧ e ≤ 1)) ∧ wb_ab (wb_ft n c s sd sf (wb_KK rs ru) 0 0) e (fun x => p * (wb_pr x t / 5) + q * (wb_pr x t % 5)) r)) (hQ : ∀ (w' : wb_W), wb_Ra w' c s sg rs im ik → wb_RR w' n c s sd sf cnt ru (wb_KK rs ru) → (∀ k, (k < 96 ∨ 108 ≤ k) → w' k = w k) → Q (some (.int (wb_i r))) N w') : wb_M G M_X12_buy [.ref 96, .int (wb_i t), .int (wb_i p), .int (wb_i q), .int (wb_i e)] N w Q := by
  unfold wb_M
  obtain ⟨ld, tt, tr, L, H, fi, ch, hrf0, -⟩ := hrr.op
  have hrf := hrf0
  unfold wb_Rf at hrf
  have hn := hR.1
  have d1 : ¬ (0 ≤ t ∧ t < 3) → r = -1 := fun q => by
    rcases hD with h | h | h
    · exact h.2
    · exact absurd h.1 q
    · exact absurd h.1 q
  have d2 : (0 ≤ t ∧ t < 3) → ¬ ((0 ≤ p ∧ p ≤ 20) ∧ (0 ≤ q ∧ q ≤ 20) ∧ (0 ≤ e ∧ e ≤ 1)) → r = -2 := fun p q => by
    rcases hD with h | h | h
    · exact absurd p h.1
    · exact h.2.2
    · exact absurd h.2.1 q
  have d3 : (0 ≤ t ∧ t < 3) → ((0 ≤ p ∧ p ≤ 20) ∧ (0 ≤ q ∧ q ≤ 20) ∧ (0 ≤ e ∧ e ≤ 1)) → wb_ab (wb_ft n c s sd sf (wb_KK rs ru) 0 0) e (fun x => p * (wb_pr x t / 5) + q * (wb_pr x t % 5)) r := fun p q => by
    rcases hD with h | h | h
    · exact absurd p h.1
    · exact absurd q h.2.1
    · exact h.2.2
  clear hD
  have tl : (0 ≤ t ∧ t < 3) → ((0 ≤ p ∧ p ≤ 20) ∧ (0 ≤ q ∧ q ≤ 20) ∧ (0 ≤ e ∧ e ≤ 1)) → wb_V G M_X12_buy 42 [(0, .ref 96), (1, .int (wb_i t)), (2, .int (wb_i p)), (3, .int (wb_i q)), (4, .int (wb_i e))] [] N w 0 0 Q := by
    intro gv ge
    have hr := d3 gv ge
    obtain ⟨f, hfd⟩ : ∃ f : Int → Int, f = fun x => p * (wb_pr x t / 5) + q * (wb_pr x t % 5) := ⟨_, rfl⟩
    rw [← hfd] at hr
    have hf : ∀ x, 0 ≤ x → x < 15625 → p * wb_dg x t + q * wb_dg x (3 + t) = f x ∧ 0 ≤ f x ∧ f x ≤ 160 := fun x x1 x2 => by
      have a := wb_pr_dg (x := x) (t := t) ⟨x1, x2⟩ gv
      have b1 := wb_mul_rg ge.1 (wb_dg_rg (x := x) (j := t) x1)
      have b2 := wb_mul_rg ge.2.1 (wb_dg_rg (x := x) (j := 3 + t) x1)
      rw [hfd]; dsimp only; rw [a.1, a.2]; exact ⟨rfl, by omega⟩
    clear hfd
    refine vi_aload_n 22 rfl rfl ?_
    refine vi_V0 23 ok_X12_lay rfl c_X12_160 hrf rfl rfl ?_
    refine sp_X12_lay hra hrr hR hru (fun w1 hra1 hrl1 ef1 => ?_)
    obtain ⟨tt1, tr1, L1, H1, ch1, ag, kp, ft, me, op, hrf1, h101, h102, h103, h104, h105, hag, hkp, hft, -⟩ := id hrl1
    unfold wb_Rf at hrf1
    have hcr := wb_ct_rg (wb_ft n c s sd sf (wb_KK rs ru) 0 0) 15625
    have fin : Q (some (.int (wb_i r))) N w1 := hQ w1 hra1 (Or.inr hrl1) ef1
    have lp : wb_ct (wb_ft n c s sd sf (wb_KK rs ru) 0 0) 15625 ≠ 0 → ∀ x, x ≤ 15625 → ∀ b : Int, 0 ≤ x → (-1 ≤ wb_ef (wb_ft n c s sd sf (wb_KK rs ru) 0 0) e f x.toNat ∧ wb_ef (wb_ft n c s sd sf (wb_KK rs ru) 0 0) e f x.toNat ≤ 160) → ((wb_ef (wb_ft n c s sd sf (wb_KK rs ru) 0 0) e f x.toNat = -1 ∧ b = -6) ∨ (0 ≤ wb_ef (wb_ft n c s sd sf (wb_KK rs ru) 0 0) e f x.toNat ∧ b = wb_ef (wb_ft n c s sd sf (wb_KK rs ru) 0 0) e f x.toNat)) → wb_V G M_X12_buy 59 [(0, .ref 96), (1, .int (wb_i t)), (2, .int (wb_i p)), (3, .int (wb_i q)), (4, .int (wb_i e)), (5, .int (wb_i b)), (6, .int (wb_i x))] [] N w1 0 0 Q := by
      intro gc
      refine wb_up 15625 _ ?_
      intro x ih hx b hx0 hef hb
      have hst := wb_ef_s (F := (wb_ft n c s sd sf (wb_KK rs ru) 0 0)) (e := e) (f := f) hx0
      have hfx := fun q : x < 15625 => hft x hx0 q
      have hgx := fun q : x < 15625 => hf x hx0 q
      have hend : ¬ x < 15625 → b = r := fun q => by
        have h := wb_ef_ab (fun j j1 j2 => (hf j j1 j2).2.1) gc hr
        rw [show x.toNat = 15625 by omega] at hb; omega
      cases hF : (wb_ft n c s sd sf (wb_KK rs ru) 0 0) x with
      | true =>
        rw [hF] at hst hfx
        rw [if_pos rfl] at hst
        unfold wb_eo at hst
        rw [show wb_b2 true = 1 from rfl] at hfx
        refine vi_iload 31 rfl rfl ?_
        refine vi_sipush 32 rfl (by decide) ?_
        refine vi_icmp_ge 33 rfl (by omega) (by omega) (fun c_64 => ?_) (fun c_64 => ?_)
        · refine vi_iload 70 rfl rfl ?_
          exact vi_ireturn 71 rfl rfl rfl (Nat.zero_le _) (Nat.zero_le _) (wb_e (hend (by omega)) fin)
        · have hfx1 := hfx (by omega)
          obtain ⟨hg1, hg2, hg3⟩ := hgx (by omega)
          refine vi_aload_n 34 rfl rfl ?_
          refine vi_get 35 rfl f_X12_39 hrf1 rfl rfl ?_
          refine vi_iload 36 rfl rfl ?_
          refine vi_zald 37 rfl h103 (by omega) ?_
          refine vi_if_eq 38 rfl (by omega) (fun c_74 => by exfalso; omega) (fun c_74 => ?_)
          refine vi_iload_n 39 rfl rfl ?_
          refine vi_iload 40 rfl rfl ?_
          refine vi_iload_n 41 rfl rfl ?_
          refine vi_S2 42 ok_X12_digit rfl c_X12_94 rfl ?_
          refine sp_X12_digit (by omega) (by omega) ?_
          refine vi_imul 43 rfl ?_
          refine vi_iload_n 44 rfl rfl ?_
          refine vi_iload 45 rfl rfl ?_
          refine vi_iconst 46 rfl ?_
          refine vi_iload_n 47 rfl rfl ?_
          refine vi_iadd 48 rfl ?_
          refine vi_S2 49 ok_X12_digit rfl c_X12_94 rfl ?_
          refine sp_X12_digit (by omega) (by omega) ?_
          refine vi_imul 50 rfl ?_
          refine vi_iadd 51 rfl ?_
          rw [hg1]
          clear hg1
          refine vi_istore 52 rfl rfl ?_
          refine vi_iload 53 rfl rfl ?_
          refine vi_if_lt 54 rfl (by omega) (fun c_100 => ?_) (fun c_100 => ?_)
          · refine vi_iload 64 rfl rfl ?_
            refine vi_goto 65 rfl ?_
            refine vi_istore 67 rfl rfl ?_
            refine vi_iinc 68 rfl rfl rfl ?_
            refine vi_goto 69 rfl ?_
            exact vi_lc (ih (x + 1) (by omega) (by omega) _ (by omega) (by rw [hst]; split <;> (try split) <;> (try split) <;> omega) (by rw [hst]; split <;> (try split) <;> (try split) <;> omega)) ⟨rfl, rfl, rfl, rfl, rfl, rfl, rfl, trivial⟩
          · refine vi_iload 55 rfl rfl ?_
            refine vi_if_ne 56 rfl (by omega) (fun c_105 => ?_) (fun c_105 => ?_)
            · refine vi_iload 61 rfl rfl ?_
              refine vi_iload 62 rfl rfl ?_
              refine vi_icmp_le 63 rfl (by omega) (by omega) (fun c_122 => ?_) (fun c_122 => ?_)
              · refine vi_iload 66 rfl rfl ?_
                refine vi_istore 67 rfl rfl ?_
                refine vi_iinc 68 rfl rfl rfl ?_
                refine vi_goto 69 rfl ?_
                exact vi_lc (ih (x + 1) (by omega) (by omega) _ (by omega) (by rw [hst]; split <;> (try split) <;> (try split) <;> omega) (by rw [hst]; split <;> (try split) <;> (try split) <;> omega)) ⟨rfl, rfl, rfl, rfl, rfl, rfl, rfl, trivial⟩
              · refine vi_iload 64 rfl rfl ?_
                refine vi_goto 65 rfl ?_
                refine vi_istore 67 rfl rfl ?_
                refine vi_iinc 68 rfl rfl rfl ?_
                refine vi_goto 69 rfl ?_
                exact vi_lc (ih (x + 1) (by omega) (by omega) _ (by omega) (by rw [hst]; split <;> (try split) <;> (try split) <;> omega) (by rw [hst]; split <;> (try split) <;> (try split) <;> omega)) ⟨rfl, rfl, rfl, rfl, rfl, rfl, rfl, trivial⟩
            · refine vi_iload 57 rfl rfl ?_
              refine vi_iload 58 rfl rfl ?_
              refine vi_icmp_ge 59 rfl (by omega) (by omega) (fun c_112 => ?_) (fun c_112 => ?_)
              · refine vi_iload 66 rfl rfl ?_
                refine vi_istore 67 rfl rfl ?_
                refine vi_iinc 68 rfl rfl rfl ?_
                refine vi_goto 69 rfl ?_
                exact vi_lc (ih (x + 1) (by omega) (by omega) _ (by omega) (by rw [hst]; split <;> (try split) <;> (try split) <;> omega) (by rw [hst]; split <;> (try split) <;> (try split) <;> omega)) ⟨rfl, rfl, rfl, rfl, rfl, rfl, rfl, trivial⟩
              · refine vi_goto 60 rfl ?_
                refine vi_iload 64 rfl rfl ?_
                refine vi_goto 65 rfl ?_
                refine vi_istore 67 rfl rfl ?_
                refine vi_iinc 68 rfl rfl rfl ?_
                refine vi_goto 69 rfl ?_
                exact vi_lc (ih (x + 1) (by omega) (by omega) _ (by omega) (by rw [hst]; split <;> (try split) <;> (try split) <;> omega) (by rw [hst]; split <;> (try split) <;> (try split) <;> omega)) ⟨rfl, rfl, rfl, rfl, rfl, rfl, rfl, trivial⟩
      | false =>
        rw [hF] at hst hfx
        rw [if_neg (by decide)] at hst
        rw [show wb_b2 false = 0 from rfl] at hfx
        refine vi_iload 31 rfl rfl ?_
        refine vi_sipush 32 rfl (by decide) ?_
        refine vi_icmp_ge 33 rfl (by omega) (by omega) (fun c_64 => ?_) (fun c_64 => ?_)
        · refine vi_iload 70 rfl rfl ?_
          exact vi_ireturn 71 rfl rfl rfl (Nat.zero_le _) (Nat.zero_le _) (wb_e (hend (by omega)) fin)
        · have hfx1 := hfx (by omega)
          refine vi_aload_n 34 rfl rfl ?_
          refine vi_get 35 rfl f_X12_39 hrf1 rfl rfl ?_
          refine vi_iload 36 rfl rfl ?_
          refine vi_zald 37 rfl h103 (by omega) ?_
          refine vi_if_eq 38 rfl (by omega) (fun c_74 => ?_) (fun c_74 => by exfalso; omega)
          refine vi_iinc 68 rfl rfl rfl ?_
          refine vi_goto 69 rfl ?_
          exact vi_lc (ih (x + 1) (by omega) (by omega) _ (by omega) (by rw [hst]; omega) (by rw [hst]; omega)) ⟨rfl, rfl, rfl, rfl, rfl, rfl, rfl, trivial⟩
    refine vi_if_ne 24 rfl (by omega) (fun c_46 => ?_) (fun c_46 => ?_)
    · refine vi_bipush 27 rfl (by decide) ?_
      refine vi_istore 28 rfl rfl ?_
      refine vi_iconst 29 rfl ?_
      refine vi_istore 30 rfl rfl ?_
      exact vi_lc (lp (by omega) 0 (by omega) _ (by omega) (by show -1 ≤ (-1 : Int) ∧ (-1 : Int) ≤ 160; omega) (Or.inl ⟨rfl, by omega⟩)) ⟨rfl, rfl, rfl, rfl, rfl, rfl, rfl, trivial⟩
    · refine vi_bipush 25 rfl (by decide) ?_
      exact vi_ireturn 26 rfl rfl rfl (Nat.zero_le _) (Nat.zero_le _) (wb_e (wb_ab_no (by omega) hr).symm fin)
  have hf0 : Q (some (.int (wb_i r))) N w := hQ w hra hrr (fun _ _ => rfl)
  refine vi_iload_n 0 rfl rfl ?_
  refine vi_S1 1 ok_X12_isThing rfl c_X12_75 rfl ?_
  refine sp_X12_isThing (by omega) (fun b_1 => ?_) (fun b_1 => ?_)
  · refine vi_if_ne 2 rfl (by omega) (fun _ => ?_) (fun c => absurd c (by decide))
    refine vi_iload_n 5 rfl rfl ?_
    refine vi_iconst 6 rfl ?_
    refine vi_bipush 7 rfl (by decide) ?_
    refine vi_S3 8 ok_X12_in rfl c_X12_56 rfl ?_
    refine sp_X12_in (by omega) (by omega) (by omega) (fun b_13 => ?_) (fun b_13 => ?_)
    · refine vi_if_eq 9 rfl (by omega) (fun c => absurd c (by decide)) (fun _ => ?_)
      refine vi_iload_n 10 rfl rfl ?_
      refine vi_iconst 11 rfl ?_
      refine vi_bipush 12 rfl (by decide) ?_
      refine vi_S3 13 ok_X12_in rfl c_X12_56 rfl ?_
      refine sp_X12_in (by omega) (by omega) (by omega) (fun b_23 => ?_) (fun b_23 => ?_)
      · refine vi_if_eq 14 rfl (by omega) (fun c => absurd c (by decide)) (fun _ => ?_)
        refine vi_iload 15 rfl rfl ?_
        refine vi_iconst 16 rfl ?_
        refine vi_iconst 17 rfl ?_
        refine vi_S3 18 ok_X12_in rfl c_X12_56 rfl ?_
        refine sp_X12_in (by omega) (by omega) (by omega) (fun b_33 => ?_) (fun b_33 => ?_)
        · refine vi_if_ne 19 rfl (by omega) (fun _ => ?_) (fun c => absurd c (by decide))
          exact vi_lc (tl (by omega) (by omega)) ⟨rfl, rfl, rfl, rfl, rfl, trivial⟩
        · refine vi_if_ne 19 rfl (by omega) (fun c => absurd c (by decide)) (fun _ => ?_)
          refine vi_bipush 20 rfl (by decide) ?_
          exact vi_ireturn 21 rfl rfl rfl (Nat.zero_le _) (Nat.zero_le _) (wb_e (d2 (by omega) (by omega)).symm hf0)
      · refine vi_if_eq 14 rfl (by omega) (fun _ => ?_) (fun c => absurd c (by decide))
        refine vi_bipush 20 rfl (by decide) ?_
        exact vi_ireturn 21 rfl rfl rfl (Nat.zero_le _) (Nat.zero_le _) (wb_e (d2 (by omega) (by omega)).symm hf0)
    · refine vi_if_eq 9 rfl (by omega) (fun _ => ?_) (fun c => absurd c (by decide))
      refine vi_bipush 20 rfl (by decide) ?_
      exact vi_ireturn 21 rfl rfl rfl (Nat.zero_le _) (Nat.zero_le _) (wb_e (d2 (by omega) (by omega)).symm hf0)
  · refine vi_if_ne 2 rfl (by omega) (fun c => absurd c (by decide)) (fun _ => ?_)
    refine vi_iconst 3 rfl ?_
    exact vi_ireturn 4 rfl rfl rfl (Nat.zero_le _) (Nat.zero_le _) (wb_e (d1 (by omega)).symm hf0)
theorem sp_X12_told {j : Int} (hra : wb_Ra w c s sg rs im ik) (hrr : wb_RR w n c s sd sf cnt ru (wb_KK rs ru)) (hR : wb_BR n c s sd sf) (hru : wb_RuO rs ru) (hj : -2147483648 ≤ j ∧ j ≤ 2147483647)
    (hQ : Q (some (.int (wb_i (if 10 ≤ j ∧ j < 22 then s (j - 10) else if j = 0 then n else if j = 1 then cnt else if j = 2 then wb_bo1 rs ru else if j = 3 then (if sd < 0 then -6 else 10 * sd + sf) else -2)))) N w) : wb_M G M_X12_told [.ref 96, .int (wb_i j)] N w Q := by
  unfold wb_M
  obtain ⟨ld, tt, tr, L, H, fi, ch, hrf, -⟩ := hrr.op
  have hrf' := hrf
  unfold wb_Rf at hrf'
  obtain ⟨h97, h98, h99, h100, h106, h107⟩ := hra
  refine vi_iload_n 0 rfl rfl ?_
  refine vi_bipush 1 rfl (by decide) ?_
  refine vi_bipush 2 rfl (by decide) ?_
  refine vi_S3 3 ok_X12_in rfl c_X12_56 rfl ?_
  refine sp_X12_in (by omega) (by omega) (by omega) (fun b_5 => ?_) (fun b_5 => ?_)
  · refine vi_if_eq 4 rfl (by omega) (fun c => absurd c (by decide)) (fun _ => ?_)
    refine vi_aload_n 5 rfl rfl ?_
    refine vi_get 6 rfl f_X12_13 hrf' rfl rfl ?_
    refine vi_iload_n 7 rfl rfl ?_
    refine vi_bipush 8 rfl (by decide) ?_
    refine vi_isub 9 rfl ?_
    refine vi_iald 10 rfl h98 (by omega) ?_
    exact vi_ireturn 11 rfl rfl rfl (Nat.zero_le _) (Nat.zero_le _) (by rw [if_pos (by omega)] at hQ; exact hQ)
  · refine vi_if_eq 4 rfl (by omega) (fun _ => ?_) (fun c => absurd c (by decide))
    refine vi_iload_n 12 rfl rfl ?_
    refine vi_if_ne 13 rfl (by omega) (fun c_22 => ?_) (fun c_22 => ?_)
    · refine vi_iload_n 17 rfl rfl ?_
      refine vi_iconst 18 rfl ?_
      refine vi_icmp_ne 19 rfl (by omega) (by omega) (fun c_34 => ?_) (fun c_34 => ?_)
      · refine vi_iload_n 23 rfl rfl ?_
        refine vi_iconst 24 rfl ?_
        refine vi_icmp_ne 25 rfl (by omega) (by omega) (fun c_46 => ?_) (fun c_46 => ?_)
        · refine vi_iload_n 29 rfl rfl ?_
          refine vi_iconst 30 rfl ?_
          refine vi_icmp_ne 31 rfl (by omega) (by omega) (fun c_58 => ?_) (fun c_58 => ?_)
          · refine vi_bipush 35 rfl (by decide) ?_
            exact vi_ireturn 36 rfl rfl rfl (Nat.zero_le _) (Nat.zero_le _) (by rw [if_neg (by omega)] at hQ; first | (rw [if_pos (by omega)] at hQ; exact hQ) | (rw [if_neg (by omega), if_pos (by omega)] at hQ; exact hQ) | (rw [if_neg (by omega), if_neg (by omega), if_pos (by omega)] at hQ; exact hQ) | (rw [if_neg (by omega), if_neg (by omega), if_neg (by omega), if_pos (by omega)] at hQ; exact hQ) | (rw [if_neg (by omega), if_neg (by omega), if_neg (by omega), if_neg (by omega)] at hQ; exact hQ))
          · refine vi_aload_n 32 rfl rfl ?_
            refine vi_V0 33 ok_X12_standOf rfl c_X12_78 hrf' rfl rfl ?_
            refine sp_X12_standOf hrf hR.2.2.2.1 hR.2.2.2.2.1 (fun q => by have := hR.2.2.2.2.2.2.2.2 q; omega) ?_
            refine vi_goto 34 rfl ?_
            exact vi_ireturn 36 rfl rfl rfl (Nat.zero_le _) (Nat.zero_le _) (by rw [if_neg (by omega)] at hQ; first | (rw [if_pos (by omega)] at hQ; exact hQ) | (rw [if_neg (by omega), if_pos (by omega)] at hQ; exact hQ) | (rw [if_neg (by omega), if_neg (by omega), if_pos (by omega)] at hQ; exact hQ) | (rw [if_neg (by omega), if_neg (by omega), if_neg (by omega), if_pos (by omega)] at hQ; exact hQ) | (rw [if_neg (by omega), if_neg (by omega), if_neg (by omega), if_neg (by omega)] at hQ; exact hQ))
        · refine vi_aload_n 26 rfl rfl ?_
          refine vi_V0 27 ok_X12_boths rfl c_X12_91 hrf' rfl rfl ?_
          refine sp_X12_boths hrf h100 hru.1 hru.2.1 ?_
          refine vi_goto 28 rfl ?_
          exact vi_ireturn 36 rfl rfl rfl (Nat.zero_le _) (Nat.zero_le _) (by rw [if_neg (by omega)] at hQ; first | (rw [if_pos (by omega)] at hQ; exact hQ) | (rw [if_neg (by omega), if_pos (by omega)] at hQ; exact hQ) | (rw [if_neg (by omega), if_neg (by omega), if_pos (by omega)] at hQ; exact hQ) | (rw [if_neg (by omega), if_neg (by omega), if_neg (by omega), if_pos (by omega)] at hQ; exact hQ) | (rw [if_neg (by omega), if_neg (by omega), if_neg (by omega), if_neg (by omega)] at hQ; exact hQ))
      · refine vi_aload_n 20 rfl rfl ?_
        refine vi_get 21 rfl f_X12_82 hrf' rfl rfl ?_
        refine vi_goto 22 rfl ?_
        exact vi_ireturn 36 rfl rfl rfl (Nat.zero_le _) (Nat.zero_le _) (by rw [if_neg (by omega)] at hQ; first | (rw [if_pos (by omega)] at hQ; exact hQ) | (rw [if_neg (by omega), if_pos (by omega)] at hQ; exact hQ) | (rw [if_neg (by omega), if_neg (by omega), if_pos (by omega)] at hQ; exact hQ) | (rw [if_neg (by omega), if_neg (by omega), if_neg (by omega), if_pos (by omega)] at hQ; exact hQ) | (rw [if_neg (by omega), if_neg (by omega), if_neg (by omega), if_neg (by omega)] at hQ; exact hQ))
    · refine vi_aload_n 14 rfl rfl ?_
      refine vi_get 15 rfl f_X12_60 hrf' rfl rfl ?_
      refine vi_goto 16 rfl ?_
      exact vi_ireturn 36 rfl rfl rfl (Nat.zero_le _) (Nat.zero_le _) (by rw [if_neg (by omega)] at hQ; first | (rw [if_pos (by omega)] at hQ; exact hQ) | (rw [if_neg (by omega), if_pos (by omega)] at hQ; exact hQ) | (rw [if_neg (by omega), if_neg (by omega), if_pos (by omega)] at hQ; exact hQ) | (rw [if_neg (by omega), if_neg (by omega), if_neg (by omega), if_pos (by omega)] at hQ; exact hQ) | (rw [if_neg (by omega), if_neg (by omega), if_neg (by omega), if_neg (by omega)] at hQ; exact hQ))
end WBS60
