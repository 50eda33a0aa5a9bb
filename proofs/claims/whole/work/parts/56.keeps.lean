/-! ===== the reference: which mixtures keep the rule ===== -/
abbrev wb_KS2 (rs : Int → Int) (x k st wa su re nu : Int) (A S : Bool) : Prop := wb_st rs k.toNat = st ∧ wb_fo rs x k.toNat = (wa, su, re, nu, A, S)
section WBS56p
variable {rs : Int → Int} {ru x k st wa su re nu : Int} {A S : Bool}
theorem wb_ks_step (hk : 0 ≤ k) (h : wb_KS2 rs x k st wa su re nu A S) : wb_st rs (k + 1).toNat = wb_nst st (rs k) ∧ wb_fo rs x (k + 1).toNat = wb_fst x (wa, su, re, nu, A, S) (rs k) := by
  rw [show (k + 1).toNat = k.toNat + 1 by omega, wb_st, wb_fo, h.1, h.2, show ((k.toNat : Nat) : Int) = k by omega]
  exact ⟨rfl, rfl⟩
theorem wb_ks_0 (hk : 0 ≤ k) (h : wb_KS2 rs x k 0 wa su re nu A S) (hn : 0 ≤ wb_st rs (k + 1).toNat) : (rs k = 112 ∨ rs k = 113) ∧ wb_KS2 rs x (k + 1) 1 (rs k) su re nu A S := by
  obtain ⟨a, b⟩ := wb_ks_step hk h
  rw [a, wb_nst0] at hn
  have hs : rs k = 112 ∨ rs k = 113 := Classical.byContradiction fun q => by rw [if_neg q] at hn; omega
  refine ⟨hs, by rw [a, wb_nst0, if_pos hs], ?_⟩
  rw [b]; simp only [wb_fst, if_neg (show ¬ wb_lnk (rs k) by omega), if_pos hs]
theorem wb_ks_1 (hk : 0 ≤ k) (h : wb_KS2 rs x k 1 wa su re nu A S) (hn : 0 ≤ wb_st rs (k + 1).toNat) : (97 ≤ rs k ∧ rs k ≤ 99) ∧ wb_KS2 rs x (k + 1) 2 wa (su + (if wa = 112 then wb_am (x / 125) (rs k - 97) else wb_am (x % 125) (rs k - 97))) re nu A S := by
  obtain ⟨a, b⟩ := wb_ks_step hk h
  rw [a, wb_nst1] at hn
  have hs : 97 ≤ rs k ∧ rs k ≤ 99 := Classical.byContradiction fun q => by rw [if_neg q] at hn; omega
  refine ⟨hs, by rw [a, wb_nst1, if_pos hs], ?_⟩
  rw [b]; simp only [wb_fst, if_neg (show ¬ wb_lnk (rs k) by omega), if_neg (show ¬ (rs k = 112 ∨ rs k = 113) by omega), if_neg (show ¬ wb_dig (rs k) by omega), if_neg (show ¬ wb_rel (rs k) by omega), if_pos hs]
theorem wb_ks_2 (hk : 0 ≤ k) (h : wb_KS2 rs x k 2 wa su re nu A S) (hn : 0 ≤ wb_st rs (k + 1).toNat) : (rs k = 43 ∧ wb_KS2 rs x (k + 1) 0 wa su re nu A S) ∨ (rs k ≠ 43 ∧ wb_rel (rs k) ∧ wb_KS2 rs x (k + 1) 3 wa su (rs k) nu A S) := by
  obtain ⟨a, b⟩ := wb_ks_step hk h
  by_cases h43 : rs k = 43
  · left
    refine ⟨h43, by rw [a, wb_nst2, if_pos h43], ?_⟩
    rw [b]; simp only [wb_fst, if_neg (show ¬ wb_lnk (rs k) by omega), if_neg (show ¬ (rs k = 112 ∨ rs k = 113) by omega), if_neg (show ¬ wb_dig (rs k) by omega), if_neg (show ¬ wb_rel (rs k) by omega), if_neg (show ¬ (97 ≤ rs k ∧ rs k ≤ 99) by omega)]
  · right
    rw [a, wb_nst2, if_neg h43] at hn
    have hs : wb_rel (rs k) := Classical.byContradiction fun q => by rw [if_neg q] at hn; omega
    refine ⟨h43, hs, by rw [a, wb_nst2, if_neg h43, if_pos hs], ?_⟩
    rw [b]; simp only [wb_fst, if_neg (show ¬ wb_lnk (rs k) by omega), if_neg (show ¬ (rs k = 112 ∨ rs k = 113) by omega), if_neg (show ¬ wb_dig (rs k) by omega), if_pos hs]
theorem wb_ks_d (hk : 0 ≤ k) (h : wb_KS2 rs x k st wa su re nu A S) (hs : wb_dig (rs k)) : wb_fo rs x (k + 1).toNat = (wa, su, re, nu * 10 + rs k - 48, A, S) := by
  obtain ⟨a, b⟩ := wb_ks_step hk h
  rw [b]; simp only [wb_fst, if_neg (show ¬ wb_lnk (rs k) by omega), if_neg (show ¬ (rs k = 112 ∨ rs k = 113) by omega), if_pos hs]
theorem wb_ks_3 (hk : 0 ≤ k) (h : wb_KS2 rs x k 3 wa su re nu A S) (hn : 0 ≤ wb_st rs (k + 1).toNat) : wb_dig (rs k) ∧ wb_KS2 rs x (k + 1) 4 wa su re (nu * 10 + rs k - 48) A S := by
  obtain ⟨a, b⟩ := wb_ks_step hk h
  rw [a, wb_nst3] at hn
  have hs : wb_dig (rs k) := Classical.byContradiction fun q => by rw [if_neg q] at hn; omega
  exact ⟨hs, by rw [a, wb_nst3, if_pos hs], wb_ks_d hk h hs⟩
theorem wb_ks_4 (hk : 0 ≤ k) (hst : st = 4 ∨ st = 5) (h : wb_KS2 rs x k st wa su re nu A S) (hn : 0 ≤ wb_st rs (k + 1).toNat) : (wb_dig (rs k) ∧ st = 4 ∧ wb_KS2 rs x (k + 1) 5 wa su re (nu * 10 + rs k - 48) A S) ∨ (¬ wb_dig (rs k) ∧ wb_lnk (rs k) ∧ wb_KS2 rs x (k + 1) 0 wa 0 re 0 (if rs k = 124 then true else A && wb_ts re nu su) (if rs k = 124 then S || (A && wb_ts re nu su) else S)) := by
  obtain ⟨a, b⟩ := wb_ks_step hk h
  have hl : wb_lnk (rs k) → wb_fo rs x (k + 1).toNat = (wa, 0, re, 0, if rs k = 124 then true else A && wb_ts re nu su, if rs k = 124 then S || (A && wb_ts re nu su) else S) := fun hs => by rw [b]; simp only [wb_fst, if_pos hs]
  rcases hst with rfl | rfl
  · by_cases hd : wb_dig (rs k)
    · exact Or.inl ⟨hd, rfl, by rw [a, wb_nst4, if_pos hd], wb_ks_d hk h hd⟩
    · rw [a, wb_nst4, if_neg hd] at hn
      have hs : wb_lnk (rs k) := Classical.byContradiction fun q => by rw [if_neg q] at hn; omega
      exact Or.inr ⟨hd, hs, by rw [a, wb_nst4, if_neg hd, if_pos hs], hl hs⟩
  · rw [a, wb_nst5] at hn
    have hs : wb_lnk (rs k) := Classical.byContradiction fun q => by rw [if_neg q] at hn; omega
    exact Or.inr ⟨by omega, hs, by rw [a, wb_nst5, if_pos hs], hl hs⟩
theorem wb_fo_mono {a : Nat} (h : (wb_fo rs x a).2.2.2.2.2 = true) : ∀ d : Nat, (wb_fo rs x (a + d)).2.2.2.2.2 = true := by
  intro d
  induction d with
  | zero => exact h
  | succ d ih =>
    show (wb_fst x (wb_fo rs x (a + d)) _).2.2.2.2.2 = true
    unfold wb_fst
    split
    · dsimp only; rw [ih]; split <;> rfl
    · split
      · exact ih
      · split
        · exact ih
        · split
          · exact ih
          · split
            · exact ih
            · exact ih
theorem wb_kp_true {a : Int} (ha : 0 ≤ a ∧ a ≤ ru) (h : (wb_fo rs x a.toNat).2.2.2.2.2 = true) : wb_kp rs ru x = true := by
  unfold wb_kp wb_fe
  have := wb_fo_mono h (ru.toNat - a.toNat)
  rw [show a.toNat + (ru.toNat - a.toNat) = ru.toNat by omega] at this
  rw [this]; rfl
end WBS56p
/-- what keeps the rule: all, if there is none -/
def wb_KK (rs : Int → Int) (ru x : Int) : Bool := if ru = 0 then true else wb_kp rs ru x
section WBS56
variable {G : wb_G} {N : Nat} {w : wb_W} {Q : Option Value → Nat → wb_W → Prop}
variable {n sd sf cnt ru ld mo db tm tt tr L H fi ch : Int} {c s sg rs ag : Int → Int}
theorem sp_X12_keeps {x : Int} (hrf : wb_Rf w n sd sf cnt ru ld mo db tm tt tr L H fi ch) (h100 : w 100 = aI 50 rs) (hru : 0 ≤ ru ∧ ru ≤ 50) (hrs : ∀ i, 0 ≤ i → i < ru → 33 ≤ rs i ∧ rs i ≤ 126) (hfa : ru = 0 ∨ wb_fa rs ru = -6) (hx : 0 ≤ x ∧ x < 15625)
    (k1 : wb_KK rs ru x = true → Q (some (.int (wb_i 1))) N w) (k0 : wb_KK rs ru x = false → Q (some (.int (wb_i 0))) N w) : wb_M G M_X12_keeps [.ref 96, .int (wb_i x)] N w Q := by
  unfold wb_M
  unfold wb_Rf at hrf
  by_cases hz : ru = 0
  · have kk : wb_KK rs ru x = true := by unfold wb_KK; rw [if_pos hz]
    refine vi_aload_n 0 rfl rfl ?_
    refine vi_get 1 rfl f_X12_88 hrf rfl rfl ?_
    refine vi_if_ne 2 rfl (by omega) (fun c_4 => by exfalso; omega) (fun c_4 => ?_)
    refine vi_iconst 3 rfl ?_
    exact vi_ireturn 4 rfl rfl rfl (Nat.zero_le _) (Nat.zero_le _) (k1 kk)
  · obtain ⟨ho1, ho2⟩ := wb_fa_ok hru.1 (hfa.resolve_left hz)
    have ekk : wb_KK rs ru x = wb_kp rs ru x := by unfold wb_KK; rw [if_neg hz]
    rw [ekk] at k1 k0
    have hn1 : ∀ k : Int, 0 ≤ k → k < ru → 0 ≤ wb_st rs (k + 1).toNat := fun k a b => ho1 _ (by omega)
    have hlt : ∀ (k st wa su re nu : Int) (A S : Bool), 0 ≤ k → k ≤ ru → st < 4 → wb_KS2 rs x k st wa su re nu A S → k < ru := fun k st wa su re nu A S a b q h => by
      refine Classical.byContradiction fun hc => ?_
      have e : k = ru := by omega
      have h1 := h.1
      rw [e] at h1; omega
    have lp1 : ∀ k, k ≤ ru + 1 → ∀ (al : Int) (A : Bool), 0 ≤ k → al = wb_b2 A → ((k = ru + 1 ∧ wb_kp rs ru x = false) ∨ (k ≤ ru ∧ ∃ wa re, wb_KS2 rs x k 0 wa 0 re 0 A false)) → wb_V G M_X12_keeps 13 [(0, .ref 96), (1, .int (wb_i x)), (2, .int (wb_i al)), (3, .int (wb_i k))] [] N w 0 0 Q := by
      refine wb_up (ru + 1) _ ?_
      intro k ih hk al A hk0 hal hinv
      have hal01 : al = 0 ∨ al = 1 := by rw [hal]; exact wb_b2_rg A
      -- behind a test
      have tl6 : ∀ (k2 st wa su re nu al2 : Int) (A2 : Bool), k < k2 → k2 ≤ ru → (st = 4 ∨ st = 5) → wb_KS2 rs x k2 st wa su re nu A false → (k2 < ru → ¬ wb_dig (rs k2)) → A2 = (A && wb_ts re nu su) → al2 = wb_b2 A2 → wb_V G M_X12_keeps 218 [(0, .ref 96), (1, .int (wb_i x)), (2, .int (wb_i al2)), (3, .int (wb_i k2))] [] N w 0 0 Q := by
        intro k2 st wa su re nu al2 A2 hlt2 hk2 hst hks hnd hA2 hal2
        have hfe : k2 = ru → wb_kp rs ru x = A2 := fun e => by
          unfold wb_kp wb_fe; rw [← e, hks.2]; simp [hA2]
        have hstep := fun q : k2 < ru => (wb_ks_4 (by omega) hst hks (hn1 k2 (by omega) q)).resolve_left (fun z => hnd q z.1)
        have hr2 := fun q : k2 < ru => hrs k2 (by omega) q
        have hbar : ∀ q : k2 < ru, rs k2 = 124 → A2 = true → wb_kp rs ru x = true := fun q e1 e2 => by
          have h2 := (hstep q).2.2.2
          refine wb_kp_true (a := k2 + 1) (by omega) ?_
          rw [h2, ← hA2, e2, if_pos e1, if_pos e1]; rfl
        cases A2 with
        | true =>
          rw [show al2 = 1 from hal2]
          refine vi_iload_n 118 rfl rfl ?_
          refine vi_aload_n 119 rfl rfl ?_
          refine vi_get 120 rfl f_X12_88 hrf rfl rfl ?_
          refine vi_icmp_eq 121 rfl (by omega) (by omega) (fun c_223 => ?_) (fun c_223 => ?_)
          · refine vi_iconst 128 rfl ?_
            refine vi_goto 129 rfl ?_
            refine vi_istore 131 rfl rfl ?_
            refine vi_iload_n 132 rfl rfl ?_
            refine vi_if_eq 133 rfl (by omega) (fun c_245 => by exfalso; omega) (fun c_245 => ?_)
            refine vi_iload 134 rfl rfl ?_
            refine vi_if_eq 135 rfl (by omega) (fun c => absurd c (by decide)) (fun _ => ?_)
            refine vi_iconst 136 rfl ?_
            exact vi_ireturn 137 rfl rfl rfl (Nat.zero_le _) (Nat.zero_le _) (k1 (by first | exact hbar (by omega) (by omega) rfl | exact hfe (by omega)))
          · have hr3 := hr2 (by omega)
            refine vi_aload_n 122 rfl rfl ?_
            refine vi_get 123 rfl f_X12_26 hrf rfl rfl ?_
            refine vi_iload_n 124 rfl rfl ?_
            refine vi_iald 125 rfl h100 (by omega) ?_
            refine vi_bipush 126 rfl (by decide) ?_
            refine vi_icmp_ne 127 rfl (by omega) (by omega) (fun c_234 => ?_) (fun c_234 => ?_)
            · refine vi_iconst 130 rfl ?_
              refine vi_istore 131 rfl rfl ?_
              refine vi_iload_n 132 rfl rfl ?_
              refine vi_if_eq 133 rfl (by omega) (fun c_245 => by exfalso; omega) (fun c_245 => ?_)
              refine vi_iload 134 rfl rfl ?_
              refine vi_if_eq 135 rfl (by omega) (fun _ => ?_) (fun c => absurd c (by decide))
              refine vi_iload_n 138 rfl rfl ?_
              refine vi_if_ne 139 rfl (by omega) (fun c_256 => ?_) (fun c_256 => by exfalso; omega)
              refine vi_iconst 142 rfl ?_
              refine vi_goto 143 rfl ?_
              refine vi_istore_n 145 rfl rfl ?_
              refine vi_iinc 146 rfl rfl rfl ?_
              refine vi_goto 147 rfl ?_
              exact vi_lc (ih (k2 + 1) (by omega) (by omega) 1 true (by omega) rfl (Or.inr ⟨by omega, wa, re, by have h2 := (hstep (by omega)).2.2; rw [if_neg (by omega), if_neg (by omega), ← hA2] at h2; exact h2⟩)) ⟨rfl, rfl, rfl, rfl, trivial⟩
            · refine vi_iconst 128 rfl ?_
              refine vi_goto 129 rfl ?_
              refine vi_istore 131 rfl rfl ?_
              refine vi_iload_n 132 rfl rfl ?_
              refine vi_if_eq 133 rfl (by omega) (fun c_245 => by exfalso; omega) (fun c_245 => ?_)
              refine vi_iload 134 rfl rfl ?_
              refine vi_if_eq 135 rfl (by omega) (fun c => absurd c (by decide)) (fun _ => ?_)
              refine vi_iconst 136 rfl ?_
              exact vi_ireturn 137 rfl rfl rfl (Nat.zero_le _) (Nat.zero_le _) (k1 (by first | exact hbar (by omega) (by omega) rfl | exact hfe (by omega)))
        | false =>
          rw [show al2 = 0 from hal2]
          refine vi_iload_n 118 rfl rfl ?_
          refine vi_aload_n 119 rfl rfl ?_
          refine vi_get 120 rfl f_X12_88 hrf rfl rfl ?_
          refine vi_icmp_eq 121 rfl (by omega) (by omega) (fun c_223 => ?_) (fun c_223 => ?_)
          · refine vi_iconst 128 rfl ?_
            refine vi_goto 129 rfl ?_
            refine vi_istore 131 rfl rfl ?_
            refine vi_iload_n 132 rfl rfl ?_
            refine vi_if_eq 133 rfl (by omega) (fun c_245 => ?_) (fun c_245 => by exfalso; omega)
            refine vi_iload_n 138 rfl rfl ?_
            refine vi_if_ne 139 rfl (by omega) (fun c_256 => by exfalso; omega) (fun c_256 => ?_)
            refine vi_iload 140 rfl rfl ?_
            refine vi_if_eq 141 rfl (by omega) (fun c => absurd c (by decide)) (fun _ => ?_)
            refine vi_iconst 142 rfl ?_
            refine vi_goto 143 rfl ?_
            refine vi_istore_n 145 rfl rfl ?_
            refine vi_iinc 146 rfl rfl rfl ?_
            refine vi_goto 147 rfl ?_
            first | exact vi_lc (ih (k2 + 1) (by omega) (by omega) 1 true (by omega) rfl (Or.inl ⟨by omega, hfe (by omega)⟩)) ⟨rfl, rfl, rfl, rfl, trivial⟩ | exact vi_lc (ih (k2 + 1) (by omega) (by omega) 1 true (by omega) rfl (Or.inr ⟨by omega, wa, re, by have h2 := (hstep (by omega)).2.2; rw [if_pos (by omega), if_pos (by omega), ← hA2] at h2; exact h2⟩)) ⟨rfl, rfl, rfl, rfl, trivial⟩ | exact vi_lc (ih (k2 + 1) (by omega) (by omega) 0 false (by omega) rfl (Or.inr ⟨by omega, wa, re, by have h2 := (hstep (by omega)).2.2; rw [if_neg (by omega), if_neg (by omega), ← hA2] at h2; exact h2⟩)) ⟨rfl, rfl, rfl, rfl, trivial⟩
          · have hr3 := hr2 (by omega)
            refine vi_aload_n 122 rfl rfl ?_
            refine vi_get 123 rfl f_X12_26 hrf rfl rfl ?_
            refine vi_iload_n 124 rfl rfl ?_
            refine vi_iald 125 rfl h100 (by omega) ?_
            refine vi_bipush 126 rfl (by decide) ?_
            refine vi_icmp_ne 127 rfl (by omega) (by omega) (fun c_234 => ?_) (fun c_234 => ?_)
            · refine vi_iconst 130 rfl ?_
              refine vi_istore 131 rfl rfl ?_
              refine vi_iload_n 132 rfl rfl ?_
              refine vi_if_eq 133 rfl (by omega) (fun c_245 => ?_) (fun c_245 => by exfalso; omega)
              refine vi_iload_n 138 rfl rfl ?_
              refine vi_if_ne 139 rfl (by omega) (fun c_256 => by exfalso; omega) (fun c_256 => ?_)
              refine vi_iload 140 rfl rfl ?_
              refine vi_if_eq 141 rfl (by omega) (fun _ => ?_) (fun c => absurd c (by decide))
              refine vi_iconst 144 rfl ?_
              refine vi_istore_n 145 rfl rfl ?_
              refine vi_iinc 146 rfl rfl rfl ?_
              refine vi_goto 147 rfl ?_
              first | exact vi_lc (ih (k2 + 1) (by omega) (by omega) 1 true (by omega) rfl (Or.inl ⟨by omega, hfe (by omega)⟩)) ⟨rfl, rfl, rfl, rfl, trivial⟩ | exact vi_lc (ih (k2 + 1) (by omega) (by omega) 1 true (by omega) rfl (Or.inr ⟨by omega, wa, re, by have h2 := (hstep (by omega)).2.2; rw [if_pos (by omega), if_pos (by omega), ← hA2] at h2; exact h2⟩)) ⟨rfl, rfl, rfl, rfl, trivial⟩ | exact vi_lc (ih (k2 + 1) (by omega) (by omega) 0 false (by omega) rfl (Or.inr ⟨by omega, wa, re, by have h2 := (hstep (by omega)).2.2; rw [if_neg (by omega), if_neg (by omega), ← hA2] at h2; exact h2⟩)) ⟨rfl, rfl, rfl, rfl, trivial⟩
            · refine vi_iconst 128 rfl ?_
              refine vi_goto 129 rfl ?_
              refine vi_istore 131 rfl rfl ?_
              refine vi_iload_n 132 rfl rfl ?_
              refine vi_if_eq 133 rfl (by omega) (fun c_245 => ?_) (fun c_245 => by exfalso; omega)
              refine vi_iload_n 138 rfl rfl ?_
              refine vi_if_ne 139 rfl (by omega) (fun c_256 => by exfalso; omega) (fun c_256 => ?_)
              refine vi_iload 140 rfl rfl ?_
              refine vi_if_eq 141 rfl (by omega) (fun c => absurd c (by decide)) (fun _ => ?_)
              refine vi_iconst 142 rfl ?_
              refine vi_goto 143 rfl ?_
              refine vi_istore_n 145 rfl rfl ?_
              refine vi_iinc 146 rfl rfl rfl ?_
              refine vi_goto 147 rfl ?_
              first | exact vi_lc (ih (k2 + 1) (by omega) (by omega) 1 true (by omega) rfl (Or.inl ⟨by omega, hfe (by omega)⟩)) ⟨rfl, rfl, rfl, rfl, trivial⟩ | exact vi_lc (ih (k2 + 1) (by omega) (by omega) 1 true (by omega) rfl (Or.inr ⟨by omega, wa, re, by have h2 := (hstep (by omega)).2.2; rw [if_pos (by omega), if_pos (by omega), ← hA2] at h2; exact h2⟩)) ⟨rfl, rfl, rfl, rfl, trivial⟩ | exact vi_lc (ih (k2 + 1) (by omega) (by omega) 0 false (by omega) rfl (Or.inr ⟨by omega, wa, re, by have h2 := (hstep (by omega)).2.2; rw [if_neg (by omega), if_neg (by omega), ← hA2] at h2; exact h2⟩)) ⟨rfl, rfl, rfl, rfl, trivial⟩
      -- the number is read
      have tl5 : ∀ (k2 st wa su re nu : Int), k < k2 → k2 ≤ ru → (st = 4 ∨ st = 5) → wb_KS2 rs x k2 st wa su re nu A false → (k2 < ru → ¬ wb_dig (rs k2)) → (0 ≤ su ∧ su ≤ 200) → (0 ≤ nu ∧ nu ≤ 999) → wb_rel re → wb_V G M_X12_keeps 167 [(0, .ref 96), (1, .int (wb_i x)), (2, .int (wb_i al)), (3, .int (wb_i k2)), (4, .int (wb_i su)), (6, .int (wb_i re)), (7, .int (wb_i nu))] [] N w 0 0 Q := by
        intro k2 st wa su re nu hlt2 hk2 hst hks hnd hsu hnu hre
        have ets : wb_ts re nu su = if re = 60 then decide (su < nu) else if re = 62 then decide (nu < su) else decide (su = nu) := rfl
        have go := fun (al2 : Int) (A2 : Bool) => tl6 k2 st wa su re nu al2 A2 hlt2 hk2 hst hks hnd
        cases A with
        | false =>
          rw [show al = 0 from hal]
          refine vi_iload_n 95 rfl rfl ?_
          refine vi_if_eq 96 rfl (by omega) (fun c_168 => ?_) (fun c_168 => by exfalso; omega)
          refine vi_iconst 116 rfl ?_
          refine vi_istore_n 117 rfl rfl ?_
          exact vi_lc (go 0 false rfl rfl) ⟨rfl, rfl, rfl, rfl, trivial⟩
        | true =>
          rw [show al = 1 from hal]
          refine vi_iload_n 95 rfl rfl ?_
          refine vi_if_eq 96 rfl (by omega) (fun c_168 => by exfalso; omega) (fun c_168 => ?_)
          refine vi_iload 97 rfl rfl ?_
          refine vi_bipush 98 rfl (by decide) ?_
          refine vi_icmp_ne 99 rfl (by omega) (by omega) (fun c_175 => ?_) (fun c_175 => ?_)
          · refine vi_iload 104 rfl rfl ?_
            refine vi_bipush 105 rfl (by decide) ?_
            refine vi_icmp_ne 106 rfl (by omega) (by omega) (fun c_192 => ?_) (fun c_192 => ?_)
            · refine vi_iload 111 rfl rfl ?_
              refine vi_iload 112 rfl rfl ?_
              refine vi_icmp_ne 113 rfl (by omega) (by omega) (fun c_209 => ?_) (fun c_209 => ?_)
              · refine vi_iconst 116 rfl ?_
                refine vi_istore_n 117 rfl rfl ?_
                first | exact vi_lc (go 1 true (by rw [ets, Bool.true_and]; first | (rw [if_pos (by omega), decide_eq_true (by omega)]; done) | (rw [if_neg (by omega), if_pos (by omega), decide_eq_true (by omega)]; done) | (rw [if_neg (by omega), if_neg (by omega), decide_eq_true (by omega)]; done)) rfl) ⟨rfl, rfl, rfl, rfl, trivial⟩ | exact vi_lc (go 0 false (by rw [ets, Bool.true_and]; first | (rw [if_pos (by omega), decide_eq_false (by omega)]; done) | (rw [if_neg (by omega), if_pos (by omega), decide_eq_false (by omega)]; done) | (rw [if_neg (by omega), if_neg (by omega), decide_eq_false (by omega)]; done)) rfl) ⟨rfl, rfl, rfl, rfl, trivial⟩
              · refine vi_iconst 114 rfl ?_
                refine vi_goto 115 rfl ?_
                refine vi_istore_n 117 rfl rfl ?_
                first | exact vi_lc (go 1 true (by rw [ets, Bool.true_and]; first | (rw [if_pos (by omega), decide_eq_true (by omega)]; done) | (rw [if_neg (by omega), if_pos (by omega), decide_eq_true (by omega)]; done) | (rw [if_neg (by omega), if_neg (by omega), decide_eq_true (by omega)]; done)) rfl) ⟨rfl, rfl, rfl, rfl, trivial⟩ | exact vi_lc (go 0 false (by rw [ets, Bool.true_and]; first | (rw [if_pos (by omega), decide_eq_false (by omega)]; done) | (rw [if_neg (by omega), if_pos (by omega), decide_eq_false (by omega)]; done) | (rw [if_neg (by omega), if_neg (by omega), decide_eq_false (by omega)]; done)) rfl) ⟨rfl, rfl, rfl, rfl, trivial⟩
            · refine vi_iload 107 rfl rfl ?_
              refine vi_iload 108 rfl rfl ?_
              refine vi_icmp_le 109 rfl (by omega) (by omega) (fun c_199 => ?_) (fun c_199 => ?_)
              · refine vi_iconst 116 rfl ?_
                refine vi_istore_n 117 rfl rfl ?_
                first | exact vi_lc (go 1 true (by rw [ets, Bool.true_and]; first | (rw [if_pos (by omega), decide_eq_true (by omega)]; done) | (rw [if_neg (by omega), if_pos (by omega), decide_eq_true (by omega)]; done) | (rw [if_neg (by omega), if_neg (by omega), decide_eq_true (by omega)]; done)) rfl) ⟨rfl, rfl, rfl, rfl, trivial⟩ | exact vi_lc (go 0 false (by rw [ets, Bool.true_and]; first | (rw [if_pos (by omega), decide_eq_false (by omega)]; done) | (rw [if_neg (by omega), if_pos (by omega), decide_eq_false (by omega)]; done) | (rw [if_neg (by omega), if_neg (by omega), decide_eq_false (by omega)]; done)) rfl) ⟨rfl, rfl, rfl, rfl, trivial⟩
              · refine vi_goto 110 rfl ?_
                refine vi_iconst 114 rfl ?_
                refine vi_goto 115 rfl ?_
                refine vi_istore_n 117 rfl rfl ?_
                first | exact vi_lc (go 1 true (by rw [ets, Bool.true_and]; first | (rw [if_pos (by omega), decide_eq_true (by omega)]; done) | (rw [if_neg (by omega), if_pos (by omega), decide_eq_true (by omega)]; done) | (rw [if_neg (by omega), if_neg (by omega), decide_eq_true (by omega)]; done)) rfl) ⟨rfl, rfl, rfl, rfl, trivial⟩ | exact vi_lc (go 0 false (by rw [ets, Bool.true_and]; first | (rw [if_pos (by omega), decide_eq_false (by omega)]; done) | (rw [if_neg (by omega), if_pos (by omega), decide_eq_false (by omega)]; done) | (rw [if_neg (by omega), if_neg (by omega), decide_eq_false (by omega)]; done)) rfl) ⟨rfl, rfl, rfl, rfl, trivial⟩
          · refine vi_iload 100 rfl rfl ?_
            refine vi_iload 101 rfl rfl ?_
            refine vi_icmp_ge 102 rfl (by omega) (by omega) (fun c_182 => ?_) (fun c_182 => ?_)
            · refine vi_iconst 116 rfl ?_
              refine vi_istore_n 117 rfl rfl ?_
              first | exact vi_lc (go 1 true (by rw [ets, Bool.true_and]; first | (rw [if_pos (by omega), decide_eq_true (by omega)]; done) | (rw [if_neg (by omega), if_pos (by omega), decide_eq_true (by omega)]; done) | (rw [if_neg (by omega), if_neg (by omega), decide_eq_true (by omega)]; done)) rfl) ⟨rfl, rfl, rfl, rfl, trivial⟩ | exact vi_lc (go 0 false (by rw [ets, Bool.true_and]; first | (rw [if_pos (by omega), decide_eq_false (by omega)]; done) | (rw [if_neg (by omega), if_pos (by omega), decide_eq_false (by omega)]; done) | (rw [if_neg (by omega), if_neg (by omega), decide_eq_false (by omega)]; done)) rfl) ⟨rfl, rfl, rfl, rfl, trivial⟩
            · refine vi_goto 103 rfl ?_
              refine vi_iconst 114 rfl ?_
              refine vi_goto 115 rfl ?_
              refine vi_istore_n 117 rfl rfl ?_
              first | exact vi_lc (go 1 true (by rw [ets, Bool.true_and]; first | (rw [if_pos (by omega), decide_eq_true (by omega)]; done) | (rw [if_neg (by omega), if_pos (by omega), decide_eq_true (by omega)]; done) | (rw [if_neg (by omega), if_neg (by omega), decide_eq_true (by omega)]; done)) rfl) ⟨rfl, rfl, rfl, rfl, trivial⟩ | exact vi_lc (go 0 false (by rw [ets, Bool.true_and]; first | (rw [if_pos (by omega), decide_eq_false (by omega)]; done) | (rw [if_neg (by omega), if_pos (by omega), decide_eq_false (by omega)]; done) | (rw [if_neg (by omega), if_neg (by omega), decide_eq_false (by omega)]; done)) rfl) ⟨rfl, rfl, rfl, rfl, trivial⟩
      -- digits
      have tl4 : ∀ k2, k2 ≤ ru → ∀ (st wa su re nu : Int), k < k2 → ((st = 3 ∧ nu = 0) ∨ (st = 4 ∧ 0 ≤ nu ∧ nu ≤ 9) ∨ (st = 5 ∧ 0 ≤ nu ∧ nu ≤ 99)) → wb_KS2 rs x k2 st wa su re nu A false → (0 ≤ su ∧ su ≤ 200) → wb_rel re → wb_V G M_X12_keeps 120 [(0, .ref 96), (1, .int (wb_i x)), (2, .int (wb_i al)), (3, .int (wb_i k2)), (4, .int (wb_i su)), (6, .int (wb_i re)), (7, .int (wb_i nu))] [] N w 0 0 Q := by
        refine wb_up ru _ ?_
        intro k2 jh hk2 st wa su re nu hlt2 hst hks hsu hre
        have hr2 := fun q : k2 < ru => hrs k2 (by omega) q
        have h3 := fun (q : k2 < ru) (e : st = 3) => wb_ks_3 (k := k2) (by omega) (by rw [← e]; exact hks) (hn1 k2 (by omega) q)
        have h4 := fun (q : k2 < ru) (e : st = 4 ∨ st = 5) => wb_ks_4 (k := k2) (by omega) e hks (hn1 k2 (by omega) q)
        have hl3 : st = 3 → k2 < ru := fun e => hlt k2 st wa su re nu A false (by omega) hk2 (by omega) hks
        refine vi_iload_n 70 rfl rfl ?_
        refine vi_aload_n 71 rfl rfl ?_
        refine vi_get 72 rfl f_X12_88 hrf rfl rfl ?_
        refine vi_icmp_ge 73 rfl (by omega) (by omega) (fun c_125 => ?_) (fun c_125 => ?_)
        · rcases hst with ⟨e1, e2⟩ | ⟨e1, e2⟩ | ⟨e1, e2⟩
          · exfalso; have := hl3 e1; have := (h3 (by omega) e1).1; omega
          · exact vi_lc (tl5 k2 st wa su re nu (by omega) hk2 (Or.inl e1) hks (fun q => by omega) hsu (by omega) hre) ⟨rfl, rfl, rfl, rfl, rfl, rfl, rfl, trivial⟩
          · exact vi_lc (tl5 k2 st wa su re nu (by omega) hk2 (Or.inr e1) hks (fun q => by omega) hsu (by omega) hre) ⟨rfl, rfl, rfl, rfl, rfl, rfl, rfl, trivial⟩
        · have hr3 := hr2 (by omega)
          refine vi_aload_n 74 rfl rfl ?_
          refine vi_get 75 rfl f_X12_26 hrf rfl rfl ?_
          refine vi_iload_n 76 rfl rfl ?_
          refine vi_iald 77 rfl h100 (by omega) ?_
          refine vi_bipush 78 rfl (by decide) ?_
          refine vi_bipush 79 rfl (by decide) ?_
          refine vi_S3 80 ok_X12_in rfl c_X12_56 rfl ?_
          refine sp_X12_in (by omega) (by omega) (by omega) (fun b_138 => ?_) (fun b_138 => ?_)
          · refine vi_if_eq 81 rfl (by omega) (fun c => absurd c (by decide)) (fun _ => ?_)
            refine vi_bipush 82 rfl (by decide) ?_
            refine vi_iload 83 rfl rfl ?_
            refine vi_imul 84 rfl ?_
            refine vi_aload_n 85 rfl rfl ?_
            refine vi_get 86 rfl f_X12_26 hrf rfl rfl ?_
            refine vi_iload_n 87 rfl rfl ?_
            refine vi_iald 88 rfl h100 (by omega) ?_
            refine vi_iadd 89 rfl ?_
            refine vi_bipush 90 rfl (by decide) ?_
            refine vi_isub 91 rfl ?_
            refine vi_istore 92 rfl rfl ?_
            refine vi_iinc 93 rfl rfl rfl ?_
            refine vi_goto 94 rfl ?_
            rcases hst with ⟨e1, e2⟩ | ⟨e1, e2⟩ | ⟨e1, e2⟩
            · exact vi_lc (by rw [show 10 * nu + rs k2 - 48 = nu * 10 + rs k2 - 48 by omega]; exact jh (k2 + 1) (by omega) (by omega) 4 wa su re _ (by omega) (by omega) (h3 (by omega) e1).2 hsu hre) (l' := [(0, .ref 96), (1, .int (wb_i x)), (2, .int (wb_i al)), (3, .int (wb_i (k2 + 1))), (4, .int (wb_i su)), (6, .int (wb_i re)), (7, .int (wb_i (10 * nu + rs k2 - 48)))]) ⟨rfl, rfl, rfl, rfl, rfl, rfl, rfl, trivial⟩
            · rcases h4 (by omega) (Or.inl e1) with ⟨z1, z2, z3⟩ | ⟨z1, z2⟩
              · exact vi_lc (by rw [show 10 * nu + rs k2 - 48 = nu * 10 + rs k2 - 48 by omega]; exact jh (k2 + 1) (by omega) (by omega) 5 wa su re _ (by omega) (by omega) z3 hsu hre) (l' := [(0, .ref 96), (1, .int (wb_i x)), (2, .int (wb_i al)), (3, .int (wb_i (k2 + 1))), (4, .int (wb_i su)), (6, .int (wb_i re)), (7, .int (wb_i (10 * nu + rs k2 - 48)))]) ⟨rfl, rfl, rfl, rfl, rfl, rfl, rfl, trivial⟩
              · omega
            · rcases h4 (by omega) (Or.inr e1) with ⟨z1, z2, z3⟩ | ⟨z1, z2⟩
              · omega
              · omega
          · refine vi_if_eq 81 rfl (by omega) (fun _ => ?_) (fun c => absurd c (by decide))
            rcases hst with ⟨e1, e2⟩ | ⟨e1, e2⟩ | ⟨e1, e2⟩
            · exfalso; have := hl3 e1; have := (h3 (by omega) e1).1; omega
            · exact vi_lc (tl5 k2 st wa su re nu (by omega) hk2 (Or.inl e1) hks (fun q => by omega) hsu (by omega) hre) ⟨rfl, rfl, rfl, rfl, rfl, rfl, rfl, trivial⟩
            · exact vi_lc (tl5 k2 st wa su re nu (by omega) hk2 (Or.inr e1) hks (fun q => by omega) hsu (by omega) hre) ⟨rfl, rfl, rfl, rfl, rfl, rfl, rfl, trivial⟩
      -- terms
      have tl2 : ∀ k2, k2 ≤ ru → ∀ (wa su re : Int), k ≤ k2 → wb_KS2 rs x k2 0 wa su re 0 A false → (0 ≤ su ∧ su ≤ 4 * k2) → wb_V G M_X12_keeps 27 [(0, .ref 96), (1, .int (wb_i x)), (2, .int (wb_i al)), (3, .int (wb_i k2)), (4, .int (wb_i su)), (5, .int (wb_i 1))] [] N w 0 0 Q := by
        refine wb_up ru _ ?_
        intro k2 jh hk2 wa su re hle hks hsu
        have q0 := hlt k2 0 wa su re 0 A false (by omega) hk2 (by omega) hks
        obtain ⟨s0, hks1⟩ := wb_ks_0 (k := k2) (by omega) hks (hn1 k2 (by omega) q0)
        have q1 := hlt (k2 + 1) 1 _ su re 0 A false (by omega) (by omega) (by omega) hks1
        obtain ⟨s1, hks2⟩ := wb_ks_1 (k := k2 + 1) (by omega) hks1 (hn1 _ (by omega) q1)
        have q2 := hlt (k2 + 1 + 1) 2 _ _ re 0 A false (by omega) (by omega) (by omega) hks2
        have hks3 := wb_ks_2 (k := k2 + 1 + 1) (by omega) hks2 (hn1 _ (by omega) q2)
        have hr2 := hrs (k2 + 2) (by omega) (by omega)
        have ek : k2 + 1 + 1 = k2 + 2 := by omega
        rw [ek] at hks3 q2
        have a1 := wb_am_rg (p := x / 125) (t := rs (k2 + 1) - 97) (by omega)
        have a2 := wb_am_rg (p := x % 125) (t := rs (k2 + 1) - 97) (by omega)
        have tl3 : ∀ su2 : Int, su2 = su + (if rs k2 = 112 then wb_am (x / 125) (rs (k2 + 1) - 97) else wb_am (x % 125) (rs (k2 + 1) - 97)) → wb_V G M_X12_keeps 69 [(0, .ref 96), (1, .int (wb_i x)), (2, .int (wb_i al)), (3, .int (wb_i k2)), (4, .int (wb_i su2))] [] N w 0 0 Q := by
          intro su2 hsu2
          rw [← hsu2] at hks3
          have hsr : 0 ≤ su2 ∧ su2 ≤ 4 * k2 + 4 := by rw [hsu2]; split <;> omega
          have tl3b : rs (k2 + 2) ≠ 43 → wb_V G M_X12_keeps 27 [(0, .ref 96), (1, .int (wb_i x)), (2, .int (wb_i al)), (3, .int (wb_i (k2 + 2 + 0))), (4, .int (wb_i su2)), (5, .int (wb_i 0))] [] N w 0 0 Q := by
            intro h43
            rw [show k2 + 2 + 0 = k2 + 2 by omega]
            rcases hks3 with ⟨z1, z2⟩ | ⟨z1, z2, z3⟩
            · omega
            refine vi_iload 17 rfl rfl ?_
            refine vi_if_eq 18 rfl (by omega) (fun c_29 => ?_) (fun c_29 => by exfalso; omega)
            refine vi_aload_n 62 rfl rfl ?_
            refine vi_get 63 rfl f_X12_26 hrf rfl rfl ?_
            refine vi_iload_n 64 rfl rfl ?_
            refine vi_iald 65 rfl h100 (by omega) ?_
            refine vi_istore 66 rfl rfl ?_
            refine vi_iinc 67 rfl rfl rfl ?_
            refine vi_iconst 68 rfl ?_
            refine vi_istore 69 rfl rfl ?_
            exact vi_lc (tl4 (k2 + 2 + 1) (by omega) 3 _ su2 (rs (k2 + 2)) 0 (by omega) (Or.inl ⟨rfl, rfl⟩) z3 (by omega) z2) ⟨rfl, rfl, rfl, rfl, rfl, rfl, rfl, trivial⟩
          refine vi_iinc 42 rfl rfl rfl ?_
          refine vi_aload_n 43 rfl rfl ?_
          refine vi_get 44 rfl f_X12_26 hrf rfl rfl ?_
          refine vi_iload_n 45 rfl rfl ?_
          refine vi_iald 46 rfl h100 (by omega) ?_
          refine vi_bipush 47 rfl (by decide) ?_
          refine vi_icmp_ne 48 rfl (by omega) (by omega) (fun c_80 => ?_) (fun c_80 => ?_)
          · refine vi_iconst 51 rfl ?_
            refine vi_istore 52 rfl rfl ?_
            refine vi_iload_n 53 rfl rfl ?_
            refine vi_iload 54 rfl rfl ?_
            refine vi_if_eq 55 rfl (by omega) (fun _ => ?_) (fun c => absurd c (by decide))
            refine vi_iconst 58 rfl ?_
            refine vi_iadd 59 rfl ?_
            refine vi_istore_n 60 rfl rfl ?_
            refine vi_goto 61 rfl ?_
            first | (rcases hks3 with ⟨z1, z2⟩ | ⟨z1, z2⟩; (exact vi_lc (jh (k2 + 2 + 1) (by omega) (by omega) _ su2 re (by omega) z2 (by omega)) ⟨rfl, rfl, rfl, rfl, rfl, rfl, trivial⟩); omega) | exact vi_lc (tl3b (by omega)) ⟨rfl, rfl, rfl, rfl, rfl, rfl, trivial⟩
          · refine vi_iconst 49 rfl ?_
            refine vi_goto 50 rfl ?_
            refine vi_istore 52 rfl rfl ?_
            refine vi_iload_n 53 rfl rfl ?_
            refine vi_iload 54 rfl rfl ?_
            refine vi_if_eq 55 rfl (by omega) (fun c => absurd c (by decide)) (fun _ => ?_)
            refine vi_iconst 56 rfl ?_
            refine vi_goto 57 rfl ?_
            refine vi_iadd 59 rfl ?_
            refine vi_istore_n 60 rfl rfl ?_
            refine vi_goto 61 rfl ?_
            first | (rcases hks3 with ⟨z1, z2⟩ | ⟨z1, z2⟩; (exact vi_lc (jh (k2 + 2 + 1) (by omega) (by omega) _ su2 re (by omega) z2 (by omega)) ⟨rfl, rfl, rfl, rfl, rfl, rfl, trivial⟩); omega) | exact vi_lc (tl3b (by omega)) ⟨rfl, rfl, rfl, rfl, rfl, rfl, trivial⟩
        refine vi_iload 17 rfl rfl ?_
        refine vi_if_eq 18 rfl (by omega) (fun c_29 => by exfalso; omega) (fun c_29 => ?_)
        refine vi_iload 19 rfl rfl ?_
        refine vi_iload_n 20 rfl rfl ?_
        refine vi_aload_n 21 rfl rfl ?_
        refine vi_get 22 rfl f_X12_26 hrf rfl rfl ?_
        refine vi_iload_n 23 rfl rfl ?_
        refine vi_iald 24 rfl h100 (by omega) ?_
        refine vi_bipush 25 rfl (by decide) ?_
        refine vi_icmp_ne 26 rfl (by omega) (by omega) (fun c_43 => ?_) (fun c_43 => ?_)
        · refine vi_iconst 29 rfl ?_
          refine vi_aload_n 30 rfl rfl ?_
          refine vi_get 31 rfl f_X12_26 hrf rfl rfl ?_
          refine vi_iload_n 32 rfl rfl ?_
          refine vi_iconst 33 rfl ?_
          refine vi_iadd 34 rfl ?_
          refine vi_iald 35 rfl h100 (by omega) ?_
          refine vi_iadd 36 rfl ?_
          refine vi_bipush 37 rfl (by decide) ?_
          refine vi_isub 38 rfl ?_
          refine vi_S2 39 ok_X12_digit rfl c_X12_94 rfl ?_
          refine sp_X12_digit (by omega) (by omega) ?_
          refine vi_iadd 40 rfl ?_
          refine vi_istore 41 rfl rfl ?_
          first | exact vi_lc (tl3 _ (by rw [if_pos (by omega), ← wb_dg_lo (by omega) hx]; congr 2; omega)) ⟨rfl, rfl, rfl, rfl, rfl, trivial⟩ | exact vi_lc (tl3 _ (by rw [if_neg (by omega), ← wb_dg_hi (by omega) hx]; congr 2; omega)) ⟨rfl, rfl, rfl, rfl, rfl, trivial⟩
        · refine vi_iconst 27 rfl ?_
          refine vi_goto 28 rfl ?_
          refine vi_aload_n 30 rfl rfl ?_
          refine vi_get 31 rfl f_X12_26 hrf rfl rfl ?_
          refine vi_iload_n 32 rfl rfl ?_
          refine vi_iconst 33 rfl ?_
          refine vi_iadd 34 rfl ?_
          refine vi_iald 35 rfl h100 (by omega) ?_
          refine vi_iadd 36 rfl ?_
          refine vi_bipush 37 rfl (by decide) ?_
          refine vi_isub 38 rfl ?_
          refine vi_S2 39 ok_X12_digit rfl c_X12_94 rfl ?_
          refine sp_X12_digit (by omega) (by omega) ?_
          refine vi_iadd 40 rfl ?_
          refine vi_istore 41 rfl rfl ?_
          first | exact vi_lc (tl3 _ (by rw [if_pos (by omega), ← wb_dg_lo (by omega) hx]; congr 2; omega)) ⟨rfl, rfl, rfl, rfl, rfl, trivial⟩ | exact vi_lc (tl3 _ (by rw [if_neg (by omega), ← wb_dg_hi (by omega) hx]; congr 2; omega)) ⟨rfl, rfl, rfl, rfl, rfl, trivial⟩
      refine vi_iload_n 9 rfl rfl ?_
      refine vi_aload_n 10 rfl rfl ?_
      refine vi_get 11 rfl f_X12_88 hrf rfl rfl ?_
      refine vi_icmp_ge 12 rfl (by omega) (by omega) (fun c_18 => ?_) (fun c_18 => ?_)
      · refine vi_iconst 148 rfl ?_
        exact vi_ireturn 149 rfl rfl rfl (Nat.zero_le _) (Nat.zero_le _) (k0 (by rcases hinv with ⟨z1, z2⟩ | ⟨z1, wa, re, z2⟩; (exact z2); (exfalso; have := hlt k 0 wa 0 re 0 A false hk0 z1 (by omega) z2; omega)))
      · refine vi_iconst 13 rfl ?_
        refine vi_istore 14 rfl rfl ?_
        refine vi_iconst 15 rfl ?_
        refine vi_istore 16 rfl rfl ?_
        rcases hinv with ⟨z1, z2⟩ | ⟨z1, wa, re, z2⟩
        · omega
        · exact vi_lc (tl2 k (by omega) wa 0 re (by omega) z2 (by omega)) ⟨rfl, rfl, rfl, rfl, rfl, rfl, trivial⟩
    refine vi_aload_n 0 rfl rfl ?_
    refine vi_get 1 rfl f_X12_88 hrf rfl rfl ?_
    refine vi_if_ne 2 rfl (by omega) (fun c_4 => ?_) (fun c_4 => by exfalso; omega)
    refine vi_iconst 5 rfl ?_
    refine vi_istore_n 6 rfl rfl ?_
    refine vi_iconst 7 rfl ?_
    refine vi_istore_n 8 rfl rfl ?_
    exact vi_lc (lp1 0 (by omega) 1 true (by omega) rfl (Or.inr ⟨by omega, 0, 0, rfl, rfl⟩)) ⟨rfl, rfl, rfl, rfl, trivial⟩
end WBS56
