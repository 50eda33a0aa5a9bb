/-! ===== the reference: all that fits is laid ===== -/
/-- its rows that the book and the signs lie in -/
def wb_Ra (w : wb_W) (c s sg rs im ik : Int → Int) : Prop := w 97 = aI 72 c ∧ w 98 = aI 12 s ∧ w 99 = aI 50 sg ∧ w 100 = aI 50 rs ∧ w 106 = aI 280 im ∧ w 107 = aZ 2 ik
theorem wb_Ra.fr {w w' : wb_W} {c s sg rs im ik : Int → Int} (h : wb_Ra w c s sg rs im ik) (hf : ∀ k, (97 ≤ k ∧ k ≤ 100) ∨ k = 106 ∨ k = 107 → w' k = w k) : wb_Ra w' c s sg rs im ik := by
  obtain ⟨h1, h2, h3, h4, h5, h6⟩ := h
  exact ⟨(hf _ (by omega)).trans h1, (hf _ (by omega)).trans h2, (hf _ (by omega)).trans h3, (hf _ (by omega)).trans h4, (hf _ (by omega)).trans h5, (hf _ (by omega)).trans h6⟩
/-- laid -/
def wb_RL (w : wb_W) (n : Int) (c s : Int → Int) (sd sf cnt ru : Int) (K : Int → Bool) : Prop := ∃ (tt tr L H ch : Int) (ag kp ft me op : Int → Int), wb_Rf w n sd sf cnt ru 1 0 0 (-6) tt tr L H (wb_ct (wb_ft n c s sd sf K 0 0) 15625) ch ∧ w 101 = aZ 1875 ag ∧ w 102 = aZ 15625 kp ∧ w 103 = aZ 15625 ft ∧ w 104 = aB 46875 me ∧ w 105 = aI 625 op ∧ wb_AG ag n c s sd sf 0 0 ∧ (∀ x, 0 ≤ x → x < 15625 → kp x = wb_b2 (K x)) ∧ (∀ x, 0 ≤ x → x < 15625 → ft x = wb_b2 (wb_ft n c s sd sf K 0 0 x)) ∧ (-10 ≤ tt ∧ tt ≤ 10) ∧ (-9 ≤ tr ∧ tr ≤ 1000)
/-- not laid -/
def wb_RU (w : wb_W) (n sd sf cnt ru : Int) : Prop := ∃ (tt tr L H fi ch : Int) (ag kp ft me op : Int → Int), wb_Rf w n sd sf cnt ru 0 0 0 (-6) tt tr L H fi ch ∧ w 101 = aZ 1875 ag ∧ w 102 = aZ 15625 kp ∧ w 103 = aZ 15625 ft ∧ w 104 = aB 46875 me ∧ w 105 = aI 625 op ∧ (-10 ≤ tt ∧ tt ≤ 10) ∧ (-9 ≤ tr ∧ tr ≤ 1000)
def wb_RR (w : wb_W) (n : Int) (c s : Int → Int) (sd sf cnt ru : Int) (K : Int → Bool) : Prop := wb_RU w n sd sf cnt ru ∨ wb_RL w n c s sd sf cnt ru K
theorem wb_RL.fr {w w' : wb_W} {n : Int} {c s : Int → Int} {sd sf cnt ru : Int} {K : Int → Bool} (h : wb_RL w n c s sd sf cnt ru K) (hf : ∀ k, 96 ≤ k → k < 108 → w' k = w k) : wb_RL w' n c s sd sf cnt ru K := by
  obtain ⟨tt, tr, L, H, ch, ag, kp, ft, me, op, h0, h1, h2, h3, h4, h5, h6⟩ := h
  exact ⟨tt, tr, L, H, ch, ag, kp, ft, me, op, (hf _ (by omega) (by omega)).trans h0, (hf _ (by omega) (by omega)).trans h1, (hf _ (by omega) (by omega)).trans h2, (hf _ (by omega) (by omega)).trans h3, (hf _ (by omega) (by omega)).trans h4, (hf _ (by omega) (by omega)).trans h5, h6⟩
theorem wb_RR.fr {w w' : wb_W} {n : Int} {c s : Int → Int} {sd sf cnt ru : Int} {K : Int → Bool} (h : wb_RR w n c s sd sf cnt ru K) (hf : ∀ k, 96 ≤ k → k < 108 → w' k = w k) : wb_RR w' n c s sd sf cnt ru K := by
  rcases h with h | h
  · obtain ⟨tt, tr, L, H, fi, ch, ag, kp, ft, me, op, h0, h1, h2, h3, h4, h5, h6⟩ := h
    exact Or.inl ⟨tt, tr, L, H, fi, ch, ag, kp, ft, me, op, (hf _ (by omega) (by omega)).trans h0, (hf _ (by omega) (by omega)).trans h1, (hf _ (by omega) (by omega)).trans h2, (hf _ (by omega) (by omega)).trans h3, (hf _ (by omega) (by omega)).trans h4, (hf _ (by omega) (by omega)).trans h5, h6⟩
  · exact Or.inr (h.fr hf)
/-- a rule is as it must be -/
def wb_RuO (rs : Int → Int) (ru : Int) : Prop := (0 ≤ ru ∧ ru ≤ 50) ∧ (∀ i, 0 ≤ i → i < ru → 33 ≤ rs i ∧ rs i ≤ 126) ∧ (ru = 0 ∨ wb_fa rs ru = -6)
section WBS57
variable {G : wb_G} {N : Nat} {w : wb_W} {Q : Option Value → Nat → wb_W → Prop}
variable {n sd sf cnt ru ld mo db tm tt tr L H fi ch : Int} {c s sg rs ag im ik : Int → Int}
theorem sp_X12_lay (hra : wb_Ra w c s sg rs im ik) (hrr : wb_RR w n c s sd sf cnt ru (wb_KK rs ru)) (hR : wb_BR n c s sd sf) (hru : wb_RuO rs ru)
    (hQ : ∀ w', wb_Ra w' c s sg rs im ik → wb_RL w' n c s sd sf cnt ru (wb_KK rs ru) → (∀ k, (k < 96 ∨ 108 ≤ k) → w' k = w k) → Q (some (.int (wb_i (wb_ct (wb_ft n c s sd sf (wb_KK rs ru) 0 0) 15625)))) N w') : wb_M G M_X12_lay [.ref 96] N w Q := by
  unfold wb_M
  rcases hrr with h | h
  · obtain ⟨tt, tr, L, H, fi, ch, ag, kp, ft, me, op, hrf, h101, h102, h103, h104, h105, htt, htr⟩ := h
    obtain ⟨h97, h98, h99, h100, h106, h107⟩ := hra
    have hrf' := hrf
    unfold wb_Rf at hrf'
    have lp : ∀ (L2 H2 : Int) (ag2 : Int → Int), wb_AG ag2 n c s sd sf 0 0 → ∀ i, i ≤ 15625 → ∀ (w1 : wb_W) (kp1 ft1 : Int → Int), 0 ≤ i → (∀ x, 0 ≤ x → x < i → kp1 x = wb_b2 (wb_KK rs ru x)) → (∀ x, 0 ≤ x → x < i → ft1 x = wb_b2 (wb_ft n c s sd sf (wb_KK rs ru) 0 0 x)) → wb_Rf w1 n sd sf cnt ru 1 0 0 (-6) tt tr L2 H2 (wb_ct (wb_ft n c s sd sf (wb_KK rs ru) 0 0) i.toNat) ch → w1 101 = aZ 1875 ag2 → w1 102 = aZ 15625 kp1 → w1 103 = aZ 15625 ft1 → (∀ k, (k < 96 ∨ (97 ≤ k ∧ k ≤ 100) ∨ 104 ≤ k) → w1 k = w k) → wb_V G M_X12_lay 23 [(0, .ref 96), (1, .int (wb_i i))] [] N w1 0 0 Q := by
      intro L2 H2 ag2 hag
      refine wb_up 15625 _ ?_
      intro i ih hi w1 kp1 ft1 hi0 hkp hft hrf1 h1011 h1021 h1031 ef
      have hrf1' := hrf1
      unfold wb_Rf at hrf1'
      have hst : (i + 1).toNat = i.toNat + 1 := by omega
      have hii : ((i.toNat : Nat) : Int) = i := by omega
      have ect : wb_ct (wb_ft n c s sd sf (wb_KK rs ru) 0 0) (i + 1).toNat = wb_ct (wb_ft n c s sd sf (wb_KK rs ru) 0 0) i.toNat + (if wb_ft n c s sd sf (wb_KK rs ru) 0 0 i then 1 else 0) := by rw [hst, wb_ct, hii]
      have tl : i < 15625 → ∀ (w2 : wb_W) (kv fv : Int), kv = wb_b2 (wb_KK rs ru i) → fv = wb_b2 (wb_ft n c s sd sf (wb_KK rs ru) 0 0 i) → w2 96 = w1 96 → w2 102 = aZ 15625 (wb_u kp1 i kv) → (∀ k, k ≠ 102 → w2 k = w1 k) → wb_V G M_X12_lay 68 [(0, .ref 96), (1, .int (wb_i i))] [.int (wb_i fv), .int (wb_i i), .ref 103] N w2 0 0 Q := by
        intro hi5 w2 kv fv hkv hfv h962 h1022 hf2
        have x96 := h962.trans hrf1'
        have x103 := (hf2 103 (by omega)).trans h1031
        have hfv01 : fv = 0 ∨ fv = 1 := by rw [hfv]; exact wb_b2_rg _
        have fin : ∀ d : Int, d = (if wb_ft n c s sd sf (wb_KK rs ru) 0 0 i then 1 else 0) → wb_V G M_X12_lay 88 [(0, .ref 96), (1, .int (wb_i i))] [.int (wb_i d), .int (wb_i (wb_ct (wb_ft n c s sd sf (wb_KK rs ru) 0 0) i.toNat)), .ref 96] N (va_up w2 103 (aZ 15625 (wb_u ft1 i fv))) 0 0 Q := by
          intro d hd
          refine vi_iadd 50 rfl ?_
          refine vi_put 51 rfl f_X12_145 ((wb_upn (by omega)).trans x96) rfl rfl rfl rfl ?_
          refine vi_iinc 52 rfl rfl rfl ?_
          refine vi_goto 53 rfl ?_
          refine vi_lc (ih (i + 1) (by omega) (by omega) _ (wb_u kp1 i kv) (wb_u ft1 i fv) (by omega) (fun x x1 x2 => ?_) (fun x x1 x2 => ?_) (by unfold wb_Rf; rw [ect, ← hd]; exact wb_ups) (by rw [wb_upn (by omega), wb_upn (by omega), hf2 _ (by omega)]; exact h1011) (by rw [wb_upn (by omega), wb_upn (by omega)]; exact h1022) (by rw [wb_upn (by omega)]; exact wb_ups) (fun k hk => by rw [wb_upn (by omega), wb_upn (by omega), hf2 _ (by omega)]; exact ef k hk)) ⟨rfl, rfl, trivial⟩
          · by_cases e : x = i
            · rw [e, wb_us]; exact hkv
            · rw [wb_un e]; exact hkp x x1 (by omega)
          · by_cases e : x = i
            · rw [e, wb_us]; exact hfv
            · rw [wb_un e]; exact hft x x1 (by omega)
        cases hF : wb_ft n c s sd sf (wb_KK rs ru) 0 0 i with
        | true =>
          rw [hF] at hfv fin
          rw [show fv = 1 from hfv] at fin ⊢
          refine vi_zast 38 rfl x103 (by omega) (Or.inr rfl) ?_
          refine vi_aload_n 39 rfl rfl ?_
          refine vi_dup 40 rfl rfl ?_
          refine vi_get 41 rfl f_X12_145 ((wb_upn (by omega)).trans x96) rfl rfl ?_
          refine vi_aload_n 42 rfl rfl ?_
          refine vi_get 43 rfl f_X12_39 ((wb_upn (by omega)).trans x96) rfl rfl ?_
          refine vi_iload_n 44 rfl rfl ?_
          refine vi_zald 45 rfl wb_ups (by omega) ?_
          rw [wb_us]
          refine vi_if_eq 46 rfl (by omega) (fun c_80 => by exfalso; omega) (fun c_80 => ?_)
          refine vi_iconst 47 rfl ?_
          refine vi_goto 48 rfl ?_
          exact vi_lc (fin 1 rfl) ⟨rfl, rfl, trivial⟩
        | false =>
          rw [hF] at hfv fin
          rw [show fv = 0 from hfv] at fin ⊢
          refine vi_zast 38 rfl x103 (by omega) (Or.inl rfl) ?_
          refine vi_aload_n 39 rfl rfl ?_
          refine vi_dup 40 rfl rfl ?_
          refine vi_get 41 rfl f_X12_145 ((wb_upn (by omega)).trans x96) rfl rfl ?_
          refine vi_aload_n 42 rfl rfl ?_
          refine vi_get 43 rfl f_X12_39 ((wb_upn (by omega)).trans x96) rfl rfl ?_
          refine vi_iload_n 44 rfl rfl ?_
          refine vi_zald 45 rfl wb_ups (by omega) ?_
          rw [wb_us]
          refine vi_if_eq 46 rfl (by omega) (fun c_80 => ?_) (fun c_80 => by exfalso; omega)
          refine vi_iconst 49 rfl ?_
          exact vi_lc (fin 0 rfl) ⟨rfl, rfl, trivial⟩
      have eft : wb_ft n c s sd sf (wb_KK rs ru) 0 0 i = (wb_KK rs ru i && wb_AA n c s sd sf 0 0 i) := rfl
      have hrfA : ∀ v : va_E, wb_Rf (va_up w1 102 v) n sd sf cnt ru 1 0 0 (-6) tt tr L2 H2 (wb_ct (wb_ft n c s sd sf (wb_KK rs ru) 0 0) i.toNat) ch := fun v => (wb_upn (by omega)).trans hrf1
      refine vi_iload_n 13 rfl rfl ?_
      refine vi_sipush 14 rfl (by decide) ?_
      refine vi_icmp_ge 15 rfl (by omega) (by omega) (fun c_27 => ?_) (fun c_27 => ?_)
      · refine vi_aload_n 54 rfl rfl ?_
        refine vi_get 55 rfl f_X12_145 hrf1' rfl rfl ?_
        exact vi_ireturn 56 rfl rfl rfl (Nat.zero_le _) (Nat.zero_le _) (wb_e (by rw [show i = 15625 by omega]; rfl) (hQ w1 ⟨(ef _ (by omega)).trans h97, (ef _ (by omega)).trans h98, (ef _ (by omega)).trans h99, (ef _ (by omega)).trans h100, (ef _ (by omega)).trans h106, (ef _ (by omega)).trans h107⟩ ⟨tt, tr, L2, H2, ch, ag2, kp1, ft1, me, op, by rw [show i = 15625 by omega] at hrf1; exact hrf1, h1011, h1021, h1031, (ef _ (by omega)).trans h104, (ef _ (by omega)).trans h105, hag, fun x x1 x2 => hkp x x1 (by omega), fun x x1 x2 => hft x x1 (by omega), htt, htr⟩ (fun k hk => ef k (by omega))))
      · refine vi_aload_n 16 rfl rfl ?_
        refine vi_get 17 rfl f_X12_36 hrf1' rfl rfl ?_
        refine vi_iload_n 18 rfl rfl ?_
        refine vi_aload_n 19 rfl rfl ?_
        refine vi_iload_n 20 rfl rfl ?_
        refine vi_V1 21 ok_X12_keeps rfl c_X12_148 hrf1' rfl rfl ?_
        refine sp_X12_keeps hrf1 ((ef 100 (by omega)).trans h100) hru.1 hru.2.1 hru.2.2 (by omega) (fun b_37 => ?_) (fun b_37 => ?_)
        · refine vi_zast 22 rfl h1021 (by omega) (by first | exact Or.inr rfl | exact Or.inl rfl) ?_
          refine vi_aload_n 23 rfl rfl ?_
          refine vi_get 24 rfl f_X12_39 ((wb_upn (by omega)).trans hrf1') rfl rfl ?_
          refine vi_iload_n 25 rfl rfl ?_
          refine vi_aload_n 26 rfl rfl ?_
          refine vi_get 27 rfl f_X12_36 ((wb_upn (by omega)).trans hrf1') rfl rfl ?_
          refine vi_iload_n 28 rfl rfl ?_
          refine vi_zald 29 rfl wb_ups (by omega) ?_
          rw [wb_us]
          refine vi_if_eq 30 rfl (by omega) (fun c_52 => ?_) (fun c_52 => ?_)
          · refine vi_iconst 37 rfl ?_
            first | (exfalso; omega) | exact vi_lc (tl (by omega) _ 1 1 (by rw [b_37]; rfl) (by rw [eft, b_37, b_57]; rfl) (wb_upn (by omega)) wb_ups (fun k hk => wb_upn hk)) ⟨rfl, rfl, trivial⟩ | exact vi_lc (tl (by omega) _ 1 0 (by rw [b_37]; rfl) (by rw [eft, b_37, b_57]; rfl) (wb_upn (by omega)) wb_ups (fun k hk => wb_upn hk)) ⟨rfl, rfl, trivial⟩ | exact vi_lc (tl (by omega) _ 0 0 (by rw [b_37]; rfl) (by rw [eft, b_37]; rfl) (wb_upn (by omega)) wb_ups (fun k hk => wb_upn hk)) ⟨rfl, rfl, trivial⟩
          · refine vi_aload_n 31 rfl rfl ?_
            refine vi_iload_n 32 rfl rfl ?_
            refine vi_V1 33 ok_X12_agreesWithAll rfl c_X12_151 ((wb_upn (by omega)).trans hrf1') rfl rfl ?_
            refine sp_X12_agreesWithAll (hrfA _) ((wb_upn (by omega)).trans h1011) hag hR (by omega) (fun b_57 => ?_) (fun b_57 => ?_)
            · refine vi_if_eq 34 rfl (by omega) (fun c => absurd c (by decide)) (fun _ => ?_)
              refine vi_iconst 35 rfl ?_
              refine vi_goto 36 rfl ?_
              first | (exfalso; omega) | exact vi_lc (tl (by omega) _ 1 1 (by rw [b_37]; rfl) (by rw [eft, b_37, b_57]; rfl) (wb_upn (by omega)) wb_ups (fun k hk => wb_upn hk)) ⟨rfl, rfl, trivial⟩ | exact vi_lc (tl (by omega) _ 1 0 (by rw [b_37]; rfl) (by rw [eft, b_37, b_57]; rfl) (wb_upn (by omega)) wb_ups (fun k hk => wb_upn hk)) ⟨rfl, rfl, trivial⟩ | exact vi_lc (tl (by omega) _ 0 0 (by rw [b_37]; rfl) (by rw [eft, b_37]; rfl) (wb_upn (by omega)) wb_ups (fun k hk => wb_upn hk)) ⟨rfl, rfl, trivial⟩
            · refine vi_if_eq 34 rfl (by omega) (fun _ => ?_) (fun c => absurd c (by decide))
              refine vi_iconst 37 rfl ?_
              first | (exfalso; omega) | exact vi_lc (tl (by omega) _ 1 1 (by rw [b_37]; rfl) (by rw [eft, b_37, b_57]; rfl) (wb_upn (by omega)) wb_ups (fun k hk => wb_upn hk)) ⟨rfl, rfl, trivial⟩ | exact vi_lc (tl (by omega) _ 1 0 (by rw [b_37]; rfl) (by rw [eft, b_37, b_57]; rfl) (wb_upn (by omega)) wb_ups (fun k hk => wb_upn hk)) ⟨rfl, rfl, trivial⟩ | exact vi_lc (tl (by omega) _ 0 0 (by rw [b_37]; rfl) (by rw [eft, b_37]; rfl) (wb_upn (by omega)) wb_ups (fun k hk => wb_upn hk)) ⟨rfl, rfl, trivial⟩
        · refine vi_zast 22 rfl h1021 (by omega) (by first | exact Or.inr rfl | exact Or.inl rfl) ?_
          refine vi_aload_n 23 rfl rfl ?_
          refine vi_get 24 rfl f_X12_39 ((wb_upn (by omega)).trans hrf1') rfl rfl ?_
          refine vi_iload_n 25 rfl rfl ?_
          refine vi_aload_n 26 rfl rfl ?_
          refine vi_get 27 rfl f_X12_36 ((wb_upn (by omega)).trans hrf1') rfl rfl ?_
          refine vi_iload_n 28 rfl rfl ?_
          refine vi_zald 29 rfl wb_ups (by omega) ?_
          rw [wb_us]
          refine vi_if_eq 30 rfl (by omega) (fun c_52 => ?_) (fun c_52 => ?_)
          · refine vi_iconst 37 rfl ?_
            first | (exfalso; omega) | exact vi_lc (tl (by omega) _ 1 1 (by rw [b_37]; rfl) (by rw [eft, b_37, b_57]; rfl) (wb_upn (by omega)) wb_ups (fun k hk => wb_upn hk)) ⟨rfl, rfl, trivial⟩ | exact vi_lc (tl (by omega) _ 1 0 (by rw [b_37]; rfl) (by rw [eft, b_37, b_57]; rfl) (wb_upn (by omega)) wb_ups (fun k hk => wb_upn hk)) ⟨rfl, rfl, trivial⟩ | exact vi_lc (tl (by omega) _ 0 0 (by rw [b_37]; rfl) (by rw [eft, b_37]; rfl) (wb_upn (by omega)) wb_ups (fun k hk => wb_upn hk)) ⟨rfl, rfl, trivial⟩
          · refine vi_aload_n 31 rfl rfl ?_
            refine vi_iload_n 32 rfl rfl ?_
            refine vi_V1 33 ok_X12_agreesWithAll rfl c_X12_151 ((wb_upn (by omega)).trans hrf1') rfl rfl ?_
            refine sp_X12_agreesWithAll (hrfA _) ((wb_upn (by omega)).trans h1011) hag hR (by omega) (fun b_57 => ?_) (fun b_57 => ?_)
            · refine vi_if_eq 34 rfl (by omega) (fun c => absurd c (by decide)) (fun _ => ?_)
              refine vi_iconst 35 rfl ?_
              refine vi_goto 36 rfl ?_
              first | (exfalso; omega) | exact vi_lc (tl (by omega) _ 1 1 (by rw [b_37]; rfl) (by rw [eft, b_37, b_57]; rfl) (wb_upn (by omega)) wb_ups (fun k hk => wb_upn hk)) ⟨rfl, rfl, trivial⟩ | exact vi_lc (tl (by omega) _ 1 0 (by rw [b_37]; rfl) (by rw [eft, b_37, b_57]; rfl) (wb_upn (by omega)) wb_ups (fun k hk => wb_upn hk)) ⟨rfl, rfl, trivial⟩ | exact vi_lc (tl (by omega) _ 0 0 (by rw [b_37]; rfl) (by rw [eft, b_37]; rfl) (wb_upn (by omega)) wb_ups (fun k hk => wb_upn hk)) ⟨rfl, rfl, trivial⟩
            · refine vi_if_eq 34 rfl (by omega) (fun _ => ?_) (fun c => absurd c (by decide))
              refine vi_iconst 37 rfl ?_
              first | (exfalso; omega) | exact vi_lc (tl (by omega) _ 1 1 (by rw [b_37]; rfl) (by rw [eft, b_37, b_57]; rfl) (wb_upn (by omega)) wb_ups (fun k hk => wb_upn hk)) ⟨rfl, rfl, trivial⟩ | exact vi_lc (tl (by omega) _ 1 0 (by rw [b_37]; rfl) (by rw [eft, b_37, b_57]; rfl) (wb_upn (by omega)) wb_ups (fun k hk => wb_upn hk)) ⟨rfl, rfl, trivial⟩ | exact vi_lc (tl (by omega) _ 0 0 (by rw [b_37]; rfl) (by rw [eft, b_37]; rfl) (wb_upn (by omega)) wb_ups (fun k hk => wb_upn hk)) ⟨rfl, rfl, trivial⟩
    refine vi_aload_n 0 rfl rfl ?_
    refine vi_get 1 rfl f_X12_63 hrf' rfl rfl ?_
    refine vi_if_ne 2 rfl (by omega) (fun c_4 => by exfalso; omega) (fun c_4 => ?_)
    refine vi_aload_n 3 rfl rfl ?_
    refine vi_iconst 4 rfl ?_
    refine vi_put 5 rfl f_X12_63 hrf' rfl rfl rfl rfl ?_
    refine vi_aload_n 6 rfl rfl ?_
    refine vi_V0 7 ok_X12_layThings rfl c_X12_142 wb_ups rfl rfl ?_
    refine sp_X12_layThings (show wb_Rf _ n sd sf cnt ru 1 0 0 (-6) tt tr L H fi ch from wb_ups) ((wb_upn (by omega)).trans h97) ((wb_upn (by omega)).trans h98) ((wb_upn (by omega)).trans h101) hR (by omega) (by omega) htt htr (fun w2 ag2 L2 H2 hag2 hrf2 h1012 hf2 => ?_)
    have hrf2' := hrf2
    unfold wb_Rf at hrf2'
    have ef2 : ∀ k, k ≠ 96 → k ≠ 101 → w2 k = w k := fun k p1 p2 => (hf2 k p1 p2).trans (wb_upn p1)
    refine vi_aload_n 8 rfl rfl ?_
    refine vi_iconst 9 rfl ?_
    refine vi_put 10 rfl f_X12_145 hrf2' rfl rfl rfl rfl ?_
    refine vi_iconst 11 rfl ?_
    refine vi_istore_n 12 rfl rfl ?_
    exact vi_lc (lp L2 H2 ag2 hag2 0 (by omega) _ kp ft (by omega) (fun x x1 x2 => by omega) (fun x x1 x2 => by omega) wb_ups ((wb_upn (by omega)).trans h1012) (by rw [wb_upn (by omega), ef2 _ (by omega) (by omega)]; exact h102) (by rw [wb_upn (by omega), ef2 _ (by omega) (by omega)]; exact h103) (fun k hk => by rw [wb_upn (by omega), ef2 _ (by omega) (by omega)])) ⟨rfl, rfl, trivial⟩
  · have h' := h
    obtain ⟨tt, tr, L, H, ch, ag, kp, ft, me, op, hrf, -⟩ := h'
    unfold wb_Rf at hrf
    refine vi_aload_n 0 rfl rfl ?_
    refine vi_get 1 rfl f_X12_63 hrf rfl rfl ?_
    refine vi_if_ne 2 rfl (by omega) (fun c_4 => ?_) (fun c_4 => by exfalso; omega)
    refine vi_aload_n 54 rfl rfl ?_
    refine vi_get 55 rfl f_X12_145 hrf rfl rfl ?_
    exact vi_ireturn 56 rfl rfl rfl (Nat.zero_le _) (Nat.zero_le _) (hQ w hra h (fun _ _ => rfl))
end WBS57
