/-! ===== the reference: simple questions ===== -/
theorem wb_RR.op {w : wb_W} {n : Int} {c s : Int → Int} {sd sf cnt ru : Int} {K : Int → Bool} (h : wb_RR w n c s sd sf cnt ru K) : ∃ ld tt tr L H fi ch : Int, wb_Rf w n sd sf cnt ru ld 0 0 (-6) tt tr L H fi ch ∧ (-10 ≤ tt ∧ tt ≤ 10) ∧ (-9 ≤ tr ∧ tr ≤ 1000) ∧ (∀ (w' : wb_W) (L' H' cnt' : Int), wb_Rf w' n sd sf cnt' ru ld 0 0 (-6) tt tr L' H' fi ch → (∀ k, 101 ≤ k → k ≤ 105 → w' k = w k) → wb_RR w' n c s sd sf cnt' ru K) ∧ ∀ (w' : wb_W) (n' : Int) (c' s' : Int → Int) (sd' sf' cnt' ru' : Int) (K' : Int → Bool), wb_Rf w' n' sd' sf' cnt' ru' 0 0 0 (-6) tt tr L H fi ch → (∀ k, 101 ≤ k → k ≤ 105 → w' k = w k) → wb_RR w' n' c' s' sd' sf' cnt' ru' K' := by
  rcases h with h | h
  · obtain ⟨tt, tr, L, H, fi, ch, ag, kp, ft, me, op, h0, h1, h2, h3, h4, h5, h6, h7⟩ := h
    refine ⟨0, tt, tr, L, H, fi, ch, h0, h6, h7, fun w' L' H' cnt' hr hf => ?_, fun w' n' c' s' sd' sf' cnt' ru' K' hr hf => ?_⟩
    · exact Or.inl ⟨tt, tr, L', H', fi, ch, ag, kp, ft, me, op, hr, (hf _ (by omega) (by omega)).trans h1, (hf _ (by omega) (by omega)).trans h2, (hf _ (by omega) (by omega)).trans h3, (hf _ (by omega) (by omega)).trans h4, (hf _ (by omega) (by omega)).trans h5, h6, h7⟩
    · exact Or.inl ⟨tt, tr, L, H, fi, ch, ag, kp, ft, me, op, hr, (hf _ (by omega) (by omega)).trans h1, (hf _ (by omega) (by omega)).trans h2, (hf _ (by omega) (by omega)).trans h3, (hf _ (by omega) (by omega)).trans h4, (hf _ (by omega) (by omega)).trans h5, h6, h7⟩
  · obtain ⟨tt, tr, L, H, ch, ag, kp, ft, me, op, h0, h1, h2, h3, h4, h5, h6, h7, h8, h9, h10⟩ := h
    refine ⟨1, tt, tr, L, H, _, ch, h0, h9, h10, fun w' L' H' cnt' hr hf => ?_, fun w' n' c' s' sd' sf' cnt' ru' K' hr hf => ?_⟩
    · exact Or.inr ⟨tt, tr, L', H', ch, ag, kp, ft, me, op, hr, (hf _ (by omega) (by omega)).trans h1, (hf _ (by omega) (by omega)).trans h2, (hf _ (by omega) (by omega)).trans h3, (hf _ (by omega) (by omega)).trans h4, (hf _ (by omega) (by omega)).trans h5, h6, h7, h8, h9, h10⟩
    · exact Or.inl ⟨tt, tr, L, H, _, ch, ag, kp, ft, me, op, hr, (hf _ (by omega) (by omega)).trans h1, (hf _ (by omega) (by omega)).trans h2, (hf _ (by omega) (by omega)).trans h3, (hf _ (by omega) (by omega)).trans h4, (hf _ (by omega) (by omega)).trans h5, h9, h10⟩
/-- what judging says: none, or the first month and the thing -/
theorem wb_jg_z {r : Int → Int} {n : Int} (hr : ∀ t, 0 ≤ r t ∧ r t ≤ n) : ∀ k : Nat, ((wb_jg r n k).1 = n ∧ (wb_jg r n k).2 = -1 ∧ ∀ t : Int, 0 ≤ t → t < k → r t = n) ∨ (0 ≤ (wb_jg r n k).1 ∧ (wb_jg r n k).1 < n ∧ ∃ t : Int, 0 ≤ t ∧ t < k ∧ r t = (wb_jg r n k).1 ∧ (wb_jg r n k).2 = 3 * (wb_jg r n k).1 + t) := by
  intro k
  induction k with
  | zero => exact Or.inl ⟨rfl, rfl, fun t t1 t2 => by omega⟩
  | succ k ih =>
    have hk := hr k
    rw [wb_jg, wb_js]
    split
    · right
      refine ⟨hk.1, ?_, k, by omega, by omega, rfl, rfl⟩
      dsimp only
      rcases ih with ⟨a, b, d⟩ | ⟨a, b, d⟩ <;> omega
    · rcases ih with ⟨a, b, d⟩ | ⟨a, b, t, t1, t2, t3, t4⟩
      · refine Or.inl ⟨a, b, fun t t1 t2 => ?_⟩
        by_cases e : t = k
        · rw [e]; omega
        · exact d t t1 (by omega)
      · exact Or.inr ⟨a, b, t, t1, by omega, t3, t4⟩
theorem wb_J_neg {n : Int} {c s : Int → Int} {sd sf x : Int} (hn : 0 ≤ n) : wb_J n c s sd sf x < 0 ↔ ∀ t : Int, 0 ≤ t → t < 3 → wb_fm (wb_pk c s sd sf x t) n.toNat = n := by
  have hr : ∀ t : Int, 0 ≤ wb_fm (wb_pk c s sd sf x t) n.toNat ∧ wb_fm (wb_pk c s sd sf x t) n.toNat ≤ n := fun t => by
    have := wb_fm_rg (wb_pk c s sd sf x t) n.toNat; omega
  have h := wb_jg_z hr 3
  unfold wb_J
  constructor
  · intro h0
    rcases h with ⟨a, b, d⟩ | ⟨a, b, t, t1, t2, t3, t4⟩
    · exact fun t t1 t2 => d t t1 (by omega)
    · omega
  · intro h0
    rcases h with ⟨a, b, d⟩ | ⟨a, b, t, t1, t2, t3, t4⟩
    · omega
    · have := h0 t t1 (by omega); omega
section WBS58
variable {G : wb_G} {N : Nat} {w : wb_W} {Q : Option Value → Nat → wb_W → Prop}
variable {n sd sf cnt ru ld mo db tm tt tr L H fi ch : Int} {c s sg rs ag im ik : Int → Int} {K : Int → Bool}
theorem sp_X12_fits {x h r : Int} (hra : wb_Ra w c s sg rs im ik) (hrr : wb_RR w n c s sd sf cnt ru K) (hR : wb_BR n c s sd sf) (hru : wb_RuO rs ru) (hx : -2147483648 ≤ x ∧ x ≤ 2147483647) (hh : -2147483648 ≤ h ∧ h ≤ 2147483647)
    (hD : (¬ (0 ≤ x ∧ x < 15625) ∧ r = -1) ∨ ((0 ≤ x ∧ x < 15625) ∧ ((¬ (0 ≤ h ∧ h ≤ 2) ∧ r = -2) ∨ ((0 ≤ h ∧ h ≤ 2) ∧ (((h = 1 ∨ wb_KK rs ru x = true) ∧ (h = 0 ∨ wb_J n c s sd sf x < 0) ∧ r = 1) ∨ (¬ ((h = 1 ∨ wb_KK rs ru x = true) ∧ (h = 0 ∨ wb_J n c s sd sf x < 0)) ∧ r = 0))))))
    (hQ : ∀ (w' : wb_W), wb_RR w' n c s sd sf cnt ru K → (∀ k, k ≠ 96 → w' k = w k) → Q (some (.int (wb_i r))) N w') : wb_M G M_X12_fits [.ref 96, .int (wb_i x), .int (wb_i h)] N w Q := by
  unfold wb_M
  obtain ⟨ld, tt, tr, L, H, fi, ch, hrf, htt, htr, hre, -⟩ := hrr.op
  have hrf' := hrf
  unfold wb_Rf at hrf'
  have hn := hR.1
  obtain ⟨h97, h98, h99, h100, h106, h107⟩ := hra
  have hr1 : (0 ≤ x ∧ x < 15625) → (0 ≤ h ∧ h ≤ 2) → (h = 1 ∨ wb_KK rs ru x = true) → (h = 0 ∨ wb_J n c s sd sf x < 0) → r = 1 := fun a b p q => by
    rcases hD with ⟨a', _⟩ | ⟨_, ⟨b', _⟩ | ⟨_, ⟨_, _, e⟩ | ⟨np, _⟩⟩⟩
    · exact absurd a a'
    · exact absurd b b'
    · exact e
    · exact absurd ⟨p, q⟩ np
  have hr0 : (0 ≤ x ∧ x < 15625) → (0 ≤ h ∧ h ≤ 2) → ¬ ((h = 1 ∨ wb_KK rs ru x = true) ∧ (h = 0 ∨ wb_J n c s sd sf x < 0)) → r = 0 := fun a b p => by
    rcases hD with ⟨a', _⟩ | ⟨_, ⟨b', _⟩ | ⟨_, ⟨p1, p2, e⟩ | ⟨np, e⟩⟩⟩
    · exact absurd a a'
    · exact absurd b b'
    · exact absurd ⟨p1, p2⟩ p
    · exact e
  have hrx : ¬ (0 ≤ x ∧ x < 15625) → r = -1 := fun a => by
    rcases hD with ⟨_, e⟩ | ⟨a', _⟩
    · exact e
    · exact absurd a' a
  have hrh : (0 ≤ x ∧ x < 15625) → ¬ (0 ≤ h ∧ h ≤ 2) → r = -2 := fun a b => by
    rcases hD with ⟨a', _⟩ | ⟨_, ⟨_, e⟩ | ⟨b', _⟩⟩
    · exact absurd a a'
    · exact e
    · exact absurd b' b
  have tl : (0 ≤ x ∧ x < 15625) → (0 ≤ h ∧ h ≤ 2) → ∀ (kv av : Int) (w1 : wb_W), ((kv = 1 ∧ (h = 1 ∨ wb_KK rs ru x = true)) ∨ (kv = 0 ∧ ¬ (h = 1 ∨ wb_KK rs ru x = true))) → ((av = 1 ∧ (h = 0 ∨ wb_J n c s sd sf x < 0)) ∨ (av = 0 ∧ ¬ (h = 0 ∨ wb_J n c s sd sf x < 0))) → wb_RR w1 n c s sd sf cnt ru K → (∀ k, k ≠ 96 → w1 k = w k) → wb_V G M_X12_fits 88 [(3, .int (wb_i kv)), (4, .int (wb_i av))] [] N w1 0 0 Q := by
    intro gx gh kv av w1 hkv hav hrr1 ef
    rcases hkv with ⟨rfl, p⟩ | ⟨rfl, p⟩
    · rcases hav with ⟨rfl, q⟩ | ⟨rfl, q⟩
      · skip
        refine vi_iload_n 47 rfl rfl ?_
        refine vi_if_eq 48 rfl (by omega) (fun c_89 => by exfalso; omega) (fun c_89 => ?_)
        refine vi_iload 49 rfl rfl ?_
        refine vi_if_eq 50 rfl (by omega) (fun c_94 => by exfalso; omega) (fun c_94 => ?_)
        refine vi_iconst 51 rfl ?_
        refine vi_goto 52 rfl ?_
        exact vi_ireturn 54 rfl rfl rfl (Nat.zero_le _) (Nat.zero_le _) (wb_e (hr1 gx gh p q).symm (hQ w1 hrr1 ef))
      · skip
        refine vi_iload_n 47 rfl rfl ?_
        refine vi_if_eq 48 rfl (by omega) (fun c_89 => by exfalso; omega) (fun c_89 => ?_)
        refine vi_iload 49 rfl rfl ?_
        refine vi_if_eq 50 rfl (by omega) (fun c_94 => ?_) (fun c_94 => by exfalso; omega)
        refine vi_iconst 53 rfl ?_
        exact vi_ireturn 54 rfl rfl rfl (Nat.zero_le _) (Nat.zero_le _) (wb_e (hr0 gx gh (fun z => q z.2)).symm (hQ w1 hrr1 ef))
    · skip
      refine vi_iload_n 47 rfl rfl ?_
      refine vi_if_eq 48 rfl (by omega) (fun c_89 => ?_) (fun c_89 => by exfalso; omega)
      refine vi_iconst 53 rfl ?_
      exact vi_ireturn 54 rfl rfl rfl (Nat.zero_le _) (Nat.zero_le _) (wb_e (hr0 gx gh (fun z => p z.1)).symm (hQ w1 hrr1 ef))
  have lp : (0 ≤ x ∧ x < 15625) → (0 ≤ h ∧ h ≤ 2) → ∀ (kv : Int), ((kv = 1 ∧ (h = 1 ∨ wb_KK rs ru x = true)) ∨ (kv = 0 ∧ ¬ (h = 1 ∨ wb_KK rs ru x = true))) → ∀ i, i ≤ 3 → ∀ (w1 : wb_W) (L1 H1 av : Int), 0 ≤ i → ((av = 1 ∧ ∀ t : Int, 0 ≤ t → t < i → wb_fm (wb_pk c s sd sf x t) n.toNat = n) ∨ (av = 0 ∧ h ≠ 0 ∧ ∃ t : Int, 0 ≤ t ∧ t < 3 ∧ wb_fm (wb_pk c s sd sf x t) n.toNat ≠ n)) → wb_Rf w1 n sd sf cnt ru ld 0 0 ((-6)) tt tr L1 H1 fi ch → (∀ k, k ≠ 96 → w1 k = w k) → wb_V G M_X12_fits 46 [(0, .ref 96), (1, .int (wb_i x)), (2, .int (wb_i h)), (3, .int (wb_i kv)), (4, .int (wb_i av)), (5, .int (wb_i i))] [] N w1 0 0 Q := by
    intro gx gh kv hkv
    refine wb_up 3 _ ?_
    intro i ih hi w1 L1 H1 av hi0 hav hrf1 ef
    have hrr1 := hre w1 L1 H1 cnt hrf1 (fun k k1 k2 => ef k (by omega))
    have hrf1' := hrf1
    unfold wb_Rf at hrf1'
    have hfr := wb_fm_rg (wb_pk c s sd sf x i) n.toNat
    rcases hav with ⟨rfl, hav⟩ | ⟨rfl, hh0, hav⟩
    · skip
      refine vi_iload 27 rfl rfl ?_
      refine vi_iconst 28 rfl ?_
      refine vi_icmp_ge 29 rfl (by omega) (by omega) (fun c_49 => ?_) (fun c_49 => ?_)
      · first | exact vi_lc (tl gx gh kv 1 w1 hkv (Or.inl ⟨rfl, Or.inr ((wb_J_neg hn.1).mpr (fun t t1 t2 => hav t t1 (by omega)))⟩) hrr1 ef) ⟨rfl, rfl, trivial⟩ | exact vi_lc (tl gx gh kv 1 w1 hkv (Or.inl ⟨rfl, Or.inl (by omega)⟩) hrr1 ef) ⟨rfl, rfl, trivial⟩
      · refine vi_iload_n 30 rfl rfl ?_
        refine vi_if_le 31 rfl (by omega) (fun c_53 => ?_) (fun c_53 => ?_)
        · first | exact vi_lc (tl gx gh kv 1 w1 hkv (Or.inl ⟨rfl, Or.inr ((wb_J_neg hn.1).mpr (fun t t1 t2 => hav t t1 (by omega)))⟩) hrr1 ef) ⟨rfl, rfl, trivial⟩ | exact vi_lc (tl gx gh kv 1 w1 hkv (Or.inl ⟨rfl, Or.inl (by omega)⟩) hrr1 ef) ⟨rfl, rfl, trivial⟩
        · refine vi_iload 32 rfl rfl ?_
          refine vi_if_eq 33 rfl (by omega) (fun c_58 => by exfalso; omega) (fun c_58 => ?_)
          refine vi_aload_n 34 rfl rfl ?_
          refine vi_iload_n 35 rfl rfl ?_
          refine vi_iload 36 rfl rfl ?_
          refine vi_V2 37 ok_X12_goesBy rfl c_X12_157 hrf1' rfl rfl ?_
          refine sp_X12_goesBy hrf1 ((ef _ (by omega)).trans h97) ((ef _ (by omega)).trans h98) hR htt htr gx (by omega) (fun w2 L2 H2 _ hrf2 hf2 => ?_)
          have hrf2' := hrf2
          unfold wb_Rf at hrf2'
          refine vi_aload_n 38 rfl rfl ?_
          refine vi_get 39 rfl f_X12_60 hrf2' rfl rfl ?_
          refine vi_icmp_ne 40 rfl (by omega) (by omega) (fun c_72 => ?_) (fun c_72 => ?_)
          · refine vi_iconst 43 rfl ?_
            refine vi_istore 44 rfl rfl ?_
            refine vi_iinc 45 rfl rfl rfl ?_
            refine vi_goto 46 rfl ?_
            first | exact vi_lc (ih (i + 1) (by omega) (by omega) w2 L2 H2 1 (by omega) (Or.inl ⟨rfl, fun t t1 t2 => by (by_cases e : t = i; (rw [e]; omega); exact hav t t1 (by omega))⟩) hrf2 (fun k hk => (hf2 k hk).trans (ef k hk))) ⟨rfl, rfl, rfl, rfl, rfl, rfl, trivial⟩ | exact vi_lc (ih (i + 1) (by omega) (by omega) w2 L2 H2 0 (by omega) (Or.inr ⟨rfl, by omega, i, by omega, by omega, by omega⟩) hrf2 (fun k hk => (hf2 k hk).trans (ef k hk))) ⟨rfl, rfl, rfl, rfl, rfl, rfl, trivial⟩
          · refine vi_iconst 41 rfl ?_
            refine vi_goto 42 rfl ?_
            refine vi_istore 44 rfl rfl ?_
            refine vi_iinc 45 rfl rfl rfl ?_
            refine vi_goto 46 rfl ?_
            first | exact vi_lc (ih (i + 1) (by omega) (by omega) w2 L2 H2 1 (by omega) (Or.inl ⟨rfl, fun t t1 t2 => by (by_cases e : t = i; (rw [e]; omega); exact hav t t1 (by omega))⟩) hrf2 (fun k hk => (hf2 k hk).trans (ef k hk))) ⟨rfl, rfl, rfl, rfl, rfl, rfl, trivial⟩ | exact vi_lc (ih (i + 1) (by omega) (by omega) w2 L2 H2 0 (by omega) (Or.inr ⟨rfl, by omega, i, by omega, by omega, by omega⟩) hrf2 (fun k hk => (hf2 k hk).trans (ef k hk))) ⟨rfl, rfl, rfl, rfl, rfl, rfl, trivial⟩
    · have hno : ¬ (h = 0 ∨ wb_J n c s sd sf x < 0) := fun z => by
        rcases z with z | z
        · exact hh0 z
        · obtain ⟨t, t1, t2, t3⟩ := hav
          exact t3 ((wb_J_neg hn.1).mp z t t1 t2)
      refine vi_iload 27 rfl rfl ?_
      refine vi_iconst 28 rfl ?_
      refine vi_icmp_ge 29 rfl (by omega) (by omega) (fun c_49 => ?_) (fun c_49 => ?_)
      · exact vi_lc (tl gx gh kv 0 w1 hkv (Or.inr ⟨rfl, hno⟩) hrr1 ef) ⟨rfl, rfl, trivial⟩
      · refine vi_iload_n 30 rfl rfl ?_
        refine vi_if_le 31 rfl (by omega) (fun c_53 => ?_) (fun c_53 => ?_)
        · exact vi_lc (tl gx gh kv 0 w1 hkv (Or.inr ⟨rfl, hno⟩) hrr1 ef) ⟨rfl, rfl, trivial⟩
        · refine vi_iload 32 rfl rfl ?_
          refine vi_if_eq 33 rfl (by omega) (fun c_58 => ?_) (fun c_58 => by exfalso; omega)
          refine vi_iconst 43 rfl ?_
          refine vi_istore 44 rfl rfl ?_
          refine vi_iinc 45 rfl rfl rfl ?_
          refine vi_goto 46 rfl ?_
          exact vi_lc (ih (i + 1) (by omega) (by omega) w1 L1 H1 0 (by omega) (Or.inr ⟨rfl, hh0, hav⟩) hrf1 ef) ⟨rfl, rfl, rfl, rfl, rfl, rfl, trivial⟩
  have hrr0 := hre w L H cnt hrf (fun _ _ _ => rfl)
  refine vi_iload_n 0 rfl rfl ?_
  refine vi_S1 1 ok_X12_isMixture rfl c_X12_154 rfl ?_
  refine sp_X12_isMixture (by omega) (fun b_1 => ?_) (fun b_1 => ?_)
  · refine vi_if_ne 2 rfl (by omega) (fun _ => ?_) (fun c => absurd c (by decide))
    refine vi_iload_n 5 rfl rfl ?_
    refine vi_iconst 6 rfl ?_
    refine vi_iconst 7 rfl ?_
    refine vi_S3 8 ok_X12_in rfl c_X12_56 rfl ?_
    refine sp_X12_in (by omega) (by omega) (by omega) (fun b_12 => ?_) (fun b_12 => ?_)
    · refine vi_if_ne 9 rfl (by omega) (fun _ => ?_) (fun c => absurd c (by decide))
      refine vi_iload_n 12 rfl rfl ?_
      refine vi_iconst 13 rfl ?_
      refine vi_icmp_eq 14 rfl (by omega) (by omega) (fun c_23 => ?_) (fun c_23 => ?_)
      · refine vi_iconst 19 rfl ?_
        refine vi_goto 20 rfl ?_
        refine vi_istore_n 22 rfl rfl ?_
        refine vi_iconst 23 rfl ?_
        refine vi_istore 24 rfl rfl ?_
        refine vi_iconst 25 rfl ?_
        refine vi_istore 26 rfl rfl ?_
        first | exact vi_lc (lp (by omega) (by omega) 1 (Or.inl ⟨rfl, Or.inr b_28⟩) 0 (by omega) w L H 1 (by omega) (Or.inl ⟨rfl, fun t t1 t2 => by omega⟩) hrf (fun _ _ => rfl)) ⟨rfl, rfl, rfl, rfl, rfl, rfl, trivial⟩ | exact vi_lc (lp (by omega) (by omega) 0 (Or.inr ⟨rfl, fun z => by (rcases z with z | z; omega; (rw [b_28] at z; cases z))⟩) 0 (by omega) w L H 1 (by omega) (Or.inl ⟨rfl, fun t t1 t2 => by omega⟩) hrf (fun _ _ => rfl)) ⟨rfl, rfl, rfl, rfl, rfl, rfl, trivial⟩ | exact vi_lc (lp (by omega) (by omega) 1 (Or.inl ⟨rfl, Or.inl (by omega)⟩) 0 (by omega) w L H 1 (by omega) (Or.inl ⟨rfl, fun t t1 t2 => by omega⟩) hrf (fun _ _ => rfl)) ⟨rfl, rfl, rfl, rfl, rfl, rfl, trivial⟩
      · refine vi_aload_n 15 rfl rfl ?_
        refine vi_iload_n 16 rfl rfl ?_
        refine vi_V1 17 ok_X12_keeps rfl c_X12_148 hrf' rfl rfl ?_
        refine sp_X12_keeps hrf h100 hru.1 hru.2.1 hru.2.2 (by omega) (fun b_28 => ?_) (fun b_28 => ?_)
        · refine vi_if_eq 18 rfl (by omega) (fun c => absurd c (by decide)) (fun _ => ?_)
          refine vi_iconst 19 rfl ?_
          refine vi_goto 20 rfl ?_
          refine vi_istore_n 22 rfl rfl ?_
          refine vi_iconst 23 rfl ?_
          refine vi_istore 24 rfl rfl ?_
          refine vi_iconst 25 rfl ?_
          refine vi_istore 26 rfl rfl ?_
          first | exact vi_lc (lp (by omega) (by omega) 1 (Or.inl ⟨rfl, Or.inr b_28⟩) 0 (by omega) w L H 1 (by omega) (Or.inl ⟨rfl, fun t t1 t2 => by omega⟩) hrf (fun _ _ => rfl)) ⟨rfl, rfl, rfl, rfl, rfl, rfl, trivial⟩ | exact vi_lc (lp (by omega) (by omega) 0 (Or.inr ⟨rfl, fun z => by (rcases z with z | z; omega; (rw [b_28] at z; cases z))⟩) 0 (by omega) w L H 1 (by omega) (Or.inl ⟨rfl, fun t t1 t2 => by omega⟩) hrf (fun _ _ => rfl)) ⟨rfl, rfl, rfl, rfl, rfl, rfl, trivial⟩ | exact vi_lc (lp (by omega) (by omega) 1 (Or.inl ⟨rfl, Or.inl (by omega)⟩) 0 (by omega) w L H 1 (by omega) (Or.inl ⟨rfl, fun t t1 t2 => by omega⟩) hrf (fun _ _ => rfl)) ⟨rfl, rfl, rfl, rfl, rfl, rfl, trivial⟩
        · refine vi_if_eq 18 rfl (by omega) (fun _ => ?_) (fun c => absurd c (by decide))
          refine vi_iconst 21 rfl ?_
          refine vi_istore_n 22 rfl rfl ?_
          refine vi_iconst 23 rfl ?_
          refine vi_istore 24 rfl rfl ?_
          refine vi_iconst 25 rfl ?_
          refine vi_istore 26 rfl rfl ?_
          first | exact vi_lc (lp (by omega) (by omega) 1 (Or.inl ⟨rfl, Or.inr b_28⟩) 0 (by omega) w L H 1 (by omega) (Or.inl ⟨rfl, fun t t1 t2 => by omega⟩) hrf (fun _ _ => rfl)) ⟨rfl, rfl, rfl, rfl, rfl, rfl, trivial⟩ | exact vi_lc (lp (by omega) (by omega) 0 (Or.inr ⟨rfl, fun z => by (rcases z with z | z; omega; (rw [b_28] at z; cases z))⟩) 0 (by omega) w L H 1 (by omega) (Or.inl ⟨rfl, fun t t1 t2 => by omega⟩) hrf (fun _ _ => rfl)) ⟨rfl, rfl, rfl, rfl, rfl, rfl, trivial⟩ | exact vi_lc (lp (by omega) (by omega) 1 (Or.inl ⟨rfl, Or.inl (by omega)⟩) 0 (by omega) w L H 1 (by omega) (Or.inl ⟨rfl, fun t t1 t2 => by omega⟩) hrf (fun _ _ => rfl)) ⟨rfl, rfl, rfl, rfl, rfl, rfl, trivial⟩
    · refine vi_if_ne 9 rfl (by omega) (fun c => absurd c (by decide)) (fun _ => ?_)
      refine vi_bipush 10 rfl (by decide) ?_
      exact vi_ireturn 11 rfl rfl rfl (Nat.zero_le _) (Nat.zero_le _) (wb_e (hrh (by omega) (by omega)).symm (hQ w hrr0 (fun _ _ => rfl)))
  · refine vi_if_ne 2 rfl (by omega) (fun c => absurd c (by decide)) (fun _ => ?_)
    refine vi_iconst 3 rfl ?_
    exact vi_ireturn 4 rfl rfl rfl (Nat.zero_le _) (Nat.zero_le _) (wb_e (hrx (by omega)).symm (hQ w hrr0 (fun _ _ => rfl)))
theorem wb_gn_neg {c : Int → Int} {sd sf m t r : Int} (h : sd < 0) : wb_gn c sd sf m t r = 0 := by unfold wb_gn; rw [if_neg (fun q => by have := q.2.1; omega)]
theorem sp_X12_needs {x m t : Int} (hra : wb_Ra w c s sg rs im ik) (hrr : wb_RR w n c s sd sf cnt ru K) (hR : wb_BR n c s sd sf) (hx : -2147483648 ≤ x ∧ x ≤ 2147483647) (hm : -2147483648 ≤ m ∧ m ≤ 2147483647) (ht : -2147483648 ≤ t ∧ t ≤ 2147483647)
    (hQ : Q (some (.int (wb_i (if (0 ≤ x ∧ x < 15625) ∧ (0 ≤ m ∧ m < n) ∧ (0 ≤ t ∧ t < 3) then wb_ne c sd sf x m t else -1)))) N w) : wb_M G M_X12_needs [.ref 96, .int (wb_i x), .int (wb_i m), .int (wb_i t)] N w Q := by
  unfold wb_M
  obtain ⟨ld, tt, tr, L, H, fi, ch, hrf, htt, htr, -, -⟩ := hrr.op
  have hrf' := hrf
  unfold wb_Rf at hrf'
  have hn := hR.1
  obtain ⟨h97, h98, h99, h100, h106, h107⟩ := hra
  have g1 := wb_n6_rg hR.2.2.2.2.1
  have r9 := hR.2.2.2.2.2.2.2.2
  have r5 := hR.2.2.2.2.1
  have e2 : wb_n6 sf = if sf < 0 then -6 else sf := rfl
  have p1 : 0 ≤ x → 0 ≤ wb_pr x t ∧ wb_pr x t < 25 := fun q => by have := wb_pr_rg (x := x) (t := t) q; omega
  have p2 : 0 ≤ x → 0 ≤ wb_pr x sf ∧ wb_pr x sf < 25 := fun q => by have := wb_pr_rg (x := x) (t := sf) q; omega
  by_cases hd : sf < 0
  · rw [if_pos hd] at e2
    have hsd : sd < 0 := Classical.byContradiction fun q => by have := r9 (by omega); omega
    refine vi_iload_n 0 rfl rfl ?_
    refine vi_S1 1 ok_X12_isMixture rfl c_X12_154 rfl ?_
    refine sp_X12_isMixture (by omega) (fun b_1 => ?_) (fun b_1 => ?_)
    · refine vi_if_eq 2 rfl (by omega) (fun c => absurd c (by decide)) (fun _ => ?_)
      refine vi_aload_n 3 rfl rfl ?_
      refine vi_iload_n 4 rfl rfl ?_
      refine vi_V1 5 ok_X12_isMonth rfl c_X12_67 hrf' rfl rfl ?_
      refine sp_X12_isMonth hrf hn (by omega) (fun b_9 => ?_) (fun b_9 => ?_)
      · refine vi_if_eq 6 rfl (by omega) (fun c => absurd c (by decide)) (fun _ => ?_)
        refine vi_iload_n 7 rfl rfl ?_
        refine vi_S1 8 ok_X12_isThing rfl c_X12_75 rfl ?_
        refine sp_X12_isThing (by omega) (fun b_16 => ?_) (fun b_16 => ?_)
        · refine vi_if_ne 9 rfl (by omega) (fun _ => ?_) (fun c => absurd c (by decide))
          refine vi_aload_n 12 rfl rfl ?_
          refine vi_iload_n 13 rfl rfl ?_
          refine vi_iload_n 14 rfl rfl ?_
          refine vi_iload_n 15 rfl rfl ?_
          refine vi_iload_n 16 rfl rfl ?_
          refine vi_S2 17 ok_X12_amount rfl c_X12_127 rfl ?_
          refine sp_X12_amount (by omega) (by omega) ?_
          refine vi_aload_n 18 rfl rfl ?_
          refine vi_get 19 rfl f_X12_20 hrf' rfl rfl ?_
          refine vi_if_ge 20 rfl (by omega) (fun c_36 => by exfalso; omega) (fun c_36 => ?_)
          refine vi_iconst 21 rfl ?_
          refine vi_goto 22 rfl ?_
          refine vi_V4 27 ok_X12_needOf rfl c_X12_120 hrf' rfl rfl ?_
          refine sp_X12_needOf hrf h97 hR (by omega) (by omega) (p1 (by omega)) (by omega) ?_
          exact vi_ireturn 28 rfl rfl rfl (Nat.zero_le _) (Nat.zero_le _) (by rw [if_pos (by omega)] at hQ; unfold wb_ne at hQ; rw [wb_gn_neg hsd] at hQ ⊢; exact hQ)
        · refine vi_if_ne 9 rfl (by omega) (fun c => absurd c (by decide)) (fun _ => ?_)
          refine vi_iconst 10 rfl ?_
          exact vi_ireturn 11 rfl rfl rfl (Nat.zero_le _) (Nat.zero_le _) (by rw [if_neg (by omega)] at hQ; exact hQ)
      · refine vi_if_eq 6 rfl (by omega) (fun _ => ?_) (fun c => absurd c (by decide))
        refine vi_iconst 10 rfl ?_
        exact vi_ireturn 11 rfl rfl rfl (Nat.zero_le _) (Nat.zero_le _) (by rw [if_neg (by omega)] at hQ; exact hQ)
    · refine vi_if_eq 2 rfl (by omega) (fun _ => ?_) (fun c => absurd c (by decide))
      refine vi_iconst 10 rfl ?_
      exact vi_ireturn 11 rfl rfl rfl (Nat.zero_le _) (Nat.zero_le _) (by rw [if_neg (by omega)] at hQ; exact hQ)
  · rw [if_neg hd] at e2
    refine vi_iload_n 0 rfl rfl ?_
    refine vi_S1 1 ok_X12_isMixture rfl c_X12_154 rfl ?_
    refine sp_X12_isMixture (by omega) (fun b_1 => ?_) (fun b_1 => ?_)
    · refine vi_if_eq 2 rfl (by omega) (fun c => absurd c (by decide)) (fun _ => ?_)
      refine vi_aload_n 3 rfl rfl ?_
      refine vi_iload_n 4 rfl rfl ?_
      refine vi_V1 5 ok_X12_isMonth rfl c_X12_67 hrf' rfl rfl ?_
      refine sp_X12_isMonth hrf hn (by omega) (fun b_9 => ?_) (fun b_9 => ?_)
      · refine vi_if_eq 6 rfl (by omega) (fun c => absurd c (by decide)) (fun _ => ?_)
        refine vi_iload_n 7 rfl rfl ?_
        refine vi_S1 8 ok_X12_isThing rfl c_X12_75 rfl ?_
        refine sp_X12_isThing (by omega) (fun b_16 => ?_) (fun b_16 => ?_)
        · refine vi_if_ne 9 rfl (by omega) (fun _ => ?_) (fun c => absurd c (by decide))
          refine vi_aload_n 12 rfl rfl ?_
          refine vi_iload_n 13 rfl rfl ?_
          refine vi_iload_n 14 rfl rfl ?_
          refine vi_iload_n 15 rfl rfl ?_
          refine vi_iload_n 16 rfl rfl ?_
          refine vi_S2 17 ok_X12_amount rfl c_X12_127 rfl ?_
          refine sp_X12_amount (by omega) (by omega) ?_
          refine vi_aload_n 18 rfl rfl ?_
          refine vi_get 19 rfl f_X12_20 hrf' rfl rfl ?_
          refine vi_if_ge 20 rfl (by omega) (fun c_36 => ?_) (fun c_36 => by exfalso; omega)
          refine vi_iload_n 23 rfl rfl ?_
          refine vi_aload_n 24 rfl rfl ?_
          refine vi_get 25 rfl f_X12_20 hrf' rfl rfl ?_
          rw [e2]
          refine vi_S2 26 ok_X12_amount rfl c_X12_127 rfl ?_
          refine sp_X12_amount (by omega) (by omega) ?_
          refine vi_V4 27 ok_X12_needOf rfl c_X12_120 hrf' rfl rfl ?_
          refine sp_X12_needOf hrf h97 hR (by omega) (by omega) (p1 (by omega)) (p2 (by omega)) ?_
          exact vi_ireturn 28 rfl rfl rfl (Nat.zero_le _) (Nat.zero_le _) (by rw [if_pos (by omega)] at hQ; exact hQ)
        · refine vi_if_ne 9 rfl (by omega) (fun c => absurd c (by decide)) (fun _ => ?_)
          refine vi_iconst 10 rfl ?_
          exact vi_ireturn 11 rfl rfl rfl (Nat.zero_le _) (Nat.zero_le _) (by rw [if_neg (by omega)] at hQ; exact hQ)
      · refine vi_if_eq 6 rfl (by omega) (fun _ => ?_) (fun c => absurd c (by decide))
        refine vi_iconst 10 rfl ?_
        exact vi_ireturn 11 rfl rfl rfl (Nat.zero_le _) (Nat.zero_le _) (by rw [if_neg (by omega)] at hQ; exact hQ)
    · refine vi_if_eq 2 rfl (by omega) (fun _ => ?_) (fun c => absurd c (by decide))
      refine vi_iconst 10 rfl ?_
      exact vi_ireturn 11 rfl rfl rfl (Nat.zero_le _) (Nat.zero_le _) (by rw [if_neg (by omega)] at hQ; exact hQ)
theorem sp_X12_judge {x h : Int} (hra : wb_Ra w c s sg rs im ik) (hrr : wb_RR w n c s sd sf cnt ru K) (hR : wb_BR n c s sd sf) (hx : -2147483648 ≤ x ∧ x ≤ 2147483647) (hh : -2147483648 ≤ h ∧ h ≤ 2147483647)
    (hQ : ∀ (w' : wb_W), wb_RR w' n c s sd sf cnt ru K → (∀ k, k ≠ 96 → w' k = w k) → Q (some (.int (wb_i (if 0 ≤ x ∧ x < 15625 then (if 0 ≤ h ∧ h ≤ 1 then (if wb_J n c s sd sf x < 0 then -6 else if h = 0 then wb_J n c s sd sf x / 3 else wb_J n c s sd sf x % 3) else -2) else -1)))) N w') : wb_M G M_X12_judge [.ref 96, .int (wb_i x), .int (wb_i h)] N w Q := by
  unfold wb_M
  obtain ⟨ld, tt, tr, L, H, fi, ch, hrf, htt, htr, hre, -⟩ := hrr.op
  have hrf' := hrf
  unfold wb_Rf at hrf'
  have hn := hR.1
  obtain ⟨h97, h98, h99, h100, h106, h107⟩ := hra
  have hrg : ∀ t : Int, 0 ≤ wb_fm (wb_pk c s sd sf x t) n.toNat ∧ wb_fm (wb_pk c s sd sf x t) n.toNat ≤ n := fun t => by
    have := wb_fm_rg (wb_pk c s sd sf x t) n.toNat; omega
  have hrr0 := hre w L H cnt hrf (fun _ _ _ => rfl)
  have lp : (0 ≤ x ∧ x < 15625) → (0 ≤ h ∧ h ≤ 1) → ∀ i, i ≤ 3 → ∀ (w1 : wb_W) (L1 H1 a z : Int), 0 ≤ i → a = (wb_jg (fun t => wb_fm (wb_pk c s sd sf x t) n.toNat) n i.toNat).1 → ((z = -6 ∧ (wb_jg (fun t => wb_fm (wb_pk c s sd sf x t) n.toNat) n i.toNat).2 = -1) ∨ ((0 ≤ z ∧ z < 3) ∧ (wb_jg (fun t => wb_fm (wb_pk c s sd sf x t) n.toNat) n i.toNat).2 = 3 * a + z)) → (0 ≤ a ∧ a ≤ n) → wb_Rf w1 n sd sf cnt ru ld 0 0 ((-6)) tt tr L1 H1 fi ch → (∀ k, k ≠ 96 → w1 k = w k) → wb_V G M_X12_judge 33 [(0, .ref 96), (1, .int (wb_i x)), (2, .int (wb_i h)), (3, .int (wb_i a)), (4, .int (wb_i z)), (5, .int (wb_i i))] [] N w1 0 0 Q := by
    intro gx gh
    refine wb_up 3 _ ?_
    intro i ih hi w1 L1 H1 a z hi0 ha hz har hrf1 ef
    have hrr1 := hre w1 L1 H1 cnt hrf1 (fun k k1 k2 => ef k (by omega))
    have hrf1' := hrf1
    unfold wb_Rf at hrf1'
    have hfr := hrg i
    have hst : wb_jg (fun t => wb_fm (wb_pk c s sd sf x t) n.toNat) n (i + 1).toNat = wb_js (wb_jg (fun t => wb_fm (wb_pk c s sd sf x t) n.toNat) n i.toNat) i (wb_fm (wb_pk c s sd sf x i) n.toNat) := by
      rw [show (i + 1).toNat = i.toNat + 1 by omega, wb_jg, show ((i.toNat : Nat) : Int) = i by omega]
    unfold wb_js at hst
    rw [← ha] at hst
    refine vi_iload 19 rfl rfl ?_
    refine vi_iconst 20 rfl ?_
    refine vi_icmp_ge 21 rfl (by omega) (by omega) (fun c_36 => ?_) (fun c_36 => ?_)
    · have hi3 : i = 3 := by omega
      subst hi3
      change ((z = -6 ∧ wb_J n c s sd sf x = -1) ∨ ((0 ≤ z ∧ z < 3) ∧ wb_J n c s sd sf x = 3 * a + z)) at hz
      have hq := hQ w1 hrr1 ef
      rw [if_pos gx, if_pos gh] at hq
      refine vi_iload 43 rfl rfl ?_
      refine vi_if_ge 44 rfl (by omega) (fun c_84 => ?_) (fun c_84 => ?_)
      · refine vi_iload_n 47 rfl rfl ?_
        refine vi_if_ne 48 rfl (by omega) (fun c_93 => ?_) (fun c_93 => ?_)
        · refine vi_iload 51 rfl rfl ?_
          exact vi_ireturn 52 rfl rfl rfl (Nat.zero_le _) (Nat.zero_le _) (by first | (exfalso; omega) | (rw [if_pos (by omega)] at hq; exact hq) | (rw [if_neg (by omega), if_pos (by omega)] at hq; exact wb_e (by omega) hq) | (rw [if_neg (by omega), if_neg (by omega)] at hq; exact wb_e (by omega) hq))
        · refine vi_iload_n 49 rfl rfl ?_
          refine vi_goto 50 rfl ?_
          exact vi_ireturn 52 rfl rfl rfl (Nat.zero_le _) (Nat.zero_le _) (by first | (exfalso; omega) | (rw [if_pos (by omega)] at hq; exact hq) | (rw [if_neg (by omega), if_pos (by omega)] at hq; exact wb_e (by omega) hq) | (rw [if_neg (by omega), if_neg (by omega)] at hq; exact wb_e (by omega) hq))
      · refine vi_bipush 45 rfl (by decide) ?_
        refine vi_goto 46 rfl ?_
        exact vi_ireturn 52 rfl rfl rfl (Nat.zero_le _) (Nat.zero_le _) (by first | (exfalso; omega) | (rw [if_pos (by omega)] at hq; exact hq) | (rw [if_neg (by omega), if_pos (by omega)] at hq; exact wb_e (by omega) hq) | (rw [if_neg (by omega), if_neg (by omega)] at hq; exact wb_e (by omega) hq))
    · refine vi_aload_n 22 rfl rfl ?_
      refine vi_iload_n 23 rfl rfl ?_
      refine vi_iload 24 rfl rfl ?_
      refine vi_V2 25 ok_X12_goesBy rfl c_X12_157 hrf1' rfl rfl ?_
      refine sp_X12_goesBy hrf1 ((ef _ (by omega)).trans h97) ((ef _ (by omega)).trans h98) hR htt htr gx (by omega) (fun w2 L2 H2 _ hrf2 hf2 => ?_)
      refine vi_istore 26 rfl rfl ?_
      refine vi_iload 27 rfl rfl ?_
      refine vi_iload_n 28 rfl rfl ?_
      refine vi_icmp_ge 29 rfl (by omega) (by omega) (fun c_51 => ?_) (fun c_51 => ?_)
      · refine vi_iload 32 rfl rfl ?_
        refine vi_istore 33 rfl rfl ?_
        refine vi_iload 34 rfl rfl ?_
        refine vi_iload_n 35 rfl rfl ?_
        refine vi_icmp_ge 36 rfl (by omega) (by omega) (fun c_66 => ?_) (fun c_66 => ?_)
        · refine vi_iload_n 39 rfl rfl ?_
          refine vi_istore_n 40 rfl rfl ?_
          refine vi_iinc 41 rfl rfl rfl ?_
          refine vi_goto 42 rfl ?_
          first | (exfalso; omega) | (rw [if_neg (by omega)] at hst; exact vi_lc (ih (i + 1) (by omega) (by omega) w2 L2 H2 a z (by omega) (by rw [hst]; exact ha) (by rw [hst]; exact hz) har hrf2 (fun k hk => (hf2 k hk).trans (ef k hk))) ⟨rfl, rfl, rfl, rfl, rfl, rfl, trivial⟩) | (rw [if_pos (by omega)] at hst; exact vi_lc (ih (i + 1) (by omega) (by omega) w2 L2 H2 _ i (by omega) (by rw [hst]) (by rw [hst]; exact Or.inr ⟨by omega, rfl⟩) (by omega) hrf2 (fun k hk => (hf2 k hk).trans (ef k hk))) ⟨rfl, rfl, rfl, rfl, rfl, rfl, trivial⟩)
        · refine vi_iload 37 rfl rfl ?_
          refine vi_goto 38 rfl ?_
          refine vi_istore_n 40 rfl rfl ?_
          refine vi_iinc 41 rfl rfl rfl ?_
          refine vi_goto 42 rfl ?_
          first | (exfalso; omega) | (rw [if_neg (by omega)] at hst; exact vi_lc (ih (i + 1) (by omega) (by omega) w2 L2 H2 a z (by omega) (by rw [hst]; exact ha) (by rw [hst]; exact hz) har hrf2 (fun k hk => (hf2 k hk).trans (ef k hk))) ⟨rfl, rfl, rfl, rfl, rfl, rfl, trivial⟩) | (rw [if_pos (by omega)] at hst; exact vi_lc (ih (i + 1) (by omega) (by omega) w2 L2 H2 _ i (by omega) (by rw [hst]) (by rw [hst]; exact Or.inr ⟨by omega, rfl⟩) (by omega) hrf2 (fun k hk => (hf2 k hk).trans (ef k hk))) ⟨rfl, rfl, rfl, rfl, rfl, rfl, trivial⟩)
      · refine vi_iload 30 rfl rfl ?_
        refine vi_goto 31 rfl ?_
        refine vi_istore 33 rfl rfl ?_
        refine vi_iload 34 rfl rfl ?_
        refine vi_iload_n 35 rfl rfl ?_
        refine vi_icmp_ge 36 rfl (by omega) (by omega) (fun c_66 => ?_) (fun c_66 => ?_)
        · refine vi_iload_n 39 rfl rfl ?_
          refine vi_istore_n 40 rfl rfl ?_
          refine vi_iinc 41 rfl rfl rfl ?_
          refine vi_goto 42 rfl ?_
          first | (exfalso; omega) | (rw [if_neg (by omega)] at hst; exact vi_lc (ih (i + 1) (by omega) (by omega) w2 L2 H2 a z (by omega) (by rw [hst]; exact ha) (by rw [hst]; exact hz) har hrf2 (fun k hk => (hf2 k hk).trans (ef k hk))) ⟨rfl, rfl, rfl, rfl, rfl, rfl, trivial⟩) | (rw [if_pos (by omega)] at hst; exact vi_lc (ih (i + 1) (by omega) (by omega) w2 L2 H2 _ i (by omega) (by rw [hst]) (by rw [hst]; exact Or.inr ⟨by omega, rfl⟩) (by omega) hrf2 (fun k hk => (hf2 k hk).trans (ef k hk))) ⟨rfl, rfl, rfl, rfl, rfl, rfl, trivial⟩)
        · refine vi_iload 37 rfl rfl ?_
          refine vi_goto 38 rfl ?_
          refine vi_istore_n 40 rfl rfl ?_
          refine vi_iinc 41 rfl rfl rfl ?_
          refine vi_goto 42 rfl ?_
          first | (exfalso; omega) | (rw [if_neg (by omega)] at hst; exact vi_lc (ih (i + 1) (by omega) (by omega) w2 L2 H2 a z (by omega) (by rw [hst]; exact ha) (by rw [hst]; exact hz) har hrf2 (fun k hk => (hf2 k hk).trans (ef k hk))) ⟨rfl, rfl, rfl, rfl, rfl, rfl, trivial⟩) | (rw [if_pos (by omega)] at hst; exact vi_lc (ih (i + 1) (by omega) (by omega) w2 L2 H2 _ i (by omega) (by rw [hst]) (by rw [hst]; exact Or.inr ⟨by omega, rfl⟩) (by omega) hrf2 (fun k hk => (hf2 k hk).trans (ef k hk))) ⟨rfl, rfl, rfl, rfl, rfl, rfl, trivial⟩)
  refine vi_iload_n 0 rfl rfl ?_
  refine vi_S1 1 ok_X12_isMixture rfl c_X12_154 rfl ?_
  refine sp_X12_isMixture (by omega) (fun b_1 => ?_) (fun b_1 => ?_)
  · refine vi_if_ne 2 rfl (by omega) (fun _ => ?_) (fun c => absurd c (by decide))
    refine vi_iload_n 5 rfl rfl ?_
    refine vi_iconst 6 rfl ?_
    refine vi_iconst 7 rfl ?_
    refine vi_S3 8 ok_X12_in rfl c_X12_56 rfl ?_
    refine sp_X12_in (by omega) (by omega) (by omega) (fun b_12 => ?_) (fun b_12 => ?_)
    · refine vi_if_ne 9 rfl (by omega) (fun _ => ?_) (fun c => absurd c (by decide))
      refine vi_aload_n 12 rfl rfl ?_
      refine vi_get 13 rfl f_X12_60 hrf' rfl rfl ?_
      refine vi_istore_n 14 rfl rfl ?_
      refine vi_bipush 15 rfl (by decide) ?_
      refine vi_istore 16 rfl rfl ?_
      refine vi_iconst 17 rfl ?_
      refine vi_istore 18 rfl rfl ?_
      exact vi_lc (lp (by omega) (by omega) 0 (by omega) w L H n (-6) (by omega) rfl (Or.inl ⟨rfl, rfl⟩) (by omega) hrf (fun _ _ => rfl)) ⟨rfl, rfl, rfl, rfl, rfl, rfl, trivial⟩
    · refine vi_if_ne 9 rfl (by omega) (fun c => absurd c (by decide)) (fun _ => ?_)
      refine vi_bipush 10 rfl (by decide) ?_
      exact vi_ireturn 11 rfl rfl rfl (Nat.zero_le _) (Nat.zero_le _) (by have hq := hQ w hrr0 (fun _ _ => rfl); rw [if_pos (by omega), if_neg (by omega)] at hq; exact hq)
  · refine vi_if_ne 2 rfl (by omega) (fun c => absurd c (by decide)) (fun _ => ?_)
    refine vi_iconst 3 rfl ?_
    exact vi_ireturn 4 rfl rfl rfl (Nat.zero_le _) (Nat.zero_le _) (by have hq := hQ w hrr0 (fun _ _ => rfl); rw [if_neg (by omega)] at hq; exact hq)
theorem sp_X12_lies {x t m e : Int} (hra : wb_Ra w c s sg rs im ik) (hrr : wb_RR w n c s sd sf cnt ru K) (hR : wb_BR n c s sd sf) (hx : -2147483648 ≤ x ∧ x ≤ 2147483647) (ht : -2147483648 ≤ t ∧ t ≤ 2147483647) (hm : -2147483648 ≤ m ∧ m ≤ 2147483647) (he : -2147483648 ≤ e ∧ e ≤ 2147483647)
    (hQ : ∀ (w' : wb_W), wb_RR w' n c s sd sf cnt ru K → (∀ k, k ≠ 96 → w' k = w k) → Q (some (.int (wb_i (if (0 ≤ x ∧ x < 15625) ∧ (0 ≤ t ∧ t < 3) ∧ (0 ≤ m ∧ m < n) then (if 0 ≤ e ∧ e ≤ 1 then (if wb_fm (wb_pk c s sd sf x t) (m + 1).toNat ≤ m then -5 else if e = 0 then (wb_rx c s sd sf x t (m + 1).toNat).1 else (wb_rx c s sd sf x t (m + 1).toNat).2) else -2) else -1)))) N w') : wb_M G M_X12_lies [.ref 96, .int (wb_i x), .int (wb_i t), .int (wb_i m), .int (wb_i e)] N w Q := by
  unfold wb_M
  obtain ⟨ld, tt, tr, L, H, fi, ch, hrf, htt, htr, hre, -⟩ := hrr.op
  have hrf' := hrf
  unfold wb_Rf at hrf'
  have hn := hR.1
  obtain ⟨h97, h98, h99, h100, h106, h107⟩ := hra
  have hrr0 := hre w L H cnt hrf (fun _ _ _ => rfl)
  have hfr := wb_fm_rg (wb_pk c s sd sf x t) (m + 1).toNat
  have hfo : wb_fm (wb_pk c s sd sf x t) (m + 1).toNat = (m + 1).toNat ↔ wb_pk c s sd sf x t (m + 1).toNat = true := wb_fm_ok _
  refine vi_iload_n 0 rfl rfl ?_
  refine vi_S1 1 ok_X12_isMixture rfl c_X12_154 rfl ?_
  refine sp_X12_isMixture (by omega) (fun b_1 => ?_) (fun b_1 => ?_)
  · refine vi_if_eq 2 rfl (by omega) (fun c => absurd c (by decide)) (fun _ => ?_)
    refine vi_iload_n 3 rfl rfl ?_
    refine vi_S1 4 ok_X12_isThing rfl c_X12_75 rfl ?_
    refine sp_X12_isThing (by omega) (fun b_8 => ?_) (fun b_8 => ?_)
    · refine vi_if_eq 5 rfl (by omega) (fun c => absurd c (by decide)) (fun _ => ?_)
      refine vi_aload_n 6 rfl rfl ?_
      refine vi_iload_n 7 rfl rfl ?_
      refine vi_V1 8 ok_X12_isMonth rfl c_X12_67 hrf' rfl rfl ?_
      refine sp_X12_isMonth hrf hn (by omega) (fun b_16 => ?_) (fun b_16 => ?_)
      · refine vi_if_ne 9 rfl (by omega) (fun _ => ?_) (fun c => absurd c (by decide))
        refine vi_iload 12 rfl rfl ?_
        refine vi_iconst 13 rfl ?_
        refine vi_iconst 14 rfl ?_
        refine vi_S3 15 ok_X12_in rfl c_X12_56 rfl ?_
        refine sp_X12_in (by omega) (by omega) (by omega) (fun b_28 => ?_) (fun b_28 => ?_)
        · refine vi_if_ne 16 rfl (by omega) (fun _ => ?_) (fun c => absurd c (by decide))
          refine vi_aload_n 19 rfl rfl ?_
          refine vi_get 20 rfl f_X12_60 hrf' rfl rfl ?_
          refine vi_istore 21 rfl rfl ?_
          refine vi_aload_n 22 rfl rfl ?_
          refine vi_iload_n 23 rfl rfl ?_
          refine vi_iconst 24 rfl ?_
          refine vi_iadd 25 rfl ?_
          refine vi_put 26 rfl f_X12_60 hrf' rfl rfl rfl rfl ?_
          refine vi_aload_n 27 rfl rfl ?_
          refine vi_iload_n 28 rfl rfl ?_
          refine vi_iload_n 29 rfl rfl ?_
          refine vi_V2 30 ok_X12_goesBy rfl c_X12_157 wb_ups rfl rfl ?_
          refine sp_X12_goesBy (n := m + 1) (sd := sd) (sf := sf) (cnt := cnt) (ru := ru) (ld := ld) (tt := tt) (tr := tr) (L := L) (H := H) (fi := fi) (ch := ch) wb_ups ((wb_upn (by omega)).trans h97) ((wb_upn (by omega)).trans h98) ⟨by omega, hR.2⟩ htt htr (by omega) (by omega) (fun w2 L2 H2 hLH hrf2 hf2 => ?_)
          have hrf2' := hrf2
          unfold wb_Rf at hrf2'
          refine vi_aload_n 31 rfl rfl ?_
          refine vi_get 32 rfl f_X12_60 hrf2' rfl rfl ?_
          refine vi_icmp_ne 33 rfl (by omega) (by omega) (fun c_60 => ?_) (fun c_60 => ?_)
          · refine vi_iconst 36 rfl ?_
            refine vi_istore 37 rfl rfl ?_
            refine vi_aload_n 38 rfl rfl ?_
            refine vi_iload 39 rfl rfl ?_
            refine vi_put 40 rfl f_X12_60 hrf2' rfl rfl rfl rfl ?_
            have hq := fun (w3 : wb_W) (h3 : wb_Rf w3 n sd sf cnt ru ld 0 0 ((-6)) tt tr L2 H2 fi ch) (e3 : ∀ k, k ≠ 96 → w3 k = w2 k) => hQ w3 (hre w3 L2 H2 cnt h3 (fun k k1 k2 => by rw [e3 k (by omega), hf2 k (by omega), wb_upn (by omega)])) (fun k hk => by rw [e3 k hk, hf2 k hk, wb_upn hk])
            rw [if_pos (by omega), if_pos (by omega)] at hq
            refine vi_iload 41 rfl rfl ?_
            refine vi_if_ne 42 rfl (by omega) (fun c => absurd c (by decide)) (fun _ => ?_)
            refine vi_bipush 43 rfl (by decide) ?_
            refine vi_goto 44 rfl ?_
            exact vi_ireturn 52 rfl rfl rfl (Nat.zero_le _) (Nat.zero_le _) (by first | (exfalso; omega) | (rw [if_pos (by omega)] at hq; exact hq _ wb_ups (fun k hk => wb_upn hk)) | (rw [if_neg (by omega), if_pos (by omega)] at hq; exact wb_e (congrArg Prod.fst (hLH (hfo.mp (by omega)))) (hq _ wb_ups (fun k hk => wb_upn hk))) | (rw [if_neg (by omega), if_neg (by omega)] at hq; exact wb_e (congrArg Prod.snd (hLH (hfo.mp (by omega)))) (hq _ wb_ups (fun k hk => wb_upn hk))))
          · refine vi_iconst 34 rfl ?_
            refine vi_goto 35 rfl ?_
            refine vi_istore 37 rfl rfl ?_
            refine vi_aload_n 38 rfl rfl ?_
            refine vi_iload 39 rfl rfl ?_
            refine vi_put 40 rfl f_X12_60 hrf2' rfl rfl rfl rfl ?_
            have hq := fun (w3 : wb_W) (h3 : wb_Rf w3 n sd sf cnt ru ld 0 0 ((-6)) tt tr L2 H2 fi ch) (e3 : ∀ k, k ≠ 96 → w3 k = w2 k) => hQ w3 (hre w3 L2 H2 cnt h3 (fun k k1 k2 => by rw [e3 k (by omega), hf2 k (by omega), wb_upn (by omega)])) (fun k hk => by rw [e3 k hk, hf2 k hk, wb_upn hk])
            rw [if_pos (by omega), if_pos (by omega)] at hq
            refine vi_iload 41 rfl rfl ?_
            refine vi_if_ne 42 rfl (by omega) (fun _ => ?_) (fun c => absurd c (by decide))
            refine vi_iload 45 rfl rfl ?_
            refine vi_if_ne 46 rfl (by omega) (fun c_88 => ?_) (fun c_88 => ?_)
            · refine vi_aload_n 50 rfl rfl ?_
              refine vi_get 51 rfl f_X12_117 wb_ups rfl rfl ?_
              exact vi_ireturn 52 rfl rfl rfl (Nat.zero_le _) (Nat.zero_le _) (by first | (exfalso; omega) | (rw [if_pos (by omega)] at hq; exact hq _ wb_ups (fun k hk => wb_upn hk)) | (rw [if_neg (by omega), if_pos (by omega)] at hq; exact wb_e (congrArg Prod.fst (hLH (hfo.mp (by omega)))) (hq _ wb_ups (fun k hk => wb_upn hk))) | (rw [if_neg (by omega), if_neg (by omega)] at hq; exact wb_e (congrArg Prod.snd (hLH (hfo.mp (by omega)))) (hq _ wb_ups (fun k hk => wb_upn hk))))
            · refine vi_aload_n 47 rfl rfl ?_
              refine vi_get 48 rfl f_X12_114 wb_ups rfl rfl ?_
              refine vi_goto 49 rfl ?_
              exact vi_ireturn 52 rfl rfl rfl (Nat.zero_le _) (Nat.zero_le _) (by first | (exfalso; omega) | (rw [if_pos (by omega)] at hq; exact hq _ wb_ups (fun k hk => wb_upn hk)) | (rw [if_neg (by omega), if_pos (by omega)] at hq; exact wb_e (congrArg Prod.fst (hLH (hfo.mp (by omega)))) (hq _ wb_ups (fun k hk => wb_upn hk))) | (rw [if_neg (by omega), if_neg (by omega)] at hq; exact wb_e (congrArg Prod.snd (hLH (hfo.mp (by omega)))) (hq _ wb_ups (fun k hk => wb_upn hk))))
        · refine vi_if_ne 16 rfl (by omega) (fun c => absurd c (by decide)) (fun _ => ?_)
          refine vi_bipush 17 rfl (by decide) ?_
          exact vi_ireturn 18 rfl rfl rfl (Nat.zero_le _) (Nat.zero_le _) (by have hq := hQ w hrr0 (fun _ _ => rfl); rw [if_pos (by omega), if_neg (by omega)] at hq; exact hq)
      · refine vi_if_ne 9 rfl (by omega) (fun c => absurd c (by decide)) (fun _ => ?_)
        refine vi_iconst 10 rfl ?_
        exact vi_ireturn 11 rfl rfl rfl (Nat.zero_le _) (Nat.zero_le _) (by have hq := hQ w hrr0 (fun _ _ => rfl); rw [if_neg (by omega)] at hq; exact hq)
    · refine vi_if_eq 5 rfl (by omega) (fun _ => ?_) (fun c => absurd c (by decide))
      refine vi_iconst 10 rfl ?_
      exact vi_ireturn 11 rfl rfl rfl (Nat.zero_le _) (Nat.zero_le _) (by have hq := hQ w hrr0 (fun _ _ => rfl); rw [if_neg (by omega)] at hq; exact hq)
  · refine vi_if_eq 2 rfl (by omega) (fun _ => ?_) (fun c => absurd c (by decide))
    refine vi_iconst 10 rfl ?_
    exact vi_ireturn 11 rfl rfl rfl (Nat.zero_le _) (Nat.zero_le _) (by have hq := hQ w hrr0 (fun _ _ => rfl); rw [if_neg (by omega)] at hq; exact hq)
end WBS58
