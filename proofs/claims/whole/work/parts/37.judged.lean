/-! ===== how far a mixture goes ===== -/
section WBS37
variable {G : wb_G} {N : Nat} {w : wb_W} {Q : Option Value → Nat → wb_W → Prop}
variable {n : Int} {c s : Int → Int} {sd sf bo tu : Int} {g : Int → Int64} {K : Int → Bool} {hl wt ct mt : Int}
/-- between what the stock of a thing lies by a mixture behind some months -/
def wb_rx (c s : Int → Int) (sd sf x t : Int) (m : Nat) : Int × Int := wb_rn (wb_le c t 0 0) (wb_mt c t 0 0) (s (4 * t + 2)) (s (4 * t + 3)) (fun m => wb_ne c sd sf x m t) (s (4 * t)) (s (4 * t + 1)) m
theorem wb_ne_rg {m t x : Int} (hR : wb_BR n c s sd sf) (hx : 0 ≤ x ∧ x < 15625) : 0 ≤ wb_ne c sd sf x m t ∧ wb_ne c sd sf x m t ≤ 320 := by
  have p1 := wb_pr_rg (x := x) (t := t) hx.1
  have p2 := wb_pr_rg (x := x) (t := sf) hx.1
  have h1 := wb_ow_rg (m := m) (t := t) (r := wb_pr x t) hR (by omega)
  have h2 := wb_gn_rg (m := m) (t := t) (r := wb_pr x sf) hR (by omega)
  unfold wb_ne; omega
theorem sp_X10_goesTill {x t last : Int} (hwo : wb_Wo w hl wt ct mt) (hfs : wb_FS w) (hbk : wb_Bk w 4 n c s sd sf bo tu g) (hR : wb_BR n c s sd sf) (hx : 0 ≤ x ∧ x < 15625) (ht : 0 ≤ t ∧ t < 3) (hla : -1 ≤ last ∧ last < n)
    (hQ : ∀ (w' : wb_W) (L H : Int), (wb_fm (wb_pk c s sd sf x t) (last + 1).toNat = last + 1 → wb_pk c s sd sf x t (last + 1).toNat = true ∧ (L, H) = wb_rx c s sd sf x t (last + 1).toNat) → (∃ (le mo : Int → Int) (fl fm ho lo : Int), wb_Fl w' 35 n le mo fl fm ho lo L H) → (∀ k, (k < 35 ∨ 38 ≤ k) → w' k = w k) → Q (some (.int (wb_i (wb_fm (wb_pk c s sd sf x t) (last + 1).toNat)))) N w') : wb_M G M_X10_goesTill [.ref 29, .int (wb_i x), .int (wb_i t), .int (wb_i last)] N w Q := by
  unfold wb_M
  have hn := hR.1
  obtain ⟨n0, le0, mo0, fl0, fm0, ho0, lo0, L0, H0, hfl⟩ := hfs
  have hs0 := hR.2.2.1 (4 * t)
  have hs2 := hR.2.2.1 (4 * t + 2)
  have hs8 := hR.2.2.2.2.2.2.2.1 t
  have lp : ∀ (le mo : Int → Int), (∀ m, 0 ≤ m → m < n → le m = wb_le c t 0 0 m ∧ mo m = wb_mt c t 0 0 m) → ∀ i, i ≤ last + 1 → ∀ (w1 : wb_W), 0 ≤ i → (∀ j : Nat, (j : Int) ≤ i → wb_pk c s sd sf x t j = true) → wb_Fl w1 35 n le mo (s (4 * t)) (s (4 * t + 1)) (s (4 * t + 2)) (s (4 * t + 3)) (wb_rx c s sd sf x t i.toNat).1 (wb_rx c s sd sf x t i.toNat).2 → (∀ k, (k < 35 ∨ 38 ≤ k) → w1 k = w k) → wb_V G M_X10_goesTill 24 [(0, .ref 29), (1, .int (wb_i x)), (2, .int (wb_i t)), (3, .int (wb_i last)), (4, .int (wb_i i))] [] N w1 0 0 Q := by
    intro le mo hle
    refine wb_up (last + 1) _ ?_
    intro i ih hi w1 hi0 hok hf1 ef
    have hf2 := hf1
    obtain ⟨y0, -, -⟩ := hf2
    have x0 := (ef 29 (by omega)).trans hwo.1
    have hbk1 : wb_Bk w1 4 n c s sd sf bo tu g := hbk.fr (fun k p1 p2 => ef k (by omega))
    have hrg := wb_ok_rg (le := wb_le c t 0 0) (mo := wb_mt c t 0 0) (lo := s (4 * t + 3)) (nd := fun m => wb_ne c sd sf x m t) (L0 := s (4 * t)) (H0 := s (4 * t + 1)) (ho := s (4 * t + 2)) ⟨hs0.1, hs8.1, by omega⟩ (by omega) _ (hok i.toNat (by omega))
    have hne := wb_ne_rg (m := i) (t := t) hR hx
    have hst : (i + 1).toNat = i.toNat + 1 := by omega
    have hii : ((i.toNat : Nat) : Int) = i := by omega
    change 0 ≤ (wb_rx c s sd sf x t i.toNat).1 ∧ (wb_rx c s sd sf x t i.toNat).1 ≤ (wb_rx c s sd sf x t i.toNat).2 ∧ (wb_rx c s sd sf x t i.toNat).2 ≤ 199 at hrg
    have rx1 : i < n → wb_rx c s sd sf x t (i + 1).toNat = (wb_c0 ((wb_rx c s sd sf x t i.toNat).1 + le i - wb_ne c sd sf x i t - s (4 * t + 3)), wb_cx (s (4 * t + 2)) ((wb_rx c s sd sf x t i.toNat).2 + mo i - wb_ne c sd sf x i t)) := fun q => by
      rw [hst]; show wb_rn _ _ _ _ _ _ _ _ = _
      rw [wb_rn, hii, (hle i hi0 q).1, (hle i hi0 q).2]; rfl
    have pk1 : wb_pk c s sd sf x t (i + 1).toNat = decide ((wb_rx c s sd sf x t (i + 1).toNat).1 ≤ (wb_rx c s sd sf x t (i + 1).toNat).2) := by
      have := hok i.toNat (by omega)
      rw [hst]
      show (wb_ok _ _ _ _ _ _ _ _ && _) = _
      rw [show wb_ok _ _ _ _ _ _ _ _ = true from this, Bool.true_and]; rfl
    refine vi_iload 13 rfl rfl ?_
    refine vi_iload_n 14 rfl rfl ?_
    refine vi_icmp_gt 15 rfl (by omega) (by omega) (fun c_27 => ?_) (fun c_27 => ?_)
    · refine vi_iload_n 34 rfl rfl ?_
      refine vi_iconst 35 rfl ?_
      refine vi_iadd 36 rfl ?_
      exact vi_ireturn 37 rfl rfl rfl (Nat.zero_le _) (Nat.zero_le _) (wb_e (by rw [wb_fm_all _ (fun j hj => hok j (by omega))]; omega) (hQ w1 _ _ (fun _ => ⟨by rw [show last + 1 = i by omega]; exact hok _ (by omega), by rw [show last + 1 = i by omega]⟩) ⟨_, _, _, _, _, _, hf1⟩ ef))
    · refine vi_iload 16 rfl rfl ?_
      refine vi_bipush 17 rfl (by decide) ?_
      refine vi_icmp_ge 18 rfl (by omega) (by omega) (fun c_34 => by exfalso; omega) (fun c_34 => ?_)
      refine vi_aload_n 19 rfl rfl ?_
      refine vi_get 20 rfl f_X10_21 x0 rfl rfl ?_
      refine vi_iload 21 rfl rfl ?_
      refine vi_aload_n 22 rfl rfl ?_
      refine vi_get 23 rfl f_X10_46 x0 rfl rfl ?_
      refine vi_iload_n 24 rfl rfl ?_
      refine vi_iload 25 rfl rfl ?_
      refine vi_iload_n 26 rfl rfl ?_
      refine vi_V3 27 ok_X0_neededBy rfl c_X10_134 hbk1.1 rfl rfl ?_
      refine sp_X0_neededBy hbk1 hR hx (by omega) ht ?_
      refine vi_V2 28 ok_X3_go rfl c_X10_138 y0 rfl rfl ?_
      refine sp_X3_go hf1 (wb_FR_set hR ht (by omega) hle) (by omega) (by omega) (by omega) (by omega) (fun b_54 => ?_) (fun b_54 => ?_)
      · intro L2 H2 hL2 hH2 hLH hf3 hf4
        have hr1 := rx1 (by omega)
        rw [← hL2, ← hH2] at hr1
        refine vi_if_ne 29 rfl (by omega) (fun _ => ?_) (fun c => absurd c (by decide))
        refine vi_iinc 32 rfl rfl rfl ?_
        refine vi_goto 33 rfl ?_
        exact vi_lc (ih (i + 1) (by omega) (by omega) b_54 (by omega) (fun j hj => by by_cases hji : (j : Int) ≤ i; (exact hok j hji); (rw [show j = (i + 1).toNat by omega, pk1, hr1]; exact decide_eq_true hLH)) (by rw [hr1]; exact hf3) (fun k hk => (hf4 k (by omega)).trans (ef k hk))) ⟨rfl, rfl, rfl, rfl, rfl, trivial⟩
      · intro L2 H2 hL2 hH2 hLH hf3 hf4
        have hr1 := rx1 (by omega)
        rw [← hL2, ← hH2] at hr1
        refine vi_if_ne 29 rfl (by omega) (fun c => absurd c (by decide)) (fun _ => ?_)
        refine vi_iload 30 rfl rfl ?_
        exact vi_ireturn 31 rfl rfl rfl (Nat.zero_le _) (Nat.zero_le _) (wb_e (by rw [wb_fm_at (m := i.toNat) (fun j hj => hok j (by omega)) (by rw [← hst, pk1, hr1]; exact decide_eq_false hLH) _ (by omega)]; omega) (hQ b_54 L2 H2 (fun q => by rw [wb_fm_at (m := i.toNat) (fun j hj => hok j (by omega)) (by rw [← hst, pk1, hr1]; exact decide_eq_false hLH) _ (by omega)] at q; omega) ⟨_, _, _, _, _, _, hf3⟩ (fun k hk => (hf4 k (by omega)).trans (ef k hk))))
  refine vi_aload_n 0 rfl rfl ?_
  refine vi_get 1 rfl f_X10_21 hwo.1 rfl rfl ?_
  refine vi_aload_n 2 rfl rfl ?_
  refine vi_get 3 rfl f_X10_46 hwo.1 rfl rfl ?_
  refine vi_iload_n 4 rfl rfl ?_
  refine vi_iconst 5 rfl ?_
  refine vi_iconst 6 rfl ?_
  refine vi_V4 7 ok_X3_set rfl c_X10_101 hfl.1 rfl rfl ?_
  refine sp_X3_set hfl hbk hR (by omega) ht (by omega) (by omega) (fun w2 le2 mo2 hle2 hfl2 hf2 => ?_)
  refine vi_aload_n 8 rfl rfl ?_
  refine vi_get 9 rfl f_X10_21 ((hf2 _ (by omega)).trans hwo.1) rfl rfl ?_
  refine vi_V0 10 ok_X3_begin rfl c_X10_131 hfl2.1 rfl rfl ?_
  refine sp_X3_begin hfl2 (fun w3 hfl3 hf3 => ?_)
  refine vi_iconst 11 rfl ?_
  refine vi_istore 12 rfl rfl ?_
  exact vi_lc (lp le2 mo2 hle2 0 (by omega) w3 (by omega) (fun j hj => by rw [show j = 0 by omega]; rfl) hfl3 (fun k hk => (hf3 k (by omega)).trans (hf2 k (by omega)))) ⟨rfl, rfl, rfl, rfl, rfl, trivial⟩
theorem sp_X10_judged {x : Int} (hwo : wb_Wo w hl wt ct mt) (hfs : wb_FS w) (hbk : wb_Bk w 4 n c s sd sf bo tu g) (hR : wb_BR n c s sd sf) (hx : 0 ≤ x ∧ x < 15625)
    (hQ : ∀ (w' : wb_W), wb_FS w' → (∀ k, (k < 35 ∨ 38 ≤ k) → w' k = w k) → Q (some (.int (wb_i (wb_jg (fun t => wb_fm (wb_pk c s sd sf x t) n.toNat) n 3).2))) N w') : wb_M G M_X10_judged [.ref 29, .int (wb_i x)] N w Q := by
  unfold wb_M
  have hn := hR.1
  have lp : ∀ i, i ≤ 3 → ∀ (w1 : wb_W) (q : Value), 0 ≤ i → wb_FS w1 → (∀ k, (k < 35 ∨ 38 ≤ k) → w1 k = w k) → wb_V G M_X10_judged 13 [(0, .ref 29), (1, .int (wb_i x)), (2, .int (wb_i (wb_jg (fun t => wb_fm (wb_pk c s sd sf x t) n.toNat) n i.toNat).2)), (3, .int (wb_i (wb_jg (fun t => wb_fm (wb_pk c s sd sf x t) n.toNat) n i.toNat).1)), (4, .int (wb_i i))] [] N w1 0 0 Q := by
    refine wb_up 3 _ ?_
    intro i ih hi w1 _ hi0 hfs1 ef
    have hwo1 : wb_Wo w1 hl wt ct mt := hwo.fr (fun k hk => ef k (by omega))
    have hbk1 : wb_Bk w1 4 n c s sd sf bo tu g := hbk.fr (fun k p1 p2 => ef k (by omega))
    have hjr := wb_jg_rg (r := fun t => wb_fm (wb_pk c s sd sf x t) n.toNat) hn (fun t => (wb_fm_rg _ _).1) i.toNat (by omega)
    have hst : (i + 1).toNat = i.toNat + 1 := by omega
    have hii : ((i.toNat : Nat) : Int) = i := by omega
    have hfr := wb_fm_rg (wb_pk c s sd sf x i) n.toNat
    have hmin := wb_fm_min (wb_pk c s sd sf x i) (n.toNat - (wb_jg (fun t => wb_fm (wb_pk c s sd sf x t) n.toNat) n i.toNat).1.toNat) (wb_jg (fun t => wb_fm (wb_pk c s sd sf x t) n.toNat) n i.toNat).1.toNat
    rw [show (wb_jg (fun t => wb_fm (wb_pk c s sd sf x t) n.toNat) n i.toNat).1.toNat + (n.toNat - (wb_jg (fun t => wb_fm (wb_pk c s sd sf x t) n.toNat) n i.toNat).1.toNat) = n.toNat by omega] at hmin
    have hjs : wb_jg (fun t => wb_fm (wb_pk c s sd sf x t) n.toNat) n (i + 1).toNat = wb_js (wb_jg (fun t => wb_fm (wb_pk c s sd sf x t) n.toNat) n i.toNat) i (wb_fm (wb_pk c s sd sf x i) n.toNat) := by rw [hst, wb_jg, hii]
    generalize hR1 : wb_jg (fun t => wb_fm (wb_pk c s sd sf x t) n.toNat) n i.toNat = J at hjr hmin hjs ⊢
    generalize hR2 : wb_fm (wb_pk c s sd sf x i) n.toNat = f at hfr hmin hjs
    refine vi_iload 8 rfl rfl ?_
    refine vi_iconst 9 rfl ?_
    refine vi_icmp_ge 10 rfl (by omega) (by omega) (fun c_16 => ?_) (fun c_16 => ?_)
    · refine vi_iload_n 32 rfl rfl ?_
      exact vi_ireturn 33 rfl rfl rfl (Nat.zero_le _) (Nat.zero_le _) (wb_e (by rw [← hR1, show i.toNat = 3 by omega]) (hQ w1 hfs1 ef))
    · refine vi_aload_n 11 rfl rfl ?_
      refine vi_iload_n 12 rfl rfl ?_
      refine vi_iload 13 rfl rfl ?_
      refine vi_iload_n 14 rfl rfl ?_
      refine vi_iconst 15 rfl ?_
      refine vi_isub 16 rfl ?_
      refine vi_V3 17 ok_X10_goesTill rfl c_X10_145 hwo1.1 rfl rfl ?_
      refine sp_X10_goesTill hwo1 hfs1 hbk1 hR hx (by omega) (by omega) (fun w2 L2 H2 _ hfl2 hf2 => ?_)
      have hfs2 : wb_FS w2 := hfl2.elim fun a h => h.elim fun b h => h.elim fun c1 h => h.elim fun d h => h.elim fun e1 h => h.elim fun f1 h => ⟨_, _, _, _, _, _, _, _, _, h⟩
      rw [show J.1 - 1 + 1 = J.1 by omega]
      generalize hv : wb_fm (wb_pk c s sd sf x i) J.1.toNat = v at hmin ⊢
      refine vi_istore 18 rfl rfl ?_
      refine vi_iload 19 rfl rfl ?_
      refine vi_iload_n 20 rfl rfl ?_
      refine vi_icmp_ge 21 rfl (by omega) (by omega) (fun c_34 => ?_) (fun c_34 => ?_)
      · refine vi_iinc 30 rfl rfl rfl ?_
        refine vi_goto 31 rfl ?_
        first | (have key := ih (i + 1) (by omega) (by omega) w2 (.int 0) (by omega) hfs2 (fun k hk => (hf2 k (by omega)).trans (ef k hk)); rw [hjs, wb_js, if_neg (show ¬ f < J.1 by split at hmin <;> omega)] at key; exact vi_lc key ⟨rfl, rfl, rfl, rfl, rfl, trivial⟩) | (have key := ih (i + 1) (by omega) (by omega) w2 (.int 0) (by omega) hfs2 (fun k hk => (hf2 k (by omega)).trans (ef k hk)); rw [hjs, wb_js, if_pos (show f < J.1 by split at hmin <;> omega)] at key; have hvf : v = f := (by split at hmin <;> omega); subst hvf; exact vi_lc key ⟨rfl, rfl, rfl, rfl, rfl, trivial⟩)
      · refine vi_iload 22 rfl rfl ?_
        refine vi_istore_n 23 rfl rfl ?_
        refine vi_iconst 24 rfl ?_
        refine vi_iload 25 rfl rfl ?_
        refine vi_imul 26 rfl ?_
        refine vi_iload 27 rfl rfl ?_
        refine vi_iadd 28 rfl ?_
        refine vi_istore_n 29 rfl rfl ?_
        refine vi_iinc 30 rfl rfl rfl ?_
        refine vi_goto 31 rfl ?_
        first | (have key := ih (i + 1) (by omega) (by omega) w2 (.int 0) (by omega) hfs2 (fun k hk => (hf2 k (by omega)).trans (ef k hk)); rw [hjs, wb_js, if_neg (show ¬ f < J.1 by split at hmin <;> omega)] at key; exact vi_lc key ⟨rfl, rfl, rfl, rfl, rfl, trivial⟩) | (have key := ih (i + 1) (by omega) (by omega) w2 (.int 0) (by omega) hfs2 (fun k hk => (hf2 k (by omega)).trans (ef k hk)); rw [hjs, wb_js, if_pos (show f < J.1 by split at hmin <;> omega)] at key; have hvf : v = f := (by split at hmin <;> omega); subst hvf; exact vi_lc key ⟨rfl, rfl, rfl, rfl, rfl, trivial⟩)
  refine vi_iconst 0 rfl ?_
  refine vi_istore_n 1 rfl rfl ?_
  refine vi_aload_n 2 rfl rfl ?_
  refine vi_get 3 rfl f_X10_46 hwo.1 rfl rfl ?_
  refine vi_get 4 rfl f_X10_142 hbk.1 rfl rfl ?_
  refine vi_istore_n 5 rfl rfl ?_
  refine vi_iconst 6 rfl ?_
  refine vi_istore 7 rfl rfl ?_
  exact vi_lc (lp 0 (by omega) w (.int 0) (by omega) hfs (fun _ _ => rfl)) ⟨rfl, rfl, rfl, rfl, rfl, trivial⟩
end WBS37
