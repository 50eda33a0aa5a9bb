/-! ===== charts onward; pairs that go on ===== -/
theorem wb_bo_no {le mo : Int → Int} {ho lo : Int} {nd : Int → Int} {n : Int} {m : Nat} (h : wb_bo le mo ho lo nd n m = false) : wb_bo le mo ho lo nd n (m + 1) = false := by
  show (wb_bo le mo ho lo nd n m && _) = false
  rw [h]; rfl
section WBS26
variable {G : wb_G} {N : Nat} {w : wb_W} {Q : Option Value → Nat → wb_W → Prop} {b bb fb pb : Nat} {rm : Nat} {nd ah on : Int → Int} {t gu ke : Int}
variable {n : Int} {le mo : Int → Int} {fl fm ho lo L H : Int}
theorem sp_X2_chartOnward {k : Int} (hb : wb_Co w b rm nd ah on t gu ke) (hfl : wb_Fl w fb n le mo fl fm ho lo L H) (hR : wb_FR n le mo fl fm ho lo) (hap : fb + 3 ≤ b ∨ b + 6 ≤ fb) (hk : 0 ≤ k ∧ k < rm) (hrm : rm ≤ 625) (hnd : ∀ m, 0 ≤ m → m < n → 0 ≤ nd (k * 8 + m) ∧ nd (k * 8 + m) ≤ 100000)
    (hQ : ∀ (w' : wb_W) (on' : Int → Int) (L' H' : Int), (∀ m : Int, 1 ≤ m → m ≤ n → on' (k * 9 + m) = wb_on le mo ho lo (fun m => nd (k * 8 + m)) n (n - m).toNat) → (∀ j, (j < k * 9 ∨ k * 9 + 9 ≤ j) → on' j = on j) → wb_Co w' b rm nd ah on' t gu ke → wb_Fl w' fb n le mo fl fm ho lo L' H' → (∀ k, k ≠ fb → k ≠ b + 5 → w' k = w k) → Q none N w') : wb_M G M_X2_chartOnward [.ref b, .ref fb, .int (wb_i k)] N w Q := by
  obtain ⟨f0, f1, h0, h1, h2, h3, h4, h5⟩ := hb
  have hR' := hR
  obtain ⟨r1, r2, r3, r4, r5, r6⟩ := hR
  unfold wb_M
  have lp : ∀ d, d ≤ n → ∀ (w1 : wb_W) (on1 : Int → Int) (L1 H1 gz : Int), 0 ≤ d → (∀ m : Int, 1 ≤ m → n - d ≤ m → m ≤ n → on1 (k * 9 + m) = wb_on le mo ho lo (fun m => nd (k * 8 + m)) n (n - m).toNat) → (∀ j, (j < k * 9 ∨ k * 9 + 9 ≤ j) → on1 j = on j) → gz = (if wb_bo le mo ho lo (fun m => nd (k * 8 + m)) n d.toNat then 1 else 0) → (gz = 1 → L1 = (wb_br le mo ho lo (fun m => nd (k * 8 + m)) n d.toNat).1 ∧ H1 = (wb_br le mo ho lo (fun m => nd (k * 8 + m)) n d.toNat).2) → w1 (b + 5) = aI (rm * 9) on1 → wb_Fl w1 fb n le mo fl fm ho lo L1 H1 → (∀ k, k ≠ fb → k ≠ b + 5 → w1 k = w k) → wb_V G M_X2_chartOnward 39 [(0, .ref b), (1, .ref fb), (2, .int (wb_i k)), (3, .int (wb_i gz)), (4, .int (wb_i (n - 1 - d)))] [] N w1 0 0 Q := by
    refine wb_up n _ ?_
    intro d ih hd w1 on1 L1 H1 gz hd0 hon hon2 hgz hg1 e5 hf1 ef
    have hf2 := hf1
    obtain ⟨x0, -, -⟩ := hf2
    have e0 := (ef b (by omega) (by omega)).trans h0
    have e3 := (ef (b + 3) (by omega) (by omega)).trans h3
    have hst : (d + 1).toNat = d.toNat + 1 := by omega
    have hdd : ((d.toNat : Nat) : Int) = d := by omega
    have hgz2 : gz = 0 ∨ gz = 1 := by rw [hgz]; split <;> simp
    have hok : gz = 1 → wb_bo le mo ho lo (fun m => nd (k * 8 + m)) n d.toNat = true := fun h => by
      cases hh : wb_bo le mo ho lo (fun m => nd (k * 8 + m)) n d.toNat with
      | true => rfl
      | false => rw [hh] at hgz; simp at hgz; omega
    have hrg : gz = 1 → 0 ≤ L1 ∧ L1 ≤ H1 ∧ H1 ≤ 199 := fun h => by
      have := wb_bo_rg (le := le) (mo := mo) (lo := lo) (nd := fun m => nd (k * 8 + m)) (n := n) r5 _ (hok h)
      obtain ⟨z1, z2⟩ := hg1 h
      omega
    have nx0 : d < n - 1 → wb_bo le mo ho lo (fun m => nd (k * 8 + m)) n (d.toNat + 1) = false → ∀ (w2 : wb_W) (L2 H2 : Int), w2 (b + 5) = aI (rm * 9) (wb_u on1 (k * 9 + (n - 1 - d)) (-1)) → wb_Fl w2 fb n le mo fl fm ho lo L2 H2 → (∀ k, k ≠ fb → k ≠ b + 5 → w2 k = w k) → wb_V G M_X2_chartOnward 39 [(0, .ref b), (1, .ref fb), (2, .int (wb_i k)), (3, .int (wb_i 0)), (4, .int (wb_i (n - 1 - d + -1)))] [] N w2 0 0 Q := by
      intro hin hno w2 L2 H2 q4 qf qe
      rw [show n - 1 - d + -1 = n - 1 - (d + 1) by omega]
      refine ih (d + 1) (by omega) (by omega) w2 _ L2 H2 0 (by omega) (fun m p1 p2 p3 => ?_) (fun j hj => by rw [wb_un (by omega)]; exact hon2 j hj) (by rw [hst, hno]; rfl) (fun q => by omega) q4 qf qe
      by_cases hm : m = n - 1 - d
      · subst hm; rw [wb_us, show (n - (n - 1 - d)).toNat = d.toNat + 1 by omega]; unfold wb_on; rw [hno]; rfl
      · rw [wb_un (by omega)]; exact hon m p1 (by omega) p3
    refine vi_iload 23 rfl rfl ?_
    refine vi_if_le 24 rfl (by omega) (fun c_41 => ?_) (fun c_41 => ?_)
    · exact vi_return 62 rfl rfl (Nat.zero_le _) (Nat.zero_le _) (hQ w1 on1 L1 H1 (fun m p1 p2 => hon m p1 (by omega) p2) hon2 ⟨f0, f1, e0, (ef _ (by omega) (by omega)).trans h1, (ef _ (by omega) (by omega)).trans h2, e3, (ef _ (by omega) (by omega)).trans h4, e5⟩ hf1 ef)
    · refine vi_iload_n 25 rfl rfl ?_
      refine vi_if_eq 26 rfl (by omega) (fun c_45 => ?_) (fun c_45 => ?_)
      · refine vi_iconst 41 rfl ?_
        refine vi_istore_n 42 rfl rfl ?_
        refine vi_aload_n 43 rfl rfl ?_
        refine vi_get 44 rfl f_X2_31 (by first | exact e0b | exact e0) rfl rfl ?_
        refine vi_iload_n 45 rfl rfl ?_
        refine vi_bipush 46 rfl (by decide) ?_
        refine vi_imul 47 rfl ?_
        refine vi_iload 48 rfl rfl ?_
        refine vi_iadd 49 rfl ?_
        refine vi_iload_n 50 rfl rfl ?_
        refine vi_if_eq 51 rfl (by omega) (fun _ => ?_) (fun c => absurd c (by decide))
        refine vi_iconst 58 rfl ?_
        refine vi_iast 59 rfl (by first | exact e5b | exact e5) (by omega) ?_
        refine vi_iinc 60 rfl rfl rfl ?_
        refine vi_goto 61 rfl ?_
        first | exact vi_lc (by rw [show n - 1 - d + -1 = n - 1 - (d + 1) by omega]; exact ih (d + 1) (by omega) (by omega) (va_up b_63 (b + 5) _) _ L2 H2 1 (by omega) (fun m p1 p2 p3 => by by_cases hm : m = n - 1 - d; (subst hm; rw [wb_us, show (n - (n - 1 - d)).toNat = d.toNat + 1 by omega]; unfold wb_on wb_so; rw [if_pos hok2, if_pos hLH, hrn.1, hrn.2]); (rw [wb_un (by omega)]; exact hon m p1 (by omega) p3)) (fun j hj => by rw [wb_un (by omega)]; exact hon2 j hj) (by rw [hst, if_pos hok2]) (fun _ => by rw [hst]; exact ⟨hrn.1.symm, hrn.2.symm⟩) wb_ups (hf3.fr (fun k q1 q2 => wb_upn (by omega))) (fun k p1 p2 => (wb_upn p2).trans ((hf4 k p1).trans (ef k p1 p2)))) (l' := [(0, .ref b), (1, .ref fb), (2, .int (wb_i k)), (3, .int (wb_i 1)), (4, .int (wb_i (n - 1 - d + -1)))]) ⟨rfl, rfl, rfl, rfl, rfl, trivial⟩ | exact vi_lc (nx0 (by omega) hno _ L2 H2 wb_ups (hf3.fr (fun k q1 q2 => wb_upn (by omega))) (fun k p1 p2 => (wb_upn p2).trans ((hf4 k p1).trans (ef k p1 p2)))) ⟨rfl, rfl, rfl, rfl, rfl, trivial⟩ | exact vi_lc (nx0 (by omega) (wb_bo_no (m := d.toNat) (by cases hh : wb_bo le mo ho lo (fun m => nd (k * 8 + m)) n d.toNat with | false => rfl | true => rw [hh] at hgz; simp at hgz; omega)) _ L1 H1 wb_ups (hf1.fr (fun k q1 q2 => wb_upn (by omega))) (fun k p1 p2 => (wb_upn p2).trans (ef k p1 p2))) ⟨rfl, rfl, rfl, rfl, rfl, trivial⟩
      · refine vi_aload_n 27 rfl rfl ?_
        refine vi_iload 28 rfl rfl ?_
        refine vi_aload_n 29 rfl rfl ?_
        refine vi_get 30 rfl f_X2_25 e0 rfl rfl ?_
        refine vi_iload_n 31 rfl rfl ?_
        refine vi_bipush 32 rfl (by decide) ?_
        refine vi_imul 33 rfl ?_
        refine vi_iload 34 rfl rfl ?_
        refine vi_iadd 35 rfl ?_
        refine vi_iald 36 rfl e3 (by omega) ?_
        refine vi_V2 37 ok_X3_goBack rfl c_X2_111 x0 rfl rfl ?_
        refine sp_X3_goBack hf1 hR' (by have := hrg (by omega); omega) (by have := hrg (by omega); omega) (by omega) (by have := hnd (n - 1 - d) (by omega) (by omega); omega) (fun b_63 => ?_) (fun b_63 => ?_)
        · intro L2 H2 hL2 hH2 hLH hf3 hf4
          have e0b := (hf4 b (by omega)).trans e0
          have e5b := (hf4 (b + 5) (by omega)).trans e5
          have hf5 := hf3
          obtain ⟨y0, -, -⟩ := hf5
          obtain ⟨z1, z2⟩ := hg1 (by omega)
          have hok2 : wb_bo le mo ho lo (fun m => nd (k * 8 + m)) n (d.toNat + 1) = true := by (show (wb_bo _ _ _ _ _ _ _ && decide (wb_c0 _ ≤ wb_cx _ _)) = true; rw [hok (by omega), hdd, ← z1, ← z2, ← hL2, ← hH2]; simp [hLH])
          have hrn : (wb_br le mo ho lo (fun m => nd (k * 8 + m)) n (d.toNat + 1)).1 = L2 ∧ (wb_br le mo ho lo (fun m => nd (k * 8 + m)) n (d.toNat + 1)).2 = H2 := by (show wb_c0 _ = L2 ∧ wb_cx _ _ = H2; rw [hdd, ← z1, ← z2, ← hL2, ← hH2]; exact ⟨rfl, rfl⟩)
          have hrg2 := wb_bo_rg (le := le) (mo := mo) (lo := lo) (nd := fun m => nd (k * 8 + m)) (n := n) r5 _ hok2
          rw [hrn.1, hrn.2] at hrg2
          refine vi_if_eq 38 rfl (by omega) (fun c => absurd c (by decide)) (fun _ => ?_)
          refine vi_iconst 39 rfl ?_
          refine vi_goto 40 rfl ?_
          refine vi_istore_n 42 rfl rfl ?_
          refine vi_aload_n 43 rfl rfl ?_
          refine vi_get 44 rfl f_X2_31 (by first | exact e0b | exact e0) rfl rfl ?_
          refine vi_iload_n 45 rfl rfl ?_
          refine vi_bipush 46 rfl (by decide) ?_
          refine vi_imul 47 rfl ?_
          refine vi_iload 48 rfl rfl ?_
          refine vi_iadd 49 rfl ?_
          refine vi_iload_n 50 rfl rfl ?_
          refine vi_if_eq 51 rfl (by omega) (fun c => absurd c (by decide)) (fun _ => ?_)
          refine vi_aload_n 52 rfl rfl ?_
          refine vi_get 53 rfl f_X2_99 y0 rfl rfl ?_
          refine vi_aload_n 54 rfl rfl ?_
          refine vi_get 55 rfl f_X2_102 y0 rfl rfl ?_
          refine vi_S2 56 ok_X11_spanOf rfl c_X2_105 rfl ?_
          refine sp_X11_spanOf (by omega) (by omega) ?_
          refine vi_goto 57 rfl ?_
          refine vi_iast 59 rfl (by first | exact e5b | exact e5) (by omega) ?_
          refine vi_iinc 60 rfl rfl rfl ?_
          refine vi_goto 61 rfl ?_
          first | exact vi_lc (by rw [show n - 1 - d + -1 = n - 1 - (d + 1) by omega]; exact ih (d + 1) (by omega) (by omega) (va_up b_63 (b + 5) _) _ L2 H2 1 (by omega) (fun m p1 p2 p3 => by by_cases hm : m = n - 1 - d; (subst hm; rw [wb_us, show (n - (n - 1 - d)).toNat = d.toNat + 1 by omega]; unfold wb_on wb_so; rw [if_pos hok2, if_pos hLH, hrn.1, hrn.2]); (rw [wb_un (by omega)]; exact hon m p1 (by omega) p3)) (fun j hj => by rw [wb_un (by omega)]; exact hon2 j hj) (by rw [hst, if_pos hok2]) (fun _ => by rw [hst]; exact ⟨hrn.1.symm, hrn.2.symm⟩) wb_ups (hf3.fr (fun k q1 q2 => wb_upn (by omega))) (fun k p1 p2 => (wb_upn p2).trans ((hf4 k p1).trans (ef k p1 p2)))) (l' := [(0, .ref b), (1, .ref fb), (2, .int (wb_i k)), (3, .int (wb_i 1)), (4, .int (wb_i (n - 1 - d + -1)))]) ⟨rfl, rfl, rfl, rfl, rfl, trivial⟩ | exact vi_lc (nx0 (by omega) hno _ L2 H2 wb_ups (hf3.fr (fun k q1 q2 => wb_upn (by omega))) (fun k p1 p2 => (wb_upn p2).trans ((hf4 k p1).trans (ef k p1 p2)))) ⟨rfl, rfl, rfl, rfl, rfl, trivial⟩ | exact vi_lc (nx0 (by omega) (wb_bo_no (m := d.toNat) (by cases hh : wb_bo le mo ho lo (fun m => nd (k * 8 + m)) n d.toNat with | false => rfl | true => rw [hh] at hgz; simp at hgz; omega)) _ L1 H1 wb_ups (hf1.fr (fun k q1 q2 => wb_upn (by omega))) (fun k p1 p2 => (wb_upn p2).trans (ef k p1 p2))) ⟨rfl, rfl, rfl, rfl, rfl, trivial⟩
        · intro L2 H2 hL2 hH2 hLH hf3 hf4
          have e0b := (hf4 b (by omega)).trans e0
          have e5b := (hf4 (b + 5) (by omega)).trans e5
          obtain ⟨z1, z2⟩ := hg1 (by omega)
          have hno : wb_bo le mo ho lo (fun m => nd (k * 8 + m)) n (d.toNat + 1) = false := by (show (wb_bo _ _ _ _ _ _ _ && decide (wb_c0 _ ≤ wb_cx _ _)) = false; rw [hdd, ← z1, ← z2, ← hL2, ← hH2]; simp [hLH])
          refine vi_if_eq 38 rfl (by omega) (fun _ => ?_) (fun c => absurd c (by decide))
          refine vi_iconst 41 rfl ?_
          refine vi_istore_n 42 rfl rfl ?_
          refine vi_aload_n 43 rfl rfl ?_
          refine vi_get 44 rfl f_X2_31 (by first | exact e0b | exact e0) rfl rfl ?_
          refine vi_iload_n 45 rfl rfl ?_
          refine vi_bipush 46 rfl (by decide) ?_
          refine vi_imul 47 rfl ?_
          refine vi_iload 48 rfl rfl ?_
          refine vi_iadd 49 rfl ?_
          refine vi_iload_n 50 rfl rfl ?_
          refine vi_if_eq 51 rfl (by omega) (fun _ => ?_) (fun c => absurd c (by decide))
          refine vi_iconst 58 rfl ?_
          refine vi_iast 59 rfl (by first | exact e5b | exact e5) (by omega) ?_
          refine vi_iinc 60 rfl rfl rfl ?_
          refine vi_goto 61 rfl ?_
          first | exact vi_lc (by rw [show n - 1 - d + -1 = n - 1 - (d + 1) by omega]; exact ih (d + 1) (by omega) (by omega) (va_up b_63 (b + 5) _) _ L2 H2 1 (by omega) (fun m p1 p2 p3 => by by_cases hm : m = n - 1 - d; (subst hm; rw [wb_us, show (n - (n - 1 - d)).toNat = d.toNat + 1 by omega]; unfold wb_on wb_so; rw [if_pos hok2, if_pos hLH, hrn.1, hrn.2]); (rw [wb_un (by omega)]; exact hon m p1 (by omega) p3)) (fun j hj => by rw [wb_un (by omega)]; exact hon2 j hj) (by rw [hst, if_pos hok2]) (fun _ => by rw [hst]; exact ⟨hrn.1.symm, hrn.2.symm⟩) wb_ups (hf3.fr (fun k q1 q2 => wb_upn (by omega))) (fun k p1 p2 => (wb_upn p2).trans ((hf4 k p1).trans (ef k p1 p2)))) (l' := [(0, .ref b), (1, .ref fb), (2, .int (wb_i k)), (3, .int (wb_i 1)), (4, .int (wb_i (n - 1 - d + -1)))]) ⟨rfl, rfl, rfl, rfl, rfl, trivial⟩ | exact vi_lc (nx0 (by omega) hno _ L2 H2 wb_ups (hf3.fr (fun k q1 q2 => wb_upn (by omega))) (fun k p1 p2 => (wb_upn p2).trans ((hf4 k p1).trans (ef k p1 p2)))) ⟨rfl, rfl, rfl, rfl, rfl, trivial⟩ | exact vi_lc (nx0 (by omega) (wb_bo_no (m := d.toNat) (by cases hh : wb_bo le mo ho lo (fun m => nd (k * 8 + m)) n d.toNat with | false => rfl | true => rw [hh] at hgz; simp at hgz; omega)) _ L1 H1 wb_ups (hf1.fr (fun k q1 q2 => wb_upn (by omega))) (fun k p1 p2 => (wb_upn p2).trans (ef k p1 p2))) ⟨rfl, rfl, rfl, rfl, rfl, trivial⟩
  have hfl' := hfl
  obtain ⟨x0, -, -⟩ := hfl'
  refine vi_aload_n 0 rfl rfl ?_
  refine vi_V0 1 ok_X3_beginBehind rfl c_X2_108 x0 rfl rfl ?_
  refine sp_X3_beginBehind hfl (fun w2 hf2 hf3 => ?_)
  have hf4 := hf2
  obtain ⟨y0, -, -⟩ := hf4
  have e0b := (hf3 b (by omega)).trans h0
  have e5b := (hf3 (b + 5) (by omega)).trans h5
  refine vi_iconst 2 rfl ?_
  refine vi_istore_n 3 rfl rfl ?_
  refine vi_aload_n 4 rfl rfl ?_
  refine vi_get 5 rfl f_X2_31 e0b rfl rfl ?_
  refine vi_iload_n 6 rfl rfl ?_
  refine vi_bipush 7 rfl (by decide) ?_
  refine vi_imul 8 rfl ?_
  refine vi_aload_n 9 rfl rfl ?_
  refine vi_get 10 rfl f_X2_87 y0 rfl rfl ?_
  refine vi_iadd 11 rfl ?_
  refine vi_aload_n 12 rfl rfl ?_
  refine vi_get 13 rfl f_X2_99 y0 rfl rfl ?_
  refine vi_aload_n 14 rfl rfl ?_
  refine vi_get 15 rfl f_X2_102 y0 rfl rfl ?_
  refine vi_S2 16 ok_X11_spanOf rfl c_X2_105 rfl ?_
  refine sp_X11_spanOf (by omega) (by omega) ?_
  refine vi_iast 17 rfl e5b (by omega) ?_
  refine vi_aload_n 18 rfl rfl ?_
  refine vi_get 19 rfl f_X2_87 ((wb_upn (by omega)).trans y0) rfl rfl ?_
  refine vi_iconst 20 rfl ?_
  refine vi_isub 21 rfl ?_
  refine vi_istore 22 rfl rfl ?_
  exact vi_lc (by have := lp 0 (by omega) (va_up w2 (b + 5) (aI (rm * 9) (wb_u on (k * 9 + n) (wb_so 0 ho)))) _ 0 ho 1 (by omega) (fun m p1 p2 p3 => by rw [show m = n by omega, wb_us]; unfold wb_on wb_so; rw [if_pos (by omega), show (n - n).toNat = 0 by omega]; rfl) (fun j hj => wb_un (by omega)) rfl (fun _ => ⟨rfl, rfl⟩) wb_ups (hf2.fr (fun k q1 q2 => wb_upn (by omega))) (fun k p1 p2 => (wb_upn p2).trans (hf3 k p1)); rw [show n - 1 - 0 = n - 1 by omega] at this; exact this) (l' := [(0, .ref b), (1, .ref fb), (2, .int (wb_i k)), (3, .int (wb_i 1)), (4, .int (wb_i (n - 1)))]) ⟨rfl, rfl, rfl, rfl, rfl, trivial⟩
theorem sp_X2_chart (hb : wb_Co w b rm nd ah on t gu rm) (hfl : wb_Fl w fb n le mo fl fm ho lo L H) (hR : wb_FR n le mo fl fm ho lo) (hff : fl ≤ fm) (hap : fb + 3 ≤ b ∨ b + 6 ≤ fb) (hrm : rm ≤ 625) (hnd : ∀ k m : Int, 0 ≤ k → k < rm → 0 ≤ m → m < n → 0 ≤ nd (k * 8 + m) ∧ nd (k * 8 + m) ≤ 100000)
    (hQ : ∀ (w' : wb_W) (ah' on' : Int → Int) (L' H' : Int), (∀ k m : Int, 0 ≤ k → k < rm → 0 ≤ m → m ≤ n → ah' (k * 9 + m) = wb_ah le mo ho lo (fun m => nd (k * 8 + m)) fl fm m.toNat) → (∀ k m : Int, 0 ≤ k → k < rm → 1 ≤ m → m ≤ n → on' (k * 9 + m) = wb_on le mo ho lo (fun m => nd (k * 8 + m)) n (n - m).toNat) → wb_Co w' b rm nd ah' on' t gu rm → wb_Fl w' fb n le mo fl fm ho lo L' H' → (∀ k, k ≠ fb → k ≠ b + 4 → k ≠ b + 5 → w' k = w k) → Q none N w') : wb_M G M_X2_chart [.ref b, .ref fb] N w Q := by
  unfold wb_M
  have r1 := hR.1
  have lp : ∀ i, i ≤ (rm : Int) → ∀ (w1 : wb_W) (ah1 on1 : Int → Int) (L1 H1 : Int), 0 ≤ i → (∀ k m : Int, 0 ≤ k → k < i → 0 ≤ m → m ≤ n → ah1 (k * 9 + m) = wb_ah le mo ho lo (fun m => nd (k * 8 + m)) fl fm m.toNat) → (∀ k m : Int, 0 ≤ k → k < i → 1 ≤ m → m ≤ n → on1 (k * 9 + m) = wb_on le mo ho lo (fun m => nd (k * 8 + m)) n (n - m).toNat) → wb_Co w1 b rm nd ah1 on1 t gu rm → wb_Fl w1 fb n le mo fl fm ho lo L1 H1 → (∀ k, k ≠ fb → k ≠ b + 4 → k ≠ b + 5 → w1 k = w k) → wb_V G M_X2_chart 2 [(0, .ref b), (1, .ref fb), (2, .int (wb_i i))] [] N w1 0 0 Q := by
    refine wb_up rm _ ?_
    intro i ih hi w1 ah1 on1 L1 H1 hi0 ha1 ho1 hco hf1 ef
    have hco' := hco
    obtain ⟨_, _, x0, -⟩ := hco'
    refine vi_iload_n 2 rfl rfl ?_
    refine vi_aload_n 3 rfl rfl ?_
    refine vi_get 4 rfl f_X2_52 x0 rfl rfl ?_
    refine vi_icmp_ge 5 rfl (by omega) (by omega) (fun c_7 => ?_) (fun c_7 => ?_)
    · exact vi_return 16 rfl rfl (Nat.zero_le _) (Nat.zero_le _) (hQ w1 ah1 on1 L1 H1 (fun k m p1 p2 p3 p4 => ha1 k m p1 (by omega) p3 p4) (fun k m p1 p2 p3 p4 => ho1 k m p1 (by omega) p3 p4) hco hf1 ef)
    · refine vi_aload_n 6 rfl rfl ?_
      refine vi_aload_n 7 rfl rfl ?_
      refine vi_iload_n 8 rfl rfl ?_
      refine vi_V2 9 ok_X2_chartAhead rfl c_X2_92 x0 rfl rfl ?_
      refine sp_X2_chartAhead hco hf1 hR hff hap (by omega) hrm (fun m p1 p2 => hnd i m hi0 (by omega) p1 p2) (fun w2 ah2 L2 H2 ha2 hb2 hco2 hf2 hfr2 => ?_)
      have hco2' := hco2
      obtain ⟨_, _, x2, -⟩ := hco2'
      refine vi_aload_n 10 rfl rfl ?_
      refine vi_aload_n 11 rfl rfl ?_
      refine vi_iload_n 12 rfl rfl ?_
      refine vi_V2 13 ok_X2_chartOnward rfl c_X2_96 x2 rfl rfl ?_
      refine sp_X2_chartOnward hco2 hf2 hR hap (by omega) hrm (fun m p1 p2 => hnd i m hi0 (by omega) p1 p2) (fun w3 on3 L3 H3 ho3 hb3 hco3 hf3 hfr3 => ?_)
      refine vi_iinc 14 rfl rfl rfl ?_
      refine vi_goto 15 rfl ?_
      refine vi_lc (ih (i + 1) (by omega) (by omega) w3 ah2 on3 L3 H3 (by omega) (fun k m p1 p2 p3 p4 => ?_) (fun k m p1 p2 p3 p4 => ?_) hco3 hf3 (fun k p1 p2 p3 => (hfr3 k p1 p3).trans ((hfr2 k p1 p2).trans (ef k p1 p2 p3)))) ⟨rfl, rfl, rfl, trivial⟩
      · by_cases hki : k = i
        · subst hki; exact ha2 m p3 p4
        · rw [hb2 _ (by omega)]; exact ha1 k m p1 (by omega) p3 p4
      · by_cases hki : k = i
        · subst hki; exact ho3 m p3 p4
        · rw [hb3 _ (by omega)]; exact ho1 k m p1 (by omega) p3 p4
  refine vi_iconst 0 rfl ?_
  refine vi_istore_n 1 rfl rfl ?_
  exact vi_lc (lp 0 (by omega) w ah on L H (by omega) (fun k m p1 p2 => by omega) (fun k m p1 p2 => by omega) hb hfl (fun _ _ _ _ => rfl)) ⟨rfl, rfl, rfl, trivial⟩
end WBS26
