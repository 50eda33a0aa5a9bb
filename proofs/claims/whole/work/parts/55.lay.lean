/-! ===== the reference: rows of what agrees; simple questions ===== -/
def wb_b2 (b : Bool) : Int := if b then 1 else 0
theorem wb_b2_rg (b : Bool) : wb_b2 b = 0 ∨ wb_b2 b = 1 := by unfold wb_b2; split <;> simp
theorem wb_gn0 {c : Int → Int} {sd sf m t r : Int} (h : t ≠ sd) : wb_gn c sd sf m t r = 0 := by unfold wb_gn; rw [if_neg (fun q => h q.1)]
/-- what a thing agrees with hangs on these alone -/
theorem wb_gk_congr {c s : Int → Int} {sd sf mo db tm tt tr t ow th o1 o2 fr mo' db' tm' tt' tr' ow' th' o1' o2' fr' : Int} (k : Nat) (h : ∀ m : Int, 0 ≤ m → m < k → wb_rl c mo db tm tt tr t m = wb_rl c mo' db' tm' tt' tr' t m ∧ wb_rm2 c mo db tm tt tr t m = wb_rm2 c mo' db' tm' tt' tr' t m ∧ wb_nn2 c sd sf t ow th o1 o2 fr m = wb_nn2 c sd sf t ow' th' o1' o2' fr' m) : wb_gk c s sd sf mo db tm tt tr t ow th o1 o2 fr k = wb_gk c s sd sf mo' db' tm' tt' tr' t ow' th' o1' o2' fr' k := (wb_rn_congr k h).2
theorem wb_ag_t {n : Int} {c s : Int → Int} {sd sf mo db tt tr tt' tr' t ow o1 : Int} : wb_ag n c s sd sf mo db (-6) tt tr t ow o1 = wb_ag n c s sd sf mo db (-6) tt' tr' t ow o1 := by
  refine wb_gk_congr _ (fun m m1 m2 => ?_)
  have a := wb_rl_le (c := c) (mo := mo) (db := db) (tm := -6) (tt := tt) (tr := tr) (t := t) (m := m) (by omega)
  have b := wb_rl_le (c := c) (mo := mo) (db := db) (tm := -6) (tt := tt') (tr := tr') (t := t) (m := m) (by omega)
  exact ⟨a.1.trans b.1.symm, a.2.trans b.2.symm, rfl⟩
theorem wb_ag_of {n : Int} {c s : Int → Int} {sd sf mo db tm tt tr t ow o1 o2 : Int} (h : t ≠ sd) : wb_ag n c s sd sf mo db tm tt tr t ow o1 = wb_ag n c s sd sf mo db tm tt tr t ow o2 := by
  refine wb_gk_congr _ (fun m m1 m2 => ⟨rfl, rfl, ?_⟩)
  unfold wb_nn2; rw [if_neg (by omega), if_neg (by omega), wb_gn0 h, wb_gn0 h]
/-- by the mixture -/
theorem wb_gk_x {n : Int} {c s : Int → Int} {sd sf mo db tt tr t x o1 : Int} (hR : wb_BR n c s sd sf) (ho : t = sd → o1 = wb_pr x sf) (k : Nat) : wb_gk c s sd sf mo db (-6) tt tr t (wb_pr x t) (wb_pr x t) o1 o1 0 k = wb_ok (wb_le c t mo db) (wb_mt c t mo db) (s (4 * t + 2)) (s (4 * t + 3)) (fun m => wb_ne c sd sf x m t) (s (4 * t)) (s (4 * t + 1)) k ∧ wb_gr c s sd sf mo db (-6) tt tr t (wb_pr x t) (wb_pr x t) o1 o1 0 k = wb_rn (wb_le c t mo db) (wb_mt c t mo db) (s (4 * t + 2)) (s (4 * t + 3)) (fun m => wb_ne c sd sf x m t) (s (4 * t)) (s (4 * t + 1)) k := by
  have h := wb_rn_congr (le := wb_rl c mo db (-6) tt tr t) (mo := wb_rm2 c mo db (-6) tt tr t) (nd := wb_nn2 c sd sf t (wb_pr x t) (wb_pr x t) o1 o1 0) (le' := wb_le c t mo db) (mo' := wb_mt c t mo db) (nd' := fun m => wb_ne c sd sf x m t) (ho := s (4 * t + 2)) (lo := s (4 * t + 3)) (L0 := s (4 * t)) (H0 := s (4 * t + 1)) k (fun m m1 m2 => by
    have a := wb_rl_le (c := c) (mo := mo) (db := db) (tm := -6) (tt := tt) (tr := tr) (t := t) (m := m) (by omega)
    refine ⟨a.1, a.2, ?_⟩
    unfold wb_nn2 wb_ne
    rw [if_neg (by omega)]
    by_cases e : t = sd
    · rw [ho e]
    · rw [wb_gn0 e, wb_gn0 e])
  exact ⟨h.2, h.1⟩
theorem wb_ag_A {n : Int} {c s : Int → Int} {sd sf mo db tt tr t x o1 : Int} (hR : wb_BR n c s sd sf) (ho : t = sd → o1 = wb_pr x sf) : wb_ag n c s sd sf mo db (-6) tt tr t (wb_pr x t) o1 = wb_A n c s sd sf mo db t x := (wb_gk_x hR ho n.toNat).1
def wb_AG (ag : Int → Int) (n : Int) (c s : Int → Int) (sd sf mo db : Int) : Prop := ∀ t k, 0 ≤ t → t < 3 → 0 ≤ k → k < 625 → ag (625 * t + k) = wb_b2 (wb_ag n c s sd sf mo db (-6) 0 0 t (k / 25) (k % 25))
section WBS55
variable {G : wb_G} {N : Nat} {w : wb_W} {Q : Option Value → Nat → wb_W → Prop}
variable {n sd sf cnt ru ld mo db tm tt tr L H fi ch : Int} {c s sg rs ag : Int → Int}
theorem sp_X12_layThing {t : Int} (hrf : wb_Rf w n sd sf cnt ru ld mo db tm tt tr L H fi ch) (h97 : w 97 = aI 72 c) (h98 : w 98 = aI 12 s) (h101 : w 101 = aZ 1875 ag) (hR : wb_BR n c s sd sf) (hmo : 0 ≤ mo ∧ mo ≤ 99) (hdb : 0 ≤ db ∧ db < 256) (htm : -10 ≤ tm ∧ tm ≤ 10) (htt : -10 ≤ tt ∧ tt ≤ 10) (htr : -9 ≤ tr ∧ tr ≤ 1000) (ht : 0 ≤ t ∧ t < 3)
    (hQ : ∀ (w' : wb_W) (ag' : Int → Int) (L' H' : Int), (∀ k, 0 ≤ k → k < 625 → ag' (625 * t + k) = wb_b2 (wb_ag n c s sd sf mo db tm tt tr t (k / 25) (k % 25))) → (∀ j, (j < 625 * t ∨ 625 * t + 625 ≤ j) → ag' j = ag j) → wb_Rf w' n sd sf cnt ru ld mo db tm tt tr L' H' fi ch → w' 101 = aZ 1875 ag' → (∀ k, k ≠ 96 → k ≠ 101 → w' k = w k) → Q none N w') : wb_M G M_X12_layThing [.ref 96, .int (wb_i t)] N w Q := by
  unfold wb_M
  have hn := hR.1
  have g1 := wb_n6_rg hR.2.2.2.1
  have e1 := wb_n6s (z := sd) ht.1
  have lp : ∀ i, i ≤ 625 → ∀ (w1 : wb_W) (ag1 : Int → Int) (L1 H1 : Int), 0 ≤ i → (∀ k, 0 ≤ k → k < i → ag1 (625 * t + k) = wb_b2 (wb_ag n c s sd sf mo db tm tt tr t (k / 25) (k % 25))) → (∀ j, (j < 625 * t ∨ 625 * t + 625 ≤ j) → ag1 j = ag j) → wb_Rf w1 n sd sf cnt ru ld mo db tm tt tr L1 H1 fi ch → w1 101 = aZ 1875 ag1 → (∀ k, k ≠ 96 → k ≠ 101 → w1 k = w k) → wb_V G M_X12_layThing 2 [(0, .ref 96), (1, .int (wb_i t)), (2, .int (wb_i i))] [] N w1 0 0 Q := by
    refine wb_up 625 _ ?_
    intro i ih hi w1 ag1 L1 H1 hi0 hag hag2 hrf1 h1011 ef
    have hrf1' := hrf1
    unfold wb_Rf at hrf1'
    have h971 := (ef 97 (by omega) (by omega)).trans h97
    have h981 := (ef 98 (by omega) (by omega)).trans h98
    have nx : i < 625 → ∀ (w2 : wb_W) (L2 H2 v : Int), v = wb_b2 (wb_ag n c s sd sf mo db tm tt tr t (i / 25) (i % 25)) → wb_Rf w2 n sd sf cnt ru ld mo db tm tt tr L2 H2 fi ch → (∀ k, k ≠ 96 → w2 k = w1 k) → wb_V G M_X12_layThing 89 [(0, .ref 96), (1, .int (wb_i t)), (2, .int (wb_i i))] [.int (wb_i v), .int (wb_i (625 * t + i)), .ref 101] N w2 0 0 Q := by
      intro hi6 w2 L2 H2 v hv hrf2 hf2
      have h1012 := (hf2 101 (by omega)).trans h1011
      have hv01 : v = 0 ∨ v = 1 := by rw [hv]; exact wb_b2_rg _
      refine vi_zast 55 rfl h1012 (by omega) hv01 ?_
      refine vi_iinc 56 rfl rfl rfl ?_
      refine vi_goto 57 rfl ?_
      refine vi_lc (ih (i + 1) (by omega) (by omega) _ _ L2 H2 (by omega) (fun k k1 k2 => ?_) (fun j hj => by rw [wb_un (by omega)]; exact hag2 j hj) (by unfold wb_Rf; rw [wb_upn (by omega)]; exact hrf2) wb_ups (fun k p1 p2 => by rw [wb_upn p2, hf2 k p1]; exact ef k p1 p2)) ⟨rfl, rfl, rfl, trivial⟩
      by_cases hk : k = i
      · subst hk; rw [wb_us]; exact hv
      · rw [wb_un (by omega)]; exact hag k k1 (by omega)
    refine vi_iload_n 2 rfl rfl ?_
    refine vi_sipush 3 rfl (by decide) ?_
    refine vi_icmp_ge 4 rfl (by omega) (by omega) (fun c_6 => ?_) (fun c_6 => ?_)
    · exact vi_return 58 rfl rfl (Nat.zero_le _) (Nat.zero_le _) (hQ w1 ag1 L1 H1 (fun k k1 k2 => hag k k1 (by omega)) hag2 hrf1 h1011 ef)
    · refine vi_aload_n 5 rfl rfl ?_
      refine vi_get 6 rfl f_X12_32 hrf1' rfl rfl ?_
      refine vi_sipush 7 rfl (by decide) ?_
      refine vi_iload_n 8 rfl rfl ?_
      refine vi_imul 9 rfl ?_
      refine vi_iload_n 10 rfl rfl ?_
      refine vi_iadd 11 rfl ?_
      refine vi_iload_n 12 rfl rfl ?_
      refine vi_aload_n 13 rfl rfl ?_
      refine vi_get 14 rfl f_X12_16 hrf1' rfl rfl ?_
      refine vi_icmp_eq 15 rfl (by omega) (by omega) (fun c_25 => ?_) (fun c_25 => ?_)
      · refine vi_aload_n 20 rfl rfl ?_
        refine vi_iload_n 21 rfl rfl ?_
        refine vi_iload_n 22 rfl rfl ?_
        refine vi_bipush 23 rfl (by decide) ?_
        refine vi_idiv 24 rfl (by omega) (by omega) ?_
        refine vi_iload_n 25 rfl rfl ?_
        refine vi_bipush 26 rfl (by decide) ?_
        refine vi_idiv 27 rfl (by omega) (by omega) ?_
        refine vi_iload_n 28 rfl rfl ?_
        refine vi_bipush 29 rfl (by decide) ?_
        refine vi_irem 30 rfl (by omega) (by omega) ?_
        refine vi_iload_n 31 rfl rfl ?_
        refine vi_bipush 32 rfl (by decide) ?_
        refine vi_irem 33 rfl (by omega) (by omega) ?_
        refine vi_iconst 34 rfl ?_
        refine vi_V6 35 ok_X12_goes rfl c_X12_130 hrf1' rfl rfl ?_
        refine sp_X12_goes hrf1 h971 h981 hR hmo hdb htm htt htr ht (by omega) (by omega) (by omega) (by omega) (by omega) (fun w2 L2 H2 _ hrf2 hf2 => ?_)
        have hrf2' := hrf2
        unfold wb_Rf at hrf2'
        have hfi := wb_fm_ok (le := wb_rl c mo db tm tt tr t) (mo := wb_rm2 c mo db tm tt tr t) (ho := s (4 * t + 2)) (lo := s (4 * t + 3)) (nd := wb_nn2 c sd sf t (i / 25) (i / 25) (i % 25) (i % 25) 0) (L0 := s (4 * t)) (H0 := s (4 * t + 1)) n.toNat
        change wb_fm (wb_gk c s sd sf mo db tm tt tr t (i / 25) (i / 25) (i % 25) (i % 25) 0) n.toNat = (n.toNat : Nat) ↔ wb_ag n c s sd sf mo db tm tt tr t (i / 25) (i % 25) = true at hfi
        have hfr := wb_fm_rg (wb_gk c s sd sf mo db tm tt tr t (i / 25) (i / 25) (i % 25) (i % 25) 0) n.toNat
        refine vi_aload_n 36 rfl rfl ?_
        refine vi_get 37 rfl f_X12_60 hrf2' rfl rfl ?_
        refine vi_icmp_ne 38 rfl (by omega) (by omega) (fun c_61 => ?_) (fun c_61 => ?_)
        · refine vi_iconst 41 rfl ?_
          refine vi_goto 42 rfl ?_
          first | exact vi_lc (nx (by omega) w2 L2 H2 1 (by rw [hfi.mp (by omega)]; rfl) hrf2 hf2) ⟨rfl, rfl, rfl, trivial⟩ | exact vi_lc (nx (by omega) w2 L2 H2 0 (by rw [show wb_ag n c s sd sf mo db tm tt tr t (i / 25) (i % 25) = false by (cases hh : wb_ag n c s sd sf mo db tm tt tr t (i / 25) (i % 25) with | false => rfl | true => (have := hfi.mpr hh; omega))]; rfl) hrf2 hf2) ⟨rfl, rfl, rfl, trivial⟩ | exact vi_lc (nx (by omega) w1 L1 H1 (ag1 (625 * t + i - i % 25)) (by rw [show 625 * t + i - i % 25 = 625 * t + (i - i % 25) by omega, hag _ (by omega) (by omega), show (i - i % 25) / 25 = i / 25 by omega]; rw [wb_ag_of (o2 := i % 25) (fun q => by have := e1.mpr q; omega)]) hrf1 (fun _ _ => rfl)) ⟨rfl, rfl, rfl, trivial⟩
        · refine vi_iconst 39 rfl ?_
          refine vi_goto 40 rfl ?_
          first | exact vi_lc (nx (by omega) w2 L2 H2 1 (by rw [hfi.mp (by omega)]; rfl) hrf2 hf2) ⟨rfl, rfl, rfl, trivial⟩ | exact vi_lc (nx (by omega) w2 L2 H2 0 (by rw [show wb_ag n c s sd sf mo db tm tt tr t (i / 25) (i % 25) = false by (cases hh : wb_ag n c s sd sf mo db tm tt tr t (i / 25) (i % 25) with | false => rfl | true => (have := hfi.mpr hh; omega))]; rfl) hrf2 hf2) ⟨rfl, rfl, rfl, trivial⟩ | exact vi_lc (nx (by omega) w1 L1 H1 (ag1 (625 * t + i - i % 25)) (by rw [show 625 * t + i - i % 25 = 625 * t + (i - i % 25) by omega, hag _ (by omega) (by omega), show (i - i % 25) / 25 = i / 25 by omega]; rw [wb_ag_of (o2 := i % 25) (fun q => by have := e1.mpr q; omega)]) hrf1 (fun _ _ => rfl)) ⟨rfl, rfl, rfl, trivial⟩
      · refine vi_iload_n 16 rfl rfl ?_
        refine vi_bipush 17 rfl (by decide) ?_
        refine vi_irem 18 rfl (by omega) (by omega) ?_
        refine vi_if_ne 19 rfl (by omega) (fun c_32 => ?_) (fun c_32 => ?_)
        · refine vi_aload_n 43 rfl rfl ?_
          refine vi_get 44 rfl f_X12_32 hrf1' rfl rfl ?_
          refine vi_sipush 45 rfl (by decide) ?_
          refine vi_iload_n 46 rfl rfl ?_
          refine vi_imul 47 rfl ?_
          refine vi_iload_n 48 rfl rfl ?_
          refine vi_iadd 49 rfl ?_
          refine vi_iload_n 50 rfl rfl ?_
          refine vi_bipush 51 rfl (by decide) ?_
          refine vi_irem 52 rfl (by omega) (by omega) ?_
          refine vi_isub 53 rfl ?_
          refine vi_zald 54 rfl h1011 (by omega) ?_
          first | exact vi_lc (nx (by omega) w2 L2 H2 1 (by rw [hfi.mp (by omega)]; rfl) hrf2 hf2) ⟨rfl, rfl, rfl, trivial⟩ | exact vi_lc (nx (by omega) w2 L2 H2 0 (by rw [show wb_ag n c s sd sf mo db tm tt tr t (i / 25) (i % 25) = false by (cases hh : wb_ag n c s sd sf mo db tm tt tr t (i / 25) (i % 25) with | false => rfl | true => (have := hfi.mpr hh; omega))]; rfl) hrf2 hf2) ⟨rfl, rfl, rfl, trivial⟩ | exact vi_lc (nx (by omega) w1 L1 H1 (ag1 (625 * t + i - i % 25)) (by rw [show 625 * t + i - i % 25 = 625 * t + (i - i % 25) by omega, hag _ (by omega) (by omega), show (i - i % 25) / 25 = i / 25 by omega]; rw [wb_ag_of (o2 := i % 25) (fun q => by have := e1.mpr q; omega)]) hrf1 (fun _ _ => rfl)) ⟨rfl, rfl, rfl, trivial⟩
        · refine vi_aload_n 20 rfl rfl ?_
          refine vi_iload_n 21 rfl rfl ?_
          refine vi_iload_n 22 rfl rfl ?_
          refine vi_bipush 23 rfl (by decide) ?_
          refine vi_idiv 24 rfl (by omega) (by omega) ?_
          refine vi_iload_n 25 rfl rfl ?_
          refine vi_bipush 26 rfl (by decide) ?_
          refine vi_idiv 27 rfl (by omega) (by omega) ?_
          refine vi_iload_n 28 rfl rfl ?_
          refine vi_bipush 29 rfl (by decide) ?_
          refine vi_irem 30 rfl (by omega) (by omega) ?_
          refine vi_iload_n 31 rfl rfl ?_
          refine vi_bipush 32 rfl (by decide) ?_
          refine vi_irem 33 rfl (by omega) (by omega) ?_
          refine vi_iconst 34 rfl ?_
          refine vi_V6 35 ok_X12_goes rfl c_X12_130 hrf1' rfl rfl ?_
          refine sp_X12_goes hrf1 h971 h981 hR hmo hdb htm htt htr ht (by omega) (by omega) (by omega) (by omega) (by omega) (fun w2 L2 H2 _ hrf2 hf2 => ?_)
          have hrf2' := hrf2
          unfold wb_Rf at hrf2'
          have hfi := wb_fm_ok (le := wb_rl c mo db tm tt tr t) (mo := wb_rm2 c mo db tm tt tr t) (ho := s (4 * t + 2)) (lo := s (4 * t + 3)) (nd := wb_nn2 c sd sf t (i / 25) (i / 25) (i % 25) (i % 25) 0) (L0 := s (4 * t)) (H0 := s (4 * t + 1)) n.toNat
          change wb_fm (wb_gk c s sd sf mo db tm tt tr t (i / 25) (i / 25) (i % 25) (i % 25) 0) n.toNat = (n.toNat : Nat) ↔ wb_ag n c s sd sf mo db tm tt tr t (i / 25) (i % 25) = true at hfi
          have hfr := wb_fm_rg (wb_gk c s sd sf mo db tm tt tr t (i / 25) (i / 25) (i % 25) (i % 25) 0) n.toNat
          refine vi_aload_n 36 rfl rfl ?_
          refine vi_get 37 rfl f_X12_60 hrf2' rfl rfl ?_
          refine vi_icmp_ne 38 rfl (by omega) (by omega) (fun c_61 => ?_) (fun c_61 => ?_)
          · refine vi_iconst 41 rfl ?_
            refine vi_goto 42 rfl ?_
            first | exact vi_lc (nx (by omega) w2 L2 H2 1 (by rw [hfi.mp (by omega)]; rfl) hrf2 hf2) ⟨rfl, rfl, rfl, trivial⟩ | exact vi_lc (nx (by omega) w2 L2 H2 0 (by rw [show wb_ag n c s sd sf mo db tm tt tr t (i / 25) (i % 25) = false by (cases hh : wb_ag n c s sd sf mo db tm tt tr t (i / 25) (i % 25) with | false => rfl | true => (have := hfi.mpr hh; omega))]; rfl) hrf2 hf2) ⟨rfl, rfl, rfl, trivial⟩ | exact vi_lc (nx (by omega) w1 L1 H1 (ag1 (625 * t + i - i % 25)) (by rw [show 625 * t + i - i % 25 = 625 * t + (i - i % 25) by omega, hag _ (by omega) (by omega), show (i - i % 25) / 25 = i / 25 by omega]; rw [wb_ag_of (o2 := i % 25) (fun q => by have := e1.mpr q; omega)]) hrf1 (fun _ _ => rfl)) ⟨rfl, rfl, rfl, trivial⟩
          · refine vi_iconst 39 rfl ?_
            refine vi_goto 40 rfl ?_
            first | exact vi_lc (nx (by omega) w2 L2 H2 1 (by rw [hfi.mp (by omega)]; rfl) hrf2 hf2) ⟨rfl, rfl, rfl, trivial⟩ | exact vi_lc (nx (by omega) w2 L2 H2 0 (by rw [show wb_ag n c s sd sf mo db tm tt tr t (i / 25) (i % 25) = false by (cases hh : wb_ag n c s sd sf mo db tm tt tr t (i / 25) (i % 25) with | false => rfl | true => (have := hfi.mpr hh; omega))]; rfl) hrf2 hf2) ⟨rfl, rfl, rfl, trivial⟩ | exact vi_lc (nx (by omega) w1 L1 H1 (ag1 (625 * t + i - i % 25)) (by rw [show 625 * t + i - i % 25 = 625 * t + (i - i % 25) by omega, hag _ (by omega) (by omega), show (i - i % 25) / 25 = i / 25 by omega]; rw [wb_ag_of (o2 := i % 25) (fun q => by have := e1.mpr q; omega)]) hrf1 (fun _ _ => rfl)) ⟨rfl, rfl, rfl, trivial⟩
  refine vi_iconst 0 rfl ?_
  refine vi_istore_n 1 rfl rfl ?_
  exact vi_lc (lp 0 (by omega) w ag L H (by omega) (fun k k1 k2 => by omega) (fun _ _ => rfl) hrf h101 (fun _ _ _ => rfl)) ⟨rfl, rfl, rfl, trivial⟩
theorem sp_X12_layThings (hrf : wb_Rf w n sd sf cnt ru ld mo db ((-6)) tt tr L H fi ch) (h97 : w 97 = aI 72 c) (h98 : w 98 = aI 12 s) (h101 : w 101 = aZ 1875 ag) (hR : wb_BR n c s sd sf) (hmo : 0 ≤ mo ∧ mo ≤ 99) (hdb : 0 ≤ db ∧ db < 256) (htt : -10 ≤ tt ∧ tt ≤ 10) (htr : -9 ≤ tr ∧ tr ≤ 1000)
    (hQ : ∀ (w' : wb_W) (ag' : Int → Int) (L' H' : Int), wb_AG ag' n c s sd sf mo db → wb_Rf w' n sd sf cnt ru ld mo db ((-6)) tt tr L' H' fi ch → w' 101 = aZ 1875 ag' → (∀ k, k ≠ 96 → k ≠ 101 → w' k = w k) → Q none N w') : wb_M G M_X12_layThings [.ref 96] N w Q := by
  unfold wb_M
  have lp : ∀ i, i ≤ 3 → ∀ (w1 : wb_W) (ag1 : Int → Int) (L1 H1 : Int), 0 ≤ i → (∀ t k, 0 ≤ t → t < i → 0 ≤ k → k < 625 → ag1 (625 * t + k) = wb_b2 (wb_ag n c s sd sf mo db (-6) 0 0 t (k / 25) (k % 25))) → wb_Rf w1 n sd sf cnt ru ld mo db ((-6)) tt tr L1 H1 fi ch → w1 101 = aZ 1875 ag1 → (∀ k, k ≠ 96 → k ≠ 101 → w1 k = w k) → wb_V G M_X12_layThings 2 [(0, .ref 96), (1, .int (wb_i i))] [] N w1 0 0 Q := by
    refine wb_up 3 _ ?_
    intro i ih hi w1 ag1 L1 H1 hi0 hag hrf1 h1011 ef
    have hrf1' := hrf1
    unfold wb_Rf at hrf1'
    refine vi_iload_n 2 rfl rfl ?_
    refine vi_iconst 3 rfl ?_
    refine vi_icmp_ge 4 rfl (by omega) (by omega) (fun c_4 => ?_) (fun c_4 => ?_)
    · exact vi_return 10 rfl rfl (Nat.zero_le _) (Nat.zero_le _) (hQ w1 ag1 L1 H1 (fun t k t1 t2 k1 k2 => hag t k t1 (by omega) k1 k2) hrf1 h1011 ef)
    · refine vi_aload_n 5 rfl rfl ?_
      refine vi_iload_n 6 rfl rfl ?_
      refine vi_V1 7 ok_X12_layThing rfl c_X12_134 hrf1' rfl rfl ?_
      refine sp_X12_layThing hrf1 ((ef 97 (by omega) (by omega)).trans h97) ((ef 98 (by omega) (by omega)).trans h98) h1011 hR hmo hdb (by omega) htt htr (by omega) (fun w2 ag2 L2 H2 ha2 hb2 hrf2 h1012 hf2 => ?_)
      refine vi_iinc 8 rfl rfl rfl ?_
      refine vi_goto 9 rfl ?_
      refine vi_lc (ih (i + 1) (by omega) (by omega) w2 ag2 L2 H2 (by omega) (fun t k t1 t2 k1 k2 => ?_) hrf2 h1012 (fun k p1 p2 => (hf2 k p1 p2).trans (ef k p1 p2))) ⟨rfl, rfl, trivial⟩
      by_cases e : t = i
      · subst e; rw [ha2 k k1 k2, wb_ag_t]
      · rw [hb2 _ (by omega)]; exact hag t k t1 (by omega) k1 k2
  refine vi_iconst 0 rfl ?_
  refine vi_istore_n 1 rfl rfl ?_
  exact vi_lc (lp 0 (by omega) w ag L H (by omega) (fun t k t1 t2 => by omega) hrf h101 (fun _ _ _ => rfl)) ⟨rfl, rfl, trivial⟩
theorem sp_X12_agreesWith {x t : Int} (hrf : wb_Rf w n sd sf cnt ru ld mo db tm tt tr L H fi ch) (h101 : w 101 = aZ 1875 ag) (hag : wb_AG ag n c s sd sf mo db) (hR : wb_BR n c s sd sf) (hx : 0 ≤ x ∧ x < 15625) (ht : 0 ≤ t ∧ t < 3) (k1 : wb_A n c s sd sf mo db t x = true → Q (some (.int (wb_i 1))) N w) (k0 : wb_A n c s sd sf mo db t x = false → Q (some (.int (wb_i 0))) N w) : wb_M G M_X12_agreesWith [.ref 96, .int (wb_i x), .int (wb_i t)] N w Q := by
  unfold wb_M
  unfold wb_Rf at hrf
  have g1 := wb_n6_rg hR.2.2.2.1
  have e1 := wb_n6s (z := sd) ht.1
  have p1 := wb_pr_rg (x := x) (t := t) hx.1
  have p2 := wb_pr_rg (x := x) (t := sf) hx.1
  have r9 := hR.2.2.2.2.2.2.2.2
  have r5 := hR.2.2.2.2.1
  have e2 : 0 ≤ sf → wb_n6 sf = sf := fun q => if_neg (by omega)
  have key : ∀ o1 : Int, 0 ≤ o1 → o1 < 25 → (t = sd → o1 = wb_pr x sf) → ag (625 * t + 25 * wb_pr x t + o1) = wb_b2 (wb_A n c s sd sf mo db t x) := fun o1 q1 q2 q3 => by
    rw [show 625 * t + 25 * wb_pr x t + o1 = 625 * t + (25 * wb_pr x t + o1) by omega, hag t _ ht.1 ht.2 (by omega) (by omega), show (25 * wb_pr x t + o1) / 25 = wb_pr x t by omega, show (25 * wb_pr x t + o1) % 25 = o1 by omega, wb_ag_A hR q3]
  have fin : ∀ v : Int, v = wb_b2 (wb_A n c s sd sf mo db t x) → wb_V G M_X12_agreesWith 40 [] [.int (wb_i v)] N w 0 0 Q := fun v hv => by
    cases hA : wb_A n c s sd sf mo db t x with
    | true =>
      rw [hA] at hv
      rw [show v = 1 from hv]
      exact vi_ireturn 23 rfl rfl rfl (Nat.zero_le _) (Nat.zero_le _) (k1 hA)
    | false =>
      rw [hA] at hv
      rw [show v = 0 from hv]
      exact vi_ireturn 23 rfl rfl rfl (Nat.zero_le _) (Nat.zero_le _) (k0 hA)
  refine vi_aload_n 0 rfl rfl ?_
  refine vi_get 1 rfl f_X12_32 hrf rfl rfl ?_
  refine vi_sipush 2 rfl (by decide) ?_
  refine vi_iload_n 3 rfl rfl ?_
  refine vi_imul 4 rfl ?_
  refine vi_bipush 5 rfl (by decide) ?_
  refine vi_iload_n 6 rfl rfl ?_
  refine vi_iload_n 7 rfl rfl ?_
  refine vi_S2 8 ok_X12_amount rfl c_X12_127 rfl ?_
  refine sp_X12_amount hx (by omega) ?_
  refine vi_imul 9 rfl ?_
  refine vi_iadd 10 rfl ?_
  refine vi_iload_n 11 rfl rfl ?_
  refine vi_aload_n 12 rfl rfl ?_
  refine vi_get 13 rfl f_X12_16 hrf rfl rfl ?_
  refine vi_icmp_ne 14 rfl (by omega) (by omega) (fun c_23 => ?_) (fun c_23 => ?_)
  · refine vi_iconst 20 rfl ?_
    refine vi_iadd 21 rfl ?_
    refine vi_zald 22 rfl h101 (by omega) ?_
    first | exact vi_lc (fin _ (key _ (by omega) (by omega) (fun q => rfl))) trivial | exact vi_lc (fin _ (key 0 (by omega) (by omega) (fun q => by have := e1.mpr q; omega))) trivial
  · refine vi_iload_n 15 rfl rfl ?_
    refine vi_aload_n 16 rfl rfl ?_
    refine vi_get 17 rfl f_X12_20 hrf rfl rfl ?_
    rw [e2 (by have := r9 (by omega); omega)]
    refine vi_S2 18 ok_X12_amount rfl c_X12_127 rfl ?_
    refine sp_X12_amount hx (by have := r9 (by omega); omega) ?_
    refine vi_goto 19 rfl ?_
    refine vi_iadd 21 rfl ?_
    refine vi_zald 22 rfl h101 (by omega) ?_
    first | exact vi_lc (fin _ (key _ (by omega) (by omega) (fun q => rfl))) trivial | exact vi_lc (fin _ (key 0 (by omega) (by omega) (fun q => by have := e1.mpr q; omega))) trivial
theorem sp_X12_agreesWithAll {x : Int} (hrf : wb_Rf w n sd sf cnt ru ld mo db tm tt tr L H fi ch) (h101 : w 101 = aZ 1875 ag) (hag : wb_AG ag n c s sd sf mo db) (hR : wb_BR n c s sd sf) (hx : 0 ≤ x ∧ x < 15625) (k1 : wb_AA n c s sd sf mo db x = true → Q (some (.int (wb_i 1))) N w) (k0 : wb_AA n c s sd sf mo db x = false → Q (some (.int (wb_i 0))) N w) : wb_M G M_X12_agreesWithAll [.ref 96, .int (wb_i x)] N w Q := by
  unfold wb_M
  have hrf' := hrf
  unfold wb_Rf at hrf'
  have e : wb_AA n c s sd sf mo db x = (wb_A n c s sd sf mo db 0 x && wb_A n c s sd sf mo db 1 x && wb_A n c s sd sf mo db 2 x) := by
    unfold wb_AA; simp [wb_al]
  refine vi_aload_n 0 rfl rfl ?_
  refine vi_iload_n 1 rfl rfl ?_
  refine vi_iconst 2 rfl ?_
  refine vi_V2 3 ok_X12_agreesWith rfl c_X12_138 hrf' rfl rfl ?_
  refine sp_X12_agreesWith hrf h101 hag hR hx (by omega) (fun b_3 => ?_) (fun b_3 => ?_)
  · refine vi_if_eq 4 rfl (by omega) (fun c => absurd c (by decide)) (fun _ => ?_)
    refine vi_aload_n 5 rfl rfl ?_
    refine vi_iload_n 6 rfl rfl ?_
    refine vi_iconst 7 rfl ?_
    refine vi_V2 8 ok_X12_agreesWith rfl c_X12_138 hrf' rfl rfl ?_
    refine sp_X12_agreesWith hrf h101 hag hR hx (by omega) (fun b_12 => ?_) (fun b_12 => ?_)
    · refine vi_if_eq 9 rfl (by omega) (fun c => absurd c (by decide)) (fun _ => ?_)
      refine vi_aload_n 10 rfl rfl ?_
      refine vi_iload_n 11 rfl rfl ?_
      refine vi_iconst 12 rfl ?_
      refine vi_V2 13 ok_X12_agreesWith rfl c_X12_138 hrf' rfl rfl ?_
      refine sp_X12_agreesWith hrf h101 hag hR hx (by omega) (fun b_21 => ?_) (fun b_21 => ?_)
      · refine vi_if_eq 14 rfl (by omega) (fun c => absurd c (by decide)) (fun _ => ?_)
        refine vi_iconst 15 rfl ?_
        refine vi_goto 16 rfl ?_
        exact vi_ireturn 18 rfl rfl rfl (Nat.zero_le _) (Nat.zero_le _) (k1 (by rw [e, b_3, b_12, b_21]; rfl))
      · refine vi_if_eq 14 rfl (by omega) (fun _ => ?_) (fun c => absurd c (by decide))
        refine vi_iconst 17 rfl ?_
        exact vi_ireturn 18 rfl rfl rfl (Nat.zero_le _) (Nat.zero_le _) (k0 (by rw [e]; first | (rw [b_3]; rfl) | (rw [b_12, Bool.and_false]; rfl) | (rw [b_21, Bool.and_false])))
    · refine vi_if_eq 9 rfl (by omega) (fun _ => ?_) (fun c => absurd c (by decide))
      refine vi_iconst 17 rfl ?_
      exact vi_ireturn 18 rfl rfl rfl (Nat.zero_le _) (Nat.zero_le _) (k0 (by rw [e]; first | (rw [b_3]; rfl) | (rw [b_12, Bool.and_false]; rfl) | (rw [b_21, Bool.and_false])))
  · refine vi_if_eq 4 rfl (by omega) (fun _ => ?_) (fun c => absurd c (by decide))
    refine vi_iconst 17 rfl ?_
    exact vi_ireturn 18 rfl rfl rfl (Nat.zero_le _) (Nat.zero_le _) (k0 (by rw [e]; first | (rw [b_3]; rfl) | (rw [b_12, Bool.and_false]; rfl) | (rw [b_21, Bool.and_false])))
theorem sp_X12_goesBy {x t : Int} (hrf : wb_Rf w n sd sf cnt ru ld 0 0 ((-6)) tt tr L H fi ch) (h97 : w 97 = aI 72 c) (h98 : w 98 = aI 12 s) (hR : wb_BR n c s sd sf) (htt : -10 ≤ tt ∧ tt ≤ 10) (htr : -9 ≤ tr ∧ tr ≤ 1000) (hx : 0 ≤ x ∧ x < 15625) (ht : 0 ≤ t ∧ t < 3)
    (hQ : ∀ (w' : wb_W) (L' H' : Int), (wb_pk c s sd sf x t n.toNat = true → (L', H') = wb_rx c s sd sf x t n.toNat) → wb_Rf w' n sd sf cnt ru ld 0 0 ((-6)) tt tr L' H' fi ch → (∀ k, k ≠ 96 → w' k = w k) → Q (some (.int (wb_i (wb_fm (wb_pk c s sd sf x t) n.toNat)))) N w') : wb_M G M_X12_goesBy [.ref 96, .int (wb_i x), .int (wb_i t)] N w Q := by
  unfold wb_M
  have hrf' := hrf
  unfold wb_Rf at hrf'
  have g1 := wb_n6_rg hR.2.2.2.2.1
  have p1 := wb_pr_rg (x := x) (t := t) hx.1
  have p2 := wb_pr_rg (x := x) (t := sf) hx.1
  have r9 := hR.2.2.2.2.2.2.2.2
  have r5 := hR.2.2.2.2.1
  have e2 : wb_n6 sf = if sf < 0 then -6 else sf := rfl
  have tl : ∀ o1 : Int, (0 ≤ o1 ∧ o1 < 25) → (t = sd → o1 = wb_pr x sf) → wb_V G M_X12_goesBy 27 [(0, .ref 96), (2, .int (wb_i t)), (3, .int (wb_i (wb_pr x t))), (4, .int (wb_i o1))] [] N w 0 0 Q := by
    intro o1 ho ho2
    have ef : wb_gk c s sd sf 0 0 (-6) tt tr t (wb_pr x t) (wb_pr x t) o1 o1 0 = wb_pk c s sd sf x t := funext (fun k => (wb_gk_x hR ho2 k).1)
    have eg : wb_gr c s sd sf 0 0 (-6) tt tr t (wb_pr x t) (wb_pr x t) o1 o1 0 n.toNat = wb_rx c s sd sf x t n.toNat := (wb_gk_x hR ho2 _).2
    refine vi_aload_n 14 rfl rfl ?_
    refine vi_iload_n 15 rfl rfl ?_
    refine vi_iload_n 16 rfl rfl ?_
    refine vi_iload_n 17 rfl rfl ?_
    refine vi_iload 18 rfl rfl ?_
    refine vi_iload 19 rfl rfl ?_
    refine vi_iconst 20 rfl ?_
    refine vi_V6 21 ok_X12_goes rfl c_X12_130 hrf' rfl rfl ?_
    refine sp_X12_goes hrf h97 h98 hR (by omega) (by omega) (by omega) htt htr ht (by omega) (by omega) ho ho (by omega) (fun w2 L2 H2 h2 hrf2 hf2 => ?_)
    rw [ef, eg] at h2
    rw [ef]
    exact vi_ireturn 22 rfl rfl rfl (Nat.zero_le _) (Nat.zero_le _) (hQ w2 L2 H2 h2 hrf2 hf2)
  by_cases hd : sf < 0
  · rw [if_pos hd] at e2
    refine vi_iload_n 0 rfl rfl ?_
    refine vi_iload_n 1 rfl rfl ?_
    refine vi_S2 2 ok_X12_amount rfl c_X12_127 rfl ?_
    refine sp_X12_amount hx (by omega) ?_
    refine vi_istore_n 3 rfl rfl ?_
    refine vi_aload_n 4 rfl rfl ?_
    refine vi_get 5 rfl f_X12_20 hrf' rfl rfl ?_
    refine vi_if_ge 6 rfl (by omega) (fun c_10 => by exfalso; omega) (fun c_10 => ?_)
    refine vi_iconst 7 rfl ?_
    refine vi_goto 8 rfl ?_
    refine vi_istore 13 rfl rfl ?_
    exact vi_lc (tl 0 (by omega) (fun q => by have := r9 (by omega); omega)) ⟨rfl, rfl, rfl, rfl, trivial⟩
  · rw [if_neg hd] at e2
    refine vi_iload_n 0 rfl rfl ?_
    refine vi_iload_n 1 rfl rfl ?_
    refine vi_S2 2 ok_X12_amount rfl c_X12_127 rfl ?_
    refine sp_X12_amount hx (by omega) ?_
    refine vi_istore_n 3 rfl rfl ?_
    refine vi_aload_n 4 rfl rfl ?_
    refine vi_get 5 rfl f_X12_20 hrf' rfl rfl ?_
    refine vi_if_ge 6 rfl (by omega) (fun c_10 => ?_) (fun c_10 => by exfalso; omega)
    refine vi_iload_n 9 rfl rfl ?_
    refine vi_aload_n 10 rfl rfl ?_
    refine vi_get 11 rfl f_X12_20 hrf' rfl rfl ?_
    rw [e2]
    refine vi_S2 12 ok_X12_amount rfl c_X12_127 rfl ?_
    refine sp_X12_amount hx (by omega) ?_
    refine vi_istore 13 rfl rfl ?_
    exact vi_lc (tl (wb_pr x sf) (by omega) (fun q => rfl)) ⟨rfl, rfl, rfl, rfl, trivial⟩
end WBS55
