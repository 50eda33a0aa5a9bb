/-! ===== the reference: changed ===== -/
/-- where the memo of a thing and a change lies -/
def wb_ix (sd sf u x y t : Int) : Int := 15625 * u + (if u = t then 625 * wb_pr x u + 25 * wb_pr y u + (if u = sd then wb_pr x sf else 0) else if u = sd ∧ sf = t then 625 * wb_pr x u + 25 * wb_pr x sf + wb_pr y sf else 25 * wb_pr x u + (if u = sd then wb_pr x sf else 0))
def wb_mI (n : Int) (c s : Int → Int) (sd sf t m : Int) (me : Int → Int) : Prop := ∀ u x r, (0 ≤ u ∧ u < 3) → (0 ≤ x ∧ x < 15625) → (0 ≤ r ∧ r < 25) → me (wb_ix sd sf u x (wb_wp x t r) t) = 0 ∨ me (wb_ix sd sf u x (wb_wp x t r) t) = if wb_ac n c s sd sf u x (wb_wp x t r) m then 1 else 2
def wb_cP (n : Int) (c s : Int → Int) (sd sf : Int) (K : Int → Bool) (t m x r : Int) : Prop := K x = true ∧ r ≠ wb_pr x t ∧ K (wb_wp x t r) = true ∧ ∀ u, 0 ≤ u → u < 3 → wb_ac n c s sd sf u x (wb_wp x t r) m = true
theorem wb_wp_hl {x t k hi lo : Int} (hx : 0 ≤ x ∧ x < 15625) (ht : 0 ≤ t ∧ t < 3) (hhi : hi = 125 * wb_sp t) (hlo : lo = wb_sp t) : x - hi * wb_dg x t - lo * wb_dg x (3 + t) + hi * (k / 5) + lo * (k % 5) = wb_wp x t k := by
  obtain ⟨a, b⟩ := wb_pr_dg hx ht
  unfold wb_wp
  rw [a, b, hhi, hlo]
  generalize wb_dg x t = A
  generalize wb_dg x (3 + t) = B
  clear a b
  rcases (show t = 0 ∨ t = 1 ∨ t = 2 by omega) with rfl | rfl | rfl
  · rw [show wb_sp 0 = 25 from rfl]; omega
  · rw [show wb_sp 1 = 5 from rfl]; omega
  · rw [show wb_sp 2 = 1 from rfl]; omega
section WBS64p
variable {n : Int} {c s : Int → Int} {sd sf t m : Int}
theorem wb_ix_rg {u x r : Int} (hR : wb_BR n c s sd sf) (hu : 0 ≤ u ∧ u < 3) (hx : 0 ≤ x ∧ x < 15625) (ht : 0 ≤ t ∧ t < 3) (hr : 0 ≤ r ∧ r < 25) : 15625 * u ≤ wb_ix sd sf u x (wb_wp x t r) t ∧ wb_ix sd sf u x (wb_wp x t r) t < 15625 * u + 15625 := by
  have hw := (wb_wp_rg hx ht hr).1
  have a := wb_pr_rg (x := x) (t := u) hx.1
  have b := wb_pr_rg (x := wb_wp x t r) (t := u) hw.1
  have d := wb_pr_rg (x := x) (t := sf) hx.1
  have e := wb_pr_rg (x := wb_wp x t r) (t := sf) hw.1
  unfold wb_ix
  generalize wb_pr x u = A at a ⊢
  generalize wb_pr (wb_wp x t r) u = B at b ⊢
  generalize wb_pr x sf = D at d ⊢
  generalize wb_pr (wb_wp x t r) sf = E at e ⊢
  split
  · split <;> omega
  · split
    · omega
    · split <;> omega
theorem wb_ix_inj {u u' x x' r r' : Int} (hR : wb_BR n c s sd sf) (hu : 0 ≤ u ∧ u < 3) (hu' : 0 ≤ u' ∧ u' < 3) (hx : 0 ≤ x ∧ x < 15625) (hx' : 0 ≤ x' ∧ x' < 15625) (ht : 0 ≤ t ∧ t < 3) (hr : 0 ≤ r ∧ r < 25) (hr' : 0 ≤ r' ∧ r' < 25) (h : wb_ix sd sf u x (wb_wp x t r) t = wb_ix sd sf u' x' (wb_wp x' t r') t) : wb_ac n c s sd sf u x (wb_wp x t r) m = wb_ac n c s sd sf u' x' (wb_wp x' t r') m := by
  have g1 := wb_ix_rg hR hu hx ht hr
  have g2 := wb_ix_rg hR hu' hx' ht hr'
  obtain rfl : u = u' := by omega
  clear g1 g2
  have hw := wb_wp_rg hx ht hr
  have hw' := wb_wp_rg hx' ht hr'
  have r9 := hR.2.2.2.2.2.2.2.2
  have r5 := hR.2.2.2.2.1
  have a := wb_pr_rg (x := x) (t := u) hx.1
  have a' := wb_pr_rg (x := x') (t := u) hx'.1
  have d := wb_pr_rg (x := x) (t := sf) hx.1
  have d' := wb_pr_rg (x := x') (t := sf) hx'.1
  unfold wb_ix at h
  unfold wb_ac
  rw [hw.2 u hu.1 hu.2, hw'.2 u hu.1 hu.2] at h ⊢
  by_cases hus : u = sd
  · have hsf := r9 (by omega)
    rw [hw.2 sf hsf.1 (by omega), hw'.2 sf hsf.1 (by omega)] at h ⊢
    rw [if_pos hus, if_pos hus, if_pos hus, if_pos hus]
    by_cases hut : u = t
    · rw [if_pos hut, if_pos hut, if_pos hut, if_pos hut, if_pos hus, if_pos hus] at h
      rw [if_pos hut, if_pos hut, if_neg (by omega), if_neg (by omega), show wb_pr x u = wb_pr x' u by omega, show r = r' by omega, show wb_pr x sf = wb_pr x' sf by omega]
    · by_cases hst : sf = t
      · rw [if_neg hut, if_neg hut, if_pos (show u = sd ∧ sf = t from ⟨hus, hst⟩), if_pos (show u = sd ∧ sf = t from ⟨hus, hst⟩), if_pos hst, if_pos hst] at h
        rw [if_neg hut, if_neg hut, if_pos hst, if_pos hst, show wb_pr x u = wb_pr x' u by omega, show r = r' by omega, show wb_pr x sf = wb_pr x' sf by omega]
      · rw [if_neg hut, if_neg hut, if_neg (show ¬ (u = sd ∧ sf = t) from fun q => hst q.2), if_neg (show ¬ (u = sd ∧ sf = t) from fun q => hst q.2), if_pos hus, if_pos hus] at h
        rw [if_neg hut, if_neg hut, if_neg hst, if_neg hst, show wb_pr x u = wb_pr x' u by omega, show wb_pr x sf = wb_pr x' sf by omega]
  · rw [if_neg hus, if_neg hus, if_neg hus, if_neg hus]
    by_cases hut : u = t
    · rw [if_pos hut, if_pos hut, if_pos hut, if_pos hut, if_neg hus, if_neg hus] at h
      rw [if_pos hut, if_pos hut, show wb_pr x u = wb_pr x' u by omega, show r = r' by omega]
    · rw [if_neg hut, if_neg hut, if_neg (show ¬ (u = sd ∧ sf = t) from fun q => hus q.1), if_neg (show ¬ (u = sd ∧ sf = t) from fun q => hus q.1), if_neg hus, if_neg hus] at h
      rw [if_neg hut, if_neg hut, show wb_pr x u = wb_pr x' u by omega]
theorem wb_mI_u {me : Int → Int} {u x r v : Int} (hR : wb_BR n c s sd sf) (hu : 0 ≤ u ∧ u < 3) (hx : 0 ≤ x ∧ x < 15625) (ht : 0 ≤ t ∧ t < 3) (hr : 0 ≤ r ∧ r < 25) (h : wb_mI n c s sd sf t m me) (hv : v = if wb_ac n c s sd sf u x (wb_wp x t r) m then 1 else 2) : wb_mI n c s sd sf t m (wb_u me (wb_ix sd sf u x (wb_wp x t r) t) v) := by
  intro u' x' r' hu' hx' hr'
  by_cases e : wb_ix sd sf u' x' (wb_wp x' t r') t = wb_ix sd sf u x (wb_wp x t r) t
  · right
    rw [e, wb_us, hv, wb_ix_inj (m := m) hR hu' hu hx' hx ht hr' hr e]
  · rw [wb_un e]; exact h u' x' r' hu' hx' hr'
end WBS64p
section WBS64
variable {G : wb_G} {N : Nat} {w : wb_W} {Q : Option Value → Nat → wb_W → Prop}
variable {n sd sf cnt ru ld mo db tm tt tr L H fi ch : Int} {c s sg rs im ik ag kp me : Int → Int} {K : Int → Bool}
theorem sp_X12_agreesChanged {u x r t m : Int} (hrf : wb_Rf w n sd sf cnt ru ld 0 0 ((-6)) tt tr L H fi ch) (h97 : w 97 = aI 72 c) (h98 : w 98 = aI 12 s) (h104 : w 104 = aB 46875 me) (hmI : wb_mI n c s sd sf t m me) (hR : wb_BR n c s sd sf) (htt : -10 ≤ tt ∧ tt ≤ 10) (htr : -9 ≤ tr ∧ tr ≤ 1000) (hu : 0 ≤ u ∧ u < 3) (hx : 0 ≤ x ∧ x < 15625) (hr : 0 ≤ r ∧ r < 25) (ht : 0 ≤ t ∧ t < 3) (hm : 0 ≤ m ∧ m ≤ 8)
    (k1 : ∀ (w' : wb_W) (L' H' : Int) (me' : Int → Int), wb_ac n c s sd sf u x (wb_wp x t r) m = true → wb_Rf w' n sd sf cnt ru ld 0 0 ((-6)) tt tr L' H' fi ch → w' 104 = aB 46875 me' → wb_mI n c s sd sf t m me' → (∀ k, k ≠ 96 → k ≠ 104 → w' k = w k) → Q (some (.int (wb_i 1))) N w')
    (k0 : ∀ (w' : wb_W) (L' H' : Int) (me' : Int → Int), wb_ac n c s sd sf u x (wb_wp x t r) m = false → wb_Rf w' n sd sf cnt ru ld 0 0 ((-6)) tt tr L' H' fi ch → w' 104 = aB 46875 me' → wb_mI n c s sd sf t m me' → (∀ k, k ≠ 96 → k ≠ 104 → w' k = w k) → Q (some (.int (wb_i 0))) N w') : wb_M G M_X12_agreesChanged [.ref 96, .int (wb_i u), .int (wb_i x), .int (wb_i (wb_wp x t r)), .int (wb_i t), .int (wb_i m)] N w Q := by
  unfold wb_M
  have hrf' := hrf
  unfold wb_Rf at hrf'
  have hn := hR.1
  have g1 := wb_n6_rg hR.2.2.2.1
  have g2 := wb_n6_rg hR.2.2.2.2.1
  have e1 := wb_n6s (z := sd) hu.1
  have r9 := hR.2.2.2.2.2.2.2.2
  have r5 := hR.2.2.2.2.1
  have hw := (wb_wp_rg hx ht hr).1
  have pa := wb_pr_rg (x := x) (t := u) hx.1
  have pb := wb_pr_rg (x := wb_wp x t r) (t := u) hw.1
  have pd := wb_pr_rg (x := x) (t := sf) hx.1
  have pe := wb_pr_rg (x := wb_wp x t r) (t := sf) hw.1
  have hix := wb_ix_rg hR hu hx ht hr
  have tl : ∀ a b c1 d1 ke : Int, a = wb_pr x u → b = wb_pr (wb_wp x t r) u → c1 = (if u = sd then wb_pr x sf else 0) → d1 = (if u = sd then wb_pr (wb_wp x t r) sf else 0) → 15625 * u + ke = wb_ix sd sf u x (wb_wp x t r) t → wb_V G M_X12_agreesChanged 133 [(0, .ref 96), (1, .int (wb_i u)), (5, .int (wb_i m)), (6, .int (wb_i a)), (7, .int (wb_i b)), (9, .int (wb_i c1)), (10, .int (wb_i d1)), (11, .int (wb_i ke))] [] N w 0 0 Q := by
    intro a b c1 d1 ke ha hb hc1 hd1 hke
    have hc1r : 0 ≤ c1 ∧ c1 < 25 := by rw [hc1]; split <;> omega
    have hd1r : 0 ≤ d1 ∧ d1 < 25 := by rw [hd1]; split <;> omega
    have eac : wb_gk c s sd sf 0 0 (-6) tt tr u a b c1 d1 m n.toNat = wb_ac n c s sd sf u x (wb_wp x t r) m := by
      rw [wb_gk_tt (tt' := 0) (tr' := 0), ha, hb, hc1, hd1]; rfl
    have hfi := wb_fm_ok (le := wb_rl c 0 0 (-6) tt tr u) (mo := wb_rm2 c 0 0 (-6) tt tr u) (ho := s (4 * u + 2)) (lo := s (4 * u + 3)) (nd := wb_nn2 c sd sf u a b c1 d1 m) (L0 := s (4 * u)) (H0 := s (4 * u + 1)) n.toNat
    change wb_fm (wb_gk c s sd sf 0 0 (-6) tt tr u a b c1 d1 m) n.toNat = (n.toNat : Nat) ↔ wb_gk c s sd sf 0 0 (-6) tt tr u a b c1 d1 m n.toNat = true at hfi
    rw [eac] at hfi
    have hfr := wb_fm_rg (wb_gk c s sd sf 0 0 (-6) tt tr u a b c1 d1 m) n.toNat
    have hme := hmI u x r hu hx hr
    have hup := fun v => wb_mI_u (v := v) hR hu hx ht hr hmI
    rw [← hke] at hme hup hix
    have fin : ∀ (w2 : wb_W) (L2 H2 : Int) (me2 : Int → Int), wb_Rf w2 n sd sf cnt ru ld 0 0 ((-6)) tt tr L2 H2 fi ch → w2 104 = aB 46875 me2 → wb_mI n c s sd sf t m me2 → (∀ k, k ≠ 96 → k ≠ 104 → w2 k = w k) → me2 (15625 * u + ke) = (if wb_ac n c s sd sf u x (wb_wp x t r) m then 1 else 2) → wb_V G M_X12_agreesChanged 187 [(0, .ref 96), (12, .int (wb_i (15625 * u + ke)))] [] N w2 0 0 Q := by
      intro w2 L2 H2 me2 hrf2 h1042 hmI2 hf2 hv
      have hrf2' := hrf2
      unfold wb_Rf at hrf2'
      cases hac : wb_ac n c s sd sf u x (wb_wp x t r) m with
      | true =>
        rw [hac, if_pos rfl] at hv
        refine vi_aload_n 98 rfl rfl ?_
        refine vi_get 99 rfl f_X12_43 hrf2' rfl rfl ?_
        refine vi_iload 100 rfl rfl ?_
        refine vi_bald 101 rfl h1042 (by omega) ?_
        refine vi_iconst 102 rfl ?_
        refine vi_icmp_ne 103 rfl (by omega) (by omega) (fun c_195 => by exfalso; omega) (fun c_195 => ?_)
        refine vi_iconst 104 rfl ?_
        refine vi_goto 105 rfl ?_
        exact vi_ireturn 107 rfl rfl rfl (Nat.zero_le _) (Nat.zero_le _) (k1 w2 L2 H2 me2 hac hrf2 h1042 hmI2 hf2)
      | false =>
        rw [hac, if_neg (by decide)] at hv
        refine vi_aload_n 98 rfl rfl ?_
        refine vi_get 99 rfl f_X12_43 hrf2' rfl rfl ?_
        refine vi_iload 100 rfl rfl ?_
        refine vi_bald 101 rfl h1042 (by omega) ?_
        refine vi_iconst 102 rfl ?_
        refine vi_icmp_ne 103 rfl (by omega) (by omega) (fun c_195 => ?_) (fun c_195 => by exfalso; omega)
        refine vi_iconst 106 rfl ?_
        exact vi_ireturn 107 rfl rfl rfl (Nat.zero_le _) (Nat.zero_le _) (k0 w2 L2 H2 me2 hac hrf2 h1042 hmI2 hf2)
    have hmr : 0 ≤ me (15625 * u + ke) ∧ me (15625 * u + ke) ≤ 2 := by
      rcases hme with e | e
      · omega
      · rw [e]; split <;> omega
    refine vi_sipush 69 rfl (by decide) ?_
    refine vi_iload_n 70 rfl rfl ?_
    refine vi_imul 71 rfl ?_
    refine vi_iload 72 rfl rfl ?_
    refine vi_iadd 73 rfl ?_
    refine vi_istore 74 rfl rfl ?_
    refine vi_aload_n 75 rfl rfl ?_
    refine vi_get 76 rfl f_X12_43 hrf' rfl rfl ?_
    refine vi_iload 77 rfl rfl ?_
    refine vi_bald 78 rfl h104 (by omega) ?_
    refine vi_if_ne 79 rfl (by omega) (fun c_150 => ?_) (fun c_150 => ?_)
    · first | exact vi_lc (fin w L H me hrf h104 hmI (fun _ _ _ => rfl) (hme.resolve_left c_150)) ⟨rfl, rfl, trivial⟩ | exact vi_lc (fin _ L2 H2 _ ((wb_upn (by omega)).trans hrf2) wb_ups (hup 1 (by rw [hfi.mp (by omega), if_pos rfl])) (fun k q1 q2 => by rw [wb_upn q2]; exact hfr2 k q1) (by rw [wb_us, hfi.mp (by omega), if_pos rfl])) ⟨rfl, rfl, trivial⟩ | (have hacf : wb_ac n c s sd sf u x (wb_wp x t r) m = false := (by cases hh : wb_ac n c s sd sf u x (wb_wp x t r) m with | false => rfl | true => (have := hfi.mpr hh; omega)); exact vi_lc (fin _ L2 H2 _ ((wb_upn (by omega)).trans hrf2) wb_ups (hup 2 (by rw [hacf, if_neg (by decide)])) (fun k q1 q2 => by rw [wb_upn q2]; exact hfr2 k q1) (by rw [wb_us, hacf, if_neg (by decide)])) ⟨rfl, rfl, trivial⟩)
    · refine vi_aload_n 80 rfl rfl ?_
      refine vi_get 81 rfl f_X12_43 hrf' rfl rfl ?_
      refine vi_iload 82 rfl rfl ?_
      refine vi_aload_n 83 rfl rfl ?_
      refine vi_iload_n 84 rfl rfl ?_
      refine vi_iload 85 rfl rfl ?_
      refine vi_iload 86 rfl rfl ?_
      refine vi_iload 87 rfl rfl ?_
      refine vi_iload 88 rfl rfl ?_
      refine vi_iload 89 rfl rfl ?_
      refine vi_V6 90 ok_X12_goes rfl c_X12_130 hrf' rfl rfl ?_
      refine sp_X12_goes hrf h97 h98 hR (by omega) (by omega) (by omega) htt htr hu (by omega) (by omega) hc1r hd1r (by omega) (fun w2 L2 H2 _ hrf2 hfr2 => ?_)
      have hrf2' := hrf2
      unfold wb_Rf at hrf2'
      refine vi_aload_n 91 rfl rfl ?_
      refine vi_get 92 rfl f_X12_60 hrf2' rfl rfl ?_
      refine vi_icmp_ne 93 rfl (by omega) (by omega) (fun c_178 => ?_) (fun c_178 => ?_)
      · refine vi_iconst 96 rfl ?_
        refine vi_bast 97 rfl ((hfr2 _ (by omega)).trans h104) (by omega) (by omega) ?_
        first | exact vi_lc (fin w L H me hrf h104 hmI (fun _ _ _ => rfl) (hme.resolve_left c_150)) ⟨rfl, rfl, trivial⟩ | exact vi_lc (fin _ L2 H2 _ ((wb_upn (by omega)).trans hrf2) wb_ups (hup 1 (by rw [hfi.mp (by omega), if_pos rfl])) (fun k q1 q2 => by rw [wb_upn q2]; exact hfr2 k q1) (by rw [wb_us, hfi.mp (by omega), if_pos rfl])) ⟨rfl, rfl, trivial⟩ | (have hacf : wb_ac n c s sd sf u x (wb_wp x t r) m = false := (by cases hh : wb_ac n c s sd sf u x (wb_wp x t r) m with | false => rfl | true => (have := hfi.mpr hh; omega)); exact vi_lc (fin _ L2 H2 _ ((wb_upn (by omega)).trans hrf2) wb_ups (hup 2 (by rw [hacf, if_neg (by decide)])) (fun k q1 q2 => by rw [wb_upn q2]; exact hfr2 k q1) (by rw [wb_us, hacf, if_neg (by decide)])) ⟨rfl, rfl, trivial⟩)
      · refine vi_iconst 94 rfl ?_
        refine vi_goto 95 rfl ?_
        refine vi_bast 97 rfl ((hfr2 _ (by omega)).trans h104) (by omega) (by omega) ?_
        first | exact vi_lc (fin w L H me hrf h104 hmI (fun _ _ _ => rfl) (hme.resolve_left c_150)) ⟨rfl, rfl, trivial⟩ | exact vi_lc (fin _ L2 H2 _ ((wb_upn (by omega)).trans hrf2) wb_ups (hup 1 (by rw [hfi.mp (by omega), if_pos rfl])) (fun k q1 q2 => by rw [wb_upn q2]; exact hfr2 k q1) (by rw [wb_us, hfi.mp (by omega), if_pos rfl])) ⟨rfl, rfl, trivial⟩ | (have hacf : wb_ac n c s sd sf u x (wb_wp x t r) m = false := (by cases hh : wb_ac n c s sd sf u x (wb_wp x t r) m with | false => rfl | true => (have := hfi.mpr hh; omega)); exact vi_lc (fin _ L2 H2 _ ((wb_upn (by omega)).trans hrf2) wb_ups (hup 2 (by rw [hacf, if_neg (by decide)])) (fun k q1 q2 => by rw [wb_upn q2]; exact hfr2 k q1) (by rw [wb_us, hacf, if_neg (by decide)])) ⟨rfl, rfl, trivial⟩)
  by_cases hus : u = sd
  · have hsf := r9 (by omega)
    have e2 : wb_n6 sf = sf := if_neg (by omega)
    refine vi_iload_n 0 rfl rfl ?_
    refine vi_iload_n 1 rfl rfl ?_
    refine vi_S2 2 ok_X12_amount rfl c_X12_127 rfl ?_
    refine sp_X12_amount hx (by omega) ?_
    refine vi_istore 3 rfl rfl ?_
    refine vi_iload_n 4 rfl rfl ?_
    refine vi_iload_n 5 rfl rfl ?_
    refine vi_S2 6 ok_X12_amount rfl c_X12_127 rfl ?_
    refine sp_X12_amount hw (by omega) ?_
    refine vi_istore 7 rfl rfl ?_
    refine vi_iload_n 8 rfl rfl ?_
    refine vi_aload_n 9 rfl rfl ?_
    refine vi_get 10 rfl f_X12_16 hrf' rfl rfl ?_
    refine vi_icmp_ne 11 rfl (by omega) (by omega) (fun c_19 => by exfalso; have := e1.mpr hus; omega) (fun c_19 => ?_)
    refine vi_iconst 12 rfl ?_
    refine vi_goto 13 rfl ?_
    refine vi_istore 15 rfl rfl ?_
    refine vi_iload 16 rfl rfl ?_
    refine vi_if_eq 17 rfl (by omega) (fun c => absurd c (by decide)) (fun _ => ?_)
    refine vi_iload_n 18 rfl rfl ?_
    refine vi_aload_n 19 rfl rfl ?_
    refine vi_get 20 rfl f_X12_20 hrf' rfl rfl ?_
    rw [e2]
    refine vi_S2 21 ok_X12_amount rfl c_X12_127 rfl ?_
    refine sp_X12_amount hx (by omega) ?_
    refine vi_goto 22 rfl ?_
    refine vi_istore 24 rfl rfl ?_
    refine vi_iload 25 rfl rfl ?_
    refine vi_if_eq 26 rfl (by omega) (fun c => absurd c (by decide)) (fun _ => ?_)
    refine vi_iload_n 27 rfl rfl ?_
    refine vi_aload_n 28 rfl rfl ?_
    refine vi_get 29 rfl f_X12_20 hrf' rfl rfl ?_
    rw [e2]
    refine vi_S2 30 ok_X12_amount rfl c_X12_127 rfl ?_
    refine sp_X12_amount hw (by omega) ?_
    refine vi_goto 31 rfl ?_
    refine vi_istore 33 rfl rfl ?_
    refine vi_iload_n 34 rfl rfl ?_
    refine vi_iload 35 rfl rfl ?_
    refine vi_icmp_ne 36 rfl (by omega) (by omega) (fun c_70 => ?_) (fun c_70 => ?_)
    · refine vi_iload 47 rfl rfl ?_
      refine vi_if_eq 48 rfl (by omega) (fun c => absurd c (by decide)) (fun _ => ?_)
      refine vi_aload_n 49 rfl rfl ?_
      refine vi_get 50 rfl f_X12_20 hrf' rfl rfl ?_
      rw [e2]
      refine vi_iload 51 rfl rfl ?_
      refine vi_icmp_ne 52 rfl (by omega) (by omega) (fun c_102 => ?_) (fun c_102 => ?_)
      · refine vi_bipush 63 rfl (by decide) ?_
        refine vi_iload 64 rfl rfl ?_
        refine vi_imul 65 rfl ?_
        refine vi_iload 66 rfl rfl ?_
        refine vi_iadd 67 rfl ?_
        refine vi_istore 68 rfl rfl ?_
        exact vi_lc (tl _ _ _ _ _ rfl rfl (by rw [if_pos hus]) (by rw [if_pos hus]) (by unfold wb_ix; rw [if_pos hus]; first | (rw [if_pos (by omega)]; done) | (rw [if_neg (by omega), if_pos (by omega)]; done) | (rw [if_neg (by omega), if_neg (by omega)]))) ⟨rfl, rfl, rfl, rfl, rfl, rfl, rfl, rfl, trivial⟩
      · refine vi_sipush 53 rfl (by decide) ?_
        refine vi_iload 54 rfl rfl ?_
        refine vi_imul 55 rfl ?_
        refine vi_bipush 56 rfl (by decide) ?_
        refine vi_iload 57 rfl rfl ?_
        refine vi_imul 58 rfl ?_
        refine vi_iadd 59 rfl ?_
        refine vi_iload 60 rfl rfl ?_
        refine vi_iadd 61 rfl ?_
        refine vi_goto 62 rfl ?_
        refine vi_istore 68 rfl rfl ?_
        exact vi_lc (tl _ _ _ _ _ rfl rfl (by rw [if_pos hus]) (by rw [if_pos hus]) (by unfold wb_ix; rw [if_pos hus]; first | (rw [if_pos (by omega)]; done) | (rw [if_neg (by omega), if_pos (by omega)]; done) | (rw [if_neg (by omega), if_neg (by omega)]))) ⟨rfl, rfl, rfl, rfl, rfl, rfl, rfl, rfl, trivial⟩
    · refine vi_sipush 37 rfl (by decide) ?_
      refine vi_iload 38 rfl rfl ?_
      refine vi_imul 39 rfl ?_
      refine vi_bipush 40 rfl (by decide) ?_
      refine vi_iload 41 rfl rfl ?_
      refine vi_imul 42 rfl ?_
      refine vi_iadd 43 rfl ?_
      refine vi_iload 44 rfl rfl ?_
      refine vi_iadd 45 rfl ?_
      refine vi_goto 46 rfl ?_
      refine vi_istore 68 rfl rfl ?_
      exact vi_lc (tl _ _ _ _ _ rfl rfl (by rw [if_pos hus]) (by rw [if_pos hus]) (by unfold wb_ix; rw [if_pos hus]; first | (rw [if_pos (by omega)]; done) | (rw [if_neg (by omega), if_pos (by omega)]; done) | (rw [if_neg (by omega), if_neg (by omega)]))) ⟨rfl, rfl, rfl, rfl, rfl, rfl, rfl, rfl, trivial⟩
  · skip
    refine vi_iload_n 0 rfl rfl ?_
    refine vi_iload_n 1 rfl rfl ?_
    refine vi_S2 2 ok_X12_amount rfl c_X12_127 rfl ?_
    refine sp_X12_amount hx (by omega) ?_
    refine vi_istore 3 rfl rfl ?_
    refine vi_iload_n 4 rfl rfl ?_
    refine vi_iload_n 5 rfl rfl ?_
    refine vi_S2 6 ok_X12_amount rfl c_X12_127 rfl ?_
    refine sp_X12_amount hw (by omega) ?_
    refine vi_istore 7 rfl rfl ?_
    refine vi_iload_n 8 rfl rfl ?_
    refine vi_aload_n 9 rfl rfl ?_
    refine vi_get 10 rfl f_X12_16 hrf' rfl rfl ?_
    refine vi_icmp_ne 11 rfl (by omega) (by omega) (fun c_19 => ?_) (fun c_19 => by exfalso; have := e1.mp (by omega); omega)
    refine vi_iconst 14 rfl ?_
    refine vi_istore 15 rfl rfl ?_
    refine vi_iload 16 rfl rfl ?_
    refine vi_if_eq 17 rfl (by omega) (fun _ => ?_) (fun c => absurd c (by decide))
    refine vi_iconst 23 rfl ?_
    refine vi_istore 24 rfl rfl ?_
    refine vi_iload 25 rfl rfl ?_
    refine vi_if_eq 26 rfl (by omega) (fun _ => ?_) (fun c => absurd c (by decide))
    refine vi_iconst 32 rfl ?_
    refine vi_istore 33 rfl rfl ?_
    refine vi_iload_n 34 rfl rfl ?_
    refine vi_iload 35 rfl rfl ?_
    refine vi_icmp_ne 36 rfl (by omega) (by omega) (fun c_70 => ?_) (fun c_70 => ?_)
    · refine vi_iload 47 rfl rfl ?_
      refine vi_if_eq 48 rfl (by omega) (fun _ => ?_) (fun c => absurd c (by decide))
      refine vi_bipush 63 rfl (by decide) ?_
      refine vi_iload 64 rfl rfl ?_
      refine vi_imul 65 rfl ?_
      refine vi_iload 66 rfl rfl ?_
      refine vi_iadd 67 rfl ?_
      refine vi_istore 68 rfl rfl ?_
      exact vi_lc (tl _ _ _ _ _ rfl rfl (by rw [if_neg hus]) (by rw [if_neg hus]) (by unfold wb_ix; rw [if_neg hus]; first | (rw [if_pos (by omega)]; done) | (rw [if_neg (by omega), if_neg (by omega)]))) ⟨rfl, rfl, rfl, rfl, rfl, rfl, rfl, rfl, trivial⟩
    · refine vi_sipush 37 rfl (by decide) ?_
      refine vi_iload 38 rfl rfl ?_
      refine vi_imul 39 rfl ?_
      refine vi_bipush 40 rfl (by decide) ?_
      refine vi_iload 41 rfl rfl ?_
      refine vi_imul 42 rfl ?_
      refine vi_iadd 43 rfl ?_
      refine vi_iload 44 rfl rfl ?_
      refine vi_iadd 45 rfl ?_
      refine vi_goto 46 rfl ?_
      refine vi_istore 68 rfl rfl ?_
      exact vi_lc (tl _ _ _ _ _ rfl rfl (by rw [if_neg hus]) (by rw [if_neg hus]) (by unfold wb_ix; rw [if_neg hus]; first | (rw [if_pos (by omega)]; done) | (rw [if_neg (by omega), if_neg (by omega)]))) ⟨rfl, rfl, rfl, rfl, rfl, rfl, rfl, rfl, trivial⟩
end WBS64
