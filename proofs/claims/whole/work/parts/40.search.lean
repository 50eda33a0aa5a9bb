/-! ===== the nearest, the doubted months ===== -/
theorem wb_mono {le mo nd le' mo' : Int → Int} {ho lo L0 H0 : Int} (h : ∀ m : Int, le' m ≤ le m ∧ mo m ≤ mo' m) : ∀ k : Nat, ((wb_rn le' mo' ho lo nd L0 H0 k).1 ≤ (wb_rn le mo ho lo nd L0 H0 k).1 ∧ (wb_rn le mo ho lo nd L0 H0 k).2 ≤ (wb_rn le' mo' ho lo nd L0 H0 k).2) ∧ (wb_ok le mo ho lo nd L0 H0 k = true → wb_ok le' mo' ho lo nd L0 H0 k = true) := by
  intro k
  induction k with
  | zero => exact ⟨⟨Int.le_refl _, Int.le_refl _⟩, id⟩
  | succ k ih =>
    obtain ⟨⟨i1, i2⟩, i3⟩ := ih
    have hk := h k
    have a : (wb_rn le' mo' ho lo nd L0 H0 (k + 1)).1 ≤ (wb_rn le mo ho lo nd L0 H0 (k + 1)).1 := by
      show wb_c0 _ ≤ wb_c0 _
      unfold wb_c0; split <;> split <;> omega
    have b : (wb_rn le mo ho lo nd L0 H0 (k + 1)).2 ≤ (wb_rn le' mo' ho lo nd L0 H0 (k + 1)).2 := by
      show wb_cx _ _ ≤ wb_cx _ _
      unfold wb_cx; split <;> split <;> omega
    refine ⟨⟨a, b⟩, fun q => ?_⟩
    rw [wb_ok] at q ⊢
    obtain ⟨q1, q2⟩ := wb_and q
    have := of_decide_eq_true q2
    rw [i3 q1, Bool.true_and]
    exact decide_eq_true (by omega)
theorem wb_A_mono {n : Int} {c s : Int → Int} {sd sf g g' z t x : Int} (h : g ≤ g') (hA : wb_A n c s sd sf g z t x = true) : wb_A n c s sd sf g' z t x = true := by
  refine (wb_mono (fun m => ?_) n.toNat).2 hA
  unfold wb_le wb_mt
  split
  · omega
  · refine ⟨?_, by omega⟩
    split <;> split <;> omega
theorem wb_ft_mono {n : Int} {c s : Int → Int} {sd sf g g' z x : Int} {K : Int → Bool} (h : g ≤ g') (hA : wb_ft n c s sd sf K g z x = true) : wb_ft n c s sd sf K g' z x = true := by
  unfold wb_ft wb_AA at hA ⊢
  obtain ⟨a1, a2⟩ := wb_and hA
  rw [a1, Bool.true_and]
  simp only [wb_al, Bool.true_and, Bool.and_eq_true] at a2 ⊢
  exact ⟨⟨wb_A_mono h a2.1.1, wb_A_mono h a2.1.2⟩, wb_A_mono h a2.2⟩
def wb_nf (n : Int) (c s : Int → Int) (sd sf : Int) (K : Int → Bool) (g z : Int) : Int := wb_nx (wb_ft n c s sd sf K g z) 0
theorem wb_nf_rg {n : Int} {c s : Int → Int} {sd sf : Int} {K : Int → Bool} {g z : Int} : -1 ≤ wb_nf n c s sd sf K g z ∧ wb_nf n c s sd sf K g z < 15625 := by
  rcases wb_nx_cases (wb_ft n c s sd sf K g z) 0 with ⟨h1, h2, _⟩ | ⟨h1, _⟩ <;> unfold wb_nf <;> omega
theorem wb_nf_mono {n : Int} {c s : Int → Int} {sd sf : Int} {K : Int → Bool} {g g' z : Int} (h : g ≤ g') (hn : wb_nf n c s sd sf K g' z < 0) : wb_nf n c s sd sf K g z < 0 := by
  unfold wb_nf at hn ⊢
  rw [← wb_nx_sub (S := wb_ft n c s sd sf K g' z) (fun x _ _ hx => wb_ft_mono h hx) hn]; exact hn
/-- the nearest: by how much, which -/
def wb_nr (n : Int) (c s : Int → Int) (sd sf : Int) (K : Int → Bool) (nb nf : Int) : Prop := (nf = -1 ∧ ∀ g, 0 ≤ g → g ≤ 99 → wb_nf n c s sd sf K g 0 < 0) ∨ ((0 ≤ nb ∧ nb ≤ 99) ∧ nf = wb_nf n c s sd sf K nb 0 ∧ 0 ≤ nf ∧ ∀ g, 0 ≤ g → g < nb → wb_nf n c s sd sf K g 0 < 0)
def wb_pb (z : Int) : Int := (wb_pn 8 z.toNat : Int)
def wb_p2 (n : Int) : Int := ((2 ^ n.toNat : Nat) : Int)
/-- the months that one would have to doubt, as bits; which then -/
def wb_dn (n : Int) (c s : Int → Int) (sd sf : Int) (K : Int → Bool) (db df : Int) : Prop := (df = -1 ∧ ∀ z, 0 ≤ z → z < wb_p2 n → wb_pb z ≤ 2 → wb_nf n c s sd sf K 0 z < 0) ∨ ((0 ≤ db ∧ db < wb_p2 n) ∧ wb_pb db ≤ 2 ∧ df = wb_nf n c s sd sf K 0 db ∧ 0 ≤ df ∧ ∀ z, 0 ≤ z → z < wb_p2 n → (wb_pb z < wb_pb db ∨ (wb_pb z = wb_pb db ∧ z < db)) → wb_nf n c s sd sf K 0 z < 0)
theorem wb_shl1 {p : Int} (hp : 0 ≤ p ∧ p < 31) : wb_i 1 <<< (wb_i p &&& 31) = wb_i (wb_p2 p) := by
  have e := wb_or1 (z := 0) (p := p) (by omega) hp
  rw [show wb_i 0 = 0 from rfl, Int32.zero_or] at e
  rw [e]; unfold wb_ad1 wb_p2; simp
theorem wb_p2_rg {n : Int} (h : 0 ≤ n ∧ n ≤ 8) : 1 ≤ wb_p2 n ∧ wb_p2 n ≤ 256 := by
  rcases (show n = 0 ∨ n = 1 ∨ n = 2 ∨ n = 3 ∨ n = 4 ∨ n = 5 ∨ n = 6 ∨ n = 7 ∨ n = 8 by omega) with rfl | rfl | rfl | rfl | rfl | rfl | rfl | rfl | rfl <;> decide
theorem wb_pb0 : ∀ z : Fin 256, wb_pb (z.val : Int) = 0 → z.val = 0 := by decide +kernel
theorem wb_pb_rg : ∀ z : Fin 256, 0 ≤ wb_pb (z.val : Int) ∧ wb_pb (z.val : Int) ≤ 8 := by decide +kernel
theorem wb_pb_z {z : Int} (hz : 0 ≤ z ∧ z < 256) : (0 ≤ wb_pb z ∧ wb_pb z ≤ 8) ∧ (wb_pb z = 0 → z = 0) := by
  have h1 := wb_pb_rg ⟨z.toNat, by omega⟩
  have h2 := wb_pb0 ⟨z.toNat, by omega⟩
  simp only [show ((z.toNat : Nat) : Int) = z by omega] at h1 h2
  exact ⟨h1, fun q => by have := h2 q; omega⟩
/-- the search: its turns and what it found -/
def wb_Se (w : wb_W) (nt nb nf dt db df : Int) : Prop := w 81 = .inr (7, [.ref 29, .int (wb_i nt), .int (wb_i nb), .int (wb_i nf), .int (wb_i dt), .int (wb_i db), .int (wb_i df)])
section WBS40
variable {G : wb_G} {N : Nat} {w : wb_W} {Q : Option Value → Nat → wb_W → Prop}
variable {n : Int} {c s : Int → Int} {sd sf bo tu : Int} {g : Int → Int64} {K : Int → Bool} {hl ct mt : Int} {nt nb nf dt db df : Int}
theorem sp_X7_leastMore (hse : wb_Se w nt nb nf dt db df) (hbk : wb_Bk w 4 n c s sd sf bo tu g) (hR : wb_BR n c s sd sf) (hK : wb_rp g K) (htu : 1 ≤ tu) (hwk : wb_Wk w n c s sd sf tu K hl tu ct mt) (h0 : wb_nf n c s sd sf K 0 0 < 0) (h99 : 0 ≤ wb_nf n c s sd sf K 99 0)
    (hQ : ∀ (w' : wb_W) (r mt' : Int), (1 ≤ r ∧ r ≤ 99) → 0 ≤ wb_nf n c s sd sf K r 0 → (∀ g, 0 ≤ g → g < r → wb_nf n c s sd sf K g 0 < 0) → wb_Wk w' n c s sd sf tu K hl tu ct mt' → (∀ k, (k < 29 ∨ 81 ≤ k) → w' k = w k) → Q (some (.int (wb_i r))) N w') : wb_M G M_X7_leastMore [.ref 81] N w Q := by
  unfold wb_M
  have lp : ∀ i, i ≤ 99 → ∀ (w1 : wb_W) (no so mt1 : Int), 0 ≤ i → (0 ≤ no ∧ no < so ∧ so ≤ 99) → (so - no ≤ 99 - i ∨ so - no = 1) → wb_nf n c s sd sf K no 0 < 0 → 0 ≤ wb_nf n c s sd sf K so 0 → wb_Wk w1 n c s sd sf tu K hl tu ct mt1 → (∀ k, (k < 29 ∨ 81 ≤ k) → w1 k = w k) → wb_V G M_X7_leastMore 7 [(0, .ref 81), (1, .int (wb_i no)), (2, .int (wb_i so)), (3, .int (wb_i i))] [] N w1 0 0 Q := by
    refine wb_up 99 _ ?_
    intro i ih hi w1 no so mt1 hi0 hns hlen hno hso hwk1 ef
    have hbk1 : wb_Bk w1 4 n c s sd sf bo tu g := hbk.fr (fun k p1 p2 => ef k (by omega))
    have hse1 : wb_Se w1 nt nb nf dt db df := (ef 81 (by omega)).trans hse
    have hnr := wb_nf_rg (n := n) (c := c) (s := s) (sd := sd) (sf := sf) (K := K) (g := (no + so) / 2) (z := 0)
    refine vi_iload_n 6 rfl rfl ?_
    refine vi_bipush 7 rfl (by decide) ?_
    refine vi_icmp_ge 8 rfl (by omega) (by omega) (fun c_10 => ?_) (fun c_10 => ?_)
    · refine vi_iload_n 33 rfl rfl ?_
      exact vi_ireturn 34 rfl rfl rfl (Nat.zero_le _) (Nat.zero_le _) (hQ w1 so mt1 (by omega) hso (fun g g1 g2 => wb_nf_mono (show g ≤ no by omega) hno) hwk1 ef)
    · refine vi_iload_n 9 rfl rfl ?_
      refine vi_iload_n 10 rfl rfl ?_
      refine vi_isub 11 rfl ?_
      refine vi_iconst 12 rfl ?_
      refine vi_icmp_le 13 rfl (by omega) (by omega) (fun c_17 => ?_) (fun c_17 => ?_)
      · refine vi_iload_n 33 rfl rfl ?_
        exact vi_ireturn 34 rfl rfl rfl (Nat.zero_le _) (Nat.zero_le _) (hQ w1 so mt1 (by omega) hso (fun g g1 g2 => wb_nf_mono (show g ≤ no by omega) hno) hwk1 ef)
      · refine vi_iload_n 14 rfl rfl ?_
        refine vi_iload_n 15 rfl rfl ?_
        refine vi_iadd 16 rfl ?_
        refine vi_iconst 17 rfl ?_
        refine vi_idiv 18 rfl (by omega) (by omega) ?_
        refine vi_istore 19 rfl rfl ?_
        refine vi_aload_n 20 rfl rfl ?_
        refine vi_get 21 rfl f_X7_18 hse1 rfl rfl ?_
        refine vi_iload 22 rfl rfl ?_
        refine vi_iconst 23 rfl ?_
        refine vi_V2 24 ok_X10_firstBy rfl c_X7_37 hwk1.1.1 rfl rfl ?_
        refine sp_X10_firstBy hbk1 hR hK htu hwk1 (by omega) (by omega) (fun w2 hwk2 hf2 => ?_)
        change wb_V G M_X7_leastMore 37 _ [.int (wb_i (wb_nf n c s sd sf K ((no + so) / 2) 0))] N w2 0 0 Q
        refine vi_if_lt 25 rfl (by omega) (fun c_37 => ?_) (fun c_37 => ?_)
        · refine vi_iload 29 rfl rfl ?_
          refine vi_istore_n 30 rfl rfl ?_
          refine vi_iinc 31 rfl rfl rfl ?_
          refine vi_goto 32 rfl ?_
          first | exact vi_lc (ih (i + 1) (by omega) (by omega) w2 no ((no + so) / 2) 0 (by omega) (by omega) (by omega) hno (by omega) hwk2 (fun k hk => (hf2 k hk).trans (ef k hk))) ⟨rfl, rfl, rfl, rfl, trivial⟩ | exact vi_lc (ih (i + 1) (by omega) (by omega) w2 ((no + so) / 2) so 0 (by omega) (by omega) (by omega) (by omega) hso hwk2 (fun k hk => (hf2 k hk).trans (ef k hk))) ⟨rfl, rfl, rfl, rfl, trivial⟩
        · refine vi_iload 26 rfl rfl ?_
          refine vi_istore_n 27 rfl rfl ?_
          refine vi_goto 28 rfl ?_
          refine vi_iinc 31 rfl rfl rfl ?_
          refine vi_goto 32 rfl ?_
          first | exact vi_lc (ih (i + 1) (by omega) (by omega) w2 no ((no + so) / 2) 0 (by omega) (by omega) (by omega) hno (by omega) hwk2 (fun k hk => (hf2 k hk).trans (ef k hk))) ⟨rfl, rfl, rfl, rfl, trivial⟩ | exact vi_lc (ih (i + 1) (by omega) (by omega) w2 ((no + so) / 2) so 0 (by omega) (by omega) (by omega) (by omega) hso hwk2 (fun k hk => (hf2 k hk).trans (ef k hk))) ⟨rfl, rfl, rfl, rfl, trivial⟩
  refine vi_iconst 0 rfl ?_
  refine vi_istore_n 1 rfl rfl ?_
  refine vi_bipush 2 rfl (by decide) ?_
  refine vi_istore_n 3 rfl rfl ?_
  refine vi_iconst 4 rfl ?_
  refine vi_istore_n 5 rfl rfl ?_
  exact vi_lc (lp 0 (by omega) w 0 99 mt (by omega) (by omega) (by omega) h0 h99 hwk (fun _ _ => rfl)) ⟨rfl, rfl, rfl, rfl, trivial⟩
theorem sp_X7_seekNear (hse : wb_Se w nt nb nf dt db df) (hbk : wb_Bk w 4 n c s sd sf bo tu g) (hR : wb_BR n c s sd sf) (hK : wb_rp g K) (htu : 1 ≤ tu) (hwk : wb_Wk w n c s sd sf tu K hl tu ct mt) (hnt : 0 ≤ nt ∧ nt ≤ tu) (hval : nt = tu → wb_nr n c s sd sf K nb nf)
    (hQ : ∀ (w' : wb_W) (nb' nf' mt' : Int), wb_nr n c s sd sf K nb' nf' → wb_Se w' tu nb' nf' dt db df → wb_Wk w' n c s sd sf tu K hl tu ct mt' → (∀ k, (k < 29 ∨ 82 ≤ k) → w' k = w k) → Q none N w') : wb_M G M_X7_seekNear [.ref 81] N w Q := by
  unfold wb_M
  have htm := hwk.2.2.2.2.2.2.1
  have hn0 := wb_nf_rg (n := n) (c := c) (s := s) (sd := sd) (sf := sf) (K := K) (g := 0) (z := 0)
  have hn9 := wb_nf_rg (n := n) (c := c) (s := s) (sd := sd) (sf := sf) (K := K) (g := 99) (z := 0)
  have hwo := hwk.1.1
  have hse' := hse
  unfold wb_Se at hse'
  refine vi_aload_n 0 rfl rfl ?_
  refine vi_get 1 rfl f_X7_22 hse' rfl rfl ?_
  refine vi_aload_n 2 rfl rfl ?_
  refine vi_get 3 rfl f_X7_18 hse' rfl rfl ?_
  refine vi_get 4 rfl f_X7_25 hwo rfl rfl ?_
  refine vi_icmp_ne 5 rfl (by omega) (by omega) (fun c_11 => ?_) (fun c_11 => ?_)
  · refine vi_aload_n 7 rfl rfl ?_
    refine vi_aload_n 8 rfl rfl ?_
    refine vi_get 9 rfl f_X7_18 hse' rfl rfl ?_
    refine vi_get 10 rfl f_X7_25 hwo rfl rfl ?_
    refine vi_put 11 rfl f_X7_22 hse' rfl rfl rfl rfl ?_
    have hbkA : ∀ v : va_E, wb_Bk (va_up w 81 v) 4 n c s sd sf bo tu g := fun v => hbk.fr (fun k p1 p2 => wb_upn (by omega))
    have hwkA : ∀ (u : wb_W) (m : Int), wb_Wk u n c s sd sf tu K hl tu ct m → ∀ v : va_E, wb_Wk (va_up u 81 v) n c s sd sf tu K hl tu ct m := fun u m hu v => hu.fr (fun k p1 p2 => wb_upn (by omega))
    refine vi_aload_n 12 rfl rfl ?_
    refine vi_iconst 13 rfl ?_
    refine vi_put 14 rfl f_X7_30 wb_ups rfl rfl rfl rfl ?_
    refine vi_aload_n 15 rfl rfl ?_
    refine vi_aload_n 16 rfl rfl ?_
    refine vi_get 17 rfl f_X7_18 wb_ups rfl rfl ?_
    refine vi_V0 18 ok_X10_first rfl c_X7_33 ((wb_upn (by omega)).trans ((wb_upn (by omega)).trans hwo)) rfl rfl ?_
    refine sp_X10_first (hwkA _ _ (hwkA _ _ hwk _) _) ?_
    change wb_V G M_X7_seekNear 39 _ [.int (wb_i (wb_nf n c s sd sf K 0 0)), .ref 81] N _ 0 0 Q
    refine vi_put 19 rfl f_X7_9 wb_ups rfl rfl rfl rfl ?_
    refine vi_aload_n 20 rfl rfl ?_
    refine vi_get 21 rfl f_X7_9 wb_ups rfl rfl ?_
    refine vi_if_ge 22 rfl (by omega) (fun c_46 => ?_) (fun c_46 => ?_)
    · exact vi_return 41 rfl rfl (Nat.zero_le _) (Nat.zero_le _) ((by first | exact hQ _ 0 (wb_nf n c s sd sf K 0 0) mt (Or.inr ⟨by omega, rfl, by omega, fun g g1 g2 => by omega⟩) wb_ups (hwkA _ _ (hwkA _ _ (hwkA _ _ hwk _) _) _) (fun k hk => by rw [wb_upn (by omega), wb_upn (by omega), wb_upn (by omega)]) | exact hQ _ r (wb_nf n c s sd sf K r 0) 0 (Or.inr ⟨by omega, rfl, hr2, hr3⟩) wb_ups (hwkA _ _ hwk4 _) (fun k hk => by rw [wb_upn (by omega)]; exact (hf4 k (by omega)).trans ((wb_upn (by omega)).trans ((hf3 k (by omega)).trans ((hf2 k (by omega)).trans (hfA k (by omega)))))) | exact hQ w2 0 (wb_nf n c s sd sf K 0 0) 0 (Or.inl ⟨by omega, fun g g1 g2 => wb_nf_mono (show g ≤ 99 by omega) (by omega)⟩) hse2 hwk2 (fun k hk => (hf2 k (by omega)).trans (hfA k (by omega)))))
    · have hfA : ∀ k, k ≠ 81 → va_up (va_up (va_up w 81 (.inr (7, [.ref 29, .int (wb_i tu), .int (wb_i nb), .int (wb_i nf), .int (wb_i dt), .int (wb_i db), .int (wb_i df)]))) 81 (.inr (7, [.ref 29, .int (wb_i tu), .int (wb_i 0), .int (wb_i nf), .int (wb_i dt), .int (wb_i db), .int (wb_i df)]))) 81 (.inr (7, [.ref 29, .int (wb_i tu), .int (wb_i 0), .int (wb_i (wb_nf n c s sd sf K 0 0)), .int (wb_i dt), .int (wb_i db), .int (wb_i df)])) k = w k := fun k hk => by rw [wb_upn hk, wb_upn hk, wb_upn hk]
      refine vi_aload_n 23 rfl rfl ?_
      refine vi_get 24 rfl f_X7_18 wb_ups rfl rfl ?_
      refine vi_bipush 25 rfl (by decide) ?_
      refine vi_iconst 26 rfl ?_
      refine vi_V2 27 ok_X10_firstBy rfl c_X7_37 ((hfA _ (by omega)).trans hwo) rfl rfl ?_
      refine sp_X10_firstBy (more := 99) (dou := 0) (hbk.fr (fun k p1 p2 => hfA k (by omega))) hR hK htu (hwkA _ _ (hwkA _ _ (hwkA _ _ hwk _) _) _) (by omega) (by omega) (fun w2 hwk2 hf2 => ?_)
      change wb_V G M_X7_seekNear 59 _ [.int (wb_i (wb_nf n c s sd sf K 99 0))] N w2 0 0 Q
      have hse2 : wb_Se w2 tu 0 (wb_nf n c s sd sf K 0 0) dt db df := (hf2 81 (by omega)).trans wb_ups
      have hbk2 : wb_Bk w2 4 n c s sd sf bo tu g := hbk.fr (fun k p1 p2 => (hf2 k (by omega)).trans (hfA k (by omega)))
      refine vi_if_lt 28 rfl (by omega) (fun c_59 => ?_) (fun c_59 => ?_)
      · exact vi_return 41 rfl rfl (Nat.zero_le _) (Nat.zero_le _) ((by first | exact hQ _ 0 (wb_nf n c s sd sf K 0 0) mt (Or.inr ⟨by omega, rfl, by omega, fun g g1 g2 => by omega⟩) wb_ups (hwkA _ _ (hwkA _ _ (hwkA _ _ hwk _) _) _) (fun k hk => by rw [wb_upn (by omega), wb_upn (by omega), wb_upn (by omega)]) | exact hQ _ r (wb_nf n c s sd sf K r 0) 0 (Or.inr ⟨by omega, rfl, hr2, hr3⟩) wb_ups (hwkA _ _ hwk4 _) (fun k hk => by rw [wb_upn (by omega)]; exact (hf4 k (by omega)).trans ((wb_upn (by omega)).trans ((hf3 k (by omega)).trans ((hf2 k (by omega)).trans (hfA k (by omega)))))) | exact hQ w2 0 (wb_nf n c s sd sf K 0 0) 0 (Or.inl ⟨by omega, fun g g1 g2 => wb_nf_mono (show g ≤ 99 by omega) (by omega)⟩) hse2 hwk2 (fun k hk => (hf2 k (by omega)).trans (hfA k (by omega)))))
      · refine vi_aload_n 29 rfl rfl ?_
        refine vi_aload_n 30 rfl rfl ?_
        refine vi_V0 31 ok_X7_leastMore rfl c_X7_41 hse2 rfl rfl ?_
        refine sp_X7_leastMore hse2 hbk2 hR hK htu hwk2 (by omega) (by omega) (fun w3 r mt3 hr1 hr2 hr3 hwk3 hf3 => ?_)
        have hse3 : wb_Se w3 tu 0 (wb_nf n c s sd sf K 0 0) dt db df := (hf3 81 (by omega)).trans hse2
        have hbk3 : wb_Bk w3 4 n c s sd sf bo tu g := hbk2.fr (fun k p1 p2 => hf3 k (by omega))
        refine vi_put 32 rfl f_X7_30 hse3 rfl rfl rfl rfl ?_
        refine vi_aload_n 33 rfl rfl ?_
        refine vi_aload_n 34 rfl rfl ?_
        refine vi_get 35 rfl f_X7_18 wb_ups rfl rfl ?_
        refine vi_aload_n 36 rfl rfl ?_
        refine vi_get 37 rfl f_X7_30 wb_ups rfl rfl ?_
        refine vi_iconst 38 rfl ?_
        refine vi_V2 39 ok_X10_firstBy rfl c_X7_37 ((wb_upn (by omega)).trans hwk3.1.1) rfl rfl ?_
        refine sp_X10_firstBy (more := r) (dou := 0) (hbk3.fr (fun k p1 p2 => wb_upn (by omega))) hR hK htu (hwkA _ _ hwk3 _) (by omega) (by omega) (fun w4 hwk4 hf4 => ?_)
        change wb_V G M_X7_seekNear 83 _ [.int (wb_i (wb_nf n c s sd sf K r 0)), .ref 81] N w4 0 0 Q
        have hse4 : wb_Se w4 tu r (wb_nf n c s sd sf K 0 0) dt db df := (hf4 81 (by omega)).trans wb_ups
        refine vi_put 40 rfl f_X7_9 hse4 rfl rfl rfl rfl ?_
        exact vi_return 41 rfl rfl (Nat.zero_le _) (Nat.zero_le _) ((by first | exact hQ _ 0 (wb_nf n c s sd sf K 0 0) mt (Or.inr ⟨by omega, rfl, by omega, fun g g1 g2 => by omega⟩) wb_ups (hwkA _ _ (hwkA _ _ (hwkA _ _ hwk _) _) _) (fun k hk => by rw [wb_upn (by omega), wb_upn (by omega), wb_upn (by omega)]) | exact hQ _ r (wb_nf n c s sd sf K r 0) 0 (Or.inr ⟨by omega, rfl, hr2, hr3⟩) wb_ups (hwkA _ _ hwk4 _) (fun k hk => by rw [wb_upn (by omega)]; exact (hf4 k (by omega)).trans ((wb_upn (by omega)).trans ((hf3 k (by omega)).trans ((hf2 k (by omega)).trans (hfA k (by omega)))))) | exact hQ w2 0 (wb_nf n c s sd sf K 0 0) 0 (Or.inl ⟨by omega, fun g g1 g2 => wb_nf_mono (show g ≤ 99 by omega) (by omega)⟩) hse2 hwk2 (fun k hk => (hf2 k (by omega)).trans (hfA k (by omega)))))
  · exact vi_return 6 rfl rfl (Nat.zero_le _) (Nat.zero_le _) (hQ w nb nf mt (hval (by omega)) (by have := hse; rw [show nt = tu by omega] at this; exact this) hwk (fun _ _ => rfl))
end WBS40
