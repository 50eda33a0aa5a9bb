/-! ===== the book, on; a flow is set by it ===== -/
def wb_ow (c : Int → Int) (sd sf m t r : Int) : Int := if t = sf ∧ wb_si c sd sf m then 0 else wb_nd c m r
def wb_gn (c : Int → Int) (sd sf m t r : Int) : Int := if t = sd ∧ wb_si c sd sf m then wb_nd c m r else 0
/-- what a mixture needs of a thing in a month -/
def wb_ne (c : Int → Int) (sd sf x m t : Int) : Int := wb_ow c sd sf m t (wb_pr x t) + wb_gn c sd sf m t (wb_pr x sf)
theorem wb_ow_rg {n : Int} {c s : Int → Int} {sd sf m t r : Int} (h : wb_BR n c s sd sf) (hr : 0 ≤ r ∧ r < 25) : 0 ≤ wb_ow c sd sf m t r ∧ wb_ow c sd sf m t r ≤ 160 := by
  have := wb_nd_rg (m := m) h hr
  unfold wb_ow; split <;> omega
theorem wb_gn_rg {n : Int} {c s : Int → Int} {sd sf m t r : Int} (h : wb_BR n c s sd sf) (hr : 0 ≤ r ∧ r < 25) : 0 ≤ wb_gn c sd sf m t r ∧ wb_gn c sd sf m t r ≤ 160 := by
  have := wb_nd_rg (m := m) h hr
  unfold wb_gn; split <;> omega
/-- the price of a part -/
def wb_pp (c : Int → Int) (m p : Int) : Int := c (9 * m + 6) * wb_am p 0 + c (9 * m + 7) * wb_am p 1 + c (9 * m + 8) * wb_am p 2
/-- it stands in in some month -/
def wb_sm1 (c : Int → Int) (n sd sf : Int) : Prop := ∃ m, 0 ≤ m ∧ m < n ∧ wb_si c sd sf m
section WBS21
variable {G : wb_G} {N : Nat} {w : wb_W} {Q : Option Value → Nat → wb_W → Prop} {b : Nat} {n : Int} {c s : Int → Int} {sd sf bo tu : Int} {g : Int → Int64}
theorem sp_X0_guestOf {t : Int} (hb : wb_Bk w b n c s sd sf bo tu g) (hR : wb_BR n c s sd sf) (ht : -2147483648 ≤ t ∧ t ≤ 2147483647) (k1 : t = sd → wb_sm1 c n sd sf → Q (some (.int (wb_i sf))) N w) (k0 : ¬ (t = sd ∧ wb_sm1 c n sd sf) → Q (some (.int (wb_i (-1)))) N w) : wb_M G M_X0_guestOf [.ref b, .int (wb_i t)] N w Q := by
  have hb' := hb
  obtain ⟨h0, h1, h2, h3, h4⟩ := hb
  have hR' := hR
  obtain ⟨r1, r2, r3, r4, r5, r6, r7, r8, r9⟩ := hR
  unfold wb_M
  have lp : ∀ i, i ≤ n → 0 ≤ i → t = sd → (∀ m, 0 ≤ m → m < i → ¬ wb_si c sd sf m) → wb_V G M_X0_guestOf 12 [(0, .ref b), (1, .int (wb_i t)), (2, .int (wb_i i))] [] N w 0 0 Q := by
    refine wb_up n _ ?_
    intro i ih hi hi0 hts hno
    refine vi_iload_n 8 rfl rfl ?_
    refine vi_aload_n 9 rfl rfl ?_
    refine vi_get 10 rfl f_X0_41 (by assumption) rfl rfl ?_
    refine vi_icmp_ge 11 rfl (by omega) (by omega) (fun c_17 => ?_) (fun c_17 => ?_)
    · refine vi_iconst 21 rfl ?_
      exact vi_ireturn 22 rfl rfl rfl (Nat.zero_le _) (Nat.zero_le _) (k0 (fun q => by obtain ⟨-, m, q1, q2, q3⟩ := q; exact hno m q1 (by omega) q3))
    · refine vi_aload_n 12 rfl rfl ?_
      refine vi_iload_n 13 rfl rfl ?_
      refine vi_V1 14 ok_X0_standsIn rfl c_X0_66 (by assumption) rfl rfl ?_
      refine sp_X0_standsIn ‹_› ‹_› (by omega) (fun b_22 => ?_) (fun b_22 => ?_)
      · refine vi_if_eq 15 rfl (by omega) (fun c => absurd c (by decide)) (fun _ => ?_)
        refine vi_aload_n 16 rfl rfl ?_
        refine vi_get 17 rfl f_X0_22 (by assumption) rfl rfl ?_
        exact vi_ireturn 18 rfl rfl rfl (Nat.zero_le _) (Nat.zero_le _) (k1 hts ⟨i, by omega, by omega, b_22⟩)
      · refine vi_if_eq 15 rfl (by omega) (fun _ => ?_) (fun c => absurd c (by decide))
        refine vi_iinc 19 rfl rfl rfl ?_
        refine vi_goto 20 rfl ?_
        exact vi_lc (ih (i + 1) (by omega) (by omega) (by omega) hts (fun m q1 q2 => (show m < i ∨ m = i by omega).elim (hno m q1) (fun q => q ▸ b_22))) ⟨rfl, rfl, rfl, trivial⟩
  refine vi_iload_n 0 rfl rfl ?_
  refine vi_aload_n 1 rfl rfl ?_
  refine vi_get 2 rfl f_X0_18 (by assumption) rfl rfl ?_
  refine vi_icmp_eq 3 rfl (by omega) (by omega) (fun c_5 => ?_) (fun c_5 => ?_)
  · refine vi_iconst 6 rfl ?_
    refine vi_istore_n 7 rfl rfl ?_
    exact vi_lc (lp 0 (by omega) (by omega) c_5 (fun m q1 q2 => by omega)) ⟨rfl, rfl, rfl, trivial⟩
  · refine vi_iconst 4 rfl ?_
    exact vi_ireturn 5 rfl rfl rfl (Nat.zero_le _) (Nat.zero_le _) (k0 (fun q => c_5 q.1))
theorem sp_X0_ownNeed {m t r : Int} (hb : wb_Bk w b n c s sd sf bo tu g) (hR : wb_BR n c s sd sf) (hm : 0 ≤ m ∧ m < 8) (ht : -2147483648 ≤ t ∧ t ≤ 2147483647) (hr : 0 ≤ r ∧ r < 25) (hQ : Q (some (.int (wb_i (wb_ow c sd sf m t r)))) N w) : wb_M G M_X0_ownNeed [.ref b, .int (wb_i m), .int (wb_i t), .int (wb_i r)] N w Q := by
  have hb' := hb
  obtain ⟨h0, h1, h2, h3, h4⟩ := hb
  have hR' := hR
  obtain ⟨r1, r2, r3, r4, r5, r6, r7, r8, r9⟩ := hR
  unfold wb_M
  refine vi_iload_n 0 rfl rfl ?_
  refine vi_aload_n 1 rfl rfl ?_
  refine vi_get 2 rfl f_X0_22 (by assumption) rfl rfl ?_
  refine vi_icmp_ne 3 rfl (by omega) (by omega) (fun c_5 => ?_) (fun c_5 => ?_)
  · refine vi_aload_n 10 rfl rfl ?_
    refine vi_iload_n 11 rfl rfl ?_
    refine vi_iload_n 12 rfl rfl ?_
    refine vi_V2 13 ok_X0_needOfPair rfl c_X0_70 (by assumption) rfl rfl ?_
    refine sp_X0_needOfPair ‹_› ‹_› (by omega) (by omega) ?_
    exact vi_ireturn 14 rfl rfl rfl (Nat.zero_le _) (Nat.zero_le _) (wb_e (by unfold wb_ow; first | (rw [if_pos ⟨‹_›, ‹_›⟩]; done) | (rw [if_neg (fun q => c_5 q.1)]; done) | (rw [if_neg (fun q => b_10 q.2)]; done)) hQ)
  · refine vi_aload_n 4 rfl rfl ?_
    refine vi_iload_n 5 rfl rfl ?_
    refine vi_V1 6 ok_X0_standsIn rfl c_X0_66 (by assumption) rfl rfl ?_
    refine sp_X0_standsIn ‹_› ‹_› (by omega) (fun b_10 => ?_) (fun b_10 => ?_)
    · refine vi_if_eq 7 rfl (by omega) (fun c => absurd c (by decide)) (fun _ => ?_)
      refine vi_iconst 8 rfl ?_
      refine vi_goto 9 rfl ?_
      exact vi_ireturn 14 rfl rfl rfl (Nat.zero_le _) (Nat.zero_le _) (wb_e (by unfold wb_ow; first | (rw [if_pos ⟨‹_›, ‹_›⟩]; done) | (rw [if_neg (fun q => c_5 q.1)]; done) | (rw [if_neg (fun q => b_10 q.2)]; done)) hQ)
    · refine vi_if_eq 7 rfl (by omega) (fun _ => ?_) (fun c => absurd c (by decide))
      refine vi_aload_n 10 rfl rfl ?_
      refine vi_iload_n 11 rfl rfl ?_
      refine vi_iload_n 12 rfl rfl ?_
      refine vi_V2 13 ok_X0_needOfPair rfl c_X0_70 (by assumption) rfl rfl ?_
      refine sp_X0_needOfPair ‹_› ‹_› (by omega) (by omega) ?_
      exact vi_ireturn 14 rfl rfl rfl (Nat.zero_le _) (Nat.zero_le _) (wb_e (by unfold wb_ow; first | (rw [if_pos ⟨‹_›, ‹_›⟩]; done) | (rw [if_neg (fun q => c_5 q.1)]; done) | (rw [if_neg (fun q => b_10 q.2)]; done)) hQ)
theorem sp_X0_guestNeed {m t r : Int} (hb : wb_Bk w b n c s sd sf bo tu g) (hR : wb_BR n c s sd sf) (hm : 0 ≤ m ∧ m < 8) (ht : -2147483648 ≤ t ∧ t ≤ 2147483647) (hr : 0 ≤ r ∧ r < 25) (hQ : Q (some (.int (wb_i (wb_gn c sd sf m t r)))) N w) : wb_M G M_X0_guestNeed [.ref b, .int (wb_i m), .int (wb_i t), .int (wb_i r)] N w Q := by
  have hb' := hb
  obtain ⟨h0, h1, h2, h3, h4⟩ := hb
  have hR' := hR
  obtain ⟨r1, r2, r3, r4, r5, r6, r7, r8, r9⟩ := hR
  unfold wb_M
  refine vi_iload_n 0 rfl rfl ?_
  refine vi_aload_n 1 rfl rfl ?_
  refine vi_get 2 rfl f_X0_18 (by assumption) rfl rfl ?_
  refine vi_icmp_ne 3 rfl (by omega) (by omega) (fun c_5 => ?_) (fun c_5 => ?_)
  · refine vi_iconst 13 rfl ?_
    exact vi_ireturn 14 rfl rfl rfl (Nat.zero_le _) (Nat.zero_le _) (wb_e (by unfold wb_gn; first | (rw [if_pos ⟨‹_›, ‹_›⟩]; done) | (rw [if_neg (fun q => c_5 q.1)]; done) | (rw [if_neg (fun q => b_10 q.2)]; done)) hQ)
  · refine vi_aload_n 4 rfl rfl ?_
    refine vi_iload_n 5 rfl rfl ?_
    refine vi_V1 6 ok_X0_standsIn rfl c_X0_66 (by assumption) rfl rfl ?_
    refine sp_X0_standsIn ‹_› ‹_› (by omega) (fun b_10 => ?_) (fun b_10 => ?_)
    · refine vi_if_eq 7 rfl (by omega) (fun c => absurd c (by decide)) (fun _ => ?_)
      refine vi_aload_n 8 rfl rfl ?_
      refine vi_iload_n 9 rfl rfl ?_
      refine vi_iload_n 10 rfl rfl ?_
      refine vi_V2 11 ok_X0_needOfPair rfl c_X0_70 (by assumption) rfl rfl ?_
      refine sp_X0_needOfPair ‹_› ‹_› (by omega) (by omega) ?_
      refine vi_goto 12 rfl ?_
      exact vi_ireturn 14 rfl rfl rfl (Nat.zero_le _) (Nat.zero_le _) (wb_e (by unfold wb_gn; first | (rw [if_pos ⟨‹_›, ‹_›⟩]; done) | (rw [if_neg (fun q => c_5 q.1)]; done) | (rw [if_neg (fun q => b_10 q.2)]; done)) hQ)
    · refine vi_if_eq 7 rfl (by omega) (fun _ => ?_) (fun c => absurd c (by decide))
      refine vi_iconst 13 rfl ?_
      exact vi_ireturn 14 rfl rfl rfl (Nat.zero_le _) (Nat.zero_le _) (wb_e (by unfold wb_gn; first | (rw [if_pos ⟨‹_›, ‹_›⟩]; done) | (rw [if_neg (fun q => c_5 q.1)]; done) | (rw [if_neg (fun q => b_10 q.2)]; done)) hQ)
theorem sp_X0_neededBy {x m t : Int} (hb : wb_Bk w b n c s sd sf bo tu g) (hR : wb_BR n c s sd sf) (hx : 0 ≤ x ∧ x < 15625) (hm : 0 ≤ m ∧ m < 8) (ht : 0 ≤ t ∧ t < 3) (hQ : Q (some (.int (wb_i (wb_ne c sd sf x m t)))) N w) : wb_M G M_X0_neededBy [.ref b, .int (wb_i x), .int (wb_i m), .int (wb_i t)] N w Q := by
  have hb' := hb
  obtain ⟨h0, h1, h2, h3, h4⟩ := hb
  have hR' := hR
  obtain ⟨r1, r2, r3, r4, r5, r6, r7, r8, r9⟩ := hR
  have p1 := wb_pr_rg (x := x) (t := t) hx.1
  have p2 := wb_pr_rg (x := x) (t := sf) hx.1
  unfold wb_M
  refine vi_aload_n 0 rfl rfl ?_
  refine vi_iload_n 1 rfl rfl ?_
  refine vi_iload_n 2 rfl rfl ?_
  refine vi_iload_n 3 rfl rfl ?_
  refine vi_iload_n 4 rfl rfl ?_
  refine vi_S2 5 ok_X11_pairOf rfl c_X0_73 rfl ?_
  refine sp_X11_pairOf (by omega) (by omega) ?_
  refine vi_V3 6 ok_X0_ownNeed rfl c_X0_76 (by assumption) rfl rfl ?_
  refine sp_X0_ownNeed ‹_› ‹_› (by omega) (by omega) (by omega) ?_
  refine vi_aload_n 7 rfl rfl ?_
  refine vi_iload_n 8 rfl rfl ?_
  refine vi_iload_n 9 rfl rfl ?_
  refine vi_iload_n 10 rfl rfl ?_
  refine vi_aload_n 11 rfl rfl ?_
  refine vi_get 12 rfl f_X0_22 (by assumption) rfl rfl ?_
  refine vi_S2 13 ok_X11_pairOf rfl c_X0_73 rfl ?_
  refine sp_X11_pairOf (by omega) (by omega) ?_
  refine vi_V3 14 ok_X0_guestNeed rfl c_X0_80 (by assumption) rfl rfl ?_
  refine sp_X0_guestNeed ‹_› ‹_› (by omega) (by omega) (by omega) ?_
  refine vi_iadd 15 rfl ?_
  exact vi_ireturn 16 rfl rfl rfl (Nat.zero_le _) (Nat.zero_le _) (hQ)
theorem sp_X0_priceOf {p m : Int} (hb : wb_Bk w b n c s sd sf bo tu g) (hR : wb_BR n c s sd sf) (hp : 0 ≤ p ∧ p < 125) (hm : 0 ≤ m ∧ m < 8) (hQ : Q (some (.int (wb_i (wb_pp c m p)))) N w) : wb_M G M_X0_priceOf [.ref b, .int (wb_i p), .int (wb_i m)] N w Q := by
  have hb' := hb
  obtain ⟨h0, h1, h2, h3, h4⟩ := hb
  unfold wb_M
  have lp : ∀ i, i ≤ 3 → ∀ v : Int, 0 ≤ i → v = (if 0 < i then c (9 * m + 6) * wb_am p 0 else 0) + (if 1 < i then c (9 * m + 7) * wb_am p 1 else 0) + (if 2 < i then c (9 * m + 8) * wb_am p 2 else 0) → wb_V G M_X0_priceOf 5 [(0, .ref b), (1, .int (wb_i p)), (2, .int (wb_i m)), (3, .int (wb_i v)), (4, .int (wb_i i))] [] N w 0 0 Q := by
    refine wb_up 3 _ ?_
    intro i ih hi v hi0 hv
    refine vi_iload 4 rfl rfl ?_
    refine vi_iconst 5 rfl ?_
    refine vi_icmp_ge 6 rfl (by omega) (by omega) (fun c_8 => ?_) (fun c_8 => ?_)
    · refine vi_iload_n 22 rfl rfl ?_
      exact vi_ireturn 23 rfl rfl rfl (Nat.zero_le _) (Nat.zero_le _) (wb_e (by rw [hv, show i = 3 by omega]; simp [wb_pp]) hQ)
    · refine vi_iload_n 7 rfl rfl ?_
      refine vi_aload_n 8 rfl rfl ?_
      refine vi_iload_n 9 rfl rfl ?_
      refine vi_bipush 10 rfl (by decide) ?_
      refine vi_iload 11 rfl rfl ?_
      refine vi_iadd 12 rfl ?_
      refine vi_V2 13 ok_X0_cell rfl c_X0_63 (by assumption) rfl rfl ?_
      refine sp_X0_cell ‹_› (by omega) (by omega) ?_
      rw [if_pos (by omega)]
      refine vi_iload_n 14 rfl rfl ?_
      refine vi_iload 15 rfl rfl ?_
      refine vi_S2 16 ok_X11_amountIn rfl c_X0_83 rfl ?_
      refine sp_X11_amountIn (by omega) (by omega) ?_
      refine vi_imul 17 rfl ?_
      refine vi_iadd 18 rfl ?_
      refine vi_istore_n 19 rfl rfl ?_
      refine vi_iinc 20 rfl rfl rfl ?_
      refine vi_goto 21 rfl ?_
      refine vi_lc (ih (i + 1) (by omega) (by omega) (v + c (9 * m + (6 + i)) * wb_am p i) (by omega) ?_) ⟨rfl, rfl, rfl, rfl, rfl, trivial⟩
      rw [hv]
      rcases (show i = 0 ∨ i = 1 ∨ i = 2 by omega) with rfl | rfl | rfl <;> simp
  refine vi_iconst 0 rfl ?_
  refine vi_istore_n 1 rfl rfl ?_
  refine vi_iconst 2 rfl ?_
  refine vi_istore 3 rfl rfl ?_
  exact vi_lc (lp 0 (by omega) 0 (by omega) (by simp)) ⟨rfl, rfl, rfl, rfl, rfl, trivial⟩
variable {b2 : Nat} {n2 : Int} {le mo : Int → Int} {fl fm ho lo L H : Int}
/-- what a flow is set to by a book: of a thing, with all gives more, with doubted months -/
def wb_le (c : Int → Int) (t more dou m : Int) : Int := if wb_bt dou m then 0 else (if 0 < c (9 * m + t) - (c (9 * m + 3) + more) then c (9 * m + t) - (c (9 * m + 3) + more) else 0)
def wb_mt (c : Int → Int) (t more dou m : Int) : Int := if wb_bt dou m then 100000 else c (9 * m + t) + (c (9 * m + 3) + more)
theorem sp_X3_set {t more dou : Int} (hf : wb_Fl w b2 n2 le mo fl fm ho lo L H) (hb : wb_Bk w b n c s sd sf bo tu g) (hR : wb_BR n c s sd sf) (hap : b2 + 3 ≤ b ∨ b + 5 ≤ b2) (ht : 0 ≤ t ∧ t < 3) (hmo : 0 ≤ more ∧ more ≤ 99) (hdo : 0 ≤ dou ∧ dou < 256)
    (hQ : ∀ (w' : wb_W) (le' mo' : Int → Int), (∀ m, 0 ≤ m → m < n → le' m = wb_le c t more dou m ∧ mo' m = wb_mt c t more dou m) → wb_Fl w' b2 n le' mo' (s (4 * t)) (s (4 * t + 1)) (s (4 * t + 2)) (s (4 * t + 3)) L H → (∀ k, (k < b2 ∨ b2 + 3 ≤ k) → w' k = w k) → Q none N w') : wb_M G M_X3_set [.ref b2, .ref b, .int (wb_i t), .int (wb_i more), .int (wb_i dou)] N w Q := by
  obtain ⟨f0, f1, f2⟩ := hf
  have hR' := hR
  obtain ⟨r1, r2, r3, r4, r5, r6, r7, r8, r9⟩ := hR
  unfold wb_M
  have lp : ∀ i, i ≤ n → ∀ (w1 : wb_W) (le1 mo1 : Int → Int), 0 ≤ i → (∀ m, 0 ≤ m → m < i → le1 m = wb_le c t more dou m ∧ mo1 m = wb_mt c t more dou m) → w1 b2 = .inr (3, [.int (wb_i n), .ref (b2 + 1), .ref (b2 + 2), .int (wb_i fl), .int (wb_i fm), .int (wb_i ho), .int (wb_i lo), .int (wb_i L), .int (wb_i H)]) → w1 (b2 + 1) = aI 8 le1 → w1 (b2 + 2) = aI 8 mo1 → (∀ k, (k < b2 ∨ b2 + 3 ≤ k) → w1 k = w k) → wb_V G M_X3_set 16 [(0, .ref b2), (1, .ref b), (2, .int (wb_i t)), (3, .int (wb_i more)), (4, .int (wb_i dou)), (5, .int (wb_i i))] [] N w1 0 0 Q := by
    refine wb_up n _ ?_
    intro i ih hi w1 le1 mo1 hi0 hm1 e0 e1 e2 ef
    have hb1 : wb_Bk w1 b n c s sd sf bo tu g := hb.fr (fun k q1 q2 => ef k (by omega))
    have hb1' := hb1
    obtain ⟨h0, h1, h2, h3, h4⟩ := hb1'
    have q1 := r2 (9 * i + t)
    have q2 := r2 (9 * i + 3)
    have z0 := r3 (4 * t)
    have z1 := r3 (4 * t + 1)
    have z2 := r3 (4 * t + 2)
    have z3 := r3 (4 * t + 3)
    refine vi_iload 8 rfl rfl ?_
    refine vi_aload_n 9 rfl rfl ?_
    refine vi_get 10 rfl f_X3_30 (by assumption) rfl rfl ?_
    refine vi_icmp_ge 11 rfl (by omega) (by omega) (fun c_22 => ?_) (fun c_22 => ?_)
    · refine vi_aload_n 60 rfl rfl ?_
      refine vi_aload_n 61 rfl rfl ?_
      refine vi_iload_n 62 rfl rfl ?_
      refine vi_iconst 63 rfl ?_
      refine vi_V2 64 ok_X0_stockCell rfl c_X3_38 h0 rfl rfl ?_
      refine sp_X0_stockCell ‹_› (by omega) (by omega) ?_
      rw [if_pos (by omega)]
      refine vi_put 65 rfl f_X3_41 e0 rfl rfl rfl rfl ?_
      refine vi_aload_n 66 rfl rfl ?_
      refine vi_aload_n 67 rfl rfl ?_
      refine vi_iload_n 68 rfl rfl ?_
      refine vi_iconst 69 rfl ?_
      refine vi_V2 70 ok_X0_stockCell rfl c_X3_38 ((wb_upn (by omega)).trans h0) rfl rfl ?_
      refine sp_X0_stockCell (hb1.fr (fun k q1 q2 => wb_upn (by omega))) (by omega) (by omega) ?_
      rw [if_pos (by omega)]
      refine vi_put 71 rfl f_X3_44 wb_ups rfl rfl rfl rfl ?_
      refine vi_aload_n 72 rfl rfl ?_
      refine vi_aload_n 73 rfl rfl ?_
      refine vi_iload_n 74 rfl rfl ?_
      refine vi_iconst 75 rfl ?_
      refine vi_V2 76 ok_X0_stockCell rfl c_X3_38 (by rw [wb_upn (by omega), wb_upn (by omega)]; exact h0) rfl rfl ?_
      refine sp_X0_stockCell (hb1.fr (fun k q1 q2 => by rw [wb_upn (by omega), wb_upn (by omega)])) (by omega) (by omega) ?_
      rw [if_pos (by omega)]
      refine vi_put 77 rfl f_X3_47 wb_ups rfl rfl rfl rfl ?_
      refine vi_aload_n 78 rfl rfl ?_
      refine vi_aload_n 79 rfl rfl ?_
      refine vi_iload_n 80 rfl rfl ?_
      refine vi_iconst 81 rfl ?_
      refine vi_V2 82 ok_X0_stockCell rfl c_X3_38 (by rw [wb_upn (by omega), wb_upn (by omega), wb_upn (by omega)]; exact h0) rfl rfl ?_
      refine sp_X0_stockCell (hb1.fr (fun k q1 q2 => by rw [wb_upn (by omega), wb_upn (by omega), wb_upn (by omega)])) (by omega) (by omega) ?_
      rw [if_pos (by omega)]
      refine vi_put 83 rfl f_X3_50 wb_ups rfl rfl rfl rfl ?_
      exact vi_return 84 rfl rfl (Nat.zero_le _) (Nat.zero_le _) (hQ _ le1 mo1 (fun m p1 p2 => hm1 m p1 (by omega)) ⟨wb_ups.trans (by simp [List.set]), by rw [wb_upu, wb_upu, wb_upu, wb_upn (by omega)]; exact e1, by rw [wb_upu, wb_upu, wb_upu, wb_upn (by omega)]; exact e2⟩ (fun k hk => by rw [wb_upu, wb_upu, wb_upu, wb_upn (by omega)]; exact ef k hk))
    · refine vi_iload 12 rfl rfl ?_
      refine vi_iload 13 rfl rfl ?_
      refine vi_ishr 14 rfl ?_
      refine vi_iconst 15 rfl ?_
      refine vi_iand 16 rfl ?_
      rw [wb_sh1 (by omega) (by omega)]
      refine vi_if_eq 17 rfl (by split <;> decide) (fun c_32 => ?_) (fun c_32 => ?_)
      · refine vi_iconst 20 rfl ?_
        refine vi_istore 21 rfl rfl ?_
        refine vi_aload_n 22 rfl rfl ?_
        refine vi_iload 23 rfl rfl ?_
        refine vi_iload_n 24 rfl rfl ?_
        refine vi_V2 25 ok_X0_cell rfl c_X3_31 h0 rfl rfl ?_
        refine sp_X0_cell ‹_› (by omega) (by omega) ?_
        rw [if_pos (by omega)]
        refine vi_istore 26 rfl rfl ?_
        refine vi_aload_n 27 rfl rfl ?_
        refine vi_iload 28 rfl rfl ?_
        refine vi_iconst 29 rfl ?_
        refine vi_V2 30 ok_X0_cell rfl c_X3_31 h0 rfl rfl ?_
        refine sp_X0_cell ‹_› (by omega) (by omega) ?_
        rw [if_pos (by omega)]
        refine vi_iload_n 31 rfl rfl ?_
        refine vi_iadd 32 rfl ?_
        refine vi_istore 33 rfl rfl ?_
        refine vi_aload_n 34 rfl rfl ?_
        refine vi_get 35 rfl f_X3_9 e0 rfl rfl ?_
        refine vi_iload 36 rfl rfl ?_
        refine vi_iload 37 rfl rfl ?_
        refine vi_if_eq 38 rfl (by omega) (fun _ => ?_) (fun c => absurd c (by decide))
        refine vi_iconst 41 rfl ?_
        refine vi_iload 42 rfl rfl ?_
        refine vi_iload 43 rfl rfl ?_
        refine vi_isub 44 rfl ?_
        refine vi_max 45 rfl c_X3_34 rfl (by omega) (by omega) ?_
        refine vi_iast 46 rfl e1 (by omega) ?_
        refine vi_aload_n 47 rfl rfl ?_
        refine vi_get 48 rfl f_X3_15 ((wb_upn (by omega)).trans e0) rfl rfl ?_
        refine vi_iload 49 rfl rfl ?_
        refine vi_iload 50 rfl rfl ?_
        refine vi_if_eq 51 rfl (by omega) (fun _ => ?_) (fun c => absurd c (by decide))
        refine vi_iload 54 rfl rfl ?_
        refine vi_iload 55 rfl rfl ?_
        refine vi_iadd 56 rfl ?_
        refine vi_iast 57 rfl ((wb_upn (by omega)).trans e2) (by omega) ?_
        refine vi_iinc 58 rfl rfl rfl ?_
        refine vi_goto 59 rfl ?_
        refine vi_lc (ih (i + 1) (by omega) (by omega) (va_up (va_up w1 (b2 + 1) _) (b2 + 2) _) _ _ (by omega) ?_ (by rw [wb_upn (by omega), wb_upn (by omega)]; exact e0) (by rw [wb_upn (by omega)]; exact wb_ups) wb_ups (fun k hk => by rw [wb_upn (by omega), wb_upn (by omega)]; exact ef k hk)) ⟨rfl, rfl, rfl, rfl, rfl, rfl, trivial⟩
        intro m p1 p2
        by_cases hmi : m = i
        · subst hmi; rw [wb_us, wb_us]; unfold wb_le wb_mt; split at c_32 <;> simp_all
        · rw [wb_un hmi, wb_un hmi]; exact hm1 m p1 (by omega)
      · refine vi_iconst 18 rfl ?_
        refine vi_goto 19 rfl ?_
        refine vi_istore 21 rfl rfl ?_
        refine vi_aload_n 22 rfl rfl ?_
        refine vi_iload 23 rfl rfl ?_
        refine vi_iload_n 24 rfl rfl ?_
        refine vi_V2 25 ok_X0_cell rfl c_X3_31 h0 rfl rfl ?_
        refine sp_X0_cell ‹_› (by omega) (by omega) ?_
        rw [if_pos (by omega)]
        refine vi_istore 26 rfl rfl ?_
        refine vi_aload_n 27 rfl rfl ?_
        refine vi_iload 28 rfl rfl ?_
        refine vi_iconst 29 rfl ?_
        refine vi_V2 30 ok_X0_cell rfl c_X3_31 h0 rfl rfl ?_
        refine sp_X0_cell ‹_› (by omega) (by omega) ?_
        rw [if_pos (by omega)]
        refine vi_iload_n 31 rfl rfl ?_
        refine vi_iadd 32 rfl ?_
        refine vi_istore 33 rfl rfl ?_
        refine vi_aload_n 34 rfl rfl ?_
        refine vi_get 35 rfl f_X3_9 e0 rfl rfl ?_
        refine vi_iload 36 rfl rfl ?_
        refine vi_iload 37 rfl rfl ?_
        refine vi_if_eq 38 rfl (by omega) (fun c => absurd c (by decide)) (fun _ => ?_)
        refine vi_iconst 39 rfl ?_
        refine vi_goto 40 rfl ?_
        refine vi_iast 46 rfl e1 (by omega) ?_
        refine vi_aload_n 47 rfl rfl ?_
        refine vi_get 48 rfl f_X3_15 ((wb_upn (by omega)).trans e0) rfl rfl ?_
        refine vi_iload 49 rfl rfl ?_
        refine vi_iload 50 rfl rfl ?_
        refine vi_if_eq 51 rfl (by omega) (fun c => absurd c (by decide)) (fun _ => ?_)
        refine vi_ldc 52 rfl k_X3_37 ?_
        refine vi_goto 53 rfl ?_
        refine vi_iast 57 rfl ((wb_upn (by omega)).trans e2) (by omega) ?_
        refine vi_iinc 58 rfl rfl rfl ?_
        refine vi_goto 59 rfl ?_
        refine vi_lc (ih (i + 1) (by omega) (by omega) (va_up (va_up w1 (b2 + 1) _) (b2 + 2) _) _ _ (by omega) ?_ (by rw [wb_upn (by omega), wb_upn (by omega)]; exact e0) (by rw [wb_upn (by omega)]; exact wb_ups) wb_ups (fun k hk => by rw [wb_upn (by omega), wb_upn (by omega)]; exact ef k hk)) ⟨rfl, rfl, rfl, rfl, rfl, rfl, trivial⟩
        intro m p1 p2
        by_cases hmi : m = i
        · subst hmi; rw [wb_us, wb_us]; unfold wb_le wb_mt; split at c_32 <;> simp_all
        · rw [wb_un hmi, wb_un hmi]; exact hm1 m p1 (by omega)
  have e8 : (if n < 8 then n else 8) = n := by split <;> omega
  have hb0 := hb
  obtain ⟨h0, h1, h2, h3, h4⟩ := hb0
  refine vi_aload_n 0 rfl rfl ?_
  refine vi_bipush 1 rfl (by decide) ?_
  refine vi_aload_n 2 rfl rfl ?_
  refine vi_get 3 rfl f_X3_18 h0 rfl rfl ?_
  refine vi_min 4 rfl c_X3_24 rfl (by omega) (by omega) ?_
  rw [e8]
  refine vi_put 5 rfl f_X3_30 f0 rfl rfl rfl rfl ?_
  refine vi_iconst 6 rfl ?_
  refine vi_istore 7 rfl rfl ?_
  exact vi_lc (lp 0 (by omega) (va_up w b2 _) le mo (by omega) (fun m p1 p2 => by omega) wb_ups (by rw [wb_upn (by omega)]; exact f1) (by rw [wb_upn (by omega)]; exact f2) (fun k hk => wb_upn (by omega))) ⟨rfl, rfl, rfl, rfl, rfl, rfl, trivial⟩
end WBS21
