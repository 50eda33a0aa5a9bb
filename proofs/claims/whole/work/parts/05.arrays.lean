/-! ===== rows of arrays, of new cells, of statics and of the script ===== -/
section WBARR
variable {G : wb_G} {M : wb_MD} {pc nx tg : Nat} {l : List (Nat × Value)} {st : List Value} {N : Nat} {w : wb_W} {cc cs : Nat} {Q : Option Value → Nat → wb_W → Prop}
theorem wb_adge {G : wb_G} {q : Nat} (h3 : 3 ≤ q) : wb_gb G ≤ wb_ad G q := by
  unfold wb_ad
  rw [if_neg (by omega)]
  omega
theorem wb_locs {G : wb_G} {locs : List Loc} {q k : Nat} (hf : ∀ x ∈ locs, wb_gb G ≤ x.base) (h3 : 3 ≤ q) : ∀ x ∈ locs ++ [⟨wb_ad G q, k⟩], wb_gb G ≤ x.base := by
  intro x hx
  rcases List.mem_append.mp hx with hx | hx
  · exact hf x hx
  · rw [List.mem_singleton.mp hx]
    exact wb_adge h3
theorem wb_narZ {x : Int} (h : x = 0 ∨ x = 1) : narrow .boolean (.int (wb_i x)) = .int (wb_i x) := by rcases h with rfl | rfl <;> rfl
theorem wb_fitZ {x : Int} (h : x = 0 ∨ x = 1) : fits .boolean (.int (wb_i x)) = true := by rcases h with rfl | rfl <;> rfl
theorem wb_narB {x : Int} (h : -128 ≤ x ∧ x ≤ 127) : narrow .byte (.int (wb_i x)) = .int (wb_i x) := by
  show Value.int (wb_i x).toInt8.toInt32 = .int (wb_i x)
  congr 1
  rw [← wb_i8 h.1 h.2]
  simp

theorem vi_iald (k : Nat) {q n : Nat} {g : Int → Int} {i : Int} (h : (wb_op M)[k]? = some (pc, .iaload, nx, tg)) (hw : w q = aI n g) (hi : 0 ≤ i ∧ i < n ∧ i ≤ 2147483647) (kk : wb_V G M nx l (.int (wb_i (g i)) :: st) N w cc cs Q) : wb_V G M pc l (.int (wb_i i) :: .ref q :: st) N w cc cs Q := by
  intro p e s m args below meth c H locs ls Qe hC hR hl hf hq
  obtain ⟨hd, hs⟩ := wb_opn hC.2.2.2.2.2.2.2.2.2 h
  have hnx : nx = pc + 1 := of_decide_eq_true hs
  subst hnx
  rw [Nat.add_sub_cancel_left] at hd
  obtain ⟨-, -, ha⟩ := hR.at hw (by intro q; unfold wb_no aI at q; cases q)
  have K := kk p e s m args below meth c H locs ls Qe hC hR hl hf hq
  have e1 : wb_i (g (((wb_i i).toNatClampNeg : Nat) : Int)) = wb_i (g i) := by rw [wb_i_cl hi.1 hi.2.2]
  refine va_iald hC.1 hC.2.1 hC.2.2.2.2.2.2.2.2.1.1 (wb_one ha) 0 0 rfl rfl (wb_i_in hi.1 hi.2.1 hi.2.2) hd ?_
  (try dsimp only)
  rw [e1]
  exact K
theorem vi_iast (k : Nat) {q n : Nat} {g : Int → Int} {i x : Int} (h : (wb_op M)[k]? = some (pc, .iastore, nx, tg)) (hw : w q = aI n g) (hi : 0 ≤ i ∧ i < n ∧ i ≤ 2147483647) (kk : wb_V G M nx l st N (va_up w q (aI n (wb_u g i x))) cc cs Q) : wb_V G M pc l (.int (wb_i x) :: .int (wb_i i) :: .ref q :: st) N w cc cs Q := by
  intro p e s m args below meth c H locs ls Qe hC hR hl hf hq
  obtain ⟨hd, hs⟩ := wb_opn hC.2.2.2.2.2.2.2.2.2 h
  have hnx : nx = pc + 1 := of_decide_eq_true hs
  subst hnx
  rw [Nat.add_sub_cancel_left] at hd
  obtain ⟨h3, hqN, ha⟩ := hR.at hw (by intro q; unfold wb_no aI at q; cases q)
  have ecl := wb_i_cl hi.1 hi.2.2
  refine W.iast hC.1 hC.2.1 ha ((hC.2.2.2.2.2.2.2.2.1.1.2 0 _ rfl).1 n (fun j => .int (wb_i (g j)))) (fun q => by cases q) (by show ¬ (_ < 0 ∨ (arrV _ _ _).slots.size ≤ _); rw [arrV_size]; exact wb_i_in hi.1 hi.2.1 hi.2.2) rfl rfl hd fun H1 e1 z oq => ?_
  refine kk p e s m args below meth c H1 _ ls Qe hC (hR.set h3 hqN z oq ?_) hl (wb_locs hf h3) hq
  show H1[wb_ad G q]? = some (vp_cell _ _)
  rw [e1, show wb_tA G (n, Sum.inl fun j : Nat => wb_i (g j)) = (n, Sum.inl fun j : Nat => wb_i (g j)) from rfl, show wb_tA G (n, Sum.inl fun j : Nat => wb_i (wb_u g i x j)) = (n, Sum.inl fun j : Nat => wb_i (wb_u g i x j)) from rfl, vp_cell_i, vp_cell_i, arrV_store]
  congr 2
  funext j
  by_cases hj : j = (wb_i i).toNatClampNeg
  · subst hj
    simp [updV, wb_u, ecl]
  · have : ¬ (j : Int) = i := by omega
    simp [updV, wb_u, hj, this]
theorem vi_zald (k : Nat) {q n : Nat} {g : Int → Int} {i : Int} (h : (wb_op M)[k]? = some (pc, .baload, nx, tg)) (hw : w q = aZ n g) (hi : 0 ≤ i ∧ i < n ∧ i ≤ 2147483647) (kk : wb_V G M nx l (.int (wb_i (g i)) :: st) N w cc cs Q) : wb_V G M pc l (.int (wb_i i) :: .ref q :: st) N w cc cs Q := by
  intro p e s m args below meth c H locs ls Qe hC hR hl hf hq
  obtain ⟨hd, hs⟩ := wb_opn hC.2.2.2.2.2.2.2.2.2 h
  have hnx : nx = pc + 1 := of_decide_eq_true hs
  subst hnx
  rw [Nat.add_sub_cancel_left] at hd
  obtain ⟨-, -, ha⟩ := hR.at hw (by intro q; unfold wb_no aZ at q; cases q)
  have K := kk p e s m args below meth c H locs ls Qe hC hR hl hf hq
  have e1 : wb_i (g (((wb_i i).toNatClampNeg : Nat) : Int)) = wb_i (g i) := by rw [wb_i_cl hi.1 hi.2.2]
  refine va_zald hC.1 hC.2.1 hC.2.2.2.2.2.2.2.2.1.1 (wb_one ha) 0 2 rfl rfl (wb_i_in hi.1 hi.2.1 hi.2.2) hd ?_
  (try dsimp only)
  rw [e1]
  exact K
theorem vi_zast (k : Nat) {q n : Nat} {g : Int → Int} {i x : Int} (h : (wb_op M)[k]? = some (pc, .bastore, nx, tg)) (hw : w q = aZ n g) (hi : 0 ≤ i ∧ i < n ∧ i ≤ 2147483647) (hx : x = 0 ∨ x = 1) (kk : wb_V G M nx l st N (va_up w q (aZ n (wb_u g i x))) cc cs Q) : wb_V G M pc l (.int (wb_i x) :: .int (wb_i i) :: .ref q :: st) N w cc cs Q := by
  intro p e s m args below meth c H locs ls Qe hC hR hl hf hq
  obtain ⟨hd, hs⟩ := wb_opn hC.2.2.2.2.2.2.2.2.2 h
  have hnx : nx = pc + 1 := of_decide_eq_true hs
  subst hnx
  rw [Nat.add_sub_cancel_left] at hd
  obtain ⟨h3, hqN, ha⟩ := hR.at hw (by intro q; unfold wb_no aZ at q; cases q)
  have ecl := wb_i_cl hi.1 hi.2.2
  refine W.zast hC.1 hC.2.1 ha ((hC.2.2.2.2.2.2.2.2.1.1.2 2 _ rfl).1 n (fun j => .int (wb_i (g j)))) (fun q => by cases q) (by show ¬ (_ < 0 ∨ (arrV _ _ _).slots.size ≤ _); rw [arrV_size]; exact wb_i_in hi.1 hi.2.1 hi.2.2) rfl rfl hd fun H1 e1 z oq => ?_
  refine kk p e s m args below meth c H1 _ ls Qe hC (hR.set h3 hqN z oq ?_) hl (wb_locs hf h3) hq
  show H1[wb_ad G q]? = some (vp_cell _ _)
  rw [e1, wb_narZ hx, show wb_tA G (n, Sum.inl fun j : Nat => wb_i (g j)) = (n, Sum.inl fun j : Nat => wb_i (g j)) from rfl, show wb_tA G (n, Sum.inl fun j : Nat => wb_i (wb_u g i x j)) = (n, Sum.inl fun j : Nat => wb_i (wb_u g i x j)) from rfl, vp_cell_i, vp_cell_i, arrV_store]
  congr 2
  funext j
  by_cases hj : j = (wb_i i).toNatClampNeg
  · subst hj
    simp [updV, wb_u, ecl]
  · have : ¬ (j : Int) = i := by omega
    simp [updV, wb_u, hj, this]
theorem vi_bald (k : Nat) {q n : Nat} {g : Int → Int} {i : Int} (h : (wb_op M)[k]? = some (pc, .baload, nx, tg)) (hw : w q = aB n g) (hi : 0 ≤ i ∧ i < n ∧ i ≤ 2147483647) (kk : wb_V G M nx l (.int (wb_i (g i)) :: st) N w cc cs Q) : wb_V G M pc l (.int (wb_i i) :: .ref q :: st) N w cc cs Q := by
  intro p e s m args below meth c H locs ls Qe hC hR hl hf hq
  obtain ⟨hd, hs⟩ := wb_opn hC.2.2.2.2.2.2.2.2.2 h
  have hnx : nx = pc + 1 := of_decide_eq_true hs
  subst hnx
  rw [Nat.add_sub_cancel_left] at hd
  obtain ⟨-, -, ha⟩ := hR.at hw (by intro q; unfold wb_no aB at q; cases q)
  have K := kk p e s m args below meth c H locs ls Qe hC hR hl hf hq
  have e1 : wb_i (g (((wb_i i).toNatClampNeg : Nat) : Int)) = wb_i (g i) := by rw [wb_i_cl hi.1 hi.2.2]
  refine va_bald hC.1 hC.2.1 hC.2.2.2.2.2.2.2.2.1.1 (wb_one ha) 0 3 rfl rfl (wb_i_in hi.1 hi.2.1 hi.2.2) hd ?_
  (try dsimp only)
  rw [e1]
  exact K
theorem vi_bast (k : Nat) {q n : Nat} {g : Int → Int} {i x : Int} (h : (wb_op M)[k]? = some (pc, .bastore, nx, tg)) (hw : w q = aB n g) (hi : 0 ≤ i ∧ i < n ∧ i ≤ 2147483647) (hx : -128 ≤ x ∧ x ≤ 127) (kk : wb_V G M nx l st N (va_up w q (aB n (wb_u g i x))) cc cs Q) : wb_V G M pc l (.int (wb_i x) :: .int (wb_i i) :: .ref q :: st) N w cc cs Q := by
  intro p e s m args below meth c H locs ls Qe hC hR hl hf hq
  obtain ⟨hd, hs⟩ := wb_opn hC.2.2.2.2.2.2.2.2.2 h
  have hnx : nx = pc + 1 := of_decide_eq_true hs
  subst hnx
  rw [Nat.add_sub_cancel_left] at hd
  obtain ⟨h3, hqN, ha⟩ := hR.at hw (by intro q; unfold wb_no aB at q; cases q)
  have ecl := wb_i_cl hi.1 hi.2.2
  refine W.bast hC.1 hC.2.1 ha ((hC.2.2.2.2.2.2.2.2.1.1.2 3 _ rfl).1 n (fun j => .int (wb_i (g j)))) (fun q => by cases q) (by show ¬ (_ < 0 ∨ (arrV _ _ _).slots.size ≤ _); rw [arrV_size]; exact wb_i_in hi.1 hi.2.1 hi.2.2) rfl rfl hd fun H1 e1 z oq => ?_
  refine kk p e s m args below meth c H1 _ ls Qe hC (hR.set h3 hqN z oq ?_) hl (wb_locs hf h3) hq
  show H1[wb_ad G q]? = some (vp_cell _ _)
  rw [e1, wb_narB hx, show wb_tA G (n, Sum.inl fun j : Nat => wb_i (g j)) = (n, Sum.inl fun j : Nat => wb_i (g j)) from rfl, show wb_tA G (n, Sum.inl fun j : Nat => wb_i (wb_u g i x j)) = (n, Sum.inl fun j : Nat => wb_i (wb_u g i x j)) from rfl, vp_cell_i, vp_cell_i, arrV_store]
  congr 2
  funext j
  by_cases hj : j = (wb_i i).toNatClampNeg
  · subst hj
    simp [updV, wb_u, ecl]
  · have : ¬ (j : Int) = i := by omega
    simp [updV, wb_u, hj, this]
theorem vi_lald (k : Nat) {q n : Nat} {g : Int → Int64} {i : Int} (h : (wb_op M)[k]? = some (pc, .laload, nx, tg)) (hw : w q = aL n g) (hi : 0 ≤ i ∧ i < n ∧ i ≤ 2147483647) (kk : wb_V G M nx l (.long (g i) :: st) N w cc cs Q) : wb_V G M pc l (.int (wb_i i) :: .ref q :: st) N w cc cs Q := by
  intro p e s m args below meth c H locs ls Qe hC hR hl hf hq
  obtain ⟨hd, hs⟩ := wb_opn hC.2.2.2.2.2.2.2.2.2 h
  have hnx : nx = pc + 1 := of_decide_eq_true hs
  subst hnx
  rw [Nat.add_sub_cancel_left] at hd
  obtain ⟨-, -, ha⟩ := hR.at hw (by intro q; unfold wb_no aL at q; cases q)
  have K := kk p e s m args below meth c H locs ls Qe hC hR hl hf hq
  have e1 : g (((wb_i i).toNatClampNeg : Nat) : Int) = g i := by rw [wb_i_cl hi.1 hi.2.2]
  refine va_lald hC.1 hC.2.1 hC.2.2.2.2.2.2.2.2.1.1 (wb_one ha) 0 1 rfl rfl (wb_i_in hi.1 hi.2.1 hi.2.2) hd ?_
  (try dsimp only)
  rw [e1]
  exact K
theorem vi_last (k : Nat) {q n : Nat} {g : Int → Int64} {i : Int} {x : Int64} (h : (wb_op M)[k]? = some (pc, .lastore, nx, tg)) (hw : w q = aL n g) (hi : 0 ≤ i ∧ i < n ∧ i ≤ 2147483647) (kk : wb_V G M nx l st N (va_up w q (aL n (wb_u g i x))) cc cs Q) : wb_V G M pc l (.long x :: .int (wb_i i) :: .ref q :: st) N w cc cs Q := by
  intro p e s m args below meth c H locs ls Qe hC hR hl hf hq
  obtain ⟨hd, hs⟩ := wb_opn hC.2.2.2.2.2.2.2.2.2 h
  have hnx : nx = pc + 1 := of_decide_eq_true hs
  subst hnx
  rw [Nat.add_sub_cancel_left] at hd
  obtain ⟨h3, hqN, ha⟩ := hR.at hw (by intro q; unfold wb_no aL at q; cases q)
  have ecl := wb_i_cl hi.1 hi.2.2
  refine W.last hC.1 hC.2.1 ha ((hC.2.2.2.2.2.2.2.2.1.1.2 1 _ rfl).1 n (fun j => .long (g j))) (fun q => by cases q) (by show ¬ (_ < 0 ∨ (arrV _ _ _).slots.size ≤ _); rw [arrV_size]; exact wb_i_in hi.1 hi.2.1 hi.2.2) rfl rfl hd fun H1 e1 z oq => ?_
  refine kk p e s m args below meth c H1 _ ls Qe hC (hR.set h3 hqN z oq ?_) hl (wb_locs hf h3) hq
  show H1[wb_ad G q]? = some (vp_cell _ _)
  rw [e1, show wb_tA G (n, Sum.inr (Sum.inl fun j : Nat => g j)) = (n, Sum.inr (Sum.inl fun j : Nat => g j)) from rfl, show wb_tA G (n, Sum.inr (Sum.inl fun j : Nat => wb_u g i x j)) = (n, Sum.inr (Sum.inl fun j : Nat => wb_u g i x j)) from rfl, vp_cell_l, vp_cell_l, arrV_store]
  congr 2
  funext j
  by_cases hj : j = (wb_i i).toNatClampNeg
  · subst hj
    simp [updV, wb_u, ecl]
  · have : ¬ (j : Int) = i := by omega
    simp [updV, wb_u, hj, this]
theorem vi_alen (k : Nat) {q t n : Nat} {b : (Nat → Int32) ⊕ (Nat → Int64) ⊕ (Nat → UInt32) ⊕ (Nat → UInt64) ⊕ (Nat → Option Nat)} (h : (wb_op M)[k]? = some (pc, .arraylength, nx, tg)) (hw : w q = .inl (t, n, b)) (ht : Nat.blt t 6 = true) (kk : wb_V G M nx l (.int (wb_i n) :: st) N w cc cs Q) : wb_V G M pc l (.ref q :: st) N w cc cs Q := by
  intro p e s m args below meth c H locs ls Qe hC hR hl hf hq
  obtain ⟨hd, hs⟩ := wb_opn hC.2.2.2.2.2.2.2.2.2 h
  have hnx : nx = pc + 1 := of_decide_eq_true hs
  subst hnx
  rw [Nat.add_sub_cancel_left] at hd
  obtain ⟨-, -, ha⟩ := hR.at hw (by intro q; unfold wb_no at q; cases q)
  have K := kk p e s m args below meth c H locs ls Qe hC hR hl hf hq
  obtain ⟨ty, hty⟩ : ∃ ty, (wb_ty G)[t]? = some (wb_gc G t, ty) := by
    have := wb_lt ht
    rcases (show t = 0 ∨ t = 1 ∨ t = 2 ∨ t = 3 ∨ t = 4 ∨ t = 5 by omega) with rfl | rfl | rfl | rfl | rfl | rfl <;> exact ⟨_, rfl⟩
  have hlen : (wb_tA G (n, b)).1 = n := by unfold wb_tA; split <;> simp_all
  refine va_alen (tys := wb_ty G) hC.1 hC.2.1 hC.2.2.2.2.2.2.2.2.1.1 (wb_one ha) 0 t rfl hty (v := wb_i n) ?_ hd K
  rw [hlen, wb_i_nat]
  rfl
/-- the arrays that lie below the base: the script, STOCK_MOST, CELL_MOST -/
theorem vi_xald (k : Nat) {q : Nat} {i : Int} (h : (wb_op M)[k]? = some (pc, .iaload, nx, tg)) (hq3 : Nat.blt q 3 = true) (hi : 0 ≤ i ∧ i < wb_xL G q ∧ i ≤ 2147483647) (kk : wb_V G M nx l (.int (wb_xF G q i.toNat) :: st) N w cc cs Q) : wb_V G M pc l (.int (wb_i i) :: .ref q :: st) N w cc cs Q := by
  intro p e s m args below meth c H locs ls Qe hC hR hl hf hq
  obtain ⟨hd, hs⟩ := wb_opn hC.2.2.2.2.2.2.2.2.2 h
  have hnx : nx = pc + 1 := of_decide_eq_true hs
  subst hnx
  rw [Nat.add_sub_cancel_left] at hd
  obtain ⟨scr, h1, h2, h3, h4, h5, h6⟩ := (hR.2.2.2.1 q (wb_lt hq3)).2
  have K := kk p e s m args below meth c H locs ls Qe hC hR hl hf hq
  have ecl := wb_i_cl hi.1 hi.2.2
  have ecn : (wb_i i).toNatClampNeg = i.toNat := by omega
  have had : wb_ad G q = wb_gx G q := by unfold wb_ad; rw [if_pos (wb_lt hq3)]
  refine W.iald (a := wb_ad G q) (cell := scr) (v := .int (wb_xF G q i.toNat)) hC.1 hC.2.1 (by rw [had]; exact h1) h2 h3 (fun z => wb_i_in hi.1 hi.2.1 hi.2.2 (z.elim Or.inl (fun q => Or.inr (Nat.le_trans h4 q)))) (by rw [ecn]; exact h6 _ (by omega)) rfl rfl hd K
theorem vi_xlen (k : Nat) {q : Nat} (h : (wb_op M)[k]? = some (pc, .arraylength, nx, tg)) (hq3 : Nat.blt q 3 = true) (kk : wb_V G M nx l (.int (wb_i (wb_xL G q)) :: st) N w cc cs Q) : wb_V G M pc l (.ref q :: st) N w cc cs Q := by
  intro p e s m args below meth c H locs ls Qe hC hR hl hf hq
  obtain ⟨hd, hs⟩ := wb_opn hC.2.2.2.2.2.2.2.2.2 h
  have hnx : nx = pc + 1 := of_decide_eq_true hs
  subst hnx
  rw [Nat.add_sub_cancel_left] at hd
  obtain ⟨scr, h1, h2, h3, h4, h5, h6⟩ := (hR.2.2.2.1 q (wb_lt hq3)).2
  have K := kk p e s m args below meth c H locs ls Qe hC hR hl hf hq
  have had : wb_ad G q = wb_gx G q := by unfold wb_ad; rw [if_pos (wb_lt hq3)]
  refine W.alen (a := wb_ad G q) (cell := scr) (n := wb_i (wb_xL G q)) hC.1 hC.2.1 (by rw [had]; exact h1) h2 (by rw [h5, wb_i_nat]; rfl) rfl rfl hd K
theorem vi_gets (k : Nat) {idx q : Nat} {nm : String} (h : (wb_op M)[k]? = some (pc, .getstatic idx, nx, tg)) (hL : wb_fl (wb_nm M).cls idx RX11 nm "[I") (hx : (nm = "STOCK_MOST" ∧ q = 1) ∨ (nm = "CELL_MOST" ∧ q = 2)) (kk : wb_V G M nx l (.ref q :: st) N w cc cs Q) : wb_V G M pc l st N w cc cs Q := by
  intro p e s m args below meth c H locs ls Qe hC hR hl hf hq
  obtain ⟨hd, hs⟩ := wb_opn hC.2.2.2.2.2.2.2.2.2 h
  have hnx : nx = pc + 3 := of_decide_eq_true hs
  subst hnx
  rw [Nat.add_sub_cancel_left] at hd
  have K := kk p e s m args below meth c H locs ls Qe hC hR hl hf hq
  have hZ : va_Z RX11 nm "[I" (.ref (wb_gx G q)) (fun q => wb_gb G ≤ q) s H := by
    rcases hx with ⟨rfl, rfl⟩ | ⟨rfl, rfl⟩
    · exact hR.2.2.2.2.1
    · exact hR.2.2.2.2.2.1
  have had : wb_tr G (.ref q) = .ref (wb_gx G q) := by
    have : q < 3 := by rcases hx with ⟨-, rfl⟩ | ⟨-, rfl⟩ <;> omega
    unfold wb_tr wb_ad
    simp [this]
  rw [List.map_cons, had] at K
  obtain ⟨cf, kf, fi, f, a, cell, h1, h2, h3, h4, h5, h6, h7, h8⟩ := hZ
  rcases hL with hlk | ⟨host, hlk⟩
  · exact W.gets hC.1 hC.2.1 hC.2.2.2.2.2.2.1 (hC.2.2.2.2.2.2.2.1 _ hlk) h1 h2 h3 h4 h5 (fun e => by rw [e] at h6; cases h6) h7 rfl hd K
  · exact va_WgetsN hC.1 hC.2.1 hC.2.2.2.2.2.2.1 (va_Nw.use rfl (hC.2.2.2.2.2.2.2.2.1.2.1 _ hlk)) h1 h2 h3 h4 h5 (fun e => by rw [e] at h6; cases h6) h7 rfl hd K
theorem vi_new (k : Nat) {idx ci : Nat} {fs : List Value} (h : (wb_op M)[k]? = some (pc, .new idx, nx, tg)) (hL : wb_LN (wb_nm M).cls idx ci fs) (hnr : fs.map (wb_tr G) = fs) (h1 : Nat.ble (cc + 1) (wb_rm M).cells = true) (h2 : Nat.ble (cs + fs.length) (wb_rm M).slots = true) (kk : wb_V G M nx l (.ref N :: st) (N + 1) (va_up w N (.inr (ci, fs))) (cc + 1) (cs + fs.length) Q) : wb_V G M pc l st N w cc cs Q := by
  intro p e s m args below meth c H locs ls Qe hC hR hl hf hq
  obtain ⟨hd, hs⟩ := wb_opn hC.2.2.2.2.2.2.2.2.2 h
  have hnx : nx = pc + 3 := of_decide_eq_true hs
  subst hnx
  rw [Nat.add_sub_cancel_left] at hd
  obtain ⟨C, T, ty, hCL, hcl, hfs⟩ := hL
  have hK := hC.2.2.2.2.2.2.2.2.1.1
  have hts := hC.2.2.2.2.2.2.2.1
  have hKn := hK.1 ci _ hCL.1
  refine W.newcK hC.1 hC.2.1 hC.2.2.2.2.2.2.1 (hts _ hcl) (hts _ hCL.2.2.2.2.1) (hts _ hCL.2.2.2.2.2) rfl hd (Nat.le_of_ble_eq_true h1) (Nat.le_of_ble_eq_true h2) hKn.2.1 rfl fun H1 kC hkC e1 z1 o1 => ?_
  have hadN : wb_ad G N = H.size := by unfold wb_ad; rw [if_neg (by have := hR.1; omega), hR.2.1]
  have K := kk p e s m args below meth c H1 locs ls Qe hC (hR.push z1 o1 ⟨_, hCL.1, by rw [hnr]; exact (u_born ty hts hCL.2.1 hKn hkC e1 hCL.2.2.1).to hfs⟩) hl hf hq
  rw [List.map_cons, show wb_tr G (.ref N) = .ref H.size from congrArg Value.ref hadN] at K
  exact K

theorem vi_newaI (k : Nat) {i : Int} (n : Nat) (h : (wb_op M)[k]? = some (pc, .newarray .int, nx, tg)) (hL : Cond.arrayClass .int ∈ wb_GW) (hn : i = n) (hn2 : n ≤ 65536) (h1 : Nat.ble (cc + 1) (wb_rm M).cells = true) (h2 : Nat.ble (cs + n) (wb_rm M).slots = true) (kk : wb_V G M nx l (.ref N :: st) (N + 1) (va_up w N (aI n (fun _ => 0))) (cc + 1) (cs + n) Q) : wb_V G M pc l (.int (wb_i i) :: st) N w cc cs Q := by
  intro p e s m args below meth c H locs ls Qe hC hR hl hf hq
  obtain ⟨hd, hs⟩ := wb_opn hC.2.2.2.2.2.2.2.2.2 h
  have hnx : nx = pc + 2 := of_decide_eq_true hs
  subst hnx
  rw [Nat.add_sub_cancel_left] at hd
  subst hn
  have ecl := wb_i_cl (a := (n : Int)) (by omega) (by omega)
  have hK := hC.2.2.2.2.2.2.2.2.1.1
  refine va_newaK (atype := .int) hC.1 hC.2.1 (hC.2.2.2.2.2.2.2.1 _ hL) rfl hd rfl (N := n) (by rw [show (0 : Int32) = wb_i 0 from rfl, wb_i_lt (by omega) (by omega)]; omega) (by omega) (by show n * _ ≤ _; simp only [newarray.typeOf, componentBytes]; omega) (Nat.le_of_ble_eq_true h1) (Nat.le_of_ble_eq_true h2) rfl fun H1 cA e1 z1 o1 hAr hNm => ?_
  have hcA : cA = wb_gc G 0 := Option.some.inj (hNm.symm.trans (hK.2 0 _ rfl).2)
  subst hcA
  have hadN : wb_ad G N = H.size := by unfold wb_ad; rw [if_neg (by have := hR.1; omega), hR.2.1]
  have K := kk p e s m args below meth c H1 locs ls Qe hC (hR.push z1 o1 (by show H1[H.size]? = some (vp_cell _ _); exact e1)) hl hf hq
  rw [List.map_cons, show wb_tr G (.ref N) = .ref H.size from congrArg Value.ref hadN] at K
  exact K
theorem vi_newaZ (k : Nat) {i : Int} (n : Nat) (h : (wb_op M)[k]? = some (pc, .newarray .boolean, nx, tg)) (hL : Cond.arrayClass .boolean ∈ wb_GW) (hn : i = n) (hn2 : n ≤ 65536) (h1 : Nat.ble (cc + 1) (wb_rm M).cells = true) (h2 : Nat.ble (cs + n) (wb_rm M).slots = true) (kk : wb_V G M nx l (.ref N :: st) (N + 1) (va_up w N (aZ n (fun _ => 0))) (cc + 1) (cs + n) Q) : wb_V G M pc l (.int (wb_i i) :: st) N w cc cs Q := by
  intro p e s m args below meth c H locs ls Qe hC hR hl hf hq
  obtain ⟨hd, hs⟩ := wb_opn hC.2.2.2.2.2.2.2.2.2 h
  have hnx : nx = pc + 2 := of_decide_eq_true hs
  subst hnx
  rw [Nat.add_sub_cancel_left] at hd
  subst hn
  have ecl := wb_i_cl (a := (n : Int)) (by omega) (by omega)
  have hK := hC.2.2.2.2.2.2.2.2.1.1
  refine va_newaK (atype := .boolean) hC.1 hC.2.1 (hC.2.2.2.2.2.2.2.1 _ hL) rfl hd rfl (N := n) (by rw [show (0 : Int32) = wb_i 0 from rfl, wb_i_lt (by omega) (by omega)]; omega) (by omega) (by show n * _ ≤ _; simp only [newarray.typeOf, componentBytes]; omega) (Nat.le_of_ble_eq_true h1) (Nat.le_of_ble_eq_true h2) rfl fun H1 cA e1 z1 o1 hAr hNm => ?_
  have hcA : cA = wb_gc G 2 := Option.some.inj (hNm.symm.trans (hK.2 2 _ rfl).2)
  subst hcA
  have hadN : wb_ad G N = H.size := by unfold wb_ad; rw [if_neg (by have := hR.1; omega), hR.2.1]
  have K := kk p e s m args below meth c H1 locs ls Qe hC (hR.push z1 o1 (by show H1[H.size]? = some (vp_cell _ _); exact e1)) hl hf hq
  rw [List.map_cons, show wb_tr G (.ref N) = .ref H.size from congrArg Value.ref hadN] at K
  exact K
theorem vi_newaB (k : Nat) {i : Int} (n : Nat) (h : (wb_op M)[k]? = some (pc, .newarray .byte, nx, tg)) (hL : Cond.arrayClass .byte ∈ wb_GW) (hn : i = n) (hn2 : n ≤ 65536) (h1 : Nat.ble (cc + 1) (wb_rm M).cells = true) (h2 : Nat.ble (cs + n) (wb_rm M).slots = true) (kk : wb_V G M nx l (.ref N :: st) (N + 1) (va_up w N (aB n (fun _ => 0))) (cc + 1) (cs + n) Q) : wb_V G M pc l (.int (wb_i i) :: st) N w cc cs Q := by
  intro p e s m args below meth c H locs ls Qe hC hR hl hf hq
  obtain ⟨hd, hs⟩ := wb_opn hC.2.2.2.2.2.2.2.2.2 h
  have hnx : nx = pc + 2 := of_decide_eq_true hs
  subst hnx
  rw [Nat.add_sub_cancel_left] at hd
  subst hn
  have ecl := wb_i_cl (a := (n : Int)) (by omega) (by omega)
  have hK := hC.2.2.2.2.2.2.2.2.1.1
  refine va_newaK (atype := .byte) hC.1 hC.2.1 (hC.2.2.2.2.2.2.2.1 _ hL) rfl hd rfl (N := n) (by rw [show (0 : Int32) = wb_i 0 from rfl, wb_i_lt (by omega) (by omega)]; omega) (by omega) (by show n * _ ≤ _; simp only [newarray.typeOf, componentBytes]; omega) (Nat.le_of_ble_eq_true h1) (Nat.le_of_ble_eq_true h2) rfl fun H1 cA e1 z1 o1 hAr hNm => ?_
  have hcA : cA = wb_gc G 3 := Option.some.inj (hNm.symm.trans (hK.2 3 _ rfl).2)
  subst hcA
  have hadN : wb_ad G N = H.size := by unfold wb_ad; rw [if_neg (by have := hR.1; omega), hR.2.1]
  have K := kk p e s m args below meth c H1 locs ls Qe hC (hR.push z1 o1 (by show H1[H.size]? = some (vp_cell _ _); exact e1)) hl hf hq
  rw [List.map_cons, show wb_tr G (.ref N) = .ref H.size from congrArg Value.ref hadN] at K
  exact K
theorem vi_newaL (k : Nat) {i : Int} (n : Nat) (h : (wb_op M)[k]? = some (pc, .newarray .long, nx, tg)) (hL : Cond.arrayClass .long ∈ wb_GW) (hn : i = n) (hn2 : n ≤ 65536) (h1 : Nat.ble (cc + 1) (wb_rm M).cells = true) (h2 : Nat.ble (cs + n) (wb_rm M).slots = true) (kk : wb_V G M nx l (.ref N :: st) (N + 1) (va_up w N (aL n (fun _ => 0))) (cc + 1) (cs + n) Q) : wb_V G M pc l (.int (wb_i i) :: st) N w cc cs Q := by
  intro p e s m args below meth c H locs ls Qe hC hR hl hf hq
  obtain ⟨hd, hs⟩ := wb_opn hC.2.2.2.2.2.2.2.2.2 h
  have hnx : nx = pc + 2 := of_decide_eq_true hs
  subst hnx
  rw [Nat.add_sub_cancel_left] at hd
  subst hn
  have ecl := wb_i_cl (a := (n : Int)) (by omega) (by omega)
  have hK := hC.2.2.2.2.2.2.2.2.1.1
  refine va_newaK (atype := .long) hC.1 hC.2.1 (hC.2.2.2.2.2.2.2.1 _ hL) rfl hd rfl (N := n) (by rw [show (0 : Int32) = wb_i 0 from rfl, wb_i_lt (by omega) (by omega)]; omega) (by omega) (by show n * _ ≤ _; simp only [newarray.typeOf, componentBytes]; omega) (Nat.le_of_ble_eq_true h1) (Nat.le_of_ble_eq_true h2) rfl fun H1 cA e1 z1 o1 hAr hNm => ?_
  have hcA : cA = wb_gc G 1 := Option.some.inj (hNm.symm.trans (hK.2 1 _ rfl).2)
  subst hcA
  have hadN : wb_ad G N = H.size := by unfold wb_ad; rw [if_neg (by have := hR.1; omega), hR.2.1]
  have K := kk p e s m args below meth c H1 locs ls Qe hC (hR.push z1 o1 (by show H1[H.size]? = some (vp_cell _ _); exact e1)) hl hf hq
  rw [List.map_cons, show wb_tr G (.ref N) = .ref H.size from congrArg Value.ref hadN] at K
  exact K
theorem vi_anew (k : Nat) {idx t : Nat} {i : Int} {C : String} (n : Nat) (h : (wb_op M)[k]? = some (pc, .anewarray idx, nx, tg)) (hL : Cond.classLink (wb_nm M).cls idx C ∈ wb_GW) (ht : (t = 4 ∧ C = RX0) ∨ (t = 5 ∧ C = RX2)) (hn : i = n) (hn2 : n ≤ 65536) (h1 : Nat.ble (cc + 1) (wb_rm M).cells = true) (h2 : Nat.ble (cs + n) (wb_rm M).slots = true) (kk : wb_V G M nx l (.ref N :: st) (N + 1) (va_up w N (aQ t n (fun _ => none))) (cc + 1) (cs + n) Q) : wb_V G M pc l (.int (wb_i i) :: st) N w cc cs Q := by
  intro p e s m args below meth c H locs ls Qe hC hR hl hf hq
  obtain ⟨hd, hs⟩ := wb_opn hC.2.2.2.2.2.2.2.2.2 h
  have hnx : nx = pc + 3 := of_decide_eq_true hs
  subst hnx
  rw [Nat.add_sub_cancel_left] at hd
  subst hn
  have ecl := wb_i_cl (a := (n : Int)) (by omega) (by omega)
  have ecn : (wb_i (n : Int)).toNatClampNeg = n := by omega
  have hK := hC.2.2.2.2.2.2.2.2.1.1
  have hAO : va_AO C s := by
    rcases ht with ⟨-, rfl⟩ | ⟨-, rfl⟩
    · exact hC.2.2.2.2.2.2.2.2.1.2.2.1
    · exact hC.2.2.2.2.2.2.2.2.1.2.2.2
  have hRA : s.vm.findClass ("[" ++ (FieldType.object C).toString) = some (wb_gc G t) := by
    rcases ht with ⟨rfl, rfl⟩ | ⟨rfl, rfl⟩
    · obtain ⟨_, _, _, _, _, h⟩ := (hK.2 4 _ rfl).2
      exact h
    · obtain ⟨_, _, _, _, _, h⟩ := (hK.2 5 _ rfl).2
      exact h
  refine W.anew hC.1 hC.2.1 hC.2.2.2.2.2.2.1 (hC.2.2.2.2.2.2.2.1 _ hL) (va_AO.use hAO) rfl hd rfl (by rw [show (0 : Int32) = wb_i 0 from rfl, wb_i_lt (by omega) (by omega)]; omega) (by omega) (Nat.le_of_ble_eq_true h1) (by rw [ecn]; exact Nat.le_of_ble_eq_true h2) fun cA kA comp f1 f2 f3 f4 => ?_
  have hcA : cA = wb_gc G t := Option.some.inj (f1.symm.trans hRA)
  subst hcA
  rw [ecn]
  have hadN : wb_ad G N = H.size := by unfold wb_ad; rw [if_neg (by have := hR.1; omega), hR.2.1]
  have K := kk p e s m args below meth c (H.push ({ cls := wb_gc G t, slots := Array.replicate n .null, vm := .none } : Cell)) locs ls Qe hC (hR.push (by rw [Array.size_push]) (fun q hq => by rw [Array.getElem?_push, if_neg (Nat.ne_of_lt hq)]) (by show (H.push _)[H.size]? = some (vp_cell _ _); rw [Array.getElem?_push_size, arrV_new]; rfl)) hl hf hq
  rw [List.map_cons, show wb_tr G (.ref N) = .ref H.size from congrArg Value.ref hadN] at K
  exact K
theorem vi_aald (k : Nat) {q t n r : Nat} {g : Nat → Option Nat} {i : Int} (h : (wb_op M)[k]? = some (pc, .aaload, nx, tg)) (hw : w q = aQ t n g) (ht : t = 4 ∨ t = 5) (hi : 0 ≤ i ∧ i < n ∧ i ≤ 2147483647) (hg : g i.toNat = some r) (kk : wb_V G M nx l (.ref r :: st) N w cc cs Q) : wb_V G M pc l (.int (wb_i i) :: .ref q :: st) N w cc cs Q := by
  intro p e s m args below meth c H locs ls Qe hC hR hl hf hq
  obtain ⟨hd, hs⟩ := wb_opn hC.2.2.2.2.2.2.2.2.2 h
  have hnx : nx = pc + 1 := of_decide_eq_true hs
  subst hnx
  rw [Nat.add_sub_cancel_left] at hd
  obtain ⟨-, -, ha⟩ := hR.at hw (by intro q; unfold wb_no aQ at q; cases q)
  have K := kk p e s m args below meth c H locs ls Qe hC hR hl hf hq
  have ecl := wb_i_cl hi.1 hi.2.2
  have ecn : (wb_i i).toNatClampNeg = i.toNat := by omega
  have e2 : va_rf ((g (wb_i i).toNatClampNeg).map (wb_ad G)) = .ref (wb_ad G r) := by rw [ecn, hg]; rfl
  obtain ⟨C, hC2⟩ : ∃ C, (wb_ty G)[t]? = some (wb_gc G t, .object C) := by rcases ht with rfl | rfl <;> exact ⟨_, rfl⟩
  refine va_aldq (tys := wb_ty G) hC.1 hC.2.1 hC.2.2.2.2.2.2.2.2.1.1 (wb_one ha) 0 t rfl hC2 (wb_i_in hi.1 hi.2.1 hi.2.2) hd ?_
  (try dsimp only)
  rw [e2]
  exact K
theorem vi_aast (k : Nat) {q t n r ci : Nat} {g : Nat → Option Nat} {i : Int} {fs : List Value} (h : (wb_op M)[k]? = some (pc, .aastore, nx, tg)) (hw : w q = aQ t n g) (ht : (t = 4 ∧ ci = 0) ∨ (t = 5 ∧ ci = 2)) (hr : w r = .inr (ci, fs)) (hi : 0 ≤ i ∧ i < n ∧ i ≤ 2147483647) (kk : wb_V G M nx l st N (va_up w q (aQ t n (va_up g i.toNat (some r)))) cc cs Q) : wb_V G M pc l (.ref r :: .int (wb_i i) :: .ref q :: st) N w cc cs Q := by
  intro p e s m args below meth c H locs ls Qe hC hR hl hf hq
  obtain ⟨hd, hs⟩ := wb_opn hC.2.2.2.2.2.2.2.2.2 h
  have hnx : nx = pc + 1 := of_decide_eq_true hs
  subst hnx
  rw [Nat.add_sub_cancel_left] at hd
  obtain ⟨h3, hqN, ha⟩ := hR.at hw (by intro q; unfold wb_no aQ at q; cases q)
  obtain ⟨-, -, hav⟩ := hR.at hr (by intro q; unfold wb_no at q; cases q; rcases ht with ⟨-, h⟩ | ⟨-, h⟩ <;> cases h)
  have ecl := wb_i_cl hi.1 hi.2.2
  have ecn : (wb_i i).toNatClampNeg = i.toNat := by omega
  have hK := hC.2.2.2.2.2.2.2.2.1.1
  obtain ⟨r', hr', cellV, g1, g2, g3, -⟩ := hav
  obtain ⟨C, hc, ht2⟩ : ∃ C : vw_C, vwCl[ci]? = some C ∧ (wb_ty G)[t]? = some (wb_gc G t, .object C.1) := by
    rcases ht with ⟨rfl, rfl⟩ | ⟨rfl, rfl⟩ <;> exact ⟨_, rfl, rfl⟩
  have hcls := (hK.1 ci C hc).2
  obtain ⟨kA, comp, k1, k2, k3, -⟩ := (hK.2 t _ ht2).2
  have hcomp : comp = (wb_gD G).1 ci := Option.some.inj (k3.symm.trans hcls.1)
  subst hcomp
  obtain ⟨kC, hkC, -⟩ := hcls.2
  refine W.aast hC.1 hC.2.1 ha (fun q h => by cases h) (fun h => by cases h) k1 k2 rfl hkC ⟨by rw [show (0 : Int32) = wb_i 0 from rfl, wb_i_lt (by omega) (by omega)]; omega, by show _ < (arrV _ _ _).slots.size; rw [arrV_size, ecn]; show _ < n; omega⟩ g1 (fun q h => by rw [g3] at h; cases h) (by rw [g2]; exact hkC) (by rw [g2]; exact va_assign hcls) rfl rfl hd fun H1 e1 z oq => ?_
  refine kk p e s m args below meth c H1 _ ls Qe hC (hR.set h3 hqN z oq ?_) hl (wb_locs hf h3) hq
  show H1[wb_ad G q]? = some (vp_cell _ _)
  rw [e1]
  show some ((vp_cell (wb_gc G t) (n, .inr (.inr (.inr (.inr fun j => (g j).map (wb_ad G)))))).setSlot (wb_i i).toNatClampNeg (.ref (wb_ad G r))) = some (vp_cell (wb_gc G t) (n, .inr (.inr (.inr (.inr fun j => (va_up g i.toNat (some r) j).map (wb_ad G))))))
  rw [vp_cell_q, vp_cell_q, arrV_store]
  congr 2
  funext j
  by_cases hj : j = i.toNat
  · subst hj
    simp [updV, va_up, va_rf, ecn]
  · simp [updV, va_up, hj, ecn]
end WBARR
