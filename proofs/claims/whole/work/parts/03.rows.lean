/-! ===== one row an instruction ===== -/
def wb_i (z : Int) : Int32 := Int32.ofInt z
def wb_get : List (Nat × Value) → Nat → Option Value
  | [], _ => none
  | q :: r, i => cond (Nat.beq q.1 i) (some q.2) (wb_get r i)
def wb_put (l : List (Nat × Value)) (i : Nat) (v : Value) : List (Nat × Value) := (i, v) :: l.filter (fun q => !(Nat.beq q.1 i) && !(Nat.beq (q.1 + 1) i && Nat.beq q.2.category 2))
def wb_put2 (l : List (Nat × Value)) (i : Nat) (v : Value) : List (Nat × Value) := (i, v) :: l.filter (fun q => !(Nat.beq q.1 i) && (!(Nat.beq q.1 (i + 1)) && !(Nat.beq (q.1 + 1) i && Nat.beq q.2.category 2)))
def wb_loc (l : List (Nat × Value)) : List (Nat × Value) → Prop
  | [] => True
  | q :: r => wb_get l q.1 = some q.2 ∧ wb_loc l r
theorem wb_get_mem {l : List (Nat × Value)} {i : Nat} {v : Value} (h : wb_get l i = some v) : (i, v) ∈ l := by
  induction l with
  | nil => cases h
  | cons q r ih =>
    unfold wb_get at h
    cases hb : Nat.beq q.1 i with
    | true =>
      rw [hb] at h
      have := Nat.eq_of_beq_eq_true hb
      subst this
      cases h
      exact List.mem_cons_self
    | false =>
      rw [hb] at h
      exact List.mem_cons_of_mem _ (ih h)
theorem wb_beq (a b : Nat) : (a == b) = Nat.beq a b := by
  cases h : Nat.beq a b with
  | true => exact (beq_iff_eq).mpr (Nat.eq_of_beq_eq_true h)
  | false => exact beq_eq_false_iff_ne.mpr (Nat.ne_of_beq_eq_false h)
theorem wb_and {a b : Bool} (h : (a && b) = true) : a = true ∧ b = true := by cases a <;> cases b <;> simp_all
theorem wb_cat (G : wb_G) (v : Value) : (wb_tr G v).category = v.category := by cases v <;> rfl
theorem wb_at_l {G : wb_G} {ls : Array Slot} {nL : Nat} {l : List (Nat × Value)} (h : lv_has ls nL (wb_tL G l)) {i : Nat} {v : Value} (hg : wb_get l i = some v) : ls[i]? = some (.val (wb_tr G v)) :=
  h.2.2 (i, wb_tr G v) (List.mem_map.mpr ⟨(i, v), wb_get_mem hg, rfl⟩)
theorem wb_pos {G : wb_G} {l : List (Nat × Value)} {i : Nat} {v : Value} (hg : wb_get l i = some v) : ∃ k : Nat, (wb_tL G l)[k]? = some (i, wb_tr G v) :=
  List.getElem?_of_mem (List.mem_map.mpr ⟨(i, v), wb_get_mem hg, rfl⟩)
theorem wb_tL_put {G : wb_G} {l : List (Nat × Value)} {i : Nat} {v : Value} : (i, wb_tr G v) :: (wb_tL G l).filter (fun q => !(q.1 == i) && !(q.1 + 1 == i && q.2.category == 2)) = wb_tL G (wb_put l i v) := by
  unfold wb_tL wb_put
  rw [List.map_cons, List.filter_map]
  congr 2
  apply List.filter_congr
  intro q _
  simp only [Function.comp, wb_cat, wb_beq]
theorem wb_tL_put2 {G : wb_G} {l : List (Nat × Value)} {i : Nat} {v : Value} : (i, wb_tr G v) :: (wb_tL G l).filter (fun q => !(q.1 == i) && (!(q.1 == i + 1) && !(q.1 + 1 == i && q.2.category == 2))) = wb_tL G (wb_put2 l i v) := by
  unfold wb_tL wb_put2
  rw [List.map_cons, List.filter_map]
  congr 2
  apply List.filter_congr
  intro q _
  simp only [Function.comp, wb_cat, wb_beq]
theorem wb_lt {a b : Nat} (h : Nat.blt a b = true) : a < b := Nat.le_of_ble_eq_true h
/-! numbers -/
theorem wb_i_toInt {z : Int} (h : -2147483648 ≤ z ∧ z ≤ 2147483647) : (wb_i z).toInt = z := by
  unfold wb_i; rw [Int32.toInt_ofInt_of_le (by omega) (by omega)]
theorem wb_i_of (x : Int32) : x = wb_i x.toInt := by unfold wb_i; rw [Int32.ofInt_toInt]
theorem wb_i_rg (x : Int32) : -2147483648 ≤ x.toInt ∧ x.toInt ≤ 2147483647 := by
  have h1 := Int32.le_toInt x
  have h2 := Int32.toInt_lt x
  omega
theorem wb_i_add (a b : Int) : wb_i a + wb_i b = wb_i (a + b) := by unfold wb_i; rw [Int32.ofInt_add]
theorem wb_i_mul (a b : Int) : wb_i a * wb_i b = wb_i (a * b) := by unfold wb_i; rw [Int32.ofInt_mul]
theorem wb_i_neg (a : Int) : -wb_i a = wb_i (-a) := by unfold wb_i; rw [Int32.ofInt_neg]
theorem wb_i_sub (a b : Int) : wb_i a - wb_i b = wb_i (a - b) := by unfold wb_i; rw [Int32.ofInt_sub]
theorem wb_i_eq {a b : Int} (ha : -2147483648 ≤ a ∧ a ≤ 2147483647) (hb : -2147483648 ≤ b ∧ b ≤ 2147483647) : wb_i a = wb_i b ↔ a = b := by
  constructor
  · intro h; have := congrArg Int32.toInt h; rwa [wb_i_toInt ha, wb_i_toInt hb] at this
  · intro h; rw [h]
theorem wb_i_lt {a b : Int} (ha : -2147483648 ≤ a ∧ a ≤ 2147483647) (hb : -2147483648 ≤ b ∧ b ≤ 2147483647) : wb_i a < wb_i b ↔ a < b := by
  rw [Int32.lt_iff_toInt_lt, wb_i_toInt ha, wb_i_toInt hb]
theorem wb_i_le {a b : Int} (ha : -2147483648 ≤ a ∧ a ≤ 2147483647) (hb : -2147483648 ≤ b ∧ b ≤ 2147483647) : wb_i a ≤ wb_i b ↔ a ≤ b := by
  rw [Int32.le_iff_toInt_le, wb_i_toInt ha, wb_i_toInt hb]
theorem wb_i_nat (n : Nat) : wb_i (n : Int) = nI n := by unfold wb_i nI; rw [Int32.ofInt_eq_ofNat]
theorem wb_i_div {a b : Int} (ha : 0 ≤ a ∧ a ≤ 2147483647) (hb : 0 < b ∧ b ≤ 2147483647) : wb_i a / wb_i b = wb_i (a / b) := by
  obtain ⟨m, rfl⟩ := Int.eq_ofNat_of_zero_le ha.1
  obtain ⟨n, rfl⟩ := Int.eq_ofNat_of_zero_le (show 0 ≤ b by omega)
  rw [wb_i_nat, wb_i_nat, pk_div (by omega) (by omega) (by omega), ← wb_i_nat]
  rfl
theorem wb_i_rem {a b : Int} (ha : 0 ≤ a ∧ a ≤ 2147483647) (hb : 0 < b ∧ b ≤ 2147483647) : wb_i a - wb_i a / wb_i b * wb_i b = wb_i (a % b) := by
  obtain ⟨m, rfl⟩ := Int.eq_ofNat_of_zero_le ha.1
  obtain ⟨n, rfl⟩ := Int.eq_ofNat_of_zero_le (show 0 ≤ b by omega)
  rw [wb_i_nat, wb_i_nat, pk_rem (by omega) (by omega) (by omega), ← wb_i_nat]
  rfl
theorem wb_i_cl {a : Int} (h0 : 0 ≤ a) (h : a ≤ 2147483647) : ((wb_i a).toNatClampNeg : Int) = a := by
  show (((wb_i a).toInt.toNat : Nat) : Int) = a
  rw [wb_i_toInt (by omega)]; omega
theorem wb_i_in {a : Int} {n : Nat} (h0 : 0 ≤ a) (h : a < n) (hn : a ≤ 2147483647) : vp_in (wb_i a) n := by
  rw [vp_in_iff, wb_i_toInt (by omega)]; omega
theorem wb_i8 {n : Int} (h1 : -128 ≤ n) (h2 : n ≤ 127) : (Int8.ofInt n).toInt32 = wb_i n := by
  apply Int32.toInt_inj.mp
  rw [wb_i_toInt (by omega), Int8.toInt_toInt32, Int8.toInt_ofInt_of_le (by omega) (by omega)]
theorem wb_i16 {n : Int} (h1 : -32768 ≤ n) (h2 : n ≤ 32767) : (Int16.ofInt n).toInt32 = wb_i n := by
  apply Int32.toInt_inj.mp
  rw [wb_i_toInt (by omega), Int16.toInt_toInt32, Int16.toInt_ofInt_of_le (by omega) (by omega)]

section WBROWS
variable {G : wb_G} {M : wb_MD} {pc nx tg : Nat} {l : List (Nat × Value)} {st : List Value} {N : Nat} {w : wb_W} {cc cs : Nat} {Q : Option Value → Nat → wb_W → Prop}
theorem vi_iconst (k : Nat) {n : Int} (h : (wb_op M)[k]? = some (pc, .iconst n, nx, tg))  (kk : wb_V G M nx l (.int (wb_i n) :: st) N w cc cs Q) : wb_V G M pc l (st) N w cc cs Q := by
  intro p e s m args below meth c H locs ls Qe hC hR hl hf hq
  obtain ⟨hd, hs⟩ := wb_opn hC.2.2.2.2.2.2.2.2.2 h
  have hnx : nx = pc + 1 := of_decide_eq_true hs
  subst hnx
  rw [Nat.add_sub_cancel_left] at hd
  exact lv_iconst hC.1 hC.2.1 hd rfl (kk p e s m args below meth c H locs ls Qe hC hR hl hf hq)
theorem vi_bipush (k : Nat) {n : Int} (h : (wb_op M)[k]? = some (pc, .bipush n, nx, tg)) (h1 : -128 ≤ n ∧ n ≤ 127) (kk : wb_V G M nx l (.int (wb_i n) :: st) N w cc cs Q) : wb_V G M pc l (st) N w cc cs Q := by
  intro p e s m args below meth c H locs ls Qe hC hR hl hf hq
  obtain ⟨hd, hs⟩ := wb_opn hC.2.2.2.2.2.2.2.2.2 h
  have hnx : nx = pc + 2 := of_decide_eq_true hs
  subst hnx
  rw [Nat.add_sub_cancel_left] at hd
  exact lv_bipush hC.1 hC.2.1 hd (wb_i8 h1.1 h1.2) (kk p e s m args below meth c H locs ls Qe hC hR hl hf hq)
theorem vi_sipush (k : Nat) {n : Int} (h : (wb_op M)[k]? = some (pc, .sipush n, nx, tg)) (h1 : -32768 ≤ n ∧ n ≤ 32767) (kk : wb_V G M nx l (.int (wb_i n) :: st) N w cc cs Q) : wb_V G M pc l (st) N w cc cs Q := by
  intro p e s m args below meth c H locs ls Qe hC hR hl hf hq
  obtain ⟨hd, hs⟩ := wb_opn hC.2.2.2.2.2.2.2.2.2 h
  have hnx : nx = pc + 3 := of_decide_eq_true hs
  subst hnx
  rw [Nat.add_sub_cancel_left] at hd
  exact lv_sipush hC.1 hC.2.1 hd (wb_i16 h1.1 h1.2) (kk p e s m args below meth c H locs ls Qe hC hR hl hf hq)
theorem vi_lconst (k : Nat) {n : Fin 2} (h : (wb_op M)[k]? = some (pc, .lconst n, nx, tg))  (kk : wb_V G M nx l (.long (Int64.ofNat n) :: st) N w cc cs Q) : wb_V G M pc l (st) N w cc cs Q := by
  intro p e s m args below meth c H locs ls Qe hC hR hl hf hq
  obtain ⟨hd, hs⟩ := wb_opn hC.2.2.2.2.2.2.2.2.2 h
  have hnx : nx = pc + 1 := of_decide_eq_true hs
  subst hnx
  rw [Nat.add_sub_cancel_left] at hd
  exact lv_lconst hC.1 hC.2.1 hd rfl (kk p e s m args below meth c H locs ls Qe hC hR hl hf hq)
theorem vi_ldc (k : Nat) {n : Nat} {z : Int} (h : (wb_op M)[k]? = some (pc, .ldc n, nx, tg)) (h1 : Cond.constant (wb_nm M).cls n (wb_i z) ∈ wb_GW) (kk : wb_V G M nx l (.int (wb_i z) :: st) N w cc cs Q) : wb_V G M pc l (st) N w cc cs Q := by
  intro p e s m args below meth c H locs ls Qe hC hR hl hf hq
  obtain ⟨hd, hs⟩ := wb_opn hC.2.2.2.2.2.2.2.2.2 h
  have hnx : nx = pc + 2 := of_decide_eq_true hs
  subst hnx
  rw [Nat.add_sub_cancel_left] at hd
  exact lv_ldc hC.1 hC.2.1 hC.2.2.2.2.2.2.1 (hC.2.2.2.2.2.2.2.1 _ h1) hd (kk p e s m args below meth c H locs ls Qe hC hR hl hf hq)
theorem vi_ldcw (k : Nat) {n : Nat} {z : Int32} (h : (wb_op M)[k]? = some (pc, .ldc_w n, nx, tg)) (h1 : Cond.constant (wb_nm M).cls n z ∈ wb_GW) (kk : wb_V G M nx l (.int z :: st) N w cc cs Q) : wb_V G M pc l (st) N w cc cs Q := by
  intro p e s m args below meth c H locs ls Qe hC hR hl hf hq
  obtain ⟨hd, hs⟩ := wb_opn hC.2.2.2.2.2.2.2.2.2 h
  have hnx : nx = pc + 3 := of_decide_eq_true hs
  subst hnx
  rw [Nat.add_sub_cancel_left] at hd
  exact lv_ldcw hC.1 hC.2.1 hC.2.2.2.2.2.2.1 (hC.2.2.2.2.2.2.2.1 _ h1) hd (kk p e s m args below meth c H locs ls Qe hC hR hl hf hq)
theorem vi_ldc2 (k : Nat) {n : Nat} {z : Int64} (h : (wb_op M)[k]? = some (pc, .ldc2_w n, nx, tg)) (h1 : Cond.constantLong (wb_nm M).cls n z ∈ wb_GW) (kk : wb_V G M nx l (.long z :: st) N w cc cs Q) : wb_V G M pc l (st) N w cc cs Q := by
  intro p e s m args below meth c H locs ls Qe hC hR hl hf hq
  obtain ⟨hd, hs⟩ := wb_opn hC.2.2.2.2.2.2.2.2.2 h
  have hnx : nx = pc + 3 := of_decide_eq_true hs
  subst hnx
  rw [Nat.add_sub_cancel_left] at hd
  exact lv_ldc2 hC.1 hC.2.1 hC.2.2.2.2.2.2.1 (hC.2.2.2.2.2.2.2.1 _ h1) hd (kk p e s m args below meth c H locs ls Qe hC hR hl hf hq)
theorem vi_iload_n (k : Nat) {i : Fin 4} {x : Int32} (h : (wb_op M)[k]? = some (pc, .iload_n i, nx, tg)) (hg : wb_get l i.val = some (.int x)) (kk : wb_V G M nx l (.int x :: st) N w cc cs Q) : wb_V G M pc l (st) N w cc cs Q := by
  intro p e s m args below meth c H locs ls Qe hC hR hl hf hq
  obtain ⟨hd, hs⟩ := wb_opn hC.2.2.2.2.2.2.2.2.2 h
  have hnx : nx = pc + 1 := of_decide_eq_true hs
  subst hnx
  rw [Nat.add_sub_cancel_left] at hd
  exact lv_iload_n hC.1 hC.2.1 hd rfl (wb_at_l hl hg) (kk p e s m args below meth c H locs ls Qe hC hR hl hf hq)
theorem vi_iload (k : Nat) {i : Nat} {x : Int32} (h : (wb_op M)[k]? = some (pc, .iload i, nx, tg)) (hg : wb_get l i = some (.int x)) (kk : wb_V G M nx l (.int x :: st) N w cc cs Q) : wb_V G M pc l (st) N w cc cs Q := by
  intro p e s m args below meth c H locs ls Qe hC hR hl hf hq
  obtain ⟨hd, hs⟩ := wb_opn hC.2.2.2.2.2.2.2.2.2 h
  have hnx : nx = pc + 2 := of_decide_eq_true hs
  subst hnx
  rw [Nat.add_sub_cancel_left] at hd
  exact lv_iload hC.1 hC.2.1 hd (wb_at_l hl hg) (kk p e s m args below meth c H locs ls Qe hC hR hl hf hq)
theorem vi_istore_n (k : Nat) {i : Fin 4} {x : Int32} (h : (wb_op M)[k]? = some (pc, .istore_n i, nx, tg)) (hn : Nat.blt i.val (wb_ml M) = true) (kk : wb_V G M nx (wb_put l i.val (.int x)) st N w cc cs Q) : wb_V G M pc l (.int x :: st) N w cc cs Q := by
  intro p e s m args below meth c H locs ls Qe hC hR hl hf hq
  obtain ⟨hd, hs⟩ := wb_opn hC.2.2.2.2.2.2.2.2.2 h
  have hnx : nx = pc + 1 := of_decide_eq_true hs
  subst hnx
  rw [Nat.add_sub_cancel_left] at hd
  exact lv_istore_n hC.1 hC.2.1 hd rfl hl (wb_lt hn) (wb_tL_put (v := .int x)) (fun ls hl => (kk p e s m args below meth c H locs ls Qe hC hR hl hf hq))
theorem vi_istore (k : Nat) {i : Nat} {x : Int32} (h : (wb_op M)[k]? = some (pc, .istore i, nx, tg)) (hn : Nat.blt i (wb_ml M) = true) (kk : wb_V G M nx (wb_put l i (.int x)) st N w cc cs Q) : wb_V G M pc l (.int x :: st) N w cc cs Q := by
  intro p e s m args below meth c H locs ls Qe hC hR hl hf hq
  obtain ⟨hd, hs⟩ := wb_opn hC.2.2.2.2.2.2.2.2.2 h
  have hnx : nx = pc + 2 := of_decide_eq_true hs
  subst hnx
  rw [Nat.add_sub_cancel_left] at hd
  exact lv_istore hC.1 hC.2.1 hd hl (wb_lt hn) (wb_tL_put (v := .int x)) (fun ls hl => (kk p e s m args below meth c H locs ls Qe hC hR hl hf hq))
theorem vi_lload_n (k : Nat) {i : Fin 4} {x : Int64} (h : (wb_op M)[k]? = some (pc, .lload_n i, nx, tg)) (hg : wb_get l i.val = some (.long x)) (kk : wb_V G M nx l (.long x :: st) N w cc cs Q) : wb_V G M pc l (st) N w cc cs Q := by
  intro p e s m args below meth c H locs ls Qe hC hR hl hf hq
  obtain ⟨hd, hs⟩ := wb_opn hC.2.2.2.2.2.2.2.2.2 h
  have hnx : nx = pc + 1 := of_decide_eq_true hs
  subst hnx
  rw [Nat.add_sub_cancel_left] at hd
  exact lv_lload_n hC.1 hC.2.1 hd rfl (wb_at_l hl hg) (kk p e s m args below meth c H locs ls Qe hC hR hl hf hq)
theorem vi_lload (k : Nat) {i : Nat} {x : Int64} (h : (wb_op M)[k]? = some (pc, .lload i, nx, tg)) (hg : wb_get l i = some (.long x)) (kk : wb_V G M nx l (.long x :: st) N w cc cs Q) : wb_V G M pc l (st) N w cc cs Q := by
  intro p e s m args below meth c H locs ls Qe hC hR hl hf hq
  obtain ⟨hd, hs⟩ := wb_opn hC.2.2.2.2.2.2.2.2.2 h
  have hnx : nx = pc + 2 := of_decide_eq_true hs
  subst hnx
  rw [Nat.add_sub_cancel_left] at hd
  exact lv_lload hC.1 hC.2.1 hd (wb_at_l hl hg) (kk p e s m args below meth c H locs ls Qe hC hR hl hf hq)
theorem vi_lstore_n (k : Nat) {i : Fin 4} {x : Int64} (h : (wb_op M)[k]? = some (pc, .lstore_n i, nx, tg)) (hn : Nat.blt (i.val+1) (wb_ml M) = true) (kk : wb_V G M nx (wb_put2 l i.val (.long x)) st N w cc cs Q) : wb_V G M pc l (.long x :: st) N w cc cs Q := by
  intro p e s m args below meth c H locs ls Qe hC hR hl hf hq
  obtain ⟨hd, hs⟩ := wb_opn hC.2.2.2.2.2.2.2.2.2 h
  have hnx : nx = pc + 1 := of_decide_eq_true hs
  subst hnx
  rw [Nat.add_sub_cancel_left] at hd
  exact lv_lstore_n hC.1 hC.2.1 hd rfl hl (wb_lt hn) (wb_tL_put2 (v := .long x)) (fun ls hl => (kk p e s m args below meth c H locs ls Qe hC hR hl hf hq))
theorem vi_lstore (k : Nat) {i : Nat} {x : Int64} (h : (wb_op M)[k]? = some (pc, .lstore i, nx, tg)) (hn : Nat.blt (i+1) (wb_ml M) = true) (kk : wb_V G M nx (wb_put2 l i (.long x)) st N w cc cs Q) : wb_V G M pc l (.long x :: st) N w cc cs Q := by
  intro p e s m args below meth c H locs ls Qe hC hR hl hf hq
  obtain ⟨hd, hs⟩ := wb_opn hC.2.2.2.2.2.2.2.2.2 h
  have hnx : nx = pc + 2 := of_decide_eq_true hs
  subst hnx
  rw [Nat.add_sub_cancel_left] at hd
  exact lv_lstore hC.1 hC.2.1 hd hl (wb_lt hn) (wb_tL_put2 (v := .long x)) (fun ls hl => (kk p e s m args below meth c H locs ls Qe hC hR hl hf hq))
theorem vi_aload_n (k : Nat) {i : Fin 4} {x : Nat} (h : (wb_op M)[k]? = some (pc, .aload_n i, nx, tg)) (hg : wb_get l i.val = some (.ref x)) (kk : wb_V G M nx l (.ref x :: st) N w cc cs Q) : wb_V G M pc l (st) N w cc cs Q := by
  intro p e s m args below meth c H locs ls Qe hC hR hl hf hq
  obtain ⟨hd, hs⟩ := wb_opn hC.2.2.2.2.2.2.2.2.2 h
  have hnx : nx = pc + 1 := of_decide_eq_true hs
  subst hnx
  rw [Nat.add_sub_cancel_left] at hd
  exact lv_aload_n hC.1 hC.2.1 hd rfl (wb_at_l hl hg) (kk p e s m args below meth c H locs ls Qe hC hR hl hf hq)
theorem vi_aload (k : Nat) {i : Nat} {x : Nat} (h : (wb_op M)[k]? = some (pc, .aload i, nx, tg)) (hg : wb_get l i = some (.ref x)) (kk : wb_V G M nx l (.ref x :: st) N w cc cs Q) : wb_V G M pc l (st) N w cc cs Q := by
  intro p e s m args below meth c H locs ls Qe hC hR hl hf hq
  obtain ⟨hd, hs⟩ := wb_opn hC.2.2.2.2.2.2.2.2.2 h
  have hnx : nx = pc + 2 := of_decide_eq_true hs
  subst hnx
  rw [Nat.add_sub_cancel_left] at hd
  exact lv_aload hC.1 hC.2.1 hd (wb_at_l hl hg) (kk p e s m args below meth c H locs ls Qe hC hR hl hf hq)
theorem vi_astore_n (k : Nat) {i : Fin 4} {x : Nat} (h : (wb_op M)[k]? = some (pc, .astore_n i, nx, tg)) (hn : Nat.blt i.val (wb_ml M) = true) (kk : wb_V G M nx (wb_put l i.val (.ref x)) st N w cc cs Q) : wb_V G M pc l (.ref x :: st) N w cc cs Q := by
  intro p e s m args below meth c H locs ls Qe hC hR hl hf hq
  obtain ⟨hd, hs⟩ := wb_opn hC.2.2.2.2.2.2.2.2.2 h
  have hnx : nx = pc + 1 := of_decide_eq_true hs
  subst hnx
  rw [Nat.add_sub_cancel_left] at hd
  exact lv_astore_n hC.1 hC.2.1 hd rfl hl (wb_lt hn) (wb_tL_put (v := .ref x)) (fun ls hl => (kk p e s m args below meth c H locs ls Qe hC hR hl hf hq))
theorem vi_astore (k : Nat) {i : Nat} {x : Nat} (h : (wb_op M)[k]? = some (pc, .astore i, nx, tg)) (hn : Nat.blt i (wb_ml M) = true) (kk : wb_V G M nx (wb_put l i (.ref x)) st N w cc cs Q) : wb_V G M pc l (.ref x :: st) N w cc cs Q := by
  intro p e s m args below meth c H locs ls Qe hC hR hl hf hq
  obtain ⟨hd, hs⟩ := wb_opn hC.2.2.2.2.2.2.2.2.2 h
  have hnx : nx = pc + 2 := of_decide_eq_true hs
  subst hnx
  rw [Nat.add_sub_cancel_left] at hd
  exact lv_astore hC.1 hC.2.1 hd hl (wb_lt hn) (wb_tL_put (v := .ref x)) (fun ls hl => (kk p e s m args below meth c H locs ls Qe hC hR hl hf hq))
theorem vi_iinc (k : Nat) {i : Nat} {n x : Int} (h : (wb_op M)[k]? = some (pc, .iinc i n, nx, tg)) (hg : wb_get l i = some (.int (wb_i x))) (hn : Nat.blt i (wb_ml M) = true) (kk : wb_V G M nx (wb_put l i (.int (wb_i (x + n)))) st N w cc cs Q) : wb_V G M pc l st N w cc cs Q := by
  intro p e s m args below meth c H locs ls Qe hC hR hl hf hq
  obtain ⟨hd, hs⟩ := wb_opn hC.2.2.2.2.2.2.2.2.2 h
  have hnx : nx = pc + 3 := of_decide_eq_true hs
  subst hnx
  rw [Nat.add_sub_cancel_left] at hd
  obtain ⟨j, hj⟩ := wb_pos (G := G) hg
  exact lv_iinc hC.1 hC.2.1 hd hl hj (wb_i_add x n) (wb_lt hn) (wb_tL_put (v := .int (wb_i (x + n)))) (fun ls hl => (kk p e s m args below meth c H locs ls Qe hC hR hl hf hq))
theorem vi_iadd (k : Nat) {x y : Int} (h : (wb_op M)[k]? = some (pc, .iadd, nx, tg))  (kk : wb_V G M nx l (.int (wb_i (x + y)) :: st) N w cc cs Q) : wb_V G M pc l (.int (wb_i y) :: .int (wb_i x) :: st) N w cc cs Q := by
  intro p e s m args below meth c H locs ls Qe hC hR hl hf hq
  obtain ⟨hd, hs⟩ := wb_opn hC.2.2.2.2.2.2.2.2.2 h
  have hnx : nx = pc + 1 := of_decide_eq_true hs
  subst hnx
  rw [Nat.add_sub_cancel_left] at hd
  have K := (kk p e s m args below meth c H locs ls Qe hC hR hl hf hq)
  rw [← wb_i_add x y] at K
  exact lv_iadd hC.1 hC.2.1 hd  K
theorem vi_isub (k : Nat) {x y : Int} (h : (wb_op M)[k]? = some (pc, .isub, nx, tg))  (kk : wb_V G M nx l (.int (wb_i (x - y)) :: st) N w cc cs Q) : wb_V G M pc l (.int (wb_i y) :: .int (wb_i x) :: st) N w cc cs Q := by
  intro p e s m args below meth c H locs ls Qe hC hR hl hf hq
  obtain ⟨hd, hs⟩ := wb_opn hC.2.2.2.2.2.2.2.2.2 h
  have hnx : nx = pc + 1 := of_decide_eq_true hs
  subst hnx
  rw [Nat.add_sub_cancel_left] at hd
  have K := (kk p e s m args below meth c H locs ls Qe hC hR hl hf hq)
  rw [← wb_i_sub x y] at K
  exact lv_isub hC.1 hC.2.1 hd  K
theorem vi_imul (k : Nat) {x y : Int} (h : (wb_op M)[k]? = some (pc, .imul, nx, tg))  (kk : wb_V G M nx l (.int (wb_i (x * y)) :: st) N w cc cs Q) : wb_V G M pc l (.int (wb_i y) :: .int (wb_i x) :: st) N w cc cs Q := by
  intro p e s m args below meth c H locs ls Qe hC hR hl hf hq
  obtain ⟨hd, hs⟩ := wb_opn hC.2.2.2.2.2.2.2.2.2 h
  have hnx : nx = pc + 1 := of_decide_eq_true hs
  subst hnx
  rw [Nat.add_sub_cancel_left] at hd
  have K := (kk p e s m args below meth c H locs ls Qe hC hR hl hf hq)
  rw [← wb_i_mul x y] at K
  exact lv_imul hC.1 hC.2.1 hd  K
theorem vi_idiv (k : Nat) {x y : Int} (h : (wb_op M)[k]? = some (pc, .idiv, nx, tg)) (hx : 0 ≤ x ∧ x ≤ 2147483647) (hy : 0 < y ∧ y ≤ 2147483647) (kk : wb_V G M nx l (.int (wb_i (x / y)) :: st) N w cc cs Q) : wb_V G M pc l (.int (wb_i y) :: .int (wb_i x) :: st) N w cc cs Q := by
  intro p e s m args below meth c H locs ls Qe hC hR hl hf hq
  obtain ⟨hd, hs⟩ := wb_opn hC.2.2.2.2.2.2.2.2.2 h
  have hnx : nx = pc + 1 := of_decide_eq_true hs
  subst hnx
  rw [Nat.add_sub_cancel_left] at hd
  have K := (kk p e s m args below meth c H locs ls Qe hC hR hl hf hq)
  rw [← wb_i_div hx hy] at K
  exact lv_idiv hC.1 hC.2.1 hd (fun q => absurd ((wb_i_eq (b := 0) (by omega) (by omega)).mp q) (by omega)) K
theorem vi_irem (k : Nat) {x y : Int} (h : (wb_op M)[k]? = some (pc, .irem, nx, tg)) (hx : 0 ≤ x ∧ x ≤ 2147483647) (hy : 0 < y ∧ y ≤ 2147483647) (kk : wb_V G M nx l (.int (wb_i (x % y)) :: st) N w cc cs Q) : wb_V G M pc l (.int (wb_i y) :: .int (wb_i x) :: st) N w cc cs Q := by
  intro p e s m args below meth c H locs ls Qe hC hR hl hf hq
  obtain ⟨hd, hs⟩ := wb_opn hC.2.2.2.2.2.2.2.2.2 h
  have hnx : nx = pc + 1 := of_decide_eq_true hs
  subst hnx
  rw [Nat.add_sub_cancel_left] at hd
  have K := (kk p e s m args below meth c H locs ls Qe hC hR hl hf hq)
  rw [← wb_i_rem hx hy] at K
  exact lv_irem hC.1 hC.2.1 hd (fun q => absurd ((wb_i_eq (b := 0) (by omega) (by omega)).mp q) (by omega)) K
theorem vi_ineg (k : Nat) {x : Int} (h : (wb_op M)[k]? = some (pc, .ineg, nx, tg))  (kk : wb_V G M nx l (.int (wb_i (-x)) :: st) N w cc cs Q) : wb_V G M pc l (.int (wb_i x) :: st) N w cc cs Q := by
  intro p e s m args below meth c H locs ls Qe hC hR hl hf hq
  obtain ⟨hd, hs⟩ := wb_opn hC.2.2.2.2.2.2.2.2.2 h
  have hnx : nx = pc + 1 := of_decide_eq_true hs
  subst hnx
  rw [Nat.add_sub_cancel_left] at hd
  exact lv_ineg hC.1 hC.2.1 hd (by rw [wb_i_neg]; exact (kk p e s m args below meth c H locs ls Qe hC hR hl hf hq))
theorem vi_iand (k : Nat) {x y : Int32} (h : (wb_op M)[k]? = some (pc, .iand, nx, tg))  (kk : wb_V G M nx l (.int (x &&& y) :: st) N w cc cs Q) : wb_V G M pc l (.int y :: .int x :: st) N w cc cs Q := by
  intro p e s m args below meth c H locs ls Qe hC hR hl hf hq
  obtain ⟨hd, hs⟩ := wb_opn hC.2.2.2.2.2.2.2.2.2 h
  have hnx : nx = pc + 1 := of_decide_eq_true hs
  subst hnx
  rw [Nat.add_sub_cancel_left] at hd
  exact lv_iand hC.1 hC.2.1 hd (kk p e s m args below meth c H locs ls Qe hC hR hl hf hq)
theorem vi_ior (k : Nat) {x y : Int32} (h : (wb_op M)[k]? = some (pc, .ior, nx, tg))  (kk : wb_V G M nx l (.int (x ||| y) :: st) N w cc cs Q) : wb_V G M pc l (.int y :: .int x :: st) N w cc cs Q := by
  intro p e s m args below meth c H locs ls Qe hC hR hl hf hq
  obtain ⟨hd, hs⟩ := wb_opn hC.2.2.2.2.2.2.2.2.2 h
  have hnx : nx = pc + 1 := of_decide_eq_true hs
  subst hnx
  rw [Nat.add_sub_cancel_left] at hd
  exact lv_ior hC.1 hC.2.1 hd (kk p e s m args below meth c H locs ls Qe hC hR hl hf hq)
theorem vi_ixor (k : Nat) {x y : Int32} (h : (wb_op M)[k]? = some (pc, .ixor, nx, tg))  (kk : wb_V G M nx l (.int (x ^^^ y) :: st) N w cc cs Q) : wb_V G M pc l (.int y :: .int x :: st) N w cc cs Q := by
  intro p e s m args below meth c H locs ls Qe hC hR hl hf hq
  obtain ⟨hd, hs⟩ := wb_opn hC.2.2.2.2.2.2.2.2.2 h
  have hnx : nx = pc + 1 := of_decide_eq_true hs
  subst hnx
  rw [Nat.add_sub_cancel_left] at hd
  exact lv_ixor hC.1 hC.2.1 hd (kk p e s m args below meth c H locs ls Qe hC hR hl hf hq)
theorem vi_ishl (k : Nat) {x y : Int32} (h : (wb_op M)[k]? = some (pc, .ishl, nx, tg))  (kk : wb_V G M nx l (.int (x <<< (y &&& 31)) :: st) N w cc cs Q) : wb_V G M pc l (.int y :: .int x :: st) N w cc cs Q := by
  intro p e s m args below meth c H locs ls Qe hC hR hl hf hq
  obtain ⟨hd, hs⟩ := wb_opn hC.2.2.2.2.2.2.2.2.2 h
  have hnx : nx = pc + 1 := of_decide_eq_true hs
  subst hnx
  rw [Nat.add_sub_cancel_left] at hd
  exact lv_ishl hC.1 hC.2.1 hd (kk p e s m args below meth c H locs ls Qe hC hR hl hf hq)
theorem vi_ishr (k : Nat) {x y : Int32} (h : (wb_op M)[k]? = some (pc, .ishr, nx, tg))  (kk : wb_V G M nx l (.int (x >>> (y &&& 31)) :: st) N w cc cs Q) : wb_V G M pc l (.int y :: .int x :: st) N w cc cs Q := by
  intro p e s m args below meth c H locs ls Qe hC hR hl hf hq
  obtain ⟨hd, hs⟩ := wb_opn hC.2.2.2.2.2.2.2.2.2 h
  have hnx : nx = pc + 1 := of_decide_eq_true hs
  subst hnx
  rw [Nat.add_sub_cancel_left] at hd
  exact lv_ishr hC.1 hC.2.1 hd (kk p e s m args below meth c H locs ls Qe hC hR hl hf hq)
theorem vi_iushr (k : Nat) {x y : Int32} (h : (wb_op M)[k]? = some (pc, .iushr, nx, tg))  (kk : wb_V G M nx l (.int ((x.toUInt32 >>> (y.toUInt32 &&& Int32.toUInt32 31)).toInt32) :: st) N w cc cs Q) : wb_V G M pc l (.int y :: .int x :: st) N w cc cs Q := by
  intro p e s m args below meth c H locs ls Qe hC hR hl hf hq
  obtain ⟨hd, hs⟩ := wb_opn hC.2.2.2.2.2.2.2.2.2 h
  have hnx : nx = pc + 1 := of_decide_eq_true hs
  subst hnx
  rw [Nat.add_sub_cancel_left] at hd
  exact lv_iushr hC.1 hC.2.1 hd rfl (kk p e s m args below meth c H locs ls Qe hC hR hl hf hq)
theorem vi_iadd32 (k : Nat) {x y : Int32} (h : (wb_op M)[k]? = some (pc, .iadd, nx, tg))  (kk : wb_V G M nx l (.int (x + y) :: st) N w cc cs Q) : wb_V G M pc l (.int y :: .int x :: st) N w cc cs Q := by
  intro p e s m args below meth c H locs ls Qe hC hR hl hf hq
  obtain ⟨hd, hs⟩ := wb_opn hC.2.2.2.2.2.2.2.2.2 h
  have hnx : nx = pc + 1 := of_decide_eq_true hs
  subst hnx
  rw [Nat.add_sub_cancel_left] at hd
  exact lv_iadd hC.1 hC.2.1 hd (kk p e s m args below meth c H locs ls Qe hC hR hl hf hq)
theorem vi_isub32 (k : Nat) {x y : Int32} (h : (wb_op M)[k]? = some (pc, .isub, nx, tg))  (kk : wb_V G M nx l (.int (x - y) :: st) N w cc cs Q) : wb_V G M pc l (.int y :: .int x :: st) N w cc cs Q := by
  intro p e s m args below meth c H locs ls Qe hC hR hl hf hq
  obtain ⟨hd, hs⟩ := wb_opn hC.2.2.2.2.2.2.2.2.2 h
  have hnx : nx = pc + 1 := of_decide_eq_true hs
  subst hnx
  rw [Nat.add_sub_cancel_left] at hd
  exact lv_isub hC.1 hC.2.1 hd (kk p e s m args below meth c H locs ls Qe hC hR hl hf hq)
theorem vi_land (k : Nat) {x y : Int64} (h : (wb_op M)[k]? = some (pc, .land, nx, tg))  (kk : wb_V G M nx l (.long (x &&& y) :: st) N w cc cs Q) : wb_V G M pc l (.long y :: .long x :: st) N w cc cs Q := by
  intro p e s m args below meth c H locs ls Qe hC hR hl hf hq
  obtain ⟨hd, hs⟩ := wb_opn hC.2.2.2.2.2.2.2.2.2 h
  have hnx : nx = pc + 1 := of_decide_eq_true hs
  subst hnx
  rw [Nat.add_sub_cancel_left] at hd
  exact lv_land hC.1 hC.2.1 hd (kk p e s m args below meth c H locs ls Qe hC hR hl hf hq)
theorem vi_lor (k : Nat) {x y : Int64} (h : (wb_op M)[k]? = some (pc, .lor, nx, tg))  (kk : wb_V G M nx l (.long (x ||| y) :: st) N w cc cs Q) : wb_V G M pc l (.long y :: .long x :: st) N w cc cs Q := by
  intro p e s m args below meth c H locs ls Qe hC hR hl hf hq
  obtain ⟨hd, hs⟩ := wb_opn hC.2.2.2.2.2.2.2.2.2 h
  have hnx : nx = pc + 1 := of_decide_eq_true hs
  subst hnx
  rw [Nat.add_sub_cancel_left] at hd
  exact lv_lor hC.1 hC.2.1 hd (kk p e s m args below meth c H locs ls Qe hC hR hl hf hq)
theorem vi_lxor (k : Nat) {x y : Int64} (h : (wb_op M)[k]? = some (pc, .lxor, nx, tg))  (kk : wb_V G M nx l (.long (x ^^^ y) :: st) N w cc cs Q) : wb_V G M pc l (.long y :: .long x :: st) N w cc cs Q := by
  intro p e s m args below meth c H locs ls Qe hC hR hl hf hq
  obtain ⟨hd, hs⟩ := wb_opn hC.2.2.2.2.2.2.2.2.2 h
  have hnx : nx = pc + 1 := of_decide_eq_true hs
  subst hnx
  rw [Nat.add_sub_cancel_left] at hd
  exact lv_lxor hC.1 hC.2.1 hd (kk p e s m args below meth c H locs ls Qe hC hR hl hf hq)
theorem vi_ladd (k : Nat) {x y : Int64} (h : (wb_op M)[k]? = some (pc, .ladd, nx, tg))  (kk : wb_V G M nx l (.long (x + y) :: st) N w cc cs Q) : wb_V G M pc l (.long y :: .long x :: st) N w cc cs Q := by
  intro p e s m args below meth c H locs ls Qe hC hR hl hf hq
  obtain ⟨hd, hs⟩ := wb_opn hC.2.2.2.2.2.2.2.2.2 h
  have hnx : nx = pc + 1 := of_decide_eq_true hs
  subst hnx
  rw [Nat.add_sub_cancel_left] at hd
  exact lv_ladd hC.1 hC.2.1 hd (kk p e s m args below meth c H locs ls Qe hC hR hl hf hq)
theorem vi_lsub (k : Nat) {x y : Int64} (h : (wb_op M)[k]? = some (pc, .lsub, nx, tg))  (kk : wb_V G M nx l (.long (x - y) :: st) N w cc cs Q) : wb_V G M pc l (.long y :: .long x :: st) N w cc cs Q := by
  intro p e s m args below meth c H locs ls Qe hC hR hl hf hq
  obtain ⟨hd, hs⟩ := wb_opn hC.2.2.2.2.2.2.2.2.2 h
  have hnx : nx = pc + 1 := of_decide_eq_true hs
  subst hnx
  rw [Nat.add_sub_cancel_left] at hd
  exact lv_lsub hC.1 hC.2.1 hd (kk p e s m args below meth c H locs ls Qe hC hR hl hf hq)
theorem vi_lneg (k : Nat) {x : Int64} (h : (wb_op M)[k]? = some (pc, .lneg, nx, tg))  (kk : wb_V G M nx l (.long (-x) :: st) N w cc cs Q) : wb_V G M pc l (.long x :: st) N w cc cs Q := by
  intro p e s m args below meth c H locs ls Qe hC hR hl hf hq
  obtain ⟨hd, hs⟩ := wb_opn hC.2.2.2.2.2.2.2.2.2 h
  have hnx : nx = pc + 1 := of_decide_eq_true hs
  subst hnx
  rw [Nat.add_sub_cancel_left] at hd
  exact lv_lneg hC.1 hC.2.1 hd (kk p e s m args below meth c H locs ls Qe hC hR hl hf hq)
theorem vi_lshl (k : Nat) {x : Int64} {y : Int32} (h : (wb_op M)[k]? = some (pc, .lshl, nx, tg))  (kk : wb_V G M nx l (.long (x <<< (y.toInt64 &&& 63)) :: st) N w cc cs Q) : wb_V G M pc l (.int y :: .long x :: st) N w cc cs Q := by
  intro p e s m args below meth c H locs ls Qe hC hR hl hf hq
  obtain ⟨hd, hs⟩ := wb_opn hC.2.2.2.2.2.2.2.2.2 h
  have hnx : nx = pc + 1 := of_decide_eq_true hs
  subst hnx
  rw [Nat.add_sub_cancel_left] at hd
  exact lv_lshl hC.1 hC.2.1 hd rfl (kk p e s m args below meth c H locs ls Qe hC hR hl hf hq)
theorem vi_lushr (k : Nat) {x : Int64} {y : Int32} (h : (wb_op M)[k]? = some (pc, .lushr, nx, tg))  (kk : wb_V G M nx l (.long ((x.toUInt64 >>> (y.toInt64.toUInt64 &&& Int64.toUInt64 63)).toInt64) :: st) N w cc cs Q) : wb_V G M pc l (.int y :: .long x :: st) N w cc cs Q := by
  intro p e s m args below meth c H locs ls Qe hC hR hl hf hq
  obtain ⟨hd, hs⟩ := wb_opn hC.2.2.2.2.2.2.2.2.2 h
  have hnx : nx = pc + 1 := of_decide_eq_true hs
  subst hnx
  rw [Nat.add_sub_cancel_left] at hd
  exact lv_lushr hC.1 hC.2.1 hd rfl (kk p e s m args below meth c H locs ls Qe hC hR hl hf hq)
theorem vi_i2l (k : Nat) {x : Int32} (h : (wb_op M)[k]? = some (pc, .i2l, nx, tg))  (kk : wb_V G M nx l (.long x.toInt64 :: st) N w cc cs Q) : wb_V G M pc l (.int x :: st) N w cc cs Q := by
  intro p e s m args below meth c H locs ls Qe hC hR hl hf hq
  obtain ⟨hd, hs⟩ := wb_opn hC.2.2.2.2.2.2.2.2.2 h
  have hnx : nx = pc + 1 := of_decide_eq_true hs
  subst hnx
  rw [Nat.add_sub_cancel_left] at hd
  exact lv_i2l hC.1 hC.2.1 hd rfl (kk p e s m args below meth c H locs ls Qe hC hR hl hf hq)
theorem vi_l2i (k : Nat) {x : Int64} (h : (wb_op M)[k]? = some (pc, .l2i, nx, tg))  (kk : wb_V G M nx l (.int x.toInt32 :: st) N w cc cs Q) : wb_V G M pc l (.long x :: st) N w cc cs Q := by
  intro p e s m args below meth c H locs ls Qe hC hR hl hf hq
  obtain ⟨hd, hs⟩ := wb_opn hC.2.2.2.2.2.2.2.2.2 h
  have hnx : nx = pc + 1 := of_decide_eq_true hs
  subst hnx
  rw [Nat.add_sub_cancel_left] at hd
  exact lv_l2i hC.1 hC.2.1 hd rfl (kk p e s m args below meth c H locs ls Qe hC hR hl hf hq)
theorem vi_i2b (k : Nat) {x : Int32} (h : (wb_op M)[k]? = some (pc, .i2b, nx, tg))  (kk : wb_V G M nx l (.int x.toInt8.toInt32 :: st) N w cc cs Q) : wb_V G M pc l (.int x :: st) N w cc cs Q := by
  intro p e s m args below meth c H locs ls Qe hC hR hl hf hq
  obtain ⟨hd, hs⟩ := wb_opn hC.2.2.2.2.2.2.2.2.2 h
  have hnx : nx = pc + 1 := of_decide_eq_true hs
  subst hnx
  rw [Nat.add_sub_cancel_left] at hd
  exact lv_i2b hC.1 hC.2.1 hd rfl (kk p e s m args below meth c H locs ls Qe hC hR hl hf hq)
theorem vi_lcmp (k : Nat) {x y : Int64} (h : (wb_op M)[k]? = some (pc, .lcmp, nx, tg))  (kk : wb_V G M nx l (.int (lg_cmp x y) :: st) N w cc cs Q) : wb_V G M pc l (.long y :: .long x :: st) N w cc cs Q := by
  intro p e s m args below meth c H locs ls Qe hC hR hl hf hq
  obtain ⟨hd, hs⟩ := wb_opn hC.2.2.2.2.2.2.2.2.2 h
  have hnx : nx = pc + 1 := of_decide_eq_true hs
  subst hnx
  rw [Nat.add_sub_cancel_left] at hd
  exact W.lcmp hC.1 hC.2.1 hd (kk p e s m args below meth c H locs ls Qe hC hR hl hf hq)
theorem vi_dup (k : Nat) {a : Value} (h : (wb_op M)[k]? = some (pc, .dup, nx, tg)) (ha : a.category = 1) (kk : wb_V G M nx l (a :: a :: st) N w cc cs Q) : wb_V G M pc l (a :: st) N w cc cs Q := by
  intro p e s m args below meth c H locs ls Qe hC hR hl hf hq
  obtain ⟨hd, hs⟩ := wb_opn hC.2.2.2.2.2.2.2.2.2 h
  have hnx : nx = pc + 1 := of_decide_eq_true hs
  subst hnx
  rw [Nat.add_sub_cancel_left] at hd
  exact lv_dup hC.1 hC.2.1 hd ((wb_cat G a).trans ha) (kk p e s m args below meth c H locs ls Qe hC hR hl hf hq)
theorem vi_pop (k : Nat) {a : Value} (h : (wb_op M)[k]? = some (pc, .pop, nx, tg)) (ha : a.category = 1) (kk : wb_V G M nx l (st) N w cc cs Q) : wb_V G M pc l (a :: st) N w cc cs Q := by
  intro p e s m args below meth c H locs ls Qe hC hR hl hf hq
  obtain ⟨hd, hs⟩ := wb_opn hC.2.2.2.2.2.2.2.2.2 h
  have hnx : nx = pc + 1 := of_decide_eq_true hs
  subst hnx
  rw [Nat.add_sub_cancel_left] at hd
  exact lv_pop hC.1 hC.2.1 hd ((wb_cat G a).trans ha) (kk p e s m args below meth c H locs ls Qe hC hR hl hf hq)
theorem vi_dup_x1 (k : Nat) {a b : Value} (h : (wb_op M)[k]? = some (pc, .dup_x1, nx, tg)) (ha : a.category = 1) (hb : b.category = 1) (kk : wb_V G M nx l (a :: b :: a :: st) N w cc cs Q) : wb_V G M pc l (a :: b :: st) N w cc cs Q := by
  intro p e s m args below meth c H locs ls Qe hC hR hl hf hq
  obtain ⟨hd, hs⟩ := wb_opn hC.2.2.2.2.2.2.2.2.2 h
  have hnx : nx = pc + 1 := of_decide_eq_true hs
  subst hnx
  rw [Nat.add_sub_cancel_left] at hd
  exact lv_dup_x1 hC.1 hC.2.1 hd ((wb_cat G a).trans ha) ((wb_cat G b).trans hb) (kk p e s m args below meth c H locs ls Qe hC hR hl hf hq)
theorem vi_dup2 (k : Nat) {a b : Value} (h : (wb_op M)[k]? = some (pc, .dup2, nx, tg)) (ha : a.category = 1) (hb : b.category = 1) (kk : wb_V G M nx l (a :: b :: a :: b :: st) N w cc cs Q) : wb_V G M pc l (a :: b :: st) N w cc cs Q := by
  intro p e s m args below meth c H locs ls Qe hC hR hl hf hq
  obtain ⟨hd, hs⟩ := wb_opn hC.2.2.2.2.2.2.2.2.2 h
  have hnx : nx = pc + 1 := of_decide_eq_true hs
  subst hnx
  rw [Nat.add_sub_cancel_left] at hd
  exact lv_dup2_11 hC.1 hC.2.1 hd ((wb_cat G a).trans ha) ((wb_cat G b).trans hb) (kk p e s m args below meth c H locs ls Qe hC hR hl hf hq)
theorem vi_dup2L (k : Nat) {a : Value} (h : (wb_op M)[k]? = some (pc, .dup2, nx, tg)) (ha : a.category = 2) (kk : wb_V G M nx l (a :: a :: st) N w cc cs Q) : wb_V G M pc l (a :: st) N w cc cs Q := by
  intro p e s m args below meth c H locs ls Qe hC hR hl hf hq
  obtain ⟨hd, hs⟩ := wb_opn hC.2.2.2.2.2.2.2.2.2 h
  have hnx : nx = pc + 1 := of_decide_eq_true hs
  subst hnx
  rw [Nat.add_sub_cancel_left] at hd
  exact lv_dup2_2 hC.1 hC.2.1 hd ((wb_cat G a).trans ha) (kk p e s m args below meth c H locs ls Qe hC hR hl hf hq)
theorem vi_icmp_eq (k : Nat) {x y : Int} {o : Int} (h : (wb_op M)[k]? = some (pc, .if_icmp .eq o, nx, tg)) (hx : -2147483648 ≤ x ∧ x ≤ 2147483647) (hy : -2147483648 ≤ y ∧ y ≤ 2147483647) (kt : x = y → wb_V G M tg l st N w cc cs Q) (kf : ¬ (x = y) → wb_V G M nx l st N w cc cs Q) : wb_V G M pc l (.int (wb_i y) :: .int (wb_i x) :: st) N w cc cs Q := by
  intro p e s m args below meth c H locs ls Qe hC hR hl hf hq
  obtain ⟨hd, hs⟩ := wb_opn hC.2.2.2.2.2.2.2.2.2 h
  have hs2 : nx = pc + 3 ∧ (pc : Int) + o = (tg : Int) := ⟨of_decide_eq_true (wb_and hs).1, of_decide_eq_true (wb_and hs).2⟩
  obtain ⟨hnx, htg⟩ := hs2
  subst hnx
  rw [Nat.add_sub_cancel_left] at hd
  have E : wb_i x = wb_i y ↔ x = y := wb_i_eq (b := y) hx hy
  exact lv_icmp_eq hC.1 hC.2.1 hd htg (fun q => kt (E.mp q) p e s m args below meth c H locs ls Qe hC hR hl hf hq) (fun q => kf (fun z => q (E.mpr z)) p e s m args below meth c H locs ls Qe hC hR hl hf hq)
theorem vi_if_eq (k : Nat) {x : Int} {o : Int} (h : (wb_op M)[k]? = some (pc, .ifCond .eq o, nx, tg)) (hx : -2147483648 ≤ x ∧ x ≤ 2147483647) (kt : x = 0 → wb_V G M tg l st N w cc cs Q) (kf : ¬ (x = 0) → wb_V G M nx l st N w cc cs Q) : wb_V G M pc l (.int (wb_i x) :: st) N w cc cs Q := by
  intro p e s m args below meth c H locs ls Qe hC hR hl hf hq
  obtain ⟨hd, hs⟩ := wb_opn hC.2.2.2.2.2.2.2.2.2 h
  have hs2 : nx = pc + 3 ∧ (pc : Int) + o = (tg : Int) := ⟨of_decide_eq_true (wb_and hs).1, of_decide_eq_true (wb_and hs).2⟩
  obtain ⟨hnx, htg⟩ := hs2
  subst hnx
  rw [Nat.add_sub_cancel_left] at hd
  have E : wb_i x = wb_i 0 ↔ x = 0 := wb_i_eq (b := 0) hx (by omega)
  exact lv_if_eq hC.1 hC.2.1 hd htg (fun q => kt (E.mp q) p e s m args below meth c H locs ls Qe hC hR hl hf hq) (fun q => kf (fun z => q (E.mpr z)) p e s m args below meth c H locs ls Qe hC hR hl hf hq)
theorem vi_icmp_ne (k : Nat) {x y : Int} {o : Int} (h : (wb_op M)[k]? = some (pc, .if_icmp .ne o, nx, tg)) (hx : -2147483648 ≤ x ∧ x ≤ 2147483647) (hy : -2147483648 ≤ y ∧ y ≤ 2147483647) (kt : ¬ x = y → wb_V G M tg l st N w cc cs Q) (kf : x = y → wb_V G M nx l st N w cc cs Q) : wb_V G M pc l (.int (wb_i y) :: .int (wb_i x) :: st) N w cc cs Q := by
  intro p e s m args below meth c H locs ls Qe hC hR hl hf hq
  obtain ⟨hd, hs⟩ := wb_opn hC.2.2.2.2.2.2.2.2.2 h
  have hs2 : nx = pc + 3 ∧ (pc : Int) + o = (tg : Int) := ⟨of_decide_eq_true (wb_and hs).1, of_decide_eq_true (wb_and hs).2⟩
  obtain ⟨hnx, htg⟩ := hs2
  subst hnx
  rw [Nat.add_sub_cancel_left] at hd
  have E : wb_i x = wb_i y ↔ x = y := wb_i_eq (b := y) hx hy
  exact lv_icmp_ne hC.1 hC.2.1 hd htg (fun q => kt (fun z => q (E.mpr z)) p e s m args below meth c H locs ls Qe hC hR hl hf hq) (fun q => kf (E.mp q) p e s m args below meth c H locs ls Qe hC hR hl hf hq)
theorem vi_if_ne (k : Nat) {x : Int} {o : Int} (h : (wb_op M)[k]? = some (pc, .ifCond .ne o, nx, tg)) (hx : -2147483648 ≤ x ∧ x ≤ 2147483647) (kt : ¬ x = 0 → wb_V G M tg l st N w cc cs Q) (kf : x = 0 → wb_V G M nx l st N w cc cs Q) : wb_V G M pc l (.int (wb_i x) :: st) N w cc cs Q := by
  intro p e s m args below meth c H locs ls Qe hC hR hl hf hq
  obtain ⟨hd, hs⟩ := wb_opn hC.2.2.2.2.2.2.2.2.2 h
  have hs2 : nx = pc + 3 ∧ (pc : Int) + o = (tg : Int) := ⟨of_decide_eq_true (wb_and hs).1, of_decide_eq_true (wb_and hs).2⟩
  obtain ⟨hnx, htg⟩ := hs2
  subst hnx
  rw [Nat.add_sub_cancel_left] at hd
  have E : wb_i x = wb_i 0 ↔ x = 0 := wb_i_eq (b := 0) hx (by omega)
  exact lv_if_ne hC.1 hC.2.1 hd htg (fun q => kt (fun z => q (E.mpr z)) p e s m args below meth c H locs ls Qe hC hR hl hf hq) (fun q => kf (E.mp q) p e s m args below meth c H locs ls Qe hC hR hl hf hq)
theorem vi_icmp_lt (k : Nat) {x y : Int} {o : Int} (h : (wb_op M)[k]? = some (pc, .if_icmp .lt o, nx, tg)) (hx : -2147483648 ≤ x ∧ x ≤ 2147483647) (hy : -2147483648 ≤ y ∧ y ≤ 2147483647) (kt : x < y → wb_V G M tg l st N w cc cs Q) (kf : ¬ (x < y) → wb_V G M nx l st N w cc cs Q) : wb_V G M pc l (.int (wb_i y) :: .int (wb_i x) :: st) N w cc cs Q := by
  intro p e s m args below meth c H locs ls Qe hC hR hl hf hq
  obtain ⟨hd, hs⟩ := wb_opn hC.2.2.2.2.2.2.2.2.2 h
  have hs2 : nx = pc + 3 ∧ (pc : Int) + o = (tg : Int) := ⟨of_decide_eq_true (wb_and hs).1, of_decide_eq_true (wb_and hs).2⟩
  obtain ⟨hnx, htg⟩ := hs2
  subst hnx
  rw [Nat.add_sub_cancel_left] at hd
  have E : wb_i x < wb_i y ↔ x < y := wb_i_lt (b := y) hx hy
  exact lv_icmp_lt hC.1 hC.2.1 hd htg (fun q => kt (E.mp q) p e s m args below meth c H locs ls Qe hC hR hl hf hq) (fun q => kf (fun z => q (E.mpr z)) p e s m args below meth c H locs ls Qe hC hR hl hf hq)
theorem vi_if_lt (k : Nat) {x : Int} {o : Int} (h : (wb_op M)[k]? = some (pc, .ifCond .lt o, nx, tg)) (hx : -2147483648 ≤ x ∧ x ≤ 2147483647) (kt : x < 0 → wb_V G M tg l st N w cc cs Q) (kf : ¬ (x < 0) → wb_V G M nx l st N w cc cs Q) : wb_V G M pc l (.int (wb_i x) :: st) N w cc cs Q := by
  intro p e s m args below meth c H locs ls Qe hC hR hl hf hq
  obtain ⟨hd, hs⟩ := wb_opn hC.2.2.2.2.2.2.2.2.2 h
  have hs2 : nx = pc + 3 ∧ (pc : Int) + o = (tg : Int) := ⟨of_decide_eq_true (wb_and hs).1, of_decide_eq_true (wb_and hs).2⟩
  obtain ⟨hnx, htg⟩ := hs2
  subst hnx
  rw [Nat.add_sub_cancel_left] at hd
  have E : wb_i x < wb_i 0 ↔ x < 0 := wb_i_lt (b := 0) hx (by omega)
  exact lv_if_lt hC.1 hC.2.1 hd htg (fun q => kt (E.mp q) p e s m args below meth c H locs ls Qe hC hR hl hf hq) (fun q => kf (fun z => q (E.mpr z)) p e s m args below meth c H locs ls Qe hC hR hl hf hq)
theorem vi_icmp_le (k : Nat) {x y : Int} {o : Int} (h : (wb_op M)[k]? = some (pc, .if_icmp .le o, nx, tg)) (hx : -2147483648 ≤ x ∧ x ≤ 2147483647) (hy : -2147483648 ≤ y ∧ y ≤ 2147483647) (kt : x ≤ y → wb_V G M tg l st N w cc cs Q) (kf : ¬ (x ≤ y) → wb_V G M nx l st N w cc cs Q) : wb_V G M pc l (.int (wb_i y) :: .int (wb_i x) :: st) N w cc cs Q := by
  intro p e s m args below meth c H locs ls Qe hC hR hl hf hq
  obtain ⟨hd, hs⟩ := wb_opn hC.2.2.2.2.2.2.2.2.2 h
  have hs2 : nx = pc + 3 ∧ (pc : Int) + o = (tg : Int) := ⟨of_decide_eq_true (wb_and hs).1, of_decide_eq_true (wb_and hs).2⟩
  obtain ⟨hnx, htg⟩ := hs2
  subst hnx
  rw [Nat.add_sub_cancel_left] at hd
  have E : wb_i x ≤ wb_i y ↔ x ≤ y := wb_i_le (b := y) hx hy
  exact lv_icmp_le hC.1 hC.2.1 hd htg (fun q => kt (E.mp q) p e s m args below meth c H locs ls Qe hC hR hl hf hq) (fun q => kf (fun z => q (E.mpr z)) p e s m args below meth c H locs ls Qe hC hR hl hf hq)
theorem vi_if_le (k : Nat) {x : Int} {o : Int} (h : (wb_op M)[k]? = some (pc, .ifCond .le o, nx, tg)) (hx : -2147483648 ≤ x ∧ x ≤ 2147483647) (kt : x ≤ 0 → wb_V G M tg l st N w cc cs Q) (kf : ¬ (x ≤ 0) → wb_V G M nx l st N w cc cs Q) : wb_V G M pc l (.int (wb_i x) :: st) N w cc cs Q := by
  intro p e s m args below meth c H locs ls Qe hC hR hl hf hq
  obtain ⟨hd, hs⟩ := wb_opn hC.2.2.2.2.2.2.2.2.2 h
  have hs2 : nx = pc + 3 ∧ (pc : Int) + o = (tg : Int) := ⟨of_decide_eq_true (wb_and hs).1, of_decide_eq_true (wb_and hs).2⟩
  obtain ⟨hnx, htg⟩ := hs2
  subst hnx
  rw [Nat.add_sub_cancel_left] at hd
  have E : wb_i x ≤ wb_i 0 ↔ x ≤ 0 := wb_i_le (b := 0) hx (by omega)
  exact lv_if_le hC.1 hC.2.1 hd htg (fun q => kt (E.mp q) p e s m args below meth c H locs ls Qe hC hR hl hf hq) (fun q => kf (fun z => q (E.mpr z)) p e s m args below meth c H locs ls Qe hC hR hl hf hq)
theorem vi_icmp_gt (k : Nat) {x y : Int} {o : Int} (h : (wb_op M)[k]? = some (pc, .if_icmp .gt o, nx, tg)) (hx : -2147483648 ≤ x ∧ x ≤ 2147483647) (hy : -2147483648 ≤ y ∧ y ≤ 2147483647) (kt : y < x → wb_V G M tg l st N w cc cs Q) (kf : ¬ (y < x) → wb_V G M nx l st N w cc cs Q) : wb_V G M pc l (.int (wb_i y) :: .int (wb_i x) :: st) N w cc cs Q := by
  intro p e s m args below meth c H locs ls Qe hC hR hl hf hq
  obtain ⟨hd, hs⟩ := wb_opn hC.2.2.2.2.2.2.2.2.2 h
  have hs2 : nx = pc + 3 ∧ (pc : Int) + o = (tg : Int) := ⟨of_decide_eq_true (wb_and hs).1, of_decide_eq_true (wb_and hs).2⟩
  obtain ⟨hnx, htg⟩ := hs2
  subst hnx
  rw [Nat.add_sub_cancel_left] at hd
  have E : wb_i y < wb_i x ↔ y < x := wb_i_lt (a := y) hy hx
  exact lv_icmp_gt hC.1 hC.2.1 hd htg (fun q => kt (E.mp q) p e s m args below meth c H locs ls Qe hC hR hl hf hq) (fun q => kf (fun z => q (E.mpr z)) p e s m args below meth c H locs ls Qe hC hR hl hf hq)
theorem vi_if_gt (k : Nat) {x : Int} {o : Int} (h : (wb_op M)[k]? = some (pc, .ifCond .gt o, nx, tg)) (hx : -2147483648 ≤ x ∧ x ≤ 2147483647) (kt : 0 < x → wb_V G M tg l st N w cc cs Q) (kf : ¬ (0 < x) → wb_V G M nx l st N w cc cs Q) : wb_V G M pc l (.int (wb_i x) :: st) N w cc cs Q := by
  intro p e s m args below meth c H locs ls Qe hC hR hl hf hq
  obtain ⟨hd, hs⟩ := wb_opn hC.2.2.2.2.2.2.2.2.2 h
  have hs2 : nx = pc + 3 ∧ (pc : Int) + o = (tg : Int) := ⟨of_decide_eq_true (wb_and hs).1, of_decide_eq_true (wb_and hs).2⟩
  obtain ⟨hnx, htg⟩ := hs2
  subst hnx
  rw [Nat.add_sub_cancel_left] at hd
  have E : wb_i 0 < wb_i x ↔ 0 < x := wb_i_lt (a := 0) (by omega) hx
  exact lv_if_gt hC.1 hC.2.1 hd htg (fun q => kt (E.mp q) p e s m args below meth c H locs ls Qe hC hR hl hf hq) (fun q => kf (fun z => q (E.mpr z)) p e s m args below meth c H locs ls Qe hC hR hl hf hq)
theorem vi_icmp_ge (k : Nat) {x y : Int} {o : Int} (h : (wb_op M)[k]? = some (pc, .if_icmp .ge o, nx, tg)) (hx : -2147483648 ≤ x ∧ x ≤ 2147483647) (hy : -2147483648 ≤ y ∧ y ≤ 2147483647) (kt : y ≤ x → wb_V G M tg l st N w cc cs Q) (kf : ¬ (y ≤ x) → wb_V G M nx l st N w cc cs Q) : wb_V G M pc l (.int (wb_i y) :: .int (wb_i x) :: st) N w cc cs Q := by
  intro p e s m args below meth c H locs ls Qe hC hR hl hf hq
  obtain ⟨hd, hs⟩ := wb_opn hC.2.2.2.2.2.2.2.2.2 h
  have hs2 : nx = pc + 3 ∧ (pc : Int) + o = (tg : Int) := ⟨of_decide_eq_true (wb_and hs).1, of_decide_eq_true (wb_and hs).2⟩
  obtain ⟨hnx, htg⟩ := hs2
  subst hnx
  rw [Nat.add_sub_cancel_left] at hd
  have E : wb_i y ≤ wb_i x ↔ y ≤ x := wb_i_le (a := y) hy hx
  exact lv_icmp_ge hC.1 hC.2.1 hd htg (fun q => kt (E.mp q) p e s m args below meth c H locs ls Qe hC hR hl hf hq) (fun q => kf (fun z => q (E.mpr z)) p e s m args below meth c H locs ls Qe hC hR hl hf hq)
theorem vi_if_ge (k : Nat) {x : Int} {o : Int} (h : (wb_op M)[k]? = some (pc, .ifCond .ge o, nx, tg)) (hx : -2147483648 ≤ x ∧ x ≤ 2147483647) (kt : 0 ≤ x → wb_V G M tg l st N w cc cs Q) (kf : ¬ (0 ≤ x) → wb_V G M nx l st N w cc cs Q) : wb_V G M pc l (.int (wb_i x) :: st) N w cc cs Q := by
  intro p e s m args below meth c H locs ls Qe hC hR hl hf hq
  obtain ⟨hd, hs⟩ := wb_opn hC.2.2.2.2.2.2.2.2.2 h
  have hs2 : nx = pc + 3 ∧ (pc : Int) + o = (tg : Int) := ⟨of_decide_eq_true (wb_and hs).1, of_decide_eq_true (wb_and hs).2⟩
  obtain ⟨hnx, htg⟩ := hs2
  subst hnx
  rw [Nat.add_sub_cancel_left] at hd
  have E : wb_i 0 ≤ wb_i x ↔ 0 ≤ x := wb_i_le (a := 0) (by omega) hx
  exact lv_if_ge hC.1 hC.2.1 hd htg (fun q => kt (E.mp q) p e s m args below meth c H locs ls Qe hC hR hl hf hq) (fun q => kf (fun z => q (E.mpr z)) p e s m args below meth c H locs ls Qe hC hR hl hf hq)
theorem vi_if_eq32 (k : Nat) {x : Int32} {o : Int} (h : (wb_op M)[k]? = some (pc, .ifCond .eq o, nx, tg)) (kt : x = 0 → wb_V G M tg l st N w cc cs Q) (kf : ¬ x = 0 → wb_V G M nx l st N w cc cs Q) : wb_V G M pc l (.int x :: st) N w cc cs Q := by
  intro p e s m args below meth c H locs ls Qe hC hR hl hf hq
  obtain ⟨hd, hs⟩ := wb_opn hC.2.2.2.2.2.2.2.2.2 h
  have hs2 : nx = pc + 3 ∧ (pc : Int) + o = (tg : Int) := ⟨of_decide_eq_true (wb_and hs).1, of_decide_eq_true (wb_and hs).2⟩
  obtain ⟨hnx, htg⟩ := hs2
  subst hnx
  rw [Nat.add_sub_cancel_left] at hd
  exact lv_if_eq hC.1 hC.2.1 hd htg (fun q => kt q p e s m args below meth c H locs ls Qe hC hR hl hf hq) (fun q => kf q p e s m args below meth c H locs ls Qe hC hR hl hf hq)
theorem vi_if_ne32 (k : Nat) {x : Int32} {o : Int} (h : (wb_op M)[k]? = some (pc, .ifCond .ne o, nx, tg)) (kt : ¬ x = 0 → wb_V G M tg l st N w cc cs Q) (kf : x = 0 → wb_V G M nx l st N w cc cs Q) : wb_V G M pc l (.int x :: st) N w cc cs Q := by
  intro p e s m args below meth c H locs ls Qe hC hR hl hf hq
  obtain ⟨hd, hs⟩ := wb_opn hC.2.2.2.2.2.2.2.2.2 h
  have hs2 : nx = pc + 3 ∧ (pc : Int) + o = (tg : Int) := ⟨of_decide_eq_true (wb_and hs).1, of_decide_eq_true (wb_and hs).2⟩
  obtain ⟨hnx, htg⟩ := hs2
  subst hnx
  rw [Nat.add_sub_cancel_left] at hd
  exact lv_if_ne hC.1 hC.2.1 hd htg (fun q => kt q p e s m args below meth c H locs ls Qe hC hR hl hf hq) (fun q => kf q p e s m args below meth c H locs ls Qe hC hR hl hf hq)
theorem vi_goto (k : Nat) {o : Int} (h : (wb_op M)[k]? = some (pc, .goto o, nx, tg)) (kk : wb_V G M tg l st N w cc cs Q) : wb_V G M pc l st N w cc cs Q := by
  intro p e s m args below meth c H locs ls Qe hC hR hl hf hq
  obtain ⟨hd, hs⟩ := wb_opn hC.2.2.2.2.2.2.2.2.2 h
  have hs2 : nx = pc + 3 ∧ (pc : Int) + o = (tg : Int) := ⟨of_decide_eq_true (wb_and hs).1, of_decide_eq_true (wb_and hs).2⟩
  obtain ⟨hnx, htg⟩ := hs2
  subst hnx
  rw [Nat.add_sub_cancel_left] at hd
  exact lv_goto hC.1 hC.2.1 hd htg (kk p e s m args below meth c H locs ls Qe hC hR hl hf hq)
theorem vi_tab (k : Nat) {dflt lo hi : Int} {offs : Array Int} {x : Int} (t : Nat) (h : (wb_op M)[k]? = some (pc, .tableswitch dflt lo hi offs, nx, tg)) (hx : -2147483648 ≤ x ∧ x ≤ 2147483647) (ht : ((x < lo ∨ hi < x) ∧ (pc : Int) + dflt = (t : Int)) ∨ (lo ≤ x ∧ x ≤ hi ∧ ∃ off, offs[(x - lo).toNat]? = some off ∧ (pc : Int) + off = (t : Int))) (kk : wb_V G M t l st N w cc cs Q) : wb_V G M pc l (.int (wb_i x) :: st) N w cc cs Q := by
  intro p e s m args below meth c H locs ls Qe hC hR hl hf hq
  obtain ⟨hd, hs⟩ := wb_opn hC.2.2.2.2.2.2.2.2.2 h
  rcases ht with ⟨h1, h2⟩ | ⟨h1, h2, off, h3, h4⟩
  · exact lv_tableOut hC.1 hC.2.1 hd (by rw [wb_i_toInt hx]; exact h1) h2 (kk p e s m args below meth c H locs ls Qe hC hR hl hf hq)
  · exact lv_tableIn hC.1 hC.2.1 hd (by rw [wb_i_toInt hx]; omega) (by rw [wb_i_toInt hx]; omega) (by rw [wb_i_toInt hx]; exact h3) h4 (kk p e s m args below meth c H locs ls Qe hC hR hl hf hq)
theorem vi_loc (l' : List (Nat × Value)) (hl' : wb_loc l l') (kk : wb_V G M pc l' st N w cc cs Q) : wb_V G M pc l st N w cc cs Q := by
  intro p e s m args below meth c H locs ls Qe hC hR hl hf hq
  refine kk p e s m args below meth c H locs ls Qe hC hR ⟨hl.1, hl.2.1, fun q hq2 => ?_⟩ hf hq
  obtain ⟨r, hr, rfl⟩ := List.mem_map.mp hq2
  have : ∀ l', wb_loc l l' → ∀ r ∈ l', wb_get l r.1 = some r.2 := by
    intro l'
    induction l' with
    | nil => intro _ r hr; cases hr
    | cons a b ih =>
      intro h r hr
      rcases List.mem_cons.mp hr with rfl | hr
      · exact h.1
      · exact ih h.2 r hr
  exact wb_at_l hl (this l' hl' r hr)
theorem vi_Q {Q' : Option Value → Nat → wb_W → Prop} (hQ : ∀ v n u, Q' v n u → Q v n u) (kk : wb_V G M pc l st N w cc cs Q') : wb_V G M pc l st N w cc cs Q := by
  intro p e s m args below meth c H locs ls Qe hC hR hl hf hq
  exact kk p e s m args below meth c H locs ls Qe hC hR hl hf (fun v N' w' H' locs' cc' cs' pc' ls' h1 => hq v N' w' H' locs' cc' cs' pc' ls' (hQ v N' w' h1))
theorem vi_ireturn (k : Nat) {x : Int32} (h : (wb_op M)[k]? = some (pc, .ireturn, nx, tg)) {ty : FieldType} (hr : wb_rt M = some ty) (hn : narrow ty (.int x) = .int x) (h1 : cc ≤ (wb_rm M).cells) (h2 : cs ≤ (wb_rm M).slots) (hQ : Q (some (.int x)) N w) : wb_V G M pc l [.int x] N w cc cs Q := by
  intro p e s m args below meth c H locs ls Qe hC hR hl hf hq
  obtain ⟨hd, hs⟩ := wb_opn hC.2.2.2.2.2.2.2.2.2 h
  have hnx : nx = pc + 1 := of_decide_eq_true hs
  subst hnx
  rw [Nat.add_sub_cancel_left] at hd
  exact hq (some (.int x)) N w H locs cc cs pc ls hQ hR hf h1 h2 (Or.inl ⟨hd, x, ty, rfl, hr, hn⟩)
theorem vi_lreturn (k : Nat) {x : Int64} (h : (wb_op M)[k]? = some (pc, .lreturn, nx, tg)) (hr : wb_rt M = some .long) (h1 : cc ≤ (wb_rm M).cells) (h2 : cs ≤ (wb_rm M).slots) (hQ : Q (some (.long x)) N w) : wb_V G M pc l [.long x] N w cc cs Q := by
  intro p e s m args below meth c H locs ls Qe hC hR hl hf hq
  obtain ⟨hd, hs⟩ := wb_opn hC.2.2.2.2.2.2.2.2.2 h
  have hnx : nx = pc + 1 := of_decide_eq_true hs
  subst hnx
  rw [Nat.add_sub_cancel_left] at hd
  exact hq (some (.long x)) N w H locs cc cs pc ls hQ hR hf h1 h2 (Or.inr (Or.inl ⟨hd, x, rfl, hr⟩))
theorem vi_areturn (k : Nat) {x : Nat} {n : String} (h : (wb_op M)[k]? = some (pc, .areturn, nx, tg)) (hr : wb_rt M = some (.object n)) (h1 : cc ≤ (wb_rm M).cells) (h2 : cs ≤ (wb_rm M).slots) (hQ : Q (some (.ref x)) N w) : wb_V G M pc l [.ref x] N w cc cs Q := by
  intro p e s m args below meth c H locs ls Qe hC hR hl hf hq
  obtain ⟨hd, hs⟩ := wb_opn hC.2.2.2.2.2.2.2.2.2 h
  have hnx : nx = pc + 1 := of_decide_eq_true hs
  subst hnx
  rw [Nat.add_sub_cancel_left] at hd
  exact hq (some (.ref x)) N w H locs cc cs pc ls hQ hR hf h1 h2 (Or.inr (Or.inr (Or.inl ⟨hd, x, n, rfl, hr⟩)))
theorem vi_return (k : Nat) (h : (wb_op M)[k]? = some (pc, .return_, nx, tg)) (hr : wb_rt M = none) (h1 : cc ≤ (wb_rm M).cells) (h2 : cs ≤ (wb_rm M).slots) (hQ : Q none N w) : wb_V G M pc l [] N w cc cs Q := by
  intro p e s m args below meth c H locs ls Qe hC hR hl hf hq
  obtain ⟨hd, hs⟩ := wb_opn hC.2.2.2.2.2.2.2.2.2 h
  have hnx : nx = pc + 1 := of_decide_eq_true hs
  subst hnx
  rw [Nat.add_sub_cancel_left] at hd
  exact hq none N w H locs cc cs pc ls hQ hR hf h1 h2 (Or.inr (Or.inr (Or.inr ⟨hd, rfl, hr⟩)))
end WBROWS
