/-! ===== the pure machine: places instead of addresses, one world, one judgement 'wb_V' over the kit's W ===== -/
/-- an instruction: its place, what it is, the next place, the place that it may jump to -/
abbrev wb_O : Type := Nat × Instr × Nat × Nat
/-- a method: name, bytes, locals, what it returns, its room, its instructions -/
abbrev wb_MD : Type := MethodName × ByteArray × Nat × Option FieldType × Room × List wb_O
abbrev wb_nm (M : wb_MD) : MethodName := M.1
abbrev wb_by (M : wb_MD) : ByteArray := M.2.1
abbrev wb_ml (M : wb_MD) : Nat := M.2.2.1
abbrev wb_rt (M : wb_MD) : Option FieldType := M.2.2.2.1
abbrev wb_rm (M : wb_MD) : Room := M.2.2.2.2.1
abbrev wb_op (M : wb_MD) : List wb_O := M.2.2.2.2.2
def wb_GW : List Cond := lw_tbl.filter goodWord
def wb_isN : Cond → Bool
  | .fieldLinkNest .. => true
  | .methodLinkNest .. => true
  | _ => false
def wb_NW : List Cond := tables_1.filter wb_isN
def wb_len : Instr → Nat
  | .bipush _ => 2
  | .iload _ => 2
  | .lload _ => 2
  | .aload _ => 2
  | .istore _ => 2
  | .lstore _ => 2
  | .astore _ => 2
  | .ldc _ => 2
  | .newarray _ => 2
  | .sipush _ => 3
  | .iinc _ _ => 3
  | .if_icmp _ _ => 3
  | .ifCond _ _ => 3
  | .goto _ => 3
  | .getfield _ => 3
  | .putfield _ => 3
  | .getstatic _ => 3
  | .invokevirtual _ => 3
  | .invokespecial _ => 3
  | .invokestatic _ => 3
  | .new _ => 3
  | .anewarray _ => 3
  | .ldc2_w _ => 3
  | .ldc_w _ => 3
  | _ => 1
def wb_sh (q : wb_O) : Bool := match q with
  | (pc, .if_icmp _ o, nx, tg) => decide (nx = pc + 3) && decide ((pc : Int) + o = (tg : Int))
  | (pc, .ifCond _ o, nx, tg) => decide (nx = pc + 3) && decide ((pc : Int) + o = (tg : Int))
  | (pc, .goto o, nx, tg) => decide (nx = pc + 3) && decide ((pc : Int) + o = (tg : Int))
  | (_, .tableswitch .., _, _) => true
  | (pc, i, nx, _) => decide (nx = pc + wb_len i)
def wb_OD (M : wb_MD) : Prop := (∀ q ∈ wb_op M, decode (wb_by M) q.1 = .ok (q.2.1, q.2.2.1 - q.1)) ∧ (∀ q ∈ wb_op M, wb_sh q = true)
def wb_OK (M : wb_MD) : Prop := (∀ q ∈ wb_op M, decode (wb_by M) q.1 = .ok (q.2.1, q.2.2.1 - q.1)) ∧ (∀ q ∈ wb_op M, wb_sh q = true) ∧ Cond.code (wb_nm M) (wb_by M) (wb_ml M) (wb_rt M) ∈ wb_GW ∧ Cond.initialized (wb_nm M).cls ∈ wb_GW ∧ plainName (wb_nm M).cls = true ∧ (wb_nm M).cls ≠ "java/lang/invoke/MethodHandle" ∧ (wb_nm M).cls ≠ "java/lang/invoke/VarHandle"
/-- launch, base of the heap, addresses of what lies below it, classes, array classes, the script's length and ints -/
abbrev wb_G : Type := Launch × Nat × (Nat → Nat) × va_G × (Nat → ClassId) × Nat × (Nat → Int32)
abbrev wb_gl (G : wb_G) : Launch := G.1
abbrev wb_gb (G : wb_G) : Nat := G.2.1
abbrev wb_gx (G : wb_G) : Nat → Nat := G.2.2.1
abbrev wb_gD (G : wb_G) : va_G := G.2.2.2.1
abbrev wb_gc (G : wb_G) : Nat → ClassId := G.2.2.2.2.1
abbrev wb_gL (G : wb_G) : Nat := G.2.2.2.2.2.1
abbrev wb_gs (G : wb_G) : Nat → Int32 := G.2.2.2.2.2.2
/-- the script is place 0, STOCK_MOST place 1, CELL_MOST place 2 -/
def wb_sm : Nat → Int32 := fun j => if j = 2 then 199 else if j = 3 then 5 else 99
def wb_cm : Nat → Int32 := fun j => if j = 3 then 5 else if j = 4 then 20 else if j = 5 then 20 else 99
def wb_xL (G : wb_G) (k : Nat) : Nat := if k = 0 then wb_gL G else if k = 1 then 4 else 9
def wb_xF (G : wb_G) (k : Nat) : Nat → Int32 := if k = 0 then wb_gs G else if k = 1 then wb_sm else wb_cm
def wb_ad (G : wb_G) (k : Nat) : Nat := if k < 3 then wb_gx G k else wb_gb G + (k - 3)
def wb_tr (G : wb_G) (v : Value) : Value := match v with
  | .ref k => .ref (wb_ad G k)
  | v => v
def wb_tA (G : wb_G) (a : vp_A) : vp_A := match a with
  | (n, .inr (.inr (.inr (.inr g)))) => (n, .inr (.inr (.inr (.inr (fun j => (g j).map (wb_ad G))))))
  | a => a
def wb_tE (G : wb_G) (e : va_E) : va_E := match e with
  | .inl x => .inl (wb_gc G x.1, wb_tA G x.2)
  | .inr o => .inr (o.1, o.2.map (wb_tr G))
def wb_tL (G : wb_G) (l : List (Nat × Value)) : List (Nat × Value) := l.map (fun q => (q.1, wb_tr G q.2))
def wb_ty (G : wb_G) : List (ClassId × FieldType) := [(wb_gc G 0, .int), (wb_gc G 1, .long), (wb_gc G 2, .boolean), (wb_gc G 3, .byte), (wb_gc G 4, .object RX0), (wb_gc G 5, .object RX2)]
abbrev wb_W : Type := Nat → va_E
/-- what lies at a place that isn't made -/
def wb_no : va_E := .inr (99, [])
/-- an array of ints below the base: it has these ints at least, and that length as the machine tells it -/
def wb_Xw (b L : Nat) (xs : Nat → Int32) (U : State) (H : Heap) : Prop := ∃ scr : Cell, H[b]? = some scr ∧ U.isArrayOf scr .int ∧ scr.vm ≠ .unknown ∧ L ≤ scr.slots.size ∧ scr.slots.size.toInt32 = Int32.ofNat L ∧ ∀ j : Nat, j < L → scr.slots[j]? = some (.int (xs j))
theorem wb_Xw.kept {b L : Nat} {xs : Nat → Int32} {U : State} {H H1 : Heap} (h : wb_Xw b L xs U H) (hq : H1[b]? = H[b]?) : wb_Xw b L xs U H1 := by
  obtain ⟨scr, h1, h2⟩ := h
  exact ⟨scr, hq.trans h1, h2⟩
theorem wb_Xw.moved {b L : Nat} {xs : Nat → Int32} {u U : State} {H : Heap} (hvm : u.vm.Alike U.vm) (h : wb_Xw b L xs u H) : wb_Xw b L xs U H := by
  obtain ⟨scr, h1, h2, h3⟩ := h
  exact ⟨scr, h1, State.isArrayOf_alike hvm h2, h3⟩
def wb_KS (G : wb_G) (s : State) : Prop := va_K (wb_gD G) vwCl (wb_ty G) s ∧ (∀ w ∈ wb_NW, va_Nw w s) ∧ va_AO RX0 s ∧ va_AO RX2 s
def wb_at (G : wb_G) (k : Nat) (e : va_E) (H : Heap) : Prop := va_at (wb_gD G) vwCl (wb_ad G k, wb_tE G e) H
def wb_R (G : wb_G) (s : State) (H : Heap) (N : Nat) (w : wb_W) : Prop :=
  3 ≤ N ∧ H.size = wb_gb G + (N - 3) ∧ (∀ k, 3 ≤ k → k < N → wb_at G k (w k) H) ∧ (∀ k, k < 3 → wb_gx G k < wb_gb G ∧ wb_Xw (wb_gx G k) (wb_xL G k) (wb_xF G k) s H) ∧
  va_Z RX11 "STOCK_MOST" "[I" (.ref (wb_gx G 1)) (fun q => wb_gb G ≤ q) s H ∧ va_Z RX11 "CELL_MOST" "[I" (.ref (wb_gx G 2)) (fun q => wb_gb G ≤ q) s H ∧ ∀ k, (k < 3 ∨ N ≤ k) → w k = wb_no
def wb_C (G : wb_G) (M : wb_MD) (p : Program) (s : State) (m : MethodId) (args : Array Value) (meth : Method) (c : Code) : Prop :=
  p.tables.exec = Jvm.exec ∧ c.code = wb_by M ∧ c.maxLocals = wb_ml M ∧ meth.sig.returnType = wb_rt M ∧ meth.locks = false ∧ meth.name = (wb_nm M).name ∧ s.vm.findClass (wb_nm M).cls = some m.cls ∧ (∀ w ∈ wb_GW, w.before args s = true) ∧ wb_KS G s ∧ wb_OD M
/-- a return instruction stands there, for that answer -/
def wb_ret (M : wb_MD) (pc : Nat) (v : Option Value) : Prop :=
  (decode (wb_by M) pc = .ok (.ireturn, 1) ∧ ∃ (x : Int32) (ty : FieldType), v = some (.int x) ∧ wb_rt M = some ty ∧ narrow ty (.int x) = .int x) ∨
  (decode (wb_by M) pc = .ok (.lreturn, 1) ∧ ∃ x : Int64, v = some (.long x) ∧ wb_rt M = some .long) ∨
  (decode (wb_by M) pc = .ok (.areturn, 1) ∧ ∃ (k : Nat) (n : String), v = some (.ref k) ∧ wb_rt M = some (.object n)) ∨
  (decode (wb_by M) pc = .ok (.return_, 1) ∧ v = none ∧ wb_rt M = none)
/-- from the method's place pc, with these locals, this stack, this world, the machine comes to its return, with an answer and a world for which Q holds -/
def wb_V (G : wb_G) (M : wb_MD) (pc : Nat) (l : List (Nat × Value)) (st : List Value) (N : Nat) (w : wb_W) (cc cs : Nat) (Q : Option Value → Nat → wb_W → Prop) : Prop :=
  ∀ (p : Program) (e : Env) (s : State) (m : MethodId) (args : Array Value) (below : List Frame) (meth : Method) (c : Code) (H : Heap) (locs : List Loc) (ls : Array Slot) (Qe : State → Prop),
    wb_C G M p s m args meth c → wb_R G s H N w → lv_has ls (wb_ml M) (wb_tL G l) → (∀ q ∈ locs, wb_gb G ≤ q.base) →
    (∀ (v : Option Value) (N' : Nat) (w' : wb_W) (H' : Heap) (locs' : List Loc) (cc' cs' pc' : Nat) (ls' : Array Slot), Q v N' w' → wb_R G s H' N' w' → (∀ q ∈ locs', wb_gb G ≤ q.base) → cc' ≤ (wb_rm M).cells → cs' ≤ (wb_rm M).slots → wb_ret M pc' v → W p (wb_gl G) e (wb_rm M) s m args below meth c H' locs' cc' cs' Qe (F0 m pc' ls' (v.toList.map (wb_tr G)))) →
    W p (wb_gl G) e (wb_rm M) s m args below meth c H locs cc cs Qe (F0 m pc ls (st.map (wb_tr G)))
/-- a call of a method with these arguments in this world -/
def wb_M (G : wb_G) (M : wb_MD) (As : List Value) (N : Nat) (w : wb_W) (Q : Option Value → Nat → wb_W → Prop) : Prop := wb_V G M 0 (lv_args 0 As) [] N w 0 0 Q
theorem wb_opn {M : wb_MD} (h : wb_OD M) {k pc nx tg : Nat} {i : Instr} (ho : (wb_op M)[k]? = some (pc, i, nx, tg)) : decode (wb_by M) pc = .ok (i, nx - pc) ∧ wb_sh (pc, i, nx, tg) = true := by
  have hm := List.mem_of_getElem? ho
  have h1 := h.1 (pc, i, nx, tg) hm
  have h2 := h.2 (pc, i, nx, tg) hm
  exact ⟨h1, h2⟩
theorem wb_R.set {G : wb_G} {s : State} {H H1 : Heap} {N k : Nat} {w : wb_W} {e : va_E} (h : wb_R G s H N w) (h3 : 3 ≤ k) (hk : k < N) (hz : H1.size = H.size) (ho : ∀ q, q ≠ wb_ad G k → H1[q]? = H[q]?) (ha : wb_at G k e H1) : wb_R G s H1 N (va_up w k e) := by
  obtain ⟨r1, r2, r3, r4, r5, r6, r7⟩ := h
  have hadk : wb_ad G k = wb_gb G + (k - 3) := by unfold wb_ad; rw [if_neg (by omega)]
  refine ⟨r1, by rw [hz]; exact r2, fun j h1 h2 => ?_, fun j hj => ⟨(r4 j hj).1, (r4 j hj).2.kept (ho _ ?_)⟩, r5.kept fun a _ hq => ho a ?_, r6.kept fun a _ hq => ho a ?_, fun j hj => ?_⟩
  · by_cases hjk : j = k
    · subst hjk
      simpa [va_up] using ha
    · have hne : wb_ad G j ≠ wb_ad G k := by
        rw [hadk]; unfold wb_ad; rw [if_neg (by omega)]; omega
      have := r3 j h1 h2
      unfold wb_at at this ⊢
      rw [show va_up w k e j = w j by simp [va_up, hjk]]
      exact va_at.kept this (ho _ hne)
  · rw [hadk]; have := (r4 j hj).1; omega
  · rw [hadk]; intro hh; apply hq; omega
  · rw [hadk]; intro hh; apply hq; omega
  · rw [show va_up w k e j = w j by simp [va_up, show j ≠ k by omega]]
    exact r7 j hj
theorem wb_R.push {G : wb_G} {s : State} {H H1 : Heap} {N : Nat} {w : wb_W} {e : va_E} (h : wb_R G s H N w) (hz : H1.size = H.size + 1) (ho : ∀ q, q < H.size → H1[q]? = H[q]?) (ha : va_at (wb_gD G) vwCl (H.size, wb_tE G e) H1) : wb_R G s H1 (N + 1) (va_up w N e) := by
  obtain ⟨r1, r2, r3, r4, r5, r6, r7⟩ := h
  have hadN : wb_ad G N = H.size := by unfold wb_ad; rw [if_neg (by omega), r2]
  refine ⟨by omega, by rw [hz, r2]; omega, fun j h1 h2 => ?_, fun j hj => ⟨(r4 j hj).1, (r4 j hj).2.kept (ho _ ?_)⟩, r5.kept fun a hlt hq => ho a hlt, r6.kept fun a hlt hq => ho a hlt, fun j hj => ?_⟩
  · by_cases hjk : j = N
    · subst hjk
      unfold wb_at
      rw [hadN]
      simpa [va_up] using ha
    · have := r3 j h1 (by omega)
      unfold wb_at at this ⊢
      rw [show va_up w N e j = w j by simp [va_up, hjk]]
      exact va_at.kept this (ho _ (va_at.lt this))
  · have := (r4 j hj).1; omega
  · rw [show va_up w N e j = w j by simp [va_up, show j ≠ N by omega]]
    exact r7 j (by omega)
theorem wb_R.moved {G : wb_G} {s U : State} {H : Heap} {N : Nat} {w : wb_W} (hvm : s.vm.Alike U.vm) (h : wb_R G s H N w) : wb_R G U H N w :=
  ⟨h.1, h.2.1, h.2.2.1, fun k hk => ⟨(h.2.2.2.1 k hk).1, (h.2.2.2.1 k hk).2.moved hvm⟩, h.2.2.2.2.1.moved hvm, h.2.2.2.2.2.1.moved hvm, h.2.2.2.2.2.2⟩
theorem wb_R.rng {G : wb_G} {s : State} {H : Heap} {N : Nat} {w : wb_W} (h : wb_R G s H N w) {k : Nat} (hk : w k ≠ wb_no) : 3 ≤ k ∧ k < N := by
  by_cases h1 : k < 3 ∨ N ≤ k
  · exact absurd (h.2.2.2.2.2.2 k h1) hk
  · omega
theorem wb_nest {w : Cond} (hw : w ∈ wb_NW) {s U : State} (hW : s.WarmedH U.vm) (h : va_Nw w s) : va_Nw w U := by
  have h2 := (List.mem_filter.mp hw).2
  cases w <;> first | exact absurd h2 (by decide) | exact va_Nw.warmF hW h | exact va_Nw.warmM hW h | (simp [wb_isN] at h2; done)
theorem wb_KS.moved {G : wb_G} {s U : State} (hW : s.WarmedH U.vm) (h : wb_KS G s) : wb_KS G U :=
  ⟨va_K.moved hW.alike h.1, fun w hw => wb_nest hw hW (h.2.1 w hw), va_AO.moved hW.alike h.2.2.1, va_AO.moved hW.alike h.2.2.2⟩
