/-! ===== the claim, out of the law's walk (the kit's skeleton; the entry knows the method's name too) ===== -/
def R_law : String := "WorkedBackLaw"
def lw_P (b : Addr) (xs : List Int32) (args : Array Value) (s : State) : Prop := args = #[.ref b] ∧ s.IntsAt b xs ∧ xs.length ≤ 448 ∧ (Jvm.Cond.and given_1 narrow_1).before args s = true
def lw_Q (_ : Array Value) (s : State) (o : Outcome) (t : State) : Prop := o = .returned (some (.int 1)) ∧ Framed s o t [] 600000 7302250
def lw_Z (below : List Frame) (a : Array Value) (s : State) : State → Prop := fun t => ∃ o, t.status = .running ∧ Ended t below o ∧ lw_Q a s o t
/-- the law's own end, with 1 on the stack, nothing written that was there before, its room as the claim has it -/
theorem lw_ret {p : Program} {l : Launch} {e : Env} {s : State} {m : MethodId} {below : List Frame} {meth : Method} {c : Code} {b : Nat} (hx : p.tables.exec = Jvm.exec) (hb : c.code = code) (hr : meth.sig.returnType = ret) (hlocks : meth.locks = false) {pc : Nat} {H : Heap} {ls : Array Slot} (hdg : decode code pc = .ok (.ireturn, 1)) : W p l e room_1 s m #[Value.ref b] below meth c H [] 600000 7302250 (lw_Z below #[Value.ref b] s) (F0 m pc ls [.int 1]) := by
  intro T hT X
  obtain ⟨fs, hret, hrun, hended, hW, hframe⟩ := X.leave (v := some (.int 1)) (hlocks := hlocks) (fun h => by rw [hr] at h; cases h)
  have hmeth' : T.vm.method? m = some meth := X.method'
  refine ⟨T.setFrames fs, ?_, .returned (some (.int 1)), hrun, hended, rfl, ⟨_, rfl⟩, hW, hframe⟩
  jvm_step X.here [X.here.top, hx, hb, hdg, hmeth', hr, ret, narrow_b1]
  (try refine ⟨rfl, ?_⟩); (try refine ⟨rfl, ?_⟩)
  first | (intro acts; rw [hret _ acts rfl rfl rfl]) | rw [hret _ _ rfl rfl rfl]
  exact Steps.refl _
/-- what holds at the law's entry: the machine, the code, the tables' words (any of lw_tbl by 'hts w (by decide +kernel)'), the script of L ints xs at the cell b, what the Statement gives of the start (any of its parts by flat_of_before) -/
def lw_At (p : Program) (s : State) (m : MethodId) (meth : Method) (c : Code) (b L : Nat) (xs : Nat → Int32) : Prop :=
  p.tables.exec = Jvm.exec ∧ c.code = code ∧ meth.sig.returnType = ret ∧ c.maxLocals = 4 ∧ s.vm.findClass R_law = some m.cls ∧ (∀ w ∈ lw_tbl, w.before #[Value.ref b] s = true) ∧ va_X b L xs s s.heap ∧ b < s.heap.size ∧ meth.locks = false ∧ (Jvm.Cond.and given_1 narrow_1).before #[Value.ref b] s = true ∧ meth.name = x.name
-- ===== YOUR PART BEGINS =====
/-- YOUR PART: from the entry, for every script of at most 448 ints, the law comes to its end with true -/
theorem whole_start {p : Program} {e : Env} {s : State} {m : MethodId} {below : List Frame} {meth : Method} {c : Code} (l : Launch) {b L : Nat} {xs : Nat → Int32} (hL : L ≤ 448) (C0 : lw_At p s m meth c b L xs) : W p l e room_1 s m #[Value.ref b] below meth c s.heap [] 0 0 (lw_Z below #[Value.ref b] s) (entryFrame m ([Value.ref b] : List Value).toArray 4) := by
  obtain ⟨zx, zb, zr, zml, zown, zts, zX, zbl, zlocks, zgv, znm⟩ := C0
  have zGW : ∀ w ∈ wb_GW, w.before #[Value.ref b] s = true := fun w hw => zts w (List.mem_filter.mp hw).1
  have zA : ∀ a : Nat, a < s.heap.size → ¬ (fun q : Nat => s.heap.size ≤ q) a := fun a h => Nat.not_le.mpr h
  have zs := flat_of_before _ zgv
  obtain ⟨zc0, zi0, zk0⟩ := u_known zGW cl_0.2.1 (zGW _ cl_0.2.2.2.2.1)
  obtain ⟨zc1, zi1, zk1⟩ := u_known zGW cl_1.2.1 (zGW _ cl_1.2.2.2.2.1)
  obtain ⟨zc2, zi2, zk2⟩ := u_known zGW cl_2.2.1 (zGW _ cl_2.2.2.2.2.1)
  obtain ⟨zc3, zi3, zk3⟩ := u_known zGW cl_3.2.1 (zGW _ cl_3.2.2.2.2.1)
  obtain ⟨zc4, zi4, zk4⟩ := u_known zGW cl_4.2.1 (zGW _ cl_4.2.2.2.2.1)
  obtain ⟨zc5, zi5, zk5⟩ := u_known zGW cl_5.2.1 (zGW _ cl_5.2.2.2.2.1)
  obtain ⟨zc6, zi6, zk6⟩ := u_known zGW cl_6.2.1 (zGW _ cl_6.2.2.2.2.1)
  obtain ⟨zc7, zi7, zk7⟩ := u_known zGW cl_7.2.1 (zGW _ cl_7.2.2.2.2.1)
  obtain ⟨zc8, zi8, zk8⟩ := u_known zGW cl_8.2.1 (zGW _ cl_8.2.2.2.2.1)
  obtain ⟨zc9, zi9, zk9⟩ := u_known zGW cl_9.2.1 (zGW _ cl_9.2.2.2.2.1)
  obtain ⟨zc10, zi10, zk10⟩ := u_known zGW cl_10.2.1 (zGW _ cl_10.2.2.2.2.1)
  obtain ⟨zc11, zi11, zk11⟩ := u_known zGW cl_11.2.1 (zGW _ cl_11.2.2.2.2.1)
  obtain ⟨zc12, zi12, zk12⟩ := u_known zGW cl_12.2.1 (zGW _ cl_12.2.2.2.2.1)
  have zK1 : ∀ k : Nat, ∃ (cC : ClassId) (iS : Nat → Nat), ∀ q : vw_C, vwCl[k]? = some q → u_Kn s q.1 q.2.1 q.2.2 cC iS := by
    intro k
    match k with
    | 0 => exact ⟨zc0, zi0, fun q hq => by cases hq; exact zk0⟩
    | 1 => exact ⟨zc1, zi1, fun q hq => by cases hq; exact zk1⟩
    | 2 => exact ⟨zc2, zi2, fun q hq => by cases hq; exact zk2⟩
    | 3 => exact ⟨zc3, zi3, fun q hq => by cases hq; exact zk3⟩
    | 4 => exact ⟨zc4, zi4, fun q hq => by cases hq; exact zk4⟩
    | 5 => exact ⟨zc5, zi5, fun q hq => by cases hq; exact zk5⟩
    | 6 => exact ⟨zc6, zi6, fun q hq => by cases hq; exact zk6⟩
    | 7 => exact ⟨zc7, zi7, fun q hq => by cases hq; exact zk7⟩
    | 8 => exact ⟨zc8, zi8, fun q hq => by cases hq; exact zk8⟩
    | 9 => exact ⟨zc9, zi9, fun q hq => by cases hq; exact zk9⟩
    | 10 => exact ⟨zc10, zi10, fun q hq => by cases hq; exact zk10⟩
    | 11 => exact ⟨zc11, zi11, fun q hq => by cases hq; exact zk11⟩
    | 12 => exact ⟨zc12, zi12, fun q hq => by cases hq; exact zk12⟩
    | k + 13 => exact ⟨zc0, zi0, fun q hq => by simp [vwCl] at hq⟩
  obtain ⟨zdC, zK2⟩ := Classical.axiomOfChoice zK1
  obtain ⟨zdI, zK3⟩ := Classical.axiomOfChoice zK2
  have zar : ∀ ty : FieldType, Cond.arrayClass ty ∈ wb_GW → ∃ cA : ClassId, ArrOfT s cA ty ∧ s.vm.findClass ("[" ++ ty.toString) = some cA := by
    intro ty h
    obtain ⟨cA, kA, comp, h1, h2, h3⟩ := Cond.arrayClass_spec (zGW _ h)
    exact ⟨cA, fun n z => ⟨fun k h => (by cases h), kA, h2, comp, h3⟩, h1⟩
  obtain ⟨za0, zt0, zn0⟩ := zar .int l_arr_int
  obtain ⟨za1, zt1, zn1⟩ := zar .long l_arr_long
  obtain ⟨za2, zt2, zn2⟩ := zar .boolean l_arr_boolean
  obtain ⟨za3, zt3, zn3⟩ := zar .byte l_arr_byte
  have zin : ∀ (w : Cond) (i : Nat), tables_1[i]? = some w → w.before #[Value.ref b] s = true := fun w i h => zts w (List.mem_append_right _ (List.mem_of_getElem? h))
  have zo4 : (Cond.arrayOver (.object RX0)).before #[Value.ref b] s = true := zin _ 90 (by decide +kernel)
  have zo5 : (Cond.arrayOver (.object RX2)).before #[Value.ref b] s = true := zin _ 206 (by decide +kernel)
  obtain ⟨zp4, za4, zkk4, y41, -, y42, y43, y44⟩ := Cond.arrayOver_spec zo4
  obtain ⟨zp5, za5, zkk5, y51, -, y52, y53, y54⟩ := Cond.arrayOver_spec zo5
  -- the statics
  obtain ⟨zq1, zev1, zT1⟩ := va_Tof (args := #[Value.ref b]) (s := s) (tm := .static "WorkedBack" "STOCK_MOST" "[I") (ty := .int) (N := 4) (f := fun j => .int (wb_sm j)) (A := fun q : Nat => s.heap.size ≤ q) (by decide) (zs (.arrayOf (.static "WorkedBack" "STOCK_MOST" "[I") .int) (by decide +kernel)) (va_eqt (zs (.eq (.length (.static "WorkedBack" "STOCK_MOST" "[I")) (.int 4)) (by decide +kernel))) (fun j hj => by
    match j, hj with
    | 0, _ => exact va_eqt (zs (.eq (.elem (.static "WorkedBack" "STOCK_MOST" "[I") (.int 0)) (.int 99)) (by decide +kernel))
    | 1, _ => exact va_eqt (zs (.eq (.elem (.static "WorkedBack" "STOCK_MOST" "[I") (.int 1)) (.int 99)) (by decide +kernel))
    | 2, _ => exact va_eqt (zs (.eq (.elem (.static "WorkedBack" "STOCK_MOST" "[I") (.int 2)) (.int 199)) (by decide +kernel))
    | 3, _ => exact va_eqt (zs (.eq (.elem (.static "WorkedBack" "STOCK_MOST" "[I") (.int 3)) (.int 5)) (by decide +kernel))
    | j + 4, hj => exact absurd hj (by omega)) zA
  obtain ⟨zq2, zev2, zT2⟩ := va_Tof (args := #[Value.ref b]) (s := s) (tm := .static "WorkedBack" "CELL_MOST" "[I") (ty := .int) (N := 9) (f := fun j => .int (wb_cm j)) (A := fun q : Nat => s.heap.size ≤ q) (by decide) (zs (.arrayOf (.static "WorkedBack" "CELL_MOST" "[I") .int) (by decide +kernel)) (va_eqt (zs (.eq (.length (.static "WorkedBack" "CELL_MOST" "[I")) (.int 9)) (by decide +kernel))) (fun j hj => by
    match j, hj with
    | 0, _ => exact va_eqt (zs (.eq (.elem (.static "WorkedBack" "CELL_MOST" "[I") (.int 0)) (.int 99)) (by decide +kernel))
    | 1, _ => exact va_eqt (zs (.eq (.elem (.static "WorkedBack" "CELL_MOST" "[I") (.int 1)) (.int 99)) (by decide +kernel))
    | 2, _ => exact va_eqt (zs (.eq (.elem (.static "WorkedBack" "CELL_MOST" "[I") (.int 2)) (.int 99)) (by decide +kernel))
    | 3, _ => exact va_eqt (zs (.eq (.elem (.static "WorkedBack" "CELL_MOST" "[I") (.int 3)) (.int 5)) (by decide +kernel))
    | 4, _ => exact va_eqt (zs (.eq (.elem (.static "WorkedBack" "CELL_MOST" "[I") (.int 4)) (.int 20)) (by decide +kernel))
    | 5, _ => exact va_eqt (zs (.eq (.elem (.static "WorkedBack" "CELL_MOST" "[I") (.int 5)) (.int 20)) (by decide +kernel))
    | 6, _ => exact va_eqt (zs (.eq (.elem (.static "WorkedBack" "CELL_MOST" "[I") (.int 6)) (.int 99)) (by decide +kernel))
    | 7, _ => exact va_eqt (zs (.eq (.elem (.static "WorkedBack" "CELL_MOST" "[I") (.int 7)) (.int 99)) (by decide +kernel))
    | 8, _ => exact va_eqt (zs (.eq (.elem (.static "WorkedBack" "CELL_MOST" "[I") (.int 8)) (.int 99)) (by decide +kernel))
    | j + 9, hj => exact absurd hj (by omega)) zA
  have zZ1 : va_Z RX11 "STOCK_MOST" "[I" (.ref zq1) (fun q : Nat => s.heap.size ≤ q) s s.heap := va_Zref (zin (.laysStatic RX11 "STOCK_MOST" "[I") 45 (by decide +kernel)) (zin (.initialized RX11) 1 (by decide +kernel)) zev1 zA
  have zZ2 : va_Z RX11 "CELL_MOST" "[I" (.ref zq2) (fun q : Nat => s.heap.size ≤ q) s s.heap := va_Zref (zin (.laysStatic RX11 "CELL_MOST" "[I") 458 (by decide +kernel)) (zin (.initialized RX11) 1 (by decide +kernel)) zev2 zA
  obtain ⟨G, zG⟩ : ∃ G : wb_G, G = (l, s.heap.size, (fun k => if k = 0 then b else if k = 1 then zq1 else zq2), (zdC, zdI), (fun k => if k = 0 then za0 else if k = 1 then za1 else if k = 2 then za2 else if k = 3 then za3 else if k = 4 then za4 else za5), L, xs) := ⟨_, rfl⟩
  have zKS : wb_KS G s := by
    refine ⟨⟨fun k q hq => by rw [zG]; exact zK3 k q hq, fun k q hq => ?_⟩, fun w hw => va_Nw.of (by have := (List.mem_filter.mp hw).2; cases w <;> first | rfl | (simp [wb_isN] at this; done)) (zts w (List.mem_append_right _ (List.mem_filter.mp hw).1)), va_AO.of zo4, va_AO.of zo5⟩
    rw [zG] at hq
    match k, hq with
    | 0, hq => have e : (za0, FieldType.int) = q := Option.some.inj hq; subst e; exact ⟨zt0, zn0⟩
    | 1, hq => have e : (za1, FieldType.long) = q := Option.some.inj hq; subst e; exact ⟨zt1, zn1⟩
    | 2, hq => have e : (za2, FieldType.boolean) = q := Option.some.inj hq; subst e; exact ⟨zt2, zn2⟩
    | 3, hq => have e : (za3, FieldType.byte) = q := Option.some.inj hq; subst e; exact ⟨zt3, zn3⟩
    | 4, hq => have e : (za4, FieldType.object RX0) = q := Option.some.inj hq; subst e; exact ⟨fun n z => ⟨fun k h => (by cases h), zkk4, y42, zp4, y43⟩, zkk4, zp4, y42, y43, y41, y44⟩
    | 5, hq => have e : (za5, FieldType.object RX2) = q := Option.some.inj hq; subst e; exact ⟨fun n z => ⟨fun k h => (by cases h), zkk5, y52, zp5, y53⟩, zkk5, zp5, y52, y53, y51, y54⟩
    | k + 6, hq => simp [wb_ty] at hq
  have zR : wb_R G s s.heap 3 (fun _ => wb_no) := by
    rw [zG]
    refine ⟨by omega, rfl, fun k h1 h2 => by omega, fun k hk => ?_, zZ1, zZ2, fun k _ => rfl⟩
    match k, hk with
    | 0, _ =>
      obtain ⟨scr, h1, h2, h3, h4, h5⟩ := zX
      exact ⟨zbl, scr, h1, h2, h3, Nat.le_of_eq h4.symm, by rw [h4]; rfl, h5⟩
    | 1, _ =>
      obtain ⟨scr, h1, h2, h3, h4, h5, h6, h7⟩ := zT1
      exact ⟨(Array.getElem?_eq_some_iff.mp h1).1, scr, h1, h2, h3, h4, h5, h6⟩
    | 2, _ =>
      obtain ⟨scr, h1, h2, h3, h4, h5, h6, h7⟩ := zT2
      exact ⟨(Array.getElem?_eq_some_iff.mp h1).1, scr, h1, h2, h3, h4, h5, h6⟩
    | k + 3, hk => exact absurd hk (by omega)
  have zC : wb_C G M_L_law p s m #[Value.ref b] meth c := ⟨zx, zb, zml, zr, zlocks, znm, zown, zGW, zKS, od_L_law⟩
  have zxl : (wb_xL G 0 : Int) ≤ 448 := by
    have e : wb_xL G 0 = L := by rw [zG]; rfl
    rw [e]; omega
  have zl := lv_entry ([Value.ref b]) (n := 4) (Nat.le_of_ble_eq_true rfl)
  rw [lg_entry_eq]
  generalize (lg_sl ([Value.ref b]) ++ List.replicate (4 - (lg_sl ([Value.ref b])).length) Slot.unset).toArray = ls at zl ⊢
  have zl2 : lv_has ls (wb_ml M_L_law) (wb_tL G (lv_args 0 [Value.ref 0])) := by
    rw [zG]; exact zl
  have zgl : wb_gl G = l := by rw [zG]
  have zgb : wb_gb G = s.heap.size := by rw [zG]
  have zlaw := wb_law (G := G) (w := fun _ => wb_no) (Q := fun v _ _ => v = some (.int (wb_i 1))) zxl rfl (fun _ _ => rfl)
  unfold wb_M at zlaw
  have zW := zlaw p e s m #[Value.ref b] below meth c s.heap [] ls (lw_Z below #[Value.ref b] s) zC zR zl2 (fun q hq => by cases hq) (by
    intro v N' w' H' locs' cc' cs' pc' ls' hv hR' hf' h1 h2 hret
    have hv2 : v = some (.int (wb_i 1)) := hv
    subst hv2
    rw [zgb] at hf'
    rw [zgl]
    refine va_forget hf' (W.widen h1 h2 ?_)
    rw [show (some (Value.int (wb_i 1))).toList.map (wb_tr G) = [Value.int 1] from rfl]
    rcases hret with ⟨hd, y, ty, ey, -, -⟩ | ⟨-, y, ey, -⟩ | ⟨-, y, z, ey, -⟩ | ⟨-, ey, -⟩
    · exact lw_ret zx zb zr zlocks hd
    · cases ey
    · cases ey
    · cases ey)
  rw [zgl] at zW
  exact zW
-- ===== YOUR PART ENDS =====
set_option maxHeartbeats 4000000 in
theorem lw_walk (l : Launch) (b : Addr) (xs : List Int32) : MetFree l x (headSpec (Jvm.Cond.code x code maxLocals ret :: tables_1) room_1) (lw_P b xs) (fun _ _ _ _ _ => True) lw_Q := by
  refine MetFree.of_bodyS (code := code) (maxLocals := maxLocals) (ret := ret) (by decide) ?_ ?_
  · intro args s m h hn
    obtain ⟨meth, c, h1, h2, h3, h4, h5, h6, -, -⟩ := Cond.code_spec hn (atoms_spec (ws := Jvm.Cond.code x code maxLocals ret :: tables_1) h _ List.mem_cons_self)
    exact ⟨meth, c, h1, h2, h3, h4, h5, h6⟩
  · intro p e s m args below meth c s₁ B hml0 hP _
    obtain ⟨rfl, hx, hbd, hgv⟩ := hP
    obtain ⟨scr, harrAt, hlist, hof, hsmall⟩ := hx
    obtain ⟨hcb, hkn, -, -⟩ := State.arrayAt?_spec harrAt
    have hown : s.vm.findClass R_law = some m.cls := findClass_of_methodNamed B.named
    have hts0 : ∀ c ∈ (Jvm.Cond.code x code maxLocals ret :: tables_1), c.before #[Value.ref b] s = true := atoms_spec (ws := Jvm.Cond.code x code maxLocals ret :: tables_1) B.pre
    have hts : ∀ w ∈ lw_tbl, w.before #[Value.ref b] s = true := k2_hts_sels lw_privs (fun w hw => hts0 w (List.mem_cons_of_mem _ hw)) lw_privs_ok
    have hml : c.maxLocals = 4 := B.maxLocals_eq (hts0 _ List.mem_cons_self)
    have X₀ : Stand p l e room_1 s m #[Value.ref b] below meth c s₁ [] 0 0 := Stand.of_body B
    have hh0 : s₁.heap = s.heap := by rw [B.state]; rfl
    have hsz : scr.slots.size = xs.length := by rw [← Array.length_toList, hlist, List.length_map]
    have hval : ∀ j : Nat, j < xs.length → scr.slots[j]? = some (.int (xs.getD j 0)) := fun j hj => by
      rw [← Array.getElem?_toList, hlist]
      simp [hj]
    have hbl : b < s.heap.size := (Array.getElem?_eq_some_iff.mp hcb).1
    have hX : va_X b xs.length (fun j => xs.getD j 0) s s.heap := ⟨scr, hcb, hof, hkn, hsz, hval⟩
    have K : W p l e room_1 s m #[Value.ref b] below meth c s₁.heap [] 0 0 (lw_Z below #[Value.ref b] s) (entryFrame m ([Value.ref b] : List Value).toArray 4) := by
      rw [hh0]
      exact whole_start l hbd ⟨B.exec, B.bytes, B.returns, hml, hown, hts, hX, hbl, B.notSynchronized, hgv, (name_of_methodNamed B.named B.method).1⟩
    obtain ⟨t, a1, o, b1, b2, b3⟩ := K s₁ rfl X₀
    exact ⟨t, o, a1, b1, b2, b3⟩
theorem lw_pre_spec {args : Array Value} {s : State} (h : (Jvm.Cond.and given_1 narrow_1).before args s = true) (hr : rest_1_c.before args s = true) : ∃ (b : Addr) (xs : List Int32), lw_P b xs args s := by
  have hs := flat_of_before _ h
  have hq := flat_of_before _ hr
  have hc : (Cond.count 1).before args s = true := hs _ (by decide +kernel)
  have harr : (Cond.arrayOf (.arg 0) .int).before args s = true := hs _ (by decide +kernel)
  have hle : (Cond.le (.length (.arg 0)) (.int 448)).before args s = true := hs _ (by decide +kernel)
  have hlen : (Cond.isInt (.length (.arg 0))).before args s = true := hq _ (by decide +kernel)
  have hall : (Cond.all (.arg 0) (.isInt (.elem (.arg 0) (.index 0)))).before args s = true := hq _ (by decide +kernel)
  obtain ⟨b, xs, hb, hx⟩ := State.ints_of_pre rfl harr hlen hall
  have hsm : xs.length < 2 ^ 31 := hx.choose_spec.2.2.2
  have hev : (Term.length (.arg 0)).eval args s none [] s = some (.int xs.length.toInt32) := hx.length_eval hb
  have hv := Cond.le_ints hev (show (Term.int 448).eval args s none [] s = some (.int 448) from rfl)
  have hd : xs.length.toInt32 ≤ 448 := by
    simpa [Cond.before, Cond.holds, hv] using hle
  have hN : xs.length ≤ 448 := (Int32.ofNat_le_ofNat hsm (by decide)).mp (show Int32.ofNat xs.length ≤ Int32.ofNat 448 from hd)
  exact ⟨b, xs, Cond.one_arg hc (show args[0]? = some (.ref b) from hb), hx, hN, h⟩
theorem lw_comes (l : Launch) : Comes l x (Jvm.Cond.code x code maxLocals ret :: tables_1) room_1 (fun tb e args s => Calls_1 tb e args s ∧ rest_1 tb e args s ∧ Pre_1 tb e args s)
    (fun _ _ args s o t => lw_Q args s o t) := by
  intro p e ha hc hk s m args below hf hfit hheap happ hpre
  obtain ⟨b, xs, hP⟩ := lw_pre_spec hpre.2.2 hpre.2.1
  obtain ⟨k, o, h1, h2, h3, hQ⟩ := lw_walk l b xs p e ha hc hk s m args below hf ((Spec.applies_iff_loose hf).mp happ).1 hP trivial
  exact ⟨k, o, h1, h2, h3, hQ⟩
theorem lw_frame {s t : State} {o : Outcome} {args : Array Value} (h : Framed s o t [] 600000 7302250) :
    Framed s o t (fieldLocs frame_1_writes args s ++ arrayLocs frame_1_arrays args s ++ staticLocs frame_1_statics s) 600000 7302250 := h
theorem lw_limb (L : Cond) (hL : ∀ (args : Array Value) (s t : State), L.after args s (.returned (some (.int 1))) t = true) :
    ArmFor flags0 classFile x code maxLocals ret World_1 tables_1 room_1 Calls_1 rest_1 Pre_1
      (fun tb e a s o t => postC L tb e a s o t ∧ Framed s o t (fieldLocs frame_1_writes a s ++ arrayLocs frame_1_arrays a s ++ staticLocs frame_1_statics s) 600000 7302250) := by
  intro l _ _ _ p e ha hc hk s m args below hf hfit hheap happ hpre
  obtain ⟨k, o, h1, h2, h3, rfl, hF⟩ := lw_comes l p e ha hc hk s m args below hf hfit hheap happ hpre
  exact ⟨k, _, h1, h2, h3, hL args s _, lw_frame hF⟩
theorem i_vc : Claimed_1_1 ∧ Claimed_1_2 := ⟨lw_limb limb_1_1 (fun args s t => by simp [limb_1_1, Cond.after, Cond.holds, Cond.value]), lw_limb limb_1_2 (fun args s t => Cond.after_iff.mpr (by
  first | (rw [show limb_1_2 = Cond.eq .result (.int 1) from rfl, Cond.eq_ints (x := 1) (y := 1) rfl rfl]; simp; done) | (simp [limb_1_2, Cond.value, Term.eval]; done)))⟩
