/-! ===== calls ===== -/
def wb_ws (M : wb_MD) : List Cond := Cond.code (wb_nm M) (wb_by M) (wb_ml M) (wb_rt M) :: wb_GW
def wb_Pc (G : wb_G) (As : List Value) (N : Nat) (w : wb_W) : Array Value → State → Prop := fun v U => v = (As.map (wb_tr G)).toArray ∧ wb_R G U U.heap N w ∧ wb_KS G U
def wb_Qc (G : wb_G) (Q : Option Value → Nat → wb_W → Prop) : Array Value → State → Outcome → State → Prop := fun _ _ o t => ∃ (v : Option Value) (N' : Nat) (w' : wb_W), o = .returned (v.map (wb_tr G)) ∧ Q v N' w' ∧ wb_R G t t.heap N' w'
def wb_ps (v : Option Value) (st : List Value) : List Value := match v with
  | some x => x :: st
  | none => st
theorem wb_args (G : wb_G) (As : List Value) : ∀ i, lv_args i (As.map (wb_tr G)) = wb_tL G (lv_args i As) := by
  induction As with
  | nil => intro i; rfl
  | cons a r ih =>
    intro i
    simp only [List.map_cons, lv_args, wb_tL, List.map_cons, wb_cat]
    rw [ih]
    rfl
theorem wb_sll (G : wb_G) (As : List Value) : (lg_sl (As.map (wb_tr G))).length = (lg_sl As).length := by
  induction As with
  | nil => rfl
  | cons a r ih =>
    unfold lg_sl at ih ⊢
    simp only [List.map_cons, List.flatMap_cons, List.length_append, wb_cat]
    rw [ih]
    split <;> rfl
theorem wb_good {M : wb_MD} (h : wb_OK M) : GoodIn wb_GW (wb_ws M) := by
  intro w hw
  have : w ∈ wb_GW := by
    rcases List.mem_cons.mp hw with rfl | hw
    · exact h.2.2.1
    · exact hw
  exact ⟨this, good_of_word (List.mem_filter.mp this).2⟩
theorem wb_met {G : wb_G} {M : wb_MD} {As : List Value} {N : Nat} {w : wb_W} {Q : Option Value → Nat → wb_W → Prop} (hOK : wb_OK M) (hlen : Nat.ble (lg_sl As).length (wb_ml M) = true) (h : wb_M G M As N w Q) :
    Met (wb_gl G) (wb_nm M) (wb_ws M) (wb_rm M) (wb_Pc G As N w) (wb_Qc G Q) (wb_rm M).cells (wb_rm M).slots (fun q => wb_gb G ≤ q) := by
  refine Met.ofW (cc := wb_by M) (maxL := wb_ml M) (ret := wb_rt M) hOK.2.2.2.2.1 rfl ?_
  intro p e s m args below meth c s₁ B hml hv
  obtain ⟨rfl, hR, hK⟩ := hv
  have hts := atoms_spec (ws := wb_ws M) B.pre
  have hslen := wb_sll G As
  have hl := lv_entry (As.map (wb_tr G)) (n := wb_ml M) (by rw [hslen]; exact Nat.le_of_ble_eq_true hlen)
  rw [wb_args] at hl
  rw [lg_entry_eq]
  generalize (lg_sl (As.map (wb_tr G)) ++ List.replicate (wb_ml M - (lg_sl (As.map (wb_tr G))).length) Slot.unset).toArray = ls at hl ⊢
  refine h p e s m _ below meth c s.heap [] ls _ ⟨B.exec, B.bytes, hml, B.returns, B.notSynchronized, (name_of_methodNamed B.named B.method).1, findClass_of_methodNamed B.named, fun w hw => hts w (List.mem_cons_of_mem _ hw), hK, ⟨hOK.1, hOK.2.1⟩⟩ hR hl (fun q hq => by cases hq) ?_
  intro v N' w' H' locs' cc' cs' pc' ls' hQ hR' hf' h1 h2 hret
  refine W.widen h1 h2 ?_
  have hlocks := B.notSynchronized
  have hend : ∀ t : State, t.heap = H' → s.WarmedH t.vm → wb_Qc G Q (As.map (wb_tr G)).toArray s (.returned (v.map (wb_tr G))) t := fun t ht hW => ⟨v, N', w', rfl, hQ, by rw [ht]; exact hR'.moved hW.alike⟩
  rcases hret with ⟨hd, x, ty, rfl, hr, hn⟩ | ⟨hd, x, rfl, hr⟩ | ⟨hd, x, n, rfl, hr⟩ | ⟨hd, rfl, hr⟩
  · exact W.zret B.exec B.bytes (B.returns.trans hr) hn hend hf' hd hlocks
  · exact W.lret B.exec B.bytes (B.returns.trans hr) hend hf' hd hlocks
  · exact W.aret B.exec B.bytes (B.returns.trans hr) (Or.inl ⟨n, rfl⟩) (Or.inr ⟨_, rfl⟩) hend hf' hd hlocks
  · exact W.vret B.exec B.bytes (B.returns.trans hr) hend hf' hd hlocks
theorem wb_blind {G : wb_G} {As : List Value} {N : Nat} {w : wb_W} : FrameBlind (wb_Pc G As N w) := by
  intro a U g mk q
  obtain ⟨h1, h2, h3, h4, h5, h6⟩ := q
  exact ⟨h1, wb_R.moved (s := U) (U := U.calling g mk a) (Vm.Alike.refl U.vm) h2, va_K.moved (u := U) (U := U.calling g mk a) (Vm.Alike.refl U.vm) h3, fun w hw => va_Nw.same (u := U) (U := U.calling g mk a) (by have := (List.mem_filter.mp hw).2; cases w <;> first | rfl | (simp [wb_isN] at this; done)) rfl (h4 w hw), va_AO.moved (u := U) (U := U.calling g mk a) (Vm.Alike.refl U.vm) h5, va_AO.moved (u := U) (U := U.calling g mk a) (Vm.Alike.refl U.vm) h6⟩
theorem wb_pre {G : wb_G} {As : List Value} {N : Nat} {w : wb_W} {s : State} {H : Heap} (hR : wb_R G s H N w) (hK : wb_KS G s) : ∀ U : State, U.heap = H → s.WarmedH U.vm → wb_Pc G As N w (As.map (wb_tr G)).toArray U :=
  fun U hU hW => ⟨rfl, by rw [hU]; exact hR.moved hW.alike, hK.moved hW⟩
/-- room of a callee in its caller's -/
def wb_rc (M M' : wb_MD) : Bool := decide ((wb_rm M').frames + 1 ≤ (wb_rm M).frames) && decide (8 + (wb_ml M' + 11) + (wb_rm M').locals ≤ (wb_rm M).locals)
def wb_np (M' : wb_MD) (n : Nat) : Prop := (parseMethodDescriptor (wb_nm M').desc).map (fun d => d.parameters.length) = some n
/-- links of calls -/
def wb_LS (o : String) (idx : Nat) (M' : wb_MD) (n : Nat) : Prop := (Cond.methodLink o idx (wb_nm M') ∈ wb_GW ∨ ∃ host, Cond.methodLinkNest o idx (wb_nm M') host ∈ wb_NW) ∧ Cond.static (wb_nm M') ∈ wb_GW ∧ wb_np M' n
def wb_LV (o : String) (idx : Nat) (M' : wb_MD) (n : Nat) : Prop := (Cond.methodLink o idx (wb_nm M') ∈ wb_GW ∨ ∃ host, Cond.methodLinkNest o idx (wb_nm M') host ∈ wb_NW) ∧ Cond.instanceMethod (wb_nm M') ∈ wb_GW ∧ Cond.selects (wb_nm M').cls (wb_nm M') (wb_nm M') ∈ wb_GW ∧ wb_np M' n
def wb_LI (o : String) (idx : Nat) (M' : wb_MD) (n : Nat) : Prop := (Cond.methodLink o idx (wb_nm M') ∈ wb_GW ∨ ∃ host, Cond.methodLinkNest o idx (wb_nm M') host ∈ wb_NW) ∧ Cond.instanceMethod (wb_nm M') ∈ wb_GW ∧ (wb_nm M').name = "<init>" ∧ wb_np M' n
section WBCALL
variable {p : Program} {e : Env} {s : State} {m : MethodId} {args : Array Value} {below : List Frame} {meth : Method} {c : Code} {H : Heap} {locs : List Loc} {Qe : State → Prop}
variable {G : wb_G} {M M' : wb_MD} {pc nx tg : Nat} {l : List (Nat × Value)} {st : List Value} {N : Nat} {w : wb_W} {cc cs : Nat} {Q : Option Value → Nat → wb_W → Prop}
/-- behind a call -/
theorem wb_back {ls : Array Slot} {st0 : List Value} {as : Array Value} (hC : wb_C G M p s m args meth c) (hl : lv_has ls (wb_ml M) (wb_tL G l)) (hf : ∀ q ∈ locs, wb_gb G ≤ q.base)
    (hq : ∀ (v : Option Value) (N' : Nat) (w' : wb_W) (H' : Heap) (locs' : List Loc) (cc' cs' pc' : Nat) (ls' : Array Slot), Q v N' w' → wb_R G s H' N' w' → (∀ q ∈ locs', wb_gb G ≤ q.base) → cc' ≤ (wb_rm M).cells → cs' ≤ (wb_rm M).slots → wb_ret M pc' v → W p (wb_gl G) e (wb_rm M) s m args below meth c H' locs' cc' cs' Qe (F0 m pc' ls' (v.toList.map (wb_tr G))))
    (hr : va_Run p (wb_gl G) e (wb_rm M) s m args below meth c H locs cc cs (wb_rm M').cells (wb_rm M').slots (F0 m pc ls st0) (st.map (wb_tr G)) (wb_Qc G (fun v N' w' => wb_V G M (pc + 3) l (wb_ps v st) N' w' (cc + (wb_rm M').cells) (cs + (wb_rm M').slots) Q) as) (fun q => wb_gb G ≤ q)) :
    W p (wb_gl G) e (wb_rm M) s m args below meth c H locs cc cs Qe (F0 m pc ls st0) := by
  intro T hT X
  obtain ⟨v, st₀, t, T', L, h0, X', hL, e1, e2, ⟨v1, N', w', hv, hV, hR'⟩, step⟩ := hr T hT X
  cases hv
  have hal : s.vm.Alike t.vm := by rw [← e2]; exact X'.warmed.alike
  have hR2 : wb_R G s T'.heap N' w' := by rw [e1]; exact hR'.moved hal.symm
  obtain ⟨t2, a1, b1⟩ := hV p e s m args below meth c T'.heap (locs ++ L) ls Qe hC hR2 hl (fun q hq => (List.mem_append.mp hq).elim (hf q) (hL q)) hq T' rfl X'
  refine ⟨t2, step t2 ?_, b1⟩
  have : (Option.map (wb_tr G) v1).toList ++ st.map (wb_tr G) = (wb_ps v1 st).map (wb_tr G) := by cases v1 <;> rfl
  rw [this]
  exact a1
theorem vi_callS (k : Nat) {idx n : Nat} (As : List Value) (hOK : wb_OK M') (h : (wb_op M)[k]? = some (pc, .invokestatic idx, nx, tg)) (hL : wb_LS (wb_nm M).cls idx M' n) (hn : As.length = n) (hlen : Nat.ble (lg_sl As).length (wb_ml M') = true) (hrc : wb_rc M M' = true) (h1 : Nat.ble (cc + (wb_rm M').cells) (wb_rm M).cells = true) (h2 : Nat.ble (cs + (wb_rm M').slots) (wb_rm M).slots = true) (h8 : Nat.ble (st.map fun v => v.category).sum 8 = true)
    (kk : wb_M G M' As N w (fun v N' w' => wb_V G M nx l (wb_ps v st) N' w' (cc + (wb_rm M').cells) (cs + (wb_rm M').slots) Q)) : wb_V G M pc l (As.reverse ++ st) N w cc cs Q := by
  intro p e s m args below meth c H locs ls Qe hC hR hl hf hq
  obtain ⟨hd, hs⟩ := wb_opn hC.2.2.2.2.2.2.2.2.2 h
  have hnx : nx = pc + 3 := of_decide_eq_true hs
  subst hnx
  rw [Nat.add_sub_cancel_left] at hd
  have hts := hC.2.2.2.2.2.2.2.1
  have hK := hC.2.2.2.2.2.2.2.2.1
  have hroom : (wb_rm M').frames + 1 ≤ (wb_rm M).frames ∧ 8 + (wb_ml M' + 11) + (wb_rm M').locals ≤ (wb_rm M).locals := ⟨of_decide_eq_true (wb_and hrc).1, of_decide_eq_true (wb_and hrc).2⟩
  have hMet := wb_met hOK hlen kk
  have hW8 : ((st.map (wb_tr G)).map fun v => v.category).sum ≤ 8 := by
    rw [List.map_map, show ((fun v : Value => v.category) ∘ wb_tr G) = (fun v => v.category) from funext (wb_cat G)]
    exact Nat.le_of_ble_eq_true h8
  have hst : (As.reverse ++ st).map (wb_tr G) = (As.map (wb_tr G)).reverse ++ st.map (wb_tr G) := by rw [List.map_append, List.map_reverse]
  have hln : (As.map (wb_tr G)).length = n := by rw [List.length_map]; exact hn
  rw [hst]
  refine wb_back (M' := M') (st := st) (as := (As.map (wb_tr G)).toArray) hC hl hf hq ?_
  rcases hL.1 with hlk | ⟨host, hlk⟩
  · exact va_runS (As := As.map (wb_tr G)) (rest := st.map (wb_tr G)) ⟨hC.1, hC.2.1, hC.2.2.1, hC.2.2.2.2.2.2.1, hts⟩ hMet ⟨callB_of n hts (wb_good hOK) rfl rfl rfl (hts _ hOK.2.2.2.1) (hts _ hlk) ⟨hOK.2.2.2.2.2.1, hOK.2.2.2.2.2.2, hL.2.2⟩ hroom, hts _ hL.2.1⟩ ⟨wb_blind, wb_pre hR hK⟩ rfl hln hl.1 rfl (lv_room hW8) hd ⟨Nat.le_of_ble_eq_true h1, Nat.le_of_ble_eq_true h2⟩
  · exact va_runSN (As := As.map (wb_tr G)) (rest := st.map (wb_tr G)) ⟨hC.1, hC.2.1, hC.2.2.1, hC.2.2.2.2.2.2.1, hts⟩ hMet ⟨va_cnB n hts (wb_good hOK) rfl rfl rfl (hK.2.1 _ hlk) (hts _ hOK.2.2.2.1) ⟨hOK.2.2.2.2.2.1, hOK.2.2.2.2.2.2, hL.2.2⟩ hroom, hts _ hL.2.1, trivial⟩ ⟨wb_blind, wb_pre hR hK⟩ rfl hln hl.1 rfl (lv_room hW8) hd ⟨Nat.le_of_ble_eq_true h1, Nat.le_of_ble_eq_true h2⟩
theorem vi_callV (k : Nat) {idx n b ci : Nat} {fs : List Value} {T : u_T} {Nf : Nat} (As : List Value) (hOK : wb_OK M') (h : (wb_op M)[k]? = some (pc, .invokevirtual idx, nx, tg)) (hL : wb_LV (wb_nm M).cls idx M' n) (hw : w b = .inr (ci, fs)) (hcl : vwCl[ci]? = some ((wb_nm M').cls, T, Nf)) (hn : As.length = n) (hlen : Nat.ble (lg_sl (.ref b :: As)).length (wb_ml M') = true) (hrc : wb_rc M M' = true) (h1 : Nat.ble (cc + (wb_rm M').cells) (wb_rm M).cells = true) (h2 : Nat.ble (cs + (wb_rm M').slots) (wb_rm M).slots = true) (h8 : Nat.ble (st.map fun v => v.category).sum 8 = true)
    (kk : wb_M G M' (.ref b :: As) N w (fun v N' w' => wb_V G M nx l (wb_ps v st) N' w' (cc + (wb_rm M').cells) (cs + (wb_rm M').slots) Q)) : wb_V G M pc l (As.reverse ++ .ref b :: st) N w cc cs Q := by
  intro p e s m args below meth c H locs ls Qe hC hR hl hf hq
  obtain ⟨hd, hs⟩ := wb_opn hC.2.2.2.2.2.2.2.2.2 h
  have hnx : nx = pc + 3 := of_decide_eq_true hs
  subst hnx
  rw [Nat.add_sub_cancel_left] at hd
  have hts := hC.2.2.2.2.2.2.2.1
  have hK := hC.2.2.2.2.2.2.2.2.1
  have hroom : (wb_rm M').frames + 1 ≤ (wb_rm M).frames ∧ 8 + (wb_ml M' + 11) + (wb_rm M').locals ≤ (wb_rm M).locals := ⟨of_decide_eq_true (wb_and hrc).1, of_decide_eq_true (wb_and hrc).2⟩
  have hMet := wb_met hOK hlen kk
  have hW8 : ((st.map (wb_tr G)).map fun v => v.category).sum ≤ 8 := by
    rw [List.map_map, show ((fun v : Value => v.category) ∘ wb_tr G) = (fun v => v.category) from funext (wb_cat G)]
    exact Nat.le_of_ble_eq_true h8
  have hst : (As.reverse ++ .ref b :: st).map (wb_tr G) = (As.map (wb_tr G)).reverse ++ .ref (wb_ad G b) :: st.map (wb_tr G) := by rw [List.map_append, List.map_reverse]; rfl
  have hln : (As.map (wb_tr G)).length = n := by rw [List.length_map]; exact hn
  have hci : Nat.blt ci 99 = true := by
    have : ci < vwCl.length := (List.getElem?_eq_some_iff.mp hcl).1
    exact Nat.ble_eq_true_of_le (by have h2 : vwCl.length = 13 := rfl; omega)
  obtain ⟨-, -, ha⟩ := hR.at hw (by intro q; unfold wb_no at q; cases q; exact absurd hci (by decide))
  have hrecv := va_recv hK.1 (wb_one ha) (ci := ci) (q0 := 0) hcl rfl
  rw [hst]
  refine wb_back (M' := M') (st := st) (as := (Value.ref (wb_ad G b) :: As.map (wb_tr G)).toArray) hC hl hf hq ?_
  rcases hL.1 with hlk | ⟨host, hlk⟩
  · exact va_runV (As := As.map (wb_tr G)) (rest := st.map (wb_tr G)) ⟨hC.1, hC.2.1, hC.2.2.1, hC.2.2.2.2.2.2.1, hts⟩ hMet ⟨callB_of n hts (wb_good hOK) rfl rfl rfl (hts _ hOK.2.2.2.1) (hts _ hlk) ⟨hOK.2.2.2.2.2.1, hOK.2.2.2.2.2.2, hL.2.2.2⟩ hroom, hts _ hL.2.1, hts _ hL.2.2.1⟩ ⟨wb_blind, hrecv, wb_pre hR hK⟩ rfl hln hl.1 rfl (lv_room hW8) hd ⟨Nat.le_of_ble_eq_true h1, Nat.le_of_ble_eq_true h2⟩
  · exact va_runVN (As := As.map (wb_tr G)) (rest := st.map (wb_tr G)) ⟨hC.1, hC.2.1, hC.2.2.1, hC.2.2.2.2.2.2.1, hts⟩ hMet ⟨va_cnB n hts (wb_good hOK) rfl rfl rfl (hK.2.1 _ hlk) (hts _ hOK.2.2.2.1) ⟨hOK.2.2.2.2.2.1, hOK.2.2.2.2.2.2, hL.2.2.2⟩ hroom, hts _ hL.2.1, hts _ hL.2.2.1⟩ ⟨wb_blind, hrecv, wb_pre hR hK⟩ rfl hln hl.1 rfl (lv_room hW8) hd ⟨Nat.le_of_ble_eq_true h1, Nat.le_of_ble_eq_true h2⟩
theorem vi_callI (k : Nat) {idx n b : Nat} (As : List Value) (hOK : wb_OK M') (hrt : wb_rt M' = none) (h : (wb_op M)[k]? = some (pc, .invokespecial idx, nx, tg)) (hL : wb_LI (wb_nm M).cls idx M' n) (hn : As.length = n) (hlen : Nat.ble (lg_sl (.ref b :: As)).length (wb_ml M') = true) (hrc : wb_rc M M' = true) (h1 : Nat.ble (cc + (wb_rm M').cells) (wb_rm M).cells = true) (h2 : Nat.ble (cs + (wb_rm M').slots) (wb_rm M).slots = true) (h8 : Nat.ble (st.map fun v => v.category).sum 8 = true)
    (kk : wb_M G M' (.ref b :: As) N w (fun v N' w' => wb_V G M nx l (wb_ps v st) N' w' (cc + (wb_rm M').cells) (cs + (wb_rm M').slots) Q)) : wb_V G M pc l (As.reverse ++ .ref b :: st) N w cc cs Q := by
  intro p e s m args below meth c H locs ls Qe hC hR hl hf hq
  obtain ⟨hd, hs⟩ := wb_opn hC.2.2.2.2.2.2.2.2.2 h
  have hnx : nx = pc + 3 := of_decide_eq_true hs
  subst hnx
  rw [Nat.add_sub_cancel_left] at hd
  have hts := hC.2.2.2.2.2.2.2.1
  have hK := hC.2.2.2.2.2.2.2.2.1
  have hroom : (wb_rm M').frames + 1 ≤ (wb_rm M).frames ∧ 8 + (wb_ml M' + 11) + (wb_rm M').locals ≤ (wb_rm M).locals := ⟨of_decide_eq_true (wb_and hrc).1, of_decide_eq_true (wb_and hrc).2⟩
  have hMet := wb_met hOK hlen kk
  have hW8 : ((st.map (wb_tr G)).map fun v => v.category).sum ≤ 8 := by
    rw [List.map_map, show ((fun v : Value => v.category) ∘ wb_tr G) = (fun v => v.category) from funext (wb_cat G)]
    exact Nat.le_of_ble_eq_true h8
  have hst : (As.reverse ++ .ref b :: st).map (wb_tr G) = (As.map (wb_tr G)).reverse ++ .ref (wb_ad G b) :: st.map (wb_tr G) := by rw [List.map_append, List.map_reverse]; rfl
  have hln : (As.map (wb_tr G)).length = n := by rw [List.length_map]; exact hn
  have hww : wb_ws M' = Cond.code (wb_nm M') (wb_by M') (wb_ml M') none :: wb_GW := by unfold wb_ws; rw [hrt]
  rw [hst]
  refine wb_back (M' := M') (st := st) (as := (Value.ref (wb_ad G b) :: As.map (wb_tr G)).toArray) hC hl hf hq ?_
  rcases hL.1 with hlk | ⟨host, hlk⟩
  · exact va_runI (As := As.map (wb_tr G)) (rest := st.map (wb_tr G)) ⟨hC.1, hC.2.1, hC.2.2.1, hC.2.2.2.2.2.2.1, hts⟩ hMet (cwI n hts (wb_good hOK) hww rfl rfl (hts _ hOK.2.2.2.1) (hts _ hlk) (hts _ hL.2.1) hL.2.2.1 ⟨hOK.2.2.2.2.2.1, hOK.2.2.2.2.2.2, hL.2.2.2⟩ hroom) ⟨wb_blind, wb_pre (As := .ref b :: As) hR hK⟩ rfl hln hl.1 rfl (lv_room hW8) hd ⟨Nat.le_of_ble_eq_true h1, Nat.le_of_ble_eq_true h2⟩
  · exact va_runIN (As := As.map (wb_tr G)) (rest := st.map (wb_tr G)) ⟨hC.1, hC.2.1, hC.2.2.1, hC.2.2.2.2.2.2.1, hts⟩ hMet ⟨va_cnB n hts (wb_good hOK) hww rfl rfl (hK.2.1 _ hlk) (hts _ hOK.2.2.2.1) ⟨hOK.2.2.2.2.2.1, hOK.2.2.2.2.2.2, hL.2.2.2⟩ hroom, hL.2.2.1, hts _ hL.2.1⟩ ⟨wb_blind, wb_pre (As := .ref b :: As) hR hK⟩ rfl hln hl.1 rfl (lv_room hW8) hd ⟨Nat.le_of_ble_eq_true h1, Nat.le_of_ble_eq_true h2⟩
/-- Object's own constructor -/
theorem vi_obj (k : Nat) {idx b : Nat} (h : (wb_op M)[k]? = some (pc, .invokespecial idx, nx, tg)) (hL : Cond.methodLink (wb_nm M).cls idx objectInit ∈ wb_GW ∧ Cond.instanceMethod objectInit ∈ wb_GW ∧ Cond.code objectInit ⟨#[0xb1]⟩ 1 none ∈ wb_GW) (hrc : Nat.ble 1 (wb_rm M).frames = true) (hlo : Nat.ble ((st.map fun v => v.category).sum + 12) (wb_rm M).locals = true) (kk : wb_V G M nx l st N w cc cs Q) : wb_V G M pc l (.ref b :: st) N w cc cs Q := by
  intro p e s m args below meth c H locs ls Qe hC hR hl hf hq
  obtain ⟨hd, hs⟩ := wb_opn hC.2.2.2.2.2.2.2.2.2 h
  have hnx : nx = pc + 3 := of_decide_eq_true hs
  subst hnx
  rw [Nat.add_sub_cancel_left] at hd
  have hts := hC.2.2.2.2.2.2.2.1
  have K := kk p e s m args below meth c H locs ls Qe hC hR hl hf hq
  have hW8 : ((st.map (wb_tr G)).map fun v => v.category).sum + 12 ≤ (wb_rm M).locals := by
    rw [List.map_map, show ((fun v : Value => v.category) ∘ wb_tr G) = (fun v => v.category) from funext (wb_cat G)]
    exact Nat.le_of_ble_eq_true hlo
  exact W.objInit hC.1 hC.2.1 hC.2.2.2.2.2.2.1 (hts _ hL.1) (hts _ hL.2.1) (hts _ hL.2.2) rfl (by rw [hC.2.2.1]; exact hl.1) rfl hd (Nat.le_of_ble_eq_true hrc) (by show 2 * 0 + _ + 12 ≤ _; omega) K

/-- System.arraycopy of a whole row: n places from 0 on -/
theorem vi_copyI (k : Nat) {idx q0 q1 n n0 n1 : Nat} {g0 g1 : Int → Int} (h : (wb_op M)[k]? = some (pc, .invokestatic idx, nx, tg)) (hL : Cond.methodLink (wb_nm M).cls idx arraycopyName ∈ wb_GW ∧ Cond.native arraycopyName ∈ wb_GW ∧ Cond.static arraycopyName ∈ wb_GW ∧ Cond.initialized "java/lang/System" ∈ wb_GW) (hw0 : w q0 = aI n0 g0) (hw1 : w q1 = aI n1 g1) (hn : n ≤ n0 ∧ n ≤ n1 ∧ n ≤ 65536) (hrc : Nat.ble 1 (wb_rm M).frames = true) (hlo : Nat.ble ((st.map fun v => v.category).sum + (nativeFrameWords "java/lang/System" "arraycopy" 5 + 11)) (wb_rm M).locals = true) (kk : wb_V G M nx l st N (va_up w q1 (aI n1 (fun j => if 0 ≤ j ∧ j < n then g0 j else g1 j))) cc cs Q) : wb_V G M pc l (.int (wb_i n) :: .int (wb_i 0) :: .ref q1 :: .int (wb_i 0) :: .ref q0 :: st) N w cc cs Q := by
  intro p e s m args below meth c H locs ls Qe hC hR hl hf hq
  obtain ⟨hd, hs⟩ := wb_opn hC.2.2.2.2.2.2.2.2.2 h
  have hnx : nx = pc + 3 := of_decide_eq_true hs
  subst hnx
  rw [Nat.add_sub_cancel_left] at hd
  have hts := hC.2.2.2.2.2.2.2.1
  have hK := hC.2.2.2.2.2.2.2.2.1.1
  have hW8 : ((st.map (wb_tr G)).map fun v => v.category).sum + (nativeFrameWords "java/lang/System" "arraycopy" 5 + 11) ≤ (wb_rm M).locals := by
    rw [List.map_map, show ((fun v : Value => v.category) ∘ wb_tr G) = (fun v => v.category) from funext (wb_cat G)]
    exact Nat.le_of_ble_eq_true hlo
  obtain ⟨-, -, hc0⟩ := hR.at hw0 (by intro q; unfold wb_no aI at q; cases q)
  obtain ⟨h3, hqN, hc1⟩ := hR.at hw1 (by intro q; unfold wb_no aI at q; cases q)
  have hcn := wb_i_cl (a := (n : Int)) (by omega) (by omega)
  have hcnn : (wb_i (n : Int)).toNatClampNeg = n := by omega
  have hc00 : (wb_i 0).toNatClampNeg = 0 := by decide
  have hlt0 : ¬ wb_i 0 < 0 := by decide
  have hltn : ¬ wb_i (n : Int) < 0 := by rw [show (0 : Int32) = wb_i 0 from rfl, wb_i_lt (by omega) (by omega)]; omega
  intro T hT X
  have hc0 : H[wb_ad G q0]? = some (vp_cell (wb_gc G 0) (n0, .inl (fun j : Nat => wb_i (g0 j)))) := hc0
  have hc1 : H[wb_ad G q1]? = some (vp_cell (wb_gc G 0) (n1, .inl (fun j : Nat => wb_i (g1 j)))) := hc1
  obtain ⟨-, k0, hk0, cm0, hkk0⟩ := (hK.2 0 _ rfl).1 n0 (fun j => .int ((fun j : Nat => wb_i (g0 j)) j))
  obtain ⟨-, k1, hk1, cm1, hkk1⟩ := (hK.2 0 _ rfl).1 n1 (fun j => .int ((fun j : Nat => wb_i (g1 j)) j))
  obtain ⟨vm', X', step⟩ := X.arraycopy hC.1 hC.2.2.2.2.2.2.1 (hts _ hL.1) (hts _ hL.2.1) (hts _ hL.2.2.1) (hts _ hL.2.2.2) (src := wb_ad G q0) (dst := wb_ad G q1) (cs := vp_cell (wb_gc G 0) (n0, .inl (fun j : Nat => wb_i (g0 j)))) (cd := vp_cell (wb_gc G 0) (n1, .inl (fun j : Nat => wb_i (g1 j)))) (srcPos := wb_i 0) (destPos := wb_i 0) (n := wb_i n) (by rw [hT]; exact hc0) (by rw [hT]; exact hc1)
    (fun _ h => by cases h) (fun _ h => by cases h) (fun h => by cases h) (fun h => by cases h) hk0 hk1 hkk0 hkk1 (by simp [refKind]) hlt0 hlt0 hltn
    (by rw [wb_i_toInt (by omega), wb_i_toInt (by omega)]; show ¬ _ > ((arrV (wb_gc G 0) n0 (fun j => .int ((fun j : Nat => wb_i (g0 j)) j))).slots.size : Int); rw [arrV_size]; omega)
    (by rw [wb_i_toInt (by omega), wb_i_toInt (by omega)]; show ¬ _ > ((arrV (wb_gc G 0) n1 (fun j => .int ((fun j : Nat => wb_i (g1 j)) j))).slots.size : Int); rw [arrV_size]; omega)
    (fun vm₁ _ i hi => by
      have e : (vp_cell (wb_gc G 0) (n0, .inl (fun j : Nat => wb_i (g0 j)))).slots.getD ((wb_i 0).toNatClampNeg + i) .null = .int ((fun j : Nat => wb_i (g0 j)) ((wb_i 0).toNatClampNeg + i)) := by
        show (arrV (wb_gc G 0) n0 (fun j => .int ((fun j : Nat => wb_i (g0 j)) j))).slots.getD _ _ = _
        rw [Array.getD_eq_getD_getElem?, arrV_read _ _ (by omega)]
        rfl
      refine ⟨?_, ?_⟩
      · rw [e]
        rfl
      · rw [e]
        exact trivial)
    (g := F0 m pc ls (.int (wb_i n) :: .int (wb_i 0) :: .ref (wb_ad G q1) :: .int (wb_i 0) :: .ref (wb_ad G q0) :: st.map (wb_tr G))) rfl (by rw [hC.2.2.1]; exact hl.1) (rest := st.map (wb_tr G)) rfl (by rw [hC.2.1]; exact hd) (Nat.le_of_ble_eq_true hrc) (by show 2 * 0 + _ + _ ≤ _; omega)
  have e1 : copied (vp_cell (wb_gc G 0) (n0, .inl (fun j : Nat => wb_i (g0 j)))) (vp_cell (wb_gc G 0) (n1, .inl (fun j : Nat => wb_i (g1 j)))) (wb_i 0) (wb_i 0) (wb_i n) = vp_cell (wb_gc G 0) (n1, .inl (va_cpy (fun j : Nat => wb_i (g0 j)) (fun j : Nat => wb_i (g1 j)) (wb_i 0).toNatClampNeg (wb_i 0).toNatClampNeg (wb_i n).toNatClampNeg)) := va_copied (fun z : Int32 => Value.int z) (wb_gc G 0) (wb_gc G 0) (fun j : Nat => wb_i (g0 j)) (fun j : Nat => wb_i (g1 j)) (by omega)
  rw [e1] at X' step
  have hl1 : wb_ad G q1 < H.size := (Array.getElem?_eq_some_iff.mp hc1).1
  have hfun : (va_cpy (fun j : Nat => wb_i (g0 j)) (fun j : Nat => wb_i (g1 j)) (wb_i 0).toNatClampNeg (wb_i 0).toNatClampNeg (wb_i n).toNatClampNeg) = (fun j : Nat => wb_i ((fun j : Int => if 0 ≤ j ∧ j < n then g0 j else g1 j) j)) := by
    funext j
    rw [hc00, hcnn]
    unfold va_cpy
    by_cases hj : j < n
    · rw [if_pos (by omega)]
      dsimp only
      rw [if_pos (by omega)]
      simp
    · rw [if_neg (by omega)]
      dsimp only
      rw [if_neg (by omega)]
  rw [hfun] at X' step
  obtain ⟨nc, hnc⟩ : ∃ nc : Cell, nc = vp_cell (wb_gc G 0) (n1, .inl (fun j : Nat => wb_i ((fun j : Int => if 0 ≤ j ∧ j < n then g0 j else g1 j) j))) := ⟨_, rfl⟩
  rw [← hnc] at X' step
  have hat : (H.setIfInBounds (wb_ad G q1) nc)[wb_ad G q1]? = some nc := by simp [Array.getElem?_setIfInBounds, hl1]
  obtain ⟨t2, a1, b1⟩ := kk p e s m args below meth c (H.setIfInBounds (wb_ad G q1) nc) _ ls Qe hC (hR.set h3 hqN (by simp) (fun q hq => by simp [Array.getElem?_setIfInBounds, Ne.symm hq]) (hnc ▸ hat)) hl (fun x hx => by
      rcases List.mem_append.mp hx with hx | hx
      · exact hf x hx
      · obtain ⟨z, -, hz⟩ := List.mem_map.mp hx
        rw [← hz]
        exact wb_adge h3) hq _ (by rw [← hT]; rfl) X'
  exact ⟨t2, step t2 a1, b1⟩
/-- System.arraycopy of a whole row: n places from 0 on -/
theorem vi_copyL (k : Nat) {idx q0 q1 n n0 n1 : Nat} {g0 g1 : Int → Int64} (h : (wb_op M)[k]? = some (pc, .invokestatic idx, nx, tg)) (hL : Cond.methodLink (wb_nm M).cls idx arraycopyName ∈ wb_GW ∧ Cond.native arraycopyName ∈ wb_GW ∧ Cond.static arraycopyName ∈ wb_GW ∧ Cond.initialized "java/lang/System" ∈ wb_GW) (hw0 : w q0 = aL n0 g0) (hw1 : w q1 = aL n1 g1) (hn : n ≤ n0 ∧ n ≤ n1 ∧ n ≤ 65536) (hrc : Nat.ble 1 (wb_rm M).frames = true) (hlo : Nat.ble ((st.map fun v => v.category).sum + (nativeFrameWords "java/lang/System" "arraycopy" 5 + 11)) (wb_rm M).locals = true) (kk : wb_V G M nx l st N (va_up w q1 (aL n1 (fun j => if 0 ≤ j ∧ j < n then g0 j else g1 j))) cc cs Q) : wb_V G M pc l (.int (wb_i n) :: .int (wb_i 0) :: .ref q1 :: .int (wb_i 0) :: .ref q0 :: st) N w cc cs Q := by
  intro p e s m args below meth c H locs ls Qe hC hR hl hf hq
  obtain ⟨hd, hs⟩ := wb_opn hC.2.2.2.2.2.2.2.2.2 h
  have hnx : nx = pc + 3 := of_decide_eq_true hs
  subst hnx
  rw [Nat.add_sub_cancel_left] at hd
  have hts := hC.2.2.2.2.2.2.2.1
  have hK := hC.2.2.2.2.2.2.2.2.1.1
  have hW8 : ((st.map (wb_tr G)).map fun v => v.category).sum + (nativeFrameWords "java/lang/System" "arraycopy" 5 + 11) ≤ (wb_rm M).locals := by
    rw [List.map_map, show ((fun v : Value => v.category) ∘ wb_tr G) = (fun v => v.category) from funext (wb_cat G)]
    exact Nat.le_of_ble_eq_true hlo
  obtain ⟨-, -, hc0⟩ := hR.at hw0 (by intro q; unfold wb_no aL at q; cases q)
  obtain ⟨h3, hqN, hc1⟩ := hR.at hw1 (by intro q; unfold wb_no aL at q; cases q)
  have hcn := wb_i_cl (a := (n : Int)) (by omega) (by omega)
  have hcnn : (wb_i (n : Int)).toNatClampNeg = n := by omega
  have hc00 : (wb_i 0).toNatClampNeg = 0 := by decide
  have hlt0 : ¬ wb_i 0 < 0 := by decide
  have hltn : ¬ wb_i (n : Int) < 0 := by rw [show (0 : Int32) = wb_i 0 from rfl, wb_i_lt (by omega) (by omega)]; omega
  intro T hT X
  have hc0 : H[wb_ad G q0]? = some (vp_cell (wb_gc G 1) (n0, .inr (.inl (fun j : Nat => g0 j)))) := hc0
  have hc1 : H[wb_ad G q1]? = some (vp_cell (wb_gc G 1) (n1, .inr (.inl (fun j : Nat => g1 j)))) := hc1
  obtain ⟨-, k0, hk0, cm0, hkk0⟩ := (hK.2 1 _ rfl).1 n0 (fun j => .long ((fun j : Nat => g0 j) j))
  obtain ⟨-, k1, hk1, cm1, hkk1⟩ := (hK.2 1 _ rfl).1 n1 (fun j => .long ((fun j : Nat => g1 j) j))
  obtain ⟨vm', X', step⟩ := X.arraycopy hC.1 hC.2.2.2.2.2.2.1 (hts _ hL.1) (hts _ hL.2.1) (hts _ hL.2.2.1) (hts _ hL.2.2.2) (src := wb_ad G q0) (dst := wb_ad G q1) (cs := vp_cell (wb_gc G 1) (n0, .inr (.inl (fun j : Nat => g0 j)))) (cd := vp_cell (wb_gc G 1) (n1, .inr (.inl (fun j : Nat => g1 j)))) (srcPos := wb_i 0) (destPos := wb_i 0) (n := wb_i n) (by rw [hT]; exact hc0) (by rw [hT]; exact hc1)
    (fun _ h => by cases h) (fun _ h => by cases h) (fun h => by cases h) (fun h => by cases h) hk0 hk1 hkk0 hkk1 (by simp [refKind]) hlt0 hlt0 hltn
    (by rw [wb_i_toInt (by omega), wb_i_toInt (by omega)]; show ¬ _ > ((arrV (wb_gc G 1) n0 (fun j => .long ((fun j : Nat => g0 j) j))).slots.size : Int); rw [arrV_size]; omega)
    (by rw [wb_i_toInt (by omega), wb_i_toInt (by omega)]; show ¬ _ > ((arrV (wb_gc G 1) n1 (fun j => .long ((fun j : Nat => g1 j) j))).slots.size : Int); rw [arrV_size]; omega)
    (fun vm₁ _ i hi => by
      have e : (vp_cell (wb_gc G 1) (n0, .inr (.inl (fun j : Nat => g0 j)))).slots.getD ((wb_i 0).toNatClampNeg + i) .null = .long ((fun j : Nat => g0 j) ((wb_i 0).toNatClampNeg + i)) := by
        show (arrV (wb_gc G 1) n0 (fun j => .long ((fun j : Nat => g0 j) j))).slots.getD _ _ = _
        rw [Array.getD_eq_getD_getElem?, arrV_read _ _ (by omega)]
        rfl
      refine ⟨?_, ?_⟩
      · rw [e]
        rfl
      · rw [e]
        exact trivial)
    (g := F0 m pc ls (.int (wb_i n) :: .int (wb_i 0) :: .ref (wb_ad G q1) :: .int (wb_i 0) :: .ref (wb_ad G q0) :: st.map (wb_tr G))) rfl (by rw [hC.2.2.1]; exact hl.1) (rest := st.map (wb_tr G)) rfl (by rw [hC.2.1]; exact hd) (Nat.le_of_ble_eq_true hrc) (by show 2 * 0 + _ + _ ≤ _; omega)
  have e1 : copied (vp_cell (wb_gc G 1) (n0, .inr (.inl (fun j : Nat => g0 j)))) (vp_cell (wb_gc G 1) (n1, .inr (.inl (fun j : Nat => g1 j)))) (wb_i 0) (wb_i 0) (wb_i n) = vp_cell (wb_gc G 1) (n1, .inr (.inl (va_cpy (fun j : Nat => g0 j) (fun j : Nat => g1 j) (wb_i 0).toNatClampNeg (wb_i 0).toNatClampNeg (wb_i n).toNatClampNeg))) := va_copied (fun z : Int64 => Value.long z) (wb_gc G 1) (wb_gc G 1) (fun j : Nat => g0 j) (fun j : Nat => g1 j) (by omega)
  rw [e1] at X' step
  have hl1 : wb_ad G q1 < H.size := (Array.getElem?_eq_some_iff.mp hc1).1
  have hfun : (va_cpy (fun j : Nat => g0 j) (fun j : Nat => g1 j) (wb_i 0).toNatClampNeg (wb_i 0).toNatClampNeg (wb_i n).toNatClampNeg) = (fun j : Nat => ((fun j : Int => if 0 ≤ j ∧ j < n then g0 j else g1 j) j)) := by
    funext j
    rw [hc00, hcnn]
    unfold va_cpy
    by_cases hj : j < n
    · rw [if_pos (by omega)]
      dsimp only
      rw [if_pos (by omega)]
      simp
    · rw [if_neg (by omega)]
      dsimp only
      rw [if_neg (by omega)]
  rw [hfun] at X' step
  obtain ⟨nc, hnc⟩ : ∃ nc : Cell, nc = vp_cell (wb_gc G 1) (n1, .inr (.inl (fun j : Nat => ((fun j : Int => if 0 ≤ j ∧ j < n then g0 j else g1 j) j)))) := ⟨_, rfl⟩
  rw [← hnc] at X' step
  have hat : (H.setIfInBounds (wb_ad G q1) nc)[wb_ad G q1]? = some nc := by simp [Array.getElem?_setIfInBounds, hl1]
  obtain ⟨t2, a1, b1⟩ := kk p e s m args below meth c (H.setIfInBounds (wb_ad G q1) nc) _ ls Qe hC (hR.set h3 hqN (by simp) (fun q hq => by simp [Array.getElem?_setIfInBounds, Ne.symm hq]) (hnc ▸ hat)) hl (fun x hx => by
      rcases List.mem_append.mp hx with hx | hx
      · exact hf x hx
      · obtain ⟨z, -, hz⟩ := List.mem_map.mp hx
        rw [← hz]
        exact wb_adge h3) hq _ (by rw [← hT]; rfl) X'
  exact ⟨t2, step t2 a1, b1⟩
end WBCALL
