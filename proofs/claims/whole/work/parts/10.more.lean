/-! ===== calls by the number of arguments; Math.max, Math.min; loops ===== -/
def wb_ck (M M' : wb_MD) (As st : List Value) (cc cs : Nat) : Bool := wb_rc M M' && (Nat.ble (lg_sl As).length (wb_ml M') && (Nat.ble (cc + (wb_rm M').cells) (wb_rm M).cells && (Nat.ble (cs + (wb_rm M').slots) (wb_rm M).slots && Nat.ble (st.map fun v => v.category).sum 8)))
def wb_cz (M M' : wb_MD) (As st : List Value) (cc cs : Nat) : Bool := wb_ck M M' As st cc cs && (Nat.beq (wb_rm M').cells 0 && Nat.beq (wb_rm M').slots 0)
section WBC
variable {G : wb_G} {M M' : wb_MD} {pc nx tg : Nat} {l : List (Nat × Value)} {st : List Value} {N : Nat} {w : wb_W} {cc cs : Nat} {Q : Option Value → Nat → wb_W → Prop}
theorem wb_cz0 {As : List Value} (h : wb_cz M M' As st cc cs = true) : (wb_rm M').cells = 0 ∧ (wb_rm M').slots = 0 := by
  have := (wb_and h).2
  exact ⟨Nat.eq_of_beq_eq_true (wb_and this).1, Nat.eq_of_beq_eq_true (wb_and this).2⟩

theorem vi_S0 (k : Nat) {idx : Nat} (hOK : wb_OK M') (h : (wb_op M)[k]? = some (pc, .invokestatic idx, nx, tg)) (hL : wb_LS (wb_nm M).cls idx M' 0) (hz : wb_cz M M' [] st cc cs = true) (kk : wb_M G M' [] N w (fun v N' w' => wb_V G M nx l (wb_ps v st) N' w' cc cs Q)) : wb_V G M pc l (st) N w cc cs Q := by
  obtain ⟨z1, z2⟩ := wb_cz0 hz
  have hk := (wb_and hz).1
  refine vi_callS k [] hOK h hL rfl (wb_and (wb_and hk).2).1 (wb_and hk).1 (wb_and (wb_and (wb_and hk).2).2).1 (wb_and (wb_and (wb_and (wb_and hk).2).2).2).1 (wb_and (wb_and (wb_and (wb_and hk).2).2).2).2 ?_
  rw [z1, z2]
  exact kk
theorem vi_V0 (k : Nat) {idx b ci Nf : Nat} {fs : List Value} {T : u_T} (hOK : wb_OK M') (h : (wb_op M)[k]? = some (pc, .invokevirtual idx, nx, tg)) (hL : wb_LV (wb_nm M).cls idx M' 0) (hw : w b = .inr (ci, fs)) (hcl : vwCl[ci]? = some ((wb_nm M').cls, T, Nf)) (hz : wb_cz M M' [.ref b] st cc cs = true) (kk : wb_M G M' [.ref b] N w (fun v N' w' => wb_V G M nx l (wb_ps v st) N' w' cc cs Q)) : wb_V G M pc l (.ref b :: st) N w cc cs Q := by
  obtain ⟨z1, z2⟩ := wb_cz0 hz
  have hk := (wb_and hz).1
  refine vi_callV k [] hOK h hL hw hcl rfl (wb_and (wb_and hk).2).1 (wb_and hk).1 (wb_and (wb_and (wb_and hk).2).2).1 (wb_and (wb_and (wb_and (wb_and hk).2).2).2).1 (wb_and (wb_and (wb_and (wb_and hk).2).2).2).2 ?_
  rw [z1, z2]
  exact kk
theorem vi_I0 (k : Nat) {idx b : Nat} (hOK : wb_OK M') (hrt : wb_rt M' = none) (h : (wb_op M)[k]? = some (pc, .invokespecial idx, nx, tg)) (hL : wb_LI (wb_nm M).cls idx M' 0) (hz : wb_ck M M' [.ref b] st cc cs = true) (kk : wb_M G M' [.ref b] N w (fun v N' w' => wb_V G M nx l (wb_ps v st) N' w' (cc + (wb_rm M').cells) (cs + (wb_rm M').slots) Q)) : wb_V G M pc l (.ref b :: st) N w cc cs Q := by
  have hk := hz
  exact vi_callI k [] hOK hrt h hL rfl (wb_and (wb_and hk).2).1 (wb_and hk).1 (wb_and (wb_and (wb_and hk).2).2).1 (wb_and (wb_and (wb_and (wb_and hk).2).2).2).1 (wb_and (wb_and (wb_and (wb_and hk).2).2).2).2 kk
theorem vi_S1 (k : Nat) {idx : Nat} {a0 : Value} (hOK : wb_OK M') (h : (wb_op M)[k]? = some (pc, .invokestatic idx, nx, tg)) (hL : wb_LS (wb_nm M).cls idx M' 1) (hz : wb_cz M M' [a0] st cc cs = true) (kk : wb_M G M' [a0] N w (fun v N' w' => wb_V G M nx l (wb_ps v st) N' w' cc cs Q)) : wb_V G M pc l (a0 :: st) N w cc cs Q := by
  obtain ⟨z1, z2⟩ := wb_cz0 hz
  have hk := (wb_and hz).1
  refine vi_callS k [a0] hOK h hL rfl (wb_and (wb_and hk).2).1 (wb_and hk).1 (wb_and (wb_and (wb_and hk).2).2).1 (wb_and (wb_and (wb_and (wb_and hk).2).2).2).1 (wb_and (wb_and (wb_and (wb_and hk).2).2).2).2 ?_
  rw [z1, z2]
  exact kk
theorem vi_V1 (k : Nat) {idx b ci Nf : Nat} {fs : List Value} {T : u_T} {a0 : Value} (hOK : wb_OK M') (h : (wb_op M)[k]? = some (pc, .invokevirtual idx, nx, tg)) (hL : wb_LV (wb_nm M).cls idx M' 1) (hw : w b = .inr (ci, fs)) (hcl : vwCl[ci]? = some ((wb_nm M').cls, T, Nf)) (hz : wb_cz M M' [.ref b, a0] st cc cs = true) (kk : wb_M G M' [.ref b, a0] N w (fun v N' w' => wb_V G M nx l (wb_ps v st) N' w' cc cs Q)) : wb_V G M pc l (a0 :: .ref b :: st) N w cc cs Q := by
  obtain ⟨z1, z2⟩ := wb_cz0 hz
  have hk := (wb_and hz).1
  refine vi_callV k [a0] hOK h hL hw hcl rfl (wb_and (wb_and hk).2).1 (wb_and hk).1 (wb_and (wb_and (wb_and hk).2).2).1 (wb_and (wb_and (wb_and (wb_and hk).2).2).2).1 (wb_and (wb_and (wb_and (wb_and hk).2).2).2).2 ?_
  rw [z1, z2]
  exact kk
theorem vi_I1 (k : Nat) {idx b : Nat} {a0 : Value} (hOK : wb_OK M') (hrt : wb_rt M' = none) (h : (wb_op M)[k]? = some (pc, .invokespecial idx, nx, tg)) (hL : wb_LI (wb_nm M).cls idx M' 1) (hz : wb_ck M M' [.ref b, a0] st cc cs = true) (kk : wb_M G M' [.ref b, a0] N w (fun v N' w' => wb_V G M nx l (wb_ps v st) N' w' (cc + (wb_rm M').cells) (cs + (wb_rm M').slots) Q)) : wb_V G M pc l (a0 :: .ref b :: st) N w cc cs Q := by
  have hk := hz
  exact vi_callI k [a0] hOK hrt h hL rfl (wb_and (wb_and hk).2).1 (wb_and hk).1 (wb_and (wb_and (wb_and hk).2).2).1 (wb_and (wb_and (wb_and (wb_and hk).2).2).2).1 (wb_and (wb_and (wb_and (wb_and hk).2).2).2).2 kk
theorem vi_S2 (k : Nat) {idx : Nat} {a0 a1 : Value} (hOK : wb_OK M') (h : (wb_op M)[k]? = some (pc, .invokestatic idx, nx, tg)) (hL : wb_LS (wb_nm M).cls idx M' 2) (hz : wb_cz M M' [a0, a1] st cc cs = true) (kk : wb_M G M' [a0, a1] N w (fun v N' w' => wb_V G M nx l (wb_ps v st) N' w' cc cs Q)) : wb_V G M pc l (a1 :: a0 :: st) N w cc cs Q := by
  obtain ⟨z1, z2⟩ := wb_cz0 hz
  have hk := (wb_and hz).1
  refine vi_callS k [a0, a1] hOK h hL rfl (wb_and (wb_and hk).2).1 (wb_and hk).1 (wb_and (wb_and (wb_and hk).2).2).1 (wb_and (wb_and (wb_and (wb_and hk).2).2).2).1 (wb_and (wb_and (wb_and (wb_and hk).2).2).2).2 ?_
  rw [z1, z2]
  exact kk
theorem vi_V2 (k : Nat) {idx b ci Nf : Nat} {fs : List Value} {T : u_T} {a0 a1 : Value} (hOK : wb_OK M') (h : (wb_op M)[k]? = some (pc, .invokevirtual idx, nx, tg)) (hL : wb_LV (wb_nm M).cls idx M' 2) (hw : w b = .inr (ci, fs)) (hcl : vwCl[ci]? = some ((wb_nm M').cls, T, Nf)) (hz : wb_cz M M' [.ref b, a0, a1] st cc cs = true) (kk : wb_M G M' [.ref b, a0, a1] N w (fun v N' w' => wb_V G M nx l (wb_ps v st) N' w' cc cs Q)) : wb_V G M pc l (a1 :: a0 :: .ref b :: st) N w cc cs Q := by
  obtain ⟨z1, z2⟩ := wb_cz0 hz
  have hk := (wb_and hz).1
  refine vi_callV k [a0, a1] hOK h hL hw hcl rfl (wb_and (wb_and hk).2).1 (wb_and hk).1 (wb_and (wb_and (wb_and hk).2).2).1 (wb_and (wb_and (wb_and (wb_and hk).2).2).2).1 (wb_and (wb_and (wb_and (wb_and hk).2).2).2).2 ?_
  rw [z1, z2]
  exact kk
theorem vi_I2 (k : Nat) {idx b : Nat} {a0 a1 : Value} (hOK : wb_OK M') (hrt : wb_rt M' = none) (h : (wb_op M)[k]? = some (pc, .invokespecial idx, nx, tg)) (hL : wb_LI (wb_nm M).cls idx M' 2) (hz : wb_ck M M' [.ref b, a0, a1] st cc cs = true) (kk : wb_M G M' [.ref b, a0, a1] N w (fun v N' w' => wb_V G M nx l (wb_ps v st) N' w' (cc + (wb_rm M').cells) (cs + (wb_rm M').slots) Q)) : wb_V G M pc l (a1 :: a0 :: .ref b :: st) N w cc cs Q := by
  have hk := hz
  exact vi_callI k [a0, a1] hOK hrt h hL rfl (wb_and (wb_and hk).2).1 (wb_and hk).1 (wb_and (wb_and (wb_and hk).2).2).1 (wb_and (wb_and (wb_and (wb_and hk).2).2).2).1 (wb_and (wb_and (wb_and (wb_and hk).2).2).2).2 kk
theorem vi_S3 (k : Nat) {idx : Nat} {a0 a1 a2 : Value} (hOK : wb_OK M') (h : (wb_op M)[k]? = some (pc, .invokestatic idx, nx, tg)) (hL : wb_LS (wb_nm M).cls idx M' 3) (hz : wb_cz M M' [a0, a1, a2] st cc cs = true) (kk : wb_M G M' [a0, a1, a2] N w (fun v N' w' => wb_V G M nx l (wb_ps v st) N' w' cc cs Q)) : wb_V G M pc l (a2 :: a1 :: a0 :: st) N w cc cs Q := by
  obtain ⟨z1, z2⟩ := wb_cz0 hz
  have hk := (wb_and hz).1
  refine vi_callS k [a0, a1, a2] hOK h hL rfl (wb_and (wb_and hk).2).1 (wb_and hk).1 (wb_and (wb_and (wb_and hk).2).2).1 (wb_and (wb_and (wb_and (wb_and hk).2).2).2).1 (wb_and (wb_and (wb_and (wb_and hk).2).2).2).2 ?_
  rw [z1, z2]
  exact kk
theorem vi_V3 (k : Nat) {idx b ci Nf : Nat} {fs : List Value} {T : u_T} {a0 a1 a2 : Value} (hOK : wb_OK M') (h : (wb_op M)[k]? = some (pc, .invokevirtual idx, nx, tg)) (hL : wb_LV (wb_nm M).cls idx M' 3) (hw : w b = .inr (ci, fs)) (hcl : vwCl[ci]? = some ((wb_nm M').cls, T, Nf)) (hz : wb_cz M M' [.ref b, a0, a1, a2] st cc cs = true) (kk : wb_M G M' [.ref b, a0, a1, a2] N w (fun v N' w' => wb_V G M nx l (wb_ps v st) N' w' cc cs Q)) : wb_V G M pc l (a2 :: a1 :: a0 :: .ref b :: st) N w cc cs Q := by
  obtain ⟨z1, z2⟩ := wb_cz0 hz
  have hk := (wb_and hz).1
  refine vi_callV k [a0, a1, a2] hOK h hL hw hcl rfl (wb_and (wb_and hk).2).1 (wb_and hk).1 (wb_and (wb_and (wb_and hk).2).2).1 (wb_and (wb_and (wb_and (wb_and hk).2).2).2).1 (wb_and (wb_and (wb_and (wb_and hk).2).2).2).2 ?_
  rw [z1, z2]
  exact kk
theorem vi_S4 (k : Nat) {idx : Nat} {a0 a1 a2 a3 : Value} (hOK : wb_OK M') (h : (wb_op M)[k]? = some (pc, .invokestatic idx, nx, tg)) (hL : wb_LS (wb_nm M).cls idx M' 4) (hz : wb_cz M M' [a0, a1, a2, a3] st cc cs = true) (kk : wb_M G M' [a0, a1, a2, a3] N w (fun v N' w' => wb_V G M nx l (wb_ps v st) N' w' cc cs Q)) : wb_V G M pc l (a3 :: a2 :: a1 :: a0 :: st) N w cc cs Q := by
  obtain ⟨z1, z2⟩ := wb_cz0 hz
  have hk := (wb_and hz).1
  refine vi_callS k [a0, a1, a2, a3] hOK h hL rfl (wb_and (wb_and hk).2).1 (wb_and hk).1 (wb_and (wb_and (wb_and hk).2).2).1 (wb_and (wb_and (wb_and (wb_and hk).2).2).2).1 (wb_and (wb_and (wb_and (wb_and hk).2).2).2).2 ?_
  rw [z1, z2]
  exact kk
theorem vi_V4 (k : Nat) {idx b ci Nf : Nat} {fs : List Value} {T : u_T} {a0 a1 a2 a3 : Value} (hOK : wb_OK M') (h : (wb_op M)[k]? = some (pc, .invokevirtual idx, nx, tg)) (hL : wb_LV (wb_nm M).cls idx M' 4) (hw : w b = .inr (ci, fs)) (hcl : vwCl[ci]? = some ((wb_nm M').cls, T, Nf)) (hz : wb_cz M M' [.ref b, a0, a1, a2, a3] st cc cs = true) (kk : wb_M G M' [.ref b, a0, a1, a2, a3] N w (fun v N' w' => wb_V G M nx l (wb_ps v st) N' w' cc cs Q)) : wb_V G M pc l (a3 :: a2 :: a1 :: a0 :: .ref b :: st) N w cc cs Q := by
  obtain ⟨z1, z2⟩ := wb_cz0 hz
  have hk := (wb_and hz).1
  refine vi_callV k [a0, a1, a2, a3] hOK h hL hw hcl rfl (wb_and (wb_and hk).2).1 (wb_and hk).1 (wb_and (wb_and (wb_and hk).2).2).1 (wb_and (wb_and (wb_and (wb_and hk).2).2).2).1 (wb_and (wb_and (wb_and (wb_and hk).2).2).2).2 ?_
  rw [z1, z2]
  exact kk
theorem vi_S5 (k : Nat) {idx : Nat} {a0 a1 a2 a3 a4 : Value} (hOK : wb_OK M') (h : (wb_op M)[k]? = some (pc, .invokestatic idx, nx, tg)) (hL : wb_LS (wb_nm M).cls idx M' 5) (hz : wb_cz M M' [a0, a1, a2, a3, a4] st cc cs = true) (kk : wb_M G M' [a0, a1, a2, a3, a4] N w (fun v N' w' => wb_V G M nx l (wb_ps v st) N' w' cc cs Q)) : wb_V G M pc l (a4 :: a3 :: a2 :: a1 :: a0 :: st) N w cc cs Q := by
  obtain ⟨z1, z2⟩ := wb_cz0 hz
  have hk := (wb_and hz).1
  refine vi_callS k [a0, a1, a2, a3, a4] hOK h hL rfl (wb_and (wb_and hk).2).1 (wb_and hk).1 (wb_and (wb_and (wb_and hk).2).2).1 (wb_and (wb_and (wb_and (wb_and hk).2).2).2).1 (wb_and (wb_and (wb_and (wb_and hk).2).2).2).2 ?_
  rw [z1, z2]
  exact kk
theorem vi_V5 (k : Nat) {idx b ci Nf : Nat} {fs : List Value} {T : u_T} {a0 a1 a2 a3 a4 : Value} (hOK : wb_OK M') (h : (wb_op M)[k]? = some (pc, .invokevirtual idx, nx, tg)) (hL : wb_LV (wb_nm M).cls idx M' 5) (hw : w b = .inr (ci, fs)) (hcl : vwCl[ci]? = some ((wb_nm M').cls, T, Nf)) (hz : wb_cz M M' [.ref b, a0, a1, a2, a3, a4] st cc cs = true) (kk : wb_M G M' [.ref b, a0, a1, a2, a3, a4] N w (fun v N' w' => wb_V G M nx l (wb_ps v st) N' w' cc cs Q)) : wb_V G M pc l (a4 :: a3 :: a2 :: a1 :: a0 :: .ref b :: st) N w cc cs Q := by
  obtain ⟨z1, z2⟩ := wb_cz0 hz
  have hk := (wb_and hz).1
  refine vi_callV k [a0, a1, a2, a3, a4] hOK h hL hw hcl rfl (wb_and (wb_and hk).2).1 (wb_and hk).1 (wb_and (wb_and (wb_and hk).2).2).1 (wb_and (wb_and (wb_and (wb_and hk).2).2).2).1 (wb_and (wb_and (wb_and (wb_and hk).2).2).2).2 ?_
  rw [z1, z2]
  exact kk
theorem vi_S6 (k : Nat) {idx : Nat} {a0 a1 a2 a3 a4 a5 : Value} (hOK : wb_OK M') (h : (wb_op M)[k]? = some (pc, .invokestatic idx, nx, tg)) (hL : wb_LS (wb_nm M).cls idx M' 6) (hz : wb_cz M M' [a0, a1, a2, a3, a4, a5] st cc cs = true) (kk : wb_M G M' [a0, a1, a2, a3, a4, a5] N w (fun v N' w' => wb_V G M nx l (wb_ps v st) N' w' cc cs Q)) : wb_V G M pc l (a5 :: a4 :: a3 :: a2 :: a1 :: a0 :: st) N w cc cs Q := by
  obtain ⟨z1, z2⟩ := wb_cz0 hz
  have hk := (wb_and hz).1
  refine vi_callS k [a0, a1, a2, a3, a4, a5] hOK h hL rfl (wb_and (wb_and hk).2).1 (wb_and hk).1 (wb_and (wb_and (wb_and hk).2).2).1 (wb_and (wb_and (wb_and (wb_and hk).2).2).2).1 (wb_and (wb_and (wb_and (wb_and hk).2).2).2).2 ?_
  rw [z1, z2]
  exact kk
theorem vi_V6 (k : Nat) {idx b ci Nf : Nat} {fs : List Value} {T : u_T} {a0 a1 a2 a3 a4 a5 : Value} (hOK : wb_OK M') (h : (wb_op M)[k]? = some (pc, .invokevirtual idx, nx, tg)) (hL : wb_LV (wb_nm M).cls idx M' 6) (hw : w b = .inr (ci, fs)) (hcl : vwCl[ci]? = some ((wb_nm M').cls, T, Nf)) (hz : wb_cz M M' [.ref b, a0, a1, a2, a3, a4, a5] st cc cs = true) (kk : wb_M G M' [.ref b, a0, a1, a2, a3, a4, a5] N w (fun v N' w' => wb_V G M nx l (wb_ps v st) N' w' cc cs Q)) : wb_V G M pc l (a5 :: a4 :: a3 :: a2 :: a1 :: a0 :: .ref b :: st) N w cc cs Q := by
  obtain ⟨z1, z2⟩ := wb_cz0 hz
  have hk := (wb_and hz).1
  refine vi_callV k [a0, a1, a2, a3, a4, a5] hOK h hL hw hcl rfl (wb_and (wb_and hk).2).1 (wb_and hk).1 (wb_and (wb_and (wb_and hk).2).2).1 (wb_and (wb_and (wb_and (wb_and hk).2).2).2).1 (wb_and (wb_and (wb_and (wb_and hk).2).2).2).2 ?_
  rw [z1, z2]
  exact kk
def wb_mkmax (M : wb_MD) (st : List Value) (cc cs : Nat) : Bool := Nat.ble 1 (wb_rm M).frames && (Nat.ble ((st.map fun v => v.category).sum + 13) (wb_rm M).locals && (Nat.ble cc (wb_rm M).cells && Nat.ble cs (wb_rm M).slots))
theorem vi_max (k : Nat) {idx : Nat} {x y : Int} (h : (wb_op M)[k]? = some (pc, .invokestatic idx, nx, tg)) (hL : Cond.methodLink (wb_nm M).cls idx Lib.Math.max.name ∈ wb_GW ∧ Cond.static Lib.Math.max.name ∈ wb_GW ∧ Cond.initialized "java/lang/Math" ∈ wb_GW ∧ Cond.code Lib.Math.max.name Lib.Math.max.code 2 (some .int) ∈ wb_GW) (hz : wb_mkmax M st cc cs = true) (hx : -2147483648 ≤ x ∧ x ≤ 2147483647) (hy : -2147483648 ≤ y ∧ y ≤ 2147483647) (kk : wb_V G M nx l (.int (wb_i (if x < y then y else x)) :: st) N w cc cs Q) : wb_V G M pc l (.int (wb_i y) :: .int (wb_i x) :: st) N w cc cs Q := by
  intro p e s m args below meth c H locs ls Qe hC hR hl hf hq
  obtain ⟨hd, hs⟩ := wb_opn hC.2.2.2.2.2.2.2.2.2 h
  have hnx : nx = pc + 3 := of_decide_eq_true hs
  subst hnx
  rw [Nat.add_sub_cancel_left] at hd
  have hts := hC.2.2.2.2.2.2.2.1
  have K := kk p e s m args below meth c H locs ls Qe hC hR hl hf hq
  have hW8 : ((st.map (wb_tr G)).map fun v => v.category).sum + 13 ≤ (wb_rm M).locals := by
    rw [List.map_map, show ((fun v : Value => v.category) ∘ wb_tr G) = (fun v => v.category) from funext (wb_cat G)]
    exact Nat.le_of_ble_eq_true (wb_and (wb_and hz).2).1
  have E : wb_i (if x < y then y else x) = (if wb_i x < wb_i y then wb_i y else wb_i x) := by
    by_cases hh : x < y
    · rw [if_pos hh, if_pos ((wb_i_lt hx hy).mpr hh)]
    · rw [if_neg hh, if_neg (fun q => hh ((wb_i_lt hx hy).mp q))]
  rw [E] at K
  exact va_mmax hC.1 hC.2.1 (by rw [hC.2.2.1]; exact hl.1.symm) hC.2.2.2.2.2.2.1 (hts _ hL.1) (hts _ hL.2.1) (hts _ hL.2.2.1) (hts _ hL.2.2.2) (Nat.le_of_ble_eq_true (wb_and hz).1) hW8 (Nat.le_of_ble_eq_true (wb_and (wb_and (wb_and hz).2).2).1) (Nat.le_of_ble_eq_true (wb_and (wb_and (wb_and hz).2).2).2) hd K
def wb_mkmin (M : wb_MD) (st : List Value) (cc cs : Nat) : Bool := Nat.ble 1 (wb_rm M).frames && (Nat.ble ((st.map fun v => v.category).sum + 13) (wb_rm M).locals && (Nat.ble cc (wb_rm M).cells && Nat.ble cs (wb_rm M).slots))
theorem vi_min (k : Nat) {idx : Nat} {x y : Int} (h : (wb_op M)[k]? = some (pc, .invokestatic idx, nx, tg)) (hL : Cond.methodLink (wb_nm M).cls idx Lib.Math.min.name ∈ wb_GW ∧ Cond.static Lib.Math.min.name ∈ wb_GW ∧ Cond.initialized "java/lang/Math" ∈ wb_GW ∧ Cond.code Lib.Math.min.name Lib.Math.min.code 2 (some .int) ∈ wb_GW) (hz : wb_mkmin M st cc cs = true) (hx : -2147483648 ≤ x ∧ x ≤ 2147483647) (hy : -2147483648 ≤ y ∧ y ≤ 2147483647) (kk : wb_V G M nx l (.int (wb_i (if y < x then y else x)) :: st) N w cc cs Q) : wb_V G M pc l (.int (wb_i y) :: .int (wb_i x) :: st) N w cc cs Q := by
  intro p e s m args below meth c H locs ls Qe hC hR hl hf hq
  obtain ⟨hd, hs⟩ := wb_opn hC.2.2.2.2.2.2.2.2.2 h
  have hnx : nx = pc + 3 := of_decide_eq_true hs
  subst hnx
  rw [Nat.add_sub_cancel_left] at hd
  have hts := hC.2.2.2.2.2.2.2.1
  have K := kk p e s m args below meth c H locs ls Qe hC hR hl hf hq
  have hW8 : ((st.map (wb_tr G)).map fun v => v.category).sum + 13 ≤ (wb_rm M).locals := by
    rw [List.map_map, show ((fun v : Value => v.category) ∘ wb_tr G) = (fun v => v.category) from funext (wb_cat G)]
    exact Nat.le_of_ble_eq_true (wb_and (wb_and hz).2).1
  have E : wb_i (if y < x then y else x) = (if wb_i y < wb_i x then wb_i y else wb_i x) := by
    by_cases hh : y < x
    · rw [if_pos hh, if_pos ((wb_i_lt hy hx).mpr hh)]
    · rw [if_neg hh, if_neg (fun q => hh ((wb_i_lt hy hx).mp q))]
  rw [E] at K
  exact va_mmin hC.1 hC.2.1 (by rw [hC.2.2.1]; exact hl.1.symm) hC.2.2.2.2.2.2.1 (hts _ hL.1) (hts _ hL.2.1) (hts _ hL.2.2.1) (hts _ hL.2.2.2) (Nat.le_of_ble_eq_true (wb_and hz).1) hW8 (Nat.le_of_ble_eq_true (wb_and (wb_and (wb_and hz).2).2).1) (Nat.le_of_ble_eq_true (wb_and (wb_and (wb_and hz).2).2).2) hd K
theorem vi_lc {l' : List (Nat × Value)} (kk : wb_V G M pc l' st N w cc cs Q) (hl' : wb_loc l l') : wb_V G M pc l st N w cc cs Q := vi_loc l' hl' kk
end WBC
/-- a loop that counts up: below the end, all that is behind is known -/
theorem wb_up (e : Int) (P : Int → Prop) (h : ∀ i, (∀ j, i < j → j ≤ e → P j) → i ≤ e → P i) : ∀ i, i ≤ e → P i := by
  have : ∀ (n : Nat) (i : Int), e - i ≤ n → i ≤ e → P i := by
    intro n
    induction n with
    | zero => intro i h1 h2; exact h i (fun j h3 h4 => by omega) h2
    | succ n ih => intro i h1 h2; exact h i (fun j h3 h4 => ih j (by omega) h4) h2
  intro i hi
  exact this (e - i).toNat i (by omega) hi
/-- a loop with a measure -/
theorem wb_ms {α : Type} (μ : α → Nat) (P : α → Prop) (h : ∀ a, (∀ b, μ b < μ a → P b) → P a) : ∀ a, P a := by
  have : ∀ (n : Nat) (a : α), μ a < n → P a := by
    intro n
    induction n with
    | zero => intro a h1; omega
    | succ n ih => intro a h1; exact h a (fun b hb => ih b (by omega))
  exact fun a => this (μ a + 1) a (by omega)
theorem wb_us {α : Type} {g : Int → α} {i : Int} {v : α} : wb_u g i v i = v := if_pos rfl
theorem wb_un {α : Type} {g : Int → α} {i j : Int} {v : α} (h : j ≠ i) : wb_u g i v j = g j := if_neg h
theorem wb_ups {w : wb_W} {k : Nat} {e : va_E} : va_up w k e k = e := if_pos rfl
theorem wb_upn {w : wb_W} {k j : Nat} {e : va_E} (h : j ≠ k) : va_up w k e j = w j := if_neg h
theorem wb_upu {w : wb_W} {k : Nat} {e f : va_E} : va_up (va_up w k e) k f = va_up w k f := by
  funext j
  by_cases h : j = k
  · subst h; simp [va_up]
  · simp [va_up, h]
