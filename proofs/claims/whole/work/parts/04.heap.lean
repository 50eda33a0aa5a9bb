/-! ===== rows of the heap ===== -/
/-- arrays as entries of the world: ints, booleans, bytes (by a function of whole numbers), longs, references -/
def aI (n : Nat) (g : Int → Int) : va_E := .inl (0, n, .inl (fun j => wb_i (g j)))
def aZ (n : Nat) (g : Int → Int) : va_E := .inl (2, n, .inl (fun j => wb_i (g j)))
def aB (n : Nat) (g : Int → Int) : va_E := .inl (3, n, .inl (fun j => wb_i (g j)))
def aL (n : Nat) (g : Int → Int64) : va_E := .inl (1, n, .inr (.inl (fun j => g j)))
def aQ (t n : Nat) (g : Nat → Option Nat) : va_E := .inl (t, n, .inr (.inr (.inr (.inr g))))
def wb_u {α : Type} (g : Int → α) (i : Int) (v : α) : Int → α := fun j => if j = i then v else g j
def wb_CL (ci : Nat) (C : String) (T : u_T) (Nf : Nat) (ty : Nat → FieldType) : Prop := vwCl[ci]? = some (C, T, Nf) ∧ (∀ w ∈ u_ws C T Nf, w ∈ wb_GW) ∧ (∀ k, k < Nf → parseFieldDescriptor (T k).2.2.1 = some (ty k)) ∧ (∀ a, a < Nf → ∀ b, b < Nf → a ≠ b → (T a).2.1 ≠ (T b).2.1) ∧ Cond.instantiable C Nf ∈ wb_GW ∧ Cond.initialized C ∈ wb_GW
def wb_fl (o : String) (idx : Nat) (d n t : String) : Prop := Cond.fieldLink o idx d n t ∈ wb_GW ∨ ∃ host, Cond.fieldLinkNest o idx d n t host ∈ wb_NW
/-- a field's link: place fk of class ci; its type, whether it is final -/
def wb_LF (o : String) (idx ci fk : Nat) (tf : FieldType) (fin : Bool) : Prop := ∃ (C : String) (T : u_T) (Nf : Nat) (ty : Nat → FieldType), wb_CL ci C T Nf ty ∧ fk < Nf ∧ wb_fl o idx (T fk).1 (T fk).2.1 (T fk).2.2.1 ∧ ty fk = tf ∧ (T fk).2.2.2 = fin
def wb_LFF (o : String) (idx ci fk : Nat) (tf : FieldType) : Prop := ∃ (C : String) (T : u_T) (Nf : Nat) (ty : Nat → FieldType), wb_CL ci C T Nf ty ∧ fk < Nf ∧ Cond.fieldLink o idx (T fk).1 (T fk).2.1 (T fk).2.2.1 ∈ wb_GW ∧ ty fk = tf ∧ (T fk).2.2.2 = true ∧ (T fk).1 = o
def wb_LN (o : String) (idx ci : Nat) (fs : List Value) : Prop := ∃ (C : String) (T : u_T) (ty : Nat → FieldType), wb_CL ci C T fs.length ty ∧ Cond.classLink o idx C ∈ wb_GW ∧ (∀ j, j < fs.length → defaultValue (ty j) = vp_V fs j)
theorem wb_one {D : va_G} {a : Nat} {e : va_E} {H : Heap} (h : va_at D vwCl (a, e) H) : va_P D vwCl [(a, e)] H := by
  intro k q hk
  cases k with
  | zero => cases hk; exact h
  | succ k => simp at hk
theorem wb_R.at {G : wb_G} {s : State} {H : Heap} {N : Nat} {w : wb_W} (h : wb_R G s H N w) {k : Nat} {e : va_E} (hw : w k = e) (he : e ≠ wb_no) : 3 ≤ k ∧ k < N ∧ va_at (wb_gD G) vwCl (wb_ad G k, wb_tE G e) H := by
  obtain ⟨h1, h2⟩ := h.rng (k := k) (by rw [hw]; exact he)
  have := h.2.2.1 k h1 h2
  rw [hw] at this
  exact ⟨h1, h2, this⟩
theorem wb_lf {s : State} {args : Array Value} {w : Cond} (hC : ∀ w ∈ wb_GW, w.before args s = true) (h : w ∈ wb_GW) : w.before args s = true := hC w h
section WBHEAP
variable {G : wb_G} {M : wb_MD} {pc nx tg : Nat} {l : List (Nat × Value)} {st : List Value} {N : Nat} {w : wb_W} {cc cs : Nat} {Q : Option Value → Nat → wb_W → Prop}
theorem vi_get (k : Nat) {idx q ci fk : Nat} {fs : List Value} {v : Value} {tf : FieldType} {fin : Bool} (h : (wb_op M)[k]? = some (pc, .getfield idx, nx, tg)) (hL : wb_LF (wb_nm M).cls idx ci fk tf fin) (hw : w q = .inr (ci, fs)) (hc : Nat.blt ci 99 = true) (hv : fs[fk]? = some v) (kk : wb_V G M nx l (v :: st) N w cc cs Q) : wb_V G M pc l (.ref q :: st) N w cc cs Q := by
  intro p e s m args below meth c H locs ls Qe hC hR hl hf hq
  obtain ⟨hd, hs⟩ := wb_opn hC.2.2.2.2.2.2.2.2.2 h
  have hnx : nx = pc + 3 := of_decide_eq_true hs
  subst hnx
  rw [Nat.add_sub_cancel_left] at hd
  obtain ⟨C, T, Nf, ty, hCL, hfk, hlk, -, -⟩ := hL
  obtain ⟨-, -, ha⟩ := hR.at hw (by intro q; unfold wb_no at q; cases q; exact absurd hc (by decide))
  have K := kk p e s m args below meth c H locs ls Qe hC hR hl hf hq
  rcases hlk with hlk | ⟨host, hlk⟩
  · exact va_get hC.1 hC.2.1 hC.2.2.2.2.2.2.2.1 hCL.2.1 hC.2.2.2.2.2.2.1 hC.2.2.2.2.2.2.2.2.1.1 (wb_one ha) 0 rfl hCL.1 fk hfk (hC.2.2.2.2.2.2.2.1 _ hlk) (fun _ h => h) (by rw [List.getElem?_map, hv]; rfl) hd K
  · exact va_getN hC.1 hC.2.1 hC.2.2.2.2.2.2.2.1 hCL.2.1 hC.2.2.2.2.2.2.1 hC.2.2.2.2.2.2.2.2.1.1 (wb_one ha) 0 rfl hCL.1 fk hfk (va_Nw.use rfl (hC.2.2.2.2.2.2.2.2.1.2.1 _ hlk)) (fun _ h => h) (by rw [List.getElem?_map, hv]; rfl) hd K
theorem vi_put (k : Nat) {idx q ci fk : Nat} {fs : List Value} {v : Value} {tf : FieldType} (h : (wb_op M)[k]? = some (pc, .putfield idx, nx, tg)) (hL : wb_LF (wb_nm M).cls idx ci fk tf false) (hw : w q = .inr (ci, fs)) (hc : Nat.blt ci 99 = true) (hlen : Nat.blt fk fs.length = true) (hn : narrow tf (wb_tr G v) = wb_tr G v) (hft : fits tf (wb_tr G v) = true) (kk : wb_V G M nx l st N (va_up w q (.inr (ci, fs.set fk v))) cc cs Q) : wb_V G M pc l (v :: .ref q :: st) N w cc cs Q := by
  intro p e s m args below meth c H locs ls Qe hC hR hl hf hq
  obtain ⟨hd, hs⟩ := wb_opn hC.2.2.2.2.2.2.2.2.2 h
  have hnx : nx = pc + 3 := of_decide_eq_true hs
  subst hnx
  rw [Nat.add_sub_cancel_left] at hd
  obtain ⟨C, T, Nf, ty, hCL, hfk, hlk, hty, hfin⟩ := hL
  obtain ⟨h3, hqN, ha⟩ := hR.at hw (by intro q; unfold wb_no at q; cases q; exact absurd hc (by decide))
  have hK := hC.2.2.2.2.2.2.2.2.1.1
  have hap := va_apart (own := (wb_nm M).cls) hC.2.2.2.2.2.2.2.1 hCL.2.1 ty hCL.2.2.1 hCL.2.2.2.1 hK hCL.1
  obtain ⟨r, h1, cell, q1, q2, q3, q4⟩ := ha
  have hr : r = (C, T, Nf) := Option.some.inj (h1.symm.trans hCL.1)
  subst hr
  obtain ⟨hS, hfc, kC, hkC, hkind⟩ := hK.1 ci _ hCL.1
  obtain ⟨cf, kf, fi, f, hi, hsl⟩ := hS fk hfk
  have hlay := hC.2.2.2.2.2.2.2.1 _ (hCL.2.1 _ (u_in_lay hfk))
  unfold u_lay at hlay
  rw [if_neg (by rw [hfin]; decide)] at hlay
  have hst := (u_facts hfc hkC (u_lays hC.2.2.2.2.2.2.2.1 hCL.2.1 hfk) hi).1
  have h6 := u_store hfc hkC hkind hlay hi (hCL.2.2.1 fk hfk) (by rw [hty]; exact hn) (by rw [hty]; exact hft)
  have go : ∀ H1 : Heap, H1[wb_ad G q]? = some (cell.setSlot f.slot (wb_tr G v)) → H1.size = H.size → (∀ x, x ≠ wb_ad G q → H1[x]? = H[x]?) → W p (wb_gl G) e (wb_rm M) s m args below meth c H1 (locs ++ [⟨wb_ad G q, f.slot⟩]) cc cs Qe (F0 m (pc + 3) ls (st.map (wb_tr G))) := by
    intro H1 e1 e2 e3
    rw [hsl] at e1 ⊢
    refine kk p e s m args below meth c H1 _ ls Qe hC (hR.set h3 hqN e2 e3 ?_) hl (fun x hx => ?_) hq
    · refine ⟨_, hCL.1, t_OB.to (V := updV (vp_V (fs.map (wb_tr G))) fk (wb_tr G v)) ⟨_, e1, q2, q3, t_set q4 hap hfk (wb_tr G v)⟩ (fun j _ => ?_)⟩
      rw [List.map_set]
      exact vp_updV_set (by rw [List.length_map]; exact wb_lt hlen) _ j
    · rcases List.mem_append.mp hx with hx | hx
      · exact hf x hx
      · rw [List.mem_singleton.mp hx]
        show wb_gb G ≤ wb_ad G q
        unfold wb_ad
        rw [if_neg (by omega)]
        omega
  rcases hlk with hlk | ⟨host, hlk⟩
  · exact W.putK hC.1 hC.2.1 (f := f) ⟨hC.2.2.2.2.2.2.1, hC.2.2.2.2.2.2.2.1 _ hlk, ⟨_, _, _, hi⟩, hst⟩ (by rw [q2]; exact h6) q1 q3 (by rw [hsl]; exact k2_hasslot (q4 fk hfk)) rfl rfl hd go
  · exact va_WputK hC.1 hC.2.1 (f := f) hC.2.2.2.2.2.2.1 (va_Nw.use rfl (hC.2.2.2.2.2.2.2.2.1.2.1 _ hlk)) hi hst (by rw [q2]; exact h6) q1 q3 (by rw [hsl]; exact k2_hasslot (q4 fk hfk)) rfl rfl hd go
theorem vi_putF (k : Nat) {idx q ci fk : Nat} {fs : List Value} {v : Value} {tf : FieldType} (h : (wb_op M)[k]? = some (pc, .putfield idx, nx, tg)) (hL : wb_LFF (wb_nm M).cls idx ci fk tf) (hini : (wb_nm M).name = "<init>") (hw : w q = .inr (ci, fs)) (hc : Nat.blt ci 99 = true) (hlen : Nat.blt fk fs.length = true) (hn : narrow tf (wb_tr G v) = wb_tr G v) (hft : fits tf (wb_tr G v) = true) (kk : wb_V G M nx l st N (va_up w q (.inr (ci, fs.set fk v))) cc cs Q) : wb_V G M pc l (v :: .ref q :: st) N w cc cs Q := by
  intro p e s m args below meth c H locs ls Qe hC hR hl hf hq
  obtain ⟨hd, hs⟩ := wb_opn hC.2.2.2.2.2.2.2.2.2 h
  have hnx : nx = pc + 3 := of_decide_eq_true hs
  subst hnx
  rw [Nat.add_sub_cancel_left] at hd
  obtain ⟨C, T, Nf, ty, hCL, hfk, hlk, hty, hfin, hdecl⟩ := hL
  obtain ⟨h3, hqN, ha⟩ := hR.at hw (by intro q; unfold wb_no at q; cases q; exact absurd hc (by decide))
  have hK := hC.2.2.2.2.2.2.2.2.1.1
  have hown := hC.2.2.2.2.2.2.1
  have hap := va_apart (own := (wb_nm M).cls) hC.2.2.2.2.2.2.2.1 hCL.2.1 ty hCL.2.2.1 hCL.2.2.2.1 hK hCL.1
  obtain ⟨r, h1, cell, q1, q2, q3, q4⟩ := ha
  have hr : r = (C, T, Nf) := Option.some.inj (h1.symm.trans hCL.1)
  subst hr
  obtain ⟨hS, hfc, kC, hkC, hkind⟩ := hK.1 ci _ hCL.1
  obtain ⟨cf, kf, fi, f, hi, hsl⟩ := hS fk hfk
  have hlay := hC.2.2.2.2.2.2.2.1 _ (hCL.2.1 _ (u_in_lay hfk))
  unfold u_lay at hlay
  rw [if_pos hfin] at hlay
  have hst := (u_facts hfc hkC (u_lays hC.2.2.2.2.2.2.2.1 hCL.2.1 hfk) hi).1
  have hcf : m.cls = cf := by
    obtain ⟨_, _, c', _, _, _, -, -, hf', -, -, -, hown2, -⟩ := Cond.laysFinal_spec hlay
    have e1 : c' = cf := by have := hi.symm.trans hf'; simp at this; exact this.1.symm
    rw [hdecl] at hown2
    rw [← e1]; exact Option.some.inj (hown.symm.trans hown2)
  have h6 := u_fits hfc hkC hkind (Or.inr hlay) hi (hCL.2.2.1 fk hfk) (by rw [hty]; exact hn) (by rw [hty]; exact hft)
  refine W.putFinK hC.1 hC.2.1 hown (hC.2.2.2.2.2.2.2.1 _ hlk) hi hst hcf (by rw [hC.2.2.2.2.2.1]; exact hini) (by rw [q2]; exact h6) q1 q3 (by rw [hsl]; exact k2_hasslot (q4 fk hfk)) rfl rfl hd fun H1 e1 e2 e3 => ?_
  rw [hsl] at e1 ⊢
  refine kk p e s m args below meth c H1 _ ls Qe hC (hR.set h3 hqN e2 e3 ?_) hl (fun x hx => ?_) hq
  · refine ⟨_, hCL.1, t_OB.to (V := updV (vp_V (fs.map (wb_tr G))) fk (wb_tr G v)) ⟨_, e1, q2, q3, t_set q4 hap hfk (wb_tr G v)⟩ (fun j _ => ?_)⟩
    rw [List.map_set]
    exact vp_updV_set (by rw [List.length_map]; exact wb_lt hlen) _ j
  · rcases List.mem_append.mp hx with hx | hx
    · exact hf x hx
    · rw [List.mem_singleton.mp hx]
      show wb_gb G ≤ wb_ad G q
      unfold wb_ad
      rw [if_neg (by omega)]
      omega
end WBHEAP
