/-! ===== the class's face: what hangs on all that fit ===== -/
def wb_IS (w : wb_W) (n : Int) (c s : Int → Int) (sd sf tu : Int) (K : Int → Bool) (wt : Int) : Prop := ∃ nt nb nf dt db df : Int, wb_Se w nt nb nf dt db df ∧ (0 ≤ nt ∧ nt ≤ wt) ∧ (nt = tu → wb_nr n c s sd sf K nb nf) ∧ (0 ≤ dt ∧ dt ≤ wt) ∧ (dt = tu → wb_dn n c s sd sf K db df)
def wb_IB (w : wb_W) (n : Int) (c s : Int → Int) (sd sf tu : Int) (K : Int → Bool) (wt : Int) : Prop := ∃ pa bt mo th be bh : Int, wb_Br w pa bt mo th be bh ∧ wb_BS w ∧ (0 ≤ bt ∧ bt ≤ wt) ∧ (bt = tu → ∀ hl, wb_HL hl n c sd sf → wb_cg n c s sd sf K hl mo th be bh)
def wb_IW (w : wb_W) (n : Int) (c s : Int → Int) (sd sf tu : Int) (K : Int → Bool) (wt : Int) : Prop := ∃ (xt : Int) (wf cf ms ff : Int → Int), wb_We w xt wf cf ms ff ∧ (∃ g, wb_Mw w 90 g) ∧ (0 ≤ xt ∧ xt ≤ wt) ∧ (xt = tu → ∀ hl, wb_HL hl n c sd sf → wb_wv n c s sd sf K hl ms ff)
def wb_In (w : wb_W) (n : Int) (c s : Int → Int) (sd sf tu : Int) (K : Int → Bool) (wt : Int) : Prop := (∃ hl ct mt, wb_Wk w n c s sd sf tu K hl wt ct mt) ∧ wb_IS w n c s sd sf tu K wt ∧ wb_IB w n c s sd sf tu K wt ∧ wb_IW w n c s sd sf tu K wt
section WBS50a
variable {w w' : wb_W} {n n' : Int} {c s c' s' : Int → Int} {sd sf sd' sf' tu tu' : Int} {K K' : Int → Bool} {wt wt' : Int}
theorem wb_IS.fr (h : wb_IS w n c s sd sf tu K wt) (hw : wt ≤ wt') (hf : w' 81 = w 81) : wb_IS w' n c s sd sf tu K wt' := by
  obtain ⟨nt, nb, nf, dt, db, df, h1, h2, h3, h4, h5⟩ := h
  exact ⟨nt, nb, nf, dt, db, df, hf.trans h1, by omega, h3, by omega, h5⟩
theorem wb_IB.fr (h : wb_IB w n c s sd sf tu K wt) (hw : wt ≤ wt') (hf : ∀ k, 82 ≤ k → k < 89 → w' k = w k) : wb_IB w' n c s sd sf tu K wt' := by
  obtain ⟨pa, bt, mo, th, be, bh, h1, h2, h3, h4⟩ := h
  exact ⟨pa, bt, mo, th, be, bh, (hf 82 (by omega) (by omega)).trans h1, h2.fr (fun k p1 p2 => hf k (by omega) p2), by omega, h4⟩
theorem wb_IW.fr (h : wb_IW w n c s sd sf tu K wt) (hw : wt ≤ wt') (hf : ∀ k, 89 ≤ k → k < 96 → w' k = w k) : wb_IW w' n c s sd sf tu K wt' := by
  obtain ⟨xt, wf, cf, ms, ff, h1, ⟨g, h2⟩, h3, h4⟩ := h
  exact ⟨xt, wf, cf, ms, ff, h1.fr (fun k hk => hf k (by omega) (by omega)), ⟨g, h2.fr (fun k p1 p2 => hf k (by omega) (by omega))⟩, by omega, h4⟩
theorem wb_In.fr (h : wb_In w n c s sd sf tu K wt) (hf : ∀ k, 29 ≤ k → k < 96 → w' k = w k) : wb_In w' n c s sd sf tu K wt := by
  obtain ⟨⟨hl, ct, mt, h1⟩, h2, h3, h4⟩ := h
  exact ⟨⟨hl, ct, mt, h1.fr (fun k p1 p2 => hf k p1 (by omega))⟩, h2.fr (by omega) (hf _ (by omega) (by omega)), h3.fr (by omega) (fun k p1 p2 => hf k (by omega) (by omega)), h4.fr (by omega) (fun k p1 p2 => hf k (by omega) p2)⟩
theorem wb_In.new (h : wb_In w n c s sd sf tu K wt) (ht : tu < tu') (ht2 : tu' ≤ 1000000) : wb_In w n' c' s' sd' sf' tu' K' wt := by
  obtain ⟨⟨hl, ct, mt, h1⟩, ⟨nt, nb, nf, dt, db, df, a1, a2, a3, a4, a5⟩, ⟨pa, bt, mo, th, be, bh, b1, b2, b3, b4⟩, xt, wf, cf, ms, ff, d1, d2, d3, d4⟩ := h
  have hm := h1.2.2.2.2.2.2.1
  exact ⟨⟨hl, ct, mt, h1.new ht ht2⟩, ⟨nt, nb, nf, dt, db, df, a1, a2, fun q => by omega, a4, fun q => by omega⟩, ⟨pa, bt, mo, th, be, bh, b1, b2, b3, fun q => by omega⟩, xt, wf, cf, ms, ff, d1, d2, d3, fun q => by omega⟩
theorem wb_Wk.fl {hl ct mt : Int} (h : wb_Wk w n c s sd sf tu K hl wt ct mt) (hfs : wb_FS w') (hf : ∀ k, (k < 35 ∨ 38 ≤ k) → w' k = w k) : wb_Wk w' n c s sd sf tu K hl wt ct mt := by
  obtain ⟨h1, h2, h3, h4, ⟨g5, h5⟩, ⟨g6, h6⟩, h7, h8⟩ := h
  refine ⟨h1.fr (fun k hk => hf k (by omega)), hfs, h3.fr (fun k p1 p2 => hf k (by omega)), h4.fr (fun k p1 p2 => hf k (by omega)), ⟨g5, h5.fr (fun k p1 p2 => hf k (by omega))⟩, ⟨g6, h6.fr (fun k p1 p2 => hf k (by omega))⟩, h7, fun q => ?_⟩
  obtain ⟨a1, ⟨g, a2, a3⟩, a4, a5⟩ := h8 q
  exact ⟨a1, ⟨g, a2.fr (fun k p1 p2 => hf k (by omega)), a3⟩, a4.fr (fun k p1 p2 => hf k (by omega)), fun t t1 t2 => have hcr := wb_cp_rg hl (t := t) ⟨t1, t2⟩; (a5 t t1 t2).fr (fun k p1 p2 => hf k (by omega))⟩
theorem wb_In.fl (h : wb_In w n c s sd sf tu K wt) (hfs : wb_FS w') (hf : ∀ k, (k < 35 ∨ 38 ≤ k) → w' k = w k) : wb_In w' n c s sd sf tu K wt := by
  obtain ⟨⟨hl, ct, mt, h1⟩, h2, h3, h4⟩ := h
  exact ⟨⟨hl, ct, mt, h1.fl hfs hf⟩, h2.fr (by omega) (hf _ (by omega)), h3.fr (by omega) (fun k p1 p2 => hf k (by omega)), h4.fr (by omega) (fun k p1 p2 => hf k (by omega))⟩
theorem wb_HL_eq {hl hl' : Int} (h : wb_HL hl n c sd sf) (h' : wb_HL hl' n c sd sf) : hl = hl' := by
  rcases h with ⟨a, b⟩ | ⟨a, b⟩ <;> rcases h' with ⟨a', b'⟩ | ⟨a', b'⟩
  · omega
  · exact absurd a a'
  · exact absurd a' a
  · omega
end WBS50a
abbrev wb_J (n : Int) (c s : Int → Int) (sd sf x : Int) : Int := (wb_jg (fun t => wb_fm (wb_pk c s sd sf x t) n.toNat) n 3).2
section WBS50
variable {G : wb_G} {N : Nat} {w : wb_W} {Q : Option Value → Nat → wb_W → Prop}
variable {n : Int} {c s : Int → Int} {sd sf bo tu : Int} {g : Int → Int64} {K : Int → Bool} {wt : Int}
theorem wb_updI (hbk : wb_Bk w 4 n c s sd sf bo tu g) (hR : wb_BR n c s sd sf) (hK : wb_rp g K) (htu : 1 ≤ tu) (hI : wb_In w n c s sd sf tu K wt)
    (hQ : ∀ w', wb_In w' n c s sd sf tu K tu → (∀ k, (k < 29 ∨ 81 ≤ k) → w' k = w k) → Q none N w') : wb_M G M_X10_update [.ref 29] N w Q := by
  obtain ⟨⟨hl, ct, mt, h1⟩, h2, h3, h4⟩ := hI
  have hm := h1.2.2.2.2.2.2.1
  refine sp_X10_update hbk hR hK h1 htu (fun w' hl' ct' mt' hwk' hf => ?_)
  exact hQ w' ⟨⟨hl', ct', mt', hwk'⟩, h2.fr (by omega) (hf _ (by omega)), h3.fr (by omega) (fun k p1 p2 => hf k (by omega)), h4.fr (by omega) (fun k p1 p2 => hf k (by omega))⟩ hf
theorem wb_In.wk (hI : wb_In w n c s sd sf tu K tu) : ∃ hl ct mt, wb_Wk w n c s sd sf tu K hl tu ct mt := hI.1
theorem wb_In.r29 (hI : wb_In w n c s sd sf tu K wt) : ∃ fs, w 29 = .inr (10, fs) := by
  obtain ⟨⟨hl, ct, mt, h1⟩, -⟩ := hI
  exact ⟨_, h1.1.1⟩
theorem sp_X11_fits {x h : Int} (hx3 : wb_X3 w) (hbk : wb_Bk w 4 n c s sd sf bo tu g) (hR : wb_BR n c s sd sf) (hK : wb_rp g K) (hI : wb_In w n c s sd sf tu K wt) (hx : -2147483648 ≤ x ∧ x ≤ 2147483647) (hh : -2147483648 ≤ h ∧ h ≤ 2147483647)
    (hQ : ∀ (w' : wb_W) (r : Int), ((¬ (0 ≤ x ∧ x < 15625) ∧ r = -1) ∨ ((0 ≤ x ∧ x < 15625) ∧ ((¬ (0 ≤ h ∧ h ≤ 2) ∧ r = -2) ∨ ((0 ≤ h ∧ h ≤ 2) ∧ (((h = 1 ∨ K x = true) ∧ (h = 0 ∨ wb_J n c s sd sf x < 0) ∧ r = 1) ∨ (¬ ((h = 1 ∨ K x = true) ∧ (h = 0 ∨ wb_J n c s sd sf x < 0)) ∧ r = 0)))))) → wb_In w' n c s sd sf tu K wt → (∀ k, (k < 29 ∨ 96 ≤ k) → w' k = w k) → Q (some (.int (wb_i r))) N w') : wb_M G M_X11_fits [.ref 3, .int (wb_i x), .int (wb_i h)] N w Q := by
  unfold wb_M
  have hn := hR.1
  have hbk' := hbk
  obtain ⟨h0, h1, h2, h3, h4⟩ := hbk'
  have hI' := hI
  obtain ⟨⟨hl, ct, mt, hwk⟩, -⟩ := hI'
  have hjr := fun q : 0 ≤ x ∧ x < 15625 => (wb_jg_rg (r := fun t => wb_fm (wb_pk c s sd sf x t) n.toNat) hn (fun t => (wb_fm_rg _ _).1) 3 (by omega)).2
  have tl : (0 ≤ x ∧ x < 15625) → (0 ≤ h ∧ h ≤ 2) → ∀ kp : Int, (kp = 1 ∧ (h = 1 ∨ K x = true)) ∨ (kp = 0 ∧ ¬ (h = 1 ∨ K x = true)) → wb_V G M_X11_fits 45 [(0, .ref 3), (1, .int (wb_i x)), (2, .int (wb_i h)), (3, .int (wb_i kp))] [] N w 0 0 Q := by
    intro hx1 hh1 kp hkp
    have hjx := hjr hx1
    have tl2 : ∀ (w2 : wb_W) (ag : Int), wb_In w2 n c s sd sf tu K wt → (∀ k, (k < 29 ∨ 96 ≤ k) → w2 k = w k) → ((ag = 1 ∧ (h = 0 ∨ wb_J n c s sd sf x < 0)) ∨ (ag = 0 ∧ ¬ (h = 0 ∨ wb_J n c s sd sf x < 0))) → wb_V G M_X11_fits 67 [(3, .int (wb_i kp)), (4, .int (wb_i ag))] [] N w2 0 0 Q := by
      intro w2 ag hI2 hf2 hag
      refine vi_iload_n 35 rfl rfl ?_
      refine vi_if_eq 36 rfl (by omega) (fun c_68 => ?_) (fun c_68 => ?_)
      · refine vi_iconst 41 rfl ?_
        exact vi_ireturn 42 rfl rfl rfl (Nat.zero_le _) (Nat.zero_le _) (hQ w2 0 (Or.inr ⟨hx1, Or.inr ⟨hh1, Or.inr ⟨fun q => by obtain ⟨q1, q2⟩ := q; first | (rcases hkp with ⟨z1, z2⟩ | ⟨z1, z2⟩; omega; exact z2 q1) | (rcases hag with ⟨z1, z2⟩ | ⟨z1, z2⟩; omega; exact z2 q2), rfl⟩⟩⟩) hI2 hf2)
      · refine vi_iload 37 rfl rfl ?_
        refine vi_if_eq 38 rfl (by omega) (fun c_73 => ?_) (fun c_73 => ?_)
        · refine vi_iconst 41 rfl ?_
          exact vi_ireturn 42 rfl rfl rfl (Nat.zero_le _) (Nat.zero_le _) (hQ w2 0 (Or.inr ⟨hx1, Or.inr ⟨hh1, Or.inr ⟨fun q => by obtain ⟨q1, q2⟩ := q; first | (rcases hkp with ⟨z1, z2⟩ | ⟨z1, z2⟩; omega; exact z2 q1) | (rcases hag with ⟨z1, z2⟩ | ⟨z1, z2⟩; omega; exact z2 q2), rfl⟩⟩⟩) hI2 hf2)
        · refine vi_iconst 39 rfl ?_
          refine vi_goto 40 rfl ?_
          exact vi_ireturn 42 rfl rfl rfl (Nat.zero_le _) (Nat.zero_le _) (hQ w2 1 (Or.inr ⟨hx1, Or.inr ⟨hh1, Or.inl ⟨by rcases hkp with ⟨_, z⟩ | ⟨z, _⟩; (exact z); omega, by rcases hag with ⟨_, z⟩ | ⟨z, _⟩; (exact z); omega, rfl⟩⟩⟩) hI2 hf2)
    refine vi_iload_n 24 rfl rfl ?_
    refine vi_if_eq 25 rfl (by omega) (fun c_46 => ?_) (fun c_46 => ?_)
    · refine vi_iconst 31 rfl ?_
      refine vi_goto 32 rfl ?_
      refine vi_istore 34 rfl rfl ?_
      first | exact vi_lc (tl2 w 1 hI (fun _ _ => rfl) (Or.inl ⟨rfl, Or.inl (by omega)⟩)) ⟨rfl, rfl, trivial⟩ | exact vi_lc (tl2 w2 0 hI2 (fun k hk => hf2 k (by omega)) (Or.inr ⟨rfl, fun q => by rcases q with q | q; omega; (have q' : wb_J n c s sd sf x < 0 := q; unfold wb_J at q'; omega)⟩)) ⟨rfl, rfl, trivial⟩ | exact vi_lc (tl2 w2 1 hI2 (fun k hk => hf2 k (by omega)) (Or.inl ⟨rfl, Or.inr (by show (wb_jg _ _ 3).2 < 0; omega)⟩)) ⟨rfl, rfl, trivial⟩
    · refine vi_aload_n 26 rfl rfl ?_
      refine vi_get 27 rfl f_X11_36 hx3 rfl rfl ?_
      refine vi_iload_n 28 rfl rfl ?_
      refine vi_V1 29 ok_X10_judged rfl c_X11_151 hwk.1.1 rfl rfl ?_
      refine sp_X10_judged hwk.1 hwk.2.1 hbk hR hx1 (fun w2 hfs2 hf2 => ?_)
      have hI2 := hI.fl hfs2 hf2
      refine vi_if_ge 30 rfl (by omega) (fun c_57 => ?_) (fun c_57 => ?_)
      · refine vi_iconst 33 rfl ?_
        refine vi_istore 34 rfl rfl ?_
        first | exact vi_lc (tl2 w 1 hI (fun _ _ => rfl) (Or.inl ⟨rfl, Or.inl (by omega)⟩)) ⟨rfl, rfl, trivial⟩ | exact vi_lc (tl2 w2 0 hI2 (fun k hk => hf2 k (by omega)) (Or.inr ⟨rfl, fun q => by rcases q with q | q; omega; (have q' : wb_J n c s sd sf x < 0 := q; unfold wb_J at q'; omega)⟩)) ⟨rfl, rfl, trivial⟩ | exact vi_lc (tl2 w2 1 hI2 (fun k hk => hf2 k (by omega)) (Or.inl ⟨rfl, Or.inr (by show (wb_jg _ _ 3).2 < 0; omega)⟩)) ⟨rfl, rfl, trivial⟩
      · refine vi_iconst 31 rfl ?_
        refine vi_goto 32 rfl ?_
        refine vi_istore 34 rfl rfl ?_
        first | exact vi_lc (tl2 w 1 hI (fun _ _ => rfl) (Or.inl ⟨rfl, Or.inl (by omega)⟩)) ⟨rfl, rfl, trivial⟩ | exact vi_lc (tl2 w2 0 hI2 (fun k hk => hf2 k (by omega)) (Or.inr ⟨rfl, fun q => by rcases q with q | q; omega; (have q' : wb_J n c s sd sf x < 0 := q; unfold wb_J at q'; omega)⟩)) ⟨rfl, rfl, trivial⟩ | exact vi_lc (tl2 w2 1 hI2 (fun k hk => hf2 k (by omega)) (Or.inl ⟨rfl, Or.inr (by show (wb_jg _ _ 3).2 < 0; omega)⟩)) ⟨rfl, rfl, trivial⟩
  refine vi_iload_n 0 rfl rfl ?_
  refine vi_S1 1 ok_X11_isMixture rfl c_X11_145 rfl ?_
  refine sp_X11_isMixture (by omega) (fun b_1 => ?_) (fun b_1 => ?_)
  · refine vi_if_ne 2 rfl (by omega) (fun _ => ?_) (fun c => absurd c (by decide))
    refine vi_iload_n 5 rfl rfl ?_
    refine vi_iconst 6 rfl ?_
    refine vi_S2 7 ok_X11_within rfl c_X11_67 rfl ?_
    refine sp_X11_within (by omega) (by omega) (fun b_11 => ?_) (fun b_11 => ?_)
    · refine vi_if_ne 8 rfl (by omega) (fun _ => ?_) (fun c => absurd c (by decide))
      refine vi_iload_n 11 rfl rfl ?_
      refine vi_iconst 12 rfl ?_
      refine vi_icmp_eq 13 rfl (by omega) (by omega) (fun c_22 => ?_) (fun c_22 => ?_)
      · refine vi_iconst 20 rfl ?_
        refine vi_goto 21 rfl ?_
        refine vi_istore_n 23 rfl rfl ?_
        first | exact vi_lc (tl b_1 b_11 1 (Or.inl ⟨rfl, Or.inl (by omega)⟩)) ⟨rfl, rfl, rfl, rfl, trivial⟩ | exact vi_lc (tl b_1 b_11 1 (Or.inl ⟨rfl, Or.inr b_33.2⟩)) ⟨rfl, rfl, rfl, rfl, trivial⟩ | exact vi_lc (tl b_1 b_11 0 (Or.inr ⟨rfl, fun q => by rcases q with q | q; omega; exact b_33 ⟨b_1, q⟩⟩)) ⟨rfl, rfl, rfl, rfl, trivial⟩
      · refine vi_aload_n 14 rfl rfl ?_
        refine vi_get 15 rfl f_X11_10 hx3 rfl rfl ?_
        refine vi_get 16 rfl f_X11_125 h0 rfl rfl ?_
        refine vi_iload_n 17 rfl rfl ?_
        refine vi_V1 18 ok_X5_has rfl c_X11_148 h3 rfl rfl ?_
        refine sp_X5_has (b := 7) ⟨h3, h4⟩ hK (by omega) (fun b_33 => ?_) (fun b_33 => ?_)
        · refine vi_if_eq 19 rfl (by omega) (fun c => absurd c (by decide)) (fun _ => ?_)
          refine vi_iconst 20 rfl ?_
          refine vi_goto 21 rfl ?_
          refine vi_istore_n 23 rfl rfl ?_
          first | exact vi_lc (tl b_1 b_11 1 (Or.inl ⟨rfl, Or.inl (by omega)⟩)) ⟨rfl, rfl, rfl, rfl, trivial⟩ | exact vi_lc (tl b_1 b_11 1 (Or.inl ⟨rfl, Or.inr b_33.2⟩)) ⟨rfl, rfl, rfl, rfl, trivial⟩ | exact vi_lc (tl b_1 b_11 0 (Or.inr ⟨rfl, fun q => by rcases q with q | q; omega; exact b_33 ⟨b_1, q⟩⟩)) ⟨rfl, rfl, rfl, rfl, trivial⟩
        · refine vi_if_eq 19 rfl (by omega) (fun _ => ?_) (fun c => absurd c (by decide))
          refine vi_iconst 22 rfl ?_
          refine vi_istore_n 23 rfl rfl ?_
          first | exact vi_lc (tl b_1 b_11 1 (Or.inl ⟨rfl, Or.inl (by omega)⟩)) ⟨rfl, rfl, rfl, rfl, trivial⟩ | exact vi_lc (tl b_1 b_11 1 (Or.inl ⟨rfl, Or.inr b_33.2⟩)) ⟨rfl, rfl, rfl, rfl, trivial⟩ | exact vi_lc (tl b_1 b_11 0 (Or.inr ⟨rfl, fun q => by rcases q with q | q; omega; exact b_33 ⟨b_1, q⟩⟩)) ⟨rfl, rfl, rfl, rfl, trivial⟩
    · refine vi_if_ne 8 rfl (by omega) (fun c => absurd c (by decide)) (fun _ => ?_)
      refine vi_bipush 9 rfl (by decide) ?_
      exact vi_ireturn 10 rfl rfl rfl (Nat.zero_le _) (Nat.zero_le _) (hQ w (-2) (Or.inr ⟨b_1, Or.inl ⟨b_11, rfl⟩⟩) hI (fun _ _ => rfl))
  · refine vi_if_ne 2 rfl (by omega) (fun c => absurd c (by decide)) (fun _ => ?_)
    refine vi_iconst 3 rfl ?_
    exact vi_ireturn 4 rfl rfl rfl (Nat.zero_le _) (Nat.zero_le _) (hQ w (-1) (Or.inl ⟨b_1, rfl⟩) hI (fun _ _ => rfl))
theorem sp_X11_needs {x m t : Int} (hx3 : wb_X3 w) (hbk : wb_Bk w 4 n c s sd sf bo tu g) (hR : wb_BR n c s sd sf) (hx : -2147483648 ≤ x ∧ x ≤ 2147483647) (hm : -2147483648 ≤ m ∧ m ≤ 2147483647) (ht : -2147483648 ≤ t ∧ t ≤ 2147483647)
    (hQ : Q (some (.int (wb_i (if (0 ≤ x ∧ x < 15625) ∧ (0 ≤ m ∧ m < n) ∧ (0 ≤ t ∧ t < 3) then wb_ne c sd sf x m t else -1)))) N w) : wb_M G M_X11_needs [.ref 3, .int (wb_i x), .int (wb_i m), .int (wb_i t)] N w Q := by
  unfold wb_M
  have hn := hR.1
  refine vi_iload_n 0 rfl rfl ?_
  refine vi_S1 1 ok_X11_isMixture rfl c_X11_145 rfl ?_
  refine sp_X11_isMixture (by omega) (fun b_1 => ?_) (fun b_1 => ?_)
  · refine vi_if_eq 2 rfl (by omega) (fun c => absurd c (by decide)) (fun _ => ?_)
    refine vi_aload_n 3 rfl rfl ?_
    refine vi_iload_n 4 rfl rfl ?_
    refine vi_V1 5 ok_X11_isMonth rfl c_X11_83 hx3 rfl rfl ?_
    refine sp_X11_isMonth ‹_› ‹_› (by omega) (by omega) (fun b_9 => ?_) (fun b_9 => ?_)
    · refine vi_if_eq 6 rfl (by omega) (fun c => absurd c (by decide)) (fun _ => ?_)
      refine vi_iload_n 7 rfl rfl ?_
      refine vi_S1 8 ok_X11_isThing rfl c_X11_94 rfl ?_
      refine sp_X11_isThing (by omega) (fun b_16 => ?_) (fun b_16 => ?_)
      · refine vi_if_ne 9 rfl (by omega) (fun _ => ?_) (fun c => absurd c (by decide))
        refine vi_aload_n 12 rfl rfl ?_
        refine vi_get 13 rfl f_X11_10 hx3 rfl rfl ?_
        refine vi_iload_n 14 rfl rfl ?_
        refine vi_iload_n 15 rfl rfl ?_
        refine vi_iload_n 16 rfl rfl ?_
        refine vi_V3 17 ok_X0_neededBy rfl c_X11_155 hbk.1 rfl rfl ?_
        refine sp_X0_neededBy ‹_› ‹_› (by omega) (by omega) (by omega) ?_
        exact vi_ireturn 18 rfl rfl rfl (Nat.zero_le _) (Nat.zero_le _) (by rw [if_pos (by omega)] at hQ; exact hQ)
      · refine vi_if_ne 9 rfl (by omega) (fun c => absurd c (by decide)) (fun _ => ?_)
        refine vi_iconst 10 rfl ?_
        exact vi_ireturn 11 rfl rfl rfl (Nat.zero_le _) (Nat.zero_le _) (by rw [if_neg (by omega)] at hQ; exact hQ)
    · refine vi_if_eq 6 rfl (by omega) (fun _ => ?_) (fun c => absurd c (by decide))
      refine vi_iconst 10 rfl ?_
      exact vi_ireturn 11 rfl rfl rfl (Nat.zero_le _) (Nat.zero_le _) (by rw [if_neg (by omega)] at hQ; exact hQ)
  · refine vi_if_eq 2 rfl (by omega) (fun _ => ?_) (fun c => absurd c (by decide))
    refine vi_iconst 10 rfl ?_
    exact vi_ireturn 11 rfl rfl rfl (Nat.zero_le _) (Nat.zero_le _) (by rw [if_neg (by omega)] at hQ; exact hQ)
theorem sp_X11_judge {x h : Int} (hx3 : wb_X3 w) (hbk : wb_Bk w 4 n c s sd sf bo tu g) (hR : wb_BR n c s sd sf) (hI : wb_In w n c s sd sf tu K wt) (hx : -2147483648 ≤ x ∧ x ≤ 2147483647) (hh : -2147483648 ≤ h ∧ h ≤ 2147483647)
    (hQ : ∀ (w' : wb_W), wb_In w' n c s sd sf tu K wt → (∀ k, (k < 29 ∨ 96 ≤ k) → w' k = w k) → Q (some (.int (wb_i (if 0 ≤ x ∧ x < 15625 then (if 0 ≤ h ∧ h ≤ 1 then (if wb_J n c s sd sf x < 0 then -6 else if h = 0 then wb_J n c s sd sf x / 3 else wb_J n c s sd sf x % 3) else -2) else -1)))) N w') : wb_M G M_X11_judge [.ref 3, .int (wb_i x), .int (wb_i h)] N w Q := by
  unfold wb_M
  have hn := hR.1
  have hI' := hI
  obtain ⟨⟨hl, ct, mt, hwk⟩, -⟩ := hI'
  have hjx := (wb_jg_rg (r := fun t => wb_fm (wb_pk c s sd sf x t) n.toNat) hn (fun t => (wb_fm_rg _ _).1) 3 (by omega)).2
  change -1 ≤ wb_J n c s sd sf x ∧ wb_J n c s sd sf x ≤ 100 at hjx
  refine vi_iload_n 0 rfl rfl ?_
  refine vi_S1 1 ok_X11_isMixture rfl c_X11_145 rfl ?_
  refine sp_X11_isMixture (by omega) (fun b_1 => ?_) (fun b_1 => ?_)
  · refine vi_if_ne 2 rfl (by omega) (fun _ => ?_) (fun c => absurd c (by decide))
    refine vi_iload_n 5 rfl rfl ?_
    refine vi_iconst 6 rfl ?_
    refine vi_S2 7 ok_X11_within rfl c_X11_67 rfl ?_
    refine sp_X11_within (by omega) (by omega) (fun b_11 => ?_) (fun b_11 => ?_)
    · refine vi_if_ne 8 rfl (by omega) (fun _ => ?_) (fun c => absurd c (by decide))
      refine vi_aload_n 11 rfl rfl ?_
      refine vi_get 12 rfl f_X11_36 hx3 rfl rfl ?_
      refine vi_iload_n 13 rfl rfl ?_
      refine vi_V1 14 ok_X10_judged rfl c_X11_151 hwk.1.1 rfl rfl ?_
      refine sp_X10_judged hwk.1 hwk.2.1 hbk hR b_1 (fun w2 hfs2 hf2 => ?_)
      have hI2 := hI.fl hfs2 hf2
      change wb_V G M_X11_judge 28 _ [.int (wb_i (wb_J n c s sd sf x))] N w2 0 0 Q
      have hQ2 := hQ w2 hI2 (fun k hk => hf2 k (by omega))
      rw [if_pos b_1, if_pos b_11] at hQ2
      refine vi_istore_n 15 rfl rfl ?_
      refine vi_iload_n 16 rfl rfl ?_
      refine vi_if_ge 17 rfl (by omega) (fun c_30 => ?_) (fun c_30 => ?_)
      · refine vi_iload_n 20 rfl rfl ?_
        refine vi_if_ne 21 rfl (by omega) (fun c_37 => ?_) (fun c_37 => ?_)
        · refine vi_iload_n 26 rfl rfl ?_
          refine vi_iconst 27 rfl ?_
          refine vi_irem 28 rfl (by omega) (by omega) ?_
          exact vi_ireturn 29 rfl rfl rfl (Nat.zero_le _) (Nat.zero_le _) (by first | (rw [if_neg (by omega), if_pos (by omega)] at hQ2; exact hQ2) | (rw [if_neg (by omega), if_neg (by omega)] at hQ2; exact hQ2))
        · refine vi_iload_n 22 rfl rfl ?_
          refine vi_iconst 23 rfl ?_
          refine vi_idiv 24 rfl (by omega) (by omega) ?_
          refine vi_goto 25 rfl ?_
          exact vi_ireturn 29 rfl rfl rfl (Nat.zero_le _) (Nat.zero_le _) (by first | (rw [if_neg (by omega), if_pos (by omega)] at hQ2; exact hQ2) | (rw [if_neg (by omega), if_neg (by omega)] at hQ2; exact hQ2))
      · refine vi_bipush 18 rfl (by decide) ?_
        exact vi_ireturn 19 rfl rfl rfl (Nat.zero_le _) (Nat.zero_le _) (by rw [if_pos (by omega)] at hQ2; exact hQ2)
    · refine vi_if_ne 8 rfl (by omega) (fun c => absurd c (by decide)) (fun _ => ?_)
      refine vi_bipush 9 rfl (by decide) ?_
      exact vi_ireturn 10 rfl rfl rfl (Nat.zero_le _) (Nat.zero_le _) (by have := hQ w hI (fun _ _ => rfl); rw [if_pos b_1, if_neg b_11] at this; exact this)
  · refine vi_if_ne 2 rfl (by omega) (fun c => absurd c (by decide)) (fun _ => ?_)
    refine vi_iconst 3 rfl ?_
    exact vi_ireturn 4 rfl rfl rfl (Nat.zero_le _) (Nat.zero_le _) (by have := hQ w hI (fun _ _ => rfl); rw [if_neg b_1] at this; exact this)
theorem sp_X11_lies {x t m e : Int} (hx3 : wb_X3 w) (hbk : wb_Bk w 4 n c s sd sf bo tu g) (hR : wb_BR n c s sd sf) (hI : wb_In w n c s sd sf tu K wt) (hx : -2147483648 ≤ x ∧ x ≤ 2147483647) (ht : -2147483648 ≤ t ∧ t ≤ 2147483647) (hm : -2147483648 ≤ m ∧ m ≤ 2147483647) (he : -2147483648 ≤ e ∧ e ≤ 2147483647)
    (hQ : ∀ (w' : wb_W), wb_In w' n c s sd sf tu K wt → (∀ k, (k < 29 ∨ 96 ≤ k) → w' k = w k) → Q (some (.int (wb_i (if (0 ≤ x ∧ x < 15625) ∧ (0 ≤ t ∧ t < 3) ∧ (0 ≤ m ∧ m < n) then (if 0 ≤ e ∧ e ≤ 1 then (if wb_fm (wb_pk c s sd sf x t) (m + 1).toNat ≤ m then -5 else if e = 0 then (wb_rx c s sd sf x t (m + 1).toNat).1 else (wb_rx c s sd sf x t (m + 1).toNat).2) else -2) else -1)))) N w') : wb_M G M_X11_lies [.ref 3, .int (wb_i x), .int (wb_i t), .int (wb_i m), .int (wb_i e)] N w Q := by
  unfold wb_M
  have hn := hR.1
  have hI' := hI
  obtain ⟨⟨hl, ct, mt, hwk⟩, -⟩ := hI'
  have hfr := wb_fm_rg (wb_pk c s sd sf x t) (m + 1).toNat
  refine vi_iload_n 0 rfl rfl ?_
  refine vi_S1 1 ok_X11_isMixture rfl c_X11_145 rfl ?_
  refine sp_X11_isMixture (by omega) (fun b_1 => ?_) (fun b_1 => ?_)
  · refine vi_if_eq 2 rfl (by omega) (fun c => absurd c (by decide)) (fun _ => ?_)
    refine vi_iload_n 3 rfl rfl ?_
    refine vi_S1 4 ok_X11_isThing rfl c_X11_94 rfl ?_
    refine sp_X11_isThing (by omega) (fun b_8 => ?_) (fun b_8 => ?_)
    · refine vi_if_eq 5 rfl (by omega) (fun c => absurd c (by decide)) (fun _ => ?_)
      refine vi_aload_n 6 rfl rfl ?_
      refine vi_iload_n 7 rfl rfl ?_
      refine vi_V1 8 ok_X11_isMonth rfl c_X11_83 hx3 rfl rfl ?_
      refine sp_X11_isMonth ‹_› ‹_› (by omega) (by omega) (fun b_16 => ?_) (fun b_16 => ?_)
      · refine vi_if_ne 9 rfl (by omega) (fun _ => ?_) (fun c => absurd c (by decide))
        refine vi_iload 12 rfl rfl ?_
        refine vi_iconst 13 rfl ?_
        refine vi_S2 14 ok_X11_within rfl c_X11_67 rfl ?_
        refine sp_X11_within (by omega) (by omega) (fun b_27 => ?_) (fun b_27 => ?_)
        · refine vi_if_ne 15 rfl (by omega) (fun _ => ?_) (fun c => absurd c (by decide))
          refine vi_aload_n 18 rfl rfl ?_
          refine vi_get 19 rfl f_X11_36 hx3 rfl rfl ?_
          refine vi_iload_n 20 rfl rfl ?_
          refine vi_iload_n 21 rfl rfl ?_
          refine vi_iload_n 22 rfl rfl ?_
          refine vi_V3 23 ok_X10_goesTill rfl c_X11_159 hwk.1.1 rfl rfl ?_
          refine sp_X10_goesTill hwk.1 hwk.2.1 hbk hR b_1 b_8 (by omega) (fun w2 L2 H2 hLH hfl2 hf2 => ?_)
          obtain ⟨le2, mo2, fl2, fm2, ho2, lo2, hfl2⟩ := hfl2
          have hI2 := hI.fl ⟨_, _, _, _, _, _, _, _, _, hfl2⟩ hf2
          have hQ2 := hQ w2 hI2 (fun k hk => hf2 k (by omega))
          rw [if_pos (by omega), if_pos b_27] at hQ2
          have x2 : wb_X3 w2 := (hf2 3 (by omega)).trans hx3
          have w29 := (hf2 29 (by omega)).trans hwk.1.1
          refine vi_iload_n 24 rfl rfl ?_
          refine vi_icmp_gt 25 rfl (by omega) (by omega) (fun c_47 => ?_) (fun c_47 => ?_)
          · rw [if_neg (by omega)] at hQ2
            obtain ⟨g1, g2⟩ := hLH (by omega)
            rw [← g2] at hQ2
            refine vi_iload 28 rfl rfl ?_
            refine vi_if_ne 29 rfl (by omega) (fun c_55 => ?_) (fun c_55 => ?_)
            · refine vi_aload_n 35 rfl rfl ?_
              refine vi_get 36 rfl f_X11_36 x2 rfl rfl ?_
              refine vi_get 37 rfl f_X11_162 w29 rfl rfl ?_
              refine vi_get 38 rfl f_X11_171 hfl2.1 rfl rfl ?_
              exact vi_ireturn 39 rfl rfl rfl (Nat.zero_le _) (Nat.zero_le _) (by first | (rw [if_pos (by omega)] at hQ2; exact hQ2) | (rw [if_neg (by omega)] at hQ2; exact hQ2))
            · refine vi_aload_n 30 rfl rfl ?_
              refine vi_get 31 rfl f_X11_36 x2 rfl rfl ?_
              refine vi_get 32 rfl f_X11_162 w29 rfl rfl ?_
              refine vi_get 33 rfl f_X11_166 hfl2.1 rfl rfl ?_
              refine vi_goto 34 rfl ?_
              exact vi_ireturn 39 rfl rfl rfl (Nat.zero_le _) (Nat.zero_le _) (by first | (rw [if_pos (by omega)] at hQ2; exact hQ2) | (rw [if_neg (by omega)] at hQ2; exact hQ2))
          · refine vi_bipush 26 rfl (by decide) ?_
            exact vi_ireturn 27 rfl rfl rfl (Nat.zero_le _) (Nat.zero_le _) (by rw [if_pos (by omega)] at hQ2; exact hQ2)
        · refine vi_if_ne 15 rfl (by omega) (fun c => absurd c (by decide)) (fun _ => ?_)
          refine vi_bipush 16 rfl (by decide) ?_
          exact vi_ireturn 17 rfl rfl rfl (Nat.zero_le _) (Nat.zero_le _) (by have := hQ w hI (fun _ _ => rfl); rw [if_pos (by omega), if_neg b_27] at this; exact this)
      · refine vi_if_ne 9 rfl (by omega) (fun c => absurd c (by decide)) (fun _ => ?_)
        refine vi_iconst 10 rfl ?_
        exact vi_ireturn 11 rfl rfl rfl (Nat.zero_le _) (Nat.zero_le _) (by have := hQ w hI (fun _ _ => rfl); rw [if_neg (by omega)] at this; exact this)
    · refine vi_if_eq 5 rfl (by omega) (fun _ => ?_) (fun c => absurd c (by decide))
      refine vi_iconst 10 rfl ?_
      exact vi_ireturn 11 rfl rfl rfl (Nat.zero_le _) (Nat.zero_le _) (by have := hQ w hI (fun _ _ => rfl); rw [if_neg (by omega)] at this; exact this)
  · refine vi_if_eq 2 rfl (by omega) (fun _ => ?_) (fun c => absurd c (by decide))
    refine vi_iconst 10 rfl ?_
    exact vi_ireturn 11 rfl rfl rfl (Nat.zero_le _) (Nat.zero_le _) (by have := hQ w hI (fun _ _ => rfl); rw [if_neg (by omega)] at this; exact this)
theorem sp_X11_cost {x v m : Int} (hx3 : wb_X3 w) (hbk : wb_Bk w 4 n c s sd sf bo tu g) (hR : wb_BR n c s sd sf) (hx : -2147483648 ≤ x ∧ x ≤ 2147483647) (hv : -2147483648 ≤ v ∧ v ≤ 2147483647) (hm : -2147483648 ≤ m ∧ m ≤ 2147483647)
    (hQ : Q (some (.int (wb_i (if (0 ≤ x ∧ x < 15625) ∧ (0 ≤ v ∧ v < 2) ∧ (0 ≤ m ∧ m < n) then wb_pp c m (if v = 0 then x / 125 else x % 125) else -1)))) N w) : wb_M G M_X11_cost [.ref 3, .int (wb_i x), .int (wb_i v), .int (wb_i m)] N w Q := by
  unfold wb_M
  have hn := hR.1
  refine vi_iload_n 0 rfl rfl ?_
  refine vi_S1 1 ok_X11_isMixture rfl c_X11_145 rfl ?_
  refine sp_X11_isMixture (by omega) (fun b_1 => ?_) (fun b_1 => ?_)
  · refine vi_if_eq 2 rfl (by omega) (fun c => absurd c (by decide)) (fun _ => ?_)
    refine vi_iload_n 3 rfl rfl ?_
    refine vi_S1 4 ok_X11_isWare rfl c_X11_185 rfl ?_
    refine sp_X11_isWare (by omega) (fun b_8 => ?_) (fun b_8 => ?_)
    · refine vi_if_eq 5 rfl (by omega) (fun c => absurd c (by decide)) (fun _ => ?_)
      refine vi_aload_n 6 rfl rfl ?_
      refine vi_iload_n 7 rfl rfl ?_
      refine vi_V1 8 ok_X11_isMonth rfl c_X11_83 hx3 rfl rfl ?_
      refine sp_X11_isMonth ‹_› ‹_› (by omega) (by omega) (fun b_16 => ?_) (fun b_16 => ?_)
      · refine vi_if_ne 9 rfl (by omega) (fun _ => ?_) (fun c => absurd c (by decide))
        refine vi_aload_n 12 rfl rfl ?_
        refine vi_get 13 rfl f_X11_10 hx3 rfl rfl ?_
        refine vi_iload_n 14 rfl rfl ?_
        refine vi_if_ne 15 rfl (by omega) (fun c_29 => ?_) (fun c_29 => ?_)
        · refine vi_iload_n 20 rfl rfl ?_
          refine vi_bipush 21 rfl (by decide) ?_
          refine vi_irem 22 rfl (by omega) (by omega) ?_
          refine vi_iload_n 23 rfl rfl ?_
          refine vi_V2 24 ok_X0_priceOf rfl c_X11_246 hbk.1 rfl rfl ?_
          refine sp_X0_priceOf ‹_› ‹_› (by omega) (by omega) ?_
          exact vi_ireturn 25 rfl rfl rfl (Nat.zero_le _) (Nat.zero_le _) (by first | (rw [if_pos (by omega), if_pos (by omega)] at hQ; exact hQ) | (rw [if_pos (by omega), if_neg (by omega)] at hQ; exact hQ))
        · refine vi_iload_n 16 rfl rfl ?_
          refine vi_bipush 17 rfl (by decide) ?_
          refine vi_idiv 18 rfl (by omega) (by omega) ?_
          refine vi_goto 19 rfl ?_
          refine vi_iload_n 23 rfl rfl ?_
          refine vi_V2 24 ok_X0_priceOf rfl c_X11_246 hbk.1 rfl rfl ?_
          refine sp_X0_priceOf ‹_› ‹_› (by omega) (by omega) ?_
          exact vi_ireturn 25 rfl rfl rfl (Nat.zero_le _) (Nat.zero_le _) (by first | (rw [if_pos (by omega), if_pos (by omega)] at hQ; exact hQ) | (rw [if_pos (by omega), if_neg (by omega)] at hQ; exact hQ))
      · refine vi_if_ne 9 rfl (by omega) (fun c => absurd c (by decide)) (fun _ => ?_)
        refine vi_iconst 10 rfl ?_
        exact vi_ireturn 11 rfl rfl rfl (Nat.zero_le _) (Nat.zero_le _) (by rw [if_neg (by omega)] at hQ; exact hQ)
    · refine vi_if_eq 5 rfl (by omega) (fun _ => ?_) (fun c => absurd c (by decide))
      refine vi_iconst 10 rfl ?_
      exact vi_ireturn 11 rfl rfl rfl (Nat.zero_le _) (Nat.zero_le _) (by rw [if_neg (by omega)] at hQ; exact hQ)
  · refine vi_if_eq 2 rfl (by omega) (fun _ => ?_) (fun c => absurd c (by decide))
    refine vi_iconst 10 rfl ?_
    exact vi_ireturn 11 rfl rfl rfl (Nat.zero_le _) (Nat.zero_le _) (by rw [if_neg (by omega)] at hQ; exact hQ)
theorem sp_X11_told {j : Int} {sg : Int → Int} {cnt : Int} {tp tq : Int → Int} {bl bh : Int → Int64} {wa re nu : Int} (hx3 : wb_X3 w) (hbk : wb_Bk w 4 n c s sd sf bo tu g) (hR : wb_BR n c s sd sf) (htx : wb_Tx w 21 sg cnt tp tq bl bh wa re nu) (hj : -2147483648 ≤ j ∧ j ≤ 2147483647)
    (hQ : Q (some (.int (wb_i (if 10 ≤ j ∧ j < 22 then s (j - 10) else if j = 0 then n else if j = 1 then cnt else if j = 2 then bo else if j = 3 then (if sd < 0 then -6 else 10 * sd + sf) else -2)))) N w) : wb_M G M_X11_told [.ref 3, .int (wb_i j)] N w Q := by
  unfold wb_M
  have hn := hR.1
  have tl : ¬ (10 ≤ j ∧ j < 22) → wb_V G M_X11_told 32 [(0, .ref 3), (1, .int (wb_i j))] [] N w 0 0 Q := by
    intro h10
    rw [if_neg h10] at hQ
    refine vi_iload_n 20 rfl rfl ?_
    by_cases j0 : j = 0
    · rw [if_pos j0] at hQ
      subst j0
      refine vi_tab 21 64 rfl (by omega) (Or.inr ⟨by decide, by decide, _, rfl, by decide⟩) ?_
      refine vi_aload_n 22 rfl rfl ?_
      refine vi_get 23 rfl f_X11_10 hx3 rfl rfl ?_
      refine vi_get 24 rfl f_X11_71 hbk.1 rfl rfl ?_
      exact vi_ireturn 25 rfl rfl rfl (Nat.zero_le _) (Nat.zero_le _) (hQ)
    · rw [if_neg j0] at hQ
      by_cases j1 : j = 1
      · rw [if_pos j1] at hQ
        subst j1
        refine vi_tab 21 72 rfl (by omega) (Or.inr ⟨by decide, by decide, _, rfl, by decide⟩) ?_
        refine vi_aload_n 26 rfl rfl ?_
        refine vi_get 27 rfl f_X11_27 hx3 rfl rfl ?_
        refine vi_get 28 rfl f_X11_116 htx.1 rfl rfl ?_
        exact vi_ireturn 29 rfl rfl rfl (Nat.zero_le _) (Nat.zero_le _) (hQ)
      · rw [if_neg j1] at hQ
        by_cases j2 : j = 2
        · rw [if_pos j2] at hQ
          subst j2
          refine vi_tab 21 80 rfl (by omega) (Or.inr ⟨by decide, by decide, _, rfl, by decide⟩) ?_
          refine vi_aload_n 30 rfl rfl ?_
          refine vi_get 31 rfl f_X11_10 hx3 rfl rfl ?_
          refine vi_get 32 rfl f_X11_137 hbk.1 rfl rfl ?_
          exact vi_ireturn 33 rfl rfl rfl (Nat.zero_le _) (Nat.zero_le _) (hQ)
        · rw [if_neg j2] at hQ
          by_cases j3 : j = 3
          · rw [if_pos j3] at hQ
            subst j3
            refine vi_tab 21 88 rfl (by omega) (Or.inr ⟨by decide, by decide, _, rfl, by decide⟩) ?_
            refine vi_aload_n 34 rfl rfl ?_
            refine vi_get 35 rfl f_X11_10 hx3 rfl rfl ?_
            refine vi_V0 36 ok_X0_standing rfl c_X11_106 hbk.1 rfl rfl ?_
            refine sp_X0_standing hbk hR ?_
            exact vi_ireturn 37 rfl rfl rfl (Nat.zero_le _) (Nat.zero_le _) (hQ)
          · rw [if_neg j3] at hQ
            refine vi_tab 21 96 rfl (by omega) (Or.inl ⟨by omega, by decide⟩) ?_
            refine vi_bipush 38 rfl (by decide) ?_
            exact vi_ireturn 39 rfl rfl rfl (Nat.zero_le _) (Nat.zero_le _) (hQ)
  refine vi_iload_n 0 rfl rfl ?_
  refine vi_bipush 1 rfl (by decide) ?_
  refine vi_icmp_lt 2 rfl (by omega) (by omega) (fun c_3 => ?_) (fun c_3 => ?_)
  · exact vi_lc (tl (by omega)) ⟨rfl, rfl, trivial⟩
  · refine vi_iload_n 3 rfl rfl ?_
    refine vi_bipush 4 rfl (by decide) ?_
    refine vi_icmp_ge 5 rfl (by omega) (by omega) (fun c_9 => ?_) (fun c_9 => ?_)
    · exact vi_lc (tl (by omega)) ⟨rfl, rfl, trivial⟩
    · refine vi_aload_n 6 rfl rfl ?_
      refine vi_get 7 rfl f_X11_10 hx3 rfl rfl ?_
      refine vi_iload_n 8 rfl rfl ?_
      refine vi_bipush 9 rfl (by decide) ?_
      refine vi_isub 10 rfl ?_
      refine vi_iconst 11 rfl ?_
      refine vi_idiv 12 rfl (by omega) (by omega) ?_
      refine vi_iload_n 13 rfl rfl ?_
      refine vi_bipush 14 rfl (by decide) ?_
      refine vi_isub 15 rfl ?_
      refine vi_iconst 16 rfl ?_
      refine vi_irem 17 rfl (by omega) (by omega) ?_
      refine vi_V2 18 ok_X0_stockCell rfl c_X11_100 hbk.1 rfl rfl ?_
      refine sp_X0_stockCell hbk (by omega) (by omega) ?_
      rw [if_pos (by omega), show 4 * ((j - 10) / 4) + (j - 10) % 4 = j - 10 by omega]
      exact vi_ireturn 19 rfl rfl rfl (Nat.zero_le _) (Nat.zero_le _) (by rw [if_pos (by omega)] at hQ; exact hQ)
/-- the images -/
def wb_Im (w : wb_W) (fz : Int → Int) : Prop := w 9 = aQ 4 2 (fun j => some (10 + 5 * j)) ∧ w 20 = aZ 2 fz
theorem sp_X11_image {i : Int} {fz : Int → Int} {n1 : Int} {c1 s1 : Int → Int} {sd1 sf1 bo1 tu1 : Int} {g1 : Int → Int64} (hx3 : wb_X3 w) (him : wb_Im w fz) (hbk : wb_Bk w 4 n c s sd sf bo tu g) (hb1 : 0 ≤ i ∧ i < 2 → wb_Bk w (10 + 5 * i.toNat) n1 c1 s1 sd1 sf1 bo1 tu1 g1) (hi : -2147483648 ≤ i ∧ i ≤ 2147483647)
    (k2 : ¬ (0 ≤ i ∧ i < 2) → Q (some (.int (wb_i (-2)))) N w)
    (k1 : ∀ (w' : wb_W) (g' : Int → Int64), (0 ≤ i ∧ i < 2) → (∀ p, 0 ≤ p → p < 250 → g' p = g p) → wb_Bk w' (10 + 5 * i.toNat) n (fun p => if 0 ≤ p ∧ p < 72 then c p else c1 p) (fun p => if 0 ≤ p ∧ p < 12 then s p else s1 p) sd sf bo (tu1 + 1) g' → wb_Im w' (wb_u fz i 1) → (∀ k, (k < 10 + 5 * i.toNat ∨ 15 + 5 * i.toNat ≤ k) → k ≠ 20 → w' k = w k) → Q (some (.int (wb_i 1))) N w') : wb_M G M_X11_image [.ref 3, .int (wb_i i)] N w Q := by
  unfold wb_M
  obtain ⟨i0, i1⟩ := him
  refine vi_iload_n 0 rfl rfl ?_
  refine vi_if_lt 1 rfl (by omega) (fun c_1 => ?_) (fun c_1 => ?_)
  · refine vi_bipush 5 rfl (by decide) ?_
    exact vi_ireturn 6 rfl rfl rfl (Nat.zero_le _) (Nat.zero_le _) (k2 (by omega))
  · refine vi_iload_n 2 rfl rfl ?_
    refine vi_iconst 3 rfl ?_
    refine vi_icmp_lt 4 rfl (by omega) (by omega) (fun c_6 => ?_) (fun c_6 => ?_)
    · have hb1' := hb1 (by omega)
      refine vi_aload_n 7 rfl rfl ?_
      refine vi_get 8 rfl f_X11_16 hx3 rfl rfl ?_
      refine vi_iload_n 9 rfl rfl ?_
      refine vi_aald 10 rfl i0 (Or.inl rfl) (by omega) rfl ?_
      refine vi_aload_n 11 rfl rfl ?_
      refine vi_get 12 rfl f_X11_10 hx3 rfl rfl ?_
      refine vi_V1 13 ok_X0_copy rfl c_X11_271 hb1'.1 rfl rfl ?_
      refine sp_X0_copy hb1' hbk (by omega) (fun w2 g2 hg2 hb2 hf2 => ?_)
      have x2 : wb_X3 w2 := (hf2 3 (by omega)).trans hx3
      refine vi_aload_n 14 rfl rfl ?_
      refine vi_get 15 rfl f_X11_20 x2 rfl rfl ?_
      refine vi_iload_n 16 rfl rfl ?_
      refine vi_iconst 17 rfl ?_
      refine vi_zast 18 rfl ((hf2 20 (by omega)).trans i1) (by omega) (Or.inr rfl) ?_
      refine vi_iconst 19 rfl ?_
      exact vi_ireturn 20 rfl rfl rfl (Nat.zero_le _) (Nat.zero_le _) (k1 _ g2 (by omega) hg2 (hb2.fr (fun k p1 p2 => wb_upn (by omega))) ⟨by rw [wb_upn (by omega)]; exact (hf2 9 (by omega)).trans i0, wb_ups⟩ (fun k p1 p2 => (wb_upn p2).trans (hf2 k (by omega))))
    · refine vi_bipush 5 rfl (by decide) ?_
      exact vi_ireturn 6 rfl rfl rfl (Nat.zero_le _) (Nat.zero_le _) (k2 (by omega))
theorem sp_X11_restore {i : Int} {fz : Int → Int} {n1 : Int} {c1 s1 : Int → Int} {sd1 sf1 bo1 tu1 : Int} {g1 : Int → Int64} (hx3 : wb_X3 w) (him : wb_Im w fz) (hbk : wb_Bk w 4 n c s sd sf bo tu g) (hb1 : 0 ≤ i ∧ i < 2 → wb_Bk w (10 + 5 * i.toNat) n1 c1 s1 sd1 sf1 bo1 tu1 g1) (hi : -2147483648 ≤ i ∧ i ≤ 2147483647) (hfz : ∀ j, fz j = 0 ∨ fz j = 1)
    (k2 : ¬ (0 ≤ i ∧ i < 2) → Q (some (.int (wb_i (-2)))) N w) (k3 : (0 ≤ i ∧ i < 2) → fz i = 0 → Q (some (.int (wb_i (-3)))) N w)
    (k1 : ∀ (w' : wb_W) (g' : Int → Int64), (0 ≤ i ∧ i < 2) → fz i = 1 → (∀ p, 0 ≤ p → p < 250 → g' p = g1 p) → wb_Bk w' 4 n1 (fun p => if 0 ≤ p ∧ p < 72 then c1 p else c p) (fun p => if 0 ≤ p ∧ p < 12 then s1 p else s p) sd1 sf1 bo1 (tu + 1) g' → (∀ k, (k < 4 ∨ 9 ≤ k) → w' k = w k) → Q (some (.int (wb_i 1))) N w') : wb_M G M_X11_restore [.ref 3, .int (wb_i i)] N w Q := by
  unfold wb_M
  obtain ⟨i0, i1⟩ := him
  have hfi := hfz i
  refine vi_iload_n 0 rfl rfl ?_
  refine vi_if_lt 1 rfl (by omega) (fun c_1 => ?_) (fun c_1 => ?_)
  · refine vi_bipush 5 rfl (by decide) ?_
    exact vi_ireturn 6 rfl rfl rfl (Nat.zero_le _) (Nat.zero_le _) (k2 (by omega))
  · refine vi_iload_n 2 rfl rfl ?_
    refine vi_iconst 3 rfl ?_
    refine vi_icmp_lt 4 rfl (by omega) (by omega) (fun c_6 => ?_) (fun c_6 => ?_)
    · refine vi_aload_n 7 rfl rfl ?_
      refine vi_get 8 rfl f_X11_20 hx3 rfl rfl ?_
      refine vi_iload_n 9 rfl rfl ?_
      refine vi_zald 10 rfl i1 (by omega) ?_
      refine vi_if_ne 11 rfl (by omega) (fun c_18 => ?_) (fun c_18 => ?_)
      · have hb1' := hb1 (by omega)
        refine vi_aload_n 14 rfl rfl ?_
        refine vi_get 15 rfl f_X11_10 hx3 rfl rfl ?_
        refine vi_aload_n 16 rfl rfl ?_
        refine vi_get 17 rfl f_X11_16 hx3 rfl rfl ?_
        refine vi_iload_n 18 rfl rfl ?_
        refine vi_aald 19 rfl i0 (Or.inl rfl) (by omega) rfl ?_
        refine vi_V1 20 ok_X0_copy rfl c_X11_271 hbk.1 rfl rfl ?_
        refine sp_X0_copy hbk hb1' (by omega) (fun w2 g2 hg2 hb2 hf2 => ?_)
        refine vi_iconst 21 rfl ?_
        exact vi_ireturn 22 rfl rfl rfl (Nat.zero_le _) (Nat.zero_le _) (k1 w2 g2 (by omega) (by omega) hg2 hb2 (fun k hk => hf2 k (by omega)))
      · refine vi_bipush 12 rfl (by decide) ?_
        exact vi_ireturn 13 rfl rfl rfl (Nat.zero_le _) (Nat.zero_le _) (k3 (by omega) (by omega))
    · refine vi_bipush 5 rfl (by decide) ?_
      exact vi_ireturn 6 rfl rfl rfl (Nat.zero_le _) (Nat.zero_le _) (k2 (by omega))
end WBS50
