/-! ===== the reference: questions over all that fit ===== -/
theorem wb_ct_z {F : Int → Bool} {k : Nat} (h : wb_ct F k = 0) : ∀ x : Int, 0 ≤ x → x < k → F x = false := by
  intro x x1 x2
  cases hF : F x with
  | false => rfl
  | true =>
    have := wb_ct_lt (p := F) (m := x.toNat) (n := k) (by omega) (by rw [show ((x.toNat : Nat) : Int) = x by omega]; exact hF)
    have := (wb_ct_rg F x.toNat).1
    omega
theorem wb_ct_s {F : Int → Bool} {x : Int} (hx : 0 ≤ x) : wb_ct F (x + 1).toNat = wb_ct F x.toNat + (if F x then 1 else 0) := by
  rw [show (x + 1).toNat = x.toNat + 1 by omega, wb_ct, show ((x.toNat : Nat) : Int) = x by omega]
theorem wb_ef_s {F : Int → Bool} {e : Int} {f : Int → Int} {x : Int} (hx : 0 ≤ x) : wb_ef F e f (x + 1).toNat = if F x then wb_eo e (wb_ef F e f x.toNat) (f x) else wb_ef F e f x.toNat := by
  rw [show (x + 1).toNat = x.toNat + 1 by omega, wb_ef, show ((x.toNat : Nat) : Int) = x by omega]
theorem wb_ef_ab {F : Int → Bool} {e r : Int} {f : Int → Int} (hf : ∀ j : Int, 0 ≤ j → j < 15625 → 0 ≤ f j) (hct : wb_ct F 15625 ≠ 0) (hr : wb_ab F e f r) : 0 ≤ wb_ef F e f 15625 ∧ wb_ef F e f 15625 = r := by
  rcases wb_ef_bs (P := F) (e := e) (f := f) 15625 (fun j j1 j2 => hf j j1 (by omega)) with ⟨a, b⟩ | ⟨a, b⟩
  · exact absurd (wb_ct_none 15625 a) hct
  · exact ⟨a, wb_ab_eq (Or.inr b) hr⟩
theorem wb_ab_no {F : Int → Bool} {e r : Int} {f : Int → Int} (hct : wb_ct F 15625 = 0) (hr : wb_ab F e f r) : r = -5 := wb_ab_eq hr (Or.inl ⟨fun x x1 x2 => wb_ct_z hct x x1 (by omega), rfl⟩)
theorem wb_dg_vp {x v t : Int} (hx : 0 ≤ x ∧ x < 15625) (hv : 0 ≤ v ∧ v < 2) (ht : 0 ≤ t ∧ t < 3) : wb_dg x (3 * v + t) = wb_am (wb_vp v x) t := by
  unfold wb_vp
  rcases (show v = 0 ∨ v = 1 by omega) with rfl | rfl
  · rw [if_pos rfl, show 3 * 0 + t = t by omega]; exact wb_dg_lo (by omega) hx
  · rw [if_neg (by omega), show 3 * 1 + t = 3 + t by omega]; exact wb_dg_hi (by omega) hx
def wb_clr (z k : Int) : Int := if wb_bt z k then z - wb_p2 k else z
theorem wb_clr1 : ∀ z : Fin 64, ∀ k : Fin 6, wb_i (z.val : Int) &&& ((wb_i 1 <<< (wb_i (k.val : Int) &&& 31)) ^^^ wb_i (-1)) = wb_i (wb_clr (z.val : Int) (k.val : Int)) ∧ (0 ≤ wb_clr (z.val : Int) (k.val : Int) ∧ wb_clr (z.val : Int) (k.val : Int) < 64) := by decide +kernel
theorem wb_clr2 : ∀ z : Fin 64, ∀ k a : Fin 6, wb_bt (wb_clr (z.val : Int) (k.val : Int)) (a.val : Int) = (wb_bt (z.val : Int) (a.val : Int) && decide ((a.val : Int) ≠ (k.val : Int))) := by decide +kernel
theorem wb_clr3 : ∀ z : Fin 64, wb_i (z.val : Int) &&& wb_i 63 = wb_i (z.val : Int) := by decide +kernel
theorem wb_bt63 : ∀ a : Fin 6, wb_bt 63 (a.val : Int) = true := by decide +kernel
theorem wb_clr_z {z k : Int} (hz : 0 ≤ z ∧ z < 64) (hk : 0 ≤ k ∧ k < 6) : wb_i z &&& ((wb_i 1 <<< (wb_i k &&& 31)) ^^^ wb_i (-1)) = wb_i (wb_clr z k) ∧ (0 ≤ wb_clr z k ∧ wb_clr z k < 64) ∧ ∀ a, 0 ≤ a → a < 6 → wb_bt (wb_clr z k) a = (wb_bt z a && decide (a ≠ k)) := by
  have h1 := wb_clr1 ⟨z.toNat, by omega⟩ ⟨k.toNat, by omega⟩
  simp only [show ((z.toNat : Nat) : Int) = z by omega, show ((k.toNat : Nat) : Int) = k by omega] at h1
  refine ⟨h1.1, h1.2, fun a a1 a2 => ?_⟩
  have h2 := wb_clr2 ⟨z.toNat, by omega⟩ ⟨k.toNat, by omega⟩ ⟨a.toNat, by omega⟩
  simp only [show ((z.toNat : Nat) : Int) = z by omega, show ((k.toNat : Nat) : Int) = k by omega, show ((a.toNat : Nat) : Int) = a by omega] at h2
  exact h2
theorem wb_63_z {z : Int} (hz : 0 ≤ z ∧ z < 64) : wb_i z &&& wb_i 63 = wb_i z := by
  have h1 := wb_clr3 ⟨z.toNat, by omega⟩
  simp only [show ((z.toNat : Nat) : Int) = z by omega] at h1
  exact h1
section WBS59
variable {G : wb_G} {N : Nat} {w : wb_W} {Q : Option Value → Nat → wb_W → Prop}
variable {n sd sf cnt ru ld mo db tm tt tr L H fi ch : Int} {c s sg rs im ik : Int → Int}
theorem sp_X12_all {i r : Int} (hra : wb_Ra w c s sg rs im ik) (hrr : wb_RR w n c s sd sf cnt ru (wb_KK rs ru)) (hR : wb_BR n c s sd sf) (hru : wb_RuO rs ru) (hi : -2147483648 ≤ i ∧ i ≤ 2147483647) (hr : r = wb_AL (wb_ft n c s sd sf (wb_KK rs ru) 0 0) i) (hQ : ∀ (w' : wb_W), wb_Ra w' c s sg rs im ik → wb_RR w' n c s sd sf cnt ru (wb_KK rs ru) → (∀ k, (k < 96 ∨ 108 ≤ k) → w' k = w k) → Q (some (.int (wb_i r))) N w') : wb_M G M_X12_all [.ref 96, .int (wb_i i)] N w Q := by
  unfold wb_M
  obtain ⟨ld, tt, tr, L, H, fi, ch, hrf, -⟩ := hrr.op
  unfold wb_Rf at hrf
  refine vi_aload_n 0 rfl rfl ?_
  refine vi_V0 1 ok_X12_lay rfl c_X12_160 hrf rfl rfl ?_
  refine sp_X12_lay hra hrr hR hru (fun w1 hra1 hrl1 ef1 => ?_)
  obtain ⟨tt1, tr1, L1, H1, ch1, ag, kp, ft, me, op, hrf1, h101, h102, h103, h104, h105, hag, hkp, hft, -⟩ := id hrl1
  unfold wb_Rf at hrf1
  have hcr := wb_ct_rg (wb_ft n c s sd sf (wb_KK rs ru) 0 0) 15625
  have fin : Q (some (.int (wb_i r))) N w1 := hQ w1 hra1 (Or.inr hrl1) ef1
  have lp : (0 ≤ i ∧ i < wb_ct (wb_ft n c s sd sf (wb_KK rs ru) 0 0) 15625) → ∀ x, x ≤ 15625 → ∀ le : Int, 0 ≤ x → le = i - wb_ct (wb_ft n c s sd sf (wb_KK rs ru) 0 0) x.toNat → 0 ≤ le → wb_V G M_X12_all 31 [(0, .ref 96), (3, .int (wb_i le)), (4, .int (wb_i x))] [] N w1 0 0 Q := by
    intro gi
    refine wb_up 15625 _ ?_
    intro x ih hx le hx0 hle hle0
    have hcx := wb_ct_rg (wb_ft n c s sd sf (wb_KK rs ru) 0 0) x.toNat
    have hlt : x < 15625 := Classical.byContradiction fun q => by
      rw [show x.toNat = 15625 by omega] at hle; omega
    have hst := wb_ct_s (F := (wb_ft n c s sd sf (wb_KK rs ru) 0 0)) hx0
    have hfx := hft x hx0 hlt
    cases hF : (wb_ft n c s sd sf (wb_KK rs ru) 0 0) x with
    | true =>
      rw [hF] at hst hfx
      rw [if_pos rfl] at hst
      rw [show wb_b2 true = 1 from rfl] at hfx
      refine vi_aload_n 21 rfl rfl ?_
      refine vi_get 22 rfl f_X12_39 hrf1 rfl rfl ?_
      refine vi_iload 23 rfl rfl ?_
      refine vi_zald 24 rfl h103 (by omega) ?_
      refine vi_if_eq 25 rfl (by omega) (fun c_38 => by exfalso; omega) (fun c_38 => ?_)
      refine vi_iload_n 26 rfl rfl ?_
      refine vi_if_le 27 rfl (by omega) (fun c_42 => ?_) (fun c_42 => ?_)
      · refine vi_iload 41 rfl rfl ?_
        exact vi_ireturn 42 rfl rfl rfl (Nat.zero_le _) (Nat.zero_le _) (wb_e (by rw [hr]; unfold wb_AL; rw [if_neg (by omega), wb_nh_at (x := x) ⟨hx0, hlt⟩ hF (by omega), if_neg (by omega)]) fin)
      · refine vi_iload_n 28 rfl rfl ?_
        refine vi_aload_n 29 rfl rfl ?_
        refine vi_get 30 rfl f_X12_39 hrf1 rfl rfl ?_
        refine vi_iload 31 rfl rfl ?_
        refine vi_zald 32 rfl h103 (by omega) ?_
        refine vi_if_eq 33 rfl (by omega) (fun c_53 => by exfalso; omega) (fun c_53 => ?_)
        refine vi_iconst 34 rfl ?_
        refine vi_goto 35 rfl ?_
        refine vi_isub 37 rfl ?_
        refine vi_istore_n 38 rfl rfl ?_
        refine vi_iinc 39 rfl rfl rfl ?_
        refine vi_goto 40 rfl ?_
        exact vi_lc (ih (x + 1) (by omega) (by omega) _ (by omega) (by rw [hst]; omega) (by omega)) ⟨rfl, rfl, rfl, trivial⟩
    | false =>
      rw [hF] at hst hfx
      rw [if_neg (by decide)] at hst
      rw [show wb_b2 false = 0 from rfl] at hfx
      refine vi_aload_n 21 rfl rfl ?_
      refine vi_get 22 rfl f_X12_39 hrf1 rfl rfl ?_
      refine vi_iload 23 rfl rfl ?_
      refine vi_zald 24 rfl h103 (by omega) ?_
      refine vi_if_eq 25 rfl (by omega) (fun c_38 => ?_) (fun c_38 => by exfalso; omega)
      refine vi_iload_n 28 rfl rfl ?_
      refine vi_aload_n 29 rfl rfl ?_
      refine vi_get 30 rfl f_X12_39 hrf1 rfl rfl ?_
      refine vi_iload 31 rfl rfl ?_
      refine vi_zald 32 rfl h103 (by omega) ?_
      refine vi_if_eq 33 rfl (by omega) (fun c_53 => ?_) (fun c_53 => by exfalso; omega)
      refine vi_iconst 36 rfl ?_
      refine vi_isub 37 rfl ?_
      refine vi_istore_n 38 rfl rfl ?_
      refine vi_iinc 39 rfl rfl rfl ?_
      refine vi_goto 40 rfl ?_
      exact vi_lc (ih (x + 1) (by omega) (by omega) _ (by omega) (by rw [hst]; omega) (by omega)) ⟨rfl, rfl, rfl, trivial⟩
  refine vi_istore_n 2 rfl rfl ?_
  refine vi_iload_n 3 rfl rfl ?_
  refine vi_iconst 4 rfl ?_
  refine vi_icmp_ne 5 rfl (by omega) (by omega) (fun c_7 => ?_) (fun c_7 => ?_)
  · refine vi_iload_n 8 rfl rfl ?_
    refine vi_iconst 9 rfl ?_
    refine vi_iload_n 10 rfl rfl ?_
    refine vi_iconst 11 rfl ?_
    refine vi_isub 12 rfl ?_
    refine vi_S3 13 ok_X12_in rfl c_X12_56 rfl ?_
    refine sp_X12_in (by omega) (by omega) (by omega) (fun b_17 => ?_) (fun b_17 => ?_)
    · refine vi_if_ne 14 rfl (by omega) (fun _ => ?_) (fun c => absurd c (by decide))
      refine vi_iload_n 17 rfl rfl ?_
      refine vi_istore_n 18 rfl rfl ?_
      refine vi_iconst 19 rfl ?_
      refine vi_istore 20 rfl rfl ?_
      exact vi_lc (lp (by omega) 0 (by omega) i (by omega) (by show i = i - wb_ct _ 0; rw [wb_ct]; omega) (by omega)) ⟨rfl, rfl, rfl, trivial⟩
    · refine vi_if_ne 14 rfl (by omega) (fun c => absurd c (by decide)) (fun _ => ?_)
      refine vi_bipush 15 rfl (by decide) ?_
      exact vi_ireturn 16 rfl rfl rfl (Nat.zero_le _) (Nat.zero_le _) (wb_e (by rw [hr]; unfold wb_AL; rw [if_neg (by omega)]; have hz : wb_nh (wb_ft n c s sd sf (wb_KK rs ru) 0 0) i = -1 := (by rcases (show i < 0 ∨ wb_ct (wb_ft n c s sd sf (wb_KK rs ru) 0 0) 15625 ≤ i by omega) with z | z; (exact wb_nh_neg z); (exact wb_nh_no z)); rw [hz]; rfl) fin)
  · refine vi_iload_n 6 rfl rfl ?_
    exact vi_ireturn 7 rfl rfl rfl (Nat.zero_le _) (Nat.zero_le _) (wb_e (by rw [hr]; unfold wb_AL; rw [if_pos (by omega)]) fin)
theorem sp_X12_ends {v t e r : Int} (hra : wb_Ra w c s sg rs im ik) (hrr : wb_RR w n c s sd sf cnt ru (wb_KK rs ru)) (hR : wb_BR n c s sd sf) (hru : wb_RuO rs ru) (hv : -2147483648 ≤ v ∧ v ≤ 2147483647) (ht : -2147483648 ≤ t ∧ t ≤ 2147483647) (he : -2147483648 ≤ e ∧ e ≤ 2147483647) (hD : (¬ ((0 ≤ v ∧ v < 2) ∧ (0 ≤ t ∧ t < 3)) ∧ r = -1) ∨ (((0 ≤ v ∧ v < 2) ∧ (0 ≤ t ∧ t < 3)) ∧ ¬ (0 ≤ e ∧ e ≤ 1) ∧ r = -2) ∨ (((0 ≤ v ∧ v < 2) ∧ (0 ≤ t ∧ t < 3)) ∧ (0 ≤ e ∧ e ≤ 1) ∧ wb_ab (wb_ft n c s sd sf (wb_KK rs ru) 0 0) e (fun x => wb_am (wb_vp v x) t) r)) (hQ : ∀ (w' : wb_W), wb_Ra w' c s sg rs im ik → wb_RR w' n c s sd sf cnt ru (wb_KK rs ru) → (∀ k, (k < 96 ∨ 108 ≤ k) → w' k = w k) → Q (some (.int (wb_i r))) N w') : wb_M G M_X12_ends [.ref 96, .int (wb_i v), .int (wb_i t), .int (wb_i e)] N w Q := by
  unfold wb_M
  obtain ⟨ld, tt, tr, L, H, fi, ch, hrf, -⟩ := hrr.op
  unfold wb_Rf at hrf
  have d1 : ¬ ((0 ≤ v ∧ v < 2) ∧ (0 ≤ t ∧ t < 3)) → r = -1 := fun q => by
    rcases hD with h | h | h
    · exact h.2
    · exact absurd h.1 q
    · exact absurd h.1 q
  have d2 : ((0 ≤ v ∧ v < 2) ∧ (0 ≤ t ∧ t < 3)) → ¬ (0 ≤ e ∧ e ≤ 1) → r = -2 := fun p q => by
    rcases hD with h | h | h
    · exact absurd p h.1
    · exact h.2.2
    · exact absurd h.2.1 q
  have d3 : ((0 ≤ v ∧ v < 2) ∧ (0 ≤ t ∧ t < 3)) → (0 ≤ e ∧ e ≤ 1) → wb_ab (wb_ft n c s sd sf (wb_KK rs ru) 0 0) e (fun x => wb_am (wb_vp v x) t) r := fun p q => by
    rcases hD with h | h | h
    · exact absurd p h.1
    · exact absurd q h.2.1
    · exact h.2.2
  clear hD
  have tl : ((0 ≤ v ∧ v < 2) ∧ (0 ≤ t ∧ t < 3)) → (0 ≤ e ∧ e ≤ 1) → wb_V G M_X12_ends 30 [(0, .ref 96), (1, .int (wb_i v)), (2, .int (wb_i t)), (3, .int (wb_i e))] [] N w 0 0 Q := by
    intro gv ge
    have hr := d3 gv ge
    obtain ⟨f, hfd⟩ : ∃ f : Int → Int, f = fun x => wb_am (wb_vp v x) t := ⟨_, rfl⟩
    rw [← hfd] at hr
    have hf : ∀ x, 0 ≤ x → x < 15625 → wb_dg x (3 * v + t) = f x ∧ 0 ≤ f x ∧ f x ≤ 4 := fun x x1 x2 => by
      have a := wb_dg_vp (v := v) (t := t) ⟨x1, x2⟩ gv.1 gv.2
      have b := wb_dg_rg (x := x) (j := 3 * v + t) x1
      rw [hfd]; dsimp only; rw [← a]; exact ⟨rfl, b⟩
    clear hfd
    refine vi_aload_n 17 rfl rfl ?_
    refine vi_V0 18 ok_X12_lay rfl c_X12_160 hrf rfl rfl ?_
    refine sp_X12_lay hra hrr hR hru (fun w1 hra1 hrl1 ef1 => ?_)
    obtain ⟨tt1, tr1, L1, H1, ch1, ag, kp, ft, me, op, hrf1, h101, h102, h103, h104, h105, hag, hkp, hft, -⟩ := id hrl1
    unfold wb_Rf at hrf1
    have hcr := wb_ct_rg (wb_ft n c s sd sf (wb_KK rs ru) 0 0) 15625
    have fin : Q (some (.int (wb_i r))) N w1 := hQ w1 hra1 (Or.inr hrl1) ef1
    have lp : wb_ct (wb_ft n c s sd sf (wb_KK rs ru) 0 0) 15625 ≠ 0 → ∀ x, x ≤ 15625 → ∀ b : Int, 0 ≤ x → (-1 ≤ wb_ef (wb_ft n c s sd sf (wb_KK rs ru) 0 0) e f x.toNat ∧ wb_ef (wb_ft n c s sd sf (wb_KK rs ru) 0 0) e f x.toNat ≤ 4) → ((wb_ef (wb_ft n c s sd sf (wb_KK rs ru) 0 0) e f x.toNat = -1 ∧ ((e = 0 ∧ b = 5) ∨ (e ≠ 0 ∧ b = -1))) ∨ (0 ≤ wb_ef (wb_ft n c s sd sf (wb_KK rs ru) 0 0) e f x.toNat ∧ b = wb_ef (wb_ft n c s sd sf (wb_KK rs ru) 0 0) e f x.toNat)) → wb_V G M_X12_ends 54 [(0, .ref 96), (1, .int (wb_i v)), (2, .int (wb_i t)), (3, .int (wb_i e)), (4, .int (wb_i b)), (5, .int (wb_i x))] [] N w1 0 0 Q := by
      intro gc
      refine wb_up 15625 _ ?_
      intro x ih hx b hx0 hef hb
      have hst := wb_ef_s (F := (wb_ft n c s sd sf (wb_KK rs ru) 0 0)) (e := e) (f := f) hx0
      have hfx := fun q : x < 15625 => hft x hx0 q
      have hgx := fun q : x < 15625 => hf x hx0 q
      have hend : ¬ x < 15625 → b = r := fun q => by
        have h := wb_ef_ab (fun j j1 j2 => (hf j j1 j2).2.1) gc hr
        rw [show x.toNat = 15625 by omega] at hb; omega
      cases hF : (wb_ft n c s sd sf (wb_KK rs ru) 0 0) x with
      | true =>
        rw [hF] at hst hfx
        rw [if_pos rfl] at hst
        unfold wb_eo at hst
        rw [show wb_b2 true = 1 from rfl] at hfx
        refine vi_iload 30 rfl rfl ?_
        refine vi_sipush 31 rfl (by decide) ?_
        refine vi_icmp_ge 32 rfl (by omega) (by omega) (fun c_59 => ?_) (fun c_59 => ?_)
        · refine vi_iload 66 rfl rfl ?_
          exact vi_ireturn 67 rfl rfl rfl (Nat.zero_le _) (Nat.zero_le _) (wb_e (hend (by omega)) fin)
        · have hfx1 := hfx (by omega)
          obtain ⟨hg1, hg2, hg3⟩ := hgx (by omega)
          refine vi_aload_n 33 rfl rfl ?_
          refine vi_get 34 rfl f_X12_39 hrf1 rfl rfl ?_
          refine vi_iload 35 rfl rfl ?_
          refine vi_zald 36 rfl h103 (by omega) ?_
          refine vi_if_eq 37 rfl (by omega) (fun c_69 => by exfalso; omega) (fun c_69 => ?_)
          refine vi_iload 38 rfl rfl ?_
          refine vi_iconst 39 rfl ?_
          refine vi_iload_n 40 rfl rfl ?_
          refine vi_imul 41 rfl ?_
          refine vi_iload_n 42 rfl rfl ?_
          refine vi_iadd 43 rfl ?_
          refine vi_S2 44 ok_X12_digit rfl c_X12_94 rfl ?_
          refine sp_X12_digit (by omega) (by omega) ?_
          rw [hg1]
          refine vi_goto 45 rfl ?_
          refine vi_istore 47 rfl rfl ?_
          refine vi_iload_n 48 rfl rfl ?_
          refine vi_if_ne 49 rfl (by omega) (fun c_90 => ?_) (fun c_90 => ?_)
          · refine vi_iload 57 rfl rfl ?_
            refine vi_iload 58 rfl rfl ?_
            refine vi_icmp_le 59 rfl (by omega) (by omega) (fun c_114 => ?_) (fun c_114 => ?_)
            · refine vi_iload 62 rfl rfl ?_
              refine vi_istore 63 rfl rfl ?_
              refine vi_iinc 64 rfl rfl rfl ?_
              refine vi_goto 65 rfl ?_
              exact vi_lc (ih (x + 1) (by omega) (by omega) _ (by omega) (by rw [hst]; split <;> (try split) <;> (try split) <;> omega) (by rw [hst]; split <;> (try split) <;> (try split) <;> omega)) ⟨rfl, rfl, rfl, rfl, rfl, rfl, trivial⟩
            · refine vi_iload 60 rfl rfl ?_
              refine vi_goto 61 rfl ?_
              refine vi_istore 63 rfl rfl ?_
              refine vi_iinc 64 rfl rfl rfl ?_
              refine vi_goto 65 rfl ?_
              exact vi_lc (ih (x + 1) (by omega) (by omega) _ (by omega) (by rw [hst]; split <;> (try split) <;> (try split) <;> omega) (by rw [hst]; split <;> (try split) <;> (try split) <;> omega)) ⟨rfl, rfl, rfl, rfl, rfl, rfl, trivial⟩
          · refine vi_iload 50 rfl rfl ?_
            refine vi_iload 51 rfl rfl ?_
            refine vi_icmp_ge 52 rfl (by omega) (by omega) (fun c_97 => ?_) (fun c_97 => ?_)
            · refine vi_iload 55 rfl rfl ?_
              refine vi_goto 56 rfl ?_
              refine vi_istore 63 rfl rfl ?_
              refine vi_iinc 64 rfl rfl rfl ?_
              refine vi_goto 65 rfl ?_
              exact vi_lc (ih (x + 1) (by omega) (by omega) _ (by omega) (by rw [hst]; split <;> (try split) <;> (try split) <;> omega) (by rw [hst]; split <;> (try split) <;> (try split) <;> omega)) ⟨rfl, rfl, rfl, rfl, rfl, rfl, trivial⟩
            · refine vi_iload 53 rfl rfl ?_
              refine vi_goto 54 rfl ?_
              refine vi_istore 63 rfl rfl ?_
              refine vi_iinc 64 rfl rfl rfl ?_
              refine vi_goto 65 rfl ?_
              exact vi_lc (ih (x + 1) (by omega) (by omega) _ (by omega) (by rw [hst]; split <;> (try split) <;> (try split) <;> omega) (by rw [hst]; split <;> (try split) <;> (try split) <;> omega)) ⟨rfl, rfl, rfl, rfl, rfl, rfl, trivial⟩
      | false =>
        rw [hF] at hst hfx
        rw [if_neg (by decide)] at hst
        rw [show wb_b2 false = 0 from rfl] at hfx
        refine vi_iload 30 rfl rfl ?_
        refine vi_sipush 31 rfl (by decide) ?_
        refine vi_icmp_ge 32 rfl (by omega) (by omega) (fun c_59 => ?_) (fun c_59 => ?_)
        · refine vi_iload 66 rfl rfl ?_
          exact vi_ireturn 67 rfl rfl rfl (Nat.zero_le _) (Nat.zero_le _) (wb_e (hend (by omega)) fin)
        · have hfx1 := hfx (by omega)
          refine vi_aload_n 33 rfl rfl ?_
          refine vi_get 34 rfl f_X12_39 hrf1 rfl rfl ?_
          refine vi_iload 35 rfl rfl ?_
          refine vi_zald 36 rfl h103 (by omega) ?_
          refine vi_if_eq 37 rfl (by omega) (fun c_69 => ?_) (fun c_69 => by exfalso; omega)
          refine vi_iload 46 rfl rfl ?_
          refine vi_istore 47 rfl rfl ?_
          refine vi_iload_n 48 rfl rfl ?_
          refine vi_if_ne 49 rfl (by omega) (fun c_90 => ?_) (fun c_90 => ?_)
          · refine vi_iload 57 rfl rfl ?_
            refine vi_iload 58 rfl rfl ?_
            refine vi_icmp_le 59 rfl (by omega) (by omega) (fun c_114 => ?_) (fun c_114 => ?_)
            · refine vi_iload 62 rfl rfl ?_
              refine vi_istore 63 rfl rfl ?_
              refine vi_iinc 64 rfl rfl rfl ?_
              refine vi_goto 65 rfl ?_
              exact vi_lc (ih (x + 1) (by omega) (by omega) _ (by omega) (by rw [hst]; omega) (by rw [hst]; omega)) ⟨rfl, rfl, rfl, rfl, rfl, rfl, trivial⟩
            · refine vi_iload 60 rfl rfl ?_
              refine vi_goto 61 rfl ?_
              refine vi_istore 63 rfl rfl ?_
              refine vi_iinc 64 rfl rfl rfl ?_
              refine vi_goto 65 rfl ?_
              exact vi_lc (ih (x + 1) (by omega) (by omega) _ (by omega) (by rw [hst]; omega) (by rw [hst]; omega)) ⟨rfl, rfl, rfl, rfl, rfl, rfl, trivial⟩
          · refine vi_iload 50 rfl rfl ?_
            refine vi_iload 51 rfl rfl ?_
            refine vi_icmp_ge 52 rfl (by omega) (by omega) (fun c_97 => ?_) (fun c_97 => ?_)
            · refine vi_iload 55 rfl rfl ?_
              refine vi_goto 56 rfl ?_
              refine vi_istore 63 rfl rfl ?_
              refine vi_iinc 64 rfl rfl rfl ?_
              refine vi_goto 65 rfl ?_
              exact vi_lc (ih (x + 1) (by omega) (by omega) _ (by omega) (by rw [hst]; omega) (by rw [hst]; omega)) ⟨rfl, rfl, rfl, rfl, rfl, rfl, trivial⟩
            · refine vi_iload 53 rfl rfl ?_
              refine vi_goto 54 rfl ?_
              refine vi_istore 63 rfl rfl ?_
              refine vi_iinc 64 rfl rfl rfl ?_
              refine vi_goto 65 rfl ?_
              exact vi_lc (ih (x + 1) (by omega) (by omega) _ (by omega) (by rw [hst]; omega) (by rw [hst]; omega)) ⟨rfl, rfl, rfl, rfl, rfl, rfl, trivial⟩
    refine vi_if_ne 19 rfl (by omega) (fun c_34 => ?_) (fun c_34 => ?_)
    · refine vi_iload_n 22 rfl rfl ?_
      refine vi_if_ne 23 rfl (by omega) (fun c_41 => ?_) (fun c_41 => ?_)
      · refine vi_iconst 26 rfl ?_
        refine vi_istore 27 rfl rfl ?_
        refine vi_iconst 28 rfl ?_
        refine vi_istore 29 rfl rfl ?_
        exact vi_lc (lp (by omega) 0 (by omega) _ (by omega) (by show -1 ≤ (-1 : Int) ∧ (-1 : Int) ≤ 4; omega) (Or.inl ⟨rfl, by omega⟩)) ⟨rfl, rfl, rfl, rfl, rfl, rfl, trivial⟩
      · refine vi_iconst 24 rfl ?_
        refine vi_goto 25 rfl ?_
        refine vi_istore 27 rfl rfl ?_
        refine vi_iconst 28 rfl ?_
        refine vi_istore 29 rfl rfl ?_
        exact vi_lc (lp (by omega) 0 (by omega) _ (by omega) (by show -1 ≤ (-1 : Int) ∧ (-1 : Int) ≤ 4; omega) (Or.inl ⟨rfl, by omega⟩)) ⟨rfl, rfl, rfl, rfl, rfl, rfl, trivial⟩
    · refine vi_bipush 20 rfl (by decide) ?_
      exact vi_ireturn 21 rfl rfl rfl (Nat.zero_le _) (Nat.zero_le _) (wb_e (wb_ab_no (by omega) hr).symm fin)
  have hf0 : Q (some (.int (wb_i r))) N w := hQ w hra hrr (fun _ _ => rfl)
  refine vi_iload_n 0 rfl rfl ?_
  refine vi_iconst 1 rfl ?_
  refine vi_iconst 2 rfl ?_
  refine vi_S3 3 ok_X12_in rfl c_X12_56 rfl ?_
  refine sp_X12_in (by omega) (by omega) (by omega) (fun b_3 => ?_) (fun b_3 => ?_)
  · refine vi_if_eq 4 rfl (by omega) (fun c => absurd c (by decide)) (fun _ => ?_)
    refine vi_iload_n 5 rfl rfl ?_
    refine vi_S1 6 ok_X12_isThing rfl c_X12_75 rfl ?_
    refine sp_X12_isThing (by omega) (fun b_10 => ?_) (fun b_10 => ?_)
    · refine vi_if_ne 7 rfl (by omega) (fun _ => ?_) (fun c => absurd c (by decide))
      refine vi_iload_n 10 rfl rfl ?_
      refine vi_iconst 11 rfl ?_
      refine vi_iconst 12 rfl ?_
      refine vi_S3 13 ok_X12_in rfl c_X12_56 rfl ?_
      refine sp_X12_in (by omega) (by omega) (by omega) (fun b_21 => ?_) (fun b_21 => ?_)
      · refine vi_if_ne 14 rfl (by omega) (fun _ => ?_) (fun c => absurd c (by decide))
        exact vi_lc (tl (by omega) (by omega)) ⟨rfl, rfl, rfl, rfl, trivial⟩
      · refine vi_if_ne 14 rfl (by omega) (fun c => absurd c (by decide)) (fun _ => ?_)
        refine vi_bipush 15 rfl (by decide) ?_
        exact vi_ireturn 16 rfl rfl rfl (Nat.zero_le _) (Nat.zero_le _) (wb_e (d2 (by omega) (by omega)).symm hf0)
    · refine vi_if_ne 7 rfl (by omega) (fun c => absurd c (by decide)) (fun _ => ?_)
      refine vi_iconst 8 rfl ?_
      exact vi_ireturn 9 rfl rfl rfl (Nat.zero_le _) (Nat.zero_le _) (wb_e (d1 (by omega)).symm hf0)
  · refine vi_if_eq 4 rfl (by omega) (fun _ => ?_) (fun c => absurd c (by decide))
    refine vi_iconst 8 rfl ?_
    exact vi_ireturn 9 rfl rfl rfl (Nat.zero_le _) (Nat.zero_le _) (wb_e (d1 (by omega)).symm hf0)
theorem sp_X12_must {h r : Int} (hra : wb_Ra w c s sg rs im ik) (hrr : wb_RR w n c s sd sf cnt ru (wb_KK rs ru)) (hR : wb_BR n c s sd sf) (hru : wb_RuO rs ru) (hh : -2147483648 ≤ h ∧ h ≤ 2147483647) (hD : (¬ (0 ≤ h ∧ h ≤ 1) ∧ r = -2) ∨ ((0 ≤ h ∧ h ≤ 1) ∧ (∀ x, 0 ≤ x → x < 15625 → (wb_ft n c s sd sf (wb_KK rs ru) 0 0) x = false) ∧ r = -5) ∨ ((0 ≤ h ∧ h ≤ 1) ∧ (∃ x, (0 ≤ x ∧ x < 15625) ∧ (wb_ft n c s sd sf (wb_KK rs ru) 0 0) x = true) ∧ wb_mu (wb_ft n c s sd sf (wb_KK rs ru) 0 0) h r)) (hQ : ∀ (w' : wb_W), wb_Ra w' c s sg rs im ik → wb_RR w' n c s sd sf cnt ru (wb_KK rs ru) → (∀ k, (k < 96 ∨ 108 ≤ k) → w' k = w k) → Q (some (.int (wb_i r))) N w') : wb_M G M_X12_must [.ref 96, .int (wb_i h)] N w Q := by
  unfold wb_M
  obtain ⟨ld, tt, tr, L, H, fi, ch, hrf, -⟩ := hrr.op
  unfold wb_Rf at hrf
  have d1 : ¬ (0 ≤ h ∧ h ≤ 1) → r = -2 := fun q => by
    rcases hD with h | h | h
    · exact h.2
    · exact absurd h.1 q
    · exact absurd h.1 q
  have d2 : (0 ≤ h ∧ h ≤ 1) → wb_ct (wb_ft n c s sd sf (wb_KK rs ru) 0 0) 15625 = 0 → r = -5 := fun p q => by
    rcases hD with h | h | ⟨h1, ⟨x, x1, x2⟩, h2⟩
    · exact absurd p h.1
    · exact h.2.2
    · rw [wb_ct_z q x x1.1 (by omega)] at x2; cases x2
  have d3 : (0 ≤ h ∧ h ≤ 1) → wb_ct (wb_ft n c s sd sf (wb_KK rs ru) 0 0) 15625 ≠ 0 → wb_mu (wb_ft n c s sd sf (wb_KK rs ru) 0 0) h r := fun p q => by
    rcases hD with h | ⟨h1, h2, h3⟩ | h
    · exact absurd p h.1
    · exact absurd (wb_ct_none 15625 (fun i i1 i2 => h2 i i1 (by omega))) q
    · exact h.2.2
  clear hD
  have tl : (0 ≤ h ∧ h ≤ 1) → wb_V G M_X12_must 12 [(0, .ref 96), (1, .int (wb_i h))] [] N w 0 0 Q := by
    intro gh
    refine vi_aload_n 7 rfl rfl ?_
    refine vi_V0 8 ok_X12_lay rfl c_X12_160 hrf rfl rfl ?_
    refine sp_X12_lay hra hrr hR hru (fun w1 hra1 hrl1 ef1 => ?_)
    obtain ⟨tt1, tr1, L1, H1, ch1, ag, kp, ft, me, op, hrf1, h101, h102, h103, h104, h105, hag, hkp, hft, -⟩ := id hrl1
    unfold wb_Rf at hrf1
    have hcr := wb_ct_rg (wb_ft n c s sd sf (wb_KK rs ru) 0 0) 15625
    have fin : Q (some (.int (wb_i r))) N w1 := hQ w1 hra1 (Or.inr hrl1) ef1
    have lp : wb_ct (wb_ft n c s sd sf (wb_KK rs ru) 0 0) 15625 ≠ 0 → ∀ x, x ≤ 15625 → ∀ z : Int, 0 ≤ x → (0 ≤ z ∧ z < 64) → (∀ a, 0 ≤ a → a < 6 → wb_bt z a = !wb_ex (fun x => (wb_ft n c s sd sf (wb_KK rs ru) 0 0) x && wb_mb h (wb_am (wb_vp (a / 3) x) (a % 3))) x.toNat) → wb_V G M_X12_must 27 [(0, .ref 96), (1, .int (wb_i h)), (2, .int (wb_i z)), (3, .int (wb_i x))] [] N w1 0 0 Q := by
      intro gc
      refine wb_up 15625 _ ?_
      intro x ih hx z hx0 hz hb
      have hst : ∀ a, wb_ex (fun x => (wb_ft n c s sd sf (wb_KK rs ru) 0 0) x && wb_mb h (wb_am (wb_vp (a / 3) x) (a % 3))) (x + 1).toNat = (wb_ex (fun x => (wb_ft n c s sd sf (wb_KK rs ru) 0 0) x && wb_mb h (wb_am (wb_vp (a / 3) x) (a % 3))) x.toNat || ((wb_ft n c s sd sf (wb_KK rs ru) 0 0) x && wb_mb h (wb_am (wb_vp (a / 3) x) (a % 3)))) := fun a => by
        rw [show (x + 1).toNat = x.toNat + 1 by omega, wb_ex, show ((x.toNat : Nat) : Int) = x by omega]
      have hfx := fun q : x < 15625 => hft x hx0 q
      have hend : ¬ x < 15625 → z = r := fun q => by
        rw [show x.toNat = 15625 by omega] at hb
        exact wb_mu_eq ⟨⟨hz.1, by have := hz.2; omega⟩, hb⟩ (d3 gh gc)
      cases hF : (wb_ft n c s sd sf (wb_KK rs ru) 0 0) x with
      | true =>
        rw [hF] at hfx
        rw [show wb_b2 true = 1 from rfl] at hfx
        have lq : x < 15625 → ∀ k, k ≤ 6 → ∀ y : Int, 0 ≤ k → (0 ≤ y ∧ y < 64) → (∀ a, 0 ≤ a → a < 6 → wb_bt y a = !(wb_ex (fun x => (wb_ft n c s sd sf (wb_KK rs ru) 0 0) x && wb_mb h (wb_am (wb_vp (a / 3) x) (a % 3))) x.toNat || (decide (a < k) && wb_mb h (wb_am (wb_vp (a / 3) x) (a % 3))))) → wb_V G M_X12_must 37 [(0, .ref 96), (1, .int (wb_i h)), (2, .int (wb_i y)), (3, .int (wb_i x)), (4, .int (wb_i k))] [] N w1 0 0 Q := by
          intro hx5
          have hfx1 := hfx hx5
          refine wb_up 6 _ ?_
          intro k jh hk y hk0 hy hby
          have hdg : k < 6 → wb_dg x k = wb_am (wb_vp (k / 3) x) (k % 3) := fun q => by
            have := wb_dg_vp (x := x) (v := k / 3) (t := k % 3) ⟨hx0, hx5⟩ (by omega) (by omega)
            rw [← this]; congr 1; omega
          have hdr := wb_dg_rg (x := x) (j := k) hx0
          have kp : k < 6 → wb_mb h (wb_am (wb_vp (k / 3) x) (k % 3)) = false → ∀ a, 0 ≤ a → a < 6 → wb_bt y a = !(wb_ex (fun x => (wb_ft n c s sd sf (wb_KK rs ru) 0 0) x && wb_mb h (wb_am (wb_vp (a / 3) x) (a % 3))) x.toNat || (decide (a < k + 1) && wb_mb h (wb_am (wb_vp (a / 3) x) (a % 3)))) := fun q hm a a1 a2 => by
            rw [hby a a1 a2]
            by_cases e : a = k
            · subst e; rw [hm]; simp
            · rw [decide_eq_decide.mpr (show a < k ↔ a < k + 1 by omega)]
          have cl : k < 6 → wb_mb h (wb_am (wb_vp (k / 3) x) (k % 3)) = true → ∀ a, 0 ≤ a → a < 6 → wb_bt (wb_clr y k) a = !(wb_ex (fun x => (wb_ft n c s sd sf (wb_KK rs ru) 0 0) x && wb_mb h (wb_am (wb_vp (a / 3) x) (a % 3))) x.toNat || (decide (a < k + 1) && wb_mb h (wb_am (wb_vp (a / 3) x) (a % 3)))) := fun q hm a a1 a2 => by
            rw [(wb_clr_z hy ⟨hk0, q⟩).2.2 a a1 a2, hby a a1 a2]
            by_cases e : a = k
            · subst e; rw [hm, decide_eq_true (show a < a + 1 by omega)]; simp
            · rw [decide_eq_decide.mpr (show a < k ↔ a < k + 1 by omega), decide_eq_true e, Bool.and_true]
          have m0 : k < 6 → h = 0 → wb_mb h (wb_am (wb_vp (k / 3) x) (k % 3)) = decide (wb_dg x k = 0) := fun q e => by rw [e, wb_mb0, hdg q]
          have m1 : k < 6 → h ≠ 0 → wb_mb h (wb_am (wb_vp (k / 3) x) (k % 3)) = decide (wb_dg x k ≠ 0) := fun q e => by rw [wb_mb1 e, hdg q]
          have nx0 : k < 6 → wb_mb h (wb_am (wb_vp (k / 3) x) (k % 3)) = false → wb_V G M_X12_must 96 [(0, .ref 96), (1, .int (wb_i h)), (3, .int (wb_i x)), (4, .int (wb_i k))] [.int (wb_i y &&& wb_i 63)] N w1 0 0 Q := by
            intro hk6 hm
            rw [wb_63_z hy]
            refine vi_istore_n 53 rfl rfl ?_
            refine vi_iinc 54 rfl rfl rfl ?_
            refine vi_goto 55 rfl ?_
            exact vi_lc (jh (k + 1) (by omega) (by omega) y (by omega) hy (kp hk6 hm)) ⟨rfl, rfl, rfl, rfl, rfl, trivial⟩
          have nx1 : k < 6 → wb_mb h (wb_am (wb_vp (k / 3) x) (k % 3)) = true → wb_V G M_X12_must 96 [(0, .ref 96), (1, .int (wb_i h)), (3, .int (wb_i x)), (4, .int (wb_i k))] [.int (wb_i y &&& ((wb_i 1 <<< (wb_i k &&& 31)) ^^^ wb_i (-1)))] N w1 0 0 Q := by
            intro hk6 hm
            rw [(wb_clr_z hy ⟨hk0, hk6⟩).1]
            refine vi_istore_n 53 rfl rfl ?_
            refine vi_iinc 54 rfl rfl rfl ?_
            refine vi_goto 55 rfl ?_
            exact vi_lc (jh (k + 1) (by omega) (by omega) (wb_clr y k) (by omega) (wb_clr_z hy ⟨hk0, hk6⟩).2.1 (cl hk6 hm)) ⟨rfl, rfl, rfl, rfl, rfl, trivial⟩
          refine vi_iload 21 rfl rfl ?_
          refine vi_bipush 22 rfl (by decide) ?_
          refine vi_icmp_ge 23 rfl (by omega) (by omega) (fun c_41 => ?_) (fun c_41 => ?_)
          · refine vi_iinc 56 rfl rfl rfl ?_
            refine vi_goto 57 rfl ?_
            exact vi_lc (ih (x + 1) (by omega) (by omega) y (by omega) hy (fun a a1 a2 => by rw [hst a, hF, Bool.true_and, hby a a1 a2, decide_eq_true (show a < k by omega), Bool.true_and])) ⟨rfl, rfl, rfl, rfl, trivial⟩
          · refine vi_aload_n 24 rfl rfl ?_
            refine vi_get 25 rfl f_X12_39 hrf1 rfl rfl ?_
            refine vi_iload_n 26 rfl rfl ?_
            refine vi_zald 27 rfl h103 (by omega) ?_
            refine vi_if_eq 28 rfl (by omega) (fun c_50 => by exfalso; omega) (fun c_50 => ?_)
            refine vi_iload_n 29 rfl rfl ?_
            refine vi_iload 30 rfl rfl ?_
            refine vi_S2 31 ok_X12_digit rfl c_X12_94 rfl ?_
            refine sp_X12_digit (by omega) (by omega) ?_
            refine vi_if_le 32 rfl (by omega) (fun c_59 => ?_) (fun c_59 => ?_)
            · refine vi_iconst 35 rfl ?_
              refine vi_istore 36 rfl rfl ?_
              refine vi_iload_n 37 rfl rfl ?_
              refine vi_iload 38 rfl rfl ?_
              refine vi_iload_n 39 rfl rfl ?_
              refine vi_if_ne 40 rfl (by omega) (fun c_73 => ?_) (fun c_73 => ?_)
              · refine vi_iconst 43 rfl ?_
                refine vi_icmp_ne 44 rfl (by omega) (by omega) (fun c => absurd c (by decide)) (fun _ => ?_)
                refine vi_bipush 45 rfl (by decide) ?_
                refine vi_goto 46 rfl ?_
                refine vi_iand 52 rfl ?_
                first | exact vi_lc (nx0 (by omega) (by rw [m0 (by omega) (by omega)]; exact decide_eq_false (by omega))) ⟨rfl, rfl, rfl, rfl, trivial⟩ | exact vi_lc (nx0 (by omega) (by rw [m1 (by omega) (by omega)]; exact decide_eq_false (by omega))) ⟨rfl, rfl, rfl, rfl, trivial⟩ | exact vi_lc (nx1 (by omega) (by rw [m0 (by omega) (by omega)]; exact decide_eq_true (by omega))) ⟨rfl, rfl, rfl, rfl, trivial⟩ | exact vi_lc (nx1 (by omega) (by rw [m1 (by omega) (by omega)]; exact decide_eq_true (by omega))) ⟨rfl, rfl, rfl, rfl, trivial⟩
              · refine vi_iconst 41 rfl ?_
                refine vi_goto 42 rfl ?_
                refine vi_icmp_ne 44 rfl (by omega) (by omega) (fun _ => ?_) (fun c => absurd c (by decide))
                refine vi_iconst 47 rfl ?_
                refine vi_iload 48 rfl rfl ?_
                refine vi_ishl 49 rfl ?_
                refine vi_iconst 50 rfl ?_
                refine vi_ixor 51 rfl ?_
                refine vi_iand 52 rfl ?_
                first | exact vi_lc (nx0 (by omega) (by rw [m0 (by omega) (by omega)]; exact decide_eq_false (by omega))) ⟨rfl, rfl, rfl, rfl, trivial⟩ | exact vi_lc (nx0 (by omega) (by rw [m1 (by omega) (by omega)]; exact decide_eq_false (by omega))) ⟨rfl, rfl, rfl, rfl, trivial⟩ | exact vi_lc (nx1 (by omega) (by rw [m0 (by omega) (by omega)]; exact decide_eq_true (by omega))) ⟨rfl, rfl, rfl, rfl, trivial⟩ | exact vi_lc (nx1 (by omega) (by rw [m1 (by omega) (by omega)]; exact decide_eq_true (by omega))) ⟨rfl, rfl, rfl, rfl, trivial⟩
            · refine vi_iconst 33 rfl ?_
              refine vi_goto 34 rfl ?_
              refine vi_istore 36 rfl rfl ?_
              refine vi_iload_n 37 rfl rfl ?_
              refine vi_iload 38 rfl rfl ?_
              refine vi_iload_n 39 rfl rfl ?_
              refine vi_if_ne 40 rfl (by omega) (fun c_73 => ?_) (fun c_73 => ?_)
              · refine vi_iconst 43 rfl ?_
                refine vi_icmp_ne 44 rfl (by omega) (by omega) (fun _ => ?_) (fun c => absurd c (by decide))
                refine vi_iconst 47 rfl ?_
                refine vi_iload 48 rfl rfl ?_
                refine vi_ishl 49 rfl ?_
                refine vi_iconst 50 rfl ?_
                refine vi_ixor 51 rfl ?_
                refine vi_iand 52 rfl ?_
                first | exact vi_lc (nx0 (by omega) (by rw [m0 (by omega) (by omega)]; exact decide_eq_false (by omega))) ⟨rfl, rfl, rfl, rfl, trivial⟩ | exact vi_lc (nx0 (by omega) (by rw [m1 (by omega) (by omega)]; exact decide_eq_false (by omega))) ⟨rfl, rfl, rfl, rfl, trivial⟩ | exact vi_lc (nx1 (by omega) (by rw [m0 (by omega) (by omega)]; exact decide_eq_true (by omega))) ⟨rfl, rfl, rfl, rfl, trivial⟩ | exact vi_lc (nx1 (by omega) (by rw [m1 (by omega) (by omega)]; exact decide_eq_true (by omega))) ⟨rfl, rfl, rfl, rfl, trivial⟩
              · refine vi_iconst 41 rfl ?_
                refine vi_goto 42 rfl ?_
                refine vi_icmp_ne 44 rfl (by omega) (by omega) (fun c => absurd c (by decide)) (fun _ => ?_)
                refine vi_bipush 45 rfl (by decide) ?_
                refine vi_goto 46 rfl ?_
                refine vi_iand 52 rfl ?_
                first | exact vi_lc (nx0 (by omega) (by rw [m0 (by omega) (by omega)]; exact decide_eq_false (by omega))) ⟨rfl, rfl, rfl, rfl, trivial⟩ | exact vi_lc (nx0 (by omega) (by rw [m1 (by omega) (by omega)]; exact decide_eq_false (by omega))) ⟨rfl, rfl, rfl, rfl, trivial⟩ | exact vi_lc (nx1 (by omega) (by rw [m0 (by omega) (by omega)]; exact decide_eq_true (by omega))) ⟨rfl, rfl, rfl, rfl, trivial⟩ | exact vi_lc (nx1 (by omega) (by rw [m1 (by omega) (by omega)]; exact decide_eq_true (by omega))) ⟨rfl, rfl, rfl, rfl, trivial⟩
        refine vi_iload_n 16 rfl rfl ?_
        refine vi_sipush 17 rfl (by decide) ?_
        refine vi_icmp_ge 18 rfl (by omega) (by omega) (fun c_31 => ?_) (fun c_31 => ?_)
        · refine vi_iload_n 58 rfl rfl ?_
          exact vi_ireturn 59 rfl rfl rfl (Nat.zero_le _) (Nat.zero_le _) (wb_e (hend (by omega)) fin)
        · refine vi_iconst 19 rfl ?_
          refine vi_istore 20 rfl rfl ?_
          exact vi_lc (lq (by omega) 0 (by omega) z (by omega) hz (fun a a1 a2 => by rw [hb a a1 a2, decide_eq_false (show ¬ a < 0 by omega), Bool.false_and, Bool.or_false])) ⟨rfl, rfl, rfl, rfl, rfl, trivial⟩
      | false =>
        rw [hF] at hfx
        rw [show wb_b2 false = 0 from rfl] at hfx
        refine vi_iload_n 16 rfl rfl ?_
        refine vi_sipush 17 rfl (by decide) ?_
        refine vi_icmp_ge 18 rfl (by omega) (by omega) (fun c_31 => ?_) (fun c_31 => ?_)
        · refine vi_iload_n 58 rfl rfl ?_
          exact vi_ireturn 59 rfl rfl rfl (Nat.zero_le _) (Nat.zero_le _) (wb_e (hend (by omega)) fin)
        · have hfx1 := hfx (by omega)
          refine vi_iconst 19 rfl ?_
          refine vi_istore 20 rfl rfl ?_
          refine vi_iload 21 rfl rfl ?_
          refine vi_bipush 22 rfl (by decide) ?_
          refine vi_icmp_ge 23 rfl (by omega) (by omega) (fun c => absurd c (by decide)) (fun _ => ?_)
          refine vi_aload_n 24 rfl rfl ?_
          refine vi_get 25 rfl f_X12_39 hrf1 rfl rfl ?_
          refine vi_iload_n 26 rfl rfl ?_
          refine vi_zald 27 rfl h103 (by omega) ?_
          refine vi_if_eq 28 rfl (by omega) (fun c_50 => ?_) (fun c_50 => by exfalso; omega)
          refine vi_iinc 56 rfl rfl rfl ?_
          refine vi_goto 57 rfl ?_
          exact vi_lc (ih (x + 1) (by omega) (by omega) z (by omega) hz (fun a a1 a2 => by rw [hst a, hF, Bool.false_and, Bool.or_false, hb a a1 a2])) ⟨rfl, rfl, rfl, rfl, trivial⟩
    refine vi_if_ne 9 rfl (by omega) (fun c_16 => ?_) (fun c_16 => ?_)
    · refine vi_bipush 12 rfl (by decide) ?_
      refine vi_istore_n 13 rfl rfl ?_
      refine vi_iconst 14 rfl ?_
      refine vi_istore_n 15 rfl rfl ?_
      exact vi_lc (lp (by omega) 0 (by omega) 63 (by omega) (by omega) (fun a a1 a2 => by have := wb_bt63 ⟨a.toNat, by omega⟩; simp only [show ((a.toNat : Nat) : Int) = a by omega] at this; rw [this]; rfl)) ⟨rfl, rfl, rfl, rfl, trivial⟩
    · refine vi_bipush 10 rfl (by decide) ?_
      exact vi_ireturn 11 rfl rfl rfl (Nat.zero_le _) (Nat.zero_le _) (wb_e (d2 gh (by omega)).symm fin)
  have hf0 : Q (some (.int (wb_i r))) N w := hQ w hra hrr (fun _ _ => rfl)
  refine vi_iload_n 0 rfl rfl ?_
  refine vi_iconst 1 rfl ?_
  refine vi_iconst 2 rfl ?_
  refine vi_S3 3 ok_X12_in rfl c_X12_56 rfl ?_
  refine sp_X12_in (by omega) (by omega) (by omega) (fun b_3 => ?_) (fun b_3 => ?_)
  · refine vi_if_ne 4 rfl (by omega) (fun _ => ?_) (fun c => absurd c (by decide))
    exact vi_lc (tl (by omega)) ⟨rfl, rfl, trivial⟩
  · refine vi_if_ne 4 rfl (by omega) (fun c => absurd c (by decide)) (fun _ => ?_)
    refine vi_bipush 5 rfl (by decide) ?_
    exact vi_ireturn 6 rfl rfl rfl (Nat.zero_le _) (Nat.zero_le _) (wb_e (d1 (by omega)).symm hf0)
theorem wb_pl_eq {F : Int → Bool} {r r' : Int} (h : wb_pl F r) (h' : wb_pl F r') : r = r' := by
  rcases h with ⟨a, b⟩ | ⟨a, b, d⟩
  · rcases h' with ⟨a', b'⟩ | ⟨a', b', d'⟩
    · omega
    · rw [b r' a'.1 a'.2] at b'; cases b'
  · rcases h' with ⟨a', b'⟩ | ⟨a', b', d'⟩
    · rw [b' r a.1 a.2] at b; cases b
    · have x := d r' a'.1 a'.2 b'
      have y := d' r a.1 a.2 b
      have z := x.2 (by omega)
      have u := y.2 (by omega)
      omega
theorem sp_X12_plain {h p r : Int} (hra : wb_Ra w c s sg rs im ik) (hrr : wb_RR w n c s sd sf cnt ru (wb_KK rs ru)) (hR : wb_BR n c s sd sf) (hru : wb_RuO rs ru) (hh : -2147483648 ≤ h ∧ h ≤ 2147483647) (hD : (¬ (0 ≤ h ∧ h ≤ 1) ∧ r = -2) ∨ ((0 ≤ h ∧ h ≤ 1) ∧ wb_pl (wb_ft n c s sd sf (wb_KK rs ru) 0 0) p ∧ r = if p < 0 then -5 else if h = 0 then p else wb_tt p)) (hQ : ∀ (w' : wb_W), wb_Ra w' c s sg rs im ik → wb_RR w' n c s sd sf cnt ru (wb_KK rs ru) → (∀ k, (k < 96 ∨ 108 ≤ k) → w' k = w k) → Q (some (.int (wb_i r))) N w') : wb_M G M_X12_plain [.ref 96, .int (wb_i h)] N w Q := by
  unfold wb_M
  obtain ⟨ld, tt, tr, L, H, fi, ch, hrf, -⟩ := hrr.op
  unfold wb_Rf at hrf
  have tl : (0 ≤ h ∧ h ≤ 1) → wb_V G M_X12_plain 12 [(0, .ref 96), (1, .int (wb_i h))] [] N w 0 0 Q := by
    intro gh
    obtain ⟨-, hpl, hrv⟩ := hD.resolve_left (fun q => q.1 gh)
    refine vi_aload_n 7 rfl rfl ?_
    refine vi_V0 8 ok_X12_lay rfl c_X12_160 hrf rfl rfl ?_
    refine sp_X12_lay hra hrr hR hru (fun w1 hra1 hrl1 ef1 => ?_)
    obtain ⟨tt1, tr1, L1, H1, ch1, ag, kp, ft, me, op, hrf1, h101, h102, h103, h104, h105, hag, hkp, hft, -⟩ := id hrl1
    unfold wb_Rf at hrf1
    have hcr := wb_ct_rg (wb_ft n c s sd sf (wb_KK rs ru) 0 0) 15625
    have fin : Q (some (.int (wb_i r))) N w1 := hQ w1 hra1 (Or.inr hrl1) ef1
    have e0 : wb_ct (wb_ft n c s sd sf (wb_KK rs ru) 0 0) 15625 = 0 → p = -1 := fun q => wb_pl_eq hpl (Or.inl ⟨rfl, fun x x1 x2 => wb_ct_z q x x1 (by omega)⟩)
    have lp : wb_ct (wb_ft n c s sd sf (wb_KK rs ru) 0 0) 15625 ≠ 0 → ∀ x, x ≤ 15625 → ∀ b : Int, 0 ≤ x → ((b = -6 ∧ ∀ y, 0 ≤ y → y < x → (wb_ft n c s sd sf (wb_KK rs ru) 0 0) y = false) ∨ ((0 ≤ b ∧ b < x) ∧ (wb_ft n c s sd sf (wb_KK rs ru) 0 0) b = true ∧ ∀ y, 0 ≤ y → y < x → (wb_ft n c s sd sf (wb_KK rs ru) 0 0) y = true → wb_tt b ≤ wb_tt y ∧ (wb_tt y = wb_tt b → b ≤ y))) → wb_V G M_X12_plain 27 [(0, .ref 96), (1, .int (wb_i h)), (2, .int (wb_i b)), (3, .int (wb_i x))] [] N w1 0 0 Q := by
      intro gc
      refine wb_up 15625 _ ?_
      intro x ih hx b hx0 hb
      have hfx := fun q : x < 15625 => hft x hx0 q
      have hend : ¬ x < 15625 → b = p ∧ 0 ≤ b ∧ b < 15625 := fun q => by
        have hx5 : x = 15625 := by omega
        subst hx5
        rcases hb with ⟨b1, b2⟩ | ⟨b1, b2, b3⟩
        · exact absurd (wb_ct_none 15625 (fun i i1 i2 => b2 i i1 (by omega))) gc
        · exact ⟨wb_pl_eq (Or.inr ⟨b1, b2, b3⟩) hpl, b1⟩
      have tr : ∀ y : Int, 0 ≤ y → y < 15625 → 0 ≤ wb_tt y ∧ wb_tt y ≤ 6 := fun y y1 y2 => by
        have a := wb_th_rg (y / 125); have b := wb_th_rg (y % 125); unfold wb_tt; omega
      have t1 := fun q : x < 15625 => tr x hx0 q
      cases hF : (wb_ft n c s sd sf (wb_KK rs ru) 0 0) x with
      | true =>
        rw [hF] at hfx
        rw [show wb_b2 true = 1 from rfl] at hfx
        rcases hb with ⟨rfl, b2⟩ | ⟨b1, b2, b3⟩
        · skip
          refine vi_iload_n 16 rfl rfl ?_
          refine vi_sipush 17 rfl (by decide) ?_
          refine vi_icmp_ge 18 rfl (by omega) (by omega) (fun c_31 => ?_) (fun c_31 => ?_)
          · refine vi_iload_n 35 rfl rfl ?_
            refine vi_if_ne 36 rfl (by omega) (fun c_67 => ?_) (fun c_67 => ?_)
            · refine vi_iload_n 39 rfl rfl ?_
              refine vi_S1 40 ok_X12_things rfl c_X12_163 rfl ?_
              refine sp_X12_things (by omega) ?_
              exact vi_ireturn 41 rfl rfl rfl (Nat.zero_le _) (Nat.zero_le _) (by obtain ⟨z1, z2, z3⟩ := hend (by omega); exfalso; omega)
            · refine vi_iload_n 37 rfl rfl ?_
              refine vi_goto 38 rfl ?_
              exact vi_ireturn 41 rfl rfl rfl (Nat.zero_le _) (Nat.zero_le _) (by obtain ⟨z1, z2, z3⟩ := hend (by omega); exfalso; omega)
          · have hfx1 := hfx (by omega)
            refine vi_aload_n 19 rfl rfl ?_
            refine vi_get 20 rfl f_X12_39 hrf1 rfl rfl ?_
            refine vi_iload_n 21 rfl rfl ?_
            refine vi_zald 22 rfl h103 (by omega) ?_
            refine vi_if_eq 23 rfl (by omega) (fun c_40 => by exfalso; omega) (fun c_40 => ?_)
            refine vi_iload_n 24 rfl rfl ?_
            refine vi_if_lt 25 rfl (by omega) (fun c_44 => ?_) (fun c_44 => by exfalso; omega)
            refine vi_iload_n 31 rfl rfl ?_
            refine vi_istore_n 32 rfl rfl ?_
            refine vi_iinc 33 rfl rfl rfl ?_
            refine vi_goto 34 rfl ?_
            exact vi_lc (ih (x + 1) (by omega) (by omega) x (by omega) (Or.inr ⟨by omega, hF, fun y y1 y2 y3 => by (by_cases e : y = x; (rw [e]; omega); (rw [b2 y y1 (by omega)] at y3; cases y3))⟩)) ⟨rfl, rfl, rfl, rfl, trivial⟩
        · have t2 := tr b b1.1 (by omega)
          unfold wb_tt at t2 t1
          have e1 : wb_tt x = wb_th (x / 125) + wb_th (x % 125) := rfl
          have e2 : wb_tt b = wb_th (b / 125) + wb_th (b % 125) := rfl
          refine vi_iload_n 16 rfl rfl ?_
          refine vi_sipush 17 rfl (by decide) ?_
          refine vi_icmp_ge 18 rfl (by omega) (by omega) (fun c_31 => ?_) (fun c_31 => ?_)
          · refine vi_iload_n 35 rfl rfl ?_
            refine vi_if_ne 36 rfl (by omega) (fun c_67 => ?_) (fun c_67 => ?_)
            · refine vi_iload_n 39 rfl rfl ?_
              refine vi_S1 40 ok_X12_things rfl c_X12_163 rfl ?_
              refine sp_X12_things (by omega) ?_
              exact vi_ireturn 41 rfl rfl rfl (Nat.zero_le _) (Nat.zero_le _) (by obtain ⟨z1, z2, z3⟩ := hend (by omega); subst z1; rw [if_neg (by omega)] at hrv; first | (rw [if_pos (by omega)] at hrv; exact wb_e hrv.symm fin) | (rw [if_neg (by omega)] at hrv; exact wb_e hrv.symm fin))
            · refine vi_iload_n 37 rfl rfl ?_
              refine vi_goto 38 rfl ?_
              exact vi_ireturn 41 rfl rfl rfl (Nat.zero_le _) (Nat.zero_le _) (by obtain ⟨z1, z2, z3⟩ := hend (by omega); subst z1; rw [if_neg (by omega)] at hrv; first | (rw [if_pos (by omega)] at hrv; exact wb_e hrv.symm fin) | (rw [if_neg (by omega)] at hrv; exact wb_e hrv.symm fin))
          · have hfx1 := hfx (by omega)
            have t3 := t1 (by omega)
            refine vi_aload_n 19 rfl rfl ?_
            refine vi_get 20 rfl f_X12_39 hrf1 rfl rfl ?_
            refine vi_iload_n 21 rfl rfl ?_
            refine vi_zald 22 rfl h103 (by omega) ?_
            refine vi_if_eq 23 rfl (by omega) (fun c_40 => by exfalso; omega) (fun c_40 => ?_)
            refine vi_iload_n 24 rfl rfl ?_
            refine vi_if_lt 25 rfl (by omega) (fun c_44 => by exfalso; omega) (fun c_44 => ?_)
            refine vi_iload_n 26 rfl rfl ?_
            refine vi_S1 27 ok_X12_things rfl c_X12_163 rfl ?_
            refine sp_X12_things (by omega) ?_
            refine vi_iload_n 28 rfl rfl ?_
            refine vi_S1 29 ok_X12_things rfl c_X12_163 rfl ?_
            refine sp_X12_things (by omega) ?_
            refine vi_icmp_ge 30 rfl (by omega) (by omega) (fun c_55 => ?_) (fun c_55 => ?_)
            · refine vi_iinc 33 rfl rfl rfl ?_
              refine vi_goto 34 rfl ?_
              first | exact vi_lc (ih (x + 1) (by omega) (by omega) b (by omega) (Or.inr ⟨by omega, b2, fun y y1 y2 y3 => by (by_cases e : y = x; (rw [e]; omega); exact b3 y y1 (by omega) y3)⟩)) ⟨rfl, rfl, rfl, rfl, trivial⟩ | exact vi_lc (ih (x + 1) (by omega) (by omega) x (by omega) (Or.inr ⟨by omega, hF, fun y y1 y2 y3 => by (by_cases e : y = x; (rw [e]; omega); (have := (b3 y y1 (by omega) y3).1; omega))⟩)) ⟨rfl, rfl, rfl, rfl, trivial⟩
            · refine vi_iload_n 31 rfl rfl ?_
              refine vi_istore_n 32 rfl rfl ?_
              refine vi_iinc 33 rfl rfl rfl ?_
              refine vi_goto 34 rfl ?_
              first | exact vi_lc (ih (x + 1) (by omega) (by omega) b (by omega) (Or.inr ⟨by omega, b2, fun y y1 y2 y3 => by (by_cases e : y = x; (rw [e]; omega); exact b3 y y1 (by omega) y3)⟩)) ⟨rfl, rfl, rfl, rfl, trivial⟩ | exact vi_lc (ih (x + 1) (by omega) (by omega) x (by omega) (Or.inr ⟨by omega, hF, fun y y1 y2 y3 => by (by_cases e : y = x; (rw [e]; omega); (have := (b3 y y1 (by omega) y3).1; omega))⟩)) ⟨rfl, rfl, rfl, rfl, trivial⟩
      | false =>
        rw [hF] at hfx
        rw [show wb_b2 false = 0 from rfl] at hfx
        refine vi_iload_n 16 rfl rfl ?_
        refine vi_sipush 17 rfl (by decide) ?_
        refine vi_icmp_ge 18 rfl (by omega) (by omega) (fun c_31 => ?_) (fun c_31 => ?_)
        · obtain ⟨z1, z2, z3⟩ := hend (by omega)
          rw [← z1, if_neg (by omega)] at hrv
          refine vi_iload_n 35 rfl rfl ?_
          refine vi_if_ne 36 rfl (by omega) (fun c_67 => ?_) (fun c_67 => ?_)
          · refine vi_iload_n 39 rfl rfl ?_
            refine vi_S1 40 ok_X12_things rfl c_X12_163 rfl ?_
            refine sp_X12_things (by omega) ?_
            exact vi_ireturn 41 rfl rfl rfl (Nat.zero_le _) (Nat.zero_le _) (by first | (rw [if_pos (by omega)] at hrv; exact wb_e hrv.symm fin) | (rw [if_neg (by omega)] at hrv; exact wb_e hrv.symm fin))
          · refine vi_iload_n 37 rfl rfl ?_
            refine vi_goto 38 rfl ?_
            exact vi_ireturn 41 rfl rfl rfl (Nat.zero_le _) (Nat.zero_le _) (by first | (rw [if_pos (by omega)] at hrv; exact wb_e hrv.symm fin) | (rw [if_neg (by omega)] at hrv; exact wb_e hrv.symm fin))
        · have hfx1 := hfx (by omega)
          refine vi_aload_n 19 rfl rfl ?_
          refine vi_get 20 rfl f_X12_39 hrf1 rfl rfl ?_
          refine vi_iload_n 21 rfl rfl ?_
          refine vi_zald 22 rfl h103 (by omega) ?_
          refine vi_if_eq 23 rfl (by omega) (fun c_40 => ?_) (fun c_40 => by exfalso; omega)
          refine vi_iinc 33 rfl rfl rfl ?_
          refine vi_goto 34 rfl ?_
          refine vi_lc (ih (x + 1) (by omega) (by omega) b (by omega) ?_) ⟨rfl, rfl, rfl, rfl, trivial⟩
          rcases hb with ⟨b1, b2⟩ | ⟨b1, b2, b3⟩
          · exact Or.inl ⟨b1, fun y y1 y2 => by (by_cases e : y = x; (rw [e]; exact hF); exact b2 y y1 (by omega))⟩
          · exact Or.inr ⟨by omega, b2, fun y y1 y2 y3 => by (by_cases e : y = x; (rw [e, hF] at y3; cases y3); exact b3 y y1 (by omega) y3)⟩
    refine vi_if_ne 9 rfl (by omega) (fun c_16 => ?_) (fun c_16 => ?_)
    · refine vi_bipush 12 rfl (by decide) ?_
      refine vi_istore_n 13 rfl rfl ?_
      refine vi_iconst 14 rfl ?_
      refine vi_istore_n 15 rfl rfl ?_
      exact vi_lc (lp (by omega) 0 (by omega) (-6) (by omega) (Or.inl ⟨rfl, fun y y1 y2 => by omega⟩)) ⟨rfl, rfl, rfl, rfl, trivial⟩
    · refine vi_bipush 10 rfl (by decide) ?_
      exact vi_ireturn 11 rfl rfl rfl (Nat.zero_le _) (Nat.zero_le _) (wb_e (by rw [hrv, if_pos (by have := e0 (by omega); omega)]) fin)
  have hf0 : Q (some (.int (wb_i r))) N w := hQ w hra hrr (fun _ _ => rfl)
  refine vi_iload_n 0 rfl rfl ?_
  refine vi_iconst 1 rfl ?_
  refine vi_iconst 2 rfl ?_
  refine vi_S3 3 ok_X12_in rfl c_X12_56 rfl ?_
  refine sp_X12_in (by omega) (by omega) (by omega) (fun b_3 => ?_) (fun b_3 => ?_)
  · refine vi_if_ne 4 rfl (by omega) (fun _ => ?_) (fun c => absurd c (by decide))
    exact vi_lc (tl (by omega)) ⟨rfl, rfl, trivial⟩
  · refine vi_if_ne 4 rfl (by omega) (fun c => absurd c (by decide)) (fun _ => ?_)
    refine vi_bipush 5 rfl (by decide) ?_
    exact vi_ireturn 6 rfl rfl rfl (Nat.zero_le _) (Nat.zero_le _) (wb_e (by rcases hD with q | q; (exact q.2.symm); (exact absurd q.1 (by omega))) hf0)
end WBS59
