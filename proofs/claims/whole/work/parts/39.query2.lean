/-! ===== prices, pairs, the plainest ===== -/
theorem wb_pp_rg {n : Int} {c s : Int → Int} {sd sf m p : Int} (hR : wb_BR n c s sd sf) (hp : 0 ≤ p) : 0 ≤ wb_pp c m p ∧ wb_pp c m p ≤ 1188 := by
  have a := wb_am_rg (p := p) (t := 0) hp
  have b := wb_am_rg (p := p) (t := 1) hp
  have d := wb_am_rg (p := p) (t := 2) hp
  have r0 := hR.2.1 (9 * m + 6)
  have r1 := hR.2.1 (9 * m + 7)
  have r2 := hR.2.1 (9 * m + 8)
  have x0 : c (9 * m + 6) * wb_am p 0 ≤ 99 * 4 := Int.mul_le_mul r0.2 a.2 a.1 (by omega)
  have x1 : c (9 * m + 7) * wb_am p 1 ≤ 99 * 4 := Int.mul_le_mul r1.2 b.2 b.1 (by omega)
  have x2 : c (9 * m + 8) * wb_am p 2 ≤ 99 * 4 := Int.mul_le_mul r2.2 d.2 d.1 (by omega)
  have y0 := Int.mul_nonneg r0.1 a.1
  have y1 := Int.mul_nonneg r1.1 b.1
  have y2 := Int.mul_nonneg r2.1 d.1
  unfold wb_pp; omega
/-- the row of a part of p has a pair -/
def wb_rw (F : Int → Bool) (t p r : Int) : Bool := decide (r / 5 = wb_am p t) && wb_ex (fun q => F (p * 125 + q) && decide (wb_am q t = r % 5)) 125
theorem wb_w2_lo {lo hi : Int64} {T : Int → Bool} (h : wb_w2 lo hi T) (h0 : lo ≠ 0) : wb_nxt T 125 0 = wb_lo lo := by
  obtain ⟨s1, s2, s3⟩ := wb_lo_spec h0
  exact wb_nxt_at 125 0 _ s1.1 (by omega) (by rw [← h.1 _ s1.1 s1.2]; exact s2) (fun y y1 y2 => by rw [← h.1 y y1 (by omega)]; exact s3 y y1 y2)
theorem wb_w2_hi {lo hi : Int64} {T : Int → Bool} (h : wb_w2 lo hi T) (h0 : lo = 0) (h1 : hi ≠ 0) : wb_nxt T 125 0 = 64 + wb_lo hi := by
  obtain ⟨s1, s2, s3⟩ := wb_lo_spec h1
  have e := h.2 _ s1.1 s1.2
  rw [s2] at e
  have e2 := wb_and e.symm
  have e3 := of_decide_eq_true e2.1
  refine wb_nxt_at 125 0 _ (by omega) (by omega) e2.2 (fun y y1 y2 => ?_)
  by_cases hy : y < 64
  · rw [← h.1 y y1 hy, h0, wb_tb_0]
  · have := h.2 (y - 64) (by omega) (by omega)
    rw [s3 (y - 64) (by omega) (by omega), decide_eq_true (by omega), Bool.true_and, show 64 + (y - 64) = y by omega] at this
    exact this.symm
theorem wb_w2_no {lo hi : Int64} {T : Int → Bool} (h : wb_w2 lo hi T) (h0 : lo = 0) (h1 : hi = 0) : wb_nxt T 125 0 = -1 := by
  refine wb_nxt_no 125 0 (fun y y1 y2 => ?_)
  exact wb_ex_no.mp ((wb_w2_ne h).mp (by rw [h0, h1]; rfl)) y y1 (by omega)
theorem wb_nxt125 (T : Int → Bool) : (0 ≤ wb_nxt T 125 0 ∧ wb_nxt T 125 0 < 125 ∧ T (wb_nxt T 125 0) = true ∧ ∀ y, 0 ≤ y → y < wb_nxt T 125 0 → T y = false) ∨ (wb_nxt T 125 0 = -1 ∧ ∀ y, 0 ≤ y → y < 125 → T y = false) := by
  by_cases h : ∃ y : Int, 0 ≤ y ∧ y < 125 ∧ T y = true
  · left
    have key : ∀ k : Nat, (∃ y : Int, 0 ≤ y ∧ y < k ∧ T y = true) → ∃ y : Int, 0 ≤ y ∧ y < k ∧ T y = true ∧ ∀ x, 0 ≤ x → x < y → T x = false := by
      intro k
      induction k with
      | zero => rintro ⟨y, h1, h2, _⟩; omega
      | succ k ih =>
        rintro ⟨y, h1, h2, h3⟩
        by_cases hk : ∃ y : Int, 0 ≤ y ∧ y < k ∧ T y = true
        · obtain ⟨z, z1, z2, z3, z4⟩ := ih hk
          exact ⟨z, z1, by omega, z3, z4⟩
        · refine ⟨y, h1, h2, h3, fun x x1 x2 => ?_⟩
          cases hT : T x with
          | false => rfl
          | true => exact absurd ⟨x, x1, by omega, hT⟩ hk
    obtain ⟨y, y1, y2, y3, y4⟩ := key 125 h
    rw [wb_nxt_at 125 0 y y1 (by omega) y3 y4]
    exact ⟨y1, y2, y3, y4⟩
  · right
    have hn : ∀ y, 0 ≤ y → y < 125 → T y = false := fun y y1 y2 => by
      cases hT : T y with
      | false => rfl
      | true => exact absurd ⟨y, y1, y2, hT⟩ h
    exact ⟨wb_nxt_no 125 0 (fun y y1 y2 => hn y y1 (by omega)), hn⟩
def wb_tt (x : Int) : Int := wb_th (x / 125) + wb_th (x % 125)
theorem wb_th_rg (p : Int) : 0 ≤ wb_th p ∧ wb_th p ≤ 3 := by
  unfold wb_th; split <;> split <;> split <;> omega
/-- the plainest of a set -/
def wb_pl (F : Int → Bool) (r : Int) : Prop := (r = -1 ∧ ∀ x, 0 ≤ x → x < 15625 → F x = false) ∨ ((0 ≤ r ∧ r < 15625) ∧ F r = true ∧ ∀ x, 0 ≤ x → x < 15625 → F x = true → wb_tt r ≤ wb_tt x ∧ (wb_tt x = wb_tt r → r ≤ x))
/-- till part i, and in part i till j things -/
def wb_pi (F : Int → Bool) (i j fo fe : Int) : Prop := (∀ x, 0 ≤ x → x < 15625 → (x / 125 < i ∨ (x / 125 = i ∧ wb_th (x % 125) < j)) → F x = true → fe ≤ wb_tt x ∧ (wb_tt x = fe → fo ≤ x)) ∧ ((fo = -1 ∧ fe = 7 ∧ ∀ x, 0 ≤ x → x < 15625 → (x / 125 < i ∨ (x / 125 = i ∧ wb_th (x % 125) < j)) → F x = false) ∨ ((0 ≤ fo ∧ fo < 15625) ∧ F fo = true ∧ wb_tt fo = fe ∧ (fo / 125 < i ∨ (fo / 125 = i ∧ wb_th (fo % 125) < j)))) ∧ (0 ≤ fe ∧ fe ≤ 7)
theorem wb_pi_hit {F : Int → Bool} {i j fo fe q : Int} (h : wb_pi F i j fo fe) (hi : 0 ≤ i ∧ i < 125) (hj : 0 ≤ j ∧ j ≤ 3) (hlt : wb_th i + j < fe) (hq : 0 ≤ q ∧ q < 125) (h1 : F (i * 125 + q) = true ∧ wb_th q = j) (h2 : ∀ y, 0 ≤ y → y < q → ¬ (F (i * 125 + y) = true ∧ wb_th y = j)) : wb_pi F i (j + 1) (i * 125 + q) (wb_th i + j) := by
  obtain ⟨a1, a2, a3⟩ := h
  have e1 : (i * 125 + q) / 125 = i := by omega
  have e2 : (i * 125 + q) % 125 = q := by omega
  have hti := wb_th_rg i
  refine ⟨fun x x1 x2 x3 x4 => ?_, Or.inr ⟨by omega, h1.1, by unfold wb_tt; rw [e1, e2, h1.2], Or.inr ⟨e1, by rw [e2]; omega⟩⟩, by omega⟩
  by_cases hp : x / 125 < i ∨ (x / 125 = i ∧ wb_th (x % 125) < j)
  · have := a1 x x1 x2 hp x4
    omega
  · have ei : x / 125 = i := by omega
    have ej : wb_th (x % 125) = j := by omega
    have et : wb_tt x = wb_th i + j := by unfold wb_tt; rw [ei, ej]
    refine ⟨by omega, fun _ => ?_⟩
    refine Classical.byContradiction fun hc => ?_
    refine h2 (x % 125) (by omega) (by omega) ⟨?_, ej⟩
    rw [show i * 125 + x % 125 = x by omega]; exact x4
theorem wb_pi_miss {F : Int → Bool} {i j fo fe : Int} (h : wb_pi F i j fo fe) (hi : 0 ≤ i ∧ i < 125) (h2 : ∀ y, 0 ≤ y → y < 125 → ¬ (F (i * 125 + y) = true ∧ wb_th y = j)) : wb_pi F i (j + 1) fo fe := by
  obtain ⟨a1, a2, a3⟩ := h
  have key : ∀ x, 0 ≤ x → x < 15625 → (x / 125 < i ∨ (x / 125 = i ∧ wb_th (x % 125) < j + 1)) → F x = true → (x / 125 < i ∨ (x / 125 = i ∧ wb_th (x % 125) < j)) := fun x x1 x2 x3 x4 => by
    refine Classical.byContradiction fun hc => ?_
    refine h2 (x % 125) (by omega) (by omega) ⟨?_, by omega⟩
    rw [show i * 125 + x % 125 = x by omega]; exact x4
  refine ⟨fun x x1 x2 x3 x4 => a1 x x1 x2 (key x x1 x2 x3 x4) x4, ?_, a3⟩
  rcases a2 with ⟨b1, b2, b3⟩ | ⟨b1, b2, b3, b4⟩
  · refine Or.inl ⟨b1, b2, fun x x1 x2 x3 => ?_⟩
    cases hF : F x with
    | false => rfl
    | true => have := b3 x x1 x2 (key x x1 x2 x3 hF); rw [hF] at this; cases this
  · exact Or.inr ⟨b1, b2, b3, by omega⟩
theorem wb_pi_row3 {F : Int → Bool} {i j fo fe : Int} (h : wb_pi F i j fo fe) (hj : 3 < j) : wb_pi F (i + 1) 0 fo fe := by
  obtain ⟨a1, a2, a3⟩ := h
  have key : ∀ x, 0 ≤ x → x < 15625 → (x / 125 < i + 1 ∨ (x / 125 = i + 1 ∧ wb_th (x % 125) < 0)) → (x / 125 < i ∨ (x / 125 = i ∧ wb_th (x % 125) < j)) := fun x x1 x2 x3 => by
    have := wb_th_rg (x % 125); omega
  refine ⟨fun x x1 x2 x3 x4 => a1 x x1 x2 (key x x1 x2 x3) x4, ?_, a3⟩
  rcases a2 with ⟨b1, b2, b3⟩ | ⟨b1, b2, b3, b4⟩
  · exact Or.inl ⟨b1, b2, fun x x1 x2 x3 => b3 x x1 x2 (key x x1 x2 x3)⟩
  · exact Or.inr ⟨b1, b2, b3, by omega⟩
theorem wb_pi_row {F : Int → Bool} {i j fo fe : Int} (h : wb_pi F i j fo fe) (hi : 0 ≤ i ∧ i < 125) (hj : 0 ≤ j) (h2 : 3 < j ∨ fe ≤ wb_th i + j) : wb_pi F (i + 1) 0 fo fe := by
  by_cases hj3 : 3 < j
  · exact wb_pi_row3 h hj3
  obtain ⟨a1, a2, a3⟩ := h
  have hti := wb_th_rg i
  rcases a2 with ⟨b1, b2, b3⟩ | ⟨b1, b2, b3, b4⟩
  · omega
  · refine ⟨fun x x1 x2 x3 x4 => ?_, Or.inr ⟨b1, b2, b3, by omega⟩, a3⟩
    by_cases hp : x / 125 < i ∨ (x / 125 = i ∧ wb_th (x % 125) < j)
    · exact a1 x x1 x2 hp x4
    · have hx := wb_th_rg (x % 125)
      have ei : x / 125 = i := by omega
      have et : wb_tt x = wb_th i + wb_th (x % 125) := by unfold wb_tt; rw [ei]
      refine ⟨by omega, fun q => ?_⟩
      rcases b4 with b4 | ⟨b4, b5⟩
      · omega
      · have : wb_tt fo = wb_th i + wb_th (fo % 125) := by unfold wb_tt; rw [b4]
        omega
theorem wb_rw_miss {F : Int → Bool} {t i j : Int} (hex : wb_ex (fun q => F (i * 125 + q) && decide (wb_am q t = j)) 125 = false) (r : Int) : (decide (r % 5 < j + 1) && wb_rw F t i r) = (decide (r % 5 < j) && wb_rw F t i r) := by
  by_cases ha : r % 5 = j
  · unfold wb_rw; rw [ha, hex, Bool.and_false, Bool.and_false, Bool.and_false]
  · rw [show decide (r % 5 < j + 1) = decide (r % 5 < j) from decide_eq_decide.mpr (by omega)]
theorem wb_rw_hit {F : Int → Bool} {t i j : Int} (hj : 0 ≤ j ∧ j < 5) (hex : wb_ex (fun q => F (i * 125 + q) && decide (wb_am q t = j)) 125 = true) (r : Int) : (decide (r % 5 < j + 1) && wb_rw F t i r) = ((decide (r % 5 < j) && wb_rw F t i r) || decide (r = 5 * wb_am i t + j)) := by
  by_cases ha : r % 5 = j
  · unfold wb_rw
    rw [ha, hex, Bool.and_true, show decide (j < j) = false from decide_eq_false (by omega), Bool.false_and, Bool.false_or, show decide (j < j + 1) = true from decide_eq_true (by omega), Bool.true_and]
    exact decide_eq_decide.mpr (by omega)
  · rw [show decide (r % 5 < j + 1) = decide (r % 5 < j) from decide_eq_decide.mpr (by omega), show decide (r = 5 * wb_am i t + j) = false from decide_eq_false (by omega), Bool.or_false]
section WBS39
variable {G : wb_G} {N : Nat} {w : wb_W} {Q : Option Value → Nat → wb_W → Prop}
variable {n : Int} {c s : Int → Int} {sd sf bo tu : Int} {g : Int → Int64} {F : Int → Bool} {hl wt ct mt : Int}
theorem sp_X10_endOfPrices {v m e : Int} (hwo : wb_Wo w hl wt ct mt) (hmd : wb_Md w F) (hbk : wb_Bk w 4 n c s sd sf bo tu g) (hR : wb_BR n c s sd sf) (hv : 0 ≤ v ∧ v < 2) (hm : 0 ≤ m ∧ m < 8) (he : 0 ≤ e ∧ e ≤ 1)
    (hQ : Q (some (.int (wb_i (wb_ef (wb_mw F v) e (fun p => wb_pp c m p) 125)))) N w) : wb_M G M_X10_endOfPrices [.ref 29, .int (wb_i v), .int (wb_i m), .int (wb_i e)] N w Q := by
  unfold wb_M
  obtain ⟨ml, mh, e1, e2, hw2⟩ := hmd
  have hv2 := hw2 v hv.1 hv.2
  have lp : ∀ i, i ≤ 125 → ∀ u : Int, 0 ≤ i → u = wb_ef (wb_mw F v) e (fun p => wb_pp c m p) i.toNat → wb_V G M_X10_endOfPrices 6 [(0, .ref 29), (1, .int (wb_i v)), (2, .int (wb_i m)), (3, .int (wb_i e)), (4, .int (wb_i u)), (5, .int (wb_i i))] [] N w 0 0 Q := by
    refine wb_up 125 _ ?_
    intro i ih hi u hi0 hu
    have hur := wb_ef_rg (P := wb_mw F v) (e := e) (f := fun p => wb_pp c m p) (B := 1188) (by omega) i.toNat (fun j j1 j2 => wb_pp_rg hR j1)
    rw [← hu] at hur
    have hpr := wb_pp_rg (m := m) (p := i) hR hi0
    have hst : (i + 1).toNat = i.toNat + 1 := by omega
    have hii : ((i.toNat : Nat) : Int) = i := by omega
    have b1 := fun q : i < 64 => wb_bit0 (x := ml v) (k := i) ⟨hi0, q⟩
    have b2 := fun (q : 64 ≤ i) (q2 : i < 125) => wb_bit0 (x := mh v) (k := i - 64) ⟨by omega, by omega⟩
    have c1 : i < 64 → wb_tb (ml v) i = wb_mw F v i := fun q => hv2.1 i hi0 q
    have c2 : 64 ≤ i → i < 125 → wb_tb (mh v) (i - 64) = wb_mw F v i := fun q q2 => by
      rw [hv2.2 (i - 64) (by omega) (by omega), decide_eq_true (by omega), Bool.true_and, show 64 + (i - 64) = i by omega]
    have tl : i < 125 → ∀ W : Int64, ((W &&& Int64.ofNat (1 : Fin 2)) = 0 ↔ wb_mw F v i = false) → wb_V G M_X10_endOfPrices 53 [(0, .ref 29), (1, .int (wb_i v)), (2, .int (wb_i m)), (3, .int (wb_i e)), (4, .int (wb_i u)), (5, .int (wb_i i)), (6, .long W)] [] N w 0 0 Q := by
      intro hi125 W hW
      refine vi_lload 29 rfl rfl ?_
      refine vi_lconst 30 rfl ?_
      refine vi_land 31 rfl ?_
      refine vi_lconst 32 rfl ?_
      refine vi_lcmp 33 rfl ?_
      refine vi_if_eq32 34 rfl  (fun c_59 => ?_) (fun c_59 => ?_)
      · have hbf : wb_mw F v i = false := hW.mp ((wb_cmp0 _).mp c_59)
        refine vi_iinc 55 rfl rfl rfl ?_
        refine vi_goto 56 rfl ?_
        first | exact vi_lc (ih (i + 1) (by omega) (by omega) u (by omega) (by rw [hst, wb_ef, hii, hbf]; exact hu)) ⟨rfl, rfl, rfl, rfl, rfl, rfl, trivial⟩ | exact vi_lc (ih (i + 1) (by omega) (by omega) _ (by omega) (by rw [hst, wb_ef, hii, hbt, if_pos rfl, ← hu]; unfold wb_eo; first | (rw [if_pos (by omega)]; done) | (rw [if_neg (show ¬ u < 0 by omega), if_pos c_85]; done) | (rw [if_neg (show ¬ u < 0 by omega), if_neg c_85]; done))) ⟨rfl, rfl, rfl, rfl, rfl, rfl, trivial⟩
      · have hbt : wb_mw F v i = true := by (cases hh : wb_mw F v i with | true => rfl | false => exact absurd ((wb_cmp0 _).mpr (hW.mpr hh)) c_59)
        refine vi_aload_n 35 rfl rfl ?_
        refine vi_get 36 rfl f_X10_46 hwo.1 rfl rfl ?_
        refine vi_iload 37 rfl rfl ?_
        refine vi_iload_n 38 rfl rfl ?_
        refine vi_V2 39 ok_X0_priceOf rfl c_X10_185 hbk.1 rfl rfl ?_
        refine sp_X0_priceOf hbk hR (by omega) hm ?_
        refine vi_istore 40 rfl rfl ?_
        refine vi_iload 41 rfl rfl ?_
        refine vi_if_ge 42 rfl (by omega) (fun c_76 => ?_) (fun c_76 => ?_)
        · refine vi_iload_n 45 rfl rfl ?_
          refine vi_if_ne 46 rfl (by omega) (fun c_85 => ?_) (fun c_85 => ?_)
          · refine vi_iload 51 rfl rfl ?_
            refine vi_iload 52 rfl rfl ?_
            refine vi_max 53 rfl c_X10_193 rfl (by omega) (by omega) ?_
            refine vi_istore 54 rfl rfl ?_
            refine vi_iinc 55 rfl rfl rfl ?_
            refine vi_goto 56 rfl ?_
            first | exact vi_lc (ih (i + 1) (by omega) (by omega) u (by omega) (by rw [hst, wb_ef, hii, hbf]; exact hu)) ⟨rfl, rfl, rfl, rfl, rfl, rfl, trivial⟩ | exact vi_lc (ih (i + 1) (by omega) (by omega) _ (by omega) (by rw [hst, wb_ef, hii, hbt, if_pos rfl, ← hu]; unfold wb_eo; first | (rw [if_pos (by omega)]; done) | (rw [if_neg (show ¬ u < 0 by omega), if_pos c_85]; done) | (rw [if_neg (show ¬ u < 0 by omega), if_neg c_85]; done))) ⟨rfl, rfl, rfl, rfl, rfl, rfl, trivial⟩
          · refine vi_iload 47 rfl rfl ?_
            refine vi_iload 48 rfl rfl ?_
            refine vi_min 49 rfl c_X10_188 rfl (by omega) (by omega) ?_
            refine vi_goto 50 rfl ?_
            refine vi_istore 54 rfl rfl ?_
            refine vi_iinc 55 rfl rfl rfl ?_
            refine vi_goto 56 rfl ?_
            first | exact vi_lc (ih (i + 1) (by omega) (by omega) u (by omega) (by rw [hst, wb_ef, hii, hbf]; exact hu)) ⟨rfl, rfl, rfl, rfl, rfl, rfl, trivial⟩ | exact vi_lc (ih (i + 1) (by omega) (by omega) _ (by omega) (by rw [hst, wb_ef, hii, hbt, if_pos rfl, ← hu]; unfold wb_eo; first | (rw [if_pos (by omega)]; done) | (rw [if_neg (show ¬ u < 0 by omega), if_pos c_85]; done) | (rw [if_neg (show ¬ u < 0 by omega), if_neg c_85]; done))) ⟨rfl, rfl, rfl, rfl, rfl, rfl, trivial⟩
        · refine vi_iload 43 rfl rfl ?_
          refine vi_goto 44 rfl ?_
          refine vi_istore 54 rfl rfl ?_
          refine vi_iinc 55 rfl rfl rfl ?_
          refine vi_goto 56 rfl ?_
          first | exact vi_lc (ih (i + 1) (by omega) (by omega) u (by omega) (by rw [hst, wb_ef, hii, hbf]; exact hu)) ⟨rfl, rfl, rfl, rfl, rfl, rfl, trivial⟩ | exact vi_lc (ih (i + 1) (by omega) (by omega) _ (by omega) (by rw [hst, wb_ef, hii, hbt, if_pos rfl, ← hu]; unfold wb_eo; first | (rw [if_pos (by omega)]; done) | (rw [if_neg (show ¬ u < 0 by omega), if_pos c_85]; done) | (rw [if_neg (show ¬ u < 0 by omega), if_neg c_85]; done))) ⟨rfl, rfl, rfl, rfl, rfl, rfl, trivial⟩
    refine vi_iload_n 4 rfl rfl ?_
    refine vi_S1 5 ok_X11_isWare rfl c_X10_155 rfl ?_
    refine sp_X11_isWare (by omega) (fun b_7 => ?_) (fun b_7 => ?_)
    · refine vi_if_eq 6 rfl (by omega) (fun c => absurd c (by decide)) (fun _ => ?_)
      refine vi_iload 7 rfl rfl ?_
      refine vi_bipush 8 rfl (by decide) ?_
      refine vi_icmp_ge 9 rfl (by omega) (by omega) (fun c_17 => ?_) (fun c_17 => ?_)
      · refine vi_iload 57 rfl rfl ?_
        exact vi_ireturn 58 rfl rfl rfl (Nat.zero_le _) (Nat.zero_le _) (wb_e (by rw [hu, show i = 125 by omega]; rfl) hQ)
      · refine vi_iload 10 rfl rfl ?_
        refine vi_bipush 11 rfl (by decide) ?_
        refine vi_icmp_ge 12 rfl (by omega) (by omega) (fun c_24 => ?_) (fun c_24 => ?_)
        · refine vi_aload_n 20 rfl rfl ?_
          refine vi_get 21 rfl f_X10_39 hwo.1 rfl rfl ?_
          refine vi_iload_n 22 rfl rfl ?_
          refine vi_lald 23 rfl e2 (by omega) ?_
          refine vi_iload 24 rfl rfl ?_
          refine vi_bipush 25 rfl (by decide) ?_
          refine vi_isub 26 rfl ?_
          refine vi_lushr 27 rfl ?_
          refine vi_lstore 28 rfl rfl ?_
          first | exact vi_lc (tl (by omega) _ (by rw [b1 (by omega), c1 (by omega)])) ⟨rfl, rfl, rfl, rfl, rfl, rfl, rfl, trivial⟩ | exact vi_lc (tl (by omega) _ (by rw [b2 (by omega) (by omega), c2 (by omega) (by omega)])) ⟨rfl, rfl, rfl, rfl, rfl, rfl, rfl, trivial⟩
        · refine vi_aload_n 13 rfl rfl ?_
          refine vi_get 14 rfl f_X10_35 hwo.1 rfl rfl ?_
          refine vi_iload_n 15 rfl rfl ?_
          refine vi_lald 16 rfl e1 (by omega) ?_
          refine vi_iload 17 rfl rfl ?_
          refine vi_lushr 18 rfl ?_
          refine vi_goto 19 rfl ?_
          refine vi_lstore 28 rfl rfl ?_
          first | exact vi_lc (tl (by omega) _ (by rw [b1 (by omega), c1 (by omega)])) ⟨rfl, rfl, rfl, rfl, rfl, rfl, rfl, trivial⟩ | exact vi_lc (tl (by omega) _ (by rw [b2 (by omega) (by omega), c2 (by omega) (by omega)])) ⟨rfl, rfl, rfl, rfl, rfl, rfl, rfl, trivial⟩
    · exfalso
      omega
  refine vi_iconst 0 rfl ?_
  refine vi_istore 1 rfl rfl ?_
  refine vi_iconst 2 rfl ?_
  refine vi_istore 3 rfl rfl ?_
  exact vi_lc (lp 0 (by omega) (-1) (by omega) rfl) ⟨rfl, rfl, rfl, rfl, rfl, rfl, trivial⟩
theorem sp_X10_pairs {t : Int} (hwo : wb_Wo w hl wt ct mt) (h38 : wb_Mw w 38 g) (hF : wb_rp g F) (ht : 0 ≤ t ∧ t < 3)
    (hQ : ∀ z : Int, (0 ≤ z ∧ z < (2 ^ 25 : Nat)) → (∀ r, 0 ≤ r → r < 25 → wb_bt z r = wb_ex (fun p => wb_rw F t p r) 125) → Q (some (.int (wb_i z))) N w) : wb_M G M_X10_pairs [.ref 29, .int (wb_i t)] N w Q := by
  unfold wb_M
  have hpt := hwo.2.2
  have hpt' := hpt
  obtain ⟨_, _, _, _, p0, -⟩ := hpt'
  have lp1 : ∀ i, i ≤ 125 → ∀ z : Int, 0 ≤ i → (0 ≤ z ∧ z < (2 ^ 25 : Nat)) → (∀ r, 0 ≤ r → r < 25 → wb_bt z r = wb_ex (fun p => wb_rw F t p r) i.toNat) → wb_V G M_X10_pairs 4 [(0, .ref 29), (1, .int (wb_i t)), (2, .int (wb_i z)), (3, .int (wb_i i))] [] N w 0 0 Q := by
    refine wb_up 125 _ ?_
    intro i ih hi z hi0 hz hb
    have hst : (i + 1).toNat = i.toNat + 1 := by omega
    have hii : ((i.toNat : Nat) : Int) = i := by omega
    have har := wb_am_rg (p := i) (t := t) hi0
    have lp2 : i < 125 → ∀ j, j ≤ 5 → ∀ z : Int, 0 ≤ j → (0 ≤ z ∧ z < (2 ^ 25 : Nat)) → (∀ r, 0 ≤ r → r < 25 → wb_bt z r = (wb_ex (fun p => wb_rw F t p r) i.toNat || (decide (r % 5 < j) && wb_rw F t i r))) → wb_V G M_X10_pairs 13 [(0, .ref 29), (1, .int (wb_i t)), (2, .int (wb_i z)), (3, .int (wb_i i)), (4, .int (wb_i j))] [] N w 0 0 Q := by
      intro hi5
      refine wb_up 5 _ ?_
      intro j jh hj z hj0 hz hb
      have hrow := wb_w2_row hF (p := i) ⟨hi0, hi5⟩
      refine vi_iload 9 rfl rfl ?_
      refine vi_iconst 10 rfl ?_
      refine vi_icmp_ge 11 rfl (by omega) (by omega) (fun c_16 => ?_) (fun c_16 => ?_)
      · refine vi_iinc 56 rfl rfl rfl ?_
        refine vi_goto 57 rfl ?_
        exact vi_lc (ih (i + 1) (by omega) (by omega) z (by omega) hz (fun r r1 r2 => by rw [hb r r1 r2, decide_eq_true (by omega), Bool.true_and, hst, wb_ex, hii])) ⟨rfl, rfl, rfl, rfl, trivial⟩
      · refine vi_aload_n 12 rfl rfl ?_
        refine vi_get 13 rfl f_X10_28 hwo.1 rfl rfl ?_
        refine vi_iload_n 14 rfl rfl ?_
        refine vi_V1 15 ok_X5_low rfl c_X10_148 h38.1 rfl rfl ?_
        refine sp_X5_low h38 (by omega) ?_
        rw [if_pos (by omega)]
        refine vi_aload_n 16 rfl rfl ?_
        refine vi_get 17 rfl f_X10_12 hwo.1 rfl rfl ?_
        refine vi_iload_n 18 rfl rfl ?_
        refine vi_iload 19 rfl rfl ?_
        refine vi_V2 20 ok_X6_lowWith rfl c_X10_158 p0 rfl rfl ?_
        refine sp_X6_lowWith ‹_› (by omega) (by omega) (fun v_34 hv_34 => ?_)
        refine vi_land 21 rfl ?_
        refine vi_lstore 22 rfl rfl ?_
        refine vi_aload_n 23 rfl rfl ?_
        refine vi_get 24 rfl f_X10_28 hwo.1 rfl rfl ?_
        refine vi_iload_n 25 rfl rfl ?_
        refine vi_V1 26 ok_X5_high rfl c_X10_152 h38.1 rfl rfl ?_
        refine sp_X5_high h38 (by omega) ?_
        rw [if_pos (by omega)]
        refine vi_aload_n 27 rfl rfl ?_
        refine vi_get 28 rfl f_X10_12 hwo.1 rfl rfl ?_
        refine vi_iload_n 29 rfl rfl ?_
        refine vi_iload 30 rfl rfl ?_
        refine vi_V2 31 ok_X6_highWith rfl c_X10_162 p0 rfl rfl ?_
        refine sp_X6_highWith ‹_› (by omega) (by omega) (fun v_55 hv_55 => ?_)
        refine vi_land 32 rfl ?_
        refine vi_lstore 33 rfl rfl ?_
        have hne := wb_w2_ne (wb_w2_and hrow (⟨hv_34, hv_55⟩ : wb_w2 v_34 v_55 (fun p => decide (wb_am p t = j))))
        refine vi_iload_n 34 rfl rfl ?_
        refine vi_lload 35 rfl rfl ?_
        refine vi_lload 36 rfl rfl ?_
        refine vi_lor 37 rfl ?_
        refine vi_lconst 38 rfl ?_
        refine vi_lcmp 39 rfl ?_
        refine vi_if_eq32 40 rfl  (fun c_69 => ?_) (fun c_69 => ?_)
        · refine vi_iconst 51 rfl ?_
          refine vi_ior 52 rfl ?_
          first | rw [wb_or1 (by omega) (by omega)] | rw [wb_or0]
          refine vi_istore_n 53 rfl rfl ?_
          refine vi_iinc 54 rfl rfl rfl ?_
          refine vi_goto 55 rfl ?_
          first | exact vi_lc (jh (j + 1) (by omega) (by omega) z (by omega) hz (fun r r1 r2 => by rw [hb r r1 r2, wb_rw_miss (hne.mp ((wb_cmp0 _).mp c_69))])) ⟨rfl, rfl, rfl, rfl, rfl, trivial⟩ | (have hex : wb_ex (fun q => F (i * 125 + q) && decide (wb_am q t = j)) 125 = true := (by cases h : wb_ex (fun q => F (i * 125 + q) && decide (wb_am q t = j)) 125 with | true => rfl | false => exact absurd ((wb_cmp0 _).mpr (hne.mpr h)) c_69); exact vi_lc (jh (j + 1) (by omega) (by omega) _ (by omega) (wb_ad1_rg hz (by omega)) (fun r r1 r2 => by rw [wb_ad1_bt r (by omega) r1, hb r r1 r2, Bool.or_assoc, wb_rw_hit (by omega) hex])) ⟨rfl, rfl, rfl, rfl, rfl, trivial⟩)
        · refine vi_iconst 41 rfl ?_
          refine vi_iconst 42 rfl ?_
          refine vi_iload_n 43 rfl rfl ?_
          refine vi_iload_n 44 rfl rfl ?_
          refine vi_S2 45 ok_X11_amountIn rfl c_X10_196 rfl ?_
          refine sp_X11_amountIn (by omega) (by omega) ?_
          refine vi_imul 46 rfl ?_
          refine vi_iload 47 rfl rfl ?_
          refine vi_iadd 48 rfl ?_
          refine vi_ishl 49 rfl ?_
          refine vi_goto 50 rfl ?_
          refine vi_ior 52 rfl ?_
          first | rw [wb_or1 (by omega) (by omega)] | rw [wb_or0]
          refine vi_istore_n 53 rfl rfl ?_
          refine vi_iinc 54 rfl rfl rfl ?_
          refine vi_goto 55 rfl ?_
          first | exact vi_lc (jh (j + 1) (by omega) (by omega) z (by omega) hz (fun r r1 r2 => by rw [hb r r1 r2, wb_rw_miss (hne.mp ((wb_cmp0 _).mp c_69))])) ⟨rfl, rfl, rfl, rfl, rfl, trivial⟩ | (have hex : wb_ex (fun q => F (i * 125 + q) && decide (wb_am q t = j)) 125 = true := (by cases h : wb_ex (fun q => F (i * 125 + q) && decide (wb_am q t = j)) 125 with | true => rfl | false => exact absurd ((wb_cmp0 _).mpr (hne.mpr h)) c_69); exact vi_lc (jh (j + 1) (by omega) (by omega) _ (by omega) (wb_ad1_rg hz (by omega)) (fun r r1 r2 => by rw [wb_ad1_bt r (by omega) r1, hb r r1 r2, Bool.or_assoc, wb_rw_hit (by omega) hex])) ⟨rfl, rfl, rfl, rfl, rfl, trivial⟩)
    refine vi_iload_n 4 rfl rfl ?_
    refine vi_bipush 5 rfl (by decide) ?_
    refine vi_icmp_ge 6 rfl (by omega) (by omega) (fun c_7 => ?_) (fun c_7 => ?_)
    · refine vi_iload_n 58 rfl rfl ?_
      exact vi_ireturn 59 rfl rfl rfl (Nat.zero_le _) (Nat.zero_le _) (hQ z hz (fun r r1 r2 => by rw [hb r r1 r2, show i.toNat = 125 by omega]))
    · refine vi_iconst 7 rfl ?_
      refine vi_istore 8 rfl rfl ?_
      exact vi_lc (lp2 (by omega) 0 (by omega) z (by omega) hz (fun r r1 r2 => by rw [hb r r1 r2, decide_eq_false (by omega), Bool.false_and, Bool.or_false])) ⟨rfl, rfl, rfl, rfl, rfl, trivial⟩
  refine vi_iconst 0 rfl ?_
  refine vi_istore_n 1 rfl rfl ?_
  refine vi_iconst 2 rfl ?_
  refine vi_istore_n 3 rfl rfl ?_
  exact vi_lc (lp1 0 (by omega) 0 (by omega) (by omega) (fun r r1 r2 => by rw [wb_bt0]; rfl)) ⟨rfl, rfl, rfl, rfl, trivial⟩
theorem sp_X10_firstWith {p m : Int} (hwo : wb_Wo w hl wt ct mt) (h38 : wb_Mw w 38 g) (hF : wb_rp g F) (hp : 0 ≤ p ∧ p < 125) (hm : 0 ≤ m ∧ m < 4) (hQ : Q (some (.int (wb_i (wb_nxt (fun q => F (p * 125 + q) && decide (wb_th q = m)) 125 0)))) N w) : wb_M G M_X10_firstWith [.ref 29, .int (wb_i p), .int (wb_i m)] N w Q := by
  unfold wb_M
  have hpt := hwo.2.2
  have hpt' := hpt
  obtain ⟨_, _, _, _, p0, -⟩ := hpt'
  have hrow := wb_w2_row hF hp
  refine vi_aload_n 0 rfl rfl ?_
  refine vi_get 1 rfl f_X10_28 hwo.1 rfl rfl ?_
  refine vi_iload_n 2 rfl rfl ?_
  refine vi_V1 3 ok_X5_low rfl c_X10_148 h38.1 rfl rfl ?_
  refine sp_X5_low h38 (by omega) ?_
  rw [if_pos (by omega)]
  refine vi_aload_n 4 rfl rfl ?_
  refine vi_get 5 rfl f_X10_12 hwo.1 rfl rfl ?_
  refine vi_iload_n 6 rfl rfl ?_
  refine vi_V1 7 ok_X6_lowOfThings rfl c_X10_175 p0 rfl rfl ?_
  refine sp_X6_lowOfThings hpt hm (fun v_1 hv_1 => ?_)
  refine vi_land 8 rfl ?_
  refine vi_lstore_n 9 rfl rfl ?_
  refine vi_aload_n 10 rfl rfl ?_
  refine vi_get 11 rfl f_X10_28 hwo.1 rfl rfl ?_
  refine vi_iload_n 12 rfl rfl ?_
  refine vi_V1 13 ok_X5_high rfl c_X10_152 h38.1 rfl rfl ?_
  refine sp_X5_high h38 (by omega) ?_
  rw [if_pos (by omega)]
  refine vi_aload_n 14 rfl rfl ?_
  refine vi_get 15 rfl f_X10_12 hwo.1 rfl rfl ?_
  refine vi_iload_n 16 rfl rfl ?_
  refine vi_V1 17 ok_X6_highOfThings rfl c_X10_178 p0 rfl rfl ?_
  refine sp_X6_highOfThings hpt hm (fun v_2 hv_2 => ?_)
  have hw := wb_w2_and hrow (⟨hv_1, hv_2⟩ : wb_w2 v_1 v_2 (fun q => decide (wb_th q = m)))
  refine vi_land 18 rfl ?_
  refine vi_lstore 19 rfl rfl ?_
  refine vi_lload_n 20 rfl rfl ?_
  refine vi_lconst 21 rfl ?_
  refine vi_lcmp 22 rfl ?_
  refine vi_if_eq32 23 rfl  (fun c_40 => ?_) (fun c_40 => ?_)
  · refine vi_lload 27 rfl rfl ?_
    refine vi_lconst 28 rfl ?_
    refine vi_lcmp 29 rfl ?_
    refine vi_if_eq32 30 rfl  (fun c_54 => ?_) (fun c_54 => ?_)
    · refine vi_iconst 36 rfl ?_
      exact vi_ireturn 37 rfl rfl rfl (Nat.zero_le _) (Nat.zero_le _) (wb_e (by first | exact (wb_w2_lo hw (fun q => c_40 ((wb_cmp0 _).mpr q))).symm | exact (wb_w2_hi hw ((wb_cmp0 _).mp c_40) (fun q => c_54 ((wb_cmp0 _).mpr q))).symm | exact (wb_w2_no hw ((wb_cmp0 _).mp c_40) ((wb_cmp0 _).mp c_54)).symm) hQ)
    · refine vi_bipush 31 rfl (by decide) ?_
      refine vi_lload 32 rfl rfl ?_
      refine vi_S1 33 ok_X11_lowestPlace rfl c_X10_181 rfl ?_
      refine sp_X11_lowestPlace (fun q => c_54 ((wb_cmp0 _).mpr q)) ?_
      refine vi_iadd 34 rfl ?_
      refine vi_goto 35 rfl ?_
      exact vi_ireturn 37 rfl rfl rfl (Nat.zero_le _) (Nat.zero_le _) (wb_e (by first | exact (wb_w2_lo hw (fun q => c_40 ((wb_cmp0 _).mpr q))).symm | exact (wb_w2_hi hw ((wb_cmp0 _).mp c_40) (fun q => c_54 ((wb_cmp0 _).mpr q))).symm | exact (wb_w2_no hw ((wb_cmp0 _).mp c_40) ((wb_cmp0 _).mp c_54)).symm) hQ)
  · refine vi_lload_n 24 rfl rfl ?_
    refine vi_S1 25 ok_X11_lowestPlace rfl c_X10_181 rfl ?_
    refine sp_X11_lowestPlace (fun q => c_40 ((wb_cmp0 _).mpr q)) ?_
    refine vi_goto 26 rfl ?_
    exact vi_ireturn 37 rfl rfl rfl (Nat.zero_le _) (Nat.zero_le _) (wb_e (by first | exact (wb_w2_lo hw (fun q => c_40 ((wb_cmp0 _).mpr q))).symm | exact (wb_w2_hi hw ((wb_cmp0 _).mp c_40) (fun q => c_54 ((wb_cmp0 _).mpr q))).symm | exact (wb_w2_no hw ((wb_cmp0 _).mp c_40) ((wb_cmp0 _).mp c_54)).symm) hQ)
theorem sp_X10_plainest (hwo : wb_Wo w hl wt ct mt) (h38 : wb_Mw w 38 g) (hF : wb_rp g F) (hQ : ∀ r, wb_pl F r → Q (some (.int (wb_i r))) N w) : wb_M G M_X10_plainest [.ref 29] N w Q := by
  unfold wb_M
  have lp1 : ∀ i, i ≤ 125 → ∀ fo fe : Int, 0 ≤ i → wb_pi F i 0 fo fe → wb_V G M_X10_plainest 7 [(0, .ref 29), (1, .int (wb_i fo)), (2, .int (wb_i fe)), (3, .int (wb_i i))] [] N w 0 0 Q := by
    refine wb_up 125 _ ?_
    intro i ih hi fo fe hi0 hpi
    have hti := wb_th_rg i
    have lp2 : i < 125 → ∀ j, j ≤ 4 → ∀ fo fe : Int, 0 ≤ j → wb_pi F i j fo fe → wb_V G M_X10_plainest 22 [(0, .ref 29), (1, .int (wb_i fo)), (2, .int (wb_i fe)), (3, .int (wb_i i)), (4, .int (wb_i (wb_th i))), (5, .int (wb_i j))] [] N w 0 0 Q := by
      intro hi5
      refine wb_up 4 _ ?_
      intro j jh hj fo fe hj0 hpi
      have hfe := hpi.2.2
      have hnx := wb_nxt125 (fun q => F (i * 125 + q) && decide (wb_th q = j))
      refine vi_iload 14 rfl rfl ?_
      refine vi_iconst 15 rfl ?_
      refine vi_icmp_gt 16 rfl (by omega) (by omega) (fun c_25 => ?_) (fun c_25 => ?_)
      · refine vi_iinc 41 rfl rfl rfl ?_
        refine vi_goto 42 rfl ?_
        exact vi_lc (ih (i + 1) (by omega) (by omega) _ _ (by omega) (wb_pi_row hpi (by omega) hj0 (by omega))) ⟨rfl, rfl, rfl, rfl, trivial⟩
      · refine vi_iload 17 rfl rfl ?_
        refine vi_iload 18 rfl rfl ?_
        refine vi_iadd 19 rfl ?_
        refine vi_iload_n 20 rfl rfl ?_
        refine vi_icmp_ge 21 rfl (by omega) (by omega) (fun c_34 => ?_) (fun c_34 => ?_)
        · refine vi_iinc 41 rfl rfl rfl ?_
          refine vi_goto 42 rfl ?_
          exact vi_lc (ih (i + 1) (by omega) (by omega) _ _ (by omega) (wb_pi_row hpi (by omega) hj0 (by omega))) ⟨rfl, rfl, rfl, rfl, trivial⟩
        · refine vi_aload_n 22 rfl rfl ?_
          refine vi_iload_n 23 rfl rfl ?_
          refine vi_iload 24 rfl rfl ?_
          refine vi_V2 25 ok_X10_firstWith rfl c_X10_172 hwo.1 rfl rfl ?_
          refine sp_X10_firstWith hwo h38 hF (by omega) (by omega) ?_
          refine vi_istore 26 rfl rfl ?_
          refine vi_iload 27 rfl rfl ?_
          refine vi_if_lt 28 rfl (by omega) (fun c_48 => ?_) (fun c_48 => ?_)
          · refine vi_iinc 39 rfl rfl rfl ?_
            refine vi_goto 40 rfl ?_
            first | exact vi_lc (jh (j + 1) (by omega) (by omega) _ _ (by omega) (wb_pi_hit hpi (by omega) (by omega) (by omega) (by omega) (by rcases hnx with ⟨n1, n2, n3, n4⟩ | ⟨n1, n2⟩; (have := wb_and n3; exact ⟨this.1, of_decide_eq_true this.2⟩); omega) (fun y y1 y2 y3 => by rcases hnx with ⟨n1, n2, n3, n4⟩ | ⟨n1, n2⟩; (have := n4 y y1 y2; simp [y3.1, y3.2] at this); omega))) ⟨rfl, rfl, rfl, rfl, rfl, rfl, trivial⟩ | exact vi_lc (jh (j + 1) (by omega) (by omega) _ _ (by omega) (wb_pi_miss hpi (by omega) (fun y y1 y2 y3 => by rcases hnx with ⟨n1, n2, n3, n4⟩ | ⟨n1, n2⟩; omega; (have := n2 y y1 y2; simp [y3.1, y3.2] at this)))) ⟨rfl, rfl, rfl, rfl, rfl, rfl, trivial⟩
          · refine vi_iload 29 rfl rfl ?_
            refine vi_iload 30 rfl rfl ?_
            refine vi_iadd 31 rfl ?_
            refine vi_istore_n 32 rfl rfl ?_
            refine vi_iload_n 33 rfl rfl ?_
            refine vi_bipush 34 rfl (by decide) ?_
            refine vi_imul 35 rfl ?_
            refine vi_iload 36 rfl rfl ?_
            refine vi_iadd 37 rfl ?_
            refine vi_istore_n 38 rfl rfl ?_
            refine vi_iinc 39 rfl rfl rfl ?_
            refine vi_goto 40 rfl ?_
            first | exact vi_lc (jh (j + 1) (by omega) (by omega) _ _ (by omega) (wb_pi_hit hpi (by omega) (by omega) (by omega) (by omega) (by rcases hnx with ⟨n1, n2, n3, n4⟩ | ⟨n1, n2⟩; (have := wb_and n3; exact ⟨this.1, of_decide_eq_true this.2⟩); omega) (fun y y1 y2 y3 => by rcases hnx with ⟨n1, n2, n3, n4⟩ | ⟨n1, n2⟩; (have := n4 y y1 y2; simp [y3.1, y3.2] at this); omega))) ⟨rfl, rfl, rfl, rfl, rfl, rfl, trivial⟩ | exact vi_lc (jh (j + 1) (by omega) (by omega) _ _ (by omega) (wb_pi_miss hpi (by omega) (fun y y1 y2 y3 => by rcases hnx with ⟨n1, n2, n3, n4⟩ | ⟨n1, n2⟩; omega; (have := n2 y y1 y2; simp [y3.1, y3.2] at this)))) ⟨rfl, rfl, rfl, rfl, rfl, rfl, trivial⟩
    refine vi_iload_n 6 rfl rfl ?_
    refine vi_bipush 7 rfl (by decide) ?_
    refine vi_icmp_ge 8 rfl (by omega) (by omega) (fun c_10 => ?_) (fun c_10 => ?_)
    · refine vi_iload_n 43 rfl rfl ?_
      exact vi_ireturn 44 rfl rfl rfl (Nat.zero_le _) (Nat.zero_le _) (hQ fo (by have h125 : i = 125 := (by omega); subst h125; obtain ⟨a1, a2, a3⟩ := hpi; rcases a2 with ⟨b1, b2, b3⟩ | ⟨b1, b2, b3, b4⟩; (exact Or.inl ⟨b1, fun x x1 x2 => b3 x x1 x2 (Or.inl (by omega))⟩); (exact Or.inr ⟨b1, b2, fun x x1 x2 x3 => by have := a1 x x1 x2 (Or.inl (by omega)) x3; rw [b3]; exact this⟩)))
    · refine vi_iload_n 9 rfl rfl ?_
      refine vi_S1 10 ok_X11_thingsInPart rfl c_X10_169 rfl ?_
      refine sp_X11_thingsInPart (by omega) ?_
      refine vi_istore 11 rfl rfl ?_
      refine vi_iconst 12 rfl ?_
      refine vi_istore 13 rfl rfl ?_
      exact vi_lc (lp2 (by omega) 0 (by omega) _ _ (by omega) hpi) ⟨rfl, rfl, rfl, rfl, rfl, rfl, trivial⟩
  refine vi_iconst 0 rfl ?_
  refine vi_istore_n 1 rfl rfl ?_
  refine vi_bipush 2 rfl (by decide) ?_
  refine vi_istore_n 3 rfl rfl ?_
  refine vi_iconst 4 rfl ?_
  refine vi_istore_n 5 rfl rfl ?_
  exact vi_lc (lp1 0 (by omega) (-1) 7 (by omega) ⟨fun x x1 x2 x3 x4 => (by have := wb_th_rg (x % 125); omega), Or.inl ⟨rfl, rfl, fun x x1 x2 x3 => (by have := wb_th_rg (x % 125); omega)⟩, (by omega)⟩) ⟨rfl, rfl, rfl, rfl, trivial⟩
end WBS39
