/-! ===== the class's face: all, ends .. hide ===== -/
theorem wb_i2l : ∀ z : Fin 32, ∀ b : Fin 64, wb_tb ((wb_i (z.val : Int)).toInt64) (b.val : Int) = wb_bt (z.val : Int) (b.val : Int) := by decide +kernel
theorem wb_i2lz {z b : Int} (hz : 0 ≤ z ∧ z < 32) (hb : 0 ≤ b ∧ b < 64) : wb_tb ((wb_i z).toInt64) b = wb_bt z b := by
  have := wb_i2l ⟨z.toNat, by omega⟩ ⟨b.toNat, by omega⟩
  simp only [show ((z.toNat : Nat) : Int) = z by omega, show ((b.toNat : Nat) : Int) = b by omega] at this
  exact this
/-- the part of a ware in a mixture; how much of a thing is in it -/
def wb_vp (v x : Int) : Int := if v = 0 then x / 125 else x % 125
theorem wb_mw_ex {F : Int → Bool} {v : Int} {P : Int → Bool} (hv : 0 ≤ v ∧ v < 2) : wb_ex (fun p => wb_mw F v p && P p) 125 = true ↔ ∃ x : Int, 0 ≤ x ∧ x < 15625 ∧ F x = true ∧ P (wb_vp v x) = true := by
  rw [wb_ex_iff]
  constructor
  · rintro ⟨p, p1, p2, p3⟩
    obtain ⟨q1, q2⟩ := wb_and p3
    unfold wb_mw at q1
    by_cases e : v = 0
    · rw [if_pos e, wb_ex_iff] at q1
      obtain ⟨q, a1, a2, a3⟩ := q1
      refine ⟨p * 125 + q, by omega, by omega, a3, ?_⟩
      unfold wb_vp; rw [if_pos e, show (p * 125 + q) / 125 = p by omega]; exact q2
    · rw [if_neg e, wb_ex_iff] at q1
      obtain ⟨q, a1, a2, a3⟩ := q1
      refine ⟨q * 125 + p, by omega, by omega, a3, ?_⟩
      unfold wb_vp; rw [if_neg e, show (q * 125 + p) % 125 = p by omega]; exact q2
  · rintro ⟨x, x1, x2, x3, x4⟩
    unfold wb_vp at x4
    by_cases e : v = 0
    · rw [if_pos e] at x4
      refine ⟨x / 125, by omega, by omega, ?_⟩
      rw [x4, Bool.and_true]
      unfold wb_mw; rw [if_pos e, wb_ex_iff]
      exact ⟨x % 125, by omega, by omega, by rw [show x / 125 * 125 + x % 125 = x by omega]; exact x3⟩
    · rw [if_neg e] at x4
      refine ⟨x % 125, by omega, by omega, ?_⟩
      rw [x4, Bool.and_true]
      unfold wb_mw; rw [if_neg e, wb_ex_iff]
      exact ⟨x / 125, by omega, by omega, by rw [show x / 125 * 125 + x % 125 = x by omega]; exact x3⟩
/-- the answer of a least or most: -5 if there is none -/
def wb_ab (F : Int → Bool) (e : Int) (f : Int → Int) (r : Int) : Prop := ((∀ x, 0 ≤ x → x < 15625 → F x = false) ∧ r = -5) ∨ wb_bs F e f 15625 r
theorem wb_ab_eq {F : Int → Bool} {e : Int} {f : Int → Int} {r r' : Int} (h : wb_ab F e f r) (h' : wb_ab F e f r') : r = r' := by
  rcases h with ⟨a, b⟩ | a <;> rcases h' with ⟨a', b'⟩ | a'
  · omega
  · obtain ⟨⟨x, x1, x2, x3, x4⟩, -⟩ := a'
    rw [a x x1 (by omega)] at x3; cases x3
  · obtain ⟨⟨x, x1, x2, x3, x4⟩, -⟩ := a
    rw [a' x x1 (by omega)] at x3; cases x3
  · exact wb_bs_eq a a'
theorem wb_mwF {F : Int → Bool} {v : Int} (hv : 0 ≤ v ∧ v < 2) {p : Int} (hp : 0 ≤ p ∧ p < 125) : wb_mw F v p = true ↔ ∃ x : Int, 0 ≤ x ∧ x < 15625 ∧ F x = true ∧ wb_vp v x = p := by
  have h := wb_mw_ex (F := F) (v := v) (P := fun q => decide (q = p)) hv
  rw [wb_ex_iff] at h
  constructor
  · intro hm
    obtain ⟨x, x1, x2, x3, x4⟩ := h.mp ⟨p, hp.1, by omega, by rw [hm]; simp⟩
    exact ⟨x, x1, x2, x3, of_decide_eq_true x4⟩
  · rintro ⟨x, x1, x2, x3, x4⟩
    obtain ⟨q, q1, q2, q3⟩ := h.mpr ⟨x, x1, x2, x3, decide_eq_true x4⟩
    obtain ⟨q4, q5⟩ := wb_and q3
    rw [← of_decide_eq_true q5]; exact q4
/-- over parts or over mixtures -/
theorem wb_bs_vp {F : Int → Bool} {v e : Int} {f : Int → Int} {r : Int} (hv : 0 ≤ v ∧ v < 2) (h : wb_bs (wb_mw F v) e f 125 r) : wb_bs F e (fun x => f (wb_vp v x)) 15625 r := by
  obtain ⟨⟨p, p1, p2, p3, p4⟩, h2⟩ := h
  have hvp : ∀ x, 0 ≤ x → x < 15625 → 0 ≤ wb_vp v x ∧ wb_vp v x < 125 := fun x x1 x2 => by unfold wb_vp; split <;> omega
  obtain ⟨x, x1, x2, x3, x4⟩ := (wb_mwF hv ⟨p1, by omega⟩).mp p3
  refine ⟨⟨x, x1, by omega, x3, by show f (wb_vp v x) = r; rw [x4]; exact p4⟩, fun y y1 y2 y3 => ?_⟩
  have := hvp y y1 (by omega)
  exact h2 _ this.1 (by omega) ((wb_mwF hv this).mpr ⟨y, y1, by omega, y3, rfl⟩)
theorem wb_rwF {F : Int → Bool} {t r : Int} (hr : 0 ≤ r ∧ r < 25) : wb_ex (fun p => wb_rw F t p r) 125 = true ↔ ∃ x : Int, 0 ≤ x ∧ x < 15625 ∧ F x = true ∧ wb_pr x t = r := by
  rw [wb_ex_iff]
  constructor
  · rintro ⟨p, p1, p2, p3⟩
    unfold wb_rw at p3
    obtain ⟨q1, q2⟩ := wb_and p3
    rw [wb_ex_iff] at q2
    obtain ⟨q, a1, a2, a3⟩ := q2
    obtain ⟨a4, a5⟩ := wb_and a3
    have b1 := of_decide_eq_true q1
    have b2 := of_decide_eq_true a5
    refine ⟨p * 125 + q, by omega, by omega, a4, ?_⟩
    unfold wb_pr
    rw [show (p * 125 + q) / 125 = p by omega, show (p * 125 + q) % 125 = q by omega]; omega
  · rintro ⟨x, x1, x2, x3, x4⟩
    unfold wb_pr at x4
    have a := wb_am_rg (p := x / 125) (t := t) (by omega)
    have b := wb_am_rg (p := x % 125) (t := t) (by omega)
    refine ⟨x / 125, by omega, by omega, ?_⟩
    unfold wb_rw
    rw [decide_eq_true (show r / 5 = wb_am (x / 125) t by omega), Bool.true_and, wb_ex_iff]
    exact ⟨x % 125, by omega, by omega, by rw [show x / 125 * 125 + x % 125 = x by omega, x3, decide_eq_true (show wb_am (x % 125) t = r % 5 by omega)]; rfl⟩
def wb_mb (h y : Int) : Bool := if h = 0 then decide (y = 0) else decide (y ≠ 0)
theorem wb_mb0 (y : Int) : wb_mb 0 y = decide (y = 0) := rfl
theorem wb_mb1 {h : Int} (hh : h ≠ 0) (y : Int) : wb_mb h y = decide (y ≠ 0) := if_neg hh
/-- the bits of must and never -/
def wb_mu (F : Int → Bool) (h : Int) (r : Int) : Prop := (0 ≤ r ∧ r < (2 ^ 6 : Nat)) ∧ ∀ a, 0 ≤ a → a < 6 → wb_bt r a = !wb_ex (fun x => F x && wb_mb h (wb_am (wb_vp (a / 3) x) (a % 3))) 15625
theorem wb_mu_eq {F : Int → Bool} {h r r' : Int} (a : wb_mu F h r) (b : wb_mu F h r') : r = r' := wb_bt_ext (k := 6) a.1 b.1 (fun j j1 j2 => by rw [a.2 j j1 (by omega), b.2 j j1 (by omega)])
theorem wb_not_iff {a b : Bool} (h : a = true ↔ b = true) : a = b := by cases a <;> cases b <;> simp_all
theorem wb_mu0 {F : Int → Bool} {z : Int} (hz : 0 ≤ z ∧ z < (2 ^ 6 : Nat)) (h : ∀ a, 0 ≤ a → a < 6 → wb_bt z a = !wb_ex (fun p => wb_mw F (a / 3) p && decide (wb_am p (a % 3) = 0)) 125) : wb_mu F 0 z := by
  refine ⟨hz, fun a a1 a2 => ?_⟩
  rw [h a a1 a2]
  refine congrArg not (wb_not_iff ?_)
  rw [wb_mw_ex (by omega), wb_ex_iff]
  constructor
  · rintro ⟨x, x1, x2, x3, x4⟩; exact ⟨x, x1, by omega, by rw [x3, wb_mb0]; exact x4⟩
  · rintro ⟨x, x1, x2, x3⟩
    rw [wb_mb0] at x3
    obtain ⟨b1, b2⟩ := wb_and x3
    exact ⟨x, x1, by omega, b1, b2⟩
theorem wb_mu1 {F : Int → Bool} {z h x0 : Int} (hx0 : 0 ≤ x0 ∧ x0 < 15625) (hF0 : F x0 = true) (hh : h ≠ 0) (hz : 0 ≤ z ∧ z < (2 ^ 6 : Nat)) (hb : ∀ a, 0 ≤ a → a < 6 → wb_bt z a = wb_nn F (a / 3) (a % 3)) : wb_mu F h z := by
  refine ⟨hz, fun a a1 a2 => ?_⟩
  rw [hb a a1 a2]
  unfold wb_nn
  have e2 : wb_ex (fun p => wb_mw F (a / 3) p && decide (wb_am p (a % 3) ≠ 0)) 125 = wb_ex (fun x => F x && wb_mb h (wb_am (wb_vp (a / 3) x) (a % 3))) 15625 := by
    apply wb_not_iff
    rw [wb_mw_ex (by omega), wb_ex_iff]
    constructor
    · rintro ⟨x, x1, x2, x3, x4⟩; exact ⟨x, x1, by omega, by rw [x3, wb_mb1 hh]; exact x4⟩
    · rintro ⟨x, x1, x2, x3⟩
      rw [wb_mb1 hh] at x3
      obtain ⟨b1, b2⟩ := wb_and x3
      exact ⟨x, x1, by omega, b1, b2⟩
  rw [e2]
  cases hc : wb_ex (fun x => F x && wb_mb h (wb_am (wb_vp (a / 3) x) (a % 3))) 15625 with
  | true => simp
  | false =>
    have : wb_ex (fun p => wb_mw F (a / 3) p && decide (wb_am p (a % 3) = 0)) 125 = true := by
      rw [wb_mw_ex (by omega)]
      have := wb_ex_no.mp hc x0 hx0.1 (by omega)
      rw [hF0, wb_mb1 hh, Bool.true_and] at this
      exact ⟨x0, hx0.1, hx0.2, hF0, decide_eq_true (by have := of_decide_eq_false this; omega)⟩
    rw [this]; rfl
section WBS51
variable {G : wb_G} {N : Nat} {w : wb_W} {Q : Option Value → Nat → wb_W → Prop}
variable {n : Int} {c s : Int → Int} {sd sf bo tu : Int} {g : Int → Int64} {K : Int → Bool} {wt : Int}
/-- what a call looks at first: all that fits, brought up to date -/
def wb_AL (F : Int → Bool) (i : Int) : Int := if i = -1 then wb_ct F 15625 else if wb_nh F i < 0 then -6 else wb_nh F i
theorem wb_nh_rg (S : Int → Bool) (i : Int) : -1 ≤ wb_nh S i ∧ wb_nh S i < 15625 := by
  unfold wb_nh
  rcases wb_nx_cases (fun x => S x && decide (wb_ct S x.toNat = i)) 0 with ⟨h1, h2, _⟩ | ⟨h1, _⟩ <;> omega
theorem sp_X11_all {i : Int} (hx3 : wb_X3 w) (hbk : wb_Bk w 4 n c s sd sf bo tu g) (hR : wb_BR n c s sd sf) (hK : wb_rp g K) (htu : 1 ≤ tu) (hI : wb_In w n c s sd sf tu K wt) (hi : -2147483648 ≤ i ∧ i ≤ 2147483647)
    (hQ : ∀ (w' : wb_W), wb_In w' n c s sd sf tu K tu → (∀ k, (k < 29 ∨ 96 ≤ k) → w' k = w k) → Q (some (.int (wb_i (wb_AL (wb_ft n c s sd sf K 0 0) i)))) N w') : wb_M G M_X11_all [.ref 3, .int (wb_i i)] N w Q := by
  unfold wb_M
  obtain ⟨fs29, h29⟩ := hI.r29
  have hnr := wb_nh_rg (wb_ft n c s sd sf K 0 0) i
  refine vi_aload_n 0 rfl rfl ?_
  refine vi_get 1 rfl f_X11_36 hx3 rfl rfl ?_
  refine vi_V0 2 ok_X10_update rfl c_X11_174 h29 rfl rfl ?_
  refine wb_updI hbk hR hK htu hI (fun w2 hI2 hf2 => ?_)
  have x2 : wb_X3 w2 := (hf2 3 (by omega)).trans hx3
  obtain ⟨hl, ct, mt, hwk⟩ := hI2.wk
  obtain ⟨-, ⟨g5, h38, hrp⟩, -⟩ := hwk.2.2.2.2.2.2.2 rfl
  have hQ2 := hQ w2 hI2 (fun k hk => hf2 k (by omega))
  unfold wb_AL at hQ2
  refine vi_iload_n 3 rfl rfl ?_
  refine vi_iconst 4 rfl ?_
  refine vi_icmp_ne 5 rfl (by omega) (by omega) (fun c_9 => ?_) (fun c_9 => ?_)
  · refine vi_aload_n 11 rfl rfl ?_
    refine vi_get 12 rfl f_X11_36 x2 rfl rfl ?_
    refine vi_get 13 rfl f_X11_177 hwk.1.1 rfl rfl ?_
    refine vi_iload_n 14 rfl rfl ?_
    refine vi_V1 15 ok_X5_nth rfl c_X11_182 h38.1 rfl rfl ?_
    refine sp_X5_nth h38 hrp hi ?_
    refine vi_istore_n 16 rfl rfl ?_
    refine vi_iload_n 17 rfl rfl ?_
    refine vi_if_ge 18 rfl (by omega) (fun c_36 => ?_) (fun c_36 => ?_)
    · refine vi_iload_n 21 rfl rfl ?_
      exact vi_ireturn 22 rfl rfl rfl (Nat.zero_le _) (Nat.zero_le _) (by first | (rw [if_neg (by omega), if_pos (by omega)] at hQ2; exact hQ2) | (rw [if_neg (by omega), if_neg (by omega)] at hQ2; exact hQ2))
    · refine vi_bipush 19 rfl (by decide) ?_
      refine vi_goto 20 rfl ?_
      exact vi_ireturn 22 rfl rfl rfl (Nat.zero_le _) (Nat.zero_le _) (by first | (rw [if_neg (by omega), if_pos (by omega)] at hQ2; exact hQ2) | (rw [if_neg (by omega), if_neg (by omega)] at hQ2; exact hQ2))
  · refine vi_aload_n 6 rfl rfl ?_
    refine vi_get 7 rfl f_X11_36 x2 rfl rfl ?_
    refine vi_get 8 rfl f_X11_177 hwk.1.1 rfl rfl ?_
    refine vi_V0 9 ok_X5_count rfl c_X11_180 h38.1 rfl rfl ?_
    refine sp_X5_count h38 hrp ?_
    exact vi_ireturn 10 rfl rfl rfl (Nat.zero_le _) (Nat.zero_le _) (by rw [if_pos (by omega)] at hQ2; exact hQ2)
theorem sp_X11_ends {v t e : Int} (hx3 : wb_X3 w) (hbk : wb_Bk w 4 n c s sd sf bo tu g) (hR : wb_BR n c s sd sf) (hK : wb_rp g K) (htu : 1 ≤ tu) (hI : wb_In w n c s sd sf tu K wt) (hv : -2147483648 ≤ v ∧ v ≤ 2147483647) (ht : -2147483648 ≤ t ∧ t ≤ 2147483647) (he : -2147483648 ≤ e ∧ e ≤ 2147483647)
    (ku : ¬ ((0 ≤ v ∧ v < 2) ∧ (0 ≤ t ∧ t < 3)) → Q (some (.int (wb_i (-1)))) N w) (k2 : ((0 ≤ v ∧ v < 2) ∧ (0 ≤ t ∧ t < 3)) → ¬ (0 ≤ e ∧ e ≤ 1) → Q (some (.int (wb_i (-2)))) N w)
    (k1 : ∀ (w' : wb_W) (r : Int), ((0 ≤ v ∧ v < 2) ∧ (0 ≤ t ∧ t < 3)) → (0 ≤ e ∧ e ≤ 1) → wb_ab (wb_ft n c s sd sf K 0 0) e (fun x => wb_am (wb_vp v x) t) r → wb_In w' n c s sd sf tu K tu → (∀ k, (k < 29 ∨ 96 ≤ k) → w' k = w k) → Q (some (.int (wb_i r))) N w') : wb_M G M_X11_ends [.ref 3, .int (wb_i v), .int (wb_i t), .int (wb_i e)] N w Q := by
  unfold wb_M
  obtain ⟨fs29, h29⟩ := hI.r29
  refine vi_iload_n 0 rfl rfl ?_
  refine vi_S1 1 ok_X11_isWare rfl c_X11_185 rfl ?_
  refine sp_X11_isWare (by omega) (fun b_1 => ?_) (fun b_1 => ?_)
  · refine vi_if_eq 2 rfl (by omega) (fun c => absurd c (by decide)) (fun _ => ?_)
    refine vi_iload_n 3 rfl rfl ?_
    refine vi_S1 4 ok_X11_isThing rfl c_X11_94 rfl ?_
    refine sp_X11_isThing (by omega) (fun b_8 => ?_) (fun b_8 => ?_)
    · refine vi_if_ne 5 rfl (by omega) (fun _ => ?_) (fun c => absurd c (by decide))
      refine vi_iload_n 8 rfl rfl ?_
      refine vi_iconst 9 rfl ?_
      refine vi_S2 10 ok_X11_within rfl c_X11_67 rfl ?_
      refine sp_X11_within (by omega) (by omega) (fun b_18 => ?_) (fun b_18 => ?_)
      · refine vi_if_ne 11 rfl (by omega) (fun _ => ?_) (fun c => absurd c (by decide))
        refine vi_aload_n 14 rfl rfl ?_
        refine vi_get 15 rfl f_X11_36 hx3 rfl rfl ?_
        refine vi_V0 16 ok_X10_update rfl c_X11_174 h29 rfl rfl ?_
        refine wb_updI hbk hR hK htu hI (fun w2 hI2 hf2 => ?_)
        have x2 : wb_X3 w2 := (hf2 3 (by omega)).trans hx3
        obtain ⟨hl, ct, mt, hwk⟩ := hI2.wk
        obtain ⟨-, -, hmd, -⟩ := hwk.2.2.2.2.2.2.2 rfl
        have hwo := hwk.1
        have hQ2 := fun r hr => k1 w2 r ⟨b_1, b_8⟩ b_18 hr hI2 (fun k hk => hf2 k (by omega))
        refine vi_aload_n 17 rfl rfl ?_
        refine vi_get 18 rfl f_X11_36 x2 rfl rfl ?_
        refine vi_iload_n 19 rfl rfl ?_
        refine vi_iload_n 20 rfl rfl ?_
        refine vi_V2 21 ok_X10_amounts rfl c_X11_188 hwo.1 rfl rfl ?_
        refine sp_X10_amounts hwo hmd b_1 b_8 (fun z hz hb => ?_)
        have hbx : ∀ a, 0 ≤ a → a < 5 → (wb_bt z a = true ↔ ∃ x : Int, 0 ≤ x ∧ x < 15625 ∧ wb_ft n c s sd sf K 0 0 x = true ∧ wb_am (wb_vp v x) t = a) := (fun a a1 a2 => by rw [hb a a1 a2, wb_mw_ex b_1]; constructor <;> (rintro ⟨x, x1, x2, x3, x4⟩; exact ⟨x, x1, x2, x3, by simpa using x4⟩))
        have hvr : ∀ x, 0 ≤ x → x < 15625 → 0 ≤ wb_am (wb_vp v x) t ∧ wb_am (wb_vp v x) t ≤ 4 := (fun x x1 x2 => wb_am_rg (by unfold wb_vp; split <;> omega))
        refine vi_istore 22 rfl rfl ?_
        refine vi_iload 23 rfl rfl ?_
        refine vi_if_ne 24 rfl (by omega) (fun c_47 => ?_) (fun c_47 => ?_)
        · refine vi_iload_n 27 rfl rfl ?_
          refine vi_if_ne 28 rfl (by omega) (fun c_54 => ?_) (fun c_54 => ?_)
          · refine vi_iload 33 rfl rfl ?_
            refine vi_S1 34 ok_X11_highestPlace rfl c_X11_195 rfl ?_
            refine sp_X11_highestPlace (by omega) (fun p hp1 hp2 hp3 => ?_)
            have hpb : wb_bt z p = true := (by rcases hp3 with h | h; (exact h); (cases hh : wb_bt z p with | true => rfl | false => exact absurd (wb_bt_ext (k := 5) (y := 0) hz (by decide) (fun j j1 j2 => by rw [wb_bt0]; by_cases hj : j = p; (rw [hj]; exact hh); exact hp1 j (by omega) (by omega))) c_47))
            have hp5 : p < 5 := Int.not_le.mp (fun q => by have := wb_bt_rg (z := z) (k := 5) hz (m := p) (by omega); rw [this] at hpb; cases hpb)
            exact vi_ireturn 35 rfl rfl rfl (Nat.zero_le _) (Nat.zero_le _) (by first | (refine hQ2 _ (Or.inr ⟨?_, fun x x1 x2 x3 => ⟨fun _ => Int.not_lt.mp (fun q => ?_), fun q => by omega⟩⟩); (obtain ⟨x, x1, x2, x3, x4⟩ := (hbx _ s1.1 s4).mp s2; exact ⟨x, x1, by omega, x3, x4⟩); (have hv1 := hvr x x1 (by omega); have := s3 _ hv1.1 q; rw [wb_i2lz (by omega) (by omega), (hbx _ hv1.1 (by omega)).mpr ⟨x, x1, by omega, x3, rfl⟩] at this; cases this)) | (refine hQ2 _ (Or.inr ⟨?_, fun x x1 x2 x3 => ⟨fun q => by omega, fun _ => Int.not_lt.mp (fun q => ?_)⟩⟩); (obtain ⟨x, x1, x2, x3, x4⟩ := (hbx _ hp2.1 hp5).mp hpb; exact ⟨x, x1, by omega, x3, x4⟩); (have hv1 := hvr x x1 (by omega); have q' : p < wb_am (wb_vp v x) t := q; have := hp1 _ q' (by omega); rw [(hbx _ hv1.1 (by omega)).mpr ⟨x, x1, by omega, x3, rfl⟩] at this; cases this)))
          · have hz0 : (wb_i z).toInt64 ≠ 0 := (fun q => c_47 (wb_bt_ext (k := 5) hz (by decide) (fun j j1 j2 => by have := wb_tb_eq0.mp q j j1 (by omega); rw [wb_i2lz (by omega) (by omega)] at this; rw [this, wb_bt0])))
            obtain ⟨s1, s2, s3⟩ := wb_lo_spec hz0
            rw [wb_i2lz (by omega) s1] at s2
            have s4 : wb_lo (wb_i z).toInt64 < 5 := Int.not_le.mp (fun q => by have := wb_bt_rg (z := z) (k := 5) hz (m := wb_lo (wb_i z).toInt64) (by omega); rw [this] at s2; cases s2)
            refine vi_iload 29 rfl rfl ?_
            refine vi_i2l 30 rfl ?_
            refine vi_S1 31 ok_X11_lowestPlace rfl c_X11_191 rfl ?_
            refine sp_X11_lowestPlace hz0 ?_
            refine vi_goto 32 rfl ?_
            exact vi_ireturn 35 rfl rfl rfl (Nat.zero_le _) (Nat.zero_le _) (by first | (refine hQ2 _ (Or.inr ⟨?_, fun x x1 x2 x3 => ⟨fun _ => Int.not_lt.mp (fun q => ?_), fun q => by omega⟩⟩); (obtain ⟨x, x1, x2, x3, x4⟩ := (hbx _ s1.1 s4).mp s2; exact ⟨x, x1, by omega, x3, x4⟩); (have hv1 := hvr x x1 (by omega); have := s3 _ hv1.1 q; rw [wb_i2lz (by omega) (by omega), (hbx _ hv1.1 (by omega)).mpr ⟨x, x1, by omega, x3, rfl⟩] at this; cases this)) | (refine hQ2 _ (Or.inr ⟨?_, fun x x1 x2 x3 => ⟨fun q => by omega, fun _ => Int.not_lt.mp (fun q => ?_)⟩⟩); (obtain ⟨x, x1, x2, x3, x4⟩ := (hbx _ hp2.1 hp5).mp hpb; exact ⟨x, x1, by omega, x3, x4⟩); (have hv1 := hvr x x1 (by omega); have q' : p < wb_am (wb_vp v x) t := q; have := hp1 _ q' (by omega); rw [(hbx _ hv1.1 (by omega)).mpr ⟨x, x1, by omega, x3, rfl⟩] at this; cases this)))
        · refine vi_bipush 25 rfl (by decide) ?_
          exact vi_ireturn 26 rfl rfl rfl (Nat.zero_le _) (Nat.zero_le _) (hQ2 (-5) (Or.inl ⟨fun x x1 x2 => by cases hF : wb_ft n c s sd sf K 0 0 x with | false => rfl | true => (have := (hbx _ (hvr x x1 x2).1 (by have := hvr x x1 x2; omega)).mpr ⟨x, x1, x2, hF, rfl⟩; rw [show z = 0 by omega, wb_bt0] at this; cases this), rfl⟩))
      · refine vi_if_ne 11 rfl (by omega) (fun c => absurd c (by decide)) (fun _ => ?_)
        refine vi_bipush 12 rfl (by decide) ?_
        exact vi_ireturn 13 rfl rfl rfl (Nat.zero_le _) (Nat.zero_le _) (k2 (by omega) b_18)
    · refine vi_if_ne 5 rfl (by omega) (fun c => absurd c (by decide)) (fun _ => ?_)
      refine vi_iconst 6 rfl ?_
      exact vi_ireturn 7 rfl rfl rfl (Nat.zero_le _) (Nat.zero_le _) (ku (by omega))
  · refine vi_if_eq 2 rfl (by omega) (fun _ => ?_) (fun c => absurd c (by decide))
    refine vi_iconst 6 rfl ?_
    exact vi_ireturn 7 rfl rfl rfl (Nat.zero_le _) (Nat.zero_le _) (ku (by omega))
/-- some fit, or none -/
theorem wb_nx_some {F : Int → Bool} (h : ¬ wb_nx F 0 < 0) : ∃ x, (0 ≤ x ∧ x < 15625) ∧ F x = true := by
  rcases wb_nx_cases F 0 with ⟨h1, h2, h3, h4⟩ | ⟨h1, h2⟩
  · exact ⟨_, ⟨h1, h2⟩, h3⟩
  · omega
theorem wb_nx_none {F : Int → Bool} (h : wb_nx F 0 < 0) : ∀ x, 0 ≤ x → x < 15625 → F x = false := by
  rcases wb_nx_cases F 0 with ⟨h1, h2, h3, h4⟩ | ⟨h1, h2⟩
  · omega
  · exact h2
theorem wb_nx0_rg (F : Int → Bool) : -1 ≤ wb_nx F 0 ∧ wb_nx F 0 < 15625 := by
  rcases wb_nx_cases F 0 with ⟨h1, h2, h3, h4⟩ | ⟨h1, h2⟩ <;> omega
theorem sp_X11_must {h : Int} (hx3 : wb_X3 w) (hbk : wb_Bk w 4 n c s sd sf bo tu g) (hR : wb_BR n c s sd sf) (hK : wb_rp g K) (htu : 1 ≤ tu) (hI : wb_In w n c s sd sf tu K wt) (hh : -2147483648 ≤ h ∧ h ≤ 2147483647)
    (k2 : ¬ (0 ≤ h ∧ h ≤ 1) → Q (some (.int (wb_i (-2)))) N w) (k5 : ∀ (w' : wb_W), (0 ≤ h ∧ h ≤ 1) → (∀ x, 0 ≤ x → x < 15625 → wb_ft n c s sd sf K 0 0 x = false) → wb_In w' n c s sd sf tu K tu → (∀ k, (k < 29 ∨ 96 ≤ k) → w' k = w k) → Q (some (.int (wb_i (-5)))) N w')
    (k1 : ∀ (w' : wb_W) (r : Int), (0 ≤ h ∧ h ≤ 1) → (∃ x, (0 ≤ x ∧ x < 15625) ∧ wb_ft n c s sd sf K 0 0 x = true) → wb_mu (wb_ft n c s sd sf K 0 0) h r → wb_In w' n c s sd sf tu K tu → (∀ k, (k < 29 ∨ 96 ≤ k) → w' k = w k) → Q (some (.int (wb_i r))) N w') : wb_M G M_X11_must [.ref 3, .int (wb_i h)] N w Q := by
  unfold wb_M
  obtain ⟨fs29, h29⟩ := hI.r29
  have hnr := wb_nx0_rg (wb_ft n c s sd sf K 0 0)
  refine vi_iload_n 0 rfl rfl ?_
  refine vi_iconst 1 rfl ?_
  refine vi_S2 2 ok_X11_within rfl c_X11_67 rfl ?_
  refine sp_X11_within (by omega) (by omega) (fun b_2 => ?_) (fun b_2 => ?_)
  · refine vi_if_ne 3 rfl (by omega) (fun _ => ?_) (fun c => absurd c (by decide))
    refine vi_aload_n 6 rfl rfl ?_
    refine vi_get 7 rfl f_X11_36 hx3 rfl rfl ?_
    refine vi_V0 8 ok_X10_update rfl c_X11_174 h29 rfl rfl ?_
    refine wb_updI hbk hR hK htu hI (fun w2 hI2 hf2 => ?_)
    have x2 : wb_X3 w2 := (hf2 3 (by omega)).trans hx3
    obtain ⟨hl, ct, mt, hwk⟩ := hI2.wk
    obtain ⟨-, -, hmd, -⟩ := hwk.2.2.2.2.2.2.2 rfl
    have hwo := hwk.1
    refine vi_aload_n 9 rfl rfl ?_
    refine vi_get 10 rfl f_X11_36 x2 rfl rfl ?_
    refine vi_V0 11 ok_X10_first rfl c_X11_198 hwo.1 rfl rfl ?_
    refine sp_X10_first hwk ?_
    refine vi_if_ge 12 rfl (by omega) (fun c_25 => ?_) (fun c_25 => ?_)
    · obtain ⟨x0, hx0, hF0⟩ := wb_nx_some (F := wb_ft n c s sd sf K 0 0) (by omega)
      refine vi_iload_n 15 rfl rfl ?_
      refine vi_if_ne 16 rfl (by omega) (fun c_32 => ?_) (fun c_32 => ?_)
      · refine vi_aload_n 21 rfl rfl ?_
        refine vi_get 22 rfl f_X11_36 x2 rfl rfl ?_
        refine vi_V0 23 ok_X10_inNone rfl c_X11_204 hwo.1 rfl rfl ?_
        refine sp_X10_inNone hwo hmd (fun z hz hbN => ?_)
        exact vi_ireturn 24 rfl rfl rfl (Nat.zero_le _) (Nat.zero_le _) (by first | exact k1 w2 z b_2 ⟨x0, hx0, hF0⟩ (wb_mu1 hx0 hF0 (by omega) hz hbN) hI2 (fun k hk => hf2 k (by omega)) | exact k1 w2 z b_2 ⟨x0, hx0, hF0⟩ (by rw [show h = 0 by omega]; exact wb_mu0 hz hbE) hI2 (fun k hk => hf2 k (by omega)))
      · refine vi_aload_n 17 rfl rfl ?_
        refine vi_get 18 rfl f_X11_36 x2 rfl rfl ?_
        refine vi_V0 19 ok_X10_inEvery rfl c_X11_201 hwo.1 rfl rfl ?_
        refine sp_X10_inEvery hwo hmd (fun z hz hbE => ?_)
        refine vi_goto 20 rfl ?_
        exact vi_ireturn 24 rfl rfl rfl (Nat.zero_le _) (Nat.zero_le _) (by first | exact k1 w2 z b_2 ⟨x0, hx0, hF0⟩ (wb_mu1 hx0 hF0 (by omega) hz hbN) hI2 (fun k hk => hf2 k (by omega)) | exact k1 w2 z b_2 ⟨x0, hx0, hF0⟩ (by rw [show h = 0 by omega]; exact wb_mu0 hz hbE) hI2 (fun k hk => hf2 k (by omega)))
    · refine vi_bipush 13 rfl (by decide) ?_
      exact vi_ireturn 14 rfl rfl rfl (Nat.zero_le _) (Nat.zero_le _) (k5 w2 b_2 (wb_nx_none (by omega)) hI2 (fun k hk => hf2 k (by omega)))
  · refine vi_if_ne 3 rfl (by omega) (fun c => absurd c (by decide)) (fun _ => ?_)
    refine vi_bipush 4 rfl (by decide) ?_
    exact vi_ireturn 5 rfl rfl rfl (Nat.zero_le _) (Nat.zero_le _) (k2 b_2)
theorem sp_X11_plain {h : Int} (hx3 : wb_X3 w) (hbk : wb_Bk w 4 n c s sd sf bo tu g) (hR : wb_BR n c s sd sf) (hK : wb_rp g K) (htu : 1 ≤ tu) (hI : wb_In w n c s sd sf tu K wt) (hh : -2147483648 ≤ h ∧ h ≤ 2147483647)
    (k2 : ¬ (0 ≤ h ∧ h ≤ 1) → Q (some (.int (wb_i (-2)))) N w) (k1 : ∀ (w' : wb_W) (r : Int), (0 ≤ h ∧ h ≤ 1) → wb_pl (wb_ft n c s sd sf K 0 0) r → wb_In w' n c s sd sf tu K tu → (∀ k, (k < 29 ∨ 96 ≤ k) → w' k = w k) → Q (some (.int (wb_i (if r < 0 then -5 else if h = 0 then r else wb_tt r)))) N w') : wb_M G M_X11_plain [.ref 3, .int (wb_i h)] N w Q := by
  unfold wb_M
  obtain ⟨fs29, h29⟩ := hI.r29
  refine vi_iload_n 0 rfl rfl ?_
  refine vi_iconst 1 rfl ?_
  refine vi_S2 2 ok_X11_within rfl c_X11_67 rfl ?_
  refine sp_X11_within (by omega) (by omega) (fun b_2 => ?_) (fun b_2 => ?_)
  · refine vi_if_ne 3 rfl (by omega) (fun _ => ?_) (fun c => absurd c (by decide))
    refine vi_aload_n 6 rfl rfl ?_
    refine vi_get 7 rfl f_X11_36 hx3 rfl rfl ?_
    refine vi_V0 8 ok_X10_update rfl c_X11_174 h29 rfl rfl ?_
    refine wb_updI hbk hR hK htu hI (fun w2 hI2 hf2 => ?_)
    have x2 : wb_X3 w2 := (hf2 3 (by omega)).trans hx3
    obtain ⟨hl, ct, mt, hwk⟩ := hI2.wk
    obtain ⟨-, ⟨g5, h38, hrp⟩, -, -⟩ := hwk.2.2.2.2.2.2.2 rfl
    have hwo := hwk.1
    refine vi_aload_n 9 rfl rfl ?_
    refine vi_get 10 rfl f_X11_36 x2 rfl rfl ?_
    refine vi_V0 11 ok_X10_plainest rfl c_X11_207 hwo.1 rfl rfl ?_
    refine sp_X10_plainest hwo h38 hrp (fun r hr => ?_)
    have hrr : -1 ≤ r ∧ r < 15625 := (by rcases hr with ⟨a, _⟩ | ⟨a, _⟩ <;> omega)
    have hQ2 := k1 w2 r b_2 hr hI2 (fun k hk => hf2 k (by omega))
    refine vi_istore_n 12 rfl rfl ?_
    refine vi_iload_n 13 rfl rfl ?_
    refine vi_if_ge 14 rfl (by omega) (fun c_27 => ?_) (fun c_27 => ?_)
    · refine vi_iload_n 17 rfl rfl ?_
      refine vi_if_ne 18 rfl (by omega) (fun c_34 => ?_) (fun c_34 => ?_)
      · refine vi_iload_n 21 rfl rfl ?_
        refine vi_bipush 22 rfl (by decide) ?_
        refine vi_idiv 23 rfl (by omega) (by omega) ?_
        refine vi_S1 24 ok_X11_thingsInPart rfl c_X11_210 rfl ?_
        refine sp_X11_thingsInPart (by omega) ?_
        refine vi_iload_n 25 rfl rfl ?_
        refine vi_bipush 26 rfl (by decide) ?_
        refine vi_irem 27 rfl (by omega) (by omega) ?_
        refine vi_S1 28 ok_X11_thingsInPart rfl c_X11_210 rfl ?_
        refine sp_X11_thingsInPart (by omega) ?_
        refine vi_iadd 29 rfl ?_
        exact vi_ireturn 30 rfl rfl rfl (Nat.zero_le _) (Nat.zero_le _) (by first | (rw [if_neg (by omega), if_pos (by omega)] at hQ2; exact hQ2) | (rw [if_neg (by omega), if_neg (by omega)] at hQ2; exact hQ2))
      · refine vi_iload_n 19 rfl rfl ?_
        refine vi_goto 20 rfl ?_
        exact vi_ireturn 30 rfl rfl rfl (Nat.zero_le _) (Nat.zero_le _) (by first | (rw [if_neg (by omega), if_pos (by omega)] at hQ2; exact hQ2) | (rw [if_neg (by omega), if_neg (by omega)] at hQ2; exact hQ2))
    · refine vi_bipush 15 rfl (by decide) ?_
      exact vi_ireturn 16 rfl rfl rfl (Nat.zero_le _) (Nat.zero_le _) (by rw [if_pos (by omega)] at hQ2; exact hQ2)
  · refine vi_if_ne 3 rfl (by omega) (fun c => absurd c (by decide)) (fun _ => ?_)
    refine vi_bipush 4 rfl (by decide) ?_
    exact vi_ireturn 5 rfl rfl rfl (Nat.zero_le _) (Nat.zero_le _) (k2 b_2)
theorem sp_X11_near {h : Int} (hx3 : wb_X3 w) (hbk : wb_Bk w 4 n c s sd sf bo tu g) (hR : wb_BR n c s sd sf) (hK : wb_rp g K) (htu : 1 ≤ tu) (hI : wb_In w n c s sd sf tu K wt) (hh : -2147483648 ≤ h ∧ h ≤ 2147483647)
    (k2 : ¬ (0 ≤ h ∧ h ≤ 1) → Q (some (.int (wb_i (-2)))) N w) (k1 : ∀ (w' : wb_W) (nb nf : Int), (0 ≤ h ∧ h ≤ 1) → wb_nr n c s sd sf K nb nf → wb_In w' n c s sd sf tu K tu → (∀ k, (k < 29 ∨ 96 ≤ k) → w' k = w k) → Q (some (.int (wb_i (if nf < 0 then -5 else if h = 0 then nb else nf)))) N w') : wb_M G M_X11_near [.ref 3, .int (wb_i h)] N w Q := by
  unfold wb_M
  obtain ⟨fs29, h29⟩ := hI.r29
  refine vi_iload_n 0 rfl rfl ?_
  refine vi_iconst 1 rfl ?_
  refine vi_S2 2 ok_X11_within rfl c_X11_67 rfl ?_
  refine sp_X11_within (by omega) (by omega) (fun b_2 => ?_) (fun b_2 => ?_)
  · refine vi_if_ne 3 rfl (by omega) (fun _ => ?_) (fun c => absurd c (by decide))
    refine vi_aload_n 6 rfl rfl ?_
    refine vi_get 7 rfl f_X11_36 hx3 rfl rfl ?_
    refine vi_V0 8 ok_X10_update rfl c_X11_174 h29 rfl rfl ?_
    refine wb_updI hbk hR hK htu hI (fun w2 hI2 hf2 => ?_)
    have x2 : wb_X3 w2 := (hf2 3 (by omega)).trans hx3
    obtain ⟨⟨hl, ct, mt, hwk⟩, ⟨nt, nb, nf, dt, db, df, hse, a2, a3, a4, a5⟩, hIB, hIW⟩ := hI2
    have hbk2 : wb_Bk w2 4 n c s sd sf bo tu g := hbk.fr (fun k p1 p2 => hf2 k (by omega))
    refine vi_aload_n 9 rfl rfl ?_
    refine vi_get 10 rfl f_X11_45 x2 rfl rfl ?_
    refine vi_V0 11 ok_X7_seekNear rfl c_X11_213 hse rfl rfl ?_
    refine sp_X7_seekNear hse hbk2 hR hK htu hwk a2 a3 (fun w3 nb3 nf3 mt3 hnr hse3 hwk3 hf3 => ?_)
    have x3 : wb_X3 w3 := (hf3 3 (by omega)).trans x2
    have hI3 : wb_In w3 n c s sd sf tu K tu := ⟨⟨hl, ct, mt3, hwk3⟩, ⟨tu, nb3, nf3, dt, db, df, hse3, by omega, fun _ => hnr, a4, a5⟩, hIB.fr (by omega) (fun k p1 p2 => hf3 k (by omega)), hIW.fr (by omega) (fun k p1 p2 => hf3 k (by omega))⟩
    have hQ2 := k1 w3 nb3 nf3 b_2 hnr hI3 (fun k hk => (hf3 k (by omega)).trans (hf2 k (by omega)))
    have hnfr : -1 ≤ nf3 ∧ nf3 < 15625 := (by rcases hnr with ⟨z, _⟩ | ⟨_, z, _⟩; omega; (rw [z]; exact wb_nf_rg))
    refine vi_aload_n 12 rfl rfl ?_
    refine vi_get 13 rfl f_X11_45 x3 rfl rfl ?_
    refine vi_get 14 rfl f_X11_216 hse3 rfl rfl ?_
    refine vi_if_ge 15 rfl (by omega) (fun c_32 => ?_) (fun c_32 => ?_)
    · refine vi_iload_n 18 rfl rfl ?_
      refine vi_if_ne 19 rfl (by omega) (fun c_39 => ?_) (fun c_39 => ?_)
      · refine vi_aload_n 24 rfl rfl ?_
        refine vi_get 25 rfl f_X11_45 x3 rfl rfl ?_
        refine vi_get 26 rfl f_X11_216 hse3 rfl rfl ?_
        exact vi_ireturn 27 rfl rfl rfl (Nat.zero_le _) (Nat.zero_le _) (by first | (rw [if_neg (by omega), if_pos (by omega)] at hQ2; exact hQ2) | (rw [if_neg (by omega), if_neg (by omega)] at hQ2; exact hQ2))
      · refine vi_aload_n 20 rfl rfl ?_
        refine vi_get 21 rfl f_X11_45 x3 rfl rfl ?_
        refine vi_get 22 rfl f_X11_219 hse3 rfl rfl ?_
        refine vi_goto 23 rfl ?_
        exact vi_ireturn 27 rfl rfl rfl (Nat.zero_le _) (Nat.zero_le _) (by first | (rw [if_neg (by omega), if_pos (by omega)] at hQ2; exact hQ2) | (rw [if_neg (by omega), if_neg (by omega)] at hQ2; exact hQ2))
    · refine vi_bipush 16 rfl (by decide) ?_
      exact vi_ireturn 17 rfl rfl rfl (Nat.zero_le _) (Nat.zero_le _) (by rw [if_pos (by omega)] at hQ2; exact hQ2)
  · refine vi_if_ne 3 rfl (by omega) (fun c => absurd c (by decide)) (fun _ => ?_)
    refine vi_bipush 4 rfl (by decide) ?_
    exact vi_ireturn 5 rfl rfl rfl (Nat.zero_le _) (Nat.zero_le _) (k2 b_2)
theorem sp_X11_doubt {h : Int} (hx3 : wb_X3 w) (hbk : wb_Bk w 4 n c s sd sf bo tu g) (hR : wb_BR n c s sd sf) (hK : wb_rp g K) (htu : 1 ≤ tu) (hI : wb_In w n c s sd sf tu K wt) (hh : -2147483648 ≤ h ∧ h ≤ 2147483647)
    (k2 : ¬ (0 ≤ h ∧ h ≤ 1) → Q (some (.int (wb_i (-2)))) N w) (k1 : ∀ (w' : wb_W) (db df : Int), (0 ≤ h ∧ h ≤ 1) → wb_dn n c s sd sf K db df → wb_In w' n c s sd sf tu K tu → (∀ k, (k < 29 ∨ 96 ≤ k) → w' k = w k) → Q (some (.int (wb_i (if df < 0 then -5 else if h = 0 then db else df)))) N w') : wb_M G M_X11_doubt [.ref 3, .int (wb_i h)] N w Q := by
  unfold wb_M
  obtain ⟨fs29, h29⟩ := hI.r29
  refine vi_iload_n 0 rfl rfl ?_
  refine vi_iconst 1 rfl ?_
  refine vi_S2 2 ok_X11_within rfl c_X11_67 rfl ?_
  refine sp_X11_within (by omega) (by omega) (fun b_2 => ?_) (fun b_2 => ?_)
  · refine vi_if_ne 3 rfl (by omega) (fun _ => ?_) (fun c => absurd c (by decide))
    refine vi_aload_n 6 rfl rfl ?_
    refine vi_get 7 rfl f_X11_36 hx3 rfl rfl ?_
    refine vi_V0 8 ok_X10_update rfl c_X11_174 h29 rfl rfl ?_
    refine wb_updI hbk hR hK htu hI (fun w2 hI2 hf2 => ?_)
    have x2 : wb_X3 w2 := (hf2 3 (by omega)).trans hx3
    obtain ⟨⟨hl, ct, mt, hwk⟩, ⟨nt, nb, nf, dt, db, df, hse, a2, a3, a4, a5⟩, hIB, hIW⟩ := hI2
    have hbk2 : wb_Bk w2 4 n c s sd sf bo tu g := hbk.fr (fun k p1 p2 => hf2 k (by omega))
    refine vi_aload_n 9 rfl rfl ?_
    refine vi_get 10 rfl f_X11_45 x2 rfl rfl ?_
    refine vi_V0 11 ok_X7_seekDoubt rfl c_X11_222 hse rfl rfl ?_
    refine sp_X7_seekDoubt hse hbk2 hR hK htu hwk a4 a5 (fun w3 db3 df3 mt3 hnr hse3 hwk3 hf3 => ?_)
    have x3 : wb_X3 w3 := (hf3 3 (by omega)).trans x2
    have hI3 : wb_In w3 n c s sd sf tu K tu := ⟨⟨hl, ct, mt3, hwk3⟩, ⟨nt, nb, nf, tu, db3, df3, hse3, a2, a3, by omega, fun _ => hnr⟩, hIB.fr (by omega) (fun k p1 p2 => hf3 k (by omega)), hIW.fr (by omega) (fun k p1 p2 => hf3 k (by omega))⟩
    have hQ2 := k1 w3 db3 df3 b_2 hnr hI3 (fun k hk => (hf3 k (by omega)).trans (hf2 k (by omega)))
    have hnfr : -1 ≤ df3 ∧ df3 < 15625 := (by rcases hnr with ⟨z, _⟩ | ⟨_, _, z, _⟩; omega; (rw [z]; exact wb_nf_rg))
    refine vi_aload_n 12 rfl rfl ?_
    refine vi_get 13 rfl f_X11_45 x3 rfl rfl ?_
    refine vi_get 14 rfl f_X11_225 hse3 rfl rfl ?_
    refine vi_if_ge 15 rfl (by omega) (fun c_32 => ?_) (fun c_32 => ?_)
    · refine vi_iload_n 18 rfl rfl ?_
      refine vi_if_ne 19 rfl (by omega) (fun c_39 => ?_) (fun c_39 => ?_)
      · refine vi_aload_n 24 rfl rfl ?_
        refine vi_get 25 rfl f_X11_45 x3 rfl rfl ?_
        refine vi_get 26 rfl f_X11_225 hse3 rfl rfl ?_
        exact vi_ireturn 27 rfl rfl rfl (Nat.zero_le _) (Nat.zero_le _) (by first | (rw [if_neg (by omega), if_pos (by omega)] at hQ2; exact hQ2) | (rw [if_neg (by omega), if_neg (by omega)] at hQ2; exact hQ2))
      · refine vi_aload_n 20 rfl rfl ?_
        refine vi_get 21 rfl f_X11_45 x3 rfl rfl ?_
        refine vi_get 22 rfl f_X11_228 hse3 rfl rfl ?_
        refine vi_goto 23 rfl ?_
        exact vi_ireturn 27 rfl rfl rfl (Nat.zero_le _) (Nat.zero_le _) (by first | (rw [if_neg (by omega), if_pos (by omega)] at hQ2; exact hQ2) | (rw [if_neg (by omega), if_neg (by omega)] at hQ2; exact hQ2))
    · refine vi_bipush 16 rfl (by decide) ?_
      exact vi_ireturn 17 rfl rfl rfl (Nat.zero_le _) (Nat.zero_le _) (by rw [if_pos (by omega)] at hQ2; exact hQ2)
  · refine vi_if_ne 3 rfl (by omega) (fun c => absurd c (by decide)) (fun _ => ?_)
    refine vi_bipush 4 rfl (by decide) ?_
    exact vi_ireturn 5 rfl rfl rfl (Nat.zero_le _) (Nat.zero_le _) (k2 b_2)
end WBS51
