/-! ===== amounts, pairs, prices, the plainest ===== -/
theorem wb_or0 (z : Int) : wb_i z ||| wb_i 0 = wb_i z := by
  rw [show wb_i 0 = 0 from rfl, Int32.or_zero]
theorem wb_and1 (x : Int) : wb_i x &&& wb_i 1 = wb_i (x % 2) := by
  rw [pk_and (wb_i x) (m := wb_i 1) 1 (by decide +kernel), wb_i_bv]
  rw [show (x % 2) = (((x % 4294967296).toNat % 2 ^ 1 : Nat) : Int) by omega, wb_i_nat]
theorem wb_bt_z0 {z : Int} (hz : 0 ≤ z) : wb_bt z 0 = decide (z % 2 = 1) := by
  unfold wb_bt
  rw [show (0 : Int).toNat = 0 from rfl, Nat.testBit_zero]
  exact decide_eq_decide.mpr (by omega)
theorem wb_bt_ext {z y : Int} {k : Nat} (hz : 0 ≤ z ∧ z < (2 ^ k : Nat)) (hy : 0 ≤ y ∧ y < (2 ^ k : Nat)) (h : ∀ j : Int, 0 ≤ j → j < k → wb_bt z j = wb_bt y j) : z = y := by
  have : z.toNat = y.toNat := by
    apply Nat.eq_of_testBit_eq
    intro i
    by_cases hi : i < k
    · have := h i (by omega) (by omega)
      unfold wb_bt at this
      rwa [show ((i : Nat) : Int).toNat = i by omega] at this
    · have a := wb_bt_rg (z := z) (k := k) hz (m := i) (by omega)
      have b := wb_bt_rg (z := y) (k := k) hy (m := i) (by omega)
      unfold wb_bt at a b
      rw [show ((i : Nat) : Int).toNat = i by omega] at a b
      rw [a, b]
  omega
/-- the least or most of what holds -/
def wb_ef (P : Int → Bool) (e : Int) (f : Int → Int) : Nat → Int
  | 0 => -1
  | k + 1 => if P k then wb_eo e (wb_ef P e f k) (f k) else wb_ef P e f k
theorem wb_ef_rg {P : Int → Bool} {e : Int} {f : Int → Int} {B : Int} (hB : 0 ≤ B) : ∀ k : Nat, (∀ j : Int, 0 ≤ j → j < k → 0 ≤ f j ∧ f j ≤ B) → -1 ≤ wb_ef P e f k ∧ wb_ef P e f k ≤ B := by
  intro k
  induction k with
  | zero => intro _; simp [wb_ef]; omega
  | succ k ih =>
    intro hf
    have i1 := ih (fun j h1 h2 => hf j h1 (by omega))
    have i2 := hf (k : Int) (by omega) (by omega)
    unfold wb_ef wb_eo
    split
    · split
      · omega
      · split <;> split <;> omega
    · exact i1
/-- v is the least (or most) of f over a set -/
def wb_bs (P : Int → Bool) (e : Int) (f : Int → Int) (n : Nat) (v : Int) : Prop := (∃ x : Int, 0 ≤ x ∧ x < n ∧ P x = true ∧ f x = v) ∧ ∀ x : Int, 0 ≤ x → x < n → P x = true → (e = 0 → v ≤ f x) ∧ (e ≠ 0 → f x ≤ v)
theorem wb_bs_eq {P : Int → Bool} {e : Int} {f : Int → Int} {n : Nat} {v v' : Int} (h : wb_bs P e f n v) (h' : wb_bs P e f n v') : v = v' := by
  obtain ⟨⟨x, x1, x2, x3, x4⟩, hx⟩ := h
  obtain ⟨⟨y, y1, y2, y3, y4⟩, hy⟩ := h'
  have a := hx y y1 y2 y3
  have b := hy x x1 x2 x3
  by_cases he : e = 0
  · have := a.1 he; have := b.1 he; omega
  · have := a.2 he; have := b.2 he; omega
theorem wb_ef_bs {P : Int → Bool} {e : Int} {f : Int → Int} : ∀ k : Nat, (∀ j : Int, 0 ≤ j → j < k → 0 ≤ f j) → ((∀ j : Int, 0 ≤ j → j < k → P j = false) ∧ wb_ef P e f k = -1) ∨ (0 ≤ wb_ef P e f k ∧ wb_bs P e f k (wb_ef P e f k)) := by
  intro k
  induction k with
  | zero => intro _; left; exact ⟨fun j h1 h2 => by omega, rfl⟩
  | succ k ih =>
    intro hf
    have hfk := hf k (by omega) (by omega)
    have i1 := ih (fun j h1 h2 => hf j h1 (by omega))
    rw [wb_ef]
    by_cases hP : P k = true
    · rw [if_pos hP]
      right
      rcases i1 with ⟨h1, h2⟩ | ⟨h0, ⟨x, x1, x2, x3, x4⟩, h2⟩
      · rw [h2]
        refine ⟨by unfold wb_eo; rw [if_pos (by omega)]; exact hfk, ⟨k, by omega, by omega, hP, by unfold wb_eo; rw [if_pos (by omega)]⟩, fun y y1 y2 y3 => ?_⟩
        by_cases hy : y = k
        · subst hy; unfold wb_eo; rw [if_pos (by omega)]; exact ⟨fun _ => Int.le_refl _, fun _ => Int.le_refl _⟩
        · rw [h1 y y1 (by omega)] at y3; cases y3
      · have heo : wb_eo e (wb_ef P e f k) (f k) = if e = 0 then (if f k < wb_ef P e f k then f k else wb_ef P e f k) else (if wb_ef P e f k < f k then f k else wb_ef P e f k) := by unfold wb_eo; rw [if_neg (by omega)]
        rw [heo]
        refine ⟨by split <;> split <;> omega, ?_, fun y y1 y2 y3 => ?_⟩
        · by_cases hc : (if e = 0 then (if f k < wb_ef P e f k then f k else wb_ef P e f k) else (if wb_ef P e f k < f k then f k else wb_ef P e f k)) = f k
          · rw [hc]; exact ⟨k, by omega, by omega, hP, rfl⟩
          · refine ⟨x, x1, by omega, x3, ?_⟩
            rw [x4]; revert hc; split <;> split <;> omega
        · by_cases hy : y = k
          · subst hy; constructor <;> intro he
            · rw [if_pos he]; split <;> omega
            · rw [if_neg he]; split <;> omega
          · have := h2 y y1 (by omega) y3
            constructor <;> intro he
            · have := this.1 he; rw [if_pos he]; split <;> omega
            · have := this.2 he; rw [if_neg he]; split <;> omega
    · rw [if_neg hP]
      have hP' : P k = false := by simpa using hP
      rcases i1 with ⟨h1, h2⟩ | ⟨h0, ⟨x, x1, x2, x3, x4⟩, h2⟩
      · left
        refine ⟨fun j j1 j2 => ?_, h2⟩
        by_cases hj : j = k
        · rw [hj]; exact hP'
        · exact h1 j j1 (by omega)
      · right
        refine ⟨h0, ⟨x, x1, by omega, x3, x4⟩, fun y y1 y2 y3 => ?_⟩
        by_cases hy : y = k
        · rw [hy, hP'] at y3; cases y3
        · exact h2 y y1 (by omega) y3
theorem wb_en_ef {z e : Int} {f : Int → Int} : ∀ k : Nat, wb_en z e f k = wb_ef (wb_bt z) e f k := by
  intro k
  induction k with
  | zero => rfl
  | succ k ih => rw [wb_en, wb_ef, ih]
section WBS38
variable {G : wb_G} {N : Nat} {w : wb_W} {Q : Option Value → Nat → wb_W → Prop}
variable {n : Int} {c s : Int → Int} {sd sf bo tu : Int} {g : Int → Int64} {F : Int → Bool} {hl wt ct mt : Int}
theorem sp_X10_amounts {v t : Int} (hwo : wb_Wo w hl wt ct mt) (hmd : wb_Md w F) (hv : 0 ≤ v ∧ v < 2) (ht : 0 ≤ t ∧ t < 3)
    (hQ : ∀ z : Int, (0 ≤ z ∧ z < (2 ^ 5 : Nat)) → (∀ a, 0 ≤ a → a < 5 → wb_bt z a = wb_ex (fun p => wb_mw F v p && decide (wb_am p t = a)) 125) → Q (some (.int (wb_i z))) N w) : wb_M G M_X10_amounts [.ref 29, .int (wb_i v), .int (wb_i t)] N w Q := by
  unfold wb_M
  obtain ⟨ml, mh, e1, e2, hw2⟩ := hmd
  have hpt := hwo.2.2
  have hpt' := hpt
  obtain ⟨_, _, _, _, p0, -⟩ := hpt'
  have hv2 := hw2 v hv.1 hv.2
  have lp : ∀ i, i ≤ 5 → ∀ z : Int, 0 ≤ i → (0 ≤ z ∧ z < (2 ^ 5 : Nat)) → (∀ a, 0 ≤ a → a < 5 → wb_bt z a = (decide (a < i) && wb_ex (fun p => wb_mw F v p && decide (wb_am p t = a)) 125)) → wb_V G M_X10_amounts 5 [(0, .ref 29), (1, .int (wb_i v)), (2, .int (wb_i t)), (3, .int (wb_i z)), (4, .int (wb_i i))] [] N w 0 0 Q := by
    refine wb_up 5 _ ?_
    intro i ih hi z hi0 hz hb
    refine vi_iload_n 4 rfl rfl ?_
    refine vi_S1 5 ok_X11_isWare rfl c_X10_155 rfl ?_
    refine sp_X11_isWare (by omega) (fun b_6 => ?_) (fun b_6 => ?_)
    · refine vi_if_eq 6 rfl (by omega) (fun c => absurd c (by decide)) (fun _ => ?_)
      refine vi_iload 7 rfl rfl ?_
      refine vi_iconst 8 rfl ?_
      refine vi_icmp_ge 9 rfl (by omega) (by omega) (fun c_15 => ?_) (fun c_15 => ?_)
      · refine vi_iload_n 48 rfl rfl ?_
        exact vi_ireturn 49 rfl rfl rfl (Nat.zero_le _) (Nat.zero_le _) (hQ z hz (fun a a1 a2 => by rw [hb a a1 a2, decide_eq_true (show a < i by omega), Bool.true_and]))
      · refine vi_aload_n 10 rfl rfl ?_
        refine vi_get 11 rfl f_X10_35 hwo.1 rfl rfl ?_
        refine vi_iload_n 12 rfl rfl ?_
        refine vi_lald 13 rfl e1 (by omega) ?_
        refine vi_aload_n 14 rfl rfl ?_
        refine vi_get 15 rfl f_X10_12 hwo.1 rfl rfl ?_
        refine vi_iload_n 16 rfl rfl ?_
        refine vi_iload 17 rfl rfl ?_
        refine vi_V2 18 ok_X6_lowWith rfl c_X10_158 p0 rfl rfl ?_
        refine sp_X6_lowWith ‹_› (by omega) (by omega) (fun v_31 hv_31 => ?_)
        refine vi_land 19 rfl ?_
        refine vi_lstore 20 rfl rfl ?_
        refine vi_aload_n 21 rfl rfl ?_
        refine vi_get 22 rfl f_X10_39 hwo.1 rfl rfl ?_
        refine vi_iload_n 23 rfl rfl ?_
        refine vi_lald 24 rfl e2 (by omega) ?_
        refine vi_aload_n 25 rfl rfl ?_
        refine vi_get 26 rfl f_X10_12 hwo.1 rfl rfl ?_
        refine vi_iload_n 27 rfl rfl ?_
        refine vi_iload 28 rfl rfl ?_
        refine vi_V2 29 ok_X6_highWith rfl c_X10_162 p0 rfl rfl ?_
        refine sp_X6_highWith ‹_› (by omega) (by omega) (fun v_50 hv_50 => ?_)
        refine vi_land 30 rfl ?_
        refine vi_lstore 31 rfl rfl ?_
        have hne := wb_w2_ne (wb_w2_and hv2 (⟨hv_31, hv_50⟩ : wb_w2 v_31 v_50 (fun p => decide (wb_am p t = i))))
        refine vi_iload_n 32 rfl rfl ?_
        refine vi_lload 33 rfl rfl ?_
        refine vi_lload 34 rfl rfl ?_
        refine vi_lor 35 rfl ?_
        refine vi_lconst 36 rfl ?_
        refine vi_lcmp 37 rfl ?_
        refine vi_if_eq32 38 rfl  (fun c_64 => ?_) (fun c_64 => ?_)
        · refine vi_iconst 43 rfl ?_
          refine vi_ior 44 rfl ?_
          first | rw [wb_or1 (by omega) (by omega)] | rw [wb_or0]
          refine vi_istore_n 45 rfl rfl ?_
          refine vi_iinc 46 rfl rfl rfl ?_
          refine vi_goto 47 rfl ?_
          first | (have hex := hne.mp ((wb_cmp0 _).mp c_64); exact vi_lc (ih (i + 1) (by omega) (by omega) z (by omega) hz (fun a a1 a2 => by rw [hb a a1 a2]; (by_cases ha : a = i); (rw [ha, hex]; simp); (rw [show decide (a < i + 1) = decide (a < i) from decide_eq_decide.mpr (by omega)]))) ⟨rfl, rfl, rfl, rfl, rfl, trivial⟩) | (have hex : wb_ex (fun p => wb_mw F v p && decide (wb_am p t = i)) 125 = true := (by cases h : wb_ex (fun p => wb_mw F v p && decide (wb_am p t = i)) 125 with | true => rfl | false => exact absurd ((wb_cmp0 _).mpr (hne.mpr h)) c_64); exact vi_lc (ih (i + 1) (by omega) (by omega) _ (by omega) (wb_ad1_rg hz (by omega)) (fun a a1 a2 => by rw [wb_ad1_bt a hi0 a1, hb a a1 a2]; (by_cases ha : a = i); (rw [ha, hex]; simp; omega); (rw [show decide (a < i + 1) = decide (a < i) from decide_eq_decide.mpr (by omega)]; simp [ha]))) ⟨rfl, rfl, rfl, rfl, rfl, trivial⟩)
        · refine vi_iconst 39 rfl ?_
          refine vi_iload 40 rfl rfl ?_
          refine vi_ishl 41 rfl ?_
          refine vi_goto 42 rfl ?_
          refine vi_ior 44 rfl ?_
          first | rw [wb_or1 (by omega) (by omega)] | rw [wb_or0]
          refine vi_istore_n 45 rfl rfl ?_
          refine vi_iinc 46 rfl rfl rfl ?_
          refine vi_goto 47 rfl ?_
          first | (have hex := hne.mp ((wb_cmp0 _).mp c_64); exact vi_lc (ih (i + 1) (by omega) (by omega) z (by omega) hz (fun a a1 a2 => by rw [hb a a1 a2]; (by_cases ha : a = i); (rw [ha, hex]; simp); (rw [show decide (a < i + 1) = decide (a < i) from decide_eq_decide.mpr (by omega)]))) ⟨rfl, rfl, rfl, rfl, rfl, trivial⟩) | (have hex : wb_ex (fun p => wb_mw F v p && decide (wb_am p t = i)) 125 = true := (by cases h : wb_ex (fun p => wb_mw F v p && decide (wb_am p t = i)) 125 with | true => rfl | false => exact absurd ((wb_cmp0 _).mpr (hne.mpr h)) c_64); exact vi_lc (ih (i + 1) (by omega) (by omega) _ (by omega) (wb_ad1_rg hz (by omega)) (fun a a1 a2 => by rw [wb_ad1_bt a hi0 a1, hb a a1 a2]; (by_cases ha : a = i); (rw [ha, hex]; simp; omega); (rw [show decide (a < i + 1) = decide (a < i) from decide_eq_decide.mpr (by omega)]; simp [ha]))) ⟨rfl, rfl, rfl, rfl, rfl, trivial⟩)
    · exfalso
      omega
  refine vi_iconst 0 rfl ?_
  refine vi_istore_n 1 rfl rfl ?_
  refine vi_iconst 2 rfl ?_
  refine vi_istore 3 rfl rfl ?_
  exact vi_lc (lp 0 (by omega) 0 (by omega) (by omega) (fun a a1 a2 => by rw [wb_bt0, decide_eq_false (by omega)]; rfl)) ⟨rfl, rfl, rfl, rfl, rfl, trivial⟩
theorem sp_X10_inEvery (hwo : wb_Wo w hl wt ct mt) (hmd : wb_Md w F)
    (hQ : ∀ z : Int, (0 ≤ z ∧ z < (2 ^ 6 : Nat)) → (∀ a, 0 ≤ a → a < 6 → wb_bt z a = !wb_ex (fun p => wb_mw F (a / 3) p && decide (wb_am p (a % 3) = 0)) 125) → Q (some (.int (wb_i z))) N w) : wb_M G M_X10_inEvery [.ref 29] N w Q := by
  unfold wb_M
  have lp : ∀ i, i ≤ 6 → ∀ z : Int, 0 ≤ i → (0 ≤ z ∧ z < (2 ^ 6 : Nat)) → (∀ a, 0 ≤ a → a < 6 → wb_bt z a = (decide (a < i) && !wb_ex (fun p => wb_mw F (a / 3) p && decide (wb_am p (a % 3) = 0)) 125)) → wb_V G M_X10_inEvery 4 [(0, .ref 29), (1, .int (wb_i z)), (2, .int (wb_i i))] [] N w 0 0 Q := by
    refine wb_up 6 _ ?_
    intro i ih hi z hi0 hz hb
    refine vi_iload_n 4 rfl rfl ?_
    refine vi_bipush 5 rfl (by decide) ?_
    refine vi_icmp_ge 6 rfl (by omega) (by omega) (fun c_7 => ?_) (fun c_7 => ?_)
    · refine vi_iload_n 30 rfl rfl ?_
      exact vi_ireturn 31 rfl rfl rfl (Nat.zero_le _) (Nat.zero_le _) (hQ z hz (fun a a1 a2 => by rw [hb a a1 a2, decide_eq_true (show a < i by omega), Bool.true_and]))
    · refine vi_aload_n 7 rfl rfl ?_
      refine vi_iload_n 8 rfl rfl ?_
      refine vi_iconst 9 rfl ?_
      refine vi_idiv 10 rfl (by omega) (by omega) ?_
      refine vi_iload_n 11 rfl rfl ?_
      refine vi_iconst 12 rfl ?_
      refine vi_irem 13 rfl (by omega) (by omega) ?_
      refine vi_V2 14 ok_X10_amounts rfl c_X10_165 hwo.1 rfl rfl ?_
      refine sp_X10_amounts ‹_› ‹_› (by omega) (by omega) (fun z_17 hz_17 hb_17 => ?_)
      have hb0 := hb_17 0 (by omega) (by omega)
      rw [wb_bt_z0 hz_17.1] at hb0
      refine vi_istore_n 15 rfl rfl ?_
      refine vi_iload_n 16 rfl rfl ?_
      refine vi_iload_n 17 rfl rfl ?_
      refine vi_iconst 18 rfl ?_
      refine vi_iand 19 rfl ?_
      rw [wb_and1]
      refine vi_if_ne 20 rfl (by omega) (fun c_25 => ?_) (fun c_25 => ?_)
      · refine vi_iconst 25 rfl ?_
        refine vi_ior 26 rfl ?_
        first | rw [wb_or1 (by omega) (by omega)] | rw [wb_or0]
        refine vi_istore_n 27 rfl rfl ?_
        refine vi_iinc 28 rfl rfl rfl ?_
        refine vi_goto 29 rfl ?_
        first | (have hex : wb_ex (fun p => wb_mw F (i / 3) p && decide (wb_am p (i % 3) = 0)) 125 = true := (by rw [← hb0]; exact decide_eq_true (by omega)); exact vi_lc (ih (i + 1) (by omega) (by omega) z (by omega) hz (fun a a1 a2 => by rw [hb a a1 a2]; (by_cases ha : a = i); (rw [ha, hex]; simp); (rw [show decide (a < i + 1) = decide (a < i) from decide_eq_decide.mpr (by omega)]))) ⟨rfl, rfl, rfl, trivial⟩) | (have hex : wb_ex (fun p => wb_mw F (i / 3) p && decide (wb_am p (i % 3) = 0)) 125 = false := (by rw [← hb0]; exact decide_eq_false (by omega)); exact vi_lc (ih (i + 1) (by omega) (by omega) _ (by omega) (wb_ad1_rg hz (by omega)) (fun a a1 a2 => by rw [wb_ad1_bt a hi0 a1, hb a a1 a2]; (by_cases ha : a = i); (rw [ha, hex]; simp; omega); (rw [show decide (a < i + 1) = decide (a < i) from decide_eq_decide.mpr (by omega)]; simp [ha]))) ⟨rfl, rfl, rfl, trivial⟩)
      · refine vi_iconst 21 rfl ?_
        refine vi_iload_n 22 rfl rfl ?_
        refine vi_ishl 23 rfl ?_
        refine vi_goto 24 rfl ?_
        refine vi_ior 26 rfl ?_
        first | rw [wb_or1 (by omega) (by omega)] | rw [wb_or0]
        refine vi_istore_n 27 rfl rfl ?_
        refine vi_iinc 28 rfl rfl rfl ?_
        refine vi_goto 29 rfl ?_
        first | (have hex : wb_ex (fun p => wb_mw F (i / 3) p && decide (wb_am p (i % 3) = 0)) 125 = true := (by rw [← hb0]; exact decide_eq_true (by omega)); exact vi_lc (ih (i + 1) (by omega) (by omega) z (by omega) hz (fun a a1 a2 => by rw [hb a a1 a2]; (by_cases ha : a = i); (rw [ha, hex]; simp); (rw [show decide (a < i + 1) = decide (a < i) from decide_eq_decide.mpr (by omega)]))) ⟨rfl, rfl, rfl, trivial⟩) | (have hex : wb_ex (fun p => wb_mw F (i / 3) p && decide (wb_am p (i % 3) = 0)) 125 = false := (by rw [← hb0]; exact decide_eq_false (by omega)); exact vi_lc (ih (i + 1) (by omega) (by omega) _ (by omega) (wb_ad1_rg hz (by omega)) (fun a a1 a2 => by rw [wb_ad1_bt a hi0 a1, hb a a1 a2]; (by_cases ha : a = i); (rw [ha, hex]; simp; omega); (rw [show decide (a < i + 1) = decide (a < i) from decide_eq_decide.mpr (by omega)]; simp [ha]))) ⟨rfl, rfl, rfl, trivial⟩)
  refine vi_iconst 0 rfl ?_
  refine vi_istore_n 1 rfl rfl ?_
  refine vi_iconst 2 rfl ?_
  refine vi_istore_n 3 rfl rfl ?_
  exact vi_lc (lp 0 (by omega) 0 (by omega) (by omega) (fun a a1 a2 => by rw [wb_bt0, decide_eq_false (by omega)]; rfl)) ⟨rfl, rfl, rfl, trivial⟩
theorem wb_onez {z : Int} {f : Int → Bool} (hz : 0 ≤ z ∧ z < (2 ^ 5 : Nat)) (h : ∀ a, 0 ≤ a → a < 5 → wb_bt z a = f a) : z = 1 ↔ (f 0 = true ∧ f 1 = false ∧ f 2 = false ∧ f 3 = false ∧ f 4 = false) := by
  constructor
  · rintro rfl
    rw [← h 0 (by omega) (by omega), ← h 1 (by omega) (by omega), ← h 2 (by omega) (by omega), ← h 3 (by omega) (by omega), ← h 4 (by omega) (by omega)]
    decide
  · rintro ⟨h0, h1, h2, h3, h4⟩
    refine wb_bt_ext (k := 5) hz (by decide) (fun j j1 j2 => ?_)
    rcases (show j = 0 ∨ j = 1 ∨ j = 2 ∨ j = 3 ∨ j = 4 by omega) with rfl | rfl | rfl | rfl | rfl
    · rw [h 0 (by omega) (by omega), h0]; decide
    · rw [h 1 (by omega) (by omega), h1]; decide
    · rw [h 2 (by omega) (by omega), h2]; decide
    · rw [h 3 (by omega) (by omega), h3]; decide
    · rw [h 4 (by omega) (by omega), h4]; decide
/-- only parts without the thing, and some -/
def wb_nn (F : Int → Bool) (v t : Int) : Bool := wb_ex (fun p => wb_mw F v p && decide (wb_am p t = 0)) 125 && !wb_ex (fun p => wb_mw F v p && decide (wb_am p t ≠ 0)) 125
theorem wb_nn_one {z v t : Int} (hz : 0 ≤ z ∧ z < (2 ^ 5 : Nat)) (h : ∀ a, 0 ≤ a → a < 5 → wb_bt z a = wb_ex (fun p => wb_mw F v p && decide (wb_am p t = a)) 125) : z = 1 ↔ wb_nn F v t = true := by
  rw [wb_onez hz h]
  unfold wb_nn
  rw [Bool.and_eq_true, Bool.not_eq_true']
  constructor
  · rintro ⟨h0, h1, h2, h3, h4⟩
    refine ⟨h0, wb_ex_no.mpr fun p p1 p2 => ?_⟩
    have hr := wb_am_rg (p := p) (t := t) p1
    have := wb_ex_no.mp h1 p p1 p2
    have := wb_ex_no.mp h2 p p1 p2
    have := wb_ex_no.mp h3 p p1 p2
    have := wb_ex_no.mp h4 p p1 p2
    cases hm : wb_mw F v p with
    | false => rfl
    | true =>
      simp only [hm, Bool.true_and, decide_eq_false_iff_not] at *
      omega
  · rintro ⟨h0, h1⟩
    have key : ∀ a : Int, a ≠ 0 → wb_ex (fun p => wb_mw F v p && decide (wb_am p t = a)) 125 = false := fun a ha => wb_ex_no.mpr fun p p1 p2 => by
      have := wb_ex_no.mp h1 p p1 p2
      cases hm : wb_mw F v p with
      | false => rfl
      | true =>
        simp only [hm, Bool.true_and, decide_eq_false_iff_not] at *
        omega
    exact ⟨h0, key 1 (by omega), key 2 (by omega), key 3 (by omega), key 4 (by omega)⟩
theorem sp_X10_inNone (hwo : wb_Wo w hl wt ct mt) (hmd : wb_Md w F)
    (hQ : ∀ z : Int, (0 ≤ z ∧ z < (2 ^ 6 : Nat)) → (∀ a, 0 ≤ a → a < 6 → wb_bt z a = wb_nn F (a / 3) (a % 3)) → Q (some (.int (wb_i z))) N w) : wb_M G M_X10_inNone [.ref 29] N w Q := by
  unfold wb_M
  have lp : ∀ i, i ≤ 6 → ∀ z : Int, 0 ≤ i → (0 ≤ z ∧ z < (2 ^ 6 : Nat)) → (∀ a, 0 ≤ a → a < 6 → wb_bt z a = (decide (a < i) && wb_nn F (a / 3) (a % 3))) → wb_V G M_X10_inNone 4 [(0, .ref 29), (1, .int (wb_i z)), (2, .int (wb_i i))] [] N w 0 0 Q := by
    refine wb_up 6 _ ?_
    intro i ih hi z hi0 hz hb
    refine vi_iload_n 4 rfl rfl ?_
    refine vi_bipush 5 rfl (by decide) ?_
    refine vi_icmp_ge 6 rfl (by omega) (by omega) (fun c_7 => ?_) (fun c_7 => ?_)
    · refine vi_iload_n 29 rfl rfl ?_
      exact vi_ireturn 30 rfl rfl rfl (Nat.zero_le _) (Nat.zero_le _) (hQ z hz (fun a a1 a2 => by rw [hb a a1 a2, decide_eq_true (show a < i by omega), Bool.true_and]))
    · refine vi_aload_n 7 rfl rfl ?_
      refine vi_iload_n 8 rfl rfl ?_
      refine vi_iconst 9 rfl ?_
      refine vi_idiv 10 rfl (by omega) (by omega) ?_
      refine vi_iload_n 11 rfl rfl ?_
      refine vi_iconst 12 rfl ?_
      refine vi_irem 13 rfl (by omega) (by omega) ?_
      refine vi_V2 14 ok_X10_amounts rfl c_X10_165 hwo.1 rfl rfl ?_
      refine sp_X10_amounts ‹_› ‹_› (by omega) (by omega) (fun z_17 hz_17 hb_17 => ?_)
      have hb0 := wb_nn_one hz_17 hb_17
      refine vi_istore_n 15 rfl rfl ?_
      refine vi_iload_n 16 rfl rfl ?_
      refine vi_iload_n 17 rfl rfl ?_
      refine vi_iconst 18 rfl ?_
      refine vi_icmp_ne 19 rfl (by omega) (by omega) (fun c_24 => ?_) (fun c_24 => ?_)
      · refine vi_iconst 24 rfl ?_
        refine vi_ior 25 rfl ?_
        first | rw [wb_or1 (by omega) (by omega)] | rw [wb_or0]
        refine vi_istore_n 26 rfl rfl ?_
        refine vi_iinc 27 rfl rfl rfl ?_
        refine vi_goto 28 rfl ?_
        first | (have hex : wb_nn F (i / 3) (i % 3) = false := (by cases h : wb_nn F (i / 3) (i % 3) with | false => rfl | true => exact absurd (hb0.mpr h) c_24); exact vi_lc (ih (i + 1) (by omega) (by omega) z (by omega) hz (fun a a1 a2 => by rw [hb a a1 a2]; (by_cases ha : a = i); (rw [ha, hex]; simp); (rw [show decide (a < i + 1) = decide (a < i) from decide_eq_decide.mpr (by omega)]))) ⟨rfl, rfl, rfl, trivial⟩) | (have hex : wb_nn F (i / 3) (i % 3) = true := hb0.mp (by omega); exact vi_lc (ih (i + 1) (by omega) (by omega) _ (by omega) (wb_ad1_rg hz (by omega)) (fun a a1 a2 => by rw [wb_ad1_bt a hi0 a1, hb a a1 a2]; (by_cases ha : a = i); (rw [ha, hex]; simp; omega); (rw [show decide (a < i + 1) = decide (a < i) from decide_eq_decide.mpr (by omega)]; simp [ha]))) ⟨rfl, rfl, rfl, trivial⟩)
      · refine vi_iconst 20 rfl ?_
        refine vi_iload_n 21 rfl rfl ?_
        refine vi_ishl 22 rfl ?_
        refine vi_goto 23 rfl ?_
        refine vi_ior 25 rfl ?_
        first | rw [wb_or1 (by omega) (by omega)] | rw [wb_or0]
        refine vi_istore_n 26 rfl rfl ?_
        refine vi_iinc 27 rfl rfl rfl ?_
        refine vi_goto 28 rfl ?_
        first | (have hex : wb_nn F (i / 3) (i % 3) = false := (by cases h : wb_nn F (i / 3) (i % 3) with | false => rfl | true => exact absurd (hb0.mpr h) c_24); exact vi_lc (ih (i + 1) (by omega) (by omega) z (by omega) hz (fun a a1 a2 => by rw [hb a a1 a2]; (by_cases ha : a = i); (rw [ha, hex]; simp); (rw [show decide (a < i + 1) = decide (a < i) from decide_eq_decide.mpr (by omega)]))) ⟨rfl, rfl, rfl, trivial⟩) | (have hex : wb_nn F (i / 3) (i % 3) = true := hb0.mp (by omega); exact vi_lc (ih (i + 1) (by omega) (by omega) _ (by omega) (wb_ad1_rg hz (by omega)) (fun a a1 a2 => by rw [wb_ad1_bt a hi0 a1, hb a a1 a2]; (by_cases ha : a = i); (rw [ha, hex]; simp; omega); (rw [show decide (a < i + 1) = decide (a < i) from decide_eq_decide.mpr (by omega)]; simp [ha]))) ⟨rfl, rfl, rfl, trivial⟩)
  refine vi_iconst 0 rfl ?_
  refine vi_istore_n 1 rfl rfl ?_
  refine vi_iconst 2 rfl ?_
  refine vi_istore_n 3 rfl rfl ?_
  exact vi_lc (lp 0 (by omega) 0 (by omega) (by omega) (fun a a1 a2 => by rw [wb_bt0, decide_eq_false (by omega)]; rfl)) ⟨rfl, rfl, rfl, trivial⟩
end WBS38
