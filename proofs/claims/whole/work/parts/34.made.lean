/-! ===== two words of a row; what wares are made of ===== -/
def wb_ex (f : Int → Bool) : Nat → Bool
  | 0 => false
  | k + 1 => wb_ex f k || f k
theorem wb_ex_iff {f : Int → Bool} : ∀ {n : Nat}, wb_ex f n = true ↔ ∃ i : Int, 0 ≤ i ∧ i < n ∧ f i = true := by
  intro n
  induction n with
  | zero => simp [wb_ex]; omega
  | succ n ih =>
    rw [wb_ex, Bool.or_eq_true, ih]
    constructor
    · rintro (⟨i, h1, h2, h3⟩ | h)
      · exact ⟨i, h1, by omega, h3⟩
      · exact ⟨n, by omega, by omega, h⟩
    · rintro ⟨i, h1, h2, h3⟩
      by_cases hi : i = n
      · right; rw [← hi]; exact h3
      · left; exact ⟨i, h1, by omega, h3⟩
theorem wb_ex_no {f : Int → Bool} {n : Nat} : wb_ex f n = false ↔ ∀ i : Int, 0 ≤ i → i < n → f i = false := by
  constructor
  · intro h i h1 h2
    cases hf : f i with
    | false => rfl
    | true => rw [wb_ex_iff.mpr ⟨i, h1, h2, hf⟩] at h; cases h
  · intro h
    cases he : wb_ex f n with
    | false => rfl
    | true =>
      obtain ⟨i, h1, h2, h3⟩ := wb_ex_iff.mp he
      rw [h i h1 h2] at h3; cases h3
theorem wb_ex_congr {f f' : Int → Bool} {n : Nat} (h : ∀ i : Int, 0 ≤ i → i < n → f i = f' i) : wb_ex f n = wb_ex f' n := by
  cases he : wb_ex f' n with
  | false => exact wb_ex_no.mpr fun i h1 h2 => by rw [h i h1 h2]; exact wb_ex_no.mp he i h1 h2
  | true =>
    obtain ⟨i, h1, h2, h3⟩ := wb_ex_iff.mp he
    exact wb_ex_iff.mpr ⟨i, h1, h2, by rw [h i h1 h2]; exact h3⟩
def wb_w2 (lo hi : Int64) (T : Int → Bool) : Prop := (∀ q, 0 ≤ q → q < 64 → wb_tb lo q = T q) ∧ ∀ q, 0 ≤ q → q < 64 → wb_tb hi q = (decide (q < 61) && T (64 + q))
theorem wb_w2_and {a b c d : Int64} {S T : Int → Bool} (h1 : wb_w2 a b S) (h2 : wb_w2 c d T) : wb_w2 (a &&& c) (b &&& d) (fun q => S q && T q) := by
  refine ⟨fun q q1 q2 => by rw [wb_tb_and, h1.1 q q1 q2, h2.1 q q1 q2], fun q q1 q2 => ?_⟩
  rw [wb_tb_and, h1.2 q q1 q2, h2.2 q q1 q2]
  cases decide (q < 61) <;> simp
theorem wb_w2_or {a b c d : Int64} {S T : Int → Bool} (h1 : wb_w2 a b S) (h2 : wb_w2 c d T) : wb_w2 (a ||| c) (b ||| d) (fun q => S q || T q) := by
  refine ⟨fun q q1 q2 => by rw [wb_tb_or, h1.1 q q1 q2, h2.1 q q1 q2], fun q q1 q2 => ?_⟩
  rw [wb_tb_or, h1.2 q q1 q2, h2.2 q q1 q2]
  cases decide (q < 61) <;> simp
theorem wb_w2.to {a b : Int64} {S T : Int → Bool} (h : wb_w2 a b S) (e : ∀ q, 0 ≤ q → q < 125 → S q = T q) : wb_w2 a b T := by
  refine ⟨fun q q1 q2 => by rw [h.1 q q1 q2, e q q1 (by omega)], fun q q1 q2 => ?_⟩
  rw [h.2 q q1 q2]
  by_cases hq : q < 61
  · rw [e _ (by omega) (by omega)]
  · simp [hq]
theorem wb_w2_ne {lo hi : Int64} {T : Int → Bool} (h : wb_w2 lo hi T) : (lo ||| hi) = 0 ↔ wb_ex T 125 = false := by
  rw [wb_tb_eq0, wb_ex_no]
  constructor
  · intro h0 i h1 h2
    by_cases hi : i < 64
    · have := h0 i h1 hi
      rw [wb_tb_or, h.1 i h1 hi] at this
      cases hT : T i with
      | false => rfl
      | true => rw [hT] at this; cases this
    · have := h0 (i - 64) (by omega) (by omega)
      rw [wb_tb_or, h.2 (i - 64) (by omega) (by omega), show 64 + (i - 64) = i by omega, decide_eq_true (show i - 64 < 61 by omega)] at this
      cases hT : T i with
      | false => rfl
      | true => rw [hT] at this; simp at this
  · intro h0 b h1 h2
    rw [wb_tb_or, h.1 b h1 h2, h.2 b h1 h2, h0 b h1 (by omega)]
    by_cases hb : b < 61
    · rw [h0 (64 + b) (by omega) (by omega)]; simp
    · simp [hb]
theorem wb_w2_row {g : Int → Int64} {S : Int → Bool} (h : wb_rp g S) {p : Int} (hp : 0 ≤ p ∧ p < 125) : wb_w2 (g (2 * p)) (g (2 * p + 1)) (fun q => S (p * 125 + q)) := by
  refine ⟨fun q q1 q2 => ?_, fun q q1 q2 => ?_⟩
  · rw [h (2 * p) q (by omega) (by omega) q1 q2, show 2 * p / 2 = p by omega, show 2 * p % 2 = 0 by omega, show p * 125 + 0 * 64 + q = p * 125 + q by omega, decide_eq_true (show 0 * 64 + q < 125 by omega), Bool.true_and]
  · rw [h (2 * p + 1) q (by omega) (by omega) q1 q2, show (2 * p + 1) / 2 = p by omega, show (2 * p + 1) % 2 = 1 by omega, show p * 125 + 1 * 64 + q = p * 125 + (64 + q) by omega]
    congr 1
    congr 1; apply propext; omega
theorem wb_w2_1 {k : Int} (hk : 0 ≤ k ∧ k < 64) : wb_w2 (Int64.ofNat (1 : Fin 2) <<< ((wb_i k).toInt64 &&& 63)) 0 (fun q => decide (q = k)) := by
  refine ⟨fun q q1 q2 => wb_tb_sh1 hk ⟨q1, q2⟩, fun q q1 q2 => ?_⟩
  dsimp only
  rw [wb_tb_0, decide_eq_false (show ¬ 64 + q = k by omega), Bool.and_false]
theorem wb_w2_2 {k : Int} (hk : 64 ≤ k ∧ k < 125) : wb_w2 0 (Int64.ofNat (1 : Fin 2) <<< ((wb_i (k - 64)).toInt64 &&& 63)) (fun q => decide (q = k)) := by
  refine ⟨fun q q1 q2 => ?_, fun q q1 q2 => ?_⟩
  · dsimp only
    rw [wb_tb_0, decide_eq_false (show ¬ q = k by omega)]
  · rw [wb_tb_sh1 (by omega) ⟨q1, q2⟩, ← Bool.decide_and]; congr 1; apply propext; omega
theorem wb_w2_0 : wb_w2 0 0 (fun _ => false) := ⟨fun q _ _ => wb_tb_0 q, fun q _ _ => by rw [wb_tb_0]; simp⟩
theorem wb_w2_ct {lo hi : Int64} {T : Int → Bool} (h : wb_w2 lo hi T) : wb_pc lo + wb_pc hi = wb_ct T 125 := by
  have e1 : wb_pc lo = wb_ct T 64 := by unfold wb_pc; exact wb_ct_congr 64 fun i h1 h2 => h.1 i h1 (by omega)
  have e2 : wb_pc hi = wb_ct (fun q => T (64 + q)) 61 := by
    unfold wb_pc
    rw [show (64 : Nat) = 61 + 3 from rfl, wb_ct_split]
    rw [wb_ct_none 3 (fun i h1 h2 => by rw [h.2 _ (by omega) (by omega)]; simp; omega), Int.add_zero]
    exact wb_ct_congr 61 fun i h1 h2 => by rw [h.2 i h1 (by omega), decide_eq_true (show i < 61 by omega), Bool.true_and]
  rw [e1, e2, show (125 : Nat) = 64 + 61 from rfl, wb_ct_split]
  rfl
/-- parts of p (0) or q (1) that are in some mixture of a set -/
def wb_mw (F : Int → Bool) (v p : Int) : Bool := if v = 0 then wb_ex (fun q => F (p * 125 + q)) 125 else wb_ex (fun a => F (a * 125 + p)) 125
def wb_Md (w : wb_W) (F : Int → Bool) : Prop := ∃ ml mh : Int → Int64, w 42 = aL 2 ml ∧ w 43 = aL 2 mh ∧ ∀ v, 0 ≤ v → v < 2 → wb_w2 (ml v) (mh v) (wb_mw F v)
theorem wb_Md.fr {w w' : wb_W} {F : Int → Bool} (h : wb_Md w F) (hf : ∀ k, 42 ≤ k → k < 44 → w' k = w k) : wb_Md w' F := by
  obtain ⟨ml, mh, h1, h2, h3⟩ := h
  exact ⟨ml, mh, (hf _ (by omega) (by omega)).trans h1, (hf _ (by omega) (by omega)).trans h2, h3⟩
def wb_M2 (w : wb_W) : Prop := ∃ ml mh : Int → Int64, w 42 = aL 2 ml ∧ w 43 = aL 2 mh
theorem wb_M2.fr {w w' : wb_W} (h : wb_M2 w) (hf : ∀ k, 42 ≤ k → k < 44 → w' k = w k) : wb_M2 w' := by
  obtain ⟨ml, mh, h1, h2⟩ := h
  exact ⟨ml, mh, (hf _ (by omega) (by omega)).trans h1, (hf _ (by omega) (by omega)).trans h2⟩
section WBS34
variable {G : wb_G} {N : Nat} {w : wb_W} {Q : Option Value → Nat → wb_W → Prop}
variable {F : Int → Bool} {g : Int → Int64} {hl wt ct mt : Int}
theorem sp_X10_setMade (hwo : wb_Wo w hl wt ct mt) (hmf : wb_Mw w 38 g) (hF : wb_rp g F) (hm2 : wb_M2 w) (hQ : ∀ w', wb_Md w' F → (∀ k, k ≠ 42 → k ≠ 43 → w' k = w k) → Q none N w') : wb_M G M_X10_setMade [.ref 29] N w Q := by
  unfold wb_M
  have lp2 : ∀ i, i ≤ 125 → ∀ (w1 : wb_W) (ml mh : Int → Int64), 0 ≤ i → w1 42 = aL 2 ml → w1 43 = aL 2 mh → wb_w2 (ml 0) (mh 0) (fun q => decide (q < i) && wb_mw F 0 q) → wb_w2 (ml 1) (mh 1) (fun q => wb_ex (fun a => F (a * 125 + q)) i.toNat) → (∀ k, k ≠ 42 → k ≠ 43 → w1 k = w k) → wb_V G M_X10_setMade 29 [(0, .ref 29), (1, .int (wb_i i))] [] N w1 0 0 Q := by
    refine wb_up 125 _ ?_
    intro i ih hi w1 ml mh hi0 e1 e2 hw0 hw1 ef
    have x0 := (ef 29 (by omega) (by omega)).trans hwo.1
    have hmf1 : wb_Mw w1 38 g := hmf.fr (fun k p1 p2 => ef k (by omega) (by omega))
    have en : (i + 1).toNat = i.toNat + 1 := by omega
    have ei : ((i.toNat : Nat) : Int) = i := by omega
    have hrow := fun q : i < 125 => wb_w2_row hF (p := i) ⟨hi0, q⟩
    have n1 : i < 125 → wb_w2 (ml 1 ||| g (2 * i)) (mh 1 ||| g (2 * i + 1)) (fun q => wb_ex (fun a => F (a * 125 + q)) (i + 1).toNat) := fun q => (wb_w2_or hw1 (hrow q)).to (fun p p1 p2 => by rw [en, wb_ex, ei])
    have nz : i < 125 → ((g (2 * i) ||| g (2 * i + 1)) = 0 ↔ wb_mw F 0 i = false) := fun q => by
      rw [wb_w2_ne (hrow q)]; unfold wb_mw; rw [if_pos rfl]
    have k0 : i < 125 → wb_mw F 0 i = false → wb_w2 (ml 0) (mh 0) (fun q => decide (q < i + 1) && wb_mw F 0 q) := fun q hf => hw0.to (fun p p1 p2 => by
      by_cases hp : p = i
      · rw [hp, hf]; simp
      · rw [show decide (p < i + 1) = decide (p < i) from decide_eq_decide.mpr (by omega)])
    have k1 : i < 125 → wb_mw F 0 i = true → ∀ a b : Int64, wb_w2 a b (fun q => decide (q = i)) → wb_w2 (ml 0 ||| a) (mh 0 ||| b) (fun q => decide (q < i + 1) && wb_mw F 0 q) := fun q hf a b hab => (wb_w2_or hw0 hab).to (fun p p1 p2 => by
      by_cases hp : p = i
      · rw [hp, hf]; simp; omega
      · rw [show decide (p < i + 1) = decide (p < i) from decide_eq_decide.mpr (by omega)]; simp [hp])
    have hz : ∀ x : Int64, x ||| 0 = x := fun x => wb_tb_ext (fun b _ _ => by rw [wb_tb_or, wb_tb_0, Bool.or_false])
    have htr : wb_mw F 0 i ≠ false → wb_mw F 0 i = true := fun q => by cases h : wb_mw F 0 i with | true => rfl | false => exact absurd h q
    refine vi_iload_n 19 rfl rfl ?_
    refine vi_bipush 20 rfl (by decide) ?_
    refine vi_icmp_ge 21 rfl (by omega) (by omega) (fun c_32 => ?_) (fun c_32 => ?_)
    · exact vi_return 88 rfl rfl (Nat.zero_le _) (Nat.zero_le _) (hQ w1 ⟨ml, mh, e1, e2, fun v v1 v2 => by rcases (show v = 0 ∨ v = 1 by omega) with rfl | rfl; (exact hw0.to (fun q q1 q2 => by rw [decide_eq_true (show q < i by omega), Bool.true_and])); (exact hw1.to (fun q q1 q2 => by rw [show i.toNat = 125 by omega]; rfl))⟩ ef)
    · refine vi_aload_n 22 rfl rfl ?_
      refine vi_get 23 rfl f_X10_28 x0 rfl rfl ?_
      refine vi_iload_n 24 rfl rfl ?_
      refine vi_V1 25 ok_X5_low rfl c_X10_148 hmf1.1 rfl rfl ?_
      refine sp_X5_low hmf1 (by omega) ?_
      rw [if_pos (by omega)]
      refine vi_lstore_n 26 rfl rfl ?_
      refine vi_aload_n 27 rfl rfl ?_
      refine vi_get 28 rfl f_X10_28 x0 rfl rfl ?_
      refine vi_iload_n 29 rfl rfl ?_
      refine vi_V1 30 ok_X5_high rfl c_X10_152 hmf1.1 rfl rfl ?_
      refine sp_X5_high hmf1 (by omega) ?_
      rw [if_pos (by omega)]
      refine vi_lstore 31 rfl rfl ?_
      refine vi_aload_n 32 rfl rfl ?_
      refine vi_get 33 rfl f_X10_35 x0 rfl rfl ?_
      refine vi_iconst 34 rfl ?_
      refine vi_dup2 35 rfl rfl rfl ?_
      refine vi_lald 36 rfl e1 (by omega) ?_
      refine vi_lload_n 37 rfl rfl ?_
      refine vi_lor 38 rfl ?_
      refine vi_last 39 rfl e1 (by omega) ?_
      refine vi_aload_n 40 rfl rfl ?_
      refine vi_get 41 rfl f_X10_39 ((wb_upn (by omega)).trans x0) rfl rfl ?_
      refine vi_iconst 42 rfl ?_
      refine vi_dup2 43 rfl rfl rfl ?_
      refine vi_lald 44 rfl ((wb_upn (by omega)).trans e2) (by omega) ?_
      refine vi_lload 45 rfl rfl ?_
      refine vi_lor 46 rfl ?_
      refine vi_last 47 rfl ((wb_upn (by omega)).trans e2) (by omega) ?_
      refine vi_lload_n 48 rfl rfl ?_
      refine vi_lload 49 rfl rfl ?_
      refine vi_lor 50 rfl ?_
      refine vi_lconst 51 rfl ?_
      refine vi_lcmp 52 rfl ?_
      refine vi_if_eq32 53 rfl  (fun c_81 => ?_) (fun c_81 => ?_)
      · refine vi_lload_n 68 rfl rfl ?_
        refine vi_lload 69 rfl rfl ?_
        refine vi_lor 70 rfl ?_
        refine vi_lconst 71 rfl ?_
        refine vi_lcmp 72 rfl ?_
        refine vi_if_eq32 73 rfl  (fun c_111 => ?_) (fun c_111 => ?_)
        · refine vi_iinc 86 rfl rfl rfl ?_
          refine vi_goto 87 rfl ?_
          first | exact absurd c_81 c_111 | exact absurd c_111 c_81 | exact vi_lc (ih (i + 1) (by omega) (by omega) _ _ _ (by omega) wb_ups (by rw [wb_upn (by omega)]; exact wb_ups) (by rw [wb_us, wb_un (by omega)]; have := k1 (by omega) (htr (fun q => c_81 ((wb_cmp0 _).mpr ((nz (by omega)).mpr q)))) _ _ (wb_w2_1 (by omega)); rw [hz] at this; rw [wb_un (by omega)]; exact this) (by rw [wb_un (by omega), wb_us, wb_us]; exact n1 (by omega)) (fun k p1 p2 => by rw [wb_upn p1, wb_upn p2, wb_upn p1]; exact ef k p1 p2)) ⟨rfl, rfl, trivial⟩ | exact vi_lc (ih (i + 1) (by omega) (by omega) _ _ _ (by omega) (by rw [wb_upn (by omega), wb_upn (by omega)]; exact wb_ups) wb_ups (by rw [wb_us, wb_un (by omega), wb_un (by omega)]; have := k1 (by omega) (htr (fun q => c_111 ((wb_cmp0 _).mpr ((nz (by omega)).mpr q)))) _ _ (wb_w2_2 (by omega)); rw [hz] at this; exact this) (by rw [wb_us, wb_un (by omega), wb_us]; exact n1 (by omega)) (fun k p1 p2 => by rw [wb_upn p2, wb_upn p2, wb_upn p1]; exact ef k p1 p2)) ⟨rfl, rfl, trivial⟩ | exact vi_lc (ih (i + 1) (by omega) (by omega) _ _ _ (by omega) (by rw [wb_upn (by omega)]; exact wb_ups) wb_ups (by rw [wb_un (by omega), wb_un (by omega)]; exact k0 (by omega) ((nz (by omega)).mp ((wb_cmp0 _).mp c_111))) (by rw [wb_us, wb_us]; exact n1 (by omega)) (fun k p1 p2 => by rw [wb_upn p2, wb_upn p1]; exact ef k p1 p2)) ⟨rfl, rfl, trivial⟩
        · refine vi_aload_n 74 rfl rfl ?_
          refine vi_get 75 rfl f_X10_39 ((wb_upn (by omega)).trans ((wb_upn (by omega)).trans x0)) rfl rfl ?_
          refine vi_iconst 76 rfl ?_
          refine vi_dup2 77 rfl rfl rfl ?_
          refine vi_lald 78 rfl wb_ups (by omega) ?_
          refine vi_lconst 79 rfl ?_
          refine vi_iload_n 80 rfl rfl ?_
          refine vi_bipush 81 rfl (by decide) ?_
          refine vi_isub 82 rfl ?_
          refine vi_lshl 83 rfl ?_
          refine vi_lor 84 rfl ?_
          refine vi_last 85 rfl wb_ups (by omega) ?_
          refine vi_iinc 86 rfl rfl rfl ?_
          refine vi_goto 87 rfl ?_
          first | exact absurd c_81 c_111 | exact absurd c_111 c_81 | exact vi_lc (ih (i + 1) (by omega) (by omega) _ _ _ (by omega) wb_ups (by rw [wb_upn (by omega)]; exact wb_ups) (by rw [wb_us, wb_un (by omega)]; have := k1 (by omega) (htr (fun q => c_81 ((wb_cmp0 _).mpr ((nz (by omega)).mpr q)))) _ _ (wb_w2_1 (by omega)); rw [hz] at this; rw [wb_un (by omega)]; exact this) (by rw [wb_un (by omega), wb_us, wb_us]; exact n1 (by omega)) (fun k p1 p2 => by rw [wb_upn p1, wb_upn p2, wb_upn p1]; exact ef k p1 p2)) ⟨rfl, rfl, trivial⟩ | exact vi_lc (ih (i + 1) (by omega) (by omega) _ _ _ (by omega) (by rw [wb_upn (by omega), wb_upn (by omega)]; exact wb_ups) wb_ups (by rw [wb_us, wb_un (by omega), wb_un (by omega)]; have := k1 (by omega) (htr (fun q => c_111 ((wb_cmp0 _).mpr ((nz (by omega)).mpr q)))) _ _ (wb_w2_2 (by omega)); rw [hz] at this; exact this) (by rw [wb_us, wb_un (by omega), wb_us]; exact n1 (by omega)) (fun k p1 p2 => by rw [wb_upn p2, wb_upn p2, wb_upn p1]; exact ef k p1 p2)) ⟨rfl, rfl, trivial⟩ | exact vi_lc (ih (i + 1) (by omega) (by omega) _ _ _ (by omega) (by rw [wb_upn (by omega)]; exact wb_ups) wb_ups (by rw [wb_un (by omega), wb_un (by omega)]; exact k0 (by omega) ((nz (by omega)).mp ((wb_cmp0 _).mp c_111))) (by rw [wb_us, wb_us]; exact n1 (by omega)) (fun k p1 p2 => by rw [wb_upn p2, wb_upn p1]; exact ef k p1 p2)) ⟨rfl, rfl, trivial⟩
      · refine vi_iload_n 54 rfl rfl ?_
        refine vi_bipush 55 rfl (by decide) ?_
        refine vi_icmp_ge 56 rfl (by omega) (by omega) (fun c_87 => ?_) (fun c_87 => ?_)
        · refine vi_lload_n 68 rfl rfl ?_
          refine vi_lload 69 rfl rfl ?_
          refine vi_lor 70 rfl ?_
          refine vi_lconst 71 rfl ?_
          refine vi_lcmp 72 rfl ?_
          refine vi_if_eq32 73 rfl  (fun c_111 => ?_) (fun c_111 => ?_)
          · refine vi_iinc 86 rfl rfl rfl ?_
            refine vi_goto 87 rfl ?_
            first | exact absurd c_81 c_111 | exact absurd c_111 c_81 | exact vi_lc (ih (i + 1) (by omega) (by omega) _ _ _ (by omega) wb_ups (by rw [wb_upn (by omega)]; exact wb_ups) (by rw [wb_us, wb_un (by omega)]; have := k1 (by omega) (htr (fun q => c_81 ((wb_cmp0 _).mpr ((nz (by omega)).mpr q)))) _ _ (wb_w2_1 (by omega)); rw [hz] at this; rw [wb_un (by omega)]; exact this) (by rw [wb_un (by omega), wb_us, wb_us]; exact n1 (by omega)) (fun k p1 p2 => by rw [wb_upn p1, wb_upn p2, wb_upn p1]; exact ef k p1 p2)) ⟨rfl, rfl, trivial⟩ | exact vi_lc (ih (i + 1) (by omega) (by omega) _ _ _ (by omega) (by rw [wb_upn (by omega), wb_upn (by omega)]; exact wb_ups) wb_ups (by rw [wb_us, wb_un (by omega), wb_un (by omega)]; have := k1 (by omega) (htr (fun q => c_111 ((wb_cmp0 _).mpr ((nz (by omega)).mpr q)))) _ _ (wb_w2_2 (by omega)); rw [hz] at this; exact this) (by rw [wb_us, wb_un (by omega), wb_us]; exact n1 (by omega)) (fun k p1 p2 => by rw [wb_upn p2, wb_upn p2, wb_upn p1]; exact ef k p1 p2)) ⟨rfl, rfl, trivial⟩ | exact vi_lc (ih (i + 1) (by omega) (by omega) _ _ _ (by omega) (by rw [wb_upn (by omega)]; exact wb_ups) wb_ups (by rw [wb_un (by omega), wb_un (by omega)]; exact k0 (by omega) ((nz (by omega)).mp ((wb_cmp0 _).mp c_111))) (by rw [wb_us, wb_us]; exact n1 (by omega)) (fun k p1 p2 => by rw [wb_upn p2, wb_upn p1]; exact ef k p1 p2)) ⟨rfl, rfl, trivial⟩
          · refine vi_aload_n 74 rfl rfl ?_
            refine vi_get 75 rfl f_X10_39 ((wb_upn (by omega)).trans ((wb_upn (by omega)).trans x0)) rfl rfl ?_
            refine vi_iconst 76 rfl ?_
            refine vi_dup2 77 rfl rfl rfl ?_
            refine vi_lald 78 rfl wb_ups (by omega) ?_
            refine vi_lconst 79 rfl ?_
            refine vi_iload_n 80 rfl rfl ?_
            refine vi_bipush 81 rfl (by decide) ?_
            refine vi_isub 82 rfl ?_
            refine vi_lshl 83 rfl ?_
            refine vi_lor 84 rfl ?_
            refine vi_last 85 rfl wb_ups (by omega) ?_
            refine vi_iinc 86 rfl rfl rfl ?_
            refine vi_goto 87 rfl ?_
            first | exact absurd c_81 c_111 | exact absurd c_111 c_81 | exact vi_lc (ih (i + 1) (by omega) (by omega) _ _ _ (by omega) wb_ups (by rw [wb_upn (by omega)]; exact wb_ups) (by rw [wb_us, wb_un (by omega)]; have := k1 (by omega) (htr (fun q => c_81 ((wb_cmp0 _).mpr ((nz (by omega)).mpr q)))) _ _ (wb_w2_1 (by omega)); rw [hz] at this; rw [wb_un (by omega)]; exact this) (by rw [wb_un (by omega), wb_us, wb_us]; exact n1 (by omega)) (fun k p1 p2 => by rw [wb_upn p1, wb_upn p2, wb_upn p1]; exact ef k p1 p2)) ⟨rfl, rfl, trivial⟩ | exact vi_lc (ih (i + 1) (by omega) (by omega) _ _ _ (by omega) (by rw [wb_upn (by omega), wb_upn (by omega)]; exact wb_ups) wb_ups (by rw [wb_us, wb_un (by omega), wb_un (by omega)]; have := k1 (by omega) (htr (fun q => c_111 ((wb_cmp0 _).mpr ((nz (by omega)).mpr q)))) _ _ (wb_w2_2 (by omega)); rw [hz] at this; exact this) (by rw [wb_us, wb_un (by omega), wb_us]; exact n1 (by omega)) (fun k p1 p2 => by rw [wb_upn p2, wb_upn p2, wb_upn p1]; exact ef k p1 p2)) ⟨rfl, rfl, trivial⟩ | exact vi_lc (ih (i + 1) (by omega) (by omega) _ _ _ (by omega) (by rw [wb_upn (by omega)]; exact wb_ups) wb_ups (by rw [wb_un (by omega), wb_un (by omega)]; exact k0 (by omega) ((nz (by omega)).mp ((wb_cmp0 _).mp c_111))) (by rw [wb_us, wb_us]; exact n1 (by omega)) (fun k p1 p2 => by rw [wb_upn p2, wb_upn p1]; exact ef k p1 p2)) ⟨rfl, rfl, trivial⟩
        · refine vi_aload_n 57 rfl rfl ?_
          refine vi_get 58 rfl f_X10_35 ((wb_upn (by omega)).trans ((wb_upn (by omega)).trans x0)) rfl rfl ?_
          refine vi_iconst 59 rfl ?_
          refine vi_dup2 60 rfl rfl rfl ?_
          refine vi_lald 61 rfl ((wb_upn (by omega)).trans wb_ups) (by omega) ?_
          refine vi_lconst 62 rfl ?_
          refine vi_iload_n 63 rfl rfl ?_
          refine vi_lshl 64 rfl ?_
          refine vi_lor 65 rfl ?_
          refine vi_last 66 rfl ((wb_upn (by omega)).trans wb_ups) (by omega) ?_
          refine vi_goto 67 rfl ?_
          refine vi_iinc 86 rfl rfl rfl ?_
          refine vi_goto 87 rfl ?_
          first | exact absurd c_81 c_111 | exact absurd c_111 c_81 | exact vi_lc (ih (i + 1) (by omega) (by omega) _ _ _ (by omega) wb_ups (by rw [wb_upn (by omega)]; exact wb_ups) (by rw [wb_us, wb_un (by omega)]; have := k1 (by omega) (htr (fun q => c_81 ((wb_cmp0 _).mpr ((nz (by omega)).mpr q)))) _ _ (wb_w2_1 (by omega)); rw [hz] at this; rw [wb_un (by omega)]; exact this) (by rw [wb_un (by omega), wb_us, wb_us]; exact n1 (by omega)) (fun k p1 p2 => by rw [wb_upn p1, wb_upn p2, wb_upn p1]; exact ef k p1 p2)) ⟨rfl, rfl, trivial⟩ | exact vi_lc (ih (i + 1) (by omega) (by omega) _ _ _ (by omega) (by rw [wb_upn (by omega), wb_upn (by omega)]; exact wb_ups) wb_ups (by rw [wb_us, wb_un (by omega), wb_un (by omega)]; have := k1 (by omega) (htr (fun q => c_111 ((wb_cmp0 _).mpr ((nz (by omega)).mpr q)))) _ _ (wb_w2_2 (by omega)); rw [hz] at this; exact this) (by rw [wb_us, wb_un (by omega), wb_us]; exact n1 (by omega)) (fun k p1 p2 => by rw [wb_upn p2, wb_upn p2, wb_upn p1]; exact ef k p1 p2)) ⟨rfl, rfl, trivial⟩ | exact vi_lc (ih (i + 1) (by omega) (by omega) _ _ _ (by omega) (by rw [wb_upn (by omega)]; exact wb_ups) wb_ups (by rw [wb_un (by omega), wb_un (by omega)]; exact k0 (by omega) ((nz (by omega)).mp ((wb_cmp0 _).mp c_111))) (by rw [wb_us, wb_us]; exact n1 (by omega)) (fun k p1 p2 => by rw [wb_upn p2, wb_upn p1]; exact ef k p1 p2)) ⟨rfl, rfl, trivial⟩
  have lp1 : ∀ i, i ≤ 2 → ∀ (w1 : wb_W) (ml mh : Int → Int64), 0 ≤ i → w1 42 = aL 2 ml → w1 43 = aL 2 mh → (∀ j, 0 ≤ j → j < i → ml j = 0 ∧ mh j = 0) → (∀ k, k ≠ 42 → k ≠ 43 → w1 k = w k) → wb_V G M_X10_setMade 2 [(0, .ref 29), (1, .int (wb_i i))] [] N w1 0 0 Q := by
    refine wb_up 2 _ ?_
    intro i ih hi w1 ml mh hi0 e1 e2 hz ef
    have x0 := (ef 29 (by omega) (by omega)).trans hwo.1
    refine vi_iload_n 2 rfl rfl ?_
    refine vi_iconst 3 rfl ?_
    refine vi_icmp_ge 4 rfl (by omega) (by omega) (fun c_4 => ?_) (fun c_4 => ?_)
    · refine vi_iconst 17 rfl ?_
      refine vi_istore_n 18 rfl rfl ?_
      refine vi_lc (lp2 0 (by omega) w1 ml mh (by omega) e1 e2 ?_ ?_ ef) ⟨rfl, rfl, trivial⟩
      · rw [(hz 0 (by omega) (by omega)).1, (hz 0 (by omega) (by omega)).2]; exact wb_w2_0.to (fun q q1 q2 => by simp [show ¬ q < 0 by omega])
      · rw [(hz 1 (by omega) (by omega)).1, (hz 1 (by omega) (by omega)).2]; exact wb_w2_0
    · refine vi_aload_n 5 rfl rfl ?_
      refine vi_get 6 rfl f_X10_35 x0 rfl rfl ?_
      refine vi_iload_n 7 rfl rfl ?_
      refine vi_lconst 8 rfl ?_
      refine vi_last 9 rfl e1 (by omega) ?_
      refine vi_aload_n 10 rfl rfl ?_
      refine vi_get 11 rfl f_X10_39 ((wb_upn (by omega)).trans x0) rfl rfl ?_
      refine vi_iload_n 12 rfl rfl ?_
      refine vi_lconst 13 rfl ?_
      refine vi_last 14 rfl ((wb_upn (by omega)).trans e2) (by omega) ?_
      refine vi_iinc 15 rfl rfl rfl ?_
      refine vi_goto 16 rfl ?_
      refine vi_lc (ih (i + 1) (by omega) (by omega) _ _ _ (by omega) (by rw [wb_upn (by omega)]; exact wb_ups) wb_ups (fun j j1 j2 => ?_) (fun k p1 p2 => by rw [wb_upn p2, wb_upn p1]; exact ef k p1 p2)) ⟨rfl, rfl, trivial⟩
      by_cases hj : j = i
      · subst hj; exact ⟨wb_us, wb_us⟩
      · rw [wb_un hj, wb_un hj]; exact hz j j1 (by omega)
  obtain ⟨ml, mh, e1, e2⟩ := hm2
  refine vi_iconst 0 rfl ?_
  refine vi_istore_n 1 rfl rfl ?_
  exact vi_lc (lp1 0 (by omega) w ml mh (by omega) e1 e2 (fun j j1 j2 => by omega) (fun _ _ _ => rfl)) ⟨rfl, rfl, trivial⟩
end WBS34
