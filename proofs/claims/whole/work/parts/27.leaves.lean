/-! ===== more leaves ===== -/
theorem wb_bt_rg {z : Int} {k : Nat} (hz : 0 ≤ z ∧ z < (2 ^ k : Nat)) {m : Int} (hm : (k : Int) ≤ m) : wb_bt z m = false := by
  unfold wb_bt
  exact Nat.testBit_lt_two_pow (Nat.lt_of_lt_of_le (by omega) (Nat.pow_le_pow_right (by decide) (show k ≤ m.toNat by omega)))
/-- two spans have a stock in common -/
def wb_mt2 (a b : Int) : Bool := decide (0 ≤ a) && (decide (0 ≤ b) && (decide (a % 256 ≤ b / 256) && decide (b % 256 ≤ a / 256)))
section WBS27
variable {G : wb_G} {N : Nat} {w : wb_W} {Q : Option Value → Nat → wb_W → Prop} {b : Nat} {rm : Nat} {nd ah on : Int → Int} {t gu ke : Int}
theorem sp_X2_onwardPairs {a m k0 st am : Int} (hb : wb_Co w b rm nd ah on t gu ke) (hke : 0 ≤ ke ∧ ke ≤ 625) (hrm : ke ≤ rm) (ha : -1 ≤ a ∧ a ≤ 60000) (hm : 1 ≤ m ∧ m < 9) (hk0 : 0 ≤ k0 ∧ k0 < 625) (hst : st = 1 ∨ st = 25) (hkk : k0 + st * 24 < ke) (ham : 0 ≤ am ∧ am < 33554432) (hon : ∀ j, 0 ≤ j → j < 25 → -1 ≤ on ((k0 + st * j) * 9 + m) ∧ on ((k0 + st * j) * 9 + m) ≤ 60000)
    (hQ : ∀ z : Int, (0 ≤ z ∧ z < 33554432) → (∀ j, 0 ≤ j → j < 25 → wb_bt z j = (wb_bt am j && wb_mt2 a (on ((k0 + st * j) * 9 + m)))) → Q (some (.int (wb_i z))) N w) : wb_M G M_X2_onwardPairs [.ref b, .int (wb_i a), .int (wb_i m), .int (wb_i k0), .int (wb_i st), .int (wb_i am)] N w Q := by
  have hb' := hb
  obtain ⟨f0, f1, h0, h1, h2, h3, h4, h5⟩ := hb
  unfold wb_M
  have lp : ∀ i, i ≤ 25 → ∀ z : Int, 0 ≤ i → (0 ≤ z ∧ z < 33554432) → (∀ j, 0 ≤ j → j < 25 → wb_bt z j = (decide (j < i) && (wb_bt am j && wb_mt2 a (on ((k0 + st * j) * 9 + m))))) → wb_V G M_X2_onwardPairs 6 [(0, .ref b), (1, .int (wb_i a)), (2, .int (wb_i m)), (3, .int (wb_i k0)), (4, .int (wb_i st)), (5, .int (wb_i am)), (6, .int (wb_i z)), (7, .int (wb_i i))] [] N w 0 0 Q := by
    refine wb_up 25 _ ?_
    intro i ih hi z hi0 hz hzb
    have hki : i < 25 → 0 ≤ k0 + st * i ∧ k0 + st * i < ke := fun _ => by rcases hst with rfl | rfl <;> omega
    have n0 : i < 25 → (wb_bt am i && wb_mt2 a (on ((k0 + st * i) * 9 + m))) = false → wb_V G M_X2_onwardPairs 6 [(0, .ref b), (1, .int (wb_i a)), (2, .int (wb_i m)), (3, .int (wb_i k0)), (4, .int (wb_i st)), (5, .int (wb_i am)), (6, .int (wb_i z)), (7, .int (wb_i (i + 1)))] [] N w 0 0 Q := by
      intro hin hno
      refine ih (i + 1) (by omega) (by omega) z (by omega) hz (fun j j1 j2 => ?_)
      rw [hzb j j1 j2]
      by_cases hj : j = i
      · rw [hj, hno]; simp
      · rw [show decide (j < i + 1) = decide (j < i) by congr 1; apply propext; omega]
    have n1 : i < 25 → (wb_bt am i && wb_mt2 a (on ((k0 + st * i) * 9 + m))) = true → wb_V G M_X2_onwardPairs 6 [(0, .ref b), (1, .int (wb_i a)), (2, .int (wb_i m)), (3, .int (wb_i k0)), (4, .int (wb_i st)), (5, .int (wb_i am)), (6, .int (wb_i (wb_ad1 z i))), (7, .int (wb_i (i + 1)))] [] N w 0 0 Q := by
      intro hin hyes
      refine ih (i + 1) (by omega) (by omega) (wb_ad1 z i) (by omega) (wb_ad1_rg (k := 25) hz (by omega)) (fun j j1 j2 => ?_)
      rw [wb_ad1_bt j hi0 j1, hzb j j1 j2]
      by_cases hj : j = i
      · rw [hj, hyes]; simp [show i < i + 1 by omega]
      · rw [show decide (j < i + 1) = decide (j < i) by congr 1; apply propext; omega]; simp [hj]
    have hoi := fun q : i < 25 => hon i hi0 q
    have hsh := fun q : i < 25 => wb_sh1 (d := am) (m := i) (by omega) (by omega)
    refine vi_iload 4 rfl rfl ?_
    refine vi_bipush 5 rfl (by decide) ?_
    refine vi_icmp_ge 6 rfl (by omega) (by omega) (fun c_10 => ?_) (fun c_10 => ?_)
    · refine vi_iload 46 rfl rfl ?_
      exact vi_ireturn 47 rfl rfl rfl (Nat.zero_le _) (Nat.zero_le _) (hQ z hz (fun j j1 j2 => by rw [hzb j j1 j2]; first | (rw [show i = 25 by omega]; simp [j2]; done) | (unfold wb_mt2; simp [show ¬ 0 ≤ a by omega]; done)))
    · refine vi_iload_n 7 rfl rfl ?_
      refine vi_if_lt 8 rfl (by omega) (fun c_14 => ?_) (fun c_14 => ?_)
      · refine vi_iload 46 rfl rfl ?_
        exact vi_ireturn 47 rfl rfl rfl (Nat.zero_le _) (Nat.zero_le _) (hQ z hz (fun j j1 j2 => by rw [hzb j j1 j2]; first | (rw [show i = 25 by omega]; simp [j2]; done) | (unfold wb_mt2; simp [show ¬ 0 ≤ a by omega]; done)))
      · refine vi_iload 9 rfl rfl ?_
        refine vi_iload 10 rfl rfl ?_
        refine vi_ishr 11 rfl ?_
        refine vi_iconst 12 rfl ?_
        refine vi_iand 13 rfl ?_
        rw [hsh (by omega)]
        refine vi_if_eq 14 rfl (by split <;> decide) (fun c_24 => ?_) (fun c_24 => ?_)
        · have hbf : wb_bt am i = false := by (cases hh : wb_bt am i with | false => rfl | true => rw [hh] at c_24; simp at c_24)
          refine vi_iconst 24 rfl ?_
          refine vi_istore 25 rfl rfl ?_
          refine vi_iload 26 rfl rfl ?_
          refine vi_if_lt 27 rfl (by have := hoi (by omega); omega) (fun _ => ?_) (fun c => absurd c (by decide))
          refine vi_iinc 44 rfl rfl rfl ?_
          refine vi_goto 45 rfl ?_
          first | exact vi_lc (n1 (by omega) (by rw [hbt]; unfold wb_mt2; simp; omega)) ⟨rfl, rfl, rfl, rfl, rfl, rfl, rfl, rfl, trivial⟩ | exact vi_lc (n0 (by omega) (by rw [hbf]; rfl)) ⟨rfl, rfl, rfl, rfl, rfl, rfl, rfl, rfl, trivial⟩ | exact vi_lc (n0 (by omega) (by rw [hbt]; unfold wb_mt2; simp; omega)) ⟨rfl, rfl, rfl, rfl, rfl, rfl, rfl, rfl, trivial⟩
        · have hbt : wb_bt am i = true := by (cases hh : wb_bt am i with | true => rfl | false => rw [hh] at c_24; simp at c_24)
          refine vi_aload_n 15 rfl rfl ?_
          refine vi_iload_n 16 rfl rfl ?_
          refine vi_iload 17 rfl rfl ?_
          refine vi_iload 18 rfl rfl ?_
          refine vi_imul 19 rfl ?_
          refine vi_iadd 20 rfl ?_
          refine vi_iload_n 21 rfl rfl ?_
          refine vi_V2 22 ok_X2_onwardFrom rfl c_X2_117 h0 rfl rfl ?_
          refine sp_X2_onwardFrom hb' hke hrm (hki (by omega)) hm ?_
          refine vi_goto 23 rfl ?_
          refine vi_istore 25 rfl rfl ?_
          refine vi_iload 26 rfl rfl ?_
          refine vi_if_lt 27 rfl (by have := hoi (by omega); omega) (fun c_47 => ?_) (fun c_47 => ?_)
          · refine vi_iinc 44 rfl rfl rfl ?_
            refine vi_goto 45 rfl ?_
            first | exact vi_lc (n1 (by omega) (by rw [hbt]; unfold wb_mt2; simp; omega)) ⟨rfl, rfl, rfl, rfl, rfl, rfl, rfl, rfl, trivial⟩ | exact vi_lc (n0 (by omega) (by rw [hbf]; rfl)) ⟨rfl, rfl, rfl, rfl, rfl, rfl, rfl, rfl, trivial⟩ | exact vi_lc (n0 (by omega) (by rw [hbt]; unfold wb_mt2; simp; omega)) ⟨rfl, rfl, rfl, rfl, rfl, rfl, rfl, rfl, trivial⟩
          · have hoo := hoi (by omega)
            refine vi_iload_n 28 rfl rfl ?_
            refine vi_S1 29 ok_X11_lowOf rfl c_X2_120 rfl ?_
            refine sp_X11_lowOf (by omega) ?_
            refine vi_iload 30 rfl rfl ?_
            refine vi_S1 31 ok_X11_highOf rfl c_X2_124 rfl ?_
            refine sp_X11_highOf (by omega) ?_
            refine vi_icmp_gt 32 rfl (by omega) (by omega) (fun c_59 => ?_) (fun c_59 => ?_)
            · refine vi_iinc 44 rfl rfl rfl ?_
              refine vi_goto 45 rfl ?_
              first | exact vi_lc (n1 (by omega) (by rw [hbt]; unfold wb_mt2; simp; omega)) ⟨rfl, rfl, rfl, rfl, rfl, rfl, rfl, rfl, trivial⟩ | exact vi_lc (n0 (by omega) (by rw [hbf]; rfl)) ⟨rfl, rfl, rfl, rfl, rfl, rfl, rfl, rfl, trivial⟩ | exact vi_lc (n0 (by omega) (by rw [hbt]; unfold wb_mt2; simp; omega)) ⟨rfl, rfl, rfl, rfl, rfl, rfl, rfl, rfl, trivial⟩
            · refine vi_iload 33 rfl rfl ?_
              refine vi_S1 34 ok_X11_lowOf rfl c_X2_120 rfl ?_
              refine sp_X11_lowOf (by omega) ?_
              refine vi_iload_n 35 rfl rfl ?_
              refine vi_S1 36 ok_X11_highOf rfl c_X2_124 rfl ?_
              refine sp_X11_highOf (by omega) ?_
              refine vi_icmp_gt 37 rfl (by omega) (by omega) (fun c_71 => ?_) (fun c_71 => ?_)
              · refine vi_iinc 44 rfl rfl rfl ?_
                refine vi_goto 45 rfl ?_
                first | exact vi_lc (n1 (by omega) (by rw [hbt]; unfold wb_mt2; simp; omega)) ⟨rfl, rfl, rfl, rfl, rfl, rfl, rfl, rfl, trivial⟩ | exact vi_lc (n0 (by omega) (by rw [hbf]; rfl)) ⟨rfl, rfl, rfl, rfl, rfl, rfl, rfl, rfl, trivial⟩ | exact vi_lc (n0 (by omega) (by rw [hbt]; unfold wb_mt2; simp; omega)) ⟨rfl, rfl, rfl, rfl, rfl, rfl, rfl, rfl, trivial⟩
              · refine vi_iload 38 rfl rfl ?_
                refine vi_iconst 39 rfl ?_
                refine vi_iload 40 rfl rfl ?_
                refine vi_ishl 41 rfl ?_
                refine vi_ior 42 rfl ?_
                rw [wb_or1 (by omega) (by omega)]
                refine vi_istore 43 rfl rfl ?_
                refine vi_iinc 44 rfl rfl rfl ?_
                refine vi_goto 45 rfl ?_
                first | exact vi_lc (n1 (by omega) (by rw [hbt]; unfold wb_mt2; simp; omega)) ⟨rfl, rfl, rfl, rfl, rfl, rfl, rfl, rfl, trivial⟩ | exact vi_lc (n0 (by omega) (by rw [hbf]; rfl)) ⟨rfl, rfl, rfl, rfl, rfl, rfl, rfl, rfl, trivial⟩ | exact vi_lc (n0 (by omega) (by rw [hbt]; unfold wb_mt2; simp; omega)) ⟨rfl, rfl, rfl, rfl, rfl, rfl, rfl, rfl, trivial⟩
  refine vi_iconst 0 rfl ?_
  refine vi_istore 1 rfl rfl ?_
  refine vi_iconst 2 rfl ?_
  refine vi_istore 3 rfl rfl ?_
  exact vi_lc (lp 0 (by omega) 0 (by omega) (by omega) (fun j j1 j2 => by rw [wb_bt0]; simp [show ¬ j < 0 by omega])) ⟨rfl, rfl, rfl, rfl, rfl, rfl, rfl, rfl, trivial⟩
/-- the highest bit of a set; the lowest -/
theorem sp_X11_highestPlace {z : Int} (hz : 0 ≤ z ∧ z < 2147483648) (hQ : ∀ p : Int, (∀ j, p < j → j < 31 → wb_bt z j = false) → (0 ≤ p ∧ p < 31) → (wb_bt z p = true ∨ p = 0) → Q (some (.int (wb_i p))) N w) : wb_M G M_X11_highestPlace [.int (wb_i z)] N w Q := by
  unfold wb_M
  have lp : ∀ i, i ≤ 31 → ∀ p : Int, 0 ≤ i → (0 ≤ p ∧ p < 31) → (∀ j, p < j → j < i → wb_bt z j = false) → (wb_bt z p = true ∨ p = 0) → wb_V G M_X11_highestPlace 4 [(0, .int (wb_i z)), (1, .int (wb_i p)), (2, .int (wb_i i))] [] N w 0 0 Q := by
    refine wb_up 31 _ ?_
    intro i ih hi p hi0 hp hpj hpp
    have hsh := fun q : i < 31 => wb_sh1 (d := z) (m := i) (by omega) (by omega)
    refine vi_iload_n 4 rfl rfl ?_
    refine vi_bipush 5 rfl (by decide) ?_
    refine vi_icmp_ge 6 rfl (by omega) (by omega) (fun c_7 => ?_) (fun c_7 => ?_)
    · refine vi_iload_n 17 rfl rfl ?_
      exact vi_ireturn 18 rfl rfl rfl (Nat.zero_le _) (Nat.zero_le _) (hQ p (fun j j1 j2 => hpj j j1 (by omega)) hp hpp)
    · refine vi_iload_n 7 rfl rfl ?_
      refine vi_iload_n 8 rfl rfl ?_
      refine vi_ishr 9 rfl ?_
      refine vi_iconst 10 rfl ?_
      refine vi_iand 11 rfl ?_
      rw [hsh (by omega)]
      refine vi_if_eq 12 rfl (by split <;> decide) (fun c_15 => ?_) (fun c_15 => ?_)
      · have hbf : wb_bt z i = false := by (cases hh : wb_bt z i with | false => rfl | true => rw [hh] at c_15; simp at c_15)
        refine vi_iinc 15 rfl rfl rfl ?_
        refine vi_goto 16 rfl ?_
        first | exact vi_lc (ih (i + 1) (by omega) (by omega) i (by omega) (by omega) (fun j j1 j2 => by omega) (Or.inl hbt)) ⟨rfl, rfl, rfl, trivial⟩ | exact vi_lc (ih (i + 1) (by omega) (by omega) p (by omega) hp (fun j j1 j2 => (show j < i ∨ j = i by omega).elim (hpj j j1) (fun q => q ▸ hbf)) hpp) ⟨rfl, rfl, rfl, trivial⟩
      · have hbt : wb_bt z i = true := by (cases hh : wb_bt z i with | true => rfl | false => rw [hh] at c_15; simp at c_15)
        refine vi_iload_n 13 rfl rfl ?_
        refine vi_istore_n 14 rfl rfl ?_
        refine vi_iinc 15 rfl rfl rfl ?_
        refine vi_goto 16 rfl ?_
        first | exact vi_lc (ih (i + 1) (by omega) (by omega) i (by omega) (by omega) (fun j j1 j2 => by omega) (Or.inl hbt)) ⟨rfl, rfl, rfl, trivial⟩ | exact vi_lc (ih (i + 1) (by omega) (by omega) p (by omega) hp (fun j j1 j2 => (show j < i ∨ j = i by omega).elim (hpj j j1) (fun q => q ▸ hbf)) hpp) ⟨rfl, rfl, rfl, trivial⟩
  refine vi_iconst 0 rfl ?_
  refine vi_istore_n 1 rfl rfl ?_
  refine vi_iconst 2 rfl ?_
  refine vi_istore_n 3 rfl rfl ?_
  exact vi_lc (lp 0 (by omega) 0 (by omega) (by omega) (fun j j1 j2 => by omega) (Or.inr rfl)) ⟨rfl, rfl, rfl, trivial⟩
/-- least or most over a set of pairs, by an order -/
def wb_eo (e : Int) (a v : Int) : Int := if a < 0 then v else if e = 0 then (if v < a then v else a) else (if a < v then v else a)
def wb_en (z e : Int) (f : Int → Int) : Nat → Int
  | 0 => -1
  | k + 1 => if wb_bt z k then wb_eo e (wb_en z e f k) (f k) else wb_en z e f k
theorem wb_en_rg {z e : Int} {f : Int → Int} {B : Int} (hf : ∀ k : Int, 0 ≤ k → k < 25 → 0 ≤ f k ∧ f k ≤ B) (hB : 0 ≤ B) : ∀ k : Nat, k ≤ 25 → -1 ≤ wb_en z e f k ∧ wb_en z e f k ≤ B := by
  intro k
  induction k with
  | zero => intro _; simp [wb_en]; omega
  | succ k ih =>
    intro hk
    have i1 := ih (by omega)
    have i2 := hf (k : Int) (by omega) (by omega)
    unfold wb_en wb_eo
    split
    · split
      · omega
      · split <;> split <;> omega
    · exact i1
theorem sp_X11_endOfNeeds {z p q e : Int} (hz : 0 ≤ z ∧ z < 33554432) (hp : 0 ≤ p ∧ p ≤ 20) (hq : 0 ≤ q ∧ q ≤ 20) (he : 0 ≤ e ∧ e ≤ 1) (hQ : Q (some (.int (wb_i (wb_en z e (fun r => p * (r / 5) + q * (r % 5)) 25)))) N w) : wb_M G M_X11_endOfNeeds [.int (wb_i z), .int (wb_i p), .int (wb_i q), .int (wb_i e)] N w Q := by
  unfold wb_M
  have hf : ∀ k : Int, 0 ≤ k → k < 25 → 0 ≤ (fun r => p * (r / 5) + q * (r % 5)) k ∧ (fun r => p * (r / 5) + q * (r % 5)) k ≤ 160 := by
    intro k k1 k2
    have a1 : 0 ≤ k / 5 ∧ k / 5 ≤ 4 := by omega
    have a2 : 0 ≤ k % 5 ∧ k % 5 ≤ 4 := by omega
    have b1 : p * (k / 5) ≤ 20 * 4 := Int.mul_le_mul hp.2 a1.2 a1.1 (by omega)
    have b2 : q * (k % 5) ≤ 20 * 4 := Int.mul_le_mul hq.2 a2.2 a2.1 (by omega)
    have b3 : 0 ≤ p * (k / 5) := Int.mul_nonneg hp.1 a1.1
    have b4 : 0 ≤ q * (k % 5) := Int.mul_nonneg hq.1 a2.1
    show 0 ≤ p * (k / 5) + q * (k % 5) ∧ p * (k / 5) + q * (k % 5) ≤ 160
    omega
  have lp : ∀ i, i ≤ 25 → ∀ v : Int, 0 ≤ i → v = wb_en z e (fun r => p * (r / 5) + q * (r % 5)) i.toNat → wb_V G M_X11_endOfNeeds 6 [(0, .int (wb_i z)), (1, .int (wb_i p)), (2, .int (wb_i q)), (3, .int (wb_i e)), (4, .int (wb_i v)), (5, .int (wb_i i))] [] N w 0 0 Q := by
    refine wb_up 25 _ ?_
    intro i ih hi v hi0 hv
    have hsh := fun q : i < 25 => wb_sh1 (d := z) (m := i) (by omega) (by omega)
    have hvr := wb_en_rg (z := z) (e := e) hf (by omega) i.toNat (by omega)
    rw [← hv] at hvr
    have hfi := fun q : i < 25 => hf i hi0 q
    dsimp only at hfi
    have hst : i < 25 → (i + 1).toNat = i.toNat + 1 := fun _ => by omega
    have hii : ((i.toNat : Nat) : Int) = i := by omega
    refine vi_iload 4 rfl rfl ?_
    refine vi_bipush 5 rfl (by decide) ?_
    refine vi_icmp_ge 6 rfl (by omega) (by omega) (fun c_10 => ?_) (fun c_10 => ?_)
    · refine vi_iload 41 rfl rfl ?_
      exact vi_ireturn 42 rfl rfl rfl (Nat.zero_le _) (Nat.zero_le _) (wb_e (by rw [hv, show i = 25 by omega]; rfl) hQ)
    · refine vi_iload_n 7 rfl rfl ?_
      refine vi_iload 8 rfl rfl ?_
      refine vi_ishr 9 rfl ?_
      refine vi_iconst 10 rfl ?_
      refine vi_iand 11 rfl ?_
      rw [hsh (by omega)]
      refine vi_if_eq 12 rfl (by split <;> decide) (fun c_19 => ?_) (fun c_19 => ?_)
      · have hbf : wb_bt z i = false := by (cases hh : wb_bt z i with | false => rfl | true => rw [hh] at c_19; simp at c_19)
        refine vi_iinc 39 rfl rfl rfl ?_
        refine vi_goto 40 rfl ?_
        first | exact vi_lc (ih (i + 1) (by omega) (by omega) v (by omega) (by rw [hst (by omega), wb_en, hii, hbf]; exact hv)) ⟨rfl, rfl, rfl, rfl, rfl, rfl, trivial⟩ | exact vi_lc (ih (i + 1) (by omega) (by omega) _ (by omega) (by rw [hst (by omega), wb_en, hii, hbt, if_pos rfl, ← hv]; unfold wb_eo; first | (rw [if_pos (by omega)]; done) | (rw [if_neg (show ¬ v < 0 by omega), if_pos c_48]; done) | (rw [if_neg (show ¬ v < 0 by omega), if_neg c_48]; done))) ⟨rfl, rfl, rfl, rfl, rfl, rfl, trivial⟩
      · have hbt : wb_bt z i = true := by (cases hh : wb_bt z i with | true => rfl | false => rw [hh] at c_19; simp at c_19)
        have hfr := hfi (by omega)
        refine vi_iload_n 13 rfl rfl ?_
        refine vi_iload 14 rfl rfl ?_
        refine vi_iconst 15 rfl ?_
        refine vi_idiv 16 rfl (by omega) (by omega) ?_
        refine vi_imul 17 rfl ?_
        refine vi_iload_n 18 rfl rfl ?_
        refine vi_iload 19 rfl rfl ?_
        refine vi_iconst 20 rfl ?_
        refine vi_irem 21 rfl (by omega) (by omega) ?_
        refine vi_imul 22 rfl ?_
        refine vi_iadd 23 rfl ?_
        refine vi_istore 24 rfl rfl ?_
        refine vi_iload 25 rfl rfl ?_
        refine vi_if_ge 26 rfl (by omega) (fun c_39 => ?_) (fun c_39 => ?_)
        · refine vi_iload_n 29 rfl rfl ?_
          refine vi_if_ne 30 rfl (by omega) (fun c_48 => ?_) (fun c_48 => ?_)
          · refine vi_iload 35 rfl rfl ?_
            refine vi_iload 36 rfl rfl ?_
            refine vi_max 37 rfl c_X11_290 rfl (by omega) (by omega) ?_
            refine vi_istore 38 rfl rfl ?_
            refine vi_iinc 39 rfl rfl rfl ?_
            refine vi_goto 40 rfl ?_
            first | exact vi_lc (ih (i + 1) (by omega) (by omega) v (by omega) (by rw [hst (by omega), wb_en, hii, hbf]; exact hv)) ⟨rfl, rfl, rfl, rfl, rfl, rfl, trivial⟩ | exact vi_lc (ih (i + 1) (by omega) (by omega) _ (by omega) (by rw [hst (by omega), wb_en, hii, hbt, if_pos rfl, ← hv]; unfold wb_eo; first | (rw [if_pos (by omega)]; done) | (rw [if_neg (show ¬ v < 0 by omega), if_pos c_48]; done) | (rw [if_neg (show ¬ v < 0 by omega), if_neg c_48]; done))) ⟨rfl, rfl, rfl, rfl, rfl, rfl, trivial⟩
          · refine vi_iload 31 rfl rfl ?_
            refine vi_iload 32 rfl rfl ?_
            refine vi_min 33 rfl c_X11_285 rfl (by omega) (by omega) ?_
            refine vi_goto 34 rfl ?_
            refine vi_istore 38 rfl rfl ?_
            refine vi_iinc 39 rfl rfl rfl ?_
            refine vi_goto 40 rfl ?_
            first | exact vi_lc (ih (i + 1) (by omega) (by omega) v (by omega) (by rw [hst (by omega), wb_en, hii, hbf]; exact hv)) ⟨rfl, rfl, rfl, rfl, rfl, rfl, trivial⟩ | exact vi_lc (ih (i + 1) (by omega) (by omega) _ (by omega) (by rw [hst (by omega), wb_en, hii, hbt, if_pos rfl, ← hv]; unfold wb_eo; first | (rw [if_pos (by omega)]; done) | (rw [if_neg (show ¬ v < 0 by omega), if_pos c_48]; done) | (rw [if_neg (show ¬ v < 0 by omega), if_neg c_48]; done))) ⟨rfl, rfl, rfl, rfl, rfl, rfl, trivial⟩
        · refine vi_iload 27 rfl rfl ?_
          refine vi_goto 28 rfl ?_
          refine vi_istore 38 rfl rfl ?_
          refine vi_iinc 39 rfl rfl rfl ?_
          refine vi_goto 40 rfl ?_
          first | exact vi_lc (ih (i + 1) (by omega) (by omega) v (by omega) (by rw [hst (by omega), wb_en, hii, hbf]; exact hv)) ⟨rfl, rfl, rfl, rfl, rfl, rfl, trivial⟩ | exact vi_lc (ih (i + 1) (by omega) (by omega) _ (by omega) (by rw [hst (by omega), wb_en, hii, hbt, if_pos rfl, ← hv]; unfold wb_eo; first | (rw [if_pos (by omega)]; done) | (rw [if_neg (show ¬ v < 0 by omega), if_pos c_48]; done) | (rw [if_neg (show ¬ v < 0 by omega), if_neg c_48]; done))) ⟨rfl, rfl, rfl, rfl, rfl, rfl, trivial⟩
  refine vi_iconst 0 rfl ?_
  refine vi_istore 1 rfl rfl ?_
  refine vi_iconst 2 rfl ?_
  refine vi_istore 3 rfl rfl ?_
  exact vi_lc (lp 0 (by omega) (-1) (by omega) rfl) ⟨rfl, rfl, rfl, rfl, rfl, rfl, trivial⟩
end WBS27
