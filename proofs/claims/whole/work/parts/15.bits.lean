/-! ===== bits of longs; how many; the lowest ===== -/
def wb_tb (x : Int64) (b : Int) : Bool := x.toBitVec.getLsbD b.toNat
theorem wb_tb_and (x y : Int64) (b : Int) : wb_tb (x &&& y) b = (wb_tb x b && wb_tb y b) := by simp [wb_tb]
theorem wb_tb_or (x y : Int64) (b : Int) : wb_tb (x ||| y) b = (wb_tb x b || wb_tb y b) := by simp [wb_tb]
theorem wb_tb_0 (b : Int) : wb_tb 0 b = false := by simp [wb_tb]
theorem wb_tb_m1 {b : Int} (h : 0 ≤ b ∧ b < 64) : wb_tb (-1) b = true := by
  have : ∀ k : Fin 64, wb_tb (-1) (k.val : Int) = true := by decide +kernel
  have h2 := this ⟨b.toNat, by omega⟩
  rwa [show ((b.toNat : Nat) : Int) = b by omega] at h2
theorem wb_tb_1 {b : Int} (h : 0 ≤ b ∧ b < 64) : wb_tb 1 b = decide (b = 0) := by
  have : ∀ k : Fin 64, wb_tb 1 (k.val : Int) = decide ((k.val : Int) = 0) := by decide +kernel
  have h2 := this ⟨b.toNat, by omega⟩
  rwa [show ((b.toNat : Nat) : Int) = b by omega] at h2
theorem wb_tb_HA {b : Int} (h : 0 ≤ b ∧ b < 64) : wb_tb wb_HA b = decide (b < 61) := by
  have : ∀ k : Fin 64, wb_tb wb_HA (k.val : Int) = decide ((k.val : Int) < 61) := by decide +kernel
  have h2 := this ⟨b.toNat, by omega⟩
  rwa [show ((b.toNat : Nat) : Int) = b by omega] at h2
theorem wb_tb_ext {x y : Int64} (h : ∀ b, 0 ≤ b → b < 64 → wb_tb x b = wb_tb y b) : x = y := by
  apply Int64.toBitVec_inj.mp
  apply BitVec.eq_of_getLsbD_eq
  intro i hi
  have := h (i : Int) (by omega) (by omega)
  simpa [wb_tb] using this
theorem wb_tb_not {x : Int64} {b : Int} (h : 0 ≤ b ∧ b < 64) : wb_tb (x ^^^ -1) b = !wb_tb x b := by
  have h1 := wb_tb_m1 h
  unfold wb_tb at h1 ⊢
  rw [Int64.toBitVec_xor, BitVec.getLsbD_xor, h1]
  simp
theorem wb_tb_eq0 {x : Int64} : x = 0 ↔ ∀ b, 0 ≤ b → b < 64 → wb_tb x b = false := by
  constructor
  · intro h b _ _; rw [h]; exact wb_tb_0 b
  · intro h; exact wb_tb_ext (fun b h1 h2 => by rw [h b h1 h2, wb_tb_0])
theorem wb_sl : ∀ k : Fin 64, (((wb_i (k.val : Int)).toInt64 &&& 63).toBitVec.smod 64).toNat = k.val := by decide +kernel
theorem wb_su : ∀ k : Fin 64, (((wb_i (k.val : Int)).toInt64.toUInt64 &&& Int64.toUInt64 63).toBitVec % 64).toNat = k.val := by decide +kernel
theorem wb_tb_shl {x : Int64} {k b : Int} (hk : 0 ≤ k ∧ k < 64) (hb : 0 ≤ b ∧ b < 64) : wb_tb (x <<< ((wb_i k).toInt64 &&& 63)) b = (decide (k ≤ b) && wb_tb x (b - k)) := by
  have e := wb_sl ⟨k.toNat, by omega⟩
  simp only [show ((k.toNat : Nat) : Int) = k by omega] at e
  unfold wb_tb
  rw [show (x <<< ((wb_i k).toInt64 &&& 63)).toBitVec = x.toBitVec <<< (((wb_i k).toInt64 &&& 63).toBitVec.smod 64) from rfl, BitVec.shiftLeft_eq', e, BitVec.getLsbD_shiftLeft]
  by_cases h : k ≤ b
  · rw [show b.toNat - k.toNat = (b - k).toNat by omega]
    simp [h, show ¬ b.toNat < k.toNat by omega, show b.toNat < 64 by omega]
  · simp [h, show b.toNat < k.toNat by omega]
theorem wb_tb_shr {x : Int64} {k b : Int} (hk : 0 ≤ k ∧ k < 64) (hb : 0 ≤ b) : wb_tb ((x.toUInt64 >>> ((wb_i k).toInt64.toUInt64 &&& Int64.toUInt64 63)).toInt64) b = wb_tb x (b + k) := by
  have e := wb_su ⟨k.toNat, by omega⟩
  simp only [show ((k.toNat : Nat) : Int) = k by omega] at e
  unfold wb_tb
  rw [show ((x.toUInt64 >>> ((wb_i k).toInt64.toUInt64 &&& Int64.toUInt64 63)).toInt64).toBitVec = x.toBitVec >>> (((wb_i k).toInt64.toUInt64 &&& Int64.toUInt64 63).toBitVec % 64) from rfl, BitVec.ushiftRight_eq', e, BitVec.getLsbD_ushiftRight]
  congr 1
  omega
/-- how many of the first n -/
def wb_ct (p : Int → Bool) : Nat → Int
  | 0 => 0
  | n + 1 => wb_ct p n + (if p (n : Int) then 1 else 0)
def wb_pc (x : Int64) : Int := wb_ct (wb_tb x) 64
theorem wb_ct_rg (p : Int → Bool) : ∀ n : Nat, 0 ≤ wb_ct p n ∧ wb_ct p n ≤ n := by
  intro n
  induction n with
  | zero => simp [wb_ct]
  | succ n ih => unfold wb_ct; split <;> omega
theorem wb_ct_low (p : Int → Bool) : ∀ n : Nat, wb_ct p (n + 1) = (if p 0 then 1 else 0) + wb_ct (fun i => p (i + 1)) n := by
  intro n
  induction n with
  | zero => simp [wb_ct]
  | succ n ih =>
    rw [wb_ct, ih]
    show _ = _ + (wb_ct (fun i => p (i + 1)) n + _)
    rw [show ((n + 1 : Nat) : Int) = (n : Int) + 1 from rfl]
    exact Int.add_assoc _ _ _
theorem wb_ct_congr {p q : Int → Bool} : ∀ n : Nat, (∀ i : Int, 0 ≤ i → i < n → p i = q i) → wb_ct p n = wb_ct q n := by
  intro n
  induction n with
  | zero => intro _; rfl
  | succ n ih => intro h; unfold wb_ct; rw [ih (fun i h1 h2 => h i h1 (by omega)), h n (by omega) (by omega)]
def wb_pn : Nat → Nat → Nat
  | 0, _ => 0
  | k + 1, X => X % 2 + wb_pn k (X / 2)
theorem wb_pn_ct : ∀ (k X : Nat), (wb_pn k X : Int) = wb_ct (fun i => X.testBit i.toNat) k := by
  intro k
  induction k with
  | zero => intro X; rfl
  | succ k ih =>
    intro X
    rw [wb_ct_low, wb_pn]
    have e : wb_ct (fun i => X.testBit (i + 1).toNat) k = wb_ct (fun i => (X / 2).testBit i.toNat) k := by
      apply wb_ct_congr
      intro i h1 h2
      rw [show (i + 1).toNat = i.toNat + 1 by omega, Nat.testBit_succ]
    rw [e, ← ih]
    have h0 : X.testBit (0 : Int).toNat = decide (X % 2 = 1) := by
      show X.testBit 0 = _
      rw [Nat.testBit_zero]
    rw [h0]
    rcases Nat.mod_two_eq_zero_or_one X with h | h <;> simp [h]
theorem wb_pn_add : ∀ (a b X : Nat), wb_pn (a + b) X = wb_pn a X + wb_pn b (X / 2 ^ a) := by
  intro a
  induction a with
  | zero => intro b X; simp [wb_pn]
  | succ a ih =>
    intro b X
    rw [show a + 1 + b = (a + b) + 1 by omega, wb_pn, ih, wb_pn, Nat.div_div_eq_div_mul, Nat.pow_succ, Nat.mul_comm 2]
    omega
theorem wb_pn_mod : ∀ (a X : Nat), wb_pn a (X % 2 ^ a) = wb_pn a X := by
  intro a
  induction a with
  | zero => intro X; rfl
  | succ a ih =>
    intro X
    rw [wb_pn, wb_pn, ← ih (X / 2)]
    have h1 : X % 2 ^ (a + 1) % 2 = X % 2 := Nat.mod_mod_of_dvd X ⟨2 ^ a, by rw [Nat.pow_succ, Nat.mul_comm]⟩
    have h2 : X % 2 ^ (a + 1) / 2 = X / 2 % 2 ^ a := by
      rw [Nat.pow_succ, Nat.mul_comm, Nat.mod_mul_right_div_self]
    rw [h1, h2]
theorem wb_pc_pn (x : Int64) : wb_pc x = (wb_pn 64 x.toBitVec.toNat : Int) := by
  rw [wb_pn_ct]
  rfl
/-! the trick of bitCount, a byte after the other -/
def wb_s1 (X m : Nat) : Nat := X - (X / 2 &&& m)
def wb_s2 (X m : Nat) : Nat := (X &&& m) + (X / 4 &&& m)
def wb_s3 (X m : Nat) : Nat := (X + X / 16) &&& m
def wb_mk (b : Nat) : Nat → Nat
  | 0 => 0
  | k + 1 => 256 * wb_mk b k + b
theorem wb_land {a b c d : Nat} (hc : c < 256) (hd : d < 256) : (256 * a + c) &&& (256 * b + d) = 256 * (a &&& b) + (c &&& d) := by
  have h1 := Nat.and_div_two_pow (a := 256 * a + c) (b := 256 * b + d) (n := 8)
  have h2 := Nat.and_mod_two_pow (a := 256 * a + c) (b := 256 * b + d) (n := 8)
  rw [show (256 * a + c) / 2 ^ 8 = a by omega, show (256 * b + d) / 2 ^ 8 = b by omega] at h1
  rw [show (256 * a + c) % 2 ^ 8 = c by omega, show (256 * b + d) % 2 ^ 8 = d by omega] at h2
  have h3 := Nat.div_add_mod ((256 * a + c) &&& (256 * b + d)) (2 ^ 8)
  omega
theorem wb_swar1 : ∀ r : Fin 256, ∀ y : Fin 2, (128 * y.val + r.val / 2) &&& 0x55 = r.val / 2 &&& 0x55 := by decide +kernel
theorem wb_swar1b : ∀ r : Fin 256, (r.val / 2 &&& 0x55) ≤ r.val := by decide +kernel
theorem wb_swar2 : ∀ r : Fin 256, ∀ y : Fin 4, (64 * y.val + r.val / 4) &&& 0x33 = r.val / 4 &&& 0x33 := by decide +kernel
theorem wb_swar3 : ∀ r : Fin 256, wb_s2 (wb_s1 r.val 0x55) 0x33 % 16 ≤ 4 ∧ wb_s2 (wb_s1 r.val 0x55) 0x33 ≤ 68 ∧ wb_s3 (wb_s2 (wb_s1 r.val 0x55) 0x33) 0x0f = wb_pn 8 r.val := by decide +kernel
theorem wb_swar4 : ∀ c : Fin 69, ∀ y : Fin 5, (c.val + c.val / 16 + 16 * y.val) &&& 0x0f = (c.val + c.val / 16) &&& 0x0f := by decide +kernel
theorem wb_swar4b : ∀ c : Fin 69, ∀ y : Fin 5, c.val + c.val / 16 + 16 * y.val < 256 := by decide +kernel
theorem wb_st1 {Y r m : Nat} (hr : r < 256) (hY : (Y / 2 &&& m) ≤ Y) : ((256 * Y + r) / 2 &&& (256 * m + 0x55)) ≤ 256 * Y + r ∧ wb_s1 (256 * Y + r) (256 * m + 0x55) = 256 * wb_s1 Y m + wb_s1 r 0x55 := by
  have e1 : (256 * Y + r) / 2 = 256 * (Y / 2) + (128 * (Y % 2) + r / 2) := by omega
  have e2 := wb_swar1 ⟨r, hr⟩ ⟨Y % 2, by omega⟩
  have e3 := wb_swar1b ⟨r, hr⟩
  simp only at e2 e3
  have e4 : (256 * Y + r) / 2 &&& (256 * m + 0x55) = 256 * (Y / 2 &&& m) + (r / 2 &&& 0x55) := by
    rw [e1, wb_land (by omega) (by decide), e2]
  unfold wb_s1
  rw [e4]
  omega
theorem wb_st2 {Y r m : Nat} (hr : r < 256) : wb_s2 (256 * Y + r) (256 * m + 0x33) = 256 * wb_s2 Y m + wb_s2 r 0x33 := by
  have e1 : (256 * Y + r) / 4 = 256 * (Y / 4) + (64 * (Y % 4) + r / 4) := by omega
  have e2 := wb_swar2 ⟨r, hr⟩ ⟨Y % 4, by omega⟩
  simp only at e2
  unfold wb_s2
  rw [e1, wb_land hr (by decide), wb_land (by omega) (by decide), e2]
  omega
theorem wb_st3 {Y c m : Nat} (hc : c ≤ 68) (hY : Y % 16 ≤ 4) : wb_s3 (256 * Y + c) (256 * m + 0x0f) = 256 * wb_s3 Y m + wb_s3 c 0x0f := by
  have e1 : (256 * Y + c) + (256 * Y + c) / 16 = 256 * (Y + Y / 16) + (c + c / 16 + 16 * (Y % 16)) := by omega
  have e2 := wb_swar4 ⟨c, by omega⟩ ⟨Y % 16, by omega⟩
  have e3 := wb_swar4b ⟨c, by omega⟩ ⟨Y % 16, by omega⟩
  simp only at e2 e3
  unfold wb_s3
  rw [e1, wb_land e3 (by decide), e2]
def wb_bc : Nat → Nat → Nat
  | 0, _ => 0
  | k + 1, X => 256 * wb_bc k (X / 256) + wb_pn 8 (X % 256)
theorem wb_swar : ∀ (k X : Nat), X < 256 ^ k → (X / 2 &&& wb_mk 0x55 k) ≤ X ∧ wb_s2 (wb_s1 X (wb_mk 0x55 k)) (wb_mk 0x33 k) % 16 ≤ 4 ∧ wb_s3 (wb_s2 (wb_s1 X (wb_mk 0x55 k)) (wb_mk 0x33 k)) (wb_mk 0x0f k) = wb_bc k X := by
  intro k
  induction k with
  | zero => intro X h; have : X = 0 := (by simpa using h); subst this; decide
  | succ k ih =>
    intro X h
    obtain ⟨i1, i2, i3⟩ := ih (X / 256) (by rw [Nat.pow_succ] at h; omega)
    have hX : X = 256 * (X / 256) + X % 256 := by omega
    have hr : X % 256 < 256 := by omega
    have s := wb_swar3 ⟨X % 256, hr⟩
    simp only at s
    have a1 := wb_st1 (Y := X / 256) (m := wb_mk 0x55 k) hr i1
    rw [← hX] at a1
    have hs1 : wb_s1 (X % 256) 0x55 < 256 := by unfold wb_s1; omega
    have a2 := wb_st2 (Y := wb_s1 (X / 256) (wb_mk 0x55 k)) (m := wb_mk 0x33 k) hs1
    have a3 := wb_st3 (Y := wb_s2 (wb_s1 (X / 256) (wb_mk 0x55 k)) (wb_mk 0x33 k)) (m := wb_mk 0x0f k) s.2.1 i2
    refine ⟨a1.1, ?_, ?_⟩
    · show wb_s2 (wb_s1 X (256 * wb_mk 0x55 k + 0x55)) (256 * wb_mk 0x33 k + 0x33) % 16 ≤ 4
      rw [a1.2, a2]
      omega
    · show wb_s3 (wb_s2 (wb_s1 X (256 * wb_mk 0x55 k + 0x55)) (256 * wb_mk 0x33 k + 0x33)) (256 * wb_mk 0x0f k + 0x0f) = _
      rw [a1.2, a2, a3, i3, s.2.2]
      rfl
theorem wb_bcs (X : Nat) : ∃ d0 d1 d2 d3 d4 d5 d6 d7 : Nat, d0 ≤ 8 ∧ d1 ≤ 8 ∧ d2 ≤ 8 ∧ d3 ≤ 8 ∧ d4 ≤ 8 ∧ d5 ≤ 8 ∧ d6 ≤ 8 ∧ d7 ≤ 8 ∧ wb_bc 8 X = d0 + 256 * (d1 + 256 * (d2 + 256 * (d3 + 256 * (d4 + 256 * (d5 + 256 * (d6 + 256 * d7)))))) ∧ wb_pn 64 X = d0 + d1 + d2 + d3 + d4 + d5 + d6 + d7 := by
  have hb : ∀ r, wb_pn 8 r ≤ 8 := by
    intro r
    have := (wb_ct_rg (fun i => r.testBit i.toNat) 8).2
    rw [← wb_pn_ct] at this
    omega
  have m8 : ∀ r, wb_pn 8 (r % 256) = wb_pn 8 r := wb_pn_mod 8
  refine ⟨_, _, _, _, _, _, _, _, hb X, hb (X / 256), hb (X / 256 / 256), hb (X / 256 / 256 / 256), hb (X / 256 / 256 / 256 / 256), hb (X / 256 / 256 / 256 / 256 / 256), hb (X / 256 / 256 / 256 / 256 / 256 / 256), hb (X / 256 / 256 / 256 / 256 / 256 / 256 / 256), ?_, ?_⟩
  · simp only [wb_bc, m8]
    omega
  · rw [show 64 = 8 + (8 + (8 + (8 + (8 + (8 + (8 + 8)))))) from rfl, wb_pn_add, wb_pn_add, wb_pn_add, wb_pn_add, wb_pn_add, wb_pn_add, wb_pn_add]
    simp only [show (2 : Nat) ^ 8 = 256 from rfl]
    omega
theorem wb_foldA {D d0 d1 d2 d3 d4 d5 d6 d7 : Nat} (h0 : d0 ≤ 8) (h1 : d1 ≤ 8) (h2 : d2 ≤ 8) (h3 : d3 ≤ 8) (h4 : d4 ≤ 8) (h5 : d5 ≤ 8) (h6 : d6 ≤ 8) (h7 : d7 ≤ 8) (e : D = d0 + 256 * (d1 + 256 * (d2 + 256 * (d3 + 256 * (d4 + 256 * (d5 + 256 * (d6 + 256 * d7))))))) :
    D / 256 = d1 + 256 * (d2 + 256 * (d3 + 256 * (d4 + 256 * (d5 + 256 * (d6 + 256 * d7))))) ∧ (D + D / 256) / 65536 = (d2 + 256 * (d3 + 256 * (d4 + 256 * (d5 + 256 * (d6 + 256 * d7))))) + (d3 + 256 * (d4 + 256 * (d5 + 256 * (d6 + 256 * d7)))) := by
  generalize hy3 : d3 + 256 * (d4 + 256 * (d5 + 256 * (d6 + 256 * d7))) = y3 at e ⊢
  have q1 : D / 256 = d1 + 256 * (d2 + 256 * y3) := by
    rw [e, Nat.add_mul_div_left _ _ (by decide), Nat.div_eq_of_lt (by omega), Nat.zero_add]
  refine ⟨q1, ?_⟩
  rw [q1]
  have q2 : D + (d1 + 256 * (d2 + 256 * y3)) = (d0 + d1 + 256 * (d1 + d2)) + 65536 * ((d2 + 256 * y3) + y3) := by
    rw [e]
    omega
  rw [q2, Nat.add_mul_div_left _ _ (by decide), Nat.div_eq_of_lt (by omega), Nat.zero_add]
theorem wb_fold (X : Nat) {D E F : Nat} (hD : D = wb_bc 8 X) (hE : E = D + D / 256) (hF : F = E + E / 65536) : (F + F / 4294967296) % 128 = wb_pn 64 X ∧ E < 2 ^ 64 ∧ F < 2 ^ 64 ∧ F + F / 4294967296 < 2 ^ 64 := by
  obtain ⟨d0, d1, d2, d3, d4, d5, d6, d7, h0, h1, h2, h3, h4, h5, h6, h7, e1, e2⟩ := wb_bcs X
  rw [← hD] at e1
  obtain ⟨q1, q2⟩ := wb_foldA h0 h1 h2 h3 h4 h5 h6 h7 e1
  rw [← hE] at q2
  obtain ⟨Y, hY⟩ : ∃ Y, Y = (d4 + 256 * (d5 + 256 * (d6 + 256 * d7))) + (d5 + 256 * (d6 + 256 * d7)) + (d6 + 256 * d7) + d7 := ⟨_, rfl⟩
  obtain ⟨L, hL⟩ : ∃ L, L = (d0 + d1 + d2 + d3) + 256 * (d1 + d2 + d3 + d4) + 65536 * (d2 + d3 + d4 + d5) + 16777216 * (d3 + d4 + d5 + d6) := ⟨_, rfl⟩
  have eF : F = L + 4294967296 * Y := by
    rw [hF, q2, hE, q1, e1, hL, hY]
    clear hF hE q1 q2 e1 hD e2 hL hY
    omega
  have hEF : E ≤ F := by rw [hF]; exact Nat.le_add_right _ _
  clear hF hE q1 q2 e1 hD
  have hL2 : L < 4294967296 := by clear eF e2 hY; omega
  have eFd : F / 4294967296 = Y := by
    rw [eF, Nat.add_mul_div_left _ _ (by decide), Nat.div_eq_of_lt hL2, Nat.zero_add]
  have hYb : Y < 1000000000 := by clear eF eFd e2 hL hL2; omega
  rw [eFd, e2]
  have eT : F + Y = (d0 + d1 + d2 + d3 + d4 + d5 + d6 + d7) + 256 * ((d1 + d2 + d3 + d4) + 256 * (d2 + d3 + d4 + d5) + 65536 * (d3 + d4 + d5 + d6) + 16777216 * Y + (d5 + 256 * (d6 + 256 * d7)) + (d6 + 256 * d7) + d7) := by
    rw [eF, hL]
    clear eF eFd e2 hL hL2 hYb hEF
    omega
  refine ⟨?_, ?_, ?_, ?_⟩
  · rw [eT]
    generalize (d1 + d2 + d3 + d4) + 256 * (d2 + d3 + d4 + d5) + 65536 * (d3 + d4 + d5 + d6) + 16777216 * Y + (d5 + 256 * (d6 + 256 * d7)) + (d6 + 256 * d7) + d7 = K
    clear eT eF eFd e2 hL hL2 hYb hEF hY
    omega
  · clear eT eFd e2 hL hY; omega
  · clear eT eFd e2 hL hY; omega
  · clear eT eFd e2 hL hY; omega
