/-! ===== Long.bitCount, Integer.bitCount, the lowest place ===== -/
theorem wb_n_ushr {x : Int64} {k : Int} (hk : 0 ≤ k ∧ k < 64) : ((x.toUInt64 >>> ((wb_i k).toInt64.toUInt64 &&& Int64.toUInt64 63)).toInt64).toBitVec.toNat = x.toBitVec.toNat / 2 ^ k.toNat := by
  have e := wb_su ⟨k.toNat, by omega⟩
  simp only [show ((k.toNat : Nat) : Int) = k by omega] at e
  rw [show ((x.toUInt64 >>> ((wb_i k).toInt64.toUInt64 &&& Int64.toUInt64 63)).toInt64).toBitVec = x.toBitVec >>> (((wb_i k).toInt64.toUInt64 &&& Int64.toUInt64 63).toBitVec % 64) from rfl, BitVec.ushiftRight_eq', e, BitVec.toNat_ushiftRight, Nat.shiftRight_eq_div_pow]
theorem wb_n_u1 (x : Int64) : ((x.toUInt64 >>> ((wb_i 1).toInt64.toUInt64 &&& Int64.toUInt64 63)).toInt64).toBitVec.toNat = x.toBitVec.toNat / 2 := by
  have e : (2 : Nat) ^ ((1 : Int).toNat) = 2 := by decide
  rw [wb_n_ushr (by decide), e]
theorem wb_n_u2 (x : Int64) : ((x.toUInt64 >>> ((wb_i 2).toInt64.toUInt64 &&& Int64.toUInt64 63)).toInt64).toBitVec.toNat = x.toBitVec.toNat / 4 := by
  have e : (2 : Nat) ^ ((2 : Int).toNat) = 4 := by decide
  rw [wb_n_ushr (by decide), e]
theorem wb_n_u4 (x : Int64) : ((x.toUInt64 >>> ((wb_i 4).toInt64.toUInt64 &&& Int64.toUInt64 63)).toInt64).toBitVec.toNat = x.toBitVec.toNat / 16 := by
  have e : (2 : Nat) ^ ((4 : Int).toNat) = 16 := by decide
  rw [wb_n_ushr (by decide), e]
theorem wb_n_u8 (x : Int64) : ((x.toUInt64 >>> ((wb_i 8).toInt64.toUInt64 &&& Int64.toUInt64 63)).toInt64).toBitVec.toNat = x.toBitVec.toNat / 256 := by
  have e : (2 : Nat) ^ ((8 : Int).toNat) = 256 := by decide
  rw [wb_n_ushr (by decide), e]
theorem wb_n_u16 (x : Int64) : ((x.toUInt64 >>> ((wb_i 16).toInt64.toUInt64 &&& Int64.toUInt64 63)).toInt64).toBitVec.toNat = x.toBitVec.toNat / 65536 := by
  have e : (2 : Nat) ^ ((16 : Int).toNat) = 65536 := by decide
  rw [wb_n_ushr (by decide), e]
theorem wb_n_u32 (x : Int64) : ((x.toUInt64 >>> ((wb_i 32).toInt64.toUInt64 &&& Int64.toUInt64 63)).toInt64).toBitVec.toNat = x.toBitVec.toNat / 4294967296 := by
  have e : (2 : Nat) ^ ((32 : Int).toNat) = 4294967296 := by decide
  rw [wb_n_ushr (by decide), e]
theorem wb_n_and (x y : Int64) : (x &&& y).toBitVec.toNat = x.toBitVec.toNat &&& y.toBitVec.toNat := by simp
theorem wb_n_sub {x y : Int64} (h : y.toBitVec.toNat ≤ x.toBitVec.toNat) : (x - y).toBitVec.toNat = x.toBitVec.toNat - y.toBitVec.toNat := by
  rw [Int64.toBitVec_sub, BitVec.toNat_sub_of_le (by exact h)]
theorem wb_n_add {x y : Int64} (h : x.toBitVec.toNat + y.toBitVec.toNat < 2 ^ 64) : (x + y).toBitVec.toNat = x.toBitVec.toNat + y.toBitVec.toNat := by
  rw [Int64.toBitVec_add, BitVec.toNat_add, Nat.mod_eq_of_lt h]
theorem wb_tr32 (x : Int64) : x.toInt32.toBitVec.toNat % 2 ^ 7 = x.toBitVec.toNat % 128 := by
  rw [Int64.toBitVec_toInt32, BitVec.signExtend_eq_setWidth_of_le _ (by decide), BitVec.toNat_setWidth]
  omega
theorem wb_bitL (x x1 x2 x3 x4 x5 x6 : Int64) (e1 : x1 = x - ((x.toUInt64 >>> ((wb_i 1).toInt64.toUInt64 &&& Int64.toUInt64 63)).toInt64 &&& 6148914691236517205)) (e2 : x2 = (x1 &&& 3689348814741910323) + ((x1.toUInt64 >>> ((wb_i 2).toInt64.toUInt64 &&& Int64.toUInt64 63)).toInt64 &&& 3689348814741910323)) (e3 : x3 = (x2 + (x2.toUInt64 >>> ((wb_i 4).toInt64.toUInt64 &&& Int64.toUInt64 63)).toInt64) &&& 1085102592571150095) (e4 : x4 = x3 + (x3.toUInt64 >>> ((wb_i 8).toInt64.toUInt64 &&& Int64.toUInt64 63)).toInt64) (e5 : x5 = x4 + (x4.toUInt64 >>> ((wb_i 16).toInt64.toUInt64 &&& Int64.toUInt64 63)).toInt64) (e6 : x6 = x5 + (x5.toUInt64 >>> ((wb_i 32).toInt64.toUInt64 &&& Int64.toUInt64 63)).toInt64) : x6.toInt32 &&& wb_i 127 = wb_i (wb_pc x) := by
  have hX : x.toBitVec.toNat < 256 ^ 8 := x.toBitVec.isLt
  obtain ⟨s1, s2, s3⟩ := wb_swar 8 x.toBitVec.toNat hX
  have mk3 : wb_mk 0x33 8 = 3689348814741910323 := by decide +kernel
  have m5 : (6148914691236517205 : Int64).toBitVec.toNat = wb_mk 0x55 8 := by decide +kernel
  have m3 : (3689348814741910323 : Int64).toBitVec.toNat = wb_mk 0x33 8 := by decide +kernel
  have mf : (1085102592571150095 : Int64).toBitVec.toNat = wb_mk 0x0f 8 := by decide +kernel
  have n1 : x1.toBitVec.toNat = wb_s1 x.toBitVec.toNat (wb_mk 0x55 8) := by
    rw [e1, wb_n_sub (by rw [wb_n_and, wb_n_u1, m5]; exact s1), wb_n_and, wb_n_u1, m5, wb_s1]
  have b2 : ∀ z : Nat, (z &&& wb_mk 0x33 8) ≤ 3689348814741910323 := fun z => by rw [← mk3]; exact Nat.and_le_right
  have n2 : x2.toBitVec.toNat = wb_s2 (wb_s1 x.toBitVec.toNat (wb_mk 0x55 8)) (wb_mk 0x33 8) := by
    have q1 := b2 x1.toBitVec.toNat
    have q2 := b2 (x1.toBitVec.toNat / 4)
    rw [e2, wb_n_add (by rw [wb_n_and, wb_n_and, wb_n_u2, m3]; generalize (x1.toBitVec.toNat &&& wb_mk 0x33 8) = A at q1 ⊢; generalize (x1.toBitVec.toNat / 4 &&& wb_mk 0x33 8) = B at q2 ⊢; omega), wb_n_and, wb_n_and, wb_n_u2, m3, n1, wb_s2]
  have l2 : x2.toBitVec.toNat ≤ 2 * 3689348814741910323 := by
    have q1 := b2 (wb_s1 x.toBitVec.toNat (wb_mk 0x55 8))
    have q2 := b2 (wb_s1 x.toBitVec.toNat (wb_mk 0x55 8) / 4)
    rw [n2, wb_s2]
    generalize (wb_s1 x.toBitVec.toNat (wb_mk 0x55 8) &&& wb_mk 0x33 8) = A at q1 ⊢
    generalize (wb_s1 x.toBitVec.toNat (wb_mk 0x55 8) / 4 &&& wb_mk 0x33 8) = B at q2 ⊢
    omega
  have n3 : x3.toBitVec.toNat = wb_bc 8 x.toBitVec.toNat := by
    rw [e3, wb_n_and, wb_n_add (by rw [wb_n_u4]; generalize x2.toBitVec.toNat = A at l2 ⊢; omega), wb_n_u4, mf, n2, ← s3, wb_s3]
  obtain ⟨f1, f2, f3, f4⟩ := wb_fold x.toBitVec.toNat n3 (E := x3.toBitVec.toNat + x3.toBitVec.toNat / 256) rfl rfl
  have n4 : x4.toBitVec.toNat = x3.toBitVec.toNat + x3.toBitVec.toNat / 256 := by
    rw [e4, wb_n_add (by rw [wb_n_u8]; exact f2), wb_n_u8]
  rw [← n4] at f1 f3 f4
  have n5 : x5.toBitVec.toNat = x4.toBitVec.toNat + x4.toBitVec.toNat / 65536 := by
    rw [e5, wb_n_add (by rw [wb_n_u16]; exact f3), wb_n_u16]
  rw [← n5] at f1 f4
  have n6 : x6.toBitVec.toNat = x5.toBitVec.toNat + x5.toBitVec.toNat / 4294967296 := by
    rw [e6, wb_n_add (by rw [wb_n_u32]; exact f4), wb_n_u32]
  rw [← n6] at f1
  rw [pk_and (x6.toInt32) (m := wb_i 127) 7 (by decide +kernel), wb_pc_pn, wb_i_nat, ← f1]
  congr 1
  exact wb_tr32 x6
section WBS16
variable {G : wb_G} {N : Nat} {w : wb_W} {Q : Option Value → Nat → wb_W → Prop}
theorem sp_bitCountL {x : Int64} (hQ : Q (some (.int (wb_i (wb_pc x)))) N w) : wb_M G M_J13_bitCount_95d88 [.long x] N w Q := by
  unfold wb_M
  rw [← wb_bitL x _ _ _ _ _ _ rfl rfl rfl rfl rfl rfl] at hQ
  refine vi_lload_n 0 rfl rfl ?_
  refine vi_lload_n 1 rfl rfl ?_
  refine vi_iconst 2 rfl ?_
  refine vi_lushr 3 rfl ?_
  refine vi_ldc2 4 rfl k_J13_314 ?_
  refine vi_land 5 rfl ?_
  refine vi_lsub 6 rfl ?_
  refine vi_lstore_n 7 rfl rfl ?_
  refine vi_lload_n 8 rfl rfl ?_
  refine vi_ldc2 9 rfl k_J13_316 ?_
  refine vi_land 10 rfl ?_
  refine vi_lload_n 11 rfl rfl ?_
  refine vi_iconst 12 rfl ?_
  refine vi_lushr 13 rfl ?_
  refine vi_ldc2 14 rfl k_J13_316 ?_
  refine vi_land 15 rfl ?_
  refine vi_ladd 16 rfl ?_
  refine vi_lstore_n 17 rfl rfl ?_
  refine vi_lload_n 18 rfl rfl ?_
  refine vi_lload_n 19 rfl rfl ?_
  refine vi_iconst 20 rfl ?_
  refine vi_lushr 21 rfl ?_
  refine vi_ladd 22 rfl ?_
  refine vi_ldc2 23 rfl k_J13_318 ?_
  refine vi_land 24 rfl ?_
  refine vi_lstore_n 25 rfl rfl ?_
  refine vi_lload_n 26 rfl rfl ?_
  refine vi_lload_n 27 rfl rfl ?_
  refine vi_bipush 28 rfl (by decide) ?_
  refine vi_lushr 29 rfl ?_
  refine vi_ladd 30 rfl ?_
  refine vi_lstore_n 31 rfl rfl ?_
  refine vi_lload_n 32 rfl rfl ?_
  refine vi_lload_n 33 rfl rfl ?_
  refine vi_bipush 34 rfl (by decide) ?_
  refine vi_lushr 35 rfl ?_
  refine vi_ladd 36 rfl ?_
  refine vi_lstore_n 37 rfl rfl ?_
  refine vi_lload_n 38 rfl rfl ?_
  refine vi_lload_n 39 rfl rfl ?_
  refine vi_bipush 40 rfl (by decide) ?_
  refine vi_lushr 41 rfl ?_
  refine vi_ladd 42 rfl ?_
  refine vi_lstore_n 43 rfl rfl ?_
  refine vi_lload_n 44 rfl rfl ?_
  refine vi_l2i 45 rfl ?_
  refine vi_bipush 46 rfl (by decide) ?_
  refine vi_iand 47 rfl ?_
  exact vi_ireturn 48 rfl rfl rfl (Nat.zero_le _) (Nat.zero_le _) (hQ)
theorem wb_bitI : ∀ k : Fin 256, ∀ (x x1 x2 x3 x4 x5 : Int32), x = wb_i (k.val : Int) → x1 = x - ((x.toUInt32 >>> ((wb_i 1).toUInt32 &&& Int32.toUInt32 31)).toInt32 &&& 1431655765) → x2 = (x1 &&& 858993459) + ((x1.toUInt32 >>> ((wb_i 2).toUInt32 &&& Int32.toUInt32 31)).toInt32 &&& 858993459) → x3 = (x2 + (x2.toUInt32 >>> ((wb_i 4).toUInt32 &&& Int32.toUInt32 31)).toInt32) &&& 252645135 → x4 = x3 + (x3.toUInt32 >>> ((wb_i 8).toUInt32 &&& Int32.toUInt32 31)).toInt32 → x5 = x4 + (x4.toUInt32 >>> ((wb_i 16).toUInt32 &&& Int32.toUInt32 31)).toInt32 → x5 &&& wb_i 63 = wb_i (wb_pn 8 k.val : Int) := by
  have h : ∀ k : Fin 256, (fun x : Int32 => (fun x1 : Int32 => (fun x2 : Int32 => (fun x3 : Int32 => (fun x4 : Int32 => (fun x5 : Int32 => x5 &&& wb_i 63) (x4 + (x4.toUInt32 >>> ((wb_i 16).toUInt32 &&& Int32.toUInt32 31)).toInt32)) (x3 + (x3.toUInt32 >>> ((wb_i 8).toUInt32 &&& Int32.toUInt32 31)).toInt32)) ((x2 + (x2.toUInt32 >>> ((wb_i 4).toUInt32 &&& Int32.toUInt32 31)).toInt32) &&& 252645135)) ((x1 &&& 858993459) + ((x1.toUInt32 >>> ((wb_i 2).toUInt32 &&& Int32.toUInt32 31)).toInt32 &&& 858993459))) (x - ((x.toUInt32 >>> ((wb_i 1).toUInt32 &&& Int32.toUInt32 31)).toInt32 &&& 1431655765))) (wb_i (k.val : Int)) = wb_i (wb_pn 8 k.val : Int) := by decide +kernel
  intro k x x1 x2 x3 x4 x5 e e1 e2 e3 e4 e5
  subst e e1 e2 e3 e4 e5
  exact h k
theorem sp_bitCountI {z : Int} (hz : 0 ≤ z ∧ z < 256) (hQ : Q (some (.int (wb_i (wb_pn 8 z.toNat : Int)))) N w) : wb_M G M_J6_bitCount_0f7a4 [.int (wb_i z)] N w Q := by
  unfold wb_M
  have e := wb_bitI ⟨z.toNat, by omega⟩ (wb_i z) _ _ _ _ _ (by simp only; rw [show ((z.toNat : Nat) : Int) = z by omega]) rfl rfl rfl rfl rfl
  simp only at e
  rw [← e] at hQ
  refine vi_iload_n 0 rfl rfl ?_
  refine vi_iload_n 1 rfl rfl ?_
  refine vi_iconst 2 rfl ?_
  refine vi_iushr 3 rfl ?_
  refine vi_ldcw 4 rfl k_J6_265 ?_
  refine vi_iand 5 rfl ?_
  refine vi_isub32 6 rfl ?_
  refine vi_istore_n 7 rfl rfl ?_
  refine vi_iload_n 8 rfl rfl ?_
  refine vi_ldcw 9 rfl k_J6_266 ?_
  refine vi_iand 10 rfl ?_
  refine vi_iload_n 11 rfl rfl ?_
  refine vi_iconst 12 rfl ?_
  refine vi_iushr 13 rfl ?_
  refine vi_ldcw 14 rfl k_J6_266 ?_
  refine vi_iand 15 rfl ?_
  refine vi_iadd32 16 rfl ?_
  refine vi_istore_n 17 rfl rfl ?_
  refine vi_iload_n 18 rfl rfl ?_
  refine vi_iload_n 19 rfl rfl ?_
  refine vi_iconst 20 rfl ?_
  refine vi_iushr 21 rfl ?_
  refine vi_iadd32 22 rfl ?_
  refine vi_ldcw 23 rfl k_J6_267 ?_
  refine vi_iand 24 rfl ?_
  refine vi_istore_n 25 rfl rfl ?_
  refine vi_iload_n 26 rfl rfl ?_
  refine vi_iload_n 27 rfl rfl ?_
  refine vi_bipush 28 rfl (by decide) ?_
  refine vi_iushr 29 rfl ?_
  refine vi_iadd32 30 rfl ?_
  refine vi_istore_n 31 rfl rfl ?_
  refine vi_iload_n 32 rfl rfl ?_
  refine vi_iload_n 33 rfl rfl ?_
  refine vi_bipush 34 rfl (by decide) ?_
  refine vi_iushr 35 rfl ?_
  refine vi_iadd32 36 rfl ?_
  refine vi_istore_n 37 rfl rfl ?_
  refine vi_iload_n 38 rfl rfl ?_
  refine vi_bipush 39 rfl (by decide) ?_
  refine vi_iand 40 rfl ?_
  exact vi_ireturn 41 rfl rfl rfl (Nat.zero_le _) (Nat.zero_le _) (hQ)
end WBS16
