/-! ===== the doubted months ===== -/
section WBS41
variable {G : wb_G} {N : Nat} {w : wb_W} {Q : Option Value → Nat → wb_W → Prop}
variable {n : Int} {c s : Int → Int} {sd sf bo tu : Int} {g : Int → Int64} {K : Int → Bool} {hl ct mt : Int} {nt nb nf dt db df : Int}
theorem sp_X7_seekDoubtOf {many : Int} (hse : wb_Se w nt nb nf dt db df) (hbk : wb_Bk w 4 n c s sd sf bo tu g) (hR : wb_BR n c s sd sf) (hK : wb_rp g K) (htu : 1 ≤ tu) (hwk : wb_Wk w n c s sd sf tu K hl tu ct mt) (hma : 1 ≤ many ∧ many ≤ 2) (hdf : df = -1)
    (hQ : ∀ (w' : wb_W) (db' df' mt' : Int), wb_Se w' nt nb nf dt db' df' → wb_Wk w' n c s sd sf tu K hl tu ct mt' → (∀ k, (k < 29 ∨ 82 ≤ k) → w' k = w k) → ((df' = -1 ∧ ∀ z, 0 ≤ z → z < wb_p2 n → wb_pb z = many → wb_nf n c s sd sf K 0 z < 0) ∨ ((0 ≤ db' ∧ db' < wb_p2 n) ∧ wb_pb db' = many ∧ df' = wb_nf n c s sd sf K 0 db' ∧ 0 ≤ df' ∧ ∀ z, 0 ≤ z → z < db' → wb_pb z = many → wb_nf n c s sd sf K 0 z < 0)) → Q none N w') : wb_M G M_X7_seekDoubtOf [.ref 81, .int (wb_i many)] N w Q := by
  unfold wb_M
  have hn := hR.1
  have hp2 := wb_p2_rg hn
  have lp : ∀ i, i ≤ 256 → ∀ (w1 : wb_W) (db1 df1 mt1 : Int), 1 ≤ i → i ≤ wb_p2 n → df1 = -1 → wb_Se w1 nt nb nf dt db1 df1 → wb_Wk w1 n c s sd sf tu K hl tu ct mt1 → (∀ k, (k < 29 ∨ 82 ≤ k) → w1 k = w k) → (∀ z, 0 ≤ z → z < i → wb_pb z = many → wb_nf n c s sd sf K 0 z < 0) → wb_V G M_X7_seekDoubtOf 2 [(0, .ref 81), (1, .int (wb_i many)), (2, .int (wb_i i))] [] N w1 0 0 Q := by
    refine wb_up 256 _ ?_
    intro i ih hi w1 db1 df1 mt1 hi0 hi2 hdf1 hse1 hwk1 ef hz
    have hbk1 : wb_Bk w1 4 n c s sd sf bo tu g := hbk.fr (fun k p1 p2 => ef k (by omega))
    have hse1' := hse1
    unfold wb_Se at hse1'
    have hnr := wb_nf_rg (n := n) (c := c) (s := s) (sd := sd) (sf := sf) (K := K) (g := 0) (z := i)
    have hpr := fun q : i < 256 => wb_pb_z (z := i) ⟨by omega, q⟩
    have hwkA : ∀ (u : wb_W) (m : Int), wb_Wk u n c s sd sf tu K hl tu ct m → ∀ v : va_E, wb_Wk (va_up u 81 v) n c s sd sf tu K hl tu ct m := fun u m hu v => hu.fr (fun k p1 p2 => wb_upn (by omega))
    refine vi_iload_n 2 rfl rfl ?_
    refine vi_iconst 3 rfl ?_
    refine vi_aload_n 4 rfl rfl ?_
    refine vi_get 5 rfl f_X7_18 hse1' rfl rfl ?_
    refine vi_get 6 rfl f_X7_54 hwk1.1.1 rfl rfl ?_
    refine vi_get 7 rfl f_X7_58 hbk1.1 rfl rfl ?_
    refine vi_ishl 8 rfl ?_
    rw [wb_shl1 (by omega)]
    refine vi_icmp_ge 9 rfl (by omega) (by omega) (fun c_15 => ?_) (fun c_15 => ?_)
    · exact vi_return 33 rfl rfl (Nat.zero_le _) (Nat.zero_le _) (hQ w1 db1 df1 mt1 hse1 hwk1 ef (Or.inl ⟨hdf1, fun z z1 z2 z3 => hz z z1 (by omega) z3⟩))
    · refine vi_iload_n 10 rfl rfl ?_
      refine vi_sipush 11 rfl (by decide) ?_
      refine vi_icmp_ge 12 rfl (by omega) (by omega) (fun c_22 => by exfalso; omega) (fun c_22 => ?_)
      refine vi_iload_n 13 rfl rfl ?_
      refine vi_S1 14 ok_J6_bitCount_0f7a4 rfl c_X7_63 rfl ?_
      refine sp_bitCountI (by omega) ?_
      change wb_V G M_X7_seekDoubtOf 29 _ [.int (wb_i (wb_pb i))] N w1 0 0 Q
      have hpri := hpr (by omega)
      refine vi_iload_n 15 rfl rfl ?_
      refine vi_icmp_ne 16 rfl (by omega) (by omega) (fun c_30 => ?_) (fun c_30 => ?_)
      · refine vi_iinc 31 rfl rfl rfl ?_
        refine vi_goto 32 rfl ?_
        first | exact vi_lc (ih (i + 1) (by omega) (by omega) w1 db1 df1 mt1 (by omega) (by omega) hdf1 hse1 hwk1 ef (fun z z1 z2 z3 => by by_cases hzi : z = i; (subst hzi; omega); exact hz z z1 (by omega) z3)) ⟨rfl, rfl, rfl, trivial⟩ | exact vi_lc (ih (i + 1) (by omega) (by omega) _ i (wb_nf n c s sd sf K 0 i) 0 (by omega) (by omega) (by omega) wb_ups (hwkA _ _ hwk2 _) (fun k hk => by rw [wb_upn (by omega)]; exact (hf2 k (by omega)).trans ((wb_upn (by omega)).trans (ef k hk))) (fun z z1 z2 z3 => by by_cases hzi : z = i; (subst hzi; omega); exact hz z z1 (by omega) z3)) ⟨rfl, rfl, rfl, trivial⟩
      · refine vi_aload_n 17 rfl rfl ?_
        refine vi_iload_n 18 rfl rfl ?_
        refine vi_put 19 rfl f_X7_47 hse1' rfl rfl rfl rfl ?_
        refine vi_aload_n 20 rfl rfl ?_
        refine vi_aload_n 21 rfl rfl ?_
        refine vi_get 22 rfl f_X7_18 wb_ups rfl rfl ?_
        refine vi_iconst 23 rfl ?_
        refine vi_iload_n 24 rfl rfl ?_
        refine vi_V2 25 ok_X10_firstBy rfl c_X7_37 ((wb_upn (by omega)).trans hwk1.1.1) rfl rfl ?_
        refine sp_X10_firstBy (more := 0) (dou := i) (hbk1.fr (fun k p1 p2 => wb_upn (by omega))) hR hK htu (hwkA _ _ hwk1 _) (by omega) (by omega) (fun w2 hwk2 hf2 => ?_)
        change wb_V G M_X7_seekDoubtOf 48 _ [.int (wb_i (wb_nf n c s sd sf K 0 i)), .ref 81] N w2 0 0 Q
        have hse2 : wb_Se w2 nt nb nf dt i df1 := (hf2 81 (by omega)).trans wb_ups
        refine vi_put 26 rfl f_X7_15 hse2 rfl rfl rfl rfl ?_
        refine vi_aload_n 27 rfl rfl ?_
        refine vi_get 28 rfl f_X7_15 wb_ups rfl rfl ?_
        refine vi_if_lt 29 rfl (by omega) (fun c_55 => ?_) (fun c_55 => ?_)
        · refine vi_iinc 31 rfl rfl rfl ?_
          refine vi_goto 32 rfl ?_
          first | exact vi_lc (ih (i + 1) (by omega) (by omega) w1 db1 df1 mt1 (by omega) (by omega) hdf1 hse1 hwk1 ef (fun z z1 z2 z3 => by by_cases hzi : z = i; (subst hzi; omega); exact hz z z1 (by omega) z3)) ⟨rfl, rfl, rfl, trivial⟩ | exact vi_lc (ih (i + 1) (by omega) (by omega) _ i (wb_nf n c s sd sf K 0 i) 0 (by omega) (by omega) (by omega) wb_ups (hwkA _ _ hwk2 _) (fun k hk => by rw [wb_upn (by omega)]; exact (hf2 k (by omega)).trans ((wb_upn (by omega)).trans (ef k hk))) (fun z z1 z2 z3 => by by_cases hzi : z = i; (subst hzi; omega); exact hz z z1 (by omega) z3)) ⟨rfl, rfl, rfl, trivial⟩
        · exact vi_return 30 rfl rfl (Nat.zero_le _) (Nat.zero_le _) (hQ _ i (wb_nf n c s sd sf K 0 i) 0 wb_ups (hwkA _ _ hwk2 _) (fun k hk => by rw [wb_upn (by omega)]; exact (hf2 k (by omega)).trans ((wb_upn (by omega)).trans (ef k hk))) (Or.inr ⟨by omega, by omega, rfl, by omega, hz⟩))
  refine vi_iconst 0 rfl ?_
  refine vi_istore_n 1 rfl rfl ?_
  exact vi_lc (lp 1 (by omega) w db df mt (by omega) (by omega) hdf hse hwk (fun _ _ => rfl) (fun z z1 z2 z3 => by rw [show z = 0 by omega] at z3; rw [show wb_pb 0 = 0 from rfl] at z3; omega)) ⟨rfl, rfl, rfl, trivial⟩
theorem sp_X7_seekDoubt (hse : wb_Se w nt nb nf dt db df) (hbk : wb_Bk w 4 n c s sd sf bo tu g) (hR : wb_BR n c s sd sf) (hK : wb_rp g K) (htu : 1 ≤ tu) (hwk : wb_Wk w n c s sd sf tu K hl tu ct mt) (hdt : 0 ≤ dt ∧ dt ≤ tu) (hval : dt = tu → wb_dn n c s sd sf K db df)
    (hQ : ∀ (w' : wb_W) (db' df' mt' : Int), wb_dn n c s sd sf K db' df' → wb_Se w' nt nb nf tu db' df' → wb_Wk w' n c s sd sf tu K hl tu ct mt' → (∀ k, (k < 29 ∨ 82 ≤ k) → w' k = w k) → Q none N w') : wb_M G M_X7_seekDoubt [.ref 81] N w Q := by
  unfold wb_M
  have hn := hR.1
  have hp2 := wb_p2_rg hn
  have htm := hwk.2.2.2.2.2.2.1
  have hn0 := wb_nf_rg (n := n) (c := c) (s := s) (sd := sd) (sf := sf) (K := K) (g := 0) (z := 0)
  have hwo := hwk.1.1
  have hse' := hse
  unfold wb_Se at hse'
  have lp : ∀ i, i ≤ 3 → ∀ (w1 : wb_W) (db1 df1 mt1 : Int), 1 ≤ i → (-1 ≤ df1 ∧ df1 < 15625) → ((df1 = -1 ∧ ∀ z, 0 ≤ z → z < wb_p2 n → wb_pb z < i → wb_nf n c s sd sf K 0 z < 0) ∨ (0 ≤ df1 ∧ wb_dn n c s sd sf K db1 df1)) → wb_Se w1 nt nb nf tu db1 df1 → wb_Wk w1 n c s sd sf tu K hl tu ct mt1 → (∀ k, (k < 29 ∨ 82 ≤ k) → w1 k = w k) → wb_V G M_X7_seekDoubt 44 [(0, .ref 81), (1, .int (wb_i i))] [] N w1 0 0 Q := by
    refine wb_up 3 _ ?_
    intro i ih hi w1 db1 df1 mt1 hi0 hdr hv hse1 hwk1 ef
    have hbk1 : wb_Bk w1 4 n c s sd sf bo tu g := hbk.fr (fun k p1 p2 => ef k (by omega))
    have hse1' := hse1
    unfold wb_Se at hse1'
    refine vi_iload_n 22 rfl rfl ?_
    refine vi_iconst 23 rfl ?_
    refine vi_icmp_gt 24 rfl (by omega) (by omega) (fun c_46 => ?_) (fun c_46 => ?_)
    · exact vi_return 33 rfl rfl (Nat.zero_le _) (Nat.zero_le _) (hQ w1 db1 df1 mt1 (by rcases hv with ⟨v1, v2⟩ | ⟨v1, v2⟩; (exact Or.inl ⟨v1, fun z z1 z2 z3 => v2 z z1 z2 (by omega)⟩); exact v2) hse1 hwk1 ef)
    · refine vi_aload_n 25 rfl rfl ?_
      refine vi_get 26 rfl f_X7_15 hse1' rfl rfl ?_
      refine vi_if_ge 27 rfl (by omega) (fun c_53 => ?_) (fun c_53 => ?_)
      · exact vi_return 33 rfl rfl (Nat.zero_le _) (Nat.zero_le _) (hQ w1 db1 df1 mt1 (by rcases hv with ⟨v1, v2⟩ | ⟨v1, v2⟩; (exact Or.inl ⟨v1, fun z z1 z2 z3 => v2 z z1 z2 (by omega)⟩); exact v2) hse1 hwk1 ef)
      · refine vi_aload_n 28 rfl rfl ?_
        refine vi_iload_n 29 rfl rfl ?_
        refine vi_V1 30 ok_X7_seekDoubtOf rfl c_X7_50 hse1' rfl rfl ?_
        refine sp_X7_seekDoubtOf hse1 hbk1 hR hK htu hwk1 (by omega) (by omega) (fun w2 db2 df2 mt2 hse2 hwk2 hf2 hr2 => ?_)
        refine vi_iinc 31 rfl rfl rfl ?_
        refine vi_goto 32 rfl ?_
        refine vi_lc (ih (i + 1) (by omega) (by omega) w2 db2 df2 mt2 (by omega) ?_ ?_ hse2 hwk2 (fun k hk => (hf2 k hk).trans (ef k hk))) ⟨rfl, rfl, trivial⟩
        · rcases hr2 with ⟨r1, r2⟩ | ⟨r1, r2, r3, r4, r5⟩; omega; (rw [r3]; exact wb_nf_rg)
        · rcases hv with ⟨v1, v2⟩ | ⟨v1, v2⟩
          · rcases hr2 with ⟨r1, r2⟩ | ⟨r1, r2, r3, r4, r5⟩
            · exact Or.inl ⟨r1, fun z z1 z2 z3 => by by_cases hzi : wb_pb z = i; (exact r2 z z1 z2 hzi); exact v2 z z1 z2 (by omega)⟩
            · exact Or.inr ⟨r4, Or.inr ⟨r1, by omega, r3, r4, fun z z1 z2 z3 => by by_cases hzi : wb_pb z = i; (exact r5 z z1 (by omega) hzi); exact v2 z z1 z2 (by omega)⟩⟩
          · omega
  have hwkA : ∀ (u : wb_W) (m : Int), wb_Wk u n c s sd sf tu K hl tu ct m → ∀ v : va_E, wb_Wk (va_up u 81 v) n c s sd sf tu K hl tu ct m := fun u m hu v => hu.fr (fun k p1 p2 => wb_upn (by omega))
  refine vi_aload_n 0 rfl rfl ?_
  refine vi_get 1 rfl f_X7_44 hse' rfl rfl ?_
  refine vi_aload_n 2 rfl rfl ?_
  refine vi_get 3 rfl f_X7_18 hse' rfl rfl ?_
  refine vi_get 4 rfl f_X7_25 hwo rfl rfl ?_
  refine vi_icmp_ne 5 rfl (by omega) (by omega) (fun c_11 => ?_) (fun c_11 => ?_)
  · refine vi_aload_n 7 rfl rfl ?_
    refine vi_aload_n 8 rfl rfl ?_
    refine vi_get 9 rfl f_X7_18 hse' rfl rfl ?_
    refine vi_get 10 rfl f_X7_25 hwo rfl rfl ?_
    refine vi_put 11 rfl f_X7_44 hse' rfl rfl rfl rfl ?_
    refine vi_aload_n 12 rfl rfl ?_
    refine vi_iconst 13 rfl ?_
    refine vi_put 14 rfl f_X7_47 wb_ups rfl rfl rfl rfl ?_
    refine vi_aload_n 15 rfl rfl ?_
    refine vi_aload_n 16 rfl rfl ?_
    refine vi_get 17 rfl f_X7_18 wb_ups rfl rfl ?_
    refine vi_V0 18 ok_X10_first rfl c_X7_33 ((wb_upn (by omega)).trans ((wb_upn (by omega)).trans hwo)) rfl rfl ?_
    refine sp_X10_first (hwkA _ _ (hwkA _ _ hwk _) _) ?_
    change wb_V G M_X7_seekDoubt 39 _ [.int (wb_i (wb_nf n c s sd sf K 0 0)), .ref 81] N _ 0 0 Q
    refine vi_put 19 rfl f_X7_15 wb_ups rfl rfl rfl rfl ?_
    refine vi_iconst 20 rfl ?_
    refine vi_istore_n 21 rfl rfl ?_
    refine vi_lc (lp 1 (by omega) _ 0 (wb_nf n c s sd sf K 0 0) mt (by omega) (by omega) ?_ wb_ups (hwkA _ _ (hwkA _ _ (hwkA _ _ hwk _) _) _) (fun k hk => by rw [wb_upn (by omega), wb_upn (by omega), wb_upn (by omega)])) ⟨rfl, rfl, trivial⟩
    by_cases h0 : 0 ≤ wb_nf n c s sd sf K 0 0
    · exact Or.inr ⟨h0, Or.inr ⟨by omega, by decide, rfl, h0, fun z z1 z2 z3 => by have := (wb_pb_z (z := z) ⟨z1, by omega⟩).1; rw [show wb_pb 0 = 0 from rfl] at z3; omega⟩⟩
    · exact Or.inl ⟨by omega, fun z z1 z2 z3 => by have := wb_pb_z (z := z) ⟨z1, by omega⟩; rw [this.2 (by omega)]; omega⟩
  · exact vi_return 6 rfl rfl (Nat.zero_le _) (Nat.zero_le _) (hQ w db df mt (hval (by omega)) (by have := hse; rw [show dt = tu by omega] at this; exact this) hwk (fun _ _ => rfl))
end WBS41
