/-! ===== the reference: changed, from a month on ===== -/
section WBS65
variable {G : wb_G} {N : Nat} {w : wb_W} {Q : Option Value → Nat → wb_W → Prop}
variable {n sd sf cnt ru ld mo db tm tt tr L H fi ch : Int} {c s sg rs im ik ag kp me : Int → Int} {K : Int → Bool}
theorem sp_X12_changedFrom {t m : Int} (hrf : wb_Rf w n sd sf cnt ru ld 0 0 ((-6)) tt tr L H fi ch) (h97 : w 97 = aI 72 c) (h98 : w 98 = aI 12 s) (h102 : w 102 = aZ 15625 kp) (hkp : ∀ x, 0 ≤ x → x < 15625 → kp x = wb_b2 (K x)) (h104 : w 104 = aB 46875 me) (hR : wb_BR n c s sd sf) (htt : -10 ≤ tt ∧ tt ≤ 10) (htr : -9 ≤ tr ∧ tr ≤ 1000) (ht : 0 ≤ t ∧ t < 3) (hm : 0 ≤ m ∧ m ≤ 8)
    (kf : ∀ (w' : wb_W) (L' H' x k : Int) (me' : Int → Int), (0 ≤ x ∧ x < 15625) → (0 ≤ k ∧ k < 25) → wb_cP n c s sd sf K t m x k → (∀ y, 0 ≤ y → y < x → ∀ j, 0 ≤ j → j < 25 → ¬ wb_cP n c s sd sf K t m y j) → (∀ j, 0 ≤ j → j < k → ¬ wb_cP n c s sd sf K t m x j) → wb_Rf w' n sd sf cnt ru ld 0 0 ((-6)) tt tr L' H' fi (wb_wp x t k) → w' 104 = aB 46875 me' → (∀ k, k ≠ 96 → k ≠ 104 → w' k = w k) → Q (some (.int (wb_i x))) N w')
    (kn : ∀ (w' : wb_W) (L' H' : Int) (me' : Int → Int), (∀ y, 0 ≤ y → y < 15625 → ∀ j, 0 ≤ j → j < 25 → ¬ wb_cP n c s sd sf K t m y j) → wb_Rf w' n sd sf cnt ru ld 0 0 ((-6)) tt tr L' H' fi ch → w' 104 = aB 46875 me' → (∀ k, k ≠ 96 → k ≠ 104 → w' k = w k) → Q (some (.int (wb_i (-6)))) N w') : wb_M G M_X12_changedFrom [.ref 96, .int (wb_i m), .int (wb_i t)] N w Q := by
  unfold wb_M
  have hrf' := hrf
  unfold wb_Rf at hrf'
  have lpX : ∀ hi lo : Int, hi = 125 * wb_sp t → lo = wb_sp t → ∀ x, x ≤ 15625 → ∀ (w1 : wb_W) (L1 H1 : Int) (me1 : Int → Int), 0 ≤ x → (∀ y, 0 ≤ y → y < x → ∀ j, 0 ≤ j → j < 25 → ¬ wb_cP n c s sd sf K t m y j) → wb_Rf w1 n sd sf cnt ru ld 0 0 ((-6)) tt tr L1 H1 fi ch → w1 104 = aB 46875 me1 → wb_mI n c s sd sf t m me1 → (∀ k, k ≠ 96 → k ≠ 104 → w1 k = w k) → wb_V G M_X12_changedFrom 69 [(0, .ref 96), (1, .int (wb_i m)), (2, .int (wb_i t)), (3, .int (wb_i hi)), (4, .int (wb_i lo)), (5, .int (wb_i x))] [] N w1 0 0 Q := by
    intro hi lo hhi hlo
    refine wb_up 15625 _ ?_
    intro x ih hx w1 L1 H1 me1 hx0 hno hrf1 h1041 hmI1 ef
    have hrf1' := hrf1
    unfold wb_Rf at hrf1'
    have h1021 := (ef 102 (by omega) (by omega)).trans h102
    have hkx := fun q : x < 15625 => hkp x hx0 q
    cases hKx : K x with
    | false =>
      rw [hKx] at hkx
      rw [show wb_b2 false = 0 from rfl] at hkx
      refine vi_iload 36 rfl rfl ?_
      refine vi_sipush 37 rfl (by decide) ?_
      refine vi_icmp_ge 38 rfl (by omega) (by omega) (fun c_74 => ?_) (fun c_74 => ?_)
      · refine vi_bipush 120 rfl (by decide) ?_
        exact vi_ireturn 121 rfl rfl rfl (Nat.zero_le _) (Nat.zero_le _) (kn w1 L1 H1 me1 (fun y y1 y2 => hno y y1 (by omega)) hrf1 h1041 ef)
      · have hkx1 := hkx (by omega)
        refine vi_aload_n 39 rfl rfl ?_
        refine vi_get 40 rfl f_X12_36 hrf1' rfl rfl ?_
        refine vi_iload 41 rfl rfl ?_
        refine vi_zald 42 rfl h1021 (by omega) ?_
        refine vi_if_eq 43 rfl (by omega) (fun c_84 => ?_) (fun c_84 => by exfalso; omega)
        refine vi_iinc 118 rfl rfl rfl ?_
        refine vi_goto 119 rfl ?_
        exact vi_lc (ih (x + 1) (by omega) (by omega) w1 L1 H1 me1 (by omega) (fun y y1 y2 j j1 j2 => by (by_cases e : y = x; (rw [e]; exact fun q => by (have := q.1; rw [hKx] at this; cases this)); exact hno y y1 (by omega) j j1 j2)) hrf1 h1041 hmI1 ef) ⟨rfl, rfl, rfl, rfl, rfl, rfl, trivial⟩
    | true =>
      rw [hKx] at hkx
      rw [show wb_b2 true = 1 from rfl] at hkx
      have lpK : ∀ (hx5 : x < 15625) (ba : Int), (∀ k, ba + hi * (k / 5) + lo * (k % 5) = wb_wp x t k) → ∀ k, k ≤ 25 → ∀ (w1 : wb_W) (L1 H1 : Int) (me1 : Int → Int), 0 ≤ k → (∀ j, 0 ≤ j → j < k → ¬ wb_cP n c s sd sf K t m x j) → wb_Rf w1 n sd sf cnt ru ld 0 0 ((-6)) tt tr L1 H1 fi ch → w1 104 = aB 46875 me1 → wb_mI n c s sd sf t m me1 → (∀ k, k ≠ 96 → k ≠ 104 → w1 k = w k) → wb_V G M_X12_changedFrom 115 [(0, .ref 96), (1, .int (wb_i m)), (2, .int (wb_i t)), (3, .int (wb_i hi)), (4, .int (wb_i lo)), (5, .int (wb_i x)), (6, .int (wb_i ba)), (7, .int (wb_i k))] [] N w1 0 0 Q := by
        intro hx5 ba hba
        refine wb_up 25 _ ?_
        intro k jh hk w2 L2 H2 me2 hk0 hnk hrf2 h1042 hmI2 ef2
        have hrf2' := hrf2
        unfold wb_Rf at hrf2'
        have h1022 := (ef2 102 (by omega) (by omega)).trans h102
        have h972 := (ef2 97 (by omega) (by omega)).trans h97
        have h982 := (ef2 98 (by omega) (by omega)).trans h98
        have hwr := fun q : k < 25 => (wb_wp_rg (x := x) (t := t) ⟨hx0, hx5⟩ ht ⟨hk0, q⟩).1
        have hwe := fun q : k < 25 => wb_wp_eq (x := x) (t := t) ⟨hx0, hx5⟩ ht ⟨hk0, q⟩
        have hky := fun q : k < 25 => hkp (wb_wp x t k) (hwr q).1 (hwr q).2
        have nxt : ¬ wb_cP n c s sd sf K t m x k → ∀ j, 0 ≤ j → j < k + 1 → ¬ wb_cP n c s sd sf K t m x j := fun q j j1 j2 => by
          by_cases e : j = k
          · rw [e]; exact q
          · exact hnk j j1 (by omega)
        cases hKy : K (wb_wp x t k) with
        | false =>
          rw [hKy] at hky
          rw [show wb_b2 false = 0 from rfl] at hky
          refine vi_iload 62 rfl rfl ?_
          refine vi_bipush 63 rfl (by decide) ?_
          refine vi_icmp_ge 64 rfl (by omega) (by omega) (fun c_119 => ?_) (fun c_119 => ?_)
          · refine vi_iinc 118 rfl rfl rfl ?_
            refine vi_goto 119 rfl ?_
            exact vi_lc (ih (x + 1) (by omega) (by omega) w2 L2 H2 me2 (by omega) (fun y y1 y2 j j1 j2 => by (by_cases e : y = x; (rw [e]; exact hnk j j1 (by omega)); exact hno y y1 (by omega) j j1 j2)) hrf2 h1042 hmI2 ef2) ⟨rfl, rfl, rfl, rfl, rfl, rfl, trivial⟩
          · have hky1 := hky (by omega)
            have hwr1 := hwr (by omega)
            refine vi_iload 65 rfl rfl ?_
            refine vi_iload_n 66 rfl rfl ?_
            refine vi_iload 67 rfl rfl ?_
            refine vi_iconst 68 rfl ?_
            refine vi_idiv 69 rfl (by omega) (by omega) ?_
            refine vi_imul 70 rfl ?_
            refine vi_iadd 71 rfl ?_
            refine vi_iload 72 rfl rfl ?_
            refine vi_iload 73 rfl rfl ?_
            refine vi_iconst 74 rfl ?_
            refine vi_irem 75 rfl (by omega) (by omega) ?_
            refine vi_imul 76 rfl ?_
            refine vi_iadd 77 rfl ?_
            rw [hba k]
            refine vi_istore 78 rfl rfl ?_
            refine vi_iload 79 rfl rfl ?_
            refine vi_iload 80 rfl rfl ?_
            refine vi_icmp_eq 81 rfl (by omega) (by omega) (fun c_145 => ?_) (fun c_145 => ?_)
            · refine vi_iinc 116 rfl rfl rfl ?_
              refine vi_goto 117 rfl ?_
              exact vi_lc (jh (k + 1) (by omega) (by omega) w2 L2 H2 me2 (by omega) (nxt (fun q => by have := q.2.2.1; rw [hKy] at this; cases this)) hrf2 h1042 hmI2 ef2) ⟨rfl, rfl, rfl, rfl, rfl, rfl, rfl, rfl, trivial⟩
            · refine vi_aload_n 82 rfl rfl ?_
              refine vi_get 83 rfl f_X12_36 hrf2' rfl rfl ?_
              refine vi_iload 84 rfl rfl ?_
              refine vi_zald 85 rfl h1022 (by omega) ?_
              refine vi_if_eq 86 rfl (by omega) (fun c_155 => ?_) (fun c_155 => by exfalso; omega)
              refine vi_iinc 116 rfl rfl rfl ?_
              refine vi_goto 117 rfl ?_
              exact vi_lc (jh (k + 1) (by omega) (by omega) w2 L2 H2 me2 (by omega) (nxt (fun q => by have := q.2.2.1; rw [hKy] at this; cases this)) hrf2 h1042 hmI2 ef2) ⟨rfl, rfl, rfl, rfl, rfl, rfl, rfl, rfl, trivial⟩
        | true =>
          rw [hKy] at hky
          rw [show wb_b2 true = 1 from rfl] at hky
          refine vi_iload 62 rfl rfl ?_
          refine vi_bipush 63 rfl (by decide) ?_
          refine vi_icmp_ge 64 rfl (by omega) (by omega) (fun c_119 => ?_) (fun c_119 => ?_)
          · refine vi_iinc 118 rfl rfl rfl ?_
            refine vi_goto 119 rfl ?_
            exact vi_lc (ih (x + 1) (by omega) (by omega) w2 L2 H2 me2 (by omega) (fun y y1 y2 j j1 j2 => by (by_cases e : y = x; (rw [e]; exact hnk j j1 (by omega)); exact hno y y1 (by omega) j j1 j2)) hrf2 h1042 hmI2 ef2) ⟨rfl, rfl, rfl, rfl, rfl, rfl, trivial⟩
          · have hky1 := hky (by omega)
            have hwr1 := hwr (by omega)
            have hwe1 := hwe (by omega)
            refine vi_iload 65 rfl rfl ?_
            refine vi_iload_n 66 rfl rfl ?_
            refine vi_iload 67 rfl rfl ?_
            refine vi_iconst 68 rfl ?_
            refine vi_idiv 69 rfl (by omega) (by omega) ?_
            refine vi_imul 70 rfl ?_
            refine vi_iadd 71 rfl ?_
            refine vi_iload 72 rfl rfl ?_
            refine vi_iload 73 rfl rfl ?_
            refine vi_iconst 74 rfl ?_
            refine vi_irem 75 rfl (by omega) (by omega) ?_
            refine vi_imul 76 rfl ?_
            refine vi_iadd 77 rfl ?_
            rw [hba k]
            refine vi_istore 78 rfl rfl ?_
            refine vi_iload 79 rfl rfl ?_
            refine vi_iload 80 rfl rfl ?_
            refine vi_icmp_eq 81 rfl (by omega) (by omega) (fun c_145 => ?_) (fun c_145 => ?_)
            · refine vi_iinc 116 rfl rfl rfl ?_
              refine vi_goto 117 rfl ?_
              first | exact vi_lc (jh (k + 1) (by omega) (by omega) _ L5 H5 me5 (by omega) (nxt hnP) hrf5 h1045 hmI5 ef5) ⟨rfl, rfl, rfl, rfl, rfl, rfl, rfl, rfl, trivial⟩ | exact vi_lc (jh (k + 1) (by omega) (by omega) _ L4 H4 me4 (by omega) (nxt hnP) hrf4 h1044 hmI4 ef4) ⟨rfl, rfl, rfl, rfl, rfl, rfl, rfl, rfl, trivial⟩ | exact vi_lc (jh (k + 1) (by omega) (by omega) _ L3 H3 me3 (by omega) (nxt hnP) hrf3 h1043 hmI3 ef3) ⟨rfl, rfl, rfl, rfl, rfl, rfl, rfl, rfl, trivial⟩ | exact vi_lc (jh (k + 1) (by omega) (by omega) w2 L2 H2 me2 (by omega) (nxt (fun q => q.2.1 (hwe1.mp (by omega)))) hrf2 h1042 hmI2 ef2) ⟨rfl, rfl, rfl, rfl, rfl, rfl, rfl, rfl, trivial⟩
            · refine vi_aload_n 82 rfl rfl ?_
              refine vi_get 83 rfl f_X12_36 hrf2' rfl rfl ?_
              refine vi_iload 84 rfl rfl ?_
              refine vi_zald 85 rfl h1022 (by omega) ?_
              refine vi_if_eq 86 rfl (by omega) (fun c_155 => by exfalso; omega) (fun c_155 => ?_)
              refine vi_aload_n 87 rfl rfl ?_
              refine vi_iconst 88 rfl ?_
              refine vi_iload 89 rfl rfl ?_
              refine vi_iload 90 rfl rfl ?_
              refine vi_iload_n 91 rfl rfl ?_
              refine vi_iload_n 92 rfl rfl ?_
              refine vi_V5 93 ok_X12_agreesChanged rfl c_X12_172 hrf2' rfl rfl ?_
              refine sp_X12_agreesChanged hrf2 h972 h982 h1042 hmI2 hR htt htr (by omega) ⟨hx0, hx5⟩ (by omega) ht hm (fun b_166 => ?_) (fun b_166 => ?_)
              · intro L3 H3 me3 hac3 hrf3 h1043 hmI3 hf3
                have hrf3' := hrf3
                unfold wb_Rf at hrf3'
                have ef3 : ∀ k, k ≠ 96 → k ≠ 104 → b_166 k = w k := fun k q1 q2 => (hf3 k q1 q2).trans (ef2 k q1 q2)
                refine vi_if_eq 94 rfl (by omega) (fun c => absurd c (by decide)) (fun _ => ?_)
                refine vi_aload_n 95 rfl rfl ?_
                refine vi_iconst 96 rfl ?_
                refine vi_iload 97 rfl rfl ?_
                refine vi_iload 98 rfl rfl ?_
                refine vi_iload_n 99 rfl rfl ?_
                refine vi_iload_n 100 rfl rfl ?_
                refine vi_V5 101 ok_X12_agreesChanged rfl c_X12_172 hrf3' rfl rfl ?_
                refine sp_X12_agreesChanged hrf3 ((ef3 97 (by omega) (by omega)).trans h97) ((ef3 98 (by omega) (by omega)).trans h98) h1043 hmI3 hR htt htr (by omega) ⟨hx0, hx5⟩ (by omega) ht hm (fun b_180 => ?_) (fun b_180 => ?_)
                · intro L4 H4 me4 hac4 hrf4 h1044 hmI4 hf4
                  have hrf4' := hrf4
                  unfold wb_Rf at hrf4'
                  have ef4 : ∀ k, k ≠ 96 → k ≠ 104 → b_180 k = w k := fun k q1 q2 => (hf4 k q1 q2).trans (ef3 k q1 q2)
                  refine vi_if_eq 102 rfl (by omega) (fun c => absurd c (by decide)) (fun _ => ?_)
                  refine vi_aload_n 103 rfl rfl ?_
                  refine vi_iconst 104 rfl ?_
                  refine vi_iload 105 rfl rfl ?_
                  refine vi_iload 106 rfl rfl ?_
                  refine vi_iload_n 107 rfl rfl ?_
                  refine vi_iload_n 108 rfl rfl ?_
                  refine vi_V5 109 ok_X12_agreesChanged rfl c_X12_172 hrf4' rfl rfl ?_
                  refine sp_X12_agreesChanged hrf4 ((ef4 97 (by omega) (by omega)).trans h97) ((ef4 98 (by omega) (by omega)).trans h98) h1044 hmI4 hR htt htr (by omega) ⟨hx0, hx5⟩ (by omega) ht hm (fun b_194 => ?_) (fun b_194 => ?_)
                  · intro L5 H5 me5 hac5 hrf5 h1045 hmI5 hf5
                    have hrf5' := hrf5
                    unfold wb_Rf at hrf5'
                    have ef5 : ∀ k, k ≠ 96 → k ≠ 104 → b_194 k = w k := fun k q1 q2 => (hf5 k q1 q2).trans (ef4 k q1 q2)
                    refine vi_if_eq 110 rfl (by omega) (fun c => absurd c (by decide)) (fun _ => ?_)
                    refine vi_aload_n 111 rfl rfl ?_
                    refine vi_iload 112 rfl rfl ?_
                    refine vi_put 113 rfl f_X12_176 hrf5' rfl rfl rfl rfl ?_
                    refine vi_iload 114 rfl rfl ?_
                    exact vi_ireturn 115 rfl rfl rfl (Nat.zero_le _) (Nat.zero_le _) (kf _ L5 H5 x k me5 ⟨hx0, hx5⟩ (by omega) ⟨hKx, fun q => by have := hwe1.mpr q; omega, hKy, fun u u1 u2 => by rcases (show u = 0 ∨ u = 1 ∨ u = 2 by omega) with rfl | rfl | rfl; (exact hac3); (exact hac4); (exact hac5)⟩ hno hnk wb_ups ((wb_upn (by omega)).trans h1045) (fun k q1 q2 => by rw [wb_upn q1]; exact ef5 k q1 q2))
                  · intro L5 H5 me5 hac5 hrf5 h1045 hmI5 hf5
                    have ef5 : ∀ k, k ≠ 96 → k ≠ 104 → b_194 k = w k := fun k q1 q2 => (hf5 k q1 q2).trans (ef4 k q1 q2)
                    have hnP : ¬ wb_cP n c s sd sf K t m x k := fun q => by (have := q.2.2.2 2 (by omega) (by omega); rw [hac5] at this; cases this)
                    refine vi_if_eq 110 rfl (by omega) (fun _ => ?_) (fun c => absurd c (by decide))
                    refine vi_iinc 116 rfl rfl rfl ?_
                    refine vi_goto 117 rfl ?_
                    first | exact vi_lc (jh (k + 1) (by omega) (by omega) _ L5 H5 me5 (by omega) (nxt hnP) hrf5 h1045 hmI5 ef5) ⟨rfl, rfl, rfl, rfl, rfl, rfl, rfl, rfl, trivial⟩ | exact vi_lc (jh (k + 1) (by omega) (by omega) _ L4 H4 me4 (by omega) (nxt hnP) hrf4 h1044 hmI4 ef4) ⟨rfl, rfl, rfl, rfl, rfl, rfl, rfl, rfl, trivial⟩ | exact vi_lc (jh (k + 1) (by omega) (by omega) _ L3 H3 me3 (by omega) (nxt hnP) hrf3 h1043 hmI3 ef3) ⟨rfl, rfl, rfl, rfl, rfl, rfl, rfl, rfl, trivial⟩ | exact vi_lc (jh (k + 1) (by omega) (by omega) w2 L2 H2 me2 (by omega) (nxt (fun q => q.2.1 (hwe1.mp (by omega)))) hrf2 h1042 hmI2 ef2) ⟨rfl, rfl, rfl, rfl, rfl, rfl, rfl, rfl, trivial⟩
                · intro L4 H4 me4 hac4 hrf4 h1044 hmI4 hf4
                  have ef4 : ∀ k, k ≠ 96 → k ≠ 104 → b_180 k = w k := fun k q1 q2 => (hf4 k q1 q2).trans (ef3 k q1 q2)
                  have hnP : ¬ wb_cP n c s sd sf K t m x k := fun q => by (have := q.2.2.2 1 (by omega) (by omega); rw [hac4] at this; cases this)
                  refine vi_if_eq 102 rfl (by omega) (fun _ => ?_) (fun c => absurd c (by decide))
                  refine vi_iinc 116 rfl rfl rfl ?_
                  refine vi_goto 117 rfl ?_
                  first | exact vi_lc (jh (k + 1) (by omega) (by omega) _ L5 H5 me5 (by omega) (nxt hnP) hrf5 h1045 hmI5 ef5) ⟨rfl, rfl, rfl, rfl, rfl, rfl, rfl, rfl, trivial⟩ | exact vi_lc (jh (k + 1) (by omega) (by omega) _ L4 H4 me4 (by omega) (nxt hnP) hrf4 h1044 hmI4 ef4) ⟨rfl, rfl, rfl, rfl, rfl, rfl, rfl, rfl, trivial⟩ | exact vi_lc (jh (k + 1) (by omega) (by omega) _ L3 H3 me3 (by omega) (nxt hnP) hrf3 h1043 hmI3 ef3) ⟨rfl, rfl, rfl, rfl, rfl, rfl, rfl, rfl, trivial⟩ | exact vi_lc (jh (k + 1) (by omega) (by omega) w2 L2 H2 me2 (by omega) (nxt (fun q => q.2.1 (hwe1.mp (by omega)))) hrf2 h1042 hmI2 ef2) ⟨rfl, rfl, rfl, rfl, rfl, rfl, rfl, rfl, trivial⟩
              · intro L3 H3 me3 hac3 hrf3 h1043 hmI3 hf3
                have ef3 : ∀ k, k ≠ 96 → k ≠ 104 → b_166 k = w k := fun k q1 q2 => (hf3 k q1 q2).trans (ef2 k q1 q2)
                have hnP : ¬ wb_cP n c s sd sf K t m x k := fun q => by (have := q.2.2.2 0 (by omega) (by omega); rw [hac3] at this; cases this)
                refine vi_if_eq 94 rfl (by omega) (fun _ => ?_) (fun c => absurd c (by decide))
                refine vi_iinc 116 rfl rfl rfl ?_
                refine vi_goto 117 rfl ?_
                first | exact vi_lc (jh (k + 1) (by omega) (by omega) _ L5 H5 me5 (by omega) (nxt hnP) hrf5 h1045 hmI5 ef5) ⟨rfl, rfl, rfl, rfl, rfl, rfl, rfl, rfl, trivial⟩ | exact vi_lc (jh (k + 1) (by omega) (by omega) _ L4 H4 me4 (by omega) (nxt hnP) hrf4 h1044 hmI4 ef4) ⟨rfl, rfl, rfl, rfl, rfl, rfl, rfl, rfl, trivial⟩ | exact vi_lc (jh (k + 1) (by omega) (by omega) _ L3 H3 me3 (by omega) (nxt hnP) hrf3 h1043 hmI3 ef3) ⟨rfl, rfl, rfl, rfl, rfl, rfl, rfl, rfl, trivial⟩ | exact vi_lc (jh (k + 1) (by omega) (by omega) w2 L2 H2 me2 (by omega) (nxt (fun q => q.2.1 (hwe1.mp (by omega)))) hrf2 h1042 hmI2 ef2) ⟨rfl, rfl, rfl, rfl, rfl, rfl, rfl, rfl, trivial⟩
      refine vi_iload 36 rfl rfl ?_
      refine vi_sipush 37 rfl (by decide) ?_
      refine vi_icmp_ge 38 rfl (by omega) (by omega) (fun c_74 => ?_) (fun c_74 => ?_)
      · refine vi_bipush 120 rfl (by decide) ?_
        exact vi_ireturn 121 rfl rfl rfl (Nat.zero_le _) (Nat.zero_le _) (kn w1 L1 H1 me1 (fun y y1 y2 => hno y y1 (by omega)) hrf1 h1041 ef)
      · have hkx1 := hkx (by omega)
        refine vi_aload_n 39 rfl rfl ?_
        refine vi_get 40 rfl f_X12_36 hrf1' rfl rfl ?_
        refine vi_iload 41 rfl rfl ?_
        refine vi_zald 42 rfl h1021 (by omega) ?_
        refine vi_if_eq 43 rfl (by omega) (fun c_84 => by exfalso; omega) (fun c_84 => ?_)
        refine vi_iload 44 rfl rfl ?_
        refine vi_iload_n 45 rfl rfl ?_
        refine vi_iload 46 rfl rfl ?_
        refine vi_iload_n 47 rfl rfl ?_
        refine vi_S2 48 ok_X12_digit rfl c_X12_94 rfl ?_
        refine sp_X12_digit (by omega) (by omega) ?_
        refine vi_imul 49 rfl ?_
        refine vi_isub 50 rfl ?_
        refine vi_iload 51 rfl rfl ?_
        refine vi_iload 52 rfl rfl ?_
        refine vi_iconst 53 rfl ?_
        refine vi_iload_n 54 rfl rfl ?_
        refine vi_iadd 55 rfl ?_
        refine vi_S2 56 ok_X12_digit rfl c_X12_94 rfl ?_
        refine sp_X12_digit (by omega) (by omega) ?_
        refine vi_imul 57 rfl ?_
        refine vi_isub 58 rfl ?_
        refine vi_istore 59 rfl rfl ?_
        refine vi_iconst 60 rfl ?_
        refine vi_istore 61 rfl rfl ?_
        exact vi_lc (lpK (by omega) _ (fun k => wb_wp_hl ⟨hx0, by omega⟩ ht hhi hlo) 0 (by omega) w1 L1 H1 me1 (by omega) (fun j j1 j2 => by omega) hrf1 h1041 hmI1 ef) ⟨rfl, rfl, rfl, rfl, rfl, rfl, rfl, rfl, trivial⟩
  have lpA : ∀ k, k ≤ 46875 → ∀ (w1 : wb_W) (me1 : Int → Int), 0 ≤ k → (∀ j, 0 ≤ j → j < k → me1 j = 0) → w1 104 = aB 46875 me1 → (∀ k, k ≠ 104 → w1 k = w k) → wb_V G M_X12_changedFrom 2 [(0, .ref 96), (1, .int (wb_i m)), (2, .int (wb_i t)), (3, .int (wb_i k))] [] N w1 0 0 Q := by
    refine wb_up 46875 _ ?_
    intro k ih hk w1 me1 hk0 hz h1041 ef
    have x96 := (ef 96 (by omega)).trans hrf'
    have hin : ¬ k < 46875 → wb_mI n c s sd sf t m me1 := fun q u x r hu hx hr => Or.inl (by
      have := wb_ix_rg hR hu hx ht hr
      exact hz _ (by omega) (by omega))
    refine vi_iload_n 2 rfl rfl ?_
    refine vi_ldc 3 rfl k_X12_42 ?_
    refine vi_icmp_ge 4 rfl (by omega) (by omega) (fun c_5 => ?_) (fun c_5 => ?_)
    · refine vi_iload_n 12 rfl rfl ?_
      refine vi_if_ne 13 rfl (by omega) (fun c_22 => ?_) (fun c_22 => ?_)
      · refine vi_iload_n 16 rfl rfl ?_
        refine vi_iconst 17 rfl ?_
        refine vi_icmp_ne 18 rfl (by omega) (by omega) (fun c_33 => ?_) (fun c_33 => ?_)
        · refine vi_bipush 21 rfl (by decide) ?_
          refine vi_istore_n 22 rfl rfl ?_
          refine vi_iload_n 23 rfl rfl ?_
          refine vi_if_ne 24 rfl (by omega) (fun c_46 => ?_) (fun c_46 => ?_)
          · refine vi_iload_n 27 rfl rfl ?_
            refine vi_iconst 28 rfl ?_
            refine vi_icmp_ne 29 rfl (by omega) (by omega) (fun c_56 => ?_) (fun c_56 => ?_)
            · refine vi_iconst 32 rfl ?_
              refine vi_istore 33 rfl rfl ?_
              refine vi_iconst 34 rfl ?_
              refine vi_istore 35 rfl rfl ?_
              first | (exfalso; omega) | (obtain rfl : t = 0 := (by omega); exact vi_lc (lpX 3125 25 rfl rfl 0 (by omega) w1 L H me1 (by omega) (fun y y1 y2 => by omega) ((ef 96 (by omega)).trans hrf) h1041 (hin (by omega)) (fun q _ q2 => ef q q2)) ⟨rfl, rfl, rfl, rfl, rfl, rfl, trivial⟩) | (obtain rfl : t = 1 := (by omega); exact vi_lc (lpX 625 5 rfl rfl 0 (by omega) w1 L H me1 (by omega) (fun y y1 y2 => by omega) ((ef 96 (by omega)).trans hrf) h1041 (hin (by omega)) (fun q _ q2 => ef q q2)) ⟨rfl, rfl, rfl, rfl, rfl, rfl, trivial⟩) | (obtain rfl : t = 2 := (by omega); exact vi_lc (lpX 125 1 rfl rfl 0 (by omega) w1 L H me1 (by omega) (fun y y1 y2 => by omega) ((ef 96 (by omega)).trans hrf) h1041 (hin (by omega)) (fun q _ q2 => ef q q2)) ⟨rfl, rfl, rfl, rfl, rfl, rfl, trivial⟩)
            · refine vi_iconst 30 rfl ?_
              refine vi_goto 31 rfl ?_
              refine vi_istore 33 rfl rfl ?_
              refine vi_iconst 34 rfl ?_
              refine vi_istore 35 rfl rfl ?_
              first | (exfalso; omega) | (obtain rfl : t = 0 := (by omega); exact vi_lc (lpX 3125 25 rfl rfl 0 (by omega) w1 L H me1 (by omega) (fun y y1 y2 => by omega) ((ef 96 (by omega)).trans hrf) h1041 (hin (by omega)) (fun q _ q2 => ef q q2)) ⟨rfl, rfl, rfl, rfl, rfl, rfl, trivial⟩) | (obtain rfl : t = 1 := (by omega); exact vi_lc (lpX 625 5 rfl rfl 0 (by omega) w1 L H me1 (by omega) (fun y y1 y2 => by omega) ((ef 96 (by omega)).trans hrf) h1041 (hin (by omega)) (fun q _ q2 => ef q q2)) ⟨rfl, rfl, rfl, rfl, rfl, rfl, trivial⟩) | (obtain rfl : t = 2 := (by omega); exact vi_lc (lpX 125 1 rfl rfl 0 (by omega) w1 L H me1 (by omega) (fun y y1 y2 => by omega) ((ef 96 (by omega)).trans hrf) h1041 (hin (by omega)) (fun q _ q2 => ef q q2)) ⟨rfl, rfl, rfl, rfl, rfl, rfl, trivial⟩)
          · refine vi_bipush 25 rfl (by decide) ?_
            refine vi_goto 26 rfl ?_
            refine vi_istore 33 rfl rfl ?_
            refine vi_iconst 34 rfl ?_
            refine vi_istore 35 rfl rfl ?_
            first | (exfalso; omega) | (obtain rfl : t = 0 := (by omega); exact vi_lc (lpX 3125 25 rfl rfl 0 (by omega) w1 L H me1 (by omega) (fun y y1 y2 => by omega) ((ef 96 (by omega)).trans hrf) h1041 (hin (by omega)) (fun q _ q2 => ef q q2)) ⟨rfl, rfl, rfl, rfl, rfl, rfl, trivial⟩) | (obtain rfl : t = 1 := (by omega); exact vi_lc (lpX 625 5 rfl rfl 0 (by omega) w1 L H me1 (by omega) (fun y y1 y2 => by omega) ((ef 96 (by omega)).trans hrf) h1041 (hin (by omega)) (fun q _ q2 => ef q q2)) ⟨rfl, rfl, rfl, rfl, rfl, rfl, trivial⟩) | (obtain rfl : t = 2 := (by omega); exact vi_lc (lpX 125 1 rfl rfl 0 (by omega) w1 L H me1 (by omega) (fun y y1 y2 => by omega) ((ef 96 (by omega)).trans hrf) h1041 (hin (by omega)) (fun q _ q2 => ef q q2)) ⟨rfl, rfl, rfl, rfl, rfl, rfl, trivial⟩)
        · refine vi_sipush 19 rfl (by decide) ?_
          refine vi_goto 20 rfl ?_
          refine vi_istore_n 22 rfl rfl ?_
          refine vi_iload_n 23 rfl rfl ?_
          refine vi_if_ne 24 rfl (by omega) (fun c_46 => ?_) (fun c_46 => ?_)
          · refine vi_iload_n 27 rfl rfl ?_
            refine vi_iconst 28 rfl ?_
            refine vi_icmp_ne 29 rfl (by omega) (by omega) (fun c_56 => ?_) (fun c_56 => ?_)
            · refine vi_iconst 32 rfl ?_
              refine vi_istore 33 rfl rfl ?_
              refine vi_iconst 34 rfl ?_
              refine vi_istore 35 rfl rfl ?_
              first | (exfalso; omega) | (obtain rfl : t = 0 := (by omega); exact vi_lc (lpX 3125 25 rfl rfl 0 (by omega) w1 L H me1 (by omega) (fun y y1 y2 => by omega) ((ef 96 (by omega)).trans hrf) h1041 (hin (by omega)) (fun q _ q2 => ef q q2)) ⟨rfl, rfl, rfl, rfl, rfl, rfl, trivial⟩) | (obtain rfl : t = 1 := (by omega); exact vi_lc (lpX 625 5 rfl rfl 0 (by omega) w1 L H me1 (by omega) (fun y y1 y2 => by omega) ((ef 96 (by omega)).trans hrf) h1041 (hin (by omega)) (fun q _ q2 => ef q q2)) ⟨rfl, rfl, rfl, rfl, rfl, rfl, trivial⟩) | (obtain rfl : t = 2 := (by omega); exact vi_lc (lpX 125 1 rfl rfl 0 (by omega) w1 L H me1 (by omega) (fun y y1 y2 => by omega) ((ef 96 (by omega)).trans hrf) h1041 (hin (by omega)) (fun q _ q2 => ef q q2)) ⟨rfl, rfl, rfl, rfl, rfl, rfl, trivial⟩)
            · refine vi_iconst 30 rfl ?_
              refine vi_goto 31 rfl ?_
              refine vi_istore 33 rfl rfl ?_
              refine vi_iconst 34 rfl ?_
              refine vi_istore 35 rfl rfl ?_
              first | (exfalso; omega) | (obtain rfl : t = 0 := (by omega); exact vi_lc (lpX 3125 25 rfl rfl 0 (by omega) w1 L H me1 (by omega) (fun y y1 y2 => by omega) ((ef 96 (by omega)).trans hrf) h1041 (hin (by omega)) (fun q _ q2 => ef q q2)) ⟨rfl, rfl, rfl, rfl, rfl, rfl, trivial⟩) | (obtain rfl : t = 1 := (by omega); exact vi_lc (lpX 625 5 rfl rfl 0 (by omega) w1 L H me1 (by omega) (fun y y1 y2 => by omega) ((ef 96 (by omega)).trans hrf) h1041 (hin (by omega)) (fun q _ q2 => ef q q2)) ⟨rfl, rfl, rfl, rfl, rfl, rfl, trivial⟩) | (obtain rfl : t = 2 := (by omega); exact vi_lc (lpX 125 1 rfl rfl 0 (by omega) w1 L H me1 (by omega) (fun y y1 y2 => by omega) ((ef 96 (by omega)).trans hrf) h1041 (hin (by omega)) (fun q _ q2 => ef q q2)) ⟨rfl, rfl, rfl, rfl, rfl, rfl, trivial⟩)
          · refine vi_bipush 25 rfl (by decide) ?_
            refine vi_goto 26 rfl ?_
            refine vi_istore 33 rfl rfl ?_
            refine vi_iconst 34 rfl ?_
            refine vi_istore 35 rfl rfl ?_
            first | (exfalso; omega) | (obtain rfl : t = 0 := (by omega); exact vi_lc (lpX 3125 25 rfl rfl 0 (by omega) w1 L H me1 (by omega) (fun y y1 y2 => by omega) ((ef 96 (by omega)).trans hrf) h1041 (hin (by omega)) (fun q _ q2 => ef q q2)) ⟨rfl, rfl, rfl, rfl, rfl, rfl, trivial⟩) | (obtain rfl : t = 1 := (by omega); exact vi_lc (lpX 625 5 rfl rfl 0 (by omega) w1 L H me1 (by omega) (fun y y1 y2 => by omega) ((ef 96 (by omega)).trans hrf) h1041 (hin (by omega)) (fun q _ q2 => ef q q2)) ⟨rfl, rfl, rfl, rfl, rfl, rfl, trivial⟩) | (obtain rfl : t = 2 := (by omega); exact vi_lc (lpX 125 1 rfl rfl 0 (by omega) w1 L H me1 (by omega) (fun y y1 y2 => by omega) ((ef 96 (by omega)).trans hrf) h1041 (hin (by omega)) (fun q _ q2 => ef q q2)) ⟨rfl, rfl, rfl, rfl, rfl, rfl, trivial⟩)
      · refine vi_sipush 14 rfl (by decide) ?_
        refine vi_goto 15 rfl ?_
        refine vi_istore_n 22 rfl rfl ?_
        refine vi_iload_n 23 rfl rfl ?_
        refine vi_if_ne 24 rfl (by omega) (fun c_46 => ?_) (fun c_46 => ?_)
        · refine vi_iload_n 27 rfl rfl ?_
          refine vi_iconst 28 rfl ?_
          refine vi_icmp_ne 29 rfl (by omega) (by omega) (fun c_56 => ?_) (fun c_56 => ?_)
          · refine vi_iconst 32 rfl ?_
            refine vi_istore 33 rfl rfl ?_
            refine vi_iconst 34 rfl ?_
            refine vi_istore 35 rfl rfl ?_
            first | (exfalso; omega) | (obtain rfl : t = 0 := (by omega); exact vi_lc (lpX 3125 25 rfl rfl 0 (by omega) w1 L H me1 (by omega) (fun y y1 y2 => by omega) ((ef 96 (by omega)).trans hrf) h1041 (hin (by omega)) (fun q _ q2 => ef q q2)) ⟨rfl, rfl, rfl, rfl, rfl, rfl, trivial⟩) | (obtain rfl : t = 1 := (by omega); exact vi_lc (lpX 625 5 rfl rfl 0 (by omega) w1 L H me1 (by omega) (fun y y1 y2 => by omega) ((ef 96 (by omega)).trans hrf) h1041 (hin (by omega)) (fun q _ q2 => ef q q2)) ⟨rfl, rfl, rfl, rfl, rfl, rfl, trivial⟩) | (obtain rfl : t = 2 := (by omega); exact vi_lc (lpX 125 1 rfl rfl 0 (by omega) w1 L H me1 (by omega) (fun y y1 y2 => by omega) ((ef 96 (by omega)).trans hrf) h1041 (hin (by omega)) (fun q _ q2 => ef q q2)) ⟨rfl, rfl, rfl, rfl, rfl, rfl, trivial⟩)
          · refine vi_iconst 30 rfl ?_
            refine vi_goto 31 rfl ?_
            refine vi_istore 33 rfl rfl ?_
            refine vi_iconst 34 rfl ?_
            refine vi_istore 35 rfl rfl ?_
            first | (exfalso; omega) | (obtain rfl : t = 0 := (by omega); exact vi_lc (lpX 3125 25 rfl rfl 0 (by omega) w1 L H me1 (by omega) (fun y y1 y2 => by omega) ((ef 96 (by omega)).trans hrf) h1041 (hin (by omega)) (fun q _ q2 => ef q q2)) ⟨rfl, rfl, rfl, rfl, rfl, rfl, trivial⟩) | (obtain rfl : t = 1 := (by omega); exact vi_lc (lpX 625 5 rfl rfl 0 (by omega) w1 L H me1 (by omega) (fun y y1 y2 => by omega) ((ef 96 (by omega)).trans hrf) h1041 (hin (by omega)) (fun q _ q2 => ef q q2)) ⟨rfl, rfl, rfl, rfl, rfl, rfl, trivial⟩) | (obtain rfl : t = 2 := (by omega); exact vi_lc (lpX 125 1 rfl rfl 0 (by omega) w1 L H me1 (by omega) (fun y y1 y2 => by omega) ((ef 96 (by omega)).trans hrf) h1041 (hin (by omega)) (fun q _ q2 => ef q q2)) ⟨rfl, rfl, rfl, rfl, rfl, rfl, trivial⟩)
        · refine vi_bipush 25 rfl (by decide) ?_
          refine vi_goto 26 rfl ?_
          refine vi_istore 33 rfl rfl ?_
          refine vi_iconst 34 rfl ?_
          refine vi_istore 35 rfl rfl ?_
          first | (exfalso; omega) | (obtain rfl : t = 0 := (by omega); exact vi_lc (lpX 3125 25 rfl rfl 0 (by omega) w1 L H me1 (by omega) (fun y y1 y2 => by omega) ((ef 96 (by omega)).trans hrf) h1041 (hin (by omega)) (fun q _ q2 => ef q q2)) ⟨rfl, rfl, rfl, rfl, rfl, rfl, trivial⟩) | (obtain rfl : t = 1 := (by omega); exact vi_lc (lpX 625 5 rfl rfl 0 (by omega) w1 L H me1 (by omega) (fun y y1 y2 => by omega) ((ef 96 (by omega)).trans hrf) h1041 (hin (by omega)) (fun q _ q2 => ef q q2)) ⟨rfl, rfl, rfl, rfl, rfl, rfl, trivial⟩) | (obtain rfl : t = 2 := (by omega); exact vi_lc (lpX 125 1 rfl rfl 0 (by omega) w1 L H me1 (by omega) (fun y y1 y2 => by omega) ((ef 96 (by omega)).trans hrf) h1041 (hin (by omega)) (fun q _ q2 => ef q q2)) ⟨rfl, rfl, rfl, rfl, rfl, rfl, trivial⟩)
    · refine vi_aload_n 5 rfl rfl ?_
      refine vi_get 6 rfl f_X12_43 x96 rfl rfl ?_
      refine vi_iload_n 7 rfl rfl ?_
      refine vi_iconst 8 rfl ?_
      refine vi_bast 9 rfl h1041 (by omega) (by omega) ?_
      refine vi_iinc 10 rfl rfl rfl ?_
      refine vi_goto 11 rfl ?_
      exact vi_lc (ih (k + 1) (by omega) (by omega) _ _ (by omega) (fun j j1 j2 => by (by_cases e : j = k; (rw [e, wb_us]); (rw [wb_un e]; exact hz j j1 (by omega)))) wb_ups (fun q hq => by rw [wb_upn hq]; exact ef q hq)) ⟨rfl, rfl, rfl, rfl, trivial⟩
  refine vi_iconst 0 rfl ?_
  refine vi_istore_n 1 rfl rfl ?_
  exact vi_lc (lpA 0 (by omega) w me (by omega) (fun j j1 j2 => by omega) h104 (fun _ _ => rfl)) ⟨rfl, rfl, rfl, rfl, trivial⟩
/-- what is found first is what the class found -/
theorem wb_cg_at {hl mo th be bh m t x k : Int} (hR : wb_BR n c s sd sf) (hHL : wb_HL hl n c sd sf) (hcg : wb_cg n c s sd sf K hl mo th be bh) (hm : 1 ≤ m ∧ m < n) (ht : 0 ≤ t ∧ t < 3) (hx : 0 ≤ x ∧ x < 15625) (hk : 0 ≤ k ∧ k < 25) (hP : wb_cP n c s sd sf K t m x k) (hno : ∀ m' t', 1 ≤ m' → 0 ≤ t' → t' < 3 → (m' < m ∨ (m' = m ∧ t' < t)) → ∀ y, 0 ≤ y → y < 15625 → ∀ j, 0 ≤ j → j < 25 → ¬ wb_cP n c s sd sf K t' m' y j) (hy : ∀ y, 0 ≤ y → y < x → ∀ j, 0 ≤ j → j < 25 → ¬ wb_cP n c s sd sf K t m y j) (hj : ∀ j, 0 ≤ j → j < k → ¬ wb_cP n c s sd sf K t m x j) : mo = m ∧ th = t ∧ be = x ∧ bh = wb_wp x t k := by
  have hS := (wb_ch_eq (K := K) hR hHL hx ht hk hm).mpr hP
  rcases hcg with ⟨_, a⟩ | ⟨a1, a2, a3, a4, a5, a6, a7, a8⟩
  · have := a m t hm.1 hm.2 ht.1 ht.2 x hx.1 hx.2 hS.1 k hk.1 hk.2
    rw [hS.2] at this; cases this
  · rcases wb_nxt_cs (wb_HF n c s sd sf hl th mo K be) 25 with ⟨b1, b2, b3, b4⟩ | ⟨b1, b2⟩
    · have hP2 := (wb_ch_eq (K := K) hR hHL a3 a2 ⟨b1, by omega⟩ a1).mp ⟨a4, b3⟩
      have e1 : ¬ (mo < m ∨ (mo = m ∧ th < t)) := fun q => hno mo th a1.1 a2.1 a2.2 q be a3.1 a3.2 _ b1 (by omega) hP2
      have e2 : ¬ (m < mo ∨ (m = mo ∧ t < th)) := fun q => by
        have := a8 m t hm.1 ht.1 ht.2 q x hx.1 hx.2 hS.1 k hk.1 hk.2
        rw [hS.2] at this; cases this
      obtain rfl : mo = m := by omega
      obtain rfl : th = t := by omega
      have e3 : ¬ be < x := fun q => hy be a3.1 q _ b1 (by omega) hP2
      have e4 : ¬ x < be := fun q => by
        have := a6 x hx.1 q hS.1 k hk.1 hk.2
        rw [hS.2] at this; cases this
      obtain rfl : be = x := by omega
      refine ⟨rfl, rfl, rfl, ?_⟩
      have hnx : wb_nxt (wb_HF n c s sd sf hl th mo K be) 25 0 = k := by
        refine wb_nxt_at 25 0 k hk.1 (by omega) hS.2 (fun j j1 j2 => ?_)
        cases hh : wb_HF n c s sd sf hl th mo K be j with
        | false => rfl
        | true => exact absurd ((wb_ch_eq (K := K) hR hHL a3 a2 ⟨j1, by omega⟩ a1).mp ⟨a4, hh⟩) (hj j j1 j2)
      rw [a7, hnx]
    · omega
theorem wb_cg_no {hl mo th be bh : Int} (hR : wb_BR n c s sd sf) (hHL : wb_HL hl n c sd sf) (hcg : wb_cg n c s sd sf K hl mo th be bh) (hno : ∀ m t, 1 ≤ m → m < n → 0 ≤ t → t < 3 → ∀ y, 0 ≤ y → y < 15625 → ∀ j, 0 ≤ j → j < 25 → ¬ wb_cP n c s sd sf K t m y j) : mo < 0 := by
  rcases hcg with ⟨a, _⟩ | ⟨a1, a2, a3, a4, a5, a6, a7, a8⟩
  · omega
  · rcases wb_nxt_cs (wb_HF n c s sd sf hl th mo K be) 25 with ⟨b1, b2, b3, b4⟩ | ⟨b1, b2⟩
    · exact absurd ((wb_ch_eq (K := K) hR hHL a3 a2 ⟨b1, by omega⟩ a1).mp ⟨a4, b3⟩) (hno mo th a1.1 a1.2 a2.1 a2.2 be a3.1 a3.2 _ b1 (by omega))
    · omega
theorem sp_X12_changed {h hl mo th be bh r : Int} (hra : wb_Ra w c s sg rs im ik) (hrr : wb_RR w n c s sd sf cnt ru (wb_KK rs ru)) (hR : wb_BR n c s sd sf) (hru : wb_RuO rs ru) (hh : -2147483648 ≤ h ∧ h ≤ 2147483647) (hD : (¬ (0 ≤ h ∧ h ≤ 3) ∧ r = -2) ∨ ((0 ≤ h ∧ h ≤ 3) ∧ (∃ x, (0 ≤ x ∧ x < 15625) ∧ (wb_ft n c s sd sf (wb_KK rs ru) 0 0) x = true) ∧ r = -3) ∨ ((0 ≤ h ∧ h ≤ 3) ∧ (∀ x, 0 ≤ x → x < 15625 → (wb_ft n c s sd sf (wb_KK rs ru) 0 0) x = false) ∧ wb_HL hl n c sd sf ∧ wb_cg n c s sd sf (wb_KK rs ru) hl mo th be bh ∧ r = if mo < 0 then -5 else if h = 0 then mo else if h = 1 then th else if h = 2 then be else bh)) (hQ : ∀ (w' : wb_W), wb_Ra w' c s sg rs im ik → wb_RR w' n c s sd sf cnt ru (wb_KK rs ru) → (∀ k, (k < 96 ∨ 108 ≤ k) → w' k = w k) → Q (some (.int (wb_i r))) N w') : wb_M G M_X12_changed [.ref 96, .int (wb_i h)] N w Q := by
  unfold wb_M
  obtain ⟨ld0, tt0, tr0, L0, H0, fi0, ch0, hrf, -⟩ := hrr.op
  unfold wb_Rf at hrf
  have hn := hR.1
  have d1 : ¬ (0 ≤ h ∧ h ≤ 3) → r = -2 := fun q => by
    rcases hD with h | h | h
    · exact h.2
    · exact absurd h.1 q
    · exact absurd h.1 q
  have d2 : (0 ≤ h ∧ h ≤ 3) → wb_ct (wb_ft n c s sd sf (wb_KK rs ru) 0 0) 15625 ≠ 0 → r = -3 := fun p q => by
    rcases hD with h | h | ⟨h1, h2, h3⟩
    · exact absurd p h.1
    · exact h.2.2
    · exact absurd (wb_ct_none 15625 (fun i i1 i2 => h2 i i1 (by omega))) q
  have d3 : (0 ≤ h ∧ h ≤ 3) → wb_ct (wb_ft n c s sd sf (wb_KK rs ru) 0 0) 15625 = 0 → wb_HL hl n c sd sf ∧ wb_cg n c s sd sf (wb_KK rs ru) hl mo th be bh ∧ r = if mo < 0 then -5 else if h = 0 then mo else if h = 1 then th else if h = 2 then be else bh := fun p q => by
    rcases hD with h | ⟨h1, ⟨x, x1, x2⟩, h3⟩ | h
    · exact absurd p h.1
    · rw [wb_ct_z q x x1.1 (by omega)] at x2; cases x2
    · exact h.2.2
  clear hD
  have tl : (0 ≤ h ∧ h ≤ 3) → wb_V G M_X12_changed 12 [(0, .ref 96), (1, .int (wb_i h))] [] N w 0 0 Q := by
    intro gh
    refine vi_aload_n 7 rfl rfl ?_
    refine vi_V0 8 ok_X12_lay rfl c_X12_160 hrf rfl rfl ?_
    refine sp_X12_lay hra hrr hR hru (fun w1 hra1 hrl1 ef1 => ?_)
    have hcr := wb_ct_rg (wb_ft n c s sd sf (wb_KK rs ru) 0 0) 15625
    have fin1 : Q (some (.int (wb_i r))) N w1 := hQ w1 hra1 (Or.inr hrl1) ef1
    obtain ⟨tt, tr, L, H, ch, ag, kp, ft, me, op, hrf1, h101, h102, h103, h104, h105, hag, hkp, hft, htt, htr⟩ := hrl1
    have fin : ∀ (w2 : wb_W) (L2 H2 ch2 : Int) (me2 : Int → Int), wb_Rf w2 n sd sf cnt ru 1 0 0 (-6) tt tr L2 H2 (wb_ct (wb_ft n c s sd sf (wb_KK rs ru) 0 0) 15625) ch2 → w2 104 = aB 46875 me2 → (∀ k, k ≠ 96 → k ≠ 104 → w2 k = w1 k) → Q (some (.int (wb_i r))) N w2 := fun w2 L2 H2 ch2 me2 hrf2 h1042 ef2 => hQ w2 (hra1.fr (fun k hk => ef2 k (by omega) (by omega))) (Or.inr ⟨tt, tr, L2, H2, ch2, ag, kp, ft, me2, op, hrf2, (ef2 _ (by omega) (by omega)).trans h101, (ef2 _ (by omega) (by omega)).trans h102, (ef2 _ (by omega) (by omega)).trans h103, h1042, (ef2 _ (by omega) (by omega)).trans h105, hag, hkp, hft, htt, htr⟩) (fun k hk => (ef2 k (by omega) (by omega)).trans (ef1 k hk))
    obtain ⟨fi, hfi⟩ : ∃ fi : Int, fi = wb_ct (wb_ft n c s sd sf (wb_KK rs ru) 0 0) 15625 := ⟨_, rfl⟩
    rw [← hfi] at hrf1 fin
    have h97 := hra1.1
    have h98 := hra1.2.1
    have lpM : wb_ct (wb_ft n c s sd sf (wb_KK rs ru) 0 0) 15625 = 0 → ∀ m, m ≤ 8 → ∀ (w2 : wb_W) (L2 H2 : Int) (me2 : Int → Int), 1 ≤ m → (∀ m' t', 1 ≤ m' → m' < m → 0 ≤ t' → t' < 3 → ∀ y, 0 ≤ y → y < 15625 → ∀ j, 0 ≤ j → j < 25 → ¬ wb_cP n c s sd sf (wb_KK rs ru) t' m' y j) → wb_Rf w2 n sd sf cnt ru 1 0 0 ((-6)) tt tr L2 H2 fi ch → w2 104 = aB 46875 me2 → (∀ k, k ≠ 96 → k ≠ 104 → w2 k = w1 k) → wb_V G M_X12_changed 24 [(0, .ref 96), (1, .int (wb_i h)), (2, .int (wb_i m))] [] N w2 0 0 Q := by
      intro gc
      obtain ⟨hHL, hcg, hrv⟩ := d3 gh gc
      refine wb_up 8 _ ?_
      intro m ih hm w2 L2 H2 me2 hm1 hno hrf2 h1042 ef2
      have lpT : m < n → ∀ t, t ≤ 3 → ∀ (w2 : wb_W) (L2 H2 : Int) (me2 : Int → Int), 0 ≤ t → (∀ m' t', 1 ≤ m' → 0 ≤ t' → t' < 3 → (m' < m ∨ (m' = m ∧ t' < t)) → ∀ y, 0 ≤ y → y < 15625 → ∀ j, 0 ≤ j → j < 25 → ¬ wb_cP n c s sd sf (wb_KK rs ru) t' m' y j) → wb_Rf w2 n sd sf cnt ru 1 0 0 ((-6)) tt tr L2 H2 fi ch → w2 104 = aB 46875 me2 → (∀ k, k ≠ 96 → k ≠ 104 → w2 k = w1 k) → wb_V G M_X12_changed 34 [(0, .ref 96), (1, .int (wb_i h)), (2, .int (wb_i m)), (3, .int (wb_i t))] [] N w2 0 0 Q := by
        intro hmn
        refine wb_up 3 _ ?_
        intro t jh ht w2 L2 H2 me2 ht0 hno hrf2 h1042 ef2
        have hrf2' := hrf2
        unfold wb_Rf at hrf2'
        have kfo : t < 3 → ∀ (w3 : wb_W) (L3 H3 x k : Int) (me3 : Int → Int), (0 ≤ x ∧ x < 15625) → (mo = m ∧ th = t ∧ be = x ∧ bh = wb_wp x t k) → wb_Rf w3 n sd sf cnt ru 1 0 0 ((-6)) tt tr L3 H3 fi (wb_wp x t k) → w3 104 = aB 46875 me3 → (∀ k, k ≠ 96 → k ≠ 104 → w3 k = w1 k) → wb_V G M_X12_changed 45 [(0, .ref 96), (1, .int (wb_i h)), (2, .int (wb_i m)), (3, .int (wb_i t))] [.int (wb_i x)] N w3 0 0 Q := by
          intro ht3 w3 L3 H3 x k me3 hx heq hrf3 h1043 ef3
          have hrf3' := hrf3
          unfold wb_Rf at hrf3'
          have hf := fin w3 L3 H3 _ me3 hrf3 h1043 ef3
          rw [if_neg (by omega)] at hrv
          refine vi_istore 27 rfl rfl ?_
          refine vi_iload 28 rfl rfl ?_
          refine vi_if_lt 29 rfl (by omega) (fun c_49 => by exfalso; omega) (fun c_49 => ?_)
          refine vi_iload_n 30 rfl rfl ?_
          refine vi_if_ne 31 rfl (by omega) (fun c_53 => ?_) (fun c_53 => ?_)
          · refine vi_iload_n 34 rfl rfl ?_
            refine vi_iconst 35 rfl ?_
            refine vi_icmp_ne 36 rfl (by omega) (by omega) (fun c_62 => ?_) (fun c_62 => ?_)
            · refine vi_iload_n 39 rfl rfl ?_
              refine vi_iconst 40 rfl ?_
              refine vi_icmp_ne 41 rfl (by omega) (by omega) (fun c_71 => ?_) (fun c_71 => ?_)
              · refine vi_aload_n 44 rfl rfl ?_
                refine vi_get 45 rfl f_X12_176 hrf3' rfl rfl ?_
                exact vi_ireturn 46 rfl rfl rfl (Nat.zero_le _) (Nat.zero_le _) (by first | (exfalso; omega) | (rw [if_pos (by omega)] at hrv; exact wb_e (by omega) hf) | (rw [if_neg (by omega), if_pos (by omega)] at hrv; exact wb_e (by omega) hf) | (rw [if_neg (by omega), if_neg (by omega), if_pos (by omega)] at hrv; exact wb_e (by omega) hf) | (rw [if_neg (by omega), if_neg (by omega), if_neg (by omega)] at hrv; exact wb_e (by omega) hf))
              · refine vi_iload 42 rfl rfl ?_
                refine vi_goto 43 rfl ?_
                exact vi_ireturn 46 rfl rfl rfl (Nat.zero_le _) (Nat.zero_le _) (by first | (exfalso; omega) | (rw [if_pos (by omega)] at hrv; exact wb_e (by omega) hf) | (rw [if_neg (by omega), if_pos (by omega)] at hrv; exact wb_e (by omega) hf) | (rw [if_neg (by omega), if_neg (by omega), if_pos (by omega)] at hrv; exact wb_e (by omega) hf) | (rw [if_neg (by omega), if_neg (by omega), if_neg (by omega)] at hrv; exact wb_e (by omega) hf))
            · refine vi_iload_n 37 rfl rfl ?_
              refine vi_goto 38 rfl ?_
              exact vi_ireturn 46 rfl rfl rfl (Nat.zero_le _) (Nat.zero_le _) (by first | (exfalso; omega) | (rw [if_pos (by omega)] at hrv; exact wb_e (by omega) hf) | (rw [if_neg (by omega), if_pos (by omega)] at hrv; exact wb_e (by omega) hf) | (rw [if_neg (by omega), if_neg (by omega), if_pos (by omega)] at hrv; exact wb_e (by omega) hf) | (rw [if_neg (by omega), if_neg (by omega), if_neg (by omega)] at hrv; exact wb_e (by omega) hf))
          · refine vi_iload_n 32 rfl rfl ?_
            refine vi_goto 33 rfl ?_
            exact vi_ireturn 46 rfl rfl rfl (Nat.zero_le _) (Nat.zero_le _) (by first | (exfalso; omega) | (rw [if_pos (by omega)] at hrv; exact wb_e (by omega) hf) | (rw [if_neg (by omega), if_pos (by omega)] at hrv; exact wb_e (by omega) hf) | (rw [if_neg (by omega), if_neg (by omega), if_pos (by omega)] at hrv; exact wb_e (by omega) hf) | (rw [if_neg (by omega), if_neg (by omega), if_neg (by omega)] at hrv; exact wb_e (by omega) hf))
        refine vi_iload_n 20 rfl rfl ?_
        refine vi_iconst 21 rfl ?_
        refine vi_icmp_ge 22 rfl (by omega) (by omega) (fun c_36 => ?_) (fun c_36 => ?_)
        · refine vi_iinc 49 rfl rfl rfl ?_
          refine vi_goto 50 rfl ?_
          exact vi_lc (ih (m + 1) (by omega) (by omega) w2 L2 H2 me2 (by omega) (fun m' t' q1 q2 q3 q4 => hno m' t' q1 q3 q4 (by omega)) hrf2 h1042 ef2) ⟨rfl, rfl, rfl, trivial⟩
        · refine vi_aload_n 23 rfl rfl ?_
          refine vi_iload_n 24 rfl rfl ?_
          refine vi_iload_n 25 rfl rfl ?_
          refine vi_V2 26 ok_X12_changedFrom rfl c_X12_179 hrf2' rfl rfl ?_
          refine sp_X12_changedFrom hrf2 ((ef2 97 (by omega) (by omega)).trans h97) ((ef2 98 (by omega) (by omega)).trans h98) ((ef2 102 (by omega) (by omega)).trans h102) hkp h1042 hR htt htr (by omega) (by omega) (fun w3 L3 H3 x k me3 hx hk hP hy hj hrf3 h1043 hf3 => vi_lc (kfo (by omega) w3 L3 H3 x k me3 hx (wb_cg_at hR hHL hcg (by omega) (by omega) hx hk hP hno hy hj) hrf3 h1043 (fun k q1 q2 => (hf3 k q1 q2).trans (ef2 k q1 q2))) ⟨rfl, rfl, rfl, rfl, trivial⟩) (fun w3 L3 H3 me3 hnP hrf3 h1043 hf3 => ?_)
          refine vi_istore 27 rfl rfl ?_
          refine vi_iload 28 rfl rfl ?_
          refine vi_if_lt 29 rfl (by omega) (fun c_49 => ?_) (fun c_49 => by exfalso; omega)
          refine vi_iinc 47 rfl rfl rfl ?_
          refine vi_goto 48 rfl ?_
          exact vi_lc (jh (t + 1) (by omega) (by omega) w3 L3 H3 me3 (by omega) (fun m' t' q1 q2 q3 q4 => by (by_cases e : m' = m ∧ t' = t; (rw [e.1, e.2]; exact hnP); exact hno m' t' q1 q2 q3 (by omega))) hrf3 h1043 (fun k q1 q2 => (hf3 k q1 q2).trans (ef2 k q1 q2))) ⟨rfl, rfl, rfl, rfl, trivial⟩
      have hrf2' := hrf2
      unfold wb_Rf at hrf2'
      refine vi_iload_n 14 rfl rfl ?_
      refine vi_aload_n 15 rfl rfl ?_
      refine vi_get 16 rfl f_X12_60 hrf2' rfl rfl ?_
      refine vi_icmp_ge 17 rfl (by omega) (by omega) (fun c_29 => ?_) (fun c_29 => ?_)
      · refine vi_bipush 51 rfl (by decide) ?_
        exact vi_ireturn 52 rfl rfl rfl (Nat.zero_le _) (Nat.zero_le _) (wb_e (by rw [hrv, if_pos (wb_cg_no hR hHL hcg (fun m' t' q1 q2 q3 q4 => hno m' t' q1 (by omega) q3 q4))]) (fin w2 L2 H2 ch me2 hrf2 h1042 ef2))
      · refine vi_iconst 18 rfl ?_
        refine vi_istore_n 19 rfl rfl ?_
        exact vi_lc (lpT (by omega) 0 (by omega) w2 L2 H2 me2 (by omega) (fun m' t' q1 q2 q3 q4 => hno m' t' q1 (by omega) q2 q3) hrf2 h1042 ef2) ⟨rfl, rfl, rfl, rfl, trivial⟩
    refine vi_if_le 9 rfl (by omega) (fun c_16 => ?_) (fun c_16 => ?_)
    · refine vi_iconst 12 rfl ?_
      refine vi_istore_n 13 rfl rfl ?_
      exact vi_lc (lpM (by omega) 1 (by omega) w1 L H me (by omega) (fun m' t' q1 q2 => by omega) hrf1 h104 (fun _ _ _ => rfl)) ⟨rfl, rfl, rfl, trivial⟩
    · refine vi_bipush 10 rfl (by decide) ?_
      exact vi_ireturn 11 rfl rfl rfl (Nat.zero_le _) (Nat.zero_le _) (wb_e (d2 gh (by omega)).symm fin1)
  have hf0 : Q (some (.int (wb_i r))) N w := hQ w hra hrr (fun _ _ => rfl)
  refine vi_iload_n 0 rfl rfl ?_
  refine vi_iconst 1 rfl ?_
  refine vi_iconst 2 rfl ?_
  refine vi_S3 3 ok_X12_in rfl c_X12_56 rfl ?_
  refine sp_X12_in (by omega) (by omega) (by omega) (fun b_3 => ?_) (fun b_3 => ?_)
  · refine vi_if_ne 4 rfl (by omega) (fun _ => ?_) (fun c => absurd c (by decide))
    exact vi_lc (tl (by omega)) ⟨rfl, rfl, trivial⟩
  · refine vi_if_ne 4 rfl (by omega) (fun c => absurd c (by decide)) (fun _ => ?_)
    refine vi_bipush 5 rfl (by decide) ?_
    exact vi_ireturn 6 rfl rfl rfl (Nat.zero_le _) (Nat.zero_le _) (wb_e (d1 (by omega)).symm hf0)
end WBS65
