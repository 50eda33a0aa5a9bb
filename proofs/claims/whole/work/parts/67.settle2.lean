/-! ===== the reference: settle, hide ===== -/
theorem wb_sg_eq {n : Int} {c s : Int → Int} {sd sf hl r r' : Int} {K : Int → Bool} (h : wb_sg n c s sd sf K hl r) (h' : wb_sg n c s sd sf K hl r') : r = r' := by
  have a := h.2 r' h'.1.1 h'.1.2
  have b := h'.2 r h.1.1 h.1.2
  have x := a.2 (by omega)
  have y := b.2 (by omega)
  omega
/-- the reference's number of a place to hide -/
def wb_hk (a : Int) : Int := 30 * (a / 27) + 10 * (a / 9 % 3) + (a % 9 + 1)
theorem wb_hk_le {a b : Int} (ha : 0 ≤ a) (hb : 0 ≤ b) : wb_hk a < wb_hk b ↔ a < b := by unfold wb_hk; omega
theorem wb_hk_of {m t k : Int} (hm : 0 ≤ m) (ht : 0 ≤ t ∧ t < 3) (hk : 1 ≤ k ∧ k < 10) : wb_hk (9 * (3 * m + t) + (k - 1)) = 30 * m + 10 * t + k := by unfold wb_hk; omega
theorem wb_hd_eq {n : Int} {c s : Int → Int} {sd sf hl pu e r r' : Int} {K : Int → Bool} (h : wb_hd n c s sd sf K hl pu e r) (h' : wb_hd n c s sd sf K hl pu e r') : r = r' := by
  rcases h with ⟨a, b⟩ | ⟨a, b, d⟩
  · rcases h' with ⟨a', b'⟩ | ⟨a', b', d'⟩
    · omega
    · have := b r' a'.1 a'.2; omega
  · rcases h' with ⟨a', b'⟩ | ⟨a', b', d'⟩
    · have := b' r a.1 a.2; omega
    · have x := d r' a'.1 a'.2 b'
      have y := d' r a.1 a.2 b
      omega
section WBS67
variable {G : wb_G} {N : Nat} {w : wb_W} {Q : Option Value → Nat → wb_W → Prop}
variable {n sd sf cnt ru ld mo db tm tt tr L H fi ch : Int} {c s sg rs im ik ag kp op : Int → Int} {K : Int → Bool}
theorem sp_X12_settle {h hl p r : Int} (hra : wb_Ra w c s sg rs im ik) (hrr : wb_RR w n c s sd sf cnt ru (wb_KK rs ru)) (hR : wb_BR n c s sd sf) (hru : wb_RuO rs ru) (hh : -2147483648 ≤ h ∧ h ≤ 2147483647) (hD : (¬ (0 ≤ h ∧ h ≤ 2) ∧ r = -2) ∨ ((0 ≤ h ∧ h ≤ 2) ∧ n = 0 ∧ r = -3) ∨ ((0 ≤ h ∧ h ≤ 2) ∧ 1 ≤ n ∧ (∀ x, 0 ≤ x → x < 15625 → (wb_ft n c s sd sf (wb_KK rs ru) 0 0) x = false) ∧ r = -5) ∨ ((0 ≤ h ∧ h ≤ 2) ∧ 1 ≤ n ∧ (∃ x, (0 ≤ x ∧ x < 15625) ∧ (wb_ft n c s sd sf (wb_KK rs ru) 0 0) x = true) ∧ wb_HL hl n c sd sf ∧ wb_sg n c s sd sf (wb_KK rs ru) hl p ∧ r = if h = 2 then wb_MP n c s sd sf (wb_KK rs ru) hl p else if h = 0 then p / 3 else p % 3)) (hQ : ∀ (w' : wb_W), wb_Ra w' c s sg rs im ik → wb_RR w' n c s sd sf cnt ru (wb_KK rs ru) → (∀ k, (k < 96 ∨ 108 ≤ k) → w' k = w k) → Q (some (.int (wb_i r))) N w') : wb_M G M_X12_settle [.ref 96, .int (wb_i h)] N w Q := by
  unfold wb_M
  obtain ⟨ld0, tt0, tr0, L0, H0, fi0, ch0, hrf, -⟩ := hrr.op
  unfold wb_Rf at hrf
  have hn := hR.1
  have d1 : ¬ (0 ≤ h ∧ h ≤ 2) → r = -2 := fun q => by
    rcases hD with h | h | h | h
    · exact h.2
    · exact absurd h.1 q
    · exact absurd h.1 q
    · exact absurd h.1 q
  have d0 : (0 ≤ h ∧ h ≤ 2) → n = 0 → r = -3 := fun q z => by
    rcases hD with h | h | h | h
    · exact absurd q h.1
    · exact h.2.2
    · have := h.2.1; omega
    · have := h.2.1; omega
  have d2 : (0 ≤ h ∧ h ≤ 2) → 1 ≤ n → wb_ct (wb_ft n c s sd sf (wb_KK rs ru) 0 0) 15625 = 0 → r = -5 := fun q z y => by
    rcases hD with h | h | h | ⟨_, _, ⟨x, x1, x2⟩, _⟩
    · exact absurd q h.1
    · have := h.2.1; omega
    · exact h.2.2.2
    · rw [wb_ct_z y x x1.1 (by omega)] at x2; cases x2
  have d3 : (0 ≤ h ∧ h ≤ 2) → 1 ≤ n → wb_ct (wb_ft n c s sd sf (wb_KK rs ru) 0 0) 15625 ≠ 0 → wb_HL hl n c sd sf ∧ wb_sg n c s sd sf (wb_KK rs ru) hl p ∧ r = if h = 2 then wb_MP n c s sd sf (wb_KK rs ru) hl p else if h = 0 then p / 3 else p % 3 := fun q z y => by
    rcases hD with h | h | h | h
    · exact absurd q h.1
    · have := h.2.1; omega
    · exact absurd (wb_ct_none 15625 (fun i i1 i2 => h.2.2.1 i i1 (by omega))) y
    · exact h.2.2.2
  clear hD
  have tl : (0 ≤ h ∧ h ≤ 2) → 1 ≤ n → wb_V G M_X12_settle 22 [(0, .ref 96), (1, .int (wb_i h))] [] N w 0 0 Q := by
    intro gh gn
    refine vi_aload_n 12 rfl rfl ?_
    refine vi_V0 13 ok_X12_lay rfl c_X12_160 hrf rfl rfl ?_
    refine sp_X12_lay hra hrr hR hru (fun w1 hra1 hrl1 ef1 => ?_)
    have hcr := wb_ct_rg (wb_ft n c s sd sf (wb_KK rs ru) 0 0) 15625
    have fin1 : Q (some (.int (wb_i r))) N w1 := hQ w1 hra1 (Or.inr hrl1) ef1
    obtain ⟨tt, tr, L, H, ch, ag, kp, ft, me, op, hrf1, h101, h102, h103, h104, h105, hag, hkp, hft, htt, htr⟩ := hrl1
    have fin : ∀ (w2 : wb_W) (tt2 tr2 L2 H2 : Int) (op2 : Int → Int), wb_Rf w2 n sd sf cnt ru 1 0 0 (-6) tt2 tr2 L2 H2 (wb_ct (wb_ft n c s sd sf (wb_KK rs ru) 0 0) 15625) ch → (-10 ≤ tt2 ∧ tt2 ≤ 10) → (-9 ≤ tr2 ∧ tr2 ≤ 1000) → w2 105 = aI 625 op2 → (∀ k, k ≠ 96 → k ≠ 105 → w2 k = w1 k) → Q (some (.int (wb_i r))) N w2 := fun w2 tt2 tr2 L2 H2 op2 hrf2 q1 q2 h1052 ef2 => hQ w2 (hra1.fr (fun k hk => ef2 k (by omega) (by omega))) (Or.inr ⟨tt2, tr2, L2, H2, ch, ag, kp, ft, me, op2, hrf2, (ef2 _ (by omega) (by omega)).trans h101, (ef2 _ (by omega) (by omega)).trans h102, (ef2 _ (by omega) (by omega)).trans h103, (ef2 _ (by omega) (by omega)).trans h104, h1052, hag, hkp, hft, q1, q2⟩) (fun k hk => (ef2 k (by omega) (by omega)).trans (ef1 k hk))
    obtain ⟨fi, hfi⟩ : ∃ fi : Int, fi = wb_ct (wb_ft n c s sd sf (wb_KK rs ru) 0 0) 15625 := ⟨_, rfl⟩
    rw [← hfi] at hrf1 fin
    have h97 := hra1.1
    have h98 := hra1.2.1
    have lpT : wb_ct (wb_ft n c s sd sf (wb_KK rs ru) 0 0) 15625 ≠ 0 → ∀ t, t ≤ 3 → ∀ (w2 : wb_W) (tt2 tr2 L2 H2 b fw : Int) (op2 : Int → Int), 0 ≤ t → (-10 ≤ tt2 ∧ tt2 ≤ 10) → (-9 ≤ tr2 ∧ tr2 ≤ 1000) → ((b = -6 ∧ t = 0) ∨ ((0 ≤ b ∧ b < 3 * n) ∧ fw = wb_MP n c s sd sf (wb_KK rs ru) hl b ∧ ∀ j, 0 ≤ j → j < 3 * n → j % 3 < t → wb_MP n c s sd sf (wb_KK rs ru) hl b ≤ wb_MP n c s sd sf (wb_KK rs ru) hl j ∧ (wb_MP n c s sd sf (wb_KK rs ru) hl j = wb_MP n c s sd sf (wb_KK rs ru) hl b → b ≤ j))) → (0 ≤ fw ∧ fw ≤ 9765625) → wb_Rf w2 n sd sf cnt ru 1 0 0 ((-6)) tt2 tr2 L2 H2 fi ch → w2 105 = aI 625 op2 → (∀ k, k ≠ 96 → k ≠ 105 → w2 k = w1 k) → wb_V G M_X12_settle 40 [(0, .ref 96), (1, .int (wb_i h)), (2, .int (wb_i b)), (3, .int (wb_i fw)), (4, .int (wb_i t))] [] N w2 0 0 Q := by
      intro gc
      obtain ⟨hHL, hsg, hrv⟩ := d3 gh gn gc
      refine wb_up 3 _ ?_
      intro t ih ht w2 tt2 tr2 L2 H2 b fw op2 ht0 htt2 htr2 hb hfw hrf2 h1052 ef2
      have lpM : t < 3 → ∀ m, m ≤ n → ∀ (w2 : wb_W) (tt2 tr2 L2 H2 b fw : Int) (op2 : Int → Int), 0 ≤ m → (-10 ≤ tt2 ∧ tt2 ≤ 10) → (-9 ≤ tr2 ∧ tr2 ≤ 1000) → (∀ j, 0 ≤ j → j < 625 → op2 j = wb_ct (fun x => wb_OO n c s sd sf (wb_KK rs ru) t x && decide (wb_k2 sd sf t x = j)) 15625) → ((b = -6 ∧ t = 0 ∧ m = 0) ∨ ((0 ≤ b ∧ b < 3 * n) ∧ fw = wb_MP n c s sd sf (wb_KK rs ru) hl b ∧ ∀ j, 0 ≤ j → j < 3 * n → (j % 3 < t ∨ (j % 3 = t ∧ j / 3 < m)) → wb_MP n c s sd sf (wb_KK rs ru) hl b ≤ wb_MP n c s sd sf (wb_KK rs ru) hl j ∧ (wb_MP n c s sd sf (wb_KK rs ru) hl j = wb_MP n c s sd sf (wb_KK rs ru) hl b → b ≤ j))) → (0 ≤ fw ∧ fw ≤ 9765625) → wb_Rf w2 n sd sf cnt ru 1 0 0 ((-6)) tt2 tr2 L2 H2 fi ch → w2 105 = aI 625 op2 → (∀ k, k ≠ 96 → k ≠ 105 → w2 k = w1 k) → wb_V G M_X12_settle 55 [(0, .ref 96), (1, .int (wb_i h)), (2, .int (wb_i b)), (3, .int (wb_i fw)), (4, .int (wb_i t)), (5, .int (wb_i m))] [] N w2 0 0 Q := by
        intro ht3
        refine wb_up n _ ?_
        intro m jh hm w2 tt2 tr2 L2 H2 b fw op2 hm0 htt2 htr2 hop hb hfw hrf2 h1052 ef2
        have hrf2' := hrf2
        unfold wb_Rf at hrf2'
        have eMP : wb_MP n c s sd sf (wb_KK rs ru) hl (3 * m + t) = wb_MX n c s sd sf (wb_KK rs ru) hl m t := by
          unfold wb_MP; rw [show (3 * m + t) / 3 = m by omega, show (3 * m + t) % 3 = t by omega]
        have hMX := wb_MX_rg (n := n) (c := c) (s := s) (sd := sd) (sf := sf) (K := wb_KK rs ru) (hl := hl) (m := m) (t := t)
        rw [← eMP] at hMX
        have hbr : -6 ≤ b ∧ b ≤ 24 := by omega
        -- the new one is better, or not
        have nb : m < n → (b < 0 ∨ wb_MP n c s sd sf (wb_KK rs ru) hl (3 * m + t) < fw ∨ (wb_MP n c s sd sf (wb_KK rs ru) hl (3 * m + t) = fw ∧ 3 * m + t < b)) → ∀ j, 0 ≤ j → j < 3 * n → (j % 3 < t ∨ (j % 3 = t ∧ j / 3 < m + 1)) → wb_MP n c s sd sf (wb_KK rs ru) hl (3 * m + t) ≤ wb_MP n c s sd sf (wb_KK rs ru) hl j ∧ (wb_MP n c s sd sf (wb_KK rs ru) hl j = wb_MP n c s sd sf (wb_KK rs ru) hl (3 * m + t) → 3 * m + t ≤ j) := fun hmn hbt j j1 j2 j3 => by
          by_cases e : j = 3 * m + t
          · rw [e]; omega
          · rcases hb with ⟨b1, b2, b3⟩ | ⟨b1, b2, b3⟩
            · omega
            · have := b3 j j1 j2 (by omega); omega
        have ob : m < n → 0 ≤ b → ¬ (wb_MP n c s sd sf (wb_KK rs ru) hl (3 * m + t) < fw ∨ (wb_MP n c s sd sf (wb_KK rs ru) hl (3 * m + t) = fw ∧ 3 * m + t < b)) → ((0 ≤ b ∧ b < 3 * n) ∧ fw = wb_MP n c s sd sf (wb_KK rs ru) hl b ∧ ∀ j, 0 ≤ j → j < 3 * n → (j % 3 < t ∨ (j % 3 = t ∧ j / 3 < m + 1)) → wb_MP n c s sd sf (wb_KK rs ru) hl b ≤ wb_MP n c s sd sf (wb_KK rs ru) hl j ∧ (wb_MP n c s sd sf (wb_KK rs ru) hl j = wb_MP n c s sd sf (wb_KK rs ru) hl b → b ≤ j)) := fun hmn hb0 hbt => by
          rcases hb with ⟨b1, b2, b3⟩ | ⟨b1, b2, b3⟩
          · omega
          · refine ⟨b1, b2, fun j j1 j2 j3 => ?_⟩
            by_cases e : j = 3 * m + t
            · rw [e]; omega
            · exact b3 j j1 j2 (by omega)
        refine vi_iload 31 rfl rfl ?_
        refine vi_aload_n 32 rfl rfl ?_
        refine vi_get 33 rfl f_X12_60 hrf2' rfl rfl ?_
        refine vi_icmp_ge 34 rfl (by omega) (by omega) (fun c_61 => ?_) (fun c_61 => ?_)
        · refine vi_iinc 63 rfl rfl rfl ?_
          refine vi_goto 64 rfl ?_
          exact vi_lc (ih (t + 1) (by omega) (by omega) w2 tt2 tr2 L2 H2 b fw op2 (by omega) htt2 htr2 (by rcases hb with ⟨b1, b2, b3⟩ | ⟨b1, b2, b3⟩; (exfalso; omega); (exact Or.inr ⟨b1, b2, fun j j1 j2 j3 => b3 j j1 j2 (by omega)⟩)) hfw hrf2 h1052 ef2) ⟨rfl, rfl, rfl, rfl, rfl, trivial⟩
        · refine vi_aload_n 35 rfl rfl ?_
          refine vi_iload 36 rfl rfl ?_
          refine vi_iload 37 rfl rfl ?_
          refine vi_V2 38 ok_X12_mostBy rfl c_X12_189 hrf2' rfl rfl ?_
          refine sp_X12_mostBy (K := wb_KK rs ru) (hl := hl) hrf2 ((ef2 97 (by omega) (by omega)).trans h97) ((ef2 98 (by omega) (by omega)).trans h98) h1052 hop hR hHL htr2 (by omega) (by omega) (fun w3 L3 H3 tr3 htr3 hrf3 hf3 => ?_)
          rw [← eMP]
          have ef3 : ∀ k, k ≠ 96 → k ≠ 105 → w3 k = w1 k := fun k q1 q2 => (hf3 k q1).trans (ef2 k q1 q2)
          refine vi_istore 39 rfl rfl ?_
          refine vi_iconst 40 rfl ?_
          refine vi_iload 41 rfl rfl ?_
          refine vi_imul 42 rfl ?_
          refine vi_iload 43 rfl rfl ?_
          refine vi_iadd 44 rfl ?_
          refine vi_istore 45 rfl rfl ?_
          refine vi_iload_n 46 rfl rfl ?_
          refine vi_if_lt 47 rfl (by omega) (fun c_84 => ?_) (fun c_84 => ?_)
          · refine vi_iload 57 rfl rfl ?_
            refine vi_istore_n 58 rfl rfl ?_
            refine vi_iload 59 rfl rfl ?_
            refine vi_istore_n 60 rfl rfl ?_
            refine vi_iinc 61 rfl rfl rfl ?_
            refine vi_goto 62 rfl ?_
            first | exact vi_lc (jh (m + 1) (by omega) (by omega) w3 t tr3 L3 H3 _ _ op2 (by omega) (by omega) htr3 hop (Or.inr ⟨by omega, rfl, nb (by omega) (by omega)⟩) hMX hrf3 ((hf3 105 (by omega)).trans h1052) ef3) ⟨rfl, rfl, rfl, rfl, rfl, rfl, trivial⟩ | exact vi_lc (jh (m + 1) (by omega) (by omega) w3 t tr3 L3 H3 b fw op2 (by omega) (by omega) htr3 hop (Or.inr (ob (by omega) (by omega) (by omega))) hfw hrf3 ((hf3 105 (by omega)).trans h1052) ef3) ⟨rfl, rfl, rfl, rfl, rfl, rfl, trivial⟩
          · refine vi_iload 48 rfl rfl ?_
            refine vi_iload_n 49 rfl rfl ?_
            refine vi_icmp_lt 50 rfl (by omega) (by omega) (fun c_90 => ?_) (fun c_90 => ?_)
            · refine vi_iload 57 rfl rfl ?_
              refine vi_istore_n 58 rfl rfl ?_
              refine vi_iload 59 rfl rfl ?_
              refine vi_istore_n 60 rfl rfl ?_
              refine vi_iinc 61 rfl rfl rfl ?_
              refine vi_goto 62 rfl ?_
              first | exact vi_lc (jh (m + 1) (by omega) (by omega) w3 t tr3 L3 H3 _ _ op2 (by omega) (by omega) htr3 hop (Or.inr ⟨by omega, rfl, nb (by omega) (by omega)⟩) hMX hrf3 ((hf3 105 (by omega)).trans h1052) ef3) ⟨rfl, rfl, rfl, rfl, rfl, rfl, trivial⟩ | exact vi_lc (jh (m + 1) (by omega) (by omega) w3 t tr3 L3 H3 b fw op2 (by omega) (by omega) htr3 hop (Or.inr (ob (by omega) (by omega) (by omega))) hfw hrf3 ((hf3 105 (by omega)).trans h1052) ef3) ⟨rfl, rfl, rfl, rfl, rfl, rfl, trivial⟩
            · refine vi_iload 51 rfl rfl ?_
              refine vi_iload_n 52 rfl rfl ?_
              refine vi_icmp_ne 53 rfl (by omega) (by omega) (fun c_96 => ?_) (fun c_96 => ?_)
              · refine vi_iinc 61 rfl rfl rfl ?_
                refine vi_goto 62 rfl ?_
                first | exact vi_lc (jh (m + 1) (by omega) (by omega) w3 t tr3 L3 H3 _ _ op2 (by omega) (by omega) htr3 hop (Or.inr ⟨by omega, rfl, nb (by omega) (by omega)⟩) hMX hrf3 ((hf3 105 (by omega)).trans h1052) ef3) ⟨rfl, rfl, rfl, rfl, rfl, rfl, trivial⟩ | exact vi_lc (jh (m + 1) (by omega) (by omega) w3 t tr3 L3 H3 b fw op2 (by omega) (by omega) htr3 hop (Or.inr (ob (by omega) (by omega) (by omega))) hfw hrf3 ((hf3 105 (by omega)).trans h1052) ef3) ⟨rfl, rfl, rfl, rfl, rfl, rfl, trivial⟩
              · refine vi_iload 54 rfl rfl ?_
                refine vi_iload_n 55 rfl rfl ?_
                refine vi_icmp_ge 56 rfl (by omega) (by omega) (fun c_102 => ?_) (fun c_102 => ?_)
                · refine vi_iinc 61 rfl rfl rfl ?_
                  refine vi_goto 62 rfl ?_
                  first | exact vi_lc (jh (m + 1) (by omega) (by omega) w3 t tr3 L3 H3 _ _ op2 (by omega) (by omega) htr3 hop (Or.inr ⟨by omega, rfl, nb (by omega) (by omega)⟩) hMX hrf3 ((hf3 105 (by omega)).trans h1052) ef3) ⟨rfl, rfl, rfl, rfl, rfl, rfl, trivial⟩ | exact vi_lc (jh (m + 1) (by omega) (by omega) w3 t tr3 L3 H3 b fw op2 (by omega) (by omega) htr3 hop (Or.inr (ob (by omega) (by omega) (by omega))) hfw hrf3 ((hf3 105 (by omega)).trans h1052) ef3) ⟨rfl, rfl, rfl, rfl, rfl, rfl, trivial⟩
                · refine vi_iload 57 rfl rfl ?_
                  refine vi_istore_n 58 rfl rfl ?_
                  refine vi_iload 59 rfl rfl ?_
                  refine vi_istore_n 60 rfl rfl ?_
                  refine vi_iinc 61 rfl rfl rfl ?_
                  refine vi_goto 62 rfl ?_
                  first | exact vi_lc (jh (m + 1) (by omega) (by omega) w3 t tr3 L3 H3 _ _ op2 (by omega) (by omega) htr3 hop (Or.inr ⟨by omega, rfl, nb (by omega) (by omega)⟩) hMX hrf3 ((hf3 105 (by omega)).trans h1052) ef3) ⟨rfl, rfl, rfl, rfl, rfl, rfl, trivial⟩ | exact vi_lc (jh (m + 1) (by omega) (by omega) w3 t tr3 L3 H3 b fw op2 (by omega) (by omega) htr3 hop (Or.inr (ob (by omega) (by omega) (by omega))) hfw hrf3 ((hf3 105 (by omega)).trans h1052) ef3) ⟨rfl, rfl, rfl, rfl, rfl, rfl, trivial⟩
      have hrf2' := hrf2
      unfold wb_Rf at hrf2'
      have hend : t = 3 → b = p ∧ fw = wb_MP n c s sd sf (wb_KK rs ru) hl p ∧ (0 ≤ b ∧ b < 3 * n) := fun q => by
        rcases hb with ⟨b1, b2⟩ | ⟨b1, b2, b3⟩
        · omega
        · have : b = p := wb_sg_eq ⟨b1, fun j j1 j2 => b3 j j1 j2 (by omega)⟩ hsg
          exact ⟨this, by rw [← this]; exact b2, b1⟩
      refine vi_iload 23 rfl rfl ?_
      refine vi_iconst 24 rfl ?_
      refine vi_icmp_ge 25 rfl (by omega) (by omega) (fun c_43 => ?_) (fun c_43 => ?_)
      · obtain ⟨z1, z2, z3⟩ := hend (by omega)
        have hf := fin w2 tt2 tr2 L2 H2 op2 hrf2 htt2 htr2 h1052 ef2
        refine vi_iload_n 65 rfl rfl ?_
        refine vi_if_ne 66 rfl (by omega) (fun c_124 => ?_) (fun c_124 => ?_)
        · refine vi_iload_n 71 rfl rfl ?_
          refine vi_iconst 72 rfl ?_
          refine vi_icmp_ne 73 rfl (by omega) (by omega) (fun c_135 => ?_) (fun c_135 => ?_)
          · refine vi_iload_n 78 rfl rfl ?_
            exact vi_ireturn 79 rfl rfl rfl (Nat.zero_le _) (Nat.zero_le _) (by first | (rw [if_neg (by omega), if_pos (by omega)] at hrv; exact wb_e (by rw [hrv, z1]) hf) | (rw [if_neg (by omega), if_neg (by omega)] at hrv; exact wb_e (by rw [hrv, z1]) hf) | (rw [if_pos (by omega)] at hrv; exact wb_e (by rw [hrv, z2]) hf))
          · refine vi_iload_n 74 rfl rfl ?_
            refine vi_iconst 75 rfl ?_
            refine vi_irem 76 rfl (by omega) (by omega) ?_
            refine vi_goto 77 rfl ?_
            exact vi_ireturn 79 rfl rfl rfl (Nat.zero_le _) (Nat.zero_le _) (by first | (rw [if_neg (by omega), if_pos (by omega)] at hrv; exact wb_e (by rw [hrv, z1]) hf) | (rw [if_neg (by omega), if_neg (by omega)] at hrv; exact wb_e (by rw [hrv, z1]) hf) | (rw [if_pos (by omega)] at hrv; exact wb_e (by rw [hrv, z2]) hf))
        · refine vi_iload_n 67 rfl rfl ?_
          refine vi_iconst 68 rfl ?_
          refine vi_idiv 69 rfl (by omega) (by omega) ?_
          refine vi_goto 70 rfl ?_
          exact vi_ireturn 79 rfl rfl rfl (Nat.zero_le _) (Nat.zero_le _) (by first | (rw [if_neg (by omega), if_pos (by omega)] at hrv; exact wb_e (by rw [hrv, z1]) hf) | (rw [if_neg (by omega), if_neg (by omega)] at hrv; exact wb_e (by rw [hrv, z1]) hf) | (rw [if_pos (by omega)] at hrv; exact wb_e (by rw [hrv, z2]) hf))
      · refine vi_aload_n 26 rfl rfl ?_
        refine vi_iload 27 rfl rfl ?_
        refine vi_V1 28 ok_X12_layOpen rfl c_X12_186 hrf2' rfl rfl ?_
        refine sp_X12_layOpen (K := wb_KK rs ru) hrf2 ((ef2 101 (by omega) (by omega)).trans h101) hag ((ef2 102 (by omega) (by omega)).trans h102) hkp h1052 hR (by omega) (fun w3 op3 hop3 h1053 hf3 => ?_)
        refine vi_iconst 29 rfl ?_
        refine vi_istore 30 rfl rfl ?_
        exact vi_lc (lpM (by omega) 0 (by omega) w3 tt2 tr2 L2 H2 b fw op3 (by omega) htt2 htr2 hop3 (by rcases hb with ⟨b1, b2⟩ | ⟨b1, b2, b3⟩; (exact Or.inl ⟨b1, b2, rfl⟩); (exact Or.inr ⟨b1, b2, fun j j1 j2 j3 => b3 j j1 j2 (by omega)⟩)) hfw ((hf3 96 (by omega)).trans hrf2) h1053 (fun k q1 q2 => (hf3 k q2).trans (ef2 k q1 q2))) ⟨rfl, rfl, rfl, rfl, rfl, rfl, trivial⟩
    refine vi_if_ne 14 rfl (by omega) (fun c_26 => ?_) (fun c_26 => ?_)
    · refine vi_bipush 17 rfl (by decide) ?_
      refine vi_istore_n 18 rfl rfl ?_
      refine vi_iconst 19 rfl ?_
      refine vi_istore_n 20 rfl rfl ?_
      refine vi_iconst 21 rfl ?_
      refine vi_istore 22 rfl rfl ?_
      exact vi_lc (lpT (by omega) 0 (by omega) w1 tt tr L H (-6) 0 op (by omega) htt htr (Or.inl ⟨rfl, rfl⟩) (by omega) hrf1 h105 (fun _ _ _ => rfl)) ⟨rfl, rfl, rfl, rfl, rfl, trivial⟩
    · refine vi_bipush 15 rfl (by decide) ?_
      exact vi_ireturn 16 rfl rfl rfl (Nat.zero_le _) (Nat.zero_le _) (wb_e (d2 gh gn (by omega)).symm fin1)
  have hf0 : Q (some (.int (wb_i r))) N w := hQ w hra hrr (fun _ _ => rfl)
  refine vi_iload_n 0 rfl rfl ?_
  refine vi_iconst 1 rfl ?_
  refine vi_iconst 2 rfl ?_
  refine vi_S3 3 ok_X12_in rfl c_X12_56 rfl ?_
  refine sp_X12_in (by omega) (by omega) (by omega) (fun b_3 => ?_) (fun b_3 => ?_)
  · refine vi_if_ne 4 rfl (by omega) (fun _ => ?_) (fun c => absurd c (by decide))
    refine vi_aload_n 7 rfl rfl ?_
    refine vi_get 8 rfl f_X12_60 hrf rfl rfl ?_
    refine vi_if_ne 9 rfl (by omega) (fun c_16 => ?_) (fun c_16 => ?_)
    · exact vi_lc (tl (by omega) (by omega)) ⟨rfl, rfl, trivial⟩
    · refine vi_bipush 10 rfl (by decide) ?_
      exact vi_ireturn 11 rfl rfl rfl (Nat.zero_le _) (Nat.zero_le _) (wb_e (d0 (by omega) (by omega)).symm hf0)
  · refine vi_if_ne 4 rfl (by omega) (fun c => absurd c (by decide)) (fun _ => ?_)
    refine vi_bipush 5 rfl (by decide) ?_
    exact vi_ireturn 6 rfl rfl rfl (Nat.zero_le _) (Nat.zero_le _) (wb_e (d1 (by omega)).symm hf0)
theorem wb_pd_of {m t k : Int} (hm : 0 ≤ m) (ht : 0 ≤ t ∧ t < 3) (hk : 1 ≤ k ∧ k < 10) : wb_pd c (9 * (3 * m + t) + (k - 1)) = k * c (9 * m + 6 + t) := by
  unfold wb_pd
  rw [show (9 * (3 * m + t) + (k - 1)) / 9 / 3 = m by omega, show (9 * (3 * m + t) + (k - 1)) / 9 % 3 = t by omega, show (9 * (3 * m + t) + (k - 1)) % 9 + 1 = k by omega, show 9 * m + (6 + t) = 9 * m + 6 + t by omega]
  exact Int.mul_comm _ _
theorem wb_HP_of {m t k hl : Int} (hm : 0 ≤ m) (ht : 0 ≤ t ∧ t < 3) (hk : 1 ≤ k ∧ k < 10) : wb_HP n c s sd sf K hl (9 * (3 * m + t) + (k - 1)) = wb_HD n c s sd sf K hl m t (k - 1) := by
  unfold wb_HP
  rw [show (9 * (3 * m + t) + (k - 1)) / 9 / 3 = m by omega, show (9 * (3 * m + t) + (k - 1)) / 9 % 3 = t by omega, show (9 * (3 * m + t) + (k - 1)) % 9 = k - 1 by omega]
theorem sp_X12_hide {pu h hl p r : Int} (hra : wb_Ra w c s sg rs im ik) (hrr : wb_RR w n c s sd sf cnt ru (wb_KK rs ru)) (hR : wb_BR n c s sd sf) (hru : wb_RuO rs ru) (hpu : -2147483648 ≤ pu ∧ pu ≤ 2147483647) (hh : -2147483648 ≤ h ∧ h ≤ 2147483647) (hD : (¬ ((0 ≤ pu ∧ pu ≤ 999) ∧ (0 ≤ h ∧ h ≤ 3)) ∧ r = -2) ∨ (((0 ≤ pu ∧ pu ≤ 999) ∧ (0 ≤ h ∧ h ≤ 3)) ∧ n = 0 ∧ r = -3) ∨ (((0 ≤ pu ∧ pu ≤ 999) ∧ (0 ≤ h ∧ h ≤ 3)) ∧ 1 ≤ n ∧ wb_HL hl n c sd sf ∧ wb_hd n c s sd sf (wb_KK rs ru) hl pu (27 * n) p ∧ r = if p < 0 then -5 else if h = 0 then p / 9 / 3 else if h = 1 then p / 9 % 3 else if h = 2 then p % 9 + 1 else wb_HP n c s sd sf (wb_KK rs ru) hl p)) (hQ : ∀ (w' : wb_W), wb_Ra w' c s sg rs im ik → wb_RR w' n c s sd sf cnt ru (wb_KK rs ru) → (∀ k, (k < 96 ∨ 108 ≤ k) → w' k = w k) → Q (some (.int (wb_i r))) N w') : wb_M G M_X12_hide [.ref 96, .int (wb_i pu), .int (wb_i h)] N w Q := by
  unfold wb_M
  obtain ⟨ld0, tt0, tr0, L0, H0, fi0, ch0, hrf, -⟩ := hrr.op
  unfold wb_Rf at hrf
  have hn := hR.1
  have d1 : ¬ ((0 ≤ pu ∧ pu ≤ 999) ∧ (0 ≤ h ∧ h ≤ 3)) → r = -2 := fun q => by
    rcases hD with h | h | h
    · exact h.2
    · exact absurd h.1 q
    · exact absurd h.1 q
  have d0 : ((0 ≤ pu ∧ pu ≤ 999) ∧ (0 ≤ h ∧ h ≤ 3)) → n = 0 → r = -3 := fun q z => by
    rcases hD with h | h | h
    · exact absurd q h.1
    · exact h.2.2
    · have := h.2.1; omega
  have d3 : ((0 ≤ pu ∧ pu ≤ 999) ∧ (0 ≤ h ∧ h ≤ 3)) → 1 ≤ n → wb_HL hl n c sd sf ∧ wb_hd n c s sd sf (wb_KK rs ru) hl pu (27 * n) p ∧ r = if p < 0 then -5 else if h = 0 then p / 9 / 3 else if h = 1 then p / 9 % 3 else if h = 2 then p % 9 + 1 else wb_HP n c s sd sf (wb_KK rs ru) hl p := fun q z => by
    rcases hD with h | h | h
    · exact absurd q h.1
    · have := h.2.1; omega
    · exact h.2.2
  clear hD
  have tl : ((0 ≤ pu ∧ pu ≤ 999) ∧ (0 ≤ h ∧ h ≤ 3)) → 1 ≤ n → wb_V G M_X12_hide 33 [(0, .ref 96), (1, .int (wb_i pu)), (2, .int (wb_i h))] [] N w 0 0 Q := by
    intro gh gn
    obtain ⟨hHL, hhd, hrv⟩ := d3 gh gn
    refine vi_aload_n 17 rfl rfl ?_
    refine vi_V0 18 ok_X12_lay rfl c_X12_160 hrf rfl rfl ?_
    refine sp_X12_lay hra hrr hR hru (fun w1 hra1 hrl1 ef1 => ?_)
    obtain ⟨tt, tr, L, H, ch, ag, kp, ft, me, op, hrf1, h101, h102, h103, h104, h105, hag, hkp, hft, htt, htr⟩ := hrl1
    have fin : ∀ (w2 : wb_W) (tt2 tr2 L2 H2 : Int) (op2 : Int → Int), wb_Rf w2 n sd sf cnt ru 1 0 0 (-6) tt2 tr2 L2 H2 (wb_ct (wb_ft n c s sd sf (wb_KK rs ru) 0 0) 15625) ch → (-10 ≤ tt2 ∧ tt2 ≤ 10) → (-9 ≤ tr2 ∧ tr2 ≤ 1000) → w2 105 = aI 625 op2 → (∀ k, k ≠ 96 → k ≠ 105 → w2 k = w1 k) → Q (some (.int (wb_i r))) N w2 := fun w2 tt2 tr2 L2 H2 op2 hrf2 q1 q2 h1052 ef2 => hQ w2 (hra1.fr (fun k hk => ef2 k (by omega) (by omega))) (Or.inr ⟨tt2, tr2, L2, H2, ch, ag, kp, ft, me, op2, hrf2, (ef2 _ (by omega) (by omega)).trans h101, (ef2 _ (by omega) (by omega)).trans h102, (ef2 _ (by omega) (by omega)).trans h103, (ef2 _ (by omega) (by omega)).trans h104, h1052, hag, hkp, hft, q1, q2⟩) (fun k hk => (ef2 k (by omega) (by omega)).trans (ef1 k hk))
    obtain ⟨fi, hfi⟩ : ∃ fi : Int, fi = wb_ct (wb_ft n c s sd sf (wb_KK rs ru) 0 0) 15625 := ⟨_, rfl⟩
    rw [← hfi] at hrf1 fin
    have h97 := hra1.1
    have h98 := hra1.2.1
    -- what was found so far, of the places that were looked at
    obtain ⟨I, hI⟩ : ∃ I : (Int → Prop) → Int → Int → Int → Prop, I = fun V b mo le => (b = -6 ∧ mo = 0 ∧ le = 0 ∧ ∀ j, 0 ≤ j → j < 27 * n → V j → pu < wb_pd c j) ∨ (∃ a, b = wb_hk a ∧ (0 ≤ a ∧ a < 27 * n) ∧ V a ∧ mo = wb_HP n c s sd sf (wb_KK rs ru) hl a ∧ le = wb_pd c a ∧ wb_pd c a ≤ pu ∧ ∀ j, 0 ≤ j → j < 27 * n → V j → wb_pd c j ≤ pu → wb_HP n c s sd sf (wb_KK rs ru) hl j < wb_HP n c s sd sf (wb_KK rs ru) hl a ∨ (wb_HP n c s sd sf (wb_KK rs ru) hl j = wb_HP n c s sd sf (wb_KK rs ru) hl a ∧ (wb_pd c a < wb_pd c j ∨ (wb_pd c a = wb_pd c j ∧ a ≤ j)))) := ⟨_, rfl⟩
    have Iw : ∀ (V V' : Int → Prop) (b mo le : Int), I V b mo le → (∀ j, 0 ≤ j → j < 27 * n → (V j ↔ V' j)) → I V' b mo le := fun V V' b mo le h hV => by
      rw [hI] at h ⊢
      rcases h with ⟨a1, a2, a3, a4⟩ | ⟨a, a1, a2, a3, a4, a5, a6, a7⟩
      · exact Or.inl ⟨a1, a2, a3, fun j j1 j2 j3 => a4 j j1 j2 ((hV j j1 j2).mpr j3)⟩
      · exact Or.inr ⟨a, a1, a2, (hV a a2.1 a2.2).mp a3, a4, a5, a6, fun j j1 j2 j3 => a7 j j1 j2 ((hV j j1 j2).mpr j3)⟩
    have Irg : ∀ (V : Int → Prop) (b mo le : Int), I V b mo le → (-6 ≤ b ∧ b ≤ 1000) ∧ (0 ≤ mo ∧ mo ≤ 9765625) ∧ (0 ≤ le ∧ le ≤ 999) := fun V b mo le h => by
      rw [hI] at h
      rcases h with ⟨a1, a2, a3, a4⟩ | ⟨a, a1, a2, a3, a4, a5, a6, a7⟩
      · omega
      · have hp : 0 ≤ wb_pd c a := by
          unfold wb_pd
          have := hR.2.1 (9 * (a / 9 / 3) + (6 + a / 9 % 3))
          exact Int.mul_nonneg this.1 (by omega)
        have hq : 0 ≤ wb_HP n c s sd sf (wb_KK rs ru) hl a ∧ wb_HP n c s sd sf (wb_KK rs ru) hl a ≤ 9765625 := wb_CN_rg
        have hb : 0 ≤ wb_hk a ∧ wb_hk a ≤ 1000 := by unfold wb_hk; omega
        omega
    -- one place more
    have Ino : ∀ (V : Int → Prop) (b mo le a : Int), I V b mo le → pu < wb_pd c a → I (fun j => V j ∨ j = a) b mo le := fun V b mo le a0 h hp => by
      rw [hI] at h ⊢
      rcases h with ⟨a1, a2, a3, a4⟩ | ⟨a, a1, a2, a3, a4, a5, a6, a7⟩
      · exact Or.inl ⟨a1, a2, a3, fun j j1 j2 j3 => by rcases j3 with q | q; (exact a4 j j1 j2 q); (rw [q]; exact hp)⟩
      · exact Or.inr ⟨a, a1, a2, Or.inl a3, a4, a5, a6, fun j j1 j2 j3 j4 => by rcases j3 with q | q; (exact a7 j j1 j2 q j4); (rw [q] at j4; omega)⟩
    have Iyes : ∀ (V : Int → Prop) (b mo le a : Int), I V b mo le → (0 ≤ a ∧ a < 27 * n) → wb_pd c a ≤ pu → (b < 0 ∨ (mo < wb_HP n c s sd sf (wb_KK rs ru) hl a ∨ (wb_HP n c s sd sf (wb_KK rs ru) hl a = mo ∧ (wb_pd c a < le ∨ (wb_pd c a = le ∧ wb_hk a < b))))) → I (fun j => V j ∨ j = a) (wb_hk a) (wb_HP n c s sd sf (wb_KK rs ru) hl a) (wb_pd c a) := fun V b mo le a0 h ha hp hbt => by
      rw [hI] at h ⊢
      refine Or.inr ⟨a0, rfl, ha, Or.inr rfl, rfl, rfl, hp, fun j j1 j2 j3 j4 => ?_⟩
      rcases j3 with q | q
      · rcases h with ⟨a1, a2, a3, a4⟩ | ⟨a, a1, a2, a3, a4, a5, a6, a7⟩
        · have := a4 j j1 j2 q; omega
        · have z := a7 j j1 j2 q j4
          have hb : ¬ b < 0 := by rw [a1]; unfold wb_hk; omega
          have hk := wb_hk_le (a := a0) (b := a) ha.1 a2.1
          rw [a1, a4, a5] at hbt
          rw [a1] at hb
          rcases hbt with u | u
          · exact absurd u hb
          · omega
      · rw [q]; omega
    have Iold : ∀ (V : Int → Prop) (b mo le a : Int), I V b mo le → (0 ≤ a ∧ a < 27 * n) → 0 ≤ b → ¬ (mo < wb_HP n c s sd sf (wb_KK rs ru) hl a ∨ (wb_HP n c s sd sf (wb_KK rs ru) hl a = mo ∧ (wb_pd c a < le ∨ (wb_pd c a = le ∧ wb_hk a < b)))) → I (fun j => V j ∨ j = a) b mo le := fun V b mo le a0 h ha hb hbt => by
      rw [hI] at h ⊢
      rcases h with ⟨a1, a2, a3, a4⟩ | ⟨a, a1, a2, a3, a4, a5, a6, a7⟩
      · omega
      · refine Or.inr ⟨a, a1, a2, Or.inl a3, a4, a5, a6, fun j j1 j2 j3 j4 => ?_⟩
        rcases j3 with q | q
        · exact a7 j j1 j2 q j4
        · have hk := wb_hk_le (a := a0) (b := a) ha.1 a2.1
          rw [a1, a4, a5] at hbt
          rw [q]; omega
    have Iend : ∀ (V : Int → Prop) (b mo le : Int), I V b mo le → (∀ j, 0 ≤ j → j < 27 * n → V j) → (b < 0 ∧ r = -5) ∨ (0 ≤ b ∧ r = if h = 0 then b / 30 else if h = 1 then b % 30 / 10 else if h = 2 then b % 10 else mo) := fun V b mo le h0 hV => by
      rw [hI] at h0
      rcases h0 with ⟨a1, a2, a3, a4⟩ | ⟨a, a1, a2, a3, a4, a5, a6, a7⟩
      · left
        have : p = -1 := wb_hd_eq hhd (Or.inl ⟨rfl, fun j j1 j2 => a4 j j1 j2 (hV j j1 j2)⟩)
        rw [if_pos (by omega)] at hrv
        exact ⟨by omega, hrv⟩
      · right
        have : p = a := wb_hd_eq hhd (Or.inr ⟨a2, a6, fun j j1 j2 j3 => a7 j j1 j2 (hV j j1 j2) j3⟩)
        subst this
        rw [if_neg (by omega)] at hrv
        have e0 : b / 30 = p / 9 / 3 := by rw [a1]; unfold wb_hk; omega
        have e1 : b % 30 / 10 = p / 9 % 3 := by rw [a1]; unfold wb_hk; omega
        have e2 : b % 10 = p % 9 + 1 := by rw [a1]; unfold wb_hk; omega
        rw [e0, e1, e2, a4]
        exact ⟨by rw [a1]; unfold wb_hk; omega, hrv⟩
    have I0 : I (fun j => j / 9 % 3 < 0) (-6) 0 0 := by
      rw [hI]; exact Or.inl ⟨rfl, rfl, rfl, fun j j1 j2 j3 => by omega⟩
    clear hI hhd hrv
    have lpT : ∀ t, t ≤ 3 → ∀ (w2 : wb_W) (tt2 tr2 L2 H2 b mo2 le : Int) (op2 : Int → Int), 0 ≤ t → (-10 ≤ tt2 ∧ tt2 ≤ 10) → (-9 ≤ tr2 ∧ tr2 ≤ 1000) → I (fun j => j / 9 % 3 < t) b mo2 le → wb_Rf w2 n sd sf cnt ru 1 0 0 ((-6)) tt2 tr2 L2 H2 fi ch → w2 105 = aI 625 op2 → (∀ k, k ≠ 96 → k ≠ 105 → w2 k = w1 k) → wb_V G M_X12_hide 50 [(0, .ref 96), (1, .int (wb_i pu)), (2, .int (wb_i h)), (3, .int (wb_i b)), (4, .int (wb_i mo2)), (5, .int (wb_i le)), (6, .int (wb_i t))] [] N w2 0 0 Q := by
      refine wb_up 3 _ ?_
      intro t ih ht w2 tt2 tr2 L2 H2 b mo2 le op2 ht0 htt2 htr2 hb hrf2 h1052 ef2
      have lpM : t < 3 → ∀ m, m ≤ n → ∀ (w2 : wb_W) (tt2 tr2 L2 H2 b mo2 le : Int) (op2 : Int → Int), 0 ≤ m → (-10 ≤ tt2 ∧ tt2 ≤ 10) → (-9 ≤ tr2 ∧ tr2 ≤ 1000) → (∀ j, 0 ≤ j → j < 625 → op2 j = wb_ct (fun x => wb_OO n c s sd sf (wb_KK rs ru) t x && decide (wb_k2 sd sf t x = j)) 15625) → I (fun j => j / 9 % 3 < t ∨ (j / 9 % 3 = t ∧ j / 27 < m)) b mo2 le → wb_Rf w2 n sd sf cnt ru 1 0 0 ((-6)) tt2 tr2 L2 H2 fi ch → w2 105 = aI 625 op2 → (∀ k, k ≠ 96 → k ≠ 105 → w2 k = w1 k) → wb_V G M_X12_hide 65 [(0, .ref 96), (1, .int (wb_i pu)), (2, .int (wb_i h)), (3, .int (wb_i b)), (4, .int (wb_i mo2)), (5, .int (wb_i le)), (6, .int (wb_i t)), (7, .int (wb_i m))] [] N w2 0 0 Q := by
        intro ht3
        refine wb_up n _ ?_
        intro m jh hm w2 tt2 tr2 L2 H2 b mo2 le op2 hm0 htt2 htr2 hop hb hrf2 h1052 ef2
        have lpK : m < n → ∀ k, k ≤ 10 → ∀ (w2 : wb_W) (tt2 tr2 L2 H2 b mo2 le : Int) (op2 : Int → Int), 1 ≤ k → (-10 ≤ tt2 ∧ tt2 ≤ 10) → (-9 ≤ tr2 ∧ tr2 ≤ 1000) → (∀ j, 0 ≤ j → j < 625 → op2 j = wb_ct (fun x => wb_OO n c s sd sf (wb_KK rs ru) t x && decide (wb_k2 sd sf t x = j)) 15625) → I (fun j => j / 9 % 3 < t ∨ (j / 9 % 3 = t ∧ (j / 27 < m ∨ (j / 27 = m ∧ j % 9 + 1 < k)))) b mo2 le → wb_Rf w2 n sd sf cnt ru 1 0 0 ((-6)) tt2 tr2 L2 H2 fi ch → w2 105 = aI 625 op2 → (∀ k, k ≠ 96 → k ≠ 105 → w2 k = w1 k) → wb_V G M_X12_hide 77 [(0, .ref 96), (1, .int (wb_i pu)), (2, .int (wb_i h)), (3, .int (wb_i b)), (4, .int (wb_i mo2)), (5, .int (wb_i le)), (6, .int (wb_i t)), (7, .int (wb_i m)), (8, .int (wb_i k))] [] N w2 0 0 Q := by
          intro hmn
          refine wb_up 10 _ ?_
          intro k kh hk w2 tt2 tr2 L2 H2 b mo2 le op2 hk1 htt2 htr2 hop hb hrf2 h1052 ef2
          have hrf2' := hrf2
          unfold wb_Rf at hrf2'
          have hrg := Irg _ _ _ _ hb
          have hcp := hR.2.1 (9 * m + 6 + t)
          -- this place
          have pl : k < 10 → ∃ a, (0 ≤ a ∧ a < 27 * n) ∧ wb_pd c a = k * c (9 * m + 6 + t) ∧ wb_HP n c s sd sf (wb_KK rs ru) hl a = wb_HD n c s sd sf (wb_KK rs ru) hl m t (k - 1) ∧ wb_hk a = 30 * m + 10 * t + k ∧ (a / 9 % 3 = t ∧ a / 27 = m ∧ a % 9 + 1 = k) := fun q => ⟨9 * (3 * m + t) + (k - 1), by omega, wb_pd_of hm0 (by omega) (by omega), wb_HP_of hm0 (by omega) (by omega), wb_hk_of hm0 (by omega) (by omega), by omega⟩
          have nxt : ∀ a, (0 ≤ a ∧ a < 27 * n) → (a / 9 % 3 = t ∧ a / 27 = m ∧ a % 9 + 1 = k) → ∀ b mo2 le, I (fun j => (j / 9 % 3 < t ∨ (j / 9 % 3 = t ∧ (j / 27 < m ∨ (j / 27 = m ∧ j % 9 + 1 < k)))) ∨ j = a) b mo2 le → I (fun j => j / 9 % 3 < t ∨ (j / 9 % 3 = t ∧ (j / 27 < m ∨ (j / 27 = m ∧ j % 9 + 1 < k + 1)))) b mo2 le := fun a ha hak b mo2 le h0 => Iw _ _ _ _ _ h0 (fun j j1 j2 => by omega)
          have hkc : k < 10 → 0 ≤ k * c (9 * m + 6 + t) ∧ k * c (9 * m + 6 + t) ≤ 891 := fun q => by
            rcases (show k = 1 ∨ k = 2 ∨ k = 3 ∨ k = 4 ∨ k = 5 ∨ k = 6 ∨ k = 7 ∨ k = 8 ∨ k = 9 by omega) with e | e | e | e | e | e | e | e | e <;> subst e <;> omega
          have hct : k < 10 → wb_ct (fun x => wb_OO n c s sd sf (wb_KK rs ru) t x && wb_tk n c s sd sf m t (-k) x) 15625 = wb_HD n c s sd sf (wb_KK rs ru) hl m t (k - 1) := fun q => (wb_CN_ct hR hHL (by omega) (by omega) (by omega) (Or.inr ⟨by omega, by omega, rfl⟩)).symm
          have tk : k < 10 → ∀ (w3 : wb_W) (L3 H3 v hd : Int), v = k * c (9 * m + 6 + t) → v ≤ pu → hd = wb_HD n c s sd sf (wb_KK rs ru) hl m t (k - 1) → wb_Rf w3 n sd sf cnt ru 1 0 0 m t (-k) L3 H3 fi ch → w3 105 = aI 625 op2 → (∀ k, k ≠ 96 → k ≠ 105 → w3 k = w1 k) → wb_V G M_X12_hide 136 [(0, .ref 96), (1, .int (wb_i pu)), (2, .int (wb_i h)), (3, .int (wb_i b)), (4, .int (wb_i mo2)), (5, .int (wb_i le)), (6, .int (wb_i t)), (7, .int (wb_i m)), (8, .int (wb_i k)), (9, .int (wb_i v))] [.int (wb_i hd)] N w3 0 0 Q := by
            intro hk9 w3 L3 H3 v hd hv hvp hhd hrf3 h1053 ef3
            have hrf3' := hrf3
            unfold wb_Rf at hrf3'
            obtain ⟨a, p1, p2, p3, p4, p5⟩ := pl hk9
            have hvr := hkc hk9
            rw [← hv] at p2 hvr
            rw [← hhd] at p3
            have hhr : 0 ≤ hd ∧ hd ≤ 9765625 := by rw [hhd]; exact wb_CN_rg
            have go : ∀ (b3 mo3 le3 : Int), I (fun j => j / 9 % 3 < t ∨ (j / 9 % 3 = t ∧ (j / 27 < m ∨ (j / 27 = m ∧ j % 9 + 1 < k + 1)))) b3 mo3 le3 → wb_V G M_X12_hide 221 [(0, .ref 96), (1, .int (wb_i pu)), (2, .int (wb_i h)), (3, .int (wb_i b3)), (4, .int (wb_i mo3)), (5, .int (wb_i le3)), (6, .int (wb_i t)), (7, .int (wb_i m)), (8, .int (wb_i k))] [] N (va_up w3 96 (.inr (12, [.int (wb_i n), .ref 97, .ref 98, .int (wb_i (wb_n6 sd)), .int (wb_i (wb_n6 sf)), .int (wb_i cnt), .ref 99, .int (wb_i ru), .ref 100, .int (wb_i 1), .int (wb_i 0), .int (wb_i 0), .int (wb_i (-6)), .int (wb_i t), .int (wb_i (-k)), .int (wb_i L3), .int (wb_i H3), .ref 101, .ref 102, .ref 103, .int (wb_i fi), .ref 104, .int (wb_i ch), .ref 105, .ref 106, .ref 107]))) 0 0 Q := by
              intro b3 mo3 le3 h3
              refine vi_iinc 117 rfl rfl rfl ?_
              refine vi_goto 118 rfl ?_
              exact vi_lc (kh (k + 1) (by omega) (by omega) _ t (-k) L3 H3 b3 mo3 le3 op2 (by omega) (by omega) (by omega) hop h3 wb_ups ((wb_upn (by omega)).trans h1053) (fun k q1 q2 => by rw [wb_upn q1]; exact ef3 k q1 q2)) ⟨rfl, rfl, rfl, rfl, rfl, rfl, rfl, rfl, rfl, trivial⟩
            have gy : (b < 0 ∨ (mo2 < hd ∨ (hd = mo2 ∧ (v < le ∨ (v = le ∧ 30 * m + 10 * t + k < b))))) → I (fun j => j / 9 % 3 < t ∨ (j / 9 % 3 = t ∧ (j / 27 < m ∨ (j / 27 = m ∧ j % 9 + 1 < k + 1)))) (30 * m + 10 * t + k) hd v := fun q => by
              have := Iyes _ _ _ _ a hb p1 (by omega) (by rw [p2, p3, p4]; exact q)
              rw [p2, p3, p4] at this
              exact nxt a p1 p5 _ _ _ this
            have gn : 0 ≤ b → ¬ (mo2 < hd ∨ (hd = mo2 ∧ (v < le ∨ (v = le ∧ 30 * m + 10 * t + k < b)))) → I (fun j => j / 9 % 3 < t ∨ (j / 9 % 3 = t ∧ (j / 27 < m ∨ (j / 27 = m ∧ j % 9 + 1 < k + 1)))) b mo2 le := fun q0 q => nxt a p1 p5 _ _ _ (Iold _ _ _ _ a hb p1 q0 (by rw [p2, p3, p4]; exact q))
            refine vi_istore 74 rfl rfl ?_
            refine vi_aload_n 75 rfl rfl ?_
            refine vi_bipush 76 rfl (by decide) ?_
            refine vi_put 77 rfl f_X12_29 hrf3' rfl rfl rfl rfl ?_
            refine vi_bipush 78 rfl (by decide) ?_
            refine vi_iload 79 rfl rfl ?_
            refine vi_imul 80 rfl ?_
            refine vi_bipush 81 rfl (by decide) ?_
            refine vi_iload 82 rfl rfl ?_
            refine vi_imul 83 rfl ?_
            refine vi_iadd 84 rfl ?_
            refine vi_iload 85 rfl rfl ?_
            refine vi_iadd 86 rfl ?_
            refine vi_istore 87 rfl rfl ?_
            refine vi_iload 88 rfl rfl ?_
            refine vi_iload 89 rfl rfl ?_
            refine vi_icmp_gt 90 rfl (by omega) (by omega) (fun c_164 => ?_) (fun c_164 => ?_)
            · refine vi_iconst 103 rfl ?_
              refine vi_goto 104 rfl ?_
              refine vi_istore 106 rfl rfl ?_
              refine vi_iload_n 107 rfl rfl ?_
              refine vi_if_lt 108 rfl (by omega) (fun c_202 => ?_) (fun c_202 => ?_)
              · refine vi_iload 111 rfl rfl ?_
                refine vi_istore_n 112 rfl rfl ?_
                refine vi_iload 113 rfl rfl ?_
                refine vi_istore 114 rfl rfl ?_
                refine vi_iload 115 rfl rfl ?_
                refine vi_istore 116 rfl rfl ?_
                first | exact vi_lc (go _ _ _ (gy (by omega))) ⟨rfl, rfl, rfl, rfl, rfl, rfl, rfl, rfl, rfl, trivial⟩ | exact vi_lc (go _ _ _ (gn (by omega) (by omega))) ⟨rfl, rfl, rfl, rfl, rfl, rfl, rfl, rfl, rfl, trivial⟩
              · refine vi_iload 109 rfl rfl ?_
                refine vi_if_eq 110 rfl (by omega) (fun c => absurd c (by decide)) (fun _ => ?_)
                refine vi_iload 111 rfl rfl ?_
                refine vi_istore_n 112 rfl rfl ?_
                refine vi_iload 113 rfl rfl ?_
                refine vi_istore 114 rfl rfl ?_
                refine vi_iload 115 rfl rfl ?_
                refine vi_istore 116 rfl rfl ?_
                first | exact vi_lc (go _ _ _ (gy (by omega))) ⟨rfl, rfl, rfl, rfl, rfl, rfl, rfl, rfl, rfl, trivial⟩ | exact vi_lc (go _ _ _ (gn (by omega) (by omega))) ⟨rfl, rfl, rfl, rfl, rfl, rfl, rfl, rfl, rfl, trivial⟩
            · refine vi_iload 91 rfl rfl ?_
              refine vi_iload 92 rfl rfl ?_
              refine vi_icmp_ne 93 rfl (by omega) (by omega) (fun c_171 => ?_) (fun c_171 => ?_)
              · refine vi_iconst 105 rfl ?_
                refine vi_istore 106 rfl rfl ?_
                refine vi_iload_n 107 rfl rfl ?_
                refine vi_if_lt 108 rfl (by omega) (fun c_202 => ?_) (fun c_202 => ?_)
                · refine vi_iload 111 rfl rfl ?_
                  refine vi_istore_n 112 rfl rfl ?_
                  refine vi_iload 113 rfl rfl ?_
                  refine vi_istore 114 rfl rfl ?_
                  refine vi_iload 115 rfl rfl ?_
                  refine vi_istore 116 rfl rfl ?_
                  first | exact vi_lc (go _ _ _ (gy (by omega))) ⟨rfl, rfl, rfl, rfl, rfl, rfl, rfl, rfl, rfl, trivial⟩ | exact vi_lc (go _ _ _ (gn (by omega) (by omega))) ⟨rfl, rfl, rfl, rfl, rfl, rfl, rfl, rfl, rfl, trivial⟩
                · refine vi_iload 109 rfl rfl ?_
                  refine vi_if_eq 110 rfl (by omega) (fun _ => ?_) (fun c => absurd c (by decide))
                  first | exact vi_lc (go _ _ _ (gy (by omega))) ⟨rfl, rfl, rfl, rfl, rfl, rfl, rfl, rfl, rfl, trivial⟩ | exact vi_lc (go _ _ _ (gn (by omega) (by omega))) ⟨rfl, rfl, rfl, rfl, rfl, rfl, rfl, rfl, rfl, trivial⟩
              · refine vi_iload 94 rfl rfl ?_
                refine vi_iload 95 rfl rfl ?_
                refine vi_icmp_lt 96 rfl (by omega) (by omega) (fun c_178 => ?_) (fun c_178 => ?_)
                · refine vi_iconst 103 rfl ?_
                  refine vi_goto 104 rfl ?_
                  refine vi_istore 106 rfl rfl ?_
                  refine vi_iload_n 107 rfl rfl ?_
                  refine vi_if_lt 108 rfl (by omega) (fun c_202 => ?_) (fun c_202 => ?_)
                  · refine vi_iload 111 rfl rfl ?_
                    refine vi_istore_n 112 rfl rfl ?_
                    refine vi_iload 113 rfl rfl ?_
                    refine vi_istore 114 rfl rfl ?_
                    refine vi_iload 115 rfl rfl ?_
                    refine vi_istore 116 rfl rfl ?_
                    first | exact vi_lc (go _ _ _ (gy (by omega))) ⟨rfl, rfl, rfl, rfl, rfl, rfl, rfl, rfl, rfl, trivial⟩ | exact vi_lc (go _ _ _ (gn (by omega) (by omega))) ⟨rfl, rfl, rfl, rfl, rfl, rfl, rfl, rfl, rfl, trivial⟩
                  · refine vi_iload 109 rfl rfl ?_
                    refine vi_if_eq 110 rfl (by omega) (fun c => absurd c (by decide)) (fun _ => ?_)
                    refine vi_iload 111 rfl rfl ?_
                    refine vi_istore_n 112 rfl rfl ?_
                    refine vi_iload 113 rfl rfl ?_
                    refine vi_istore 114 rfl rfl ?_
                    refine vi_iload 115 rfl rfl ?_
                    refine vi_istore 116 rfl rfl ?_
                    first | exact vi_lc (go _ _ _ (gy (by omega))) ⟨rfl, rfl, rfl, rfl, rfl, rfl, rfl, rfl, rfl, trivial⟩ | exact vi_lc (go _ _ _ (gn (by omega) (by omega))) ⟨rfl, rfl, rfl, rfl, rfl, rfl, rfl, rfl, rfl, trivial⟩
                · refine vi_iload 97 rfl rfl ?_
                  refine vi_iload 98 rfl rfl ?_
                  refine vi_icmp_ne 99 rfl (by omega) (by omega) (fun c_185 => ?_) (fun c_185 => ?_)
                  · refine vi_iconst 105 rfl ?_
                    refine vi_istore 106 rfl rfl ?_
                    refine vi_iload_n 107 rfl rfl ?_
                    refine vi_if_lt 108 rfl (by omega) (fun c_202 => ?_) (fun c_202 => ?_)
                    · refine vi_iload 111 rfl rfl ?_
                      refine vi_istore_n 112 rfl rfl ?_
                      refine vi_iload 113 rfl rfl ?_
                      refine vi_istore 114 rfl rfl ?_
                      refine vi_iload 115 rfl rfl ?_
                      refine vi_istore 116 rfl rfl ?_
                      first | exact vi_lc (go _ _ _ (gy (by omega))) ⟨rfl, rfl, rfl, rfl, rfl, rfl, rfl, rfl, rfl, trivial⟩ | exact vi_lc (go _ _ _ (gn (by omega) (by omega))) ⟨rfl, rfl, rfl, rfl, rfl, rfl, rfl, rfl, rfl, trivial⟩
                    · refine vi_iload 109 rfl rfl ?_
                      refine vi_if_eq 110 rfl (by omega) (fun _ => ?_) (fun c => absurd c (by decide))
                      first | exact vi_lc (go _ _ _ (gy (by omega))) ⟨rfl, rfl, rfl, rfl, rfl, rfl, rfl, rfl, rfl, trivial⟩ | exact vi_lc (go _ _ _ (gn (by omega) (by omega))) ⟨rfl, rfl, rfl, rfl, rfl, rfl, rfl, rfl, rfl, trivial⟩
                  · refine vi_iload 100 rfl rfl ?_
                    refine vi_iload_n 101 rfl rfl ?_
                    refine vi_icmp_ge 102 rfl (by omega) (by omega) (fun c_191 => ?_) (fun c_191 => ?_)
                    · refine vi_iconst 105 rfl ?_
                      refine vi_istore 106 rfl rfl ?_
                      refine vi_iload_n 107 rfl rfl ?_
                      refine vi_if_lt 108 rfl (by omega) (fun c_202 => ?_) (fun c_202 => ?_)
                      · refine vi_iload 111 rfl rfl ?_
                        refine vi_istore_n 112 rfl rfl ?_
                        refine vi_iload 113 rfl rfl ?_
                        refine vi_istore 114 rfl rfl ?_
                        refine vi_iload 115 rfl rfl ?_
                        refine vi_istore 116 rfl rfl ?_
                        first | exact vi_lc (go _ _ _ (gy (by omega))) ⟨rfl, rfl, rfl, rfl, rfl, rfl, rfl, rfl, rfl, trivial⟩ | exact vi_lc (go _ _ _ (gn (by omega) (by omega))) ⟨rfl, rfl, rfl, rfl, rfl, rfl, rfl, rfl, rfl, trivial⟩
                      · refine vi_iload 109 rfl rfl ?_
                        refine vi_if_eq 110 rfl (by omega) (fun _ => ?_) (fun c => absurd c (by decide))
                        first | exact vi_lc (go _ _ _ (gy (by omega))) ⟨rfl, rfl, rfl, rfl, rfl, rfl, rfl, rfl, rfl, trivial⟩ | exact vi_lc (go _ _ _ (gn (by omega) (by omega))) ⟨rfl, rfl, rfl, rfl, rfl, rfl, rfl, rfl, rfl, trivial⟩
                    · refine vi_iconst 103 rfl ?_
                      refine vi_goto 104 rfl ?_
                      refine vi_istore 106 rfl rfl ?_
                      refine vi_iload_n 107 rfl rfl ?_
                      refine vi_if_lt 108 rfl (by omega) (fun c_202 => ?_) (fun c_202 => ?_)
                      · refine vi_iload 111 rfl rfl ?_
                        refine vi_istore_n 112 rfl rfl ?_
                        refine vi_iload 113 rfl rfl ?_
                        refine vi_istore 114 rfl rfl ?_
                        refine vi_iload 115 rfl rfl ?_
                        refine vi_istore 116 rfl rfl ?_
                        first | exact vi_lc (go _ _ _ (gy (by omega))) ⟨rfl, rfl, rfl, rfl, rfl, rfl, rfl, rfl, rfl, trivial⟩ | exact vi_lc (go _ _ _ (gn (by omega) (by omega))) ⟨rfl, rfl, rfl, rfl, rfl, rfl, rfl, rfl, rfl, trivial⟩
                      · refine vi_iload 109 rfl rfl ?_
                        refine vi_if_eq 110 rfl (by omega) (fun c => absurd c (by decide)) (fun _ => ?_)
                        refine vi_iload 111 rfl rfl ?_
                        refine vi_istore_n 112 rfl rfl ?_
                        refine vi_iload 113 rfl rfl ?_
                        refine vi_istore 114 rfl rfl ?_
                        refine vi_iload 115 rfl rfl ?_
                        refine vi_istore 116 rfl rfl ?_
                        first | exact vi_lc (go _ _ _ (gy (by omega))) ⟨rfl, rfl, rfl, rfl, rfl, rfl, rfl, rfl, rfl, trivial⟩ | exact vi_lc (go _ _ _ (gn (by omega) (by omega))) ⟨rfl, rfl, rfl, rfl, rfl, rfl, rfl, rfl, rfl, trivial⟩
          refine vi_iload 42 rfl rfl ?_
          refine vi_bipush 43 rfl (by decide) ?_
          refine vi_icmp_ge 44 rfl (by omega) (by omega) (fun c_81 => ?_) (fun c_81 => ?_)
          · refine vi_iinc 119 rfl rfl rfl ?_
            refine vi_goto 120 rfl ?_
            exact vi_lc (jh (m + 1) (by omega) (by omega) w2 tt2 tr2 L2 H2 b mo2 le op2 (by omega) htt2 htr2 hop (Iw _ _ _ _ _ hb (fun j j1 j2 => by omega)) hrf2 h1052 ef2) ⟨rfl, rfl, rfl, rfl, rfl, rfl, rfl, rfl, trivial⟩
          · refine vi_iload 45 rfl rfl ?_
            refine vi_aload_n 46 rfl rfl ?_
            refine vi_get 47 rfl f_X12_7 hrf2' rfl rfl ?_
            refine vi_bipush 48 rfl (by decide) ?_
            refine vi_iload 49 rfl rfl ?_
            refine vi_imul 50 rfl ?_
            refine vi_bipush 51 rfl (by decide) ?_
            refine vi_iadd 52 rfl ?_
            refine vi_iload 53 rfl rfl ?_
            refine vi_iadd 54 rfl ?_
            refine vi_iald 55 rfl ((ef2 97 (by omega) (by omega)).trans h97) (by omega) ?_
            refine vi_imul 56 rfl ?_
            refine vi_istore 57 rfl rfl ?_
            have hkc1 := hkc (by omega)
            refine vi_iload 58 rfl rfl ?_
            refine vi_iload_n 59 rfl rfl ?_
            refine vi_icmp_gt 60 rfl (by omega) (by omega) (fun c_108 => ?_) (fun c_108 => ?_)
            · refine vi_iinc 117 rfl rfl rfl ?_
              refine vi_goto 118 rfl ?_
              obtain ⟨a, p1, p2, p3, p4, p5⟩ := pl (by omega)
              exact vi_lc (kh (k + 1) (by omega) (by omega) w2 tt2 tr2 L2 H2 b mo2 le op2 (by omega) htt2 htr2 hop (nxt a p1 p5 _ _ _ (Ino _ _ _ _ a hb (by omega))) hrf2 h1052 ef2) ⟨rfl, rfl, rfl, rfl, rfl, rfl, rfl, rfl, rfl, trivial⟩
            · refine vi_aload_n 61 rfl rfl ?_
              refine vi_iload 62 rfl rfl ?_
              refine vi_put 63 rfl f_X12_29 hrf2' rfl rfl rfl rfl ?_
              refine vi_aload_n 64 rfl rfl ?_
              refine vi_iload 65 rfl rfl ?_
              refine vi_put 66 rfl f_X12_104 wb_ups rfl rfl rfl rfl ?_
              rw [wb_upu]
              refine vi_aload_n 67 rfl rfl ?_
              refine vi_iload 68 rfl rfl ?_
              refine vi_ineg 69 rfl ?_
              refine vi_put 70 rfl f_X12_107 wb_ups rfl rfl rfl rfl ?_
              rw [wb_upu]
              refine vi_aload_n 71 rfl rfl ?_
              refine vi_iload 72 rfl rfl ?_
              refine vi_V1 73 ok_X12_countTried rfl c_X12_192 wb_ups rfl rfl ?_
              refine sp_X12_countTried (K := wb_KK rs ru) (show wb_Rf _ n sd sf cnt ru 1 0 0 m t (-k) L2 H2 fi ch from wb_ups) ((wb_upn (by omega)).trans ((ef2 97 (by omega) (by omega)).trans h97)) ((wb_upn (by omega)).trans ((ef2 98 (by omega) (by omega)).trans h98)) ((wb_upn (by omega)).trans h1052) hop hR (by omega) (by omega) (by omega) (fun w3 L3 H3 hrf3 hf3 => ?_)
              rw [hct (by omega)]
              exact vi_lc (tk (by omega) w3 L3 H3 _ _ rfl (by omega) rfl hrf3 (by rw [hf3 105 (by omega), wb_upn (by omega)]; exact h1052) (fun k q1 q2 => by rw [hf3 k q1, wb_upn q1]; exact ef2 k q1 q2)) ⟨rfl, rfl, rfl, rfl, rfl, rfl, rfl, rfl, rfl, rfl, trivial⟩
        have hrf2' := hrf2
        unfold wb_Rf at hrf2'
        refine vi_iload 36 rfl rfl ?_
        refine vi_aload_n 37 rfl rfl ?_
        refine vi_get 38 rfl f_X12_60 hrf2' rfl rfl ?_
        refine vi_icmp_ge 39 rfl (by omega) (by omega) (fun c_71 => ?_) (fun c_71 => ?_)
        · refine vi_iinc 121 rfl rfl rfl ?_
          refine vi_goto 122 rfl ?_
          exact vi_lc (ih (t + 1) (by omega) (by omega) w2 tt2 tr2 L2 H2 b mo2 le op2 (by omega) htt2 htr2 (Iw _ _ _ _ _ hb (fun j j1 j2 => by omega)) hrf2 h1052 ef2) ⟨rfl, rfl, rfl, rfl, rfl, rfl, rfl, trivial⟩
        · refine vi_iconst 40 rfl ?_
          refine vi_istore 41 rfl rfl ?_
          exact vi_lc (lpK (by omega) 1 (by omega) w2 tt2 tr2 L2 H2 b mo2 le op2 (by omega) htt2 htr2 hop (Iw _ _ _ _ _ hb (fun j j1 j2 => by omega)) hrf2 h1052 ef2) ⟨rfl, rfl, rfl, rfl, rfl, rfl, rfl, rfl, rfl, trivial⟩
      have hrf2' := hrf2
      unfold wb_Rf at hrf2'
      have hrg := Irg _ _ _ _ hb
      refine vi_iload 28 rfl rfl ?_
      refine vi_iconst 29 rfl ?_
      refine vi_icmp_ge 30 rfl (by omega) (by omega) (fun c_53 => ?_) (fun c_53 => ?_)
      · have hend := Iend _ _ _ _ hb (fun j j1 j2 => by omega)
        have hf := fin w2 tt2 tr2 L2 H2 op2 hrf2 htt2 htr2 h1052 ef2
        refine vi_iload_n 123 rfl rfl ?_
        refine vi_if_ge 124 rfl (by omega) (fun c_240 => ?_) (fun c_240 => ?_)
        · refine vi_iload_n 127 rfl rfl ?_
          refine vi_if_ne 128 rfl (by omega) (fun c_249 => ?_) (fun c_249 => ?_)
          · refine vi_iload_n 133 rfl rfl ?_
            refine vi_iconst 134 rfl ?_
            refine vi_icmp_ne 135 rfl (by omega) (by omega) (fun c_261 => ?_) (fun c_261 => ?_)
            · refine vi_iload_n 142 rfl rfl ?_
              refine vi_iconst 143 rfl ?_
              refine vi_icmp_ne 144 rfl (by omega) (by omega) (fun c_276 => ?_) (fun c_276 => ?_)
              · refine vi_iload 149 rfl rfl ?_
                exact vi_ireturn 150 rfl rfl rfl (Nat.zero_le _) (Nat.zero_le _) (by rcases hend with ⟨z1, z2⟩ | ⟨z1, z2⟩; (first | (exfalso; omega) | exact wb_e (by omega) hf); (first | (exfalso; omega) | (rw [if_pos (by omega)] at z2; exact wb_e z2.symm hf) | (rw [if_neg (by omega), if_pos (by omega)] at z2; exact wb_e z2.symm hf) | (rw [if_neg (by omega), if_neg (by omega), if_pos (by omega)] at z2; exact wb_e z2.symm hf) | (rw [if_neg (by omega), if_neg (by omega), if_neg (by omega)] at z2; exact wb_e z2.symm hf)))
              · refine vi_iload_n 145 rfl rfl ?_
                refine vi_bipush 146 rfl (by decide) ?_
                refine vi_irem 147 rfl (by omega) (by omega) ?_
                refine vi_goto 148 rfl ?_
                exact vi_ireturn 150 rfl rfl rfl (Nat.zero_le _) (Nat.zero_le _) (by rcases hend with ⟨z1, z2⟩ | ⟨z1, z2⟩; (first | (exfalso; omega) | exact wb_e (by omega) hf); (first | (exfalso; omega) | (rw [if_pos (by omega)] at z2; exact wb_e z2.symm hf) | (rw [if_neg (by omega), if_pos (by omega)] at z2; exact wb_e z2.symm hf) | (rw [if_neg (by omega), if_neg (by omega), if_pos (by omega)] at z2; exact wb_e z2.symm hf) | (rw [if_neg (by omega), if_neg (by omega), if_neg (by omega)] at z2; exact wb_e z2.symm hf)))
            · refine vi_iload_n 136 rfl rfl ?_
              refine vi_bipush 137 rfl (by decide) ?_
              refine vi_irem 138 rfl (by omega) (by omega) ?_
              refine vi_bipush 139 rfl (by decide) ?_
              refine vi_idiv 140 rfl (by omega) (by omega) ?_
              refine vi_goto 141 rfl ?_
              exact vi_ireturn 150 rfl rfl rfl (Nat.zero_le _) (Nat.zero_le _) (by rcases hend with ⟨z1, z2⟩ | ⟨z1, z2⟩; (first | (exfalso; omega) | exact wb_e (by omega) hf); (first | (exfalso; omega) | (rw [if_pos (by omega)] at z2; exact wb_e z2.symm hf) | (rw [if_neg (by omega), if_pos (by omega)] at z2; exact wb_e z2.symm hf) | (rw [if_neg (by omega), if_neg (by omega), if_pos (by omega)] at z2; exact wb_e z2.symm hf) | (rw [if_neg (by omega), if_neg (by omega), if_neg (by omega)] at z2; exact wb_e z2.symm hf)))
          · refine vi_iload_n 129 rfl rfl ?_
            refine vi_bipush 130 rfl (by decide) ?_
            refine vi_idiv 131 rfl (by omega) (by omega) ?_
            refine vi_goto 132 rfl ?_
            exact vi_ireturn 150 rfl rfl rfl (Nat.zero_le _) (Nat.zero_le _) (by rcases hend with ⟨z1, z2⟩ | ⟨z1, z2⟩; (first | (exfalso; omega) | exact wb_e (by omega) hf); (first | (exfalso; omega) | (rw [if_pos (by omega)] at z2; exact wb_e z2.symm hf) | (rw [if_neg (by omega), if_pos (by omega)] at z2; exact wb_e z2.symm hf) | (rw [if_neg (by omega), if_neg (by omega), if_pos (by omega)] at z2; exact wb_e z2.symm hf) | (rw [if_neg (by omega), if_neg (by omega), if_neg (by omega)] at z2; exact wb_e z2.symm hf)))
        · refine vi_bipush 125 rfl (by decide) ?_
          refine vi_goto 126 rfl ?_
          exact vi_ireturn 150 rfl rfl rfl (Nat.zero_le _) (Nat.zero_le _) (by rcases hend with ⟨z1, z2⟩ | ⟨z1, z2⟩; (first | (exfalso; omega) | exact wb_e (by omega) hf); (first | (exfalso; omega) | (rw [if_pos (by omega)] at z2; exact wb_e z2.symm hf) | (rw [if_neg (by omega), if_pos (by omega)] at z2; exact wb_e z2.symm hf) | (rw [if_neg (by omega), if_neg (by omega), if_pos (by omega)] at z2; exact wb_e z2.symm hf) | (rw [if_neg (by omega), if_neg (by omega), if_neg (by omega)] at z2; exact wb_e z2.symm hf)))
      · refine vi_aload_n 31 rfl rfl ?_
        refine vi_iload 32 rfl rfl ?_
        refine vi_V1 33 ok_X12_layOpen rfl c_X12_186 hrf2' rfl rfl ?_
        refine sp_X12_layOpen (K := wb_KK rs ru) hrf2 ((ef2 101 (by omega) (by omega)).trans h101) hag ((ef2 102 (by omega) (by omega)).trans h102) hkp h1052 hR (by omega) (fun w3 op3 hop3 h1053 hf3 => ?_)
        refine vi_iconst 34 rfl ?_
        refine vi_istore 35 rfl rfl ?_
        exact vi_lc (lpM (by omega) 0 (by omega) w3 tt2 tr2 L2 H2 b mo2 le op3 (by omega) htt2 htr2 hop3 (Iw _ _ _ _ _ hb (fun j j1 j2 => by omega)) ((hf3 96 (by omega)).trans hrf2) h1053 (fun k q1 q2 => (hf3 k q2).trans (ef2 k q1 q2))) ⟨rfl, rfl, rfl, rfl, rfl, rfl, rfl, rfl, trivial⟩
    refine vi_pop 19 rfl rfl ?_
    refine vi_bipush 20 rfl (by decide) ?_
    refine vi_istore_n 21 rfl rfl ?_
    refine vi_iconst 22 rfl ?_
    refine vi_istore 23 rfl rfl ?_
    refine vi_iconst 24 rfl ?_
    refine vi_istore 25 rfl rfl ?_
    refine vi_iconst 26 rfl ?_
    refine vi_istore 27 rfl rfl ?_
    exact vi_lc (lpT 0 (by omega) w1 tt tr L H (-6) 0 0 op (by omega) htt htr I0 hrf1 h105 (fun _ _ _ => rfl)) ⟨rfl, rfl, rfl, rfl, rfl, rfl, rfl, trivial⟩
  have hf0 : Q (some (.int (wb_i r))) N w := hQ w hra hrr (fun _ _ => rfl)
  refine vi_iload_n 0 rfl rfl ?_
  refine vi_iconst 1 rfl ?_
  refine vi_sipush 2 rfl (by decide) ?_
  refine vi_S3 3 ok_X12_in rfl c_X12_56 rfl ?_
  refine sp_X12_in (by omega) (by omega) (by omega) (fun b_5 => ?_) (fun b_5 => ?_)
  · refine vi_if_eq 4 rfl (by omega) (fun c => absurd c (by decide)) (fun _ => ?_)
    refine vi_iload_n 5 rfl rfl ?_
    refine vi_iconst 6 rfl ?_
    refine vi_iconst 7 rfl ?_
    refine vi_S3 8 ok_X12_in rfl c_X12_56 rfl ?_
    refine sp_X12_in (by omega) (by omega) (by omega) (fun b_14 => ?_) (fun b_14 => ?_)
    · refine vi_if_ne 9 rfl (by omega) (fun _ => ?_) (fun c => absurd c (by decide))
      refine vi_aload_n 12 rfl rfl ?_
      refine vi_get 13 rfl f_X12_60 hrf rfl rfl ?_
      refine vi_if_ne 14 rfl (by omega) (fun c_27 => ?_) (fun c_27 => ?_)
      · exact vi_lc (tl (by omega) (by omega)) ⟨rfl, rfl, rfl, trivial⟩
      · refine vi_bipush 15 rfl (by decide) ?_
        exact vi_ireturn 16 rfl rfl rfl (Nat.zero_le _) (Nat.zero_le _) (wb_e (d0 (by omega) (by omega)).symm hf0)
    · refine vi_if_ne 9 rfl (by omega) (fun c => absurd c (by decide)) (fun _ => ?_)
      refine vi_bipush 10 rfl (by decide) ?_
      exact vi_ireturn 11 rfl rfl rfl (Nat.zero_le _) (Nat.zero_le _) (wb_e (d1 (by omega)).symm hf0)
  · refine vi_if_eq 4 rfl (by omega) (fun _ => ?_) (fun c => absurd c (by decide))
    refine vi_bipush 10 rfl (by decide) ?_
    exact vi_ireturn 11 rfl rfl rfl (Nat.zero_le _) (Nat.zero_le _) (wb_e (d1 (by omega)).symm hf0)
end WBS67
