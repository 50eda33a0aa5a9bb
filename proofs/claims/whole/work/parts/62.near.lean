/-! ===== the reference: near, doubt ===== -/
def wb_m6 (z : Int) : Int := if z < 0 then -6 else z
theorem wb_pbct : ∀ z : Fin 256, wb_ct (fun k => wb_bt (z.val : Int) k) 8 = wb_pb (z.val : Int) := by decide +kernel
section WBS62
variable {G : wb_G} {N : Nat} {w : wb_W} {Q : Option Value → Nat → wb_W → Prop}
variable {n sd sf cnt ru ld mo db tm tt tr L H fi ch : Int} {c s sg rs im ik ag kp : Int → Int} {K : Int → Bool}
theorem sp_X12_bits {z : Int} (hz : 0 ≤ z ∧ z < 256) (hQ : Q (some (.int (wb_i (wb_pb z)))) N w) : wb_M G M_X12_bits [.int (wb_i z)] N w Q := by
  unfold wb_M
  have lp : ∀ k, k ≤ 8 → ∀ v : Int, 0 ≤ k → v = wb_ct (fun k => wb_bt z k) k.toNat → wb_V G M_X12_bits 4 [(0, .int (wb_i z)), (1, .int (wb_i v)), (2, .int (wb_i k))] [] N w 0 0 Q := by
    refine wb_up 8 _ ?_
    intro k ih hk v hk0 hv
    have hst := wb_ct_s (F := fun k => wb_bt z k) hk0
    refine vi_iload_n 4 rfl rfl ?_
    refine vi_bipush 5 rfl (by decide) ?_
    refine vi_icmp_ge 6 rfl (by omega) (by omega) (fun c_7 => ?_) (fun c_7 => ?_)
    · refine vi_iload_n 17 rfl rfl ?_
      exact vi_ireturn 18 rfl rfl rfl (Nat.zero_le _) (Nat.zero_le _) (wb_e (by have h := wb_pbct ⟨z.toNat, by omega⟩; simp only [show ((z.toNat : Nat) : Int) = z by omega] at h; rw [hv, show k.toNat = 8 by omega]; exact h) hQ)
    · refine vi_iload_n 7 rfl rfl ?_
      refine vi_iload_n 8 rfl rfl ?_
      refine vi_iload_n 9 rfl rfl ?_
      refine vi_ishr 10 rfl ?_
      refine vi_iconst 11 rfl ?_
      refine vi_iand 12 rfl ?_
      rw [wb_sh1 (by omega) (by omega)]
      refine vi_iadd 13 rfl ?_
      refine vi_istore_n 14 rfl rfl ?_
      refine vi_iinc 15 rfl rfl rfl ?_
      refine vi_goto 16 rfl ?_
      exact vi_lc (ih (k + 1) (by omega) (by omega) _ (by omega) (by rw [hst, hv])) ⟨rfl, rfl, rfl, trivial⟩
  refine vi_iconst 0 rfl ?_
  refine vi_istore_n 1 rfl rfl ?_
  refine vi_iconst 2 rfl ?_
  refine vi_istore_n 3 rfl rfl ?_
  exact vi_lc (lp 0 (by omega) 0 (by omega) rfl) ⟨rfl, rfl, rfl, trivial⟩
theorem sp_X12_firstNow (hrf : wb_Rf w n sd sf cnt ru ld mo db tm tt tr L H fi ch) (h101 : w 101 = aZ 1875 ag) (hag : wb_AG ag n c s sd sf mo db) (h102 : w 102 = aZ 15625 kp) (hkp : ∀ x, 0 ≤ x → x < 15625 → kp x = wb_b2 (K x)) (hR : wb_BR n c s sd sf) (hQ : Q (some (.int (wb_i (wb_m6 (wb_nf n c s sd sf K mo db))))) N w) : wb_M G M_X12_firstNow [.ref 96] N w Q := by
  unfold wb_M
  have hrf' := hrf
  unfold wb_Rf at hrf'
  have lp : ∀ x, x ≤ 15625 → 0 ≤ x → (∀ y, 0 ≤ y → y < x → wb_ft n c s sd sf K mo db y = false) → wb_V G M_X12_firstNow 2 [(0, .ref 96), (1, .int (wb_i x))] [] N w 0 0 Q := by
    refine wb_up 15625 _ ?_
    intro x ih hx hx0 hno
    have hkx := fun q : x < 15625 => hkp x hx0 q
    have nx : wb_ft n c s sd sf K mo db x = false → ∀ y, 0 ≤ y → y < x + 1 → wb_ft n c s sd sf K mo db y = false := fun q y y1 y2 => by
      by_cases e : y = x
      · rw [e]; exact q
      · exact hno y y1 (by omega)
    have hend : ¬ x < 15625 → -6 = wb_m6 (wb_nf n c s sd sf K mo db) := fun q => by
      unfold wb_nf; rw [wb_nx_no (fun y y1 y2 => hno y y1 (by omega))]; rfl
    have eft : wb_ft n c s sd sf K mo db x = (K x && wb_AA n c s sd sf mo db x) := rfl
    cases hK : K x with
    | true =>
      rw [hK] at hkx eft
      rw [show wb_b2 true = 1 from rfl] at hkx
      refine vi_iload_n 2 rfl rfl ?_
      refine vi_sipush 3 rfl (by decide) ?_
      refine vi_icmp_ge 4 rfl (by omega) (by omega) (fun c_6 => ?_) (fun c_6 => ?_)
      · refine vi_bipush 18 rfl (by decide) ?_
        exact vi_ireturn 19 rfl rfl rfl (Nat.zero_le _) (Nat.zero_le _) (wb_e (hend (by omega)) hQ)
      · have hkx1 := hkx (by omega)
        refine vi_aload_n 5 rfl rfl ?_
        refine vi_get 6 rfl f_X12_36 hrf' rfl rfl ?_
        refine vi_iload_n 7 rfl rfl ?_
        refine vi_zald 8 rfl h102 (by omega) ?_
        refine vi_if_eq 9 rfl (by omega) (fun c_15 => by exfalso; omega) (fun c_15 => ?_)
        refine vi_aload_n 10 rfl rfl ?_
        refine vi_iload_n 11 rfl rfl ?_
        refine vi_V1 12 ok_X12_agreesWithAll rfl c_X12_151 hrf' rfl rfl ?_
        refine sp_X12_agreesWithAll hrf h101 hag hR (by omega) (fun b_20 => ?_) (fun b_20 => ?_)
        · refine vi_if_eq 13 rfl (by omega) (fun c => absurd c (by decide)) (fun _ => ?_)
          refine vi_iload_n 14 rfl rfl ?_
          exact vi_ireturn 15 rfl rfl rfl (Nat.zero_le _) (Nat.zero_le _) (wb_e (by unfold wb_nf; rw [wb_nx_at hx0 (by omega) (by rw [eft, b_20]; rfl) hno]; unfold wb_m6; rw [if_neg (by omega)]) hQ)
        · refine vi_if_eq 13 rfl (by omega) (fun _ => ?_) (fun c => absurd c (by decide))
          refine vi_iinc 16 rfl rfl rfl ?_
          refine vi_goto 17 rfl ?_
          exact vi_lc (ih (x + 1) (by omega) (by omega) (by omega) (nx (by rw [eft, b_20]; rfl))) ⟨rfl, rfl, trivial⟩
    | false =>
      rw [hK] at hkx eft
      rw [show wb_b2 false = 0 from rfl] at hkx
      refine vi_iload_n 2 rfl rfl ?_
      refine vi_sipush 3 rfl (by decide) ?_
      refine vi_icmp_ge 4 rfl (by omega) (by omega) (fun c_6 => ?_) (fun c_6 => ?_)
      · refine vi_bipush 18 rfl (by decide) ?_
        exact vi_ireturn 19 rfl rfl rfl (Nat.zero_le _) (Nat.zero_le _) (wb_e (hend (by omega)) hQ)
      · have hkx1 := hkx (by omega)
        refine vi_aload_n 5 rfl rfl ?_
        refine vi_get 6 rfl f_X12_36 hrf' rfl rfl ?_
        refine vi_iload_n 7 rfl rfl ?_
        refine vi_zald 8 rfl h102 (by omega) ?_
        refine vi_if_eq 9 rfl (by omega) (fun c_15 => ?_) (fun c_15 => by exfalso; omega)
        refine vi_iinc 16 rfl rfl rfl ?_
        refine vi_goto 17 rfl ?_
        exact vi_lc (ih (x + 1) (by omega) (by omega) (by omega) (nx (by rw [eft]; rfl))) ⟨rfl, rfl, trivial⟩
  refine vi_iconst 0 rfl ?_
  refine vi_istore_n 1 rfl rfl ?_
  exact vi_lc (lp 0 (by omega) (by omega) (fun y y1 y2 => by omega)) ⟨rfl, rfl, trivial⟩
theorem sp_X12_near {h nb nf r : Int} (hra : wb_Ra w c s sg rs im ik) (hrr : wb_RR w n c s sd sf cnt ru (wb_KK rs ru)) (hR : wb_BR n c s sd sf) (hru : wb_RuO rs ru) (hh : -2147483648 ≤ h ∧ h ≤ 2147483647) (hD : (¬ (0 ≤ h ∧ h ≤ 1) ∧ r = -2) ∨ ((0 ≤ h ∧ h ≤ 1) ∧ wb_nr n c s sd sf (wb_KK rs ru) nb nf ∧ r = if nf < 0 then -5 else if h = 0 then nb else nf)) (hQ : ∀ (w' : wb_W), wb_Ra w' c s sg rs im ik → wb_RR w' n c s sd sf cnt ru (wb_KK rs ru) → (∀ k, (k < 96 ∨ 108 ≤ k) → w' k = w k) → Q (some (.int (wb_i r))) N w') : wb_M G M_X12_near [.ref 96, .int (wb_i h)] N w Q := by
  unfold wb_M
  obtain ⟨ld0, tt0, tr0, L0, H0, fi0, ch0, hrf, -⟩ := hrr.op
  unfold wb_Rf at hrf
  have tl : (0 ≤ h ∧ h ≤ 1) → wb_V G M_X12_near 12 [(0, .ref 96), (1, .int (wb_i h))] [] N w 0 0 Q := by
    intro gh
    obtain ⟨-, hnr, hrv⟩ := hD.resolve_left (fun q => q.1 gh)
    refine vi_aload_n 7 rfl rfl ?_
    refine vi_V0 8 ok_X12_lay rfl c_X12_160 hrf rfl rfl ?_
    refine sp_X12_lay hra hrr hR hru (fun w1 hra1 hrl1 ef1 => ?_)
    obtain ⟨tt, tr, L, H, ch, ag, kp, ft, me, op, hrf1, h101, h102, h103, h104, h105, hag, hkp, hft, htt, htr⟩ := hrl1
    obtain ⟨fi, hfi⟩ : ∃ fi : Int, fi = wb_ct (wb_ft n c s sd sf (wb_KK rs ru) 0 0) 15625 := ⟨_, rfl⟩
    rw [← hfi] at hrf1
    have h97 := hra1.1
    have h98 := hra1.2.1
    -- the end
    have tl2 : ∀ (fo at_ : Int) (w2 : wb_W) (m2 L2 H2 : Int) (ag2 : Int → Int), ((fo = -6 ∧ ∀ j, 0 ≤ j → j < 100 → wb_nf n c s sd sf (wb_KK rs ru) j 0 < 0) ∨ (0 ≤ fo ∧ (0 ≤ at_ ∧ at_ < 100) ∧ fo = wb_nf n c s sd sf (wb_KK rs ru) at_ 0 ∧ ∀ j, 0 ≤ j → j < at_ → wb_nf n c s sd sf (wb_KK rs ru) j 0 < 0)) → (fo ≤ 15625 ∧ -6 ≤ fo) → wb_Rf w2 n sd sf cnt ru 1 m2 0 ((-6)) tt tr L2 H2 fi ch → w2 101 = aZ 1875 ag2 → (∀ k, k ≠ 96 → k ≠ 101 → w2 k = w1 k) → wb_V G M_X12_near 61 [(0, .ref 96), (1, .int (wb_i h)), (2, .int (wb_i fo)), (3, .int (wb_i at_))] [] N w2 0 0 Q := by
      intro fo at_ w2 m2 L2 H2 ag2 hfo hfr hrf2 h1012 ef2
      have hrf2' := hrf2
      unfold wb_Rf at hrf2'
      have hans : (fo < 0 → r = -5) ∧ (0 ≤ fo → h = 0 → r = at_) ∧ (0 ≤ fo → h ≠ 0 → r = fo) := by
        rcases hfo with ⟨a, b⟩ | ⟨a, b, d, e⟩
        · rcases hnr with ⟨p1, p2⟩ | ⟨p1, p2, p3, p4⟩
          · rw [if_pos (by omega)] at hrv; exact ⟨fun _ => hrv, fun q => by omega, fun q => by omega⟩
          · have := b nb p1.1 (by omega); omega
        · rcases hnr with ⟨p1, p2⟩ | ⟨p1, p2, p3, p4⟩
          · have := p2 at_ b.1 (by omega); omega
          · have hna : nb = at_ := by
              rcases (show nb < at_ ∨ nb = at_ ∨ at_ < nb by omega) with q | q | q
              · have := e nb p1.1 q; omega
              · exact q
              · have := p4 at_ b.1 q; omega
            subst hna
            rw [if_neg (by omega)] at hrv
            refine ⟨fun q => by omega, fun _ q => by rw [if_pos q] at hrv; exact hrv, fun _ q => by rw [if_neg q] at hrv; rw [hrv, p2, d]⟩
      refine vi_aload_n 33 rfl rfl ?_
      refine vi_iconst 34 rfl ?_
      refine vi_put 35 rfl f_X12_101 hrf2' rfl rfl rfl rfl ?_
      refine vi_aload_n 36 rfl rfl ?_
      refine vi_V0 37 ok_X12_layThings rfl c_X12_142 wb_ups rfl rfl ?_
      refine sp_X12_layThings (show wb_Rf _ n sd sf cnt ru 1 0 0 (-6) tt tr L2 H2 fi ch from wb_ups) ((wb_upn (by omega)).trans ((ef2 _ (by omega) (by omega)).trans h97)) ((wb_upn (by omega)).trans ((ef2 _ (by omega) (by omega)).trans h98)) ((wb_upn (by omega)).trans h1012) hR (by omega) (by omega) htt htr (fun w3 ag3 L3 H3 hag3 hrf3 h1013 hf3 => ?_)
      have ef3 : ∀ k, k ≠ 96 → k ≠ 101 → w3 k = w1 k := fun k k1 k2 => by rw [hf3 k k1 k2, wb_upn k1, ef2 k k1 k2]
      have fin := hQ w3 (hra1.fr (fun k hk => ef3 k (by omega) (by omega))) (Or.inr ⟨tt, tr, L3, H3, ch, ag3, kp, ft, me, op, by rw [← hfi]; exact hrf3, h1013, (ef3 _ (by omega) (by omega)).trans h102, (ef3 _ (by omega) (by omega)).trans h103, (ef3 _ (by omega) (by omega)).trans h104, (ef3 _ (by omega) (by omega)).trans h105, hag3, hkp, hft, htt, htr⟩) (fun k hk => (ef3 k (by omega) (by omega)).trans (ef1 k hk))
      refine vi_iload_n 38 rfl rfl ?_
      refine vi_if_ge 39 rfl (by omega) (fun c_71 => ?_) (fun c_71 => ?_)
      · refine vi_iload_n 42 rfl rfl ?_
        refine vi_if_ne 43 rfl (by omega) (fun c_80 => ?_) (fun c_80 => ?_)
        · refine vi_iload_n 46 rfl rfl ?_
          exact vi_ireturn 47 rfl rfl rfl (Nat.zero_le _) (Nat.zero_le _) (by first | exact wb_e (hans.1 (by omega)).symm fin | exact wb_e (hans.2.1 (by omega) (by omega)).symm fin | exact wb_e (hans.2.2 (by omega) (by omega)).symm fin)
        · refine vi_iload_n 44 rfl rfl ?_
          refine vi_goto 45 rfl ?_
          exact vi_ireturn 47 rfl rfl rfl (Nat.zero_le _) (Nat.zero_le _) (by first | exact wb_e (hans.1 (by omega)).symm fin | exact wb_e (hans.2.1 (by omega) (by omega)).symm fin | exact wb_e (hans.2.2 (by omega) (by omega)).symm fin)
      · refine vi_bipush 40 rfl (by decide) ?_
        refine vi_goto 41 rfl ?_
        exact vi_ireturn 47 rfl rfl rfl (Nat.zero_le _) (Nat.zero_le _) (by first | exact wb_e (hans.1 (by omega)).symm fin | exact wb_e (hans.2.1 (by omega) (by omega)).symm fin | exact wb_e (hans.2.2 (by omega) (by omega)).symm fin)
    have lp : ∀ g, g ≤ 100 → ∀ (fo at_ : Int) (w2 : wb_W) (m2 L2 H2 : Int) (ag2 : Int → Int), 0 ≤ g → ((fo = -6 ∧ ∀ j, 0 ≤ j → j < g → wb_nf n c s sd sf (wb_KK rs ru) j 0 < 0) ∨ (0 ≤ fo ∧ (0 ≤ at_ ∧ at_ < 100) ∧ fo = wb_nf n c s sd sf (wb_KK rs ru) at_ 0 ∧ ∀ j, 0 ≤ j → j < at_ → wb_nf n c s sd sf (wb_KK rs ru) j 0 < 0)) → (fo ≤ 15625 ∧ -6 ≤ fo) → wb_Rf w2 n sd sf cnt ru 1 m2 0 ((-6)) tt tr L2 H2 fi ch → w2 101 = aZ 1875 ag2 → (∀ k, k ≠ 96 → k ≠ 101 → w2 k = w1 k) → wb_V G M_X12_near 26 [(0, .ref 96), (1, .int (wb_i h)), (2, .int (wb_i fo)), (3, .int (wb_i at_)), (4, .int (wb_i g))] [] N w2 0 0 Q := by
      refine wb_up 100 _ ?_
      intro g ih hg fo at_ w2 m2 L2 H2 ag2 hg0 hfo hfr hrf2 h1012 ef2
      have hrf2' := hrf2
      unfold wb_Rf at hrf2'
      have hnr2 := wb_nf_rg (n := n) (c := c) (s := s) (sd := sd) (sf := sf) (K := wb_KK rs ru) (g := g) (z := 0)
      have em : wb_m6 (wb_nf n c s sd sf (wb_KK rs ru) g 0) = if wb_nf n c s sd sf (wb_KK rs ru) g 0 < 0 then -6 else wb_nf n c s sd sf (wb_KK rs ru) g 0 := rfl
      refine vi_iload 16 rfl rfl ?_
      refine vi_bipush 17 rfl (by decide) ?_
      refine vi_icmp_ge 18 rfl (by omega) (by omega) (fun c_30 => ?_) (fun c_30 => ?_)
      · first | exact vi_lc (tl2 fo at_ w2 m2 L2 H2 ag2 (by rcases hfo with ⟨a, b⟩ | ⟨a, b⟩; (exact Or.inl ⟨a, fun j j1 j2 => b j j1 (by omega)⟩); (exact Or.inr ⟨a, b⟩)) hfr hrf2 h1012 ef2) ⟨rfl, rfl, rfl, rfl, trivial⟩ | exact vi_lc (tl2 fo at_ w2 m2 L2 H2 ag2 (by rcases hfo with ⟨a, b⟩ | ⟨a, b⟩; (exfalso; omega); (exact Or.inr ⟨a, b⟩)) hfr hrf2 h1012 ef2) ⟨rfl, rfl, rfl, rfl, trivial⟩
      · refine vi_iload_n 19 rfl rfl ?_
        refine vi_if_ge 20 rfl (by omega) (fun c_34 => ?_) (fun c_34 => ?_)
        · first | exact vi_lc (tl2 fo at_ w2 m2 L2 H2 ag2 (by rcases hfo with ⟨a, b⟩ | ⟨a, b⟩; (exact Or.inl ⟨a, fun j j1 j2 => b j j1 (by omega)⟩); (exact Or.inr ⟨a, b⟩)) hfr hrf2 h1012 ef2) ⟨rfl, rfl, rfl, rfl, trivial⟩ | exact vi_lc (tl2 fo at_ w2 m2 L2 H2 ag2 (by rcases hfo with ⟨a, b⟩ | ⟨a, b⟩; (exfalso; omega); (exact Or.inr ⟨a, b⟩)) hfr hrf2 h1012 ef2) ⟨rfl, rfl, rfl, rfl, trivial⟩
        · have hno : ∀ j, 0 ≤ j → j < g → wb_nf n c s sd sf (wb_KK rs ru) j 0 < 0 := by (rcases hfo with ⟨a, b⟩ | ⟨a, b⟩; (exact b); (exfalso; omega))
          refine vi_aload_n 21 rfl rfl ?_
          refine vi_iload 22 rfl rfl ?_
          refine vi_put 23 rfl f_X12_101 hrf2' rfl rfl rfl rfl ?_
          refine vi_aload_n 24 rfl rfl ?_
          refine vi_V0 25 ok_X12_layThings rfl c_X12_142 wb_ups rfl rfl ?_
          refine sp_X12_layThings (show wb_Rf _ n sd sf cnt ru 1 g 0 (-6) tt tr L2 H2 fi ch from wb_ups) ((wb_upn (by omega)).trans ((ef2 _ (by omega) (by omega)).trans h97)) ((wb_upn (by omega)).trans ((ef2 _ (by omega) (by omega)).trans h98)) ((wb_upn (by omega)).trans h1012) hR (by omega) (by omega) htt htr (fun w3 ag3 L3 H3 hag3 hrf3 h1013 hf3 => ?_)
          have ef3 : ∀ k, k ≠ 96 → k ≠ 101 → w3 k = w1 k := fun k k1 k2 => by rw [hf3 k k1 k2, wb_upn k1, ef2 k k1 k2]
          have hrf3' := hrf3
          unfold wb_Rf at hrf3'
          refine vi_aload_n 26 rfl rfl ?_
          refine vi_V0 27 ok_X12_firstNow rfl c_X12_166 hrf3' rfl rfl ?_
          refine sp_X12_firstNow hrf3 h1013 hag3 ((ef3 _ (by omega) (by omega)).trans h102) hkp hR ?_
          refine vi_istore_n 28 rfl rfl ?_
          refine vi_iload 29 rfl rfl ?_
          refine vi_istore_n 30 rfl rfl ?_
          refine vi_iinc 31 rfl rfl rfl ?_
          refine vi_goto 32 rfl ?_
          refine vi_lc (ih (g + 1) (by omega) (by omega) _ g w3 g L3 H3 ag3 (by omega) ?_ (by rw [em]; split <;> omega) hrf3 h1013 ef3) ⟨rfl, rfl, rfl, rfl, rfl, trivial⟩
          rw [em]
          split
          · exact Or.inl ⟨rfl, fun j j1 j2 => by (by_cases e : j = g; (rw [e]; omega); exact hno j j1 (by omega))⟩
          · exact Or.inr ⟨by omega, by omega, rfl, hno⟩
    refine vi_pop 9 rfl rfl ?_
    refine vi_bipush 10 rfl (by decide) ?_
    refine vi_istore_n 11 rfl rfl ?_
    refine vi_bipush 12 rfl (by decide) ?_
    refine vi_istore_n 13 rfl rfl ?_
    refine vi_iconst 14 rfl ?_
    refine vi_istore 15 rfl rfl ?_
    exact vi_lc (lp 0 (by omega) (-6) (-6) w1 0 L H ag (by omega) (Or.inl ⟨rfl, fun j j1 j2 => by omega⟩) (by omega) hrf1 h101 (fun _ _ _ => rfl)) ⟨rfl, rfl, rfl, rfl, rfl, trivial⟩
  have hf0 : Q (some (.int (wb_i r))) N w := hQ w hra hrr (fun _ _ => rfl)
  refine vi_iload_n 0 rfl rfl ?_
  refine vi_iconst 1 rfl ?_
  refine vi_iconst 2 rfl ?_
  refine vi_S3 3 ok_X12_in rfl c_X12_56 rfl ?_
  refine sp_X12_in (by omega) (by omega) (by omega) (fun b_3 => ?_) (fun b_3 => ?_)
  · refine vi_if_ne 4 rfl (by omega) (fun _ => ?_) (fun c => absurd c (by decide))
    exact vi_lc (tl (by omega)) ⟨rfl, rfl, trivial⟩
  · refine vi_if_ne 4 rfl (by omega) (fun c => absurd c (by decide)) (fun _ => ?_)
    refine vi_bipush 5 rfl (by decide) ?_
    exact vi_ireturn 6 rfl rfl rfl (Nat.zero_le _) (Nat.zero_le _) (wb_e (by rcases hD with q | q; (exact q.2.symm); (exact absurd q.1 (by omega))) hf0)
theorem sp_X12_doubt {h nb nf r : Int} (hra : wb_Ra w c s sg rs im ik) (hrr : wb_RR w n c s sd sf cnt ru (wb_KK rs ru)) (hR : wb_BR n c s sd sf) (hru : wb_RuO rs ru) (hh : -2147483648 ≤ h ∧ h ≤ 2147483647) (hD : (¬ (0 ≤ h ∧ h ≤ 1) ∧ r = -2) ∨ ((0 ≤ h ∧ h ≤ 1) ∧ wb_dn n c s sd sf (wb_KK rs ru) nb nf ∧ r = if nf < 0 then -5 else if h = 0 then nb else nf)) (hQ : ∀ (w' : wb_W), wb_Ra w' c s sg rs im ik → wb_RR w' n c s sd sf cnt ru (wb_KK rs ru) → (∀ k, (k < 96 ∨ 108 ≤ k) → w' k = w k) → Q (some (.int (wb_i r))) N w') : wb_M G M_X12_doubt [.ref 96, .int (wb_i h)] N w Q := by
  unfold wb_M
  obtain ⟨ld0, tt0, tr0, L0, H0, fi0, ch0, hrf, -⟩ := hrr.op
  unfold wb_Rf at hrf
  have hn := hR.1
  have hp2 := wb_p2_rg hn
  have tl : (0 ≤ h ∧ h ≤ 1) → wb_V G M_X12_doubt 12 [(0, .ref 96), (1, .int (wb_i h))] [] N w 0 0 Q := by
    intro gh
    obtain ⟨-, hnr, hrv⟩ := hD.resolve_left (fun q => q.1 gh)
    refine vi_aload_n 7 rfl rfl ?_
    refine vi_V0 8 ok_X12_lay rfl c_X12_160 hrf rfl rfl ?_
    refine sp_X12_lay hra hrr hR hru (fun w1 hra1 hrl1 ef1 => ?_)
    obtain ⟨tt, tr, L, H, ch, ag, kp, ft, me, op, hrf1, h101, h102, h103, h104, h105, hag, hkp, hft, htt, htr⟩ := hrl1
    obtain ⟨fi, hfi⟩ : ∃ fi : Int, fi = wb_ct (wb_ft n c s sd sf (wb_KK rs ru) 0 0) 15625 := ⟨_, rfl⟩
    rw [← hfi] at hrf1
    have h97 := hra1.1
    have h98 := hra1.2.1
    -- the end
    have tl2 : ∀ (fo at_ : Int) (w2 : wb_W) (m2 L2 H2 : Int) (ag2 : Int → Int), ((fo = -6 ∧ ∀ z, 0 ≤ z → z < wb_p2 n → wb_pb z ≤ 2 → wb_nf n c s sd sf (wb_KK rs ru) 0 z < 0) ∨ (0 ≤ fo ∧ (0 ≤ at_ ∧ at_ < wb_p2 n) ∧ wb_pb at_ ≤ 2 ∧ fo = wb_nf n c s sd sf (wb_KK rs ru) 0 at_ ∧ ∀ z, 0 ≤ z → z < wb_p2 n → (wb_pb z < wb_pb at_ ∨ (wb_pb z = wb_pb at_ ∧ z < at_)) → wb_nf n c s sd sf (wb_KK rs ru) 0 z < 0)) → (fo ≤ 15625 ∧ -6 ≤ fo) → wb_Rf w2 n sd sf cnt ru 1 0 m2 ((-6)) tt tr L2 H2 fi ch → w2 101 = aZ 1875 ag2 → (∀ k, k ≠ 96 → k ≠ 101 → w2 k = w1 k) → wb_V G M_X12_doubt 94 [(0, .ref 96), (1, .int (wb_i h)), (2, .int (wb_i fo)), (3, .int (wb_i at_))] [] N w2 0 0 Q := by
      intro fo at_ w2 m2 L2 H2 ag2 hfo hfr hrf2 h1012 ef2
      have hrf2' := hrf2
      unfold wb_Rf at hrf2'
      have hans : (fo < 0 → r = -5) ∧ (0 ≤ fo → h = 0 → r = at_) ∧ (0 ≤ fo → h ≠ 0 → r = fo) := by
        rcases hfo with ⟨a, b⟩ | ⟨a, b, b2, d, e⟩
        · rcases hnr with ⟨p1, p2⟩ | ⟨p1, p1b, p2, p3, p4⟩
          · rw [if_pos (by omega)] at hrv; exact ⟨fun _ => hrv, fun q => by omega, fun q => by omega⟩
          · have := b nb p1.1 p1.2 p1b; omega
        · rcases hnr with ⟨p1, p2⟩ | ⟨p1, p1b, p2, p3, p4⟩
          · have := p2 at_ b.1 b.2 b2; omega
          · have hna : nb = at_ := by
              refine Classical.byContradiction fun q => ?_
              rcases (show (wb_pb nb < wb_pb at_ ∨ (wb_pb nb = wb_pb at_ ∧ nb < at_)) ∨ (wb_pb at_ < wb_pb nb ∨ (wb_pb at_ = wb_pb nb ∧ at_ < nb)) by omega) with z | z
              · have := e nb p1.1 p1.2 z; omega
              · have := p4 at_ b.1 b.2 z; omega
            subst hna
            rw [if_neg (by omega)] at hrv
            refine ⟨fun q => by omega, fun _ q => by rw [if_pos q] at hrv; exact hrv, fun _ q => by rw [if_neg q] at hrv; rw [hrv, p2, d]⟩
      refine vi_aload_n 49 rfl rfl ?_
      refine vi_iconst 50 rfl ?_
      refine vi_put 51 rfl f_X12_110 hrf2' rfl rfl rfl rfl ?_
      refine vi_aload_n 52 rfl rfl ?_
      refine vi_V0 53 ok_X12_layThings rfl c_X12_142 wb_ups rfl rfl ?_
      refine sp_X12_layThings (show wb_Rf _ n sd sf cnt ru 1 0 0 (-6) tt tr L2 H2 fi ch from wb_ups) ((wb_upn (by omega)).trans ((ef2 _ (by omega) (by omega)).trans h97)) ((wb_upn (by omega)).trans ((ef2 _ (by omega) (by omega)).trans h98)) ((wb_upn (by omega)).trans h1012) hR (by omega) (by omega) htt htr (fun w3 ag3 L3 H3 hag3 hrf3 h1013 hf3 => ?_)
      have ef3 : ∀ k, k ≠ 96 → k ≠ 101 → w3 k = w1 k := fun k k1 k2 => by rw [hf3 k k1 k2, wb_upn k1, ef2 k k1 k2]
      have fin := hQ w3 (hra1.fr (fun k hk => ef3 k (by omega) (by omega))) (Or.inr ⟨tt, tr, L3, H3, ch, ag3, kp, ft, me, op, by rw [← hfi]; exact hrf3, h1013, (ef3 _ (by omega) (by omega)).trans h102, (ef3 _ (by omega) (by omega)).trans h103, (ef3 _ (by omega) (by omega)).trans h104, (ef3 _ (by omega) (by omega)).trans h105, hag3, hkp, hft, htt, htr⟩) (fun k hk => (ef3 k (by omega) (by omega)).trans (ef1 k hk))
      refine vi_iload_n 54 rfl rfl ?_
      refine vi_if_ge 55 rfl (by omega) (fun c_104 => ?_) (fun c_104 => ?_)
      · refine vi_iload_n 58 rfl rfl ?_
        refine vi_if_ne 59 rfl (by omega) (fun c_113 => ?_) (fun c_113 => ?_)
        · refine vi_iload_n 62 rfl rfl ?_
          exact vi_ireturn 63 rfl rfl rfl (Nat.zero_le _) (Nat.zero_le _) (by first | exact wb_e (hans.1 (by omega)).symm fin | exact wb_e (hans.2.1 (by omega) (by omega)).symm fin | exact wb_e (hans.2.2 (by omega) (by omega)).symm fin)
        · refine vi_iload_n 60 rfl rfl ?_
          refine vi_goto 61 rfl ?_
          exact vi_ireturn 63 rfl rfl rfl (Nat.zero_le _) (Nat.zero_le _) (by first | exact wb_e (hans.1 (by omega)).symm fin | exact wb_e (hans.2.1 (by omega) (by omega)).symm fin | exact wb_e (hans.2.2 (by omega) (by omega)).symm fin)
      · refine vi_bipush 56 rfl (by decide) ?_
        refine vi_goto 57 rfl ?_
        exact vi_ireturn 63 rfl rfl rfl (Nat.zero_le _) (Nat.zero_le _) (by first | exact wb_e (hans.1 (by omega)).symm fin | exact wb_e (hans.2.1 (by omega) (by omega)).symm fin | exact wb_e (hans.2.2 (by omega) (by omega)).symm fin)
    have lp : ∀ g, g ≤ 3 → ∀ (fo at_ : Int) (w2 : wb_W) (m2 L2 H2 : Int) (ag2 : Int → Int), 0 ≤ g → ((fo = -6 ∧ ∀ z, 0 ≤ z → z < wb_p2 n → wb_pb z < g → wb_nf n c s sd sf (wb_KK rs ru) 0 z < 0) ∨ (0 ≤ fo ∧ (0 ≤ at_ ∧ at_ < wb_p2 n) ∧ wb_pb at_ ≤ 2 ∧ fo = wb_nf n c s sd sf (wb_KK rs ru) 0 at_ ∧ ∀ z, 0 ≤ z → z < wb_p2 n → (wb_pb z < wb_pb at_ ∨ (wb_pb z = wb_pb at_ ∧ z < at_)) → wb_nf n c s sd sf (wb_KK rs ru) 0 z < 0)) → (fo ≤ 15625 ∧ -6 ≤ fo) → wb_Rf w2 n sd sf cnt ru 1 0 m2 ((-6)) tt tr L2 H2 fi ch → w2 101 = aZ 1875 ag2 → (∀ k, k ≠ 96 → k ≠ 101 → w2 k = w1 k) → wb_V G M_X12_doubt 26 [(0, .ref 96), (1, .int (wb_i h)), (2, .int (wb_i fo)), (3, .int (wb_i at_)), (4, .int (wb_i g))] [] N w2 0 0 Q := by
      refine wb_up 3 _ ?_
      intro g ih hg fo at_ w2 m2 L2 H2 ag2 hg0 hfo hfr hrf2 h1012 ef2
      have lq : g < 3 → ∀ y, y ≤ wb_p2 n → ∀ (fo at_ : Int) (w2 : wb_W) (m2 L2 H2 : Int) (ag2 : Int → Int), 0 ≤ y → ((fo = -6 ∧ ∀ z, 0 ≤ z → z < wb_p2 n → (wb_pb z < g ∨ (wb_pb z = g ∧ z < y)) → wb_nf n c s sd sf (wb_KK rs ru) 0 z < 0) ∨ (0 ≤ fo ∧ (0 ≤ at_ ∧ at_ < wb_p2 n) ∧ wb_pb at_ ≤ 2 ∧ fo = wb_nf n c s sd sf (wb_KK rs ru) 0 at_ ∧ ∀ z, 0 ≤ z → z < wb_p2 n → (wb_pb z < wb_pb at_ ∨ (wb_pb z = wb_pb at_ ∧ z < at_)) → wb_nf n c s sd sf (wb_KK rs ru) 0 z < 0)) → (fo ≤ 15625 ∧ -6 ≤ fo) → wb_Rf w2 n sd sf cnt ru 1 0 m2 ((-6)) tt tr L2 H2 fi ch → w2 101 = aZ 1875 ag2 → (∀ k, k ≠ 96 → k ≠ 101 → w2 k = w1 k) → wb_V G M_X12_doubt 39 [(0, .ref 96), (1, .int (wb_i h)), (2, .int (wb_i fo)), (3, .int (wb_i at_)), (4, .int (wb_i g)), (5, .int (wb_i y))] [] N w2 0 0 Q := by
        intro hg3
        refine wb_up (wb_p2 n) _ ?_
        intro y jh hy fo at_ w2 m2 L2 H2 ag2 hy0 hfo hfr hrf2 h1012 ef2
        have hrf2' := hrf2
        unfold wb_Rf at hrf2'
        have hnr2 := wb_nf_rg (n := n) (c := c) (s := s) (sd := sd) (sf := sf) (K := wb_KK rs ru) (g := 0) (z := y)
        have em : wb_m6 (wb_nf n c s sd sf (wb_KK rs ru) 0 y) = if wb_nf n c s sd sf (wb_KK rs ru) 0 y < 0 then -6 else wb_nf n c s sd sf (wb_KK rs ru) 0 y := rfl
        have hpb := fun q : y < 256 => (wb_pb_z ⟨hy0, q⟩).1
        have hne : 0 ≤ fo → (0 ≤ fo ∧ (0 ≤ at_ ∧ at_ < wb_p2 n) ∧ wb_pb at_ ≤ 2 ∧ fo = wb_nf n c s sd sf (wb_KK rs ru) 0 at_ ∧ ∀ z, 0 ≤ z → z < wb_p2 n → (wb_pb z < wb_pb at_ ∨ (wb_pb z = wb_pb at_ ∧ z < at_)) → wb_nf n c s sd sf (wb_KK rs ru) 0 z < 0) := fun q => hfo.resolve_left (fun z => by have := z.1; omega)
        have hno : fo < 0 → fo = -6 ∧ ∀ z, 0 ≤ z → z < wb_p2 n → (wb_pb z < g ∨ (wb_pb z = g ∧ z < y)) → wb_nf n c s sd sf (wb_KK rs ru) 0 z < 0 := fun q => hfo.resolve_right (fun z => by have := z.1; omega)
        clear hfo
        refine vi_iload 23 rfl rfl ?_
        refine vi_iconst 24 rfl ?_
        refine vi_aload_n 25 rfl rfl ?_
        refine vi_get 26 rfl f_X12_60 hrf2' rfl rfl ?_
        refine vi_ishl 27 rfl ?_
        rw [wb_shl1 (by omega)]
        refine vi_icmp_ge 28 rfl (by omega) (by omega) (fun c_47 => ?_) (fun c_47 => ?_)
        · refine vi_iinc 47 rfl rfl rfl ?_
          refine vi_goto 48 rfl ?_
          first | exact vi_lc (ih (g + 1) (by omega) (by omega) fo at_ w2 m2 L2 H2 ag2 (by omega) (Or.inr (hne (by omega))) hfr hrf2 h1012 ef2) ⟨rfl, rfl, rfl, rfl, rfl, trivial⟩ | (by_cases hf0 : 0 ≤ fo; (exact vi_lc (ih (g + 1) (by omega) (by omega) fo at_ w2 m2 L2 H2 ag2 (by omega) (Or.inr (hne hf0)) hfr hrf2 h1012 ef2) ⟨rfl, rfl, rfl, rfl, rfl, trivial⟩); (exact vi_lc (ih (g + 1) (by omega) (by omega) fo at_ w2 m2 L2 H2 ag2 (by omega) (Or.inl ⟨(hno (by omega)).1, fun z z1 z2 z3 => (hno (by omega)).2 z z1 z2 (by omega)⟩) hfr hrf2 h1012 ef2) ⟨rfl, rfl, rfl, rfl, rfl, trivial⟩))
        · refine vi_iload_n 29 rfl rfl ?_
          refine vi_if_ge 30 rfl (by omega) (fun c_51 => ?_) (fun c_51 => ?_)
          · refine vi_iinc 47 rfl rfl rfl ?_
            refine vi_goto 48 rfl ?_
            first | exact vi_lc (ih (g + 1) (by omega) (by omega) fo at_ w2 m2 L2 H2 ag2 (by omega) (Or.inr (hne (by omega))) hfr hrf2 h1012 ef2) ⟨rfl, rfl, rfl, rfl, rfl, trivial⟩ | (by_cases hf0 : 0 ≤ fo; (exact vi_lc (ih (g + 1) (by omega) (by omega) fo at_ w2 m2 L2 H2 ag2 (by omega) (Or.inr (hne hf0)) hfr hrf2 h1012 ef2) ⟨rfl, rfl, rfl, rfl, rfl, trivial⟩); (exact vi_lc (ih (g + 1) (by omega) (by omega) fo at_ w2 m2 L2 H2 ag2 (by omega) (Or.inl ⟨(hno (by omega)).1, fun z z1 z2 z3 => (hno (by omega)).2 z z1 z2 (by omega)⟩) hfr hrf2 h1012 ef2) ⟨rfl, rfl, rfl, rfl, rfl, trivial⟩))
          · obtain ⟨hf6, hno2⟩ := hno (by omega)
            have hpb1 := hpb (by omega)
            refine vi_iload 31 rfl rfl ?_
            refine vi_S1 32 ok_X12_bits rfl c_X12_169 rfl ?_
            refine sp_X12_bits (by omega) ?_
            refine vi_iload 33 rfl rfl ?_
            refine vi_icmp_ne 34 rfl (by omega) (by omega) (fun c_61 => ?_) (fun c_61 => ?_)
            · refine vi_iinc 45 rfl rfl rfl ?_
              refine vi_goto 46 rfl ?_
              first | exact vi_lc (jh (y + 1) (by omega) (by omega) fo at_ w2 m2 L2 H2 ag2 (by omega) (Or.inl ⟨hf6, fun z z1 z2 z3 => hno2 z z1 z2 (by (by_cases e : z = y; (subst e; omega); omega))⟩) hfr hrf2 h1012 ef2) ⟨rfl, rfl, rfl, rfl, rfl, rfl, trivial⟩ | (refine vi_lc (jh (y + 1) (by omega) (by omega) _ y w3 y L3 H3 ag3 (by omega) ?_ (by rw [em]; split <;> omega) hrf3 h1013 ef3) ⟨rfl, rfl, rfl, rfl, rfl, rfl, trivial⟩; rw [em]; split; (exact Or.inl ⟨rfl, fun z z1 z2 z3 => by (by_cases e : z = y; (subst e; omega); exact hno2 z z1 z2 (by omega))⟩); (exact Or.inr ⟨by omega, by omega, by omega, rfl, fun z z1 z2 z3 => hno2 z z1 z2 (by omega)⟩))
            · refine vi_aload_n 35 rfl rfl ?_
              refine vi_iload 36 rfl rfl ?_
              refine vi_put 37 rfl f_X12_110 hrf2' rfl rfl rfl rfl ?_
              refine vi_aload_n 38 rfl rfl ?_
              refine vi_V0 39 ok_X12_layThings rfl c_X12_142 wb_ups rfl rfl ?_
              refine sp_X12_layThings (show wb_Rf _ n sd sf cnt ru 1 0 y (-6) tt tr L2 H2 fi ch from wb_ups) ((wb_upn (by omega)).trans ((ef2 _ (by omega) (by omega)).trans h97)) ((wb_upn (by omega)).trans ((ef2 _ (by omega) (by omega)).trans h98)) ((wb_upn (by omega)).trans h1012) hR (by omega) (by omega) htt htr (fun w3 ag3 L3 H3 hag3 hrf3 h1013 hf3 => ?_)
              have ef3 : ∀ k, k ≠ 96 → k ≠ 101 → w3 k = w1 k := fun k k1 k2 => by rw [hf3 k k1 k2, wb_upn k1, ef2 k k1 k2]
              have hrf3' := hrf3
              unfold wb_Rf at hrf3'
              refine vi_aload_n 40 rfl rfl ?_
              refine vi_V0 41 ok_X12_firstNow rfl c_X12_166 hrf3' rfl rfl ?_
              refine sp_X12_firstNow hrf3 h1013 hag3 ((ef3 _ (by omega) (by omega)).trans h102) hkp hR ?_
              refine vi_istore_n 42 rfl rfl ?_
              refine vi_iload 43 rfl rfl ?_
              refine vi_istore_n 44 rfl rfl ?_
              refine vi_iinc 45 rfl rfl rfl ?_
              refine vi_goto 46 rfl ?_
              first | exact vi_lc (jh (y + 1) (by omega) (by omega) fo at_ w2 m2 L2 H2 ag2 (by omega) (Or.inl ⟨hf6, fun z z1 z2 z3 => hno2 z z1 z2 (by (by_cases e : z = y; (subst e; omega); omega))⟩) hfr hrf2 h1012 ef2) ⟨rfl, rfl, rfl, rfl, rfl, rfl, trivial⟩ | (refine vi_lc (jh (y + 1) (by omega) (by omega) _ y w3 y L3 H3 ag3 (by omega) ?_ (by rw [em]; split <;> omega) hrf3 h1013 ef3) ⟨rfl, rfl, rfl, rfl, rfl, rfl, trivial⟩; rw [em]; split; (exact Or.inl ⟨rfl, fun z z1 z2 z3 => by (by_cases e : z = y; (subst e; omega); exact hno2 z z1 z2 (by omega))⟩); (exact Or.inr ⟨by omega, by omega, by omega, rfl, fun z z1 z2 z3 => hno2 z z1 z2 (by omega)⟩))
      refine vi_iload 16 rfl rfl ?_
      refine vi_iconst 17 rfl ?_
      refine vi_icmp_ge 18 rfl (by omega) (by omega) (fun c_29 => ?_) (fun c_29 => ?_)
      · first | exact vi_lc (tl2 fo at_ w2 m2 L2 H2 ag2 (by rcases hfo with ⟨a, b⟩ | ⟨a, b⟩; (exact Or.inl ⟨a, fun z z1 z2 z3 => b z z1 z2 (by omega)⟩); (exact Or.inr ⟨a, b⟩)) hfr hrf2 h1012 ef2) ⟨rfl, rfl, rfl, rfl, trivial⟩ | exact vi_lc (tl2 fo at_ w2 m2 L2 H2 ag2 (by rcases hfo with ⟨a, b⟩ | ⟨a, b⟩; (exfalso; omega); (exact Or.inr ⟨a, b⟩)) hfr hrf2 h1012 ef2) ⟨rfl, rfl, rfl, rfl, trivial⟩
      · refine vi_iload_n 19 rfl rfl ?_
        refine vi_if_ge 20 rfl (by omega) (fun c_33 => ?_) (fun c_33 => ?_)
        · first | exact vi_lc (tl2 fo at_ w2 m2 L2 H2 ag2 (by rcases hfo with ⟨a, b⟩ | ⟨a, b⟩; (exact Or.inl ⟨a, fun z z1 z2 z3 => b z z1 z2 (by omega)⟩); (exact Or.inr ⟨a, b⟩)) hfr hrf2 h1012 ef2) ⟨rfl, rfl, rfl, rfl, trivial⟩ | exact vi_lc (tl2 fo at_ w2 m2 L2 H2 ag2 (by rcases hfo with ⟨a, b⟩ | ⟨a, b⟩; (exfalso; omega); (exact Or.inr ⟨a, b⟩)) hfr hrf2 h1012 ef2) ⟨rfl, rfl, rfl, rfl, trivial⟩
        · refine vi_iconst 21 rfl ?_
          refine vi_istore 22 rfl rfl ?_
          exact vi_lc (lq (by omega) 0 (by omega) fo at_ w2 m2 L2 H2 ag2 (by omega) (by rcases hfo with ⟨a, b⟩ | ⟨a, b⟩; (exact Or.inl ⟨a, fun z z1 z2 z3 => b z z1 z2 (by omega)⟩); (exact Or.inr ⟨a, b⟩)) hfr hrf2 h1012 ef2) ⟨rfl, rfl, rfl, rfl, rfl, rfl, trivial⟩
    refine vi_pop 9 rfl rfl ?_
    refine vi_bipush 10 rfl (by decide) ?_
    refine vi_istore_n 11 rfl rfl ?_
    refine vi_bipush 12 rfl (by decide) ?_
    refine vi_istore_n 13 rfl rfl ?_
    refine vi_iconst 14 rfl ?_
    refine vi_istore 15 rfl rfl ?_
    exact vi_lc (lp 0 (by omega) (-6) (-6) w1 0 L H ag (by omega) (Or.inl ⟨rfl, fun z z1 z2 z3 => by have := (wb_pb_z (z := z) ⟨z1, by omega⟩).1; omega⟩) (by omega) hrf1 h101 (fun _ _ _ => rfl)) ⟨rfl, rfl, rfl, rfl, rfl, trivial⟩
  have hf0 : Q (some (.int (wb_i r))) N w := hQ w hra hrr (fun _ _ => rfl)
  refine vi_iload_n 0 rfl rfl ?_
  refine vi_iconst 1 rfl ?_
  refine vi_iconst 2 rfl ?_
  refine vi_S3 3 ok_X12_in rfl c_X12_56 rfl ?_
  refine sp_X12_in (by omega) (by omega) (by omega) (fun b_3 => ?_) (fun b_3 => ?_)
  · refine vi_if_ne 4 rfl (by omega) (fun _ => ?_) (fun c => absurd c (by decide))
    exact vi_lc (tl (by omega)) ⟨rfl, rfl, trivial⟩
  · refine vi_if_ne 4 rfl (by omega) (fun c => absurd c (by decide)) (fun _ => ?_)
    refine vi_bipush 5 rfl (by decide) ?_
    exact vi_ireturn 6 rfl rfl rfl (Nat.zero_le _) (Nat.zero_le _) (wb_e (by rcases hD with q | q; (exact q.2.symm); (exact absurd q.1 (by omega))) hf0)
end WBS62
