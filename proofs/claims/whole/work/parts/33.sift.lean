/-! ===== courses are strained, charted; what is sifted ===== -/
theorem wb_e2 {N : Nat} {w : wb_W} {Q : Option Value → Nat → wb_W → Prop} {a b : Nat} (h : a = b) (hQ : Q (some (.ref b)) N w) : Q (some (.ref a)) N w := by rw [h]; exact hQ
theorem wb_br_congr {le mo nd le' mo' nd' : Int → Int} {ho lo n : Int} : ∀ k : Nat, (∀ m : Int, n - k ≤ m → m < n → le m = le' m ∧ mo m = mo' m ∧ nd m = nd' m) → wb_br le mo ho lo nd n k = wb_br le' mo' ho lo nd' n k ∧ wb_bo le mo ho lo nd n k = wb_bo le' mo' ho lo nd' n k := by
  intro k
  induction k with
  | zero => intro _; exact ⟨rfl, rfl⟩
  | succ k ih =>
    intro h
    obtain ⟨i1, i2⟩ := ih (fun m h1 h2 => h m (by omega) h2)
    obtain ⟨e1, e2, e3⟩ := h (n - 1 - k) (by omega) (by omega)
    have e : wb_br le mo ho lo nd n (k + 1) = wb_br le' mo' ho lo nd' n (k + 1) := by
      rw [wb_br, wb_br, i1, e1, e2, e3]
    refine ⟨e, ?_⟩
    rw [wb_bo, wb_bo, i2, e]
section WBS33
variable {G : wb_G} {N : Nat} {w : wb_W} {Q : Option Value → Nat → wb_W → Prop}
variable {n : Int} {c s : Int → Int} {sd sf bo tu : Int} {g : Int → Int64} {K : Int → Bool} {hl wt ct mt : Int} {cv mv : Prop}
theorem sp_X10_course {t : Int} (h : wb_Wo w hl wt ct mt) (hhl : -1 ≤ hl ∧ hl ≤ 2) (ht : 0 ≤ t ∧ t < 3) (hQ : Q (some (.ref (wb_cp hl t))) N w) : wb_M G M_X10_course [.ref 29, .int (wb_i t)] N w Q := by
  obtain ⟨h0, h1, -⟩ := h
  unfold wb_M
  refine vi_iload_n 0 rfl rfl ?_
  refine vi_aload_n 1 rfl rfl ?_
  refine vi_get 2 rfl f_X10_42 h0 rfl rfl ?_
  refine vi_icmp_eq 3 rfl (by omega) (by omega) (fun c_5 => ?_) (fun c_5 => ?_)
  · refine vi_aload_n 7 rfl rfl ?_
    refine vi_get 8 rfl f_X10_59 h0 rfl rfl ?_
    refine vi_goto 9 rfl ?_
    exact vi_areturn 14 rfl rfl (Nat.zero_le _) (Nat.zero_le _) (wb_e2 (by unfold wb_cp; first | rw [if_pos (by omega)] | rw [if_neg (by omega)]) hQ)
  · refine vi_iload_n 4 rfl rfl ?_
    refine vi_S1 5 ok_X11_isThing rfl c_X10_63 rfl ?_
    refine sp_X11_isThing (by omega) (fun b_9 => ?_) (fun b_9 => ?_)
    · refine vi_if_ne 6 rfl (by omega) (fun _ => ?_) (fun c => absurd c (by decide))
      refine vi_aload_n 10 rfl rfl ?_
      refine vi_get 11 rfl f_X10_55 h0 rfl rfl ?_
      refine vi_iload_n 12 rfl rfl ?_
      refine vi_aald 13 rfl h1 (Or.inr rfl) (by omega) rfl ?_
      exact vi_areturn 14 rfl rfl (Nat.zero_le _) (Nat.zero_le _) (wb_e2 (by unfold wb_cp; first | rw [if_pos (by omega)] | rw [if_neg (by omega)]) hQ)
    · exfalso
      omega
theorem sp_X10_sift {mb : Nat} {gm : Int → Int64} {wo : Int} (hwo : wb_Wo w hl wt ct mt) (hbk : wb_Bk w 4 n c s sd sf bo tu g) (hR : wb_BR n c s sd sf) (hK : wb_rp g K) (hHL : wb_HL hl n c sd sf) (hmb : wb_Mw w mb gm) (hap : (38 ≤ mb ∧ mb + 2 ≤ 42) ∨ 81 ≤ mb) (hce : ∀ t, 0 ≤ t → t < 3 → wb_Ce w hl n c s sd sf t cv mv) (hmv : mv) (hwi : 0 ≤ wo ∧ wo < 8)
    (hQ : ∀ (w' : wb_W) (g' : Int → Int64), wb_rp g' (fun x => K x && wb_al (fun t => wb_bt wo t || wb_A n c s sd sf 0 0 t x) 3) → wb_Mw w' mb g' → (∀ k, k ≠ mb + 1 → w' k = w k) → Q none N w') : wb_M G M_X10_sift [.ref 29, .ref mb, .int (wb_i wo)] N w Q := by
  unfold wb_M
  have hrg := (hHL.rg hR).1
  have lp : ∀ i, i ≤ 3 → ∀ (w1 : wb_W) (g1 : Int → Int64), 0 ≤ i → wb_rp g1 (fun x => K x && wb_al (fun t => wb_bt wo t || wb_A n c s sd sf 0 0 t x) i.toNat) → wb_Mw w1 mb g1 → (∀ k, k ≠ mb + 1 → w1 k = w k) → wb_V G M_X10_sift 13 [(0, .ref 29), (1, .ref mb), (2, .int (wb_i wo)), (3, .int (wb_i i))] [] N w1 0 0 Q := by
    refine wb_up 3 _ ?_
    intro i ih hi w1 g1 hi0 hrp hm1 ef
    have hwo1 : wb_Wo w1 hl wt ct mt := hwo.fr (fun k hk => ef k (by omega))
    have hsh := fun q : i < 3 => wb_sh1 (d := wo) (m := i) (by omega) (by omega)
    have en : (i + 1).toNat = i.toNat + 1 := by omega
    have ei : ((i.toNat : Nat) : Int) = i := by omega
    refine vi_iload_n 7 rfl rfl ?_
    refine vi_iconst 8 rfl ?_
    refine vi_icmp_ge 9 rfl (by omega) (by omega) (fun c_15 => ?_) (fun c_15 => ?_)
    · exact vi_return 24 rfl rfl (Nat.zero_le _) (Nat.zero_le _) (hQ w1 g1 (by rw [show i.toNat = 3 by omega] at hrp; exact hrp) hm1 ef)
    · refine vi_iload_n 10 rfl rfl ?_
      refine vi_iload_n 11 rfl rfl ?_
      refine vi_ishr 12 rfl ?_
      refine vi_iconst 13 rfl ?_
      refine vi_iand 14 rfl ?_
      rw [hsh (by omega)]
      refine vi_if_ne 15 rfl (by split <;> decide) (fun c_23 => ?_) (fun c_23 => ?_)
      · have hbt : wb_bt wo i = true := by cases hb : wb_bt wo i with | true => rfl | false => (rw [hb] at c_23; exact absurd rfl c_23)
        refine vi_iinc 22 rfl rfl rfl ?_
        refine vi_goto 23 rfl ?_
        first | exact vi_lc (ih (i + 1) (by omega) (by omega) w2 g2 (by omega) (hg2.to (fun x p1 p2 => by rw [hP x p1 p2, en, wb_al, ei, hbt, Bool.false_or, Bool.and_assoc])) hm2 (fun k hk => (hf2 k hk).trans (ef k hk))) ⟨rfl, rfl, rfl, rfl, trivial⟩ | exact vi_lc (ih (i + 1) (by omega) (by omega) w1 g1 (by omega) (hrp.to (fun x p1 p2 => by rw [en, wb_al, ei, hbt, Bool.true_or, Bool.and_true])) hm1 ef) ⟨rfl, rfl, rfl, rfl, trivial⟩
      · have hbt : wb_bt wo i = false := by cases hb : wb_bt wo i with | false => rfl | true => (rw [hb] at c_23; exact absurd c_23 (by decide))
        obtain ⟨⟨nd, ah, on, ⟨f0, f1, k0, -⟩, -⟩, hms⟩ := hce i hi0 (by omega)
        obtain ⟨P, hms2, hP⟩ := hms hmv
        have hcr := wb_cp_rg hl (t := i) (by omega)
        have k0' := (ef _ (by omega)).trans k0
        have hms3 : wb_Ms w1 (wb_cp hl i + 6) 30 i (wb_gu hl sf i) P := hms2.fr (fun k p1 p2 => ef k (by omega))
        have hms4 := hms3
        obtain ⟨q0, q1, m0, -⟩ := hms4
        refine vi_aload_n 16 rfl rfl ?_
        refine vi_iload_n 17 rfl rfl ?_
        refine vi_V1 18 ok_X10_course rfl c_X10_80 hwo1.1 rfl rfl ?_
        refine sp_X10_course ‹_› (by omega) (by omega) ?_
        refine vi_get 19 rfl f_X10_117 k0' rfl rfl ?_
        refine vi_aload_n 20 rfl rfl ?_
        refine vi_V1 21 ok_X4_narrow rfl c_X10_121 m0 rfl rfl ?_
        refine sp_X4_narrow hms3 hm1 hrp (by omega) (by omega) (by have := wb_gu_rm hHL hR (t := i) (by omega); omega) (fun w2 g2 hg2 hm2 hf2 => ?_)
        refine vi_iinc 22 rfl rfl rfl ?_
        refine vi_goto 23 rfl ?_
        first | exact vi_lc (ih (i + 1) (by omega) (by omega) w2 g2 (by omega) (hg2.to (fun x p1 p2 => by rw [hP x p1 p2, en, wb_al, ei, hbt, Bool.false_or, Bool.and_assoc])) hm2 (fun k hk => (hf2 k hk).trans (ef k hk))) ⟨rfl, rfl, rfl, rfl, trivial⟩ | exact vi_lc (ih (i + 1) (by omega) (by omega) w1 g1 (by omega) (hrp.to (fun x p1 p2 => by rw [en, wb_al, ei, hbt, Bool.true_or, Bool.and_true])) hm1 ef) ⟨rfl, rfl, rfl, rfl, trivial⟩
  obtain ⟨b0, b1, b2, b3, b4⟩ := hbk
  refine vi_aload_n 0 rfl rfl ?_
  refine vi_aload_n 1 rfl rfl ?_
  refine vi_get 2 rfl f_X10_46 hwo.1 rfl rfl ?_
  refine vi_get 3 rfl f_X10_107 b0 rfl rfl ?_
  refine vi_V1 4 ok_X5_copy rfl c_X10_110 hmb.1 rfl rfl ?_
  refine sp_X5_copy hmb (b2 := 7) ⟨b3, b4⟩ (fun w2 g2 hg2 hm2 hf2 => ?_)
  refine vi_iconst 5 rfl ?_
  refine vi_istore_n 6 rfl rfl ?_
  exact vi_lc (lp 0 (by omega) w2 g2 (by omega) ((wb_rp_eq hK hg2).to (fun x p1 p2 => by rw [show (0 : Int).toNat = 0 from rfl, wb_al, Bool.and_true])) hm2 hf2) ⟨rfl, rfl, rfl, rfl, trivial⟩
/-- flow and course of one thing: the mesh of what agrees -/
theorem wb_thing {t : Int} {nd : Int → Int} (hR : wb_BR n c s sd sf) (hHL : wb_HL hl n c sd sf) (ht : 0 ≤ t ∧ t < 3) (hnd : ∀ k m : Int, 0 ≤ k → k < wb_cr hl t → 0 ≤ m → m < n → nd (k * 8 + m) = wb_kn c sd sf t k m) : ∀ k m : Int, 0 ≤ k → k < wb_cr hl t → 0 ≤ m → m < n → 0 ≤ nd (k * 8 + m) ∧ nd (k * 8 + m) ≤ 100000 := by
  intro k m k1 k2 m1 m2
  have h1 := wb_gu_rm hHL hR ht
  have h2 := wb_kn_rg (m := m) (t := t) (k := k) hR (by omega)
  rw [hnd k m k1 k2 m1 m2]; omega
theorem sp_X10_strain (hwo : wb_Wo w hl wt ct mt) (hbk : wb_Bk w 4 n c s sd sf bo tu g) (hR : wb_BR n c s sd sf) (hHL : wb_HL hl n c sd sf) (hfs : wb_FS w) (hsh : wb_Sh4 w) (hce : ∀ t, 0 ≤ t → t < 3 → wb_Ce w hl n c s sd sf t cv (mt = wt)) (hr1 : 0 ≤ wt ∧ wt ≤ 1000000) (hr2 : 0 ≤ mt ∧ mt ≤ 1000000)
    (hQ : ∀ (w' : wb_W), wb_Wo w' hl wt ct wt → wb_FS w' → wb_Sh4 w' → (∀ t, 0 ≤ t → t < 3 → wb_Ce w' hl n c s sd sf t cv True) → (∀ k, (k < 29 ∨ 81 ≤ k ∨ (38 ≤ k ∧ k < 44)) → w' k = w k) → Q none N w') : wb_M G M_X10_strain [.ref 29] N w Q := by
  unfold wb_M
  have hrg := (hHL.rg hR).1
  have lp : ∀ i, i ≤ 3 → ∀ (w1 : wb_W), 0 ≤ i → wb_Wo w1 hl wt ct wt → wb_FS w1 → wb_Sh4 w1 → (∀ t, 0 ≤ t → t < 3 → wb_Ce w1 hl n c s sd sf t cv (t < i)) → (∀ k, (k < 29 ∨ 81 ≤ k ∨ (38 ≤ k ∧ k < 44)) → w1 k = w k) → wb_V G M_X10_strain 22 [(0, .ref 29), (1, .int (wb_i i))] [] N w1 0 0 Q := by
    refine wb_up 3 _ ?_
    intro i ih hi w1 hi0 hwo1 hfs1 hsh1 hce1 ef
    obtain ⟨n0, le0, mo0, fl0, fm0, ho0, lo0, L0, H0, hfl⟩ := hfs1
    have hbk1 : wb_Bk w1 4 n c s sd sf bo tu g := hbk.fr (fun k p1 p2 => ef k (by omega))
    refine vi_iload_n 12 rfl rfl ?_
    refine vi_iconst 13 rfl ?_
    refine vi_icmp_ge 14 rfl (by omega) (by omega) (fun c_24 => ?_) (fun c_24 => ?_)
    · exact vi_return 31 rfl rfl (Nat.zero_le _) (Nat.zero_le _) (hQ w1 hwo1 ⟨_, _, _, _, _, _, _, _, _, hfl⟩ hsh1 (fun t t1 t2 => (hce1 t t1 t2).no id (fun _ => by omega)) ef)
    · have hti : 0 ≤ i ∧ i < 3 := by omega
      have hcr := wb_cp_rg hl hti
      refine vi_aload_n 15 rfl rfl ?_
      refine vi_get 16 rfl f_X10_21 hwo1.1 rfl rfl ?_
      refine vi_aload_n 17 rfl rfl ?_
      refine vi_get 18 rfl f_X10_46 hwo1.1 rfl rfl ?_
      refine vi_iload_n 19 rfl rfl ?_
      refine vi_iconst 20 rfl ?_
      refine vi_iconst 21 rfl ?_
      refine vi_V4 22 ok_X3_set rfl c_X10_101 hfl.1 rfl rfl ?_
      refine sp_X3_set hfl hbk1 hR (by omega) (by omega) (by omega) (by omega) (fun w2 le2 mo2 hle2 hfl2 hf2 => ?_)
      have hwo2 : wb_Wo w2 hl wt ct wt := hwo1.fr (fun k hk => hf2 k (by omega))
      obtain ⟨⟨nd, ah, on, hco, hnd, hch⟩, -⟩ := hce1 i hi0 (by omega)
      obtain ⟨-, t', o', P', hms⟩ := hsh1.at hl hti
      have hco2 : wb_Co w2 (wb_cp hl i) (wb_cr hl i) nd ah on i (wb_gu hl sf i) (wb_cr hl i) := hco.fr (fun k p1 p2 => hf2 k (by omega))
      have hms2 : wb_Ms w2 (wb_cp hl i + 6) 30 t' o' P' := hms.fr (fun k p1 p2 => hf2 k (by omega))
      have hco3 := hco2
      obtain ⟨f0, f1, k0, -⟩ := hco3
      refine vi_aload_n 23 rfl rfl ?_
      refine vi_iload_n 24 rfl rfl ?_
      refine vi_V1 25 ok_X10_course rfl c_X10_80 hwo2.1 rfl rfl ?_
      refine sp_X10_course ‹_› (by omega) (by omega) ?_
      refine vi_aload_n 26 rfl rfl ?_
      refine vi_get 27 rfl f_X10_21 hwo2.1 rfl rfl ?_
      refine vi_V1 28 ok_X2_strain rfl c_X10_104 k0 rfl rfl ?_
      refine sp_X2_strain hco2 hms2 hwo2.2.2 hfl2 (wb_FR_set hR hti (by omega) hle2) (hR.2.2.2.2.2.2.2.1 i).1 (by omega) (by omega) (by omega) hti (wb_gu_rm hHL hR hti) (wb_thing hR hHL hti hnd) (fun w3 L3 H3 hms3 hfl3 hf3 => ?_)
      have hco4 : wb_Co w3 (wb_cp hl i) (wb_cr hl i) nd ah on i (wb_gu hl sf i) (wb_cr hl i) := hco2.fr (fun k p1 p2 => hf3 k (by omega) (by omega))
      refine vi_iinc 29 rfl rfl rfl ?_
      refine vi_goto 30 rfl ?_
      refine vi_lc (ih (i + 1) (by omega) (by omega) w3 (by omega) (hwo2.fr (fun k hk => hf3 k (by omega) (by omega))) ⟨_, _, _, _, _, _, _, _, _, hfl3⟩ (hsh1.up hti ⟨⟨_, _, _, _, _, _, hco4⟩, _, _, _, hms3⟩ (fun k p1 p2 p3 => (hf3 k (by omega) (by omega)).trans (hf2 k (by omega)))) (fun t t1 t2 => ?_) (fun k hk => (hf3 k (by omega) (by omega)).trans ((hf2 k (by omega)).trans (ef k hk)))) ⟨rfl, rfl, trivial⟩
      by_cases hti2 : t = i
      · subst hti2; exact ⟨⟨nd, ah, on, hco4, hnd, hch⟩, fun _ => ⟨_, hms3, fun x p1 p2 => wb_mp_A hHL hR hti ⟨p1, p2⟩ hle2 hnd⟩⟩
      · have hap := wb_cp_ap (hl := hl) hti (t' := t) ⟨t1, t2⟩ (fun q => hti2 q.symm)
        have hcr2 := wb_cp_rg hl (t := t) ⟨t1, t2⟩
        exact ((hce1 t t1 t2).fr (fun k p1 p2 => (hf3 k (by omega) (by omega)).trans (hf2 k (by omega)))).no id (fun q => by omega)
  refine vi_aload_n 0 rfl rfl ?_
  refine vi_get 1 rfl f_X10_98 hwo.1 rfl rfl ?_
  refine vi_aload_n 2 rfl rfl ?_
  refine vi_get 3 rfl f_X10_67 hwo.1 rfl rfl ?_
  refine vi_icmp_ne 4 rfl (by omega) (by omega) (fun c_8 => ?_) (fun c_8 => ?_)
  · refine vi_aload_n 6 rfl rfl ?_
    refine vi_aload_n 7 rfl rfl ?_
    refine vi_get 8 rfl f_X10_67 hwo.1 rfl rfl ?_
    refine vi_put 9 rfl f_X10_98 hwo.1 rfl rfl rfl rfl ?_
    refine vi_iconst 10 rfl ?_
    refine vi_istore_n 11 rfl rfl ?_
    exact vi_lc (lp 0 (by omega) _ (by omega) ⟨wb_ups, by rw [wb_upn (by omega)]; exact hwo.2.1, hwo.2.2.fr (fun k p1 p2 => wb_upn (by omega))⟩ (hfs.fr (fun k p1 p2 => wb_upn (by omega))) (hsh.fr (fun k p1 p2 => wb_upn (by omega))) (fun t t1 t2 => have hcr := wb_cp_rg hl (t := t) ⟨t1, t2⟩; ((hce t t1 t2).no (cv' := cv) (mv' := t < 0) id (fun _ => by omega)).fr (fun k p1 p2 => wb_upn (by omega))) (fun k hk => wb_upn (by omega))) ⟨rfl, rfl, trivial⟩
  · exact vi_return 5 rfl rfl (Nat.zero_le _) (Nat.zero_le _) (hQ w (by have := hwo; rw [show mt = wt by omega] at this; exact this) hfs hsh (fun t t1 t2 => (hce t t1 t2).no id (fun _ => by omega)) (fun _ _ => rfl))
theorem wb_ah_on {t : Int} {le mo nd ah' on' : Int → Int} (hR : wb_BR n c s sd sf) (hle : ∀ m, 0 ≤ m → m < n → le m = wb_le c t 0 0 m ∧ mo m = wb_mt c t 0 0 m) (hnd : ∀ k m : Int, 0 ≤ k → k < wb_cr hl t → 0 ≤ m → m < n → nd (k * 8 + m) = wb_kn c sd sf t k m)
    (h1 : ∀ k m : Int, 0 ≤ k → k < wb_cr hl t → 0 ≤ m → m ≤ n → ah' (k * 9 + m) = wb_ah le mo (s (4 * t + 2)) (s (4 * t + 3)) (fun m => nd (k * 8 + m)) (s (4 * t)) (s (4 * t + 1)) m.toNat) (h2 : ∀ k m : Int, 0 ≤ k → k < wb_cr hl t → 1 ≤ m → m ≤ n → on' (k * 9 + m) = wb_on le mo (s (4 * t + 2)) (s (4 * t + 3)) (fun m => nd (k * 8 + m)) n (n - m).toNat) :
    (∀ k m : Int, 0 ≤ k → k < wb_cr hl t → 0 ≤ m → m ≤ n → ah' (k * 9 + m) = wb_ah (wb_le c t 0 0) (wb_mt c t 0 0) (s (4 * t + 2)) (s (4 * t + 3)) (fun m => wb_kn c sd sf t k m) (s (4 * t)) (s (4 * t + 1)) m.toNat) ∧ (∀ k m : Int, 0 ≤ k → k < wb_cr hl t → 1 ≤ m → m ≤ n → on' (k * 9 + m) = wb_on (wb_le c t 0 0) (wb_mt c t 0 0) (s (4 * t + 2)) (s (4 * t + 3)) (fun m => wb_kn c sd sf t k m) n (n - m).toNat) := by
  refine ⟨fun k m k1 k2 m1 m2 => ?_, fun k m k1 k2 m1 m2 => ?_⟩
  · rw [h1 k m k1 k2 m1 m2]
    have := wb_rn_congr (le := le) (mo := mo) (nd := fun m => nd (k * 8 + m)) (le' := wb_le c t 0 0) (mo' := wb_mt c t 0 0) (nd' := fun m => wb_kn c sd sf t k m) (ho := s (4 * t + 2)) (lo := s (4 * t + 3)) (L0 := s (4 * t)) (H0 := s (4 * t + 1)) m.toNat (fun j j1 j2 => ⟨(hle j j1 (by omega)).1, (hle j j1 (by omega)).2, hnd k j k1 k2 j1 (by omega)⟩)
    unfold wb_ah; rw [this.1, this.2]
  · rw [h2 k m k1 k2 m1 m2]
    have := wb_br_congr (le := le) (mo := mo) (nd := fun m => nd (k * 8 + m)) (le' := wb_le c t 0 0) (mo' := wb_mt c t 0 0) (nd' := fun m => wb_kn c sd sf t k m) (ho := s (4 * t + 2)) (lo := s (4 * t + 3)) (n := n) (n - m).toNat (fun j j1 j2 => ⟨(hle j (by omega) j2).1, (hle j (by omega) j2).2, hnd k j k1 k2 (by omega) j2⟩)
    unfold wb_on; rw [this.1, this.2]
theorem sp_X10_chart (hwo : wb_Wo w hl wt ct mt) (hbk : wb_Bk w 4 n c s sd sf bo tu g) (hR : wb_BR n c s sd sf) (hHL : wb_HL hl n c sd sf) (hfs : wb_FS w) (hsh : wb_Sh4 w) (hce : ∀ t, 0 ≤ t → t < 3 → wb_Ce w hl n c s sd sf t (ct = wt) mv) (hr1 : 0 ≤ wt ∧ wt ≤ 1000000) (hr2 : 0 ≤ ct ∧ ct ≤ 1000000)
    (hQ : ∀ (w' : wb_W), wb_Wo w' hl wt wt mt → wb_FS w' → wb_Sh4 w' → (∀ t, 0 ≤ t → t < 3 → wb_Ce w' hl n c s sd sf t True mv) → (∀ k, (k < 29 ∨ 81 ≤ k ∨ (38 ≤ k ∧ k < 44)) → w' k = w k) → Q none N w') : wb_M G M_X10_chart [.ref 29] N w Q := by
  unfold wb_M
  have hrg := (hHL.rg hR).1
  have lp : ∀ i, i ≤ 3 → ∀ (w1 : wb_W), 0 ≤ i → wb_Wo w1 hl wt wt mt → wb_FS w1 → wb_Sh4 w1 → (∀ t, 0 ≤ t → t < 3 → wb_Ce w1 hl n c s sd sf t (t < i) mv) → (∀ k, (k < 29 ∨ 81 ≤ k ∨ (38 ≤ k ∧ k < 44)) → w1 k = w k) → wb_V G M_X10_chart 22 [(0, .ref 29), (1, .int (wb_i i))] [] N w1 0 0 Q := by
    refine wb_up 3 _ ?_
    intro i ih hi w1 hi0 hwo1 hfs1 hsh1 hce1 ef
    obtain ⟨n0, le0, mo0, fl0, fm0, ho0, lo0, L0, H0, hfl⟩ := hfs1
    have hbk1 : wb_Bk w1 4 n c s sd sf bo tu g := hbk.fr (fun k p1 p2 => ef k (by omega))
    refine vi_iload_n 12 rfl rfl ?_
    refine vi_iconst 13 rfl ?_
    refine vi_icmp_ge 14 rfl (by omega) (by omega) (fun c_24 => ?_) (fun c_24 => ?_)
    · exact vi_return 31 rfl rfl (Nat.zero_le _) (Nat.zero_le _) (hQ w1 hwo1 ⟨_, _, _, _, _, _, _, _, _, hfl⟩ hsh1 (fun t t1 t2 => (hce1 t t1 t2).no (fun _ => by omega) id) ef)
    · have hti : 0 ≤ i ∧ i < 3 := by omega
      have hcr := wb_cp_rg hl hti
      refine vi_aload_n 15 rfl rfl ?_
      refine vi_get 16 rfl f_X10_21 hwo1.1 rfl rfl ?_
      refine vi_aload_n 17 rfl rfl ?_
      refine vi_get 18 rfl f_X10_46 hwo1.1 rfl rfl ?_
      refine vi_iload_n 19 rfl rfl ?_
      refine vi_iconst 20 rfl ?_
      refine vi_iconst 21 rfl ?_
      refine vi_V4 22 ok_X3_set rfl c_X10_101 hfl.1 rfl rfl ?_
      refine sp_X3_set hfl hbk1 hR (by omega) (by omega) (by omega) (by omega) (fun w2 le2 mo2 hle2 hfl2 hf2 => ?_)
      have hwo2 : wb_Wo w2 hl wt wt mt := hwo1.fr (fun k hk => hf2 k (by omega))
      obtain ⟨⟨nd, ah, on, hco, hnd, hch⟩, hmv⟩ := hce1 i hi0 (by omega)
      obtain ⟨-, t', o', P', hms⟩ := hsh1.at hl hti
      have hco2 : wb_Co w2 (wb_cp hl i) (wb_cr hl i) nd ah on i (wb_gu hl sf i) (wb_cr hl i) := hco.fr (fun k p1 p2 => hf2 k (by omega))
      have hms2 : wb_Ms w2 (wb_cp hl i + 6) 30 t' o' P' := hms.fr (fun k p1 p2 => hf2 k (by omega))
      have hco3 := hco2
      obtain ⟨f0, f1, k0, -⟩ := hco3
      refine vi_aload_n 23 rfl rfl ?_
      refine vi_iload_n 24 rfl rfl ?_
      refine vi_V1 25 ok_X10_course rfl c_X10_80 hwo2.1 rfl rfl ?_
      refine sp_X10_course ‹_› (by omega) (by omega) ?_
      refine vi_aload_n 26 rfl rfl ?_
      refine vi_get 27 rfl f_X10_21 hwo2.1 rfl rfl ?_
      refine vi_V1 28 ok_X2_chart rfl c_X10_128 k0 rfl rfl ?_
      refine sp_X2_chart hco2 hfl2 (wb_FR_set hR hti (by omega) hle2) (hR.2.2.2.2.2.2.2.1 i).1 (by omega) (by have := wb_gu_rm hHL hR hti; omega) (wb_thing hR hHL hti hnd) (fun w3 ah3 on3 L3 H3 hah hon hco4 hfl3 hf3 => ?_)
      have hms3 : wb_Ms w3 (wb_cp hl i + 6) 30 t' o' P' := hms2.fr (fun k p1 p2 => hf3 k (by omega) (by omega) (by omega))
      refine vi_iinc 29 rfl rfl rfl ?_
      refine vi_goto 30 rfl ?_
      refine vi_lc (ih (i + 1) (by omega) (by omega) w3 (by omega) (hwo2.fr (fun k hk => hf3 k (by omega) (by omega) (by omega))) ⟨_, _, _, _, _, _, _, _, _, hfl3⟩ (hsh1.up hti ⟨⟨_, _, _, _, _, _, hco4⟩, _, _, _, hms3⟩ (fun k p1 p2 p3 => (hf3 k (by omega) (by omega) (by omega)).trans (hf2 k (by omega)))) (fun t t1 t2 => ?_) (fun k hk => (hf3 k (by omega) (by omega) (by omega)).trans ((hf2 k (by omega)).trans (ef k hk)))) ⟨rfl, rfl, trivial⟩
      by_cases hti2 : t = i
      · subst hti2; exact ⟨⟨nd, ah3, on3, hco4, hnd, fun _ => wb_ah_on hR hle2 hnd hah hon⟩, fun q => (hmv q).elim fun P hP => ⟨P, (hP.1.fr (fun k p1 p2 => hf2 k (by omega))).fr (fun k p1 p2 => hf3 k (by omega) (by omega) (by omega)), hP.2⟩⟩
      · have hap := wb_cp_ap (hl := hl) hti (t' := t) ⟨t1, t2⟩ (fun q => hti2 q.symm)
        have hcr2 := wb_cp_rg hl (t := t) ⟨t1, t2⟩
        exact ((hce1 t t1 t2).fr (fun k p1 p2 => (hf3 k (by omega) (by omega) (by omega)).trans (hf2 k (by omega)))).no (fun q => by omega) id
  refine vi_aload_n 0 rfl rfl ?_
  refine vi_get 1 rfl f_X10_125 hwo.1 rfl rfl ?_
  refine vi_aload_n 2 rfl rfl ?_
  refine vi_get 3 rfl f_X10_67 hwo.1 rfl rfl ?_
  refine vi_icmp_ne 4 rfl (by omega) (by omega) (fun c_8 => ?_) (fun c_8 => ?_)
  · refine vi_aload_n 6 rfl rfl ?_
    refine vi_aload_n 7 rfl rfl ?_
    refine vi_get 8 rfl f_X10_67 hwo.1 rfl rfl ?_
    refine vi_put 9 rfl f_X10_125 hwo.1 rfl rfl rfl rfl ?_
    refine vi_iconst 10 rfl ?_
    refine vi_istore_n 11 rfl rfl ?_
    exact vi_lc (lp 0 (by omega) _ (by omega) ⟨wb_ups, by rw [wb_upn (by omega)]; exact hwo.2.1, hwo.2.2.fr (fun k p1 p2 => wb_upn (by omega))⟩ (hfs.fr (fun k p1 p2 => wb_upn (by omega))) (hsh.fr (fun k p1 p2 => wb_upn (by omega))) (fun t t1 t2 => have hcr := wb_cp_rg hl (t := t) ⟨t1, t2⟩; ((hce t t1 t2).no (cv' := t < 0) (mv' := mv) (fun _ => by omega) id).fr (fun k p1 p2 => wb_upn (by omega))) (fun k hk => wb_upn (by omega))) ⟨rfl, rfl, trivial⟩
  · exact vi_return 5 rfl rfl (Nat.zero_le _) (Nat.zero_le _) (hQ w (by have := hwo; rw [show ct = wt by omega] at this; exact this) hfs hsh (fun t t1 t2 => (hce t t1 t2).no (fun _ => by omega) id) (fun _ _ => rfl))
end WBS33
