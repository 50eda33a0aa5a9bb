/-! ===== courses are set and strained ===== -/
/-- between what the stock lies behind m months; whether it goes on till then -/
def wb_rn (le mo : Int → Int) (ho lo : Int) (nd : Int → Int) (L0 H0 : Int) : Nat → Int × Int
  | 0 => (L0, H0)
  | m + 1 => (wb_c0 ((wb_rn le mo ho lo nd L0 H0 m).1 + le m - nd m - lo), wb_cx ho ((wb_rn le mo ho lo nd L0 H0 m).2 + mo m - nd m))
def wb_ok (le mo : Int → Int) (ho lo : Int) (nd : Int → Int) (L0 H0 : Int) : Nat → Bool
  | 0 => true
  | m + 1 => wb_ok le mo ho lo nd L0 H0 m && decide ((wb_rn le mo ho lo nd L0 H0 (m + 1)).1 ≤ (wb_rn le mo ho lo nd L0 H0 (m + 1)).2)
theorem wb_ok_rg {le mo : Int → Int} {ho lo : Int} {nd : Int → Int} {L0 H0 : Int} (h0 : 0 ≤ L0 ∧ L0 ≤ H0 ∧ H0 ≤ 199) (hh : ho ≤ 199) : ∀ m : Nat, wb_ok le mo ho lo nd L0 H0 m = true → 0 ≤ (wb_rn le mo ho lo nd L0 H0 m).1 ∧ (wb_rn le mo ho lo nd L0 H0 m).1 ≤ (wb_rn le mo ho lo nd L0 H0 m).2 ∧ (wb_rn le mo ho lo nd L0 H0 m).2 ≤ 199 := by
  intro m h
  cases m with
  | zero => exact h0
  | succ m =>
    have h2 := (wb_and h).2
    have h3 : (wb_rn le mo ho lo nd L0 H0 (m + 1)).1 ≤ (wb_rn le mo ho lo nd L0 H0 (m + 1)).2 := of_decide_eq_true h2
    refine ⟨?_, h3, ?_⟩
    · show 0 ≤ wb_c0 _
      unfold wb_c0; split <;> omega
    · show wb_cx ho _ ≤ 199
      unfold wb_cx; split <;> omega
theorem wb_ok_no {le mo : Int → Int} {ho lo : Int} {nd : Int → Int} {L0 H0 : Int} {m : Nat} (h : wb_ok le mo ho lo nd L0 H0 m = false) : ∀ n : Nat, m ≤ n → wb_ok le mo ho lo nd L0 H0 n = false := by
  intro n hn
  obtain ⟨d, rfl⟩ : ∃ d, n = m + d := ⟨n - m, by omega⟩
  clear hn
  induction d with
  | zero => exact h
  | succ d ih => show (wb_ok le mo ho lo nd L0 H0 (m + d) && _) = false; rw [ih]; rfl
theorem wb_Ms.to {w : wb_W} {b pb : Nat} {t o : Int} {P P' : Int → Int → Bool} (h : wb_Ms w b pb t o P) (hP : ∀ a c, 0 ≤ a → a < 25 → 0 ≤ c → c < 25 → P a c = P' a c) : wb_Ms w b pb t o P' := by
  obtain ⟨f0, f1, h0, h1, h2, h3⟩ := h
  refine ⟨f0, f1, h0, h1, h2, fun r q r1 r2 q1 q2 => ?_⟩
  obtain ⟨m1, m2⟩ := h3 r q r1 r2 q1 q2
  have a1 := wb_am_rg (p := q) (t := t) q1
  have a2 := wb_am_rg (p := 64 + q) (t := t) (by omega)
  have a3 := wb_oa_rg (q := q) (o := o) q1
  have a4 := wb_oa_rg (q := 64 + q) (o := o) (by omega)
  rw [m1, m2, hP _ _ (by omega) (by omega) (by omega) (by omega), hP _ _ (by omega) (by omega) (by omega) (by omega)]
  exact ⟨rfl, rfl⟩
/-- what goes through by a course's keys -/
def wb_PP (le mo : Int → Int) (ho lo : Int) (nd : Int → Int) (fl fm n ke : Int) : Int → Int → Bool := fun a c => decide (25 * c + a < ke) && wb_ok le mo ho lo (fun m => nd ((25 * c + a) * 8 + m)) fl fm n.toNat
section WBS24
variable {G : wb_G} {N : Nat} {w : wb_W} {Q : Option Value → Nat → wb_W → Prop} {b bb fb pb : Nat} {rm : Nat} {nd ah on : Int → Int} {t gu ke : Int}
variable {n : Int} {c s : Int → Int} {sd sf bo tu : Int} {g : Int → Int64} {le mo : Int → Int} {fl fm ho lo L H : Int}
theorem sp_X2_set {t' gu' : Int} (hb : wb_Co w b rm nd ah on t gu ke) (hbk : wb_Bk w bb n c s sd sf bo tu g) (hR : wb_BR n c s sd sf) (hap : bb + 5 ≤ b ∨ b + 6 ≤ bb) (hrm : (rm = 25 ∧ gu' = -1) ∨ (rm = 625 ∧ 0 ≤ gu' ∧ gu' < 3)) (ht : 0 ≤ t' ∧ t' < 3)
    (hQ : ∀ (w' : wb_W) (nd' : Int → Int), (∀ k m : Int, 0 ≤ k → k < rm → 0 ≤ m → m < n → nd' (k * 8 + m) = wb_kn c sd sf t' k m) → wb_Co w' b rm nd' ah on t' gu' rm → (∀ k, (k < b ∨ b + 6 ≤ k) → w' k = w k) → Q none N w') : wb_M G M_X2_set [.ref b, .ref bb, .int (wb_i t'), .int (wb_i gu')] N w Q := by
  obtain ⟨f0, f1, h0, h1, h2, h3, h4, h5⟩ := hb
  have hR' := hR
  obtain ⟨r1, -⟩ := hR
  unfold wb_M
  have lp : ∀ i, i ≤ n → ∀ (w1 : wb_W) (nd1 : Int → Int), 0 ≤ i → (∀ k m : Int, 0 ≤ k → k < rm → 0 ≤ m → m < i → nd1 (k * 8 + m) = wb_kn c sd sf t' k m) → wb_Co w1 b rm nd1 ah on t' gu' rm → (∀ k, (k < b ∨ b + 6 ≤ k) → w1 k = w k) → wb_V G M_X2_set 39 [(0, .ref b), (1, .ref bb), (4, .int (wb_i i))] [] N w1 0 0 Q := by
    refine wb_up n _ ?_
    intro i ih hi w1 nd1 hi0 hnd hco ef
    have hbk1 : wb_Bk w1 bb n c s sd sf bo tu g := hbk.fr (fun k q1 q2 => ef k (by omega))
    have hbk2 := hbk1
    obtain ⟨y0, -⟩ := hbk2
    have hco' := hco
    obtain ⟨_, _, x0, -⟩ := hco'
    refine vi_iload 19 rfl rfl ?_
    refine vi_aload_n 20 rfl rfl ?_
    refine vi_get 21 rfl f_X2_55 y0 rfl rfl ?_
    refine vi_icmp_ge 22 rfl (by omega) (by omega) (fun c_45 => ?_) (fun c_45 => ?_)
    · exact vi_return 32 rfl rfl (Nat.zero_le _) (Nat.zero_le _) (hQ w1 nd1 (fun k m p1 p2 p3 p4 => hnd k m p1 p2 p3 (by omega)) hco ef)
    · refine vi_iload 23 rfl rfl ?_
      refine vi_bipush 24 rfl (by decide) ?_
      refine vi_icmp_ge 25 rfl (by omega) (by omega) (fun c_52 => by exfalso; omega) (fun c_52 => ?_)
      refine vi_aload_n 26 rfl rfl ?_
      refine vi_aload_n 27 rfl rfl ?_
      refine vi_iload 28 rfl rfl ?_
      refine vi_V2 29 ok_X2_setNeeds rfl c_X2_60 x0 rfl rfl ?_
      refine sp_X2_setNeeds hco hbk1 hR' hap (by omega) ht (by omega) (fun w2 nd2 hnd2 hco2 hf2 => ?_)
      refine vi_iinc 30 rfl rfl rfl ?_
      refine vi_goto 31 rfl ?_
      refine vi_lc (ih (i + 1) (by omega) (by omega) w2 nd2 (by omega) (fun k m p1 p2 p3 p4 => ?_) hco2 (fun k hk => (hf2 k hk).trans (ef k hk))) ⟨rfl, rfl, rfl, trivial⟩
      rw [hnd2 k m p1 p2 p3 (by omega)]
      by_cases hmi : m = i
      · rw [if_pos hmi, hmi]
      · rw [if_neg hmi]; exact hnd k m p1 p2 p3 (by omega)
  have er : (if (if gu' < 0 then (25 : Int) else 625) < (rm : Int) then (if gu' < 0 then (25 : Int) else 625) else (rm : Int)) = (rm : Int) := by rcases hrm with ⟨rfl, rfl⟩ | ⟨rfl, h1, h2⟩ <;> simp <;> omega
  refine vi_aload_n 0 rfl rfl ?_
  refine vi_iload_n 1 rfl rfl ?_
  refine vi_put 2 rfl f_X2_43 (by assumption) rfl rfl rfl rfl ?_
  refine vi_aload_n 3 rfl rfl ?_
  refine vi_iload_n 4 rfl rfl ?_
  refine vi_put 5 rfl f_X2_18 wb_ups rfl rfl rfl rfl ?_
  refine vi_aload_n 6 rfl rfl ?_
  refine vi_aload_n 7 rfl rfl ?_
  refine vi_get 8 rfl f_X2_22 wb_ups rfl rfl ?_
  refine vi_aload_n 9 rfl rfl ?_
  refine vi_get 10 rfl f_X2_18 wb_ups rfl rfl ?_
  refine vi_if_ge 11 rfl (by omega) (fun c_19 => ?_) (fun c_19 => ?_)
  · refine vi_sipush 14 rfl (by decide) ?_
    refine vi_min 15 rfl c_X2_46 rfl (by omega) (by omega) ?_
    first | rw [show (if (25 : Int) < (rm : Int) then (25 : Int) else (rm : Int)) = (rm : Int) by (split <;> omega)] | rw [show (if (625 : Int) < (rm : Int) then (625 : Int) else (rm : Int)) = (rm : Int) by (split <;> omega)]
    refine vi_put 16 rfl f_X2_52 wb_ups rfl rfl rfl rfl ?_
    refine vi_iconst 17 rfl ?_
    refine vi_istore 18 rfl rfl ?_
    exact vi_lc (lp 0 (by omega) _ nd (by omega) (fun k m p1 p2 p3 p4 => by omega) ⟨f0, f1, wb_ups, by rw [wb_upu, wb_upu, wb_upn (by omega)]; exact h1, by rw [wb_upu, wb_upu, wb_upn (by omega)]; exact h2, by rw [wb_upu, wb_upu, wb_upn (by omega)]; exact h3, by rw [wb_upu, wb_upu, wb_upn (by omega)]; exact h4, by rw [wb_upu, wb_upu, wb_upn (by omega)]; exact h5⟩ (fun k hk => by rw [wb_upu, wb_upu, wb_upn (by omega)])) ⟨rfl, rfl, rfl, trivial⟩
  · refine vi_bipush 12 rfl (by decide) ?_
    refine vi_goto 13 rfl ?_
    refine vi_min 15 rfl c_X2_46 rfl (by omega) (by omega) ?_
    first | rw [show (if (25 : Int) < (rm : Int) then (25 : Int) else (rm : Int)) = (rm : Int) by (split <;> omega)] | rw [show (if (625 : Int) < (rm : Int) then (625 : Int) else (rm : Int)) = (rm : Int) by (split <;> omega)]
    refine vi_put 16 rfl f_X2_52 wb_ups rfl rfl rfl rfl ?_
    refine vi_iconst 17 rfl ?_
    refine vi_istore 18 rfl rfl ?_
    exact vi_lc (lp 0 (by omega) _ nd (by omega) (fun k m p1 p2 p3 p4 => by omega) ⟨f0, f1, wb_ups, by rw [wb_upu, wb_upu, wb_upn (by omega)]; exact h1, by rw [wb_upu, wb_upu, wb_upn (by omega)]; exact h2, by rw [wb_upu, wb_upu, wb_upn (by omega)]; exact h3, by rw [wb_upu, wb_upu, wb_upn (by omega)]; exact h4, by rw [wb_upu, wb_upu, wb_upn (by omega)]; exact h5⟩ (fun k hk => by rw [wb_upu, wb_upu, wb_upn (by omega)])) ⟨rfl, rfl, rfl, trivial⟩
theorem sp_X2_goesThrough {k : Int} (hb : wb_Co w b rm nd ah on t gu ke) (hfl : wb_Fl w fb n le mo fl fm ho lo L H) (hR : wb_FR n le mo fl fm ho lo) (hff : fl ≤ fm) (hap : fb + 3 ≤ b ∨ b + 6 ≤ fb) (hk : 0 ≤ k ∧ k < rm) (hrm : rm ≤ 625) (hnd : ∀ m, 0 ≤ m → m < n → 0 ≤ nd (k * 8 + m) ∧ nd (k * 8 + m) ≤ 100000)
    (k1 : ∀ (w' : wb_W) (L' H' : Int), wb_ok le mo ho lo (fun m => nd (k * 8 + m)) fl fm n.toNat = true → wb_Fl w' fb n le mo fl fm ho lo L' H' → (∀ k, k ≠ fb → w' k = w k) → Q (some (.int (wb_i 1))) N w')
    (k0 : ∀ (w' : wb_W) (L' H' : Int), wb_ok le mo ho lo (fun m => nd (k * 8 + m)) fl fm n.toNat = false → wb_Fl w' fb n le mo fl fm ho lo L' H' → (∀ k, k ≠ fb → w' k = w k) → Q (some (.int (wb_i 0))) N w') : wb_M G M_X2_goesThrough [.ref b, .ref fb, .int (wb_i k)] N w Q := by
  obtain ⟨f0, f1, h0, h1, h2, h3, h4, h5⟩ := hb
  have hR' := hR
  obtain ⟨r1, r2, r3, r4, r5, r6⟩ := hR
  unfold wb_M
  have lp : ∀ i, i ≤ n → ∀ (w1 : wb_W), 0 ≤ i → wb_ok le mo ho lo (fun m => nd (k * 8 + m)) fl fm i.toNat = true → wb_Fl w1 fb n le mo fl fm ho lo (wb_rn le mo ho lo (fun m => nd (k * 8 + m)) fl fm i.toNat).1 (wb_rn le mo ho lo (fun m => nd (k * 8 + m)) fl fm i.toNat).2 → (∀ k, k ≠ fb → w1 k = w k) → wb_V G M_X2_goesThrough 6 [(0, .ref b), (1, .ref fb), (2, .int (wb_i k)), (3, .int (wb_i i))] [] N w1 0 0 Q := by
    refine wb_up n _ ?_
    intro i ih hi w1 hi0 hok hf1 ef
    have hf2 := hf1
    obtain ⟨x0, -, -⟩ := hf2
    have e0 := (ef b (by omega)).trans h0
    have e3 := (ef (b + 3) (by omega)).trans h3
    have hrg := wb_ok_rg (le := le) (mo := mo) (lo := lo) (nd := fun m => nd (k * 8 + m)) ⟨r3.1, hff, by omega⟩ r5.2 _ hok
    have hst : i < n → (i + 1).toNat = i.toNat + 1 := fun _ => by omega
    have hii : ((i.toNat : Nat) : Int) = i := by omega
    refine vi_iload_n 4 rfl rfl ?_
    refine vi_aload_n 5 rfl rfl ?_
    refine vi_get 6 rfl f_X2_87 x0 rfl rfl ?_
    refine vi_icmp_ge 7 rfl (by omega) (by omega) (fun c_11 => ?_) (fun c_11 => ?_)
    · refine vi_iconst 27 rfl ?_
      exact vi_ireturn 28 rfl rfl rfl (Nat.zero_le _) (Nat.zero_le _) (k1 _ _ _ (by rw [show n = i by omega]; exact hok) hf1 ef)
    · refine vi_iload_n 8 rfl rfl ?_
      refine vi_bipush 9 rfl (by decide) ?_
      refine vi_icmp_ge 10 rfl (by omega) (by omega) (fun c_17 => by exfalso; omega) (fun c_17 => ?_)
      refine vi_aload_n 11 rfl rfl ?_
      refine vi_iload_n 12 rfl rfl ?_
      refine vi_aload_n 13 rfl rfl ?_
      refine vi_get 14 rfl f_X2_25 e0 rfl rfl ?_
      refine vi_iload_n 15 rfl rfl ?_
      refine vi_bipush 16 rfl (by decide) ?_
      refine vi_imul 17 rfl ?_
      refine vi_iload_n 18 rfl rfl ?_
      refine vi_iadd 19 rfl ?_
      refine vi_iald 20 rfl e3 (by omega) ?_
      refine vi_V2 21 ok_X3_go rfl c_X2_88 x0 rfl rfl ?_
      refine sp_X3_go hf1 hR' (by omega) (by omega) (by omega) (by have := hnd i hi0 (by omega); omega) (fun b_33 => ?_) (fun b_33 => ?_)
      · intro L2 H2 hL2 hH2 hLH hf3 hf4
        refine vi_if_ne 22 rfl (by omega) (fun _ => ?_) (fun c => absurd c (by decide))
        refine vi_iinc 25 rfl rfl rfl ?_
        refine vi_goto 26 rfl ?_
        exact vi_lc (ih (i + 1) (by omega) (by omega) b_33 (by omega) (by rw [hst (by omega)]; show (wb_ok _ _ _ _ _ _ _ _ && decide (wb_c0 _ ≤ wb_cx _ _)) = true; rw [hok, hii, ← hL2, ← hH2]; simp [hLH]) (by rw [hst (by omega)]; show wb_Fl _ _ _ _ _ _ _ _ _ (wb_c0 _) (wb_cx _ _); rw [hii, ← hL2, ← hH2]; exact hf3) (fun k hk => (hf4 k hk).trans (ef k hk))) ⟨rfl, rfl, rfl, rfl, trivial⟩
      · intro L2 H2 hL2 hH2 hLH hf3 hf4
        refine vi_if_ne 22 rfl (by omega) (fun c => absurd c (by decide)) (fun _ => ?_)
        refine vi_iconst 23 rfl ?_
        exact vi_ireturn 24 rfl rfl rfl (Nat.zero_le _) (Nat.zero_le _) (k0 _ _ _ (wb_ok_no (m := (i + 1).toNat) (by rw [hst (by omega)]; show (wb_ok _ _ _ _ _ _ _ _ && decide (wb_c0 _ ≤ wb_cx _ _)) = false; rw [hii, ← hL2, ← hH2]; simp [hLH]) _ (by omega)) hf3 (fun k hk => (hf4 k hk).trans (ef k hk)))
  have hfl' := hfl
  obtain ⟨x0, -, -⟩ := hfl'
  refine vi_aload_n 0 rfl rfl ?_
  refine vi_V0 1 ok_X3_begin rfl c_X2_82 x0 rfl rfl ?_
  refine sp_X3_begin hfl (fun w2 hf2 hf3 => ?_)
  refine vi_iconst 2 rfl ?_
  refine vi_istore_n 3 rfl rfl ?_
  exact vi_lc (lp 0 (by omega) w2 (by omega) rfl hf2 hf3) ⟨rfl, rfl, rfl, rfl, trivial⟩
theorem sp_X2_strain {t0 o0 : Int} {P0 : Int → Int → Bool} (hb : wb_Co w b rm nd ah on t gu rm) (hms : wb_Ms w (b + 6) pb t0 o0 P0) (hpt : wb_Pt w pb) (hfl : wb_Fl w fb n le mo fl fm ho lo L H) (hR : wb_FR n le mo fl fm ho lo) (hff : fl ≤ fm) (hap : fb + 3 ≤ b ∨ b + 9 ≤ fb) (hap2 : pb + 5 ≤ b ∨ b + 9 ≤ pb) (hap3 : pb + 5 ≤ fb ∨ fb + 3 ≤ pb) (ht : 0 ≤ t ∧ t < 3) (hrm : (rm = 25 ∧ gu = -1) ∨ (rm = 625 ∧ 0 ≤ gu ∧ gu < 3)) (hnd : ∀ k m : Int, 0 ≤ k → k < rm → 0 ≤ m → m < n → 0 ≤ nd (k * 8 + m) ∧ nd (k * 8 + m) ≤ 100000)
    (hQ : ∀ (w' : wb_W) (L' H' : Int), wb_Ms w' (b + 6) pb t gu (wb_PP le mo ho lo nd fl fm n rm) → wb_Fl w' fb n le mo fl fm ho lo L' H' → (∀ k, k ≠ fb → (k < b + 6 ∨ b + 9 ≤ k) → w' k = w k) → Q none N w') : wb_M G M_X2_strain [.ref b, .ref fb] N w Q := by
  have hb' := hb
  obtain ⟨f0, f1, h0, h1, h2, h3, h4, h5⟩ := hb'
  unfold wb_M
  have lp : ∀ i, i ≤ (rm : Int) → ∀ (w1 : wb_W) (L1 H1 : Int), 0 ≤ i → wb_Ms w1 (b + 6) pb t gu (fun a c => decide (25 * c + a < i) && wb_ok le mo ho lo (fun m => nd ((25 * c + a) * 8 + m)) fl fm n.toNat) → wb_Fl w1 fb n le mo fl fm ho lo L1 H1 → (∀ k, k ≠ fb → (k < b + 6 ∨ b + 9 ≤ k) → w1 k = w k) → wb_V G M_X2_strain 17 [(0, .ref b), (1, .ref fb), (2, .int (wb_i i))] [] N w1 0 0 Q := by
    refine wb_up rm _ ?_
    intro i ih hi w1 L1 H1 hi0 hm1 hf1 ef
    have e0 := (ef b (by omega) (by omega)).trans h0
    have hco1 : wb_Co w1 b rm nd ah on t gu rm := hb.fr (fun k q1 q2 => ef k (by omega) (by omega))
    have hpt1 : wb_Pt w1 pb := hpt.fr (fun k q1 q2 => ef k (by omega) (by omega))
    have sp : ∀ a c : Int, 0 ≤ a → a < 25 → 0 ≤ c → c < 25 → (25 * c + a = i ↔ (a = i % 25 ∧ c = i / 25)) := fun a c q1 q2 q3 q4 => by omega
    refine vi_iload_n 9 rfl rfl ?_
    refine vi_aload_n 10 rfl rfl ?_
    refine vi_get 11 rfl f_X2_52 e0 rfl rfl ?_
    refine vi_icmp_ge 12 rfl (by omega) (by omega) (fun c_22 => ?_) (fun c_22 => ?_)
    · exact vi_return 29 rfl rfl (Nat.zero_le _) (Nat.zero_le _) (hQ w1 L1 H1 (hm1.to (fun a c q1 q2 q3 q4 => by unfold wb_PP; rw [show i = (rm : Int) by omega])) hf1 ef)
    · refine vi_aload_n 13 rfl rfl ?_
      refine vi_aload_n 14 rfl rfl ?_
      refine vi_iload_n 15 rfl rfl ?_
      refine vi_V2 16 ok_X2_goesThrough rfl c_X2_75 e0 rfl rfl ?_
      refine sp_X2_goesThrough hco1 hf1 hR hff (by omega) (by omega) (by omega) (fun m p1 p2 => hnd i m hi0 (by omega) p1 p2) (fun b_28 => ?_) (fun b_28 => ?_)
      · intro L2 H2 hok hf3 hf4
        have e0b := (hf4 b (by omega)).trans e0
        have hm2 : wb_Ms b_28 (b + 6) pb t gu _ := hm1.fr (fun k q1 q2 => hf4 k (by omega))
        have hm2' := hm2
        obtain ⟨_, _, y0, -⟩ := hm2'
        have hpt2 : wb_Pt b_28 pb := hpt1.fr (fun k q1 q2 => hf4 k (by omega))
        refine vi_if_eq 17 rfl (by omega) (fun c => absurd c (by decide)) (fun _ => ?_)
        refine vi_aload_n 18 rfl rfl ?_
        refine vi_get 19 rfl f_X2_39 e0b rfl rfl ?_
        refine vi_iload_n 20 rfl rfl ?_
        refine vi_bipush 21 rfl (by decide) ?_
        refine vi_irem 22 rfl (by omega) (by omega) ?_
        refine vi_iload_n 23 rfl rfl ?_
        refine vi_bipush 24 rfl (by decide) ?_
        refine vi_idiv 25 rfl (by omega) (by omega) ?_
        refine vi_V2 26 ok_X4_pass rfl c_X2_79 y0 rfl rfl ?_
        refine sp_X4_pass hm2 hpt2 (by omega) ht (by omega) (by omega) (by omega) (by omega) (fun w3 hm3 hf5 => ?_)
        refine vi_iinc 27 rfl rfl rfl ?_
        refine vi_goto 28 rfl ?_
        first | exact vi_lc (ih (i + 1) (by omega) (by omega) w3 L2 H2 (by omega) (hm3.to (fun a c q1 q2 q3 q4 => by by_cases hac : 25 * c + a = i; (rw [hac]; obtain ⟨z1, z2⟩ := (sp a c q1 q2 q3 q4).mp hac; simp [← z1, ← z2, hok, show i < i + 1 by omega]); (have : ¬ (a = i % 25 ∧ c = i / 25) := fun q => hac ((sp a c q1 q2 q3 q4).mpr q); rw [show decide (25 * c + a < i + 1) = decide (25 * c + a < i) by congr 1; apply propext; omega]; simp; omega))) (hf3.fr (fun k q1 q2 => hf5 k (by omega))) (fun k p1 p2 => (hf5 k (by omega)).trans ((hf4 k p1).trans (ef k p1 p2)))) ⟨rfl, rfl, rfl, trivial⟩ | exact vi_lc (ih (i + 1) (by omega) (by omega) b_28 L2 H2 (by omega) (hm2.to (fun a c q1 q2 q3 q4 => by by_cases hac : 25 * c + a = i; (rw [hac, hok]; simp); (rw [show decide (25 * c + a < i + 1) = decide (25 * c + a < i) by congr 1; apply propext; omega]))) hf3 (fun k p1 p2 => (hf4 k p1).trans (ef k p1 p2))) ⟨rfl, rfl, rfl, trivial⟩
      · intro L2 H2 hok hf3 hf4
        have hm2 : wb_Ms b_28 (b + 6) pb t gu _ := hm1.fr (fun k q1 q2 => hf4 k (by omega))
        refine vi_if_eq 17 rfl (by omega) (fun _ => ?_) (fun c => absurd c (by decide))
        refine vi_iinc 27 rfl rfl rfl ?_
        refine vi_goto 28 rfl ?_
        first | exact vi_lc (ih (i + 1) (by omega) (by omega) w3 L2 H2 (by omega) (hm3.to (fun a c q1 q2 q3 q4 => by by_cases hac : 25 * c + a = i; (rw [hac]; obtain ⟨z1, z2⟩ := (sp a c q1 q2 q3 q4).mp hac; simp [← z1, ← z2, hok, show i < i + 1 by omega]); (have : ¬ (a = i % 25 ∧ c = i / 25) := fun q => hac ((sp a c q1 q2 q3 q4).mpr q); rw [show decide (25 * c + a < i + 1) = decide (25 * c + a < i) by congr 1; apply propext; omega]; simp; omega))) (hf3.fr (fun k q1 q2 => hf5 k (by omega))) (fun k p1 p2 => (hf5 k (by omega)).trans ((hf4 k p1).trans (ef k p1 p2)))) ⟨rfl, rfl, rfl, trivial⟩ | exact vi_lc (ih (i + 1) (by omega) (by omega) b_28 L2 H2 (by omega) (hm2.to (fun a c q1 q2 q3 q4 => by by_cases hac : 25 * c + a = i; (rw [hac, hok]; simp); (rw [show decide (25 * c + a < i + 1) = decide (25 * c + a < i) by congr 1; apply propext; omega]))) hf3 (fun k p1 p2 => (hf4 k p1).trans (ef k p1 p2))) ⟨rfl, rfl, rfl, trivial⟩
  have hms' := hms
  obtain ⟨_, _, y0, -⟩ := hms'
  refine vi_aload_n 0 rfl rfl ?_
  refine vi_get 1 rfl f_X2_39 h0 rfl rfl ?_
  refine vi_aload_n 2 rfl rfl ?_
  refine vi_get 3 rfl f_X2_43 h0 rfl rfl ?_
  refine vi_aload_n 4 rfl rfl ?_
  refine vi_get 5 rfl f_X2_18 h0 rfl rfl ?_
  refine vi_V2 6 ok_X4_close rfl c_X2_71 y0 rfl rfl ?_
  refine sp_X4_close hms (fun w2 hm2 hf2 => ?_)
  refine vi_iconst 7 rfl ?_
  refine vi_istore_n 8 rfl rfl ?_
  exact vi_lc (lp 0 (by omega) w2 L H (by omega) (hm2.to (fun a c q1 q2 q3 q4 => by simp [show ¬ 25 * c + a < 0 by omega])) (hfl.fr (fun k q1 q2 => hf2 k (by omega))) (fun k p1 p2 => hf2 k (by omega))) ⟨rfl, rfl, rfl, trivial⟩
end WBS24
