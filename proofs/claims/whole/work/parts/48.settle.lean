/-! ===== all is weighed; what settles most, what hides ===== -/
def wb_wq (n : Int) (c s : Int → Int) (sd sf : Int) (K : Int → Bool) (hl : Int) (ms ff : Int → Int) (P : Int → Int → Prop) : Prop := ∀ m t, 0 ≤ m → m < n → 0 ≤ t → t < 3 → P m t → ms (3 * m + t) = wb_MX n c s sd sf K hl m t ∧ ∀ i, 0 ≤ i → i < 9 → ff ((3 * m + t) * 9 + i) = wb_HD n c s sd sf K hl m t i
def wb_MP (n : Int) (c s : Int → Int) (sd sf : Int) (K : Int → Bool) (hl p : Int) : Int := wb_MX n c s sd sf K hl (p / 3) (p % 3)
def wb_HP (n : Int) (c s : Int → Int) (sd sf : Int) (K : Int → Bool) (hl a : Int) : Int := wb_HD n c s sd sf K hl (a / 9 / 3) (a / 9 % 3) (a % 9)
def wb_pd (c : Int → Int) (a : Int) : Int := c (9 * (a / 9 / 3) + (6 + a / 9 % 3)) * (a % 9 + 1)
theorem wb_pd_rg {n : Int} {c s : Int → Int} {sd sf a : Int} (hR : wb_BR n c s sd sf) : 0 ≤ wb_pd c a ∧ wb_pd c a ≤ 891 := by
  have h1 := hR.2.1 (9 * (a / 9 / 3) + (6 + a / 9 % 3))
  unfold wb_pd
  have h2 : 0 ≤ a % 9 + 1 ∧ a % 9 + 1 ≤ 9 := by omega
  have h3 : c (9 * (a / 9 / 3) + (6 + a / 9 % 3)) * (a % 9 + 1) ≤ 99 * 9 := Int.mul_le_mul h1.2 h2.2 h2.1 (by omega)
  have h4 := Int.mul_nonneg h1.1 h2.1
  omega
theorem wb_MX_rg {n : Int} {c s : Int → Int} {sd sf : Int} {K : Int → Bool} {hl m t : Int} : 0 ≤ wb_MX n c s sd sf K hl m t ∧ wb_MX n c s sd sf K hl m t ≤ 9765625 := by
  unfold wb_MX
  exact wb_mx_rg (by omega) _ (fun i _ _ => wb_CN_rg.2)
theorem wb_wv_m {n : Int} {c s : Int → Int} {sd sf : Int} {K : Int → Bool} {hl : Int} {ms ff : Int → Int} (h : wb_wv n c s sd sf K hl ms ff) {p : Int} (hp : 0 ≤ p ∧ p < 3 * n) : ms p = wb_MP n c s sd sf K hl p := by
  have := (h (p / 3) (p % 3) (by omega) (by omega) (by omega) (by omega)).1
  rw [show 3 * (p / 3) + p % 3 = p by omega] at this
  exact this
theorem wb_wv_h {n : Int} {c s : Int → Int} {sd sf : Int} {K : Int → Bool} {hl : Int} {ms ff : Int → Int} (h : wb_wv n c s sd sf K hl ms ff) {a : Int} (ha : 0 ≤ a ∧ a < 27 * n) : ff a = wb_HP n c s sd sf K hl a := by
  have := (h (a / 9 / 3) (a / 9 % 3) (by omega) (by omega) (by omega) (by omega)).2 (a % 9) (by omega) (by omega)
  rw [show (3 * (a / 9 / 3) + a / 9 % 3) * 9 + a % 9 = a by omega] at this
  exact this
/-- the place that settles most -/
def wb_sg (n : Int) (c s : Int → Int) (sd sf : Int) (K : Int → Bool) (hl r : Int) : Prop := (0 ≤ r ∧ r < 3 * n) ∧ ∀ j, 0 ≤ j → j < 3 * n → wb_MP n c s sd sf K hl r ≤ wb_MP n c s sd sf K hl j ∧ (wb_MP n c s sd sf K hl j = wb_MP n c s sd sf K hl r → r ≤ j)
/-- the place that hides best for a purse -/
def wb_hd (n : Int) (c s : Int → Int) (sd sf : Int) (K : Int → Bool) (hl pu e r : Int) : Prop := (r = -1 ∧ ∀ j, 0 ≤ j → j < e → pu < wb_pd c j) ∨ ((0 ≤ r ∧ r < e) ∧ wb_pd c r ≤ pu ∧ ∀ j, 0 ≤ j → j < e → wb_pd c j ≤ pu → wb_HP n c s sd sf K hl j < wb_HP n c s sd sf K hl r ∨ (wb_HP n c s sd sf K hl j = wb_HP n c s sd sf K hl r ∧ (wb_pd c r < wb_pd c j ∨ (wb_pd c r = wb_pd c j ∧ r ≤ j))))
section WBS48
variable {G : wb_G} {N : Nat} {w : wb_W} {Q : Option Value → Nat → wb_W → Prop}
variable {n : Int} {c s : Int → Int} {sd sf bo tu : Int} {g : Int → Int64} {K : Int → Bool} {hl ct mt : Int} {xt : Int} {wf cf ms ff : Int → Int}
theorem sp_X9_weighAll (hwe : wb_We w xt wf cf ms ff) (h90 : ∃ g, wb_Mw w 90 g) (hbk : wb_Bk w 4 n c s sd sf bo tu g) (hR : wb_BR n c s sd sf) (hK : wb_rp g K) (htu : 1 ≤ tu) (hwk : wb_Wk w n c s sd sf tu K hl tu ct mt) (hxt : 0 ≤ xt ∧ xt ≤ tu) (hval : xt = tu → wb_wv n c s sd sf K hl ms ff)
    (hQ : ∀ (w' : wb_W) (wf' cf' ms' ff' : Int → Int) (mt' : Int), wb_wv n c s sd sf K hl ms' ff' → wb_We w' tu wf' cf' ms' ff' → (∃ g, wb_Mw w' 90 g) → wb_Wk w' n c s sd sf tu K hl tu tu mt' → (∀ k, (k < 29 ∨ (81 ≤ k ∧ k < 89) ∨ 96 ≤ k) → w' k = w k) → Q none N w') : wb_M G M_X9_weighAll [.ref 89] N w Q := by
  unfold wb_M
  have hn := hR.1
  have htm := hwk.2.2.2.2.2.2.1
  have hHL : wb_HL hl n c sd sf := (hwk.2.2.2.2.2.2.2 rfl).1
  have hhl := (hHL.rg hR).1
  have lp1 : ∀ w0 : wb_W, wb_Wk w0 n c s sd sf tu K hl tu tu tu → (∀ k, (k < 29 ∨ (81 ≤ k ∧ k < 89) ∨ 96 ≤ k) → w0 k = w k) → ∀ i, i ≤ 3 → ∀ (w1 : wb_W) (wf1 cf1 ms1 ff1 : Int → Int) (g1 : Int → Int64), 0 ≤ i → wb_wq n c s sd sf K hl ms1 ff1 (fun _ t => t < i) → wb_We w1 tu wf1 cf1 ms1 ff1 → wb_Mw w1 90 g1 → (∀ k, (k < 89 ∨ 96 ≤ k) → w1 k = w0 k) → wb_V G M_X9_weighAll 42 [(0, .ref 89), (1, .int (wb_i i))] [] N w1 0 0 Q := by
    intro w0 hwk0 ef0
    refine wb_up 3 _ ?_
    intro i ih hi w1 wf1 cf1 ms1 ff1 g1 hi0 hwq hwe1 hm1 ef
    have hwk1 : wb_Wk w1 n c s sd sf tu K hl tu tu tu := hwk0.fr (fun k p1 p2 => ef k (by omega))
    have hbk1 : wb_Bk w1 4 n c s sd sf bo tu g := hbk.fr (fun k p1 p2 => (ef k (by omega)).trans (ef0 k (by omega)))
    have hce1 : ∀ t, 0 ≤ t → t < 3 → wb_Ce w1 hl n c s sd sf t True True := fun t t1 t2 => ((hwk1.2.2.2.2.2.2.2 rfl).2.2.2 t t1 t2).no (fun _ => rfl) (fun _ => rfl)
    have lp2 : i < 3 → ∀ wf1 : Int → Int, (∀ k, 0 ≤ k → k < 625 → wf1 k = wb_wg n c s sd sf K hl i k) → ∀ j, j ≤ n → ∀ (w1 : wb_W) (cf1 ms1 ff1 : Int → Int) (g1 : Int → Int64), 0 ≤ j → wb_wq n c s sd sf K hl ms1 ff1 (fun m t => t < i ∨ (t = i ∧ m < j)) → wb_We w1 tu wf1 cf1 ms1 ff1 → wb_Mw w1 90 g1 → (∀ k, (k < 89 ∨ 96 ≤ k) → w1 k = w0 k) → wb_V G M_X9_weighAll 54 [(0, .ref 89), (1, .int (wb_i i)), (2, .int (wb_i j))] [] N w1 0 0 Q := by
      intro hi3 wf1 hwf1
      refine wb_up n _ ?_
      intro j jh hj w1 cf1 ms1 ff1 g1 hj0 hwq hwe1 hm1 ef
      have hwk1 : wb_Wk w1 n c s sd sf tu K hl tu tu tu := hwk0.fr (fun k p1 p2 => ef k (by omega))
      have hwo1 := hwk1.1
      have hbk1 : wb_Bk w1 4 n c s sd sf bo tu g := hbk.fr (fun k p1 p2 => (ef k (by omega)).trans (ef0 k (by omega)))
      have hce1 : wb_Ce w1 hl n c s sd sf i True True := ((hwk1.2.2.2.2.2.2.2 rfl).2.2.2 i hi0 hi3).no (fun _ => rfl) (fun _ => rfl)
      have e0 := hwe1.1
      refine vi_iload_n 28 rfl rfl ?_
      refine vi_aload_n 29 rfl rfl ?_
      refine vi_get 30 rfl f_X9_31 e0 rfl rfl ?_
      refine vi_get 31 rfl f_X9_38 hwo1.1 rfl rfl ?_
      refine vi_get 32 rfl f_X9_44 hbk1.1 rfl rfl ?_
      refine vi_icmp_ge 33 rfl (by omega) (by omega) (fun c_65 => ?_) (fun c_65 => ?_)
      · refine vi_iinc 51 rfl rfl rfl ?_
        refine vi_goto 52 rfl ?_
        exact vi_lc (ih (i + 1) (by omega) (by omega) w1 wf1 cf1 ms1 ff1 g1 (by omega) (fun m t m1 m2 t1 t2 hP => hwq m t m1 m2 t1 t2 (by omega)) hwe1 hm1 ef) ⟨rfl, rfl, trivial⟩
      · refine vi_iload_n 34 rfl rfl ?_
        refine vi_bipush 35 rfl (by decide) ?_
        refine vi_icmp_ge 36 rfl (by omega) (by omega) (fun c_71 => by exfalso; omega) (fun c_71 => ?_)
        refine vi_aload_n 37 rfl rfl ?_
        refine vi_aload_n 38 rfl rfl ?_
        refine vi_get 39 rfl f_X9_31 e0 rfl rfl ?_
        refine vi_iload_n 40 rfl rfl ?_
        refine vi_V1 41 ok_X10_course rfl c_X9_76 hwo1.1 rfl rfl ?_
        refine sp_X10_course ‹_› (by omega) (by omega) ?_
        refine vi_iload_n 42 rfl rfl ?_
        refine vi_iload_n 43 rfl rfl ?_
        refine vi_iconst 44 rfl ?_
        refine vi_imul 45 rfl ?_
        refine vi_iload_n 46 rfl rfl ?_
        refine vi_iadd 47 rfl ?_
        refine vi_V3 48 ok_X9_weigh rfl c_X9_80 e0 rfl rfl ?_
        refine sp_X9_weigh hwe1 hwf1 hwo1 hbk1 hR hHL hce1 ⟨hi0, hi3⟩ (by omega) (fun w2 cf2 ms2 ff2 hms2 hff2 hwe2 hf2 => ?_)
        refine vi_iinc 49 rfl rfl rfl ?_
        refine vi_goto 50 rfl ?_
        refine vi_lc (jh (j + 1) (by omega) (by omega) w2 cf2 ms2 ff2 g1 (by omega) (fun m t m1 m2 t1 t2 hP => ?_) hwe2 (hm1.fr (fun k p1 p2 => hf2 k (by omega))) (fun k hk => (hf2 k (by omega)).trans (ef k hk))) ⟨rfl, rfl, rfl, trivial⟩
        rw [hms2 _ (by omega) (by omega)]
        by_cases e : m = j ∧ t = i
        · obtain ⟨rfl, rfl⟩ := e; refine ⟨by rw [if_pos (by omega)], fun l l1 l2 => ?_⟩; rw [hff2 _ (by omega) (by omega), if_pos (by omega), show ((3 * m + t) * 9 + l) % 9 = l by omega]
        · have hold := hwq m t m1 m2 t1 t2 (by omega); refine ⟨by rw [if_neg (by omega)]; exact hold.1, fun l l1 l2 => ?_⟩; rw [hff2 _ (by omega) (by omega), if_neg (by omega)]; exact hold.2 l l1 l2
    have e0 := hwe1.1
    refine vi_iload_n 20 rfl rfl ?_
    refine vi_iconst 21 rfl ?_
    refine vi_icmp_ge 22 rfl (by omega) (by omega) (fun c_44 => ?_) (fun c_44 => ?_)
    · exact vi_return 53 rfl rfl (Nat.zero_le _) (Nat.zero_le _) (hQ w1 wf1 cf1 ms1 ff1 tu (fun m t m1 m2 t1 t2 => hwq m t m1 m2 t1 t2 (by omega)) hwe1 ⟨g1, hm1⟩ hwk1 (fun k hk => (ef k (by omega)).trans (ef0 k hk)))
    · refine vi_aload_n 23 rfl rfl ?_
      refine vi_iload_n 24 rfl rfl ?_
      refine vi_V1 25 ok_X9_setWeights rfl c_X9_72 e0 rfl rfl ?_
      refine sp_X9_setWeights hwe1 hm1 hwk1.1 hbk1 hR hK hHL hce1 (by omega) (fun w2 wf2 g2 hwf2 hwe2 hm2 hf2 => ?_)
      refine vi_iconst 26 rfl ?_
      refine vi_istore_n 27 rfl rfl ?_
      exact vi_lc (lp2 (by omega) wf2 hwf2 0 (by omega) w2 cf1 ms1 ff1 g2 (by omega) (fun m t m1 m2 t1 t2 hP => hwq m t m1 m2 t1 t2 (by omega)) hwe2 hm2 (fun k hk => (hf2 k (by omega) (by omega)).trans (ef k hk))) ⟨rfl, rfl, rfl, trivial⟩
  obtain ⟨g9, h90⟩ := h90
  have e0 := hwe.1
  refine vi_aload_n 0 rfl rfl ?_
  refine vi_get 1 rfl f_X9_31 e0 rfl rfl ?_
  refine vi_V0 2 ok_X10_chart rfl c_X9_62 hwk.1.1 rfl rfl ?_
  refine wb_wk_chart hbk hR htu hwk (fun w2 hwk2 hf2 => ?_)
  have hwe2 : wb_We w2 xt wf cf ms ff := hwe.fr (fun k hk => hf2 k (by omega))
  have e02 := hwe2.1
  have hbk2 : wb_Bk w2 4 n c s sd sf bo tu g := hbk.fr (fun k p1 p2 => hf2 k (by omega))
  have h902 : wb_Mw w2 90 g9 := h90.fr (fun k p1 p2 => hf2 k (by omega))
  refine vi_aload_n 3 rfl rfl ?_
  refine vi_get 4 rfl f_X9_65 e02 rfl rfl ?_
  refine vi_aload_n 5 rfl rfl ?_
  refine vi_get 6 rfl f_X9_31 e02 rfl rfl ?_
  refine vi_get 7 rfl f_X9_68 hwk2.1.1 rfl rfl ?_
  refine vi_icmp_ne 8 rfl (by omega) (by omega) (fun c_18 => ?_) (fun c_18 => ?_)
  · refine vi_aload_n 10 rfl rfl ?_
    refine vi_aload_n 11 rfl rfl ?_
    refine vi_get 12 rfl f_X9_31 e02 rfl rfl ?_
    refine vi_get 13 rfl f_X9_68 hwk2.1.1 rfl rfl ?_
    refine vi_put 14 rfl f_X9_65 e02 rfl rfl rfl rfl ?_
    refine vi_aload_n 15 rfl rfl ?_
    refine vi_get 16 rfl f_X9_31 wb_ups rfl rfl ?_
    refine vi_V0 17 ok_X10_strain rfl c_X9_69 ((wb_upn (by omega)).trans hwk2.1.1) rfl rfl ?_
    refine wb_wk_strain (hbk2.fr (fun k p1 p2 => wb_upn (by omega))) hR htu (hwk2.fr (fun k p1 p2 => wb_upn (by omega))) (fun w3 hwk3 hf3 => ?_)
    have hwe3 : wb_We w3 tu wf cf ms ff := ⟨(hf3 _ (by omega)).trans wb_ups, (hf3 _ (by omega)).trans ((wb_upn (by omega)).trans hwe2.2.1), (hf3 _ (by omega)).trans ((wb_upn (by omega)).trans hwe2.2.2.1), (hf3 _ (by omega)).trans ((wb_upn (by omega)).trans hwe2.2.2.2.1), (hf3 _ (by omega)).trans ((wb_upn (by omega)).trans hwe2.2.2.2.2)⟩
    refine vi_iconst 18 rfl ?_
    refine vi_istore_n 19 rfl rfl ?_
    exact vi_lc (lp1 w3 hwk3 (fun k hk => (hf3 k (by omega)).trans ((wb_upn (by omega)).trans (hf2 k (by omega)))) 0 (by omega) w3 wf cf ms ff g9 (by omega) (fun m t m1 m2 t1 t2 hP => by omega) hwe3 (h902.fr (fun k p1 p2 => (hf3 k (by omega)).trans (wb_upn (by omega)))) (fun _ _ => rfl)) ⟨rfl, rfl, trivial⟩
  · exact vi_return 9 rfl rfl (Nat.zero_le _) (Nat.zero_le _) (hQ w2 wf cf ms ff mt (hval (by omega)) (by have := hwe2; rw [show xt = tu by omega] at this; exact this) ⟨g9, h902⟩ hwk2 (fun k hk => hf2 k (by omega)))
theorem sp_X9_mostLeft {p : Int} (hwe : wb_We w xt wf cf ms ff) (hp : 0 ≤ p ∧ p < 24) (hQ : Q (some (.int (wb_i (ms p)))) N w) : wb_M G M_X9_mostLeft [.ref 89, .int (wb_i p)] N w Q := by
  unfold wb_M
  obtain ⟨e0, e1, e2, e3, e4⟩ := hwe
  refine vi_iload_n 0 rfl rfl ?_
  refine vi_if_lt 1 rfl (by omega) (fun c_1 => by exfalso; omega) (fun c_1 => ?_)
  refine vi_iload_n 2 rfl rfl ?_
  refine vi_bipush 3 rfl (by decide) ?_
  refine vi_icmp_ge 4 rfl (by omega) (by omega) (fun c_7 => by exfalso; omega) (fun c_7 => ?_)
  refine vi_aload_n 5 rfl rfl ?_
  refine vi_get 6 rfl f_X9_25 e0 rfl rfl ?_
  refine vi_iload_n 7 rfl rfl ?_
  refine vi_iald 8 rfl e3 (by omega) ?_
  refine vi_goto 9 rfl ?_
  exact vi_ireturn 11 rfl rfl rfl (Nat.zero_le _) (Nat.zero_le _) (hQ)
theorem sp_X9_hidden {p : Int} (hwe : wb_We w xt wf cf ms ff) (hp : 0 ≤ p ∧ p < 216) (hQ : Q (some (.int (wb_i (ff p)))) N w) : wb_M G M_X9_hidden [.ref 89, .int (wb_i p)] N w Q := by
  unfold wb_M
  obtain ⟨e0, e1, e2, e3, e4⟩ := hwe
  refine vi_iload_n 0 rfl rfl ?_
  refine vi_if_lt 1 rfl (by omega) (fun c_1 => by exfalso; omega) (fun c_1 => ?_)
  refine vi_iload_n 2 rfl rfl ?_
  refine vi_aload_n 3 rfl rfl ?_
  refine vi_get 4 rfl f_X9_28 e0 rfl rfl ?_
  refine vi_alen 5 rfl e4 rfl ?_
  refine vi_icmp_ge 6 rfl (by omega) (by omega) (fun c_10 => by exfalso; omega) (fun c_10 => ?_)
  refine vi_aload_n 7 rfl rfl ?_
  refine vi_get 8 rfl f_X9_28 e0 rfl rfl ?_
  refine vi_iload_n 9 rfl rfl ?_
  refine vi_iald 10 rfl e4 (by omega) ?_
  refine vi_goto 11 rfl ?_
  exact vi_ireturn 13 rfl rfl rfl (Nat.zero_le _) (Nat.zero_le _) (hQ)
theorem sp_X9_isBetter {a pa f fc : Int} (hwe : wb_We w xt wf cf ms ff) (ha : 0 ≤ a ∧ a < 216) (hf : 0 ≤ f ∧ f < 216) (hpa : 0 ≤ pa ∧ pa ≤ 1000) (hfc : 0 ≤ fc ∧ fc ≤ 1000) (hra : 0 ≤ ff a ∧ ff a ≤ 9765625) (hrf : 0 ≤ ff f ∧ ff f ≤ 9765625)
    (k1 : (ff f < ff a ∨ (ff a = ff f ∧ pa < fc)) → Q (some (.int (wb_i 1))) N w) (k0 : ¬ (ff f < ff a ∨ (ff a = ff f ∧ pa < fc)) → Q (some (.int (wb_i 0))) N w) : wb_M G M_X9_isBetter [.ref 89, .int (wb_i a), .int (wb_i pa), .int (wb_i f), .int (wb_i fc)] N w Q := by
  unfold wb_M
  have e0 := hwe.1
  refine vi_aload_n 0 rfl rfl ?_
  refine vi_iload_n 1 rfl rfl ?_
  refine vi_V1 2 ok_X9_hidden rfl c_X9_58 e0 rfl rfl ?_
  refine sp_X9_hidden hwe ha ?_
  refine vi_aload_n 3 rfl rfl ?_
  refine vi_iload_n 4 rfl rfl ?_
  refine vi_V1 5 ok_X9_hidden rfl c_X9_58 e0 rfl rfl ?_
  refine sp_X9_hidden hwe hf ?_
  refine vi_icmp_gt 6 rfl (by omega) (by omega) (fun c_10 => ?_) (fun c_10 => ?_)
  · refine vi_iconst 17 rfl ?_
    refine vi_goto 18 rfl ?_
    exact vi_ireturn 20 rfl rfl rfl (Nat.zero_le _) (Nat.zero_le _) (k1 (by omega))
  · refine vi_aload_n 7 rfl rfl ?_
    refine vi_iload_n 8 rfl rfl ?_
    refine vi_V1 9 ok_X9_hidden rfl c_X9_58 e0 rfl rfl ?_
    refine sp_X9_hidden hwe ha ?_
    refine vi_aload_n 10 rfl rfl ?_
    refine vi_iload_n 11 rfl rfl ?_
    refine vi_V1 12 ok_X9_hidden rfl c_X9_58 e0 rfl rfl ?_
    refine sp_X9_hidden hwe hf ?_
    refine vi_icmp_ne 13 rfl (by omega) (by omega) (fun c_23 => ?_) (fun c_23 => ?_)
    · refine vi_iconst 19 rfl ?_
      exact vi_ireturn 20 rfl rfl rfl (Nat.zero_le _) (Nat.zero_le _) (k0 (by omega))
    · refine vi_iload_n 14 rfl rfl ?_
      refine vi_iload 15 rfl rfl ?_
      refine vi_icmp_ge 16 rfl (by omega) (by omega) (fun c_29 => ?_) (fun c_29 => ?_)
      · refine vi_iconst 19 rfl ?_
        exact vi_ireturn 20 rfl rfl rfl (Nat.zero_le _) (Nat.zero_le _) (k0 (by omega))
      · refine vi_iconst 17 rfl ?_
        refine vi_goto 18 rfl ?_
        exact vi_ireturn 20 rfl rfl rfl (Nat.zero_le _) (Nat.zero_le _) (k1 (by omega))
theorem sp_X9_settling (hwe : wb_We w xt wf cf ms ff) (h90 : ∃ g, wb_Mw w 90 g) (hbk : wb_Bk w 4 n c s sd sf bo tu g) (hR : wb_BR n c s sd sf) (hK : wb_rp g K) (htu : 1 ≤ tu) (hwk : wb_Wk w n c s sd sf tu K hl tu ct mt) (hxt : 0 ≤ xt ∧ xt ≤ tu) (hval : xt = tu → wb_wv n c s sd sf K hl ms ff) (hn1 : 1 ≤ n)
    (hQ : ∀ (w' : wb_W) (wf' cf' ms' ff' : Int → Int) (mt' r : Int), wb_sg n c s sd sf K hl r → wb_wv n c s sd sf K hl ms' ff' → wb_We w' tu wf' cf' ms' ff' → (∃ g, wb_Mw w' 90 g) → wb_Wk w' n c s sd sf tu K hl tu tu mt' → (∀ k, (k < 29 ∨ (81 ≤ k ∧ k < 89) ∨ 96 ≤ k) → w' k = w k) → Q (some (.int (wb_i r))) N w') : wb_M G M_X9_settling [.ref 89] N w Q := by
  unfold wb_M
  have hn := hR.1
  have e0 := hwe.1
  refine vi_aload_n 0 rfl rfl ?_
  refine vi_V0 1 ok_X9_weighAll rfl c_X9_35 e0 rfl rfl ?_
  refine sp_X9_weighAll hwe h90 hbk hR hK htu hwk hxt hval (fun w2 wf2 cf2 ms2 ff2 mt2 hwv2 hwe2 h902 hwk2 hf2 => ?_)
  have hbk2 : wb_Bk w2 4 n c s sd sf bo tu g := hbk.fr (fun k p1 p2 => hf2 k (by omega))
  refine vi_iconst 2 rfl ?_
  refine vi_istore_n 3 rfl rfl ?_
  refine vi_iconst 4 rfl ?_
  refine vi_istore_n 5 rfl rfl ?_
  suffices lp : ∀ i, i ≤ 3 * n → ∀ f : Int, 1 ≤ i → (0 ≤ f ∧ f < i) → (∀ j, 0 ≤ j → j < i → wb_MP n c s sd sf K hl f ≤ wb_MP n c s sd sf K hl j ∧ (wb_MP n c s sd sf K hl j = wb_MP n c s sd sf K hl f → f ≤ j)) → wb_V G M_X9_settling 8 [(0, .ref 89), (1, .int (wb_i f)), (2, .int (wb_i i))] [] N w2 0 0 Q by exact vi_lc (lp 1 (by omega) 0 (by omega) (by omega) (fun j j1 j2 => by rw [show j = 0 by omega]; exact ⟨Int.le_refl _, fun _ => Int.le_refl _⟩)) ⟨rfl, rfl, rfl, trivial⟩
  refine wb_up (3 * n) _ ?_
  intro i ih hi f hi0 hf hmin
  obtain ⟨e0, e1, e2, e3, e4⟩ := id hwe2
  have hri := wb_MX_rg (n := n) (c := c) (s := s) (sd := sd) (sf := sf) (K := K) (hl := hl) (m := i / 3) (t := i % 3)
  have hrf := wb_MX_rg (n := n) (c := c) (s := s) (sd := sd) (sf := sf) (K := K) (hl := hl) (m := f / 3) (t := f % 3)
  have hvi := fun q : i < 3 * n => wb_wv_m hwv2 (p := i) ⟨by omega, q⟩
  have hvf := wb_wv_m hwv2 (p := f) ⟨hf.1, by omega⟩
  change 0 ≤ wb_MP n c s sd sf K hl i ∧ wb_MP n c s sd sf K hl i ≤ 9765625 at hri
  change 0 ≤ wb_MP n c s sd sf K hl f ∧ wb_MP n c s sd sf K hl f ≤ 9765625 at hrf
  refine vi_iload_n 6 rfl rfl ?_
  refine vi_aload_n 7 rfl rfl ?_
  refine vi_get 8 rfl f_X9_31 e0 rfl rfl ?_
  refine vi_get 9 rfl f_X9_38 hwk2.1.1 rfl rfl ?_
  refine vi_get 10 rfl f_X9_44 hbk2.1 rfl rfl ?_
  refine vi_iconst 11 rfl ?_
  refine vi_imul 12 rfl ?_
  refine vi_icmp_ge 13 rfl (by omega) (by omega) (fun c_21 => ?_) (fun c_21 => ?_)
  · refine vi_iload_n 30 rfl rfl ?_
    exact vi_ireturn 31 rfl rfl rfl (Nat.zero_le _) (Nat.zero_le _) (hQ w2 wf2 cf2 ms2 ff2 mt2 f ⟨by omega, fun j j1 j2 => hmin j j1 (by omega)⟩ hwv2 hwe2 h902 hwk2 hf2)
  · refine vi_iload_n 14 rfl rfl ?_
    refine vi_bipush 15 rfl (by decide) ?_
    refine vi_icmp_ge 16 rfl (by omega) (by omega) (fun c_27 => by exfalso; omega) (fun c_27 => ?_)
    refine vi_aload_n 17 rfl rfl ?_
    refine vi_get 18 rfl f_X9_25 e0 rfl rfl ?_
    refine vi_iload_n 19 rfl rfl ?_
    refine vi_iald 20 rfl e3 (by omega) ?_
    refine vi_aload_n 21 rfl rfl ?_
    refine vi_get 22 rfl f_X9_25 e0 rfl rfl ?_
    refine vi_iload_n 23 rfl rfl ?_
    refine vi_iald 24 rfl e3 (by omega) ?_
    rw [hvi (by omega), hvf]
    refine vi_icmp_ge 25 rfl (by omega) (by omega) (fun c_42 => ?_) (fun c_42 => ?_)
    · refine vi_iinc 28 rfl rfl rfl ?_
      refine vi_goto 29 rfl ?_
      first | exact vi_lc (ih (i + 1) (by omega) (by omega) i (by omega) (by omega) (fun j j1 j2 => by by_cases e : j = i; (rw [e]; exact ⟨Int.le_refl _, fun _ => Int.le_refl _⟩); (have := hmin j j1 (by omega); omega))) ⟨rfl, rfl, rfl, trivial⟩ | exact vi_lc (ih (i + 1) (by omega) (by omega) f (by omega) (by omega) (fun j j1 j2 => by by_cases e : j = i; (rw [e]; omega); exact hmin j j1 (by omega))) ⟨rfl, rfl, rfl, trivial⟩
    · refine vi_iload_n 26 rfl rfl ?_
      refine vi_istore_n 27 rfl rfl ?_
      refine vi_iinc 28 rfl rfl rfl ?_
      refine vi_goto 29 rfl ?_
      first | exact vi_lc (ih (i + 1) (by omega) (by omega) i (by omega) (by omega) (fun j j1 j2 => by by_cases e : j = i; (rw [e]; exact ⟨Int.le_refl _, fun _ => Int.le_refl _⟩); (have := hmin j j1 (by omega); omega))) ⟨rfl, rfl, rfl, trivial⟩ | exact vi_lc (ih (i + 1) (by omega) (by omega) f (by omega) (by omega) (fun j j1 j2 => by by_cases e : j = i; (rw [e]; omega); exact hmin j j1 (by omega))) ⟨rfl, rfl, rfl, trivial⟩
theorem sp_X9_hiding {pu : Int} (hwe : wb_We w xt wf cf ms ff) (h90 : ∃ g, wb_Mw w 90 g) (hbk : wb_Bk w 4 n c s sd sf bo tu g) (hR : wb_BR n c s sd sf) (hK : wb_rp g K) (htu : 1 ≤ tu) (hwk : wb_Wk w n c s sd sf tu K hl tu ct mt) (hxt : 0 ≤ xt ∧ xt ≤ tu) (hval : xt = tu → wb_wv n c s sd sf K hl ms ff) (hpu : 0 ≤ pu ∧ pu ≤ 999)
    (hQ : ∀ (w' : wb_W) (wf' cf' ms' ff' : Int → Int) (mt' r : Int), wb_hd n c s sd sf K hl pu (27 * n) r → wb_wv n c s sd sf K hl ms' ff' → wb_We w' tu wf' cf' ms' ff' → (∃ g, wb_Mw w' 90 g) → wb_Wk w' n c s sd sf tu K hl tu tu mt' → (∀ k, (k < 29 ∨ (81 ≤ k ∧ k < 89) ∨ 96 ≤ k) → w' k = w k) → Q (some (.int (wb_i r))) N w') : wb_M G M_X9_hiding [.ref 89, .int (wb_i pu)] N w Q := by
  unfold wb_M
  have hn := hR.1
  have e0 := hwe.1
  refine vi_aload_n 0 rfl rfl ?_
  refine vi_V0 1 ok_X9_weighAll rfl c_X9_35 e0 rfl rfl ?_
  refine sp_X9_weighAll hwe h90 hbk hR hK htu hwk hxt hval (fun w2 wf2 cf2 ms2 ff2 mt2 hwv2 hwe2 h902 hwk2 hf2 => ?_)
  have hbk2 : wb_Bk w2 4 n c s sd sf bo tu g := hbk.fr (fun k p1 p2 => hf2 k (by omega))
  refine vi_iconst 2 rfl ?_
  refine vi_istore_n 3 rfl rfl ?_
  refine vi_iconst 4 rfl ?_
  refine vi_istore_n 5 rfl rfl ?_
  refine vi_iconst 6 rfl ?_
  refine vi_istore 7 rfl rfl ?_
  suffices lp : ∀ i, i ≤ 27 * n → ∀ f fc : Int, 0 ≤ i → (f = -1 → fc = 0) → (0 ≤ f → fc = wb_pd c f) → wb_hd n c s sd sf K hl pu i f → wb_V G M_X9_hiding 11 [(0, .ref 89), (1, .int (wb_i pu)), (2, .int (wb_i f)), (3, .int (wb_i fc)), (4, .int (wb_i i))] [] N w2 0 0 Q by exact vi_lc (lp 0 (by omega) (-1) 0 (by omega) (fun _ => rfl) (fun q => by omega) (Or.inl ⟨rfl, fun j j1 j2 => by omega⟩)) ⟨rfl, rfl, rfl, rfl, rfl, trivial⟩
  refine wb_up (27 * n) _ ?_
  intro i ih hi f fc hi0 hfn hfc hh
  obtain ⟨e0, e1, e2, e3, e4⟩ := id hwe2
  have hpi := wb_pd_rg (a := i) hR
  have hpf := wb_pd_rg (a := f) hR
  have hri := wb_CN_rg (n := n) (c := c) (s := s) (sd := sd) (sf := sf) (K := K) (hl := hl) (t := i / 9 % 3) (m := i / 9 / 3) (v := c (9 * (i / 9 / 3) + i / 9 % 3) + 1 + i % 9) (sl := c (9 * (i / 9 / 3) + 3))
  have hrf := wb_CN_rg (n := n) (c := c) (s := s) (sd := sd) (sf := sf) (K := K) (hl := hl) (t := f / 9 % 3) (m := f / 9 / 3) (v := c (9 * (f / 9 / 3) + f / 9 % 3) + 1 + f % 9) (sl := c (9 * (f / 9 / 3) + 3))
  change 0 ≤ wb_HP n c s sd sf K hl i ∧ wb_HP n c s sd sf K hl i ≤ 9765625 at hri
  change 0 ≤ wb_HP n c s sd sf K hl f ∧ wb_HP n c s sd sf K hl f ≤ 9765625 at hrf
  have hvi := fun q : i < 27 * n => wb_wv_h hwv2 (a := i) ⟨by omega, q⟩
  have hfr : -1 ≤ f ∧ f < 27 * n := by rcases hh with ⟨h1, _⟩ | ⟨h1, _⟩ <;> omega
  have hvf := fun q : 0 ≤ f => wb_wv_h hwv2 (a := f) ⟨q, by omega⟩
  have epd : c (9 * (i / 9 / 3) + (6 + i / 9 % 3)) * (i % 9 + 1) = wb_pd c i := rfl
  have hskip : (pu < wb_pd c i ∨ (0 ≤ f ∧ wb_pd c i ≤ pu ∧ (wb_HP n c s sd sf K hl i < wb_HP n c s sd sf K hl f ∨ (wb_HP n c s sd sf K hl i = wb_HP n c s sd sf K hl f ∧ wb_pd c f ≤ wb_pd c i)))) → wb_hd n c s sd sf K hl pu (i + 1) f := fun hs => by
    rcases hh with ⟨h1, h2⟩ | ⟨h1, h2, h3⟩
    · exact Or.inl ⟨h1, fun j j1 j2 => by by_cases e : j = i; (rw [e]; omega); exact h2 j j1 (by omega)⟩
    · refine Or.inr ⟨by omega, h2, fun j j1 j2 j3 => ?_⟩
      by_cases e : j = i
      · subst e; omega
      · exact h3 j j1 (by omega) j3
  have htake : wb_pd c i ≤ pu → (f < 0 ∨ wb_HP n c s sd sf K hl f < wb_HP n c s sd sf K hl i ∨ (wb_HP n c s sd sf K hl i = wb_HP n c s sd sf K hl f ∧ wb_pd c i < wb_pd c f)) → wb_hd n c s sd sf K hl pu (i + 1) i := fun hp hs => by
    refine Or.inr ⟨by omega, hp, fun j j1 j2 j3 => ?_⟩
    by_cases e : j = i
    · subst e; omega
    · rcases hh with ⟨h1, h2⟩ | ⟨h1, h2, h3⟩
      · have := h2 j j1 (by omega); omega
      · have := h3 j j1 (by omega) j3; omega
  refine vi_iload 8 rfl rfl ?_
  refine vi_aload_n 9 rfl rfl ?_
  refine vi_get 10 rfl f_X9_31 e0 rfl rfl ?_
  refine vi_get 11 rfl f_X9_38 hwk2.1.1 rfl rfl ?_
  refine vi_get 12 rfl f_X9_44 hbk2.1 rfl rfl ?_
  refine vi_iconst 13 rfl ?_
  refine vi_imul 14 rfl ?_
  refine vi_bipush 15 rfl (by decide) ?_
  refine vi_imul 16 rfl ?_
  refine vi_icmp_ge 17 rfl (by omega) (by omega) (fun c_28 => ?_) (fun c_28 => ?_)
  · refine vi_iload_n 66 rfl rfl ?_
    exact vi_ireturn 67 rfl rfl rfl (Nat.zero_le _) (Nat.zero_le _) (hQ w2 wf2 cf2 ms2 ff2 mt2 f (by rw [show 27 * n = i by omega]; exact hh) hwv2 hwe2 h902 hwk2 hf2)
  · refine vi_iload 18 rfl rfl ?_
    refine vi_aload_n 19 rfl rfl ?_
    refine vi_get 20 rfl f_X9_28 e0 rfl rfl ?_
    refine vi_alen 21 rfl e4 rfl ?_
    refine vi_icmp_ge 22 rfl (by omega) (by omega) (fun c_38 => by exfalso; omega) (fun c_38 => ?_)
    refine vi_aload_n 23 rfl rfl ?_
    refine vi_get 24 rfl f_X9_31 e0 rfl rfl ?_
    refine vi_get 25 rfl f_X9_38 hwk2.1.1 rfl rfl ?_
    refine vi_iload 26 rfl rfl ?_
    refine vi_bipush 27 rfl (by decide) ?_
    refine vi_idiv 28 rfl (by omega) (by omega) ?_
    refine vi_iconst 29 rfl ?_
    refine vi_idiv 30 rfl (by omega) (by omega) ?_
    refine vi_bipush 31 rfl (by decide) ?_
    refine vi_iload 32 rfl rfl ?_
    refine vi_bipush 33 rfl (by decide) ?_
    refine vi_idiv 34 rfl (by omega) (by omega) ?_
    refine vi_iconst 35 rfl ?_
    refine vi_irem 36 rfl (by omega) (by omega) ?_
    refine vi_iadd 37 rfl ?_
    refine vi_V2 38 ok_X0_cell rfl c_X9_50 hbk2.1 rfl rfl ?_
    refine sp_X0_cell hbk2 (by omega) (by omega) ?_
    rw [if_pos (by omega)]
    refine vi_istore 39 rfl rfl ?_
    refine vi_iload 40 rfl rfl ?_
    refine vi_iload 41 rfl rfl ?_
    refine vi_bipush 42 rfl (by decide) ?_
    refine vi_irem 43 rfl (by omega) (by omega) ?_
    refine vi_iconst 44 rfl ?_
    refine vi_iadd 45 rfl ?_
    refine vi_imul 46 rfl ?_
    rw [epd]
    refine vi_istore 47 rfl rfl ?_
    refine vi_iload 48 rfl rfl ?_
    refine vi_iload_n 49 rfl rfl ?_
    refine vi_icmp_gt 50 rfl (by omega) (by omega) (fun c_85 => ?_) (fun c_85 => ?_)
    · refine vi_iinc 64 rfl rfl rfl ?_
      refine vi_goto 65 rfl ?_
      first | exact vi_lc (ih (i + 1) (by omega) (by omega) f fc (by omega) hfn hfc (hskip (by omega))) ⟨rfl, rfl, rfl, rfl, rfl, trivial⟩ | exact vi_lc (ih (i + 1) (by omega) (by omega) i (wb_pd c i) (by omega) (fun q => by omega) (fun _ => rfl) (htake (by omega) (by omega))) ⟨rfl, rfl, rfl, rfl, rfl, trivial⟩
    · refine vi_iload_n 51 rfl rfl ?_
      refine vi_if_lt 52 rfl (by omega) (fun c_89 => ?_) (fun c_89 => ?_)
      · refine vi_iload 60 rfl rfl ?_
        refine vi_istore_n 61 rfl rfl ?_
        refine vi_iload 62 rfl rfl ?_
        refine vi_istore_n 63 rfl rfl ?_
        refine vi_iinc 64 rfl rfl rfl ?_
        refine vi_goto 65 rfl ?_
        first | exact vi_lc (ih (i + 1) (by omega) (by omega) f fc (by omega) hfn hfc (hskip (by omega))) ⟨rfl, rfl, rfl, rfl, rfl, trivial⟩ | exact vi_lc (ih (i + 1) (by omega) (by omega) i (wb_pd c i) (by omega) (fun q => by omega) (fun _ => rfl) (htake (by omega) (by omega))) ⟨rfl, rfl, rfl, rfl, rfl, trivial⟩
      · refine vi_aload_n 53 rfl rfl ?_
        refine vi_iload 54 rfl rfl ?_
        refine vi_iload 55 rfl rfl ?_
        refine vi_iload_n 56 rfl rfl ?_
        refine vi_iload_n 57 rfl rfl ?_
        refine vi_V4 58 ok_X9_isBetter rfl c_X9_54 e0 rfl rfl ?_
        refine sp_X9_isBetter hwe2 (by omega) (by omega) (by omega) (by have := hfc (by omega); omega) (by rw [hvi (by omega)]; exact hri) (by rw [hvf (by omega)]; exact hrf) (fun b_99 => ?_) (fun b_99 => ?_)
        · rw [hvi (by omega), hvf (by omega), hfc (by omega)] at b_99
          refine vi_if_eq 59 rfl (by omega) (fun c => absurd c (by decide)) (fun _ => ?_)
          refine vi_iload 60 rfl rfl ?_
          refine vi_istore_n 61 rfl rfl ?_
          refine vi_iload 62 rfl rfl ?_
          refine vi_istore_n 63 rfl rfl ?_
          refine vi_iinc 64 rfl rfl rfl ?_
          refine vi_goto 65 rfl ?_
          first | exact vi_lc (ih (i + 1) (by omega) (by omega) f fc (by omega) hfn hfc (hskip (by omega))) ⟨rfl, rfl, rfl, rfl, rfl, trivial⟩ | exact vi_lc (ih (i + 1) (by omega) (by omega) i (wb_pd c i) (by omega) (fun q => by omega) (fun _ => rfl) (htake (by omega) (by omega))) ⟨rfl, rfl, rfl, rfl, rfl, trivial⟩
        · rw [hvi (by omega), hvf (by omega), hfc (by omega)] at b_99
          refine vi_if_eq 59 rfl (by omega) (fun _ => ?_) (fun c => absurd c (by decide))
          refine vi_iinc 64 rfl rfl rfl ?_
          refine vi_goto 65 rfl ?_
          first | exact vi_lc (ih (i + 1) (by omega) (by omega) f fc (by omega) hfn hfc (hskip (by omega))) ⟨rfl, rfl, rfl, rfl, rfl, trivial⟩ | exact vi_lc (ih (i + 1) (by omega) (by omega) i (wb_pd c i) (by omega) (fun q => by omega) (fun _ => rfl) (htake (by omega) (by omega))) ⟨rfl, rfl, rfl, rfl, rfl, trivial⟩
end WBS48
