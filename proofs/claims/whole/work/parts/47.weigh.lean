/-! ===== settle and hide ===== -/
def wb_mx (f : Int → Int) : Nat → Int
  | 0 => 0
  | k + 1 => if wb_mx f k < f k then f k else wb_mx f k
theorem wb_mx_congr {f f' : Int → Int} : ∀ n : Nat, (∀ i : Int, 0 ≤ i → i < n → f i = f' i) → wb_mx f n = wb_mx f' n := by
  intro n
  induction n with
  | zero => intro _; rfl
  | succ n ih => intro h; rw [wb_mx, wb_mx, ih (fun i h1 h2 => h i h1 (by omega)), h n (by omega) (by omega)]
theorem wb_mx_rg {f : Int → Int} {B : Int} (hB : 0 ≤ B) : ∀ n : Nat, (∀ i : Int, 0 ≤ i → i < n → f i ≤ B) → 0 ≤ wb_mx f n ∧ wb_mx f n ≤ B := by
  intro n
  induction n with
  | zero => intro _; exact ⟨Int.le_refl _, hB⟩
  | succ n ih =>
    intro h
    have i1 := ih (fun i h1 h2 => h i h1 (by omega))
    have i2 := h n (by omega) (by omega)
    rw [wb_mx]; split <;> omega
theorem wb_sk_rg {f : Int → Int} {B : Int} (hB : 0 ≤ B) : ∀ n : Nat, (∀ i : Int, 0 ≤ i → i < n → 0 ≤ f i ∧ f i ≤ B) → 0 ≤ wb_sk f n ∧ wb_sk f n ≤ n * B := by
  intro n
  induction n with
  | zero => intro _; simp [wb_sk]
  | succ n ih =>
    intro h
    have i1 := ih (fun i h1 h2 => h i h1 (by omega))
    have i2 := h n (by omega) (by omega)
    rw [wb_sk, show ((n + 1 : Nat) : Int) * B = (n : Int) * B + B by rw [show ((n + 1 : Nat) : Int) = (n : Int) + 1 by omega, Int.add_mul]; omega]
    omega
theorem wb_cn_rg {n : Int} {c s : Int → Int} {sd sf t m v sl : Int} {wf : Int → Int} {ke : Nat} (hk : ke ≤ 625) (hwf : ∀ k, 0 ≤ k → k < 625 → 0 ≤ wf k ∧ wf k ≤ 15625) : 0 ≤ wb_cn n c s sd sf t m v sl wf ke ∧ wb_cn n c s sd sf t m v sl wf ke ≤ 9765625 := by
  have := wb_sk_rg (f := fun k => if wb_VP n c s sd sf t m v sl k then wf k else 0) (B := 15625) (by omega) ke (fun i h1 h2 => by have := hwf i h1 (by omega); split <;> omega)
  unfold wb_cn; omega
def wb_wg (n : Int) (c s : Int → Int) (sd sf : Int) (K : Int → Bool) (hl t k : Int) : Int := wb_ct (fun x => wb_OO n c s sd sf K t x && decide (wb_ky hl sf t x = k)) 15625
def wb_CN (n : Int) (c s : Int → Int) (sd sf : Int) (K : Int → Bool) (hl t m v sl : Int) : Int := wb_cn n c s sd sf t m v sl (wb_wg n c s sd sf K hl t) (wb_cr hl t)
def wb_ls (c : Int → Int) (m t : Int) : Int := if c (9 * m + 3) < c (9 * m + t) then c (9 * m + 3) else c (9 * m + t)
def wb_MX (n : Int) (c s : Int → Int) (sd sf : Int) (K : Int → Bool) (hl m t : Int) : Int := wb_mx (fun i => wb_CN n c s sd sf K hl t m (c (9 * m + t) + -wb_ls c m t + i) 0) (wb_ls c m t + c (9 * m + 3) + 1).toNat
def wb_HD (n : Int) (c s : Int → Int) (sd sf : Int) (K : Int → Bool) (hl m t i : Int) : Int := wb_CN n c s sd sf K hl t m (c (9 * m + t) + 1 + i) (c (9 * m + 3))
/-- what weighing found is of this book -/
def wb_wv (n : Int) (c s : Int → Int) (sd sf : Int) (K : Int → Bool) (hl : Int) (ms ff : Int → Int) : Prop := ∀ m t, 0 ≤ m → m < n → 0 ≤ t → t < 3 → ms (3 * m + t) = wb_MX n c s sd sf K hl m t ∧ ∀ i, 0 ≤ i → i < 9 → ff ((3 * m + t) * 9 + i) = wb_HD n c s sd sf K hl m t i
theorem wb_CN_rg {n : Int} {c s : Int → Int} {sd sf : Int} {K : Int → Bool} {hl t m v sl : Int} : 0 ≤ wb_CN n c s sd sf K hl t m v sl ∧ wb_CN n c s sd sf K hl t m v sl ≤ 9765625 := by
  refine wb_cn_rg (by unfold wb_cr; split <;> omega) (fun k k1 k2 => ?_)
  have := wb_ct_rg (fun x => wb_OO n c s sd sf K t x && decide (wb_ky hl sf t x = k)) 15625
  unfold wb_wg; omega
section WBS47
variable {G : wb_G} {N : Nat} {w : wb_W} {Q : Option Value → Nat → wb_W → Prop}
variable {n : Int} {c s : Int → Int} {sd sf bo tu : Int} {g : Int → Int64} {K : Int → Bool} {hl wt ct mt : Int} {xt : Int} {wf cf ms ff : Int → Int}
theorem sp_X9_weigh {t m : Int} (hwe : wb_We w xt wf cf ms ff) (hwf : ∀ k, 0 ≤ k → k < 625 → wf k = wb_wg n c s sd sf K hl t k) (hwo : wb_Wo w hl wt ct mt) (hbk : wb_Bk w 4 n c s sd sf bo tu g) (hR : wb_BR n c s sd sf) (hHL : wb_HL hl n c sd sf) (hce : wb_Ce w hl n c s sd sf t True True) (ht : 0 ≤ t ∧ t < 3) (hm : 0 ≤ m ∧ m < n)
    (hQ : ∀ (w' : wb_W) (cf' ms' ff' : Int → Int), (∀ j, 0 ≤ j → j < 24 → ms' j = if j = m * 3 + t then wb_MX n c s sd sf K hl m t else ms j) → (∀ j, 0 ≤ j → j < 216 → ff' j = if j / 9 = m * 3 + t then wb_HD n c s sd sf K hl m t (j % 9) else ff j) → wb_We w' xt wf cf' ms' ff' → (∀ k, (k < 93 ∨ 96 ≤ k) → w' k = w k) → Q none N w') : wb_M G M_X9_weigh [.ref 89, .ref (wb_cp hl t), .int (wb_i m), .int (wb_i (m * 3 + t))] N w Q := by
  unfold wb_M
  have hn := hR.1
  have hgr := wb_gu_rm hHL hR ht
  have hcr := wb_cp_rg hl ht
  have hwr : ∀ k, 0 ≤ k → k < 625 → 0 ≤ wf k ∧ wf k ≤ 15625 := fun k k1 k2 => by
    rw [hwf k k1 k2]
    exact wb_ct_rg _ 15625
  have hcn : ∀ v sl, wb_cn n c s sd sf t m v sl wf (wb_cr hl t) = wb_CN n c s sd sf K hl t m v sl := fun v sl => by
    unfold wb_CN wb_cn
    exact wb_sk_congr _ (fun k k1 k2 => by rw [hwf k k1 (by omega)])
  have rc := hR.2.1 (9 * m + t)
  have rg3 := hR.2.1 (9 * m + 3)
  have rg := hR.2.2.2.2.2.1 m
  have els : (if c (9 * m + 3) < c (9 * m + t) then c (9 * m + 3) else c (9 * m + t)) = wb_ls c m t := rfl
  have rls : 0 ≤ wb_ls c m t ∧ wb_ls c m t ≤ 5 := by unfold wb_ls; split <;> omega
  have hce' := hce
  obtain ⟨⟨nd, ah, on, ⟨f0, f1, q0, -⟩, -⟩, -⟩ := hce'
  have lp2 : ∀ (cf1 ms1 : Int → Int), (∀ j, 0 ≤ j → j < 24 → ms1 j = if j = m * 3 + t then wb_MX n c s sd sf K hl m t else ms j) → (∀ j, 0 ≤ j → j ≤ 8 → cf1 j = wb_HD n c s sd sf K hl m t j) → ∀ i, i ≤ 9 → ∀ (w1 : wb_W) (ff1 : Int → Int), 0 ≤ i → (∀ j, 0 ≤ j → j < 216 → ff1 j = if j / 9 = m * 3 + t ∧ j % 9 < i then wb_HD n c s sd sf K hl m t (j % 9) else ff j) → wb_We w1 xt wf cf1 ms1 ff1 → (∀ k, (k < 93 ∨ 96 ≤ k) → w1 k = w k) → wb_V G M_X9_weigh 135 [(0, .ref 89), (3, .int (wb_i (m * 3 + t))), (7, .int (wb_i i))] [] N w1 0 0 Q := by
    intro cf1 ms1 hms1 hcf1
    refine wb_up 9 _ ?_
    intro i ih hi w1 ff1 hi0 hff1 hwe1 ef
    have hwe1' := hwe1
    obtain ⟨e0, e1, e2, e3, e4⟩ := hwe1'
    refine vi_iload 74 rfl rfl ?_
    refine vi_bipush 75 rfl (by decide) ?_
    refine vi_icmp_ge 76 rfl (by omega) (by omega) (fun c_139 => ?_) (fun c_139 => ?_)
    · exact vi_return 91 rfl rfl (Nat.zero_le _) (Nat.zero_le _) (hQ w1 cf1 ms1 ff1 hms1 (fun j j1 j2 => by rw [hff1 j j1 j2]; by_cases h2 : j / 9 = m * 3 + t; (rw [if_pos ⟨h2, by omega⟩, if_pos h2]); (rw [if_neg (fun q => h2 q.1), if_neg h2])) hwe1 ef)
    · refine vi_aload_n 77 rfl rfl ?_
      refine vi_get 78 rfl f_X9_28 e0 rfl rfl ?_
      refine vi_iload_n 79 rfl rfl ?_
      refine vi_bipush 80 rfl (by decide) ?_
      refine vi_imul 81 rfl ?_
      refine vi_iload 82 rfl rfl ?_
      refine vi_iadd 83 rfl ?_
      refine vi_aload_n 84 rfl rfl ?_
      refine vi_get 85 rfl f_X9_22 e0 rfl rfl ?_
      refine vi_iload 86 rfl rfl ?_
      refine vi_iald 87 rfl e2 (by omega) ?_
      refine vi_iast 88 rfl e4 (by omega) ?_
      refine vi_iinc 89 rfl rfl rfl ?_
      refine vi_goto 90 rfl ?_
      refine vi_lc (ih (i + 1) (by omega) (by omega) _ (wb_u ff1 ((m * 3 + t) * 9 + i) (cf1 i)) (by omega) (fun j j1 j2 => ?_) ⟨by rw [wb_upn (by omega)]; exact e0, by rw [wb_upn (by omega)]; exact e1, by rw [wb_upn (by omega)]; exact e2, by rw [wb_upn (by omega)]; exact e3, wb_ups⟩ (fun k hk => (wb_upn (by omega)).trans (ef k hk))) ⟨rfl, rfl, rfl, trivial⟩
      by_cases e : j = (m * 3 + t) * 9 + i
      · rw [e, wb_us, if_pos (by omega), hcf1 i hi0 (by omega), show ((m * 3 + t) * 9 + i) % 9 = i by omega]
      · rw [wb_un e, hff1 j j1 j2]; by_cases h2 : j / 9 = m * 3 + t ∧ j % 9 < i
        · rw [if_pos h2, if_pos (by omega)]
        · rw [if_neg h2, if_neg (by omega)]
  have lp1 : ∀ cf1 : Int → Int, (∀ j, 0 ≤ j → j ≤ wb_ls c m t + c (9 * m + 3) → cf1 j = wb_CN n c s sd sf K hl t m (c (9 * m + t) + -wb_ls c m t + j) 0) → ∀ i, i ≤ wb_ls c m t + c (9 * m + 3) + 1 → ∀ (w1 : wb_W) (ms1 : Int → Int), 0 ≤ i → (∀ j, 0 ≤ j → j < 24 → ms1 j = if j = m * 3 + t then wb_mx (fun i => wb_CN n c s sd sf K hl t m (c (9 * m + t) + -wb_ls c m t + i) 0) i.toNat else ms j) → wb_We w1 xt wf cf1 ms1 ff → (∀ k, (k < 93 ∨ 96 ≤ k) → w1 k = w k) → wb_V G M_X9_weigh 73 [(0, .ref 89), (1, .ref (wb_cp hl t)), (2, .int (wb_i m)), (3, .int (wb_i (m * 3 + t))), (5, .int (wb_i (c (9 * m + 3)))), (6, .int (wb_i (wb_ls c m t))), (7, .int (wb_i i))] [] N w1 0 0 Q := by
    intro cf1 hcf1
    refine wb_up (wb_ls c m t + c (9 * m + 3) + 1) _ ?_
    intro i ih hi w1 ms1 hi0 hms1 hwe1 ef
    have hwe1' := hwe1
    obtain ⟨e0, e1, e2, e3, e4⟩ := hwe1'
    have hwo1 : wb_Wo w1 hl wt ct mt := hwo.fr (fun k hk => ef k (by omega))
    have hbk1 : wb_Bk w1 4 n c s sd sf bo tu g := hbk.fr (fun k p1 p2 => ef k (by omega))
    have hce1 : wb_Ce w1 hl n c s sd sf t True True := hce.fr (fun k p1 p2 => ef k (by omega))
    have hmr := wb_mx_rg (f := fun i => wb_CN n c s sd sf K hl t m (c (9 * m + t) + -wb_ls c m t + i) 0) (B := 9765625) (by omega) i.toNat (fun i _ _ => wb_CN_rg.2)
    have hst : (i + 1).toNat = i.toNat + 1 := by omega
    have hii : ((i.toNat : Nat) : Int) = i := by omega
    have hmp := hms1 (m * 3 + t) (by omega) (by omega)
    rw [if_pos rfl] at hmp
    have hcr1 := wb_CN_rg (n := n) (c := c) (s := s) (sd := sd) (sf := sf) (K := K) (hl := hl) (t := t) (m := m) (v := c (9 * m + t) + -wb_ls c m t + i) (sl := 0)
    have hci := fun q : i ≤ wb_ls c m t + c (9 * m + 3) => hcf1 i hi0 q
    refine vi_iload 40 rfl rfl ?_
    refine vi_iload 41 rfl rfl ?_
    refine vi_iload 42 rfl rfl ?_
    refine vi_iadd 43 rfl ?_
    refine vi_icmp_gt 44 rfl (by omega) (by omega) (fun c_80 => ?_) (fun c_80 => ?_)
    · refine vi_aload_n 65 rfl rfl ?_
      refine vi_aload_n 66 rfl rfl ?_
      refine vi_iload_n 67 rfl rfl ?_
      refine vi_iconst 68 rfl ?_
      refine vi_bipush 69 rfl (by decide) ?_
      refine vi_iload 70 rfl rfl ?_
      refine vi_V5 71 ok_X9_count rfl c_X9_94 e0 rfl rfl ?_
      refine sp_X9_count hwe1 hwr hwo1 hbk1 hR hHL hce1 ht hm (by omega) (by omega) (by omega) (fun w2 cf2 hcf2 hwe2 hf2 => ?_)
      refine vi_iconst 72 rfl ?_
      refine vi_istore 73 rfl rfl ?_
      exact vi_lc (lp2 cf2 ms1 (fun j j1 j2 => by rw [hms1 j j1 j2, show i = wb_ls c m t + c (9 * m + 3) + 1 by omega]; rfl) (fun j j1 j2 => by rw [hcf2 j j1 (by omega), hcn]; rfl) 0 (by omega) w2 ff (by omega) (fun j j1 j2 => by rw [if_neg (by omega)]) hwe2 (fun k hk => (hf2 k (by omega)).trans (ef k hk))) ⟨rfl, rfl, rfl, trivial⟩
    · refine vi_iload 45 rfl rfl ?_
      refine vi_aload_n 46 rfl rfl ?_
      refine vi_get 47 rfl f_X9_22 e0 rfl rfl ?_
      refine vi_alen 48 rfl e2 rfl ?_
      refine vi_icmp_ge 49 rfl (by omega) (by omega) (fun c_90 => by exfalso; omega) (fun c_90 => ?_)
      refine vi_aload_n 50 rfl rfl ?_
      refine vi_get 51 rfl f_X9_25 e0 rfl rfl ?_
      refine vi_iload_n 52 rfl rfl ?_
      refine vi_aload_n 53 rfl rfl ?_
      refine vi_get 54 rfl f_X9_25 e0 rfl rfl ?_
      refine vi_iload_n 55 rfl rfl ?_
      refine vi_iald 56 rfl e3 (by omega) ?_
      refine vi_aload_n 57 rfl rfl ?_
      refine vi_get 58 rfl f_X9_22 e0 rfl rfl ?_
      refine vi_iload 59 rfl rfl ?_
      refine vi_iald 60 rfl e2 (by omega) ?_
      rw [hmp, hci (by omega)]
      refine vi_max 61 rfl c_X9_98 rfl (by omega) (by omega) ?_
      refine vi_iast 62 rfl e3 (by omega) ?_
      refine vi_iinc 63 rfl rfl rfl ?_
      refine vi_goto 64 rfl ?_
      refine vi_lc (ih (i + 1) (by omega) (by omega) _ (wb_u ms1 (m * 3 + t) _) (by omega) (fun j j1 j2 => ?_) ⟨by rw [wb_upn (by omega)]; exact e0, by rw [wb_upn (by omega)]; exact e1, by rw [wb_upn (by omega)]; exact e2, wb_ups, by rw [wb_upn (by omega)]; exact e4⟩ (fun k hk => (wb_upn (by omega)).trans (ef k hk))) ⟨rfl, rfl, rfl, rfl, rfl, rfl, rfl, trivial⟩
      by_cases e : j = m * 3 + t
      · rw [e, wb_us, if_pos rfl, hst, wb_mx, hii]
      · rw [wb_un e, if_neg e, hms1 j j1 j2, if_neg e]
  have hwe' := hwe
  obtain ⟨e0, e1, e2, e3, e4⟩ := hwe'
  refine vi_iload_n 0 rfl rfl ?_
  refine vi_if_lt 1 rfl (by omega) (fun c_1 => by exfalso; omega) (fun c_1 => ?_)
  refine vi_iload_n 2 rfl rfl ?_
  refine vi_bipush 3 rfl (by decide) ?_
  refine vi_icmp_lt 4 rfl (by omega) (by omega) (fun c_7 => ?_) (fun c_7 => by exfalso; omega)
  refine vi_aload_n 6 rfl rfl ?_
  refine vi_get 7 rfl f_X9_31 e0 rfl rfl ?_
  refine vi_get 8 rfl f_X9_38 hwo.1 rfl rfl ?_
  refine vi_iload_n 9 rfl rfl ?_
  refine vi_aload_n 10 rfl rfl ?_
  refine vi_get 11 rfl f_X9_84 q0 rfl rfl ?_
  refine vi_V2 12 ok_X0_cell rfl c_X9_50 hbk.1 rfl rfl ?_
  refine sp_X0_cell hbk (by omega) (by omega) ?_
  rw [if_pos (by omega)]
  refine vi_istore 13 rfl rfl ?_
  refine vi_aload_n 14 rfl rfl ?_
  refine vi_get 15 rfl f_X9_31 e0 rfl rfl ?_
  refine vi_get 16 rfl f_X9_38 hwo.1 rfl rfl ?_
  refine vi_iload_n 17 rfl rfl ?_
  refine vi_iconst 18 rfl ?_
  refine vi_V2 19 ok_X0_cell rfl c_X9_50 hbk.1 rfl rfl ?_
  refine sp_X0_cell hbk (by omega) (by omega) ?_
  rw [if_pos (by omega)]
  refine vi_istore 20 rfl rfl ?_
  refine vi_iload 21 rfl rfl ?_
  refine vi_iload 22 rfl rfl ?_
  refine vi_min 23 rfl c_X9_89 rfl (by omega) (by omega) ?_
  rw [els]
  refine vi_istore 24 rfl rfl ?_
  refine vi_aload_n 25 rfl rfl ?_
  refine vi_aload_n 26 rfl rfl ?_
  refine vi_iload_n 27 rfl rfl ?_
  refine vi_iload 28 rfl rfl ?_
  refine vi_ineg 29 rfl ?_
  refine vi_iload 30 rfl rfl ?_
  refine vi_iconst 31 rfl ?_
  refine vi_V5 32 ok_X9_count rfl c_X9_94 e0 rfl rfl ?_
  refine sp_X9_count hwe hwr hwo hbk hR hHL hce ht hm (by omega) (by omega) (by omega) (fun w2 cf2 hcf2 hwe2 hf2 => ?_)
  have hwe2' := hwe2
  obtain ⟨y0, y1, y2, y3, y4⟩ := hwe2'
  refine vi_aload_n 33 rfl rfl ?_
  refine vi_get 34 rfl f_X9_25 y0 rfl rfl ?_
  refine vi_iload_n 35 rfl rfl ?_
  refine vi_iconst 36 rfl ?_
  refine vi_iast 37 rfl y3 (by omega) ?_
  refine vi_iconst 38 rfl ?_
  refine vi_istore 39 rfl rfl ?_
  exact vi_lc (lp1 cf2 (fun j j1 j2 => by rw [hcf2 j j1 (by omega), hcn]) 0 (by omega) _ (wb_u ms (m * 3 + t) 0) (by omega) (fun j j1 j2 => by by_cases e : j = m * 3 + t; (rw [if_pos e, e, wb_us]; rfl); (rw [if_neg e, wb_un e])) ⟨by rw [wb_upn (by omega)]; exact y0, by rw [wb_upn (by omega)]; exact y1, by rw [wb_upn (by omega)]; exact y2, wb_ups, by rw [wb_upn (by omega)]; exact y4⟩ (fun k hk => (wb_upn (by omega)).trans (hf2 k (by omega)))) ⟨rfl, rfl, rfl, rfl, rfl, rfl, rfl, trivial⟩
end WBS47
