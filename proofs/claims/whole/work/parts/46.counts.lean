/-! ===== counts by one in after the other ===== -/
def wb_sk (f : Int → Int) : Nat → Int
  | 0 => 0
  | k + 1 => wb_sk f k + f k
theorem wb_sk_congr {f f' : Int → Int} : ∀ n : Nat, (∀ i : Int, 0 ≤ i → i < n → f i = f' i) → wb_sk f n = wb_sk f' n := by
  intro n
  induction n with
  | zero => intro _; rfl
  | succ n ih => intro h; rw [wb_sk, wb_sk, ih (fun i h1 h2 => h i h1 (by omega)), h n (by omega) (by omega)]
theorem wb_sk_add {f g : Int → Int} : ∀ n : Nat, wb_sk (fun i => f i + g i) n = wb_sk f n + wb_sk g n := by
  intro n
  induction n with
  | zero => rfl
  | succ n ih => rw [wb_sk, wb_sk, wb_sk, ih]; omega
theorem wb_sk_sub {f g : Int → Int} : ∀ n : Nat, wb_sk (fun i => f i - g i) n = wb_sk f n - wb_sk g n := by
  intro n
  induction n with
  | zero => rfl
  | succ n ih => rw [wb_sk, wb_sk, wb_sk, ih]; omega
theorem wb_sk_0 : ∀ n : Nat, wb_sk (fun _ => 0) n = 0 := by
  intro n
  induction n with
  | zero => rfl
  | succ n ih => rw [wb_sk, ih]; rfl
theorem wb_sk_swap {F : Int → Int → Int} : ∀ n m : Nat, wb_sk (fun l => wb_sk (fun k => F k l) m) n = wb_sk (fun k => wb_sk (fun l => F k l) n) m := by
  intro n
  induction n with
  | zero => intro m; rw [wb_sk]; exact (wb_sk_0 m).symm
  | succ n ih => intro m; rw [wb_sk, ih, ← wb_sk_add]; rfl
theorem wb_sk_one {P : Prop} [Decidable P] {b u : Int} (hb : 0 ≤ b) : ∀ n : Nat, wb_sk (fun l => if P ∧ b = l then u else 0) n = if P ∧ b < n then u else 0 := by
  intro n
  induction n with
  | zero => rw [wb_sk, if_neg (by omega)]
  | succ n ih =>
    rw [wb_sk, ih]
    by_cases hP : P
    · by_cases h1 : b < n
      · rw [if_pos ⟨hP, h1⟩, if_neg (by omega), if_pos ⟨hP, by omega⟩]; omega
      · by_cases h2 : b = n
        · rw [if_neg (by omega), if_pos ⟨hP, h2⟩, if_pos ⟨hP, by omega⟩]; omega
        · rw [if_neg (by omega), if_neg (by omega), if_neg (by omega)]; rfl
    · rw [if_neg (fun q => hP q.1), if_neg (fun q => hP q.1), if_neg (fun q => hP q.1)]; rfl
/-- the least and the most that may come in by a key -/
def wb_lea (n : Int) (c s : Int → Int) (sd sf t m k : Int) : Int := wb_ON n c s sd sf t k (m + 1) % 256 - wb_AH c s sd sf t k m / 256 + wb_kn c sd sf t k m
def wb_mos (n : Int) (c s : Int → Int) (sd sf t m k : Int) : Int := wb_ON n c s sd sf t k (m + 1) / 256 - wb_AH c s sd sf t k m % 256 + wb_kn c sd sf t k m + s (4 * t + 3)
abbrev wb_cd (n : Int) (c s : Int → Int) (sd sf t m k : Int) : Prop := 0 ≤ wb_AH c s sd sf t k m ∧ 0 ≤ wb_ON n c s sd sf t k (m + 1) ∧ 0 ≤ wb_mos n c s sd sf t m k
/-- a key can do with this in, give or take -/
abbrev wb_VP (n : Int) (c s : Int → Int) (sd sf t m v sl k : Int) : Prop := wb_cd n c s sd sf t m k ∧ wb_lea n c s sd sf t m k - sl ≤ v ∧ v ≤ wb_mos n c s sd sf t m k + sl
def wb_bg (n : Int) (c s : Int → Int) (sd sf t m fr sl k : Int) : Int := (if fr < wb_lea n c s sd sf t m k - sl - c (9 * m + t) then wb_lea n c s sd sf t m k - sl - c (9 * m + t) else fr) - fr
def wb_nd2 (n : Int) (c s : Int → Int) (sd sf t m fr ti sl k : Int) : Int := (if wb_mos n c s sd sf t m k + sl - c (9 * m + t) < ti then wb_mos n c s sd sf t m k + sl - c (9 * m + t) else ti) - fr
section WBS46
variable {G : wb_G} {N : Nat} {w : wb_W} {Q : Option Value → Nat → wb_W → Prop}
variable {n : Int} {c s : Int → Int} {sd sf bo tu : Int} {g : Int → Int64} {K : Int → Bool} {hl wt ct mt : Int} {xt : Int} {wf cf ms ff : Int → Int}
theorem wb_lm_rg {t m k : Int} (hR : wb_BR n c s sd sf) (hk : 0 ≤ k ∧ k < 625) : (-1000 ≤ wb_lea n c s sd sf t m k ∧ wb_lea n c s sd sf t m k ≤ 1000) ∧ -1000 ≤ wb_mos n c s sd sf t m k ∧ wb_mos n c s sd sf t m k ≤ 1000 := by
  have a := wb_AH_rg (t := t) (k := k) (m := m) hR
  have b := wb_ON_rg (t := t) (k := k) (m := m + 1) hR
  have d := wb_kn_rg (t := t) (k := k) (m := m) hR hk
  have e := (hR.2.2.2.2.2.2.2.1 t).2.2
  have f := hR.2.2.1 (4 * t + 3)
  unfold wb_lea wb_mos
  omega
theorem sp_X9_countKey {t k m fr ti sl : Int} (hwe : wb_We w xt wf cf ms ff) (hwo : wb_Wo w hl wt ct mt) (hbk : wb_Bk w 4 n c s sd sf bo tu g) (hR : wb_BR n c s sd sf) (hHL : wb_HL hl n c sd sf) (hce : wb_Ce w hl n c s sd sf t True True) (ht : 0 ≤ t ∧ t < 3) (hk : 0 ≤ k ∧ k < wb_cr hl t) (hm : 0 ≤ m ∧ m < n) (hfr : -5 ≤ fr ∧ fr ≤ 1) (hti : fr ≤ ti ∧ ti ≤ 9 ∧ ti - fr ≤ 10) (hsl : 0 ≤ sl ∧ sl ≤ 5)
    (hQ : ∀ (w' : wb_W) (cf' : Int → Int), (∀ j, 0 ≤ j → j < 12 → cf' j = cf j + (if (wb_cd n c s sd sf t m k ∧ wb_bg n c s sd sf t m fr sl k ≤ wb_nd2 n c s sd sf t m fr ti sl k) ∧ wb_bg n c s sd sf t m fr sl k = j then wf k else 0) - (if (wb_cd n c s sd sf t m k ∧ wb_bg n c s sd sf t m fr sl k ≤ wb_nd2 n c s sd sf t m fr ti sl k) ∧ wb_nd2 n c s sd sf t m fr ti sl k + 1 = j then wf k else 0)) → wb_We w' xt wf cf' ms ff → (∀ k, k ≠ 93 → w' k = w k) → Q none N w') : wb_M G M_X9_countKey [.ref 89, .ref (wb_cp hl t), .int (wb_i k), .int (wb_i m), .int (wb_i fr), .int (wb_i ti), .int (wb_i sl)] N w Q := by
  unfold wb_M
  have hn := hR.1
  have hgr := wb_gu_rm hHL hR ht
  obtain ⟨nd, ah, on, hco, hnd, hah, hon⟩ := hce.ch
  have hco' := hco
  obtain ⟨f0, f1, q0, -⟩ := hco'
  have hwe' := hwe
  obtain ⟨e0, e1, e2, e3, e4⟩ := hwe'
  have ra := wb_AH_rg (t := t) (k := k) (m := m) hR
  have rb := wb_ON_rg (t := t) (k := k) (m := m + 1) hR
  have rd := wb_kn_rg (t := t) (k := k) (m := m) hR (by omega)
  have rl := wb_lm_rg (t := t) (k := k) (m := m) hR (by omega)
  have rc := hR.2.1 (9 * m + t)
  have el : wb_ON n c s sd sf t k (m + 1) % 256 - wb_AH c s sd sf t k m / 256 + wb_kn c sd sf t k m = wb_lea n c s sd sf t m k := rfl
  have em : wb_ON n c s sd sf t k (m + 1) / 256 - wb_AH c s sd sf t k m % 256 + wb_kn c sd sf t k m + s (4 * t + 3) = wb_mos n c s sd sf t m k := rfl
  have eb : (if fr < wb_lea n c s sd sf t m k - sl - c (9 * m + t) then wb_lea n c s sd sf t m k - sl - c (9 * m + t) else fr) - fr = wb_bg n c s sd sf t m fr sl k := rfl
  have ee : (if wb_mos n c s sd sf t m k + sl - c (9 * m + t) < ti then wb_mos n c s sd sf t m k + sl - c (9 * m + t) else ti) - fr = wb_nd2 n c s sd sf t m fr ti sl k := rfl
  have rbg : 0 ≤ wb_bg n c s sd sf t m fr sl k ∧ wb_bg n c s sd sf t m fr sl k ≤ 2000 := by unfold wb_bg; split <;> omega
  have ren : -2000 ≤ wb_nd2 n c s sd sf t m fr ti sl k ∧ wb_nd2 n c s sd sf t m fr ti sl k ≤ 10 := by unfold wb_nd2; split <;> omega
  have no : ¬ (wb_cd n c s sd sf t m k ∧ wb_bg n c s sd sf t m fr sl k ≤ wb_nd2 n c s sd sf t m fr ti sl k) → Q none N w := fun q => hQ w cf (fun j j1 j2 => by rw [if_neg (fun h => q h.1), if_neg (fun h => q h.1)]; omega) hwe (fun _ _ => rfl)
  refine vi_aload_n 0 rfl rfl ?_
  refine vi_iload_n 1 rfl rfl ?_
  refine vi_iload_n 2 rfl rfl ?_
  refine vi_V2 3 ok_X2_aheadOf rfl c_X9_108 q0 rfl rfl ?_
  refine sp_X2_aheadOf hco (by omega) (by omega) hk (by omega) ?_
  rw [hah k m hk.1 hk.2 hm.1 (by omega)]
  refine vi_istore 4 rfl rfl ?_
  refine vi_aload_n 5 rfl rfl ?_
  refine vi_iload_n 6 rfl rfl ?_
  refine vi_iload_n 7 rfl rfl ?_
  refine vi_iconst 8 rfl ?_
  refine vi_iadd 9 rfl ?_
  refine vi_V2 10 ok_X2_onwardFrom rfl c_X9_111 q0 rfl rfl ?_
  refine sp_X2_onwardFrom hco (by omega) (by omega) hk (by omega) ?_
  rw [hon k (m + 1) hk.1 hk.2 (by omega) (by omega)]
  refine vi_istore 11 rfl rfl ?_
  refine vi_aload_n 12 rfl rfl ?_
  refine vi_iload_n 13 rfl rfl ?_
  refine vi_iload_n 14 rfl rfl ?_
  refine vi_V2 15 ok_X2_needAt rfl c_X9_114 q0 rfl rfl ?_
  refine sp_X2_needAt hco (by omega) (by omega) hk (by omega) ?_
  rw [hnd k m hk.1 hk.2 hm.1 hm.2]
  refine vi_istore 16 rfl rfl ?_
  refine vi_iload 17 rfl rfl ?_
  refine vi_S1 18 ok_X11_lowOf rfl c_X9_117 rfl ?_
  refine sp_X11_lowOf (by omega) ?_
  refine vi_iload 19 rfl rfl ?_
  refine vi_S1 20 ok_X11_highOf rfl c_X9_120 rfl ?_
  refine sp_X11_highOf (by omega) ?_
  refine vi_isub 21 rfl ?_
  refine vi_iload 22 rfl rfl ?_
  refine vi_iadd 23 rfl ?_
  rw [el]
  refine vi_istore 24 rfl rfl ?_
  refine vi_iload 25 rfl rfl ?_
  refine vi_S1 26 ok_X11_highOf rfl c_X9_120 rfl ?_
  refine sp_X11_highOf (by omega) ?_
  refine vi_iload 27 rfl rfl ?_
  refine vi_S1 28 ok_X11_lowOf rfl c_X9_117 rfl ?_
  refine sp_X11_lowOf (by omega) ?_
  refine vi_isub 29 rfl ?_
  refine vi_iload 30 rfl rfl ?_
  refine vi_iadd 31 rfl ?_
  refine vi_aload_n 32 rfl rfl ?_
  refine vi_get 33 rfl f_X9_31 e0 rfl rfl ?_
  refine vi_get 34 rfl f_X9_38 hwo.1 rfl rfl ?_
  refine vi_aload_n 35 rfl rfl ?_
  refine vi_get 36 rfl f_X9_84 q0 rfl rfl ?_
  refine vi_iconst 37 rfl ?_
  refine vi_V2 38 ok_X0_stockCell rfl c_X9_123 hbk.1 rfl rfl ?_
  refine sp_X0_stockCell hbk (by omega) (by omega) ?_
  rw [if_pos (by omega)]
  refine vi_iadd 39 rfl ?_
  rw [em]
  refine vi_istore 40 rfl rfl ?_
  refine vi_iload 41 rfl rfl ?_
  refine vi_if_lt 42 rfl (by omega) (fun c_76 => ?_) (fun c_76 => ?_)
  · exact vi_return 47 rfl rfl (Nat.zero_le _) (Nat.zero_le _) (no (by omega))
  · refine vi_iload 43 rfl rfl ?_
    refine vi_if_lt 44 rfl (by omega) (fun c_81 => ?_) (fun c_81 => ?_)
    · exact vi_return 47 rfl rfl (Nat.zero_le _) (Nat.zero_le _) (no (by omega))
    · refine vi_iload 45 rfl rfl ?_
      refine vi_if_ge 46 rfl (by omega) (fun c_86 => ?_) (fun c_86 => ?_)
      · refine vi_aload_n 48 rfl rfl ?_
        refine vi_get 49 rfl f_X9_31 e0 rfl rfl ?_
        refine vi_get 50 rfl f_X9_38 hwo.1 rfl rfl ?_
        refine vi_iload_n 51 rfl rfl ?_
        refine vi_aload_n 52 rfl rfl ?_
        refine vi_get 53 rfl f_X9_84 q0 rfl rfl ?_
        refine vi_V2 54 ok_X0_cell rfl c_X9_50 hbk.1 rfl rfl ?_
        refine sp_X0_cell hbk (by omega) (by omega) ?_
        rw [if_pos (by omega)]
        refine vi_istore 55 rfl rfl ?_
        refine vi_iload 56 rfl rfl ?_
        refine vi_iload 57 rfl rfl ?_
        refine vi_iload 58 rfl rfl ?_
        refine vi_isub 59 rfl ?_
        refine vi_iload 60 rfl rfl ?_
        refine vi_isub 61 rfl ?_
        refine vi_max 62 rfl c_X9_98 rfl (by omega) (by omega) ?_
        refine vi_iload 63 rfl rfl ?_
        refine vi_isub 64 rfl ?_
        rw [eb]
        refine vi_istore 65 rfl rfl ?_
        refine vi_iload 66 rfl rfl ?_
        refine vi_iload 67 rfl rfl ?_
        refine vi_iload 68 rfl rfl ?_
        refine vi_iadd 69 rfl ?_
        refine vi_iload 70 rfl rfl ?_
        refine vi_isub 71 rfl ?_
        refine vi_min 72 rfl c_X9_89 rfl (by omega) (by omega) ?_
        refine vi_iload 73 rfl rfl ?_
        refine vi_isub 74 rfl ?_
        rw [ee]
        refine vi_istore 75 rfl rfl ?_
        refine vi_iload 76 rfl rfl ?_
        refine vi_if_lt 77 rfl (by omega) (fun c_145 => by exfalso; omega) (fun c_145 => ?_)
        refine vi_iload 78 rfl rfl ?_
        refine vi_iload 79 rfl rfl ?_
        refine vi_icmp_gt 80 rfl (by omega) (by omega) (fun c_152 => ?_) (fun c_152 => ?_)
        · exact vi_return 112 rfl rfl (Nat.zero_le _) (Nat.zero_le _) ((by first | exact no (by omega) | exact hQ _ (wb_u (wb_u cf (wb_bg n c s sd sf t m fr sl k) (cf (wb_bg n c s sd sf t m fr sl k) + wf k)) (wb_nd2 n c s sd sf t m fr ti sl k + 1) ((wb_u cf (wb_bg n c s sd sf t m fr sl k) (cf (wb_bg n c s sd sf t m fr sl k) + wf k)) (wb_nd2 n c s sd sf t m fr ti sl k + 1) - wf k)) (fun j j1 j2 => by by_cases h1 : wb_nd2 n c s sd sf t m fr ti sl k + 1 = j; (rw [← h1, wb_us, wb_un (show wb_nd2 n c s sd sf t m fr ti sl k + 1 ≠ wb_bg n c s sd sf t m fr sl k by omega), if_neg (by omega), if_pos (by omega)]; omega); (rw [wb_un (Ne.symm h1)]; by_cases h2 : wb_bg n c s sd sf t m fr sl k = j; (rw [← h2, wb_us, if_pos (by omega), if_neg (by omega)]; omega); (rw [wb_un (Ne.symm h2), if_neg (by omega), if_neg (by omega)]; omega))) ⟨by rw [wb_upu, wb_upn (by omega)]; exact e0, by rw [wb_upu, wb_upn (by omega)]; exact e1, by rw [wb_upu]; exact wb_ups, by rw [wb_upu, wb_upn (by omega)]; exact e3, by rw [wb_upu, wb_upn (by omega)]; exact e4⟩ (fun k hk => by rw [wb_upu, wb_upn hk])))
        · refine vi_iload 81 rfl rfl ?_
          refine vi_iconst 82 rfl ?_
          refine vi_iadd 83 rfl ?_
          refine vi_aload_n 84 rfl rfl ?_
          refine vi_get 85 rfl f_X9_22 e0 rfl rfl ?_
          refine vi_alen 86 rfl e2 rfl ?_
          refine vi_icmp_ge 87 rfl (by omega) (by omega) (fun c_164 => by exfalso; omega) (fun c_164 => ?_)
          refine vi_aload_n 88 rfl rfl ?_
          refine vi_get 89 rfl f_X9_22 e0 rfl rfl ?_
          refine vi_iload 90 rfl rfl ?_
          refine vi_dup2 91 rfl rfl rfl ?_
          refine vi_iald 92 rfl e2 (by omega) ?_
          refine vi_aload_n 93 rfl rfl ?_
          refine vi_get 94 rfl f_X9_18 e0 rfl rfl ?_
          refine vi_iload_n 95 rfl rfl ?_
          refine vi_iald 96 rfl e1 (by omega) ?_
          refine vi_iadd 97 rfl ?_
          refine vi_iast 98 rfl e2 (by omega) ?_
          refine vi_aload_n 99 rfl rfl ?_
          refine vi_get 100 rfl f_X9_22 ((wb_upn (by omega)).trans e0) rfl rfl ?_
          refine vi_iload 101 rfl rfl ?_
          refine vi_iconst 102 rfl ?_
          refine vi_iadd 103 rfl ?_
          refine vi_dup2 104 rfl rfl rfl ?_
          refine vi_iald 105 rfl wb_ups (by omega) ?_
          refine vi_aload_n 106 rfl rfl ?_
          refine vi_get 107 rfl f_X9_18 ((wb_upn (by omega)).trans e0) rfl rfl ?_
          refine vi_iload_n 108 rfl rfl ?_
          refine vi_iald 109 rfl ((wb_upn (by omega)).trans e1) (by omega) ?_
          refine vi_isub 110 rfl ?_
          refine vi_iast 111 rfl wb_ups (by omega) ?_
          exact vi_return 112 rfl rfl (Nat.zero_le _) (Nat.zero_le _) ((by first | exact no (by omega) | exact hQ _ (wb_u (wb_u cf (wb_bg n c s sd sf t m fr sl k) (cf (wb_bg n c s sd sf t m fr sl k) + wf k)) (wb_nd2 n c s sd sf t m fr ti sl k + 1) ((wb_u cf (wb_bg n c s sd sf t m fr sl k) (cf (wb_bg n c s sd sf t m fr sl k) + wf k)) (wb_nd2 n c s sd sf t m fr ti sl k + 1) - wf k)) (fun j j1 j2 => by by_cases h1 : wb_nd2 n c s sd sf t m fr ti sl k + 1 = j; (rw [← h1, wb_us, wb_un (show wb_nd2 n c s sd sf t m fr ti sl k + 1 ≠ wb_bg n c s sd sf t m fr sl k by omega), if_neg (by omega), if_pos (by omega)]; omega); (rw [wb_un (Ne.symm h1)]; by_cases h2 : wb_bg n c s sd sf t m fr sl k = j; (rw [← h2, wb_us, if_pos (by omega), if_neg (by omega)]; omega); (rw [wb_un (Ne.symm h2), if_neg (by omega), if_neg (by omega)]; omega))) ⟨by rw [wb_upu, wb_upn (by omega)]; exact e0, by rw [wb_upu, wb_upn (by omega)]; exact e1, by rw [wb_upu]; exact wb_ups, by rw [wb_upu, wb_upn (by omega)]; exact e3, by rw [wb_upu, wb_upn (by omega)]; exact e4⟩ (fun k hk => by rw [wb_upu, wb_upn hk])))
      · exact vi_return 47 rfl rfl (Nat.zero_le _) (Nat.zero_le _) (no (by omega))
/-- how many fit by a row of ins -/
def wb_cn (n : Int) (c s : Int → Int) (sd sf t m v sl : Int) (wf : Int → Int) (ke : Nat) : Int := wb_sk (fun k => if wb_VP n c s sd sf t m v sl k then wf k else 0) ke
theorem sp_X9_count {t m fr ti sl : Int} (hwe : wb_We w xt wf cf ms ff) (hwf : ∀ k, 0 ≤ k → k < 625 → 0 ≤ wf k ∧ wf k ≤ 15625) (hwo : wb_Wo w hl wt ct mt) (hbk : wb_Bk w 4 n c s sd sf bo tu g) (hR : wb_BR n c s sd sf) (hHL : wb_HL hl n c sd sf) (hce : wb_Ce w hl n c s sd sf t True True) (ht : 0 ≤ t ∧ t < 3) (hm : 0 ≤ m ∧ m < n) (hfr : -5 ≤ fr ∧ fr ≤ 1) (hti : fr ≤ ti ∧ ti ≤ 9 ∧ ti - fr ≤ 10) (hsl : 0 ≤ sl ∧ sl ≤ 5)
    (hQ : ∀ (w' : wb_W) (cf' : Int → Int), (∀ j, 0 ≤ j → j ≤ ti - fr → cf' j = wb_cn n c s sd sf t m (c (9 * m + t) + fr + j) sl wf (wb_cr hl t)) → wb_We w' xt wf cf' ms ff → (∀ k, k ≠ 93 → w' k = w k) → Q none N w') : wb_M G M_X9_count [.ref 89, .ref (wb_cp hl t), .int (wb_i m), .int (wb_i fr), .int (wb_i ti), .int (wb_i sl)] N w Q := by
  unfold wb_M
  have hn := hR.1
  have hgr := wb_gu_rm hHL hR ht
  have hcr := wb_cp_rg hl ht
  have hke : (wb_cr hl t : Int) ≤ 625 ∧ 25 ≤ (wb_cr hl t : Int) := by omega
  -- the last loop
  have lp3 : ∀ cf1 : Int → Int, (∀ j, 0 ≤ j → j < 12 → cf1 j = wb_sk (fun k => (if (wb_cd n c s sd sf t m k ∧ wb_bg n c s sd sf t m fr sl k ≤ wb_nd2 n c s sd sf t m fr ti sl k) ∧ wb_bg n c s sd sf t m fr sl k = j then wf k else 0) - (if (wb_cd n c s sd sf t m k ∧ wb_bg n c s sd sf t m fr sl k ≤ wb_nd2 n c s sd sf t m fr ti sl k) ∧ wb_nd2 n c s sd sf t m fr ti sl k + 1 = j then wf k else 0)) (wb_cr hl t)) → ∀ i, i ≤ 12 → ∀ (w1 : wb_W) (cf2 : Int → Int), 1 ≤ i → (∀ j, 0 ≤ j → j < 12 → cf2 j = if j < i then wb_sk cf1 (j + 1).toNat else cf1 j) → wb_We w1 xt wf cf2 ms ff → (∀ k, k ≠ 93 → w1 k = w k) → wb_V G M_X9_count 81 [(0, .ref 89), (1, .ref (wb_cp hl t)), (2, .int (wb_i m)), (3, .int (wb_i fr)), (4, .int (wb_i ti)), (5, .int (wb_i sl)), (6, .int (wb_i i))] [] N w1 0 0 Q := by
    intro cf1 hcf1
    refine wb_up 12 _ ?_
    intro i ih hi w1 cf2 hi0 hcf2 hwe1 ef
    have hwe1' := hwe1
    obtain ⟨e0, e1, e2, e3, e4⟩ := hwe1'
    refine vi_iload 42 rfl rfl ?_
    refine vi_aload_n 43 rfl rfl ?_
    refine vi_get 44 rfl f_X9_22 e0 rfl rfl ?_
    refine vi_alen 45 rfl e2 rfl ?_
    refine vi_icmp_ge 46 rfl (by omega) (by omega) (fun c_88 => ?_) (fun c_88 => ?_)
    · exact vi_return 62 rfl rfl (Nat.zero_le _) (Nat.zero_le _) (hQ w1 cf2 (fun j j1 j2 => by rw [hcf2 j j1 (by omega), if_pos (by omega)]; rw [wb_sk_congr _ (fun l l1 l2 => hcf1 l l1 (by omega)), wb_sk_swap]; unfold wb_cn; refine wb_sk_congr _ (fun k k1 k2 => ?_); rw [wb_sk_sub, wb_sk_one (by unfold wb_bg; split <;> omega)]; by_cases hc : wb_cd n c s sd sf t m k ∧ wb_bg n c s sd sf t m fr sl k ≤ wb_nd2 n c s sd sf t m fr ti sl k; (rw [wb_sk_one (by have : 0 ≤ wb_bg n c s sd sf t m fr sl k := (by unfold wb_bg; split <;> omega); omega)]; obtain ⟨hc1, hc2⟩ := hc; have hb1 : wb_bg n c s sd sf t m fr sl k < ((j + 1).toNat : Nat) ↔ wb_lea n c s sd sf t m k - sl ≤ c (9 * m + t) + fr + j := (by unfold wb_bg; split <;> omega); have hb2 : wb_nd2 n c s sd sf t m fr ti sl k + 1 < ((j + 1).toNat : Nat) ↔ ¬ c (9 * m + t) + fr + j ≤ wb_mos n c s sd sf t m k + sl := (by unfold wb_nd2; split <;> omega); by_cases p1 : wb_lea n c s sd sf t m k - sl ≤ c (9 * m + t) + fr + j; (by_cases p2 : c (9 * m + t) + fr + j ≤ wb_mos n c s sd sf t m k + sl; (rw [if_pos ⟨⟨hc1, hc2⟩, hb1.mpr p1⟩, if_neg (fun q => (hb2.mp q.2) p2), if_pos ⟨hc1, p1, p2⟩]; omega); (rw [if_pos ⟨⟨hc1, hc2⟩, hb1.mpr p1⟩, if_pos ⟨⟨hc1, hc2⟩, hb2.mpr p2⟩, if_neg (fun q => p2 q.2.2)]; omega)); (rw [if_neg (fun q => p1 (hb1.mp q.2)), if_neg (fun q => by have := hb2.mp q.2; have h3 : ¬ wb_bg n c s sd sf t m fr sl k < ((j + 1).toNat : Nat) := (fun z => p1 (hb1.mp z)); omega), if_neg (fun q => p1 q.2.1)]; rfl)); (rw [if_neg (fun q => hc q.1), wb_sk_congr (f' := fun _ => 0) _ (fun l l1 l2 => by rw [if_neg (fun q => hc q.1)]), wb_sk_0, if_neg (fun q => hc ⟨q.1, by unfold wb_bg wb_nd2; split <;> split <;> omega⟩)]; rfl)) hwe1 ef)
    · refine vi_aload_n 47 rfl rfl ?_
      refine vi_get 48 rfl f_X9_22 e0 rfl rfl ?_
      refine vi_iload 49 rfl rfl ?_
      refine vi_dup2 50 rfl rfl rfl ?_
      refine vi_iald 51 rfl e2 (by omega) ?_
      refine vi_aload_n 52 rfl rfl ?_
      refine vi_get 53 rfl f_X9_22 e0 rfl rfl ?_
      refine vi_iload 54 rfl rfl ?_
      refine vi_iconst 55 rfl ?_
      refine vi_isub 56 rfl ?_
      refine vi_iald 57 rfl e2 (by omega) ?_
      refine vi_iadd 58 rfl ?_
      refine vi_iast 59 rfl e2 (by omega) ?_
      refine vi_iinc 60 rfl rfl rfl ?_
      refine vi_goto 61 rfl ?_
      refine vi_lc (ih (i + 1) (by omega) (by omega) _ (wb_u cf2 i (cf2 i + cf2 (i - 1))) (by omega) (fun j j1 j2 => ?_) ⟨by rw [wb_upn (by omega)]; exact e0, by rw [wb_upn (by omega)]; exact e1, wb_ups, by rw [wb_upn (by omega)]; exact e3, by rw [wb_upn (by omega)]; exact e4⟩ (fun k hk => (wb_upn hk).trans (ef k hk))) ⟨rfl, rfl, rfl, rfl, rfl, rfl, rfl, trivial⟩
      by_cases e : j = i
      · rw [e, wb_us, if_pos (by omega), hcf2 i (by omega) (by omega), if_neg (by omega), hcf2 (i - 1) (by omega) (by omega), if_pos (by omega), show (i + 1).toNat = (i - 1 + 1).toNat + 1 by omega, wb_sk, show (((i - 1 + 1).toNat : Nat) : Int) = i by omega]; omega
      · rw [wb_un e, hcf2 j j1 j2]; (by_cases h2 : j < i; (rw [if_pos h2, if_pos (by omega)]); (rw [if_neg h2, if_neg (by omega)]))
  have lp2 : ∀ i, i ≤ (wb_cr hl t : Int) → ∀ (w1 : wb_W) (cf1 : Int → Int), 0 ≤ i → (∀ j, 0 ≤ j → j < 12 → cf1 j = wb_sk (fun k => (if (wb_cd n c s sd sf t m k ∧ wb_bg n c s sd sf t m fr sl k ≤ wb_nd2 n c s sd sf t m fr ti sl k) ∧ wb_bg n c s sd sf t m fr sl k = j then wf k else 0) - (if (wb_cd n c s sd sf t m k ∧ wb_bg n c s sd sf t m fr sl k ≤ wb_nd2 n c s sd sf t m fr ti sl k) ∧ wb_nd2 n c s sd sf t m fr ti sl k + 1 = j then wf k else 0)) i.toNat) → wb_We w1 xt wf cf1 ms ff → (∀ k, k ≠ 93 → w1 k = w k) → wb_V G M_X9_count 30 [(0, .ref 89), (1, .ref (wb_cp hl t)), (2, .int (wb_i m)), (3, .int (wb_i fr)), (4, .int (wb_i ti)), (5, .int (wb_i sl)), (6, .int (wb_i i))] [] N w1 0 0 Q := by
    refine wb_up (wb_cr hl t) _ ?_
    intro i ih hi w1 cf1 hi0 hcf1 hwe1 ef
    have hwe1' := hwe1
    obtain ⟨e0, e1, e2, e3, e4⟩ := hwe1'
    have hwo1 : wb_Wo w1 hl wt ct mt := hwo.fr (fun k hk => ef k (by omega))
    have hbk1 : wb_Bk w1 4 n c s sd sf bo tu g := hbk.fr (fun k p1 p2 => ef k (by omega))
    have hce1 : wb_Ce w1 hl n c s sd sf t True True := hce.fr (fun k p1 p2 => ef k (by omega))
    have hce1' := hce1
    obtain ⟨⟨nd, ah, on, ⟨f0, f1, q0, -⟩, -⟩, -⟩ := hce1'
    have hwr := fun q : i < 625 => hwf i hi0 q
    have hst : (i + 1).toNat = i.toNat + 1 := by omega
    have hii : ((i.toNat : Nat) : Int) = i := by omega
    refine vi_iload 16 rfl rfl ?_
    refine vi_aload_n 17 rfl rfl ?_
    refine vi_get 18 rfl f_X9_101 q0 rfl rfl ?_
    refine vi_icmp_ge 19 rfl (by omega) (by omega) (fun c_36 => ?_) (fun c_36 => ?_)
    · refine vi_iconst 40 rfl ?_
      refine vi_istore 41 rfl rfl ?_
      exact vi_lc (lp3 cf1 (fun j j1 j2 => by rw [hcf1 j j1 j2, show i.toNat = wb_cr hl t by omega]) 1 (by omega) w1 cf1 (by omega) (fun j j1 j2 => by by_cases e : j < 1; (rw [if_pos e, show j = 0 by omega, show ((0 : Int) + 1).toNat = 1 from rfl, wb_sk, wb_sk]; simp); (rw [if_neg e])) hwe1 ef) ⟨rfl, rfl, rfl, rfl, rfl, rfl, rfl, trivial⟩
    · refine vi_iload 20 rfl rfl ?_
      refine vi_aload_n 21 rfl rfl ?_
      refine vi_get 22 rfl f_X9_18 e0 rfl rfl ?_
      refine vi_alen 23 rfl e1 rfl ?_
      refine vi_icmp_ge 24 rfl (by omega) (by omega) (fun c_46 => by exfalso; omega) (fun c_46 => ?_)
      have hwr1 := hwr (by omega)
      refine vi_aload_n 25 rfl rfl ?_
      refine vi_get 26 rfl f_X9_18 e0 rfl rfl ?_
      refine vi_iload 27 rfl rfl ?_
      refine vi_iald 28 rfl e1 (by omega) ?_
      refine vi_if_le 29 rfl (by omega) (fun c_56 => ?_) (fun c_56 => ?_)
      · refine vi_iinc 38 rfl rfl rfl ?_
        refine vi_goto 39 rfl ?_
        first | exact vi_lc (ih (i + 1) (by omega) (by omega) w2 cf2 (by omega) (fun j j1 j2 => by rw [hcf2 j j1 j2, hcf1 j j1 j2, hst, wb_sk, hii]; omega) hwe2 (fun k hk => (hf2 k hk).trans (ef k hk))) ⟨rfl, rfl, rfl, rfl, rfl, rfl, rfl, trivial⟩ | exact vi_lc (ih (i + 1) (by omega) (by omega) w1 cf1 (by omega) (fun j j1 j2 => by rw [hcf1 j j1 j2, hst, wb_sk, hii, show wf i = 0 by omega]; (split <;> split <;> omega)) hwe1 ef) ⟨rfl, rfl, rfl, rfl, rfl, rfl, rfl, trivial⟩
      · refine vi_aload_n 30 rfl rfl ?_
        refine vi_aload_n 31 rfl rfl ?_
        refine vi_iload 32 rfl rfl ?_
        refine vi_iload_n 33 rfl rfl ?_
        refine vi_iload_n 34 rfl rfl ?_
        refine vi_iload 35 rfl rfl ?_
        refine vi_iload 36 rfl rfl ?_
        refine vi_V6 37 ok_X9_countKey rfl c_X9_104 e0 rfl rfl ?_
        refine sp_X9_countKey hwe1 hwo1 hbk1 hR hHL hce1 ht (by omega) hm hfr hti hsl (fun w2 cf2 hcf2 hwe2 hf2 => ?_)
        refine vi_iinc 38 rfl rfl rfl ?_
        refine vi_goto 39 rfl ?_
        first | exact vi_lc (ih (i + 1) (by omega) (by omega) w2 cf2 (by omega) (fun j j1 j2 => by rw [hcf2 j j1 j2, hcf1 j j1 j2, hst, wb_sk, hii]; omega) hwe2 (fun k hk => (hf2 k hk).trans (ef k hk))) ⟨rfl, rfl, rfl, rfl, rfl, rfl, rfl, trivial⟩ | exact vi_lc (ih (i + 1) (by omega) (by omega) w1 cf1 (by omega) (fun j j1 j2 => by rw [hcf1 j j1 j2, hst, wb_sk, hii, show wf i = 0 by omega]; (split <;> split <;> omega)) hwe1 ef) ⟨rfl, rfl, rfl, rfl, rfl, rfl, rfl, trivial⟩
  have lp1 : ∀ i, i ≤ 12 → ∀ (w1 : wb_W) (cf1 : Int → Int), 0 ≤ i → (∀ j, 0 ≤ j → j < i → cf1 j = 0) → wb_We w1 xt wf cf1 ms ff → (∀ k, k ≠ 93 → w1 k = w k) → wb_V G M_X9_count 3 [(0, .ref 89), (1, .ref (wb_cp hl t)), (2, .int (wb_i m)), (3, .int (wb_i fr)), (4, .int (wb_i ti)), (5, .int (wb_i sl)), (6, .int (wb_i i))] [] N w1 0 0 Q := by
    refine wb_up 12 _ ?_
    intro i ih hi w1 cf1 hi0 hcf1 hwe1 ef
    have hwe1' := hwe1
    obtain ⟨e0, e1, e2, e3, e4⟩ := hwe1'
    refine vi_iload 2 rfl rfl ?_
    refine vi_aload_n 3 rfl rfl ?_
    refine vi_get 4 rfl f_X9_22 e0 rfl rfl ?_
    refine vi_alen 5 rfl e2 rfl ?_
    refine vi_icmp_ge 6 rfl (by omega) (by omega) (fun c_10 => ?_) (fun c_10 => ?_)
    · refine vi_iconst 14 rfl ?_
      refine vi_istore 15 rfl rfl ?_
      exact vi_lc (lp2 0 (by omega) w1 cf1 (by omega) (fun j j1 j2 => by rw [hcf1 j j1 (by omega)]; rfl) hwe1 ef) ⟨rfl, rfl, rfl, rfl, rfl, rfl, rfl, trivial⟩
    · refine vi_aload_n 7 rfl rfl ?_
      refine vi_get 8 rfl f_X9_22 e0 rfl rfl ?_
      refine vi_iload 9 rfl rfl ?_
      refine vi_iconst 10 rfl ?_
      refine vi_iast 11 rfl e2 (by omega) ?_
      refine vi_iinc 12 rfl rfl rfl ?_
      refine vi_goto 13 rfl ?_
      exact vi_lc (ih (i + 1) (by omega) (by omega) _ (wb_u cf1 i 0) (by omega) (fun j j1 j2 => by by_cases e : j = i; (rw [e]; exact wb_us); (rw [wb_un e]; exact hcf1 j j1 (by omega))) ⟨by rw [wb_upn (by omega)]; exact e0, by rw [wb_upn (by omega)]; exact e1, wb_ups, by rw [wb_upn (by omega)]; exact e3, by rw [wb_upn (by omega)]; exact e4⟩ (fun k hk => (wb_upn hk).trans (ef k hk))) ⟨rfl, rfl, rfl, rfl, rfl, rfl, rfl, trivial⟩
  refine vi_iconst 0 rfl ?_
  refine vi_istore 1 rfl rfl ?_
  exact vi_lc (lp1 0 (by omega) w cf (by omega) (fun j j1 j2 => by omega) hwe (fun _ _ => rfl)) ⟨rfl, rfl, rfl, rfl, rfl, rfl, rfl, trivial⟩
end WBS46
