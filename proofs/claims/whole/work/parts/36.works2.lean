/-! ===== the first that fits; how far a mixture goes ===== -/
theorem wb_nx_congr {S T : Int → Bool} (h : ∀ x, 0 ≤ x → x < 15625 → S x = T x) : wb_nx S 0 = wb_nx T 0 := by
  rcases wb_nx_cases T 0 with ⟨h1, h2, h3, h4⟩ | ⟨h1, h2⟩
  · exact wb_nx_at h1 h2 (by rw [h _ h1 h2]; exact h3) (fun y y1 y2 => by rw [h y y1 (by omega)]; exact h4 y y1 y2)
  · rw [h1]; exact wb_nx_no (fun y y1 y2 => by rw [h y y1 y2]; exact h2 y y1 y2)
theorem wb_nx_sub {S T : Int → Bool} (h : ∀ x, 0 ≤ x → x < 15625 → T x = true → S x = true) (hn : wb_nx S 0 < 0) : wb_nx S 0 = wb_nx T 0 := by
  rcases wb_nx_cases S 0 with ⟨h1, h2, h3, h4⟩ | ⟨h1, h2⟩
  · omega
  · rw [h1]
    refine (wb_nx_no (fun y y1 y2 => ?_)).symm
    cases hT : T y with
    | false => rfl
    | true => have := h y y1 y2 hT; rw [h2 y y1 y2] at this; cases this
theorem wb_al_rot {f : Int → Bool} {hl : Int} (h : -1 ≤ hl ∧ hl ≤ 2) : wb_al (fun j => f ((hl + 1 + j) % 3)) 3 = wb_al f 3 := by
  rcases (show hl = -1 ∨ hl = 0 ∨ hl = 1 ∨ hl = 2 by omega) with rfl | rfl | rfl | rfl
  · simp [wb_al]
  · simp [wb_al]; cases f 0 <;> cases f 1 <;> cases f 2 <;> rfl
  · simp [wb_al]; cases f 0 <;> cases f 1 <;> cases f 2 <;> rfl
  · simp [wb_al]
theorem wb_al_imp {f : Int → Bool} : ∀ {k n : Nat}, k ≤ n → wb_al f n = true → wb_al f k = true := by
  intro k n hk h
  obtain ⟨d, rfl⟩ : ∃ d, n = k + d := ⟨n - k, by omega⟩
  clear hk
  induction d with
  | zero => exact h
  | succ d ih => exact ih ((wb_and (show (wb_al f (k + d) && f ((k + d : Nat) : Int)) = true from h)).1)
/-- does it go on till a month -/
def wb_pk (c s : Int → Int) (sd sf x t : Int) (m : Nat) : Bool := wb_ok (wb_le c t 0 0) (wb_mt c t 0 0) (s (4 * t + 2)) (s (4 * t + 3)) (fun m => wb_ne c sd sf x m t) (s (4 * t)) (s (4 * t + 1)) m
/-- the first month with which it can't go on, or how many -/
def wb_fm (p : Nat → Bool) : Nat → Int
  | 0 => 0
  | k + 1 => if wb_fm p k < k then wb_fm p k else if p (k + 1) then k + 1 else k
theorem wb_fm_rg (p : Nat → Bool) : ∀ k : Nat, 0 ≤ wb_fm p k ∧ wb_fm p k ≤ k := by
  intro k
  induction k with
  | zero => exact ⟨Int.le_refl _, Int.le_refl _⟩
  | succ k ih => rw [wb_fm]; split <;> (try split) <;> omega
theorem wb_fm_all {p : Nat → Bool} : ∀ k : Nat, (∀ m, m ≤ k → p m = true) → wb_fm p k = k := by
  intro k
  induction k with
  | zero => intro _; rfl
  | succ k ih =>
    intro h
    rw [wb_fm, ih (fun m hm => h m (by omega)), if_neg (by omega), if_pos (h _ (by omega))]; rfl
theorem wb_fm_at {p : Nat → Bool} {m : Nat} (h1 : ∀ j, j ≤ m → p j = true) (h2 : p (m + 1) = false) : ∀ k : Nat, m < k → wb_fm p k = m := by
  intro k
  induction k with
  | zero => intro h; omega
  | succ k ih =>
    intro hk
    rw [wb_fm]
    by_cases e : k = m
    · subst e; rw [wb_fm_all k h1, if_neg (by omega), h2]; rfl
    · rw [ih (by omega), if_pos (by omega)]
theorem wb_fm_min (p : Nat → Bool) : ∀ d k : Nat, wb_fm p k = if wb_fm p (k + d) < k then wb_fm p (k + d) else k := by
  intro d
  induction d with
  | zero => intro k; have := wb_fm_rg p k; rw [Nat.add_zero]; split <;> omega
  | succ d ih =>
    intro k
    have h1 := ih k
    have h2 := wb_fm_rg p (k + d)
    have h3 := wb_fm_rg p (k + d + 1)
    have h4 : wb_fm p (k + d + 1) = if wb_fm p (k + d) < (k + d : Nat) then wb_fm p (k + d) else if p (k + d + 1) then (k + d : Nat) + 1 else (k + d : Nat) := rfl
    rw [show k + (d + 1) = k + d + 1 from rfl, h1]
    by_cases hc : wb_fm p (k + d) < (k + d : Nat)
    · rw [if_pos hc] at h4; rw [h4]
    · rw [if_neg hc] at h4
      rw [if_neg (show ¬ wb_fm p (k + d) < k by omega), if_neg (show ¬ wb_fm p (k + d + 1) < k by split at h4 <;> omega)]
/-- 3 times the month, and the thing, of three first months -/
def wb_js (a : Int × Int) (t r : Int) : Int × Int := if r < a.1 then (r, 3 * r + t) else a
def wb_jg (r : Int → Int) (n : Int) : Nat → Int × Int
  | 0 => (n, -1)
  | k + 1 => wb_js (wb_jg r n k) k (r k)
theorem wb_jg_rg {r : Int → Int} {n : Int} (h0 : 0 ≤ n ∧ n ≤ 8) (hr : ∀ t, 0 ≤ r t) : ∀ k : Nat, k ≤ 3 → (0 ≤ (wb_jg r n k).1 ∧ (wb_jg r n k).1 ≤ n) ∧ -1 ≤ (wb_jg r n k).2 ∧ (wb_jg r n k).2 ≤ 100 := by
  intro k
  induction k with
  | zero => intro _; simp [wb_jg]; omega
  | succ k ih =>
    intro hk
    have i1 := ih (by omega)
    have i2 := hr k
    rw [wb_jg, wb_js]; split
    · simp only; omega
    · exact i1
section WBS36
variable {G : wb_G} {N : Nat} {w : wb_W} {Q : Option Value → Nat → wb_W → Prop}
variable {n : Int} {c s : Int → Int} {sd sf bo tu : Int} {g : Int → Int64} {K : Int → Bool} {hl wt ct mt : Int}
theorem sp_X10_first (hwk : wb_Wk w n c s sd sf tu K hl tu ct mt) (hQ : Q (some (.int (wb_i (wb_nx (wb_ft n c s sd sf K 0 0) 0)))) N w) : wb_M G M_X10_first [.ref 29] N w Q := by
  unfold wb_M
  obtain ⟨hwo, hfs, hsh, hm2, -, -, hrt, hval⟩ := hwk
  obtain ⟨hHL, ⟨g5, h38, hrp⟩, -⟩ := hval rfl
  refine vi_aload_n 0 rfl rfl ?_
  refine vi_get 1 rfl f_X10_28 hwo.1 rfl rfl ?_
  refine vi_iconst 2 rfl ?_
  refine vi_V1 3 ok_X5_next rfl c_X10_114 h38.1 rfl rfl ?_
  refine sp_X5_next h38 hrp (by omega) ?_
  exact vi_ireturn 4 rfl rfl rfl (Nat.zero_le _) (Nat.zero_le _) (hQ)
theorem sp_X10_firstBy {more dou : Int} (hbk : wb_Bk w 4 n c s sd sf bo tu g) (hR : wb_BR n c s sd sf) (hK : wb_rp g K) (htu : 1 ≤ tu) (hwk : wb_Wk w n c s sd sf tu K hl tu ct mt) (hmo : 0 ≤ more ∧ more ≤ 99) (hdo : 0 ≤ dou ∧ dou < 256)
    (hQ : ∀ w', wb_Wk w' n c s sd sf tu K hl tu ct 0 → (∀ k, (k < 29 ∨ 81 ≤ k) → w' k = w k) → Q (some (.int (wb_i (wb_nx (wb_ft n c s sd sf K more dou) 0)))) N w') : wb_M G M_X10_firstBy [.ref 29, .int (wb_i more), .int (wb_i dou)] N w Q := by
  unfold wb_M
  obtain ⟨hwo, hfs, hsh, hm2, h38, ⟨g6, h40⟩, hrt, hval⟩ := hwk
  obtain ⟨hHL, hfit, hmd, hce⟩ := hval rfl
  have hrg := hHL.rg hR
  have lp : ∀ i, i ≤ 4 → ∀ (w1 : wb_W) (g1 : Int → Int64), 1 ≤ i → wb_Wo w1 hl tu ct 0 → wb_FS w1 → wb_Sh4 w1 → (∀ t, 0 ≤ t → t < 3 → wb_Ce w1 hl n c s sd sf t (ct = tu) (0 = tu)) → wb_Mw w1 40 g1 → wb_rp g1 (fun x => K x && wb_al (fun j => wb_A n c s sd sf more dou ((hl + 1 + j) % 3) x) (i - 1).toNat) → (∀ k, (k < 29 ∨ 81 ≤ k ∨ k = 38 ∨ k = 39 ∨ k = 42 ∨ k = 43) → w1 k = w k) → wb_V G M_X10_firstBy 21 [(0, .ref 29), (1, .int (wb_i more)), (2, .int (wb_i dou)), (3, .int (wb_i i))] [] N w1 0 0 Q := by
    refine wb_up 4 _ ?_
    intro i ih hi w1 g1 hi0 hwo1 hfs1 hsh1 hce1 h401 hrp1 ef
    obtain ⟨n0, le0, mo0, fl0, fm0, ho0, lo0, L0, H0, hfl⟩ := hfs1
    have hbk1 : wb_Bk w1 4 n c s sd sf bo tu g := hbk.fr (fun k p1 p2 => ef k (by omega))
    have hnx := wb_nx_cases (fun x => K x && wb_al (fun j => wb_A n c s sd sf more dou ((hl + 1 + j) % 3) x) (i - 1).toNat) 0
    have en : (i + 1 - 1).toNat = (i - 1).toNat + 1 := by omega
    have ei : hl + 1 + (((i - 1).toNat : Nat) : Int) = hl + i := by omega
    have hwk1 : wb_Wk w1 n c s sd sf tu K hl tu ct 0 := ⟨hwo1, ⟨_, _, _, _, _, _, _, _, _, hfl⟩, hsh1, hm2.fr (fun k p1 p2 => ef k (by omega)), h38.elim fun g5 h => ⟨g5, h.fr (fun k p1 p2 => ef k (by omega))⟩, ⟨g1, h401⟩, by omega, fun _ => ⟨hHL, hfit.elim fun g5 h => ⟨g5, h.1.fr (fun k p1 p2 => ef k (by omega)), h.2⟩, hmd.fr (fun k p1 p2 => ef k (by omega)), hce1⟩⟩
    have hsub : ∀ x, wb_ft n c s sd sf K more dou x = true → (K x && wb_al (fun j => wb_A n c s sd sf more dou ((hl + 1 + j) % 3) x) (i - 1).toNat) = true := fun x hx => by
      unfold wb_ft wb_AA at hx
      obtain ⟨x1, x2⟩ := wb_and hx
      rw [x1, Bool.true_and]
      rw [← wb_al_rot hrg.1 (f := fun t => wb_A n c s sd sf more dou t x)] at x2
      exact wb_al_imp (by omega) x2
    refine vi_iload_n 11 rfl rfl ?_
    refine vi_iconst 12 rfl ?_
    refine vi_icmp_gt 13 rfl (by omega) (by omega) (fun c_23 => ?_) (fun c_23 => ?_)
    · refine vi_aload_n 49 rfl rfl ?_
      refine vi_get 50 rfl f_X10_32 hwo1.1 rfl rfl ?_
      refine vi_iconst 51 rfl ?_
      refine vi_V1 52 ok_X5_next rfl c_X10_114 h401.1 rfl rfl ?_
      refine sp_X5_next h401 hrp1 (by omega) ?_
      exact vi_ireturn 53 rfl rfl rfl (Nat.zero_le _) (Nat.zero_le _) (wb_e (by first | (refine wb_nx_congr (fun x p1 p2 => ?_); rw [show (i - 1).toNat = 3 by omega]; unfold wb_ft wb_AA; rw [wb_al_rot hrg.1 (f := fun t => wb_A n c s sd sf more dou t x)]; done) | exact wb_nx_sub (fun x p1 p2 => hsub x) (by omega)) (hQ w1 hwk1 (fun k hk => ef k (by omega))))
    · refine vi_aload_n 14 rfl rfl ?_
      refine vi_get 15 rfl f_X10_32 hwo1.1 rfl rfl ?_
      refine vi_iconst 16 rfl ?_
      refine vi_V1 17 ok_X5_next rfl c_X10_114 h401.1 rfl rfl ?_
      refine sp_X5_next h401 hrp1 (by omega) ?_
      refine vi_if_lt 18 rfl (by omega) (fun c_34 => ?_) (fun c_34 => ?_)
      · refine vi_aload_n 49 rfl rfl ?_
        refine vi_get 50 rfl f_X10_32 hwo1.1 rfl rfl ?_
        refine vi_iconst 51 rfl ?_
        refine vi_V1 52 ok_X5_next rfl c_X10_114 h401.1 rfl rfl ?_
        refine sp_X5_next h401 hrp1 (by omega) ?_
        exact vi_ireturn 53 rfl rfl rfl (Nat.zero_le _) (Nat.zero_le _) (wb_e (by first | (refine wb_nx_congr (fun x p1 p2 => ?_); rw [show (i - 1).toNat = 3 by omega]; unfold wb_ft wb_AA; rw [wb_al_rot hrg.1 (f := fun t => wb_A n c s sd sf more dou t x)]; done) | exact wb_nx_sub (fun x p1 p2 => hsub x) (by omega)) (hQ w1 hwk1 (fun k hk => ef k (by omega))))
      · have hti : 0 ≤ (hl + i) % 3 ∧ (hl + i) % 3 < 3 := by omega
        have hcr := wb_cp_rg hl hti
        refine vi_aload_n 19 rfl rfl ?_
        refine vi_get 20 rfl f_X10_42 hwo1.1 rfl rfl ?_
        refine vi_iload_n 21 rfl rfl ?_
        refine vi_iadd 22 rfl ?_
        refine vi_iconst 23 rfl ?_
        refine vi_irem 24 rfl (by omega) (by omega) ?_
        refine vi_istore 25 rfl rfl ?_
        refine vi_aload_n 26 rfl rfl ?_
        refine vi_get 27 rfl f_X10_21 hwo1.1 rfl rfl ?_
        refine vi_aload_n 28 rfl rfl ?_
        refine vi_get 29 rfl f_X10_46 hwo1.1 rfl rfl ?_
        refine vi_iload 30 rfl rfl ?_
        refine vi_iload_n 31 rfl rfl ?_
        refine vi_iload_n 32 rfl rfl ?_
        refine vi_V4 33 ok_X3_set rfl c_X10_101 hfl.1 rfl rfl ?_
        refine sp_X3_set hfl hbk1 hR (by omega) hti hmo hdo (fun w2 le2 mo2 hle2 hfl2 hf2 => ?_)
        have hwo2 : wb_Wo w2 hl tu ct 0 := hwo1.fr (fun k hk => hf2 k (by omega))
        obtain ⟨⟨nd, ah, on, hco, hnd, hch⟩, -⟩ := hce1 _ hti.1 hti.2
        obtain ⟨-, t', o', P', hms⟩ := hsh1.at hl hti
        have hco2 : wb_Co w2 (wb_cp hl ((hl + i) % 3)) (wb_cr hl ((hl + i) % 3)) nd ah on ((hl + i) % 3) (wb_gu hl sf ((hl + i) % 3)) (wb_cr hl ((hl + i) % 3)) := hco.fr (fun k p1 p2 => hf2 k (by omega))
        have hms2 : wb_Ms w2 (wb_cp hl ((hl + i) % 3) + 6) 30 t' o' P' := hms.fr (fun k p1 p2 => hf2 k (by omega))
        have hco3 := hco2
        obtain ⟨f0, f1, k0, -⟩ := hco3
        refine vi_aload_n 34 rfl rfl ?_
        refine vi_iload 35 rfl rfl ?_
        refine vi_V1 36 ok_X10_course rfl c_X10_80 hwo2.1 rfl rfl ?_
        refine sp_X10_course ‹_› (by omega) (by omega) ?_
        refine vi_aload_n 37 rfl rfl ?_
        refine vi_get 38 rfl f_X10_21 hwo2.1 rfl rfl ?_
        refine vi_V1 39 ok_X2_strain rfl c_X10_104 k0 rfl rfl ?_
        refine sp_X2_strain hco2 hms2 hwo2.2.2 hfl2 (wb_FR_set hR hti (by omega) hle2) (hR.2.2.2.2.2.2.2.1 _).1 (by omega) (by omega) (by omega) hti (wb_gu_rm hHL hR hti) (wb_thing hR hHL hti hnd) (fun w3 L3 H3 hms3 hfl3 hf3 => ?_)
        have hco4 : wb_Co w3 (wb_cp hl ((hl + i) % 3)) (wb_cr hl ((hl + i) % 3)) nd ah on ((hl + i) % 3) (wb_gu hl sf ((hl + i) % 3)) (wb_cr hl ((hl + i) % 3)) := hco2.fr (fun k p1 p2 => hf3 k (by omega) (by omega))
        have hwo3 : wb_Wo w3 hl tu ct 0 := hwo2.fr (fun k hk => hf3 k (by omega) (by omega))
        have hco5 := hco4
        obtain ⟨f0', f1', k0', -⟩ := hco5
        have hms5 := hms3
        obtain ⟨q0, q1, m0, -⟩ := hms5
        have h403 : wb_Mw w3 40 g1 := h401.fr (fun k p1 p2 => (hf3 k (by omega) (by omega)).trans (hf2 k (by omega)))
        refine vi_aload_n 40 rfl rfl ?_
        refine vi_iload 41 rfl rfl ?_
        refine vi_V1 42 ok_X10_course rfl c_X10_80 hwo3.1 rfl rfl ?_
        refine sp_X10_course ‹_› (by omega) (by omega) ?_
        refine vi_get 43 rfl f_X10_117 k0' rfl rfl ?_
        refine vi_aload_n 44 rfl rfl ?_
        refine vi_get 45 rfl f_X10_32 hwo3.1 rfl rfl ?_
        refine vi_V1 46 ok_X4_narrow rfl c_X10_121 m0 rfl rfl ?_
        refine sp_X4_narrow hms3 h403 hrp1 (by omega) hti (by have := wb_gu_rm hHL hR hti; omega) (fun w4 g4 hg4 hm4 hf4 => ?_)
        refine vi_iinc 47 rfl rfl rfl ?_
        refine vi_goto 48 rfl ?_
        refine vi_lc (ih (i + 1) (by omega) (by omega) w4 g4 (by omega) (hwo3.fr (fun k hk => hf4 k (by omega))) ⟨_, _, _, _, _, _, _, _, _, hfl3.fr (fun k p1 p2 => hf4 k (by omega))⟩ (hsh1.up hti ⟨⟨_, _, _, _, _, _, hco4.fr (fun k p1 p2 => hf4 k (by omega))⟩, _, _, _, hms3.fr (fun k p1 p2 => hf4 k (by omega))⟩ (fun k p1 p2 p3 => (hf4 k (by omega)).trans ((hf3 k (by omega) (by omega)).trans (hf2 k (by omega))))) (fun t t1 t2 => ?_) hm4 (hg4.to (fun x p1 p2 => ?_)) (fun k hk => (hf4 k (by omega)).trans ((hf3 k (by omega) (by omega)).trans ((hf2 k (by omega)).trans (ef k hk))))) ⟨rfl, rfl, rfl, rfl, trivial⟩
        · by_cases hti2 : t = (hl + i) % 3
          · rw [hti2]; exact ⟨⟨nd, ah, on, hco4.fr (fun k p1 p2 => hf4 k (by omega)), hnd, hch⟩, fun q => by omega⟩
          · have hap := wb_cp_ap (hl := hl) hti (t' := t) ⟨t1, t2⟩ (fun q => hti2 q.symm)
            have hcr2 := wb_cp_rg hl (t := t) ⟨t1, t2⟩
            exact (hce1 t t1 t2).fr (fun k p1 p2 => (hf4 k (by omega)).trans ((hf3 k (by omega) (by omega)).trans (hf2 k (by omega))))
        · rw [wb_mp_A hHL hR hti ⟨p1, p2⟩ hle2 hnd, en, wb_al, ei, Bool.and_assoc]
  have hbk' := hbk
  obtain ⟨b0, b1, b2, b3, b4⟩ := hbk'
  refine vi_aload_n 0 rfl rfl ?_
  refine vi_iconst 1 rfl ?_
  refine vi_put 2 rfl f_X10_98 hwo.1 rfl rfl rfl rfl ?_
  refine vi_aload_n 3 rfl rfl ?_
  refine vi_get 4 rfl f_X10_32 wb_ups rfl rfl ?_
  refine vi_aload_n 5 rfl rfl ?_
  refine vi_get 6 rfl f_X10_46 wb_ups rfl rfl ?_
  refine vi_get 7 rfl f_X10_107 ((wb_upn (by omega)).trans b0) rfl rfl ?_
  refine vi_V1 8 ok_X5_copy rfl c_X10_110 ((wb_upn (by omega)).trans h40.1) rfl rfl ?_
  refine sp_X5_copy (b := 40) (h40.fr (fun k p1 p2 => wb_upn (by omega))) (b2 := 7) ⟨(wb_upn (by omega)).trans b3, (wb_upn (by omega)).trans b4⟩ (fun w2 g2 hg2 hm2' hf2 => ?_)
  have ef : ∀ k, k ≠ 29 → k ≠ 41 → w2 k = w k := fun k p1 p2 => (hf2 k p2).trans (wb_upn p1)
  refine vi_iconst 9 rfl ?_
  refine vi_istore_n 10 rfl rfl ?_
  exact vi_lc (lp 1 (by omega) w2 g2 (by omega) ⟨(hf2 _ (by omega)).trans wb_ups, (ef _ (by omega) (by omega)).trans hwo.2.1, hwo.2.2.fr (fun k p1 p2 => ef k (by omega) (by omega))⟩ (hfs.fr (fun k p1 p2 => ef k (by omega) (by omega))) (hsh.fr (fun k p1 p2 => ef k (by omega) (by omega))) (fun t t1 t2 => have hcr := wb_cp_rg hl (t := t) ⟨t1, t2⟩; ((hce t t1 t2).no (cv' := ct = tu) (mv' := 0 = tu) id (fun _ => by omega)).fr (fun k p1 p2 => ef k (by omega) (by omega))) hm2' ((wb_rp_eq hK hg2).to (fun x p1 p2 => by rw [show ((1 : Int) - 1).toNat = 0 from rfl, wb_al, Bool.and_true])) (fun k hk => ef k (by omega) (by omega))) ⟨rfl, rfl, rfl, rfl, trivial⟩
end WBS36
