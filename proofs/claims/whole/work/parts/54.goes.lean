/-! ===== the reference: what goes, what agrees ===== -/
def wb_ca (c : Int → Int) (tm tt tr t m : Int) : Int := if m = tm ∧ t = tt then (if tr < 0 then c (9 * m + t) - tr else tr) else c (9 * m + t)
def wb_gi (c : Int → Int) (mo tm tt tr t m : Int) : Int := if m = tm ∧ t = tt then (if tr < 0 then c (9 * m + 3) + mo else 0) else c (9 * m + 3) + mo
/-- the least and the most that comes in -/
def wb_rl (c : Int → Int) (mo db tm tt tr t m : Int) : Int := if wb_bt db m then 0 else if wb_ca c tm tt tr t m < wb_gi c mo tm tt tr t m then 0 else wb_ca c tm tt tr t m - wb_gi c mo tm tt tr t m
def wb_rm2 (c : Int → Int) (mo db tm tt tr t m : Int) : Int := if wb_bt db m then 100000 else wb_ca c tm tt tr t m + wb_gi c mo tm tt tr t m
theorem wb_rl_le {c : Int → Int} {mo db tm tt tr t m : Int} (h : ¬ (m = tm ∧ t = tt)) : wb_rl c mo db tm tt tr t m = wb_le c t mo db m ∧ wb_rm2 c mo db tm tt tr t m = wb_mt c t mo db m := by
  unfold wb_rl wb_rm2 wb_le wb_mt wb_ca wb_gi
  rw [if_neg h, if_neg h]
  split
  · exact ⟨rfl, rfl⟩
  · refine ⟨?_, rfl⟩
    split <;> split <;> omega
theorem wb_cg_rg {n : Int} {c s : Int → Int} {sd sf mo tm tt tr t m : Int} (hR : wb_BR n c s sd sf) (hmo : 0 ≤ mo ∧ mo ≤ 99) (htr : -9 ≤ tr ∧ tr ≤ 1000) : (0 ≤ wb_ca c tm tt tr t m ∧ wb_ca c tm tt tr t m ≤ 1000) ∧ 0 ≤ wb_gi c mo tm tt tr t m ∧ wb_gi c mo tm tt tr t m ≤ 104 := by
  have a := hR.2.1 (9 * m + t)
  have b := hR.2.1 (9 * m + 3)
  have d := hR.2.2.2.2.2.1 m
  unfold wb_ca wb_gi
  by_cases h : m = tm ∧ t = tt
  · rw [if_pos h, if_pos h]; split <;> omega
  · rw [if_neg h, if_neg h]; omega
theorem wb_fm_iff {p : Nat → Bool} (h0 : p 0 = true) (hno : ∀ m n, m ≤ n → p m = false → p n = false) (k : Nat) : wb_fm p k = k ↔ p k = true := by
  constructor
  · intro h
    cases k with
    | zero => exact h0
    | succ k =>
      rw [wb_fm] at h
      by_cases h1 : wb_fm p k < k
      · rw [if_pos h1] at h; omega
      · rw [if_neg h1] at h
        by_cases h2 : p (k + 1) = true
        · exact h2
        · rw [if_neg h2] at h; omega
  · intro h
    refine wb_fm_all k (fun m hm => ?_)
    cases hp : p m with
    | true => rfl
    | false => rw [hno m k hm hp] at h; cases h
theorem wb_fm_ok {le mo : Int → Int} {ho lo : Int} {nd : Int → Int} {L0 H0 : Int} (k : Nat) : wb_fm (wb_ok le mo ho lo nd L0 H0) k = k ↔ wb_ok le mo ho lo nd L0 H0 k = true := wb_fm_iff rfl (fun m n h q => wb_ok_no q n h) k
/-- what a thing needs in a month by two pairs till a month and two from then on -/
def wb_nn2 (c : Int → Int) (sd sf t ow th o1 o2 fr m : Int) : Int := if m < fr then wb_ow c sd sf m t ow + wb_gn c sd sf m t o1 else wb_ow c sd sf m t th + wb_gn c sd sf m t o2
/-- it goes on so for that many months -/
def wb_gk (c s : Int → Int) (sd sf mo db tm tt tr t ow th o1 o2 fr : Int) : Nat → Bool := wb_ok (wb_rl c mo db tm tt tr t) (wb_rm2 c mo db tm tt tr t) (s (4 * t + 2)) (s (4 * t + 3)) (wb_nn2 c sd sf t ow th o1 o2 fr) (s (4 * t)) (s (4 * t + 1))
def wb_gr (c s : Int → Int) (sd sf mo db tm tt tr t ow th o1 o2 fr : Int) : Nat → Int × Int := wb_rn (wb_rl c mo db tm tt tr t) (wb_rm2 c mo db tm tt tr t) (s (4 * t + 2)) (s (4 * t + 3)) (wb_nn2 c sd sf t ow th o1 o2 fr) (s (4 * t)) (s (4 * t + 1))
/-- a thing agrees by its pair and the other's -/
def wb_ag (n : Int) (c s : Int → Int) (sd sf mo db tm tt tr t ow o1 : Int) : Bool := wb_gk c s sd sf mo db tm tt tr t ow ow o1 o1 0 n.toNat
section WBS54
variable {G : wb_G} {N : Nat} {w : wb_W} {Q : Option Value → Nat → wb_W → Prop}
variable {n sd sf cnt ru ld mo db tm tt tr L H fi ch : Int} {c s sg rs : Int → Int}
theorem wb_n6s {z t : Int} (ht : 0 ≤ t) : t = wb_n6 z ↔ t = z := by unfold wb_n6; split <;> omega
theorem sp_X12_isStoodIn {m : Int} (hrf : wb_Rf w n sd sf cnt ru ld mo db tm tt tr L H fi ch) (h97 : w 97 = aI 72 c) (hR : wb_BR n c s sd sf) (hm : 0 ≤ m ∧ m < 8) (k1 : wb_si c sd sf m → Q (some (.int (wb_i 1))) N w) (k0 : ¬ wb_si c sd sf m → Q (some (.int (wb_i 0))) N w) : wb_M G M_X12_isStoodIn [.ref 96, .int (wb_i m)] N w Q := by
  unfold wb_M
  unfold wb_Rf at hrf
  obtain ⟨r1, r2, r3, r4, r5, r6, r7, r8, r9⟩ := hR
  have h6 := wb_n6_rg r4
  have e1 : wb_n6 sd = if sd < 0 then -6 else sd := rfl
  have e2 : wb_n6 sf = if sf < 0 then -6 else sf := rfl
  by_cases hd : sd < 0
  · rw [if_pos hd] at e1
    refine vi_aload_n 0 rfl rfl ?_
    refine vi_get 1 rfl f_X12_16 hrf rfl rfl ?_
    refine vi_if_lt 2 rfl (by omega) (fun c_4 => ?_) (fun c_4 => by exfalso; omega)
    refine vi_iconst 28 rfl ?_
    exact vi_ireturn 29 rfl rfl rfl (Nat.zero_le _) (Nat.zero_le _) (k0 (fun q => by have := q.1; omega))
  · have hf := r9 (by omega)
    rw [if_neg hd] at e1
    rw [if_neg (by omega)] at e2
    have q1 := r2 (9 * m + 6 + sd)
    have q2 := r2 (9 * m + 6 + sf)
    have z1 : 9 * m + 6 + sd = 9 * m + (6 + sd) := by omega
    have z2 : 9 * m + 6 + sf = 9 * m + (6 + sf) := by omega
    refine vi_aload_n 0 rfl rfl ?_
    refine vi_get 1 rfl f_X12_16 hrf rfl rfl ?_
    refine vi_if_lt 2 rfl (by omega) (fun c_4 => by exfalso; omega) (fun c_4 => ?_)
    refine vi_aload_n 3 rfl rfl ?_
    refine vi_get 4 rfl f_X12_7 hrf rfl rfl ?_
    refine vi_bipush 5 rfl (by decide) ?_
    refine vi_iload_n 6 rfl rfl ?_
    refine vi_imul 7 rfl ?_
    refine vi_bipush 8 rfl (by decide) ?_
    refine vi_iadd 9 rfl ?_
    refine vi_aload_n 10 rfl rfl ?_
    refine vi_get 11 rfl f_X12_16 hrf rfl rfl ?_
    refine vi_iadd 12 rfl ?_
    rw [e1]
    refine vi_iald 13 rfl h97 (by omega) ?_
    refine vi_aload_n 14 rfl rfl ?_
    refine vi_get 15 rfl f_X12_7 hrf rfl rfl ?_
    refine vi_bipush 16 rfl (by decide) ?_
    refine vi_iload_n 17 rfl rfl ?_
    refine vi_imul 18 rfl ?_
    refine vi_bipush 19 rfl (by decide) ?_
    refine vi_iadd 20 rfl ?_
    refine vi_aload_n 21 rfl rfl ?_
    refine vi_get 22 rfl f_X12_20 hrf rfl rfl ?_
    refine vi_iadd 23 rfl ?_
    rw [e2]
    refine vi_iald 24 rfl h97 (by omega) ?_
    refine vi_icmp_ge 25 rfl (by omega) (by omega) (fun c_41 => ?_) (fun c_41 => ?_)
    · refine vi_iconst 28 rfl ?_
      exact vi_ireturn 29 rfl rfl rfl (Nat.zero_le _) (Nat.zero_le _) (k0 (fun q => by have := q.2; rw [← z1, ← z2] at this; omega))
    · refine vi_iconst 26 rfl ?_
      refine vi_goto 27 rfl ?_
      exact vi_ireturn 29 rfl rfl rfl (Nat.zero_le _) (Nat.zero_le _) (k1 ⟨by omega, by rw [← z1, ← z2]; omega⟩)
theorem sp_X12_needOf {t m r1 r2 : Int} (hrf : wb_Rf w n sd sf cnt ru ld mo db tm tt tr L H fi ch) (h97 : w 97 = aI 72 c) (hR : wb_BR n c s sd sf) (ht : 0 ≤ t ∧ t < 3) (hm : 0 ≤ m ∧ m < 8) (h1 : 0 ≤ r1 ∧ r1 < 25) (h2 : 0 ≤ r2 ∧ r2 < 25) (hQ : Q (some (.int (wb_i (wb_ow c sd sf m t r1 + wb_gn c sd sf m t r2)))) N w) : wb_M G M_X12_needOf [.ref 96, .int (wb_i t), .int (wb_i m), .int (wb_i r1), .int (wb_i r2)] N w Q := by
  unfold wb_M
  have hrf' := hrf
  unfold wb_Rf at hrf'
  have s4 := hR.2.2.2.1
  have s5 := hR.2.2.2.2.1
  have e1 := wb_n6s (z := sd) ht.1
  have e2 := wb_n6s (z := sf) ht.1
  have g1 := wb_n6_rg s4
  have g2 := wb_n6_rg s5
  have r4 := hR.2.2.2.2.2.2.1 m
  refine vi_aload_n 0 rfl rfl ?_
  refine vi_get 1 rfl f_X12_7 hrf' rfl rfl ?_
  refine vi_bipush 2 rfl (by decide) ?_
  refine vi_iload_n 3 rfl rfl ?_
  refine vi_imul 4 rfl ?_
  refine vi_iconst 5 rfl ?_
  refine vi_iadd 6 rfl ?_
  refine vi_iald 7 rfl h97 (by omega) ?_
  refine vi_istore 8 rfl rfl ?_
  refine vi_aload_n 9 rfl rfl ?_
  refine vi_get 10 rfl f_X12_7 hrf' rfl rfl ?_
  refine vi_bipush 11 rfl (by decide) ?_
  refine vi_iload_n 12 rfl rfl ?_
  refine vi_imul 13 rfl ?_
  refine vi_iconst 14 rfl ?_
  refine vi_iadd 15 rfl ?_
  refine vi_iald 16 rfl h97 (by omega) ?_
  refine vi_istore 17 rfl rfl ?_
  refine vi_aload_n 18 rfl rfl ?_
  refine vi_iload_n 19 rfl rfl ?_
  refine vi_V1 20 ok_X12_isStoodIn rfl c_X12_98 hrf' rfl rfl ?_
  refine sp_X12_isStoodIn hrf h97 hR hm (fun b_28 => ?_) (fun b_28 => ?_)
  · refine vi_istore 21 rfl rfl ?_
    refine vi_iload 22 rfl rfl ?_
    refine vi_if_eq 23 rfl (by omega) (fun c => absurd c (by decide)) (fun _ => ?_)
    refine vi_iload_n 24 rfl rfl ?_
    refine vi_aload_n 25 rfl rfl ?_
    refine vi_get 26 rfl f_X12_20 hrf' rfl rfl ?_
    refine vi_icmp_ne 27 rfl (by omega) (by omega) (fun c_43 => ?_) (fun c_43 => ?_)
    · refine vi_iload 30 rfl rfl ?_
      refine vi_iload_n 31 rfl rfl ?_
      refine vi_iconst 32 rfl ?_
      refine vi_idiv 33 rfl (by omega) (by omega) ?_
      refine vi_imul 34 rfl ?_
      refine vi_iload 35 rfl rfl ?_
      refine vi_iload_n 36 rfl rfl ?_
      refine vi_iconst 37 rfl ?_
      refine vi_irem 38 rfl (by omega) (by omega) ?_
      refine vi_imul 39 rfl ?_
      refine vi_iadd 40 rfl ?_
      refine vi_istore 41 rfl rfl ?_
      refine vi_iload 42 rfl rfl ?_
      refine vi_iload 43 rfl rfl ?_
      refine vi_if_eq 44 rfl (by omega) (fun c => absurd c (by decide)) (fun _ => ?_)
      refine vi_iload_n 45 rfl rfl ?_
      refine vi_aload_n 46 rfl rfl ?_
      refine vi_get 47 rfl f_X12_16 hrf' rfl rfl ?_
      refine vi_icmp_ne 48 rfl (by omega) (by omega) (fun c_77 => ?_) (fun c_77 => ?_)
      · refine vi_iconst 61 rfl ?_
        refine vi_iadd 62 rfl ?_
        exact vi_ireturn 63 rfl rfl rfl (Nat.zero_le _) (Nat.zero_le _) (wb_e (by unfold wb_ow wb_gn wb_nd; first | (rw [if_pos ⟨e2.mp (by omega), b_28⟩, if_pos ⟨e1.mp (by omega), b_28⟩]; done) | (rw [if_pos ⟨e2.mp (by omega), b_28⟩, if_neg (fun q => by have := e1.mpr q.1; omega)]; done) | (rw [if_neg (fun q => by have := e2.mpr q.1; omega), if_pos ⟨e1.mp (by omega), b_28⟩]; done) | (rw [if_neg (fun q => by have := e2.mpr q.1; omega), if_neg (fun q => by have := e1.mpr q.1; omega)]; done) | (rw [if_neg (fun q => b_28 q.2), if_neg (fun q => b_28 q.2)]; done)) hQ)
      · refine vi_iload 49 rfl rfl ?_
        refine vi_iload 50 rfl rfl ?_
        refine vi_iconst 51 rfl ?_
        refine vi_idiv 52 rfl (by omega) (by omega) ?_
        refine vi_imul 53 rfl ?_
        refine vi_iload 54 rfl rfl ?_
        refine vi_iload 55 rfl rfl ?_
        refine vi_iconst 56 rfl ?_
        refine vi_irem 57 rfl (by omega) (by omega) ?_
        refine vi_imul 58 rfl ?_
        refine vi_iadd 59 rfl ?_
        refine vi_goto 60 rfl ?_
        refine vi_iadd 62 rfl ?_
        exact vi_ireturn 63 rfl rfl rfl (Nat.zero_le _) (Nat.zero_le _) (wb_e (by unfold wb_ow wb_gn wb_nd; first | (rw [if_pos ⟨e2.mp (by omega), b_28⟩, if_pos ⟨e1.mp (by omega), b_28⟩]; done) | (rw [if_pos ⟨e2.mp (by omega), b_28⟩, if_neg (fun q => by have := e1.mpr q.1; omega)]; done) | (rw [if_neg (fun q => by have := e2.mpr q.1; omega), if_pos ⟨e1.mp (by omega), b_28⟩]; done) | (rw [if_neg (fun q => by have := e2.mpr q.1; omega), if_neg (fun q => by have := e1.mpr q.1; omega)]; done) | (rw [if_neg (fun q => b_28 q.2), if_neg (fun q => b_28 q.2)]; done)) hQ)
    · refine vi_iconst 28 rfl ?_
      refine vi_goto 29 rfl ?_
      refine vi_istore 41 rfl rfl ?_
      refine vi_iload 42 rfl rfl ?_
      refine vi_iload 43 rfl rfl ?_
      refine vi_if_eq 44 rfl (by omega) (fun c => absurd c (by decide)) (fun _ => ?_)
      refine vi_iload_n 45 rfl rfl ?_
      refine vi_aload_n 46 rfl rfl ?_
      refine vi_get 47 rfl f_X12_16 hrf' rfl rfl ?_
      refine vi_icmp_ne 48 rfl (by omega) (by omega) (fun c_77 => ?_) (fun c_77 => ?_)
      · refine vi_iconst 61 rfl ?_
        refine vi_iadd 62 rfl ?_
        exact vi_ireturn 63 rfl rfl rfl (Nat.zero_le _) (Nat.zero_le _) (wb_e (by unfold wb_ow wb_gn wb_nd; first | (rw [if_pos ⟨e2.mp (by omega), b_28⟩, if_pos ⟨e1.mp (by omega), b_28⟩]; done) | (rw [if_pos ⟨e2.mp (by omega), b_28⟩, if_neg (fun q => by have := e1.mpr q.1; omega)]; done) | (rw [if_neg (fun q => by have := e2.mpr q.1; omega), if_pos ⟨e1.mp (by omega), b_28⟩]; done) | (rw [if_neg (fun q => by have := e2.mpr q.1; omega), if_neg (fun q => by have := e1.mpr q.1; omega)]; done) | (rw [if_neg (fun q => b_28 q.2), if_neg (fun q => b_28 q.2)]; done)) hQ)
      · refine vi_iload 49 rfl rfl ?_
        refine vi_iload 50 rfl rfl ?_
        refine vi_iconst 51 rfl ?_
        refine vi_idiv 52 rfl (by omega) (by omega) ?_
        refine vi_imul 53 rfl ?_
        refine vi_iload 54 rfl rfl ?_
        refine vi_iload 55 rfl rfl ?_
        refine vi_iconst 56 rfl ?_
        refine vi_irem 57 rfl (by omega) (by omega) ?_
        refine vi_imul 58 rfl ?_
        refine vi_iadd 59 rfl ?_
        refine vi_goto 60 rfl ?_
        refine vi_iadd 62 rfl ?_
        exact vi_ireturn 63 rfl rfl rfl (Nat.zero_le _) (Nat.zero_le _) (wb_e (by unfold wb_ow wb_gn wb_nd; first | (rw [if_pos ⟨e2.mp (by omega), b_28⟩, if_pos ⟨e1.mp (by omega), b_28⟩]; done) | (rw [if_pos ⟨e2.mp (by omega), b_28⟩, if_neg (fun q => by have := e1.mpr q.1; omega)]; done) | (rw [if_neg (fun q => by have := e2.mpr q.1; omega), if_pos ⟨e1.mp (by omega), b_28⟩]; done) | (rw [if_neg (fun q => by have := e2.mpr q.1; omega), if_neg (fun q => by have := e1.mpr q.1; omega)]; done) | (rw [if_neg (fun q => b_28 q.2), if_neg (fun q => b_28 q.2)]; done)) hQ)
  · refine vi_istore 21 rfl rfl ?_
    refine vi_iload 22 rfl rfl ?_
    refine vi_if_eq 23 rfl (by omega) (fun _ => ?_) (fun c => absurd c (by decide))
    refine vi_iload 30 rfl rfl ?_
    refine vi_iload_n 31 rfl rfl ?_
    refine vi_iconst 32 rfl ?_
    refine vi_idiv 33 rfl (by omega) (by omega) ?_
    refine vi_imul 34 rfl ?_
    refine vi_iload 35 rfl rfl ?_
    refine vi_iload_n 36 rfl rfl ?_
    refine vi_iconst 37 rfl ?_
    refine vi_irem 38 rfl (by omega) (by omega) ?_
    refine vi_imul 39 rfl ?_
    refine vi_iadd 40 rfl ?_
    refine vi_istore 41 rfl rfl ?_
    refine vi_iload 42 rfl rfl ?_
    refine vi_iload 43 rfl rfl ?_
    refine vi_if_eq 44 rfl (by omega) (fun _ => ?_) (fun c => absurd c (by decide))
    refine vi_iconst 61 rfl ?_
    refine vi_iadd 62 rfl ?_
    exact vi_ireturn 63 rfl rfl rfl (Nat.zero_le _) (Nat.zero_le _) (wb_e (by unfold wb_ow wb_gn wb_nd; first | (rw [if_pos ⟨e2.mp (by omega), b_28⟩, if_pos ⟨e1.mp (by omega), b_28⟩]; done) | (rw [if_pos ⟨e2.mp (by omega), b_28⟩, if_neg (fun q => by have := e1.mpr q.1; omega)]; done) | (rw [if_neg (fun q => by have := e2.mpr q.1; omega), if_pos ⟨e1.mp (by omega), b_28⟩]; done) | (rw [if_neg (fun q => by have := e2.mpr q.1; omega), if_neg (fun q => by have := e1.mpr q.1; omega)]; done) | (rw [if_neg (fun q => b_28 q.2), if_neg (fun q => b_28 q.2)]; done)) hQ)
theorem sp_X12_pass {t m d : Int} (hrf : wb_Rf w n sd sf cnt ru ld mo db tm tt tr L H fi ch) (h97 : w 97 = aI 72 c) (h98 : w 98 = aI 12 s) (hR : wb_BR n c s sd sf) (hmo : 0 ≤ mo ∧ mo ≤ 99) (hdb : 0 ≤ db ∧ db < 256) (htm : -10 ≤ tm ∧ tm ≤ 10) (htt : -10 ≤ tt ∧ tt ≤ 10) (htr : -9 ≤ tr ∧ tr ≤ 1000) (ht : 0 ≤ t ∧ t < 3) (hm : 0 ≤ m ∧ m < 8) (hd : 0 ≤ d ∧ d ≤ 1000) (hL : 0 ≤ L ∧ L ≤ 1000) (hH : -1000 ≤ H ∧ H ≤ 199)
    (k1 : ∀ (w' : wb_W) (L' H' : Int), L' = wb_c0 (L + wb_rl c mo db tm tt tr t m - d - s (4 * t + 3)) → H' = wb_cx (s (4 * t + 2)) (H + wb_rm2 c mo db tm tt tr t m - d) → L' ≤ H' → wb_Rf w' n sd sf cnt ru ld mo db tm tt tr L' H' fi ch → (∀ k, k ≠ 96 → w' k = w k) → Q (some (.int (wb_i 1))) N w')
    (k0 : ∀ (w' : wb_W) (L' H' : Int), L' = wb_c0 (L + wb_rl c mo db tm tt tr t m - d - s (4 * t + 3)) → H' = wb_cx (s (4 * t + 2)) (H + wb_rm2 c mo db tm tt tr t m - d) → ¬ L' ≤ H' → wb_Rf w' n sd sf cnt ru ld mo db tm tt tr L' H' fi ch → (∀ k, k ≠ 96 → w' k = w k) → Q (some (.int (wb_i 0))) N w') : wb_M G M_X12_pass [.ref 96, .int (wb_i t), .int (wb_i m), .int (wb_i d)] N w Q := by
  unfold wb_M
  unfold wb_Rf at hrf
  have hcg := wb_cg_rg (t := t) (m := m) (tm := tm) (tt := tt) hR hmo htr
  have s2 := hR.2.2.1 (4 * t + 2)
  have s3 := hR.2.2.1 (4 * t + 3)
  have c1 := hR.2.1 (9 * m + t)
  have c3 := hR.2.1 (9 * m + 3)
  have tl3 : ∀ le mt : Int, le = wb_rl c mo db tm tt tr t m → mt = wb_rm2 c mo db tm tt tr t m → (0 ≤ le ∧ le ≤ 1000) → (0 ≤ mt ∧ mt ≤ 100000) → wb_V G M_X12_pass 144 [(0, .ref 96), (1, .int (wb_i t)), (3, .int (wb_i d)), (7, .int (wb_i le)), (8, .int (wb_i mt))] [] N w 0 0 Q := by
    intro le mt hle hmt hlr hmr
    rw [← hle, ← hmt] at k1 k0
    refine vi_aload_n 78 rfl rfl ?_
    refine vi_dup 79 rfl rfl ?_
    refine vi_get 80 rfl f_X12_114 hrf rfl rfl ?_
    refine vi_iload 81 rfl rfl ?_
    refine vi_iload_n 82 rfl rfl ?_
    refine vi_isub 83 rfl ?_
    refine vi_aload_n 84 rfl rfl ?_
    refine vi_get 85 rfl f_X12_13 hrf rfl rfl ?_
    refine vi_iconst 86 rfl ?_
    refine vi_iload_n 87 rfl rfl ?_
    refine vi_imul 88 rfl ?_
    refine vi_iconst 89 rfl ?_
    refine vi_iadd 90 rfl ?_
    refine vi_iald 91 rfl h98 (by omega) ?_
    refine vi_isub 92 rfl ?_
    refine vi_iadd 93 rfl ?_
    refine vi_put 94 rfl f_X12_114 hrf rfl rfl rfl rfl ?_
    refine vi_aload_n 95 rfl rfl ?_
    refine vi_dup 96 rfl rfl ?_
    refine vi_get 97 rfl f_X12_117 wb_ups rfl rfl ?_
    refine vi_iload 98 rfl rfl ?_
    refine vi_iload_n 99 rfl rfl ?_
    refine vi_isub 100 rfl ?_
    refine vi_iadd 101 rfl ?_
    refine vi_put 102 rfl f_X12_117 wb_ups rfl rfl rfl rfl ?_
    rw [wb_upu]
    refine vi_aload_n 103 rfl rfl ?_
    refine vi_aload_n 104 rfl rfl ?_
    refine vi_get 105 rfl f_X12_114 wb_ups rfl rfl ?_
    refine vi_if_ge 106 rfl (by omega) (fun c_186 => ?_) (fun c_186 => ?_)
    · refine vi_aload_n 109 rfl rfl ?_
      refine vi_get 110 rfl f_X12_114 wb_ups rfl rfl ?_
      refine vi_put 111 rfl f_X12_114 wb_ups rfl rfl rfl rfl ?_
      rw [wb_upu]
      refine vi_aload_n 112 rfl rfl ?_
      refine vi_aload_n 113 rfl rfl ?_
      refine vi_get 114 rfl f_X12_117 wb_ups rfl rfl ?_
      refine vi_aload_n 115 rfl rfl ?_
      refine vi_get 116 rfl f_X12_13 wb_ups rfl rfl ?_
      refine vi_iconst 117 rfl ?_
      refine vi_iload_n 118 rfl rfl ?_
      refine vi_imul 119 rfl ?_
      refine vi_iconst 120 rfl ?_
      refine vi_iadd 121 rfl ?_
      refine vi_iald 122 rfl ((wb_upn (by omega)).trans h98) (by omega) ?_
      refine vi_icmp_le 123 rfl (by omega) (by omega) (fun c_215 => ?_) (fun c_215 => ?_)
      · refine vi_aload_n 133 rfl rfl ?_
        refine vi_get 134 rfl f_X12_117 wb_ups rfl rfl ?_
        refine vi_put 135 rfl f_X12_117 wb_ups rfl rfl rfl rfl ?_
        rw [wb_upu]
        refine vi_aload_n 136 rfl rfl ?_
        refine vi_get 137 rfl f_X12_114 wb_ups rfl rfl ?_
        refine vi_aload_n 138 rfl rfl ?_
        refine vi_get 139 rfl f_X12_117 wb_ups rfl rfl ?_
        refine vi_icmp_gt 140 rfl (by omega) (by omega) (fun c_246 => ?_) (fun c_246 => ?_)
        · refine vi_iconst 143 rfl ?_
          exact vi_ireturn 144 rfl rfl rfl (Nat.zero_le _) (Nat.zero_le _) (k0 _ _ _ (by unfold wb_c0; split <;> omega) (by unfold wb_cx; split <;> omega) (by omega) wb_ups (fun k hk => wb_upn hk))
        · refine vi_iconst 141 rfl ?_
          refine vi_goto 142 rfl ?_
          exact vi_ireturn 144 rfl rfl rfl (Nat.zero_le _) (Nat.zero_le _) (k1 _ _ _ (by unfold wb_c0; split <;> omega) (by unfold wb_cx; split <;> omega) (by omega) wb_ups (fun k hk => wb_upn hk))
      · refine vi_aload_n 124 rfl rfl ?_
        refine vi_get 125 rfl f_X12_13 wb_ups rfl rfl ?_
        refine vi_iconst 126 rfl ?_
        refine vi_iload_n 127 rfl rfl ?_
        refine vi_imul 128 rfl ?_
        refine vi_iconst 129 rfl ?_
        refine vi_iadd 130 rfl ?_
        refine vi_iald 131 rfl ((wb_upn (by omega)).trans h98) (by omega) ?_
        refine vi_goto 132 rfl ?_
        refine vi_put 135 rfl f_X12_117 wb_ups rfl rfl rfl rfl ?_
        rw [wb_upu]
        refine vi_aload_n 136 rfl rfl ?_
        refine vi_get 137 rfl f_X12_114 wb_ups rfl rfl ?_
        refine vi_aload_n 138 rfl rfl ?_
        refine vi_get 139 rfl f_X12_117 wb_ups rfl rfl ?_
        refine vi_icmp_gt 140 rfl (by omega) (by omega) (fun c_246 => ?_) (fun c_246 => ?_)
        · refine vi_iconst 143 rfl ?_
          exact vi_ireturn 144 rfl rfl rfl (Nat.zero_le _) (Nat.zero_le _) (k0 _ _ _ (by unfold wb_c0; split <;> omega) (by unfold wb_cx; split <;> omega) (by omega) wb_ups (fun k hk => wb_upn hk))
        · refine vi_iconst 141 rfl ?_
          refine vi_goto 142 rfl ?_
          exact vi_ireturn 144 rfl rfl rfl (Nat.zero_le _) (Nat.zero_le _) (k1 _ _ _ (by unfold wb_c0; split <;> omega) (by unfold wb_cx; split <;> omega) (by omega) wb_ups (fun k hk => wb_upn hk))
    · refine vi_iconst 107 rfl ?_
      refine vi_goto 108 rfl ?_
      refine vi_put 111 rfl f_X12_114 wb_ups rfl rfl rfl rfl ?_
      rw [wb_upu]
      refine vi_aload_n 112 rfl rfl ?_
      refine vi_aload_n 113 rfl rfl ?_
      refine vi_get 114 rfl f_X12_117 wb_ups rfl rfl ?_
      refine vi_aload_n 115 rfl rfl ?_
      refine vi_get 116 rfl f_X12_13 wb_ups rfl rfl ?_
      refine vi_iconst 117 rfl ?_
      refine vi_iload_n 118 rfl rfl ?_
      refine vi_imul 119 rfl ?_
      refine vi_iconst 120 rfl ?_
      refine vi_iadd 121 rfl ?_
      refine vi_iald 122 rfl ((wb_upn (by omega)).trans h98) (by omega) ?_
      refine vi_icmp_le 123 rfl (by omega) (by omega) (fun c_215 => ?_) (fun c_215 => ?_)
      · refine vi_aload_n 133 rfl rfl ?_
        refine vi_get 134 rfl f_X12_117 wb_ups rfl rfl ?_
        refine vi_put 135 rfl f_X12_117 wb_ups rfl rfl rfl rfl ?_
        rw [wb_upu]
        refine vi_aload_n 136 rfl rfl ?_
        refine vi_get 137 rfl f_X12_114 wb_ups rfl rfl ?_
        refine vi_aload_n 138 rfl rfl ?_
        refine vi_get 139 rfl f_X12_117 wb_ups rfl rfl ?_
        refine vi_icmp_gt 140 rfl (by omega) (by omega) (fun c_246 => ?_) (fun c_246 => ?_)
        · refine vi_iconst 143 rfl ?_
          exact vi_ireturn 144 rfl rfl rfl (Nat.zero_le _) (Nat.zero_le _) (k0 _ _ _ (by unfold wb_c0; split <;> omega) (by unfold wb_cx; split <;> omega) (by omega) wb_ups (fun k hk => wb_upn hk))
        · refine vi_iconst 141 rfl ?_
          refine vi_goto 142 rfl ?_
          exact vi_ireturn 144 rfl rfl rfl (Nat.zero_le _) (Nat.zero_le _) (k1 _ _ _ (by unfold wb_c0; split <;> omega) (by unfold wb_cx; split <;> omega) (by omega) wb_ups (fun k hk => wb_upn hk))
      · refine vi_aload_n 124 rfl rfl ?_
        refine vi_get 125 rfl f_X12_13 wb_ups rfl rfl ?_
        refine vi_iconst 126 rfl ?_
        refine vi_iload_n 127 rfl rfl ?_
        refine vi_imul 128 rfl ?_
        refine vi_iconst 129 rfl ?_
        refine vi_iadd 130 rfl ?_
        refine vi_iald 131 rfl ((wb_upn (by omega)).trans h98) (by omega) ?_
        refine vi_goto 132 rfl ?_
        refine vi_put 135 rfl f_X12_117 wb_ups rfl rfl rfl rfl ?_
        rw [wb_upu]
        refine vi_aload_n 136 rfl rfl ?_
        refine vi_get 137 rfl f_X12_114 wb_ups rfl rfl ?_
        refine vi_aload_n 138 rfl rfl ?_
        refine vi_get 139 rfl f_X12_117 wb_ups rfl rfl ?_
        refine vi_icmp_gt 140 rfl (by omega) (by omega) (fun c_246 => ?_) (fun c_246 => ?_)
        · refine vi_iconst 143 rfl ?_
          exact vi_ireturn 144 rfl rfl rfl (Nat.zero_le _) (Nat.zero_le _) (k0 _ _ _ (by unfold wb_c0; split <;> omega) (by unfold wb_cx; split <;> omega) (by omega) wb_ups (fun k hk => wb_upn hk))
        · refine vi_iconst 141 rfl ?_
          refine vi_goto 142 rfl ?_
          exact vi_ireturn 144 rfl rfl rfl (Nat.zero_le _) (Nat.zero_le _) (k1 _ _ _ (by unfold wb_c0; split <;> omega) (by unfold wb_cx; split <;> omega) (by omega) wb_ups (fun k hk => wb_upn hk))
  have tl2 : ∀ ca gi : Int, ca = wb_ca c tm tt tr t m → gi = wb_gi c mo tm tt tr t m → wb_V G M_X12_pass 85 [(0, .ref 96), (1, .int (wb_i t)), (2, .int (wb_i m)), (3, .int (wb_i d)), (4, .int (wb_i ca)), (5, .int (wb_i gi))] [] N w 0 0 Q := by
    intro ca gi hca hgi
    rw [← hca, ← hgi] at hcg
    have el : wb_rl c mo db tm tt tr t m = if wb_bt db m then 0 else if ca < gi then 0 else ca - gi := by unfold wb_rl; rw [← hca, ← hgi]
    have em : wb_rm2 c mo db tm tt tr t m = if wb_bt db m then 100000 else ca + gi := by unfold wb_rm2; rw [← hca, ← hgi]
    refine vi_aload_n 47 rfl rfl ?_
    refine vi_get 48 rfl f_X12_110 hrf rfl rfl ?_
    refine vi_iload_n 49 rfl rfl ?_
    refine vi_ishr 50 rfl ?_
    refine vi_iconst 51 rfl ?_
    refine vi_iand 52 rfl ?_
    rw [wb_sh1 (by omega) (by omega)]
    refine vi_iconst 53 rfl ?_
    refine vi_icmp_ne 54 rfl (by split <;> decide) (by decide) (fun c_94 => ?_) (fun c_94 => ?_)
    · have hbf : wb_bt db m = false := by (cases hh : wb_bt db m with | false => rfl | true => rw [hh] at c_94; simp at c_94)
      refine vi_iconst 57 rfl ?_
      refine vi_istore 58 rfl rfl ?_
      refine vi_iload 59 rfl rfl ?_
      refine vi_if_ne 60 rfl (by omega) (fun c => absurd c (by decide)) (fun _ => ?_)
      refine vi_iload 61 rfl rfl ?_
      refine vi_iload 62 rfl rfl ?_
      refine vi_icmp_ge 63 rfl (by omega) (by omega) (fun c_113 => ?_) (fun c_113 => ?_)
      · refine vi_iload 66 rfl rfl ?_
        refine vi_iload 67 rfl rfl ?_
        refine vi_isub 68 rfl ?_
        refine vi_istore 69 rfl rfl ?_
        refine vi_iload 70 rfl rfl ?_
        refine vi_if_eq 71 rfl (by omega) (fun _ => ?_) (fun c => absurd c (by decide))
        refine vi_iload 74 rfl rfl ?_
        refine vi_iload 75 rfl rfl ?_
        refine vi_iadd 76 rfl ?_
        refine vi_istore 77 rfl rfl ?_
        first | exact vi_lc (tl3 _ _ (by rw [el, hbt, if_pos rfl]) (by rw [em, hbt, if_pos rfl]) (by omega) (by omega)) ⟨rfl, rfl, rfl, rfl, rfl, trivial⟩ | exact vi_lc (tl3 _ _ (by rw [el, hbf, if_neg (by decide), if_neg (by omega)]) (by rw [em, hbf, if_neg (by decide)]) (by omega) (by omega)) ⟨rfl, rfl, rfl, rfl, rfl, trivial⟩ | exact vi_lc (tl3 _ _ (by rw [el, hbf, if_neg (by decide), if_pos (by omega)]) (by rw [em, hbf, if_neg (by decide)]) (by omega) (by omega)) ⟨rfl, rfl, rfl, rfl, rfl, trivial⟩
      · refine vi_iconst 64 rfl ?_
        refine vi_goto 65 rfl ?_
        refine vi_istore 69 rfl rfl ?_
        refine vi_iload 70 rfl rfl ?_
        refine vi_if_eq 71 rfl (by omega) (fun _ => ?_) (fun c => absurd c (by decide))
        refine vi_iload 74 rfl rfl ?_
        refine vi_iload 75 rfl rfl ?_
        refine vi_iadd 76 rfl ?_
        refine vi_istore 77 rfl rfl ?_
        first | exact vi_lc (tl3 _ _ (by rw [el, hbt, if_pos rfl]) (by rw [em, hbt, if_pos rfl]) (by omega) (by omega)) ⟨rfl, rfl, rfl, rfl, rfl, trivial⟩ | exact vi_lc (tl3 _ _ (by rw [el, hbf, if_neg (by decide), if_neg (by omega)]) (by rw [em, hbf, if_neg (by decide)]) (by omega) (by omega)) ⟨rfl, rfl, rfl, rfl, rfl, trivial⟩ | exact vi_lc (tl3 _ _ (by rw [el, hbf, if_neg (by decide), if_pos (by omega)]) (by rw [em, hbf, if_neg (by decide)]) (by omega) (by omega)) ⟨rfl, rfl, rfl, rfl, rfl, trivial⟩
    · have hbt : wb_bt db m = true := by (cases hh : wb_bt db m with | true => rfl | false => rw [hh] at c_94; simp at c_94)
      refine vi_iconst 55 rfl ?_
      refine vi_goto 56 rfl ?_
      refine vi_istore 58 rfl rfl ?_
      refine vi_iload 59 rfl rfl ?_
      refine vi_if_ne 60 rfl (by omega) (fun _ => ?_) (fun c => absurd c (by decide))
      refine vi_iconst 64 rfl ?_
      refine vi_goto 65 rfl ?_
      refine vi_istore 69 rfl rfl ?_
      refine vi_iload 70 rfl rfl ?_
      refine vi_if_eq 71 rfl (by omega) (fun c => absurd c (by decide)) (fun _ => ?_)
      refine vi_ldc 72 rfl k_X12_113 ?_
      refine vi_goto 73 rfl ?_
      refine vi_istore 77 rfl rfl ?_
      first | exact vi_lc (tl3 _ _ (by rw [el, hbt, if_pos rfl]) (by rw [em, hbt, if_pos rfl]) (by omega) (by omega)) ⟨rfl, rfl, rfl, rfl, rfl, trivial⟩ | exact vi_lc (tl3 _ _ (by rw [el, hbf, if_neg (by decide), if_neg (by omega)]) (by rw [em, hbf, if_neg (by decide)]) (by omega) (by omega)) ⟨rfl, rfl, rfl, rfl, rfl, trivial⟩ | exact vi_lc (tl3 _ _ (by rw [el, hbf, if_neg (by decide), if_pos (by omega)]) (by rw [em, hbf, if_neg (by decide)]) (by omega) (by omega)) ⟨rfl, rfl, rfl, rfl, rfl, trivial⟩
  refine vi_aload_n 0 rfl rfl ?_
  refine vi_get 1 rfl f_X12_7 hrf rfl rfl ?_
  refine vi_bipush 2 rfl (by decide) ?_
  refine vi_iload_n 3 rfl rfl ?_
  refine vi_imul 4 rfl ?_
  refine vi_iload_n 5 rfl rfl ?_
  refine vi_iadd 6 rfl ?_
  refine vi_iald 7 rfl h97 (by omega) ?_
  refine vi_istore 8 rfl rfl ?_
  refine vi_aload_n 9 rfl rfl ?_
  refine vi_get 10 rfl f_X12_7 hrf rfl rfl ?_
  refine vi_bipush 11 rfl (by decide) ?_
  refine vi_iload_n 12 rfl rfl ?_
  refine vi_imul 13 rfl ?_
  refine vi_iconst 14 rfl ?_
  refine vi_iadd 15 rfl ?_
  refine vi_iald 16 rfl h97 (by omega) ?_
  refine vi_aload_n 17 rfl rfl ?_
  refine vi_get 18 rfl f_X12_101 hrf rfl rfl ?_
  refine vi_iadd 19 rfl ?_
  refine vi_istore 20 rfl rfl ?_
  refine vi_iload_n 21 rfl rfl ?_
  refine vi_aload_n 22 rfl rfl ?_
  refine vi_get 23 rfl f_X12_29 hrf rfl rfl ?_
  refine vi_icmp_ne 24 rfl (by omega) (by omega) (fun c_36 => ?_) (fun c_36 => ?_)
  · exact vi_lc (tl2 _ _ (by unfold wb_ca; first | (rw [if_neg (by omega)]; done) | (rw [if_pos (by omega), if_pos (by omega)]; done) | (rw [if_pos (by omega), if_neg (by omega)]; done)) (by unfold wb_gi; first | (rw [if_neg (by omega)]; done) | (rw [if_pos (by omega), if_pos (by omega)]; done) | (rw [if_pos (by omega), if_neg (by omega)]; done))) ⟨rfl, rfl, rfl, rfl, rfl, rfl, trivial⟩
  · refine vi_iload_n 25 rfl rfl ?_
    refine vi_aload_n 26 rfl rfl ?_
    refine vi_get 27 rfl f_X12_104 hrf rfl rfl ?_
    refine vi_icmp_ne 28 rfl (by omega) (by omega) (fun c_44 => ?_) (fun c_44 => ?_)
    · exact vi_lc (tl2 _ _ (by unfold wb_ca; first | (rw [if_neg (by omega)]; done) | (rw [if_pos (by omega), if_pos (by omega)]; done) | (rw [if_pos (by omega), if_neg (by omega)]; done)) (by unfold wb_gi; first | (rw [if_neg (by omega)]; done) | (rw [if_pos (by omega), if_pos (by omega)]; done) | (rw [if_pos (by omega), if_neg (by omega)]; done))) ⟨rfl, rfl, rfl, rfl, rfl, rfl, trivial⟩
    · refine vi_aload_n 29 rfl rfl ?_
      refine vi_get 30 rfl f_X12_107 hrf rfl rfl ?_
      refine vi_if_ge 31 rfl (by omega) (fun c_51 => ?_) (fun c_51 => ?_)
      · refine vi_aload_n 37 rfl rfl ?_
        refine vi_get 38 rfl f_X12_107 hrf rfl rfl ?_
        refine vi_istore 39 rfl rfl ?_
        refine vi_aload_n 40 rfl rfl ?_
        refine vi_get 41 rfl f_X12_107 hrf rfl rfl ?_
        refine vi_if_ge 42 rfl (by omega) (fun c_74 => ?_) (fun c_74 => ?_)
        · refine vi_iconst 45 rfl ?_
          refine vi_istore 46 rfl rfl ?_
          exact vi_lc (tl2 _ _ (by unfold wb_ca; first | (rw [if_neg (by omega)]; done) | (rw [if_pos (by omega), if_pos (by omega)]; done) | (rw [if_pos (by omega), if_neg (by omega)]; done)) (by unfold wb_gi; first | (rw [if_neg (by omega)]; done) | (rw [if_pos (by omega), if_pos (by omega)]; done) | (rw [if_pos (by omega), if_neg (by omega)]; done))) ⟨rfl, rfl, rfl, rfl, rfl, rfl, trivial⟩
        · refine vi_iload 43 rfl rfl ?_
          refine vi_goto 44 rfl ?_
          refine vi_istore 46 rfl rfl ?_
          exact vi_lc (tl2 _ _ (by unfold wb_ca; first | (rw [if_neg (by omega)]; done) | (rw [if_pos (by omega), if_pos (by omega)]; done) | (rw [if_pos (by omega), if_neg (by omega)]; done)) (by unfold wb_gi; first | (rw [if_neg (by omega)]; done) | (rw [if_pos (by omega), if_pos (by omega)]; done) | (rw [if_pos (by omega), if_neg (by omega)]; done))) ⟨rfl, rfl, rfl, rfl, rfl, rfl, trivial⟩
      · refine vi_iload 32 rfl rfl ?_
        refine vi_aload_n 33 rfl rfl ?_
        refine vi_get 34 rfl f_X12_107 hrf rfl rfl ?_
        refine vi_isub 35 rfl ?_
        refine vi_goto 36 rfl ?_
        refine vi_istore 39 rfl rfl ?_
        refine vi_aload_n 40 rfl rfl ?_
        refine vi_get 41 rfl f_X12_107 hrf rfl rfl ?_
        refine vi_if_ge 42 rfl (by omega) (fun c_74 => ?_) (fun c_74 => ?_)
        · refine vi_iconst 45 rfl ?_
          refine vi_istore 46 rfl rfl ?_
          exact vi_lc (tl2 _ _ (by unfold wb_ca; first | (rw [if_neg (by omega)]; done) | (rw [if_pos (by omega), if_pos (by omega)]; done) | (rw [if_pos (by omega), if_neg (by omega)]; done)) (by unfold wb_gi; first | (rw [if_neg (by omega)]; done) | (rw [if_pos (by omega), if_pos (by omega)]; done) | (rw [if_pos (by omega), if_neg (by omega)]; done))) ⟨rfl, rfl, rfl, rfl, rfl, rfl, trivial⟩
        · refine vi_iload 43 rfl rfl ?_
          refine vi_goto 44 rfl ?_
          refine vi_istore 46 rfl rfl ?_
          exact vi_lc (tl2 _ _ (by unfold wb_ca; first | (rw [if_neg (by omega)]; done) | (rw [if_pos (by omega), if_pos (by omega)]; done) | (rw [if_pos (by omega), if_neg (by omega)]; done)) (by unfold wb_gi; first | (rw [if_neg (by omega)]; done) | (rw [if_pos (by omega), if_pos (by omega)]; done) | (rw [if_pos (by omega), if_neg (by omega)]; done))) ⟨rfl, rfl, rfl, rfl, rfl, rfl, trivial⟩
theorem wb_nn2_rg {t ow th o1 o2 fr m : Int} (hR : wb_BR n c s sd sf) (h1 : 0 ≤ ow ∧ ow < 25) (h2 : 0 ≤ th ∧ th < 25) (h3 : 0 ≤ o1 ∧ o1 < 25) (h4 : 0 ≤ o2 ∧ o2 < 25) : 0 ≤ wb_nn2 c sd sf t ow th o1 o2 fr m ∧ wb_nn2 c sd sf t ow th o1 o2 fr m ≤ 320 := by
  have a1 := wb_ow_rg (m := m) (t := t) hR h1
  have a2 := wb_ow_rg (m := m) (t := t) hR h2
  have a3 := wb_gn_rg (m := m) (t := t) hR h3
  have a4 := wb_gn_rg (m := m) (t := t) hR h4
  unfold wb_nn2; split <;> omega
theorem sp_X12_goes {t ow th o1 o2 fr : Int} (hrf : wb_Rf w n sd sf cnt ru ld mo db tm tt tr L H fi ch) (h97 : w 97 = aI 72 c) (h98 : w 98 = aI 12 s) (hR : wb_BR n c s sd sf) (hmo : 0 ≤ mo ∧ mo ≤ 99) (hdb : 0 ≤ db ∧ db < 256) (htm : -10 ≤ tm ∧ tm ≤ 10) (htt : -10 ≤ tt ∧ tt ≤ 10) (htr : -9 ≤ tr ∧ tr ≤ 1000) (ht : 0 ≤ t ∧ t < 3) (q1 : 0 ≤ ow ∧ ow < 25) (q2 : 0 ≤ th ∧ th < 25) (q3 : 0 ≤ o1 ∧ o1 < 25) (q4 : 0 ≤ o2 ∧ o2 < 25) (q5 : 0 ≤ fr ∧ fr ≤ 10)
    (hQ : ∀ (w' : wb_W) (L' H' : Int), (wb_gk c s sd sf mo db tm tt tr t ow th o1 o2 fr n.toNat = true → (L', H') = wb_gr c s sd sf mo db tm tt tr t ow th o1 o2 fr n.toNat) → wb_Rf w' n sd sf cnt ru ld mo db tm tt tr L' H' fi ch → (∀ k, k ≠ 96 → w' k = w k) → Q (some (.int (wb_i (wb_fm (wb_gk c s sd sf mo db tm tt tr t ow th o1 o2 fr) n.toNat)))) N w') : wb_M G M_X12_goes [.ref 96, .int (wb_i t), .int (wb_i ow), .int (wb_i th), .int (wb_i o1), .int (wb_i o2), .int (wb_i fr)] N w Q := by
  unfold wb_M
  have hn := hR.1
  have hs0 := hR.2.2.1 (4 * t)
  have hs2 := hR.2.2.1 (4 * t + 2)
  have hs8 := hR.2.2.2.2.2.2.2.1 t
  have lp : ∀ i, i ≤ n → ∀ (w1 : wb_W) (L1 H1 : Int), 0 ≤ i → wb_gk c s sd sf mo db tm tt tr t ow th o1 o2 fr i.toNat = true → (L1, H1) = wb_gr c s sd sf mo db tm tt tr t ow th o1 o2 fr i.toNat → wb_Rf w1 n sd sf cnt ru ld mo db tm tt tr L1 H1 fi ch → (∀ k, k ≠ 96 → w1 k = w k) → wb_V G M_X12_goes 29 [(0, .ref 96), (1, .int (wb_i t)), (2, .int (wb_i ow)), (3, .int (wb_i th)), (4, .int (wb_i o1)), (5, .int (wb_i o2)), (6, .int (wb_i fr)), (7, .int (wb_i i))] [] N w1 0 0 Q := by
    refine wb_up n _ ?_
    intro i ih hi w1 L1 H1 hi0 hok hLH hrf1 ef
    have hrf1' := hrf1
    unfold wb_Rf at hrf1'
    have h971 := (ef 97 (by omega)).trans h97
    have h981 := (ef 98 (by omega)).trans h98
    have hrg := wb_ok_rg (le := wb_rl c mo db tm tt tr t) (mo := wb_rm2 c mo db tm tt tr t) (lo := s (4 * t + 3)) (nd := wb_nn2 c sd sf t ow th o1 o2 fr) (L0 := s (4 * t)) (H0 := s (4 * t + 1)) (ho := s (4 * t + 2)) ⟨hs0.1, hs8.1, by omega⟩ (by omega) _ hok
    change 0 ≤ (wb_gr c s sd sf mo db tm tt tr t ow th o1 o2 fr i.toNat).1 ∧ (wb_gr c s sd sf mo db tm tt tr t ow th o1 o2 fr i.toNat).1 ≤ (wb_gr c s sd sf mo db tm tt tr t ow th o1 o2 fr i.toNat).2 ∧ (wb_gr c s sd sf mo db tm tt tr t ow th o1 o2 fr i.toNat).2 ≤ 199 at hrg
    rw [← hLH] at hrg
    dsimp only at hrg
    have hne := wb_nn2_rg (t := t) (fr := fr) (m := i) hR q1 q2 q3 q4
    have hst : (i + 1).toNat = i.toNat + 1 := by omega
    have hii : ((i.toNat : Nat) : Int) = i := by omega
    have hgr : wb_gr c s sd sf mo db tm tt tr t ow th o1 o2 fr (i + 1).toNat = (wb_c0 (L1 + wb_rl c mo db tm tt tr t i - wb_nn2 c sd sf t ow th o1 o2 fr i - s (4 * t + 3)), wb_cx (s (4 * t + 2)) (H1 + wb_rm2 c mo db tm tt tr t i - wb_nn2 c sd sf t ow th o1 o2 fr i)) := by
      rw [hst]; show wb_rn _ _ _ _ _ _ _ _ = _
      rw [wb_rn, hii, show wb_rn (wb_rl c mo db tm tt tr t) (wb_rm2 c mo db tm tt tr t) (s (4 * t + 2)) (s (4 * t + 3)) (wb_nn2 c sd sf t ow th o1 o2 fr) (s (4 * t)) (s (4 * t + 1)) i.toNat = (L1, H1) from hLH.symm]
    have hgk : wb_gk c s sd sf mo db tm tt tr t ow th o1 o2 fr (i + 1).toNat = decide ((wb_gr c s sd sf mo db tm tt tr t ow th o1 o2 fr (i + 1).toNat).1 ≤ (wb_gr c s sd sf mo db tm tt tr t ow th o1 o2 fr (i + 1).toNat).2) := by
      rw [hst]; show (wb_ok _ _ _ _ _ _ _ _ && _) = _
      rw [show wb_ok _ _ _ _ _ _ _ _ = true from hok, Bool.true_and]; rfl
    have tl : i < n → wb_V G M_X12_goes 75 [(0, .ref 96), (1, .int (wb_i t)), (2, .int (wb_i ow)), (3, .int (wb_i th)), (4, .int (wb_i o1)), (5, .int (wb_i o2)), (6, .int (wb_i fr)), (7, .int (wb_i i))] [.int (wb_i (wb_nn2 c sd sf t ow th o1 o2 fr i)), .int (wb_i i), .int (wb_i t), .ref 96] N w1 0 0 Q := by
      intro hin
      refine vi_V3 43 ok_X12_pass rfl c_X12_124 hrf1' rfl rfl ?_
      refine sp_X12_pass hrf1 h971 h981 hR hmo hdb htm htt htr ht (by omega) (by omega) (by omega) (by omega) (fun b_75 => ?_) (fun b_75 => ?_)
      · intro L2 H2 hL2 hH2 h12 hrf2 hf2
        rw [← hL2, ← hH2] at hgr
        refine vi_if_ne 44 rfl (by omega) (fun _ => ?_) (fun c => absurd c (by decide))
        refine vi_iinc 47 rfl rfl rfl ?_
        refine vi_goto 48 rfl ?_
        exact vi_lc (ih (i + 1) (by omega) (by omega) b_75 L2 H2 (by omega) (by rw [hgk, hgr]; exact decide_eq_true h12) hgr.symm hrf2 (fun k hk => (hf2 k hk).trans (ef k hk))) ⟨rfl, rfl, rfl, rfl, rfl, rfl, rfl, rfl, trivial⟩
      · intro L2 H2 hL2 hH2 h12 hrf2 hf2
        rw [← hL2, ← hH2] at hgr
        refine vi_if_ne 44 rfl (by omega) (fun c => absurd c (by decide)) (fun _ => ?_)
        refine vi_iload 45 rfl rfl ?_
        exact vi_ireturn 46 rfl rfl rfl (Nat.zero_le _) (Nat.zero_le _) (wb_e (show i = wb_fm (wb_gk c s sd sf mo db tm tt tr t ow th o1 o2 fr) n.toNat by rw [wb_fm_at (m := i.toNat) (fun j hj => by cases hp : wb_gk c s sd sf mo db tm tt tr t ow th o1 o2 fr j with | true => rfl | false => (have := wb_ok_no hp i.toNat hj; rw [show wb_ok _ _ _ _ _ _ _ _ = true from hok] at this; cases this)) (by rw [← hst, hgk, hgr]; exact decide_eq_false h12) _ (by omega)]; omega) (hQ b_75 L2 H2 (fun q => by have := wb_ok_no (m := (i + 1).toNat) (show wb_gk c s sd sf mo db tm tt tr t ow th o1 o2 fr (i + 1).toNat = false by rw [hgk, hgr]; exact decide_eq_false h12) n.toNat (by omega); rw [show wb_ok _ _ _ _ _ _ _ _ = true from q] at this; cases this) hrf2 (fun k hk => (hf2 k hk).trans (ef k hk))))
    refine vi_iload 20 rfl rfl ?_
    refine vi_aload_n 21 rfl rfl ?_
    refine vi_get 22 rfl f_X12_60 hrf1' rfl rfl ?_
    refine vi_icmp_ge 23 rfl (by omega) (by omega) (fun c_35 => ?_) (fun c_35 => ?_)
    · refine vi_aload_n 49 rfl rfl ?_
      refine vi_get 50 rfl f_X12_60 hrf1' rfl rfl ?_
      exact vi_ireturn 51 rfl rfl rfl (Nat.zero_le _) (Nat.zero_le _) (wb_e (show n = wb_fm (wb_gk c s sd sf mo db tm tt tr t ow th o1 o2 fr) n.toNat by have h := (wb_fm_iff (p := wb_gk c s sd sf mo db tm tt tr t ow th o1 o2 fr) rfl (fun a b h q => wb_ok_no q b h) n.toNat).mpr (by rw [show n = i by omega]; exact hok); omega) (hQ w1 L1 H1 (fun _ => by rw [show n = i by omega]; exact hLH) hrf1 ef))
    · refine vi_aload_n 24 rfl rfl ?_
      refine vi_iload_n 25 rfl rfl ?_
      refine vi_iload 26 rfl rfl ?_
      refine vi_aload_n 27 rfl rfl ?_
      refine vi_iload_n 28 rfl rfl ?_
      refine vi_iload 29 rfl rfl ?_
      refine vi_iload 30 rfl rfl ?_
      refine vi_iload 31 rfl rfl ?_
      refine vi_icmp_ge 32 rfl (by omega) (by omega) (fun c_50 => ?_) (fun c_50 => ?_)
      · refine vi_iload_n 35 rfl rfl ?_
        refine vi_iload 36 rfl rfl ?_
        refine vi_iload 37 rfl rfl ?_
        refine vi_icmp_ge 38 rfl (by omega) (by omega) (fun c_62 => ?_) (fun c_62 => ?_)
        · refine vi_iload 41 rfl rfl ?_
          refine vi_V4 42 ok_X12_needOf rfl c_X12_120 hrf1' rfl rfl ?_
          refine sp_X12_needOf hrf1 h971 hR ht (by omega) (by omega) (by omega) ?_
          first | (exfalso; omega) | (have e : wb_nn2 c sd sf t ow th o1 o2 fr i = wb_ow c sd sf i t th + wb_gn c sd sf i t o2 := if_neg (by omega); rw [← e]; exact vi_lc (tl (by omega)) ⟨rfl, rfl, rfl, rfl, rfl, rfl, rfl, rfl, trivial⟩) | (have e : wb_nn2 c sd sf t ow th o1 o2 fr i = wb_ow c sd sf i t ow + wb_gn c sd sf i t o1 := if_pos (by omega); rw [← e]; exact vi_lc (tl (by omega)) ⟨rfl, rfl, rfl, rfl, rfl, rfl, rfl, rfl, trivial⟩)
        · refine vi_iload 39 rfl rfl ?_
          refine vi_goto 40 rfl ?_
          refine vi_V4 42 ok_X12_needOf rfl c_X12_120 hrf1' rfl rfl ?_
          refine sp_X12_needOf hrf1 h971 hR ht (by omega) (by omega) (by omega) ?_
          first | (exfalso; omega) | (have e : wb_nn2 c sd sf t ow th o1 o2 fr i = wb_ow c sd sf i t th + wb_gn c sd sf i t o2 := if_neg (by omega); rw [← e]; exact vi_lc (tl (by omega)) ⟨rfl, rfl, rfl, rfl, rfl, rfl, rfl, rfl, trivial⟩) | (have e : wb_nn2 c sd sf t ow th o1 o2 fr i = wb_ow c sd sf i t ow + wb_gn c sd sf i t o1 := if_pos (by omega); rw [← e]; exact vi_lc (tl (by omega)) ⟨rfl, rfl, rfl, rfl, rfl, rfl, rfl, rfl, trivial⟩)
      · refine vi_iload_n 33 rfl rfl ?_
        refine vi_goto 34 rfl ?_
        refine vi_iload 36 rfl rfl ?_
        refine vi_iload 37 rfl rfl ?_
        refine vi_icmp_ge 38 rfl (by omega) (by omega) (fun c_62 => ?_) (fun c_62 => ?_)
        · refine vi_iload 41 rfl rfl ?_
          refine vi_V4 42 ok_X12_needOf rfl c_X12_120 hrf1' rfl rfl ?_
          refine sp_X12_needOf hrf1 h971 hR ht (by omega) (by omega) (by omega) ?_
          first | (exfalso; omega) | (have e : wb_nn2 c sd sf t ow th o1 o2 fr i = wb_ow c sd sf i t th + wb_gn c sd sf i t o2 := if_neg (by omega); rw [← e]; exact vi_lc (tl (by omega)) ⟨rfl, rfl, rfl, rfl, rfl, rfl, rfl, rfl, trivial⟩) | (have e : wb_nn2 c sd sf t ow th o1 o2 fr i = wb_ow c sd sf i t ow + wb_gn c sd sf i t o1 := if_pos (by omega); rw [← e]; exact vi_lc (tl (by omega)) ⟨rfl, rfl, rfl, rfl, rfl, rfl, rfl, rfl, trivial⟩)
        · refine vi_iload 39 rfl rfl ?_
          refine vi_goto 40 rfl ?_
          refine vi_V4 42 ok_X12_needOf rfl c_X12_120 hrf1' rfl rfl ?_
          refine sp_X12_needOf hrf1 h971 hR ht (by omega) (by omega) (by omega) ?_
          first | (exfalso; omega) | (have e : wb_nn2 c sd sf t ow th o1 o2 fr i = wb_ow c sd sf i t th + wb_gn c sd sf i t o2 := if_neg (by omega); rw [← e]; exact vi_lc (tl (by omega)) ⟨rfl, rfl, rfl, rfl, rfl, rfl, rfl, rfl, trivial⟩) | (have e : wb_nn2 c sd sf t ow th o1 o2 fr i = wb_ow c sd sf i t ow + wb_gn c sd sf i t o1 := if_pos (by omega); rw [← e]; exact vi_lc (tl (by omega)) ⟨rfl, rfl, rfl, rfl, rfl, rfl, rfl, rfl, trivial⟩)
  have hrf' := hrf
  unfold wb_Rf at hrf'
  refine vi_aload_n 0 rfl rfl ?_
  refine vi_aload_n 1 rfl rfl ?_
  refine vi_get 2 rfl f_X12_13 hrf' rfl rfl ?_
  refine vi_iconst 3 rfl ?_
  refine vi_iload_n 4 rfl rfl ?_
  refine vi_imul 5 rfl ?_
  refine vi_iald 6 rfl h98 (by omega) ?_
  refine vi_put 7 rfl f_X12_114 hrf' rfl rfl rfl rfl ?_
  refine vi_aload_n 8 rfl rfl ?_
  refine vi_aload_n 9 rfl rfl ?_
  refine vi_get 10 rfl f_X12_13 wb_ups rfl rfl ?_
  refine vi_iconst 11 rfl ?_
  refine vi_iload_n 12 rfl rfl ?_
  refine vi_imul 13 rfl ?_
  refine vi_iconst 14 rfl ?_
  refine vi_iadd 15 rfl ?_
  refine vi_iald 16 rfl ((wb_upn (by omega)).trans h98) (by omega) ?_
  refine vi_put 17 rfl f_X12_117 wb_ups rfl rfl rfl rfl ?_
  rw [wb_upu]
  refine vi_iconst 18 rfl ?_
  refine vi_istore 19 rfl rfl ?_
  exact vi_lc (lp 0 (by omega) _ (s (4 * t)) (s (4 * t + 1)) (by omega) rfl rfl wb_ups (fun k hk => wb_upn hk)) ⟨rfl, rfl, rfl, rfl, rfl, rfl, rfl, rfl, trivial⟩
end WBS54
