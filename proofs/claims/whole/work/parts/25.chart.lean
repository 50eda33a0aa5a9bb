/-! ===== charts ===== -/
theorem wb_i_bv (x : Int) : (wb_i x).toBitVec.toNat = (x % 4294967296).toNat := by
  show (BitVec.ofInt 32 x).toNat = _
  rw [BitVec.toNat_ofInt]
  rfl
theorem wb_and255 (x : Int) : wb_i x &&& wb_i 255 = wb_i (x % 256) := by
  rw [pk_and (wb_i x) (m := wb_i 255) 8 (by decide +kernel), wb_i_bv]
  rw [show (x % 256) = (((x % 4294967296).toNat % 2 ^ 8 : Nat) : Int) by omega, wb_i_nat]
theorem wb_shr8 {x : Int} (h : -2147483648 ≤ x ∧ x ≤ 2147483647) : wb_i x >>> (wb_i 8 &&& 31) = wb_i (x / 256) := by
  apply Int32.toInt_inj.mp
  rw [pk_shr (wb_i x) (wb_i 8 &&& 31) 8 (by decide +kernel), wb_i_toInt h, wb_i_toInt (by omega), Int.shiftRight_eq_div_pow]
  rfl
theorem wb_nor (a b : Nat) : nI a ||| nI b = nI (a ||| b) := by
  apply Int32.toBitVec_inj.mp
  rw [Int32.toBitVec_or]
  show BitVec.ofNat 32 a ||| BitVec.ofNat 32 b = BitVec.ofNat 32 (a ||| b)
  apply BitVec.eq_of_getLsbD_eq
  intro i hi
  simp [BitVec.getLsbD_ofNat, hi]
/-- a set with one more -/
def wb_ad1 (z p : Int) : Int := ((z.toNat ||| 2 ^ p.toNat : Nat) : Int)
theorem wb_ad1_bt {z p : Int} (m : Int) (hp : 0 ≤ p) (hm : 0 ≤ m) : wb_bt (wb_ad1 z p) m = (wb_bt z m || decide (m = p)) := by
  unfold wb_bt wb_ad1
  rw [show (((z.toNat ||| 2 ^ p.toNat : Nat) : Int)).toNat = (z.toNat ||| 2 ^ p.toNat) by omega, Nat.testBit_or, Nat.testBit_two_pow]
  congr 2
  apply propext
  omega
theorem wb_ad1_rg {z p : Int} {k : Nat} (hz : 0 ≤ z ∧ z < (2 ^ k : Nat)) (hp : 0 ≤ p ∧ p < k) : 0 ≤ wb_ad1 z p ∧ wb_ad1 z p < (2 ^ k : Nat) := by
  unfold wb_ad1
  have h1 : z.toNat < 2 ^ k := by omega
  have h2 : 2 ^ p.toNat < 2 ^ k := Nat.pow_lt_pow_right (by decide) (by omega)
  have := Nat.or_lt_two_pow h1 h2
  omega
theorem wb_or1 {z p : Int} (hz : 0 ≤ z ∧ z < 2147483648) (hp : 0 ≤ p ∧ p < 31) : wb_i z ||| (wb_i 1 <<< (wb_i p &&& 31)) = wb_i (wb_ad1 z p) := by
  have e := wb_sh31 ⟨p.toNat, by omega⟩
  simp only [show ((p.toNat : Nat) : Int) = p by omega] at e
  obtain ⟨a, rfl⟩ := Int.eq_ofNat_of_zero_le hz.1
  unfold wb_ad1
  have hlt : 2 ^ p.toNat < 2 ^ 31 := Nat.pow_lt_pow_right (by decide) (by omega)
  rw [wb_i_nat, show wb_i 1 = nI 1 from rfl, pk_shlN _ p.toNat e (by omega), wb_nor, wb_i_nat, Nat.one_mul]
  rfl
theorem wb_bt0 (m : Int) : wb_bt 0 m = false := by unfold wb_bt; simp
/-- ahead of a month, by those till then -/
def wb_ah (le mo : Int → Int) (ho lo : Int) (nd : Int → Int) (L0 H0 : Int) (m : Nat) : Int := if wb_ok le mo ho lo nd L0 H0 m then (wb_rn le mo ho lo nd L0 H0 m).1 + 256 * (wb_rn le mo ho lo nd L0 H0 m).2 else -1
/-- backward, d months ahead of the end n -/
def wb_br (le mo : Int → Int) (ho lo : Int) (nd : Int → Int) (n : Int) : Nat → Int × Int
  | 0 => (0, ho)
  | d + 1 => (wb_c0 ((wb_br le mo ho lo nd n d).1 - mo (n - 1 - d) + nd (n - 1 - d)), wb_cx ho ((wb_br le mo ho lo nd n d).2 - le (n - 1 - d) + nd (n - 1 - d) + lo))
def wb_bo (le mo : Int → Int) (ho lo : Int) (nd : Int → Int) (n : Int) : Nat → Bool
  | 0 => true
  | d + 1 => wb_bo le mo ho lo nd n d && decide ((wb_br le mo ho lo nd n (d + 1)).1 ≤ (wb_br le mo ho lo nd n (d + 1)).2)
def wb_on (le mo : Int → Int) (ho lo : Int) (nd : Int → Int) (n : Int) (d : Nat) : Int := if wb_bo le mo ho lo nd n d then (wb_br le mo ho lo nd n d).1 + 256 * (wb_br le mo ho lo nd n d).2 else -1
theorem wb_bo_rg {le mo : Int → Int} {ho lo : Int} {nd : Int → Int} {n : Int} (hh : 0 ≤ ho ∧ ho ≤ 199) : ∀ m : Nat, wb_bo le mo ho lo nd n m = true → 0 ≤ (wb_br le mo ho lo nd n m).1 ∧ (wb_br le mo ho lo nd n m).1 ≤ (wb_br le mo ho lo nd n m).2 ∧ (wb_br le mo ho lo nd n m).2 ≤ 199 := by
  intro m h
  cases m with
  | zero => show 0 ≤ (0 : Int) ∧ 0 ≤ ho ∧ ho ≤ 199; omega
  | succ m =>
    have h2 := (wb_and h).2
    have h3 : (wb_br le mo ho lo nd n (m + 1)).1 ≤ (wb_br le mo ho lo nd n (m + 1)).2 := of_decide_eq_true h2
    refine ⟨?_, h3, ?_⟩
    · show 0 ≤ wb_c0 _
      unfold wb_c0; split <;> omega
    · show wb_cx ho _ ≤ 199
      unfold wb_cx; split <;> omega
section WBS25
variable {G : wb_G} {N : Nat} {w : wb_W} {Q : Option Value → Nat → wb_W → Prop} {b bb fb pb : Nat} {rm : Nat} {nd ah on : Int → Int} {t gu ke : Int}
variable {n : Int} {le mo : Int → Int} {fl fm ho lo L H : Int}
theorem sp_X11_lowOf {x : Int} (hx : -2147483648 ≤ x ∧ x ≤ 2147483647) (hQ : Q (some (.int (wb_i (x % 256)))) N w) : wb_M G M_X11_lowOf [.int (wb_i x)] N w Q := by
  unfold wb_M
  rw [← wb_and255] at hQ
  refine vi_iload_n 0 rfl rfl ?_
  refine vi_sipush 1 rfl (by decide) ?_
  refine vi_iand 2 rfl ?_
  exact vi_ireturn 3 rfl rfl rfl (Nat.zero_le _) (Nat.zero_le _) (hQ)
theorem sp_X11_highOf {x : Int} (hx : -2147483648 ≤ x ∧ x ≤ 2147483647) (hQ : Q (some (.int (wb_i (x / 256)))) N w) : wb_M G M_X11_highOf [.int (wb_i x)] N w Q := by
  unfold wb_M
  rw [← wb_shr8 hx] at hQ
  refine vi_iload_n 0 rfl rfl ?_
  refine vi_bipush 1 rfl (by decide) ?_
  refine vi_ishr 2 rfl ?_
  exact vi_ireturn 3 rfl rfl rfl (Nat.zero_le _) (Nat.zero_le _) (hQ)
theorem sp_X2_chartAhead {k : Int} (hb : wb_Co w b rm nd ah on t gu ke) (hfl : wb_Fl w fb n le mo fl fm ho lo L H) (hR : wb_FR n le mo fl fm ho lo) (hff : fl ≤ fm) (hap : fb + 3 ≤ b ∨ b + 6 ≤ fb) (hk : 0 ≤ k ∧ k < rm) (hrm : rm ≤ 625) (hnd : ∀ m, 0 ≤ m → m < n → 0 ≤ nd (k * 8 + m) ∧ nd (k * 8 + m) ≤ 100000)
    (hQ : ∀ (w' : wb_W) (ah' : Int → Int) (L' H' : Int), (∀ m : Int, 0 ≤ m → m ≤ n → ah' (k * 9 + m) = wb_ah le mo ho lo (fun m => nd (k * 8 + m)) fl fm m.toNat) → (∀ j, (j < k * 9 ∨ k * 9 + 9 ≤ j) → ah' j = ah j) → wb_Co w' b rm nd ah' on t gu ke → wb_Fl w' fb n le mo fl fm ho lo L' H' → (∀ k, k ≠ fb → k ≠ b + 4 → w' k = w k) → Q none N w') : wb_M G M_X2_chartAhead [.ref b, .ref fb, .int (wb_i k)] N w Q := by
  obtain ⟨f0, f1, h0, h1, h2, h3, h4, h5⟩ := hb
  have hR' := hR
  obtain ⟨r1, r2, r3, r4, r5, r6⟩ := hR
  unfold wb_M
  have lp : ∀ i, i ≤ n → ∀ (w1 : wb_W) (ah1 : Int → Int) (L1 H1 gz : Int), 0 ≤ i → (∀ m : Int, 0 ≤ m → m ≤ i → ah1 (k * 9 + m) = wb_ah le mo ho lo (fun m => nd (k * 8 + m)) fl fm m.toNat) → (∀ j, (j < k * 9 ∨ k * 9 + 9 ≤ j) → ah1 j = ah j) → gz = (if wb_ok le mo ho lo (fun m => nd (k * 8 + m)) fl fm i.toNat then 1 else 0) → (gz = 1 → L1 = (wb_rn le mo ho lo (fun m => nd (k * 8 + m)) fl fm i.toNat).1 ∧ H1 = (wb_rn le mo ho lo (fun m => nd (k * 8 + m)) fl fm i.toNat).2) → w1 (b + 4) = aI (rm * 9) ah1 → wb_Fl w1 fb n le mo fl fm ho lo L1 H1 → (∀ k, k ≠ fb → k ≠ b + 4 → w1 k = w k) → wb_V G M_X2_chartAhead 29 [(0, .ref b), (1, .ref fb), (2, .int (wb_i k)), (3, .int (wb_i gz)), (4, .int (wb_i i))] [] N w1 0 0 Q := by
    refine wb_up n _ ?_
    intro i ih hi w1 ah1 L1 H1 gz hi0 hah hah2 hgz hg1 e4 hf1 ef
    have hf2 := hf1
    obtain ⟨x0, -, -⟩ := hf2
    have e0 := (ef b (by omega) (by omega)).trans h0
    have e3 := (ef (b + 3) (by omega) (by omega)).trans h3
    have hst : i < n → (i + 1).toNat = i.toNat + 1 := fun _ => by omega
    have hii : ((i.toNat : Nat) : Int) = i := by omega
    have hgz2 : gz = 0 ∨ gz = 1 := by rw [hgz]; split <;> simp
    have hok : gz = 1 → wb_ok le mo ho lo (fun m => nd (k * 8 + m)) fl fm i.toNat = true := fun h => by
      cases hh : wb_ok le mo ho lo (fun m => nd (k * 8 + m)) fl fm i.toNat with
      | true => rfl
      | false => rw [hh] at hgz; simp at hgz; omega
    have hrg : gz = 1 → 0 ≤ L1 ∧ L1 ≤ H1 ∧ H1 ≤ 199 := fun h => by
      have := wb_ok_rg (le := le) (mo := mo) (lo := lo) (nd := fun m => nd (k * 8 + m)) ⟨r3.1, hff, by omega⟩ r5.2 _ (hok h)
      obtain ⟨z1, z2⟩ := hg1 h
      omega
    have nx0 : i < n → wb_ok le mo ho lo (fun m => nd (k * 8 + m)) fl fm (i.toNat + 1) = false → ∀ (w2 : wb_W) (L2 H2 : Int), w2 (b + 4) = aI (rm * 9) (wb_u ah1 (k * 9 + i + 1) (-1)) → wb_Fl w2 fb n le mo fl fm ho lo L2 H2 → (∀ k, k ≠ fb → k ≠ b + 4 → w2 k = w k) → wb_V G M_X2_chartAhead 29 [(0, .ref b), (1, .ref fb), (2, .int (wb_i k)), (3, .int (wb_i 0)), (4, .int (wb_i (i + 1)))] [] N w2 0 0 Q := by
      intro hin hno w2 L2 H2 q4 qf qe
      refine ih (i + 1) (by omega) (by omega) w2 _ L2 H2 0 (by omega) (fun m p1 p2 => ?_) (fun j hj => by rw [wb_un (by omega)]; exact hah2 j hj) (by rw [hst hin, hno]; rfl) (fun q => by omega) q4 qf qe
      by_cases hm : m = i + 1
      · subst hm; rw [show k * 9 + (i + 1) = k * 9 + i + 1 by omega, wb_us, hst hin]; unfold wb_ah; rw [hno]; rfl
      · rw [wb_un (by omega)]; exact hah m p1 (by omega)
    refine vi_iload 17 rfl rfl ?_
    refine vi_aload_n 18 rfl rfl ?_
    refine vi_get 19 rfl f_X2_87 x0 rfl rfl ?_
    refine vi_icmp_ge 20 rfl (by omega) (by omega) (fun c_35 => ?_) (fun c_35 => ?_)
    · exact vi_return 63 rfl rfl (Nat.zero_le _) (Nat.zero_le _) (hQ w1 ah1 L1 H1 (fun m p1 p2 => hah m p1 (by omega)) hah2 ⟨f0, f1, e0, (ef _ (by omega) (by omega)).trans h1, (ef _ (by omega) (by omega)).trans h2, e3, e4, (ef _ (by omega) (by omega)).trans h5⟩ hf1 ef)
    · refine vi_iload 21 rfl rfl ?_
      refine vi_bipush 22 rfl (by decide) ?_
      refine vi_icmp_ge 23 rfl (by omega) (by omega) (fun c_42 => by exfalso; omega) (fun c_42 => ?_)
      refine vi_iload_n 24 rfl rfl ?_
      refine vi_if_eq 25 rfl (by omega) (fun c_46 => ?_) (fun c_46 => ?_)
      · refine vi_iconst 40 rfl ?_
        refine vi_istore_n 41 rfl rfl ?_
        refine vi_aload_n 42 rfl rfl ?_
        refine vi_get 43 rfl f_X2_28 (by first | exact e0b | exact e0) rfl rfl ?_
        refine vi_iload_n 44 rfl rfl ?_
        refine vi_bipush 45 rfl (by decide) ?_
        refine vi_imul 46 rfl ?_
        refine vi_iload 47 rfl rfl ?_
        refine vi_iadd 48 rfl ?_
        refine vi_iconst 49 rfl ?_
        refine vi_iadd 50 rfl ?_
        refine vi_iload_n 51 rfl rfl ?_
        refine vi_if_eq 52 rfl (by omega) (fun _ => ?_) (fun c => absurd c (by decide))
        refine vi_iconst 59 rfl ?_
        refine vi_iast 60 rfl (by first | exact e4b | exact e4) (by omega) ?_
        refine vi_iinc 61 rfl rfl rfl ?_
        refine vi_goto 62 rfl ?_
        first | exact vi_lc (ih (i + 1) (by omega) (by omega) (va_up b_64 (b + 4) _) _ L2 H2 1 (by omega) (fun m p1 p2 => by by_cases hm : m = i + 1; (subst hm; rw [show k * 9 + (i + 1) = k * 9 + i + 1 by omega, wb_us, hst (by omega)]; unfold wb_ah wb_so; rw [if_pos hok2, if_pos hLH, hrn.1, hrn.2]); (rw [wb_un (by omega)]; exact hah m p1 (by omega))) (fun j hj => by rw [wb_un (by omega)]; exact hah2 j hj) (by rw [hst (by omega), if_pos hok2]) (fun _ => by rw [hst (by omega)]; exact ⟨hrn.1.symm, hrn.2.symm⟩) wb_ups (hf3.fr (fun k q1 q2 => wb_upn (by omega))) (fun k p1 p2 => (wb_upn p2).trans ((hf4 k p1).trans (ef k p1 p2)))) ⟨rfl, rfl, rfl, rfl, rfl, trivial⟩ | exact vi_lc (nx0 (by omega) hno _ L2 H2 wb_ups (hf3.fr (fun k q1 q2 => wb_upn (by omega))) (fun k p1 p2 => (wb_upn p2).trans ((hf4 k p1).trans (ef k p1 p2)))) ⟨rfl, rfl, rfl, rfl, rfl, trivial⟩ | exact vi_lc (nx0 (by omega) (wb_ok_no (m := i.toNat) (by cases hh : wb_ok le mo ho lo (fun m => nd (k * 8 + m)) fl fm i.toNat with | false => rfl | true => rw [hh] at hgz; simp at hgz; omega) _ (by omega)) _ L1 H1 wb_ups (hf1.fr (fun k q1 q2 => wb_upn (by omega))) (fun k p1 p2 => (wb_upn p2).trans (ef k p1 p2))) ⟨rfl, rfl, rfl, rfl, rfl, trivial⟩
      · refine vi_aload_n 26 rfl rfl ?_
        refine vi_iload 27 rfl rfl ?_
        refine vi_aload_n 28 rfl rfl ?_
        refine vi_get 29 rfl f_X2_25 e0 rfl rfl ?_
        refine vi_iload_n 30 rfl rfl ?_
        refine vi_bipush 31 rfl (by decide) ?_
        refine vi_imul 32 rfl ?_
        refine vi_iload 33 rfl rfl ?_
        refine vi_iadd 34 rfl ?_
        refine vi_iald 35 rfl e3 (by omega) ?_
        refine vi_V2 36 ok_X3_go rfl c_X2_88 x0 rfl rfl ?_
        refine sp_X3_go hf1 hR' (by have := hrg (by omega); omega) (by have := hrg (by omega); omega) (by omega) (by have := hnd i hi0 (by omega); omega) (fun b_64 => ?_) (fun b_64 => ?_)
        · intro L2 H2 hL2 hH2 hLH hf3 hf4
          have e0b := (hf4 b (by omega)).trans e0
          have e4b := (hf4 (b + 4) (by omega)).trans e4
          have hf5 := hf3
          obtain ⟨y0, -, -⟩ := hf5
          obtain ⟨z1, z2⟩ := hg1 (by omega)
          have hok2 : wb_ok le mo ho lo (fun m => nd (k * 8 + m)) fl fm (i.toNat + 1) = true := by (show (wb_ok _ _ _ _ _ _ _ _ && decide (wb_c0 _ ≤ wb_cx _ _)) = true; rw [hok (by omega), hii, ← z1, ← z2, ← hL2, ← hH2]; simp [hLH])
          have hrn : (wb_rn le mo ho lo (fun m => nd (k * 8 + m)) fl fm (i.toNat + 1)).1 = L2 ∧ (wb_rn le mo ho lo (fun m => nd (k * 8 + m)) fl fm (i.toNat + 1)).2 = H2 := by (show wb_c0 _ = L2 ∧ wb_cx _ _ = H2; rw [hii, ← z1, ← z2, ← hL2, ← hH2]; exact ⟨rfl, rfl⟩)
          have hrg2 := wb_ok_rg (le := le) (mo := mo) (lo := lo) (nd := fun m => nd (k * 8 + m)) ⟨r3.1, hff, by omega⟩ r5.2 _ hok2
          rw [hrn.1, hrn.2] at hrg2
          refine vi_if_eq 37 rfl (by omega) (fun c => absurd c (by decide)) (fun _ => ?_)
          refine vi_iconst 38 rfl ?_
          refine vi_goto 39 rfl ?_
          refine vi_istore_n 41 rfl rfl ?_
          refine vi_aload_n 42 rfl rfl ?_
          refine vi_get 43 rfl f_X2_28 (by first | exact e0b | exact e0) rfl rfl ?_
          refine vi_iload_n 44 rfl rfl ?_
          refine vi_bipush 45 rfl (by decide) ?_
          refine vi_imul 46 rfl ?_
          refine vi_iload 47 rfl rfl ?_
          refine vi_iadd 48 rfl ?_
          refine vi_iconst 49 rfl ?_
          refine vi_iadd 50 rfl ?_
          refine vi_iload_n 51 rfl rfl ?_
          refine vi_if_eq 52 rfl (by omega) (fun c => absurd c (by decide)) (fun _ => ?_)
          refine vi_aload_n 53 rfl rfl ?_
          refine vi_get 54 rfl f_X2_99 y0 rfl rfl ?_
          refine vi_aload_n 55 rfl rfl ?_
          refine vi_get 56 rfl f_X2_102 y0 rfl rfl ?_
          refine vi_S2 57 ok_X11_spanOf rfl c_X2_105 rfl ?_
          refine sp_X11_spanOf (by omega) (by omega) ?_
          refine vi_goto 58 rfl ?_
          refine vi_iast 60 rfl (by first | exact e4b | exact e4) (by omega) ?_
          refine vi_iinc 61 rfl rfl rfl ?_
          refine vi_goto 62 rfl ?_
          first | exact vi_lc (ih (i + 1) (by omega) (by omega) (va_up b_64 (b + 4) _) _ L2 H2 1 (by omega) (fun m p1 p2 => by by_cases hm : m = i + 1; (subst hm; rw [show k * 9 + (i + 1) = k * 9 + i + 1 by omega, wb_us, hst (by omega)]; unfold wb_ah wb_so; rw [if_pos hok2, if_pos hLH, hrn.1, hrn.2]); (rw [wb_un (by omega)]; exact hah m p1 (by omega))) (fun j hj => by rw [wb_un (by omega)]; exact hah2 j hj) (by rw [hst (by omega), if_pos hok2]) (fun _ => by rw [hst (by omega)]; exact ⟨hrn.1.symm, hrn.2.symm⟩) wb_ups (hf3.fr (fun k q1 q2 => wb_upn (by omega))) (fun k p1 p2 => (wb_upn p2).trans ((hf4 k p1).trans (ef k p1 p2)))) ⟨rfl, rfl, rfl, rfl, rfl, trivial⟩ | exact vi_lc (nx0 (by omega) hno _ L2 H2 wb_ups (hf3.fr (fun k q1 q2 => wb_upn (by omega))) (fun k p1 p2 => (wb_upn p2).trans ((hf4 k p1).trans (ef k p1 p2)))) ⟨rfl, rfl, rfl, rfl, rfl, trivial⟩ | exact vi_lc (nx0 (by omega) (wb_ok_no (m := i.toNat) (by cases hh : wb_ok le mo ho lo (fun m => nd (k * 8 + m)) fl fm i.toNat with | false => rfl | true => rw [hh] at hgz; simp at hgz; omega) _ (by omega)) _ L1 H1 wb_ups (hf1.fr (fun k q1 q2 => wb_upn (by omega))) (fun k p1 p2 => (wb_upn p2).trans (ef k p1 p2))) ⟨rfl, rfl, rfl, rfl, rfl, trivial⟩
        · intro L2 H2 hL2 hH2 hLH hf3 hf4
          have e0b := (hf4 b (by omega)).trans e0
          have e4b := (hf4 (b + 4) (by omega)).trans e4
          obtain ⟨z1, z2⟩ := hg1 (by omega)
          have hno : wb_ok le mo ho lo (fun m => nd (k * 8 + m)) fl fm (i.toNat + 1) = false := by (show (wb_ok _ _ _ _ _ _ _ _ && decide (wb_c0 _ ≤ wb_cx _ _)) = false; rw [hii, ← z1, ← z2, ← hL2, ← hH2]; simp [hLH])
          refine vi_if_eq 37 rfl (by omega) (fun _ => ?_) (fun c => absurd c (by decide))
          refine vi_iconst 40 rfl ?_
          refine vi_istore_n 41 rfl rfl ?_
          refine vi_aload_n 42 rfl rfl ?_
          refine vi_get 43 rfl f_X2_28 (by first | exact e0b | exact e0) rfl rfl ?_
          refine vi_iload_n 44 rfl rfl ?_
          refine vi_bipush 45 rfl (by decide) ?_
          refine vi_imul 46 rfl ?_
          refine vi_iload 47 rfl rfl ?_
          refine vi_iadd 48 rfl ?_
          refine vi_iconst 49 rfl ?_
          refine vi_iadd 50 rfl ?_
          refine vi_iload_n 51 rfl rfl ?_
          refine vi_if_eq 52 rfl (by omega) (fun _ => ?_) (fun c => absurd c (by decide))
          refine vi_iconst 59 rfl ?_
          refine vi_iast 60 rfl (by first | exact e4b | exact e4) (by omega) ?_
          refine vi_iinc 61 rfl rfl rfl ?_
          refine vi_goto 62 rfl ?_
          first | exact vi_lc (ih (i + 1) (by omega) (by omega) (va_up b_64 (b + 4) _) _ L2 H2 1 (by omega) (fun m p1 p2 => by by_cases hm : m = i + 1; (subst hm; rw [show k * 9 + (i + 1) = k * 9 + i + 1 by omega, wb_us, hst (by omega)]; unfold wb_ah wb_so; rw [if_pos hok2, if_pos hLH, hrn.1, hrn.2]); (rw [wb_un (by omega)]; exact hah m p1 (by omega))) (fun j hj => by rw [wb_un (by omega)]; exact hah2 j hj) (by rw [hst (by omega), if_pos hok2]) (fun _ => by rw [hst (by omega)]; exact ⟨hrn.1.symm, hrn.2.symm⟩) wb_ups (hf3.fr (fun k q1 q2 => wb_upn (by omega))) (fun k p1 p2 => (wb_upn p2).trans ((hf4 k p1).trans (ef k p1 p2)))) ⟨rfl, rfl, rfl, rfl, rfl, trivial⟩ | exact vi_lc (nx0 (by omega) hno _ L2 H2 wb_ups (hf3.fr (fun k q1 q2 => wb_upn (by omega))) (fun k p1 p2 => (wb_upn p2).trans ((hf4 k p1).trans (ef k p1 p2)))) ⟨rfl, rfl, rfl, rfl, rfl, trivial⟩ | exact vi_lc (nx0 (by omega) (wb_ok_no (m := i.toNat) (by cases hh : wb_ok le mo ho lo (fun m => nd (k * 8 + m)) fl fm i.toNat with | false => rfl | true => rw [hh] at hgz; simp at hgz; omega) _ (by omega)) _ L1 H1 wb_ups (hf1.fr (fun k q1 q2 => wb_upn (by omega))) (fun k p1 p2 => (wb_upn p2).trans (ef k p1 p2))) ⟨rfl, rfl, rfl, rfl, rfl, trivial⟩
  have hfl' := hfl
  obtain ⟨x0, -, -⟩ := hfl'
  refine vi_aload_n 0 rfl rfl ?_
  refine vi_V0 1 ok_X3_begin rfl c_X2_82 x0 rfl rfl ?_
  refine sp_X3_begin hfl (fun w2 hf2 hf3 => ?_)
  have hf4 := hf2
  obtain ⟨y0, -, -⟩ := hf4
  have e0b := (hf3 b (by omega)).trans h0
  have e4b := (hf3 (b + 4) (by omega)).trans h4
  refine vi_iconst 2 rfl ?_
  refine vi_istore_n 3 rfl rfl ?_
  refine vi_aload_n 4 rfl rfl ?_
  refine vi_get 5 rfl f_X2_28 e0b rfl rfl ?_
  refine vi_iload_n 6 rfl rfl ?_
  refine vi_bipush 7 rfl (by decide) ?_
  refine vi_imul 8 rfl ?_
  refine vi_aload_n 9 rfl rfl ?_
  refine vi_get 10 rfl f_X2_99 y0 rfl rfl ?_
  refine vi_aload_n 11 rfl rfl ?_
  refine vi_get 12 rfl f_X2_102 y0 rfl rfl ?_
  refine vi_S2 13 ok_X11_spanOf rfl c_X2_105 rfl ?_
  refine sp_X11_spanOf (by omega) (by omega) ?_
  refine vi_iast 14 rfl e4b (by omega) ?_
  refine vi_iconst 15 rfl ?_
  refine vi_istore 16 rfl rfl ?_
  exact vi_lc (lp 0 (by omega) (va_up w2 (b + 4) _) _ fl fm 1 (by omega) (fun m p1 p2 => by rw [show m = 0 by omega, show k * 9 + 0 = k * 9 by omega, wb_us]; unfold wb_ah wb_so; rw [if_pos hff]; rfl) (fun j hj => wb_un (by omega)) rfl (fun _ => ⟨rfl, rfl⟩) wb_ups (hf2.fr (fun k q1 q2 => wb_upn (by omega))) (fun k p1 p2 => (wb_upn p2).trans (hf3 k p1))) ⟨rfl, rfl, rfl, rfl, rfl, trivial⟩
end WBS25
