/-! ===== objects are made: the parts ===== -/
theorem wb_tb_o0 (q : Int) : wb_tb (Int64.ofNat (0 : Fin 2)) q = false := wb_tb_0 q
section WBS70
variable {G : wb_G} {w : wb_W} {Q : Option Value → Nat → wb_W → Prop} {b : Nat}
theorem sp_X6_init (h : w b = .inr (6, [.null, .null, .null, .null])) (hQ : ∀ w', wb_Pt w' b → (∀ k, (k < b ∨ b + 5 ≤ k) → w' k = w k) → Q none (b + 5) w') : wb_M G M_X6_init [.ref b] (b + 1) w Q := by
  unfold wb_M
  have lp : ∀ p, p ≤ 125 → ∀ (w1 : wb_W) (f0 f1 f2 f3 : Int → Int64), 0 ≤ p → w1 b = .inr (6, [.ref (b + 1), .ref (b + 2), .ref (b + 3), .ref (b + 4)]) → w1 (b + 1) = aL 15 f0 → w1 (b + 2) = aL 15 f1 → w1 (b + 3) = aL 4 f2 → w1 (b + 4) = aL 4 f3 → (∀ t a q, 0 ≤ t → t < 3 → 0 ≤ a → a < 5 → 0 ≤ q → q < 64 → wb_tb (f0 (5 * t + a)) q = decide (q < p ∧ wb_am q t = a) ∧ wb_tb (f1 (5 * t + a)) q = decide (64 + q < p ∧ wb_am (64 + q) t = a)) → (∀ m q, 0 ≤ m → m < 4 → 0 ≤ q → q < 64 → wb_tb (f2 m) q = decide (q < p ∧ wb_th q = m) ∧ wb_tb (f3 m) q = decide (64 + q < p ∧ wb_th (64 + q) = m)) → (∀ k, (k < b ∨ b + 5 ≤ k) → w1 k = w k) → wb_V G M_X6_init 36 [(0, .ref b), (1, .int (wb_i p))] [] (b + 5) w1 4 38 Q := by
    refine wb_up 125 _ ?_
    intro p ih hp w1 f0 f1 f2 f3 hp0 x0 x1 x2 x3 x4 hA hB ef
    have hth := wb_th_rg p
    have lq : p < 125 → ∀ lb hb : Int64, (∀ q, 0 ≤ q → q < 64 → wb_tb lb q = decide (q = p)) → (∀ q, 0 ≤ q → q < 64 → wb_tb hb q = decide (64 + q = p)) → ∀ t, t ≤ 3 → ∀ (w2 : wb_W) (g0 g1 : Int → Int64), 0 ≤ t → w2 b = w1 b → w2 (b + 1) = aL 15 g0 → w2 (b + 2) = aL 15 g1 → w2 (b + 3) = aL 4 f2 → w2 (b + 4) = aL 4 f3 → (∀ t' a q, 0 ≤ t' → t' < 3 → 0 ≤ a → a < 5 → 0 ≤ q → q < 64 → wb_tb (g0 (5 * t' + a)) q = decide ((q < p ∨ (q = p ∧ t' < t)) ∧ wb_am q t' = a) ∧ wb_tb (g1 (5 * t' + a)) q = decide ((64 + q < p ∨ (64 + q = p ∧ t' < t)) ∧ wb_am (64 + q) t' = a)) → (∀ k, (k < b ∨ b + 5 ≤ k) → w2 k = w k) → wb_V G M_X6_init 77 [(0, .ref b), (1, .int (wb_i p)), (2, .long lb), (4, .long hb), (6, .int (wb_i t))] [] (b + 5) w2 4 38 Q := by
      intro hp5 lb hb hlb hhb
      refine wb_up 3 _ ?_
      intro t jh ht w2 g0 g1 ht0 y0 y1 y2 y3 y4 hG ef2
      have z0 := y0.trans x0
      have ham := wb_am_rg (p := p) (t := t) hp0
      have hS : t < 3 → ∀ t' a q, 0 ≤ t' → t' < 3 → 0 ≤ a → a < 5 → 0 ≤ q → q < 64 → wb_tb (wb_u g0 (t * 5 + wb_am p t) (g0 (t * 5 + wb_am p t) ||| lb) (5 * t' + a)) q = decide ((q < p ∨ (q = p ∧ t' < t + 1)) ∧ wb_am q t' = a) ∧ wb_tb (wb_u g1 (t * 5 + wb_am p t) (g1 (t * 5 + wb_am p t) ||| hb) (5 * t' + a)) q = decide ((64 + q < p ∨ (64 + q = p ∧ t' < t + 1)) ∧ wb_am (64 + q) t' = a) := fun ht3 t' a q t1 t2 a1 a2 q1 q2 => by
        obtain ⟨u1, u2⟩ := hG t' a q t1 t2 a1 a2 q1 q2
        by_cases e : 5 * t' + a = t * 5 + wb_am p t
        · obtain rfl : t' = t := by omega
          obtain rfl : a = wb_am p t' := by omega
          rw [show t' * 5 + wb_am p t' = 5 * t' + wb_am p t' by omega, wb_us, wb_us, wb_tb_or, wb_tb_or, u1, u2, hlb q q1 q2, hhb q q1 q2, ← Bool.decide_or, ← Bool.decide_or]
          refine ⟨decide_eq_decide.mpr ?_, decide_eq_decide.mpr ?_⟩
          · by_cases e2 : q = p
            · subst e2; omega
            · omega
          · by_cases e2 : 64 + q = p
            · subst e2; omega
            · omega
        · rw [wb_un e, wb_un e, u1, u2]
          refine ⟨decide_eq_decide.mpr ?_, decide_eq_decide.mpr ?_⟩
          · by_cases e3 : t' = t
            · subst e3
              by_cases e2 : q = p
              · subst e2; omega
              · omega
            · omega
          · by_cases e3 : t' = t
            · subst e3
              by_cases e2 : 64 + q = p
              · subst e2; omega
              · omega
            · omega
      have hS2 : ¬ t < 3 → ∀ m q, 0 ≤ m → m < 4 → 0 ≤ q → q < 64 → wb_tb (wb_u f2 (wb_th p) (f2 (wb_th p) ||| lb) m) q = decide (q < p + 1 ∧ wb_th q = m) ∧ wb_tb (wb_u f3 (wb_th p) (f3 (wb_th p) ||| hb) m) q = decide (64 + q < p + 1 ∧ wb_th (64 + q) = m) := fun _ m q m1 m2 q1 q2 => by
        obtain ⟨u1, u2⟩ := hB m q m1 m2 q1 q2
        by_cases e : m = wb_th p
        · subst e
          rw [wb_us, wb_us, wb_tb_or, wb_tb_or, u1, u2, hlb q q1 q2, hhb q q1 q2, ← Bool.decide_or, ← Bool.decide_or]
          refine ⟨decide_eq_decide.mpr ?_, decide_eq_decide.mpr ?_⟩
          · by_cases e2 : q = p
            · subst e2; omega
            · omega
          · by_cases e2 : 64 + q = p
            · subst e2; omega
            · omega
        · rw [wb_un e, wb_un e, u1, u2]
          refine ⟨decide_eq_decide.mpr ?_, decide_eq_decide.mpr ?_⟩
          · by_cases e2 : q = p
            · subst e2; omega
            · omega
          · by_cases e2 : 64 + q = p
            · subst e2; omega
            · omega
      refine vi_iload 45 rfl rfl ?_
      refine vi_iconst 46 rfl ?_
      refine vi_icmp_ge 47 rfl (by omega) (by omega) (fun c_80 => ?_) (fun c_80 => ?_)
      · refine vi_iload_n 74 rfl rfl ?_
        refine vi_S1 75 ok_X11_thingsInPart rfl c_X6_28 rfl ?_
        refine sp_X11_thingsInPart (by omega) ?_
        refine vi_istore 76 rfl rfl ?_
        refine vi_aload_n 77 rfl rfl ?_
        refine vi_get 78 rfl f_X6_18 z0 rfl rfl ?_
        refine vi_iload 79 rfl rfl ?_
        refine vi_dup2 80 rfl rfl rfl ?_
        refine vi_lald 81 rfl y3 (by omega) ?_
        refine vi_lload_n 82 rfl rfl ?_
        refine vi_lor 83 rfl ?_
        refine vi_last 84 rfl y3 (by omega) ?_
        refine vi_aload_n 85 rfl rfl ?_
        refine vi_get 86 rfl f_X6_21 ((wb_upn (by omega)).trans z0) rfl rfl ?_
        refine vi_iload 87 rfl rfl ?_
        refine vi_dup2 88 rfl rfl rfl ?_
        refine vi_lald 89 rfl ((wb_upn (by omega)).trans y4) (by omega) ?_
        refine vi_lload 90 rfl rfl ?_
        refine vi_lor 91 rfl ?_
        refine vi_last 92 rfl ((wb_upn (by omega)).trans y4) (by omega) ?_
        refine vi_iinc 93 rfl rfl rfl ?_
        refine vi_goto 94 rfl ?_
        exact vi_lc (ih (p + 1) (by omega) (by omega) _ g0 g1 _ _ (by omega) (by (repeat (first | rw [wb_upn (by omega)] | rw [wb_upe (by omega)])); exact z0) (by (repeat (first | rw [wb_upn (by omega)] | rw [wb_upe (by omega)])); exact y1) (by (repeat (first | rw [wb_upn (by omega)] | rw [wb_upe (by omega)])); exact y2) (by (repeat (first | rw [wb_upn (by omega)] | rw [wb_upe (by omega)]))) (by (repeat (first | rw [wb_upn (by omega)] | rw [wb_upe (by omega)]))) (fun t' a q t1 t2 a1 a2 q1 q2 => by obtain ⟨u1, u2⟩ := hG t' a q t1 t2 a1 a2 q1 q2; rw [u1, u2]; exact ⟨decide_eq_decide.mpr (by omega), decide_eq_decide.mpr (by omega)⟩) (hS2 (by omega)) (fun k hk => by (repeat (first | rw [wb_upn (by omega)] | rw [wb_upe (by omega)])); exact ef2 k hk)) ⟨rfl, rfl, trivial⟩
      · refine vi_iload 48 rfl rfl ?_
        refine vi_iconst 49 rfl ?_
        refine vi_imul 50 rfl ?_
        refine vi_iload_n 51 rfl rfl ?_
        refine vi_iload 52 rfl rfl ?_
        refine vi_S2 53 ok_X11_amountIn rfl c_X6_24 rfl ?_
        refine sp_X11_amountIn (by omega) (by omega) ?_
        refine vi_iadd 54 rfl ?_
        refine vi_istore 55 rfl rfl ?_
        refine vi_aload_n 56 rfl rfl ?_
        refine vi_get 57 rfl f_X6_11 z0 rfl rfl ?_
        refine vi_iload 58 rfl rfl ?_
        refine vi_dup2 59 rfl rfl rfl ?_
        refine vi_lald 60 rfl y1 (by omega) ?_
        refine vi_lload_n 61 rfl rfl ?_
        refine vi_lor 62 rfl ?_
        refine vi_last 63 rfl y1 (by omega) ?_
        refine vi_aload_n 64 rfl rfl ?_
        refine vi_get 65 rfl f_X6_15 ((wb_upn (by omega)).trans z0) rfl rfl ?_
        refine vi_iload 66 rfl rfl ?_
        refine vi_dup2 67 rfl rfl rfl ?_
        refine vi_lald 68 rfl ((wb_upn (by omega)).trans y2) (by omega) ?_
        refine vi_lload 69 rfl rfl ?_
        refine vi_lor 70 rfl ?_
        refine vi_last 71 rfl ((wb_upn (by omega)).trans y2) (by omega) ?_
        refine vi_iinc 72 rfl rfl rfl ?_
        refine vi_goto 73 rfl ?_
        exact vi_lc (jh (t + 1) (by omega) (by omega) _ _ _ (by omega) (by (repeat (first | rw [wb_upn (by omega)] | rw [wb_upe (by omega)])); exact y0) (by (repeat (first | rw [wb_upn (by omega)] | rw [wb_upe (by omega)]))) (by (repeat (first | rw [wb_upn (by omega)] | rw [wb_upe (by omega)]))) (by (repeat (first | rw [wb_upn (by omega)] | rw [wb_upe (by omega)])); exact y3) (by (repeat (first | rw [wb_upn (by omega)] | rw [wb_upe (by omega)])); exact y4) (hS (by omega)) (fun k hk => by (repeat (first | rw [wb_upn (by omega)] | rw [wb_upe (by omega)])); exact ef2 k hk)) ⟨rfl, rfl, rfl, rfl, rfl, trivial⟩
    have g0 : ∀ t' a q, 0 ≤ t' → t' < 3 → 0 ≤ a → a < 5 → 0 ≤ q → q < 64 → wb_tb (f0 (5 * t' + a)) q = decide ((q < p ∨ (q = p ∧ t' < 0)) ∧ wb_am q t' = a) ∧ wb_tb (f1 (5 * t' + a)) q = decide ((64 + q < p ∨ (64 + q = p ∧ t' < 0)) ∧ wb_am (64 + q) t' = a) := fun t' a q t1 t2 a1 a2 q1 q2 => by
      obtain ⟨u1, u2⟩ := hA t' a q t1 t2 a1 a2 q1 q2
      rw [u1, u2]; exact ⟨decide_eq_decide.mpr (by omega), decide_eq_decide.mpr (by omega)⟩
    refine vi_iload_n 20 rfl rfl ?_
    refine vi_bipush 21 rfl (by decide) ?_
    refine vi_icmp_ge 22 rfl (by omega) (by omega) (fun c_39 => ?_) (fun c_39 => ?_)
    · exact vi_return 95 rfl rfl (Nat.le_of_ble_eq_true rfl) (Nat.le_of_ble_eq_true rfl) (hQ w1 ⟨f0, f1, f2, f3, x0, x1, x2, x3, x4, fun t a q t1 t2 a1 a2 q1 q2 => by obtain ⟨u1, u2⟩ := hA t a q t1 t2 a1 a2 q1 q2; rw [u1, u2, ← Bool.decide_and]; exact ⟨decide_eq_decide.mpr (by omega), decide_eq_decide.mpr (by omega)⟩, fun m q m1 m2 q1 q2 => by obtain ⟨u1, u2⟩ := hB m q m1 m2 q1 q2; rw [u1, u2, ← Bool.decide_and]; exact ⟨decide_eq_decide.mpr (by omega), decide_eq_decide.mpr (by omega)⟩⟩ ef)
    · refine vi_iload_n 23 rfl rfl ?_
      refine vi_bipush 24 rfl (by decide) ?_
      refine vi_icmp_ge 25 rfl (by omega) (by omega) (fun c_45 => ?_) (fun c_45 => ?_)
      · refine vi_lconst 30 rfl ?_
        refine vi_lstore_n 31 rfl rfl ?_
        refine vi_iload_n 32 rfl rfl ?_
        refine vi_bipush 33 rfl (by decide) ?_
        refine vi_icmp_ge 34 rfl (by omega) (by omega) (fun c_59 => ?_) (fun c_59 => ?_)
        · refine vi_lconst 37 rfl ?_
          refine vi_iload_n 38 rfl rfl ?_
          refine vi_bipush 39 rfl (by decide) ?_
          refine vi_isub 40 rfl ?_
          refine vi_lshl 41 rfl ?_
          refine vi_lstore 42 rfl rfl ?_
          refine vi_iconst 43 rfl ?_
          refine vi_istore 44 rfl rfl ?_
          first | (exfalso; omega) | exact vi_lc (lq (by omega) _ _ (fun q q1 q2 => wb_tb_sh1 (by omega) (by omega)) (fun q q1 q2 => by rw [wb_tb_o0, decide_eq_false (by omega)]) 0 (by omega) w1 f0 f1 (by omega) rfl x1 x2 x3 x4 g0 ef) ⟨rfl, rfl, rfl, rfl, rfl, trivial⟩ | exact vi_lc (lq (by omega) _ _ (fun q q1 q2 => by rw [wb_tb_o0, decide_eq_false (by omega)]) (fun q q1 q2 => by rw [wb_tb_sh1 (by omega) (by omega)]; exact decide_eq_decide.mpr (by omega)) 0 (by omega) w1 f0 f1 (by omega) rfl x1 x2 x3 x4 g0 ef) ⟨rfl, rfl, rfl, rfl, rfl, trivial⟩
        · refine vi_lconst 35 rfl ?_
          refine vi_goto 36 rfl ?_
          refine vi_lstore 42 rfl rfl ?_
          refine vi_iconst 43 rfl ?_
          refine vi_istore 44 rfl rfl ?_
          first | (exfalso; omega) | exact vi_lc (lq (by omega) _ _ (fun q q1 q2 => wb_tb_sh1 (by omega) (by omega)) (fun q q1 q2 => by rw [wb_tb_o0, decide_eq_false (by omega)]) 0 (by omega) w1 f0 f1 (by omega) rfl x1 x2 x3 x4 g0 ef) ⟨rfl, rfl, rfl, rfl, rfl, trivial⟩ | exact vi_lc (lq (by omega) _ _ (fun q q1 q2 => by rw [wb_tb_o0, decide_eq_false (by omega)]) (fun q q1 q2 => by rw [wb_tb_sh1 (by omega) (by omega)]; exact decide_eq_decide.mpr (by omega)) 0 (by omega) w1 f0 f1 (by omega) rfl x1 x2 x3 x4 g0 ef) ⟨rfl, rfl, rfl, rfl, rfl, trivial⟩
      · refine vi_lconst 26 rfl ?_
        refine vi_iload_n 27 rfl rfl ?_
        refine vi_lshl 28 rfl ?_
        refine vi_goto 29 rfl ?_
        refine vi_lstore_n 31 rfl rfl ?_
        refine vi_iload_n 32 rfl rfl ?_
        refine vi_bipush 33 rfl (by decide) ?_
        refine vi_icmp_ge 34 rfl (by omega) (by omega) (fun c_59 => ?_) (fun c_59 => ?_)
        · refine vi_lconst 37 rfl ?_
          refine vi_iload_n 38 rfl rfl ?_
          refine vi_bipush 39 rfl (by decide) ?_
          refine vi_isub 40 rfl ?_
          refine vi_lshl 41 rfl ?_
          refine vi_lstore 42 rfl rfl ?_
          refine vi_iconst 43 rfl ?_
          refine vi_istore 44 rfl rfl ?_
          first | (exfalso; omega) | exact vi_lc (lq (by omega) _ _ (fun q q1 q2 => wb_tb_sh1 (by omega) (by omega)) (fun q q1 q2 => by rw [wb_tb_o0, decide_eq_false (by omega)]) 0 (by omega) w1 f0 f1 (by omega) rfl x1 x2 x3 x4 g0 ef) ⟨rfl, rfl, rfl, rfl, rfl, trivial⟩ | exact vi_lc (lq (by omega) _ _ (fun q q1 q2 => by rw [wb_tb_o0, decide_eq_false (by omega)]) (fun q q1 q2 => by rw [wb_tb_sh1 (by omega) (by omega)]; exact decide_eq_decide.mpr (by omega)) 0 (by omega) w1 f0 f1 (by omega) rfl x1 x2 x3 x4 g0 ef) ⟨rfl, rfl, rfl, rfl, rfl, trivial⟩
        · refine vi_lconst 35 rfl ?_
          refine vi_goto 36 rfl ?_
          refine vi_lstore 42 rfl rfl ?_
          refine vi_iconst 43 rfl ?_
          refine vi_istore 44 rfl rfl ?_
          first | (exfalso; omega) | exact vi_lc (lq (by omega) _ _ (fun q q1 q2 => wb_tb_sh1 (by omega) (by omega)) (fun q q1 q2 => by rw [wb_tb_o0, decide_eq_false (by omega)]) 0 (by omega) w1 f0 f1 (by omega) rfl x1 x2 x3 x4 g0 ef) ⟨rfl, rfl, rfl, rfl, rfl, trivial⟩ | exact vi_lc (lq (by omega) _ _ (fun q q1 q2 => by rw [wb_tb_o0, decide_eq_false (by omega)]) (fun q q1 q2 => by rw [wb_tb_sh1 (by omega) (by omega)]; exact decide_eq_decide.mpr (by omega)) 0 (by omega) w1 f0 f1 (by omega) rfl x1 x2 x3 x4 g0 ef) ⟨rfl, rfl, rfl, rfl, rfl, trivial⟩
  refine vi_aload_n 0 rfl rfl ?_
  refine vi_obj 1 rfl c_X6_3 rfl rfl ?_
  refine vi_aload_n 2 rfl rfl ?_
  refine vi_bipush 3 rfl (by decide) ?_
  refine vi_newaL 4 15 rfl l_arr_long rfl (by decide) rfl rfl ?_
  refine vi_putF 5 rfl ff_X6_11 rfl ((wb_upn (by omega)).trans h) rfl rfl rfl rfl ?_
  refine vi_aload_n 6 rfl rfl ?_
  refine vi_bipush 7 rfl (by decide) ?_
  refine vi_newaL 8 15 rfl l_arr_long rfl (by decide) rfl rfl ?_
  refine vi_putF 9 rfl ff_X6_15 rfl ((wb_upn (by omega)).trans wb_ups) rfl rfl rfl rfl ?_
  refine vi_aload_n 10 rfl rfl ?_
  refine vi_iconst 11 rfl ?_
  refine vi_newaL 12 4 rfl l_arr_long rfl (by decide) rfl rfl ?_
  refine vi_putF 13 rfl ff_X6_18 rfl ((wb_upn (by omega)).trans wb_ups) rfl rfl rfl rfl ?_
  refine vi_aload_n 14 rfl rfl ?_
  refine vi_iconst 15 rfl ?_
  refine vi_newaL 16 4 rfl l_arr_long rfl (by decide) rfl rfl ?_
  refine vi_putF 17 rfl ff_X6_21 rfl ((wb_upn (by omega)).trans wb_ups) rfl rfl rfl rfl ?_
  refine vi_iconst 18 rfl ?_
  refine vi_istore_n 19 rfl rfl ?_
  exact vi_lc (lp 0 (by omega) _ _ _ _ _ (by omega) wb_ups (by (repeat (first | rw [wb_upn (by omega)] | rw [wb_upe (by omega)]))) (by (repeat (first | rw [wb_upn (by omega)] | rw [wb_upe (by omega)]))) (by (repeat (first | rw [wb_upn (by omega)] | rw [wb_upe (by omega)]))) (by (repeat (first | rw [wb_upn (by omega)] | rw [wb_upe (by omega)]))) (fun t a q t1 t2 a1 a2 q1 q2 => by rw [wb_tb_0, decide_eq_false (by omega), decide_eq_false (by omega)]; exact ⟨rfl, rfl⟩) (fun m q m1 m2 q1 q2 => by rw [wb_tb_0, decide_eq_false (by omega), decide_eq_false (by omega)]; exact ⟨rfl, rfl⟩) (fun k hk => by (repeat (first | rw [wb_upn (by omega)] | rw [wb_upe (by omega)])))) ⟨rfl, rfl, trivial⟩
end WBS70
