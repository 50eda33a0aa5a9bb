/-! ===== the law: each operation, the loop ===== -/
section WBS76
variable {G : wb_G} {w : wb_W} {Q : Option Value → Nat → wb_W → Prop} {i : Int}
theorem wb_and31 (x : Int) : wb_i x &&& wb_i 31 = wb_i (x % 32) := by
  rw [pk_and (wb_i x) (m := wb_i 31) 5 (by decide +kernel), wb_i_bv]
  rw [show (x % 32) = (((x % 4294967296).toNat % 2 ^ 5 : Nat) : Int) by omega, wb_i_nat]
/-- two numbers that are one -/
theorem vi_icmp_sm {M : wb_MD} {pc nx tg : Nat} {l : List (Nat × Value)} {st : List Value} {N : Nat} {cc cs : Nat} (k : Nat) {x : Int32} {o : Int} (h : (wb_op M)[k]? = some (pc, .if_icmp .eq o, nx, tg)) (kt : wb_V G M tg l st N w cc cs Q) : wb_V G M pc l (.int x :: .int x :: st) N w cc cs Q := by
  intro p e s m args below meth c H locs ls Qe hC hR hl hf hq
  obtain ⟨hd, hs⟩ := wb_opn hC.2.2.2.2.2.2.2.2.2 h
  have hs2 : nx = pc + 3 ∧ (pc : Int) + o = (tg : Int) := ⟨of_decide_eq_true (wb_and hs).1, of_decide_eq_true (wb_and hs).2⟩
  obtain ⟨hnx, htg⟩ := hs2
  subst hnx
  rw [Nat.add_sub_cancel_left] at hd
  exact lv_icmp_eq hC.1 hC.2.1 hd htg (fun _ => kt p e s m args below meth c H locs ls Qe hC hR hl hf hq) (fun q => absurd rfl q)
/-- a room that is told more of -/
theorem vi_wide {M : wb_MD} {pc : Nat} {l : List (Nat × Value)} {st : List Value} {N : Nat} {cc cs cc' cs' : Nat} (h1 : cc ≤ cc') (h2 : cs ≤ cs') (kk : wb_V G M pc l st N w cc' cs' Q) : wb_V G M pc l st N w cc cs Q := by
  intro p e s m args below meth c H locs ls Qe hC hR hl hf hq
  exact W.widen h1 h2 (kk p e s m args below meth c H locs ls Qe hC hR hl hf hq)
/-- a sign of the script -/
theorem wb_sc (k : Nat) : ∃ z : Int, wb_xF G 0 k = wb_i z ∧ (-2147483648 ≤ z ∧ z ≤ 2147483647) := ⟨(wb_xF G 0 k).toInt, wb_i_of _, wb_i_rg _⟩
theorem wb_I.x3 (zh : wb_I w i) : wb_X3 w := by
  obtain ⟨n, c, s, sd, sf, tu, g, wt, sg, cnt, rs, ru, im, fz, zh0⟩ := zh
  exact zh0.1
theorem wb_I.later (zh : wb_I w i) : wb_I w (i + 7) := by
  obtain ⟨n, c, s, sd, sf, tu, g, wt, sg, cnt, rs, ru, im, fz, q1, q2, q3, q4, q5, q6, q7, q8⟩ := zh
  exact ⟨n, c, s, sd, sf, tu, g, wt, sg, cnt, rs, ru, im, fz, q1, q2, q3, q4, q5, q6, by omega, q8⟩
set_option maxRecDepth 20000 in
theorem op_month (zI : wb_I w i) (z0 : 0 ≤ i ∧ i ≤ 1000) (zL : i + 7 ≤ (wb_xL G 0 : Int)) (zN : ∀ w', wb_I w' (i + 7) → wb_V G M_L_law 1090 [(0, .ref 0), (1, .ref 3), (2, .ref 96), (3, .int (wb_i i))] [] 108 w' 105 157739 Q) : wb_V G M_L_law 168 [(0, .ref 0), (1, .ref 3), (2, .ref 96), (3, .int (wb_i i))] [] 108 w 105 157739 Q := by
  obtain ⟨a1, e1, r1⟩ := wb_sc (G := G) (i + 1).toNat
  obtain ⟨a2, e2, r2⟩ := wb_sc (G := G) (i + 2).toNat
  obtain ⟨a3, e3, r3⟩ := wb_sc (G := G) (i + 3).toNat
  obtain ⟨a4, e4, r4⟩ := wb_sc (G := G) (i + 4).toNat
  obtain ⟨a5, e5, r5⟩ := wb_sc (G := G) (i + 5).toNat
  obtain ⟨a6, e6, r6⟩ := wb_sc (G := G) (i + 6).toNat
  have zx := zI.x3
  refine vi_aload_n 22 rfl rfl ?_
  refine vi_aload_n 23 rfl rfl ?_
  refine vi_iload_n 24 rfl rfl ?_
  refine vi_iconst 25 rfl ?_
  refine vi_iadd 26 rfl ?_
  refine vi_xald 27 rfl rfl ⟨by omega, by omega, by omega⟩ ?_
  rw [e1]
  refine vi_aload_n 28 rfl rfl ?_
  refine vi_iload_n 29 rfl rfl ?_
  refine vi_iconst 30 rfl ?_
  refine vi_iadd 31 rfl ?_
  refine vi_xald 32 rfl rfl ⟨by omega, by omega, by omega⟩ ?_
  rw [e2]
  refine vi_aload_n 33 rfl rfl ?_
  refine vi_iload_n 34 rfl rfl ?_
  refine vi_iconst 35 rfl ?_
  refine vi_iadd 36 rfl ?_
  refine vi_xald 37 rfl rfl ⟨by omega, by omega, by omega⟩ ?_
  rw [e3]
  refine vi_aload_n 38 rfl rfl ?_
  refine vi_iload_n 39 rfl rfl ?_
  refine vi_iconst 40 rfl ?_
  refine vi_iadd 41 rfl ?_
  refine vi_xald 42 rfl rfl ⟨by omega, by omega, by omega⟩ ?_
  rw [e4]
  refine vi_aload_n 43 rfl rfl ?_
  refine vi_iload_n 44 rfl rfl ?_
  refine vi_iconst 45 rfl ?_
  refine vi_iadd 46 rfl ?_
  refine vi_xald 47 rfl rfl ⟨by omega, by omega, by omega⟩ ?_
  rw [e5]
  refine vi_aload_n 48 rfl rfl ?_
  refine vi_iload_n 49 rfl rfl ?_
  refine vi_bipush 50 rfl (by decide) ?_
  refine vi_iadd 51 rfl ?_
  refine vi_xald 52 rfl rfl ⟨by omega, by omega, by omega⟩ ?_
  rw [e6]
  refine vi_V6 53 ok_X11_month rfl c_L_13 zx rfl rfl ?_
  refine st_month zI (by omega) r1 r2 r3 r4 r5 r6 (fun w2 r zf zk => ?_)
  obtain ⟨zfs, zf⟩ := zf
  refine vi_aload_n 54 rfl rfl ?_
  refine vi_aload_n 55 rfl rfl ?_
  refine vi_iload_n 56 rfl rfl ?_
  refine vi_iconst 57 rfl ?_
  refine vi_iadd 58 rfl ?_
  refine vi_xald 59 rfl rfl ⟨by omega, by omega, by omega⟩ ?_
  rw [e1]
  refine vi_aload_n 60 rfl rfl ?_
  refine vi_iload_n 61 rfl rfl ?_
  refine vi_iconst 62 rfl ?_
  refine vi_iadd 63 rfl ?_
  refine vi_xald 64 rfl rfl ⟨by omega, by omega, by omega⟩ ?_
  rw [e2]
  refine vi_aload_n 65 rfl rfl ?_
  refine vi_iload_n 66 rfl rfl ?_
  refine vi_iconst 67 rfl ?_
  refine vi_iadd 68 rfl ?_
  refine vi_xald 69 rfl rfl ⟨by omega, by omega, by omega⟩ ?_
  rw [e3]
  refine vi_aload_n 70 rfl rfl ?_
  refine vi_iload_n 71 rfl rfl ?_
  refine vi_iconst 72 rfl ?_
  refine vi_iadd 73 rfl ?_
  refine vi_xald 74 rfl rfl ⟨by omega, by omega, by omega⟩ ?_
  rw [e4]
  refine vi_aload_n 75 rfl rfl ?_
  refine vi_iload_n 76 rfl rfl ?_
  refine vi_iconst 77 rfl ?_
  refine vi_iadd 78 rfl ?_
  refine vi_xald 79 rfl rfl ⟨by omega, by omega, by omega⟩ ?_
  rw [e5]
  refine vi_aload_n 80 rfl rfl ?_
  refine vi_iload_n 81 rfl rfl ?_
  refine vi_bipush 82 rfl (by decide) ?_
  refine vi_iadd 83 rfl ?_
  refine vi_xald 84 rfl rfl ⟨by omega, by omega, by omega⟩ ?_
  rw [e6]
  refine vi_V6 85 ok_X12_month rfl c_L_17 zf rfl rfl ?_
  refine zk _ (fun w3 zI3 => ?_)
  exact vi_icmp_sm 86 rfl (vi_lc (zN w3 zI3) ⟨rfl, rfl, rfl, rfl, trivial⟩)
set_option maxRecDepth 20000 in
theorem op_change (zI : wb_I w i) (z0 : 0 ≤ i ∧ i ≤ 1000) (zL : i + 7 ≤ (wb_xL G 0 : Int)) (zN : ∀ w', wb_I w' (i + 7) → wb_V G M_L_law 1090 [(0, .ref 0), (1, .ref 3), (2, .ref 96), (3, .int (wb_i i))] [] 108 w' 105 157739 Q) : wb_V G M_L_law 243 [(0, .ref 0), (1, .ref 3), (2, .ref 96), (3, .int (wb_i i))] [] 108 w 105 157739 Q := by
  obtain ⟨a1, e1, r1⟩ := wb_sc (G := G) (i + 1).toNat
  obtain ⟨a2, e2, r2⟩ := wb_sc (G := G) (i + 2).toNat
  obtain ⟨a3, e3, r3⟩ := wb_sc (G := G) (i + 3).toNat
  have zx := zI.x3
  refine vi_aload_n 89 rfl rfl ?_
  refine vi_aload_n 90 rfl rfl ?_
  refine vi_iload_n 91 rfl rfl ?_
  refine vi_iconst 92 rfl ?_
  refine vi_iadd 93 rfl ?_
  refine vi_xald 94 rfl rfl ⟨by omega, by omega, by omega⟩ ?_
  rw [e1]
  refine vi_aload_n 95 rfl rfl ?_
  refine vi_iload_n 96 rfl rfl ?_
  refine vi_iconst 97 rfl ?_
  refine vi_iadd 98 rfl ?_
  refine vi_xald 99 rfl rfl ⟨by omega, by omega, by omega⟩ ?_
  rw [e2]
  refine vi_aload_n 100 rfl rfl ?_
  refine vi_iload_n 101 rfl rfl ?_
  refine vi_iconst 102 rfl ?_
  refine vi_iadd 103 rfl ?_
  refine vi_xald 104 rfl rfl ⟨by omega, by omega, by omega⟩ ?_
  rw [e3]
  refine vi_V3 105 ok_X11_change rfl c_L_18 zx rfl rfl ?_
  refine st_change zI (by omega) r1 r2 r3 (fun w2 r zf zk => ?_)
  obtain ⟨zfs, zf⟩ := zf
  refine vi_aload_n 106 rfl rfl ?_
  refine vi_aload_n 107 rfl rfl ?_
  refine vi_iload_n 108 rfl rfl ?_
  refine vi_iconst 109 rfl ?_
  refine vi_iadd 110 rfl ?_
  refine vi_xald 111 rfl rfl ⟨by omega, by omega, by omega⟩ ?_
  rw [e1]
  refine vi_aload_n 112 rfl rfl ?_
  refine vi_iload_n 113 rfl rfl ?_
  refine vi_iconst 114 rfl ?_
  refine vi_iadd 115 rfl ?_
  refine vi_xald 116 rfl rfl ⟨by omega, by omega, by omega⟩ ?_
  rw [e2]
  refine vi_aload_n 117 rfl rfl ?_
  refine vi_iload_n 118 rfl rfl ?_
  refine vi_iconst 119 rfl ?_
  refine vi_iadd 120 rfl ?_
  refine vi_xald 121 rfl rfl ⟨by omega, by omega, by omega⟩ ?_
  rw [e3]
  refine vi_V3 122 ok_X12_change rfl c_L_22 zf rfl rfl ?_
  refine zk _ (fun w3 zI3 => ?_)
  exact vi_icmp_sm 123 rfl (vi_lc (zN w3 zI3) ⟨rfl, rfl, rfl, rfl, trivial⟩)
set_option maxRecDepth 20000 in
theorem op_about (zI : wb_I w i) (z0 : 0 ≤ i ∧ i ≤ 1000) (zL : i + 7 ≤ (wb_xL G 0 : Int)) (zN : ∀ w', wb_I w' (i + 7) → wb_V G M_L_law 1090 [(0, .ref 0), (1, .ref 3), (2, .ref 96), (3, .int (wb_i i))] [] 108 w' 105 157739 Q) : wb_V G M_L_law 286 [(0, .ref 0), (1, .ref 3), (2, .ref 96), (3, .int (wb_i i))] [] 108 w 105 157739 Q := by
  obtain ⟨a1, e1, r1⟩ := wb_sc (G := G) (i + 1).toNat
  obtain ⟨a2, e2, r2⟩ := wb_sc (G := G) (i + 2).toNat
  have zx := zI.x3
  refine vi_aload_n 126 rfl rfl ?_
  refine vi_aload_n 127 rfl rfl ?_
  refine vi_iload_n 128 rfl rfl ?_
  refine vi_iconst 129 rfl ?_
  refine vi_iadd 130 rfl ?_
  refine vi_xald 131 rfl rfl ⟨by omega, by omega, by omega⟩ ?_
  rw [e1]
  refine vi_aload_n 132 rfl rfl ?_
  refine vi_iload_n 133 rfl rfl ?_
  refine vi_iconst 134 rfl ?_
  refine vi_iadd 135 rfl ?_
  refine vi_xald 136 rfl rfl ⟨by omega, by omega, by omega⟩ ?_
  rw [e2]
  refine vi_V2 137 ok_X11_about rfl c_L_23 zx rfl rfl ?_
  refine st_about zI (by omega) r1 r2 (fun w2 r zf zk => ?_)
  obtain ⟨zfs, zf⟩ := zf
  refine vi_aload_n 138 rfl rfl ?_
  refine vi_aload_n 139 rfl rfl ?_
  refine vi_iload_n 140 rfl rfl ?_
  refine vi_iconst 141 rfl ?_
  refine vi_iadd 142 rfl ?_
  refine vi_xald 143 rfl rfl ⟨by omega, by omega, by omega⟩ ?_
  rw [e1]
  refine vi_aload_n 144 rfl rfl ?_
  refine vi_iload_n 145 rfl rfl ?_
  refine vi_iconst 146 rfl ?_
  refine vi_iadd 147 rfl ?_
  refine vi_xald 148 rfl rfl ⟨by omega, by omega, by omega⟩ ?_
  rw [e2]
  refine vi_V2 149 ok_X12_about rfl c_L_27 zf rfl rfl ?_
  refine zk _ (fun w3 zI3 => ?_)
  exact vi_icmp_sm 150 rfl (vi_lc (zN w3 zI3) ⟨rfl, rfl, rfl, rfl, trivial⟩)
set_option maxRecDepth 20000 in
theorem op_tear (zI : wb_I w i) (z0 : 0 ≤ i ∧ i ≤ 1000) (zL : i + 7 ≤ (wb_xL G 0 : Int)) (zN : ∀ w', wb_I w' (i + 7) → wb_V G M_L_law 1090 [(0, .ref 0), (1, .ref 3), (2, .ref 96), (3, .int (wb_i i))] [] 108 w' 105 157739 Q) : wb_V G M_L_law 319 [(0, .ref 0), (1, .ref 3), (2, .ref 96), (3, .int (wb_i i))] [] 108 w 105 157739 Q := by
  have zx := zI.x3
  refine vi_aload_n 153 rfl rfl ?_
  refine vi_V0 154 ok_X11_tear rfl c_L_28 zx rfl rfl ?_
  refine st_tear zI (by omega)  (fun w2 r zf zk => ?_)
  obtain ⟨zfs, zf⟩ := zf
  refine vi_aload_n 155 rfl rfl ?_
  refine vi_V0 156 ok_X12_tear rfl c_L_32 zf rfl rfl ?_
  refine zk _ (fun w3 zI3 => ?_)
  exact vi_icmp_sm 157 rfl (vi_lc (zN w3 zI3) ⟨rfl, rfl, rfl, rfl, trivial⟩)
set_option maxRecDepth 20000 in
theorem op_stock (zI : wb_I w i) (z0 : 0 ≤ i ∧ i ≤ 1000) (zL : i + 7 ≤ (wb_xL G 0 : Int)) (zN : ∀ w', wb_I w' (i + 7) → wb_V G M_L_law 1090 [(0, .ref 0), (1, .ref 3), (2, .ref 96), (3, .int (wb_i i))] [] 108 w' 105 157739 Q) : wb_V G M_L_law 332 [(0, .ref 0), (1, .ref 3), (2, .ref 96), (3, .int (wb_i i))] [] 108 w 105 157739 Q := by
  obtain ⟨a1, e1, r1⟩ := wb_sc (G := G) (i + 1).toNat
  obtain ⟨a2, e2, r2⟩ := wb_sc (G := G) (i + 2).toNat
  obtain ⟨a3, e3, r3⟩ := wb_sc (G := G) (i + 3).toNat
  have zx := zI.x3
  refine vi_aload_n 160 rfl rfl ?_
  refine vi_aload_n 161 rfl rfl ?_
  refine vi_iload_n 162 rfl rfl ?_
  refine vi_iconst 163 rfl ?_
  refine vi_iadd 164 rfl ?_
  refine vi_xald 165 rfl rfl ⟨by omega, by omega, by omega⟩ ?_
  rw [e1]
  refine vi_aload_n 166 rfl rfl ?_
  refine vi_iload_n 167 rfl rfl ?_
  refine vi_iconst 168 rfl ?_
  refine vi_iadd 169 rfl ?_
  refine vi_xald 170 rfl rfl ⟨by omega, by omega, by omega⟩ ?_
  rw [e2]
  refine vi_aload_n 171 rfl rfl ?_
  refine vi_iload_n 172 rfl rfl ?_
  refine vi_iconst 173 rfl ?_
  refine vi_iadd 174 rfl ?_
  refine vi_xald 175 rfl rfl ⟨by omega, by omega, by omega⟩ ?_
  rw [e3]
  refine vi_V3 176 ok_X11_stock rfl c_L_33 zx rfl rfl ?_
  refine st_stock zI (by omega) r1 r2 r3 (fun w2 r zf zk => ?_)
  obtain ⟨zfs, zf⟩ := zf
  refine vi_aload_n 177 rfl rfl ?_
  refine vi_aload_n 178 rfl rfl ?_
  refine vi_iload_n 179 rfl rfl ?_
  refine vi_iconst 180 rfl ?_
  refine vi_iadd 181 rfl ?_
  refine vi_xald 182 rfl rfl ⟨by omega, by omega, by omega⟩ ?_
  rw [e1]
  refine vi_aload_n 183 rfl rfl ?_
  refine vi_iload_n 184 rfl rfl ?_
  refine vi_iconst 185 rfl ?_
  refine vi_iadd 186 rfl ?_
  refine vi_xald 187 rfl rfl ⟨by omega, by omega, by omega⟩ ?_
  rw [e2]
  refine vi_aload_n 188 rfl rfl ?_
  refine vi_iload_n 189 rfl rfl ?_
  refine vi_iconst 190 rfl ?_
  refine vi_iadd 191 rfl ?_
  refine vi_xald 192 rfl rfl ⟨by omega, by omega, by omega⟩ ?_
  rw [e3]
  refine vi_V3 193 ok_X12_stock rfl c_L_36 zf rfl rfl ?_
  refine zk _ (fun w3 zI3 => ?_)
  exact vi_icmp_sm 194 rfl (vi_lc (zN w3 zI3) ⟨rfl, rfl, rfl, rfl, trivial⟩)
set_option maxRecDepth 20000 in
theorem op_stand (zI : wb_I w i) (z0 : 0 ≤ i ∧ i ≤ 1000) (zL : i + 7 ≤ (wb_xL G 0 : Int)) (zN : ∀ w', wb_I w' (i + 7) → wb_V G M_L_law 1090 [(0, .ref 0), (1, .ref 3), (2, .ref 96), (3, .int (wb_i i))] [] 108 w' 105 157739 Q) : wb_V G M_L_law 375 [(0, .ref 0), (1, .ref 3), (2, .ref 96), (3, .int (wb_i i))] [] 108 w 105 157739 Q := by
  obtain ⟨a1, e1, r1⟩ := wb_sc (G := G) (i + 1).toNat
  obtain ⟨a2, e2, r2⟩ := wb_sc (G := G) (i + 2).toNat
  have zx := zI.x3
  refine vi_aload_n 197 rfl rfl ?_
  refine vi_aload_n 198 rfl rfl ?_
  refine vi_iload_n 199 rfl rfl ?_
  refine vi_iconst 200 rfl ?_
  refine vi_iadd 201 rfl ?_
  refine vi_xald 202 rfl rfl ⟨by omega, by omega, by omega⟩ ?_
  rw [e1]
  refine vi_aload_n 203 rfl rfl ?_
  refine vi_iload_n 204 rfl rfl ?_
  refine vi_iconst 205 rfl ?_
  refine vi_iadd 206 rfl ?_
  refine vi_xald 207 rfl rfl ⟨by omega, by omega, by omega⟩ ?_
  rw [e2]
  refine vi_V2 208 ok_X11_stand rfl c_L_37 zx rfl rfl ?_
  refine st_stand zI (by omega) r1 r2 (fun w2 r zf zk => ?_)
  obtain ⟨zfs, zf⟩ := zf
  refine vi_aload_n 209 rfl rfl ?_
  refine vi_aload_n 210 rfl rfl ?_
  refine vi_iload_n 211 rfl rfl ?_
  refine vi_iconst 212 rfl ?_
  refine vi_iadd 213 rfl ?_
  refine vi_xald 214 rfl rfl ⟨by omega, by omega, by omega⟩ ?_
  rw [e1]
  refine vi_aload_n 215 rfl rfl ?_
  refine vi_iload_n 216 rfl rfl ?_
  refine vi_iconst 217 rfl ?_
  refine vi_iadd 218 rfl ?_
  refine vi_xald 219 rfl rfl ⟨by omega, by omega, by omega⟩ ?_
  rw [e2]
  refine vi_V2 220 ok_X12_stand rfl c_L_40 zf rfl rfl ?_
  refine zk _ (fun w3 zI3 => ?_)
  exact vi_icmp_sm 221 rfl (vi_lc (zN w3 zI3) ⟨rfl, rfl, rfl, rfl, trivial⟩)
set_option maxRecDepth 20000 in
theorem op_say (zI : wb_I w i) (z0 : 0 ≤ i ∧ i ≤ 1000) (zL : i + 7 ≤ (wb_xL G 0 : Int)) (zN : ∀ w', wb_I w' (i + 7) → wb_V G M_L_law 1090 [(0, .ref 0), (1, .ref 3), (2, .ref 96), (3, .int (wb_i i))] [] 108 w' 105 157739 Q) : wb_V G M_L_law 408 [(0, .ref 0), (1, .ref 3), (2, .ref 96), (3, .int (wb_i i))] [] 108 w 105 157739 Q := by
  obtain ⟨a1, e1, r1⟩ := wb_sc (G := G) (i + 1).toNat
  have zx := zI.x3
  refine vi_aload_n 224 rfl rfl ?_
  refine vi_aload_n 225 rfl rfl ?_
  refine vi_iload_n 226 rfl rfl ?_
  refine vi_iconst 227 rfl ?_
  refine vi_iadd 228 rfl ?_
  refine vi_xald 229 rfl rfl ⟨by omega, by omega, by omega⟩ ?_
  rw [e1]
  refine vi_V1 230 ok_X11_say rfl c_L_41 zx rfl rfl ?_
  refine st_say zI (by omega) r1 (fun w2 r zf zk => ?_)
  obtain ⟨zfs, zf⟩ := zf
  refine vi_aload_n 231 rfl rfl ?_
  refine vi_aload_n 232 rfl rfl ?_
  refine vi_iload_n 233 rfl rfl ?_
  refine vi_iconst 234 rfl ?_
  refine vi_iadd 235 rfl ?_
  refine vi_xald 236 rfl rfl ⟨by omega, by omega, by omega⟩ ?_
  rw [e1]
  refine vi_V1 237 ok_X12_say rfl c_L_45 zf rfl rfl ?_
  refine zk _ (fun w3 zI3 => ?_)
  exact vi_icmp_sm 238 rfl (vi_lc (zN w3 zI3) ⟨rfl, rfl, rfl, rfl, trivial⟩)
set_option maxRecDepth 20000 in
theorem op_wipe (zI : wb_I w i) (z0 : 0 ≤ i ∧ i ≤ 1000) (zL : i + 7 ≤ (wb_xL G 0 : Int)) (zN : ∀ w', wb_I w' (i + 7) → wb_V G M_L_law 1090 [(0, .ref 0), (1, .ref 3), (2, .ref 96), (3, .int (wb_i i))] [] 108 w' 105 157739 Q) : wb_V G M_L_law 431 [(0, .ref 0), (1, .ref 3), (2, .ref 96), (3, .int (wb_i i))] [] 108 w 105 157739 Q := by
  have zx := zI.x3
  refine vi_aload_n 241 rfl rfl ?_
  refine vi_V0 242 ok_X11_wipe rfl c_L_46 zx rfl rfl ?_
  refine st_wipe zI (by omega)  (fun w2 r zf zk => ?_)
  obtain ⟨zfs, zf⟩ := zf
  refine vi_aload_n 243 rfl rfl ?_
  refine vi_V0 244 ok_X12_wipe rfl c_L_49 zf rfl rfl ?_
  refine zk _ (fun w3 zI3 => ?_)
  exact vi_icmp_sm 245 rfl (vi_lc (zN w3 zI3) ⟨rfl, rfl, rfl, rfl, trivial⟩)
set_option maxRecDepth 20000 in
theorem op_fault (zI : wb_I w i) (z0 : 0 ≤ i ∧ i ≤ 1000) (zL : i + 7 ≤ (wb_xL G 0 : Int)) (zN : ∀ w', wb_I w' (i + 7) → wb_V G M_L_law 1090 [(0, .ref 0), (1, .ref 3), (2, .ref 96), (3, .int (wb_i i))] [] 108 w' 105 157739 Q) : wb_V G M_L_law 444 [(0, .ref 0), (1, .ref 3), (2, .ref 96), (3, .int (wb_i i))] [] 108 w 105 157739 Q := by
  have zx := zI.x3
  refine vi_aload_n 248 rfl rfl ?_
  refine vi_V0 249 ok_X11_fault rfl c_L_50 zx rfl rfl ?_
  refine st_fault zI (by omega)  (fun w2 r zf zk => ?_)
  obtain ⟨zfs, zf⟩ := zf
  refine vi_aload_n 250 rfl rfl ?_
  refine vi_V0 251 ok_X12_fault rfl c_L_53 zf rfl rfl ?_
  refine zk _ (fun w3 zI3 => ?_)
  exact vi_icmp_sm 252 rfl (vi_lc (zN w3 zI3) ⟨rfl, rfl, rfl, rfl, trivial⟩)
set_option maxRecDepth 20000 in
theorem op_rule (zI : wb_I w i) (z0 : 0 ≤ i ∧ i ≤ 1000) (zL : i + 7 ≤ (wb_xL G 0 : Int)) (zN : ∀ w', wb_I w' (i + 7) → wb_V G M_L_law 1090 [(0, .ref 0), (1, .ref 3), (2, .ref 96), (3, .int (wb_i i))] [] 108 w' 105 157739 Q) : wb_V G M_L_law 457 [(0, .ref 0), (1, .ref 3), (2, .ref 96), (3, .int (wb_i i))] [] 108 w 105 157739 Q := by
  have zx := zI.x3
  refine vi_aload_n 255 rfl rfl ?_
  refine vi_V0 256 ok_X11_rule rfl c_L_54 zx rfl rfl ?_
  refine st_rule zI (by omega)  (fun w2 r zf zk => ?_)
  obtain ⟨zfs, zf⟩ := zf
  refine vi_aload_n 257 rfl rfl ?_
  refine vi_V0 258 ok_X12_rule rfl c_L_57 zf rfl rfl ?_
  refine zk _ (fun w3 zI3 => ?_)
  exact vi_icmp_sm 259 rfl (vi_lc (zN w3 zI3) ⟨rfl, rfl, rfl, rfl, trivial⟩)
set_option maxRecDepth 20000 in
theorem op_free (zI : wb_I w i) (z0 : 0 ≤ i ∧ i ≤ 1000) (zL : i + 7 ≤ (wb_xL G 0 : Int)) (zN : ∀ w', wb_I w' (i + 7) → wb_V G M_L_law 1090 [(0, .ref 0), (1, .ref 3), (2, .ref 96), (3, .int (wb_i i))] [] 108 w' 105 157739 Q) : wb_V G M_L_law 470 [(0, .ref 0), (1, .ref 3), (2, .ref 96), (3, .int (wb_i i))] [] 108 w 105 157739 Q := by
  have zx := zI.x3
  refine vi_aload_n 262 rfl rfl ?_
  refine vi_V0 263 ok_X11_free rfl c_L_58 zx rfl rfl ?_
  refine st_free zI (by omega)  (fun w2 r zf zk => ?_)
  obtain ⟨zfs, zf⟩ := zf
  refine vi_aload_n 264 rfl rfl ?_
  refine vi_V0 265 ok_X12_free rfl c_L_61 zf rfl rfl ?_
  refine zk _ (fun w3 zI3 => ?_)
  exact vi_icmp_sm 266 rfl (vi_lc (zN w3 zI3) ⟨rfl, rfl, rfl, rfl, trivial⟩)
set_option maxRecDepth 20000 in
theorem op_fits (zI : wb_I w i) (z0 : 0 ≤ i ∧ i ≤ 1000) (zL : i + 7 ≤ (wb_xL G 0 : Int)) (zN : ∀ w', wb_I w' (i + 7) → wb_V G M_L_law 1090 [(0, .ref 0), (1, .ref 3), (2, .ref 96), (3, .int (wb_i i))] [] 108 w' 105 157739 Q) : wb_V G M_L_law 483 [(0, .ref 0), (1, .ref 3), (2, .ref 96), (3, .int (wb_i i))] [] 108 w 105 157739 Q := by
  obtain ⟨a1, e1, r1⟩ := wb_sc (G := G) (i + 1).toNat
  obtain ⟨a2, e2, r2⟩ := wb_sc (G := G) (i + 2).toNat
  have zx := zI.x3
  refine vi_aload_n 269 rfl rfl ?_
  refine vi_aload_n 270 rfl rfl ?_
  refine vi_iload_n 271 rfl rfl ?_
  refine vi_iconst 272 rfl ?_
  refine vi_iadd 273 rfl ?_
  refine vi_xald 274 rfl rfl ⟨by omega, by omega, by omega⟩ ?_
  rw [e1]
  refine vi_aload_n 275 rfl rfl ?_
  refine vi_iload_n 276 rfl rfl ?_
  refine vi_iconst 277 rfl ?_
  refine vi_iadd 278 rfl ?_
  refine vi_xald 279 rfl rfl ⟨by omega, by omega, by omega⟩ ?_
  rw [e2]
  refine vi_V2 280 ok_X11_fits rfl c_L_62 zx rfl rfl ?_
  refine st_fits zI (by omega) r1 r2 (fun w2 r zf zk => ?_)
  obtain ⟨zfs, zf⟩ := zf
  refine vi_aload_n 281 rfl rfl ?_
  refine vi_aload_n 282 rfl rfl ?_
  refine vi_iload_n 283 rfl rfl ?_
  refine vi_iconst 284 rfl ?_
  refine vi_iadd 285 rfl ?_
  refine vi_xald 286 rfl rfl ⟨by omega, by omega, by omega⟩ ?_
  rw [e1]
  refine vi_aload_n 287 rfl rfl ?_
  refine vi_iload_n 288 rfl rfl ?_
  refine vi_iconst 289 rfl ?_
  refine vi_iadd 290 rfl ?_
  refine vi_xald 291 rfl rfl ⟨by omega, by omega, by omega⟩ ?_
  rw [e2]
  refine vi_V2 292 ok_X12_fits rfl c_L_65 zf rfl rfl ?_
  refine zk _ (fun w3 zI3 => ?_)
  exact vi_icmp_sm 293 rfl (vi_lc (zN w3 zI3) ⟨rfl, rfl, rfl, rfl, trivial⟩)
set_option maxRecDepth 20000 in
theorem op_needs (zI : wb_I w i) (z0 : 0 ≤ i ∧ i ≤ 1000) (zL : i + 7 ≤ (wb_xL G 0 : Int)) (zN : ∀ w', wb_I w' (i + 7) → wb_V G M_L_law 1090 [(0, .ref 0), (1, .ref 3), (2, .ref 96), (3, .int (wb_i i))] [] 108 w' 105 157739 Q) : wb_V G M_L_law 516 [(0, .ref 0), (1, .ref 3), (2, .ref 96), (3, .int (wb_i i))] [] 108 w 105 157739 Q := by
  obtain ⟨a1, e1, r1⟩ := wb_sc (G := G) (i + 1).toNat
  obtain ⟨a2, e2, r2⟩ := wb_sc (G := G) (i + 2).toNat
  obtain ⟨a3, e3, r3⟩ := wb_sc (G := G) (i + 3).toNat
  have zx := zI.x3
  refine vi_aload_n 296 rfl rfl ?_
  refine vi_aload_n 297 rfl rfl ?_
  refine vi_iload_n 298 rfl rfl ?_
  refine vi_iconst 299 rfl ?_
  refine vi_iadd 300 rfl ?_
  refine vi_xald 301 rfl rfl ⟨by omega, by omega, by omega⟩ ?_
  rw [e1]
  refine vi_aload_n 302 rfl rfl ?_
  refine vi_iload_n 303 rfl rfl ?_
  refine vi_iconst 304 rfl ?_
  refine vi_iadd 305 rfl ?_
  refine vi_xald 306 rfl rfl ⟨by omega, by omega, by omega⟩ ?_
  rw [e2]
  refine vi_aload_n 307 rfl rfl ?_
  refine vi_iload_n 308 rfl rfl ?_
  refine vi_iconst 309 rfl ?_
  refine vi_iadd 310 rfl ?_
  refine vi_xald 311 rfl rfl ⟨by omega, by omega, by omega⟩ ?_
  rw [e3]
  refine vi_V3 312 ok_X11_needs rfl c_L_66 zx rfl rfl ?_
  refine st_needs zI (by omega) r1 r2 r3 (fun w2 r zf zk => ?_)
  obtain ⟨zfs, zf⟩ := zf
  refine vi_aload_n 313 rfl rfl ?_
  refine vi_aload_n 314 rfl rfl ?_
  refine vi_iload_n 315 rfl rfl ?_
  refine vi_iconst 316 rfl ?_
  refine vi_iadd 317 rfl ?_
  refine vi_xald 318 rfl rfl ⟨by omega, by omega, by omega⟩ ?_
  rw [e1]
  refine vi_aload_n 319 rfl rfl ?_
  refine vi_iload_n 320 rfl rfl ?_
  refine vi_iconst 321 rfl ?_
  refine vi_iadd 322 rfl ?_
  refine vi_xald 323 rfl rfl ⟨by omega, by omega, by omega⟩ ?_
  rw [e2]
  refine vi_aload_n 324 rfl rfl ?_
  refine vi_iload_n 325 rfl rfl ?_
  refine vi_iconst 326 rfl ?_
  refine vi_iadd 327 rfl ?_
  refine vi_xald 328 rfl rfl ⟨by omega, by omega, by omega⟩ ?_
  rw [e3]
  refine vi_V3 329 ok_X12_needs rfl c_L_69 zf rfl rfl ?_
  refine zk _ (fun w3 zI3 => ?_)
  exact vi_icmp_sm 330 rfl (vi_lc (zN w3 zI3) ⟨rfl, rfl, rfl, rfl, trivial⟩)
set_option maxRecDepth 20000 in
theorem op_judge (zI : wb_I w i) (z0 : 0 ≤ i ∧ i ≤ 1000) (zL : i + 7 ≤ (wb_xL G 0 : Int)) (zN : ∀ w', wb_I w' (i + 7) → wb_V G M_L_law 1090 [(0, .ref 0), (1, .ref 3), (2, .ref 96), (3, .int (wb_i i))] [] 108 w' 105 157739 Q) : wb_V G M_L_law 559 [(0, .ref 0), (1, .ref 3), (2, .ref 96), (3, .int (wb_i i))] [] 108 w 105 157739 Q := by
  obtain ⟨a1, e1, r1⟩ := wb_sc (G := G) (i + 1).toNat
  obtain ⟨a2, e2, r2⟩ := wb_sc (G := G) (i + 2).toNat
  have zx := zI.x3
  refine vi_aload_n 333 rfl rfl ?_
  refine vi_aload_n 334 rfl rfl ?_
  refine vi_iload_n 335 rfl rfl ?_
  refine vi_iconst 336 rfl ?_
  refine vi_iadd 337 rfl ?_
  refine vi_xald 338 rfl rfl ⟨by omega, by omega, by omega⟩ ?_
  rw [e1]
  refine vi_aload_n 339 rfl rfl ?_
  refine vi_iload_n 340 rfl rfl ?_
  refine vi_iconst 341 rfl ?_
  refine vi_iadd 342 rfl ?_
  refine vi_xald 343 rfl rfl ⟨by omega, by omega, by omega⟩ ?_
  rw [e2]
  refine vi_V2 344 ok_X11_judge rfl c_L_70 zx rfl rfl ?_
  refine st_judge zI (by omega) r1 r2 (fun w2 r zf zk => ?_)
  obtain ⟨zfs, zf⟩ := zf
  refine vi_aload_n 345 rfl rfl ?_
  refine vi_aload_n 346 rfl rfl ?_
  refine vi_iload_n 347 rfl rfl ?_
  refine vi_iconst 348 rfl ?_
  refine vi_iadd 349 rfl ?_
  refine vi_xald 350 rfl rfl ⟨by omega, by omega, by omega⟩ ?_
  rw [e1]
  refine vi_aload_n 351 rfl rfl ?_
  refine vi_iload_n 352 rfl rfl ?_
  refine vi_iconst 353 rfl ?_
  refine vi_iadd 354 rfl ?_
  refine vi_xald 355 rfl rfl ⟨by omega, by omega, by omega⟩ ?_
  rw [e2]
  refine vi_V2 356 ok_X12_judge rfl c_L_73 zf rfl rfl ?_
  refine zk _ (fun w3 zI3 => ?_)
  exact vi_icmp_sm 357 rfl (vi_lc (zN w3 zI3) ⟨rfl, rfl, rfl, rfl, trivial⟩)
set_option maxRecDepth 20000 in
theorem op_lies (zI : wb_I w i) (z0 : 0 ≤ i ∧ i ≤ 1000) (zL : i + 7 ≤ (wb_xL G 0 : Int)) (zN : ∀ w', wb_I w' (i + 7) → wb_V G M_L_law 1090 [(0, .ref 0), (1, .ref 3), (2, .ref 96), (3, .int (wb_i i))] [] 108 w' 105 157739 Q) : wb_V G M_L_law 592 [(0, .ref 0), (1, .ref 3), (2, .ref 96), (3, .int (wb_i i))] [] 108 w 105 157739 Q := by
  obtain ⟨a1, e1, r1⟩ := wb_sc (G := G) (i + 1).toNat
  obtain ⟨a2, e2, r2⟩ := wb_sc (G := G) (i + 2).toNat
  obtain ⟨a3, e3, r3⟩ := wb_sc (G := G) (i + 3).toNat
  obtain ⟨a4, e4, r4⟩ := wb_sc (G := G) (i + 4).toNat
  have zx := zI.x3
  refine vi_aload_n 360 rfl rfl ?_
  refine vi_aload_n 361 rfl rfl ?_
  refine vi_iload_n 362 rfl rfl ?_
  refine vi_iconst 363 rfl ?_
  refine vi_iadd 364 rfl ?_
  refine vi_xald 365 rfl rfl ⟨by omega, by omega, by omega⟩ ?_
  rw [e1]
  refine vi_aload_n 366 rfl rfl ?_
  refine vi_iload_n 367 rfl rfl ?_
  refine vi_iconst 368 rfl ?_
  refine vi_iadd 369 rfl ?_
  refine vi_xald 370 rfl rfl ⟨by omega, by omega, by omega⟩ ?_
  rw [e2]
  refine vi_aload_n 371 rfl rfl ?_
  refine vi_iload_n 372 rfl rfl ?_
  refine vi_iconst 373 rfl ?_
  refine vi_iadd 374 rfl ?_
  refine vi_xald 375 rfl rfl ⟨by omega, by omega, by omega⟩ ?_
  rw [e3]
  refine vi_aload_n 376 rfl rfl ?_
  refine vi_iload_n 377 rfl rfl ?_
  refine vi_iconst 378 rfl ?_
  refine vi_iadd 379 rfl ?_
  refine vi_xald 380 rfl rfl ⟨by omega, by omega, by omega⟩ ?_
  rw [e4]
  refine vi_V4 381 ok_X11_lies rfl c_L_74 zx rfl rfl ?_
  refine st_lies zI (by omega) r1 r2 r3 r4 (fun w2 r zf zk => ?_)
  obtain ⟨zfs, zf⟩ := zf
  refine vi_aload_n 382 rfl rfl ?_
  refine vi_aload_n 383 rfl rfl ?_
  refine vi_iload_n 384 rfl rfl ?_
  refine vi_iconst 385 rfl ?_
  refine vi_iadd 386 rfl ?_
  refine vi_xald 387 rfl rfl ⟨by omega, by omega, by omega⟩ ?_
  rw [e1]
  refine vi_aload_n 388 rfl rfl ?_
  refine vi_iload_n 389 rfl rfl ?_
  refine vi_iconst 390 rfl ?_
  refine vi_iadd 391 rfl ?_
  refine vi_xald 392 rfl rfl ⟨by omega, by omega, by omega⟩ ?_
  rw [e2]
  refine vi_aload_n 393 rfl rfl ?_
  refine vi_iload_n 394 rfl rfl ?_
  refine vi_iconst 395 rfl ?_
  refine vi_iadd 396 rfl ?_
  refine vi_xald 397 rfl rfl ⟨by omega, by omega, by omega⟩ ?_
  rw [e3]
  refine vi_aload_n 398 rfl rfl ?_
  refine vi_iload_n 399 rfl rfl ?_
  refine vi_iconst 400 rfl ?_
  refine vi_iadd 401 rfl ?_
  refine vi_xald 402 rfl rfl ⟨by omega, by omega, by omega⟩ ?_
  rw [e4]
  refine vi_V4 403 ok_X12_lies rfl c_L_78 zf rfl rfl ?_
  refine zk _ (fun w3 zI3 => ?_)
  exact vi_icmp_sm 404 rfl (vi_lc (zN w3 zI3) ⟨rfl, rfl, rfl, rfl, trivial⟩)
set_option maxRecDepth 20000 in
theorem op_all (zI : wb_I w i) (z0 : 0 ≤ i ∧ i ≤ 1000) (zL : i + 7 ≤ (wb_xL G 0 : Int)) (zN : ∀ w', wb_I w' (i + 7) → wb_V G M_L_law 1090 [(0, .ref 0), (1, .ref 3), (2, .ref 96), (3, .int (wb_i i))] [] 108 w' 105 157739 Q) : wb_V G M_L_law 645 [(0, .ref 0), (1, .ref 3), (2, .ref 96), (3, .int (wb_i i))] [] 108 w 105 157739 Q := by
  obtain ⟨a1, e1, r1⟩ := wb_sc (G := G) (i + 1).toNat
  have zx := zI.x3
  refine vi_aload_n 407 rfl rfl ?_
  refine vi_aload_n 408 rfl rfl ?_
  refine vi_iload_n 409 rfl rfl ?_
  refine vi_iconst 410 rfl ?_
  refine vi_iadd 411 rfl ?_
  refine vi_xald 412 rfl rfl ⟨by omega, by omega, by omega⟩ ?_
  rw [e1]
  refine vi_V1 413 ok_X11_all rfl c_L_79 zx rfl rfl ?_
  refine st_all zI (by omega) r1 (fun w2 r zf zk => ?_)
  obtain ⟨zfs, zf⟩ := zf
  refine vi_aload_n 414 rfl rfl ?_
  refine vi_aload_n 415 rfl rfl ?_
  refine vi_iload_n 416 rfl rfl ?_
  refine vi_iconst 417 rfl ?_
  refine vi_iadd 418 rfl ?_
  refine vi_xald 419 rfl rfl ⟨by omega, by omega, by omega⟩ ?_
  rw [e1]
  refine vi_V1 420 ok_X12_all rfl c_L_82 zf rfl rfl ?_
  refine zk _ (fun w3 zI3 => ?_)
  exact vi_icmp_sm 421 rfl (vi_lc (zN w3 zI3) ⟨rfl, rfl, rfl, rfl, trivial⟩)
set_option maxRecDepth 20000 in
theorem op_ends (zI : wb_I w i) (z0 : 0 ≤ i ∧ i ≤ 1000) (zL : i + 7 ≤ (wb_xL G 0 : Int)) (zN : ∀ w', wb_I w' (i + 7) → wb_V G M_L_law 1090 [(0, .ref 0), (1, .ref 3), (2, .ref 96), (3, .int (wb_i i))] [] 108 w' 105 157739 Q) : wb_V G M_L_law 668 [(0, .ref 0), (1, .ref 3), (2, .ref 96), (3, .int (wb_i i))] [] 108 w 105 157739 Q := by
  obtain ⟨a1, e1, r1⟩ := wb_sc (G := G) (i + 1).toNat
  obtain ⟨a2, e2, r2⟩ := wb_sc (G := G) (i + 2).toNat
  obtain ⟨a3, e3, r3⟩ := wb_sc (G := G) (i + 3).toNat
  have zx := zI.x3
  refine vi_aload_n 424 rfl rfl ?_
  refine vi_aload_n 425 rfl rfl ?_
  refine vi_iload_n 426 rfl rfl ?_
  refine vi_iconst 427 rfl ?_
  refine vi_iadd 428 rfl ?_
  refine vi_xald 429 rfl rfl ⟨by omega, by omega, by omega⟩ ?_
  rw [e1]
  refine vi_aload_n 430 rfl rfl ?_
  refine vi_iload_n 431 rfl rfl ?_
  refine vi_iconst 432 rfl ?_
  refine vi_iadd 433 rfl ?_
  refine vi_xald 434 rfl rfl ⟨by omega, by omega, by omega⟩ ?_
  rw [e2]
  refine vi_aload_n 435 rfl rfl ?_
  refine vi_iload_n 436 rfl rfl ?_
  refine vi_iconst 437 rfl ?_
  refine vi_iadd 438 rfl ?_
  refine vi_xald 439 rfl rfl ⟨by omega, by omega, by omega⟩ ?_
  rw [e3]
  refine vi_V3 440 ok_X11_ends rfl c_L_83 zx rfl rfl ?_
  refine st_ends zI (by omega) r1 r2 r3 (fun w2 r zf zk => ?_)
  obtain ⟨zfs, zf⟩ := zf
  refine vi_aload_n 441 rfl rfl ?_
  refine vi_aload_n 442 rfl rfl ?_
  refine vi_iload_n 443 rfl rfl ?_
  refine vi_iconst 444 rfl ?_
  refine vi_iadd 445 rfl ?_
  refine vi_xald 446 rfl rfl ⟨by omega, by omega, by omega⟩ ?_
  rw [e1]
  refine vi_aload_n 447 rfl rfl ?_
  refine vi_iload_n 448 rfl rfl ?_
  refine vi_iconst 449 rfl ?_
  refine vi_iadd 450 rfl ?_
  refine vi_xald 451 rfl rfl ⟨by omega, by omega, by omega⟩ ?_
  rw [e2]
  refine vi_aload_n 452 rfl rfl ?_
  refine vi_iload_n 453 rfl rfl ?_
  refine vi_iconst 454 rfl ?_
  refine vi_iadd 455 rfl ?_
  refine vi_xald 456 rfl rfl ⟨by omega, by omega, by omega⟩ ?_
  rw [e3]
  refine vi_V3 457 ok_X12_ends rfl c_L_86 zf rfl rfl ?_
  refine zk _ (fun w3 zI3 => ?_)
  exact vi_icmp_sm 458 rfl (vi_lc (zN w3 zI3) ⟨rfl, rfl, rfl, rfl, trivial⟩)
set_option maxRecDepth 20000 in
theorem op_must (zI : wb_I w i) (z0 : 0 ≤ i ∧ i ≤ 1000) (zL : i + 7 ≤ (wb_xL G 0 : Int)) (zN : ∀ w', wb_I w' (i + 7) → wb_V G M_L_law 1090 [(0, .ref 0), (1, .ref 3), (2, .ref 96), (3, .int (wb_i i))] [] 108 w' 105 157739 Q) : wb_V G M_L_law 711 [(0, .ref 0), (1, .ref 3), (2, .ref 96), (3, .int (wb_i i))] [] 108 w 105 157739 Q := by
  obtain ⟨a1, e1, r1⟩ := wb_sc (G := G) (i + 1).toNat
  have zx := zI.x3
  refine vi_aload_n 461 rfl rfl ?_
  refine vi_aload_n 462 rfl rfl ?_
  refine vi_iload_n 463 rfl rfl ?_
  refine vi_iconst 464 rfl ?_
  refine vi_iadd 465 rfl ?_
  refine vi_xald 466 rfl rfl ⟨by omega, by omega, by omega⟩ ?_
  rw [e1]
  refine vi_V1 467 ok_X11_must rfl c_L_87 zx rfl rfl ?_
  refine st_must zI (by omega) r1 (fun w2 r zf zk => ?_)
  obtain ⟨zfs, zf⟩ := zf
  refine vi_aload_n 468 rfl rfl ?_
  refine vi_aload_n 469 rfl rfl ?_
  refine vi_iload_n 470 rfl rfl ?_
  refine vi_iconst 471 rfl ?_
  refine vi_iadd 472 rfl ?_
  refine vi_xald 473 rfl rfl ⟨by omega, by omega, by omega⟩ ?_
  rw [e1]
  refine vi_V1 474 ok_X12_must rfl c_L_90 zf rfl rfl ?_
  refine zk _ (fun w3 zI3 => ?_)
  exact vi_icmp_sm 475 rfl (vi_lc (zN w3 zI3) ⟨rfl, rfl, rfl, rfl, trivial⟩)
set_option maxRecDepth 20000 in
theorem op_plain (zI : wb_I w i) (z0 : 0 ≤ i ∧ i ≤ 1000) (zL : i + 7 ≤ (wb_xL G 0 : Int)) (zN : ∀ w', wb_I w' (i + 7) → wb_V G M_L_law 1090 [(0, .ref 0), (1, .ref 3), (2, .ref 96), (3, .int (wb_i i))] [] 108 w' 105 157739 Q) : wb_V G M_L_law 734 [(0, .ref 0), (1, .ref 3), (2, .ref 96), (3, .int (wb_i i))] [] 108 w 105 157739 Q := by
  obtain ⟨a1, e1, r1⟩ := wb_sc (G := G) (i + 1).toNat
  have zx := zI.x3
  refine vi_aload_n 478 rfl rfl ?_
  refine vi_aload_n 479 rfl rfl ?_
  refine vi_iload_n 480 rfl rfl ?_
  refine vi_iconst 481 rfl ?_
  refine vi_iadd 482 rfl ?_
  refine vi_xald 483 rfl rfl ⟨by omega, by omega, by omega⟩ ?_
  rw [e1]
  refine vi_V1 484 ok_X11_plain rfl c_L_91 zx rfl rfl ?_
  refine st_plain zI (by omega) r1 (fun w2 r zf zk => ?_)
  obtain ⟨zfs, zf⟩ := zf
  refine vi_aload_n 485 rfl rfl ?_
  refine vi_aload_n 486 rfl rfl ?_
  refine vi_iload_n 487 rfl rfl ?_
  refine vi_iconst 488 rfl ?_
  refine vi_iadd 489 rfl ?_
  refine vi_xald 490 rfl rfl ⟨by omega, by omega, by omega⟩ ?_
  rw [e1]
  refine vi_V1 491 ok_X12_plain rfl c_L_94 zf rfl rfl ?_
  refine zk _ (fun w3 zI3 => ?_)
  exact vi_icmp_sm 492 rfl (vi_lc (zN w3 zI3) ⟨rfl, rfl, rfl, rfl, trivial⟩)
set_option maxRecDepth 20000 in
theorem op_near (zI : wb_I w i) (z0 : 0 ≤ i ∧ i ≤ 1000) (zL : i + 7 ≤ (wb_xL G 0 : Int)) (zN : ∀ w', wb_I w' (i + 7) → wb_V G M_L_law 1090 [(0, .ref 0), (1, .ref 3), (2, .ref 96), (3, .int (wb_i i))] [] 108 w' 105 157739 Q) : wb_V G M_L_law 757 [(0, .ref 0), (1, .ref 3), (2, .ref 96), (3, .int (wb_i i))] [] 108 w 105 157739 Q := by
  obtain ⟨a1, e1, r1⟩ := wb_sc (G := G) (i + 1).toNat
  have zx := zI.x3
  refine vi_aload_n 495 rfl rfl ?_
  refine vi_aload_n 496 rfl rfl ?_
  refine vi_iload_n 497 rfl rfl ?_
  refine vi_iconst 498 rfl ?_
  refine vi_iadd 499 rfl ?_
  refine vi_xald 500 rfl rfl ⟨by omega, by omega, by omega⟩ ?_
  rw [e1]
  refine vi_V1 501 ok_X11_near rfl c_L_95 zx rfl rfl ?_
  refine st_near zI (by omega) r1 (fun w2 r zf zk => ?_)
  obtain ⟨zfs, zf⟩ := zf
  refine vi_aload_n 502 rfl rfl ?_
  refine vi_aload_n 503 rfl rfl ?_
  refine vi_iload_n 504 rfl rfl ?_
  refine vi_iconst 505 rfl ?_
  refine vi_iadd 506 rfl ?_
  refine vi_xald 507 rfl rfl ⟨by omega, by omega, by omega⟩ ?_
  rw [e1]
  refine vi_V1 508 ok_X12_near rfl c_L_98 zf rfl rfl ?_
  refine zk _ (fun w3 zI3 => ?_)
  exact vi_icmp_sm 509 rfl (vi_lc (zN w3 zI3) ⟨rfl, rfl, rfl, rfl, trivial⟩)
set_option maxRecDepth 20000 in
theorem op_doubt (zI : wb_I w i) (z0 : 0 ≤ i ∧ i ≤ 1000) (zL : i + 7 ≤ (wb_xL G 0 : Int)) (zN : ∀ w', wb_I w' (i + 7) → wb_V G M_L_law 1090 [(0, .ref 0), (1, .ref 3), (2, .ref 96), (3, .int (wb_i i))] [] 108 w' 105 157739 Q) : wb_V G M_L_law 780 [(0, .ref 0), (1, .ref 3), (2, .ref 96), (3, .int (wb_i i))] [] 108 w 105 157739 Q := by
  obtain ⟨a1, e1, r1⟩ := wb_sc (G := G) (i + 1).toNat
  have zx := zI.x3
  refine vi_aload_n 512 rfl rfl ?_
  refine vi_aload_n 513 rfl rfl ?_
  refine vi_iload_n 514 rfl rfl ?_
  refine vi_iconst 515 rfl ?_
  refine vi_iadd 516 rfl ?_
  refine vi_xald 517 rfl rfl ⟨by omega, by omega, by omega⟩ ?_
  rw [e1]
  refine vi_V1 518 ok_X11_doubt rfl c_L_99 zx rfl rfl ?_
  refine st_doubt zI (by omega) r1 (fun w2 r zf zk => ?_)
  obtain ⟨zfs, zf⟩ := zf
  refine vi_aload_n 519 rfl rfl ?_
  refine vi_aload_n 520 rfl rfl ?_
  refine vi_iload_n 521 rfl rfl ?_
  refine vi_iconst 522 rfl ?_
  refine vi_iadd 523 rfl ?_
  refine vi_xald 524 rfl rfl ⟨by omega, by omega, by omega⟩ ?_
  rw [e1]
  refine vi_V1 525 ok_X12_doubt rfl c_L_102 zf rfl rfl ?_
  refine zk _ (fun w3 zI3 => ?_)
  exact vi_icmp_sm 526 rfl (vi_lc (zN w3 zI3) ⟨rfl, rfl, rfl, rfl, trivial⟩)
set_option maxRecDepth 20000 in
theorem op_changed (zI : wb_I w i) (z0 : 0 ≤ i ∧ i ≤ 1000) (zL : i + 7 ≤ (wb_xL G 0 : Int)) (zN : ∀ w', wb_I w' (i + 7) → wb_V G M_L_law 1090 [(0, .ref 0), (1, .ref 3), (2, .ref 96), (3, .int (wb_i i))] [] 108 w' 105 157739 Q) : wb_V G M_L_law 803 [(0, .ref 0), (1, .ref 3), (2, .ref 96), (3, .int (wb_i i))] [] 108 w 105 157739 Q := by
  obtain ⟨a1, e1, r1⟩ := wb_sc (G := G) (i + 1).toNat
  have zx := zI.x3
  refine vi_aload_n 529 rfl rfl ?_
  refine vi_aload_n 530 rfl rfl ?_
  refine vi_iload_n 531 rfl rfl ?_
  refine vi_iconst 532 rfl ?_
  refine vi_iadd 533 rfl ?_
  refine vi_xald 534 rfl rfl ⟨by omega, by omega, by omega⟩ ?_
  rw [e1]
  refine vi_V1 535 ok_X11_changed rfl c_L_103 zx rfl rfl ?_
  refine st_changed zI (by omega) r1 (fun w2 r zf zk => ?_)
  obtain ⟨zfs, zf⟩ := zf
  refine vi_aload_n 536 rfl rfl ?_
  refine vi_aload_n 537 rfl rfl ?_
  refine vi_iload_n 538 rfl rfl ?_
  refine vi_iconst 539 rfl ?_
  refine vi_iadd 540 rfl ?_
  refine vi_xald 541 rfl rfl ⟨by omega, by omega, by omega⟩ ?_
  rw [e1]
  refine vi_V1 542 ok_X12_changed rfl c_L_106 zf rfl rfl ?_
  refine zk _ (fun w3 zI3 => ?_)
  exact vi_icmp_sm 543 rfl (vi_lc (zN w3 zI3) ⟨rfl, rfl, rfl, rfl, trivial⟩)
set_option maxRecDepth 20000 in
theorem op_cost (zI : wb_I w i) (z0 : 0 ≤ i ∧ i ≤ 1000) (zL : i + 7 ≤ (wb_xL G 0 : Int)) (zN : ∀ w', wb_I w' (i + 7) → wb_V G M_L_law 1090 [(0, .ref 0), (1, .ref 3), (2, .ref 96), (3, .int (wb_i i))] [] 108 w' 105 157739 Q) : wb_V G M_L_law 826 [(0, .ref 0), (1, .ref 3), (2, .ref 96), (3, .int (wb_i i))] [] 108 w 105 157739 Q := by
  obtain ⟨a1, e1, r1⟩ := wb_sc (G := G) (i + 1).toNat
  obtain ⟨a2, e2, r2⟩ := wb_sc (G := G) (i + 2).toNat
  obtain ⟨a3, e3, r3⟩ := wb_sc (G := G) (i + 3).toNat
  have zx := zI.x3
  refine vi_aload_n 546 rfl rfl ?_
  refine vi_aload_n 547 rfl rfl ?_
  refine vi_iload_n 548 rfl rfl ?_
  refine vi_iconst 549 rfl ?_
  refine vi_iadd 550 rfl ?_
  refine vi_xald 551 rfl rfl ⟨by omega, by omega, by omega⟩ ?_
  rw [e1]
  refine vi_aload_n 552 rfl rfl ?_
  refine vi_iload_n 553 rfl rfl ?_
  refine vi_iconst 554 rfl ?_
  refine vi_iadd 555 rfl ?_
  refine vi_xald 556 rfl rfl ⟨by omega, by omega, by omega⟩ ?_
  rw [e2]
  refine vi_aload_n 557 rfl rfl ?_
  refine vi_iload_n 558 rfl rfl ?_
  refine vi_iconst 559 rfl ?_
  refine vi_iadd 560 rfl ?_
  refine vi_xald 561 rfl rfl ⟨by omega, by omega, by omega⟩ ?_
  rw [e3]
  refine vi_V3 562 ok_X11_cost rfl c_L_107 zx rfl rfl ?_
  refine st_cost zI (by omega) r1 r2 r3 (fun w2 r zf zk => ?_)
  obtain ⟨zfs, zf⟩ := zf
  refine vi_aload_n 563 rfl rfl ?_
  refine vi_aload_n 564 rfl rfl ?_
  refine vi_iload_n 565 rfl rfl ?_
  refine vi_iconst 566 rfl ?_
  refine vi_iadd 567 rfl ?_
  refine vi_xald 568 rfl rfl ⟨by omega, by omega, by omega⟩ ?_
  rw [e1]
  refine vi_aload_n 569 rfl rfl ?_
  refine vi_iload_n 570 rfl rfl ?_
  refine vi_iconst 571 rfl ?_
  refine vi_iadd 572 rfl ?_
  refine vi_xald 573 rfl rfl ⟨by omega, by omega, by omega⟩ ?_
  rw [e2]
  refine vi_aload_n 574 rfl rfl ?_
  refine vi_iload_n 575 rfl rfl ?_
  refine vi_iconst 576 rfl ?_
  refine vi_iadd 577 rfl ?_
  refine vi_xald 578 rfl rfl ⟨by omega, by omega, by omega⟩ ?_
  rw [e3]
  refine vi_V3 579 ok_X12_cost rfl c_L_110 zf rfl rfl ?_
  refine zk _ (fun w3 zI3 => ?_)
  exact vi_icmp_sm 580 rfl (vi_lc (zN w3 zI3) ⟨rfl, rfl, rfl, rfl, trivial⟩)
set_option maxRecDepth 20000 in
theorem op_costs (zI : wb_I w i) (z0 : 0 ≤ i ∧ i ≤ 1000) (zL : i + 7 ≤ (wb_xL G 0 : Int)) (zN : ∀ w', wb_I w' (i + 7) → wb_V G M_L_law 1090 [(0, .ref 0), (1, .ref 3), (2, .ref 96), (3, .int (wb_i i))] [] 108 w' 105 157739 Q) : wb_V G M_L_law 869 [(0, .ref 0), (1, .ref 3), (2, .ref 96), (3, .int (wb_i i))] [] 108 w 105 157739 Q := by
  obtain ⟨a1, e1, r1⟩ := wb_sc (G := G) (i + 1).toNat
  obtain ⟨a2, e2, r2⟩ := wb_sc (G := G) (i + 2).toNat
  obtain ⟨a3, e3, r3⟩ := wb_sc (G := G) (i + 3).toNat
  have zx := zI.x3
  refine vi_aload_n 583 rfl rfl ?_
  refine vi_aload_n 584 rfl rfl ?_
  refine vi_iload_n 585 rfl rfl ?_
  refine vi_iconst 586 rfl ?_
  refine vi_iadd 587 rfl ?_
  refine vi_xald 588 rfl rfl ⟨by omega, by omega, by omega⟩ ?_
  rw [e1]
  refine vi_aload_n 589 rfl rfl ?_
  refine vi_iload_n 590 rfl rfl ?_
  refine vi_iconst 591 rfl ?_
  refine vi_iadd 592 rfl ?_
  refine vi_xald 593 rfl rfl ⟨by omega, by omega, by omega⟩ ?_
  rw [e2]
  refine vi_aload_n 594 rfl rfl ?_
  refine vi_iload_n 595 rfl rfl ?_
  refine vi_iconst 596 rfl ?_
  refine vi_iadd 597 rfl ?_
  refine vi_xald 598 rfl rfl ⟨by omega, by omega, by omega⟩ ?_
  rw [e3]
  refine vi_V3 599 ok_X11_costs rfl c_L_111 zx rfl rfl ?_
  refine st_costs zI (by omega) r1 r2 r3 (fun w2 r zf zk => ?_)
  obtain ⟨zfs, zf⟩ := zf
  refine vi_aload_n 600 rfl rfl ?_
  refine vi_aload_n 601 rfl rfl ?_
  refine vi_iload_n 602 rfl rfl ?_
  refine vi_iconst 603 rfl ?_
  refine vi_iadd 604 rfl ?_
  refine vi_xald 605 rfl rfl ⟨by omega, by omega, by omega⟩ ?_
  rw [e1]
  refine vi_aload_n 606 rfl rfl ?_
  refine vi_iload_n 607 rfl rfl ?_
  refine vi_iconst 608 rfl ?_
  refine vi_iadd 609 rfl ?_
  refine vi_xald 610 rfl rfl ⟨by omega, by omega, by omega⟩ ?_
  rw [e2]
  refine vi_aload_n 611 rfl rfl ?_
  refine vi_iload_n 612 rfl rfl ?_
  refine vi_iconst 613 rfl ?_
  refine vi_iadd 614 rfl ?_
  refine vi_xald 615 rfl rfl ⟨by omega, by omega, by omega⟩ ?_
  rw [e3]
  refine vi_V3 616 ok_X12_costs rfl c_L_114 zf rfl rfl ?_
  refine zk _ (fun w3 zI3 => ?_)
  exact vi_icmp_sm 617 rfl (vi_lc (zN w3 zI3) ⟨rfl, rfl, rfl, rfl, trivial⟩)
set_option maxRecDepth 20000 in
theorem op_buy (zI : wb_I w i) (z0 : 0 ≤ i ∧ i ≤ 1000) (zL : i + 7 ≤ (wb_xL G 0 : Int)) (zN : ∀ w', wb_I w' (i + 7) → wb_V G M_L_law 1090 [(0, .ref 0), (1, .ref 3), (2, .ref 96), (3, .int (wb_i i))] [] 108 w' 105 157739 Q) : wb_V G M_L_law 912 [(0, .ref 0), (1, .ref 3), (2, .ref 96), (3, .int (wb_i i))] [] 108 w 105 157739 Q := by
  obtain ⟨a1, e1, r1⟩ := wb_sc (G := G) (i + 1).toNat
  obtain ⟨a2, e2, r2⟩ := wb_sc (G := G) (i + 2).toNat
  obtain ⟨a3, e3, r3⟩ := wb_sc (G := G) (i + 3).toNat
  obtain ⟨a4, e4, r4⟩ := wb_sc (G := G) (i + 4).toNat
  have zx := zI.x3
  refine vi_aload_n 620 rfl rfl ?_
  refine vi_aload_n 621 rfl rfl ?_
  refine vi_iload_n 622 rfl rfl ?_
  refine vi_iconst 623 rfl ?_
  refine vi_iadd 624 rfl ?_
  refine vi_xald 625 rfl rfl ⟨by omega, by omega, by omega⟩ ?_
  rw [e1]
  refine vi_aload_n 626 rfl rfl ?_
  refine vi_iload_n 627 rfl rfl ?_
  refine vi_iconst 628 rfl ?_
  refine vi_iadd 629 rfl ?_
  refine vi_xald 630 rfl rfl ⟨by omega, by omega, by omega⟩ ?_
  rw [e2]
  refine vi_aload_n 631 rfl rfl ?_
  refine vi_iload_n 632 rfl rfl ?_
  refine vi_iconst 633 rfl ?_
  refine vi_iadd 634 rfl ?_
  refine vi_xald 635 rfl rfl ⟨by omega, by omega, by omega⟩ ?_
  rw [e3]
  refine vi_aload_n 636 rfl rfl ?_
  refine vi_iload_n 637 rfl rfl ?_
  refine vi_iconst 638 rfl ?_
  refine vi_iadd 639 rfl ?_
  refine vi_xald 640 rfl rfl ⟨by omega, by omega, by omega⟩ ?_
  rw [e4]
  refine vi_V4 641 ok_X11_buy rfl c_L_115 zx rfl rfl ?_
  refine st_buy zI (by omega) r1 r2 r3 r4 (fun w2 r zf zk => ?_)
  obtain ⟨zfs, zf⟩ := zf
  refine vi_aload_n 642 rfl rfl ?_
  refine vi_aload_n 643 rfl rfl ?_
  refine vi_iload_n 644 rfl rfl ?_
  refine vi_iconst 645 rfl ?_
  refine vi_iadd 646 rfl ?_
  refine vi_xald 647 rfl rfl ⟨by omega, by omega, by omega⟩ ?_
  rw [e1]
  refine vi_aload_n 648 rfl rfl ?_
  refine vi_iload_n 649 rfl rfl ?_
  refine vi_iconst 650 rfl ?_
  refine vi_iadd 651 rfl ?_
  refine vi_xald 652 rfl rfl ⟨by omega, by omega, by omega⟩ ?_
  rw [e2]
  refine vi_aload_n 653 rfl rfl ?_
  refine vi_iload_n 654 rfl rfl ?_
  refine vi_iconst 655 rfl ?_
  refine vi_iadd 656 rfl ?_
  refine vi_xald 657 rfl rfl ⟨by omega, by omega, by omega⟩ ?_
  rw [e3]
  refine vi_aload_n 658 rfl rfl ?_
  refine vi_iload_n 659 rfl rfl ?_
  refine vi_iconst 660 rfl ?_
  refine vi_iadd 661 rfl ?_
  refine vi_xald 662 rfl rfl ⟨by omega, by omega, by omega⟩ ?_
  rw [e4]
  refine vi_V4 663 ok_X12_buy rfl c_L_118 zf rfl rfl ?_
  refine zk _ (fun w3 zI3 => ?_)
  exact vi_icmp_sm 664 rfl (vi_lc (zN w3 zI3) ⟨rfl, rfl, rfl, rfl, trivial⟩)
set_option maxRecDepth 20000 in
theorem op_settle (zI : wb_I w i) (z0 : 0 ≤ i ∧ i ≤ 1000) (zL : i + 7 ≤ (wb_xL G 0 : Int)) (zN : ∀ w', wb_I w' (i + 7) → wb_V G M_L_law 1090 [(0, .ref 0), (1, .ref 3), (2, .ref 96), (3, .int (wb_i i))] [] 108 w' 105 157739 Q) : wb_V G M_L_law 965 [(0, .ref 0), (1, .ref 3), (2, .ref 96), (3, .int (wb_i i))] [] 108 w 105 157739 Q := by
  obtain ⟨a1, e1, r1⟩ := wb_sc (G := G) (i + 1).toNat
  have zx := zI.x3
  refine vi_aload_n 667 rfl rfl ?_
  refine vi_aload_n 668 rfl rfl ?_
  refine vi_iload_n 669 rfl rfl ?_
  refine vi_iconst 670 rfl ?_
  refine vi_iadd 671 rfl ?_
  refine vi_xald 672 rfl rfl ⟨by omega, by omega, by omega⟩ ?_
  rw [e1]
  refine vi_V1 673 ok_X11_settle rfl c_L_119 zx rfl rfl ?_
  refine st_settle zI (by omega) r1 (fun w2 r zf zk => ?_)
  obtain ⟨zfs, zf⟩ := zf
  refine vi_aload_n 674 rfl rfl ?_
  refine vi_aload_n 675 rfl rfl ?_
  refine vi_iload_n 676 rfl rfl ?_
  refine vi_iconst 677 rfl ?_
  refine vi_iadd 678 rfl ?_
  refine vi_xald 679 rfl rfl ⟨by omega, by omega, by omega⟩ ?_
  rw [e1]
  refine vi_V1 680 ok_X12_settle rfl c_L_122 zf rfl rfl ?_
  refine zk _ (fun w3 zI3 => ?_)
  exact vi_icmp_sm 681 rfl (vi_lc (zN w3 zI3) ⟨rfl, rfl, rfl, rfl, trivial⟩)
set_option maxRecDepth 20000 in
theorem op_hide (zI : wb_I w i) (z0 : 0 ≤ i ∧ i ≤ 1000) (zL : i + 7 ≤ (wb_xL G 0 : Int)) (zN : ∀ w', wb_I w' (i + 7) → wb_V G M_L_law 1090 [(0, .ref 0), (1, .ref 3), (2, .ref 96), (3, .int (wb_i i))] [] 108 w' 105 157739 Q) : wb_V G M_L_law 988 [(0, .ref 0), (1, .ref 3), (2, .ref 96), (3, .int (wb_i i))] [] 108 w 105 157739 Q := by
  obtain ⟨a1, e1, r1⟩ := wb_sc (G := G) (i + 1).toNat
  obtain ⟨a2, e2, r2⟩ := wb_sc (G := G) (i + 2).toNat
  have zx := zI.x3
  refine vi_aload_n 684 rfl rfl ?_
  refine vi_aload_n 685 rfl rfl ?_
  refine vi_iload_n 686 rfl rfl ?_
  refine vi_iconst 687 rfl ?_
  refine vi_iadd 688 rfl ?_
  refine vi_xald 689 rfl rfl ⟨by omega, by omega, by omega⟩ ?_
  rw [e1]
  refine vi_aload_n 690 rfl rfl ?_
  refine vi_iload_n 691 rfl rfl ?_
  refine vi_iconst 692 rfl ?_
  refine vi_iadd 693 rfl ?_
  refine vi_xald 694 rfl rfl ⟨by omega, by omega, by omega⟩ ?_
  rw [e2]
  refine vi_V2 695 ok_X11_hide rfl c_L_123 zx rfl rfl ?_
  refine st_hide zI (by omega) r1 r2 (fun w2 r zf zk => ?_)
  obtain ⟨zfs, zf⟩ := zf
  refine vi_aload_n 696 rfl rfl ?_
  refine vi_aload_n 697 rfl rfl ?_
  refine vi_iload_n 698 rfl rfl ?_
  refine vi_iconst 699 rfl ?_
  refine vi_iadd 700 rfl ?_
  refine vi_xald 701 rfl rfl ⟨by omega, by omega, by omega⟩ ?_
  rw [e1]
  refine vi_aload_n 702 rfl rfl ?_
  refine vi_iload_n 703 rfl rfl ?_
  refine vi_iconst 704 rfl ?_
  refine vi_iadd 705 rfl ?_
  refine vi_xald 706 rfl rfl ⟨by omega, by omega, by omega⟩ ?_
  rw [e2]
  refine vi_V2 707 ok_X12_hide rfl c_L_126 zf rfl rfl ?_
  refine zk _ (fun w3 zI3 => ?_)
  exact vi_icmp_sm 708 rfl (vi_lc (zN w3 zI3) ⟨rfl, rfl, rfl, rfl, trivial⟩)
set_option maxRecDepth 20000 in
theorem op_image (zI : wb_I w i) (z0 : 0 ≤ i ∧ i ≤ 1000) (zL : i + 7 ≤ (wb_xL G 0 : Int)) (zN : ∀ w', wb_I w' (i + 7) → wb_V G M_L_law 1090 [(0, .ref 0), (1, .ref 3), (2, .ref 96), (3, .int (wb_i i))] [] 108 w' 105 157739 Q) : wb_V G M_L_law 1021 [(0, .ref 0), (1, .ref 3), (2, .ref 96), (3, .int (wb_i i))] [] 108 w 105 157739 Q := by
  obtain ⟨a1, e1, r1⟩ := wb_sc (G := G) (i + 1).toNat
  have zx := zI.x3
  refine vi_aload_n 711 rfl rfl ?_
  refine vi_aload_n 712 rfl rfl ?_
  refine vi_iload_n 713 rfl rfl ?_
  refine vi_iconst 714 rfl ?_
  refine vi_iadd 715 rfl ?_
  refine vi_xald 716 rfl rfl ⟨by omega, by omega, by omega⟩ ?_
  rw [e1]
  refine vi_V1 717 ok_X11_image rfl c_L_127 zx rfl rfl ?_
  refine st_image zI (by omega) r1 (fun w2 r zf zk => ?_)
  obtain ⟨zfs, zf⟩ := zf
  refine vi_aload_n 718 rfl rfl ?_
  refine vi_aload_n 719 rfl rfl ?_
  refine vi_iload_n 720 rfl rfl ?_
  refine vi_iconst 721 rfl ?_
  refine vi_iadd 722 rfl ?_
  refine vi_xald 723 rfl rfl ⟨by omega, by omega, by omega⟩ ?_
  rw [e1]
  refine vi_V1 724 ok_X12_image rfl c_L_130 zf rfl rfl ?_
  refine zk _ (fun w3 zI3 => ?_)
  exact vi_icmp_sm 725 rfl (vi_lc (zN w3 zI3) ⟨rfl, rfl, rfl, rfl, trivial⟩)
set_option maxRecDepth 20000 in
theorem op_restore (zI : wb_I w i) (z0 : 0 ≤ i ∧ i ≤ 1000) (zL : i + 7 ≤ (wb_xL G 0 : Int)) (zN : ∀ w', wb_I w' (i + 7) → wb_V G M_L_law 1090 [(0, .ref 0), (1, .ref 3), (2, .ref 96), (3, .int (wb_i i))] [] 108 w' 105 157739 Q) : wb_V G M_L_law 1044 [(0, .ref 0), (1, .ref 3), (2, .ref 96), (3, .int (wb_i i))] [] 108 w 105 157739 Q := by
  obtain ⟨a1, e1, r1⟩ := wb_sc (G := G) (i + 1).toNat
  have zx := zI.x3
  refine vi_aload_n 728 rfl rfl ?_
  refine vi_aload_n 729 rfl rfl ?_
  refine vi_iload_n 730 rfl rfl ?_
  refine vi_iconst 731 rfl ?_
  refine vi_iadd 732 rfl ?_
  refine vi_xald 733 rfl rfl ⟨by omega, by omega, by omega⟩ ?_
  rw [e1]
  refine vi_V1 734 ok_X11_restore rfl c_L_131 zx rfl rfl ?_
  refine st_restore zI (by omega) r1 (fun w2 r zf zk => ?_)
  obtain ⟨zfs, zf⟩ := zf
  refine vi_aload_n 735 rfl rfl ?_
  refine vi_aload_n 736 rfl rfl ?_
  refine vi_iload_n 737 rfl rfl ?_
  refine vi_iconst 738 rfl ?_
  refine vi_iadd 739 rfl ?_
  refine vi_xald 740 rfl rfl ⟨by omega, by omega, by omega⟩ ?_
  rw [e1]
  refine vi_V1 741 ok_X12_restore rfl c_L_134 zf rfl rfl ?_
  refine zk _ (fun w3 zI3 => ?_)
  exact vi_icmp_sm 742 rfl (vi_lc (zN w3 zI3) ⟨rfl, rfl, rfl, rfl, trivial⟩)
set_option maxRecDepth 20000 in
theorem op_told (zI : wb_I w i) (z0 : 0 ≤ i ∧ i ≤ 1000) (zL : i + 7 ≤ (wb_xL G 0 : Int)) (zN : ∀ w', wb_I w' (i + 7) → wb_V G M_L_law 1090 [(0, .ref 0), (1, .ref 3), (2, .ref 96), (3, .int (wb_i i))] [] 108 w' 105 157739 Q) : wb_V G M_L_law 1067 [(0, .ref 0), (1, .ref 3), (2, .ref 96), (3, .int (wb_i i))] [] 108 w 105 157739 Q := by
  obtain ⟨a1, e1, r1⟩ := wb_sc (G := G) (i + 1).toNat
  have zx := zI.x3
  refine vi_aload_n 745 rfl rfl ?_
  refine vi_aload_n 746 rfl rfl ?_
  refine vi_iload_n 747 rfl rfl ?_
  refine vi_iconst 748 rfl ?_
  refine vi_iadd 749 rfl ?_
  refine vi_xald 750 rfl rfl ⟨by omega, by omega, by omega⟩ ?_
  rw [e1]
  refine vi_V1 751 ok_X11_told rfl c_L_135 zx rfl rfl ?_
  refine st_told zI (by omega) r1 (fun w2 r zf zk => ?_)
  obtain ⟨zfs, zf⟩ := zf
  refine vi_aload_n 752 rfl rfl ?_
  refine vi_aload_n 753 rfl rfl ?_
  refine vi_iload_n 754 rfl rfl ?_
  refine vi_iconst 755 rfl ?_
  refine vi_iadd 756 rfl ?_
  refine vi_xald 757 rfl rfl ⟨by omega, by omega, by omega⟩ ?_
  rw [e1]
  refine vi_V1 758 ok_X12_told rfl c_L_138 zf rfl rfl ?_
  refine zk _ (fun w3 zI3 => ?_)
  exact vi_icmp_sm 759 rfl (vi_lc (zN w3 zI3) ⟨rfl, rfl, rfl, rfl, trivial⟩)
set_option maxRecDepth 20000 in
theorem wb_loop (zG : (wb_xL G 0 : Int) ≤ 448) (zQ : ∀ N' w', Q (some (.int (wb_i 1))) N' w') : ∀ i, i ≤ 455 → ∀ w : wb_W, 0 ≤ i → wb_I w i → wb_V G M_L_law 18 [(0, .ref 0), (1, .ref 3), (2, .ref 96), (3, .int (wb_i i))] [] 108 w 105 157739 Q := by
  refine wb_up 455 _ ?_
  intro i ih hi w hi0 zI
  have tl : i + 7 ≤ (wb_xL G 0 : Int) → ∀ w', wb_I w' (i + 7) → wb_V G M_L_law 1090 [(0, .ref 0), (1, .ref 3), (2, .ref 96), (3, .int (wb_i i))] [] 108 w' 105 157739 Q := by
    intro zl w' zI'
    refine vi_iinc 762 rfl rfl rfl ?_
    refine vi_goto 763 rfl ?_
    exact vi_lc (ih (i + 7) (by omega) (by omega) w' (by omega) zI') ⟨rfl, rfl, rfl, rfl, trivial⟩
  obtain ⟨a0, e0, r0⟩ := wb_sc (G := G) i.toNat
  refine vi_iload_n 10 rfl rfl ?_
  refine vi_aload_n 11 rfl rfl ?_
  refine vi_xlen 12 rfl rfl ?_
  refine vi_bipush 13 rfl (by decide) ?_
  refine vi_isub 14 rfl ?_
  refine vi_icmp_gt 15 rfl (by omega) (by omega) (fun c_24 => ?_) (fun c_24 => ?_)
  · refine vi_iconst 764 rfl ?_
    exact vi_ireturn 765 rfl rfl rfl (Nat.le_of_ble_eq_true rfl) (Nat.le_of_ble_eq_true rfl) (zQ _ _)
  · refine vi_aload_n 16 rfl rfl ?_
    refine vi_iload_n 17 rfl rfl ?_
    refine vi_xald 18 rfl rfl ⟨by omega, by omega, by omega⟩ ?_
    rw [e0]
    refine vi_bipush 19 rfl (by decide) ?_
    refine vi_iand 20 rfl ?_
    rw [wb_and31]
    have zl : i + 7 ≤ (wb_xL G 0 : Int) := by omega
    have zv : 0 ≤ a0 % 32 ∧ a0 % 32 < 32 := by omega
    generalize a0 % 32 = zu at zv ⊢
    rcases (show zu = 0 ∨ zu = 1 ∨ zu = 2 ∨ zu = 3 ∨ zu = 4 ∨ zu = 5 ∨ zu = 6 ∨ zu = 7 ∨ zu = 8 ∨ zu = 9 ∨ zu = 10 ∨ zu = 11 ∨ zu = 12 ∨ zu = 13 ∨ zu = 14 ∨ zu = 15 ∨ zu = 16 ∨ zu = 17 ∨ zu = 18 ∨ zu = 19 ∨ zu = 20 ∨ zu = 21 ∨ zu = 22 ∨ zu = 23 ∨ zu = 24 ∨ zu = 25 ∨ zu = 26 ∨ zu = 27 ∨ zu = 28 ∨ zu = 29 ∨ zu = 30 ∨ zu = 31 by omega) with rfl | rfl | rfl | rfl | rfl | rfl | rfl | rfl | rfl | rfl | rfl | rfl | rfl | rfl | rfl | rfl | rfl | rfl | rfl | rfl | rfl | rfl | rfl | rfl | rfl | rfl | rfl | rfl | rfl | rfl | rfl | rfl
    · exact vi_tab 21 168 rfl (by omega) (Or.inr ⟨by omega, by omega, 135, rfl, rfl⟩) (vi_lc (op_month zI (by omega) zl (tl zl)) ⟨rfl, rfl, rfl, rfl, trivial⟩)
    · exact vi_tab 21 243 rfl (by omega) (Or.inr ⟨by omega, by omega, 210, rfl, rfl⟩) (vi_lc (op_change zI (by omega) zl (tl zl)) ⟨rfl, rfl, rfl, rfl, trivial⟩)
    · exact vi_tab 21 286 rfl (by omega) (Or.inr ⟨by omega, by omega, 253, rfl, rfl⟩) (vi_lc (op_about zI (by omega) zl (tl zl)) ⟨rfl, rfl, rfl, rfl, trivial⟩)
    · exact vi_tab 21 319 rfl (by omega) (Or.inr ⟨by omega, by omega, 286, rfl, rfl⟩) (vi_lc (op_tear zI (by omega) zl (tl zl)) ⟨rfl, rfl, rfl, rfl, trivial⟩)
    · exact vi_tab 21 332 rfl (by omega) (Or.inr ⟨by omega, by omega, 299, rfl, rfl⟩) (vi_lc (op_stock zI (by omega) zl (tl zl)) ⟨rfl, rfl, rfl, rfl, trivial⟩)
    · exact vi_tab 21 375 rfl (by omega) (Or.inr ⟨by omega, by omega, 342, rfl, rfl⟩) (vi_lc (op_stand zI (by omega) zl (tl zl)) ⟨rfl, rfl, rfl, rfl, trivial⟩)
    · exact vi_tab 21 408 rfl (by omega) (Or.inr ⟨by omega, by omega, 375, rfl, rfl⟩) (vi_lc (op_say zI (by omega) zl (tl zl)) ⟨rfl, rfl, rfl, rfl, trivial⟩)
    · exact vi_tab 21 431 rfl (by omega) (Or.inr ⟨by omega, by omega, 398, rfl, rfl⟩) (vi_lc (op_wipe zI (by omega) zl (tl zl)) ⟨rfl, rfl, rfl, rfl, trivial⟩)
    · exact vi_tab 21 444 rfl (by omega) (Or.inr ⟨by omega, by omega, 411, rfl, rfl⟩) (vi_lc (op_fault zI (by omega) zl (tl zl)) ⟨rfl, rfl, rfl, rfl, trivial⟩)
    · exact vi_tab 21 457 rfl (by omega) (Or.inr ⟨by omega, by omega, 424, rfl, rfl⟩) (vi_lc (op_rule zI (by omega) zl (tl zl)) ⟨rfl, rfl, rfl, rfl, trivial⟩)
    · exact vi_tab 21 470 rfl (by omega) (Or.inr ⟨by omega, by omega, 437, rfl, rfl⟩) (vi_lc (op_free zI (by omega) zl (tl zl)) ⟨rfl, rfl, rfl, rfl, trivial⟩)
    · exact vi_tab 21 483 rfl (by omega) (Or.inr ⟨by omega, by omega, 450, rfl, rfl⟩) (vi_lc (op_fits zI (by omega) zl (tl zl)) ⟨rfl, rfl, rfl, rfl, trivial⟩)
    · exact vi_tab 21 516 rfl (by omega) (Or.inr ⟨by omega, by omega, 483, rfl, rfl⟩) (vi_lc (op_needs zI (by omega) zl (tl zl)) ⟨rfl, rfl, rfl, rfl, trivial⟩)
    · exact vi_tab 21 559 rfl (by omega) (Or.inr ⟨by omega, by omega, 526, rfl, rfl⟩) (vi_lc (op_judge zI (by omega) zl (tl zl)) ⟨rfl, rfl, rfl, rfl, trivial⟩)
    · exact vi_tab 21 592 rfl (by omega) (Or.inr ⟨by omega, by omega, 559, rfl, rfl⟩) (vi_lc (op_lies zI (by omega) zl (tl zl)) ⟨rfl, rfl, rfl, rfl, trivial⟩)
    · exact vi_tab 21 645 rfl (by omega) (Or.inr ⟨by omega, by omega, 612, rfl, rfl⟩) (vi_lc (op_all zI (by omega) zl (tl zl)) ⟨rfl, rfl, rfl, rfl, trivial⟩)
    · exact vi_tab 21 668 rfl (by omega) (Or.inr ⟨by omega, by omega, 635, rfl, rfl⟩) (vi_lc (op_ends zI (by omega) zl (tl zl)) ⟨rfl, rfl, rfl, rfl, trivial⟩)
    · exact vi_tab 21 711 rfl (by omega) (Or.inr ⟨by omega, by omega, 678, rfl, rfl⟩) (vi_lc (op_must zI (by omega) zl (tl zl)) ⟨rfl, rfl, rfl, rfl, trivial⟩)
    · exact vi_tab 21 734 rfl (by omega) (Or.inr ⟨by omega, by omega, 701, rfl, rfl⟩) (vi_lc (op_plain zI (by omega) zl (tl zl)) ⟨rfl, rfl, rfl, rfl, trivial⟩)
    · exact vi_tab 21 757 rfl (by omega) (Or.inr ⟨by omega, by omega, 724, rfl, rfl⟩) (vi_lc (op_near zI (by omega) zl (tl zl)) ⟨rfl, rfl, rfl, rfl, trivial⟩)
    · exact vi_tab 21 780 rfl (by omega) (Or.inr ⟨by omega, by omega, 747, rfl, rfl⟩) (vi_lc (op_doubt zI (by omega) zl (tl zl)) ⟨rfl, rfl, rfl, rfl, trivial⟩)
    · exact vi_tab 21 803 rfl (by omega) (Or.inr ⟨by omega, by omega, 770, rfl, rfl⟩) (vi_lc (op_changed zI (by omega) zl (tl zl)) ⟨rfl, rfl, rfl, rfl, trivial⟩)
    · exact vi_tab 21 826 rfl (by omega) (Or.inr ⟨by omega, by omega, 793, rfl, rfl⟩) (vi_lc (op_cost zI (by omega) zl (tl zl)) ⟨rfl, rfl, rfl, rfl, trivial⟩)
    · exact vi_tab 21 869 rfl (by omega) (Or.inr ⟨by omega, by omega, 836, rfl, rfl⟩) (vi_lc (op_costs zI (by omega) zl (tl zl)) ⟨rfl, rfl, rfl, rfl, trivial⟩)
    · exact vi_tab 21 912 rfl (by omega) (Or.inr ⟨by omega, by omega, 879, rfl, rfl⟩) (vi_lc (op_buy zI (by omega) zl (tl zl)) ⟨rfl, rfl, rfl, rfl, trivial⟩)
    · exact vi_tab 21 965 rfl (by omega) (Or.inr ⟨by omega, by omega, 932, rfl, rfl⟩) (vi_lc (op_settle zI (by omega) zl (tl zl)) ⟨rfl, rfl, rfl, rfl, trivial⟩)
    · exact vi_tab 21 988 rfl (by omega) (Or.inr ⟨by omega, by omega, 955, rfl, rfl⟩) (vi_lc (op_hide zI (by omega) zl (tl zl)) ⟨rfl, rfl, rfl, rfl, trivial⟩)
    · exact vi_tab 21 1021 rfl (by omega) (Or.inr ⟨by omega, by omega, 988, rfl, rfl⟩) (vi_lc (op_image zI (by omega) zl (tl zl)) ⟨rfl, rfl, rfl, rfl, trivial⟩)
    · exact vi_tab 21 1044 rfl (by omega) (Or.inr ⟨by omega, by omega, 1011, rfl, rfl⟩) (vi_lc (op_restore zI (by omega) zl (tl zl)) ⟨rfl, rfl, rfl, rfl, trivial⟩)
    · exact vi_tab 21 1067 rfl (by omega) (Or.inr ⟨by omega, by omega, 1034, rfl, rfl⟩) (vi_lc (op_told zI (by omega) zl (tl zl)) ⟨rfl, rfl, rfl, rfl, trivial⟩)
    · exact vi_tab 21 1090 rfl (by omega) (Or.inl ⟨by omega, rfl⟩) (vi_lc (tl zl w (wb_I.later zI)) ⟨rfl, rfl, rfl, rfl, trivial⟩)
    · exact vi_tab 21 1090 rfl (by omega) (Or.inl ⟨by omega, rfl⟩) (vi_lc (tl zl w (wb_I.later zI)) ⟨rfl, rfl, rfl, rfl, trivial⟩)
set_option maxRecDepth 20000 in
/-- the law, from its entry -/
theorem wb_law (zG : (wb_xL G 0 : Int) ≤ 448) (zw : w = fun _ => wb_no) (zQ : ∀ N' w', Q (some (.int (wb_i 1))) N' w') : wb_M G M_L_law [.ref 0] 3 w Q := by
  unfold wb_M
  refine vi_new 0 rfl (nw_11 l_L_7) rfl rfl rfl ?_
  refine vi_dup 1 rfl rfl ?_
  refine vi_I0 2 ok_X11_init rfl rfl c_L_9 rfl ?_
  refine sp_X11_init wb_ups (fun w2 zn ef2 => ?_)
  refine vi_astore_n 3 rfl rfl ?_
  refine vi_new 4 rfl (nw_12 l_L_10) rfl rfl rfl ?_
  refine vi_dup 5 rfl rfl ?_
  refine vi_I0 6 ok_X12_init rfl rfl c_L_12 rfl ?_
  refine sp_X12_init wb_ups (fun w3 zra zru ef3 => ?_)
  refine vi_astore_n 7 rfl rfl ?_
  refine vi_iconst 8 rfl ?_
  refine vi_istore_n 9 rfl rfl ?_
  exact vi_wide (Nat.le_of_ble_eq_true rfl) (Nat.le_of_ble_eq_true rfl) (vi_lc (wb_loop zG zQ 0 (by omega) w3 (by omega) (wb_I.new zn (fun k k1 k2 => by rw [ef3 k (by omega), wb_upn (by omega)]) zra zru)) ⟨rfl, rfl, rfl, rfl, trivial⟩)
end WBS76
