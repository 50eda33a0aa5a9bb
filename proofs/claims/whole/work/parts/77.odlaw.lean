/-! ===== the law: its instructions ===== -/
theorem wb_chunk {α : Type} {P : α → Prop} {l : List α} {k j : Nat} (hj : j = k + 40) (h0 : ∀ q ∈ (l.drop k).take 40, P q) (h1 : ∀ q ∈ l.drop j, P q) : ∀ q ∈ l.drop k, P q := by
  intro q hq
  rw [← List.take_append_drop 40 (l.drop k)] at hq
  rcases List.mem_append.mp hq with h | h
  · exact h0 q h
  · rw [List.drop_drop] at h
    rw [hj] at h1
    exact h1 q (by first | exact h | (rw [Nat.add_comm]; exact h))
set_option maxRecDepth 40000 in
theorem od_L_0 : ∀ q ∈ ((wb_op M_L_law).drop 0).take 40, decode (wb_by M_L_law) q.1 = .ok (q.2.1, q.2.2.1 - q.1) := by decide +kernel
set_option maxRecDepth 40000 in
theorem od_L_40 : ∀ q ∈ ((wb_op M_L_law).drop 40).take 40, decode (wb_by M_L_law) q.1 = .ok (q.2.1, q.2.2.1 - q.1) := by decide +kernel
set_option maxRecDepth 40000 in
theorem od_L_80 : ∀ q ∈ ((wb_op M_L_law).drop 80).take 40, decode (wb_by M_L_law) q.1 = .ok (q.2.1, q.2.2.1 - q.1) := by decide +kernel
set_option maxRecDepth 40000 in
theorem od_L_120 : ∀ q ∈ ((wb_op M_L_law).drop 120).take 40, decode (wb_by M_L_law) q.1 = .ok (q.2.1, q.2.2.1 - q.1) := by decide +kernel
set_option maxRecDepth 40000 in
theorem od_L_160 : ∀ q ∈ ((wb_op M_L_law).drop 160).take 40, decode (wb_by M_L_law) q.1 = .ok (q.2.1, q.2.2.1 - q.1) := by decide +kernel
set_option maxRecDepth 40000 in
theorem od_L_200 : ∀ q ∈ ((wb_op M_L_law).drop 200).take 40, decode (wb_by M_L_law) q.1 = .ok (q.2.1, q.2.2.1 - q.1) := by decide +kernel
set_option maxRecDepth 40000 in
theorem od_L_240 : ∀ q ∈ ((wb_op M_L_law).drop 240).take 40, decode (wb_by M_L_law) q.1 = .ok (q.2.1, q.2.2.1 - q.1) := by decide +kernel
set_option maxRecDepth 40000 in
theorem od_L_280 : ∀ q ∈ ((wb_op M_L_law).drop 280).take 40, decode (wb_by M_L_law) q.1 = .ok (q.2.1, q.2.2.1 - q.1) := by decide +kernel
set_option maxRecDepth 40000 in
theorem od_L_320 : ∀ q ∈ ((wb_op M_L_law).drop 320).take 40, decode (wb_by M_L_law) q.1 = .ok (q.2.1, q.2.2.1 - q.1) := by decide +kernel
set_option maxRecDepth 40000 in
theorem od_L_360 : ∀ q ∈ ((wb_op M_L_law).drop 360).take 40, decode (wb_by M_L_law) q.1 = .ok (q.2.1, q.2.2.1 - q.1) := by decide +kernel
set_option maxRecDepth 40000 in
theorem od_L_400 : ∀ q ∈ ((wb_op M_L_law).drop 400).take 40, decode (wb_by M_L_law) q.1 = .ok (q.2.1, q.2.2.1 - q.1) := by decide +kernel
set_option maxRecDepth 40000 in
theorem od_L_440 : ∀ q ∈ ((wb_op M_L_law).drop 440).take 40, decode (wb_by M_L_law) q.1 = .ok (q.2.1, q.2.2.1 - q.1) := by decide +kernel
set_option maxRecDepth 40000 in
theorem od_L_480 : ∀ q ∈ ((wb_op M_L_law).drop 480).take 40, decode (wb_by M_L_law) q.1 = .ok (q.2.1, q.2.2.1 - q.1) := by decide +kernel
set_option maxRecDepth 40000 in
theorem od_L_520 : ∀ q ∈ ((wb_op M_L_law).drop 520).take 40, decode (wb_by M_L_law) q.1 = .ok (q.2.1, q.2.2.1 - q.1) := by decide +kernel
set_option maxRecDepth 40000 in
theorem od_L_560 : ∀ q ∈ ((wb_op M_L_law).drop 560).take 40, decode (wb_by M_L_law) q.1 = .ok (q.2.1, q.2.2.1 - q.1) := by decide +kernel
set_option maxRecDepth 40000 in
theorem od_L_600 : ∀ q ∈ ((wb_op M_L_law).drop 600).take 40, decode (wb_by M_L_law) q.1 = .ok (q.2.1, q.2.2.1 - q.1) := by decide +kernel
set_option maxRecDepth 40000 in
theorem od_L_640 : ∀ q ∈ ((wb_op M_L_law).drop 640).take 40, decode (wb_by M_L_law) q.1 = .ok (q.2.1, q.2.2.1 - q.1) := by decide +kernel
set_option maxRecDepth 40000 in
theorem od_L_680 : ∀ q ∈ ((wb_op M_L_law).drop 680).take 40, decode (wb_by M_L_law) q.1 = .ok (q.2.1, q.2.2.1 - q.1) := by decide +kernel
set_option maxRecDepth 40000 in
theorem od_L_720 : ∀ q ∈ ((wb_op M_L_law).drop 720).take 40, decode (wb_by M_L_law) q.1 = .ok (q.2.1, q.2.2.1 - q.1) := by decide +kernel
set_option maxRecDepth 40000 in
theorem od_L_760 : ∀ q ∈ ((wb_op M_L_law).drop 760).take 40, decode (wb_by M_L_law) q.1 = .ok (q.2.1, q.2.2.1 - q.1) := by decide +kernel
set_option maxRecDepth 40000 in
theorem od_L_end : ∀ q ∈ (wb_op M_L_law).drop 800, decode (wb_by M_L_law) q.1 = .ok (q.2.1, q.2.2.1 - q.1) := by decide +kernel
set_option maxRecDepth 40000 in
theorem od_L_sh : ∀ q ∈ wb_op M_L_law, wb_sh q = true := by decide +kernel
theorem od_L_law : wb_OD M_L_law := ⟨(wb_chunk (j := 40) rfl od_L_0 (wb_chunk (j := 80) rfl od_L_40 (wb_chunk (j := 120) rfl od_L_80 (wb_chunk (j := 160) rfl od_L_120 (wb_chunk (j := 200) rfl od_L_160 (wb_chunk (j := 240) rfl od_L_200 (wb_chunk (j := 280) rfl od_L_240 (wb_chunk (j := 320) rfl od_L_280 (wb_chunk (j := 360) rfl od_L_320 (wb_chunk (j := 400) rfl od_L_360 (wb_chunk (j := 440) rfl od_L_400 (wb_chunk (j := 480) rfl od_L_440 (wb_chunk (j := 520) rfl od_L_480 (wb_chunk (j := 560) rfl od_L_520 (wb_chunk (j := 600) rfl od_L_560 (wb_chunk (j := 640) rfl od_L_600 (wb_chunk (j := 680) rfl od_L_640 (wb_chunk (j := 720) rfl od_L_680 (wb_chunk (j := 760) rfl od_L_720 (wb_chunk (j := 800) rfl od_L_760 od_L_end)))))))))))))))))))), od_L_sh⟩
