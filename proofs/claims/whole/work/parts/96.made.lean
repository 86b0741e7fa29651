/-! the made world is the fresh store's: block by block -/
abbrev zbk_0 : List Nat := [3, 22, 23, 24, 25, 26, 27]
set_option maxHeartbeats 4000000 in
set_option maxRecDepth 100000 in
theorem zb_0 {ct : Nat → ClassId} {q : Nat} {f : List Value} {e : va_W} (h : zX0_post ct q f e) : ∃ g : Nat → Nat, g 3 = q ∧ ∀ ad : Nat → Nat, (∀ c ∈ zbk_0, ad c = g c) → ((q, .inr (0, f)) :: e : va_W) = zbk_0.map (fun c => (ad c, zcel ad ct zS0 c)) := by
  obtain ⟨q0, q1, q2, q3, q4, q5, hf, he⟩ := h
  rw [hf, he]
  refine ⟨fun c => bif Nat.beq c 3 then q else bif Nat.beq c 22 then q0 else bif Nat.beq c 23 then q1 else bif Nat.beq c 24 then q2 else bif Nat.beq c 25 then q3 else bif Nat.beq c 26 then q4 else bif Nat.beq c 27 then q5 else 0, rfl, fun ad had => ?_⟩
  have a3 : ad 3 = q := had 3 (by decide)
  have a22 : ad 22 = q0 := had 22 (by decide)
  have a23 : ad 23 = q1 := had 23 (by decide)
  have a24 : ad 24 = q2 := had 24 (by decide)
  have a25 : ad 25 = q3 := had 25 (by decide)
  have a26 : ad 26 = q4 := had 26 (by decide)
  have a27 : ad 27 = q5 := had 27 (by decide)
  simp only [List.nil_append, List.cons_append]
  show ([(q, .inr (0, [.ref q0, .ref q1, .ref q2, .int 0, .ref q3, .ref q4, .int 0, .ref q5, .int 0])), (q0, .inl (ct 0, 1188, .inl (fun _ => 0))), (q1, .inl (ct 0, 512, .inl (fun _ => 0))), (q2, .inl (ct 0, 512, .inl (fun _ => 0))), (q3, .inl (ct 0, 1024, .inl (fun _ => 0))), (q4, .inl (ct 0, 1024, .inl (fun _ => 0))), (q5, .inl (ct 0, 50, .inl (fun _ => 0)))] : va_W) = [(ad 3, zcel ad ct zS0 3), (ad 22, zcel ad ct zS0 22), (ad 23, zcel ad ct zS0 23), (ad 24, zcel ad ct zS0 24), (ad 25, zcel ad ct zS0 25), (ad 26, zcel ad ct zS0 26), (ad 27, zcel ad ct zS0 27)]
  rw [ze_3, ze_22, ze_23, ze_24, ze_25, ze_26, ze_27]
  rw [a3, a22, a23, a24, a25, a26, a27]
abbrev zbk_1 : List Nat := [5, 29]
set_option maxHeartbeats 4000000 in
set_option maxRecDepth 100000 in
theorem zb_1 {ct : Nat → ClassId} {q : Nat} {f : List Value} {e : va_W} (h : zX1_post ct q f e) : ∃ g : Nat → Nat, g 5 = q ∧ ∀ ad : Nat → Nat, (∀ c ∈ zbk_1, ad c = g c) → ((q, .inr (1, f)) :: e : va_W) = zbk_1.map (fun c => (ad c, zcel ad ct zS0 c)) := by
  obtain ⟨q0, hf, he⟩ := h
  rw [hf, he]
  refine ⟨fun c => bif Nat.beq c 5 then q else bif Nat.beq c 29 then q0 else 0, rfl, fun ad had => ?_⟩
  have a5 : ad 5 = q := had 5 (by decide)
  have a29 : ad 29 = q0 := had 29 (by decide)
  simp only [List.nil_append, List.cons_append]
  show ([(q, .inr (1, [.ref q0, .int 0])), (q0, .inl (ct 0, 1092, .inl (fun _ => 0)))] : va_W) = [(ad 5, zcel ad ct zS0 5), (ad 29, zcel ad ct zS0 29)]
  rw [ze_5, ze_29]
  rw [a5, a29]
abbrev zbk_2 : List Nat := [2, 15, 16, 17, 18, 19, 20, 21]
set_option maxHeartbeats 4000000 in
set_option maxRecDepth 100000 in
theorem zb_2 {ct : Nat → ClassId} {q : Nat} {f : List Value} {e : va_W} (h : zX2_post ct q f e) : ∃ g : Nat → Nat, g 2 = q ∧ ∀ ad : Nat → Nat, (∀ c ∈ zbk_2, ad c = g c) → ((q, .inr (2, f)) :: e : va_W) = zbk_2.map (fun c => (ad c, zcel ad ct zS0 c)) := by
  obtain ⟨q0, q1, q2, q3, q4, q5, q6, hf, he⟩ := h
  rw [hf, he]
  refine ⟨fun c => bif Nat.beq c 2 then q else bif Nat.beq c 15 then q0 else bif Nat.beq c 16 then q1 else bif Nat.beq c 17 then q2 else bif Nat.beq c 18 then q3 else bif Nat.beq c 19 then q4 else bif Nat.beq c 20 then q5 else bif Nat.beq c 21 then q6 else 0, rfl, fun ad had => ?_⟩
  have a2 : ad 2 = q := had 2 (by decide)
  have a15 : ad 15 = q0 := had 15 (by decide)
  have a16 : ad 16 = q1 := had 16 (by decide)
  have a17 : ad 17 = q2 := had 17 (by decide)
  have a18 : ad 18 = q3 := had 18 (by decide)
  have a19 : ad 19 = q4 := had 19 (by decide)
  have a20 : ad 20 = q5 := had 20 (by decide)
  have a21 : ad 21 = q6 := had 21 (by decide)
  simp only [List.nil_append, List.cons_append]
  show ([(q, .inr (2, [.ref q0, .ref q1, .int 0, .int 30, .ref q2, .ref q3, .ref q4, .int 0, .ref q5, .ref q6, .int 0, .int 0])), (q0, .inl (ct 0, 40, .inl (fun _ => 0))), (q1, .inl (ct 0, 40, .inl (fun _ => 0))), (q2, .inl (ct 0, 40, .inl (fun _ => 0))), (q3, .inl (ct 0, 40, .inl (fun _ => 0))), (q4, .inl (ct 0, 40, .inl (fun _ => 0))), (q5, .inl (ct 0, 41, .inl (fun _ => 0))), (q6, .inl (ct 0, 40, .inl (fun _ => 0)))] : va_W) = [(ad 2, zcel ad ct zS0 2), (ad 15, zcel ad ct zS0 15), (ad 16, zcel ad ct zS0 16), (ad 17, zcel ad ct zS0 17), (ad 18, zcel ad ct zS0 18), (ad 19, zcel ad ct zS0 19), (ad 20, zcel ad ct zS0 20), (ad 21, zcel ad ct zS0 21)]
  rw [ze_2, ze_15, ze_16, ze_17, ze_18, ze_19, ze_20, ze_21]
  rw [a2, a15, a16, a17, a18, a19, a20, a21]
abbrev zbk_3 : List Nat := [8, 35, 36]
set_option maxHeartbeats 4000000 in
set_option maxRecDepth 100000 in
theorem zb_3 {ct : Nat → ClassId} {q : Nat} {f : List Value} {e : va_W} (h : zX3_post ct q f e) : ∃ g : Nat → Nat, g 8 = q ∧ ∀ ad : Nat → Nat, (∀ c ∈ zbk_3, ad c = g c) → ((q, .inr (3, f)) :: e : va_W) = zbk_3.map (fun c => (ad c, zcel ad ct zS0 c)) := by
  obtain ⟨q0, q1, hf, he⟩ := h
  rw [hf, he]
  refine ⟨fun c => bif Nat.beq c 8 then q else bif Nat.beq c 35 then q0 else bif Nat.beq c 36 then q1 else 0, rfl, fun ad had => ?_⟩
  have a8 : ad 8 = q := had 8 (by decide)
  have a35 : ad 35 = q0 := had 35 (by decide)
  have a36 : ad 36 = q1 := had 36 (by decide)
  simp only [List.nil_append, List.cons_append]
  show ([(q, .inr (3, [.ref q0, .ref q1, .int 0])), (q0, .inl (ct 0, 30, .inl (fun _ => 0))), (q1, .inl (ct 0, 30, .inl (fun _ => 0)))] : va_W) = [(ad 8, zcel ad ct zS0 8), (ad 35, zcel ad ct zS0 35), (ad 36, zcel ad ct zS0 36)]
  rw [ze_8, ze_35, ze_36]
  rw [a8, a35, a36]
abbrev zbk_4 : List Nat := [6, 30, 31, 32]
set_option maxHeartbeats 4000000 in
set_option maxRecDepth 100000 in
theorem zb_4 {ct : Nat → ClassId} {q : Nat} {f : List Value} {e : va_W} (h : zX4_post ct q f e) : ∃ g : Nat → Nat, g 6 = q ∧ ∀ ad : Nat → Nat, (∀ c ∈ zbk_4, ad c = g c) → ((q, .inr (4, f)) :: e : va_W) = zbk_4.map (fun c => (ad c, zcel ad ct zS0 c)) := by
  obtain ⟨q0, q1, q2, hf, he⟩ := h
  rw [hf, he]
  refine ⟨fun c => bif Nat.beq c 6 then q else bif Nat.beq c 30 then q0 else bif Nat.beq c 31 then q1 else bif Nat.beq c 32 then q2 else 0, rfl, fun ad had => ?_⟩
  have a6 : ad 6 = q := had 6 (by decide)
  have a30 : ad 30 = q0 := had 30 (by decide)
  have a31 : ad 31 = q1 := had 31 (by decide)
  have a32 : ad 32 = q2 := had 32 (by decide)
  simp only [List.nil_append, List.cons_append]
  show ([(q, .inr (4, [.ref q0, .ref q1, .ref q2, .int 0, .int 0])), (q0, .inl (ct 0, 313, .inl (fun _ => 0))), (q1, .inl (ct 0, 1565, .inl (fun _ => 0))), (q2, .inl (ct 2, 1565, .inr (.inl (fun _ => 0))))] : va_W) = [(ad 6, zcel ad ct zS0 6), (ad 30, zcel ad ct zS0 30), (ad 31, zcel ad ct zS0 31), (ad 32, zcel ad ct zS0 32)]
  rw [ze_6, ze_30, ze_31, ze_32]
  rw [a6, a30, a31, a32]
abbrev zbk_6 : List Nat := [7, 33, 34]
set_option maxHeartbeats 4000000 in
set_option maxRecDepth 100000 in
theorem zb_6 {ct : Nat → ClassId} {q : Nat} {f : List Value} {e : va_W} (h : zX6_post ct q f e) : ∃ g : Nat → Nat, g 7 = q ∧ ∀ ad : Nat → Nat, (∀ c ∈ zbk_6, ad c = g c) → ((q, .inr (6, f)) :: e : va_W) = zbk_6.map (fun c => (ad c, zcel ad ct zS0 c)) := by
  obtain ⟨q0, q1, hf, he⟩ := h
  rw [hf, he]
  refine ⟨fun c => bif Nat.beq c 7 then q else bif Nat.beq c 33 then q0 else bif Nat.beq c 34 then q1 else 0, rfl, fun ad had => ?_⟩
  have a7 : ad 7 = q := had 7 (by decide)
  have a33 : ad 33 = q0 := had 33 (by decide)
  have a34 : ad 34 = q1 := had 34 (by decide)
  simp only [List.nil_append, List.cons_append]
  show ([(q, .inr (6, [.ref q0, .ref q1])), (q0, .inl (ct 0, 195, .inl (fun _ => 0))), (q1, .inl (ct 0, 12, .inl (fun _ => 0)))] : va_W) = [(ad 7, zcel ad ct zS0 7), (ad 33, zcel ad ct zS0 33), (ad 34, zcel ad ct zS0 34)]
  rw [ze_7, ze_33, ze_34]
  rw [a7, a33, a34]
abbrev zbk_7 : List Nat := [4, 28]
set_option maxHeartbeats 4000000 in
set_option maxRecDepth 100000 in
theorem zb_7 {ct : Nat → ClassId} {q : Nat} {f : List Value} {e : va_W} (h : zX7_post ct q f e) : ∃ g : Nat → Nat, g 4 = q ∧ ∀ ad : Nat → Nat, (∀ c ∈ zbk_7, ad c = g c) → ((q, .inr (7, f)) :: e : va_W) = zbk_7.map (fun c => (ad c, zcel ad ct zS0 c)) := by
  obtain ⟨q0, hf, he⟩ := h
  rw [hf, he]
  refine ⟨fun c => bif Nat.beq c 4 then q else bif Nat.beq c 28 then q0 else 0, rfl, fun ad had => ?_⟩
  have a4 : ad 4 = q := had 4 (by decide)
  have a28 : ad 28 = q0 := had 28 (by decide)
  simp only [List.nil_append, List.cons_append]
  show ([(q, .inr (7, [.long 0, .int 0, .ref q0, .int 0])), (q0, .inl (ct 2, 30, .inr (.inl (fun _ => 0))))] : va_W) = [(ad 4, zcel ad ct zS0 4), (ad 28, zcel ad ct zS0 28)]
  rw [ze_4, ze_28]
  rw [a4, a28]
abbrev zbk_5 : List Nat := [1, 11, 12, 13, 14, 65, 66, 67, 68, 69, 70, 71, 72]
set_option maxHeartbeats 4000000 in
set_option maxRecDepth 100000 in
theorem zb_5 {ct : Nat → ClassId} {q : Nat} {f : List Value} {e : va_W} (h : zX5_post ct q f e) : ∃ g : Nat → Nat, g 1 = q ∧ ∀ ad : Nat → Nat, (∀ c ∈ zbk_5, ad c = g c) → ((q, .inr (5, f)) :: e : va_W) = zbk_5.map (fun c => (ad c, zcel ad ct zS0 c)) := by
  obtain ⟨q0, q1, q2, q3, hf, he⟩ := h
  rw [hf, he]
  refine ⟨fun c => bif Nat.beq c 1 then q else bif Nat.beq c 11 then q0 else bif Nat.beq c 12 then q1 else bif Nat.beq c 13 then q2 else bif Nat.beq c 14 then q3 else q3 + 1 + (c - 65), rfl, fun ad had => ?_⟩
  have a1 : ad 1 = q := had 1 (by decide)
  have a11 : ad 11 = q0 := had 11 (by decide)
  have a12 : ad 12 = q1 := had 12 (by decide)
  have a13 : ad 13 = q2 := had 13 (by decide)
  have a14 : ad 14 = q3 := had 14 (by decide)
  have a65 : ad 65 = q3 + 1 + 0 := had 65 (by decide)
  have a66 : ad 66 = q3 + 1 + 1 := had 66 (by decide)
  have a67 : ad 67 = q3 + 1 + 2 := had 67 (by decide)
  have a68 : ad 68 = q3 + 1 + 3 := had 68 (by decide)
  have a69 : ad 69 = q3 + 1 + 4 := had 69 (by decide)
  have a70 : ad 70 = q3 + 1 + 5 := had 70 (by decide)
  have a71 : ad 71 = q3 + 1 + 6 := had 71 (by decide)
  have a72 : ad 72 = q3 + 1 + 7 := had 72 (by decide)
  have hr : ∀ j, j < 8 → ad (65 + j) = ad 14 + 1 + j := by
    intro j hj
    rw [a14]
    match j, hj with
    | 0, _ => exact a65
    | 1, _ => exact a66
    | 2, _ => exact a67
    | 3, _ => exact a68
    | 4, _ => exact a69
    | 5, _ => exact a70
    | 6, _ => exact a71
    | 7, _ => exact a72
    | n + 8, h => omega
  show ([(q, .inr (5, [.ref q0, .ref q1, .ref q2, .ref q3])), (q0, .inl (ct 1, 8, .inl (fun _ => 0))), (q1, .inl (ct 0, 8, .inl (fun _ => 0))), (q2, .inl (ct 0, 8, .inl (fun _ => 0))), (q3, .inl (ct 3, 8, .inr (.inr (.inr (.inr (fun j => if j < 8 then some (q3 + 1 + j) else none)))))), (q3 + 1 + 0, .inl (ct 0, 80, .inl (fun _ => 0))), (q3 + 1 + 1, .inl (ct 0, 80, .inl (fun _ => 0))), (q3 + 1 + 2, .inl (ct 0, 80, .inl (fun _ => 0))), (q3 + 1 + 3, .inl (ct 0, 80, .inl (fun _ => 0))), (q3 + 1 + 4, .inl (ct 0, 80, .inl (fun _ => 0))), (q3 + 1 + 5, .inl (ct 0, 80, .inl (fun _ => 0))), (q3 + 1 + 6, .inl (ct 0, 80, .inl (fun _ => 0))), (q3 + 1 + 7, .inl (ct 0, 80, .inl (fun _ => 0)))] : va_W) = [(ad 1, zcel ad ct zS0 1), (ad 11, zcel ad ct zS0 11), (ad 12, zcel ad ct zS0 12), (ad 13, zcel ad ct zS0 13), (ad 14, zcel ad ct zS0 14), (ad 65, zcel ad ct zS0 65), (ad 66, zcel ad ct zS0 66), (ad 67, zcel ad ct zS0 67), (ad 68, zcel ad ct zS0 68), (ad 69, zcel ad ct zS0 69), (ad 70, zcel ad ct zS0 70), (ad 71, zcel ad ct zS0 71), (ad 72, zcel ad ct zS0 72)]
  rw [ze_1, ze_11, ze_12, ze_13, ze_14 hr, ze_65, ze_66, ze_67, ze_68, ze_69, ze_70, ze_71, ze_72]
  rw [a1, a11, a12, a13, a14, a65, a66, a67, a68, a69, a70, a71, a72]
abbrev zbk_9 : List Nat := [9, 37, 38, 39, 40, 41, 42, 43, 44, 45, 46, 47, 48, 49, 50, 51, 52, 53, 54, 55, 56, 57, 58, 59, 60, 61, 62, 63, 64]
set_option maxHeartbeats 4000000 in
set_option maxRecDepth 100000 in
theorem zb_9 {ct : Nat → ClassId} {q : Nat} {f : List Value} {e : va_W} (h : zX9_post ct q f e) : ∃ g : Nat → Nat, g 9 = q ∧ ∀ ad : Nat → Nat, (∀ c ∈ zbk_9, ad c = g c) → ((q, .inr (9, f)) :: e : va_W) = zbk_9.map (fun c => (ad c, zcel ad ct zS0 c)) := by
  obtain ⟨q0, q1, q2, q3, q4, q5, q6, q7, q8, q9, q10, q11, q12, q13, q14, q15, q16, q17, q18, q19, q20, q21, q22, q23, q24, q25, q26, q27, hf, he⟩ := h
  rw [hf, he]
  refine ⟨fun c => bif Nat.beq c 9 then q else bif Nat.beq c 37 then q0 else bif Nat.beq c 38 then q1 else bif Nat.beq c 39 then q2 else bif Nat.beq c 40 then q3 else bif Nat.beq c 41 then q4 else bif Nat.beq c 42 then q5 else bif Nat.beq c 43 then q6 else bif Nat.beq c 44 then q7 else bif Nat.beq c 45 then q8 else bif Nat.beq c 46 then q9 else bif Nat.beq c 47 then q10 else bif Nat.beq c 48 then q11 else bif Nat.beq c 49 then q12 else bif Nat.beq c 50 then q13 else bif Nat.beq c 51 then q14 else bif Nat.beq c 52 then q15 else bif Nat.beq c 53 then q16 else bif Nat.beq c 54 then q17 else bif Nat.beq c 55 then q18 else bif Nat.beq c 56 then q19 else bif Nat.beq c 57 then q20 else bif Nat.beq c 58 then q21 else bif Nat.beq c 59 then q22 else bif Nat.beq c 60 then q23 else bif Nat.beq c 61 then q24 else bif Nat.beq c 62 then q25 else bif Nat.beq c 63 then q26 else bif Nat.beq c 64 then q27 else 0, rfl, fun ad had => ?_⟩
  have a9 : ad 9 = q := had 9 (by decide)
  have a37 : ad 37 = q0 := had 37 (by decide)
  have a38 : ad 38 = q1 := had 38 (by decide)
  have a39 : ad 39 = q2 := had 39 (by decide)
  have a40 : ad 40 = q3 := had 40 (by decide)
  have a41 : ad 41 = q4 := had 41 (by decide)
  have a42 : ad 42 = q5 := had 42 (by decide)
  have a43 : ad 43 = q6 := had 43 (by decide)
  have a44 : ad 44 = q7 := had 44 (by decide)
  have a45 : ad 45 = q8 := had 45 (by decide)
  have a46 : ad 46 = q9 := had 46 (by decide)
  have a47 : ad 47 = q10 := had 47 (by decide)
  have a48 : ad 48 = q11 := had 48 (by decide)
  have a49 : ad 49 = q12 := had 49 (by decide)
  have a50 : ad 50 = q13 := had 50 (by decide)
  have a51 : ad 51 = q14 := had 51 (by decide)
  have a52 : ad 52 = q15 := had 52 (by decide)
  have a53 : ad 53 = q16 := had 53 (by decide)
  have a54 : ad 54 = q17 := had 54 (by decide)
  have a55 : ad 55 = q18 := had 55 (by decide)
  have a56 : ad 56 = q19 := had 56 (by decide)
  have a57 : ad 57 = q20 := had 57 (by decide)
  have a58 : ad 58 = q21 := had 58 (by decide)
  have a59 : ad 59 = q22 := had 59 (by decide)
  have a60 : ad 60 = q23 := had 60 (by decide)
  have a61 : ad 61 = q24 := had 61 (by decide)
  have a62 : ad 62 = q25 := had 62 (by decide)
  have a63 : ad 63 = q26 := had 63 (by decide)
  have a64 : ad 64 = q27 := had 64 (by decide)
  simp only [List.nil_append, List.cons_append]
  show ([(q, .inr (9, [.ref q0, .ref q1, .ref q2, .ref q3, .int 0, .int 0, .ref q4, .ref q5, .ref q6, .int 0, .ref q7, .int 0, .int 30, .int 0, .ref q8, .ref q9, .ref q10, .int 0, .ref q11, .ref q12, .int 0, .ref q13, .int 0, .ref q14, .ref q15, .int 0, .ref q16, .ref q17, .int 0, .ref q18, .ref q19, .ref q20, .ref q21, .ref q22, .ref q23, .ref q24, .ref q25, .ref q26, .ref q27])), (q0, .inl (ct 0, 8, .inl (fun _ => 0))), (q1, .inl (ct 0, 8, .inl (fun _ => 0))), (q2, .inl (ct 0, 640, .inl (fun _ => 0))), (q3, .inl (ct 0, 80, .inl (fun _ => 0))), (q4, .inl (ct 0, 40, .inl (fun _ => 0))), (q5, .inl (ct 0, 40, .inl (fun _ => 0))), (q6, .inl (ct 0, 40, .inl (fun _ => 0))), (q7, .inl (ct 0, 40, .inl (fun _ => 0))), (q8, .inl (ct 0, 41, .inl (fun _ => 0))), (q9, .inl (ct 0, 40, .inl (fun _ => 0))), (q10, .inl (ct 0, 49660, .inl (fun _ => 0))), (q11, .inl (ct 0, 12000, .inl (fun _ => 0))), (q12, .inl (ct 0, 12000, .inl (fun _ => 0))), (q13, .inl (ct 0, 50, .inl (fun _ => 0))), (q14, .inl (ct 0, 30, .inl (fun _ => 0))), (q15, .inl (ct 0, 360, .inl (fun _ => 0))), (q16, .inl (ct 0, 12, .inl (fun _ => 0))), (q17, .inl (ct 0, 16, .inl (fun _ => 0))), (q18, .inl (ct 1, 40, .inl (fun _ => 0))), (q19, .inl (ct 0, 40, .inl (fun _ => 0))), (q20, .inl (ct 0, 200, .inl (fun _ => 0))), (q21, .inl (ct 2, 200, .inr (.inl (fun _ => 0)))), (q22, .inl (ct 0, 200, .inl (fun _ => 0))), (q23, .inl (ct 0, 195, .inl (fun _ => 0))), (q24, .inl (ct 0, 5070, .inl (fun _ => 0))), (q25, .inl (ct 0, 25350, .inl (fun _ => 0))), (q26, .inl (ct 2, 25350, .inr (.inl (fun _ => 0)))), (q27, .inl (ct 0, 12, .inl (fun _ => 0)))] : va_W) = [(ad 9, zcel ad ct zS0 9), (ad 37, zcel ad ct zS0 37), (ad 38, zcel ad ct zS0 38), (ad 39, zcel ad ct zS0 39), (ad 40, zcel ad ct zS0 40), (ad 41, zcel ad ct zS0 41), (ad 42, zcel ad ct zS0 42), (ad 43, zcel ad ct zS0 43), (ad 44, zcel ad ct zS0 44), (ad 45, zcel ad ct zS0 45), (ad 46, zcel ad ct zS0 46), (ad 47, zcel ad ct zS0 47), (ad 48, zcel ad ct zS0 48), (ad 49, zcel ad ct zS0 49), (ad 50, zcel ad ct zS0 50), (ad 51, zcel ad ct zS0 51), (ad 52, zcel ad ct zS0 52), (ad 53, zcel ad ct zS0 53), (ad 54, zcel ad ct zS0 54), (ad 55, zcel ad ct zS0 55), (ad 56, zcel ad ct zS0 56), (ad 57, zcel ad ct zS0 57), (ad 58, zcel ad ct zS0 58), (ad 59, zcel ad ct zS0 59), (ad 60, zcel ad ct zS0 60), (ad 61, zcel ad ct zS0 61), (ad 62, zcel ad ct zS0 62), (ad 63, zcel ad ct zS0 63), (ad 64, zcel ad ct zS0 64)]
  rw [ze_9, ze_37, ze_38, ze_39, ze_40, ze_41, ze_42, ze_43, ze_44, ze_45, ze_46, ze_47, ze_48, ze_49, ze_50, ze_51, ze_52, ze_53, ze_54, ze_55, ze_56, ze_57, ze_58, ze_59, ze_60, ze_61, ze_62, ze_63, ze_64]
  rw [a9, a37, a38, a39, a40, a41, a42, a43, a44, a45, a46, a47, a48, a49, a50, a51, a52, a53, a54, a55, a56, a57, a58, a59, a60, a61, a62, a63, a64]
