/-! the made world is the fresh store's: all of it -/
theorem zp_P {D : va_G} {cl : List vw_C} {H : Heap} {F : Nat → Nat × va_E} {seq pos : List Nat} {n : Nat} (hp : ∀ c, c < n → seq[pos.getD c 0]? = some c) (h : va_P D cl (seq.map F) H) : va_P D cl ((List.range n).map F) H := by
  intro k q hk
  have hlt : k < n := by
    have := (List.getElem?_eq_some_iff.mp hk).1
    rw [List.length_map, List.length_range] at this
    exact this
  rw [List.getElem?_map, List.getElem?_range hlt] at hk
  have e : F k = q := Option.some.inj hk
  subst e
  exact h (pos.getD k 0) (F k) (by rw [List.getElem?_map, hp k hlt]; rfl)
theorem zp_D {A : Nat → Prop} {F : Nat → Nat × va_E} {seq pos : List Nat} {n : Nat} (hp : ∀ c, c < n → seq[pos.getD c 0]? = some c) (h : va_D A (seq.map F)) : va_D A ((List.range n).map F) := by
  have key : ∀ (k : Nat) (q : Nat × va_E), ((List.range n).map F)[k]? = some q → k < n ∧ (seq.map F)[pos.getD k 0]? = some q := by
    intro k q hk
    have hlt : k < n := by
      have := (List.getElem?_eq_some_iff.mp hk).1
      rw [List.length_map, List.length_range] at this
      exact this
    rw [List.getElem?_map, List.getElem?_range hlt] at hk
    exact ⟨hlt, by rw [List.getElem?_map, hp k hlt]; exact hk⟩
  refine ⟨fun i j x y hi hj hxy => ?_, fun k q hk => h.2 _ q (key k q hk).2⟩
  obtain ⟨i1, i2⟩ := key i x hi
  obtain ⟨j1, j2⟩ := key j y hj
  have e := h.1 _ _ x y i2 j2 hxy
  have e2 := hp i i1
  rw [e, hp j j1] at e2
  exact (Option.some.inj e2).symm
abbrev zseq : List Nat := ([] ++ ([0] ++ ((((((((([] ++ zbk_5) ++ zbk_2) ++ zbk_0) ++ zbk_7) ++ zbk_1) ++ zbk_4) ++ zbk_6) ++ zbk_3) ++ [10]))) ++ zbk_9
def zpos : List Nat := [0, 1, 14, 22, 29, 31, 33, 37, 40, 44, 43, 2, 3, 4, 5, 15, 16, 17, 18, 19, 20, 21, 23, 24, 25, 26, 27, 28, 30, 32, 34, 35, 36, 38, 39, 41, 42, 45, 46, 47, 48, 49, 50, 51, 52, 53, 54, 55, 56, 57, 58, 59, 60, 61, 62, 63, 64, 65, 66, 67, 68, 69, 70, 71, 72, 6, 7, 8, 9, 10, 11, 12, 13]
theorem zpos_ok : ∀ c, c < 73 → zseq[zpos.getD c 0]? = some c := by decide +kernel
set_option maxHeartbeats 4000000 in
set_option maxRecDepth 100000 in
theorem zw_made {D : va_G} {ct : Nat → ClassId} {AA : Nat → Prop} {b a0 a9 : Nat} {f8 f9 : List Value} {e8 e9 : va_W} {H : Heap} (h8 : zX8_post ct a0 f8 e8) (h9 : zX9_post ct a9 f9 e9) (hP : va_P D zcl (([] ++ ((a0, .inr (8, f8)) :: e8)) ++ ((a9, .inr (9, f9)) :: e9)) H) (hD : va_D AA (([] ++ ((a0, .inr (8, f8)) :: e8)) ++ ((a9, .inr (9, f9)) :: e9))) : ∃ ad : Nat → Nat, ad 0 = a0 ∧ ad 9 = a9 ∧ ad 1000 = b ∧ va_P D zcl (zwl ad ct zS0) H ∧ va_D AA (zwl ad ct zS0) := by
  obtain ⟨q0, q1, q2, q3, q4, q5, q6, q7, q8, xf1, xe1, xf2, xe2, xf3, xe3, xf4, xe4, xf5, xe5, xf6, xe6, xf7, xe7, xf8, xe8, p5, p2, p0, p7, p1, p4, p6, p3, hf8, he8⟩ := h8
  subst hf8
  subst he8
  obtain ⟨g0, w0, z0⟩ := zb_0 p0
  obtain ⟨g1, w1, z1⟩ := zb_1 p1
  obtain ⟨g2, w2, z2⟩ := zb_2 p2
  obtain ⟨g3, w3, z3⟩ := zb_3 p3
  obtain ⟨g4, w4, z4⟩ := zb_4 p4
  obtain ⟨g6, w6, z6⟩ := zb_6 p6
  obtain ⟨g7, w7, z7⟩ := zb_7 p7
  obtain ⟨g5, w5, z5⟩ := zb_5 p5
  obtain ⟨g9, w9, z9⟩ := zb_9 h9
  obtain ⟨ad, had⟩ : ∃ ad : Nat → Nat, ad = (fun c : Nat => bif zbk_0.contains c then g0 c else bif zbk_1.contains c then g1 c else bif zbk_2.contains c then g2 c else bif zbk_3.contains c then g3 c else bif zbk_4.contains c then g4 c else bif zbk_6.contains c then g6 c else bif zbk_7.contains c then g7 c else bif zbk_5.contains c then g5 c else bif zbk_9.contains c then g9 c else bif Nat.beq c 0 then a0 else bif Nat.beq c 10 then q8 else bif Nat.beq c 1000 then b else 0) := ⟨_, rfl⟩
  have y0 : ∀ c ∈ zbk_0, ad c = g0 c := by
    rw [had]
    simp only [List.forall_mem_cons]
    exact ⟨rfl, rfl, rfl, rfl, rfl, rfl, rfl, fun c hc => absurd hc List.not_mem_nil⟩
  have y1 : ∀ c ∈ zbk_1, ad c = g1 c := by
    rw [had]
    simp only [List.forall_mem_cons]
    exact ⟨rfl, rfl, fun c hc => absurd hc List.not_mem_nil⟩
  have y2 : ∀ c ∈ zbk_2, ad c = g2 c := by
    rw [had]
    simp only [List.forall_mem_cons]
    exact ⟨rfl, rfl, rfl, rfl, rfl, rfl, rfl, rfl, fun c hc => absurd hc List.not_mem_nil⟩
  have y3 : ∀ c ∈ zbk_3, ad c = g3 c := by
    rw [had]
    simp only [List.forall_mem_cons]
    exact ⟨rfl, rfl, rfl, fun c hc => absurd hc List.not_mem_nil⟩
  have y4 : ∀ c ∈ zbk_4, ad c = g4 c := by
    rw [had]
    simp only [List.forall_mem_cons]
    exact ⟨rfl, rfl, rfl, rfl, fun c hc => absurd hc List.not_mem_nil⟩
  have y6 : ∀ c ∈ zbk_6, ad c = g6 c := by
    rw [had]
    simp only [List.forall_mem_cons]
    exact ⟨rfl, rfl, rfl, fun c hc => absurd hc List.not_mem_nil⟩
  have y7 : ∀ c ∈ zbk_7, ad c = g7 c := by
    rw [had]
    simp only [List.forall_mem_cons]
    exact ⟨rfl, rfl, fun c hc => absurd hc List.not_mem_nil⟩
  have y5 : ∀ c ∈ zbk_5, ad c = g5 c := by
    rw [had]
    simp only [List.forall_mem_cons]
    exact ⟨rfl, rfl, rfl, rfl, rfl, rfl, rfl, rfl, rfl, rfl, rfl, rfl, rfl, fun c hc => absurd hc List.not_mem_nil⟩
  have y9 : ∀ c ∈ zbk_9, ad c = g9 c := by
    rw [had]
    simp only [List.forall_mem_cons]
    exact ⟨rfl, rfl, rfl, rfl, rfl, rfl, rfl, rfl, rfl, rfl, rfl, rfl, rfl, rfl, rfl, rfl, rfl, rfl, rfl, rfl, rfl, rfl, rfl, rfl, rfl, rfl, rfl, rfl, rfl, fun c hc => absurd hc List.not_mem_nil⟩
  have r0 : ad 0 = a0 := by rw [had]; rfl
  have r10 : ad 10 = q8 := by rw [had]; rfl
  have rb : ad 1000 = b := by rw [had]; rfl
  have r3 : ad 3 = q2 := (y0 3 (by decide)).trans w0
  have r5 : ad 5 = q4 := (y1 5 (by decide)).trans w1
  have r2 : ad 2 = q1 := (y2 2 (by decide)).trans w2
  have r8 : ad 8 = q7 := (y3 8 (by decide)).trans w3
  have r6 : ad 6 = q5 := (y4 6 (by decide)).trans w4
  have r7 : ad 7 = q6 := (y6 7 (by decide)).trans w6
  have r4 : ad 4 = q3 := (y7 4 (by decide)).trans w7
  have r1 : ad 1 = q0 := (y5 1 (by decide)).trans w5
  have r9 : ad 9 = a9 := (y9 9 (by decide)).trans w9
  clear had
  have e0 : ((a0, .inr (8, [.ref q0, .ref q1, .ref q2, .ref q3, .int (-1), .ref q4, .ref q5, .ref q6, .ref q7, .ref q8, .int 0, .int 0])) : Nat × va_E) = (ad 0, zcel ad ct zS0 0) := by
    rw [ze_0, r0, r10, r3, r5, r2, r8, r6, r7, r4, r1]
  have e10 : ((q8, .inl (ct 0, 16, .inl (fun _ => 0))) : Nat × va_E) = (ad 10, zcel ad ct zS0 10) := by
    rw [ze_10, r10]
  have hw : (([] ++ ((a0, .inr (8, [.ref q0, .ref q1, .ref q2, .ref q3, .int (-1), .ref q4, .ref q5, .ref q6, .ref q7, .ref q8, .int 0, .int 0])) :: (((((((((([] : va_W) ++ ((q0, .inr (5, xf1)) :: xe1)) ++ ((q1, .inr (2, xf2)) :: xe2)) ++ ((q2, .inr (0, xf3)) :: xe3)) ++ ((q3, .inr (7, xf4)) :: xe4)) ++ ((q4, .inr (1, xf5)) :: xe5)) ++ ((q5, .inr (4, xf6)) :: xe6)) ++ ((q6, .inr (6, xf7)) :: xe7)) ++ ((q7, .inr (3, xf8)) :: xe8)) ++ [(q8, .inl (ct 0, 16, .inl (fun _ => 0)))]))) ++ ((a9, .inr (9, f9)) :: e9) : va_W) = zseq.map (fun c => (ad c, zcel ad ct zS0 c)) := by
    rw [z0 ad y0, z1 ad y1, z2 ad y2, z3 ad y3, z4 ad y4, z6 ad y6, z7 ad y7, z5 ad y5, z9 ad y9, e0, e10]
    simp only [zseq, List.map_append, List.map_cons, List.map_nil, List.nil_append, List.cons_append]
  have hP : va_P D zcl (zseq.map (fun c => (ad c, zcel ad ct zS0 c))) H := hw ▸ hP
  have hD : va_D AA (zseq.map (fun c => (ad c, zcel ad ct zS0 c))) := hw ▸ hD
  exact ⟨ad, r0, r9, rb, zp_P zpos_ok hP, zp_D zpos_ok hD⟩
