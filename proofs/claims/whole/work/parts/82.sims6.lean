/-! the two systems answer alike: open, kind, as, ask -/
theorem zNW_K {σ u t : zS} {i : Int} (h : zNW u t i) (e : ∀ c ∈ [42, 43, 45, 47], u c = σ c) : zKP t i (zSD (zmft σ i) (zPM σ) (zmq σ i)) ∧ zfr zMK u t ∧ zMI t := by
  obtain ⟨a, b, c⟩ := zmft_fr (σ := σ) (t := u) (i := i) (e 42 (by decide)) (e 43 (by decide)) (e 45 (by decide)) (e 47 (by decide))
  have q := h.2.2.1
  rw [a, b, c] at q
  exact ⟨q, h.1, h.2.1⟩
theorem zRel_F {n : Int} {σ u t : zS} {i : Int} (h : zRel n σ) (hT : zTK zHK σ u (zRcn σ) (zPM σ) i) (hf : zfr zMK u t) (hM : zMI t) : zRel (n + 1) t := by
  have e9 : t 9 = σ 9 := by rw [hf 9 (by decide), hT.1 9 (by decide)]
  have e0 : t 0 = u 0 := hf 0 (by decide)
  refine zRel_K (fun c hc => ?_) (fun j _ _ => by rw [e9]) (by rw [e0, e9, hT.2.1 11 (by decide)]; exact h.2.1) (zrF_fr (σ := σ) (by rw [hf 10 (by decide), hT.1 10 (by decide)]) (by rw [hf 54 (by decide), hT.1 54 (by decide)]) (by rw [e0, hT.2.1 10 (by decide)]) (by rw [e9]) h.2.2.2.2.2.2.1) (zIH_fr (hf.on (by decide)) (Or.inl (by rw [e0])) (zTK_IH hT)) hM h
  simp only [List.mem_cons, List.not_mem_nil, or_false, not_or] at hc
  rw [hf c (by simp only [List.mem_cons, List.not_mem_nil, or_false, not_or]; omega), hT.1 c (by simp only [List.mem_cons, List.not_mem_nil, or_false, not_or]; omega)]
theorem sm_open {n : Int} {σ : zS} (h : zRel n σ) (i j k : Int) : zSim n σ 66 141 [i, j, k] := by
  have hE := zrB_eq h.2.2.1
  refine ⟨_, am_X8_open (zRel_CQ h), fun v u r => ?_⟩
  have hk : zfr zHK σ u := by
    rcases r with ⟨-, rfl, -⟩ | ⟨-, hT, -⟩
    · exact zfr.rf
    · exact hT.1
  refine ⟨_, am_X9_open (zMQ2_fr (zRel_MQ h) (hk.on (by decide))), fun v' u' r' => ?_⟩
  rw [hk 9 (by decide)] at r'
  rcases r with ⟨q, rfl, rfl⟩ | ⟨q, hT, hv⟩
  · rcases r' with ⟨q', rfl, rfl⟩ | ⟨q', -⟩
    · exact ⟨rfl, zRel_up h⟩
    · omega
  · rcases r' with ⟨q', -⟩ | ⟨q', hN, hv'⟩
    · omega
    · obtain ⟨n1, n2, n3⟩ := zNW_K (σ := σ) hN (hk.on (by decide))
      obtain ⟨⟨e1, e2⟩, e3⟩ := zRT h q.1 hT n1
      refine ⟨?_, zRel_F h hT n2 n3⟩
      rcases hv with ⟨a, rfl⟩ | ⟨a, g, m, g1, g2, g3, g4⟩
      · rcases hv' with ⟨b, rfl⟩ | ⟨b, -⟩
        · rfl
        · omega
      · rcases hv' with ⟨b, -⟩ | ⟨b, g', m', f1, f2, f3, f4, f5⟩
        · omega
        · have e4 := e3 j q.2.1.1 b
          rw [f3, f4, zlf_lc, g3] at e4
          obtain ⟨c1, c2⟩ := zlc_inj g1 f1 g2.2 f2.2 e4.2
          rw [← g4, ← f5, e4.1]
          unfold zopA
          rw [c1]
          by_cases z1 : k = -1
          · rw [if_pos z1, if_pos z1]
          · rw [if_neg z1, if_neg z1]
            by_cases z2 : k = -2
            · rw [if_pos z2, if_pos z2]
            · rw [if_neg z2, if_neg z2]
              by_cases z3 : k < (m' : Int)
              · rw [if_pos z3, if_pos z3]
                exact c2 k.toNat (by omega)
              · rw [if_neg z3, if_neg z3]
theorem zKD {n : Int} {σ u t : zS} {i w w' : Int} (h : zRel n σ) (hi : 0 ≤ i ∧ i < σ 2 10) (hT : zTK zHK σ u (zRcn σ) (zPM σ) i) (hK : zKP t i (zSD (zmft σ i) (zPM σ) (zmq σ i))) (e22 : t 9 22 = σ 9 22) (e51 : t 51 = σ 51) (e52 : t 52 = σ 52) (p : zplace u (u 32 1560) w) (q : zFW t i w') : zmk u w = zmkM t i w' ∧ (0 ≤ zmk u w ∧ zmk u w ≤ 3) ∧ (zmk u w = 3 → w = w') ∧ (¬ zmk u w = 0 → u 31 1560 = t 57 (5 * i)) := by
  obtain ⟨⟨e1, e2⟩, e3⟩ := zRT h hi hT hK
  obtain ⟨f1, f2, W, M, f3, f4⟩ := h.2.2.2.2.2.1
  unfold zmk zmkM
  rw [e1]
  by_cases z : t 56 i = 0
  · rw [if_pos z, if_pos z]
    exact ⟨rfl, by decide, fun y => absurd y (by decide), fun y => absurd rfl y⟩
  · rw [if_neg z, if_neg z]
    obtain ⟨g, m, g1, g2, g3, g4, g5⟩ := q z
    have a0 := e3 0 (by decide) (by omega)
    rw [Int.add_zero, Int.add_zero, g3, g4, zlf_lc] at a0
    rw [a0.2] at p
    have key := zpl_fil (σ := u) (τ := t) (L := σ 4 3) (W := W) (M := M) (f := g) (m := m) (g := fun k : Int => g k.toNat) (by unfold zWC; rw [hT.1 28 (by decide)]; exact f3) (by unfold zWM; rw [e51, e52]; exact f4) (by rw [hT.1 4 (by decide)]) (by rw [e22]; exact f2) g1 g2.2 (fun k k0 k1 => rfl) p g5
    by_cases y : 1 < t 56 i
    · have a1 := e3 1 (by decide) y
      have e9 : (1560 : Int) + 1 = 1561 := rfl
      rw [e9] at a1
      rw [a0.1, a1.1]
      by_cases x : t 57 (5 * i + 1) - t 57 (5 * i) < 4
      · rw [if_pos ⟨y, x⟩, if_pos ⟨y, by omega⟩]
        exact ⟨rfl, by decide, fun y => absurd y (by decide), fun _ => rfl⟩
      · have x1 : ¬ (1 < t 56 i ∧ t 57 (5 * i + 1) - t 57 (5 * i) < 4) := fun b => x b.2
        have x2 : ¬ (1 < t 56 i ∧ t 57 (5 * i + 1) < t 57 (5 * i) + 4) := fun b => x (by omega)
        rw [if_neg x1, if_neg x2]
        by_cases b : w < 0
        · rw [if_pos b, if_pos (by omega : w' = -1000000)]
          exact ⟨rfl, by decide, fun y => absurd y (by decide), fun _ => rfl⟩
        · rw [if_neg b, if_neg (by omega : ¬ w' = -1000000)]
          exact ⟨rfl, by decide, fun _ => by omega, fun _ => rfl⟩
    · have x1 : ¬ (1 < t 56 i ∧ u 31 1561 - t 57 (5 * i) < 4) := fun b => y b.1
      have x2 : ¬ (1 < t 56 i ∧ t 57 (5 * i + 1) < t 57 (5 * i) + 4) := fun b => y b.1
      rw [a0.1, if_neg x1, if_neg x2]
      by_cases b : w < 0
      · rw [if_pos b, if_pos (by omega : w' = -1000000)]
        exact ⟨rfl, by decide, fun y => absurd y (by decide), fun _ => rfl⟩
      · rw [if_neg b, if_neg (by omega : ¬ w' = -1000000)]
        exact ⟨rfl, by decide, fun _ => by omega, fun _ => rfl⟩
theorem sm_kind {n : Int} {σ : zS} (h : zRel n σ) (i : Int) : zSim n σ 70 149 [i] := by
  have hE := zrB_eq h.2.2.1
  refine ⟨_, am_X8_kind (zRel_CQ h), fun v u r => ?_⟩
  have hk : zfr zHK σ u := by
    rcases r with ⟨-, rfl, -⟩ | ⟨-, hT, -⟩
    · exact zfr.rf
    · exact hT.1
  refine ⟨_, am_X9_kind (zMQ2_fr (zRel_MQ h) (hk.on (by decide))), fun v' u' r' => ?_⟩
  rw [hk 9 (by decide)] at r'
  rcases r with ⟨q, rfl, rfl⟩ | ⟨q, hT, w, hw, hv⟩
  · rcases r' with ⟨q', rfl, rfl⟩ | ⟨q', -⟩
    · exact ⟨rfl, zRel_up h⟩
    · omega
  · rcases r' with ⟨q', -⟩ | ⟨q', hN, w', hw', hv'⟩
    · omega
    · obtain ⟨n1, n2, n3⟩ := zNW_K (σ := σ) hN (hk.on (by decide))
      have e := zKD h q hT n1 (by rw [n2 9 (by decide), hk 9 (by decide)]) (by rw [n2 51 (by decide), hk 51 (by decide)]) (by rw [n2 52 (by decide), hk 52 (by decide)]) hw hw'
      exact ⟨by rw [← hv, ← hv', e.1], zRel_F h hT n2 n3⟩
theorem zRel_G {n x : Int} {σ τ t : zS} {i : Int} (h : zRel n σ) (hT : zTK zHK σ τ (zRcn σ) (zPM σ) i) (hf : zfr zMK (zup τ 0 11 x) t) (hM : zMI t) : zRel (n + 1) (zup t 9 4 x) := by
  have e9 : t 9 = σ 9 := by
    rw [hf 9 (by decide)]
    exact hT.1 9 (by decide)
  have e0 : ∀ j : Int, t 0 j = if j = 11 then x else τ 0 j := fun j => by rw [hf 0 (by decide)]; rfl
  refine zRel_K (fun c hc => ?_) (fun j j1 _ => ?_) ?_ (zrF_fr (σ := σ) ?_ ?_ ?_ ?_ h.2.2.2.2.2.2.1) (zIH_fr (σ := τ) (fun c hc => ?_) (Or.inl ?_) (zTK_IH hT)) (zRMI_fr (σ := t) (fun c hc => ?_) ?_ hM) h
  · simp only [List.mem_cons, List.not_mem_nil, or_false, not_or] at hc
    rw [zup_ne (by omega), hf c (by simp only [List.mem_cons, List.not_mem_nil, or_false, not_or]; omega), zup_ne (by omega), hT.1 c (by simp only [List.mem_cons, List.not_mem_nil, or_false, not_or]; omega)]
  · show (if j = 4 then x else t 9 j) = _
    rw [if_neg j1, e9]
  · show t 0 11 = x
    rw [e0, if_pos rfl]
  · show t 10 = σ 10
    rw [hf 10 (by decide)]
    exact hT.1 10 (by decide)
  · show t 54 = σ 54
    rw [hf 54 (by decide)]
    exact hT.1 54 (by decide)
  · show t 0 10 = σ 0 10
    rw [e0, if_neg (by decide)]
    exact hT.2.1 10 (by decide)
  · show t 9 28 = σ 9 28
    rw [e9]
  · have h1 : c ∉ zMK := by
      simp only [List.mem_cons, List.not_mem_nil, or_false, not_or] at hc ⊢
      omega
    have h2 : c ≠ 9 ∧ c ≠ 0 := by
      simp only [List.mem_cons, List.not_mem_nil, or_false, not_or] at hc
      omega
    rw [zup_ne h2.1, hf c h1, zup_ne h2.2]
  · show t 0 4 = τ 0 4
    rw [e0, if_neg (by decide)]
  · have h2 : c ≠ 9 := by
      simp only [List.mem_cons, List.not_mem_nil, or_false, not_or] at hc
      omega
    rw [zup_ne h2]
  · rfl
theorem sm_as {n : Int} {σ : zS} (h : zRel n σ) (i k : Int) : zSim n σ 71 150 [i, k] := by
  have hE := zrB_eq h.2.2.1
  refine ⟨_, am_X8_as (zRel_CQ h), fun v u r => ?_⟩
  have hk : zfr zHK σ u := by
    rcases r with ⟨-, rfl, -⟩ | ⟨-, τ, hT, w, -, ⟨-, rfl, -⟩ | ⟨-, rfl, -⟩⟩
    · exact zfr.rf
    · exact zfr.up hT.1 (by decide)
    · exact zfr.up hT.1 (by decide)
  refine ⟨_, am_X9_as (zMQ2_fr (zRel_MQ h) (hk.on (by decide))), fun v' u' r' => ?_⟩
  rw [hk 9 (by decide), hk 45 (by decide)] at r'
  rcases r with ⟨q, rfl, rfl⟩ | ⟨q, τ, hT, w, hw, hv⟩
  · rcases r' with ⟨q', rfl, rfl⟩ | ⟨q', -⟩
    · exact ⟨rfl, zRel_up h⟩
    · omega
  · rcases r' with ⟨q', -⟩ | ⟨q', t, hN, w', hw', hv'⟩
    · omega
    · obtain ⟨n1, n2, n3⟩ := zNW_K (σ := σ) hN (hk.on (by decide))
      have e := zKD h q.1 hT n1 (by rw [n2 9 (by decide), hk 9 (by decide)]) (by rw [n2 51 (by decide), hk 51 (by decide)]) (by rw [n2 52 (by decide), hk 52 (by decide)]) hw hw'
      have e20 := hE.2.2.2.1 i q.1.1 (by omega)
      have e21 := hE.2.2.2.1 (i + 1) (by omega) (by omega)
      rcases hv with ⟨a, hu, rfl⟩ | ⟨a, hu, rfl⟩
      · rcases hv' with ⟨b, rfl, rfl⟩ | ⟨b, rfl, rfl⟩
        · rw [← hu] at n2
          exact ⟨rfl, zRel_G h hT n2 n3⟩
        · omega
      · rcases hv' with ⟨b, rfl, rfl⟩ | ⟨b, rfl, rfl⟩
        · omega
        · rw [← hu] at n2
          exact ⟨by rw [e20, e21], zRel_G h hT n2 n3⟩
/-! ask: the traces -/
def zTRC (s t : zS) : Prop := (0 ≤ s 0 10 ∧ s 0 10 ≤ 16) ∧ t 9 28 = s 0 10 ∧ ∀ j : Int, 0 ≤ j → j < s 0 10 → s 10 j = t 54 j
theorem zTRC.bg {s t : zS} {b : Int} (h : zTRC s t) : zTRC (zbg s b) (zbm t b) := by
  obtain ⟨a, c, d⟩ := h
  unfold zbg zbm
  by_cases z : s 0 10 < 16
  · rw [if_pos z, if_pos (by omega), c]
    refine ⟨?_, rfl, fun j j0 j1 => ?_⟩
    · show 0 ≤ s 0 10 + 1 ∧ s 0 10 + 1 ≤ 16
      omega
    · have j2 : j < s 0 10 + 1 := j1
      show (if j = s 0 10 then b else s 10 j) = (if j = s 0 10 then b else t 54 j)
      by_cases y : j = s 0 10
      · rw [if_pos y, if_pos y]
      · rw [if_neg y, if_neg y]
        exact d j j0 (by omega)
  · rw [if_neg z, if_neg (by omega)]
    exact ⟨a, c, d⟩
def zBGf (s u : zS) : Prop := zfr [0, 10] s u ∧ ∀ j : Int, ¬ j = 10 → u 0 j = s 0 j
def zBMf (s u : zS) : Prop := zfr [9, 54] s u ∧ ∀ j : Int, ¬ j = 28 → u 9 j = s 9 j
theorem zBGf.bg {s u : zS} {b : Int} (h : zBGf s u) : zBGf s (zbg u b) := by
  refine ⟨fun k hk => ?_, fun j hj => ?_⟩
  · have hk2 := hk
    simp only [List.mem_cons, List.not_mem_nil, or_false, not_or] at hk
    rw [zbg_o hk.1 hk.2, h.1 k hk2]
  · rw [zbg_0 hj, h.2 j hj]
theorem zBMf.bm {s u : zS} {b : Int} (h : zBMf s u) : zBMf s (zbm u b) := by
  refine ⟨fun k hk => ?_, fun j hj => ?_⟩
  · have hk2 := hk
    simp only [List.mem_cons, List.not_mem_nil, or_false, not_or] at hk
    rw [zbm_o hk.1 hk.2, h.1 k hk2]
  · rw [zbm_9 hj, h.2 j hj]
def zAL (s t s' t' : zS) : Prop := zTRC s' t' ∧ zBGf s s' ∧ zBMf t t'
theorem zAL.bg {s t s' t' : zS} {b : Int} (h : zAL s t s' t') : zAL s t (zbg s' b) (zbm t' b) := ⟨h.1.bg, h.2.1.bg, h.2.2.bm⟩
theorem zAL_mk {s t : zS} (h : zTRC s t) (k : Int) (hk : 0 ≤ k ∧ k ≤ 3) : zAL s t (zMKs s k) (zMKm t k) := by
  have h0 : zAL s t s t := ⟨h, ⟨zfr.rf, fun _ _ => rfl⟩, ⟨zfr.rf, fun _ _ => rfl⟩⟩
  rcases (show k = 0 ∨ k = 1 ∨ k = 2 ∨ k = 3 by omega) with rfl | rfl | rfl | rfl
  · exact h0.bg
  · exact h0.bg
  · exact h0.bg.bg
  · exact h0.bg.bg.bg
theorem zAL_sz {s t : zS} (h : zTRC s t) (k : Int) (hk : 0 ≤ k ∧ k ≤ 3) : zAL s t (zSZs s k) (if k = 3 then zMKm (zSZp t 3) 3 else zSZp t k) := by
  have h0 : zAL s t s t := ⟨h, ⟨zfr.rf, fun _ _ => rfl⟩, ⟨zfr.rf, fun _ _ => rfl⟩⟩
  rcases (show k = 0 ∨ k = 1 ∨ k = 2 ∨ k = 3 by omega) with rfl | rfl | rfl | rfl
  · exact h0.bg
  · exact h0.bg.bg
  · exact h0.bg.bg.bg
  · exact h0.bg.bg.bg.bg.bg.bg.bg
theorem zRel_H {n : Int} {σ τ u t u' : zS} {i : Int} (h : zRel n σ) (hT : zTK zHK σ τ (zRcn σ) (zPM σ) i) (hu : zBGf (zup τ 0 10 0) u) (hf : zfr zMK (zup u 9 28 0) t) (hM : zMI t) (hu' : zBMf t u') (hR : zTRC u u') : zRel (n + 1) u' := by
  have e9 : ∀ j : Int, ¬ j = 28 → u' 9 j = σ 9 j := fun j j1 => by
    rw [hu'.2 j j1, hf 9 (by decide)]
    show (if j = 28 then 0 else u 9 j) = _
    rw [if_neg j1, hu.1 9 (by decide)]
    show τ 9 j = _
    rw [hT.1 9 (by decide)]
  have eg : ∀ c : Nat, ¬ c = 0 → ¬ c = 9 → ¬ c = 10 → ¬ c = 54 → c ∉ zMK → u' c = τ c := fun c c0 c9 c10 c54 cm => by
    rw [hu'.1 c (by simp only [List.mem_cons, List.not_mem_nil, or_false, not_or]; exact ⟨c9, c54⟩), hf c cm, zup_ne c9, hu.1 c (by simp only [List.mem_cons, List.not_mem_nil, or_false, not_or]; exact ⟨c0, c10⟩), zup_ne c0]
  have e0 : u' 0 = u 0 := by
    rw [hu'.1 0 (by decide), hf 0 (by decide)]
    rfl
  have e10 : u' 10 = u 10 := by
    rw [hu'.1 10 (by decide), hf 10 (by decide)]
    rfl
  have e0j : ∀ j : Int, ¬ j = 10 → u' 0 j = τ 0 j := fun j j1 => by
    rw [e0, hu.2 j j1]
    exact if_neg j1
  refine zRel_K (fun c hc => ?_) (fun j _ j1 => e9 j j1) ?_ ⟨?_, ?_, fun j j0 j1 => ?_⟩ (zIH_fr (σ := τ) (fun c hc => ?_) (Or.inl (e0j 4 (by decide))) (zTK_IH hT)) (zRMI_fr (σ := t) (hu'.1.on (by decide)) (hu'.2 13 (by decide)) hM) h
  · simp only [List.mem_cons, List.not_mem_nil, or_false, not_or] at hc
    rw [eg c (by omega) (by omega) (by omega) (by omega) (by simp only [List.mem_cons, List.not_mem_nil, or_false, not_or]; omega), hT.1 c (by simp only [List.mem_cons, List.not_mem_nil, or_false, not_or]; omega)]
  · rw [e0j 11 (by decide), e9 4 (by decide), hT.2.1 11 (by decide)]
    exact h.2.1
  · rw [e0]; exact hR.1
  · rw [e0]; exact hR.2.1
  · rw [e0] at j1
    rw [e10]
    exact hR.2.2 j j0 j1
  · simp only [List.mem_cons, List.not_mem_nil, or_false, not_or] at hc
    exact eg c (by omega) (by omega) (by omega) (by omega) (by simp only [List.mem_cons, List.not_mem_nil, or_false, not_or]; omega)
