/-! the two systems answer alike: list, gap, line -/
theorem zpl_fil {σ τ : zS} {L w w' : Int} {W : Int → Nat → Int} {M : Int → Nat} {f : Nat → Int} {m : Nat} {g : Int → Int} (hC : zWC σ L W M) (hM : zWM τ L W M) (h3 : σ 4 3 = L) (h22 : τ 9 22 = L) (hf : zlet f m) (hm : m ≤ 12) (hg : ∀ k : Int, 0 ≤ k → k < m → g k = f k.toNat) (hp : zplace σ (zlc f m) w) (hq : zfil τ (m : Int) g w') : (w = -1 ∧ w' = -1000000) ∨ (0 ≤ w ∧ w < L ∧ w' = w) := by
  have key : ∀ v : Int, 0 ≤ v → v < L → (σ 28 v = zlc f m ↔ zwm τ (m : Int) g v) := fun v v0 v1 => by
    obtain ⟨a1, a2, a3⟩ := hC v v0 v1
    obtain ⟨b1, b2, b3, b4⟩ := hM v v0 v1
    rw [a3]
    constructor
    · intro e
      obtain ⟨c1, c2⟩ := zlc_inj a1 hf (by omega) hm e
      refine ⟨by omega, fun k k0 k1 => ?_⟩
      rw [b4 k k0 (by omega), hg k k0 k1]
      exact c2 k.toNat (by omega)
    · rintro ⟨e1, e2⟩
      have e3 : M v = m := by omega
      rw [e3]
      refine zlc_congr (fun k hk => ?_)
      have q := e2 k (by omega) (by omega)
      rw [b4 k (by omega) (by omega), hg k (by omega) (by omega), Int.toNat_natCast] at q
      exact q
  rcases hp with ⟨p0, p1, p2, p3⟩ | ⟨p1, p2⟩
  · rcases hq with ⟨q0, q1, q2, q3⟩ | ⟨q1, q2⟩
    · refine Or.inr ⟨p0, by omega, ?_⟩
      rcases Int.lt_trichotomy w w' with z | z | z
      · exact absurd ((key w p0 (by omega)).1 p2) (q3 w p0 z)
      · exact z.symm
      · exact absurd ((key w' q0 (by omega)).2 q2) (p3 w' q0 z)
    · exact absurd ((key w p0 (by omega)).1 p2) (q2 w p0 (by omega))
  · rcases hq with ⟨q0, q1, q2, q3⟩ | ⟨q1, q2⟩
    · exact absurd ((key w' q0 (by omega)).2 q2) (p2 w' q0 (by omega))
    · exact Or.inl ⟨p1, q1⟩
theorem sm_list {n : Int} {σ : zS} (h : zRel n σ) : zSim n σ 63 130 [] := by
  obtain ⟨a, b, c, d, e, f, g, k, l⟩ := id h
  obtain ⟨m, m1, m2, m3, m4, m5⟩ := e
  obtain ⟨f1, f2, W, M, f3, f4⟩ := id f
  refine ⟨_, am_X8_list f1, fun v u r => ?_⟩
  have hk : (u 9 = σ 9 ∧ u 51 = σ 51) ∧ u 52 = σ 52 ∧ u 53 = σ 53 := by
    rcases r with ⟨q, rfl, rfl⟩ | ⟨q, w, qw, ⟨q1, rfl, rfl⟩ | ⟨q1, q2, rfl, rfl⟩ | ⟨q1, q2, rfl, rfl⟩⟩
    · exact ⟨⟨rfl, rfl⟩, rfl, rfl⟩
    · exact ⟨⟨rfl, rfl⟩, rfl, rfl⟩
    · exact ⟨⟨rfl, rfl⟩, rfl, rfl⟩
    · exact ⟨⟨rfl, rfl⟩, rfl, rfl⟩
  obtain ⟨⟨k9, k51⟩, k52, k53⟩ := hk
  refine ⟨_, am_X9_list (by rw [k9]; omega) (by rw [k9]; omega), fun v' u' r' => ?_⟩
  rw [k9, k53] at r'
  have key : ∀ w w' : Int, zplace σ (σ 4 0) w → zfil u (σ 9 25) (σ 53) w' → _ := fun w w' p q => zpl_fil (σ := σ) (τ := u) (L := σ 4 3) (W := W) (M := M) (f := fun k : Nat => σ 53 k) (m := m) (g := σ 53) f3 (by unfold zWM; rw [k51, k52]; exact f4) rfl (by rw [k9]; exact f2) m2 m1 (fun k k0 k1 => by show σ 53 k = σ 53 (k.toNat : Int); rw [Int.toNat_of_nonneg k0]) (by rw [← m3]; exact p) (by rw [← m5]; exact q)
  rcases r with ⟨q, hu, rfl⟩ | ⟨q, w, qw, ⟨q1, hu, rfl⟩ | ⟨q1, q2, hu, rfl⟩ | ⟨q1, q2, hu, rfl⟩⟩
  · subst hu
    rcases r' with ⟨q', rfl, rfl⟩ | ⟨q', w', qw', _⟩
    · exact ⟨rfl, zRel_up h⟩
    · omega
  · subst hu
    rcases r' with ⟨q', rfl, rfl⟩ | ⟨q', w', qw', ⟨q1', rfl, rfl⟩ | ⟨q1', q2', rfl, rfl⟩ | ⟨q1', q2', rfl, rfl⟩⟩
    · omega
    · exact ⟨rfl, zRel_up h⟩
    · have := key w w' qw qw'
      omega
    · have := key w w' qw qw'
      omega
  · subst hu
    rcases r' with ⟨q', rfl, rfl⟩ | ⟨q', w', qw', ⟨q1', rfl, rfl⟩ | ⟨q1', q2', rfl, rfl⟩ | ⟨q1', q2', rfl, rfl⟩⟩
    · omega
    · have := key w w' qw qw'
      omega
    · exact ⟨rfl, zRel_up h⟩
    · omega
  · rcases r' with ⟨q', hu', rfl⟩ | ⟨q', w', qw', ⟨q1', hu', rfl⟩ | ⟨q1', q2', hu', rfl⟩ | ⟨q1', q2', hu', rfl⟩⟩
    · omega
    · have := key w w' qw qw'
      omega
    · omega
    · have hfu : zfr [4, 28] σ u := by rw [← hu]; exact (((zfr.rf.up (by decide)).up (by decide)).up (by decide)).up (by decide)
      have hf : zfr [4, 28, 9, 51, 52] σ u' := by
        rw [← hu']
        intro x hx
        simp only [List.mem_cons, List.not_mem_nil, or_false, not_or] at hx
        have e1 := hfu x (by simp only [List.mem_cons, List.not_mem_nil, or_false, not_or]; exact ⟨hx.1, hx.2.1⟩)
        funext y
        simp only [zup, zcp]
        rw [if_neg hx.2.2.1, if_neg hx.2.2.1, if_neg (fun z => hx.2.2.2.2 z.1), if_neg hx.2.2.2.1, e1]
      have e9 : ∀ j : Int, ¬ j = 22 → ¬ j = 25 → u' 9 j = σ 9 j := fun j j1 j2 => by
        rw [← hu', ← k9]
        show (if j = 25 then 0 else if j = 22 then _ else u 9 j) = _
        rw [if_neg j2, if_neg j1]
      have t22 : u' 9 22 = σ 9 22 + 1 := by rw [← hu']; rfl
      have t25 : u' 9 25 = 0 := by rw [← hu']; rfl
      have t51 : ∀ j : Int, u' 51 j = if j = σ 9 22 then σ 9 25 else σ 51 j := fun j => by
        rw [← hu', ← k51]; rfl
      have t52 : ∀ j : Int, u' 52 j = if 12 * σ 9 22 ≤ j ∧ j < 12 * σ 9 22 + σ 9 25 then σ 53 (0 + (j - 12 * σ 9 22)) else σ 52 j := fun j => by
        rw [← hu', ← k52, ← k53]
        show (if 52 = 52 ∧ _ then u 53 _ else u 52 j) = _
        by_cases z : 12 * σ 9 22 ≤ j ∧ j < 12 * σ 9 22 + σ 9 25
        · rw [if_pos z, if_pos ⟨rfl, z⟩]
        · rw [if_neg z, if_neg (fun y => z y.2)]
      have t4 : u' 4 = u 4 := by rw [← hu']; rfl
      have t28 : ∀ j : Int, u' 28 j = if j = σ 4 3 then σ 4 0 else σ 28 j := fun j => by
        rw [show u' 28 = u 28 by rw [← hu']; rfl, ← hu]; rfl
      have t43 : u' 4 3 = σ 4 3 + 1 := by rw [t4, ← hu]; rfl
      have t40 : u' 4 0 = 0 := by rw [t4, ← hu]; rfl
      have t41 : u' 4 1 = 0 := by rw [t4, ← hu]; rfl
      refine ⟨by omega, zrA_fr (hf 11 (by decide)) (hf 12 (by decide)) (hf 13 (by decide)) (hf 65 (by decide)) (hf 37 (by decide)) (hf 38 (by decide)) (hf 39 (by decide)) a, by rw [hf 0 (by decide), e9 4 (by decide) (by decide)]; exact b, zrB_fr (hf.on (by decide)) (e9 5 (by decide) (by decide)) (e9 9 (by decide) (by decide)) (e9 11 (by decide) (by decide)) (e9 12 (by decide) (by decide)) (e9 13 (by decide) (by decide)) c, zrC_fr (hf.on (by decide)) (e9 17 (by decide) (by decide)) (e9 20 (by decide) (by decide)) d, ⟨0, by decide, fun k hk => absurd hk (by omega), ?_, t41, t25⟩, ⟨by omega, by omega, fun v => if v = σ 4 3 then (fun k : Nat => σ 53 k) else W v, fun v => if v = σ 4 3 then m else M v, fun v v0 v1 => ?_, fun v v0 v1 => ?_⟩, zrF_fr (hf 10 (by decide)) (hf 54 (by decide)) (by rw [hf 0 (by decide)]) (e9 28 (by decide) (by decide)) g, zrG_fr (hf.on (by decide)) (Or.inl (by rw [hf 0 (by decide)])) (e9 13 (by decide) (by decide)) k, ?_⟩
      · rw [t40]
        show (0 : Int) = 0 * 32 ^ (12 - 0)
        omega
      · by_cases z : v = σ 4 3
        · simp only [if_pos z]
          refine ⟨m2, by omega, ?_⟩
          rw [t28, if_pos z, m3]
        · simp only [if_neg z]
          have y := f3 v v0 (by omega)
          refine ⟨y.1, y.2.1, ?_⟩
          rw [t28, if_neg z, y.2.2]
      · by_cases z : v = σ 4 3
        · simp only [if_pos z]
          refine ⟨m2, by omega, ?_, fun j j0 j1 => ?_⟩
          · rw [t51, if_pos (by omega), m5]
          · rw [t52, if_pos (by omega), show (j.toNat : Int) = 0 + (12 * v + j - 12 * σ 9 22) by omega]
        · simp only [if_neg z]
          have y := f4 v v0 (by omega)
          refine ⟨y.1, y.2.1, ?_, fun j j0 j1 => ?_⟩
          · rw [t51, if_neg (by omega), y.2.2.1]
          · have y2 := y.2.1
            rw [t52, if_neg (by omega), y.2.2.2 j j0 j1]
      · obtain ⟨l1, l2, l3⟩ := l
        refine ⟨by rw [hf 3 (by decide)]; omega, by rw [hf 3 (by decide), t25]; omega, by rw [e9 17 (by decide) (by decide), t25]; omega⟩
theorem zRel_B {n : Int} {σ u : zS} (hf : zfr [0, 2, 9, 15, 16, 17, 18, 19, 20, 21, 41, 42, 43, 44, 45, 46, 55] σ u) (e0 : ∀ j : Int, ¬ j = 4 → ¬ j = 11 → u 0 j = σ 0 j) (e04 : u 0 4 = -1) (e9 : ∀ j : Int, ¬ j = 4 → ¬ j = 5 → ¬ j = 9 → ¬ j = 11 → ¬ j = 12 → ¬ j = 13 → u 9 j = σ 9 j) (hs : u 0 11 = u 9 4) (h55 : ∀ j : Int, 0 ≤ j → j < 40 → u 55 j = 0) (hB : zrB u) (h : zRel n σ) : zRel (n + 1) u := by
  obtain ⟨a, -, -, d, e, f, g, k, l⟩ := h
  have hE := zrB_eq hB
  have e9' : ∀ j ∈ [(17 : Int), 20, 22, 25, 28], u 9 j = σ 9 j := fun j hj => by
    simp only [List.mem_cons, List.not_mem_nil, or_false] at hj
    exact e9 j (by omega) (by omega) (by omega) (by omega) (by omega) (by omega)
  exact ⟨zrA_fr (hf 11 (by decide)) (hf 12 (by decide)) (hf 13 (by decide)) (hf 65 (by decide)) (hf 37 (by decide)) (hf 38 (by decide)) (hf 39 (by decide)) a, hs, hB,
    zrC_fr (hf.on (by decide)) (e9' 17 (by decide)) (e9' 20 (by decide)) d,
    zrD_fr (hf 53 (by decide)) (by rw [hf 4 (by decide)]) (by rw [hf 4 (by decide)]) (e9' 25 (by decide)) e,
    zrE_fr (hf 28 (by decide)) (hf 51 (by decide)) (hf 52 (by decide)) (by rw [hf 4 (by decide)]) (e9' 22 (by decide)) f,
    zrF_fr (hf 10 (by decide)) (hf 54 (by decide)) (e0 10 (by decide) (by decide)) (e9' 28 (by decide)) g,
    ⟨zIH_0 e04, zMI_0 h55 (by omega)⟩,
    zrN_up (by rw [hf 3 (by decide)]) (by rw [hf 3 (by decide)]) (e9' 17 (by decide)) (e9' 25 (by decide)) l⟩
theorem zLC_fr {wx ws : Int → Int} {g : Int} {n : Nat} {s u : zS} (e : ∀ c ∈ [2, 17, 18, 19, 20, 21], u c = s c) (h : zLC wx ws g n s) : zLC wx ws g n u := by
  unfold zLC at h ⊢
  rw [e 2 (by decide), e 17 (by decide), e 18 (by decide), e 19 (by decide), e 20 (by decide), e 21 (by decide)]
  exact h
theorem sm_gap {n : Int} {σ : zS} (h : zRel n σ) (x : Int) : zSim n σ 55 115 [x] := by
  have hE := zrB_eq h.2.2.1
  obtain ⟨m, hm, h22, h23, h912, hp, hC, hM⟩ := id h.2.2.1
  refine ⟨_, am_X8_gap h22 hm (fun j j0 j1 => by have := hp j j0 j1; exact ⟨this.1, this.2.1⟩), fun v u r => ?_⟩
  have hk : zfr [0, 2, 17, 18, 19, 20, 21] σ u := by
    rcases r with ⟨q, rfl, rfl⟩ | ⟨q, q1, q2, _⟩
    · exact zfr.rf
    · exact q2
  have hM2 := hM
  obtain ⟨d1, d2, d3, d4, d5, d6, d7, d8⟩ := hM2
  refine ⟨_, am_X9_gap (σ := u) (m := m) (wx := σ 15) (ws := σ 16) (fun j j0 j1 => by rw [hk 41 (by decide), hk 42 (by decide)]; exact ⟨(d5 j j0 j1).1, (d5 j j0 j1).2.1⟩) (fun d hd => by rw [hk 44 (by decide)]; exact d6 d hd) (by rw [hk 9 (by decide)]; exact d1) (by rw [hk 9 (by decide)]; exact d2) hm (fun j j0 j1 => ?_) (fun j j0 j1 => ?_), fun v' u' r' => ?_⟩
  · have z := hE.2.2.1 j j0 (by omega)
    rw [hk 41 (by decide)]
    omega
  · have z := zdx_r (wx := σ 15) (ws := σ 16) (P := fun x => 0 ≤ x ∧ x ≤ 2000) (n := m) (fun k hk => by have := hp k (by omega) (by omega); exact ⟨this.1, this.2.1⟩) j.toNat (by omega)
    rw [hk 44 (by decide), show j = (j.toNat : Int) by omega, d6 j.toNat (by omega)]
    exact z
  · rcases r with ⟨q, hu, rfl⟩ | ⟨q, rfl, q2, q3, q4, q5, q6, q7⟩
    · subst hu
      rcases r' with ⟨q', rfl, rfl⟩ | ⟨q', _⟩
      · exact ⟨rfl, zRel_up h⟩
      · exact absurd q' q
    · rcases r' with ⟨q', _⟩ | ⟨q', rfl, p2, p3, p4, p5, p6⟩
      · exact absurd q q'
      · have hf : zfr [0, 2, 9, 15, 16, 17, 18, 19, 20, 21, 41, 42, 43, 44, 45, 46, 55] σ u' := fun c hc => by
          simp only [List.mem_cons, List.not_mem_nil, or_false, not_or] at hc
          rw [p2 c (by simp only [List.mem_cons, List.not_mem_nil, or_false, not_or]; omega), hk c (by simp only [List.mem_cons, List.not_mem_nil, or_false, not_or]; omega)]
        have k9 : u 9 = σ 9 := hk 9 (by decide)
        rw [k9] at p3
        have z0 : u' 0 = u 0 := p2 0 (by decide)
        have z2 : u' 2 = u 2 := p2 2 (by decide)
        have z15 : u' 15 = σ 15 := by rw [p2 15 (by decide), hk 15 (by decide)]
        have z16 : u' 16 = σ 16 := by rw [p2 16 (by decide), hk 16 (by decide)]
        refine ⟨by rw [k9]; exact h912.symm, zRel_B hf (fun j j1 j2 => by rw [z0]; exact q5 j j1) (by rw [z0]; exact q6) (fun j j1 j2 j3 j4 j5 j6 => p3 j j4 j5 j6) (by rw [z0, q5 11 (by decide), p3 4 (by decide) (by decide) (by decide)]; exact h.2.1) p5 ⟨m, hm, by rw [z2, q3 2 (by decide) (by decide) (by decide) (by decide)]; exact h22, by rw [z2, q4]; omega, by rw [p4, z2, q4], fun j j0 j1 => by rw [z15, z16]; exact hp j j0 j1, ?_, ?_⟩ h⟩
        · rw [z15, z16, z2, q4]
          exact zLC_fr (p2.on (by decide)) q7
        · rw [z15, z16, z2, q4]
          exact p6
theorem sm_line {n : Int} {σ : zS} (h : zRel n σ) (s i c : Int) : zSim n σ 54 114 [s, i, c] := by
  have hS := zrA_CS h.1
  have hE := zrB_eq h.2.2.1
  obtain ⟨m, hm, h22, h23, h912, hp, hC, hM⟩ := id h.2.2.1
  refine ⟨_, am_X8_line hS.1, fun v u r => ?_⟩
  have hk : zfr [0, 2, 15, 16, 17, 18, 19, 20, 21] σ u := by
    rcases r with ⟨q, rfl, rfl⟩ | ⟨q, rfl, rfl⟩ | ⟨q, rfl, rfl⟩ | ⟨q, q1, rfl, rfl⟩ | ⟨q, q1, q2, q3, _⟩
    · exact zfr.rf
    · exact zfr.rf.up (by decide)
    · exact zfr.rf.up (by decide)
    · exact zfr.rf
    · exact q3
  have k9 : u 9 = σ 9 := hk 9 (by decide)
  have k37 : u 37 = σ 37 := hk 37 (by decide)
  have k38 : u 38 = σ 38 := hk 38 (by decide)
  have k39 : u 39 = σ 39 := hk 39 (by decide)
  have hS2 : zMS u := by unfold zMS; rw [k37, k38]; exact hS.2
  refine ⟨_, am_X9_line (g := σ 2 3) hS2 (by rw [k9]; exact h912) h23, fun v' u' r' => ?_⟩
  rw [k37, k38] at r'
  have q2 : 0 ≤ s ∧ s < 8 → _ := fun z => h.1 s z.1 z.2
  have eP : ((0 ≤ s ∧ s < 8) ∧ 1 ≤ c ∧ c ≤ 40 ∧ σ 11 s = 1 ∧ 0 ≤ i ∧ i + 2 * c ≤ σ 13 s) → ∀ j : Int, 0 ≤ j → j < c → zqX u s i j = zrX σ (80 * s) i j ∧ zqS u s i j = zrS σ (80 * s) i j := fun z j j0 j1 => by
    have q3 := q2 z.1
    unfold zqX zqS zrX zrS
    rw [k39, show 80 * s + i + 2 * j = 80 * s + (i + 2 * j) by omega, show 80 * s + (i + 2 * j) + 1 = 80 * s + (i + 2 * j + 1) by omega]
    exact ⟨(q3.2.2.2.2 (i + 2 * j) (by omega) (by omega)).symm, (q3.2.2.2.2 (i + 2 * j + 1) (by omega) (by omega)).symm⟩
  have eP2 : ((0 ≤ s ∧ s < 8) ∧ 1 ≤ c ∧ c ≤ 40 ∧ σ 11 s = 1 ∧ 0 ≤ i ∧ i + 2 * c ≤ σ 13 s) → (zPOm u s i c ↔ zPOs σ (80 * s) i c) := fun z => by
    constructor
    · intro y j j0 j1
      rw [← (eP z j j0 j1).1, ← (eP z j j0 j1).2]
      exact y j j0 j1
    · intro y j j0 j1
      rw [(eP z j j0 j1).1, (eP z j j0 j1).2]
      exact y j j0 j1
  rcases r with ⟨q, hu, rfl⟩ | ⟨q, hu, rfl⟩ | ⟨q, hu, rfl⟩ | ⟨q, q1, hu, rfl⟩ | ⟨q, q1, rfl, -, q4, q5, q6, q7, q8, q9, q0⟩
  · subst hu
    rcases r' with ⟨q', rfl, rfl⟩ | ⟨q', rfl, rfl⟩ | ⟨q', rfl, rfl⟩ | ⟨q', q1', rfl, rfl⟩ | ⟨q', q1', _⟩
    · exact ⟨rfl, zRel_up h⟩
    all_goals omega
  · have q3 := q2 q.1
    rcases r' with ⟨q', hu', rfl⟩ | ⟨q', hu', rfl⟩ | ⟨q', hu', rfl⟩ | ⟨q', q1', hu', rfl⟩ | ⟨q', q1', _⟩
    · omega
    · rw [← hu', ← hu]
      exact ⟨rfl, zRel_st h⟩
    all_goals omega
  · have q3 := q2 q.1
    rcases r' with ⟨q', hu', rfl⟩ | ⟨q', hu', rfl⟩ | ⟨q', hu', rfl⟩ | ⟨q', q1', hu', rfl⟩ | ⟨q', q1', _⟩
    · omega
    · omega
    · rw [← hu', ← hu]
      exact ⟨rfl, zRel_st h⟩
    all_goals omega
  · have q3 := q2 q.1
    rcases r' with ⟨q', hu', rfl⟩ | ⟨q', hu', rfl⟩ | ⟨q', hu', rfl⟩ | ⟨q', q1', hu', rfl⟩ | ⟨q', q1', _⟩
    · omega
    · omega
    · omega
    · rw [← hu', ← hu]
      exact ⟨rfl, zRel_up h⟩
    · exact absurd ((eP2 q).1 q1') q1
  · have q3 := q2 q.1
    rcases r' with ⟨q', hu', rfl⟩ | ⟨q', hu', rfl⟩ | ⟨q', hu', rfl⟩ | ⟨q', q1', hu', rfl⟩ | ⟨q', q1', rfl, p2, p3, p4, p5, p6⟩
    · omega
    · omega
    · omega
    · exact absurd ((eP2 q).2 q1) q1'
    · have hf : zfr [0, 2, 9, 15, 16, 17, 18, 19, 20, 21, 41, 42, 43, 44, 45, 46, 55] σ u' := fun c hc => by
        simp only [List.mem_cons, List.not_mem_nil, or_false, not_or] at hc
        rw [p2 c (by simp only [List.mem_cons, List.not_mem_nil, or_false, not_or]; omega), hk c (by simp only [List.mem_cons, List.not_mem_nil, or_false, not_or]; omega)]
      rw [k9] at p3
      have z0 : u' 0 = u 0 := p2 0 (by decide)
      have z2 : u' 2 = u 2 := p2 2 (by decide)
      have z15 : u' 15 = u 15 := p2 15 (by decide)
      have z16 : u' 16 = u 16 := p2 16 (by decide)
      have z23 : u 2 3 = σ 2 3 := q4 3 (by decide) (by decide) (by decide) (by decide)
      have hM2 : zLM (u 15) (u 16) (σ 2 3) c.toNat u' := zLM_congr (fun k hk => by
        have y := eP q k (by omega) (by omega)
        have y2 := q9 k (by omega) (by omega)
        rw [y.1, y.2, y2.1, y2.2]
        exact ⟨rfl, rfl⟩) p6
      refine ⟨?_, zRel_B hf (fun j j1 j2 => by rw [z0]; exact q6 j j1 j2) (by rw [z0]; exact q7) (fun j j1 j2 j3 j4 j5 j6 => p3 j j1 j2 j3 j4 j6) (by rw [z0, q8, p4]) p5 ⟨c.toNat, by omega, by rw [z2, q5]; omega, by rw [z2, z23]; exact h23, by rw [p3 12 (by decide) (by decide) (by decide) (by decide) (by decide), z2, z23]; exact h912, fun j j0 j1 => ?_, ?_, ?_⟩ h⟩
      · rw [q0.2.1, hM2.2.2.1]
      · have y2 := q9 j j0 (by omega)
        rw [z15, z16, y2.1, y2.2]
        exact q1 j j0 (by omega)
      · rw [z15, z16, z2, z23]
        exact zLC_fr (p2.on (by decide)) q0
      · rw [z15, z16, z2, z23]
        exact hM2
