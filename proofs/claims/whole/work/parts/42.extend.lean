/-! the class's OpenReadings: one heap into another -/
def zhp (a s l : Int) : Int := (a % 4 * 3 + s) * 26 + l
/-- what S offers, and the first n of heap b, with a letter l ahead -/
def zKS (τ : zS) (b l wp n : Int) (S : Int → Int → Prop) (y e : Int) : Prop := S y e ∨ ∃ i : Int, 0 ≤ i ∧ i < n ∧ τ 32 (b * 5 + i) % 32 = 0 ∧ y = τ 32 (b * 5 + i) / 32 + (l + 1) * 36028797018963968 ∧ e = τ 31 (b * 5 + i) + wp
theorem zKS_0 {τ : zS} {b l wp : Int} {S : Int → Int → Prop} {y e : Int} : S y e ↔ zKS τ b l wp 0 S y e := by
  constructor
  · exact Or.inl
  · rintro (q | ⟨i, i0, i1, -⟩)
    · exact q
    · omega
theorem zKS_no {τ : zS} {b l wp n : Int} {S : Int → Int → Prop} {y e : Int} (h : ¬ τ 32 (b * 5 + n) % 32 = 0) : zKS τ b l wp n S y e ↔ zKS τ b l wp (n + 1) S y e := by
  constructor
  · rintro (q | ⟨i, i0, i1, r⟩)
    · exact Or.inl q
    · exact Or.inr ⟨i, i0, by omega, r⟩
  · rintro (q | ⟨i, i0, i1, r⟩)
    · exact Or.inl q
    · refine Or.inr ⟨i, i0, ?_, r⟩
      by_cases g : i = n
      · rw [g] at r; exact absurd r.1 h
      · omega
theorem zKS_yes {τ : zS} {b l wp n : Int} {S : Int → Int → Prop} {y e : Int} (n0 : 0 ≤ n) (h : τ 32 (b * 5 + n) % 32 = 0) : (zKS τ b l wp n S y e ∨ y = τ 32 (b * 5 + n) / 32 + (l + 1) * 36028797018963968 ∧ e = wp + τ 31 (b * 5 + n)) ↔ zKS τ b l wp (n + 1) S y e := by
  constructor
  · rintro ((q | ⟨i, i0, i1, r⟩) | ⟨q1, q2⟩)
    · exact Or.inl q
    · exact Or.inr ⟨i, i0, by omega, r⟩
    · exact Or.inr ⟨n, n0, by omega, h, q1, by omega⟩
  · rintro (q | ⟨i, i0, i1, r⟩)
    · exact Or.inl (Or.inl q)
    · by_cases g : i = n
      · rw [g] at r; exact Or.inr ⟨r.2.1, by omega⟩
      · exact Or.inl (Or.inr ⟨i, i0, by omega, r⟩)
theorem zdg_11 {w : Int} : zdg w 11 = w % 32 := by
  unfold zdg
  rw [show ((11 : Int) - 11).toNat = 0 by decide, Int.pow_zero, Int.ediv_one]
/-- what is too dear changes nothing -/
theorem zKS_over {τ t : zS} {b h l wp n : Int} {S A : Int → Int → Prop} (hB : zTH τ b A) (hS : zTH t h (zKS τ b l wp n S)) (n0 : 0 ≤ n) (n1 : n < τ 30 b) (h5 : t 30 h = 5) (hlt : t 31 (h * 5 + 4) < wp + τ 31 (b * 5 + n)) : zTH t h (zKS τ b l wp (τ 30 b) S) := by
  refine zTop.congr (zTop.overs hS h5 (T := fun y e => ∃ i : Int, n ≤ i ∧ i < τ 30 b ∧ τ 32 (b * 5 + i) % 32 = 0 ∧ y = τ 32 (b * 5 + i) / 32 + (l + 1) * 36028797018963968 ∧ e = τ 31 (b * 5 + i) + wp) ?_) (fun y e => ?_)
  · rintro y e ⟨i, i0, i1, -, -, e2⟩
    have le : τ 31 (b * 5 + n) ≤ τ 31 (b * 5 + i) := by
      by_cases g : i = n
      · rw [g]; omega
      · have := (hB.2.1 n i n0 (by omega) i1).1
        simp only [zbe] at this
        omega
    show ¬ (e < t 31 (h * 5 + 4) ∨ e = t 31 (h * 5 + 4) ∧ _)
    omega
  · constructor
    · rintro ((q | ⟨i, i0, i1, r⟩) | ⟨i, i0, i1, r⟩)
      · exact Or.inl q
      · exact Or.inr ⟨i, i0, by omega, r⟩
      · exact Or.inr ⟨i, by omega, i1, r⟩
    · rintro (q | ⟨i, i0, i1, r⟩)
      · exact Or.inl (Or.inl q)
      · by_cases g : i < n
        · exact Or.inl (Or.inr ⟨i, i0, g, r⟩)
        · exact Or.inr ⟨i, by omega, i1, r⟩
set_option maxRecDepth 100000 in
set_option maxHeartbeats 4000000 in
theorem lp_extK {a : Int} {k : Int} {l : Int} {c : Int} {m : Int} {wp : Int} {s : Int} {h : Int} {b : Int} {S : Int → Int → Prop} {A : Int → Int → Prop} {τ : zS} {R : Int → zS → Prop} (hh : 0 ≤ h ∧ h < 313) (hb : 0 ≤ b ∧ b < 313) (hne : ¬ b = h) (hB : zTH τ b A) (hA : ∀ x d, A x d → (0 ≤ x ∧ x < 1152921504606846976) ∧ 0 ≤ d ∧ d ≤ 2000) (hw : 0 ≤ wp ∧ wp ≤ 2000) (hl : 0 ≤ l ∧ l < 26) (K : ∀ t : zS, zHF τ t h → zTH t h (zKS τ b l wp (τ 30 b) S) → zRuns 29 zX0 R 206 [some (.inr (.inr (6, 0))), some (.inr (.inr (3, 0))), some (.inl a), some (.inl k), some (.inl l), some (.inl c), some (.inl m), some (.inl wp), some (.inl s), none, none, none, none] [] t) : ∀ (n : Nat) (j : Int) (t : zS), b * 5 + τ 30 b - j < (n : Int) → (b * 5 ≤ j ∧ j ≤ b * 5 + τ 30 b) → (zHF τ t h) → (zTH t h (zKS τ b l wp (j - b * 5) S)) → zRuns 29 zX0 (fun (v : Int) (u : zS) => R v u) 128 [some (.inr (.inr (6, 0))), some (.inr (.inr (3, 0))), some (.inl a), some (.inl k), some (.inl l), some (.inl c), some (.inl m), some (.inl wp), some (.inl s), none, some (.inl h), some (.inl (b * 5 + τ 30 b)), some (.inl j)] [] t := by
  intro n
  induction n with
  | zero =>
    intro j t hn j0 hf hS
    exfalso
    omega
  | succ n ih =>
    intro j t hn j0 hf hS
    refine zwalk zmk_29 [(43, [true, true, true, true, true, true, true, false, false, false, false, false, false]), (66, [true, true, true, true, true, true, true, true, true, false, false, false, false]), (128, [true, true, true, true, true, true, true, true, true, false, true, true, true]), (206, [true, true, true, true, true, true, true, true, true, false, false, false, false])] 3 ?_
    show (((b * 5 + τ 30 b) ≤ j → zRuns 29 zX0 (fun (v : Int) (u : zS) => R v u) 206 [some (.inr (.inr (6, 0))), some (.inr (.inr (3, 0))), some (.inl a), some (.inl k), some (.inl l), some (.inl c), some (.inl m), some (.inl wp), some (.inl s), none, none, none, none] [] t) ∧ (j < (b * 5 + τ 30 b) → ((0 ≤ j ∧ j < (1565 : Int)) ∧ (zI (wp + (t 31 j)) ∧ (∃ Rc : Int → zS → Prop, zAM 30 [.inr (.inr (6, 0)), .inl h] t Rc ∧ ∀ (v1 : Int) (u1 : zS), zI v1 → Rc v1 u1 → ((v1 < (wp + (t 31 j)) → zRuns 29 zX0 (fun (v : Int) (u : zS) => R v u) 206 [some (.inr (.inr (6, 0))), some (.inr (.inr (3, 0))), some (.inl a), some (.inl k), some (.inl l), some (.inl c), some (.inl m), some (.inl wp), some (.inl s), none, none, none, none] [] u1) ∧ ((wp + (t 31 j)) ≤ v1 → ((0 ≤ j ∧ j < (1565 : Int)) ∧ (∃ Rc : Int → zS → Prop, zAM 87 [.inr (.inl (u1 32 j)), .inl (11 : Int)] u1 Rc ∧ ∀ (v2 : Int) (u2 : zS), zI v2 → Rc v2 u2 → ((0 ≤ v2 → (zI (j + (1 : Int)) ∧ zRuns 29 zX0 (fun (v : Int) (u : zS) => R v u) 128 [some (.inr (.inr (6, 0))), some (.inr (.inr (3, 0))), some (.inl a), some (.inl k), some (.inl l), some (.inl c), some (.inl m), some (.inl wp), some (.inl s), none, some (.inl h), some (.inl (b * 5 + τ 30 b)), some (.inl (j + (1 : Int)))] [] u2)) ∧ (v2 < 0 → ((0 ≤ j ∧ j < (1565 : Int)) ∧ (zI (wp + (u2 31 j)) ∧ ((0 ≤ j ∧ j < (1565 : Int)) ∧ (∃ Rc : Int → zS → Prop, zAM 89 [.inr (.inl ((Int64.ofInt (u2 32 j)).toUInt64 >>> ((Int32.ofInt (5 : Int)).toInt64.toUInt64 &&& Int64.toUInt64 63)).toInt64.toInt), .inl (0 : Int), .inl l] u2 Rc ∧ ∀ (v3 : Int) (u3 : zS), zJ v3 → Rc v3 u3 → (∃ Rc : Int → zS → Prop, zAM 32 [.inr (.inr (6, 0)), .inl h, .inl (wp + (u2 31 j)), .inr (.inl v3)] u3 Rc ∧ ∀ (u4 : zS), Rc 0 u4 → (zI (j + (1 : Int)) ∧ zRuns 29 zX0 (fun (v : Int) (u : zS) => R v u) 128 [some (.inr (.inr (6, 0))), some (.inr (.inr (3, 0))), some (.inl a), some (.inl k), some (.inl l), some (.inl c), some (.inl m), some (.inl wp), some (.inl s), none, some (.inl h), some (.inl (b * 5 + τ 30 b)), some (.inl (j + (1 : Int)))] [] u4)))))))))))))))))
    have hn := hB.1
    have fj : j < b * 5 + τ 30 b → (t 31 j = τ 31 j ∧ t 32 j = τ 32 j) ∧ (0 ≤ τ 32 j ∧ τ 32 j < 1152921504606846976) ∧ 0 ≤ τ 31 j ∧ τ 31 j ≤ 2000 := fun q => by
      have e := hB.2.2.1 (j - b * 5) (by omega) (by omega)
      simp only [show b * 5 + (j - b * 5) = j by omega] at e
      exact ⟨hf.2.2 j (by omega), hA _ _ e.1⟩
    have e2 : (2 : Int) ^ (5 : Int).toNat = 32 := by decide
    have e3 : (32 : Int) ^ ((11 : Int) - 0).toNat = 36028797018963968 := by decide
    refine ⟨?_, ?_⟩
    · intro h1
      rw [show j - b * 5 = τ 30 b by omega] at hS
      exact K t hf hS
    · intro h2
      refine ⟨by (first | omega | (have q9 := fj (by omega); omega)), ?_⟩
      refine ⟨by (have q9 := fj (by omega); exact ⟨by omega, by omega⟩), ?_⟩
      refine ⟨_, am_X4_dearest (hh), ?_⟩
      intro v1 u1 hv1
      rintro ⟨rfl, ev1⟩
      obtain ⟨hv1a, hv1b⟩ := hv1
      refine ⟨?_, ?_⟩
      · intro h3
        have q := fj (by omega)
        have h5 : t 30 h = 5 ∧ t 31 (h * 5 + 4) < wp + τ 31 (b * 5 + (j - b * 5)) := by
          rw [show b * 5 + (j - b * 5) = j by omega]
          have hm := hS.1
          by_cases g : t 30 h < 5
          · rw [if_pos g] at ev1; omega
          · rw [if_neg g] at ev1; exact ⟨by omega, by omega⟩
        exact K t hf (zKS_over hB hS (by omega) (by omega) h5.1 h5.2)
      · intro h4
        refine ⟨by (first | omega | (have q9 := fj (by omega); omega)), ?_⟩
        refine ⟨_, am_X8_letterAt (by have q9 := fj (by omega); omega) (by decide), ?_⟩
        intro v2 u2 hv2
        rintro ⟨rfl, ev2⟩
        obtain ⟨hv2a, hv2b⟩ := hv2
        refine ⟨?_, ?_⟩
        · intro h5
          refine ⟨by (have q9 := fj (by omega); exact ⟨by omega, by omega⟩), ?_⟩
          have q := fj (by omega)
          rw [zdg_11] at ev2
          refine ih _ t (by omega) (by omega) hf (hS.congr (fun y e => ?_))
          rw [show j + 1 - b * 5 = j - b * 5 + 1 by omega]
          exact zKS_no (by rw [show b * 5 + (j - b * 5) = j by omega]; omega)
        · intro h6
          refine ⟨by (first | omega | (have q9 := fj (by omega); omega)), ?_⟩
          refine ⟨by (have q9 := fj (by omega); exact ⟨by omega, by omega⟩), ?_⟩
          refine ⟨by (first | omega | (have q9 := fj (by omega); omega)), ?_⟩
          rw [zushr (by have q9 := fj (by omega); omega) (by have q9 := fj (by omega); omega) (by decide) (by decide), e2]
          refine ⟨_, am_wordWith_lo (by have q9 := fj (by omega); rw [e3]; omega) (by omega), ?_⟩
          intro v3 u3 hv3
          rintro ⟨rfl, ev3⟩
          obtain ⟨hv3a, hv3b⟩ := hv3
          refine ⟨_, am_X4_offer (hh) (hS), ?_⟩
          intro u4
          intro kv4
          refine ⟨by (have q9 := fj (by omega); exact ⟨by omega, by omega⟩), ?_⟩
          have q := fj (by omega)
          rw [zdg_11] at ev2
          rw [e3] at ev3
          have d0 := Int.emod_nonneg (t 32 j) (show (32 : Int) ≠ 0 by decide)
          refine ih _ u4 (by omega) (by omega) (hf.trans kv4.1) (kv4.2.congr (fun y e => ?_))
          rw [show j + 1 - b * 5 = j - b * 5 + 1 by omega, ← ev3, q.1.1, q.1.2]
          have hy := zKS_yes (τ := τ) (b := b) (n := j - b * 5) (l := l) (wp := wp) (S := S) (y := y) (e := e) (by omega) (by rw [show b * 5 + (j - b * 5) = j by omega]; omega)
          rw [show b * 5 + (j - b * 5) = j by omega] at hy
          exact hy
