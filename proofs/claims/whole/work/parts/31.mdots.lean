/-- the model's pieces and inks lie in order: n pieces, K inks -/
def zMQ (σ : zS) (n K : Int) : Prop := (0 ≤ K ∧ K ≤ n ∧ n ≤ 40) ∧ (∀ i : Int, 0 ≤ i → i < K → 0 ≤ σ 45 i ∧ σ 45 i < σ 45 (i + 1) ∧ σ 45 (i + 1) ≤ n) ∧ ∀ j : Int, 0 ≤ j → j < n → 0 ≤ σ 41 j ∧ σ 41 j ≤ 2000
theorem zMQ.frame {σ s : zS} {n K : Int} (h : zMQ σ n K) (e41 : s 41 = σ 41) (e45 : s 45 = σ 45) : zMQ s n K := by
  unfold zMQ at h ⊢
  rw [e41, e45]
  exact h
theorem zIn_iff5 {x f : Int → Int} {p i a b : Int} (ha : f i = a) (hb : f (i + 1) = b) : zIn x f p i = true ↔ zmn x a 5000 (b - a).toNat - 5 ≤ p ∧ p ≤ zmx x a (-1) (b - a).toNat + 5 := by
  unfold zIn
  rw [decide_eq_true_eq, ha, hb]
/-- the first of those from i on -/
def zfrom (P : Int → Bool) (i K w : Int) : Prop := (w = -1 ∧ ∀ j : Int, i ≤ j → j < K → P j = false) ∨ (i ≤ w ∧ w < K ∧ P w = true ∧ ∀ j : Int, i ≤ j → j < w → P j = false)
theorem zfrom_0 {P : Int → Bool} {K w : Int} (hK : 0 ≤ K) (h : zfrom P 0 K w) : w = zfi P K.toNat := by
  rcases h with ⟨rfl, h⟩ | ⟨a, b, c, d⟩
  · exact (zfi_none (fun j p q => h j p (by omega))).symm
  · exact (zfi_some a c d (by omega)).symm
set_option maxRecDepth 100000 in
set_option maxHeartbeats 4000000 in
theorem lp_ii {σ : zS} {R : Int → zS → Prop} {d p n K : Int} (hm : zMQ σ n K) (hd : 0 ≤ d ∧ d < 40) (hdp : σ 44 d = p) (hp : 0 ≤ p ∧ p ≤ 2000) (Kx : zRuns 112 zX0 R 254 [some (.inr (.inr (9, 0))), some (.inl d), some (.inl (ztf (σ 41) (σ 45) K p)), none, none, none, none] [] σ) : ∀ (c : Nat) (i w : Int), i + 1 = (c : Int) → i < K → zfrom (zIn (σ 41) (σ 45) p) (i + 1) K w → zRuns 112 zX0 R 125 [some (.inr (.inr (9, 0))), some (.inl d), some (.inl w), some (.inl i), none, none, none] [] σ := by
  obtain ⟨m0, m1, m2⟩ := hm
  intro c
  induction c with
  | zero =>
    intro i w hc hi hf
    refine zwalk zmk_112 [(125, [true, true, true, true, false, false, false]), (145, [true, true, true, true, true, true, true]), (216, [true, true, true, true, true, true, false]), (254, [true, true, true, false, false, false, false])] 2 ?_
    show ((i < 0 → zRuns 112 zX0 R 254 [some (.inr (.inr (9, 0))), some (.inl d), some (.inl w), none, none, none, none] [] σ) ∧ (0 ≤ i → ((0 ≤ i ∧ i < (41 : Int)) ∧ zRuns 112 zX0 R 145 [some (.inr (.inr (9, 0))), some (.inl d), some (.inl w), some (.inl i), some (.inl (5000 : Int)), some (.inl (-1 : Int)), some (.inl (σ 45 i))] [] σ)))
    refine ⟨?_, ?_⟩
    · intro h1
      rw [show i + 1 = 0 by omega] at hf
      have e := zfrom_0 (by omega) hf
      rw [e]; exact Kx
    · intro h2
      refine ⟨by (first | exact ⟨by omega, by omega⟩ | (exfalso; omega)), ?_⟩
      exfalso; omega
  | succ c ih =>
    intro i w hc hi hf
    have hk2 := m1 i (by omega) hi
    obtain ⟨a, ha⟩ : ∃ a, σ 45 i = a := ⟨_, rfl⟩
    obtain ⟨b, hb⟩ : ∃ b, σ 45 (i + 1) = b := ⟨_, rfl⟩
    have hx : ∀ j : Int, a ≤ j → j < b → 0 ≤ σ 41 j ∧ σ 41 j ≤ 2000 := fun j q1 q2 => m2 j (by omega) (by omega)
    have hiff := zIn_iff5 (x := σ 41) (p := p) ha hb
    have r1 := zmn_r (x := σ 41) (a := a) (b - a).toNat (fun j q1 q2 => hx j q1 (by omega)) 5000 (by omega) (by omega)
    have r2 := zmx_r (x := σ 41) (a := a) (b - a).toNat (fun j q1 q2 => hx j q1 (by omega)) (-1) (by omega) (by omega)
    have hin : zIn (σ 41) (σ 45) p i = true → zfrom (zIn (σ 41) (σ 45) p) (i - 1 + 1) K i := fun h => Or.inr ⟨by omega, hi, h, fun j q1 q2 => absurd q2 (by omega)⟩
    have hout : zIn (σ 41) (σ 45) p i = false → zfrom (zIn (σ 41) (σ 45) p) (i - 1 + 1) K w := fun h => by
      rcases hf with ⟨e, f⟩ | ⟨f1, f2, f3, f4⟩
      · refine Or.inl ⟨e, fun j q1 q2 => ?_⟩
        by_cases z : j = i
        · rw [z]; exact h
        · exact f j (by omega) q2
      · refine Or.inr ⟨by omega, f2, f3, fun j q1 q2 => ?_⟩
        by_cases z : j = i
        · rw [z]; exact h
        · exact f4 j (by omega) q2
    have ei : i + (-1 : Int) = i - 1 := by omega
    have KM : zRuns 112 zX0 R 216 [some (.inr (.inr (9, 0))), some (.inl d), some (.inl w), some (.inl i), some (.inl (zmn (σ 41) a 5000 (b - a).toNat)), some (.inl (zmx (σ 41) a (-1) (b - a).toNat)), none] [] σ := by
      refine zwalk zmk_112 [(125, [true, true, true, true, false, false, false]), (145, [true, true, true, true, true, true, true]), (216, [true, true, true, true, true, true, false]), (254, [true, true, true, false, false, false, false])] 3 ?_
      show ((0 ≤ d ∧ d < (40 : Int)) ∧ (zI ((zmn (σ 41) a 5000 (b - a).toNat) - (5 : Int)) ∧ (((σ 44 d) < ((zmn (σ 41) a 5000 (b - a).toNat) - (5 : Int)) → (zI (i + (-1 : Int)) ∧ zRuns 112 zX0 R 125 [some (.inr (.inr (9, 0))), some (.inl d), some (.inl w), some (.inl (i + (-1 : Int))), none, none, none] [] σ)) ∧ (((zmn (σ 41) a 5000 (b - a).toNat) - (5 : Int)) ≤ (σ 44 d) → ((0 ≤ d ∧ d < (40 : Int)) ∧ (zI ((zmx (σ 41) a (-1) (b - a).toNat) + (5 : Int)) ∧ ((((zmx (σ 41) a (-1) (b - a).toNat) + (5 : Int)) < (σ 44 d) → (zI (i + (-1 : Int)) ∧ zRuns 112 zX0 R 125 [some (.inr (.inr (9, 0))), some (.inl d), some (.inl w), some (.inl (i + (-1 : Int))), none, none, none] [] σ)) ∧ ((σ 44 d) ≤ ((zmx (σ 41) a (-1) (b - a).toNat) + (5 : Int)) → (zI (i + (-1 : Int)) ∧ zRuns 112 zX0 R 125 [some (.inr (.inr (9, 0))), some (.inl d), some (.inl i), some (.inl (i + (-1 : Int))), none, none, none] [] σ)))))))))
      rw [hdp]
      refine ⟨by (first | exact ⟨by omega, by omega⟩ | (exfalso; omega)), ?_⟩
      refine ⟨by (first | exact ⟨by omega, by omega⟩ | (exfalso; omega)), ?_⟩
      refine ⟨?_, ?_⟩
      · intro h1
        refine ⟨by (first | exact ⟨by omega, by omega⟩ | (exfalso; omega)), ?_⟩
        rw [ei]
        refine ih (i - 1) w (by omega) (by omega) (hout ?_)
        cases hz : zIn (σ 41) (σ 45) p i with
        | false => rfl
        | true => have := hiff.mp hz; exfalso; omega
      · intro h2
        refine ⟨by (first | exact ⟨by omega, by omega⟩ | (exfalso; omega)), ?_⟩
        refine ⟨by (first | exact ⟨by omega, by omega⟩ | (exfalso; omega)), ?_⟩
        refine ⟨?_, ?_⟩
        · intro h3
          refine ⟨by (first | exact ⟨by omega, by omega⟩ | (exfalso; omega)), ?_⟩
          rw [ei]
          refine ih (i - 1) w (by omega) (by omega) (hout ?_)
          cases hz : zIn (σ 41) (σ 45) p i with
          | false => rfl
          | true => have := hiff.mp hz; exfalso; omega
        · intro h4
          refine ⟨by (first | exact ⟨by omega, by omega⟩ | (exfalso; omega)), ?_⟩
          rw [ei]
          exact ih (i - 1) i (by omega) (by omega) (hin (hiff.mpr (by omega)))
    refine zwalk zmk_112 [(125, [true, true, true, true, false, false, false]), (145, [true, true, true, true, true, true, true]), (216, [true, true, true, true, true, true, false]), (254, [true, true, true, false, false, false, false])] 2 ?_
    show ((i < 0 → zRuns 112 zX0 R 254 [some (.inr (.inr (9, 0))), some (.inl d), some (.inl w), none, none, none, none] [] σ) ∧ (0 ≤ i → ((0 ≤ i ∧ i < (41 : Int)) ∧ zRuns 112 zX0 R 145 [some (.inr (.inr (9, 0))), some (.inl d), some (.inl w), some (.inl i), some (.inl (5000 : Int)), some (.inl (-1 : Int)), some (.inl (σ 45 i))] [] σ)))
    refine ⟨?_, ?_⟩
    · intro h1
      exfalso; omega
    · intro h2
      refine ⟨by (first | exact ⟨by omega, by omega⟩ | (exfalso; omega)), ?_⟩
      have hI := lp_mm (R := R) (d := d) (w := w) (i := i) (by omega) hb (by omega) hx KM (b - a).toNat 0 (by omega)
      rw [show a + ((0 : Nat) : Int) = σ 45 i by omega] at hI
      exact hI
set_option maxRecDepth 100000 in
set_option maxHeartbeats 4000000 in
theorem lp_dd {σ : zS} {n K : Int} {D : Nat} (hm : zMQ σ n K) (hK : σ 9 13 = K) (hn : σ 45 K = n) (hD : σ 9 9 = (D : Int)) (hD40 : D ≤ 40) (hw : ∀ j : Int, 0 ≤ j → j < D → 0 ≤ σ 44 j ∧ σ 44 j ≤ 2000) : ∀ (c k : Nat) (s : zS), k + c = D → zfr [9, 43, 46] σ s → (∀ j : Int, ¬ j = 11 → s 9 j = σ 9 j) → (s 9 11 = zjl (ztf (σ 41) (σ 45) K) (fun d : Nat => σ 44 (d : Int)) k ∧ (∀ j : Int, 0 ≤ j → j < K → s 46 j = zji (ztf (σ 41) (σ 45) K) (fun d : Nat => σ 44 (d : Int)) j k) ∧ ∀ j : Int, 0 ≤ j → j < n → s 43 j = zjo (ztf (σ 41) (σ 45) K) (znr (σ 41) (σ 45)) (fun d : Nat => σ 44 (d : Int)) j k) → zRuns 112 zX0 (fun (v : Int) (u : zS) => zfr [9, 43, 46] σ u ∧ (∀ j : Int, ¬ j = 11 → u 9 j = σ 9 j) ∧ u 9 11 = zjl (ztf (σ 41) (σ 45) K) (fun d : Nat => σ 44 (d : Int)) D ∧ (∀ j : Int, 0 ≤ j → j < K → u 46 j = zji (ztf (σ 41) (σ 45) K) (fun d : Nat => σ 44 (d : Int)) j D) ∧ ∀ j : Int, 0 ≤ j → j < n → u 43 j = zjo (ztf (σ 41) (σ 45) K) (znr (σ 41) (σ 45)) (fun d : Nat => σ 44 (d : Int)) j D) 108 [some (.inr (.inr (9, 0))), some (.inl (k : Int)), none, none, none, none, none] [] s := by
  intro c
  induction c with
  | zero =>
    intro k s hk hf i2 hi
    have e9 := i2 9 (by decide)
    obtain rfl : D = k := by omega
    refine zwalk zmk_112 [(108, [true, true, false, false, false, false, false]), (125, [true, true, true, true, false, false, false]), (254, [true, true, true, false, false, false, false]), (296, [true, true, true, true, true, false, false]), (338, [true, true, false, true, false, false, false])] 3 ?_
    show (((s 9 (9 : Int)) ≤ (D : Int) → (zfr [9, 43, 46] σ s ∧ (∀ j : Int, ¬ j = 11 → s 9 j = σ 9 j) ∧ s 9 11 = zjl (ztf (σ 41) (σ 45) K) (fun d : Nat => σ 44 (d : Int)) D ∧ (∀ j : Int, 0 ≤ j → j < K → s 46 j = zji (ztf (σ 41) (σ 45) K) (fun d : Nat => σ 44 (d : Int)) j D) ∧ ∀ j : Int, 0 ≤ j → j < n → s 43 j = zjo (ztf (σ 41) (σ 45) K) (znr (σ 41) (σ 45)) (fun d : Nat => σ 44 (d : Int)) j D)) ∧ ((D : Int) < (s 9 (9 : Int)) → (zI ((s 9 (13 : Int)) - (1 : Int)) ∧ zRuns 112 zX0 (fun (v : Int) (u : zS) => zfr [9, 43, 46] σ u ∧ (∀ j : Int, ¬ j = 11 → u 9 j = σ 9 j) ∧ u 9 11 = zjl (ztf (σ 41) (σ 45) K) (fun d : Nat => σ 44 (d : Int)) D ∧ (∀ j : Int, 0 ≤ j → j < K → u 46 j = zji (ztf (σ 41) (σ 45) K) (fun d : Nat => σ 44 (d : Int)) j D) ∧ ∀ j : Int, 0 ≤ j → j < n → u 43 j = zjo (ztf (σ 41) (σ 45) K) (znr (σ 41) (σ 45)) (fun d : Nat => σ 44 (d : Int)) j D) 125 [some (.inr (.inr (9, 0))), some (.inl (D : Int)), some (.inl (-1 : Int)), some (.inl ((s 9 (13 : Int)) - (1 : Int))), none, none, none] [] s)))
    exact ⟨fun _ => ⟨hf, i2, hi⟩, fun q => absurd q (by omega)⟩
  | succ c ih =>
    intro k s hk hf i2 hi
    obtain ⟨i11, i46, i43⟩ := hi
    have e9 := i2 9 (by decide)
    have e13 := i2 13 (by decide)
    have e41 : s 41 = σ 41 := hf 41 (by decide)
    have e44 : s 44 = σ 44 := hf 44 (by decide)
    have e45 : s 45 = σ 45 := hf 45 (by decide)
    have hms := hm.frame e41 e45
    obtain ⟨p, hp⟩ : ∃ p, σ 44 (k : Int) = p := ⟨_, rfl⟩
    have hwk := hw k (by omega) (by omega)
    rw [hp] at hwk
    obtain ⟨m0, m1, m2⟩ := hm
    have ec : ((k + 1 : Nat) : Int) = (k : Int) + 1 := by omega
    obtain ⟨t, ht⟩ : ∃ t, ztf (σ 41) (σ 45) K p = t := ⟨_, rfl⟩
    have htr := ztf_r (x := σ 41) (f := σ 45) (n := K) (p := p) (by omega)
    rw [ht] at htr
    obtain ⟨q11, -, -⟩ := zj_r (ztf (σ 41) (σ 45) K) (znr (σ 41) (σ 45)) (fun d : Nat => σ 44 (d : Int)) 0 k
    have q46 := i46 t
    have r46 := (zj_r (ztf (σ 41) (σ 45) K) (znr (σ 41) (σ 45)) (fun d : Nat => σ 44 (d : Int)) t k).2.1
    have s11 : zjl (ztf (σ 41) (σ 45) K) (fun d : Nat => σ 44 (d : Int)) (k + 1) = zjl (ztf (σ 41) (σ 45) K) (fun d : Nat => σ 44 (d : Int)) k + (if (ztf (σ 41) (σ 45) K) (σ 44 (k : Int)) < 0 then 1 else 0) := rfl
    have s46 : ∀ j, zji (ztf (σ 41) (σ 45) K) (fun d : Nat => σ 44 (d : Int)) j (k + 1) = zji (ztf (σ 41) (σ 45) K) (fun d : Nat => σ 44 (d : Int)) j k + (if (ztf (σ 41) (σ 45) K) (σ 44 (k : Int)) = j then 1 else 0) := fun _ => rfl
    have s43 : ∀ j, zjo (ztf (σ 41) (σ 45) K) (znr (σ 41) (σ 45)) (fun d : Nat => σ 44 (d : Int)) j (k + 1) = zjo (ztf (σ 41) (σ 45) K) (znr (σ 41) (σ 45)) (fun d : Nat => σ 44 (d : Int)) j k + (if 0 ≤ (ztf (σ 41) (σ 45) K) (σ 44 (k : Int)) ∧ (znr (σ 41) (σ 45)) ((ztf (σ 41) (σ 45) K) (σ 44 (k : Int))) (σ 44 (k : Int)) = j then 1 else 0) := fun _ => rfl
    rw [hp, ht] at s11
    have KI : zRuns 112 zX0 (fun (v : Int) (u : zS) => zfr [9, 43, 46] σ u ∧ (∀ j : Int, ¬ j = 11 → u 9 j = σ 9 j) ∧ u 9 11 = zjl (ztf (σ 41) (σ 45) K) (fun d : Nat => σ 44 (d : Int)) D ∧ (∀ j : Int, 0 ≤ j → j < K → u 46 j = zji (ztf (σ 41) (σ 45) K) (fun d : Nat => σ 44 (d : Int)) j D) ∧ ∀ j : Int, 0 ≤ j → j < n → u 43 j = zjo (ztf (σ 41) (σ 45) K) (znr (σ 41) (σ 45)) (fun d : Nat => σ 44 (d : Int)) j D) 254 [some (.inr (.inr (9, 0))), some (.inl (k : Int)), some (.inl (ztf (s 41) (s 45) K p)), none, none, none, none] [] s := by
      rw [e41, e45, ht]
      refine zwalk zmk_112 [(108, [true, true, false, false, false, false, false]), (125, [true, true, true, true, false, false, false]), (254, [true, true, true, false, false, false, false]), (296, [true, true, true, true, true, false, false]), (338, [true, true, false, true, false, false, false])] 3 ?_
      show ((0 ≤ t → ((0 ≤ t ∧ t < (40 : Int)) ∧ (zI ((s 46 t) + (1 : Int)) ∧ ((0 ≤ t ∧ t < (40 : Int)) ∧ ((0 ≤ t ∧ t < (41 : Int)) ∧ ((0 ≤ t ∧ t < (41 : Int)) ∧ zRuns 112 zX0 (fun (v : Int) (u : zS) => zfr [9, 43, 46] σ u ∧ (∀ j : Int, ¬ j = 11 → u 9 j = σ 9 j) ∧ u 9 11 = zjl (ztf (σ 41) (σ 45) K) (fun d : Nat => σ 44 (d : Int)) D ∧ (∀ j : Int, 0 ≤ j → j < K → u 46 j = zji (ztf (σ 41) (σ 45) K) (fun d : Nat => σ 44 (d : Int)) j D) ∧ ∀ j : Int, 0 ≤ j → j < n → u 43 j = zjo (ztf (σ 41) (σ 45) K) (znr (σ 41) (σ 45)) (fun d : Nat => σ 44 (d : Int)) j D) 296 [some (.inr (.inr (9, 0))), some (.inl (k : Int)), some (.inl t), some (.inl (s 45 t)), some (.inl (s 45 t)), none, none] [] (zup s 46 t ((s 46 t) + (1 : Int))))))))) ∧ (t < 0 → (zI ((s 9 (11 : Int)) + (1 : Int)) ∧ (zI ((k : Int) + (1 : Int)) ∧ zRuns 112 zX0 (fun (v : Int) (u : zS) => zfr [9, 43, 46] σ u ∧ (∀ j : Int, ¬ j = 11 → u 9 j = σ 9 j) ∧ u 9 11 = zjl (ztf (σ 41) (σ 45) K) (fun d : Nat => σ 44 (d : Int)) D ∧ (∀ j : Int, 0 ≤ j → j < K → u 46 j = zji (ztf (σ 41) (σ 45) K) (fun d : Nat => σ 44 (d : Int)) j D) ∧ ∀ j : Int, 0 ≤ j → j < n → u 43 j = zjo (ztf (σ 41) (σ 45) K) (znr (σ 41) (σ 45)) (fun d : Nat => σ 44 (d : Int)) j D) 108 [some (.inr (.inr (9, 0))), some (.inl ((k : Int) + (1 : Int))), none, none, none, none, none] [] (zup s 9 (11 : Int) ((s 9 (11 : Int)) + (1 : Int)))))))
      rw [i11]
      refine ⟨?_, ?_⟩
      · intro h1
        refine ⟨by (first | exact ⟨by omega, by omega⟩ | (exfalso; omega)), ?_⟩
        refine ⟨by (first | exact ⟨by omega, by omega⟩ | (exfalso; omega)), ?_⟩
        refine ⟨by (first | exact ⟨by omega, by omega⟩ | (exfalso; omega)), ?_⟩
        refine ⟨by (first | exact ⟨by omega, by omega⟩ | (exfalso; omega)), ?_⟩
        refine ⟨by (first | exact ⟨by omega, by omega⟩ | (exfalso; omega)), ?_⟩
        have hl2 := m1 t (by omega) (by omega)
        obtain ⟨a, ha⟩ : ∃ a, σ 45 t = a := ⟨_, rfl⟩
        obtain ⟨b, hb⟩ : ∃ b, σ 45 (t + 1) = b := ⟨_, rfl⟩
        have X41 : (zup s 46 t (s 46 t + 1)) 41 = σ 41 := e41
        have X44 : (zup s 46 t (s 46 t + 1)) 44 = σ 44 := e44
        have X45 : (zup s 46 t (s 46 t + 1)) 45 = σ 45 := e45
        obtain ⟨v2, hv2⟩ : ∃ v2, zne (σ 41) p a (b - a).toNat = v2 := ⟨_, rfl⟩
        have hz9 := zne_r (x := σ 41) (p := p) (a := a) (b - a).toNat
        rw [hv2] at hz9
        have enr : (znr (σ 41) (σ 45)) t p = v2 := by show zne (σ 41) p (σ 45 t) (σ 45 (t + 1) - σ 45 t).toNat = v2; rw [ha, hb]; exact hv2
        have q43 := i43 v2 (by omega) (by omega)
        have r43 := (zj_r (ztf (σ 41) (σ 45) K) (znr (σ 41) (σ 45)) (fun d : Nat => σ 44 (d : Int)) v2 k).2.2
        have KN : zRuns 112 zX0 (fun (v : Int) (u : zS) => zfr [9, 43, 46] σ u ∧ (∀ j : Int, ¬ j = 11 → u 9 j = σ 9 j) ∧ u 9 11 = zjl (ztf (σ 41) (σ 45) K) (fun d : Nat => σ 44 (d : Int)) D ∧ (∀ j : Int, 0 ≤ j → j < K → u 46 j = zji (ztf (σ 41) (σ 45) K) (fun d : Nat => σ 44 (d : Int)) j D) ∧ ∀ j : Int, 0 ≤ j → j < n → u 43 j = zjo (ztf (σ 41) (σ 45) K) (znr (σ 41) (σ 45)) (fun d : Nat => σ 44 (d : Int)) j D) 338 [some (.inr (.inr (9, 0))), some (.inl (k : Int)), none, some (.inl (zne ((zup s 46 t (s 46 t + 1)) 41) p a (b - a).toNat)), none, none, none] [] (zup s 46 t (s 46 t + 1)) := by
          rw [X41, hv2]
          refine zwalk zmk_112 [(108, [true, true, false, false, false, false, false]), (125, [true, true, true, true, false, false, false]), (254, [true, true, true, false, false, false, false]), (296, [true, true, true, true, true, false, false]), (338, [true, true, false, true, false, false, false])] 2 ?_
          show ((0 ≤ v2 ∧ v2 < (40 : Int)) ∧ (zI ((s 43 v2) + (1 : Int)) ∧ ((0 ≤ v2 ∧ v2 < (40 : Int)) ∧ (zI ((k : Int) + (1 : Int)) ∧ zRuns 112 zX0 (fun (v : Int) (u : zS) => zfr [9, 43, 46] σ u ∧ (∀ j : Int, ¬ j = 11 → u 9 j = σ 9 j) ∧ u 9 11 = zjl (ztf (σ 41) (σ 45) K) (fun d : Nat => σ 44 (d : Int)) D ∧ (∀ j : Int, 0 ≤ j → j < K → u 46 j = zji (ztf (σ 41) (σ 45) K) (fun d : Nat => σ 44 (d : Int)) j D) ∧ ∀ j : Int, 0 ≤ j → j < n → u 43 j = zjo (ztf (σ 41) (σ 45) K) (znr (σ 41) (σ 45)) (fun d : Nat => σ 44 (d : Int)) j D) 108 [some (.inr (.inr (9, 0))), some (.inl ((k : Int) + (1 : Int))), none, none, none, none, none] [] (zup (zup s 46 t (s 46 t + 1)) 43 v2 ((s 43 v2) + (1 : Int)))))))
          refine ⟨by (first | exact ⟨by omega, by omega⟩ | (exfalso; omega)), ?_⟩
          refine ⟨by (first | exact ⟨by omega, by omega⟩ | (exfalso; omega)), ?_⟩
          refine ⟨by (first | exact ⟨by omega, by omega⟩ | (exfalso; omega)), ?_⟩
          refine ⟨by (first | exact ⟨by omega, by omega⟩ | (exfalso; omega)), ?_⟩
          rw [← ec]
          refine ih (k + 1) _ (by omega) ((hf.up (c := 46) (by decide)).up (c := 43) (by decide)) (fun j hj => i2 j hj) ?_
          rw [s11]
          refine ⟨?_, fun j q1 q2 => ?_, fun j q1 q2 => ?_⟩
          · show s 9 11 = _
            rw [if_neg (by omega), i11]; omega
          · show (if j = t then s 46 t + 1 else s 46 j) = _
            rw [s46, hp, ht]
            by_cases e : j = t
            · rw [if_pos e, if_pos e.symm, ← e, i46 j q1 q2]
            · rw [if_neg e, if_neg (fun q => e q.symm), i46 j q1 q2]; omega
          · show (if j = v2 then s 43 v2 + 1 else s 43 j) = _
            rw [s43, hp, ht, enr]
            by_cases e : j = v2
            · rw [if_pos e, if_pos ⟨by omega, e.symm⟩, ← e, i43 j q1 q2]
            · rw [if_neg e, if_neg (fun q => e q.2.symm), i43 j q1 q2]; omega
        have hI := lp_nn (σ := zup s 46 t (s 46 t + 1)) (d := (k : Int)) (w := t) (p := p) (a := a) (b := b) (by omega) (by omega) (by rw [X44]; exact hp) hwk (by rw [X45]; exact hb) (by omega) (by rw [X41]; exact fun j q1 q2 => m2 j (by omega) (by omega)) KN (b - a).toNat 0 (by omega)
        rw [show a + ((0 : Nat) : Int) = a by omega] at hI
        have e0 : zne ((zup s 46 t (s 46 t + 1)) 41) p a 0 = a := rfl
        rw [e0] at hI
        rw [e45, ha]
        exact hI
      · intro h2
        refine ⟨by (first | exact ⟨by omega, by omega⟩ | (exfalso; omega)), ?_⟩
        refine ⟨by (first | exact ⟨by omega, by omega⟩ | (exfalso; omega)), ?_⟩
        rw [← ec]
        refine ih (k + 1) _ (by omega) (hf.up (c := 9) (by decide)) (fun j hj => by
          show (if j = 11 then _ else s 9 j) = _
          rw [if_neg hj]; exact i2 j hj) ?_
        rw [s11]
        refine ⟨?_, fun j q1 q2 => ?_, fun j q1 q2 => ?_⟩
        · show zjl (ztf (σ 41) (σ 45) K) (fun d : Nat => σ 44 (d : Int)) k + 1 = _
          rw [if_pos (by omega)]
        · show s 46 j = _
          rw [s46, hp, ht, if_neg (by omega), i46 j q1 q2]; omega
        · show s 43 j = _
          rw [s43, hp, ht, if_neg (by omega), i43 j q1 q2]; omega
    refine zwalk zmk_112 [(108, [true, true, false, false, false, false, false]), (125, [true, true, true, true, false, false, false]), (254, [true, true, true, false, false, false, false]), (296, [true, true, true, true, true, false, false]), (338, [true, true, false, true, false, false, false])] 3 ?_
    show (((s 9 (9 : Int)) ≤ (k : Int) → (fun (v : Int) (u : zS) => zfr [9, 43, 46] σ u ∧ (∀ j : Int, ¬ j = 11 → u 9 j = σ 9 j) ∧ u 9 11 = zjl (ztf (σ 41) (σ 45) K) (fun d : Nat => σ 44 (d : Int)) D ∧ (∀ j : Int, 0 ≤ j → j < K → u 46 j = zji (ztf (σ 41) (σ 45) K) (fun d : Nat => σ 44 (d : Int)) j D) ∧ ∀ j : Int, 0 ≤ j → j < n → u 43 j = zjo (ztf (σ 41) (σ 45) K) (znr (σ 41) (σ 45)) (fun d : Nat => σ 44 (d : Int)) j D) 0 s) ∧ ((k : Int) < (s 9 (9 : Int)) → (zI ((s 9 (13 : Int)) - (1 : Int)) ∧ zRuns 112 zX0 (fun (v : Int) (u : zS) => zfr [9, 43, 46] σ u ∧ (∀ j : Int, ¬ j = 11 → u 9 j = σ 9 j) ∧ u 9 11 = zjl (ztf (σ 41) (σ 45) K) (fun d : Nat => σ 44 (d : Int)) D ∧ (∀ j : Int, 0 ≤ j → j < K → u 46 j = zji (ztf (σ 41) (σ 45) K) (fun d : Nat => σ 44 (d : Int)) j D) ∧ ∀ j : Int, 0 ≤ j → j < n → u 43 j = zjo (ztf (σ 41) (σ 45) K) (znr (σ 41) (σ 45)) (fun d : Nat => σ 44 (d : Int)) j D) 125 [some (.inr (.inr (9, 0))), some (.inl (k : Int)), some (.inl (-1 : Int)), some (.inl ((s 9 (13 : Int)) - (1 : Int))), none, none, none] [] s)))
    rw [e13, hK]
    refine ⟨?_, ?_⟩
    · intro h1
      exfalso; omega
    · intro h2
      refine ⟨by (first | exact ⟨by omega, by omega⟩ | (exfalso; omega)), ?_⟩
      exact lp_ii (σ := s) (d := (k : Int)) (p := p) hms (by omega) (by rw [e44]; exact hp) hwk KI K.toNat (K - 1) (-1) (by omega) (by omega) (Or.inl ⟨rfl, fun j q1 q2 => absurd q2 (by omega)⟩)
