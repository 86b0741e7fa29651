theorem zdx_r {wx ws : Int → Int} {P : Int → Prop} : ∀ {n : Nat}, (∀ k : Nat, k < n → P (wx (k : Int))) → ∀ d : Nat, d < zdn ws n → P (zdx wx ws n d)
  | 0, _, d, h => by simp [zdn] at h
  | n + 1, hw, d, h => by
    by_cases c : ws n = 12
    · simp only [zdn, if_pos c] at h
      simp only [zdx, if_pos c]
      split
      · exact hw n (by omega)
      · exact zdx_r (fun k hk => hw k (by omega)) d (by omega)
    · simp only [zdn, if_neg c] at h
      simp only [zdx, if_neg c]
      exact zdx_r (fun k hk => hw k (by omega)) d (by omega)
def zqX (σ : zS) (s i j : Int) : Int := σ 39 (80 * s + i + 2 * j)
def zqS (σ : zS) (s i j : Int) : Int := σ 39 (80 * s + i + 2 * j + 1)
def zPOm (σ : zS) (s i n : Int) : Prop := ∀ j : Int, 0 ≤ j → j < n → zPO (zqX σ s i j) (zqS σ s i j)
set_option maxRecDepth 100000 in
set_option maxHeartbeats 4000000 in
theorem lp_mgather {σ : zS} {s i g : Int} {n : Nat} (hs : 0 ≤ s ∧ s < 8) (hi : 0 ≤ i ∧ i + 2 * (n : Int) ≤ σ 38 s) (hsz : σ 38 s ≤ 80) (hn1 : 1 ≤ n) (hn40 : n ≤ 40) (hl : ¬ σ 37 s = 0) (hg : σ 9 12 = g) (hgr : 0 ≤ g ∧ g ≤ 100) (hp : zPOm σ s i (n : Int)) : ∀ (m k : Nat) (t : zS), k + m = n → zfr [9, 41, 42, 44] σ t → (∀ j : Int, ¬ j = 5 → ¬ j = 9 → t 9 j = σ 9 j) → t 9 5 = zpn (zqS σ s i) k → t 9 9 = (zdn (zqS σ s i) k : Int) → (∀ j : Int, 0 ≤ j → j < zpn (zqS σ s i) k → t 41 j = zga (zqX σ s i) (zqS σ s i) k j ∧ t 42 j = zga (zqS σ s i) (zqS σ s i) k j) → (∀ d : Nat, d < zdn (zqS σ s i) k → t 44 (d : Int) = zdx (zqX σ s i) (zqS σ s i) k d) → zRuns 114 zX0 (fun (v : Int) (u : zS) => ((¬ (0 ≤ s ∧ s < 8) ∨ (n : Int) < 1 ∨ 40 < (n : Int)) ∧ σ = u ∧ -1000001 = v) ∨ (((0 ≤ s ∧ s < 8) ∧ 1 ≤ (n : Int) ∧ (n : Int) ≤ 40 ∧ σ 37 s = 0) ∧ zup σ 9 4 1 = u ∧ -1000011 = v) ∨ (((0 ≤ s ∧ s < 8) ∧ 1 ≤ (n : Int) ∧ (n : Int) ≤ 40 ∧ ¬ σ 37 s = 0 ∧ ¬ (0 ≤ i ∧ i + 2 * (n : Int) ≤ σ 38 s)) ∧ zup σ 9 4 2 = u ∧ -1000012 = v) ∨ (((0 ≤ s ∧ s < 8) ∧ 1 ≤ (n : Int) ∧ (n : Int) ≤ 40 ∧ ¬ σ 37 s = 0 ∧ 0 ≤ i ∧ i + 2 * (n : Int) ≤ σ 38 s) ∧ ¬ zPOm σ s i (n : Int) ∧ σ = u ∧ -1000001 = v) ∨ (((0 ≤ s ∧ s < 8) ∧ 1 ≤ (n : Int) ∧ (n : Int) ≤ 40 ∧ ¬ σ 37 s = 0 ∧ 0 ≤ i ∧ i + 2 * (n : Int) ≤ σ 38 s) ∧ zPOm σ s i (n : Int) ∧ u 9 13 = v ∧ zfr [9, 41, 42, 43, 44, 45, 46, 55] σ u ∧ (∀ j : Int, ¬ j = 4 → ¬ j = 5 → ¬ j = 9 → ¬ j = 11 → ¬ j = 13 → u 9 j = σ 9 j) ∧ u 9 4 = 0 ∧ (∀ j : Int, 0 ≤ j → j < 40 → u 55 j = 0) ∧ zLM (zqX σ s i) (zqS σ s i) g (n : Int).toNat u)) 154 [some (.inr (.inr (9, 0))), some (.inl s), some (.inl i), some (.inl (n : Int)), some (.inl (k : Int)), none, none] [] t := by
  intro m
  induction m with
  | zero =>
    intro k t hk hf i2 i5 i9 i41 i44
    obtain rfl : n = k := by omega
    have hb := zpn_le (zqS σ s i) n
    have hdl := zdn_le (zqS σ s i) n
    have hN9 : (((zlN (zqS σ s i) n).toNat : Nat) : Int) = zlN (zqS σ s i) n := Int.toNat_of_nonneg hb.1
    have hNe : zlN (zqS σ s i) n = zpn (zqS σ s i) n := rfl
    have hwx : ∀ k : Nat, k < n → 0 ≤ (zqX σ s i) (k : Int) ∧ (zqX σ s i) (k : Int) ≤ 2000 := fun k hk => by
      have := hp (k : Int) (by omega) (by omega)
      exact ⟨this.1, this.2.1⟩
    refine zwalk zmk_114 [(154, [true, true, true, true, true, false, false])] 3 ?_
    show (((n : Int) ≤ (n : Int) → (∃ Rc : Int → zS → Prop, zAM 112 [.inr (.inr (9, 0))] t Rc ∧ ∀ (u1 : zS), Rc 0 u1 → (∃ Rc : Int → zS → Prop, zAM 105 [.inr (.inr (9, 0)), .inl (u1 9 (13 : Int))] u1 Rc ∧ ∀ (v2 : Int) (u2 : zS), zI v2 → Rc v2 u2 → (((¬ (0 ≤ s ∧ s < 8) ∨ (n : Int) < 1 ∨ 40 < (n : Int)) ∧ σ = u2 ∧ -1000001 = v2) ∨ (((0 ≤ s ∧ s < 8) ∧ 1 ≤ (n : Int) ∧ (n : Int) ≤ 40 ∧ σ 37 s = 0) ∧ zup σ 9 4 1 = u2 ∧ -1000011 = v2) ∨ (((0 ≤ s ∧ s < 8) ∧ 1 ≤ (n : Int) ∧ (n : Int) ≤ 40 ∧ ¬ σ 37 s = 0 ∧ ¬ (0 ≤ i ∧ i + 2 * (n : Int) ≤ σ 38 s)) ∧ zup σ 9 4 2 = u2 ∧ -1000012 = v2) ∨ (((0 ≤ s ∧ s < 8) ∧ 1 ≤ (n : Int) ∧ (n : Int) ≤ 40 ∧ ¬ σ 37 s = 0 ∧ 0 ≤ i ∧ i + 2 * (n : Int) ≤ σ 38 s) ∧ ¬ zPOm σ s i (n : Int) ∧ σ = u2 ∧ -1000001 = v2) ∨ (((0 ≤ s ∧ s < 8) ∧ 1 ≤ (n : Int) ∧ (n : Int) ≤ 40 ∧ ¬ σ 37 s = 0 ∧ 0 ≤ i ∧ i + 2 * (n : Int) ≤ σ 38 s) ∧ zPOm σ s i (n : Int) ∧ u2 9 13 = v2 ∧ zfr [9, 41, 42, 43, 44, 45, 46, 55] σ u2 ∧ (∀ j : Int, ¬ j = 4 → ¬ j = 5 → ¬ j = 9 → ¬ j = 11 → ¬ j = 13 → u2 9 j = σ 9 j) ∧ u2 9 4 = 0 ∧ (∀ j : Int, 0 ≤ j → j < 40 → u2 55 j = 0) ∧ zLM (zqX σ s i) (zqS σ s i) g (n : Int).toNat u2))))) ∧ ((n : Int) < (n : Int) → (zI ((80 : Int) * s) ∧ (zI (((80 : Int) * s) + i) ∧ (zI ((2 : Int) * (n : Int)) ∧ (zI ((((80 : Int) * s) + i) + ((2 : Int) * (n : Int))) ∧ ((0 ≤ ((((80 : Int) * s) + i) + ((2 : Int) * (n : Int))) ∧ ((((80 : Int) * s) + i) + ((2 : Int) * (n : Int))) < (640 : Int)) ∧ (zI ((80 : Int) * s) ∧ (zI (((80 : Int) * s) + i) ∧ (zI ((2 : Int) * (n : Int)) ∧ (zI ((((80 : Int) * s) + i) + ((2 : Int) * (n : Int))) ∧ (zI (((((80 : Int) * s) + i) + ((2 : Int) * (n : Int))) + (1 : Int)) ∧ ((0 ≤ (((((80 : Int) * s) + i) + ((2 : Int) * (n : Int))) + (1 : Int)) ∧ (((((80 : Int) * s) + i) + ((2 : Int) * (n : Int))) + (1 : Int)) < (640 : Int)) ∧ ((¬ (t 39 (((((80 : Int) * s) + i) + ((2 : Int) * (n : Int))) + (1 : Int))) = (12 : Int) → ((0 ≤ (t 9 (5 : Int)) ∧ (t 9 (5 : Int)) < (40 : Int)) ∧ ((0 ≤ (t 9 (5 : Int)) ∧ (t 9 (5 : Int)) < (40 : Int)) ∧ (zI ((t 9 (5 : Int)) + (1 : Int)) ∧ (zI ((n : Int) + (1 : Int)) ∧ zRuns 114 zX0 (fun (v : Int) (u : zS) => ((¬ (0 ≤ s ∧ s < 8) ∨ (n : Int) < 1 ∨ 40 < (n : Int)) ∧ σ = u ∧ -1000001 = v) ∨ (((0 ≤ s ∧ s < 8) ∧ 1 ≤ (n : Int) ∧ (n : Int) ≤ 40 ∧ σ 37 s = 0) ∧ zup σ 9 4 1 = u ∧ -1000011 = v) ∨ (((0 ≤ s ∧ s < 8) ∧ 1 ≤ (n : Int) ∧ (n : Int) ≤ 40 ∧ ¬ σ 37 s = 0 ∧ ¬ (0 ≤ i ∧ i + 2 * (n : Int) ≤ σ 38 s)) ∧ zup σ 9 4 2 = u ∧ -1000012 = v) ∨ (((0 ≤ s ∧ s < 8) ∧ 1 ≤ (n : Int) ∧ (n : Int) ≤ 40 ∧ ¬ σ 37 s = 0 ∧ 0 ≤ i ∧ i + 2 * (n : Int) ≤ σ 38 s) ∧ ¬ zPOm σ s i (n : Int) ∧ σ = u ∧ -1000001 = v) ∨ (((0 ≤ s ∧ s < 8) ∧ 1 ≤ (n : Int) ∧ (n : Int) ≤ 40 ∧ ¬ σ 37 s = 0 ∧ 0 ≤ i ∧ i + 2 * (n : Int) ≤ σ 38 s) ∧ zPOm σ s i (n : Int) ∧ u 9 13 = v ∧ zfr [9, 41, 42, 43, 44, 45, 46, 55] σ u ∧ (∀ j : Int, ¬ j = 4 → ¬ j = 5 → ¬ j = 9 → ¬ j = 11 → ¬ j = 13 → u 9 j = σ 9 j) ∧ u 9 4 = 0 ∧ (∀ j : Int, 0 ≤ j → j < 40 → u 55 j = 0) ∧ zLM (zqX σ s i) (zqS σ s i) g (n : Int).toNat u)) 154 [some (.inr (.inr (9, 0))), some (.inl s), some (.inl i), some (.inl (n : Int)), some (.inl ((n : Int) + (1 : Int))), none, none] [] (zup (zup (zup t 41 (t 9 (5 : Int)) (t 39 ((((80 : Int) * s) + i) + ((2 : Int) * (n : Int))))) 42 (t 9 (5 : Int)) (t 39 (((((80 : Int) * s) + i) + ((2 : Int) * (n : Int))) + (1 : Int)))) 9 (5 : Int) ((t 9 (5 : Int)) + (1 : Int)))))))) ∧ ((t 39 (((((80 : Int) * s) + i) + ((2 : Int) * (n : Int))) + (1 : Int))) = (12 : Int) → ((0 ≤ (t 9 (9 : Int)) ∧ (t 9 (9 : Int)) < (40 : Int)) ∧ (zI ((t 9 (9 : Int)) + (1 : Int)) ∧ (zI ((n : Int) + (1 : Int)) ∧ zRuns 114 zX0 (fun (v : Int) (u : zS) => ((¬ (0 ≤ s ∧ s < 8) ∨ (n : Int) < 1 ∨ 40 < (n : Int)) ∧ σ = u ∧ -1000001 = v) ∨ (((0 ≤ s ∧ s < 8) ∧ 1 ≤ (n : Int) ∧ (n : Int) ≤ 40 ∧ σ 37 s = 0) ∧ zup σ 9 4 1 = u ∧ -1000011 = v) ∨ (((0 ≤ s ∧ s < 8) ∧ 1 ≤ (n : Int) ∧ (n : Int) ≤ 40 ∧ ¬ σ 37 s = 0 ∧ ¬ (0 ≤ i ∧ i + 2 * (n : Int) ≤ σ 38 s)) ∧ zup σ 9 4 2 = u ∧ -1000012 = v) ∨ (((0 ≤ s ∧ s < 8) ∧ 1 ≤ (n : Int) ∧ (n : Int) ≤ 40 ∧ ¬ σ 37 s = 0 ∧ 0 ≤ i ∧ i + 2 * (n : Int) ≤ σ 38 s) ∧ ¬ zPOm σ s i (n : Int) ∧ σ = u ∧ -1000001 = v) ∨ (((0 ≤ s ∧ s < 8) ∧ 1 ≤ (n : Int) ∧ (n : Int) ≤ 40 ∧ ¬ σ 37 s = 0 ∧ 0 ≤ i ∧ i + 2 * (n : Int) ≤ σ 38 s) ∧ zPOm σ s i (n : Int) ∧ u 9 13 = v ∧ zfr [9, 41, 42, 43, 44, 45, 46, 55] σ u ∧ (∀ j : Int, ¬ j = 4 → ¬ j = 5 → ¬ j = 9 → ¬ j = 11 → ¬ j = 13 → u 9 j = σ 9 j) ∧ u 9 4 = 0 ∧ (∀ j : Int, 0 ≤ j → j < 40 → u 55 j = 0) ∧ zLM (zqX σ s i) (zqS σ s i) g (n : Int).toNat u)) 154 [some (.inr (.inr (9, 0))), some (.inl s), some (.inl i), some (.inl (n : Int)), some (.inl ((n : Int) + (1 : Int))), none, none] [] (zup (zup t 44 (t 9 (9 : Int)) (t 39 ((((80 : Int) * s) + i) + ((2 : Int) * (n : Int))))) 9 (9 : Int) ((t 9 (9 : Int)) + (1 : Int)))))))))))))))))))))
    refine ⟨fun _ => ?_, fun q => absurd q (by omega)⟩
    refine ⟨_, am_X9_partLine (g := g) (n := (zlN (zqS σ s i) n).toNat) (D := zdn (zqS σ s i) n) (by rw [hN9]; exact i5) (by omega) (by rw [i2 12 (by decide) (by decide)]; exact hg) (hgr) (by
    intro j q1 q2
    rw [hN9] at q2
    rw [(i41 j q1 q2).1]
    exact zga_r (P := fun y => 0 ≤ y ∧ y ≤ 2000) (fun k hk _ => hwx k hk) j q1 q2) (i9) (by omega) (by
    intro j q1 q2
    obtain ⟨d, rfl⟩ : ∃ d : Nat, j = (d : Int) := ⟨j.toNat, by omega⟩
    rw [i44 d (by omega)]
    exact zdx_r (P := fun y => 0 ≤ y ∧ y ≤ 2000) hwx d (by omega)), ?_⟩
    intro u1
    intro kv1
    have hLM := zLM_of (σ := t) (u := u1) (wx := (zqX σ s i)) (ws := (zqS σ s i)) (g := g) (n := n) i41 i44 i5 i9 kv1
    obtain ⟨f1, f2, f3, -⟩ := kv1
    refine ⟨_, am_X9_well, ?_⟩
    intro v2 u2 hv2
    rintro ⟨rfl, rfl⟩
    obtain ⟨hv2a, hv2b⟩ := hv2
    refine Or.inr (Or.inr (Or.inr (Or.inr ⟨⟨hs, by omega, by omega, hl, hi.1, hi.2⟩, hp, ?_, fun k hk => ?_, fun j j1 j2 j3 j4 j5 => ?_, ?_, fun j j0 j1 => ?_, ?_⟩)))
    · rw [zup_at, if_neg (by decide)]
    · have hk1 : k ∉ [9, 43, 45, 46, 55] := fun q => hk (by simp at q ⊢; omega)
      have hk2 : k ∉ [9, 41, 42, 44] := fun q => hk (by simp at q ⊢; omega)
      have hk3 : ¬ k = 9 := fun q => hk (by simp [q])
      rw [zup_ne hk3, f1 k hk1, hf k hk2]
    · rw [zup_at, if_neg j1, f2 j j4 j5, i2 j j2 j3]
    · rw [zup_at]; exact if_pos rfl
    · rw [zup_ne (by decide)]; exact f3 j j0 j1
    · rw [Int.toNat_natCast]
      obtain ⟨y1, y2, y3, y4, y5, y6, y7, y8⟩ := hLM
      exact ⟨y1, y2, y3, y4, y5, y6, y7, y8⟩
  | succ m ih =>
    intro k t hk hf i2 i5 i9 i41 i44
    have e39 : t 39 = σ 39 := hf 39 (by decide)
    have ec : ((k + 1 : Nat) : Int) = (k : Int) + 1 := by omega
    have hb := zpn_le (zqS σ s i) k
    have hdl := zdn_le (zqS σ s i) k
    refine zwalk zmk_114 [(154, [true, true, true, true, true, false, false])] 3 ?_
    show (((n : Int) ≤ (k : Int) → (∃ Rc : Int → zS → Prop, zAM 112 [.inr (.inr (9, 0))] t Rc ∧ ∀ (u1 : zS), Rc 0 u1 → (∃ Rc : Int → zS → Prop, zAM 105 [.inr (.inr (9, 0)), .inl (u1 9 (13 : Int))] u1 Rc ∧ ∀ (v2 : Int) (u2 : zS), zI v2 → Rc v2 u2 → (((¬ (0 ≤ s ∧ s < 8) ∨ (n : Int) < 1 ∨ 40 < (n : Int)) ∧ σ = u2 ∧ -1000001 = v2) ∨ (((0 ≤ s ∧ s < 8) ∧ 1 ≤ (n : Int) ∧ (n : Int) ≤ 40 ∧ σ 37 s = 0) ∧ zup σ 9 4 1 = u2 ∧ -1000011 = v2) ∨ (((0 ≤ s ∧ s < 8) ∧ 1 ≤ (n : Int) ∧ (n : Int) ≤ 40 ∧ ¬ σ 37 s = 0 ∧ ¬ (0 ≤ i ∧ i + 2 * (n : Int) ≤ σ 38 s)) ∧ zup σ 9 4 2 = u2 ∧ -1000012 = v2) ∨ (((0 ≤ s ∧ s < 8) ∧ 1 ≤ (n : Int) ∧ (n : Int) ≤ 40 ∧ ¬ σ 37 s = 0 ∧ 0 ≤ i ∧ i + 2 * (n : Int) ≤ σ 38 s) ∧ ¬ zPOm σ s i (n : Int) ∧ σ = u2 ∧ -1000001 = v2) ∨ (((0 ≤ s ∧ s < 8) ∧ 1 ≤ (n : Int) ∧ (n : Int) ≤ 40 ∧ ¬ σ 37 s = 0 ∧ 0 ≤ i ∧ i + 2 * (n : Int) ≤ σ 38 s) ∧ zPOm σ s i (n : Int) ∧ u2 9 13 = v2 ∧ zfr [9, 41, 42, 43, 44, 45, 46, 55] σ u2 ∧ (∀ j : Int, ¬ j = 4 → ¬ j = 5 → ¬ j = 9 → ¬ j = 11 → ¬ j = 13 → u2 9 j = σ 9 j) ∧ u2 9 4 = 0 ∧ (∀ j : Int, 0 ≤ j → j < 40 → u2 55 j = 0) ∧ zLM (zqX σ s i) (zqS σ s i) g (n : Int).toNat u2))))) ∧ ((k : Int) < (n : Int) → (zI ((80 : Int) * s) ∧ (zI (((80 : Int) * s) + i) ∧ (zI ((2 : Int) * (k : Int)) ∧ (zI ((((80 : Int) * s) + i) + ((2 : Int) * (k : Int))) ∧ ((0 ≤ ((((80 : Int) * s) + i) + ((2 : Int) * (k : Int))) ∧ ((((80 : Int) * s) + i) + ((2 : Int) * (k : Int))) < (640 : Int)) ∧ (zI ((80 : Int) * s) ∧ (zI (((80 : Int) * s) + i) ∧ (zI ((2 : Int) * (k : Int)) ∧ (zI ((((80 : Int) * s) + i) + ((2 : Int) * (k : Int))) ∧ (zI (((((80 : Int) * s) + i) + ((2 : Int) * (k : Int))) + (1 : Int)) ∧ ((0 ≤ (((((80 : Int) * s) + i) + ((2 : Int) * (k : Int))) + (1 : Int)) ∧ (((((80 : Int) * s) + i) + ((2 : Int) * (k : Int))) + (1 : Int)) < (640 : Int)) ∧ ((¬ (t 39 (((((80 : Int) * s) + i) + ((2 : Int) * (k : Int))) + (1 : Int))) = (12 : Int) → ((0 ≤ (t 9 (5 : Int)) ∧ (t 9 (5 : Int)) < (40 : Int)) ∧ ((0 ≤ (t 9 (5 : Int)) ∧ (t 9 (5 : Int)) < (40 : Int)) ∧ (zI ((t 9 (5 : Int)) + (1 : Int)) ∧ (zI ((k : Int) + (1 : Int)) ∧ zRuns 114 zX0 (fun (v : Int) (u : zS) => ((¬ (0 ≤ s ∧ s < 8) ∨ (n : Int) < 1 ∨ 40 < (n : Int)) ∧ σ = u ∧ -1000001 = v) ∨ (((0 ≤ s ∧ s < 8) ∧ 1 ≤ (n : Int) ∧ (n : Int) ≤ 40 ∧ σ 37 s = 0) ∧ zup σ 9 4 1 = u ∧ -1000011 = v) ∨ (((0 ≤ s ∧ s < 8) ∧ 1 ≤ (n : Int) ∧ (n : Int) ≤ 40 ∧ ¬ σ 37 s = 0 ∧ ¬ (0 ≤ i ∧ i + 2 * (n : Int) ≤ σ 38 s)) ∧ zup σ 9 4 2 = u ∧ -1000012 = v) ∨ (((0 ≤ s ∧ s < 8) ∧ 1 ≤ (n : Int) ∧ (n : Int) ≤ 40 ∧ ¬ σ 37 s = 0 ∧ 0 ≤ i ∧ i + 2 * (n : Int) ≤ σ 38 s) ∧ ¬ zPOm σ s i (n : Int) ∧ σ = u ∧ -1000001 = v) ∨ (((0 ≤ s ∧ s < 8) ∧ 1 ≤ (n : Int) ∧ (n : Int) ≤ 40 ∧ ¬ σ 37 s = 0 ∧ 0 ≤ i ∧ i + 2 * (n : Int) ≤ σ 38 s) ∧ zPOm σ s i (n : Int) ∧ u 9 13 = v ∧ zfr [9, 41, 42, 43, 44, 45, 46, 55] σ u ∧ (∀ j : Int, ¬ j = 4 → ¬ j = 5 → ¬ j = 9 → ¬ j = 11 → ¬ j = 13 → u 9 j = σ 9 j) ∧ u 9 4 = 0 ∧ (∀ j : Int, 0 ≤ j → j < 40 → u 55 j = 0) ∧ zLM (zqX σ s i) (zqS σ s i) g (n : Int).toNat u)) 154 [some (.inr (.inr (9, 0))), some (.inl s), some (.inl i), some (.inl (n : Int)), some (.inl ((k : Int) + (1 : Int))), none, none] [] (zup (zup (zup t 41 (t 9 (5 : Int)) (t 39 ((((80 : Int) * s) + i) + ((2 : Int) * (k : Int))))) 42 (t 9 (5 : Int)) (t 39 (((((80 : Int) * s) + i) + ((2 : Int) * (k : Int))) + (1 : Int)))) 9 (5 : Int) ((t 9 (5 : Int)) + (1 : Int)))))))) ∧ ((t 39 (((((80 : Int) * s) + i) + ((2 : Int) * (k : Int))) + (1 : Int))) = (12 : Int) → ((0 ≤ (t 9 (9 : Int)) ∧ (t 9 (9 : Int)) < (40 : Int)) ∧ (zI ((t 9 (9 : Int)) + (1 : Int)) ∧ (zI ((k : Int) + (1 : Int)) ∧ zRuns 114 zX0 (fun (v : Int) (u : zS) => ((¬ (0 ≤ s ∧ s < 8) ∨ (n : Int) < 1 ∨ 40 < (n : Int)) ∧ σ = u ∧ -1000001 = v) ∨ (((0 ≤ s ∧ s < 8) ∧ 1 ≤ (n : Int) ∧ (n : Int) ≤ 40 ∧ σ 37 s = 0) ∧ zup σ 9 4 1 = u ∧ -1000011 = v) ∨ (((0 ≤ s ∧ s < 8) ∧ 1 ≤ (n : Int) ∧ (n : Int) ≤ 40 ∧ ¬ σ 37 s = 0 ∧ ¬ (0 ≤ i ∧ i + 2 * (n : Int) ≤ σ 38 s)) ∧ zup σ 9 4 2 = u ∧ -1000012 = v) ∨ (((0 ≤ s ∧ s < 8) ∧ 1 ≤ (n : Int) ∧ (n : Int) ≤ 40 ∧ ¬ σ 37 s = 0 ∧ 0 ≤ i ∧ i + 2 * (n : Int) ≤ σ 38 s) ∧ ¬ zPOm σ s i (n : Int) ∧ σ = u ∧ -1000001 = v) ∨ (((0 ≤ s ∧ s < 8) ∧ 1 ≤ (n : Int) ∧ (n : Int) ≤ 40 ∧ ¬ σ 37 s = 0 ∧ 0 ≤ i ∧ i + 2 * (n : Int) ≤ σ 38 s) ∧ zPOm σ s i (n : Int) ∧ u 9 13 = v ∧ zfr [9, 41, 42, 43, 44, 45, 46, 55] σ u ∧ (∀ j : Int, ¬ j = 4 → ¬ j = 5 → ¬ j = 9 → ¬ j = 11 → ¬ j = 13 → u 9 j = σ 9 j) ∧ u 9 4 = 0 ∧ (∀ j : Int, 0 ≤ j → j < 40 → u 55 j = 0) ∧ zLM (zqX σ s i) (zqS σ s i) g (n : Int).toNat u)) 154 [some (.inr (.inr (9, 0))), some (.inl s), some (.inl i), some (.inl (n : Int)), some (.inl ((k : Int) + (1 : Int))), none, none] [] (zup (zup t 44 (t 9 (9 : Int)) (t 39 ((((80 : Int) * s) + i) + ((2 : Int) * (k : Int))))) 9 (9 : Int) ((t 9 (9 : Int)) + (1 : Int)))))))))))))))))))))
    refine ⟨fun q => absurd q (by omega), fun _ => ?_⟩
    rw [e39, i5, i9]
    refine ⟨by (first | exact ⟨by omega, by omega⟩ | (exfalso; omega)), ?_⟩
    refine ⟨by (first | exact ⟨by omega, by omega⟩ | (exfalso; omega)), ?_⟩
    refine ⟨by (first | exact ⟨by omega, by omega⟩ | (exfalso; omega)), ?_⟩
    refine ⟨by (first | exact ⟨by omega, by omega⟩ | (exfalso; omega)), ?_⟩
    refine ⟨by (first | exact ⟨by omega, by omega⟩ | (exfalso; omega)), ?_⟩
    refine ⟨by (first | exact ⟨by omega, by omega⟩ | (exfalso; omega)), ?_⟩
    refine ⟨by (first | exact ⟨by omega, by omega⟩ | (exfalso; omega)), ?_⟩
    refine ⟨by (first | exact ⟨by omega, by omega⟩ | (exfalso; omega)), ?_⟩
    refine ⟨by (first | exact ⟨by omega, by omega⟩ | (exfalso; omega)), ?_⟩
    refine ⟨by (first | exact ⟨by omega, by omega⟩ | (exfalso; omega)), ?_⟩
    refine ⟨by (first | exact ⟨by omega, by omega⟩ | (exfalso; omega)), ?_⟩
    refine ⟨?_, ?_⟩
    · intro h1
      refine ⟨by (first | exact ⟨by omega, by omega⟩ | (exfalso; omega)), ?_⟩
      refine ⟨by (first | exact ⟨by omega, by omega⟩ | (exfalso; omega)), ?_⟩
      refine ⟨by (first | exact ⟨by omega, by omega⟩ | (exfalso; omega)), ?_⟩
      refine ⟨by (first | exact ⟨by omega, by omega⟩ | (exfalso; omega)), ?_⟩
      have hd : ¬ (zqS σ s i) (k : Int) = 12 := by assumption
      have hz := zpn_pc hd
      have hzd : zdn (zqS σ s i) (k + 1) = zdn (zqS σ s i) k := by simp only [zdn, if_neg hd]; omega
      have hzx : zdx (zqX σ s i) (zqS σ s i) (k + 1) = zdx (zqX σ s i) (zqS σ s i) k := by simp only [zdx, if_neg hd]
      rw [← ec]
      refine ih (k + 1) _ (by omega) (((hf.up (c := 41) (by decide)).up (c := 42) (by decide)).up (c := 9) (by decide)) (fun j j1 j2 => ?_) ?_ ?_ (fun j j0 j1 => ?_) ?_
      · show (if j = 5 then zpn (zqS σ s i) k + 1 else t 9 j) = _
        rw [if_neg j1]; exact i2 j j1 j2
      · rw [hz.1]; exact if_pos rfl
      · show (if (9 : Int) = 5 then zpn (zqS σ s i) k + 1 else t 9 9) = _
        rw [if_neg (by decide), hzd]; exact i9
      · show (if j = zpn (zqS σ s i) k then (zqX σ s i) (k : Int) else t 41 j) = _ ∧ (if j = zpn (zqS σ s i) k then (zqS σ s i) (k : Int) else t 42 j) = _
        rw [hz.2, hz.2]
        by_cases e : j = zpn (zqS σ s i) k
        · simp only [if_pos e]; exact ⟨trivial, trivial⟩
        · simp only [if_neg e]; exact i41 j j0 (by omega)
      · rw [hzd, hzx]; exact i44
    · intro h2
      refine ⟨by (first | exact ⟨by omega, by omega⟩ | (exfalso; omega)), ?_⟩
      refine ⟨by (first | exact ⟨by omega, by omega⟩ | (exfalso; omega)), ?_⟩
      refine ⟨by (first | exact ⟨by omega, by omega⟩ | (exfalso; omega)), ?_⟩
      have hd : (zqS σ s i) (k : Int) = 12 := by assumption
      have hz := zpn_dot hd
      have hzd : zdn (zqS σ s i) (k + 1) = zdn (zqS σ s i) k + 1 := by simp only [zdn, if_pos hd]
      have hzx : ∀ d, zdx (zqX σ s i) (zqS σ s i) (k + 1) d = if d = zdn (zqS σ s i) k then (zqX σ s i) (k : Int) else zdx (zqX σ s i) (zqS σ s i) k d := fun d => by simp only [zdx, if_pos hd]
      rw [← ec]
      refine ih (k + 1) _ (by omega) ((hf.up (c := 44) (by decide)).up (c := 9) (by decide)) (fun j j1 j2 => ?_) ?_ ?_ ?_ (fun d hd2 => ?_)
      · show (if j = 9 then (zdn (zqS σ s i) k : Int) + 1 else t 9 j) = _
        rw [if_neg j2]; exact i2 j j1 j2
      · show (if (5 : Int) = 9 then (zdn (zqS σ s i) k : Int) + 1 else t 9 5) = _
        rw [if_neg (by decide), hz.1]; exact i5
      · rw [hzd]; exact if_pos rfl
      · rw [hz.1, hz.2, hz.2]; exact i41
      · show (if (d : Int) = (zdn (zqS σ s i) k : Int) then _ else t 44 (d : Int)) = _
        rw [hzx]
        by_cases e : d = zdn (zqS σ s i) k
        · rw [if_pos (by omega), if_pos e]; rfl
        · rw [if_neg (by omega), if_neg e]; exact i44 d (by omega)
