set_option maxRecDepth 100000 in
set_option maxHeartbeats 4000000 in
theorem lp_mcheck {σ : zS} {s i g : Int} {n : Nat} (hs : 0 ≤ s ∧ s < 8) (hi : 0 ≤ i ∧ i + 2 * (n : Int) ≤ σ 38 s) (hsz : σ 38 s ≤ 80) (hn1 : 1 ≤ n) (hn40 : n ≤ 40) (hl : ¬ σ 37 s = 0) (hg : σ 9 12 = g) (hgr : 0 ≤ g ∧ g ≤ 100) : ∀ (m k : Nat), k + m = n → (∀ j : Int, 0 ≤ j → j < (k : Int) → zPO (zqX σ s i j) (zqS σ s i j)) → zRuns 114 zX0 (fun (v : Int) (u : zS) => ((¬ (0 ≤ s ∧ s < 8) ∨ (n : Int) < 1 ∨ 40 < (n : Int)) ∧ σ = u ∧ -1000001 = v) ∨ (((0 ≤ s ∧ s < 8) ∧ 1 ≤ (n : Int) ∧ (n : Int) ≤ 40 ∧ σ 37 s = 0) ∧ zup σ 9 4 1 = u ∧ -1000011 = v) ∨ (((0 ≤ s ∧ s < 8) ∧ 1 ≤ (n : Int) ∧ (n : Int) ≤ 40 ∧ ¬ σ 37 s = 0 ∧ ¬ (0 ≤ i ∧ i + 2 * (n : Int) ≤ σ 38 s)) ∧ zup σ 9 4 2 = u ∧ -1000012 = v) ∨ (((0 ≤ s ∧ s < 8) ∧ 1 ≤ (n : Int) ∧ (n : Int) ≤ 40 ∧ ¬ σ 37 s = 0 ∧ 0 ≤ i ∧ i + 2 * (n : Int) ≤ σ 38 s) ∧ ¬ zPOm σ s i (n : Int) ∧ σ = u ∧ -1000001 = v) ∨ (((0 ≤ s ∧ s < 8) ∧ 1 ≤ (n : Int) ∧ (n : Int) ≤ 40 ∧ ¬ σ 37 s = 0 ∧ 0 ≤ i ∧ i + 2 * (n : Int) ≤ σ 38 s) ∧ zPOm σ s i (n : Int) ∧ u 9 13 = v ∧ zfr [9, 41, 42, 43, 44, 45, 46, 55] σ u ∧ (∀ j : Int, ¬ j = 4 → ¬ j = 5 → ¬ j = 9 → ¬ j = 11 → ¬ j = 13 → u 9 j = σ 9 j) ∧ u 9 4 = 0 ∧ (∀ j : Int, 0 ≤ j → j < 40 → u 55 j = 0) ∧ zLM (zqX σ s i) (zqS σ s i) g (n : Int).toNat u)) 70 [some (.inr (.inr (9, 0))), some (.inl s), some (.inl i), some (.inl (n : Int)), some (.inl (k : Int)), none, none] [] σ := by
  intro m
  induction m with
  | zero =>
    intro k hk hj
    obtain rfl : n = k := by omega
    refine zwalk zmk_114 [(70, [true, true, true, true, true, false, false]), (154, [true, true, true, true, true, false, false])] 3 ?_
    show (((n : Int) ≤ (n : Int) → zRuns 114 zX0 (fun (v : Int) (u : zS) => ((¬ (0 ≤ s ∧ s < 8) ∨ (n : Int) < 1 ∨ 40 < (n : Int)) ∧ σ = u ∧ -1000001 = v) ∨ (((0 ≤ s ∧ s < 8) ∧ 1 ≤ (n : Int) ∧ (n : Int) ≤ 40 ∧ σ 37 s = 0) ∧ zup σ 9 4 1 = u ∧ -1000011 = v) ∨ (((0 ≤ s ∧ s < 8) ∧ 1 ≤ (n : Int) ∧ (n : Int) ≤ 40 ∧ ¬ σ 37 s = 0 ∧ ¬ (0 ≤ i ∧ i + 2 * (n : Int) ≤ σ 38 s)) ∧ zup σ 9 4 2 = u ∧ -1000012 = v) ∨ (((0 ≤ s ∧ s < 8) ∧ 1 ≤ (n : Int) ∧ (n : Int) ≤ 40 ∧ ¬ σ 37 s = 0 ∧ 0 ≤ i ∧ i + 2 * (n : Int) ≤ σ 38 s) ∧ ¬ zPOm σ s i (n : Int) ∧ σ = u ∧ -1000001 = v) ∨ (((0 ≤ s ∧ s < 8) ∧ 1 ≤ (n : Int) ∧ (n : Int) ≤ 40 ∧ ¬ σ 37 s = 0 ∧ 0 ≤ i ∧ i + 2 * (n : Int) ≤ σ 38 s) ∧ zPOm σ s i (n : Int) ∧ u 9 13 = v ∧ zfr [9, 41, 42, 43, 44, 45, 46, 55] σ u ∧ (∀ j : Int, ¬ j = 4 → ¬ j = 5 → ¬ j = 9 → ¬ j = 11 → ¬ j = 13 → u 9 j = σ 9 j) ∧ u 9 4 = 0 ∧ (∀ j : Int, 0 ≤ j → j < 40 → u 55 j = 0) ∧ zLM (zqX σ s i) (zqS σ s i) g (n : Int).toNat u)) 154 [some (.inr (.inr (9, 0))), some (.inl s), some (.inl i), some (.inl (n : Int)), some (.inl (0 : Int)), none, none] [] (zup (zup σ 9 (5 : Int) (0 : Int)) 9 (9 : Int) (0 : Int))) ∧ ((n : Int) < (n : Int) → (zI ((80 : Int) * s) ∧ (zI (((80 : Int) * s) + i) ∧ (zI ((2 : Int) * (n : Int)) ∧ (zI ((((80 : Int) * s) + i) + ((2 : Int) * (n : Int))) ∧ ((0 ≤ ((((80 : Int) * s) + i) + ((2 : Int) * (n : Int))) ∧ ((((80 : Int) * s) + i) + ((2 : Int) * (n : Int))) < (640 : Int)) ∧ (∃ Rc : Int → zS → Prop, zAM 103 [.inr (.inl (σ 39 ((((80 : Int) * s) + i) + ((2 : Int) * (n : Int))))), .inr (.inl (0 : Int)), .inr (.inl (2000 : Int))] σ Rc ∧ ∀ (v1 : Int) (u1 : zS), zI v1 → Rc v1 u1 → ((v1 = 0 → (((¬ (0 ≤ s ∧ s < 8) ∨ (n : Int) < 1 ∨ 40 < (n : Int)) ∧ σ = u1 ∧ -1000001 = (-1000001 : Int)) ∨ (((0 ≤ s ∧ s < 8) ∧ 1 ≤ (n : Int) ∧ (n : Int) ≤ 40 ∧ σ 37 s = 0) ∧ zup σ 9 4 1 = u1 ∧ -1000011 = (-1000001 : Int)) ∨ (((0 ≤ s ∧ s < 8) ∧ 1 ≤ (n : Int) ∧ (n : Int) ≤ 40 ∧ ¬ σ 37 s = 0 ∧ ¬ (0 ≤ i ∧ i + 2 * (n : Int) ≤ σ 38 s)) ∧ zup σ 9 4 2 = u1 ∧ -1000012 = (-1000001 : Int)) ∨ (((0 ≤ s ∧ s < 8) ∧ 1 ≤ (n : Int) ∧ (n : Int) ≤ 40 ∧ ¬ σ 37 s = 0 ∧ 0 ≤ i ∧ i + 2 * (n : Int) ≤ σ 38 s) ∧ ¬ zPOm σ s i (n : Int) ∧ σ = u1 ∧ -1000001 = (-1000001 : Int)) ∨ (((0 ≤ s ∧ s < 8) ∧ 1 ≤ (n : Int) ∧ (n : Int) ≤ 40 ∧ ¬ σ 37 s = 0 ∧ 0 ≤ i ∧ i + 2 * (n : Int) ≤ σ 38 s) ∧ zPOm σ s i (n : Int) ∧ u1 9 13 = (-1000001 : Int) ∧ zfr [9, 41, 42, 43, 44, 45, 46, 55] σ u1 ∧ (∀ j : Int, ¬ j = 4 → ¬ j = 5 → ¬ j = 9 → ¬ j = 11 → ¬ j = 13 → u1 9 j = σ 9 j) ∧ u1 9 4 = 0 ∧ (∀ j : Int, 0 ≤ j → j < 40 → u1 55 j = 0) ∧ zLM (zqX σ s i) (zqS σ s i) g (n : Int).toNat u1))) ∧ (¬ v1 = 0 → (zI ((80 : Int) * s) ∧ (zI (((80 : Int) * s) + i) ∧ (zI ((2 : Int) * (n : Int)) ∧ (zI ((((80 : Int) * s) + i) + ((2 : Int) * (n : Int))) ∧ (zI (((((80 : Int) * s) + i) + ((2 : Int) * (n : Int))) + (1 : Int)) ∧ ((0 ≤ (((((80 : Int) * s) + i) + ((2 : Int) * (n : Int))) + (1 : Int)) ∧ (((((80 : Int) * s) + i) + ((2 : Int) * (n : Int))) + (1 : Int)) < (640 : Int)) ∧ (∃ Rc : Int → zS → Prop, zAM 103 [.inr (.inl (u1 39 (((((80 : Int) * s) + i) + ((2 : Int) * (n : Int))) + (1 : Int)))), .inr (.inl (0 : Int)), .inr (.inl (12 : Int))] u1 Rc ∧ ∀ (v2 : Int) (u2 : zS), zI v2 → Rc v2 u2 → ((¬ v2 = 0 → (zI ((n : Int) + (1 : Int)) ∧ zRuns 114 zX0 (fun (v : Int) (u : zS) => ((¬ (0 ≤ s ∧ s < 8) ∨ (n : Int) < 1 ∨ 40 < (n : Int)) ∧ σ = u ∧ -1000001 = v) ∨ (((0 ≤ s ∧ s < 8) ∧ 1 ≤ (n : Int) ∧ (n : Int) ≤ 40 ∧ σ 37 s = 0) ∧ zup σ 9 4 1 = u ∧ -1000011 = v) ∨ (((0 ≤ s ∧ s < 8) ∧ 1 ≤ (n : Int) ∧ (n : Int) ≤ 40 ∧ ¬ σ 37 s = 0 ∧ ¬ (0 ≤ i ∧ i + 2 * (n : Int) ≤ σ 38 s)) ∧ zup σ 9 4 2 = u ∧ -1000012 = v) ∨ (((0 ≤ s ∧ s < 8) ∧ 1 ≤ (n : Int) ∧ (n : Int) ≤ 40 ∧ ¬ σ 37 s = 0 ∧ 0 ≤ i ∧ i + 2 * (n : Int) ≤ σ 38 s) ∧ ¬ zPOm σ s i (n : Int) ∧ σ = u ∧ -1000001 = v) ∨ (((0 ≤ s ∧ s < 8) ∧ 1 ≤ (n : Int) ∧ (n : Int) ≤ 40 ∧ ¬ σ 37 s = 0 ∧ 0 ≤ i ∧ i + 2 * (n : Int) ≤ σ 38 s) ∧ zPOm σ s i (n : Int) ∧ u 9 13 = v ∧ zfr [9, 41, 42, 43, 44, 45, 46, 55] σ u ∧ (∀ j : Int, ¬ j = 4 → ¬ j = 5 → ¬ j = 9 → ¬ j = 11 → ¬ j = 13 → u 9 j = σ 9 j) ∧ u 9 4 = 0 ∧ (∀ j : Int, 0 ≤ j → j < 40 → u 55 j = 0) ∧ zLM (zqX σ s i) (zqS σ s i) g (n : Int).toNat u)) 70 [some (.inr (.inr (9, 0))), some (.inl s), some (.inl i), some (.inl (n : Int)), some (.inl ((n : Int) + (1 : Int))), none, none] [] u2)) ∧ (v2 = 0 → (((¬ (0 ≤ s ∧ s < 8) ∨ (n : Int) < 1 ∨ 40 < (n : Int)) ∧ σ = u2 ∧ -1000001 = (-1000001 : Int)) ∨ (((0 ≤ s ∧ s < 8) ∧ 1 ≤ (n : Int) ∧ (n : Int) ≤ 40 ∧ σ 37 s = 0) ∧ zup σ 9 4 1 = u2 ∧ -1000011 = (-1000001 : Int)) ∨ (((0 ≤ s ∧ s < 8) ∧ 1 ≤ (n : Int) ∧ (n : Int) ≤ 40 ∧ ¬ σ 37 s = 0 ∧ ¬ (0 ≤ i ∧ i + 2 * (n : Int) ≤ σ 38 s)) ∧ zup σ 9 4 2 = u2 ∧ -1000012 = (-1000001 : Int)) ∨ (((0 ≤ s ∧ s < 8) ∧ 1 ≤ (n : Int) ∧ (n : Int) ≤ 40 ∧ ¬ σ 37 s = 0 ∧ 0 ≤ i ∧ i + 2 * (n : Int) ≤ σ 38 s) ∧ ¬ zPOm σ s i (n : Int) ∧ σ = u2 ∧ -1000001 = (-1000001 : Int)) ∨ (((0 ≤ s ∧ s < 8) ∧ 1 ≤ (n : Int) ∧ (n : Int) ≤ 40 ∧ ¬ σ 37 s = 0 ∧ 0 ≤ i ∧ i + 2 * (n : Int) ≤ σ 38 s) ∧ zPOm σ s i (n : Int) ∧ u2 9 13 = (-1000001 : Int) ∧ zfr [9, 41, 42, 43, 44, 45, 46, 55] σ u2 ∧ (∀ j : Int, ¬ j = 4 → ¬ j = 5 → ¬ j = 9 → ¬ j = 11 → ¬ j = 13 → u2 9 j = σ 9 j) ∧ u2 9 4 = 0 ∧ (∀ j : Int, 0 ≤ j → j < 40 → u2 55 j = 0) ∧ zLM (zqX σ s i) (zqS σ s i) g (n : Int).toNat u2)))))))))))))))))))))
    refine ⟨fun _ => ?_, fun q => absurd q (by omega)⟩
    refine lp_mgather hs hi hsz hn1 hn40 hl hg hgr hj n 0 _ (by omega) ((zfr.rf.up (c := 9) (by decide)).up (c := 9) (by decide)) (fun j j1 j2 => ?_) ?_ ?_ (fun j j0 j1 => absurd j1 (by show ¬ j < 0; omega)) (fun d hd => absurd hd (by show ¬ d < 0; omega))
    · rw [zup_at, if_neg j2, zup_at, if_neg j1]
    · rw [zup_at, if_neg (by decide), zup_at]; exact if_pos rfl
    · rw [zup_at]; exact if_pos rfl
  | succ m ih =>
    intro k hk hj
    have ec : ((k + 1 : Nat) : Int) = (k : Int) + 1 := by omega
    refine zwalk zmk_114 [(70, [true, true, true, true, true, false, false]), (154, [true, true, true, true, true, false, false])] 3 ?_
    show (((n : Int) ≤ (k : Int) → zRuns 114 zX0 (fun (v : Int) (u : zS) => ((¬ (0 ≤ s ∧ s < 8) ∨ (n : Int) < 1 ∨ 40 < (n : Int)) ∧ σ = u ∧ -1000001 = v) ∨ (((0 ≤ s ∧ s < 8) ∧ 1 ≤ (n : Int) ∧ (n : Int) ≤ 40 ∧ σ 37 s = 0) ∧ zup σ 9 4 1 = u ∧ -1000011 = v) ∨ (((0 ≤ s ∧ s < 8) ∧ 1 ≤ (n : Int) ∧ (n : Int) ≤ 40 ∧ ¬ σ 37 s = 0 ∧ ¬ (0 ≤ i ∧ i + 2 * (n : Int) ≤ σ 38 s)) ∧ zup σ 9 4 2 = u ∧ -1000012 = v) ∨ (((0 ≤ s ∧ s < 8) ∧ 1 ≤ (n : Int) ∧ (n : Int) ≤ 40 ∧ ¬ σ 37 s = 0 ∧ 0 ≤ i ∧ i + 2 * (n : Int) ≤ σ 38 s) ∧ ¬ zPOm σ s i (n : Int) ∧ σ = u ∧ -1000001 = v) ∨ (((0 ≤ s ∧ s < 8) ∧ 1 ≤ (n : Int) ∧ (n : Int) ≤ 40 ∧ ¬ σ 37 s = 0 ∧ 0 ≤ i ∧ i + 2 * (n : Int) ≤ σ 38 s) ∧ zPOm σ s i (n : Int) ∧ u 9 13 = v ∧ zfr [9, 41, 42, 43, 44, 45, 46, 55] σ u ∧ (∀ j : Int, ¬ j = 4 → ¬ j = 5 → ¬ j = 9 → ¬ j = 11 → ¬ j = 13 → u 9 j = σ 9 j) ∧ u 9 4 = 0 ∧ (∀ j : Int, 0 ≤ j → j < 40 → u 55 j = 0) ∧ zLM (zqX σ s i) (zqS σ s i) g (n : Int).toNat u)) 154 [some (.inr (.inr (9, 0))), some (.inl s), some (.inl i), some (.inl (n : Int)), some (.inl (0 : Int)), none, none] [] (zup (zup σ 9 (5 : Int) (0 : Int)) 9 (9 : Int) (0 : Int))) ∧ ((k : Int) < (n : Int) → (zI ((80 : Int) * s) ∧ (zI (((80 : Int) * s) + i) ∧ (zI ((2 : Int) * (k : Int)) ∧ (zI ((((80 : Int) * s) + i) + ((2 : Int) * (k : Int))) ∧ ((0 ≤ ((((80 : Int) * s) + i) + ((2 : Int) * (k : Int))) ∧ ((((80 : Int) * s) + i) + ((2 : Int) * (k : Int))) < (640 : Int)) ∧ (∃ Rc : Int → zS → Prop, zAM 103 [.inr (.inl (σ 39 ((((80 : Int) * s) + i) + ((2 : Int) * (k : Int))))), .inr (.inl (0 : Int)), .inr (.inl (2000 : Int))] σ Rc ∧ ∀ (v1 : Int) (u1 : zS), zI v1 → Rc v1 u1 → ((v1 = 0 → (((¬ (0 ≤ s ∧ s < 8) ∨ (n : Int) < 1 ∨ 40 < (n : Int)) ∧ σ = u1 ∧ -1000001 = (-1000001 : Int)) ∨ (((0 ≤ s ∧ s < 8) ∧ 1 ≤ (n : Int) ∧ (n : Int) ≤ 40 ∧ σ 37 s = 0) ∧ zup σ 9 4 1 = u1 ∧ -1000011 = (-1000001 : Int)) ∨ (((0 ≤ s ∧ s < 8) ∧ 1 ≤ (n : Int) ∧ (n : Int) ≤ 40 ∧ ¬ σ 37 s = 0 ∧ ¬ (0 ≤ i ∧ i + 2 * (n : Int) ≤ σ 38 s)) ∧ zup σ 9 4 2 = u1 ∧ -1000012 = (-1000001 : Int)) ∨ (((0 ≤ s ∧ s < 8) ∧ 1 ≤ (n : Int) ∧ (n : Int) ≤ 40 ∧ ¬ σ 37 s = 0 ∧ 0 ≤ i ∧ i + 2 * (n : Int) ≤ σ 38 s) ∧ ¬ zPOm σ s i (n : Int) ∧ σ = u1 ∧ -1000001 = (-1000001 : Int)) ∨ (((0 ≤ s ∧ s < 8) ∧ 1 ≤ (n : Int) ∧ (n : Int) ≤ 40 ∧ ¬ σ 37 s = 0 ∧ 0 ≤ i ∧ i + 2 * (n : Int) ≤ σ 38 s) ∧ zPOm σ s i (n : Int) ∧ u1 9 13 = (-1000001 : Int) ∧ zfr [9, 41, 42, 43, 44, 45, 46, 55] σ u1 ∧ (∀ j : Int, ¬ j = 4 → ¬ j = 5 → ¬ j = 9 → ¬ j = 11 → ¬ j = 13 → u1 9 j = σ 9 j) ∧ u1 9 4 = 0 ∧ (∀ j : Int, 0 ≤ j → j < 40 → u1 55 j = 0) ∧ zLM (zqX σ s i) (zqS σ s i) g (n : Int).toNat u1))) ∧ (¬ v1 = 0 → (zI ((80 : Int) * s) ∧ (zI (((80 : Int) * s) + i) ∧ (zI ((2 : Int) * (k : Int)) ∧ (zI ((((80 : Int) * s) + i) + ((2 : Int) * (k : Int))) ∧ (zI (((((80 : Int) * s) + i) + ((2 : Int) * (k : Int))) + (1 : Int)) ∧ ((0 ≤ (((((80 : Int) * s) + i) + ((2 : Int) * (k : Int))) + (1 : Int)) ∧ (((((80 : Int) * s) + i) + ((2 : Int) * (k : Int))) + (1 : Int)) < (640 : Int)) ∧ (∃ Rc : Int → zS → Prop, zAM 103 [.inr (.inl (u1 39 (((((80 : Int) * s) + i) + ((2 : Int) * (k : Int))) + (1 : Int)))), .inr (.inl (0 : Int)), .inr (.inl (12 : Int))] u1 Rc ∧ ∀ (v2 : Int) (u2 : zS), zI v2 → Rc v2 u2 → ((¬ v2 = 0 → (zI ((k : Int) + (1 : Int)) ∧ zRuns 114 zX0 (fun (v : Int) (u : zS) => ((¬ (0 ≤ s ∧ s < 8) ∨ (n : Int) < 1 ∨ 40 < (n : Int)) ∧ σ = u ∧ -1000001 = v) ∨ (((0 ≤ s ∧ s < 8) ∧ 1 ≤ (n : Int) ∧ (n : Int) ≤ 40 ∧ σ 37 s = 0) ∧ zup σ 9 4 1 = u ∧ -1000011 = v) ∨ (((0 ≤ s ∧ s < 8) ∧ 1 ≤ (n : Int) ∧ (n : Int) ≤ 40 ∧ ¬ σ 37 s = 0 ∧ ¬ (0 ≤ i ∧ i + 2 * (n : Int) ≤ σ 38 s)) ∧ zup σ 9 4 2 = u ∧ -1000012 = v) ∨ (((0 ≤ s ∧ s < 8) ∧ 1 ≤ (n : Int) ∧ (n : Int) ≤ 40 ∧ ¬ σ 37 s = 0 ∧ 0 ≤ i ∧ i + 2 * (n : Int) ≤ σ 38 s) ∧ ¬ zPOm σ s i (n : Int) ∧ σ = u ∧ -1000001 = v) ∨ (((0 ≤ s ∧ s < 8) ∧ 1 ≤ (n : Int) ∧ (n : Int) ≤ 40 ∧ ¬ σ 37 s = 0 ∧ 0 ≤ i ∧ i + 2 * (n : Int) ≤ σ 38 s) ∧ zPOm σ s i (n : Int) ∧ u 9 13 = v ∧ zfr [9, 41, 42, 43, 44, 45, 46, 55] σ u ∧ (∀ j : Int, ¬ j = 4 → ¬ j = 5 → ¬ j = 9 → ¬ j = 11 → ¬ j = 13 → u 9 j = σ 9 j) ∧ u 9 4 = 0 ∧ (∀ j : Int, 0 ≤ j → j < 40 → u 55 j = 0) ∧ zLM (zqX σ s i) (zqS σ s i) g (n : Int).toNat u)) 70 [some (.inr (.inr (9, 0))), some (.inl s), some (.inl i), some (.inl (n : Int)), some (.inl ((k : Int) + (1 : Int))), none, none] [] u2)) ∧ (v2 = 0 → (((¬ (0 ≤ s ∧ s < 8) ∨ (n : Int) < 1 ∨ 40 < (n : Int)) ∧ σ = u2 ∧ -1000001 = (-1000001 : Int)) ∨ (((0 ≤ s ∧ s < 8) ∧ 1 ≤ (n : Int) ∧ (n : Int) ≤ 40 ∧ σ 37 s = 0) ∧ zup σ 9 4 1 = u2 ∧ -1000011 = (-1000001 : Int)) ∨ (((0 ≤ s ∧ s < 8) ∧ 1 ≤ (n : Int) ∧ (n : Int) ≤ 40 ∧ ¬ σ 37 s = 0 ∧ ¬ (0 ≤ i ∧ i + 2 * (n : Int) ≤ σ 38 s)) ∧ zup σ 9 4 2 = u2 ∧ -1000012 = (-1000001 : Int)) ∨ (((0 ≤ s ∧ s < 8) ∧ 1 ≤ (n : Int) ∧ (n : Int) ≤ 40 ∧ ¬ σ 37 s = 0 ∧ 0 ≤ i ∧ i + 2 * (n : Int) ≤ σ 38 s) ∧ ¬ zPOm σ s i (n : Int) ∧ σ = u2 ∧ -1000001 = (-1000001 : Int)) ∨ (((0 ≤ s ∧ s < 8) ∧ 1 ≤ (n : Int) ∧ (n : Int) ≤ 40 ∧ ¬ σ 37 s = 0 ∧ 0 ≤ i ∧ i + 2 * (n : Int) ≤ σ 38 s) ∧ zPOm σ s i (n : Int) ∧ u2 9 13 = (-1000001 : Int) ∧ zfr [9, 41, 42, 43, 44, 45, 46, 55] σ u2 ∧ (∀ j : Int, ¬ j = 4 → ¬ j = 5 → ¬ j = 9 → ¬ j = 11 → ¬ j = 13 → u2 9 j = σ 9 j) ∧ u2 9 4 = 0 ∧ (∀ j : Int, 0 ≤ j → j < 40 → u2 55 j = 0) ∧ zLM (zqX σ s i) (zqS σ s i) g (n : Int).toNat u2)))))))))))))))))))))
    refine ⟨fun q => absurd q (by omega), fun _ => ?_⟩
    refine ⟨by (first | exact ⟨by omega, by omega⟩ | (exfalso; omega)), ?_⟩
    refine ⟨by (first | exact ⟨by omega, by omega⟩ | (exfalso; omega)), ?_⟩
    refine ⟨by (first | exact ⟨by omega, by omega⟩ | (exfalso; omega)), ?_⟩
    refine ⟨by (first | exact ⟨by omega, by omega⟩ | (exfalso; omega)), ?_⟩
    refine ⟨by (first | exact ⟨by omega, by omega⟩ | (exfalso; omega)), ?_⟩
    refine ⟨_, am_X9_in, ?_⟩
    intro v1 u1 hv1
    rintro ⟨rfl, (⟨rfl, cv1⟩ | ⟨rfl, cv1⟩)⟩
    · refine ⟨?_, ?_⟩
      · exact fun h => absurd h (by decide)
      · intro _
        refine ⟨by (first | exact ⟨by omega, by omega⟩ | (exfalso; omega)), ?_⟩
        refine ⟨by (first | exact ⟨by omega, by omega⟩ | (exfalso; omega)), ?_⟩
        refine ⟨by (first | exact ⟨by omega, by omega⟩ | (exfalso; omega)), ?_⟩
        refine ⟨by (first | exact ⟨by omega, by omega⟩ | (exfalso; omega)), ?_⟩
        refine ⟨by (first | exact ⟨by omega, by omega⟩ | (exfalso; omega)), ?_⟩
        refine ⟨by (first | exact ⟨by omega, by omega⟩ | (exfalso; omega)), ?_⟩
        refine ⟨_, am_X9_in, ?_⟩
        intro v2 u2 hv2
        rintro ⟨rfl, (⟨rfl, cv2⟩ | ⟨rfl, cv2⟩)⟩
        · refine ⟨?_, ?_⟩
          · intro _
            refine ⟨by (first | exact ⟨by omega, by omega⟩ | (exfalso; omega)), ?_⟩
            rw [← ec]
            refine ih (k + 1) (by omega) (fun j j0 j1 => ?_)
            by_cases e : j = (k : Int)
            · rw [e]; exact ⟨cv1.1, cv1.2, cv2.1, cv2.2⟩
            · exact hj j j0 (by omega)
          · exact fun h => absurd h (by decide)
        · refine ⟨?_, ?_⟩
          · exact fun h => absurd h (by decide)
          · intro _
            refine Or.inr (Or.inr (Or.inr (Or.inl ⟨⟨hs, by omega, by omega, hl, hi.1, hi.2⟩, fun q => ?_, rfl, rfl⟩)))
            have q9 := q (k : Int) (by omega) (by omega)
            exact cv2 ⟨q9.2.2.1, q9.2.2.2⟩
    · refine ⟨?_, ?_⟩
      · intro _
        refine Or.inr (Or.inr (Or.inr (Or.inl ⟨⟨hs, by omega, by omega, hl, hi.1, hi.2⟩, fun q => ?_, rfl, rfl⟩)))
        have q9 := q (k : Int) (by omega) (by omega)
        exact cv1 ⟨q9.1, q9.2.1⟩
      · exact fun h => absurd h (by decide)
set_option maxRecDepth 100000 in
set_option maxHeartbeats 4000000 in
theorem am_X9_line {σ : zS} {s : Int} {i : Int} {c : Int} {g : Int} (hms : zMS σ) (hg : σ 9 12 = g) (hgr : 0 ≤ g ∧ g ≤ 100) : zAM 114 [.inr (.inr (9, 0)), .inl s, .inl i, .inl c] σ (fun (v : Int) (u : zS) => ((¬ (0 ≤ s ∧ s < 8) ∨ c < 1 ∨ 40 < c) ∧ σ = u ∧ -1000001 = v) ∨ (((0 ≤ s ∧ s < 8) ∧ 1 ≤ c ∧ c ≤ 40 ∧ σ 37 s = 0) ∧ zup σ 9 4 1 = u ∧ -1000011 = v) ∨ (((0 ≤ s ∧ s < 8) ∧ 1 ≤ c ∧ c ≤ 40 ∧ ¬ σ 37 s = 0 ∧ ¬ (0 ≤ i ∧ i + 2 * c ≤ σ 38 s)) ∧ zup σ 9 4 2 = u ∧ -1000012 = v) ∨ (((0 ≤ s ∧ s < 8) ∧ 1 ≤ c ∧ c ≤ 40 ∧ ¬ σ 37 s = 0 ∧ 0 ≤ i ∧ i + 2 * c ≤ σ 38 s) ∧ ¬ zPOm σ s i c ∧ σ = u ∧ -1000001 = v) ∨ (((0 ≤ s ∧ s < 8) ∧ 1 ≤ c ∧ c ≤ 40 ∧ ¬ σ 37 s = 0 ∧ 0 ≤ i ∧ i + 2 * c ≤ σ 38 s) ∧ zPOm σ s i c ∧ u 9 13 = v ∧ zfr [9, 41, 42, 43, 44, 45, 46, 55] σ u ∧ (∀ j : Int, ¬ j = 4 → ¬ j = 5 → ¬ j = 9 → ¬ j = 11 → ¬ j = 13 → u 9 j = σ 9 j) ∧ u 9 4 = 0 ∧ (∀ j : Int, 0 ≤ j → j < 40 → u 55 j = 0) ∧ zLM (zqX σ s i) (zqS σ s i) g c.toNat u)) := by
  refine zam (by decide) (Nat.le_of_ble_eq_true rfl) ?_
  refine zRuns.wf (fun hw hL => ?_)
  refine zwalk zmk_114 [(70, [true, true, true, true, true, false, false])] 5 ?_
  show (∃ Rc : Int → zS → Prop, zAM 106 [.inl s] σ Rc ∧ ∀ (v1 : Int) (u1 : zS), zI v1 → Rc v1 u1 → ((v1 = 0 → (((¬ (0 ≤ s ∧ s < 8) ∨ c < 1 ∨ 40 < c) ∧ σ = u1 ∧ -1000001 = (-1000001 : Int)) ∨ (((0 ≤ s ∧ s < 8) ∧ 1 ≤ c ∧ c ≤ 40 ∧ σ 37 s = 0) ∧ zup σ 9 4 1 = u1 ∧ -1000011 = (-1000001 : Int)) ∨ (((0 ≤ s ∧ s < 8) ∧ 1 ≤ c ∧ c ≤ 40 ∧ ¬ σ 37 s = 0 ∧ ¬ (0 ≤ i ∧ i + 2 * c ≤ σ 38 s)) ∧ zup σ 9 4 2 = u1 ∧ -1000012 = (-1000001 : Int)) ∨ (((0 ≤ s ∧ s < 8) ∧ 1 ≤ c ∧ c ≤ 40 ∧ ¬ σ 37 s = 0 ∧ 0 ≤ i ∧ i + 2 * c ≤ σ 38 s) ∧ ¬ zPOm σ s i c ∧ σ = u1 ∧ -1000001 = (-1000001 : Int)) ∨ (((0 ≤ s ∧ s < 8) ∧ 1 ≤ c ∧ c ≤ 40 ∧ ¬ σ 37 s = 0 ∧ 0 ≤ i ∧ i + 2 * c ≤ σ 38 s) ∧ zPOm σ s i c ∧ u1 9 13 = (-1000001 : Int) ∧ zfr [9, 41, 42, 43, 44, 45, 46, 55] σ u1 ∧ (∀ j : Int, ¬ j = 4 → ¬ j = 5 → ¬ j = 9 → ¬ j = 11 → ¬ j = 13 → u1 9 j = σ 9 j) ∧ u1 9 4 = 0 ∧ (∀ j : Int, 0 ≤ j → j < 40 → u1 55 j = 0) ∧ zLM (zqX σ s i) (zqS σ s i) g c.toNat u1))) ∧ (¬ v1 = 0 → (∃ Rc : Int → zS → Prop, zAM 103 [.inr (.inl c), .inr (.inl (1 : Int)), .inr (.inl (40 : Int))] u1 Rc ∧ ∀ (v2 : Int) (u2 : zS), zI v2 → Rc v2 u2 → ((¬ v2 = 0 → ((0 ≤ s ∧ s < (8 : Int)) ∧ ((¬ (u2 37 s) = 0 → ((i < 0 → (∃ Rc : Int → zS → Prop, zAM 104 [.inr (.inr (9, 0)), .inl (2 : Int)] u2 Rc ∧ ∀ (v3 : Int) (u3 : zS), zI v3 → Rc v3 u3 → (((¬ (0 ≤ s ∧ s < 8) ∨ c < 1 ∨ 40 < c) ∧ σ = u3 ∧ -1000001 = v3) ∨ (((0 ≤ s ∧ s < 8) ∧ 1 ≤ c ∧ c ≤ 40 ∧ σ 37 s = 0) ∧ zup σ 9 4 1 = u3 ∧ -1000011 = v3) ∨ (((0 ≤ s ∧ s < 8) ∧ 1 ≤ c ∧ c ≤ 40 ∧ ¬ σ 37 s = 0 ∧ ¬ (0 ≤ i ∧ i + 2 * c ≤ σ 38 s)) ∧ zup σ 9 4 2 = u3 ∧ -1000012 = v3) ∨ (((0 ≤ s ∧ s < 8) ∧ 1 ≤ c ∧ c ≤ 40 ∧ ¬ σ 37 s = 0 ∧ 0 ≤ i ∧ i + 2 * c ≤ σ 38 s) ∧ ¬ zPOm σ s i c ∧ σ = u3 ∧ -1000001 = v3) ∨ (((0 ≤ s ∧ s < 8) ∧ 1 ≤ c ∧ c ≤ 40 ∧ ¬ σ 37 s = 0 ∧ 0 ≤ i ∧ i + 2 * c ≤ σ 38 s) ∧ zPOm σ s i c ∧ u3 9 13 = v3 ∧ zfr [9, 41, 42, 43, 44, 45, 46, 55] σ u3 ∧ (∀ j : Int, ¬ j = 4 → ¬ j = 5 → ¬ j = 9 → ¬ j = 11 → ¬ j = 13 → u3 9 j = σ 9 j) ∧ u3 9 4 = 0 ∧ (∀ j : Int, 0 ≤ j → j < 40 → u3 55 j = 0) ∧ zLM (zqX σ s i) (zqS σ s i) g c.toNat u3)))) ∧ (0 ≤ i → (zJ ((2 : Int) * c) ∧ (zJ (i + ((2 : Int) * c)) ∧ ((0 ≤ s ∧ s < (8 : Int)) ∧ (((zcmp (i + ((2 : Int) * c)) (u2 38 s)) ≤ 0 → zRuns 114 zX0 (fun (v : Int) (u : zS) => ((¬ (0 ≤ s ∧ s < 8) ∨ c < 1 ∨ 40 < c) ∧ σ = u ∧ -1000001 = v) ∨ (((0 ≤ s ∧ s < 8) ∧ 1 ≤ c ∧ c ≤ 40 ∧ σ 37 s = 0) ∧ zup σ 9 4 1 = u ∧ -1000011 = v) ∨ (((0 ≤ s ∧ s < 8) ∧ 1 ≤ c ∧ c ≤ 40 ∧ ¬ σ 37 s = 0 ∧ ¬ (0 ≤ i ∧ i + 2 * c ≤ σ 38 s)) ∧ zup σ 9 4 2 = u ∧ -1000012 = v) ∨ (((0 ≤ s ∧ s < 8) ∧ 1 ≤ c ∧ c ≤ 40 ∧ ¬ σ 37 s = 0 ∧ 0 ≤ i ∧ i + 2 * c ≤ σ 38 s) ∧ ¬ zPOm σ s i c ∧ σ = u ∧ -1000001 = v) ∨ (((0 ≤ s ∧ s < 8) ∧ 1 ≤ c ∧ c ≤ 40 ∧ ¬ σ 37 s = 0 ∧ 0 ≤ i ∧ i + 2 * c ≤ σ 38 s) ∧ zPOm σ s i c ∧ u 9 13 = v ∧ zfr [9, 41, 42, 43, 44, 45, 46, 55] σ u ∧ (∀ j : Int, ¬ j = 4 → ¬ j = 5 → ¬ j = 9 → ¬ j = 11 → ¬ j = 13 → u 9 j = σ 9 j) ∧ u 9 4 = 0 ∧ (∀ j : Int, 0 ≤ j → j < 40 → u 55 j = 0) ∧ zLM (zqX σ s i) (zqS σ s i) g c.toNat u)) 70 [some (.inr (.inr (9, 0))), some (.inl s), some (.inl i), some (.inl c), some (.inl (0 : Int)), none, none] [] u2) ∧ (0 < (zcmp (i + ((2 : Int) * c)) (u2 38 s)) → (∃ Rc : Int → zS → Prop, zAM 104 [.inr (.inr (9, 0)), .inl (2 : Int)] u2 Rc ∧ ∀ (v4 : Int) (u4 : zS), zI v4 → Rc v4 u4 → (((¬ (0 ≤ s ∧ s < 8) ∨ c < 1 ∨ 40 < c) ∧ σ = u4 ∧ -1000001 = v4) ∨ (((0 ≤ s ∧ s < 8) ∧ 1 ≤ c ∧ c ≤ 40 ∧ σ 37 s = 0) ∧ zup σ 9 4 1 = u4 ∧ -1000011 = v4) ∨ (((0 ≤ s ∧ s < 8) ∧ 1 ≤ c ∧ c ≤ 40 ∧ ¬ σ 37 s = 0 ∧ ¬ (0 ≤ i ∧ i + 2 * c ≤ σ 38 s)) ∧ zup σ 9 4 2 = u4 ∧ -1000012 = v4) ∨ (((0 ≤ s ∧ s < 8) ∧ 1 ≤ c ∧ c ≤ 40 ∧ ¬ σ 37 s = 0 ∧ 0 ≤ i ∧ i + 2 * c ≤ σ 38 s) ∧ ¬ zPOm σ s i c ∧ σ = u4 ∧ -1000001 = v4) ∨ (((0 ≤ s ∧ s < 8) ∧ 1 ≤ c ∧ c ≤ 40 ∧ ¬ σ 37 s = 0 ∧ 0 ≤ i ∧ i + 2 * c ≤ σ 38 s) ∧ zPOm σ s i c ∧ u4 9 13 = v4 ∧ zfr [9, 41, 42, 43, 44, 45, 46, 55] σ u4 ∧ (∀ j : Int, ¬ j = 4 → ¬ j = 5 → ¬ j = 9 → ¬ j = 11 → ¬ j = 13 → u4 9 j = σ 9 j) ∧ u4 9 4 = 0 ∧ (∀ j : Int, 0 ≤ j → j < 40 → u4 55 j = 0) ∧ zLM (zqX σ s i) (zqS σ s i) g c.toNat u4))))))))))) ∧ ((u2 37 s) = 0 → (∃ Rc : Int → zS → Prop, zAM 104 [.inr (.inr (9, 0)), .inl (1 : Int)] u2 Rc ∧ ∀ (v5 : Int) (u5 : zS), zI v5 → Rc v5 u5 → (((¬ (0 ≤ s ∧ s < 8) ∨ c < 1 ∨ 40 < c) ∧ σ = u5 ∧ -1000001 = v5) ∨ (((0 ≤ s ∧ s < 8) ∧ 1 ≤ c ∧ c ≤ 40 ∧ σ 37 s = 0) ∧ zup σ 9 4 1 = u5 ∧ -1000011 = v5) ∨ (((0 ≤ s ∧ s < 8) ∧ 1 ≤ c ∧ c ≤ 40 ∧ ¬ σ 37 s = 0 ∧ ¬ (0 ≤ i ∧ i + 2 * c ≤ σ 38 s)) ∧ zup σ 9 4 2 = u5 ∧ -1000012 = v5) ∨ (((0 ≤ s ∧ s < 8) ∧ 1 ≤ c ∧ c ≤ 40 ∧ ¬ σ 37 s = 0 ∧ 0 ≤ i ∧ i + 2 * c ≤ σ 38 s) ∧ ¬ zPOm σ s i c ∧ σ = u5 ∧ -1000001 = v5) ∨ (((0 ≤ s ∧ s < 8) ∧ 1 ≤ c ∧ c ≤ 40 ∧ ¬ σ 37 s = 0 ∧ 0 ≤ i ∧ i + 2 * c ≤ σ 38 s) ∧ zPOm σ s i c ∧ u5 9 13 = v5 ∧ zfr [9, 41, 42, 43, 44, 45, 46, 55] σ u5 ∧ (∀ j : Int, ¬ j = 4 → ¬ j = 5 → ¬ j = 9 → ¬ j = 11 → ¬ j = 13 → u5 9 j = σ 9 j) ∧ u5 9 4 = 0 ∧ (∀ j : Int, 0 ≤ j → j < 40 → u5 55 j = 0) ∧ zLM (zqX σ s i) (zqS σ s i) g c.toNat u5))))))) ∧ (v2 = 0 → (((¬ (0 ≤ s ∧ s < 8) ∨ c < 1 ∨ 40 < c) ∧ σ = u2 ∧ -1000001 = (-1000001 : Int)) ∨ (((0 ≤ s ∧ s < 8) ∧ 1 ≤ c ∧ c ≤ 40 ∧ σ 37 s = 0) ∧ zup σ 9 4 1 = u2 ∧ -1000011 = (-1000001 : Int)) ∨ (((0 ≤ s ∧ s < 8) ∧ 1 ≤ c ∧ c ≤ 40 ∧ ¬ σ 37 s = 0 ∧ ¬ (0 ≤ i ∧ i + 2 * c ≤ σ 38 s)) ∧ zup σ 9 4 2 = u2 ∧ -1000012 = (-1000001 : Int)) ∨ (((0 ≤ s ∧ s < 8) ∧ 1 ≤ c ∧ c ≤ 40 ∧ ¬ σ 37 s = 0 ∧ 0 ≤ i ∧ i + 2 * c ≤ σ 38 s) ∧ ¬ zPOm σ s i c ∧ σ = u2 ∧ -1000001 = (-1000001 : Int)) ∨ (((0 ≤ s ∧ s < 8) ∧ 1 ≤ c ∧ c ≤ 40 ∧ ¬ σ 37 s = 0 ∧ 0 ≤ i ∧ i + 2 * c ≤ σ 38 s) ∧ zPOm σ s i c ∧ u2 9 13 = (-1000001 : Int) ∧ zfr [9, 41, 42, 43, 44, 45, 46, 55] σ u2 ∧ (∀ j : Int, ¬ j = 4 → ¬ j = 5 → ¬ j = 9 → ¬ j = 11 → ¬ j = 13 → u2 9 j = σ 9 j) ∧ u2 9 4 = 0 ∧ (∀ j : Int, 0 ≤ j → j < 40 → u2 55 j = 0) ∧ zLM (zqX σ s i) (zqS σ s i) g c.toNat u2))))))))
  have c0 := hms s
  have hi9 : zI i := hL 2 (.inl i) rfl
  obtain ⟨hi8, hi7⟩ := hi9
  refine ⟨_, am_X9_isSheet, ?_⟩
  intro v1 u1 hv1
  rintro ⟨rfl, (⟨rfl, cv1⟩ | ⟨rfl, cv1⟩)⟩
  · refine ⟨?_, ?_⟩
    · exact fun h => absurd h (by decide)
    · intro _
      refine ⟨_, am_X9_in, ?_⟩
      intro v2 u2 hv2
      rintro ⟨rfl, (⟨rfl, cv2⟩ | ⟨rfl, cv2⟩)⟩
      · refine ⟨?_, ?_⟩
        · intro _
          refine ⟨by (first | exact ⟨by omega, by omega⟩ | (exfalso; omega)), ?_⟩
          refine ⟨?_, ?_⟩
          · intro h3
            refine ⟨?_, ?_⟩
            · intro h4
              refine ⟨_, am_X9_finds (by omega), ?_⟩
              intro v3 u3 hv3
              rintro ⟨rfl, rfl⟩
              obtain ⟨hv3a, hv3b⟩ := hv3
              first | exact Or.inl ⟨by omega, rfl, rfl⟩ | exact Or.inr (Or.inl ⟨by omega, rfl, rfl⟩) | exact Or.inr (Or.inr (Or.inl ⟨by omega, rfl, rfl⟩))
            · intro h5
              refine ⟨by (exact ⟨by omega, by omega⟩), ?_⟩
              refine ⟨by (exact ⟨by omega, by omega⟩), ?_⟩
              refine ⟨by (first | exact ⟨by omega, by omega⟩ | (exfalso; omega)), ?_⟩
              refine ⟨?_, ?_⟩
              · intro h6
                simp only [zc_lt, zc_ge, zc_gt, zc_le, zc_eq] at h6
                obtain ⟨n, rfl⟩ : ∃ n : Nat, c = (n : Int) := ⟨c.toNat, by omega⟩
                exact lp_mcheck (by omega) (by omega) (by omega) (by omega) (by omega) (by assumption) hg hgr n 0 (by omega) (fun j _ _ => by omega)
              · intro h7
                simp only [zc_lt, zc_ge, zc_gt, zc_le, zc_eq] at h7
                refine ⟨_, am_X9_finds (by omega), ?_⟩
                intro v4 u4 hv4
                rintro ⟨rfl, rfl⟩
                obtain ⟨hv4a, hv4b⟩ := hv4
                first | exact Or.inl ⟨by omega, rfl, rfl⟩ | exact Or.inr (Or.inl ⟨by omega, rfl, rfl⟩) | exact Or.inr (Or.inr (Or.inl ⟨by omega, rfl, rfl⟩))
          · intro h8
            refine ⟨_, am_X9_finds (by omega), ?_⟩
            intro v5 u5 hv5
            rintro ⟨rfl, rfl⟩
            obtain ⟨hv5a, hv5b⟩ := hv5
            first | exact Or.inl ⟨by omega, rfl, rfl⟩ | exact Or.inr (Or.inl ⟨by omega, rfl, rfl⟩) | exact Or.inr (Or.inr (Or.inl ⟨by omega, rfl, rfl⟩))
        · exact fun h => absurd h (by decide)
      · refine ⟨?_, ?_⟩
        · exact fun h => absurd h (by decide)
        · intro _
          first | exact Or.inl ⟨by omega, rfl, rfl⟩ | exact Or.inr (Or.inl ⟨by omega, rfl, rfl⟩) | exact Or.inr (Or.inr (Or.inl ⟨by omega, rfl, rfl⟩))
  · refine ⟨?_, ?_⟩
    · intro _
      first | exact Or.inl ⟨by omega, rfl, rfl⟩ | exact Or.inr (Or.inl ⟨by omega, rfl, rfl⟩) | exact Or.inr (Or.inr (Or.inl ⟨by omega, rfl, rfl⟩))
    · exact fun h => absurd h (by decide)
