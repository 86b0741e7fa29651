/-! the class's teach -/
def zrcK (σ : zS) (cnt : Int → Int → Int) (i : Int) (w : Nat → Int) (m : Nat) (k : Nat) : Int := zrc (zrwk (zff σ cnt i) w m (zqq σ i) 1000000 k) (σ 18 (σ 20 i + zat (zff σ cnt i) w m (zqq σ i) 1000000 k)) (σ 18 (σ 20 i + zat (zff σ cnt i) w m (zqq σ i) 1000000 k + 1)) (σ 18 (σ 20 i + zat (zff σ cnt i) w m (zqq σ i) 1000000 k + 2))
theorem zRP_of {σ : zS} {cnt : Int → Int → Int} {P : Int → Int → Int} {i : Int} {w : Nat → Int} {m : Nat} (hO : zOK σ cnt P) (hi : 0 ≤ i ∧ i < σ 2 10) (hfin : zsp (zff σ cnt i) w m (zqq σ i) 1000000 m 0 < 1000000) : zRP σ w (zrcK σ cnt i w m) (zat (zff σ cnt i) w m (zqq σ i) 1000000) (zrwk (zff σ cnt i) w m (zqq σ i) 1000000) m (σ 20 i) := by
  intro k hk
  have hq := zqq_r hO hi.1 hi.2
  have h2 := hO.2.1 i hi.1 hi.2
  have hok := zat_ok hq.1 hfin (k := k) (by omega)
  have hrw := hok.2.2 hk
  have hq2 : zqq σ i ≤ σ 20 (i + 1) - σ 20 i := by unfold zqq; split <;> omega
  refine ⟨hrw.1, ⟨hok.1.1, by omega⟩, zat_s, rfl, ?_⟩
  have hf0 := hrw.2.2.2.1
  have hz : 0 < cnt (w k) (zrcK σ cnt i w m k) := by
    unfold zff zfm zFm at hf0
    unfold zrcK
    split at hf0
    · omega
    · next h => exact Int.not_le.mp h
  rcases Classical.em (∃ j : Int, 0 ≤ j ∧ j < σ 3 3 ∧ σ 23 j = w k ∧ σ 24 j = zrcK σ cnt i w m k) with q | q
  · exact q
  · have := hO.2.2.1.2.2 (w k) (zrcK σ cnt i w m k) (fun j j0 j1 z => q ⟨j, j0, j1, z⟩)
    omega
set_option maxRecDepth 100000 in
set_option maxHeartbeats 4000000 in
theorem am_X8_teach {σ : zS} {i : Int} {cnt : Int → Int → Int} {P : Int → Int → Int} {w : Nat → Int} {m : Nat} (hC : zCQ σ cnt P) (hw : zlet w m) (hm : m ≤ 12) (h40 : σ 4 0 = zlc w m) (h41 : σ 4 1 = (m : Int)) (hUQ : zUQ σ) (hcr : ∀ j : Int, 0 ≤ j → j < 1188 → 0 ≤ σ 22 j ∧ σ 22 j ≤ 999) (h38 : 0 ≤ σ 3 8 ∧ σ 3 8 ≤ 50) (hu : 0 ≤ σ 3 6 ∧ σ 3 6 + 2 * (m : Int) ≤ 1024) : zAM 68 [.inr (.inr (0, 0)), .inl i] σ (fun (v : Int) (u : zS) => ((¬ (0 ≤ i ∧ i < σ 2 10)) ∧ σ = u ∧ -1000001 = v) ∨ ((0 ≤ i ∧ i < σ 2 10) ∧ ∃ τ : zS, zTK zHK σ τ cnt P i ∧ ((m = 0 ∧ τ = u ∧ -1000002 = v) ∨ (¬ m = 0 ∧ ¬ zsp (zff σ cnt i) w m (zqq σ i) 1000000 m 0 < 1000000 ∧ zfr [33] τ u ∧ -1000002 = v) ∨ (¬ m = 0 ∧ zsp (zff σ cnt i) w m (zqq σ i) 1000000 m 0 < 1000000 ∧ 50 ≤ σ 3 8 ∧ zfr [33] τ u ∧ -1000003 = v) ∨ (¬ m = 0 ∧ zsp (zff σ cnt i) w m (zqq σ i) 1000000 m 0 < 1000000 ∧ σ 3 8 < 50 ∧ ∃ κ t : zS, zfr [3, 27, 33, 34] τ κ ∧ (∀ j : Int, ¬ j = 8 → κ 3 j = σ 3 j) ∧ κ 3 8 = σ 3 8 + 1 ∧ (∀ j : Int, κ 27 j = if j = σ 3 8 then σ 3 6 else σ 27 j) ∧ zLG 22 25 26 3 6 1188 κ t (2 * (m : Int)) ∧ zTC κ t w (zrcK σ cnt i w m) m ∧ zup (zup (zup t 0 4 (-1)) 4 0 0) 4 1 0 = u ∧ (m : Int) = v)))) := by
  refine zam (by decide) (Nat.le_of_ble_eq_true rfl) ?_
  refine zwalk zmk_68 [] 5 ?_
  show (∃ Rc : Int → zS → Prop, zAM 79 [.inr (.inr (0, 0)), .inl i] σ Rc ∧ ∀ (v1 : Int) (u1 : zS), zI v1 → Rc v1 u1 → ((¬ v1 = 0 → (∃ Rc : Int → zS → Prop, zAM 90 [.inr (.inr (0, 0)), .inl i] u1 Rc ∧ ∀ (u2 : zS), Rc 0 u2 → (((u2 4 (1 : Int)) = 0 → (((¬ (0 ≤ i ∧ i < σ 2 10)) ∧ σ = u2 ∧ -1000001 = (-1000002 : Int)) ∨ ((0 ≤ i ∧ i < σ 2 10) ∧ ∃ τ : zS, zTK zHK σ τ cnt P i ∧ ((m = 0 ∧ τ = u2 ∧ -1000002 = (-1000002 : Int)) ∨ (¬ m = 0 ∧ ¬ zsp (zff σ cnt i) w m (zqq σ i) 1000000 m 0 < 1000000 ∧ zfr [33] τ u2 ∧ -1000002 = (-1000002 : Int)) ∨ (¬ m = 0 ∧ zsp (zff σ cnt i) w m (zqq σ i) 1000000 m 0 < 1000000 ∧ 50 ≤ σ 3 8 ∧ zfr [33] τ u2 ∧ -1000003 = (-1000002 : Int)) ∨ (¬ m = 0 ∧ zsp (zff σ cnt i) w m (zqq σ i) 1000000 m 0 < 1000000 ∧ σ 3 8 < 50 ∧ ∃ κ t : zS, zfr [3, 27, 33, 34] τ κ ∧ (∀ j : Int, ¬ j = 8 → κ 3 j = σ 3 j) ∧ κ 3 8 = σ 3 8 + 1 ∧ (∀ j : Int, κ 27 j = if j = σ 3 8 then σ 3 6 else σ 27 j) ∧ zLG 22 25 26 3 6 1188 κ t (2 * (m : Int)) ∧ zTC κ t w (zrcK σ cnt i w m) m ∧ zup (zup (zup t 0 4 (-1)) 4 0 0) 4 1 0 = u2 ∧ (m : Int) = (-1000002 : Int)))))) ∧ (¬ (u2 4 (1 : Int)) = 0 → (∃ Rc : Int → zS → Prop, zAM 44 [.inr (.inr (7, 0)), .inr (.inr (5, 0)), .inr (.inl (u2 4 (0 : Int)))] u2 Rc ∧ ∀ (v3 : Int) (u3 : zS), zI v3 → Rc v3 u3 → ((¬ v3 = (-1 : Int) → (((u3 3 (8 : Int)) < (50 : Int) → (∃ Rc : Int → zS → Prop, zAM 46 [.inr (.inr (7, 0)), .inr (.inr (5, 0)), .inr (.inl (u3 4 (0 : Int)))] u3 Rc ∧ ∀ (u4 : zS), Rc 0 u4 → (∃ Rc : Int → zS → Prop, zAM 3 [.inr (.inr (3, 0))] u4 Rc ∧ ∀ (u5 : zS), Rc 0 u5 → ((0 ≤ i ∧ i < (41 : Int)) ∧ (∃ Rc : Int → zS → Prop, zAM 91 [.inr (.inr (0, 0)), .inl (u5 20 i)] u5 Rc ∧ ∀ (u6 : zS), Rc 0 u6 → (∃ Rc : Int → zS → Prop, zAM 48 [.inr (.inr (4, 0))] (zup u6 0 (4 : Int) (-1 : Int)) Rc ∧ ∀ (v7 : Int) (u7 : zS), zI v7 → Rc v7 u7 → (((¬ (0 ≤ i ∧ i < σ 2 10)) ∧ σ = u7 ∧ -1000001 = v7) ∨ ((0 ≤ i ∧ i < σ 2 10) ∧ ∃ τ : zS, zTK zHK σ τ cnt P i ∧ ((m = 0 ∧ τ = u7 ∧ -1000002 = v7) ∨ (¬ m = 0 ∧ ¬ zsp (zff σ cnt i) w m (zqq σ i) 1000000 m 0 < 1000000 ∧ zfr [33] τ u7 ∧ -1000002 = v7) ∨ (¬ m = 0 ∧ zsp (zff σ cnt i) w m (zqq σ i) 1000000 m 0 < 1000000 ∧ 50 ≤ σ 3 8 ∧ zfr [33] τ u7 ∧ -1000003 = v7) ∨ (¬ m = 0 ∧ zsp (zff σ cnt i) w m (zqq σ i) 1000000 m 0 < 1000000 ∧ σ 3 8 < 50 ∧ ∃ κ t : zS, zfr [3, 27, 33, 34] τ κ ∧ (∀ j : Int, ¬ j = 8 → κ 3 j = σ 3 j) ∧ κ 3 8 = σ 3 8 + 1 ∧ (∀ j : Int, κ 27 j = if j = σ 3 8 then σ 3 6 else σ 27 j) ∧ zLG 22 25 26 3 6 1188 κ t (2 * (m : Int)) ∧ zTC κ t w (zrcK σ cnt i w m) m ∧ zup (zup (zup t 0 4 (-1)) 4 0 0) 4 1 0 = u7 ∧ (m : Int) = v7)))))))))) ∧ ((50 : Int) ≤ (u3 3 (8 : Int)) → (((¬ (0 ≤ i ∧ i < σ 2 10)) ∧ σ = u3 ∧ -1000001 = (-1000003 : Int)) ∨ ((0 ≤ i ∧ i < σ 2 10) ∧ ∃ τ : zS, zTK zHK σ τ cnt P i ∧ ((m = 0 ∧ τ = u3 ∧ -1000002 = (-1000003 : Int)) ∨ (¬ m = 0 ∧ ¬ zsp (zff σ cnt i) w m (zqq σ i) 1000000 m 0 < 1000000 ∧ zfr [33] τ u3 ∧ -1000002 = (-1000003 : Int)) ∨ (¬ m = 0 ∧ zsp (zff σ cnt i) w m (zqq σ i) 1000000 m 0 < 1000000 ∧ 50 ≤ σ 3 8 ∧ zfr [33] τ u3 ∧ -1000003 = (-1000003 : Int)) ∨ (¬ m = 0 ∧ zsp (zff σ cnt i) w m (zqq σ i) 1000000 m 0 < 1000000 ∧ σ 3 8 < 50 ∧ ∃ κ t : zS, zfr [3, 27, 33, 34] τ κ ∧ (∀ j : Int, ¬ j = 8 → κ 3 j = σ 3 j) ∧ κ 3 8 = σ 3 8 + 1 ∧ (∀ j : Int, κ 27 j = if j = σ 3 8 then σ 3 6 else σ 27 j) ∧ zLG 22 25 26 3 6 1188 κ t (2 * (m : Int)) ∧ zTC κ t w (zrcK σ cnt i w m) m ∧ zup (zup (zup t 0 4 (-1)) 4 0 0) 4 1 0 = u3 ∧ (m : Int) = (-1000003 : Int)))))))) ∧ (v3 = (-1 : Int) → (((¬ (0 ≤ i ∧ i < σ 2 10)) ∧ σ = u3 ∧ -1000001 = (-1000002 : Int)) ∨ ((0 ≤ i ∧ i < σ 2 10) ∧ ∃ τ : zS, zTK zHK σ τ cnt P i ∧ ((m = 0 ∧ τ = u3 ∧ -1000002 = (-1000002 : Int)) ∨ (¬ m = 0 ∧ ¬ zsp (zff σ cnt i) w m (zqq σ i) 1000000 m 0 < 1000000 ∧ zfr [33] τ u3 ∧ -1000002 = (-1000002 : Int)) ∨ (¬ m = 0 ∧ zsp (zff σ cnt i) w m (zqq σ i) 1000000 m 0 < 1000000 ∧ 50 ≤ σ 3 8 ∧ zfr [33] τ u3 ∧ -1000003 = (-1000002 : Int)) ∨ (¬ m = 0 ∧ zsp (zff σ cnt i) w m (zqq σ i) 1000000 m 0 < 1000000 ∧ σ 3 8 < 50 ∧ ∃ κ t : zS, zfr [3, 27, 33, 34] τ κ ∧ (∀ j : Int, ¬ j = 8 → κ 3 j = σ 3 j) ∧ κ 3 8 = σ 3 8 + 1 ∧ (∀ j : Int, κ 27 j = if j = σ 3 8 then σ 3 6 else σ 27 j) ∧ zLG 22 25 26 3 6 1188 κ t (2 * (m : Int)) ∧ zTC κ t w (zrcK σ cnt i w m) m ∧ zup (zup (zup t 0 4 (-1)) 4 0 0) 4 1 0 = u3 ∧ (m : Int) = (-1000002 : Int)))))))))))) ∧ (v1 = 0 → (((¬ (0 ≤ i ∧ i < σ 2 10)) ∧ σ = u1 ∧ -1000001 = (-1000001 : Int)) ∨ ((0 ≤ i ∧ i < σ 2 10) ∧ ∃ τ : zS, zTK zHK σ τ cnt P i ∧ ((m = 0 ∧ τ = u1 ∧ -1000002 = (-1000001 : Int)) ∨ (¬ m = 0 ∧ ¬ zsp (zff σ cnt i) w m (zqq σ i) 1000000 m 0 < 1000000 ∧ zfr [33] τ u1 ∧ -1000002 = (-1000001 : Int)) ∨ (¬ m = 0 ∧ zsp (zff σ cnt i) w m (zqq σ i) 1000000 m 0 < 1000000 ∧ 50 ≤ σ 3 8 ∧ zfr [33] τ u1 ∧ -1000003 = (-1000001 : Int)) ∨ (¬ m = 0 ∧ zsp (zff σ cnt i) w m (zqq σ i) 1000000 m 0 < 1000000 ∧ σ 3 8 < 50 ∧ ∃ κ t : zS, zfr [3, 27, 33, 34] τ κ ∧ (∀ j : Int, ¬ j = 8 → κ 3 j = σ 3 j) ∧ κ 3 8 = σ 3 8 + 1 ∧ (∀ j : Int, κ 27 j = if j = σ 3 8 then σ 3 6 else σ 27 j) ∧ zLG 22 25 26 3 6 1188 κ t (2 * (m : Int)) ∧ zTC κ t w (zrcK σ cnt i w m) m ∧ zup (zup (zup t 0 4 (-1)) 4 0 0) 4 1 0 = u1 ∧ (m : Int) = (-1000001 : Int))))))))
  refine ⟨_, am_X8_isInk, ?_⟩
  intro v1 u1 hv1
  rintro ⟨rfl, (⟨rfl, cv1⟩ | ⟨rfl, cv1⟩)⟩
  · refine ⟨?_, ?_⟩
    · intro _
      refine ⟨_, am_X8_takeInHand (hC.1) (hC.2.1) (by omega), ?_⟩
      intro u2
      intro kv2
      have hTK := kv2
      have hD := kv2.2.2.2
      have eτ : ∀ k : Nat, k ∉ zHK → u2 k = σ k := kv2.1
      have e41 : u2 4 1 = (m : Int) := by rw [eτ 4 (by decide)]; exact h41
      have e40 : u2 4 0 = zlc w m := by rw [eτ 4 (by decide)]; exact h40
      have e38 : u2 3 8 = σ 3 8 := by rw [eτ 3 (by decide)]
      have hli := hC.1.1
      have h2i := hC.1.2.1 i cv1.1 cv1.2
      refine ⟨?_, ?_⟩
      · intro h2
        first
          | exact Or.inl ⟨cv1, rfl, rfl⟩
          | exact Or.inr ⟨cv1, _, hTK, Or.inl ⟨by omega, rfl, rfl⟩⟩
          | exact Or.inr ⟨cv1, _, hTK, Or.inr (Or.inl ⟨by omega, cnf (by assumption), c1, rfl⟩)⟩
          | exact Or.inr ⟨cv1, _, hTK, Or.inr (Or.inr (Or.inl ⟨by omega, cfin (by assumption), by omega, c1, rfl⟩))⟩
          | exact Or.inr ⟨cv1, _, hTK, Or.inr (Or.inr (Or.inr ⟨by omega, cfin (by assumption), by omega, _, _, kfr, fun j hj => by rw [k3, if_neg hj], k38, k27, l1, l2, rfl, by rw [← w9]; show _ = _; rw [zup_ne (by decide), l1.1 4 (by decide), e4]; exact h41.symm⟩))⟩
      · intro h3
        rw [e40]
        refine ⟨_, am_X6_cost (w := w) (m := m) (p := (zqq σ i)) (f := (zff σ cnt i)) (hw) (hm) (hD.1) (hD.2.1) (hD.2.2.1), ?_⟩
        intro v3 u3 hv3
        intro kv3
        obtain ⟨hv3a, hv3b⟩ := hv3
        obtain ⟨c1, c2, c3⟩ := kv3
        have cz := zsp_b (f := (zff σ cnt i)) (w := w) (m := m) (p := (zqq σ i)) (N := 1000000) (M := 1000000) (fun a k l a0 k0 k1 ak l0 l1 => (hD.2.2.1 a k l a0 k0 k1 ak l0 l1).2.2) hw (by decide) (by decide) hm m 0 (Nat.le_refl _) (by decide)
        have cfin : ¬ v3 = -1 → zsp (zff σ cnt i) w m (zqq σ i) 1000000 m 0 < 1000000 := fun q => by
          by_cases z : zsp (zff σ cnt i) w m (zqq σ i) 1000000 m 0 < 1000000
          · exact z
          · rw [if_neg z] at c3; exact absurd c3 q
        have cnf : v3 = -1 → ¬ zsp (zff σ cnt i) w m (zqq σ i) 1000000 m 0 < 1000000 := fun q z => by
          rw [if_pos z] at c3
          omega
        have e38b : u3 3 8 = σ 3 8 := by rw [c1 3 (by decide)]; exact e38
        refine ⟨?_, ?_⟩
        · intro h4
          refine ⟨?_, ?_⟩
          · intro h5
            rw [show _ = zlc w m from (congrFun (c1 4 (by decide)) 0).trans e40]
            refine ⟨_, am_X6_chooseRows (w := w) (m := m) (p := (zqq σ i)) (f := (zff σ cnt i)) (hw) (hm) (hD.1) (by rw [c1 5 (by decide)]; exact hD.2.1) (by rw [c1 29 (by decide)]; exact hD.2.2.1) (c2) (cfin (by assumption)), ?_⟩
            intro u4
            intro kv4
            obtain ⟨r1, r2⟩ := kv4
            have er3 : u4 3 = σ 3 := by rw [r1 3 (by decide), c1 3 (by decide), eτ 3 (by decide)]
            have er27 : u4 27 = σ 27 := by rw [r1 27 (by decide), c1 27 (by decide), eτ 27 (by decide)]
            have er38 : u4 3 8 = σ 3 8 := by rw [er3]
            refine ⟨_, am_X0_beginTeaching (by omega), ?_⟩
            intro u5
            intro kv5
            have eκ : zup (zup _ 27 _ _) 3 8 _ = u5 := kv5
            have k3 : ∀ j : Int, u5 3 j = if j = 8 then σ 3 8 + 1 else σ 3 j := fun j => by rw [← eκ, zup_at, zup_ne (by decide), er3]
            have k27 : ∀ j : Int, u5 27 j = if j = σ 3 8 then σ 3 6 else σ 27 j := fun j => by rw [← eκ, zup_ne (by decide), zup_at, er3, er27]
            have ko : ∀ k : Nat, k ≠ 3 → k ≠ 27 → k ≠ 33 → k ≠ 34 → k ∉ zHK → u5 k = σ k := fun k q1 q2 q3 q4 q5 => by
              rw [← eκ, zup_ne q1, zup_ne q2, r1 k (by simp only [List.mem_cons, List.not_mem_nil, or_false]; exact q4), c1 k (by simp only [List.mem_cons, List.not_mem_nil, or_false]; exact q3), eτ k q5]
            have k34 : u5 34 = u4 34 := by rw [← eκ, zup_ne (by decide), zup_ne (by decide)]
            have kfr : zfr [3, 27, 33, 34] u2 u5 := fun k hk => by
              have q : k ≠ 3 ∧ k ≠ 27 ∧ k ≠ 33 ∧ k ≠ 34 := by simp only [List.mem_cons, List.not_mem_nil, or_false] at hk; omega
              rw [← eκ, zup_ne q.1, zup_ne q.2.1, r1 k (by simp only [List.mem_cons, List.not_mem_nil, or_false]; exact q.2.2.2), c1 k (by simp only [List.mem_cons, List.not_mem_nil, or_false]; exact q.2.2.1)]
            have e20 : u5 20 = σ 20 := ko 20 (by decide) (by decide) (by decide) (by decide) (by decide)
            have e18 : u5 18 = σ 18 := ko 18 (by decide) (by decide) (by decide) (by decide) (by decide)
            have e2 : u5 2 = σ 2 := ko 2 (by decide) (by decide) (by decide) (by decide) (by decide)
            have e22 : u5 22 = σ 22 := ko 22 (by decide) (by decide) (by decide) (by decide) (by decide)
            have e23 : u5 23 = σ 23 := ko 23 (by decide) (by decide) (by decide) (by decide) (by decide)
            have e24 : u5 24 = σ 24 := ko 24 (by decide) (by decide) (by decide) (by decide) (by decide)
            have e4 : u5 4 = σ 4 := ko 4 (by decide) (by decide) (by decide) (by decide) (by decide)
            have k33 : u5 3 3 = σ 3 3 := by rw [k3, if_neg (by decide)]
            have k36 : u5 3 6 = σ 3 6 := by rw [k3, if_neg (by decide)]
            have k38 : u5 3 8 = σ 3 8 + 1 := by rw [k3, if_pos rfl]
            have hRP := zRP_of hC.1 cv1 (cfin (by assumption))
            refine ⟨by (omega), ?_⟩
            rw [show _ = σ 20 i from congrFun e20 i]
            refine ⟨_, am_X8_countReading (w := w) (m := m) (rc := zrcK σ cnt i w m) (at_ := zat (zff σ cnt i) w m (zqq σ i) 1000000) (row := zrwk (zff σ cnt i) w m (zqq σ i) 1000000) (hw) (hm) (by rw [e4]; exact h40) (by rw [e4]; exact h41) (by unfold zUQ; rw [k33, e23, e24]; exact hUQ) (by rw [k33]; exact hC.1.2.2.1.1) (by rw [e22]; exact hcr) (by omega) (by rw [k36]; exact hu) (by rw [e2]; exact hli.2) (by rw [e2, e18]; exact hC.1.2.2.2.2.1) (h2i.1) (by unfold zRP; rw [e2, e18, k33, e23, e24]; exact hRP) (fun k hk => by rw [k34]; exact r2 k hk) (rfl), ?_⟩
            intro u6
            intro kv6
            obtain ⟨l1, l2⟩ := kv6
            refine ⟨_, am_X7_clear, ?_⟩
            intro v7 u7 hv7
            intro kv7
            obtain ⟨hv7a, hv7b⟩ := hv7
            obtain ⟨rfl, w9⟩ := kv7
            first
              | exact Or.inl ⟨cv1, rfl, rfl⟩
              | exact Or.inr ⟨cv1, _, hTK, Or.inl ⟨by omega, rfl, rfl⟩⟩
              | exact Or.inr ⟨cv1, _, hTK, Or.inr (Or.inl ⟨by omega, cnf (by assumption), c1, rfl⟩)⟩
              | exact Or.inr ⟨cv1, _, hTK, Or.inr (Or.inr (Or.inl ⟨by omega, cfin (by assumption), by omega, c1, rfl⟩))⟩
              | exact Or.inr ⟨cv1, _, hTK, Or.inr (Or.inr (Or.inr ⟨by omega, cfin (by assumption), by omega, _, _, kfr, fun j hj => by rw [k3, if_neg hj], k38, k27, l1, l2, rfl, by rw [← w9]; show _ = _; rw [zup_ne (by decide), l1.1 4 (by decide), e4]; exact h41.symm⟩))⟩
          · intro h6
            first
              | exact Or.inl ⟨cv1, rfl, rfl⟩
              | exact Or.inr ⟨cv1, _, hTK, Or.inl ⟨by omega, rfl, rfl⟩⟩
              | exact Or.inr ⟨cv1, _, hTK, Or.inr (Or.inl ⟨by omega, cnf (by assumption), c1, rfl⟩)⟩
              | exact Or.inr ⟨cv1, _, hTK, Or.inr (Or.inr (Or.inl ⟨by omega, cfin (by assumption), by omega, c1, rfl⟩))⟩
              | exact Or.inr ⟨cv1, _, hTK, Or.inr (Or.inr (Or.inr ⟨by omega, cfin (by assumption), by omega, _, _, kfr, fun j hj => by rw [k3, if_neg hj], k38, k27, l1, l2, rfl, by rw [← w9]; show _ = _; rw [zup_ne (by decide), l1.1 4 (by decide), e4]; exact h41.symm⟩))⟩
        · intro h7
          first
            | exact Or.inl ⟨cv1, rfl, rfl⟩
            | exact Or.inr ⟨cv1, _, hTK, Or.inl ⟨by omega, rfl, rfl⟩⟩
            | exact Or.inr ⟨cv1, _, hTK, Or.inr (Or.inl ⟨by omega, cnf (by assumption), c1, rfl⟩)⟩
            | exact Or.inr ⟨cv1, _, hTK, Or.inr (Or.inr (Or.inl ⟨by omega, cfin (by assumption), by omega, c1, rfl⟩))⟩
            | exact Or.inr ⟨cv1, _, hTK, Or.inr (Or.inr (Or.inr ⟨by omega, cfin (by assumption), by omega, _, _, kfr, fun j hj => by rw [k3, if_neg hj], k38, k27, l1, l2, rfl, by rw [← w9]; show _ = _; rw [zup_ne (by decide), l1.1 4 (by decide), e4]; exact h41.symm⟩))⟩
    · exact fun h => absurd h (by decide)
  · refine ⟨?_, ?_⟩
    · exact fun h => absurd h (by decide)
    · intro _
      first
        | exact Or.inl ⟨cv1, rfl, rfl⟩
        | exact Or.inr ⟨cv1, _, hTK, Or.inl ⟨by omega, rfl, rfl⟩⟩
        | exact Or.inr ⟨cv1, _, hTK, Or.inr (Or.inl ⟨by omega, cnf (by assumption), c1, rfl⟩)⟩
        | exact Or.inr ⟨cv1, _, hTK, Or.inr (Or.inr (Or.inl ⟨by omega, cfin (by assumption), by omega, c1, rfl⟩))⟩
        | exact Or.inr ⟨cv1, _, hTK, Or.inr (Or.inr (Or.inr ⟨by omega, cfin (by assumption), by omega, _, _, kfr, fun j hj => by rw [k3, if_neg hj], k38, k27, l1, l2, rfl, by rw [← w9]; show _ = _; rw [zup_ne (by decide), l1.1 4 (by decide), e4]; exact h41.symm⟩))⟩
