/-! the class's listed, the word of a reading, find, count -/
def zlsA (C : Int → Int) (L : Nat) (j k v : Int) : Prop := (∃ w : Int, (0 ≤ w ∧ w < L ∧ 0 ≤ C w) ∧ zcntl C (32 * C w + w - 1) L = j ∧ v = (if k = 0 then w else C w)) ∨ ((∀ w : Int, 0 ≤ w → w < L → 0 ≤ C w → ¬ zcntl C (32 * C w + w - 1) L = j) ∧ v = -1000000)
theorem zlsA_of {C : Int → Int} {L : Nat} {j k v n : Int} {q c : Int → Int} (h : zLR C L n q c) (hv : (0 ≤ j ∧ j < n ∧ v = if k = 0 then q j else c j) ∨ (¬ (0 ≤ j ∧ j < n) ∧ v = -1000000)) : zlsA C L j k v := by
  rcases hv with ⟨j0, j1, e⟩ | ⟨g, e⟩
  · have h2 := h.2.1 j j0 j1
    refine Or.inl ⟨q j, ⟨h2.1.1, h2.1.2, by omega⟩, ?_, by rw [e, h2.2.1]⟩
    rw [← h2.2.1]
    exact zLR_rank h j0 j1
  · refine Or.inr ⟨fun w w0 w1 w2 z => ?_, e⟩
    obtain ⟨i, i0, i1, i2⟩ := h.2.2.2.1 w w0 w1 w2
    have h3 := zLR_rank h i0 i1
    have h2 := h.2.1 i i0 i1
    rw [h2.2.1, i2] at h3
    omega
def zopA (c : Int) (f : Nat → Int) (m : Nat) (k : Int) : Int := if k = -1 then c else if k = -2 then (m : Int) else if k < m then f k.toNat else -1000000
noncomputable def zcT (T : Int → Prop) : Nat → Int
  | 0 => 0
  | n + 1 => zcT T n + @ite Int (T n) (Classical.propDecidable _) 1 0
theorem zcT_yes {T : Int → Prop} {n : Nat} (h : T n) : zcT T (n + 1) = zcT T n + 1 := by
  show zcT T n + @ite Int (T n) (Classical.propDecidable _) 1 0 = _
  rw [if_pos h]
theorem zcT_no {T : Int → Prop} {n : Nat} (h : ¬ T n) : zcT T (n + 1) = zcT T n := by
  show zcT T n + @ite Int (T n) (Classical.propDecidable _) 1 0 = _
  rw [if_neg h]; omega
theorem zcT_r {T : Int → Prop} : ∀ {n : Nat}, 0 ≤ zcT T n ∧ zcT T n ≤ n
  | 0 => ⟨Int.le_refl _, Int.le_refl _⟩
  | n + 1 => by
    have ih := zcT_r (T := T) (n := n)
    by_cases h : T n
    · rw [zcT_yes h]; omega
    · rw [zcT_no h]; omega
/-- x is among the first five of what S offers -/
def zTLD (S : Int → Int → Prop) (x : Int) : Prop := ∃ (n : Int) (c w : Int → Int), zTop S n c w ∧ ∃ j : Int, 0 ≤ j ∧ j < n ∧ w j = x
theorem zTLD_iff {S : Int → Int → Prop} {x n : Int} {c w : Int → Int} (h : zTop S n c w) : zTLD S x ↔ ∃ j : Int, 0 ≤ j ∧ j < n ∧ w j = x := by
  constructor
  · rintro ⟨n', c', w', h', j, j0, j1, e⟩
    obtain ⟨e1, e2⟩ := zTop.uniq h' h
    exact ⟨j, j0, by omega, by rw [← (e2 j j0 j1).2]; exact e⟩
  · exact fun q => ⟨n, c, w, h, q⟩
/-- the k-th of the first K that T holds of -/
def zFN (T : Int → Prop) (K k v : Int) : Prop := (∃ i : Int, 0 ≤ i ∧ i < K ∧ T i ∧ zcT T i.toNat = k ∧ v = i) ∨ ((∀ i : Int, 0 ≤ i → i < K → T i → ¬ zcT T i.toNat = k) ∧ v = -1000000)
set_option maxRecDepth 100000 in
set_option maxHeartbeats 4000000 in
theorem am_X8_listed {σ : zS} {i : Int} {j : Int} {k : Int} {cnt : Int → Int → Int} {P : Int → Int → Int} {W : Int → Nat → Int} {M : Int → Nat} (hC : zCQ σ cnt P) (hW : zWC σ (σ 4 3) W M) : zAM 65 [.inr (.inr (0, 0)), .inl i, .inl j, .inl k] σ (fun (v : Int) (u : zS) => ((¬ (0 ≤ i ∧ i < σ 2 10) ∨ ¬ (0 ≤ k ∧ k ≤ 1)) ∧ σ = u ∧ -1000001 = v) ∨ (((0 ≤ i ∧ i < σ 2 10) ∧ 0 ≤ k ∧ k ≤ 1) ∧ ∃ τ : zS, zTK zHK σ τ cnt P i ∧ zfr [8, 33, 35, 36] τ u ∧ zlsA (zcw (zff σ cnt i) (zqq σ i) W M) (σ 4 3).toNat j k v)) := by
  refine zam (by decide) (Nat.le_of_ble_eq_true rfl) ?_
  refine zwalk zmk_65 [] 5 ?_
  show (∃ Rc : Int → zS → Prop, zAM 79 [.inr (.inr (0, 0)), .inl i] σ Rc ∧ ∀ (v1 : Int) (u1 : zS), zI v1 → Rc v1 u1 → ((v1 = 0 → (((¬ (0 ≤ i ∧ i < σ 2 10) ∨ ¬ (0 ≤ k ∧ k ≤ 1)) ∧ σ = u1 ∧ -1000001 = (-1000001 : Int)) ∨ (((0 ≤ i ∧ i < σ 2 10) ∧ 0 ≤ k ∧ k ≤ 1) ∧ ∃ τ : zS, zTK zHK σ τ cnt P i ∧ zfr [8, 33, 35, 36] τ u1 ∧ zlsA (zcw (zff σ cnt i) (zqq σ i) W M) (σ 4 3).toNat j k (-1000001 : Int)))) ∧ (¬ v1 = 0 → ((k < 0 → (((¬ (0 ≤ i ∧ i < σ 2 10) ∨ ¬ (0 ≤ k ∧ k ≤ 1)) ∧ σ = u1 ∧ -1000001 = (-1000001 : Int)) ∨ (((0 ≤ i ∧ i < σ 2 10) ∧ 0 ≤ k ∧ k ≤ 1) ∧ ∃ τ : zS, zTK zHK σ τ cnt P i ∧ zfr [8, 33, 35, 36] τ u1 ∧ zlsA (zcw (zff σ cnt i) (zqq σ i) W M) (σ 4 3).toNat j k (-1000001 : Int)))) ∧ (0 ≤ k → ((k ≤ (1 : Int) → (∃ Rc : Int → zS → Prop, zAM 90 [.inr (.inr (0, 0)), .inl i] u1 Rc ∧ ∀ (u2 : zS), Rc 0 u2 → (∃ Rc : Int → zS → Prop, zAM 24 [.inr (.inr (8, 0)), .inr (.inr (5, 0)), .inr (.inr (4, 0)), .inr (.inr (7, 0))] u2 Rc ∧ ∀ (u3 : zS), Rc 0 u3 → ((j < 0 → (((¬ (0 ≤ i ∧ i < σ 2 10) ∨ ¬ (0 ≤ k ∧ k ≤ 1)) ∧ σ = u3 ∧ -1000001 = (-1000000 : Int)) ∨ (((0 ≤ i ∧ i < σ 2 10) ∧ 0 ≤ k ∧ k ≤ 1) ∧ ∃ τ : zS, zTK zHK σ τ cnt P i ∧ zfr [8, 33, 35, 36] τ u3 ∧ zlsA (zcw (zff σ cnt i) (zqq σ i) W M) (σ 4 3).toNat j k (-1000000 : Int)))) ∧ (0 ≤ j → ((j < (u3 8 (2 : Int)) → ((¬ k = 0 → ((0 ≤ j ∧ j < (30 : Int)) ∧ (((¬ (0 ≤ i ∧ i < σ 2 10) ∨ ¬ (0 ≤ k ∧ k ≤ 1)) ∧ σ = u3 ∧ -1000001 = (u3 36 j)) ∨ (((0 ≤ i ∧ i < σ 2 10) ∧ 0 ≤ k ∧ k ≤ 1) ∧ ∃ τ : zS, zTK zHK σ τ cnt P i ∧ zfr [8, 33, 35, 36] τ u3 ∧ zlsA (zcw (zff σ cnt i) (zqq σ i) W M) (σ 4 3).toNat j k (u3 36 j))))) ∧ (k = 0 → ((0 ≤ j ∧ j < (30 : Int)) ∧ (((¬ (0 ≤ i ∧ i < σ 2 10) ∨ ¬ (0 ≤ k ∧ k ≤ 1)) ∧ σ = u3 ∧ -1000001 = (u3 35 j)) ∨ (((0 ≤ i ∧ i < σ 2 10) ∧ 0 ≤ k ∧ k ≤ 1) ∧ ∃ τ : zS, zTK zHK σ τ cnt P i ∧ zfr [8, 33, 35, 36] τ u3 ∧ zlsA (zcw (zff σ cnt i) (zqq σ i) W M) (σ 4 3).toNat j k (u3 35 j))))))) ∧ ((u3 8 (2 : Int)) ≤ j → (((¬ (0 ≤ i ∧ i < σ 2 10) ∨ ¬ (0 ≤ k ∧ k ≤ 1)) ∧ σ = u3 ∧ -1000001 = (-1000000 : Int)) ∨ (((0 ≤ i ∧ i < σ 2 10) ∧ 0 ≤ k ∧ k ≤ 1) ∧ ∃ τ : zS, zTK zHK σ τ cnt P i ∧ zfr [8, 33, 35, 36] τ u3 ∧ zlsA (zcw (zff σ cnt i) (zqq σ i) W M) (σ 4 3).toNat j k (-1000000 : Int)))))))))) ∧ ((1 : Int) < k → (((¬ (0 ≤ i ∧ i < σ 2 10) ∨ ¬ (0 ≤ k ∧ k ≤ 1)) ∧ σ = u1 ∧ -1000001 = (-1000001 : Int)) ∨ (((0 ≤ i ∧ i < σ 2 10) ∧ 0 ≤ k ∧ k ≤ 1) ∧ ∃ τ : zS, zTK zHK σ τ cnt P i ∧ zfr [8, 33, 35, 36] τ u1 ∧ zlsA (zcw (zff σ cnt i) (zqq σ i) W M) (σ 4 3).toNat j k (-1000001 : Int))))))))))
  refine ⟨_, am_X8_isInk, ?_⟩
  intro v1 u1 hv1
  rintro ⟨rfl, (⟨rfl, cv1⟩ | ⟨rfl, cv1⟩)⟩
  · refine ⟨?_, ?_⟩
    · exact fun h => absurd h (by decide)
    · intro _
      refine ⟨?_, ?_⟩
      · intro h2
        first | exact Or.inl ⟨by omega, rfl, rfl⟩ | skip
        all_goals exact Or.inr ⟨⟨cv1, by omega, by omega⟩, _, kv2, r1, zlsA_of r2 (by first | exact Or.inr ⟨by omega, rfl⟩ | exact Or.inl ⟨by omega, by omega, by first | (rw [if_pos (by omega)]) | (rw [if_neg (by omega)])⟩)⟩
      · intro h3
        refine ⟨?_, ?_⟩
        · intro h4
          refine ⟨_, am_X8_takeInHand (hC.1) (hC.2.1) (by omega), ?_⟩
          intro u2
          intro kv2
          have hD := kv2.2.2.2
          have e4 : u2 4 = σ 4 := kv2.1 4 (by decide)
          refine ⟨_, am_X3_read (W := W) (M := M) (p := zqq σ i) (f := zff σ cnt i) (by rw [e4]; exact hC.2.2.2.1) (by rw [e4]; unfold zWC; rw [kv2.1 28 (by decide)]; exact hW) (hD.1) (hD.2.1) (hD.2.2.1), ?_⟩
          intro u3
          intro kv3
          obtain ⟨r1, r2⟩ := kv3
          rw [e4] at r2
          have r3 := r2.1
          have r4 := hC.2.2.2.1
          refine ⟨?_, ?_⟩
          · intro h5
            first | exact Or.inl ⟨by omega, rfl, rfl⟩ | skip
            all_goals exact Or.inr ⟨⟨cv1, by omega, by omega⟩, _, kv2, r1, zlsA_of r2 (by first | exact Or.inr ⟨by omega, rfl⟩ | exact Or.inl ⟨by omega, by omega, by first | (rw [if_pos (by omega)]) | (rw [if_neg (by omega)])⟩)⟩
          · intro h6
            refine ⟨?_, ?_⟩
            · intro h7
              refine ⟨?_, ?_⟩
              · intro h8
                refine ⟨by (omega), ?_⟩
                first | exact Or.inl ⟨by omega, rfl, rfl⟩ | skip
                all_goals exact Or.inr ⟨⟨cv1, by omega, by omega⟩, _, kv2, r1, zlsA_of r2 (by first | exact Or.inr ⟨by omega, rfl⟩ | exact Or.inl ⟨by omega, by omega, by first | (rw [if_pos (by omega)]) | (rw [if_neg (by omega)])⟩)⟩
              · intro h9
                refine ⟨by (omega), ?_⟩
                first | exact Or.inl ⟨by omega, rfl, rfl⟩ | skip
                all_goals exact Or.inr ⟨⟨cv1, by omega, by omega⟩, _, kv2, r1, zlsA_of r2 (by first | exact Or.inr ⟨by omega, rfl⟩ | exact Or.inl ⟨by omega, by omega, by first | (rw [if_pos (by omega)]) | (rw [if_neg (by omega)])⟩)⟩
            · intro h10
              first | exact Or.inl ⟨by omega, rfl, rfl⟩ | skip
              all_goals exact Or.inr ⟨⟨cv1, by omega, by omega⟩, _, kv2, r1, zlsA_of r2 (by first | exact Or.inr ⟨by omega, rfl⟩ | exact Or.inl ⟨by omega, by omega, by first | (rw [if_pos (by omega)]) | (rw [if_neg (by omega)])⟩)⟩
        · intro h11
          first | exact Or.inl ⟨by omega, rfl, rfl⟩ | skip
          all_goals exact Or.inr ⟨⟨cv1, by omega, by omega⟩, _, kv2, r1, zlsA_of r2 (by first | exact Or.inr ⟨by omega, rfl⟩ | exact Or.inl ⟨by omega, by omega, by first | (rw [if_pos (by omega)]) | (rw [if_neg (by omega)])⟩)⟩
  · refine ⟨?_, ?_⟩
    · intro _
      first | exact Or.inl ⟨by omega, rfl, rfl⟩ | skip
      all_goals exact Or.inr ⟨⟨cv1, by omega, by omega⟩, _, kv2, r1, zlsA_of r2 (by first | exact Or.inr ⟨by omega, rfl⟩ | exact Or.inl ⟨by omega, by omega, by first | (rw [if_pos (by omega)]) | (rw [if_neg (by omega)])⟩)⟩
    · exact fun h => absurd h (by decide)
set_option maxRecDepth 100000 in
set_option maxHeartbeats 4000000 in
theorem am_X8_open {σ : zS} {i : Int} {j : Int} {k : Int} {cnt : Int → Int → Int} {P : Int → Int → Int} (hC : zCQ σ cnt P) : zAM 66 [.inr (.inr (0, 0)), .inl i, .inl j, .inl k] σ (fun (v : Int) (u : zS) => ((¬ (0 ≤ i ∧ i < σ 2 10) ∨ ¬ (0 ≤ j ∧ j < 5) ∨ ¬ (-2 ≤ k ∧ k < 12)) ∧ σ = u ∧ -1000001 = v) ∨ (((0 ≤ i ∧ i < σ 2 10) ∧ (0 ≤ j ∧ j < 5) ∧ -2 ≤ k ∧ k < 12) ∧ zTK zHK σ u cnt P i ∧ ((u 30 312 ≤ j ∧ -1000000 = v) ∨ (j < u 30 312 ∧ ∃ (g : Nat → Int) (m9 : Nat), zlet g m9 ∧ (1 ≤ m9 ∧ m9 ≤ 12) ∧ u 32 (1560 + j) = zlc g m9 ∧ zopA (u 31 (1560 + j)) g m9 k = v)))) := by
  refine zam (by decide) (Nat.le_of_ble_eq_true rfl) ?_
  refine zwalk zmk_66 [] 7 ?_
  show (∃ Rc : Int → zS → Prop, zAM 79 [.inr (.inr (0, 0)), .inl i] σ Rc ∧ ∀ (v1 : Int) (u1 : zS), zI v1 → Rc v1 u1 → ((v1 = 0 → (((¬ (0 ≤ i ∧ i < σ 2 10) ∨ ¬ (0 ≤ j ∧ j < 5) ∨ ¬ (-2 ≤ k ∧ k < 12)) ∧ σ = u1 ∧ -1000001 = (-1000001 : Int)) ∨ (((0 ≤ i ∧ i < σ 2 10) ∧ (0 ≤ j ∧ j < 5) ∧ -2 ≤ k ∧ k < 12) ∧ zTK zHK σ u1 cnt P i ∧ ((u1 30 312 ≤ j ∧ -1000000 = (-1000001 : Int)) ∨ (j < u1 30 312 ∧ ∃ (g : Nat → Int) (m9 : Nat), zlet g m9 ∧ (1 ≤ m9 ∧ m9 ≤ 12) ∧ u1 32 (1560 + j) = zlc g m9 ∧ zopA (u1 31 (1560 + j)) g m9 k = (-1000001 : Int)))))) ∧ (¬ v1 = 0 → ((j < 0 → (((¬ (0 ≤ i ∧ i < σ 2 10) ∨ ¬ (0 ≤ j ∧ j < 5) ∨ ¬ (-2 ≤ k ∧ k < 12)) ∧ σ = u1 ∧ -1000001 = (-1000001 : Int)) ∨ (((0 ≤ i ∧ i < σ 2 10) ∧ (0 ≤ j ∧ j < 5) ∧ -2 ≤ k ∧ k < 12) ∧ zTK zHK σ u1 cnt P i ∧ ((u1 30 312 ≤ j ∧ -1000000 = (-1000001 : Int)) ∨ (j < u1 30 312 ∧ ∃ (g : Nat → Int) (m9 : Nat), zlet g m9 ∧ (1 ≤ m9 ∧ m9 ≤ 12) ∧ u1 32 (1560 + j) = zlc g m9 ∧ zopA (u1 31 (1560 + j)) g m9 k = (-1000001 : Int)))))) ∧ (0 ≤ j → (((5 : Int) ≤ j → (((¬ (0 ≤ i ∧ i < σ 2 10) ∨ ¬ (0 ≤ j ∧ j < 5) ∨ ¬ (-2 ≤ k ∧ k < 12)) ∧ σ = u1 ∧ -1000001 = (-1000001 : Int)) ∨ (((0 ≤ i ∧ i < σ 2 10) ∧ (0 ≤ j ∧ j < 5) ∧ -2 ≤ k ∧ k < 12) ∧ zTK zHK σ u1 cnt P i ∧ ((u1 30 312 ≤ j ∧ -1000000 = (-1000001 : Int)) ∨ (j < u1 30 312 ∧ ∃ (g : Nat → Int) (m9 : Nat), zlet g m9 ∧ (1 ≤ m9 ∧ m9 ≤ 12) ∧ u1 32 (1560 + j) = zlc g m9 ∧ zopA (u1 31 (1560 + j)) g m9 k = (-1000001 : Int)))))) ∧ (j < (5 : Int) → ((k < (-2 : Int) → (((¬ (0 ≤ i ∧ i < σ 2 10) ∨ ¬ (0 ≤ j ∧ j < 5) ∨ ¬ (-2 ≤ k ∧ k < 12)) ∧ σ = u1 ∧ -1000001 = (-1000001 : Int)) ∨ (((0 ≤ i ∧ i < σ 2 10) ∧ (0 ≤ j ∧ j < 5) ∧ -2 ≤ k ∧ k < 12) ∧ zTK zHK σ u1 cnt P i ∧ ((u1 30 312 ≤ j ∧ -1000000 = (-1000001 : Int)) ∨ (j < u1 30 312 ∧ ∃ (g : Nat → Int) (m9 : Nat), zlet g m9 ∧ (1 ≤ m9 ∧ m9 ≤ 12) ∧ u1 32 (1560 + j) = zlc g m9 ∧ zopA (u1 31 (1560 + j)) g m9 k = (-1000001 : Int)))))) ∧ ((-2 : Int) ≤ k → ((k < (12 : Int) → (∃ Rc : Int → zS → Prop, zAM 90 [.inr (.inr (0, 0)), .inl i] u1 Rc ∧ ∀ (u2 : zS), Rc 0 u2 → (∃ Rc : Int → zS → Prop, zAM 35 [.inr (.inr (6, 0))] u2 Rc ∧ ∀ (v3 : Int) (u3 : zS), zI v3 → Rc v3 u3 → ((j < v3 → (∃ Rc : Int → zS → Prop, zAM 37 [.inr (.inr (6, 0)), .inl j] u3 Rc ∧ ∀ (v4 : Int) (u4 : zS), zJ v4 → Rc v4 u4 → (∃ Rc : Int → zS → Prop, zAM 88 [.inr (.inl v4)] u4 Rc ∧ ∀ (v5 : Int) (u5 : zS), zI v5 → Rc v5 u5 → ((¬ k = (-1 : Int) → ((¬ k = (-2 : Int) → ((v5 ≤ k → (((¬ (0 ≤ i ∧ i < σ 2 10) ∨ ¬ (0 ≤ j ∧ j < 5) ∨ ¬ (-2 ≤ k ∧ k < 12)) ∧ σ = u5 ∧ -1000001 = (-1000000 : Int)) ∨ (((0 ≤ i ∧ i < σ 2 10) ∧ (0 ≤ j ∧ j < 5) ∧ -2 ≤ k ∧ k < 12) ∧ zTK zHK σ u5 cnt P i ∧ ((u5 30 312 ≤ j ∧ -1000000 = (-1000000 : Int)) ∨ (j < u5 30 312 ∧ ∃ (g : Nat → Int) (m9 : Nat), zlet g m9 ∧ (1 ≤ m9 ∧ m9 ≤ 12) ∧ u5 32 (1560 + j) = zlc g m9 ∧ zopA (u5 31 (1560 + j)) g m9 k = (-1000000 : Int)))))) ∧ (k < v5 → (∃ Rc : Int → zS → Prop, zAM 87 [.inr (.inl v4), .inl k] u5 Rc ∧ ∀ (v6 : Int) (u6 : zS), zI v6 → Rc v6 u6 → (((¬ (0 ≤ i ∧ i < σ 2 10) ∨ ¬ (0 ≤ j ∧ j < 5) ∨ ¬ (-2 ≤ k ∧ k < 12)) ∧ σ = u6 ∧ -1000001 = v6) ∨ (((0 ≤ i ∧ i < σ 2 10) ∧ (0 ≤ j ∧ j < 5) ∧ -2 ≤ k ∧ k < 12) ∧ zTK zHK σ u6 cnt P i ∧ ((u6 30 312 ≤ j ∧ -1000000 = v6) ∨ (j < u6 30 312 ∧ ∃ (g : Nat → Int) (m9 : Nat), zlet g m9 ∧ (1 ≤ m9 ∧ m9 ≤ 12) ∧ u6 32 (1560 + j) = zlc g m9 ∧ zopA (u6 31 (1560 + j)) g m9 k = v6)))))))) ∧ (k = (-2 : Int) → (((¬ (0 ≤ i ∧ i < σ 2 10) ∨ ¬ (0 ≤ j ∧ j < 5) ∨ ¬ (-2 ≤ k ∧ k < 12)) ∧ σ = u5 ∧ -1000001 = v5) ∨ (((0 ≤ i ∧ i < σ 2 10) ∧ (0 ≤ j ∧ j < 5) ∧ -2 ≤ k ∧ k < 12) ∧ zTK zHK σ u5 cnt P i ∧ ((u5 30 312 ≤ j ∧ -1000000 = v5) ∨ (j < u5 30 312 ∧ ∃ (g : Nat → Int) (m9 : Nat), zlet g m9 ∧ (1 ≤ m9 ∧ m9 ≤ 12) ∧ u5 32 (1560 + j) = zlc g m9 ∧ zopA (u5 31 (1560 + j)) g m9 k = v5))))))) ∧ (k = (-1 : Int) → (∃ Rc : Int → zS → Prop, zAM 36 [.inr (.inr (6, 0)), .inl j] u5 Rc ∧ ∀ (v7 : Int) (u7 : zS), zI v7 → Rc v7 u7 → (((¬ (0 ≤ i ∧ i < σ 2 10) ∨ ¬ (0 ≤ j ∧ j < 5) ∨ ¬ (-2 ≤ k ∧ k < 12)) ∧ σ = u7 ∧ -1000001 = v7) ∨ (((0 ≤ i ∧ i < σ 2 10) ∧ (0 ≤ j ∧ j < 5) ∧ -2 ≤ k ∧ k < 12) ∧ zTK zHK σ u7 cnt P i ∧ ((u7 30 312 ≤ j ∧ -1000000 = v7) ∨ (j < u7 30 312 ∧ ∃ (g : Nat → Int) (m9 : Nat), zlet g m9 ∧ (1 ≤ m9 ∧ m9 ≤ 12) ∧ u7 32 (1560 + j) = zlc g m9 ∧ zopA (u7 31 (1560 + j)) g m9 k = v7)))))))))) ∧ (v3 ≤ j → (((¬ (0 ≤ i ∧ i < σ 2 10) ∨ ¬ (0 ≤ j ∧ j < 5) ∨ ¬ (-2 ≤ k ∧ k < 12)) ∧ σ = u3 ∧ -1000001 = (-1000000 : Int)) ∨ (((0 ≤ i ∧ i < σ 2 10) ∧ (0 ≤ j ∧ j < 5) ∧ -2 ≤ k ∧ k < 12) ∧ zTK zHK σ u3 cnt P i ∧ ((u3 30 312 ≤ j ∧ -1000000 = (-1000000 : Int)) ∨ (j < u3 30 312 ∧ ∃ (g : Nat → Int) (m9 : Nat), zlet g m9 ∧ (1 ≤ m9 ∧ m9 ≤ 12) ∧ u3 32 (1560 + j) = zlc g m9 ∧ zopA (u3 31 (1560 + j)) g m9 k = (-1000000 : Int)))))))))) ∧ ((12 : Int) ≤ k → (((¬ (0 ≤ i ∧ i < σ 2 10) ∨ ¬ (0 ≤ j ∧ j < 5) ∨ ¬ (-2 ≤ k ∧ k < 12)) ∧ σ = u1 ∧ -1000001 = (-1000001 : Int)) ∨ (((0 ≤ i ∧ i < σ 2 10) ∧ (0 ≤ j ∧ j < 5) ∧ -2 ≤ k ∧ k < 12) ∧ zTK zHK σ u1 cnt P i ∧ ((u1 30 312 ≤ j ∧ -1000000 = (-1000001 : Int)) ∨ (j < u1 30 312 ∧ ∃ (g : Nat → Int) (m9 : Nat), zlet g m9 ∧ (1 ≤ m9 ∧ m9 ≤ 12) ∧ u1 32 (1560 + j) = zlc g m9 ∧ zopA (u1 31 (1560 + j)) g m9 k = (-1000001 : Int))))))))))))))))
  refine ⟨_, am_X8_isInk, ?_⟩
  intro v1 u1 hv1
  rintro ⟨rfl, (⟨rfl, cv1⟩ | ⟨rfl, cv1⟩)⟩
  · refine ⟨?_, ?_⟩
    · exact fun h => absurd h (by decide)
    · intro _
      refine ⟨?_, ?_⟩
      · intro h2
        first | exact Or.inl ⟨by omega, rfl, rfl⟩ | exact Or.inr ⟨⟨cv1, by omega, by omega, by omega⟩, kv2, Or.inl ⟨by omega, rfl⟩⟩ | skip
        all_goals refine Or.inr ⟨⟨cv1, by omega, by omega, by omega⟩, kv2, Or.inr ⟨by omega, g, m9, g1, g2, g3, ?_⟩⟩
        all_goals unfold zopA
        all_goals first | (rw [if_pos (by omega)]) | (rw [if_neg (by omega), if_pos (by omega)]) | (rw [if_neg (by omega), if_neg (by omega), if_pos (by omega)]; omega) | (rw [if_neg (by omega), if_neg (by omega), if_neg (by omega)])
      · intro h3
        refine ⟨?_, ?_⟩
        · intro h4
          first | exact Or.inl ⟨by omega, rfl, rfl⟩ | exact Or.inr ⟨⟨cv1, by omega, by omega, by omega⟩, kv2, Or.inl ⟨by omega, rfl⟩⟩ | skip
          all_goals refine Or.inr ⟨⟨cv1, by omega, by omega, by omega⟩, kv2, Or.inr ⟨by omega, g, m9, g1, g2, g3, ?_⟩⟩
          all_goals unfold zopA
          all_goals first | (rw [if_pos (by omega)]) | (rw [if_neg (by omega), if_pos (by omega)]) | (rw [if_neg (by omega), if_neg (by omega), if_pos (by omega)]; omega) | (rw [if_neg (by omega), if_neg (by omega), if_neg (by omega)])
        · intro h5
          refine ⟨?_, ?_⟩
          · intro h6
            first | exact Or.inl ⟨by omega, rfl, rfl⟩ | exact Or.inr ⟨⟨cv1, by omega, by omega, by omega⟩, kv2, Or.inl ⟨by omega, rfl⟩⟩ | skip
            all_goals refine Or.inr ⟨⟨cv1, by omega, by omega, by omega⟩, kv2, Or.inr ⟨by omega, g, m9, g1, g2, g3, ?_⟩⟩
            all_goals unfold zopA
            all_goals first | (rw [if_pos (by omega)]) | (rw [if_neg (by omega), if_pos (by omega)]) | (rw [if_neg (by omega), if_neg (by omega), if_pos (by omega)]; omega) | (rw [if_neg (by omega), if_neg (by omega), if_neg (by omega)])
          · intro h7
            refine ⟨?_, ?_⟩
            · intro h8
              refine ⟨_, am_X8_takeInHand (hC.1) (hC.2.1) (by omega), ?_⟩
              intro u2
              intro kv2
              have hD := kv2.2.2.2
              have hT := hD.2.2.2
              have hTn := hT.1
              have hg : j < u2 30 312 → ∃ (g : Nat → Int) (m9 : Nat), zlet g m9 ∧ (1 ≤ m9 ∧ m9 ≤ 12) ∧ u2 32 (1560 + j) = zlc g m9 := fun q => by
                obtain ⟨r, d1, d2, d3⟩ := (hT.2.2.1 j (by omega) q).1
                have d4 : r.length ≠ 0 := fun z => d1.2.1 (List.length_eq_zero_iff.mp z)
                exact ⟨zgf r, r.length, zgf_let d1.1.1, ⟨by omega, d1.2.2⟩, d2⟩
              refine ⟨_, am_X4_told, ?_⟩
              intro v3 u3 hv3
              rintro ⟨rfl, rfl⟩
              obtain ⟨hv3a, hv3b⟩ := hv3
              refine ⟨?_, ?_⟩
              · intro h9
                refine ⟨_, am_X4_word (by omega), ?_⟩
                intro v4 u4 hv4
                rintro ⟨rfl, ev4⟩
                obtain ⟨hv4a, hv4b⟩ := hv4
                obtain ⟨g, m9, g1, g2, g3⟩ := hg (by omega)
                rw [g3] at ev4
                subst ev4
                have hz9 := zlc_lt g1 g2.2
                refine ⟨_, am_X8_lettersOf (g1) (g2.2), ?_⟩
                intro v5 u5 hv5
                rintro ⟨rfl, ev5⟩
                obtain ⟨hv5a, hv5b⟩ := hv5
                subst ev5
                refine ⟨?_, ?_⟩
                · intro h10
                  refine ⟨?_, ?_⟩
                  · intro h11
                    refine ⟨?_, ?_⟩
                    · intro h12
                      first | exact Or.inl ⟨by omega, rfl, rfl⟩ | exact Or.inr ⟨⟨cv1, by omega, by omega, by omega⟩, kv2, Or.inl ⟨by omega, rfl⟩⟩ | skip
                      all_goals refine Or.inr ⟨⟨cv1, by omega, by omega, by omega⟩, kv2, Or.inr ⟨by omega, g, m9, g1, g2, g3, ?_⟩⟩
                      all_goals unfold zopA
                      all_goals first | (rw [if_pos (by omega)]) | (rw [if_neg (by omega), if_pos (by omega)]) | (rw [if_neg (by omega), if_neg (by omega), if_pos (by omega)]; omega) | (rw [if_neg (by omega), if_neg (by omega), if_neg (by omega)])
                    · intro h13
                      refine ⟨_, am_X8_letterAt (hz9) (by omega), ?_⟩
                      intro v6 u6 hv6
                      rintro ⟨rfl, ev6⟩
                      obtain ⟨hv6a, hv6b⟩ := hv6
                      rw [zdg_lc g1 g2.2 (by omega) (by omega), if_pos (by omega)] at ev6
                      first | exact Or.inl ⟨by omega, rfl, rfl⟩ | exact Or.inr ⟨⟨cv1, by omega, by omega, by omega⟩, kv2, Or.inl ⟨by omega, rfl⟩⟩ | skip
                      all_goals refine Or.inr ⟨⟨cv1, by omega, by omega, by omega⟩, kv2, Or.inr ⟨by omega, g, m9, g1, g2, g3, ?_⟩⟩
                      all_goals unfold zopA
                      all_goals first | (rw [if_pos (by omega)]) | (rw [if_neg (by omega), if_pos (by omega)]) | (rw [if_neg (by omega), if_neg (by omega), if_pos (by omega)]; omega) | (rw [if_neg (by omega), if_neg (by omega), if_neg (by omega)])
                  · intro h14
                    first | exact Or.inl ⟨by omega, rfl, rfl⟩ | exact Or.inr ⟨⟨cv1, by omega, by omega, by omega⟩, kv2, Or.inl ⟨by omega, rfl⟩⟩ | skip
                    all_goals refine Or.inr ⟨⟨cv1, by omega, by omega, by omega⟩, kv2, Or.inr ⟨by omega, g, m9, g1, g2, g3, ?_⟩⟩
                    all_goals unfold zopA
                    all_goals first | (rw [if_pos (by omega)]) | (rw [if_neg (by omega), if_pos (by omega)]) | (rw [if_neg (by omega), if_neg (by omega), if_pos (by omega)]; omega) | (rw [if_neg (by omega), if_neg (by omega), if_neg (by omega)])
                · intro h15
                  refine ⟨_, am_X4_cost (by omega), ?_⟩
                  intro v7 u7 hv7
                  rintro ⟨rfl, rfl⟩
                  obtain ⟨hv7a, hv7b⟩ := hv7
                  first | exact Or.inl ⟨by omega, rfl, rfl⟩ | exact Or.inr ⟨⟨cv1, by omega, by omega, by omega⟩, kv2, Or.inl ⟨by omega, rfl⟩⟩ | skip
                  all_goals refine Or.inr ⟨⟨cv1, by omega, by omega, by omega⟩, kv2, Or.inr ⟨by omega, g, m9, g1, g2, g3, ?_⟩⟩
                  all_goals unfold zopA
                  all_goals first | (rw [if_pos (by omega)]) | (rw [if_neg (by omega), if_pos (by omega)]) | (rw [if_neg (by omega), if_neg (by omega), if_pos (by omega)]; omega) | (rw [if_neg (by omega), if_neg (by omega), if_neg (by omega)])
              · intro h16
                first | exact Or.inl ⟨by omega, rfl, rfl⟩ | exact Or.inr ⟨⟨cv1, by omega, by omega, by omega⟩, kv2, Or.inl ⟨by omega, rfl⟩⟩ | skip
                all_goals refine Or.inr ⟨⟨cv1, by omega, by omega, by omega⟩, kv2, Or.inr ⟨by omega, g, m9, g1, g2, g3, ?_⟩⟩
                all_goals unfold zopA
                all_goals first | (rw [if_pos (by omega)]) | (rw [if_neg (by omega), if_pos (by omega)]) | (rw [if_neg (by omega), if_neg (by omega), if_pos (by omega)]; omega) | (rw [if_neg (by omega), if_neg (by omega), if_neg (by omega)])
            · intro h17
              first | exact Or.inl ⟨by omega, rfl, rfl⟩ | exact Or.inr ⟨⟨cv1, by omega, by omega, by omega⟩, kv2, Or.inl ⟨by omega, rfl⟩⟩ | skip
              all_goals refine Or.inr ⟨⟨cv1, by omega, by omega, by omega⟩, kv2, Or.inr ⟨by omega, g, m9, g1, g2, g3, ?_⟩⟩
              all_goals unfold zopA
              all_goals first | (rw [if_pos (by omega)]) | (rw [if_neg (by omega), if_pos (by omega)]) | (rw [if_neg (by omega), if_neg (by omega), if_pos (by omega)]; omega) | (rw [if_neg (by omega), if_neg (by omega), if_neg (by omega)])
  · refine ⟨?_, ?_⟩
    · intro _
      first | exact Or.inl ⟨by omega, rfl, rfl⟩ | exact Or.inr ⟨⟨cv1, by omega, by omega, by omega⟩, kv2, Or.inl ⟨by omega, rfl⟩⟩ | skip
      all_goals refine Or.inr ⟨⟨cv1, by omega, by omega, by omega⟩, kv2, Or.inr ⟨by omega, g, m9, g1, g2, g3, ?_⟩⟩
      all_goals unfold zopA
      all_goals first | (rw [if_pos (by omega)]) | (rw [if_neg (by omega), if_pos (by omega)]) | (rw [if_neg (by omega), if_neg (by omega), if_pos (by omega)]; omega) | (rw [if_neg (by omega), if_neg (by omega), if_neg (by omega)])
    · exact fun h => absurd h (by decide)
