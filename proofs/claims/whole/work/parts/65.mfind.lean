/-! the model's open, wordCode, find, listed -/
theorem zNW_v {σ u : zS} {i j : Int} (h : zNW σ u i) (j0 : 0 ≤ j) (j1 : j < u 56 i) : ∃ (g : Nat → Int) (m9 : Nat), zlet g m9 ∧ (1 ≤ m9 ∧ m9 ≤ 12) ∧ u 58 (5 * i + j) = zrt g m9 ∧ u 59 (5 * i + j) = (m9 : Int) := h.2.2.1.2 j j0 j1
set_option maxRecDepth 100000 in
set_option maxHeartbeats 4000000 in
theorem am_X9_open {σ : zS} {i : Int} {j : Int} {k : Int} (hM : zMQ2 σ) : zAM 141 [.inr (.inr (9, 0)), .inl i, .inl j, .inl k] σ (fun (v : Int) (u : zS) => ((¬ (0 ≤ i ∧ i < σ 9 13) ∨ ¬ (0 ≤ j ∧ j < 5) ∨ ¬ (-2 ≤ k ∧ k < 12)) ∧ σ = u ∧ -1000001 = v) ∨ (((0 ≤ i ∧ i < σ 9 13) ∧ (0 ≤ j ∧ j < 5) ∧ -2 ≤ k ∧ k < 12) ∧ zNW σ u i ∧ ((u 56 i ≤ j ∧ -1000000 = v) ∨ (j < u 56 i ∧ ∃ (g : Nat → Int) (m9 : Nat), zlet g m9 ∧ (1 ≤ m9 ∧ m9 ≤ 12) ∧ u 58 (5 * i + j) = zrt g m9 ∧ u 59 (5 * i + j) = (m9 : Int) ∧ zopA (u 57 (5 * i + j)) g m9 k = v)))) := by
  refine zam (by decide) (Nat.le_of_ble_eq_true rfl) ?_
  refine zwalk zmk_141 [] 6 ?_
  show (∃ Rc : Int → zS → Prop, zAM 116 [.inr (.inr (9, 0)), .inl i] σ Rc ∧ ∀ (v1 : Int) (u1 : zS), zI v1 → Rc v1 u1 → ((v1 = 0 → (((¬ (0 ≤ i ∧ i < σ 9 13) ∨ ¬ (0 ≤ j ∧ j < 5) ∨ ¬ (-2 ≤ k ∧ k < 12)) ∧ σ = u1 ∧ -1000001 = (-1000001 : Int)) ∨ (((0 ≤ i ∧ i < σ 9 13) ∧ (0 ≤ j ∧ j < 5) ∧ -2 ≤ k ∧ k < 12) ∧ zNW σ u1 i ∧ ((u1 56 i ≤ j ∧ -1000000 = (-1000001 : Int)) ∨ (j < u1 56 i ∧ ∃ (g : Nat → Int) (m9 : Nat), zlet g m9 ∧ (1 ≤ m9 ∧ m9 ≤ 12) ∧ u1 58 (5 * i + j) = zrt g m9 ∧ u1 59 (5 * i + j) = (m9 : Int) ∧ zopA (u1 57 (5 * i + j)) g m9 k = (-1000001 : Int)))))) ∧ (¬ v1 = 0 → (∃ Rc : Int → zS → Prop, zAM 103 [.inr (.inl j), .inr (.inl (0 : Int)), .inr (.inl (4 : Int))] u1 Rc ∧ ∀ (v2 : Int) (u2 : zS), zI v2 → Rc v2 u2 → ((v2 = 0 → (((¬ (0 ≤ i ∧ i < σ 9 13) ∨ ¬ (0 ≤ j ∧ j < 5) ∨ ¬ (-2 ≤ k ∧ k < 12)) ∧ σ = u2 ∧ -1000001 = (-1000001 : Int)) ∨ (((0 ≤ i ∧ i < σ 9 13) ∧ (0 ≤ j ∧ j < 5) ∧ -2 ≤ k ∧ k < 12) ∧ zNW σ u2 i ∧ ((u2 56 i ≤ j ∧ -1000000 = (-1000001 : Int)) ∨ (j < u2 56 i ∧ ∃ (g : Nat → Int) (m9 : Nat), zlet g m9 ∧ (1 ≤ m9 ∧ m9 ≤ 12) ∧ u2 58 (5 * i + j) = zrt g m9 ∧ u2 59 (5 * i + j) = (m9 : Int) ∧ zopA (u2 57 (5 * i + j)) g m9 k = (-1000001 : Int)))))) ∧ (¬ v2 = 0 → (∃ Rc : Int → zS → Prop, zAM 103 [.inr (.inl k), .inr (.inl (-2 : Int)), .inr (.inl (11 : Int))] u2 Rc ∧ ∀ (v3 : Int) (u3 : zS), zI v3 → Rc v3 u3 → ((¬ v3 = 0 → (∃ Rc : Int → zS → Prop, zAM 139 [.inr (.inr (9, 0)), .inl i] u3 Rc ∧ ∀ (u4 : zS), Rc 0 u4 → (zI ((5 : Int) * i) ∧ (zI (((5 : Int) * i) + j) ∧ ((0 ≤ (((5 : Int) * i) + j) ∧ (((5 : Int) * i) + j) < (200 : Int)) ∧ ((0 ≤ i ∧ i < (40 : Int)) ∧ (((u4 56 i) ≤ j → (((¬ (0 ≤ i ∧ i < σ 9 13) ∨ ¬ (0 ≤ j ∧ j < 5) ∨ ¬ (-2 ≤ k ∧ k < 12)) ∧ σ = u4 ∧ -1000001 = (-1000000 : Int)) ∨ (((0 ≤ i ∧ i < σ 9 13) ∧ (0 ≤ j ∧ j < 5) ∧ -2 ≤ k ∧ k < 12) ∧ zNW σ u4 i ∧ ((u4 56 i ≤ j ∧ -1000000 = (-1000000 : Int)) ∨ (j < u4 56 i ∧ ∃ (g : Nat → Int) (m9 : Nat), zlet g m9 ∧ (1 ≤ m9 ∧ m9 ≤ 12) ∧ u4 58 (5 * i + j) = zrt g m9 ∧ u4 59 (5 * i + j) = (m9 : Int) ∧ zopA (u4 57 (5 * i + j)) g m9 k = (-1000000 : Int)))))) ∧ (j < (u4 56 i) → ((k < (u4 59 (((5 : Int) * i) + j)) → ((¬ k = (-1 : Int) → ((¬ k = (-2 : Int) → (zI ((5 : Int) * i) ∧ (zI (((5 : Int) * i) + j) ∧ ((0 ≤ (((5 : Int) * i) + j) ∧ (((5 : Int) * i) + j) < (200 : Int)) ∧ (zI ((u4 59 (((5 : Int) * i) + j)) - (1 : Int)) ∧ (zI (((u4 59 (((5 : Int) * i) + j)) - (1 : Int)) - k) ∧ (zI ((5 : Int) * (((u4 59 (((5 : Int) * i) + j)) - (1 : Int)) - k)) ∧ (zI (Int64.ofInt (Int64.ofInt (u4 58 (((5 : Int) * i) + j)) >>> ((Int32.ofInt ((5 : Int) * (((u4 59 (((5 : Int) * i) + j)) - (1 : Int)) - k))).toInt64 &&& 63)).toInt &&& Int64.ofInt (31 : Int)).toInt ∧ (((¬ (0 ≤ i ∧ i < σ 9 13) ∨ ¬ (0 ≤ j ∧ j < 5) ∨ ¬ (-2 ≤ k ∧ k < 12)) ∧ σ = u4 ∧ -1000001 = (Int64.ofInt (Int64.ofInt (u4 58 (((5 : Int) * i) + j)) >>> ((Int32.ofInt ((5 : Int) * (((u4 59 (((5 : Int) * i) + j)) - (1 : Int)) - k))).toInt64 &&& 63)).toInt &&& Int64.ofInt (31 : Int)).toInt) ∨ (((0 ≤ i ∧ i < σ 9 13) ∧ (0 ≤ j ∧ j < 5) ∧ -2 ≤ k ∧ k < 12) ∧ zNW σ u4 i ∧ ((u4 56 i ≤ j ∧ -1000000 = (Int64.ofInt (Int64.ofInt (u4 58 (((5 : Int) * i) + j)) >>> ((Int32.ofInt ((5 : Int) * (((u4 59 (((5 : Int) * i) + j)) - (1 : Int)) - k))).toInt64 &&& 63)).toInt &&& Int64.ofInt (31 : Int)).toInt) ∨ (j < u4 56 i ∧ ∃ (g : Nat → Int) (m9 : Nat), zlet g m9 ∧ (1 ≤ m9 ∧ m9 ≤ 12) ∧ u4 58 (5 * i + j) = zrt g m9 ∧ u4 59 (5 * i + j) = (m9 : Int) ∧ zopA (u4 57 (5 * i + j)) g m9 k = (Int64.ofInt (Int64.ofInt (u4 58 (((5 : Int) * i) + j)) >>> ((Int32.ofInt ((5 : Int) * (((u4 59 (((5 : Int) * i) + j)) - (1 : Int)) - k))).toInt64 &&& 63)).toInt &&& Int64.ofInt (31 : Int)).toInt)))))))))))) ∧ (k = (-2 : Int) → (((¬ (0 ≤ i ∧ i < σ 9 13) ∨ ¬ (0 ≤ j ∧ j < 5) ∨ ¬ (-2 ≤ k ∧ k < 12)) ∧ σ = u4 ∧ -1000001 = (u4 59 (((5 : Int) * i) + j))) ∨ (((0 ≤ i ∧ i < σ 9 13) ∧ (0 ≤ j ∧ j < 5) ∧ -2 ≤ k ∧ k < 12) ∧ zNW σ u4 i ∧ ((u4 56 i ≤ j ∧ -1000000 = (u4 59 (((5 : Int) * i) + j))) ∨ (j < u4 56 i ∧ ∃ (g : Nat → Int) (m9 : Nat), zlet g m9 ∧ (1 ≤ m9 ∧ m9 ≤ 12) ∧ u4 58 (5 * i + j) = zrt g m9 ∧ u4 59 (5 * i + j) = (m9 : Int) ∧ zopA (u4 57 (5 * i + j)) g m9 k = (u4 59 (((5 : Int) * i) + j))))))))) ∧ (k = (-1 : Int) → (zI ((5 : Int) * i) ∧ (zI (((5 : Int) * i) + j) ∧ ((0 ≤ (((5 : Int) * i) + j) ∧ (((5 : Int) * i) + j) < (200 : Int)) ∧ (((¬ (0 ≤ i ∧ i < σ 9 13) ∨ ¬ (0 ≤ j ∧ j < 5) ∨ ¬ (-2 ≤ k ∧ k < 12)) ∧ σ = u4 ∧ -1000001 = (u4 57 (((5 : Int) * i) + j))) ∨ (((0 ≤ i ∧ i < σ 9 13) ∧ (0 ≤ j ∧ j < 5) ∧ -2 ≤ k ∧ k < 12) ∧ zNW σ u4 i ∧ ((u4 56 i ≤ j ∧ -1000000 = (u4 57 (((5 : Int) * i) + j))) ∨ (j < u4 56 i ∧ ∃ (g : Nat → Int) (m9 : Nat), zlet g m9 ∧ (1 ≤ m9 ∧ m9 ≤ 12) ∧ u4 58 (5 * i + j) = zrt g m9 ∧ u4 59 (5 * i + j) = (m9 : Int) ∧ zopA (u4 57 (5 * i + j)) g m9 k = (u4 57 (((5 : Int) * i) + j)))))))))))) ∧ ((u4 59 (((5 : Int) * i) + j)) ≤ k → (((¬ (0 ≤ i ∧ i < σ 9 13) ∨ ¬ (0 ≤ j ∧ j < 5) ∨ ¬ (-2 ≤ k ∧ k < 12)) ∧ σ = u4 ∧ -1000001 = (-1000000 : Int)) ∨ (((0 ≤ i ∧ i < σ 9 13) ∧ (0 ≤ j ∧ j < 5) ∧ -2 ≤ k ∧ k < 12) ∧ zNW σ u4 i ∧ ((u4 56 i ≤ j ∧ -1000000 = (-1000000 : Int)) ∨ (j < u4 56 i ∧ ∃ (g : Nat → Int) (m9 : Nat), zlet g m9 ∧ (1 ≤ m9 ∧ m9 ≤ 12) ∧ u4 58 (5 * i + j) = zrt g m9 ∧ u4 59 (5 * i + j) = (m9 : Int) ∧ zopA (u4 57 (5 * i + j)) g m9 k = (-1000000 : Int))))))))))))))) ∧ (v3 = 0 → (((¬ (0 ≤ i ∧ i < σ 9 13) ∨ ¬ (0 ≤ j ∧ j < 5) ∨ ¬ (-2 ≤ k ∧ k < 12)) ∧ σ = u3 ∧ -1000001 = (-1000001 : Int)) ∨ (((0 ≤ i ∧ i < σ 9 13) ∧ (0 ≤ j ∧ j < 5) ∧ -2 ≤ k ∧ k < 12) ∧ zNW σ u3 i ∧ ((u3 56 i ≤ j ∧ -1000000 = (-1000001 : Int)) ∨ (j < u3 56 i ∧ ∃ (g : Nat → Int) (m9 : Nat), zlet g m9 ∧ (1 ≤ m9 ∧ m9 ≤ 12) ∧ u3 58 (5 * i + j) = zrt g m9 ∧ u3 59 (5 * i + j) = (m9 : Int) ∧ zopA (u3 57 (5 * i + j)) g m9 k = (-1000001 : Int))))))))))))))
  refine ⟨_, am_X9_isInk (hM.1.1), ?_⟩
  intro v1 u1 hv1
  rintro ⟨rfl, (⟨rfl, cv1⟩ | ⟨rfl, cv1⟩)⟩
  · refine ⟨?_, ?_⟩
    · exact fun h => absurd h (by decide)
    · intro _
      refine ⟨_, am_X9_in, ?_⟩
      intro v2 u2 hv2
      rintro ⟨rfl, (⟨rfl, cv2⟩ | ⟨rfl, cv2⟩)⟩
      · refine ⟨?_, ?_⟩
        · exact fun h => absurd h (by decide)
        · intro _
          refine ⟨_, am_X9_in, ?_⟩
          intro v3 u3 hv3
          rintro ⟨rfl, (⟨rfl, cv3⟩ | ⟨rfl, cv3⟩)⟩
          · refine ⟨?_, ?_⟩
            · intro _
              refine ⟨_, am_know (hM.1) (cv1), ?_⟩
              intro u4
              intro kv4
              have hN := zKNR_nw hM.2.1 cv1 kv4
              have hcc := zKP_c hN.2.2.1 (zgb_m hM.1 cv1)
              have hn9 := hcc.1
              have h13 := hM.1.1
              refine ⟨by (first | exact ⟨by omega, by omega⟩ | (obtain ⟨g, m9, g1, g2, g3, g4⟩ := zNW_v hN (j := j) (by omega) (by omega); exact ⟨by omega, by omega⟩)), ?_⟩
              refine ⟨by (first | exact ⟨by omega, by omega⟩ | (obtain ⟨g, m9, g1, g2, g3, g4⟩ := zNW_v hN (j := j) (by omega) (by omega); exact ⟨by omega, by omega⟩)), ?_⟩
              refine ⟨by (first | exact ⟨by omega, by omega⟩ | (exfalso; omega)), ?_⟩
              refine ⟨by (first | exact ⟨by omega, by omega⟩ | (exfalso; omega)), ?_⟩
              refine ⟨?_, ?_⟩
              · intro h4
                first
                  | exact Or.inr ⟨⟨cv1, by omega, by omega, by omega⟩, hN, Or.inl ⟨by omega, rfl⟩⟩
                  | (obtain ⟨g, m9, g1, g2, g3, g4⟩ := zNW_v hN (j := j) (by omega) (by omega)
                     refine Or.inr ⟨⟨cv1, by omega, by omega, by omega⟩, hN, Or.inr ⟨by omega, g, m9, g1, g2, g3, g4, ?_⟩⟩
                     unfold zopA
                     first | (rw [if_pos (by omega)]) | (rw [if_neg (by omega), if_pos (by omega)]; omega) | (rw [if_neg (by omega), if_neg (by omega), if_neg (by omega)]))
              · intro h5
                refine ⟨?_, ?_⟩
                · intro h6
                  refine ⟨?_, ?_⟩
                  · intro h7
                    refine ⟨?_, ?_⟩
                    · intro h8
                      refine ⟨by (first | exact ⟨by omega, by omega⟩ | (obtain ⟨g, m9, g1, g2, g3, g4⟩ := zNW_v hN (j := j) (by omega) (by omega); exact ⟨by omega, by omega⟩)), ?_⟩
                      refine ⟨by (first | exact ⟨by omega, by omega⟩ | (obtain ⟨g, m9, g1, g2, g3, g4⟩ := zNW_v hN (j := j) (by omega) (by omega); exact ⟨by omega, by omega⟩)), ?_⟩
                      refine ⟨by (first | exact ⟨by omega, by omega⟩ | (exfalso; omega)), ?_⟩
                      refine ⟨by (first | exact ⟨by omega, by omega⟩ | (obtain ⟨g, m9, g1, g2, g3, g4⟩ := zNW_v hN (j := j) (by omega) (by omega); exact ⟨by omega, by omega⟩)), ?_⟩
                      refine ⟨by (first | exact ⟨by omega, by omega⟩ | (obtain ⟨g, m9, g1, g2, g3, g4⟩ := zNW_v hN (j := j) (by omega) (by omega); exact ⟨by omega, by omega⟩)), ?_⟩
                      refine ⟨by (first | exact ⟨by omega, by omega⟩ | (obtain ⟨g, m9, g1, g2, g3, g4⟩ := zNW_v hN (j := j) (by omega) (by omega); exact ⟨by omega, by omega⟩)), ?_⟩
                      refine ⟨by ((obtain ⟨g, m9, g1, g2, g3, g4⟩ := zNW_v hN (j := j) (by omega) (by omega); rw [g3, g4, zmd g1 g2.2 (by omega) (by omega)]; have h9 := g1 k.toNat (by omega); exact ⟨by omega, by omega⟩)), ?_⟩
                      obtain ⟨g, m9, g1, g2, g3, g4⟩ := zNW_v hN (j := j) (by omega) (by omega)
                      have e9 : (Int64.ofInt (Int64.ofInt (u4 58 (((5 : Int) * i) + j)) >>> ((Int32.ofInt ((5 : Int) * (((u4 59 (((5 : Int) * i) + j)) - (1 : Int)) - k))).toInt64 &&& 63)).toInt &&& Int64.ofInt (31 : Int)).toInt = g k.toNat := by rw [g3, g4]; exact zmd g1 g2.2 (by omega) (by omega)
                      rw [e9]
                      refine Or.inr ⟨⟨cv1, by omega, by omega, by omega⟩, hN, Or.inr ⟨by omega, g, m9, g1, g2, g3, g4, ?_⟩⟩
                      unfold zopA
                      rw [if_neg (by omega), if_neg (by omega), if_pos (by omega)]
                    · intro h9
                      first
                        | exact Or.inr ⟨⟨cv1, by omega, by omega, by omega⟩, hN, Or.inl ⟨by omega, rfl⟩⟩
                        | (obtain ⟨g, m9, g1, g2, g3, g4⟩ := zNW_v hN (j := j) (by omega) (by omega)
                           refine Or.inr ⟨⟨cv1, by omega, by omega, by omega⟩, hN, Or.inr ⟨by omega, g, m9, g1, g2, g3, g4, ?_⟩⟩
                           unfold zopA
                           first | (rw [if_pos (by omega)]) | (rw [if_neg (by omega), if_pos (by omega)]; omega) | (rw [if_neg (by omega), if_neg (by omega), if_neg (by omega)]))
                  · intro h10
                    refine ⟨by (first | exact ⟨by omega, by omega⟩ | (obtain ⟨g, m9, g1, g2, g3, g4⟩ := zNW_v hN (j := j) (by omega) (by omega); exact ⟨by omega, by omega⟩)), ?_⟩
                    refine ⟨by (first | exact ⟨by omega, by omega⟩ | (obtain ⟨g, m9, g1, g2, g3, g4⟩ := zNW_v hN (j := j) (by omega) (by omega); exact ⟨by omega, by omega⟩)), ?_⟩
                    refine ⟨by (first | exact ⟨by omega, by omega⟩ | (exfalso; omega)), ?_⟩
                    first
                      | exact Or.inr ⟨⟨cv1, by omega, by omega, by omega⟩, hN, Or.inl ⟨by omega, rfl⟩⟩
                      | (obtain ⟨g, m9, g1, g2, g3, g4⟩ := zNW_v hN (j := j) (by omega) (by omega)
                         refine Or.inr ⟨⟨cv1, by omega, by omega, by omega⟩, hN, Or.inr ⟨by omega, g, m9, g1, g2, g3, g4, ?_⟩⟩
                         unfold zopA
                         first | (rw [if_pos (by omega)]) | (rw [if_neg (by omega), if_pos (by omega)]; omega) | (rw [if_neg (by omega), if_neg (by omega), if_neg (by omega)]))
                · intro h11
                  first
                    | exact Or.inr ⟨⟨cv1, by omega, by omega, by omega⟩, hN, Or.inl ⟨by omega, rfl⟩⟩
                    | (obtain ⟨g, m9, g1, g2, g3, g4⟩ := zNW_v hN (j := j) (by omega) (by omega)
                       refine Or.inr ⟨⟨cv1, by omega, by omega, by omega⟩, hN, Or.inr ⟨by omega, g, m9, g1, g2, g3, g4, ?_⟩⟩
                       unfold zopA
                       first | (rw [if_pos (by omega)]) | (rw [if_neg (by omega), if_pos (by omega)]; omega) | (rw [if_neg (by omega), if_neg (by omega), if_neg (by omega)]))
            · exact fun h => absurd h (by decide)
          · refine ⟨?_, ?_⟩
            · exact fun h => absurd h (by decide)
            · intro _
              exact Or.inl ⟨by omega, rfl, rfl⟩
      · refine ⟨?_, ?_⟩
        · intro _
          exact Or.inl ⟨by omega, rfl, rfl⟩
        · exact fun h => absurd h (by decide)
  · refine ⟨?_, ?_⟩
    · intro _
      exact Or.inl ⟨by omega, rfl, rfl⟩
    · exact fun h => absurd h (by decide)
set_option maxRecDepth 100000 in
set_option maxHeartbeats 4000000 in
theorem lp_wc {g : Nat → Int} {m9 : Nat} {σ : zS} (hg : zlet g m9) (hm12 : m9 ≤ 12) (h25 : σ 9 25 = (m9 : Int)) (h53 : ∀ j : Nat, j < m9 → σ 53 (j : Int) = g j) : ∀ (n : Nat) (k : Nat), (m9 : Int) + 1 - (k : Int) < (n : Int) → (k ≤ m9) → zRuns 142 zX0 (fun (v : Int) (u : zS) => σ = u ∧ zrt g m9 = v) 4 [some (.inr (.inr (9, 0))), some (.inr (.inl (zrt g k))), none, some (.inl (k : Int))] [] σ := by
  intro n
  induction n with
  | zero =>
    intro k hn k0
    exfalso
    omega
  | succ n ih =>
    intro k hn k0
    refine zwalk zmk_142 [(4, [true, true, false, true])] 3 ?_
    show (((σ 9 (25 : Int)) ≤ (k : Int) → (σ = σ ∧ zrt g m9 = (zrt g k))) ∧ ((k : Int) < (σ 9 (25 : Int)) → ((0 ≤ (k : Int) ∧ (k : Int) < (12 : Int)) ∧ (zI ((k : Int) + (1 : Int)) ∧ zRuns 142 zX0 (fun (v : Int) (u : zS) => σ = u ∧ zrt g m9 = v) 4 [some (.inr (.inr (9, 0))), some (.inr (.inl (Int64.ofInt (Int64.ofInt (zrt g k) <<< ((Int32.ofInt (5 : Int)).toInt64 &&& 63)).toInt ||| Int64.ofInt (σ 53 (k : Int))).toInt)), none, some (.inl ((k : Int) + (1 : Int)))] [] σ))))
    have e2 : (2 : Int) ^ (5 : Int).toNat = 32 := by decide
    have e5 : (2 : Int) ^ 5 = 32 := by decide
    have hz := fun q : k ≤ 11 => zrt_lt (hg.le (show k ≤ m9 from k0))
    have hz2 := zrt_lt (hg.le k0)
    have hkk : (k : Int) < σ 9 25 → (0 ≤ σ 53 k ∧ σ 53 k < 26) ∧ σ 53 k = g k ∧ zrt g k < 36028797018963968 := fun q => by
      have h9 := hg k (by omega)
      have h8 := z32_11 (n := k) (by omega)
      rw [h53 k (by omega)]
      exact ⟨h9, rfl, by omega⟩
    refine ⟨?_, ?_⟩
    · intro h1
      refine ⟨rfl, ?_⟩
      rw [show k = m9 by omega]
    · intro h2
      refine ⟨by (first | exact ⟨by omega, by omega⟩ | (exfalso; omega)), ?_⟩
      refine ⟨by (first | exact ⟨by omega, by omega⟩ | (exfalso; omega)), ?_⟩
      have q9 := hkk (by omega)
      have hI := ih (k + 1) (by omega) (by omega)
      rw [zshl (by omega) (by decide) (by decide) (by rw [e2]; omega), e2, zori (a := zrt g k) (k := 5) (by omega) (by rw [e5]) (by omega) (by rw [e5]; omega) (by omega)]
      have ez : zrt g (k + 1) = zrt g k * 32 + σ 53 k := by rw [q9.2.1]; show 32 * zrt g k + g k = _; omega
      rw [ez] at hI
      exact hI
set_option maxRecDepth 100000 in
set_option maxHeartbeats 4000000 in
theorem am_X9_wordCode {σ : zS} {g : Nat → Int} {m9 : Nat} (hg : zlet g m9) (hm12 : m9 ≤ 12) (h25 : σ 9 25 = (m9 : Int)) (h53 : ∀ j : Nat, j < m9 → σ 53 (j : Int) = g j) : zAM 142 [.inr (.inr (9, 0))] σ (fun (v : Int) (u : zS) => σ = u ∧ zrt g m9 = v) := by
  refine zam (by decide) (Nat.le_of_ble_eq_true rfl) ?_
  refine zwalk zmk_142 [(4, [true, true, false, true])] 2 ?_
  show zRuns 142 zX0 (fun (v : Int) (u : zS) => σ = u ∧ zrt g m9 = v) 4 [some (.inr (.inr (9, 0))), some (.inr (.inl (0 : Int))), none, some (.inl (0 : Int))] [] σ
  exact lp_wc hg hm12 h25 h53 (m9 + 2) 0 (by omega) (by omega)
theorem zrt_eq {f g : Nat → Int} {n : Nat} (hf : zlet f n) (hg : zlet g n) (h : zrt f n = zrt g n) : ∀ k, k < n → f k = g k := fun k hk => by
  rw [← zrt_dig hf hk, ← zrt_dig hg hk, h]
/-- a told reading is the word: the model's test -/
theorem zmatch {u : zS} {x y : Int} {g : Nat → Int} {m9 : Nat} (hg : zlet g m9) (hm : m9 ≤ 12) (hv : zvw x y) : (y = (m9 : Int) ∧ x = zrt g m9) ↔ zlf x y = zlc g m9 := by
  obtain ⟨f, m, a, b, c, d⟩ := hv
  rw [c, d, zlf_lc]
  constructor
  · rintro ⟨e1, e2⟩
    have em : m = m9 := by omega
    subst em
    exact zlc_congr (zrt_eq a hg e2)
  · intro e
    obtain ⟨e1, e2⟩ := zlc_inj a hg b.2 hm e
    subst e1
    exact ⟨rfl, zrt_congr e2⟩
/-- after some inks are known -/
noncomputable def zMW (σ t : zS) : Prop := zfr zMK σ t ∧ zMI t
theorem zMW.nw {σ t u : zS} {i : Int} (h : zMW σ t) (k : zNW t u i) : zMW σ u := ⟨fun q hq => by rw [k.1 q hq, h.1 q hq], k.2.1⟩
theorem zMW.MQ {σ t : zS} (h : zMW σ t) (hM : zMQ2 σ) : zMQ2 t := by
  refine ⟨zMO_fr hM.1 ⟨by rw [h.1 9 (by decide)], by rw [h.1 9 (by decide)]⟩ (h.1 42 (by decide)) (h.1 45 (by decide)) (h.1 47 (by decide)), h.2, ?_⟩
  unfold zML
  rw [h.1 9 (by decide)]
  exact hM.2.2
set_option maxRecDepth 100000 in
set_option maxHeartbeats 4000000 in
theorem lp_mf37 {i : Int} {k : Int} {c : Int} {t : zS} {g : Nat → Int} {m9 : Nat} {R : Int → zS → Prop} (hi : 0 ≤ i ∧ i < 40) (hn : 0 ≤ t 56 i ∧ t 56 i ≤ 5) (hv : ∀ x : Int, 0 ≤ x → x < t 56 i → zvw (t 58 (5 * i + x)) (t 59 (5 * i + x))) (hg : zlet g m9) (hm12 : m9 ≤ 12) (h25 : t 9 25 = (m9 : Int)) (h53 : ∀ j : Nat, j < m9 → t 53 (j : Int) = g j) (K : ∀ z : Int, ((z = 1 ∧ ∃ x : Int, 0 ≤ x ∧ x < t 56 i ∧ zlf (t 58 (5 * i + x)) (t 59 (5 * i + x)) = zlc g m9) ∨ (z = 0 ∧ ¬ ∃ x : Int, 0 ≤ x ∧ x < t 56 i ∧ zlf (t 58 (5 * i + x)) (t 59 (5 * i + x)) = zlc g m9)) → zRuns 143 zX0 R 103 [some (.inr (.inr (9, 0))), some (.inl k), some (.inl c), some (.inl i), some (.inl z), none] [] t) : ∀ (n : Nat) (j : Int) (z : Int), t 56 i + 1 - j < (n : Int) → (0 ≤ j ∧ j ≤ t 56 i) → ((z = 1 ∧ ∃ x : Int, 0 ≤ x ∧ x < j ∧ zlf (t 58 (5 * i + x)) (t 59 (5 * i + x)) = zlc g m9) ∨ (z = 0 ∧ ¬ ∃ x : Int, 0 ≤ x ∧ x < j ∧ zlf (t 58 (5 * i + x)) (t 59 (5 * i + x)) = zlc g m9)) → zRuns 143 zX0 (fun (v : Int) (u : zS) => R v u) 37 [some (.inr (.inr (9, 0))), some (.inl k), some (.inl c), some (.inl i), some (.inl z), some (.inl j)] [] t := by
  intro n
  induction n with
  | zero =>
    intro j z hn j0 hz
    exfalso
    omega
  | succ n ih =>
    intro j z hn j0 hz
    refine zwalk zmk_143 [(14, [true, true, true, true, false, false]), (37, [true, true, true, true, true, true]), (103, [true, true, true, true, true, false])] 4 ?_
    show ((0 ≤ i ∧ i < (40 : Int)) ∧ (((t 56 i) ≤ j → zRuns 143 zX0 (fun (v : Int) (u : zS) => R v u) 103 [some (.inr (.inr (9, 0))), some (.inl k), some (.inl c), some (.inl i), some (.inl z), none] [] t) ∧ (j < (t 56 i) → ((¬ z = 0 → (zI (j + (1 : Int)) ∧ zRuns 143 zX0 (fun (v : Int) (u : zS) => R v u) 37 [some (.inr (.inr (9, 0))), some (.inl k), some (.inl c), some (.inl i), some (.inl (1 : Int)), some (.inl (j + (1 : Int)))] [] t)) ∧ (z = 0 → (zI ((5 : Int) * i) ∧ (zI (((5 : Int) * i) + j) ∧ ((0 ≤ (((5 : Int) * i) + j) ∧ (((5 : Int) * i) + j) < (200 : Int)) ∧ ((¬ (t 59 (((5 : Int) * i) + j)) = (t 9 (25 : Int)) → (zI (j + (1 : Int)) ∧ zRuns 143 zX0 (fun (v : Int) (u : zS) => R v u) 37 [some (.inr (.inr (9, 0))), some (.inl k), some (.inl c), some (.inl i), some (.inl (0 : Int)), some (.inl (j + (1 : Int)))] [] t)) ∧ ((t 59 (((5 : Int) * i) + j)) = (t 9 (25 : Int)) → (zI ((5 : Int) * i) ∧ (zI (((5 : Int) * i) + j) ∧ ((0 ≤ (((5 : Int) * i) + j) ∧ (((5 : Int) * i) + j) < (200 : Int)) ∧ (∃ Rc : Int → zS → Prop, zAM 142 [.inr (.inr (9, 0))] t Rc ∧ ∀ (v1 : Int) (u1 : zS), zJ v1 → Rc v1 u1 → ((¬ (zcmp (t 58 (((5 : Int) * i) + j)) v1) = 0 → (zI (j + (1 : Int)) ∧ zRuns 143 zX0 (fun (v : Int) (u : zS) => R v u) 37 [some (.inr (.inr (9, 0))), some (.inl k), some (.inl c), some (.inl i), some (.inl (0 : Int)), some (.inl (j + (1 : Int)))] [] u1)) ∧ ((zcmp (t 58 (((5 : Int) * i) + j)) v1) = 0 → (zI (j + (1 : Int)) ∧ zRuns 143 zX0 (fun (v : Int) (u : zS) => R v u) 37 [some (.inr (.inr (9, 0))), some (.inl k), some (.inl c), some (.inl i), some (.inl (1 : Int)), some (.inl (j + (1 : Int)))] [] u1)))))))))))))))))
    have hvj : j < t 56 i → zvw (t 58 (5 * i + j)) (t 59 (5 * i + j)) := fun q => hv j j0.1 q
    refine ⟨by (first | exact ⟨by omega, by omega⟩ | (exfalso; omega)), ?_⟩
    refine ⟨?_, ?_⟩
    · intro h1
      obtain rfl : j = t 56 i := by omega
      exact K z hz
    · intro h2
      refine ⟨?_, ?_⟩
      · intro h3
        refine ⟨by (first | exact ⟨by omega, by omega⟩ | (exfalso; omega)), ?_⟩
        refine ih (j + 1) _ (by omega) ⟨by omega, by omega⟩ ?_
        exact Or.inl ⟨rfl, by rcases hz with ⟨_, x, x0, x1, e⟩ | ⟨q, _⟩ <;> first | exact ⟨x, x0, by omega, e⟩ | (exfalso; omega)⟩
      · intro h4
        refine ⟨by (first | exact ⟨by omega, by omega⟩ | (exfalso; omega)), ?_⟩
        refine ⟨by (first | exact ⟨by omega, by omega⟩ | (exfalso; omega)), ?_⟩
        refine ⟨by (first | exact ⟨by omega, by omega⟩ | (exfalso; omega)), ?_⟩
        refine ⟨?_, ?_⟩
        · intro h5
          refine ⟨by (first | exact ⟨by omega, by omega⟩ | (exfalso; omega)), ?_⟩
          refine ih (j + 1) _ (by omega) ⟨by omega, by omega⟩ ?_
          have hm := zmatch (u := t) hg hm12 (hvj (by omega))
          refine Or.inr ⟨rfl, ?_⟩
          rintro ⟨x, x0, x1, e⟩
          by_cases ex : x = j
          · rw [ex] at e
            have q9 := hm.mpr e
            omega
          · rcases hz with ⟨q, _⟩ | ⟨_, q⟩
            · omega
            · exact q ⟨x, x0, by omega, e⟩
        · intro h6
          refine ⟨by (first | exact ⟨by omega, by omega⟩ | (exfalso; omega)), ?_⟩
          refine ⟨by (first | exact ⟨by omega, by omega⟩ | (exfalso; omega)), ?_⟩
          refine ⟨by (first | exact ⟨by omega, by omega⟩ | (exfalso; omega)), ?_⟩
          refine ⟨_, am_X9_wordCode (g := g) (m9 := m9) (hg) (hm12) (h25) (h53), ?_⟩
          intro v1 u1 hv1
          intro kv1
          obtain ⟨hv1a, hv1b⟩ := hv1
          obtain ⟨rfl, w4⟩ := kv1
          refine ⟨?_, ?_⟩
          · intro h7
            simp only [zc_lt, zc_ge, zc_gt, zc_le, zc_eq] at h7
            refine ⟨by (first | exact ⟨by omega, by omega⟩ | (exfalso; omega)), ?_⟩
            refine ih (j + 1) _ (by omega) ⟨by omega, by omega⟩ ?_
            have hm := zmatch (u := t) hg hm12 (hvj (by omega))
            refine Or.inr ⟨rfl, ?_⟩
            rintro ⟨x, x0, x1, e⟩
            by_cases ex : x = j
            · rw [ex] at e
              have q9 := hm.mpr e
              omega
            · rcases hz with ⟨q, _⟩ | ⟨_, q⟩
              · omega
              · exact q ⟨x, x0, by omega, e⟩
          · intro h8
            simp only [zc_lt, zc_ge, zc_gt, zc_le, zc_eq] at h8
            refine ⟨by (first | exact ⟨by omega, by omega⟩ | (exfalso; omega)), ?_⟩
            refine ih (j + 1) _ (by omega) ⟨by omega, by omega⟩ ?_
            have hm := zmatch (u := t) hg hm12 (hvj (by omega))
            exact Or.inl ⟨rfl, j, j0.1, by omega, hm.mp ⟨by omega, by omega⟩⟩
set_option maxRecDepth 100000 in
set_option maxHeartbeats 4000000 in
theorem lp_mf103 {i k c z : Int} {t : zS} {R : Int → zS → Prop} (hi : 0 ≤ i ∧ i < 40) (hc : -1000 ≤ c ∧ c ≤ 2147483647) (K0 : z = 0 → zRuns 143 zX0 (fun (v : Int) (u : zS) => R v u) 14 [some (.inr (.inr (9, 0))), some (.inl k), some (.inl c), some (.inl (i + 1)), none, none] [] t) (K1 : ¬ z = 0 → ¬ c = 0 → zRuns 143 zX0 (fun (v : Int) (u : zS) => R v u) 14 [some (.inr (.inr (9, 0))), some (.inl k), some (.inl (c + -1)), some (.inl (i + 1)), none, none] [] t) (K2 : ¬ z = 0 → c = 0 → R i t) : zRuns 143 zX0 (fun (v : Int) (u : zS) => R v u) 103 [some (.inr (.inr (9, 0))), some (.inl k), some (.inl c), some (.inl i), some (.inl z), none] [] t := by
  refine zwalk zmk_143 [(14, [true, true, true, true, false, false]), (37, [true, true, true, true, true, true]), (103, [true, true, true, true, true, false])] 3 ?_
  show ((z = 0 → (zI (i + (1 : Int)) ∧ zRuns 143 zX0 (fun (v : Int) (u : zS) => R v u) 14 [some (.inr (.inr (9, 0))), some (.inl k), some (.inl c), some (.inl (i + (1 : Int))), none, none] [] t)) ∧ (¬ z = 0 → ((¬ c = 0 → (zI (c + (-1 : Int)) ∧ (zI (i + (1 : Int)) ∧ zRuns 143 zX0 (fun (v : Int) (u : zS) => R v u) 14 [some (.inr (.inr (9, 0))), some (.inl k), some (.inl (c + (-1 : Int))), some (.inl (i + (1 : Int))), none, none] [] t))) ∧ (c = 0 → (R i t)))))
  refine ⟨?_, ?_⟩
  · intro h1
    refine ⟨by (first | exact ⟨by omega, by omega⟩ | (exfalso; omega)), ?_⟩
    exact K0 (by assumption)
  · intro h2
    refine ⟨?_, ?_⟩
    · intro h3
      refine ⟨by (first | exact ⟨by omega, by omega⟩ | (exfalso; omega)), ?_⟩
      refine ⟨by (first | exact ⟨by omega, by omega⟩ | (exfalso; omega)), ?_⟩
      exact K1 (by assumption) (by assumption)
    · intro h4
      exact K2 (by assumption) (by assumption)
set_option maxRecDepth 100000 in
set_option maxHeartbeats 4000000 in
theorem lp_mf14 {k : Int} {g : Nat → Int} {m9 : Nat} {σ : zS} (hM : zMQ2 σ) (hg : zlet g m9) (hm12 : m9 ≤ 12) (h25 : σ 9 25 = (m9 : Int)) (h53 : ∀ j : Nat, j < m9 → σ 53 (j : Int) = g j) (h0 : ¬ σ 9 25 = 0) (hkr : -2147483648 ≤ k ∧ k ≤ 2147483647) : ∀ (n : Nat) (i : Int) (t : zS), σ 9 13 + 1 - i < (n : Int) → (0 ≤ i ∧ i ≤ σ 9 13) → (zMW σ t) → (∀ j : Int, 0 ≤ j → j < i → (fun i => zTLD (zSD (zmft σ i) (zPM σ) (zmq σ i)) (zlc g m9)) j → ¬ zcT (fun i => zTLD (zSD (zmft σ i) (zPM σ) (zmq σ i)) (zlc g m9)) j.toNat = k) → zRuns 143 zX0 (fun (v : Int) (u : zS) => (σ 9 25 = 0 ∧ σ = u ∧ -1000002 = v) ∨ (¬ σ 9 25 = 0 ∧ zMW σ u ∧ zFN (fun i => zTLD (zSD (zmft σ i) (zPM σ) (zmq σ i)) (zlc g m9)) (σ 9 13) k v)) 14 [some (.inr (.inr (9, 0))), some (.inl k), some (.inl (k - zcT (fun i => zTLD (zSD (zmft σ i) (zPM σ) (zmq σ i)) (zlc g m9)) i.toNat)), some (.inl i), none, none] [] t := by
  intro n
  induction n with
  | zero =>
    intro i t hn i0 hT hno
    exfalso
    omega
  | succ n ih =>
    intro i t hn i0 hT hno
    refine zwalk zmk_143 [(14, [true, true, true, true, false, false]), (37, [true, true, true, true, true, true]), (103, [true, true, true, true, true, false])] 3 ?_
    show (((t 9 (13 : Int)) ≤ i → ((σ 9 25 = 0 ∧ σ = t ∧ -1000002 = (-1000000 : Int)) ∨ (¬ σ 9 25 = 0 ∧ zMW σ t ∧ zFN (fun i => zTLD (zSD (zmft σ i) (zPM σ) (zmq σ i)) (zlc g m9)) (σ 9 13) k (-1000000 : Int)))) ∧ (i < (t 9 (13 : Int)) → ((k < 0 → ((σ 9 25 = 0 ∧ σ = t ∧ -1000002 = (-1000000 : Int)) ∨ (¬ σ 9 25 = 0 ∧ zMW σ t ∧ zFN (fun i => zTLD (zSD (zmft σ i) (zPM σ) (zmq σ i)) (zlc g m9)) (σ 9 13) k (-1000000 : Int)))) ∧ (0 ≤ k → (∃ Rc : Int → zS → Prop, zAM 139 [.inr (.inr (9, 0)), .inl i] t Rc ∧ ∀ (u1 : zS), Rc 0 u1 → zRuns 143 zX0 (fun (v : Int) (u : zS) => (σ 9 25 = 0 ∧ σ = u ∧ -1000002 = v) ∨ (¬ σ 9 25 = 0 ∧ zMW σ u ∧ zFN (fun i => zTLD (zSD (zmft σ i) (zPM σ) (zmq σ i)) (zlc g m9)) (σ 9 13) k v)) 37 [some (.inr (.inr (9, 0))), some (.inl k), some (.inl (k - zcT (fun i => zTLD (zSD (zmft σ i) (zPM σ) (zmq σ i)) (zlc g m9)) i.toNat)), some (.inl i), some (.inl (0 : Int)), some (.inl (0 : Int))] [] u1)))))
    have h13 := hM.1.1
    have e9 : t 9 = σ 9 := hT.1 9 (by decide)
    have e913 : t 9 13 = σ 9 13 := by rw [e9]
    have hMt := hT.MQ hM
    have hfe := zmft_fr (σ := σ) (t := t) (i := i) (hT.1 42 (by decide)) (hT.1 43 (by decide)) (hT.1 45 (by decide)) (hT.1 47 (by decide))
    have hcr := zcT_r (T := (fun i => zTLD (zSD (zmft σ i) (zPM σ) (zmq σ i)) (zlc g m9))) (n := i.toNat)
    have hns : (i + 1).toNat = i.toNat + 1 := by omega
    have hii : ((i.toNat : Nat) : Int) = i := by omega
    refine ⟨?_, ?_⟩
    · intro h1
      exact Or.inr ⟨h0, hT, Or.inr ⟨fun j j0 j1 => by first | exact hno j j0 (by omega) | (intro _; have h8 := zcT_r (T := (fun i => zTLD (zSD (zmft σ i) (zPM σ) (zmq σ i)) (zlc g m9))) (n := j.toNat); omega), rfl⟩⟩
    · intro h2
      refine ⟨?_, ?_⟩
      · intro h3
        exact Or.inr ⟨h0, hT, Or.inr ⟨fun j j0 j1 => by first | exact hno j j0 (by omega) | (intro _; have h8 := zcT_r (T := (fun i => zTLD (zSD (zmft σ i) (zPM σ) (zmq σ i)) (zlc g m9))) (n := j.toNat); omega), rfl⟩⟩
      · intro h4
        refine ⟨_, am_know (hMt.1) (by rw [e913]; omega), ?_⟩
        intro u1
        intro kv1
        have hN := zKNR_nw hMt.2.1 (by rw [e913]; omega) kv1
        have hD := hN.2.2.1.1
        have hn9 := hD.1
        rw [hfe.1, hfe.2.1, hfe.2.2] at hD
        have hti := zTLD_iff (x := zlc g m9) hD
        have hW := hT.nw hN
        have f9 : u1 9 = σ 9 := hW.1 9 (by decide)
        refine lp_mf37 (by omega) hn9 (fun x x0 x1 => hN.2.2.1.2 x x0 x1) hg hm12 (by rw [f9]; exact h25) (fun j hj => by rw [hW.1 53 (by decide)]; exact h53 j hj) (fun z hz => ?_) 7 0 0 (by omega) ⟨by omega, by omega⟩ (Or.inr ⟨rfl, fun ⟨x, x0, x1, _⟩ => by omega⟩)
        have hz2 : (z = 1 ∧ (fun i => zTLD (zSD (zmft σ i) (zPM σ) (zmq σ i)) (zlc g m9)) i) ∨ (z = 0 ∧ ¬ (fun i => zTLD (zSD (zmft σ i) (zPM σ) (zmq σ i)) (zlc g m9)) i) := by
          rcases hz with ⟨a, b⟩ | ⟨a, b⟩
          · exact Or.inl ⟨a, hti.mpr b⟩
          · exact Or.inr ⟨a, fun q => b (hti.mp q)⟩
        refine lp_mf103 (by omega) (by omega) (fun q => ?_) (fun q q2 => ?_) (fun q q2 => ?_)
        · have hno2 : ¬ (fun i => zTLD (zSD (zmft σ i) (zPM σ) (zmq σ i)) (zlc g m9)) i := by rcases hz2 with ⟨a, b⟩ | ⟨a, b⟩ <;> first | exact b | (exfalso; omega)
          have hI := ih (i + 1) u1 (by omega) ⟨by omega, by omega⟩ hW (fun j j0 j1 => ?_)
          · rw [hns, zcT_no (T := (fun i => zTLD (zSD (zmft σ i) (zPM σ) (zmq σ i)) (zlc g m9))) (n := i.toNat) (by rw [hii]; exact hno2)] at hI
            exact hI
          · by_cases e : j = i
            · rw [e]; exact fun z => absurd z hno2
            · exact hno j j0 (by omega)
        · have hyes : (fun i => zTLD (zSD (zmft σ i) (zPM σ) (zmq σ i)) (zlc g m9)) i := by rcases hz2 with ⟨a, b⟩ | ⟨a, b⟩ <;> first | exact b | (exfalso; omega)
          have hI := ih (i + 1) u1 (by omega) ⟨by omega, by omega⟩ hW (fun j j0 j1 => ?_)
          · rw [hns, zcT_yes (T := (fun i => zTLD (zSD (zmft σ i) (zPM σ) (zmq σ i)) (zlc g m9))) (n := i.toNat) (by rw [hii]; exact hyes), show ∀ c : Int, k - (c + 1) = k - c + -1 from fun c => by omega] at hI
            exact hI
          · by_cases e : j = i
            · rw [e]; intro _; omega
            · exact hno j j0 (by omega)
        · have hyes : (fun i => zTLD (zSD (zmft σ i) (zPM σ) (zmq σ i)) (zlc g m9)) i := by rcases hz2 with ⟨a, b⟩ | ⟨a, b⟩ <;> first | exact b | (exfalso; omega)
          exact Or.inr ⟨h0, hW, Or.inl ⟨i, i0.1, by omega, hyes, by omega, rfl⟩⟩
set_option maxRecDepth 100000 in
set_option maxHeartbeats 4000000 in
theorem am_X9_find {σ : zS} {k : Int} {g : Nat → Int} {m9 : Nat} (hM : zMQ2 σ) (hg : zlet g m9) (hm12 : m9 ≤ 12) (h25 : σ 9 25 = (m9 : Int)) (h53 : ∀ j : Nat, j < m9 → σ 53 (j : Int) = g j) : zAM 143 [.inr (.inr (9, 0)), .inl k] σ (fun (v : Int) (u : zS) => (σ 9 25 = 0 ∧ σ = u ∧ -1000002 = v) ∨ (¬ σ 9 25 = 0 ∧ zMW σ u ∧ zFN (fun i => zTLD (zSD (zmft σ i) (zPM σ) (zmq σ i)) (zlc g m9)) (σ 9 13) k v)) := by
  refine zam (by decide) (Nat.le_of_ble_eq_true rfl) ?_
  refine zRuns.wf (fun hw hL => ?_)
  refine zwalk zmk_143 [(14, [true, true, true, true, false, false]), (37, [true, true, true, true, true, true]), (103, [true, true, true, true, true, false])] 3 ?_
  show ((¬ (σ 9 (25 : Int)) = 0 → zRuns 143 zX0 (fun (v : Int) (u : zS) => (σ 9 25 = 0 ∧ σ = u ∧ -1000002 = v) ∨ (¬ σ 9 25 = 0 ∧ zMW σ u ∧ zFN (fun i => zTLD (zSD (zmft σ i) (zPM σ) (zmq σ i)) (zlc g m9)) (σ 9 13) k v)) 14 [some (.inr (.inr (9, 0))), some (.inl k), some (.inl k), some (.inl (0 : Int)), none, none] [] σ) ∧ ((σ 9 (25 : Int)) = 0 → ((σ 9 25 = 0 ∧ σ = σ ∧ -1000002 = (-1000002 : Int)) ∨ (¬ σ 9 25 = 0 ∧ zMW σ σ ∧ zFN (fun i => zTLD (zSD (zmft σ i) (zPM σ) (zmq σ i)) (zlc g m9)) (σ 9 13) k (-1000002 : Int)))))
  have hk9 : zI k := hL 1 (.inl k) rfl
  obtain ⟨hk8, hk7⟩ := hk9
  refine ⟨?_, ?_⟩
  · intro h1
    have h13 := hM.1.1
    have hI := lp_mf14 hM hg hm12 h25 h53 (by assumption) (k := k) ⟨by omega, by omega⟩ ((σ 9 13).toNat + 2) 0 σ (by omega) ⟨by omega, by omega⟩ ⟨zfr.rf, hM.2.1⟩ (fun j j0 j1 => by omega)
    rw [show k - zcT (fun i => zTLD (zSD (zmft σ i) (zPM σ) (zmq σ i)) (zlc g m9)) (0 : Int).toNat = k from Int.sub_zero k] at hI
    exact hI
  · intro h2
    exact Or.inl ⟨by omega, rfl, rfl⟩
