/-! the law's loop -/
set_option maxRecDepth 100000 in
set_option maxHeartbeats 16000000 in
theorem lp_law {X : zX} (hX : 0 ≤ X.1 ∧ X.1 ≤ 3584) : ∀ (n : Nat) (at9 k : Int) (σ : zS), 3600 - at9 < (n : Int) → (at9 = 7 * k ∧ 0 ≤ k ∧ at9 ≤ 3590) → zRel k σ → zRuns 159 X (fun (v : Int) (_ : zS) => v = 1) 18 [some (.inr (.inr (1000, 0))), some (.inr (.inr (0, 0))), some (.inr (.inr (9, 0))), some (.inl at9)] [] σ := by
  intro n
  induction n with
  | zero => intro at9 k σ h0 h1 hrel; exfalso; omega
  | succ n ih =>
    intro at9 k σ h0 ha hrel
    refine zwalk zmk_159 [(18, [true, true, true, true])] 4 ?_
    show (0 ≤ (X).1 ∧ (zI ((X).1 - (7 : Int)) ∧ ((((X).1 - (7 : Int)) < at9 → (((1 : Int) = 0 ∨ (1 : Int) = 1) ∧ ((1 : Int) = 1))) ∧ (at9 ≤ ((X).1 - (7 : Int)) → ((0 ≤ at9 ∧ at9 < (X).1) ∧ ((((Int32.ofInt ((X).2 at9) &&& Int32.ofInt (31 : Int)).toInt = (0 : Int) → (zI (at9 + (1 : Int)) ∧ ((0 ≤ (at9 + (1 : Int)) ∧ (at9 + (1 : Int)) < (X).1) ∧ (zI (at9 + (2 : Int)) ∧ ((0 ≤ (at9 + (2 : Int)) ∧ (at9 + (2 : Int)) < (X).1) ∧ (zI (at9 + (3 : Int)) ∧ ((0 ≤ (at9 + (3 : Int)) ∧ (at9 + (3 : Int)) < (X).1) ∧ (∃ Rc : Int → zS → Prop, zAM 50 [.inr (.inr (0, 0)), .inl ((X).2 (at9 + (1 : Int))), .inl ((X).2 (at9 + (2 : Int))), .inl ((X).2 (at9 + (3 : Int)))] σ Rc ∧ ∀ (v51 : Int) (u51 : zS), zI v51 → Rc v51 u51 → (zI (at9 + (1 : Int)) ∧ ((0 ≤ (at9 + (1 : Int)) ∧ (at9 + (1 : Int)) < (X).1) ∧ (zI (at9 + (2 : Int)) ∧ ((0 ≤ (at9 + (2 : Int)) ∧ (at9 + (2 : Int)) < (X).1) ∧ (zI (at9 + (3 : Int)) ∧ ((0 ≤ (at9 + (3 : Int)) ∧ (at9 + (3 : Int)) < (X).1) ∧ (∃ Rc : Int → zS → Prop, zAM 107 [.inr (.inr (9, 0)), .inl ((X).2 (at9 + (1 : Int))), .inl ((X).2 (at9 + (2 : Int))), .inl ((X).2 (at9 + (3 : Int)))] u51 Rc ∧ ∀ (v52 : Int) (u52 : zS), zI v52 → Rc v52 u52 → ((v51 = v52 → (zI (at9 + (7 : Int)) ∧ zRuns 159 X (fun (v : Int) (u : zS) => v = 1) 18 [some (.inr (.inr (1000, 0))), some (.inr (.inr (0, 0))), some (.inr (.inr (9, 0))), some (.inl (at9 + (7 : Int)))] [] u52)) ∧ (¬ v51 = v52 → (((0 : Int) = 0 ∨ (0 : Int) = 1) ∧ ((0 : Int) = 1))))))))))))))))))) ∧ (((Int32.ofInt ((X).2 at9) &&& Int32.ofInt (31 : Int)).toInt = (1 : Int) → (zI (at9 + (1 : Int)) ∧ ((0 ≤ (at9 + (1 : Int)) ∧ (at9 + (1 : Int)) < (X).1) ∧ (zI (at9 + (2 : Int)) ∧ ((0 ≤ (at9 + (2 : Int)) ∧ (at9 + (2 : Int)) < (X).1) ∧ (zI (at9 + (3 : Int)) ∧ ((0 ≤ (at9 + (3 : Int)) ∧ (at9 + (3 : Int)) < (X).1) ∧ (∃ Rc : Int → zS → Prop, zAM 51 [.inr (.inr (0, 0)), .inl ((X).2 (at9 + (1 : Int))), .inl ((X).2 (at9 + (2 : Int))), .inl ((X).2 (at9 + (3 : Int)))] σ Rc ∧ ∀ (v49 : Int) (u49 : zS), zI v49 → Rc v49 u49 → (zI (at9 + (1 : Int)) ∧ ((0 ≤ (at9 + (1 : Int)) ∧ (at9 + (1 : Int)) < (X).1) ∧ (zI (at9 + (2 : Int)) ∧ ((0 ≤ (at9 + (2 : Int)) ∧ (at9 + (2 : Int)) < (X).1) ∧ (zI (at9 + (3 : Int)) ∧ ((0 ≤ (at9 + (3 : Int)) ∧ (at9 + (3 : Int)) < (X).1) ∧ (∃ Rc : Int → zS → Prop, zAM 108 [.inr (.inr (9, 0)), .inl ((X).2 (at9 + (1 : Int))), .inl ((X).2 (at9 + (2 : Int))), .inl ((X).2 (at9 + (3 : Int)))] u49 Rc ∧ ∀ (v50 : Int) (u50 : zS), zI v50 → Rc v50 u50 → ((v49 = v50 → (zI (at9 + (7 : Int)) ∧ zRuns 159 X (fun (v : Int) (u : zS) => v = 1) 18 [some (.inr (.inr (1000, 0))), some (.inr (.inr (0, 0))), some (.inr (.inr (9, 0))), some (.inl (at9 + (7 : Int)))] [] u50)) ∧ (¬ v49 = v50 → (((0 : Int) = 0 ∨ (0 : Int) = 1) ∧ ((0 : Int) = 1))))))))))))))))))) ∧ (((Int32.ofInt ((X).2 at9) &&& Int32.ofInt (31 : Int)).toInt = (2 : Int) → (zI (at9 + (1 : Int)) ∧ ((0 ≤ (at9 + (1 : Int)) ∧ (at9 + (1 : Int)) < (X).1) ∧ (zI (at9 + (2 : Int)) ∧ ((0 ≤ (at9 + (2 : Int)) ∧ (at9 + (2 : Int)) < (X).1) ∧ (zI (at9 + (3 : Int)) ∧ ((0 ≤ (at9 + (3 : Int)) ∧ (at9 + (3 : Int)) < (X).1) ∧ (zI (at9 + (4 : Int)) ∧ ((0 ≤ (at9 + (4 : Int)) ∧ (at9 + (4 : Int)) < (X).1) ∧ (zI (at9 + (5 : Int)) ∧ ((0 ≤ (at9 + (5 : Int)) ∧ (at9 + (5 : Int)) < (X).1) ∧ (∃ Rc : Int → zS → Prop, zAM 52 [.inr (.inr (0, 0)), .inl ((X).2 (at9 + (1 : Int))), .inl ((X).2 (at9 + (2 : Int))), .inl ((X).2 (at9 + (3 : Int))), .inl ((X).2 (at9 + (4 : Int))), .inl ((X).2 (at9 + (5 : Int)))] σ Rc ∧ ∀ (v47 : Int) (u47 : zS), zI v47 → Rc v47 u47 → (zI (at9 + (1 : Int)) ∧ ((0 ≤ (at9 + (1 : Int)) ∧ (at9 + (1 : Int)) < (X).1) ∧ (zI (at9 + (2 : Int)) ∧ ((0 ≤ (at9 + (2 : Int)) ∧ (at9 + (2 : Int)) < (X).1) ∧ (zI (at9 + (3 : Int)) ∧ ((0 ≤ (at9 + (3 : Int)) ∧ (at9 + (3 : Int)) < (X).1) ∧ (zI (at9 + (4 : Int)) ∧ ((0 ≤ (at9 + (4 : Int)) ∧ (at9 + (4 : Int)) < (X).1) ∧ (zI (at9 + (5 : Int)) ∧ ((0 ≤ (at9 + (5 : Int)) ∧ (at9 + (5 : Int)) < (X).1) ∧ (∃ Rc : Int → zS → Prop, zAM 109 [.inr (.inr (9, 0)), .inl ((X).2 (at9 + (1 : Int))), .inl ((X).2 (at9 + (2 : Int))), .inl ((X).2 (at9 + (3 : Int))), .inl ((X).2 (at9 + (4 : Int))), .inl ((X).2 (at9 + (5 : Int)))] u47 Rc ∧ ∀ (v48 : Int) (u48 : zS), zI v48 → Rc v48 u48 → ((v47 = v48 → (zI (at9 + (7 : Int)) ∧ zRuns 159 X (fun (v : Int) (u : zS) => v = 1) 18 [some (.inr (.inr (1000, 0))), some (.inr (.inr (0, 0))), some (.inr (.inr (9, 0))), some (.inl (at9 + (7 : Int)))] [] u48)) ∧ (¬ v47 = v48 → (((0 : Int) = 0 ∨ (0 : Int) = 1) ∧ ((0 : Int) = 1))))))))))))))))))))))))))) ∧ (((Int32.ofInt ((X).2 at9) &&& Int32.ofInt (31 : Int)).toInt = (3 : Int) → (zI (at9 + (1 : Int)) ∧ ((0 ≤ (at9 + (1 : Int)) ∧ (at9 + (1 : Int)) < (X).1) ∧ (∃ Rc : Int → zS → Prop, zAM 53 [.inr (.inr (0, 0)), .inl ((X).2 (at9 + (1 : Int)))] σ Rc ∧ ∀ (v45 : Int) (u45 : zS), zI v45 → Rc v45 u45 → (zI (at9 + (1 : Int)) ∧ ((0 ≤ (at9 + (1 : Int)) ∧ (at9 + (1 : Int)) < (X).1) ∧ (∃ Rc : Int → zS → Prop, zAM 110 [.inr (.inr (9, 0)), .inl ((X).2 (at9 + (1 : Int)))] u45 Rc ∧ ∀ (v46 : Int) (u46 : zS), zI v46 → Rc v46 u46 → ((v45 = v46 → (zI (at9 + (7 : Int)) ∧ zRuns 159 X (fun (v : Int) (u : zS) => v = 1) 18 [some (.inr (.inr (1000, 0))), some (.inr (.inr (0, 0))), some (.inr (.inr (9, 0))), some (.inl (at9 + (7 : Int)))] [] u46)) ∧ (¬ v45 = v46 → (((0 : Int) = 0 ∨ (0 : Int) = 1) ∧ ((0 : Int) = 1))))))))))) ∧ (((Int32.ofInt ((X).2 at9) &&& Int32.ofInt (31 : Int)).toInt = (4 : Int) → (zI (at9 + (1 : Int)) ∧ ((0 ≤ (at9 + (1 : Int)) ∧ (at9 + (1 : Int)) < (X).1) ∧ (zI (at9 + (2 : Int)) ∧ ((0 ≤ (at9 + (2 : Int)) ∧ (at9 + (2 : Int)) < (X).1) ∧ (zI (at9 + (3 : Int)) ∧ ((0 ≤ (at9 + (3 : Int)) ∧ (at9 + (3 : Int)) < (X).1) ∧ (∃ Rc : Int → zS → Prop, zAM 54 [.inr (.inr (0, 0)), .inl ((X).2 (at9 + (1 : Int))), .inl ((X).2 (at9 + (2 : Int))), .inl ((X).2 (at9 + (3 : Int)))] σ Rc ∧ ∀ (v43 : Int) (u43 : zS), zI v43 → Rc v43 u43 → (zI (at9 + (1 : Int)) ∧ ((0 ≤ (at9 + (1 : Int)) ∧ (at9 + (1 : Int)) < (X).1) ∧ (zI (at9 + (2 : Int)) ∧ ((0 ≤ (at9 + (2 : Int)) ∧ (at9 + (2 : Int)) < (X).1) ∧ (zI (at9 + (3 : Int)) ∧ ((0 ≤ (at9 + (3 : Int)) ∧ (at9 + (3 : Int)) < (X).1) ∧ (∃ Rc : Int → zS → Prop, zAM 114 [.inr (.inr (9, 0)), .inl ((X).2 (at9 + (1 : Int))), .inl ((X).2 (at9 + (2 : Int))), .inl ((X).2 (at9 + (3 : Int)))] u43 Rc ∧ ∀ (v44 : Int) (u44 : zS), zI v44 → Rc v44 u44 → ((v43 = v44 → (zI (at9 + (7 : Int)) ∧ zRuns 159 X (fun (v : Int) (u : zS) => v = 1) 18 [some (.inr (.inr (1000, 0))), some (.inr (.inr (0, 0))), some (.inr (.inr (9, 0))), some (.inl (at9 + (7 : Int)))] [] u44)) ∧ (¬ v43 = v44 → (((0 : Int) = 0 ∨ (0 : Int) = 1) ∧ ((0 : Int) = 1))))))))))))))))))) ∧ (((Int32.ofInt ((X).2 at9) &&& Int32.ofInt (31 : Int)).toInt = (5 : Int) → (zI (at9 + (1 : Int)) ∧ ((0 ≤ (at9 + (1 : Int)) ∧ (at9 + (1 : Int)) < (X).1) ∧ (∃ Rc : Int → zS → Prop, zAM 55 [.inr (.inr (0, 0)), .inl ((X).2 (at9 + (1 : Int)))] σ Rc ∧ ∀ (v41 : Int) (u41 : zS), zI v41 → Rc v41 u41 → (zI (at9 + (1 : Int)) ∧ ((0 ≤ (at9 + (1 : Int)) ∧ (at9 + (1 : Int)) < (X).1) ∧ (∃ Rc : Int → zS → Prop, zAM 115 [.inr (.inr (9, 0)), .inl ((X).2 (at9 + (1 : Int)))] u41 Rc ∧ ∀ (v42 : Int) (u42 : zS), zI v42 → Rc v42 u42 → ((v41 = v42 → (zI (at9 + (7 : Int)) ∧ zRuns 159 X (fun (v : Int) (u : zS) => v = 1) 18 [some (.inr (.inr (1000, 0))), some (.inr (.inr (0, 0))), some (.inr (.inr (9, 0))), some (.inl (at9 + (7 : Int)))] [] u42)) ∧ (¬ v41 = v42 → (((0 : Int) = 0 ∨ (0 : Int) = 1) ∧ ((0 : Int) = 1))))))))))) ∧ (((Int32.ofInt ((X).2 at9) &&& Int32.ofInt (31 : Int)).toInt = (6 : Int) → (zI (at9 + (1 : Int)) ∧ ((0 ≤ (at9 + (1 : Int)) ∧ (at9 + (1 : Int)) < (X).1) ∧ (zI (at9 + (2 : Int)) ∧ ((0 ≤ (at9 + (2 : Int)) ∧ (at9 + (2 : Int)) < (X).1) ∧ (∃ Rc : Int → zS → Prop, zAM 56 [.inr (.inr (0, 0)), .inl ((X).2 (at9 + (1 : Int))), .inl ((X).2 (at9 + (2 : Int)))] σ Rc ∧ ∀ (v39 : Int) (u39 : zS), zI v39 → Rc v39 u39 → (zI (at9 + (1 : Int)) ∧ ((0 ≤ (at9 + (1 : Int)) ∧ (at9 + (1 : Int)) < (X).1) ∧ (zI (at9 + (2 : Int)) ∧ ((0 ≤ (at9 + (2 : Int)) ∧ (at9 + (2 : Int)) < (X).1) ∧ (∃ Rc : Int → zS → Prop, zAM 118 [.inr (.inr (9, 0)), .inl ((X).2 (at9 + (1 : Int))), .inl ((X).2 (at9 + (2 : Int)))] u39 Rc ∧ ∀ (v40 : Int) (u40 : zS), zI v40 → Rc v40 u40 → ((v39 = v40 → (zI (at9 + (7 : Int)) ∧ zRuns 159 X (fun (v : Int) (u : zS) => v = 1) 18 [some (.inr (.inr (1000, 0))), some (.inr (.inr (0, 0))), some (.inr (.inr (9, 0))), some (.inl (at9 + (7 : Int)))] [] u40)) ∧ (¬ v39 = v40 → (((0 : Int) = 0 ∨ (0 : Int) = 1) ∧ ((0 : Int) = 1))))))))))))))) ∧ (((Int32.ofInt ((X).2 at9) &&& Int32.ofInt (31 : Int)).toInt = (7 : Int) → (zI (at9 + (1 : Int)) ∧ ((0 ≤ (at9 + (1 : Int)) ∧ (at9 + (1 : Int)) < (X).1) ∧ (zI (at9 + (2 : Int)) ∧ ((0 ≤ (at9 + (2 : Int)) ∧ (at9 + (2 : Int)) < (X).1) ∧ (zI (at9 + (3 : Int)) ∧ ((0 ≤ (at9 + (3 : Int)) ∧ (at9 + (3 : Int)) < (X).1) ∧ (∃ Rc : Int → zS → Prop, zAM 57 [.inr (.inr (0, 0)), .inl ((X).2 (at9 + (1 : Int))), .inl ((X).2 (at9 + (2 : Int))), .inl ((X).2 (at9 + (3 : Int)))] σ Rc ∧ ∀ (v37 : Int) (u37 : zS), zI v37 → Rc v37 u37 → (zI (at9 + (1 : Int)) ∧ ((0 ≤ (at9 + (1 : Int)) ∧ (at9 + (1 : Int)) < (X).1) ∧ (zI (at9 + (2 : Int)) ∧ ((0 ≤ (at9 + (2 : Int)) ∧ (at9 + (2 : Int)) < (X).1) ∧ (zI (at9 + (3 : Int)) ∧ ((0 ≤ (at9 + (3 : Int)) ∧ (at9 + (3 : Int)) < (X).1) ∧ (∃ Rc : Int → zS → Prop, zAM 119 [.inr (.inr (9, 0)), .inl ((X).2 (at9 + (1 : Int))), .inl ((X).2 (at9 + (2 : Int))), .inl ((X).2 (at9 + (3 : Int)))] u37 Rc ∧ ∀ (v38 : Int) (u38 : zS), zI v38 → Rc v38 u38 → ((v37 = v38 → (zI (at9 + (7 : Int)) ∧ zRuns 159 X (fun (v : Int) (u : zS) => v = 1) 18 [some (.inr (.inr (1000, 0))), some (.inr (.inr (0, 0))), some (.inr (.inr (9, 0))), some (.inl (at9 + (7 : Int)))] [] u38)) ∧ (¬ v37 = v38 → (((0 : Int) = 0 ∨ (0 : Int) = 1) ∧ ((0 : Int) = 1))))))))))))))))))) ∧ (((Int32.ofInt ((X).2 at9) &&& Int32.ofInt (31 : Int)).toInt = (8 : Int) → (∃ Rc : Int → zS → Prop, zAM 58 [.inr (.inr (0, 0))] σ Rc ∧ ∀ (v35 : Int) (u35 : zS), zI v35 → Rc v35 u35 → (∃ Rc : Int → zS → Prop, zAM 120 [.inr (.inr (9, 0))] u35 Rc ∧ ∀ (v36 : Int) (u36 : zS), zI v36 → Rc v36 u36 → ((v35 = v36 → (zI (at9 + (7 : Int)) ∧ zRuns 159 X (fun (v : Int) (u : zS) => v = 1) 18 [some (.inr (.inr (1000, 0))), some (.inr (.inr (0, 0))), some (.inr (.inr (9, 0))), some (.inl (at9 + (7 : Int)))] [] u36)) ∧ (¬ v35 = v36 → (((0 : Int) = 0 ∨ (0 : Int) = 1) ∧ ((0 : Int) = 1))))))) ∧ (((Int32.ofInt ((X).2 at9) &&& Int32.ofInt (31 : Int)).toInt = (9 : Int) → (zI (at9 + (1 : Int)) ∧ ((0 ≤ (at9 + (1 : Int)) ∧ (at9 + (1 : Int)) < (X).1) ∧ (zI (at9 + (2 : Int)) ∧ ((0 ≤ (at9 + (2 : Int)) ∧ (at9 + (2 : Int)) < (X).1) ∧ (zI (at9 + (3 : Int)) ∧ ((0 ≤ (at9 + (3 : Int)) ∧ (at9 + (3 : Int)) < (X).1) ∧ (zI (at9 + (4 : Int)) ∧ ((0 ≤ (at9 + (4 : Int)) ∧ (at9 + (4 : Int)) < (X).1) ∧ (zI (at9 + (5 : Int)) ∧ ((0 ≤ (at9 + (5 : Int)) ∧ (at9 + (5 : Int)) < (X).1) ∧ (zI (at9 + (6 : Int)) ∧ ((0 ≤ (at9 + (6 : Int)) ∧ (at9 + (6 : Int)) < (X).1) ∧ (∃ Rc : Int → zS → Prop, zAM 59 [.inr (.inr (0, 0)), .inl ((X).2 (at9 + (1 : Int))), .inl ((X).2 (at9 + (2 : Int))), .inl ((X).2 (at9 + (3 : Int))), .inl ((X).2 (at9 + (4 : Int))), .inl ((X).2 (at9 + (5 : Int))), .inl ((X).2 (at9 + (6 : Int)))] σ Rc ∧ ∀ (v33 : Int) (u33 : zS), zI v33 → Rc v33 u33 → (zI (at9 + (1 : Int)) ∧ ((0 ≤ (at9 + (1 : Int)) ∧ (at9 + (1 : Int)) < (X).1) ∧ (zI (at9 + (2 : Int)) ∧ ((0 ≤ (at9 + (2 : Int)) ∧ (at9 + (2 : Int)) < (X).1) ∧ (zI (at9 + (3 : Int)) ∧ ((0 ≤ (at9 + (3 : Int)) ∧ (at9 + (3 : Int)) < (X).1) ∧ (zI (at9 + (4 : Int)) ∧ ((0 ≤ (at9 + (4 : Int)) ∧ (at9 + (4 : Int)) < (X).1) ∧ (zI (at9 + (5 : Int)) ∧ ((0 ≤ (at9 + (5 : Int)) ∧ (at9 + (5 : Int)) < (X).1) ∧ (zI (at9 + (6 : Int)) ∧ ((0 ≤ (at9 + (6 : Int)) ∧ (at9 + (6 : Int)) < (X).1) ∧ (∃ Rc : Int → zS → Prop, zAM 125 [.inr (.inr (9, 0)), .inl ((X).2 (at9 + (1 : Int))), .inl ((X).2 (at9 + (2 : Int))), .inl ((X).2 (at9 + (3 : Int))), .inl ((X).2 (at9 + (4 : Int))), .inl ((X).2 (at9 + (5 : Int))), .inl ((X).2 (at9 + (6 : Int)))] u33 Rc ∧ ∀ (v34 : Int) (u34 : zS), zI v34 → Rc v34 u34 → ((v33 = v34 → (zI (at9 + (7 : Int)) ∧ zRuns 159 X (fun (v : Int) (u : zS) => v = 1) 18 [some (.inr (.inr (1000, 0))), some (.inr (.inr (0, 0))), some (.inr (.inr (9, 0))), some (.inl (at9 + (7 : Int)))] [] u34)) ∧ (¬ v33 = v34 → (((0 : Int) = 0 ∨ (0 : Int) = 1) ∧ ((0 : Int) = 1))))))))))))))))))))))))))))))) ∧ (((Int32.ofInt ((X).2 at9) &&& Int32.ofInt (31 : Int)).toInt = (10 : Int) → (zI (at9 + (1 : Int)) ∧ ((0 ≤ (at9 + (1 : Int)) ∧ (at9 + (1 : Int)) < (X).1) ∧ (zI (at9 + (2 : Int)) ∧ ((0 ≤ (at9 + (2 : Int)) ∧ (at9 + (2 : Int)) < (X).1) ∧ (zI (at9 + (3 : Int)) ∧ ((0 ≤ (at9 + (3 : Int)) ∧ (at9 + (3 : Int)) < (X).1) ∧ (zI (at9 + (4 : Int)) ∧ ((0 ≤ (at9 + (4 : Int)) ∧ (at9 + (4 : Int)) < (X).1) ∧ (zI (at9 + (5 : Int)) ∧ ((0 ≤ (at9 + (5 : Int)) ∧ (at9 + (5 : Int)) < (X).1) ∧ (∃ Rc : Int → zS → Prop, zAM 60 [.inr (.inr (0, 0)), .inl ((X).2 (at9 + (1 : Int))), .inl ((X).2 (at9 + (2 : Int))), .inl ((X).2 (at9 + (3 : Int))), .inl ((X).2 (at9 + (4 : Int))), .inl ((X).2 (at9 + (5 : Int)))] σ Rc ∧ ∀ (v31 : Int) (u31 : zS), zI v31 → Rc v31 u31 → (zI (at9 + (1 : Int)) ∧ ((0 ≤ (at9 + (1 : Int)) ∧ (at9 + (1 : Int)) < (X).1) ∧ (zI (at9 + (2 : Int)) ∧ ((0 ≤ (at9 + (2 : Int)) ∧ (at9 + (2 : Int)) < (X).1) ∧ (zI (at9 + (3 : Int)) ∧ ((0 ≤ (at9 + (3 : Int)) ∧ (at9 + (3 : Int)) < (X).1) ∧ (zI (at9 + (4 : Int)) ∧ ((0 ≤ (at9 + (4 : Int)) ∧ (at9 + (4 : Int)) < (X).1) ∧ (zI (at9 + (5 : Int)) ∧ ((0 ≤ (at9 + (5 : Int)) ∧ (at9 + (5 : Int)) < (X).1) ∧ (∃ Rc : Int → zS → Prop, zAM 126 [.inr (.inr (9, 0)), .inl ((X).2 (at9 + (1 : Int))), .inl ((X).2 (at9 + (2 : Int))), .inl ((X).2 (at9 + (3 : Int))), .inl ((X).2 (at9 + (4 : Int))), .inl ((X).2 (at9 + (5 : Int)))] u31 Rc ∧ ∀ (v32 : Int) (u32 : zS), zI v32 → Rc v32 u32 → ((v31 = v32 → (zI (at9 + (7 : Int)) ∧ zRuns 159 X (fun (v : Int) (u : zS) => v = 1) 18 [some (.inr (.inr (1000, 0))), some (.inr (.inr (0, 0))), some (.inr (.inr (9, 0))), some (.inl (at9 + (7 : Int)))] [] u32)) ∧ (¬ v31 = v32 → (((0 : Int) = 0 ∨ (0 : Int) = 1) ∧ ((0 : Int) = 1))))))))))))))))))))))))))) ∧ (((Int32.ofInt ((X).2 at9) &&& Int32.ofInt (31 : Int)).toInt = (11 : Int) → (zI (at9 + (1 : Int)) ∧ ((0 ≤ (at9 + (1 : Int)) ∧ (at9 + (1 : Int)) < (X).1) ∧ (zI (at9 + (2 : Int)) ∧ ((0 ≤ (at9 + (2 : Int)) ∧ (at9 + (2 : Int)) < (X).1) ∧ (zI (at9 + (3 : Int)) ∧ ((0 ≤ (at9 + (3 : Int)) ∧ (at9 + (3 : Int)) < (X).1) ∧ (∃ Rc : Int → zS → Prop, zAM 61 [.inr (.inr (0, 0)), .inl ((X).2 (at9 + (1 : Int))), .inl ((X).2 (at9 + (2 : Int))), .inl ((X).2 (at9 + (3 : Int)))] σ Rc ∧ ∀ (v29 : Int) (u29 : zS), zI v29 → Rc v29 u29 → (zI (at9 + (1 : Int)) ∧ ((0 ≤ (at9 + (1 : Int)) ∧ (at9 + (1 : Int)) < (X).1) ∧ (zI (at9 + (2 : Int)) ∧ ((0 ≤ (at9 + (2 : Int)) ∧ (at9 + (2 : Int)) < (X).1) ∧ (zI (at9 + (3 : Int)) ∧ ((0 ≤ (at9 + (3 : Int)) ∧ (at9 + (3 : Int)) < (X).1) ∧ (∃ Rc : Int → zS → Prop, zAM 127 [.inr (.inr (9, 0)), .inl ((X).2 (at9 + (1 : Int))), .inl ((X).2 (at9 + (2 : Int))), .inl ((X).2 (at9 + (3 : Int)))] u29 Rc ∧ ∀ (v30 : Int) (u30 : zS), zI v30 → Rc v30 u30 → ((v29 = v30 → (zI (at9 + (7 : Int)) ∧ zRuns 159 X (fun (v : Int) (u : zS) => v = 1) 18 [some (.inr (.inr (1000, 0))), some (.inr (.inr (0, 0))), some (.inr (.inr (9, 0))), some (.inl (at9 + (7 : Int)))] [] u30)) ∧ (¬ v29 = v30 → (((0 : Int) = 0 ∨ (0 : Int) = 1) ∧ ((0 : Int) = 1))))))))))))))))))) ∧ (((Int32.ofInt ((X).2 at9) &&& Int32.ofInt (31 : Int)).toInt = (12 : Int) → (zI (at9 + (1 : Int)) ∧ ((0 ≤ (at9 + (1 : Int)) ∧ (at9 + (1 : Int)) < (X).1) ∧ (∃ Rc : Int → zS → Prop, zAM 62 [.inr (.inr (0, 0)), .inl ((X).2 (at9 + (1 : Int)))] σ Rc ∧ ∀ (v27 : Int) (u27 : zS), zI v27 → Rc v27 u27 → (zI (at9 + (1 : Int)) ∧ ((0 ≤ (at9 + (1 : Int)) ∧ (at9 + (1 : Int)) < (X).1) ∧ (∃ Rc : Int → zS → Prop, zAM 128 [.inr (.inr (9, 0)), .inl ((X).2 (at9 + (1 : Int)))] u27 Rc ∧ ∀ (v28 : Int) (u28 : zS), zI v28 → Rc v28 u28 → ((v27 = v28 → (zI (at9 + (7 : Int)) ∧ zRuns 159 X (fun (v : Int) (u : zS) => v = 1) 18 [some (.inr (.inr (1000, 0))), some (.inr (.inr (0, 0))), some (.inr (.inr (9, 0))), some (.inl (at9 + (7 : Int)))] [] u28)) ∧ (¬ v27 = v28 → (((0 : Int) = 0 ∨ (0 : Int) = 1) ∧ ((0 : Int) = 1))))))))))) ∧ (((Int32.ofInt ((X).2 at9) &&& Int32.ofInt (31 : Int)).toInt = (13 : Int) → (∃ Rc : Int → zS → Prop, zAM 63 [.inr (.inr (0, 0))] σ Rc ∧ ∀ (v25 : Int) (u25 : zS), zI v25 → Rc v25 u25 → (∃ Rc : Int → zS → Prop, zAM 130 [.inr (.inr (9, 0))] u25 Rc ∧ ∀ (v26 : Int) (u26 : zS), zI v26 → Rc v26 u26 → ((v25 = v26 → (zI (at9 + (7 : Int)) ∧ zRuns 159 X (fun (v : Int) (u : zS) => v = 1) 18 [some (.inr (.inr (1000, 0))), some (.inr (.inr (0, 0))), some (.inr (.inr (9, 0))), some (.inl (at9 + (7 : Int)))] [] u26)) ∧ (¬ v25 = v26 → (((0 : Int) = 0 ∨ (0 : Int) = 1) ∧ ((0 : Int) = 1))))))) ∧ (((Int32.ofInt ((X).2 at9) &&& Int32.ofInt (31 : Int)).toInt = (14 : Int) → (∃ Rc : Int → zS → Prop, zAM 64 [.inr (.inr (0, 0))] σ Rc ∧ ∀ (v23 : Int) (u23 : zS), zI v23 → Rc v23 u23 → (∃ Rc : Int → zS → Prop, zAM 131 [.inr (.inr (9, 0))] u23 Rc ∧ ∀ (v24 : Int) (u24 : zS), zI v24 → Rc v24 u24 → ((v23 = v24 → (zI (at9 + (7 : Int)) ∧ zRuns 159 X (fun (v : Int) (u : zS) => v = 1) 18 [some (.inr (.inr (1000, 0))), some (.inr (.inr (0, 0))), some (.inr (.inr (9, 0))), some (.inl (at9 + (7 : Int)))] [] u24)) ∧ (¬ v23 = v24 → (((0 : Int) = 0 ∨ (0 : Int) = 1) ∧ ((0 : Int) = 1))))))) ∧ (((Int32.ofInt ((X).2 at9) &&& Int32.ofInt (31 : Int)).toInt = (15 : Int) → (zI (at9 + (1 : Int)) ∧ ((0 ≤ (at9 + (1 : Int)) ∧ (at9 + (1 : Int)) < (X).1) ∧ (zI (at9 + (2 : Int)) ∧ ((0 ≤ (at9 + (2 : Int)) ∧ (at9 + (2 : Int)) < (X).1) ∧ (zI (at9 + (3 : Int)) ∧ ((0 ≤ (at9 + (3 : Int)) ∧ (at9 + (3 : Int)) < (X).1) ∧ (∃ Rc : Int → zS → Prop, zAM 65 [.inr (.inr (0, 0)), .inl ((X).2 (at9 + (1 : Int))), .inl ((X).2 (at9 + (2 : Int))), .inl ((X).2 (at9 + (3 : Int)))] σ Rc ∧ ∀ (v21 : Int) (u21 : zS), zI v21 → Rc v21 u21 → (zI (at9 + (1 : Int)) ∧ ((0 ≤ (at9 + (1 : Int)) ∧ (at9 + (1 : Int)) < (X).1) ∧ (zI (at9 + (2 : Int)) ∧ ((0 ≤ (at9 + (2 : Int)) ∧ (at9 + (2 : Int)) < (X).1) ∧ (zI (at9 + (3 : Int)) ∧ ((0 ≤ (at9 + (3 : Int)) ∧ (at9 + (3 : Int)) < (X).1) ∧ (∃ Rc : Int → zS → Prop, zAM 134 [.inr (.inr (9, 0)), .inl ((X).2 (at9 + (1 : Int))), .inl ((X).2 (at9 + (2 : Int))), .inl ((X).2 (at9 + (3 : Int)))] u21 Rc ∧ ∀ (v22 : Int) (u22 : zS), zI v22 → Rc v22 u22 → ((v21 = v22 → (zI (at9 + (7 : Int)) ∧ zRuns 159 X (fun (v : Int) (u : zS) => v = 1) 18 [some (.inr (.inr (1000, 0))), some (.inr (.inr (0, 0))), some (.inr (.inr (9, 0))), some (.inl (at9 + (7 : Int)))] [] u22)) ∧ (¬ v21 = v22 → (((0 : Int) = 0 ∨ (0 : Int) = 1) ∧ ((0 : Int) = 1))))))))))))))))))) ∧ (((Int32.ofInt ((X).2 at9) &&& Int32.ofInt (31 : Int)).toInt = (16 : Int) → (zI (at9 + (1 : Int)) ∧ ((0 ≤ (at9 + (1 : Int)) ∧ (at9 + (1 : Int)) < (X).1) ∧ (zI (at9 + (2 : Int)) ∧ ((0 ≤ (at9 + (2 : Int)) ∧ (at9 + (2 : Int)) < (X).1) ∧ (zI (at9 + (3 : Int)) ∧ ((0 ≤ (at9 + (3 : Int)) ∧ (at9 + (3 : Int)) < (X).1) ∧ (∃ Rc : Int → zS → Prop, zAM 66 [.inr (.inr (0, 0)), .inl ((X).2 (at9 + (1 : Int))), .inl ((X).2 (at9 + (2 : Int))), .inl ((X).2 (at9 + (3 : Int)))] σ Rc ∧ ∀ (v19 : Int) (u19 : zS), zI v19 → Rc v19 u19 → (zI (at9 + (1 : Int)) ∧ ((0 ≤ (at9 + (1 : Int)) ∧ (at9 + (1 : Int)) < (X).1) ∧ (zI (at9 + (2 : Int)) ∧ ((0 ≤ (at9 + (2 : Int)) ∧ (at9 + (2 : Int)) < (X).1) ∧ (zI (at9 + (3 : Int)) ∧ ((0 ≤ (at9 + (3 : Int)) ∧ (at9 + (3 : Int)) < (X).1) ∧ (∃ Rc : Int → zS → Prop, zAM 141 [.inr (.inr (9, 0)), .inl ((X).2 (at9 + (1 : Int))), .inl ((X).2 (at9 + (2 : Int))), .inl ((X).2 (at9 + (3 : Int)))] u19 Rc ∧ ∀ (v20 : Int) (u20 : zS), zI v20 → Rc v20 u20 → ((v19 = v20 → (zI (at9 + (7 : Int)) ∧ zRuns 159 X (fun (v : Int) (u : zS) => v = 1) 18 [some (.inr (.inr (1000, 0))), some (.inr (.inr (0, 0))), some (.inr (.inr (9, 0))), some (.inl (at9 + (7 : Int)))] [] u20)) ∧ (¬ v19 = v20 → (((0 : Int) = 0 ∨ (0 : Int) = 1) ∧ ((0 : Int) = 1))))))))))))))))))) ∧ (((Int32.ofInt ((X).2 at9) &&& Int32.ofInt (31 : Int)).toInt = (17 : Int) → (zI (at9 + (1 : Int)) ∧ ((0 ≤ (at9 + (1 : Int)) ∧ (at9 + (1 : Int)) < (X).1) ∧ (∃ Rc : Int → zS → Prop, zAM 67 [.inr (.inr (0, 0)), .inl ((X).2 (at9 + (1 : Int)))] σ Rc ∧ ∀ (v17 : Int) (u17 : zS), zI v17 → Rc v17 u17 → (zI (at9 + (1 : Int)) ∧ ((0 ≤ (at9 + (1 : Int)) ∧ (at9 + (1 : Int)) < (X).1) ∧ (∃ Rc : Int → zS → Prop, zAM 143 [.inr (.inr (9, 0)), .inl ((X).2 (at9 + (1 : Int)))] u17 Rc ∧ ∀ (v18 : Int) (u18 : zS), zI v18 → Rc v18 u18 → ((v17 = v18 → (zI (at9 + (7 : Int)) ∧ zRuns 159 X (fun (v : Int) (u : zS) => v = 1) 18 [some (.inr (.inr (1000, 0))), some (.inr (.inr (0, 0))), some (.inr (.inr (9, 0))), some (.inl (at9 + (7 : Int)))] [] u18)) ∧ (¬ v17 = v18 → (((0 : Int) = 0 ∨ (0 : Int) = 1) ∧ ((0 : Int) = 1))))))))))) ∧ (((Int32.ofInt ((X).2 at9) &&& Int32.ofInt (31 : Int)).toInt = (18 : Int) → (zI (at9 + (1 : Int)) ∧ ((0 ≤ (at9 + (1 : Int)) ∧ (at9 + (1 : Int)) < (X).1) ∧ (∃ Rc : Int → zS → Prop, zAM 68 [.inr (.inr (0, 0)), .inl ((X).2 (at9 + (1 : Int)))] σ Rc ∧ ∀ (v15 : Int) (u15 : zS), zI v15 → Rc v15 u15 → (zI (at9 + (1 : Int)) ∧ ((0 ≤ (at9 + (1 : Int)) ∧ (at9 + (1 : Int)) < (X).1) ∧ (∃ Rc : Int → zS → Prop, zAM 144 [.inr (.inr (9, 0)), .inl ((X).2 (at9 + (1 : Int)))] u15 Rc ∧ ∀ (v16 : Int) (u16 : zS), zI v16 → Rc v16 u16 → ((v15 = v16 → (zI (at9 + (7 : Int)) ∧ zRuns 159 X (fun (v : Int) (u : zS) => v = 1) 18 [some (.inr (.inr (1000, 0))), some (.inr (.inr (0, 0))), some (.inr (.inr (9, 0))), some (.inl (at9 + (7 : Int)))] [] u16)) ∧ (¬ v15 = v16 → (((0 : Int) = 0 ∨ (0 : Int) = 1) ∧ ((0 : Int) = 1))))))))))) ∧ (((Int32.ofInt ((X).2 at9) &&& Int32.ofInt (31 : Int)).toInt = (19 : Int) → (∃ Rc : Int → zS → Prop, zAM 69 [.inr (.inr (0, 0))] σ Rc ∧ ∀ (v13 : Int) (u13 : zS), zI v13 → Rc v13 u13 → (∃ Rc : Int → zS → Prop, zAM 146 [.inr (.inr (9, 0))] u13 Rc ∧ ∀ (v14 : Int) (u14 : zS), zI v14 → Rc v14 u14 → ((v13 = v14 → (zI (at9 + (7 : Int)) ∧ zRuns 159 X (fun (v : Int) (u : zS) => v = 1) 18 [some (.inr (.inr (1000, 0))), some (.inr (.inr (0, 0))), some (.inr (.inr (9, 0))), some (.inl (at9 + (7 : Int)))] [] u14)) ∧ (¬ v13 = v14 → (((0 : Int) = 0 ∨ (0 : Int) = 1) ∧ ((0 : Int) = 1))))))) ∧ (((Int32.ofInt ((X).2 at9) &&& Int32.ofInt (31 : Int)).toInt = (20 : Int) → (zI (at9 + (1 : Int)) ∧ ((0 ≤ (at9 + (1 : Int)) ∧ (at9 + (1 : Int)) < (X).1) ∧ (∃ Rc : Int → zS → Prop, zAM 70 [.inr (.inr (0, 0)), .inl ((X).2 (at9 + (1 : Int)))] σ Rc ∧ ∀ (v11 : Int) (u11 : zS), zI v11 → Rc v11 u11 → (zI (at9 + (1 : Int)) ∧ ((0 ≤ (at9 + (1 : Int)) ∧ (at9 + (1 : Int)) < (X).1) ∧ (∃ Rc : Int → zS → Prop, zAM 149 [.inr (.inr (9, 0)), .inl ((X).2 (at9 + (1 : Int)))] u11 Rc ∧ ∀ (v12 : Int) (u12 : zS), zI v12 → Rc v12 u12 → ((v11 = v12 → (zI (at9 + (7 : Int)) ∧ zRuns 159 X (fun (v : Int) (u : zS) => v = 1) 18 [some (.inr (.inr (1000, 0))), some (.inr (.inr (0, 0))), some (.inr (.inr (9, 0))), some (.inl (at9 + (7 : Int)))] [] u12)) ∧ (¬ v11 = v12 → (((0 : Int) = 0 ∨ (0 : Int) = 1) ∧ ((0 : Int) = 1))))))))))) ∧ (((Int32.ofInt ((X).2 at9) &&& Int32.ofInt (31 : Int)).toInt = (21 : Int) → (zI (at9 + (1 : Int)) ∧ ((0 ≤ (at9 + (1 : Int)) ∧ (at9 + (1 : Int)) < (X).1) ∧ (zI (at9 + (2 : Int)) ∧ ((0 ≤ (at9 + (2 : Int)) ∧ (at9 + (2 : Int)) < (X).1) ∧ (∃ Rc : Int → zS → Prop, zAM 71 [.inr (.inr (0, 0)), .inl ((X).2 (at9 + (1 : Int))), .inl ((X).2 (at9 + (2 : Int)))] σ Rc ∧ ∀ (v9 : Int) (u9 : zS), zI v9 → Rc v9 u9 → (zI (at9 + (1 : Int)) ∧ ((0 ≤ (at9 + (1 : Int)) ∧ (at9 + (1 : Int)) < (X).1) ∧ (zI (at9 + (2 : Int)) ∧ ((0 ≤ (at9 + (2 : Int)) ∧ (at9 + (2 : Int)) < (X).1) ∧ (∃ Rc : Int → zS → Prop, zAM 150 [.inr (.inr (9, 0)), .inl ((X).2 (at9 + (1 : Int))), .inl ((X).2 (at9 + (2 : Int)))] u9 Rc ∧ ∀ (v10 : Int) (u10 : zS), zI v10 → Rc v10 u10 → ((v9 = v10 → (zI (at9 + (7 : Int)) ∧ zRuns 159 X (fun (v : Int) (u : zS) => v = 1) 18 [some (.inr (.inr (1000, 0))), some (.inr (.inr (0, 0))), some (.inr (.inr (9, 0))), some (.inl (at9 + (7 : Int)))] [] u10)) ∧ (¬ v9 = v10 → (((0 : Int) = 0 ∨ (0 : Int) = 1) ∧ ((0 : Int) = 1))))))))))))))) ∧ (((Int32.ofInt ((X).2 at9) &&& Int32.ofInt (31 : Int)).toInt = (22 : Int) → (zI (at9 + (1 : Int)) ∧ ((0 ≤ (at9 + (1 : Int)) ∧ (at9 + (1 : Int)) < (X).1) ∧ (zI (at9 + (2 : Int)) ∧ ((0 ≤ (at9 + (2 : Int)) ∧ (at9 + (2 : Int)) < (X).1) ∧ (∃ Rc : Int → zS → Prop, zAM 72 [.inr (.inr (0, 0)), .inl ((X).2 (at9 + (1 : Int))), .inl ((X).2 (at9 + (2 : Int)))] σ Rc ∧ ∀ (v7 : Int) (u7 : zS), zI v7 → Rc v7 u7 → (zI (at9 + (1 : Int)) ∧ ((0 ≤ (at9 + (1 : Int)) ∧ (at9 + (1 : Int)) < (X).1) ∧ (zI (at9 + (2 : Int)) ∧ ((0 ≤ (at9 + (2 : Int)) ∧ (at9 + (2 : Int)) < (X).1) ∧ (∃ Rc : Int → zS → Prop, zAM 154 [.inr (.inr (9, 0)), .inl ((X).2 (at9 + (1 : Int))), .inl ((X).2 (at9 + (2 : Int)))] u7 Rc ∧ ∀ (v8 : Int) (u8 : zS), zI v8 → Rc v8 u8 → ((v7 = v8 → (zI (at9 + (7 : Int)) ∧ zRuns 159 X (fun (v : Int) (u : zS) => v = 1) 18 [some (.inr (.inr (1000, 0))), some (.inr (.inr (0, 0))), some (.inr (.inr (9, 0))), some (.inl (at9 + (7 : Int)))] [] u8)) ∧ (¬ v7 = v8 → (((0 : Int) = 0 ∨ (0 : Int) = 1) ∧ ((0 : Int) = 1))))))))))))))) ∧ (((Int32.ofInt ((X).2 at9) &&& Int32.ofInt (31 : Int)).toInt = (23 : Int) → (zI (at9 + (1 : Int)) ∧ ((0 ≤ (at9 + (1 : Int)) ∧ (at9 + (1 : Int)) < (X).1) ∧ (∃ Rc : Int → zS → Prop, zAM 73 [.inr (.inr (0, 0)), .inl ((X).2 (at9 + (1 : Int)))] σ Rc ∧ ∀ (v5 : Int) (u5 : zS), zI v5 → Rc v5 u5 → (zI (at9 + (1 : Int)) ∧ ((0 ≤ (at9 + (1 : Int)) ∧ (at9 + (1 : Int)) < (X).1) ∧ (∃ Rc : Int → zS → Prop, zAM 155 [.inr (.inr (9, 0)), .inl ((X).2 (at9 + (1 : Int)))] u5 Rc ∧ ∀ (v6 : Int) (u6 : zS), zI v6 → Rc v6 u6 → ((v5 = v6 → (zI (at9 + (7 : Int)) ∧ zRuns 159 X (fun (v : Int) (u : zS) => v = 1) 18 [some (.inr (.inr (1000, 0))), some (.inr (.inr (0, 0))), some (.inr (.inr (9, 0))), some (.inl (at9 + (7 : Int)))] [] u6)) ∧ (¬ v5 = v6 → (((0 : Int) = 0 ∨ (0 : Int) = 1) ∧ ((0 : Int) = 1))))))))))) ∧ (((Int32.ofInt ((X).2 at9) &&& Int32.ofInt (31 : Int)).toInt = (24 : Int) → (zI (at9 + (1 : Int)) ∧ ((0 ≤ (at9 + (1 : Int)) ∧ (at9 + (1 : Int)) < (X).1) ∧ (∃ Rc : Int → zS → Prop, zAM 74 [.inr (.inr (0, 0)), .inl ((X).2 (at9 + (1 : Int)))] σ Rc ∧ ∀ (v3 : Int) (u3 : zS), zI v3 → Rc v3 u3 → (zI (at9 + (1 : Int)) ∧ ((0 ≤ (at9 + (1 : Int)) ∧ (at9 + (1 : Int)) < (X).1) ∧ (∃ Rc : Int → zS → Prop, zAM 156 [.inr (.inr (9, 0)), .inl ((X).2 (at9 + (1 : Int)))] u3 Rc ∧ ∀ (v4 : Int) (u4 : zS), zI v4 → Rc v4 u4 → ((v3 = v4 → (zI (at9 + (7 : Int)) ∧ zRuns 159 X (fun (v : Int) (u : zS) => v = 1) 18 [some (.inr (.inr (1000, 0))), some (.inr (.inr (0, 0))), some (.inr (.inr (9, 0))), some (.inl (at9 + (7 : Int)))] [] u4)) ∧ (¬ v3 = v4 → (((0 : Int) = 0 ∨ (0 : Int) = 1) ∧ ((0 : Int) = 1))))))))))) ∧ (((Int32.ofInt ((X).2 at9) &&& Int32.ofInt (31 : Int)).toInt = (25 : Int) → (∃ Rc : Int → zS → Prop, zAM 75 [.inr (.inr (0, 0))] σ Rc ∧ ∀ (v1 : Int) (u1 : zS), zI v1 → Rc v1 u1 → (∃ Rc : Int → zS → Prop, zAM 157 [.inr (.inr (9, 0))] u1 Rc ∧ ∀ (v2 : Int) (u2 : zS), zI v2 → Rc v2 u2 → ((v1 = v2 → (zI (at9 + (7 : Int)) ∧ zRuns 159 X (fun (v : Int) (u : zS) => v = 1) 18 [some (.inr (.inr (1000, 0))), some (.inr (.inr (0, 0))), some (.inr (.inr (9, 0))), some (.inl (at9 + (7 : Int)))] [] u2)) ∧ (¬ v1 = v2 → (((0 : Int) = 0 ∨ (0 : Int) = 1) ∧ ((0 : Int) = 1))))))) ∧ True)))))))))))))))))))))))))) ∧ (((Int32.ofInt ((X).2 at9) &&& Int32.ofInt (31 : Int)).toInt < (0 : Int) ∨ (25 : Int) < (Int32.ofInt ((X).2 at9) &&& Int32.ofInt (31 : Int)).toInt) → (zI (at9 + (7 : Int)) ∧ zRuns 159 X (fun (v : Int) (u : zS) => v = 1) 18 [some (.inr (.inr (1000, 0))), some (.inr (.inr (0, 0))), some (.inr (.inr (9, 0))), some (.inl (at9 + (7 : Int)))] [] σ))))))))
    refine ⟨by ((first | omega | exact hX.1)), ?_⟩
    refine ⟨by (exact ⟨by omega, by omega⟩), ?_⟩
    refine ⟨?_, ?_⟩
    · intro h1
      refine ⟨by (omega), ?_⟩
      exact rfl
    · intro h2
      refine ⟨by ((first | omega | exact hX.1)), ?_⟩
      refine ⟨?_, ?_⟩
      · refine ⟨?_, ?_⟩
        · intro h3
          refine ⟨by (exact ⟨by omega, by omega⟩), ?_⟩
          refine ⟨by ((first | omega | exact hX.1)), ?_⟩
          refine ⟨by (exact ⟨by omega, by omega⟩), ?_⟩
          refine ⟨by ((first | omega | exact hX.1)), ?_⟩
          refine ⟨by (exact ⟨by omega, by omega⟩), ?_⟩
          refine ⟨by ((first | omega | exact hX.1)), ?_⟩
          obtain ⟨R8, hr8, hs8⟩ := sm_sheet hrel (((X).2 (at9 + (1 : Int)))) (((X).2 (at9 + (2 : Int)))) (((X).2 (at9 + (3 : Int))))
          refine ⟨_, hr8, ?_⟩
          intro v51 u51 hv51
          intro kv51
          obtain ⟨hv51a, hv51b⟩ := hv51
          obtain ⟨R9, hr9, hs9⟩ := hs8 _ _ kv51
          refine ⟨by (exact ⟨by omega, by omega⟩), ?_⟩
          refine ⟨by ((first | omega | exact hX.1)), ?_⟩
          refine ⟨by (exact ⟨by omega, by omega⟩), ?_⟩
          refine ⟨by ((first | omega | exact hX.1)), ?_⟩
          refine ⟨by (exact ⟨by omega, by omega⟩), ?_⟩
          refine ⟨by ((first | omega | exact hX.1)), ?_⟩
          refine ⟨_, hr9, ?_⟩
          intro v52 u52 hv52
          intro kv52
          obtain ⟨hv52a, hv52b⟩ := hv52
          obtain ⟨ev9, hrel2⟩ := hs9 _ _ kv52
          refine ⟨?_, ?_⟩
          · intro h4
            refine ⟨by (exact ⟨by omega, by omega⟩), ?_⟩
            exact ih (at9 + 7) (k + 1) _ (by omega) ⟨by omega, by omega, by omega⟩ hrel2
          · intro h5
            refine ⟨by (omega), ?_⟩
            exact absurd ev9 h5
        · refine ⟨?_, ?_⟩
          · intro h6
            refine ⟨by (exact ⟨by omega, by omega⟩), ?_⟩
            refine ⟨by ((first | omega | exact hX.1)), ?_⟩
            refine ⟨by (exact ⟨by omega, by omega⟩), ?_⟩
            refine ⟨by ((first | omega | exact hX.1)), ?_⟩
            refine ⟨by (exact ⟨by omega, by omega⟩), ?_⟩
            refine ⟨by ((first | omega | exact hX.1)), ?_⟩
            obtain ⟨R8, hr8, hs8⟩ := sm_set hrel (((X).2 (at9 + (1 : Int)))) (((X).2 (at9 + (2 : Int)))) (((X).2 (at9 + (3 : Int))))
            refine ⟨_, hr8, ?_⟩
            intro v49 u49 hv49
            intro kv49
            obtain ⟨hv49a, hv49b⟩ := hv49
            obtain ⟨R9, hr9, hs9⟩ := hs8 _ _ kv49
            refine ⟨by (exact ⟨by omega, by omega⟩), ?_⟩
            refine ⟨by ((first | omega | exact hX.1)), ?_⟩
            refine ⟨by (exact ⟨by omega, by omega⟩), ?_⟩
            refine ⟨by ((first | omega | exact hX.1)), ?_⟩
            refine ⟨by (exact ⟨by omega, by omega⟩), ?_⟩
            refine ⟨by ((first | omega | exact hX.1)), ?_⟩
            refine ⟨_, hr9, ?_⟩
            intro v50 u50 hv50
            intro kv50
            obtain ⟨hv50a, hv50b⟩ := hv50
            obtain ⟨ev9, hrel2⟩ := hs9 _ _ kv50
            refine ⟨?_, ?_⟩
            · intro h7
              refine ⟨by (exact ⟨by omega, by omega⟩), ?_⟩
              exact ih (at9 + 7) (k + 1) _ (by omega) ⟨by omega, by omega, by omega⟩ hrel2
            · intro h8
              refine ⟨by (omega), ?_⟩
              exact absurd ev9 h8
          · refine ⟨?_, ?_⟩
            · intro h9
              refine ⟨by (exact ⟨by omega, by omega⟩), ?_⟩
              refine ⟨by ((first | omega | exact hX.1)), ?_⟩
              refine ⟨by (exact ⟨by omega, by omega⟩), ?_⟩
              refine ⟨by ((first | omega | exact hX.1)), ?_⟩
              refine ⟨by (exact ⟨by omega, by omega⟩), ?_⟩
              refine ⟨by ((first | omega | exact hX.1)), ?_⟩
              refine ⟨by (exact ⟨by omega, by omega⟩), ?_⟩
              refine ⟨by ((first | omega | exact hX.1)), ?_⟩
              refine ⟨by (exact ⟨by omega, by omega⟩), ?_⟩
              refine ⟨by ((first | omega | exact hX.1)), ?_⟩
              obtain ⟨R8, hr8, hs8⟩ := sm_copy hrel (((X).2 (at9 + (1 : Int)))) (((X).2 (at9 + (2 : Int)))) (((X).2 (at9 + (3 : Int)))) (((X).2 (at9 + (4 : Int)))) (((X).2 (at9 + (5 : Int))))
              refine ⟨_, hr8, ?_⟩
              intro v47 u47 hv47
              intro kv47
              obtain ⟨hv47a, hv47b⟩ := hv47
              obtain ⟨R9, hr9, hs9⟩ := hs8 _ _ kv47
              refine ⟨by (exact ⟨by omega, by omega⟩), ?_⟩
              refine ⟨by ((first | omega | exact hX.1)), ?_⟩
              refine ⟨by (exact ⟨by omega, by omega⟩), ?_⟩
              refine ⟨by ((first | omega | exact hX.1)), ?_⟩
              refine ⟨by (exact ⟨by omega, by omega⟩), ?_⟩
              refine ⟨by ((first | omega | exact hX.1)), ?_⟩
              refine ⟨by (exact ⟨by omega, by omega⟩), ?_⟩
              refine ⟨by ((first | omega | exact hX.1)), ?_⟩
              refine ⟨by (exact ⟨by omega, by omega⟩), ?_⟩
              refine ⟨by ((first | omega | exact hX.1)), ?_⟩
              refine ⟨_, hr9, ?_⟩
              intro v48 u48 hv48
              intro kv48
              obtain ⟨hv48a, hv48b⟩ := hv48
              obtain ⟨ev9, hrel2⟩ := hs9 _ _ kv48
              refine ⟨?_, ?_⟩
              · intro h10
                refine ⟨by (exact ⟨by omega, by omega⟩), ?_⟩
                exact ih (at9 + 7) (k + 1) _ (by omega) ⟨by omega, by omega, by omega⟩ hrel2
              · intro h11
                refine ⟨by (omega), ?_⟩
                exact absurd ev9 h11
            · refine ⟨?_, ?_⟩
              · intro h12
                refine ⟨by (exact ⟨by omega, by omega⟩), ?_⟩
                refine ⟨by ((first | omega | exact hX.1)), ?_⟩
                obtain ⟨R8, hr8, hs8⟩ := sm_drop hrel (((X).2 (at9 + (1 : Int))))
                refine ⟨_, hr8, ?_⟩
                intro v45 u45 hv45
                intro kv45
                obtain ⟨hv45a, hv45b⟩ := hv45
                obtain ⟨R9, hr9, hs9⟩ := hs8 _ _ kv45
                refine ⟨by (exact ⟨by omega, by omega⟩), ?_⟩
                refine ⟨by ((first | omega | exact hX.1)), ?_⟩
                refine ⟨_, hr9, ?_⟩
                intro v46 u46 hv46
                intro kv46
                obtain ⟨hv46a, hv46b⟩ := hv46
                obtain ⟨ev9, hrel2⟩ := hs9 _ _ kv46
                refine ⟨?_, ?_⟩
                · intro h13
                  refine ⟨by (exact ⟨by omega, by omega⟩), ?_⟩
                  exact ih (at9 + 7) (k + 1) _ (by omega) ⟨by omega, by omega, by omega⟩ hrel2
                · intro h14
                  refine ⟨by (omega), ?_⟩
                  exact absurd ev9 h14
              · refine ⟨?_, ?_⟩
                · intro h15
                  refine ⟨by (exact ⟨by omega, by omega⟩), ?_⟩
                  refine ⟨by ((first | omega | exact hX.1)), ?_⟩
                  refine ⟨by (exact ⟨by omega, by omega⟩), ?_⟩
                  refine ⟨by ((first | omega | exact hX.1)), ?_⟩
                  refine ⟨by (exact ⟨by omega, by omega⟩), ?_⟩
                  refine ⟨by ((first | omega | exact hX.1)), ?_⟩
                  obtain ⟨R8, hr8, hs8⟩ := sm_line hrel (((X).2 (at9 + (1 : Int)))) (((X).2 (at9 + (2 : Int)))) (((X).2 (at9 + (3 : Int))))
                  refine ⟨_, hr8, ?_⟩
                  intro v43 u43 hv43
                  intro kv43
                  obtain ⟨hv43a, hv43b⟩ := hv43
                  obtain ⟨R9, hr9, hs9⟩ := hs8 _ _ kv43
                  refine ⟨by (exact ⟨by omega, by omega⟩), ?_⟩
                  refine ⟨by ((first | omega | exact hX.1)), ?_⟩
                  refine ⟨by (exact ⟨by omega, by omega⟩), ?_⟩
                  refine ⟨by ((first | omega | exact hX.1)), ?_⟩
                  refine ⟨by (exact ⟨by omega, by omega⟩), ?_⟩
                  refine ⟨by ((first | omega | exact hX.1)), ?_⟩
                  refine ⟨_, hr9, ?_⟩
                  intro v44 u44 hv44
                  intro kv44
                  obtain ⟨hv44a, hv44b⟩ := hv44
                  obtain ⟨ev9, hrel2⟩ := hs9 _ _ kv44
                  refine ⟨?_, ?_⟩
                  · intro h16
                    refine ⟨by (exact ⟨by omega, by omega⟩), ?_⟩
                    exact ih (at9 + 7) (k + 1) _ (by omega) ⟨by omega, by omega, by omega⟩ hrel2
                  · intro h17
                    refine ⟨by (omega), ?_⟩
                    exact absurd ev9 h17
                · refine ⟨?_, ?_⟩
                  · intro h18
                    refine ⟨by (exact ⟨by omega, by omega⟩), ?_⟩
                    refine ⟨by ((first | omega | exact hX.1)), ?_⟩
                    obtain ⟨R8, hr8, hs8⟩ := sm_gap hrel (((X).2 (at9 + (1 : Int))))
                    refine ⟨_, hr8, ?_⟩
                    intro v41 u41 hv41
                    intro kv41
                    obtain ⟨hv41a, hv41b⟩ := hv41
                    obtain ⟨R9, hr9, hs9⟩ := hs8 _ _ kv41
                    refine ⟨by (exact ⟨by omega, by omega⟩), ?_⟩
                    refine ⟨by ((first | omega | exact hX.1)), ?_⟩
                    refine ⟨_, hr9, ?_⟩
                    intro v42 u42 hv42
                    intro kv42
                    obtain ⟨hv42a, hv42b⟩ := hv42
                    obtain ⟨ev9, hrel2⟩ := hs9 _ _ kv42
                    refine ⟨?_, ?_⟩
                    · intro h19
                      refine ⟨by (exact ⟨by omega, by omega⟩), ?_⟩
                      exact ih (at9 + 7) (k + 1) _ (by omega) ⟨by omega, by omega, by omega⟩ hrel2
                    · intro h20
                      refine ⟨by (omega), ?_⟩
                      exact absurd ev9 h20
                  · refine ⟨?_, ?_⟩
                    · intro h21
                      refine ⟨by (exact ⟨by omega, by omega⟩), ?_⟩
                      refine ⟨by ((first | omega | exact hX.1)), ?_⟩
                      refine ⟨by (exact ⟨by omega, by omega⟩), ?_⟩
                      refine ⟨by ((first | omega | exact hX.1)), ?_⟩
                      obtain ⟨R8, hr8, hs8⟩ := sm_ink hrel (((X).2 (at9 + (1 : Int)))) (((X).2 (at9 + (2 : Int))))
                      refine ⟨_, hr8, ?_⟩
                      intro v39 u39 hv39
                      intro kv39
                      obtain ⟨hv39a, hv39b⟩ := hv39
                      obtain ⟨R9, hr9, hs9⟩ := hs8 _ _ kv39
                      refine ⟨by (exact ⟨by omega, by omega⟩), ?_⟩
                      refine ⟨by ((first | omega | exact hX.1)), ?_⟩
                      refine ⟨by (exact ⟨by omega, by omega⟩), ?_⟩
                      refine ⟨by ((first | omega | exact hX.1)), ?_⟩
                      refine ⟨_, hr9, ?_⟩
                      intro v40 u40 hv40
                      intro kv40
                      obtain ⟨hv40a, hv40b⟩ := hv40
                      obtain ⟨ev9, hrel2⟩ := hs9 _ _ kv40
                      refine ⟨?_, ?_⟩
                      · intro h22
                        refine ⟨by (exact ⟨by omega, by omega⟩), ?_⟩
                        exact ih (at9 + 7) (k + 1) _ (by omega) ⟨by omega, by omega, by omega⟩ hrel2
                      · intro h23
                        refine ⟨by (omega), ?_⟩
                        exact absurd ev9 h23
                    · refine ⟨?_, ?_⟩
                      · intro h24
                        refine ⟨by (exact ⟨by omega, by omega⟩), ?_⟩
                        refine ⟨by ((first | omega | exact hX.1)), ?_⟩
                        refine ⟨by (exact ⟨by omega, by omega⟩), ?_⟩
                        refine ⟨by ((first | omega | exact hX.1)), ?_⟩
                        refine ⟨by (exact ⟨by omega, by omega⟩), ?_⟩
                        refine ⟨by ((first | omega | exact hX.1)), ?_⟩
                        obtain ⟨R8, hr8, hs8⟩ := sm_piece hrel (((X).2 (at9 + (1 : Int)))) (((X).2 (at9 + (2 : Int)))) (((X).2 (at9 + (3 : Int))))
                        refine ⟨_, hr8, ?_⟩
                        intro v37 u37 hv37
                        intro kv37
                        obtain ⟨hv37a, hv37b⟩ := hv37
                        obtain ⟨R9, hr9, hs9⟩ := hs8 _ _ kv37
                        refine ⟨by (exact ⟨by omega, by omega⟩), ?_⟩
                        refine ⟨by ((first | omega | exact hX.1)), ?_⟩
                        refine ⟨by (exact ⟨by omega, by omega⟩), ?_⟩
                        refine ⟨by ((first | omega | exact hX.1)), ?_⟩
                        refine ⟨by (exact ⟨by omega, by omega⟩), ?_⟩
                        refine ⟨by ((first | omega | exact hX.1)), ?_⟩
                        refine ⟨_, hr9, ?_⟩
                        intro v38 u38 hv38
                        intro kv38
                        obtain ⟨hv38a, hv38b⟩ := hv38
                        obtain ⟨ev9, hrel2⟩ := hs9 _ _ kv38
                        refine ⟨?_, ?_⟩
                        · intro h25
                          refine ⟨by (exact ⟨by omega, by omega⟩), ?_⟩
                          exact ih (at9 + 7) (k + 1) _ (by omega) ⟨by omega, by omega, by omega⟩ hrel2
                        · intro h26
                          refine ⟨by (omega), ?_⟩
                          exact absurd ev9 h26
                      · refine ⟨?_, ?_⟩
                        · intro h27
                          obtain ⟨R8, hr8, hs8⟩ := sm_loose hrel 
                          refine ⟨_, hr8, ?_⟩
                          intro v35 u35 hv35
                          intro kv35
                          obtain ⟨hv35a, hv35b⟩ := hv35
                          obtain ⟨R9, hr9, hs9⟩ := hs8 _ _ kv35
                          refine ⟨_, hr9, ?_⟩
                          intro v36 u36 hv36
                          intro kv36
                          obtain ⟨hv36a, hv36b⟩ := hv36
                          obtain ⟨ev9, hrel2⟩ := hs9 _ _ kv36
                          refine ⟨?_, ?_⟩
                          · intro h28
                            refine ⟨by (exact ⟨by omega, by omega⟩), ?_⟩
                            exact ih (at9 + 7) (k + 1) _ (by omega) ⟨by omega, by omega, by omega⟩ hrel2
                          · intro h29
                            refine ⟨by (omega), ?_⟩
                            exact absurd ev9 h29
                        · refine ⟨?_, ?_⟩
                          · intro h30
                            refine ⟨by (exact ⟨by omega, by omega⟩), ?_⟩
                            refine ⟨by ((first | omega | exact hX.1)), ?_⟩
                            refine ⟨by (exact ⟨by omega, by omega⟩), ?_⟩
                            refine ⟨by ((first | omega | exact hX.1)), ?_⟩
                            refine ⟨by (exact ⟨by omega, by omega⟩), ?_⟩
                            refine ⟨by ((first | omega | exact hX.1)), ?_⟩
                            refine ⟨by (exact ⟨by omega, by omega⟩), ?_⟩
                            refine ⟨by ((first | omega | exact hX.1)), ?_⟩
                            refine ⟨by (exact ⟨by omega, by omega⟩), ?_⟩
                            refine ⟨by ((first | omega | exact hX.1)), ?_⟩
                            refine ⟨by (exact ⟨by omega, by omega⟩), ?_⟩
                            refine ⟨by ((first | omega | exact hX.1)), ?_⟩
                            obtain ⟨R8, hr8, hs8⟩ := sm_form hrel (show 0 ≤ k ∧ k ≤ 511 from ⟨by omega, by omega⟩) (((X).2 (at9 + (1 : Int)))) (((X).2 (at9 + (2 : Int)))) (((X).2 (at9 + (3 : Int)))) (((X).2 (at9 + (4 : Int)))) (((X).2 (at9 + (5 : Int)))) (((X).2 (at9 + (6 : Int))))
                            refine ⟨_, hr8, ?_⟩
                            intro v33 u33 hv33
                            intro kv33
                            obtain ⟨hv33a, hv33b⟩ := hv33
                            obtain ⟨R9, hr9, hs9⟩ := hs8 _ _ kv33
                            refine ⟨by (exact ⟨by omega, by omega⟩), ?_⟩
                            refine ⟨by ((first | omega | exact hX.1)), ?_⟩
                            refine ⟨by (exact ⟨by omega, by omega⟩), ?_⟩
                            refine ⟨by ((first | omega | exact hX.1)), ?_⟩
                            refine ⟨by (exact ⟨by omega, by omega⟩), ?_⟩
                            refine ⟨by ((first | omega | exact hX.1)), ?_⟩
                            refine ⟨by (exact ⟨by omega, by omega⟩), ?_⟩
                            refine ⟨by ((first | omega | exact hX.1)), ?_⟩
                            refine ⟨by (exact ⟨by omega, by omega⟩), ?_⟩
                            refine ⟨by ((first | omega | exact hX.1)), ?_⟩
                            refine ⟨by (exact ⟨by omega, by omega⟩), ?_⟩
                            refine ⟨by ((first | omega | exact hX.1)), ?_⟩
                            refine ⟨_, hr9, ?_⟩
                            intro v34 u34 hv34
                            intro kv34
                            obtain ⟨hv34a, hv34b⟩ := hv34
                            obtain ⟨ev9, hrel2⟩ := hs9 _ _ kv34
                            refine ⟨?_, ?_⟩
                            · intro h31
                              refine ⟨by (exact ⟨by omega, by omega⟩), ?_⟩
                              exact ih (at9 + 7) (k + 1) _ (by omega) ⟨by omega, by omega, by omega⟩ hrel2
                            · intro h32
                              refine ⟨by (omega), ?_⟩
                              exact absurd ev9 h32
                          · refine ⟨?_, ?_⟩
                            · intro h33
                              refine ⟨by (exact ⟨by omega, by omega⟩), ?_⟩
                              refine ⟨by ((first | omega | exact hX.1)), ?_⟩
                              refine ⟨by (exact ⟨by omega, by omega⟩), ?_⟩
                              refine ⟨by ((first | omega | exact hX.1)), ?_⟩
                              refine ⟨by (exact ⟨by omega, by omega⟩), ?_⟩
                              refine ⟨by ((first | omega | exact hX.1)), ?_⟩
                              refine ⟨by (exact ⟨by omega, by omega⟩), ?_⟩
                              refine ⟨by ((first | omega | exact hX.1)), ?_⟩
                              refine ⟨by (exact ⟨by omega, by omega⟩), ?_⟩
                              refine ⟨by ((first | omega | exact hX.1)), ?_⟩
                              obtain ⟨R8, hr8, hs8⟩ := sm_seen hrel (((X).2 (at9 + (1 : Int)))) (((X).2 (at9 + (2 : Int)))) (((X).2 (at9 + (3 : Int)))) (((X).2 (at9 + (4 : Int)))) (((X).2 (at9 + (5 : Int))))
                              refine ⟨_, hr8, ?_⟩
                              intro v31 u31 hv31
                              intro kv31
                              obtain ⟨hv31a, hv31b⟩ := hv31
                              obtain ⟨R9, hr9, hs9⟩ := hs8 _ _ kv31
                              refine ⟨by (exact ⟨by omega, by omega⟩), ?_⟩
                              refine ⟨by ((first | omega | exact hX.1)), ?_⟩
                              refine ⟨by (exact ⟨by omega, by omega⟩), ?_⟩
                              refine ⟨by ((first | omega | exact hX.1)), ?_⟩
                              refine ⟨by (exact ⟨by omega, by omega⟩), ?_⟩
                              refine ⟨by ((first | omega | exact hX.1)), ?_⟩
                              refine ⟨by (exact ⟨by omega, by omega⟩), ?_⟩
                              refine ⟨by ((first | omega | exact hX.1)), ?_⟩
                              refine ⟨by (exact ⟨by omega, by omega⟩), ?_⟩
                              refine ⟨by ((first | omega | exact hX.1)), ?_⟩
                              refine ⟨_, hr9, ?_⟩
                              intro v32 u32 hv32
                              intro kv32
                              obtain ⟨hv32a, hv32b⟩ := hv32
                              obtain ⟨ev9, hrel2⟩ := hs9 _ _ kv32
                              refine ⟨?_, ?_⟩
                              · intro h34
                                refine ⟨by (exact ⟨by omega, by omega⟩), ?_⟩
                                exact ih (at9 + 7) (k + 1) _ (by omega) ⟨by omega, by omega, by omega⟩ hrel2
                              · intro h35
                                refine ⟨by (omega), ?_⟩
                                exact absurd ev9 h35
                            · refine ⟨?_, ?_⟩
                              · intro h36
                                refine ⟨by (exact ⟨by omega, by omega⟩), ?_⟩
                                refine ⟨by ((first | omega | exact hX.1)), ?_⟩
                                refine ⟨by (exact ⟨by omega, by omega⟩), ?_⟩
                                refine ⟨by ((first | omega | exact hX.1)), ?_⟩
                                refine ⟨by (exact ⟨by omega, by omega⟩), ?_⟩
                                refine ⟨by ((first | omega | exact hX.1)), ?_⟩
                                obtain ⟨R8, hr8, hs8⟩ := sm_pair hrel (show 0 ≤ k ∧ k ≤ 511 from ⟨by omega, by omega⟩) (((X).2 (at9 + (1 : Int)))) (((X).2 (at9 + (2 : Int)))) (((X).2 (at9 + (3 : Int))))
                                refine ⟨_, hr8, ?_⟩
                                intro v29 u29 hv29
                                intro kv29
                                obtain ⟨hv29a, hv29b⟩ := hv29
                                obtain ⟨R9, hr9, hs9⟩ := hs8 _ _ kv29
                                refine ⟨by (exact ⟨by omega, by omega⟩), ?_⟩
                                refine ⟨by ((first | omega | exact hX.1)), ?_⟩
                                refine ⟨by (exact ⟨by omega, by omega⟩), ?_⟩
                                refine ⟨by ((first | omega | exact hX.1)), ?_⟩
                                refine ⟨by (exact ⟨by omega, by omega⟩), ?_⟩
                                refine ⟨by ((first | omega | exact hX.1)), ?_⟩
                                refine ⟨_, hr9, ?_⟩
                                intro v30 u30 hv30
                                intro kv30
                                obtain ⟨hv30a, hv30b⟩ := hv30
                                obtain ⟨ev9, hrel2⟩ := hs9 _ _ kv30
                                refine ⟨?_, ?_⟩
                                · intro h37
                                  refine ⟨by (exact ⟨by omega, by omega⟩), ?_⟩
                                  exact ih (at9 + 7) (k + 1) _ (by omega) ⟨by omega, by omega, by omega⟩ hrel2
                                · intro h38
                                  refine ⟨by (omega), ?_⟩
                                  exact absurd ev9 h38
                              · refine ⟨?_, ?_⟩
                                · intro h39
                                  refine ⟨by (exact ⟨by omega, by omega⟩), ?_⟩
                                  refine ⟨by ((first | omega | exact hX.1)), ?_⟩
                                  obtain ⟨R8, hr8, hs8⟩ := sm_letter hrel (((X).2 (at9 + (1 : Int))))
                                  refine ⟨_, hr8, ?_⟩
                                  intro v27 u27 hv27
                                  intro kv27
                                  obtain ⟨hv27a, hv27b⟩ := hv27
                                  obtain ⟨R9, hr9, hs9⟩ := hs8 _ _ kv27
                                  refine ⟨by (exact ⟨by omega, by omega⟩), ?_⟩
                                  refine ⟨by ((first | omega | exact hX.1)), ?_⟩
                                  refine ⟨_, hr9, ?_⟩
                                  intro v28 u28 hv28
                                  intro kv28
                                  obtain ⟨hv28a, hv28b⟩ := hv28
                                  obtain ⟨ev9, hrel2⟩ := hs9 _ _ kv28
                                  refine ⟨?_, ?_⟩
                                  · intro h40
                                    refine ⟨by (exact ⟨by omega, by omega⟩), ?_⟩
                                    exact ih (at9 + 7) (k + 1) _ (by omega) ⟨by omega, by omega, by omega⟩ hrel2
                                  · intro h41
                                    refine ⟨by (omega), ?_⟩
                                    exact absurd ev9 h41
                                · refine ⟨?_, ?_⟩
                                  · intro h42
                                    obtain ⟨R8, hr8, hs8⟩ := sm_list hrel 
                                    refine ⟨_, hr8, ?_⟩
                                    intro v25 u25 hv25
                                    intro kv25
                                    obtain ⟨hv25a, hv25b⟩ := hv25
                                    obtain ⟨R9, hr9, hs9⟩ := hs8 _ _ kv25
                                    refine ⟨_, hr9, ?_⟩
                                    intro v26 u26 hv26
                                    intro kv26
                                    obtain ⟨hv26a, hv26b⟩ := hv26
                                    obtain ⟨ev9, hrel2⟩ := hs9 _ _ kv26
                                    refine ⟨?_, ?_⟩
                                    · intro h43
                                      refine ⟨by (exact ⟨by omega, by omega⟩), ?_⟩
                                      exact ih (at9 + 7) (k + 1) _ (by omega) ⟨by omega, by omega, by omega⟩ hrel2
                                    · intro h44
                                      refine ⟨by (omega), ?_⟩
                                      exact absurd ev9 h44
                                  · refine ⟨?_, ?_⟩
                                    · intro h45
                                      obtain ⟨R8, hr8, hs8⟩ := sm_wipe hrel 
                                      refine ⟨_, hr8, ?_⟩
                                      intro v23 u23 hv23
                                      intro kv23
                                      obtain ⟨hv23a, hv23b⟩ := hv23
                                      obtain ⟨R9, hr9, hs9⟩ := hs8 _ _ kv23
                                      refine ⟨_, hr9, ?_⟩
                                      intro v24 u24 hv24
                                      intro kv24
                                      obtain ⟨hv24a, hv24b⟩ := hv24
                                      obtain ⟨ev9, hrel2⟩ := hs9 _ _ kv24
                                      refine ⟨?_, ?_⟩
                                      · intro h46
                                        refine ⟨by (exact ⟨by omega, by omega⟩), ?_⟩
                                        exact ih (at9 + 7) (k + 1) _ (by omega) ⟨by omega, by omega, by omega⟩ hrel2
                                      · intro h47
                                        refine ⟨by (omega), ?_⟩
                                        exact absurd ev9 h47
                                    · refine ⟨?_, ?_⟩
                                      · intro h48
                                        refine ⟨by (exact ⟨by omega, by omega⟩), ?_⟩
                                        refine ⟨by ((first | omega | exact hX.1)), ?_⟩
                                        refine ⟨by (exact ⟨by omega, by omega⟩), ?_⟩
                                        refine ⟨by ((first | omega | exact hX.1)), ?_⟩
                                        refine ⟨by (exact ⟨by omega, by omega⟩), ?_⟩
                                        refine ⟨by ((first | omega | exact hX.1)), ?_⟩
                                        obtain ⟨R8, hr8, hs8⟩ := sm_listed hrel (((X).2 (at9 + (1 : Int)))) (((X).2 (at9 + (2 : Int)))) (((X).2 (at9 + (3 : Int))))
                                        refine ⟨_, hr8, ?_⟩
                                        intro v21 u21 hv21
                                        intro kv21
                                        obtain ⟨hv21a, hv21b⟩ := hv21
                                        obtain ⟨R9, hr9, hs9⟩ := hs8 _ _ kv21
                                        refine ⟨by (exact ⟨by omega, by omega⟩), ?_⟩
                                        refine ⟨by ((first | omega | exact hX.1)), ?_⟩
                                        refine ⟨by (exact ⟨by omega, by omega⟩), ?_⟩
                                        refine ⟨by ((first | omega | exact hX.1)), ?_⟩
                                        refine ⟨by (exact ⟨by omega, by omega⟩), ?_⟩
                                        refine ⟨by ((first | omega | exact hX.1)), ?_⟩
                                        refine ⟨_, hr9, ?_⟩
                                        intro v22 u22 hv22
                                        intro kv22
                                        obtain ⟨hv22a, hv22b⟩ := hv22
                                        obtain ⟨ev9, hrel2⟩ := hs9 _ _ kv22
                                        refine ⟨?_, ?_⟩
                                        · intro h49
                                          refine ⟨by (exact ⟨by omega, by omega⟩), ?_⟩
                                          exact ih (at9 + 7) (k + 1) _ (by omega) ⟨by omega, by omega, by omega⟩ hrel2
                                        · intro h50
                                          refine ⟨by (omega), ?_⟩
                                          exact absurd ev9 h50
                                      · refine ⟨?_, ?_⟩
                                        · intro h51
                                          refine ⟨by (exact ⟨by omega, by omega⟩), ?_⟩
                                          refine ⟨by ((first | omega | exact hX.1)), ?_⟩
                                          refine ⟨by (exact ⟨by omega, by omega⟩), ?_⟩
                                          refine ⟨by ((first | omega | exact hX.1)), ?_⟩
                                          refine ⟨by (exact ⟨by omega, by omega⟩), ?_⟩
                                          refine ⟨by ((first | omega | exact hX.1)), ?_⟩
                                          obtain ⟨R8, hr8, hs8⟩ := sm_open hrel (((X).2 (at9 + (1 : Int)))) (((X).2 (at9 + (2 : Int)))) (((X).2 (at9 + (3 : Int))))
                                          refine ⟨_, hr8, ?_⟩
                                          intro v19 u19 hv19
                                          intro kv19
                                          obtain ⟨hv19a, hv19b⟩ := hv19
                                          obtain ⟨R9, hr9, hs9⟩ := hs8 _ _ kv19
                                          refine ⟨by (exact ⟨by omega, by omega⟩), ?_⟩
                                          refine ⟨by ((first | omega | exact hX.1)), ?_⟩
                                          refine ⟨by (exact ⟨by omega, by omega⟩), ?_⟩
                                          refine ⟨by ((first | omega | exact hX.1)), ?_⟩
                                          refine ⟨by (exact ⟨by omega, by omega⟩), ?_⟩
                                          refine ⟨by ((first | omega | exact hX.1)), ?_⟩
                                          refine ⟨_, hr9, ?_⟩
                                          intro v20 u20 hv20
                                          intro kv20
                                          obtain ⟨hv20a, hv20b⟩ := hv20
                                          obtain ⟨ev9, hrel2⟩ := hs9 _ _ kv20
                                          refine ⟨?_, ?_⟩
                                          · intro h52
                                            refine ⟨by (exact ⟨by omega, by omega⟩), ?_⟩
                                            exact ih (at9 + 7) (k + 1) _ (by omega) ⟨by omega, by omega, by omega⟩ hrel2
                                          · intro h53
                                            refine ⟨by (omega), ?_⟩
                                            exact absurd ev9 h53
                                        · refine ⟨?_, ?_⟩
                                          · intro h54
                                            refine ⟨by (exact ⟨by omega, by omega⟩), ?_⟩
                                            refine ⟨by ((first | omega | exact hX.1)), ?_⟩
                                            obtain ⟨R8, hr8, hs8⟩ := sm_find hrel (((X).2 (at9 + (1 : Int))))
                                            refine ⟨_, hr8, ?_⟩
                                            intro v17 u17 hv17
                                            intro kv17
                                            obtain ⟨hv17a, hv17b⟩ := hv17
                                            obtain ⟨R9, hr9, hs9⟩ := hs8 _ _ kv17
                                            refine ⟨by (exact ⟨by omega, by omega⟩), ?_⟩
                                            refine ⟨by ((first | omega | exact hX.1)), ?_⟩
                                            refine ⟨_, hr9, ?_⟩
                                            intro v18 u18 hv18
                                            intro kv18
                                            obtain ⟨hv18a, hv18b⟩ := hv18
                                            obtain ⟨ev9, hrel2⟩ := hs9 _ _ kv18
                                            refine ⟨?_, ?_⟩
                                            · intro h55
                                              refine ⟨by (exact ⟨by omega, by omega⟩), ?_⟩
                                              exact ih (at9 + 7) (k + 1) _ (by omega) ⟨by omega, by omega, by omega⟩ hrel2
                                            · intro h56
                                              refine ⟨by (omega), ?_⟩
                                              exact absurd ev9 h56
                                          · refine ⟨?_, ?_⟩
                                            · intro h57
                                              refine ⟨by (exact ⟨by omega, by omega⟩), ?_⟩
                                              refine ⟨by ((first | omega | exact hX.1)), ?_⟩
                                              obtain ⟨R8, hr8, hs8⟩ := sm_teach hrel (show 0 ≤ k ∧ k ≤ 511 from ⟨by omega, by omega⟩) (((X).2 (at9 + (1 : Int))))
                                              refine ⟨_, hr8, ?_⟩
                                              intro v15 u15 hv15
                                              intro kv15
                                              obtain ⟨hv15a, hv15b⟩ := hv15
                                              obtain ⟨R9, hr9, hs9⟩ := hs8 _ _ kv15
                                              refine ⟨by (exact ⟨by omega, by omega⟩), ?_⟩
                                              refine ⟨by ((first | omega | exact hX.1)), ?_⟩
                                              refine ⟨_, hr9, ?_⟩
                                              intro v16 u16 hv16
                                              intro kv16
                                              obtain ⟨hv16a, hv16b⟩ := hv16
                                              obtain ⟨ev9, hrel2⟩ := hs9 _ _ kv16
                                              refine ⟨?_, ?_⟩
                                              · intro h58
                                                refine ⟨by (exact ⟨by omega, by omega⟩), ?_⟩
                                                exact ih (at9 + 7) (k + 1) _ (by omega) ⟨by omega, by omega, by omega⟩ hrel2
                                              · intro h59
                                                refine ⟨by (omega), ?_⟩
                                                exact absurd ev9 h59
                                            · refine ⟨?_, ?_⟩
                                              · intro h60
                                                obtain ⟨R8, hr8, hs8⟩ := sm_unteach hrel (show 0 ≤ k ∧ k ≤ 511 from ⟨by omega, by omega⟩) 
                                                refine ⟨_, hr8, ?_⟩
                                                intro v13 u13 hv13
                                                intro kv13
                                                obtain ⟨hv13a, hv13b⟩ := hv13
                                                obtain ⟨R9, hr9, hs9⟩ := hs8 _ _ kv13
                                                refine ⟨_, hr9, ?_⟩
                                                intro v14 u14 hv14
                                                intro kv14
                                                obtain ⟨hv14a, hv14b⟩ := hv14
                                                obtain ⟨ev9, hrel2⟩ := hs9 _ _ kv14
                                                refine ⟨?_, ?_⟩
                                                · intro h61
                                                  refine ⟨by (exact ⟨by omega, by omega⟩), ?_⟩
                                                  exact ih (at9 + 7) (k + 1) _ (by omega) ⟨by omega, by omega, by omega⟩ hrel2
                                                · intro h62
                                                  refine ⟨by (omega), ?_⟩
                                                  exact absurd ev9 h62
                                              · refine ⟨?_, ?_⟩
                                                · intro h63
                                                  refine ⟨by (exact ⟨by omega, by omega⟩), ?_⟩
                                                  refine ⟨by ((first | omega | exact hX.1)), ?_⟩
                                                  obtain ⟨R8, hr8, hs8⟩ := sm_kind hrel (((X).2 (at9 + (1 : Int))))
                                                  refine ⟨_, hr8, ?_⟩
                                                  intro v11 u11 hv11
                                                  intro kv11
                                                  obtain ⟨hv11a, hv11b⟩ := hv11
                                                  obtain ⟨R9, hr9, hs9⟩ := hs8 _ _ kv11
                                                  refine ⟨by (exact ⟨by omega, by omega⟩), ?_⟩
                                                  refine ⟨by ((first | omega | exact hX.1)), ?_⟩
                                                  refine ⟨_, hr9, ?_⟩
                                                  intro v12 u12 hv12
                                                  intro kv12
                                                  obtain ⟨hv12a, hv12b⟩ := hv12
                                                  obtain ⟨ev9, hrel2⟩ := hs9 _ _ kv12
                                                  refine ⟨?_, ?_⟩
                                                  · intro h64
                                                    refine ⟨by (exact ⟨by omega, by omega⟩), ?_⟩
                                                    exact ih (at9 + 7) (k + 1) _ (by omega) ⟨by omega, by omega, by omega⟩ hrel2
                                                  · intro h65
                                                    refine ⟨by (omega), ?_⟩
                                                    exact absurd ev9 h65
                                                · refine ⟨?_, ?_⟩
                                                  · intro h66
                                                    refine ⟨by (exact ⟨by omega, by omega⟩), ?_⟩
                                                    refine ⟨by ((first | omega | exact hX.1)), ?_⟩
                                                    refine ⟨by (exact ⟨by omega, by omega⟩), ?_⟩
                                                    refine ⟨by ((first | omega | exact hX.1)), ?_⟩
                                                    obtain ⟨R8, hr8, hs8⟩ := sm_as hrel (((X).2 (at9 + (1 : Int)))) (((X).2 (at9 + (2 : Int))))
                                                    refine ⟨_, hr8, ?_⟩
                                                    intro v9 u9 hv9
                                                    intro kv9
                                                    obtain ⟨hv9a, hv9b⟩ := hv9
                                                    obtain ⟨R9, hr9, hs9⟩ := hs8 _ _ kv9
                                                    refine ⟨by (exact ⟨by omega, by omega⟩), ?_⟩
                                                    refine ⟨by ((first | omega | exact hX.1)), ?_⟩
                                                    refine ⟨by (exact ⟨by omega, by omega⟩), ?_⟩
                                                    refine ⟨by ((first | omega | exact hX.1)), ?_⟩
                                                    refine ⟨_, hr9, ?_⟩
                                                    intro v10 u10 hv10
                                                    intro kv10
                                                    obtain ⟨hv10a, hv10b⟩ := hv10
                                                    obtain ⟨ev9, hrel2⟩ := hs9 _ _ kv10
                                                    refine ⟨?_, ?_⟩
                                                    · intro h67
                                                      refine ⟨by (exact ⟨by omega, by omega⟩), ?_⟩
                                                      exact ih (at9 + 7) (k + 1) _ (by omega) ⟨by omega, by omega, by omega⟩ hrel2
                                                    · intro h68
                                                      refine ⟨by (omega), ?_⟩
                                                      exact absurd ev9 h68
                                                  · refine ⟨?_, ?_⟩
                                                    · intro h69
                                                      refine ⟨by (exact ⟨by omega, by omega⟩), ?_⟩
                                                      refine ⟨by ((first | omega | exact hX.1)), ?_⟩
                                                      refine ⟨by (exact ⟨by omega, by omega⟩), ?_⟩
                                                      refine ⟨by ((first | omega | exact hX.1)), ?_⟩
                                                      obtain ⟨R8, hr8, hs8⟩ := sm_ask hrel (((X).2 (at9 + (1 : Int)))) (((X).2 (at9 + (2 : Int))))
                                                      refine ⟨_, hr8, ?_⟩
                                                      intro v7 u7 hv7
                                                      intro kv7
                                                      obtain ⟨hv7a, hv7b⟩ := hv7
                                                      obtain ⟨R9, hr9, hs9⟩ := hs8 _ _ kv7
                                                      refine ⟨by (exact ⟨by omega, by omega⟩), ?_⟩
                                                      refine ⟨by ((first | omega | exact hX.1)), ?_⟩
                                                      refine ⟨by (exact ⟨by omega, by omega⟩), ?_⟩
                                                      refine ⟨by ((first | omega | exact hX.1)), ?_⟩
                                                      refine ⟨_, hr9, ?_⟩
                                                      intro v8 u8 hv8
                                                      intro kv8
                                                      obtain ⟨hv8a, hv8b⟩ := hv8
                                                      obtain ⟨ev9, hrel2⟩ := hs9 _ _ kv8
                                                      refine ⟨?_, ?_⟩
                                                      · intro h70
                                                        refine ⟨by (exact ⟨by omega, by omega⟩), ?_⟩
                                                        exact ih (at9 + 7) (k + 1) _ (by omega) ⟨by omega, by omega, by omega⟩ hrel2
                                                      · intro h71
                                                        refine ⟨by (omega), ?_⟩
                                                        exact absurd ev9 h71
                                                    · refine ⟨?_, ?_⟩
                                                      · intro h72
                                                        refine ⟨by (exact ⟨by omega, by omega⟩), ?_⟩
                                                        refine ⟨by ((first | omega | exact hX.1)), ?_⟩
                                                        obtain ⟨R8, hr8, hs8⟩ := sm_trace hrel (((X).2 (at9 + (1 : Int))))
                                                        refine ⟨_, hr8, ?_⟩
                                                        intro v5 u5 hv5
                                                        intro kv5
                                                        obtain ⟨hv5a, hv5b⟩ := hv5
                                                        obtain ⟨R9, hr9, hs9⟩ := hs8 _ _ kv5
                                                        refine ⟨by (exact ⟨by omega, by omega⟩), ?_⟩
                                                        refine ⟨by ((first | omega | exact hX.1)), ?_⟩
                                                        refine ⟨_, hr9, ?_⟩
                                                        intro v6 u6 hv6
                                                        intro kv6
                                                        obtain ⟨hv6a, hv6b⟩ := hv6
                                                        obtain ⟨ev9, hrel2⟩ := hs9 _ _ kv6
                                                        refine ⟨?_, ?_⟩
                                                        · intro h73
                                                          refine ⟨by (exact ⟨by omega, by omega⟩), ?_⟩
                                                          exact ih (at9 + 7) (k + 1) _ (by omega) ⟨by omega, by omega, by omega⟩ hrel2
                                                        · intro h74
                                                          refine ⟨by (omega), ?_⟩
                                                          exact absurd ev9 h74
                                                      · refine ⟨?_, ?_⟩
                                                        · intro h75
                                                          refine ⟨by (exact ⟨by omega, by omega⟩), ?_⟩
                                                          refine ⟨by ((first | omega | exact hX.1)), ?_⟩
                                                          obtain ⟨R8, hr8, hs8⟩ := sm_count hrel (((X).2 (at9 + (1 : Int))))
                                                          refine ⟨_, hr8, ?_⟩
                                                          intro v3 u3 hv3
                                                          intro kv3
                                                          obtain ⟨hv3a, hv3b⟩ := hv3
                                                          obtain ⟨R9, hr9, hs9⟩ := hs8 _ _ kv3
                                                          refine ⟨by (exact ⟨by omega, by omega⟩), ?_⟩
                                                          refine ⟨by ((first | omega | exact hX.1)), ?_⟩
                                                          refine ⟨_, hr9, ?_⟩
                                                          intro v4 u4 hv4
                                                          intro kv4
                                                          obtain ⟨hv4a, hv4b⟩ := hv4
                                                          obtain ⟨ev9, hrel2⟩ := hs9 _ _ kv4
                                                          refine ⟨?_, ?_⟩
                                                          · intro h76
                                                            refine ⟨by (exact ⟨by omega, by omega⟩), ?_⟩
                                                            exact ih (at9 + 7) (k + 1) _ (by omega) ⟨by omega, by omega, by omega⟩ hrel2
                                                          · intro h77
                                                            refine ⟨by (omega), ?_⟩
                                                            exact absurd ev9 h77
                                                        · refine ⟨?_, ?_⟩
                                                          · intro h78
                                                            obtain ⟨R8, hr8, hs8⟩ := sm_status hrel 
                                                            refine ⟨_, hr8, ?_⟩
                                                            intro v1 u1 hv1
                                                            intro kv1
                                                            obtain ⟨hv1a, hv1b⟩ := hv1
                                                            obtain ⟨R9, hr9, hs9⟩ := hs8 _ _ kv1
                                                            refine ⟨_, hr9, ?_⟩
                                                            intro v2 u2 hv2
                                                            intro kv2
                                                            obtain ⟨hv2a, hv2b⟩ := hv2
                                                            obtain ⟨ev9, hrel2⟩ := hs9 _ _ kv2
                                                            refine ⟨?_, ?_⟩
                                                            · intro h79
                                                              refine ⟨by (exact ⟨by omega, by omega⟩), ?_⟩
                                                              exact ih (at9 + 7) (k + 1) _ (by omega) ⟨by omega, by omega, by omega⟩ hrel2
                                                            · intro h80
                                                              refine ⟨by (omega), ?_⟩
                                                              exact absurd ev9 h80
                                                          · trivial
      · intro h81
        refine ⟨by (exact ⟨by omega, by omega⟩), ?_⟩
        exact ih (at9 + 7) (k + 1) _ (by omega) ⟨by omega, by omega, by omega⟩ (zRel_up hrel)
