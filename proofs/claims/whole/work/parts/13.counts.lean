def zslot (σ : zS) (a b : Int) (v : Int) : Prop := (∃ j : Int, 0 ≤ j ∧ j < σ 3 3 ∧ σ 23 j = a ∧ σ 24 j = b ∧ v = 676 + j) ∨ v = -1 ∧ ∀ j : Int, 0 ≤ j → j < σ 3 3 → ¬ (σ 23 j = a ∧ σ 24 j = b)
set_option maxRecDepth 100000 in
set_option maxHeartbeats 4000000 in
theorem lp_slotOf {a : Int} {b : Int} {σ : zS} (hf : 0 ≤ σ 3 3 ∧ σ 3 3 ≤ 512) : ∀ (n : Nat) (k : Int), σ 3 3 - k < (n : Int) → (0 ≤ k ∧ k ≤ σ 3 3) → (∀ j : Int, 0 ≤ j → j < k → ¬ (σ 23 j = a ∧ σ 24 j = b)) → zRuns 0 zX0 (fun (v : Int) (u : zS) => σ = u ∧ zslot σ a b v) 2 [some (.inr (.inr (3, 0))), some (.inl a), some (.inl b), some (.inl k)] [] σ := by
  intro n
  induction n with
  | zero =>
    intro k hn h0 hk
    exfalso
    omega
  | succ n ih =>
    intro k hn h0 hk
    refine zwalk zmk_0 [(2, [true, true, true, true])] 3 ?_
    show (((σ 3 (3 : Int)) ≤ k → (σ = σ ∧ zslot σ a b (-1 : Int))) ∧ (k < (σ 3 (3 : Int)) → ((0 ≤ k ∧ k < (512 : Int)) ∧ ((¬ (σ 23 k) = a → (zI (k + (1 : Int)) ∧ zRuns 0 zX0 (fun (v : Int) (u : zS) => σ = u ∧ zslot σ a b v) 2 [some (.inr (.inr (3, 0))), some (.inl a), some (.inl b), some (.inl (k + (1 : Int)))] [] σ)) ∧ ((σ 23 k) = a → ((0 ≤ k ∧ k < (512 : Int)) ∧ ((¬ (σ 24 k) = b → (zI (k + (1 : Int)) ∧ zRuns 0 zX0 (fun (v : Int) (u : zS) => σ = u ∧ zslot σ a b v) 2 [some (.inr (.inr (3, 0))), some (.inl a), some (.inl b), some (.inl (k + (1 : Int)))] [] σ)) ∧ ((σ 24 k) = b → (zI ((676 : Int) + k) ∧ (σ = σ ∧ zslot σ a b ((676 : Int) + k)))))))))))
    refine ⟨?_, ?_⟩
    · intro h1
      exact ⟨rfl, Or.inr ⟨rfl, fun j h7 h8 => hk j h7 (by omega)⟩⟩
    · intro h2
      refine ⟨by (first | omega | exact ⟨by omega, by omega⟩ | exact ⟨by omega, by omega, by omega⟩ | exact ⟨by omega, by omega, by omega, by omega, by omega⟩), ?_⟩
      refine ⟨?_, ?_⟩
      · intro h3
        refine ⟨by (exact ⟨by omega, by omega⟩), ?_⟩
        exact ih _ (by omega) (by omega) (fun j h7 h8 q => by
          by_cases e : j = k
          · rw [e] at q; obtain ⟨q1, q2⟩ := q; contradiction
          · exact hk j h7 (by omega) q)
      · intro h4
        refine ⟨by (first | omega | exact ⟨by omega, by omega⟩ | exact ⟨by omega, by omega, by omega⟩ | exact ⟨by omega, by omega, by omega, by omega, by omega⟩), ?_⟩
        refine ⟨?_, ?_⟩
        · intro h5
          refine ⟨by (exact ⟨by omega, by omega⟩), ?_⟩
          exact ih _ (by omega) (by omega) (fun j h7 h8 q => by
            by_cases e : j = k
            · rw [e] at q; obtain ⟨q1, q2⟩ := q; contradiction
            · exact hk j h7 (by omega) q)
        · intro h6
          refine ⟨by (exact ⟨by omega, by omega⟩), ?_⟩
          exact ⟨rfl, Or.inl ⟨k, by omega, by omega, by assumption, by assumption, rfl⟩⟩
set_option maxRecDepth 100000 in
set_option maxHeartbeats 4000000 in
theorem am_X0_slotOf {σ : zS} {a : Int} {b : Int} (hf : 0 ≤ σ 3 3 ∧ σ 3 3 ≤ 512) : zAM 0 [.inr (.inr (3, 0)), .inl a, .inl b] σ (fun (v : Int) (u : zS) => σ = u ∧ zslot σ a b v) := by
  refine zam (by decide) (Nat.le_of_ble_eq_true rfl) ?_
  refine zwalk zmk_0 [(2, [true, true, true, true])] 2 ?_
  show zRuns 0 zX0 (fun (v : Int) (u : zS) => σ = u ∧ zslot σ a b v) 2 [some (.inr (.inr (3, 0))), some (.inl a), some (.inl b), some (.inl (0 : Int))] [] σ
  exact lp_slotOf hf 514 0 (by omega) (by omega) (fun j _ _ => by omega)
set_option maxRecDepth 100000 in
set_option maxHeartbeats 4000000 in
theorem am_X0_slotMadeFor {σ : zS} {a : Int} {b : Int} (hf : 0 ≤ σ 3 3 ∧ σ 3 3 ≤ 511) : zAM 1 [.inr (.inr (3, 0)), .inl a, .inl b] σ (fun (v : Int) (u : zS) => (zslot σ a b v ∧ 0 ≤ v ∧ σ = u) ∨ (zslot σ a b (-1) ∧ zup (zup (zup σ 23 (σ 3 3) a) 24 (σ 3 3) b) 3 3 (σ 3 3 + 1) = u ∧ 676 + σ 3 3 = v)) := by
  refine zam (by decide) (Nat.le_of_ble_eq_true rfl) ?_
  refine zwalk zmk_1 [] 3 ?_
  show (∃ Rc : Int → zS → Prop, zAM 0 [.inr (.inr (3, 0)), .inl a, .inl b] σ Rc ∧ ∀ (v1 : Int) (u1 : zS), zI v1 → Rc v1 u1 → ((0 ≤ v1 → ((zslot σ a b v1 ∧ 0 ≤ v1 ∧ σ = u1) ∨ (zslot σ a b (-1) ∧ zup (zup (zup σ 23 (σ 3 3) a) 24 (σ 3 3) b) 3 3 (σ 3 3 + 1) = u1 ∧ 676 + σ 3 3 = v1))) ∧ (v1 < 0 → (((u1 3 (3 : Int)) < (512 : Int) → ((0 ≤ (u1 3 (3 : Int)) ∧ (u1 3 (3 : Int)) < (512 : Int)) ∧ ((0 ≤ (u1 3 (3 : Int)) ∧ (u1 3 (3 : Int)) < (512 : Int)) ∧ (zI ((u1 3 (3 : Int)) + (1 : Int)) ∧ (zI ((676 : Int) + ((u1 3 (3 : Int)) + (1 : Int))) ∧ (zI (((676 : Int) + ((u1 3 (3 : Int)) + (1 : Int))) - (1 : Int)) ∧ ((zslot σ a b (((676 : Int) + ((u1 3 (3 : Int)) + (1 : Int))) - (1 : Int)) ∧ 0 ≤ (((676 : Int) + ((u1 3 (3 : Int)) + (1 : Int))) - (1 : Int)) ∧ σ = (zup (zup (zup u1 23 (u1 3 (3 : Int)) a) 24 (u1 3 (3 : Int)) b) 3 (3 : Int) ((u1 3 (3 : Int)) + (1 : Int)))) ∨ (zslot σ a b (-1) ∧ zup (zup (zup σ 23 (σ 3 3) a) 24 (σ 3 3) b) 3 3 (σ 3 3 + 1) = (zup (zup (zup u1 23 (u1 3 (3 : Int)) a) 24 (u1 3 (3 : Int)) b) 3 (3 : Int) ((u1 3 (3 : Int)) + (1 : Int))) ∧ 676 + σ 3 3 = (((676 : Int) + ((u1 3 (3 : Int)) + (1 : Int))) - (1 : Int)))))))))) ∧ ((512 : Int) ≤ (u1 3 (3 : Int)) → ((zslot σ a b v1 ∧ 0 ≤ v1 ∧ σ = u1) ∨ (zslot σ a b (-1) ∧ zup (zup (zup σ 23 (σ 3 3) a) 24 (σ 3 3) b) 3 3 (σ 3 3 + 1) = u1 ∧ 676 + σ 3 3 = v1)))))))
  refine ⟨_, am_X0_slotOf (by omega), ?_⟩
  intro v1 u1 hv1
  rintro ⟨rfl, ev1⟩
  obtain ⟨hv1a, hv1b⟩ := hv1
  refine ⟨?_, ?_⟩
  · intro h1
    exact Or.inl ⟨ev1, by omega, rfl⟩
  · intro h2
    refine ⟨?_, ?_⟩
    · intro h3
      refine ⟨by (first | omega | exact ⟨by omega, by omega⟩ | exact ⟨by omega, by omega, by omega⟩ | exact ⟨by omega, by omega, by omega, by omega, by omega⟩), ?_⟩
      refine ⟨by (first | omega | exact ⟨by omega, by omega⟩ | exact ⟨by omega, by omega, by omega⟩ | exact ⟨by omega, by omega, by omega, by omega, by omega⟩), ?_⟩
      refine ⟨by (exact ⟨by omega, by omega⟩), ?_⟩
      refine ⟨by (exact ⟨by omega, by omega⟩), ?_⟩
      refine ⟨by (exact ⟨by omega, by omega⟩), ?_⟩
      have e : v1 = -1 := by
        rcases ev1 with ⟨j, a1, a2, a3, a4, a5⟩ | q
        · omega
        · exact q.1
      rw [e] at ev1
      exact Or.inr ⟨ev1, rfl, by omega⟩
    · intro h4
      exfalso; omega
set_option maxRecDepth 100000 in
set_option maxHeartbeats 4000000 in
theorem am_X0_raise {σ : zS} {s : Int} {n : Int} (hs : 0 ≤ s ∧ s < 1188) (hn : 0 ≤ n ∧ n ≤ 99) (hc : 0 ≤ σ 22 s ∧ σ 22 s ≤ 999) (hu : 0 ≤ σ 3 6) : zAM 2 [.inr (.inr (3, 0)), .inl s, .inl n] σ (fun (v : Int) (u : zS) => zup (if 0 < σ 3 8 ∧ σ 3 6 < 1024 then zup (zup (zup σ 25 (σ 3 6) s) 26 (σ 3 6) (σ 22 s)) 3 6 (σ 3 6 + 1) else σ) 22 s (min 999 (σ 22 s + n)) = u ∧ min 999 (σ 22 s + n) = v) := by
  refine zam (by decide) (Nat.le_of_ble_eq_true rfl) ?_
  refine zwalk zmk_2 [] 4 ?_
  show ((s < 0 → (zup (if 0 < σ 3 8 ∧ σ 3 6 < 1024 then zup (zup (zup σ 25 (σ 3 6) s) 26 (σ 3 6) (σ 22 s)) 3 6 (σ 3 6 + 1) else σ) 22 s (min 999 (σ 22 s + n)) = σ ∧ min 999 (σ 22 s + n) = (0 : Int))) ∧ (0 ≤ s → ((s < (1188 : Int) → (((σ 3 (8 : Int)) ≤ 0 → ((0 ≤ s ∧ s < (1188 : Int)) ∧ (zI ((σ 22 s) + n) ∧ ((0 ≤ s ∧ s < (1188 : Int)) ∧ ((0 ≤ s ∧ s < (1188 : Int)) ∧ (zup (if 0 < σ 3 8 ∧ σ 3 6 < 1024 then zup (zup (zup σ 25 (σ 3 6) s) 26 (σ 3 6) (σ 22 s)) 3 6 (σ 3 6 + 1) else σ) 22 s (min 999 (σ 22 s + n)) = (zup σ 22 s (min (999 : Int) ((σ 22 s) + n))) ∧ min 999 (σ 22 s + n) = (if s = s then (min (999 : Int) ((σ 22 s) + n)) else (σ 22 s)))))))) ∧ (0 < (σ 3 (8 : Int)) → (((1024 : Int) ≤ (σ 3 (6 : Int)) → ((0 ≤ s ∧ s < (1188 : Int)) ∧ (zI ((σ 22 s) + n) ∧ ((0 ≤ s ∧ s < (1188 : Int)) ∧ ((0 ≤ s ∧ s < (1188 : Int)) ∧ (zup (if 0 < σ 3 8 ∧ σ 3 6 < 1024 then zup (zup (zup σ 25 (σ 3 6) s) 26 (σ 3 6) (σ 22 s)) 3 6 (σ 3 6 + 1) else σ) 22 s (min 999 (σ 22 s + n)) = (zup σ 22 s (min (999 : Int) ((σ 22 s) + n))) ∧ min 999 (σ 22 s + n) = (if s = s then (min (999 : Int) ((σ 22 s) + n)) else (σ 22 s)))))))) ∧ ((σ 3 (6 : Int)) < (1024 : Int) → ((0 ≤ (σ 3 (6 : Int)) ∧ (σ 3 (6 : Int)) < (1024 : Int)) ∧ ((0 ≤ s ∧ s < (1188 : Int)) ∧ ((0 ≤ (σ 3 (6 : Int)) ∧ (σ 3 (6 : Int)) < (1024 : Int)) ∧ (zI ((σ 3 (6 : Int)) + (1 : Int)) ∧ ((0 ≤ s ∧ s < (1188 : Int)) ∧ (zI ((σ 22 s) + n) ∧ ((0 ≤ s ∧ s < (1188 : Int)) ∧ ((0 ≤ s ∧ s < (1188 : Int)) ∧ (zup (if 0 < σ 3 8 ∧ σ 3 6 < 1024 then zup (zup (zup σ 25 (σ 3 6) s) 26 (σ 3 6) (σ 22 s)) 3 6 (σ 3 6 + 1) else σ) 22 s (min 999 (σ 22 s + n)) = (zup (zup (zup (zup σ 25 (σ 3 (6 : Int)) s) 26 (σ 3 (6 : Int)) (σ 22 s)) 3 (6 : Int) ((σ 3 (6 : Int)) + (1 : Int))) 22 s (min (999 : Int) ((σ 22 s) + n))) ∧ min 999 (σ 22 s + n) = (if s = s then (min (999 : Int) ((σ 22 s) + n)) else (σ 22 s)))))))))))))))) ∧ ((1188 : Int) ≤ s → (zup (if 0 < σ 3 8 ∧ σ 3 6 < 1024 then zup (zup (zup σ 25 (σ 3 6) s) 26 (σ 3 6) (σ 22 s)) 3 6 (σ 3 6 + 1) else σ) 22 s (min 999 (σ 22 s + n)) = σ ∧ min 999 (σ 22 s + n) = (0 : Int))))))
  refine ⟨?_, ?_⟩
  · intro h1
    (exfalso; omega)
  · intro h2
    refine ⟨?_, ?_⟩
    · intro h3
      refine ⟨?_, ?_⟩
      · intro h4
        refine ⟨by (first | omega | exact ⟨by omega, by omega⟩ | exact ⟨by omega, by omega, by omega⟩ | exact ⟨by omega, by omega, by omega, by omega, by omega⟩), ?_⟩
        refine ⟨by (exact ⟨by omega, by omega⟩), ?_⟩
        refine ⟨by (first | omega | exact ⟨by omega, by omega⟩ | exact ⟨by omega, by omega, by omega⟩ | exact ⟨by omega, by omega, by omega, by omega, by omega⟩), ?_⟩
        refine ⟨by (first | omega | exact ⟨by omega, by omega⟩ | exact ⟨by omega, by omega, by omega⟩ | exact ⟨by omega, by omega, by omega, by omega, by omega⟩), ?_⟩
        rw [if_neg (show ¬ (0 < σ 3 8 ∧ σ 3 6 < 1024) by omega)]; exact ⟨rfl, (if_pos rfl).symm⟩
      · intro h5
        refine ⟨?_, ?_⟩
        · intro h6
          refine ⟨by (first | omega | exact ⟨by omega, by omega⟩ | exact ⟨by omega, by omega, by omega⟩ | exact ⟨by omega, by omega, by omega, by omega, by omega⟩), ?_⟩
          refine ⟨by (exact ⟨by omega, by omega⟩), ?_⟩
          refine ⟨by (first | omega | exact ⟨by omega, by omega⟩ | exact ⟨by omega, by omega, by omega⟩ | exact ⟨by omega, by omega, by omega, by omega, by omega⟩), ?_⟩
          refine ⟨by (first | omega | exact ⟨by omega, by omega⟩ | exact ⟨by omega, by omega, by omega⟩ | exact ⟨by omega, by omega, by omega, by omega, by omega⟩), ?_⟩
          rw [if_neg (show ¬ (0 < σ 3 8 ∧ σ 3 6 < 1024) by omega)]; exact ⟨rfl, (if_pos rfl).symm⟩
        · intro h7
          refine ⟨by (first | omega | exact ⟨by omega, by omega⟩ | exact ⟨by omega, by omega, by omega⟩ | exact ⟨by omega, by omega, by omega, by omega, by omega⟩), ?_⟩
          refine ⟨by (first | omega | exact ⟨by omega, by omega⟩ | exact ⟨by omega, by omega, by omega⟩ | exact ⟨by omega, by omega, by omega, by omega, by omega⟩), ?_⟩
          refine ⟨by (first | omega | exact ⟨by omega, by omega⟩ | exact ⟨by omega, by omega, by omega⟩ | exact ⟨by omega, by omega, by omega, by omega, by omega⟩), ?_⟩
          refine ⟨by (exact ⟨by omega, by omega⟩), ?_⟩
          refine ⟨by (first | omega | exact ⟨by omega, by omega⟩ | exact ⟨by omega, by omega, by omega⟩ | exact ⟨by omega, by omega, by omega, by omega, by omega⟩), ?_⟩
          refine ⟨by (exact ⟨by omega, by omega⟩), ?_⟩
          refine ⟨by (first | omega | exact ⟨by omega, by omega⟩ | exact ⟨by omega, by omega, by omega⟩ | exact ⟨by omega, by omega, by omega, by omega, by omega⟩), ?_⟩
          refine ⟨by (first | omega | exact ⟨by omega, by omega⟩ | exact ⟨by omega, by omega, by omega⟩ | exact ⟨by omega, by omega, by omega, by omega, by omega⟩), ?_⟩
          rw [if_pos (show 0 < σ 3 8 ∧ σ 3 6 < 1024 by omega)]; exact ⟨rfl, (if_pos rfl).symm⟩
    · intro h8
      (exfalso; omega)
set_option maxRecDepth 100000 in
set_option maxHeartbeats 4000000 in
theorem am_X0_beginTeaching {σ : zS} (ht : 0 ≤ σ 3 8 ∧ σ 3 8 < 50) : zAM 3 [.inr (.inr (3, 0))] σ (fun (v : Int) (u : zS) => zup (zup σ 27 (σ 3 8) (σ 3 6)) 3 8 (σ 3 8 + 1) = u) := by
  refine zam (by decide) (Nat.le_of_ble_eq_true rfl) ?_
  refine zwalk zmk_3 [] 3 ?_
  show (((50 : Int) ≤ (σ 3 (8 : Int)) → (zup (zup σ 27 (σ 3 8) (σ 3 6)) 3 8 (σ 3 8 + 1) = σ)) ∧ ((σ 3 (8 : Int)) < (50 : Int) → ((0 ≤ (σ 3 (8 : Int)) ∧ (σ 3 (8 : Int)) < (50 : Int)) ∧ (zI ((σ 3 (8 : Int)) + (1 : Int)) ∧ (zup (zup σ 27 (σ 3 8) (σ 3 6)) 3 8 (σ 3 8 + 1) = (zup (zup σ 27 (σ 3 (8 : Int)) (σ 3 (6 : Int))) 3 (8 : Int) ((σ 3 (8 : Int)) + (1 : Int))))))))
  refine ⟨?_, ?_⟩
  · intro h1
    (exfalso; omega)
  · intro h2
    refine ⟨by (first | omega | exact ⟨by omega, by omega⟩ | exact ⟨by omega, by omega, by omega⟩ | exact ⟨by omega, by omega, by omega, by omega, by omega⟩), ?_⟩
    refine ⟨by (exact ⟨by omega, by omega⟩), ?_⟩
    rfl
