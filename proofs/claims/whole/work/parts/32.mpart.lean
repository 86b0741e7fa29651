set_option maxRecDepth 100000 in
set_option maxHeartbeats 4000000 in
theorem lp_aa {σ : zS} {R : Int → zS → Prop} {g : Int} {n : Nat} (hn : σ 9 5 = (n : Int)) (hn40 : n ≤ 40) (hg : σ 9 12 = g) (hgr : 0 ≤ g ∧ g ≤ 100) (hx : ∀ j : Int, 0 ≤ j → j < n → 0 ≤ σ 41 j ∧ σ 41 j ≤ 2000) (K : ∀ s : zS, zfr [9, 43, 45, 46] σ s → (∀ j : Int, ¬ j = 11 → ¬ j = 13 → s 9 j = σ 9 j) → s 9 11 = 0 → s 9 13 = zbk (σ 41) g n → (∀ j : Int, 0 ≤ j → j ≤ zbk (σ 41) g n → s 45 j = zmF (σ 41) g n j) → (∀ j : Int, 0 ≤ j → j < zbk (σ 41) g n → s 46 j = 0) → (∀ j : Int, 0 ≤ j → j < (n : Int) → s 43 j = 0) → zRuns 112 zX0 R 108 [some (.inr (.inr (9, 0))), some (.inl (0 : Int)), none, none, none, none, none] [] s) : ∀ (m k : Nat) (s : zS), k + m = n → (zfr [9, 43, 45, 46] σ s ∧ (∀ j : Int, ¬ j = 13 → s 9 j = σ 9 j) ∧ s 9 13 = zbk (σ 41) g k ∧ (∀ j : Int, 0 ≤ j → j < zbk (σ 41) g k → s 45 j = zfs (σ 41) g k j ∧ s 46 j = 0) ∧ ∀ j : Int, 0 ≤ j → j < (k : Int) → s 43 j = 0) → zRuns 112 zX0 R 11 [some (.inr (.inr (9, 0))), some (.inl (k : Int)), none, none, none, none, none] [] s := by
  intro m
  induction m with
  | zero =>
    intro k s hk hi
    obtain ⟨hf, i2, hp, ha, hz⟩ := hi
    have e5 := i2 5 (by decide)
    have hl := zbk_le (σ 41) g k
    obtain rfl : n = k := by omega
    refine zwalk zmk_112 [(11, [true, true, false, false, false, false, false]), (108, [true, true, false, false, false, false, false])] 3 ?_
    show (((s 9 (5 : Int)) ≤ (n : Int) → ((0 ≤ (s 9 (13 : Int)) ∧ (s 9 (13 : Int)) < (41 : Int)) ∧ zRuns 112 zX0 R 108 [some (.inr (.inr (9, 0))), some (.inl (0 : Int)), none, none, none, none, none] [] (zup (zup s 45 (s 9 (13 : Int)) (s 9 (5 : Int))) 9 (11 : Int) (0 : Int)))) ∧ ((n : Int) < (s 9 (5 : Int)) → ((0 ≤ (n : Int) ∧ (n : Int) < (40 : Int)) ∧ (((n : Int) = 0 → ((0 ≤ (s 9 (13 : Int)) ∧ (s 9 (13 : Int)) < (41 : Int)) ∧ ((0 ≤ (s 9 (13 : Int)) ∧ (s 9 (13 : Int)) < (40 : Int)) ∧ (zI ((s 9 (13 : Int)) + (1 : Int)) ∧ (zI ((n : Int) + (1 : Int)) ∧ zRuns 112 zX0 R 11 [some (.inr (.inr (9, 0))), some (.inl ((n : Int) + (1 : Int))), none, none, none, none, none] [] (zup (zup (zup (zup s 43 (n : Int) (0 : Int)) 45 (s 9 (13 : Int)) (n : Int)) 46 (s 9 (13 : Int)) (0 : Int)) 9 (13 : Int) ((s 9 (13 : Int)) + (1 : Int)))))))) ∧ (¬ (n : Int) = 0 → ((0 ≤ (n : Int) ∧ (n : Int) < (40 : Int)) ∧ (zI ((n : Int) - (1 : Int)) ∧ ((0 ≤ ((n : Int) - (1 : Int)) ∧ ((n : Int) - (1 : Int)) < (40 : Int)) ∧ (zI ((s 41 ((n : Int) - (1 : Int))) + (s 9 (12 : Int))) ∧ (((s 41 (n : Int)) ≤ ((s 41 ((n : Int) - (1 : Int))) + (s 9 (12 : Int))) → (zI ((n : Int) + (1 : Int)) ∧ zRuns 112 zX0 R 11 [some (.inr (.inr (9, 0))), some (.inl ((n : Int) + (1 : Int))), none, none, none, none, none] [] (zup s 43 (n : Int) (0 : Int)))) ∧ (((s 41 ((n : Int) - (1 : Int))) + (s 9 (12 : Int))) < (s 41 (n : Int)) → ((0 ≤ (s 9 (13 : Int)) ∧ (s 9 (13 : Int)) < (41 : Int)) ∧ ((0 ≤ (s 9 (13 : Int)) ∧ (s 9 (13 : Int)) < (40 : Int)) ∧ (zI ((s 9 (13 : Int)) + (1 : Int)) ∧ (zI ((n : Int) + (1 : Int)) ∧ zRuns 112 zX0 R 11 [some (.inr (.inr (9, 0))), some (.inl ((n : Int) + (1 : Int))), none, none, none, none, none] [] (zup (zup (zup (zup s 43 (n : Int) (0 : Int)) 45 (s 9 (13 : Int)) (n : Int)) 46 (s 9 (13 : Int)) (0 : Int)) 9 (13 : Int) ((s 9 (13 : Int)) + (1 : Int))))))))))))))))))
    rw [hp]
    refine ⟨?_, ?_⟩
    · intro h1
      refine ⟨by (first | exact ⟨by omega, by omega⟩ | (exfalso; omega)), ?_⟩
      refine K _ ((hf.up (c := 45) (by decide)).up (c := 9) (by decide)) (fun j j1 j2 => ?_) (if_pos rfl) ?_ (fun j j0 j1 => ?_) (fun j j0 j1 => ?_) (fun j j0 j1 => ?_)
      · show (if j = 11 then (0 : Int) else s 9 j) = _
        rw [if_neg j1]; exact i2 j j2
      · show (if (13 : Int) = 11 then (0 : Int) else s 9 13) = _
        rw [if_neg (by decide)]; exact hp
      · show (if j = zbk (σ 41) g n then s 9 5 else s 45 j) = _
        unfold zmF
        by_cases e : j = zbk (σ 41) g n
        · rw [if_pos e, if_pos e, e5, hn]
        · rw [if_neg e, if_neg e]; exact (ha j j0 (by omega)).1
      · exact (ha j j0 j1).2
      · exact hz j j0 j1
    · intro h2
      refine ⟨by (first | exact ⟨by omega, by omega⟩ | (exfalso; omega)), ?_⟩
      refine ⟨?_, ?_⟩
      · intro h3
        refine ⟨by (first | exact ⟨by omega, by omega⟩ | (exfalso; omega)), ?_⟩
        refine ⟨by (first | exact ⟨by omega, by omega⟩ | (exfalso; omega)), ?_⟩
        refine ⟨by (first | exact ⟨by omega, by omega⟩ | (exfalso; omega)), ?_⟩
        refine ⟨by (first | exact ⟨by omega, by omega⟩ | (exfalso; omega)), ?_⟩
        exfalso; omega
      · intro h4
        refine ⟨by (first | exact ⟨by omega, by omega⟩ | (exfalso; omega)), ?_⟩
        refine ⟨by (first | exact ⟨by omega, by omega⟩ | (exfalso; omega)), ?_⟩
        refine ⟨by (first | exact ⟨by omega, by omega⟩ | (exfalso; omega)), ?_⟩
        refine ⟨by (first | exact ⟨by omega, by omega⟩ | (exfalso; omega)), ?_⟩
        refine ⟨?_, ?_⟩
        · intro h5
          refine ⟨by (first | exact ⟨by omega, by omega⟩ | (exfalso; omega)), ?_⟩
          exfalso; omega
        · intro h6
          refine ⟨by (first | exact ⟨by omega, by omega⟩ | (exfalso; omega)), ?_⟩
          refine ⟨by (first | exact ⟨by omega, by omega⟩ | (exfalso; omega)), ?_⟩
          refine ⟨by (first | exact ⟨by omega, by omega⟩ | (exfalso; omega)), ?_⟩
          refine ⟨by (first | exact ⟨by omega, by omega⟩ | (exfalso; omega)), ?_⟩
          exfalso; omega
  | succ m ih =>
    intro k s hk hi
    obtain ⟨hf, i2, hp, ha, hz⟩ := hi
    have e5 := i2 5 (by decide)
    have e12 := i2 12 (by decide)
    have e41 : s 41 = σ 41 := hf 41 (by decide)
    have hl := zbk_le (σ 41) g k
    have hxk := hx k (by omega) (by omega)
    have hxp := hx ((k : Int) - 1)
    have ec : ((k + 1 : Nat) : Int) = (k : Int) + 1 := by omega
    refine zwalk zmk_112 [(11, [true, true, false, false, false, false, false]), (108, [true, true, false, false, false, false, false])] 3 ?_
    show (((s 9 (5 : Int)) ≤ (k : Int) → ((0 ≤ (s 9 (13 : Int)) ∧ (s 9 (13 : Int)) < (41 : Int)) ∧ zRuns 112 zX0 R 108 [some (.inr (.inr (9, 0))), some (.inl (0 : Int)), none, none, none, none, none] [] (zup (zup s 45 (s 9 (13 : Int)) (s 9 (5 : Int))) 9 (11 : Int) (0 : Int)))) ∧ ((k : Int) < (s 9 (5 : Int)) → ((0 ≤ (k : Int) ∧ (k : Int) < (40 : Int)) ∧ (((k : Int) = 0 → ((0 ≤ (s 9 (13 : Int)) ∧ (s 9 (13 : Int)) < (41 : Int)) ∧ ((0 ≤ (s 9 (13 : Int)) ∧ (s 9 (13 : Int)) < (40 : Int)) ∧ (zI ((s 9 (13 : Int)) + (1 : Int)) ∧ (zI ((k : Int) + (1 : Int)) ∧ zRuns 112 zX0 R 11 [some (.inr (.inr (9, 0))), some (.inl ((k : Int) + (1 : Int))), none, none, none, none, none] [] (zup (zup (zup (zup s 43 (k : Int) (0 : Int)) 45 (s 9 (13 : Int)) (k : Int)) 46 (s 9 (13 : Int)) (0 : Int)) 9 (13 : Int) ((s 9 (13 : Int)) + (1 : Int)))))))) ∧ (¬ (k : Int) = 0 → ((0 ≤ (k : Int) ∧ (k : Int) < (40 : Int)) ∧ (zI ((k : Int) - (1 : Int)) ∧ ((0 ≤ ((k : Int) - (1 : Int)) ∧ ((k : Int) - (1 : Int)) < (40 : Int)) ∧ (zI ((s 41 ((k : Int) - (1 : Int))) + (s 9 (12 : Int))) ∧ (((s 41 (k : Int)) ≤ ((s 41 ((k : Int) - (1 : Int))) + (s 9 (12 : Int))) → (zI ((k : Int) + (1 : Int)) ∧ zRuns 112 zX0 R 11 [some (.inr (.inr (9, 0))), some (.inl ((k : Int) + (1 : Int))), none, none, none, none, none] [] (zup s 43 (k : Int) (0 : Int)))) ∧ (((s 41 ((k : Int) - (1 : Int))) + (s 9 (12 : Int))) < (s 41 (k : Int)) → ((0 ≤ (s 9 (13 : Int)) ∧ (s 9 (13 : Int)) < (41 : Int)) ∧ ((0 ≤ (s 9 (13 : Int)) ∧ (s 9 (13 : Int)) < (40 : Int)) ∧ (zI ((s 9 (13 : Int)) + (1 : Int)) ∧ (zI ((k : Int) + (1 : Int)) ∧ zRuns 112 zX0 R 11 [some (.inr (.inr (9, 0))), some (.inl ((k : Int) + (1 : Int))), none, none, none, none, none] [] (zup (zup (zup (zup s 43 (k : Int) (0 : Int)) 45 (s 9 (13 : Int)) (k : Int)) 46 (s 9 (13 : Int)) (0 : Int)) 9 (13 : Int) ((s 9 (13 : Int)) + (1 : Int))))))))))))))))))
    rw [e41, hp, e5, e12]
    refine ⟨?_, ?_⟩
    · intro h1
      refine ⟨by (first | exact ⟨by omega, by omega⟩ | (exfalso; omega)), ?_⟩
      exfalso; omega
    · intro h2
      refine ⟨by (first | exact ⟨by omega, by omega⟩ | (exfalso; omega)), ?_⟩
      refine ⟨?_, ?_⟩
      · intro h3
        refine ⟨by (first | exact ⟨by omega, by omega⟩ | (exfalso; omega)), ?_⟩
        refine ⟨by (first | exact ⟨by omega, by omega⟩ | (exfalso; omega)), ?_⟩
        refine ⟨by (first | exact ⟨by omega, by omega⟩ | (exfalso; omega)), ?_⟩
        refine ⟨by (first | exact ⟨by omega, by omega⟩ | (exfalso; omega)), ?_⟩
        have hbr : k = 0 ∨ g < σ 41 k - σ 41 ((k : Int) - 1) := by omega
        have hb := zbk_y hbr
        rw [← ec]
        refine ih (k + 1) _ (by omega) ⟨(((hf.up (c := 43) (by decide)).up (c := 45) (by decide)).up (c := 46) (by decide)).up (c := 9) (by decide), fun j hj => ?_, ?_, fun j q0 q1 => ?_, fun j q0 q1 => ?_⟩
        · show (if j = 13 then _ else s 9 j) = _
          rw [if_neg hj]; exact i2 j hj
        · rw [hb.1]; exact if_pos rfl
        · show (if j = zbk (σ 41) g k then (k : Int) else s 45 j) = _ ∧ (if j = zbk (σ 41) g k then (0 : Int) else s 46 j) = 0
          rw [hb.2]
          by_cases e : j = zbk (σ 41) g k
          · simp only [if_pos e]; exact ⟨trivial, trivial⟩
          · simp only [if_neg e]
            exact ha j q0 (by omega)
        · show (if j = (k : Int) then (0 : Int) else s 43 j) = 0
          by_cases e : j = (k : Int)
          · rw [if_pos e]
          · rw [if_neg e]; exact hz j q0 (by omega)
      · intro h4
        refine ⟨by (first | exact ⟨by omega, by omega⟩ | (exfalso; omega)), ?_⟩
        refine ⟨by (first | exact ⟨by omega, by omega⟩ | (exfalso; omega)), ?_⟩
        refine ⟨by (first | exact ⟨by omega, by omega⟩ | (exfalso; omega)), ?_⟩
        refine ⟨by (first | exact ⟨by omega, by omega⟩ | (exfalso; omega)), ?_⟩
        refine ⟨?_, ?_⟩
        · intro h5
          refine ⟨by (first | exact ⟨by omega, by omega⟩ | (exfalso; omega)), ?_⟩
          have hb := zbk_n (x := σ 41) (g := g) (k := k) (by omega)
          rw [← ec]
          refine ih (k + 1) _ (by omega) ⟨hf.up (c := 43) (by decide), i2, by rw [hb.1]; exact hp, by rw [hb.1, hb.2]; exact ha, fun j q0 q1 => ?_⟩
          show (if j = (k : Int) then (0 : Int) else s 43 j) = 0
          by_cases e : j = (k : Int)
          · rw [if_pos e]
          · rw [if_neg e]; exact hz j q0 (by omega)
        · intro h6
          refine ⟨by (first | exact ⟨by omega, by omega⟩ | (exfalso; omega)), ?_⟩
          refine ⟨by (first | exact ⟨by omega, by omega⟩ | (exfalso; omega)), ?_⟩
          refine ⟨by (first | exact ⟨by omega, by omega⟩ | (exfalso; omega)), ?_⟩
          refine ⟨by (first | exact ⟨by omega, by omega⟩ | (exfalso; omega)), ?_⟩
          have hbr : k = 0 ∨ g < σ 41 k - σ 41 ((k : Int) - 1) := by omega
          have hb := zbk_y hbr
          rw [← ec]
          refine ih (k + 1) _ (by omega) ⟨(((hf.up (c := 43) (by decide)).up (c := 45) (by decide)).up (c := 46) (by decide)).up (c := 9) (by decide), fun j hj => ?_, ?_, fun j q0 q1 => ?_, fun j q0 q1 => ?_⟩
          · show (if j = 13 then _ else s 9 j) = _
            rw [if_neg hj]; exact i2 j hj
          · rw [hb.1]; exact if_pos rfl
          · show (if j = zbk (σ 41) g k then (k : Int) else s 45 j) = _ ∧ (if j = zbk (σ 41) g k then (0 : Int) else s 46 j) = 0
            rw [hb.2]
            by_cases e : j = zbk (σ 41) g k
            · simp only [if_pos e]; exact ⟨trivial, trivial⟩
            · simp only [if_neg e]
              exact ha j q0 (by omega)
          · show (if j = (k : Int) then (0 : Int) else s 43 j) = 0
            by_cases e : j = (k : Int)
            · rw [if_pos e]
            · rw [if_neg e]; exact hz j q0 (by omega)
set_option maxRecDepth 100000 in
set_option maxHeartbeats 4000000 in
theorem am_X9_partLine {σ : zS} {g : Int} {n : Nat} {D : Nat} (hn : σ 9 5 = (n : Int)) (hn40 : n ≤ 40) (hg : σ 9 12 = g) (hgr : 0 ≤ g ∧ g ≤ 100) (hx : ∀ j : Int, 0 ≤ j → j < n → 0 ≤ σ 41 j ∧ σ 41 j ≤ 2000) (hD : σ 9 9 = (D : Int)) (hD40 : D ≤ 40) (hw : ∀ j : Int, 0 ≤ j → j < D → 0 ≤ σ 44 j ∧ σ 44 j ≤ 2000) : zAM 112 [.inr (.inr (9, 0))] σ (fun (v : Int) (u : zS) => zfr [9, 43, 45, 46, 55] σ u ∧ (∀ j : Int, ¬ j = 11 → ¬ j = 13 → u 9 j = σ 9 j) ∧ (∀ j : Int, 0 ≤ j → j < 40 → u 55 j = 0) ∧ u 9 13 = zbk (σ 41) g n ∧ (∀ j : Int, 0 ≤ j → j ≤ zbk (σ 41) g n → u 45 j = zmF (σ 41) g n j) ∧ u 9 11 = zjl (ztf (σ 41) (zmF (σ 41) g n) (zbk (σ 41) g n)) (fun d : Nat => σ 44 (d : Int)) D ∧ (∀ j : Int, 0 ≤ j → j < zbk (σ 41) g n → u 46 j = zji (ztf (σ 41) (zmF (σ 41) g n) (zbk (σ 41) g n)) (fun d : Nat => σ 44 (d : Int)) j D) ∧ ∀ j : Int, 0 ≤ j → j < (n : Int) → u 43 j = zjo (ztf (σ 41) (zmF (σ 41) g n) (zbk (σ 41) g n)) (znr (σ 41) (zmF (σ 41) g n)) (fun d : Nat => σ 44 (d : Int)) j D) := by
  refine zam (by decide) (Nat.le_of_ble_eq_true rfl) ?_
  refine zwalk zmk_112 [(11, [true, true, false, false, false, false, false])] 2 ?_
  show (∃ Rc : Int → zS → Prop, zAM 111 [.inr (.inr (9, 0))] σ Rc ∧ ∀ (u1 : zS), Rc 0 u1 → zRuns 112 zX0 (fun (v : Int) (u : zS) => zfr [9, 43, 45, 46, 55] σ u ∧ (∀ j : Int, ¬ j = 11 → ¬ j = 13 → u 9 j = σ 9 j) ∧ (∀ j : Int, 0 ≤ j → j < 40 → u 55 j = 0) ∧ u 9 13 = zbk (σ 41) g n ∧ (∀ j : Int, 0 ≤ j → j ≤ zbk (σ 41) g n → u 45 j = zmF (σ 41) g n j) ∧ u 9 11 = zjl (ztf (σ 41) (zmF (σ 41) g n) (zbk (σ 41) g n)) (fun d : Nat => σ 44 (d : Int)) D ∧ (∀ j : Int, 0 ≤ j → j < zbk (σ 41) g n → u 46 j = zji (ztf (σ 41) (zmF (σ 41) g n) (zbk (σ 41) g n)) (fun d : Nat => σ 44 (d : Int)) j D) ∧ ∀ j : Int, 0 ≤ j → j < (n : Int) → u 43 j = zjo (ztf (σ 41) (zmF (σ 41) g n) (zbk (σ 41) g n)) (znr (σ 41) (zmF (σ 41) g n)) (fun d : Nat => σ 44 (d : Int)) j D) 11 [some (.inr (.inr (9, 0))), some (.inl (0 : Int)), none, none, none, none, none] [] (zup u1 9 (13 : Int) (0 : Int)))
  refine ⟨_, am_X9_forget, ?_⟩
  intro u1
  intro kv1
  obtain ⟨τ, hτ⟩ : ∃ τ, zfill σ 55 0 40 0 = τ := ⟨_, rfl⟩
  have t0 : zfr [55] σ τ := fun k hk => by
    rw [← hτ]; funext j; exact if_neg (fun q => hk (by simp [q.1]))
  have t1 : ∀ j : Int, 0 ≤ j → j < 40 → τ 55 j = 0 := fun j a b => by
    rw [← hτ]; exact if_pos ⟨rfl, a, by omega⟩
  have t9 : τ 9 = σ 9 := t0 9 (by decide)
  have t41 : τ 41 = σ 41 := t0 41 (by decide)
  have t44 : τ 44 = σ 44 := t0 44 (by decide)
  rw [hτ] at kv1
  subst kv1
  have hbb := @zmF_b (σ 41) g n
  refine lp_aa (σ := τ) (g := g) (n := n) (by rw [t9]; exact hn) hn40 (by rw [t9]; exact hg) hgr (by rw [t41]; exact hx) (fun s a1 a2 a3 a4 a5 a6 a7 => ?_) n 0 _ (by omega) ⟨zfr.rf.up (c := 9) (by decide), fun j hj => ?_, if_pos rfl, fun j q0 q1 => absurd q1 (by show ¬ j < 0; omega), fun j q0 q1 => absurd q1 (by omega)⟩
  · rw [t41] at a4 a5 a6
    have b41 : s 41 = σ 41 := by rw [a1 41 (by decide), t41]
    have b44 : s 44 = σ 44 := by rw [a1 44 (by decide), t44]
    have hmq : zMQ s (n : Int) (zbk (σ 41) g n) := by
      refine ⟨⟨by omega, by omega, by omega⟩, fun i i0 i1 => ?_, by rw [b41]; exact hx⟩
      rw [a5 i i0 (by omega), a5 (i + 1) (by omega) (by omega)]
      exact hbb.2.1 i i0 i1
    have hdd := lp_dd (σ := s) (n := (n : Int)) (K := zbk (σ 41) g n) (D := D) hmq a4 (by rw [a5 _ (by omega) (Int.le_refl _)]; exact hbb.2.2) (by rw [a2 9 (by decide) (by decide), t9]; exact hD) hD40 (by rw [b44]; exact hw) D 0 s (by omega) zfr.rf (fun _ _ => rfl) ⟨a3, a6, a7⟩
    refine hdd.mono (fun v u h => ?_)
    obtain ⟨c1, c2, c3, c4, c5⟩ := h
    have htf : ∀ p, ztf (s 41) (s 45) (zbk (σ 41) g n) p = ztf (σ 41) (zmF (σ 41) g n) (zbk (σ 41) g n) p := by
      intro p
      refine ztf_congr (N := (n : Int)) (fun j _ _ => by rw [b41]) a5 (fun i i0 i1 => ?_)
      have := hbb.2.1 i i0 i1
      rw [a5 i i0 (by omega), a5 (i + 1) (by omega) (by omega)]
      omega
    have hdx9 : ∀ e, e < D → ztf (s 41) (s 45) (zbk (σ 41) g n) ((fun d : Nat => s 44 (d : Int)) e) = ztf (σ 41) (zmF (σ 41) g n) (zbk (σ 41) g n) ((fun d : Nat => σ 44 (d : Int)) e) := fun e _ => by rw [htf, b44]
    obtain ⟨hj1, hj2⟩ := zjl_congr D hdx9
    have hj3 := zjo_congr (nr := znr (s 41) (s 45)) (nr' := znr (σ 41) (zmF (σ 41) g n)) D (fun e he => ⟨hdx9 e he, fun q => by
      rw [htf] at q ⊢
      rw [b44] at q ⊢
      have hr := ztf_r (x := σ 41) (f := zmF (σ 41) g n) (n := zbk (σ 41) g n) (p := σ 44 (e : Int)) hbb.1.1
      refine znr_congr (N := (n : Int)) (n := zbk (σ 41) g n) (fun j _ _ => by rw [b41]) a5 (fun i i0 i1 => ?_) q (by omega)
      have := hbb.2.1 i i0 i1
      rw [a5 i i0 (by omega), a5 (i + 1) (by omega) (by omega)]
      omega⟩)
    refine ⟨fun k hk => ?_, fun j j1 j2 => ?_, fun j j0 j1 => ?_, ?_, fun j j0 j1 => ?_, ?_, fun j j0 j1 => ?_, fun j j0 j1 => ?_⟩
    · have hk1 : k ∉ [9, 43, 46] := fun q => hk (by simp at q ⊢; omega)
      have hk2 : k ∉ [9, 43, 45, 46] := fun q => hk (by simp at q ⊢; omega)
      have hk3 : k ∉ [55] := fun q => hk (by simp at q ⊢; omega)
      rw [c1 k hk1, a1 k hk2, t0 k hk3]
    · rw [c2 j j1, a2 j j1 j2, t9]
    · rw [c1 55 (by decide), a1 55 (by decide)]; exact t1 j j0 j1
    · rw [c2 13 (by decide)]; exact a4
    · rw [c1 45 (by decide)]; exact a5 j j0 j1
    · rw [c3]; exact hj1
    · rw [c4 j j0 j1]; exact hj2 j
    · rw [c5 j j0 j1]; exact hj3 j
  · show (if j = 13 then _ else τ 9 j) = _
    rw [if_neg hj]
