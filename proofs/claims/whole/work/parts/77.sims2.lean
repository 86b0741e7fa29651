/-! the two systems answer alike: what asks only, the word, the list -/
theorem sm_loose {n : Int} {σ : zS} (h : zRel n σ) : zSim n σ 58 120 [] := by
  refine ⟨_, am_X8_loose, fun v u r => ⟨_, am_X9_loose, fun v' u' r' => ?_⟩⟩
  obtain ⟨rfl, rfl⟩ := r
  obtain ⟨rfl, rfl⟩ := r'
  exact ⟨(zrB_eq h.2.2.1).1.2.2.1, zRel_up h⟩
theorem sm_status {n : Int} {σ : zS} (h : zRel n σ) : zSim n σ 75 157 [] := by
  refine ⟨_, am_X8_status, fun v u r => ⟨_, am_X9_status, fun v' u' r' => ?_⟩⟩
  obtain ⟨rfl, rfl⟩ := r
  obtain ⟨rfl, rfl⟩ := r'
  exact ⟨h.2.1, zRel_up h⟩
theorem sm_ink {n : Int} {σ : zS} (h : zRel n σ) (k w : Int) : zSim n σ 56 118 [k, w] := by
  have hB := zrB_LF h.2.2.1
  have hE := zrB_eq h.2.2.1
  refine ⟨_, am_X8_ink hB.1, fun v u r => ⟨_, am_X9_ink (m := σ 9 5) ?_, fun v' u' r' => ?_⟩⟩
  · rcases r with ⟨q, rfl, rfl⟩ | ⟨q, rfl, rfl⟩ | ⟨q, rfl, rfl⟩ | ⟨q, rfl, rfl⟩ <;> exact hB.2
  · have e20 : 0 ≤ k ∧ k < σ 2 10 → σ 20 k = σ 45 k ∧ σ 20 (k + 1) = σ 45 (k + 1) ∧ σ 21 k = σ 46 k := fun z => ⟨hE.2.2.2.1 k z.1 (by omega), hE.2.2.2.1 (k + 1) (by omega) (by omega), (hE.2.2.2.2.1 k z.1 z.2).1⟩
    have e10 := hE.1.1
    have hu : σ = u := by rcases r with ⟨q, q2, q3⟩ | ⟨q, q2, q3⟩ | ⟨q, q2, q3⟩ | ⟨q, q2, q3⟩ <;> exact q2
    subst hu
    have hu' : σ = u' := by rcases r' with ⟨q, q2, q3⟩ | ⟨q, q2, q3⟩ | ⟨q, q2, q3⟩ | ⟨q, q2, q3⟩ <;> exact q2
    subst hu'
    exact ⟨by omega, zRel_up h⟩
theorem sm_piece {n : Int} {σ : zS} (h : zRel n σ) (k q w : Int) : zSim n σ 57 119 [k, q, w] := by
  have hB := zrB_LF h.2.2.1
  have hE := zrB_eq h.2.2.1
  refine ⟨_, am_X8_piece hB.1, fun v u r => ⟨_, am_X9_piece (m := σ 9 5) ?_, fun v' u' r' => ?_⟩⟩
  · rcases r with ⟨q, rfl, rfl⟩ | ⟨q, rfl, rfl⟩ | ⟨q, rfl, rfl⟩ | ⟨q, rfl, rfl⟩ <;> exact hB.2
  · have e20 : 0 ≤ k ∧ k < σ 2 10 → σ 20 k = σ 45 k ∧ σ 20 (k + 1) = σ 45 (k + 1) := fun z => ⟨hE.2.2.2.1 k z.1 (by omega), hE.2.2.2.1 (k + 1) (by omega) (by omega)⟩
    have e17 : (0 ≤ k ∧ k < σ 2 10) ∧ 0 ≤ q ∧ q < σ 20 (k + 1) - σ 20 k → σ 17 (σ 20 k + q) = σ 41 (σ 45 k + q) ∧ σ 18 (σ 20 k + q) = σ 42 (σ 45 k + q) ∧ σ 19 (σ 20 k + q) = σ 43 (σ 45 k + q) := fun z => by
      have z1 := hE.2.2.2.2.1 k z.1.1 z.1.2
      have z2 := hE.2.2.1 (σ 20 k + q) (by omega) (by omega)
      rw [← (e20 z.1).1]
      exact ⟨z2.1, z2.2.1, z2.2.2.1⟩
    have e10 := hE.1.1
    have hu : σ = u := by rcases r with ⟨q, q2, q3⟩ | ⟨q, q2, q3⟩ | ⟨q, q2, q3⟩ | ⟨q, q2, q3⟩ <;> exact q2
    subst hu
    have hu' : σ = u' := by rcases r' with ⟨q, q2, q3⟩ | ⟨q, q2, q3⟩ | ⟨q, q2, q3⟩ | ⟨q, q2, q3⟩ <;> exact q2
    subst hu'
    refine ⟨?_, zRel_up h⟩
    generalize σ 17 (σ 20 k + q) = A1 at *
    generalize σ 18 (σ 20 k + q) = A2 at *
    generalize σ 19 (σ 20 k + q) = A3 at *
    generalize σ 41 (σ 45 k + q) = B1 at *
    generalize σ 42 (σ 45 k + q) = B2 at *
    generalize σ 43 (σ 45 k + q) = B3 at *
    rcases r with ⟨z, -, z3⟩ | ⟨z, -, z3⟩ | ⟨z, -, z3⟩ | ⟨z, -, z3⟩
    · rcases r' with ⟨y, -, y3⟩ | ⟨y, -, y3⟩ | ⟨y, -, y3⟩ | ⟨y, -, y3⟩
      · omega
      all_goals (exfalso; omega)
    · have e1 := e20 z.1.1
      have e2 := e17 z.1
      rcases r' with ⟨y, -, y3⟩ | ⟨y, -, y3⟩ | ⟨y, -, y3⟩ | ⟨y, -, y3⟩ <;> omega
    · have e1 := e20 z.1.1
      have e2 := e17 z.1
      rcases r' with ⟨y, -, y3⟩ | ⟨y, -, y3⟩ | ⟨y, -, y3⟩ | ⟨y, -, y3⟩ <;> omega
    · have e1 := e20 z.1.1
      have e2 := e17 z.1
      rcases r' with ⟨y, -, y3⟩ | ⟨y, -, y3⟩ | ⟨y, -, y3⟩ | ⟨y, -, y3⟩ <;> omega
theorem sm_trace {n : Int} {σ : zS} (h : zRel n σ) (i : Int) : zSim n σ 73 155 [i] := by
  have hF := h.2.2.2.2.2.2.1
  refine ⟨_, am_X8_trace hF.1.2, fun v u r => ⟨_, am_X9_trace ?_, fun v' u' r' => ?_⟩⟩
  · obtain ⟨rfl, -⟩ := r
    rw [hF.2.1]
    exact hF.1
  · obtain ⟨rfl, rfl⟩ := r
    obtain ⟨rfl, rfl⟩ := r'
    refine ⟨?_, zRel_up h⟩
    rw [hF.2.1]
    by_cases e : 0 ≤ i ∧ i < σ 0 10
    · rw [if_pos e, if_pos e]
      exact hF.2.2 i e.1 e.2
    · rw [if_neg e, if_neg e]
theorem zAGR_slot {σ : zS} {f g : Int → Int} {l m a b c w : Int} (h : zAGR (σ 3 3) (σ 23) (σ 24) f g) (hU : zUQ σ) (hl : 0 ≤ l ∧ l < 26) (hv : zvf m a b c) (hw : zslot σ l (zrc m a b c) w) : (w < 0 ∧ g (1884 * l + zsh m a b c) = 0) ∨ (676 ≤ w ∧ w < 676 + σ 3 3 ∧ σ 23 (w - 676) = l ∧ σ 24 (w - 676) = zdc (zsh m a b c) ∧ g (1884 * l + zsh m a b c) = f w) := by
  obtain ⟨e1, e2⟩ := zvf_sh hv
  rw [← e2] at hw
  rcases h.1 l (zsh m a b c) hl.1 hl.2 e1.1 e1.2 with ⟨j, j0, j1, j2, j3, j4⟩ | ⟨j0, j1⟩
  · rcases hw with ⟨k, k0, k1, k2, k3, rfl⟩ | ⟨rfl, k0⟩
    · have e : j = k := by
        rcases Int.lt_trichotomy j k with z | z | z
        · exact absurd ⟨by rw [j2, k2], by rw [j3, k3]⟩ (hU j k j0 z k1)
        · exact z
        · exact absurd ⟨by rw [j2, k2], by rw [j3, k3]⟩ (hU k j k0 z j1)
      subst e
      have e3 : 676 + j - 676 = j := by omega
      refine Or.inr ⟨by omega, by omega, ?_, ?_, j4⟩
      · rw [e3]; exact j2
      · rw [e3]; exact j3
    · exact absurd ⟨j2, j3⟩ (k0 j j0 j1)
  · rcases hw with ⟨k, k0, k1, k2, k3, rfl⟩ | ⟨rfl, k0⟩
    · exact absurd ⟨k2, k3⟩ (j0 k k0 k1)
    · exact Or.inl ⟨by decide, j1⟩
theorem sm_seen {n : Int} {σ : zS} (h : zRel n σ) (l m a b c : Int) : zSim n σ 60 126 [l, m, a, b, c] := by
  have hC := h.2.2.2.1
  refine ⟨_, am_X8_seen hC.1.1, fun v u r => ⟨_, am_X9_seen, fun v' u' r' => ?_⟩⟩
  rcases r with ⟨q, rfl, rfl⟩ | ⟨q, rfl, w, q2, q3⟩
  · rcases r' with ⟨q', rfl, rfl⟩ | ⟨q', rfl, rfl⟩
    · exact ⟨rfl, zRel_up h⟩
    · exact absurd q' q
  · rcases r' with ⟨q', rfl, rfl⟩ | ⟨q', rfl, rfl⟩
    · exact absurd q q'
    · refine ⟨?_, zRel_up h⟩
      have e := zAGR_slot hC.2.1 hC.1.2.1 q.1 ⟨⟨q.2.1, q.2.2.1⟩, ⟨q.2.2.2.1, q.2.2.2.2.1⟩, q.2.2.2.2.2⟩ q2
      omega
theorem sm_wipe {n : Int} {σ : zS} (h : zRel n σ) : zSim n σ 64 131 [] := by
  refine ⟨_, am_X8_wipe, fun v u r => ⟨_, am_X9_wipe, fun v' u' r' => ?_⟩⟩
  obtain ⟨rfl, rfl⟩ := r
  obtain ⟨rfl, rfl⟩ := r'
  obtain ⟨a, b, c, d, e, f, g, k, l⟩ := h
  obtain ⟨m, m1, m2, m3, m4, m5⟩ := e
  have hf : zfr [4, 9] σ (zup (zup (zup σ 4 0 0) 4 1 0) 9 25 0) := ((zfr.rf.up (by decide)).up (by decide)).up (by decide)
  have e9 : ∀ j : Int, ¬ j = 25 → zup (zup (zup σ 4 0 0) 4 1 0) 9 25 0 9 j = σ 9 j := fun j j1 => if_neg j1
  refine ⟨by show σ 4 1 = σ 9 25; omega, zrA_fr (hf 11 (by decide)) (hf 12 (by decide)) (hf 13 (by decide)) (hf 65 (by decide)) (hf 37 (by decide)) (hf 38 (by decide)) (hf 39 (by decide)) a, b, zrB_fr (hf.on (by decide)) (e9 5 (by decide)) (e9 9 (by decide)) (e9 11 (by decide)) (e9 12 (by decide)) (e9 13 (by decide)) c, zrC_fr (hf.on (by decide)) (e9 17 (by decide)) (e9 20 (by decide)) d, ⟨0, by decide, fun k hk => absurd hk (by omega), ?_, rfl, rfl⟩, zrE_fr (hf 28 (by decide)) (hf 51 (by decide)) (hf 52 (by decide)) rfl (e9 22 (by decide)) f, zrF_fr (hf 10 (by decide)) (hf 54 (by decide)) rfl (e9 28 (by decide)) g, zrG_fr (hf.on (by decide)) (Or.inl rfl) (e9 13 (by decide)) k, ?_⟩
  · show (0 : Int) = zdw _ 0 * 32 ^ (12 - 0)
    rw [show zdw (fun k : Nat => (zup (zup (zup σ 4 0 0) 4 1 0) 9 25 0) 53 k) 0 = 0 from rfl, Int.zero_mul]
  · obtain ⟨l1, l2, l3⟩ := l
    refine ⟨by show σ 3 3 ≤ _; omega, by show σ 3 6 + 2 * 0 ≤ _; omega, by show σ 9 17 + 2 * 0 ≤ _; omega⟩
theorem sm_letter {n : Int} {σ : zS} (h : zRel n σ) (l9 : Int) : zSim n σ 62 128 [l9] := by
  obtain ⟨a, b, c, d, e, f, g, k, l⟩ := id h
  obtain ⟨m, m1, m2, m3, m4, m5⟩ := e
  refine ⟨_, am_X8_letter m2 m3 m4, fun v u r => ⟨_, am_X9_letter ?_, fun v' u' r' => ?_⟩⟩
  · rcases r with ⟨q, rfl, rfl⟩ | ⟨q, rfl, rfl⟩ | ⟨q, rfl, rfl⟩
    · omega
    · omega
    · show 0 ≤ σ 9 25 ∧ σ 9 25 ≤ 12
      omega
  · rcases r with ⟨q, rfl, rfl⟩ | ⟨q, rfl, rfl⟩ | ⟨q, rfl, rfl⟩
    · rcases r' with ⟨q', rfl, rfl⟩ | ⟨q', rfl, rfl⟩ | ⟨q', rfl, rfl⟩
      · exact ⟨rfl, zRel_up h⟩
      all_goals omega
    · rcases r' with ⟨q', rfl, rfl⟩ | ⟨q', rfl, rfl⟩ | ⟨q', rfl, rfl⟩
      · omega
      · exact ⟨rfl, zRel_up h⟩
      · omega
    · rcases r' with ⟨q', rfl, rfl⟩ | ⟨q', rfl, rfl⟩ | ⟨q', rfl, rfl⟩
      · omega
      · exfalso
        have q3 : σ 9 25 = 12 := q'.2
        omega
      · have ev : (zup (zup σ 4 0 (zlc (fun k : Nat => σ 53 k) m + (l9 + 1) * 32 ^ (11 - (m : Int)).toNat)) 4 1 ((m : Int) + 1)) 9 25 = σ 9 25 := rfl
        rw [ev, m5]
        have hf : zfr [4, 9, 53] σ (zup (zup (zup (zup σ 4 0 (zlc (fun k : Nat => σ 53 k) m + (l9 + 1) * 32 ^ (11 - (m : Int)).toNat)) 4 1 ((m : Int) + 1)) 53 (m : Int) l9) 9 25 ((m : Int) + 1)) := (((zfr.rf.up (by decide)).up (by decide)).up (by decide)).up (by decide)
        have e9 : ∀ j : Int, ¬ j = 25 → (zup (zup (zup (zup σ 4 0 (zlc (fun k : Nat => σ 53 k) m + (l9 + 1) * 32 ^ (11 - (m : Int)).toNat)) 4 1 ((m : Int) + 1)) 53 (m : Int) l9) 9 25 ((m : Int) + 1)) 9 j = σ 9 j := fun j j1 => if_neg j1
        have e53 : ∀ j : Int, (zup (zup (zup (zup σ 4 0 (zlc (fun k : Nat => σ 53 k) m + (l9 + 1) * 32 ^ (11 - (m : Int)).toNat)) 4 1 ((m : Int) + 1)) 53 (m : Int) l9) 9 25 ((m : Int) + 1)) 53 j = if j = (m : Int) then l9 else σ 53 j := fun j => rfl
        generalize hx : zup (zup (zup (zup σ 4 0 (zlc (fun k : Nat => σ 53 k) m + (l9 + 1) * 32 ^ (11 - (m : Int)).toNat)) 4 1 ((m : Int) + 1)) 53 (m : Int) l9) 9 25 ((m : Int) + 1) = t at *
        have t0 : t 4 0 = zlc (fun k : Nat => σ 53 k) m + (l9 + 1) * 32 ^ (11 - (m : Int)).toNat := by rw [← hx]; rfl
        have t1 : t 4 1 = (m : Int) + 1 := by rw [← hx]; rfl
        have t3 : t 4 3 = σ 4 3 := by rw [← hx]; rfl
        have t25 : t 9 25 = (m : Int) + 1 := by rw [← hx]; rfl
        have hz : zlet (fun k : Nat => t 53 k) (m + 1) := fun k hk => by
          show 0 ≤ t 53 k ∧ t 53 k < 26
          rw [e53]
          by_cases z : (k : Int) = m
          · rw [if_pos z]; exact q.1
          · rw [if_neg z]; exact m2 k (by omega)
        refine ⟨rfl, zrA_fr (hf 11 (by decide)) (hf 12 (by decide)) (hf 13 (by decide)) (hf 65 (by decide)) (hf 37 (by decide)) (hf 38 (by decide)) (hf 39 (by decide)) a, by rw [hf 0 (by decide), e9 4 (by decide)]; exact b, zrB_fr (hf.on (by decide)) (e9 5 (by decide)) (e9 9 (by decide)) (e9 11 (by decide)) (e9 12 (by decide)) (e9 13 (by decide)) c, zrC_fr (hf.on (by decide)) (e9 17 (by decide)) (e9 20 (by decide)) d, ⟨m + 1, by omega, hz, ?_, by omega, by omega⟩, zrE_fr (hf 28 (by decide)) (hf 51 (by decide)) (hf 52 (by decide)) t3 (e9 22 (by decide)) f, zrF_fr (hf 10 (by decide)) (hf 54 (by decide)) (by rw [hf 0 (by decide)]) (e9 28 (by decide)) g, zrG_fr (hf.on (by decide)) (Or.inl (by rw [hf 0 (by decide)])) (e9 13 (by decide)) k, ?_⟩
        · rw [t0, zlc_snoc (by omega), zlc_congr (f := fun k : Nat => t 53 k) (g := fun k : Nat => σ 53 k) (n := m) (fun k hk => by
            show t 53 k = σ 53 k
            rw [e53, if_neg (by omega)]), show (11 - (m : Int)).toNat = 11 - m by omega]
          show _ = _ + (t 53 m + 1) * _
          rw [e53, if_pos rfl]
        · obtain ⟨l1, l2, l3⟩ := l
          exact ⟨by rw [hf 3 (by decide)]; omega, by rw [hf 3 (by decide), t25]; omega, by rw [e9 17 (by decide), t25]; omega⟩
