/-! THE LINE: pieces and dots out of what was written -/
def zfr (ks : List Nat) (σ u : zS) : Prop := ∀ k : Nat, k ∉ ks → u k = σ k
theorem zfr.rf {ks : List Nat} {σ : zS} : zfr ks σ σ := fun _ _ => rfl
theorem zfr.up {ks : List Nat} {σ s : zS} {c : Nat} {i v : Int} (h : zfr ks σ s) (hc : c ∈ ks) : zfr ks σ (zup s c i v) := fun k hk => by
  rw [zup_ne (fun q => hk (by rw [q]; exact hc))]; exact h k hk
theorem zfr.trans {ks ls : List Nat} {σ s u : zS} (h : zfr ks σ s) (h2 : zfr ls s u) (hs : ∀ k ∈ ls, k ∈ ks) (hk : ∀ k ∈ ks, True) : zfr ks σ u := fun k hk => by
  rw [h2 k (fun q => hk (hs k q)), h k hk]
/-- how many pieces among the first k -/
def zpn (ws : Int → Int) : Nat → Int
  | 0 => 0
  | k + 1 => zpn ws k + (if ws k = 12 then 0 else 1)
/-- f of the pieces, in order -/
def zga (f ws : Int → Int) : Nat → Int → Int
  | 0 => fun _ => 0
  | k + 1 => if ws k = 12 then zga f ws k else fun j => if j = zpn ws k then f k else zga f ws k j
theorem zpn_le (ws : Int → Int) : ∀ k : Nat, 0 ≤ zpn ws k ∧ zpn ws k ≤ k
  | 0 => ⟨by simp [zpn], by simp [zpn]⟩
  | k + 1 => by
    have := zpn_le ws k
    simp only [zpn]
    split <;> omega
theorem zpn_mono (ws : Int → Int) : ∀ {k n : Nat}, k ≤ n → zpn ws k ≤ zpn ws n
  | k, 0, h => by have : k = 0 := by omega
                  rw [this]; exact Int.le_refl _
  | k, n + 1, h => by
    by_cases e : k = n + 1
    · rw [e]; exact Int.le_refl _
    · have := zpn_mono ws (k := k) (n := n) (by omega)
      simp only [zpn]
      split <;> omega
theorem zpn_dot {ws : Int → Int} {k : Nat} (h : ws k = 12) : zpn ws (k + 1) = zpn ws k ∧ ∀ f, zga f ws (k + 1) = zga f ws k := by
  constructor
  · simp only [zpn, if_pos h]; omega
  · intro f; simp only [zga, if_pos h]
theorem zpn_pc {ws : Int → Int} {k : Nat} (h : ¬ ws k = 12) : zpn ws (k + 1) = zpn ws k + 1 ∧ ∀ f j, zga f ws (k + 1) j = if j = zpn ws k then f k else zga f ws k j := by
  constructor
  · simp only [zpn, if_neg h]
  · intro f j; simp only [zga, if_neg h]
set_option maxRecDepth 100000 in
set_option maxHeartbeats 4000000 in
theorem lp_gather {σ : zS} {n : Nat} (hn : σ 2 2 = (n : Int)) (hn40 : n ≤ 40) : ∀ (m k : Nat) (s : zS), k + m = n → zfr [2, 17, 18, 19] σ s → (∀ j : Int, ¬ j = 7 → s 2 j = σ 2 j) → s 2 7 = zpn (σ 16) k → (∀ j : Int, 0 ≤ j → j < zpn (σ 16) k → s 17 j = zga (σ 15) (σ 16) k j ∧ s 18 j = zga (σ 16) (σ 16) k j ∧ s 19 j = 0) → zRuns 16 zX0 (fun (v : Int) (u : zS) => zfr [2, 17, 18, 19] σ u ∧ (∀ j : Int, ¬ j = 7 → u 2 j = σ 2 j) ∧ u 2 7 = zpn (σ 16) n ∧ ∀ j : Int, 0 ≤ j → j < zpn (σ 16) n → u 17 j = zga (σ 15) (σ 16) n j ∧ u 18 j = zga (σ 16) (σ 16) n j ∧ u 19 j = 0) 7 [some (.inr (.inr (2, 0))), some (.inl (k : Int))] [] s := by
  intro m
  induction m with
  | zero =>
    intro k s hk hf i2 hp ha
    have e2 := i2 2 (by decide)
    have ek : k = n := by omega
    subst ek
    refine zwalk zmk_16 [(7, [true, true])] 3 ?_
    show (((s 2 (2 : Int)) ≤ (k : Int) → (zfr [2, 17, 18, 19] σ s ∧ (∀ j : Int, ¬ j = 7 → s 2 j = σ 2 j) ∧ s 2 7 = zpn (σ 16) k ∧ ∀ j : Int, 0 ≤ j → j < zpn (σ 16) k → s 17 j = zga (σ 15) (σ 16) k j ∧ s 18 j = zga (σ 16) (σ 16) k j ∧ s 19 j = 0)) ∧ ((k : Int) < (s 2 (2 : Int)) → ((0 ≤ (k : Int) ∧ (k : Int) < (40 : Int)) ∧ (((s 16 (k : Int)) = (12 : Int) → (zI ((k : Int) + (1 : Int)) ∧ zRuns 16 zX0 (fun (v : Int) (u : zS) => zfr [2, 17, 18, 19] σ u ∧ (∀ j : Int, ¬ j = 7 → u 2 j = σ 2 j) ∧ u 2 7 = zpn (σ 16) k ∧ ∀ j : Int, 0 ≤ j → j < zpn (σ 16) k → u 17 j = zga (σ 15) (σ 16) k j ∧ u 18 j = zga (σ 16) (σ 16) k j ∧ u 19 j = 0) 7 [some (.inr (.inr (2, 0))), some (.inl ((k : Int) + (1 : Int)))] [] s)) ∧ (¬ (s 16 (k : Int)) = (12 : Int) → ((0 ≤ (k : Int) ∧ (k : Int) < (40 : Int)) ∧ ((0 ≤ (s 2 (7 : Int)) ∧ (s 2 (7 : Int)) < (40 : Int)) ∧ ((0 ≤ (k : Int) ∧ (k : Int) < (40 : Int)) ∧ ((0 ≤ (s 2 (7 : Int)) ∧ (s 2 (7 : Int)) < (40 : Int)) ∧ ((0 ≤ (s 2 (7 : Int)) ∧ (s 2 (7 : Int)) < (40 : Int)) ∧ (zI ((s 2 (7 : Int)) + (1 : Int)) ∧ (zI ((k : Int) + (1 : Int)) ∧ zRuns 16 zX0 (fun (v : Int) (u : zS) => zfr [2, 17, 18, 19] σ u ∧ (∀ j : Int, ¬ j = 7 → u 2 j = σ 2 j) ∧ u 2 7 = zpn (σ 16) k ∧ ∀ j : Int, 0 ≤ j → j < zpn (σ 16) k → u 17 j = zga (σ 15) (σ 16) k j ∧ u 18 j = zga (σ 16) (σ 16) k j ∧ u 19 j = 0) 7 [some (.inr (.inr (2, 0))), some (.inl ((k : Int) + (1 : Int)))] [] (zup (zup (zup (zup s 17 (s 2 (7 : Int)) (s 15 (k : Int))) 18 (s 2 (7 : Int)) (s 16 (k : Int))) 19 (s 2 (7 : Int)) (0 : Int)) 2 (7 : Int) ((s 2 (7 : Int)) + (1 : Int)))))))))))))))
    refine ⟨?_, ?_⟩
    · intro h1
      exact ⟨hf, i2, hp, ha⟩
    · intro h2
      refine ⟨by (exfalso; omega), ?_⟩
      refine ⟨?_, ?_⟩
      · intro h3
        refine ⟨by (exfalso; omega), ?_⟩
        exfalso; omega
      · intro h4
        refine ⟨by (exfalso; omega), ?_⟩
        refine ⟨by (exfalso; omega), ?_⟩
        refine ⟨by (exfalso; omega), ?_⟩
        refine ⟨by (exfalso; omega), ?_⟩
        refine ⟨by (exfalso; omega), ?_⟩
        refine ⟨by (exfalso; omega), ?_⟩
        refine ⟨by (exfalso; omega), ?_⟩
        exfalso; omega
  | succ m ih =>
    intro k s hk hf i2 hp ha
    have e2 := i2 2 (by decide)
    have e15 : s 15 = σ 15 := hf 15 (by decide)
    have e16 : s 16 = σ 16 := hf 16 (by decide)
    have hl := zpn_le (σ 16) k
    refine zwalk zmk_16 [(7, [true, true])] 3 ?_
    show (((s 2 (2 : Int)) ≤ (k : Int) → (zfr [2, 17, 18, 19] σ s ∧ (∀ j : Int, ¬ j = 7 → s 2 j = σ 2 j) ∧ s 2 7 = zpn (σ 16) n ∧ ∀ j : Int, 0 ≤ j → j < zpn (σ 16) n → s 17 j = zga (σ 15) (σ 16) n j ∧ s 18 j = zga (σ 16) (σ 16) n j ∧ s 19 j = 0)) ∧ ((k : Int) < (s 2 (2 : Int)) → ((0 ≤ (k : Int) ∧ (k : Int) < (40 : Int)) ∧ (((s 16 (k : Int)) = (12 : Int) → (zI ((k : Int) + (1 : Int)) ∧ zRuns 16 zX0 (fun (v : Int) (u : zS) => zfr [2, 17, 18, 19] σ u ∧ (∀ j : Int, ¬ j = 7 → u 2 j = σ 2 j) ∧ u 2 7 = zpn (σ 16) n ∧ ∀ j : Int, 0 ≤ j → j < zpn (σ 16) n → u 17 j = zga (σ 15) (σ 16) n j ∧ u 18 j = zga (σ 16) (σ 16) n j ∧ u 19 j = 0) 7 [some (.inr (.inr (2, 0))), some (.inl ((k : Int) + (1 : Int)))] [] s)) ∧ (¬ (s 16 (k : Int)) = (12 : Int) → ((0 ≤ (k : Int) ∧ (k : Int) < (40 : Int)) ∧ ((0 ≤ (s 2 (7 : Int)) ∧ (s 2 (7 : Int)) < (40 : Int)) ∧ ((0 ≤ (k : Int) ∧ (k : Int) < (40 : Int)) ∧ ((0 ≤ (s 2 (7 : Int)) ∧ (s 2 (7 : Int)) < (40 : Int)) ∧ ((0 ≤ (s 2 (7 : Int)) ∧ (s 2 (7 : Int)) < (40 : Int)) ∧ (zI ((s 2 (7 : Int)) + (1 : Int)) ∧ (zI ((k : Int) + (1 : Int)) ∧ zRuns 16 zX0 (fun (v : Int) (u : zS) => zfr [2, 17, 18, 19] σ u ∧ (∀ j : Int, ¬ j = 7 → u 2 j = σ 2 j) ∧ u 2 7 = zpn (σ 16) n ∧ ∀ j : Int, 0 ≤ j → j < zpn (σ 16) n → u 17 j = zga (σ 15) (σ 16) n j ∧ u 18 j = zga (σ 16) (σ 16) n j ∧ u 19 j = 0) 7 [some (.inr (.inr (2, 0))), some (.inl ((k : Int) + (1 : Int)))] [] (zup (zup (zup (zup s 17 (s 2 (7 : Int)) (s 15 (k : Int))) 18 (s 2 (7 : Int)) (s 16 (k : Int))) 19 (s 2 (7 : Int)) (0 : Int)) 2 (7 : Int) ((s 2 (7 : Int)) + (1 : Int)))))))))))))))
    rw [e15, e16, hp]
    refine ⟨?_, ?_⟩
    · intro h1
      exfalso; omega
    · intro h2
      refine ⟨by (first | omega | exact ⟨by omega, by omega⟩ | exact ⟨by omega, by omega, by omega⟩ | exact ⟨by omega, by omega, by omega, by omega, by omega⟩), ?_⟩
      refine ⟨?_, ?_⟩
      · intro h3
        refine ⟨by (exact ⟨by omega, by omega⟩), ?_⟩
        have hd : σ 16 (k : Int) = 12 := by assumption
        have hz := zpn_dot hd
        refine ih (k + 1) _ (by omega) hf i2 (by rw [hz.1, hp]) ?_
        rw [hz.1, hz.2, hz.2]
        exact ha
      · intro h4
        refine ⟨by (first | omega | exact ⟨by omega, by omega⟩ | exact ⟨by omega, by omega, by omega⟩ | exact ⟨by omega, by omega, by omega, by omega, by omega⟩), ?_⟩
        refine ⟨by (first | omega | exact ⟨by omega, by omega⟩ | exact ⟨by omega, by omega, by omega⟩ | exact ⟨by omega, by omega, by omega, by omega, by omega⟩), ?_⟩
        refine ⟨by (first | omega | exact ⟨by omega, by omega⟩ | exact ⟨by omega, by omega, by omega⟩ | exact ⟨by omega, by omega, by omega, by omega, by omega⟩), ?_⟩
        refine ⟨by (first | omega | exact ⟨by omega, by omega⟩ | exact ⟨by omega, by omega, by omega⟩ | exact ⟨by omega, by omega, by omega, by omega, by omega⟩), ?_⟩
        refine ⟨by (first | omega | exact ⟨by omega, by omega⟩ | exact ⟨by omega, by omega, by omega⟩ | exact ⟨by omega, by omega, by omega, by omega, by omega⟩), ?_⟩
        refine ⟨by (exact ⟨by omega, by omega⟩), ?_⟩
        refine ⟨by (exact ⟨by omega, by omega⟩), ?_⟩
        have hd : ¬ σ 16 (k : Int) = 12 := by assumption
        have hz := zpn_pc hd
        refine ih (k + 1) _ (by omega) ?_ ?_ ?_ ?_
        · exact (((hf.up (by decide)).up (by decide)).up (by decide)).up (by decide)
        · intro j hj
          show (if j = 7 then _ else s 2 j) = _
          rw [if_neg hj]; exact i2 j hj
        · show zpn (σ 16) k + 1 = _
          rw [hz.1]
        · intro j h0 h1
          show (if j = zpn (σ 16) k then _ else s 17 j) = _ ∧ (if j = zpn (σ 16) k then _ else s 18 j) = _ ∧ (if j = zpn (σ 16) k then (0 : Int) else s 19 j) = 0
          rw [hz.2, hz.2]
          by_cases e : j = zpn (σ 16) k
          · simp only [if_pos e]; exact ⟨trivial, trivial, trivial⟩
          · simp only [if_neg e]
            exact ha j h0 (by omega)
set_option maxRecDepth 100000 in
set_option maxHeartbeats 4000000 in
theorem am_X2_gatherPieces {σ : zS} {n : Nat} (hn : σ 2 2 = (n : Int)) (hn40 : n ≤ 40) : zAM 16 [.inr (.inr (2, 0))] σ (fun (v : Int) (u : zS) => zfr [2, 17, 18, 19] σ u ∧ (∀ j : Int, ¬ j = 7 → u 2 j = σ 2 j) ∧ u 2 7 = zpn (σ 16) n ∧ ∀ j : Int, 0 ≤ j → j < zpn (σ 16) n → u 17 j = zga (σ 15) (σ 16) n j ∧ u 18 j = zga (σ 16) (σ 16) n j ∧ u 19 j = 0) := by
  refine zam (by decide) (Nat.le_of_ble_eq_true rfl) ?_
  refine zwalk zmk_16 [(7, [true, true])] 2 ?_
  show zRuns 16 zX0 (fun (v : Int) (u : zS) => zfr [2, 17, 18, 19] σ u ∧ (∀ j : Int, ¬ j = 7 → u 2 j = σ 2 j) ∧ u 2 7 = zpn (σ 16) n ∧ ∀ j : Int, 0 ≤ j → j < zpn (σ 16) n → u 17 j = zga (σ 15) (σ 16) n j ∧ u 18 j = zga (σ 16) (σ 16) n j ∧ u 19 j = 0) 7 [some (.inr (.inr (2, 0))), some (.inl (0 : Int))] [] (zup σ 2 (7 : Int) (0 : Int))
  refine lp_gather (σ := σ) hn hn40 n 0 _ (by omega) (zfr.rf.up (by decide)) ?_ rfl ?_
  · intro j hj
    show (if j = 7 then _ else σ 2 j) = _
    rw [if_neg hj]
  · intro j h0 h1
    exact absurd h1 (by show ¬ j < 0; omega)
