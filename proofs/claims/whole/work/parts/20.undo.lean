/-- one cell replaced -/
def zcell (σ : zS) (k : Nat) (g : Int → Int) : zS := fun k' => if k' = k then g else σ k'
theorem zcell_up {σ : zS} {k : Nat} {g : Int → Int} {i v : Int} : zup (zcell σ k g) k i v = zcell σ k (fun j => if j = i then v else g j) := by
  funext k' j
  simp only [zup, zcell]
  by_cases e : k' = k
  · rw [if_pos e, if_pos e]; subst e; rw [if_pos rfl]
  · rw [if_neg e, if_neg e, if_neg e]
theorem zcell_self {σ : zS} {k : Nat} : zcell σ k (σ k) = σ := by
  funext k'
  simp only [zcell]
  split
  next e => rw [e]
  next => rfl
theorem zcell_fld {σ : zS} {k k2 : Nat} {g : Int → Int} {i a b : Int} (h : k2 ≠ k) : zup (zcell (zup σ k2 i a) k g) k2 i b = zcell (zup σ k2 i b) k g := by
  funext k' j
  by_cases e : k' = k
  · have f : ¬ k' = k2 := fun q => h (by rw [← q, e])
    simp only [zup, zcell, if_pos e, if_neg f]
  · by_cases f : k' = k2
    · by_cases f2 : j = i
      · simp only [zup, zcell, if_neg e, if_pos f, if_pos f2]
      · simp only [zup, zcell, if_neg e, if_pos f, if_neg f2]
    · simp only [zup, zcell, if_neg e, if_neg f]
/-- the log undone: m entries above lo, the topmost first -/
def zund (sl ol : Int → Int) (lo : Int) : Nat → (Int → Int) → Int → Int
  | 0, f => f
  | m + 1, f => zund sl ol lo m (fun j => if j = sl (lo + (m : Int)) then ol (lo + (m : Int)) else f j)
set_option maxRecDepth 100000 in
set_option maxHeartbeats 4000000 in
theorem lp_undo {τ : zS} {lo : Int} (h0 : 0 ≤ lo) (hl : τ 27 (τ 3 8) = lo) (ht : 0 ≤ τ 3 8 ∧ τ 3 8 < 50) : ∀ (m : Nat) (g : Int → Int), lo + (m : Int) ≤ 1024 → (∀ j : Int, lo ≤ j → j < lo + (m : Int) → 0 ≤ τ 25 j ∧ τ 25 j < 1188) → zRuns 4 zX0 (fun (v : Int) (u : zS) => zup (zcell τ 22 (zund (τ 25) (τ 26) lo m g)) 3 6 lo = u) 24 [some (.inr (.inr (3, 0))), some (.inl (lo + (m : Int) - 1))] [] (zcell τ 22 g) := by
  intro m
  induction m with
  | zero =>
    intro g hm hs
    refine zwalk zmk_4 [(24, [true, true])] 3 ?_
    show ((0 ≤ (τ 3 (8 : Int)) ∧ (τ 3 (8 : Int)) < (50 : Int)) ∧ (((lo + ((0 : Nat) : Int) - 1) < (τ 27 (τ 3 (8 : Int))) → ((0 ≤ (τ 3 (8 : Int)) ∧ (τ 3 (8 : Int)) < (50 : Int)) ∧ (zup (zcell τ 22 (zund (τ 25) (τ 26) lo 0 g)) 3 6 lo = (zup (zcell τ 22 g) 3 (6 : Int) (τ 27 (τ 3 (8 : Int))))))) ∧ ((τ 27 (τ 3 (8 : Int))) ≤ (lo + ((0 : Nat) : Int) - 1) → ((0 ≤ (lo + ((0 : Nat) : Int) - 1) ∧ (lo + ((0 : Nat) : Int) - 1) < (1024 : Int)) ∧ ((0 ≤ (lo + ((0 : Nat) : Int) - 1) ∧ (lo + ((0 : Nat) : Int) - 1) < (1024 : Int)) ∧ ((0 ≤ (τ 25 (lo + ((0 : Nat) : Int) - 1)) ∧ (τ 25 (lo + ((0 : Nat) : Int) - 1)) < (1188 : Int)) ∧ (zI ((lo + ((0 : Nat) : Int) - 1) + (-1 : Int)) ∧ zRuns 4 zX0 (fun (v : Int) (u : zS) => zup (zcell τ 22 (zund (τ 25) (τ 26) lo 0 g)) 3 6 lo = u) 24 [some (.inr (.inr (3, 0))), some (.inl ((lo + ((0 : Nat) : Int) - 1) + (-1 : Int)))] [] (zup (zcell τ 22 g) 22 (τ 25 (lo + ((0 : Nat) : Int) - 1)) (τ 26 (lo + ((0 : Nat) : Int) - 1))))))))))
    refine ⟨by (first | omega | exact ⟨by omega, by omega⟩ | exact ⟨by omega, by omega, by omega⟩ | exact ⟨by omega, by omega, by omega, by omega, by omega⟩), ?_⟩
    refine ⟨?_, ?_⟩
    · intro h1
      refine ⟨by (first | omega | exact ⟨by omega, by omega⟩ | exact ⟨by omega, by omega, by omega⟩ | exact ⟨by omega, by omega, by omega, by omega, by omega⟩), ?_⟩
      rw [hl]; rfl
    · intro h2
      refine ⟨by (first | omega | exact ⟨by omega, by omega⟩ | exact ⟨by omega, by omega, by omega⟩ | exact ⟨by omega, by omega, by omega, by omega, by omega⟩), ?_⟩
      refine ⟨by (first | omega | exact ⟨by omega, by omega⟩ | exact ⟨by omega, by omega, by omega⟩ | exact ⟨by omega, by omega, by omega, by omega, by omega⟩), ?_⟩
      refine ⟨by (first | omega | exact ⟨by omega, by omega⟩ | exact ⟨by omega, by omega, by omega⟩ | exact ⟨by omega, by omega, by omega, by omega, by omega⟩), ?_⟩
      refine ⟨by (exact ⟨by omega, by omega⟩), ?_⟩
      exfalso; omega
  | succ m ih =>
    intro g hm hs
    have h1 := hs (lo + ((m + 1 : Nat) : Int) - 1) (by omega) (by omega)
    have e1 : lo + ((m + 1 : Nat) : Int) - 1 = lo + (m : Int) := by omega
    refine zwalk zmk_4 [(24, [true, true])] 3 ?_
    show ((0 ≤ (τ 3 (8 : Int)) ∧ (τ 3 (8 : Int)) < (50 : Int)) ∧ (((lo + ((m + 1 : Nat) : Int) - 1) < (τ 27 (τ 3 (8 : Int))) → ((0 ≤ (τ 3 (8 : Int)) ∧ (τ 3 (8 : Int)) < (50 : Int)) ∧ (zup (zcell τ 22 (zund (τ 25) (τ 26) lo (m + 1) g)) 3 6 lo = (zup (zcell τ 22 g) 3 (6 : Int) (τ 27 (τ 3 (8 : Int))))))) ∧ ((τ 27 (τ 3 (8 : Int))) ≤ (lo + ((m + 1 : Nat) : Int) - 1) → ((0 ≤ (lo + ((m + 1 : Nat) : Int) - 1) ∧ (lo + ((m + 1 : Nat) : Int) - 1) < (1024 : Int)) ∧ ((0 ≤ (lo + ((m + 1 : Nat) : Int) - 1) ∧ (lo + ((m + 1 : Nat) : Int) - 1) < (1024 : Int)) ∧ ((0 ≤ (τ 25 (lo + ((m + 1 : Nat) : Int) - 1)) ∧ (τ 25 (lo + ((m + 1 : Nat) : Int) - 1)) < (1188 : Int)) ∧ (zI ((lo + ((m + 1 : Nat) : Int) - 1) + (-1 : Int)) ∧ zRuns 4 zX0 (fun (v : Int) (u : zS) => zup (zcell τ 22 (zund (τ 25) (τ 26) lo (m + 1) g)) 3 6 lo = u) 24 [some (.inr (.inr (3, 0))), some (.inl ((lo + ((m + 1 : Nat) : Int) - 1) + (-1 : Int)))] [] (zup (zcell τ 22 g) 22 (τ 25 (lo + ((m + 1 : Nat) : Int) - 1)) (τ 26 (lo + ((m + 1 : Nat) : Int) - 1))))))))))
    refine ⟨by (first | omega | exact ⟨by omega, by omega⟩ | exact ⟨by omega, by omega, by omega⟩ | exact ⟨by omega, by omega, by omega, by omega, by omega⟩), ?_⟩
    refine ⟨?_, ?_⟩
    · intro h1
      refine ⟨by (first | omega | exact ⟨by omega, by omega⟩ | exact ⟨by omega, by omega, by omega⟩ | exact ⟨by omega, by omega, by omega, by omega, by omega⟩), ?_⟩
      exfalso; omega
    · intro h2
      refine ⟨by (first | omega | exact ⟨by omega, by omega⟩ | exact ⟨by omega, by omega, by omega⟩ | exact ⟨by omega, by omega, by omega, by omega, by omega⟩), ?_⟩
      refine ⟨by (first | omega | exact ⟨by omega, by omega⟩ | exact ⟨by omega, by omega, by omega⟩ | exact ⟨by omega, by omega, by omega, by omega, by omega⟩), ?_⟩
      refine ⟨by (first | omega | exact ⟨by omega, by omega⟩ | exact ⟨by omega, by omega, by omega⟩ | exact ⟨by omega, by omega, by omega, by omega, by omega⟩), ?_⟩
      refine ⟨by (exact ⟨by omega, by omega⟩), ?_⟩
      rw [zcell_up, e1]
      have := ih (fun j => if j = τ 25 (lo + (m : Int)) then τ 26 (lo + (m : Int)) else g j) (by omega) (fun j a b => hs j a (by omega))
      exact this
set_option maxRecDepth 100000 in
set_option maxHeartbeats 4000000 in
theorem am_X0_undoTeaching {σ : zS} {lo : Int} {m : Nat} (ht : 1 ≤ σ 3 8 ∧ σ 3 8 ≤ 50) (hl : σ 27 (σ 3 8 - 1) = lo) (h0 : 0 ≤ lo) (hm : σ 3 6 = lo + (m : Int)) (hu : σ 3 6 ≤ 1024) (hs : ∀ j : Int, lo ≤ j → j < σ 3 6 → 0 ≤ σ 25 j ∧ σ 25 j < 1188) : zAM 4 [.inr (.inr (3, 0))] σ (fun (v : Int) (u : zS) => zup (zcell (zup σ 3 8 (σ 3 8 - 1)) 22 (zund (σ 25) (σ 26) lo m (σ 22))) 3 6 lo = u) := by
  refine zam (by decide) (Nat.le_of_ble_eq_true rfl) ?_
  refine zwalk zmk_4 [(24, [true, true])] 3 ?_
  show (((σ 3 (8 : Int)) ≤ 0 → (zup (zcell (zup σ 3 8 (σ 3 8 - 1)) 22 (zund (σ 25) (σ 26) lo m (σ 22))) 3 6 lo = σ)) ∧ (0 < (σ 3 (8 : Int)) → (zI ((σ 3 (8 : Int)) - (1 : Int)) ∧ (zI ((σ 3 (6 : Int)) - (1 : Int)) ∧ zRuns 4 zX0 (fun (v : Int) (u : zS) => zup (zcell (zup σ 3 8 (σ 3 8 - 1)) 22 (zund (σ 25) (σ 26) lo m (σ 22))) 3 6 lo = u) 24 [some (.inr (.inr (3, 0))), some (.inl ((σ 3 (6 : Int)) - (1 : Int)))] [] (zup σ 3 (8 : Int) ((σ 3 (8 : Int)) - (1 : Int)))))))
  refine ⟨?_, ?_⟩
  · intro h1
    exfalso; omega
  · intro h2
    refine ⟨by (exact ⟨by omega, by omega⟩), ?_⟩
    refine ⟨by (exact ⟨by omega, by omega⟩), ?_⟩
    have := lp_undo (τ := zup σ 3 8 (σ 3 8 - 1)) (lo := lo) h0 hl ⟨by show 0 ≤ σ 3 8 - 1; omega, by show σ 3 8 - 1 < 50; omega⟩ m (σ 22) (by omega) (fun j a b => hs j a (by omega))
    rw [hm]
    have e := @zcell_self (zup σ 3 8 (σ 3 8 - 1)) 22
    have e2 : zup σ 3 8 (σ 3 8 - 1) 22 = σ 22 := zup_ne (by decide)
    rw [e2] at e
    rw [e] at this
    exact this
set_option maxRecDepth 100000 in
set_option maxHeartbeats 4000000 in
theorem lp_unteach {τ : zS} {lo : Int} (h0 : 0 ≤ lo) (hl : τ 50 (τ 9 20) = lo) (ht : 0 ≤ τ 9 20 ∧ τ 9 20 < 50) : ∀ (m : Nat) (g : Int → Int), lo + (m : Int) ≤ 12000 → (∀ j : Int, lo ≤ j → j < lo + (m : Int) → 0 ≤ τ 48 j ∧ τ 48 j < 49660) → zRuns 146 zX0 (fun (v : Int) (u : zS) => zfill (zcell (zup τ 9 17 lo) 47 (zund (τ 48) (τ 49) lo m g)) 55 0 40 0 = u ∧ τ 9 20 = v) 20 [some (.inr (.inr (9, 0)))] [] (zcell (zup τ 9 17 (lo + (m : Int))) 47 g) := by
  intro m
  induction m with
  | zero =>
    intro g hm hs
    refine zwalk zmk_146 [(20, [true])] 3 ?_
    show ((0 ≤ (τ 9 (20 : Int)) ∧ (τ 9 (20 : Int)) < (50 : Int)) ∧ (((lo + ((0 : Nat) : Int)) ≤ (τ 50 (τ 9 (20 : Int))) → (∃ Rc : Int → zS → Prop, zAM 111 [.inr (.inr (9, 0))] (zcell (zup τ 9 (17 : Int) (lo + ((0 : Nat) : Int))) 47 g) Rc ∧ ∀ (u1 : zS), Rc 0 u1 → (zfill (zcell (zup τ 9 17 lo) 47 (zund (τ 48) (τ 49) lo 0 g)) 55 0 40 0 = u1 ∧ τ 9 20 = (u1 9 (20 : Int))))) ∧ ((τ 50 (τ 9 (20 : Int))) < (lo + ((0 : Nat) : Int)) → (zI ((lo + ((0 : Nat) : Int)) - (1 : Int)) ∧ ((0 ≤ ((lo + ((0 : Nat) : Int)) - (1 : Int)) ∧ ((lo + ((0 : Nat) : Int)) - (1 : Int)) < (12000 : Int)) ∧ ((0 ≤ ((lo + ((0 : Nat) : Int)) - (1 : Int)) ∧ ((lo + ((0 : Nat) : Int)) - (1 : Int)) < (12000 : Int)) ∧ ((0 ≤ (τ 48 ((lo + ((0 : Nat) : Int)) - (1 : Int))) ∧ (τ 48 ((lo + ((0 : Nat) : Int)) - (1 : Int))) < (49660 : Int)) ∧ zRuns 146 zX0 (fun (v : Int) (u : zS) => zfill (zcell (zup τ 9 17 lo) 47 (zund (τ 48) (τ 49) lo 0 g)) 55 0 40 0 = u ∧ τ 9 20 = v) 20 [some (.inr (.inr (9, 0)))] [] (zup (zup (zcell (zup τ 9 (17 : Int) (lo + ((0 : Nat) : Int))) 47 g) 9 (17 : Int) ((lo + ((0 : Nat) : Int)) - (1 : Int))) 47 (τ 48 ((lo + ((0 : Nat) : Int)) - (1 : Int))) (τ 49 ((lo + ((0 : Nat) : Int)) - (1 : Int)))))))))))
    refine ⟨by (first | omega | exact ⟨by omega, by omega⟩ | exact ⟨by omega, by omega, by omega⟩ | exact ⟨by omega, by omega, by omega, by omega, by omega⟩), ?_⟩
    refine ⟨?_, ?_⟩
    · intro h1
      refine ⟨_, am_X9_forget, ?_⟩
      intro u1
      rintro rfl
      exact ⟨by simp [zund], rfl⟩
    · intro h2
      refine ⟨by (exact ⟨by omega, by omega⟩), ?_⟩
      refine ⟨by (first | omega | exact ⟨by omega, by omega⟩ | exact ⟨by omega, by omega, by omega⟩ | exact ⟨by omega, by omega, by omega, by omega, by omega⟩), ?_⟩
      refine ⟨by (first | omega | exact ⟨by omega, by omega⟩ | exact ⟨by omega, by omega, by omega⟩ | exact ⟨by omega, by omega, by omega, by omega, by omega⟩), ?_⟩
      refine ⟨by (first | omega | exact ⟨by omega, by omega⟩ | exact ⟨by omega, by omega, by omega⟩ | exact ⟨by omega, by omega, by omega, by omega, by omega⟩), ?_⟩
      exfalso; omega
  | succ m ih =>
    intro g hm hs
    have h1 := hs (lo + (m : Int)) (by omega) (by omega)
    have e1 : lo + ((m + 1 : Nat) : Int) - 1 = lo + (m : Int) := by omega
    refine zwalk zmk_146 [(20, [true])] 3 ?_
    show ((0 ≤ (τ 9 (20 : Int)) ∧ (τ 9 (20 : Int)) < (50 : Int)) ∧ (((lo + ((m + 1 : Nat) : Int)) ≤ (τ 50 (τ 9 (20 : Int))) → (∃ Rc : Int → zS → Prop, zAM 111 [.inr (.inr (9, 0))] (zcell (zup τ 9 (17 : Int) (lo + ((m + 1 : Nat) : Int))) 47 g) Rc ∧ ∀ (u1 : zS), Rc 0 u1 → (zfill (zcell (zup τ 9 17 lo) 47 (zund (τ 48) (τ 49) lo (m + 1) g)) 55 0 40 0 = u1 ∧ τ 9 20 = (u1 9 (20 : Int))))) ∧ ((τ 50 (τ 9 (20 : Int))) < (lo + ((m + 1 : Nat) : Int)) → (zI ((lo + ((m + 1 : Nat) : Int)) - (1 : Int)) ∧ ((0 ≤ ((lo + ((m + 1 : Nat) : Int)) - (1 : Int)) ∧ ((lo + ((m + 1 : Nat) : Int)) - (1 : Int)) < (12000 : Int)) ∧ ((0 ≤ ((lo + ((m + 1 : Nat) : Int)) - (1 : Int)) ∧ ((lo + ((m + 1 : Nat) : Int)) - (1 : Int)) < (12000 : Int)) ∧ ((0 ≤ (τ 48 ((lo + ((m + 1 : Nat) : Int)) - (1 : Int))) ∧ (τ 48 ((lo + ((m + 1 : Nat) : Int)) - (1 : Int))) < (49660 : Int)) ∧ zRuns 146 zX0 (fun (v : Int) (u : zS) => zfill (zcell (zup τ 9 17 lo) 47 (zund (τ 48) (τ 49) lo (m + 1) g)) 55 0 40 0 = u ∧ τ 9 20 = v) 20 [some (.inr (.inr (9, 0)))] [] (zup (zup (zcell (zup τ 9 (17 : Int) (lo + ((m + 1 : Nat) : Int))) 47 g) 9 (17 : Int) ((lo + ((m + 1 : Nat) : Int)) - (1 : Int))) 47 (τ 48 ((lo + ((m + 1 : Nat) : Int)) - (1 : Int))) (τ 49 ((lo + ((m + 1 : Nat) : Int)) - (1 : Int)))))))))))
    rw [e1]
    refine ⟨by (first | omega | exact ⟨by omega, by omega⟩ | exact ⟨by omega, by omega, by omega⟩ | exact ⟨by omega, by omega, by omega, by omega, by omega⟩), ?_⟩
    refine ⟨?_, ?_⟩
    · intro h1
      refine ⟨_, am_X9_forget, ?_⟩
      intro u1
      rintro rfl
      exfalso; omega
    · intro h2
      refine ⟨by (exact ⟨by omega, by omega⟩), ?_⟩
      refine ⟨by (first | omega | exact ⟨by omega, by omega⟩ | exact ⟨by omega, by omega, by omega⟩ | exact ⟨by omega, by omega, by omega, by omega, by omega⟩), ?_⟩
      refine ⟨by (first | omega | exact ⟨by omega, by omega⟩ | exact ⟨by omega, by omega, by omega⟩ | exact ⟨by omega, by omega, by omega, by omega, by omega⟩), ?_⟩
      refine ⟨by (first | omega | exact ⟨by omega, by omega⟩ | exact ⟨by omega, by omega, by omega⟩ | exact ⟨by omega, by omega, by omega, by omega, by omega⟩), ?_⟩
      rw [zcell_fld (by decide), zcell_up]
      have := ih (fun j => if j = τ 48 (lo + (m : Int)) then τ 49 (lo + (m : Int)) else g j) (by omega) (fun j a b => hs j a (by omega))
      exact this
set_option maxRecDepth 100000 in
set_option maxHeartbeats 4000000 in
theorem am_X9_unteach {σ : zS} {lo : Int} {m : Nat} (ht : 0 ≤ σ 9 20 ∧ σ 9 20 ≤ 50) (hl : ¬ σ 9 20 = 0 → σ 50 (σ 9 20 - 1) = lo) (h0 : 0 ≤ lo) (hm : σ 9 17 = lo + (m : Int)) (hu : σ 9 17 ≤ 12000) (hs : ∀ j : Int, lo ≤ j → j < σ 9 17 → 0 ≤ σ 48 j ∧ σ 48 j < 49660) : zAM 146 [.inr (.inr (9, 0))] σ (fun (v : Int) (u : zS) => (σ 9 20 = 0 ∧ σ = u ∧ -1000000 = v) ∨ (¬ σ 9 20 = 0 ∧ zfill (zcell (zup (zup σ 9 20 (σ 9 20 - 1)) 9 17 lo) 47 (zund (σ 48) (σ 49) lo m (σ 47))) 55 0 40 0 = u ∧ σ 9 20 - 1 = v)) := by
  refine zam (by decide) (Nat.le_of_ble_eq_true rfl) ?_
  refine zwalk zmk_146 [(20, [true])] 3 ?_
  show ((¬ (σ 9 (20 : Int)) = 0 → (zI ((σ 9 (20 : Int)) - (1 : Int)) ∧ zRuns 146 zX0 (fun (v : Int) (u : zS) => (σ 9 20 = 0 ∧ σ = u ∧ -1000000 = v) ∨ (¬ σ 9 20 = 0 ∧ zfill (zcell (zup (zup σ 9 20 (σ 9 20 - 1)) 9 17 lo) 47 (zund (σ 48) (σ 49) lo m (σ 47))) 55 0 40 0 = u ∧ σ 9 20 - 1 = v)) 20 [some (.inr (.inr (9, 0)))] [] (zup σ 9 (20 : Int) ((σ 9 (20 : Int)) - (1 : Int))))) ∧ ((σ 9 (20 : Int)) = 0 → ((σ 9 20 = 0 ∧ σ = σ ∧ -1000000 = (-1000000 : Int)) ∨ (¬ σ 9 20 = 0 ∧ zfill (zcell (zup (zup σ 9 20 (σ 9 20 - 1)) 9 17 lo) 47 (zund (σ 48) (σ 49) lo m (σ 47))) 55 0 40 0 = σ ∧ σ 9 20 - 1 = (-1000000 : Int)))))
  refine ⟨?_, ?_⟩
  · intro h1
    refine ⟨by (exact ⟨by omega, by omega⟩), ?_⟩
    have hz : ¬ σ 9 20 = 0 := by assumption
    have := lp_unteach (τ := zup σ 9 20 (σ 9 20 - 1)) (lo := lo) h0 (hl hz) ⟨by show 0 ≤ σ 9 20 - 1; omega, by show σ 9 20 - 1 < 50; omega⟩ m (σ 47) (by omega) (fun j a b => hs j a (by omega))
    have e3 : zcell (zup (zup σ 9 20 (σ 9 20 - 1)) 9 17 (lo + (m : Int))) 47 (σ 47) = zup σ 9 20 (σ 9 20 - 1) := by
      funext k j
      by_cases e : k = 47
      · subst e; rfl
      · by_cases f : k = 9
        · subst f
          simp only [zcell, if_neg (show ¬ (9 : Nat) = 47 by decide), zup_at]
          by_cases f2 : j = 17
          · rw [if_pos f2, f2, if_neg (by decide), hm]
          · rw [if_neg f2]
        · simp only [zcell, if_neg e, zup_ne f]
    rw [e3] at this
    exact this.mono (fun v u q => Or.inr ⟨hz, q⟩)
  · intro h2
    exact Or.inl ⟨by omega, rfl, rfl⟩
