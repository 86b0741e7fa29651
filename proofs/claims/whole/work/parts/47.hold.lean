/-! the model's hold -/
def zTM (σ : zS) (s : Int) (S : Int → Int → Prop) : Prop := zTop S (σ 61 s) (fun i => σ 62 (5 * s + i)) (fun i => σ 63 (5 * s + i))
/-- nothing but state s changes -/
def zMH (σ u : zS) (s : Int) : Prop := zfr [61, 62, 63] σ u ∧ (∀ j : Int, ¬ j = s → u 61 j = σ 61 j) ∧ ∀ j : Int, (j < 5 * s ∨ 5 * s + 5 ≤ j) → u 62 j = σ 62 j ∧ u 63 j = σ 63 j
theorem zMH.rf {σ : zS} {h : Int} : zMH σ σ h := ⟨zfr.rf, fun _ _ => rfl, fun _ _ => ⟨rfl, rfl⟩⟩
theorem zMH.trans {σ s u : zS} {h : Int} (a : zMH σ s h) (b : zMH s u h) : zMH σ u h := by
  obtain ⟨a1, a2, a3⟩ := a
  obtain ⟨b1, b2, b3⟩ := b
  refine ⟨fun k hk => by rw [b1 k hk, a1 k hk], fun j hj => by rw [b2 j hj, a2 j hj], fun j hj => ?_⟩
  rw [(b3 j hj).1, (b3 j hj).2]
  exact a3 j hj
theorem zMH.keep {σ u : zS} {h h' : Int} {S : Int → Int → Prop} (a : zMH σ u h) (hne : ¬ h' = h) (t : zTM σ h' S) : zTM u h' S := by
  obtain ⟨a1, a2, a3⟩ := a
  unfold zTM at *
  rw [a2 h' hne]
  have hn := t.1
  refine t.arr (fun i i0 i1 => a3 _ ?_)
  omega
theorem zTM.congr {σ : zS} {h : Int} {S T : Int → Int → Prop} (t : zTM σ h S) (e : ∀ x d, S x d ↔ T x d) : zTM σ h T := zTop.congr t e
theorem z2m {s : zS} {p a b j : Int} : (zup (zup s 62 p a) 63 p b) 62 j = (if j = p then a else s 62 j) ∧ (zup (zup s 62 p a) 63 p b) 63 j = (if j = p then b else s 63 j) :=
  ⟨by rw [zup_ne (by decide), zup_at], by rw [zup_at, zup_ne (by decide)]⟩
/-- x at the cost c came in among the n of state s -/
def zNS (τ u : zS) (s n c x : Int) : Prop := zMH τ u s ∧ ∃ p : Int, 0 ≤ p ∧ p ≤ n ∧ u 61 s = (if p < 5 then min 5 (n + 1) else n) ∧ (∀ i : Int, 0 ≤ i → i < p → i < 5 → u 62 (5 * s + i) = τ 62 (5 * s + i) ∧ u 63 (5 * s + i) = τ 63 (5 * s + i)) ∧ (p < 5 → u 62 (5 * s + p) = c ∧ u 63 (5 * s + p) = x) ∧ (∀ i : Int, p < i → i ≤ n → i < 5 → u 62 (5 * s + i) = τ 62 (5 * s + (i - 1)) ∧ u 63 (5 * s + i) = τ 63 (5 * s + (i - 1))) ∧ (p = 0 ∨ ¬ zbe c x (τ 62 (5 * s + (p - 1))) (τ 63 (5 * s + (p - 1)))) ∧ ∀ i : Int, p ≤ i → i < n → zbe c x (τ 62 (5 * s + i)) (τ 63 (5 * s + i))
/-- not there yet -/
theorem zNS_new {σ u : zS} {s c x : Int} {S : Int → Int → Prop} (hT : zTM σ s S) (hi : zNS σ u s (σ 61 s) c x) (hx : ∀ i : Int, 0 ≤ i → i < σ 61 s → ¬ σ 63 (5 * s + i) = x) : zTM u s (fun y e => S y e ∨ y = x ∧ e = c) := by
  obtain ⟨-, p, p0, p1, q0, q1, q2, q3, q4, q5⟩ := hi
  have hn := hT.1
  have lo : ∀ i : Int, 0 ≤ i → i < p → ¬ zbe c x (σ 62 (5 * s + i)) (σ 63 (5 * s + i)) := fun i i0 i1 => by
    rcases q4 with q4 | q4
    · omega
    · by_cases e : i = p - 1
      · rw [e]; exact q4
      · have t := (hT.2.1 i (p - 1) i0 (by omega) (by omega)).1
        simp only at t
        omega
  by_cases g : p < 5
  · rw [if_pos g] at q0
    unfold zTM
    rw [q0]
    refine zTop.put (p := p) (q := min 4 (σ 61 s)) hT ⟨p0, by omega⟩ (Or.inr ⟨hx, by omega⟩) lo (fun i i0 i1 i2 => q5 i i0 i2) (fun i i0 i1 => ?_)
    by_cases g1 : i < p
    · exact Or.inl ⟨g1, q1 i i0 g1 (by omega)⟩
    · by_cases g2 : i = p
      · exact Or.inr (Or.inl ⟨g2, by rw [g2]; exact q2 g⟩)
      · exact Or.inr (Or.inr (Or.inl ⟨by omega, by omega, q3 i (by omega) (by omega) (by omega)⟩))
  · rw [if_neg g] at q0
    unfold zTM
    rw [q0]
    refine (zTop.over hT (by omega) (lo 4 (by omega) (by omega))).arr (fun i i0 i1 => q1 i i0 (by omega) (by omega))
/-- it was at q, dearer; the others stand in τ -/
theorem zNS_old {σ τ u : zS} {s c x q : Int} {S : Int → Int → Prop} (hT : zTM σ s S) (hi : zNS τ u s (σ 61 s - 1) c x) (hq : 0 ≤ q ∧ q < σ 61 s) (hx : σ 63 (5 * s + q) = x) (hc : c < σ 62 (5 * s + q)) (hlo : ∀ i : Int, 0 ≤ i → i < q → τ 62 (5 * s + i) = σ 62 (5 * s + i) ∧ τ 63 (5 * s + i) = σ 63 (5 * s + i)) (hhi : ∀ i : Int, q ≤ i → i < σ 61 s - 1 → τ 62 (5 * s + i) = σ 62 (5 * s + (i + 1)) ∧ τ 63 (5 * s + i) = σ 63 (5 * s + (i + 1))) : zTM u s (fun y e => S y e ∨ y = x ∧ e = c) := by
  obtain ⟨-, p, p0, p1, q0, q1, q2, q3, q4, q5⟩ := hi
  have hn := hT.1
  -- it comes in at q at the latest
  have pq : p ≤ q := by
    by_cases g : p ≤ q
    · exact g
    · exfalso
      rcases q4 with q4 | q4
      · omega
      · have t := (hT.2.1 q p (by omega) (by omega) (by omega)).1
        have e := hhi (p - 1) (by omega) (by omega)
        rw [show p - 1 + 1 = p by omega] at e
        rw [e.1, e.2] at q4
        simp only at t
        omega
  rw [if_pos (by omega)] at q0
  unfold zTM
  rw [q0]
  refine zTop.put (p := p) (q := q) hT ⟨p0, pq⟩ (Or.inl ⟨hq.2, hx, by omega⟩) (fun i i0 i1 => ?_) (fun i i0 i1 i2 => ?_) (fun i i0 i1 => ?_)
  · rcases q4 with q4 | q4
    · omega
    · by_cases e : i = p - 1
      · have l := hlo (p - 1) (by omega) (by omega)
        rw [l.1, l.2] at q4
        rw [e]; exact q4
      · have t := (hT.2.1 i (p - 1) i0 (by omega) (by omega)).1
        have l := hlo (p - 1) (by omega) (by omega)
        rw [l.1, l.2] at q4
        simp only at t
        show ¬ zbe c x (σ 62 (5 * s + i)) (σ 63 (5 * s + i))
        omega
  · show zbe c x (σ 62 (5 * s + i)) (σ 63 (5 * s + i))
    by_cases e : i = q
    · rw [e]; exact Or.inl hc
    · have l := hlo i (by omega) (by omega)
      rw [← l.1, ← l.2]
      exact q5 i i0 (by omega)
  · by_cases g1 : i < p
    · have l := hlo i i0 (by omega)
      refine Or.inl ⟨g1, ?_⟩
      show u 62 (5 * s + i) = σ 62 (5 * s + i) ∧ u 63 (5 * s + i) = σ 63 (5 * s + i)
      rw [← l.1, ← l.2]
      exact q1 i i0 g1 (by omega)
    · by_cases g2 : i = p
      · exact Or.inr (Or.inl ⟨g2, by rw [g2]; exact q2 (by omega)⟩)
      · have m := q3 i (by omega) (by omega) (by omega)
        by_cases g3 : i ≤ q
        · have l := hlo (i - 1) (by omega) (by omega)
          rw [l.1, l.2] at m
          exact Or.inr (Or.inr (Or.inl ⟨by omega, g3, m⟩))
        · have l := hhi (i - 1) (by omega) (by omega)
          rw [l.1, l.2, show i - 1 + 1 = i by omega] at m
          exact Or.inr (Or.inr (Or.inr ⟨by omega, m⟩))
theorem zMH.put {τ t : zS} {s k a b : Int} (h : zMH τ t s) (hk : 0 ≤ k ∧ k < 5) : zMH τ (zup (zup t 62 (5 * s + k) a) 63 (5 * s + k) b) s := by
  obtain ⟨h1, h2, h3⟩ := h
  refine ⟨(h1.up (c := 62) (by decide)).up (c := 63) (by decide), fun j hj => ?_, fun j hj => ?_⟩
  · rw [zup_ne (by decide), zup_ne (by decide)]; exact h2 j hj
  · have z9 := z2m (s := t) (p := 5 * s + k) (a := a) (b := b) (j := j)
    rw [z9.1, z9.2, if_neg (by omega), if_neg (by omega)]
    exact h3 j hj
theorem zMH.fin {τ t : zS} {s v : Int} (h : zMH τ t s) : zMH τ (zup t 61 s v) s := by
  obtain ⟨h1, h2, h3⟩ := h
  refine ⟨h1.up (c := 61) (by decide), fun j hj => ?_, fun j hj => ?_⟩
  · rw [zup_at, if_neg hj]; exact h2 j hj
  · rw [zup_ne (by decide), zup_ne (by decide)]; exact h3 j hj
set_option maxRecDepth 100000 in
set_option maxHeartbeats 4000000 in
theorem lp_h239 {s c x m k : Int} {τ t : zS} (hs : 0 ≤ s ∧ s < 5070) (hm : 0 ≤ m ∧ m ≤ 5) (k0 : 0 ≤ k ∧ k ≤ m) (hf : zMH τ t s ∧ t 61 = τ 61) (f1 : ∀ i : Int, 0 ≤ i → (i ≤ k ∨ m < i) → i < 5 → t 62 (5 * s + i) = τ 62 (5 * s + i) ∧ t 63 (5 * s + i) = τ 63 (5 * s + i)) (f2 : ∀ i : Int, k < i → i ≤ m → i < 5 → t 62 (5 * s + i) = τ 62 (5 * s + (i - 1)) ∧ t 63 (5 * s + i) = τ 63 (5 * s + (i - 1))) (f3 : ∀ i : Int, k ≤ i → i < m → zbe c x (τ 62 (5 * s + i)) (τ 63 (5 * s + i))) (f4 : k = 0 ∨ ¬ zbe c x (τ 62 (5 * s + (k - 1))) (τ 63 (5 * s + (k - 1)))) : zRuns 135 zX0 (fun (v : Int) (u : zS) => zNS τ u s m c x) 239 [some (.inr (.inr (9, 0))), some (.inl s), some (.inl c), some (.inr (.inl x)), none, some (.inl (5 * s)), some (.inl m), some (.inl k), none] [] t := by
  refine zwalk zmk_135 [(16, [true, true, true, true, false, true, true, true, false]), (57, [true, true, true, true, false, true, true, true, true]), (129, [true, true, true, true, false, true, true, true, false]), (239, [true, true, true, true, false, true, true, true, false])] 3 ?_
  show (((5 : Int) ≤ k → ((0 ≤ s ∧ s < (5070 : Int)) ∧ (zNS τ (zup t 61 s m) s m c x))) ∧ (k < (5 : Int) → (zI ((5 * s) + k) ∧ ((0 ≤ ((5 * s) + k) ∧ ((5 * s) + k) < (25350 : Int)) ∧ (zI ((5 * s) + k) ∧ ((0 ≤ ((5 * s) + k) ∧ ((5 * s) + k) < (25350 : Int)) ∧ (((5 : Int) ≤ m → ((0 ≤ s ∧ s < (5070 : Int)) ∧ (zNS τ (zup (zup (zup t 62 ((5 * s) + k) c) 63 ((5 * s) + k) x) 61 s (5 : Int)) s m c x))) ∧ (m < (5 : Int) → (zI (m + (1 : Int)) ∧ ((0 ≤ s ∧ s < (5070 : Int)) ∧ (zNS τ (zup (zup (zup t 62 ((5 * s) + k) c) 63 ((5 * s) + k) x) 61 s (m + (1 : Int))) s m c x)))))))))))
  refine ⟨?_, ?_⟩
  · intro h1
    refine ⟨by (first | exact ⟨by omega, by omega⟩ | (exfalso; omega)), ?_⟩
    refine ⟨hf.1.fin, k, k0.1, k0.2, ?_, fun i i0 i1 i2 => ?_, fun q => by omega, fun i i0 i1 i2 => by omega, f4, f3⟩
    · rw [zup_at, if_pos rfl, if_neg (by omega)]
    · rw [zup_ne (by decide), zup_ne (by decide)]; exact f1 i i0 (by omega) i2
  · intro h2
    refine ⟨by (first | exact ⟨by omega, by omega⟩ | (exfalso; omega)), ?_⟩
    refine ⟨by (first | exact ⟨by omega, by omega⟩ | (exfalso; omega)), ?_⟩
    refine ⟨by (first | exact ⟨by omega, by omega⟩ | (exfalso; omega)), ?_⟩
    refine ⟨by (first | exact ⟨by omega, by omega⟩ | (exfalso; omega)), ?_⟩
    refine ⟨?_, ?_⟩
    · intro h3
      refine ⟨by (first | exact ⟨by omega, by omega⟩ | (exfalso; omega)), ?_⟩
      have z9 := fun j => z2m (s := t) (p := 5 * s + k) (a := c) (b := x) (j := j)
      refine ⟨(hf.1.put ⟨k0.1, by omega⟩).fin, k, k0.1, k0.2, ?_, fun i i0 i1 i2 => ?_, fun _ => ?_, fun i i0 i1 i2 => ?_, f4, f3⟩
      · rw [zup_at, if_pos rfl, if_pos (by omega)]; omega
      · rw [zup_ne (k := 61) (j := 62) (by decide), zup_ne (k := 61) (j := 63) (by decide), (z9 _).1, (z9 _).2, if_neg (by omega), if_neg (by omega)]; exact f1 i i0 (by omega) i2
      · rw [zup_ne (k := 61) (j := 62) (by decide), zup_ne (k := 61) (j := 63) (by decide), (z9 _).1, (z9 _).2, if_pos rfl, if_pos rfl]; exact ⟨rfl, rfl⟩
      · rw [zup_ne (k := 61) (j := 62) (by decide), zup_ne (k := 61) (j := 63) (by decide), (z9 _).1, (z9 _).2, if_neg (by omega), if_neg (by omega)]; exact f2 i i0 i1 i2
    · intro h4
      refine ⟨by (first | exact ⟨by omega, by omega⟩ | (exfalso; omega)), ?_⟩
      refine ⟨by (first | exact ⟨by omega, by omega⟩ | (exfalso; omega)), ?_⟩
      have z9 := fun j => z2m (s := t) (p := 5 * s + k) (a := c) (b := x) (j := j)
      refine ⟨(hf.1.put ⟨k0.1, by omega⟩).fin, k, k0.1, k0.2, ?_, fun i i0 i1 i2 => ?_, fun _ => ?_, fun i i0 i1 i2 => ?_, f4, f3⟩
      · rw [zup_at, if_pos rfl, if_pos (by omega)]; omega
      · rw [zup_ne (k := 61) (j := 62) (by decide), zup_ne (k := 61) (j := 63) (by decide), (z9 _).1, (z9 _).2, if_neg (by omega), if_neg (by omega)]; exact f1 i i0 (by omega) i2
      · rw [zup_ne (k := 61) (j := 62) (by decide), zup_ne (k := 61) (j := 63) (by decide), (z9 _).1, (z9 _).2, if_pos rfl, if_pos rfl]; exact ⟨rfl, rfl⟩
      · rw [zup_ne (k := 61) (j := 62) (by decide), zup_ne (k := 61) (j := 63) (by decide), (z9 _).1, (z9 _).2, if_neg (by omega), if_neg (by omega)]; exact f2 i i0 i1 i2
set_option maxRecDepth 100000 in
set_option maxHeartbeats 4000000 in
theorem lp_h129 {s : Int} {c : Int} {x : Int} {m : Int} {τ : zS} (hs : 0 ≤ s ∧ s < 5070) (hm : 0 ≤ m ∧ m ≤ 5) : ∀ (n : Nat) (k : Int) (t : zS), k < (n : Int) → (0 ≤ k ∧ k ≤ m) → (zMH τ t s ∧ t 61 = τ 61) → (∀ i : Int, 0 ≤ i → (i ≤ k ∨ m < i) → i < 5 → t 62 (5 * s + i) = τ 62 (5 * s + i) ∧ t 63 (5 * s + i) = τ 63 (5 * s + i)) → (∀ i : Int, k < i → i ≤ m → i < 5 → t 62 (5 * s + i) = τ 62 (5 * s + (i - 1)) ∧ t 63 (5 * s + i) = τ 63 (5 * s + (i - 1))) → (∀ i : Int, k ≤ i → i < m → zbe c x (τ 62 (5 * s + i)) (τ 63 (5 * s + i))) → zRuns 135 zX0 (fun (v : Int) (u : zS) => zNS τ u s m c x) 129 [some (.inr (.inr (9, 0))), some (.inl s), some (.inl c), some (.inr (.inl x)), none, some (.inl (5 * s)), some (.inl m), some (.inl k), none] [] t := by
  intro n
  induction n with
  | zero =>
    intro k t hn k0 hf f1 f2 f3
    exfalso
    omega
  | succ n ih =>
    intro k t hn k0 hf f1 f2 f3
    refine zwalk zmk_135 [(16, [true, true, true, true, false, true, true, true, false]), (57, [true, true, true, true, false, true, true, true, true]), (129, [true, true, true, true, false, true, true, true, false]), (239, [true, true, true, true, false, true, true, true, false])] 4 ?_
    show ((k ≤ 0 → zRuns 135 zX0 (fun (v : Int) (u : zS) => zNS τ u s m c x) 239 [some (.inr (.inr (9, 0))), some (.inl s), some (.inl c), some (.inr (.inl x)), none, some (.inl (5 * s)), some (.inl m), some (.inl k), none] [] t) ∧ (0 < k → (zI ((5 * s) + k) ∧ (zI (((5 * s) + k) - (1 : Int)) ∧ ((0 ≤ (((5 * s) + k) - (1 : Int)) ∧ (((5 * s) + k) - (1 : Int)) < (25350 : Int)) ∧ ((c < (t 62 (((5 * s) + k) - (1 : Int))) → (((5 : Int) ≤ k → (zI (k + (-1 : Int)) ∧ zRuns 135 zX0 (fun (v : Int) (u : zS) => zNS τ u s m c x) 129 [some (.inr (.inr (9, 0))), some (.inl s), some (.inl c), some (.inr (.inl x)), none, some (.inl (5 * s)), some (.inl m), some (.inl (k + (-1 : Int))), none] [] t)) ∧ (k < (5 : Int) → (zI ((5 * s) + k) ∧ (zI ((5 * s) + k) ∧ (zI (((5 * s) + k) - (1 : Int)) ∧ ((0 ≤ (((5 * s) + k) - (1 : Int)) ∧ (((5 * s) + k) - (1 : Int)) < (25350 : Int)) ∧ ((0 ≤ ((5 * s) + k) ∧ ((5 * s) + k) < (25350 : Int)) ∧ (zI ((5 * s) + k) ∧ (zI ((5 * s) + k) ∧ (zI (((5 * s) + k) - (1 : Int)) ∧ ((0 ≤ (((5 * s) + k) - (1 : Int)) ∧ (((5 * s) + k) - (1 : Int)) < (25350 : Int)) ∧ ((0 ≤ ((5 * s) + k) ∧ ((5 * s) + k) < (25350 : Int)) ∧ (zI (k + (-1 : Int)) ∧ zRuns 135 zX0 (fun (v : Int) (u : zS) => zNS τ u s m c x) 129 [some (.inr (.inr (9, 0))), some (.inl s), some (.inl c), some (.inr (.inl x)), none, some (.inl (5 * s)), some (.inl m), some (.inl (k + (-1 : Int))), none] [] (zup (zup t 62 ((5 * s) + k) (t 62 (((5 * s) + k) - (1 : Int)))) 63 ((5 * s) + k) (t 63 (((5 * s) + k) - (1 : Int)))))))))))))))))) ∧ ((t 62 (((5 * s) + k) - (1 : Int))) ≤ c → (zI ((5 * s) + k) ∧ (zI (((5 * s) + k) - (1 : Int)) ∧ ((0 ≤ (((5 * s) + k) - (1 : Int)) ∧ (((5 * s) + k) - (1 : Int)) < (25350 : Int)) ∧ ((¬ (t 62 (((5 * s) + k) - (1 : Int))) = c → zRuns 135 zX0 (fun (v : Int) (u : zS) => zNS τ u s m c x) 239 [some (.inr (.inr (9, 0))), some (.inl s), some (.inl c), some (.inr (.inl x)), none, some (.inl (5 * s)), some (.inl m), some (.inl k), none] [] t) ∧ ((t 62 (((5 * s) + k) - (1 : Int))) = c → (zI ((5 * s) + k) ∧ (zI (((5 * s) + k) - (1 : Int)) ∧ ((0 ≤ (((5 * s) + k) - (1 : Int)) ∧ (((5 * s) + k) - (1 : Int)) < (25350 : Int)) ∧ (((zcmp (t 63 (((5 * s) + k) - (1 : Int))) x) ≤ 0 → zRuns 135 zX0 (fun (v : Int) (u : zS) => zNS τ u s m c x) 239 [some (.inr (.inr (9, 0))), some (.inl s), some (.inl c), some (.inr (.inl x)), none, some (.inl (5 * s)), some (.inl m), some (.inl k), none] [] t) ∧ (0 < (zcmp (t 63 (((5 * s) + k) - (1 : Int))) x) → (((5 : Int) ≤ k → (zI (k + (-1 : Int)) ∧ zRuns 135 zX0 (fun (v : Int) (u : zS) => zNS τ u s m c x) 129 [some (.inr (.inr (9, 0))), some (.inl s), some (.inl c), some (.inr (.inl x)), none, some (.inl (5 * s)), some (.inl m), some (.inl (k + (-1 : Int))), none] [] t)) ∧ (k < (5 : Int) → (zI ((5 * s) + k) ∧ (zI ((5 * s) + k) ∧ (zI (((5 * s) + k) - (1 : Int)) ∧ ((0 ≤ (((5 * s) + k) - (1 : Int)) ∧ (((5 * s) + k) - (1 : Int)) < (25350 : Int)) ∧ ((0 ≤ ((5 * s) + k) ∧ ((5 * s) + k) < (25350 : Int)) ∧ (zI ((5 * s) + k) ∧ (zI ((5 * s) + k) ∧ (zI (((5 * s) + k) - (1 : Int)) ∧ ((0 ≤ (((5 * s) + k) - (1 : Int)) ∧ (((5 * s) + k) - (1 : Int)) < (25350 : Int)) ∧ ((0 ≤ ((5 * s) + k) ∧ ((5 * s) + k) < (25350 : Int)) ∧ (zI (k + (-1 : Int)) ∧ zRuns 135 zX0 (fun (v : Int) (u : zS) => zNS τ u s m c x) 129 [some (.inr (.inr (9, 0))), some (.inl s), some (.inl c), some (.inr (.inl x)), none, some (.inl (5 * s)), some (.inl m), some (.inl (k + (-1 : Int))), none] [] (zup (zup t 62 ((5 * s) + k) (t 62 (((5 * s) + k) - (1 : Int)))) 63 ((5 * s) + k) (t 63 (((5 * s) + k) - (1 : Int))))))))))))))))))))))))))))))))))
    refine ⟨?_, ?_⟩
    · intro h1
      exact lp_h239 hs hm k0 hf f1 f2 f3 (Or.inl (by omega))
    · intro h2
      refine ⟨by (first | exact ⟨by omega, by omega⟩ | (exfalso; omega)), ?_⟩
      refine ⟨by (first | exact ⟨by omega, by omega⟩ | (exfalso; omega)), ?_⟩
      refine ⟨by (first | exact ⟨by omega, by omega⟩ | (exfalso; omega)), ?_⟩
      refine ⟨?_, ?_⟩
      · intro h3
        refine ⟨?_, ?_⟩
        · intro h4
          refine ⟨by (first | exact ⟨by omega, by omega⟩ | (exfalso; omega)), ?_⟩
          have e9 := f1 (k - 1) (by omega) (by omega) (by omega)
          rw [show 5 * s + (k - 1) = 5 * s + k - 1 by omega] at e9
          have hz : zbe c x (t 62 (5 * s + k - 1)) (t 63 (5 * s + k - 1)) := by first | exact Or.inl (by omega) | exact Or.inr ⟨by omega, by omega⟩
          rw [e9.1, e9.2] at hz
          refine ih (k + -1) _ (by omega) ⟨by omega, by omega⟩ hf (fun i i0 i1 i2 => f1 i i0 (by omega) i2) (fun i i0 i1 i2 => f2 i (by omega) i1 i2) (fun i i0 i1 => ?_)
          by_cases e : i = k - 1
          · rw [e, show 5 * s + (k - 1) = 5 * s + k - 1 by omega]; exact hz
          · exact f3 i (by omega) i1
        · intro h5
          refine ⟨by (first | exact ⟨by omega, by omega⟩ | (exfalso; omega)), ?_⟩
          refine ⟨by (first | exact ⟨by omega, by omega⟩ | (exfalso; omega)), ?_⟩
          refine ⟨by (first | exact ⟨by omega, by omega⟩ | (exfalso; omega)), ?_⟩
          refine ⟨by (first | exact ⟨by omega, by omega⟩ | (exfalso; omega)), ?_⟩
          refine ⟨by (first | exact ⟨by omega, by omega⟩ | (exfalso; omega)), ?_⟩
          refine ⟨by (first | exact ⟨by omega, by omega⟩ | (exfalso; omega)), ?_⟩
          refine ⟨by (first | exact ⟨by omega, by omega⟩ | (exfalso; omega)), ?_⟩
          refine ⟨by (first | exact ⟨by omega, by omega⟩ | (exfalso; omega)), ?_⟩
          refine ⟨by (first | exact ⟨by omega, by omega⟩ | (exfalso; omega)), ?_⟩
          refine ⟨by (first | exact ⟨by omega, by omega⟩ | (exfalso; omega)), ?_⟩
          refine ⟨by (first | exact ⟨by omega, by omega⟩ | (exfalso; omega)), ?_⟩
          have e9 := f1 (k - 1) (by omega) (by omega) (by omega)
          rw [show 5 * s + (k - 1) = 5 * s + k - 1 by omega] at e9
          have hz : zbe c x (t 62 (5 * s + k - 1)) (t 63 (5 * s + k - 1)) := by first | exact Or.inl (by omega) | exact Or.inr ⟨by omega, by omega⟩
          rw [e9.1, e9.2] at hz
          have z9 := fun j => z2m (s := t) (p := 5 * s + k) (a := t 62 (5 * s + k - 1)) (b := t 63 (5 * s + k - 1)) (j := j)
          refine ih (k + -1) _ (by omega) ⟨by omega, by omega⟩ ⟨hf.1.put ⟨k0.1, by omega⟩, by rw [zup_ne (by decide), zup_ne (by decide)]; exact hf.2⟩ (fun i i0 i1 i2 => ?_) (fun i i0 i1 i2 => ?_) (fun i i0 i1 => ?_)
          · rw [(z9 _).1, (z9 _).2, if_neg (by omega), if_neg (by omega)]; exact f1 i i0 (by omega) i2
          · by_cases e : i = k
            · rw [(z9 _).1, (z9 _).2, if_pos (by omega), if_pos (by omega), e, show 5 * s + (k - 1) = 5 * s + k - 1 by omega]; exact e9
            · rw [(z9 _).1, (z9 _).2, if_neg (by omega), if_neg (by omega)]; exact f2 i (by omega) i1 i2
          · by_cases e : i = k - 1
            · rw [e, show 5 * s + (k - 1) = 5 * s + k - 1 by omega]; exact hz
            · exact f3 i (by omega) i1
      · intro h6
        refine ⟨by (first | exact ⟨by omega, by omega⟩ | (exfalso; omega)), ?_⟩
        refine ⟨by (first | exact ⟨by omega, by omega⟩ | (exfalso; omega)), ?_⟩
        refine ⟨by (first | exact ⟨by omega, by omega⟩ | (exfalso; omega)), ?_⟩
        refine ⟨?_, ?_⟩
        · intro h7
          have e9 := f1 (k - 1) (by omega) (by omega) (by omega)
          rw [show 5 * s + (k - 1) = 5 * s + k - 1 by omega] at e9
          refine lp_h239 hs hm k0 hf f1 f2 f3 (Or.inr ?_)
          rw [show 5 * s + (k - 1) = 5 * s + k - 1 by omega, ← e9.1, ← e9.2]
          omega
        · intro h8
          refine ⟨by (first | exact ⟨by omega, by omega⟩ | (exfalso; omega)), ?_⟩
          refine ⟨by (first | exact ⟨by omega, by omega⟩ | (exfalso; omega)), ?_⟩
          refine ⟨by (first | exact ⟨by omega, by omega⟩ | (exfalso; omega)), ?_⟩
          refine ⟨?_, ?_⟩
          · intro h9
            simp only [zc_lt, zc_ge, zc_gt, zc_le, zc_eq] at h9
            have e9 := f1 (k - 1) (by omega) (by omega) (by omega)
            rw [show 5 * s + (k - 1) = 5 * s + k - 1 by omega] at e9
            refine lp_h239 hs hm k0 hf f1 f2 f3 (Or.inr ?_)
            rw [show 5 * s + (k - 1) = 5 * s + k - 1 by omega, ← e9.1, ← e9.2]
            omega
          · intro h10
            simp only [zc_lt, zc_ge, zc_gt, zc_le, zc_eq] at h10
            refine ⟨?_, ?_⟩
            · intro h11
              refine ⟨by (first | exact ⟨by omega, by omega⟩ | (exfalso; omega)), ?_⟩
              have e9 := f1 (k - 1) (by omega) (by omega) (by omega)
              rw [show 5 * s + (k - 1) = 5 * s + k - 1 by omega] at e9
              have hz : zbe c x (t 62 (5 * s + k - 1)) (t 63 (5 * s + k - 1)) := by first | exact Or.inl (by omega) | exact Or.inr ⟨by omega, by omega⟩
              rw [e9.1, e9.2] at hz
              refine ih (k + -1) _ (by omega) ⟨by omega, by omega⟩ hf (fun i i0 i1 i2 => f1 i i0 (by omega) i2) (fun i i0 i1 i2 => f2 i (by omega) i1 i2) (fun i i0 i1 => ?_)
              by_cases e : i = k - 1
              · rw [e, show 5 * s + (k - 1) = 5 * s + k - 1 by omega]; exact hz
              · exact f3 i (by omega) i1
            · intro h12
              refine ⟨by (first | exact ⟨by omega, by omega⟩ | (exfalso; omega)), ?_⟩
              refine ⟨by (first | exact ⟨by omega, by omega⟩ | (exfalso; omega)), ?_⟩
              refine ⟨by (first | exact ⟨by omega, by omega⟩ | (exfalso; omega)), ?_⟩
              refine ⟨by (first | exact ⟨by omega, by omega⟩ | (exfalso; omega)), ?_⟩
              refine ⟨by (first | exact ⟨by omega, by omega⟩ | (exfalso; omega)), ?_⟩
              refine ⟨by (first | exact ⟨by omega, by omega⟩ | (exfalso; omega)), ?_⟩
              refine ⟨by (first | exact ⟨by omega, by omega⟩ | (exfalso; omega)), ?_⟩
              refine ⟨by (first | exact ⟨by omega, by omega⟩ | (exfalso; omega)), ?_⟩
              refine ⟨by (first | exact ⟨by omega, by omega⟩ | (exfalso; omega)), ?_⟩
              refine ⟨by (first | exact ⟨by omega, by omega⟩ | (exfalso; omega)), ?_⟩
              refine ⟨by (first | exact ⟨by omega, by omega⟩ | (exfalso; omega)), ?_⟩
              have e9 := f1 (k - 1) (by omega) (by omega) (by omega)
              rw [show 5 * s + (k - 1) = 5 * s + k - 1 by omega] at e9
              have hz : zbe c x (t 62 (5 * s + k - 1)) (t 63 (5 * s + k - 1)) := by first | exact Or.inl (by omega) | exact Or.inr ⟨by omega, by omega⟩
              rw [e9.1, e9.2] at hz
              have z9 := fun j => z2m (s := t) (p := 5 * s + k) (a := t 62 (5 * s + k - 1)) (b := t 63 (5 * s + k - 1)) (j := j)
              refine ih (k + -1) _ (by omega) ⟨by omega, by omega⟩ ⟨hf.1.put ⟨k0.1, by omega⟩, by rw [zup_ne (by decide), zup_ne (by decide)]; exact hf.2⟩ (fun i i0 i1 i2 => ?_) (fun i i0 i1 i2 => ?_) (fun i i0 i1 => ?_)
              · rw [(z9 _).1, (z9 _).2, if_neg (by omega), if_neg (by omega)]; exact f1 i i0 (by omega) i2
              · by_cases e : i = k
                · rw [(z9 _).1, (z9 _).2, if_pos (by omega), if_pos (by omega), e, show 5 * s + (k - 1) = 5 * s + k - 1 by omega]; exact e9
                · rw [(z9 _).1, (z9 _).2, if_neg (by omega), if_neg (by omega)]; exact f2 i (by omega) i1 i2
              · by_cases e : i = k - 1
                · rw [e, show 5 * s + (k - 1) = 5 * s + k - 1 by omega]; exact hz
                · exact f3 i (by omega) i1
set_option maxRecDepth 100000 in
set_option maxHeartbeats 4000000 in
theorem lp_h57 {s : Int} {c : Int} {x : Int} {m : Int} {q : Int} {σ : zS} {R : Int → zS → Prop} (hs : 0 ≤ s ∧ s < 5070) (hm : 0 ≤ m ∧ m ≤ 5) (hq : 0 ≤ q ∧ q < m) (K : ∀ t : zS, zMH σ t s ∧ t 61 = σ 61 → (∀ i : Int, 0 ≤ i → i < q → t 62 (5 * s + i) = σ 62 (5 * s + i) ∧ t 63 (5 * s + i) = σ 63 (5 * s + i)) → (∀ i : Int, q ≤ i → i < m - 1 → t 62 (5 * s + i) = σ 62 (5 * s + (i + 1)) ∧ t 63 (5 * s + i) = σ 63 (5 * s + (i + 1))) → zRuns 135 zX0 R 16 [some (.inr (.inr (9, 0))), some (.inl s), some (.inl c), some (.inr (.inl x)), none, some (.inl (5 * s)), some (.inl (m + -1)), some (.inl (q + 1)), none] [] t) : ∀ (n : Nat) (j : Int) (t : zS), m - j < (n : Int) → (q ≤ j ∧ j < m) → (zMH σ t s ∧ t 61 = σ 61) → (∀ i : Int, 0 ≤ i → (i < q ∨ j ≤ i) → i < 5 → t 62 (5 * s + i) = σ 62 (5 * s + i) ∧ t 63 (5 * s + i) = σ 63 (5 * s + i)) → (∀ i : Int, q ≤ i → i < j → t 62 (5 * s + i) = σ 62 (5 * s + (i + 1)) ∧ t 63 (5 * s + i) = σ 63 (5 * s + (i + 1))) → zRuns 135 zX0 (fun (v : Int) (u : zS) => R v u) 57 [some (.inr (.inr (9, 0))), some (.inl s), some (.inl c), some (.inr (.inl x)), none, some (.inl (5 * s)), some (.inl m), some (.inl q), some (.inl j)] [] t := by
  intro n
  induction n with
  | zero =>
    intro j t hn j0 hf f1 f2
    exfalso
    omega
  | succ n ih =>
    intro j t hn j0 hf f1 f2
    refine zwalk zmk_135 [(16, [true, true, true, true, false, true, true, true, false]), (57, [true, true, true, true, false, true, true, true, true]), (129, [true, true, true, true, false, true, true, true, false]), (239, [true, true, true, true, false, true, true, true, false])] 3 ?_
    show (zI (j + (1 : Int)) ∧ ((m ≤ (j + (1 : Int)) → (zI (m + (-1 : Int)) ∧ (zI (q + (1 : Int)) ∧ zRuns 135 zX0 (fun (v : Int) (u : zS) => R v u) 16 [some (.inr (.inr (9, 0))), some (.inl s), some (.inl c), some (.inr (.inl x)), none, some (.inl (5 * s)), some (.inl (m + (-1 : Int))), some (.inl (q + (1 : Int))), none] [] t))) ∧ ((j + (1 : Int)) < m → (zI ((5 * s) + j) ∧ (zI ((5 * s) + j) ∧ (zI (((5 * s) + j) + (1 : Int)) ∧ ((0 ≤ (((5 * s) + j) + (1 : Int)) ∧ (((5 * s) + j) + (1 : Int)) < (25350 : Int)) ∧ ((0 ≤ ((5 * s) + j) ∧ ((5 * s) + j) < (25350 : Int)) ∧ (zI ((5 * s) + j) ∧ (zI ((5 * s) + j) ∧ (zI (((5 * s) + j) + (1 : Int)) ∧ ((0 ≤ (((5 * s) + j) + (1 : Int)) ∧ (((5 * s) + j) + (1 : Int)) < (25350 : Int)) ∧ ((0 ≤ ((5 * s) + j) ∧ ((5 * s) + j) < (25350 : Int)) ∧ (zI (j + (1 : Int)) ∧ zRuns 135 zX0 (fun (v : Int) (u : zS) => R v u) 57 [some (.inr (.inr (9, 0))), some (.inl s), some (.inl c), some (.inr (.inl x)), none, some (.inl (5 * s)), some (.inl m), some (.inl q), some (.inl (j + (1 : Int)))] [] (zup (zup t 62 ((5 * s) + j) (t 62 (((5 * s) + j) + (1 : Int)))) 63 ((5 * s) + j) (t 63 (((5 * s) + j) + (1 : Int))))))))))))))))))
    refine ⟨by (first | exact ⟨by omega, by omega⟩ | (exfalso; omega)), ?_⟩
    refine ⟨?_, ?_⟩
    · intro h1
      refine ⟨by (first | exact ⟨by omega, by omega⟩ | (exfalso; omega)), ?_⟩
      refine ⟨by (first | exact ⟨by omega, by omega⟩ | (exfalso; omega)), ?_⟩
      exact K t hf (fun i i0 i1 => f1 i i0 (Or.inl i1) (by omega)) (fun i i0 i1 => f2 i i0 (by omega))
    · intro h2
      refine ⟨by (first | exact ⟨by omega, by omega⟩ | (exfalso; omega)), ?_⟩
      refine ⟨by (first | exact ⟨by omega, by omega⟩ | (exfalso; omega)), ?_⟩
      refine ⟨by (first | exact ⟨by omega, by omega⟩ | (exfalso; omega)), ?_⟩
      refine ⟨by (first | exact ⟨by omega, by omega⟩ | (exfalso; omega)), ?_⟩
      refine ⟨by (first | exact ⟨by omega, by omega⟩ | (exfalso; omega)), ?_⟩
      refine ⟨by (first | exact ⟨by omega, by omega⟩ | (exfalso; omega)), ?_⟩
      refine ⟨by (first | exact ⟨by omega, by omega⟩ | (exfalso; omega)), ?_⟩
      refine ⟨by (first | exact ⟨by omega, by omega⟩ | (exfalso; omega)), ?_⟩
      refine ⟨by (first | exact ⟨by omega, by omega⟩ | (exfalso; omega)), ?_⟩
      refine ⟨by (first | exact ⟨by omega, by omega⟩ | (exfalso; omega)), ?_⟩
      refine ⟨by (first | exact ⟨by omega, by omega⟩ | (exfalso; omega)), ?_⟩
      have z9 := fun i => z2m (s := t) (p := 5 * s + j) (a := t 62 (5 * s + j + 1)) (b := t 63 (5 * s + j + 1)) (j := i)
      have e9 := f1 (j + 1) (by omega) (by omega) (by omega)
      rw [show 5 * s + (j + 1) = 5 * s + j + 1 by omega] at e9
      refine ih (j + 1) _ (by omega) ⟨by omega, by omega⟩ ⟨hf.1.put ⟨by omega, by omega⟩, by rw [zup_ne (by decide), zup_ne (by decide)]; exact hf.2⟩ (fun i i0 i1 i2 => ?_) (fun i i0 i1 => ?_)
      · rw [(z9 _).1, (z9 _).2, if_neg (by omega), if_neg (by omega)]; exact f1 i i0 (by omega) i2
      · by_cases e : i = j
        · rw [(z9 _).1, (z9 _).2, if_pos (by omega), if_pos (by omega), e, show 5 * s + (j + 1) = 5 * s + j + 1 by omega]; exact e9
        · rw [(z9 _).1, (z9 _).2, if_neg (by omega), if_neg (by omega)]; exact f2 i i0 (by omega)
set_option maxRecDepth 100000 in
set_option maxHeartbeats 4000000 in
theorem lp_h16b {s : Int} {c : Int} {x : Int} {m : Int} {t : zS} (hs : 0 ≤ s ∧ s < 5070) (hm : 0 ≤ m ∧ m ≤ 5) : ∀ (n : Nat) (k : Int), m + 1 - k < (n : Int) → (0 ≤ k ∧ k ≤ m + 1) → (∀ i : Int, k ≤ i → i < m → ¬ t 63 (5 * s + i) = x) → zRuns 135 zX0 (fun (v : Int) (u : zS) => zNS t u s m c x) 16 [some (.inr (.inr (9, 0))), some (.inl s), some (.inl c), some (.inr (.inl x)), none, some (.inl (5 * s)), some (.inl m), some (.inl k), none] [] t := by
  intro n
  induction n with
  | zero =>
    intro k hn k0 hz
    exfalso
    omega
  | succ n ih =>
    intro k hn k0 hz
    refine zwalk zmk_135 [(16, [true, true, true, true, false, true, true, true, false]), (57, [true, true, true, true, false, true, true, true, true]), (129, [true, true, true, true, false, true, true, true, false]), (239, [true, true, true, true, false, true, true, true, false])] 3 ?_
    show ((m ≤ k → zRuns 135 zX0 (fun (v : Int) (u : zS) => zNS t u s m c x) 129 [some (.inr (.inr (9, 0))), some (.inl s), some (.inl c), some (.inr (.inl x)), none, some (.inl (5 * s)), some (.inl m), some (.inl m), none] [] t) ∧ (k < m → (zI ((5 * s) + k) ∧ ((0 ≤ ((5 * s) + k) ∧ ((5 * s) + k) < (25350 : Int)) ∧ ((¬ (zcmp (t 63 ((5 * s) + k)) x) = 0 → (zI (k + (1 : Int)) ∧ zRuns 135 zX0 (fun (v : Int) (u : zS) => zNS t u s m c x) 16 [some (.inr (.inr (9, 0))), some (.inl s), some (.inl c), some (.inr (.inl x)), none, some (.inl (5 * s)), some (.inl m), some (.inl (k + (1 : Int))), none] [] t)) ∧ ((zcmp (t 63 ((5 * s) + k)) x) = 0 → (zI ((5 * s) + k) ∧ ((0 ≤ ((5 * s) + k) ∧ ((5 * s) + k) < (25350 : Int)) ∧ ((c < (t 62 ((5 * s) + k)) → zRuns 135 zX0 (fun (v : Int) (u : zS) => zNS t u s m c x) 57 [some (.inr (.inr (9, 0))), some (.inl s), some (.inl c), some (.inr (.inl x)), none, some (.inl (5 * s)), some (.inl m), some (.inl k), some (.inl k)] [] t) ∧ ((t 62 ((5 * s) + k)) ≤ c → (zNS t t s m c x)))))))))))
    refine ⟨?_, ?_⟩
    · intro h1
      exact lp_h129 (τ := t) hs hm (m.toNat + 1) m t (by omega) ⟨hm.1, by omega⟩ ⟨zMH.rf, rfl⟩ (fun i _ _ _ => ⟨rfl, rfl⟩) (fun i i0 i1 => by omega) (fun i i0 i1 => by omega)
    · intro h2
      refine ⟨by (first | exact ⟨by omega, by omega⟩ | (exfalso; omega)), ?_⟩
      refine ⟨by (first | exact ⟨by omega, by omega⟩ | (exfalso; omega)), ?_⟩
      refine ⟨?_, ?_⟩
      · intro h3
        simp only [zc_lt, zc_ge, zc_gt, zc_le, zc_eq] at h3
        refine ⟨by (first | exact ⟨by omega, by omega⟩ | (exfalso; omega)), ?_⟩
        exact ih (k + 1) (by omega) ⟨by omega, by omega⟩ (fun i i0 i1 => hz i (by omega) i1)
      · intro h4
        simp only [zc_lt, zc_ge, zc_gt, zc_le, zc_eq] at h4
        refine ⟨by (first | exact ⟨by omega, by omega⟩ | (exfalso; omega)), ?_⟩
        refine ⟨by (first | exact ⟨by omega, by omega⟩ | (exfalso; omega)), ?_⟩
        refine ⟨?_, ?_⟩
        · intro h5
          exact absurd (by assumption) (hz k (by omega) (by omega))
        · intro h6
          exact absurd (by assumption) (hz k (by omega) (by omega))
set_option maxRecDepth 100000 in
set_option maxHeartbeats 4000000 in
theorem lp_h16a {s : Int} {c : Int} {x : Int} {S : Int → Int → Prop} {σ : zS} (hs : 0 ≤ s ∧ s < 5070) (hT : zTM σ s S) : ∀ (n : Nat) (k : Int), σ 61 s - k < (n : Int) → (0 ≤ k ∧ k ≤ σ 61 s) → (∀ i : Int, 0 ≤ i → i < k → ¬ σ 63 (5 * s + i) = x) → zRuns 135 zX0 (fun (v : Int) (u : zS) => zMH σ u s ∧ zTM u s (fun y e => S y e ∨ y = x ∧ e = c)) 16 [some (.inr (.inr (9, 0))), some (.inl s), some (.inl c), some (.inr (.inl x)), none, some (.inl (5 * s)), some (.inl (σ 61 s)), some (.inl k), none] [] σ := by
  intro n
  induction n with
  | zero =>
    intro k hn k0 hz
    exfalso
    omega
  | succ n ih =>
    intro k hn k0 hz
    refine zwalk zmk_135 [(16, [true, true, true, true, false, true, true, true, false]), (57, [true, true, true, true, false, true, true, true, true]), (129, [true, true, true, true, false, true, true, true, false]), (239, [true, true, true, true, false, true, true, true, false])] 3 ?_
    show (((σ 61 s) ≤ k → zRuns 135 zX0 (fun (v : Int) (u : zS) => zMH σ u s ∧ zTM u s (fun y e => S y e ∨ y = x ∧ e = c)) 129 [some (.inr (.inr (9, 0))), some (.inl s), some (.inl c), some (.inr (.inl x)), none, some (.inl (5 * s)), some (.inl (σ 61 s)), some (.inl (σ 61 s)), none] [] σ) ∧ (k < (σ 61 s) → (zI ((5 * s) + k) ∧ ((0 ≤ ((5 * s) + k) ∧ ((5 * s) + k) < (25350 : Int)) ∧ ((¬ (zcmp (σ 63 ((5 * s) + k)) x) = 0 → (zI (k + (1 : Int)) ∧ zRuns 135 zX0 (fun (v : Int) (u : zS) => zMH σ u s ∧ zTM u s (fun y e => S y e ∨ y = x ∧ e = c)) 16 [some (.inr (.inr (9, 0))), some (.inl s), some (.inl c), some (.inr (.inl x)), none, some (.inl (5 * s)), some (.inl (σ 61 s)), some (.inl (k + (1 : Int))), none] [] σ)) ∧ ((zcmp (σ 63 ((5 * s) + k)) x) = 0 → (zI ((5 * s) + k) ∧ ((0 ≤ ((5 * s) + k) ∧ ((5 * s) + k) < (25350 : Int)) ∧ ((c < (σ 62 ((5 * s) + k)) → zRuns 135 zX0 (fun (v : Int) (u : zS) => zMH σ u s ∧ zTM u s (fun y e => S y e ∨ y = x ∧ e = c)) 57 [some (.inr (.inr (9, 0))), some (.inl s), some (.inl c), some (.inr (.inl x)), none, some (.inl (5 * s)), some (.inl (σ 61 s)), some (.inl k), some (.inl k)] [] σ) ∧ ((σ 62 ((5 * s) + k)) ≤ c → (zMH σ σ s ∧ zTM σ s (fun y e => S y e ∨ y = x ∧ e = c))))))))))))
    have hTn := hT.1
    refine ⟨?_, ?_⟩
    · intro h1
      obtain rfl : k = σ 61 s := by omega
      refine (lp_h129 (τ := σ) (c := c) (x := x) hs hTn ((σ 61 s).toNat + 1) (σ 61 s) σ (by omega) ⟨hTn.1, by omega⟩ ⟨zMH.rf, rfl⟩ (fun i _ _ _ => ⟨rfl, rfl⟩) (fun i i0 i1 => by omega) (fun i i0 i1 => by omega)).mono (fun v u q => ⟨q.1, zNS_new hT q hz⟩)
    · intro h2
      refine ⟨by (first | exact ⟨by omega, by omega⟩ | (exfalso; omega)), ?_⟩
      refine ⟨by (first | exact ⟨by omega, by omega⟩ | (exfalso; omega)), ?_⟩
      refine ⟨?_, ?_⟩
      · intro h3
        simp only [zc_lt, zc_ge, zc_gt, zc_le, zc_eq] at h3
        refine ⟨by (first | exact ⟨by omega, by omega⟩ | (exfalso; omega)), ?_⟩
        refine ih (k + 1) (by omega) ⟨by omega, by omega⟩ (fun i i0 i1 => ?_)
        by_cases e : i = k
        · rw [e]; assumption
        · exact hz i i0 (by omega)
      · intro h4
        simp only [zc_lt, zc_ge, zc_gt, zc_le, zc_eq] at h4
        refine ⟨by (first | exact ⟨by omega, by omega⟩ | (exfalso; omega)), ?_⟩
        refine ⟨by (first | exact ⟨by omega, by omega⟩ | (exfalso; omega)), ?_⟩
        refine ⟨?_, ?_⟩
        · intro h5
          have hx : σ 63 (5 * s + k) = x := by assumption
          refine lp_h57 (σ := σ) (m := σ 61 s) (q := k) hs hTn ⟨k0.1, by omega⟩ (fun t g1 g2 g3 => ?_) 6 k σ (by omega) ⟨by omega, by omega⟩ ⟨zMH.rf, rfl⟩ (fun i _ _ _ => ⟨rfl, rfl⟩) (fun i i0 i1 => by omega)
          refine (lp_h16b (c := c) (x := x) (t := t) (m := σ 61 s + -1) hs (by omega) 6 (k + 1) (by omega) ⟨by omega, by omega⟩ (fun i i0 i1 => ?_)).mono (fun v u q => ⟨g1.1.trans q.1, ?_⟩)
          · rw [(g3 i (by omega) (by omega)).2]
            intro e
            exact (hT.2.1 k (i + 1) k0.1 (by omega) (by omega)).2 (hx.trans e.symm)
          · exact zNS_old hT q ⟨k0.1, by omega⟩ hx (by assumption) g2 (fun i i0 i1 => g3 i i0 i1)
        · intro h6
          exact ⟨zMH.rf, zTop.had hT k0.1 (by omega) (by assumption) (by assumption)⟩
set_option maxRecDepth 100000 in
set_option maxHeartbeats 4000000 in
theorem am_X9_hold {σ : zS} {s : Int} {c : Int} {x : Int} {S : Int → Int → Prop} (hs : 0 ≤ s ∧ s < 5070) (hT : zTM σ s S) : zAM 135 [.inr (.inr (9, 0)), .inl s, .inl c, .inr (.inl x)] σ (fun (v : Int) (u : zS) => zMH σ u s ∧ zTM u s (fun y e => S y e ∨ y = x ∧ e = c)) := by
  refine zam (by decide) (Nat.le_of_ble_eq_true rfl) ?_
  refine zwalk zmk_135 [(16, [true, true, true, true, false, true, true, true, false]), (57, [true, true, true, true, false, true, true, true, true]), (129, [true, true, true, true, false, true, true, true, false]), (239, [true, true, true, true, false, true, true, true, false])] 2 ?_
  show (zI ((5 : Int) * s) ∧ ((0 ≤ s ∧ s < (5070 : Int)) ∧ zRuns 135 zX0 (fun (v : Int) (u : zS) => zMH σ u s ∧ zTM u s (fun y e => S y e ∨ y = x ∧ e = c)) 16 [some (.inr (.inr (9, 0))), some (.inl s), some (.inl c), some (.inr (.inl x)), none, some (.inl ((5 : Int) * s)), some (.inl (σ 61 s)), some (.inl (0 : Int)), none] [] σ))
  refine ⟨by (first | exact ⟨by omega, by omega⟩ | (exfalso; omega)), ?_⟩
  refine ⟨by (first | exact ⟨by omega, by omega⟩ | (exfalso; omega)), ?_⟩
  have hTn := hT.1
  exact lp_h16a hs hT 6 0 (by omega) ⟨by omega, by omega⟩ (fun i i0 i1 => by omega)
