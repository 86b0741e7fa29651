/-! the first five of what is offered: S x d says that the code x is offered at the cost d -/
abbrev zbe (d x d' x' : Int) : Prop := d < d' ∨ d = d' ∧ x < x'
def zTop (S : Int → Int → Prop) (n : Int) (c w : Int → Int) : Prop :=
  (0 ≤ n ∧ n ≤ 5) ∧
  (∀ i j : Int, 0 ≤ i → i < j → j < n → zbe (c i) (w i) (c j) (w j) ∧ ¬ w i = w j) ∧
  (∀ i : Int, 0 ≤ i → i < n → S (w i) (c i) ∧ ∀ d, S (w i) d → c i ≤ d) ∧
  ∀ x d, S x d → (∃ i : Int, 0 ≤ i ∧ i < n ∧ w i = x) ∨ n = 5 ∧ ∀ i : Int, 0 ≤ i → i < 5 → zbe (c i) (w i) d x
theorem zTop_0 {c w : Int → Int} : zTop (fun _ _ => False) 0 c w := ⟨by decide, fun i j a b h => by omega, fun i a b => by omega, fun x d h => h.elim⟩
theorem zTop.congr {S T : Int → Int → Prop} {n : Int} {c w : Int → Int} (h : zTop S n c w) (e : ∀ x d, S x d ↔ T x d) : zTop T n c w :=
  ⟨h.1, h.2.1, fun i a b => ⟨(e _ _).mp (h.2.2.1 i a b).1, fun d hd => (h.2.2.1 i a b).2 d ((e _ _).mpr hd)⟩, fun x d hd => h.2.2.2 x d ((e _ _).mpr hd)⟩
theorem zTop.arr {S : Int → Int → Prop} {n : Int} {c w c' w' : Int → Int} (h : zTop S n c w) (e : ∀ i : Int, 0 ≤ i → i < n → c' i = c i ∧ w' i = w i) : zTop S n c' w' := by
  obtain ⟨h1, h2, h3, h4⟩ := h
  refine ⟨h1, fun i j a b b2 => ?_, fun i a b => ?_, fun x d hd => ?_⟩
  · obtain ⟨e1, e2⟩ := e i a (by omega)
    obtain ⟨e3, e4⟩ := e j (by omega) b2
    rw [e1, e2, e3, e4]; exact h2 i j a b b2
  · obtain ⟨e1, e2⟩ := e i a b
    rw [e1, e2]; exact h3 i a b
  · rcases h4 x d hd with ⟨i, a, b, q⟩ | ⟨q1, q2⟩
    · exact Or.inl ⟨i, a, b, by rw [(e i a b).2]; exact q⟩
    · refine Or.inr ⟨q1, fun i a b => ?_⟩
      obtain ⟨e1, e2⟩ := e i a (by omega)
      rw [e1, e2]; exact q2 i a b
/-- a sorted list's last one is not ahead of the others -/
theorem zTop.last {S : Int → Int → Prop} {n : Int} {c w : Int → Int} (h : zTop S n c w) {i : Int} (a : 0 ≤ i) (b : i < n) : i = n - 1 ∨ zbe (c i) (w i) (c (n - 1)) (w (n - 1)) := by
  by_cases e : i = n - 1
  · exact Or.inl e
  · exact Or.inr (h.2.1 i (n - 1) a (by omega) (by omega)).1
/-- what is not ahead of the last of five changes nothing -/
theorem zTop.over {S : Int → Int → Prop} {n : Int} {c w : Int → Int} {x d : Int} (h : zTop S n c w) (hn : n = 5) (hx : ¬ zbe d x (c 4) (w 4)) : zTop (fun y e => S y e ∨ y = x ∧ e = d) n c w := by
  subst hn
  obtain ⟨h1, h2, h3, h4⟩ := h
  have hl : ∀ i : Int, 0 ≤ i → i < 5 → i = 4 ∨ zbe (c i) (w i) (c 4) (w 4) := fun i a b => by
    by_cases e : i = 4
    · exact Or.inl e
    · exact Or.inr (h2 i 4 a (by omega) (by omega)).1
  refine ⟨h1, h2, fun i a b => ⟨Or.inl (h3 i a b).1, fun e he => ?_⟩, fun y e he => ?_⟩
  · rcases he with he | ⟨e1, e2⟩
    · exact (h3 i a b).2 e he
    · have := hl i a b
      rcases this with rfl | this
      · omega
      · omega
  · rcases he with he | ⟨e1, e2⟩
    · exact h4 y e he
    · by_cases q : ∃ i : Int, 0 ≤ i ∧ i < 5 ∧ w i = y
      · exact Or.inl q
      · refine Or.inr ⟨rfl, fun i a b => ?_⟩
        have q1 : ¬ w i = y := fun q2 => q ⟨i, a, b, q2⟩
        rcases hl i a b with rfl | this
        · omega
        · omega
/-- what is there already, and costs no more, changes nothing -/
theorem zTop.had {S : Int → Int → Prop} {n k : Int} {c w : Int → Int} {x d : Int} (h : zTop S n c w) (k0 : 0 ≤ k) (k1 : k < n) (hk : w k = x) (hd : c k ≤ d) : zTop (fun y e => S y e ∨ y = x ∧ e = d) n c w := by
  obtain ⟨h1, h2, h3, h4⟩ := h
  refine ⟨h1, h2, fun i a b => ⟨Or.inl (h3 i a b).1, fun e he => ?_⟩, fun y e he => ?_⟩
  · rcases he with he | ⟨e1, e2⟩
    · exact (h3 i a b).2 e he
    · have e9 : i = k := by
        rcases Int.lt_trichotomy i k with q | q | q
        · exact absurd (e1.trans hk.symm) (h2 i k a q k1).2
        · exact q
        · exact absurd (hk.trans e1.symm) (h2 k i k0 q b).2
      rw [e9]; omega
  · rcases he with he | ⟨e1, e2⟩
    · exact h4 y e he
    · exact Or.inl ⟨k, k0, k1, hk.trans e1.symm⟩
set_option maxHeartbeats 4000000 in
/-- one comes in at p; those from p on to q moved by one -/
theorem zTop.put {S : Int → Int → Prop} {n m p q : Int} {c w c' w' : Int → Int} {x d : Int} (h : zTop S n c w) (hp : 0 ≤ p ∧ p ≤ q)
    (hq : (q < n ∧ w q = x ∧ m = n) ∨ ((∀ i : Int, 0 ≤ i → i < n → ¬ w i = x) ∧ (q = n ∧ n < 5 ∧ m = n + 1 ∨ q = 4 ∧ n = 5 ∧ m = 5)))
    (hlo : ∀ i : Int, 0 ≤ i → i < p → ¬ zbe d x (c i) (w i)) (hup : ∀ i : Int, p ≤ i → i ≤ q → i < n → zbe d x (c i) (w i))
    (hn : ∀ i : Int, 0 ≤ i → i < m → (i < p ∧ c' i = c i ∧ w' i = w i) ∨ (i = p ∧ c' i = d ∧ w' i = x) ∨ (p < i ∧ i ≤ q ∧ c' i = c (i - 1) ∧ w' i = w (i - 1)) ∨ (q < i ∧ c' i = c i ∧ w' i = w i)) : zTop (fun y e => S y e ∨ y = x ∧ e = d) m c' w' := by
  obtain ⟨h1, h2, h3, h4⟩ := h
  have hx : ∀ i : Int, 0 ≤ i → i < n → w i = x → i = q ∧ m = n := fun i a b e => by
    rcases hq with ⟨q1, q2, q3⟩ | ⟨q1, -⟩
    · rcases Int.lt_trichotomy i q with r | r | r
      · exact absurd (e.trans q2.symm) (h2 i q a r q1).2
      · exact ⟨r, q3⟩
      · exact absurd (q2.trans e.symm) (h2 q i (by omega) r b).2
    · exact absurd e (q1 i a b)
  have hmn : m = n ∧ q < n ∨ m = n + 1 ∧ q = n := by
    rcases hq with ⟨q1, q2, q3⟩ | ⟨-, q1 | q1⟩ <;> omega
  have lo2 : ∀ i : Int, 0 ≤ i → i < p → i < n → zbe (c i) (w i) d x := fun i a b b2 => by
    have := hlo i a b
    have e1 : ¬ w i = x := fun e => by have := (hx i a b2 e).1; omega
    omega
  refine ⟨by omega, fun i j a b b2 => ?_, fun i a b => ?_, fun y e he => ?_⟩
  · rcases hn i a (by omega) with ⟨i1, i2, i3⟩ | ⟨i1, i2, i3⟩ | ⟨i1, i4, i2, i3⟩ | ⟨i1, i2, i3⟩
    · rcases hn j (by omega) b2 with ⟨j1, j2, j3⟩ | ⟨j1, j2, j3⟩ | ⟨j1, j4, j2, j3⟩ | ⟨j1, j2, j3⟩ <;> rw [i2, i3, j2, j3]
      · exact h2 i j a b (by omega)
      · exact ⟨lo2 i a i1 (by omega), fun e => by have := (hx i a (by omega) e).1; omega⟩
      · exact h2 i (j - 1) a (by omega) (by omega)
      · exact h2 i j a b (by omega)
    · rcases hn j (by omega) b2 with ⟨j1, j2, j3⟩ | ⟨j1, j2, j3⟩ | ⟨j1, j4, j2, j3⟩ | ⟨j1, j2, j3⟩
      · omega
      · omega
      · rw [i2, i3, j2, j3]
        exact ⟨hup (j - 1) (by omega) (by omega) (by omega), fun e => by have := (hx (j - 1) (by omega) (by omega) e.symm).1; omega⟩
      · rw [i2, i3, j2, j3]
        have t := hup q (by omega) (by omega) (by omega)
        have t2 := (h2 q j (by omega) (by omega) (by omega)).1
        refine ⟨?_, fun e => by have := (hx j (by omega) (by omega) e.symm).1; omega⟩
        clear hn hup hlo lo2 hx h3 h4 hq
        omega
    · rcases hn j (by omega) b2 with ⟨j1, j2, j3⟩ | ⟨j1, j2, j3⟩ | ⟨j1, j4, j2, j3⟩ | ⟨j1, j2, j3⟩
      · omega
      · omega
      · rw [i2, i3, j2, j3]; exact h2 (i - 1) (j - 1) (by omega) (by omega) (by omega)
      · rw [i2, i3, j2, j3]; exact h2 (i - 1) j (by omega) (by omega) (by omega)
    · rcases hn j (by omega) b2 with ⟨j1, j2, j3⟩ | ⟨j1, j2, j3⟩ | ⟨j1, j4, j2, j3⟩ | ⟨j1, j2, j3⟩
      · omega
      · omega
      · omega
      · rw [i2, i3, j2, j3]; exact h2 i j a b (by omega)
  · rcases hn i a b with ⟨i1, i2, i3⟩ | ⟨i1, i2, i3⟩ | ⟨i1, i4, i2, i3⟩ | ⟨i1, i2, i3⟩
    · rw [i2, i3]
      obtain ⟨t1, t2⟩ := h3 i a (by omega)
      refine ⟨Or.inl t1, fun e he => ?_⟩
      rcases he with he | ⟨e1, e2⟩
      · exact t2 e he
      · have := hx i a (by omega) e1
        omega
    · rw [i2, i3]
      refine ⟨Or.inr ⟨rfl, rfl⟩, fun e he => ?_⟩
      rcases he with he | ⟨e1, e2⟩
      · rcases h4 x e he with ⟨k, k0, k1, k2⟩ | ⟨k1, k2⟩
        · have t := (h3 k k0 k1).2 e (by rw [k2]; exact he)
          have t2 := hx k k0 k1 k2
          have t3 := hup k (by omega) (by omega) k1
          omega
        · have t := k2 4 (by omega) (by omega)
          by_cases g : p ≤ 4
          · by_cases g2 : q < 4
            · rcases hq with ⟨q1, q2, q3⟩ | ⟨-, q1 | q1⟩
              · have t4 := k2 q (by omega) (by omega)
                have t5 := hup q (by omega) (by omega) (by omega)
                omega
              · omega
              · omega
            · have t5 := hup 4 (by omega) (by omega) (by omega)
              omega
          · omega
      · omega
    · rw [i2, i3]
      obtain ⟨t1, t2⟩ := h3 (i - 1) (by omega) (by omega)
      refine ⟨Or.inl t1, fun e he => ?_⟩
      rcases he with he | ⟨e1, e2⟩
      · exact t2 e he
      · have := hx (i - 1) (by omega) (by omega) e1
        omega
    · rw [i2, i3]
      obtain ⟨t1, t2⟩ := h3 i a (by omega)
      refine ⟨Or.inl t1, fun e he => ?_⟩
      rcases he with he | ⟨e1, e2⟩
      · exact t2 e he
      · have := hx i a (by omega) e1
        omega
  · -- where an old one of the list stands now
    have mv : ∀ k : Int, 0 ≤ k → k < n → ¬ w k = x → (∃ i : Int, 0 ≤ i ∧ i < m ∧ w' i = w k) ∨ k = 4 ∧ n = 5 ∧ m = 5 := fun k k0 k1 kx => by
      by_cases g : k < p
      · refine Or.inl ⟨k, k0, by omega, ?_⟩
        have := hn k k0 (by omega)
        omega
      · by_cases g2 : q < k
        · refine Or.inl ⟨k, k0, by omega, ?_⟩
          have := hn k k0 (by omega)
          omega
        · by_cases g3 : k = q
          · subst g3
            rcases hq with ⟨q1, q2, q3⟩ | ⟨-, q1 | q1⟩
            · exact absurd q2 kx
            · omega
            · exact Or.inr ⟨q1.1, q1.2.1, q1.2.2⟩
          · refine Or.inl ⟨k + 1, by omega, by omega, ?_⟩
            have := hn (k + 1) (by omega) (by omega)
            rw [show k + 1 - 1 = k by omega] at this
            omega
    have me : ∃ i : Int, 0 ≤ i ∧ i < m ∧ w' i = x := by
      refine ⟨p, hp.1, by omega, ?_⟩
      have := hn p hp.1 (by omega)
      omega
    -- five are there: all of the new ones are ahead of what was out
    have al : ∀ (f y : Int), n = 5 → m = 5 → (∀ i : Int, 0 ≤ i → i < 5 → i ≤ 4 → (c i < f ∨ c i = f ∧ w i < y)) → ∀ i : Int, 0 ≤ i → i < 5 → c' i < f ∨ c' i = f ∧ w' i < y := fun f y n5 m5 hall i a b => by
      have a1 := hn i a (by omega)
      have a2 := hall i a b (by omega)
      have a3 := hall (i - 1)
      have a4 := hall q (by omega) (by omega) (by omega)
      have a5 := hup q (by omega) (by omega) (by omega)
      rcases a1 with ⟨i1, i2, i3⟩ | ⟨i1, i2, i3⟩ | ⟨i1, i4, i2, i3⟩ | ⟨i1, i2, i3⟩ <;> rw [i2, i3]
      · exact a2
      · omega
      · exact a3 (by omega) (by omega) (by omega)
      · exact a2
    rcases he with he | ⟨e1, e2⟩
    · by_cases yx : y = x
      · rw [yx]; exact Or.inl me
      · rcases h4 y e he with ⟨k, k0, k1, k2⟩ | ⟨k1, k2⟩
        · rcases mv k k0 k1 (by rw [k2]; exact yx) with ⟨i, i0, i1, i2⟩ | ⟨g1, g2, g3⟩
          · exact Or.inl ⟨i, i0, i1, by rw [i2, k2]⟩
          · by_cases out : ∃ i : Int, 0 ≤ i ∧ i < m ∧ w' i = y
            · exact Or.inl out
            · refine Or.inr ⟨g3, fun i a b => ?_⟩
              -- k = 4 is the last one: it went out
              have t := (h3 k k0 k1).2 e (by rw [k2]; exact he)
              have a1 := hn i a (by omega)
              have nx : ∀ i : Int, 0 ≤ i → i < 5 → ¬ w' i = y := fun i a b z => out ⟨i, a, by omega, z⟩
              have q4 : q = 4 := by
                rcases hq with ⟨q1, q2, q3⟩ | ⟨-, q1 | q1⟩
                · by_cases z : q = 4
                  · exact z
                  · exfalso
                    have a9 := hn 4 (by omega) (by omega)
                    have b9 := nx 4 (by omega) (by omega)
                    subst g1
                    omega
                · omega
                · exact q1.1
              have s1 := h2 i 4 a
              have s2 := h2 (i - 1) 4
              have l4 := hup 4 (by omega) (by omega) (by omega)
              subst g1
              rcases a1 with ⟨i1, i2, i3⟩ | ⟨i1, i2, i3⟩ | ⟨i1, i4, i2, i3⟩ | ⟨i1, i2, i3⟩ <;> rw [i2, i3]
              · have := (s1 (by omega) (by omega)).1
                omega
              · omega
              · have := (s2 (by omega) (by omega) (by omega)).1
                omega
              · omega
        · refine Or.inr ⟨by omega, al e y k1 (by omega) (fun i a b _ => k2 i a b)⟩
    · rw [e1]; exact Or.inl me
/-- five places hold five: nothing else is there -/
theorem zfive {n i0 i1 i2 i3 i4 i : Int} (hn : n ≤ 5) (h0 : 0 ≤ i0 ∧ i0 < n) (h1 : 0 ≤ i1 ∧ i1 < n) (h2 : 0 ≤ i2 ∧ i2 < n) (h3 : 0 ≤ i3 ∧ i3 < n) (h4 : 0 ≤ i4 ∧ i4 < n) (d1 : ¬ i0 = i1) (d2 : ¬ i0 = i2) (d3 : ¬ i0 = i3) (d4 : ¬ i0 = i4) (d5 : ¬ i1 = i2) (d6 : ¬ i1 = i3) (d7 : ¬ i1 = i4) (d8 : ¬ i2 = i3) (d9 : ¬ i2 = i4) (d10 : ¬ i3 = i4) : n = 5 ∧ (0 ≤ i → i < 5 → i = i0 ∨ i = i1 ∨ i = i2 ∨ i = i3 ∨ i = i4) := by
  have key : ∀ a b c d e x : Fin 5, ¬ a = b → ¬ a = c → ¬ a = d → ¬ a = e → ¬ b = c → ¬ b = d → ¬ b = e → ¬ c = d → ¬ c = e → ¬ d = e → x = a ∨ x = b ∨ x = c ∨ x = d ∨ x = e := by decide +kernel
  have ky : ∀ x : Int, 0 ≤ x → x < 5 → x = i0 ∨ x = i1 ∨ x = i2 ∨ x = i3 ∨ x = i4 := fun x x0 x1 => by
    have := key ⟨i0.toNat, by omega⟩ ⟨i1.toNat, by omega⟩ ⟨i2.toNat, by omega⟩ ⟨i3.toNat, by omega⟩ ⟨i4.toNat, by omega⟩ ⟨x.toNat, by omega⟩
    simp only [Fin.mk.injEq] at this
    have := this (by omega) (by omega) (by omega) (by omega) (by omega) (by omega) (by omega) (by omega) (by omega) (by omega)
    omega
  exact ⟨by have := ky 4 (by omega) (by omega); omega, ky i⟩
/-- what is no better than five of other codes changes nothing -/
theorem zTop.five {S : Int → Int → Prop} {n : Int} {c w : Int → Int} {x d : Int} (h : zTop S n c w) (y e : Int → Int) (hy : ∀ i : Int, 0 ≤ i → i < 5 → S (y i) (e i) ∧ zbe (e i) (y i) d x) (hne : ∀ i j : Int, 0 ≤ i → i < j → j < 5 → ¬ y i = y j) : n = 5 ∧ ∀ i : Int, 0 ≤ i → i < 5 → zbe (c i) (w i) d x := by
  obtain ⟨h1, h2, h3, h4⟩ := h
  by_cases g : ∃ i : Int, 0 ≤ i ∧ i < 5 ∧ n = 5 ∧ ∀ j : Int, 0 ≤ j → j < 5 → zbe (c j) (w j) (e i) (y i)
  · obtain ⟨i, a, b, n5, q⟩ := g
    refine ⟨n5, fun j j0 j1 => ?_⟩
    have q1 := q j j0 j1
    have q2 := (hy i a b).2
    omega
  · have g1 : ∀ i : Int, 0 ≤ i → i < 5 → ∃ k : Int, 0 ≤ k ∧ k < n ∧ w k = y i := fun i a b => by
      rcases h4 _ _ (hy i a b).1 with q | q
      · exact q
      · exact absurd ⟨i, a, b, q⟩ g
    obtain ⟨k0, a0, b0, e0⟩ := g1 0 (by omega) (by omega)
    obtain ⟨k1, a1, b1, e1⟩ := g1 1 (by omega) (by omega)
    obtain ⟨k2, a2, b2, e2⟩ := g1 2 (by omega) (by omega)
    obtain ⟨k3, a3, b3, e3⟩ := g1 3 (by omega) (by omega)
    obtain ⟨k4, a4, b4, e4⟩ := g1 4 (by omega) (by omega)
    have ne : ∀ i j : Int, 0 ≤ i → i < j → j < 5 → ∀ a b : Int, w a = y i → w b = y j → ¬ a = b := fun i j i0 ij j5 a b p q r => hne i j i0 ij j5 (by rw [← p, ← q, r])
    have hf := fun i => zfive (n := n) (i := i) h1.2 ⟨a0, b0⟩ ⟨a1, b1⟩ ⟨a2, b2⟩ ⟨a3, b3⟩ ⟨a4, b4⟩ (ne 0 1 (by omega) (by omega) (by omega) _ _ e0 e1) (ne 0 2 (by omega) (by omega) (by omega) _ _ e0 e2) (ne 0 3 (by omega) (by omega) (by omega) _ _ e0 e3) (ne 0 4 (by omega) (by omega) (by omega) _ _ e0 e4) (ne 1 2 (by omega) (by omega) (by omega) _ _ e1 e2) (ne 1 3 (by omega) (by omega) (by omega) _ _ e1 e3) (ne 1 4 (by omega) (by omega) (by omega) _ _ e1 e4) (ne 2 3 (by omega) (by omega) (by omega) _ _ e2 e3) (ne 2 4 (by omega) (by omega) (by omega) _ _ e2 e4) (ne 3 4 (by omega) (by omega) (by omega) _ _ e3 e4)
    have le : ∀ i k : Int, 0 ≤ i → i < 5 → 0 ≤ k → k < n → w k = y i → zbe (c k) (w k) d x := fun i k i0 i5 k0 kn ek => by
      have t := (h3 k k0 kn).2 (e i) (by rw [ek]; exact (hy i i0 i5).1)
      have t2 := (hy i i0 i5).2
      rw [ek]
      omega
    refine ⟨(hf 0).1, fun i i0 i5 => ?_⟩
    rcases (hf i).2 i0 i5 with q | q | q | q | q
    · rw [q]; exact le 0 _ (by omega) (by omega) a0 b0 e0
    · rw [q]; exact le 1 _ (by omega) (by omega) a1 b1 e1
    · rw [q]; exact le 2 _ (by omega) (by omega) a2 b2 e2
    · rw [q]; exact le 3 _ (by omega) (by omega) a3 b3 e3
    · rw [q]; exact le 4 _ (by omega) (by omega) a4 b4 e4
/-- the extensions of the first five hold the first five of the extensions -/
theorem zTop.ext {A S T : Int → Int → Prop} {n m : Int} {c w c' w' : Int → Int} {φ : Int → Int} {δ : Int} (h : zTop A n c w) (hφ : ∀ x d y e, A x d → A y e → x < y → φ x < φ y)
    (h' : zTop (fun y e => S y e ∨ ∃ i : Int, 0 ≤ i ∧ i < n ∧ y = φ (w i) ∧ e = c i + δ) m c' w') (hT : ∀ y e, T y e ↔ S y e ∨ ∃ x d, A x d ∧ y = φ x ∧ e = d + δ) : zTop T m c' w' := by
  have lt : ∀ i j : Int, 0 ≤ i → i < j → j < n → ¬ φ (w i) = φ (w j) := fun i j i0 ij jn e => by
    have n1 := (h.2.1 i j i0 ij jn).2
    have p1 := (h.2.2.1 i i0 (by omega)).1
    have p2 := (h.2.2.1 j (by omega) jn).1
    rcases Int.lt_or_gt_of_ne n1 with q | q
    · have := hφ _ _ _ _ p1 p2 q; omega
    · have := hφ _ _ _ _ p2 p1 q; omega
  have up : ∀ y e, T y e → ∃ e', e' ≤ e ∧ ((S y e' ∨ ∃ i : Int, 0 ≤ i ∧ i < n ∧ y = φ (w i) ∧ e' = c i + δ) ∨ (m = 5 ∧ ∀ i : Int, 0 ≤ i → i < 5 → zbe (c' i) (w' i) e y)) := fun y e ht => by
    rcases (hT y e).mp ht with q | ⟨x, d, a, e1, e2⟩
    · exact ⟨e, by omega, Or.inl (Or.inl q)⟩
    · rcases h.2.2.2 x d a with ⟨i, i0, i1, i2⟩ | ⟨n5, i2⟩
      · refine ⟨c i + δ, ?_, Or.inl (Or.inr ⟨i, i0, i1, by rw [i2]; exact e1, rfl⟩)⟩
        have := (h.2.2.1 i i0 i1).2 d (by rw [i2]; exact a)
        omega
      · refine ⟨e, by omega, Or.inr ?_⟩
        refine h'.five (fun i => φ (w i)) (fun i => c i + δ) (fun i i0 i5 => ⟨Or.inr ⟨i, i0, by omega, rfl, rfl⟩, ?_⟩) (fun i j i0 ij j5 => lt i j i0 ij (by omega))
        have b := i2 i i0 i5
        have p1 := (h.2.2.1 i i0 (by omega)).1
        rw [e1, e2]
        rcases b with b | ⟨b1, b2⟩
        · exact Or.inl (by omega)
        · exact Or.inr ⟨by omega, hφ _ _ _ _ p1 a b2⟩
  have dn : ∀ y e, (S y e ∨ ∃ i : Int, 0 ≤ i ∧ i < n ∧ y = φ (w i) ∧ e = c i + δ) → T y e := fun y e q => by
    rcases q with q | ⟨i, i0, i1, e1, e2⟩
    · exact (hT y e).mpr (Or.inl q)
    · exact (hT y e).mpr (Or.inr ⟨w i, c i, (h.2.2.1 i i0 i1).1, e1, e2⟩)
  obtain ⟨g1, g2, g3, g4⟩ := h'
  refine ⟨g1, g2, fun i i0 i1 => ⟨dn _ _ (g3 i i0 i1).1, fun e he => ?_⟩, fun y e he => ?_⟩
  · obtain ⟨e', le, q | ⟨m5, q⟩⟩ := up _ _ he
    · have := (g3 i i0 i1).2 e' q
      omega
    · have := q i i0 (by omega)
      omega
  · obtain ⟨e', le, q | q⟩ := up _ _ he
    · rcases g4 y e' q with r | ⟨m5, r⟩
      · exact Or.inl r
      · refine Or.inr ⟨m5, fun i i0 i5 => ?_⟩
        have := r i i0 i5
        omega
    · exact Or.inr q
/-- there is but one such list -/
theorem zTop.uniq {S : Int → Int → Prop} {n m : Int} {c w c' w' : Int → Int} (h : zTop S n c w) (h' : zTop S m c' w') : n = m ∧ ∀ i : Int, 0 ≤ i → i < n → c i = c' i ∧ w i = w' i := by
  -- one side: the first place where they part
  have half : ∀ {n m : Int} {c w c' w' : Int → Int}, zTop S n c w → zTop S m c' w' → ∀ i : Int, 0 ≤ i → i < n → (∀ j : Int, 0 ≤ j → j < i → j < m ∧ w j = w' j) → i < m ∧ (i < m → ¬ zbe (c i) (w i) (c' i) (w' i)) := fun {n m c w c' w'} h h' i i0 i1 hj => by
    obtain ⟨h1, h2, h3, h4⟩ := h
    obtain ⟨g1, g2, g3, g4⟩ := h'
    obtain ⟨s1, s2⟩ := h3 i i0 i1
    rcases g4 _ _ s1 with ⟨k, k0, k1, k2⟩ | ⟨m5, q⟩
    · have t := (g3 k k0 k1).1
      rw [k2] at t
      have t2 := s2 _ t
      have t3 := (g3 k k0 k1).2 (c i) (by rw [k2]; exact s1)
      have ki : i ≤ k := by
        by_cases z : k < i
        · have := hj k k0 z
          have n1 := (h2 k i k0 z i1).2
          rw [this.2, k2] at n1
          exact absurd rfl n1
        · omega
      refine ⟨by omega, fun im z => ?_⟩
      by_cases e : k = i
      · subst e
        omega
      · have := (g2 i k i0 (by omega) k1).1
        omega
    · refine ⟨by omega, fun im z => ?_⟩
      have := q i i0 (by omega)
      omega
  have al : ∀ k : Nat, ∀ i : Int, 0 ≤ i → i < (k : Int) → (i < n → i < m) ∧ (i < m → i < n) ∧ (i < n → c i = c' i ∧ w i = w' i) := by
    intro k
    induction k with
    | zero => intro i a b; omega
    | succ k ih =>
      intro i a b
      by_cases e : i < (k : Int)
      · exact ih i a e
      · have A : i < n → (i < m ∧ (i < m → ¬ zbe (c i) (w i) (c' i) (w' i))) := fun q => half h h' i a q (fun j j0 j1 => by
          have := ih j j0 (by omega)
          exact ⟨this.1 (by omega), (this.2.2 (by omega)).2⟩)
        have B : i < m → (i < n ∧ (i < n → ¬ zbe (c' i) (w' i) (c i) (w i))) := fun q => half h' h i a q (fun j j0 j1 => by
          have := ih j j0 (by omega)
          have t := this.2.1 (by omega)
          exact ⟨t, (this.2.2 t).2.symm⟩)
        refine ⟨fun q => (A q).1, fun q => (B q).1, fun q => ?_⟩
        have a1 := (A q).2 (A q).1
        have b1 := (B (A q).1).2 q
        omega
  have e5 := fun i a b => al 6 i a b
  have hn := h.1
  have hm := h'.1
  refine ⟨?_, fun i a b => (e5 i a (by omega)).2.2 b⟩
  by_cases g : n < m
  · have := (e5 n hn.1 (by omega)).2.1 g; omega
  · by_cases g2 : m < n
    · have := (e5 m hm.1 (by omega)).1 g2; omega
    · omega
