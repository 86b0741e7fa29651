/-! readings by the list, in order: how many of the first t places cost (a place ahead of) x at most -/
def zcntl (C : Int → Int) (x : Int) : Nat → Int
  | 0 => 0
  | t + 1 => zcntl C x t + (if 0 ≤ C t ∧ 32 * C t + t ≤ x then 1 else 0)
theorem zcntl_mono {C : Int → Int} {x y : Int} (h : x ≤ y) : ∀ {t : Nat}, zcntl C x t ≤ zcntl C y t
  | 0 => Int.le_refl _
  | t + 1 => by
    have ih := zcntl_mono (C := C) h (t := t)
    simp only [zcntl]
    split <;> split <;> omega
theorem zcntl_lt {C : Int → Int} {w : Int} : ∀ {t : Nat}, 0 ≤ w → w < t → 0 ≤ C w → zcntl C (32 * C w + w - 1) t < zcntl C (32 * C w + w) t
  | 0, h0, h1, _ => by omega
  | t + 1, h0, h1, h2 => by
    simp only [zcntl]
    by_cases e : w = t
    · have m := zcntl_mono (C := C) (x := 32 * C w + w - 1) (y := 32 * C w + w) (by omega) (t := t)
      rw [← e] at *
      rw [if_neg (by omega), if_pos (by omega)]
      omega
    · have ih := zcntl_lt (C := C) (w := w) (t := t) h0 (by omega) h2
      split <;> split <;> omega
/-- a place among the readings tells the word -/
theorem zcntl_uniq {C : Int → Int} {w w' : Int} {t : Nat} (h : 0 ≤ w ∧ w < t ∧ 0 ≤ C w ∧ w < 32) (h' : 0 ≤ w' ∧ w' < t ∧ 0 ≤ C w' ∧ w' < 32) (e : zcntl C (32 * C w + w - 1) t = zcntl C (32 * C w' + w' - 1) t) : w = w' := by
  rcases Int.lt_trichotomy (32 * C w + w) (32 * C w' + w') with q | q | q
  · have l := zcntl_lt (C := C) (w := w) h.1 h.2.1 h.2.2.1
    have m := zcntl_mono (C := C) (x := 32 * C w + w) (y := 32 * C w' + w' - 1) (by omega) (t := t)
    omega
  · omega
  · have l := zcntl_lt (C := C) (w := w') h'.1 h'.2.1 h'.2.2.1
    have m := zcntl_mono (C := C) (x := 32 * C w' + w') (y := 32 * C w + w - 1) (by omega) (t := t)
    omega
/-- the first t places' readings stand in c (costs) and q (places), n of them -/
def zLR (C : Int → Int) (t : Nat) (n : Int) (q c : Int → Int) : Prop := (0 ≤ n ∧ n ≤ t) ∧ (∀ i : Int, 0 ≤ i → i < n → (0 ≤ q i ∧ q i < t) ∧ c i = C (q i) ∧ 0 ≤ c i) ∧ (∀ i j : Int, 0 ≤ i → i < j → j < n → 32 * c i + q i < 32 * c j + q j) ∧ (∀ w : Int, 0 ≤ w → w < t → 0 ≤ C w → ∃ i : Int, 0 ≤ i ∧ i < n ∧ q i = w) ∧ ∀ x a : Int, 0 ≤ a → a ≤ n → (∀ i : Int, 0 ≤ i → i < a → 32 * c i + q i ≤ x) → (∀ i : Int, a ≤ i → i < n → x < 32 * c i + q i) → zcntl C x t = a
theorem zLR_0 {C : Int → Int} {q c : Int → Int} : zLR C 0 0 q c := ⟨by decide, fun i a b => by omega, fun i j a b d => by omega, fun w a b => by omega, fun x a h0 h1 _ _ => by show (0 : Int) = a; omega⟩
theorem zLR_skip {C : Int → Int} {t : Nat} {n : Int} {q c : Int → Int} (h : zLR C t n q c) (hC : C t < 0) : zLR C (t + 1) n q c := by
  obtain ⟨h1, h2, h3, h4, h5⟩ := h
  refine ⟨by omega, fun i a b => ⟨by have := (h2 i a b).1; omega, (h2 i a b).2⟩, h3, fun w a b d => h4 w a ?_ d, fun x a a0 a1 g1 g2 => ?_⟩
  · by_cases e : w = t
    · rw [e] at d; omega
    · omega
  · simp only [zcntl]
    rw [if_neg (by omega), h5 x a a0 a1 g1 g2]
    omega
theorem zLR_ins {C : Int → Int} {t : Nat} {n p : Int} {q c q' c' : Int → Int} (h : zLR C t n q c) (ht : t < 31) (hC : 0 ≤ C t) (hp : 0 ≤ p ∧ p ≤ n) (e1 : ∀ i : Int, 0 ≤ i → i < p → q' i = q i ∧ c' i = c i) (e2 : q' p = t ∧ c' p = C t) (e3 : ∀ i : Int, p < i → i ≤ n → q' i = q (i - 1) ∧ c' i = c (i - 1)) (lo : p = 0 ∨ c (p - 1) ≤ C t) (hi : ∀ i : Int, p ≤ i → i < n → C t < c i) : zLR C (t + 1) (n + 1) q' c' := by
  obtain ⟨h1, h2, h3, h4, h5⟩ := h
  have lo2 : ∀ i : Int, 0 ≤ i → i < p → 32 * c i + q i < 32 * C t + t := fun i a b => by
    have i2 := h2 i a (by omega)
    have k2 := h2 (p - 1) (by omega) (by omega)
    rcases lo with lo | lo
    · omega
    · by_cases e : i = p - 1
      · rw [e]; omega
      · have := h3 i (p - 1) a (by omega) (by omega)
        omega
  have hi2 : ∀ i : Int, p ≤ i → i < n → 32 * C t + t < 32 * c i + q i := fun i a b => by
    have i2 := h2 i (by omega) b
    have := hi i a b
    omega
  have cs : ∀ i : Int, 0 ≤ i → i < n + 1 → (i < p ∧ q' i = q i ∧ c' i = c i) ∨ (i = p ∧ q' i = t ∧ c' i = C t) ∨ (p < i ∧ q' i = q (i - 1) ∧ c' i = c (i - 1)) := fun i a b => by
    by_cases g : i < p
    · exact Or.inl ⟨g, e1 i a g⟩
    · by_cases g2 : i = p
      · rw [g2]; exact Or.inr (Or.inl ⟨rfl, e2⟩)
      · exact Or.inr (Or.inr ⟨by omega, e3 i (by omega) (by omega)⟩)
  refine ⟨by omega, fun i a b => ?_, fun i j a b d => ?_, fun w a b d => ?_, fun x a a0 a1 g1 g2 => ?_⟩
  · rcases cs i a b with ⟨f1, f2, f3⟩ | ⟨f1, f2, f3⟩ | ⟨f1, f2, f3⟩ <;> rw [f2, f3]
    · have := h2 i a (by omega); exact ⟨by omega, this.2⟩
    · exact ⟨by omega, rfl, hC⟩
    · have := h2 (i - 1) (by omega) (by omega); exact ⟨by omega, this.2⟩
  · rcases cs i a (by omega) with ⟨f1, f2, f3⟩ | ⟨f1, f2, f3⟩ | ⟨f1, f2, f3⟩ <;> rcases cs j (by omega) d with ⟨k1, k2, k3⟩ | ⟨k1, k2, k3⟩ | ⟨k1, k2, k3⟩ <;> rw [f2, f3, k2, k3]
    · exact h3 i j a b (by omega)
    · exact lo2 i a f1
    · have m1 := lo2 i a f1
      have m2 := hi2 (j - 1) (by omega) (by omega)
      omega
    · omega
    · omega
    · exact hi2 (j - 1) (by omega) (by omega)
    · omega
    · omega
    · exact h3 (i - 1) (j - 1) (by omega) (by omega) (by omega)
  · by_cases e : w = t
    · exact ⟨p, hp.1, by omega, by rw [e2.1, e]⟩
    · obtain ⟨i, i0, i1, i2⟩ := h4 w a (by omega) d
      by_cases g : i < p
      · exact ⟨i, i0, by omega, by rw [(e1 i i0 g).1, i2]⟩
      · exact ⟨i + 1, by omega, by omega, by rw [(e3 (i + 1) (by omega) (by omega)).1, show i + 1 - 1 = i by omega, i2]⟩
  · simp only [zcntl]
    by_cases g : 32 * C t + t ≤ x
    · rw [if_pos ⟨hC, g⟩]
      have pa : p < a := by
        by_cases z : p < a
        · exact z
        · have := g2 p (by omega) (by omega)
          rw [e2.1, e2.2] at this
          omega
      rw [h5 x (a - 1) (by omega) (by omega) (fun i i0 i1 => ?_) (fun i i0 i1 => ?_)]
      · omega
      · by_cases z : i < p
        · have := g1 i i0 (by omega)
          rw [(e1 i i0 z).1, (e1 i i0 z).2] at this
          exact this
        · have := g1 (i + 1) (by omega) (by omega)
          have m := e3 (i + 1) (by omega) (by omega)
          rw [m.1, m.2, show i + 1 - 1 = i by omega] at this
          exact this
      · have := g2 (i + 1) (by omega) (by omega)
        have m := e3 (i + 1) (by omega) (by omega)
        rw [m.1, m.2, show i + 1 - 1 = i by omega] at this
        exact this
    · rw [if_neg (fun z => g z.2)]
      have pa : a ≤ p := by
        by_cases z : p < a
        · have := g1 p hp.1 z
          rw [e2.1, e2.2] at this
          omega
        · omega
      rw [h5 x a a0 (by omega) (fun i i0 i1 => ?_) (fun i i0 i1 => ?_)]
      · omega
      · have := g1 i i0 i1
        rw [(e1 i i0 (by omega)).1, (e1 i i0 (by omega)).2] at this
        exact this
      · by_cases z : i < p
        · have := g2 i i0 (by omega)
          rw [(e1 i (by omega) z).1, (e1 i (by omega) z).2] at this
          exact this
        · have := g2 (i + 1) (by omega) (by omega)
          have m := e3 (i + 1) (by omega) (by omega)
          rw [m.1, m.2, show i + 1 - 1 = i by omega] at this
          exact this
/-- the reading at i is the word of that rank -/
theorem zLR_rank {C : Int → Int} {t : Nat} {n i : Int} {q c : Int → Int} (h : zLR C t n q c) (i0 : 0 ≤ i) (i1 : i < n) : zcntl C (32 * c i + q i - 1) t = i := by
  obtain ⟨h1, h2, h3, h4, h5⟩ := h
  refine h5 _ i i0 (by omega) (fun j j0 j1 => ?_) (fun j j0 j1 => ?_)
  · have := h3 j i j0 j1 i1; omega
  · by_cases e : j = i
    · rw [e]; omega
    · have := h3 i j i0 (by omega) j1; omega
/-- what a word of the list costs on an ink: -1 where nothing spells it -/
def zcw (f : Int → Int → Int → Int) (p : Int) (W : Int → Nat → Int) (M : Int → Nat) (v : Int) : Int := if zsp f (W v) (M v) p 1000000 (M v) 0 < 1000000 then zsp f (W v) (M v) p 1000000 (M v) 0 else -1
theorem zcw_r {f : Int → Int → Int → Int} {p v : Int} {W : Int → Nat → Int} {M : Int → Nat} (hf : ∀ a k l : Int, 0 ≤ a → 1 ≤ k → k ≤ 3 → a + k ≤ p → 0 ≤ l → l < 26 → f a k l ≤ 100) (hw : zlet (W v) (M v)) (hm : M v ≤ 12) : -1 ≤ zcw f p W M v ∧ zcw f p W M v ≤ 1200 := by
  have h := zsp_b (f := f) (w := W v) (m := M v) (p := p) (N := 1000000) (M := 1000000) hf hw (by decide) (by decide) hm (M v) 0 (Nat.le_refl _) (by decide)
  unfold zcw
  split <;> omega
def zWC (σ : zS) (L : Int) (W : Int → Nat → Int) (M : Int → Nat) : Prop := ∀ v : Int, 0 ≤ v → v < L → zlet (W v) (M v) ∧ (1 ≤ M v ∧ M v ≤ 12) ∧ σ 28 v = zlc (W v) (M v)
def zWM (σ : zS) (L : Int) (W : Int → Nat → Int) (M : Int → Nat) : Prop := ∀ v : Int, 0 ≤ v → v < L → zlet (W v) (M v) ∧ (1 ≤ M v ∧ M v ≤ 12) ∧ σ 51 v = (M v : Int) ∧ ∀ j : Int, 0 ≤ j → j < M v → σ 52 (12 * v + j) = W v j.toNat
theorem z2l {s : zS} {p a b j : Int} : (zup (zup s 35 p a) 36 p b) 35 j = (if j = p then a else s 35 j) ∧ (zup (zup s 35 p a) 36 p b) 36 j = (if j = p then b else s 36 j) :=
  ⟨by rw [zup_ne (by decide), zup_at], by rw [zup_at, zup_ne (by decide)]⟩
set_option maxRecDepth 100000 in
set_option maxHeartbeats 4000000 in
theorem lp_ins {x : Int} {c : Int} {σ : zS} (hn : 0 ≤ σ 8 2 ∧ σ 8 2 < 30) : ∀ (n : Nat) (k : Int) (t : zS), k < (n : Int) → (0 ≤ k ∧ k ≤ σ 8 2) → (zfr [8, 35, 36] σ t) → (t 8 2 = σ 8 2) → (∀ i : Int, (i ≤ k ∨ σ 8 2 < i) → t 35 i = σ 35 i ∧ t 36 i = σ 36 i) → (∀ i : Int, k < i → i ≤ σ 8 2 → t 35 i = σ 35 (i - 1) ∧ t 36 i = σ 36 (i - 1)) → (∀ i : Int, k ≤ i → i < σ 8 2 → c < σ 36 i) → zRuns 25 zX0 (fun (v : Int) (u : zS) => zfr [8, 35, 36] σ u ∧ u 8 2 = σ 8 2 + 1 ∧ ∃ p : Int, (0 ≤ p ∧ p ≤ σ 8 2) ∧ (∀ i : Int, 0 ≤ i → i < p → u 35 i = σ 35 i ∧ u 36 i = σ 36 i) ∧ (u 35 p = x ∧ u 36 p = c) ∧ (∀ i : Int, p < i → i ≤ σ 8 2 → u 35 i = σ 35 (i - 1) ∧ u 36 i = σ 36 (i - 1)) ∧ (p = 0 ∨ σ 36 (p - 1) ≤ c) ∧ ∀ i : Int, p ≤ i → i < σ 8 2 → c < σ 36 i) 5 [some (.inr (.inr (8, 0))), some (.inl x), some (.inl c), some (.inl k)] [] t := by
  intro n
  induction n with
  | zero =>
    intro k t hn k0 hf h8 f1 f2 f3
    exfalso
    omega
  | succ n ih =>
    intro k t hn k0 hf h8 f1 f2 f3
    refine zwalk zmk_25 [(5, [true, true, true, true])] 3 ?_
    show ((k ≤ 0 → ((0 ≤ k ∧ k < (30 : Int)) ∧ ((0 ≤ k ∧ k < (30 : Int)) ∧ (zI ((t 8 (2 : Int)) + (1 : Int)) ∧ (zfr [8, 35, 36] σ (zup (zup (zup t 35 k x) 36 k c) 8 (2 : Int) ((t 8 (2 : Int)) + (1 : Int))) ∧ (zup (zup (zup t 35 k x) 36 k c) 8 (2 : Int) ((t 8 (2 : Int)) + (1 : Int))) 8 2 = σ 8 2 + 1 ∧ ∃ p : Int, (0 ≤ p ∧ p ≤ σ 8 2) ∧ (∀ i : Int, 0 ≤ i → i < p → (zup (zup (zup t 35 k x) 36 k c) 8 (2 : Int) ((t 8 (2 : Int)) + (1 : Int))) 35 i = σ 35 i ∧ (zup (zup (zup t 35 k x) 36 k c) 8 (2 : Int) ((t 8 (2 : Int)) + (1 : Int))) 36 i = σ 36 i) ∧ ((zup (zup (zup t 35 k x) 36 k c) 8 (2 : Int) ((t 8 (2 : Int)) + (1 : Int))) 35 p = x ∧ (zup (zup (zup t 35 k x) 36 k c) 8 (2 : Int) ((t 8 (2 : Int)) + (1 : Int))) 36 p = c) ∧ (∀ i : Int, p < i → i ≤ σ 8 2 → (zup (zup (zup t 35 k x) 36 k c) 8 (2 : Int) ((t 8 (2 : Int)) + (1 : Int))) 35 i = σ 35 (i - 1) ∧ (zup (zup (zup t 35 k x) 36 k c) 8 (2 : Int) ((t 8 (2 : Int)) + (1 : Int))) 36 i = σ 36 (i - 1)) ∧ (p = 0 ∨ σ 36 (p - 1) ≤ c) ∧ ∀ i : Int, p ≤ i → i < σ 8 2 → c < σ 36 i))))) ∧ (0 < k → (zI (k - (1 : Int)) ∧ ((0 ≤ (k - (1 : Int)) ∧ (k - (1 : Int)) < (30 : Int)) ∧ (((t 36 (k - (1 : Int))) ≤ c → ((0 ≤ k ∧ k < (30 : Int)) ∧ ((0 ≤ k ∧ k < (30 : Int)) ∧ (zI ((t 8 (2 : Int)) + (1 : Int)) ∧ (zfr [8, 35, 36] σ (zup (zup (zup t 35 k x) 36 k c) 8 (2 : Int) ((t 8 (2 : Int)) + (1 : Int))) ∧ (zup (zup (zup t 35 k x) 36 k c) 8 (2 : Int) ((t 8 (2 : Int)) + (1 : Int))) 8 2 = σ 8 2 + 1 ∧ ∃ p : Int, (0 ≤ p ∧ p ≤ σ 8 2) ∧ (∀ i : Int, 0 ≤ i → i < p → (zup (zup (zup t 35 k x) 36 k c) 8 (2 : Int) ((t 8 (2 : Int)) + (1 : Int))) 35 i = σ 35 i ∧ (zup (zup (zup t 35 k x) 36 k c) 8 (2 : Int) ((t 8 (2 : Int)) + (1 : Int))) 36 i = σ 36 i) ∧ ((zup (zup (zup t 35 k x) 36 k c) 8 (2 : Int) ((t 8 (2 : Int)) + (1 : Int))) 35 p = x ∧ (zup (zup (zup t 35 k x) 36 k c) 8 (2 : Int) ((t 8 (2 : Int)) + (1 : Int))) 36 p = c) ∧ (∀ i : Int, p < i → i ≤ σ 8 2 → (zup (zup (zup t 35 k x) 36 k c) 8 (2 : Int) ((t 8 (2 : Int)) + (1 : Int))) 35 i = σ 35 (i - 1) ∧ (zup (zup (zup t 35 k x) 36 k c) 8 (2 : Int) ((t 8 (2 : Int)) + (1 : Int))) 36 i = σ 36 (i - 1)) ∧ (p = 0 ∨ σ 36 (p - 1) ≤ c) ∧ ∀ i : Int, p ≤ i → i < σ 8 2 → c < σ 36 i))))) ∧ (c < (t 36 (k - (1 : Int))) → (zI (k - (1 : Int)) ∧ ((0 ≤ (k - (1 : Int)) ∧ (k - (1 : Int)) < (30 : Int)) ∧ ((0 ≤ k ∧ k < (30 : Int)) ∧ (zI (k - (1 : Int)) ∧ ((0 ≤ (k - (1 : Int)) ∧ (k - (1 : Int)) < (30 : Int)) ∧ ((0 ≤ k ∧ k < (30 : Int)) ∧ (zI (k + (-1 : Int)) ∧ zRuns 25 zX0 (fun (v : Int) (u : zS) => zfr [8, 35, 36] σ u ∧ u 8 2 = σ 8 2 + 1 ∧ ∃ p : Int, (0 ≤ p ∧ p ≤ σ 8 2) ∧ (∀ i : Int, 0 ≤ i → i < p → u 35 i = σ 35 i ∧ u 36 i = σ 36 i) ∧ (u 35 p = x ∧ u 36 p = c) ∧ (∀ i : Int, p < i → i ≤ σ 8 2 → u 35 i = σ 35 (i - 1) ∧ u 36 i = σ 36 (i - 1)) ∧ (p = 0 ∨ σ 36 (p - 1) ≤ c) ∧ ∀ i : Int, p ≤ i → i < σ 8 2 → c < σ 36 i) 5 [some (.inr (.inr (8, 0))), some (.inl x), some (.inl c), some (.inl (k + (-1 : Int)))] [] (zup (zup t 35 k (t 35 (k - (1 : Int)))) 36 k (t 36 (k - (1 : Int)))))))))))))))))
    refine ⟨?_, ?_⟩
    · intro h1
      refine ⟨by (first | exact ⟨by omega, by omega⟩ | (exfalso; omega)), ?_⟩
      refine ⟨by (first | exact ⟨by omega, by omega⟩ | (exfalso; omega)), ?_⟩
      refine ⟨by (first | exact ⟨by omega, by omega⟩ | (exfalso; omega)), ?_⟩
      have z9 := fun j => z2l (s := t) (p := k) (a := x) (b := c) (j := j)
      refine ⟨((hf.up (c := 35) (by decide)).up (c := 36) (by decide)).up (c := 8) (by decide), ?_, k, k0, fun i i0 i1 => ?_, ?_, fun i i0 i1 => ?_, ?_, f3⟩
      · rw [zup_at, if_pos rfl]; show t 8 2 + 1 = _; rw [h8]
      · rw [zup_ne (k := 8) (j := 35) (by decide), zup_ne (k := 8) (j := 36) (by decide), (z9 _).1, (z9 _).2, if_neg (by omega), if_neg (by omega)]; exact f1 i (by omega)
      · rw [zup_ne (k := 8) (j := 35) (by decide), zup_ne (k := 8) (j := 36) (by decide), (z9 _).1, (z9 _).2, if_pos rfl, if_pos rfl]; exact ⟨rfl, rfl⟩
      · rw [zup_ne (k := 8) (j := 35) (by decide), zup_ne (k := 8) (j := 36) (by decide), (z9 _).1, (z9 _).2, if_neg (by omega), if_neg (by omega)]; exact f2 i (by omega) i1
      · exact Or.inl (by omega)
    · intro h2
      refine ⟨by (first | exact ⟨by omega, by omega⟩ | (exfalso; omega)), ?_⟩
      refine ⟨by (first | exact ⟨by omega, by omega⟩ | (exfalso; omega)), ?_⟩
      refine ⟨?_, ?_⟩
      · intro h3
        refine ⟨by (first | exact ⟨by omega, by omega⟩ | (exfalso; omega)), ?_⟩
        refine ⟨by (first | exact ⟨by omega, by omega⟩ | (exfalso; omega)), ?_⟩
        refine ⟨by (first | exact ⟨by omega, by omega⟩ | (exfalso; omega)), ?_⟩
        have z9 := fun j => z2l (s := t) (p := k) (a := x) (b := c) (j := j)
        refine ⟨((hf.up (c := 35) (by decide)).up (c := 36) (by decide)).up (c := 8) (by decide), ?_, k, k0, fun i i0 i1 => ?_, ?_, fun i i0 i1 => ?_, ?_, f3⟩
        · rw [zup_at, if_pos rfl]; show t 8 2 + 1 = _; rw [h8]
        · rw [zup_ne (k := 8) (j := 35) (by decide), zup_ne (k := 8) (j := 36) (by decide), (z9 _).1, (z9 _).2, if_neg (by omega), if_neg (by omega)]; exact f1 i (by omega)
        · rw [zup_ne (k := 8) (j := 35) (by decide), zup_ne (k := 8) (j := 36) (by decide), (z9 _).1, (z9 _).2, if_pos rfl, if_pos rfl]; exact ⟨rfl, rfl⟩
        · rw [zup_ne (k := 8) (j := 35) (by decide), zup_ne (k := 8) (j := 36) (by decide), (z9 _).1, (z9 _).2, if_neg (by omega), if_neg (by omega)]; exact f2 i (by omega) i1
        · exact Or.inr (by rw [← (f1 (k - 1) (by omega)).2]; omega)
      · intro h4
        refine ⟨by (first | exact ⟨by omega, by omega⟩ | (exfalso; omega)), ?_⟩
        refine ⟨by (first | exact ⟨by omega, by omega⟩ | (exfalso; omega)), ?_⟩
        refine ⟨by (first | exact ⟨by omega, by omega⟩ | (exfalso; omega)), ?_⟩
        refine ⟨by (first | exact ⟨by omega, by omega⟩ | (exfalso; omega)), ?_⟩
        refine ⟨by (first | exact ⟨by omega, by omega⟩ | (exfalso; omega)), ?_⟩
        refine ⟨by (first | exact ⟨by omega, by omega⟩ | (exfalso; omega)), ?_⟩
        refine ⟨by (first | exact ⟨by omega, by omega⟩ | (exfalso; omega)), ?_⟩
        have z9 := fun j => z2l (s := t) (p := k) (a := t 35 (k - 1)) (b := t 36 (k - 1)) (j := j)
        have e9 := f1 (k - 1) (by omega)
        refine ih (k + -1) _ (by omega) ⟨by omega, by omega⟩ ((hf.up (c := 35) (by decide)).up (c := 36) (by decide)) (by rw [zup_ne (by decide), zup_ne (by decide)]; exact h8) (fun i i0 => ?_) (fun i i0 i1 => ?_) (fun i i0 i1 => ?_)
        · rw [(z9 _).1, (z9 _).2, if_neg (by omega), if_neg (by omega)]; exact f1 i (by omega)
        · by_cases e : i = k
          · rw [(z9 _).1, (z9 _).2, if_pos e, if_pos e, e]; exact e9
          · rw [(z9 _).1, (z9 _).2, if_neg e, if_neg e]; exact f2 i (by omega) i1
        · by_cases e : i = k - 1
          · rw [e, ← e9.2]; assumption
          · exact f3 i (by omega) i1
set_option maxRecDepth 100000 in
set_option maxHeartbeats 4000000 in
theorem am_X3_insert {σ : zS} {x : Int} {c : Int} (hn8 : 0 ≤ σ 8 2 ∧ σ 8 2 < 30) : zAM 25 [.inr (.inr (8, 0)), .inl x, .inl c] σ (fun (v : Int) (u : zS) => zfr [8, 35, 36] σ u ∧ u 8 2 = σ 8 2 + 1 ∧ ∃ p : Int, (0 ≤ p ∧ p ≤ σ 8 2) ∧ (∀ i : Int, 0 ≤ i → i < p → u 35 i = σ 35 i ∧ u 36 i = σ 36 i) ∧ (u 35 p = x ∧ u 36 p = c) ∧ (∀ i : Int, p < i → i ≤ σ 8 2 → u 35 i = σ 35 (i - 1) ∧ u 36 i = σ 36 (i - 1)) ∧ (p = 0 ∨ σ 36 (p - 1) ≤ c) ∧ ∀ i : Int, p ≤ i → i < σ 8 2 → c < σ 36 i) := by
  refine zam (by decide) (Nat.le_of_ble_eq_true rfl) ?_
  refine zwalk zmk_25 [(5, [true, true, true, true])] 2 ?_
  show zRuns 25 zX0 (fun (v : Int) (u : zS) => zfr [8, 35, 36] σ u ∧ u 8 2 = σ 8 2 + 1 ∧ ∃ p : Int, (0 ≤ p ∧ p ≤ σ 8 2) ∧ (∀ i : Int, 0 ≤ i → i < p → u 35 i = σ 35 i ∧ u 36 i = σ 36 i) ∧ (u 35 p = x ∧ u 36 p = c) ∧ (∀ i : Int, p < i → i ≤ σ 8 2 → u 35 i = σ 35 (i - 1) ∧ u 36 i = σ 36 (i - 1)) ∧ (p = 0 ∨ σ 36 (p - 1) ≤ c) ∧ ∀ i : Int, p ≤ i → i < σ 8 2 → c < σ 36 i) 5 [some (.inr (.inr (8, 0))), some (.inl x), some (.inl c), some (.inl (σ 8 (2 : Int)))] [] σ
  exact lp_ins hn8 ((σ 8 2).toNat + 1) (σ 8 2) σ (by omega) ⟨by omega, by omega⟩ zfr.rf rfl (fun i _ => ⟨rfl, rfl⟩) (fun i i0 i1 => by omega) (fun i i0 i1 => by omega)
set_option maxRecDepth 100000 in
set_option maxHeartbeats 4000000 in
theorem lp_lr {W : Int → Nat → Int} {M : Int → Nat} {p : Int} {f : Int → Int → Int → Int} {σ : zS} (hL : 0 ≤ σ 4 3 ∧ σ 4 3 ≤ 30) (hWC : zWC σ (σ 4 3) W M) (hp : 0 ≤ p ∧ p ≤ 14) (h51 : σ 5 1 = p) (hf : ∀ a k l : Int, 0 ≤ a → 1 ≤ k → k ≤ 3 → a + k ≤ p → 0 ≤ l → l < 26 → σ 29 (zfp a k l) = f a k l ∧ -1 ≤ f a k l ∧ f a k l ≤ 100) : ∀ (n : Nat) (k : Nat) (t : zS), σ 4 3 - (k : Int) < (n : Int) → ((k : Int) ≤ σ 4 3) → (zfr [8, 33, 35, 36] σ t) → (zLR (zcw f p W M) k (t 8 2) (t 35) (t 36)) → zRuns 24 zX0 (fun (v : Int) (u : zS) => zfr [8, 33, 35, 36] σ u ∧ zLR (zcw f p W M) (σ 4 3).toNat (u 8 2) (u 35) (u 36)) 8 [some (.inr (.inr (8, 0))), some (.inr (.inr (5, 0))), some (.inr (.inr (4, 0))), some (.inr (.inr (7, 0))), some (.inl (k : Int)), none] [] t := by
  intro n
  induction n with
  | zero =>
    intro k t hn k0 hfr hR
    exfalso
    omega
  | succ n ih =>
    intro k t hn k0 hfr hR
    refine zwalk zmk_24 [(8, [true, true, true, true, true, false])] 3 ?_
    show (((t 4 (3 : Int)) ≤ (k : Int) → (zfr [8, 33, 35, 36] σ t ∧ zLR (zcw f p W M) (σ 4 3).toNat (t 8 2) (t 35) (t 36))) ∧ ((k : Int) < (t 4 (3 : Int)) → ((0 ≤ (k : Int) ∧ (k : Int) < (30 : Int)) ∧ (∃ Rc : Int → zS → Prop, zAM 44 [.inr (.inr (7, 0)), .inr (.inr (5, 0)), .inr (.inl (t 28 (k : Int)))] t Rc ∧ ∀ (v1 : Int) (u1 : zS), zI v1 → Rc v1 u1 → ((v1 = (-1 : Int) → (zI ((k : Int) + (1 : Int)) ∧ zRuns 24 zX0 (fun (v : Int) (u : zS) => zfr [8, 33, 35, 36] σ u ∧ zLR (zcw f p W M) (σ 4 3).toNat (u 8 2) (u 35) (u 36)) 8 [some (.inr (.inr (8, 0))), some (.inr (.inr (5, 0))), some (.inr (.inr (4, 0))), some (.inr (.inr (7, 0))), some (.inl ((k : Int) + (1 : Int))), none] [] u1)) ∧ (¬ v1 = (-1 : Int) → (∃ Rc : Int → zS → Prop, zAM 25 [.inr (.inr (8, 0)), .inl (k : Int), .inl v1] u1 Rc ∧ ∀ (u2 : zS), Rc 0 u2 → (zI ((k : Int) + (1 : Int)) ∧ zRuns 24 zX0 (fun (v : Int) (u : zS) => zfr [8, 33, 35, 36] σ u ∧ zLR (zcw f p W M) (σ 4 3).toNat (u 8 2) (u 35) (u 36)) 8 [some (.inr (.inr (8, 0))), some (.inr (.inr (5, 0))), some (.inr (.inr (4, 0))), some (.inr (.inr (7, 0))), some (.inl ((k : Int) + (1 : Int))), none] [] u2))))))))
    have e4 : t 4 = σ 4 := hfr 4 (by decide)
    have e5 : t 5 = σ 5 := hfr 5 (by decide)
    have e28 : t 28 = σ 28 := hfr 28 (by decide)
    have e29 : t 29 = σ 29 := hfr 29 (by decide)
    have e43 : t 4 3 = σ 4 3 := by rw [e4]
    have hR1 := hR.1
    have hwk : (k : Int) < σ 4 3 → zlet (W k) (M k) ∧ (1 ≤ M k ∧ M k ≤ 12) ∧ t 28 k = zlc (W k) (M k) := fun q => by rw [e28]; exact hWC k (by omega) q
    refine ⟨?_, ?_⟩
    · intro h1
      have ek : (σ 4 3).toNat = k := by omega
      rw [ek]
      exact ⟨hfr, hR⟩
    · intro h2
      refine ⟨by (first | exact ⟨by omega, by omega⟩ | (exfalso; omega)), ?_⟩
      rw [(hwk (by omega)).2.2]
      refine ⟨_, am_X6_cost (w := W k) (m := M k) (p := p) (f := f) ((hwk (by omega)).1) ((hwk (by omega)).2.1.2) (hp) (by rw [e5]; exact h51) (by rw [e29]; exact hf), ?_⟩
      intro v1 u1 hv1
      intro kv1
      obtain ⟨hv1a, hv1b⟩ := hv1
      obtain ⟨g1, -, g2⟩ := kv1
      have gc : v1 = zcw f p W M k := g2
      have gr := zcw_r (f := f) (p := p) (W := W) (M := M) (v := k) (fun a k l a0 k0 k1 ak l0 l1 => (hf a k l a0 k0 k1 ak l0 l1).2.2) (hwk (by omega)).1 (hwk (by omega)).2.1.2
      refine ⟨?_, ?_⟩
      · intro h3
        refine ⟨by (first | exact ⟨by omega, by omega⟩ | (exfalso; omega)), ?_⟩
        refine ih (k + 1) u1 (by omega) (by omega) (fun q hq => ?_) ?_
        · rw [g1 q (fun z => hq (by simp only [List.mem_cons, List.not_mem_nil, or_false] at z ⊢; omega)), hfr q hq]
        · rw [g1 8 (by decide), g1 35 (by decide), g1 36 (by decide)]
          exact zLR_skip hR (by omega)
      · intro h4
        refine ⟨_, am_X3_insert (by (show 0 ≤ u1 8 2 ∧ u1 8 2 < 30; rw [g1 8 (by decide)]; omega)), ?_⟩
        intro u2
        intro kv2
        refine ⟨by (first | exact ⟨by omega, by omega⟩ | (exfalso; omega)), ?_⟩
        obtain ⟨d1, d2, q9, d3, d4, d5, d6, d7, d8⟩ := kv2
        have a8 : u1 8 = t 8 := g1 8 (by decide)
        have a35 : u1 35 = t 35 := g1 35 (by decide)
        have a36 : u1 36 = t 36 := g1 36 (by decide)
        rw [a8] at d2 d3 d6 d8
        rw [a35, a36] at d4 d6
        rw [a36] at d7 d8
        refine ih (k + 1) u2 (by omega) (by omega) (fun q hq => ?_) ?_
        · rw [d1 q (fun z => hq (by simp only [List.mem_cons, List.not_mem_nil, or_false] at z ⊢; omega)), g1 q (fun z => hq (by simp only [List.mem_cons, List.not_mem_nil, or_false] at z ⊢; omega)), hfr q hq]
        · rw [d2]
          rw [gc] at d5 d7 d8
          exact zLR_ins hR (by omega) (by omega) d3 d4 d5 d6 d7 d8
set_option maxRecDepth 100000 in
set_option maxHeartbeats 4000000 in
theorem am_X3_read {σ : zS} {W : Int → Nat → Int} {M : Int → Nat} {p : Int} {f : Int → Int → Int → Int} (hL : 0 ≤ σ 4 3 ∧ σ 4 3 ≤ 30) (hWC : zWC σ (σ 4 3) W M) (hp : 0 ≤ p ∧ p ≤ 14) (h51 : σ 5 1 = p) (hf : ∀ a k l : Int, 0 ≤ a → 1 ≤ k → k ≤ 3 → a + k ≤ p → 0 ≤ l → l < 26 → σ 29 (zfp a k l) = f a k l ∧ -1 ≤ f a k l ∧ f a k l ≤ 100) : zAM 24 [.inr (.inr (8, 0)), .inr (.inr (5, 0)), .inr (.inr (4, 0)), .inr (.inr (7, 0))] σ (fun (v : Int) (u : zS) => zfr [8, 33, 35, 36] σ u ∧ zLR (zcw f p W M) (σ 4 3).toNat (u 8 2) (u 35) (u 36)) := by
  refine zam (by decide) (Nat.le_of_ble_eq_true rfl) ?_
  refine zwalk zmk_24 [(8, [true, true, true, true, true, false])] 2 ?_
  show zRuns 24 zX0 (fun (v : Int) (u : zS) => zfr [8, 33, 35, 36] σ u ∧ zLR (zcw f p W M) (σ 4 3).toNat (u 8 2) (u 35) (u 36)) 8 [some (.inr (.inr (8, 0))), some (.inr (.inr (5, 0))), some (.inr (.inr (4, 0))), some (.inr (.inr (7, 0))), some (.inl (0 : Int)), none] [] (zup σ 8 (2 : Int) (0 : Int))
  refine (lp_lr (σ := zup σ 8 2 0) hL hWC hp h51 hf ((σ 4 3).toNat + 1) 0 _ (by show σ 4 3 - ((0 : Nat) : Int) < (((σ 4 3).toNat + 1 : Nat) : Int); omega) (by show ((0 : Nat) : Int) ≤ σ 4 3; omega) zfr.rf ?_).mono (fun v u q => ⟨fun k hk => ?_, q.2⟩)
  · show zLR _ 0 ((zup σ 8 2 0) 8 2) _ _
    rw [zup_at, if_pos rfl]
    exact zLR_0
  · rw [q.1 k hk, zup_ne (fun z => hk (by rw [z]; decide))]
