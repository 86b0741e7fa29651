/-! the model's goOn -/
def zst (a l n : Int) : Int := 338 * a + 13 * l + n
/-- readings of the first e pieces, n letters, l the last one -/
def zGM (f : Int → Int → Int → Int) (e l n : Int) (r : List (Int × Int)) : Prop := (zgo f 0 r ∧ zgl r = e) ∧ r ≠ [] ∧ zgt (-1) r = l ∧ (r.length : Int) = n
def zSM (f : Int → Int → Int → Int) (P : Int → Int → Int) (e l n : Int) (K : List (Int × Int) → Prop) (x d : Int) : Prop := ∃ r, zGM f e l n r ∧ K r ∧ x = zgr r ∧ d = zgc f P 0 r
/-- of those that end in row k, letter l: the ones whose last letter ahead is below m, or m and they have fewer letters than n -/
def zdm (k l m n : Int) (r : List (Int × Int)) : Prop := ∃ r', r = r' ++ [(k, l)] ∧ r' ≠ [] ∧ (zgt (-1) r' < m ∨ zgt (-1) r' = m ∧ (r'.length : Int) < n)
def zEM (f : Int → Int → Int → Int) (P : Int → Int → Int) (e k l : Int) (S : Int → Int → Int → Prop) (n2 m n : Int) (y d : Int) : Prop := S n2 y d ∨ ∃ r, zGM f e l n2 r ∧ zdm k l m n r ∧ y = zgr r ∧ d = zgc f P 0 r
def zEY (f : Int → Int → Int → Int) (P : Int → Int → Int) (e k l : Int) (S : Int → Int → Int → Prop) (n2 : Int) (y d : Int) : Prop := S n2 y d ∨ ∃ r, zGM f e l n2 r ∧ (∃ r', r = r' ++ [(k, l)]) ∧ y = zgr r ∧ d = zgc f P 0 r
theorem zgt_r {f : Int → Int → Int → Int} : ∀ {r : List (Int × Int)} {a d : Int}, zgo f a r → r ≠ [] → 0 ≤ zgt d r ∧ zgt d r < 26
  | [], _, _, _, h => absurd rfl h
  | [q], _, _, h, _ => ⟨h.1.2.2.1, h.1.2.2.2.1⟩
  | q :: q2 :: r, a, d, h, _ => zgt_r (r := q2 :: r) (a := a + q.1) (d := q.2) h.2 (by simp)
theorem zgt_d {r : List (Int × Int)} {d d' : Int} (h : r ≠ []) : zgt d r = zgt d' r := by
  cases r with
  | nil => exact absurd rfl h
  | cons q r => rfl
section
variable {f : Int → Int → Int → Int} {P : Int → Int → Int} {e k l m n n2 : Int} {S : Int → Int → Int → Prop} {y d : Int}
theorem zEM_0 : S n2 y d ↔ zEM f P e k l S n2 0 1 y d := by
  constructor
  · exact Or.inl
  · rintro (q | ⟨r, g1, ⟨r', e1, e2, q⟩, -⟩)
    · exact q
    · subst e1
      have h1 := zgt_r (d := -1) (zgo_app.mp g1.1.1).1 e2
      have h2 : r'.length ≠ 0 := fun z => e2 (List.length_eq_zero_iff.mp z)
      omega
theorem zEM_row (hn : n2 ≤ 12) : zEM f P e k l S n2 m 12 y d ↔ zEM f P e k l S n2 (m + 1) 1 y d := by
  have ln : ∀ r', zGM f e l n2 (r' ++ [(k, l)]) → r' ≠ [] → 1 ≤ (r'.length : Int) ∧ (r'.length : Int) < 12 := fun r' g e2 => by
    have h1 := g.2.2.2
    rw [List.length_append] at h1
    simp only [List.length_cons, List.length_nil] at h1
    have h2 : r'.length ≠ 0 := fun q => e2 (List.length_eq_zero_iff.mp q)
    omega
  constructor
  · rintro (q | ⟨r, g1, ⟨r', e1, e2, q⟩, g2⟩)
    · exact Or.inl q
    · exact Or.inr ⟨r, g1, ⟨r', e1, e2, by omega⟩, g2⟩
  · rintro (q | ⟨r, g1, ⟨r', e1, e2, q⟩, g2⟩)
    · exact Or.inl q
    · subst e1
      have h2 := ln r' g1 e2
      exact Or.inr ⟨_, g1, ⟨r', rfl, e2, by omega⟩, g2⟩
theorem zEM_end (hp : k < e) : zEM f P e k l S n2 26 1 y d ↔ zEY f P e k l S n2 y d := by
  constructor
  · rintro (q | ⟨r, g1, ⟨r', e1, e2, q⟩, g2⟩)
    · exact Or.inl q
    · exact Or.inr ⟨r, g1, ⟨r', e1⟩, g2⟩
  · rintro (q | ⟨r, g1, ⟨r', e1⟩, g2⟩)
    · exact Or.inl q
    · subst e1
      have hne : r' ≠ [] := fun q => by
        subst q
        have := g1.1.2
        simp only [List.nil_append, zgl] at this
        omega
      exact Or.inr ⟨_, g1, ⟨r', rfl, hne, Or.inl (zgt_r (zgo_app.mp g1.1.1).1 hne).2⟩, g2⟩
theorem zEM_off (hne : ¬ n2 = n + 1) : zEM f P e k l S n2 m n y d ↔ zEM f P e k l S n2 m (n + 1) y d := by
  constructor
  · rintro (q | ⟨r, g1, ⟨r', e1, e2, q⟩, g2⟩)
    · exact Or.inl q
    · exact Or.inr ⟨r, g1, ⟨r', e1, e2, by omega⟩, g2⟩
  · rintro (q | ⟨r, g1, ⟨r', e1, e2, q⟩, g2⟩)
    · exact Or.inl q
    · refine Or.inr ⟨r, g1, ⟨r', e1, e2, ?_⟩, g2⟩
      subst e1
      have h1 := g1.2.2.2
      rw [List.length_append] at h1
      simp only [List.length_cons, List.length_nil] at h1
      omega
/-- the first n of state s, with a letter behind -/
def zKM (τ : zS) (b l wp n : Int) (S : Int → Int → Prop) (y e : Int) : Prop := S y e ∨ ∃ i : Int, 0 ≤ i ∧ i < n ∧ y = 32 * τ 63 (5 * b + i) + l ∧ e = τ 62 (5 * b + i) + wp
theorem zKM_0 {τ : zS} {b l wp : Int} {S : Int → Int → Prop} {y e : Int} : S y e ↔ zKM τ b l wp 0 S y e := by
  constructor
  · exact Or.inl
  · rintro (q | ⟨i, i0, i1, -⟩)
    · exact q
    · omega
theorem zKM_s {τ : zS} {b l wp n : Int} {S : Int → Int → Prop} {y e : Int} (n0 : 0 ≤ n) : (zKM τ b l wp n S y e ∨ y = 32 * τ 63 (5 * b + n) + l ∧ e = τ 62 (5 * b + n) + wp) ↔ zKM τ b l wp (n + 1) S y e := by
  constructor
  · rintro ((q | ⟨i, i0, i1, r⟩) | q)
    · exact Or.inl q
    · exact Or.inr ⟨i, i0, by omega, r⟩
    · exact Or.inr ⟨n, n0, by omega, q⟩
  · rintro (q | ⟨i, i0, i1, r⟩)
    · exact Or.inl (Or.inl q)
    · by_cases g : i = n
      · rw [g] at r; exact Or.inr r
      · exact Or.inl (Or.inr ⟨i, i0, by omega, r⟩)
theorem zTM_step {τ t : zS} {b h : Int} (hk : 1 ≤ k ∧ k ≤ 3) (hl : 0 ≤ l ∧ l < 26) (hf : 0 ≤ f (e - k) k l) (hn : n2 = n + 1)
    (hB : zTM τ b (zSM f P (e - k) m n (fun _ => True))) (hS : zTM t h (zKM τ b l (f (e - k) k l + P m l) (τ 61 b) (zEM f P e k l S n2 m n))) : zTM t h (zEM f P e k l S n2 m (n + 1)) := by
  refine zTop.ext (φ := fun x => 32 * x + l) (δ := f (e - k) k l + P m l) (A := zSM f P (e - k) m n (fun _ => True)) (S := zEM f P e k l S n2 m n) hB (fun x d y e _ _ q => by show 32 * x + l < 32 * y + l; omega) hS (fun y d => ?_)
  have hc : ∀ r', zGM f (e - k) m n r' → zgc f P 0 (r' ++ [(k, l)]) = zgc f P 0 r' + (f (e - k) k l + P m l) := fun r' g => by
    rw [zgc_snoc (d := -1) g.2.1, g.2.2.1, g.1.2, Int.zero_add]
    show zgc f P 0 r' + P m l + f (e - k) k l = _
    omega
  constructor
  · rintro (q | ⟨r, g1, ⟨r', e1, e2, q⟩, g2, g3⟩)
    · exact Or.inl (Or.inl q)
    · by_cases g : zgt (-1) r' < m ∨ zgt (-1) r' = m ∧ (r'.length : Int) < n
      · exact Or.inl (Or.inr ⟨r, g1, ⟨r', e1, e2, g⟩, g2, g3⟩)
      · subst e1
        have h1 := g1.1.2
        rw [zgl_app] at h1
        have h2 : zgl [(k, l)] = k := by simp [zgl]
        have h3 : zGM f (e - k) m n r' := ⟨⟨(zgo_app.mp g1.1.1).1, by omega⟩, e2, by omega, by omega⟩
        exact Or.inr ⟨zgr r', zgc f P 0 r', ⟨r', h3, trivial, rfl, rfl⟩, by rw [g2, zgr_snoc], by rw [g3, hc r' h3]⟩
  · rintro ((q | ⟨r, g1, ⟨r', e1, e2, q⟩, g2⟩) | ⟨x, d', ⟨r', g1, -, e1, e2⟩, e3, e4⟩)
    · exact Or.inl q
    · exact Or.inr ⟨r, g1, ⟨r', e1, e2, by omega⟩, g2⟩
    · refine Or.inr ⟨r' ++ [(k, l)], ⟨⟨zgo_app.mpr ⟨g1.1.1, ⟨hk.1, hk.2, hl.1, hl.2, ?_⟩, trivial⟩, ?_⟩, by simp, zgt_snoc, ?_⟩, ⟨r', rfl, g1.2.1, Or.inr ⟨g1.2.2.1, by have := g1.2.2.2; omega⟩⟩, by rw [zgr_snoc, e3, e1], by rw [hc r' g1, e4, e2]⟩
      · rw [g1.1.2, Int.zero_add]; exact hf
      · rw [zgl_app, g1.1.2]; simp [zgl]
      · have := g1.2.2.2
        rw [List.length_append]
        simp only [List.length_cons, List.length_nil]
        omega
theorem zEY_first (hk : 1 ≤ k ∧ k ≤ 3) (hl : 0 ≤ l ∧ l < 26) (hf : 0 ≤ f 0 k l) (hp : k = e) (hn : n2 = 1) : (S n2 y d ∨ y = l ∧ d = f 0 k l) ↔ zEY f P e k l S n2 y d := by
  have hw : zgr [(k, l)] = l := by simp [zgr, zrt, zgf]
  have hc : zgc f P 0 [(k, l)] = f 0 k l := by simp [zgc, zgj]
  constructor
  · rintro (q | ⟨q1, q2⟩)
    · exact Or.inl q
    · refine Or.inr ⟨[(k, l)], ⟨⟨⟨⟨hk.1, hk.2, hl.1, hl.2, hf⟩, trivial⟩, ?_⟩, by simp, rfl, ?_⟩, ⟨[], rfl⟩, by rw [hw]; exact q1, by rw [hc]; exact q2⟩
      · simp only [zgl]; omega
      · simp only [List.length_cons, List.length_nil]; omega
  · rintro (q | ⟨r, g1, ⟨r', e1⟩, g2, g3⟩)
    · exact Or.inl q
    · subst e1
      have hnil : r' = [] := by
        cases r' with
        | nil => rfl
        | cons q r' =>
          have h1 := zgl_pos (zgo_app.mp g1.1.1).1 (by simp)
          have h3 := g1.1.2
          rw [zgl_app] at h3
          have h4 : zgl [(k, l)] = k := by simp [zgl]
          omega
      subst hnil
      rw [List.nil_append] at g2 g3
      rw [hw] at g2
      rw [hc] at g3
      exact Or.inr ⟨g2, g3⟩
theorem zEY_off (hp : k = e) (hn : ¬ n2 = 1) : S n2 y d ↔ zEY f P e k l S n2 y d := by
  constructor
  · exact Or.inl
  · rintro (q | ⟨r, g1, ⟨r', e1⟩, g2, g3⟩)
    · exact q
    · subst e1
      have hnil : r' = [] := by
        cases r' with
        | nil => rfl
        | cons q r' =>
          have h1 := zgl_pos (zgo_app.mp g1.1.1).1 (by simp)
          have h3 := g1.1.2
          rw [zgl_app] at h3
          have h4 : zgl [(k, l)] = k := by simp [zgl]
          omega
      subst hnil
      have h3 := g1.2.2.2
      rw [List.nil_append] at h3
      simp only [List.length_cons, List.length_nil] at h3
      omega
theorem zEY_no (hf : f (e - k) k l < 0) : S n2 y d ↔ zEY f P e k l S n2 y d := by
  constructor
  · exact Or.inl
  · rintro (q | ⟨r, g1, ⟨r', e1⟩, g2, g3⟩)
    · exact q
    · subst e1
      have h3 := g1.1.2
      rw [zgl_app] at h3
      have h4 : zgl [(k, l)] = k := by simp [zgl]
      have h5 : 0 ≤ f (0 + zgl r') k l := (zgo_app.mp g1.1.1).2.1.2.2.2.2
      rw [show 0 + zgl r' = e - k by omega] at h5
      omega
end
theorem zSM_b {f : Int → Int → Int → Int} {P : Int → Int → Int} {p e l n : Int} {K : List (Int × Int) → Prop} (hb : zgb f P p) (he : e ≤ p) (hn : n ≤ 12) (x d : Int) (h : zSM f P e l n K x d) : (0 ≤ x ∧ x < 1152921504606846976) ∧ 0 ≤ d ∧ d ≤ 2000 := by
  obtain ⟨r, g, -, e1, e2⟩ := h
  have h3 := g.2.2.2
  have h1 := zgr_r g.1.1 (by omega)
  have h2 := zgc_b hb (by omega) g.1.1 (by have := g.1.2; omega)
  rw [e1, e2]
  exact ⟨h1, h2.1, by omega⟩
theorem zSM_b11 {f : Int → Int → Int → Int} {P : Int → Int → Int} {p e l n : Int} {K : List (Int × Int) → Prop} (hb : zgb f P p) (he : e ≤ p) (hn : n ≤ 11) (x d : Int) (h : zSM f P e l n K x d) : (0 ≤ x ∧ x < 36028797018963968) ∧ 0 ≤ d ∧ d ≤ 2000 := by
  obtain ⟨r, g, -, e1, e2⟩ := h
  have h3 := g.2.2.2
  have h1 := zgr_r11 g.1.1 (by omega)
  have h2 := zgc_b hb (by omega) g.1.1 (by have := g.1.2; omega)
  rw [e1, e2]
  exact ⟨h1, h2.1, by omega⟩
/-- of the states of end e and letter l alone -/
def zYF (σ t : zS) (e l : Int) : Prop := zfr [61, 62, 63] σ t ∧ (∀ j : Int, (∀ n : Int, 1 ≤ n → n ≤ 12 → ¬ j = zst e l n) → t 61 j = σ 61 j) ∧ ∀ j : Int, (∀ n : Int, 1 ≤ n → n ≤ 12 → j < 5 * zst e l n ∨ 5 * zst e l n + 5 ≤ j) → t 62 j = σ 62 j ∧ t 63 j = σ 63 j
theorem zYF.rf {σ : zS} {e l : Int} : zYF σ σ e l := ⟨zfr.rf, fun _ _ => rfl, fun _ _ => ⟨rfl, rfl⟩⟩
theorem zYF.hf {σ t u : zS} {e l n : Int} (h : zYF σ t e l) (g : zMH t u (zst e l n)) (n0 : 1 ≤ n) (n1 : n ≤ 12) : zYF σ u e l := by
  obtain ⟨h1, h2, h3⟩ := h
  obtain ⟨g1, g2, g3⟩ := g
  refine ⟨fun k hk => by rw [g1 k hk, h1 k hk], fun j hj => by rw [g2 j (hj n n0 n1), h2 j hj], fun j hj => ?_⟩
  rw [(g3 j (hj n n0 n1)).1, (g3 j (hj n n0 n1)).2]
  exact h3 j hj
theorem zYF.keep {σ t : zS} {e l b : Int} {A : Int → Int → Prop} (h : zYF σ t e l) (hb : ∀ n : Int, 1 ≤ n → n ≤ 12 → ¬ b = zst e l n) (hA : zTM σ b A) : zTM t b A := by
  obtain ⟨h1, h2, h3⟩ := h
  unfold zTM at *
  rw [h2 b hb]
  have hn := hA.1
  refine hA.arr (fun i i0 i1 => h3 _ (fun s s0 s1 => ?_))
  have := hb s s0 s1
  omega
theorem zst_r {e l n : Int} (h : 0 ≤ e ∧ e ≤ 14 ∧ 0 ≤ l ∧ l < 26 ∧ 0 ≤ n ∧ n ≤ 12) : 0 ≤ zst e l n ∧ zst e l n < 5070 := by unfold zst; omega
theorem zst_ne {e e' l l' n n' : Int} (h : 0 ≤ l ∧ l < 26 ∧ 0 ≤ n ∧ n ≤ 12) (h' : 0 ≤ l' ∧ l' < 26 ∧ 0 ≤ n' ∧ n' ≤ 12) (q : zst e l n = zst e' l' n') : e = e' ∧ l = l' ∧ n = n' := by unfold zst at q; omega
set_option maxRecDepth 100000 in
set_option maxHeartbeats 4000000 in
theorem lp_g110 {e : Int} {k : Int} {l : Int} {c : Int} {m : Int} {wp : Int} {z : Int} {b : Int} {S : Int → Int → Prop} {A : Int → Int → Prop} {τ : zS} {R : Int → zS → Prop} (hr : 1 ≤ e ∧ e ≤ 14 ∧ 0 ≤ l ∧ l < 26 ∧ 1 ≤ z ∧ z ≤ 11) (hb : 0 ≤ b ∧ b < 5070) (hne : ¬ b = zst e l (z + 1)) (hB : zTM τ b A) (hA : ∀ x d, A x d → (0 ≤ x ∧ x < 36028797018963968) ∧ 0 ≤ d ∧ d ≤ 2000) (hw : 0 ≤ wp ∧ wp ≤ 2000) (K : ∀ t : zS, zMH τ t (zst e l (z + 1)) → zTM t (zst e l (z + 1)) (zKM τ b l wp (τ 61 b) S) → zRuns 137 zX0 R 88 [some (.inr (.inr (9, 0))), none, some (.inl e), some (.inl k), some (.inl l), some (.inl c), some (.inl m), some (.inl wp), some (.inl (z + 1)), none, none] [] t) : ∀ (n : Nat) (j : Int) (t : zS), τ 61 b - j < (n : Int) → (0 ≤ j ∧ j ≤ τ 61 b) → (zMH τ t (zst e l (z + 1))) → (zTM t (zst e l (z + 1)) (zKM τ b l wp j S)) → zRuns 137 zX0 (fun (v : Int) (u : zS) => R v u) 110 [some (.inr (.inr (9, 0))), none, some (.inl e), some (.inl k), some (.inl l), some (.inl c), some (.inl m), some (.inl wp), some (.inl z), some (.inl b), some (.inl j)] [] t := by
  intro n
  induction n with
  | zero =>
    intro j t hn j0 hf hS
    exfalso
    omega
  | succ n ih =>
    intro j t hn j0 hf hS
    refine zwalk zmk_137 [(52, [true, false, true, true, true, true, true, false, false, false, false]), (88, [true, false, true, true, true, true, true, true, true, false, false]), (110, [true, false, true, true, true, true, true, true, true, true, true])] 3 ?_
    show ((0 ≤ b ∧ b < (5070 : Int)) ∧ (((t 61 b) ≤ j → (zI (z + (1 : Int)) ∧ zRuns 137 zX0 (fun (v : Int) (u : zS) => R v u) 88 [some (.inr (.inr (9, 0))), none, some (.inl e), some (.inl k), some (.inl l), some (.inl c), some (.inl m), some (.inl wp), some (.inl (z + (1 : Int))), none, none] [] t)) ∧ (j < (t 61 b) → (zI (z + (1 : Int)) ∧ (∃ Rc : Int → zS → Prop, zAM 136 [.inl e, .inl l, .inl (z + (1 : Int))] t Rc ∧ ∀ (v1 : Int) (u1 : zS), zI v1 → Rc v1 u1 → (zI ((5 : Int) * b) ∧ (zI (((5 : Int) * b) + j) ∧ ((0 ≤ (((5 : Int) * b) + j) ∧ (((5 : Int) * b) + j) < (25350 : Int)) ∧ (zI ((u1 62 (((5 : Int) * b) + j)) + wp) ∧ (zI ((5 : Int) * b) ∧ (zI (((5 : Int) * b) + j) ∧ ((0 ≤ (((5 : Int) * b) + j) ∧ (((5 : Int) * b) + j) < (25350 : Int)) ∧ (∃ Rc : Int → zS → Prop, zAM 135 [.inr (.inr (9, 0)), .inl v1, .inl ((u1 62 (((5 : Int) * b) + j)) + wp), .inr (.inl (Int64.ofInt (Int64.ofInt (u1 63 (((5 : Int) * b) + j)) <<< ((Int32.ofInt (5 : Int)).toInt64 &&& 63)).toInt ||| Int64.ofInt l).toInt)] u1 Rc ∧ ∀ (u2 : zS), Rc 0 u2 → (zI (j + (1 : Int)) ∧ zRuns 137 zX0 (fun (v : Int) (u : zS) => R v u) 110 [some (.inr (.inr (9, 0))), none, some (.inl e), some (.inl k), some (.inl l), some (.inl c), some (.inl m), some (.inl wp), some (.inl z), some (.inl b), some (.inl (j + (1 : Int)))] [] u2))))))))))))))
    have hn := hB.1
    have hst := zst_r (e := e) (l := l) (n := z + 1) (by omega)
    have eb : t 61 b = τ 61 b := hf.2.1 b hne
    have dj : b < zst e l (z + 1) ∨ zst e l (z + 1) < b := by omega
    have fj : j < τ 61 b → (t 62 (5 * b + j) = τ 62 (5 * b + j) ∧ t 63 (5 * b + j) = τ 63 (5 * b + j)) ∧ (0 ≤ τ 63 (5 * b + j) ∧ τ 63 (5 * b + j) < 36028797018963968) ∧ 0 ≤ τ 62 (5 * b + j) ∧ τ 62 (5 * b + j) ≤ 2000 := fun q => ⟨hf.2.2 _ (by omega), hA _ _ (hB.2.2.1 j j0.1 q).1⟩
    have e2 : (2 : Int) ^ (5 : Int).toNat = 32 := by decide
    have e5 : (2 : Int) ^ 5 = 32 := by decide
    refine ⟨by (first | omega | (have q9 := fj (by omega); omega)), ?_⟩
    refine ⟨?_, ?_⟩
    · intro h1
      refine ⟨by (exact ⟨by omega, by omega⟩), ?_⟩
      obtain rfl : j = τ 61 b := by omega
      exact K t hf hS
    · intro h2
      refine ⟨by (exact ⟨by omega, by omega⟩), ?_⟩
      refine ⟨_, am_X9_state (by omega), ?_⟩
      intro v1 u1 hv1
      rintro ⟨rfl, ev1⟩
      obtain ⟨hv1a, hv1b⟩ := hv1
      obtain rfl : v1 = zst e l (z + 1) := ev1.symm
      refine ⟨by (have q9 := fj (by omega); exact ⟨by omega, by omega⟩), ?_⟩
      refine ⟨by (have q9 := fj (by omega); exact ⟨by omega, by omega⟩), ?_⟩
      refine ⟨by (first | omega | (have q9 := fj (by omega); omega)), ?_⟩
      refine ⟨by (have q9 := fj (by omega); exact ⟨by omega, by omega⟩), ?_⟩
      refine ⟨by (have q9 := fj (by omega); exact ⟨by omega, by omega⟩), ?_⟩
      refine ⟨by (have q9 := fj (by omega); exact ⟨by omega, by omega⟩), ?_⟩
      refine ⟨by (first | omega | (have q9 := fj (by omega); omega)), ?_⟩
      have q8 := fj (by omega)
      rw [zshl (by omega) (by decide) (by decide) (by rw [e2]; omega), e2, zori (a := t 63 (5 * b + j)) (k := 5) (by omega) (by rw [e5]) (by omega) (by rw [e5]; omega) (by omega)]
      refine ⟨_, am_X9_hold (S := zKM τ b l wp j S) (by omega) (hS), ?_⟩
      intro u2
      intro kv2
      refine ⟨by (have q9 := fj (by omega); exact ⟨by omega, by omega⟩), ?_⟩
      have q := fj (by omega)
      refine ih (j + 1) u2 (by omega) ⟨by omega, by omega⟩ (hf.trans kv2.1) (kv2.2.congr (fun y d => ?_))
      rw [q.1.1, q.1.2, Int.mul_comm]
      exact zKM_s j0.1
set_option maxRecDepth 100000 in
set_option maxHeartbeats 4000000 in
theorem lp_g88 {m : Int} {wp : Int} {e : Int} {k : Int} {l : Int} {c : Int} {p : Int} {f : Int → Int → Int → Int} {P : Int → Int → Int} {S : Int → Int → Int → Prop} {σ : zS} {R : Int → zS → Prop} (hbd : zgb f P p) (hr : 1 ≤ e ∧ e ≤ p ∧ p ≤ 14) (hk : 1 ≤ k ∧ k ≤ 3 ∧ k ≤ e) (hl : 0 ≤ l ∧ l < 26) (hc : c = f (e - k) k l) (hc0 : 0 ≤ c) (hP : ∀ x y : Int, 0 ≤ x → x < 26 → 0 ≤ y → y < 26 → 0 ≤ σ 47 (48984 + 26 * x + y) ∧ σ 47 (48984 + 26 * x + y) ≤ 999 ∧ 6 / (1 + σ 47 (48984 + 26 * x + y)) = P x y) (hF : k < e → ∀ m n : Int, 0 ≤ m → m < 26 → 1 ≤ n → n ≤ 12 → zTM σ (zst (e - k) m n) (zSM f P (e - k) m n (fun _ => True))) (hlt : k < e) (hm : 0 ≤ m ∧ m < 26) (hwp : wp = f (e - k) k l + P m l) (K : ∀ t : zS, zYF σ t e l → (∀ n2 : Int, 1 ≤ n2 → n2 ≤ 12 → zTM t (zst e l n2) (zEM f P e k l S n2 (m + 1) 1)) → zRuns 137 zX0 R 52 [some (.inr (.inr (9, 0))), none, some (.inl e), some (.inl k), some (.inl l), some (.inl c), some (.inl (m + 1)), none, none, none, none] [] t) : ∀ (n : Nat) (z : Int) (t : zS), 13 - z < (n : Int) → (1 ≤ z ∧ z ≤ 12) → (zYF σ t e l) → (∀ n2 : Int, 1 ≤ n2 → n2 ≤ 12 → zTM t (zst e l n2) (zEM f P e k l S n2 m z)) → zRuns 137 zX0 (fun (v : Int) (u : zS) => R v u) 88 [some (.inr (.inr (9, 0))), none, some (.inl e), some (.inl k), some (.inl l), some (.inl c), some (.inl m), some (.inl wp), some (.inl z), none, none] [] t := by
  intro n
  induction n with
  | zero =>
    intro z t hn n0 hf hS
    exfalso
    omega
  | succ n ih =>
    intro z t hn n0 hf hS
    refine zwalk zmk_137 [(52, [true, false, true, true, true, true, true, false, false, false, false]), (88, [true, false, true, true, true, true, true, true, true, false, false]), (110, [true, false, true, true, true, true, true, true, true, true, true])] 3 ?_
    show (((12 : Int) ≤ z → (zI (m + (1 : Int)) ∧ zRuns 137 zX0 (fun (v : Int) (u : zS) => R v u) 52 [some (.inr (.inr (9, 0))), none, some (.inl e), some (.inl k), some (.inl l), some (.inl c), some (.inl (m + (1 : Int))), none, none, none, none] [] t)) ∧ (z < (12 : Int) → (zI (e - k) ∧ (∃ Rc : Int → zS → Prop, zAM 136 [.inl (e - k), .inl m, .inl z] t Rc ∧ ∀ (v1 : Int) (u1 : zS), zI v1 → Rc v1 u1 → zRuns 137 zX0 (fun (v : Int) (u : zS) => R v u) 110 [some (.inr (.inr (9, 0))), none, some (.inl e), some (.inl k), some (.inl l), some (.inl c), some (.inl m), some (.inl wp), some (.inl z), some (.inl v1), some (.inl (0 : Int))] [] u1))))
    refine ⟨?_, ?_⟩
    · intro h1
      refine ⟨by (first | exact ⟨by omega, by omega⟩ | (exfalso; omega)), ?_⟩
      obtain rfl : z = 12 := by omega
      exact K t hf (fun n2 a0 a1 => (hS n2 a0 a1).congr (fun y d => zEM_row a1))
    · intro h2
      refine ⟨by (first | exact ⟨by omega, by omega⟩ | (exfalso; omega)), ?_⟩
      refine ⟨_, am_X9_state (by omega), ?_⟩
      intro v1 u1 hv1
      rintro ⟨rfl, ev1⟩
      obtain ⟨hv1a, hv1b⟩ := hv1
      obtain rfl : v1 = zst (e - k) m z := ev1.symm
      have g1 := zst_r (e := e - k) (l := m) (n := z) (by omega)
      have gne : ¬ zst (e - k) m z = zst e l (z + 1) := fun q => by have := zst_ne (by omega) (by omega) q; omega
      have hB := hf.keep (b := zst (e - k) m z) (fun n2 a0 a1 q => by have := zst_ne (by omega) (by omega) q; omega) (hF (by omega) m z hm.1 hm.2 (by omega) (by omega))
      have hBn := hB.1
      have hPb := hbd.2 m l hm.1 hm.2 hl.1 hl.2
      have hfb := hbd.1 (e - k) k l (by omega) hk.1 hk.2.1 (by omega) hl.1 hl.2
      refine lp_g110 (S := zEM f P e k l S (z + 1) m z) (by omega) g1 gne hB (zSM_b11 hbd (by omega) (by omega)) (by omega) (fun t' hf' hS' => ?_) 6 0 t (by omega) ⟨by omega, by omega⟩ zMH.rf ((hS _ (by omega) (by omega)).congr (fun y d => zKM_0))
      refine ih (z + 1) t' (by omega) ⟨by omega, by omega⟩ (hf.hf hf' (by omega) (by omega)) (fun n2 a0 a1 => ?_)
      by_cases g : n2 = z + 1
      · rw [g]
        rw [hwp] at hS'
        exact zTM_step ⟨hk.1, hk.2.1⟩ hl (by omega) rfl hB hS'
      · refine (hf'.keep (fun q => ?_) (hS n2 a0 a1)).congr (fun y d => zEM_off g)
        have := zst_ne (by omega) (by omega) q
        omega
set_option maxRecDepth 100000 in
set_option maxHeartbeats 4000000 in
theorem lp_g52 {e : Int} {k : Int} {l : Int} {c : Int} {p : Int} {f : Int → Int → Int → Int} {P : Int → Int → Int} {S : Int → Int → Int → Prop} {σ : zS} (hbd : zgb f P p) (hr : 1 ≤ e ∧ e ≤ p ∧ p ≤ 14) (hk : 1 ≤ k ∧ k ≤ 3 ∧ k ≤ e) (hl : 0 ≤ l ∧ l < 26) (hc : c = f (e - k) k l) (hc0 : 0 ≤ c) (hP : ∀ x y : Int, 0 ≤ x → x < 26 → 0 ≤ y → y < 26 → 0 ≤ σ 47 (48984 + 26 * x + y) ∧ σ 47 (48984 + 26 * x + y) ≤ 999 ∧ 6 / (1 + σ 47 (48984 + 26 * x + y)) = P x y) (hF : k < e → ∀ m n : Int, 0 ≤ m → m < 26 → 1 ≤ n → n ≤ 12 → zTM σ (zst (e - k) m n) (zSM f P (e - k) m n (fun _ => True))) (hlt : k < e) : ∀ (n : Nat) (m : Int) (t : zS), 26 - m < (n : Int) → (0 ≤ m ∧ m ≤ 26) → (zYF σ t e l) → (∀ n2 : Int, 1 ≤ n2 → n2 ≤ 12 → zTM t (zst e l n2) (zEM f P e k l S n2 m 1)) → zRuns 137 zX0 (fun (v : Int) (u : zS) => zYF σ u e l ∧ ∀ n2 : Int, 1 ≤ n2 → n2 ≤ 12 → zTM u (zst e l n2) (zEY f P e k l S n2)) 52 [some (.inr (.inr (9, 0))), none, some (.inl e), some (.inl k), some (.inl l), some (.inl c), some (.inl m), none, none, none, none] [] t := by
  intro n
  induction n with
  | zero =>
    intro m t hn m0 hf hS
    exfalso
    omega
  | succ n ih =>
    intro m t hn m0 hf hS
    refine zwalk zmk_137 [(52, [true, false, true, true, true, true, true, false, false, false, false]), (88, [true, false, true, true, true, true, true, true, true, false, false])] 3 ?_
    show (((26 : Int) ≤ m → (zYF σ t e l ∧ ∀ n2 : Int, 1 ≤ n2 → n2 ≤ 12 → zTM t (zst e l n2) (zEY f P e k l S n2))) ∧ (m < (26 : Int) → (zI ((26 : Int) * m) ∧ (zI ((48984 : Int) + ((26 : Int) * m)) ∧ (zI (((48984 : Int) + ((26 : Int) * m)) + l) ∧ ((0 ≤ (((48984 : Int) + ((26 : Int) * m)) + l) ∧ (((48984 : Int) + ((26 : Int) * m)) + l) < (49660 : Int)) ∧ (zI ((1 : Int) + (t 47 (((48984 : Int) + ((26 : Int) * m)) + l))) ∧ ((0 ≤ (6 : Int) ∧ 0 < ((1 : Int) + (t 47 (((48984 : Int) + ((26 : Int) * m)) + l)))) ∧ (zI (c + ((6 : Int) / ((1 : Int) + (t 47 (((48984 : Int) + ((26 : Int) * m)) + l))))) ∧ zRuns 137 zX0 (fun (v : Int) (u : zS) => zYF σ u e l ∧ ∀ n2 : Int, 1 ≤ n2 → n2 ≤ 12 → zTM u (zst e l n2) (zEY f P e k l S n2)) 88 [some (.inr (.inr (9, 0))), none, some (.inl e), some (.inl k), some (.inl l), some (.inl c), some (.inl m), some (.inl (c + ((6 : Int) / ((1 : Int) + (t 47 (((48984 : Int) + ((26 : Int) * m)) + l)))))), some (.inl (1 : Int)), none, none] [] t)))))))))
    have e47 : t 47 = σ 47 := hf.1 47 (by decide)
    have hPm : m < 26 → 0 ≤ t 47 (48984 + 26 * m + l) ∧ t 47 (48984 + 26 * m + l) ≤ 999 ∧ 6 / (1 + t 47 (48984 + 26 * m + l)) = P m l ∧ 0 ≤ P m l ∧ P m l ≤ 6 := fun q => by
      have a1 := hP m l m0.1 q hl.1 hl.2
      have a2 := hbd.2 m l m0.1 q hl.1 hl.2
      rw [e47]
      exact ⟨a1.1, a1.2.1, a1.2.2, a2⟩
    refine ⟨?_, ?_⟩
    · intro h1
      obtain rfl : m = 26 := by omega
      exact ⟨hf, fun n2 a0 a1 => (hS n2 a0 a1).congr (fun y d => zEM_end hlt)⟩
    · intro h2
      refine ⟨by (first | exact ⟨by omega, by omega⟩ | (have q9 := hPm (by omega); have hfb := hbd.1 (e - k) k l (by omega) hk.1 hk.2.1 (by omega) hl.1 hl.2; exact ⟨by omega, by omega⟩)), ?_⟩
      refine ⟨by (first | exact ⟨by omega, by omega⟩ | (have q9 := hPm (by omega); have hfb := hbd.1 (e - k) k l (by omega) hk.1 hk.2.1 (by omega) hl.1 hl.2; exact ⟨by omega, by omega⟩)), ?_⟩
      refine ⟨by (first | exact ⟨by omega, by omega⟩ | (have q9 := hPm (by omega); have hfb := hbd.1 (e - k) k l (by omega) hk.1 hk.2.1 (by omega) hl.1 hl.2; exact ⟨by omega, by omega⟩)), ?_⟩
      refine ⟨by (first | omega | (have q9 := hPm (by omega) ; omega)), ?_⟩
      refine ⟨by (first | exact ⟨by omega, by omega⟩ | (have q9 := hPm (by omega); have hfb := hbd.1 (e - k) k l (by omega) hk.1 hk.2.1 (by omega) hl.1 hl.2; exact ⟨by omega, by omega⟩)), ?_⟩
      refine ⟨by (first | omega | (have q9 := hPm (by omega) ; omega)), ?_⟩
      refine ⟨by (first | exact ⟨by omega, by omega⟩ | (have q9 := hPm (by omega); have hfb := hbd.1 (e - k) k l (by omega) hk.1 hk.2.1 (by omega) hl.1 hl.2; exact ⟨by omega, by omega⟩)), ?_⟩
      have q8 := hPm (by omega)
      refine lp_g88 (wp := c + 6 / (1 + t 47 (48984 + 26 * m + l))) hbd hr hk hl hc hc0 hP hF hlt ⟨by omega, by omega⟩ (by rw [q8.2.2.1, hc]) (fun t' hf' hS' => ?_) 13 1 t (by omega) ⟨by omega, by omega⟩ hf hS
      exact ih (m + 1) t' (by omega) ⟨by omega, by omega⟩ hf' hS'
set_option maxRecDepth 100000 in
set_option maxHeartbeats 4000000 in
theorem am_X9_goOn {σ : zS} {i : Int} {e : Int} {k : Int} {l : Int} {p : Int} {f : Int → Int → Int → Int} {P : Int → Int → Int} {S : Int → Int → Int → Prop} (hi : 0 ≤ i ∧ i < 40) (hb0 : 0 ≤ σ 45 i ∧ σ 45 i + p ≤ 40) (hs : ∀ j : Int, σ 45 i ≤ j → j < σ 45 i + p → 0 ≤ σ 42 j ∧ σ 42 j < 12) (hc47 : ∀ j : Int, 0 ≤ j → j < 49660 → 0 ≤ σ 47 j ∧ σ 47 j ≤ 999) (hfm : zmc σ l (σ 45 i + e - k) k = if f (e - k) k l < 0 then 1000000000 else f (e - k) k l) (hbd : zgb f P p) (hr : 1 ≤ e ∧ e ≤ p ∧ p ≤ 14) (hk : 1 ≤ k ∧ k ≤ 3 ∧ k ≤ e) (hl : 0 ≤ l ∧ l < 26) (hP : ∀ x y : Int, 0 ≤ x → x < 26 → 0 ≤ y → y < 26 → 0 ≤ σ 47 (48984 + 26 * x + y) ∧ σ 47 (48984 + 26 * x + y) ≤ 999 ∧ 6 / (1 + σ 47 (48984 + 26 * x + y)) = P x y) (hF : k < e → ∀ m n : Int, 0 ≤ m → m < 26 → 1 ≤ n → n ≤ 12 → zTM σ (zst (e - k) m n) (zSM f P (e - k) m n (fun _ => True))) (hS0 : ∀ n2 : Int, 1 ≤ n2 → n2 ≤ 12 → zTM σ (zst e l n2) (S n2)) : zAM 137 [.inr (.inr (9, 0)), .inl i, .inl e, .inl k, .inl l] σ (fun (v : Int) (u : zS) => zYF σ u e l ∧ ∀ n2 : Int, 1 ≤ n2 → n2 ≤ 12 → zTM u (zst e l n2) (zEY f P e k l S n2)) := by
  refine zam (by decide) (Nat.le_of_ble_eq_true rfl) ?_
  refine zwalk zmk_137 [(52, [true, false, true, true, true, true, true, false, false, false, false])] 4 ?_
  show ((0 ≤ i ∧ i < (41 : Int)) ∧ (zI ((σ 45 i) + e) ∧ (zI (((σ 45 i) + e) - k) ∧ (∃ Rc : Int → zS → Prop, zAM 132 [.inr (.inr (9, 0)), .inl l, .inl (((σ 45 i) + e) - k), .inl k] σ Rc ∧ ∀ (v1 : Int) (u1 : zS), zI v1 → Rc v1 u1 → ((v1 < (1000000000 : Int) → ((¬ e = k → zRuns 137 zX0 (fun (v : Int) (u : zS) => zYF σ u e l ∧ ∀ n2 : Int, 1 ≤ n2 → n2 ≤ 12 → zTM u (zst e l n2) (zEY f P e k l S n2)) 52 [some (.inr (.inr (9, 0))), none, some (.inl e), some (.inl k), some (.inl l), some (.inl v1), some (.inl (0 : Int)), none, none, none, none] [] u1) ∧ (e = k → (∃ Rc : Int → zS → Prop, zAM 136 [.inl e, .inl l, .inl (1 : Int)] u1 Rc ∧ ∀ (v2 : Int) (u2 : zS), zI v2 → Rc v2 u2 → (∃ Rc : Int → zS → Prop, zAM 135 [.inr (.inr (9, 0)), .inl v2, .inl v1, .inr (.inl l)] u2 Rc ∧ ∀ (u3 : zS), Rc 0 u3 → (zYF σ u3 e l ∧ ∀ n2 : Int, 1 ≤ n2 → n2 ≤ 12 → zTM u3 (zst e l n2) (zEY f P e k l S n2))))))) ∧ ((1000000000 : Int) ≤ v1 → (zYF σ u1 e l ∧ ∀ n2 : Int, 1 ≤ n2 → n2 ≤ 12 → zTM u1 (zst e l n2) (zEY f P e k l S n2))))))))
  have hfb := hbd.1 (e - k) k l (by omega) hk.1 hk.2.1 (by omega) hl.1 hl.2
  refine ⟨by (first | exact ⟨by omega, by omega⟩ | (exfalso; omega)), ?_⟩
  refine ⟨by (first | exact ⟨by omega, by omega⟩ | (exfalso; omega)), ?_⟩
  refine ⟨by (first | exact ⟨by omega, by omega⟩ | (exfalso; omega)), ?_⟩
  refine ⟨_, am_X9_cost (by omega) (by omega) (hl) (fun j a0 a1 => hs j (by omega) (by omega)) (hc47), ?_⟩
  intro v1 u1 hv1
  rintro ⟨rfl, ev1⟩
  obtain ⟨hv1a, hv1b⟩ := hv1
  rw [hfm] at ev1
  refine ⟨?_, ?_⟩
  · intro h1
    refine ⟨?_, ?_⟩
    · intro h2
      have fn : ¬ f (e - k) k l < 0 := fun g => by rw [if_pos g] at ev1; omega
      rw [if_neg fn] at ev1
      exact lp_g52 hbd hr hk hl ev1.symm (by omega) hP hF (by omega) 27 0 σ (by omega) ⟨by omega, by omega⟩ zYF.rf (fun n2 a0 a1 => (hS0 n2 a0 a1).congr (fun y d => zEM_0))
    · intro h3
      refine ⟨_, am_X9_state (by omega), ?_⟩
      intro v2 u2 hv2
      rintro ⟨rfl, ev2⟩
      obtain ⟨hv2a, hv2b⟩ := hv2
      obtain rfl : v2 = zst e l 1 := ev2.symm
      refine ⟨_, am_X9_hold (S := S 1) (zst_r (by omega)) (hS0 1 (by omega) (by omega)), ?_⟩
      intro u3
      intro kv3
      have fn : ¬ f (e - k) k l < 0 := fun g => by rw [if_pos g] at ev1; omega
      rw [if_neg fn, show e - k = 0 by omega] at ev1
      rw [show e - k = 0 by omega] at fn
      refine ⟨zYF.rf.hf kv3.1 (by omega) (by omega), fun n2 a0 a1 => ?_⟩
      by_cases g : n2 = 1
      · rw [g]
        refine kv3.2.congr (fun y d => ?_)
        rw [← ev1]
        exact zEY_first ⟨hk.1, hk.2.1⟩ hl (by omega) (by omega) rfl
      · refine (kv3.1.keep (fun q => ?_) (hS0 n2 a0 a1)).congr (fun y d => zEY_off (by omega) g)
        have := zst_ne (by omega) (by omega) q
        omega
  · intro h4
    have fn : f (e - k) k l < 0 := by
      by_cases g : f (e - k) k l < 0
      · exact g
      · rw [if_neg g] at ev1; omega
    exact ⟨zYF.rf, fun n2 a0 a1 => (hS0 n2 a0 a1).congr (fun y d => zEY_no fn)⟩
