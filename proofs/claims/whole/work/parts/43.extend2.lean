/-! the class's extend -/
def zHX (σ t : zS) (a l ts : Int) : Prop := zfr [30, 31, 32] σ t ∧ (∀ j : Int, (∀ s : Int, 0 ≤ s → s ≤ ts → ¬ j = zhp a s l) → t 30 j = σ 30 j) ∧ ∀ j : Int, (∀ s : Int, 0 ≤ s → s ≤ ts → j < zhp a s l * 5 ∨ zhp a s l * 5 + 5 ≤ j) → t 31 j = σ 31 j ∧ t 32 j = σ 32 j
theorem zHX.rf {σ : zS} {a l ts : Int} : zHX σ σ a l ts := ⟨zfr.rf, fun _ _ => rfl, fun _ _ => ⟨rfl, rfl⟩⟩
theorem zHX.hf {σ t u : zS} {a l ts s : Int} (h : zHX σ t a l ts) (g : zHF t u (zhp a s l)) (s0 : 0 ≤ s) (s1 : s ≤ ts) : zHX σ u a l ts := by
  obtain ⟨h1, h2, h3⟩ := h
  obtain ⟨g1, g2, g3⟩ := g
  refine ⟨fun k hk => by rw [g1 k hk, h1 k hk], fun j hj => by rw [g2 j (hj s s0 s1), h2 j hj], fun j hj => ?_⟩
  rw [(g3 j (hj s s0 s1)).1, (g3 j (hj s s0 s1)).2]
  exact h3 j hj
theorem zHX.keep {σ t : zS} {a l ts b : Int} {A : Int → Int → Prop} (h : zHX σ t a l ts) (hb : ∀ s : Int, 0 ≤ s → s ≤ ts → ¬ b = zhp a s l) (hA : zTH σ b A) : zTH t b A := by
  obtain ⟨h1, h2, h3⟩ := h
  unfold zTH at *
  rw [h2 b hb]
  have hn := hA.1
  refine hA.arr (fun i i0 i1 => h3 _ (fun s s0 s1 => ?_))
  have := hb s s0 s1
  omega
/-- done so far, of the rests with row k and letter l ahead -/
def zES (f : Int → Int → Int → Int) (P : Int → Int → Int) (p ts a k l : Int) (S : Int → Int → Int → Prop) (s2 m s : Int) (y e : Int) : Prop := S s2 y e ∨ ∃ r, zGC f p ts a s2 l r ∧ zdn2 ts k l m s r ∧ y = zgw r ∧ e = zgc f P a r
def zEX (f : Int → Int → Int → Int) (P : Int → Int → Int) (p ts a k l : Int) (S : Int → Int → Int → Prop) (s2 : Int) (y e : Int) : Prop := S s2 y e ∨ ∃ r, zGC f p ts a s2 l r ∧ (∃ r', r = (k, l) :: r') ∧ y = zgw r ∧ e = zgc f P a r
theorem zhp_r {a s l : Int} (h : 0 ≤ s ∧ s ≤ 2 ∧ 0 ≤ l ∧ l < 26) : 0 ≤ zhp a s l ∧ zhp a s l < 312 := by unfold zhp; omega
theorem zhp_ne {a b s s' l l' : Int} (h : 0 ≤ s ∧ s ≤ 2 ∧ 0 ≤ l ∧ l < 26) (h' : 0 ≤ s' ∧ s' ≤ 2 ∧ 0 ≤ l' ∧ l' < 26) (e : zhp a s l = zhp b s' l') : a % 4 = b % 4 ∧ s = s' ∧ l = l' := by unfold zhp at e; omega
theorem zgh_r {f : Int → Int → Int → Int} {a : Int} {r : List (Int × Int)} (h : zgo f a r) (hr : r ≠ []) : 0 ≤ zgh r ∧ zgh r < 26 := by
  cases r with
  | nil => exact absurd rfl hr
  | cons q r => exact ⟨h.1.2.2.1, h.1.2.2.2.1⟩
section
variable {f : Int → Int → Int → Int} {P : Int → Int → Int} {p ts a k l m s s2 : Int} {S : Int → Int → Int → Prop} {y e : Int}
theorem zES_0 (hts : 0 ≤ ts) : S s2 y e ↔ zES f P p ts a k l S s2 0 0 y e := by
  constructor
  · exact Or.inl
  · rintro (q | ⟨r, g1, ⟨r', e1, e2, q⟩, -⟩)
    · exact q
    · subst e1
      have h1 := zgh_r g1.1.1.2 e2
      have h2 := zgl_len g1.1.1.2
      have h3 := g1.2.2.2.2
      omega
theorem zES_row (hts : 0 ≤ ts) : zES f P p ts a k l S s2 m (ts + 1) y e ↔ zES f P p ts a k l S s2 (m + 1) 0 y e := by
  constructor
  · rintro (q | ⟨r, g1, ⟨r', e1, e2, q⟩, g2⟩)
    · exact Or.inl q
    · exact Or.inr ⟨r, g1, ⟨r', e1, e2, by omega⟩, g2⟩
  · rintro (q | ⟨r, g1, ⟨r', e1, e2, q⟩, g2⟩)
    · exact Or.inl q
    · subst e1
      have h2 := zgl_len g1.1.1.2
      exact Or.inr ⟨_, g1, ⟨r', rfl, e2, by omega⟩, g2⟩
theorem zES_end (hp : a + k < p) : zES f P p ts a k l S s2 26 0 y e ↔ zEX f P p ts a k l S s2 y e := by
  constructor
  · rintro (q | ⟨r, g1, ⟨r', e1, e2, q⟩, g2⟩)
    · exact Or.inl q
    · exact Or.inr ⟨r, g1, ⟨r', e1⟩, g2⟩
  · rintro (q | ⟨r, g1, ⟨r', e1⟩, g2⟩)
    · exact Or.inl q
    · subst e1
      have hne : r' ≠ [] := fun q => by
        subst q
        have := g1.1.2
        simp only [zgl] at this
        omega
      exact Or.inr ⟨_, g1, ⟨r', rfl, hne, Or.inl (zgh_r g1.1.1.2 hne).2⟩, g2⟩
/-- another place of savings: nothing new -/
theorem zES_off (hs : 0 ≤ s ∧ s ≤ ts) (hne : ¬ s2 = min ts (s + k - 1)) : zES f P p ts a k l S s2 m s y e ↔ zES f P p ts a k l S s2 m (s + 1) y e := by
  constructor
  · rintro (q | ⟨r, g1, ⟨r', e1, e2, q⟩, g2⟩)
    · exact Or.inl q
    · exact Or.inr ⟨r, g1, ⟨r', e1, e2, by omega⟩, g2⟩
  · rintro (q | ⟨r, g1, ⟨r', e1, e2, q⟩, g2⟩)
    · exact Or.inl q
    · refine Or.inr ⟨r, g1, ⟨r', e1, e2, ?_⟩, g2⟩
      subst e1
      have h3 := g1.2.2.2.2
      have h4 := g1.1.1.1
      simp only [zgl, List.length_cons] at h3
      have h5 : ((r'.length + 1 : Nat) : Int) = (r'.length : Int) + 1 := by omega
      omega
/-- the place where they come: all of the heap -/
theorem zES_on (hk : 1 ≤ k ∧ k ≤ 3) (hl : 0 ≤ l ∧ l < 26) (hf : 0 ≤ f a k l) (hs : 0 ≤ s ∧ s ≤ ts) (h2 : s2 = min ts (s + k - 1)) : (zES f P p ts a k l S s2 m s y e ∨ ∃ r', zGC f p ts (a + k) s m r' ∧ r'.length ≤ 11 ∧ y = zgw ((k, l) :: r') ∧ e = zgc f P a ((k, l) :: r')) ↔ zES f P p ts a k l S s2 m (s + 1) y e := by
  constructor
  · rintro ((q | ⟨r, g1, ⟨r', e1, e2, q⟩, g2⟩) | ⟨r', g1, g2, g3⟩)
    · exact Or.inl q
    · exact Or.inr ⟨r, g1, ⟨r', e1, e2, by omega⟩, g2⟩
    · refine Or.inr ⟨(k, l) :: r', ⟨⟨⟨⟨hk.1, hk.2, hl.1, hl.2, hf⟩, g1.1.1⟩, ?_⟩, by simp, rfl, ?_, ?_⟩, ⟨r', rfl, g1.2.1, Or.inr ⟨g1.2.2.1, ?_⟩⟩, g3⟩
      · have := g1.1.2
        simp only [zgl]
        omega
      · simp only [List.length_cons]; omega
      · have h3 := g1.2.2.2.2
        simp only [zgl, List.length_cons]
        omega
      · have h3 := g1.2.2.2.2
        omega
  · rintro (q | ⟨r, g1, ⟨r', e1, e2, q⟩, g2⟩)
    · exact Or.inl (Or.inl q)
    · by_cases g : zgh r' < m ∨ zgh r' = m ∧ min ts (zgl r' - (r'.length : Int)) < s
      · exact Or.inl (Or.inr ⟨r, g1, ⟨r', e1, e2, g⟩, g2⟩)
      · subst e1
        have h3 := g1.1.2
        have h4 := g1.2.2.2.1
        simp only [zgl, List.length_cons] at h3 h4
        exact Or.inr ⟨r', ⟨⟨g1.1.1.2, by omega⟩, e2, by omega, by omega, by omega⟩, by omega, g2⟩
/-- the last row: nothing behind it -/
theorem zEX_last (hk : 1 ≤ k ∧ k ≤ 3) (hl : 0 ≤ l ∧ l < 26) (hf : 0 ≤ f a k l) (hp : a + k = p) (h2 : s2 = min ts (k - 1)) : (S s2 y e ∨ y = (l + 1) * 36028797018963968 ∧ e = f a k l) ↔ zEX f P p ts a k l S s2 y e := by
  have hw : zgw [(k, l)] = (l + 1) * 36028797018963968 := by
    rw [zgw_cons (by simp)]
    show zlc _ 0 / 32 + _ = _
    simp [zlc, zdw]
  have hc : zgc f P a [(k, l)] = f a k l := by simp [zgc, zgj]
  constructor
  · rintro (q | ⟨q1, q2⟩)
    · exact Or.inl q
    · refine Or.inr ⟨[(k, l)], ⟨⟨⟨⟨hk.1, hk.2, hl.1, hl.2, hf⟩, trivial⟩, ?_⟩, by simp, rfl, by simp, ?_⟩, ⟨[], rfl⟩, by rw [hw]; exact q1, by rw [hc]; exact q2⟩
      · simp only [zgl]; omega
      · simp only [zgl, List.length_cons, List.length_nil]; omega
  · rintro (q | ⟨r, g1, ⟨r', e1⟩, g2, g3⟩)
    · exact Or.inl q
    · subst e1
      have hnil : r' = [] := by
        cases r' with
        | nil => rfl
        | cons q r' =>
          have h1 := zgl_pos g1.1.1.2 (by simp)
          have h3 := g1.1.2
          simp only [zgl] at h3 h1
          omega
      subst hnil
      rw [hw] at g2
      rw [hc] at g3
      exact Or.inr ⟨g2, g3⟩
theorem zEX_off (hp : a + k = p) (hne : ¬ s2 = min ts (k - 1)) : S s2 y e ↔ zEX f P p ts a k l S s2 y e := by
  constructor
  · exact Or.inl
  · rintro (q | ⟨r, g1, ⟨r', e1⟩, g2, g3⟩)
    · exact q
    · subst e1
      have hnil : r' = [] := by
        cases r' with
        | nil => rfl
        | cons q r' =>
          have h1 := zgl_pos g1.1.1.2 (by simp)
          have h3 := g1.1.2
          simp only [zgl] at h3 h1
          omega
      subst hnil
      have h3 := g1.2.2.2.2
      simp only [zgl, List.length_cons, List.length_nil] at h3
      omega
end
theorem zSC_b {f : Int → Int → Int → Int} {P : Int → Int → Int} {p ts a s l : Int} {K : List (Int × Int) → Prop} (hb : zgb f P p) (ha : 0 ≤ a) (x d : Int) (h : zSC f P p ts a s l K x d) : (0 ≤ x ∧ x < 1152921504606846976) ∧ 0 ≤ d ∧ d ≤ 2000 := by
  obtain ⟨r, g, -, e1, e2⟩ := h
  have h1 := zgw_r g.1.1 g.2.2.2.1
  have h2 := zgc_b hb ha g.1.1 (by have := g.1.2; omega)
  have h3 := g.2.2.2.1
  rw [e1, e2]
  exact ⟨h1, h2.1, by omega⟩
set_option maxRecDepth 100000 in
set_option maxHeartbeats 4000000 in
theorem lp_206 {a k l c m wp s : Int} {t : zS} {R : Int → zS → Prop} (hs : 0 ≤ s ∧ s ≤ 100) (K : zRuns 29 zX0 R 66 [some (.inr (.inr (6, 0))), some (.inr (.inr (3, 0))), some (.inl a), some (.inl k), some (.inl l), some (.inl c), some (.inl m), some (.inl wp), some (.inl (s + 1)), none, none, none, none] [] t) : zRuns 29 zX0 R 206 [some (.inr (.inr (6, 0))), some (.inr (.inr (3, 0))), some (.inl a), some (.inl k), some (.inl l), some (.inl c), some (.inl m), some (.inl wp), some (.inl s), none, none, none, none] [] t := by
  refine zwalk zmk_29 [(43, [true, true, true, true, true, true, true, false, false, false, false, false, false]), (66, [true, true, true, true, true, true, true, true, true, false, false, false, false]), (128, [true, true, true, true, true, true, true, true, true, false, true, true, true])] 2 ?_
  show (zI (s + (1 : Int)) ∧ zRuns 29 zX0 (fun (v : Int) (u : zS) => R v u) 66 [some (.inr (.inr (6, 0))), some (.inr (.inr (3, 0))), some (.inl a), some (.inl k), some (.inl l), some (.inl c), some (.inl m), some (.inl wp), some (.inl (s + (1 : Int))), none, none, none, none] [] t)
  refine ⟨by (exact ⟨by omega, by omega⟩), ?_⟩
  exact K
set_option maxRecDepth 100000 in
set_option maxHeartbeats 4000000 in
theorem lp_ext66 {m : Int} {wp : Int} {a : Int} {k : Int} {l : Int} {c : Int} {p : Int} {ts : Int} {f : Int → Int → Int → Int} {P : Int → Int → Int} {S : Int → Int → Int → Prop} {σ : zS} {R : Int → zS → Prop} (hbd : zgb f P p) (ha : 0 ≤ a ∧ a < 14) (hk : 1 ≤ k ∧ k ≤ 3) (hl : 0 ≤ l ∧ l < 26) (hp : a + k ≤ p ∧ p ≤ 14) (hts : ts = max 0 (p - 12)) (hc : c = f a k l) (hc0 : 0 ≤ c) (h63 : σ 6 3 = p) (h64 : σ 6 4 = ts) (hP : ∀ x y : Int, 0 ≤ x → x < 26 → 0 ≤ y → y < 26 → 6 / (σ 22 (x * 26 + y) + 1) = P x y) (hcr : ∀ x y : Int, 0 ≤ x → x < 26 → 0 ≤ y → y < 26 → 0 ≤ σ 22 (x * 26 + y) ∧ σ 22 (x * 26 + y) ≤ 999) (hF : a + k < p → ∀ m s : Int, 0 ≤ m → m < 26 → 0 ≤ s → s ≤ ts → zTH σ (zhp (a + k) s m) (zSC f P p ts (a + k) s m (fun _ => True))) (hlt : a + k < p) (hm : 0 ≤ m ∧ m < 26) (hwp : wp = f a k l + P l m) (K : ∀ t : zS, zHX σ t a l ts → (∀ s2 : Int, 0 ≤ s2 → s2 ≤ ts → zTH t (zhp a s2 l) (zES f P p ts a k l S s2 (m + 1) 0)) → zRuns 29 zX0 R 43 [some (.inr (.inr (6, 0))), some (.inr (.inr (3, 0))), some (.inl a), some (.inl k), some (.inl l), some (.inl c), some (.inl (m + 1)), none, none, none, none, none, none] [] t) : ∀ (n : Nat) (s : Int) (t : zS), ts + 1 - s < (n : Int) → (0 ≤ s ∧ s ≤ ts + 1) → (zHX σ t a l ts) → (∀ s2 : Int, 0 ≤ s2 → s2 ≤ ts → zTH t (zhp a s2 l) (zES f P p ts a k l S s2 m s)) → zRuns 29 zX0 (fun (v : Int) (u : zS) => R v u) 66 [some (.inr (.inr (6, 0))), some (.inr (.inr (3, 0))), some (.inl a), some (.inl k), some (.inl l), some (.inl c), some (.inl m), some (.inl wp), some (.inl s), none, none, none, none] [] t := by
  intro n
  induction n with
  | zero =>
    intro s t hn s0 hf hS
    exfalso
    omega
  | succ n ih =>
    intro s t hn s0 hf hS
    refine zwalk zmk_29 [(43, [true, true, true, true, true, true, true, false, false, false, false, false, false]), (66, [true, true, true, true, true, true, true, true, true, false, false, false, false]), (128, [true, true, true, true, true, true, true, true, true, false, true, true, true])] 3 ?_
    show (((t 6 (4 : Int)) < s → (zI (m + (1 : Int)) ∧ zRuns 29 zX0 (fun (v : Int) (u : zS) => R v u) 43 [some (.inr (.inr (6, 0))), some (.inr (.inr (3, 0))), some (.inl a), some (.inl k), some (.inl l), some (.inl c), some (.inl (m + (1 : Int))), none, none, none, none, none, none] [] t)) ∧ (s ≤ (t 6 (4 : Int)) → (zI (a + k) ∧ (∃ Rc : Int → zS → Prop, zAM 27 [.inl (a + k), .inl s, .inl m] t Rc ∧ ∀ (v1 : Int) (u1 : zS), zI v1 → Rc v1 u1 → (zI (s + k) ∧ (zI ((s + k) - (1 : Int)) ∧ (∃ Rc : Int → zS → Prop, zAM 27 [.inl a, .inl (min (u1 6 (4 : Int)) ((s + k) - (1 : Int))), .inl l] u1 Rc ∧ ∀ (v2 : Int) (u2 : zS), zI v2 → Rc v2 u2 → (zI (v1 * (5 : Int)) ∧ ((0 ≤ v1 ∧ v1 < (313 : Int)) ∧ (zI ((v1 * (5 : Int)) + (u2 30 v1)) ∧ (zI (v1 * (5 : Int)) ∧ zRuns 29 zX0 (fun (v : Int) (u : zS) => R v u) 128 [some (.inr (.inr (6, 0))), some (.inr (.inr (3, 0))), some (.inl a), some (.inl k), some (.inl l), some (.inl c), some (.inl m), some (.inl wp), some (.inl s), none, some (.inl v2), some (.inl ((v1 * (5 : Int)) + (u2 30 v1))), some (.inl (v1 * (5 : Int)))] [] u2)))))))))))
    have e64 : t 6 4 = ts := by rw [hf.1 6 (by decide)]; exact h64
    refine ⟨?_, ?_⟩
    · intro h1
      refine ⟨by (exact ⟨by omega, by omega⟩), ?_⟩
      obtain rfl : s = ts + 1 := by omega
      exact K t hf (fun s2 a0 a1 => (hS s2 a0 a1).congr (fun y e => zES_row (by omega)))
    · intro h2
      refine ⟨by (exact ⟨by omega, by omega⟩), ?_⟩
      refine ⟨_, am_X4_heap (by omega), ?_⟩
      intro v1 u1 hv1
      rintro ⟨rfl, ev1⟩
      obtain ⟨hv1a, hv1b⟩ := hv1
      refine ⟨by (exact ⟨by omega, by omega⟩), ?_⟩
      refine ⟨by (exact ⟨by omega, by omega⟩), ?_⟩
      refine ⟨_, am_X4_heap (by omega), ?_⟩
      intro v2 u2 hv2
      rintro ⟨rfl, ev2⟩
      obtain ⟨hv2a, hv2b⟩ := hv2
      refine ⟨by (exact ⟨by omega, by omega⟩), ?_⟩
      refine ⟨by (omega), ?_⟩
      refine ⟨by ((have g7 := hf.keep (b := v1) (fun s9 a0 a1 q => by have := zhp_ne (a := a + k) (s := s) (l := m) (by omega) (by omega) (ev1.trans q); omega) (A := zSC f P p ts (a + k) s m (fun _ => True)) (by rw [← ev1]; exact hF hlt m s hm.1 hm.2 (by omega) (by omega)); have g8 := g7.1; exact ⟨by omega, by omega⟩)), ?_⟩
      refine ⟨by (exact ⟨by omega, by omega⟩), ?_⟩
      obtain rfl : v2 = zhp a (min ts (s + k - 1)) l := by rw [← ev2, e64]; rfl
      obtain rfl : v1 = zhp (a + k) s m := ev1.symm
      have g1 := zhp_r (a := a + k) (s := s) (l := m) (by omega)
      have g2 := zhp_r (a := a) (s := min ts (s + k - 1)) (l := l) (by omega)
      have gne : ¬ zhp (a + k) s m = zhp a (min ts (s + k - 1)) l := fun q => by have := zhp_ne (by omega) (by omega) q; omega
      have hB := hf.keep (b := zhp (a + k) s m) (fun s' a0 a1 q => by have := zhp_ne (by omega) (by omega) q; omega) (hF hlt m s hm.1 hm.2 (by omega) (by omega))
      have hBn := hB.1
      have hPb := hbd.2 l m hl.1 hl.2 hm.1 hm.2
      have hfb := hbd.1 a k l ha.1 hk.1 hk.2 hp.1 hl.1 hl.2
      refine lp_extK (S := zES f P p ts a k l S (min ts (s + k - 1)) m s) (by omega) (by omega) gne hB (zSC_b hbd (by omega)) ⟨by omega, by omega⟩ hl (fun t' hf' hS' => ?_) 6 _ t (by omega) ⟨by omega, by omega⟩ zHF.rf ((hS _ (by omega) (by omega)).congr (fun y e => ?_))
      · refine lp_206 (by omega) (ih (s + 1) t' (by omega) ⟨by omega, by omega⟩ (hf.hf hf' (by omega) (by omega)) (fun s2 a0 a1 => ?_))
        by_cases g : s2 = min ts (s + k - 1)
        · rw [g]
          rw [hwp] at hS'
          exact (zTop.step (S := zES f P p ts a k l S (min ts (s + k - 1)) m s) ha.1 hk.1 hts hp.2 hB hS').congr (fun y e => zES_on hk hl (by omega) ⟨by omega, by omega⟩ rfl)
        · refine (hf'.keep (fun q => ?_) (hS s2 a0 a1)).congr (fun y e => zES_off ⟨by omega, by omega⟩ g)
          have := zhp_ne (by omega) (by omega) q
          omega
      · rw [show zhp (a + k) s m * 5 - zhp (a + k) s m * 5 = 0 by omega]; exact zKS_0
set_option maxRecDepth 100000 in
set_option maxHeartbeats 4000000 in
theorem lp_ext43 {a : Int} {k : Int} {l : Int} {c : Int} {p : Int} {ts : Int} {f : Int → Int → Int → Int} {P : Int → Int → Int} {S : Int → Int → Int → Prop} {σ : zS} (hbd : zgb f P p) (ha : 0 ≤ a ∧ a < 14) (hk : 1 ≤ k ∧ k ≤ 3) (hl : 0 ≤ l ∧ l < 26) (hp : a + k ≤ p ∧ p ≤ 14) (hts : ts = max 0 (p - 12)) (hc : c = f a k l) (hc0 : 0 ≤ c) (h63 : σ 6 3 = p) (h64 : σ 6 4 = ts) (hP : ∀ x y : Int, 0 ≤ x → x < 26 → 0 ≤ y → y < 26 → 6 / (σ 22 (x * 26 + y) + 1) = P x y) (hcr : ∀ x y : Int, 0 ≤ x → x < 26 → 0 ≤ y → y < 26 → 0 ≤ σ 22 (x * 26 + y) ∧ σ 22 (x * 26 + y) ≤ 999) (hF : a + k < p → ∀ m s : Int, 0 ≤ m → m < 26 → 0 ≤ s → s ≤ ts → zTH σ (zhp (a + k) s m) (zSC f P p ts (a + k) s m (fun _ => True))) (hlt : a + k < p) : ∀ (n : Nat) (m : Int) (t : zS), 26 - m < (n : Int) → (0 ≤ m ∧ m ≤ 26) → (zHX σ t a l ts) → (∀ s2 : Int, 0 ≤ s2 → s2 ≤ ts → zTH t (zhp a s2 l) (zES f P p ts a k l S s2 m 0)) → zRuns 29 zX0 (fun (v : Int) (u : zS) => zHX σ u a l ts ∧ ∀ s2 : Int, 0 ≤ s2 → s2 ≤ ts → zTH u (zhp a s2 l) (zEX f P p ts a k l S s2)) 43 [some (.inr (.inr (6, 0))), some (.inr (.inr (3, 0))), some (.inl a), some (.inl k), some (.inl l), some (.inl c), some (.inl m), none, none, none, none, none, none] [] t := by
  intro n
  induction n with
  | zero =>
    intro m t hn m0 hf hS
    exfalso
    omega
  | succ n ih =>
    intro m t hn m0 hf hS
    refine zwalk zmk_29 [(43, [true, true, true, true, true, true, true, false, false, false, false, false, false]), (66, [true, true, true, true, true, true, true, true, true, false, false, false, false])] 3 ?_
    show (((26 : Int) ≤ m → (zHX σ t a l ts ∧ ∀ s2 : Int, 0 ≤ s2 → s2 ≤ ts → zTH t (zhp a s2 l) (zEX f P p ts a k l S s2))) ∧ (m < (26 : Int) → (∃ Rc : Int → zS → Prop, zAM 5 [.inr (.inr (3, 0)), .inl l, .inl m] t Rc ∧ ∀ (v1 : Int) (u1 : zS), zI v1 → Rc v1 u1 → (zI (c + v1) ∧ zRuns 29 zX0 (fun (v : Int) (u : zS) => zHX σ u a l ts ∧ ∀ s2 : Int, 0 ≤ s2 → s2 ≤ ts → zTH u (zhp a s2 l) (zEX f P p ts a k l S s2)) 66 [some (.inr (.inr (6, 0))), some (.inr (.inr (3, 0))), some (.inl a), some (.inl k), some (.inl l), some (.inl c), some (.inl m), some (.inl (c + v1)), some (.inl (0 : Int)), none, none, none, none] [] u1))))
    have e22 : t 22 = σ 22 := hf.1 22 (by decide)
    refine ⟨?_, ?_⟩
    · intro h1
      obtain rfl : m = 26 := by omega
      exact ⟨hf, fun s2 a0 a1 => (hS s2 a0 a1).congr (fun y e => zES_end hlt)⟩
    · intro h2
      refine ⟨_, am_X0_pairCost (by omega) (by (rw [e22]; exact hcr l m hl.1 hl.2 (by omega) (by omega))), ?_⟩
      intro v1 u1 hv1
      rintro ⟨rfl, ev1⟩
      obtain ⟨hv1a, hv1b⟩ := hv1
      rw [e22, hP l m hl.1 hl.2 (by omega) (by omega)] at ev1
      have hPb := hbd.2 l m hl.1 hl.2 (by omega) (by omega)
      have hfb := hbd.1 a k l ha.1 hk.1 hk.2 hp.1 hl.1 hl.2
      refine ⟨by (first | exact ⟨by omega, by omega⟩ | (have hPb := hbd.2 l m hl.1 hl.2 (by omega) (by omega); have hfb := hbd.1 a k l ha.1 hk.1 hk.2 hp.1 hl.1 hl.2; exact ⟨by omega, by omega⟩)), ?_⟩
      refine lp_ext66 (wp := c + v1) hbd ha hk hl hp hts hc hc0 h63 h64 hP hcr hF hlt ⟨by omega, by omega⟩ (by rw [hc, ← ev1]) (fun t' hf' hS' => ?_) 5 0 t (by omega) ⟨by omega, by omega⟩ hf hS
      exact ih (m + 1) t' (by omega) ⟨by omega, by omega⟩ hf' hS'
set_option maxRecDepth 100000 in
set_option maxHeartbeats 4000000 in
theorem am_X4_extend {σ : zS} {a : Int} {k : Int} {l : Int} {c : Int} {p : Int} {ts : Int} {f : Int → Int → Int → Int} {P : Int → Int → Int} {S : Int → Int → Int → Prop} (hbd : zgb f P p) (ha : 0 ≤ a ∧ a < 14) (hk : 1 ≤ k ∧ k ≤ 3) (hl : 0 ≤ l ∧ l < 26) (hp : a + k ≤ p ∧ p ≤ 14) (hts : ts = max 0 (p - 12)) (hc : c = f a k l) (hc0 : 0 ≤ c) (h63 : σ 6 3 = p) (h64 : σ 6 4 = ts) (hP : ∀ x y : Int, 0 ≤ x → x < 26 → 0 ≤ y → y < 26 → 6 / (σ 22 (x * 26 + y) + 1) = P x y) (hcr : ∀ x y : Int, 0 ≤ x → x < 26 → 0 ≤ y → y < 26 → 0 ≤ σ 22 (x * 26 + y) ∧ σ 22 (x * 26 + y) ≤ 999) (hF : a + k < p → ∀ m s : Int, 0 ≤ m → m < 26 → 0 ≤ s → s ≤ ts → zTH σ (zhp (a + k) s m) (zSC f P p ts (a + k) s m (fun _ => True))) (hS0 : ∀ s2 : Int, 0 ≤ s2 → s2 ≤ ts → zTH σ (zhp a s2 l) (S s2)) : zAM 29 [.inr (.inr (6, 0)), .inr (.inr (3, 0)), .inl a, .inl k, .inl l, .inl c] σ (fun (v : Int) (u : zS) => zHX σ u a l ts ∧ ∀ s2 : Int, 0 ≤ s2 → s2 ≤ ts → zTH u (zhp a s2 l) (zEX f P p ts a k l S s2)) := by
  refine zam (by decide) (Nat.le_of_ble_eq_true rfl) ?_
  refine zwalk zmk_29 [(43, [true, true, true, true, true, true, true, false, false, false, false, false, false])] 3 ?_
  show (zI (a + k) ∧ ((¬ (a + k) = (σ 6 (3 : Int)) → zRuns 29 zX0 (fun (v : Int) (u : zS) => zHX σ u a l ts ∧ ∀ s2 : Int, 0 ≤ s2 → s2 ≤ ts → zTH u (zhp a s2 l) (zEX f P p ts a k l S s2)) 43 [some (.inr (.inr (6, 0))), some (.inr (.inr (3, 0))), some (.inl a), some (.inl k), some (.inl l), some (.inl c), some (.inl (0 : Int)), none, none, none, none, none, none] [] σ) ∧ ((a + k) = (σ 6 (3 : Int)) → (zI (k - (1 : Int)) ∧ (∃ Rc : Int → zS → Prop, zAM 27 [.inl a, .inl (min (σ 6 (4 : Int)) (k - (1 : Int))), .inl l] σ Rc ∧ ∀ (v1 : Int) (u1 : zS), zI v1 → Rc v1 u1 → (∃ Rc : Int → zS → Prop, zAM 89 [.inr (.inl (0 : Int)), .inl (0 : Int), .inl l] u1 Rc ∧ ∀ (v2 : Int) (u2 : zS), zJ v2 → Rc v2 u2 → (∃ Rc : Int → zS → Prop, zAM 32 [.inr (.inr (6, 0)), .inl v1, .inl c, .inr (.inl v2)] u2 Rc ∧ ∀ (u3 : zS), Rc 0 u3 → (zHX σ u3 a l ts ∧ ∀ s2 : Int, 0 ≤ s2 → s2 ≤ ts → zTH u3 (zhp a s2 l) (zEX f P p ts a k l S s2)))))))))
  have e3 : (32 : Int) ^ ((11 : Int) - 0).toNat = 36028797018963968 := by decide
  refine ⟨by (exact ⟨by omega, by omega⟩), ?_⟩
  refine ⟨?_, ?_⟩
  · intro h1
    exact lp_ext43 hbd ha hk hl hp hts hc hc0 h63 h64 hP hcr hF (by omega) 27 0 σ (by omega) (by omega) zHX.rf (fun s2 a0 a1 => (hS0 s2 a0 a1).congr (fun y e => zES_0 (by omega)))
  · intro h2
    refine ⟨by (exact ⟨by omega, by omega⟩), ?_⟩
    refine ⟨_, am_X4_heap (by omega), ?_⟩
    intro v1 u1 hv1
    rintro ⟨rfl, ev1⟩
    obtain ⟨hv1a, hv1b⟩ := hv1
    refine ⟨_, am_wordWith_lo (by rw [e3]; omega) (by omega), ?_⟩
    intro v2 u2 hv2
    rintro ⟨rfl, ev2⟩
    obtain ⟨hv2a, hv2b⟩ := hv2
    refine ⟨_, am_X4_offer (S := S (min ts (k - 1))) (by omega) (by rw [← ev1, h64]; exact hS0 (min ts (k - 1)) (by omega) (by omega)), ?_⟩
    intro u3
    intro kv3
    have ez : v1 = zhp a (min ts (k - 1)) l := by rw [← ev1, h64]; rfl
    have ew : v2 = (l + 1) * 36028797018963968 := by rw [← ev2, e3]; omega
    rw [ez, ew] at kv3
    refine ⟨zHX.rf.hf kv3.1 (by omega) (by omega), fun s2 a0 a1 => ?_⟩
    by_cases g : s2 = min ts (k - 1)
    · rw [g]
      refine kv3.2.congr (fun y e => ?_)
      have hz := zEX_last (a := a) (f := f) (P := P) (p := p) (ts := ts) (S := S) (y := y) (e := e) hk hl (by omega) (by omega) (rfl : min ts (k - 1) = min ts (k - 1))
      rw [← hc] at hz
      exact hz
    · refine (kv3.1.keep (fun q => ?_) (hS0 s2 a0 a1)).congr (fun y e => zEX_off (by omega) g)
      have := zhp_ne (by omega) (by omega) q
      omega
