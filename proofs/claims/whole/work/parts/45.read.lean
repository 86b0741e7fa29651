/-! the class's read -/
theorem zgk_r {f : Int → Int → Int → Int} {a : Int} {r : List (Int × Int)} (h : zgo f a r) (hr : r ≠ []) : (1 ≤ zgk r ∧ zgk r ≤ 3) ∧ zgk r ≤ zgl r ∧ 0 ≤ f a (zgk r) (zgh r) := by
  cases r with
  | nil => exact absurd rfl hr
  | cons q r =>
    have := zgl_len h.2
    simp only [zgk, zgh, zgl]
    exact ⟨⟨h.1.1, h.1.2.1⟩, by omega, h.1.2.2.2.2⟩
section
variable {f : Int → Int → Int → Int} {P : Int → Int → Int} {p ts a s k l m y e : Int}
/-- rests with lesser rows, or row k and lesser letters -/
def zrd (k m : Int) (r : List (Int × Int)) : Prop := zgk r < k ∨ zgk r = k ∧ zgh r < m
theorem zrd_0 : (fun (_ _ : Int) => False) y e ↔ zSC f P p ts a s l (zrd 1 0) y e := by
  constructor
  · exact fun q => q.elim
  · rintro ⟨r, g, q, -⟩
    have h1 := zgk_r g.1.1 g.2.1
    have h2 := zgh_r g.1.1 g.2.1
    unfold zrd at q
    omega
theorem zrd_row : zSC f P p ts a s l (zrd k 26) y e ↔ zSC f P p ts a s l (zrd (k + 1) 0) y e := by
  constructor
  · rintro ⟨r, g, q, h⟩
    have h2 := zgh_r g.1.1 g.2.1
    unfold zrd at q
    exact ⟨r, g, by unfold zrd; omega, h⟩
  · rintro ⟨r, g, q, h⟩
    have h2 := zgh_r g.1.1 g.2.1
    unfold zrd at q
    exact ⟨r, g, by unfold zrd; omega, h⟩
theorem zrd_end (hk : 3 < k ∨ p < a + k) : zSC f P p ts a s l (zrd k 0) y e ↔ zSC f P p ts a s l (fun _ => True) y e := by
  constructor
  · rintro ⟨r, g, q, h⟩
    exact ⟨r, g, trivial, h⟩
  · rintro ⟨r, g, q, h⟩
    have h1 := zgk_r g.1.1 g.2.1
    have h3 := g.1.2
    exact ⟨r, g, by unfold zrd; omega, h⟩
theorem zrd_off (hm : ¬ l = m ∨ f a k m < 0) : zSC f P p ts a s l (zrd k m) y e ↔ zSC f P p ts a s l (zrd k (m + 1)) y e := by
  constructor
  · rintro ⟨r, g, q, h⟩
    exact ⟨r, g, by unfold zrd at *; omega, h⟩
  · rintro ⟨r, g, q, h⟩
    refine ⟨r, g, ?_, h⟩
    have h1 := zgk_r g.1.1 g.2.1
    have h3 := g.2.2.1
    unfold zrd at *
    by_cases e1 : zgk r = k ∧ zgh r = m
    · rw [e1.1, e1.2] at h1
      omega
    · omega
theorem zrd_on : zEX f P p ts a k l (fun s2 => zSC f P p ts a s2 l (zrd k l)) s y e ↔ zSC f P p ts a s l (zrd k (l + 1)) y e := by
  constructor
  · rintro (⟨r, g, q, h⟩ | ⟨r, g, ⟨r', e1⟩, h⟩)
    · exact ⟨r, g, by unfold zrd at *; omega, h⟩
    · refine ⟨r, g, ?_, h⟩
      subst e1
      exact Or.inr ⟨rfl, by show l < l + 1; omega⟩
  · rintro ⟨r, g, q, h⟩
    by_cases e1 : zgk r = k
    · refine Or.inr ⟨r, g, ?_, h⟩
      cases r with
      | nil => exact absurd rfl g.2.1
      | cons c r =>
        obtain ⟨c1, c2⟩ := c
        have h3 : c2 = l := g.2.2.1
        have h4 : c1 = k := e1
        exact ⟨r, by rw [h3, h4]⟩
    · exact Or.inl ⟨r, g, by unfold zrd at *; omega, h⟩
end
/-- the heaps from a on (four places of them) are done -/
def zRF (f : Int → Int → Int → Int) (P : Int → Int → Int) (p ts a : Int) (t : zS) : Prop := ∀ b : Int, a < b → b ≤ a + 3 → b < p → ∀ s l : Int, 0 ≤ s → s ≤ ts → 0 ≤ l → l < 26 → zTH t (zhp b s l) (zSC f P p ts b s l (fun _ => True))
def zRA (f : Int → Int → Int → Int) (P : Int → Int → Int) (p ts a k m : Int) (t : zS) : Prop := ∀ s l : Int, 0 ≤ s → s ≤ ts → 0 ≤ l → l < 26 → zTH t (zhp a s l) (zSC f P p ts a s l (zrd k m))
set_option maxRecDepth 100000 in
set_option maxHeartbeats 4000000 in
theorem lp_rd76 {a : Int} {k : Int} {p : Int} {ts : Int} {f : Int → Int → Int → Int} {P : Int → Int → Int} {σ : zS} {R : Int → zS → Prop} (hbd : zgb f P p) (hp : 0 ≤ p ∧ p ≤ 14) (hts : ts = max 0 (p - 12)) (h63 : σ 6 3 = p) (h64 : σ 6 4 = ts) (hfc : ∀ a k l : Int, 0 ≤ a → 1 ≤ k → k ≤ 3 → a + k ≤ p → 0 ≤ l → l < 26 → σ 29 ((a * 3 + k - 1) * 26 + l) = f a k l ∧ -1 ≤ f a k l) (hP : ∀ x y : Int, 0 ≤ x → x < 26 → 0 ≤ y → y < 26 → 6 / (σ 22 (x * 26 + y) + 1) = P x y) (hcr : ∀ x y : Int, 0 ≤ x → x < 26 → 0 ≤ y → y < 26 → 0 ≤ σ 22 (x * 26 + y) ∧ σ 22 (x * 26 + y) ≤ 999) (ha : 0 ≤ a ∧ a < p) (hk : 1 ≤ k ∧ k ≤ 3) (hp2 : a + k ≤ p) (K : ∀ t : zS, zfr [30, 31, 32] σ t ∧ t 30 312 = 0 → zRF f P p ts a t → zRA f P p ts a (k + 1) 0 t → zRuns 26 zX0 R 56 [some (.inr (.inr (6, 0))), some (.inr (.inr (5, 0))), some (.inr (.inr (3, 0))), some (.inl a), some (.inl (k + 1)), none, none] [] t) : ∀ (n : Nat) (l : Int) (t : zS), 26 - l < (n : Int) → (0 ≤ l ∧ l ≤ 26) → (zfr [30, 31, 32] σ t ∧ t 30 312 = 0) → (zRF f P p ts a t) → (zRA f P p ts a k l t) → zRuns 26 zX0 (fun (v : Int) (u : zS) => R v u) 76 [some (.inr (.inr (6, 0))), some (.inr (.inr (5, 0))), some (.inr (.inr (3, 0))), some (.inl a), some (.inl k), some (.inl l), none] [] t := by
  intro n
  induction n with
  | zero =>
    intro l t hn l0 hf hRF hRA
    exfalso
    omega
  | succ n ih =>
    intro l t hn l0 hf hRF hRA
    refine zwalk zmk_26 [(39, [true, true, true, true, false, false, false]), (56, [true, true, true, true, true, false, false]), (76, [true, true, true, true, true, true, false])] 3 ?_
    show (((26 : Int) ≤ l → (zI (k + (1 : Int)) ∧ zRuns 26 zX0 (fun (v : Int) (u : zS) => R v u) 56 [some (.inr (.inr (6, 0))), some (.inr (.inr (5, 0))), some (.inr (.inr (3, 0))), some (.inl a), some (.inl (k + (1 : Int))), none, none] [] t)) ∧ (l < (26 : Int) → (∃ Rc : Int → zS → Prop, zAM 13 [.inr (.inr (5, 0)), .inl a, .inl k, .inl l] t Rc ∧ ∀ (v1 : Int) (u1 : zS), zI v1 → Rc v1 u1 → ((v1 = (-1 : Int) → (zI (l + (1 : Int)) ∧ zRuns 26 zX0 (fun (v : Int) (u : zS) => R v u) 76 [some (.inr (.inr (6, 0))), some (.inr (.inr (5, 0))), some (.inr (.inr (3, 0))), some (.inl a), some (.inl k), some (.inl (l + (1 : Int))), none] [] u1)) ∧ (¬ v1 = (-1 : Int) → (∃ Rc : Int → zS → Prop, zAM 29 [.inr (.inr (6, 0)), .inr (.inr (3, 0)), .inl a, .inl k, .inl l, .inl v1] u1 Rc ∧ ∀ (u2 : zS), Rc 0 u2 → (zI (l + (1 : Int)) ∧ zRuns 26 zX0 (fun (v : Int) (u : zS) => R v u) 76 [some (.inr (.inr (6, 0))), some (.inr (.inr (5, 0))), some (.inr (.inr (3, 0))), some (.inl a), some (.inl k), some (.inl (l + (1 : Int))), none] [] u2)))))))
    have e6 : t 6 = σ 6 := hf.1 6 (by decide)
    have e63 : t 6 3 = p := by rw [e6]; exact h63
    have e64 : t 6 4 = ts := by rw [e6]; exact h64
    have e22 : t 22 = σ 22 := hf.1 22 (by decide)
    have e29 : t 29 = σ 29 := hf.1 29 (by decide)
    refine ⟨?_, ?_⟩
    · intro h1
      refine ⟨by (exact ⟨by omega, by omega⟩), ?_⟩
      obtain rfl : l = 26 := by omega
      exact K t hf hRF (fun s9 l9 s0 s1 l0 l1 => (hRA s9 l9 s0 s1 l0 l1).congr (fun y e => zrd_row))
    · intro h2
      refine ⟨_, am_X1_cost (by omega), ?_⟩
      intro v1 u1 hv1
      rintro ⟨rfl, ev1⟩
      obtain ⟨hv1a, hv1b⟩ := hv1
      have hfq := hfc a k l ha.1 hk.1 hk.2 hp2 (by omega) (by omega)
      rw [e29, hfq.1] at ev1
      refine ⟨?_, ?_⟩
      · intro h3
        refine ⟨by (exact ⟨by omega, by omega⟩), ?_⟩
        refine ih (l + 1) t (by omega) ⟨by omega, by omega⟩ hf hRF (fun s9 l9 s0 s1 l0 l1 => (hRA s9 l9 s0 s1 l0 l1).congr (fun y e => zrd_off (Or.inr (by omega))))
      · intro h4
        refine ⟨_, am_X4_extend (f := f) (P := P) (p := p) (ts := ts) (S := fun s2 => zSC f P p ts a s2 l (zrd k l)) (hbd) (by omega) (hk) (by omega) (by omega) (hts) (ev1.symm) (by omega) (e63) (e64) (by (rw [e22]; exact hP)) (by (rw [e22]; exact hcr)) (fun q m s9 m0 m1 s0 s1 => hRF (a + k) (by omega) (by omega) q s9 m s0 s1 m0 m1) (fun s9 s0 s1 => hRA s9 l s0 s1 (by omega) (by omega)), ?_⟩
        intro u2
        intro kv2
        refine ⟨by (exact ⟨by omega, by omega⟩), ?_⟩
        have hx := kv2.1
        have hxf : zfr [30, 31, 32] σ u2 ∧ u2 30 312 = 0 := ⟨fun q hq => by rw [hx.1 q hq, hf.1 q hq], by rw [hx.2.1 312 (fun s9 a0 a1 => by have := zhp_r (a := a) (s := s9) (l := l) (by omega); omega)]; exact hf.2⟩
        refine ih (l + 1) u2 (by omega) ⟨by omega, by omega⟩ hxf (fun b b0 b1 b2 s9 l9 s0 s1 l0 l1 => ?_) (fun s9 l9 s0 s1 l0 l1 => ?_)
        · refine hx.keep (fun s8 a0 a1 q => ?_) (hRF b b0 b1 b2 s9 l9 s0 s1 l0 l1)
          have := zhp_ne (by omega) (by omega) q
          omega
        · by_cases g : l9 = l
          · rw [g]
            exact (kv2.2 s9 s0 s1).congr (fun y e => zrd_on)
          · refine (hx.keep (fun s8 a0 a1 q => ?_) (hRA s9 l9 s0 s1 l0 l1)).congr (fun y e => zrd_off (Or.inl g))
            have := zhp_ne (by omega) (by omega) q
            omega
set_option maxRecDepth 100000 in
set_option maxHeartbeats 4000000 in
theorem lp_rd56 {a : Int} {p : Int} {ts : Int} {f : Int → Int → Int → Int} {P : Int → Int → Int} {σ : zS} {R : Int → zS → Prop} (hbd : zgb f P p) (hp : 0 ≤ p ∧ p ≤ 14) (hts : ts = max 0 (p - 12)) (h63 : σ 6 3 = p) (h64 : σ 6 4 = ts) (hfc : ∀ a k l : Int, 0 ≤ a → 1 ≤ k → k ≤ 3 → a + k ≤ p → 0 ≤ l → l < 26 → σ 29 ((a * 3 + k - 1) * 26 + l) = f a k l ∧ -1 ≤ f a k l) (hP : ∀ x y : Int, 0 ≤ x → x < 26 → 0 ≤ y → y < 26 → 6 / (σ 22 (x * 26 + y) + 1) = P x y) (hcr : ∀ x y : Int, 0 ≤ x → x < 26 → 0 ≤ y → y < 26 → 0 ≤ σ 22 (x * 26 + y) ∧ σ 22 (x * 26 + y) ≤ 999) (ha : 0 ≤ a ∧ a < p) (K : ∀ t : zS, zfr [30, 31, 32] σ t ∧ t 30 312 = 0 → zRF f P p ts a t → (∀ s l : Int, 0 ≤ s → s ≤ ts → 0 ≤ l → l < 26 → zTH t (zhp a s l) (zSC f P p ts a s l (fun _ => True))) → zRuns 26 zX0 R 39 [some (.inr (.inr (6, 0))), some (.inr (.inr (5, 0))), some (.inr (.inr (3, 0))), some (.inl (a + -1)), none, none, none] [] t) : ∀ (n : Nat) (k : Int) (t : zS), 4 - k < (n : Int) → (1 ≤ k ∧ k ≤ 4) → (zfr [30, 31, 32] σ t ∧ t 30 312 = 0) → (zRF f P p ts a t) → (zRA f P p ts a k 0 t) → zRuns 26 zX0 (fun (v : Int) (u : zS) => R v u) 56 [some (.inr (.inr (6, 0))), some (.inr (.inr (5, 0))), some (.inr (.inr (3, 0))), some (.inl a), some (.inl k), none, none] [] t := by
  intro n
  induction n with
  | zero =>
    intro k t hn k0 hf hRF hRA
    exfalso
    omega
  | succ n ih =>
    intro k t hn k0 hf hRF hRA
    refine zwalk zmk_26 [(39, [true, true, true, true, false, false, false]), (56, [true, true, true, true, true, false, false]), (76, [true, true, true, true, true, true, false])] 3 ?_
    show (((3 : Int) < k → (zI (a + (-1 : Int)) ∧ zRuns 26 zX0 (fun (v : Int) (u : zS) => R v u) 39 [some (.inr (.inr (6, 0))), some (.inr (.inr (5, 0))), some (.inr (.inr (3, 0))), some (.inl (a + (-1 : Int))), none, none, none] [] t)) ∧ (k ≤ (3 : Int) → (zI (a + k) ∧ (((t 6 (3 : Int)) < (a + k) → (zI (a + (-1 : Int)) ∧ zRuns 26 zX0 (fun (v : Int) (u : zS) => R v u) 39 [some (.inr (.inr (6, 0))), some (.inr (.inr (5, 0))), some (.inr (.inr (3, 0))), some (.inl (a + (-1 : Int))), none, none, none] [] t)) ∧ ((a + k) ≤ (t 6 (3 : Int)) → zRuns 26 zX0 (fun (v : Int) (u : zS) => R v u) 76 [some (.inr (.inr (6, 0))), some (.inr (.inr (5, 0))), some (.inr (.inr (3, 0))), some (.inl a), some (.inl k), some (.inl (0 : Int)), none] [] t)))))
    have e6 : t 6 = σ 6 := hf.1 6 (by decide)
    have e63 : t 6 3 = p := by rw [e6]; exact h63
    have e64 : t 6 4 = ts := by rw [e6]; exact h64
    have e22 : t 22 = σ 22 := hf.1 22 (by decide)
    have e29 : t 29 = σ 29 := hf.1 29 (by decide)
    refine ⟨?_, ?_⟩
    · intro h1
      refine ⟨by (exact ⟨by omega, by omega⟩), ?_⟩
      exact K t hf hRF (fun s9 l9 s0 s1 l0 l1 => (hRA s9 l9 s0 s1 l0 l1).congr (fun y e => zrd_end (by omega)))
    · intro h2
      refine ⟨by (exact ⟨by omega, by omega⟩), ?_⟩
      refine ⟨?_, ?_⟩
      · intro h3
        refine ⟨by (exact ⟨by omega, by omega⟩), ?_⟩
        exact K t hf hRF (fun s9 l9 s0 s1 l0 l1 => (hRA s9 l9 s0 s1 l0 l1).congr (fun y e => zrd_end (by omega)))
      · intro h4
        exact lp_rd76 hbd hp hts h63 h64 hfc hP hcr ha ⟨by omega, by omega⟩ (by omega) (fun t9 g1 g2 g3 => ih (k + 1) t9 (by omega) ⟨by omega, by omega⟩ g1 g2 g3) 27 0 t (by omega) ⟨by omega, by omega⟩ hf hRF hRA
set_option maxRecDepth 100000 in
set_option maxHeartbeats 4000000 in
theorem lp_rd39 {p : Int} {ts : Int} {f : Int → Int → Int → Int} {P : Int → Int → Int} {σ : zS} (hbd : zgb f P p) (hp : 0 ≤ p ∧ p ≤ 14) (hts : ts = max 0 (p - 12)) (h63 : σ 6 3 = p) (h64 : σ 6 4 = ts) (hfc : ∀ a k l : Int, 0 ≤ a → 1 ≤ k → k ≤ 3 → a + k ≤ p → 0 ≤ l → l < 26 → σ 29 ((a * 3 + k - 1) * 26 + l) = f a k l ∧ -1 ≤ f a k l) (hP : ∀ x y : Int, 0 ≤ x → x < 26 → 0 ≤ y → y < 26 → 6 / (σ 22 (x * 26 + y) + 1) = P x y) (hcr : ∀ x y : Int, 0 ≤ x → x < 26 → 0 ≤ y → y < 26 → 0 ≤ σ 22 (x * 26 + y) ∧ σ 22 (x * 26 + y) ≤ 999) : ∀ (n : Nat) (a : Int) (t : zS), a + 1 < (n : Int) → (-1 ≤ a ∧ a < p) → (zfr [30, 31, 32] σ t ∧ t 30 312 = 0) → (zRF f P p ts a t) → zRuns 26 zX0 (fun (v : Int) (u : zS) => zfr [30, 31, 32] σ u ∧ zTH u 312 (zSD f P p)) 39 [some (.inr (.inr (6, 0))), some (.inr (.inr (5, 0))), some (.inr (.inr (3, 0))), some (.inl a), none, none, none] [] t := by
  intro n
  induction n with
  | zero =>
    intro a t hn a0 hf hRF
    exfalso
    omega
  | succ n ih =>
    intro a t hn a0 hf hRF
    refine zwalk zmk_26 [(39, [true, true, true, true, false, false, false]), (56, [true, true, true, true, true, false, false]), (76, [true, true, true, true, true, true, false])] 3 ?_
    show ((a < 0 → (∃ Rc : Int → zS → Prop, zAM 31 [.inr (.inr (6, 0))] t Rc ∧ ∀ (u1 : zS), Rc 0 u1 → (zfr [30, 31, 32] σ u1 ∧ zTH u1 312 (zSD f P p)))) ∧ (0 ≤ a → (∃ Rc : Int → zS → Prop, zAM 27 [.inl a, .inl (0 : Int), .inl (0 : Int)] t Rc ∧ ∀ (v2 : Int) (u2 : zS), zI v2 → Rc v2 u2 → (∃ Rc : Int → zS → Prop, zAM 28 [.inr (.inr (6, 0)), .inl v2] u2 Rc ∧ ∀ (u3 : zS), Rc 0 u3 → zRuns 26 zX0 (fun (v : Int) (u : zS) => zfr [30, 31, 32] σ u ∧ zTH u 312 (zSD f P p)) 56 [some (.inr (.inr (6, 0))), some (.inr (.inr (5, 0))), some (.inr (.inr (3, 0))), some (.inl a), some (.inl (1 : Int)), none, none] [] u3))))
    have e6 : t 6 = σ 6 := hf.1 6 (by decide)
    have e63 : t 6 3 = p := by rw [e6]; exact h63
    have e64 : t 6 4 = ts := by rw [e6]; exact h64
    have e22 : t 22 = σ 22 := hf.1 22 (by decide)
    have e29 : t 29 = σ 29 := hf.1 29 (by decide)
    refine ⟨?_, ?_⟩
    · intro h1
      refine ⟨_, am_X4_gatherWhole (p := p) (ts := ts) (A := fun l => zSC f P p ts 0 ts l (fun _ => True)) (by omega) (e63) (e64) (fun q l l0 l1 => hRF 0 (by omega) (by omega) q ts l (by omega) (by omega) l0 l1) (hf.2), ?_⟩
      intro u1
      intro kv1
      exact ⟨fun q hq => by rw [kv1.1.1 q hq, hf.1 q hq], kv1.2.congr (fun y e => zSD_iff hts)⟩
    · intro h2
      refine ⟨_, am_X4_heap (by omega), ?_⟩
      intro v2 u2 hv2
      rintro ⟨rfl, ev2⟩
      obtain ⟨hv2a, hv2b⟩ := hv2
      refine ⟨_, am_X4_clear (by omega), ?_⟩
      intro u3
      rintro rfl
      obtain rfl : v2 = zhp a 0 0 := ev2.symm
      refine lp_rd56 hbd hp hts h63 h64 hfc hP hcr ⟨by omega, by omega⟩ (fun t9 g1 g2 g3 => ih (a + -1) t9 (by omega) ⟨by omega, by omega⟩ g1 (fun b b0 b1 b2 s9 l9 s0 s1 l0 l1 => ?_)) 4 1 _ (by omega) ⟨by omega, by omega⟩ ⟨fun q hq => ?_, ?_⟩ (fun b b0 b1 b2 s9 l9 s0 s1 l0 l1 => ?_) (fun s9 l9 s0 s1 l0 l1 => ?_)
      · by_cases g : b = a
        · rw [g]; exact g3 s9 l9 s0 s1 l0 l1
        · exact g2 b (by omega) (by omega) b2 s9 l9 s0 s1 l0 l1
      · rw [← hf.1 q hq]
        funext x
        exact if_neg (fun z => hq (by rw [z.1]; decide))
      · rw [← hf.2]
        exact if_neg (fun z => by have := zhp_r (a := a) (s := 2) (l := 25) (by omega); unfold zhp at *; omega)
      · refine zTH_cln (fun z => ?_) (hRF b b0 b1 b2 s9 l9 s0 s1 l0 l1)
        unfold zhp at z
        omega
      · exact (zTH_clr (by omega)).congr (fun y e => zrd_0)
set_option maxRecDepth 100000 in
set_option maxHeartbeats 4000000 in
theorem am_X4_read {σ : zS} {f : Int → Int → Int → Int} {P : Int → Int → Int} {p : Int} (hbd : zgb f P p) (hp : 0 ≤ p ∧ p ≤ 14) (h51 : σ 5 1 = p) (hfc : ∀ a k l : Int, 0 ≤ a → 1 ≤ k → k ≤ 3 → a + k ≤ p → 0 ≤ l → l < 26 → σ 29 ((a * 3 + k - 1) * 26 + l) = f a k l ∧ -1 ≤ f a k l) (hP : ∀ x y : Int, 0 ≤ x → x < 26 → 0 ≤ y → y < 26 → 6 / (σ 22 (x * 26 + y) + 1) = P x y) (hcr : ∀ x y : Int, 0 ≤ x → x < 26 → 0 ≤ y → y < 26 → 0 ≤ σ 22 (x * 26 + y) ∧ σ 22 (x * 26 + y) ≤ 999) : zAM 26 [.inr (.inr (6, 0)), .inr (.inr (5, 0)), .inr (.inr (3, 0))] σ (fun (v : Int) (u : zS) => zfr [6, 30, 31, 32] σ u ∧ zTH u 312 (zSD f P p)) := by
  refine zam (by decide) (Nat.le_of_ble_eq_true rfl) ?_
  refine zwalk zmk_26 [(39, [true, true, true, true, false, false, false])] 2 ?_
  show (zI ((σ 5 (1 : Int)) - (12 : Int)) ∧ ((0 ≤ (312 : Int) ∧ (312 : Int) < (313 : Int)) ∧ (zI ((σ 5 (1 : Int)) - (1 : Int)) ∧ zRuns 26 zX0 (fun (v : Int) (u : zS) => zfr [6, 30, 31, 32] σ u ∧ zTH u 312 (zSD f P p)) 39 [some (.inr (.inr (6, 0))), some (.inr (.inr (5, 0))), some (.inr (.inr (3, 0))), some (.inl ((σ 5 (1 : Int)) - (1 : Int))), none, none, none] [] (zup (zup (zup σ 6 (3 : Int) (σ 5 (1 : Int))) 6 (4 : Int) (max (0 : Int) ((σ 5 (1 : Int)) - (12 : Int)))) 30 (312 : Int) (0 : Int)))))
  refine ⟨by (exact ⟨by omega, by omega⟩), ?_⟩
  refine ⟨by (omega), ?_⟩
  refine ⟨by (exact ⟨by omega, by omega⟩), ?_⟩
  refine (lp_rd39 (σ := zup (zup (zup σ 6 3 (σ 5 1)) 6 4 (max 0 (σ 5 1 - 12))) 30 312 0) (ts := max 0 (p - 12)) hbd hp rfl (by rw [← h51]; rfl) (by rw [← h51]; rfl) hfc hP hcr 16 _ _ (by omega) ⟨by omega, by omega⟩ ⟨zfr.rf, rfl⟩ (fun b b0 b1 b2 => by omega)).mono (fun v u q => ⟨fun k hk => ?_, q.2⟩)
  rw [q.1 k (fun z => hk (List.mem_cons_of_mem _ z)), zup_ne (fun z => hk (by rw [z]; decide)), zup_ne (fun z => hk (by rw [z]; decide)), zup_ne (fun z => hk (by rw [z]; decide))]
