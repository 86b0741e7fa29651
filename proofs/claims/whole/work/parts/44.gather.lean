/-! the class's clear, gatherWhole, read, tell -/
def zgk : List (Int × Int) → Int
  | [] => 0
  | p :: _ => p.1
theorem zTH_clr {t : zS} {a s l : Int} (h : 0 ≤ s ∧ s ≤ 2 ∧ 0 ≤ l ∧ l < 26) : zTH (zfill t 30 (zhp a 0 0) 78 0) (zhp a s l) (fun _ _ => False) := by
  have e : (zfill t 30 (zhp a 0 0) 78 0) 30 (zhp a s l) = 0 := if_pos ⟨rfl, by unfold zhp; omega, by unfold zhp; omega⟩
  unfold zTH
  rw [e]
  exact zTop_0
theorem zTH_cln {t : zS} {a h : Int} {A : Int → Int → Prop} (hh : ¬ (zhp a 0 0 ≤ h ∧ h < zhp a 0 0 + 78)) (hA : zTH t h A) : zTH (zfill t 30 (zhp a 0 0) 78 0) h A := by
  have e : (zfill t 30 (zhp a 0 0) 78 0) 30 h = t 30 h := if_neg (fun q => hh q.2)
  unfold zTH at *
  rw [e]
  exact hA.arr (fun i _ _ => ⟨if_neg (fun q => absurd q.1 (by decide)), if_neg (fun q => absurd q.1 (by decide))⟩)
/-- the first n of heap b, too -/
def zKT (τ : zS) (b n : Int) (S : Int → Int → Prop) (y e : Int) : Prop := S y e ∨ ∃ i : Int, 0 ≤ i ∧ i < n ∧ y = τ 32 (b * 5 + i) ∧ e = τ 31 (b * 5 + i)
theorem zKT_0 {τ : zS} {b : Int} {S : Int → Int → Prop} {y e : Int} : S y e ↔ zKT τ b 0 S y e := by
  constructor
  · exact Or.inl
  · rintro (q | ⟨i, i0, i1, -⟩)
    · exact q
    · omega
theorem zKT_s {τ : zS} {b n : Int} {S : Int → Int → Prop} {y e : Int} (n0 : 0 ≤ n) : (zKT τ b n S y e ∨ y = τ 32 (b * 5 + n) ∧ e = τ 31 (b * 5 + n)) ↔ zKT τ b (n + 1) S y e := by
  constructor
  · rintro ((q | ⟨i, i0, i1, r⟩) | q)
    · exact Or.inl q
    · exact Or.inr ⟨i, i0, by omega, r⟩
    · exact Or.inr ⟨n, n0, by omega, q⟩
  · rintro (q | ⟨i, i0, i1, r⟩)
    · exact Or.inl (Or.inl q)
    · by_cases g : i = n
      · rw [g] at r; exact Or.inr r
      · exact Or.inl (Or.inr ⟨i, i0, by omega, r⟩)
theorem zKT_all {τ t : zS} {b h : Int} {S A : Int → Int → Prop} (hB : zTH τ b A) (hS : zTH t h (zKT τ b (τ 30 b) S)) : zTH t h (fun y e => S y e ∨ A y e) := by
  refine zTop.ext (φ := fun x => x) (δ := 0) (A := A) (S := S) hB (fun x d y e _ _ q => q) (zTop.congr hS (fun y e => ?_)) (fun y e => ?_)
  · constructor
    · rintro (q | ⟨i, i0, i1, r1, r2⟩)
      · exact Or.inl q
      · exact Or.inr ⟨i, i0, i1, r1, by omega⟩
    · rintro (q | ⟨i, i0, i1, r1, r2⟩)
      · exact Or.inl q
      · exact Or.inr ⟨i, i0, i1, r1, by omega⟩
  · constructor
    · rintro (q | q)
      · exact Or.inl q
      · exact Or.inr ⟨y, e, q, rfl, by omega⟩
    · rintro (q | ⟨x, d, q, r1, r2⟩)
      · exact Or.inl q
      · obtain rfl : e = d := by omega
        rw [r1]
        exact Or.inr q
theorem zSD_iff {f : Int → Int → Int → Int} {P : Int → Int → Int} {p ts y e : Int} (hts : ts = max 0 (p - 12)) : (0 < p ∧ ∃ l : Int, 0 ≤ l ∧ l < 26 ∧ zSC f P p ts 0 ts l (fun _ => True) y e) ↔ zSD f P p y e := by
  constructor
  · rintro ⟨hp, l, l0, l1, r, ⟨⟨g1, g2⟩, g3, g4, g5, g6⟩, -, e1, e2⟩
    exact ⟨r, ⟨⟨g1, by omega⟩, g3, g5⟩, e1, e2⟩
  · rintro ⟨r, ⟨⟨g1, g2⟩, g3, g5⟩, e1, e2⟩
    have h1 := zgl_pos g1 g3
    have h2 := zgh_r g1 g3
    have h3 := zgl_len g1
    exact ⟨by omega, zgh r, h2.1, h2.2, r, ⟨⟨g1, by omega⟩, g3, rfl, g5, by omega⟩, trivial, e1, e2⟩
set_option maxRecDepth 100000 in
set_option maxHeartbeats 4000000 in
theorem lp_clear {b : Int} {τ : zS} (hb : 0 ≤ b ∧ b ≤ 234) : ∀ (n : Nat) (j : Int) (s : zS), b + 78 - j < (n : Int) → (b ≤ j ∧ j ≤ b + 78) → (s = zfill τ 30 b (j - b) 0) → zRuns 28 zX0 (fun (v : Int) (u : zS) => zfill τ 30 b 78 0 = u) 2 [some (.inr (.inr (6, 0))), some (.inl b), some (.inl j)] [] s := by
  intro n
  induction n with
  | zero =>
    intro j s hn j0 hs
    exfalso
    omega
  | succ n ih =>
    intro j s hn j0 hs
    refine zwalk zmk_28 [(2, [true, true, true])] 3 ?_
    show (zI (b + (78 : Int)) ∧ (((b + (78 : Int)) ≤ j → (zfill τ 30 b 78 0 = s)) ∧ (j < (b + (78 : Int)) → ((0 ≤ j ∧ j < (313 : Int)) ∧ (zI (j + (1 : Int)) ∧ zRuns 28 zX0 (fun (v : Int) (u : zS) => zfill τ 30 b 78 0 = u) 2 [some (.inr (.inr (6, 0))), some (.inl b), some (.inl (j + (1 : Int)))] [] (zup s 30 j (0 : Int)))))))
    refine ⟨by (first | exact ⟨by omega, by omega⟩ | (exfalso; omega)), ?_⟩
    refine ⟨?_, ?_⟩
    · intro h1
      rw [show j - b = 78 by omega] at hs
      exact hs.symm
    · intro h2
      refine ⟨by (first | exact ⟨by omega, by omega⟩ | (exfalso; omega)), ?_⟩
      refine ⟨by (first | exact ⟨by omega, by omega⟩ | (exfalso; omega)), ?_⟩
      refine ih _ _ (by omega) (by omega) ?_
      rw [hs]
      have q := zfill_s (σ := τ) (k := 30) (o := b) (n := j - b) (v := 0) (by omega)
      rw [show b + (j - b) = j by omega] at q
      rw [q, show j + 1 - b = j - b + 1 by omega]
set_option maxRecDepth 100000 in
set_option maxHeartbeats 4000000 in
theorem am_X4_clear {σ : zS} {b : Int} (hb : 0 ≤ b ∧ b ≤ 234) : zAM 28 [.inr (.inr (6, 0)), .inl b] σ (fun (v : Int) (u : zS) => zfill σ 30 b 78 0 = u) := by
  refine zam (by decide) (Nat.le_of_ble_eq_true rfl) ?_
  refine zwalk zmk_28 [(2, [true, true, true])] 2 ?_
  show zRuns 28 zX0 (fun (v : Int) (u : zS) => zfill σ 30 b 78 0 = u) 2 [some (.inr (.inr (6, 0))), some (.inl b), some (.inl b)] [] σ
  exact lp_clear (τ := σ) hb 79 b σ (by omega) ⟨by omega, by omega⟩ (by rw [show b - b = 0 by omega, zfill_0])
set_option maxRecDepth 100000 in
set_option maxHeartbeats 4000000 in
theorem lp_gw29 {l : Int} {b : Int} {S : Int → Int → Prop} {A : Int → Int → Prop} {τ : zS} {R : Int → zS → Prop} (hb : 0 ≤ b ∧ b < 312) (hl : 0 ≤ l ∧ l < 26) (hB : zTH τ b A) (K : ∀ t : zS, zHF τ t 312 → zTH t 312 (fun y e => S y e ∨ A y e) → zRuns 31 zX0 R 2 [some (.inr (.inr (6, 0))), some (.inl (l + 1)), none, none] [] t) : ∀ (n : Nat) (j : Int) (t : zS), b * 5 + τ 30 b - j < (n : Int) → (b * 5 ≤ j ∧ j ≤ b * 5 + τ 30 b) → (zHF τ t 312) → (zTH t 312 (zKT τ b (j - b * 5) S)) → zRuns 31 zX0 (fun (v : Int) (u : zS) => R v u) 29 [some (.inr (.inr (6, 0))), some (.inl l), some (.inl b), some (.inl j)] [] t := by
  intro n
  induction n with
  | zero =>
    intro j t hn j0 hf hS
    exfalso
    omega
  | succ n ih =>
    intro j t hn j0 hf hS
    refine zwalk zmk_31 [(2, [true, true, false, false]), (29, [true, true, true, true])] 3 ?_
    show (zI (b * (5 : Int)) ∧ ((0 ≤ b ∧ b < (313 : Int)) ∧ (zI ((b * (5 : Int)) + (t 30 b)) ∧ ((((b * (5 : Int)) + (t 30 b)) ≤ j → (zI (l + (1 : Int)) ∧ zRuns 31 zX0 (fun (v : Int) (u : zS) => R v u) 2 [some (.inr (.inr (6, 0))), some (.inl (l + (1 : Int))), none, none] [] t)) ∧ (j < ((b * (5 : Int)) + (t 30 b)) → ((0 ≤ j ∧ j < (1565 : Int)) ∧ ((0 ≤ j ∧ j < (1565 : Int)) ∧ (∃ Rc : Int → zS → Prop, zAM 32 [.inr (.inr (6, 0)), .inl (312 : Int), .inl (t 31 j), .inr (.inl (t 32 j))] t Rc ∧ ∀ (u1 : zS), Rc 0 u1 → (zI (j + (1 : Int)) ∧ zRuns 31 zX0 (fun (v : Int) (u : zS) => R v u) 29 [some (.inr (.inr (6, 0))), some (.inl l), some (.inl b), some (.inl (j + (1 : Int)))] [] u1)))))))))
    have hn := hB.1
    have eb : t 30 b = τ 30 b := hf.2.1 b (by omega)
    have fj : j < b * 5 + τ 30 b → t 31 j = τ 31 j ∧ t 32 j = τ 32 j := fun q => hf.2.2 j (by omega)
    refine ⟨by (first | exact ⟨by omega, by omega⟩ | (exfalso; omega)), ?_⟩
    refine ⟨by (first | exact ⟨by omega, by omega⟩ | (exfalso; omega)), ?_⟩
    refine ⟨by (first | exact ⟨by omega, by omega⟩ | (exfalso; omega)), ?_⟩
    refine ⟨?_, ?_⟩
    · intro h1
      refine ⟨by (first | exact ⟨by omega, by omega⟩ | (exfalso; omega)), ?_⟩
      exact K t hf (zKT_all hB (by rw [show j - b * 5 = τ 30 b by omega] at hS; exact hS))
    · intro h2
      refine ⟨by (first | exact ⟨by omega, by omega⟩ | (exfalso; omega)), ?_⟩
      refine ⟨by (first | exact ⟨by omega, by omega⟩ | (exfalso; omega)), ?_⟩
      refine ⟨_, am_X4_offer (by omega) (hS), ?_⟩
      intro u1
      intro kv1
      refine ⟨by (first | exact ⟨by omega, by omega⟩ | (exfalso; omega)), ?_⟩
      refine ih (j + 1) u1 (by omega) (by omega) (hf.trans kv1.1) (kv1.2.congr (fun y e => ?_))
      have q := fj (by omega)
      rw [q.1, q.2]
      have hz := zKT_s (τ := τ) (b := b) (n := j - b * 5) (S := S) (y := y) (e := e) (by omega)
      rw [show b * 5 + (j - b * 5) = j by omega] at hz
      rw [show j + 1 - b * 5 = j - b * 5 + 1 by omega]
      exact hz
set_option maxRecDepth 100000 in
set_option maxHeartbeats 4000000 in
theorem lp_gw2 {p : Int} {ts : Int} {A : Int → Int → Int → Prop} {σ : zS} (hts : 0 ≤ ts ∧ ts ≤ 2) (h63 : σ 6 3 = p) (h64 : σ 6 4 = ts) (hA : 0 < p → ∀ l : Int, 0 ≤ l → l < 26 → zTH σ (zhp 0 ts l) (A l)) : ∀ (n : Nat) (l : Int) (t : zS), 26 - l < (n : Int) → (0 ≤ l ∧ l ≤ 26) → (zHF σ t 312) → (zTH t 312 (fun y e => 0 < p ∧ ∃ m : Int, 0 ≤ m ∧ m < l ∧ A m y e)) → zRuns 31 zX0 (fun (v : Int) (u : zS) => zHF σ u 312 ∧ zTH u 312 (fun y e => 0 < p ∧ ∃ l : Int, 0 ≤ l ∧ l < 26 ∧ A l y e)) 2 [some (.inr (.inr (6, 0))), some (.inl l), none, none] [] t := by
  intro n
  induction n with
  | zero =>
    intro l t hn l0 hf hS
    exfalso
    omega
  | succ n ih =>
    intro l t hn l0 hf hS
    refine zwalk zmk_31 [(2, [true, true, false, false]), (29, [true, true, true, true])] 3 ?_
    show (((t 6 (3 : Int)) ≤ 0 → (zHF σ t 312 ∧ zTH t 312 (fun y e => 0 < p ∧ ∃ l : Int, 0 ≤ l ∧ l < 26 ∧ A l y e))) ∧ (0 < (t 6 (3 : Int)) → (((26 : Int) ≤ l → (zHF σ t 312 ∧ zTH t 312 (fun y e => 0 < p ∧ ∃ l : Int, 0 ≤ l ∧ l < 26 ∧ A l y e))) ∧ (l < (26 : Int) → (∃ Rc : Int → zS → Prop, zAM 27 [.inl (0 : Int), .inl (t 6 (4 : Int)), .inl l] t Rc ∧ ∀ (v1 : Int) (u1 : zS), zI v1 → Rc v1 u1 → (zI (v1 * (5 : Int)) ∧ zRuns 31 zX0 (fun (v : Int) (u : zS) => zHF σ u 312 ∧ zTH u 312 (fun y e => 0 < p ∧ ∃ l : Int, 0 ≤ l ∧ l < 26 ∧ A l y e)) 29 [some (.inr (.inr (6, 0))), some (.inl l), some (.inl v1), some (.inl (v1 * (5 : Int)))] [] u1))))))
    have e63 : t 6 3 = p := by rw [hf.1 6 (by decide)]; exact h63
    have e64 : t 6 4 = ts := by rw [hf.1 6 (by decide)]; exact h64
    refine ⟨?_, ?_⟩
    · intro h1
      exact ⟨hf, hS.congr (fun y e => ⟨fun q => absurd q.1 (by omega), fun q => absurd q.1 (by omega)⟩)⟩
    · intro h2
      refine ⟨?_, ?_⟩
      · intro h3
        obtain rfl : l = 26 := by omega
        exact ⟨hf, hS⟩
      · intro h4
        refine ⟨_, am_X4_heap (by omega), ?_⟩
        intro v1 u1 hv1
        rintro ⟨rfl, ev1⟩
        obtain ⟨hv1a, hv1b⟩ := hv1
        refine ⟨by (first | exact ⟨by omega, by omega⟩ | (exfalso; omega)), ?_⟩
        obtain rfl : v1 = zhp 0 ts l := by rw [← ev1, e64]; rfl
        have gr := zhp_r (a := 0) (s := ts) (l := l) (by omega)
        have hB := hf.keep (h' := zhp 0 ts l) (by omega) (hA (by omega) l (by omega) (by omega))
        have hBn := hB.1
        refine lp_gw29 (S := fun y e => 0 < p ∧ ∃ m : Int, 0 ≤ m ∧ m < l ∧ A m y e) (by omega) (by omega) hB (fun t' hf' hS' => ?_) 6 _ t (by omega) ⟨by omega, by omega⟩ zHF.rf (hS.congr (fun y e => ?_))
        · refine ih (l + 1) t' (by omega) ⟨by omega, by omega⟩ (hf.trans hf') (hS'.congr (fun y e => ?_))
          constructor
          · rintro (⟨q1, m, m0, m1, q⟩ | q)
            · exact ⟨q1, m, m0, by omega, q⟩
            · exact ⟨by omega, l, by omega, by omega, q⟩
          · rintro ⟨q1, m, m0, m1, q⟩
            by_cases g : m = l
            · rw [g] at q; exact Or.inr q
            · exact Or.inl ⟨q1, m, m0, by omega, q⟩
        · rw [show zhp 0 ts l * 5 - zhp 0 ts l * 5 = 0 by omega]; exact zKT_0 (S := fun y e => 0 < p ∧ ∃ m : Int, 0 ≤ m ∧ m < l ∧ A m y e)
set_option maxRecDepth 100000 in
set_option maxHeartbeats 4000000 in
theorem am_X4_gatherWhole {σ : zS} {p : Int} {ts : Int} {A : Int → Int → Int → Prop} (hts : 0 ≤ ts ∧ ts ≤ 2) (h63 : σ 6 3 = p) (h64 : σ 6 4 = ts) (hA : 0 < p → ∀ l : Int, 0 ≤ l → l < 26 → zTH σ (zhp 0 ts l) (A l)) (h0 : σ 30 312 = 0) : zAM 31 [.inr (.inr (6, 0))] σ (fun (v : Int) (u : zS) => zHF σ u 312 ∧ zTH u 312 (fun y e => 0 < p ∧ ∃ l : Int, 0 ≤ l ∧ l < 26 ∧ A l y e)) := by
  refine zam (by decide) (Nat.le_of_ble_eq_true rfl) ?_
  refine zwalk zmk_31 [(2, [true, true, false, false]), (29, [true, true, true, true])] 2 ?_
  show zRuns 31 zX0 (fun (v : Int) (u : zS) => zHF σ u 312 ∧ zTH u 312 (fun y e => 0 < p ∧ ∃ l : Int, 0 ≤ l ∧ l < 26 ∧ A l y e)) 2 [some (.inr (.inr (6, 0))), some (.inl (0 : Int)), none, none] [] σ
  refine lp_gw2 hts h63 h64 hA 27 0 σ (by omega) ⟨by omega, by omega⟩ zHF.rf ?_
  unfold zTH
  rw [h0]
  exact zTop_0.congr (fun y e => ⟨fun q => q.elim, fun ⟨_, m, m0, m1, _⟩ => by omega⟩)
set_option maxRecDepth 100000 in
set_option maxHeartbeats 4000000 in
theorem lp_tell {x : Int} {σ : zS} (hn : 0 ≤ σ 30 312 ∧ σ 30 312 ≤ 5) : ∀ (n : Nat) (j : Int), σ 30 312 - j < (n : Int) → (0 ≤ j ∧ j ≤ σ 30 312) → (∀ i : Int, 0 ≤ i → i < j → ¬ σ 32 (1560 + i) = x) → zRuns 38 zX0 (fun (v : Int) (u : zS) => σ = u ∧ (v = 1 ∧ (∃ i : Int, 0 ≤ i ∧ i < σ 30 312 ∧ σ 32 (1560 + i) = x) ∨ v = 0 ∧ ¬ ∃ i : Int, 0 ≤ i ∧ i < σ 30 312 ∧ σ 32 (1560 + i) = x)) 2 [some (.inr (.inr (6, 0))), some (.inr (.inl x)), none, some (.inl j)] [] σ := by
  intro n
  induction n with
  | zero =>
    intro j hn j0 hj
    exfalso
    omega
  | succ n ih =>
    intro j hn j0 hj
    refine zwalk zmk_38 [(2, [true, true, false, true])] 3 ?_
    show (∃ Rc : Int → zS → Prop, zAM 35 [.inr (.inr (6, 0))] σ Rc ∧ ∀ (v1 : Int) (u1 : zS), zI v1 → Rc v1 u1 → ((v1 ≤ j → (((0 : Int) = 0 ∨ (0 : Int) = 1) ∧ (σ = u1 ∧ ((0 : Int) = 1 ∧ (∃ i : Int, 0 ≤ i ∧ i < σ 30 312 ∧ σ 32 (1560 + i) = x) ∨ (0 : Int) = 0 ∧ ¬ ∃ i : Int, 0 ≤ i ∧ i < σ 30 312 ∧ σ 32 (1560 + i) = x)))) ∧ (j < v1 → (∃ Rc : Int → zS → Prop, zAM 37 [.inr (.inr (6, 0)), .inl j] u1 Rc ∧ ∀ (v2 : Int) (u2 : zS), zJ v2 → Rc v2 u2 → ((¬ (zcmp v2 x) = 0 → (zI (j + (1 : Int)) ∧ zRuns 38 zX0 (fun (v : Int) (u : zS) => σ = u ∧ (v = 1 ∧ (∃ i : Int, 0 ≤ i ∧ i < σ 30 312 ∧ σ 32 (1560 + i) = x) ∨ v = 0 ∧ ¬ ∃ i : Int, 0 ≤ i ∧ i < σ 30 312 ∧ σ 32 (1560 + i) = x)) 2 [some (.inr (.inr (6, 0))), some (.inr (.inl x)), none, some (.inl (j + (1 : Int)))] [] u2)) ∧ ((zcmp v2 x) = 0 → (((1 : Int) = 0 ∨ (1 : Int) = 1) ∧ (σ = u2 ∧ ((1 : Int) = 1 ∧ (∃ i : Int, 0 ≤ i ∧ i < σ 30 312 ∧ σ 32 (1560 + i) = x) ∨ (1 : Int) = 0 ∧ ¬ ∃ i : Int, 0 ≤ i ∧ i < σ 30 312 ∧ σ 32 (1560 + i) = x)))))))))
    refine ⟨_, am_X4_told, ?_⟩
    intro v1 u1 hv1
    rintro ⟨rfl, rfl⟩
    obtain ⟨hv1a, hv1b⟩ := hv1
    refine ⟨?_, ?_⟩
    · intro h1
      refine ⟨by (omega), ?_⟩
      exact ⟨rfl, Or.inr ⟨rfl, fun ⟨i, i0, i1, e⟩ => hj i i0 (by omega) e⟩⟩
    · intro h2
      refine ⟨_, am_X4_word (by omega), ?_⟩
      intro v2 u2 hv2
      rintro ⟨rfl, ev2⟩
      obtain ⟨hv2a, hv2b⟩ := hv2
      refine ⟨?_, ?_⟩
      · intro h3
        simp only [zc_lt, zc_ge, zc_gt, zc_le, zc_eq] at h3
        refine ⟨by (first | exact ⟨by omega, by omega⟩ | (exfalso; omega)), ?_⟩
        refine ih _ (by omega) (by omega) (fun i i0 i1 => ?_)
        by_cases e : i = j
        · rw [e]; omega
        · exact hj i i0 (by omega)
      · intro h4
        simp only [zc_lt, zc_ge, zc_gt, zc_le, zc_eq] at h4
        refine ⟨by (omega), ?_⟩
        exact ⟨rfl, Or.inl ⟨rfl, j, by omega, by omega, by omega⟩⟩
set_option maxRecDepth 100000 in
set_option maxHeartbeats 4000000 in
theorem am_X4_tell {σ : zS} {x : Int} (hn : 0 ≤ σ 30 312 ∧ σ 30 312 ≤ 5) : zAM 38 [.inr (.inr (6, 0)), .inr (.inl x)] σ (fun (v : Int) (u : zS) => σ = u ∧ (v = 1 ∧ (∃ i : Int, 0 ≤ i ∧ i < σ 30 312 ∧ σ 32 (1560 + i) = x) ∨ v = 0 ∧ ¬ ∃ i : Int, 0 ≤ i ∧ i < σ 30 312 ∧ σ 32 (1560 + i) = x)) := by
  refine zam (by decide) (Nat.le_of_ble_eq_true rfl) ?_
  refine zwalk zmk_38 [(2, [true, true, false, true])] 2 ?_
  show zRuns 38 zX0 (fun (v : Int) (u : zS) => σ = u ∧ (v = 1 ∧ (∃ i : Int, 0 ≤ i ∧ i < σ 30 312 ∧ σ 32 (1560 + i) = x) ∨ v = 0 ∧ ¬ ∃ i : Int, 0 ≤ i ∧ i < σ 30 312 ∧ σ 32 (1560 + i) = x)) 2 [some (.inr (.inr (6, 0))), some (.inr (.inl x)), none, some (.inl (0 : Int))] [] σ
  exact lp_tell hn 7 0 (by omega) (by omega) (fun i i0 i1 => by omega)
