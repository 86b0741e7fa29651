/-! the model's know -/
def zgq : Int → List (Int × Int) → Int
  | d, [] => d
  | _, p :: r => zgq p.1 r
theorem zgq_snoc {r : List (Int × Int)} {p : Int × Int} : ∀ {d : Int}, zgq d (r ++ [p]) = p.1 := by
  induction r with
  | nil => intro d; rfl
  | cons q r ih => intro d; exact ih
theorem zlast : ∀ {r : List (Int × Int)}, r ≠ [] → ∃ r', r = r' ++ [(zgq (-1) r, zgt (-1) r)]
  | [], h => absurd rfl h
  | [q], _ => ⟨[], rfl⟩
  | q :: q2 :: r, _ => by
    obtain ⟨r', e⟩ := zlast (r := q2 :: r) (by simp)
    exact ⟨q :: r', by rw [List.cons_append]; exact congrArg (fun z => q :: z) e⟩
theorem zgt_f : ∀ {r : List (Int × Int)} {d : Int}, r ≠ [] → zgt d r = zgf r (r.length - 1)
  | [], _, h => absurd rfl h
  | [q], _, _ => rfl
  | q :: q2 :: r, d, _ => zgt_f (r := q2 :: r) (d := q.2) (by simp)
/-- last rows below k, or row k and letters below m -/
def zrq (k m : Int) (r : List (Int × Int)) : Prop := zgq (-1) r < k ∨ zgq (-1) r = k ∧ zgt (-1) r < m
theorem zGM_last {f : Int → Int → Int → Int} {e l n : Int} {r : List (Int × Int)} (g : zGM f e l n r) : (1 ≤ zgq (-1) r ∧ zgq (-1) r ≤ 3 ∧ zgq (-1) r ≤ e) ∧ 0 ≤ f (e - zgq (-1) r) (zgq (-1) r) (zgt (-1) r) ∧ 0 ≤ zgt (-1) r ∧ zgt (-1) r < 26 := by
  obtain ⟨r', e1⟩ := zlast g.2.1
  have h1 := g.1.1
  have h2 := g.1.2
  have h5 := zgt_r (d := -1) g.1.1 g.2.1
  generalize zgq (-1) r = k at *
  generalize zgt (-1) r = l2 at *
  rw [e1] at h1 h2
  rw [zgl_app] at h2
  have h3 := zgo_app.mp h1
  have h4 := zgl_len h3.1
  have h6 : zgl [(k, l2)] = k := by simp [zgl]
  have h7 : 1 ≤ k ∧ k ≤ 3 := ⟨h3.2.1.1, h3.2.1.2.1⟩
  have h8 : 0 ≤ f (0 + zgl r') k l2 := h3.2.1.2.2.2.2
  rw [show 0 + zgl r' = e - k by omega] at h8
  exact ⟨by omega, h8, h5⟩
section
variable {f : Int → Int → Int → Int} {P : Int → Int → Int} {e l n k m : Int} {y d : Int}
theorem zrq_0 : (fun (_ _ : Int) => False) y d ↔ zSM f P e l n (zrq 1 0) y d := by
  constructor
  · exact fun q => q.elim
  · rintro ⟨r, g, q, -⟩
    have h1 := zGM_last g
    unfold zrq at q
    omega
theorem zrq_row : zSM f P e l n (zrq k 26) y d ↔ zSM f P e l n (zrq (k + 1) 0) y d := by
  constructor
  · rintro ⟨r, g, q, h⟩
    have h1 := zGM_last g
    unfold zrq at q
    exact ⟨r, g, by unfold zrq; omega, h⟩
  · rintro ⟨r, g, q, h⟩
    have h1 := zGM_last g
    unfold zrq at q
    exact ⟨r, g, by unfold zrq; omega, h⟩
theorem zrq_end (hk : 3 < k ∨ e < k) : zSM f P e l n (zrq k 0) y d ↔ zSM f P e l n (fun _ => True) y d := by
  constructor
  · rintro ⟨r, g, q, h⟩
    exact ⟨r, g, trivial, h⟩
  · rintro ⟨r, g, q, h⟩
    have h1 := zGM_last g
    exact ⟨r, g, by unfold zrq; omega, h⟩
theorem zrq_off (hm : ¬ l = m) : zSM f P e l n (zrq k m) y d ↔ zSM f P e l n (zrq k (m + 1)) y d := by
  constructor
  · rintro ⟨r, g, q, h⟩
    exact ⟨r, g, by unfold zrq at *; omega, h⟩
  · rintro ⟨r, g, q, h⟩
    have h3 := g.2.2.1
    exact ⟨r, g, by unfold zrq at *; omega, h⟩
theorem zrq_on : zEY f P e k l (fun n2 => zSM f P e l n2 (zrq k l)) n y d ↔ zSM f P e l n (zrq k (l + 1)) y d := by
  constructor
  · rintro (⟨r, g, q, h⟩ | ⟨r, g, ⟨r', e1⟩, h⟩)
    · exact ⟨r, g, by unfold zrq at *; omega, h⟩
    · refine ⟨r, g, ?_, h⟩
      unfold zrq
      rw [e1, zgq_snoc, zgt_snoc]
      exact Or.inr ⟨rfl, by show l < l + 1; omega⟩
  · rintro ⟨r, g, q, h⟩
    by_cases e1 : zgq (-1) r = k
    · obtain ⟨r', e2⟩ := zlast g.2.1
      rw [e1, g.2.2.1] at e2
      exact Or.inr ⟨r, g, ⟨r', e2⟩, h⟩
    · exact Or.inl ⟨r, g, by unfold zrq at *; omega, h⟩
end
theorem zmc_fr {σ t : zS} {l a n : Int} (h1 : t 42 = σ 42) (h2 : t 43 = σ 43) (h3 : t 47 = σ 47) : zmc t l a n = zmc σ l a n := by
  have e : zsq t l a n = zsq σ l a n := by unfold zsq; rw [h1]
  unfold zmc
  rw [e, h2, h3]
/-- the states of ends below e are done; those from e on are empty -/
def zQD (f : Int → Int → Int → Int) (P : Int → Int → Int) (e : Int) (t : zS) : Prop := ∀ a l n : Int, 0 ≤ a → a < e → 0 ≤ l → l < 26 → 1 ≤ n → n ≤ 12 → zTM t (zst a l n) (zSM f P a l n (fun _ => True))
def zQE (e : Int) (t : zS) : Prop := ∀ a l n : Int, e ≤ a → a ≤ 14 → 0 ≤ l → l < 26 → 1 ≤ n → n ≤ 12 → zTM t (zst a l n) (fun _ _ => False)
def zQA (f : Int → Int → Int → Int) (P : Int → Int → Int) (e k m : Int) (t : zS) : Prop := ∀ l n : Int, 0 ≤ l → l < 26 → 1 ≤ n → n ≤ 12 → zTM t (zst e l n) (zSM f P e l n (zrq k m))
/-- whole readings with letters below l at the end, or l and fewer letters than n -/
def zRS (f : Int → Int → Int → Int) (P : Int → Int → Int) (p l n : Int) (y d : Int) : Prop := ∃ r, zRD f p r ∧ (zgt (-1) r < l ∨ zgt (-1) r = l ∧ (r.length : Int) < n) ∧ y = zgw r ∧ d = zgc f P 0 r
theorem zRS_row {f : Int → Int → Int → Int} {P : Int → Int → Int} {p l y d : Int} : zRS f P p l 13 y d ↔ zRS f P p (l + 1) 1 y d := by
  constructor
  · rintro ⟨r, g, q, h⟩
    exact ⟨r, g, by omega, h⟩
  · rintro ⟨r, g, q, h⟩
    have h1 := g.2.2
    have h2 : r.length ≠ 0 := fun z => g.2.1 (List.length_eq_zero_iff.mp z)
    exact ⟨r, g, by omega, h⟩
theorem zRS_0 {f : Int → Int → Int → Int} {P : Int → Int → Int} {p y d : Int} : ¬ zRS f P p 0 1 y d := by
  rintro ⟨r, g, q, h⟩
  have h1 := zgt_r (d := -1) g.1.1 g.2.1
  have h2 : r.length ≠ 0 := fun z => g.2.1 (List.length_eq_zero_iff.mp z)
  omega
theorem zRS_end {f : Int → Int → Int → Int} {P : Int → Int → Int} {p y d : Int} : zRS f P p 26 1 y d ↔ zSD f P p y d := by
  constructor
  · rintro ⟨r, g, q, h⟩
    exact ⟨r, g, h⟩
  · rintro ⟨r, g, h⟩
    have h1 := zgt_r (d := -1) g.1.1 g.2.1
    exact ⟨r, g, Or.inl h1.2, h⟩
theorem zgw_lf {r : List (Int × Int)} : zgw r = zlf (zgr r) (r.length : Int) := zlf_lc.symm
theorem zlf_lt {x y n : Int} (h : x < y) : zlf x n < zlf y n := by
  unfold zlf
  exact Int.mul_lt_mul_of_pos_right (by omega) (zp_pos _)
/-- the first n of state b, by left codes of z letters -/
def zKL (τ : zS) (b z n : Int) (S : Int → Int → Prop) (y d : Int) : Prop := S y d ∨ ∃ j : Int, 0 ≤ j ∧ j < n ∧ y = zlf (τ 63 (5 * b + j)) z ∧ d = τ 62 (5 * b + j)
theorem zKL_0 {τ : zS} {b z : Int} {S : Int → Int → Prop} {y e : Int} : S y e ↔ zKL τ b z 0 S y e := by
  constructor
  · exact Or.inl
  · rintro (q | ⟨i, i0, i1, -⟩)
    · exact q
    · omega
theorem zKL_s {τ : zS} {b z n : Int} {S : Int → Int → Prop} {y e : Int} (n0 : 0 ≤ n) : (zKL τ b z n S y e ∨ y = zlf (τ 63 (5 * b + n)) z ∧ e = τ 62 (5 * b + n)) ↔ zKL τ b z (n + 1) S y e := by
  constructor
  · rintro ((q | ⟨i, i0, i1, r⟩) | q)
    · exact Or.inl q
    · exact Or.inr ⟨i, i0, by omega, r⟩
    · exact Or.inr ⟨n, n0, by omega, q⟩
  · rintro (q | ⟨i, i0, i1, r⟩)
    · exact Or.inl (Or.inl q)
    · by_cases g : i = n
      · rw [g] at r; exact Or.inr r
      · exact Or.inl (Or.inr ⟨i, i0, by omega, r⟩)
theorem zKL_all {τ t : zS} {f : Int → Int → Int → Int} {P : Int → Int → Int} {b p l z i : Int} (hz : z ≤ 12) (hB : zTM τ b (zSM f P p l z (fun _ => True))) (hS : zKP t i (zKL τ b z (τ 61 b) (zRS f P p l z))) : zKP t i (zRS f P p l (z + 1)) := by
  refine ⟨?_, hS.2⟩
  refine zTop.ext (φ := fun x => zlf x z) (δ := 0) (A := zSM f P p l z (fun _ => True)) (S := zRS f P p l z) hB (fun x d y e _ _ q => zlf_lt q) (zTop.congr hS.1 (fun y e => ?_)) (fun y e => ?_)
  · constructor
    · rintro (q | ⟨i, i0, i1, r1, r2⟩)
      · exact Or.inl q
      · exact Or.inr ⟨i, i0, i1, r1, by omega⟩
    · rintro (q | ⟨i, i0, i1, r1, r2⟩)
      · exact Or.inl q
      · exact Or.inr ⟨i, i0, i1, r1, by omega⟩
  · constructor
    · rintro ⟨r, g, q, e1, e2⟩
      by_cases h : zgt (-1) r < l ∨ zgt (-1) r = l ∧ (r.length : Int) < z
      · exact Or.inl ⟨r, g, h, e1, e2⟩
      · have hl : (r.length : Int) = z := by omega
        refine Or.inr ⟨zgr r, zgc f P 0 r, ⟨r, ⟨g.1, g.2.1, by omega, hl⟩, trivial, rfl, rfl⟩, ?_, by omega⟩
        rw [e1, zgw_lf, hl]
    · rintro (⟨r, g, q, h⟩ | ⟨x, d, ⟨r, g, -, e1, e2⟩, e3, e4⟩)
      · exact ⟨r, g, by omega, h⟩
      · have h1 := g.2.2.2
        refine ⟨r, ⟨g.1, g.2.1, by omega⟩, Or.inr ⟨g.2.2.1, by omega⟩, ?_, by omega⟩
        rw [e3, e1, zgw_lf, h1]
/-- what comes next is new -/
theorem zKL_new {τ : zS} {f : Int → Int → Int → Int} {P : Int → Int → Int} {b p l z j : Int} {r : List (Int × Int)} (hB : zTM τ b (zSM f P p l z (fun _ => True))) (hj : 0 ≤ j ∧ j < τ 61 b) (hr : zGM f p l z r) (hz : r.length ≤ 12) (e : τ 63 (5 * b + j) = zgr r) (d : Int) : ¬ zKL τ b z j (zRS f P p l z) (zgw r) d := by
  rintro (⟨r2, g, q, e1, e2⟩ | ⟨i, i0, i1, e1, e2⟩)
  · obtain ⟨h1, h2⟩ := zlc_inj (zgf_let hr.1.1) (zgf_let g.1.1) hz g.2.2 e1
    have h3 := hr.2.2.1
    have h4 := hr.2.2.2
    rw [zgt_f hr.2.1] at h3
    have h5 := zgt_f (d := -1) g.2.1
    have h6 : r.length ≠ 0 := fun z => hr.2.1 (List.length_eq_zero_iff.mp z)
    have h7 := h2 (r.length - 1) (by omega)
    rw [← h1] at h5
    omega
  · have n1 := (hB.2.1 i j i0 i1 hj.2).2
    simp only at n1
    rw [zgw_lf, hr.2.2.2, ← e] at e1
    rcases Int.lt_or_gt_of_ne n1 with q | q
    · have := zlf_lt (n := z) q; omega
    · have := zlf_lt (n := z) q; omega
set_option maxRecDepth 100000 in
set_option maxHeartbeats 4000000 in
theorem lp_kn39 {i : Int} {p : Int} {τ : zS} {R : Int → zS → Prop} (K : zRuns 139 zX0 R 61 [some (.inr (.inr (9, 0))), some (.inl i), some (.inl p), some (.inl 1), none, none, none] [] (zfill τ 61 0 5070 0)) : ∀ (n : Nat) (j : Int) (s : zS), 5070 - j < (n : Int) → (0 ≤ j ∧ j ≤ 5070) → (s = zfill τ 61 0 j 0) → zRuns 139 zX0 (fun (v : Int) (u : zS) => R v u) 39 [some (.inr (.inr (9, 0))), some (.inl i), some (.inl p), some (.inl j), none, none, none] [] s := by
  intro n
  induction n with
  | zero =>
    intro j s hn j0 hs
    exfalso
    omega
  | succ n ih =>
    intro j s hn j0 hs
    refine zwalk zmk_139 [(39, [true, true, true, true, false, false, false]), (61, [true, true, true, true, false, false, false]), (69, [true, true, true, true, true, false, false]), (84, [true, true, true, true, true, true, false]), (121, [true, true, true, true, false, false, false]), (130, [true, true, true, true, true, false, false]), (149, [true, true, true, true, true, true, true])] 3 ?_
    show (((5070 : Int) ≤ j → zRuns 139 zX0 (fun (v : Int) (u : zS) => R v u) 61 [some (.inr (.inr (9, 0))), some (.inl i), some (.inl p), some (.inl (1 : Int)), none, none, none] [] s) ∧ (j < (5070 : Int) → ((0 ≤ j ∧ j < (5070 : Int)) ∧ (zI (j + (1 : Int)) ∧ zRuns 139 zX0 (fun (v : Int) (u : zS) => R v u) 39 [some (.inr (.inr (9, 0))), some (.inl i), some (.inl p), some (.inl (j + (1 : Int))), none, none, none] [] (zup s 61 j (0 : Int))))))
    refine ⟨?_, ?_⟩
    · intro h1
      obtain rfl : j = 5070 := by omega
      rw [hs]
      exact K
    · intro h2
      refine ⟨by (first | exact ⟨by omega, by omega⟩ | (exfalso; omega)), ?_⟩
      refine ⟨by (first | exact ⟨by omega, by omega⟩ | (exfalso; omega)), ?_⟩
      refine ih _ _ (by omega) (by omega) ?_
      rw [hs]
      have q := zfill_s (σ := τ) (k := 61) (o := 0) (n := j) (v := 0) (by omega)
      rw [Int.zero_add] at q
      exact q
set_option maxRecDepth 100000 in
set_option maxHeartbeats 4000000 in
theorem lp_kn84 {e : Int} {k : Int} {i : Int} {p : Int} {f : Int → Int → Int → Int} {P : Int → Int → Int} {σ : zS} {R : Int → zS → Prop} (hi : 0 ≤ i ∧ i < 40) (hp : 0 ≤ p ∧ p ≤ 14) (hb0 : 0 ≤ σ 45 i ∧ σ 45 i + p ≤ 40) (hs : ∀ j : Int, σ 45 i ≤ j → j < σ 45 i + p → 0 ≤ σ 42 j ∧ σ 42 j < 12) (hc47 : ∀ j : Int, 0 ≤ j → j < 49660 → 0 ≤ σ 47 j ∧ σ 47 j ≤ 999) (hfm : ∀ a k l : Int, 0 ≤ a → 1 ≤ k → k ≤ 3 → a + k ≤ p → 0 ≤ l → l < 26 → zmc σ l (σ 45 i + a) k = if f a k l < 0 then 1000000000 else f a k l) (hbd : zgb f P p) (hP : ∀ x y : Int, 0 ≤ x → x < 26 → 0 ≤ y → y < 26 → 0 ≤ σ 47 (48984 + 26 * x + y) ∧ σ 47 (48984 + 26 * x + y) ≤ 999 ∧ 6 / (1 + σ 47 (48984 + 26 * x + y)) = P x y) (he : 1 ≤ e ∧ e ≤ p) (hk : 1 ≤ k ∧ k ≤ 3 ∧ k ≤ e) (K : ∀ t : zS, zfr [61, 62, 63] σ t → zQD f P e t → zQE (e + 1) t → zQA f P e (k + 1) 0 t → zRuns 139 zX0 R 69 [some (.inr (.inr (9, 0))), some (.inl i), some (.inl p), some (.inl e), some (.inl (k + 1)), none, none] [] t) : ∀ (n : Nat) (l : Int) (t : zS), 26 - l < (n : Int) → (0 ≤ l ∧ l ≤ 26) → (zfr [61, 62, 63] σ t) → (zQD f P e t) → (zQE (e + 1) t) → (zQA f P e k l t) → zRuns 139 zX0 (fun (v : Int) (u : zS) => R v u) 84 [some (.inr (.inr (9, 0))), some (.inl i), some (.inl p), some (.inl e), some (.inl k), some (.inl l), none] [] t := by
  intro n
  induction n with
  | zero =>
    intro l t hn l0 hf hQD hQE hQA
    exfalso
    omega
  | succ n ih =>
    intro l t hn l0 hf hQD hQE hQA
    refine zwalk zmk_139 [(39, [true, true, true, true, false, false, false]), (61, [true, true, true, true, false, false, false]), (69, [true, true, true, true, true, false, false]), (84, [true, true, true, true, true, true, false]), (121, [true, true, true, true, false, false, false]), (130, [true, true, true, true, true, false, false]), (149, [true, true, true, true, true, true, true])] 3 ?_
    show (((26 : Int) ≤ l → (zI (k + (1 : Int)) ∧ zRuns 139 zX0 (fun (v : Int) (u : zS) => R v u) 69 [some (.inr (.inr (9, 0))), some (.inl i), some (.inl p), some (.inl e), some (.inl (k + (1 : Int))), none, none] [] t)) ∧ (l < (26 : Int) → (∃ Rc : Int → zS → Prop, zAM 137 [.inr (.inr (9, 0)), .inl i, .inl e, .inl k, .inl l] t Rc ∧ ∀ (u1 : zS), Rc 0 u1 → (zI (l + (1 : Int)) ∧ zRuns 139 zX0 (fun (v : Int) (u : zS) => R v u) 84 [some (.inr (.inr (9, 0))), some (.inl i), some (.inl p), some (.inl e), some (.inl k), some (.inl (l + (1 : Int))), none] [] u1))))
    have e42 : t 42 = σ 42 := hf 42 (by decide)
    have e43 : t 43 = σ 43 := hf 43 (by decide)
    have e45 : t 45 = σ 45 := hf 45 (by decide)
    have e47 : t 47 = σ 47 := hf 47 (by decide)
    refine ⟨?_, ?_⟩
    · intro h1
      refine ⟨by (first | exact ⟨by omega, by omega⟩ | (exfalso; omega)), ?_⟩
      obtain rfl : l = 26 := by omega
      exact K t hf hQD hQE (fun l9 n9 s0 s1 l0 l1 => (hQA l9 n9 s0 s1 l0 l1).congr (fun y d => zrq_row))
    · intro h2
      refine ⟨_, am_X9_goOn (p := p) (f := f) (P := P) (S := fun n2 => zSM f P e l n2 (zrq k l)) (hi) (by (rw [e45]; exact hb0)) (by (rw [e45, e42]; exact hs)) (by (rw [e47]; exact hc47)) (by (rw [e45, zmc_fr e42 e43 e47, show σ 45 i + e - k = σ 45 i + (e - k) by omega]; exact hfm (e - k) k l (by omega) hk.1 hk.2.1 (by omega) (by omega) (by omega))) (hbd) (by omega) (hk) (by omega) (by (rw [e47]; exact hP)) (fun q m n m0 m1 n0 n1 => hQD (e - k) m n (by omega) (by omega) m0 m1 n0 n1) (fun n2 a0 a1 => hQA l n2 (by omega) (by omega) a0 a1), ?_⟩
      intro u1
      intro kv1
      refine ⟨by (first | exact ⟨by omega, by omega⟩ | (exfalso; omega)), ?_⟩
      have hx := kv1.1
      refine ih (l + 1) u1 (by omega) ⟨by omega, by omega⟩ (fun q hq => by rw [hx.1 q hq, hf q hq]) (fun a l9 n9 a0 a1 l90 l91 n90 n91 => ?_) (fun a l9 n9 a0 a1 l90 l91 n90 n91 => ?_) (fun l9 n9 l90 l91 n90 n91 => ?_)
      · refine hx.keep (fun n8 b0 b1 q => ?_) (hQD a l9 n9 a0 a1 l90 l91 n90 n91)
        have := zst_ne (by omega) (by omega) q
        omega
      · refine hx.keep (fun n8 b0 b1 q => ?_) (hQE a l9 n9 a0 a1 l90 l91 n90 n91)
        have := zst_ne (by omega) (by omega) q
        omega
      · by_cases g : l9 = l
        · rw [g]
          exact (kv1.2 n9 n90 n91).congr (fun y d => zrq_on)
        · refine (hx.keep (fun n8 b0 b1 q => ?_) (hQA l9 n9 l90 l91 n90 n91)).congr (fun y d => zrq_off g)
          have := zst_ne (by omega) (by omega) q
          omega
set_option maxRecDepth 100000 in
set_option maxHeartbeats 4000000 in
theorem lp_kn69 {e : Int} {i : Int} {p : Int} {f : Int → Int → Int → Int} {P : Int → Int → Int} {σ : zS} {R : Int → zS → Prop} (hi : 0 ≤ i ∧ i < 40) (hp : 0 ≤ p ∧ p ≤ 14) (hb0 : 0 ≤ σ 45 i ∧ σ 45 i + p ≤ 40) (hs : ∀ j : Int, σ 45 i ≤ j → j < σ 45 i + p → 0 ≤ σ 42 j ∧ σ 42 j < 12) (hc47 : ∀ j : Int, 0 ≤ j → j < 49660 → 0 ≤ σ 47 j ∧ σ 47 j ≤ 999) (hfm : ∀ a k l : Int, 0 ≤ a → 1 ≤ k → k ≤ 3 → a + k ≤ p → 0 ≤ l → l < 26 → zmc σ l (σ 45 i + a) k = if f a k l < 0 then 1000000000 else f a k l) (hbd : zgb f P p) (hP : ∀ x y : Int, 0 ≤ x → x < 26 → 0 ≤ y → y < 26 → 0 ≤ σ 47 (48984 + 26 * x + y) ∧ σ 47 (48984 + 26 * x + y) ≤ 999 ∧ 6 / (1 + σ 47 (48984 + 26 * x + y)) = P x y) (he : 1 ≤ e ∧ e ≤ p) (K : ∀ t : zS, zfr [61, 62, 63] σ t → zQD f P (e + 1) t → zQE (e + 1) t → zRuns 139 zX0 R 61 [some (.inr (.inr (9, 0))), some (.inl i), some (.inl p), some (.inl (e + 1)), none, none, none] [] t) : ∀ (n : Nat) (k : Int) (t : zS), 4 - k < (n : Int) → (1 ≤ k ∧ k ≤ 4) → (zfr [61, 62, 63] σ t) → (zQD f P e t) → (zQE (e + 1) t) → (zQA f P e k 0 t) → zRuns 139 zX0 (fun (v : Int) (u : zS) => R v u) 69 [some (.inr (.inr (9, 0))), some (.inl i), some (.inl p), some (.inl e), some (.inl k), none, none] [] t := by
  intro n
  induction n with
  | zero =>
    intro k t hn k0 hf hQD hQE hQA
    exfalso
    omega
  | succ n ih =>
    intro k t hn k0 hf hQD hQE hQA
    refine zwalk zmk_139 [(39, [true, true, true, true, false, false, false]), (61, [true, true, true, true, false, false, false]), (69, [true, true, true, true, true, false, false]), (84, [true, true, true, true, true, true, false]), (121, [true, true, true, true, false, false, false]), (130, [true, true, true, true, true, false, false]), (149, [true, true, true, true, true, true, true])] 3 ?_
    show (((4 : Int) ≤ k → (zI (e + (1 : Int)) ∧ zRuns 139 zX0 (fun (v : Int) (u : zS) => R v u) 61 [some (.inr (.inr (9, 0))), some (.inl i), some (.inl p), some (.inl (e + (1 : Int))), none, none, none] [] t)) ∧ (k < (4 : Int) → ((e < k → (zI (e + (1 : Int)) ∧ zRuns 139 zX0 (fun (v : Int) (u : zS) => R v u) 61 [some (.inr (.inr (9, 0))), some (.inl i), some (.inl p), some (.inl (e + (1 : Int))), none, none, none] [] t)) ∧ (k ≤ e → zRuns 139 zX0 (fun (v : Int) (u : zS) => R v u) 84 [some (.inr (.inr (9, 0))), some (.inl i), some (.inl p), some (.inl e), some (.inl k), some (.inl (0 : Int)), none] [] t))))
    refine ⟨?_, ?_⟩
    · intro h1
      refine ⟨by (first | exact ⟨by omega, by omega⟩ | (exfalso; omega)), ?_⟩
      refine K t hf (fun a l9 n9 a0 a1 l90 l91 n90 n91 => ?_) hQE
      by_cases g : a = e
      · rw [g]; exact (hQA l9 n9 l90 l91 n90 n91).congr (fun y d => zrq_end (by omega))
      · exact hQD a l9 n9 a0 (by omega) l90 l91 n90 n91
    · intro h2
      refine ⟨?_, ?_⟩
      · intro h3
        refine ⟨by (first | exact ⟨by omega, by omega⟩ | (exfalso; omega)), ?_⟩
        refine K t hf (fun a l9 n9 a0 a1 l90 l91 n90 n91 => ?_) hQE
        by_cases g : a = e
        · rw [g]; exact (hQA l9 n9 l90 l91 n90 n91).congr (fun y d => zrq_end (by omega))
        · exact hQD a l9 n9 a0 (by omega) l90 l91 n90 n91
      · intro h4
        exact lp_kn84 hi hp hb0 hs hc47 hfm hbd hP he ⟨by omega, by omega, by omega⟩ (fun t9 g1 g2 g3 g4 => ih (k + 1) t9 (by omega) ⟨by omega, by omega⟩ g1 g2 g3 g4) 27 0 t (by omega) ⟨by omega, by omega⟩ hf hQD hQE hQA
set_option maxRecDepth 100000 in
set_option maxHeartbeats 4000000 in
theorem lp_kn61 {i : Int} {p : Int} {f : Int → Int → Int → Int} {P : Int → Int → Int} {σ : zS} {R : Int → zS → Prop} (hi : 0 ≤ i ∧ i < 40) (hp : 0 ≤ p ∧ p ≤ 14) (hb0 : 0 ≤ σ 45 i ∧ σ 45 i + p ≤ 40) (hs : ∀ j : Int, σ 45 i ≤ j → j < σ 45 i + p → 0 ≤ σ 42 j ∧ σ 42 j < 12) (hc47 : ∀ j : Int, 0 ≤ j → j < 49660 → 0 ≤ σ 47 j ∧ σ 47 j ≤ 999) (hfm : ∀ a k l : Int, 0 ≤ a → 1 ≤ k → k ≤ 3 → a + k ≤ p → 0 ≤ l → l < 26 → zmc σ l (σ 45 i + a) k = if f a k l < 0 then 1000000000 else f a k l) (hbd : zgb f P p) (hP : ∀ x y : Int, 0 ≤ x → x < 26 → 0 ≤ y → y < 26 → 0 ≤ σ 47 (48984 + 26 * x + y) ∧ σ 47 (48984 + 26 * x + y) ≤ 999 ∧ 6 / (1 + σ 47 (48984 + 26 * x + y)) = P x y) (K : ∀ t : zS, zfr [61, 62, 63] σ t → (∀ l n : Int, 0 ≤ l → l < 26 → 1 ≤ n → n ≤ 12 → zTM t (zst p l n) (zSM f P p l n (fun _ => True))) → zRuns 139 zX0 R 121 [some (.inr (.inr (9, 0))), some (.inl i), some (.inl p), some (.inl 0), none, none, none] [] t) : ∀ (n : Nat) (e : Int) (t : zS), p + 2 - e < (n : Int) → (1 ≤ e ∧ e ≤ p + 1) → (zfr [61, 62, 63] σ t) → (zQD f P e t) → (zQE e t) → zRuns 139 zX0 (fun (v : Int) (u : zS) => R v u) 61 [some (.inr (.inr (9, 0))), some (.inl i), some (.inl p), some (.inl e), none, none, none] [] t := by
  intro n
  induction n with
  | zero =>
    intro e t hn e0 hf hQD hQE
    exfalso
    omega
  | succ n ih =>
    intro e t hn e0 hf hQD hQE
    refine zwalk zmk_139 [(39, [true, true, true, true, false, false, false]), (61, [true, true, true, true, false, false, false]), (69, [true, true, true, true, true, false, false]), (84, [true, true, true, true, true, true, false]), (121, [true, true, true, true, false, false, false]), (130, [true, true, true, true, true, false, false]), (149, [true, true, true, true, true, true, true])] 3 ?_
    show ((p < e → zRuns 139 zX0 (fun (v : Int) (u : zS) => R v u) 121 [some (.inr (.inr (9, 0))), some (.inl i), some (.inl p), some (.inl (0 : Int)), none, none, none] [] t) ∧ (e ≤ p → zRuns 139 zX0 (fun (v : Int) (u : zS) => R v u) 69 [some (.inr (.inr (9, 0))), some (.inl i), some (.inl p), some (.inl e), some (.inl (1 : Int)), none, none] [] t))
    refine ⟨?_, ?_⟩
    · intro h1
      exact K t hf (fun l n l0 l1 n0 n1 => hQD p l n (by omega) (by omega) l0 l1 n0 n1)
    · intro h2
      exact lp_kn69 hi hp hb0 hs hc47 hfm hbd hP ⟨by omega, by omega⟩ (fun t9 g1 g2 g3 => ih (e + 1) t9 (by omega) ⟨by omega, by omega⟩ g1 g2 g3) 4 1 t (by omega) ⟨by omega, by omega⟩ hf hQD (fun a l n a0 a1 l0 l1 n0 n1 => hQE a l n (by omega) a1 l0 l1 n0 n1) (fun l n l0 l1 n0 n1 => (hQE e l n (by omega) (by omega) l0 l1 n0 n1).congr (fun y d => zrq_0))
set_option maxRecDepth 100000 in
set_option maxHeartbeats 4000000 in
theorem lp_kn149 {l : Int} {z : Int} {i : Int} {p : Int} {f : Int → Int → Int → Int} {P : Int → Int → Int} {τ : zS} {R : Int → zS → Prop} (hi : 0 ≤ i ∧ i < 40) (hp : 0 ≤ p ∧ p ≤ 14) (hB : ∀ l n : Int, 0 ≤ l → l < 26 → 1 ≤ n → n ≤ 12 → zTM τ (zst p l n) (zSM f P p l n (fun _ => True))) (hlz : 0 ≤ l ∧ l < 26 ∧ 1 ≤ z ∧ z ≤ 12) (K : ∀ t : zS, zKG τ t i → zKP t i (zRS f P p l (z + 1)) → zRuns 139 zX0 R 130 [some (.inr (.inr (9, 0))), some (.inl i), some (.inl p), some (.inl l), some (.inl (z + 1)), none, none] [] t) : ∀ (n : Nat) (j : Int) (t : zS), τ 61 (zst p l z) - j < (n : Int) → (0 ≤ j ∧ j ≤ τ 61 (zst p l z)) → (zKG τ t i) → (zKP t i (zKL τ (zst p l z) z j (zRS f P p l z))) → zRuns 139 zX0 (fun (v : Int) (u : zS) => R v u) 149 [some (.inr (.inr (9, 0))), some (.inl i), some (.inl p), some (.inl l), some (.inl z), some (.inl (zst p l z)), some (.inl j)] [] t := by
  intro n
  induction n with
  | zero =>
    intro j t hn j0 hf hK
    exfalso
    omega
  | succ n ih =>
    intro j t hn j0 hf hK
    refine zwalk zmk_139 [(39, [true, true, true, true, false, false, false]), (61, [true, true, true, true, false, false, false]), (69, [true, true, true, true, true, false, false]), (84, [true, true, true, true, true, true, false]), (121, [true, true, true, true, false, false, false]), (130, [true, true, true, true, true, false, false]), (149, [true, true, true, true, true, true, true])] 3 ?_
    show ((0 ≤ (zst p l z) ∧ (zst p l z) < (5070 : Int)) ∧ (((t 61 (zst p l z)) ≤ j → (zI (z + (1 : Int)) ∧ zRuns 139 zX0 (fun (v : Int) (u : zS) => R v u) 130 [some (.inr (.inr (9, 0))), some (.inl i), some (.inl p), some (.inl l), some (.inl (z + (1 : Int))), none, none] [] t)) ∧ (j < (t 61 (zst p l z)) → (zI ((5 : Int) * (zst p l z)) ∧ (zI (((5 : Int) * (zst p l z)) + j) ∧ ((0 ≤ (((5 : Int) * (zst p l z)) + j) ∧ (((5 : Int) * (zst p l z)) + j) < (25350 : Int)) ∧ (zI ((5 : Int) * (zst p l z)) ∧ (zI (((5 : Int) * (zst p l z)) + j) ∧ ((0 ≤ (((5 : Int) * (zst p l z)) + j) ∧ (((5 : Int) * (zst p l z)) + j) < (25350 : Int)) ∧ (∃ Rc : Int → zS → Prop, zAM 140 [.inr (.inr (9, 0)), .inl i, .inl (t 62 (((5 : Int) * (zst p l z)) + j)), .inr (.inl (t 63 (((5 : Int) * (zst p l z)) + j))), .inl z] t Rc ∧ ∀ (u1 : zS), Rc 0 u1 → (zI (j + (1 : Int)) ∧ zRuns 139 zX0 (fun (v : Int) (u : zS) => R v u) 149 [some (.inr (.inr (9, 0))), some (.inl i), some (.inl p), some (.inl l), some (.inl z), some (.inl (zst p l z)), some (.inl (j + (1 : Int)))] [] u1)))))))))))
    have hz := zst_r (e := p) (l := l) (n := z) (by omega)
    have hBB := hB l z (by omega) (by omega) (by omega) (by omega)
    have hTn := hBB.1
    have e61 : t 61 = τ 61 := hf.1 61 (by decide)
    have e62 : t 62 = τ 62 := hf.1 62 (by decide)
    have e63 : t 63 = τ 63 := hf.1 63 (by decide)
    have e61z : t 61 (zst p l z) = τ 61 (zst p l z) := by rw [e61]
    refine ⟨by (omega), ?_⟩
    refine ⟨?_, ?_⟩
    · intro h1
      refine ⟨by (exact ⟨by omega, by omega⟩), ?_⟩
      obtain rfl : j = τ 61 (zst p l z) := by omega
      exact K t hf (zKL_all (by omega) hBB hK)
    · intro h2
      refine ⟨by (exact ⟨by omega, by omega⟩), ?_⟩
      refine ⟨by (exact ⟨by omega, by omega⟩), ?_⟩
      refine ⟨by (omega), ?_⟩
      refine ⟨by (exact ⟨by omega, by omega⟩), ?_⟩
      refine ⟨by (exact ⟨by omega, by omega⟩), ?_⟩
      refine ⟨by (omega), ?_⟩
      obtain ⟨r9, g9, -, x9, d9⟩ := (hBB.2.2.1 j j0.1 (by omega)).1
      have ez : (r9.length : Int) = z := g9.2.2.2
      have h12 : r9.length ≤ 12 := by omega
      have h01 : r9.length ≠ 0 := fun q => g9.2.1 (List.length_eq_zero_iff.mp q)
      have ex : t 63 (5 * zst p l z + j) = zrt (zgf r9) r9.length := by rw [e63]; exact x9
      have hnew := zKL_new (τ := τ) (b := zst p l z) (j := j) hBB ⟨j0.1, by omega⟩ g9 h12 x9
      rw [ex]
      simp only [← ez] at *
      refine ⟨_, am_X9_keep (f := zgf r9) (m9 := r9.length) (S := zKL τ (zst p l (r9.length : Int)) (r9.length : Int) j (zRS f P p l (r9.length : Int))) (hi) (zgf_let g9.1.1) (by omega) (hK) (hnew), ?_⟩
      intro u1
      intro kv1
      refine ⟨by (exact ⟨by omega, by omega⟩), ?_⟩
      refine ih (j + 1) u1 (by omega) ⟨by omega, by omega⟩ (hf.trans kv1.1) ⟨zTop.congr kv1.2.1 (fun y d => ?_), kv1.2.2⟩
      have hy := zKL_s (τ := τ) (b := zst p l (r9.length : Int)) (z := (r9.length : Int)) (n := j) (S := zRS f P p l (r9.length : Int)) (y := y) (e := d) j0.1
      rw [show τ 63 (5 * zst p l (r9.length : Int) + j) = zrt (zgf r9) r9.length from x9, zlf_lc] at hy
      rw [e62]
      exact hy
set_option maxRecDepth 100000 in
set_option maxHeartbeats 4000000 in
theorem lp_kn130 {l : Int} {i : Int} {p : Int} {f : Int → Int → Int → Int} {P : Int → Int → Int} {τ : zS} {R : Int → zS → Prop} (hi : 0 ≤ i ∧ i < 40) (hp : 0 ≤ p ∧ p ≤ 14) (hB : ∀ l n : Int, 0 ≤ l → l < 26 → 1 ≤ n → n ≤ 12 → zTM τ (zst p l n) (zSM f P p l n (fun _ => True))) (hl : 0 ≤ l ∧ l < 26) (K : ∀ t : zS, zKG τ t i → zKP t i (zRS f P p (l + 1) 1) → zRuns 139 zX0 R 121 [some (.inr (.inr (9, 0))), some (.inl i), some (.inl p), some (.inl (l + 1)), none, none, none] [] t) : ∀ (n : Nat) (z : Int) (t : zS), 13 - z < (n : Int) → (1 ≤ z ∧ z ≤ 13) → (zKG τ t i) → (zKP t i (zRS f P p l z)) → zRuns 139 zX0 (fun (v : Int) (u : zS) => R v u) 130 [some (.inr (.inr (9, 0))), some (.inl i), some (.inl p), some (.inl l), some (.inl z), none, none] [] t := by
  intro n
  induction n with
  | zero =>
    intro z t hn z0 hf hK
    exfalso
    omega
  | succ n ih =>
    intro z t hn z0 hf hK
    refine zwalk zmk_139 [(39, [true, true, true, true, false, false, false]), (61, [true, true, true, true, false, false, false]), (69, [true, true, true, true, true, false, false]), (84, [true, true, true, true, true, true, false]), (121, [true, true, true, true, false, false, false]), (130, [true, true, true, true, true, false, false]), (149, [true, true, true, true, true, true, true])] 3 ?_
    show (((13 : Int) ≤ z → (zI (l + (1 : Int)) ∧ zRuns 139 zX0 (fun (v : Int) (u : zS) => R v u) 121 [some (.inr (.inr (9, 0))), some (.inl i), some (.inl p), some (.inl (l + (1 : Int))), none, none, none] [] t)) ∧ (z < (13 : Int) → (∃ Rc : Int → zS → Prop, zAM 136 [.inl p, .inl l, .inl z] t Rc ∧ ∀ (v1 : Int) (u1 : zS), zI v1 → Rc v1 u1 → zRuns 139 zX0 (fun (v : Int) (u : zS) => R v u) 149 [some (.inr (.inr (9, 0))), some (.inl i), some (.inl p), some (.inl l), some (.inl z), some (.inl v1), some (.inl (0 : Int))] [] u1)))
    refine ⟨?_, ?_⟩
    · intro h1
      refine ⟨by (exact ⟨by omega, by omega⟩), ?_⟩
      obtain rfl : z = 13 := by omega
      exact K t hf ⟨zTop.congr hK.1 (fun y d => zRS_row), hK.2⟩
    · intro h2
      refine ⟨_, am_X9_state (by omega), ?_⟩
      intro v1 u1 hv1
      rintro ⟨rfl, ev1⟩
      obtain ⟨hv1a, hv1b⟩ := hv1
      obtain rfl : v1 = zst p l z := ev1.symm
      have hBB := hB l z (by omega) (by omega) (by omega) (by omega)
      have hTn := hBB.1
      exact lp_kn149 hi hp hB ⟨by omega, by omega, by omega, by omega⟩ (fun t9 g1 g2 => ih (z + 1) t9 (by omega) ⟨by omega, by omega⟩ g1 g2) 6 0 t (by omega) ⟨by omega, by omega⟩ hf ⟨zTop.congr hK.1 (fun y d => zKL_0), hK.2⟩
set_option maxRecDepth 100000 in
set_option maxHeartbeats 4000000 in
theorem lp_kn121 {i : Int} {p : Int} {f : Int → Int → Int → Int} {P : Int → Int → Int} {τ : zS} (hi : 0 ≤ i ∧ i < 40) (hp : 0 ≤ p ∧ p ≤ 14) (hB : ∀ l n : Int, 0 ≤ l → l < 26 → 1 ≤ n → n ≤ 12 → zTM τ (zst p l n) (zSM f P p l n (fun _ => True))) : ∀ (n : Nat) (l : Int) (t : zS), 26 - l < (n : Int) → (0 ≤ l ∧ l ≤ 26) → (zKG τ t i) → (zKP t i (zRS f P p l 1)) → zRuns 139 zX0 (fun (v : Int) (u : zS) => zKG τ u i ∧ zKP u i (zSD f P p)) 121 [some (.inr (.inr (9, 0))), some (.inl i), some (.inl p), some (.inl l), none, none, none] [] t := by
  intro n
  induction n with
  | zero =>
    intro l t hn l0 hf hK
    exfalso
    omega
  | succ n ih =>
    intro l t hn l0 hf hK
    refine zwalk zmk_139 [(39, [true, true, true, true, false, false, false]), (61, [true, true, true, true, false, false, false]), (69, [true, true, true, true, true, false, false]), (84, [true, true, true, true, true, true, false]), (121, [true, true, true, true, false, false, false]), (130, [true, true, true, true, true, false, false]), (149, [true, true, true, true, true, true, true])] 3 ?_
    show (((26 : Int) ≤ l → (zKG τ t i ∧ zKP t i (zSD f P p))) ∧ (l < (26 : Int) → zRuns 139 zX0 (fun (v : Int) (u : zS) => zKG τ u i ∧ zKP u i (zSD f P p)) 130 [some (.inr (.inr (9, 0))), some (.inl i), some (.inl p), some (.inl l), some (.inl (1 : Int)), none, none] [] t))
    refine ⟨?_, ?_⟩
    · intro h1
      obtain rfl : l = 26 := by omega
      exact ⟨hf, zTop.congr hK.1 (fun y d => zRS_end), hK.2⟩
    · intro h2
      exact lp_kn130 hi hp hB ⟨by omega, by omega⟩ (fun t9 g1 g2 => ih (l + 1) t9 (by omega) ⟨by omega, by omega⟩ g1 g2) 13 1 t (by omega) ⟨by omega, by omega⟩ hf hK
theorem zKP_0 {σ : zS} {i : Int} {S : Int → Int → Prop} (h : σ 56 i = 0) (hS : ∀ y d, ¬ S y d) : zKP σ i S := by
  refine ⟨?_, fun j j0 j1 => by omega⟩
  rw [h]
  exact zTop_0.congr (fun y d => ⟨fun q => q.elim, fun q => hS y d q⟩)
theorem zSD_0 {f : Int → Int → Int → Int} {P : Int → Int → Int} {y d : Int} : ¬ zSD f P 0 y d := by
  rintro ⟨r, g, -⟩
  have h1 := zgl_pos g.1.1 g.2.1
  have h2 := g.1.2
  omega
theorem zQD_1 {f : Int → Int → Int → Int} {P : Int → Int → Int} {τ : zS} : zQD f P 1 (zfill τ 61 0 5070 0) ∧ zQE 1 (zfill τ 61 0 5070 0) := by
  have z : ∀ a l n : Int, 0 ≤ a → a ≤ 14 → 0 ≤ l → l < 26 → 1 ≤ n → n ≤ 12 → zTM (zfill τ 61 0 5070 0) (zst a l n) (fun _ _ => False) := fun a l n a0 a1 l0 l1 n0 n1 => by
    have h1 := zst_r (e := a) (l := l) (n := n) (by omega)
    have e : (zfill τ 61 0 5070 0) 61 (zst a l n) = 0 := if_pos ⟨rfl, by omega, by omega⟩
    unfold zTM
    rw [e]
    exact zTop_0
  refine ⟨fun a l n a0 a1 l0 l1 n0 n1 => (z a l n a0 (by omega) l0 l1 n0 n1).congr (fun y d => ⟨fun q => q.elim, ?_⟩), fun a l n a0 a1 l0 l1 n0 n1 => z a l n (by omega) a1 l0 l1 n0 n1⟩
  rintro ⟨r, g, -⟩
  have h1 := zgl_pos g.1.1 g.2.1
  have h2 := g.1.2
  omega
set_option maxRecDepth 100000 in
set_option maxHeartbeats 4000000 in
theorem am_X9_know {σ : zS} {i : Int} {p : Int} {f : Int → Int → Int → Int} {P : Int → Int → Int} (hi : 0 ≤ i ∧ i < 40) (hp : 0 ≤ p) (hb0 : 0 ≤ σ 45 i ∧ σ 45 i + p ≤ 40 ∧ σ 45 (i + 1) = σ 45 i + p) (hs : ∀ j : Int, σ 45 i ≤ j → j < σ 45 i + p → 0 ≤ σ 42 j ∧ σ 42 j < 12) (hc47 : ∀ j : Int, 0 ≤ j → j < 49660 → 0 ≤ σ 47 j ∧ σ 47 j ≤ 999) (hfm : p ≤ 14 → ∀ a k l : Int, 0 ≤ a → 1 ≤ k → k ≤ 3 → a + k ≤ p → 0 ≤ l → l < 26 → zmc σ l (σ 45 i + a) k = if f a k l < 0 then 1000000000 else f a k l) (hbd : p ≤ 14 → zgb f P p) (hP : ∀ x y : Int, 0 ≤ x → x < 26 → 0 ≤ y → y < 26 → 0 ≤ σ 47 (48984 + 26 * x + y) ∧ σ 47 (48984 + 26 * x + y) ≤ 999 ∧ 6 / (1 + σ 47 (48984 + 26 * x + y)) = P x y) : zAM 139 [.inr (.inr (9, 0)), .inl i] σ (fun (v : Int) (u : zS) => (¬ σ 55 i = 0 ∧ σ = u) ∨ (σ 55 i = 0 ∧ zfr [55, 56, 57, 58, 59, 61, 62, 63] σ u ∧ (∀ j : Int, ¬ j = i → u 55 j = σ 55 j ∧ u 56 j = σ 56 j) ∧ u 55 i = 1 ∧ (∀ j : Int, (j < 5 * i ∨ 5 * i + 5 ≤ j) → zk3 u σ j j) ∧ zKP u i (zSD f P (if 14 < p then 0 else p)))) := by
  refine zam (by decide) (Nat.le_of_ble_eq_true rfl) ?_
  refine zwalk zmk_139 [(39, [true, true, true, true, false, false, false]), (61, [true, true, true, true, false, false, false]), (69, [true, true, true, true, true, false, false]), (84, [true, true, true, true, true, true, false]), (121, [true, true, true, true, false, false, false]), (130, [true, true, true, true, true, false, false]), (149, [true, true, true, true, true, true, true])] 4 ?_
  show ((0 ≤ i ∧ i < (40 : Int)) ∧ (((σ 55 i) = 0 → ((((1 : Int) = 0 ∨ (1 : Int) = 1) ∧ 0 ≤ i ∧ i < (40 : Int)) ∧ ((0 ≤ i ∧ i < (40 : Int)) ∧ (∃ Rc : Int → zS → Prop, zAM 117 [.inr (.inr (9, 0)), .inl i] (zup (zup σ 55 i (1 : Int)) 56 i (0 : Int)) Rc ∧ ∀ (v1 : Int) (u1 : zS), zI v1 → Rc v1 u1 → ((v1 ≤ (14 : Int) → zRuns 139 zX0 (fun (v : Int) (u : zS) => (¬ σ 55 i = 0 ∧ σ = u) ∨ (σ 55 i = 0 ∧ zfr [55, 56, 57, 58, 59, 61, 62, 63] σ u ∧ (∀ j : Int, ¬ j = i → u 55 j = σ 55 j ∧ u 56 j = σ 56 j) ∧ u 55 i = 1 ∧ (∀ j : Int, (j < 5 * i ∨ 5 * i + 5 ≤ j) → zk3 u σ j j) ∧ zKP u i (zSD f P (if 14 < p then 0 else p)))) 39 [some (.inr (.inr (9, 0))), some (.inl i), some (.inl v1), some (.inl (0 : Int)), none, none, none] [] u1) ∧ ((14 : Int) < v1 → ((¬ σ 55 i = 0 ∧ σ = u1) ∨ (σ 55 i = 0 ∧ zfr [55, 56, 57, 58, 59, 61, 62, 63] σ u1 ∧ (∀ j : Int, ¬ j = i → u1 55 j = σ 55 j ∧ u1 56 j = σ 56 j) ∧ u1 55 i = 1 ∧ (∀ j : Int, (j < 5 * i ∨ 5 * i + 5 ≤ j) → zk3 u1 σ j j) ∧ zKP u1 i (zSD f P (if 14 < p then 0 else p)))))))))) ∧ (¬ (σ 55 i) = 0 → ((¬ σ 55 i = 0 ∧ σ = σ) ∨ (σ 55 i = 0 ∧ zfr [55, 56, 57, 58, 59, 61, 62, 63] σ σ ∧ (∀ j : Int, ¬ j = i → σ 55 j = σ 55 j ∧ σ 56 j = σ 56 j) ∧ σ 55 i = 1 ∧ (∀ j : Int, (j < 5 * i ∨ 5 * i + 5 ≤ j) → zk3 σ σ j j) ∧ zKP σ i (zSD f P (if 14 < p then 0 else p)))))))
  refine ⟨by (first | exact ⟨by omega, by omega⟩ | (exfalso; omega)), ?_⟩
  refine ⟨?_, ?_⟩
  · intro h1
    refine ⟨by (first | exact ⟨by omega, by omega⟩ | (exfalso; omega)), ?_⟩
    refine ⟨by (first | exact ⟨by omega, by omega⟩ | (exfalso; omega)), ?_⟩
    refine ⟨_, am_X9_many (hi) (show 0 ≤ σ 45 i ∧ σ 45 i ≤ 40 from ⟨by omega, by omega⟩) (show 0 ≤ σ 45 (i + 1) ∧ σ 45 (i + 1) ≤ 40 from ⟨by omega, by omega⟩), ?_⟩
    intro v1 u1 hv1
    rintro ⟨rfl, ev1⟩
    obtain ⟨hv1a, hv1b⟩ := hv1
    have ep : v1 = p := by rw [← ev1]; show σ 45 (i + 1) - σ 45 i = p; omega
    refine ⟨?_, ?_⟩
    · intro h2
      subst ep
      refine lp_kn39 (τ := (zup (zup σ 55 i 1) 56 i 0)) ?_ 5071 0 _ (by omega) ⟨by omega, by omega⟩ zfill_0.symm
      have q0 := zQD_1 (f := f) (P := P) (τ := (zup (zup σ 55 i 1) 56 i 0))
      have hp4 : v1 ≤ 14 := by omega
      refine lp_kn61 (σ := zfill (zup (zup σ 55 i 1) 56 i 0) 61 0 5070 0) hi ⟨hp, hp4⟩ ⟨hb0.1, hb0.2.1⟩ hs hc47 (hfm hp4) (hbd hp4) hP (fun t g1 g2 => ?_) (v1.toNat + 2) 1 _ (by omega) ⟨by omega, by omega⟩ zfr.rf q0.1 q0.2
      have e56 : t 56 i = 0 := by rw [g1 56 (by decide)]; show (zup (zup σ 55 i 1) 56 i 0) 56 i = 0; rw [zup_at, if_pos rfl]
      refine (lp_kn121 (τ := t) hi ⟨hp, hp4⟩ g2 27 0 t (by omega) ⟨by omega, by omega⟩ zKG.rf (zKP_0 e56 (fun y d => zRS_0))).mono (fun v u q => Or.inr ⟨by omega, fun k hk => ?_, fun j hj => ⟨?_, ?_⟩, ?_, fun j hj => ?_, ?_⟩)
      · have m1 : k ∉ [56, 57, 58, 59] := fun z => hk (by simp only [List.mem_cons, List.not_mem_nil, or_false] at z ⊢; omega)
        have m2 : k ∉ [61, 62, 63] := fun z => hk (by simp only [List.mem_cons, List.not_mem_nil, or_false] at z ⊢; omega)
        rw [q.1.1 k m1, g1 k m2]
        funext x
        show (if k = 61 ∧ _ then _ else (zup (zup σ 55 i 1) 56 i 0) k x) = _
        rw [if_neg (fun z => hk (by rw [z.1]; decide)), zup_ne (fun z => hk (by rw [z]; decide)), zup_ne (fun z => hk (by rw [z]; decide))]
      · rw [q.1.1 55 (by decide), g1 55 (by decide)]
        show (zup (zup σ 55 i 1) 56 i 0) 55 j = _
        rw [zup_ne (by decide), zup_at, if_neg hj]
      · rw [q.1.2.1 j hj, g1 56 (by decide)]
        show (zup (zup σ 55 i 1) 56 i 0) 56 j = _
        rw [zup_at, if_neg hj, zup_ne (by decide)]
      · rw [q.1.1 55 (by decide), g1 55 (by decide)]
        show (zup (zup σ 55 i 1) 56 i 0) 55 i = _
        rw [zup_ne (by decide), zup_at, if_pos rfl]
      · have z := q.1.2.2 j hj
        unfold zk3 at *
        rw [z.1, z.2.1, z.2.2, g1 57 (by decide), g1 58 (by decide), g1 59 (by decide)]
        exact ⟨rfl, rfl, rfl⟩
      · rw [if_neg (by omega)]; exact q.2
    · intro h3
      refine Or.inr ⟨by omega, (zfr.rf.up (c := 55) (by decide)).up (c := 56) (by decide), fun j hj => ⟨?_, ?_⟩, ?_, fun j hj => zk3.rf, zKP_0 ?_ (fun y d => ?_)⟩
      · rw [zup_ne (by decide), zup_at, if_neg hj]
      · rw [zup_at, if_neg hj, zup_ne (by decide)]
      · rw [zup_ne (by decide), zup_at, if_pos rfl]
      · rw [zup_at, if_pos rfl]
      · rw [if_pos (by omega)]; exact zSD_0
  · intro h4
    exact Or.inl ⟨by omega, rfl⟩
