/-! the two systems answer alike: teach -/
theorem zRel_rc {n : Int} {σ : zS} (h : zRel n σ) {i : Int} (hi : 0 ≤ i ∧ i < σ 2 10) {a k : Int} (a0 : 0 ≤ a) (k0 : 1 ≤ k) (k1 : k ≤ 3) (ak : a + k ≤ zqq σ i) : ∃ y : Int, (0 ≤ y ∧ y < 1884) ∧ zrc k (σ 18 (σ 20 i + a)) (σ 18 (σ 20 i + a + 1)) (σ 18 (σ 20 i + a + 2)) = zdc y ∧ ∀ l : Int, zsq σ l (σ 45 i + a) k = 1884 * l + y := by
  have hE := zrB_eq h.2.2.1
  have hq := zRel_qq h hi
  have eb := hE.2.2.2.1 i hi.1 (by omega)
  have eb2 := hE.2.2.2.2.1 i hi.1 hi.2
  have hsh : ∀ d : Int, 0 ≤ d → d < k → σ 18 (σ 20 i + a + d) = σ 42 (σ 20 i + a + d) ∧ 0 ≤ σ 42 (σ 20 i + a + d) ∧ σ 42 (σ 20 i + a + d) < 12 := fun d d0 d1 => by
    have := hE.2.2.1 (σ 20 i + a + d) (by omega) (by omega)
    exact ⟨this.2.1, by omega, by omega⟩
  have s0 := hsh 0 (by omega) (by omega)
  rw [Int.add_zero] at s0
  have ek : zrc k (σ 18 (σ 20 i + a)) (σ 18 (σ 20 i + a + 1)) (σ 18 (σ 20 i + a + 2)) = zrc k (σ 42 (σ 20 i + a)) (if 1 < k then σ 42 (σ 20 i + a + 1) else 0) (if 2 < k then σ 42 (σ 20 i + a + 2) else 0) := by
    rcases (show k = 1 ∨ k = 2 ∨ k = 3 by omega) with rfl | rfl | rfl
    · rw [s0.1]; rfl
    · rw [s0.1, (hsh 1 (by omega) (by omega)).1]; rfl
    · rw [s0.1, (hsh 1 (by omega) (by omega)).1, (hsh 2 (by omega) (by omega)).1]; rfl
  have hv : zvf k (σ 42 (σ 20 i + a)) (if 1 < k then σ 42 (σ 20 i + a + 1) else 0) (if 2 < k then σ 42 (σ 20 i + a + 2) else 0) := by
    refine ⟨⟨k0, k1⟩, s0.2, ?_, ?_⟩
    · by_cases z : 1 < k
      · rw [if_pos z]; exact Or.inr (hsh 1 (by omega) z).2
      · exact Or.inl (by omega)
    · by_cases z : 2 < k
      · rw [if_pos z]; exact Or.inr (hsh 2 (by omega) z).2
      · exact Or.inl (by omega)
  have e := zvf_sh hv
  refine ⟨_, e.1, by rw [ek, e.2], fun l => ?_⟩
  unfold zsq
  rw [← eb]
theorem zat_cg {f g : Int → Int → Int → Int} {w : Nat → Int} {m : Nat} {p N : Int} (hf : ∀ a k l : Int, 0 ≤ a → 1 ≤ k → k ≤ 3 → a + k ≤ p → 0 ≤ l → l < 26 → f a k l = g a k l) (hw : zlet w m) (hp : 0 ≤ p) (h : zsp f w m p N m 0 < N) : ∀ {k : Nat}, k ≤ m → zat f w m p N k = zat g w m p N k ∧ (k < m → zrwk f w m p N k = zrwk g w m p N k) := by
  have step : ∀ k : Nat, k < m → zat f w m p N k = zat g w m p N k → zrwk f w m p N k = zrwk g w m p N k := fun k hk e => by
    have ok := zat_ok hp h (k := k) (by omega)
    have e1 := zsp_congr hf hw (N := N) (m - k) (zat f w m p N k) (by omega) ok.1.1
    have er : ∀ r : Int, 1 ≤ r → r ≤ 3 → zat f w m p N k + r ≤ p → zrg f w m p N (k : Int) (zat f w m p N k) r = zrg g w m p N (k : Int) (zat f w m p N k) r := fun r r0 r1 r2 => by
      have e2 := zsp_congr hf hw (N := N) ((m : Int) - ((k : Int) + 1)).toNat (zat f w m p N k + r) (by omega) (by omega)
      have e3 := hw k hk
      unfold zrg zcn1
      rw [Int.toNat_natCast, e2, hf (zat f w m p N k) r (w k) ok.1.1 r0 r1 r2 e3.1 e3.2]
    unfold zrwk zrw1
    rw [← e, ← e1]
    by_cases c3 : zat f w m p N k + 3 ≤ p
    · rw [er 3 (by decide) (by decide) c3, er 2 (by decide) (by decide) (by omega)]
    · have x1 : ∀ q : Prop, ¬ (zat f w m p N k + 3 ≤ p ∧ q) := fun q z => c3 z.1
      rw [if_neg (x1 _), if_neg (x1 _)]
      by_cases c2 : zat f w m p N k + 2 ≤ p
      · rw [er 2 (by decide) (by decide) c2]
      · have x2 : ∀ q : Prop, ¬ (zat f w m p N k + 2 ≤ p ∧ q) := fun q z => c2 z.1
        rw [if_neg (x2 _), if_neg (x2 _)]
  intro k
  induction k with
  | zero => intro _; exact ⟨rfl, fun hk => step 0 hk rfl⟩
  | succ k ih =>
    intro hk
    obtain ⟨i1, i2⟩ := ih (by omega)
    have e : zat f w m p N (k + 1) = zat g w m p N (k + 1) := by rw [zat_s, zat_s, i1, i2 (by omega)]
    exact ⟨e, fun hk2 => step (k + 1) hk2 e⟩
theorem zoN_0 {ix : Nat → Int} {x : Int} : ∀ {n : Nat}, (∀ k : Nat, k < n → ¬ ix k = x) → zoN ix x n = 0
  | 0, _ => rfl
  | n + 1, h => by
    have e := zoN_0 (n := n) (fun k hk => h k (by omega))
    simp only [zoN, e]
    rw [if_neg (h n (by omega))]
    rfl
theorem zoQ_0 {ix : Nat → Int} {x : Int} : ∀ {n : Nat}, (∀ k : Nat, 0 < k → k < n → ¬ ix k = x) → zoQ ix x n = 0
  | 0, _ => rfl
  | n + 1, h => by
    have e := zoQ_0 (n := n) (fun k k0 hk => h k k0 (by omega))
    simp only [zoQ, e]
    rw [if_neg (fun z => h n z.1 (by omega) z.2)]
    rfl
theorem zoN_of {ix w rc : Nat → Int} {x l r : Int} : ∀ {n : Nat}, (∀ k : Nat, k < n → (ix k = x ↔ w k = l ∧ rc k = r)) → zoN ix x n = zof w rc l r n
  | 0, _ => rfl
  | n + 1, h => by
    have e := zoN_of (n := n) (fun k hk => h k (by omega))
    have q := h n (by omega)
    simp only [zoN, zof, e, q]
theorem zoQ_op {ix w : Nat → Int} {x a b : Int} : ∀ {n : Nat}, (∀ k : Nat, 0 < k → k < n → (ix k = x ↔ w (k - 1) = a ∧ w k = b)) → zoQ ix x n = zop w a b n
  | 0, _ => rfl
  | n + 1, h => by
    have e := zoQ_op (n := n) (fun k k0 hk => h k k0 (by omega))
    simp only [zoQ, zop, e]
    by_cases z : 0 < n
    · have q := h n z (by omega)
      simp only [q]
    · rw [if_neg (fun y => z y.1), if_neg (fun y => z y.1)]
theorem zRof_r {w rc : Nat → Int} {l r : Int} : ∀ {n : Nat}, 0 ≤ zof w rc l r n
  | 0 => by simp [zof]
  | n + 1 => by
    have e := zRof_r (w := w) (rc := rc) (l := l) (r := r) (n := n)
    simp only [zof]
    split <;> omega
theorem zRop_r {w : Nat → Int} {a b : Int} : ∀ {n : Nat}, 0 ≤ zop w a b n
  | 0 => by simp [zop]
  | n + 1 => by
    have e := zRop_r (w := w) (a := a) (b := b) (n := n)
    simp only [zop]
    split <;> omega
/-- the counts after a teaching agree -/
theorem zAGR_teach {N : Int} {tl tr f g f' g' : Int → Int} {w rc ix : Nat → Int} {m : Nat} (h : zAGR N tl tr f g) (hN : 0 ≤ N ∧ N ≤ 512) (hw : zlet w m) (hix : ∀ k : Nat, k < m → ∃ y : Int, (0 ≤ y ∧ y < 1884) ∧ rc k = zdc y ∧ ix k = 1884 * w k + y ∧ ¬ g (1884 * w k + y) = 0) (c1 : ∀ j : Int, 0 ≤ j → j < N → f' (676 + j) = min 999 (f (676 + j) + zof w rc (tl j) (tr j) m)) (c2 : ∀ a b : Int, 0 ≤ a → a < 26 → 0 ≤ b → b < 26 → f' (a * 26 + b) = min 999 (f (a * 26 + b) + zop w a b m)) (c3 : ∀ x : Int, 676 + N ≤ x → f' x = f x) (c4 : ∀ x : Int, 0 ≤ x → x < 49660 → g' x = min 999 (g x + zoN ix x m + zoQ (fun j : Nat => 48984 + 26 * w (j - 1) + w j) x m)) : zAGR N tl tr f' g' := by
  obtain ⟨a, b, c, d, e⟩ := h
  have hq0 : ∀ x : Int, x < 48984 → zoQ (fun j : Nat => 48984 + 26 * w (j - 1) + w j) x m = 0 := fun x hx => zoQ_0 (fun k k0 k1 z => by
    have z2 : 48984 + 26 * w (k - 1) + w k = x := z
    have y1 := hw k k1
    have y2 := hw (k - 1) (by omega)
    omega)
  have hn0 : ∀ x : Int, 48984 ≤ x → zoN ix x m = 0 := fun x hx => zoN_0 (fun k k1 z => by
    obtain ⟨y, y0, y1, y2, y3⟩ := hix k k1
    have y4 := hw k k1
    omega)
  have gb : ∀ x : Int, 0 ≤ x → x < 49660 → 0 ≤ g' x ∧ g' x ≤ 999 := fun x x0 x1 => by
    have y1 := e x x0 x1
    have y2 := zoN_r (ix := ix) (x := x) (n := m)
    have y3 := zoQ_r (ix := fun j : Nat => 48984 + 26 * w (j - 1) + w j) (x := x) (n := m)
    rw [c4 x x0 x1]
    omega
  refine ⟨fun l x h0 h1 h2 h3 => ?_, fun p q p0 p1 q0 q1 => ?_, fun j j0 j1 => by rw [c3 j j0]; exact c j j0 j1, fun j j0 j1 => ?_, gb⟩
  · have e1 := c4 (1884 * l + x) (by omega) (by omega)
    rw [hq0 _ (by omega), Int.add_zero] at e1
    rcases a l x h0 h1 h2 h3 with ⟨j, j0, j1, j2, j3, j4⟩ | ⟨j0, j1⟩
    · refine Or.inl ⟨j, j0, j1, j2, j3, ?_⟩
      rw [e1, c1 j j0 j1, j4, j2, j3, zoN_of (w := w) (rc := rc) (l := l) (r := zdc x) (fun k k1 => ?_)]
      obtain ⟨y, y0, y1, y2, y3⟩ := hix k k1
      have y4 := hw k k1
      constructor
      · intro z
        refine ⟨by omega, ?_⟩
        rw [y1, show y = x by omega]
      · rintro ⟨z1, z2⟩
        rw [y1] at z2
        have z3 : zRcd (zdc y) = zRcd (zdc x) := by rw [z2]
        rw [zRcd_dc y0, zRcd_dc ⟨h2, h3⟩] at z3
        omega
    · refine Or.inr ⟨j0, ?_⟩
      rw [e1, j1, zoN_0 (fun k k1 z => ?_)]
      · rfl
      · obtain ⟨y, y0, y1, y2, y3⟩ := hix k k1
        rw [← y2, z] at y3
        exact y3 j1
  · rw [c2 p q p0 p1 q0 q1, c4 _ (by omega) (by omega), hn0 _ (by omega), Int.add_zero, b p q p0 p1 q0 q1, zoQ_op (w := w) (a := p) (b := q) (fun k k0 k1 => ?_)]
    have y1 := hw k k1
    have y2 := hw (k - 1) (by omega)
    show 48984 + 26 * w (k - 1) + w k = 48984 + 26 * p + q ↔ _
    constructor
    · intro z
      exact ⟨by omega, by omega⟩
    · rintro ⟨z1, z2⟩
      omega
  · have y := d j j0 j1
    by_cases z : j < 676
    · have e2 := c2 (j / 26) (j % 26) (by omega) (by omega) (by omega) (by omega)
      rw [show j / 26 * 26 + j % 26 = j by omega] at e2
      have e3 := zRop_r (w := w) (a := j / 26) (b := j % 26) (n := m)
      omega
    · by_cases z2 : j < 676 + N
      · have e2 := c1 (j - 676) (by omega) (by omega)
        rw [show 676 + (j - 676) = j by omega] at e2
        have e3 := zRof_r (w := w) (rc := rc) (l := tl (j - 676)) (r := tr (j - 676)) (n := m)
        omega
      · rw [c3 j (by omega)]
        exact y
