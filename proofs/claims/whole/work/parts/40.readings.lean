/-! readings: rows (how many pieces, which letter) one behind the other -/
def zgl : List (Int × Int) → Int
  | [] => 0
  | p :: r => p.1 + zgl r
def zgj (P : Int → Int → Int) (l : Int) : List (Int × Int) → Int
  | [] => 0
  | q :: _ => P l q.2
def zgc (f : Int → Int → Int → Int) (P : Int → Int → Int) : Int → List (Int × Int) → Int
  | _, [] => 0
  | a, p :: r => f a p.1 p.2 + zgj P p.2 r + zgc f P (a + p.1) r
def zgo (f : Int → Int → Int → Int) : Int → List (Int × Int) → Prop
  | _, [] => True
  | a, p :: r => (1 ≤ p.1 ∧ p.1 ≤ 3 ∧ 0 ≤ p.2 ∧ p.2 < 26 ∧ 0 ≤ f a p.1 p.2) ∧ zgo f (a + p.1) r
def zgh : List (Int × Int) → Int
  | [] => -1
  | p :: _ => p.2
def zgt : Int → List (Int × Int) → Int
  | d, [] => d
  | _, p :: r => zgt p.2 r
def zgf : List (Int × Int) → Nat → Int
  | [], _ => 0
  | p :: _, 0 => p.2
  | _ :: r, k + 1 => zgf r k
def zgw (r : List (Int × Int)) : Int := zlc (zgf r) r.length
def zgr (r : List (Int × Int)) : Int := zrt (zgf r) r.length
theorem zgl_app {r s : List (Int × Int)} : zgl (r ++ s) = zgl r + zgl s := by
  induction r with
  | nil => simp [zgl]
  | cons p r ih => simp only [List.cons_append, zgl, ih]; omega
theorem zgo_app {f : Int → Int → Int → Int} {r s : List (Int × Int)} : ∀ {a : Int}, zgo f a (r ++ s) ↔ zgo f a r ∧ zgo f (a + zgl r) s := by
  induction r with
  | nil => intro a; simp [zgo, zgl]
  | cons p r ih => intro a; simp only [List.cons_append, zgo, zgl, ih, and_assoc, Int.add_assoc]
theorem zgt_snoc {r : List (Int × Int)} {p : Int × Int} : ∀ {d : Int}, zgt d (r ++ [p]) = p.2 := by
  induction r with
  | nil => intro d; rfl
  | cons q r ih => intro d; exact ih
theorem zgc_snoc {f : Int → Int → Int → Int} {P : Int → Int → Int} {p : Int × Int} : ∀ {r : List (Int × Int)} {a d : Int}, r ≠ [] → zgc f P a (r ++ [p]) = zgc f P a r + P (zgt d r) p.2 + f (a + zgl r) p.1 p.2
  | [], _, _, h => absurd rfl h
  | [q], a, d, _ => by
    simp only [List.cons_append, List.nil_append, zgc, zgj, zgt, zgl, Int.add_zero]
  | q :: q2 :: r, a, d, _ => by
    have ih := zgc_snoc (f := f) (P := P) (p := p) (r := q2 :: r) (a := a + q.1) (d := q.2) (by simp)
    have e : zgc f P a (q :: q2 :: r ++ [p]) = f a q.1 q.2 + P q.2 q2.2 + zgc f P (a + q.1) (q2 :: r ++ [p]) := rfl
    have e2 : zgc f P a (q :: q2 :: r) = f a q.1 q.2 + P q.2 q2.2 + zgc f P (a + q.1) (q2 :: r) := rfl
    have e3 : zgl (q :: q2 :: r) = q.1 + zgl (q2 :: r) := rfl
    have e4 : zgt d (q :: q2 :: r) = zgt q.2 (q2 :: r) := rfl
    rw [e, e2, e3, e4, ih, show a + (q.1 + zgl (q2 :: r)) = a + q.1 + zgl (q2 :: r) by omega]
    omega
theorem zgl_len {f : Int → Int → Int → Int} : ∀ {r : List (Int × Int)} {a : Int}, zgo f a r → (r.length : Int) ≤ zgl r ∧ zgl r ≤ 3 * (r.length : Int)
  | [], _, _ => by simp [zgl]
  | p :: r, a, h => by
    have := zgl_len h.2
    have h1 := h.1
    simp only [zgl, List.length_cons]
    omega
theorem zgl_pos {f : Int → Int → Int → Int} {r : List (Int × Int)} {a : Int} (h : zgo f a r) (hr : r ≠ []) : 1 ≤ zgl r := by
  have := zgl_len h
  cases r with
  | nil => exact absurd rfl hr
  | cons p r => simp only [List.length_cons] at this; omega
theorem zgf_let {f : Int → Int → Int → Int} : ∀ {r : List (Int × Int)} {a : Int}, zgo f a r → zlet (zgf r) r.length
  | [], _, _ => fun k hk => absurd hk (by simp)
  | p :: r, a, h => fun k hk => by
    cases k with
    | zero => exact ⟨h.1.2.2.1, h.1.2.2.2.1⟩
    | succ k => exact zgf_let h.2 k (by simp only [List.length_cons] at hk; omega)
theorem zgf_app {s : List (Int × Int)} : ∀ {r : List (Int × Int)} {k : Nat}, k < r.length → zgf (r ++ s) k = zgf r k
  | [], _, h => absurd h (by simp)
  | _ :: _, 0, _ => rfl
  | _ :: r, k + 1, h => zgf_app (r := r) (by simp only [List.length_cons] at h; omega)
theorem zgf_last {p : Int × Int} : ∀ {r : List (Int × Int)}, zgf (r ++ [p]) r.length = p.2
  | [] => rfl
  | _ :: r => zgf_last (r := r)
theorem zrt_congr {f g : Nat → Int} : ∀ {n : Nat}, (∀ k, k < n → f k = g k) → zrt f n = zrt g n
  | 0, _ => rfl
  | n + 1, h => by simp only [zrt, zrt_congr (n := n) (fun k hk => h k (by omega)), h n (by omega)]
theorem zgr_snoc {r : List (Int × Int)} {p : Int × Int} : zgr (r ++ [p]) = 32 * zgr r + p.2 := by
  unfold zgr
  rw [List.length_append]
  show 32 * zrt (zgf (r ++ [p])) r.length + zgf (r ++ [p]) r.length = _
  rw [zgf_last, zrt_congr (fun k hk => zgf_app hk)]
theorem zdw_cons {f : Nat → Int} : ∀ {n : Nat}, zdw f (n + 1) = (f 0 + 1) * 32 ^ n + zdw (fun k => f (k + 1)) n
  | 0 => by simp [zdw]
  | n + 1 => by
    have ih := zdw_cons (f := f) (n := n)
    have e1 : zdw f (n + 1 + 1) = 32 * zdw f (n + 1) + (f (n + 1) + 1) := rfl
    have e2 : zdw (fun k => f (k + 1)) (n + 1) = 32 * zdw (fun k => f (k + 1)) n + (f (n + 1) + 1) := rfl
    rw [e1, e2, ih, zp_s]
    have := Int.mul_assoc (f 0 + 1) (32 ^ n) 32
    omega
theorem zlc_32 {f : Nat → Int} {n : Nat} (hn : n ≤ 11) : zlc f n = 32 * (zdw f n * 32 ^ (11 - n)) := by
  unfold zlc
  have e : (32 : Int) ^ (12 - n) = 32 ^ (11 - n) * 32 := by rw [← Int.pow_succ]; congr 1; omega
  rw [e, ← Int.mul_assoc, Int.mul_comm]
theorem zgw_cons {p : Int × Int} {r : List (Int × Int)} (hr : r.length ≤ 11) : zgw (p :: r) = zgw r / 32 + (p.2 + 1) * 36028797018963968 := by
  have e0 : zgw (p :: r) = zdw (zgf (p :: r)) (r.length + 1) * 32 ^ (12 - (r.length + 1)) := rfl
  have e1 : (fun k => zgf (p :: r) (k + 1)) = zgf r := rfl
  have e2 : zgf (p :: r) 0 = p.2 := rfl
  rw [e0, zdw_cons, e1, e2, show 12 - (r.length + 1) = 11 - r.length by omega]
  have e3 : zgw r = 32 * (zdw (zgf r) r.length * 32 ^ (11 - r.length)) := zlc_32 hr
  rw [e3, Int.mul_ediv_cancel_left _ (by decide), Int.add_mul, Int.mul_assoc, ← Int.pow_add, show r.length + (11 - r.length) = 11 by omega]
  have e4 : (32 : Int) ^ 11 = 36028797018963968 := by decide
  rw [e4]; omega
theorem zgw_mod {f : Int → Int → Int → Int} {r : List (Int × Int)} {a : Int} (h : zgo f a r) (hr : r.length ≤ 12) : zgw r % 32 = 0 ↔ r.length ≤ 11 := by
  have hd := zlc_dig (zgf_let h) hr (k := 11) (by decide)
  rw [show 11 - 11 = 0 by rfl, Int.pow_zero, Int.ediv_one] at hd
  have e : zgw r % 32 = if 11 < r.length then zgf r 11 + 1 else 0 := hd
  rw [e]
  by_cases q : 11 < r.length
  · rw [if_pos q]
    have := zgf_let h 11 q
    omega
  · rw [if_neg q]
    omega
theorem zgw_r {f : Int → Int → Int → Int} {r : List (Int × Int)} {a : Int} (h : zgo f a r) (hr : r.length ≤ 12) : 0 ≤ zgw r ∧ zgw r < 1152921504606846976 := zlc_lt (zgf_let h) hr
theorem zrt_lt {f : Nat → Int} : ∀ {n : Nat}, zlet f n → 0 ≤ zrt f n ∧ zrt f n < 32 ^ n
  | 0, _ => ⟨by simp [zrt], by simp [zrt]⟩
  | n + 1, h => by
    have h1 := zrt_lt (n := n) (h.le (by omega))
    have h2 := h n (by omega)
    rw [zp_s]
    simp only [zrt]
    omega
theorem z32_12 {n : Nat} (h : n ≤ 12) : (32 : Int) ^ n ≤ 1152921504606846976 := by
  have e : (1152921504606846976 : Int) = 32 ^ 12 := by decide
  have e2 : (32 : Int) ^ 12 = 32 ^ n * 32 ^ (12 - n) := by rw [← Int.pow_add]; congr 1; omega
  have p1 := zp_pos n
  have p2 := zp_pos (12 - n)
  rw [e, e2]
  have := Int.mul_le_mul_of_nonneg_left (show (1 : Int) ≤ 32 ^ (12 - n) by omega) (Int.le_of_lt p1)
  omega
theorem z32_11 {n : Nat} (h : n ≤ 11) : (32 : Int) ^ n ≤ 36028797018963968 := by
  have e : (36028797018963968 : Int) = 32 ^ 11 := by decide
  have e2 : (32 : Int) ^ 11 = 32 ^ n * 32 ^ (11 - n) := by rw [← Int.pow_add]; congr 1; omega
  have p1 := zp_pos n
  have p2 := zp_pos (11 - n)
  rw [e, e2]
  have := Int.mul_le_mul_of_nonneg_left (show (1 : Int) ≤ 32 ^ (11 - n) by omega) (Int.le_of_lt p1)
  omega
theorem zgr_r {f : Int → Int → Int → Int} {r : List (Int × Int)} {a : Int} (h : zgo f a r) (hr : r.length ≤ 12) : 0 ≤ zgr r ∧ zgr r < 1152921504606846976 := by
  have h1 := zrt_lt (zgf_let h)
  have := z32_12 hr
  have e : zgr r = zrt (zgf r) r.length := rfl
  omega
theorem zgr_r11 {f : Int → Int → Int → Int} {r : List (Int × Int)} {a : Int} (h : zgo f a r) (hr : r.length ≤ 11) : 0 ≤ zgr r ∧ zgr r < 36028797018963968 := by
  have h1 := zrt_lt (zgf_let h)
  have := z32_11 hr
  have e : zgr r = zrt (zgf r) r.length := rfl
  omega
/-- what costs there are, within pieces up to p -/
def zgb (f : Int → Int → Int → Int) (P : Int → Int → Int) (p : Int) : Prop := (∀ a k l : Int, 0 ≤ a → 1 ≤ k → k ≤ 3 → a + k ≤ p → 0 ≤ l → l < 26 → f a k l ≤ 100) ∧ ∀ a b : Int, 0 ≤ a → a < 26 → 0 ≤ b → b < 26 → 0 ≤ P a b ∧ P a b ≤ 6
theorem zgc_b {f : Int → Int → Int → Int} {P : Int → Int → Int} {p : Int} (hb : zgb f P p) : ∀ {r : List (Int × Int)} {a : Int}, 0 ≤ a → zgo f a r → a + zgl r ≤ p → 0 ≤ zgc f P a r ∧ zgc f P a r ≤ 106 * (r.length : Int)
  | [], _, _, _, _ => by simp [zgc]
  | q :: r, a, h0, h, hl => by
    have h1 := h.1
    have hl2 : a + (q.1 + zgl r) ≤ p := hl
    have h2 := zgl_len h.2
    have ih := zgc_b hb (r := r) (a := a + q.1) (by omega) h.2 (by omega)
    have e1 := hb.1 a q.1 q.2 h0 h1.1 h1.2.1 (by omega) h1.2.2.1 h1.2.2.2.1
    have e2 : 0 ≤ zgj P q.2 r ∧ zgj P q.2 r ≤ 6 := by
      cases r with
      | nil => simp [zgj]
      | cons s r => exact hb.2 _ _ h1.2.2.1 h1.2.2.2.1 h.2.1.2.2.1 h.2.1.2.2.2.1
    simp only [zgc, List.length_cons]
    omega
theorem zgo_congr {f g : Int → Int → Int → Int} {p : Int} (hf : ∀ a k l : Int, 0 ≤ a → 1 ≤ k → k ≤ 3 → a + k ≤ p → 0 ≤ l → l < 26 → f a k l = g a k l) : ∀ {r : List (Int × Int)} {a : Int}, 0 ≤ a → zgo f a r → a + zgl r ≤ p → zgo g a r
  | [], _, _, _, _ => trivial
  | q :: r, a, h0, h, hl => by
    have h1 := h.1
    have hl2 : a + (q.1 + zgl r) ≤ p := hl
    have h2 := zgl_len h.2
    refine ⟨?_, zgo_congr hf (by omega) h.2 (by omega)⟩
    rw [← hf a q.1 q.2 h0 h1.1 h1.2.1 (by omega) h1.2.2.1 h1.2.2.2.1]
    exact h1
theorem zgc_congr {f g : Int → Int → Int → Int} {P Q : Int → Int → Int} {p : Int} (hf : ∀ a k l : Int, 0 ≤ a → 1 ≤ k → k ≤ 3 → a + k ≤ p → 0 ≤ l → l < 26 → f a k l = g a k l) (hP : ∀ a b : Int, 0 ≤ a → a < 26 → 0 ≤ b → b < 26 → P a b = Q a b) : ∀ {r : List (Int × Int)} {a : Int}, 0 ≤ a → zgo f a r → a + zgl r ≤ p → zgc f P a r = zgc g Q a r
  | [], _, _, _, _ => rfl
  | q :: r, a, h0, h, hl => by
    have h1 := h.1
    have hl2 : a + (q.1 + zgl r) ≤ p := hl
    have h2 := zgl_len h.2
    have ih := zgc_congr hf hP (r := r) (a := a + q.1) (by omega) h.2 (by omega)
    have e1 := hf a q.1 q.2 h0 h1.1 h1.2.1 (by omega) h1.2.2.1 h1.2.2.2.1
    have e2 : zgj P q.2 r = zgj Q q.2 r := by
      cases r with
      | nil => rfl
      | cons s r => exact hP _ _ h1.2.2.1 h1.2.2.2.1 h.2.1.2.2.1 h.2.1.2.2.2.1
    simp only [zgc, ih, e1, e2]
/-- whole readings of an ink of p pieces, in words of 12 letters at most -/
def zRD (f : Int → Int → Int → Int) (p : Int) (r : List (Int × Int)) : Prop := (zgo f 0 r ∧ zgl r = p) ∧ r ≠ [] ∧ r.length ≤ 12
/-- what they offer, by left codes -/
def zSD (f : Int → Int → Int → Int) (P : Int → Int → Int) (p : Int) (x d : Int) : Prop := ∃ r, zRD f p r ∧ x = zgw r ∧ d = zgc f P 0 r
theorem zSD_congr {f g : Int → Int → Int → Int} {P Q : Int → Int → Int} {p : Int} (hf : ∀ a k l : Int, 0 ≤ a → 1 ≤ k → k ≤ 3 → a + k ≤ p → 0 ≤ l → l < 26 → f a k l = g a k l) (hP : ∀ a b : Int, 0 ≤ a → a < 26 → 0 ≤ b → b < 26 → P a b = Q a b) {x d : Int} : zSD f P p x d ↔ zSD g Q p x d := by
  constructor
  · rintro ⟨r, ⟨⟨a, b⟩, c⟩, e1, e2⟩
    exact ⟨r, ⟨⟨zgo_congr hf (by omega) a (by omega), b⟩, c⟩, e1, by rw [e2]; exact zgc_congr hf hP (by omega) a (by omega)⟩
  · rintro ⟨r, ⟨⟨a, b⟩, c⟩, e1, e2⟩
    have hf' : ∀ a k l : Int, 0 ≤ a → 1 ≤ k → k ≤ 3 → a + k ≤ p → 0 ≤ l → l < 26 → g a k l = f a k l := fun a k l q1 q2 q3 q4 q5 q6 => (hf a k l q1 q2 q3 q4 q5 q6).symm
    exact ⟨r, ⟨⟨zgo_congr hf' (by omega) a (by omega), b⟩, c⟩, e1, by rw [e2]; exact zgc_congr hf' (fun a b q1 q2 q3 q4 => (hP a b q1 q2 q3 q4).symm) (by omega) a (by omega)⟩
/-! the class's heaps: rests from a on, that save s letters (ts at most), and begin with l -/
def zGC (f : Int → Int → Int → Int) (p ts a s l : Int) (r : List (Int × Int)) : Prop := (zgo f a r ∧ a + zgl r = p) ∧ r ≠ [] ∧ zgh r = l ∧ r.length ≤ 12 ∧ min ts (zgl r - (r.length : Int)) = s
/-- what they offer, of those that K picks -/
def zSC (f : Int → Int → Int → Int) (P : Int → Int → Int) (p ts a s l : Int) (K : List (Int × Int) → Prop) (x d : Int) : Prop := ∃ r, zGC f p ts a s l r ∧ K r ∧ x = zgw r ∧ d = zgc f P a r
/-- of rests that begin with row k, those whose rest is done: next letters below m, or m and savings below s -/
def zdn2 (ts k l m s : Int) (r : List (Int × Int)) : Prop := ∃ r', r = (k, l) :: r' ∧ r' ≠ [] ∧ (zgh r' < m ∨ zgh r' = m ∧ min ts (zgl r' - (r'.length : Int)) < s)
theorem zGC_12 {f : Int → Int → Int → Int} {p ts a s l : Int} (ha : 1 ≤ a) (hts : ts = max 0 (p - 12)) (hp : p ≤ 14) : (∀ r, zGC f p ts a s l r → r.length ≤ 11) ∨ ∀ r, zGC f p ts a s l r → r.length = 12 := by
  by_cases e : p - a - s = 12 ∧ s < ts
  · refine Or.inr (fun r hr => ?_)
    obtain ⟨⟨h1, h2⟩, h3, h4, h5, h6⟩ := hr
    omega
  · refine Or.inl (fun r hr => ?_)
    obtain ⟨⟨h1, h2⟩, h3, h4, h5, h6⟩ := hr
    have := zgl_len h1
    omega
/-- the step over one heap: what its first five give, with a row ahead -/
theorem zTop.step {f : Int → Int → Int → Int} {P : Int → Int → Int} {p ts a k l m s n n' : Int} {c w c' w' : Int → Int} {S : Int → Int → Prop} (ha : 0 ≤ a) (hk : 1 ≤ k) (hts : ts = max 0 (p - 12)) (hp : p ≤ 14)
    (h : zTop (zSC f P p ts (a + k) s m (fun _ => True)) n c w)
    (h' : zTop (fun y e => S y e ∨ ∃ i : Int, 0 ≤ i ∧ i < n ∧ w i % 32 = 0 ∧ y = w i / 32 + (l + 1) * 36028797018963968 ∧ e = c i + (f a k l + P l m)) n' c' w') :
    zTop (fun y e => S y e ∨ ∃ r', zGC f p ts (a + k) s m r' ∧ r'.length ≤ 11 ∧ y = zgw ((k, l) :: r') ∧ e = zgc f P a ((k, l) :: r')) n' c' w' := by
  have hc : ∀ r', zGC f p ts (a + k) s m r' → zgc f P a ((k, l) :: r') = zgc f P (a + k) r' + (f a k l + P l m) := fun r' hr => by
    obtain ⟨h1, h2, h3, -⟩ := hr
    cases r' with
    | nil => exact absurd rfl h2
    | cons q r' =>
      have e : q.2 = m := h3
      have e2 : zgc f P a ((k, l) :: q :: r') = f a k l + P l q.2 + zgc f P (a + k) (q :: r') := rfl
      rw [e2, e]; omega
  rcases zGC_12 (f := f) (p := p) (ts := ts) (a := a + k) (s := s) (l := m) (by omega) hts hp with g | g
  · refine zTop.ext (φ := fun x => x / 32 + (l + 1) * 36028797018963968) (δ := f a k l + P l m) (A := zSC f P p ts (a + k) s m (fun _ => True)) (S := S) h ?_ (h'.congr (fun y e => ?_)) (fun y e => ?_)
    · rintro x d y e ⟨r1, g1, -, e1, -⟩ ⟨r2, g2, -, e2, -⟩ hxy
      have m1 := (zgw_mod g1.1.1 g1.2.2.2.1).mpr (g r1 g1)
      have m2 := (zgw_mod g2.1.1 g2.2.2.2.1).mpr (g r2 g2)
      show x / 32 + _ < y / 32 + _
      rw [← e1] at m1
      rw [← e2] at m2
      omega
    · constructor
      · rintro (q | ⟨i, i0, i1, i2, i3, i4⟩)
        · exact Or.inl q
        · exact Or.inr ⟨i, i0, i1, i3, i4⟩
      · rintro (q | ⟨i, i0, i1, i3, i4⟩)
        · exact Or.inl q
        · obtain ⟨r1, g1, -, e1, -⟩ := (h.2.2.1 i i0 i1).1
          exact Or.inr ⟨i, i0, i1, by rw [e1]; exact (zgw_mod g1.1.1 g1.2.2.2.1).mpr (g r1 g1), i3, i4⟩
    · constructor
      · rintro (q | ⟨r', g1, g2, e1, e2⟩)
        · exact Or.inl q
        · exact Or.inr ⟨zgw r', zgc f P (a + k) r', ⟨r', g1, trivial, rfl, rfl⟩, by rw [e1, zgw_cons g2], by rw [e2, hc r' g1]⟩
      · rintro (q | ⟨x, d, ⟨r', g1, -, e1, e2⟩, e3, e4⟩)
        · exact Or.inl q
        · exact Or.inr ⟨r', g1, g r' g1, by rw [e3, e1, zgw_cons (g r' g1)], by rw [e4, e2, hc r' g1]⟩
  · refine h'.congr (fun y e => ?_)
    constructor
    · rintro (q | ⟨i, i0, i1, i2, i3, i4⟩)
      · exact Or.inl q
      · obtain ⟨r1, g1, -, e1, -⟩ := (h.2.2.1 i i0 i1).1
        rw [e1] at i2
        have := (zgw_mod g1.1.1 g1.2.2.2.1).mp i2
        have := g r1 g1
        omega
    · rintro (q | ⟨r', g1, g2, -, -⟩)
      · exact Or.inl q
      · have := g r' g1
        omega
/-- all that costs more than the last of five -/
theorem zTop.overs {S T : Int → Int → Prop} {n : Int} {c w : Int → Int} (h : zTop S n c w) (hn : n = 5) (hx : ∀ x d, T x d → ¬ zbe d x (c 4) (w 4)) : zTop (fun y e => S y e ∨ T y e) n c w := by
  subst hn
  obtain ⟨h1, h2, h3, h4⟩ := h
  have hl : ∀ i : Int, 0 ≤ i → i < 5 → i = 4 ∨ zbe (c i) (w i) (c 4) (w 4) := fun i a b => by
    by_cases e : i = 4
    · exact Or.inl e
    · exact Or.inr (h2 i 4 a (by omega) (by omega)).1
  refine ⟨h1, h2, fun i a b => ⟨Or.inl (h3 i a b).1, fun e he => ?_⟩, fun y e he => ?_⟩
  · rcases he with he | he
    · exact (h3 i a b).2 e he
    · have := hl i a b
      have := hx _ _ he
      rcases hl i a b with rfl | this
      · omega
      · omega
  · rcases he with he | he
    · exact h4 y e he
    · have h9 := hx _ _ he
      by_cases q : ∃ i : Int, 0 ≤ i ∧ i < 5 ∧ w i = y
      · exact Or.inl q
      · refine Or.inr ⟨rfl, fun i a b => ?_⟩
        have q1 : ¬ w i = y := fun q2 => q ⟨i, a, b, q2⟩
        rcases hl i a b with rfl | this
        · omega
        · omega
