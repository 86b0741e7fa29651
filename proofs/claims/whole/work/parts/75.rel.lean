/-! the relation of the two systems -/
theorem zga_congr {wx ws wx' ws' : Int → Int} : ∀ {n : Nat}, (∀ k : Nat, k < n → wx k = wx' k ∧ ws k = ws' k) → zpn ws n = zpn ws' n ∧ zga wx ws n = zga wx' ws' n ∧ zga ws ws n = zga ws' ws' n ∧ zdn ws n = zdn ws' n
  | 0, _ => ⟨rfl, rfl, rfl, rfl⟩
  | n + 1, h => by
    obtain ⟨a, b, c, d⟩ := zga_congr (n := n) (fun k hk => h k (by omega))
    obtain ⟨e, f⟩ := h n (by omega)
    refine ⟨?_, ?_, ?_, ?_⟩
    · simp only [zpn, a, f]
    · simp only [zga, a, b, e, f]
    · simp only [zga, a, c, f]
    · simp only [zdn, d, f]
theorem zdx_congr {wx ws wx' ws' : Int → Int} : ∀ {n : Nat}, (∀ k : Nat, k < n → wx k = wx' k ∧ ws k = ws' k) → zdx wx ws n = zdx wx' ws' n
  | 0, _ => by funext d; simp only [zdx]
  | n + 1, h => by
    have b := zdx_congr (n := n) (fun k hk => h k (by omega))
    obtain ⟨-, -, -, d⟩ := zga_congr (n := n) (fun k hk => h k (by omega))
    obtain ⟨e, f⟩ := h n (by omega)
    funext x
    simp only [zdx, b, d, e, f]
theorem zLM_congr {wx ws wx' ws' : Int → Int} {g : Int} {n : Nat} {u : zS} (h : ∀ k : Nat, k < n → wx k = wx' k ∧ ws k = ws' k) (k : zLM wx ws g n u) : zLM wx' ws' g n u := by
  obtain ⟨a, b, c, d⟩ := zga_congr h
  have e := zdx_congr h
  have x1 : zlX wx ws n = zlX wx' ws' n := b
  have x2 : zlX ws ws n = zlX ws' ws' n := c
  have x3 : zlN ws n = zlN ws' n := a
  have x4 : zlK wx ws g n = zlK wx' ws' g n := by unfold zlK; rw [x1, x3]
  have x5 : zlF wx ws g n = zlF wx' ws' g n := by unfold zlF; rw [x1, x3, x4]
  have x6 : zlT wx ws g n = zlT wx' ws' g n := by unfold zlT; rw [x1, x4, x5]
  have x7 : zlR wx ws g n = zlR wx' ws' g n := by unfold zlR; rw [x1, x5]
  have x8 : zlI wx ws g n = zlI wx' ws' g n := by funext j; unfold zlI; rw [x6, e, d]
  have x9 : zlO wx ws g n = zlO wx' ws' g n := by funext j; unfold zlO; rw [x6, x7, e, d]
  have x0 : zlL wx ws g n = zlL wx' ws' g n := by unfold zlL; rw [x6, e, d]
  unfold zLM at k ⊢
  rw [x1, x2, x3, x4, x5, x8, x9, x0, d, e] at k
  exact k
theorem zji_r {tf : Int → Int} {DX : Nat → Int} {j : Int} : ∀ d : Nat, 0 ≤ zji tf DX j d ∧ zji tf DX j d ≤ d
  | 0 => ⟨by simp [zji], by simp [zji]⟩
  | d + 1 => by
    have := zji_r (tf := tf) (DX := DX) (j := j) d
    simp only [zji]
    split <;> omega
def zRcd (r : Int) : Int := if r < 13 then r - 1 else if r < 169 then 12 + 12 * (r / 13 - 1) + (r % 13 - 1) else 156 + 144 * (r / 169 - 1) + 12 * (r / 13 % 13 - 1) + (r % 13 - 1)
def zdc (x : Int) : Int := if x < 12 then x + 1 else if x < 156 then ((x - 12) / 12 + 1) * 13 + (x - 12) % 12 + 1 else (((x - 156) / 144 + 1) * 13 + (x - 156) / 12 % 12 + 1) * 13 + (x - 156) % 12 + 1
theorem zRcd_dc {x : Int} (h : 0 ≤ x ∧ x < 1884) : zRcd (zdc x) = x := by
  unfold zdc
  by_cases a : x < 12
  · rw [if_pos a]
    unfold zRcd
    rw [if_pos (by omega)]
    omega
  · rw [if_neg a]
    by_cases b : x < 156
    · rw [if_pos b]
      have q1 : ∃ s t : Int, x = 12 + 12 * s + t ∧ (0 ≤ s ∧ s < 12) ∧ (0 ≤ t ∧ t < 12) := ⟨(x - 12) / 12, (x - 12) % 12, by omega, by omega, by omega⟩
      obtain ⟨s, t, rfl, hs, ht⟩ := q1
      have e1 : (12 + 12 * s + t - 12) / 12 = s := by omega
      have e2 : (12 + 12 * s + t - 12) % 12 = t := by omega
      rw [e1, e2]
      unfold zRcd
      rw [if_neg (by omega), if_pos (by omega)]
      omega
    · rw [if_neg b]
      have q1 : ∃ r s t : Int, x = 156 + 144 * r + 12 * s + t ∧ (0 ≤ r ∧ r < 12) ∧ (0 ≤ s ∧ s < 12) ∧ (0 ≤ t ∧ t < 12) := ⟨(x - 156) / 144, (x - 156) / 12 % 12, (x - 156) % 12, by omega, by omega, by omega, by omega⟩
      obtain ⟨r, s, t, rfl, hr, hs, ht⟩ := q1
      have e1 : (156 + 144 * r + 12 * s + t - 156) / 144 = r := by omega
      have e2 : (156 + 144 * r + 12 * s + t - 156) / 12 % 12 = s := by omega
      have e3 : (156 + 144 * r + 12 * s + t - 156) % 12 = t := by omega
      rw [e1, e2, e3]
      unfold zRcd
      rw [if_neg (by omega), if_neg (by omega)]
      omega
def zvf (m a b c : Int) : Prop := (1 ≤ m ∧ m ≤ 3) ∧ (0 ≤ a ∧ a < 12) ∧ (m < 2 ∨ 0 ≤ b ∧ b < 12) ∧ (m < 3 ∨ 0 ≤ c ∧ c < 12)
theorem zvf_sh {m a b c : Int} (h : zvf m a b c) : (0 ≤ zsh m a b c ∧ zsh m a b c < 1884) ∧ zdc (zsh m a b c) = zrc m a b c := by
  obtain ⟨h1, h2, h3, h4⟩ := h
  rcases (show m = 1 ∨ m = 2 ∨ m = 3 by omega) with rfl | rfl | rfl
  · have e1 : zsh 1 a b c = a := if_pos rfl
    have e2 : zrc 1 a b c = a + 1 := if_pos rfl
    rw [e1, e2]
    unfold zdc
    rw [if_pos (by omega)]
    omega
  · have e1 : zsh 2 a b c = 12 + 12 * a + b := rfl
    have e2 : zrc 2 a b c = (a + 1) * 13 + b + 1 := rfl
    rw [e1, e2]
    unfold zdc
    rw [if_neg (by omega), if_pos (by omega)]
    omega
  · have e1 : zsh 3 a b c = 156 + 144 * a + 12 * b + c := rfl
    have e2 : zrc 3 a b c = ((a + 1) * 13 + b + 1) * 13 + c + 1 := rfl
    rw [e1, e2]
    unfold zdc
    rw [if_neg (by omega), if_neg (by omega)]
    omega
/-- how often a letter was seen in a form, by the model's cells -/
def zRcn (σ : zS) : Int → Int → Int := fun l r => if (0 ≤ l ∧ l < 26) ∧ (0 ≤ zRcd r ∧ zRcd r < 1884) ∧ zdc (zRcd r) = r then σ 47 (1884 * l + zRcd r) else 0
theorem zRcn_dc {σ : zS} {l x : Int} (hl : 0 ≤ l ∧ l < 26) (hx : 0 ≤ x ∧ x < 1884) : zRcn σ l (zdc x) = σ 47 (1884 * l + x) := by
  unfold zRcn
  rw [zRcd_dc hx, if_pos ⟨hl, hx, rfl⟩]
theorem zRcn_sh {σ : zS} {l m a b c : Int} (hl : 0 ≤ l ∧ l < 26) (h : zvf m a b c) : zRcn σ l (zrc m a b c) = σ 47 (1884 * l + zsh m a b c) := by
  have := zvf_sh h
  rw [← this.2]
  exact zRcn_dc hl this.1
/-- the class's counts f (with its table of forms) and the model's counts g agree -/
def zAGR (N : Int) (tl tr f g : Int → Int) : Prop :=
  (∀ l x : Int, 0 ≤ l → l < 26 → 0 ≤ x → x < 1884 → (∃ j : Int, 0 ≤ j ∧ j < N ∧ tl j = l ∧ tr j = zdc x ∧ g (1884 * l + x) = f (676 + j)) ∨ ((∀ j : Int, 0 ≤ j → j < N → ¬ (tl j = l ∧ tr j = zdc x)) ∧ g (1884 * l + x) = 0)) ∧
  (∀ a b : Int, 0 ≤ a → a < 26 → 0 ≤ b → b < 26 → f (a * 26 + b) = g (48984 + 26 * a + b)) ∧
  (∀ j : Int, 676 + N ≤ j → j < 1188 → f j = 0) ∧
  (∀ j : Int, 0 ≤ j → j < 1188 → 0 ≤ f j ∧ f j ≤ 999) ∧
  ∀ j : Int, 0 ≤ j → j < 49660 → 0 ≤ g j ∧ g j ≤ 999
/-- the sheets -/
def zrA (σ : zS) : Prop := ∀ s : Int, 0 ≤ s → s < 8 → ((σ 11 s = 0 ∧ σ 37 s = 0) ∨ (σ 11 s = 1 ∧ σ 37 s = σ 12 s + 1)) ∧ (0 ≤ σ 12 s ∧ σ 12 s ≤ 2) ∧ (0 ≤ σ 13 s ∧ σ 13 s ≤ 80) ∧ σ 13 s = σ 38 s ∧ ∀ i : Int, 0 ≤ i → i < σ 13 s → σ 65 (80 * s + i) = σ 39 (80 * s + i)
/-- the line -/
def zrB (σ : zS) : Prop := ∃ m : Nat, m ≤ 40 ∧ σ 2 2 = (m : Int) ∧ (0 ≤ σ 2 3 ∧ σ 2 3 ≤ 100) ∧ σ 9 12 = σ 2 3 ∧ (∀ j : Int, 0 ≤ j → j < m → zPO (σ 15 j) (σ 16 j)) ∧ zLC (σ 15) (σ 16) (σ 2 3) m σ ∧ zLM (σ 15) (σ 16) (σ 2 3) m σ
/-- the table of forms -/
def zrT (σ : zS) : Prop := (0 ≤ σ 3 3 ∧ σ 3 3 ≤ 512) ∧ zUQ σ ∧ ∀ j : Int, 0 ≤ j → j < σ 3 3 → (0 ≤ σ 23 j ∧ σ 23 j < 26) ∧ ∃ x : Int, (0 ≤ x ∧ x < 1884) ∧ σ 24 j = zdc x
/-- what teachings can be taken back -/
def zrU (σ : zS) : Prop := (σ 3 8 = σ 9 20 ∧ 0 ≤ σ 3 8 ∧ σ 3 8 ≤ 50) ∧ (0 ≤ σ 3 6 ∧ 0 ≤ σ 9 17) ∧ (∀ j : Int, 0 ≤ j → j < σ 3 6 → 0 ≤ σ 25 j ∧ σ 25 j < 1188) ∧ (∀ j : Int, 0 ≤ j → j < σ 9 17 → 0 ≤ σ 48 j ∧ σ 48 j < 49660) ∧ (∀ s t : Int, 0 ≤ s → s ≤ t → t < σ 3 8 → σ 27 s ≤ σ 27 t ∧ σ 50 s ≤ σ 50 t) ∧ ∀ t : Int, 0 ≤ t → t < σ 3 8 → (0 ≤ σ 27 t ∧ σ 27 t ≤ σ 3 6) ∧ (0 ≤ σ 50 t ∧ σ 50 t ≤ σ 9 17) ∧ zAGR (σ 3 3) (σ 23) (σ 24) (zund (σ 25) (σ 26) (σ 27 t) (σ 3 6 - σ 27 t).toNat (σ 22)) (zund (σ 48) (σ 49) (σ 50 t) (σ 9 17 - σ 50 t).toNat (σ 47))
def zrC (σ : zS) : Prop := zrT σ ∧ zAGR (σ 3 3) (σ 23) (σ 24) (σ 22) (σ 47) ∧ zrU σ
/-- the word in hand -/
def zrD (σ : zS) : Prop := ∃ m : Nat, m ≤ 12 ∧ zlet (fun k : Nat => σ 53 k) m ∧ σ 4 0 = zlc (fun k : Nat => σ 53 k) m ∧ σ 4 1 = (m : Int) ∧ σ 9 25 = (m : Int)
/-- the list -/
def zrE (σ : zS) : Prop := (0 ≤ σ 4 3 ∧ σ 4 3 ≤ 30) ∧ σ 9 22 = σ 4 3 ∧ ∃ (W : Int → Nat → Int) (M : Int → Nat), zWC σ (σ 4 3) W M ∧ zWM σ (σ 4 3) W M
/-- the trace -/
def zrF (σ : zS) : Prop := (0 ≤ σ 0 10 ∧ σ 0 10 ≤ 16) ∧ σ 9 28 = σ 0 10 ∧ ∀ j : Int, 0 ≤ j → j < σ 0 10 → σ 10 j = σ 54 j
/-- what each side has at hand -/
noncomputable def zrG (σ : zS) : Prop := zIH σ (zRcn σ) (zPM σ) ∧ zMI σ
/-- how much n calls can have used -/
def zrN (n : Int) (σ : zS) : Prop := σ 3 3 ≤ n ∧ σ 3 6 + 2 * σ 9 25 ≤ 2 * n ∧ σ 9 17 + 2 * σ 9 25 ≤ 2 * n
noncomputable def zRel (n : Int) (σ : zS) : Prop := zrA σ ∧ σ 0 11 = σ 9 4 ∧ zrB σ ∧ zrC σ ∧ zrD σ ∧ zrE σ ∧ zrF σ ∧ zrG σ ∧ zrN n σ
theorem zrA_fr {σ u : zS} (e11 : u 11 = σ 11) (e12 : u 12 = σ 12) (e13 : u 13 = σ 13) (e65 : u 65 = σ 65) (e37 : u 37 = σ 37) (e38 : u 38 = σ 38) (e39 : u 39 = σ 39) (h : zrA σ) : zrA u := by
  unfold zrA
  rw [e11, e12, e13, e65, e37, e38, e39]
  exact h
theorem zrB_fr {σ u : zS} (e : ∀ c ∈ [2, 15, 16, 17, 18, 19, 20, 21, 41, 42, 43, 44, 45, 46], u c = σ c) (e5 : u 9 5 = σ 9 5) (e9 : u 9 9 = σ 9 9) (e11 : u 9 11 = σ 9 11) (e12 : u 9 12 = σ 9 12) (e13 : u 9 13 = σ 9 13) (h : zrB σ) : zrB u := by
  unfold zrB zLC zLM
  rw [e 2 (by decide), e 15 (by decide), e 16 (by decide), e 17 (by decide), e 18 (by decide), e 19 (by decide), e 20 (by decide), e 21 (by decide), e 41 (by decide), e 42 (by decide), e 43 (by decide), e 44 (by decide), e 45 (by decide), e 46 (by decide), e5, e9, e11, e12, e13]
  exact h
theorem zrC_fr {σ u : zS} (e : ∀ c ∈ [3, 22, 23, 24, 25, 26, 27, 47, 48, 49, 50], u c = σ c) (e17 : u 9 17 = σ 9 17) (e20 : u 9 20 = σ 9 20) (h : zrC σ) : zrC u := by
  unfold zrC zrT zrU zUQ
  rw [e 3 (by decide), e 22 (by decide), e 23 (by decide), e 24 (by decide), e 25 (by decide), e 26 (by decide), e 27 (by decide), e 47 (by decide), e 48 (by decide), e 49 (by decide), e 50 (by decide), e17, e20]
  exact h
theorem zrD_fr {σ u : zS} (e53 : u 53 = σ 53) (e0 : u 4 0 = σ 4 0) (e1 : u 4 1 = σ 4 1) (e25 : u 9 25 = σ 9 25) (h : zrD σ) : zrD u := by
  unfold zrD
  rw [e53, e0, e1, e25]
  exact h
theorem zrE_fr {σ u : zS} (e28 : u 28 = σ 28) (e51 : u 51 = σ 51) (e52 : u 52 = σ 52) (e3 : u 4 3 = σ 4 3) (e22 : u 9 22 = σ 9 22) (h : zrE σ) : zrE u := by
  unfold zrE zWC zWM
  rw [e28, e51, e52, e3, e22]
  exact h
theorem zrF_fr {σ u : zS} (e10 : u 10 = σ 10) (e54 : u 54 = σ 54) (e0 : u 0 10 = σ 0 10) (e28 : u 9 28 = σ 9 28) (h : zrF σ) : zrF u := by
  unfold zrF
  rw [e10, e54, e0, e28]
  exact h
theorem zRcn_fr {σ u : zS} (e47 : u 47 = σ 47) : zRcn u = zRcn σ ∧ zPM u = zPM σ := by
  constructor
  · funext l r; unfold zRcn; rw [e47]
  · funext l r; unfold zPM; rw [e47]
theorem zRff_fr {σ u : zS} {cnt : Int → Int → Int} (e : ∀ c ∈ [18, 19, 20], u c = σ c) : zff u cnt = zff σ cnt ∧ zqq u = zqq σ := by
  constructor
  · funext i; unfold zff; rw [e 18 (by decide), e 19 (by decide), e 20 (by decide)]
  · funext i; unfold zqq; rw [e 20 (by decide)]
theorem zIH_fr {σ u : zS} (e : ∀ c ∈ [2, 5, 18, 19, 20, 29, 30, 31, 32, 47], u c = σ c) (e4 : u 0 4 = σ 0 4 ∨ u 0 4 = -1) (h : zIH σ (zRcn σ) (zPM σ)) : zIH u (zRcn u) (zPM u) := by
  obtain ⟨a, b⟩ := zRff_fr (σ := σ) (u := u) (cnt := zRcn σ) (fun c hc => e c (by simp at hc ⊢; omega))
  obtain ⟨c, d⟩ := zRcn_fr (e 47 (by decide))
  rw [c, d]
  unfold zIH zHD zTH
  rw [a, b, e 2 (by decide), e 5 (by decide), e 29 (by decide), e 30 (by decide), e 31 (by decide), e 32 (by decide)]
  intro i i0 i1 i2
  rcases e4 with q | q
  · rw [q] at i2
    exact h i i0 i1 i2
  · omega
theorem zRMI_fr {σ u : zS} (e : ∀ c ∈ [42, 43, 45, 47, 55, 56, 57, 58, 59], u c = σ c) (e13 : u 9 13 = σ 9 13) (h : zMI σ) : zMI u := by
  unfold zMI zKP
  intro i i0 i1
  obtain ⟨a, b, c⟩ := zmft_fr (σ := σ) (t := u) (i := i) (e 42 (by decide)) (e 43 (by decide)) (e 45 (by decide)) (e 47 (by decide))
  rw [a, b, c, e 55 (by decide), e 56 (by decide), e 57 (by decide), e 58 (by decide), e 59 (by decide)]
  exact h i i0 (by rw [← e13]; exact i1)
theorem zMI_0 {u : zS} (h : ∀ j : Int, 0 ≤ j → j < 40 → u 55 j = 0) (h2 : u 9 13 ≤ 40) : zMI u := fun i i0 i1 => Or.inl (h i i0 (by omega))
theorem zIH_0 {u : zS} {cnt P : Int → Int → Int} (h : u 0 4 = -1) : zIH u cnt P := fun i i0 i1 i2 => absurd i2 (by omega)
theorem zrN_up {n : Int} {σ u : zS} (a : u 3 3 = σ 3 3) (b : u 3 6 = σ 3 6) (c : u 9 17 = σ 9 17) (d : u 9 25 = σ 9 25) (h : zrN n σ) : zrN (n + 1) u := by
  unfold zrN at h ⊢
  rw [a, b, c, d]
  omega
/-- what the line's cells of both sides share -/
theorem zrB_eq {σ : zS} (h : zrB σ) : (σ 2 10 = σ 9 13 ∧ σ 2 7 = σ 9 5 ∧ σ 2 11 = σ 9 11 ∧ σ 2 2 - σ 2 7 = σ 9 9) ∧ ((0 ≤ σ 2 10 ∧ σ 2 10 ≤ σ 2 7) ∧ (0 ≤ σ 2 7 ∧ σ 2 7 ≤ 40) ∧ 0 ≤ σ 2 2 ∧ σ 2 2 ≤ 40) ∧ (∀ j : Int, 0 ≤ j → j < σ 2 7 → σ 17 j = σ 41 j ∧ σ 18 j = σ 42 j ∧ σ 19 j = σ 43 j ∧ (0 ≤ σ 17 j ∧ σ 17 j ≤ 2000) ∧ 0 ≤ σ 18 j ∧ σ 18 j < 12) ∧ (∀ j : Int, 0 ≤ j → j ≤ σ 2 10 → σ 20 j = σ 45 j) ∧ (∀ j : Int, 0 ≤ j → j < σ 2 10 → σ 21 j = σ 46 j ∧ (0 ≤ σ 21 j ∧ σ 21 j ≤ 40) ∧ 0 ≤ σ 20 j ∧ σ 20 j < σ 20 (j + 1) ∧ σ 20 (j + 1) ≤ σ 2 7) ∧ σ 20 (σ 2 10) = σ 2 7 := by
  obtain ⟨m, hm, h22, -, -, hp, ⟨c1, c2, c3, c4, c5, c6⟩, d1, d2, d3, d4, d5, d6, d7, d8⟩ := h
  have b := zlF_b (wx := σ 15) (ws := σ 16) (g := σ 2 3) (n := m)
  have e9 := zdn_pn (σ 16) m
  have e8 : zlN (σ 16) m = zpn (σ 16) m := rfl
  refine ⟨⟨by omega, by omega, by omega, by omega⟩, ⟨⟨by omega, by omega⟩, ⟨by omega, by omega⟩, by omega, by omega⟩, fun j j0 j1 => ?_, fun j j0 j1 => ?_, fun j j0 j1 => ?_, ?_⟩
  · have a1 := c4 j j0 (by omega)
    have a2 := d5 j j0 (by omega)
    have a3 := zga_r (f := σ 15) (ws := σ 16) (P := fun x => 0 ≤ x ∧ x ≤ 2000) (n := m) (fun k hk _ => by have := hp k (by omega) (by omega); exact ⟨this.1, this.2.1⟩) j j0 (by omega)
    have a4 := zga_r (f := σ 16) (ws := σ 16) (P := fun x => 0 ≤ x ∧ x < 12) (n := m) (fun k hk q => by have := hp k (by omega) (by omega); unfold zPO at this; omega) j j0 (by omega)
    have a5 : zlX (σ 15) (σ 16) m j = zga (σ 15) (σ 16) m j := rfl
    have a6 : zlX (σ 16) (σ 16) m j = zga (σ 16) (σ 16) m j := rfl
    rw [a1.1, a1.2.1, a1.2.2, a2.1, a2.2.1, a2.2.2]
    exact ⟨rfl, rfl, rfl, a3, a4⟩
  · rw [c5 j j0 (by omega), d7 j j0 (by omega)]
  · have a1 := b.2.2.1 j j0 (by omega)
    have a2 := zji_r (tf := zlT (σ 15) (σ 16) (σ 2 3) m) (DX := zdx (σ 15) (σ 16) m) (j := j) (zdn (σ 16) m)
    have a3 := zdn_le (σ 16) m
    have a4 : zlI (σ 15) (σ 16) (σ 2 3) m j = zji (zlT (σ 15) (σ 16) (σ 2 3) m) (zdx (σ 15) (σ 16) m) j (zdn (σ 16) m) := rfl
    rw [c6 j j0 (by omega), d8 j j0 (by omega), c5 j j0 (by omega), c5 (j + 1) (by omega) (by omega)]
    exact ⟨rfl, by omega, by omega, by omega, by omega⟩
  · rw [c5 _ (by omega) (by omega), c2, b.2.2.2, c1]
theorem zrB_LF {σ : zS} (h : zrB σ) : zLF σ ∧ zMQ σ (σ 9 5) (σ 9 13) := by
  obtain ⟨a, b, c, d, e, f⟩ := zrB_eq h
  refine ⟨⟨by omega, by omega, fun i i0 i1 => ?_, fun j j0 j1 j2 => (c j j0 (by omega)).2.2.2.1⟩, ⟨by omega, by omega, by omega⟩, fun i i0 i1 => ?_, fun j j0 j1 => ?_⟩
  · have := e i i0 i1
    omega
  · have q := e i i0 (by omega)
    rw [d i i0 (by omega), d (i + 1) (by omega) (by omega)] at q
    omega
  · have q := c j j0 (by omega)
    omega
theorem zrA_CS {σ : zS} (h : zrA σ) : zCS σ ∧ zMS σ := by
  refine ⟨fun k hk => ?_, fun k hk => ?_⟩
  · have q := h k hk.1 hk.2
    omega
  · have q := h k hk.1 hk.2
    omega
