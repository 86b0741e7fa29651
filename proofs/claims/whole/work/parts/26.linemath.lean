/-! THE LINE as it follows from what was written: the places wx, the shapes ws of n pieces, the gap g -/
def zlN (ws : Int → Int) (n : Nat) : Int := zpn ws n
def zlX (wx ws : Int → Int) (n : Nat) : Int → Int := zga wx ws n
noncomputable def zlK (wx ws : Int → Int) (g : Int) (n : Nat) : Int := zbk (zlX wx ws n) g (zlN ws n).toNat
noncomputable def zlF (wx ws : Int → Int) (g : Int) (n : Nat) : Int → Int := fun j => if j = zlK wx ws g n then zlN ws n else zfs (zlX wx ws n) g (zlN ws n).toNat j
noncomputable def zlT (wx ws : Int → Int) (g : Int) (n : Nat) : Int → Int := ztf (zlX wx ws n) (zlF wx ws g n) (zlK wx ws g n)
noncomputable def zlR (wx ws : Int → Int) (g : Int) (n : Nat) : Int → Int → Int := znr (zlX wx ws n) (zlF wx ws g n)
theorem zmn_congr {x y : Int → Int} {a : Int} : ∀ (m : Nat) (s : Int), (∀ j : Int, a ≤ j → j < a + m → x j = y j) → zmn x a s m = zmn y a s m ∧ zmx x a s m = zmx y a s m
  | 0, s, _ => ⟨rfl, rfl⟩
  | m + 1, s, h => by
    obtain ⟨e1, e2⟩ := zmn_congr (x := x) (y := y) (a := a) m s (fun j p q => h j p (by omega))
    simp only [zmn, zmx, e1, e2, h (a + m) (by omega) (by omega)]
    exact ⟨trivial, trivial⟩
theorem zne_congr {x y : Int → Int} {p a : Int} : ∀ (m : Nat), (∀ j : Int, a ≤ j → j < a + m → x j = y j) → zne x p a m = zne y p a m
  | 0, _ => rfl
  | m + 1, h => by
    have e := zne_congr (x := x) (y := y) (p := p) (a := a) m (fun j p q => h j p (by omega))
    have r := zne_r (x := x) (p := p) (a := a) m
    have h1 := h (a + m) (by omega) (by omega)
    have h2 := h (zne x p a m) (by omega) (by omega)
    simp only [zne]
    rw [← e, h1, h2]
theorem ztf_congr {x y f f' : Int → Int} {n p N : Int} (hx : ∀ j : Int, 0 ≤ j → j < N → x j = y j) (hf : ∀ j : Int, 0 ≤ j → j ≤ n → f j = f' j) (hb : ∀ i : Int, 0 ≤ i → i < n → 0 ≤ f i ∧ f i ≤ f (i + 1) ∧ f (i + 1) ≤ N) : ztf x f n p = ztf y f' n p := by
  unfold ztf
  refine zfi_congr (fun j j0 j1 => ?_)
  have h1 := hb j j0 (by omega)
  obtain ⟨e1, -⟩ := zmn_congr (x := x) (y := y) (a := f j) (f (j + 1) - f j).toNat 5000 (fun q q1 q2 => hx q (by omega) (by omega))
  obtain ⟨-, e2⟩ := zmn_congr (x := x) (y := y) (a := f j) (f (j + 1) - f j).toNat (-1) (fun q q1 q2 => hx q (by omega) (by omega))
  unfold zIn
  rw [e1, e2, hf j j0 (by omega), hf (j + 1) (by omega) (by omega)]
theorem znr_congr {x y f f' : Int → Int} {n p N t : Int} (hx : ∀ j : Int, 0 ≤ j → j < N → x j = y j) (hf : ∀ j : Int, 0 ≤ j → j ≤ n → f j = f' j) (hb : ∀ i : Int, 0 ≤ i → i < n → 0 ≤ f i ∧ f i ≤ f (i + 1) ∧ f (i + 1) ≤ N) (t0 : 0 ≤ t) (t1 : t < n) : znr x f t p = znr y f' t p := by
  have h1 := hb t t0 t1
  unfold znr
  rw [zne_congr (x := x) (y := y) _ (fun q q1 q2 => hx q (by omega) (by omega)), hf t t0 (by omega), hf (t + 1) (by omega) (by omega)]
theorem ztf_r {x f : Int → Int} {n p : Int} (h : 0 ≤ n) : ztf x f n p = -1 ∨ 0 ≤ ztf x f n p ∧ ztf x f n p < n := by
  rcases zfi_r (P := zIn x f p) n.toNat with e | ⟨a, b, -⟩
  · exact Or.inl e
  · exact Or.inr ⟨a, by show zfi _ _ < n; omega⟩
theorem zjl_congr {tf tf' : Int → Int} {DX DX' : Nat → Int} : ∀ d : Nat, (∀ e, e < d → tf (DX e) = tf' (DX' e)) → zjl tf DX d = zjl tf' DX' d ∧ ∀ j, zji tf DX j d = zji tf' DX' j d
  | 0, _ => ⟨rfl, fun _ => rfl⟩
  | d + 1, h => by
    obtain ⟨a, b⟩ := zjl_congr (tf := tf) (tf' := tf') (DX := DX) (DX' := DX') d (fun e he => h e (by omega))
    simp only [zjl, zji, a, b, h d (by omega)]
    exact ⟨trivial, fun _ => trivial⟩
theorem zjo_congr {tf tf' : Int → Int} {nr nr' : Int → Int → Int} {DX DX' : Nat → Int} : ∀ d : Nat, (∀ e, e < d → tf (DX e) = tf' (DX' e) ∧ (0 ≤ tf (DX e) → nr (tf (DX e)) (DX e) = nr' (tf' (DX' e)) (DX' e))) → ∀ j, zjo tf nr DX j d = zjo tf' nr' DX' j d
  | 0, _ => fun _ => rfl
  | d + 1, h => by
    intro j
    have a := zjo_congr (tf := tf) (tf' := tf') (nr := nr) (nr' := nr') (DX := DX) (DX' := DX') d (fun e he => h e (by omega)) j
    obtain ⟨b, c⟩ := h d (by omega)
    simp only [zjo, a]
    congr 1
    rw [b] at c ⊢
    by_cases q : 0 ≤ tf' (DX' d)
    · rw [c q]
    · rw [if_neg (fun z => q z.1), if_neg (fun z => q z.1)]
/-- the inks' bounds, of the math -/
theorem zlF_b {wx ws : Int → Int} {g : Int} {n : Nat} : (0 ≤ zlK wx ws g n ∧ zlK wx ws g n ≤ zlN ws n) ∧ (0 ≤ zlN ws n ∧ zlN ws n ≤ n) ∧ (∀ i : Int, 0 ≤ i → i < zlK wx ws g n → 0 ≤ zlF wx ws g n i ∧ zlF wx ws g n i < zlF wx ws g n (i + 1) ∧ zlF wx ws g n (i + 1) ≤ zlN ws n) ∧ zlF wx ws g n (zlK wx ws g n) = zlN ws n := by
  have h1 := zbk_le (zlX wx ws n) g (zlN ws n).toNat
  have h2 := zpn_le ws n
  have h3 : zlN ws n = zpn ws n := rfl
  have h4 : zlK wx ws g n = zbk (zlX wx ws n) g (zlN ws n).toNat := rfl
  refine ⟨⟨by omega, by omega⟩, ⟨by omega, by omega⟩, fun i i0 i1 => ?_, if_pos rfl⟩
  have r1 := zfs_r (x := zlX wx ws n) (g := g) (n := (zlN ws n).toNat) (j := i) i0 (by omega)
  have e1 : zlF wx ws g n i = zfs (zlX wx ws n) g (zlN ws n).toNat i := if_neg (by omega)
  by_cases e : i + 1 = zlK wx ws g n
  · have e2 : zlF wx ws g n (i + 1) = zlN ws n := if_pos e
    rw [e1, e2]
    omega
  · have e2 : zlF wx ws g n (i + 1) = zfs (zlX wx ws n) g (zlN ws n).toNat (i + 1) := if_neg e
    have r2 := zfs_r (x := zlX wx ws n) (g := g) (n := (zlN ws n).toNat) (j := i + 1) (by omega) (by omega)
    have r3 := zfs_mono (x := zlX wx ws n) (g := g) (n := (zlN ws n).toNat) (i := i) (j := i + 1) i0 (by omega) (by omega)
    rw [e1, e2]
    omega
theorem zga_r {f ws : Int → Int} {P : Int → Prop} : ∀ {n : Nat}, (∀ k : Nat, k < n → ¬ ws k = 12 → P (f k)) → ∀ j : Int, 0 ≤ j → j < zpn ws n → P (zga f ws n j)
  | 0, _, j, a, b => by simp [zpn] at b; omega
  | n + 1, h, j, a, b => by
    by_cases c : ws n = 12
    · rw [(zpn_dot c).1] at b
      rw [(zpn_dot c).2]
      exact zga_r (fun k hk => h k (by omega)) j a b
    · rw [(zpn_pc c).1] at b
      rw [(zpn_pc c).2]
      split
      · exact h n (by omega) c
      · exact zga_r (fun k hk => h k (by omega)) j a (by omega)
