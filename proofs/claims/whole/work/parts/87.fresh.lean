/-! the store of fresh objects -/
def zS0 : zS := fun k j => if k = 0 ∧ j = 4 then -1 else if k = 2 ∧ j = 3 then 30 else if k = 9 ∧ j = 12 then 30 else 0
theorem zS0_k {k : Nat} (h0 : k ≠ 0) (h2 : k ≠ 2) (h9 : k ≠ 9) (j : Int) : zS0 k j = 0 := by
  unfold zS0
  rw [if_neg (fun z => h0 z.1), if_neg (fun z => h2 z.1), if_neg (fun z => h9 z.1)]
theorem zRel_0 : zRel 0 zS0 := by
  have z : ∀ k : Nat, k ≠ 0 → k ≠ 2 → k ≠ 9 → ∀ j : Int, zS0 k j = 0 := fun k a b c j => zS0_k a b c j
  have a22 : zS0 2 2 = 0 := rfl
  have a23 : zS0 2 3 = 30 := rfl
  have a27 : zS0 2 7 = 0 := rfl
  have a210 : zS0 2 10 = 0 := rfl
  have a211 : zS0 2 11 = 0 := rfl
  have b4 : zS0 9 4 = 0 := rfl
  have b5 : zS0 9 5 = 0 := rfl
  have b9 : zS0 9 9 = 0 := rfl
  have b11 : zS0 9 11 = 0 := rfl
  have b12 : zS0 9 12 = 30 := rfl
  have b13 : zS0 9 13 = 0 := rfl
  have b17 : zS0 9 17 = 0 := rfl
  have b20 : zS0 9 20 = 0 := rfl
  have b22 : zS0 9 22 = 0 := rfl
  have b25 : zS0 9 25 = 0 := rfl
  have b28 : zS0 9 28 = 0 := rfl
  have c4 : zS0 0 4 = -1 := rfl
  have c10 : zS0 0 10 = 0 := rfl
  have c11 : zS0 0 11 = 0 := rfl
  have s33 : zS0 3 3 = 0 := z 3 (by decide) (by decide) (by decide) 3
  have s36 : zS0 3 6 = 0 := z 3 (by decide) (by decide) (by decide) 6
  have s38 : zS0 3 8 = 0 := z 3 (by decide) (by decide) (by decide) 8
  have s43 : zS0 4 3 = 0 := z 4 (by decide) (by decide) (by decide) 3
  have s40 : zS0 4 0 = 0 := z 4 (by decide) (by decide) (by decide) 0
  have s41 : zS0 4 1 = 0 := z 4 (by decide) (by decide) (by decide) 1
  have hb := zlF_b (wx := zS0 15) (ws := zS0 16) (g := 30) (n := 0)
  have hK : zlK (zS0 15) (zS0 16) 30 0 = 0 := by
    have e : zlN (zS0 16) 0 = 0 := rfl
    omega
  have hN : zlN (zS0 16) 0 = 0 := rfl
  have hF : zlF (zS0 15) (zS0 16) 30 0 0 = 0 := by
    have e := hb.2.2.2
    rw [hK, hN] at e
    exact e
  have hL : zlL (zS0 15) (zS0 16) 30 0 = 0 := rfl
  refine ⟨fun s s0 s1 => ?_, by rw [c11, b4], ⟨0, by decide, by rw [a22]; rfl, by rw [a23]; decide, by rw [b12, a23], fun j j0 j1 => absurd j1 (by omega), ?_, ?_⟩, ⟨⟨by rw [s33]; decide, fun i j i0 i1 i2 => absurd i2 (by omega), fun j j0 j1 => absurd j1 (by omega)⟩, ?_, ?_⟩, ⟨0, by decide, fun k hk => absurd hk (by omega), ?_, by rw [s41]; rfl, by rw [b25]; rfl⟩, ⟨by rw [s43]; decide, by rw [b22, s43], fun _ _ => 0, fun _ => 1, fun v v0 v1 => absurd v1 (by omega), fun v v0 v1 => absurd v1 (by omega)⟩, ⟨by rw [c10]; decide, by rw [b28, c10], fun j j0 j1 => absurd j1 (by omega)⟩, ⟨zIH_0 c4, zMI_0 (fun j _ _ => z 55 (by decide) (by decide) (by decide) j) (by omega)⟩, ⟨by omega, by omega, by omega⟩⟩
  · rw [z 11 (by decide) (by decide) (by decide), z 37 (by decide) (by decide) (by decide), z 12 (by decide) (by decide) (by decide), z 13 (by decide) (by decide) (by decide), z 38 (by decide) (by decide) (by decide)]
    exact ⟨Or.inl ⟨rfl, rfl⟩, by decide, by decide, rfl, fun i i0 i1 => absurd i1 (by omega)⟩
  · rw [a23]
    refine ⟨by rw [a27, hN], by rw [a210, hK], by rw [a211, hL], fun j j0 j1 => absurd j1 (by omega), fun j j0 j1 => ?_, fun j j0 j1 => absurd j1 (by omega)⟩
    rw [show j = 0 by omega, hF, z 20 (by decide) (by decide) (by decide)]
  · rw [a23]
    refine ⟨by rw [b5, hN], by rw [b9]; rfl, by rw [b13, hK], by rw [b11, hL], fun j j0 j1 => absurd j1 (by omega), fun d hd => absurd hd (by show ¬ d < 0; omega), fun j j0 j1 => ?_, fun j j0 j1 => absurd j1 (by omega)⟩
    rw [show j = 0 by omega, hF, z 45 (by decide) (by decide) (by decide)]
  · refine ⟨fun l x l0 l1 x0 x1 => Or.inr ⟨fun j j0 j1 => absurd j1 (by omega), z 47 (by decide) (by decide) (by decide) _⟩, fun p q p0 p1 q0 q1 => ?_, fun j j0 j1 => z 22 (by decide) (by decide) (by decide) j, fun j j0 j1 => ?_, fun j j0 j1 => ?_⟩
    · rw [z 22 (by decide) (by decide) (by decide), z 47 (by decide) (by decide) (by decide)]
    · rw [z 22 (by decide) (by decide) (by decide)]; decide
    · rw [z 47 (by decide) (by decide) (by decide)]; decide
  · refine ⟨by omega, by omega, fun j j0 j1 => absurd j1 (by omega), fun j j0 j1 => absurd j1 (by omega), fun s t s0 s1 s2 => absurd s2 (by omega), fun t t0 t1 => absurd t1 (by omega)⟩
  · rw [s40]
    show (0 : Int) = 0 * 32 ^ (12 - 0)
    omega
