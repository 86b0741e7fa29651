/-! the two systems answer alike: forms, pairs, the last teaching taken back -/
theorem zAGR_ext {N l x0 : Int} {tl tr tl' tr' f g : Int → Int} (h : zAGR N tl tr f g) (hN : 0 ≤ N ∧ N < 512) (hx : 0 ≤ x0 ∧ x0 < 1884) (hno : ∀ j : Int, 0 ≤ j → j < N → ¬ (tl j = l ∧ tr j = zdc x0)) (hl : ∀ j : Int, tl' j = if j = N then l else tl j) (hr : ∀ j : Int, tr' j = if j = N then zdc x0 else tr j) : zAGR (N + 1) tl' tr' f g := by
  obtain ⟨a, b, c, d, e⟩ := h
  refine ⟨fun l9 x h0 h1 h2 h3 => ?_, b, fun j j0 j1 => c j (by omega) j1, d, e⟩
  rcases a l9 x h0 h1 h2 h3 with ⟨j, j0, j1, j2, j3, j4⟩ | ⟨j0, j1⟩
  · refine Or.inl ⟨j, j0, by omega, ?_, ?_, j4⟩
    · rw [hl, if_neg (by omega)]; exact j2
    · rw [hr, if_neg (by omega)]; exact j3
  · by_cases z : l = l9 ∧ zdc x0 = zdc x
    · refine Or.inl ⟨N, hN.1, by omega, ?_, ?_, ?_⟩
      · rw [hl, if_pos rfl]; exact z.1
      · rw [hr, if_pos rfl]; exact z.2
      · rw [j1, c (676 + N) (by omega) (by omega)]
    · refine Or.inr ⟨fun j q0 q1 q2 => ?_, j1⟩
      rw [hl, hr] at q2
      by_cases y : j = N
      · rw [if_pos y, if_pos y] at q2; exact z q2
      · rw [if_neg y, if_neg y] at q2; exact j0 j q0 (by omega) q2
theorem zAGR_raise {N l x0 w o : Int} {tl tr f g f' g' : Int → Int} (h : zAGR N tl tr f g) (hN : 0 ≤ N ∧ N ≤ 512) (ho : 0 ≤ o) (hl : 0 ≤ l ∧ l < 26) (hx : 0 ≤ x0 ∧ x0 < 1884) (hU : ∀ i j : Int, 0 ≤ i → i < j → j < N → ¬ (tl i = tl j ∧ tr i = tr j)) (hw : 676 ≤ w ∧ w < 676 + N) (h1 : tl (w - 676) = l) (h2 : tr (w - 676) = zdc x0) (hf : ∀ x : Int, f' x = if x = w then min 999 (f w + o) else f x) (hg : ∀ x : Int, g' x = if x = 1884 * l + x0 then min 999 (g (1884 * l + x0) + o) else g x) : zAGR N tl tr f' g' := by
  obtain ⟨a, b, c, d, e⟩ := h
  have huq : ∀ i j : Int, 0 ≤ i → i < N → 0 ≤ j → j < N → tl i = tl j → tr i = tr j → i = j := fun i j i0 i1 j0 j1 q1 q2 => by
    rcases Int.lt_trichotomy i j with z | z | z
    · exact absurd ⟨q1, q2⟩ (hU i j i0 z j1)
    · exact z
    · exact absurd ⟨q1.symm, q2.symm⟩ (hU j i j0 z i1)
  refine ⟨fun l9 x h0 h1' h2' h3 => ?_, fun p q p0 p1 q0 q1 => ?_, fun j j0 j1 => ?_, fun j j0 j1 => ?_, fun j j0 j1 => ?_⟩
  · by_cases z : l9 = l ∧ x = x0
    · obtain ⟨rfl, rfl⟩ := z
      rcases a l9 x h0 h1' h2' h3 with ⟨j, j0, j1, j2, j3, j4⟩ | ⟨j0, j1⟩
      · have e1 : j = w - 676 := huq j (w - 676) j0 j1 (by omega) (by omega) (by rw [j2, h1]) (by rw [j3, h2])
        refine Or.inl ⟨j, j0, j1, j2, j3, ?_⟩
        rw [hg, if_pos rfl, hf, if_pos (by omega), j4, show 676 + j = w by omega]
      · exact absurd ⟨h1, h2⟩ (j0 (w - 676) (by omega) (by omega))
    · have e1 : ¬ 1884 * l9 + x = 1884 * l + x0 := fun y => z ⟨by omega, by omega⟩
      rcases a l9 x h0 h1' h2' h3 with ⟨j, j0, j1, j2, j3, j4⟩ | ⟨j0, j1⟩
      · refine Or.inl ⟨j, j0, j1, j2, j3, ?_⟩
        rw [hg, if_neg e1, hf, if_neg, j4]
        intro y
        have e2 : j = w - 676 := by omega
        rw [e2] at j2 j3
        have e3 : l = l9 := by rw [← h1, j2]
        have e4 : zdc x0 = zdc x := by rw [← h2, j3]
        have e5 : zRcd (zdc x0) = zRcd (zdc x) := by rw [e4]
        rw [zRcd_dc hx, zRcd_dc ⟨h2', h3⟩] at e5
        exact z ⟨e3.symm, e5.symm⟩
      · refine Or.inr ⟨j0, ?_⟩
        rw [hg, if_neg e1]
        exact j1
  · rw [hf, if_neg (by omega), hg, if_neg (by omega)]
    exact b p q p0 p1 q0 q1
  · rw [hf, if_neg (by omega)]
    exact c j j0 j1
  · rw [hf]
    have q := d w (by omega) (by omega)
    split
    · omega
    · exact d j j0 j1
  · rw [hg]
    have q := e (1884 * l + x0) (by omega) (by omega)
    split
    · omega
    · exact e j j0 j1
theorem zAGR_pair {N p q o : Int} {tl tr f g f' g' : Int → Int} (h : zAGR N tl tr f g) (hN : 0 ≤ N) (ho : 0 ≤ o) (hp : 0 ≤ p ∧ p < 26) (hq : 0 ≤ q ∧ q < 26) (hf : ∀ x : Int, f' x = if x = p * 26 + q then min 999 (f (p * 26 + q) + o) else f x) (hg : ∀ x : Int, g' x = if x = 48984 + 26 * p + q then min 999 (g (48984 + 26 * p + q) + o) else g x) : zAGR N tl tr f' g' := by
  obtain ⟨a, b, c, d, e⟩ := h
  refine ⟨fun l9 x h0 h1' h2' h3 => ?_, fun p9 q9 p0 p1 q0 q1 => ?_, fun j j0 j1 => ?_, fun j j0 j1 => ?_, fun j j0 j1 => ?_⟩
  · rcases a l9 x h0 h1' h2' h3 with ⟨j, j0, j1, j2, j3, j4⟩ | ⟨j0, j1⟩
    · refine Or.inl ⟨j, j0, j1, j2, j3, ?_⟩
      rw [hg, if_neg (by omega), hf, if_neg (by omega)]
      exact j4
    · refine Or.inr ⟨j0, ?_⟩
      rw [hg, if_neg (by omega)]
      exact j1
  · rw [hf, hg]
    by_cases z : p9 * 26 + q9 = p * 26 + q
    · rw [if_pos z, if_pos (by omega), b p q hp.1 hp.2 hq.1 hq.2]
    · rw [if_neg z, if_neg (by omega)]
      exact b p9 q9 p0 p1 q0 q1
  · rw [hf, if_neg (by omega)]
    exact c j j0 j1
  · rw [hf]
    have z := d (p * 26 + q) (by omega) (by omega)
    split
    · omega
    · exact d j j0 j1
  · rw [hg]
    have z := e (48984 + 26 * p + q) (by omega) (by omega)
    split
    · omega
    · exact e j j0 j1
theorem zrU_step {σ u : zS} {w p : Int} (hU : zrU σ) (e38 : u 3 8 = σ 3 8) (e20 : u 9 20 = σ 9 20) (e27 : u 27 = σ 27) (e50 : u 50 = σ 50) (hw : 0 ≤ w ∧ w < 1188) (hp : 0 ≤ p ∧ p < 49660) (ext : ∀ f g : Int → Int, zAGR (σ 3 3) (σ 23) (σ 24) f g → zAGR (u 3 3) (u 23) (u 24) f g) (c : (σ 3 8 = 0 ∧ u 25 = σ 25 ∧ u 3 6 = σ 3 6) ∨ (0 < σ 3 8 ∧ u 3 6 = σ 3 6 + 1 ∧ ∀ j : Int, u 25 j = (if j = σ 3 6 then w else σ 25 j) ∧ u 26 j = if j = σ 3 6 then σ 22 w else σ 26 j)) (m : (σ 9 20 = 0 ∧ u 48 = σ 48 ∧ u 9 17 = σ 9 17) ∨ (0 < σ 9 20 ∧ u 9 17 = σ 9 17 + 1 ∧ ∀ j : Int, u 48 j = (if j = σ 9 17 then p else σ 48 j) ∧ u 49 j = if j = σ 9 17 then σ 47 p else σ 49 j)) (g22 : ∀ x : Int, ¬ x = w → u 22 x = σ 22 x) (g47 : ∀ x : Int, ¬ x = p → u 47 x = σ 47 x) : zrU u := by
  obtain ⟨a1, a2, a3, a4, a5, a6⟩ := hU
  refine ⟨by omega, by omega, fun j j0 j1 => ?_, fun j j0 j1 => ?_, fun s t s0 s1 s2 => ?_, fun t t0 t1 => ?_⟩
  · rcases c with ⟨c1, c2, c3⟩ | ⟨c1, c2, c3⟩
    · rw [c2]; exact a3 j j0 (by omega)
    · rw [(c3 j).1]
      split
      · exact hw
      · exact a3 j j0 (by omega)
  · rcases m with ⟨c1, c2, c3⟩ | ⟨c1, c2, c3⟩
    · rw [c2]; exact a4 j j0 (by omega)
    · rw [(c3 j).1]
      split
      · exact hp
      · exact a4 j j0 (by omega)
  · rw [e27, e50]
    exact a5 s t s0 s1 (by omega)
  · have b := a6 t t0 (by omega)
    rcases c with ⟨c1, c2, c3⟩ | ⟨c1, c2, c3⟩
    · omega
    · rcases m with ⟨m1, m2, m3⟩ | ⟨m1, m2, m3⟩
      · omega
      · have z1 := zund_push (sl := σ 25) (ol := σ 26) (sl' := u 25) (ol' := u 26) (g := σ 22) (g' := u 22) (lo := σ 27 t) (top := σ 3 6) (s := w) (fun j j1 => by rw [(c3 j).1, (c3 j).2, if_neg (by omega), if_neg (by omega)]; exact ⟨rfl, rfl⟩) (by rw [(c3 _).1, if_pos rfl]) (by rw [(c3 _).2, if_pos rfl]) g22 b.1.2
        have z2 := zund_push (sl := σ 48) (ol := σ 49) (sl' := u 48) (ol' := u 49) (g := σ 47) (g' := u 47) (lo := σ 50 t) (top := σ 9 17) (s := p) (fun j j1 => by rw [(m3 j).1, (m3 j).2, if_neg (by omega), if_neg (by omega)]; exact ⟨rfl, rfl⟩) (by rw [(m3 _).1, if_pos rfl]) (by rw [(m3 _).2, if_pos rfl]) g47 b.2.1.2
        rw [e27, e50, c2, m2, z1, z2]
        exact ⟨by omega, by omega, ext _ _ b.2.2⟩
/-- counts, teachings and the word change -/
theorem zRel_C {n : Int} {σ u : zS} (hf : zfr [0, 3, 4, 5, 6, 9, 22, 23, 24, 25, 26, 27, 29, 30, 31, 32, 33, 34, 47, 48, 49, 50, 55, 60, 64] σ u) (e0 : ∀ j : Int, ¬ j = 4 → u 0 j = σ 0 j) (e04 : u 0 4 = -1) (e43 : u 4 3 = σ 4 3) (e9 : ∀ j : Int, ¬ j = 17 → ¬ j = 20 → ¬ j = 25 → u 9 j = σ 9 j) (h55 : ∀ j : Int, 0 ≤ j → j < 40 → u 55 j = 0) (hC : zrC u) (hD : zrD u) (hN : zrN (n + 1) u) (h : zRel n σ) : zRel (n + 1) u := by
  obtain ⟨a, b, c, -, -, f, g, k, l⟩ := h
  have hE := zrB_eq c
  have e9' : ∀ j ∈ [(4 : Int), 5, 9, 11, 12, 13, 22, 28], u 9 j = σ 9 j := fun j hj => by
    simp only [List.mem_cons, List.not_mem_nil, or_false] at hj
    exact e9 j (by omega) (by omega) (by omega)
  have e13 := e9' 13 (by decide)
  exact ⟨zrA_fr (hf 11 (by decide)) (hf 12 (by decide)) (hf 13 (by decide)) (hf 65 (by decide)) (hf 37 (by decide)) (hf 38 (by decide)) (hf 39 (by decide)) a, by rw [e0 11 (by decide), e9' 4 (by decide)]; exact b,
    zrB_fr (hf.on (by decide)) (e9' 5 (by decide)) (e9' 9 (by decide)) (e9' 11 (by decide)) (e9' 12 (by decide)) (e9' 13 (by decide)) c,
    hC, hD, zrE_fr (hf 28 (by decide)) (hf 51 (by decide)) (hf 52 (by decide)) e43 (e9' 22 (by decide)) f,
    zrF_fr (hf 10 (by decide)) (hf 54 (by decide)) (e0 10 (by decide)) (e9' 28 (by decide)) g,
    ⟨zIH_0 e04, zMI_0 h55 (by omega)⟩, hN⟩
theorem sm_form {n : Int} {σ : zS} (h : zRel n σ) (hn : 0 ≤ n ∧ n ≤ 511) (l m a b c o : Int) : zSim n σ 59 125 [l, m, a, b, c, o] := by
  obtain ⟨rA, rS, rB, ⟨⟨t1, t2, t3⟩, hA, hU⟩, rD, rE, rF, rG, n1, n2, n3⟩ := id h
  have h25 : 0 ≤ σ 9 25 := by obtain ⟨m9, m1, m2, m3, m4, m5⟩ := rD; omega
  have hU1 := hU.1
  have hU2 := hU.2.1
  refine ⟨_, am_X8_form ⟨t1.1, by omega⟩ hA.2.2.2.1 hU2.1, fun v u r => ?_⟩
  have hk : zfr [0, 3, 22, 23, 24, 25, 26] σ u := by
    rcases r with ⟨q, rfl, rfl⟩ | ⟨q, w, τ, q1, rfl, rfl⟩
    · exact zfr.rf
    · have hτ : zfr [0, 3, 22, 23, 24, 25, 26] σ τ := by
        rcases q1 with ⟨-, -, rfl⟩ | ⟨-, rfl, -⟩
        · exact zfr.rf
        · exact ((zfr.rf.up (by decide)).up (by decide)).up (by decide)
      by_cases z : 0 < τ 3 8 ∧ τ 3 6 < 1024
      · rw [if_pos z]
        exact ((((hτ.up (by decide)).up (by decide)).up (by decide)).up (by decide)).up (by decide)
      · rw [if_neg z]
        exact (hτ.up (by decide)).up (by decide)
  have k9 : u 9 = σ 9 := hk 9 (by decide)
  have k47 : u 47 = σ 47 := hk 47 (by decide)
  have k48 : u 48 = σ 48 := hk 48 (by decide)
  have k49 : u 49 = σ 49 := hk 49 (by decide)
  refine ⟨_, am_X9_form (by rw [k47]; exact hA.2.2.2.2) (by rw [k9]; omega), fun v' u' r' => ?_⟩
  rw [k9, k47] at r'
  rcases r with ⟨q, rfl, rfl⟩ | ⟨q, w, τ, q1, hu, hv⟩
  · rcases r' with ⟨q', rfl, rfl⟩ | ⟨q', rfl, rfl⟩
    · exact ⟨rfl, zRel_up h⟩
    · omega
  · rcases r' with ⟨q', rfl, rfl⟩ | ⟨q', hu', hv'⟩
    · omega
    · have hvf : zvf m a b c := ⟨⟨q.1.2.1, q.1.2.2.1⟩, ⟨q.1.2.2.2.1, q.1.2.2.2.2.1⟩, q.1.2.2.2.2.2⟩
      have hl : 0 ≤ l ∧ l < 26 := q.1.1
      have hsh := zvf_sh hvf
      have hp : 0 ≤ 1884 * l + zsh m a b c ∧ 1884 * l + zsh m a b c < 48984 := by omega
      generalize hx0 : zsh m a b c = x0 at *
      -- the table after the slot is made
      have hτ : (τ 3 8 = σ 3 8 ∧ τ 3 6 = σ 3 6 ∧ τ 22 = σ 22 ∧ τ 0 = σ 0) ∧ (∀ j : Int, ¬ j = 3 → τ 3 j = σ 3 j) ∧ zfr [3, 23, 24] σ τ ∧ (σ 3 3 ≤ τ 3 3 ∧ τ 3 3 ≤ σ 3 3 + 1) ∧ (∀ f g : Int → Int, zAGR (σ 3 3) (σ 23) (σ 24) f g → zAGR (τ 3 3) (τ 23) (τ 24) f g) ∧ zUQ τ ∧ (∀ j : Int, 0 ≤ j → j < τ 3 3 → (0 ≤ τ 23 j ∧ τ 23 j < 26) ∧ ∃ x : Int, (0 ≤ x ∧ x < 1884) ∧ τ 24 j = zdc x) ∧ (676 ≤ w ∧ w < 676 + τ 3 3) ∧ τ 23 (w - 676) = l ∧ τ 24 (w - 676) = zdc x0 := by
        rcases q1 with ⟨q2, q3, rfl⟩ | ⟨q2, q3, q4⟩
        · have e := zAGR_slot hA t2 hl hvf q2
          rw [hx0] at e
          rcases e with e | e
          · omega
          · exact ⟨⟨rfl, rfl, rfl, rfl⟩, fun _ _ => rfl, zfr.rf, ⟨by omega, by omega⟩, fun f g z => z, t2, t3, ⟨e.1, e.2.1⟩, e.2.2.1, e.2.2.2.1⟩
        · have e := zAGR_slot hA t2 hl hvf q2
          have hno : ∀ j : Int, 0 ≤ j → j < σ 3 3 → ¬ (σ 23 j = l ∧ σ 24 j = zdc x0) := by
            rcases q2 with ⟨k, k0, k1, k2, k3, k4⟩ | ⟨-, k0⟩
            · omega
            · rw [hsh.2]; exact k0
          have z3 : τ 3 3 = σ 3 3 + 1 := by rw [← q3]; rfl
          have z23 : ∀ j : Int, τ 23 j = if j = σ 3 3 then l else σ 23 j := fun j => by rw [← q3]; rfl
          have z24 : ∀ j : Int, τ 24 j = if j = σ 3 3 then zdc x0 else σ 24 j := fun j => by rw [← q3, hsh.2]; rfl
          refine ⟨⟨by rw [← q3]; rfl, by rw [← q3]; rfl, by rw [← q3]; rfl, by rw [← q3]; rfl⟩, fun j j1 => ?_, ?_, ⟨by omega, by omega⟩, fun f g z => by rw [z3]; exact zAGR_ext z ⟨t1.1, by omega⟩ hsh.1 hno z23 z24, fun i j i0 i1 i2 i3 => ?_, fun j j0 j1 => ?_, ⟨by omega, by omega⟩, ?_, ?_⟩
          · rw [← q3]
            show (if j = 3 then _ else σ 3 j) = _
            rw [if_neg j1]
          · rw [← q3]
            exact ((zfr.rf.up (by decide)).up (by decide)).up (by decide)
          · have yi : ¬ i = σ 3 3 := by omega
            rw [z23, z24, z23, z24, if_neg yi, if_neg yi] at i3
            by_cases y : j = σ 3 3
            · rw [if_pos y, if_pos y] at i3
              exact hno i i0 (by omega) i3
            · rw [if_neg y, if_neg y] at i3
              exact t2 i j i0 i1 (by omega) i3
          · rw [z23, z24]
            by_cases y : j = σ 3 3
            · rw [if_pos y, if_pos y]
              exact ⟨hl, x0, hsh.1, rfl⟩
            · rw [if_neg y, if_neg y]
              exact t3 j j0 (by omega)
          · rw [z23, if_pos (by omega)]
          · rw [z24, if_pos (by omega)]
      obtain ⟨⟨s8, s6, s22, s0⟩, s3, sfr, sN, sext, sU, sT, sw, sl9, sr9⟩ := hτ
      have aG := sext _ _ hA
      -- the class's cells
      have u22 : ∀ x : Int, u 22 x = if x = w then min 999 (σ 22 w + o) else σ 22 x := fun x => by
        rw [← hu, ← s22]
        by_cases z : 0 < τ 3 8 ∧ τ 3 6 < 1024
        · rw [if_pos z]; rfl
        · rw [if_neg z]; rfl
      have u4 : u 0 4 = -1 := by
        rw [← hu]
        by_cases z : 0 < τ 3 8 ∧ τ 3 6 < 1024
        · rw [if_pos z]; rfl
        · rw [if_neg z]; rfl
      have u0 : ∀ j : Int, ¬ j = 4 → u 0 j = σ 0 j := fun j j1 => by
        rw [← hu, ← s0]
        by_cases z : 0 < τ 3 8 ∧ τ 3 6 < 1024
        · rw [if_pos z]; exact if_neg j1
        · rw [if_neg z]; exact if_neg j1
      have u23 : u 23 = τ 23 ∧ u 24 = τ 24 ∧ u 3 3 = τ 3 3 ∧ u 3 8 = τ 3 8 := by
        rw [← hu]
        by_cases z : 0 < τ 3 8 ∧ τ 3 6 < 1024
        · rw [if_pos z]; exact ⟨rfl, rfl, rfl, rfl⟩
        · rw [if_neg z]; exact ⟨rfl, rfl, rfl, rfl⟩
      have ulog : (σ 3 8 = 0 ∧ u 25 = σ 25 ∧ u 3 6 = σ 3 6) ∨ (0 < σ 3 8 ∧ u 3 6 = σ 3 6 + 1 ∧ ∀ j : Int, u 25 j = (if j = σ 3 6 then w else σ 25 j) ∧ u 26 j = if j = σ 3 6 then σ 22 w else σ 26 j) := by
        rw [← hu]
        by_cases z : 0 < τ 3 8 ∧ τ 3 6 < 1024
        · rw [if_pos z]
          refine Or.inr ⟨by omega, by rw [← s6]; rfl, fun j => ?_⟩
          rw [← s6, ← s22, ← sfr 25 (by decide), ← sfr 26 (by decide)]
          exact ⟨rfl, rfl⟩
        · rw [if_neg z]
          refine Or.inl ⟨by omega, ?_, s6⟩
          rw [← sfr 25 (by decide)]; rfl
      -- the model's cells
      have m47 : ∀ x : Int, u' 47 x = if x = 1884 * l + x0 then min 999 (σ 47 (1884 * l + x0) + o) else σ 47 x := fun x => by
        rw [← hu', ← k47]
        by_cases z : 0 < σ 9 20
        · rw [if_pos z]; rfl
        · rw [if_neg z]; rfl
      have m55 : ∀ j : Int, 0 ≤ j → j < 40 → u' 55 j = 0 := fun j j0 j1 => by
        have e : zfill u 55 0 40 0 55 j = 0 := if_pos ⟨rfl, j0, by omega⟩
        rw [← hu']
        by_cases z : 0 < σ 9 20
        · rw [if_pos z]; exact e
        · rw [if_neg z]; exact e
      have m9 : ∀ j : Int, ¬ j = 17 → u' 9 j = σ 9 j := fun j j1 => by
        rw [← hu', ← k9]
        by_cases z : 0 < u 9 20
        · rw [if_pos z]; exact if_neg j1
        · rw [if_neg z]; rfl
      have mlog : (σ 9 20 = 0 ∧ u' 48 = σ 48 ∧ u' 9 17 = σ 9 17) ∨ (0 < σ 9 20 ∧ u' 9 17 = σ 9 17 + 1 ∧ ∀ j : Int, u' 48 j = (if j = σ 9 17 then 1884 * l + x0 else σ 48 j) ∧ u' 49 j = if j = σ 9 17 then σ 47 (1884 * l + x0) else σ 49 j) := by
        rw [← hu']
        by_cases z : 0 < σ 9 20
        · rw [if_pos z]
          refine Or.inr ⟨z, rfl, fun j => ?_⟩
          rw [← k48, ← k49]
          exact ⟨rfl, rfl⟩
        · rw [if_neg z]
          refine Or.inl ⟨by omega, k48, ?_⟩
          rw [← k9]; rfl
      have mfr : zfr [55, 48, 49, 9, 47] u u' := by
        rw [← hu']
        have z0 : zfr [55, 48, 49, 9, 47] u (zfill u 55 0 40 0) := fun k hk => by
          simp only [List.mem_cons, List.not_mem_nil, or_false, not_or] at hk
          funext x
          exact if_neg (fun z => hk.1 z.1)
        by_cases z : 0 < σ 9 20
        · rw [if_pos z]
          exact (((z0.up (by decide)).up (by decide)).up (by decide)).up (by decide)
        · rw [if_neg z]
          exact z0.up (by decide)
      have hf : zfr [0, 3, 4, 5, 6, 9, 22, 23, 24, 25, 26, 27, 29, 30, 31, 32, 33, 34, 47, 48, 49, 50, 55, 60, 64] σ u' := fun c9 hc => by
        simp only [List.mem_cons, List.not_mem_nil, or_false, not_or] at hc
        rw [mfr c9 (by simp only [List.mem_cons, List.not_mem_nil, or_false, not_or]; omega), hk c9 (by simp only [List.mem_cons, List.not_mem_nil, or_false, not_or]; omega)]
      have j3 : u' 3 = u 3 := mfr 3 (by decide)
      have j23 : u' 23 = τ 23 := by rw [mfr 23 (by decide), u23.1]
      have j24 : u' 24 = τ 24 := by rw [mfr 24 (by decide), u23.2.1]
      have j22 : u' 22 = u 22 := mfr 22 (by decide)
      have hAf := zAGR_raise (f' := u' 22) (g' := u' 47) aG ⟨by omega, by omega⟩ (by omega : 0 ≤ o) hl hsh.1 sU sw sl9 sr9 (fun x => by rw [j22]; exact u22 x) m47
      have ev : σ 22 w = σ 47 (1884 * l + x0) := by
        rcases zAGR_slot (σ := τ) (w := w) aG sU hl hvf (Or.inl ⟨w - 676, by omega, by omega, sl9, by rw [sr9, hsh.2], by omega⟩) with e | e
        · omega
        · rw [hx0] at e; exact e.2.2.2.2.symm
      refine ⟨by rw [← hv, ← hv', s22, ev], zRel_C hf (fun j j1 => by rw [mfr 0 (by decide)]; exact u0 j j1) (by rw [mfr 0 (by decide)]; exact u4) (by rw [hf.on (L := [1]) (by decide) 1 (by decide) |> fun _ => mfr 4 (by decide), hk 4 (by decide)]) (fun j j1 j2 j3 => m9 j j1) m55 ⟨⟨by rw [j3, u23.2.2.1]; omega, ?_, ?_⟩, ?_, ?_⟩ (zrD_fr (hf 53 (by decide)) (by rw [mfr 4 (by decide), hk 4 (by decide)]) (by rw [mfr 4 (by decide), hk 4 (by decide)]) (m9 25 (by decide)) rD) ⟨by rw [j3, u23.2.2.1]; omega, ?_, ?_⟩ h⟩
      · unfold zUQ
        rw [j3, j23, j24, u23.2.2.1]
        exact sU
      · rw [j3, j23, j24, u23.2.2.1]
        exact sT
      · rw [j3, j23, j24, u23.2.2.1]
        exact hAf
      · refine zrU_step (w := w) (p := 1884 * l + x0) hU (by rw [j3, u23.2.2.2, s8]) (m9 20 (by decide)) (by rw [mfr 27 (by decide), hk 27 (by decide)]) (by rw [mfr 50 (by decide), hk 50 (by decide)]) ⟨by omega, by omega⟩ ⟨by omega, by omega⟩ (fun f g z => by rw [j3, j23, j24, u23.2.2.1]; exact sext f g z) ?_ mlog (fun x x1 => by rw [j22, u22, if_neg x1]) (fun x x1 => by rw [m47, if_neg x1])
        rw [mfr 25 (by decide), mfr 26 (by decide), j3]
        exact ulog
      · rw [j3, m9 25 (by decide)]
        omega
      · rw [m9 25 (by decide)]
        omega
