/-! both sides' readings are the same -/
theorem zm3_congr {g g' : Int → Int} {N p a : Int} : ∀ {j : Nat}, (∀ k : Nat, 1 ≤ k → k ≤ j → a + k ≤ p → g k = g' k) → zm3 g N p a j = zm3 g' N p a j
  | 0, _ => rfl
  | j + 1, h => by
    rw [zm3_succ, zm3_succ, zm3_congr (j := j) (fun k k0 k1 k2 => h k k0 (by omega) k2)]
    by_cases e : a + (j + 1 : Nat) ≤ p
    · rw [if_pos e, if_pos e, h (j + 1) (by omega) (by omega) e]
    · rw [if_neg e, if_neg e]
theorem zsp_congr {f g : Int → Int → Int → Int} {w : Nat → Int} {m : Nat} {p N : Int} (hf : ∀ a k l : Int, 0 ≤ a → 1 ≤ k → k ≤ 3 → a + k ≤ p → 0 ≤ l → l < 26 → f a k l = g a k l) (hw : zlet w m) : ∀ (d : Nat) (a : Int), d ≤ m → 0 ≤ a → zsp f w m p N d a = zsp g w m p N d a
  | 0, _, _, _ => rfl
  | d + 1, a, hd, ha => by
    refine zm3_congr (fun k k0 k1 k2 => ?_)
    have e := zsp_congr hf hw (N := N) d (a + k) (by omega) (by omega)
    have e2 := hw (m - (d + 1)) (by omega)
    show zcn1 f a k (w (m - (d + 1))) N (zsp f w m p N d (a + k)) = zcn1 g a k (w (m - (d + 1))) N (zsp g w m p N d (a + k))
    unfold zcn1
    rw [e, hf a k (w (m - (d + 1))) ha (by omega) (by omega) k2 e2.1 e2.2]
theorem zhd_cg {o o' : Int → Int} {a : Int} : ∀ {n : Nat}, (∀ j : Int, a ≤ j → j < a + n → o j = o' j) → zhd o a n = zhd o' a n
  | 0, _ => rfl
  | n + 1, h => by
    show (zhd o a n || decide (0 < o (a + n))) = (zhd o' a n || decide (0 < o' (a + n)))
    rw [zhd_cg (n := n) (fun j j0 j1 => h j j0 (by omega)), h (a + n) (by omega) (by omega)]
theorem zRel_qq {n : Int} {σ : zS} (h : zRel n σ) {i : Int} (hi : 0 ≤ i ∧ i < σ 2 10) : zqq σ i = zmq σ i ∧ (0 ≤ zqq σ i ∧ zqq σ i ≤ 14) ∧ σ 20 i + zqq σ i ≤ σ 2 7 := by
  have hE := zrB_eq h.2.2.1
  have a := hE.2.2.2.1 i hi.1 (by omega)
  have b := hE.2.2.2.1 (i + 1) (by omega) (by omega)
  have c := hE.2.2.2.2.1 i hi.1 hi.2
  unfold zqq zmq
  rw [← a, ← b]
  by_cases z : 14 < σ 20 (i + 1) - σ 20 i
  · rw [if_pos z]
    exact ⟨rfl, by omega, by omega⟩
  · rw [if_neg z]
    exact ⟨rfl, by omega, by omega⟩
theorem zRel_ff {n : Int} {σ : zS} (h : zRel n σ) {i : Int} (hi : 0 ≤ i ∧ i < σ 2 10) : ∀ a k l : Int, 0 ≤ a → 1 ≤ k → k ≤ 3 → a + k ≤ zqq σ i → 0 ≤ l → l < 26 → zff σ (zRcn σ) i a k l = zmft σ i a k l := fun a k l a0 k0 k1 ak l0 l1 => by
  have hE := zrB_eq h.2.2.1
  have hq := zRel_qq h hi
  have eb := hE.2.2.2.1 i hi.1 (by omega)
  have eb2 := hE.2.2.2.2.1 i hi.1 hi.2
  have hsh : ∀ d : Int, 0 ≤ d → d < k → σ 18 (σ 20 i + a + d) = σ 42 (σ 20 i + a + d) ∧ 0 ≤ σ 42 (σ 20 i + a + d) ∧ σ 42 (σ 20 i + a + d) < 12 := fun d d0 d1 => by
    have := hE.2.2.1 (σ 20 i + a + d) (by omega) (by omega)
    exact ⟨this.2.1, by omega, by omega⟩
  have hh : zhd (σ 19) (σ 20 i + a) k.toNat = zhd (σ 43) (σ 20 i + a) k.toNat := zhd_cg (fun j j0 j1 => (hE.2.2.1 j (by omega) (by omega)).2.2.1)
  have s0 := hsh 0 (by omega) (by omega)
  rw [Int.add_zero] at s0
  have ek : zrc k (σ 18 (σ 20 i + a)) (σ 18 (σ 20 i + a + 1)) (σ 18 (σ 20 i + a + 2)) = zrc k (σ 42 (σ 20 i + a)) (if 1 < k then σ 42 (σ 20 i + a + 1) else 0) (if 2 < k then σ 42 (σ 20 i + a + 2) else 0) := by
    rcases (show k = 1 ∨ k = 2 ∨ k = 3 by omega) with rfl | rfl | rfl
    · rw [s0.1]; rfl
    · rw [s0.1, (hsh 1 (by omega) (by omega)).1]; rfl
    · rw [s0.1, (hsh 1 (by omega) (by omega)).1, (hsh 2 (by omega) (by omega)).1]; rfl
  have hv : zvf k (σ 42 (σ 20 i + a)) (if 1 < k then σ 42 (σ 20 i + a + 1) else 0) (if 2 < k then σ 42 (σ 20 i + a + 2) else 0) := by
    refine ⟨⟨k0, k1⟩, s0.2, ?_, ?_⟩
    · by_cases z : 1 < k
      · rw [if_pos z]; exact Or.inr (hsh 1 (by omega) z).2
      · exact Or.inl (by omega)
    · by_cases z : 2 < k
      · rw [if_pos z]; exact Or.inr (hsh 2 (by omega) z).2
      · exact Or.inl (by omega)
  have ec := zRcn_sh (σ := σ) (l := l) ⟨l0, l1⟩ hv
  rw [← ek] at ec
  have e1 : zff σ (zRcn σ) i a k l = (if σ 47 (zsq σ l (σ 20 i + a) k) ≤ 0 then -1 else zct l (σ 47 (zsq σ l (σ 20 i + a) k)) (zhd (σ 43) (σ 20 i + a) k.toNat)) := by
    unfold zff zfm zFm
    rw [ec, hh]
    rfl
  have e2 : zmft σ i a k l = (if (if σ 47 (zsq σ l (σ 20 i + a) k) = 0 then (1000000000 : Int) else zct l (σ 47 (zsq σ l (σ 20 i + a) k)) (zhd (σ 43) (σ 20 i + a) k.toNat)) = 1000000000 then -1 else (if σ 47 (zsq σ l (σ 20 i + a) k) = 0 then (1000000000 : Int) else zct l (σ 47 (zsq σ l (σ 20 i + a) k)) (zhd (σ 43) (σ 20 i + a) k.toNat))) := by
    unfold zmft zmc
    rw [← eb]
  have hb := zvf_sh hv
  have hg := h.2.2.2.1.2.1.2.2.2.2 (zsq σ l (σ 20 i + a) k) (by unfold zsq; omega) (by unfold zsq; omega)
  rw [e1, e2]
  by_cases z : σ 47 (zsq σ l (σ 20 i + a) k) = 0
  · rw [if_pos z, if_pos rfl, if_pos (by omega)]
  · have := zct_r (l := l) (cnt := σ 47 (zsq σ l (σ 20 i + a) k)) (d := zhd (σ 43) (σ 20 i + a) k.toNat)
    rw [if_neg z, if_neg (by omega), if_neg]
    have := this (by omega)
    omega
theorem zRel_SD {n : Int} {σ : zS} (h : zRel n σ) {i : Int} (hi : 0 ≤ i ∧ i < σ 2 10) : zSD (zff σ (zRcn σ) i) (zPM σ) (zqq σ i) = zSD (zmft σ i) (zPM σ) (zmq σ i) := by
  funext x d
  rw [← (zRel_qq h hi).1]
  exact propext (zSD_congr (zRel_ff h hi) (fun _ _ _ _ _ _ => rfl))
theorem zRel_CT {n : Int} {σ : zS} (h : zRel n σ) : zCT σ (zRcn σ) := by
  obtain ⟨⟨t1, t2, t3⟩, hA, -⟩ := h.2.2.2.1
  refine ⟨t1, fun j j0 j1 => ?_, fun l r hno => ?_⟩
  · obtain ⟨q1, x, q2, q3⟩ := t3 j j0 j1
    refine ⟨q1, ?_⟩
    rw [q3, zRcn_dc q1 q2]
    rcases hA.1 (σ 23 j) x q1.1 q1.2 q2.1 q2.2 with ⟨k, k0, k1, k2, k3, k4⟩ | ⟨k0, -⟩
    · have e : k = j := by
        rcases Int.lt_trichotomy k j with z | z | z
        · exact absurd ⟨k2, by rw [k3, q3]⟩ (t2 k j k0 z j1)
        · exact z
        · exact absurd ⟨k2.symm, by rw [k3, q3]⟩ (t2 j k j0 z k1)
      rw [k4, e]
    · exact absurd ⟨rfl, q3⟩ (k0 j j0 j1)
  · unfold zRcn
    by_cases z : (0 ≤ l ∧ l < 26) ∧ (0 ≤ zRcd r ∧ zRcd r < 1884) ∧ zdc (zRcd r) = r
    · rw [if_pos z]
      rcases hA.1 l (zRcd r) z.1.1 z.1.2 z.2.1.1 z.2.1.2 with ⟨k, k0, k1, k2, k3, k4⟩ | ⟨-, k1⟩
      · exact absurd ⟨k2, by rw [k3, z.2.2]⟩ (hno k k0 k1)
      · exact k1
    · rw [if_neg z]
theorem zRel_CQ {n : Int} {σ : zS} (h : zRel n σ) : zCQ σ (zRcn σ) (zPM σ) := by
  have hE := zrB_eq h.2.2.1
  have hCT := zRel_CT h
  obtain ⟨rA, rS, rB, ⟨⟨t1, t2, t3⟩, hA, hU⟩, rD, rE, rF, rG, rN⟩ := id h
  refine ⟨⟨⟨by omega, by omega⟩, fun i i0 i1 => ?_, hCT, fun l r => ?_, fun j j0 j1 => ?_, fun x y x0 x1 y0 y1 => ?_⟩, rG.1, fun i i0 i1 => (hE.2.2.2.2.1 i i0 i1).2.1, rE.1, rF.1.1⟩
  · have := hE.2.2.2.2.1 i i0 i1
    omega
  · unfold zRcn
    by_cases z : (0 ≤ l ∧ l < 26) ∧ (0 ≤ zRcd r ∧ zRcd r < 1884) ∧ zdc (zRcd r) = r
    · rw [if_pos z]
      exact hA.2.2.2.2 _ (by omega) (by omega)
    · rw [if_neg z]
      decide
  · have := hE.2.2.1 j j0 j1
    omega
  · have q := hA.2.1 x y x0 x1 y0 y1
    have q2 := hA.2.2.2.1 (x * 26 + y) (by omega) (by omega)
    refine ⟨q2, ?_⟩
    unfold zPM
    rw [q, Int.add_comm]
theorem zRel_MQ {n : Int} {σ : zS} (h : zRel n σ) : zMQ2 σ := by
  have hE := zrB_eq h.2.2.1
  obtain ⟨rA, rS, rB, ⟨⟨t1, t2, t3⟩, hA, hU⟩, rD, rE, rF, rG, rN⟩ := id h
  refine ⟨⟨by omega, by omega, fun i i0 i1 => ?_, fun j j0 j1 => ?_, hA.2.2.2.2⟩, rG.2, by unfold zML; have := rE.1; have := rE.2.1; omega⟩
  · have := hE.2.2.2.2.1 i i0 (by omega)
    have a := hE.2.2.2.1 i i0 (by omega)
    have b := hE.2.2.2.1 (i + 1) (by omega) (by omega)
    omega
  · have := hE.2.2.1 j j0 (by omega)
    omega
theorem zMQ2_fr {σ t : zS} (h : zMQ2 σ) (e : ∀ c ∈ [9, 42, 43, 45, 47, 55, 56, 57, 58, 59], t c = σ c) : zMQ2 t := by
  refine ⟨zMO_fr h.1 ⟨by rw [e 9 (by decide)], by rw [e 9 (by decide)]⟩ (e 42 (by decide)) (e 45 (by decide)) (e 47 (by decide)), zRMI_fr (fun c hc => e c (List.mem_cons_of_mem _ hc)) (by rw [e 9 (by decide)]) h.2.1, ?_⟩
  have := h.2.2
  unfold zML at this ⊢
  rw [e 9 (by decide)]
  exact this
/-- only what the sides have at hand, the status and the trace change -/
theorem zRel_K {n : Int} {σ u : zS} (hf : zfr [0, 5, 6, 8, 9, 10, 29, 30, 31, 32, 33, 34, 35, 36, 54, 55, 56, 57, 58, 59, 60, 61, 62, 63] σ u) (e9 : ∀ j : Int, ¬ j = 4 → ¬ j = 28 → u 9 j = σ 9 j) (hs : u 0 11 = u 9 4) (hF : zrF u) (hI : zIH u (zRcn u) (zPM u)) (hM : zMI u) (h : zRel n σ) : zRel (n + 1) u := by
  obtain ⟨a, b, c, d, e, f, g, k, l⟩ := h
  exact ⟨zrA_fr (hf 11 (by decide)) (hf 12 (by decide)) (hf 13 (by decide)) (hf 65 (by decide)) (hf 37 (by decide)) (hf 38 (by decide)) (hf 39 (by decide)) a, hs,
    zrB_fr (hf.on (by decide)) (e9 5 (by decide) (by decide)) (e9 9 (by decide) (by decide)) (e9 11 (by decide) (by decide)) (e9 12 (by decide) (by decide)) (e9 13 (by decide) (by decide)) c,
    zrC_fr (hf.on (by decide)) (e9 17 (by decide) (by decide)) (e9 20 (by decide) (by decide)) d,
    zrD_fr (hf 53 (by decide)) (by rw [hf 4 (by decide)]) (by rw [hf 4 (by decide)]) (e9 25 (by decide) (by decide)) e,
    zrE_fr (hf 28 (by decide)) (hf 51 (by decide)) (hf 52 (by decide)) (by rw [hf 4 (by decide)]) (e9 22 (by decide) (by decide)) f,
    hF, ⟨hI, hM⟩, zrN_up (by rw [hf 3 (by decide)]) (by rw [hf 3 (by decide)]) (e9 17 (by decide) (by decide)) (e9 25 (by decide) (by decide)) l⟩
theorem zTK_IH {σ τ : zS} {i : Int} (hT : zTK zHK σ τ (zRcn σ) (zPM σ) i) : zIH τ (zRcn τ) (zPM τ) := by
  obtain ⟨h1, h2, h3, h4⟩ := hT
  obtain ⟨a, b⟩ := zRff_fr (σ := σ) (u := τ) (cnt := zRcn σ) (h1.on (by decide))
  obtain ⟨c, d⟩ := zRcn_fr (σ := σ) (u := τ) (h1 47 (by decide))
  intro j j0 j1 j2
  rw [c, d, a, b]
  rw [h3] at j2
  rw [← j2]
  exact h4
/-- the readings of an ink on both sides -/
theorem zRT {n : Int} {σ u t : zS} {i : Int} (h : zRel n σ) (hi : 0 ≤ i ∧ i < σ 2 10) (hT : zTK zHK σ u (zRcn σ) (zPM σ) i) (hK : zKP t i (zSD (zmft σ i) (zPM σ) (zmq σ i))) : (u 30 312 = t 56 i ∧ 0 ≤ t 56 i ∧ t 56 i ≤ 5) ∧ ∀ j : Int, 0 ≤ j → j < t 56 i → u 31 (1560 + j) = t 57 (5 * i + j) ∧ u 32 (1560 + j) = zlf (t 58 (5 * i + j)) (t 59 (5 * i + j)) := by
  have a := hT.2.2.2.2.2.2
  rw [zRel_SD h hi] at a
  have e := zTop.uniq a hK.1
  refine ⟨⟨e.1, hK.1.1⟩, fun j j0 j1 => ?_⟩
  have q := e.2 j j0 (by omega)
  exact q
