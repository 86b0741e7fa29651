/-! the two systems answer alike: ask, listed, find -/
theorem zRmk_r {u : zS} {w : Int} : 0 ≤ zmk u w ∧ zmk u w ≤ 3 := by
  unfold zmk
  by_cases a : u 30 312 = 0
  · rw [if_pos a]; decide
  · rw [if_neg a]
    by_cases b : 1 < u 30 312 ∧ u 31 1561 - u 31 1560 < 4
    · rw [if_pos b]; decide
    · rw [if_neg b]
      by_cases c : w < 0
      · rw [if_pos c]; decide
      · rw [if_neg c]; decide
theorem sm_ask {n : Int} {σ : zS} (h : zRel n σ) (i k : Int) : zSim n σ 72 154 [i, k] := by
  have hE := zrB_eq h.2.2.1
  refine ⟨_, am_X8_ask (zRel_CQ h), fun v u r => ?_⟩
  have hk : zfr (10 :: zHK) σ u := by
    rcases r with ⟨-, rfl, -⟩ | ⟨-, τ, hT, w, -, hv⟩
    · exact zfr.rf
    · have hz : zTRC (zup τ 0 10 0) (zup τ 9 28 0) := ⟨⟨by show (0 : Int) ≤ 0; decide, by show (0 : Int) ≤ 16; decide⟩, rfl, fun j j0 j1 => absurd j1 (by show ¬ j < 0; omega)⟩
      have ho : zBGf (zup τ 0 10 0) u := by
        rcases hv with ⟨-, rfl, -⟩ | ⟨-, rfl, -⟩
        · exact (zAL_sz hz (zmk τ w) zRmk_r).2.1
        · exact (zAL_mk hz (zmk τ w) zRmk_r).2.1
      intro c hc
      simp only [List.mem_cons, List.not_mem_nil, or_false, not_or] at hc
      rw [ho.1 c (by simp only [List.mem_cons, List.not_mem_nil, or_false, not_or]; omega), zup_ne (by omega), hT.1 c (by simp only [List.mem_cons, List.not_mem_nil, or_false, not_or]; omega)]
  refine ⟨_, am_X9_ask (zMQ2_fr (zRel_MQ h) (hk.on (by decide))) (fun j j0 j1 => ?_), fun v' u' r' => ?_⟩
  · rw [hk 9 (by decide)] at j1
    have := hE.2.2.2.2.1 j j0 (by omega)
    rw [hk 46 (by decide)]
    omega
  rw [hk 9 (by decide)] at r'
  rcases r with ⟨q, rfl, rfl⟩ | ⟨q, τ, hT, w, hw, hv⟩
  · rcases r' with ⟨q', rfl, rfl⟩ | ⟨q', -⟩
    · exact ⟨rfl, zRel_up h⟩
    · omega
  · rcases r' with ⟨q', -⟩ | ⟨q', t, hN, w', hw', hv'⟩
    · omega
    · have hfu : zfr (9 :: 10 :: zHK) σ (zup u 9 28 0) := fun c hc => by
        simp only [List.mem_cons, List.not_mem_nil, or_false, not_or] at hc
        rw [zup_ne (by omega), hk c (by simp only [List.mem_cons, List.not_mem_nil, or_false, not_or]; omega)]
      obtain ⟨n1, n2, n3⟩ := zNW_K (σ := σ) hN (hfu.on (by decide))
      have e := zKD h q.1 hT n1 (by rw [n2 9 (by decide)]; show (if (22 : Int) = 28 then 0 else u 9 22) = _; rw [if_neg (by decide), hk 9 (by decide)]) (by rw [n2 51 (by decide), hfu 51 (by decide)]) (by rw [n2 52 (by decide), hfu 52 (by decide)]) hw hw'
      have e20 := hE.2.2.2.1 i q.1.1 (by omega)
      have e21 := hE.2.2.2.1 (i + 1) (by omega) (by omega)
      have e22 := hE.2.2.2.2.1 i q.1.1 q.1.2
      have t45 : t 45 = σ 45 := by rw [n2 45 (by decide), hfu 45 (by decide)]
      have t46 : t 46 = σ 46 := by rw [n2 46 (by decide), hfu 46 (by decide)]
      have τ20 : τ 20 = σ 20 := hT.1 20 (by decide)
      have τ21 : τ 21 = σ 21 := hT.1 21 (by decide)
      have hz : zTRC (zup τ 0 10 0) t := ⟨⟨by show (0 : Int) ≤ 0; decide, by show (0 : Int) ≤ 16; decide⟩, by rw [n2 9 (by decide)]; rfl, fun j j0 j1 => absurd j1 (by show ¬ j < 0; omega)⟩
      rw [← e.1] at hv'
      obtain ⟨ez1, ez2, ez3, ez4⟩ := e
      rcases hv with ⟨k0, hu, rfl⟩ | ⟨k1, hu, rfl⟩
      · rcases hv' with ⟨k0', hv'⟩ | ⟨k1', -⟩
        · have hA := zAL_sz hz (zmk τ w) ez2
          rw [hu] at hA
          by_cases z3 : zmk τ w = 3
          · rw [if_pos z3] at hv' hA
            obtain ⟨hu', rfl⟩ := hv'
            rw [hu'] at hA
            refine ⟨?_, zRel_H h hT hA.2.1 n2 n3 hA.2.2 hA.1⟩
            have e5 := ez4 (by omega)
            have e6 := ez3 z3
            unfold zSZv zSZb zMKv zMKw
            rw [if_pos z3, if_pos (rfl : (3 : Int) = 3), if_pos (by decide : (1 : Int) < 3), if_pos (rfl : (3 : Int) = 3), τ20, τ21, t45, t46, e5, e6, e20, e21, e22.1]
          · rw [if_neg z3] at hv' hA
            obtain ⟨hu', rfl⟩ := hv'
            rw [hu'] at hA
            refine ⟨?_, zRel_H h hT hA.2.1 n2 n3 hA.2.2 hA.1⟩
            unfold zSZv zSZb
            rw [if_neg z3, τ20, t45, e20, e21]
            by_cases z2 : zmk τ w = 2
            · rw [if_pos z2, if_pos (by omega : 1 < zmk τ w), ez4 (by omega)]
            · rw [if_neg z2, if_neg (by omega : ¬ 1 < zmk τ w)]
              by_cases z1 : zmk τ w = 1
              · rw [if_pos z1, if_pos (by omega : 0 < zmk τ w), ez4 (by omega)]
              · rw [if_neg z1, if_neg (by omega : ¬ 0 < zmk τ w)]
        · omega
      · rcases hv' with ⟨k0', -⟩ | ⟨k1', hu', rfl⟩
        · omega
        · have hA := zAL_mk hz (zmk τ w) ez2
          rw [hu, hu'] at hA
          refine ⟨?_, zRel_H h hT hA.2.1 n2 n3 hA.2.2 hA.1⟩
          unfold zMKv zMKw
          rw [τ21, t46, e22.1]
          by_cases z3 : zmk τ w = 3
          · rw [if_pos z3, if_pos z3, ez3 z3]
          · rw [if_neg z3, if_neg z3]
            by_cases z2 : zmk τ w = 2
            · rw [if_pos z2, if_pos (by omega : 1 < zmk τ w)]
            · rw [if_neg z2, if_neg (by omega : ¬ 1 < zmk τ w)]
theorem zcntl_cg {C C' : Int → Int} {x : Int} : ∀ {n : Nat}, (∀ t : Nat, t < n → C t = C' t) → zcntl C x n = zcntl C' x n
  | 0, _ => rfl
  | n + 1, h => by
    have e := zcntl_cg (x := x) (n := n) (fun t ht => h t (by omega))
    have q := h n (by omega)
    simp only [zcntl, e, q]
theorem zlsA_u {C C' : Int → Int} {L : Nat} {j k v v' : Int} (hL : L ≤ 30) (e : ∀ w : Int, 0 ≤ w → w < L → C w = C' w) (h : zlsA C L j k v) (h' : zlsA C' L j k v') : v = v' := by
  have ec : ∀ x : Int, zcntl C x L = zcntl C' x L := fun x => zcntl_cg (fun t ht => e t (by omega) (by omega))
  rcases h with ⟨w, w1, w2, w3⟩ | ⟨a1, a2⟩
  · rcases h' with ⟨y, y1, y2, y3⟩ | ⟨b1, b2⟩
    · rw [← ec, ← e y y1.1 y1.2.1] at y2
      rw [← e y y1.1 y1.2.1] at y3
      have q := zcntl_uniq (C := C) (w := w) (w' := y) (t := L) ⟨w1.1, w1.2.1, w1.2.2, by omega⟩ ⟨y1.1, y1.2.1, by rw [e y y1.1 y1.2.1]; exact y1.2.2, by omega⟩ (by rw [w2, y2])
      rw [w3, y3, q]
    · refine absurd ?_ (b1 w w1.1 w1.2.1 (by rw [← e w w1.1 w1.2.1]; exact w1.2.2))
      rw [← ec, ← e w w1.1 w1.2.1]
      exact w2
  · rcases h' with ⟨y, y1, y2, y3⟩ | ⟨b1, b2⟩
    · refine absurd ?_ (a1 y y1.1 y1.2.1 (by rw [e y y1.1 y1.2.1]; exact y1.2.2))
      rw [ec, e y y1.1 y1.2.1]
      exact y2
    · rw [a2, b2]
theorem sm_listed {n : Int} {σ : zS} (h : zRel n σ) (i j k : Int) : zSim n σ 65 134 [i, j, k] := by
  have hE := zrB_eq h.2.2.1
  obtain ⟨f1, f2, W, M, f3, f4⟩ := h.2.2.2.2.2.1
  refine ⟨_, am_X8_listed (zRel_CQ h) f3, fun v u r => ?_⟩
  have hk : zfr [0, 5, 6, 8, 29, 30, 31, 32, 33, 35, 36] σ u := by
    rcases r with ⟨-, rfl, -⟩ | ⟨-, τ, hT, hf, -⟩
    · exact zfr.rf
    · intro c hc
      simp only [List.mem_cons, List.not_mem_nil, or_false, not_or] at hc
      rw [hf c (by simp only [List.mem_cons, List.not_mem_nil, or_false, not_or]; omega), hT.1 c (by simp only [List.mem_cons, List.not_mem_nil, or_false, not_or]; omega)]
  have k9 : u 9 = σ 9 := hk 9 (by decide)
  refine ⟨_, am_X9_listed (W := W) (M := M) (zMQ2_fr (zRel_MQ h) (hk.on (by decide))) (by unfold zWM; rw [k9, f2, hk 51 (by decide), hk 52 (by decide)]; exact f4), fun v' u' r' => ?_⟩
  rw [k9] at r'
  rcases r with ⟨q, rfl, rfl⟩ | ⟨q, τ, hT, hf, hv⟩
  · rcases r' with ⟨q', rfl, rfl⟩ | ⟨q', -⟩
    · exact ⟨rfl, zRel_up h⟩
    · omega
  · rcases r' with ⟨q', -⟩ | ⟨q', hf', hv'⟩
    · omega
    · obtain ⟨a, b, c⟩ := zmft_fr (σ := σ) (t := u) (i := i) (hk 42 (by decide)) (hk 43 (by decide)) (hk 45 (by decide)) (hk 47 (by decide))
      rw [a, c, f2, ← (zRel_qq h q.1).1] at hv'
      refine ⟨zlsA_u (by omega) (fun w w0 w1 => ?_) hv hv', ?_⟩
      · have y := f3 w w0 (by omega)
        have e := zsp_congr (N := 1000000) (zRel_ff h q.1) y.1 (M w) 0 (by omega) (by decide)
        unfold zcw
        rw [e]
      · have e9 : u' 9 = σ 9 := by rw [hf' 9 (by decide), k9]
        have e0 : u' 0 = τ 0 := by rw [hf' 0 (by decide), hf 0 (by decide)]
        refine zRel_K (fun c hc => ?_) (fun j _ _ => by rw [e9]) (by rw [e0, e9, hT.2.1 11 (by decide)]; exact h.2.1) (zrF_fr (σ := σ) (by rw [hf' 10 (by decide), hk 10 (by decide)]) (by rw [hf' 54 (by decide), hk 54 (by decide)]) (by rw [e0, hT.2.1 10 (by decide)]) (by rw [e9]) h.2.2.2.2.2.2.1) (zIH_fr (σ := τ) (fun c hc => ?_) (Or.inl (by rw [e0])) (zTK_IH hT)) (zRMI_fr (σ := σ) (fun c hc => ?_) (by rw [e9]) h.2.2.2.2.2.2.2.1.2) h
        · simp only [List.mem_cons, List.not_mem_nil, or_false, not_or] at hc
          rw [hf' c (by simp only [List.mem_cons, List.not_mem_nil, or_false, not_or]; omega), hk c (by simp only [List.mem_cons, List.not_mem_nil, or_false, not_or]; omega)]
        · simp only [List.mem_cons, List.not_mem_nil, or_false, not_or] at hc
          rw [hf' c (by simp only [List.mem_cons, List.not_mem_nil, or_false, not_or]; omega), hf c (by simp only [List.mem_cons, List.not_mem_nil, or_false, not_or]; omega)]
        · simp only [List.mem_cons, List.not_mem_nil, or_false, not_or] at hc
          rw [hf' c (by simp only [List.mem_cons, List.not_mem_nil, or_false, not_or]; omega), hk c (by simp only [List.mem_cons, List.not_mem_nil, or_false, not_or]; omega)]
theorem zcT_cg {T T' : Int → Prop} : ∀ {n : Nat}, (∀ m : Nat, m < n → (T m ↔ T' m)) → zcT T n = zcT T' n
  | 0, _ => rfl
  | n + 1, h => by
    have e := zcT_cg (n := n) (fun m hm => h m (by omega))
    have q := h n (by omega)
    by_cases z : T n
    · rw [zcT_yes z, zcT_yes (q.1 z), e]
    · rw [zcT_no z, zcT_no (fun y => z (q.2 y)), e]
theorem zcT_le {T : Int → Prop} {a : Nat} : ∀ {b : Nat}, a ≤ b → zcT T a ≤ zcT T b
  | 0, h => by
    have e : a = 0 := by omega
    rw [e]
    exact Int.le_refl _
  | b + 1, h => by
    by_cases e : a = b + 1
    · rw [e]; exact Int.le_refl _
    · have q := zcT_le (T := T) (a := a) (b := b) (by omega)
      by_cases z : T b
      · rw [zcT_yes z]; omega
      · rw [zcT_no z]; exact q
theorem zFN_u {T T' : Int → Prop} {K k v v' : Int} (e : ∀ i : Int, 0 ≤ i → i < K → (T i ↔ T' i)) (h : zFN T K k v) (h' : zFN T' K k v') : v = v' := by
  have ec : ∀ i : Int, 0 ≤ i → i ≤ K → zcT T i.toNat = zcT T' i.toNat := fun i i0 i1 => zcT_cg (fun m hm => e m (by omega) (by omega))
  rcases h with ⟨i, i0, i1, i2, i3, i4⟩ | ⟨a1, a2⟩
  · rcases h' with ⟨j, j0, j1, j2, j3, j4⟩ | ⟨b1, b2⟩
    · rw [← ec j j0 (by omega)] at j3
      have hlt : ∀ x y : Int, 0 ≤ x → x < y → T x → zcT T x.toNat < zcT T y.toNat := fun x y x0 xy hx => by
        have q := zcT_le (T := T) (a := x.toNat + 1) (b := y.toNat) (by omega)
        rw [zcT_yes (n := x.toNat) (by rw [Int.toNat_of_nonneg x0]; exact hx)] at q
        omega
      rcases Int.lt_trichotomy i j with z | z | z
      · have := hlt i j i0 z i2
        omega
      · omega
      · have := hlt j i j0 z ((e j j0 j1).2 j2)
        omega
    · refine absurd ?_ (b1 i i0 i1 ((e i i0 i1).1 i2))
      rw [← ec i i0 (by omega)]
      exact i3
  · rcases h' with ⟨j, j0, j1, j2, j3, j4⟩ | ⟨b1, b2⟩
    · refine absurd ?_ (a1 j j0 j1 ((e j j0 j1).2 j2))
      rw [ec j j0 (by omega)]
      exact j3
    · rw [a2, b2]
theorem sm_find {n : Int} {σ : zS} (h : zRel n σ) (k : Int) : zSim n σ 67 143 [k] := by
  have hE := zrB_eq h.2.2.1
  obtain ⟨m, m1, m2, m3, m4, m5⟩ := h.2.2.2.2.1
  refine ⟨_, am_X8_find (zRel_CQ h), fun v u r => ?_⟩
  have hk : zfr zHK σ u := by
    rcases r with ⟨-, rfl, -⟩ | ⟨-, hT, -⟩
    · exact zfr.rf
    · exact hT.1
  have k9 : u 9 = σ 9 := hk 9 (by decide)
  refine ⟨_, am_X9_find (g := fun k : Nat => σ 53 k) (m9 := m) (zMQ2_fr (zRel_MQ h) (hk.on (by decide))) m2 m1 (by rw [k9]; exact m5) (fun j hj => by rw [hk 53 (by decide)]), fun v' u' r' => ?_⟩
  rw [k9] at r'
  rcases r with ⟨q, rfl, rfl⟩ | ⟨q, hT, hv⟩
  · rcases r' with ⟨q', rfl, rfl⟩ | ⟨q', -⟩
    · exact ⟨rfl, zRel_up h⟩
    · omega
  · rcases r' with ⟨q', -⟩ | ⟨q', hW, hv'⟩
    · omega
    · rw [← hE.1.1] at hv'
      refine ⟨zFN_u (fun i i0 i1 => ?_) hv hv', ?_⟩
      · obtain ⟨a, b, c⟩ := zmft_fr (σ := σ) (t := u) (i := i) (hk 42 (by decide)) (hk 43 (by decide)) (hk 45 (by decide)) (hk 47 (by decide))
        show zTLD (zSD (zff σ (zRcn σ) i) (zPM σ) (zqq σ i)) (σ 4 0) ↔ zTLD (zSD (zmft u i) (zPM u) (zmq u i)) (zlc (fun k : Nat => σ 53 k) m)
        rw [a, b, c, zRel_SD h ⟨i0, i1⟩, m3]
      · obtain ⟨g1, g2, g3⟩ := hT
        obtain ⟨w1, w2⟩ := hW
        have e9 : u' 9 = σ 9 := by rw [w1 9 (by decide), k9]
        have e0 : u' 0 = u 0 := w1 0 (by decide)
        have hIH : zIH u (zRcn u) (zPM u) := by
          obtain ⟨c, d⟩ := zRcn_fr (σ := σ) (u := u) (hk 47 (by decide))
          rw [c, d]
          exact g3
        refine zRel_K (fun c hc => ?_) (fun j _ _ => by rw [e9]) (by rw [e0, e9, g2 11 (by decide)]; exact h.2.1) (zrF_fr (σ := σ) (by rw [w1 10 (by decide), hk 10 (by decide)]) (by rw [w1 54 (by decide), hk 54 (by decide)]) (by rw [e0, g2 10 (by decide)]) (by rw [e9]) h.2.2.2.2.2.2.1) (zIH_fr (w1.on (by decide)) (Or.inl (by rw [e0])) hIH) w2 h
        simp only [List.mem_cons, List.not_mem_nil, or_false, not_or] at hc
        rw [w1 c (by simp only [List.mem_cons, List.not_mem_nil, or_false, not_or]; omega), hk c (by simp only [List.mem_cons, List.not_mem_nil, or_false, not_or]; omega)]
