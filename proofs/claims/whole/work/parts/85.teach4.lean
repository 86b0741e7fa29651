/-! the two systems answer alike: teach, the call -/
theorem zRel_S {n : Int} {σ τ u t : zS} {i : Int} {w : Nat → Int} (h : zRel n σ) (hT : zTK zHK σ τ (zRcn σ) (zPM σ) i) (hf : zfr [33] τ u) (hf' : zfr [60] u t) : zRel (n + 1) t := by
  have e9 : t 9 = σ 9 := by rw [hf' 9 (by decide), hf 9 (by decide), hT.1 9 (by decide)]
  have e0 : t 0 = τ 0 := by rw [hf' 0 (by decide), hf 0 (by decide)]
  have eg : ∀ c : Nat, ¬ c = 33 → ¬ c = 60 → t c = τ c := fun c a b => by
    rw [hf' c (by simp only [List.mem_cons, List.not_mem_nil, or_false]; exact b), hf c (by simp only [List.mem_cons, List.not_mem_nil, or_false]; exact a)]
  refine zRel_K (fun c hc => ?_) (fun j _ _ => by rw [e9]) (by rw [e0, e9, hT.2.1 11 (by decide)]; exact h.2.1) (zrF_fr (σ := σ) (by rw [eg 10 (by decide) (by decide), hT.1 10 (by decide)]) (by rw [eg 54 (by decide) (by decide), hT.1 54 (by decide)]) (by rw [e0, hT.2.1 10 (by decide)]) (by rw [e9]) h.2.2.2.2.2.2.1) (zIH_fr (σ := τ) (fun c hc => ?_) (Or.inl (by rw [e0])) (zTK_IH hT)) (zRMI_fr (σ := σ) (fun c hc => ?_) (by rw [e9]) h.2.2.2.2.2.2.2.1.2) h
  · simp only [List.mem_cons, List.not_mem_nil, or_false, not_or] at hc
    rw [eg c (by omega) (by omega), hT.1 c (by simp only [List.mem_cons, List.not_mem_nil, or_false, not_or]; omega)]
  · simp only [List.mem_cons, List.not_mem_nil, or_false, not_or] at hc
    exact eg c (by omega) (by omega)
  · simp only [List.mem_cons, List.not_mem_nil, or_false, not_or] at hc
    rw [eg c (by omega) (by omega), hT.1 c (by simp only [List.mem_cons, List.not_mem_nil, or_false, not_or]; omega)]
theorem zRel_sp {n : Int} {σ : zS} (h : zRel n σ) {i : Int} (hi : 0 ≤ i ∧ i < σ 2 10) {w : Nat → Int} {m : Nat} (hw : zlet w m) (hm : m ≤ 12) : (zsp (zff σ (zRcn σ) i) w m (zqq σ i) 1000000 m 0 < 1000000 ↔ zsp (zmft σ i) w m (zmq σ i) 1000000000 m 0 < 1000000000) ∧ (zsp (zff σ (zRcn σ) i) w m (zqq σ i) 1000000 m 0 < 1000000 → ∀ k : Nat, k ≤ m → zat (zff σ (zRcn σ) i) w m (zqq σ i) 1000000 k = zat (zmft σ i) w m (zmq σ i) 1000000000 k ∧ (k < m → zrwk (zff σ (zRcn σ) i) w m (zqq σ i) 1000000 k = zrwk (zmft σ i) w m (zmq σ i) 1000000000 k)) := by
  have hff := zRel_ff h hi
  have hq := zRel_qq h hi
  rw [← hq.1]
  have hb : ∀ a k l : Int, 0 ≤ a → 1 ≤ k → k ≤ 3 → a + k ≤ zqq σ i → 0 ≤ l → l < 26 → zff σ (zRcn σ) i a k l ≤ 100 := fun a k l _ _ _ _ _ _ => zfm_r.2
  have e1 := zsp_congr hff hw (N := 1000000000) m 0 (Nat.le_refl _) (by decide)
  have e2 := zsp_b hb hw (N := 1000000) (M := 1000000000) (by decide) (by decide) hm m 0 (Nat.le_refl _) (by decide)
  rw [← e1]
  refine ⟨by omega, fun hfin k hk => ?_⟩
  have hfin2 : zsp (zff σ (zRcn σ) i) w m (zqq σ i) 1000000000 m 0 < 1000000000 := by omega
  have a := zat_N hb hw (N := 1000000) (M := 1000000000) (by decide) (by decide) hm hq.2.1.1 hfin hk
  have b := zat_cg hff hw hq.2.1.1 hfin2 hk
  exact ⟨by rw [a.1, b.1], fun hk2 => by rw [a.2 hk2, b.2 hk2]⟩
theorem sm_teach {n : Int} {σ : zS} (h : zRel n σ) (hn : 0 ≤ n ∧ n ≤ 511) (i : Int) : zSim n σ 68 144 [i] := by
  have hE := zrB_eq h.2.2.1
  obtain ⟨rA, rS, rB, ⟨⟨t1, t2, t3⟩, hA, hU⟩, ⟨m, m1, m2, m3, m4, m5⟩, rE, rF, rG, n1, n2, n3⟩ := id h
  obtain ⟨a1, a2, a3, a4, a5, a6⟩ := id hU
  have hq20 := a1
  refine ⟨_, am_X8_teach (w := fun k : Nat => σ 53 k) (m := m) (zRel_CQ h) m2 m1 m3 m4 t2 hA.2.2.2.1 a1.2 ⟨a2.1, by omega⟩, fun v u r => ?_⟩
  have hk : zfr [0, 3, 4, 5, 6, 22, 25, 26, 27, 29, 30, 31, 32, 33, 34] σ u := by
    have aux : ∀ (τ u : zS) (L : List Nat), zfr zHK σ τ → zfr L τ u → (∀ c ∈ L, c ∈ [0, 3, 4, 5, 6, 22, 25, 26, 27, 29, 30, 31, 32, 33, 34]) → zfr [0, 3, 4, 5, 6, 22, 25, 26, 27, 29, 30, 31, 32, 33, 34] σ u := fun τ u L p q s c hc => by
      have hc2 := hc
      simp only [List.mem_cons, List.not_mem_nil, or_false, not_or] at hc
      rw [q c (fun z => hc2 (s c z)), p c (by simp only [List.mem_cons, List.not_mem_nil, or_false, not_or]; omega)]
    rcases r with ⟨-, rfl, -⟩ | ⟨-, τ, hT, ⟨-, rfl, -⟩ | ⟨-, -, hf, -⟩ | ⟨-, -, -, hf, -⟩ | ⟨-, -, -, κ, t, hf, -, -, -, hL, -, rfl, -⟩⟩
    · exact zfr.rf
    · exact aux _ _ [] hT.1 zfr.rf (by decide)
    · exact aux _ _ _ hT.1 hf (by decide)
    · exact aux _ _ _ hT.1 hf (by decide)
    · refine zfr.up (zfr.up (zfr.up ?_ (by decide)) (by decide)) (by decide)
      refine aux τ t [3, 22, 25, 26, 27, 33, 34] hT.1 (fun c hc => ?_) (by decide)
      simp only [List.mem_cons, List.not_mem_nil, or_false, not_or] at hc
      rw [hL.1 c (by simp only [List.mem_cons, List.not_mem_nil, or_false, not_or]; omega), hf c (by simp only [List.mem_cons, List.not_mem_nil, or_false, not_or]; omega)]
  have k9 : u 9 = σ 9 := hk 9 (by decide)
  have k53 : u 53 = σ 53 := hk 53 (by decide)
  have k45 : u 45 = σ 45 := hk 45 (by decide)
  have k42 : u 42 = σ 42 := hk 42 (by decide)
  have k47 : u 47 = σ 47 := hk 47 (by decide)
  refine ⟨_, am_X9_teach (w := fun k : Nat => σ 53 k) (m := m) (zMQ2_fr (zRel_MQ h) (hk.on (by decide))) m2 m1 (by rw [k9]; exact m5) (fun j j0 j1 => by rw [k53]; show σ 53 j = σ 53 (j.toNat : Int); rw [Int.toNat_of_nonneg j0]) (by rw [k9]; omega) (by rw [k9]; omega), fun v' u' r' => ?_⟩
  obtain ⟨b1, b2, b3⟩ := zmft_fr (σ := σ) (t := u) (i := i) k42 (hk 43 (by decide)) k45 k47
  rw [k9, b1, b3, ← hE.1.1] at r'
  rcases r with ⟨q, rfl, rfl⟩ | ⟨q, τ, hT, hv⟩
  · rcases r' with ⟨q', rfl, rfl⟩ | ⟨q', -⟩
    · exact ⟨rfl, zRel_up h⟩
    · exact absurd q' q
  · rcases r' with ⟨q', -⟩ | ⟨q', hv'⟩
    · exact absurd q q'
    · obtain ⟨hsp, hat⟩ := zRel_sp h q m2 m1
      rcases hv with ⟨x1, rfl, rfl⟩ | ⟨x1, x2, hf, rfl⟩ | ⟨x1, x2, x3, hf, rfl⟩ | ⟨x1, x2, x3, κ, t, hf, y1, y2, y3, hL, hTC, hu, rfl⟩
      · rcases hv' with ⟨-, rfl, rfl⟩ | ⟨z1, -⟩ | ⟨z1, -⟩ | ⟨z1, -⟩
        · exact ⟨rfl, zRel_S (w := fun _ => 0) h hT zfr.rf zfr.rf⟩
        all_goals exact absurd x1 z1
      · rcases hv' with ⟨z1, -⟩ | ⟨-, z2, hf', rfl⟩ | ⟨z1, z2, -⟩ | ⟨z1, z2, -⟩
        · exact absurd z1 x1
        · exact ⟨rfl, zRel_S (w := fun _ => 0) h hT hf hf'⟩
        · exact absurd (hsp.2 z2) x2
        · exact absurd (hsp.2 z2) x2
      · rcases hv' with ⟨z1, -⟩ | ⟨-, z2, -⟩ | ⟨z1, z2, z3, hf', rfl⟩ | ⟨z1, z2, z3, -⟩
        · exact absurd z1 x1
        · exact absurd (hsp.1 x2) z2
        · exact ⟨rfl, zRel_S (w := fun _ => 0) h hT hf hf'⟩
        · exfalso
          omega
      · rcases hv' with ⟨z1, -⟩ | ⟨-, z2, -⟩ | ⟨z1, z2, z3, -⟩ | ⟨z1, z2, z3, κ', t', hf', w1, w2, w3, w4, hL', hTC', hu', rfl⟩
        · exact absurd z1 x1
        · exact absurd (hsp.1 x2) z2
        · exfalso
          omega
        · -- the class's cells
          have τ3 : τ 3 = σ 3 := hT.1 3 (by decide)
          have κ3 : κ 3 3 = σ 3 3 := y1 3 (by decide)
          have κ6 : κ 3 6 = σ 3 6 := y1 6 (by decide)
          have κc : ∀ c : Nat, ¬ c = 3 → ¬ c = 27 → ¬ c = 33 → ¬ c = 34 → c ∉ zHK → κ c = σ c := fun c c3 c27 c33 c34 cH => by
            rw [hf c (by simp only [List.mem_cons, List.not_mem_nil, or_false, not_or]; omega), hT.1 c cH]
          have κ22 := κc 22 (by decide) (by decide) (by decide) (by decide) (by decide)
          have κ23 := κc 23 (by decide) (by decide) (by decide) (by decide) (by decide)
          have κ24 := κc 24 (by decide) (by decide) (by decide) (by decide) (by decide)
          have κ25 := κc 25 (by decide) (by decide) (by decide) (by decide) (by decide)
          have κ26 := κc 26 (by decide) (by decide) (by decide) (by decide) (by decide)
          obtain ⟨L1, L2, L3, L4, L5, L6⟩ := hL
          obtain ⟨M1, M2, M3, M4, M5, M6⟩ := hL'
          have uc : ∀ c : Nat, ¬ c = 0 → ¬ c = 4 → u c = t c := fun c c0 c4 => by
            rw [← hu, zup_ne c4, zup_ne c4, zup_ne c0]
          have u'c : ∀ c : Nat, ¬ c = 9 → ¬ c = 55 → u' c = t' c := fun c c9 c55 => by
            rw [← hu', zup_ne c9]
            funext x
            exact if_neg (fun z => c55 z.1)
          have t'c : ∀ c ∈ [0, 3, 4, 22, 23, 24, 25, 26, 27, 53], t' c = u c := fun c hc => by
            simp only [List.mem_cons, List.not_mem_nil, or_false] at hc
            rw [M1 c (by simp only [List.mem_cons, List.not_mem_nil, or_false, not_or]; omega), hf' c (by simp only [List.mem_cons, List.not_mem_nil, or_false, not_or]; omega)]
          have U : ∀ c ∈ [3, 22, 23, 24, 25, 26, 27], u' c = t c := fun c hc => by
            have hc2 := hc
            simp only [List.mem_cons, List.not_mem_nil, or_false] at hc
            rw [u'c c (by omega) (by omega), t'c c (by simp only [List.mem_cons, List.not_mem_nil, or_false]; omega), uc c (by omega) (by omega)]
          have t23 : t 23 = σ 23 := by rw [L1 23 (by decide), κ23]
          have t24 : t 24 = σ 24 := by rw [L1 24 (by decide), κ24]
          have t33 : t 3 3 = σ 3 3 := by rw [L2 3 (by decide), κ3]
          have t38 : t 3 8 = σ 3 8 + 1 := by rw [L2 8 (by decide), y2]
          have t27 : t 27 = κ 27 := L1 27 (by decide)
          have κ'c : ∀ c ∈ [47, 48, 49], κ' c = σ c := fun c hc => by
            simp only [List.mem_cons, List.not_mem_nil, or_false] at hc
            rw [hf' c (by simp only [List.mem_cons, List.not_mem_nil, or_false, not_or]; omega), hk c (by simp only [List.mem_cons, List.not_mem_nil, or_false, not_or]; omega)]
          have t'50 : t' 50 = κ' 50 := M1 50 (by decide)
          have k50 : u 50 = σ 50 := hk 50 (by decide)
          have u'9 : ∀ j : Int, ¬ j = 25 → u' 9 j = t' 9 j := fun j j1 => by
            rw [← hu']
            show (if j = 25 then 0 else (zfill t' 55 0 40 0) 9 j) = _
            rw [if_neg j1]
            exact if_neg (fun z => absurd z.1 (by decide))
          have u'25 : u' 9 25 = 0 := by rw [← hu']; rfl
          have t'9 : ∀ j : Int, ¬ j = 17 → ¬ j = 20 → t' 9 j = σ 9 j := fun j j1 j2 => by
            rw [M2 j j1, w1 j j1 j2]
          have t'20 : t' 9 20 = σ 9 20 + 1 := by rw [M2 20 (by decide), w2]
          have κ'17 : 0 ≤ κ' 9 17 ∧ κ' 9 17 ≤ σ 9 17 ∧ (0 < σ 9 20 → κ' 9 17 = σ 9 17) := by
            rw [w3]
            by_cases z : σ 9 20 = 0
            · rw [if_pos z]; exact ⟨by decide, a2.2, fun y => by omega⟩
            · rw [if_neg z]; exact ⟨a2.2, Int.le_refl _, fun _ => rfl⟩
          -- the counts
          have hq := zRel_qq h q
          have hAG : zAGR (σ 3 3) (σ 23) (σ 24) (t 22) (t' 47) := by
            refine zAGR_teach (w := fun k : Nat => σ 53 k) (rc := zrcK σ (zRcn σ) i (fun k : Nat => σ 53 k) m) (ix := fun j : Nat => zsq u (σ 53 j) (u 45 i + zat (zmft σ i) (fun k : Nat => σ 53 k) m (zmq σ i) 1000000000 j) (zrwk (zmft σ i) (fun k : Nat => σ 53 k) m (zmq σ i) 1000000000 j)) (m := m) hA t1 m2 (fun k hk2 => ?_) (fun j j0 j1 => ?_) (fun a b h0 h1 h2 h3 => ?_) (fun x hx => ?_) (fun x x0 x1 => ?_)
            · have ok := zat_ok hq.2.1.1 x2 (k := k) (by omega)
              have ok2 := ok.2.2 hk2
              have ea := hat x2 k (by omega)
              have eb := ea.2 hk2
              obtain ⟨y, yr, ye, yz⟩ := zRel_rc h q (a := zat (zff σ (zRcn σ) i) (fun k : Nat => σ 53 k) m (zqq σ i) 1000000 k) (k := zrwk (zff σ (zRcn σ) i) (fun k : Nat => σ 53 k) m (zqq σ i) 1000000 k) ok.1.1 ok2.1.1 ok2.1.2 ok2.2.1
              have ez : zsq σ (σ 53 k) (σ 45 i + zat (zmft σ i) (fun k : Nat => σ 53 k) m (zmq σ i) 1000000000 k) (zrwk (zmft σ i) (fun k : Nat => σ 53 k) m (zmq σ i) 1000000000 k) = 1884 * σ 53 k + y := by
                rw [← ea.1, ← eb]
                exact yz (σ 53 k)
              refine ⟨y, yr, ye, ?_, ?_⟩
              · show zsq u (σ 53 k) (u 45 i + _) _ = _
                rw [k45, show zsq u = zsq σ by funext l x m'; unfold zsq; rw [k42]]
                exact ez
              · intro z
                have hf0 := ok2.2.2.2.1
                have hwk := m2 k hk2
                rw [zRel_ff h q _ _ _ ok.1.1 ok2.1.1 ok2.1.2 ok2.2.1 hwk.1 hwk.2] at hf0
                unfold zmft zmc at hf0
                have yz2 := yz (σ 53 k)
                rw [yz2, if_pos z, if_pos rfl] at hf0
                exact absurd hf0 (by decide)
            · have e := hTC.1 j (by rw [κ3] at *; exact j0) (by rw [κ3]; exact j1)
              rw [κ22, κ23, κ24] at e
              exact e
            · have e := hTC.2.1 a b h0 h1 h2 h3
              rw [κ22] at e
              exact e
            · have e := hTC.2.2 x (by rw [κ3]; exact hx)
              rw [κ22] at e
              exact e
            · have e := hTC' x x0 x1
              rw [k47] at e
              exact e
          have hfr : zfr [0, 3, 4, 5, 6, 9, 22, 23, 24, 25, 26, 27, 29, 30, 31, 32, 33, 34, 47, 48, 49, 50, 55, 60, 64] σ u' := fun c hc => by
            simp only [List.mem_cons, List.not_mem_nil, or_false, not_or] at hc
            rw [u'c c (by omega) (by omega), M1 c (by simp only [List.mem_cons, List.not_mem_nil, or_false, not_or]; omega), hf' c (by simp only [List.mem_cons, List.not_mem_nil, or_false, not_or]; omega), hk c (by simp only [List.mem_cons, List.not_mem_nil, or_false, not_or]; omega)]
          have u'0 : u' 0 = u 0 := by rw [u'c 0 (by decide) (by decide), t'c 0 (by decide)]
          have u'4 : u' 4 = u 4 := by rw [u'c 4 (by decide) (by decide), t'c 4 (by decide)]
          have u0 : ∀ j : Int, u 0 j = if j = 4 then -1 else t 0 j := fun j => by rw [← hu]; rfl
          have t0 : t 0 = τ 0 := by rw [L1 0 (by decide), hf 0 (by decide)]
          have u43 : u 4 3 = σ 4 3 := by
            rw [← hu]
            show t 4 3 = _
            rw [L1 4 (by decide), hf 4 (by decide), hT.1 4 (by decide)]
          refine ⟨rfl, zRel_C hfr (fun j j1 => by rw [u'0, u0, if_neg j1, t0, hT.2.1 j j1]) (by rw [u'0, u0]; rfl) (by rw [u'4]; exact u43) (fun j j1 j2 j3 => by rw [u'9 j j3, t'9 j j1 j2]) (fun j j0 j1 => by rw [← hu']; have e : zfill t' 55 0 40 0 55 j = 0 := if_pos ⟨rfl, j0, by omega⟩; exact e) ⟨⟨by rw [U 3 (by decide), t33]; exact t1, ?_, ?_⟩, ?_, by rw [U 3 (by decide), t38, u'9 20 (by decide), t'20]; omega, ?_, fun j j0 j1 => ?_, fun j j0 j1 => ?_, fun s x s0 s1 s2 => ?_, fun x s0 s1 => ?_⟩ ⟨0, by decide, fun k hk => absurd hk (by omega), ?_, by rw [u'4, ← hu]; rfl, u'25⟩ ⟨?_, ?_, ?_⟩ h⟩
          · unfold zUQ
            rw [U 3 (by decide), U 23 (by decide), U 24 (by decide), t33, t23, t24]
            exact t2
          · rw [U 3 (by decide), U 23 (by decide), U 24 (by decide), t33, t23, t24]
            exact t3
          · rw [U 3 (by decide), U 23 (by decide), U 24 (by decide), t33, t23, t24, U 22 (by decide), u'c 47 (by decide) (by decide)]
            exact hAG
          · rw [U 3 (by decide), u'9 17 (by decide)]
            omega
          · rw [U 3 (by decide)] at j1
            rw [U 25 (by decide)]
            by_cases z : j < κ 3 6
            · rw [(L5 j z).1, κ25]
              exact a3 j j0 (by omega)
            · exact L4 j (by omega) j1
          · rw [u'9 17 (by decide)] at j1
            rw [u'c 48 (by decide) (by decide)]
            by_cases z : j < κ' 9 17
            · rw [(M5 j z).1, κ'c 48 (by decide)]
              exact a4 j j0 (by omega)
            · exact M4 j (by omega) j1
          · rw [U 3 (by decide), t38] at s2
            rw [U 27 (by decide), t27, u'c 50 (by decide) (by decide), t'50, y3, y3, w4, w4, k50]
            by_cases z1 : s = σ 3 8
            · rw [if_pos z1, if_pos (by omega : x = σ 3 8), if_pos (by omega : s = σ 9 20), if_pos (by omega : x = σ 9 20)]
              exact ⟨Int.le_refl _, Int.le_refl _⟩
            · rw [if_neg z1, if_neg (by omega : ¬ s = σ 9 20)]
              have b6 := a6 s s0 (by omega)
              have b7 := κ'17.2.2 (by omega)
              by_cases z2 : x = σ 3 8
              · rw [if_pos z2, if_pos (by omega : x = σ 9 20)]
                omega
              · rw [if_neg z2, if_neg (by omega : ¬ x = σ 9 20)]
                exact a5 s x s0 s1 (by omega)
          · rw [U 3 (by decide), t38] at s1
            rw [U 3 (by decide), U 22 (by decide), U 23 (by decide), U 24 (by decide), U 25 (by decide), U 26 (by decide), U 27 (by decide), t33, t23, t24, t27, u'c 47 (by decide) (by decide), u'c 48 (by decide) (by decide), u'c 49 (by decide) (by decide), u'c 50 (by decide) (by decide), t'50, u'9 17 (by decide), y3, w4, k50]
            by_cases z2 : x = σ 3 8
            · rw [if_pos z2, if_pos (by omega : x = σ 9 20)]
              have e1 := L6 (σ 3 6) a2.1 (by omega)
              have e2 := M6 (κ' 9 17) κ'17.1 (by omega)
              rw [κ6, Int.sub_self, κ22] at e1
              rw [Int.sub_self, κ'c 47 (by decide)] at e2
              rw [e1, e2]
              exact ⟨by omega, by omega, hA⟩
            · rw [if_neg z2, if_neg (by omega : ¬ x = σ 9 20)]
              have b6 := a6 x s0 (by omega)
              have b7 := κ'17.2.2 (by omega)
              have e1 := L6 (σ 27 x) b6.1.1 (by omega)
              have e2 := M6 (σ 50 x) b6.2.1.1 (by omega)
              rw [κ6, κ22, κ25, κ26] at e1
              rw [b7, κ'c 47 (by decide), κ'c 48 (by decide), κ'c 49 (by decide)] at e2
              rw [e1, e2]
              exact ⟨by omega, by omega, b6.2.2⟩
          · rw [u'4, ← hu]
            show (0 : Int) = 0 * 32 ^ (12 - 0)
            omega
          · rw [U 3 (by decide), t33]
            omega
          · rw [U 3 (by decide), u'25]
            omega
          · rw [u'9 17 (by decide), u'25]
            omega
