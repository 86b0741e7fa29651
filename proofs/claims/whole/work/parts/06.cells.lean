/-! the steps that read or write cells, and calls -/
theorem zmf : ∀ A, A < zlaw → zMF A := by
  intro A h
  have h2 : A ∈ zmL := by
    have h3 : (List.range zlaw).all (fun a => decide (a ∈ zmL)) = true := by decide +kernel
    exact of_decide_eq_true (List.all_eq_true.mp h3 A (List.mem_range.mpr h))
  exact zmL_ok A h2
theorem zkd_lt {k : Nat} (h : zkd k ≠ 9) : k < zNC := by
  unfold zkd at h
  split at h
  all_goals first | (show _ < 73; omega) | exact absurd rfl h
theorem zkd5 {k : Nat} (h : zkd k = 5) : k = zKR := by
  unfold zkd at h
  split at h
  all_goals first | rfl | exact absurd h (by decide)
theorem zln_r (k : Nat) : 0 ≤ zln k ∧ zln k ≤ 100000 := by
  unfold zln
  split
  all_goals exact ⟨by decide, by decide⟩
theorem zft_ty : ∀ k, k < 10 → ∀ j, j < zN (zcn k) → (zft k j = 0 → zTy (zcn k) j = .int) ∧ (zft k j = 1 → zTy (zcn k) j = .long) := by decide +kernel
theorem zcn_10 : ∀ k, k < 10 → zcn k < 10 ∧ zkd k = 4 := by decide +kernel
theorem zadr_ne {ad : Nat → Nat} {k : Nat} {o : Int} (h : k ≠ zKR) : zadr ad k o = ad k := if_neg h
theorem zadr_0 {ad : Nat → Nat} {k : Nat} : zadr ad k 0 = ad k := by
  unfold zadr
  split
  next h => rw [h]; rfl
  next => rfl
theorem zadr_r {ad : Nat → Nat} {r : Nat} : zadr ad zKR (80 * (r : Int)) = ad (zKR + r) := by
  unfold zadr
  rw [if_pos rfl]
  congr 2
  omega
theorem zwl_obj {ad : Nat → Nat} {ct : Nat → ClassId} {σ : zS} {k : Nat} (h : k < zNC) (hk : zkd k = 4) : (zwl ad ct σ)[k]? = some (ad k, .inr (zcn k, (List.range (zN (zcn k))).map (fun j => zfv ad σ k j))) := by
  rw [zwl_at ad ct σ h]; simp only [zcel, hk]
theorem zwl_ia {ad : Nat → Nat} {ct : Nat → ClassId} {σ : zS} {k : Nat} (hk : zkd k = 0) : (zwl ad ct σ)[k]? = some (ad k, .inl (ct 0, (zln k).toNat, .inl (fun j => Int32.ofInt (σ k j)))) := by
  rw [zwl_at ad ct σ (zkd_lt (by rw [hk]; decide))]; simp only [zcel, hk]
theorem zwl_za {ad : Nat → Nat} {ct : Nat → ClassId} {σ : zS} {k : Nat} (hk : zkd k = 1) : (zwl ad ct σ)[k]? = some (ad k, .inl (ct 1, (zln k).toNat, .inl (fun j => Int32.ofInt (σ k j)))) := by
  rw [zwl_at ad ct σ (zkd_lt (by rw [hk]; decide))]; simp only [zcel, hk]
theorem zwl_la {ad : Nat → Nat} {ct : Nat → ClassId} {σ : zS} {k : Nat} (hk : zkd k = 2) : (zwl ad ct σ)[k]? = some (ad k, .inl (ct 2, (zln k).toNat, .inr (.inl (fun j => Int64.ofInt (σ k j))))) := by
  rw [zwl_at ad ct σ (zkd_lt (by rw [hk]; decide))]; simp only [zcel, hk]
theorem zwl_qa {ad : Nat → Nat} {ct : Nat → ClassId} {σ : zS} {k : Nat} (hk : zkd k = 3) : (zwl ad ct σ)[k]? = some (ad k, .inl (ct 3, 8, .inr (.inr (.inr (.inr (fun j => if j < 8 then some (ad (zKR + j)) else none)))))) := by
  rw [zwl_at ad ct σ (zkd_lt (by rw [hk]; decide))]; simp only [zcel, hk]
def zrw (σ : zS) (r : Nat) : Nat → Int32 := fun j => if j < 80 then Int32.ofInt (σ zKR (80 * (r : Int) + (j : Int))) else 0
theorem zcel_row {ad : Nat → Nat} {ct : Nat → ClassId} {σ : zS} {r : Nat} (h : r < 8) : zcel ad ct σ (zKR + r) = .inl (ct 0, 80, .inl (zrw σ r)) := by
  match r, h with
  | 0, _ => rfl
  | 1, _ => rfl
  | 2, _ => rfl
  | 3, _ => rfl
  | 4, _ => rfl
  | 5, _ => rfl
  | 6, _ => rfl
  | 7, _ => rfl
  | n + 8, h => exact absurd h (by omega)
theorem zwl_ra {ad : Nat → Nat} {ct : Nat → ClassId} {σ : zS} {r : Nat} (h : r < 8) : (zwl ad ct σ)[zKR + r]? = some (ad (zKR + r), .inl (ct 0, 80, .inl (zrw σ r))) := by
  rw [zwl_at ad ct σ (by show 65 + r < 73; omega), zcel_row h]
theorem zcel_congr {ad : Nat → Nat} {ct : Nat → ClassId} {σ u : zS} {k : Nat} (h : σ k = u k) (h2 : σ zKR = u zKR) : zcel ad ct σ k = zcel ad ct u k := by
  unfold zcel
  split
  all_goals first | rfl | (simp only [zfv, h]) | (simp only [h2])
theorem zup_ne {σ : zS} {k j : Nat} {i v : Int} (h : j ≠ k) : zup σ k i v j = σ j := by funext x; exact if_neg h
theorem zup_at {σ : zS} {k : Nat} {i v x : Int} : zup σ k i v k x = if x = i then v else σ k x := if_pos rfl
theorem zwl_up {ad : Nat → Nat} {ct : Nat → ClassId} {σ : zS} {k : Nat} {i v : Int} {e : va_E} (h : k < zNC) (hne : k ≠ zKR) (he : e = zcel ad ct (zup σ k i v) k) : (zwl ad ct σ).set k (ad k, e) = zwl ad ct (zup σ k i v) :=
  zwl_set ad ct σ (zup σ k i v) k e h he (fun j _ hj => zcel_congr (zup_ne hj) (zup_ne (Ne.symm hne)))
theorem zwl_upr {ad : Nat → Nat} {ct : Nat → ClassId} {σ u : zS} {r : Nat} {f : Nat → Int32} (h : r < 8) (hf : f = zrw u r) (ho : ∀ k, k ≠ zKR → u k = σ k) (hr : ∀ q, q < 8 → q ≠ r → zrw u q = zrw σ q) : (zwl ad ct σ).set (zKR + r) (ad (zKR + r), .inl (ct 0, 80, .inl f)) = zwl ad ct u := by
  refine zwl_set ad ct σ u (zKR + r) _ (by show 65 + r < 73; omega) (by rw [zcel_row h, hf]) (fun j hj hne => ?_)
  by_cases hq : zKR ≤ j
  · obtain ⟨q, rfl⟩ : ∃ q, j = zKR + q := ⟨j - zKR, by omega⟩
    have hq8 : q < 8 := by have : 65 + q < 73 := hj; omega
    rw [zcel_row hq8, zcel_row hq8, hr q hq8 (fun z => hne (by rw [z]))]
  · have h1 : zkd j ≠ 5 ∧ zkd j ≠ 8 := by
      have h9 : ∀ j, j < 65 → zkd j ≠ 5 ∧ zkd j ≠ 8 := by decide +kernel
      exact h9 j (by have : ¬ 65 ≤ j := hq; omega)
    have hj2 : u j = σ j := ho j (fun z => hq (by rw [z]; exact Nat.le_refl _))
    unfold zcel
    split
    all_goals first | rfl | (simp only [zfv, hj2]) | skip
    exfalso
    have h9 : ∀ j, j < 65 → zkd j = 0 ∨ zkd j = 1 ∨ zkd j = 2 ∨ zkd j = 3 ∨ zkd j = 4 := by decide +kernel
    rcases h9 j (by have : ¬ 65 ≤ j := hq; omega) with q | q | q | q | q <;> contradiction
theorem zws_in {A : Nat} (hM : zMF A) : ∀ w ∈ zws A, w ∈ zTB := fun w hw => by
  rcases List.mem_cons.mp hw with rfl | hw
  · exact hM.1
  · exact hw
theorem zws_good {A : Nat} (hM : zMF A) : GoodIn zTB (zws A) := fun w hw => ⟨zws_in hM w hw, good_of_word (zTB_good w (zws_in hM w hw))⟩
theorem zmax32 {x y : Int} (hx : zI x) (hy : zI y) : (if Int32.ofInt x < Int32.ofInt y then Int32.ofInt y else Int32.ofInt x) = Int32.ofInt (max x y) ∧ zI (max x y) := by
  simp only [zlt hx hy]
  have h1 := hx.1; have h2 := hx.2; have h3 := hy.1; have h4 := hy.2
  refine ⟨?_, by unfold zI; omega⟩
  split
  · congr 1; omega
  · congr 1; omega
theorem zcase_at {pc : Nat} {J : Nat → Prop} {v : Int} : ∀ (offs : List Int) (lo : Int) (k : Nat) (o : Int), zcase pc J v lo offs → offs[k]? = some o → v = lo + (k : Int) → J ((pc : Int) + o).toNat
  | [], lo, k, o, _, h, _ => by simp at h
  | a :: l, lo, 0, o, hz, h, hv => by
    simp at h
    subst h
    exact hz.1 (by simpa using hv)
  | a :: l, lo, k + 1, o, hz, h, hv => zcase_at l (lo + 1) k o hz.2 (by simpa using h) (by rw [hv]; push_cast; omega)
section ZC
variable {p : Program} {l : Launch} {e : Env} {Rm : Room} {s : State} {m : MethodId} {args : Array Value} {below : List Frame} {meth : Method} {c : Code} {H : Heap} {locs : List Loc} {cells slots : Nat} {Q : State → Prop}
/-- the world behind a call -/
theorem zcall {D : va_G} {ad : Nat → Nat} {ct : Nat → ClassId} {AA : Nat → Prop} {σ : zS} {pc : Nat} {ls : Array Slot} {st0 rest : List Value} {r : Option FieldType} {Rc : Int → zS → Prop}
    (hr : va_Run p l e Rm s m args below meth c H locs cells slots 0 0 (F0 m pc ls st0) rest (fun st oc t => (∃ (v : Int) (u : zS), oc = .returned (zRv r v) ∧ (Rc v u ∧ zWF u ∧ zRok r v) ∧ zWD D ad ct u (va_A (zwl ad ct σ) H.size) t) ∧ va_F (va_A (zwl ad ct σ) H.size) st t) (va_A (zwl ad ct σ) H.size))
    (wo : zWo D ad ct AA s σ H locs) (hA : ∀ q, s.heap.size ≤ q → AA q)
    (kk : ∀ (v : Int) (u : zS) (H1 : Heap) (locs1 : List Loc), Rc v u → zWF u → zRok r v → zWo D ad ct AA s u H1 locs1 → W p l e Rm s m args below meth c H1 locs1 cells slots Q (F0 m (pc + 3) ls ((zRv r v).toList ++ rest))) : W p l e Rm s m args below meth c H locs cells slots Q (F0 m pc ls st0) := by
  have hF : ∀ q, va_A (zwl ad ct σ) H.size q → AA q := by
    intro q hq
    rcases hq with ⟨k, x, h⟩ | h
    · exact wo.2.1.2 k (q, x) h
    · exact hA q (Nat.le_trans wo.2.2.1 h)
  intro T hT X
  obtain ⟨v0, st₀, t, T', L, h0, X', hL, e1, e2, ⟨⟨v, u, hv, hp, hb⟩, hz, hk⟩, st⟩ := hr T hT X
  cases hv
  rw [h0] at hz hk
  have wo1 : zWo D ad ct AA s u T'.heap (locs ++ L) := by
    refine ⟨by rw [e1]; exact hb.1, hb.2.2.1.weaken (fun _ _ _ h => hF _ h), Nat.le_trans wo.2.2.1 (by rw [e1]; exact hz), fun q h1 h2 => ?_, fun q hq => ?_⟩
    · rw [e1, hk q (Nat.lt_of_lt_of_le h1 wo.2.2.1) (fun z => h2 (hF q z))]
      exact wo.2.2.2.1 q h1 h2
    · rcases List.mem_append.mp hq with h | h
      · exact wo.2.2.2.2 q h
      · exact hF _ (hL q h)
  obtain ⟨t2, a1, b1⟩ := kk v u T'.heap (locs ++ L) hp.1 hp.2.1 hp.2.2 wo1 T' rfl X'
  exact ⟨t2, st t2 a1, b1⟩
end ZC
section ZS
variable {i : Nat} {X : zX} {R : Int → zS → Prop} {nx : zL → List zV → zS → Prop} {J : Nat → zL → List zV → zS → Prop} {pc n A B : Nat} {C : Int} {L : zL} {st : List zV} {σ : zS}
set_option maxHeartbeats 1000000 in
theorem zs_getfield {j : Nat} (hc : zchk i (pc, n, .getfield j, A, B, C) = true) (hn : zHn i X R n nx) (hJ : zHJ i X R J) (h : zstep X R nx J pc (.getfield j) A B C L st σ) : zRuns i X R pc L st σ := by
  obtain ⟨hdg, hnx, hax⟩ := zchk_ok hc
  simp only [zlen] at hdg hnx
  subst hnx
  simp only [zstep] at h
  intro hw hL hs p l e s m args below meth c D ad ct AA H locs ls cells slots Q fx en wo lo
  have fx0 := fx
  obtain ⟨hx, hb, hml, hown, hts, hK, hnw, hA, hce, hsl, hsc⟩ := fx
  simp only [zaux, Bool.and_eq_true, Bool.or_eq_true, decide_eq_true_eq] at hax
  obtain ⟨jj, hC, hA1, hkd, hcn, hjj, hft, hlk⟩ := zfl_ok _ hax.1
  dsimp only at hC hA1 hkd hcn hjj hft hlk
  subst hC
  split at h
  next k o st =>
    cases hkA : Nat.beq k A with
    | false => rw [hkA] at h; exact h.elim
    | true =>
      rw [hkA] at h
      simp only [cond_true] at h
      have hkA := Nat.eq_of_beq_eq_true hkA
      subst hkA
      have hne : k ≠ zKR := fun q => by rw [q] at hkd; exact absurd hkd (by decide)
      have hcl := zcf (zcn k) hcn
      have hst : zcv ad (.inr (.inr (k, o))) = .ref (ad k) := by simp only [zcv, zadr_ne hne]
      rw [List.map_cons, hst]
      refine va_get (v := zfv ad σ k jj) hx hb hts hcl.2.1 hown hK wo.1 k (zwl_obj hA1 hkd) hcl.1 jj hjj (hts _ hlk) (fun _ h9 => h9) (by simp [hjj]) hdg ?_
      rcases B with _ | _ | t
      · have hz : zlg k (jj : Int) = false := by rcases hax.2 with q | q; exact absurd q (by omega); exact q
        rw [show zfv ad σ k jj = .int (Int32.ofInt (σ k jj)) by simp only [zfv, hft]]
        exact hn _ _ _ h hw hL (zs2 (v := .inl (σ k jj)) (hw.i hz) (zs1 hs).2) p l e s m args below meth c D ad ct AA H locs ls cells slots Q fx0 en wo lo
      · rw [show zfv ad σ k jj = .long (Int64.ofInt (σ k jj)) by simp only [zfv, hft]]
        exact hn _ _ _ h hw hL (zs2 (v := .inr (.inl (σ k jj))) (hw k jj).1 (zs1 hs).2) p l e s m args below meth c D ad ct AA H locs ls cells slots Q fx0 en wo lo
      · rw [show zfv ad σ k jj = .ref (zadr ad t 0) by simp only [zfv, hft, zadr_0]]
        exact hn _ _ _ h hw hL (zs2 (v := .inr (.inr (t, 0))) (fun _ => ⟨0, by omega, rfl⟩) (zs1 hs).2) p l e s m args below meth c D ad ct AA H locs ls cells slots Q fx0 en wo lo
  next => exact h.elim
theorem zfv_set {ad : Nat → Nat} {σ : zS} {k jj : Nat} {v : Int} {x : Value} {N : Nat} (hv : zfv ad (zup σ k jj v) k jj = x) : ((List.range N).map (fun j => zfv ad σ k j)).set jj x = (List.range N).map (fun j => zfv ad (zup σ k jj v) k j) := by
  apply List.ext_getElem?
  intro j
  by_cases hl : j < N
  · by_cases hj : j = jj
    · subst hj
      rw [List.getElem?_set_self (by simpa using hl), List.getElem?_map, List.getElem?_range hl, Option.map_some, hv]
    · rw [List.getElem?_set_ne (Ne.symm hj), List.getElem?_map, List.getElem?_map, List.getElem?_range hl]
      have h1 : zup σ k jj v k j = σ k j := by rw [zup_at, if_neg (by omega)]
      simp only [Option.map_some, zfv, h1]
  · rw [List.getElem?_eq_none (by simp; omega), List.getElem?_eq_none (by simp; omega)]
set_option maxHeartbeats 1000000 in
theorem zs_putfield {j : Nat} (hc : zchk i (pc, n, .putfield j, A, B, C) = true) (hn : zHn i X R n nx) (hJ : zHJ i X R J) (h : zstep X R nx J pc (.putfield j) A B C L st σ) : zRuns i X R pc L st σ := by
  obtain ⟨hdg, hnx, hax⟩ := zchk_ok hc
  simp only [zlen] at hdg hnx
  subst hnx
  simp only [zstep] at h
  intro hw hL hs p l e s m args below meth c D ad ct AA H locs ls cells slots Q fx en wo lo
  have fx0 := fx
  obtain ⟨hx, hb, hml, hown, hts, hK, hnw, hA, hce, hsl, hsc⟩ := fx
  simp only [zaux, Bool.and_eq_true, Bool.or_eq_true, decide_eq_true_eq] at hax
  obtain ⟨jj, hC, hA1, hkd, hcn, hjj, hft, hlk⟩ := zfl_ok _ hax.1.1
  dsimp only at hC hA1 hkd hcn hjj hft hlk
  subst hC
  split at h
  next v k o st =>
    cases hkA : Nat.beq k A with
    | false => rw [hkA] at h; exact h.elim
    | true =>
      cases hB : Nat.beq B 0 with
      | false => rw [hkA, hB] at h; exact h.elim
      | true =>
        rw [hkA, hB] at h
        simp only [Bool.and_self, cond_true] at h
        have hkA := Nat.eq_of_beq_eq_true hkA
        have hB := Nat.eq_of_beq_eq_true hB
        subst hkA
        subst hB
        have hne : k ≠ zKR := fun q => by rw [q] at hkd; exact absurd hkd (by decide)
        have hcl := zcf (zcn k) hcn
        have hk10 : k < 10 := by
          have h9 : ∀ k, k < 73 → zkd k = 4 → k < 10 := by decide +kernel
          exact h9 k hA1 hkd
        have hty : zTy (zcn k) jj = .int := (zft_ty k hk10 jj hjj).1 hft
        have hst : zcv ad (.inr (.inr (k, o))) = .ref (ad k) := by simp only [zcv, zadr_ne hne]
        rw [List.map_cons, List.map_cons, hst]
        refine va_put (ty := .int) (v := .int (Int32.ofInt v)) hx hb hts hcl.2.1 (zTy (zcn k)) hcl.2.2.2 hcl.2.2.1 hown hK wo.1 wo.2.1 wo.2.2 k (zwl_obj hA1 hkd) hcl.1 jj hjj (hts _ hlk) (fun _ h9 => h9) (by simpa using hax.2) (by rw [hcl.2.2.2 jj hjj, hty]) rfl rfl (by simp [hjj]) hdg (fun H1 locs1 hP1 hD1 hS1 => ?_)
        rw [zwl_up (i := jj) (v := v) hA1 hne (by simp only [zcel, hkd]; rw [zfv_set (v := v) (by simp only [zfv, hft, zup_at, if_pos])])] at hP1 hD1
        exact hn _ _ _ h (hw.up (v := v) (zIJ (zs1 hs).1) (fun _ => (zs1 hs).1)) hL (zs1 (zs1 hs).2).2 p l e s m args below meth c D ad ct AA H1 locs1 ls cells slots Q fx0 en ⟨hP1, hD1, hS1⟩ lo
  next v k o st =>
    cases hkA : Nat.beq k A with
    | false => rw [hkA] at h; exact h.elim
    | true =>
      cases hB : Nat.beq B 1 with
      | false => rw [hkA, hB] at h; exact h.elim
      | true =>
        rw [hkA, hB] at h
        simp only [Bool.and_self, cond_true] at h
        have hkA := Nat.eq_of_beq_eq_true hkA
        have hB := Nat.eq_of_beq_eq_true hB
        subst hkA
        subst hB
        have hne : k ≠ zKR := fun q => by rw [q] at hkd; exact absurd hkd (by decide)
        have hcl := zcf (zcn k) hcn
        have hk10 : k < 10 := by
          have h9 : ∀ k, k < 73 → zkd k = 4 → k < 10 := by decide +kernel
          exact h9 k hA1 hkd
        have hty : zTy (zcn k) jj = .long := (zft_ty k hk10 jj hjj).2 hft
        have hst : zcv ad (.inr (.inr (k, o))) = .ref (ad k) := by simp only [zcv, zadr_ne hne]
        rw [List.map_cons, List.map_cons, hst]
        refine va_put (ty := .long) (v := .long (Int64.ofInt v)) hx hb hts hcl.2.1 (zTy (zcn k)) hcl.2.2.2 hcl.2.2.1 hown hK wo.1 wo.2.1 wo.2.2 k (zwl_obj hA1 hkd) hcl.1 jj hjj (hts _ hlk) (fun _ h9 => h9) (by simpa using hax.2) (by rw [hcl.2.2.2 jj hjj, hty]) rfl rfl (by simp [hjj]) hdg (fun H1 locs1 hP1 hD1 hS1 => ?_)
        rw [zwl_up (i := jj) (v := v) hA1 hne (by simp only [zcel, hkd]; rw [zfv_set (v := v) (by simp only [zfv, hft, zup_at, if_pos])])] at hP1 hD1
        exact hn _ _ _ h (hw.up (v := v) ((zs1 hs).1) (fun q => absurd (hax.1.2.symm.trans q) (by decide))) hL (zs1 (zs1 hs).2).2 p l e s m args below meth c D ad ct AA H1 locs1 ls cells slots Q fx0 en ⟨hP1, hD1, hS1⟩ lo
  next => exact h.elim
end ZS
