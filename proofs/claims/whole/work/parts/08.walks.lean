/-! calls; a walk; contracts out of walks -/
section ZS
variable {i : Nat} {X : zX} {R : Int → zS → Prop} {nx : zL → List zV → zS → Prop} {J : Nat → zL → List zV → zS → Prop} {pc n A B : Nat} {C : Int} {L : zL} {st : List zV} {σ : zS}
theorem zcv_vc {r : Option FieldType} {v : Int} {ad : Nat → Nat} (k : Nat) (hk : k % 4 = zrk r) (hv : zRok r v) {rest : List zV} (hrest : ∀ w ∈ rest, zok w) :
    ∃ o : List zV, (zRv r v).toList ++ rest.map (zcv ad) = (o ++ rest).map (zcv ad) ∧ (∀ w ∈ o ++ rest, zok w) ∧ ∀ (Rc : Int → zS → Prop) (u : zS) (nx' : List zV → zS → Prop), Rc v u → (match k % 4 with
    | 0 => ∀ u, Rc 0 u → nx' [] u
    | 1 => ∀ v u, zI v → Rc v u → nx' [.inl v] u
    | _ => ∀ v u, zJ v → Rc v u → nx' [.inr (.inl v)] u) → nx' o u := by
  rw [hk]
  rcases r with _ | ty
  · have hv : v = 0 := hv
    subst hv
    exact ⟨[], rfl, hrest, fun Rc u nx' h1 h2 => h2 u h1⟩
  · by_cases hl : ty = .long
    · subst hl
      exact ⟨[.inr (.inl v)], rfl, zs2 (v := .inr (.inl v)) hv hrest, fun Rc u nx' h1 h2 => h2 v u hv h1⟩
    · have hvI : zI v := by
        cases ty <;> first | exact hv | exact absurd rfl hl | skip
        rcases (show v = 0 ∨ v = 1 from hv) with rfl | rfl <;> exact ⟨by decide, by decide⟩
      have e1 : (zRv (some ty) v).toList = [Value.int (Int32.ofInt v)] := by cases ty <;> first | rfl | exact absurd rfl hl
      have e2 : zrk (some ty) = 1 := by cases ty <;> first | rfl | exact absurd rfl hl
      rw [e1, e2]
      exact ⟨[.inl v], rfl, zs2 (v := .inl v) hvI hrest, fun Rc u nx' h1 h2 => h2 v u hvI h1⟩
theorem zroom_ok {A i : Nat} (h : zroom A i = true) : (zq A).frames + 1 ≤ (zq i).frames ∧ 8 + (zl A + 11) + (zq A).locals ≤ (zq i).locals ∧ (zq A).cells = 0 ∧ (zq A).slots = 0 := by
  simp only [zroom, Bool.and_eq_true, decide_eq_true_eq] at h
  exact ⟨h.1.1, h.1.2, h.2.1, h.2.2⟩
theorem zpre_blind {D : va_G} {ad : Nat → Nat} {ct : Nat → ClassId} {av : List Value} {sz : Nat} : FrameBlind (va_Pc av (fun U => U.heap.size = sz ∧ zWD D ad ct σ (fun _ => True) U)) := by
  intro a U g mk q
  obtain ⟨q0, q1, qP, qK, qD, qN⟩ := q
  exact ⟨q0, q1, qP, va_K.moved (u := U) (U := U.calling g mk a) (Vm.Alike.refl U.vm) qK, qD, zNw.same (u := U) rfl qN⟩
theorem zok_app {pre st : List zV} (h : ∀ w ∈ pre ++ st, zok w) : (∀ w ∈ pre.reverse, zok w) ∧ ∀ w ∈ st, zok w := ⟨fun w hw => h w (List.mem_append_left _ (List.mem_reverse.mp hw)), fun w hw => h w (List.mem_append_right _ hw)⟩
set_option maxHeartbeats 1000000 in
theorem zs_invokevirtual {j : Nat} (hc : zchk i (pc, n, .invokevirtual j, A, B, C) = true) (hn : zHn i X R n nx) (hJ : zHJ i X R J) (h : zstep X R nx J pc (.invokevirtual j) A B C L st σ) : zRuns i X R pc L st σ := by
  obtain ⟨hdg, hnx, hax⟩ := zchk_ok hc
  simp only [zlen] at hdg hnx
  subst hnx
  simp only [zstep] at h
  intro hw hL hs p l e s m args below meth c D ad ct AA H locs ls cells slots Q fx en wo lo
  have fx0 := fx
  obtain ⟨hx, hb, hml, hown, hts, hK, hnw, hA, hce, hsl, hsc⟩ := fx
  simp only [zaux, Bool.and_eq_true, decide_eq_true_eq] at hax
  obtain ⟨⟨⟨⟨⟨⟨hvl, hAlt⟩, hBn⟩, hCk⟩, hC10⟩, hCc⟩, hroom⟩ := hax
  split at h
  next as k o st' hp =>
    cases hk1 : Nat.beq k (C.toNat / 4) with
    | false => rw [hk1] at h; exact h.elim
    | true =>
      cases hk2 : Nat.ble (zsum st') 8 with
      | false => rw [hk1, hk2] at h; exact h.elim
      | true =>
      rw [hk1, hk2] at h
      simp only [Bool.and_self, cond_true] at h
      have hk1 := Nat.eq_of_beq_eq_true hk1
      have hk2 := Nat.le_of_ble_eq_true hk2
      obtain ⟨pre, hpl, hst, has⟩ := zpop_ok B [] st _ _ hp
      rw [List.append_nil] at has
      subst hst
      subst has
      have hk10 : k < 10 := by omega
      obtain ⟨hcn, hkd⟩ := zcn_10 k hk10
      have hne : k ≠ zKR := fun q => by rw [q] at hkd; exact absurd hkd (by decide)
      have hkc : zcn k = zow A := by rw [hk1]; exact hCc
      obtain ⟨hokA, hok1⟩ := zok_app hs
      obtain ⟨hokB, hrest⟩ := zs1 hok1
      have hM := zmf A hAlt
      have hV := zvl_ok _ hvl
      have hrm := zroom_ok hroom
      obtain ⟨Rc, hAM, hcont⟩ := h
      have hMet := hAM hw (zs2 hokB hokA) l D ad ct H.size
      have hst : zcv ad (.inr (.inr (k, o))) = .ref (ad k) := by simp only [zcv, zadr_ne hne]
      have hcl := zcf (zcn k) hcn
      have hrecv := va_recv hK wo.1 hcl.1 (zwl_obj (ad := ad) (ct := ct) (σ := σ) (by show k < 73; omega) hkd)
      have hcb : CallB (zq i) s args (zRn (zow i)) j (zy A) (zb A) (zl A) (zr A) (zws A) (zq A) 0 0 B := callB_of B hts (zws_good hM) rfl hrm.2.2.1 hrm.2.2.2 (hts _ hM.2.1) (hts _ hV.1) ⟨hM.2.2.2.1.1, hM.2.2.2.1.2, by rw [hM.2.2.2.2.1, hBn]⟩ ⟨hrm.1, hrm.2.1⟩
      rw [List.map_append, List.map_cons, hst]
      refine zcall (va_runV (As := pre.reverse.map (zcv ad)) (rest := st'.map (zcv ad)) (C := (zy A).cls) (b := ad k) ⟨hx, hb, hml, hown, hts⟩ hMet ⟨hcb, hts _ hV.2.1, hts _ hV.2.2⟩ ⟨zpre_blind, ?_, fun U hU hWm => ⟨by rw [List.map_cons, hst], by rw [hU], by rw [hU]; exact wo.1, va_K.moved hWm.alike hK, wo.2.1.weaken (fun _ _ _ _ => trivial), hnw.warm hWm⟩⟩ rfl (by simp [hpl]) lo.1 (by simp [List.map_reverse]) (lv_room (by rw [zsum_ok]; exact hk2)) hdg ⟨hce, hsl⟩) wo hA (fun v8 u8 H8 locs8 hR8 hw8 hv8 wo8 => ?_)
      · obtain ⟨cell, r1, r2, r3⟩ := hrecv
        exact ⟨cell, r1, r2, by rw [hM.2.2.2.2.2.1, ← hkc]; exact r3⟩
      · obtain ⟨o9, e9, ok9, f9⟩ := zcv_vc (ad := ad) C.toNat hCk hv8 hrest
        rw [e9]
        exact hn _ _ _ (f9 Rc u8 (fun r u => nx L (r ++ st') u) hR8 hcont) hw8 hL ok9 p l e s m args below meth c D ad ct AA H8 locs8 ls cells slots Q fx0 en wo8 lo
  next => exact h.elim
set_option maxHeartbeats 1000000 in
theorem zs_invokestatic {j : Nat} (hc : zchk i (pc, n, .invokestatic j, A, B, C) = true) (hn : zHn i X R n nx) (hJ : zHJ i X R J) (h : zstep X R nx J pc (.invokestatic j) A B C L st σ) : zRuns i X R pc L st σ := by
  obtain ⟨hdg, hnx, hax⟩ := zchk_ok hc
  simp only [zlen] at hdg hnx
  subst hnx
  simp only [zstep] at h
  intro hw hL hs p l e s m args below meth c D ad ct AA H locs ls cells slots Q fx en wo lo
  have fx0 := fx
  obtain ⟨hx, hb, hml, hown, hts, hK, hnw, hA, hce, hsl, hsc⟩ := fx
  cases h10 : Nat.beq A 9010 with
  | true =>
    rw [h10] at h
    simp only [cond_true] at h
    have hA0 := Nat.eq_of_beq_eq_true h10
    subst hA0
    simp only [zaux, if_pos (show 9010 ≤ 9010 by omega), Bool.and_eq_true, decide_eq_true_eq] at hax
    split at h
    next y x st' =>
      cases hk2 : Nat.ble (zsum st') 8 with
      | false => rw [hk2] at h; exact h.elim
      | true =>
      rw [hk2] at h
      simp only [cond_true] at h
      have hk2 := Nat.le_of_ble_eq_true hk2
      have hq := zmin32 (x := x) (y := y) (zs1 (zs1 hs).2).1 (zs1 hs).1
      refine va_mmin hx hb (hml.trans lo.1.symm) hown (hts _ (zxl_ok _ hax.1.1)) (hts _ zX_min.1) (hts _ zX_init.1) (hts _ zX_min.2) hax.1.2 (by rw [zsum_ok]; have := hax.2; omega) hce hsl hdg ?_
      rw [hq.1]
      exact hn _ _ _ h hw hL (zs2 (v := .inl _) hq.2 (zs1 (zs1 hs).2).2) p l e s m args below meth c D ad ct AA H locs ls cells slots Q fx0 en wo lo
    next => exact h.elim
  | false =>
  rw [h10] at h
  simp only [cond_false] at h
  cases h11 : Nat.beq A 9011 with
  | true =>
    rw [h11] at h
    simp only [cond_true] at h
    have hA0 := Nat.eq_of_beq_eq_true h11
    subst hA0
    simp only [zaux, if_pos (show 9010 ≤ 9011 by omega), Bool.and_eq_true, decide_eq_true_eq] at hax
    split at h
    next y x st' =>
      cases hk2 : Nat.ble (zsum st') 8 with
      | false => rw [hk2] at h; exact h.elim
      | true =>
      rw [hk2] at h
      simp only [cond_true] at h
      have hk2 := Nat.le_of_ble_eq_true hk2
      have hq := zmax32 (x := x) (y := y) (zs1 (zs1 hs).2).1 (zs1 hs).1
      refine va_mmax hx hb (hml.trans lo.1.symm) hown (hts _ (zxl_ok _ hax.1.1)) (hts _ zX_max.1) (hts _ zX_init.1) (hts _ zX_max.2) hax.1.2 (by rw [zsum_ok]; have := hax.2; omega) hce hsl hdg ?_
      rw [hq.1]
      exact hn _ _ _ h hw hL (zs2 (v := .inl _) hq.2 (zs1 (zs1 hs).2).2) p l e s m args below meth c D ad ct AA H locs ls cells slots Q fx0 en wo lo
    next => exact h.elim
  | false =>
  rw [h11] at h
  simp only [cond_false] at h
  cases h12 : Nat.beq A 9012 with
  | true =>
    rw [h12] at h
    simp only [cond_true] at h
    have hA0 := Nat.eq_of_beq_eq_true h12
    subst hA0
    simp only [zaux, if_pos (show 9010 ≤ 9012 by omega), Bool.and_eq_true, decide_eq_true_eq] at hax
    split at h
    next x st' =>
      cases hk2 : Nat.ble (zsum st') 8 with
      | false => rw [hk2] at h; exact h.elim
      | true =>
      rw [hk2] at h
      simp only [cond_true] at h
      have hk2 := Nat.le_of_ble_eq_true hk2
      have hX : zI x := (zs1 hs).1
      have hq : (if 0 ≤ Int32.ofInt x then Int32.ofInt x else 0 - Int32.ofInt x) = Int32.ofInt (if x < 0 then -x else x) ∧ zI (if x < 0 then -x else x) := by
        simp only [zge0 hX]
        by_cases e : x < 0
        · rw [if_neg (show ¬ 0 ≤ x by omega), if_pos e]
          exact ⟨by have h9 := Int32.ofInt_sub 0 x; rw [Int.zero_sub, z00] at h9; exact h9.symm, h.1⟩
        · rw [if_pos (show 0 ≤ x by omega), if_neg e]
          exact ⟨rfl, hX⟩
      refine va_mabs hx hb (hml.trans lo.1.symm) hown (hts _ (zxl_ok _ hax.1.1)) (hts _ zX_abs.1) (hts _ zX_init.1) (hts _ zX_abs.2) hax.1.2 (by rw [zsum_ok]; have := hax.2; omega) hce hsl hdg ?_
      rw [hq.1]
      exact hn _ _ _ h.2 hw hL (zs2 (v := .inl _) hq.2 (zs1 hs).2) p l e s m args below meth c D ad ct AA H locs ls cells slots Q fx0 en wo lo
    next => exact h.elim
  | false =>
  rw [h12] at h
  simp only [cond_false] at h
  cases h13 : Nat.beq A 9013 with
  | true =>
    rw [h13] at h
    simp only [cond_true] at h
    have hA0 := Nat.eq_of_beq_eq_true h13
    subst hA0
    simp only [zaux, if_pos (show 9010 ≤ 9013 by omega), Bool.and_eq_true, decide_eq_true_eq] at hax
    split at h
    next z y k2 o2 x k1 o1 =>
      cases hk1 : Nat.beq k1 zKR with
      | false => rw [hk1] at h; exact h.elim
      | true =>
      cases hk2 : Nat.beq k2 zKR with
      | false => rw [hk1, hk2] at h; exact h.elim
      | true =>
      rw [hk1, hk2] at h
      simp only [Bool.and_self, cond_true] at h
      have hk1 := Nat.eq_of_beq_eq_true hk1
      have hk2 := Nat.eq_of_beq_eq_true hk2
      subst hk1
      subst hk2
      obtain ⟨sz, hs⟩ := zs1 hs
      obtain ⟨sy, hs⟩ := zs1 hs
      obtain ⟨s2, hs⟩ := zs1 hs
      obtain ⟨sx, hs⟩ := zs1 hs
      obtain ⟨s1, hs⟩ := zs1 hs
      have sz : zI z := sz
      have sy : zI y := sy
      have sx : zI x := sx
      obtain ⟨r2, hr2, rfl⟩ := s2 rfl
      obtain ⟨r1, hr1, rfl⟩ := s1 rfl
      have e1 : zcv ad (.inr (.inr (zKR, 80 * (r1 : Int)))) = .ref (ad (zKR + r1)) := by simp only [zcv, zadr_r]
      have e2 : zcv ad (.inr (.inr (zKR, 80 * (r2 : Int)))) = .ref (ad (zKR + r2)) := by simp only [zcv, zadr_r]
      simp only [List.map_cons, List.map_nil, e1, e2]
      refine va_copyi (rest := []) (ty := .int) hx hb (hml.trans lo.1.symm) hown (hts _ (zxl_ok _ hax.1.1)) (hts _ zX_copy.1) (hts _ zX_copy.2) (hts _ zX_init.2) hK wo.1 wo.2.1 wo.2.2 (zKR + r1) (zKR + r2) 0 0 (zwl_ra hr1) (zwl_ra hr2) rfl rfl rfl
        (fun q => by have := (zlt0 sx).mp q; omega) (fun q => by have := (zlt0 sy).mp q; omega) (fun q => by have := (zlt0 sz).mp q; omega) (by rw [zclamp sx, zclamp sz]; omega) (by rw [zclamp sy, zclamp sz]; omega) (fun _ _ => rfl) hax.1.2 (by show 0 + (7 + 11) ≤ _; have := hax.2; omega) hdg (fun H1 locs1 hP1 hD1 hS1 => ?_)
      rw [zwl_cp hr2 h.1.1 h.1.2.1 h.1.2.2.1 h.1.2.2.2.1 h.1.2.2.2.2 sx sy sz] at hP1 hD1
      exact hn _ _ _ h.2 hw.cp hL (fun _ q => absurd q List.not_mem_nil) p l e s m args below meth c D ad ct AA H1 locs1 ls cells slots Q fx0 en ⟨hP1, hD1, hS1⟩ lo
    next => exact h.elim
  | false =>
  rw [h13] at h
  simp only [cond_false] at h
  split at h
  next as st' hp =>
      cases hk2 : Nat.ble (zsum st') 8 with
      | false => rw [hk2] at h; exact h.elim
      | true =>
      rw [hk2] at h
      simp only [cond_true] at h
      have hk2 := Nat.le_of_ble_eq_true hk2
      obtain ⟨pre, hpl, hst, has⟩ := zpop_ok B [] st _ _ hp
      rw [List.append_nil] at has
      subst hst
      subst has
      obtain ⟨hokA, hrest⟩ := zok_app hs
      obtain ⟨Rc, hAM, hcont⟩ := h
      by_cases hge : 9010 ≤ A
      · exfalso
        simp only [zaux, if_pos hge, Bool.and_eq_true, decide_eq_true_eq] at hax
        have h9 : ∀ x ∈ zxl, x.2.2 = 9010 ∨ x.2.2 = 9011 ∨ x.2.2 = 9012 ∨ x.2.2 = 9013 := by decide +kernel
        rcases h9 _ hax.1.1 with q | q | q | q
        · rw [show A = 9010 from q] at h10; exact absurd h10 (by decide)
        · rw [show A = 9011 from q] at h11; exact absurd h11 (by decide)
        · rw [show A = 9012 from q] at h12; exact absurd h12 (by decide)
        · rw [show A = 9013 from q] at h13; exact absurd h13 (by decide)
      simp only [zaux, if_neg hge, Bool.and_eq_true, Bool.or_eq_true, decide_eq_true_eq] at hax
      obtain ⟨⟨⟨⟨hsn, hAlt⟩, hBn⟩, hCk⟩, hroom⟩ := hax
      have hM := zmf A hAlt
      have hrm := zroom_ok hroom
      have hMet := hAM hw hokA l D ad ct H.size
      rw [List.map_append]
      have hps : PreS s H (va_Pc (pre.reverse.map (zcv ad)) (fun U => U.heap.size = H.size ∧ zWD D ad ct σ (fun _ => True) U)) (pre.reverse.map (zcv ad)) := ⟨zpre_blind, fun U hU hWm => ⟨rfl, by rw [hU], by rw [hU]; exact wo.1, va_K.moved hWm.alike hK, wo.2.1.weaken (fun _ _ _ _ => trivial), hnw.warm hWm⟩⟩
      rcases hsn with hsn | hsn
      · have hV := zsl_ok _ hsn
        have hcb : CallB (zq i) s args (zRn (zow i)) j (zy A) (zb A) (zl A) (zr A) (zws A) (zq A) 0 0 B := callB_of B hts (zws_good hM) rfl hrm.2.2.1 hrm.2.2.2 (hts _ hM.2.1) (hts _ hV.1) ⟨hM.2.2.2.1.1, hM.2.2.2.1.2, by rw [hM.2.2.2.2.1, hBn]⟩ ⟨hrm.1, hrm.2.1⟩
        refine zcall (va_runS (As := pre.reverse.map (zcv ad)) (rest := st'.map (zcv ad)) ⟨hx, hb, hml, hown, hts⟩ hMet ⟨hcb, hts _ hV.2⟩ hps rfl (by simp [hpl]) lo.1 (by simp [List.map_reverse]) (lv_room (by rw [zsum_ok]; exact hk2)) hdg ⟨hce, hsl⟩) wo hA (fun v8 u8 H8 locs8 hR8 hw8 hv8 wo8 => ?_)
        obtain ⟨o9, e9, ok9, f9⟩ := zcv_vc (ad := ad) C.toNat hCk hv8 hrest
        rw [e9]
        exact hn _ _ _ (f9 Rc u8 (fun r u => nx L (r ++ st') u) hR8 hcont) hw8 hL ok9 p l e s m args below meth c D ad ct AA H8 locs8 ls cells slots Q fx0 en wo8 lo
      · have hV := znl_ok _ hsn
        have hcb : va_CN (zq i) s args (zRn (zow i)) j (zy A) "PenLines" (zb A) (zl A) (zr A) (zws A) (zq A) 0 0 B := va_cnB B hts (zws_good hM) rfl hrm.2.2.1 hrm.2.2.2 (hnw _ hV.1 rfl) (hts _ hM.2.1) ⟨hM.2.2.2.1.1, hM.2.2.2.1.2, by rw [hM.2.2.2.2.1, hBn]⟩ ⟨hrm.1, hrm.2.1⟩
        refine zcall (va_runSN (As := pre.reverse.map (zcv ad)) (rest := st'.map (zcv ad)) ⟨hx, hb, hml, hown, hts⟩ hMet ⟨hcb, hts _ hV.2, trivial⟩ hps rfl (by simp [hpl]) lo.1 (by simp [List.map_reverse]) (lv_room (by rw [zsum_ok]; exact hk2)) hdg ⟨hce, hsl⟩) wo hA (fun v8 u8 H8 locs8 hR8 hw8 hv8 wo8 => ?_)
        obtain ⟨o9, e9, ok9, f9⟩ := zcv_vc (ad := ad) C.toNat hCk hv8 hrest
        rw [e9]
        exact hn _ _ _ (f9 Rc u8 (fun r u => nx L (r ++ st') u) hR8 hcont) hw8 hL ok9 p l e s m args below meth c D ad ct AA H8 locs8 ls cells slots Q fx0 en wo8 lo
  next => exact h.elim
/-- every step -/
theorem zstep_ok {ins : Instr} (hc : zchk i (pc, n, ins, A, B, C) = true) (hn : zHn i X R n nx) (hJ : zHJ i X R J) (h : zstep X R nx J pc ins A B C L st σ) : zRuns i X R pc L st σ := by
  cases ins
  case iload_n k => exact zs_iload_n hc hn hJ h
  case iload k => exact zs_iload hc hn hJ h
  case lload_n k => exact zs_lload_n hc hn hJ h
  case lload k => exact zs_lload hc hn hJ h
  case aload_n k => exact zs_aload_n hc hn hJ h
  case aload k => exact zs_aload hc hn hJ h
  case istore_n k => exact zs_istore_n hc hn hJ h
  case istore k => exact zs_istore hc hn hJ h
  case lstore_n k => exact zs_lstore_n hc hn hJ h
  case lstore k => exact zs_lstore hc hn hJ h
  case astore_n k => exact zs_astore_n hc hn hJ h
  case astore k => exact zs_astore hc hn hJ h
  case iconst k => exact zs_iconst hc hn hJ h
  case bipush k => exact zs_bipush hc hn hJ h
  case sipush k => exact zs_sipush hc hn hJ h
  case ldc k => exact zs_ldc hc hn hJ h
  case ldc_w k => exact zs_ldc_w hc hn hJ h
  case ldc2_w k => exact zs_ldc2_w hc hn hJ h
  case lconst k => exact zs_lconst hc hn hJ h
  case iinc j k => exact zs_iinc hc hn hJ h
  case iadd => exact zs_iadd hc hn hJ h
  case isub => exact zs_isub hc hn hJ h
  case imul => exact zs_imul hc hn hJ h
  case idiv => exact zs_idiv hc hn hJ h
  case irem => exact zs_irem hc hn hJ h
  case ineg => exact zs_ineg hc hn hJ h
  case iand => exact zs_iand hc hn hJ h
  case i2b => exact zs_i2b hc hn hJ h
  case i2s => exact zs_i2s hc hn hJ h
  case i2l => exact zs_i2l hc hn hJ h
  case l2i => exact zs_l2i hc hn hJ h
  case ladd => exact zs_ladd hc hn hJ h
  case lmul => exact zs_lmul hc hn hJ h
  case land => exact zs_land hc hn hJ h
  case lor => exact zs_lor hc hn hJ h
  case lshl => exact zs_lshl hc hn hJ h
  case lshr => exact zs_lshr hc hn hJ h
  case lushr => exact zs_lushr hc hn hJ h
  case lcmp => exact zs_lcmp hc hn hJ h
  case dup => exact zs_dup hc hn hJ h
  case dup2 => exact zs_dup2 hc hn hJ h
  case pop => exact zs_pop hc hn hJ h
  case goto off => exact zs_goto hc hn hJ h
  case ifCond cd off =>
    cases cd
    · exact zs_if_eq hc hn hJ h
    · exact zs_if_ne hc hn hJ h
    · exact zs_if_lt hc hn hJ h
    · exact zs_if_ge hc hn hJ h
    · exact zs_if_gt hc hn hJ h
    · exact zs_if_le hc hn hJ h
  case if_icmp cd off =>
    cases cd
    · exact zs_icmp_eq hc hn hJ h
    · exact zs_icmp_ne hc hn hJ h
    · exact zs_icmp_lt hc hn hJ h
    · exact zs_icmp_ge hc hn hJ h
    · exact zs_icmp_gt hc hn hJ h
    · exact zs_icmp_le hc hn hJ h
  case tableswitch d lo hi offs => exact zs_tableswitch hc hn hJ h
  case lookupswitch d ps => exact zs_lookupswitch hc hn hJ h
  case getfield j => exact zs_getfield hc hn hJ h
  case putfield j => exact zs_putfield hc hn hJ h
  case iaload => exact zs_iaload hc hn hJ h
  case baload => exact zs_baload hc hn hJ h
  case laload => exact zs_laload hc hn hJ h
  case aaload => exact zs_aaload hc hn hJ h
  case arraylength => exact zs_arraylength hc hn hJ h
  case iastore => exact zs_iastore hc hn hJ h
  case bastore => exact zs_bastore hc hn hJ h
  case lastore => exact zs_lastore hc hn hJ h
  case ireturn => exact zs_ireturn hc hn hJ h
  case lreturn => exact zs_lreturn hc hn hJ h
  case return_ => exact zs_return hc hn hJ h
  case invokevirtual j => exact zs_invokevirtual hc hn hJ h
  case invokestatic j => exact zs_invokestatic hc hn hJ h
  all_goals exact h.elim
theorem zRuns.mask {m : List Bool} (h : zRuns i X R pc (zmask m L) st σ) : zRuns i X R pc L st σ := by
  intro hw hL hs p l e s m' args below meth c D ad ct AA H locs ls cells slots Q fx en wo lo
  exact h hw (fun k v hk => hL k v (zmask_nth _ _ _ _ hk)) hs p l e s m' args below meth c D ad ct AA H locs ls cells slots Q fx en wo lo.mask
theorem zwS_ok {K : Nat → zL → List zV → zS → Prop} {cut : List (Nat × List Bool)} (hK : zHJ i X R K) (hJ : zHJ i X R J) (code : List zE) : (∀ x ∈ code, zchk i x = true) → (∀ (a b : zE) (r1 r2 : List zE), code = r1 ++ a :: b :: r2 → a.2.1 = b.1) → ∀ (L : zL) (st : List zV) (σ : zS) (x : zE) (rest : List zE), code = x :: rest → zwS X R K J cut code L st σ → zRuns i X R x.1 L st σ := by
  induction code with
  | nil => intro _ _ L st σ x rest he _; cases he
  | cons y code ih =>
    intro hc hj L st σ x rest he h
    obtain ⟨e1, e2⟩ := List.cons.inj he
    rw [← e1]
    clear he e1 e2 x rest
    obtain ⟨pc, n, ins, A, B, C⟩ := y
    refine zstep_ok (hc _ List.mem_cons_self) (fun L st σ h => ?_) hJ h
    split at h
    · exact (hK _ _ _ _ h).mask
    · cases code with
      | nil => exact h.elim
      | cons z rest =>
        have e : n = z.1 := hj (pc, n, ins, A, B, C) z [] rest rfl
        rw [e]
        exact ih (fun x hx => hc x (List.mem_cons_of_mem _ hx)) (fun a b r1 r2 q => hj a b ((pc, n, ins, A, B, C) :: r1) r2 (by rw [q]; rfl)) L st σ z rest rfl h
theorem zdrop_at : ∀ (pc : Nat) (code : List zE) (x : zE) (rest : List zE), zdrop pc code = x :: rest → x.1 = pc ∧ ∃ r, code = r ++ x :: rest
  | pc, [], x, rest, h => by simp [zdrop] at h
  | pc, y :: code, x, rest, h => by
    simp only [zdrop] at h
    cases hb : Nat.beq pc y.1 with
    | true =>
      rw [hb] at h
      simp only [cond_true] at h
      cases h
      exact ⟨(Nat.eq_of_beq_eq_true hb).symm, [], rfl⟩
    | false =>
      rw [hb] at h
      simp only [cond_false] at h
      obtain ⟨h1, r, h2⟩ := zdrop_at pc code x rest h
      exact ⟨h1, y :: r, by rw [h2]; rfl⟩
def zcon : List zE → Bool
  | [] => true
  | [_] => true
  | a :: b :: l => Nat.beq a.2.1 b.1 && zcon (b :: l)
theorem zcon_ok : ∀ (code : List zE), zcon code = true → ∀ (a b : zE) (r1 r2 : List zE), code = r1 ++ a :: b :: r2 → a.2.1 = b.1
  | [], _, a, b, r1, r2, he => by simp at he
  | [y], _, a, b, [], r2, he => by simp at he
  | [y], _, a, b, z :: r1, r2, he => by simp at he
  | x :: y :: l, h, a, b, [], r2, he => by
    simp only [zcon, Bool.and_eq_true] at h
    simp at he
    obtain ⟨rfl, rfl, -⟩ := he
    exact Nat.eq_of_beq_eq_true h.1
  | x :: y :: l, h, a, b, z :: r1, r2, he => by
    simp only [zcon, Bool.and_eq_true] at h
    simp only [List.cons_append, List.cons.injEq] at he
    exact zcon_ok (y :: l) h.2 a b r1 r2 he.2
/-- a method's rows are its own -/
def zMok (i : Nat) (code : List zE) : Prop := (∀ x ∈ code, zchk i x = true) ∧ zcon code = true
theorem zwp_ok {K : Nat → zL → List zV → zS → Prop} {cut : List (Nat × List Bool)} {code : List zE} (hM : zMok i code) (hK : zHJ i X R K) : ∀ (n pc : Nat) (L : zL) (st : List zV) (σ : zS), zwp code X R K cut n pc L st σ → zRuns i X R pc L st σ
  | 0, _, _, _, _, h => h.elim
  | n + 1, pc, L, st, σ, h => by
    simp only [zwp] at h
    cases hd : zdrop pc code with
    | nil => rw [hd] at h; exact h.elim
    | cons x rest =>
      rw [hd] at h
      obtain ⟨hx, r, hr⟩ := zdrop_at pc code x rest hd
      rw [← hx]
      refine zwS_ok hK (fun t L st σ h => ?_) (x :: rest) (fun y hy => hM.1 y (by rw [hr]; exact List.mem_append_right _ hy)) (fun a b r1 r2 q => zcon_ok code hM.2 a b (r ++ r1) r2 (by rw [hr, q, List.append_assoc])) L st σ x rest rfl h
      split at h
      next m hm => exact (hK _ _ _ _ h).mask
      next hm => exact zwp_ok hM hK n t L st σ h
/-- A WALK: from the row pc, with at most n jumps, to the cuts (the walk goes on there), or to the end -/
theorem zwalk {code : List zE} (hM : zMok i code) (cut : List (Nat × List Bool)) (n : Nat) (h : zwp code X R (zRuns i X R) cut n pc L st σ) : zRuns i X R pc L st σ := zwp_ok hM (fun _ _ _ _ h => h) n pc L st σ h
theorem zRuns.wf (h : zWF σ → (∀ k v, znth L k = some (some v) → zok v) → zRuns i X R pc L st σ) : zRuns i X R pc L st σ := fun hw hL hs => h hw hL hw hL hs
end ZS
def zarg : List zV → Nat → zL
  | [], n => List.replicate n none
  | .inr (.inl v) :: as, n => some (.inr (.inl v)) :: none :: zarg as (n - 2)
  | v :: as, n => some v :: zarg as (n - 1)
def zargn : List zV → Nat
  | [] => 0
  | .inr (.inl _) :: as => 2 + zargn as
  | _ :: as => 1 + zargn as
def zX0 : zX := (-1, fun _ => 0)
theorem znth_rep : ∀ (n k : Nat) (w : zV), znth (List.replicate n (none : Option zV)) k = some (some w) → False
  | 0, k, w, h => by simp [znth] at h
  | n + 1, 0, w, h => by simp [znth, List.replicate_succ] at h
  | n + 1, k + 1, w, h => znth_rep n k w (by simpa only [List.replicate_succ, znth] using h)
theorem zarg_in (ad : Nat → Nat) : ∀ (as : List zV) (n b k : Nat) (w : zV), znth (zarg as n) k = some (some w) → (b + k, zcv ad w) ∈ lv_args b (as.map (zcv ad))
  | [], n, b, k, w, h => (znth_rep n k w h).elim
  | .inr (.inl v) :: as, n, b, 0, w, h => by
    simp only [zarg, znth] at h
    cases h
    exact List.mem_cons_self
  | .inr (.inl v) :: as, n, b, 1, w, h => by simp [zarg, znth] at h
  | .inr (.inl v) :: as, n, b, k + 2, w, h => by
    simp only [zarg, znth] at h
    have := zarg_in ad as (n - 2) (b + 2) k w h
    rw [show b + (k + 2) = b + 2 + k by omega]
    exact List.mem_cons_of_mem _ this
  | .inl v :: as, n, b, 0, w, h => by
    simp only [zarg, znth] at h
    cases h
    exact List.mem_cons_self
  | .inl v :: as, n, b, k + 1, w, h => by
    simp only [zarg, znth] at h
    have := zarg_in ad as (n - 1) (b + 1) k w h
    rw [show b + (k + 1) = b + 1 + k by omega]
    exact List.mem_cons_of_mem _ this
  | .inr (.inr v) :: as, n, b, 0, w, h => by
    simp only [zarg, znth] at h
    cases h
    exact List.mem_cons_self
  | .inr (.inr v) :: as, n, b, k + 1, w, h => by
    simp only [zarg, znth] at h
    have := zarg_in ad as (n - 1) (b + 1) k w h
    rw [show b + (k + 1) = b + 1 + k by omega]
    exact List.mem_cons_of_mem _ this
theorem zarg_ok : ∀ (as : List zV) (n k : Nat) (w : zV), znth (zarg as n) k = some (some w) → w ∈ as
  | [], n, k, w, h => (znth_rep n k w h).elim
  | .inr (.inl v) :: as, n, 0, w, h => by simp only [zarg, znth] at h; cases h; exact List.mem_cons_self
  | .inr (.inl v) :: as, n, 1, w, h => by simp [zarg, znth] at h
  | .inr (.inl v) :: as, n, k + 2, w, h => by simp only [zarg, znth] at h; exact List.mem_cons_of_mem _ (zarg_ok as (n - 2) k w h)
  | .inl v :: as, n, 0, w, h => by simp only [zarg, znth] at h; cases h; exact List.mem_cons_self
  | .inl v :: as, n, k + 1, w, h => by simp only [zarg, znth] at h; exact List.mem_cons_of_mem _ (zarg_ok as (n - 1) k w h)
  | .inr (.inr v) :: as, n, 0, w, h => by simp only [zarg, znth] at h; cases h; exact List.mem_cons_self
  | .inr (.inr v) :: as, n, k + 1, w, h => by simp only [zarg, znth] at h; exact List.mem_cons_of_mem _ (zarg_ok as (n - 1) k w h)
theorem zargn_len (ad : Nat → Nat) : ∀ as : List zV, (lg_sl (as.map (zcv ad))).length = zargn as
  | [] => rfl
  | .inr (.inl v) :: as => by
    have := zargn_len ad as
    simp only [lg_sl, List.map_cons, List.flatMap_cons, List.length_append, zargn] at this ⊢
    rw [this]; rfl
  | .inl v :: as => by
    have := zargn_len ad as
    simp only [lg_sl, List.map_cons, List.flatMap_cons, List.length_append, zargn] at this ⊢
    rw [this]; rfl
  | .inr (.inr v) :: as => by
    have := zargn_len ad as
    simp only [lg_sl, List.map_cons, List.flatMap_cons, List.length_append, zargn] at this ⊢
    rw [this]; rfl
/-- A CONTRACT out of the walk of the body -/
theorem zam {i : Nat} {as : List zV} {σ : zS} {R : Int → zS → Prop} (hi : i < zlaw) (hn : zargn as ≤ zl i) (h : zRuns i zX0 R 0 (zarg as (zl i)) [] σ) : zAM i as σ R := by
  intro hw hok l D ad ct sz
  have hM := zmf i hi
  have hq : (zq i).cells = 0 ∧ (zq i).slots = 0 := by
    have : Nat.beq i zlaw = false := by
      cases e : Nat.beq i zlaw with
      | false => rfl
      | true => have := Nat.eq_of_beq_eq_true e; omega
    unfold zq
    rw [this]
    exact ⟨rfl, rfl⟩
  refine Met.ofW (cc := zb i) (maxL := zl i) (ret := zr i) hM.2.2.1 rfl ?_
  intro p e s m args below meth c s₁ B hml hv
  obtain ⟨rfl, hsz, hP, hK, hD0, hN⟩ := hv
  have hts0 := atoms_spec (ws := zws i) B.pre
  have hts : ∀ w ∈ zTB, w.before ((as.map (zcv ad)).toArray) s = true := fun w hw => hts0 w (List.mem_cons_of_mem _ hw)
  have hown : s.vm.findClass (zRn (zow i)) = some m.cls := by rw [← hM.2.2.2.2.2.1]; exact findClass_of_methodNamed B.named
  subst hsz
  have hD := hD0.self (sz := s.heap.size)
  have hl := lv_entry (as.map (zcv ad)) (n := zl i) (by rw [zargn_len]; exact hn)
  rw [lg_entry_eq]
  generalize (lg_sl (as.map (zcv ad)) ++ List.replicate (zl i - (lg_sl (as.map (zcv ad))).length) Slot.unset).toArray = ls at hl ⊢
  have lo : zLo ad ls (zl i) (zarg as (zl i)) := ⟨hl.1, hl.2.1, fun k v hk => by
    have := hl.2.2 _ (zarg_in ad as (zl i) 0 k v hk)
    simpa using this⟩
  refine h hw (fun k v hk => hok v (zarg_ok as _ k v hk)) (fun _ q => absurd q List.not_mem_nil) p l e s m _ below meth c D ad ct (va_A (zwl ad ct σ) s.heap.size) s.heap [] ls 0 0 _ ⟨B.exec, B.bytes, hml, hown, hts, hK, hN, fun q hq => Or.inr hq, by rw [hq.1]; exact Nat.le_refl _, by rw [hq.2]; exact Nat.le_refl _, fun q => absurd q (by decide)⟩ ?_ ⟨hP, hD, va_S.rf⟩ lo
  intro v u H1 locs1 ls1 pc1 hR hwu hrok wo1 hdec
  have hlocks := B.notSynchronized
  have hrt := B.returns
  have post : ∀ t : State, t.heap = H1 → s.WarmedH t.vm → (∃ (v' : Int) (u' : zS), Outcome.returned (zRv (zr i) v) = .returned (zRv (zr i) v') ∧ (R v' u' ∧ zWF u' ∧ zRok (zr i) v') ∧ zWD D ad ct u' (va_A (zwl ad ct σ) s.heap.size) t) ∧ va_F (va_A (zwl ad ct σ) s.heap.size) s t := fun t ht hWt =>
    ⟨⟨v, u, rfl, ⟨hR, hwu, hrok⟩, by rw [ht]; exact wo1.1, va_K.moved hWt.alike hK, wo1.2.1, hN.warm hWt⟩, wo1.2.2.F ht⟩
  cases hz : zr i with
  | none =>
    rw [hz] at hrt hdec post
    exact W.vret B.exec B.bytes hrt (fun t ht hWt => post t ht hWt) wo1.2.2.2.2 hdec
  | some ty =>
    rw [hz] at hrt hdec post hrok
    by_cases hlg : ty = .long
    · subst hlg
      exact W.lret B.exec B.bytes hrt (fun t ht hWt => post t ht hWt) wo1.2.2.2.2 hdec
    · have e1 : zRv (some ty) v = some (Value.int (Int32.ofInt v)) := by cases ty <;> first | rfl | exact absurd rfl hlg
      have e2 : zri (some ty) = .ireturn := by cases ty <;> first | rfl | exact absurd rfl hlg
      have hty : ty = .int ∨ ty = .boolean := by
        have h9 : ∀ j, j < 160 → zr j = none ∨ zr j = some .long ∨ zr j = some .int ∨ zr j = some .boolean := by decide +kernel
        rcases h9 i (by have : i < 159 := hi; omega) with q | q | q | q
        · rw [hz] at q; cases q
        · rw [hz] at q; cases q; exact absurd rfl hlg
        · rw [hz] at q; cases q; exact Or.inl rfl
        · rw [hz] at q; cases q; exact Or.inr rfl
      rw [e1] at post ⊢
      rw [e2] at hdec
      have hnar : narrow ty (.int (Int32.ofInt v)) = .int (Int32.ofInt v) := by
        rcases hty with rfl | rfl
        · rfl
        · rcases (show v = 0 ∨ v = 1 from hrok) with rfl | rfl <;> rfl
      exact W.zret B.exec B.bytes hrt hnar (fun t ht hWt => post t ht hWt) wo1.2.2.2.2 hdec
