/-! arrays, switches, returns, calls -/
section ZS
variable {i : Nat} {X : zX} {R : Int → zS → Prop} {nx : zL → List zV → zS → Prop} {J : Nat → zL → List zV → zS → Prop} {pc n A B : Nat} {C : Int} {L : zL} {st : List zV} {σ : zS}
theorem zcast {x : Int} (h : 0 ≤ x) : ((x.toNat : Nat) : Int) = x := Int.toNat_of_nonneg h
theorem zln_lt {k : Nat} {x : Int} (h0 : 0 ≤ x) (h : x < zln k) : x < ((zln k).toNat : Nat) := by rw [zcast (zln_r k).1]; exact h
theorem zrow_lt {r : Nat} {x : Int} (hr : r < 8) (h0 : 0 ≤ x) (h : x < 80) : zlg zKR (80 * (r : Int) + x) = false := rfl
theorem zWF.row {σ : zS} (h : zWF σ) (x : Int) : zI (σ zKR x) := h.i rfl
theorem zwl_up0 {ad : Nat → Nat} {ct : Nat → ClassId} {σ : zS} {k : Nat} {x v : Int} (hk : zkd k = 0) (h0 : 0 ≤ x) (hx : zI x) : (zwl ad ct σ).set k (ad k, .inl (ct 0, (zln k).toNat, .inl (upd (fun j => Int32.ofInt (σ k j)) (Int32.ofInt x).toNatClampNeg (Int32.ofInt v)))) = zwl ad ct (zup σ k x v) := by
  refine zwl_up (zkd_lt (by rw [hk]; decide)) (fun q => by rw [q] at hk; exact absurd hk (by decide)) ?_
  simp only [zcel, hk]
  congr 4
  funext j
  rw [zclamp hx]
  simp only [upd, zup_at]
  by_cases e : j = x.toNat
  · rw [if_pos e, if_pos (by rw [e, zcast h0])]
  · rw [if_neg e, if_neg (fun q => e (by rw [← q]; rfl))]
theorem zwl_up1 {ad : Nat → Nat} {ct : Nat → ClassId} {σ : zS} {k : Nat} {x v : Int} (hk : zkd k = 1) (h0 : 0 ≤ x) (hx : zI x) (hv : v = 0 ∨ v = 1) : (zwl ad ct σ).set k (ad k, .inl (ct 1, (zln k).toNat, .inl (upd (fun j => Int32.ofInt (σ k j)) (Int32.ofInt x).toNatClampNeg (vp_nar .boolean (Int32.ofInt v))))) = zwl ad ct (zup σ k x v) := by
  have hn : vp_nar .boolean (Int32.ofInt v) = Int32.ofInt v := by rcases hv with rfl | rfl <;> rfl
  rw [hn]
  refine zwl_up (zkd_lt (by rw [hk]; decide)) (fun q => by rw [q] at hk; exact absurd hk (by decide)) ?_
  simp only [zcel, hk]
  congr 4
  funext j
  rw [zclamp hx]
  simp only [upd, zup_at]
  by_cases e : j = x.toNat
  · rw [if_pos e, if_pos (by rw [e, zcast h0])]
  · rw [if_neg e, if_neg (fun q => e (by rw [← q]; rfl))]
theorem zwl_up2 {ad : Nat → Nat} {ct : Nat → ClassId} {σ : zS} {k : Nat} {x v : Int} (hk : zkd k = 2) (h0 : 0 ≤ x) (hx : zI x) : (zwl ad ct σ).set k (ad k, .inl (ct 2, (zln k).toNat, .inr (.inl (vp_updL (fun j => Int64.ofInt (σ k j)) (Int32.ofInt x).toNatClampNeg (Int64.ofInt v))))) = zwl ad ct (zup σ k x v) := by
  refine zwl_up (zkd_lt (by rw [hk]; decide)) (fun q => by rw [q] at hk; exact absurd hk (by decide)) ?_
  simp only [zcel, hk]
  congr 5
  funext j
  rw [zclamp hx]
  simp only [vp_updL, zup_at]
  by_cases e : j = x.toNat
  · rw [if_pos e, if_pos (by rw [e, zcast h0])]
  · rw [if_neg e, if_neg (fun q => e (by rw [← q]; rfl))]
theorem zrw_upd {σ : zS} {r : Nat} {x v : Int} (h0 : 0 ≤ x) (h1 : x < 80) (hx : zI x) : upd (zrw σ r) (Int32.ofInt x).toNatClampNeg (Int32.ofInt v) = zrw (zup σ zKR (80 * (r : Int) + x) v) r := by
  funext j
  rw [zclamp hx]
  simp only [upd, zrw, zup_at]
  by_cases e : j = x.toNat
  · rw [if_pos e, if_pos (by omega), if_pos (by omega)]
  · rw [if_neg e]
    by_cases f : j < 80
    · rw [if_pos f, if_pos f, if_neg (by omega)]
    · rw [if_neg f, if_neg f]
theorem zwl_up5 {ad : Nat → Nat} {ct : Nat → ClassId} {σ : zS} {r : Nat} {x v : Int} (hr : r < 8) (h0 : 0 ≤ x) (h1 : x < 80) (hx : zI x) : (zwl ad ct σ).set (zKR + r) (ad (zKR + r), .inl (ct 0, 80, .inl (upd (zrw σ r) (Int32.ofInt x).toNatClampNeg (Int32.ofInt v)))) = zwl ad ct (zup σ zKR (80 * (r : Int) + x) v) := by
  refine zwl_upr hr (zrw_upd h0 h1 hx) (fun k hk => zup_ne hk) (fun q hq hne => ?_)
  funext j
  simp only [zrw, zup_at]
  by_cases f : j < 80
  · rw [if_pos f, if_pos f, if_neg (by omega)]
  · rw [if_neg f, if_neg f]
theorem zwl_cp {ad : Nat → Nat} {ct : Nat → ClassId} {σ : zS} {r1 r2 : Nat} {x y z : Int} (hr : r2 < 8) (hx : 0 ≤ x) (hy : 0 ≤ y) (hz : 0 ≤ z) (h1 : x + z ≤ 80) (h2 : y + z ≤ 80) (ix : zI x) (iy : zI y) (iz : zI z) : (zwl ad ct σ).set (zKR + r2) (ad (zKR + r2), .inl (ct 0, 80, .inl (va_cpy (zrw σ r1) (zrw σ r2) (Int32.ofInt x).toNatClampNeg (Int32.ofInt y).toNatClampNeg (Int32.ofInt z).toNatClampNeg))) = zwl ad ct (zcp σ zKR (80 * (r1 : Int) + x) zKR (80 * (r2 : Int) + y) z) := by
  rw [zclamp ix, zclamp iy, zclamp iz]
  refine zwl_upr hr ?_ (fun k hk => ?_) (fun q hq hne => ?_)
  · funext j
    simp only [va_cpy, zrw, zcp]
    by_cases e : y.toNat ≤ j ∧ j < y.toNat + z.toNat
    · rw [if_pos e, if_pos (by omega), if_pos (by omega), if_pos ⟨trivial, by omega, by omega⟩]
      congr 2
      omega
    · rw [if_neg e]
      by_cases f : j < 80
      · rw [if_pos f, if_pos f, if_neg (by omega)]
      · rw [if_neg f, if_neg f]
  · funext j
    exact if_neg (fun q => hk q.1)
  · funext j
    simp only [zrw, zcp]
    by_cases f : j < 80
    · rw [if_pos f, if_pos f, if_neg (by omega)]
    · rw [if_neg f, if_neg f]
theorem zWF.cp {σ : zS} (h : zWF σ) {x y z : Int} : zWF (zcp σ zKR x zKR y z) := by
  intro k q
  unfold zcp
  split
  next e => rw [e.1]; exact ⟨(h _ _).1, fun _ => (h _ _).2 rfl⟩
  next => exact h _ _
set_option maxHeartbeats 1000000 in
theorem zs_iaload (hc : zchk i (pc, n, .iaload, A, B, C) = true) (hn : zHn i X R n nx) (hJ : zHJ i X R J) (h : zstep X R nx J pc (.iaload) A B C L st σ) : zRuns i X R pc L st σ := by
  obtain ⟨hdg, hnx, hax⟩ := zchk_ok hc
  simp only [zlen] at hdg hnx
  subst hnx
  simp only [zstep] at h
  intro hw hL hs p l e s m args below meth c D ad ct AA H locs ls cells slots Q fx en wo lo
  have fx0 := fx
  obtain ⟨hx, hb, hml, hown, hts, hK, hnw, hA, hce, hsl, hsc⟩ := fx
  split at h
  next x k o st =>
    have hX : zI x := (zs1 hs).1
    split at h
    next hk =>
      have hne : k ≠ zKR := fun q => by rw [q] at hk; exact absurd hk (by decide)
      have hst : zcv ad (.inr (.inr (k, o))) = .ref (ad k) := by simp only [zcv, zadr_ne hne]
      rw [List.map_cons, List.map_cons, hst]
      refine va_iald hx hb hK wo.1 k 0 (zwl_ia hk) rfl (zvin hX h.1.1 (zln_lt h.1.1 h.1.2)) hdg ?_
      rw [zclamp hX, zcast h.1.1]
      exact hn _ _ _ h.2 hw hL (zs2 (v := .inl _) (hw.i (zlg_0 (by rw [hk]; decide) (by rw [hk]; decide))) (zs1 (zs1 hs).2).2) p l e s m args below meth c D ad ct AA H locs ls cells slots Q fx0 en wo lo
    next hk =>
      have hkr := zkd5 hk
      subst hkr
      obtain ⟨r, hr, rfl⟩ := (zs1 (zs1 hs).2).1 rfl
      have hst : zcv ad (.inr (.inr (zKR, 80 * (r : Int)))) = .ref (ad (zKR + r)) := by simp only [zcv, zadr_r]
      rw [List.map_cons, List.map_cons, hst]
      refine va_iald hx hb hK wo.1 (zKR + r) 0 (zwl_ra hr) rfl (zvin hX h.1.1 (by have := h.1.2; omega)) hdg ?_
      rw [zclamp hX]
      simp only [zrw]
      rw [if_pos (by have := h.1.2; omega), zcast h.1.1]
      exact hn _ _ _ h.2 hw hL (zs2 (v := .inl _) (hw.row _) (zs1 (zs1 hs).2).2) p l e s m args below meth c D ad ct AA H locs ls cells slots Q fx0 en wo lo
    next hk =>
      cases hk9 : Nat.beq k 1000 with
      | false => rw [hk9] at h; exact h.elim
      | true =>
        rw [hk9] at h
        simp only [cond_true] at h
        have hk9 := Nat.eq_of_beq_eq_true hk9
        subst hk9
        have hst : zcv ad (.inr (.inr (1000, o))) = .ref (ad 1000) := by simp only [zcv, zadr_ne (show (1000 : Nat) ≠ zKR by decide)]
        rw [List.map_cons, List.map_cons, hst]
        obtain ⟨len, xs, hX1, hX2, hX3, hX4, hX5, hX6⟩ := hsc (by have := h.1.1; have := h.1.2; omega)
        have hlt : x.toNat < len := by have := h.1.1; have := h.1.2; omega
        refine va_sld hx hb hX1 hX2 hX3 wo.2.2 (zvin hX h.1.1 (by have := h.1.2; omega)) hdg ?_
        rw [zclamp hX]
        have e1 : xs x.toNat = Int32.ofInt (X.2 x) := by
          have := hX6 x.toNat hlt
          rw [zcast h.1.1] at this
          rw [this, Int32.ofInt_toInt]
        have e2 : zI (X.2 x) := by
          have := hX6 x.toNat hlt
          rw [zcast h.1.1] at this
          rw [this]; exact zI_of _
        rw [e1]
        exact hn _ _ _ h.2 hw hL (zs2 (v := .inl _) e2 (zs1 (zs1 hs).2).2) p l e s m args below meth c D ad ct AA H locs ls cells slots Q fx0 en wo lo
    next => exact h.elim
  next => exact h.elim
set_option maxHeartbeats 1000000 in
theorem zs_baload (hc : zchk i (pc, n, .baload, A, B, C) = true) (hn : zHn i X R n nx) (hJ : zHJ i X R J) (h : zstep X R nx J pc (.baload) A B C L st σ) : zRuns i X R pc L st σ := by
  obtain ⟨hdg, hnx, hax⟩ := zchk_ok hc
  simp only [zlen] at hdg hnx
  subst hnx
  simp only [zstep] at h
  intro hw hL hs p l e s m args below meth c D ad ct AA H locs ls cells slots Q fx en wo lo
  have fx0 := fx
  obtain ⟨hx, hb, hml, hown, hts, hK, hnw, hA, hce, hsl, hsc⟩ := fx
  split at h
  next x k o st =>
    have hX : zI x := (zs1 hs).1
    split at h
    next hk =>
      have hne : k ≠ zKR := fun q => by rw [q] at hk; exact absurd hk (by decide)
      have hst : zcv ad (.inr (.inr (k, o))) = .ref (ad k) := by simp only [zcv, zadr_ne hne]
      rw [List.map_cons, List.map_cons, hst]
      refine va_zald hx hb hK wo.1 k 1 (zwl_za hk) rfl (zvin hX h.1.1 (zln_lt h.1.1 h.1.2)) hdg ?_
      rw [zclamp hX, zcast h.1.1]
      exact hn _ _ _ h.2 hw hL (zs2 (v := .inl _) (hw.i (zlg_0 (by rw [hk]; decide) (by rw [hk]; decide))) (zs1 (zs1 hs).2).2) p l e s m args below meth c D ad ct AA H locs ls cells slots Q fx0 en wo lo
    next => exact h.elim
  next => exact h.elim
set_option maxHeartbeats 1000000 in
theorem zs_laload (hc : zchk i (pc, n, .laload, A, B, C) = true) (hn : zHn i X R n nx) (hJ : zHJ i X R J) (h : zstep X R nx J pc (.laload) A B C L st σ) : zRuns i X R pc L st σ := by
  obtain ⟨hdg, hnx, hax⟩ := zchk_ok hc
  simp only [zlen] at hdg hnx
  subst hnx
  simp only [zstep] at h
  intro hw hL hs p l e s m args below meth c D ad ct AA H locs ls cells slots Q fx en wo lo
  have fx0 := fx
  obtain ⟨hx, hb, hml, hown, hts, hK, hnw, hA, hce, hsl, hsc⟩ := fx
  split at h
  next x k o st =>
    have hX : zI x := (zs1 hs).1
    split at h
    next hk =>
      have hne : k ≠ zKR := fun q => by rw [q] at hk; exact absurd hk (by decide)
      have hst : zcv ad (.inr (.inr (k, o))) = .ref (ad k) := by simp only [zcv, zadr_ne hne]
      rw [List.map_cons, List.map_cons, hst]
      refine va_lald hx hb hK wo.1 k 2 (zwl_la hk) rfl (zvin hX h.1.1 (zln_lt h.1.1 h.1.2)) hdg ?_
      rw [zclamp hX, zcast h.1.1]
      exact hn _ _ _ h.2 hw hL (zs2 (v := .inr (.inl _)) (hw _ _).1 (zs1 (zs1 hs).2).2) p l e s m args below meth c D ad ct AA H locs ls cells slots Q fx0 en wo lo
    next => exact h.elim
  next => exact h.elim
set_option maxHeartbeats 1000000 in
theorem zs_aaload (hc : zchk i (pc, n, .aaload, A, B, C) = true) (hn : zHn i X R n nx) (hJ : zHJ i X R J) (h : zstep X R nx J pc (.aaload) A B C L st σ) : zRuns i X R pc L st σ := by
  obtain ⟨hdg, hnx, hax⟩ := zchk_ok hc
  simp only [zlen] at hdg hnx
  subst hnx
  simp only [zstep] at h
  intro hw hL hs p l e s m args below meth c D ad ct AA H locs ls cells slots Q fx en wo lo
  have fx0 := fx
  obtain ⟨hx, hb, hml, hown, hts, hK, hnw, hA, hce, hsl, hsc⟩ := fx
  split at h
  next x k o st =>
    have hX : zI x := (zs1 hs).1
    split at h
    next hk =>
      have hne : k ≠ zKR := fun q => by rw [q] at hk; exact absurd hk (by decide)
      have hst : zcv ad (.inr (.inr (k, o))) = .ref (ad k) := by simp only [zcv, zadr_ne hne]
      rw [List.map_cons, List.map_cons, hst]
      obtain ⟨r, rfl⟩ : ∃ r : Nat, x = (r : Int) := ⟨x.toNat, (zcast h.1.1).symm⟩
      have hr : r < 8 := by have := h.1.2; omega
      have hin : vp_in (Int32.ofInt (r : Int)) 8 := zvin hX h.1.1 h.1.2
      have hlt : (Int32.ofInt (r : Int)).toNatClampNeg < 8 := Nat.not_le.mp fun q => hin (Or.inr q)
      refine W.aald (v := .ref (zadr ad zKR (80 * (r : Int)))) (ty := .array .int) hx hb (wo.1 k _ (zwl_qa hk)) ((hK.2 3 _ rfl).1 8 (fun j => va_rf (if j < 8 then some (ad (zKR + j)) else none))) rfl (fun q => by cases q) (by show ¬ (_ < 0 ∨ (arrV _ _ _).slots.size ≤ _); rw [arrV_size]; exact hin) (by
        show (arrV _ _ _).slots[_]? = _
        rw [arrV_read _ _ hlt, zclamp hX, zadr_r]
        show some (va_rf (if r < 8 then some (ad (zKR + r)) else none)) = _
        rw [if_pos hr]
        rfl) rfl rfl hdg ?_
      exact hn _ _ _ h.2 hw hL (zs2 (v := .inr (.inr (zKR, 80 * (r : Int)))) (fun _ => ⟨r, hr, rfl⟩) (zs1 (zs1 hs).2).2) p l e s m args below meth c D ad ct AA H locs ls cells slots Q fx0 en wo lo
    next => exact h.elim
  next => exact h.elim
set_option maxHeartbeats 1000000 in
theorem zs_arraylength (hc : zchk i (pc, n, .arraylength, A, B, C) = true) (hn : zHn i X R n nx) (hJ : zHJ i X R J) (h : zstep X R nx J pc (.arraylength) A B C L st σ) : zRuns i X R pc L st σ := by
  obtain ⟨hdg, hnx, hax⟩ := zchk_ok hc
  simp only [zlen] at hdg hnx
  subst hnx
  simp only [zstep] at h
  intro hw hL hs p l e s m args below meth c D ad ct AA H locs ls cells slots Q fx en wo lo
  have fx0 := fx
  obtain ⟨hx, hb, hml, hown, hts, hK, hnw, hA, hce, hsl, hsc⟩ := fx
  split at h
  next k o st =>
    split at h
    next hk =>
      have hne : k ≠ zKR := fun q => by rw [q] at hk; exact absurd hk (by decide)
      have hst : zcv ad (.inr (.inr (k, o))) = .ref (ad k) := by simp only [zcv, zadr_ne hne]
      rw [List.map_cons, hst]
      refine va_alen (v := Int32.ofInt (zln k)) hx hb hK wo.1 k 0 (zwl_ia hk) rfl (by show Int32.ofNat (zln k).toNat = _; rw [← Int32.ofInt_eq_ofNat, zcast (zln_r k).1]) hdg ?_
      exact hn _ _ _ h hw hL (zs2 (v := .inl _) ⟨by have := (zln_r k).1; omega, by have := (zln_r k).2; omega⟩ (zs1 hs).2) p l e s m args below meth c D ad ct AA H locs ls cells slots Q fx0 en wo lo
    next hk =>
      have hne : k ≠ zKR := fun q => by rw [q] at hk; exact absurd hk (by decide)
      have hst : zcv ad (.inr (.inr (k, o))) = .ref (ad k) := by simp only [zcv, zadr_ne hne]
      rw [List.map_cons, hst]
      refine va_alen (v := Int32.ofInt (zln k)) hx hb hK wo.1 k 1 (zwl_za hk) rfl (by show Int32.ofNat (zln k).toNat = _; rw [← Int32.ofInt_eq_ofNat, zcast (zln_r k).1]) hdg ?_
      exact hn _ _ _ h hw hL (zs2 (v := .inl _) ⟨by have := (zln_r k).1; omega, by have := (zln_r k).2; omega⟩ (zs1 hs).2) p l e s m args below meth c D ad ct AA H locs ls cells slots Q fx0 en wo lo
    next hk =>
      have hkr := zkd5 hk
      subst hkr
      obtain ⟨r, hr, rfl⟩ := (zs1 hs).1 rfl
      have hst : zcv ad (.inr (.inr (zKR, 80 * (r : Int)))) = .ref (ad (zKR + r)) := by simp only [zcv, zadr_r]
      rw [List.map_cons, hst]
      refine va_alen (v := Int32.ofInt 80) hx hb hK wo.1 (zKR + r) 0 (zwl_ra hr) rfl rfl hdg ?_
      exact hn _ _ _ h hw hL (zs2 (v := .inl _) ⟨by decide, by decide⟩ (zs1 hs).2) p l e s m args below meth c D ad ct AA H locs ls cells slots Q fx0 en wo lo
    next hk =>
      cases hk9 : Nat.beq k 1000 with
      | false => rw [hk9] at h; exact h.elim
      | true =>
        rw [hk9] at h
        simp only [cond_true] at h
        have hk9 := Nat.eq_of_beq_eq_true hk9
        subst hk9
        have hst : zcv ad (.inr (.inr (1000, o))) = .ref (ad 1000) := by simp only [zcv, zadr_ne (show (1000 : Nat) ≠ zKR by decide)]
        rw [List.map_cons, hst]
        obtain ⟨len, xs, hX1, hX2, hX3, hX4, hX5, hX6⟩ := hsc h.1
        refine va_slen hx hb hX1 hX2 hX3 wo.2.2 hdg ?_
        rw [← Int32.ofInt_eq_ofNat, ← hX4]
        exact hn _ _ _ h.2 hw hL (zs2 (v := .inl _) ⟨by omega, by omega⟩ (zs1 hs).2) p l e s m args below meth c D ad ct AA H locs ls cells slots Q fx0 en wo lo
    next => exact h.elim
  next => exact h.elim
set_option maxHeartbeats 1000000 in
theorem zs_iastore (hc : zchk i (pc, n, .iastore, A, B, C) = true) (hn : zHn i X R n nx) (hJ : zHJ i X R J) (h : zstep X R nx J pc (.iastore) A B C L st σ) : zRuns i X R pc L st σ := by
  obtain ⟨hdg, hnx, hax⟩ := zchk_ok hc
  simp only [zlen] at hdg hnx
  subst hnx
  simp only [zstep] at h
  intro hw hL hs p l e s m args below meth c D ad ct AA H locs ls cells slots Q fx en wo lo
  have fx0 := fx
  obtain ⟨hx, hb, hml, hown, hts, hK, hnw, hA, hce, hsl, hsc⟩ := fx
  split at h
  next v x k o st =>
    have hV : zI v := (zs1 hs).1
    have hX : zI x := (zs1 (zs1 hs).2).1
    split at h
    next hk =>
      have hne : k ≠ zKR := fun q => by rw [q] at hk; exact absurd hk (by decide)
      have hst : zcv ad (.inr (.inr (k, o))) = .ref (ad k) := by simp only [zcv, zadr_ne hne]
      rw [List.map_cons, List.map_cons, List.map_cons, hst]
      refine va_iast (x := Int32.ofInt v) hx hb hK wo.1 wo.2.1 wo.2.2 k 0 (zwl_ia hk) rfl (zvin hX h.1.1 (zln_lt h.1.1 h.1.2)) hdg (fun H1 locs1 hP1 hD1 hS1 => ?_)
      rw [zwl_up0 hk h.1.1 hX] at hP1 hD1
      exact hn _ _ _ h.2 (hw.up (zIJ hV) (fun _ => hV)) hL (zs1 (zs1 (zs1 hs).2).2).2 p l e s m args below meth c D ad ct AA H1 locs1 ls cells slots Q fx0 en ⟨hP1, hD1, hS1⟩ lo
    next hk =>
      have hkr := zkd5 hk
      subst hkr
      obtain ⟨r, hr, rfl⟩ := (zs1 (zs1 (zs1 hs).2).2).1 rfl
      have hst : zcv ad (.inr (.inr (zKR, 80 * (r : Int)))) = .ref (ad (zKR + r)) := by simp only [zcv, zadr_r]
      rw [List.map_cons, List.map_cons, List.map_cons, hst]
      refine va_iast (x := Int32.ofInt v) hx hb hK wo.1 wo.2.1 wo.2.2 (zKR + r) 0 (zwl_ra hr) rfl (zvin hX h.1.1 (by have := h.1.2; omega)) hdg (fun H1 locs1 hP1 hD1 hS1 => ?_)
      rw [zwl_up5 hr h.1.1 h.1.2 hX] at hP1 hD1
      exact hn _ _ _ h.2 (hw.up (zIJ hV) (fun _ => hV)) hL (zs1 (zs1 (zs1 hs).2).2).2 p l e s m args below meth c D ad ct AA H1 locs1 ls cells slots Q fx0 en ⟨hP1, hD1, hS1⟩ lo
    next => exact h.elim
  next => exact h.elim
set_option maxHeartbeats 1000000 in
theorem zs_bastore (hc : zchk i (pc, n, .bastore, A, B, C) = true) (hn : zHn i X R n nx) (hJ : zHJ i X R J) (h : zstep X R nx J pc (.bastore) A B C L st σ) : zRuns i X R pc L st σ := by
  obtain ⟨hdg, hnx, hax⟩ := zchk_ok hc
  simp only [zlen] at hdg hnx
  subst hnx
  simp only [zstep] at h
  intro hw hL hs p l e s m args below meth c D ad ct AA H locs ls cells slots Q fx en wo lo
  have fx0 := fx
  obtain ⟨hx, hb, hml, hown, hts, hK, hnw, hA, hce, hsl, hsc⟩ := fx
  split at h
  next v x k o st =>
    have hV : zI v := (zs1 hs).1
    have hX : zI x := (zs1 (zs1 hs).2).1
    split at h
    next hk =>
      have hne : k ≠ zKR := fun q => by rw [q] at hk; exact absurd hk (by decide)
      have hst : zcv ad (.inr (.inr (k, o))) = .ref (ad k) := by simp only [zcv, zadr_ne hne]
      rw [List.map_cons, List.map_cons, List.map_cons, hst]
      refine va_zast (x := Int32.ofInt v) hx hb hK wo.1 wo.2.1 wo.2.2 k 1 (zwl_za hk) rfl (zvin hX h.1.2.1 (zln_lt h.1.2.1 h.1.2.2)) hdg (fun H1 locs1 hP1 hD1 hS1 => ?_)
      rw [zwl_up1 hk h.1.2.1 hX h.1.1] at hP1 hD1
      exact hn _ _ _ h.2 (hw.up (zIJ hV) (fun _ => hV)) hL (zs1 (zs1 (zs1 hs).2).2).2 p l e s m args below meth c D ad ct AA H1 locs1 ls cells slots Q fx0 en ⟨hP1, hD1, hS1⟩ lo
    next => exact h.elim
  next => exact h.elim
set_option maxHeartbeats 1000000 in
theorem zs_lastore (hc : zchk i (pc, n, .lastore, A, B, C) = true) (hn : zHn i X R n nx) (hJ : zHJ i X R J) (h : zstep X R nx J pc (.lastore) A B C L st σ) : zRuns i X R pc L st σ := by
  obtain ⟨hdg, hnx, hax⟩ := zchk_ok hc
  simp only [zlen] at hdg hnx
  subst hnx
  simp only [zstep] at h
  intro hw hL hs p l e s m args below meth c D ad ct AA H locs ls cells slots Q fx en wo lo
  have fx0 := fx
  obtain ⟨hx, hb, hml, hown, hts, hK, hnw, hA, hce, hsl, hsc⟩ := fx
  split at h
  next v x k o st =>
    have hV : zJ v := (zs1 hs).1
    have hX : zI x := (zs1 (zs1 hs).2).1
    split at h
    next hk =>
      have hne : k ≠ zKR := fun q => by rw [q] at hk; exact absurd hk (by decide)
      have hst : zcv ad (.inr (.inr (k, o))) = .ref (ad k) := by simp only [zcv, zadr_ne hne]
      have hlong : ∀ y : Int, zlg k y = true := by
        have h9 : ∀ k, k < 73 → zkd k = 2 → ∀ y : Int, zlg k y = true := by
          intro k h1 h2 y
          have h8 : ∀ k, k < 73 → zkd k = 2 → k = 28 ∨ k = 32 ∨ k = 58 ∨ k = 63 := by decide +kernel
          rcases h8 k h1 h2 with rfl | rfl | rfl | rfl <;> rfl
        exact h9 k (zkd_lt (by rw [hk]; decide)) hk
      rw [List.map_cons, List.map_cons, List.map_cons, hst]
      refine va_last (x := Int64.ofInt v) hx hb hK wo.1 wo.2.1 wo.2.2 k 2 (zwl_la hk) rfl (zvin hX h.1.1 (zln_lt h.1.1 h.1.2)) hdg (fun H1 locs1 hP1 hD1 hS1 => ?_)
      rw [zwl_up2 hk h.1.1 hX] at hP1 hD1
      exact hn _ _ _ h.2 (hw.up hV (fun q => absurd ((hlong x).symm.trans q) (by decide))) hL (zs1 (zs1 (zs1 hs).2).2).2 p l e s m args below meth c D ad ct AA H1 locs1 ls cells slots Q fx0 en ⟨hP1, hD1, hS1⟩ lo
    next => exact h.elim
  next => exact h.elim
set_option maxHeartbeats 1000000 in
theorem zs_tableswitch {d lo0 hi : Int} {offs : Array Int} (hc : zchk i (pc, n, .tableswitch d lo0 hi offs, A, B, C) = true) (hn : zHn i X R n nx) (hJ : zHJ i X R J) (h : zstep X R nx J pc (.tableswitch d lo0 hi offs) A B C L st σ) : zRuns i X R pc L st σ := by
  obtain ⟨hdg, hnx, hax⟩ := zchk_ok hc
  simp only [zlen] at hdg hnx
  subst hnx
  simp only [zstep] at h
  intro hw hL hs p l e s m args below meth c D ad ct AA H locs ls cells slots Q fx en wo lo
  have fx0 := fx
  obtain ⟨hx, hb, hml, hown, hts, hK, hnw, hA, hce, hsl, hsc⟩ := fx
  simp only [zaux, Bool.and_eq_true, decide_eq_true_eq] at hax
  split at h
  next v st =>
    have hV : zI v := (zs1 hs).1
    by_cases hv : v < lo0 ∨ hi < v
    · refine lv_tableOut (tgt := ((pc : Int) + d).toNat) hx hb hdg (by rw [zI_t hV]; exact hv) (zcast hax.1.1).symm ?_
      exact hJ _ _ _ _ (h.2 hv) hw hL (zs1 hs).2 p l e s m args below meth c D ad ct AA H locs ls cells slots Q fx0 en wo lo
    · obtain ⟨q, hq⟩ : ∃ q : Nat, v = lo0 + (q : Int) := ⟨(v - lo0).toNat, by omega⟩
      have hql : q < offs.toList.length := by omega
      have ho : offs[q]? = some (offs.toList[q]) := by rw [← Array.getElem?_toList, List.getElem?_eq_getElem hql]
      have hpos : 0 ≤ (pc : Int) + offs.toList[q] := by
        have := List.all_eq_true.mp hax.1.2 _ (List.getElem_mem hql)
        simpa using this
      refine lv_tableIn (tgt := ((pc : Int) + offs.toList[q]).toNat) hx hb hdg (by rw [zI_t hV]; omega) (by rw [zI_t hV]; omega) (by rw [zI_t hV, show (v - lo0).toNat = q by omega]; exact ho) (zcast hpos).symm ?_
      exact hJ _ _ _ _ (zcase_at _ _ q _ h.1 (List.getElem?_eq_getElem hql) hq) hw hL (zs1 hs).2 p l e s m args below meth c D ad ct AA H locs ls cells slots Q fx0 en wo lo
  next => exact h.elim
theorem zlook_ok {pc : Nat} {J : Nat → Prop} {v d : Int} : ∀ l : List (Int × Int), zlook pc J v l → (zlno v l → J ((pc : Int) + d).toNat) → J ((pc : Int) + Op.lookupswitch.offset l d v).toNat
  | [], _, h => by
    have e : Op.lookupswitch.offset [] d v = d := by first | rfl | simp [Op.lookupswitch.offset]
    rw [e]; exact h trivial
  | (k, o) :: l, hz, h => by
    rw [Op.lookupswitch.offset_cons]
    by_cases e : v = k
    · rw [if_pos e.symm]; exact hz.1 e
    · rw [if_neg (fun q => e q.symm)]; exact zlook_ok l hz.2 (fun q => h ⟨e, q⟩)
theorem zlook_pos {pc : Nat} {v d : Int} (hd : 0 ≤ (pc : Int) + d) : ∀ l : List (Int × Int), (l.all (fun x => decide (0 ≤ (pc : Int) + x.2))) = true → 0 ≤ (pc : Int) + Op.lookupswitch.offset l d v
  | [], _ => by
    have e : Op.lookupswitch.offset [] d v = d := by first | rfl | simp [Op.lookupswitch.offset]
    rw [e]; exact hd
  | (k, o) :: l, h => by
    rw [Op.lookupswitch.offset_cons]
    simp only [List.all_cons, Bool.and_eq_true, decide_eq_true_eq] at h
    split
    · exact h.1
    · exact zlook_pos hd l h.2
set_option maxHeartbeats 1000000 in
theorem zs_lookupswitch {d : Int} {ps : Array (Int × Int)} (hc : zchk i (pc, n, .lookupswitch d ps, A, B, C) = true) (hn : zHn i X R n nx) (hJ : zHJ i X R J) (h : zstep X R nx J pc (.lookupswitch d ps) A B C L st σ) : zRuns i X R pc L st σ := by
  obtain ⟨hdg, hnx, hax⟩ := zchk_ok hc
  simp only [zlen] at hdg hnx
  subst hnx
  simp only [zstep] at h
  intro hw hL hs p l e s m args below meth c D ad ct AA H locs ls cells slots Q fx en wo lo
  have fx0 := fx
  obtain ⟨hx, hb, hml, hown, hts, hK, hnw, hA, hce, hsl, hsc⟩ := fx
  simp only [zaux, Bool.and_eq_true] at hax
  obtain ⟨⟨h7, h8⟩, h9⟩ := hax
  have h7 := of_decide_eq_true h7
  split at h
  next v st =>
    have hV : zI v := (zs1 hs).1
    refine lv_lookup (tgt := ((pc : Int) + Op.lookupswitch.offset ps.toList d v).toNat) hx hb hdg h9 (by rw [zI_t hV]) (zcast (zlook_pos h7 _ h8)).symm ?_
    exact hJ _ _ _ _ (zlook_ok (J := fun t => J t L _ σ) _ h.1 h.2) hw hL (zs1 hs).2 p l e s m args below meth c D ad ct AA H locs ls cells slots Q fx0 en wo lo
  next => exact h.elim
theorem zRv_i {r : Option FieldType} {v : Int} (h : r = some .int ∨ r = some .boolean) : (zRv r v).toList = [Value.int (Int32.ofInt v)] ∧ zri r = .ireturn := by
  rcases h with rfl | rfl <;> exact ⟨rfl, rfl⟩
set_option maxHeartbeats 1000000 in
theorem zs_ireturn (hc : zchk i (pc, n, .ireturn, A, B, C) = true) (hn : zHn i X R n nx) (hJ : zHJ i X R J) (h : zstep X R nx J pc (.ireturn) A B C L st σ) : zRuns i X R pc L st σ := by
  obtain ⟨hdg, hnx, hax⟩ := zchk_ok hc
  simp only [zlen] at hdg hnx
  subst hnx
  simp only [zstep] at h
  intro hw hL hs p l e s m args below meth c D ad ct AA H locs ls cells slots Q fx en wo lo
  have fx0 := fx
  obtain ⟨hx, hb, hml, hown, hts, hK, hnw, hA, hce, hsl, hsc⟩ := fx
  simp only [zaux, Bool.or_eq_true, Bool.and_eq_true, decide_eq_true_eq] at hax
  split at h
  next v =>
    have hV : zI v := (zs1 hs).1
    rcases hax with ⟨hr, rfl⟩ | ⟨hr, rfl⟩
    · have hz := zRv_i (v := v) (Or.inl hr)
      have := en v σ H locs ls pc h hw (by rw [hr]; exact hV) wo (by rw [hz.2]; exact hdg)
      rw [hz.1] at this
      exact this
    · have hz := zRv_i (v := v) (Or.inr hr)
      have := en v σ H locs ls pc h.2 hw (by rw [hr]; exact h.1) wo (by rw [hz.2]; exact hdg)
      rw [hz.1] at this
      exact this
  next => exact h.elim
set_option maxHeartbeats 1000000 in
theorem zs_lreturn (hc : zchk i (pc, n, .lreturn, A, B, C) = true) (hn : zHn i X R n nx) (hJ : zHJ i X R J) (h : zstep X R nx J pc (.lreturn) A B C L st σ) : zRuns i X R pc L st σ := by
  obtain ⟨hdg, hnx, hax⟩ := zchk_ok hc
  simp only [zlen] at hdg hnx
  subst hnx
  simp only [zstep] at h
  intro hw hL hs p l e s m args below meth c D ad ct AA H locs ls cells slots Q fx en wo lo
  have fx0 := fx
  obtain ⟨hx, hb, hml, hown, hts, hK, hnw, hA, hce, hsl, hsc⟩ := fx
  simp only [zaux, decide_eq_true_eq] at hax
  split at h
  next v =>
    have hV : zJ v := (zs1 hs).1
    have := en v σ H locs ls pc h hw (by rw [hax]; exact hV) wo (by rw [hax]; exact hdg)
    rw [hax] at this
    exact this
  next => exact h.elim
set_option maxHeartbeats 1000000 in
theorem zs_return (hc : zchk i (pc, n, .return_, A, B, C) = true) (hn : zHn i X R n nx) (hJ : zHJ i X R J) (h : zstep X R nx J pc (.return_) A B C L st σ) : zRuns i X R pc L st σ := by
  obtain ⟨hdg, hnx, hax⟩ := zchk_ok hc
  simp only [zlen] at hdg hnx
  subst hnx
  simp only [zstep] at h
  intro hw hL hs p l e s m args below meth c D ad ct AA H locs ls cells slots Q fx en wo lo
  have fx0 := fx
  obtain ⟨hx, hb, hml, hown, hts, hK, hnw, hA, hce, hsl, hsc⟩ := fx
  simp only [zaux, decide_eq_true_eq] at hax
  split at h
  next =>
    have := en 0 σ H locs ls pc h hw (by rw [hax]; rfl) wo (by rw [hax]; exact hdg)
    rw [hax] at this
    exact this
  next => exact h.elim
end ZS
