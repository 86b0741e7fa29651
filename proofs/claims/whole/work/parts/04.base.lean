/-! numbers, locals, cells of the quiet machine against those of the machine -/
theorem zI_t {v : Int} (h : zI v) : (Int32.ofInt v).toInt = v := Int32.toInt_ofInt_of_le (by have := h.1; omega) (by have := h.2; omega)
theorem zJ_t {v : Int} (h : zJ v) : (Int64.ofInt v).toInt = v := Int64.toInt_ofInt_of_le (by have := h.1; omega) (by have := h.2; omega)
theorem zI_of (x : Int32) : zI x.toInt := ⟨by have := Int32.le_toInt x; omega, by have := Int32.toInt_lt x; omega⟩
theorem zJ_of (x : Int64) : zJ x.toInt := ⟨by have := Int64.le_toInt x; omega, by have := Int64.toInt_lt x; omega⟩
theorem zIJ {v : Int} (h : zI v) : zJ v := ⟨by have := h.1; omega, by have := h.2; omega⟩
theorem zlt {x y : Int} (hx : zI x) (hy : zI y) : Int32.ofInt x < Int32.ofInt y ↔ x < y := by rw [Int32.lt_iff_toInt_lt, zI_t hx, zI_t hy]
theorem zle {x y : Int} (hx : zI x) (hy : zI y) : Int32.ofInt x ≤ Int32.ofInt y ↔ x ≤ y := by rw [Int32.le_iff_toInt_le, zI_t hx, zI_t hy]
theorem zeq {x y : Int} (hx : zI x) (hy : zI y) : Int32.ofInt x = Int32.ofInt y ↔ x = y := by rw [← Int32.toInt_inj, zI_t hx, zI_t hy]
theorem zI0 : zI 0 := ⟨by decide, by decide⟩
theorem z00 : Int32.ofInt 0 = 0 := rfl
theorem zlt0 {x : Int} (hx : zI x) : Int32.ofInt x < 0 ↔ x < 0 := by rw [← z00, zlt hx zI0]
theorem zle0 {x : Int} (hx : zI x) : Int32.ofInt x ≤ 0 ↔ x ≤ 0 := by rw [← z00, zle hx zI0]
theorem zgt0 {x : Int} (hx : zI x) : 0 < Int32.ofInt x ↔ 0 < x := by rw [← z00, zlt zI0 hx]
theorem zge0 {x : Int} (hx : zI x) : 0 ≤ Int32.ofInt x ↔ 0 ≤ x := by rw [← z00, zle zI0 hx]
theorem zeq0 {x : Int} (hx : zI x) : Int32.ofInt x = 0 ↔ x = 0 := by rw [← z00, zeq hx zI0]
theorem zclamp {x : Int} (hx : zI x) : (Int32.ofInt x).toNatClampNeg = x.toNat := by
  show (Int32.ofInt x).toInt.toNat = _
  rw [zI_t hx]
theorem zvin {x : Int} {n : Nat} (hx : zI x) (h0 : 0 ≤ x) (h1 : x < n) : vp_in (Int32.ofInt x) n := by
  rw [vp_in_iff, zI_t hx]; exact ⟨h0, h1⟩
theorem zi2l {x : Int} (hx : zI x) : (Int32.ofInt x).toInt64 = Int64.ofInt x := by
  rw [← Int64.toInt_inj, Int32.toInt_toInt64, zI_t hx, zJ_t (zIJ hx)]
theorem zl2i {x : Int} (hx : zI x) : (Int64.ofInt x).toInt32 = Int32.ofInt x := by
  rw [← Int32.toInt_inj, Int64.toInt_toInt32, zI_t hx, zJ_t (zIJ hx)]
  have h1 := hx.1
  have h2 := hx.2
  rw [Int.bmod_eq_of_le] <;> omega
theorem zJadd {x y : Int} (hx : zJ x) (hy : zJ y) (h : zJ (x + y)) : Int64.ofInt x + Int64.ofInt y = Int64.ofInt (x + y) := by
  rw [← Int64.toInt_inj, Int64.toInt_add, zJ_t hx, zJ_t hy, zJ_t h]
  have h1 := h.1
  have h2 := h.2
  rw [Int.bmod_eq_of_le] <;> omega
theorem zJmul {x y : Int} (hx : zJ x) (hy : zJ y) (h : zJ (x * y)) : Int64.ofInt x * Int64.ofInt y = Int64.ofInt (x * y) := by
  rw [← Int64.toInt_inj, Int64.toInt_mul, zJ_t hx, zJ_t hy, zJ_t h]
  have h1 := h.1
  have h2 := h.2
  rw [Int.bmod_eq_of_le] <;> omega
theorem zIdiv {x y : Int} (hx : zI x) (hy : zI y) (h0 : 0 ≤ x) (h1 : 0 < y) : Int32.ofInt x / Int32.ofInt y = Int32.ofInt (x / y) ∧ zI (x / y) := by
  have hq : zI (x / y) := ⟨by have := Int.ediv_nonneg h0 (Int.le_of_lt h1); omega, by have := Int.ediv_le_self y h0; have := hx.2; omega⟩
  refine ⟨?_, hq⟩
  have hd : (Int32.ofInt x / Int32.ofInt y).toInt = (Int32.ofInt x).toInt.tdiv (Int32.ofInt y).toInt := by
    rw [Int32.toInt_div, zI_t hx, zI_t hy, Int.tdiv_eq_ediv_of_nonneg h0]
    have a := hq.1
    have b := hq.2
    rw [Int.bmod_eq_of_le] <;> omega
  rw [← Int32.toInt_inj, hd, zI_t hx, zI_t hy, zI_t hq, Int.tdiv_eq_ediv_of_nonneg h0]
theorem zIrem {x y : Int} (hx : zI x) (hy : zI y) (h0 : 0 ≤ x) (h1 : 0 < y) : Int32.ofInt x - Int32.ofInt x / Int32.ofInt y * Int32.ofInt y = Int32.ofInt (x % y) ∧ zI (x % y) := by
  have hm0 := Int.emod_nonneg x (show y ≠ 0 by omega)
  have hm1 := Int.emod_lt_of_pos x h1
  have hq : zI (x % y) := ⟨by omega, by have := hy.2; omega⟩
  refine ⟨?_, hq⟩
  rw [(zIdiv hx hy h0 h1).1, ← Int32.ofInt_mul, ← Int32.ofInt_sub]
  congr 1
  have := Int.emod_add_mul_ediv x y
  rw [Int.mul_comm (x / y) y]
  omega
theorem zcmp_lg {x y : Int} (hx : zJ x) (hy : zJ y) : lg_cmp (Int64.ofInt x) (Int64.ofInt y) = Int32.ofInt (zcmp x y) ∧ zI (zcmp x y) := by
  unfold lg_cmp zcmp
  simp only [gt_iff_lt, Int64.lt_iff_toInt_lt, ← Int64.toInt_inj, zJ_t hx, zJ_t hy]
  refine ⟨?_, ?_⟩
  · repeat' split
    all_goals rfl
  · repeat' split
    all_goals exact ⟨by decide, by decide⟩
theorem zmin32 {x y : Int} (hx : zI x) (hy : zI y) : (if Int32.ofInt y < Int32.ofInt x then Int32.ofInt y else Int32.ofInt x) = Int32.ofInt (min x y) ∧ zI (min x y) := by
  simp only [zlt hy hx]
  have h1 := hx.1; have h2 := hx.2; have h3 := hy.1; have h4 := hy.2
  refine ⟨?_, by unfold zI; omega⟩
  split
  · congr 1; omega
  · congr 1; omega
theorem zst1_nth (v : zV) : ∀ (L : zL) (A k : Nat) (w : zV), znth (zst1 L A v) k = some (some w) → (k = A ∧ w = v) ∨ (k ≠ A ∧ znth L k = some (some w) ∧ ¬ (k + 1 = A ∧ ∃ a, w = .inr (.inl a)))
  | [], _, k, w, h => by simp [zst1, znth] at h
  | x :: L, 0, k, w, h => by
    cases k with
    | zero => simp only [zst1, znth] at h; cases h; exact Or.inl ⟨rfl, rfl⟩
    | succ k => simp only [zst1, znth] at h; exact Or.inr ⟨by omega, by simpa only [znth] using h, by omega⟩
  | x :: L, n + 1, k, w, h => by
    cases k with
    | zero =>
      simp only [zst1, znth] at h
      cases n with
      | zero =>
        simp only at h
        refine Or.inr ⟨by omega, ?_, ?_⟩
        · rcases x with _ | (a | (a | a)) <;> simp [zkl] at h <;> simp [znth, h]
        · rintro ⟨-, a, rfl⟩
          rcases x with _ | (a | (a | a)) <;> simp [zkl] at h
      | succ n => simp only at h; exact Or.inr ⟨by omega, by simpa only [znth] using h, by omega⟩
    | succ k =>
      simp only [zst1, znth] at h
      rcases zst1_nth v L n k w h with ⟨rfl, h2⟩ | ⟨h1, h2, h3⟩
      · exact Or.inl ⟨rfl, h2⟩
      · refine Or.inr ⟨by omega, by simpa only [znth] using h2, ?_⟩
        rintro ⟨e, f⟩
        exact h3 ⟨by omega, f⟩
theorem zclr_nth : ∀ (L : zL) (A k : Nat) (w : zV), znth (zclr L A) k = some (some w) → k ≠ A ∧ znth L k = some (some w)
  | [], _, k, w, h => by simp [zclr, znth] at h
  | x :: L, 0, k, w, h => by
    cases k with
    | zero => simp [zclr, znth] at h
    | succ k => simp only [zclr, znth] at h; exact ⟨by omega, by simpa only [znth] using h⟩
  | x :: L, n + 1, k, w, h => by
    cases k with
    | zero => simp only [zclr, znth] at h; exact ⟨by omega, by simpa only [znth] using h⟩
    | succ k =>
      simp only [zclr, znth] at h
      obtain ⟨h1, h2⟩ := zclr_nth L n k w h
      exact ⟨by omega, by simpa only [znth] using h2⟩
theorem zst1_len (v : zV) : ∀ (L : zL) (A : Nat), (zst1 L A v).length = L.length
  | [], _ => rfl
  | x :: L, 0 => rfl
  | x :: L, n + 1 => by simp only [zst1, List.length_cons, zst1_len v L n]
theorem zclr_len : ∀ (L : zL) (A : Nat), (zclr L A).length = L.length
  | [], _ => rfl
  | x :: L, 0 => rfl
  | x :: L, n + 1 => by simp only [zclr, List.length_cons, zclr_len L n]
theorem znth_lt {α : Type} : ∀ (L : List α) (k : Nat) (v : α), znth L k = some v → k < L.length
  | [], k, v, h => by simp [znth] at h
  | x :: L, 0, v, h => by simp
  | x :: L, k + 1, v, h => by simp only [znth] at h; have := znth_lt L k v h; simp; omega
theorem zmask_nth : ∀ (m : List Bool) (L : zL) (k : Nat) (w : zV), znth (zmask m L) k = some (some w) → znth L k = some (some w)
  | [], L, k, w, h => by simp [zmask, znth] at h
  | _ :: _, [], k, w, h => by simp [zmask, znth] at h
  | b :: m, x :: L, 0, w, h => by
    simp only [zmask, znth] at h ⊢
    cases b with
    | false => simp at h
    | true => simpa using h
  | b :: m, x :: L, k + 1, w, h => by
    simp only [zmask, znth] at h ⊢
    exact zmask_nth m L k w h
/-- the locals hold what the list says -/
def zLo (ad : Nat → Nat) (ls : Array Slot) (nL : Nat) (L : zL) : Prop := ls.size = nL ∧ lv_wf ls ∧ ∀ k v, znth L k = some (some v) → ls[k]? = some (.val (zcv ad v))
def zlv (ad : Nat → Nat) (L : zL) : List (Nat × Value) := (List.range L.length).filterMap (fun k => match znth L k with | some (some v) => some (k, zcv ad v) | _ => none)
theorem zlv_mem {ad : Nat → Nat} {L : zL} {k : Nat} {v : zV} (h : znth L k = some (some v)) : (k, zcv ad v) ∈ zlv ad L :=
  List.mem_filterMap.mpr ⟨k, List.mem_range.mpr (znth_lt L k _ h), by simp only [h]⟩
theorem zlv_inv {ad : Nat → Nat} {L : zL} {q : Nat × Value} (h : q ∈ zlv ad L) : ∃ v, znth L q.1 = some (some v) ∧ q.2 = zcv ad v := by
  obtain ⟨k, -, hk⟩ := List.mem_filterMap.mp h
  split at hk
  · rename_i v hv
    cases hk
    exact ⟨v, hv, rfl⟩
  · cases hk
theorem zLo.has {ad : Nat → Nat} {ls : Array Slot} {nL : Nat} {L : zL} (h : zLo ad ls nL L) : lv_has ls nL (zlv ad L) := ⟨h.1, h.2.1, fun q hq => by
  obtain ⟨v, h1, h2⟩ := zlv_inv hq
  rw [h2]
  exact h.2.2 _ _ h1⟩
theorem zcv_cat2 {ad : Nat → Nat} {w : zV} (h : (zcv ad w).category = 2) : ∃ a, w = .inr (.inl a) := by
  rcases w with a | a | ⟨a, b⟩
  · simp [zcv, Value.category] at h
  · exact ⟨a, rfl⟩
  · simp [zcv, Value.category] at h
theorem zLo.st1 {ad : Nat → Nat} {ls' : Array Slot} {nL A : Nat} {L : zL} {v : zV} (h' : lv_has ls' nL ((A, zcv ad v) :: (zlv ad L).filter (fun q => !(q.1 == A) && !(q.1 + 1 == A && q.2.category == 2)))) : zLo ad ls' nL (zst1 L A v) := by
  refine ⟨h'.1, h'.2.1, fun k w hk => ?_⟩
  rcases zst1_nth v L A k w hk with ⟨rfl, rfl⟩ | ⟨h1, h2, h3⟩
  · exact h'.2.2 (k, zcv ad w) List.mem_cons_self
  · refine h'.2.2 (k, zcv ad w) (List.mem_cons_of_mem _ (List.mem_filter.mpr ⟨zlv_mem h2, ?_⟩))
    have h4 : ¬ (k + 1 = A ∧ (zcv ad w).category = 2) := fun q => h3 ⟨q.1, zcv_cat2 q.2⟩
    simp only [Bool.and_eq_true, Bool.not_eq_true', beq_eq_false_iff_ne, ne_eq, Bool.and_eq_false_iff]
    refine ⟨h1, ?_⟩
    by_cases e : k + 1 = A
    · exact Or.inr (fun q => h4 ⟨e, q⟩)
    · exact Or.inl e
theorem zLo.st2 {ad : Nat → Nat} {ls' : Array Slot} {nL A : Nat} {L : zL} {v : zV} (h' : lv_has ls' nL ((A, zcv ad v) :: (zlv ad L).filter (fun q => !(q.1 == A) && (!(q.1 == A + 1) && !(q.1 + 1 == A && q.2.category == 2))))) : zLo ad ls' nL (zst2 L A v) := by
  refine ⟨h'.1, h'.2.1, fun k w hk => ?_⟩
  rcases zst1_nth v (zclr L (A + 1)) A k w hk with ⟨rfl, rfl⟩ | ⟨h1, h2, h3⟩
  · exact h'.2.2 (k, zcv ad w) List.mem_cons_self
  · obtain ⟨h5, h6⟩ := zclr_nth L (A + 1) k w h2
    refine h'.2.2 (k, zcv ad w) (List.mem_cons_of_mem _ (List.mem_filter.mpr ⟨zlv_mem h6, ?_⟩))
    have h4 : ¬ (k + 1 = A ∧ (zcv ad w).category = 2) := fun q => h3 ⟨q.1, zcv_cat2 q.2⟩
    simp only [Bool.and_eq_true, Bool.not_eq_true', beq_eq_false_iff_ne, ne_eq, Bool.and_eq_false_iff]
    refine ⟨h1, h5, ?_⟩
    by_cases e : k + 1 = A
    · exact Or.inr (fun q => h4 ⟨e, q⟩)
    · exact Or.inl e
theorem zLo.mask {ad : Nat → Nat} {ls : Array Slot} {nL : Nat} {L : zL} {m : List Bool} (h : zLo ad ls nL L) : zLo ad ls nL (zmask m L) := ⟨h.1, h.2.1, fun k v hk => h.2.2 k v (zmask_nth m L k v hk)⟩
/-! cells -/
theorem zwl_at (ad : Nat → Nat) (ct : Nat → ClassId) (σ : zS) {k : Nat} (h : k < zNC) : (zwl ad ct σ)[k]? = some (ad k, zcel ad ct σ k) := by
  unfold zwl
  rw [List.getElem?_map, List.getElem?_range h]
  rfl
theorem zwl_len (ad : Nat → Nat) (ct : Nat → ClassId) (σ : zS) : (zwl ad ct σ).length = zNC := by simp [zwl]
theorem zwl_inv {ad : Nat → Nat} {ct : Nat → ClassId} {σ : zS} {k : Nat} {q : Nat × va_E} (h : (zwl ad ct σ)[k]? = some q) : k < zNC ∧ q = (ad k, zcel ad ct σ k) := by
  have hk : k < zNC := by have := (List.getElem?_eq_some_iff.mp h).1; rwa [zwl_len] at this
  exact ⟨hk, (Option.some.inj ((zwl_at ad ct σ hk).symm.trans h)).symm⟩
theorem zwl_set (ad : Nat → Nat) (ct : Nat → ClassId) (σ u : zS) (k : Nat) (e : va_E) (h : k < zNC) (he : e = zcel ad ct u k) (ho : ∀ j, j < zNC → j ≠ k → zcel ad ct u j = zcel ad ct σ j) : (zwl ad ct σ).set k (ad k, e) = zwl ad ct u := by
  apply List.ext_getElem?
  intro j
  by_cases hj : j = k
  · subst hj
    rw [List.getElem?_set_self (by rw [zwl_len]; exact h), zwl_at ad ct u h, he]
  · rw [List.getElem?_set_ne (Ne.symm hj)]
    by_cases hl : j < zNC
    · rw [zwl_at ad ct σ hl, zwl_at ad ct u hl, ho j hl hj]
    · rw [List.getElem?_eq_none (by rw [zwl_len]; omega), List.getElem?_eq_none (by rw [zwl_len]; omega)]
theorem zsum_ok (ad : Nat → Nat) : ∀ st : List zV, ((st.map (zcv ad)).map fun v => v.category).sum = zsum st
  | [] => rfl
  | .inl a :: l => by simp only [List.map_cons, List.sum_cons, zsum, zsum_ok ad l]; rfl
  | .inr (.inl a) :: l => by simp only [List.map_cons, List.sum_cons, zsum, zsum_ok ad l]; rfl
  | .inr (.inr (a, b)) :: l => by simp only [List.map_cons, List.sum_cons, zsum, zsum_ok ad l]; rfl
theorem zpop_ok : ∀ (n : Nat) (acc st as rest : List zV), zpop n acc st = some (as, rest) → ∃ pre, pre.length = n ∧ st = pre ++ rest ∧ as = pre.reverse ++ acc
  | 0, acc, st, as, rest, h => by simp only [zpop] at h; cases h; exact ⟨[], rfl, rfl, rfl⟩
  | n + 1, acc, [], as, rest, h => by simp [zpop] at h
  | n + 1, acc, v :: st, as, rest, h => by
    simp only [zpop] at h
    obtain ⟨pre, h1, h2, h3⟩ := zpop_ok n (v :: acc) st as rest h
    exact ⟨v :: pre, by simp [h1], by rw [h2]; rfl, by rw [h3]; simp⟩
