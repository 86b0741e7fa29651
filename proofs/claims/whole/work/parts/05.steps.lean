/-! one step of the quiet machine is one of the machine -/
def zlen (ins : Instr) (B : Nat) : Nat := match ins with
  | .bipush _ | .iload _ | .lload _ | .aload _ | .istore _ | .lstore _ | .astore _ | .ldc _ => 2
  | .sipush _ | .ldc_w _ | .ldc2_w _ | .iinc _ _ | .goto _ | .ifCond _ _ | .if_icmp _ _ | .getfield _ | .putfield _ | .invokevirtual _ | .invokestatic _ => 3
  | .tableswitch _ _ _ _ | .lookupswitch _ _ => B
  | _ => 1
def zIb (v : Int) : Bool := decide (-2147483648 ≤ v) && decide (v ≤ 2147483647)
theorem zIb_ok {v : Int} (h : zIb v = true) : zI v := by
  simp only [zIb, Bool.and_eq_true, decide_eq_true_eq] at h; exact h
def zrk (r : Option FieldType) : Nat := match r with
  | none => 0
  | some .long => 2
  | some _ => 1
def zri (r : Option FieldType) : Instr := match r with
  | none => .return_
  | some .long => .lreturn
  | some _ => .ireturn
def zroom (A i : Nat) : Bool := decide ((zq A).frames + 1 ≤ (zq i).frames) && decide (8 + (zl A + 11) + (zq A).locals ≤ (zq i).locals) && (decide ((zq A).cells = 0) && decide ((zq A).slots = 0))
def zaux (i pc : Nat) (ins : Instr) (A B : Nat) (C : Int) : Bool := match ins with
  | .iload_n k | .lload_n k | .aload_n k => decide ((k : Nat) = A)
  | .iload k | .lload k | .aload k => decide (k = A)
  | .istore_n k | .astore_n k => decide ((k : Nat) = A) && decide (A < zl i)
  | .istore k | .astore k => decide (k = A) && decide (A < zl i)
  | .lstore_n k => decide ((k : Nat) = A) && decide (A + 1 < zl i)
  | .lstore k => decide (k = A) && decide (A + 1 < zl i)
  | .iconst n => decide (n = C) && zIb C
  | .bipush n => decide ((Int8.ofInt n).toInt32 = Int32.ofInt C) && zIb C
  | .sipush n => decide ((Int16.ofInt n).toInt32 = Int32.ofInt C) && zIb C
  | .lconst k => decide (Int64.ofNat (k : Nat) = Int64.ofInt C) && zIb C
  | .ldc j | .ldc_w j => decide ((zow i, j, C) ∈ zkc)
  | .ldc2_w j => decide ((zow i, j, C) ∈ zkL)
  | .iinc j n => decide (j = A) && decide (n = C) && decide (A < zl i)
  | .goto off | .ifCond _ off | .if_icmp _ off => decide ((pc : Int) + off = (A : Int))
  | .tableswitch d lo hi offs => decide (0 ≤ (pc : Int) + d) && offs.toList.all (fun o => decide (0 ≤ (pc : Int) + o)) && decide (hi = lo + (offs.toList.length : Int) - 1)
  | .lookupswitch d ps => decide (0 ≤ (pc : Int) + d) && ps.toList.all (fun x => decide (0 ≤ (pc : Int) + x.2)) && (ps.toList.zip (ps.toList.drop 1)).all (fun (a, next) => a.1 < next.1)
  | .getfield j => decide ((zow i, j, A, B, C) ∈ zfl) && (decide (2 ≤ B) || decide (zlg A C = Nat.beq B 1))
  | .putfield j => decide ((zow i, j, A, B, C) ∈ zfl) && decide (zlg A C = Nat.beq B 1) && decide ((zT (zcn A) C.toNat).2.2.2 = false)
  | .invokevirtual j => decide ((zow i, j, A) ∈ zvl) && decide (A < zlaw) && decide (B = znp A) && decide (C.toNat % 4 = zrk (zr A)) && decide (C.toNat / 4 < 10) && decide (zcn (C.toNat / 4) = zow A) && zroom A i
  | .invokestatic j => if 9010 ≤ A then decide ((zow i, j, A) ∈ zxl) && decide (1 ≤ (zq i).frames) && decide (40 ≤ (zq i).locals) else
      (decide ((zow i, j, A) ∈ zsl) || decide ((zow i, j, A) ∈ znl)) && decide (A < zlaw) && decide (B = znp A) && decide (C.toNat % 4 = zrk (zr A)) && zroom A i
  | .ireturn => (decide (zr i = some .int) && decide (A = 0)) || (decide (zr i = some .boolean) && decide (A = 1))
  | .lreturn => decide (zr i = some .long)
  | .return_ => decide (zr i = none)
  | _ => true
def zchk (i : Nat) (e : zE) : Bool := (decide (decode (zb i) e.1 = .ok (e.2.2.1, zlen e.2.2.1 e.2.2.2.2.1)) && decide (e.2.1 = e.1 + zlen e.2.2.1 e.2.2.2.2.1)) && zaux i e.1 e.2.2.1 e.2.2.2.1 e.2.2.2.2.1 e.2.2.2.2.2
theorem zchk_ok {i pc n : Nat} {ins : Instr} {A B : Nat} {C : Int} (h : zchk i (pc, n, ins, A, B, C) = true) : decode (zb i) pc = .ok (ins, zlen ins B) ∧ n = pc + zlen ins B ∧ zaux i pc ins A B C = true := by
  simp only [zchk, Bool.and_eq_true, decide_eq_true_eq] at h
  exact ⟨h.1.1, h.1.2, h.2⟩
theorem zlg_k {k : Nat} {i : Int} (h : zlg k i = true) : zkd k = 2 ∨ zkd k = 4 := by
  unfold zlg at h
  split at h
  all_goals first | exact Or.inl rfl | exact Or.inr rfl | exact absurd h (by decide)
theorem zWF.i {σ : zS} (h : zWF σ) {k : Nat} {i : Int} (hk : zlg k i = false) : zI (σ k i) := (h k i).2 hk
theorem zlg_0 {k : Nat} {i : Int} (h : zkd k ≠ 2) (h4 : zkd k ≠ 4) : zlg k i = false := by
  cases e : zlg k i with
  | false => rfl
  | true => rcases zlg_k e with q | q <;> contradiction
theorem zWF.up {σ : zS} (h : zWF σ) {k : Nat} {i v : Int} (hv : zJ v) (hi : zlg k i = false → zI v) : zWF (zup σ k i v) := by
  intro k' i'
  unfold zup
  by_cases e : k' = k
  · subst e
    by_cases f : i' = i
    · subst f
      rw [if_pos rfl, if_pos rfl]
      exact ⟨hv, hi⟩
    · rw [if_pos rfl, if_neg f]
      exact h _ _
  · rw [if_neg e]
    exact h _ _
theorem zNw.same {u U : State} (h : u.vm = U.vm) (hz : zNw u) : zNw U := fun w hw hn => va_Nw.same (by cases w <;> first | rfl | exact absurd (show false = true from hn) Bool.false_ne_true) h (hz w hw hn)
theorem zNw.warm {s U : State} (hW : s.WarmedH U.vm) (hz : zNw s) : zNw U := fun w hw hn => by
  have h1 := hz w hw hn
  cases w <;> first | exact absurd (show false = true from hn) Bool.false_ne_true | exact va_Nw.warmM hW h1
/-- the script of the law -/
def zScr (X : zX) (s : State) (ad : Nat → Nat) (AA : Nat → Prop) : Prop := 0 ≤ X.1 → ∃ (n : Nat) (xs : Nat → Int32), va_X (ad 1000) n xs s s.heap ∧ ad 1000 < s.heap.size ∧ ¬ AA (ad 1000) ∧ X.1 = (n : Int) ∧ n ≤ 3584 ∧ ∀ j : Nat, j < n → X.2 (j : Int) = (xs j).toInt
def zFix (i : Nat) (X : zX) (p : Program) (s : State) (m : MethodId) (args : Array Value) (c : Code) (D : va_G) (ad : Nat → Nat) (ct : Nat → ClassId) (AA : Nat → Prop) (cells slots : Nat) : Prop :=
  p.tables.exec = Jvm.exec ∧ c.code = zb i ∧ c.maxLocals = zl i ∧ s.vm.findClass (zRn (zow i)) = some m.cls ∧ (∀ w ∈ zTB, w.before args s = true) ∧ va_K D zcl (ztys ct) s ∧ zNw s ∧ (∀ q, s.heap.size ≤ q → AA q) ∧ cells ≤ (zq i).cells ∧ slots ≤ (zq i).slots ∧ zScr X s ad AA
def zWo (D : va_G) (ad : Nat → Nat) (ct : Nat → ClassId) (AA : Nat → Prop) (s : State) (σ : zS) (H : Heap) (locs : List Loc) : Prop := va_P D zcl (zwl ad ct σ) H ∧ va_D AA (zwl ad ct σ) ∧ va_S AA s.heap H locs
def zEnd (i : Nat) (R : Int → zS → Prop) (p : Program) (l : Launch) (e : Env) (s : State) (m : MethodId) (args : Array Value) (below : List Frame) (meth : Method) (c : Code) (D : va_G) (ad : Nat → Nat) (ct : Nat → ClassId) (AA : Nat → Prop) (cells slots : Nat) (Q : State → Prop) : Prop :=
  ∀ (v : Int) (u : zS) (H : Heap) (locs : List Loc) (ls : Array Slot) (pc : Nat), R v u → zWF u → zRok (zr i) v → zWo D ad ct AA s u H locs → decode (zb i) pc = .ok (zri (zr i), 1) → W p l e (zq i) s m args below meth c H locs cells slots Q (F0 m pc ls (zRv (zr i) v).toList)
def zGo (i : Nat) (X : zX) (R : Int → zS → Prop) (pc : Nat) (L : zL) (st : List zV) (σ : zS) : Prop :=
  ∀ (p : Program) (l : Launch) (e : Env) (s : State) (m : MethodId) (args : Array Value) (below : List Frame) (meth : Method) (c : Code) (D : va_G) (ad : Nat → Nat) (ct : Nat → ClassId) (AA : Nat → Prop) (H : Heap) (locs : List Loc) (ls : Array Slot) (cells slots : Nat) (Q : State → Prop),
    zFix i X p s m args c D ad ct AA cells slots → zEnd i R p l e s m args below meth c D ad ct AA cells slots Q → zWo D ad ct AA s σ H locs → zLo ad ls (zl i) L → W p l e (zq i) s m args below meth c H locs cells slots Q (F0 m pc ls (st.map (zcv ad)))
def zRuns (i : Nat) (X : zX) (R : Int → zS → Prop) (pc : Nat) (L : zL) (st : List zV) (σ : zS) : Prop := zWF σ → (∀ k v, znth L k = some (some v) → zok v) → (∀ v ∈ st, zok v) → zGo i X R pc L st σ
theorem zs1 {v : zV} {st : List zV} (h : ∀ w ∈ v :: st, zok w) : zok v ∧ ∀ w ∈ st, zok w := ⟨h v List.mem_cons_self, fun w hw => h w (List.mem_cons_of_mem _ hw)⟩
theorem zs2 {v : zV} {st : List zV} (h : zok v) (hs : ∀ w ∈ st, zok w) : ∀ w ∈ v :: st, zok w := fun w hw => by
  rcases List.mem_cons.mp hw with rfl | hw
  · exact h
  · exact hs w hw
theorem zLok1 {L : zL} {A : Nat} {v : zV} (hL : ∀ k w, znth L k = some (some w) → zok w) (hv : zok v) : ∀ k w, znth (zst1 L A v) k = some (some w) → zok w := fun k w h => by
  rcases zst1_nth v L A k w h with ⟨-, rfl⟩ | ⟨-, h2, -⟩
  · exact hv
  · exact hL k w h2
theorem zLok2 {L : zL} {A : Nat} {v : zV} (hL : ∀ k w, znth L k = some (some w) → zok w) (hv : zok v) : ∀ k w, znth (zst2 L A v) k = some (some w) → zok w := fun k w h => by
  rcases zst1_nth v (zclr L (A + 1)) A k w h with ⟨-, rfl⟩ | ⟨-, h2, -⟩
  · exact hv
  · exact hL k w (zclr_nth L (A + 1) k w h2).2
/-- what a step rests on -/
def zHn (i : Nat) (X : zX) (R : Int → zS → Prop) (n : Nat) (nx : zL → List zV → zS → Prop) : Prop := ∀ L st σ, nx L st σ → zRuns i X R n L st σ
def zHJ (i : Nat) (X : zX) (R : Int → zS → Prop) (J : Nat → zL → List zV → zS → Prop) : Prop := ∀ t L st σ, J t L st σ → zRuns i X R t L st σ
section ZS
variable {i : Nat} {X : zX} {R : Int → zS → Prop} {nx : zL → List zV → zS → Prop} {J : Nat → zL → List zV → zS → Prop} {pc n A B : Nat} {C : Int} {L : zL} {st : List zV} {σ : zS}
set_option maxHeartbeats 1000000 in
theorem zs_iload_n {k : Fin 4} (hc : zchk i (pc, n, .iload_n k, A, B, C) = true) (hn : zHn i X R n nx) (hJ : zHJ i X R J) (h : zstep X R nx J pc (.iload_n k) A B C L st σ) : zRuns i X R pc L st σ := by
  obtain ⟨hdg, hnx, hax⟩ := zchk_ok hc
  simp only [zlen] at hdg hnx
  subst hnx
  simp only [zstep] at h
  intro hw hL hs p l e s m args below meth c D ad ct AA H locs ls cells slots Q fx en wo lo
  have fx0 := fx
  obtain ⟨hx, hb, hml, hown, hts, hK, hnw, hA, hce, hsl, hsc⟩ := fx
  simp only [zaux, decide_eq_true_eq] at hax
  split at h
  next v hv =>
    refine lv_iload_n hx hb hdg hax (lo.2.2 _ _ hv) ?_
    exact hn _ _ _ h hw hL (zs2 (hL _ _ hv) hs) p l e s m args below meth c D ad ct AA H locs ls cells slots Q fx0 en wo lo
  next => exact h.elim
set_option maxHeartbeats 1000000 in
theorem zs_iload {k : Nat} (hc : zchk i (pc, n, .iload k, A, B, C) = true) (hn : zHn i X R n nx) (hJ : zHJ i X R J) (h : zstep X R nx J pc (.iload k) A B C L st σ) : zRuns i X R pc L st σ := by
  obtain ⟨hdg, hnx, hax⟩ := zchk_ok hc
  simp only [zlen] at hdg hnx
  subst hnx
  simp only [zstep] at h
  intro hw hL hs p l e s m args below meth c D ad ct AA H locs ls cells slots Q fx en wo lo
  have fx0 := fx
  obtain ⟨hx, hb, hml, hown, hts, hK, hnw, hA, hce, hsl, hsc⟩ := fx
  simp only [zaux, decide_eq_true_eq] at hax
  split at h
  next v hv =>
    refine lv_iload hx hb hdg (by rw [hax]; exact lo.2.2 _ _ hv) ?_
    exact hn _ _ _ h hw hL (zs2 (hL _ _ hv) hs) p l e s m args below meth c D ad ct AA H locs ls cells slots Q fx0 en wo lo
  next => exact h.elim
set_option maxHeartbeats 1000000 in
theorem zs_lload_n {k : Fin 4} (hc : zchk i (pc, n, .lload_n k, A, B, C) = true) (hn : zHn i X R n nx) (hJ : zHJ i X R J) (h : zstep X R nx J pc (.lload_n k) A B C L st σ) : zRuns i X R pc L st σ := by
  obtain ⟨hdg, hnx, hax⟩ := zchk_ok hc
  simp only [zlen] at hdg hnx
  subst hnx
  simp only [zstep] at h
  intro hw hL hs p l e s m args below meth c D ad ct AA H locs ls cells slots Q fx en wo lo
  have fx0 := fx
  obtain ⟨hx, hb, hml, hown, hts, hK, hnw, hA, hce, hsl, hsc⟩ := fx
  simp only [zaux, decide_eq_true_eq] at hax
  split at h
  next v hv =>
    refine lv_lload_n hx hb hdg hax (lo.2.2 _ _ hv) ?_
    exact hn _ _ _ h hw hL (zs2 (hL _ _ hv) hs) p l e s m args below meth c D ad ct AA H locs ls cells slots Q fx0 en wo lo
  next => exact h.elim
set_option maxHeartbeats 1000000 in
theorem zs_lload {k : Nat} (hc : zchk i (pc, n, .lload k, A, B, C) = true) (hn : zHn i X R n nx) (hJ : zHJ i X R J) (h : zstep X R nx J pc (.lload k) A B C L st σ) : zRuns i X R pc L st σ := by
  obtain ⟨hdg, hnx, hax⟩ := zchk_ok hc
  simp only [zlen] at hdg hnx
  subst hnx
  simp only [zstep] at h
  intro hw hL hs p l e s m args below meth c D ad ct AA H locs ls cells slots Q fx en wo lo
  have fx0 := fx
  obtain ⟨hx, hb, hml, hown, hts, hK, hnw, hA, hce, hsl, hsc⟩ := fx
  simp only [zaux, decide_eq_true_eq] at hax
  split at h
  next v hv =>
    refine lv_lload hx hb hdg (by rw [hax]; exact lo.2.2 _ _ hv) ?_
    exact hn _ _ _ h hw hL (zs2 (hL _ _ hv) hs) p l e s m args below meth c D ad ct AA H locs ls cells slots Q fx0 en wo lo
  next => exact h.elim
set_option maxHeartbeats 1000000 in
theorem zs_aload_n {k : Fin 4} (hc : zchk i (pc, n, .aload_n k, A, B, C) = true) (hn : zHn i X R n nx) (hJ : zHJ i X R J) (h : zstep X R nx J pc (.aload_n k) A B C L st σ) : zRuns i X R pc L st σ := by
  obtain ⟨hdg, hnx, hax⟩ := zchk_ok hc
  simp only [zlen] at hdg hnx
  subst hnx
  simp only [zstep] at h
  intro hw hL hs p l e s m args below meth c D ad ct AA H locs ls cells slots Q fx en wo lo
  have fx0 := fx
  obtain ⟨hx, hb, hml, hown, hts, hK, hnw, hA, hce, hsl, hsc⟩ := fx
  simp only [zaux, decide_eq_true_eq] at hax
  split at h
  next v hv =>
    refine lv_aload_n hx hb hdg hax (lo.2.2 _ _ hv) ?_
    exact hn _ _ _ h hw hL (zs2 (hL _ _ hv) hs) p l e s m args below meth c D ad ct AA H locs ls cells slots Q fx0 en wo lo
  next => exact h.elim
set_option maxHeartbeats 1000000 in
theorem zs_aload {k : Nat} (hc : zchk i (pc, n, .aload k, A, B, C) = true) (hn : zHn i X R n nx) (hJ : zHJ i X R J) (h : zstep X R nx J pc (.aload k) A B C L st σ) : zRuns i X R pc L st σ := by
  obtain ⟨hdg, hnx, hax⟩ := zchk_ok hc
  simp only [zlen] at hdg hnx
  subst hnx
  simp only [zstep] at h
  intro hw hL hs p l e s m args below meth c D ad ct AA H locs ls cells slots Q fx en wo lo
  have fx0 := fx
  obtain ⟨hx, hb, hml, hown, hts, hK, hnw, hA, hce, hsl, hsc⟩ := fx
  simp only [zaux, decide_eq_true_eq] at hax
  split at h
  next v hv =>
    refine lv_aload hx hb hdg (by rw [hax]; exact lo.2.2 _ _ hv) ?_
    exact hn _ _ _ h hw hL (zs2 (hL _ _ hv) hs) p l e s m args below meth c D ad ct AA H locs ls cells slots Q fx0 en wo lo
  next => exact h.elim
set_option maxHeartbeats 1000000 in
theorem zs_istore_n {k : Fin 4} (hc : zchk i (pc, n, .istore_n k, A, B, C) = true) (hn : zHn i X R n nx) (hJ : zHJ i X R J) (h : zstep X R nx J pc (.istore_n k) A B C L st σ) : zRuns i X R pc L st σ := by
  obtain ⟨hdg, hnx, hax⟩ := zchk_ok hc
  simp only [zlen] at hdg hnx
  subst hnx
  simp only [zstep] at h
  intro hw hL hs p l e s m args below meth c D ad ct AA H locs ls cells slots Q fx en wo lo
  have fx0 := fx
  obtain ⟨hx, hb, hml, hown, hts, hK, hnw, hA, hce, hsl, hsc⟩ := fx
  simp only [zaux, Bool.and_eq_true, decide_eq_true_eq] at hax
  split at h
  next =>
    refine lv_istore_n hx hb hdg hax.1 lo.has hax.2 rfl (fun ls h8 => ?_)
    exact hn _ _ _ h hw (zLok1 hL (zs1 hs).1) (zs1 hs).2 p l e s m args below meth c D ad ct AA H locs ls cells slots Q fx0 en wo (zLo.st1 h8)
  next => exact h.elim
set_option maxHeartbeats 1000000 in
theorem zs_istore {k : Nat} (hc : zchk i (pc, n, .istore k, A, B, C) = true) (hn : zHn i X R n nx) (hJ : zHJ i X R J) (h : zstep X R nx J pc (.istore k) A B C L st σ) : zRuns i X R pc L st σ := by
  obtain ⟨hdg, hnx, hax⟩ := zchk_ok hc
  simp only [zlen] at hdg hnx
  subst hnx
  simp only [zstep] at h
  intro hw hL hs p l e s m args below meth c D ad ct AA H locs ls cells slots Q fx en wo lo
  have fx0 := fx
  obtain ⟨hx, hb, hml, hown, hts, hK, hnw, hA, hce, hsl, hsc⟩ := fx
  simp only [zaux, Bool.and_eq_true, decide_eq_true_eq] at hax
  obtain ⟨rfl, hlt⟩ := hax
  split at h
  next =>
    refine lv_istore hx hb hdg lo.has hlt rfl (fun ls h8 => ?_)
    exact hn _ _ _ h hw (zLok1 hL (zs1 hs).1) (zs1 hs).2 p l e s m args below meth c D ad ct AA H locs ls cells slots Q fx0 en wo (zLo.st1 h8)
  next => exact h.elim
set_option maxHeartbeats 1000000 in
theorem zs_lstore_n {k : Fin 4} (hc : zchk i (pc, n, .lstore_n k, A, B, C) = true) (hn : zHn i X R n nx) (hJ : zHJ i X R J) (h : zstep X R nx J pc (.lstore_n k) A B C L st σ) : zRuns i X R pc L st σ := by
  obtain ⟨hdg, hnx, hax⟩ := zchk_ok hc
  simp only [zlen] at hdg hnx
  subst hnx
  simp only [zstep] at h
  intro hw hL hs p l e s m args below meth c D ad ct AA H locs ls cells slots Q fx en wo lo
  have fx0 := fx
  obtain ⟨hx, hb, hml, hown, hts, hK, hnw, hA, hce, hsl, hsc⟩ := fx
  simp only [zaux, Bool.and_eq_true, decide_eq_true_eq] at hax
  split at h
  next =>
    refine lv_lstore_n hx hb hdg hax.1 lo.has hax.2 rfl (fun ls h8 => ?_)
    exact hn _ _ _ h hw (zLok2 hL (zs1 hs).1) (zs1 hs).2 p l e s m args below meth c D ad ct AA H locs ls cells slots Q fx0 en wo (zLo.st2 h8)
  next => exact h.elim
set_option maxHeartbeats 1000000 in
theorem zs_lstore {k : Nat} (hc : zchk i (pc, n, .lstore k, A, B, C) = true) (hn : zHn i X R n nx) (hJ : zHJ i X R J) (h : zstep X R nx J pc (.lstore k) A B C L st σ) : zRuns i X R pc L st σ := by
  obtain ⟨hdg, hnx, hax⟩ := zchk_ok hc
  simp only [zlen] at hdg hnx
  subst hnx
  simp only [zstep] at h
  intro hw hL hs p l e s m args below meth c D ad ct AA H locs ls cells slots Q fx en wo lo
  have fx0 := fx
  obtain ⟨hx, hb, hml, hown, hts, hK, hnw, hA, hce, hsl, hsc⟩ := fx
  simp only [zaux, Bool.and_eq_true, decide_eq_true_eq] at hax
  obtain ⟨rfl, hlt⟩ := hax
  split at h
  next =>
    refine lv_lstore hx hb hdg lo.has hlt rfl (fun ls h8 => ?_)
    exact hn _ _ _ h hw (zLok2 hL (zs1 hs).1) (zs1 hs).2 p l e s m args below meth c D ad ct AA H locs ls cells slots Q fx0 en wo (zLo.st2 h8)
  next => exact h.elim
set_option maxHeartbeats 1000000 in
theorem zs_astore_n {k : Fin 4} (hc : zchk i (pc, n, .astore_n k, A, B, C) = true) (hn : zHn i X R n nx) (hJ : zHJ i X R J) (h : zstep X R nx J pc (.astore_n k) A B C L st σ) : zRuns i X R pc L st σ := by
  obtain ⟨hdg, hnx, hax⟩ := zchk_ok hc
  simp only [zlen] at hdg hnx
  subst hnx
  simp only [zstep] at h
  intro hw hL hs p l e s m args below meth c D ad ct AA H locs ls cells slots Q fx en wo lo
  have fx0 := fx
  obtain ⟨hx, hb, hml, hown, hts, hK, hnw, hA, hce, hsl, hsc⟩ := fx
  simp only [zaux, Bool.and_eq_true, decide_eq_true_eq] at hax
  split at h
  next =>
    refine lv_astore_n hx hb hdg hax.1 lo.has hax.2 rfl (fun ls h8 => ?_)
    exact hn _ _ _ h hw (zLok1 hL (zs1 hs).1) (zs1 hs).2 p l e s m args below meth c D ad ct AA H locs ls cells slots Q fx0 en wo (zLo.st1 h8)
  next => exact h.elim
set_option maxHeartbeats 1000000 in
theorem zs_astore {k : Nat} (hc : zchk i (pc, n, .astore k, A, B, C) = true) (hn : zHn i X R n nx) (hJ : zHJ i X R J) (h : zstep X R nx J pc (.astore k) A B C L st σ) : zRuns i X R pc L st σ := by
  obtain ⟨hdg, hnx, hax⟩ := zchk_ok hc
  simp only [zlen] at hdg hnx
  subst hnx
  simp only [zstep] at h
  intro hw hL hs p l e s m args below meth c D ad ct AA H locs ls cells slots Q fx en wo lo
  have fx0 := fx
  obtain ⟨hx, hb, hml, hown, hts, hK, hnw, hA, hce, hsl, hsc⟩ := fx
  simp only [zaux, Bool.and_eq_true, decide_eq_true_eq] at hax
  obtain ⟨rfl, hlt⟩ := hax
  split at h
  next =>
    refine lv_astore hx hb hdg lo.has hlt rfl (fun ls h8 => ?_)
    exact hn _ _ _ h hw (zLok1 hL (zs1 hs).1) (zs1 hs).2 p l e s m args below meth c D ad ct AA H locs ls cells slots Q fx0 en wo (zLo.st1 h8)
  next => exact h.elim
set_option maxHeartbeats 1000000 in
theorem zs_iconst {k : Int} (hc : zchk i (pc, n, .iconst k, A, B, C) = true) (hn : zHn i X R n nx) (hJ : zHJ i X R J) (h : zstep X R nx J pc (.iconst k) A B C L st σ) : zRuns i X R pc L st σ := by
  obtain ⟨hdg, hnx, hax⟩ := zchk_ok hc
  simp only [zlen] at hdg hnx
  subst hnx
  simp only [zstep] at h
  intro hw hL hs p l e s m args below meth c D ad ct AA H locs ls cells slots Q fx en wo lo
  have fx0 := fx
  obtain ⟨hx, hb, hml, hown, hts, hK, hnw, hA, hce, hsl, hsc⟩ := fx
  simp only [zaux, Bool.and_eq_true, decide_eq_true_eq] at hax
  refine lv_iconst hx hb hdg (by rw [hax.1]) ?_
  exact hn _ _ _ h hw hL (zs2 (zIb_ok hax.2) hs) p l e s m args below meth c D ad ct AA H locs ls cells slots Q fx0 en wo lo
set_option maxHeartbeats 1000000 in
theorem zs_bipush {k : Int} (hc : zchk i (pc, n, .bipush k, A, B, C) = true) (hn : zHn i X R n nx) (hJ : zHJ i X R J) (h : zstep X R nx J pc (.bipush k) A B C L st σ) : zRuns i X R pc L st σ := by
  obtain ⟨hdg, hnx, hax⟩ := zchk_ok hc
  simp only [zlen] at hdg hnx
  subst hnx
  simp only [zstep] at h
  intro hw hL hs p l e s m args below meth c D ad ct AA H locs ls cells slots Q fx en wo lo
  have fx0 := fx
  obtain ⟨hx, hb, hml, hown, hts, hK, hnw, hA, hce, hsl, hsc⟩ := fx
  simp only [zaux, Bool.and_eq_true, decide_eq_true_eq] at hax
  refine lv_bipush hx hb hdg hax.1 ?_
  exact hn _ _ _ h hw hL (zs2 (zIb_ok hax.2) hs) p l e s m args below meth c D ad ct AA H locs ls cells slots Q fx0 en wo lo
set_option maxHeartbeats 1000000 in
theorem zs_sipush {k : Int} (hc : zchk i (pc, n, .sipush k, A, B, C) = true) (hn : zHn i X R n nx) (hJ : zHJ i X R J) (h : zstep X R nx J pc (.sipush k) A B C L st σ) : zRuns i X R pc L st σ := by
  obtain ⟨hdg, hnx, hax⟩ := zchk_ok hc
  simp only [zlen] at hdg hnx
  subst hnx
  simp only [zstep] at h
  intro hw hL hs p l e s m args below meth c D ad ct AA H locs ls cells slots Q fx en wo lo
  have fx0 := fx
  obtain ⟨hx, hb, hml, hown, hts, hK, hnw, hA, hce, hsl, hsc⟩ := fx
  simp only [zaux, Bool.and_eq_true, decide_eq_true_eq] at hax
  refine lv_sipush hx hb hdg hax.1 ?_
  exact hn _ _ _ h hw hL (zs2 (zIb_ok hax.2) hs) p l e s m args below meth c D ad ct AA H locs ls cells slots Q fx0 en wo lo
set_option maxHeartbeats 1000000 in
theorem zs_ldc {k : Nat} (hc : zchk i (pc, n, .ldc k, A, B, C) = true) (hn : zHn i X R n nx) (hJ : zHJ i X R J) (h : zstep X R nx J pc (.ldc k) A B C L st σ) : zRuns i X R pc L st σ := by
  obtain ⟨hdg, hnx, hax⟩ := zchk_ok hc
  simp only [zlen] at hdg hnx
  subst hnx
  simp only [zstep] at h
  intro hw hL hs p l e s m args below meth c D ad ct AA H locs ls cells slots Q fx en wo lo
  have fx0 := fx
  obtain ⟨hx, hb, hml, hown, hts, hK, hnw, hA, hce, hsl, hsc⟩ := fx
  simp only [zaux, decide_eq_true_eq] at hax
  have hk := zkc_ok _ hax
  refine lv_ldc hx hb hown (hts _ hk.1) hdg ?_
  exact hn _ _ _ h hw hL (zs2 hk.2 hs) p l e s m args below meth c D ad ct AA H locs ls cells slots Q fx0 en wo lo
set_option maxHeartbeats 1000000 in
theorem zs_ldc_w {k : Nat} (hc : zchk i (pc, n, .ldc_w k, A, B, C) = true) (hn : zHn i X R n nx) (hJ : zHJ i X R J) (h : zstep X R nx J pc (.ldc_w k) A B C L st σ) : zRuns i X R pc L st σ := by
  obtain ⟨hdg, hnx, hax⟩ := zchk_ok hc
  simp only [zlen] at hdg hnx
  subst hnx
  simp only [zstep] at h
  intro hw hL hs p l e s m args below meth c D ad ct AA H locs ls cells slots Q fx en wo lo
  have fx0 := fx
  obtain ⟨hx, hb, hml, hown, hts, hK, hnw, hA, hce, hsl, hsc⟩ := fx
  simp only [zaux, decide_eq_true_eq] at hax
  have hk := zkc_ok _ hax
  refine lv_ldcw hx hb hown (hts _ hk.1) hdg ?_
  exact hn _ _ _ h hw hL (zs2 hk.2 hs) p l e s m args below meth c D ad ct AA H locs ls cells slots Q fx0 en wo lo
set_option maxHeartbeats 1000000 in
theorem zs_ldc2_w {k : Nat} (hc : zchk i (pc, n, .ldc2_w k, A, B, C) = true) (hn : zHn i X R n nx) (hJ : zHJ i X R J) (h : zstep X R nx J pc (.ldc2_w k) A B C L st σ) : zRuns i X R pc L st σ := by
  obtain ⟨hdg, hnx, hax⟩ := zchk_ok hc
  simp only [zlen] at hdg hnx
  subst hnx
  simp only [zstep] at h
  intro hw hL hs p l e s m args below meth c D ad ct AA H locs ls cells slots Q fx en wo lo
  have fx0 := fx
  obtain ⟨hx, hb, hml, hown, hts, hK, hnw, hA, hce, hsl, hsc⟩ := fx
  simp only [zaux, decide_eq_true_eq] at hax
  have hk := zkL_ok _ hax
  refine lv_ldc2 hx hb hown (hts _ hk.1) hdg ?_
  exact hn _ _ _ h hw hL (zs2 (v := .inr (.inl C)) hk.2 hs) p l e s m args below meth c D ad ct AA H locs ls cells slots Q fx0 en wo lo
set_option maxHeartbeats 1000000 in
theorem zs_lconst {k : Fin 2} (hc : zchk i (pc, n, .lconst k, A, B, C) = true) (hn : zHn i X R n nx) (hJ : zHJ i X R J) (h : zstep X R nx J pc (.lconst k) A B C L st σ) : zRuns i X R pc L st σ := by
  obtain ⟨hdg, hnx, hax⟩ := zchk_ok hc
  simp only [zlen] at hdg hnx
  subst hnx
  simp only [zstep] at h
  intro hw hL hs p l e s m args below meth c D ad ct AA H locs ls cells slots Q fx en wo lo
  have fx0 := fx
  obtain ⟨hx, hb, hml, hown, hts, hK, hnw, hA, hce, hsl, hsc⟩ := fx
  simp only [zaux, Bool.and_eq_true, decide_eq_true_eq] at hax
  refine lv_lconst hx hb hdg hax.1 ?_
  exact hn _ _ _ h hw hL (zs2 (v := .inr (.inl C)) (zIJ (zIb_ok hax.2)) hs) p l e s m args below meth c D ad ct AA H locs ls cells slots Q fx0 en wo lo
set_option maxHeartbeats 1000000 in
theorem zs_iinc {j : Nat} {k : Int} (hc : zchk i (pc, n, .iinc j k, A, B, C) = true) (hn : zHn i X R n nx) (hJ : zHJ i X R J) (h : zstep X R nx J pc (.iinc j k) A B C L st σ) : zRuns i X R pc L st σ := by
  obtain ⟨hdg, hnx, hax⟩ := zchk_ok hc
  simp only [zlen] at hdg hnx
  subst hnx
  simp only [zstep] at h
  intro hw hL hs p l e s m args below meth c D ad ct AA H locs ls cells slots Q fx en wo lo
  have fx0 := fx
  obtain ⟨hx, hb, hml, hown, hts, hK, hnw, hA, hce, hsl, hsc⟩ := fx
  simp only [zaux, Bool.and_eq_true, decide_eq_true_eq] at hax
  obtain ⟨⟨rfl, rfl⟩, hlt⟩ := hax
  split at h
  next v hv =>
    obtain ⟨q, hq⟩ := List.getElem?_of_mem (zlv_mem (ad := ad) hv)
    refine lv_iinc (v := Int32.ofInt (v + k)) hx hb hdg lo.has hq (by rw [Int32.ofInt_add]) hlt rfl (fun ls h8 => ?_)
    exact hn _ _ _ h.2 hw (zLok1 (v := .inl (v + k)) hL h.1) hs p l e s m args below meth c D ad ct AA H locs ls cells slots Q fx0 en wo (zLo.st1 (v := .inl (v + k)) h8)
  next => exact h.elim
set_option maxHeartbeats 1000000 in
theorem zs_iadd (hc : zchk i (pc, n, .iadd, A, B, C) = true) (hn : zHn i X R n nx) (hJ : zHJ i X R J) (h : zstep X R nx J pc (.iadd) A B C L st σ) : zRuns i X R pc L st σ := by
  obtain ⟨hdg, hnx, hax⟩ := zchk_ok hc
  simp only [zlen] at hdg hnx
  subst hnx
  simp only [zstep] at h
  intro hw hL hs p l e s m args below meth c D ad ct AA H locs ls cells slots Q fx en wo lo
  have fx0 := fx
  obtain ⟨hx, hb, hml, hown, hts, hK, hnw, hA, hce, hsl, hsc⟩ := fx
  split at h
  next y x st =>
    refine lv_iadd hx hb hdg ?_
    rw [← Int32.ofInt_add]
    exact hn _ _ _ h.2 hw hL (zs2 (v := .inl _) h.1 (zs1 (zs1 hs).2).2) p l e s m args below meth c D ad ct AA H locs ls cells slots Q fx0 en wo lo
  next => exact h.elim
set_option maxHeartbeats 1000000 in
theorem zs_isub (hc : zchk i (pc, n, .isub, A, B, C) = true) (hn : zHn i X R n nx) (hJ : zHJ i X R J) (h : zstep X R nx J pc (.isub) A B C L st σ) : zRuns i X R pc L st σ := by
  obtain ⟨hdg, hnx, hax⟩ := zchk_ok hc
  simp only [zlen] at hdg hnx
  subst hnx
  simp only [zstep] at h
  intro hw hL hs p l e s m args below meth c D ad ct AA H locs ls cells slots Q fx en wo lo
  have fx0 := fx
  obtain ⟨hx, hb, hml, hown, hts, hK, hnw, hA, hce, hsl, hsc⟩ := fx
  split at h
  next y x st =>
    refine lv_isub hx hb hdg ?_
    rw [← Int32.ofInt_sub]
    exact hn _ _ _ h.2 hw hL (zs2 (v := .inl _) h.1 (zs1 (zs1 hs).2).2) p l e s m args below meth c D ad ct AA H locs ls cells slots Q fx0 en wo lo
  next => exact h.elim
set_option maxHeartbeats 1000000 in
theorem zs_imul (hc : zchk i (pc, n, .imul, A, B, C) = true) (hn : zHn i X R n nx) (hJ : zHJ i X R J) (h : zstep X R nx J pc (.imul) A B C L st σ) : zRuns i X R pc L st σ := by
  obtain ⟨hdg, hnx, hax⟩ := zchk_ok hc
  simp only [zlen] at hdg hnx
  subst hnx
  simp only [zstep] at h
  intro hw hL hs p l e s m args below meth c D ad ct AA H locs ls cells slots Q fx en wo lo
  have fx0 := fx
  obtain ⟨hx, hb, hml, hown, hts, hK, hnw, hA, hce, hsl, hsc⟩ := fx
  split at h
  next y x st =>
    refine lv_imul hx hb hdg ?_
    rw [← Int32.ofInt_mul]
    exact hn _ _ _ h.2 hw hL (zs2 (v := .inl _) h.1 (zs1 (zs1 hs).2).2) p l e s m args below meth c D ad ct AA H locs ls cells slots Q fx0 en wo lo
  next => exact h.elim
set_option maxHeartbeats 1000000 in
theorem zs_idiv (hc : zchk i (pc, n, .idiv, A, B, C) = true) (hn : zHn i X R n nx) (hJ : zHJ i X R J) (h : zstep X R nx J pc (.idiv) A B C L st σ) : zRuns i X R pc L st σ := by
  obtain ⟨hdg, hnx, hax⟩ := zchk_ok hc
  simp only [zlen] at hdg hnx
  subst hnx
  simp only [zstep] at h
  intro hw hL hs p l e s m args below meth c D ad ct AA H locs ls cells slots Q fx en wo lo
  have fx0 := fx
  obtain ⟨hx, hb, hml, hown, hts, hK, hnw, hA, hce, hsl, hsc⟩ := fx
  split at h
  next y x st =>
    have hy : zI y := (zs1 hs).1
    have hx' : zI x := (zs1 (zs1 hs).2).1
    have hq := zIdiv hx' hy h.1.1 h.1.2
    refine lv_idiv hx hb hdg (fun q => by have := (zeq0 hy).mp q; have := h.1.2; omega) ?_
    rw [hq.1]
    exact hn _ _ _ h.2 hw hL (zs2 (v := .inl _) hq.2 (zs1 (zs1 hs).2).2) p l e s m args below meth c D ad ct AA H locs ls cells slots Q fx0 en wo lo
  next => exact h.elim
set_option maxHeartbeats 1000000 in
theorem zs_irem (hc : zchk i (pc, n, .irem, A, B, C) = true) (hn : zHn i X R n nx) (hJ : zHJ i X R J) (h : zstep X R nx J pc (.irem) A B C L st σ) : zRuns i X R pc L st σ := by
  obtain ⟨hdg, hnx, hax⟩ := zchk_ok hc
  simp only [zlen] at hdg hnx
  subst hnx
  simp only [zstep] at h
  intro hw hL hs p l e s m args below meth c D ad ct AA H locs ls cells slots Q fx en wo lo
  have fx0 := fx
  obtain ⟨hx, hb, hml, hown, hts, hK, hnw, hA, hce, hsl, hsc⟩ := fx
  split at h
  next y x st =>
    have hy : zI y := (zs1 hs).1
    have hx' : zI x := (zs1 (zs1 hs).2).1
    have hq := zIrem hx' hy h.1.1 h.1.2
    refine lv_irem hx hb hdg (fun q => by have := (zeq0 hy).mp q; have := h.1.2; omega) ?_
    rw [hq.1]
    exact hn _ _ _ h.2 hw hL (zs2 (v := .inl _) hq.2 (zs1 (zs1 hs).2).2) p l e s m args below meth c D ad ct AA H locs ls cells slots Q fx0 en wo lo
  next => exact h.elim
set_option maxHeartbeats 1000000 in
theorem zs_ineg (hc : zchk i (pc, n, .ineg, A, B, C) = true) (hn : zHn i X R n nx) (hJ : zHJ i X R J) (h : zstep X R nx J pc (.ineg) A B C L st σ) : zRuns i X R pc L st σ := by
  obtain ⟨hdg, hnx, hax⟩ := zchk_ok hc
  simp only [zlen] at hdg hnx
  subst hnx
  simp only [zstep] at h
  intro hw hL hs p l e s m args below meth c D ad ct AA H locs ls cells slots Q fx en wo lo
  have fx0 := fx
  obtain ⟨hx, hb, hml, hown, hts, hK, hnw, hA, hce, hsl, hsc⟩ := fx
  split at h
  next x st =>
    refine lv_ineg hx hb hdg ?_
    rw [← Int32.ofInt_neg]
    exact hn _ _ _ h.2 hw hL (zs2 (v := .inl _) h.1 (zs1 hs).2) p l e s m args below meth c D ad ct AA H locs ls cells slots Q fx0 en wo lo
  next => exact h.elim
set_option maxHeartbeats 1000000 in
theorem zs_iand (hc : zchk i (pc, n, .iand, A, B, C) = true) (hn : zHn i X R n nx) (hJ : zHJ i X R J) (h : zstep X R nx J pc (.iand) A B C L st σ) : zRuns i X R pc L st σ := by
  obtain ⟨hdg, hnx, hax⟩ := zchk_ok hc
  simp only [zlen] at hdg hnx
  subst hnx
  simp only [zstep] at h
  intro hw hL hs p l e s m args below meth c D ad ct AA H locs ls cells slots Q fx en wo lo
  have fx0 := fx
  obtain ⟨hx, hb, hml, hown, hts, hK, hnw, hA, hce, hsl, hsc⟩ := fx
  split at h
  next y x st =>
    refine lv_iand hx hb hdg ?_
    rw [← Int32.ofInt_toInt (Int32.ofInt x &&& Int32.ofInt y)]
    exact hn _ _ _ h hw hL (zs2 (v := .inl _) (zI_of _) (zs1 (zs1 hs).2).2) p l e s m args below meth c D ad ct AA H locs ls cells slots Q fx0 en wo lo
  next => exact h.elim
set_option maxHeartbeats 1000000 in
theorem zs_i2b (hc : zchk i (pc, n, .i2b, A, B, C) = true) (hn : zHn i X R n nx) (hJ : zHJ i X R J) (h : zstep X R nx J pc (.i2b) A B C L st σ) : zRuns i X R pc L st σ := by
  obtain ⟨hdg, hnx, hax⟩ := zchk_ok hc
  simp only [zlen] at hdg hnx
  subst hnx
  simp only [zstep] at h
  intro hw hL hs p l e s m args below meth c D ad ct AA H locs ls cells slots Q fx en wo lo
  have fx0 := fx
  obtain ⟨hx, hb, hml, hown, hts, hK, hnw, hA, hce, hsl, hsc⟩ := fx
  split at h
  next x st =>
    refine lv_i2b hx hb hdg (v := Int32.ofInt ((Int32.ofInt x).toInt8.toInt32.toInt)) (by rw [Int32.ofInt_toInt]) ?_
    exact hn _ _ _ h hw hL (zs2 (v := .inl _) (zI_of _) (zs1 hs).2) p l e s m args below meth c D ad ct AA H locs ls cells slots Q fx0 en wo lo
  next => exact h.elim
set_option maxHeartbeats 1000000 in
theorem zs_i2s (hc : zchk i (pc, n, .i2s, A, B, C) = true) (hn : zHn i X R n nx) (hJ : zHJ i X R J) (h : zstep X R nx J pc (.i2s) A B C L st σ) : zRuns i X R pc L st σ := by
  obtain ⟨hdg, hnx, hax⟩ := zchk_ok hc
  simp only [zlen] at hdg hnx
  subst hnx
  simp only [zstep] at h
  intro hw hL hs p l e s m args below meth c D ad ct AA H locs ls cells slots Q fx en wo lo
  have fx0 := fx
  obtain ⟨hx, hb, hml, hown, hts, hK, hnw, hA, hce, hsl, hsc⟩ := fx
  split at h
  next x st =>
    refine lv_i2s hx hb hdg (v := Int32.ofInt ((Int32.ofInt x).toInt16.toInt32.toInt)) (by rw [Int32.ofInt_toInt]) ?_
    exact hn _ _ _ h hw hL (zs2 (v := .inl _) (zI_of _) (zs1 hs).2) p l e s m args below meth c D ad ct AA H locs ls cells slots Q fx0 en wo lo
  next => exact h.elim
set_option maxHeartbeats 1000000 in
theorem zs_i2l (hc : zchk i (pc, n, .i2l, A, B, C) = true) (hn : zHn i X R n nx) (hJ : zHJ i X R J) (h : zstep X R nx J pc (.i2l) A B C L st σ) : zRuns i X R pc L st σ := by
  obtain ⟨hdg, hnx, hax⟩ := zchk_ok hc
  simp only [zlen] at hdg hnx
  subst hnx
  simp only [zstep] at h
  intro hw hL hs p l e s m args below meth c D ad ct AA H locs ls cells slots Q fx en wo lo
  have fx0 := fx
  obtain ⟨hx, hb, hml, hown, hts, hK, hnw, hA, hce, hsl, hsc⟩ := fx
  split at h
  next x st =>
    refine lv_i2l hx hb hdg (zi2l (zs1 hs).1) ?_
    exact hn _ _ _ h hw hL (zs2 (v := .inr (.inl _)) (zIJ (zs1 hs).1) (zs1 hs).2) p l e s m args below meth c D ad ct AA H locs ls cells slots Q fx0 en wo lo
  next => exact h.elim
set_option maxHeartbeats 1000000 in
theorem zs_l2i (hc : zchk i (pc, n, .l2i, A, B, C) = true) (hn : zHn i X R n nx) (hJ : zHJ i X R J) (h : zstep X R nx J pc (.l2i) A B C L st σ) : zRuns i X R pc L st σ := by
  obtain ⟨hdg, hnx, hax⟩ := zchk_ok hc
  simp only [zlen] at hdg hnx
  subst hnx
  simp only [zstep] at h
  intro hw hL hs p l e s m args below meth c D ad ct AA H locs ls cells slots Q fx en wo lo
  have fx0 := fx
  obtain ⟨hx, hb, hml, hown, hts, hK, hnw, hA, hce, hsl, hsc⟩ := fx
  split at h
  next x st =>
    refine lv_l2i hx hb hdg (zl2i h.1) ?_
    exact hn _ _ _ h.2 hw hL (zs2 (v := .inl _) h.1 (zs1 hs).2) p l e s m args below meth c D ad ct AA H locs ls cells slots Q fx0 en wo lo
  next => exact h.elim
set_option maxHeartbeats 1000000 in
theorem zs_ladd (hc : zchk i (pc, n, .ladd, A, B, C) = true) (hn : zHn i X R n nx) (hJ : zHJ i X R J) (h : zstep X R nx J pc (.ladd) A B C L st σ) : zRuns i X R pc L st σ := by
  obtain ⟨hdg, hnx, hax⟩ := zchk_ok hc
  simp only [zlen] at hdg hnx
  subst hnx
  simp only [zstep] at h
  intro hw hL hs p l e s m args below meth c D ad ct AA H locs ls cells slots Q fx en wo lo
  have fx0 := fx
  obtain ⟨hx, hb, hml, hown, hts, hK, hnw, hA, hce, hsl, hsc⟩ := fx
  split at h
  next y x st =>
    have hy : zJ y := (zs1 hs).1
    have hx' : zJ x := (zs1 (zs1 hs).2).1
    refine lv_ladd hx hb hdg ?_
    rw [zJadd hx' hy h.1]
    exact hn _ _ _ h.2 hw hL (zs2 (v := .inr (.inl _)) h.1 (zs1 (zs1 hs).2).2) p l e s m args below meth c D ad ct AA H locs ls cells slots Q fx0 en wo lo
  next => exact h.elim
set_option maxHeartbeats 1000000 in
theorem zs_lmul (hc : zchk i (pc, n, .lmul, A, B, C) = true) (hn : zHn i X R n nx) (hJ : zHJ i X R J) (h : zstep X R nx J pc (.lmul) A B C L st σ) : zRuns i X R pc L st σ := by
  obtain ⟨hdg, hnx, hax⟩ := zchk_ok hc
  simp only [zlen] at hdg hnx
  subst hnx
  simp only [zstep] at h
  intro hw hL hs p l e s m args below meth c D ad ct AA H locs ls cells slots Q fx en wo lo
  have fx0 := fx
  obtain ⟨hx, hb, hml, hown, hts, hK, hnw, hA, hce, hsl, hsc⟩ := fx
  split at h
  next y x st =>
    have hy : zJ y := (zs1 hs).1
    have hx' : zJ x := (zs1 (zs1 hs).2).1
    refine lv_lmul hx hb hdg ?_
    rw [zJmul hx' hy h.1]
    exact hn _ _ _ h.2 hw hL (zs2 (v := .inr (.inl _)) h.1 (zs1 (zs1 hs).2).2) p l e s m args below meth c D ad ct AA H locs ls cells slots Q fx0 en wo lo
  next => exact h.elim
set_option maxHeartbeats 1000000 in
theorem zs_land (hc : zchk i (pc, n, .land, A, B, C) = true) (hn : zHn i X R n nx) (hJ : zHJ i X R J) (h : zstep X R nx J pc (.land) A B C L st σ) : zRuns i X R pc L st σ := by
  obtain ⟨hdg, hnx, hax⟩ := zchk_ok hc
  simp only [zlen] at hdg hnx
  subst hnx
  simp only [zstep] at h
  intro hw hL hs p l e s m args below meth c D ad ct AA H locs ls cells slots Q fx en wo lo
  have fx0 := fx
  obtain ⟨hx, hb, hml, hown, hts, hK, hnw, hA, hce, hsl, hsc⟩ := fx
  split at h
  next y x st =>
    refine lv_land hx hb hdg ?_
    rw [← Int64.ofInt_toInt (Int64.ofInt x &&& Int64.ofInt y)]
    exact hn _ _ _ h hw hL (zs2 (v := .inr (.inl _)) (zJ_of _) (zs1 (zs1 hs).2).2) p l e s m args below meth c D ad ct AA H locs ls cells slots Q fx0 en wo lo
  next => exact h.elim
set_option maxHeartbeats 1000000 in
theorem zs_lor (hc : zchk i (pc, n, .lor, A, B, C) = true) (hn : zHn i X R n nx) (hJ : zHJ i X R J) (h : zstep X R nx J pc (.lor) A B C L st σ) : zRuns i X R pc L st σ := by
  obtain ⟨hdg, hnx, hax⟩ := zchk_ok hc
  simp only [zlen] at hdg hnx
  subst hnx
  simp only [zstep] at h
  intro hw hL hs p l e s m args below meth c D ad ct AA H locs ls cells slots Q fx en wo lo
  have fx0 := fx
  obtain ⟨hx, hb, hml, hown, hts, hK, hnw, hA, hce, hsl, hsc⟩ := fx
  split at h
  next y x st =>
    refine lv_lor hx hb hdg ?_
    rw [← Int64.ofInt_toInt (Int64.ofInt x ||| Int64.ofInt y)]
    exact hn _ _ _ h hw hL (zs2 (v := .inr (.inl _)) (zJ_of _) (zs1 (zs1 hs).2).2) p l e s m args below meth c D ad ct AA H locs ls cells slots Q fx0 en wo lo
  next => exact h.elim
set_option maxHeartbeats 1000000 in
theorem zs_lshl (hc : zchk i (pc, n, .lshl, A, B, C) = true) (hn : zHn i X R n nx) (hJ : zHJ i X R J) (h : zstep X R nx J pc (.lshl) A B C L st σ) : zRuns i X R pc L st σ := by
  obtain ⟨hdg, hnx, hax⟩ := zchk_ok hc
  simp only [zlen] at hdg hnx
  subst hnx
  simp only [zstep] at h
  intro hw hL hs p l e s m args below meth c D ad ct AA H locs ls cells slots Q fx en wo lo
  have fx0 := fx
  obtain ⟨hx, hb, hml, hown, hts, hK, hnw, hA, hce, hsl, hsc⟩ := fx
  split at h
  next y x st =>
    refine lv_lshl hx hb hdg (Int64.ofInt_toInt _).symm ?_
    exact hn _ _ _ h hw hL (zs2 (v := .inr (.inl _)) (zJ_of _) (zs1 (zs1 hs).2).2) p l e s m args below meth c D ad ct AA H locs ls cells slots Q fx0 en wo lo
  next => exact h.elim
set_option maxHeartbeats 1000000 in
theorem zs_lshr (hc : zchk i (pc, n, .lshr, A, B, C) = true) (hn : zHn i X R n nx) (hJ : zHJ i X R J) (h : zstep X R nx J pc (.lshr) A B C L st σ) : zRuns i X R pc L st σ := by
  obtain ⟨hdg, hnx, hax⟩ := zchk_ok hc
  simp only [zlen] at hdg hnx
  subst hnx
  simp only [zstep] at h
  intro hw hL hs p l e s m args below meth c D ad ct AA H locs ls cells slots Q fx en wo lo
  have fx0 := fx
  obtain ⟨hx, hb, hml, hown, hts, hK, hnw, hA, hce, hsl, hsc⟩ := fx
  split at h
  next y x st =>
    refine lv_lshr hx hb hdg (Int64.ofInt_toInt _).symm ?_
    exact hn _ _ _ h hw hL (zs2 (v := .inr (.inl _)) (zJ_of _) (zs1 (zs1 hs).2).2) p l e s m args below meth c D ad ct AA H locs ls cells slots Q fx0 en wo lo
  next => exact h.elim
set_option maxHeartbeats 1000000 in
theorem zs_lushr (hc : zchk i (pc, n, .lushr, A, B, C) = true) (hn : zHn i X R n nx) (hJ : zHJ i X R J) (h : zstep X R nx J pc (.lushr) A B C L st σ) : zRuns i X R pc L st σ := by
  obtain ⟨hdg, hnx, hax⟩ := zchk_ok hc
  simp only [zlen] at hdg hnx
  subst hnx
  simp only [zstep] at h
  intro hw hL hs p l e s m args below meth c D ad ct AA H locs ls cells slots Q fx en wo lo
  have fx0 := fx
  obtain ⟨hx, hb, hml, hown, hts, hK, hnw, hA, hce, hsl, hsc⟩ := fx
  split at h
  next y x st =>
    refine lv_lushr hx hb hdg (Int64.ofInt_toInt _).symm ?_
    exact hn _ _ _ h hw hL (zs2 (v := .inr (.inl _)) (zJ_of _) (zs1 (zs1 hs).2).2) p l e s m args below meth c D ad ct AA H locs ls cells slots Q fx0 en wo lo
  next => exact h.elim
set_option maxHeartbeats 1000000 in
theorem zs_lcmp (hc : zchk i (pc, n, .lcmp, A, B, C) = true) (hn : zHn i X R n nx) (hJ : zHJ i X R J) (h : zstep X R nx J pc (.lcmp) A B C L st σ) : zRuns i X R pc L st σ := by
  obtain ⟨hdg, hnx, hax⟩ := zchk_ok hc
  simp only [zlen] at hdg hnx
  subst hnx
  simp only [zstep] at h
  intro hw hL hs p l e s m args below meth c D ad ct AA H locs ls cells slots Q fx en wo lo
  have fx0 := fx
  obtain ⟨hx, hb, hml, hown, hts, hK, hnw, hA, hce, hsl, hsc⟩ := fx
  split at h
  next y x st =>
    have hq := zcmp_lg (x := x) (y := y) (zs1 (zs1 hs).2).1 (zs1 hs).1
    refine W.lcmp hx hb hdg ?_
    rw [hq.1]
    exact hn _ _ _ h hw hL (zs2 (v := .inl _) hq.2 (zs1 (zs1 hs).2).2) p l e s m args below meth c D ad ct AA H locs ls cells slots Q fx0 en wo lo
  next => exact h.elim
set_option maxHeartbeats 1000000 in
theorem zs_dup (hc : zchk i (pc, n, .dup, A, B, C) = true) (hn : zHn i X R n nx) (hJ : zHJ i X R J) (h : zstep X R nx J pc (.dup) A B C L st σ) : zRuns i X R pc L st σ := by
  obtain ⟨hdg, hnx, hax⟩ := zchk_ok hc
  simp only [zlen] at hdg hnx
  subst hnx
  simp only [zstep] at h
  intro hw hL hs p l e s m args below meth c D ad ct AA H locs ls cells slots Q fx en wo lo
  have fx0 := fx
  obtain ⟨hx, hb, hml, hown, hts, hK, hnw, hA, hce, hsl, hsc⟩ := fx
  split at h
  next x st =>
    refine lv_dup hx hb hdg rfl ?_
    exact hn _ _ _ h hw hL (zs2 (zs1 hs).1 hs) p l e s m args below meth c D ad ct AA H locs ls cells slots Q fx0 en wo lo
  next x st =>
    refine lv_dup hx hb hdg rfl ?_
    exact hn _ _ _ h hw hL (zs2 (zs1 hs).1 hs) p l e s m args below meth c D ad ct AA H locs ls cells slots Q fx0 en wo lo
  next => exact h.elim
set_option maxHeartbeats 1000000 in
theorem zs_dup2 (hc : zchk i (pc, n, .dup2, A, B, C) = true) (hn : zHn i X R n nx) (hJ : zHJ i X R J) (h : zstep X R nx J pc (.dup2) A B C L st σ) : zRuns i X R pc L st σ := by
  obtain ⟨hdg, hnx, hax⟩ := zchk_ok hc
  simp only [zlen] at hdg hnx
  subst hnx
  simp only [zstep] at h
  intro hw hL hs p l e s m args below meth c D ad ct AA H locs ls cells slots Q fx en wo lo
  have fx0 := fx
  obtain ⟨hx, hb, hml, hown, hts, hK, hnw, hA, hce, hsl, hsc⟩ := fx
  split at h
  next y x st =>
    refine lv_dup2_11 hx hb hdg rfl rfl ?_
    exact hn _ _ _ h hw hL (zs2 (zs1 hs).1 (zs2 (zs1 (zs1 hs).2).1 hs)) p l e s m args below meth c D ad ct AA H locs ls cells slots Q fx0 en wo lo
  next => exact h.elim
set_option maxHeartbeats 1000000 in
theorem zs_pop (hc : zchk i (pc, n, .pop, A, B, C) = true) (hn : zHn i X R n nx) (hJ : zHJ i X R J) (h : zstep X R nx J pc (.pop) A B C L st σ) : zRuns i X R pc L st σ := by
  obtain ⟨hdg, hnx, hax⟩ := zchk_ok hc
  simp only [zlen] at hdg hnx
  subst hnx
  simp only [zstep] at h
  intro hw hL hs p l e s m args below meth c D ad ct AA H locs ls cells slots Q fx en wo lo
  have fx0 := fx
  obtain ⟨hx, hb, hml, hown, hts, hK, hnw, hA, hce, hsl, hsc⟩ := fx
  split at h
  next y st =>
    refine lv_pop hx hb hdg rfl ?_
    exact hn _ _ _ h hw hL (zs1 hs).2 p l e s m args below meth c D ad ct AA H locs ls cells slots Q fx0 en wo lo
  next => exact h.elim
set_option maxHeartbeats 1000000 in
theorem zs_goto {off : Int} (hc : zchk i (pc, n, .goto off, A, B, C) = true) (hn : zHn i X R n nx) (hJ : zHJ i X R J) (h : zstep X R nx J pc (.goto off) A B C L st σ) : zRuns i X R pc L st σ := by
  obtain ⟨hdg, hnx, hax⟩ := zchk_ok hc
  simp only [zlen] at hdg hnx
  subst hnx
  simp only [zstep] at h
  intro hw hL hs p l e s m args below meth c D ad ct AA H locs ls cells slots Q fx en wo lo
  have fx0 := fx
  obtain ⟨hx, hb, hml, hown, hts, hK, hnw, hA, hce, hsl, hsc⟩ := fx
  simp only [zaux, decide_eq_true_eq] at hax
  refine lv_goto hx hb hdg hax ?_
  exact hJ _ _ _ _ h hw hL hs p l e s m args below meth c D ad ct AA H locs ls cells slots Q fx0 en wo lo
set_option maxHeartbeats 1000000 in
theorem zs_if_eq {off : Int} (hc : zchk i (pc, n, .ifCond .eq off, A, B, C) = true) (hn : zHn i X R n nx) (hJ : zHJ i X R J) (h : zstep X R nx J pc (.ifCond .eq off) A B C L st σ) : zRuns i X R pc L st σ := by
  obtain ⟨hdg, hnx, hax⟩ := zchk_ok hc
  simp only [zlen] at hdg hnx
  subst hnx
  simp only [zstep] at h
  intro hw hL hs p l e s m args below meth c D ad ct AA H locs ls cells slots Q fx en wo lo
  have fx0 := fx
  obtain ⟨hx, hb, hml, hown, hts, hK, hnw, hA, hce, hsl, hsc⟩ := fx
  simp only [zaux, decide_eq_true_eq] at hax
  split at h
  next x st =>
    have hX : zI x := (zs1 hs).1
    refine lv_if_eq hx hb hdg hax (fun q => ?_) (fun q => ?_)
    · exact hJ _ _ _ _ (h.1 ((zeq0 hX).mp q)) hw hL (zs1 hs).2 p l e s m args below meth c D ad ct AA H locs ls cells slots Q fx0 en wo lo
    · exact hn _ _ _ (h.2 (fun z => q ((zeq0 hX).mpr z))) hw hL (zs1 hs).2 p l e s m args below meth c D ad ct AA H locs ls cells slots Q fx0 en wo lo
  next => exact h.elim
set_option maxHeartbeats 1000000 in
theorem zs_icmp_eq {off : Int} (hc : zchk i (pc, n, .if_icmp .eq off, A, B, C) = true) (hn : zHn i X R n nx) (hJ : zHJ i X R J) (h : zstep X R nx J pc (.if_icmp .eq off) A B C L st σ) : zRuns i X R pc L st σ := by
  obtain ⟨hdg, hnx, hax⟩ := zchk_ok hc
  simp only [zlen] at hdg hnx
  subst hnx
  simp only [zstep] at h
  intro hw hL hs p l e s m args below meth c D ad ct AA H locs ls cells slots Q fx en wo lo
  have fx0 := fx
  obtain ⟨hx, hb, hml, hown, hts, hK, hnw, hA, hce, hsl, hsc⟩ := fx
  simp only [zaux, decide_eq_true_eq] at hax
  split at h
  next y x st =>
    have hY : zI y := (zs1 hs).1
    have hX : zI x := (zs1 (zs1 hs).2).1
    refine lv_icmp_eq hx hb hdg hax (fun q => ?_) (fun q => ?_)
    · exact hJ _ _ _ _ (h.1 ((zeq hX hY).mp q)) hw hL (zs1 (zs1 hs).2).2 p l e s m args below meth c D ad ct AA H locs ls cells slots Q fx0 en wo lo
    · exact hn _ _ _ (h.2 (fun z => q ((zeq hX hY).mpr z))) hw hL (zs1 (zs1 hs).2).2 p l e s m args below meth c D ad ct AA H locs ls cells slots Q fx0 en wo lo
  next => exact h.elim
set_option maxHeartbeats 1000000 in
theorem zs_if_ne {off : Int} (hc : zchk i (pc, n, .ifCond .ne off, A, B, C) = true) (hn : zHn i X R n nx) (hJ : zHJ i X R J) (h : zstep X R nx J pc (.ifCond .ne off) A B C L st σ) : zRuns i X R pc L st σ := by
  obtain ⟨hdg, hnx, hax⟩ := zchk_ok hc
  simp only [zlen] at hdg hnx
  subst hnx
  simp only [zstep] at h
  intro hw hL hs p l e s m args below meth c D ad ct AA H locs ls cells slots Q fx en wo lo
  have fx0 := fx
  obtain ⟨hx, hb, hml, hown, hts, hK, hnw, hA, hce, hsl, hsc⟩ := fx
  simp only [zaux, decide_eq_true_eq] at hax
  split at h
  next x st =>
    have hX : zI x := (zs1 hs).1
    refine lv_if_ne hx hb hdg hax (fun q => ?_) (fun q => ?_)
    · exact hJ _ _ _ _ (h.1 (fun z => q ((zeq0 hX).mpr z))) hw hL (zs1 hs).2 p l e s m args below meth c D ad ct AA H locs ls cells slots Q fx0 en wo lo
    · exact hn _ _ _ (h.2 ((zeq0 hX).mp q)) hw hL (zs1 hs).2 p l e s m args below meth c D ad ct AA H locs ls cells slots Q fx0 en wo lo
  next => exact h.elim
set_option maxHeartbeats 1000000 in
theorem zs_icmp_ne {off : Int} (hc : zchk i (pc, n, .if_icmp .ne off, A, B, C) = true) (hn : zHn i X R n nx) (hJ : zHJ i X R J) (h : zstep X R nx J pc (.if_icmp .ne off) A B C L st σ) : zRuns i X R pc L st σ := by
  obtain ⟨hdg, hnx, hax⟩ := zchk_ok hc
  simp only [zlen] at hdg hnx
  subst hnx
  simp only [zstep] at h
  intro hw hL hs p l e s m args below meth c D ad ct AA H locs ls cells slots Q fx en wo lo
  have fx0 := fx
  obtain ⟨hx, hb, hml, hown, hts, hK, hnw, hA, hce, hsl, hsc⟩ := fx
  simp only [zaux, decide_eq_true_eq] at hax
  split at h
  next y x st =>
    have hY : zI y := (zs1 hs).1
    have hX : zI x := (zs1 (zs1 hs).2).1
    refine lv_icmp_ne hx hb hdg hax (fun q => ?_) (fun q => ?_)
    · exact hJ _ _ _ _ (h.1 (fun z => q ((zeq hX hY).mpr z))) hw hL (zs1 (zs1 hs).2).2 p l e s m args below meth c D ad ct AA H locs ls cells slots Q fx0 en wo lo
    · exact hn _ _ _ (h.2 ((zeq hX hY).mp q)) hw hL (zs1 (zs1 hs).2).2 p l e s m args below meth c D ad ct AA H locs ls cells slots Q fx0 en wo lo
  next => exact h.elim
set_option maxHeartbeats 1000000 in
theorem zs_if_lt {off : Int} (hc : zchk i (pc, n, .ifCond .lt off, A, B, C) = true) (hn : zHn i X R n nx) (hJ : zHJ i X R J) (h : zstep X R nx J pc (.ifCond .lt off) A B C L st σ) : zRuns i X R pc L st σ := by
  obtain ⟨hdg, hnx, hax⟩ := zchk_ok hc
  simp only [zlen] at hdg hnx
  subst hnx
  simp only [zstep] at h
  intro hw hL hs p l e s m args below meth c D ad ct AA H locs ls cells slots Q fx en wo lo
  have fx0 := fx
  obtain ⟨hx, hb, hml, hown, hts, hK, hnw, hA, hce, hsl, hsc⟩ := fx
  simp only [zaux, decide_eq_true_eq] at hax
  split at h
  next x st =>
    have hX : zI x := (zs1 hs).1
    refine lv_if_lt hx hb hdg hax (fun q => ?_) (fun q => ?_)
    · exact hJ _ _ _ _ (h.1 ((zlt0 hX).mp q)) hw hL (zs1 hs).2 p l e s m args below meth c D ad ct AA H locs ls cells slots Q fx0 en wo lo
    · exact hn _ _ _ (h.2 (Int.not_lt.mp (fun z => q ((zlt0 hX).mpr z)))) hw hL (zs1 hs).2 p l e s m args below meth c D ad ct AA H locs ls cells slots Q fx0 en wo lo
  next => exact h.elim
set_option maxHeartbeats 1000000 in
theorem zs_icmp_lt {off : Int} (hc : zchk i (pc, n, .if_icmp .lt off, A, B, C) = true) (hn : zHn i X R n nx) (hJ : zHJ i X R J) (h : zstep X R nx J pc (.if_icmp .lt off) A B C L st σ) : zRuns i X R pc L st σ := by
  obtain ⟨hdg, hnx, hax⟩ := zchk_ok hc
  simp only [zlen] at hdg hnx
  subst hnx
  simp only [zstep] at h
  intro hw hL hs p l e s m args below meth c D ad ct AA H locs ls cells slots Q fx en wo lo
  have fx0 := fx
  obtain ⟨hx, hb, hml, hown, hts, hK, hnw, hA, hce, hsl, hsc⟩ := fx
  simp only [zaux, decide_eq_true_eq] at hax
  split at h
  next y x st =>
    have hY : zI y := (zs1 hs).1
    have hX : zI x := (zs1 (zs1 hs).2).1
    refine lv_icmp_lt hx hb hdg hax (fun q => ?_) (fun q => ?_)
    · exact hJ _ _ _ _ (h.1 ((zlt hX hY).mp q)) hw hL (zs1 (zs1 hs).2).2 p l e s m args below meth c D ad ct AA H locs ls cells slots Q fx0 en wo lo
    · exact hn _ _ _ (h.2 (Int.not_lt.mp (fun z => q ((zlt hX hY).mpr z)))) hw hL (zs1 (zs1 hs).2).2 p l e s m args below meth c D ad ct AA H locs ls cells slots Q fx0 en wo lo
  next => exact h.elim
set_option maxHeartbeats 1000000 in
theorem zs_if_ge {off : Int} (hc : zchk i (pc, n, .ifCond .ge off, A, B, C) = true) (hn : zHn i X R n nx) (hJ : zHJ i X R J) (h : zstep X R nx J pc (.ifCond .ge off) A B C L st σ) : zRuns i X R pc L st σ := by
  obtain ⟨hdg, hnx, hax⟩ := zchk_ok hc
  simp only [zlen] at hdg hnx
  subst hnx
  simp only [zstep] at h
  intro hw hL hs p l e s m args below meth c D ad ct AA H locs ls cells slots Q fx en wo lo
  have fx0 := fx
  obtain ⟨hx, hb, hml, hown, hts, hK, hnw, hA, hce, hsl, hsc⟩ := fx
  simp only [zaux, decide_eq_true_eq] at hax
  split at h
  next x st =>
    have hX : zI x := (zs1 hs).1
    refine lv_if_ge hx hb hdg hax (fun q => ?_) (fun q => ?_)
    · exact hJ _ _ _ _ (h.1 ((zge0 hX).mp q)) hw hL (zs1 hs).2 p l e s m args below meth c D ad ct AA H locs ls cells slots Q fx0 en wo lo
    · exact hn _ _ _ (h.2 (Int.not_le.mp (fun z => q ((zge0 hX).mpr z)))) hw hL (zs1 hs).2 p l e s m args below meth c D ad ct AA H locs ls cells slots Q fx0 en wo lo
  next => exact h.elim
set_option maxHeartbeats 1000000 in
theorem zs_icmp_ge {off : Int} (hc : zchk i (pc, n, .if_icmp .ge off, A, B, C) = true) (hn : zHn i X R n nx) (hJ : zHJ i X R J) (h : zstep X R nx J pc (.if_icmp .ge off) A B C L st σ) : zRuns i X R pc L st σ := by
  obtain ⟨hdg, hnx, hax⟩ := zchk_ok hc
  simp only [zlen] at hdg hnx
  subst hnx
  simp only [zstep] at h
  intro hw hL hs p l e s m args below meth c D ad ct AA H locs ls cells slots Q fx en wo lo
  have fx0 := fx
  obtain ⟨hx, hb, hml, hown, hts, hK, hnw, hA, hce, hsl, hsc⟩ := fx
  simp only [zaux, decide_eq_true_eq] at hax
  split at h
  next y x st =>
    have hY : zI y := (zs1 hs).1
    have hX : zI x := (zs1 (zs1 hs).2).1
    refine lv_icmp_ge hx hb hdg hax (fun q => ?_) (fun q => ?_)
    · exact hJ _ _ _ _ (h.1 ((zle hY hX).mp q)) hw hL (zs1 (zs1 hs).2).2 p l e s m args below meth c D ad ct AA H locs ls cells slots Q fx0 en wo lo
    · exact hn _ _ _ (h.2 (Int.not_le.mp (fun z => q ((zle hY hX).mpr z)))) hw hL (zs1 (zs1 hs).2).2 p l e s m args below meth c D ad ct AA H locs ls cells slots Q fx0 en wo lo
  next => exact h.elim
set_option maxHeartbeats 1000000 in
theorem zs_if_gt {off : Int} (hc : zchk i (pc, n, .ifCond .gt off, A, B, C) = true) (hn : zHn i X R n nx) (hJ : zHJ i X R J) (h : zstep X R nx J pc (.ifCond .gt off) A B C L st σ) : zRuns i X R pc L st σ := by
  obtain ⟨hdg, hnx, hax⟩ := zchk_ok hc
  simp only [zlen] at hdg hnx
  subst hnx
  simp only [zstep] at h
  intro hw hL hs p l e s m args below meth c D ad ct AA H locs ls cells slots Q fx en wo lo
  have fx0 := fx
  obtain ⟨hx, hb, hml, hown, hts, hK, hnw, hA, hce, hsl, hsc⟩ := fx
  simp only [zaux, decide_eq_true_eq] at hax
  split at h
  next x st =>
    have hX : zI x := (zs1 hs).1
    refine lv_if_gt hx hb hdg hax (fun q => ?_) (fun q => ?_)
    · exact hJ _ _ _ _ (h.1 ((zgt0 hX).mp q)) hw hL (zs1 hs).2 p l e s m args below meth c D ad ct AA H locs ls cells slots Q fx0 en wo lo
    · exact hn _ _ _ (h.2 (Int.not_lt.mp (fun z => q ((zgt0 hX).mpr z)))) hw hL (zs1 hs).2 p l e s m args below meth c D ad ct AA H locs ls cells slots Q fx0 en wo lo
  next => exact h.elim
set_option maxHeartbeats 1000000 in
theorem zs_icmp_gt {off : Int} (hc : zchk i (pc, n, .if_icmp .gt off, A, B, C) = true) (hn : zHn i X R n nx) (hJ : zHJ i X R J) (h : zstep X R nx J pc (.if_icmp .gt off) A B C L st σ) : zRuns i X R pc L st σ := by
  obtain ⟨hdg, hnx, hax⟩ := zchk_ok hc
  simp only [zlen] at hdg hnx
  subst hnx
  simp only [zstep] at h
  intro hw hL hs p l e s m args below meth c D ad ct AA H locs ls cells slots Q fx en wo lo
  have fx0 := fx
  obtain ⟨hx, hb, hml, hown, hts, hK, hnw, hA, hce, hsl, hsc⟩ := fx
  simp only [zaux, decide_eq_true_eq] at hax
  split at h
  next y x st =>
    have hY : zI y := (zs1 hs).1
    have hX : zI x := (zs1 (zs1 hs).2).1
    refine lv_icmp_gt hx hb hdg hax (fun q => ?_) (fun q => ?_)
    · exact hJ _ _ _ _ (h.1 ((zlt hY hX).mp q)) hw hL (zs1 (zs1 hs).2).2 p l e s m args below meth c D ad ct AA H locs ls cells slots Q fx0 en wo lo
    · exact hn _ _ _ (h.2 (Int.not_lt.mp (fun z => q ((zlt hY hX).mpr z)))) hw hL (zs1 (zs1 hs).2).2 p l e s m args below meth c D ad ct AA H locs ls cells slots Q fx0 en wo lo
  next => exact h.elim
set_option maxHeartbeats 1000000 in
theorem zs_if_le {off : Int} (hc : zchk i (pc, n, .ifCond .le off, A, B, C) = true) (hn : zHn i X R n nx) (hJ : zHJ i X R J) (h : zstep X R nx J pc (.ifCond .le off) A B C L st σ) : zRuns i X R pc L st σ := by
  obtain ⟨hdg, hnx, hax⟩ := zchk_ok hc
  simp only [zlen] at hdg hnx
  subst hnx
  simp only [zstep] at h
  intro hw hL hs p l e s m args below meth c D ad ct AA H locs ls cells slots Q fx en wo lo
  have fx0 := fx
  obtain ⟨hx, hb, hml, hown, hts, hK, hnw, hA, hce, hsl, hsc⟩ := fx
  simp only [zaux, decide_eq_true_eq] at hax
  split at h
  next x st =>
    have hX : zI x := (zs1 hs).1
    refine lv_if_le hx hb hdg hax (fun q => ?_) (fun q => ?_)
    · exact hJ _ _ _ _ (h.1 ((zle0 hX).mp q)) hw hL (zs1 hs).2 p l e s m args below meth c D ad ct AA H locs ls cells slots Q fx0 en wo lo
    · exact hn _ _ _ (h.2 (Int.not_le.mp (fun z => q ((zle0 hX).mpr z)))) hw hL (zs1 hs).2 p l e s m args below meth c D ad ct AA H locs ls cells slots Q fx0 en wo lo
  next => exact h.elim
set_option maxHeartbeats 1000000 in
theorem zs_icmp_le {off : Int} (hc : zchk i (pc, n, .if_icmp .le off, A, B, C) = true) (hn : zHn i X R n nx) (hJ : zHJ i X R J) (h : zstep X R nx J pc (.if_icmp .le off) A B C L st σ) : zRuns i X R pc L st σ := by
  obtain ⟨hdg, hnx, hax⟩ := zchk_ok hc
  simp only [zlen] at hdg hnx
  subst hnx
  simp only [zstep] at h
  intro hw hL hs p l e s m args below meth c D ad ct AA H locs ls cells slots Q fx en wo lo
  have fx0 := fx
  obtain ⟨hx, hb, hml, hown, hts, hK, hnw, hA, hce, hsl, hsc⟩ := fx
  simp only [zaux, decide_eq_true_eq] at hax
  split at h
  next y x st =>
    have hY : zI y := (zs1 hs).1
    have hX : zI x := (zs1 (zs1 hs).2).1
    refine lv_icmp_le hx hb hdg hax (fun q => ?_) (fun q => ?_)
    · exact hJ _ _ _ _ (h.1 ((zle hX hY).mp q)) hw hL (zs1 (zs1 hs).2).2 p l e s m args below meth c D ad ct AA H locs ls cells slots Q fx0 en wo lo
    · exact hn _ _ _ (h.2 (Int.not_le.mp (fun z => q ((zle hX hY).mpr z)))) hw hL (zs1 (zs1 hs).2).2 p l e s m args below meth c D ad ct AA H locs ls cells slots Q fx0 en wo lo
  next => exact h.elim
end ZS
