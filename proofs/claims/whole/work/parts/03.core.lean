/-! the quiet machine: numbers are Int, cells are numbered, a method's walk is a formula over a store -/
abbrev zV : Type := Int ⊕ (Int ⊕ (Nat × Int))
abbrev zS : Type := Nat → Int → Int
abbrev zL : Type := List (Option zV)
abbrev zX : Type := Int × (Int → Int)
abbrev zE : Type := Nat × Nat × Instr × Nat × Nat × Int
def znth {α : Type} : List α → Nat → Option α
  | [], _ => none
  | a :: _, 0 => some a
  | _ :: l, n + 1 => znth l n
def zkl : Option zV → Option zV
  | some (.inr (.inl _)) => none
  | x => x
def zst1 : zL → Nat → zV → zL
  | [], _, _ => []
  | _ :: l, 0, v => some v :: l
  | x :: l, n + 1, v => (match n with | 0 => zkl x | _ + 1 => x) :: zst1 l n v
def zclr : zL → Nat → zL
  | [], _ => []
  | _ :: l, 0 => none :: l
  | x :: l, n + 1 => x :: zclr l n
def zst2 (L : zL) (n : Nat) (v : zV) : zL := zst1 (zclr L (n + 1)) n v
def zmask : List Bool → zL → zL
  | [], _ => []
  | _ :: _, [] => []
  | b :: m, x :: l => (bif b then x else none) :: zmask m l
def zadr (ad : Nat → Nat) (k : Nat) (o : Int) : Nat := if k = zKR then ad (zKR + (o / 80).toNat) else ad k
def zcv (ad : Nat → Nat) : zV → Value
  | .inl a => .int (Int32.ofInt a)
  | .inr (.inl a) => .long (Int64.ofInt a)
  | .inr (.inr (k, o)) => .ref (zadr ad k o)
def zok : zV → Prop
  | .inl a => zI a
  | .inr (.inl a) => zJ a
  | .inr (.inr (k, o)) => k = zKR → ∃ r : Nat, r < 8 ∧ o = 80 * (r : Int)
def zup (σ : zS) (k : Nat) (i v : Int) : zS := fun k' i' => if k' = k then (if i' = i then v else σ k' i') else σ k' i'
def zcp (σ : zS) (s : Nat) (so : Int) (d : Nat) (do_ n : Int) : zS := fun k' x => if k' = d ∧ do_ ≤ x ∧ x < do_ + n then σ s (so + (x - do_)) else σ k' x
def zcmp (x y : Int) : Int := if y < x then 1 else if x = y then 0 else -1
def zfv (ad : Nat → Nat) (σ : zS) (k j : Nat) : Value := match zft k j with
  | 0 => .int (Int32.ofInt (σ k j))
  | 1 => .long (Int64.ofInt (σ k j))
  | t + 2 => .ref (ad t)
def zcel (ad : Nat → Nat) (ct : Nat → ClassId) (σ : zS) (k : Nat) : va_E := match zkd k with
  | 0 => .inl (ct 0, (zln k).toNat, .inl (fun j => Int32.ofInt (σ k j)))
  | 1 => .inl (ct 1, (zln k).toNat, .inl (fun j => Int32.ofInt (σ k j)))
  | 2 => .inl (ct 2, (zln k).toNat, .inr (.inl (fun j => Int64.ofInt (σ k j))))
  | 3 => .inl (ct 3, 8, .inr (.inr (.inr (.inr (fun j => if j < 8 then some (ad (zKR + j)) else none)))))
  | 4 => .inr (zcn k, (List.range (zN (zcn k))).map (fun j => zfv ad σ k j))
  | _ => .inl (ct 0, 80, .inl (fun j => if j < 80 then Int32.ofInt (σ zKR (80 * ((k - zKR : Nat) : Int) + (j : Int))) else 0))
def zwl (ad : Nat → Nat) (ct : Nat → ClassId) (σ : zS) : va_W := (List.range zNC).map (fun k => (ad k, zcel ad ct σ k))
abbrev ztys (ct : Nat → ClassId) : List (ClassId × FieldType) := [(ct 0, .int), (ct 1, .boolean), (ct 2, .long), (ct 3, .array .int)]
def zWF (σ : zS) : Prop := ∀ k i, zJ (σ k i) ∧ (zlg k i = false → zI (σ k i))
def zpop : Nat → List zV → List zV → Option (List zV × List zV)
  | 0, acc, st => some (acc, st)
  | _ + 1, _, [] => none
  | n + 1, acc, v :: st => zpop n (v :: acc) st
def zsum : List zV → Nat
  | [] => 0
  | .inr (.inl _) :: l => 2 + zsum l
  | _ :: l => 1 + zsum l
def zRv (r : Option FieldType) (v : Int) : Option Value := match r with
  | none => none
  | some .long => some (.long (Int64.ofInt v))
  | some _ => some (.int (Int32.ofInt v))
def zRok (r : Option FieldType) (v : Int) : Prop := match r with
  | none => v = 0
  | some .long => zJ v
  | some .boolean => v = 0 ∨ v = 1
  | some _ => zI v
def zws (i : Nat) : List Cond := Cond.code (zy i) (zb i) (zl i) (zr i) :: zTB
def zisN : Cond → Bool
  | .methodLinkNest _ _ _ _ => true
  | _ => false
/-- the links among nest mates, which no word list keeps -/
def zNw (U : State) : Prop := ∀ w ∈ lw_tbl, zisN w = true → va_Nw w U
def zWD (D : va_G) (ad : Nat → Nat) (ct : Nat → ClassId) (σ : zS) (A : Nat → Prop) (U : State) : Prop := va_P D zcl (zwl ad ct σ) U.heap ∧ va_K D zcl (ztys ct) U ∧ va_D A (zwl ad ct σ) ∧ zNw U
/-- THE CONTRACT of method i at the arguments as and the store σ: it returns, with an answer and a store that R holds of -/
def zAM (i : Nat) (as : List zV) (σ : zS) (R : Int → zS → Prop) : Prop :=
  zWF σ → (∀ v ∈ as, zok v) → ∀ (l : Launch) (D : va_G) (ad : Nat → Nat) (ct : Nat → ClassId) (sz : Nat),
    Met l (zy i) (zws i) (zq i) (va_Pc (as.map (zcv ad)) (fun U => U.heap.size = sz ∧ zWD D ad ct σ (fun _ => True) U))
      (fun _ st oc t => (∃ (v : Int) (u : zS), oc = .returned (zRv (zr i) v) ∧ (R v u ∧ zWF u ∧ zRok (zr i) v) ∧ zWD D ad ct u (va_A (zwl ad ct σ) sz) t) ∧ va_F (va_A (zwl ad ct σ) sz) st t) 0 0 (va_A (zwl ad ct σ) sz)
/-- a call within a walk -/
def zca (i : Nat) (as : List zV) (σ : zS) (k : Nat) (nx : List zV → zS → Prop) : Prop :=
  ∃ Rc : Int → zS → Prop, zAM i as σ Rc ∧ (match k with
    | 0 => ∀ u, Rc 0 u → nx [] u
    | 1 => ∀ v u, zI v → Rc v u → nx [.inl v] u
    | _ => ∀ v u, zJ v → Rc v u → nx [.inr (.inl v)] u)
def zcase (pc : Nat) (J : Nat → Prop) (v : Int) : Int → List Int → Prop
  | _, [] => True
  | lo, o :: os => (v = lo → J ((pc : Int) + o).toNat) ∧ zcase pc J v (lo + 1) os
def zlook (pc : Nat) (J : Nat → Prop) (v : Int) : List (Int × Int) → Prop
  | [] => True
  | (k, o) :: l => (v = k → J ((pc : Int) + o).toNat) ∧ zlook pc J v l
def zlno (v : Int) : List (Int × Int) → Prop
  | [] => True
  | (k, _) :: l => ¬ v = k ∧ zlno v l
/-- one instruction -/
def zstep (X : zX) (R : Int → zS → Prop) (nx : zL → List zV → zS → Prop) (J : Nat → zL → List zV → zS → Prop) (pc : Nat) (ins : Instr) (A B : Nat) (C : Int) (L : zL) (st : List zV) (σ : zS) : Prop := match ins with
  | .iload_n _ | .iload _ => (match znth L A with | some (some (.inl v)) => nx L (.inl v :: st) σ | _ => False)
  | .lload_n _ | .lload _ => (match znth L A with | some (some (.inr (.inl v))) => nx L (.inr (.inl v) :: st) σ | _ => False)
  | .aload_n _ | .aload _ => (match znth L A with | some (some (.inr (.inr v))) => nx L (.inr (.inr v) :: st) σ | _ => False)
  | .istore_n _ | .istore _ => (match st with | .inl v :: st => nx (zst1 L A (.inl v)) st σ | _ => False)
  | .lstore_n _ | .lstore _ => (match st with | .inr (.inl v) :: st => nx (zst2 L A (.inr (.inl v))) st σ | _ => False)
  | .astore_n _ | .astore _ => (match st with | .inr (.inr v) :: st => nx (zst1 L A (.inr (.inr v))) st σ | _ => False)
  | .iconst _ | .bipush _ | .sipush _ | .ldc _ | .ldc_w _ => nx L (.inl C :: st) σ
  | .lconst _ | .ldc2_w _ => nx L (.inr (.inl C) :: st) σ
  | .iinc _ _ => (match znth L A with | some (some (.inl v)) => zI (v + C) ∧ nx (zst1 L A (.inl (v + C))) st σ | _ => False)
  | .iadd => (match st with | .inl y :: .inl x :: st => zI (x + y) ∧ nx L (.inl (x + y) :: st) σ | _ => False)
  | .isub => (match st with | .inl y :: .inl x :: st => zI (x - y) ∧ nx L (.inl (x - y) :: st) σ | _ => False)
  | .imul => (match st with | .inl y :: .inl x :: st => zI (x * y) ∧ nx L (.inl (x * y) :: st) σ | _ => False)
  | .idiv => (match st with | .inl y :: .inl x :: st => (0 ≤ x ∧ 0 < y) ∧ nx L (.inl (x / y) :: st) σ | _ => False)
  | .irem => (match st with | .inl y :: .inl x :: st => (0 ≤ x ∧ 0 < y) ∧ nx L (.inl (x % y) :: st) σ | _ => False)
  | .ineg => (match st with | .inl x :: st => zI (-x) ∧ nx L (.inl (-x) :: st) σ | _ => False)
  | .iand => (match st with | .inl y :: .inl x :: st => nx L (.inl (Int32.ofInt x &&& Int32.ofInt y).toInt :: st) σ | _ => False)
  | .i2b => (match st with | .inl x :: st => nx L (.inl (Int32.ofInt x).toInt8.toInt32.toInt :: st) σ | _ => False)
  | .i2s => (match st with | .inl x :: st => nx L (.inl (Int32.ofInt x).toInt16.toInt32.toInt :: st) σ | _ => False)
  | .i2l => (match st with | .inl x :: st => nx L (.inr (.inl x) :: st) σ | _ => False)
  | .l2i => (match st with | .inr (.inl x) :: st => zI x ∧ nx L (.inl x :: st) σ | _ => False)
  | .ladd => (match st with | .inr (.inl y) :: .inr (.inl x) :: st => zJ (x + y) ∧ nx L (.inr (.inl (x + y)) :: st) σ | _ => False)
  | .lmul => (match st with | .inr (.inl y) :: .inr (.inl x) :: st => zJ (x * y) ∧ nx L (.inr (.inl (x * y)) :: st) σ | _ => False)
  | .land => (match st with | .inr (.inl y) :: .inr (.inl x) :: st => nx L (.inr (.inl (Int64.ofInt x &&& Int64.ofInt y).toInt) :: st) σ | _ => False)
  | .lor => (match st with | .inr (.inl y) :: .inr (.inl x) :: st => nx L (.inr (.inl (Int64.ofInt x ||| Int64.ofInt y).toInt) :: st) σ | _ => False)
  | .lshl => (match st with | .inl y :: .inr (.inl x) :: st => nx L (.inr (.inl (Int64.ofInt x <<< ((Int32.ofInt y).toInt64 &&& 63)).toInt) :: st) σ | _ => False)
  | .lshr => (match st with | .inl y :: .inr (.inl x) :: st => nx L (.inr (.inl (Int64.ofInt x >>> ((Int32.ofInt y).toInt64 &&& 63)).toInt) :: st) σ | _ => False)
  | .lushr => (match st with | .inl y :: .inr (.inl x) :: st => nx L (.inr (.inl ((Int64.ofInt x).toUInt64 >>> ((Int32.ofInt y).toInt64.toUInt64 &&& Int64.toUInt64 63)).toInt64.toInt) :: st) σ | _ => False)
  | .lcmp => (match st with | .inr (.inl y) :: .inr (.inl x) :: st => nx L (.inl (zcmp x y) :: st) σ | _ => False)
  | .dup => (match st with | .inl x :: st => nx L (.inl x :: .inl x :: st) σ | .inr (.inr x) :: st => nx L (.inr (.inr x) :: .inr (.inr x) :: st) σ | _ => False)
  | .dup2 => (match st with | .inl y :: .inr (.inr x) :: st => nx L (.inl y :: .inr (.inr x) :: .inl y :: .inr (.inr x) :: st) σ | _ => False)
  | .pop => (match st with | .inl _ :: st => nx L st σ | _ => False)
  | .goto _ => J A L st σ
  | .ifCond cd _ => (match st with
    | .inl x :: st => (match cd with
      | .eq => (x = 0 → J A L st σ) ∧ (¬ x = 0 → nx L st σ)
      | .ne => (¬ x = 0 → J A L st σ) ∧ (x = 0 → nx L st σ)
      | .lt => (x < 0 → J A L st σ) ∧ (0 ≤ x → nx L st σ)
      | .ge => (0 ≤ x → J A L st σ) ∧ (x < 0 → nx L st σ)
      | .gt => (0 < x → J A L st σ) ∧ (x ≤ 0 → nx L st σ)
      | .le => (x ≤ 0 → J A L st σ) ∧ (0 < x → nx L st σ))
    | _ => False)
  | .if_icmp cd _ => (match st with
    | .inl y :: .inl x :: st => (match cd with
      | .eq => (x = y → J A L st σ) ∧ (¬ x = y → nx L st σ)
      | .ne => (¬ x = y → J A L st σ) ∧ (x = y → nx L st σ)
      | .lt => (x < y → J A L st σ) ∧ (y ≤ x → nx L st σ)
      | .ge => (y ≤ x → J A L st σ) ∧ (x < y → nx L st σ)
      | .gt => (y < x → J A L st σ) ∧ (x ≤ y → nx L st σ)
      | .le => (x ≤ y → J A L st σ) ∧ (y < x → nx L st σ))
    | _ => False)
  | .tableswitch d lo hi offs => (match st with
    | .inl v :: st => zcase pc (fun t => J t L st σ) v lo offs.toList ∧ (v < lo ∨ hi < v → J ((pc : Int) + d).toNat L st σ)
    | _ => False)
  | .lookupswitch d ps => (match st with
    | .inl v :: st => zlook pc (fun t => J t L st σ) v ps.toList ∧ (zlno v ps.toList → J ((pc : Int) + d).toNat L st σ)
    | _ => False)
  | .getfield _ => (match st with
    | .inr (.inr (k, _)) :: st => bif Nat.beq k A then (match B with
      | 0 => nx L (.inl (σ A C) :: st) σ
      | 1 => nx L (.inr (.inl (σ A C)) :: st) σ
      | t + 2 => nx L (.inr (.inr (t, 0)) :: st) σ) else False
    | _ => False)
  | .putfield _ => (match st with
    | .inl v :: .inr (.inr (k, _)) :: st => bif Nat.beq k A && Nat.beq B 0 then nx L st (zup σ A C v) else False
    | .inr (.inl v) :: .inr (.inr (k, _)) :: st => bif Nat.beq k A && Nat.beq B 1 then nx L st (zup σ A C v) else False
    | _ => False)
  | .iaload => (match st with
    | .inl i :: .inr (.inr (k, o)) :: st => (match zkd k with
      | 0 => (0 ≤ i ∧ i < zln k) ∧ nx L (.inl (σ k i) :: st) σ
      | 5 => (0 ≤ i ∧ i < 80) ∧ nx L (.inl (σ k (o + i)) :: st) σ
      | 9 => bif Nat.beq k 1000 then (0 ≤ i ∧ i < X.1) ∧ nx L (.inl (X.2 i) :: st) σ else False
      | _ => False)
    | _ => False)
  | .baload => (match st with
    | .inl i :: .inr (.inr (k, _)) :: st => (match zkd k with
      | 1 => (0 ≤ i ∧ i < zln k) ∧ nx L (.inl (σ k i) :: st) σ
      | _ => False)
    | _ => False)
  | .laload => (match st with
    | .inl i :: .inr (.inr (k, _)) :: st => (match zkd k with
      | 2 => (0 ≤ i ∧ i < zln k) ∧ nx L (.inr (.inl (σ k i)) :: st) σ
      | _ => False)
    | _ => False)
  | .aaload => (match st with
    | .inl i :: .inr (.inr (k, _)) :: st => (match zkd k with
      | 3 => (0 ≤ i ∧ i < 8) ∧ nx L (.inr (.inr (zKR, 80 * i)) :: st) σ
      | _ => False)
    | _ => False)
  | .arraylength => (match st with
    | .inr (.inr (k, _)) :: st => (match zkd k with
      | 0 => nx L (.inl (zln k) :: st) σ
      | 1 => nx L (.inl (zln k) :: st) σ
      | 5 => nx L (.inl 80 :: st) σ
      | 9 => bif Nat.beq k 1000 then 0 ≤ X.1 ∧ nx L (.inl X.1 :: st) σ else False
      | _ => False)
    | _ => False)
  | .iastore => (match st with
    | .inl v :: .inl i :: .inr (.inr (k, o)) :: st => (match zkd k with
      | 0 => (0 ≤ i ∧ i < zln k) ∧ nx L st (zup σ k i v)
      | 5 => (0 ≤ i ∧ i < 80) ∧ nx L st (zup σ k (o + i) v)
      | _ => False)
    | _ => False)
  | .bastore => (match st with
    | .inl v :: .inl i :: .inr (.inr (k, _)) :: st => (match zkd k with
      | 1 => ((v = 0 ∨ v = 1) ∧ 0 ≤ i ∧ i < zln k) ∧ nx L st (zup σ k i v)
      | _ => False)
    | _ => False)
  | .lastore => (match st with
    | .inr (.inl v) :: .inl i :: .inr (.inr (k, _)) :: st => (match zkd k with
      | 2 => (0 ≤ i ∧ i < zln k) ∧ nx L st (zup σ k i v)
      | _ => False)
    | _ => False)
  | .ireturn => (match st with
    | [.inl v] => (match A with | 0 => R v σ | _ + 1 => (v = 0 ∨ v = 1) ∧ R v σ)
    | _ => False)
  | .lreturn => (match st with | [.inr (.inl v)] => R v σ | _ => False)
  | .return_ => (match st with | [] => R 0 σ | _ => False)
  | .invokevirtual _ => (match zpop B [] st with
    | some (as, .inr (.inr (k, o)) :: st) => bif Nat.beq k (C.toNat / 4) && Nat.ble (zsum st) 8 then zca A (.inr (.inr (k, o)) :: as) σ (C.toNat % 4) (fun r u => nx L (r ++ st) u) else False
    | _ => False)
  | .invokestatic _ =>
    bif Nat.beq A 9010 then (match st with | .inl y :: .inl x :: st => bif Nat.ble (zsum st) 8 then nx L (.inl (min x y) :: st) σ else False | _ => False)
    else bif Nat.beq A 9011 then (match st with | .inl y :: .inl x :: st => bif Nat.ble (zsum st) 8 then nx L (.inl (max x y) :: st) σ else False | _ => False)
    else bif Nat.beq A 9012 then (match st with | .inl x :: st => bif Nat.ble (zsum st) 8 then zI (-x) ∧ nx L (.inl (if x < 0 then -x else x) :: st) σ else False | _ => False)
    else bif Nat.beq A 9013 then (match st with
      | [.inl n, .inl j, .inr (.inr (k2, o2)), .inl i, .inr (.inr (k1, o1))] => bif Nat.beq k1 zKR && Nat.beq k2 zKR then (0 ≤ i ∧ 0 ≤ j ∧ 0 ≤ n ∧ i + n ≤ 80 ∧ j + n ≤ 80) ∧ nx L [] (zcp σ k1 (o1 + i) k2 (o2 + j) n) else False
      | _ => False)
    else (match zpop B [] st with
      | some (as, st) => bif Nat.ble (zsum st) 8 then zca A as σ (C.toNat % 4) (fun r u => nx L (r ++ st) u) else False
      | _ => False)
  | _ => False
def zin_ : Nat → List (Nat × List Bool) → Option (List Bool)
  | _, [] => none
  | n, (k, m) :: l => bif Nat.beq n k then some m else zin_ n l
/-- rows one behind the other, to the next cut -/
def zwS (X : zX) (R : Int → zS → Prop) (K J : Nat → zL → List zV → zS → Prop) (cut : List (Nat × List Bool)) : List zE → zL → List zV → zS → Prop
  | [], _, _, _ => False
  | (pc, n, ins, A, B, C) :: rest, L, st, σ => zstep X R (fun L st σ => match zin_ n cut with | some m => K n (zmask m L) st σ | none => zwS X R K J cut rest L st σ) J pc ins A B C L st σ
def zdrop : Nat → List zE → List zE
  | _, [] => []
  | n, x :: l => bif Nat.beq n x.1 then x :: l else zdrop n l
/-- at most n jumps -/
def zwp (code : List zE) (X : zX) (R : Int → zS → Prop) (K : Nat → zL → List zV → zS → Prop) (cut : List (Nat × List Bool)) : Nat → Nat → zL → List zV → zS → Prop
  | 0, _, _, _, _ => False
  | n + 1, pc, L, st, σ => zwS X R K (fun t L st σ => match zin_ t cut with | some m => K t (zmask m L) st σ | none => zwp code X R K cut n t L st σ) cut (zdrop pc code) L st σ
