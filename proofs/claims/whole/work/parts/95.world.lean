/-! what the constructors make is the fresh store -/
section ZWLD
variable {ad : Nat → Nat} {ct : Nat → ClassId}
theorem ze_0 : zcel ad ct zS0 0 = .inr (8, [.ref (ad 1), .ref (ad 2), .ref (ad 3), .ref (ad 4), .int (-1), .ref (ad 5), .ref (ad 6), .ref (ad 7), .ref (ad 8), .ref (ad 10), .int 0, .int 0]) := rfl
theorem ze_1 : zcel ad ct zS0 1 = .inr (5, [.ref (ad 11), .ref (ad 12), .ref (ad 13), .ref (ad 14)]) := rfl
theorem ze_2 : zcel ad ct zS0 2 = .inr (2, [.ref (ad 15), .ref (ad 16), .int 0, .int 30, .ref (ad 17), .ref (ad 18), .ref (ad 19), .int 0, .ref (ad 20), .ref (ad 21), .int 0, .int 0]) := rfl
theorem ze_3 : zcel ad ct zS0 3 = .inr (0, [.ref (ad 22), .ref (ad 23), .ref (ad 24), .int 0, .ref (ad 25), .ref (ad 26), .int 0, .ref (ad 27), .int 0]) := rfl
theorem ze_4 : zcel ad ct zS0 4 = .inr (7, [.long 0, .int 0, .ref (ad 28), .int 0]) := rfl
theorem ze_5 : zcel ad ct zS0 5 = .inr (1, [.ref (ad 29), .int 0]) := rfl
theorem ze_6 : zcel ad ct zS0 6 = .inr (4, [.ref (ad 30), .ref (ad 31), .ref (ad 32), .int 0, .int 0]) := rfl
theorem ze_7 : zcel ad ct zS0 7 = .inr (6, [.ref (ad 33), .ref (ad 34)]) := rfl
theorem ze_8 : zcel ad ct zS0 8 = .inr (3, [.ref (ad 35), .ref (ad 36), .int 0]) := rfl
theorem ze_9 : zcel ad ct zS0 9 = .inr (9, [.ref (ad 37), .ref (ad 38), .ref (ad 39), .ref (ad 40), .int 0, .int 0, .ref (ad 41), .ref (ad 42), .ref (ad 43), .int 0, .ref (ad 44), .int 0, .int 30, .int 0, .ref (ad 45), .ref (ad 46), .ref (ad 47), .int 0, .ref (ad 48), .ref (ad 49), .int 0, .ref (ad 50), .int 0, .ref (ad 51), .ref (ad 52), .int 0, .ref (ad 53), .ref (ad 54), .int 0, .ref (ad 55), .ref (ad 56), .ref (ad 57), .ref (ad 58), .ref (ad 59), .ref (ad 60), .ref (ad 61), .ref (ad 62), .ref (ad 63), .ref (ad 64)]) := rfl
theorem ze_10 : zcel ad ct zS0 10 = .inl (ct 0, 16, .inl (fun _ => 0)) := rfl
theorem ze_11 : zcel ad ct zS0 11 = .inl (ct 1, 8, .inl (fun _ => 0)) := rfl
theorem ze_12 : zcel ad ct zS0 12 = .inl (ct 0, 8, .inl (fun _ => 0)) := rfl
theorem ze_13 : zcel ad ct zS0 13 = .inl (ct 0, 8, .inl (fun _ => 0)) := rfl
theorem ze_14 (h : ∀ j, j < 8 → ad (65 + j) = ad 14 + 1 + j) : zcel ad ct zS0 14 = .inl (ct 3, 8, .inr (.inr (.inr (.inr (fun j => if j < 8 then some (ad 14 + 1 + j) else none))))) := by
  have e : (fun j : Nat => if j < 8 then some (ad (65 + j)) else none) = (fun j : Nat => if j < 8 then some (ad 14 + 1 + j) else none) := by
    funext j
    by_cases hj : j < 8
    · rw [if_pos hj, if_pos hj, h j hj]
    · rw [if_neg hj, if_neg hj]
  show (Sum.inl (ct 3, 8, .inr (.inr (.inr (.inr (fun j => if j < 8 then some (ad (65 + j)) else none))))) : va_E) = _
  rw [e]
theorem ze_15 : zcel ad ct zS0 15 = .inl (ct 0, 40, .inl (fun _ => 0)) := rfl
theorem ze_16 : zcel ad ct zS0 16 = .inl (ct 0, 40, .inl (fun _ => 0)) := rfl
theorem ze_17 : zcel ad ct zS0 17 = .inl (ct 0, 40, .inl (fun _ => 0)) := rfl
theorem ze_18 : zcel ad ct zS0 18 = .inl (ct 0, 40, .inl (fun _ => 0)) := rfl
theorem ze_19 : zcel ad ct zS0 19 = .inl (ct 0, 40, .inl (fun _ => 0)) := rfl
theorem ze_20 : zcel ad ct zS0 20 = .inl (ct 0, 41, .inl (fun _ => 0)) := rfl
theorem ze_21 : zcel ad ct zS0 21 = .inl (ct 0, 40, .inl (fun _ => 0)) := rfl
theorem ze_22 : zcel ad ct zS0 22 = .inl (ct 0, 1188, .inl (fun _ => 0)) := rfl
theorem ze_23 : zcel ad ct zS0 23 = .inl (ct 0, 512, .inl (fun _ => 0)) := rfl
theorem ze_24 : zcel ad ct zS0 24 = .inl (ct 0, 512, .inl (fun _ => 0)) := rfl
theorem ze_25 : zcel ad ct zS0 25 = .inl (ct 0, 1024, .inl (fun _ => 0)) := rfl
theorem ze_26 : zcel ad ct zS0 26 = .inl (ct 0, 1024, .inl (fun _ => 0)) := rfl
theorem ze_27 : zcel ad ct zS0 27 = .inl (ct 0, 50, .inl (fun _ => 0)) := rfl
theorem ze_28 : zcel ad ct zS0 28 = .inl (ct 2, 30, .inr (.inl (fun _ => 0))) := rfl
theorem ze_29 : zcel ad ct zS0 29 = .inl (ct 0, 1092, .inl (fun _ => 0)) := rfl
theorem ze_30 : zcel ad ct zS0 30 = .inl (ct 0, 313, .inl (fun _ => 0)) := rfl
theorem ze_31 : zcel ad ct zS0 31 = .inl (ct 0, 1565, .inl (fun _ => 0)) := rfl
theorem ze_32 : zcel ad ct zS0 32 = .inl (ct 2, 1565, .inr (.inl (fun _ => 0))) := rfl
theorem ze_33 : zcel ad ct zS0 33 = .inl (ct 0, 195, .inl (fun _ => 0)) := rfl
theorem ze_34 : zcel ad ct zS0 34 = .inl (ct 0, 12, .inl (fun _ => 0)) := rfl
theorem ze_35 : zcel ad ct zS0 35 = .inl (ct 0, 30, .inl (fun _ => 0)) := rfl
theorem ze_36 : zcel ad ct zS0 36 = .inl (ct 0, 30, .inl (fun _ => 0)) := rfl
theorem ze_37 : zcel ad ct zS0 37 = .inl (ct 0, 8, .inl (fun _ => 0)) := rfl
theorem ze_38 : zcel ad ct zS0 38 = .inl (ct 0, 8, .inl (fun _ => 0)) := rfl
theorem ze_39 : zcel ad ct zS0 39 = .inl (ct 0, 640, .inl (fun _ => 0)) := rfl
theorem ze_40 : zcel ad ct zS0 40 = .inl (ct 0, 80, .inl (fun _ => 0)) := rfl
theorem ze_41 : zcel ad ct zS0 41 = .inl (ct 0, 40, .inl (fun _ => 0)) := rfl
theorem ze_42 : zcel ad ct zS0 42 = .inl (ct 0, 40, .inl (fun _ => 0)) := rfl
theorem ze_43 : zcel ad ct zS0 43 = .inl (ct 0, 40, .inl (fun _ => 0)) := rfl
theorem ze_44 : zcel ad ct zS0 44 = .inl (ct 0, 40, .inl (fun _ => 0)) := rfl
theorem ze_45 : zcel ad ct zS0 45 = .inl (ct 0, 41, .inl (fun _ => 0)) := rfl
theorem ze_46 : zcel ad ct zS0 46 = .inl (ct 0, 40, .inl (fun _ => 0)) := rfl
theorem ze_47 : zcel ad ct zS0 47 = .inl (ct 0, 49660, .inl (fun _ => 0)) := rfl
theorem ze_48 : zcel ad ct zS0 48 = .inl (ct 0, 12000, .inl (fun _ => 0)) := rfl
theorem ze_49 : zcel ad ct zS0 49 = .inl (ct 0, 12000, .inl (fun _ => 0)) := rfl
theorem ze_50 : zcel ad ct zS0 50 = .inl (ct 0, 50, .inl (fun _ => 0)) := rfl
theorem ze_51 : zcel ad ct zS0 51 = .inl (ct 0, 30, .inl (fun _ => 0)) := rfl
theorem ze_52 : zcel ad ct zS0 52 = .inl (ct 0, 360, .inl (fun _ => 0)) := rfl
theorem ze_53 : zcel ad ct zS0 53 = .inl (ct 0, 12, .inl (fun _ => 0)) := rfl
theorem ze_54 : zcel ad ct zS0 54 = .inl (ct 0, 16, .inl (fun _ => 0)) := rfl
theorem ze_55 : zcel ad ct zS0 55 = .inl (ct 1, 40, .inl (fun _ => 0)) := rfl
theorem ze_56 : zcel ad ct zS0 56 = .inl (ct 0, 40, .inl (fun _ => 0)) := rfl
theorem ze_57 : zcel ad ct zS0 57 = .inl (ct 0, 200, .inl (fun _ => 0)) := rfl
theorem ze_58 : zcel ad ct zS0 58 = .inl (ct 2, 200, .inr (.inl (fun _ => 0))) := rfl
theorem ze_59 : zcel ad ct zS0 59 = .inl (ct 0, 200, .inl (fun _ => 0)) := rfl
theorem ze_60 : zcel ad ct zS0 60 = .inl (ct 0, 195, .inl (fun _ => 0)) := rfl
theorem ze_61 : zcel ad ct zS0 61 = .inl (ct 0, 5070, .inl (fun _ => 0)) := rfl
theorem ze_62 : zcel ad ct zS0 62 = .inl (ct 0, 25350, .inl (fun _ => 0)) := rfl
theorem ze_63 : zcel ad ct zS0 63 = .inl (ct 2, 25350, .inr (.inl (fun _ => 0))) := rfl
theorem ze_64 : zcel ad ct zS0 64 = .inl (ct 0, 12, .inl (fun _ => 0)) := rfl
theorem ze_65 : zcel ad ct zS0 65 = .inl (ct 0, 80, .inl (fun _ => 0)) := by
  have e : zrw zS0 0 = fun _ => 0 := by
    funext j
    unfold zrw
    by_cases hj : j < 80
    · rw [if_pos hj]
      rfl
    · rw [if_neg hj]
  rw [← e]
  exact zcel_row (r := 0) (by decide)
theorem ze_66 : zcel ad ct zS0 66 = .inl (ct 0, 80, .inl (fun _ => 0)) := by
  have e : zrw zS0 1 = fun _ => 0 := by
    funext j
    unfold zrw
    by_cases hj : j < 80
    · rw [if_pos hj]
      rfl
    · rw [if_neg hj]
  rw [← e]
  exact zcel_row (r := 1) (by decide)
theorem ze_67 : zcel ad ct zS0 67 = .inl (ct 0, 80, .inl (fun _ => 0)) := by
  have e : zrw zS0 2 = fun _ => 0 := by
    funext j
    unfold zrw
    by_cases hj : j < 80
    · rw [if_pos hj]
      rfl
    · rw [if_neg hj]
  rw [← e]
  exact zcel_row (r := 2) (by decide)
theorem ze_68 : zcel ad ct zS0 68 = .inl (ct 0, 80, .inl (fun _ => 0)) := by
  have e : zrw zS0 3 = fun _ => 0 := by
    funext j
    unfold zrw
    by_cases hj : j < 80
    · rw [if_pos hj]
      rfl
    · rw [if_neg hj]
  rw [← e]
  exact zcel_row (r := 3) (by decide)
theorem ze_69 : zcel ad ct zS0 69 = .inl (ct 0, 80, .inl (fun _ => 0)) := by
  have e : zrw zS0 4 = fun _ => 0 := by
    funext j
    unfold zrw
    by_cases hj : j < 80
    · rw [if_pos hj]
      rfl
    · rw [if_neg hj]
  rw [← e]
  exact zcel_row (r := 4) (by decide)
theorem ze_70 : zcel ad ct zS0 70 = .inl (ct 0, 80, .inl (fun _ => 0)) := by
  have e : zrw zS0 5 = fun _ => 0 := by
    funext j
    unfold zrw
    by_cases hj : j < 80
    · rw [if_pos hj]
      rfl
    · rw [if_neg hj]
  rw [← e]
  exact zcel_row (r := 5) (by decide)
theorem ze_71 : zcel ad ct zS0 71 = .inl (ct 0, 80, .inl (fun _ => 0)) := by
  have e : zrw zS0 6 = fun _ => 0 := by
    funext j
    unfold zrw
    by_cases hj : j < 80
    · rw [if_pos hj]
      rfl
    · rw [if_neg hj]
  rw [← e]
  exact zcel_row (r := 6) (by decide)
theorem ze_72 : zcel ad ct zS0 72 = .inl (ct 0, 80, .inl (fun _ => 0)) := by
  have e : zrw zS0 7 = fun _ => 0 := by
    funext j
    unfold zrw
    by_cases hj : j < 80
    · rw [if_pos hj]
      rfl
    · rw [if_neg hj]
  rw [← e]
  exact zcel_row (r := 7) (by decide)
set_option maxRecDepth 100000 in
theorem zwl_0 (h : ∀ j, j < 8 → ad (65 + j) = ad 14 + 1 + j) : zwl ad ct zS0 = [(ad 0, .inr (8, [.ref (ad 1), .ref (ad 2), .ref (ad 3), .ref (ad 4), .int (-1), .ref (ad 5), .ref (ad 6), .ref (ad 7), .ref (ad 8), .ref (ad 10), .int 0, .int 0])), (ad 1, .inr (5, [.ref (ad 11), .ref (ad 12), .ref (ad 13), .ref (ad 14)])), (ad 2, .inr (2, [.ref (ad 15), .ref (ad 16), .int 0, .int 30, .ref (ad 17), .ref (ad 18), .ref (ad 19), .int 0, .ref (ad 20), .ref (ad 21), .int 0, .int 0])), (ad 3, .inr (0, [.ref (ad 22), .ref (ad 23), .ref (ad 24), .int 0, .ref (ad 25), .ref (ad 26), .int 0, .ref (ad 27), .int 0])), (ad 4, .inr (7, [.long 0, .int 0, .ref (ad 28), .int 0])), (ad 5, .inr (1, [.ref (ad 29), .int 0])), (ad 6, .inr (4, [.ref (ad 30), .ref (ad 31), .ref (ad 32), .int 0, .int 0])), (ad 7, .inr (6, [.ref (ad 33), .ref (ad 34)])), (ad 8, .inr (3, [.ref (ad 35), .ref (ad 36), .int 0])), (ad 9, .inr (9, [.ref (ad 37), .ref (ad 38), .ref (ad 39), .ref (ad 40), .int 0, .int 0, .ref (ad 41), .ref (ad 42), .ref (ad 43), .int 0, .ref (ad 44), .int 0, .int 30, .int 0, .ref (ad 45), .ref (ad 46), .ref (ad 47), .int 0, .ref (ad 48), .ref (ad 49), .int 0, .ref (ad 50), .int 0, .ref (ad 51), .ref (ad 52), .int 0, .ref (ad 53), .ref (ad 54), .int 0, .ref (ad 55), .ref (ad 56), .ref (ad 57), .ref (ad 58), .ref (ad 59), .ref (ad 60), .ref (ad 61), .ref (ad 62), .ref (ad 63), .ref (ad 64)])), (ad 10, .inl (ct 0, 16, .inl (fun _ => 0))), (ad 11, .inl (ct 1, 8, .inl (fun _ => 0))), (ad 12, .inl (ct 0, 8, .inl (fun _ => 0))), (ad 13, .inl (ct 0, 8, .inl (fun _ => 0))), (ad 14, .inl (ct 3, 8, .inr (.inr (.inr (.inr (fun j => if j < 8 then some (ad 14 + 1 + j) else none)))))), (ad 15, .inl (ct 0, 40, .inl (fun _ => 0))), (ad 16, .inl (ct 0, 40, .inl (fun _ => 0))), (ad 17, .inl (ct 0, 40, .inl (fun _ => 0))), (ad 18, .inl (ct 0, 40, .inl (fun _ => 0))), (ad 19, .inl (ct 0, 40, .inl (fun _ => 0))), (ad 20, .inl (ct 0, 41, .inl (fun _ => 0))), (ad 21, .inl (ct 0, 40, .inl (fun _ => 0))), (ad 22, .inl (ct 0, 1188, .inl (fun _ => 0))), (ad 23, .inl (ct 0, 512, .inl (fun _ => 0))), (ad 24, .inl (ct 0, 512, .inl (fun _ => 0))), (ad 25, .inl (ct 0, 1024, .inl (fun _ => 0))), (ad 26, .inl (ct 0, 1024, .inl (fun _ => 0))), (ad 27, .inl (ct 0, 50, .inl (fun _ => 0))), (ad 28, .inl (ct 2, 30, .inr (.inl (fun _ => 0)))), (ad 29, .inl (ct 0, 1092, .inl (fun _ => 0))), (ad 30, .inl (ct 0, 313, .inl (fun _ => 0))), (ad 31, .inl (ct 0, 1565, .inl (fun _ => 0))), (ad 32, .inl (ct 2, 1565, .inr (.inl (fun _ => 0)))), (ad 33, .inl (ct 0, 195, .inl (fun _ => 0))), (ad 34, .inl (ct 0, 12, .inl (fun _ => 0))), (ad 35, .inl (ct 0, 30, .inl (fun _ => 0))), (ad 36, .inl (ct 0, 30, .inl (fun _ => 0))), (ad 37, .inl (ct 0, 8, .inl (fun _ => 0))), (ad 38, .inl (ct 0, 8, .inl (fun _ => 0))), (ad 39, .inl (ct 0, 640, .inl (fun _ => 0))), (ad 40, .inl (ct 0, 80, .inl (fun _ => 0))), (ad 41, .inl (ct 0, 40, .inl (fun _ => 0))), (ad 42, .inl (ct 0, 40, .inl (fun _ => 0))), (ad 43, .inl (ct 0, 40, .inl (fun _ => 0))), (ad 44, .inl (ct 0, 40, .inl (fun _ => 0))), (ad 45, .inl (ct 0, 41, .inl (fun _ => 0))), (ad 46, .inl (ct 0, 40, .inl (fun _ => 0))), (ad 47, .inl (ct 0, 49660, .inl (fun _ => 0))), (ad 48, .inl (ct 0, 12000, .inl (fun _ => 0))), (ad 49, .inl (ct 0, 12000, .inl (fun _ => 0))), (ad 50, .inl (ct 0, 50, .inl (fun _ => 0))), (ad 51, .inl (ct 0, 30, .inl (fun _ => 0))), (ad 52, .inl (ct 0, 360, .inl (fun _ => 0))), (ad 53, .inl (ct 0, 12, .inl (fun _ => 0))), (ad 54, .inl (ct 0, 16, .inl (fun _ => 0))), (ad 55, .inl (ct 1, 40, .inl (fun _ => 0))), (ad 56, .inl (ct 0, 40, .inl (fun _ => 0))), (ad 57, .inl (ct 0, 200, .inl (fun _ => 0))), (ad 58, .inl (ct 2, 200, .inr (.inl (fun _ => 0)))), (ad 59, .inl (ct 0, 200, .inl (fun _ => 0))), (ad 60, .inl (ct 0, 195, .inl (fun _ => 0))), (ad 61, .inl (ct 0, 5070, .inl (fun _ => 0))), (ad 62, .inl (ct 0, 25350, .inl (fun _ => 0))), (ad 63, .inl (ct 2, 25350, .inr (.inl (fun _ => 0)))), (ad 64, .inl (ct 0, 12, .inl (fun _ => 0))), (ad 65, .inl (ct 0, 80, .inl (fun _ => 0))), (ad 66, .inl (ct 0, 80, .inl (fun _ => 0))), (ad 67, .inl (ct 0, 80, .inl (fun _ => 0))), (ad 68, .inl (ct 0, 80, .inl (fun _ => 0))), (ad 69, .inl (ct 0, 80, .inl (fun _ => 0))), (ad 70, .inl (ct 0, 80, .inl (fun _ => 0))), (ad 71, .inl (ct 0, 80, .inl (fun _ => 0))), (ad 72, .inl (ct 0, 80, .inl (fun _ => 0)))] := by
  show [(ad 0, zcel ad ct zS0 0), (ad 1, zcel ad ct zS0 1), (ad 2, zcel ad ct zS0 2), (ad 3, zcel ad ct zS0 3), (ad 4, zcel ad ct zS0 4), (ad 5, zcel ad ct zS0 5), (ad 6, zcel ad ct zS0 6), (ad 7, zcel ad ct zS0 7), (ad 8, zcel ad ct zS0 8), (ad 9, zcel ad ct zS0 9), (ad 10, zcel ad ct zS0 10), (ad 11, zcel ad ct zS0 11), (ad 12, zcel ad ct zS0 12), (ad 13, zcel ad ct zS0 13), (ad 14, zcel ad ct zS0 14), (ad 15, zcel ad ct zS0 15), (ad 16, zcel ad ct zS0 16), (ad 17, zcel ad ct zS0 17), (ad 18, zcel ad ct zS0 18), (ad 19, zcel ad ct zS0 19), (ad 20, zcel ad ct zS0 20), (ad 21, zcel ad ct zS0 21), (ad 22, zcel ad ct zS0 22), (ad 23, zcel ad ct zS0 23), (ad 24, zcel ad ct zS0 24), (ad 25, zcel ad ct zS0 25), (ad 26, zcel ad ct zS0 26), (ad 27, zcel ad ct zS0 27), (ad 28, zcel ad ct zS0 28), (ad 29, zcel ad ct zS0 29), (ad 30, zcel ad ct zS0 30), (ad 31, zcel ad ct zS0 31), (ad 32, zcel ad ct zS0 32), (ad 33, zcel ad ct zS0 33), (ad 34, zcel ad ct zS0 34), (ad 35, zcel ad ct zS0 35), (ad 36, zcel ad ct zS0 36), (ad 37, zcel ad ct zS0 37), (ad 38, zcel ad ct zS0 38), (ad 39, zcel ad ct zS0 39), (ad 40, zcel ad ct zS0 40), (ad 41, zcel ad ct zS0 41), (ad 42, zcel ad ct zS0 42), (ad 43, zcel ad ct zS0 43), (ad 44, zcel ad ct zS0 44), (ad 45, zcel ad ct zS0 45), (ad 46, zcel ad ct zS0 46), (ad 47, zcel ad ct zS0 47), (ad 48, zcel ad ct zS0 48), (ad 49, zcel ad ct zS0 49), (ad 50, zcel ad ct zS0 50), (ad 51, zcel ad ct zS0 51), (ad 52, zcel ad ct zS0 52), (ad 53, zcel ad ct zS0 53), (ad 54, zcel ad ct zS0 54), (ad 55, zcel ad ct zS0 55), (ad 56, zcel ad ct zS0 56), (ad 57, zcel ad ct zS0 57), (ad 58, zcel ad ct zS0 58), (ad 59, zcel ad ct zS0 59), (ad 60, zcel ad ct zS0 60), (ad 61, zcel ad ct zS0 61), (ad 62, zcel ad ct zS0 62), (ad 63, zcel ad ct zS0 63), (ad 64, zcel ad ct zS0 64), (ad 65, zcel ad ct zS0 65), (ad 66, zcel ad ct zS0 66), (ad 67, zcel ad ct zS0 67), (ad 68, zcel ad ct zS0 68), (ad 69, zcel ad ct zS0 69), (ad 70, zcel ad ct zS0 70), (ad 71, zcel ad ct zS0 71), (ad 72, zcel ad ct zS0 72)] = _
  rw [ze_0, ze_1, ze_2, ze_3, ze_4, ze_5, ze_6, ze_7, ze_8, ze_9, ze_10, ze_11, ze_12, ze_13, ze_14 h, ze_15, ze_16, ze_17, ze_18, ze_19, ze_20, ze_21, ze_22, ze_23, ze_24, ze_25, ze_26, ze_27, ze_28, ze_29, ze_30, ze_31, ze_32, ze_33, ze_34, ze_35, ze_36, ze_37, ze_38, ze_39, ze_40, ze_41, ze_42, ze_43, ze_44, ze_45, ze_46, ze_47, ze_48, ze_49, ze_50, ze_51, ze_52, ze_53, ze_54, ze_55, ze_56, ze_57, ze_58, ze_59, ze_60, ze_61, ze_62, ze_63, ze_64, ze_65, ze_66, ze_67, ze_68, ze_69, ze_70, ze_71, ze_72]
end ZWLD
theorem zpick {α : Type} {ws ws' : List α} : ∀ (is : List Nat), is.map (fun i => ws[i]?) = ws'.map some → is.filterMap (fun i => ws[i]?) = ws' := by
  induction ws' with
  | nil =>
    intro is h
    cases is with
    | nil => rfl
    | cons i is => cases h
  | cons a l ih =>
    intro is h
    cases is with
    | nil => cases h
    | cons i is =>
      rw [List.map_cons, List.map_cons] at h
      obtain ⟨h1, h2⟩ := List.cons.inj h
      rw [List.filterMap_cons_some h1, ih is h2]
