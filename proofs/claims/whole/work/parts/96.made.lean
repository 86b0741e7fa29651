/-! the made world is the fresh store's -/
set_option maxHeartbeats 16000000 in
set_option maxRecDepth 100000 in
theorem zw_made {D : va_G} {ct : Nat → ClassId} {AA : Nat → Prop} {b a0 a9 : Nat} {f8 f9 : List Value} {e8 e9 : va_W} {H : Heap} (h8 : zX8_post ct a0 f8 e8) (h9 : zX9_post ct a9 f9 e9) (hP : va_P D zcl (([] ++ ((a0, .inr (8, f8)) :: e8)) ++ ((a9, .inr (9, f9)) :: e9)) H) (hD : va_D AA (([] ++ ((a0, .inr (8, f8)) :: e8)) ++ ((a9, .inr (9, f9)) :: e9))) : ∃ ad : Nat → Nat, ad 0 = a0 ∧ ad 9 = a9 ∧ ad 1000 = b ∧ va_P D zcl (zwl ad ct zS0) H ∧ va_D AA (zwl ad ct zS0) := by
  obtain ⟨a1, a2, a3, a4, a5, a6, a7, a8, a10, _, _, _, _, _, _, _, _, _, _, _, _, _, _, _, _, ⟨a11, a12, a13, a14, rfl, rfl⟩, ⟨a15, a16, a17, a18, a19, a20, a21, rfl, rfl⟩, ⟨a22, a23, a24, a25, a26, a27, rfl, rfl⟩, ⟨a28, rfl, rfl⟩, ⟨a29, rfl, rfl⟩, ⟨a30, a31, a32, rfl, rfl⟩, ⟨a33, a34, rfl, rfl⟩, ⟨a35, a36, rfl, rfl⟩, rfl, rfl⟩ := h8
  obtain ⟨a37, a38, a39, a40, a41, a42, a43, a44, a45, a46, a47, a48, a49, a50, a51, a52, a53, a54, a55, a56, a57, a58, a59, a60, a61, a62, a63, a64, rfl, rfl⟩ := h9
  sorry
