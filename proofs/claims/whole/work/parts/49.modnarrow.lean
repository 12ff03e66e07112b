/-! characters and masks -/
theorem nar_n {n : Nat} (h : n ≤ 65535) : (Int32.ofInt (n : Int)).toUInt32.toNat = n := by
  show (BitVec.ofInt 32 (n : Int)).toNat = n
  rw [BitVec.toNat_ofInt]
  omega
theorem nar_c {z : Int} (h : 0 ≤ z ∧ z ≤ 65535) : narrow .char (ui z) = ui z := by
  obtain ⟨n, rfl⟩ : ∃ n : Nat, z = (n : Int) := ⟨z.toNat, by omega⟩
  have h1 := nar_n (n := n) (by omega)
  show Value.int (Int32.ofInt (n : Int)).toUInt32.toUInt16.toUInt32.toInt32 = Value.int (Int32.ofInt (n : Int))
  have e : (Int32.ofInt (n : Int)).toUInt32.toUInt16.toUInt32 = (Int32.ofInt (n : Int)).toUInt32 := by
    rw [← UInt32.toNat_inj, UInt16.toNat_toUInt32, UInt32.toNat_toUInt16, h1]
    omega
  rw [e]
  rfl
theorem i2c_c (z : Int) : ((Int32.ofInt z).toUInt32 % 65536).toInt32 = Int32.ofInt (z % 65536) := by
  obtain ⟨n, hn, h⟩ : ∃ n : Nat, z % 65536 = (n : Int) ∧ n ≤ 65535 := ⟨(z % 65536).toNat, by omega, by omega⟩
  have h1 := nar_n h
  rw [hn]
  have e : (Int32.ofInt z).toUInt32 % 65536 = (Int32.ofInt (n : Int)).toUInt32 := by
    rw [← UInt32.toNat_inj, h1, UInt32.toNat_mod]
    show (BitVec.ofInt 32 z).toNat % 65536 = n
    rw [BitVec.toNat_ofInt]
    omega
  rw [e]
  rfl
theorem s_xor : ∀ k, k < 64 → ∀ e, e < 6 → xorI ((k : Nat) : Int) (shlI 1 ((e : Nat) : Int)) = (((if (k / 2 ^ e) % 2 = 1 then k - 2 ^ e else k + 2 ^ e) : Nat) : Int) ∧ (if (k / 2 ^ e) % 2 = 1 then k - 2 ^ e else k + 2 ^ e) < 64 := by decide +kernel
theorem s_flip : ∀ k, k < 64 → ∀ e, e < 6 → ∀ j, j < 6 → ((if (k / 2 ^ e) % 2 = 1 then k - 2 ^ e else k + 2 ^ e) / 2 ^ j) % 2 = if j = e then 1 - (k / 2 ^ e) % 2 else (k / 2 ^ j) % 2 := by decide +kernel
theorem e_put {R : List Int} (hl : R.length = 36) {n e n2 e2 : Nat} (hn : n < 6) (he : e < 6) (hn2 : n2 < 6) (he2 : e2 < 6) (v : Int) : e_is (putI R ((n : Int) * 6 + (e : Int)) v) (n2 : Int) (e2 : Int) = if n2 = n ∧ e2 = e then decide (v = 1) else e_is R (n2 : Int) (e2 : Int) := by
  unfold e_is
  rw [show (n : Int) * 6 + (e : Int) = ((n * 6 + e : Nat) : Int) by omega, show (n2 : Int) * 6 + (e2 : Int) = ((n2 * 6 + e2 : Nat) : Int) by omega, ratI_putN (by omega)]
  by_cases h : n2 = n ∧ e2 = e
  · rw [if_pos h, if_pos (by omega)]
  · rw [if_neg h, if_neg (by omega)]
theorem mk_xor {z : Int} {R : List Int} {n e : Nat} (h : mkR z R n) (hl : R.length = 36) (hn : n < 6) (he : e < 6) {is : Bool} (hi : e_is R (n : Int) (e : Int) ≠ is) : mkR (xorI z (shlI 1 (e : Int))) (putI R ((n : Int) * 6 + (e : Int)) (if is = true then 1 else 0)) n := by
  obtain ⟨k, rfl, h2, h3⟩ := h
  obtain ⟨x1, x2⟩ := s_xor k h2 e he
  refine ⟨_, x1, x2, fun j hj => ?_⟩
  rw [s_flip k h2 e he j hj, e_put hl hn he hn hj]
  have h5 := h3 e he
  by_cases hje : j = e
  · rw [if_pos hje, if_pos ⟨rfl, hje⟩]
    cases is
    · have : e_is R (n : Int) (e : Int) = true := by
        cases hq : e_is R (n : Int) (e : Int)
        · exact absurd hq hi
        · rfl
      have := h5.mpr this
      constructor
      · intro z; omega
      · intro z; exact absurd (of_decide_eq_true z) (by decide)
    · have : ¬ (k / 2 ^ e) % 2 = 1 := fun z => hi (h5.mp z)
      constructor
      · intro _; rfl
      · intro _; omega
  · rw [if_neg hje, if_neg (fun z => hje z.2)]
    exact h3 j hj
theorem mk_put {z : Int} {R : List Int} {n n2 e : Nat} (h : mkR z R n2) (hl : R.length = 36) (hn : n < 6) (he : e < 6) (hn2 : n2 < 6) (hne : n2 ≠ n) (v : Int) : mkR z (putI R ((n : Int) * 6 + (e : Int)) v) n2 := by
  obtain ⟨k, h1, h2, h3⟩ := h
  refine ⟨k, h1, h2, fun j hj => ?_⟩
  rw [e_put hl hn he hn2 hj, if_neg (fun z => hne z.1)]
  exact h3 j hj
/-- another state behind a record -/
theorem rKB.mk2 {S S' : uMS} {B : uAB} (hB : rKB S B) {s : uSn} {H : List uSn} (hb : blk (S'.2 0) 0 s) (h2 : S'.1 2 = (H.length : Int)) (h4 : H.length ≤ 4) (hh : ∀ j, j < H.length → blk (S'.2 1) (649 * j) (H.getD j ([], []))) (e4 : S'.1 4 = S.1 4) (e28 : S'.1 28 = S.1 28) (f3 : S'.2 3 = S.2 3) (f5 : S'.2 5 = S.2 5) (f29 : S'.2 29 = S.2 29) : rKB S' (B.1, s.1, s.2, H, B.2.2.2.2) := by
  obtain ⟨-, -, h3, h5, h6⟩ := hB
  refine ⟨hb, ⟨⟨h2, h4⟩, hh⟩, ?_, ?_, ?_⟩
  · rw [e4, f3]; exact h3
  · rw [e28, f29]; exact h5
  · rw [f5]; exact h6
theorem f_rec_le (H : List uSn) (s : uSn) (h : H.length ≤ 4) : (f_rec H s).length ≤ 4 := by
  rw [f_rec_len H s h]
  split <;> omega
