/-! whole numbers by way of Int32 -/
def andI (x y : Int) : Int := (Int32.ofInt x &&& Int32.ofInt y).toInt
def orI (x y : Int) : Int := (Int32.ofInt x ||| Int32.ofInt y).toInt
def xorI (x y : Int) : Int := (Int32.ofInt x ^^^ Int32.ofInt y).toInt
def shlI (x y : Int) : Int := (Int32.ofInt x <<< (Int32.ofInt y &&& 31)).toInt
def shrI (x y : Int) : Int := (Int32.ofInt x >>> (Int32.ofInt y &&& 31)).toInt
def divI (x y : Int) : Int := (Int32.ofInt x / Int32.ofInt y).toInt
def remI (x y : Int) : Int := (Int32.ofInt x - Int32.ofInt x / Int32.ofInt y * Int32.ofInt y).toInt
theorem i32_rng (x : Int32) : -2147483648 ≤ x.toInt ∧ x.toInt ≤ 2147483647 := by
  have h1 := x.le_toInt
  have h2 := x.toInt_lt
  omega
section UI
variable {M : uM} {pc np : Nat} {l st : List Value} {h : uHp} {k n : Nat} {Q : uPs} {x y : Int}
theorem us_iandI (hd : uD M.cc pc .iand 1 np) (K : uW M np l (ui (andI x y) :: st) h k n Q) : uW M pc l (ui y :: ui x :: st) h k n Q := us_iand hd (u_topR (Int32.ofInt_toInt _).symm K)
theorem us_iorI (hd : uD M.cc pc .ior 1 np) (K : uW M np l (ui (orI x y) :: st) h k n Q) : uW M pc l (ui y :: ui x :: st) h k n Q := us_ior hd (u_topR (Int32.ofInt_toInt _).symm K)
theorem us_ixorI (hd : uD M.cc pc .ixor 1 np) (K : uW M np l (ui (xorI x y) :: st) h k n Q) : uW M pc l (ui y :: ui x :: st) h k n Q := us_ixor hd (u_topR (Int32.ofInt_toInt _).symm K)
theorem us_ishlI (hd : uD M.cc pc .ishl 1 np) (K : uW M np l (ui (shlI x y) :: st) h k n Q) : uW M pc l (ui y :: ui x :: st) h k n Q := us_ishl hd (u_topR (Int32.ofInt_toInt _).symm K)
theorem us_ishrI (hd : uD M.cc pc .ishr 1 np) (K : uW M np l (ui (shrI x y) :: st) h k n Q) : uW M pc l (ui y :: ui x :: st) h k n Q := us_ishr hd (u_topR (Int32.ofInt_toInt _).symm K)
theorem us_idivI (hd : uD M.cc pc .idiv 1 np) (hne : ¬ Int32.ofInt y = 0) (K : uW M np l (ui (divI x y) :: st) h k n Q) : uW M pc l (ui y :: ui x :: st) h k n Q := us_idiv hd hne (u_topR (Int32.ofInt_toInt _).symm K)
theorem us_iremI (hd : uD M.cc pc .irem 1 np) (hne : ¬ Int32.ofInt y = 0) (K : uW M np l (ui (remI x y) :: st) h k n Q) : uW M pc l (ui y :: ui x :: st) h k n Q := us_irem hd hne (u_topR (Int32.ofInt_toInt _).symm K)
def lcmpI (x y : Int) : Int := if y < x then 1 else if x = y then 0 else -1
theorem lcmpI_rng (x y : Int) : -2147483648 ≤ lcmpI x y ∧ lcmpI x y ≤ 2147483647 := by
  unfold lcmpI
  split
  · omega
  · split <;> omega
theorem lcmpI_0 {x y : Int} : lcmpI x y = 0 ↔ x = y := by
  unfold lcmpI
  by_cases h1 : y < x
  · rw [if_pos h1]; omega
  · rw [if_neg h1]
    by_cases h2 : x = y
    · rw [if_pos h2]; exact ⟨fun _ => h2, fun _ => rfl⟩
    · rw [if_neg h2]; omega
theorem us_lcmpI (hd : uD M.cc pc .lcmp 1 np) (r : -9223372036854775808 ≤ x ∧ x ≤ 9223372036854775807 ∧ -9223372036854775808 ≤ y ∧ y ≤ 9223372036854775807) (K : uW M np l (ui (lcmpI x y) :: st) h k n Q) : uW M pc l (uj y :: uj x :: st) h k n Q := by
  refine us_lcmp hd (u_topR ?_ K)
  have e1 : (Int64.ofInt x > Int64.ofInt y) ↔ y < x := by
    show Int64.ofInt y < Int64.ofInt x ↔ _
    rw [Int64.lt_iff_toInt_lt, u_rngL r.1 r.2.1, u_rngL r.2.2.1 r.2.2.2]
  have e2 : (Int64.ofInt x = Int64.ofInt y) ↔ x = y := by
    rw [← Int64.toInt_inj, u_rngL r.1 r.2.1, u_rngL r.2.2.1 r.2.2.2]
  unfold lg_cmp lcmpI
  by_cases h1 : y < x
  · rw [if_pos (e1.mpr h1), if_pos h1]; rfl
  · rw [if_neg (fun q => h1 (e1.mp q)), if_neg h1]
    by_cases h2 : x = y
    · rw [if_pos (e2.mpr h2), if_pos h2]; rfl
    · rw [if_neg (fun q => h2 (e2.mp q)), if_neg h2]; rfl
end UI
/-! FrontList: a list without doubles, the latest at the front -/
def uFrl (h : uHp) (r L : Nat) (xs : List Int) : Prop := h.2 r = some (.inl (1, [.ref (r + 1), ui xs.length])) ∧ (∃ f : Nat → Value, h.2 (r + 1) = some (.inr (1, L, f)) ∧ ∀ j, j < xs.length → f j = uj (xs.getD j 0)) ∧ xs.length ≤ L ∧ L < 1000 ∧ ∀ x ∈ xs, -1000000000000 ≤ x ∧ x ≤ 1000000000000
theorem uFrl.kept {h h' : uHp} {r L lo hi : Nat} {xs : List Int} (R : uFrl h r L xs) (k : uSm lo hi h h') (d : r + 2 ≤ lo ∨ hi ≤ r) : uFrl h' r L xs := by
  obtain ⟨h1, ⟨f, h2, h3⟩, h4⟩ := R
  exact ⟨k.at h1 (by omega), ⟨f, k.at h2 (by omega), h3⟩, h4⟩
theorem uFrl.rng {h : uHp} {r L : Nat} {xs : List Int} (R : uFrl h r L xs) (j : Nat) : -1000000000000 ≤ xs.getD j 0 ∧ xs.getD j 0 ≤ 1000000000000 := by
  by_cases hj : j < xs.length
  · rw [List.getD_eq_getElem?_getD, List.getElem?_eq_getElem hj]
    exact R.2.2.2.2 _ (List.getElem_mem hj)
  · rw [List.getD_eq_getElem?_getD, List.getElem?_eq_none (by omega)]
    decide
theorem pofI_idx : ∀ (xs : List Int) (x : Int) (k : Nat), pofI xs x k = if xs.idxOf x < xs.length then ((k + xs.idxOf x : Nat) : Int) else -1
  | [], x, k => by simp [pofI]
  | y :: ys, x, k => by
    unfold pofI
    by_cases hy : y = x
    · rw [if_pos hy, List.idxOf_cons]
      simp [hy]
    · rw [if_neg hy, pofI_idx ys x (k + 1), List.idxOf_cons]
      have e : (y == x) = false := by simp [hy]
      simp only [e, cond_false, List.length_cons]
      by_cases hl : ys.idxOf x < ys.length
      · rw [if_pos hl, if_pos (by omega)]
        congr 1
        omega
      · rw [if_neg hl, if_neg (by omega)]
theorem plcI_idx (xs : List Int) (x : Int) : plcI xs x = if xs.idxOf x < xs.length then (xs.idxOf x : Int) else -1 := by
  have := pofI_idx xs x 0
  rw [Nat.zero_add] at this
  exact this
/-- meet: the item comes to the front -/
def mfI (L : Nat) (xs : List Int) (x : Int) : List Int := if xs.idxOf x < L then x :: xs.eraseIdx (xs.idxOf x) else xs
theorem c_Frl_size {h : uHp} {r L : Nat} {xs : List Int} {Q : uPs} (R : uFrl h r L xs) (hQ : Q (some (ui xs.length)) h) : uW mFrl_size 0 [.ref r] [] h 0 0 Q := by
  obtain ⟨hr, ⟨f, ha, hf⟩, hle, hL, hx⟩ := id R
  refine us_aload_n dFrl_size_0 rfl ?_
  refine us_getf 1 1 dFrl_size_1 kF_Frl_21 hr rfl ?_
  refine us_ireturn dFrl_size_4 rfl (Nat.le_of_ble_eq_true rfl) (Nat.le_of_ble_eq_true rfl) ?_
  exact hQ

theorem c_Frl_clear {h : uHp} {r L : Nat} {xs : List Int} {Q : uPs} (R : uFrl h r L xs) (hQ : ∀ h' : uHp, uFrl h' r L [] → uSm r (r + 2) h h' → Q none h') : uW mFrl_clear 0 [.ref r] [] h 0 0 Q := by
  obtain ⟨hr, ⟨f, ha, hf⟩, hle, hL, hx⟩ := id R
  refine us_aload_n dFrl_clear_0 rfl ?_
  refine us_iconst dFrl_clear_1 ?_
  refine us_putf 1 1 dFrl_clear_2 kP_Frl_21 hr rfl rfl ?_
  refine us_return dFrl_clear_5 rfl (Nat.le_of_ble_eq_true rfl) (Nat.le_of_ble_eq_true rfl) ?_
  exact hQ _ ⟨u_set_eq _ _ _, ⟨f, (u_set_ne (by omega)).trans ha, fun j hj => absurd hj (by simp)⟩, Nat.zero_le _, hL, by simp⟩ (uSm.set0 (by omega) (by omega))

theorem c_Frl_at {h : uHp} {r L : Nat} {xs : List Int} {i : Int} {Q : uPs} (R : uFrl h r L xs) (hi : -2147483648 ≤ i ∧ i ≤ 2147483647) (hQ : Q (some (uj (ratI xs i))) h) : uW mFrl_at 0 [.ref r, ui i] [] h 0 0 Q := by
  obtain ⟨hr, ⟨f, ha, hf⟩, hle, hL, hx⟩ := id R
  refine us_iload_n dFrl_at_0 rfl ?_
  refine us_if_lt dFrl_at_1 (by omega) (fun c1 => ?_) (fun c1 => ?_)
  · skip
    have e0 : ratI xs i = 0 := by
      by_cases hi0 : 0 ≤ i
      · rw [show ratI xs i = xs.getD i.toNat 0 from if_pos hi0, List.getD_eq_getElem?_getD, List.getElem?_eq_none (by omega)]; rfl
      · exact if_neg hi0
    rw [e0] at hQ
    refine us_lconst dFrl_at_30 ?_
    try (rw [show ratI xs i = xs.getD i.toNat 0 from if_pos (by omega)] at hQ)
    refine us_lreturn dFrl_at_31 rfl (Nat.le_of_ble_eq_true rfl) (Nat.le_of_ble_eq_true rfl) ?_
    exact hQ
  · skip
    refine us_iload_n dFrl_at_4 rfl ?_
    refine us_aload_n dFrl_at_5 rfl ?_
    refine us_getf 1 1 dFrl_at_6 kF_Frl_21 hr rfl ?_
    refine us_icmp_ge dFrl_at_9 (by omega) (fun c2 => ?_) (fun c2 => ?_)
    · skip
      have e0 : ratI xs i = 0 := by
        by_cases hi0 : 0 ≤ i
        · rw [show ratI xs i = xs.getD i.toNat 0 from if_pos hi0, List.getD_eq_getElem?_getD, List.getElem?_eq_none (by omega)]; rfl
        · exact if_neg hi0
      rw [e0] at hQ
      refine us_lconst dFrl_at_30 ?_
      try (rw [show ratI xs i = xs.getD i.toNat 0 from if_pos (by omega)] at hQ)
      refine us_lreturn dFrl_at_31 rfl (Nat.le_of_ble_eq_true rfl) (Nat.le_of_ble_eq_true rfl) ?_
      exact hQ
    · skip
      refine us_iload_n dFrl_at_12 rfl ?_
      refine us_aload_n dFrl_at_13 rfl ?_
      refine us_getf 1 0 dFrl_at_14 kF_Frl_15 hr rfl ?_
      refine us_alen dFrl_at_17 ha ?_
      refine us_icmp_ge dFrl_at_18 (by omega) (fun c3 => ?_) (fun c3 => ?_)
      · skip
        have e0 : ratI xs i = 0 := by
          by_cases hi0 : 0 ≤ i
          · rw [show ratI xs i = xs.getD i.toNat 0 from if_pos hi0, List.getD_eq_getElem?_getD, List.getElem?_eq_none (by omega)]; rfl
          · exact if_neg hi0
        rw [e0] at hQ
        refine us_lconst dFrl_at_30 ?_
        try (rw [show ratI xs i = xs.getD i.toNat 0 from if_pos (by omega)] at hQ)
        refine us_lreturn dFrl_at_31 rfl (Nat.le_of_ble_eq_true rfl) (Nat.le_of_ble_eq_true rfl) ?_
        exact hQ
      · skip
        refine us_aload_n dFrl_at_21 rfl ?_
        refine us_getf 1 0 dFrl_at_22 kF_Frl_15 hr rfl ?_
        refine us_iload_n dFrl_at_25 rfl ?_
        refine us_lald i.toNat dFrl_at_26 ha (by omega) (by omega) (by omega) (hf i.toNat (by omega)) ?_
        refine us_goto dFrl_at_27 ?_
        try (rw [show ratI xs i = xs.getD i.toNat 0 from if_pos (by omega)] at hQ)
        refine us_lreturn dFrl_at_31 rfl (Nat.le_of_ble_eq_true rfl) (Nat.le_of_ble_eq_true rfl) ?_
        exact hQ

theorem c_Frl_placeOf_2 {h : uHp} {r L : Nat} {xs : List Int} {x : Int} {Q : uPs} (R : uFrl h r L xs) (hxx : -1000000000000 ≤ x ∧ x ≤ 1000000000000) : ∀ (n j : Nat), xs.length + 1 ≤ j + n ∧ j ≤ xs.length → Q (some (ui (pofI (xs.drop j) x j))) h → uW mFrl_placeOf 2 [.ref r, uj x, .null, ui (j : Int)] [] h 0 0 Q := by
  obtain ⟨hr, ⟨f, ha, hf⟩, hle, hL, hx⟩ := id R
  intro n
  induction n with
  | zero => intro j h1; omega
  | succ n ih =>
    intro j h1 hQ
    refine us_iload_n dFrl_placeOf_2 rfl ?_
    refine us_aload_n dFrl_placeOf_3 rfl ?_
    refine us_getf 1 1 dFrl_placeOf_4 kF_Frl_21 hr rfl ?_
    refine us_icmp_ge dFrl_placeOf_7 (by omega) (fun c1 => ?_) (fun c1 => ?_)
    · skip
      refine us_iconst dFrl_placeOf_38 ?_
      refine us_ireturn dFrl_placeOf_39 rfl (Nat.le_of_ble_eq_true rfl) (Nat.le_of_ble_eq_true rfl) ?_
      rw [List.drop_eq_nil_of_le (by omega)] at hQ; exact hQ
    · skip
      refine us_iload_n dFrl_placeOf_10 rfl ?_
      refine us_aload_n dFrl_placeOf_11 rfl ?_
      refine us_getf 1 0 dFrl_placeOf_12 kF_Frl_15 hr rfl ?_
      refine us_alen dFrl_placeOf_15 ha ?_
      refine us_icmp_ge dFrl_placeOf_16 (by omega) (fun c2 => ?_) (fun c2 => ?_)
      · skip
        refine us_iconst dFrl_placeOf_38 ?_
        refine us_ireturn dFrl_placeOf_39 rfl (Nat.le_of_ble_eq_true rfl) (Nat.le_of_ble_eq_true rfl) ?_
        rw [List.drop_eq_nil_of_le (by omega)] at hQ; exact hQ
      · skip
        refine us_aload_n dFrl_placeOf_19 rfl ?_
        refine us_getf 1 0 dFrl_placeOf_20 kF_Frl_15 hr rfl ?_
        refine us_iload_n dFrl_placeOf_23 rfl ?_
        refine us_lald j dFrl_placeOf_24 ha rfl (by omega) (by omega) (hf j (by omega)) ?_
        refine us_lload_n dFrl_placeOf_25 rfl ?_
        refine us_lcmpI dFrl_placeOf_26 (by have := R.rng j; omega) ?_
        refine us_if_ne dFrl_placeOf_27 (lcmpI_rng _ _) (fun c3 => ?_) (fun c3 => ?_)
        · skip
          refine us_iinc_3 dFrl_placeOf_32 rfl (Nat.le_of_ble_eq_true rfl) ?_
          refine us_goto dFrl_placeOf_35 ?_
          rw [pofI_drop (by omega), if_neg (fun q => absurd (lcmpI_0.mpr q) (by assumption))] at hQ
          exact ih (j + 1) ⟨by omega, by omega⟩ hQ
        · skip
          refine us_iload_n dFrl_placeOf_30 rfl ?_
          refine us_ireturn dFrl_placeOf_31 rfl (Nat.le_of_ble_eq_true rfl) (Nat.le_of_ble_eq_true rfl) ?_
          rw [pofI_drop (by omega), if_pos (lcmpI_0.mp (by assumption))] at hQ; exact hQ

theorem c_Frl_placeOf {h : uHp} {r L : Nat} {xs : List Int} {x : Int} {Q : uPs} (R : uFrl h r L xs) (hxx : -1000000000000 ≤ x ∧ x ≤ 1000000000000) (hQ : Q (some (ui (plcI xs x))) h) : uW mFrl_placeOf 0 [.ref r, uj x, .null, .null] [] h 0 0 Q := by
  obtain ⟨hr, ⟨f, ha, hf⟩, hle, hL, hx⟩ := id R
  refine us_iconst dFrl_placeOf_0 ?_
  refine us_istore_3 dFrl_placeOf_1 rfl (Nat.le_of_ble_eq_true rfl) ?_
  exact c_Frl_placeOf_2 R hxx (xs.length + 1) 0 ⟨by omega, by omega⟩ hQ

theorem c_Frl_meet_51 {h0 : uHp} {r L p s : Nat} {g : Nat → Value} {x : Int} {Q : uPs} (hp : p < L) (hL : L < 1000) (hg : ∀ q, q < p → ∃ z : Int64, g q = .long z) (hQ : ∀ (h' : uHp) (f : Nat → Value), h'.2 r = some (.inl (1, [.ref (r + 1), ui (s : Int)])) → h'.2 (r + 1) = some (.inr (1, L, f)) → (∀ q, f q = if q = 0 then uj x else if q ≤ p then g (q - 1) else g q) → uSm r (r + 2) h0 h' → Q none h') : ∀ (n b : Nat) (h : uHp) (f : Nat → Value), b + 1 ≤ n ∧ b ≤ p → h.2 r = some (.inl (1, [.ref (r + 1), ui (s : Int)])) → h.2 (r + 1) = some (.inr (1, L, f)) → (∀ q, f q = if b < q ∧ q ≤ p then g (q - 1) else g q) → uSm r (r + 2) h0 h → uW mFrl_meet 51 [.ref r, uj x, .null, ui (p : Int), ui (b : Int)] [] h 0 0 Q := by
  intro n
  induction n with
  | zero => intro b h f h1; omega
  | succ n ih =>
    intro b h f h1 hr ha hf hs
    refine us_iload dFrl_meet_51 rfl ?_
    refine us_if_le dFrl_meet_53 (by omega) (fun c1 => ?_) (fun c1 => ?_)
    · skip
      refine us_aload_n dFrl_meet_78 rfl ?_
      refine us_getf 1 0 dFrl_meet_79 kF_Frl_15 hr rfl ?_
      refine us_iconst dFrl_meet_82 ?_
      refine us_lload_n dFrl_meet_83 rfl ?_
      refine us_last 0 dFrl_meet_84 ha rfl (by omega) (by omega) ?_
      refine us_return dFrl_meet_85 rfl (Nat.le_of_ble_eq_true rfl) (Nat.le_of_ble_eq_true rfl) ?_
      refine hQ _ _ ((u_set_ne (by omega)).trans hr) (u_set_eq _ _ _) (fun q => ?_) (hs.set (by omega) (by omega))
      unfold updV
      by_cases hq0 : q = 0
      · rw [if_pos hq0, if_pos hq0]
      · rw [if_neg hq0, if_neg hq0, hf q]
        by_cases hc : q ≤ p
        · rw [if_pos hc, if_pos (by omega)]
        · rw [if_neg hc, if_neg (by omega)]
    · skip
      refine us_aload_n dFrl_meet_56 rfl ?_
      refine us_getf 1 0 dFrl_meet_57 kF_Frl_15 hr rfl ?_
      refine us_iload dFrl_meet_60 rfl ?_
      refine us_aload_n dFrl_meet_62 rfl ?_
      refine us_getf 1 0 dFrl_meet_63 kF_Frl_15 hr rfl ?_
      refine us_iload dFrl_meet_66 rfl ?_
      refine us_iconst dFrl_meet_68 ?_
      refine us_isub dFrl_meet_69 ?_
      refine us_lald (b - 1) dFrl_meet_70 ha (by omega) (by omega) (by omega) rfl ?_
      rw [hf (b - 1), if_neg (by omega)]
      obtain ⟨z, hz⟩ := hg (b - 1) (by omega)
      rw [hz]
      refine us_last b dFrl_meet_71 ha rfl (by omega) (by omega) ?_
      refine us_iinc_4 dFrl_meet_72 rfl (Nat.le_of_ble_eq_true rfl) ?_
      refine us_goto dFrl_meet_75 ?_
      have e1 : (b : Int) + -1 = ((b - 1 : Nat) : Int) := by omega
      rw [e1]
      refine ih (b - 1) _ _ ⟨by omega, by omega⟩ ((u_set_ne (by omega)).trans hr) (u_set_eq _ _ _) (fun q => ?_) (hs.set (by omega) (by omega))
      unfold updV
      by_cases hqb : q = b
      · rw [if_pos hqb, hqb, if_pos (by omega), hz]
      · rw [if_neg hqb, hf q]
        by_cases hc : b < q ∧ q ≤ p
        · rw [if_pos hc, if_pos (by omega)]
        · rw [if_neg hc, if_neg (by omega)]

theorem c_Frl_meet_30 {h : uHp} {r L p s s2 : Nat} {f : Nat → Value} {x : Int} {Q : uPs} (hr : h.2 r = some (.inl (1, [.ref (r + 1), ui (s : Int)]))) (ha : h.2 (r + 1) = some (.inr (1, L, f))) (hp : p < L) (hL : L < 1000) (hsL : s ≤ L) (hg : ∀ q, q < p → ∃ z : Int64, f q = .long z) (hss : s2 = if p = s then s + 1 else s)
  (hQ : ∀ (h' : uHp) (f' : Nat → Value), h'.2 r = some (.inl (1, [.ref (r + 1), ui (s2 : Int)])) → h'.2 (r + 1) = some (.inr (1, L, f')) → (∀ q, f' q = if q = 0 then uj x else if q ≤ p then f (q - 1) else f q) → uSm r (r + 2) h h' → Q none h') : uW mFrl_meet 30 [.ref r, uj x, .null, ui (p : Int), .null] [] h 0 0 Q := by
  refine us_iload_n dFrl_meet_30 rfl ?_
  refine us_aload_n dFrl_meet_31 rfl ?_
  refine us_getf 1 1 dFrl_meet_32 kF_Frl_21 hr rfl ?_
  refine us_icmp_ne dFrl_meet_35 (by omega) (fun c1 => ?_) (fun c1 => ?_)
  · skip
    refine us_iload_n dFrl_meet_48 rfl ?_
    refine us_istore_4 dFrl_meet_49 rfl (Nat.le_of_ble_eq_true rfl) ?_
    first
      | (have e2 : s2 = s + 1 := by rw [hss]; exact if_pos (by omega)
         rw [e2] at hQ
         exact c_Frl_meet_51 hp hL hg hQ (p + 1) p _ f ⟨Nat.le_refl _, Nat.le_refl _⟩ (u_set_eq _ _ _) ((u_set_ne (by omega)).trans ha) (fun q => by rw [if_neg (by omega)]) (uSm.set0 (by omega) (by omega)))
      | (have e2 : s2 = s := by rw [hss]; exact if_neg (by omega)
         rw [e2] at hQ
         exact c_Frl_meet_51 hp hL hg hQ (p + 1) p _ f ⟨Nat.le_refl _, Nat.le_refl _⟩ hr ha (fun q => by rw [if_neg (by omega)]) uSm.rf)
  · skip
    refine us_aload_n dFrl_meet_38 rfl ?_
    refine us_dup dFrl_meet_39 rfl ?_
    refine us_getf 1 1 dFrl_meet_40 kF_Frl_21 hr rfl ?_
    refine us_iconst dFrl_meet_43 ?_
    refine us_iadd dFrl_meet_44 ?_
    refine us_putf 1 1 dFrl_meet_45 kP_Frl_21 hr rfl rfl ?_
    refine us_iload_n dFrl_meet_48 rfl ?_
    refine us_istore_4 dFrl_meet_49 rfl (Nat.le_of_ble_eq_true rfl) ?_
    first
      | (have e2 : s2 = s + 1 := by rw [hss]; exact if_pos (by omega)
         rw [e2] at hQ
         exact c_Frl_meet_51 hp hL hg hQ (p + 1) p _ f ⟨Nat.le_refl _, Nat.le_refl _⟩ (u_set_eq _ _ _) ((u_set_ne (by omega)).trans ha) (fun q => by rw [if_neg (by omega)]) (uSm.set0 (by omega) (by omega)))
      | (have e2 : s2 = s := by rw [hss]; exact if_neg (by omega)
         rw [e2] at hQ
         exact c_Frl_meet_51 hp hL hg hQ (p + 1) p _ f ⟨Nat.le_refl _, Nat.le_refl _⟩ hr ha (fun q => by rw [if_neg (by omega)]) uSm.rf)

theorem getD_mf (xs : List Int) (x : Int) (p j : Nat) : (x :: xs.eraseIdx p).getD j 0 = if j = 0 then x else if j ≤ p then xs.getD (j - 1) 0 else xs.getD j 0 := by
  cases j with
  | zero => rfl
  | succ j =>
    rw [if_neg (by omega)]
    simp only [List.getD_eq_getElem?_getD, List.getElem?_cons_succ, List.getElem?_eraseIdx, Nat.add_sub_cancel]
    by_cases hj : j < p
    · rw [if_pos hj, if_pos (by omega)]
    · rw [if_neg hj, if_neg (by omega)]
theorem mfI_len {L : Nat} {xs : List Int} {x : Int} (h : xs.idxOf x < L) : (mfI L xs x).length = if xs.idxOf x = xs.length then xs.length + 1 else xs.length := by
  unfold mfI
  rw [if_pos h, List.length_cons, List.length_eraseIdx]
  have h1 : xs.idxOf x ≤ xs.length := List.idxOf_le_length
  by_cases h2 : xs.idxOf x = xs.length
  · rw [if_pos h2, if_neg (by omega)]
  · rw [if_neg h2, if_pos (by omega)]
    omega
theorem c_Frl_meet {h : uHp} {r L : Nat} {xs : List Int} {x : Int} {Q : uPs} (R : uFrl h r L xs) (hxx : -1000000000000 ≤ x ∧ x ≤ 1000000000000) (hQ : ∀ h' : uHp, uFrl h' r L (mfI L xs x) → uSm r (r + 2) h h' → Q none h') : uW mFrl_meet 0 [.ref r, uj x, .null, .null, .null] [] h 0 0 Q := by
  obtain ⟨hr, ⟨f, ha, hf⟩, hle, hL, hx⟩ := id R
  refine us_aload_n dFrl_meet_0 rfl ?_
  refine us_lload_n dFrl_meet_1 rfl ?_
  refine us_v1 mFrl_placeOf dFrl_meet_2 kV_Frl_25 hr ⟨by decide, rfl, rfl, (Nat.le_of_ble_eq_true rfl), (Nat.le_of_ble_eq_true rfl)⟩ (Nat.le_of_ble_eq_true rfl) (Nat.le_of_ble_eq_true rfl) rfl ?_
  refine c_Frl_placeOf R hxx ?_
  refine u_ko_1 ?_
  rw [plcI_idx]
  have hil := List.idxOf_le_length (l := xs) (a := x)
  by_cases hin : xs.idxOf x < xs.length
  · rw [if_pos hin]
    refine us_istore_3 dFrl_meet_5 rfl (Nat.le_of_ble_eq_true rfl) ?_
    refine us_iload_n dFrl_meet_6 rfl ?_
    refine us_iconst dFrl_meet_7 ?_
    refine us_icmp_ne dFrl_meet_8 (by omega) (fun c51 => ?_) (fun c51 => absurd (by assumption) (by omega))
    refine us_iload_n dFrl_meet_16 rfl ?_
    refine us_if_lt dFrl_meet_17 (by omega) (fun c52 => absurd c52 (by omega)) (fun c52 => ?_)
    refine us_iload_n dFrl_meet_20 rfl ?_
    refine us_aload_n dFrl_meet_21 rfl ?_
    refine us_getf 1 0 dFrl_meet_22 kF_Frl_15 hr rfl ?_
    refine us_alen dFrl_meet_25 ha ?_
    refine us_icmp_lt dFrl_meet_26 (by omega) (fun c53 => ?_) (fun c53 => ?_)
    · skip
      have hp : xs.idxOf x < L := by omega
      refine c_Frl_meet_30 (p := xs.idxOf x) (s := xs.length) hr ha hp hL hle (fun q hq => ⟨_, hf q (by have := List.idxOf_le_length (l := xs) (a := x); omega)⟩) rfl (fun h' f' a1 a2 a3 a4 => ?_)
      refine hQ h' ⟨by rw [mfI_len hp, a1], ⟨f', a2, fun j hj => ?_⟩, by rw [mfI_len hp]; have := List.idxOf_le_length (l := xs) (a := x); split <;> omega, hL, fun y hy => ?_⟩ a4
      · rw [mfI_len hp] at hj
        rw [a3 j]; unfold mfI; rw [if_pos hp, getD_mf]
        by_cases j0 : j = 0
        · rw [if_pos j0, if_pos j0]
        · rw [if_neg j0, if_neg j0]
          have hil := List.idxOf_le_length (l := xs) (a := x)
          by_cases jp : j ≤ xs.idxOf x
          · rw [if_pos jp, if_pos jp]; exact hf (j - 1) (by omega)
          · rw [if_neg jp, if_neg jp]; exact hf j (by split at hj <;> omega)
      · unfold mfI at hy; rw [if_pos hp] at hy
        rcases List.mem_cons.mp hy with hy | hy
        · rw [hy]; exact hxx
        · exact hx y (List.eraseIdx_subset hy)
    · skip
      rw [show mfI L xs x = xs from if_neg (by omega)] at hQ
      refine us_return dFrl_meet_29 rfl (Nat.le_of_ble_eq_true rfl) (Nat.le_of_ble_eq_true rfl) ?_
      exact hQ _ R uSm.rf
  · rw [if_neg hin]
    have hip : xs.idxOf x = xs.length := by omega
    refine us_istore_3 dFrl_meet_5 rfl (Nat.le_of_ble_eq_true rfl) ?_
    refine us_iload_n dFrl_meet_6 rfl ?_
    refine us_iconst dFrl_meet_7 ?_
    refine us_icmp_ne dFrl_meet_8 (by omega) (fun c51 => absurd rfl (by assumption)) (fun c51 => ?_)
    refine us_aload_n dFrl_meet_11 rfl ?_
    refine us_getf 1 1 dFrl_meet_12 kF_Frl_21 hr rfl ?_
    refine us_istore_3 dFrl_meet_15 rfl (Nat.le_of_ble_eq_true rfl) ?_
    have e9 : ((xs.length : Nat) : Int) = ((xs.idxOf x : Nat) : Int) := by omega
    rw [e9]
    refine us_iload_n dFrl_meet_16 rfl ?_
    refine us_if_lt dFrl_meet_17 (by omega) (fun c52 => absurd c52 (by omega)) (fun c52 => ?_)
    refine us_iload_n dFrl_meet_20 rfl ?_
    refine us_aload_n dFrl_meet_21 rfl ?_
    refine us_getf 1 0 dFrl_meet_22 kF_Frl_15 hr rfl ?_
    refine us_alen dFrl_meet_25 ha ?_
    refine us_icmp_lt dFrl_meet_26 (by omega) (fun c53 => ?_) (fun c53 => ?_)
    · skip
      have hp : xs.idxOf x < L := by omega
      refine c_Frl_meet_30 (p := xs.idxOf x) (s := xs.length) hr ha hp hL hle (fun q hq => ⟨_, hf q (by have := List.idxOf_le_length (l := xs) (a := x); omega)⟩) rfl (fun h' f' a1 a2 a3 a4 => ?_)
      refine hQ h' ⟨by rw [mfI_len hp, a1], ⟨f', a2, fun j hj => ?_⟩, by rw [mfI_len hp]; have := List.idxOf_le_length (l := xs) (a := x); split <;> omega, hL, fun y hy => ?_⟩ a4
      · rw [mfI_len hp] at hj
        rw [a3 j]; unfold mfI; rw [if_pos hp, getD_mf]
        by_cases j0 : j = 0
        · rw [if_pos j0, if_pos j0]
        · rw [if_neg j0, if_neg j0]
          have hil := List.idxOf_le_length (l := xs) (a := x)
          by_cases jp : j ≤ xs.idxOf x
          · rw [if_pos jp, if_pos jp]; exact hf (j - 1) (by omega)
          · rw [if_neg jp, if_neg jp]; exact hf j (by split at hj <;> omega)
      · unfold mfI at hy; rw [if_pos hp] at hy
        rcases List.mem_cons.mp hy with hy | hy
        · rw [hy]; exact hxx
        · exact hx y (List.eraseIdx_subset hy)
    · skip
      rw [show mfI L xs x = xs from if_neg (by omega)] at hQ
      refine us_return dFrl_meet_29 rfl (Nat.le_of_ble_eq_true rfl) (Nat.le_of_ble_eq_true rfl) ?_
      exact hQ _ R uSm.rf

