/-! the reference: codes and what they take -/
theorem divI_nn {x k : Int} (h1 : 0 ≤ x ∧ x ≤ 2147483647) (h2 : 1 ≤ k ∧ k ≤ 2147483647) : divI x k = x / k := by
  unfold divI
  rw [Int32.toInt_div, u_rng (by omega) (by omega), u_rng (by omega) (by omega), Int.tdiv_eq_ediv_of_nonneg h1.1]
  have e1 : 0 ≤ x / k := Int.ediv_nonneg h1.1 (by omega)
  have e2 : x / k ≤ x := Int.ediv_le_self _ h1.1
  rw [Int.bmod_eq_of_le (by omega) (by omega)]
theorem remI_nn {x k : Int} (h1 : 0 ≤ x ∧ x ≤ 2147483647) (h2 : 1 ≤ k ∧ k ≤ 2147483647) : remI x k = x % k := by
  have e := divI_nn h1 h2
  have e1 : 0 ≤ x % k := Int.emod_nonneg _ (by omega)
  have e2 : x % k < k := Int.emod_lt_of_pos _ (by omega)
  have e3 : Int32.ofInt x / Int32.ofInt k = Int32.ofInt (x / k) := by
    rw [← e]
    unfold divI
    rw [Int32.ofInt_toInt]
  unfold remI
  rw [e3, ← Int32.ofInt_mul, ← Int32.ofInt_sub, show x - x / k * k = x % k by rw [Int.emod_def, Int.mul_comm], u_rng (by omega) (by omega)]
theorem s_bit : ∀ x, x < 256 → ∀ e, e < 8 → andI (shrI ((x : Nat) : Int) ((e : Nat) : Int)) 1 = (((x / 2 ^ e) % 2 : Nat) : Int) := by decide +kernel
theorem s_two : ∀ x, x < 256 → ∀ e, e < 4 → andI (shrI ((x : Nat) : Int) (((2 * e : Nat) : Nat) : Int)) 3 = (((x / 4 ^ e) % 4 : Nat) : Int) := by decide +kernel
theorem mA_ne {S : uMS} {f j g q : Nat} {z : Int} (h : g ≠ f) : (mA S f j z).2 g q = S.2 g q := if_neg (fun x => h x.1)
def uCR (S : uMS) (C : Nat → List Int) : Prop := ∀ r, r < 4 → S.2 27 r = ((C r).length : Int) ∧ (C r).length ≤ 100 ∧ (∀ j, j < (C r).length → S.2 26 (400 * r + j) = ratI (C r) (j : Int)) ∧ ∀ x ∈ C r, -1000000 ≤ x ∧ x ≤ 1000000
theorem ratI_mem {xs : List Int} {j : Nat} (h : j < xs.length) : ratI xs (j : Int) ∈ xs := by
  unfold ratI
  rw [if_pos (by omega), Int.toNat_natCast, List.getD_eq_getElem?_getD, List.getElem?_eq_getElem h]
  exact List.getElem_mem h
theorem c_Mod_bitsOf_6 {h : uHp} {c0 : Int} {Q : uPs} : ∀ (n : Nat) (r b : Int), r < 2 ^ n → (-2147483648 ≤ r ∧ r ≤ 2147483647) → Q (some (ui (bcF n r b))) h → uW mMod_bitsOf 6 [ui c0, ui b, ui r] [] h 0 0 Q := by
  intro n
  induction n with
  | zero =>
    intro r b h1 hr hQ
    refine us_iload_n dMod_bitsOf_6 rfl ?_
    refine us_iconst dMod_bitsOf_7 ?_
    refine us_icmp_le dMod_bitsOf_8 (by omega) (fun c21 => ?_) (fun c21 => absurd (by assumption) (by simp at h1; omega))
    refine us_iload_n dMod_bitsOf_21 rfl ?_
    refine us_ireturn dMod_bitsOf_22 rfl (Nat.le_of_ble_eq_true rfl) (Nat.le_of_ble_eq_true rfl) ?_
    exact hQ
  | succ n ih =>
    intro r b h1 hr hQ
    unfold bcF at hQ
    refine us_iload_n dMod_bitsOf_6 rfl ?_
    refine us_iconst dMod_bitsOf_7 ?_
    refine us_icmp_le dMod_bitsOf_8 (by omega) (fun c1 => ?_) (fun c1 => ?_)
    · skip
      rw [if_pos (by assumption)] at hQ
      refine us_iload_n dMod_bitsOf_21 rfl ?_
      refine us_ireturn dMod_bitsOf_22 rfl (Nat.le_of_ble_eq_true rfl) (Nat.le_of_ble_eq_true rfl) ?_
      exact hQ
    · skip
      rw [if_neg (by omega)] at hQ
      refine us_iinc_1 dMod_bitsOf_11 rfl (Nat.le_of_ble_eq_true rfl) ?_
      refine us_iload_n dMod_bitsOf_14 rfl ?_
      refine us_iconst dMod_bitsOf_15 ?_
      refine us_idivI dMod_bitsOf_16 (by decide) ?_
      refine us_istore_2 dMod_bitsOf_17 rfl (Nat.le_of_ble_eq_true rfl) ?_
      refine us_goto dMod_bitsOf_18 ?_
      have e1 : shrI r 1 = r / 2 := shrI_k (k := 1) (by decide) (by omega) (by omega)
      have e2 : divI r 2 = r / 2 := divI_nn (by omega) (by decide)
      rw [e2, ← e1]
      refine ih _ _ ?_ (by omega) hQ
      rw [e1]
      have : (2 : Int) ^ (n + 1) = 2 * 2 ^ n := by rw [Int.pow_succ]; omega
      omega

theorem c_Mod_bitsOf {h : uHp} {c : Int} {Q : uPs} (hc : -1000000 ≤ c ∧ c ≤ 1000000) (hQ : Q (some (ui (bcI c))) h) : uW mMod_bitsOf 0 [ui c, .null, .null] [] h 0 0 Q := by
  refine us_iconst dMod_bitsOf_0 ?_
  refine us_istore_1 dMod_bitsOf_1 rfl (Nat.le_of_ble_eq_true rfl) ?_
  refine us_iload_n dMod_bitsOf_2 rfl ?_
  refine us_iconst dMod_bitsOf_3 ?_
  refine us_iadd dMod_bitsOf_4 ?_
  refine us_istore_2 dMod_bitsOf_5 rfl (Nat.le_of_ble_eq_true rfl) ?_
  exact c_Mod_bitsOf_6 32 _ _ (by omega) (by omega) hQ

theorem c_Mod_rowBits_4a {h : uHp} {y : Nat} {S : uMS} {C : Nat → List Int} {r : Nat} {Q : uPs} (hC : uCR S C) (hr : r < 4) (hr0 : r = 0) : ∀ (n j : Nat) (s : Int), n + j = (C r).length → Q (some (ui (s + (n : Int) * 2))) (u_mod h y S) → uW mMod_rowBits 4 [.ref y, ui (r : Int), ui s, ui (j : Int)] [] (u_mod h y S) 0 0 Q := by
  obtain ⟨e1, e2, e3, e4⟩ := hC r hr
  intro n
  induction n with
  | zero =>
    intro j s hn hQ
    refine us_iload_n dMod_rowBits_4 rfl ?_
    refine us_aload_n dMod_rowBits_5 rfl ?_
    refine us_getf 9 27 dMod_rowBits_6 kF_Mod_58 md_obj rfl ?_
    refine us_iload_n dMod_rowBits_9 rfl ?_
    refine us_iald r dMod_rowBits_10 md_a17 rfl hr (by omega) rfl ?_
    rw [e1]
    refine us_icmp_ge dMod_rowBits_11 (by omega) (fun c1 => ?_) (fun c1 => absurd c1 (by omega))
    refine us_iload_n dMod_rowBits_46 rfl ?_
    refine us_ireturn dMod_rowBits_47 rfl (Nat.le_of_ble_eq_true rfl) (Nat.le_of_ble_eq_true rfl) ?_
    rw [show s + ((0 : Nat) : Int) * 2 = s by omega] at hQ
    exact hQ
  | succ n ih =>
    intro j s hn hQ
    refine us_iload_n dMod_rowBits_4 rfl ?_
    refine us_aload_n dMod_rowBits_5 rfl ?_
    refine us_getf 9 27 dMod_rowBits_6 kF_Mod_58 md_obj rfl ?_
    refine us_iload_n dMod_rowBits_9 rfl ?_
    refine us_iald r dMod_rowBits_10 md_a17 rfl hr (by omega) rfl ?_
    rw [e1]
    refine us_icmp_ge dMod_rowBits_11 (by omega) (fun c1 => absurd c1 (by omega)) (fun c1 => ?_)
    refine us_iload_n dMod_rowBits_14 rfl ?_
    refine us_iload_n dMod_rowBits_15 rfl ?_
    refine us_if_ne dMod_rowBits_16 (by omega) (fun c2 => absurd c2 (by omega)) (fun c2 => ?_)
    refine us_iconst dMod_rowBits_19 ?_
    refine us_goto dMod_rowBits_20 ?_
    refine us_iadd dMod_rowBits_38 ?_
    refine us_istore_2 dMod_rowBits_39 rfl (Nat.le_of_ble_eq_true rfl) ?_
    refine us_iinc_3 dMod_rowBits_40 rfl (Nat.le_of_ble_eq_true rfl) ?_
    refine us_goto dMod_rowBits_43 ?_
    rw [show (j : Int) + 1 = ((j + 1 : Nat) : Int) from by omega]
    refine ih (j + 1) (s + 2) (by omega) ?_
    rw [show s + 2 + (n : Int) * 2 = s + ((n + 1 : Nat) : Int) * 2 by omega]
    exact hQ

theorem c_Mod_rowBits_4b {h : uHp} {y : Nat} {S : uMS} {C : Nat → List Int} {r : Nat} {Q : uPs} (hC : uCR S C) (hr : r < 4) (hr0 : r ≠ 0) : ∀ (n j : Nat) (s : Int), n + j = (C r).length → Q (some (ui (c_brF C r n j s))) (u_mod h y S) → uW mMod_rowBits 4 [.ref y, ui (r : Int), ui s, ui (j : Int)] [] (u_mod h y S) 0 0 Q := by
  obtain ⟨e1, e2, e3, e4⟩ := hC r hr
  intro n
  induction n with
  | zero =>
    intro j s hn hQ
    refine us_iload_n dMod_rowBits_4 rfl ?_
    refine us_aload_n dMod_rowBits_5 rfl ?_
    refine us_getf 9 27 dMod_rowBits_6 kF_Mod_58 md_obj rfl ?_
    refine us_iload_n dMod_rowBits_9 rfl ?_
    refine us_iald r dMod_rowBits_10 md_a17 rfl hr (by omega) rfl ?_
    rw [e1]
    refine us_icmp_ge dMod_rowBits_11 (by omega) (fun c1 => ?_) (fun c1 => absurd c1 (by omega))
    refine us_iload_n dMod_rowBits_46 rfl ?_
    refine us_ireturn dMod_rowBits_47 rfl (Nat.le_of_ble_eq_true rfl) (Nat.le_of_ble_eq_true rfl) ?_
    exact hQ
  | succ n ih =>
    intro j s hn hQ
    refine us_iload_n dMod_rowBits_4 rfl ?_
    refine us_aload_n dMod_rowBits_5 rfl ?_
    refine us_getf 9 27 dMod_rowBits_6 kF_Mod_58 md_obj rfl ?_
    refine us_iload_n dMod_rowBits_9 rfl ?_
    refine us_iald r dMod_rowBits_10 md_a17 rfl hr (by omega) rfl ?_
    rw [e1]
    refine us_icmp_ge dMod_rowBits_11 (by omega) (fun c1 => absurd c1 (by omega)) (fun c1 => ?_)
    refine us_iload_n dMod_rowBits_14 rfl ?_
    refine us_iload_n dMod_rowBits_15 rfl ?_
    refine us_if_ne dMod_rowBits_16 (by omega) (fun c2 => ?_) (fun c2 => absurd c2 (by omega))
    refine us_aload_n dMod_rowBits_23 rfl ?_
    refine us_getf 9 26 dMod_rowBits_24 kF_Mod_55 md_obj rfl ?_
    refine us_sipush dMod_rowBits_27 (by decide) ?_
    refine us_iload_n dMod_rowBits_30 rfl ?_
    refine us_imul dMod_rowBits_31 ?_
    refine us_iload_n dMod_rowBits_32 rfl ?_
    refine us_iadd dMod_rowBits_33 ?_
    refine us_iald (400 * r + j) dMod_rowBits_34 md_a16 (by omega) (by omega) (by omega) (congrArg ui (e3 j (by omega))) ?_
    refine us_s1 mMod_bitsOf dMod_rowBits_35 kS_Mod_174 ⟨by decide, rfl, rfl, (Nat.le_of_ble_eq_true rfl), (Nat.le_of_ble_eq_true rfl)⟩ (Nat.le_of_ble_eq_true rfl) (Nat.le_of_ble_eq_true rfl) rfl ?_
    refine c_Mod_bitsOf (e4 _ (ratI_mem (by omega))) ?_
    refine u_ko_1 ?_
    refine us_iadd dMod_rowBits_38 ?_
    refine us_istore_2 dMod_rowBits_39 rfl (Nat.le_of_ble_eq_true rfl) ?_
    refine us_iinc_3 dMod_rowBits_40 rfl (Nat.le_of_ble_eq_true rfl) ?_
    refine us_goto dMod_rowBits_43 ?_
    rw [show (j : Int) + 1 = ((j + 1 : Nat) : Int) from by omega]
    refine ih (j + 1) (s + bcI (ratI (C r) (j : Int))) (by omega) ?_
    exact hQ

theorem c_Mod_rowBits {h : uHp} {y : Nat} {S : uMS} {C : Nat → List Int} {Q : uPs} (hC : uCR S C) (r : Nat) (hr : r < 4) (hQ : Q (some (ui (c_br C r))) (u_mod h y S)) : uW mMod_rowBits 0 [.ref y, ui (r : Int), .null, .null] [] (u_mod h y S) 0 0 Q := by
  refine us_iconst dMod_rowBits_0 ?_
  refine us_istore_2 dMod_rowBits_1 rfl (Nat.le_of_ble_eq_true rfl) ?_
  refine us_iconst dMod_rowBits_2 ?_
  refine us_istore_3 dMod_rowBits_3 rfl (Nat.le_of_ble_eq_true rfl) ?_
  unfold c_br at hQ
  by_cases hr0 : r = 0
  · rw [if_pos hr0] at hQ
    refine c_Mod_rowBits_4a hC hr hr0 (C r).length 0 0 rfl ?_
    rw [hr0, Int.zero_add]
    exact hQ
  · rw [if_neg hr0] at hQ
    exact c_Mod_rowBits_4b hC hr hr0 (C r).length 0 0 rfl hQ

theorem c_Mod_pageBits {h : uHp} {y : Nat} {S : uMS} {C : Nat → List Int} {Q : uPs} (hC : uCR S C) (hQ : Q (some (ui (c_ba C))) (u_mod h y S)) : uW mMod_pageBits 0 [.ref y] [] (u_mod h y S) 0 0 Q := by
  refine us_aload_n dMod_pageBits_0 rfl ?_
  refine us_iconst dMod_pageBits_1 ?_
  refine us_v1 mMod_rowBits dMod_pageBits_2 kV_Mod_177 md_obj ⟨by decide, rfl, rfl, (Nat.le_of_ble_eq_true rfl), (Nat.le_of_ble_eq_true rfl)⟩ (Nat.le_of_ble_eq_true rfl) (Nat.le_of_ble_eq_true rfl) rfl ?_
  refine c_Mod_rowBits hC 0 (by decide) ?_
  refine u_ko_1 ?_
  refine us_aload_n dMod_pageBits_5 rfl ?_
  refine us_iconst dMod_pageBits_6 ?_
  refine us_v1 mMod_rowBits dMod_pageBits_7 kV_Mod_177 md_obj ⟨by decide, rfl, rfl, (Nat.le_of_ble_eq_true rfl), (Nat.le_of_ble_eq_true rfl)⟩ (Nat.le_of_ble_eq_true rfl) (Nat.le_of_ble_eq_true rfl) rfl ?_
  refine c_Mod_rowBits hC 1 (by decide) ?_
  refine u_ko_1 ?_
  refine us_iadd dMod_pageBits_10 ?_
  refine us_aload_n dMod_pageBits_11 rfl ?_
  refine us_iconst dMod_pageBits_12 ?_
  refine us_v1 mMod_rowBits dMod_pageBits_13 kV_Mod_177 md_obj ⟨by decide, rfl, rfl, (Nat.le_of_ble_eq_true rfl), (Nat.le_of_ble_eq_true rfl)⟩ (Nat.le_of_ble_eq_true rfl) (Nat.le_of_ble_eq_true rfl) rfl ?_
  refine c_Mod_rowBits hC 2 (by decide) ?_
  refine u_ko_1 ?_
  refine us_iadd dMod_pageBits_16 ?_
  refine us_aload_n dMod_pageBits_17 rfl ?_
  refine us_iconst dMod_pageBits_18 ?_
  refine us_v1 mMod_rowBits dMod_pageBits_19 kV_Mod_177 md_obj ⟨by decide, rfl, rfl, (Nat.le_of_ble_eq_true rfl), (Nat.le_of_ble_eq_true rfl)⟩ (Nat.le_of_ble_eq_true rfl) (Nat.le_of_ble_eq_true rfl) rfl ?_
  refine c_Mod_rowBits hC 3 (by decide) ?_
  refine u_ko_1 ?_
  refine us_iadd dMod_pageBits_22 ?_
  refine us_ireturn dMod_pageBits_23 rfl (Nat.le_of_ble_eq_true rfl) (Nat.le_of_ble_eq_true rfl) ?_
  rw [show c_ba C = c_br C 0 + c_br C 1 + c_br C 2 + c_br C 3 by show 0 + c_br C 0 + c_br C 1 + c_br C 2 + c_br C 3 = _; omega] at hQ
  exact hQ

theorem ratI_app {xs : List Int} {x : Int} (j : Nat) (h : j < xs.length + 1) : ratI (xs ++ [x]) (j : Int) = if j = xs.length then x else ratI xs (j : Int) := by
  have e : ∀ l : List Int, ratI l (j : Int) = l.getD j 0 := fun l => if_pos (by omega)
  rw [e, e, getD_app]
theorem uCR.app {S : uMS} {C : Nat → List Int} (hC : uCR S C) {r : Nat} (hr : r < 4) (hl : (C r).length < 100) {x : Int} (hx : -1000000 ≤ x ∧ x ≤ 1000000) : uCR (mA (mA S 26 (400 * r + (C r).length) x) 27 r (((C r).length : Int) + 1)) (uP C r (appI 100 (C r) x)) := by
  intro q hq
  obtain ⟨e1, e2, e3, e4⟩ := hC q hq
  by_cases hqr : q = r
  · subst hqr
    rw [uP_eq, show appI 100 (C q) x = C q ++ [x] from if_pos hl]
    refine ⟨?_, by rw [List.length_append]; exact hl, fun j hj => ?_, fun z hz => ?_⟩
    · rw [mA_2, if_pos ⟨rfl, rfl⟩, List.length_append]; rfl
    · rw [List.length_append] at hj
      have hj : j < (C q).length + 1 := hj
      rw [mA_2, if_neg (by omega), mA_2, ratI_app j hj]
      by_cases h2 : j = (C q).length
      · rw [if_pos ⟨rfl, by omega⟩, if_pos h2]
      · rw [if_neg (by omega), if_neg h2]
        exact e3 j (by omega)
    · rcases List.mem_append.mp hz with hz | hz
      · exact e4 z hz
      · simp at hz; omega
  · rw [uP_ne hqr]
    refine ⟨?_, e2, fun j hj => ?_, e4⟩
    · rw [mA_2, if_neg (by omega), mA_2, if_neg (by omega)]; exact e1
    · rw [mA_2, if_neg (by omega), mA_2, if_neg (by omega)]; exact e3 j hj
/-- all but the rows of codes -/
def uKC (S S' : uMS) : Prop := S'.1 = S.1 ∧ ∀ f, f ≠ 26 → f ≠ 27 → S'.2 f = S.2 f
theorem uKC.rf {S : uMS} : uKC S S := ⟨rfl, fun _ _ _ => rfl⟩
theorem uKC.tr {S S1 S2 : uMS} (a : uKC S S1) (b : uKC S1 S2) : uKC S S2 := ⟨b.1.trans a.1, fun f x z => (b.2 f x z).trans (a.2 f x z)⟩
theorem c_Mod_codes {h : uHp} {y : Nat} {S : uMS} {C : Nat → List Int} {Q : uPs} {x : Int} (hC : uCR S C) (r : Nat) (hr : r < 4) (hl : (C r).length < 100) (hx : -1000000 ≤ x ∧ x ≤ 1000000) (hQ : ∀ S' : uMS, uCR S' (uP C r (appI 100 (C r) x)) → uKC S S' → Q none (u_mod h y S')) : uW mMod_codes 0 [.ref y, ui (r : Int), ui x] [] (u_mod h y S) 0 0 Q := by
  refine us_aload_n dMod_codes_0 rfl ?_
  refine us_getf 9 26 dMod_codes_1 kF_Mod_55 md_obj rfl ?_
  refine us_sipush dMod_codes_4 (by decide) ?_
  refine us_iload_n dMod_codes_7 rfl ?_
  refine us_imul dMod_codes_8 ?_
  refine us_aload_n dMod_codes_9 rfl ?_
  refine us_getf 9 27 dMod_codes_10 kF_Mod_58 md_obj rfl ?_
  refine us_iload_n dMod_codes_13 rfl ?_
  refine us_iald r dMod_codes_14 md_a17 rfl hr (by omega) rfl ?_
  refine us_iadd dMod_codes_15 ?_
  refine us_iload_n dMod_codes_16 rfl ?_
  refine ms_iast 16 26 ((400 * r + (C r).length)) dMod_codes_17 ⟨by decide, by decide, rfl, rfl⟩ (by rw [(hC r hr).1]; omega) (show _ < 1600 from (by omega)) ?_
  refine us_aload_n dMod_codes_18 rfl ?_
  refine us_getf 9 27 dMod_codes_19 kF_Mod_58 md_obj rfl ?_
  refine us_iload_n dMod_codes_22 rfl ?_
  refine us_dup2 dMod_codes_23 rfl rfl ?_
  refine us_iald r dMod_codes_24 md_a17 rfl hr (by omega) (congrArg ui (show (mA S 26 (400 * r + (C r).length) x).2 27 r = ((C r).length : Int) from (mA_ne (by decide)).trans (hC r hr).1)) ?_
  refine us_iconst dMod_codes_25 ?_
  refine us_iadd dMod_codes_26 ?_
  refine ms_iast 17 27 (r) dMod_codes_27 ⟨by decide, by decide, rfl, rfl⟩ rfl (show _ < 4 from hr) ?_
  refine us_return dMod_codes_28 rfl (Nat.le_of_ble_eq_true rfl) (Nat.le_of_ble_eq_true rfl) ?_
  refine hQ _ (hC.app hr hl hx) ⟨rfl, fun f h1 h2 => ?_⟩
  funext q
  rw [mA_2, if_neg (fun z => h2 z.1), mA_2, if_neg (fun z => h1 z.1)]

