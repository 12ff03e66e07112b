/-! the reference's methods -/
theorem getD_drop {PL : List uPg} {p : Nat} (h : p < PL.dropLast.length) : PL.dropLast.getD p pE = PL.getD p pE := by
  rw [List.getD_eq_getElem?_getD, List.getD_eq_getElem?_getD, List.getElem?_dropLast, if_pos (by rw [List.length_dropLast] at h; exact h)]
theorem ratI_beyond {xs : List Int} {q : Nat} (h : xs.length ≤ q) : ratI xs (q : Int) = 0 := by
  rw [ratI_nat, List.getD_eq_getElem?_getD, List.getElem?_eq_none h]
  rfl
/-- cells that a page's row of rules and pages keeps -/
theorem blk_w {A A' : Nat → Int} {s : uSn} {R : List Int} {PL : List uPg} (h : blk A 0 s) (hm : ∀ n, n < 6 → mkR (A' n) R n) (h6 : A' 6 = (PL.length : Int) ∧ PL.length ≤ 6) (hp : ∀ p, p < PL.length → pgR A' (7 + 107 * p) (PL.getD p pE)) (hl : R.length = 36) : blk A' 0 (R, PL) :=
  ⟨fun n hn => by rw [Nat.zero_add]; exact hm n hn, h6, fun p hp' => by rw [show 0 + 7 + 107 * p = 7 + 107 * p by omega]; exact hp p hp', hl⟩
theorem blk_mk {A : Nat → Int} {s : uSn} (h : blk A 0 s) {n : Nat} (hn : n < 6) : mkR (A n) s.1 n := by have := h.1 n hn; rw [Nat.zero_add] at this; exact this
theorem getD_snoc (PL : List uPg) (P : uPg) (p : Nat) : (PL ++ [P]).getD p pE = if p = PL.length then P else PL.getD p pE := by
  rw [List.getD_eq_getElem?_getD, List.getD_eq_getElem?_getD, List.getElem?_append]
  by_cases h : p < PL.length
  · rw [if_pos h, if_neg (by omega)]
  · rw [if_neg h]
    by_cases h2 : p = PL.length
    · rw [if_pos h2, h2, Nat.sub_self]; rfl
    · rw [if_neg h2, List.getElem?_eq_none (show [P].length ≤ p - PL.length by show 1 ≤ _; omega), List.getElem?_eq_none (by omega)]
theorem blk_pack {A A' : Nat → Int} {R X : List Int} {PL : List uPg} {P : uPg} {Z : uZ} (h : blk A 0 (R, PL)) (hl : PL.length < 6) (h6 : A' 6 = (PL.length : Int) + 1) (hn : ∀ n, n < 6 → A' n = A n) (hq : ∀ q, 7 ≤ q → q < 7 + 107 * PL.length → A' q = A q) (hb : A' (7 + 107 * PL.length) = (X.length : Int)) (hx : ∀ q, q < X.length → A' (7 + 107 * PL.length + 1 + q) = ratI X (q : Int)) (hr : ∀ n, n < 6 → A' (7 + 107 * PL.length + 101 + n) = A n)
    (hX : X.length ≤ 100) (hX2 : ∀ q : Nat, 0 ≤ ratI X (q : Int) ∧ ratI X (q : Int) ≤ 65535) (hP0 : P 0 = X) (hP : (z_read R X Z).1 = P) (hg : (z_read R X Z).2.2.2.2.2.1 = -1) : blk A' 0 (R, PL ++ [P]) := by
  refine blk_w h (fun n hn' => by rw [hn n hn']; exact blk_mk h hn') ⟨by rw [h6, List.length_append]; rfl, by rw [List.length_append]; show PL.length + 1 ≤ 6; omega⟩ (fun p hp => ?_) h.2.2.2
  rw [List.length_append] at hp
  have hp : p < PL.length + 1 := hp
  rw [getD_snoc]
  by_cases hpl : p = PL.length
  · rw [if_pos hpl, hpl]
    refine ⟨R, Z, ?_, fun n hn' => by rw [hr n hn']; exact blk_mk h hn', by rw [hP0]; exact hP, by rw [hP0]; exact hg⟩
    rw [hP0]
    exact ⟨hX, hb, hx, hX2⟩
  · rw [if_neg hpl]
    exact pgR_c (h.pg (p := p) (by show p < PL.length; omega)).1 (fun q hq' => hq _ (by omega) (by omega))
theorem kf_all (PL : List uPg) : PL.take PL.length = PL := List.take_length
theorem d_type {h : uHp} {y : Nat} {S : uMS} {B : uAB} {c : Int} {Q : uPs} (hB : rKB S B) (hcr : 0 ≤ c ∧ c ≤ 65535) (hQ : ∀ S' : uMS, rKB S' (F_type B c).2 → Q (some (ui (F_type B c).1)) (u_mod h y S')) : uW mMod_type 0 [.ref y, ui c] [] (u_mod h y S) 0 0 Q := by
  obtain ⟨X, R, PL, H, has, sn⟩ := B
  have m1 : ∀ n, n < 6 → mkR (S.2 0 n) R n := fun n hn => blk_mk hB.1 hn
  have v6 : S.2 0 6 = (PL.length : Int) := hB.1.2.1.1
  have l6 : PL.length ≤ 6 := hB.1.2.1.2
  have lR : R.length = 36 := hB.1.2.2.2
  have h2 : S.1 2 = (H.length : Int) := hB.2.1.1.1
  have h4 : H.length ≤ 4 := hB.2.1.1.2
  have hH : ∀ j, j < H.length → blk (S.2 1) (649 * j) (H.getD j ([], [])) := hB.2.1.2
  have t1 : S.1 28 = (X.length : Int) := hB.2.2.2.1.1
  have t2 : X.length ≤ 100 := hB.2.2.2.1.2.1
  have t3 : ∀ q, q < X.length → S.2 29 q = ratI X (q : Int) := hB.2.2.2.1.2.2.1
  have t4 : ∀ q : Nat, 0 ≤ ratI X (q : Int) ∧ ratI X (q : Int) ≤ 65535 := hB.2.2.2.1.2.2.2
  have e4 : S.1 4 = (if has = true then 1 else 0) := hB.2.2.1.1
  refine us_aload_n dMod_type_0 rfl ?_
  refine us_getf 9 28 dMod_type_1 kF_Mod_140 md_obj rfl ?_
  refine us_bipush dMod_type_4 (by decide) ?_
  rw [t1]
  refine us_icmp_ne dMod_type_6 (by omega) (fun c1 => ?_) (fun c1 => ?_)
  · skip
    refine us_aload_n dMod_type_12 rfl ?_
    refine us_getf 9 29 dMod_type_13 kF_Mod_61 md_obj rfl ?_
    refine us_aload_n dMod_type_16 rfl ?_
    refine us_getf 9 28 dMod_type_17 kF_Mod_140 md_obj rfl ?_
    rw [t1]
    refine us_iload_n dMod_type_20 rfl ?_
    refine ms_cast 18 29 (X.length) dMod_type_21 ⟨by decide, by decide, rfl, rfl⟩ rfl (show _ < 100 from (by omega)) (nar_c hcr) ?_
    refine us_aload_n dMod_type_22 rfl ?_
    refine us_dup dMod_type_23 rfl ?_
    refine us_getf 9 28 dMod_type_24 kF_Mod_140 md_obj rfl ?_
    rw [show (mA S 29 X.length c).1 28 = (X.length : Int) from t1]
    refine us_iconst dMod_type_27 ?_
    refine us_iadd dMod_type_28 ?_
    refine ms_put 28 dMod_type_29 kP_Mod_140 rfl rfl (md_u28 _ _ _) ?_
    refine us_aload_n dMod_type_32 rfl ?_
    refine us_getf 9 28 dMod_type_33 kF_Mod_140 md_obj rfl ?_
    refine us_ireturn dMod_type_36 rfl (Nat.le_of_ble_eq_true rfl) (Nat.le_of_ble_eq_true rfl) ?_
    rw [show F_type (X, R, PL, H, has, sn) c = ((X.length : Int) + 1, (X ++ [c], R, PL, H, has, sn)) from if_pos (show X.length < 100 by omega)] at hQ
    refine hQ _ ⟨hB.1, hB.2.1, hB.2.2.1, ⟨?_, ?_, fun q hq => ?_, fun q => ?_⟩, hB.2.2.2.2⟩
    · show (X.length : Int) + 1 = ((X ++ [c]).length : Int); rw [List.length_append]; rfl
    · show (X ++ [c]).length ≤ 100; rw [List.length_append]; show X.length + 1 ≤ 100; omega
    · have hq : q < (X ++ [c]).length := hq
      rw [List.length_append] at hq
      have hq : q < X.length + 1 := hq
      show (mA S 29 X.length c).2 29 q = ratI (X ++ [c]) (q : Int)
      rw [mA_2, ratI_app q hq]
      by_cases h1 : q = X.length
      · rw [if_pos ⟨rfl, h1⟩, if_pos h1]
      · rw [if_neg (fun z => h1 z.2), if_neg h1]; exact t3 q (by omega)
    · show 0 ≤ ratI (X ++ [c]) (q : Int) ∧ ratI (X ++ [c]) (q : Int) ≤ 65535
      by_cases hq : q < X.length + 1
      · rw [ratI_app q hq]
        split
        · exact hcr
        · exact t4 q
      · rw [ratI_beyond (by rw [List.length_append]; show X.length + 1 ≤ q; omega)]; decide
  · skip
    refine us_bipush dMod_type_9 (by decide) ?_
    refine us_ireturn dMod_type_11 rfl (Nat.le_of_ble_eq_true rfl) (Nat.le_of_ble_eq_true rfl) ?_
    rw [show F_type (X, R, PL, H, has, sn) c = (-3, (X, R, PL, H, has, sn)) from if_neg (show ¬ X.length < 100 by omega)] at hQ
    exact hQ S hB

theorem d_clear {h : uHp} {y : Nat} {S : uMS} {B : uAB} {Q : uPs} (hB : rKB S B) (hQ : ∀ S' : uMS, rKB S' (F_clear B).2 → Q (some (ui (F_clear B).1)) (u_mod h y S')) : uW mMod_clearText 0 [.ref y, .null] [] (u_mod h y S) 0 0 Q := by
  obtain ⟨X, R, PL, H, has, sn⟩ := B
  have m1 : ∀ n, n < 6 → mkR (S.2 0 n) R n := fun n hn => blk_mk hB.1 hn
  have v6 : S.2 0 6 = (PL.length : Int) := hB.1.2.1.1
  have l6 : PL.length ≤ 6 := hB.1.2.1.2
  have lR : R.length = 36 := hB.1.2.2.2
  have h2 : S.1 2 = (H.length : Int) := hB.2.1.1.1
  have h4 : H.length ≤ 4 := hB.2.1.1.2
  have hH : ∀ j, j < H.length → blk (S.2 1) (649 * j) (H.getD j ([], [])) := hB.2.1.2
  have t1 : S.1 28 = (X.length : Int) := hB.2.2.2.1.1
  have t2 : X.length ≤ 100 := hB.2.2.2.1.2.1
  have t3 : ∀ q, q < X.length → S.2 29 q = ratI X (q : Int) := hB.2.2.2.1.2.2.1
  have t4 : ∀ q : Nat, 0 ≤ ratI X (q : Int) ∧ ratI X (q : Int) ≤ 65535 := hB.2.2.2.1.2.2.2
  have e4 : S.1 4 = (if has = true then 1 else 0) := hB.2.2.1.1
  refine us_aload_n dMod_clearText_0 rfl ?_
  refine us_getf 9 28 dMod_clearText_1 kF_Mod_140 md_obj rfl ?_
  rw [t1]
  refine us_istore_1 dMod_clearText_4 rfl (Nat.le_of_ble_eq_true rfl) ?_
  refine us_aload_n dMod_clearText_5 rfl ?_
  refine us_iconst dMod_clearText_6 ?_
  refine ms_put 28 dMod_clearText_7 kP_Mod_140 rfl rfl (md_u28 _ _ _) ?_
  refine us_iload_n dMod_clearText_10 rfl ?_
  refine us_ireturn dMod_clearText_11 rfl (Nat.le_of_ble_eq_true rfl) (Nat.le_of_ble_eq_true rfl) ?_
  exact hQ _ ⟨hB.1, hB.2.1, hB.2.2.1, ⟨rfl, Nat.zero_le _, fun q hq => absurd hq (Nat.not_lt_zero _), fun q => by show 0 ≤ ratI ([] : List Int) (q : Int) ∧ ratI ([] : List Int) (q : Int) ≤ 65535; rw [show ratI ([] : List Int) (q : Int) = 0 from ratI_beyond (Nat.zero_le _)]; decide⟩, hB.2.2.2.2⟩

theorem d_undo {h : uHp} {y : Nat} {S : uMS} {B : uAB} {Q : uPs} (hB : rKB S B) (hQ : ∀ S' : uMS, rKB S' (F_undo B).2 → Q (some (ui (F_undo B).1)) (u_mod h y S')) : uW mMod_undo 0 [.ref y, .null] [] (u_mod h y S) 0 0 Q := by
  obtain ⟨X, R, PL, H, has, sn⟩ := B
  have m1 : ∀ n, n < 6 → mkR (S.2 0 n) R n := fun n hn => blk_mk hB.1 hn
  have v6 : S.2 0 6 = (PL.length : Int) := hB.1.2.1.1
  have l6 : PL.length ≤ 6 := hB.1.2.1.2
  have lR : R.length = 36 := hB.1.2.2.2
  have h2 : S.1 2 = (H.length : Int) := hB.2.1.1.1
  have h4 : H.length ≤ 4 := hB.2.1.1.2
  have hH : ∀ j, j < H.length → blk (S.2 1) (649 * j) (H.getD j ([], [])) := hB.2.1.2
  have t1 : S.1 28 = (X.length : Int) := hB.2.2.2.1.1
  have t2 : X.length ≤ 100 := hB.2.2.2.1.2.1
  have t3 : ∀ q, q < X.length → S.2 29 q = ratI X (q : Int) := hB.2.2.2.1.2.2.1
  have t4 : ∀ q : Nat, 0 ≤ ratI X (q : Int) ∧ ratI X (q : Int) ≤ 65535 := hB.2.2.2.1.2.2.2
  have e4 : S.1 4 = (if has = true then 1 else 0) := hB.2.2.1.1
  refine us_aload_n dMod_undo_0 rfl ?_
  refine us_getf 9 2 dMod_undo_1 kF_Mod_75 md_obj rfl ?_
  rw [h2]
  refine us_if_ne dMod_undo_4 (by omega) (fun c1 => ?_) (fun c1 => ?_)
  · skip
    have hH0 : ¬ H.length = 0 := by omega
    refine us_aload_n dMod_undo_10 rfl ?_
    refine us_dup dMod_undo_11 rfl ?_
    refine us_getf 9 2 dMod_undo_12 kF_Mod_75 md_obj rfl ?_
    rw [h2]
    refine us_iconst dMod_undo_15 ?_
    refine us_isub dMod_undo_16 ?_
    rw [show (H.length : Int) - 1 = ((H.length - 1 : Nat) : Int) by omega]
    refine ms_put 2 dMod_undo_17 kP_Mod_75 rfl rfl (md_u2 _ _ _) ?_
    refine us_iconst dMod_undo_20 ?_
    refine us_istore_1 dMod_undo_21 rfl (Nat.le_of_ble_eq_true rfl) ?_
    have e := c_Mod_undo_22 (h := h) (y := y) (S := (mI S 2 ((H.length - 1 : Nat) : Int))) (Q := Q) (k := H.length - 1) rfl (by omega) 649 0 rfl ?_
    · rw [mC_zero] at e
      exact e
    refine us_aload_n dMod_undo_56 rfl ?_
    refine us_getf 9 2 dMod_undo_57 kF_Mod_75 md_obj rfl ?_
    refine us_ireturn dMod_undo_60 rfl (Nat.le_of_ble_eq_true rfl) (Nat.le_of_ble_eq_true rfl) ?_
    have hgl : H.getLastD ([], []) = H.getD (H.length - 1) ([], []) := by rw [List.getLastD_eq_getLast?, List.getLast?_eq_getElem?, List.getD_eq_getElem?_getD]
    rw [show F_undo (X, R, PL, H, has, sn) = ((H.length : Int) - 1, (X, (H.getLastD ([], [])).1, (H.getLastD ([], [])).2, H.dropLast, has, sn)) from if_neg hH0, show (H.length : Int) - 1 = ((H.length - 1 : Nat) : Int) by omega] at hQ
    refine hQ (mC (mI S 2 ((H.length - 1 : Nat) : Int)) 0 0 (fun q => (mI S 2 ((H.length - 1 : Nat) : Int)).2 1 (649 * (H.length - 1) + q)) 649) ?_
    refine hB.mk2 (S' := (mC (mI S 2 ((H.length - 1 : Nat) : Int)) 0 0 (fun q => (mI S 2 ((H.length - 1 : Nat) : Int)).2 1 (649 * (H.length - 1) + q)) 649)) (s := H.getLastD ([], [])) (H := H.dropLast) ?_ ?_ ?_ (fun j hj => ?_) rfl rfl ?_ ?_ ?_
    · rw [hgl]
      refine blk_c (hH (H.length - 1) (by omega)) (fun q hq => ?_)
      rw [mC_2, if_pos (by omega)]
      show S.2 1 (649 * (H.length - 1) + (0 + q - 0)) = _
      rw [Nat.zero_add, Nat.sub_zero]
    · rw [List.length_dropLast]; rfl
    · rw [List.length_dropLast]; omega
    · rw [List.length_dropLast] at hj
      rw [List.getD_eq_getElem?_getD, List.getElem?_dropLast, if_pos hj, ← List.getD_eq_getElem?_getD]
      refine blk_c (hH j (by omega)) (fun q hq => ?_)
      rw [mC_ne (by decide)]; rfl
    · funext q; rw [mC_ne (by decide)]; rfl
    · funext q; rw [mC_ne (by decide)]; rfl
    · funext q; rw [mC_ne (by decide)]; rfl
  · skip
    refine us_bipush dMod_undo_7 (by decide) ?_
    refine us_ireturn dMod_undo_9 rfl (Nat.le_of_ble_eq_true rfl) (Nat.le_of_ble_eq_true rfl) ?_
    rw [show F_undo (X, R, PL, H, has, sn) = (-5, (X, R, PL, H, has, sn)) from if_pos (show H.length = 0 by omega)] at hQ
    exact hQ S hB

theorem d_keep {h : uHp} {y : Nat} {S : uMS} {B : uAB} {Q : uPs} (hB : rKB S B) (hQ : ∀ S' : uMS, rKB S' (F_keep B).2 → Q (some (ui (F_keep B).1)) (u_mod h y S')) : uW mMod_keep 0 [.ref y, .null] [] (u_mod h y S) 0 0 Q := by
  obtain ⟨X, R, PL, H, has, sn⟩ := B
  have m1 : ∀ n, n < 6 → mkR (S.2 0 n) R n := fun n hn => blk_mk hB.1 hn
  have v6 : S.2 0 6 = (PL.length : Int) := hB.1.2.1.1
  have l6 : PL.length ≤ 6 := hB.1.2.1.2
  have lR : R.length = 36 := hB.1.2.2.2
  have h2 : S.1 2 = (H.length : Int) := hB.2.1.1.1
  have h4 : H.length ≤ 4 := hB.2.1.1.2
  have hH : ∀ j, j < H.length → blk (S.2 1) (649 * j) (H.getD j ([], [])) := hB.2.1.2
  have t1 : S.1 28 = (X.length : Int) := hB.2.2.2.1.1
  have t2 : X.length ≤ 100 := hB.2.2.2.1.2.1
  have t3 : ∀ q, q < X.length → S.2 29 q = ratI X (q : Int) := hB.2.2.2.1.2.2.1
  have t4 : ∀ q : Nat, 0 ≤ ratI X (q : Int) ∧ ratI X (q : Int) ≤ 65535 := hB.2.2.2.1.2.2.2
  have e4 : S.1 4 = (if has = true then 1 else 0) := hB.2.2.1.1
  refine us_iconst dMod_keep_0 ?_
  refine us_istore_1 dMod_keep_1 rfl (Nat.le_of_ble_eq_true rfl) ?_
  have e := c_Mod_keep_2 (h := h) (y := y) (S := S) (Q := Q) 649 0 rfl ?_
  · rw [mC_zero] at e
    exact e
  refine us_aload_n dMod_keep_27 rfl ?_
  refine us_iconst dMod_keep_28 ?_
  refine ms_put 4 dMod_keep_29 kP_Mod_206 rfl rfl (md_u4 _ _ _) ?_
  refine us_aload_n dMod_keep_32 rfl ?_
  refine us_getf 9 0 dMod_keep_33 kF_Mod_7 md_obj rfl ?_
  refine us_bipush dMod_keep_36 (by decide) ?_
  refine us_iald 6 dMod_keep_38 md_a1 rfl (by decide) (by omega) (show ui ((mC S 3 0 (fun q => S.2 0 q) 649).2 0 6) = ui (PL.length : Int) from congrArg ui ((mC_ne (by decide)).trans v6)) ?_
  refine us_ireturn dMod_keep_39 rfl (Nat.le_of_ble_eq_true rfl) (Nat.le_of_ble_eq_true rfl) ?_
  refine hQ _ ⟨?_, ?_, ⟨rfl, fun _ => ?_⟩, ?_, ?_⟩
  · rw [show (mI (mC S 3 0 (fun q => S.2 0 q) 649) 4 1).2 0 = S.2 0 from by funext q; rw [mI_2, mC_ne (by decide)]]; exact hB.1
  · rw [show (mI (mC S 3 0 (fun q => S.2 0 q) 649) 4 1).2 1 = S.2 1 from by funext q; rw [mI_2, mC_ne (by decide)]]; exact hB.2.1
  · refine blk_c hB.1 (fun q hq => ?_)
    rw [mI_2, mC_2, if_pos (by omega)]; rfl
  · rw [show (mI (mC S 3 0 (fun q => S.2 0 q) 649) 4 1).2 29 = S.2 29 from by funext q; rw [mI_2, mC_ne (by decide)]]; exact hB.2.2.2.1
  · rw [show (mI (mC S 3 0 (fun q => S.2 0 q) 649) 4 1).2 5 = S.2 5 from by funext q; rw [mI_2, mC_ne (by decide)]]; exact hB.2.2.2.2

theorem d_restore {h : uHp} {y : Nat} {S : uMS} {B : uAB} {Q : uPs} (hB : rKB S B) (hQ : ∀ S' : uMS, rKB S' (F_restore B).2 → Q (some (ui (F_restore B).1)) (u_mod h y S')) : uW mMod_restore 0 [.ref y, .null] [] (u_mod h y S) 0 0 Q := by
  obtain ⟨X, R, PL, H, has, sn⟩ := B
  have m1 : ∀ n, n < 6 → mkR (S.2 0 n) R n := fun n hn => blk_mk hB.1 hn
  have v6 : S.2 0 6 = (PL.length : Int) := hB.1.2.1.1
  have l6 : PL.length ≤ 6 := hB.1.2.1.2
  have lR : R.length = 36 := hB.1.2.2.2
  have h2 : S.1 2 = (H.length : Int) := hB.2.1.1.1
  have h4 : H.length ≤ 4 := hB.2.1.1.2
  have hH : ∀ j, j < H.length → blk (S.2 1) (649 * j) (H.getD j ([], [])) := hB.2.1.2
  have t1 : S.1 28 = (X.length : Int) := hB.2.2.2.1.1
  have t2 : X.length ≤ 100 := hB.2.2.2.1.2.1
  have t3 : ∀ q, q < X.length → S.2 29 q = ratI X (q : Int) := hB.2.2.2.1.2.2.1
  have t4 : ∀ q : Nat, 0 ≤ ratI X (q : Int) ∧ ratI X (q : Int) ≤ 65535 := hB.2.2.2.1.2.2.2
  have e4 : S.1 4 = (if has = true then 1 else 0) := hB.2.2.1.1
  by_cases hh : has = true
  · skip
    have hsn : blk (S.2 3) 0 sn := hB.2.2.1.2 hh
    refine us_aload_n dMod_restore_0 rfl ?_
    refine us_getf 9 4 dMod_restore_1 kF_Mod_206 md_obj rfl ?_
    rw [e4, if_pos hh]
    refine us_if_ne dMod_restore_4 (by decide) (fun c41 => ?_) (fun c41 => absurd c41 (by decide))
    refine us_aload_n dMod_restore_10 rfl ?_
    refine us_v0 mMod_record dMod_restore_11 kV_Mod_188 md_obj ⟨by decide, rfl, rfl, (Nat.le_of_ble_eq_true rfl), (Nat.le_of_ble_eq_true rfl)⟩ (Nat.le_of_ble_eq_true rfl) (Nat.le_of_ble_eq_true rfl) rfl ?_
    refine c_Mod_record (s := (R, PL)) h2 h4 hH hB.1 (fun S1 r1 r2 r3 r4 => ?_)
    refine u_ko_0 ?_
    have w6 : S1.2 0 6 = (PL.length : Int) := (congrFun (r4 0 (by decide)) 6).trans v6
    have hB1 : rKB S1 (X, R, PL, f_rec H (R, PL), has, sn) := hB.mk2 (s := (R, PL)) (by rw [r4 0 (by decide)]; exact hB.1) r1 (f_rec_le _ _ h4) r2 (r3 4 (by decide)) (r3 28 (by decide)) (r4 3 (by decide)) (r4 5 (by decide)) (r4 29 (by decide))
    refine us_iconst dMod_restore_14 ?_
    refine us_istore_1 dMod_restore_15 rfl (Nat.le_of_ble_eq_true rfl) ?_
    have e := c_Mod_restore_16 (h := h) (y := y) (S := S1) (Q := Q) 649 0 rfl ?_
    · rw [mC_zero] at e
      exact e
    refine us_aload_n dMod_restore_41 rfl ?_
    refine us_getf 9 0 dMod_restore_42 kF_Mod_7 md_obj rfl ?_
    refine us_bipush dMod_restore_45 (by decide) ?_
    refine us_iald 6 dMod_restore_47 md_a1 rfl (by decide) (by omega) (show ui ((mC S1 0 0 (fun q => S1.2 3 q) 649).2 0 6) = ui (sn.2.length : Int) from by rw [mC_2, if_pos (by omega)]; show ui (S1.2 3 (6 - 0)) = _; rw [r4 3 (by decide)]; exact congrArg ui hsn.2.1.1) ?_
    refine us_ireturn dMod_restore_48 rfl (Nat.le_of_ble_eq_true rfl) (Nat.le_of_ble_eq_true rfl) ?_
    rw [show F_restore (X, R, PL, H, has, sn) = ((sn.2.length : Int), (X, sn.1, sn.2, f_rec H (R, PL), has, sn)) from if_pos hh] at hQ
    refine hQ _ (hB1.mk2 (S' := (mC S1 0 0 (fun q => S1.2 3 q) 649)) (s := sn) ?_ r1 (f_rec_le _ _ h4) ?_ rfl rfl ?_ ?_ ?_)
    · refine blk_c hsn (fun q hq => ?_)
      rw [mC_2, if_pos (by omega)]
      show S1.2 3 (0 + q - 0) = S.2 3 (0 + q)
      rw [r4 3 (by decide), Nat.sub_zero]
    · rw [show (mC S1 0 0 (fun q => S1.2 3 q) 649).2 1 = S1.2 1 from by funext q; rw [mC_ne (by decide)]]; exact r2
    · funext q; rw [mC_ne (by decide)]
    · funext q; rw [mC_ne (by decide)]
    · funext q; rw [mC_ne (by decide)]
  · skip
    refine us_aload_n dMod_restore_0 rfl ?_
    refine us_getf 9 4 dMod_restore_1 kF_Mod_206 md_obj rfl ?_
    rw [e4, if_neg hh]
    refine us_if_ne dMod_restore_4 (by decide) (fun c31 => absurd c31 (by decide)) (fun c31 => ?_)
    refine us_bipush dMod_restore_7 (by decide) ?_
    refine us_ireturn dMod_restore_9 rfl (Nat.le_of_ble_eq_true rfl) (Nat.le_of_ble_eq_true rfl) ?_
    rw [show F_restore (X, R, PL, H, has, sn) = (-5, (X, R, PL, H, has, sn)) from if_neg hh] at hQ
    exact hQ S hB

theorem d_unpack {h : uHp} {y : Nat} {S : uMS} {B : uAB} {Q : uPs} (hB : rKB S B) (hQ : ∀ S' : uMS, rKB S' (F_unpack B).2 → Q (some (ui (F_unpack B).1)) (u_mod h y S')) : uW mMod_unpackLast 0 [.ref y] [] (u_mod h y S) 0 0 Q := by
  obtain ⟨X, R, PL, H, has, sn⟩ := B
  have m1 : ∀ n, n < 6 → mkR (S.2 0 n) R n := fun n hn => blk_mk hB.1 hn
  have v6 : S.2 0 6 = (PL.length : Int) := hB.1.2.1.1
  have l6 : PL.length ≤ 6 := hB.1.2.1.2
  have lR : R.length = 36 := hB.1.2.2.2
  have h2 : S.1 2 = (H.length : Int) := hB.2.1.1.1
  have h4 : H.length ≤ 4 := hB.2.1.1.2
  have hH : ∀ j, j < H.length → blk (S.2 1) (649 * j) (H.getD j ([], [])) := hB.2.1.2
  have t1 : S.1 28 = (X.length : Int) := hB.2.2.2.1.1
  have t2 : X.length ≤ 100 := hB.2.2.2.1.2.1
  have t3 : ∀ q, q < X.length → S.2 29 q = ratI X (q : Int) := hB.2.2.2.1.2.2.1
  have t4 : ∀ q : Nat, 0 ≤ ratI X (q : Int) ∧ ratI X (q : Int) ≤ 65535 := hB.2.2.2.1.2.2.2
  have e4 : S.1 4 = (if has = true then 1 else 0) := hB.2.2.1.1
  refine us_aload_n dMod_unpackLast_0 rfl ?_
  refine us_getf 9 0 dMod_unpackLast_1 kF_Mod_7 md_obj rfl ?_
  refine us_bipush dMod_unpackLast_4 (by decide) ?_
  refine us_iald 6 dMod_unpackLast_6 md_a1 rfl (by decide) (by omega) (congrArg ui v6) ?_
  refine us_if_ne dMod_unpackLast_7 (by omega) (fun c1 => ?_) (fun c1 => ?_)
  · skip
    have hp0 : ¬ PL.length = 0 := by omega
    refine us_aload_n dMod_unpackLast_13 rfl ?_
    refine us_v0 mMod_record dMod_unpackLast_14 kV_Mod_188 md_obj ⟨by decide, rfl, rfl, (Nat.le_of_ble_eq_true rfl), (Nat.le_of_ble_eq_true rfl)⟩ (Nat.le_of_ble_eq_true rfl) (Nat.le_of_ble_eq_true rfl) rfl ?_
    refine c_Mod_record (s := (R, PL)) h2 h4 hH hB.1 (fun S1 r1 r2 r3 r4 => ?_)
    refine u_ko_0 ?_
    have w6 : S1.2 0 6 = (PL.length : Int) := (congrFun (r4 0 (by decide)) 6).trans v6
    have hB1 : rKB S1 (X, R, PL, f_rec H (R, PL), has, sn) := hB.mk2 (s := (R, PL)) (by rw [r4 0 (by decide)]; exact hB.1) r1 (f_rec_le _ _ h4) r2 (r3 4 (by decide)) (r3 28 (by decide)) (r4 3 (by decide)) (r4 5 (by decide)) (r4 29 (by decide))
    refine us_aload_n dMod_unpackLast_17 rfl ?_
    refine us_getf 9 0 dMod_unpackLast_18 kF_Mod_7 md_obj rfl ?_
    refine us_bipush dMod_unpackLast_21 (by decide) ?_
    refine us_dup2 dMod_unpackLast_23 rfl rfl ?_
    refine us_iald 6 dMod_unpackLast_24 md_a1 rfl (by decide) (by omega) (congrArg ui w6) ?_
    refine us_iconst dMod_unpackLast_25 ?_
    refine us_isub dMod_unpackLast_26 ?_
    refine ms_iast 1 0 (6) dMod_unpackLast_27 ⟨by decide, by decide, rfl, rfl⟩ rfl (show _ < 649 from (by decide)) ?_
    refine us_aload_n dMod_unpackLast_28 rfl ?_
    refine us_getf 9 0 dMod_unpackLast_29 kF_Mod_7 md_obj rfl ?_
    refine us_bipush dMod_unpackLast_32 (by decide) ?_
    refine us_iald 6 dMod_unpackLast_34 md_a1 rfl (by decide) (by omega) (show ui ((mA S1 0 6 ((PL.length : Int) - 1)).2 0 6) = ui ((PL.length : Int) - 1) from by rw [mA_2, if_pos ⟨rfl, rfl⟩]) ?_
    refine us_ireturn dMod_unpackLast_35 rfl (Nat.le_of_ble_eq_true rfl) (Nat.le_of_ble_eq_true rfl) ?_
    rw [show F_unpack (X, R, PL, H, has, sn) = ((PL.length : Int) - 1, (X, R, PL.dropLast, f_rec H (R, PL), has, sn)) from if_neg hp0] at hQ
    refine hQ _ (hB1.mk2 (S' := (mA S1 0 6 ((PL.length : Int) - 1))) (s := (R, PL.dropLast)) (blk_w hB1.1 (fun n hn => ?_) ⟨?_, ?_⟩ (fun p hp => ?_) lR) r1 (f_rec_le _ _ h4) ?_ rfl rfl ?_ ?_ ?_)
    · rw [mA_2, if_neg (by omega)]; exact blk_mk hB1.1 hn
    · rw [mA_2, if_pos ⟨rfl, rfl⟩, List.length_dropLast]; omega
    · rw [List.length_dropLast]; omega
    · rw [getD_drop hp]
      rw [List.length_dropLast] at hp
      exact pgR_c (hB1.1.pg (p := p) (by show p < PL.length; omega)).1 (fun q hq => by rw [mA_2, if_neg (by omega)])
    · rw [show (mA S1 0 6 ((PL.length : Int) - 1)).2 1 = S1.2 1 from by funext q; rw [mA_ne (by decide)]]; exact r2
    · funext q; rw [mA_ne (by decide)]
    · funext q; rw [mA_ne (by decide)]
    · funext q; rw [mA_ne (by decide)]
  · skip
    refine us_bipush dMod_unpackLast_10 (by decide) ?_
    refine us_ireturn dMod_unpackLast_12 rfl (Nat.le_of_ble_eq_true rfl) (Nat.le_of_ble_eq_true rfl) ?_
    rw [show F_unpack (X, R, PL, H, has, sn) = (-4, (X, R, PL, H, has, sn)) from if_pos (show PL.length = 0 by omega)] at hQ
    exact hQ S hB

theorem d_rule {h : uHp} {y : Nat} {S : uMS} {B : uAB} {n e : Int} {is : Bool} {Q : uPs} (hB : rKB S B) (hn : -2147483648 ≤ n ∧ n ≤ 2147483647) (he : -2147483648 ≤ e ∧ e ≤ 2147483647) (hQ : ∀ S' : uMS, rKB S' (F_rule B n e is).2 → Q (some (ui (F_rule B n e is).1)) (u_mod h y S')) : uW mMod_rule 0 [.ref y, ui n, ui e, ub is] [] (u_mod h y S) 0 0 Q := by
  obtain ⟨X, R, PL, H, has, sn⟩ := B
  have m1 : ∀ n, n < 6 → mkR (S.2 0 n) R n := fun n hn => blk_mk hB.1 hn
  have v6 : S.2 0 6 = (PL.length : Int) := hB.1.2.1.1
  have l6 : PL.length ≤ 6 := hB.1.2.1.2
  have lR : R.length = 36 := hB.1.2.2.2
  have h2 : S.1 2 = (H.length : Int) := hB.2.1.1.1
  have h4 : H.length ≤ 4 := hB.2.1.1.2
  have hH : ∀ j, j < H.length → blk (S.2 1) (649 * j) (H.getD j ([], [])) := hB.2.1.2
  have t1 : S.1 28 = (X.length : Int) := hB.2.2.2.1.1
  have t2 : X.length ≤ 100 := hB.2.2.2.1.2.1
  have t3 : ∀ q, q < X.length → S.2 29 q = ratI X (q : Int) := hB.2.2.2.1.2.2.1
  have t4 : ∀ q : Nat, 0 ≤ ratI X (q : Int) ∧ ratI X (q : Int) ≤ 65535 := hB.2.2.2.1.2.2.2
  have e4 : S.1 4 = (if has = true then 1 else 0) := hB.2.2.1.1
  refine us_iload_n dMod_rule_0 rfl ?_
  refine us_s1 mMod_noName dMod_rule_1 kS_Mod_184 ⟨by decide, rfl, rfl, (Nat.le_of_ble_eq_true rfl), (Nat.le_of_ble_eq_true rfl)⟩ (Nat.le_of_ble_eq_true rfl) (Nat.le_of_ble_eq_true rfl) rfl ?_
  refine c_Mod_noName hn ?_
  refine u_ko_1 ?_
  refine us_ifb_ne dMod_rule_4 (fun c61 => ?_) (fun c61 => ?_)
  · skip
    have cn : n < 0 ∨ 5 < n := of_decide_eq_true c61
    refine us_iconst dMod_rule_14 ?_
    refine us_ireturn dMod_rule_15 rfl (Nat.le_of_ble_eq_true rfl) (Nat.le_of_ble_eq_true rfl) ?_
    rw [show F_rule (X, R, PL, H, has, sn) n e is = (-1, (X, R, PL, H, has, sn)) from if_neg (by omega)] at hQ
    exact hQ S hB
  · skip
    have cn : ¬ (n < 0 ∨ 5 < n) := of_decide_eq_false c61
    refine us_iload_n dMod_rule_7 rfl ?_
    refine us_s1 mMod_noName dMod_rule_8 kS_Mod_184 ⟨by decide, rfl, rfl, (Nat.le_of_ble_eq_true rfl), (Nat.le_of_ble_eq_true rfl)⟩ (Nat.le_of_ble_eq_true rfl) (Nat.le_of_ble_eq_true rfl) rfl ?_
    refine c_Mod_noName he ?_
    refine u_ko_1 ?_
    refine us_ifb_eq dMod_rule_11 (fun c62 => ?_) (fun c62 => ?_)
    · skip
      have ce : ¬ (e < 0 ∨ 5 < e) := of_decide_eq_false c62
      obtain ⟨n', rfl⟩ : ∃ k9 : Nat, n = (k9 : Int) := ⟨n.toNat, by omega⟩
      obtain ⟨e', rfl⟩ : ∃ k9 : Nat, e = (k9 : Int) := ⟨e.toNat, by omega⟩
      by_cases hei : e_is R (n' : Int) (e' : Int) = true
      · cases is
        · skip
          refine us_aload_n dMod_rule_16 rfl ?_
          refine us_getf 9 0 dMod_rule_17 kF_Mod_7 md_obj rfl ?_
          refine us_iload_n dMod_rule_20 rfl ?_
          refine us_iald n' dMod_rule_21 md_a1 rfl (by omega) (by omega) rfl ?_
          refine us_iload_n dMod_rule_22 rfl ?_
          refine us_ishrI dMod_rule_23 ?_
          refine us_iconst dMod_rule_24 ?_
          refine us_iandI dMod_rule_25 ?_
          rw [mk_val (m1 n' (by omega)) (by omega), if_pos hei]
          refine us_iload_n dMod_rule_26 rfl ?_
          refine us_ifb_eq (b := false) dMod_rule_27 (fun c81 => ?_) (fun c81 => absurd c81 (by decide))
          refine us_iconst dMod_rule_34 ?_
          refine us_icmp_ne dMod_rule_35 (by decide) (fun c81 => ?_) (fun c81 => absurd c81 (by decide))
          refine us_aload_n dMod_rule_41 rfl ?_
          refine us_v0 mMod_record dMod_rule_42 kV_Mod_188 md_obj ⟨by decide, rfl, rfl, (Nat.le_of_ble_eq_true rfl), (Nat.le_of_ble_eq_true rfl)⟩ (Nat.le_of_ble_eq_true rfl) (Nat.le_of_ble_eq_true rfl) rfl ?_
          refine c_Mod_record (s := (R, PL)) h2 h4 hH hB.1 (fun S1 r1 r2 r3 r4 => ?_)
          refine u_ko_0 ?_
          have w6 : S1.2 0 6 = (PL.length : Int) := (congrFun (r4 0 (by decide)) 6).trans v6
          have hB1 : rKB S1 (X, R, PL, f_rec H (R, PL), has, sn) := hB.mk2 (s := (R, PL)) (by rw [r4 0 (by decide)]; exact hB.1) r1 (f_rec_le _ _ h4) r2 (r3 4 (by decide)) (r3 28 (by decide)) (r4 3 (by decide)) (r4 5 (by decide)) (r4 29 (by decide))
          refine us_aload_n dMod_rule_45 rfl ?_
          refine us_getf 9 0 dMod_rule_46 kF_Mod_7 md_obj rfl ?_
          refine us_iload_n dMod_rule_49 rfl ?_
          refine us_dup2 dMod_rule_50 rfl rfl ?_
          refine us_iald n' dMod_rule_51 md_a1 rfl (by omega) (by omega) (show ui (S1.2 0 n') = ui (S.2 0 n') from by rw [r4 0 (by decide)]) ?_
          refine us_iconst dMod_rule_52 ?_
          refine us_iload_n dMod_rule_53 rfl ?_
          refine us_ishlI dMod_rule_54 ?_
          refine us_ixorI dMod_rule_55 ?_
          refine ms_iast 1 0 (n') dMod_rule_56 ⟨by decide, by decide, rfl, rfl⟩ rfl (show _ < 649 from (by omega)) ?_
          refine us_aload_n dMod_rule_57 rfl ?_
          refine us_v0 mMod_rules dMod_rule_58 kV_Mod_191 md_obj ⟨by decide, rfl, rfl, (Nat.le_of_ble_eq_true rfl), (Nat.le_of_ble_eq_true rfl)⟩ (Nat.le_of_ble_eq_true rfl) (Nat.le_of_ble_eq_true rfl) rfl ?_
          have hne : e_is R (n' : Int) (e' : Int) ≠ false := by rw [hei]; decide
          have hm2 : ∀ n2, n2 < 6 → mkR ((mA S1 0 n' (xorI (S.2 0 n') (shlI 1 (e' : Int)))).2 0 n2) (putI R ((n' : Int) * 6 + (e' : Int)) (if false = true then 1 else 0)) n2 := by
            intro n2 hn2
            rw [mA_2]
            by_cases hq : n2 = n'
            · rw [if_pos ⟨rfl, hq⟩, hq]
              exact mk_xor (m1 n' (by omega)) lR (by omega) (by omega) hne
            · rw [if_neg (fun z => hq z.2), r4 0 (by decide)]
              exact mk_put (m1 n2 hn2) lR (by omega) (by omega) hn2 hq _
          refine c_Mod_rules hm2 ((putI_len _ _ _).trans lR) ?_
          refine u_ko_1 ?_
          refine us_ireturn dMod_rule_61 rfl (Nat.le_of_ble_eq_true rfl) (Nat.le_of_ble_eq_true rfl) ?_
          rw [show F_rule (X, R, PL, H, has, sn) (n' : Int) (e' : Int) false = _ from (if_pos (by omega)).trans (if_neg hne)] at hQ
          refine hQ _ (hB1.mk2 (s := (putI R ((n' : Int) * 6 + (e' : Int)) (if false = true then 1 else 0), PL)) (blk_w hB1.1 hm2 ⟨?_, l6⟩ (fun p hp => ?_) ((putI_len _ _ _).trans lR)) r1 (f_rec_le _ _ h4) ?_ rfl rfl ?_ ?_ ?_)
          · rw [mA_2, if_neg (by omega)]; exact w6
          · exact pgR_c (hB1.1.pg (p := p) hp).1 (fun q hq => by rw [mA_2, if_neg (by omega)])
          · refine fun j hj => blk_c (r2 j hj) (fun q hq => by rw [mA_ne (by decide)])
          · funext q; rw [mA_ne (by decide)]
          · funext q; rw [mA_ne (by decide)]
          · funext q; rw [mA_ne (by decide)]
        · skip
          refine us_aload_n dMod_rule_16 rfl ?_
          refine us_getf 9 0 dMod_rule_17 kF_Mod_7 md_obj rfl ?_
          refine us_iload_n dMod_rule_20 rfl ?_
          refine us_iald n' dMod_rule_21 md_a1 rfl (by omega) (by omega) rfl ?_
          refine us_iload_n dMod_rule_22 rfl ?_
          refine us_ishrI dMod_rule_23 ?_
          refine us_iconst dMod_rule_24 ?_
          refine us_iandI dMod_rule_25 ?_
          rw [mk_val (m1 n' (by omega)) (by omega), if_pos hei]
          refine us_iload_n dMod_rule_26 rfl ?_
          refine us_ifb_eq (b := true) dMod_rule_27 (fun c81 => absurd c81 (by decide)) (fun c81 => ?_)
          refine us_iconst dMod_rule_30 ?_
          refine us_goto dMod_rule_31 ?_
          refine us_icmp_ne dMod_rule_35 (by decide) (fun c81 => absurd rfl c81) (fun c81 => ?_)
          refine us_bipush dMod_rule_38 (by decide) ?_
          refine us_ireturn dMod_rule_40 rfl (Nat.le_of_ble_eq_true rfl) (Nat.le_of_ble_eq_true rfl) ?_
          rw [show F_rule (X, R, PL, H, has, sn) (n' : Int) (e' : Int) true = (-5, (X, R, PL, H, has, sn)) from (if_pos (by omega)).trans (if_pos hei)] at hQ
          exact hQ S hB
      · cases is
        · skip
          refine us_aload_n dMod_rule_16 rfl ?_
          refine us_getf 9 0 dMod_rule_17 kF_Mod_7 md_obj rfl ?_
          refine us_iload_n dMod_rule_20 rfl ?_
          refine us_iald n' dMod_rule_21 md_a1 rfl (by omega) (by omega) rfl ?_
          refine us_iload_n dMod_rule_22 rfl ?_
          refine us_ishrI dMod_rule_23 ?_
          refine us_iconst dMod_rule_24 ?_
          refine us_iandI dMod_rule_25 ?_
          rw [mk_val (m1 n' (by omega)) (by omega), if_neg hei]
          refine us_iload_n dMod_rule_26 rfl ?_
          refine us_ifb_eq (b := false) dMod_rule_27 (fun c81 => ?_) (fun c81 => absurd c81 (by decide))
          refine us_iconst dMod_rule_34 ?_
          refine us_icmp_ne dMod_rule_35 (by decide) (fun c81 => absurd rfl c81) (fun c81 => ?_)
          refine us_bipush dMod_rule_38 (by decide) ?_
          refine us_ireturn dMod_rule_40 rfl (Nat.le_of_ble_eq_true rfl) (Nat.le_of_ble_eq_true rfl) ?_
          rw [show F_rule (X, R, PL, H, has, sn) (n' : Int) (e' : Int) false = (-5, (X, R, PL, H, has, sn)) from (if_pos (by omega)).trans (if_pos (Bool.eq_false_iff.mpr hei))] at hQ
          exact hQ S hB
        · skip
          refine us_aload_n dMod_rule_16 rfl ?_
          refine us_getf 9 0 dMod_rule_17 kF_Mod_7 md_obj rfl ?_
          refine us_iload_n dMod_rule_20 rfl ?_
          refine us_iald n' dMod_rule_21 md_a1 rfl (by omega) (by omega) rfl ?_
          refine us_iload_n dMod_rule_22 rfl ?_
          refine us_ishrI dMod_rule_23 ?_
          refine us_iconst dMod_rule_24 ?_
          refine us_iandI dMod_rule_25 ?_
          rw [mk_val (m1 n' (by omega)) (by omega), if_neg hei]
          refine us_iload_n dMod_rule_26 rfl ?_
          refine us_ifb_eq (b := true) dMod_rule_27 (fun c81 => absurd c81 (by decide)) (fun c81 => ?_)
          refine us_iconst dMod_rule_30 ?_
          refine us_goto dMod_rule_31 ?_
          refine us_icmp_ne dMod_rule_35 (by decide) (fun c81 => ?_) (fun c81 => absurd c81 (by decide))
          refine us_aload_n dMod_rule_41 rfl ?_
          refine us_v0 mMod_record dMod_rule_42 kV_Mod_188 md_obj ⟨by decide, rfl, rfl, (Nat.le_of_ble_eq_true rfl), (Nat.le_of_ble_eq_true rfl)⟩ (Nat.le_of_ble_eq_true rfl) (Nat.le_of_ble_eq_true rfl) rfl ?_
          refine c_Mod_record (s := (R, PL)) h2 h4 hH hB.1 (fun S1 r1 r2 r3 r4 => ?_)
          refine u_ko_0 ?_
          have w6 : S1.2 0 6 = (PL.length : Int) := (congrFun (r4 0 (by decide)) 6).trans v6
          have hB1 : rKB S1 (X, R, PL, f_rec H (R, PL), has, sn) := hB.mk2 (s := (R, PL)) (by rw [r4 0 (by decide)]; exact hB.1) r1 (f_rec_le _ _ h4) r2 (r3 4 (by decide)) (r3 28 (by decide)) (r4 3 (by decide)) (r4 5 (by decide)) (r4 29 (by decide))
          refine us_aload_n dMod_rule_45 rfl ?_
          refine us_getf 9 0 dMod_rule_46 kF_Mod_7 md_obj rfl ?_
          refine us_iload_n dMod_rule_49 rfl ?_
          refine us_dup2 dMod_rule_50 rfl rfl ?_
          refine us_iald n' dMod_rule_51 md_a1 rfl (by omega) (by omega) (show ui (S1.2 0 n') = ui (S.2 0 n') from by rw [r4 0 (by decide)]) ?_
          refine us_iconst dMod_rule_52 ?_
          refine us_iload_n dMod_rule_53 rfl ?_
          refine us_ishlI dMod_rule_54 ?_
          refine us_ixorI dMod_rule_55 ?_
          refine ms_iast 1 0 (n') dMod_rule_56 ⟨by decide, by decide, rfl, rfl⟩ rfl (show _ < 649 from (by omega)) ?_
          refine us_aload_n dMod_rule_57 rfl ?_
          refine us_v0 mMod_rules dMod_rule_58 kV_Mod_191 md_obj ⟨by decide, rfl, rfl, (Nat.le_of_ble_eq_true rfl), (Nat.le_of_ble_eq_true rfl)⟩ (Nat.le_of_ble_eq_true rfl) (Nat.le_of_ble_eq_true rfl) rfl ?_
          have hne : e_is R (n' : Int) (e' : Int) ≠ true := fun z => hei z
          have hm2 : ∀ n2, n2 < 6 → mkR ((mA S1 0 n' (xorI (S.2 0 n') (shlI 1 (e' : Int)))).2 0 n2) (putI R ((n' : Int) * 6 + (e' : Int)) (if true = true then 1 else 0)) n2 := by
            intro n2 hn2
            rw [mA_2]
            by_cases hq : n2 = n'
            · rw [if_pos ⟨rfl, hq⟩, hq]
              exact mk_xor (m1 n' (by omega)) lR (by omega) (by omega) hne
            · rw [if_neg (fun z => hq z.2), r4 0 (by decide)]
              exact mk_put (m1 n2 hn2) lR (by omega) (by omega) hn2 hq _
          refine c_Mod_rules hm2 ((putI_len _ _ _).trans lR) ?_
          refine u_ko_1 ?_
          refine us_ireturn dMod_rule_61 rfl (Nat.le_of_ble_eq_true rfl) (Nat.le_of_ble_eq_true rfl) ?_
          rw [show F_rule (X, R, PL, H, has, sn) (n' : Int) (e' : Int) true = _ from (if_pos (by omega)).trans (if_neg hne)] at hQ
          refine hQ _ (hB1.mk2 (s := (putI R ((n' : Int) * 6 + (e' : Int)) (if true = true then 1 else 0), PL)) (blk_w hB1.1 hm2 ⟨?_, l6⟩ (fun p hp => ?_) ((putI_len _ _ _).trans lR)) r1 (f_rec_le _ _ h4) ?_ rfl rfl ?_ ?_ ?_)
          · rw [mA_2, if_neg (by omega)]; exact w6
          · exact pgR_c (hB1.1.pg (p := p) hp).1 (fun q hq => by rw [mA_2, if_neg (by omega)])
          · refine fun j hj => blk_c (r2 j hj) (fun q hq => by rw [mA_ne (by decide)])
          · funext q; rw [mA_ne (by decide)]
          · funext q; rw [mA_ne (by decide)]
          · funext q; rw [mA_ne (by decide)]
    · skip
      have ce : e < 0 ∨ 5 < e := of_decide_eq_true c62
      refine us_iconst dMod_rule_14 ?_
      refine us_ireturn dMod_rule_15 rfl (Nat.le_of_ble_eq_true rfl) (Nat.le_of_ble_eq_true rfl) ?_
      rw [show F_rule (X, R, PL, H, has, sn) n e is = (-1, (X, R, PL, H, has, sn)) from if_neg (by omega)] at hQ
      exact hQ S hB

