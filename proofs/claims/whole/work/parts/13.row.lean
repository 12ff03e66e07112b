/-! Row: a row of numbers -/
theorem c_Row_size {h : uHp} {r L : Nat} {xs : List Int} {Q : uPs} (R : uRow h r L xs) (hQ : Q (some (ui xs.length)) h) : uW mRow_size 0 [.ref r] [] h 0 0 Q := by
  obtain ⟨hr, ⟨f, ha, hf⟩, hle, hL, hx⟩ := id R
  refine us_aload_n dRow_size_0 rfl ?_
  refine us_getf 6 1 dRow_size_1 kF_Row_21 hr rfl ?_
  refine us_ireturn dRow_size_4 rfl (Nat.le_of_ble_eq_true rfl) (Nat.le_of_ble_eq_true rfl) ?_
  exact hQ

theorem c_Row_clear {h : uHp} {r L : Nat} {xs : List Int} {Q : uPs} (R : uRow h r L xs) (hQ : ∀ h' : uHp, uRow h' r L [] → uSm r (r + 2) h h' → Q none h') : uW mRow_clear 0 [.ref r] [] h 0 0 Q := by
  obtain ⟨hr, ⟨f, ha, hf⟩, hle, hL, hx⟩ := id R
  refine us_aload_n dRow_clear_0 rfl ?_
  refine us_iconst dRow_clear_1 ?_
  refine us_putf 6 1 dRow_clear_2 kP_Row_21 hr rfl rfl ?_
  refine us_return dRow_clear_5 rfl (Nat.le_of_ble_eq_true rfl) (Nat.le_of_ble_eq_true rfl) ?_
  exact hQ _ ⟨u_set_eq _ _ _, ⟨f, (u_set_ne (by omega)).trans ha, fun j hj => absurd hj (by simp)⟩, Nat.zero_le _, hL, by simp⟩ (uSm.set0 (by omega) (by omega))

theorem c_Row_at {h : uHp} {r L : Nat} {xs : List Int} {i : Int} {Q : uPs} (R : uRow h r L xs) (hi : -2147483648 ≤ i ∧ i ≤ 2147483647) (hQ : Q (some (ui (ratI xs i))) h) : uW mRow_at 0 [.ref r, ui i] [] h 0 0 Q := by
  obtain ⟨hr, ⟨f, ha, hf⟩, hle, hL, hx⟩ := id R
  refine us_iload_n dRow_at_0 rfl ?_
  refine us_if_lt dRow_at_1 (by omega) (fun c1 => ?_) (fun c1 => ?_)
  · skip
    have e0 : ratI xs i = 0 := by
      by_cases hi0 : 0 ≤ i
      · rw [show ratI xs i = xs.getD i.toNat 0 from if_pos hi0, List.getD_eq_getElem?_getD, List.getElem?_eq_none (by omega)]; rfl
      · exact if_neg hi0
    rw [e0] at hQ
    refine us_iconst dRow_at_30 ?_
    try (rw [show ratI xs i = xs.getD i.toNat 0 from if_pos (by omega)] at hQ)
    refine us_ireturn dRow_at_31 rfl (Nat.le_of_ble_eq_true rfl) (Nat.le_of_ble_eq_true rfl) ?_
    exact hQ
  · skip
    refine us_iload_n dRow_at_4 rfl ?_
    refine us_aload_n dRow_at_5 rfl ?_
    refine us_getf 6 1 dRow_at_6 kF_Row_21 hr rfl ?_
    refine us_icmp_ge dRow_at_9 (by omega) (fun c2 => ?_) (fun c2 => ?_)
    · skip
      have e0 : ratI xs i = 0 := by
        by_cases hi0 : 0 ≤ i
        · rw [show ratI xs i = xs.getD i.toNat 0 from if_pos hi0, List.getD_eq_getElem?_getD, List.getElem?_eq_none (by omega)]; rfl
        · exact if_neg hi0
      rw [e0] at hQ
      refine us_iconst dRow_at_30 ?_
      try (rw [show ratI xs i = xs.getD i.toNat 0 from if_pos (by omega)] at hQ)
      refine us_ireturn dRow_at_31 rfl (Nat.le_of_ble_eq_true rfl) (Nat.le_of_ble_eq_true rfl) ?_
      exact hQ
    · skip
      refine us_iload_n dRow_at_12 rfl ?_
      refine us_aload_n dRow_at_13 rfl ?_
      refine us_getf 6 0 dRow_at_14 kF_Row_15 hr rfl ?_
      refine us_alen dRow_at_17 ha ?_
      refine us_icmp_ge dRow_at_18 (by omega) (fun c3 => ?_) (fun c3 => ?_)
      · skip
        have e0 : ratI xs i = 0 := by
          by_cases hi0 : 0 ≤ i
          · rw [show ratI xs i = xs.getD i.toNat 0 from if_pos hi0, List.getD_eq_getElem?_getD, List.getElem?_eq_none (by omega)]; rfl
          · exact if_neg hi0
        rw [e0] at hQ
        refine us_iconst dRow_at_30 ?_
        try (rw [show ratI xs i = xs.getD i.toNat 0 from if_pos (by omega)] at hQ)
        refine us_ireturn dRow_at_31 rfl (Nat.le_of_ble_eq_true rfl) (Nat.le_of_ble_eq_true rfl) ?_
        exact hQ
      · skip
        refine us_aload_n dRow_at_21 rfl ?_
        refine us_getf 6 0 dRow_at_22 kF_Row_15 hr rfl ?_
        refine us_iload_n dRow_at_25 rfl ?_
        refine us_iald i.toNat dRow_at_26 ha (by omega) (by omega) (by omega) (hf i.toNat (by omega)) ?_
        refine us_goto dRow_at_27 ?_
        try (rw [show ratI xs i = xs.getD i.toNat 0 from if_pos (by omega)] at hQ)
        refine us_ireturn dRow_at_31 rfl (Nat.le_of_ble_eq_true rfl) (Nat.le_of_ble_eq_true rfl) ?_
        exact hQ

theorem c_Row_add {h : uHp} {r L : Nat} {xs : List Int} {x : Int} {Q : uPs} (R : uRow h r L xs) (hxx : -1000000 ≤ x ∧ x ≤ 1000000) (hQ : ∀ h' : uHp, uRow h' r L (appI L xs x) → uSm r (r + 2) h h' → Q none h') : uW mRow_add 0 [.ref r, ui x] [] h 0 0 Q := by
  obtain ⟨hr, ⟨f, ha, hf⟩, hle, hL, hx⟩ := id R
  refine us_aload_n dRow_add_0 rfl ?_
  refine us_getf 6 1 dRow_add_1 kF_Row_21 hr rfl ?_
  refine us_if_lt dRow_add_4 (by omega) (fun c1 => absurd c1 (by omega)) (fun c1 => ?_)
  refine us_aload_n dRow_add_7 rfl ?_
  refine us_getf 6 1 dRow_add_8 kF_Row_21 hr rfl ?_
  refine us_aload_n dRow_add_11 rfl ?_
  refine us_getf 6 0 dRow_add_12 kF_Row_15 hr rfl ?_
  refine us_alen dRow_add_15 ha ?_
  refine us_icmp_ge dRow_add_16 (by omega) (fun c2 => ?_) (fun c2 => ?_)
  · skip
    have e0 : appI L xs x = xs := if_neg (by omega)
    rw [e0] at hQ
    refine us_return dRow_add_39 rfl (Nat.le_of_ble_eq_true rfl) (Nat.le_of_ble_eq_true rfl) ?_
    first
      | exact hQ _ R uSm.rf
      | (refine hQ _ ⟨?_, ⟨_, (u_set_ne (by omega)).trans (u_set_eq _ _ _), fun j hj => ?_⟩, by simp; omega, hL, fun y hy => ?_⟩ ((uSm.set0 (by omega) (by omega)).set (by omega) (by omega))
         · rw [u_set_eq, List.length_append]; rfl
         · rw [getD_app]; unfold updV
           by_cases hj2 : j = xs.length
           · rw [if_pos hj2, if_pos hj2]
           · rw [if_neg hj2, if_neg hj2]; exact hf j (by simp at hj; omega)
         · rcases List.mem_append.mp hy with hy | hy
           · exact hx y hy
           · simp at hy; omega)
  · skip
    have e0 : appI L xs x = xs ++ [x] := if_pos (by omega)
    rw [e0] at hQ
    refine us_aload_n dRow_add_19 rfl ?_
    refine us_getf 6 0 dRow_add_20 kF_Row_15 hr rfl ?_
    refine us_aload_n dRow_add_23 rfl ?_
    refine us_getf 6 1 dRow_add_24 kF_Row_21 hr rfl ?_
    refine us_iload_n dRow_add_27 rfl ?_
    refine us_iast xs.length dRow_add_28 ha rfl (by omega) (by omega) ?_
    refine us_aload_n dRow_add_29 rfl ?_
    refine us_dup dRow_add_30 rfl ?_
    refine us_getf 6 1 dRow_add_31 kF_Row_21 ((u_set_ne (by omega)).trans hr) rfl ?_
    refine us_iconst dRow_add_34 ?_
    refine us_iadd dRow_add_35 ?_
    refine us_putf 6 1 dRow_add_36 kP_Row_21 ((u_set_ne (by omega)).trans hr) rfl rfl ?_
    refine us_return dRow_add_39 rfl (Nat.le_of_ble_eq_true rfl) (Nat.le_of_ble_eq_true rfl) ?_
    first
      | exact hQ _ R uSm.rf
      | (refine hQ _ ⟨?_, ⟨_, (u_set_ne (by omega)).trans (u_set_eq _ _ _), fun j hj => ?_⟩, by simp; omega, hL, fun y hy => ?_⟩ ((uSm.set0 (by omega) (by omega)).set (by omega) (by omega))
         · rw [u_set_eq, List.length_append]; rfl
         · rw [getD_app]; unfold updV
           by_cases hj2 : j = xs.length
           · rw [if_pos hj2, if_pos hj2]
           · rw [if_neg hj2, if_neg hj2]; exact hf j (by simp at hj; omega)
         · rcases List.mem_append.mp hy with hy | hy
           · exact hx y hy
           · simp at hy; omega)

theorem c_Row_put {h : uHp} {r L : Nat} {xs : List Int} {i x : Int} {Q : uPs} (R : uRow h r L xs) (hi : -2147483648 ≤ i ∧ i ≤ 2147483647) (hxx : -1000000 ≤ x ∧ x ≤ 1000000) (hQ : ∀ h' : uHp, uRow h' r L (if 0 ≤ i then xs.set i.toNat x else xs) → uSm r (r + 2) h h' → Q none h') : uW mRow_put 0 [.ref r, ui i, ui x] [] h 0 0 Q := by
  obtain ⟨hr, ⟨f, ha, hf⟩, hle, hL, hx⟩ := id R
  refine us_iload_n dRow_put_0 rfl ?_
  refine us_if_lt dRow_put_1 (by omega) (fun c1 => ?_) (fun c1 => ?_)
  · skip
    refine us_return dRow_put_28 rfl (Nat.le_of_ble_eq_true rfl) (Nat.le_of_ble_eq_true rfl) ?_
    first
      | (refine hQ _ ?_ uSm.rf; rw [if_neg (by omega)]; exact R)
      | (refine hQ _ ?_ uSm.rf; rw [if_pos (by omega), List.set_eq_of_length_le (by omega)]; exact R)
      | (refine hQ _ ?_ (uSm.set0 (by omega) (by omega))
         rw [if_pos (by omega)]
         refine ⟨by rw [List.length_set]; exact (u_set_ne (by omega)).trans hr, ⟨_, u_set_eq _ _ _, fun j hj => ?_⟩, by rw [List.length_set]; exact hle, hL, fun y hy => ?_⟩
         · rw [getD_set]; unfold updV
           rw [List.length_set] at hj
           by_cases hj2 : j = i.toNat
           · rw [if_pos hj2, if_pos ⟨hj2.symm, hj⟩]
           · rw [if_neg hj2, if_neg (fun q => hj2 q.1.symm)]; exact hf j hj
         · rcases List.mem_or_eq_of_mem_set hy with hy | hy
           · exact hx y hy
           · omega)
  · skip
    refine us_iload_n dRow_put_4 rfl ?_
    refine us_aload_n dRow_put_5 rfl ?_
    refine us_getf 6 1 dRow_put_6 kF_Row_21 hr rfl ?_
    refine us_icmp_ge dRow_put_9 (by omega) (fun c2 => ?_) (fun c2 => ?_)
    · skip
      refine us_return dRow_put_28 rfl (Nat.le_of_ble_eq_true rfl) (Nat.le_of_ble_eq_true rfl) ?_
      first
        | (refine hQ _ ?_ uSm.rf; rw [if_neg (by omega)]; exact R)
        | (refine hQ _ ?_ uSm.rf; rw [if_pos (by omega), List.set_eq_of_length_le (by omega)]; exact R)
        | (refine hQ _ ?_ (uSm.set0 (by omega) (by omega))
           rw [if_pos (by omega)]
           refine ⟨by rw [List.length_set]; exact (u_set_ne (by omega)).trans hr, ⟨_, u_set_eq _ _ _, fun j hj => ?_⟩, by rw [List.length_set]; exact hle, hL, fun y hy => ?_⟩
           · rw [getD_set]; unfold updV
             rw [List.length_set] at hj
             by_cases hj2 : j = i.toNat
             · rw [if_pos hj2, if_pos ⟨hj2.symm, hj⟩]
             · rw [if_neg hj2, if_neg (fun q => hj2 q.1.symm)]; exact hf j hj
           · rcases List.mem_or_eq_of_mem_set hy with hy | hy
             · exact hx y hy
             · omega)
    · skip
      refine us_iload_n dRow_put_12 rfl ?_
      refine us_aload_n dRow_put_13 rfl ?_
      refine us_getf 6 0 dRow_put_14 kF_Row_15 hr rfl ?_
      refine us_alen dRow_put_17 ha ?_
      refine us_icmp_ge dRow_put_18 (by omega) (fun c3 => ?_) (fun c3 => ?_)
      · skip
        refine us_return dRow_put_28 rfl (Nat.le_of_ble_eq_true rfl) (Nat.le_of_ble_eq_true rfl) ?_
        first
          | (refine hQ _ ?_ uSm.rf; rw [if_neg (by omega)]; exact R)
          | (refine hQ _ ?_ uSm.rf; rw [if_pos (by omega), List.set_eq_of_length_le (by omega)]; exact R)
          | (refine hQ _ ?_ (uSm.set0 (by omega) (by omega))
             rw [if_pos (by omega)]
             refine ⟨by rw [List.length_set]; exact (u_set_ne (by omega)).trans hr, ⟨_, u_set_eq _ _ _, fun j hj => ?_⟩, by rw [List.length_set]; exact hle, hL, fun y hy => ?_⟩
             · rw [getD_set]; unfold updV
               rw [List.length_set] at hj
               by_cases hj2 : j = i.toNat
               · rw [if_pos hj2, if_pos ⟨hj2.symm, hj⟩]
               · rw [if_neg hj2, if_neg (fun q => hj2 q.1.symm)]; exact hf j hj
             · rcases List.mem_or_eq_of_mem_set hy with hy | hy
               · exact hx y hy
               · omega)
      · skip
        refine us_aload_n dRow_put_21 rfl ?_
        refine us_getf 6 0 dRow_put_22 kF_Row_15 hr rfl ?_
        refine us_iload_n dRow_put_25 rfl ?_
        refine us_iload_n dRow_put_26 rfl ?_
        refine us_iast i.toNat dRow_put_27 ha (by omega) (by omega) (by omega) ?_
        refine us_return dRow_put_28 rfl (Nat.le_of_ble_eq_true rfl) (Nat.le_of_ble_eq_true rfl) ?_
        first
          | (refine hQ _ ?_ uSm.rf; rw [if_neg (by omega)]; exact R)
          | (refine hQ _ ?_ uSm.rf; rw [if_pos (by omega), List.set_eq_of_length_le (by omega)]; exact R)
          | (refine hQ _ ?_ (uSm.set0 (by omega) (by omega))
             rw [if_pos (by omega)]
             refine ⟨by rw [List.length_set]; exact (u_set_ne (by omega)).trans hr, ⟨_, u_set_eq _ _ _, fun j hj => ?_⟩, by rw [List.length_set]; exact hle, hL, fun y hy => ?_⟩
             · rw [getD_set]; unfold updV
               rw [List.length_set] at hj
               by_cases hj2 : j = i.toNat
               · rw [if_pos hj2, if_pos ⟨hj2.symm, hj⟩]
               · rw [if_neg hj2, if_neg (fun q => hj2 q.1.symm)]; exact hf j hj
             · rcases List.mem_or_eq_of_mem_set hy with hy | hy
               · exact hx y hy
               · omega)

theorem c_Row_last {h : uHp} {r L : Nat} {xs : List Int} {Q : uPs} (R : uRow h r L xs) (hQ : Q (some (ui (xs.getLastD (-1)))) h) : uW mRow_last 0 [.ref r] [] h 0 0 Q := by
  obtain ⟨hr, ⟨f, ha, hf⟩, hle, hL, hx⟩ := id R
  refine us_aload_n dRow_last_0 rfl ?_
  refine us_getf 6 1 dRow_last_1 kF_Row_21 hr rfl ?_
  refine us_if_le dRow_last_4 (by omega) (fun c1 => ?_) (fun c1 => ?_)
  · skip
    rw [show xs = [] from List.length_eq_zero_iff.mp (by omega)] at hQ
    refine us_iconst dRow_last_33 ?_
    try (rw [show xs.getLastD (-1) = xs.getD (xs.length - 1) 0 by rw [List.getLastD_eq_getLast?, List.getLast?_eq_getElem?, List.getD_eq_getElem?_getD, List.getElem?_eq_getElem (by omega)]; rfl] at hQ)
    refine us_ireturn dRow_last_34 rfl (Nat.le_of_ble_eq_true rfl) (Nat.le_of_ble_eq_true rfl) ?_
    exact hQ
  · skip
    refine us_aload_n dRow_last_7 rfl ?_
    refine us_getf 6 1 dRow_last_8 kF_Row_21 hr rfl ?_
    refine us_aload_n dRow_last_11 rfl ?_
    refine us_getf 6 0 dRow_last_12 kF_Row_15 hr rfl ?_
    refine us_alen dRow_last_15 ha ?_
    refine us_icmp_gt dRow_last_16 (by omega) (fun c2 => absurd c2 (by omega)) (fun c2 => ?_)
    refine us_aload_n dRow_last_19 rfl ?_
    refine us_getf 6 0 dRow_last_20 kF_Row_15 hr rfl ?_
    refine us_aload_n dRow_last_23 rfl ?_
    refine us_getf 6 1 dRow_last_24 kF_Row_21 hr rfl ?_
    refine us_iconst dRow_last_27 ?_
    refine us_isub dRow_last_28 ?_
    refine us_iald (xs.length - 1) dRow_last_29 ha (by omega) (by omega) (by omega) (hf (xs.length - 1) (by omega)) ?_
    refine us_goto dRow_last_30 ?_
    try (rw [show xs.getLastD (-1) = xs.getD (xs.length - 1) 0 by rw [List.getLastD_eq_getLast?, List.getLast?_eq_getElem?, List.getD_eq_getElem?_getD, List.getElem?_eq_getElem (by omega)]; rfl] at hQ)
    refine us_ireturn dRow_last_34 rfl (Nat.le_of_ble_eq_true rfl) (Nat.le_of_ble_eq_true rfl) ?_
    exact hQ

theorem c_Row_removeLast {h : uHp} {r L : Nat} {xs : List Int} {Q : uPs} (R : uRow h r L xs) (hQ : ∀ h' : uHp, uRow h' r L xs.dropLast → uSm r (r + 2) h h' → Q none h') : uW mRow_removeLast 0 [.ref r] [] h 0 0 Q := by
  obtain ⟨hr, ⟨f, ha, hf⟩, hle, hL, hx⟩ := id R
  refine us_aload_n dRow_removeLast_0 rfl ?_
  refine us_getf 6 1 dRow_removeLast_1 kF_Row_21 hr rfl ?_
  refine us_if_le dRow_removeLast_4 (by omega) (fun c1 => ?_) (fun c1 => ?_)
  · skip
    refine us_return dRow_removeLast_17 rfl (Nat.le_of_ble_eq_true rfl) (Nat.le_of_ble_eq_true rfl) ?_
    first
      | (have e0 : xs = [] := List.length_eq_zero_iff.mp (by omega)
         refine hQ _ ?_ uSm.rf
         rw [e0]; rw [e0] at R; exact R)
      | (refine hQ _ ⟨?_, ⟨f, (u_set_ne (by omega)).trans ha, fun j hj => ?_⟩, by rw [List.length_dropLast]; omega, hL, fun y hy => hx y (List.dropLast_subset _ hy)⟩ (uSm.set0 (by omega) (by omega))
         · rw [u_set_eq, List.length_dropLast, show ((xs.length - 1 : Nat) : Int) = (xs.length : Int) - 1 by omega]; rfl
         · rw [List.length_dropLast] at hj
           rw [hf j (by omega), List.getD_eq_getElem?_getD, List.getD_eq_getElem?_getD, List.getElem?_dropLast, if_pos (by omega)])
  · skip
    refine us_aload_n dRow_removeLast_7 rfl ?_
    refine us_dup dRow_removeLast_8 rfl ?_
    refine us_getf 6 1 dRow_removeLast_9 kF_Row_21 hr rfl ?_
    refine us_iconst dRow_removeLast_12 ?_
    refine us_isub dRow_removeLast_13 ?_
    refine us_putf 6 1 dRow_removeLast_14 kP_Row_21 hr rfl rfl ?_
    refine us_return dRow_removeLast_17 rfl (Nat.le_of_ble_eq_true rfl) (Nat.le_of_ble_eq_true rfl) ?_
    first
      | (have e0 : xs = [] := List.length_eq_zero_iff.mp (by omega)
         refine hQ _ ?_ uSm.rf
         rw [e0]; rw [e0] at R; exact R)
      | (refine hQ _ ⟨?_, ⟨f, (u_set_ne (by omega)).trans ha, fun j hj => ?_⟩, by rw [List.length_dropLast]; omega, hL, fun y hy => hx y (List.dropLast_subset _ hy)⟩ (uSm.set0 (by omega) (by omega))
         · rw [u_set_eq, List.length_dropLast, show ((xs.length - 1 : Nat) : Int) = (xs.length : Int) - 1 by omega]; rfl
         · rw [List.length_dropLast] at hj
           rw [hf j (by omega), List.getD_eq_getElem?_getD, List.getD_eq_getElem?_getD, List.getElem?_dropLast, if_pos (by omega)])

theorem pofI_drop {xs : List Int} {x : Int} {j : Nat} (hj : j < xs.length) : pofI (xs.drop j) x j = if xs.getD j 0 = x then (j : Int) else pofI (xs.drop (j + 1)) x (j + 1) := by
  rw [List.drop_eq_getElem_cons hj, List.getD_eq_getElem?_getD, List.getElem?_eq_getElem hj]
  rfl
theorem cnt_take {xs : List Int} {x : Int} {j : Nat} (hj : j < xs.length) : (xs.take (j + 1)).count x = (xs.take j).count x + if xs.getD j 0 = x then 1 else 0 := by
  rw [List.take_succ_eq_append_getElem hj, List.count_append, List.count_singleton, List.getD_eq_getElem?_getD, List.getElem?_eq_getElem hj]
  simp only [Option.getD_some, beq_iff_eq]
theorem c_Row_placeOf_2 {h : uHp} {r L : Nat} {xs : List Int} {x : Int} {Q : uPs} (R : uRow h r L xs) (hxx : -2147483648 ≤ x ∧ x ≤ 2147483647) : ∀ (n j : Nat), xs.length + 1 ≤ j + n → j ≤ xs.length → Q (some (ui (pofI (xs.drop j) x j))) h → uW mRow_placeOf 2 [.ref r, ui x, ui (j : Int)] [] h 0 0 Q := by
  obtain ⟨hr, ⟨f, ha, hf⟩, hle, hL, hx⟩ := id R
  intro n
  induction n with
  | zero => intro j h1 h2; omega
  | succ n ih =>
    intro j h1 h2 hQ
    have ih := fun (j' : Nat) (a : xs.length + 1 ≤ j' + n ∧ j' ≤ xs.length) (b : Q (some (ui (pofI (xs.drop j') x j'))) h) => ih j' a.1 a.2 b
    refine us_iload_n dRow_placeOf_2 rfl ?_
    refine us_aload_n dRow_placeOf_3 rfl ?_
    refine us_getf 6 1 dRow_placeOf_4 kF_Row_21 hr rfl ?_
    refine us_icmp_ge dRow_placeOf_7 (by omega) (fun c1 => ?_) (fun c1 => ?_)
    · skip
      refine us_iconst dRow_placeOf_37 ?_
      refine us_ireturn dRow_placeOf_38 rfl (Nat.le_of_ble_eq_true rfl) (Nat.le_of_ble_eq_true rfl) ?_
      rw [List.drop_eq_nil_of_le (by omega)] at hQ; exact hQ
    · skip
      refine us_iload_n dRow_placeOf_10 rfl ?_
      refine us_aload_n dRow_placeOf_11 rfl ?_
      refine us_getf 6 0 dRow_placeOf_12 kF_Row_15 hr rfl ?_
      refine us_alen dRow_placeOf_15 ha ?_
      refine us_icmp_ge dRow_placeOf_16 (by omega) (fun c2 => ?_) (fun c2 => ?_)
      · skip
        refine us_iconst dRow_placeOf_37 ?_
        refine us_ireturn dRow_placeOf_38 rfl (Nat.le_of_ble_eq_true rfl) (Nat.le_of_ble_eq_true rfl) ?_
        rw [List.drop_eq_nil_of_le (by omega)] at hQ; exact hQ
      · skip
        refine us_aload_n dRow_placeOf_19 rfl ?_
        refine us_getf 6 0 dRow_placeOf_20 kF_Row_15 hr rfl ?_
        refine us_iload_n dRow_placeOf_23 rfl ?_
        refine us_iald j dRow_placeOf_24 ha rfl (by omega) (by omega) (hf j (by omega)) ?_
        refine us_iload_n dRow_placeOf_25 rfl ?_
        refine us_icmp_ne dRow_placeOf_26 (by have := R.rng j; omega) (fun c3 => ?_) (fun c3 => ?_)
        · skip
          refine us_iinc_2 dRow_placeOf_31 rfl (Nat.le_of_ble_eq_true rfl) ?_
          refine us_goto dRow_placeOf_34 ?_
          rw [pofI_drop (by omega), if_neg (by assumption)] at hQ
          exact ih (j + 1) (by omega) hQ
        · skip
          refine us_iload_n dRow_placeOf_29 rfl ?_
          refine us_ireturn dRow_placeOf_30 rfl (Nat.le_of_ble_eq_true rfl) (Nat.le_of_ble_eq_true rfl) ?_
          rw [pofI_drop (by omega), if_pos (by assumption)] at hQ; exact hQ

theorem c_Row_placeOf {h : uHp} {r L : Nat} {xs : List Int} {x : Int} {Q : uPs} (R : uRow h r L xs) (hxx : -2147483648 ≤ x ∧ x ≤ 2147483647) (hQ : Q (some (ui (plcI xs x))) h) : uW mRow_placeOf 0 [.ref r, ui x, .null] [] h 0 0 Q := by
  obtain ⟨hr, ⟨f, ha, hf⟩, hle, hL, hx⟩ := id R
  refine us_iconst dRow_placeOf_0 ?_
  refine us_istore_2 dRow_placeOf_1 rfl (Nat.le_of_ble_eq_true rfl) ?_
  exact c_Row_placeOf_2 R hxx (xs.length + 1) 0 (by omega) (by omega) hQ

theorem c_Row_countOf_4 {h : uHp} {r L : Nat} {xs : List Int} {x : Int} {Q : uPs} (R : uRow h r L xs) (hxx : -2147483648 ≤ x ∧ x ≤ 2147483647) (hQ : Q (some (ui ((xs.count x : Nat) : Int))) h) : ∀ (n j : Nat) (c : Int), xs.length + 1 ≤ j + n → j ≤ xs.length → c = (((xs.take j).count x : Nat) : Int) → uW mRow_countOf 4 [.ref r, ui x, ui c, ui (j : Int)] [] h 0 0 Q := by
  obtain ⟨hr, ⟨f, ha, hf⟩, hle, hL, hx⟩ := id R
  intro n
  induction n with
  | zero => intro j c h1 h2; omega
  | succ n ih =>
    intro j c h1 h2 hc
    have ih := fun (j' : Nat) (a : xs.length + 1 ≤ j' + n ∧ j' ≤ xs.length) {c' : Int} (b : c' = (((xs.take j').count x : Nat) : Int)) => ih j' c' a.1 a.2 b
    refine us_iload_n dRow_countOf_4 rfl ?_
    refine us_aload_n dRow_countOf_5 rfl ?_
    refine us_getf 6 1 dRow_countOf_6 kF_Row_21 hr rfl ?_
    refine us_icmp_ge dRow_countOf_9 (by omega) (fun c1 => ?_) (fun c1 => ?_)
    · skip
      refine us_iload_n dRow_countOf_40 rfl ?_
      refine us_ireturn dRow_countOf_41 rfl (Nat.le_of_ble_eq_true rfl) (Nat.le_of_ble_eq_true rfl) ?_
      rw [List.take_of_length_le (by omega)] at hc; rw [hc] ; exact hQ
    · skip
      refine us_iload_n dRow_countOf_12 rfl ?_
      refine us_aload_n dRow_countOf_13 rfl ?_
      refine us_getf 6 0 dRow_countOf_14 kF_Row_15 hr rfl ?_
      refine us_alen dRow_countOf_17 ha ?_
      refine us_icmp_ge dRow_countOf_18 (by omega) (fun c2 => ?_) (fun c2 => ?_)
      · skip
        refine us_iload_n dRow_countOf_40 rfl ?_
        refine us_ireturn dRow_countOf_41 rfl (Nat.le_of_ble_eq_true rfl) (Nat.le_of_ble_eq_true rfl) ?_
        rw [List.take_of_length_le (by omega)] at hc; rw [hc] ; exact hQ
      · skip
        refine us_aload_n dRow_countOf_21 rfl ?_
        refine us_getf 6 0 dRow_countOf_22 kF_Row_15 hr rfl ?_
        refine us_iload_n dRow_countOf_25 rfl ?_
        refine us_iald j dRow_countOf_26 ha rfl (by omega) (by omega) (hf j (by omega)) ?_
        refine us_iload_n dRow_countOf_27 rfl ?_
        refine us_icmp_ne dRow_countOf_28 (by have := R.rng j; omega) (fun c3 => ?_) (fun c3 => ?_)
        · skip
          refine us_iinc_3 dRow_countOf_34 rfl (Nat.le_of_ble_eq_true rfl) ?_
          refine us_goto dRow_countOf_37 ?_
          refine ih (j + 1) (by omega) (by rw [cnt_take (by omega)]; split <;> omega)
        · skip
          refine us_iinc_2 dRow_countOf_31 rfl (Nat.le_of_ble_eq_true rfl) ?_
          refine us_iinc_3 dRow_countOf_34 rfl (Nat.le_of_ble_eq_true rfl) ?_
          refine us_goto dRow_countOf_37 ?_
          refine ih (j + 1) (by omega) (by rw [cnt_take (by omega)]; split <;> omega)

theorem c_Row_countOf {h : uHp} {r L : Nat} {xs : List Int} {x : Int} {Q : uPs} (R : uRow h r L xs) (hxx : -2147483648 ≤ x ∧ x ≤ 2147483647) (hQ : Q (some (ui ((xs.count x : Nat) : Int))) h) : uW mRow_countOf 0 [.ref r, ui x, .null, .null] [] h 0 0 Q := by
  obtain ⟨hr, ⟨f, ha, hf⟩, hle, hL, hx⟩ := id R
  refine us_iconst dRow_countOf_0 ?_
  refine us_istore_2 dRow_countOf_1 rfl (Nat.le_of_ble_eq_true rfl) ?_
  refine us_iconst dRow_countOf_2 ?_
  refine us_istore_3 dRow_countOf_3 rfl (Nat.le_of_ble_eq_true rfl) ?_
  exact c_Row_countOf_4 R hxx hQ (xs.length + 1) 0 0 (by omega) (by omega) (by simp)

theorem c_Row_fill_11 {h0 : uHp} {r L : Nat} {x : Int} {Q : uPs} (hL : L < 1000) (hxx : -1000000 ≤ x ∧ x ≤ 1000000) (hQ : ∀ h' : uHp, uRow h' r L (List.replicate L x) → uSm r (r + 2) h0 h' → Q none h') : ∀ (n j : Nat) (h : uHp) (f : Nat → Value), L + 1 ≤ j + n ∧ j ≤ L → h.2 r = some (.inl (6, [.ref (r + 1), ui (L : Int)])) → h.2 (r + 1) = some (.inr (0, L, f)) → (∀ q, q < j → f q = ui x) → uSm r (r + 2) h0 h → uW mRow_fill 11 [.ref r, ui x, ui (j : Int)] [] h 0 0 Q := by
  intro n
  induction n with
  | zero => intro j h f h1; omega
  | succ n ih =>
    intro j h f h1 hr ha hf hs
    refine us_iload_n dRow_fill_11 rfl ?_
    refine us_aload_n dRow_fill_12 rfl ?_
    refine us_getf 6 0 dRow_fill_13 kF_Row_15 hr rfl ?_
    refine us_alen dRow_fill_16 ha ?_
    refine us_icmp_ge dRow_fill_17 (by omega) (fun c1 => ?_) (fun c1 => ?_)
    · skip
      refine us_return dRow_fill_33 rfl (Nat.le_of_ble_eq_true rfl) (Nat.le_of_ble_eq_true rfl) ?_
      refine hQ _ ⟨by rw [List.length_replicate]; exact hr, ⟨f, ha, fun q hq => ?_⟩, by simp, hL, fun y hy => ?_⟩ hs
      · rw [List.length_replicate] at hq; rw [hf q (by omega), List.getD_eq_getElem?_getD, List.getElem?_replicate, if_pos hq]; rfl
      · rw [List.eq_of_mem_replicate hy]; exact hxx
    · skip
      refine us_aload_n dRow_fill_20 rfl ?_
      refine us_getf 6 0 dRow_fill_21 kF_Row_15 hr rfl ?_
      refine us_iload_n dRow_fill_24 rfl ?_
      refine us_iload_n dRow_fill_25 rfl ?_
      refine us_iast j dRow_fill_26 ha rfl (by omega) (by omega) ?_
      refine us_iinc_2 dRow_fill_27 rfl (Nat.le_of_ble_eq_true rfl) ?_
      refine us_goto dRow_fill_30 ?_
      refine ih (j + 1) _ _ ⟨by omega, by omega⟩ ((u_set_ne (by omega)).trans hr) (u_set_eq _ _ _) (fun q hq => ?_) (hs.set (by omega) (by omega))
      unfold updV
      by_cases hqj : q = j
      · rw [if_pos hqj]
      · rw [if_neg hqj]; exact hf q (by omega)

theorem c_Row_fill {h : uHp} {r L : Nat} {xs : List Int} {x : Int} {Q : uPs} (R : uRow h r L xs) (hxx : -1000000 ≤ x ∧ x ≤ 1000000) (hQ : ∀ h' : uHp, uRow h' r L (List.replicate L x) → uSm r (r + 2) h h' → Q none h') : uW mRow_fill 0 [.ref r, ui x, .null] [] h 0 0 Q := by
  obtain ⟨hr, ⟨f, ha, hf⟩, hle, hL, hx⟩ := id R
  refine us_aload_n dRow_fill_0 rfl ?_
  refine us_aload_n dRow_fill_1 rfl ?_
  refine us_getf 6 0 dRow_fill_2 kF_Row_15 hr rfl ?_
  refine us_alen dRow_fill_5 ha ?_
  refine us_putf 6 1 dRow_fill_6 kP_Row_21 hr rfl rfl ?_
  refine us_iconst dRow_fill_9 ?_
  refine us_istore_2 dRow_fill_10 rfl (Nat.le_of_ble_eq_true rfl) ?_
  exact c_Row_fill_11 hL hxx hQ (L + 1) 0 _ f ⟨by omega, by omega⟩ (u_set_eq _ _ _) ((u_set_ne (by omega)).trans ha) (fun q hq => absurd hq (Nat.not_lt_zero q)) (uSm.set0 (by omega) (by omega))

theorem c_Row_become_32 {h0 : uHp} {r q L : Nat} {ys : List Int} {f2 : Nat → Value} {Q : uPs} (hd : r + 2 ≤ q ∨ q + 2 ≤ r) (hL : L < 1000) (hle : ys.length ≤ L) (hx : ∀ x ∈ ys, -1000000 ≤ x ∧ x ≤ 1000000) (hf2 : ∀ j, j < ys.length → f2 j = ui (ys.getD j 0)) (hQ : ∀ h' : uHp, uRow h' r L ys → uSm r (r + 2) h0 h' → Q none h') : ∀ (n j : Nat) (h : uHp) (f : Nat → Value), ys.length + 1 ≤ j + n ∧ j ≤ ys.length → h.2 r = some (.inl (6, [.ref (r + 1), ui (ys.length : Int)])) → h.2 (r + 1) = some (.inr (0, L, f)) → (∀ i, i < j → f i = ui (ys.getD i 0)) → h.2 q = some (.inl (6, [.ref (q + 1), ui (ys.length : Int)])) → h.2 (q + 1) = some (.inr (0, L, f2)) → uSm r (r + 2) h0 h → uW mRow_become 32 [.ref r, .ref q, ui (L : Int), ui (j : Int)] [] h 0 0 Q := by
  intro n
  induction n with
  | zero => intro j h f h1; omega
  | succ n ih =>
    intro j h f h1 hr ha hf hr2 ha2 hs
    refine us_iload_n dRow_become_32 rfl ?_
    refine us_aload_n dRow_become_33 rfl ?_
    refine us_getf 6 1 dRow_become_34 kF_Row_21 hr rfl ?_
    refine us_icmp_ge dRow_become_37 (by omega) (fun c1 => ?_) (fun c1 => ?_)
    · skip
      refine us_return dRow_become_63 rfl (Nat.le_of_ble_eq_true rfl) (Nat.le_of_ble_eq_true rfl) ?_
      refine hQ _ ⟨hr, ⟨f, ha, fun q hq => hf q (by omega)⟩, hle, hL, hx⟩ hs
    · skip
      refine us_iload_n dRow_become_40 rfl ?_
      refine us_iload_n dRow_become_41 rfl ?_
      refine us_icmp_ge dRow_become_42 (by omega) (fun c2 => ?_) (fun c2 => ?_)
      · skip
        refine us_return dRow_become_63 rfl (Nat.le_of_ble_eq_true rfl) (Nat.le_of_ble_eq_true rfl) ?_
        refine hQ _ ⟨hr, ⟨f, ha, fun q hq => hf q (by omega)⟩, hle, hL, hx⟩ hs
      · skip
        refine us_aload_n dRow_become_45 rfl ?_
        refine us_getf 6 0 dRow_become_46 kF_Row_15 hr rfl ?_
        refine us_iload_n dRow_become_49 rfl ?_
        refine us_aload_n dRow_become_50 rfl ?_
        refine us_getf 6 0 dRow_become_51 kF_Row_15 hr2 rfl ?_
        refine us_iload_n dRow_become_54 rfl ?_
        refine us_iald j dRow_become_55 ha2 rfl (by omega) (by omega) (hf2 j (by omega)) ?_
        refine us_iast j dRow_become_56 ha rfl (by omega) (by omega) ?_
        refine us_iinc_3 dRow_become_57 rfl (Nat.le_of_ble_eq_true rfl) ?_
        refine us_goto dRow_become_60 ?_
        refine ih (j + 1) _ _ ⟨by omega, by omega⟩ ((u_set_ne (by omega)).trans hr) (u_set_eq _ _ _) (fun q hq => ?_) ((u_set_ne (by omega)).trans hr2) ((u_set_ne (by omega)).trans ha2) (hs.set (by omega) (by omega))
        unfold updV
        by_cases hqj : q = j
        · rw [if_pos hqj, hqj]
        · rw [if_neg hqj]; exact hf q (by omega)

theorem c_Row_become {h : uHp} {r q L : Nat} {xs ys : List Int} {Q : uPs} (R : uRow h r L xs) (R2 : uRow h q L ys) (hd : r + 2 ≤ q ∨ q + 2 ≤ r) (hQ : ∀ h' : uHp, uRow h' r L ys → uSm r (r + 2) h h' → Q none h') : uW mRow_become 0 [.ref r, .ref q, .null, .null] [] h 0 0 Q := by
  obtain ⟨hr, ⟨f, ha, hf⟩, hle, hL, hx⟩ := id R
  obtain ⟨hr2, ⟨f2, ha2, hf2⟩, hle2, -, hx2⟩ := id R2
  refine us_aload_n dRow_become_0 rfl ?_
  refine us_getf 6 0 dRow_become_1 kF_Row_15 hr rfl ?_
  refine us_alen dRow_become_4 ha ?_
  refine us_aload_n dRow_become_5 rfl ?_
  refine us_getf 6 0 dRow_become_6 kF_Row_15 hr2 rfl ?_
  refine us_alen dRow_become_9 ha2 ?_
  refine us_min dRow_become_10 kS_Row_25 w_mins w_mi w_minc (by decide) (Nat.le_of_ble_eq_true rfl) (Nat.le_of_ble_eq_true rfl) (Nat.le_of_ble_eq_true rfl) (by omega) ?_
  rw [if_neg (show ¬ ((L : Int) < (L : Int)) by omega)]
  refine us_istore_2 dRow_become_13 rfl (Nat.le_of_ble_eq_true rfl) ?_
  refine us_aload_n dRow_become_14 rfl ?_
  refine us_aload_n dRow_become_15 rfl ?_
  refine us_getf 6 1 dRow_become_16 kF_Row_21 hr2 rfl ?_
  refine us_iload_n dRow_become_19 rfl ?_
  refine us_min dRow_become_20 kS_Row_25 w_mins w_mi w_minc (by decide) (Nat.le_of_ble_eq_true rfl) (Nat.le_of_ble_eq_true rfl) (Nat.le_of_ble_eq_true rfl) (by omega) ?_
  rw [if_neg (show ¬ ((L : Int) < (ys.length : Int)) by omega)]
  refine us_iconst dRow_become_23 ?_
  refine us_max dRow_become_24 kS_Row_9 w_maxs w_mi w_maxc (by decide) (Nat.le_of_ble_eq_true rfl) (Nat.le_of_ble_eq_true rfl) (Nat.le_of_ble_eq_true rfl) (by omega) ?_
  rw [if_neg (show ¬ ((ys.length : Int) < 0) by omega)]
  refine us_putf 6 1 dRow_become_27 kP_Row_21 hr rfl rfl ?_
  refine us_iconst dRow_become_30 ?_
  refine us_istore_3 dRow_become_31 rfl (Nat.le_of_ble_eq_true rfl) ?_
  exact c_Row_become_32 hd hL hle2 hx2 hf2 hQ (ys.length + 1) 0 _ f ⟨by omega, by omega⟩ (u_set_eq _ _ _) ((u_set_ne (by omega)).trans ha) (fun q hq => absurd hq (Nat.not_lt_zero q)) ((u_set_ne (by omega)).trans hr2) ((u_set_ne (by omega)).trans ha2) (uSm.set0 (by omega) (by omega))

