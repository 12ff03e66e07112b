/-! State: the rules and the pages -/
abbrev uPg : Type := Nat → List Int
def uSta (h : uHp) (s : Nat) (R : List Int) (PL : List uPg) : Prop :=
  h.2 s = some (.inl (7, [.ref (s + 1), .ref (s + 3), ui (PL.length : Int)])) ∧ uRow h (s + 1) 36 R ∧ PL.length ≤ 6 ∧
  ∃ (π : Nat → Nat) (f : Nat → Value) (PP : Nat → uPg), h.2 (s + 3) = some (.inr (4, 6, f)) ∧ (∀ j, j < 6 → f j = .ref (s + 4 + 17 * π j) ∧ π j < 6) ∧ (∀ i j, i < 6 → j < 6 → π i = π j → i = j) ∧ (∀ i, i < 6 → uPag h (s + 4 + 17 * i) (PP i)) ∧ ∀ j, j < PL.length → PL[j]? = some (PP (π j))
theorem uSta.ag {h h' : uHp} {s : Nat} {R : List Int} {PL : List uPg} (A : uSta h s R PL) (e : ∀ q, s ≤ q → q < s + 106 → h'.2 q = h.2 q) : uSta h' s R PL := by
  obtain ⟨h1, h2, h3, π, f, PP, h4, h5, h6, h7, h8⟩ := A
  exact ⟨(e _ (by omega) (by omega)).trans h1, h2.ag (fun q a b => e q (by omega) (by omega)), h3, π, f, PP, (e _ (by omega) (by omega)).trans h4, h5, h6, fun i hi => (h7 i hi).ag (fun q a b => e q (by omega) (by omega)), h8⟩
def e_is (R : List Int) (a b : Int) : Bool := decide (ratI R (a * 6 + b) = 1)
def s_lcL : List uPg → Int → Int
  | [], a => a
  | P :: t, a => s_lcL t (a + ((P 0).length : Int))
def s_scL (st : Int) : List uPg → Int → Int
  | [], a => a
  | P :: t, a => s_scL st t (a + (((P 1).count st : Nat) : Int))
theorem c_Sta_ends {h : uHp} {s : Nat} {R : List Int} {PL : List uPg} {a b : Int} {Q : uPs} (hA : uSta h s R PL) (ha : -1000000 ≤ a ∧ a ≤ 1000000) (hb : -1000000 ≤ b ∧ b ≤ 1000000) (hQ : Q (some (ub (e_is R a b))) h) : uW mSta_ends 0 [.ref s, ui a, ui b] [] h 0 0 Q := by
  refine us_aload_n dSta_ends_0 rfl ?_
  refine us_getf 7 0 dSta_ends_1 kF_Sta_14 hA.1 rfl ?_
  refine us_iload_n dSta_ends_4 rfl ?_
  refine us_bipush dSta_ends_5 (by decide) ?_
  refine us_imul dSta_ends_7 ?_
  refine us_iload_n dSta_ends_8 rfl ?_
  refine us_iadd dSta_ends_9 ?_
  refine us_v1 mRow_at dSta_ends_10 kV_Sta_46 hA.2.1.1 ⟨by decide, rfl, rfl, (Nat.le_of_ble_eq_true rfl), (Nat.le_of_ble_eq_true rfl)⟩ (Nat.le_of_ble_eq_true rfl) (Nat.le_of_ble_eq_true rfl) rfl ?_
  refine c_Row_at hA.2.1 (by omega) ?_
  refine u_ko_1 ?_
  have hr := ratI_rng hA.2.1 (a * 6 + b)
  refine us_iconst dSta_ends_13 ?_
  refine us_icmp_ne dSta_ends_14 (by omega) (fun c1 => ?_) (fun c1 => ?_)
  · skip
    have e0 : e_is R a b = false := decide_eq_false (by assumption)
    rw [e0] at hQ
    refine us_iconst dSta_ends_21 ?_
    refine us_zreturn (b := false) dSta_ends_22 rfl (Nat.le_of_ble_eq_true rfl) (Nat.le_of_ble_eq_true rfl) ?_
    exact hQ
  · skip
    have e0 : e_is R a b = true := decide_eq_true (by assumption)
    rw [e0] at hQ
    refine us_iconst dSta_ends_17 ?_
    refine us_goto dSta_ends_18 ?_
    refine us_zreturn (b := true) dSta_ends_22 rfl (Nat.le_of_ble_eq_true rfl) (Nat.le_of_ble_eq_true rfl) ?_
    exact hQ

theorem c_Sta_setEnds {h : uHp} {s : Nat} {R : List Int} {PL : List uPg} {a b : Int} {v : Bool} {Q : uPs} (hA : uSta h s R PL) (ha : -1000000 ≤ a ∧ a ≤ 1000000) (hb : -1000000 ≤ b ∧ b ≤ 1000000) (hQ : ∀ h' : uHp, uSta h' s (putI R (a * 6 + b) (if v = true then 1 else 0)) PL → uSm s (s + 106) h h' → Q none h') : uW mSta_setEnds 0 [.ref s, ui a, ui b, ub v] [] h 0 0 Q := by
  obtain ⟨-, -, hPL, π, f, PP, hf, hfj, hinj, hpp, hpl⟩ := id hA
  refine us_aload_n dSta_setEnds_0 rfl ?_
  refine us_getf 7 0 dSta_setEnds_1 kF_Sta_14 hA.1 rfl ?_
  refine us_iload_n dSta_setEnds_4 rfl ?_
  refine us_bipush dSta_setEnds_5 (by decide) ?_
  refine us_imul dSta_setEnds_7 ?_
  refine us_iload_n dSta_setEnds_8 rfl ?_
  refine us_iadd dSta_setEnds_9 ?_
  refine us_iload_n dSta_setEnds_10 rfl ?_
  refine us_ifb_eq dSta_setEnds_11 (fun c1 => ?_) (fun c1 => ?_)
  · skip
    rw [show (if v = true then (1 : Int) else 0) = 0 by rw [c1]; rfl] at hQ
    refine us_iconst dSta_setEnds_18 ?_
    refine us_v2 mRow_put dSta_setEnds_19 kV_Sta_50 hA.2.1.1 ⟨by decide, rfl, rfl, (Nat.le_of_ble_eq_true rfl), (Nat.le_of_ble_eq_true rfl)⟩ (Nat.le_of_ble_eq_true rfl) (Nat.le_of_ble_eq_true rfl) rfl ?_
    refine c_Row_put hA.2.1 (by omega) (by decide) (fun h1 hR hs => ?_)
    refine u_ko_0 ?_
    refine us_return dSta_setEnds_22 rfl (Nat.le_of_ble_eq_true rfl) (Nat.le_of_ble_eq_true rfl) ?_
    refine hQ h1 ⟨(hs.2 _ (by omega)).trans hA.1, hR, hPL, π, f, PP, (hs.2 _ (by omega)).trans hf, hfj, hinj, fun i hi => (hpp i hi).kept hs (by omega), hpl⟩ (hs.wd (by omega) (by omega))
  · skip
    rw [show (if v = true then (1 : Int) else 0) = 1 by rw [c1]; rfl] at hQ
    refine us_iconst dSta_setEnds_14 ?_
    refine us_goto dSta_setEnds_15 ?_
    refine us_v2 mRow_put dSta_setEnds_19 kV_Sta_50 hA.2.1.1 ⟨by decide, rfl, rfl, (Nat.le_of_ble_eq_true rfl), (Nat.le_of_ble_eq_true rfl)⟩ (Nat.le_of_ble_eq_true rfl) (Nat.le_of_ble_eq_true rfl) rfl ?_
    refine c_Row_put hA.2.1 (by omega) (by decide) (fun h1 hR hs => ?_)
    refine u_ko_0 ?_
    refine us_return dSta_setEnds_22 rfl (Nat.le_of_ble_eq_true rfl) (Nat.le_of_ble_eq_true rfl) ?_
    refine hQ h1 ⟨(hs.2 _ (by omega)).trans hA.1, hR, hPL, π, f, PP, (hs.2 _ (by omega)).trans hf, hfj, hinj, fun i hi => (hpp i hi).kept hs (by omega), hpl⟩ (hs.wd (by omega) (by omega))

theorem c_Sta_ruleCount {h : uHp} {s : Nat} {R : List Int} {PL : List uPg} {Q : uPs} (hA : uSta h s R PL) (hQ : Q (some (ui ((R.count 1 : Nat) : Int))) h) : uW mSta_ruleCount 0 [.ref s] [] h 0 0 Q := by
  refine us_aload_n dSta_ruleCount_0 rfl ?_
  refine us_getf 7 0 dSta_ruleCount_1 kF_Sta_14 hA.1 rfl ?_
  refine us_iconst dSta_ruleCount_4 ?_
  refine us_v1 mRow_countOf dSta_ruleCount_5 kV_Sta_54 hA.2.1.1 ⟨by decide, rfl, rfl, (Nat.le_of_ble_eq_true rfl), (Nat.le_of_ble_eq_true rfl)⟩ (Nat.le_of_ble_eq_true rfl) (Nat.le_of_ble_eq_true rfl) rfl ?_
  refine c_Row_countOf hA.2.1 (by decide) ?_
  refine u_ko_1 ?_
  refine us_ireturn dSta_ruleCount_8 rfl (Nat.le_of_ble_eq_true rfl) (Nat.le_of_ble_eq_true rfl) ?_
  exact hQ

theorem c_Sta_hasPage {h : uHp} {s : Nat} {R : List Int} {PL : List uPg} {i : Int} {Q : uPs} (hA : uSta h s R PL) (hi : -2147483648 ≤ i ∧ i ≤ 2147483647) (hQ : Q (some (ub (decide (0 ≤ i ∧ i < (PL.length : Int))))) h) : uW mSta_hasPage 0 [.ref s, ui i] [] h 0 0 Q := by
  have hPL := hA.2.2.1
  refine us_iload_n dSta_hasPage_0 rfl ?_
  refine us_if_lt dSta_hasPage_1 (by omega) (fun c1 => ?_) (fun c1 => ?_)
  · skip
    refine us_iconst dSta_hasPage_16 ?_
    rw [decide_eq_false (by omega)] at hQ
    refine us_zreturn (b := false) dSta_hasPage_17 rfl (Nat.le_of_ble_eq_true rfl) (Nat.le_of_ble_eq_true rfl) ?_
    exact hQ
  · skip
    refine us_iload_n dSta_hasPage_4 rfl ?_
    refine us_aload_n dSta_hasPage_5 rfl ?_
    refine us_getf 7 2 dSta_hasPage_6 kF_Sta_34 hA.1 rfl ?_
    refine us_icmp_ge dSta_hasPage_9 (by omega) (fun c2 => ?_) (fun c2 => ?_)
    · skip
      refine us_iconst dSta_hasPage_16 ?_
      rw [decide_eq_false (by omega)] at hQ
      refine us_zreturn (b := false) dSta_hasPage_17 rfl (Nat.le_of_ble_eq_true rfl) (Nat.le_of_ble_eq_true rfl) ?_
      exact hQ
    · skip
      refine us_iconst dSta_hasPage_12 ?_
      refine us_goto dSta_hasPage_13 ?_
      rw [decide_eq_true (by omega)] at hQ
      refine us_zreturn (b := true) dSta_hasPage_17 rfl (Nat.le_of_ble_eq_true rfl) (Nat.le_of_ble_eq_true rfl) ?_
      exact hQ

theorem c_Sta_pageAt {h : uHp} {s : Nat} {R : List Int} {PL : List uPg} {P : uPg} {Q : uPs} (hA : uSta h s R PL) (j : Nat) (hj : PL[j]? = some P) (hQ : ∀ p : Nat, s + 4 ≤ p → p + 17 ≤ s + 106 → uPag h p P → Q (some (.ref p)) h) : uW mSta_pageAt 0 [.ref s, ui (j : Int)] [] h 0 0 Q := by
  obtain ⟨-, -, hPL, π, f, PP, hf, hfj, hinj, hpp, hpl⟩ := id hA
  have hjl : j < PL.length := (List.getElem?_eq_some_iff.mp hj).1
  refine us_aload_n dSta_pageAt_0 rfl ?_
  refine us_getf 7 1 dSta_pageAt_1 kF_Sta_22 hA.1 rfl ?_
  refine us_iload_n dSta_pageAt_4 rfl ?_
  refine us_if_lt dSta_pageAt_5 (by omega) (fun c1 => absurd c1 (by omega)) (fun c1 => ?_)
  refine us_iload_n dSta_pageAt_8 rfl ?_
  refine us_aload_n dSta_pageAt_9 rfl ?_
  refine us_getf 7 1 dSta_pageAt_10 kF_Sta_22 hA.1 rfl ?_
  refine us_alen dSta_pageAt_13 hf ?_
  refine us_icmp_ge dSta_pageAt_14 (by omega) (fun c2 => absurd c2 (by omega)) (fun c2 => ?_)
  refine us_iload_n dSta_pageAt_17 rfl ?_
  refine us_goto dSta_pageAt_18 ?_
  refine us_aald j dSta_pageAt_22 hf rfl rfl (by omega) (by omega) (hfj j (by omega)).1 ?_
  refine us_areturn dSta_pageAt_23 rfl (Nat.le_of_ble_eq_true rfl) (Nat.le_of_ble_eq_true rfl) ?_
  have hpj := hpl j hjl
  rw [hj] at hpj
  have hlt := (hfj j (by omega)).2
  exact hQ _ (by omega) (by omega) (Option.some.inj hpj ▸ hpp (π j) hlt)

theorem c_Sta_addPage {h : uHp} {s : Nat} {R : List Int} {PL : List uPg} {q : Nat} {P : uPg} {Q : uPs} (hA : uSta h s R PL) (hP : uPag h q P) (d : q + 17 ≤ s ∨ s + 106 ≤ q) (hroom : PL.length < 6) (hQ : ∀ h' : uHp, uSta h' s R (PL ++ [P]) → uSm s (s + 106) h h' → Q none h') : uW mSta_addPage 0 [.ref s, .ref q] [] h 0 0 Q := by
  obtain ⟨-, -, hPL, π, f, PP, hf, hfj, hinj, hpp, hpl⟩ := id hA
  refine us_aload_n dSta_addPage_0 rfl ?_
  refine us_getf 7 2 dSta_addPage_1 kF_Sta_34 hA.1 rfl ?_
  refine us_if_lt dSta_addPage_4 (by omega) (fun c1 => absurd c1 (by omega)) (fun c1 => ?_)
  refine us_aload_n dSta_addPage_7 rfl ?_
  refine us_getf 7 2 dSta_addPage_8 kF_Sta_34 hA.1 rfl ?_
  refine us_aload_n dSta_addPage_11 rfl ?_
  refine us_getf 7 1 dSta_addPage_12 kF_Sta_22 hA.1 rfl ?_
  refine us_alen dSta_addPage_15 hf ?_
  refine us_icmp_ge dSta_addPage_16 (by omega) (fun c2 => absurd c2 (by omega)) (fun c2 => ?_)
  refine us_aload_n dSta_addPage_19 rfl ?_
  refine us_getf 7 1 dSta_addPage_20 kF_Sta_22 hA.1 rfl ?_
  refine us_aload_n dSta_addPage_23 rfl ?_
  refine us_getf 7 2 dSta_addPage_24 kF_Sta_34 hA.1 rfl ?_
  refine us_aald PL.length dSta_addPage_27 hf rfl rfl (by omega) (by omega) (hfj PL.length (by omega)).1 ?_
  refine us_aload_n dSta_addPage_28 rfl ?_
  refine us_v1 mPag_become dSta_addPage_29 kV_Sta_57 (hpp _ (hfj PL.length (by omega)).2).1 ⟨by decide, rfl, rfl, (Nat.le_of_ble_eq_true rfl), (Nat.le_of_ble_eq_true rfl)⟩ (Nat.le_of_ble_eq_true rfl) (Nat.le_of_ble_eq_true rfl) rfl ?_
  refine c_Pag_become (hpp _ (hfj PL.length (by omega)).2) hP (by have := (hfj PL.length (by omega)).2; omega) (fun h1 hP1 hs1 => ?_)
  refine u_ko_0 ?_
  have hlt := (hfj PL.length (by omega)).2
  refine us_aload_n dSta_addPage_32 rfl ?_
  refine us_dup dSta_addPage_33 rfl ?_
  refine us_getf 7 2 dSta_addPage_34 kF_Sta_34 ((hs1.2 _ (by omega)).trans hA.1) rfl ?_
  refine us_iconst dSta_addPage_37 ?_
  refine us_iadd dSta_addPage_38 ?_
  refine us_putf 7 2 dSta_addPage_39 kP_Sta_34 ((hs1.2 _ (by omega)).trans hA.1) rfl rfl ?_
  refine us_return dSta_addPage_42 rfl (Nat.le_of_ble_eq_true rfl) (Nat.le_of_ble_eq_true rfl) ?_
  refine hQ _ ⟨?_, ?_, by rw [List.length_append]; show PL.length + 1 ≤ 6; omega, π, f, (fun i => if i = π PL.length then P else PP i), (u_set_ne (by omega)).trans ((hs1.2 _ (by omega)).trans hf), hfj, hinj, fun i hi => ?_, fun j hj => ?_⟩ ((hs1.wd (by omega) (by omega)).set (by omega) (by omega))
  · rw [u_set_eq, List.length_append]; rfl
  · exact (hA.2.1.kept hs1 (by omega)).kept (uSm.set0 (Nat.le_refl s) (Nat.lt_succ_self s)) (by omega)
  · dsimp only
    by_cases hi2 : i = π PL.length
    · rw [if_pos hi2, hi2]; exact hP1.kept (uSm.set0 (Nat.le_refl s) (Nat.lt_succ_self s)) (by omega)
    · rw [if_neg hi2]; exact ((hpp i hi).kept hs1 (by omega)).kept (uSm.set0 (Nat.le_refl s) (Nat.lt_succ_self s)) (by omega)
  · dsimp only
    rw [List.length_append] at hj
    have hj : j < PL.length + 1 := hj
    by_cases hj2 : j = PL.length
    · rw [hj2, List.getElem?_append_right (Nat.le_refl _), Nat.sub_self, if_pos rfl]; rfl
    · rw [List.getElem?_append_left (by omega), if_neg (fun q => hj2 (hinj j PL.length (by omega) (by omega) q))]; exact hpl j (by omega)

theorem c_Sta_become_18 {h0 : uHp} {s t : Nat} {R R2 : List Int} {PL2 : List uPg} {Q : uPs} (d : t + 106 ≤ s ∨ s + 106 ≤ t) (hQ : ∀ h' : uHp, uSta h' s R PL2 → uSm s (s + 106) h0 h' → Q none h') : ∀ (n j : Nat) (h : uHp), n + j = PL2.length → uSta h s R (PL2.take j) → uSta h t R2 PL2 → uSm s (s + 106) h0 h → uW mSta_become 18 [.ref s, .ref t, ui (j : Int)] [] h 0 0 Q := by
  intro n
  induction n with
  | zero =>
    intro j h h1 hA hO hs
    have hPL2 := hO.2.2.1
    refine us_iload_n dSta_become_18 rfl ?_
    refine us_aload_n dSta_become_19 rfl ?_
    refine us_getf 7 2 dSta_become_20 kF_Sta_34 hO.1 rfl ?_
    refine us_icmp_ge dSta_become_23 (by omega) (fun c21 => ?_) (fun c21 => absurd c21 (by omega))
    refine us_return dSta_become_41 rfl (Nat.le_of_ble_eq_true rfl) (Nat.le_of_ble_eq_true rfl) ?_
    rw [List.take_of_length_le (by omega)] at hA; exact hQ h hA hs
  | succ n ih =>
    intro j h h1 hA hO hs
    have hPL2 := hO.2.2.1
    have hjl : j < PL2.length := by omega
    refine us_iload_n dSta_become_18 rfl ?_
    refine us_aload_n dSta_become_19 rfl ?_
    refine us_getf 7 2 dSta_become_20 kF_Sta_34 hO.1 rfl ?_
    refine us_icmp_ge dSta_become_23 (by omega) (fun c1 => absurd c1 (by omega)) (fun c1 => ?_)
    refine us_aload_n dSta_become_26 rfl ?_
    refine us_aload_n dSta_become_27 rfl ?_
    refine us_iload_n dSta_become_28 rfl ?_
    refine us_v1 mSta_pageAt dSta_become_29 kV_Sta_38 hO.1 ⟨by decide, rfl, rfl, (Nat.le_of_ble_eq_true rfl), (Nat.le_of_ble_eq_true rfl)⟩ (Nat.le_of_ble_eq_true rfl) (Nat.le_of_ble_eq_true rfl) rfl ?_
    refine c_Sta_pageAt hO j (List.getElem?_eq_getElem hjl) (fun p hp1 hp2 hP => ?_)
    refine u_ko_1 ?_
    refine us_v1 mSta_addPage dSta_become_32 kV_Sta_42 hA.1 ⟨by decide, rfl, rfl, (Nat.le_of_ble_eq_true rfl), (Nat.le_of_ble_eq_true rfl)⟩ (Nat.le_of_ble_eq_true rfl) (Nat.le_of_ble_eq_true rfl) rfl ?_
    refine c_Sta_addPage hA hP (by omega) (by rw [List.length_take]; omega) (fun h1 hA hs1 => ?_)
    refine u_ko_0 ?_
    refine us_iinc_2 dSta_become_35 rfl (Nat.le_of_ble_eq_true rfl) ?_
    refine us_goto dSta_become_38 ?_
    rw [← List.take_succ_eq_append_getElem hjl] at hA
    exact ih (j + 1) h1 (by omega) hA (hO.ag (hs1.ag (by omega))) (hs.tr hs1)

theorem c_Sta_become {h : uHp} {s : Nat} {R : List Int} {PL : List uPg} {t : Nat} {R2 : List Int} {PL2 : List uPg} {Q : uPs} (hA : uSta h s R PL) (hO : uSta h t R2 PL2) (d : t + 106 ≤ s ∨ s + 106 ≤ t) (hQ : ∀ h' : uHp, uSta h' s R2 PL2 → uSm s (s + 106) h h' → Q none h') : uW mSta_become 0 [.ref s, .ref t, .null] [] h 0 0 Q := by
  obtain ⟨-, -, hPL, π, f, PP, hf, hfj, hinj, hpp, hpl⟩ := id hA
  refine us_aload_n dSta_become_0 rfl ?_
  refine us_getf 7 0 dSta_become_1 kF_Sta_14 hA.1 rfl ?_
  refine us_aload_n dSta_become_4 rfl ?_
  refine us_getf 7 0 dSta_become_5 kF_Sta_14 hO.1 rfl ?_
  refine us_v1 mRow_become dSta_become_8 kV_Sta_30 hA.2.1.1 ⟨by decide, rfl, rfl, (Nat.le_of_ble_eq_true rfl), (Nat.le_of_ble_eq_true rfl)⟩ (Nat.le_of_ble_eq_true rfl) (Nat.le_of_ble_eq_true rfl) rfl ?_
  refine c_Row_become hA.2.1 hO.2.1 (by omega) (fun h1 hR hs1 => ?_)
  refine u_ko_0 ?_
  have hO := hO.ag (hs1.ag (by omega))
  refine us_aload_n dSta_become_11 rfl ?_
  refine us_iconst dSta_become_12 ?_
  refine us_putf 7 2 dSta_become_13 kP_Sta_34 ((hs1.2 _ (by omega)).trans hA.1) rfl rfl ?_
  refine us_iconst dSta_become_16 ?_
  refine us_istore_2 dSta_become_17 rfl (Nat.le_of_ble_eq_true rfl) ?_
  refine c_Sta_become_18 d hQ PL2.length 0 _ (by omega) ⟨u_set_eq _ _ _, hR.kept (uSm.set0 (Nat.le_refl s) (Nat.lt_succ_self s)) (by omega), by simp, π, f, PP, (u_set_ne (by omega)).trans ((hs1.2 _ (by omega)).trans hf), hfj, hinj, fun i hi => ((hpp i hi).kept hs1 (by omega)).kept (uSm.set0 (Nat.le_refl s) (Nat.lt_succ_self s)) (by omega), fun j hj => absurd hj (by simp)⟩ (hO.ag ((uSm.set0 (Nat.le_refl s) (Nat.lt_succ_self s)).ag (by omega))) ((hs1.wd (by omega) (by omega)).set (by omega) (by omega))

theorem c_Sta_btf_23 {h0 : uHp} {s i c : Nat} {g : Nat → Value} {Q : uPs} (hi : i < 6) (hg : ∀ q, q < 6 → ∃ (a : Nat) (fs : List Value), g q = .ref a ∧ s + 4 ≤ a ∧ h0.2 a = some (.inl (3, fs))) (hQ : ∀ (h' : uHp) (f : Nat → Value), h'.2 (s + 3) = some (.inr (4, 6, f)) → (∀ q, f q = if q = 0 then g i else if q ≤ i then g (q - 1) else g q) → uSm (s + 3) (s + 4) h0 h' → Q none h') (hr : h0.2 s = some (.inl (7, [.ref (s + 1), .ref (s + 3), ui (c : Int)]))) {pa : Nat} (hpa : g i = .ref pa) : ∀ (n b : Nat) (h : uHp) (f : Nat → Value), b + 1 ≤ n ∧ b ≤ i → h.2 (s + 3) = some (.inr (4, 6, f)) → (∀ q, f q = if b < q ∧ q ≤ i then g (q - 1) else g q) → uSm (s + 3) (s + 4) h0 h → uW mSta_bringToFront 23 [.ref s, ui (i : Int), .ref pa, ui (b : Int)] [] h 0 0 Q := by
  intro n
  induction n with
  | zero => intro b h f h1; omega
  | succ n ih =>
    intro b h f h1 ha hff hs
    have hrr := (hs.2 s (by omega)).trans hr
    refine us_iload_n dSta_bringToFront_23 rfl ?_
    refine us_if_le dSta_bringToFront_24 (by omega) (fun c1 => ?_) (fun c1 => ?_)
    · refine us_aload_n dSta_bringToFront_47 rfl ?_
      refine us_getf 7 1 dSta_bringToFront_48 kF_Sta_22 hrr rfl ?_
      refine us_iconst dSta_bringToFront_51 ?_
      refine us_aload_n dSta_bringToFront_52 rfl ?_
      obtain ⟨a, fs, e1, e2, e3⟩ := hg i hi
      obtain rfl : pa = a := by rw [hpa] at e1; cases e1; rfl
      refine us_aast 0 dSta_bringToFront_53 ha ((hs.2 pa (by omega)).trans e3) rfl rfl rfl (by omega) (by omega) ?_
      refine us_return dSta_bringToFront_54 rfl (Nat.le_of_ble_eq_true rfl) (Nat.le_of_ble_eq_true rfl) ?_
      refine hQ _ _ (u_set_eq _ _ _) (fun q => ?_) (hs.set (by omega) (by omega))
      unfold updV
      by_cases hq0 : q = 0
      · rw [if_pos hq0, if_pos hq0, hpa]
      · rw [if_neg hq0, if_neg hq0, hff q]
        by_cases hc : q ≤ i
        · rw [if_pos hc, if_pos (by omega)]
        · rw [if_neg hc, if_neg (by omega)]
    · refine us_aload_n dSta_bringToFront_27 rfl ?_
      refine us_getf 7 1 dSta_bringToFront_28 kF_Sta_22 hrr rfl ?_
      refine us_iload_n dSta_bringToFront_31 rfl ?_
      refine us_aload_n dSta_bringToFront_32 rfl ?_
      refine us_getf 7 1 dSta_bringToFront_33 kF_Sta_22 hrr rfl ?_
      refine us_iload_n dSta_bringToFront_36 rfl ?_
      refine us_iconst dSta_bringToFront_37 ?_
      refine us_isub dSta_bringToFront_38 ?_
      obtain ⟨a, fs, e1, e2, e3⟩ := hg (b - 1) (by omega)
      refine us_aald (b - 1) dSta_bringToFront_39 ha rfl (by omega) (by omega) (by omega) (((hff (b - 1)).trans (if_neg (by omega))).trans e1) ?_
      refine us_aast b dSta_bringToFront_40 ha ((hs.2 a (by omega)).trans e3) rfl rfl rfl (by omega) (by omega) ?_
      refine us_iinc_3 dSta_bringToFront_41 rfl (Nat.le_of_ble_eq_true rfl) ?_
      refine us_goto dSta_bringToFront_44 ?_
      have e9 : (b : Int) + -1 = ((b - 1 : Nat) : Int) := by omega
      rw [e9]
      refine ih (b - 1) _ _ (by omega) (u_set_eq _ _ _) (fun q => ?_) (hs.set (by omega) (by omega))
      unfold updV
      by_cases hqb : q = b
      · rw [if_pos hqb, hqb, if_pos (by omega), e1]
      · rw [if_neg hqb, hff q]
        by_cases hc : b < q ∧ q ≤ i
        · rw [if_pos hc, if_pos (by omega)]
        · rw [if_neg hc, if_neg (by omega)]
theorem getElem?_mf {α : Type} (xs : List α) (i j : Nat) (x : α) (hx : xs[i]? = some x) : (x :: xs.eraseIdx i)[j]? = if j = 0 then xs[i]? else if j ≤ i then xs[j - 1]? else xs[j]? := by
  cases j with
  | zero => rw [if_pos rfl, hx]; rfl
  | succ j =>
    rw [if_neg (by omega), List.getElem?_cons_succ, List.getElem?_eraseIdx, Nat.add_sub_cancel]
    by_cases hj : j < i
    · rw [if_pos hj, if_pos (by omega)]
    · rw [if_neg hj, if_neg (by omega)]
theorem c_Sta_btf {h : uHp} {s : Nat} {R : List Int} {PL : List uPg} {P : uPg} {Q : uPs} (hA : uSta h s R PL) (i : Nat) (hi : PL[i]? = some P) (hQ : ∀ h' : uHp, uSta h' s R (P :: PL.eraseIdx i) → uSm s (s + 106) h h' → Q none h') : uW mSta_bringToFront 0 [.ref s, ui (i : Int), .null, .null] [] h 0 0 Q := by
  obtain ⟨-, -, hPL, π, f, PP, hf, hfj, hinj, hpp, hpl⟩ := id hA
  have hil : i < PL.length := (List.getElem?_eq_some_iff.mp hi).1
  refine us_iload_n dSta_bringToFront_0 rfl ?_
  refine us_if_lt dSta_bringToFront_1 (by omega) (fun c1 => absurd c1 (by omega)) (fun c1 => ?_)
  refine us_iload_n dSta_bringToFront_4 rfl ?_
  refine us_aload_n dSta_bringToFront_5 rfl ?_
  refine us_getf 7 1 dSta_bringToFront_6 kF_Sta_22 hA.1 rfl ?_
  refine us_alen dSta_bringToFront_9 hf ?_
  refine us_icmp_lt dSta_bringToFront_10 (by omega) (fun c2 => ?_) (fun c2 => absurd c2 (by omega))
  refine us_aload_n dSta_bringToFront_14 rfl ?_
  refine us_getf 7 1 dSta_bringToFront_15 kF_Sta_22 hA.1 rfl ?_
  refine us_iload_n dSta_bringToFront_18 rfl ?_
  refine us_aald i dSta_bringToFront_19 hf rfl rfl (by omega) (by omega) (hfj i (by omega)).1 ?_
  refine us_astore_2 dSta_bringToFront_20 rfl (Nat.le_of_ble_eq_true rfl) ?_
  refine us_iload_n dSta_bringToFront_21 rfl ?_
  refine us_istore_3 dSta_bringToFront_22 rfl (Nat.le_of_ble_eq_true rfl) ?_
  refine c_Sta_btf_23 (c := PL.length) (by omega) (fun q hq => ⟨_, _, (hfj q hq).1, by omega, (hpp _ (hfj q hq).2).1⟩) (fun h1 f1 e1 e2 hs => ?_) hA.1 (hfj i (by omega)).1 (i + 1) i h f (by omega) hf (fun q => by rw [if_neg (by omega)]) uSm.rf
  have hlen : (P :: PL.eraseIdx i).length = PL.length := by rw [List.length_cons, List.length_eraseIdx, if_pos hil]; omega
  refine hQ h1 ⟨by rw [hlen]; exact (hs.2 _ (by omega)).trans hA.1, hA.2.1.kept hs (by omega), by rw [hlen]; exact hPL, (fun q => if q = 0 then π i else if q ≤ i then π (q - 1) else π q), f1, PP, e1, fun j hj => ?_, fun a b ha hb hab => ?_, fun j hj => (hpp j hj).kept hs (by omega), fun j hj => ?_⟩ (hs.wd (by omega) (by omega))
  · dsimp only
    rw [e2 j]
    by_cases j0 : j = 0
    · rw [if_pos j0, if_pos j0]; exact hfj i (by omega)
    · rw [if_neg j0, if_neg j0]
      by_cases jc : j ≤ i
      · rw [if_pos jc, if_pos jc]; exact hfj (j - 1) (by omega)
      · rw [if_neg jc, if_neg jc]; exact hfj j hj
  · dsimp only at hab
    by_cases a0 : a = 0 <;> by_cases b0 : b = 0
    · omega
    · rw [if_pos a0, if_neg b0] at hab
      by_cases bc : b ≤ i
      · rw [if_pos bc] at hab; have := hinj _ _ (by omega) (by omega) hab; omega
      · rw [if_neg bc] at hab; have := hinj _ _ (by omega) (by omega) hab; omega
    · rw [if_neg a0, if_pos b0] at hab
      by_cases ac : a ≤ i
      · rw [if_pos ac] at hab; have := hinj _ _ (by omega) (by omega) hab; omega
      · rw [if_neg ac] at hab; have := hinj _ _ (by omega) (by omega) hab; omega
    · rw [if_neg a0, if_neg b0] at hab
      by_cases ac : a ≤ i <;> by_cases bc : b ≤ i
      · rw [if_pos ac, if_pos bc] at hab; have := hinj _ _ (by omega) (by omega) hab; omega
      · rw [if_pos ac, if_neg bc] at hab; have := hinj _ _ (by omega) (by omega) hab; omega
      · rw [if_neg ac, if_pos bc] at hab; have := hinj _ _ (by omega) (by omega) hab; omega
      · rw [if_neg ac, if_neg bc] at hab; have := hinj _ _ (by omega) (by omega) hab; omega
  · dsimp only
    rw [hlen] at hj
    rw [getElem?_mf PL i j P hi]
    by_cases j0 : j = 0
    · rw [if_pos j0, if_pos j0]; exact hpl i hil
    · rw [if_neg j0, if_neg j0]
      by_cases jc : j ≤ i
      · rw [if_pos jc, if_pos jc]; exact hpl (j - 1) (by omega)
      · rw [if_neg jc, if_neg jc]; exact hpl j hj

theorem c_Sta_lc_4 {h : uHp} {s : Nat} {R : List Int} {PL : List uPg} {Q : uPs} (hA : uSta h s R PL) : ∀ (n j : Nat) (a : Int), n + j = PL.length → Q (some (ui (s_lcL (PL.drop j) a))) h → uW mSta_letterCount 4 [.ref s, ui a, ui (j : Int)] [] h 0 0 Q := by
  have hPL := hA.2.2.1
  intro n
  induction n with
  | zero =>
    intro j a h1 hQ
    refine us_iload_n dSta_letterCount_4 rfl ?_
    refine us_aload_n dSta_letterCount_5 rfl ?_
    refine us_getf 7 2 dSta_letterCount_6 kF_Sta_34 hA.1 rfl ?_
    refine us_icmp_ge dSta_letterCount_9 (by omega) (fun c21 => ?_) (fun c21 => absurd c21 (by omega))
    refine us_iload_n dSta_letterCount_32 rfl ?_
    refine us_ireturn dSta_letterCount_33 rfl (Nat.le_of_ble_eq_true rfl) (Nat.le_of_ble_eq_true rfl) ?_
    rw [List.drop_eq_nil_of_le (by omega)] at hQ; exact hQ
  | succ n ih =>
    intro j a h1 hQ
    have hjl : j < PL.length := by omega
    refine us_iload_n dSta_letterCount_4 rfl ?_
    refine us_aload_n dSta_letterCount_5 rfl ?_
    refine us_getf 7 2 dSta_letterCount_6 kF_Sta_34 hA.1 rfl ?_
    refine us_icmp_ge dSta_letterCount_9 (by omega) (fun c1 => absurd c1 (by omega)) (fun c1 => ?_)
    refine us_iload_n dSta_letterCount_12 rfl ?_
    refine us_aload_n dSta_letterCount_13 rfl ?_
    refine us_iload_n dSta_letterCount_14 rfl ?_
    refine us_v1 mSta_pageAt dSta_letterCount_15 kV_Sta_38 hA.1 ⟨by decide, rfl, rfl, (Nat.le_of_ble_eq_true rfl), (Nat.le_of_ble_eq_true rfl)⟩ (Nat.le_of_ble_eq_true rfl) (Nat.le_of_ble_eq_true rfl) rfl ?_
    refine c_Sta_pageAt hA j (List.getElem?_eq_getElem hjl) (fun p hp1 hp2 hP => ?_)
    refine u_ko_1 ?_
    refine us_getf 3 0 dSta_letterCount_18 kF_Sta_59 hP.1 rfl ?_
    refine us_v0 mRow_size dSta_letterCount_21 kV_Sta_62 hP.r0.1 ⟨by decide, rfl, rfl, (Nat.le_of_ble_eq_true rfl), (Nat.le_of_ble_eq_true rfl)⟩ (Nat.le_of_ble_eq_true rfl) (Nat.le_of_ble_eq_true rfl) rfl ?_
    refine c_Row_size hP.r0 ?_
    refine u_ko_1 ?_
    refine us_iadd dSta_letterCount_24 ?_
    refine us_istore_1 dSta_letterCount_25 rfl (Nat.le_of_ble_eq_true rfl) ?_
    refine us_iinc_2 dSta_letterCount_26 rfl (Nat.le_of_ble_eq_true rfl) ?_
    refine us_goto dSta_letterCount_29 ?_
    rw [List.drop_eq_getElem_cons hjl] at hQ
    exact ih (j + 1) _ (by omega) hQ

theorem c_Sta_lc {h : uHp} {s : Nat} {R : List Int} {PL : List uPg} {Q : uPs} (hA : uSta h s R PL) (hQ : Q (some (ui (s_lcL PL 0))) h) : uW mSta_letterCount 0 [.ref s, .null, .null] [] h 0 0 Q := by
  refine us_iconst dSta_letterCount_0 ?_
  refine us_istore_1 dSta_letterCount_1 rfl (Nat.le_of_ble_eq_true rfl) ?_
  refine us_iconst dSta_letterCount_2 ?_
  refine us_istore_2 dSta_letterCount_3 rfl (Nat.le_of_ble_eq_true rfl) ?_
  exact c_Sta_lc_4 hA PL.length 0 0 (by omega) hQ

theorem c_Sta_sc_4 {h : uHp} {s : Nat} {R : List Int} {PL : List uPg} {x : Int} {Q : uPs} (hA : uSta h s R PL) (hx : -2147483648 ≤ x ∧ x ≤ 2147483647) : ∀ (n j : Nat) (a : Int), n + j = PL.length → Q (some (ui (s_scL x (PL.drop j) a))) h → uW mSta_stepCount 4 [.ref s, ui x, ui a, ui (j : Int)] [] h 0 0 Q := by
  have hPL := hA.2.2.1
  intro n
  induction n with
  | zero =>
    intro j a h1 hQ
    refine us_iload_n dSta_stepCount_4 rfl ?_
    refine us_aload_n dSta_stepCount_5 rfl ?_
    refine us_getf 7 2 dSta_stepCount_6 kF_Sta_34 hA.1 rfl ?_
    refine us_icmp_ge dSta_stepCount_9 (by omega) (fun c21 => ?_) (fun c21 => absurd c21 (by omega))
    refine us_iload_n dSta_stepCount_33 rfl ?_
    refine us_ireturn dSta_stepCount_34 rfl (Nat.le_of_ble_eq_true rfl) (Nat.le_of_ble_eq_true rfl) ?_
    rw [List.drop_eq_nil_of_le (by omega)] at hQ; exact hQ
  | succ n ih =>
    intro j a h1 hQ
    have hjl : j < PL.length := by omega
    refine us_iload_n dSta_stepCount_4 rfl ?_
    refine us_aload_n dSta_stepCount_5 rfl ?_
    refine us_getf 7 2 dSta_stepCount_6 kF_Sta_34 hA.1 rfl ?_
    refine us_icmp_ge dSta_stepCount_9 (by omega) (fun c1 => absurd c1 (by omega)) (fun c1 => ?_)
    refine us_iload_n dSta_stepCount_12 rfl ?_
    refine us_aload_n dSta_stepCount_13 rfl ?_
    refine us_iload_n dSta_stepCount_14 rfl ?_
    refine us_v1 mSta_pageAt dSta_stepCount_15 kV_Sta_38 hA.1 ⟨by decide, rfl, rfl, (Nat.le_of_ble_eq_true rfl), (Nat.le_of_ble_eq_true rfl)⟩ (Nat.le_of_ble_eq_true rfl) (Nat.le_of_ble_eq_true rfl) rfl ?_
    refine c_Sta_pageAt hA j (List.getElem?_eq_getElem hjl) (fun p hp1 hp2 hP => ?_)
    refine u_ko_1 ?_
    refine us_getf 3 1 dSta_stepCount_18 kF_Sta_66 hP.1 rfl ?_
    refine us_iload_n dSta_stepCount_21 rfl ?_
    refine us_v1 mRow_countOf dSta_stepCount_22 kV_Sta_54 hP.r1.1 ⟨by decide, rfl, rfl, (Nat.le_of_ble_eq_true rfl), (Nat.le_of_ble_eq_true rfl)⟩ (Nat.le_of_ble_eq_true rfl) (Nat.le_of_ble_eq_true rfl) rfl ?_
    refine c_Row_countOf hP.r1 hx ?_
    refine u_ko_1 ?_
    refine us_iadd dSta_stepCount_25 ?_
    refine us_istore_2 dSta_stepCount_26 rfl (Nat.le_of_ble_eq_true rfl) ?_
    refine us_iinc_3 dSta_stepCount_27 rfl (Nat.le_of_ble_eq_true rfl) ?_
    refine us_goto dSta_stepCount_30 ?_
    rw [List.drop_eq_getElem_cons hjl] at hQ
    exact ih (j + 1) _ (by omega) hQ

theorem c_Sta_sc {h : uHp} {s : Nat} {R : List Int} {PL : List uPg} {x : Int} {Q : uPs} (hA : uSta h s R PL) (hx : -2147483648 ≤ x ∧ x ≤ 2147483647) (hQ : Q (some (ui (s_scL x PL 0))) h) : uW mSta_stepCount 0 [.ref s, ui x, .null, .null] [] h 0 0 Q := by
  refine us_iconst dSta_stepCount_0 ?_
  refine us_istore_2 dSta_stepCount_1 rfl (Nat.le_of_ble_eq_true rfl) ?_
  refine us_iconst dSta_stepCount_2 ?_
  refine us_istore_3 dSta_stepCount_3 rfl (Nat.le_of_ble_eq_true rfl) ?_
  exact c_Sta_sc_4 hA hx PL.length 0 0 (by omega) hQ

