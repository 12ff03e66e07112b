/-! Known: what the pages that were taken have made known -/
theorem uRow.ag {h h' : uHp} {r L : Nat} {xs : List Int} (R : uRow h r L xs) (e : ∀ b, r ≤ b → b < r + 2 → h'.2 b = h.2 b) : uRow h' r L xs := by
  obtain ⟨h1, ⟨f, h2, h3⟩, h4⟩ := R
  exact ⟨(e _ (by omega) (by omega)).trans h1, ⟨f, (e _ (by omega) (by omega)).trans h2, h3⟩, h4⟩
theorem uFrl.ag {h h' : uHp} {r L : Nat} {xs : List Int} (R : uFrl h r L xs) (e : ∀ b, r ≤ b → b < r + 2 → h'.2 b = h.2 b) : uFrl h' r L xs := by
  obtain ⟨h1, ⟨f, h2, h3⟩, h4⟩ := R
  exact ⟨(e _ (by omega) (by omega)).trans h1, ⟨f, (e _ (by omega) (by omega)).trans h2, h3⟩, h4⟩
theorem uFam.ag {h h' : uHp} {b n : Nat} {cap : Nat → Nat} {P : Nat → List Int} (R : uFam h b n cap P) (e : ∀ q, b ≤ q → q < b + 2 * n → h'.2 q = h.2 q) : uFam h' b n cap P := fun j hj => (R j hj).ag (fun q h1 h2 => e q (by omega) (by omega))
theorem uPag.ag {h h' : uHp} {p : Nat} {P : Nat → List Int} (R : uPag h p P) (e : ∀ q, p ≤ q → q < p + 17 → h'.2 q = h.2 q) : uPag h' p P := ⟨(e _ (by omega) (by omega)).trans R.1, R.2.ag (fun q h1 h2 => e q (by omega) (by omega))⟩
theorem uCod.ag {h h' : uHp} {c : Nat} {C : Nat → List Int} (R : uCod h c C) (e : ∀ q, c ≤ q → q < c + 9 → h'.2 q = h.2 q) : uCod h' c C := ⟨(e _ (by omega) (by omega)).trans R.1, R.2.ag (fun q h1 h2 => e q (by omega) (by omega))⟩
/-- nothing outside two regions has changed -/
def uS2 (a b c d : Nat) (h h' : uHp) : Prop := h'.1 = h.1 ∧ ∀ q : Nat, (q < a ∨ b ≤ q) → (q < c ∨ d ≤ q) → h'.2 q = h.2 q
theorem uS2.rf {a b c d : Nat} {h : uHp} : uS2 a b c d h h := ⟨rfl, fun _ _ _ => rfl⟩
theorem uS2.tr {a b c d : Nat} {h h' h'' : uHp} (x : uS2 a b c d h h') (y : uS2 a b c d h' h'') : uS2 a b c d h h'' := ⟨y.1.trans x.1, fun q h1 h2 => (y.2 q h1 h2).trans (x.2 q h1 h2)⟩
theorem uSm.l2 {a b c d lo hi : Nat} {h h' : uHp} (x : uSm lo hi h h') (h1 : a ≤ lo) (h2 : hi ≤ b) : uS2 a b c d h h' := ⟨x.1, fun q h3 _ => x.2 q (by omega)⟩
theorem uSm.r2 {a b c d lo hi : Nat} {h h' : uHp} (x : uSm lo hi h h') (h1 : c ≤ lo) (h2 : hi ≤ d) : uS2 a b c d h h' := ⟨x.1, fun q _ h3 => x.2 q (by omega)⟩
theorem uS2.wd {a b c d a' b' c' d' : Nat} {h h' : uHp} (x : uS2 a b c d h h') (h1 : a' ≤ a) (h2 : b ≤ b') (h3 : c' ≤ c) (h4 : d ≤ d') : uS2 a' b' c' d' h h' := ⟨x.1, fun q k1 k2 => x.2 q (by omega) (by omega)⟩
theorem uS2.ag {a b c d : Nat} {h h' : uHp} (x : uS2 a b c d h h') {lo hi : Nat} (h1 : hi ≤ a ∨ b ≤ lo) (h2 : hi ≤ c ∨ d ≤ lo) : ∀ q, lo ≤ q → q < hi → h'.2 q = h.2 q := fun q k1 k2 => x.2 q (by omega) (by omega)
theorem uSm.ag {a b : Nat} {h h' : uHp} (x : uSm a b h h') {lo hi : Nat} (h1 : hi ≤ a ∨ b ≤ lo) : ∀ q, lo ≤ q → q < hi → h'.2 q = h.2 q := fun q k1 k2 => x.2 q (by omega)
abbrev uKn : Type := (Nat → List Int) × List Int × List Int × List Int
def uKno (h : uHp) (k : Nat) (K : uKn) : Prop := h.2 k = some (.inl (2, [.ref (k + 1), .ref (k + 2), .ref (k + 4), .ref (k + 6)])) ∧ (∃ f : Nat → Value, h.2 (k + 1) = some (.inr (3, 7, f)) ∧ ∀ j, j < 7 → f j = .ref (k + 8 + 2 * j)) ∧ (∀ j, j < 7 → uFrl h (k + 8 + 2 * j) 6 (K.1 j)) ∧ uFrl h (k + 2) 238 K.2.1 ∧ uRow h (k + 4) 6 K.2.2.1 ∧ uRow h (k + 6) 24 K.2.2.2
theorem uKno.ag {h h' : uHp} {k : Nat} {K : uKn} (R : uKno h k K) (e : ∀ q, k ≤ q → q < k + 22 → h'.2 q = h.2 q) : uKno h' k K := by
  obtain ⟨h1, ⟨f, h2, h2'⟩, h3, h4, h5, h6⟩ := R
  exact ⟨(e _ (by omega) (by omega)).trans h1, ⟨f, (e _ (by omega) (by omega)).trans h2, h2'⟩, fun j hj => (h3 j hj).ag (fun q a b => e q (by omega) (by omega)), h4.ag (fun q a b => e q (by omega) (by omega)), h5.ag (fun q a b => e q (by omega) (by omega)), h6.ag (fun q a b => e q (by omega) (by omega))⟩
theorem uKno.sN {h h' : uHp} {k j : Nat} {N : Nat → List Int} {W S V xs : List Int} (R : uKno h k (N, W, S, V)) (hj : j < 7) (hF : uFrl h' (k + 8 + 2 * j) 6 xs) (e : uSm (k + 8 + 2 * j) (k + 8 + 2 * j + 2) h h') : uKno h' k (uP N j xs, W, S, V) := by
  obtain ⟨h1, ⟨f, h2, h2'⟩, h3, h4, h5, h6⟩ := R
  refine ⟨(e.2 _ (by omega)).trans h1, ⟨f, (e.2 _ (by omega)).trans h2, h2'⟩, fun i hi => ?_, h4.kept e (by omega), h5.kept e (by omega), h6.kept e (by omega)⟩
  by_cases hij : i = j
  · subst hij
    show uFrl h' _ 6 (uP N i xs i)
    rw [uP_eq]
    exact hF
  · show uFrl h' _ 6 (uP N j xs i)
    rw [uP_ne hij]
    exact (h3 i hi).kept e (by omega)
theorem uKno.sW {h h' : uHp} {k : Nat} {N : Nat → List Int} {W S V xs : List Int} (R : uKno h k (N, W, S, V)) (hF : uFrl h' (k + 2) 238 xs) (e : uSm (k + 2) (k + 2 + 2) h h') : uKno h' k (N, xs, S, V) := by
  obtain ⟨h1, ⟨f, h2, h2'⟩, h3, h4, h5, h6⟩ := R
  exact ⟨(e.2 _ (by omega)).trans h1, ⟨f, (e.2 _ (by omega)).trans h2, h2'⟩, fun i hi => (h3 i hi).kept e (by omega), hF, h5.kept e (by omega), h6.kept e (by omega)⟩
theorem uKno.sS {h h' : uHp} {k : Nat} {N : Nat → List Int} {W S V xs : List Int} (R : uKno h k (N, W, S, V)) (hF : uRow h' (k + 4) 6 xs) (e : uSm (k + 4) (k + 4 + 2) h h') : uKno h' k (N, W, xs, V) := by
  obtain ⟨h1, ⟨f, h2, h2'⟩, h3, h4, h5, h6⟩ := R
  exact ⟨(e.2 _ (by omega)).trans h1, ⟨f, (e.2 _ (by omega)).trans h2, h2'⟩, fun i hi => (h3 i hi).kept e (by omega), h4.kept e (by omega), hF, h6.kept e (by omega)⟩
theorem uKno.sV {h h' : uHp} {k : Nat} {N : Nat → List Int} {W S V xs : List Int} (R : uKno h k (N, W, S, V)) (hF : uRow h' (k + 6) 24 xs) (e : uSm (k + 6) (k + 6 + 2) h h') : uKno h' k (N, W, S, xs) := by
  obtain ⟨h1, ⟨f, h2, h2'⟩, h3, h4, h5, h6⟩ := R
  exact ⟨(e.2 _ (by omega)).trans h1, ⟨f, (e.2 _ (by omega)).trans h2, h2'⟩, fun i hi => (h3 i hi).kept e (by omega), h4.kept e (by omega), h5.kept e (by omega), hF⟩
theorem uKno.congr {h : uHp} {k : Nat} {N N' : Nat → List Int} {W S V : List Int} (R : uKno h k (N, W, S, V)) (e : ∀ j, j < 7 → N j = N' j) : uKno h k (N', W, S, V) := ⟨R.1, R.2.1, fun j hj => by show uFrl h _ 6 (N' j); rw [← e j hj]; exact R.2.2.1 j hj, R.2.2.2⟩
theorem uKno.n {h : uHp} {k j : Nat} {N : Nat → List Int} {W S V : List Int} (R : uKno h k (N, W, S, V)) (hj : j < 7) : uFrl h (k + 8 + 2 * j) 6 (N j) := R.2.2.1 j hj
theorem uKno.w {h : uHp} {k : Nat} {N : Nat → List Int} {W S V : List Int} (R : uKno h k (N, W, S, V)) : uFrl h (k + 2) 238 W := R.2.2.2.1
theorem uKno.s {h : uHp} {k : Nat} {N : Nat → List Int} {W S V : List Int} (R : uKno h k (N, W, S, V)) : uRow h (k + 4) 6 S := R.2.2.2.2.1
theorem uKno.v {h : uHp} {k : Nat} {N : Nat → List Int} {W S V : List Int} (R : uKno h k (N, W, S, V)) : uRow h (k + 6) 24 V := R.2.2.2.2.2
theorem u_lt7 {p : Nat → Prop} (h0 : p 0) (h1 : p 1) (h2 : p 2) (h3 : p 3) (h4 : p 4) (h5 : p 5) (h6 : p 6) : ∀ j, j < 7 → p j := lt_s (lt_s (lt_s (lt_s (lt_s (lt_s (lt_s lt_0 h0) h1) h2) h3) h4) h5) h6
def k_none : uKn := (fun _ => [], [], List.replicate 6 0, List.replicate 24 (-1))
def nidx (a : Int) : Nat := if 0 ≤ a ∧ a < 7 then a.toNat else 6
theorem nidx_lt (a : Int) : nidx a < 7 := by unfold nidx; split <;> omega
theorem c_Kno_forget_2 {h0 : uHp} {k : Nat} {W S V : List Int} {Q : uPs} (hQ : ∀ h' : uHp, uKno h' k k_none → uSm k (k + 22) h0 h' → Q none h') : ∀ (n j : Nat) (h : uHp) (N : Nat → List Int), n + j = 7 → uKno h k (N, W, S, V) → (∀ i, i < j → N i = []) → uSm k (k + 22) h0 h → uW mKno_forget 2 [.ref k, ui (j : Int)] [] h 0 0 Q := by
  intro n
  induction n with
  | zero =>
    intro j h N h1 hK he hs
    obtain ⟨fN, hN, hNf⟩ := id hK.2.1
    refine us_iload_n dKno_forget_2 rfl ?_
    refine us_aload_n dKno_forget_3 rfl ?_
    refine us_getf 2 0 dKno_forget_4 kF_Kno_11 hK.1 rfl ?_
    refine us_alen dKno_forget_7 hN ?_
    refine us_icmp_ge dKno_forget_8 (by omega) (fun c21 => ?_) (fun c21 => absurd c21 (by omega))
    refine us_aload_n dKno_forget_26 rfl ?_
    refine us_getf 2 1 dKno_forget_27 kF_Kno_20 hK.1 rfl ?_
    refine us_v0 mFrl_clear dKno_forget_30 kV_Kno_37 hK.2.2.2.1.1 ⟨by decide, rfl, rfl, (Nat.le_of_ble_eq_true rfl), (Nat.le_of_ble_eq_true rfl)⟩ (Nat.le_of_ble_eq_true rfl) (Nat.le_of_ble_eq_true rfl) rfl ?_
    refine c_Frl_clear hK.2.2.2.1 (fun h1 hR hs1 => ?_)
    refine u_ko_0 ?_
    have hK := hK.sW hR hs1
    have hs := hs.tr (hs1.wd (by omega) (by omega))
    refine us_aload_n dKno_forget_33 rfl ?_
    refine us_getf 2 2 dKno_forget_34 kF_Kno_27 hK.1 rfl ?_
    refine us_iconst dKno_forget_37 ?_
    refine us_v1 mRow_fill dKno_forget_38 kV_Kno_34 hK.2.2.2.2.1.1 ⟨by decide, rfl, rfl, (Nat.le_of_ble_eq_true rfl), (Nat.le_of_ble_eq_true rfl)⟩ (Nat.le_of_ble_eq_true rfl) (Nat.le_of_ble_eq_true rfl) rfl ?_
    refine c_Row_fill hK.2.2.2.2.1 (by decide) (fun h2 hR hs1 => ?_)
    refine u_ko_0 ?_
    have hK := hK.sS hR hs1
    have hs := hs.tr (hs1.wd (by omega) (by omega))
    refine us_aload_n dKno_forget_41 rfl ?_
    refine us_getf 2 3 dKno_forget_42 kF_Kno_31 hK.1 rfl ?_
    refine us_iconst dKno_forget_45 ?_
    refine us_v1 mRow_fill dKno_forget_46 kV_Kno_34 hK.2.2.2.2.2.1 ⟨by decide, rfl, rfl, (Nat.le_of_ble_eq_true rfl), (Nat.le_of_ble_eq_true rfl)⟩ (Nat.le_of_ble_eq_true rfl) (Nat.le_of_ble_eq_true rfl) rfl ?_
    refine c_Row_fill hK.2.2.2.2.2 (by decide) (fun h3 hR hs1 => ?_)
    refine u_ko_0 ?_
    have hK := hK.sV hR hs1
    have hs := hs.tr (hs1.wd (by omega) (by omega))
    refine us_return dKno_forget_49 rfl (Nat.le_of_ble_eq_true rfl) (Nat.le_of_ble_eq_true rfl) ?_
    exact hQ _ (hK.congr (fun i hi => he i (by omega))) hs
  | succ n ih =>
    intro j h N h1 hK he hs
    obtain ⟨fN, hN, hNf⟩ := id hK.2.1
    refine us_iload_n dKno_forget_2 rfl ?_
    refine us_aload_n dKno_forget_3 rfl ?_
    refine us_getf 2 0 dKno_forget_4 kF_Kno_11 hK.1 rfl ?_
    refine us_alen dKno_forget_7 hN ?_
    refine us_icmp_ge dKno_forget_8 (by omega) (fun c1 => absurd c1 (by omega)) (fun c1 => ?_)
    refine us_aload_n dKno_forget_11 rfl ?_
    refine us_getf 2 0 dKno_forget_12 kF_Kno_11 hK.1 rfl ?_
    refine us_iload_n dKno_forget_15 rfl ?_
    refine us_aald j dKno_forget_16 hN rfl rfl (by omega) (by omega) (hNf j (by omega)) ?_
    refine us_v0 mFrl_clear dKno_forget_17 kV_Kno_37 (hK.2.2.1 j (by omega)).1 ⟨by decide, rfl, rfl, (Nat.le_of_ble_eq_true rfl), (Nat.le_of_ble_eq_true rfl)⟩ (Nat.le_of_ble_eq_true rfl) (Nat.le_of_ble_eq_true rfl) rfl ?_
    refine c_Frl_clear (hK.2.2.1 j (by omega)) (fun h1 hR hs1 => ?_)
    refine u_ko_0 ?_
    have hK := hK.sN (by omega) hR hs1
    have hs := hs.tr (hs1.wd (by omega) (by omega))
    refine us_iinc_1 dKno_forget_20 rfl (Nat.le_of_ble_eq_true rfl) ?_
    refine us_goto dKno_forget_23 ?_
    refine ih (j + 1) h1 _ (by omega) hK (fun i hi => ?_) hs
    by_cases hij : i = j
    · rw [hij]; exact uP_eq _ _ _
    · exact (uP_ne hij).trans (he i (by omega))

theorem c_Kno_forget {h : uHp} {k : Nat} {K : uKn} {Q : uPs} (hK : uKno h k K) (hQ : ∀ h' : uHp, uKno h' k k_none → uSm k (k + 22) h h' → Q none h') : uW mKno_forget 0 [.ref k, .null] [] h 0 0 Q := by
  refine us_iconst dKno_forget_0 ?_
  refine us_istore_1 dKno_forget_1 rfl (Nat.le_of_ble_eq_true rfl) ?_
  obtain ⟨N, W, S, V⟩ := K
  exact c_Kno_forget_2 hQ 7 0 h N rfl hK (fun i hi => absurd hi (Nat.not_lt_zero i)) uSm.rf

theorem c_Kno_namesIn {h : uHp} {k : Nat} {K : uKn} {i : Int} {Q : uPs} (hK : uKno h k K) (hi : -2147483648 ≤ i ∧ i ≤ 2147483647) (hQ : Q (some (.ref (k + 8 + 2 * nidx i))) h) : uW mKno_namesIn 0 [.ref k, ui i] [] h 0 0 Q := by
  obtain ⟨fN, hN, hNf⟩ := id hK.2.1
  refine us_aload_n dKno_namesIn_0 rfl ?_
  refine us_getf 2 0 dKno_namesIn_1 kF_Kno_11 hK.1 rfl ?_
  refine us_iload_n dKno_namesIn_4 rfl ?_
  refine us_if_lt dKno_namesIn_5 (by omega) (fun c1 => ?_) (fun c1 => ?_)
  · skip
    refine us_aload_n dKno_namesIn_21 rfl ?_
    refine us_getf 2 0 dKno_namesIn_22 kF_Kno_11 hK.1 rfl ?_
    refine us_alen dKno_namesIn_25 hN ?_
    refine us_iconst dKno_namesIn_26 ?_
    refine us_isub dKno_namesIn_27 ?_
    refine us_aald (nidx i) dKno_namesIn_28 hN rfl (by unfold nidx; split <;> omega) (nidx_lt i) (by omega) (hNf _ (nidx_lt i)) ?_
    refine us_areturn dKno_namesIn_29 rfl (Nat.le_of_ble_eq_true rfl) (Nat.le_of_ble_eq_true rfl) ?_
    exact hQ
  · skip
    refine us_iload_n dKno_namesIn_8 rfl ?_
    refine us_aload_n dKno_namesIn_9 rfl ?_
    refine us_getf 2 0 dKno_namesIn_10 kF_Kno_11 hK.1 rfl ?_
    refine us_alen dKno_namesIn_13 hN ?_
    refine us_icmp_ge dKno_namesIn_14 (by omega) (fun c2 => ?_) (fun c2 => ?_)
    · skip
      refine us_aload_n dKno_namesIn_21 rfl ?_
      refine us_getf 2 0 dKno_namesIn_22 kF_Kno_11 hK.1 rfl ?_
      refine us_alen dKno_namesIn_25 hN ?_
      refine us_iconst dKno_namesIn_26 ?_
      refine us_isub dKno_namesIn_27 ?_
      refine us_aald (nidx i) dKno_namesIn_28 hN rfl (by unfold nidx; split <;> omega) (nidx_lt i) (by omega) (hNf _ (nidx_lt i)) ?_
      refine us_areturn dKno_namesIn_29 rfl (Nat.le_of_ble_eq_true rfl) (Nat.le_of_ble_eq_true rfl) ?_
      exact hQ
    · skip
      refine us_iload_n dKno_namesIn_17 rfl ?_
      refine us_goto dKno_namesIn_18 ?_
      refine us_aald (nidx i) dKno_namesIn_28 hN rfl (by unfold nidx; split <;> omega) (nidx_lt i) (by omega) (hNf _ (nidx_lt i)) ?_
      refine us_areturn dKno_namesIn_29 rfl (Nat.le_of_ble_eq_true rfl) (Nat.le_of_ble_eq_true rfl) ?_
      exact hQ

theorem c_Kno_valueOf {h : uHp} {k : Nat} {K : uKn} {a b : Int} {Q : uPs} (hK : uKno h k K) (ha : -1000 ≤ a ∧ a ≤ 1000) (hb : -1000 ≤ b ∧ b ≤ 1000) (hQ : Q (some (ui (ratI K.2.2.2 (a * 4 + b)))) h) : uW mKno_valueOf 0 [.ref k, ui a, ui b] [] h 0 0 Q := by
  refine us_aload_n dKno_valueOf_0 rfl ?_
  refine us_getf 2 3 dKno_valueOf_1 kF_Kno_31 hK.1 rfl ?_
  refine us_iload_n dKno_valueOf_4 rfl ?_
  refine us_iconst dKno_valueOf_5 ?_
  refine us_imul dKno_valueOf_6 ?_
  refine us_iload_n dKno_valueOf_7 rfl ?_
  refine us_iadd dKno_valueOf_8 ?_
  refine us_v1 mRow_at dKno_valueOf_9 kV_Kno_40 hK.2.2.2.2.2.1 ⟨by decide, rfl, rfl, (Nat.le_of_ble_eq_true rfl), (Nat.le_of_ble_eq_true rfl)⟩ (Nat.le_of_ble_eq_true rfl) (Nat.le_of_ble_eq_true rfl) rfl ?_
  refine c_Row_at hK.2.2.2.2.2 (by omega) ?_
  refine u_ko_1 ?_
  refine us_ireturn dKno_valueOf_12 rfl (Nat.le_of_ble_eq_true rfl) (Nat.le_of_ble_eq_true rfl) ?_
  exact hQ

def bc_1 (x : Int32) : Int32 := x - ((x.toUInt32 >>> ((Int32.ofInt 1).toUInt32 &&& Int32.toUInt32 31)).toInt32 &&& 1431655765)
def bc_2 (x : Int32) : Int32 := (x &&& 858993459) + ((x.toUInt32 >>> ((Int32.ofInt 2).toUInt32 &&& Int32.toUInt32 31)).toInt32 &&& 858993459)
def bc_3 (x : Int32) : Int32 := (x + (x.toUInt32 >>> ((Int32.ofInt 4).toUInt32 &&& Int32.toUInt32 31)).toInt32) &&& 252645135
def bc_4 (x : Int32) : Int32 := x + (x.toUInt32 >>> ((Int32.ofInt 8).toUInt32 &&& Int32.toUInt32 31)).toInt32
def bc_5 (x : Int32) : Int32 := x + (x.toUInt32 >>> ((Int32.ofInt 16).toUInt32 &&& Int32.toUInt32 31)).toInt32
def pcN (x : Int) : Nat := (x % 2 + x / 2 % 2 + x / 4 % 2 + x / 8 % 2).toNat
theorem bc_ok : ∀ n, n < 16 → bc_5 (bc_4 (bc_3 (bc_2 (bc_1 (Int32.ofInt ((n : Nat) : Int)))))) &&& Int32.ofInt 63 = Int32.ofInt (pcN ((n : Nat) : Int)) := by decide +kernel
section UR
variable {M : uM} {pc np : Nat} {l st : List Value} {h : uHp} {k n : Nat} {Q : uPs}
theorem us_iaddR {x y : Int32} (hd : uD M.cc pc .iadd 1 np) (K : uW M np l (.int (x + y) :: st) h k n Q) : uW M pc l (.int y :: .int x :: st) h k n Q := by
  intro G B p la e R s m args below meth c Qf C F H locs ls hR hS hL
  obtain ⟨hd, rfl⟩ := hd
  exact lv_iadd C.1 C.2.1 hd (K G B p la e R s m args below meth c Qf C F H locs ls hR hS hL)
theorem us_isubR {x y : Int32} (hd : uD M.cc pc .isub 1 np) (K : uW M np l (.int (x - y) :: st) h k n Q) : uW M pc l (.int y :: .int x :: st) h k n Q := by
  intro G B p la e R s m args below meth c Qf C F H locs ls hR hS hL
  obtain ⟨hd, rfl⟩ := hd
  exact lv_isub C.1 C.2.1 hd (K G B p la e R s m args below meth c Qf C F H locs ls hR hS hL)
end UR
theorem c_bitCount0 {h : uHp} {y0 : Int32} {Q : uPs} (hQ : Q (some (.int (bc_5 (bc_4 (bc_3 (bc_2 (bc_1 y0)))) &&& Int32.ofInt 63))) h) : uW mInt_bitCount 0 [.int y0] [] h 0 0 Q := by
  refine us_iload_n dInt_bitCount_0 rfl ?_
  refine us_iload_n dInt_bitCount_1 rfl ?_
  refine us_iconst dInt_bitCount_2 ?_
  refine us_iushr dInt_bitCount_3 ?_
  refine us_ldcw dInt_bitCount_4 w_i265 ?_
  refine us_iand dInt_bitCount_7 ?_
  refine us_isubR dInt_bitCount_8 ?_
  refine us_istore_0 dInt_bitCount_9 rfl (Nat.le_of_ble_eq_true rfl) ?_
  obtain ⟨y1, hy1⟩ : ∃ z, z = bc_1 y0 := ⟨_, rfl⟩
  have hz : uW mInt_bitCount 10 [.int y1] [] h 0 0 Q → uW mInt_bitCount 10 [.int (bc_1 y0)] [] h 0 0 Q := fun q => by rw [← hy1]; exact q
  refine hz ?_
  refine us_iload_n dInt_bitCount_10 rfl ?_
  refine us_ldcw dInt_bitCount_11 w_i266 ?_
  refine us_iand dInt_bitCount_14 ?_
  refine us_iload_n dInt_bitCount_15 rfl ?_
  refine us_iconst dInt_bitCount_16 ?_
  refine us_iushr dInt_bitCount_17 ?_
  refine us_ldcw dInt_bitCount_18 w_i266 ?_
  refine us_iand dInt_bitCount_21 ?_
  refine us_iaddR dInt_bitCount_22 ?_
  refine us_istore_0 dInt_bitCount_23 rfl (Nat.le_of_ble_eq_true rfl) ?_
  obtain ⟨y2, hy2⟩ : ∃ z, z = bc_2 y1 := ⟨_, rfl⟩
  have hz : uW mInt_bitCount 24 [.int y2] [] h 0 0 Q → uW mInt_bitCount 24 [.int (bc_2 y1)] [] h 0 0 Q := fun q => by rw [← hy2]; exact q
  refine hz ?_
  refine us_iload_n dInt_bitCount_24 rfl ?_
  refine us_iload_n dInt_bitCount_25 rfl ?_
  refine us_iconst dInt_bitCount_26 ?_
  refine us_iushr dInt_bitCount_27 ?_
  refine us_iaddR dInt_bitCount_28 ?_
  refine us_ldcw dInt_bitCount_29 w_i267 ?_
  refine us_iand dInt_bitCount_32 ?_
  refine us_istore_0 dInt_bitCount_33 rfl (Nat.le_of_ble_eq_true rfl) ?_
  obtain ⟨y3, hy3⟩ : ∃ z, z = bc_3 y2 := ⟨_, rfl⟩
  have hz : uW mInt_bitCount 34 [.int y3] [] h 0 0 Q → uW mInt_bitCount 34 [.int (bc_3 y2)] [] h 0 0 Q := fun q => by rw [← hy3]; exact q
  refine hz ?_
  refine us_iload_n dInt_bitCount_34 rfl ?_
  refine us_iload_n dInt_bitCount_35 rfl ?_
  refine us_bipush dInt_bitCount_36 (by decide) ?_
  refine us_iushr dInt_bitCount_38 ?_
  refine us_iaddR dInt_bitCount_39 ?_
  refine us_istore_0 dInt_bitCount_40 rfl (Nat.le_of_ble_eq_true rfl) ?_
  obtain ⟨y4, hy4⟩ : ∃ z, z = bc_4 y3 := ⟨_, rfl⟩
  have hz : uW mInt_bitCount 41 [.int y4] [] h 0 0 Q → uW mInt_bitCount 41 [.int (bc_4 y3)] [] h 0 0 Q := fun q => by rw [← hy4]; exact q
  refine hz ?_
  refine us_iload_n dInt_bitCount_41 rfl ?_
  refine us_iload_n dInt_bitCount_42 rfl ?_
  refine us_bipush dInt_bitCount_43 (by decide) ?_
  refine us_iushr dInt_bitCount_45 ?_
  refine us_iaddR dInt_bitCount_46 ?_
  refine us_istore_0 dInt_bitCount_47 rfl (Nat.le_of_ble_eq_true rfl) ?_
  obtain ⟨y5, hy5⟩ : ∃ z, z = bc_5 y4 := ⟨_, rfl⟩
  have hz : uW mInt_bitCount 48 [.int y5] [] h 0 0 Q → uW mInt_bitCount 48 [.int (bc_5 y4)] [] h 0 0 Q := fun q => by rw [← hy5]; exact q
  refine hz ?_
  refine us_iload_n dInt_bitCount_48 rfl ?_
  refine us_bipush dInt_bitCount_49 (by decide) ?_
  refine us_iand dInt_bitCount_51 ?_
  refine us_ireturn dInt_bitCount_52 rfl (Nat.le_of_ble_eq_true rfl) (Nat.le_of_ble_eq_true rfl) ?_
  rw [hy5, hy4, hy3, hy2, hy1]
  exact hQ
theorem c_bitCount {h : uHp} {x : Int} {Q : uPs} (hx : 0 ≤ x ∧ x ≤ 15) (hQ : Q (some (ui ((pcN x : Nat) : Int))) h) : uW mInt_bitCount 0 [ui x] [] h 0 0 Q := by
  obtain ⟨n, rfl⟩ : ∃ n : Nat, x = (n : Int) := ⟨x.toNat, by omega⟩
  refine c_bitCount0 ?_
  rw [bc_ok n (by omega)]
  exact hQ

def k_li (P : Nat → List Int) (box : Int) : Nat := nidx (if ratI (P 4) box = -1 then 6 else ratI (P 3) (ratI (P 4) box))
theorem k_li_lt (P : Nat → List Int) (box : Int) : k_li P box < 7 := nidx_lt _
def k_ncode (N : Nat → List Int) (P : Nat → List Int) (box : Int) : Int := if plcI (N (k_li P box)) (ratI (P 3) box) = -1 then (N (k_li P box)).length + ratI (P 3) box else plcI (N (k_li P box)) (ratI (P 3) box)
def k_nameN (N : Nat → List Int) (P : Nat → List Int) (box : Int) : Nat → List Int := uP N (k_li P box) (mfI 6 (N (k_li P box)) (ratI (P 3) box))
theorem plcI_rng (xs : List Int) (x : Int) : -1 ≤ plcI xs x ∧ plcI xs x ≤ xs.length := by
  rw [plcI_idx]
  have := List.idxOf_le_length (l := xs) (a := x)
  split <;> omega
theorem c_Kno_takeName {h : uHp} {k p r : Nat} {N : Nat → List Int} {W S V X : List Int} {P : Nat → List Int} {box : Int} {Q : uPs} (hK : uKno h k (N, W, S, V)) (hP : uPag h p P) (hR : uRow h r 100 X) (d1 : p + 17 ≤ k ∨ k + 22 ≤ p) (d2 : r + 2 ≤ k ∨ k + 22 ≤ r) (d3 : r + 2 ≤ p ∨ p + 17 ≤ r) (hb : -2147483648 ≤ box ∧ box ≤ 2147483647) (hn : 0 ≤ ratI (P 3) box ∧ ratI (P 3) box ≤ 5) (hQ : ∀ h' : uHp, uKno h' k (k_nameN N P box, W, S, V) → uRow h' r 100 (appI 100 X (k_ncode N P box)) → uS2 k (k + 22) r (r + 2) h h' → Q none h') : uW mKno_takeName 0 [.ref k, .ref p, ui box, .ref r, .null, .null, .null, .null] [] h 0 0 Q := by
  refine us_aload_n dKno_takeName_0 rfl ?_
  refine us_getf 3 4 dKno_takeName_1 kF_Kno_84 hP.1 rfl ?_
  refine us_iload_n dKno_takeName_4 rfl ?_
  refine us_v1 mRow_at dKno_takeName_5 kV_Kno_40 hP.r4.1 ⟨by decide, rfl, rfl, (Nat.le_of_ble_eq_true rfl), (Nat.le_of_ble_eq_true rfl)⟩ (Nat.le_of_ble_eq_true rfl) (Nat.le_of_ble_eq_true rfl) rfl ?_
  refine c_Row_at hP.r4 hb ?_
  refine u_ko_1 ?_
  have ha := ratI_rng hP.r4 box
  refine us_istore_4 dKno_takeName_8 rfl (Nat.le_of_ble_eq_true rfl) ?_
  refine us_aload_n dKno_takeName_10 rfl ?_
  refine us_iload dKno_takeName_11 rfl ?_
  refine us_iconst dKno_takeName_13 ?_
  refine us_icmp_ne dKno_takeName_14 (by omega) (fun c1 => ?_) (fun c1 => ?_)
  · skip
    refine us_aload_n dKno_takeName_22 rfl ?_
    refine us_getf 3 3 dKno_takeName_23 kF_Kno_57 hP.1 rfl ?_
    refine us_iload dKno_takeName_26 rfl ?_
    refine us_v1 mRow_at dKno_takeName_28 kV_Kno_40 hP.r3.1 ⟨by decide, rfl, rfl, (Nat.le_of_ble_eq_true rfl), (Nat.le_of_ble_eq_true rfl)⟩ (Nat.le_of_ble_eq_true rfl) (Nat.le_of_ble_eq_true rfl) rfl ?_
    refine c_Row_at hP.r3 (by omega) ?_
    refine u_ko_1 ?_
    have ha3 := ratI_rng hP.r3 (ratI (P 4) box)
    refine us_v1 mKno_namesIn dKno_takeName_31 kV_Kno_87 hK.1 ⟨by decide, rfl, rfl, (Nat.le_of_ble_eq_true rfl), (Nat.le_of_ble_eq_true rfl)⟩ (Nat.le_of_ble_eq_true rfl) (Nat.le_of_ble_eq_true rfl) rfl ?_
    refine c_Kno_namesIn hK (by omega) ?_
    refine u_ko_1 ?_
    first | rw [show nidx 6 = k_li P box by unfold k_li; rw [if_pos (by assumption)]] | rw [show nidx (ratI (P 3) (ratI (P 4) box)) = k_li P box by unfold k_li; rw [if_neg (by assumption)]]
    refine us_astore_5 dKno_takeName_34 rfl (Nat.le_of_ble_eq_true rfl) ?_
    refine us_aload_n dKno_takeName_36 rfl ?_
    refine us_getf 3 3 dKno_takeName_37 kF_Kno_57 hP.1 rfl ?_
    refine us_iload_n dKno_takeName_40 rfl ?_
    refine us_v1 mRow_at dKno_takeName_41 kV_Kno_40 hP.r3.1 ⟨by decide, rfl, rfl, (Nat.le_of_ble_eq_true rfl), (Nat.le_of_ble_eq_true rfl)⟩ (Nat.le_of_ble_eq_true rfl) (Nat.le_of_ble_eq_true rfl) rfl ?_
    refine c_Row_at hP.r3 hb ?_
    refine u_ko_1 ?_
    refine us_istore_6 dKno_takeName_44 rfl (Nat.le_of_ble_eq_true rfl) ?_
    refine us_aload dKno_takeName_46 rfl ?_
    refine us_iload dKno_takeName_48 rfl ?_
    refine us_i2l dKno_takeName_50 (by omega) ?_
    refine us_v1 mFrl_placeOf dKno_takeName_51 kV_Kno_91 (hK.n (k_li_lt P box)).1 ⟨by decide, rfl, rfl, (Nat.le_of_ble_eq_true rfl), (Nat.le_of_ble_eq_true rfl)⟩ (Nat.le_of_ble_eq_true rfl) (Nat.le_of_ble_eq_true rfl) rfl ?_
    refine c_Frl_placeOf (hK.n (k_li_lt P box)) (by omega) ?_
    refine u_ko_1 ?_
    have hpl := plcI_rng (N (k_li P box)) (ratI (P 3) box)
    have hLn : (N (k_li P box)).length ≤ 6 := (hK.n (k_li_lt P box)).2.2.1
    refine us_istore_7 dKno_takeName_54 rfl (Nat.le_of_ble_eq_true rfl) ?_
    refine us_aload_n dKno_takeName_56 rfl ?_
    refine us_iload dKno_takeName_57 rfl ?_
    refine us_iconst dKno_takeName_59 ?_
    refine us_icmp_ne dKno_takeName_60 (by omega) (fun c2 => ?_) (fun c2 => ?_)
    · skip
      refine us_iload dKno_takeName_74 rfl ?_
      first | rw [show k_ncode N P box = (N (k_li P box)).length + ratI (P 3) box from if_pos (by assumption)] at hQ | rw [show k_ncode N P box = plcI (N (k_li P box)) (ratI (P 3) box) from if_neg (by assumption)] at hQ
      refine us_v1 mRow_add dKno_takeName_76 kV_Kno_96 hR.1 ⟨by decide, rfl, rfl, (Nat.le_of_ble_eq_true rfl), (Nat.le_of_ble_eq_true rfl)⟩ (Nat.le_of_ble_eq_true rfl) (Nat.le_of_ble_eq_true rfl) rfl ?_
      refine c_Row_add hR (by omega) (fun h1 hR1 hs1 => ?_)
      refine u_ko_0 ?_
      have hK := hK.ag (hs1.ag (by omega))
      refine us_aload dKno_takeName_79 rfl ?_
      refine us_iload dKno_takeName_81 rfl ?_
      refine us_i2l dKno_takeName_83 (by omega) ?_
      refine us_v1 mFrl_meet dKno_takeName_84 kV_Kno_99 (hK.n (k_li_lt P box)).1 ⟨by decide, rfl, rfl, (Nat.le_of_ble_eq_true rfl), (Nat.le_of_ble_eq_true rfl)⟩ (Nat.le_of_ble_eq_true rfl) (Nat.le_of_ble_eq_true rfl) rfl ?_
      refine c_Frl_meet (hK.n (k_li_lt P box)) (by omega) (fun h2 hF hs2 => ?_)
      refine u_ko_0 ?_
      have hK := hK.sN (k_li_lt P box) hF hs2
      have hlt := k_li_lt P box
      refine us_return dKno_takeName_87 rfl (Nat.le_of_ble_eq_true rfl) (Nat.le_of_ble_eq_true rfl) ?_
      exact hQ _ hK (hR1.kept hs2 (by omega)) ((hs1.r2 (by omega) (by omega)).tr (hs2.l2 (by omega) (by omega)))
    · skip
      refine us_aload dKno_takeName_63 rfl ?_
      refine us_v0 mFrl_size dKno_takeName_65 kV_Kno_95 (hK.n (k_li_lt P box)).1 ⟨by decide, rfl, rfl, (Nat.le_of_ble_eq_true rfl), (Nat.le_of_ble_eq_true rfl)⟩ (Nat.le_of_ble_eq_true rfl) (Nat.le_of_ble_eq_true rfl) rfl ?_
      refine c_Frl_size (hK.n (k_li_lt P box)) ?_
      refine u_ko_1 ?_
      refine us_iload dKno_takeName_68 rfl ?_
      refine us_iadd dKno_takeName_70 ?_
      refine us_goto dKno_takeName_71 ?_
      first | rw [show k_ncode N P box = (N (k_li P box)).length + ratI (P 3) box from if_pos (by assumption)] at hQ | rw [show k_ncode N P box = plcI (N (k_li P box)) (ratI (P 3) box) from if_neg (by assumption)] at hQ
      refine us_v1 mRow_add dKno_takeName_76 kV_Kno_96 hR.1 ⟨by decide, rfl, rfl, (Nat.le_of_ble_eq_true rfl), (Nat.le_of_ble_eq_true rfl)⟩ (Nat.le_of_ble_eq_true rfl) (Nat.le_of_ble_eq_true rfl) rfl ?_
      refine c_Row_add hR (by omega) (fun h1 hR1 hs1 => ?_)
      refine u_ko_0 ?_
      have hK := hK.ag (hs1.ag (by omega))
      refine us_aload dKno_takeName_79 rfl ?_
      refine us_iload dKno_takeName_81 rfl ?_
      refine us_i2l dKno_takeName_83 (by omega) ?_
      refine us_v1 mFrl_meet dKno_takeName_84 kV_Kno_99 (hK.n (k_li_lt P box)).1 ⟨by decide, rfl, rfl, (Nat.le_of_ble_eq_true rfl), (Nat.le_of_ble_eq_true rfl)⟩ (Nat.le_of_ble_eq_true rfl) (Nat.le_of_ble_eq_true rfl) rfl ?_
      refine c_Frl_meet (hK.n (k_li_lt P box)) (by omega) (fun h2 hF hs2 => ?_)
      refine u_ko_0 ?_
      have hK := hK.sN (k_li_lt P box) hF hs2
      have hlt := k_li_lt P box
      refine us_return dKno_takeName_87 rfl (Nat.le_of_ble_eq_true rfl) (Nat.le_of_ble_eq_true rfl) ?_
      exact hQ _ hK (hR1.kept hs2 (by omega)) ((hs1.r2 (by omega) (by omega)).tr (hs2.l2 (by omega) (by omega)))
  · skip
    refine us_bipush dKno_takeName_17 (by decide) ?_
    refine us_goto dKno_takeName_19 ?_
    refine us_v1 mKno_namesIn dKno_takeName_31 kV_Kno_87 hK.1 ⟨by decide, rfl, rfl, (Nat.le_of_ble_eq_true rfl), (Nat.le_of_ble_eq_true rfl)⟩ (Nat.le_of_ble_eq_true rfl) (Nat.le_of_ble_eq_true rfl) rfl ?_
    refine c_Kno_namesIn hK (by omega) ?_
    refine u_ko_1 ?_
    first | rw [show nidx 6 = k_li P box by unfold k_li; rw [if_pos (by assumption)]] | rw [show nidx (ratI (P 3) (ratI (P 4) box)) = k_li P box by unfold k_li; rw [if_neg (by assumption)]]
    refine us_astore_5 dKno_takeName_34 rfl (Nat.le_of_ble_eq_true rfl) ?_
    refine us_aload_n dKno_takeName_36 rfl ?_
    refine us_getf 3 3 dKno_takeName_37 kF_Kno_57 hP.1 rfl ?_
    refine us_iload_n dKno_takeName_40 rfl ?_
    refine us_v1 mRow_at dKno_takeName_41 kV_Kno_40 hP.r3.1 ⟨by decide, rfl, rfl, (Nat.le_of_ble_eq_true rfl), (Nat.le_of_ble_eq_true rfl)⟩ (Nat.le_of_ble_eq_true rfl) (Nat.le_of_ble_eq_true rfl) rfl ?_
    refine c_Row_at hP.r3 hb ?_
    refine u_ko_1 ?_
    refine us_istore_6 dKno_takeName_44 rfl (Nat.le_of_ble_eq_true rfl) ?_
    refine us_aload dKno_takeName_46 rfl ?_
    refine us_iload dKno_takeName_48 rfl ?_
    refine us_i2l dKno_takeName_50 (by omega) ?_
    refine us_v1 mFrl_placeOf dKno_takeName_51 kV_Kno_91 (hK.n (k_li_lt P box)).1 ⟨by decide, rfl, rfl, (Nat.le_of_ble_eq_true rfl), (Nat.le_of_ble_eq_true rfl)⟩ (Nat.le_of_ble_eq_true rfl) (Nat.le_of_ble_eq_true rfl) rfl ?_
    refine c_Frl_placeOf (hK.n (k_li_lt P box)) (by omega) ?_
    refine u_ko_1 ?_
    have hpl := plcI_rng (N (k_li P box)) (ratI (P 3) box)
    have hLn : (N (k_li P box)).length ≤ 6 := (hK.n (k_li_lt P box)).2.2.1
    refine us_istore_7 dKno_takeName_54 rfl (Nat.le_of_ble_eq_true rfl) ?_
    refine us_aload_n dKno_takeName_56 rfl ?_
    refine us_iload dKno_takeName_57 rfl ?_
    refine us_iconst dKno_takeName_59 ?_
    refine us_icmp_ne dKno_takeName_60 (by omega) (fun c3 => ?_) (fun c3 => ?_)
    · skip
      refine us_iload dKno_takeName_74 rfl ?_
      first | rw [show k_ncode N P box = (N (k_li P box)).length + ratI (P 3) box from if_pos (by assumption)] at hQ | rw [show k_ncode N P box = plcI (N (k_li P box)) (ratI (P 3) box) from if_neg (by assumption)] at hQ
      refine us_v1 mRow_add dKno_takeName_76 kV_Kno_96 hR.1 ⟨by decide, rfl, rfl, (Nat.le_of_ble_eq_true rfl), (Nat.le_of_ble_eq_true rfl)⟩ (Nat.le_of_ble_eq_true rfl) (Nat.le_of_ble_eq_true rfl) rfl ?_
      refine c_Row_add hR (by omega) (fun h1 hR1 hs1 => ?_)
      refine u_ko_0 ?_
      have hK := hK.ag (hs1.ag (by omega))
      refine us_aload dKno_takeName_79 rfl ?_
      refine us_iload dKno_takeName_81 rfl ?_
      refine us_i2l dKno_takeName_83 (by omega) ?_
      refine us_v1 mFrl_meet dKno_takeName_84 kV_Kno_99 (hK.n (k_li_lt P box)).1 ⟨by decide, rfl, rfl, (Nat.le_of_ble_eq_true rfl), (Nat.le_of_ble_eq_true rfl)⟩ (Nat.le_of_ble_eq_true rfl) (Nat.le_of_ble_eq_true rfl) rfl ?_
      refine c_Frl_meet (hK.n (k_li_lt P box)) (by omega) (fun h2 hF hs2 => ?_)
      refine u_ko_0 ?_
      have hK := hK.sN (k_li_lt P box) hF hs2
      have hlt := k_li_lt P box
      refine us_return dKno_takeName_87 rfl (Nat.le_of_ble_eq_true rfl) (Nat.le_of_ble_eq_true rfl) ?_
      exact hQ _ hK (hR1.kept hs2 (by omega)) ((hs1.r2 (by omega) (by omega)).tr (hs2.l2 (by omega) (by omega)))
    · skip
      refine us_aload dKno_takeName_63 rfl ?_
      refine us_v0 mFrl_size dKno_takeName_65 kV_Kno_95 (hK.n (k_li_lt P box)).1 ⟨by decide, rfl, rfl, (Nat.le_of_ble_eq_true rfl), (Nat.le_of_ble_eq_true rfl)⟩ (Nat.le_of_ble_eq_true rfl) (Nat.le_of_ble_eq_true rfl) rfl ?_
      refine c_Frl_size (hK.n (k_li_lt P box)) ?_
      refine u_ko_1 ?_
      refine us_iload dKno_takeName_68 rfl ?_
      refine us_iadd dKno_takeName_70 ?_
      refine us_goto dKno_takeName_71 ?_
      first | rw [show k_ncode N P box = (N (k_li P box)).length + ratI (P 3) box from if_pos (by assumption)] at hQ | rw [show k_ncode N P box = plcI (N (k_li P box)) (ratI (P 3) box) from if_neg (by assumption)] at hQ
      refine us_v1 mRow_add dKno_takeName_76 kV_Kno_96 hR.1 ⟨by decide, rfl, rfl, (Nat.le_of_ble_eq_true rfl), (Nat.le_of_ble_eq_true rfl)⟩ (Nat.le_of_ble_eq_true rfl) (Nat.le_of_ble_eq_true rfl) rfl ?_
      refine c_Row_add hR (by omega) (fun h1 hR1 hs1 => ?_)
      refine u_ko_0 ?_
      have hK := hK.ag (hs1.ag (by omega))
      refine us_aload dKno_takeName_79 rfl ?_
      refine us_iload dKno_takeName_81 rfl ?_
      refine us_i2l dKno_takeName_83 (by omega) ?_
      refine us_v1 mFrl_meet dKno_takeName_84 kV_Kno_99 (hK.n (k_li_lt P box)).1 ⟨by decide, rfl, rfl, (Nat.le_of_ble_eq_true rfl), (Nat.le_of_ble_eq_true rfl)⟩ (Nat.le_of_ble_eq_true rfl) (Nat.le_of_ble_eq_true rfl) rfl ?_
      refine c_Frl_meet (hK.n (k_li_lt P box)) (by omega) (fun h2 hF hs2 => ?_)
      refine u_ko_0 ?_
      have hK := hK.sN (k_li_lt P box) hF hs2
      have hlt := k_li_lt P box
      refine us_return dKno_takeName_87 rfl (Nat.le_of_ble_eq_true rfl) (Nat.le_of_ble_eq_true rfl) ?_
      exact hQ _ hK (hR1.kept hs2 (by omega)) ((hs1.r2 (by omega) (by omega)).tr (hs2.l2 (by omega) (by omega)))

def k_vcode (V : List Int) (nm key v : Int) : Int := if v - (if ratI V (nm * 4 + key) < 0 then 0 else ratI V (nm * 4 + key)) < 0 then v - (if ratI V (nm * 4 + key) < 0 then 0 else ratI V (nm * 4 + key)) + 10 else v - (if ratI V (nm * 4 + key) < 0 then 0 else ratI V (nm * 4 + key))
theorem c_Kno_takeValue {h : uHp} {k r : Nat} {N : Nat → List Int} {W S V X : List Int} {nm key v : Int} {Q : uPs} (hK : uKno h k (N, W, S, V)) (hR : uRow h r 100 X) (d2 : r + 2 ≤ k ∨ k + 22 ≤ r) (hn : 0 ≤ nm ∧ nm ≤ 5) (hk : 0 ≤ key ∧ key ≤ 3) (hv : 0 ≤ v ∧ v ≤ 9) (hV : ratI V (nm * 4 + key) ≤ 9) (hQ : ∀ h' : uHp, uKno h' k (N, W, S, putI V (nm * 4 + key) v) → uRow h' r 100 (appI 100 X (k_vcode V nm key v)) → uS2 k (k + 22) r (r + 2) h h' → Q none h') : uW mKno_takeValue 0 [.ref k, ui nm, ui key, ui v, .ref r, .null] [] h 0 0 Q := by
  refine us_iload_n dKno_takeValue_0 rfl ?_
  refine us_aload_n dKno_takeValue_1 rfl ?_
  refine us_iload_n dKno_takeValue_2 rfl ?_
  refine us_iload_n dKno_takeValue_3 rfl ?_
  refine us_v2 mKno_valueOf dKno_takeValue_4 kV_Kno_126 hK.1 ⟨by decide, rfl, rfl, (Nat.le_of_ble_eq_true rfl), (Nat.le_of_ble_eq_true rfl)⟩ (Nat.le_of_ble_eq_true rfl) (Nat.le_of_ble_eq_true rfl) rfl ?_
  refine c_Kno_valueOf hK (by omega) (by omega) ?_
  refine u_ko_1 ?_
  have hr := ratI_rng hK.v (nm * 4 + key)
  refine us_iconst dKno_takeValue_7 ?_
  refine us_max dKno_takeValue_8 kS_Kno_129 w_maxs w_mi w_maxc (by decide) (Nat.le_of_ble_eq_true rfl) (Nat.le_of_ble_eq_true rfl) (Nat.le_of_ble_eq_true rfl) (by dsimp only at hr ⊢; omega) ?_
  obtain ⟨w, hw⟩ : ∃ w : Int, w = (if ratI V (nm * 4 + key) < 0 then 0 else ratI V (nm * 4 + key)) := ⟨_, rfl⟩
  have hw2 : 0 ≤ w ∧ w ≤ 9 := by rw [hw]; split <;> omega
  have hcd : k_vcode V nm key v = if v - w < 0 then v - w + 10 else v - w := by unfold k_vcode; rw [← hw]
  dsimp only
  rw [← hw]
  refine us_isub dKno_takeValue_11 ?_
  refine us_istore_5 dKno_takeValue_12 rfl (Nat.le_of_ble_eq_true rfl) ?_
  refine us_aload dKno_takeValue_14 rfl ?_
  refine us_iload dKno_takeValue_16 rfl ?_
  refine us_if_ge dKno_takeValue_18 (by omega) (fun c1 => ?_) (fun c1 => ?_)
  · skip
    refine us_iload dKno_takeValue_29 rfl ?_
    first | rw [if_pos (by omega)] at hcd | rw [if_neg (by omega)] at hcd
    rw [hcd] at hQ
    refine us_v1 mRow_add dKno_takeValue_31 kV_Kno_96 hR.1 ⟨by decide, rfl, rfl, (Nat.le_of_ble_eq_true rfl), (Nat.le_of_ble_eq_true rfl)⟩ (Nat.le_of_ble_eq_true rfl) (Nat.le_of_ble_eq_true rfl) rfl ?_
    refine c_Row_add hR (by omega) (fun h1 hR1 hs1 => ?_)
    refine u_ko_0 ?_
    have hK := hK.ag (hs1.ag (by omega))
    refine us_aload_n dKno_takeValue_34 rfl ?_
    refine us_getf 2 3 dKno_takeValue_35 kF_Kno_31 hK.1 rfl ?_
    refine us_iload_n dKno_takeValue_38 rfl ?_
    refine us_iconst dKno_takeValue_39 ?_
    refine us_imul dKno_takeValue_40 ?_
    refine us_iload_n dKno_takeValue_41 rfl ?_
    refine us_iadd dKno_takeValue_42 ?_
    refine us_iload_n dKno_takeValue_43 rfl ?_
    refine us_v2 mRow_put dKno_takeValue_44 kV_Kno_106 hK.2.2.2.2.2.1 ⟨by decide, rfl, rfl, (Nat.le_of_ble_eq_true rfl), (Nat.le_of_ble_eq_true rfl)⟩ (Nat.le_of_ble_eq_true rfl) (Nat.le_of_ble_eq_true rfl) rfl ?_
    refine c_Row_put hK.v (by omega) (by omega) (fun h2 hR2 hs2 => ?_)
    refine u_ko_0 ?_
    have hK := hK.sV hR2 hs2
    refine us_return dKno_takeValue_47 rfl (Nat.le_of_ble_eq_true rfl) (Nat.le_of_ble_eq_true rfl) ?_
    exact hQ _ hK (hR1.kept hs2 (by omega)) ((hs1.r2 (by omega) (by omega)).tr (hs2.l2 (by omega) (by omega)))
  · skip
    refine us_iload dKno_takeValue_21 rfl ?_
    refine us_bipush dKno_takeValue_23 (by decide) ?_
    refine us_iadd dKno_takeValue_25 ?_
    refine us_goto dKno_takeValue_26 ?_
    first | rw [if_pos (by omega)] at hcd | rw [if_neg (by omega)] at hcd
    rw [hcd] at hQ
    refine us_v1 mRow_add dKno_takeValue_31 kV_Kno_96 hR.1 ⟨by decide, rfl, rfl, (Nat.le_of_ble_eq_true rfl), (Nat.le_of_ble_eq_true rfl)⟩ (Nat.le_of_ble_eq_true rfl) (Nat.le_of_ble_eq_true rfl) rfl ?_
    refine c_Row_add hR (by omega) (fun h1 hR1 hs1 => ?_)
    refine u_ko_0 ?_
    have hK := hK.ag (hs1.ag (by omega))
    refine us_aload_n dKno_takeValue_34 rfl ?_
    refine us_getf 2 3 dKno_takeValue_35 kF_Kno_31 hK.1 rfl ?_
    refine us_iload_n dKno_takeValue_38 rfl ?_
    refine us_iconst dKno_takeValue_39 ?_
    refine us_imul dKno_takeValue_40 ?_
    refine us_iload_n dKno_takeValue_41 rfl ?_
    refine us_iadd dKno_takeValue_42 ?_
    refine us_iload_n dKno_takeValue_43 rfl ?_
    refine us_v2 mRow_put dKno_takeValue_44 kV_Kno_106 hK.2.2.2.2.2.1 ⟨by decide, rfl, rfl, (Nat.le_of_ble_eq_true rfl), (Nat.le_of_ble_eq_true rfl)⟩ (Nat.le_of_ble_eq_true rfl) (Nat.le_of_ble_eq_true rfl) rfl ?_
    refine c_Row_put hK.v (by omega) (by omega) (fun h2 hR2 hs2 => ?_)
    refine u_ko_0 ?_
    have hK := hK.sV hR2 hs2
    refine us_return dKno_takeValue_47 rfl (Nat.le_of_ble_eq_true rfl) (Nat.le_of_ble_eq_true rfl) ?_
    exact hQ _ hK (hR1.kept hs2 (by omega)) ((hs1.r2 (by omega) (by omega)).tr (hs2.l2 (by omega) (by omega)))

