/-! the reference's parse: a box that opens -/
section PCG2
variable {P P' : uPg}
theorem pkn_d {b : Int} (h0 : P 0 = P' 0) (h2 : ratI (P 2) b = ratI (P' 2) b) (n : Int) : p_kn P b n = p_kn P' b n := by unfold p_kn; rw [h0, h2]
theorem pks_d {b : Int} (h0 : P 0 = P' 0) (h2 : ratI (P 2) b = ratI (P' 2) b) : p_ks P b = p_ks P' b := by
  have key : ∀ (n j : Nat) (s : Int), p_ksF P b n j s = p_ksF P' b n j s := by
    intro n
    induction n with
    | zero => intro j s; rfl
    | succ n ih => intro j s; unfold p_ksF; rw [pkn_d h0 h2, ih]
  exact key 4 0 0
theorem pvok_d {b : Int} (h0 : P 0 = P' 0) (h2 : ratI (P 2) b = ratI (P' 2) b) (k : Int) : p_vok P b k = p_vok P' b k := by
  have key : ∀ (n j : Nat), p_vokF P b k n j = p_vokF P' b k n j := by
    intro n
    induction n with
    | zero => intro j; rfl
    | succ n ih => intro j; unfold p_vokF; rw [pkn_d h0 h2, ih, h0, h2]
  exact key 4 0
theorem psm_d {b : Int} (h0 : P 0 = P' 0) (h2 : ratI (P 2) b = ratI (P' 2) b) (k : Int) : ∀ (n j : Nat) (s : Int), p_smF P b k n j s = p_smF P' b k n j s := by
  intro n
  induction n with
  | zero => intro j s; rfl
  | succ n ih => intro j s; unfold p_smF; rw [pkn_d h0 h2, ih]
theorem pok_d {b : Int} (h0 : P 0 = P' 0) (h2 : ratI (P 2) b = ratI (P' 2) b) (k : Nat) : p_ok P b k = p_ok P' b k := by
  have key : ∀ (n j : Nat) (s : Int), p_okF P b k n j s = p_okF P' b k n j s := by
    intro n
    induction n with
    | zero => intro j s; rfl
    | succ n ih => intro j s; unfold p_okF; rw [pkn_d h0 h2, psm_d h0 h2, ih]
  exact key k 0 0
theorem uBN_d {A : Nat → Int} {b : Nat} (h0 : P 0 = P' 0) (h2 : ratI (P 2) (b : Int) = ratI (P' 2) (b : Int)) (h : uBN A P b) : uBN A P' b := by
  unfold uBN at h ⊢
  simp only [← pks_d h0 h2, ← pok_d h0 h2, ← pvok_d h0 h2]
  exact h
theorem kyS_d (h0 : P 0 = P' 0) : ∀ n, (∀ b : Nat, b < n → ratI (P 2) (b : Int) = ratI (P' 2) (b : Int)) → kyS P n = kyS P' n
  | 0, _ => rfl
  | n + 1, h2 => by unfold kyS; rw [kyS_d h0 n (fun b hb => h2 b (by omega)), pks_d h0 (h2 n (by omega))]
end PCG2
def pBx (P : uPg) (nm j a : Int) : uPg := uP (uP (uP (uP P 1 (P 1 ++ [0])) 2 (P 2 ++ [j])) 3 (P 3 ++ [nm])) 4 (P 4 ++ [a])
theorem pBx_0 (P : uPg) (nm j a : Int) (ys : List Int) : pBx (uP P 0 ys) nm j a = uP (pBx P nm j a) 0 ys := by
  unfold pBx
  rw [uP_cm P (i := 0) (j := 1) (by decide), uP_cm _ (i := 0) (j := 2) (by decide), uP_cm _ (i := 0) (j := 3) (by decide), uP_cm _ (i := 0) (j := 4) (by decide)]
  rfl
theorem cnt_lt {xs : List Int} {n : Nat} {x : Int} (h : ∀ w, w < n → ratI xs (w : Int) < x) (hn : xs.length ≤ n) : xs.count x = 0 := by
  rw [List.count_eq_zero]
  intro hm
  obtain ⟨i, hi, he⟩ := List.mem_iff_getElem.mp hm
  have := h i (by omega)
  rw [ratI_nat, List.getD_eq_getElem?_getD, List.getElem?_eq_getElem hi] at this
  rw [he] at this
  exact absurd this (by show ¬ x < x; omega)
theorem rAll.opn {S S' : uMS} {xs : List Int} {P : uPg} {O : List Int} {nm j : Nat} (h : rAll S xs P O j (P 3).length) (hO : O.length ≤ 5) (hnm : nm < 6) (hj : j + 3 + 4 * pcN (p_ks (uP (pBx P nm j (O.getLastD (-1))) 0 xs) ((P 3).length : Int)) ≤ xs.length)
    (e9 : S'.1 9 = (O.length : Int) + 1) (e12 : S'.1 12 = ((P 3).length : Int) + 1) (e15 : S'.1 15 = ((P 1).length : Int) + 1) (e16 : S'.1 16 = S.1 16)
    (e8 : ∀ q, S'.2 8 q = if q = O.length then ((P 3).length : Int) else S.2 8 q)
    (e13 : ∀ q, S'.2 13 q = if q = (P 1).length then 0 else S.2 13 q) (e14 : ∀ q, S'.2 14 q = if q = (P 1).length then ((P 3).length : Int) else S.2 14 q)
    (el : ∀ q, q < 13 * (P 3).length → S'.2 11 q = if 0 < O.length ∧ q = 13 * (O.getLastD (-1)).toNat + 6 then S.2 11 q + 1 else S.2 11 q)
    (k0 : S'.2 11 (13 * (P 3).length) = (nm : Int)) (k1 : S'.2 11 (13 * (P 3).length + 1) = (j : Int)) (k2 : S'.2 11 (13 * (P 3).length + 2) = m5 (O.getLastD (-1))) (k5 : S'.2 11 (13 * (P 3).length + 5) = 0) (k6 : S'.2 11 (13 * (P 3).length + 6) = 0) (k7 : S'.2 11 (13 * (P 3).length + 7) = -5) (k8 : S'.2 11 (13 * (P 3).length + 8) = (O.length : Int) + 1)
    (hN : uBN (S'.2 11) (uP (pBx P nm j (O.getLastD (-1))) 0 xs) (P 3).length) : rAll S' xs (pBx P nm j (O.getLastD (-1))) (O ++ [((P 3).length : Int)]) (j + 3 + 4 * pcN (p_ks (uP (pBx P nm j (O.getLastD (-1))) 0 xs) ((P 3).length : Int))) ((P 3).length + 1) := by
  obtain ⟨hs, ho, hb, hc, hw, hg, hl⟩ := h
  obtain ⟨s1, s2, s3⟩ := hs
  obtain ⟨o1, o2, o3⟩ := ho
  obtain ⟨c1', c2', c3', c4', c5', c6', c7', c8'⟩ := id hc
  have ha : -1 ≤ O.getLastD (-1) ∧ O.getLastD (-1) < ((P 3).length : Int) ∧ (0 < O.length → 0 ≤ O.getLastD (-1) ∧ S.2 11 (13 * (O.getLastD (-1)).toNat + 8) = (O.length : Int)) ∧ (O.length = 0 → O.getLastD (-1) = -1) := by
    by_cases hO0 : 0 < O.length
    · rw [lastD_at hO0]
      obtain ⟨t1, t2, t3⟩ := o3 (O.length - 1) (by omega)
      exact ⟨by omega, t1.2, fun _ => ⟨t1.1, by rw [t3]; omega⟩, fun z => by omega⟩
    · have : O = [] := List.eq_nil_of_length_eq_zero (by omega)
      subst this
      exact ⟨by decide, by show (-1 : Int) < _; omega, fun z => absurd z hO0, fun _ => rfl⟩
  generalize O.getLastD (-1) = a at *
  have p0 : ∀ ys, uP (pBx P nm j a) 0 ys 0 = ys := fun ys => uP_eq _ _ _
  have p1 : pBx P nm j a 1 = P 1 ++ [0] := rfl
  have p2 : pBx P nm j a 2 = P 2 ++ [(j : Int)] := rfl
  have p3 : pBx P nm j a 3 = P 3 ++ [(nm : Int)] := rfl
  have p4 : pBx P nm j a 4 = P 4 ++ [a] := rfl
  have p5 : pBx P nm j a 5 = P 5 := rfl
  have p6 : pBx P nm j a 6 = P 6 := rfl
  have p7 : pBx P nm j a 7 = P 7 := rfl
  have l3 : (P 3 ++ [(nm : Int)]).length = (P 3).length + 1 := by rw [List.length_append]; rfl
  have q0 : ∀ i, i ≤ (P 1).length → c0 (pBx P nm j a) i = c0 P i := fun i hi => by unfold c0; rw [p1, List.take_append_of_le_length hi]
  have q1 : ∀ i, i ≤ (P 1).length → c1 (pBx P nm j a) i = c1 P i := fun i hi => by unfold c1; rw [p1, List.take_append_of_le_length hi]
  have r2 : ∀ w, w < (P 3).length → ratI (P 2 ++ [(j : Int)]) (w : Int) = ratI (P 2) (w : Int) := fun w hw => by rw [ratI_app w (by omega), if_neg (by omega)]
  have r3 : ∀ w, w < (P 3).length → ratI (P 3 ++ [(nm : Int)]) (w : Int) = ratI (P 3) (w : Int) := fun w hw => by rw [ratI_app w (by omega), if_neg (by omega)]
  have r4 : ∀ w, w < (P 3).length → ratI (P 4 ++ [a]) (w : Int) = ratI (P 4) (w : Int) := fun w hw => by rw [ratI_app w (by omega), if_neg (by omega)]
  have r2' : ratI (P 2 ++ [(j : Int)]) ((P 3).length : Int) = (j : Int) := by rw [ratI_app _ (by omega), if_pos (by omega)]
  have r3' : ratI (P 3 ++ [(nm : Int)]) ((P 3).length : Int) = (nm : Int) := by rw [ratI_app _ (by omega), if_pos (by omega)]
  have r4' : ratI (P 4 ++ [a]) ((P 3).length : Int) = a := by rw [ratI_app _ (by omega), if_pos (by omega)]
  have d8 : ∀ b, b < (P 3).length → S'.2 11 (13 * b + 8) = S.2 11 (13 * b + 8) := fun b hb => by rw [el _ (by omega), if_neg (by omega)]
  have wl : ∀ n, wlS (pBx P nm j a) n = wlS P n := fun n => wlS_c (P := pBx P nm j a) (P' := P) rfl n
  have ky : kyS (uP (pBx P nm j a) 0 xs) (P 3).length = kyS (uP P 0 xs) (P 3).length := kyS_d (by rw [p0, uP_eq]) _ (fun b hb => by show ratI (P 2 ++ [(j : Int)]) (b : Int) = ratI (P 2) (b : Int); exact r2 b hb)
  have cn5 : (P 5).count ((P 3).length : Int) = 0 := cnt_lt (n := (P 6).length) (fun w hw' => (hw w hw').2.2.2) (by omega)
  have cn4 : (P 4).count ((P 3).length : Int) = 0 := cnt_lt (n := (P 3).length) (fun w hw' => by have := (hb.1 w hw').2.2.1.2.2; omega) (by omega)
  generalize hm : pcN (p_ks (uP (pBx P nm j a) 0 xs) ((P 3).length : Int)) = m at *
  refine ⟨⟨?_, ?_, fun i hi => ?_⟩, ⟨?_, ?_, fun i hi => ?_⟩, ⟨fun b hbb => ?_, fun b hbb => ?_, ?_⟩, ?_, fun w hww => ?_, ⟨?_, ?_⟩, by omega, hl.2⟩
  · rw [p1, List.length_append, e15]; rfl
  · rw [p1, List.count_append, e16, s2]; rfl
  · rw [p1, List.length_append] at hi
    have hi : i < (P 1).length + 1 := hi
    rw [p1, q0 i (by omega), q1 i (by omega), p6, p7, ratI_app i hi, e13, e14]
    by_cases hq : i = (P 1).length
    · rw [if_pos hq, if_pos hq, if_pos hq]
      refine ⟨rfl, by omega, fun _ => ?_, fun z => absurd z (by decide)⟩
      rw [hq]
      unfold c0
      rw [List.take_length, c3']
    · rw [if_neg hq, if_neg hq, if_neg hq]
      exact s3 i (by omega)
  · rw [e9, List.length_append]; rfl
  · rw [List.length_append]; show O.length + 1 ≤ 6; omega
  · rw [List.length_append] at hi
    have hi : i < O.length + 1 := hi
    rw [p3, l3, e8, ratI_app i hi]
    by_cases hq : i = O.length
    · rw [if_pos hq, if_pos hq]
      refine ⟨by omega, rfl, ?_⟩
      rw [show ((P 3).length : Int).toNat = (P 3).length by omega, k8, hq]
    · rw [if_neg hq, if_neg hq]
      obtain ⟨t1, t2, t3⟩ := o3 i (by omega)
      exact ⟨by omega, t2, by rw [d8 _ (by omega)]; exact t3⟩
  · rw [p3, l3] at hbb
    unfold rBc
    rw [p2, p3, p4, p5, p7]
    by_cases hq : b = (P 3).length
    · subst hq
      rw [r2', r3', r4', k0, k1, k2, k5, k6, k7, k8, List.count_append, cn4, cn5, List.count_singleton, show (a == ((P 3).length : Int)) = false by simp; omega]
      have hpl : plcI (P 5) ((P 3).length : Int) = -1 := by rw [plcI_idx, if_neg (fun z => by have := List.count_pos_iff.mpr (List.idxOf_lt_length_iff.mp z); omega)]
      rw [hpl]
      refine ⟨⟨rfl, by omega, by omega⟩, ⟨rfl, by omega, by omega⟩, ⟨rfl, ha.1, ha.2.1⟩, rfl, rfl, rfl, by omega, fun z => ?_, fun z => ?_⟩
      · by_cases hO0 : 0 < O.length
        · have := (ha.2.2.1 hO0).1; omega
        · omega
      · by_cases hO0 : 0 < O.length
        · rw [d8 _ (by omega), (ha.2.2.1 hO0).2]
        · have := ha.2.2.2 (by omega); omega
    · obtain ⟨b1, b2, b3, b4, b5, b6, b7, b8, b9⟩ := hb.1 b (by omega)
      rw [r2 b (by omega), r3 b (by omega), r4 b (by omega), d8 b (by omega)]
      have ee : ∀ w, w < 13 ∧ w ≠ 6 → S'.2 11 (13 * b + w) = S.2 11 (13 * b + w) := fun w hw => by rw [el _ (by omega), if_neg (by omega)]
      refine ⟨by rw [show 13 * b = 13 * b + 0 by omega, ee 0 (by omega)]; exact b1, by rw [ee 1 (by omega)]; exact b2, by rw [ee 2 (by omega)]; exact b3, by rw [ee 5 (by omega)]; exact b4, ?_, by rw [ee 7 (by omega)]; exact b6, b7, b8, fun z => ?_⟩
      · rw [el _ (by omega), List.count_append, List.count_singleton, b5]
        by_cases hq2 : a = (b : Int)
        · have hO0 : 0 < O.length := by
            by_cases hO0 : 0 < O.length
            · exact hO0
            · have := ha.2.2.2 (by omega); omega
          rw [if_pos ⟨hO0, by omega⟩, show (a == (b : Int)) = true by simp; omega]
          simp
        · rw [if_neg (fun z => hq2 (by have := (ha.2.2.1 z.1).1; omega)), show (a == (b : Int)) = false by simp; omega]
          simp
      · rw [d8 _ (by omega)]; exact b9 z
  · by_cases hq : b = (P 3).length
    · rw [hq]; exact hN
    · refine uBN_A (A := S.2 11) (uBN_d (P := uP P 0 xs) ?_ ?_ (hb.2.1 b (by omega))) (fun w hw => ?_)
      · rw [uP_eq, p0]
      · show ratI (P 2) (b : Int) = ratI (P 2 ++ [(j : Int)]) (b : Int); exact (r2 b (by omega)).symm
      · rw [el _ (by omega), if_neg (by omega)]
  · rw [e12, p3, l3]; omega
  · unfold rCt
    rw [p1, p2, p3, p4, p5, p6, p7, List.count_append, List.count_append, List.count_append, List.count_append, List.length_append, List.length_append, List.length_append, List.length_append, List.length_append]
    simp
    omega
  · rw [p6] at hww
    rw [p6, p7, p5, p3, l3]
    obtain ⟨w1, w2, w3, w4⟩ := hw w hww
    exact ⟨pVw_c (P := uP P 0 xs) (P' := uP (pBx P nm j a) 0 xs) rfl rfl rfl w1, by omega, w3, by omega⟩
  · have e2 : (P 1 ++ [(0 : Int)]).count 2 = (P 1).count 2 := by rw [List.count_append]; rfl
    rw [p1, p3, p6, e2, l3, wl]
    show _ + 4 * (kyS (uP (pBx P nm j a) 0 xs) (P 3).length + pcN (p_ks (uP (pBx P nm j a) 0 xs) ((P 3).length : Int))) + _ + _ ≤ _
    rw [ky, hm]
    have := hg.1
    omega
  · rw [p6, wl]; exact hg.2
