/-! the reference's parse: a word -/
theorem uBN_A {A A' : Nat → Int} {P : uPg} {b : Nat} (h : uBN A P b) (e : ∀ w, (w = 3 ∨ w = 4 ∨ (9 ≤ w ∧ w < 13)) → A' (13 * b + w) = A (13 * b + w)) : uBN A' P b := by
  obtain ⟨h1, h2, h3, h4⟩ := h
  refine ⟨(e 3 (by omega)).trans h1, h2, ?_, fun key hk hb => ?_⟩
  · rw [e 4 (by omega)]; exact h3
  · have := e (9 + key) (by omega)
    rw [show 13 * b + 9 + key = 13 * b + (9 + key) by omega, this, ← show 13 * b + 9 + key = 13 * b + (9 + key) by omega]
    exact h4 key hk hb
def pWd (P : uPg) (j L : Nat) (a : Int) : uPg := uP (uP (uP (uP P 1 (P 1 ++ [1])) 6 (P 6 ++ [(j : Int)])) 7 (P 7 ++ [(L : Int)])) 5 (P 5 ++ [a])
theorem pWd_0 (P : uPg) (j L : Nat) (a : Int) (ys : List Int) : pWd (uP P 0 ys) j L a = uP (pWd P j L a) 0 ys := by
  unfold pWd
  rw [uP_cm P (i := 0) (j := 1) (by decide), uP_cm _ (i := 0) (j := 6) (by decide), uP_cm _ (i := 0) (j := 7) (by decide), uP_cm _ (i := 0) (j := 5) (by decide)]
  rfl
theorem pWd_len (P : uPg) (j L : Nat) (a : Int) : p_lengthen (pWd P j L a) = pWd P j (L + 1) a := by
  unfold p_lengthen
  have e7 : pWd P j L a 7 = P 7 ++ [(L : Int)] := rfl
  rw [e7, show putI (P 7 ++ [(L : Int)]) (((P 7 ++ [(L : Int)]).length : Int) - 1) ((P 7 ++ [(L : Int)]).getLastD (-1) + 1) = P 7 ++ [((L + 1 : Nat) : Int)] from by
    unfold putI
    rw [if_pos (by simp), List.length_append, show ((((P 7).length + [(L : Int)].length : Nat) : Int) - 1).toNat = (P 7).length by simp, List.set_append_right _ _ (Nat.le_refl _), Nat.sub_self]
    simp]
  unfold pWd
  rw [uP_cm _ (i := 5) (j := 7) (by decide), uP_uP]
/-- reading the letters of a word -/
theorem rd_w {R xs : List Int} {j : Nat} {P : uPg} {O KP : List Int} {fp fc : Int} {ZF : uZ} (hz : zr R xs j (uP P 0 (xs.take j), O, KP, 6, fp, -1, fc) = ZF) (hl : xs.length ≤ 100) (h1 : (P 1).length < 100) (h6 : (P 6).length < 34) (h7 : (P 7).length < 34) (h5 : (P 5).length < 34) : ∀ L, L < 8 → (∀ i, i ≤ L → j + i < xs.length ∧ 103 ≤ ratI xs ((j + i : Nat) : Int) ∧ ratI xs ((j + i : Nat) : Int) ≤ 118) → zr R xs (j + (L + 1)) (uP (pWd P j (L + 1) (O.getLastD (-1))) 0 (xs.take (j + (L + 1))), O, KP, 7, fp, -1, fc) = ZF
  | 0, _, hx => by
    obtain ⟨x1, x2⟩ := hx 0 (Nat.le_refl _)
    have e := zs hz (by omega) hl (tk_w6 x2)
    have e2 : p_addWord (uP P 0 (xs.take (j + 1))) (j : Int) (O.getLastD (-1)) = uP (pWd P j 1 (O.getLastD (-1))) 0 (xs.take (j + 1)) := by
      rw [← pWd_0]
      unfold p_addWord pWd
      rw [show appI 100 (uP P 0 (xs.take (j + 1)) 1) 1 = P 1 ++ [1] from if_pos h1, show appI 34 (uP P 0 (xs.take (j + 1)) 6) (j : Int) = P 6 ++ [(j : Int)] from if_pos h6, show appI 34 (uP P 0 (xs.take (j + 1)) 7) 1 = P 7 ++ [1] from if_pos h7, show appI 34 (uP P 0 (xs.take (j + 1)) 5) (O.getLastD (-1)) = P 5 ++ [O.getLastD (-1)] from if_pos h5]
      rfl
    rw [← e2]
    exact e
  | L + 1, hL, hx => by
    have ih := rd_w hz hl h1 h6 h7 h5 L (by omega) (fun i hi => hx i (by omega))
    obtain ⟨x1, x2⟩ := hx (L + 1) (Nat.le_refl _)
    have e := zs ih (by omega) hl (tk_w7 x2 (by
      show (P 7 ++ [((L + 1 : Nat) : Int)]).getLastD (-1) < 8
      rw [List.getLastD_concat]
      omega))
    rw [← pWd_0, pWd_len] at e
    rw [← pWd_0]
    exact e
theorem encF_ub {f : Nat → Int} : ∀ (n : Nat), (∀ q, q < n → 0 ≤ f q ∧ f q ≤ 15) → encF f n 0 0 < 17 ^ n
  | 0, _ => by show (0 : Int) < 1; decide
  | n + 1, h => by
    have e := encF_ub n (fun q hq => h q (by omega))
    have e2 := h n (by omega)
    rw [encF_snoc, Nat.zero_add, Int.pow_succ]
    omega
theorem w_num_rng {P : uPg} {w : Int} (h7 : ratI (P 7) w ≤ 8) (hx : ∀ q, ratI (P 6) w ≤ q → q < ratI (P 6) w + ratI (P 7) w → 103 ≤ ratI (P 0) q ∧ ratI (P 0) q ≤ 118) : -1000000000000 ≤ w_num P w ∧ w_num P w ≤ 1000000000000 := by
  have e0 := w_numF_enc P (ratI (P 6) w) (ratI (P 7) w).toNat 0 0
  rw [show ratI (P 6) w + ((0 : Nat) : Int) = ratI (P 6) w by omega] at e0
  unfold w_num
  rw [e0]
  have hd : ∀ q, q < (ratI (P 7) w).toNat → 0 ≤ ratI (P 0) (ratI (P 6) w + (q : Int)) - 103 ∧ ratI (P 0) (ratI (P 6) w + (q : Int)) - 103 ≤ 15 := fun q hq => by
    have := hx (ratI (P 6) w + (q : Int)) (by omega) (by omega)
    omega
  have e1 := encF_nn (f := fun i => ratI (P 0) (ratI (P 6) w + (i : Int)) - 103) _ hd
  have e2 := encF_ub (f := fun i => ratI (P 0) (ratI (P 6) w + (i : Int)) - 103) _ hd
  have e3 : (17 : Int) ^ (ratI (P 7) w).toNat ≤ 17 ^ 8 := by
    have : ∀ n, n ≤ 8 → (17 : Int) ^ n ≤ 17 ^ 8 := by decide
    exact this _ (by omega)
  have e4 : (17 : Int) ^ 8 = 6975757441 := by decide
  omega
theorem c1_lt2 {P : uPg} {i : Nat} (hi : i < (P 1).length) (g : ratI (P 1) (i : Int) = 1) : c1 P i < (P 1).count 1 := by
  have e1 := c1_succ hi
  rw [if_pos g] at e1
  have e2 := c1_le P (i + 1)
  omega
theorem plcI_app (xs : List Int) (a x : Int) : plcI (xs ++ [a]) x = if x ∈ xs then plcI xs x else if x = a then (xs.length : Int) else -1 := by
  rw [plcI_idx, plcI_idx, List.idxOf_append, List.length_append]
  by_cases hm : x ∈ xs
  · have h2 := List.idxOf_lt_length_iff.mpr hm
    rw [if_pos hm, if_pos hm, if_pos h2, if_pos (by omega)]
  · rw [if_neg hm, if_neg hm]
    by_cases hq : x = a
    · subst hq
      rw [if_pos rfl, show [x].idxOf x = 0 from List.idxOf_cons_self, if_pos (by simp), Nat.zero_add]
    · rw [if_neg hq, show [a].idxOf x = 1 by rw [List.idxOf_cons, show (a == x) = false by simp; exact fun z => hq z.symm]; rfl, if_neg (by simp; omega)]
/-- a word -/
theorem rAll.word {S S' : uMS} {xs : List Int} {P : uPg} {O : List Int} {j L nb : Nat} (h : rAll S xs P O j nb) (hO : 0 < O.length) (hL : 1 ≤ L ∧ L ≤ 8) (hj : j + L ≤ xs.length) (hx : ∀ i, i < L → 103 ≤ ratI xs ((j + i : Nat) : Int) ∧ ratI xs ((j + i : Nat) : Int) ≤ 118)
    (e9 : S'.1 9 = S.1 9) (e15 : S'.1 15 = ((P 1).length : Int) + 1) (e16 : S'.1 16 = S.1 16) (e12 : S'.1 12 = S.1 12) (e8 : S'.2 8 = S.2 8)
    (e11 : ∀ q, S'.2 11 q = if q = 13 * (O.getLastD (-1)).toNat + 7 then (if S.2 11 (13 * (O.getLastD (-1)).toNat + 5) + 1 = 1 then (L : Int) else S.2 11 (13 * (O.getLastD (-1)).toNat + 7)) else if q = 13 * (O.getLastD (-1)).toNat + 5 then S.2 11 (13 * (O.getLastD (-1)).toNat + 5) + 1 else S.2 11 q)
    (e13 : ∀ q, S'.2 13 q = if q = (P 1).length then 1 else S.2 13 q) (e14 : ∀ q, S'.2 14 q = if q = (P 1).length then 10 * (j : Int) + (L : Int) else S.2 14 q) : rAll S' xs (pWd P j L (O.getLastD (-1))) O (j + L) nb := by
  obtain ⟨hs, ho, hb, hc, hw, hg, hl⟩ := h
  obtain ⟨s1, s2, s3⟩ := hs
  obtain ⟨o1, o2, o3⟩ := ho
  obtain ⟨c1', c2', c3', c4', c5', c6', c7', c8'⟩ := id hc
  have ha : 0 ≤ O.getLastD (-1) ∧ O.getLastD (-1) < ((P 3).length : Int) := by
    rw [lastD_at hO]
    exact (o3 (O.length - 1) (by omega)).1
  generalize O.getLastD (-1) = a at *
  have p0 : ∀ ys, uP (pWd P j L a) 0 ys 0 = ys := fun ys => uP_eq _ _ _
  have p1 : pWd P j L a 1 = P 1 ++ [1] := rfl
  have p2 : pWd P j L a 2 = P 2 := rfl
  have p3 : pWd P j L a 3 = P 3 := rfl
  have p4 : pWd P j L a 4 = P 4 := rfl
  have p5 : pWd P j L a 5 = P 5 ++ [a] := rfl
  have p6 : pWd P j L a 6 = P 6 ++ [(j : Int)] := rfl
  have p7 : pWd P j L a 7 = P 7 ++ [(L : Int)] := rfl
  have q0 : ∀ i, i ≤ (P 1).length → c0 (pWd P j L a) i = c0 P i := fun i hi => by unfold c0; rw [p1, List.take_append_of_le_length hi]
  have q1 : ∀ i, i ≤ (P 1).length → c1 (pWd P j L a) i = c1 P i := fun i hi => by unfold c1; rw [p1, List.take_append_of_le_length hi]
  have r6 : ∀ w, w < (P 6).length → ratI (P 6 ++ [(j : Int)]) (w : Int) = ratI (P 6) (w : Int) := fun w hw => by rw [ratI_app w (by omega), if_neg (by omega)]
  have r7 : ∀ w, w < (P 6).length → ratI (P 7 ++ [(L : Int)]) (w : Int) = ratI (P 7) (w : Int) := fun w hw => by rw [ratI_app w (by omega), if_neg (by omega)]
  have r6' : ratI (P 6 ++ [(j : Int)]) ((P 6).length : Int) = (j : Int) := by rw [ratI_app _ (by omega), if_pos rfl]
  have r7' : ratI (P 7 ++ [(L : Int)]) ((P 6).length : Int) = (L : Int) := by rw [ratI_app _ (by omega), if_pos (by omega)]
  have d8 : ∀ b, S'.2 11 (13 * b + 8) = S.2 11 (13 * b + 8) := fun b => by rw [e11, if_neg (by omega), if_neg (by omega)]
  have wl : ∀ n, n ≤ (P 6).length → wlS (pWd P j L a) n = wlS P n := fun n => by
    induction n with
    | zero => intro _; rfl
    | succ n ih => intro hn; unfold wlS; rw [ih (by omega), p7, r7 n (by omega)]
  refine ⟨⟨?_, ?_, fun i hi => ?_⟩, ⟨e9.trans o1, o2, fun i hi => ?_⟩, ⟨fun b hbb => ?_, fun b hbb => ?_, ?_⟩, ?_, fun w hww => ?_, ⟨?_, ?_⟩, hj, hl.2⟩
  · rw [p1, List.length_append, e15]; rfl
  · rw [p1, List.count_append, e16, s2]; rfl
  · rw [p1, List.length_append] at hi
    have hi : i < (P 1).length + 1 := hi
    rw [p1, q0 i (by omega), q1 i (by omega), p6, p7, ratI_app i hi, e13, e14]
    by_cases hq : i = (P 1).length
    · rw [if_pos hq, if_pos hq, if_pos hq]
      refine ⟨rfl, by omega, fun z => absurd z (by decide), fun _ => ?_⟩
      have : c1 P i = (P 6).length := by rw [hq]; unfold c1; rw [List.take_length, c4']
      rw [this, r6', r7']
    · rw [if_neg hq, if_neg hq, if_neg hq]
      obtain ⟨t1, t2, t3, t4⟩ := s3 i (by omega)
      refine ⟨t1, t2, t3, fun z => ?_⟩
      have := c1_lt2 (by omega) z
      rw [r6 _ (by omega), r7 _ (by omega)]
      exact t4 z
  · rw [p3, e8, d8]
    exact o3 i hi
  · rw [p3] at hbb
    obtain ⟨b1, b2, b3, b4, b5, b6, b7, b8, b9⟩ := hb.1 b hbb
    unfold rBc
    rw [p2, p3, p4, p5, p7, d8, d8]
    have ee : ∀ w, w < 3 ∨ w = 6 → S'.2 11 (13 * b + w) = S.2 11 (13 * b + w) := fun w hw => by rw [e11, if_neg (by omega), if_neg (by omega)]
    refine ⟨by rw [show 13 * b = 13 * b + 0 by omega, ee 0 (by omega)]; exact b1, by rw [ee 1 (by omega)]; exact b2, by rw [ee 2 (by omega)]; exact b3, ?_, by rw [ee 6 (by omega)]; exact b5, ?_, b7, b8, b9⟩
    · rw [e11, if_neg (by omega), List.count_append, List.count_singleton]
      by_cases hq : b = a.toNat
      · rw [if_pos (by omega), ← hq, b4, show (a == (b : Int)) = true by simp; omega]
        simp
      · rw [if_neg (by omega), b4, show (a == (b : Int)) = false by simp; omega]
        simp
    · have pa := plcI_app (P 5) a (b : Int)
      by_cases hm : (b : Int) ∈ P 5
      · have h1 := List.count_pos_iff.mpr hm
        have h2 := List.idxOf_lt_length_iff.mpr hm
        have hw : plcI (P 5) (b : Int) = (((P 5).idxOf (b : Int) : Nat) : Int) := by rw [plcI_idx, if_pos h2]
        rw [if_pos hm, hw] at pa
        rw [hw, if_neg (by omega)] at b6
        rw [pa, if_neg (by omega), r7 _ (by omega), e11]
        by_cases hq : b = a.toNat
        · rw [if_pos (by omega), ← hq, if_neg (by omega), b6]
        · rw [if_neg (by omega), if_neg (by omega), b6]
      · have h1 := List.count_eq_zero.mpr hm
        have h2 : ¬ (P 5).idxOf (b : Int) < (P 5).length := fun z => hm (List.idxOf_lt_length_iff.mp z)
        have hw : plcI (P 5) (b : Int) = -1 := by rw [plcI_idx, if_neg h2]
        rw [if_neg hm] at pa
        rw [hw, if_pos rfl] at b6
        by_cases hq : b = a.toNat
        · rw [if_pos (by omega)] at pa
          rw [pa, if_neg (by omega), c5', r7', e11, if_pos (by omega), ← hq, if_pos (by omega)]
        · rw [if_neg (by omega)] at pa
          rw [pa, if_pos rfl, e11, if_neg (by omega), if_neg (by omega), b6]
  · refine uBN_A (A := S.2 11) (uBN_c (P := uP P 0 xs) rfl rfl (hb.2.1 b hbb)) (fun w hw => ?_)
    rw [e11, if_neg (by omega), if_neg (by omega)]
  · rw [e12, p3]; exact hb.2.2
  · unfold rCt
    rw [p1, p2, p3, p4, p5, p6, p7, List.count_append, List.count_append, List.count_append, List.count_append, List.length_append, List.length_append, List.length_append, List.length_append]
    simp
    omega
  · rw [p6, List.length_append] at hww
    have hww : w < (P 6).length + 1 := hww
    rw [p6, p7, p5, p3]
    by_cases hq : w = (P 6).length
    · subst hq
      rw [r6', r7', ratI_app (xs := P 5) _ (by omega), if_pos (by omega)]
      refine ⟨?_, by omega, ha.1, ha.2⟩
      have g6 : ratI (uP (pWd P j L a) 0 xs 6) ((P 6).length : Int) = (j : Int) := r6'
      have g7 : ratI (uP (pWd P j L a) 0 xs 7) ((P 6).length : Int) = (L : Int) := r7'
      have gx : ∀ q, (j : Int) ≤ q → q < (j : Int) + (L : Int) → 103 ≤ ratI (uP (pWd P j L a) 0 xs 0) q ∧ ratI (uP (pWd P j L a) 0 xs 0) q ≤ 118 := fun q h1 h2 => by
        have := hx (q - (j : Int)).toNat (by omega)
        rw [show ((j + (q - (j : Int)).toNat : Nat) : Int) = q by omega] at this
        rw [p0]
        exact this
      refine ⟨by rw [g6]; omega, by rw [g7]; omega, by rw [g7]; omega, by rw [g6, g7]; exact gx, w_num_rng (by rw [g7]; omega) (by rw [g6, g7]; exact gx)⟩
    · obtain ⟨w1, w2, w3, w4⟩ := hw w (by omega)
      rw [r6 w (by omega), r7 w (by omega), ratI_app (xs := P 5) _ (by omega), if_neg (by omega)]
      refine ⟨?_, by omega, w3, w4⟩
      have g6 : ratI (uP (pWd P j L a) 0 xs 6) (w : Int) = ratI (P 6) (w : Int) := r6 w (by omega)
      have g7 : ratI (uP (pWd P j L a) 0 xs 7) (w : Int) = ratI (P 7) (w : Int) := r7 w (by omega)
      obtain ⟨v1, v2, v3, v4, v5⟩ := w1
      have v4 : ∀ q, ratI (P 6) (w : Int) ≤ q → q < ratI (P 6) (w : Int) + ratI (P 7) (w : Int) → 103 ≤ ratI (uP (pWd P j L a) 0 xs 0) q ∧ ratI (uP (pWd P j L a) 0 xs 0) q ≤ 118 := fun q h1 h2 => v4 q h1 h2
      exact ⟨by rw [g6]; exact v1, by rw [g7]; exact v2, by rw [g7]; exact v3, by rw [g6, g7]; exact v4, w_num_rng (by rw [g7]; exact v3) (by rw [g6, g7]; exact v4)⟩
  · have e2 : (P 1 ++ [(1 : Int)]).count 2 = (P 1).count 2 := by rw [List.count_append]; rfl
    have e6 : (P 6 ++ [(j : Int)]).length = (P 6).length + 1 := by rw [List.length_append]; rfl
    rw [p1, p3, p6, e2, e6, kyS_c (P := uP (pWd P j L a) 0 xs) (P' := uP P 0 xs) rfl rfl]
    show _ + (wlS (pWd P j L a) (P 6).length + (ratI (pWd P j L a 7) ((P 6).length : Int)).toNat) ≤ _
    rw [wl _ (Nat.le_refl _), p7, r7']
    have := hg.1
    omega
  · have e6 : (P 6 ++ [(j : Int)]).length = (P 6).length + 1 := by rw [List.length_append]; rfl
    rw [p6, e6]
    show _ ≤ wlS (pWd P j L a) (P 6).length + (ratI (pWd P j L a 7) ((P 6).length : Int)).toNat
    rw [wl _ (Nat.le_refl _), p7, r7']
    have := hg.2
    omega
