/-! the class's reader, letter by letter -/
abbrev uFt : Type := Int × Int × Int
def zr (R xs : List Int) (j : Nat) (Z : uZ) : uZ := z_readF R xs (xs.length - j) j Z
theorem zr_step {R xs : List Int} {j : Nat} {P : uPg} {O KP : List Int} {m fp fc : Int} (hj : j < xs.length) : zr R xs j (P, O, KP, m, fp, -1, fc) = zr R xs (j + 1) (z_take R (uP P 0 (appI 100 (P 0) (ratI xs (j : Int))), O, KP, m, fp, -1, fc) (j : Int) (ratI xs (j : Int))) := by
  unfold zr
  rw [show xs.length - j = (xs.length - (j + 1)) + 1 by omega]
  exact if_pos rfl
theorem zr_end {R xs : List Int} {j : Nat} {Z : uZ} (hj : xs.length ≤ j) : zr R xs j Z = Z := by
  unfold zr
  rw [show xs.length - j = 0 by omega]
  rfl
theorem zr_flt {R xs : List Int} {j : Nat} {Z : uZ} (hk : Z.2.2.2.2.2.1 ≠ -1) : zr R xs j Z = Z := by
  unfold zr
  match xs.length - j with
  | 0 => rfl
  | n + 1 => exact if_neg hk
section ZT
variable {R : List Int} {P : uPg} {O KP : List Int} {pl x : Int} {f : uFt}
theorem tk_mark0 (h : x = 60) : z_take R (P, O, KP, 0, f) pl x = (P, O, KP, 1, f) := by
  show z_expect (P, O, KP, 0, f) (decide (x = 60)) 1 pl = _
  rw [decide_eq_true h]; rfl
theorem tk_bad0 (h : x ≠ 60) : z_take R (P, O, KP, 0, f) pl x = (P, O, KP, 0, pl, 1, -5) := by
  show z_expect (P, O, KP, 0, f) (decide (x = 60)) 1 pl = _
  rw [decide_eq_false h]; rfl
theorem tk_mark6 {m : Int} (hm : m = 6 ∨ m = 7) (h : x = 60) : z_take R (P, O, KP, m, f) pl x = (P, O, KP, 1, f) := by
  have e : z_take R (P, O, KP, m, f) pl x = z_box (P, O, KP, m, f) pl x := by rcases hm with rfl | rfl <;> rfl
  rw [e]
  unfold z_box
  rw [if_pos (by omega), decide_eq_true h]; rfl
theorem tk_bad6 {m : Int} (hm : m = 6 ∨ m = 7) (h : x ≠ 60) (h2 : x < 103 ∨ 118 < x) : z_take R (P, O, KP, m, f) pl x = (P, O, KP, m, pl, 1, -5) := by
  have e : z_take R (P, O, KP, m, f) pl x = z_box (P, O, KP, m, f) pl x := by rcases hm with rfl | rfl <;> rfl
  rw [e]
  unfold z_box
  rw [if_pos h2, decide_eq_false h]; rfl
theorem tk_w6 (h : 103 ≤ x ∧ x ≤ 118) : z_take R (P, O, KP, 6, f) pl x = (p_addWord P pl (O.getLastD (-1)), O, KP, 7, f) := by
  show z_box (P, O, KP, 6, f) pl x = _
  unfold z_box
  rw [if_neg (by omega), if_pos rfl]
theorem tk_w7 (h : 103 ≤ x ∧ x ≤ 118) (h2 : (P 7).getLastD (-1) < 8) : z_take R (P, O, KP, 7, f) pl x = (p_lengthen P, O, KP, 7, f) := by
  show z_box (P, O, KP, 7, f) pl x = _
  unfold z_box
  rw [if_neg (by omega), if_neg (show ¬ (7 : Int) = 6 by decide), if_pos h2]
theorem tk_w9 (h : 103 ≤ x ∧ x ≤ 118) (h2 : ¬ (P 7).getLastD (-1) < 8) : z_take R (P, O, KP, 7, f) pl x = (P, O, KP, 7, pl, 5, -5) := by
  show z_box (P, O, KP, 7, f) pl x = _
  unfold z_box
  rw [if_neg (by omega), if_neg (show ¬ (7 : Int) = 6 by decide), if_neg h2]; rfl
theorem tk_name (h : 97 ≤ x ∧ x ≤ 102) : z_take R (P, O, KP, 1, f) pl x = z_open R (P, O, KP, 1, f) (pl - 1) (x - 97) := by
  show z_bm R (P, O, KP, 1, f) pl x = _
  unfold z_bm is_nl
  rw [if_pos (decide_eq_true h)]
theorem tk_slash (h : x = 47) (hO : 0 < O.length) : z_take R (P, O, KP, 1, f) pl x = (P, O, KP, 8, f) := by
  show z_bm R (P, O, KP, 1, f) pl x = _
  unfold z_bm is_nl
  rw [if_neg (by simp; omega), decide_eq_true (show x = 47 ∧ 0 < O.length from ⟨h, hO⟩)]; rfl
theorem tk_bad1 (h : ¬ (97 ≤ x ∧ x ≤ 102)) (h2 : ¬ (x = 47 ∧ 0 < O.length)) : z_take R (P, O, KP, 1, f) pl x = (P, O, KP, 1, pl, 1, -5) := by
  show z_bm R (P, O, KP, 1, f) pl x = _
  unfold z_bm is_nl
  rw [if_neg (by simp; omega), decide_eq_false (show ¬ (x = 47 ∧ 0 < O.length) from h2)]; rfl
theorem tk_sp (h : x = 32) : z_take R (P, O, KP, 2, f) pl x = (P, O, KP, 3, f) := by
  show z_expect (P, O, KP, 2, f) (decide (x = 32 ∨ x = 62)) (if x = 32 then 3 else 6) pl = _
  rw [decide_eq_true (Or.inl h), if_pos h]; rfl
theorem tk_gt (h : x = 62) : z_take R (P, O, KP, 2, f) pl x = (P, O, KP, 6, f) := by
  show z_expect (P, O, KP, 2, f) (decide (x = 32 ∨ x = 62)) (if x = 32 then 3 else 6) pl = _
  rw [decide_eq_true (Or.inr h), if_neg (by omega)]; rfl
theorem tk_bad2 (h : x ≠ 32) (h2 : x ≠ 62) : z_take R (P, O, KP, 2, f) pl x = (P, O, KP, 2, pl, 1, -5) := by
  show z_expect (P, O, KP, 2, f) (decide (x = 32 ∨ x = 62)) (if x = 32 then 3 else 6) pl = _
  rw [decide_eq_false (by omega)]; rfl
theorem tk_bad3 (h : x < 119 ∨ 122 < x) : z_take R (P, O, KP, 3, f) pl x = (P, O, KP, 3, pl, 1, -5) := by
  show z_key (P, O, KP, 3, f) pl x = _
  unfold z_key
  rw [if_pos (by omega)]; rfl
theorem tk_key (h : 119 ≤ x ∧ x ≤ 122) (h2 : ratI KP (x - 119) = -1) : z_take R (P, O, KP, 3, f) pl x = (P, O, putI KP (x - 119) pl, 4, f) := by
  show z_key (P, O, KP, 3, f) pl x = _
  unfold z_key
  rw [if_neg (by omega), if_pos h2]
theorem tk_key2 (h : 119 ≤ x ∧ x ≤ 122) (h2 : ratI KP (x - 119) ≠ -1) : z_take R (P, O, KP, 3, f) pl x = (P, O, KP, 3, pl, 2, ratI KP (x - 119)) := by
  show z_key (P, O, KP, 3, f) pl x = _
  unfold z_key
  rw [if_neg (by omega), if_neg h2]; rfl
theorem tk_eq (h : x = 61) : z_take R (P, O, KP, 4, f) pl x = (P, O, KP, 5, f) := by
  show z_expect (P, O, KP, 4, f) (decide (x = 61)) 5 pl = _
  rw [decide_eq_true h]; rfl
theorem tk_bad4 (h : x ≠ 61) : z_take R (P, O, KP, 4, f) pl x = (P, O, KP, 4, pl, 1, -5) := by
  show z_expect (P, O, KP, 4, f) (decide (x = 61)) 5 pl = _
  rw [decide_eq_false h]; rfl
theorem tk_dig (h : 48 ≤ x ∧ x ≤ 57) : z_take R (P, O, KP, 5, f) pl x = (P, O, KP, 2, f) := by
  show z_expect (P, O, KP, 5, f) (decide (48 ≤ x ∧ x ≤ 57)) 2 pl = _
  rw [decide_eq_true h]; rfl
theorem tk_bad5 (h : ¬ (48 ≤ x ∧ x ≤ 57)) : z_take R (P, O, KP, 5, f) pl x = (P, O, KP, 5, pl, 1, -5) := by
  show z_expect (P, O, KP, 5, f) (decide (48 ≤ x ∧ x ≤ 57)) 2 pl = _
  rw [decide_eq_false h]; rfl
theorem tk_cn (h : 97 ≤ x ∧ x ≤ 102) : z_take R (P, O, KP, 8, f) pl x = z_cn2 (z_imcF R (x - 97) (O.length - 1) (P, O, KP, 8, f)) pl (x - 97) := by
  show z_cn R (P, O, KP, 8, f) pl x = _
  unfold z_cn is_nl
  rw [if_pos (decide_eq_true h)]
theorem tk_bad8 (h : ¬ (97 ≤ x ∧ x ≤ 102)) : z_take R (P, O, KP, 8, f) pl x = (P, O, KP, 8, pl, 1, -5) := by
  show z_cn R (P, O, KP, 8, f) pl x = _
  unfold z_cn is_nl
  rw [if_neg (by simp; omega)]; rfl
theorem tk_ce (h : x = 62) : z_take R (P, O, KP, 9, f) pl x = (uP P 1 (appI 100 (P 1) 2), O.dropLast, KP, (if 0 < O.dropLast.length then 6 else 10), f) := by
  show z_ce (P, O, KP, 9, f) pl x = _
  unfold z_ce
  rw [if_pos h]; rfl
theorem tk_bad9 (h : x ≠ 62) : z_take R (P, O, KP, 9, f) pl x = (P, O, KP, 9, pl, 1, -5) := by
  show z_ce (P, O, KP, 9, f) pl x = _
  unfold z_ce
  rw [if_neg h]; rfl
theorem tk_10 : z_take R (P, O, KP, 10, f) pl x = (P, O, KP, 10, pl, 6, -5) := rfl
end ZT
/-- the fault that the reference tells is the class's -/
def uFlt (S : uMS) (Z : uZ) : Prop := Z.2.2.2.2.2.1 ≠ -1 ∧ S.1 17 = Z.2.2.2.2.1 ∧ S.1 18 = Z.2.2.2.2.2.1 ∧ S.1 19 = Z.2.2.2.2.2.2
/-- a fault at a place: at the text's end, or at a letter -/
theorem z_fail {R xs : List Int} {pl : Nat} {P : uPg} {O KP : List Int} {m fp fc k c : Int} {S : uMS} {ZF : uZ} (hZ : zr R xs pl (P, O, KP, m, fp, -1, fc) = ZF) (hm : m ≠ 10) (hl : pl ≤ xs.length) (hk : k ≠ -1)
    (ht : pl < xs.length → (z_take R (uP P 0 (appI 100 (P 0) (ratI xs (pl : Int))), O, KP, m, fp, -1, fc) (pl : Int) (ratI xs (pl : Int))).2.2.2.2 = ((pl : Int), k, c))
    (hS : S.1 17 = (pl : Int) ∧ S.1 18 = (if (pl : Int) = (xs.length : Int) then 0 else k) ∧ S.1 19 = (if (pl : Int) = (xs.length : Int) then -5 else c)) : uFlt S (z_end ZF (xs.length : Int)) := by
  obtain ⟨s1, s2, s3⟩ := hS
  by_cases hlt : pl < xs.length
  · have e := ht hlt
    rw [if_neg (by omega)] at s2 s3
    rw [zr_step hlt] at hZ
    generalize z_take R (uP P 0 (appI 100 (P 0) (ratI xs (pl : Int))), O, KP, m, fp, -1, fc) (pl : Int) (ratI xs (pl : Int)) = Z at *
    obtain ⟨P', O', KP', m', f'⟩ := Z
    have e : f' = ((pl : Int), k, c) := e
    subst e
    rw [zr_flt (by exact hk)] at hZ
    subst hZ
    have e2 : z_end (P', O', KP', m', (pl : Int), k, c) (xs.length : Int) = (P', O', KP', m', (pl : Int), k, c) := if_neg (fun q => hk q.1)
    rw [e2]
    exact ⟨hk, s1, s2, s3⟩
  · rw [if_pos (by omega)] at s2 s3
    rw [zr_end (by omega)] at hZ
    subst hZ
    have e2 : z_end (P, O, KP, m, fp, -1, fc) (xs.length : Int) = z_tell (P, O, KP, m, fp, -1, fc) (xs.length : Int) 0 (-5) := if_pos ⟨rfl, hm⟩
    rw [e2]
    exact ⟨by show (0 : Int) ≠ -1; decide, by rw [s1]; show _ = (xs.length : Int); omega, s2, s3⟩
