/-! the reference's parse: what its cells say of a page that is being read -/
def rSt (S : uMS) (P : uPg) : Prop := S.1 15 = ((P 1).length : Int) ∧ S.1 16 = ((P 1).count 3 : Int) ∧ ∀ i, i < (P 1).length → S.2 13 i = ratI (P 1) (i : Int) ∧ (0 ≤ ratI (P 1) (i : Int) ∧ ratI (P 1) (i : Int) ≤ 3) ∧ (ratI (P 1) (i : Int) = 0 → S.2 14 i = (c0 P i : Int)) ∧ (ratI (P 1) (i : Int) = 1 → S.2 14 i = 10 * ratI (P 6) (c1 P i : Int) + ratI (P 7) (c1 P i : Int))
def rOp (S : uMS) (P : uPg) (O : List Int) : Prop := S.1 9 = (O.length : Int) ∧ O.length ≤ 6 ∧ ∀ i, i < O.length → (0 ≤ ratI O (i : Int) ∧ ratI O (i : Int) < ((P 3).length : Int)) ∧ S.2 8 i = ratI O (i : Int) ∧ S.2 11 (13 * (ratI O (i : Int)).toNat + 8) = (i : Int) + 1
def rBc (S : uMS) (P : uPg) (b : Nat) : Prop := (S.2 11 (13 * b) = ratI (P 3) (b : Int) ∧ 0 ≤ ratI (P 3) (b : Int) ∧ ratI (P 3) (b : Int) ≤ 5) ∧ (S.2 11 (13 * b + 1) = ratI (P 2) (b : Int) ∧ 0 ≤ ratI (P 2) (b : Int) ∧ ratI (P 2) (b : Int) < 100) ∧ (S.2 11 (13 * b + 2) = m5 (ratI (P 4) (b : Int)) ∧ -1 ≤ ratI (P 4) (b : Int) ∧ ratI (P 4) (b : Int) < (b : Int)) ∧
  S.2 11 (13 * b + 5) = ((P 5).count (b : Int) : Int) ∧ S.2 11 (13 * b + 6) = ((P 4).count (b : Int) : Int) ∧ S.2 11 (13 * b + 7) = (if plcI (P 5) (b : Int) = -1 then -5 else ratI (P 7) (plcI (P 5) (b : Int))) ∧ (1 ≤ S.2 11 (13 * b + 8) ∧ S.2 11 (13 * b + 8) ≤ 6) ∧ (ratI (P 4) (b : Int) < 0 → S.2 11 (13 * b + 8) = 1) ∧ (0 ≤ ratI (P 4) (b : Int) → S.2 11 (13 * b + 8) = S.2 11 (13 * (ratI (P 4) (b : Int)).toNat + 8) + 1)
def rCt (P : uPg) (O : List Int) : Prop := (P 2).length = (P 3).length ∧ (P 4).length = (P 3).length ∧ (P 1).count 0 = (P 3).length ∧ (P 1).count 1 = (P 6).length ∧ (P 5).length = (P 6).length ∧ (P 7).length = (P 6).length ∧ (P 1).count 2 + (P 1).count 3 + O.length = (P 3).length ∧ (P 1).length = (P 3).length + (P 6).length + (P 1).count 2 + (P 1).count 3
def rWd (xs : List Int) (P : uPg) (at_ : Nat) : Prop := ∀ w, w < (P 6).length → pVw (uP P 0 xs) (w : Int) ∧ ratI (P 6) (w : Int) + ratI (P 7) (w : Int) ≤ (at_ : Int) ∧ 0 ≤ ratI (P 5) (w : Int) ∧ ratI (P 5) (w : Int) < ((P 3).length : Int)
/-- letters that boxes, keys, told closings and words take -/
def rBg (xs : List Int) (P : uPg) (at_ nb : Nat) : Prop := 3 * (P 3).length + 4 * kyS (uP P 0 xs) nb + 4 * (P 1).count 2 + wlS P (P 6).length ≤ at_ ∧ (P 6).length ≤ wlS P (P 6).length
/-- nb: the boxes whose notes are read -/
def rAll (S : uMS) (xs : List Int) (P : uPg) (O : List Int) (at_ nb : Nat) : Prop := rSt S P ∧ rOp S P O ∧ ((∀ b, b < (P 3).length → rBc S P b) ∧ (∀ b, b < nb → uBN (S.2 11) (uP P 0 xs) b) ∧ S.1 12 = ((P 3).length : Int)) ∧ rCt P O ∧ rWd xs P at_ ∧ rBg xs P at_ nb ∧ (at_ ≤ xs.length ∧ xs.length ≤ 100)
def rTx (S : uMS) (xs : List Int) : Prop := S.1 6 = (xs.length : Int) ∧ (∀ q, q < xs.length → S.2 5 q = ratI xs (q : Int)) ∧ ∀ q, q < 100 → -1000000 ≤ S.2 5 q ∧ S.2 5 q ≤ 1000000
def mkR (z : Int) (R : List Int) (n : Nat) : Prop := ∃ k : Nat, z = (k : Int) ∧ k < 64 ∧ ∀ e : Nat, e < 6 → ((k / 2 ^ e) % 2 = 1 ↔ e_is R (n : Int) (e : Int) = true)
def rEn (S : uMS) (R : List Int) : Prop := ∀ n, n < 6 → mkR (S.2 7 n) R n
/-- all but what the parse writes -/
def uSP (S S' : uMS) : Prop := (∀ i, i ≠ 9 → i ≠ 12 → i ≠ 15 → i ≠ 16 → i ≠ 17 → i ≠ 18 → i ≠ 19 → S'.1 i = S.1 i) ∧ ∀ f, f ≠ 8 → f ≠ 10 → f ≠ 11 → f ≠ 13 → f ≠ 14 → S'.2 f = S.2 f
theorem uSP.rf {S : uMS} : uSP S S := ⟨fun _ _ _ _ _ _ _ _ => rfl, fun _ _ _ _ _ _ => rfl⟩
theorem uSP.tr {S S1 S2 : uMS} (a : uSP S S1) (b : uSP S1 S2) : uSP S S2 := ⟨fun i h1 h2 h3 h4 h5 h6 h7 => (b.1 i h1 h2 h3 h4 h5 h6 h7).trans (a.1 i h1 h2 h3 h4 h5 h6 h7), fun f h1 h2 h3 h4 h5 => (b.2 f h1 h2 h3 h4 h5).trans (a.2 f h1 h2 h3 h4 h5)⟩
theorem rTx.sp {S S' : uMS} {xs : List Int} (h : rTx S xs) (k : uSP S S') : rTx S' xs := by
  unfold rTx
  rw [k.1 6 (by decide) (by decide) (by decide) (by decide) (by decide) (by decide) (by decide), k.2 5 (by decide) (by decide) (by decide) (by decide) (by decide)]
  exact h
theorem rEn.sp {S S' : uMS} {R : List Int} (h : rEn S R) (k : uSP S S') : rEn S' R := by
  unfold rEn
  rw [k.2 7 (by decide) (by decide) (by decide) (by decide) (by decide)]
  exact h
theorem mk_bit {z : Int} {R : List Int} {n : Nat} (h : mkR z R n) {e : Nat} (he : e < 6) : (andI (shrI z (e : Int)) 1 = 1) ↔ e_is R (n : Int) (e : Int) = true := by
  obtain ⟨k, rfl, h2, h3⟩ := h
  rw [s_bit k (by omega) e (by omega), ← h3 e he]
  omega
section PCG
variable {P P' : uPg}
theorem pkn_c (h0 : P 0 = P' 0) (h2 : P 2 = P' 2) (b n : Int) : p_kn P b n = p_kn P' b n := by unfold p_kn; rw [h0, h2]
theorem pks_c (h0 : P 0 = P' 0) (h2 : P 2 = P' 2) (b : Int) : p_ks P b = p_ks P' b := by
  have key : ∀ (n j : Nat) (s : Int), p_ksF P b n j s = p_ksF P' b n j s := by
    intro n
    induction n with
    | zero => intro j s; rfl
    | succ n ih => intro j s; unfold p_ksF; rw [pkn_c h0 h2, ih]
  exact key 4 0 0
theorem pvok_c (h0 : P 0 = P' 0) (h2 : P 2 = P' 2) (b k : Int) : p_vok P b k = p_vok P' b k := by
  have key : ∀ (n j : Nat), p_vokF P b k n j = p_vokF P' b k n j := by
    intro n
    induction n with
    | zero => intro j; rfl
    | succ n ih => intro j; unfold p_vokF; rw [pkn_c h0 h2, ih, h0, h2]
  exact key 4 0
theorem psm_c (h0 : P 0 = P' 0) (h2 : P 2 = P' 2) (b k : Int) : ∀ (n j : Nat) (s : Int), p_smF P b k n j s = p_smF P' b k n j s := by
  intro n
  induction n with
  | zero => intro j s; rfl
  | succ n ih => intro j s; unfold p_smF; rw [pkn_c h0 h2, ih]
theorem pok_c (h0 : P 0 = P' 0) (h2 : P 2 = P' 2) (b : Int) (k : Nat) : p_ok P b k = p_ok P' b k := by
  have key : ∀ (n j : Nat) (s : Int), p_okF P b k n j s = p_okF P' b k n j s := by
    intro n
    induction n with
    | zero => intro j s; rfl
    | succ n ih => intro j s; unfold p_okF; rw [pkn_c h0 h2, psm_c h0 h2, ih]
  exact key k 0 0
theorem uBN_c {A : Nat → Int} {b : Nat} (h0 : P 0 = P' 0) (h2 : P 2 = P' 2) (h : uBN A P b) : uBN A P' b := by
  unfold uBN at h ⊢
  simp only [← pks_c h0 h2, ← pok_c h0 h2, ← pvok_c h0 h2]
  exact h
theorem kyS_c (h0 : P 0 = P' 0) (h2 : P 2 = P' 2) : ∀ n, kyS P n = kyS P' n
  | 0 => rfl
  | n + 1 => by unfold kyS; rw [kyS_c h0 h2 n, pks_c h0 h2]
theorem wnum_c (h0 : P 0 = P' 0) (h6 : P 6 = P' 6) (h7 : P 7 = P' 7) (w : Int) : w_num P w = w_num P' w := by
  have key : ∀ (n : Nat) (q a : Int), w_numF P n q a = w_numF P' n q a := by
    intro n
    induction n with
    | zero => intro q a; rfl
    | succ n ih => intro q a; unfold w_numF; rw [h0, ih]
  unfold w_num
  rw [h6, h7, key]
theorem pVw_c (h0 : P 0 = P' 0) (h6 : P 6 = P' 6) (h7 : P 7 = P' 7) {w : Int} (h : pVw P w) : pVw P' w := by
  unfold pVw at h ⊢
  rw [← h0, ← h6, ← h7, ← wnum_c h0 h6 h7]
  exact h
end PCG
theorem c0_app {P : uPg} {x : Int} {i : Nat} (hi : i ≤ (P 1).length) : c0 (uP P 1 (P 1 ++ [x])) i = c0 P i := by
  unfold c0
  rw [uP_eq, List.take_append_of_le_length hi]
theorem c1_app {P : uPg} {x : Int} {i : Nat} (hi : i ≤ (P 1).length) : c1 (uP P 1 (P 1 ++ [x])) i = c1 P i := by
  unfold c1
  rw [uP_eq, List.take_append_of_le_length hi]
theorem rAll.steps {S : uMS} {xs : List Int} {P : uPg} {O : List Int} {at_ nb : Nat} (h : rAll S xs P O at_ nb) : (P 1).length ≤ 2 * (P 3).length + (P 6).length ∧ 3 * (P 3).length + (P 6).length ≤ 100 := by
  obtain ⟨-, -, -, hc, -, hg, hl⟩ := h
  obtain ⟨c1, c2, c3, c4, c5, c6, c7, c8⟩ := hc
  obtain ⟨g1, g2⟩ := hg
  omega
/-- a closing -/
theorem rAll.close {S S' : uMS} {xs : List Int} {P : uPg} {O : List Int} {at_ nb : Nat} {st ab : Int} (h : rAll S xs P O at_ nb) (hO : 0 < O.length) (hst : st = 2 ∨ st = 3) (hat : 4 * (P 1).count 2 + (if st = 2 then 4 else 0) + 3 * (P 3).length + 4 * kyS (uP P 0 xs) nb + wlS P (P 6).length ≤ at_)
    (e9 : S'.1 9 = (O.length : Int) - 1) (e15 : S'.1 15 = ((P 1).length : Int) + 1) (e16 : S'.1 16 = S.1 16 + (if st = 3 then 1 else 0)) (e12 : S'.1 12 = S.1 12)
    (e8 : S'.2 8 = S.2 8) (e11 : S'.2 11 = S.2 11) (e13 : ∀ q, S'.2 13 q = if q = (P 1).length then st else S.2 13 q) (e14 : ∀ q, S'.2 14 q = if q = (P 1).length then ab else S.2 14 q) : rAll S' xs (uP P 1 (P 1 ++ [st])) O.dropLast at_ nb := by
  have hz := h.steps
  obtain ⟨hs, ho, hb, hc, hw, hg, hl⟩ := h
  obtain ⟨s1, s2, s3⟩ := hs
  obtain ⟨o1, o2, o3⟩ := ho
  obtain ⟨c1', c2', c3', c4', c5', c6', c7', c8'⟩ := hc
  have hne : ∀ j, j ≠ 1 → uP P 1 (P 1 ++ [st]) j = P j := fun j hj => uP_ne hj
  have hdl : O.dropLast.length = O.length - 1 := List.length_dropLast ..
  have hX : uP (uP P 1 (P 1 ++ [st])) 0 xs 0 = uP P 0 xs 0 := by rw [uP_eq, uP_eq]
  have hks : ∀ b : Int, p_ks (uP (uP P 1 (P 1 ++ [st])) 0 xs) b = p_ks (uP P 0 xs) b := fun b => rfl
  have hky : ∀ n, kyS (uP (uP P 1 (P 1 ++ [st])) 0 xs) n = kyS (uP P 0 xs) n := fun n => by
    induction n with
    | zero => rfl
    | succ n ih => unfold kyS; rw [ih, hks]
  refine ⟨⟨?_, ?_, fun i hi => ?_⟩, ⟨?_, ?_, fun i hi => ?_⟩, ⟨fun b hbb => ?_, fun b hbb => ?_, ?_⟩, ?_, ?_, ?_, hl⟩
  · rw [uP_eq, List.length_append, e15]; rfl
  · rw [uP_eq, List.count_append, List.count_singleton, e16, s2]
    rcases hst with rfl | rfl <;> simp
  · rw [uP_eq, List.length_append] at hi
    have hi : i < (P 1).length + 1 := hi
    rw [uP_eq, c0_app (by omega), c1_app (by omega), hne 6 (by decide), hne 7 (by decide), ratI_app i hi, e13, e14]
    by_cases hq : i = (P 1).length
    · rw [if_pos hq, if_pos hq]
      exact ⟨rfl, by omega, fun z => by omega, fun z => by omega⟩
    · rw [if_neg hq, if_neg hq, if_neg hq]
      exact s3 i (by omega)
  · rw [e9, hdl]; omega
  · omega
  · rw [hdl] at hi
    have e : ratI O.dropLast (i : Int) = ratI O (i : Int) := by
      rw [ratI_nat, ratI_nat, List.getD_eq_getElem?_getD, List.getD_eq_getElem?_getD, List.getElem?_dropLast, if_pos (by omega)]
    rw [e, e8, e11, hne 3 (by decide)]
    exact o3 i (by omega)
  · unfold rBc
    rw [hne 3 (by decide), hne 2 (by decide), hne 4 (by decide), hne 5 (by decide), hne 7 (by decide), e11]
    rw [hne 3 (by decide)] at hbb
    exact hb.1 b hbb
  · rw [e11]
    exact uBN_c (P := uP P 0 xs) rfl rfl (hb.2.1 b hbb)
  · rw [e12, hne 3 (by decide)]; exact hb.2.2
  · unfold rCt
    rw [uP_eq, hne 2 (by decide), hne 3 (by decide), hne 4 (by decide), hne 5 (by decide), hne 6 (by decide), hne 7 (by decide), hdl, List.count_append, List.count_append, List.count_append, List.count_append, List.length_append, List.count_singleton, List.count_singleton, List.count_singleton, List.count_singleton]
    rcases hst with rfl | rfl
    · simp; omega
    · simp; omega
  · unfold rWd
    rw [hne 6 (by decide), hne 7 (by decide), hne 5 (by decide), hne 3 (by decide)]
    exact fun w hw' => ⟨pVw_c (P := uP P 0 xs) (P' := uP (uP P 1 (P 1 ++ [st])) 0 xs) rfl rfl rfl (hw w hw').1, (hw w hw').2⟩
  · unfold rBg
    have e7 : ∀ n, wlS (uP P 1 (P 1 ++ [st])) n = wlS P n := fun n => by
      induction n with
      | zero => rfl
      | succ n ih => unfold wlS; rw [ih]; rfl
    rw [uP_eq, hne 3 (by decide), hne 6 (by decide), hky, e7, List.count_append, List.count_singleton]
    refine ⟨?_, hg.2⟩
    rcases hst with rfl | rfl
    · simp at hat ⊢; omega
    · simp at hat ⊢; omega
/-- the class's implied closings, by an opening or a closing -/
def z_iF (cl : Bool) (R : List Int) (name : Int) (n : Nat) (Z : uZ) : uZ := if cl = true then z_imcF R name n Z else z_impF R name n Z
def z_cnd (cl : Bool) (R : List Int) (name : Int) (Z : uZ) : Bool := e_is R name (z_ln Z) && !(cl && decide (z_ln Z = name))
theorem z_iF_succ (cl : Bool) (R : List Int) (name : Int) (n : Nat) (Z : uZ) : z_iF cl R name (n + 1) Z = if z_cnd cl R name Z = true then z_iF cl R name n (z_close Z 3) else Z := by
  unfold z_iF z_cnd
  cases cl
  · show (if e_is R name (z_ln Z) = true then _ else Z) = _
    simp
  · show (if z_ec R name Z = true then _ else Z) = _
    unfold z_ec
    by_cases hq : z_ln Z = name
    · simp [hq]
    · simp [hq]
theorem lastD_at {O : List Int} (h : 0 < O.length) : O.getLastD (-1) = ratI O ((O.length - 1 : Nat) : Int) := by
  rw [ratI_nat, List.getLastD_eq_getLast?, List.getLast?_eq_getElem?, List.getD_eq_getElem?_getD, List.getElem?_eq_getElem (by omega)]
  rfl
