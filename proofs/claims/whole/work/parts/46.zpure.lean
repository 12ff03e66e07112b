/-! what a good page is: the class's reader alone -/
theorem zg {R xs : List Int} {j : Nat} {P : uPg} {O KP : List Int} {m fp fc : Int} {ZF : uZ} (hz : zr R xs j (uP P 0 (xs.take j), O, KP, m, fp, -1, fc) = ZF) (hl : xs.length ≤ 100) (hm : m ≠ 10) (hg : (z_end ZF (xs.length : Int)).2.2.2.2.2.1 = -1) : j < xs.length ∧ (z_take R (uP P 0 (xs.take (j + 1)), O, KP, m, fp, -1, fc) (j : Int) (ratI xs (j : Int))).2.2.2.2.2.1 = -1 := by
  by_cases hlt : j < xs.length
  · refine ⟨hlt, ?_⟩
    have h2 := zs hz hlt hl rfl
    by_cases hk : (z_take R (uP P 0 (xs.take (j + 1)), O, KP, m, fp, -1, fc) (j : Int) (ratI xs (j : Int))).2.2.2.2.2.1 = -1
    · exact hk
    · rw [zr_flt hk] at h2
      subst h2
      unfold z_end at hg
      rw [if_neg (fun x => hk x.1)] at hg
      exact hg
  · rw [zr_end (by omega)] at hz
    subst hz
    rw [show z_end (uP P 0 (xs.take j), O, KP, m, fp, -1, fc) (xs.length : Int) = z_tell (uP P 0 (xs.take j), O, KP, m, fp, -1, fc) (xs.length : Int) 0 (-5) from if_pos ⟨rfl, hm⟩] at hg
    exact absurd (show (0 : Int) = -1 from hg) (by decide)
theorem nt_pure {R xs : List Int} {PX P : uPg} {O : List Int} {fp fc : Int} {ZF : uZ} {k pl : Nat} (hl : xs.length ≤ 100) (hP0 : PX 0 = xs) (hP2 : ratI (PX 2) (k : Int) = (pl : Int)) (hg : (z_end ZF (xs.length : Int)).2.2.2.2.2.1 = -1) : ∀ (n m s ord a : Nat) (KP : List Int) (S : uMS), n = 4 - m → a = pl + 2 + 4 * m → rNt S PX k m s ord KP → rTx S xs → zr R xs a (uP P 0 (xs.take a), O, KP, 2, fp, -1, fc) = ZF →
    ∃ (KP' : List Int) (m' : Nat) (A : Nat → Int), uBN A PX k ∧ zr R xs (pl + 3 + 4 * m') (uP P 0 (xs.take (pl + 3 + 4 * m')), O, KP', 6, fp, -1, fc) = ZF ∧ pl + 3 + 4 * m' ≤ xs.length := by
  intro n
  induction n using Nat.strongRecOn with
  | ind n ih =>
    intro m s ord a KP S hnm ha hn hT hz
    obtain ⟨h1, h2⟩ := zg hz hl (by decide) hg
    by_cases hsp : ratI xs (a : Int) = 32
    · have hz2 := zs hz h1 hl (tk_sp hsp)
      obtain ⟨h3, h4⟩ := zg hz2 hl (by decide) hg
      by_cases hk : 119 ≤ ratI xs ((a + 1 : Nat) : Int) ∧ ratI xs ((a + 1 : Nat) : Int) ≤ 122
      · obtain ⟨key, hkey, hk4⟩ : ∃ key : Nat, ratI xs ((a + 1 : Nat) : Int) = 119 + (key : Int) ∧ key < 4 := ⟨(ratI xs ((a + 1 : Nat) : Int) - 119).toNat, by omega, by omega⟩
        have hkk : ratI xs ((a + 1 : Nat) : Int) - 119 = (key : Int) := by omega
        by_cases hb : (s / 2 ^ key) % 2 = 0
        · have hz3 := zs hz2 h3 hl (tk_key hk (by rw [hkk]; exact (hn.2.2.2.1 key hk4 hb).1))
          obtain ⟨h5, h6⟩ := zg hz3 hl (by decide) hg
          by_cases heq : ratI xs ((a + 2 : Nat) : Int) = 61
          · have hz4 := zs hz3 h5 hl (tk_eq heq)
            obtain ⟨h7, h8⟩ := zg hz4 hl (by decide) hg
            by_cases hd : 48 ≤ ratI xs ((a + 3 : Nat) : Int) ∧ ratI xs ((a + 3 : Nat) : Int) ≤ 57
            · obtain ⟨t1, t2, t3, t4⟩ := rn_turn (R := R) (P := P) (O := O) (fp := fp) (fc := fc) (ZF := ZF) hl hP0 hP2 hn hT hz ha hk4 hb h3 hkey h5 heq h7 hd hsp
              have := t1.1.2.2.2.1
              exact ih (4 - (m + 1)) (by omega) (m + 1) _ _ (a + 4) _ _ rfl (by omega) t1 t2 t3
            · rw [tk_bad5 hd] at h8
              exact absurd (show (1 : Int) = -1 from h8) (by decide)
          · rw [tk_bad4 heq] at h6
            exact absurd (show (1 : Int) = -1 from h6) (by decide)
        · rw [tk_key2 hk (by rw [hkk]; exact (hn.2.2.1 key hk4 (by omega)).1)] at h4
          exact absurd (show (2 : Int) = -1 from h4) (by decide)
      · rw [tk_bad3 (by omega)] at h4
        exact absurd (show (1 : Int) = -1 from h4) (by decide)
    · by_cases hgt : ratI xs (a : Int) = 62
      · have hz2 := zs hz h1 hl (tk_gt hgt)
        have hend : m < 4 → p_kn PX (k : Int) (m : Int) = -1 := by
          intro _
          unfold p_kn
          rw [hP0, hP2, show (pl : Int) + 2 + 4 * (m : Int) = ((a : Nat) : Int) by omega, if_neg hsp]
        have hfin := hn.fin (A' := fun q => if q = 13 * k + 4 then (if m < 2 then -5 else ((rkN ord m 0 0 s : Nat) : Int)) else S.2 11 q) hend (fun q hq => if_neg hq) (if_pos rfl)
        exact ⟨KP, m, _, hfin.1, by rw [show pl + 3 + 4 * m = a + 1 by omega]; exact hz2, by omega⟩
      · rw [tk_bad2 hsp hgt] at h2
        exact absurd (show (1 : Int) = -1 from h2) (by decide)
theorem z_imp_ex (cl : Bool) (R : List Int) (nm : Int) : ∀ (n : Nat) (P : uPg) (O : List Int) (f : List Int × Int × uFt), ∃ (P1 : uPg) (O1 : List Int), z_iF cl R nm n (P, O, f) = (P1, O1, f)
  | 0, P, O, f => ⟨P, O, by cases cl <;> rfl⟩
  | n + 1, P, O, f => by
    rw [z_iF_succ]
    split
    · exact z_imp_ex cl R nm n _ _ f
    · exact ⟨P, O, rfl⟩
def wOK (xs : List Int) (P : uPg) (w a : Nat) : Prop := (0 ≤ ratI (P 6) (w : Int) ∧ 1 ≤ ratI (P 7) (w : Int) ∧ ratI (P 7) (w : Int) ≤ 8 ∧ ratI (P 6) (w : Int) + ratI (P 7) (w : Int) ≤ (a : Int)) ∧ ∀ q, ratI (P 6) (w : Int) ≤ q → q < ratI (P 6) (w : Int) + ratI (P 7) (w : Int) → 103 ≤ ratI xs q ∧ ratI xs q ≤ 118
def qI (xs : List Int) (P : uPg) (m : Int) (a : Nat) : Prop := (∀ b, b < (P 3).length → (0 ≤ ratI (P 3) (b : Int) ∧ ratI (P 3) (b : Int) ≤ 5) ∧ ∃ A, uBN A (uP P 0 xs) b) ∧ ((P 2).length = (P 3).length ∧ (P 7).length = (P 6).length) ∧ (∀ w, w < (P 6).length → wOK xs P w a) ∧ (m = 7 → 0 < (P 6).length ∧ ratI (P 6) (((P 6).length - 1 : Nat) : Int) + ratI (P 7) (((P 6).length - 1 : Nat) : Int) = (a : Int)) ∧ 3 * (P 3).length ≤ a ∧ 4 * (P 6).length ≤ a + (if m = 7 then 3 else 0)
/-- what does not touch boxes and words -/
theorem qI.keep {xs : List Int} {P P' : uPg} {m m' : Int} {a a' : Nat} (h : qI xs P m a) (e2 : P' 2 = P 2) (e3 : P' 3 = P 3) (e6 : P' 6 = P 6) (e7 : P' 7 = P 7) (ha : a + 3 ≤ a') (hm : m' ≠ 7) : qI xs P' m' a' := by
  obtain ⟨h1, h2, h3, h4, h5, h6⟩ := h
  have e0 : (uP P 0 xs) 0 = (uP P' 0 xs) 0 := by rw [uP_eq, uP_eq]
  refine ⟨fun b hb => ?_, ?_, fun w hw => ?_, fun z => absurd z hm, ?_, ?_⟩
  · rw [e3] at hb ⊢
    obtain ⟨t1, A, t2⟩ := h1 b hb
    exact ⟨t1, A, uBN_d e0 (by show ratI (P 2) _ = ratI (P' 2) _; rw [e2]) t2⟩
  · rw [e2, e3, e6, e7]; exact h2
  · rw [e6] at hw
    unfold wOK
    rw [e6, e7]
    obtain ⟨t1, t2⟩ := h3 w hw
    exact ⟨by omega, t2⟩
  · rw [e3]; omega
  · rw [e6, if_neg hm]
    split at h6 <;> omega
theorem zq {R xs : List Int} {ZF : uZ} (hl : xs.length ≤ 100) (hx : ∀ q : Nat, -1000000 ≤ ratI xs (q : Int) ∧ ratI xs (q : Int) ≤ 1000000) (hg : (z_end ZF (xs.length : Int)).2.2.2.2.2.1 = -1) : ∀ (n a : Nat) (P : uPg) (O KP : List Int) (m fp fc : Int), n = xs.length - a → qI xs P m a → m = 0 ∨ m = 6 ∨ m = 7 ∨ m = 10 → a ≤ xs.length → zr R xs a (uP P 0 (xs.take a), O, KP, m, fp, -1, fc) = ZF → ∃ P' : uPg, (z_end ZF (xs.length : Int)).1 = uP P' 0 xs ∧ qI xs P' 10 xs.length := by
  intro n
  induction n using Nat.strongRecOn with
  | ind n ih =>
    intro a P O KP m fp fc hn hq hm hal hz
    by_cases hm10 : m = 10
    · subst hm10
      by_cases hlt : a < xs.length
      · have h2 := zs hz hlt hl tk_10
        rw [zr_flt (by show (6 : Int) ≠ -1; decide)] at h2
        subst h2
        exact absurd (show (6 : Int) = -1 from hg) (by decide)
      · have ha : a = xs.length := by omega
        subst ha
        rw [zr_end (Nat.le_refl _), List.take_length] at hz
        subst hz
        exact ⟨P, rfl, hq⟩
    · obtain ⟨h1, h2⟩ := zg hz hl hm10 hg
      have hm3 : m = 0 ∨ m = 6 ∨ m = 7 := by omega
      by_cases h60 : ratI xs (a : Int) = 60
      · have hz1 := zs hz h1 hl (tk_mk hm3 h60)
        obtain ⟨h3, h4⟩ := zg hz1 hl (by decide) hg
        by_cases hnl : 97 ≤ ratI xs ((a + 1 : Nat) : Int) ∧ ratI xs ((a + 1 : Nat) : Int) ≤ 102
        · obtain ⟨nm, hnm, hnm6⟩ : ∃ nm : Nat, ratI xs ((a + 1 : Nat) : Int) = 97 + (nm : Int) ∧ nm < 6 := ⟨(ratI xs ((a + 1 : Nat) : Int) - 97).toNat, by omega, by omega⟩
          have ht3 := tk_name (R := R) (P := uP P 0 (xs.take (a + 1 + 1))) (O := O) (KP := KP) (x := ratI xs ((a + 1 : Nat) : Int)) (pl := ((a + 1 : Nat) : Int)) (f := (fp, -1, fc)) hnl
          rw [show ratI xs ((a + 1 : Nat) : Int) - 97 = (nm : Int) by omega, show ((a + 1 : Nat) : Int) - 1 = (a : Int) by omega] at ht3
          obtain ⟨P1, O1, a1⟩ : ∃ (P1 : uPg) (O1 : List Int), z_impF R nm (O.length - 1) (uP P 0 (xs.take (a + 1 + 1)), O, KP, 1, fp, -1, fc) = (P1, O1, KP, 1, fp, -1, fc) := z_imp_ex false R nm _ _ _ (KP, 1, fp, -1, fc)
          obtain ⟨kp1, -⟩ := z_iF_keep false R nm _ _ _ _ _ _ a1
          have ht4 : z_take R (uP P 0 (xs.take (a + 1 + 1)), O, KP, 1, fp, -1, fc) ((a + 1 : Nat) : Int) (ratI xs ((a + 1 : Nat) : Int)) = z_open2 (P1, O1, KP, 1, fp, -1, fc) (a : Int) (nm : Int) := ht3.trans (congrArg (fun z => z_open2 z (a : Int) (nm : Int)) a1)
          by_cases hO6 : 6 ≤ O1.length
          · rw [ht4, show z_open2 (P1, O1, KP, 1, fp, -1, fc) (a : Int) (nm : Int) = z_tell (P1, O1, KP, 1, fp, -1, fc) (a : Int) 4 (-5) from if_pos hO6] at h4
            exact absurd (show (4 : Int) = -1 from h4) (by decide)
          · have hz2 := zs hz1 h3 hl ht4
            rw [show z_open2 (P1, O1, KP, 1, fp, -1, fc) (a : Int) (nm : Int) = (p_addBox P1 (a : Int) (nm : Int) (O1.getLastD (-1)), appI 6 O1 ((P1 3).length : Int), List.replicate 4 (-1), 2, fp, -1, fc) from if_neg hO6] at hz2
            obtain ⟨q1, ⟨q2, q3⟩, q4, q5, q6, q7⟩ := id hq
            have k2 : P1 2 = P 2 := kp1 2 (by decide)
            have k3 : P1 3 = P 3 := kp1 3 (by decide)
            generalize hPB : p_addBox P1 (a : Int) (nm : Int) (O1.getLastD (-1)) = PB at hz2
            have b0 : PB 0 = xs.take (a + 1 + 1) := by rw [← hPB]; exact kp1 0 (by decide)
            have b2 : PB 2 = P 2 ++ [(a : Int)] := by rw [← hPB, ← k2]; exact if_pos (by rw [k2]; omega)
            have b3 : PB 3 = P 3 ++ [(nm : Int)] := by rw [← hPB, ← k3]; exact if_pos (by rw [k3]; omega)
            have b6 : PB 6 = P 6 := by rw [← hPB]; exact kp1 6 (by decide)
            have b7 : PB 7 = P 7 := by rw [← hPB]; exact kp1 7 (by decide)
            rw [← uP_self PB 0, b0] at hz2
            obtain ⟨KP', m', A, t1, t2, t3⟩ := nt_pure (PX := uP PB 0 xs) (k := (P 3).length) (pl := a) hl (uP_eq _ _ _) (by show ratI (PB 2) _ = _; rw [b2, ratI_app _ (by omega), if_pos (by omega)]) hg 4 0 0 0 (a + 2) (List.replicate 4 (-1)) (fun i => if i = 6 then (xs.length : Int) else 0, fun f q => if f = 5 then ratI xs (q : Int) else 0) rfl (by omega) (rNt.zero rfl) ⟨rfl, fun _ _ => rfl, fun q _ => hx q⟩ hz2
            refine ih (xs.length - (a + 3 + 4 * m')) (by omega) (a + 3 + 4 * m') PB _ KP' 6 fp fc rfl ⟨fun b hb => ?_, ?_, fun w hw => ?_, fun z => absurd z (by decide), ?_, ?_⟩ (Or.inr (Or.inl rfl)) t3 t2
            · rw [b3, List.length_append] at hb
              have hb : b < (P 3).length + 1 := hb
              rw [b3, ratI_app b hb]
              by_cases hqb : b = (P 3).length
              · rw [if_pos hqb, hqb]
                exact ⟨by omega, A, t1⟩
              · rw [if_neg hqb]
                obtain ⟨s1, A2, s2⟩ := q1 b (by omega)
                exact ⟨s1, A2, uBN_d (P := uP P 0 xs) (by rw [uP_eq, uP_eq]) (by show ratI (P 2) _ = ratI (PB 2) _; rw [b2, ratI_app b (by omega), if_neg (by omega)]) s2⟩
            · rw [b2, b3, b6, b7, List.length_append, List.length_append, q2]; exact ⟨rfl, q3⟩
            · rw [b6] at hw
              unfold wOK
              rw [b6, b7]
              obtain ⟨s1, s2⟩ := q4 w hw
              exact ⟨by omega, s2⟩
            · rw [b3, List.length_append]; show 3 * ((P 3).length + 1) ≤ _; omega
            · rw [b6, if_neg (by decide)]
              split at q7 <;> omega
        · by_cases hsl : ratI xs ((a + 1 : Nat) : Int) = 47 ∧ 0 < O.length
          · have hz2 := zs hz1 h3 hl (tk_slash hsl.1 hsl.2)
            obtain ⟨h5, h6⟩ := zg hz2 hl (by decide) hg
            by_cases hnl2 : 97 ≤ ratI xs ((a + 1 + 1 : Nat) : Int) ∧ ratI xs ((a + 1 + 1 : Nat) : Int) ≤ 102
            · have ht3 := tk_cn (R := R) (P := uP P 0 (xs.take (a + 1 + 1 + 1))) (O := O) (KP := KP) (x := ratI xs ((a + 1 + 1 : Nat) : Int)) (pl := ((a + 1 + 1 : Nat) : Int)) (f := (fp, -1, fc)) hnl2
              generalize ratI xs ((a + 1 + 1 : Nat) : Int) - 97 = nm at ht3
              obtain ⟨P1, O1, a1⟩ : ∃ (P1 : uPg) (O1 : List Int), z_imcF R nm (O.length - 1) (uP P 0 (xs.take (a + 1 + 1 + 1)), O, KP, 8, fp, -1, fc) = (P1, O1, KP, 8, fp, -1, fc) := z_imp_ex true R nm _ _ _ (KP, 8, fp, -1, fc)
              obtain ⟨kp1, -⟩ := z_iF_keep true R nm _ _ _ _ _ _ a1
              rw [a1] at ht3
              by_cases hln : z_ln (P1, O1, KP, 8, fp, -1, fc) = nm
              · rw [show z_cn2 (P1, O1, KP, 8, fp, -1, fc) ((a + 1 + 1 : Nat) : Int) nm = (P1, O1, KP, 9, fp, -1, fc) from if_pos hln] at ht3
                have hz3 := zs hz2 h5 hl ht3
                have b0 : P1 0 = xs.take (a + 1 + 1 + 1) := kp1 0 (by decide)
                rw [← uP_self P1 0, b0] at hz3
                obtain ⟨h7, h8⟩ := zg hz3 hl (by decide) hg
                by_cases h62 : ratI xs ((a + 1 + 1 + 1 : Nat) : Int) = 62
                · have hz4 := zs hz3 h7 hl (tk_ce h62)
                  rw [uP_cm _ (by decide)] at hz4
                  refine ih (xs.length - (a + 1 + 1 + 1 + 1)) (by omega) (a + 1 + 1 + 1 + 1) _ _ KP _ fp fc rfl (hq.keep (P' := uP P1 1 _) ?_ ?_ ?_ ?_ (by omega) ?_) ?_ (by omega) hz4
                  · exact kp1 2 (by decide)
                  · exact kp1 3 (by decide)
                  · exact kp1 6 (by decide)
                  · exact kp1 7 (by decide)
                  · split <;> decide
                  · split
                    · exact Or.inr (Or.inl rfl)
                    · exact Or.inr (Or.inr (Or.inr rfl))
                · rw [tk_bad9 h62] at h8
                  exact absurd (show (1 : Int) = -1 from h8) (by decide)
              · rw [ht3, show z_cn2 (P1, O1, KP, 8, fp, -1, fc) ((a + 1 + 1 : Nat) : Int) nm = z_tell (P1, O1, KP, 8, fp, -1, fc) ((a + 1 + 1 : Nat) : Int) 3 (ratI (P1 2) (O1.getLastD (-1))) from if_neg hln] at h6
                exact absurd (show (3 : Int) = -1 from h6) (by decide)
            · rw [tk_bad8 hnl2] at h6
              exact absurd (show (1 : Int) = -1 from h6) (by decide)
          · rw [tk_bad1 hnl hsl] at h4
            exact absurd (show (1 : Int) = -1 from h4) (by decide)
      · by_cases hwl : m ≠ 0 ∧ 103 ≤ ratI xs (a : Int) ∧ ratI xs (a : Int) ≤ 118
        · obtain ⟨q1, ⟨q2, q3⟩, q4, q5, q6, q7⟩ := id hq
          by_cases hm6 : m = 6
          · subst hm6
            rw [if_neg (by decide)] at q7
            have hz1 := zs hz h1 hl (tk_w6 hwl.2)
            generalize hPB : p_addWord (uP P 0 (xs.take (a + 1))) (a : Int) (O.getLastD (-1)) = PB at hz1
            have b0 : PB 0 = xs.take (a + 1) := by rw [← hPB]; rfl
            have b2 : PB 2 = P 2 := by rw [← hPB]; rfl
            have b3 : PB 3 = P 3 := by rw [← hPB]; rfl
            have b6 : PB 6 = P 6 ++ [(a : Int)] := by rw [← hPB]; exact if_pos (by show (P 6).length < 34; omega)
            have b7 : PB 7 = P 7 ++ [1] := by rw [← hPB]; exact if_pos (by show (P 7).length < 34; omega)
            rw [← uP_self PB 0, b0] at hz1
            have l6 : (PB 6).length = (P 6).length + 1 := by rw [b6, List.length_append]; rfl
            refine ih (xs.length - (a + 1)) (by omega) (a + 1) PB O KP 7 fp fc rfl ⟨fun b hb => ?_, ?_, fun w hw => ?_, fun _ => ?_, ?_, ?_⟩ (Or.inr (Or.inr (Or.inl rfl))) (by omega) hz1
            · rw [b3] at hb ⊢
              obtain ⟨s1, A2, s2⟩ := q1 b hb
              exact ⟨s1, A2, uBN_d (P := uP P 0 xs) (by rw [uP_eq, uP_eq]) (by show ratI (P 2) _ = ratI (PB 2) _; rw [b2]) s2⟩
            · rw [b2, b3, b6, b7, List.length_append, List.length_append, q3]; exact ⟨q2, rfl⟩
            · rw [l6] at hw
              unfold wOK
              rw [b6, b7, ratI_app (xs := P 6) w hw, ratI_app (xs := P 7) w (by omega)]
              by_cases hqw : w = (P 6).length
              · rw [if_pos hqw, if_pos (by omega)]
                exact ⟨by omega, fun q e1 e2 => by rw [show q = (a : Int) by omega]; exact hwl.2⟩
              · rw [if_neg hqw, if_neg (by omega)]
                obtain ⟨s1, s2⟩ := q4 w (by omega)
                exact ⟨by omega, s2⟩
            · rw [l6, b6, b7, show (P 6).length + 1 - 1 = (P 6).length by omega, ratI_app (xs := P 6) _ (by omega), if_pos rfl, ratI_app (xs := P 7) _ (by omega), if_pos (by omega)]
              exact ⟨by omega, by omega⟩
            · rw [b3]; omega
            · rw [l6, if_pos rfl]; omega
          · have hm7 : m = 7 := by omega
            subst hm7
            rw [if_pos rfl] at q7
            obtain ⟨q8, q9⟩ := q5 rfl
            have hgl : (P 7).getLastD (-1) = ratI (P 7) (((P 6).length - 1 : Nat) : Int) := by rw [lastD_at (by omega), q3]
            by_cases h8 : (P 7).getLastD (-1) < 8
            · have hz1 := zs hz h1 hl (tk_w7 hwl.2 h8)
              generalize hPB : p_lengthen (uP P 0 (xs.take (a + 1))) = PB at hz1
              have b0 : PB 0 = xs.take (a + 1) := by rw [← hPB]; rfl
              have b2 : PB 2 = P 2 := by rw [← hPB]; rfl
              have b3 : PB 3 = P 3 := by rw [← hPB]; rfl
              have b6 : PB 6 = P 6 := by rw [← hPB]; rfl
              have b7 : PB 7 = putI (P 7) (((P 6).length - 1 : Nat) : Int) (ratI (P 7) (((P 6).length - 1 : Nat) : Int) + 1) := by
                rw [← hPB, ← hgl, ← q3, show (((P 7).length - 1 : Nat) : Int) = ((P 7).length : Int) - 1 by omega]
                rfl
              rw [← uP_self PB 0, b0] at hz1
              have r7 : ∀ w : Nat, ratI (PB 7) (w : Int) = if w = (P 6).length - 1 then ratI (P 7) (((P 6).length - 1 : Nat) : Int) + 1 else ratI (P 7) (w : Int) := fun w => by rw [b7]; exact ratI_putN (by omega)
              have s0 := q4 ((P 6).length - 1) (by omega)
              refine ih (xs.length - (a + 1)) (by omega) (a + 1) PB O KP 7 fp fc rfl ⟨fun b hb => ?_, ?_, fun w hw => ?_, fun _ => ?_, ?_, ?_⟩ (Or.inr (Or.inr (Or.inl rfl))) (by omega) hz1
              · rw [b3] at hb ⊢
                obtain ⟨s1, A2, s2⟩ := q1 b hb
                exact ⟨s1, A2, uBN_d (P := uP P 0 xs) (by rw [uP_eq, uP_eq]) (by show ratI (P 2) _ = ratI (PB 2) _; rw [b2]) s2⟩
              · rw [b2, b3, b6, b7, putI_len]; exact ⟨q2, q3⟩
              · rw [b6] at hw
                unfold wOK
                rw [b6, r7]
                by_cases hqw : w = (P 6).length - 1
                · rw [if_pos hqw, hqw]
                  obtain ⟨s1, s2⟩ := s0
                  rw [hgl] at h8
                  refine ⟨by omega, fun q e1 e2 => ?_⟩
                  by_cases hqa : q = (a : Int)
                  · rw [hqa]; exact hwl.2
                  · exact s2 q e1 (by omega)
                · rw [if_neg hqw]
                  obtain ⟨s1, s2⟩ := q4 w (by omega)
                  exact ⟨by omega, s2⟩
              · rw [b6, r7, if_pos rfl]
                exact ⟨q8, by omega⟩
              · rw [b3]; omega
              · rw [b6, if_pos rfl]; omega
            · rw [tk_w9 (P := uP P 0 (xs.take (a + 1))) hwl.2 h8] at h2
              exact absurd (show (5 : Int) = -1 from h2) (by decide)
        · have e := tk_bd (R := R) (P := uP P 0 (xs.take (a + 1))) (O := O) (KP := KP) (pl := (a : Int)) (f := (fp, -1, fc)) hm3 h60 (fun z => by by_cases e1 : ratI xs (a : Int) < 103; exact Or.inl e1; exact Or.inr (by have : ¬ (103 ≤ ratI xs (a : Int) ∧ ratI xs (a : Int) ≤ 118) := fun y => hwl ⟨z, y⟩; omega))
          have e2 := congrArg (fun z : uFt => z.2.1) e
          exact absurd ((show (1 : Int) = _ from e2.symm).trans h2) (by decide)
theorem pok_01 {P : uPg} {b : Int} {c : Nat} (h : c < 2) : p_ok P b c = 0 := by
  match c, h with
  | 0, _ => rfl
  | 1, _ => rfl
theorem qI.pV {xs : List Int} {P : uPg} {m : Int} {a : Nat} (h : qI xs P m a) : pV (uP P 0 xs) := by
  obtain ⟨h1, h2, h3, -⟩ := h
  refine ⟨fun b hb => ?_, fun w hw => ?_⟩
  · obtain ⟨n1, A, t1, t2, t3, t4⟩ := h1 b hb
    refine ⟨n1.1, n1.2, t2.1, t2.2, fun key hk hs => (t4 key hk hs).2, ?_⟩
    by_cases hp : pcN (p_ks (uP P 0 xs) (b : Int)) < 2
    · rw [pok_01 hp]; decide
    · rw [if_neg hp] at t3
      omega
  · obtain ⟨s1, s2⟩ := h3 w hw
    have g6 : uP P 0 xs 6 = P 6 := rfl
    have g7 : uP P 0 xs 7 = P 7 := rfl
    have g0 : uP P 0 xs 0 = xs := uP_eq _ _ _
    exact ⟨by rw [g6]; omega, by rw [g7]; omega, by rw [g7]; omega, by rw [g6, g7, g0]; exact s2, w_num_rng (by rw [g7]; omega) (by rw [g6, g7, g0]; exact s2)⟩
theorem z_pV {R xs : List Int} {Z : uZ} (hl : xs.length ≤ 100) (hx : ∀ q : Nat, -1000000 ≤ ratI xs (q : Int) ∧ ratI xs (q : Int) ≤ 1000000) (hg : (z_read R xs Z).2.2.2.2.2.1 = -1) : pV (z_read R xs Z).1 := by
  obtain ⟨PZ, OZ, KZ, mZ, fpZ, fkZ, fcZ⟩ := Z
  obtain ⟨P', e, hq⟩ := zq (R := R) (ZF := zr R xs 0 (fun _ => [], [], KZ, 0, fpZ, -1, fcZ)) hl hx hg xs.length 0 (fun _ => []) [] KZ 0 fpZ fcZ rfl ⟨fun b hb => absurd hb (Nat.not_lt_zero _), ⟨rfl, rfl⟩, fun w hw => absurd hw (Nat.not_lt_zero _), fun z => absurd z (by decide), Nat.le_refl _, by show 0 ≤ _; omega⟩ (Or.inl rfl) (Nat.zero_le _) (by rw [show uP (fun _ => []) 0 (xs.take 0) = (fun _ => []) from uP_self (fun _ => []) 0])
  rw [show z_read R xs (PZ, OZ, KZ, mZ, fpZ, fkZ, fcZ) = z_end (zr R xs 0 (fun _ => [], [], KZ, 0, fpZ, -1, fcZ)) (xs.length : Int) from rfl, e]
  exact hq.pV
