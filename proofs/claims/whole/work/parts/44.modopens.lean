/-! the reference: opens -/
theorem z_fail2 {R xs : List Int} {pl : Nat} {P : uPg} {O KP : List Int} {m fp fc p k c : Int} {S : uMS} {ZF : uZ} (hZ : zr R xs pl (uP P 0 (xs.take pl), O, KP, m, fp, -1, fc) = ZF) (hlt : pl < xs.length) (hl2 : xs.length ≤ 100) (hk : k ≠ -1)
    (ht : (z_take R (uP P 0 (xs.take (pl + 1)), O, KP, m, fp, -1, fc) (pl : Int) (ratI xs (pl : Int))).2.2.2.2 = (p, k, c)) (hS : S.1 17 = p ∧ S.1 18 = k ∧ S.1 19 = c) : uFlt S (z_end ZF (xs.length : Int)) := by
  have hZ2 := zs hZ hlt hl2 rfl
  generalize z_take R (uP P 0 (xs.take (pl + 1)), O, KP, m, fp, -1, fc) (pl : Int) (ratI xs (pl : Int)) = Z at *
  obtain ⟨P', O', KP', m', f'⟩ := Z
  have e : f' = (p, k, c) := ht
  subst e
  rw [zr_flt (by exact hk)] at hZ2
  subst hZ2
  have e2 : z_end (P', O', KP', m', p, k, c) (xs.length : Int) = (P', O', KP', m', p, k, c) := if_neg (fun q => hk q.1)
  rw [e2]
  exact ⟨hk, hS.1, hS.2.1, hS.2.2⟩
theorem rNt.zero {S : uMS} {PX : uPg} {k : Nat} (h : S.2 11 (13 * k + 3) = 0) : rNt S PX k 0 0 0 (List.replicate 4 (-1)) :=
  ⟨⟨h, by decide, rfl, by decide, by decide⟩, rfl, fun key _ hb => absurd hb (by rw [Nat.zero_div]; decide), fun key hk _ => ⟨by match key, hk with
    | 0, _ => rfl
    | 1, _ => rfl
    | 2, _ => rfl
    | 3, _ => rfl, rfl⟩, rfl, fun i hi => absurd hi (by omega), rfl, rfl⟩
theorem c_Mod_readNotes {h : uHp} {y k pl : Nat} {R xs : List Int} {PX P : uPg} {O : List Int} {fp fc : Int} {ZF : uZ} {S : uMS} {Q : uPs} (hk : k < 39) (hl : xs.length ≤ 100) (hP0 : PX 0 = xs) (hP2 : ratI (PX 2) (k : Int) = (pl : Int)) (h3 : S.2 11 (13 * k + 3) = 0) (hT : rTx S xs) (hz : zr R xs (pl + 2) (uP P 0 (xs.take (pl + 2)), O, List.replicate 4 (-1), 2, fp, -1, fc) = ZF) (hpl : pl + 2 ≤ xs.length)
    (hF : ∀ S' : uMS, uSP S S' → uFlt S' (z_end ZF (xs.length : Int)) → Q (some (ui (-5))) (u_mod h y S'))
    (hG : ∀ (S' : uMS) (KP' : List Int) (m' : Nat), uNF k S S' → uBN (S'.2 11) PX k → pcN (p_ks PX (k : Int)) = m' → zr R xs (pl + 3 + 4 * m') (uP P 0 (xs.take (pl + 3 + 4 * m')), O, KP', 6, fp, -1, fc) = ZF → pl + 3 + 4 * m' ≤ xs.length → Q (some (ui ((pl + 3 + 4 * m' : Nat) : Int))) (u_mod h y S')) :
    uW mMod_readNotes 0 [.ref y, ui (k : Int), ui ((pl + 2 : Nat) : Int), .null, .null, .null, .null] [] (u_mod h y S) 0 0 Q := by
  refine us_iload_n dMod_readNotes_0 rfl ?_
  refine us_istore_3 dMod_readNotes_1 rfl (Nat.le_of_ble_eq_true rfl) ?_
  refine us_iconst dMod_readNotes_2 ?_
  refine us_istore_4 dMod_readNotes_3 rfl (Nat.le_of_ble_eq_true rfl) ?_
  refine us_iconst dMod_readNotes_5 ?_
  refine us_istore_5 dMod_readNotes_6 rfl (Nat.le_of_ble_eq_true rfl) ?_
  exact c_Mod_readNotes_8 hk hl hP0 hP2 4 0 0 0 (pl + 2) (List.replicate 4 (-1)) S .null rfl (by omega) (rNt.zero h3) hT hz hpl hF hG _

/-- a box was opened; its notes are not read -/
def oOp (S1 S5 : uMS) (P1 : uPg) (O1 : List Int) (nm j : Int) : Prop := (S5.1 9 = (O1.length : Int) + 1 ∧ S5.1 12 = ((P1 3).length : Int) + 1 ∧ S5.1 15 = ((P1 1).length : Int) + 1) ∧
  (∀ q, S5.2 8 q = if q = O1.length then ((P1 3).length : Int) else S1.2 8 q) ∧ (∀ q, S5.2 13 q = if q = (P1 1).length then 0 else S1.2 13 q) ∧ (∀ q, S5.2 14 q = if q = (P1 1).length then ((P1 3).length : Int) else S1.2 14 q) ∧
  (∀ q, q < 13 * (P1 3).length → S5.2 11 q = if 0 < O1.length ∧ q = 13 * (O1.getLastD (-1)).toNat + 6 then S1.2 11 q + 1 else S1.2 11 q) ∧
  (S5.2 11 (13 * (P1 3).length) = nm ∧ S5.2 11 (13 * (P1 3).length + 1) = j ∧ S5.2 11 (13 * (P1 3).length + 2) = m5 (O1.getLastD (-1)) ∧ S5.2 11 (13 * (P1 3).length + 3) = 0 ∧ S5.2 11 (13 * (P1 3).length + 5) = 0 ∧ S5.2 11 (13 * (P1 3).length + 6) = 0 ∧ S5.2 11 (13 * (P1 3).length + 7) = -5 ∧ S5.2 11 (13 * (P1 3).length + 8) = (O1.length : Int) + 1) ∧
  (∀ i, i ≠ 9 → i ≠ 12 → i ≠ 15 → S5.1 i = S1.1 i) ∧ ∀ f, f ≠ 8 → f ≠ 10 → f ≠ 11 → f ≠ 13 → f ≠ 14 → S5.2 f = S1.2 f
theorem oOp.sp {S1 S5 : uMS} {P1 : uPg} {O1 : List Int} {nm j : Int} (h : oOp S1 S5 P1 O1 nm j) : uSP S1 S5 := ⟨fun i h9 h12 h15 _ _ _ _ => h.2.2.2.2.2.2.1 i h9 h12 h15, h.2.2.2.2.2.2.2⟩
theorem c_Mod_opens_rn {h : uHp} {y j nm : Nat} {R xs : List Int} {S1 S5 : uMS} {P1 : uPg} {O1 : List Int} {fp fc : Int} {ZF : uZ} {Q : uPs} (hop : oOp S1 S5 P1 O1 nm j) (hA : rAll S1 xs P1 O1 j (P1 3).length) (hT : rTx S1 xs) (hO : O1.length ≤ 5) (hnm : nm < 6) (hj : j + 2 ≤ xs.length) (hl : xs.length ≤ 100) (hk : (P1 3).length < 39)
    (hz : zr R xs (j + 2) (uP (pBx P1 nm j (O1.getLastD (-1))) 0 (xs.take (j + 2)), O1 ++ [((P1 3).length : Int)], List.replicate 4 (-1), 2, fp, -1, fc) = ZF)
    (hF : ∀ S' : uMS, uSP S1 S' → uFlt S' (z_end ZF (xs.length : Int)) → Q (some (ui (-5))) (u_mod h y S'))
    (hG : ∀ (S' : uMS) (KP' : List Int) (at' : Nat), zr R xs at' (uP (pBx P1 nm j (O1.getLastD (-1))) 0 (xs.take at'), O1 ++ [((P1 3).length : Int)], KP', 6, fp, -1, fc) = ZF → rAll S' xs (pBx P1 nm j (O1.getLastD (-1))) (O1 ++ [((P1 3).length : Int)]) at' ((P1 3).length + 1) → uSP S1 S' → at' ≤ xs.length → j < at' → Q (some (ui (at' : Int))) (u_mod h y S')) :
    uW mMod_readNotes 0 [.ref y, ui ((P1 3).length : Int), ui ((j + 2 : Nat) : Int), .null, .null, .null, .null] [] (u_mod h y S5) 0 0 Q := by
  obtain ⟨-, -, -, ⟨hc2, -⟩, -⟩ := id hA
  obtain ⟨⟨g9, g12, g15⟩, g8, g13, g14, gl, ⟨k0, k1, k2, k3, k5, k6, k7, k8⟩, gi, gf⟩ := id hop
  refine c_Mod_readNotes (PX := uP (pBx P1 nm j (O1.getLastD (-1))) 0 xs) (P := pBx P1 nm j (O1.getLastD (-1))) hk hl (uP_eq _ _ _) ?_ k3 (hT.sp hop.sp) hz hj (fun S' b1 b2 => hF S' (hop.sp.tr b1) b2) (fun S' KP' m' b1 b2 b3 b4 b5 => ?_)
  · show ratI (P1 2 ++ [(j : Int)]) ((P1 3).length : Int) = (j : Int)
    rw [ratI_app _ (by omega), if_pos (by omega)]
  · subst b3
    obtain ⟨n1, n2, n3⟩ := id b1
    refine hG S' KP' _ b4 (hA.opn hO hnm b5 (by rw [n1, g9]) (by rw [n1, g12]) (by rw [n1, g15]) (by rw [n1]; exact gi 16 (by decide) (by decide) (by decide)) (fun q => by rw [n2 8 (by decide) (by decide)]; exact g8 q) (fun q => by rw [n2 13 (by decide) (by decide)]; exact g13 q) (fun q => by rw [n2 14 (by decide) (by decide)]; exact g14 q) (fun q hq => by rw [n3 q (by omega)]; exact gl q hq)
      (by rw [n3 _ (by omega)]; exact k0) (by rw [n3 _ (by omega)]; exact k1) (by rw [n3 _ (by omega)]; exact k2) (by rw [n3 _ (by omega)]; exact k5) (by rw [n3 _ (by omega)]; exact k6) (by rw [n3 _ (by omega)]; exact k7) (by rw [n3 _ (by omega)]; exact k8) b2) (hop.sp.tr b1.sp) b5 (by omega)
theorem c_Mod_opens_57 {h : uHp} {y j nm k : Nat} {Q : uPs} (hk : k < 39) : ∀ (n x : Nat) (S : uMS), n + x = 13 → (∀ q, 13 * k ≤ q → q < 13 * k + x → S.2 11 q = 0) → (∀ S' : uMS, S'.1 = S.1 → (∀ f, f ≠ 11 → S'.2 f = S.2 f) → (∀ q, (q < 13 * k ∨ 13 * k + 13 ≤ q) → S'.2 11 q = S.2 11 q) → (∀ q, 13 * k ≤ q → q < 13 * k + 13 → S'.2 11 q = 0) → uW mMod_opens 78 [.ref y, ui (j : Int), ui (nm : Int), ui (k : Int), ui ((13 : Nat) : Int)] [] (u_mod h y S') 0 0 Q) →
    uW mMod_opens 57 [.ref y, ui (j : Int), ui (nm : Int), ui (k : Int), ui (x : Int)] [] (u_mod h y S) 0 0 Q := by
  intro n
  induction n with
  | zero =>
    intro x S hn hc hK
    refine us_iload dMod_opens_57 rfl ?_
    refine us_bipush dMod_opens_59 (by decide) ?_
    refine us_icmp_ge dMod_opens_61 (by omega) (fun c11 => ?_) (fun c11 => absurd c11 (by omega))
    rw [show x = 13 by omega]
    exact hK S rfl (fun _ _ => rfl) (fun _ _ => rfl) (fun q h1 h2 => hc q h1 (by omega))
  | succ n ih =>
    intro x S hn hc hK
    refine us_iload dMod_opens_57 rfl ?_
    refine us_bipush dMod_opens_59 (by decide) ?_
    refine us_icmp_ge dMod_opens_61 (by omega) (fun c21 => absurd c21 (by omega)) (fun c21 => ?_)
    refine us_aload_n dMod_opens_64 rfl ?_
    refine us_iload_n dMod_opens_65 rfl ?_
    refine us_iload dMod_opens_66 rfl ?_
    refine us_iconst dMod_opens_68 ?_
    refine us_v3 mMod_boxes dMod_opens_69 kV_Mod_113 md_obj ⟨by decide, rfl, rfl, (Nat.le_of_ble_eq_true rfl), (Nat.le_of_ble_eq_true rfl)⟩ (Nat.le_of_ble_eq_true rfl) (Nat.le_of_ble_eq_true rfl) rfl ?_
    refine c_Mod_boxes (13 * k + x) (by omega) (by omega) ?_
    refine u_ko_0 ?_
    refine us_iinc_4 dMod_opens_72 rfl (Nat.le_of_ble_eq_true rfl) ?_
    refine us_goto dMod_opens_75 ?_
    rw [show (x : Int) + 1 = ((x + 1 : Nat) : Int) by omega]
    refine ih (x + 1) _ (by omega) (fun q h1 h2 => ?_) (fun S2 a1 a2 a3 a4 => hK S2 a1 (fun f hf => (a2 f hf).trans (by funext q; rw [mA_ne hf])) (fun q hq => (a3 q hq).trans (by rw [mA_2, if_neg (by omega)])) a4)
    rw [mA_2]
    by_cases hq : q = 13 * k + x
    · rw [if_pos ⟨rfl, hq⟩]
    · rw [if_neg (fun z => hq z.2)]
      exact hc q h1 (by omega)

theorem c_Mod_opens {h : uHp} {y j nm : Nat} {R xs : List Int} {S : uMS} {P : uPg} {O KP : List Int} {fp fc : Int} {ZF : uZ} {Q : uPs} (hz : zr R xs (j + 1) (uP P 0 (xs.take (j + 1)), O, KP, 1, fp, -1, fc) = ZF) (hnm : ratI xs ((j + 1 : Nat) : Int) = 97 + (nm : Int)) (hnm6 : nm < 6) (hj1 : j + 1 < xs.length) (hl : xs.length ≤ 100)
    (hA : rAll S xs P O j (P 3).length) (hT : rTx S xs) (hE : rEn S R)
    (hF : ∀ S' : uMS, uSP S S' → uFlt S' (z_end ZF (xs.length : Int)) → Q (some (ui (-5))) (u_mod h y S'))
    (hG : ∀ (S' : uMS) (P' : uPg) (O' KP' : List Int) (at' : Nat), zr R xs at' (uP P' 0 (xs.take at'), O', KP', 6, fp, -1, fc) = ZF → rAll S' xs P' O' at' (P' 3).length → at' ≤ xs.length → j < at' → uSP S S' → 0 < O'.length → P' 6 = P 6 → (P' 3).length = (P 3).length + 1 → (P' 1).count 2 = (P 1).count 2 → (∃ x : Int, P' 4 = P 4 ++ [x] ∧ (0 < O.length → 0 ≤ x)) → Q (some (ui (at' : Int))) (u_mod h y S')) : uW mMod_opens 0 [.ref y, ui (j : Int), .null, .null, .null] [] (u_mod h y S) 0 0 Q := by
  refine us_aload_n dMod_opens_0 rfl ?_
  refine us_getf 9 5 dMod_opens_1 kF_Mod_19 md_obj rfl ?_
  refine us_iload_n dMod_opens_4 rfl ?_
  refine us_iconst dMod_opens_5 ?_
  refine us_iadd dMod_opens_6 ?_
  refine us_iald (j + 1) dMod_opens_7 md_a4 (by omega) (by omega) (by omega) (congrArg ui (hT.2.1 (j + 1) hj1)) ?_
  refine us_bipush dMod_opens_8 (by decide) ?_
  refine us_isub dMod_opens_10 ?_
  rw [show ratI xs ((j + 1 : Nat) : Int) - 97 = (nm : Int) by omega]
  refine us_istore_2 dMod_opens_11 rfl (Nat.le_of_ble_eq_true rfl) ?_
  refine us_aload_n dMod_opens_12 rfl ?_
  refine us_iload_n dMod_opens_13 rfl ?_
  refine us_iconst dMod_opens_14 ?_
  refine us_v2 mMod_implies dMod_opens_15 kV_Mod_120 md_obj ⟨by decide, rfl, rfl, (Nat.le_of_ble_eq_true rfl), (Nat.le_of_ble_eq_true rfl)⟩ (Nat.le_of_ble_eq_true rfl) (Nat.le_of_ble_eq_true rfl) rfl ?_
  have ht3 := tk_name (R := R) (P := uP P 0 (xs.take (j + 1 + 1))) (O := O) (KP := KP) (x := ratI xs ((j + 1 : Nat) : Int)) (pl := ((j + 1 : Nat) : Int)) (f := (fp, -1, fc)) (by omega)
  rw [show ratI xs ((j + 1 : Nat) : Int) - 97 = (nm : Int) by omega, show ((j + 1 : Nat) : Int) - 1 = (j : Int) by omega] at ht3
  refine c_Mod_implies (cl := false) (KP, 1, fp, -1, fc) hnm6 (rAll.p0 (ys := xs.take (j + 1 + 1)) hA) hE (fun S1 P1 O1 a1 a2 a3 a4 => ?_)
  have ht4 : z_take R (uP P 0 (xs.take (j + 1 + 1)), O, KP, 1, fp, -1, fc) ((j + 1 : Nat) : Int) (ratI xs ((j + 1 : Nat) : Int)) = z_open2 (P1, O1, KP, 1, fp, -1, fc) (j : Int) (nm : Int) := ht3.trans (congrArg (fun z => z_open2 z (j : Int) (nm : Int)) a1)
  obtain ⟨kp1, kp2⟩ := z_iF_keep _ _ _ _ _ _ _ _ _ a1
  have hT1 := hT.sp a4
  have k3 : (P1 3).length = (P 3).length := congrArg List.length (kp1 3 (by decide))
  have hA1 : rAll S1 xs P1 O1 j (P1 3).length := by rw [k3]; exact a2
  obtain ⟨⟨hs1, -, -⟩, ⟨q1, q2, q3⟩, qb, qc, -, qg, -⟩ := id hA1
  have hcc := qc
  obtain ⟨d1, d2, d3, d4, d5, d6, d7, d8⟩ := hcc
  have qg1 := qg.1
  have qg2 := qg.2
  have h61 : S1.1 6 = (xs.length : Int) := hT1.1
  refine u_ko_0 ?_
  refine us_aload_n dMod_opens_18 rfl ?_
  refine us_getf 9 9 dMod_opens_19 kF_Mod_94 md_obj rfl ?_
  refine us_bipush dMod_opens_22 (by decide) ?_
  rw [q1]
  refine us_icmp_ne dMod_opens_24 (by omega) (fun c31 => ?_) (fun c31 => ?_)
  · skip
    refine us_aload_n dMod_opens_39 rfl ?_
    refine us_getf 9 12 dMod_opens_40 kF_Mod_124 md_obj rfl ?_
    rw [qb.2.2]
    refine us_istore_3 dMod_opens_43 rfl (Nat.le_of_ble_eq_true rfl) ?_
    refine us_aload_n dMod_opens_44 rfl ?_
    refine us_dup dMod_opens_45 rfl ?_
    refine us_getf 9 12 dMod_opens_46 kF_Mod_124 md_obj rfl ?_
    rw [qb.2.2]
    refine us_iconst dMod_opens_49 ?_
    refine us_iadd dMod_opens_50 ?_
    refine ms_put 12 dMod_opens_51 kP_Mod_124 rfl rfl (md_u12 _ _ _) ?_
    refine us_iconst dMod_opens_54 ?_
    refine us_istore_4 dMod_opens_55 rfl (Nat.le_of_ble_eq_true rfl) ?_
    refine c_Mod_opens_57 (k := (P1 3).length) (by omega) 13 0 (mI S1 12 (((P1 3).length : Int) + 1)) rfl (fun q h1 h2 => absurd h2 (by omega)) (fun S2 z1 z2 z3 z4 => ?_)
    have g9 : S2.1 9 = (O1.length : Int) := by rw [z1]; exact q1
    have g15 : S2.1 15 = ((P1 1).length : Int) := by rw [z1]; exact hs1
    have g12 : S2.1 12 = ((P1 3).length : Int) + 1 := by rw [z1]; rfl
    have g8 : S2.2 8 = S1.2 8 := z2 8 (by decide)
    have hzA := zs hz hj1 hl ht4
    have hzB : zr R xs (j + 2) (uP (pBx P1 nm j (O1.getLastD (-1))) 0 (xs.take (j + 2)), O1 ++ [((P1 3).length : Int)], List.replicate 4 (-1), 2, fp, -1, fc) = ZF := by
      rw [show z_open2 (P1, O1, KP, 1, fp, -1, fc) (j : Int) (nm : Int) = (p_addBox P1 (j : Int) (nm : Int) (O1.getLastD (-1)), appI 6 O1 ((P1 3).length : Int), List.replicate 4 (-1), 2, fp, -1, fc) from if_neg (show ¬ 6 ≤ O1.length by omega)] at hzA
      rw [show appI 6 O1 ((P1 3).length : Int) = O1 ++ [((P1 3).length : Int)] from if_pos (by omega)] at hzA
      have e2 : p_addBox P1 (j : Int) (nm : Int) (O1.getLastD (-1)) = uP (pBx P1 nm j (O1.getLastD (-1))) 0 (xs.take (j + 2)) := by
        rw [← pBx_0, show uP P1 0 (xs.take (j + 2)) = P1 from by rw [show xs.take (j + 2) = P1 0 from (kp1 0 (by decide)).symm]; exact uP_self P1 0]
        unfold p_addBox pBx
        rw [show appI 100 (P1 1) 0 = P1 1 ++ [0] from if_pos (by omega), show appI 34 (P1 2) (j : Int) = P1 2 ++ [(j : Int)] from if_pos (by omega), show appI 34 (P1 3) (nm : Int) = P1 3 ++ [(nm : Int)] from if_pos (by omega), show appI 34 (P1 4) (O1.getLastD (-1)) = P1 4 ++ [O1.getLastD (-1)] from if_pos (by omega)]
      rw [e2] at hzA
      exact hzA
    refine us_aload_n dMod_opens_78 rfl ?_
    refine us_iload_n dMod_opens_79 rfl ?_
    refine us_iconst dMod_opens_80 ?_
    refine us_iload_n dMod_opens_81 rfl ?_
    refine us_v3 mMod_boxes dMod_opens_82 kV_Mod_113 md_obj ⟨by decide, rfl, rfl, (Nat.le_of_ble_eq_true rfl), (Nat.le_of_ble_eq_true rfl)⟩ (Nat.le_of_ble_eq_true rfl) (Nat.le_of_ble_eq_true rfl) rfl ?_
    refine c_Mod_boxes (13 * (P1 3).length) (by omega) (by omega) ?_
    refine u_ko_0 ?_
    refine us_aload_n dMod_opens_85 rfl ?_
    refine us_iload_n dMod_opens_86 rfl ?_
    refine us_iconst dMod_opens_87 ?_
    refine us_iload_n dMod_opens_88 rfl ?_
    refine us_v3 mMod_boxes dMod_opens_89 kV_Mod_113 md_obj ⟨by decide, rfl, rfl, (Nat.le_of_ble_eq_true rfl), (Nat.le_of_ble_eq_true rfl)⟩ (Nat.le_of_ble_eq_true rfl) (Nat.le_of_ble_eq_true rfl) rfl ?_
    refine c_Mod_boxes (13 * (P1 3).length + 1) (by omega) (by omega) ?_
    refine u_ko_0 ?_
    refine us_aload_n dMod_opens_92 rfl ?_
    refine us_iload_n dMod_opens_93 rfl ?_
    refine us_iconst dMod_opens_94 ?_
    refine us_aload_n dMod_opens_95 rfl ?_
    refine us_getf 9 9 dMod_opens_96 kF_Mod_94 md_obj rfl ?_
    refine us_if_ne dMod_opens_99 (by show -2147483648 ≤ S2.1 9 ∧ S2.1 9 ≤ 2147483647; rw [g9]; omega) (fun c41 => ?_) (fun c41 => ?_)
    · skip
      have hO0 : ¬ O1.length = 0 := fun z => (show S2.1 9 ≠ 0 from c41) (by rw [g9]; omega)
      obtain ⟨hi1, hi2, hi3⟩ := q3 (O1.length - 1) (by omega)
      rw [← lastD_at (O := O1) (by omega)] at hi1 hi2
      refine us_aload_n dMod_opens_107 rfl ?_
      refine us_getf 9 8 dMod_opens_108 kF_Mod_25 md_obj rfl ?_
      refine us_aload_n dMod_opens_111 rfl ?_
      refine us_getf 9 9 dMod_opens_112 kF_Mod_94 md_obj rfl ?_
      refine us_iconst dMod_opens_115 ?_
      refine us_isub dMod_opens_116 ?_
      refine us_iald (O1.length - 1) dMod_opens_117 md_a6 (by show S2.1 9 - 1 = _; rw [g9]; omega) (by omega) (by omega) (show _ = ui (O1.getLastD (-1)) from congrArg ui ((congrFun g8 _).trans hi2)) ?_
      refine us_v3 mMod_boxes dMod_opens_118 kV_Mod_113 md_obj ⟨by decide, rfl, rfl, (Nat.le_of_ble_eq_true rfl), (Nat.le_of_ble_eq_true rfl)⟩ (Nat.le_of_ble_eq_true rfl) (Nat.le_of_ble_eq_true rfl) rfl ?_
      refine c_Mod_boxes (13 * (P1 3).length + 2) (by omega) (by omega) ?_
      refine u_ko_0 ?_
      refine us_aload_n dMod_opens_121 rfl ?_
      refine us_iload_n dMod_opens_122 rfl ?_
      refine us_bipush dMod_opens_123 (by decide) ?_
      refine us_bipush dMod_opens_125 (by decide) ?_
      refine us_v3 mMod_boxes dMod_opens_127 kV_Mod_113 md_obj ⟨by decide, rfl, rfl, (Nat.le_of_ble_eq_true rfl), (Nat.le_of_ble_eq_true rfl)⟩ (Nat.le_of_ble_eq_true rfl) (Nat.le_of_ble_eq_true rfl) rfl ?_
      refine c_Mod_boxes (13 * (P1 3).length + 7) (by omega) (by omega) ?_
      refine u_ko_0 ?_
      refine us_aload_n dMod_opens_130 rfl ?_
      refine us_getf 9 9 dMod_opens_131 kF_Mod_94 md_obj rfl ?_
      refine us_if_le dMod_opens_134 (by show -2147483648 ≤ S2.1 9 ∧ S2.1 9 ≤ 2147483647; rw [g9]; omega) (fun c42 => absurd (show S2.1 9 ≤ 0 from c42) (by rw [g9]; omega)) (fun c42 => ?_)
      refine us_aload_n dMod_opens_137 rfl ?_
      refine us_aload_n dMod_opens_138 rfl ?_
      refine us_getf 9 8 dMod_opens_139 kF_Mod_25 md_obj rfl ?_
      refine us_aload_n dMod_opens_142 rfl ?_
      refine us_getf 9 9 dMod_opens_143 kF_Mod_94 md_obj rfl ?_
      refine us_iconst dMod_opens_146 ?_
      refine us_isub dMod_opens_147 ?_
      refine us_iald (O1.length - 1) dMod_opens_148 md_a6 (by show S2.1 9 - 1 = _; rw [g9]; omega) (by omega) (by omega) (show _ = ui (O1.getLastD (-1)) from congrArg ui ((congrFun g8 _).trans hi2)) ?_
      refine us_bipush dMod_opens_149 (by decide) ?_
      refine us_aload_n dMod_opens_151 rfl ?_
      refine us_aload_n dMod_opens_152 rfl ?_
      refine us_getf 9 8 dMod_opens_153 kF_Mod_25 md_obj rfl ?_
      refine us_aload_n dMod_opens_156 rfl ?_
      refine us_getf 9 9 dMod_opens_157 kF_Mod_94 md_obj rfl ?_
      refine us_iconst dMod_opens_160 ?_
      refine us_isub dMod_opens_161 ?_
      refine us_iald (O1.length - 1) dMod_opens_162 md_a6 (by show S2.1 9 - 1 = _; rw [g9]; omega) (by omega) (by omega) (show _ = ui (O1.getLastD (-1)) from congrArg ui ((congrFun g8 _).trans hi2)) ?_
      refine us_bipush dMod_opens_163 (by decide) ?_
      refine us_v2 mMod_box dMod_opens_165 kV_Mod_97 md_obj ⟨by decide, rfl, rfl, (Nat.le_of_ble_eq_true rfl), (Nat.le_of_ble_eq_true rfl)⟩ (Nat.le_of_ble_eq_true rfl) (Nat.le_of_ble_eq_true rfl) rfl ?_
      refine c_Mod_box (13 * (O1.getLastD (-1)).toNat + 6) (by omega) (by omega) ?_
      refine u_ko_1 ?_
      refine us_iconst dMod_opens_168 ?_
      refine us_iadd dMod_opens_169 ?_
      refine us_v3 mMod_boxes dMod_opens_170 kV_Mod_113 md_obj ⟨by decide, rfl, rfl, (Nat.le_of_ble_eq_true rfl), (Nat.le_of_ble_eq_true rfl)⟩ (Nat.le_of_ble_eq_true rfl) (Nat.le_of_ble_eq_true rfl) rfl ?_
      refine c_Mod_boxes (13 * (O1.getLastD (-1)).toNat + 6) (by omega) (by omega) ?_
      refine u_ko_0 ?_
      refine us_aload_n dMod_opens_173 rfl ?_
      refine us_getf 9 8 dMod_opens_174 kF_Mod_25 md_obj rfl ?_
      refine us_aload_n dMod_opens_177 rfl ?_
      refine us_getf 9 9 dMod_opens_178 kF_Mod_94 md_obj rfl ?_
      refine us_iload_n dMod_opens_181 rfl ?_
      refine ms_iast 6 8 (O1.length) dMod_opens_182 ⟨by decide, by decide, rfl, rfl⟩ (by show S2.1 9 = _; rw [g9]) (show _ < 6 from (by omega)) ?_
      refine us_aload_n dMod_opens_183 rfl ?_
      refine us_dup dMod_opens_184 rfl ?_
      refine us_getf 9 9 dMod_opens_185 kF_Mod_94 md_obj rfl ?_
      refine us_iconst dMod_opens_188 ?_
      refine us_iadd dMod_opens_189 ?_
      refine ms_put 9 dMod_opens_190 kP_Mod_94 rfl rfl (md_u9 _ _ _) ?_
      refine us_aload_n dMod_opens_193 rfl ?_
      refine us_iload_n dMod_opens_194 rfl ?_
      refine us_bipush dMod_opens_195 (by decide) ?_
      refine us_aload_n dMod_opens_197 rfl ?_
      refine us_getf 9 9 dMod_opens_198 kF_Mod_94 md_obj rfl ?_
      refine us_v3 mMod_boxes dMod_opens_201 kV_Mod_113 md_obj ⟨by decide, rfl, rfl, (Nat.le_of_ble_eq_true rfl), (Nat.le_of_ble_eq_true rfl)⟩ (Nat.le_of_ble_eq_true rfl) (Nat.le_of_ble_eq_true rfl) rfl ?_
      refine c_Mod_boxes (13 * (P1 3).length + 8) (by omega) (by omega) ?_
      refine u_ko_0 ?_
      refine us_aload_n dMod_opens_204 rfl ?_
      refine us_iconst dMod_opens_205 ?_
      refine us_iload_n dMod_opens_206 rfl ?_
      refine us_v2 mMod_steps dMod_opens_207 kV_Mod_101 md_obj ⟨by decide, rfl, rfl, (Nat.le_of_ble_eq_true rfl), (Nat.le_of_ble_eq_true rfl)⟩ (Nat.le_of_ble_eq_true rfl) (Nat.le_of_ble_eq_true rfl) rfl ?_
      refine c_Mod_steps (P1 1).length (show S2.1 15 = _ from g15) (by omega) ?_
      refine u_ko_0 ?_
      refine us_aload_n dMod_opens_210 rfl ?_
      refine us_iload_n dMod_opens_211 rfl ?_
      refine us_iload_n dMod_opens_212 rfl ?_
      refine us_iconst dMod_opens_213 ?_
      refine us_iadd dMod_opens_214 ?_
      refine us_v2 mMod_readNotes dMod_opens_215 kV_Mod_127 md_obj ⟨by decide, rfl, rfl, (Nat.le_of_ble_eq_true rfl), (Nat.le_of_ble_eq_true rfl)⟩ (Nat.le_of_ble_eq_true rfl) (Nat.le_of_ble_eq_true rfl) rfl ?_
      refine c_Mod_opens_rn (S1 := S1) (P1 := P1) (O1 := O1) (nm := nm) (R := R) (fp := fp) (fc := fc) (ZF := ZF) ?_ hA1 hT1 (by omega) hnm6 (by omega) hl (by omega) hzB (fun S3 b1 b2 => ?_) (fun S3 KP3 at3 b1 b2 b3 b4 b5 => ?_)
      · refine ⟨⟨?_, g12, ?_⟩, fun q => ?_, fun q => ?_, fun q => ?_, fun q hq => ?_, ⟨?_, ?_, ?_, ?_, ?_, ?_, ?_, ?_⟩, fun i h9 h12 h15 => ?_, fun f h8 h10 h11 h13 h14 => ?_⟩
        · show S2.1 9 + 1 = _; rw [g9]
        · show ((P1 1).length : Int) + 1 = _; rfl
        · simp only [mI_2, mA_2, Nat.reduceEqDiff, false_and, true_and, if_false, g8, z2 13 (by decide), z2 14 (by decide)]
        · simp only [mI_2, mA_2, Nat.reduceEqDiff, false_and, true_and, if_false, g8, z2 13 (by decide), z2 14 (by decide)]
        · simp only [mI_2, mA_2, Nat.reduceEqDiff, false_and, true_and, if_false, g8, z2 13 (by decide), z2 14 (by decide)]
        · simp only [mI_2, mA_2, Nat.reduceEqDiff, false_and, true_and, if_false]
          have zz := z3 q (by omega)
          have zw := z3 (13 * (O1.getLastD (-1)).toNat + 6) (by omega)
          have gO : 0 < O1.length := by omega
          by_cases hq6 : q = 13 * (O1.getLastD (-1)).toNat + 6
          · subst hq6
            repeat (first | rw [if_pos (by omega)] | rw [if_neg (by omega)])
            rw [zw]; rfl
          · repeat (first | rw [if_neg (by omega)])
            exact zz
        · simp only [mI_1, mI_2, mA_1, mA_2, Nat.reduceEqDiff, false_and, true_and, if_false, if_true]
          repeat (first | rw [if_pos (by omega)] | rw [if_neg (by omega)])
        · simp only [mI_1, mI_2, mA_1, mA_2, Nat.reduceEqDiff, false_and, true_and, if_false, if_true]
          repeat (first | rw [if_pos (by omega)] | rw [if_neg (by omega)])
        · simp only [mI_1, mI_2, mA_1, mA_2, Nat.reduceEqDiff, false_and, true_and, if_false, if_true]
          repeat (first | rw [if_pos (by omega)] | rw [if_neg (by omega)])
          show _ = if O1.getLastD (-1) < 0 then (-5 : Int) else O1.getLastD (-1)
          rw [if_neg (by omega)]
        · simp only [mI_1, mI_2, mA_1, mA_2, Nat.reduceEqDiff, false_and, true_and, if_false, if_true]
          repeat (first | rw [if_pos (by omega)] | rw [if_neg (by omega)])
          exact z4 _ (by omega) (by omega)
        · simp only [mI_1, mI_2, mA_1, mA_2, Nat.reduceEqDiff, false_and, true_and, if_false, if_true]
          repeat (first | rw [if_pos (by omega)] | rw [if_neg (by omega)])
          exact z4 _ (by omega) (by omega)
        · simp only [mI_1, mI_2, mA_1, mA_2, Nat.reduceEqDiff, false_and, true_and, if_false, if_true]
          repeat (first | rw [if_pos (by omega)] | rw [if_neg (by omega)])
          exact z4 _ (by omega) (by omega)
        · simp only [mI_1, mI_2, mA_1, mA_2, Nat.reduceEqDiff, false_and, true_and, if_false, if_true]
          repeat (first | rw [if_pos (by omega)] | rw [if_neg (by omega)])
        · simp only [mI_1, mI_2, mA_1, mA_2, Nat.reduceEqDiff, false_and, true_and, if_false, if_true]
          repeat (first | rw [if_pos (by omega)] | rw [if_neg (by omega)])
          rw [g9]
        · show (if i = 15 then _ else if i = 9 then _ else S2.1 i) = _; rw [if_neg h15, if_neg h9]; rw [z1]; exact if_neg h12
        · funext q; simp only [mI_2, mA_2]; rw [if_neg (fun z => h14 z.1), if_neg (fun z => h13 z.1)]; repeat (first | rw [if_neg (c := f = 11 ∧ _) (fun z => h11 z.1)] | rw [if_neg (c := f = 8 ∧ _) (fun z => h8 z.1)])
          exact congrFun (z2 f h11) q
      · refine u_ko_1 ?_
        refine us_ireturn dMod_opens_218 rfl (Nat.le_of_ble_eq_true rfl) (Nat.le_of_ble_eq_true rfl) ?_
        exact hF S3 (a4.tr b1) b2
      · refine u_ko_1 ?_
        refine us_ireturn dMod_opens_218 rfl (Nat.le_of_ble_eq_true rfl) (Nat.le_of_ble_eq_true rfl) ?_
        refine hG S3 (pBx P1 nm j (O1.getLastD (-1))) (O1 ++ [((P1 3).length : Int)]) KP3 at3 b1 ?_ b4 b5 (a4.tr b3) (by simp) (kp1 6 (by decide)) ?_ ?_ ⟨O1.getLastD (-1), congrArg (fun z => z ++ [O1.getLastD (-1)]) (kp1 4 (by decide)), fun hO9 => by rw [lastD_at (a3 hO9)]; exact (q3 (O1.length - 1) (by have := a3 hO9; omega)).1.1⟩
        · rw [show (pBx P1 nm j (O1.getLastD (-1)) 3).length = (P1 3).length + 1 from by show (P1 3 ++ [(nm : Int)]).length = _; rw [List.length_append]; rfl]; exact b2
        · show (P1 3 ++ [(nm : Int)]).length = _; rw [List.length_append, k3]; rfl
        · show (P1 1 ++ [0]).count 2 = _; rw [List.count_append, kp2]; rfl
    · skip
      have hO0 : O1.length = 0 := by have : S2.1 9 = 0 := c41; omega
      have hE0 : O1.getLastD (-1) = -1 := by rw [List.eq_nil_of_length_eq_zero hO0]; rfl
      refine us_bipush dMod_opens_102 (by decide) ?_
      refine us_goto dMod_opens_104 ?_
      refine us_v3 mMod_boxes dMod_opens_118 kV_Mod_113 md_obj ⟨by decide, rfl, rfl, (Nat.le_of_ble_eq_true rfl), (Nat.le_of_ble_eq_true rfl)⟩ (Nat.le_of_ble_eq_true rfl) (Nat.le_of_ble_eq_true rfl) rfl ?_
      refine c_Mod_boxes (13 * (P1 3).length + 2) (by omega) (by omega) ?_
      refine u_ko_0 ?_
      refine us_aload_n dMod_opens_121 rfl ?_
      refine us_iload_n dMod_opens_122 rfl ?_
      refine us_bipush dMod_opens_123 (by decide) ?_
      refine us_bipush dMod_opens_125 (by decide) ?_
      refine us_v3 mMod_boxes dMod_opens_127 kV_Mod_113 md_obj ⟨by decide, rfl, rfl, (Nat.le_of_ble_eq_true rfl), (Nat.le_of_ble_eq_true rfl)⟩ (Nat.le_of_ble_eq_true rfl) (Nat.le_of_ble_eq_true rfl) rfl ?_
      refine c_Mod_boxes (13 * (P1 3).length + 7) (by omega) (by omega) ?_
      refine u_ko_0 ?_
      refine us_aload_n dMod_opens_130 rfl ?_
      refine us_getf 9 9 dMod_opens_131 kF_Mod_94 md_obj rfl ?_
      refine us_if_le dMod_opens_134 (by show -2147483648 ≤ S2.1 9 ∧ S2.1 9 ≤ 2147483647; rw [g9]; omega) (fun c43 => ?_) (fun c43 => absurd (show 0 < S2.1 9 from c43) (by rw [g9]; omega))
      refine us_aload_n dMod_opens_173 rfl ?_
      refine us_getf 9 8 dMod_opens_174 kF_Mod_25 md_obj rfl ?_
      refine us_aload_n dMod_opens_177 rfl ?_
      refine us_getf 9 9 dMod_opens_178 kF_Mod_94 md_obj rfl ?_
      refine us_iload_n dMod_opens_181 rfl ?_
      refine ms_iast 6 8 (O1.length) dMod_opens_182 ⟨by decide, by decide, rfl, rfl⟩ (by show S2.1 9 = _; rw [g9]) (show _ < 6 from (by omega)) ?_
      refine us_aload_n dMod_opens_183 rfl ?_
      refine us_dup dMod_opens_184 rfl ?_
      refine us_getf 9 9 dMod_opens_185 kF_Mod_94 md_obj rfl ?_
      refine us_iconst dMod_opens_188 ?_
      refine us_iadd dMod_opens_189 ?_
      refine ms_put 9 dMod_opens_190 kP_Mod_94 rfl rfl (md_u9 _ _ _) ?_
      refine us_aload_n dMod_opens_193 rfl ?_
      refine us_iload_n dMod_opens_194 rfl ?_
      refine us_bipush dMod_opens_195 (by decide) ?_
      refine us_aload_n dMod_opens_197 rfl ?_
      refine us_getf 9 9 dMod_opens_198 kF_Mod_94 md_obj rfl ?_
      refine us_v3 mMod_boxes dMod_opens_201 kV_Mod_113 md_obj ⟨by decide, rfl, rfl, (Nat.le_of_ble_eq_true rfl), (Nat.le_of_ble_eq_true rfl)⟩ (Nat.le_of_ble_eq_true rfl) (Nat.le_of_ble_eq_true rfl) rfl ?_
      refine c_Mod_boxes (13 * (P1 3).length + 8) (by omega) (by omega) ?_
      refine u_ko_0 ?_
      refine us_aload_n dMod_opens_204 rfl ?_
      refine us_iconst dMod_opens_205 ?_
      refine us_iload_n dMod_opens_206 rfl ?_
      refine us_v2 mMod_steps dMod_opens_207 kV_Mod_101 md_obj ⟨by decide, rfl, rfl, (Nat.le_of_ble_eq_true rfl), (Nat.le_of_ble_eq_true rfl)⟩ (Nat.le_of_ble_eq_true rfl) (Nat.le_of_ble_eq_true rfl) rfl ?_
      refine c_Mod_steps (P1 1).length (show S2.1 15 = _ from g15) (by omega) ?_
      refine u_ko_0 ?_
      refine us_aload_n dMod_opens_210 rfl ?_
      refine us_iload_n dMod_opens_211 rfl ?_
      refine us_iload_n dMod_opens_212 rfl ?_
      refine us_iconst dMod_opens_213 ?_
      refine us_iadd dMod_opens_214 ?_
      refine us_v2 mMod_readNotes dMod_opens_215 kV_Mod_127 md_obj ⟨by decide, rfl, rfl, (Nat.le_of_ble_eq_true rfl), (Nat.le_of_ble_eq_true rfl)⟩ (Nat.le_of_ble_eq_true rfl) (Nat.le_of_ble_eq_true rfl) rfl ?_
      refine c_Mod_opens_rn (S1 := S1) (P1 := P1) (O1 := O1) (nm := nm) (R := R) (fp := fp) (fc := fc) (ZF := ZF) ?_ hA1 hT1 (by omega) hnm6 (by omega) hl (by omega) hzB (fun S3 b1 b2 => ?_) (fun S3 KP3 at3 b1 b2 b3 b4 b5 => ?_)
      · refine ⟨⟨?_, g12, ?_⟩, fun q => ?_, fun q => ?_, fun q => ?_, fun q hq => ?_, ⟨?_, ?_, ?_, ?_, ?_, ?_, ?_, ?_⟩, fun i h9 h12 h15 => ?_, fun f h8 h10 h11 h13 h14 => ?_⟩
        · show S2.1 9 + 1 = _; rw [g9]
        · show ((P1 1).length : Int) + 1 = _; rfl
        · simp only [mI_2, mA_2, Nat.reduceEqDiff, false_and, true_and, if_false, g8, z2 13 (by decide), z2 14 (by decide)]
        · simp only [mI_2, mA_2, Nat.reduceEqDiff, false_and, true_and, if_false, g8, z2 13 (by decide), z2 14 (by decide)]
        · simp only [mI_2, mA_2, Nat.reduceEqDiff, false_and, true_and, if_false, g8, z2 13 (by decide), z2 14 (by decide)]
        · simp only [mI_2, mA_2, Nat.reduceEqDiff, false_and, true_and, if_false]
          have zz := z3 q (by omega)
          repeat (first | rw [if_neg (by omega)])
          exact zz
        · simp only [mI_1, mI_2, mA_1, mA_2, Nat.reduceEqDiff, false_and, true_and, if_false, if_true]
          repeat (first | rw [if_pos (by omega)] | rw [if_neg (by omega)])
        · simp only [mI_1, mI_2, mA_1, mA_2, Nat.reduceEqDiff, false_and, true_and, if_false, if_true]
          repeat (first | rw [if_pos (by omega)] | rw [if_neg (by omega)])
        · simp only [mI_1, mI_2, mA_1, mA_2, Nat.reduceEqDiff, false_and, true_and, if_false, if_true]
          repeat (first | rw [if_pos (by omega)] | rw [if_neg (by omega)])
          show _ = if O1.getLastD (-1) < 0 then (-5 : Int) else O1.getLastD (-1)
          rw [if_pos (by rw [hE0]; decide)]
        · simp only [mI_1, mI_2, mA_1, mA_2, Nat.reduceEqDiff, false_and, true_and, if_false, if_true]
          repeat (first | rw [if_pos (by omega)] | rw [if_neg (by omega)])
          exact z4 _ (by omega) (by omega)
        · simp only [mI_1, mI_2, mA_1, mA_2, Nat.reduceEqDiff, false_and, true_and, if_false, if_true]
          repeat (first | rw [if_pos (by omega)] | rw [if_neg (by omega)])
          exact z4 _ (by omega) (by omega)
        · simp only [mI_1, mI_2, mA_1, mA_2, Nat.reduceEqDiff, false_and, true_and, if_false, if_true]
          repeat (first | rw [if_pos (by omega)] | rw [if_neg (by omega)])
          exact z4 _ (by omega) (by omega)
        · simp only [mI_1, mI_2, mA_1, mA_2, Nat.reduceEqDiff, false_and, true_and, if_false, if_true]
          repeat (first | rw [if_pos (by omega)] | rw [if_neg (by omega)])
        · simp only [mI_1, mI_2, mA_1, mA_2, Nat.reduceEqDiff, false_and, true_and, if_false, if_true]
          repeat (first | rw [if_pos (by omega)] | rw [if_neg (by omega)])
          rw [g9]
        · show (if i = 15 then _ else if i = 9 then _ else S2.1 i) = _; rw [if_neg h15, if_neg h9]; rw [z1]; exact if_neg h12
        · funext q; simp only [mI_2, mA_2]; rw [if_neg (fun z => h14 z.1), if_neg (fun z => h13 z.1)]; repeat (first | rw [if_neg (c := f = 11 ∧ _) (fun z => h11 z.1)] | rw [if_neg (c := f = 8 ∧ _) (fun z => h8 z.1)])
          exact congrFun (z2 f h11) q
      · refine u_ko_1 ?_
        refine us_ireturn dMod_opens_218 rfl (Nat.le_of_ble_eq_true rfl) (Nat.le_of_ble_eq_true rfl) ?_
        exact hF S3 (a4.tr b1) b2
      · refine u_ko_1 ?_
        refine us_ireturn dMod_opens_218 rfl (Nat.le_of_ble_eq_true rfl) (Nat.le_of_ble_eq_true rfl) ?_
        refine hG S3 (pBx P1 nm j (O1.getLastD (-1))) (O1 ++ [((P1 3).length : Int)]) KP3 at3 b1 ?_ b4 b5 (a4.tr b3) (by simp) (kp1 6 (by decide)) ?_ ?_ ⟨O1.getLastD (-1), congrArg (fun z => z ++ [O1.getLastD (-1)]) (kp1 4 (by decide)), fun hO9 => by rw [lastD_at (a3 hO9)]; exact (q3 (O1.length - 1) (by have := a3 hO9; omega)).1.1⟩
        · rw [show (pBx P1 nm j (O1.getLastD (-1)) 3).length = (P1 3).length + 1 from by show (P1 3 ++ [(nm : Int)]).length = _; rw [List.length_append]; rfl]; exact b2
        · show (P1 3 ++ [(nm : Int)]).length = _; rw [List.length_append, k3]; rfl
        · show (P1 1 ++ [0]).count 2 = _; rw [List.count_append, kp2]; rfl
  · skip
    refine us_aload_n dMod_opens_27 rfl ?_
    refine us_iload_n dMod_opens_28 rfl ?_
    refine us_iconst dMod_opens_29 ?_
    refine us_bipush dMod_opens_30 (by decide) ?_
    refine us_v3 mMod_fails dMod_opens_32 kV_Mod_110 md_obj ⟨by decide, rfl, rfl, (Nat.le_of_ble_eq_true rfl), (Nat.le_of_ble_eq_true rfl)⟩ (Nat.le_of_ble_eq_true rfl) (Nat.le_of_ble_eq_true rfl) rfl ?_
    refine c_Mod_fails (by rw [h61]; omega) ?_
    refine u_ko_1 ?_
    refine us_pop dMod_opens_35 rfl ?_
    refine us_bipush dMod_opens_36 (by decide) ?_
    refine us_ireturn dMod_opens_38 rfl (Nat.le_of_ble_eq_true rfl) (Nat.le_of_ble_eq_true rfl) ?_
    refine hF _ (a4.tr (uSP.fail _ _ _)) (z_fail2 (k := 4) (c := -5) (p := (j : Int)) hz hj1 hl (by decide) ?_ ⟨rfl, if_neg (by rw [h61]; omega), if_neg (by rw [h61]; omega)⟩)
    rw [ht4]
    unfold z_open2
    rw [if_pos (show 6 ≤ O1.length by omega)]
    rfl

