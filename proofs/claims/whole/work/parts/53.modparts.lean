/-! the reference: path -/
theorem m5_rng {x : Int} (h : -1 ≤ x ∧ x < 100) : -5 ≤ m5 x ∧ m5 x ≤ 100 := by unfold m5; split <;> omega
theorem m5_inj {x z : Int} (hx : -1 ≤ x) (hz : -1 ≤ z) (h : m5 x = m5 z) : x = z := by
  unfold m5 at h
  split at h <;> split at h <;> omega
theorem m5_nat (b : Nat) : ((b : Nat) : Int) = m5 (b : Int) := by unfold m5; rw [if_neg (by omega)]
theorem p_biF_ok (P : uPg) (b nm num : Int) : ∀ (n j : Nat) (met : Int), p_biF P b nm num n j met = -1 ∨ ∃ k : Nat, k < n + j ∧ p_biF P b nm num n j met = (k : Int) ∧ ratI (P 4) (k : Int) = b
  | 0, _, _ => Or.inl rfl
  | n + 1, j, met => by
    unfold p_biF
    split
    · rename_i hc
      split
      · exact Or.inr ⟨j, by omega, rfl, hc.1⟩
      · rcases p_biF_ok P b nm num n (j + 1) (met + 1) with e | ⟨k, k1, k2⟩
        · exact Or.inl e
        · exact Or.inr ⟨k, by omega, k2⟩
    · rcases p_biF_ok P b nm num n (j + 1) met with e | ⟨k, k1, k2⟩
      · exact Or.inl e
      · exact Or.inr ⟨k, by omega, k2⟩
theorem p_biF_no (P : uPg) (b nm num : Int) : ∀ (n j : Nat) (met : Int), (∀ k : Nat, j ≤ k → k < n + j → ratI (P 4) (k : Int) ≠ b) → p_biF P b nm num n j met = -1
  | 0, _, _, _ => rfl
  | n + 1, j, met, h => by
    unfold p_biF
    rw [if_neg (fun z => h j (Nat.le_refl _) (by omega) z.1)]
    exact p_biF_no P b nm num n (j + 1) met (fun k h1 h2 => h k (by omega) (by omega))
theorem p_bi_first {P : uPg} {nm num : Int} (h0 : 0 < (P 3).length) (h4 : ratI (P 4) 0 = -1) (h1 : ∀ b : Nat, 0 < b → b < (P 3).length → 0 ≤ ratI (P 4) (b : Int)) (hn : 1 ≤ num) : p_bi P (-1) nm num = if nm = ratI (P 3) 0 ∧ num = 1 then 0 else -1 := by
  unfold p_bi
  obtain ⟨n, hn2⟩ : ∃ n, (P 3).length = n + 1 := ⟨(P 3).length - 1, by omega⟩
  rw [hn2]
  have hno : ∀ met, p_biF P (-1) nm num n 1 met = -1 := fun met => p_biF_no P (-1) nm num n 1 met (fun k k1 k2 => by have := h1 k (by omega) (by omega); omega)
  unfold p_biF
  show (if ratI (P 4) 0 = -1 ∧ ratI (P 3) 0 = nm then (if (0 : Int) + 1 = num then (0 : Int) else p_biF P (-1) nm num n 1 (0 + 1)) else p_biF P (-1) nm num n 1 0) = _
  rw [hno, hno]
  by_cases hq : ratI (P 3) 0 = nm
  · rw [if_pos ⟨h4, hq⟩]
    by_cases hq2 : num = 1
    · rw [if_pos (by omega), if_pos ⟨hq.symm, hq2⟩]
    · rw [if_neg (by omega), if_neg (fun z => hq2 z.2)]
  · rw [if_neg (fun z => hq z.2), if_neg (fun z => hq z.1.symm)]
theorem t_bxF_neg (P : uPg) (T : uT) : ∀ (n j : Nat), t_bxF P T n j (-1) = -1
  | 0, _ => rfl
  | n + 1, j => if_pos rfl
theorem c_Mod_inner_6 {h : uHp} {y : Nat} {S : uMS} {P : uPg} {b nm num ar : Int} {Q : uPs} (hm : S.1 12 = ((P 3).length : Int)) (h39 : (P 3).length ≤ 39) (hc : ∀ k : Nat, k < (P 3).length → (S.2 11 (13 * k + 2) = m5 (ratI (P 4) (k : Int)) ∧ -1 ≤ ratI (P 4) (k : Int) ∧ ratI (P 4) (k : Int) < 100) ∧ S.2 11 (13 * k) = ratI (P 3) (k : Int) ∧ 0 ≤ ratI (P 3) (k : Int) ∧ ratI (P 3) (k : Int) ≤ 5) (hb : -1 ≤ b ∧ b < 100) (hab : ar = m5 b) (hn : 0 ≤ nm ∧ nm ≤ 5) : ∀ (n k : Nat) (left met : Int), n + k = (P 3).length → left + met = num → 1 ≤ left ∧ left ≤ 9 → Q (some (ui (p_biF P b nm num n k met))) (u_mod h y S) → uW mMod_inner 6 [.ref y, ui ar, ui nm, ui num, ui left, ui (k : Int)] [] (u_mod h y S) 0 0 Q := by
  have hr := m5_rng hb
  intro n
  induction n with
  | zero =>
    intro k left met hk hl hl2 hQ
    refine us_iload dMod_inner_6 rfl ?_
    refine us_aload_n dMod_inner_8 rfl ?_
    refine us_getf 9 12 dMod_inner_9 kF_Mod_124 md_obj rfl ?_
    rw [hm]
    refine us_icmp_ge dMod_inner_12 (by omega) (fun c11 => ?_) (fun c11 => absurd c11 (by omega))
    refine us_iconst dMod_inner_61 ?_
    refine us_ireturn dMod_inner_62 rfl (Nat.le_of_ble_eq_true rfl) (Nat.le_of_ble_eq_true rfl) ?_
    exact hQ
  | succ n ih =>
    intro k left met hk hl hl2 hQ
    obtain ⟨⟨x1, x2, x3⟩, y1, y2⟩ := hc k (by omega)
    have hr2 := m5_rng ⟨x2, x3⟩
    refine us_iload dMod_inner_6 rfl ?_
    refine us_aload_n dMod_inner_8 rfl ?_
    refine us_getf 9 12 dMod_inner_9 kF_Mod_124 md_obj rfl ?_
    rw [hm]
    refine us_icmp_ge dMod_inner_12 (by omega) (fun c21 => absurd c21 (by omega)) (fun c21 => ?_)
    refine us_iload dMod_inner_15 rfl ?_
    refine us_aload_n dMod_inner_17 rfl ?_
    refine us_iload dMod_inner_18 rfl ?_
    refine us_iconst dMod_inner_20 ?_
    refine us_v2 mMod_box dMod_inner_21 kV_Mod_97 md_obj ⟨by decide, rfl, rfl, (Nat.le_of_ble_eq_true rfl), (Nat.le_of_ble_eq_true rfl)⟩ (Nat.le_of_ble_eq_true rfl) (Nat.le_of_ble_eq_true rfl) rfl ?_
    refine c_Mod_box (13 * k + 2) (by omega) (by omega) ?_
    rw [x1]
    refine u_ko_1 ?_
    refine us_iload_n dMod_inner_24 rfl ?_
    refine us_icmp_ne dMod_inner_25 (by omega) (fun c22 => ?_) (fun c22 => ?_)
    · skip
      have hno : ¬ (ratI (P 4) (k : Int) = b ∧ ratI (P 3) (k : Int) = nm) := fun z => c22 (by rw [z.1, hab])
      refine us_iconst dMod_inner_43 ?_
      refine us_isub dMod_inner_44 ?_
      refine us_istore_4 dMod_inner_45 rfl (Nat.le_of_ble_eq_true rfl) ?_
      refine us_iload dMod_inner_47 rfl ?_
      refine us_if_ne dMod_inner_49 (by omega) (fun c23 => ?_) (fun c23 => absurd c23 (by omega))
      refine us_iinc_5 dMod_inner_55 rfl (Nat.le_of_ble_eq_true rfl) ?_
      refine us_goto dMod_inner_58 ?_
      rw [show (k : Int) + 1 = ((k + 1 : Nat) : Int) by omega]
      unfold p_biF at hQ
      rw [if_neg hno] at hQ
      exact ih (k + 1) (left - 0) met (by omega) (by omega) (by omega) hQ
    · skip
      have hq4 : ratI (P 4) (k : Int) = b := m5_inj x2 hb.1 (by rw [← hab]; assumption)
      refine us_aload_n dMod_inner_28 rfl ?_
      refine us_iload dMod_inner_29 rfl ?_
      refine us_iconst dMod_inner_31 ?_
      refine us_v2 mMod_box dMod_inner_32 kV_Mod_97 md_obj ⟨by decide, rfl, rfl, (Nat.le_of_ble_eq_true rfl), (Nat.le_of_ble_eq_true rfl)⟩ (Nat.le_of_ble_eq_true rfl) (Nat.le_of_ble_eq_true rfl) rfl ?_
      refine c_Mod_box (13 * k) (by omega) (by omega) ?_
      rw [y1]
      refine u_ko_1 ?_
      refine us_iload_n dMod_inner_35 rfl ?_
      refine us_icmp_ne dMod_inner_36 (by omega) (fun c24 => ?_) (fun c24 => ?_)
      · skip
        have hno : ¬ (ratI (P 4) (k : Int) = b ∧ ratI (P 3) (k : Int) = nm) := fun z => absurd z.2 (by assumption)
        refine us_iconst dMod_inner_43 ?_
        refine us_isub dMod_inner_44 ?_
        refine us_istore_4 dMod_inner_45 rfl (Nat.le_of_ble_eq_true rfl) ?_
        refine us_iload dMod_inner_47 rfl ?_
        refine us_if_ne dMod_inner_49 (by omega) (fun c25 => ?_) (fun c25 => absurd c25 (by omega))
        refine us_iinc_5 dMod_inner_55 rfl (Nat.le_of_ble_eq_true rfl) ?_
        refine us_goto dMod_inner_58 ?_
        rw [show (k : Int) + 1 = ((k + 1 : Nat) : Int) by omega]
        unfold p_biF at hQ
        rw [if_neg hno] at hQ
        exact ih (k + 1) (left - 0) met (by omega) (by omega) (by omega) hQ
      · skip
        have hq3 : ratI (P 3) (k : Int) = nm := by assumption
        refine us_iconst dMod_inner_39 ?_
        refine us_goto dMod_inner_40 ?_
        refine us_isub dMod_inner_44 ?_
        refine us_istore_4 dMod_inner_45 rfl (Nat.le_of_ble_eq_true rfl) ?_
        refine us_iload dMod_inner_47 rfl ?_
        refine us_if_ne dMod_inner_49 (by omega) (fun c26 => ?_) (fun c26 => ?_)
        · skip
          refine us_iinc_5 dMod_inner_55 rfl (Nat.le_of_ble_eq_true rfl) ?_
          refine us_goto dMod_inner_58 ?_
          rw [show (k : Int) + 1 = ((k + 1 : Nat) : Int) by omega]
          unfold p_biF at hQ
          rw [if_pos ⟨hq4, hq3⟩, if_neg (by omega)] at hQ
          exact ih (k + 1) (left - 1) (met + 1) (by omega) (by omega) (by omega) hQ
        · skip
          refine us_iload dMod_inner_52 rfl ?_
          refine us_ireturn dMod_inner_54 rfl (Nat.le_of_ble_eq_true rfl) (Nat.le_of_ble_eq_true rfl) ?_
          unfold p_biF at hQ
          rw [if_pos ⟨hq4, hq3⟩, if_pos (by omega)] at hQ
          exact hQ

theorem c_Mod_inner {h : uHp} {y : Nat} {S : uMS} {P : uPg} {b nm num ar : Int} {Q : uPs} (hm : S.1 12 = ((P 3).length : Int)) (h39 : (P 3).length ≤ 39) (hc : ∀ k : Nat, k < (P 3).length → (S.2 11 (13 * k + 2) = m5 (ratI (P 4) (k : Int)) ∧ -1 ≤ ratI (P 4) (k : Int) ∧ ratI (P 4) (k : Int) < 100) ∧ S.2 11 (13 * k) = ratI (P 3) (k : Int) ∧ 0 ≤ ratI (P 3) (k : Int) ∧ ratI (P 3) (k : Int) ≤ 5) (hb : -1 ≤ b ∧ b < 100) (hab : ar = m5 b) (hn : 0 ≤ nm ∧ nm ≤ 5) (hnum : 1 ≤ num ∧ num ≤ 9) (hQ : Q (some (ui (p_bi P b nm num))) (u_mod h y S)) : uW mMod_inner 0 [.ref y, ui ar, ui nm, ui num, .null, .null] [] (u_mod h y S) 0 0 Q := by
  refine us_iload_n dMod_inner_0 rfl ?_
  refine us_istore_4 dMod_inner_1 rfl (Nat.le_of_ble_eq_true rfl) ?_
  refine us_iconst dMod_inner_3 ?_
  refine us_istore_5 dMod_inner_4 rfl (Nat.le_of_ble_eq_true rfl) ?_
  exact c_Mod_inner_6 hm h39 hc hb hab hn (P 3).length 0 num 0 rfl (by omega) hnum hQ

theorem c_Mod_parts_106 {h : uHp} {y a : Nat} {S : uMS} {X : List Int} {l : Int} {z3 : Int} {Q : uPs} (t1 : S.1 28 = (X.length : Int)) (t2 : X.length ≤ 100) (t3 : ∀ q, q < X.length → S.2 29 q = ratI X (q : Int)) (t4 : ∀ q : Nat, 0 ≤ ratI X (q : Int) ∧ ratI X (q : Int) ≤ 65535) (ha : a ≤ X.length) (hK : a < X.length → ratI X (a : Int) = 47 → uW mMod_partsOfText 6 [.ref y, ui ((a + 1 : Nat) : Int), ui (l + 1), ui 1] [] (u_mod h y S) 0 0 Q) (hF : a < X.length → ratI X (a : Int) ≠ 47 → Q (some (ui (-100 - (a : Int)))) (u_mod h y S)) (hE : a = X.length → Q (some (ui (l + 1))) (u_mod h y S)) : uW mMod_partsOfText 106 [.ref y, ui (a : Int), ui l, ui z3] [] (u_mod h y S) 0 0 Q := by
  have t5 := t4 a
  refine us_iinc_2 dMod_partsOfText_106 rfl (Nat.le_of_ble_eq_true rfl) ?_
  refine us_iload_n dMod_partsOfText_109 rfl ?_
  refine us_aload_n dMod_partsOfText_110 rfl ?_
  refine us_getf 9 28 dMod_partsOfText_111 kF_Mod_140 md_obj rfl ?_
  rw [t1]
  refine us_icmp_ge dMod_partsOfText_114 (by omega) (fun c11 => ?_) (fun c11 => ?_)
  · skip
    refine us_iconst dMod_partsOfText_121 ?_
    refine us_istore_3 dMod_partsOfText_122 rfl (Nat.le_of_ble_eq_true rfl) ?_
    refine us_iload_n dMod_partsOfText_123 rfl ?_
    refine us_if_eq dMod_partsOfText_124 (by decide) (fun c12 => ?_) (fun c12 => absurd rfl c12)
    refine us_iload_n dMod_partsOfText_143 rfl ?_
    refine us_iload_n dMod_partsOfText_144 rfl ?_
    refine us_if_eq dMod_partsOfText_145 (by decide) (fun c13 => ?_) (fun c13 => absurd rfl c13)
    refine us_iconst dMod_partsOfText_152 ?_
    refine us_iadd dMod_partsOfText_153 ?_
    refine us_istore_1 dMod_partsOfText_154 rfl (Nat.le_of_ble_eq_true rfl) ?_
    refine us_goto dMod_partsOfText_155 ?_
    refine us_iload_n dMod_partsOfText_6 rfl ?_
    refine us_if_eq dMod_partsOfText_7 (by decide) (fun c14 => ?_) (fun c14 => absurd rfl c14)
    refine us_iload_n dMod_partsOfText_158 rfl ?_
    refine us_ireturn dMod_partsOfText_159 rfl (Nat.le_of_ble_eq_true rfl) (Nat.le_of_ble_eq_true rfl) ?_
    exact hE (by omega)
  · skip
    refine us_iconst dMod_partsOfText_117 ?_
    refine us_goto dMod_partsOfText_118 ?_
    refine us_istore_3 dMod_partsOfText_122 rfl (Nat.le_of_ble_eq_true rfl) ?_
    refine us_iload_n dMod_partsOfText_123 rfl ?_
    refine us_if_eq dMod_partsOfText_124 (by decide) (fun c15 => absurd c15 (by decide)) (fun c15 => ?_)
    refine us_aload_n dMod_partsOfText_127 rfl ?_
    refine us_getf 9 29 dMod_partsOfText_128 kF_Mod_61 md_obj rfl ?_
    refine us_iload_n dMod_partsOfText_131 rfl ?_
    refine us_cald a dMod_partsOfText_132 md_a18 rfl (by omega) (by omega) (congrArg ui (t3 a (by omega))) ?_
    refine us_bipush dMod_partsOfText_133 (by decide) ?_
    refine us_icmp_eq dMod_partsOfText_135 (by omega) (fun c16 => ?_) (fun c16 => ?_)
    · skip
      refine us_iload_n dMod_partsOfText_143 rfl ?_
      refine us_iload_n dMod_partsOfText_144 rfl ?_
      refine us_if_eq dMod_partsOfText_145 (by decide) (fun c17 => absurd c17 (by decide)) (fun c17 => ?_)
      refine us_iconst dMod_partsOfText_148 ?_
      refine us_goto dMod_partsOfText_149 ?_
      refine us_iadd dMod_partsOfText_153 ?_
      refine us_istore_1 dMod_partsOfText_154 rfl (Nat.le_of_ble_eq_true rfl) ?_
      refine us_goto dMod_partsOfText_155 ?_
      rw [show (a : Int) + 1 = ((a + 1 : Nat) : Int) by omega]
      exact hK (by omega) (by omega)
    · skip
      refine us_bipush dMod_partsOfText_138 (by decide) ?_
      refine us_iload_n dMod_partsOfText_140 rfl ?_
      refine us_isub dMod_partsOfText_141 ?_
      refine us_ireturn dMod_partsOfText_142 rfl (Nat.le_of_ble_eq_true rfl) (Nat.le_of_ble_eq_true rfl) ?_
      exact hF (by omega) (by assumption)

/-- the parts that were read -/
def rPt (S : uMS) (N M : List Int) : Prop := N.length = M.length ∧ ∀ k, k < N.length → (S.2 30 k = ratI N (k : Int) ∧ 0 ≤ ratI N (k : Int) ∧ ratI N (k : Int) ≤ 5) ∧ S.2 31 k = ratI M (k : Int) ∧ 1 ≤ ratI M (k : Int) ∧ ratI M (k : Int) ≤ 9
theorem rPt.app {S S' : uMS} {N M : List Int} {x z : Int} (h : rPt S N M) (hx : 0 ≤ x ∧ x ≤ 5) (hz : 1 ≤ z ∧ z ≤ 9) (e1 : ∀ k, k < N.length → S'.2 30 k = S.2 30 k ∧ S'.2 31 k = S.2 31 k) (e2 : S'.2 30 N.length = x ∧ S'.2 31 N.length = z) : rPt S' (N ++ [x]) (M ++ [z]) := by
  obtain ⟨h1, h2⟩ := h
  refine ⟨by rw [List.length_append, List.length_append, h1]; rfl, fun k hk => ?_⟩
  rw [List.length_append] at hk
  have hk : k < N.length + 1 := hk
  rw [ratI_app (xs := N) k hk, ratI_app (xs := M) k (by omega)]
  by_cases hq : k = N.length
  · rw [if_pos hq, if_pos (by omega), hq]
    exact ⟨⟨e2.1, hx⟩, e2.2, hz⟩
  · rw [if_neg hq, if_neg (by omega), (e1 k (by omega)).1, (e1 k (by omega)).2]
    exact h2 k (by omega)
theorem tV_ok {X : List Int} {n a : Nat} {T : uT} (h : t_ok T (ratI X (a : Int)) = true) : t_rfV X (n + 1) a T = t_rfV X n (a + 1) (t_tk T (ratI X (a : Int))) ∧ t_rfT X (n + 1) a T = t_rfT X n (a + 1) (t_tk T (ratI X (a : Int))) := ⟨if_pos h, if_pos h⟩
theorem tV_no {X : List Int} {n a : Nat} {T : uT} (h : t_ok T (ratI X (a : Int)) = false) : t_rfV X (n + 1) a T = (a : Int) := if_neg (by rw [h]; decide)
theorem tV_0 {X N M : List Int} {n a : Nat} (hn : n + 1 + a = X.length) (h : 97 ≤ ratI X (a : Int) ∧ ratI X (a : Int) ≤ 102) (hN : N.length < 100) (hM : M.length < 100) : t_rfV X (n + 1) a (N, M, 0) = t_rfV X n (a + 1) (N ++ [ratI X (a : Int) - 97], M ++ [1], 1) ∧ t_rfT X (n + 1) a (N, M, 0) = t_rfT X n (a + 1) (N ++ [ratI X (a : Int) - 97], M ++ [1], 1) := by
  have hnl : is_nl (ratI X (a : Int)) = true := decide_eq_true h
  have hok : t_ok (N, M, 0) (ratI X (a : Int)) = true := by unfold t_ok; rw [hnl]; rfl
  have htk : t_tk (N, M, 0) (ratI X (a : Int)) = (N ++ [ratI X (a : Int) - 97], M ++ [1], 1) := by
    unfold t_tk
    rw [if_pos ⟨rfl, hnl⟩, show appI 100 N (ratI X (a : Int) - 97) = N ++ [ratI X (a : Int) - 97] from if_pos hN, show appI 100 M 1 = M ++ [1] from if_pos hM]
  have e := tV_ok (n := n) hok
  rw [htk] at e
  exact e
theorem tV_0f {X N M : List Int} {n a : Nat} (h : ¬ (97 ≤ ratI X (a : Int) ∧ ratI X (a : Int) ≤ 102)) : t_rfV X (n + 1) a (N, M, 0) = (a : Int) := by
  have hnl : is_nl (ratI X (a : Int)) = false := decide_eq_false h
  have hok : t_ok (N, M, 0) (ratI X (a : Int)) = false := by unfold t_ok; rw [hnl]; rfl
  exact tV_no hok
theorem tV_d {X N M : List Int} {n a : Nat} {z : Int} (h : 49 ≤ ratI X (a : Int) ∧ ratI X (a : Int) ≤ 57) : t_rfV X (n + 1) a (N, M ++ [z], 1) = t_rfV X n (a + 1) (N, M ++ [ratI X (a : Int) - 48], 2) ∧ t_rfT X (n + 1) a (N, M ++ [z], 1) = t_rfT X n (a + 1) (N, M ++ [ratI X (a : Int) - 48], 2) := by
  have hok : t_ok (N, M ++ [z], 1) (ratI X (a : Int)) = true := by
    unfold t_ok
    rw [show decide (49 ≤ ratI X (a : Int) ∧ ratI X (a : Int) ≤ 57) = true from decide_eq_true h]
    rfl
  have hp : putI (M ++ [z]) (((M ++ [z]).length : Int) - 1) (ratI X (a : Int) - 48) = M ++ [ratI X (a : Int) - 48] := by
    unfold putI
    rw [if_pos (by simp), List.length_append, show (((M.length + [z].length : Nat) : Int) - 1).toNat = M.length by simp, List.set_append_right _ _ (Nat.le_refl _), Nat.sub_self]
    rfl
  have htk : t_tk (N, M ++ [z], 1) (ratI X (a : Int)) = (N, M ++ [ratI X (a : Int) - 48], 2) := by
    unfold t_tk
    rw [if_neg (fun x => absurd (show (1 : Int) = 0 from x.1) (by decide)), if_pos ⟨rfl, h⟩]
    show (N, putI (M ++ [z]) (((M ++ [z]).length : Int) - 1) (ratI X (a : Int) - 48), (2 : Int)) = _
    rw [hp]
  have e := tV_ok (n := n) hok
  rw [htk] at e
  exact e
theorem tV_s {X N M : List Int} {n a : Nat} {m : Int} (hm : m = 1 ∨ m = 2) (h : ratI X (a : Int) = 47) : t_rfV X (n + 1) a (N, M, m) = t_rfV X n (a + 1) (N, M, 0) ∧ t_rfT X (n + 1) a (N, M, m) = t_rfT X n (a + 1) (N, M, 0) := by
  have hok : t_ok (N, M, m) (ratI X (a : Int)) = true := by
    unfold t_ok
    rw [show decide ((N, M, m).2.2 ≠ 0) = true from decide_eq_true (by show m ≠ 0; omega), show decide (ratI X (a : Int) = 47) = true from decide_eq_true h]
    exact Bool.or_true _
  have htk : t_tk (N, M, m) (ratI X (a : Int)) = (N, M, 0) := by
    unfold t_tk
    rw [if_neg (fun x => by have : m = 0 := x.1; omega), if_neg (fun x => by omega), if_pos ⟨by show m ≠ 0; omega, h⟩]
  have e := tV_ok (n := n) hok
  rw [htk] at e
  exact e
theorem tV_f {X N M : List Int} {n a : Nat} {m : Int} (hm : m = 2 ∨ (m = 1 ∧ ¬ (49 ≤ ratI X (a : Int) ∧ ratI X (a : Int) ≤ 57))) (h : ratI X (a : Int) ≠ 47) : t_rfV X (n + 1) a (N, M, m) = (a : Int) := by
  have hok : t_ok (N, M, m) (ratI X (a : Int)) = false := by
    unfold t_ok
    rw [show decide (ratI X (a : Int) = 47) = false from decide_eq_false h, show decide ((N, M, m).2.2 = 0) = false from decide_eq_false (by show ¬ m = 0; omega)]
    rcases hm with rfl | ⟨rfl, hd⟩
    · rfl
    · rw [show decide (49 ≤ ratI X (a : Int) ∧ ratI X (a : Int) ≤ 57) = false from decide_eq_false hd]; rfl
  exact tV_no hok
theorem c_Mod_parts_6 {h : uHp} {y : Nat} {X : List Int} {F : Int} {T : uT} {Q : uPs} (t2 : X.length ≤ 100) (t4 : ∀ q : Nat, 0 ≤ ratI X (q : Int) ∧ ratI X (q : Int) ≤ 65535) : ∀ (n0 a : Nat) (N M : List Int) (S : uMS), n0 + a = X.length → rPt S N M → N.length ≤ a → S.1 28 = (X.length : Int) → (∀ q, q < X.length → S.2 29 q = ratI X (q : Int)) → t_rfV X n0 a (N, M, 0) = F → t_rfT X n0 a (N, M, 0) = T →
    (∀ S' : uMS, (S'.1 = S.1 ∧ ∀ f, f ≠ 30 → f ≠ 31 → S'.2 f = S.2 f) → F ≠ -1 → Q (some (ui (-100 - F))) (u_mod h y S')) → (∀ S' : uMS, (S'.1 = S.1 ∧ ∀ f, f ≠ 30 → f ≠ 31 → S'.2 f = S.2 f) → (F = -1 ∧ rPt S' T.1 T.2.1 ∧ 0 < T.1.length) → Q (some (ui (T.1.length : Int))) (u_mod h y S')) →
    uW mMod_partsOfText 6 [.ref y, ui (a : Int), ui (N.length : Int), ui 1] [] (u_mod h y S) 0 0 Q := by
  intro n0
  induction n0 using Nat.strongRecOn with
  | ind n0 ih =>
    intro a N M S hn hpt hNa t1 t3 hV hT hF hG
    have hMl := hpt.1
    refine us_iload_n dMod_partsOfText_6 rfl ?_
    refine us_if_eq dMod_partsOfText_7 (by decide) (fun c21 => absurd c21 (by decide)) (fun c21 => ?_)
    refine us_iload_n dMod_partsOfText_10 rfl ?_
    refine us_aload_n dMod_partsOfText_11 rfl ?_
    refine us_getf 9 28 dMod_partsOfText_12 kF_Mod_140 md_obj rfl ?_
    rw [t1]
    refine us_icmp_eq dMod_partsOfText_15 (by omega) (fun c22 => ?_) (fun c22 => ?_)
    · skip
      have ha : a = X.length := by omega
      refine us_bipush dMod_partsOfText_34 (by decide) ?_
      refine us_iload_n dMod_partsOfText_36 rfl ?_
      refine us_isub dMod_partsOfText_37 ?_
      refine us_ireturn dMod_partsOfText_38 rfl (Nat.le_of_ble_eq_true rfl) (Nat.le_of_ble_eq_true rfl) ?_
      rw [show n0 = 0 by omega] at hV
      have hV2 : (X.length : Int) = F := (if_pos rfl).symm.trans hV
      have := hF S ⟨rfl, fun _ _ _ => rfl⟩ (by omega)
      rw [← hV2] at this
      rw [ha]
      exact this
    · skip
      have ha : a < X.length := by omega
      obtain ⟨n, rfl⟩ : ∃ n9, n0 = n9 + 1 := ⟨n0 - 1, by omega⟩
      have t5 := t4 a
      refine us_aload_n dMod_partsOfText_18 rfl ?_
      refine us_getf 9 29 dMod_partsOfText_19 kF_Mod_61 md_obj rfl ?_
      refine us_iload_n dMod_partsOfText_22 rfl ?_
      refine us_cald a dMod_partsOfText_23 md_a18 rfl (by omega) (by omega) (congrArg ui (t3 a (by omega))) ?_
      refine us_bipush dMod_partsOfText_24 (by decide) ?_
      refine us_bipush dMod_partsOfText_26 (by decide) ?_
      refine us_s3 mMod_in dMod_partsOfText_28 kS_Mod_71 ⟨by decide, rfl, rfl, (Nat.le_of_ble_eq_true rfl), (Nat.le_of_ble_eq_true rfl)⟩ (Nat.le_of_ble_eq_true rfl) (Nat.le_of_ble_eq_true rfl) rfl ?_
      refine c_Mod_in (by omega) ?_
      refine u_ko_1 ?_
      refine us_ifb_ne dMod_partsOfText_31 (fun c23 => ?_) (fun c23 => ?_)
      · skip
        have hnl : 97 ≤ ratI X (a : Int) ∧ ratI X (a : Int) ≤ 102 := of_decide_eq_true (by assumption)
        refine us_aload_n dMod_partsOfText_39 rfl ?_
        refine us_getf 9 30 dMod_partsOfText_40 kF_Mod_65 md_obj rfl ?_
        refine us_iload_n dMod_partsOfText_43 rfl ?_
        refine us_aload_n dMod_partsOfText_44 rfl ?_
        refine us_getf 9 29 dMod_partsOfText_45 kF_Mod_61 md_obj rfl ?_
        refine us_iload_n dMod_partsOfText_48 rfl ?_
        refine us_cald a dMod_partsOfText_49 md_a18 rfl (by omega) (by omega) (congrArg ui (t3 a (by omega))) ?_
        refine us_bipush dMod_partsOfText_50 (by decide) ?_
        refine us_isub dMod_partsOfText_52 ?_
        refine ms_iast 19 30 (N.length) dMod_partsOfText_53 ⟨by decide, by decide, rfl, rfl⟩ rfl (show _ < 100 from (by omega)) ?_
        refine us_iinc_1 dMod_partsOfText_54 rfl (Nat.le_of_ble_eq_true rfl) ?_
        refine us_aload_n dMod_partsOfText_57 rfl ?_
        refine us_getf 9 31 dMod_partsOfText_58 kF_Mod_68 md_obj rfl ?_
        refine us_iload_n dMod_partsOfText_61 rfl ?_
        refine us_iconst dMod_partsOfText_62 ?_
        refine ms_iast 20 31 (N.length) dMod_partsOfText_63 ⟨by decide, by decide, rfl, rfl⟩ rfl (show _ < 100 from (by omega)) ?_
        refine us_iload_n dMod_partsOfText_64 rfl ?_
        refine us_aload_n dMod_partsOfText_65 rfl ?_
        refine us_getf 9 28 dMod_partsOfText_66 kF_Mod_140 md_obj rfl ?_
        rw [show (mA (mA S 30 N.length (ratI X (a : Int) - 97)) 31 N.length 1).1 28 = (X.length : Int) from t1]
        refine us_icmp_ge dMod_partsOfText_69 (by omega) (fun c24 => ?_) (fun c24 => ?_)
        · skip
          have hfr : (mA (mA S 30 N.length (ratI X (a : Int) - 97)) 31 N.length 1).1 = S.1 ∧ ∀ f, f ≠ 30 → f ≠ 31 → (mA (mA S 30 N.length (ratI X (a : Int) - 97)) 31 N.length 1).2 f = S.2 f := ⟨rfl, fun f f1 f2 => by funext q; rw [mA_ne f2, mA_ne f1]⟩
          have hpt2 : rPt (mA (mA S 30 N.length (ratI X (a : Int) - 97)) 31 N.length 1) (N ++ [ratI X (a : Int) - 97]) (M ++ [1]) := hpt.app (by omega) (by omega) (fun k hk => ⟨?_, ?_⟩) ⟨?_, ?_⟩
          rotate_left
          · rw [mA_ne (by decide), mA_2, if_neg (by omega)]
          · rw [mA_2, if_neg (by omega), mA_ne (by decide)]
          · rw [mA_ne (by decide), mA_2, if_pos ⟨rfl, rfl⟩]
          · rw [mA_2, if_pos ⟨rfl, rfl⟩]
          have hv0 := tV_0 (N := N) (M := M) (n := n) (by omega) hnl (by omega) (by omega)
          rw [hv0.1] at hV
          rw [hv0.2] at hT
          rw [show (a : Int) + 1 = ((a + 1 : Nat) : Int) by omega]
          have hl9 : ((N ++ [ratI X (a : Int) - 97]).length : Int) = (N.length : Int) + 1 := by rw [List.length_append]; rfl
          refine c_Mod_parts_106 (X := X) ?_ t2 ?_ t4 (by omega) (fun e1 e2 => ?_) (fun e1 e2 => ?_) (fun e1 => ?_)
          · rw [hfr.1]; exact t1
          · rw [hfr.2 29 (by decide) (by decide)]; exact t3
          · exact absurd e1 (by omega)
          · exact absurd e1 (by omega)
          · have hn0 : n = 0 := by omega
            rw [hn0] at hV hT
            have hV2 : F = -1 := hV.symm.trans (if_neg (show ¬ (1 : Int) = 0 by decide))
            have hT2 : T = (N ++ [ratI X (a : Int) - 97], M ++ [1], 1) := hT.symm
            rw [← hl9]
            subst hT2
            exact hG _ hfr ⟨hV2, hpt2, by rw [List.length_append]; exact Nat.succ_pos _⟩
        · skip
          have t6 := t4 (a + 1)
          refine us_aload_n dMod_partsOfText_72 rfl ?_
          refine us_getf 9 29 dMod_partsOfText_73 kF_Mod_61 md_obj rfl ?_
          refine us_iload_n dMod_partsOfText_76 rfl ?_
          refine us_cald (a + 1) dMod_partsOfText_77 md_a18 (by omega) (by omega) (by omega) (show ui (S.2 29 (a + 1)) = ui (ratI X ((a + 1 : Nat) : Int)) from congrArg ui (t3 (a + 1) (by omega))) ?_
          refine us_bipush dMod_partsOfText_78 (by decide) ?_
          refine us_bipush dMod_partsOfText_80 (by decide) ?_
          refine us_s3 mMod_in dMod_partsOfText_82 kS_Mod_71 ⟨by decide, rfl, rfl, (Nat.le_of_ble_eq_true rfl), (Nat.le_of_ble_eq_true rfl)⟩ (Nat.le_of_ble_eq_true rfl) (Nat.le_of_ble_eq_true rfl) rfl ?_
          refine c_Mod_in (by omega) ?_
          refine u_ko_1 ?_
          refine us_ifb_eq dMod_partsOfText_85 (fun c25 => ?_) (fun c25 => ?_)
          · skip
            have hdg : ¬ (49 ≤ ratI X ((a + 1 : Nat) : Int) ∧ ratI X ((a + 1 : Nat) : Int) ≤ 57) := of_decide_eq_false (by assumption)
            have hfr : (mA (mA S 30 N.length (ratI X (a : Int) - 97)) 31 N.length 1).1 = S.1 ∧ ∀ f, f ≠ 30 → f ≠ 31 → (mA (mA S 30 N.length (ratI X (a : Int) - 97)) 31 N.length 1).2 f = S.2 f := ⟨rfl, fun f f1 f2 => by funext q; rw [mA_ne f2, mA_ne f1]⟩
            have hpt2 : rPt (mA (mA S 30 N.length (ratI X (a : Int) - 97)) 31 N.length 1) (N ++ [ratI X (a : Int) - 97]) (M ++ [1]) := hpt.app (by omega) (by omega) (fun k hk => ⟨?_, ?_⟩) ⟨?_, ?_⟩
            rotate_left
            · rw [mA_ne (by decide), mA_2, if_neg (by omega)]
            · rw [mA_2, if_neg (by omega), mA_ne (by decide)]
            · rw [mA_ne (by decide), mA_2, if_pos ⟨rfl, rfl⟩]
            · rw [mA_2, if_pos ⟨rfl, rfl⟩]
            have hv0 := tV_0 (N := N) (M := M) (n := n) (by omega) hnl (by omega) (by omega)
            rw [hv0.1] at hV
            rw [hv0.2] at hT
            rw [show (a : Int) + 1 = ((a + 1 : Nat) : Int) by omega]
            have hl9 : ((N ++ [ratI X (a : Int) - 97]).length : Int) = (N.length : Int) + 1 := by rw [List.length_append]; rfl
            refine c_Mod_parts_106 (X := X) ?_ t2 ?_ t4 (by omega) (fun e1 e2 => ?_) (fun e1 e2 => ?_) (fun e1 => ?_)
            · rw [hfr.1]; exact t1
            · rw [hfr.2 29 (by decide) (by decide)]; exact t3
            · obtain ⟨n3, rfl⟩ : ∃ n3, n = n3 + 1 := ⟨n - 1, by omega⟩
              have hvs := tV_s (N := N ++ [ratI X (a : Int) - 97]) (M := M ++ [1]) (n := n3) (Or.inl rfl) e2
              rw [hvs.1] at hV
              rw [hvs.2] at hT
              rw [← hl9]
              exact ih n3 (by omega) (a + 1 + 1) _ _ _ (by omega) hpt2 (by rw [List.length_append]; show N.length + 1 ≤ _; omega) (by rw [hfr.1]; exact t1) (by rw [hfr.2 29 (by decide) (by decide)]; exact t3) hV hT (fun S2 f1 f2 => hF S2 ⟨f1.1.trans hfr.1, fun f x1 x2 => (f1.2 f x1 x2).trans (hfr.2 f x1 x2)⟩ f2) (fun S2 f1 f2 => hG S2 ⟨f1.1.trans hfr.1, fun f x1 x2 => (f1.2 f x1 x2).trans (hfr.2 f x1 x2)⟩ f2)
            · obtain ⟨n3, rfl⟩ : ∃ n3, n = n3 + 1 := ⟨n - 1, by omega⟩
              have hvf := tV_f (N := N ++ [ratI X (a : Int) - 97]) (M := M ++ [1]) (n := n3) (Or.inr ⟨rfl, hdg⟩) e2
              rw [hvf] at hV
              have := hF _ hfr (by omega)
              rw [← hV] at this
              exact this
            · have hn0 : n = 0 := by omega
              rw [hn0] at hV hT
              have hV2 : F = -1 := hV.symm.trans (if_neg (show ¬ (1 : Int) = 0 by decide))
              have hT2 : T = (N ++ [ratI X (a : Int) - 97], M ++ [1], 1) := hT.symm
              rw [← hl9]
              subst hT2
              exact hG _ hfr ⟨hV2, hpt2, by rw [List.length_append]; exact Nat.succ_pos _⟩
          · skip
            have hdg : 49 ≤ ratI X ((a + 1 : Nat) : Int) ∧ ratI X ((a + 1 : Nat) : Int) ≤ 57 := of_decide_eq_true (by assumption)
            refine us_aload_n dMod_partsOfText_88 rfl ?_
            refine us_getf 9 31 dMod_partsOfText_89 kF_Mod_68 md_obj rfl ?_
            refine us_iload_n dMod_partsOfText_92 rfl ?_
            refine us_aload_n dMod_partsOfText_93 rfl ?_
            refine us_getf 9 29 dMod_partsOfText_94 kF_Mod_61 md_obj rfl ?_
            refine us_iload_n dMod_partsOfText_97 rfl ?_
            refine us_cald (a + 1) dMod_partsOfText_98 md_a18 (by omega) (by omega) (by omega) (show ui (S.2 29 (a + 1)) = ui (ratI X ((a + 1 : Nat) : Int)) from congrArg ui (t3 (a + 1) (by omega))) ?_
            refine us_bipush dMod_partsOfText_99 (by decide) ?_
            refine us_isub dMod_partsOfText_101 ?_
            refine ms_iast 20 31 (N.length) dMod_partsOfText_102 ⟨by decide, by decide, rfl, rfl⟩ rfl (show _ < 100 from (by omega)) ?_
            refine us_iinc_1 dMod_partsOfText_103 rfl (Nat.le_of_ble_eq_true rfl) ?_
            have hfr : (mA (mA (mA S 30 N.length (ratI X (a : Int) - 97)) 31 N.length 1) 31 N.length (ratI X ((a + 1 : Nat) : Int) - 48)).1 = S.1 ∧ ∀ f, f ≠ 30 → f ≠ 31 → (mA (mA (mA S 30 N.length (ratI X (a : Int) - 97)) 31 N.length 1) 31 N.length (ratI X ((a + 1 : Nat) : Int) - 48)).2 f = S.2 f := ⟨rfl, fun f f1 f2 => by funext q; rw [mA_ne f2, mA_ne f2, mA_ne f1]⟩
            have hpt2 : rPt (mA (mA (mA S 30 N.length (ratI X (a : Int) - 97)) 31 N.length 1) 31 N.length (ratI X ((a + 1 : Nat) : Int) - 48)) (N ++ [ratI X (a : Int) - 97]) (M ++ [ratI X ((a + 1 : Nat) : Int) - 48]) := hpt.app (by omega) (by omega) (fun k hk => ⟨?_, ?_⟩) ⟨?_, ?_⟩
            rotate_left
            · rw [mA_ne (by decide), mA_ne (by decide), mA_2, if_neg (by omega)]
            · rw [mA_2, if_neg (by omega), mA_2, if_neg (by omega), mA_ne (by decide)]
            · rw [mA_ne (by decide), mA_ne (by decide), mA_2, if_pos ⟨rfl, rfl⟩]
            · rw [mA_2, if_pos ⟨rfl, rfl⟩]
            have hv0 := tV_0 (N := N) (M := M) (n := n) (by omega) hnl (by omega) (by omega)
            rw [hv0.1] at hV
            rw [hv0.2] at hT
            obtain ⟨n2, rfl⟩ : ∃ n2, n = n2 + 1 := ⟨n - 1, by omega⟩
            have hvd := tV_d (N := N ++ [ratI X (a : Int) - 97]) (M := M) (n := n2) (z := 1) hdg
            rw [hvd.1] at hV
            rw [hvd.2] at hT
            rw [show (a : Int) + 1 + 1 = ((a + 2 : Nat) : Int) by omega]
            have hl9 : ((N ++ [ratI X (a : Int) - 97]).length : Int) = (N.length : Int) + 1 := by rw [List.length_append]; rfl
            refine c_Mod_parts_106 (X := X) ?_ t2 ?_ t4 (by omega) (fun e1 e2 => ?_) (fun e1 e2 => ?_) (fun e1 => ?_)
            · rw [hfr.1]; exact t1
            · rw [hfr.2 29 (by decide) (by decide)]; exact t3
            · obtain ⟨n3, rfl⟩ : ∃ n3, n2 = n3 + 1 := ⟨n2 - 1, by omega⟩
              have hvs := tV_s (N := N ++ [ratI X (a : Int) - 97]) (M := M ++ [ratI X ((a + 1 : Nat) : Int) - 48]) (n := n3) (Or.inr rfl) e2
              rw [hvs.1] at hV
              rw [hvs.2] at hT
              rw [← hl9]
              exact ih n3 (by omega) (a + 2 + 1) _ _ _ (by omega) hpt2 (by rw [List.length_append]; show N.length + 1 ≤ _; omega) (by rw [hfr.1]; exact t1) (by rw [hfr.2 29 (by decide) (by decide)]; exact t3) hV hT (fun S2 f1 f2 => hF S2 ⟨f1.1.trans hfr.1, fun f x1 x2 => (f1.2 f x1 x2).trans (hfr.2 f x1 x2)⟩ f2) (fun S2 f1 f2 => hG S2 ⟨f1.1.trans hfr.1, fun f x1 x2 => (f1.2 f x1 x2).trans (hfr.2 f x1 x2)⟩ f2)
            · obtain ⟨n3, rfl⟩ : ∃ n3, n2 = n3 + 1 := ⟨n2 - 1, by omega⟩
              have hvf := tV_f (N := N ++ [ratI X (a : Int) - 97]) (M := M ++ [ratI X ((a + 1 : Nat) : Int) - 48]) (n := n3) (Or.inl rfl) e2
              rw [hvf] at hV
              have := hF _ hfr (by omega)
              rw [← hV] at this
              exact this
            · have hn0 : n2 = 0 := by omega
              rw [hn0] at hV hT
              have hV2 : F = -1 := hV.symm.trans (if_neg (show ¬ (2 : Int) = 0 by decide))
              have hT2 : T = (N ++ [ratI X (a : Int) - 97], M ++ [ratI X ((a + 1 : Nat) : Int) - 48], 2) := hT.symm
              rw [← hl9]
              subst hT2
              exact hG _ hfr ⟨hV2, hpt2, by rw [List.length_append]; exact Nat.succ_pos _⟩
      · skip
        have hnl : ¬ (97 ≤ ratI X (a : Int) ∧ ratI X (a : Int) ≤ 102) := of_decide_eq_false (by assumption)
        refine us_bipush dMod_partsOfText_34 (by decide) ?_
        refine us_iload_n dMod_partsOfText_36 rfl ?_
        refine us_isub dMod_partsOfText_37 ?_
        refine us_ireturn dMod_partsOfText_38 rfl (Nat.le_of_ble_eq_true rfl) (Nat.le_of_ble_eq_true rfl) ?_
        rw [tV_0f hnl] at hV
        have := hF S ⟨rfl, fun _ _ _ => rfl⟩ (by omega)
        rw [← hV] at this
        exact this

theorem c_Mod_parts {h : uHp} {y : Nat} {S : uMS} {X : List Int} {Q : uPs} (t1 : S.1 28 = (X.length : Int)) (t2 : X.length ≤ 100) (t3 : ∀ q, q < X.length → S.2 29 q = ratI X (q : Int)) (t4 : ∀ q : Nat, 0 ≤ ratI X (q : Int) ∧ ratI X (q : Int) ≤ 65535) (hF : ∀ S' : uMS, (S'.1 = S.1 ∧ ∀ f, f ≠ 30 → f ≠ 31 → S'.2 f = S.2 f) → t_fault X ≠ -1 → Q (some (ui (-100 - t_fault X))) (u_mod h y S')) (hG : ∀ S' : uMS, (S'.1 = S.1 ∧ ∀ f, f ≠ 30 → f ≠ 31 → S'.2 f = S.2 f) → (t_fault X = -1 ∧ rPt S' (t_parts X).1 (t_parts X).2.1 ∧ 0 < (t_parts X).1.length) → Q (some (ui ((t_parts X).1.length : Int))) (u_mod h y S')) : uW mMod_partsOfText 0 [.ref y, .null, .null, .null] [] (u_mod h y S) 0 0 Q := by
  refine us_iconst dMod_partsOfText_0 ?_
  refine us_istore_1 dMod_partsOfText_1 rfl (Nat.le_of_ble_eq_true rfl) ?_
  refine us_iconst dMod_partsOfText_2 ?_
  refine us_istore_2 dMod_partsOfText_3 rfl (Nat.le_of_ble_eq_true rfl) ?_
  refine us_iconst dMod_partsOfText_4 ?_
  refine us_istore_3 dMod_partsOfText_5 rfl (Nat.le_of_ble_eq_true rfl) ?_
  exact c_Mod_parts_6 (F := t_fault X) (T := t_parts X) t2 t4 X.length 0 [] [] S (by omega) ⟨rfl, fun k hk => absurd hk (Nat.not_lt_zero _)⟩ (Nat.le_refl _) t1 t3 rfl rfl hF hG

