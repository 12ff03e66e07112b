/-! the reference: path, whole -/
theorem t_rfV_rg (X : List Int) : ∀ (n j : Nat) (T : uT), n + j = X.length → -1 ≤ t_rfV X n j T ∧ t_rfV X n j T ≤ (X.length : Int)
  | 0, j, T, h => by
    unfold t_rfV
    split <;> omega
  | n + 1, j, T, h => by
    unfold t_rfV
    split
    · exact t_rfV_rg X n (j + 1) _ (by omega)
    · omega
theorem t_fault_rng (X : List Int) : -1 ≤ t_fault X ∧ t_fault X ≤ (X.length : Int) := t_rfV_rg X X.length 0 _ rfl
theorem pgE.cells {S : uMS} {P : uPg} (h : pgE S P) : (S.1 12 = ((P 3).length : Int) ∧ (P 3).length ≤ 33 ∧ 0 < (P 3).length) ∧ (∀ b, b < (P 3).length → rBc S P b ∧ uBN (S.2 11) P b) ∧ ∀ b : Nat, 0 < b → b < (P 3).length → 0 ≤ ratI (P 4) (b : Int) := by
  obtain ⟨P', e, ⟨-, -, ⟨hb, hn, hm⟩, -, -, ⟨g1, g2⟩, hl⟩, hT, -, h1, h0⟩ := h
  generalize P 0 = xs at *
  subst e
  exact ⟨⟨hm, by show (P' 3).length ≤ 33; omega, h0⟩, fun b hbb => ⟨hb b hbb, hn b hbb⟩, h1⟩
theorem c_Mod_path_45 {h : uHp} {y : Nat} {S : uMS} {P : uPg} {N M : List Int} {m9 i w : Int} {Q : uPs} (hc : (S.1 12 = ((P 3).length : Int) ∧ (P 3).length ≤ 33 ∧ 0 < (P 3).length) ∧ (∀ b, b < (P 3).length → rBc S P b ∧ uBN (S.2 11) P b) ∧ ∀ b : Nat, 0 < b → b < (P 3).length → 0 ≤ ratI (P 4) (b : Int)) (hpt : rPt S N M) (hN : N.length ≤ 100) : ∀ (n k b : Nat), n + k = N.length → b < (P 3).length → S.2 11 (13 * b + 8) = (k : Int) → (t_bxF P (N, M, m9) n k (b : Int) = -1 → Q (some (ui (-5))) (u_mod h y S)) → (∀ b' : Nat, b' < (P 3).length → t_bxF P (N, M, m9) n k (b : Int) = (b' : Int) → S.2 11 (13 * b' + 8) = (N.length : Int) → uW mMod_path 87 [.ref y, ui i, ui w, ui (N.length : Int), ui (b' : Int), ui (N.length : Int)] [] (u_mod h y S) 0 0 Q) → uW mMod_path 45 [.ref y, ui i, ui w, ui (N.length : Int), ui (b : Int), ui (k : Int)] [] (u_mod h y S) 0 0 Q := by
  intro n
  induction n with
  | zero =>
    intro k b hn hb h8 hF hG
    refine us_iload dMod_path_45 rfl ?_
    refine us_iload_n dMod_path_47 rfl ?_
    refine us_icmp_ge dMod_path_48 (by omega) (fun c11 => ?_) (fun c11 => absurd c11 (by omega))
    have hk9 : k = N.length := by omega
    rw [hk9]
    rw [hk9] at h8
    exact hG b hb rfl h8
  | succ n ih =>
    intro k b hn hb h8 hF hG
    refine us_iload dMod_path_45 rfl ?_
    refine us_iload_n dMod_path_47 rfl ?_
    refine us_icmp_ge dMod_path_48 (by omega) (fun c21 => absurd c21 (by omega)) (fun c21 => ?_)
    refine us_aload_n dMod_path_51 rfl ?_
    refine us_iload dMod_path_52 rfl ?_
    refine us_aload_n dMod_path_54 rfl ?_
    refine us_getf 9 30 dMod_path_55 kF_Mod_65 md_obj rfl ?_
    refine us_iload dMod_path_58 rfl ?_
    refine us_iald k dMod_path_60 md_a19 rfl (by omega) (by omega) (congrArg ui (hpt.2 k (by omega)).1.1) ?_
    refine us_aload_n dMod_path_61 rfl ?_
    refine us_getf 9 31 dMod_path_62 kF_Mod_68 md_obj rfl ?_
    refine us_iload dMod_path_65 rfl ?_
    refine us_iald k dMod_path_67 md_a20 rfl (by omega) (by omega) (congrArg ui (hpt.2 k (by omega)).2.1) ?_
    refine us_v3 mMod_inner dMod_path_68 kV_Mod_213 md_obj ⟨by decide, rfl, rfl, (Nat.le_of_ble_eq_true rfl), (Nat.le_of_ble_eq_true rfl)⟩ (Nat.le_of_ble_eq_true rfl) (Nat.le_of_ble_eq_true rfl) rfl ?_
    refine c_Mod_inner (P := P) (b := (b : Int)) hc.1.1 (by omega) (fun k hk => ⟨⟨(hc.2.1 k hk).1.2.2.1.1, (hc.2.1 k hk).1.2.2.1.2.1, by have := (hc.2.1 k hk).1.2.2.1.2.2; omega⟩, (hc.2.1 k hk).1.1⟩) (by omega) (m5_nat b) (hpt.2 k (by omega)).1.2 (hpt.2 k (by omega)).2.2 ?_
    refine u_ko_1 ?_
    have hbx : t_bxF P (N, M, m9) (n + 1) k (b : Int) = t_bxF P (N, M, m9) n (k + 1) (p_bi P (b : Int) (ratI N (k : Int)) (ratI M (k : Int))) := if_neg (by omega)
    rw [hbx] at hF hG
    rcases p_biF_ok P (b : Int) (ratI N (k : Int)) (ratI M (k : Int)) (P 3).length 0 0 with e | ⟨b2, e1, e2, e3⟩
    · have e : p_bi P (b : Int) (ratI N (k : Int)) (ratI M (k : Int)) = -1 := e
      rw [e] at hF ⊢
      refine us_istore_4 dMod_path_71 rfl (Nat.le_of_ble_eq_true rfl) ?_
      refine us_iload dMod_path_73 rfl ?_
      refine us_if_ge dMod_path_75 (by decide) (fun c31 => absurd c31 (by decide)) (fun c31 => ?_)
      refine us_bipush dMod_path_78 (by decide) ?_
      refine us_ireturn dMod_path_80 rfl (Nat.le_of_ble_eq_true rfl) (Nat.le_of_ble_eq_true rfl) ?_
      exact hF (t_bxF_neg _ _ _ _)
    · have e2 : p_bi P (b : Int) (ratI N (k : Int)) (ratI M (k : Int)) = (b2 : Int) := e2
      rw [e2] at hF hG ⊢
      refine us_istore_4 dMod_path_71 rfl (Nat.le_of_ble_eq_true rfl) ?_
      refine us_iload dMod_path_73 rfl ?_
      refine us_if_ge dMod_path_75 (by omega) (fun c41 => ?_) (fun c41 => absurd c41 (by omega))
      refine us_iinc_5 dMod_path_81 rfl (Nat.le_of_ble_eq_true rfl) ?_
      refine us_goto dMod_path_84 ?_
      rw [show (k : Int) + 1 = ((k + 1 : Nat) : Int) by omega]
      have e1 : b2 < (P 3).length := by omega
      have h82 := (hc.2.1 b2 e1).1.2.2.2.2.2.2.2.2 (by omega)
      rw [e3, show ((b : Nat) : Int).toNat = b from rfl, h8] at h82
      exact ih (k + 1) b2 (by omega) e1 (by rw [h82]; omega) hF hG

theorem c_Mod_path_87 {h : uHp} {y b : Nat} {S : uMS} {P : uPg} {T : uT} {i w v5 : Int} {Q : uPs} (hc : (S.1 12 = ((P 3).length : Int) ∧ (P 3).length ≤ 33 ∧ 0 < (P 3).length) ∧ (∀ b, b < (P 3).length → rBc S P b ∧ uBN (S.2 11) P b) ∧ ∀ b : Nat, 0 < b → b < (P 3).length → 0 ≤ ratI (P 4) (b : Int)) (hb : b < (P 3).length) (h8 : S.2 11 (13 * b + 8) = (T.1.length : Int)) (hw : 0 ≤ w ∧ w ≤ 5) (hQ : Q (some (ui (F_told P T (b : Int) w))) (u_mod h y S)) : uW mMod_path 87 [.ref y, ui i, ui w, ui (T.1.length : Int), ui (b : Int), ui v5] [] (u_mod h y S) 0 0 Q := by
  obtain ⟨⟨b1, b2, b3, b4, b5, b6, b7⟩, bn1, -⟩ := hc.2.1 b hb
  have hw6 : w = 0 ∨ w = 1 ∨ w = 2 ∨ w = 3 ∨ w = 4 ∨ w = 5 := by omega
  rcases hw6 with rfl | rfl | rfl | rfl | rfl | rfl
  · skip
    refine us_iload_n dMod_path_87 rfl ?_
    refine us_if_ne dMod_path_88 (by decide) (fun c61 => absurd rfl c61) (fun c61 => ?_)
    refine us_aload_n dMod_path_91 rfl ?_
    refine us_iload dMod_path_92 rfl ?_
    refine us_iconst dMod_path_94 ?_
    refine us_v2 mMod_box dMod_path_95 kV_Mod_97 md_obj ⟨by decide, rfl, rfl, (Nat.le_of_ble_eq_true rfl), (Nat.le_of_ble_eq_true rfl)⟩ (Nat.le_of_ble_eq_true rfl) (Nat.le_of_ble_eq_true rfl) rfl ?_
    refine c_Mod_box (13 * b + 1) (by omega) (by omega) ?_
    rw [b2.1]
    refine u_ko_1 ?_
    refine us_goto dMod_path_98 ?_
    refine us_ireturn dMod_path_171 rfl (Nat.le_of_ble_eq_true rfl) (Nat.le_of_ble_eq_true rfl) ?_
    exact hQ
  · skip
    refine us_iload_n dMod_path_87 rfl ?_
    refine us_if_ne dMod_path_88 (by decide) (fun c61 => ?_) (fun c61 => absurd c61 (by decide))
    refine us_iload_n dMod_path_101 rfl ?_
    refine us_iconst dMod_path_102 ?_
    refine us_icmp_ne dMod_path_103 (by decide) (fun c62 => absurd rfl c62) (fun c62 => ?_)
    refine us_aload_n dMod_path_106 rfl ?_
    refine us_iload dMod_path_107 rfl ?_
    refine us_iconst dMod_path_109 ?_
    refine us_v2 mMod_box dMod_path_110 kV_Mod_97 md_obj ⟨by decide, rfl, rfl, (Nat.le_of_ble_eq_true rfl), (Nat.le_of_ble_eq_true rfl)⟩ (Nat.le_of_ble_eq_true rfl) (Nat.le_of_ble_eq_true rfl) rfl ?_
    refine c_Mod_box (13 * b + 5) (by omega) (by omega) ?_
    rw [b4]
    refine u_ko_1 ?_
    refine us_goto dMod_path_113 ?_
    refine us_ireturn dMod_path_171 rfl (Nat.le_of_ble_eq_true rfl) (Nat.le_of_ble_eq_true rfl) ?_
    exact hQ
  · skip
    refine us_iload_n dMod_path_87 rfl ?_
    refine us_if_ne dMod_path_88 (by decide) (fun c61 => ?_) (fun c61 => absurd c61 (by decide))
    refine us_iload_n dMod_path_101 rfl ?_
    refine us_iconst dMod_path_102 ?_
    refine us_icmp_ne dMod_path_103 (by decide) (fun c62 => ?_) (fun c62 => absurd c62 (by decide))
    refine us_iload_n dMod_path_116 rfl ?_
    refine us_iconst dMod_path_117 ?_
    refine us_icmp_ne dMod_path_118 (by decide) (fun c63 => absurd rfl c63) (fun c63 => ?_)
    refine us_aload_n dMod_path_121 rfl ?_
    refine us_iload dMod_path_122 rfl ?_
    refine us_bipush dMod_path_124 (by decide) ?_
    refine us_v2 mMod_box dMod_path_126 kV_Mod_97 md_obj ⟨by decide, rfl, rfl, (Nat.le_of_ble_eq_true rfl), (Nat.le_of_ble_eq_true rfl)⟩ (Nat.le_of_ble_eq_true rfl) (Nat.le_of_ble_eq_true rfl) rfl ?_
    refine c_Mod_box (13 * b + 6) (by omega) (by omega) ?_
    rw [b5]
    refine u_ko_1 ?_
    refine us_goto dMod_path_129 ?_
    refine us_ireturn dMod_path_171 rfl (Nat.le_of_ble_eq_true rfl) (Nat.le_of_ble_eq_true rfl) ?_
    exact hQ
  · skip
    refine us_iload_n dMod_path_87 rfl ?_
    refine us_if_ne dMod_path_88 (by decide) (fun c61 => ?_) (fun c61 => absurd c61 (by decide))
    refine us_iload_n dMod_path_101 rfl ?_
    refine us_iconst dMod_path_102 ?_
    refine us_icmp_ne dMod_path_103 (by decide) (fun c62 => ?_) (fun c62 => absurd c62 (by decide))
    refine us_iload_n dMod_path_116 rfl ?_
    refine us_iconst dMod_path_117 ?_
    refine us_icmp_ne dMod_path_118 (by decide) (fun c63 => ?_) (fun c63 => absurd c63 (by decide))
    refine us_iload_n dMod_path_132 rfl ?_
    refine us_iconst dMod_path_133 ?_
    refine us_icmp_ne dMod_path_134 (by decide) (fun c64 => absurd rfl c64) (fun c64 => ?_)
    refine us_aload_n dMod_path_137 rfl ?_
    refine us_iload dMod_path_138 rfl ?_
    refine us_iconst dMod_path_140 ?_
    refine us_v2 mMod_box dMod_path_141 kV_Mod_97 md_obj ⟨by decide, rfl, rfl, (Nat.le_of_ble_eq_true rfl), (Nat.le_of_ble_eq_true rfl)⟩ (Nat.le_of_ble_eq_true rfl) (Nat.le_of_ble_eq_true rfl) rfl ?_
    refine c_Mod_box (13 * b + 3) (by omega) (by omega) ?_
    rw [bn1]
    refine u_ko_1 ?_
    refine us_goto dMod_path_144 ?_
    refine us_ireturn dMod_path_171 rfl (Nat.le_of_ble_eq_true rfl) (Nat.le_of_ble_eq_true rfl) ?_
    exact hQ
  · skip
    refine us_iload_n dMod_path_87 rfl ?_
    refine us_if_ne dMod_path_88 (by decide) (fun c61 => ?_) (fun c61 => absurd c61 (by decide))
    refine us_iload_n dMod_path_101 rfl ?_
    refine us_iconst dMod_path_102 ?_
    refine us_icmp_ne dMod_path_103 (by decide) (fun c62 => ?_) (fun c62 => absurd c62 (by decide))
    refine us_iload_n dMod_path_116 rfl ?_
    refine us_iconst dMod_path_117 ?_
    refine us_icmp_ne dMod_path_118 (by decide) (fun c63 => ?_) (fun c63 => absurd c63 (by decide))
    refine us_iload_n dMod_path_132 rfl ?_
    refine us_iconst dMod_path_133 ?_
    refine us_icmp_ne dMod_path_134 (by decide) (fun c64 => ?_) (fun c64 => absurd c64 (by decide))
    refine us_iload_n dMod_path_147 rfl ?_
    refine us_iconst dMod_path_148 ?_
    refine us_icmp_ne dMod_path_149 (by decide) (fun c65 => absurd rfl c65) (fun c65 => ?_)
    refine us_aload_n dMod_path_152 rfl ?_
    refine us_iload dMod_path_153 rfl ?_
    refine us_bipush dMod_path_155 (by decide) ?_
    refine us_v2 mMod_box dMod_path_157 kV_Mod_97 md_obj ⟨by decide, rfl, rfl, (Nat.le_of_ble_eq_true rfl), (Nat.le_of_ble_eq_true rfl)⟩ (Nat.le_of_ble_eq_true rfl) (Nat.le_of_ble_eq_true rfl) rfl ?_
    refine c_Mod_box (13 * b + 7) (by omega) (by omega) ?_
    rw [b6]
    refine u_ko_1 ?_
    refine us_goto dMod_path_160 ?_
    refine us_ireturn dMod_path_171 rfl (Nat.le_of_ble_eq_true rfl) (Nat.le_of_ble_eq_true rfl) ?_
    exact hQ
  · skip
    refine us_iload_n dMod_path_87 rfl ?_
    refine us_if_ne dMod_path_88 (by decide) (fun c61 => ?_) (fun c61 => absurd c61 (by decide))
    refine us_iload_n dMod_path_101 rfl ?_
    refine us_iconst dMod_path_102 ?_
    refine us_icmp_ne dMod_path_103 (by decide) (fun c62 => ?_) (fun c62 => absurd c62 (by decide))
    refine us_iload_n dMod_path_116 rfl ?_
    refine us_iconst dMod_path_117 ?_
    refine us_icmp_ne dMod_path_118 (by decide) (fun c63 => ?_) (fun c63 => absurd c63 (by decide))
    refine us_iload_n dMod_path_132 rfl ?_
    refine us_iconst dMod_path_133 ?_
    refine us_icmp_ne dMod_path_134 (by decide) (fun c64 => ?_) (fun c64 => absurd c64 (by decide))
    refine us_iload_n dMod_path_147 rfl ?_
    refine us_iconst dMod_path_148 ?_
    refine us_icmp_ne dMod_path_149 (by decide) (fun c65 => ?_) (fun c65 => absurd c65 (by decide))
    refine us_aload_n dMod_path_163 rfl ?_
    refine us_iload dMod_path_164 rfl ?_
    refine us_bipush dMod_path_166 (by decide) ?_
    refine us_v2 mMod_box dMod_path_168 kV_Mod_97 md_obj ⟨by decide, rfl, rfl, (Nat.le_of_ble_eq_true rfl), (Nat.le_of_ble_eq_true rfl)⟩ (Nat.le_of_ble_eq_true rfl) (Nat.le_of_ble_eq_true rfl) rfl ?_
    refine c_Mod_box (13 * b + 8) (by omega) (by omega) ?_
    rw [h8]
    refine u_ko_1 ?_
    refine us_ireturn dMod_path_171 rfl (Nat.le_of_ble_eq_true rfl) (Nat.le_of_ble_eq_true rfl) ?_
    exact hQ

theorem t_tk_len (T : uT) (c : Int) : (t_tk T c).1.length ≤ T.1.length + 1 := by
  unfold t_tk
  split
  · show (appI 100 T.1 (c - 97)).length ≤ _
    unfold appI
    split
    · rw [List.length_append]; exact Nat.le_refl _
    · omega
  · split
    · show T.1.length ≤ _; omega
    · split
      · show T.1.length ≤ _; omega
      · omega
theorem t_rfT_len (X : List Int) : ∀ (n j : Nat) (T : uT), (t_rfT X n j T).1.length ≤ T.1.length + n
  | 0, _, _ => Nat.le_refl _
  | n + 1, j, T => by
    unfold t_rfT
    have h1 := t_tk_len T (ratI X (j : Int))
    split
    · have := t_rfT_len X n (j + 1) (t_tk T (ratI X (j : Int)))
      omega
    · omega
theorem t_len (X : List Int) (h : X.length ≤ 100) : (t_parts X).1.length ≤ 100 := by
  have : (t_parts X).1.length ≤ 0 + X.length := t_rfT_len X X.length 0 ([], [], 0)
  omega
theorem d_path {h : uHp} {y : Nat} {S : uMS} {B : uAB} {i w : Int} {Q : uPs} (hB : rKB S B) (hi : -2147483648 ≤ i ∧ i ≤ 2147483647) (hw : -2147483648 ≤ w ∧ w ≤ 2147483647) (hQ : ∀ S' : uMS, rKB S' B → Q (some (ui (F_path B.1 B.2.2.1 i w))) (u_mod h y S')) : uW mMod_path 0 [.ref y, ui i, ui w, .null, .null, .null] [] (u_mod h y S) 0 0 Q := by
  obtain ⟨X, R, PL, H, has, sn⟩ := B
  have m1 : ∀ n, n < 6 → mkR (S.2 0 n) R n := fun n hn => blk_mk hB.1 hn
  have v6 : S.2 0 6 = (PL.length : Int) := hB.1.2.1.1
  have l6 : PL.length ≤ 6 := hB.1.2.1.2
  have lR : R.length = 36 := hB.1.2.2.2
  have h2 : S.1 2 = (H.length : Int) := hB.2.1.1.1
  have h4 : H.length ≤ 4 := hB.2.1.1.2
  have hH : ∀ j, j < H.length → blk (S.2 1) (649 * j) (H.getD j ([], [])) := hB.2.1.2
  have t1 : S.1 28 = (X.length : Int) := hB.2.2.2.1.1
  have t2 : X.length ≤ 100 := hB.2.2.2.1.2.1
  have t3 : ∀ q, q < X.length → S.2 29 q = ratI X (q : Int) := hB.2.2.2.1.2.2.1
  have t4 : ∀ q : Nat, 0 ≤ ratI X (q : Int) ∧ ratI X (q : Int) ≤ 65535 := hB.2.2.2.1.2.2.2
  have e4 : S.1 4 = (if has = true then 1 else 0) := hB.2.2.1.1
  refine us_aload_n dMod_path_0 rfl ?_
  refine us_iload_n dMod_path_1 rfl ?_
  refine us_v1 mMod_no dMod_path_2 kV_Mod_200 md_obj ⟨by decide, rfl, rfl, (Nat.le_of_ble_eq_true rfl), (Nat.le_of_ble_eq_true rfl)⟩ (Nat.le_of_ble_eq_true rfl) (Nat.le_of_ble_eq_true rfl) rfl ?_
  refine c_Mod_no hi (by rw [v6]; omega) ?_
  rw [v6]
  refine u_ko_1 ?_
  refine us_ifb_eq dMod_path_5 (fun c61 => ?_) (fun c61 => ?_)
  · skip
    have ci : ¬ (i < 0 ∨ (PL.length : Int) ≤ i) := of_decide_eq_false c61
    refine us_iload_n dMod_path_10 rfl ?_
    refine us_iconst dMod_path_11 ?_
    refine us_iconst dMod_path_12 ?_
    refine us_s3 mMod_in dMod_path_13 kS_Mod_71 ⟨by decide, rfl, rfl, (Nat.le_of_ble_eq_true rfl), (Nat.le_of_ble_eq_true rfl)⟩ (Nat.le_of_ble_eq_true rfl) (Nat.le_of_ble_eq_true rfl) rfl ?_
    refine c_Mod_in (by omega) ?_
    refine u_ko_1 ?_
    refine us_ifb_ne dMod_path_16 (fun c62 => ?_) (fun c62 => ?_)
    · skip
      have cw : 0 ≤ w ∧ w ≤ 5 := of_decide_eq_true c62
      refine us_aload_n dMod_path_22 rfl ?_
      have tr := t_fault_rng X
      refine us_v0 mMod_partsOfText dMod_path_23 kV_Mod_210 md_obj ⟨by decide, rfl, rfl, (Nat.le_of_ble_eq_true rfl), (Nat.le_of_ble_eq_true rfl)⟩ (Nat.le_of_ble_eq_true rfl) (Nat.le_of_ble_eq_true rfl) rfl ?_
      refine c_Mod_parts t1 t2 t3 t4 (fun S1 f1 f2 => ?_) (fun S1 f1 f2 => ?_)
      · refine u_ko_1 ?_
        have hB1 : rKB S1 (X, R, PL, H, has, sn) := hB.sc ⟨fun i _ => by rw [f1.1], fun f hf => f1.2 f (by omega) (by omega), fun hr => by rw [f1.2 5 (by decide) (by decide)]; exact hr⟩
        refine us_istore_3 dMod_path_26 rfl (Nat.le_of_ble_eq_true rfl) ?_
        refine us_iload_n dMod_path_27 rfl ?_
        refine us_if_ge dMod_path_28 (by omega) (fun c81 => absurd c81 (by omega)) (fun c81 => ?_)
        refine us_iload_n dMod_path_31 rfl ?_
        refine us_ireturn dMod_path_32 rfl (Nat.le_of_ble_eq_true rfl) (Nat.le_of_ble_eq_true rfl) ?_
        have eF : F_path X PL i w = -100 - t_fault X := by
          unfold F_path
          rw [if_pos (by omega), if_neg (by omega), if_neg f2]
        rw [eF] at hQ
        exact hQ S1 hB1
      · refine u_ko_1 ?_
        have hB1 : rKB S1 (X, R, PL, H, has, sn) := hB.sc ⟨fun i _ => by rw [f1.1], fun f hf => f1.2 f (by omega) (by omega), fun hr => by rw [f1.2 5 (by decide) (by decide)]; exact hr⟩
        obtain ⟨f3, hpt, hN0⟩ := f2
        obtain ⟨i', rfl⟩ : ∃ k9 : Nat, i = (k9 : Int) := ⟨i.toNat, by omega⟩
        have hNle : (t_parts X).1.length ≤ 100 := t_len X t2
        refine us_istore_3 dMod_path_26 rfl (Nat.le_of_ble_eq_true rfl) ?_
        refine us_iload_n dMod_path_27 rfl ?_
        refine us_if_ge dMod_path_28 (by omega) (fun c81 => ?_) (fun c81 => absurd c81 (by omega))
        refine us_aload_n dMod_path_33 rfl ?_
        refine us_iload_n dMod_path_34 rfl ?_
        refine us_v1 mMod_takesPage dMod_path_35 kV_Mod_168 md_obj ⟨by decide, rfl, rfl, (Nat.le_of_ble_eq_true rfl), (Nat.le_of_ble_eq_true rfl)⟩ (Nat.le_of_ble_eq_true rfl) (Nat.le_of_ble_eq_true rfl) rfl ?_
        have hpp := hB1.1.pg (p := i') (by show i' < PL.length; omega)
        refine c_Mod_takesPage hpp.2 hpp.1 hB1.2.2.2.2 (fun S2 a1 a2 a3 => ?_)
        have hc := (show pgE S2 (PL.getD i' pE) from a1).cells
        have hpt2 : rPt S2 (t_parts X).1 (t_parts X).2.1 := by
          unfold rPt
          rw [a3.2 30 (by decide) (by decide), a3.2 31 (by decide) (by decide)]
          exact hpt
        have hB2 := hB1.sc a2
        have h40 : ratI ((PL.getD i' pE) 4) 0 = -1 := by
          obtain ⟨h40a, h40b⟩ := (hc.2.1 0 hc.1.2.2).1.2.2.1.2
          have h40a : -1 ≤ ratI ((PL.getD i' pE) 4) 0 := h40a
          have h40b : ratI ((PL.getD i' pE) 4) 0 < 0 := h40b
          omega
        refine u_ko_0 ?_
        refine us_bipush dMod_path_38 (by decide) ?_
        refine us_istore_4 dMod_path_40 rfl (Nat.le_of_ble_eq_true rfl) ?_
        refine us_iconst dMod_path_42 ?_
        refine us_istore_5 dMod_path_43 rfl (Nat.le_of_ble_eq_true rfl) ?_
        refine us_iload dMod_path_45 rfl ?_
        refine us_iload_n dMod_path_47 rfl ?_
        refine us_icmp_ge dMod_path_48 (by omega) (fun c82 => absurd c82 (by omega)) (fun c82 => ?_)
        refine us_aload_n dMod_path_51 rfl ?_
        refine us_iload dMod_path_52 rfl ?_
        refine us_aload_n dMod_path_54 rfl ?_
        refine us_getf 9 30 dMod_path_55 kF_Mod_65 md_obj rfl ?_
        refine us_iload dMod_path_58 rfl ?_
        refine us_iald 0 dMod_path_60 md_a19 rfl (by decide) (by omega) (congrArg ui (hpt2.2 0 hN0).1.1) ?_
        refine us_aload_n dMod_path_61 rfl ?_
        refine us_getf 9 31 dMod_path_62 kF_Mod_68 md_obj rfl ?_
        refine us_iload dMod_path_65 rfl ?_
        refine us_iald 0 dMod_path_67 md_a20 rfl (by decide) (by omega) (congrArg ui (hpt2.2 0 hN0).2.1) ?_
        refine us_v3 mMod_inner dMod_path_68 kV_Mod_213 md_obj ⟨by decide, rfl, rfl, (Nat.le_of_ble_eq_true rfl), (Nat.le_of_ble_eq_true rfl)⟩ (Nat.le_of_ble_eq_true rfl) (Nat.le_of_ble_eq_true rfl) rfl ?_
        refine c_Mod_inner (P := (PL.getD i' pE)) (b := -1) hc.1.1 (by omega) (fun k hk => ⟨⟨(hc.2.1 k hk).1.2.2.1.1, (hc.2.1 k hk).1.2.2.1.2.1, by have := (hc.2.1 k hk).1.2.2.1.2.2; omega⟩, (hc.2.1 k hk).1.1⟩) (by decide) rfl (hpt2.2 0 hN0).1.2 (hpt2.2 0 hN0).2.2 ?_
        rw [p_bi_first hc.1.2.2 h40 hc.2.2 (hpt2.2 0 hN0).2.2.1]
        refine u_ko_1 ?_
        have hbox : t_box (PL.getD i' pE) (t_parts X) = t_bxF (PL.getD i' pE) (t_parts X) ((t_parts X).1.length - 1) 1 (if ratI (t_parts X).1 0 = ratI ((PL.getD i' pE) 3) 0 ∧ ratI (t_parts X).2.1 0 = 1 then 0 else -1) := rfl
        show uW _ _ _ [ui (if ratI (t_parts X).1 0 = ratI ((PL.getD i' pE) 3) 0 ∧ ratI (t_parts X).2.1 0 = 1 then 0 else -1)] _ _ _ _
        by_cases hq : ratI (t_parts X).1 0 = ratI ((PL.getD i' pE) 3) 0 ∧ ratI (t_parts X).2.1 0 = 1
        · rw [if_pos hq] at hbox ⊢
          refine us_istore_4 dMod_path_71 rfl (Nat.le_of_ble_eq_true rfl) ?_
          refine us_iload dMod_path_73 rfl ?_
          refine us_if_ge dMod_path_75 (by decide) (fun c91 => ?_) (fun c91 => absurd c91 (by decide))
          refine us_iinc_5 dMod_path_81 rfl (Nat.le_of_ble_eq_true rfl) ?_
          refine us_goto dMod_path_84 ?_
          have h80 := (hc.2.1 0 hc.1.2.2).1.2.2.2.2.2.2.2.1 (by show ratI ((PL.getD i' pE) 4) 0 < 0; omega)
          refine c_Mod_path_45 (P := (PL.getD i' pE)) (N := (t_parts X).1) (M := (t_parts X).2.1) (m9 := (t_parts X).2.2) hc hpt2 hNle ((t_parts X).1.length - 1) 1 0 (by omega) hc.1.2.2 h80 (fun e => ?_) (fun b' e1 e2 e3 => ?_)
          · have eF : F_path X PL (i' : Int) w = -5 := by
              unfold F_path
              rw [if_pos (by omega), if_neg (by omega), if_pos f3, show pgA PL (i' : Int) = (PL.getD i' pE) from rfl, if_pos (hbox.trans e)]
            rw [eF] at hQ
            exact hQ S2 hB2
          · have eF : F_path X PL (i' : Int) w = F_told (PL.getD i' pE) (t_parts X) (b' : Int) w := by
              unfold F_path
              rw [if_pos (by omega), if_neg (by omega), if_pos f3, show pgA PL (i' : Int) = (PL.getD i' pE) from rfl, hbox.trans e2, if_neg (by omega)]
            rw [eF] at hQ
            exact c_Mod_path_87 (T := t_parts X) hc e1 e3 cw (hQ S2 hB2)
        · rw [if_neg hq] at hbox ⊢
          refine us_istore_4 dMod_path_71 rfl (Nat.le_of_ble_eq_true rfl) ?_
          refine us_iload dMod_path_73 rfl ?_
          refine us_if_ge dMod_path_75 (by decide) (fun c91 => absurd c91 (by decide)) (fun c91 => ?_)
          refine us_bipush dMod_path_78 (by decide) ?_
          refine us_ireturn dMod_path_80 rfl (Nat.le_of_ble_eq_true rfl) (Nat.le_of_ble_eq_true rfl) ?_
          rw [t_bxF_neg] at hbox
          have eF : F_path X PL (i' : Int) w = -5 := by
            unfold F_path
            rw [if_pos (by omega), if_neg (by omega), if_pos f3, show pgA PL (i' : Int) = (PL.getD i' pE) from rfl, if_pos hbox]
          rw [eF] at hQ
          exact hQ S2 hB2
    · skip
      have cw : ¬ (0 ≤ w ∧ w ≤ 5) := of_decide_eq_false c62
      refine us_bipush dMod_path_19 (by decide) ?_
      refine us_ireturn dMod_path_21 rfl (Nat.le_of_ble_eq_true rfl) (Nat.le_of_ble_eq_true rfl) ?_
      have eF : F_path X PL i w = -2 := by
        unfold F_path
        rw [if_pos (by omega), if_pos (by omega)]
      rw [eF] at hQ
      exact hQ S hB
  · skip
    have ci : i < 0 ∨ (PL.length : Int) ≤ i := of_decide_eq_true c61
    refine us_iconst dMod_path_8 ?_
    refine us_ireturn dMod_path_9 rfl (Nat.le_of_ble_eq_true rfl) (Nat.le_of_ble_eq_true rfl) ?_
    have eF : F_path X PL i w = -1 := by
      unfold F_path
      rw [if_neg (by omega)]
    rw [eF] at hQ
    exact hQ S hB

