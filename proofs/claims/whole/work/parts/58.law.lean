/-! the law -/
section LAW
variable {M : uM} {pc np tg : Nat} {l st : List Value} {h : uHp} {k n : Nat} {Q : uPs}
theorem us_sld {b L j : Nat} {xs : Nat → Int32} {i : Int} (hd : uD M.cc pc .iaload 1 np) (hx : M.ex = some (b, L, xs)) (hj : i = (j : Int)) (hlt : j < L) (hN : L < 2147483648) (K : uW M np l (ui (xs j).toInt :: st) h k n Q) : uW M pc l (ui i :: .ref b :: st) h k n Q := by
  intro G B p la e R s m args below meth c Qf C F H locs ls hR hS hL
  obtain ⟨hd, rfl⟩ := hd
  obtain ⟨x1, x2, x3⟩ := C.2.2.2.2.2.2.2.2.2.2.2 _ hx
  obtain ⟨e1, e2⟩ := u_ix hj hlt hN
  refine va_sld C.1 C.2.1 x1 x2 (Nat.not_le.mpr x3) hS e2 hd ?_
  have := K G B p la e R s m args below meth c Qf C F H locs ls hR hS hL
  rw [e1]
  rw [show (ui (xs j).toInt : Value) = .int (xs j) from congrArg Value.int (Int32.ofInt_toInt _)] at this
  exact this
theorem us_slen {b L : Nat} {xs : Nat → Int32} (hd : uD M.cc pc .arraylength 1 np) (hx : M.ex = some (b, L, xs)) (K : uW M np l (ui (L : Int) :: st) h k n Q) : uW M pc l (.ref b :: st) h k n Q := by
  intro G B p la e R s m args below meth c Qf C F H locs ls hR hS hL
  obtain ⟨hd, rfl⟩ := hd
  obtain ⟨x1, x2, x3⟩ := C.2.2.2.2.2.2.2.2.2.2.2 _ hx
  exact va_slen C.1 C.2.1 x1 x2 (Nat.not_le.mpr x3) hS hd (K G B p la e R s m args below meth c Qf C F H locs ls hR hS hL)
theorem us_icmp_same {z : Int} (hd : uB M.cc pc (.if_icmp .eq) np tg) (K : uW M tg l st h k n Q) : uW M pc l (ui z :: ui z :: st) h k n Q := by
  intro G B p la e R s m args below meth c Qf C F H locs ls hR hS hL
  obtain ⟨off, hd, rfl, ht⟩ := hd
  exact lv_icmp_eq C.1 C.2.1 hd ht (fun _ => K G B p la e R s m args below meth c Qf C F H locs ls hR hS hL) (fun q => absurd rfl q)
end LAW
theorem zr32 (z : Int32) : -2147483648 ≤ z.toInt ∧ z.toInt ≤ 2147483647 := by
  have h1 := Int32.le_toInt z
  have h2 := Int32.toInt_lt z
  omega
theorem uUB.ag {h h' : uHp} {x : Nat} {B : uAB} (A : uUB h x B) (e : ∀ q, x ≤ q → q < x + 775 → h'.2 q = h.2 q) : uUB h' x B := by
  obtain ⟨Z, T, K, CC, K2, C2, ⟨a1, a2, a3, a4, a5, a6, a7, a8, a9, a10, a11⟩, hi⟩ := A
  exact ⟨Z, T, K, CC, K2, C2, ⟨(e _ (by omega) (by omega)).trans a1, a2.ag (fun q h1 h2 => e q (by omega) (by omega)), a3.ag (fun q h1 h2 => e q (by omega) (by omega)), a4.ag (fun q h1 h2 => e q (by omega) (by omega)), a5.ag (fun q h1 h2 => e q (by omega) (by omega)), a6.ag (fun q h1 => e q (by omega) (by omega)), a7.ag (fun q h1 h2 => e q (by omega) (by omega)), a8.ag (fun q h1 h2 => e q (by omega) (by omega)), a9.ag (fun q h1 => e q (by omega) (by omega)), a10.ag (fun q h1 h2 => e q (by omega) (by omega)), a11.ag (fun q h1 h2 => e q (by omega) (by omega))⟩, hi⟩
theorem uUB.c {h : uHp} {x : Nat} {B : uAB} (A : uUB h x B) : ∃ (n : Int) (has : Bool), h.2 x = some (uCell x n has) := by
  obtain ⟨Z, T, K, CC, K2, C2, ⟨a1, -⟩, -⟩ := A
  exact ⟨_, _, a1⟩
theorem md_keep {h h1 : uHp} {x : Nat} {S : uMS} (f : u_mod h (x + 775) S = h) (s : uSm x (x + 775) h h1) : u_mod h1 (x + 775) S = h1 :=
  md_fix ((s.2 _ (by omega)).trans ((congrArg (fun z : uHp => z.2 (x + 775)) f).symm.trans md_obj)) (fun o ho => (s.2 _ (by omega)).trans ((congrArg (fun z : uHp => z.2 (x + 775 + (o + 1))) f).symm.trans (md_arr (o + 1) (by omega) (by omega))))
theorem md_again {h : uHp} {y : Nat} {S : uMS} : u_mod (u_mod h y S) y S = u_mod h y S := md_fix md_obj (fun o ho => md_arr (o + 1) (by omega) (by omega))
theorem law_pv {S : uMS} {B : uAB} (h : rKB S B) : ∀ Z, (z_read B.2.1 B.1 Z).2.2.2.2.2.1 = -1 → pV (z_read B.2.1 B.1 Z).1 := fun Z hz => z_pV h.2.2.2.1.2.1 (fun q => by have := h.2.2.2.1.2.2.2 q; omega) hz
theorem rKB0 : rKB uS0 uB0 := by
  have e : ∀ n, n < 6 → ∀ e, e < 6 → e_is (List.replicate 36 0) ((n : Nat) : Int) ((e : Nat) : Int) = false := by decide +kernel
  refine ⟨⟨fun n hn => ⟨0, rfl, by decide, fun j hj => ?_⟩, ⟨rfl, by decide⟩, fun p hp => absurd hp (Nat.not_lt_zero _), List.length_replicate⟩, ⟨⟨rfl, by decide⟩, fun j hj => absurd hj (Nat.not_lt_zero _)⟩, ⟨rfl, fun z => absurd z (by decide)⟩, ⟨rfl, by decide, fun q hq => absurd hq (Nat.not_lt_zero _), fun q => by show 0 ≤ ratI [] (q : Int) ∧ ratI [] (q : Int) ≤ 65535; rw [ratI_nil]; decide⟩, fun q hq => by show -1000000 ≤ (0 : Int) ∧ (0 : Int) ≤ 1000000; decide⟩
  show (0 / 2 ^ j) % 2 = 1 ↔ e_is (List.replicate 36 0) (n : Int) (j : Int) = true
  rw [e n hn j hj, Nat.zero_div]
  exact ⟨fun z => absurd z (by decide), fun z => absurd z (by decide)⟩
theorem law_18 {b L x : Nat} {xs : Nat → Int32} {Q : uPs} (hL : L ≤ 2048) (hQ : ∀ h : uHp, Q (some (ub true)) h) : ∀ (n i : Nat) (h : uHp) (B : uAB) (S : uMS), n = L - i → i ≤ L + 4 → uUB h x B → u_mod h (x + 775) S = h → rKB S B → uW (mLaw_law b L xs) 18 [.ref b, .ref x, .ref (x + 775), ui (i : Int)] [] h 796 50397 Q := by
  intro n
  induction n using Nat.strongRecOn with
  | ind n ih =>
    intro i h B S hn hi hU hf hK
    refine us_iload_n dLaw_law_18 rfl ?_
    refine us_aload_n dLaw_law_19 rfl ?_
    refine us_slen dLaw_law_20 rfl ?_
    refine us_iconst dLaw_law_21 ?_
    refine us_isub dLaw_law_22 ?_
    refine us_icmp_gt dLaw_law_23 (by omega) (fun cx => ?_) (fun cx => ?_)
    · refine us_iconst dLaw_law_604 ?_
      exact us_zreturn (b := true) dLaw_law_605 rfl (Nat.le_of_ble_eq_true rfl) (Nat.le_of_ble_eq_true rfl) (hQ h)
    · have hi3 : i + 3 < L := by omega
      obtain ⟨nH, has9, hc⟩ := hU.c
      have hpv := law_pv hK
      refine us_aload_n dLaw_law_26 rfl ?_
      refine us_iload_n dLaw_law_27 rfl ?_
      refine us_sld (j := i) dLaw_law_28 rfl rfl (by omega) (by omega) ?_
      refine us_bipush dLaw_law_29 (by decide) ?_
      refine us_iandI dLaw_law_31 ?_
      have hw := zr32 (Int32.ofInt (xs i).toInt &&& Int32.ofInt 31)
      have hw : -2147483648 ≤ andI (xs i).toInt 31 ∧ andI (xs i).toInt 31 ≤ 2147483647 := hw
      generalize andI (xs i).toInt 31 = w at hw ⊢
      have hw18 : w = 0 ∨ w = 1 ∨ w = 2 ∨ w = 3 ∨ w = 4 ∨ w = 5 ∨ w = 6 ∨ w = 7 ∨ w = 8 ∨ w = 9 ∨ w = 10 ∨ w = 11 ∨ w = 12 ∨ w = 13 ∨ w = 14 ∨ w = 15 ∨ w = 16 ∨ w = 17 ∨ (w < 0 ∨ 17 < w) := by omega
      rcases hw18 with rfl | rfl | rfl | rfl | rfl | rfl | rfl | rfl | rfl | rfl | rfl | rfl | rfl | rfl | rfl | rfl | rfl | rfl | hww
      · skip
        refine us_tableIn dLaw_law_32 (by decide) (by decide) rfl (tg := 120) (by decide) ?_
        by_cases hz : (xs (i + 3)).toInt = 0
        · skip
          refine us_aload_n dLaw_law_120 rfl ?_
          refine us_aload_n dLaw_law_121 rfl ?_
          refine us_iload_n dLaw_law_122 rfl ?_
          refine us_iconst dLaw_law_123 ?_
          refine us_iadd dLaw_law_124 ?_
          refine us_sld (j := (i + 1)) dLaw_law_125 rfl (by omega) (by omega) (by omega) ?_
          refine us_aload_n dLaw_law_126 rfl ?_
          refine us_iload_n dLaw_law_127 rfl ?_
          refine us_iconst dLaw_law_128 ?_
          refine us_iadd dLaw_law_129 ?_
          refine us_sld (j := (i + 2)) dLaw_law_130 rfl (by omega) (by omega) (by omega) ?_
          refine us_aload_n dLaw_law_131 rfl ?_
          refine us_iload_n dLaw_law_132 rfl ?_
          refine us_iconst dLaw_law_133 ?_
          refine us_iadd dLaw_law_134 ?_
          refine us_sld (j := (i + 3)) dLaw_law_135 rfl (by omega) (by omega) (by omega) ?_
          refine us_if_eq dLaw_law_136 (zr32 _) (fun cz => ?_) (fun cz => absurd hz cz)
          refine us_iconst dLaw_law_143 ?_
          refine us_v3 mUmp_rule dLaw_law_144 kV_Law_13 hc ⟨(Nat.le_of_ble_eq_true rfl), rfl, rfl, (Nat.le_of_ble_eq_true rfl), (Nat.le_of_ble_eq_true rfl)⟩ (Nat.le_of_ble_eq_true rfl) (Nat.le_of_ble_eq_true rfl) rfl ?_
          refine c_rule (is := false) hU (zr32 _) (zr32 _) (fun h1 u1 s1 => ?_)
          refine u_ko_1 ?_
          rw [← md_keep hf s1]
          refine us_aload_n dLaw_law_147 rfl ?_
          refine us_aload_n dLaw_law_148 rfl ?_
          refine us_iload_n dLaw_law_149 rfl ?_
          refine us_iconst dLaw_law_150 ?_
          refine us_iadd dLaw_law_151 ?_
          refine us_sld (j := (i + 1)) dLaw_law_152 rfl (by omega) (by omega) (by omega) ?_
          refine us_aload_n dLaw_law_153 rfl ?_
          refine us_iload_n dLaw_law_154 rfl ?_
          refine us_iconst dLaw_law_155 ?_
          refine us_iadd dLaw_law_156 ?_
          refine us_sld (j := (i + 2)) dLaw_law_157 rfl (by omega) (by omega) (by omega) ?_
          refine us_aload_n dLaw_law_158 rfl ?_
          refine us_iload_n dLaw_law_159 rfl ?_
          refine us_iconst dLaw_law_160 ?_
          refine us_iadd dLaw_law_161 ?_
          refine us_sld (j := (i + 3)) dLaw_law_162 rfl (by omega) (by omega) (by omega) ?_
          refine us_if_eq dLaw_law_163 (zr32 _) (fun cz => ?_) (fun cz => absurd hz cz)
          refine us_iconst dLaw_law_170 ?_
          refine us_v3 mMod_rule dLaw_law_171 kV_Law_17 md_obj ⟨(Nat.le_of_ble_eq_true rfl), rfl, rfl, (Nat.le_of_ble_eq_true rfl), (Nat.le_of_ble_eq_true rfl)⟩ (Nat.le_of_ble_eq_true rfl) (Nat.le_of_ble_eq_true rfl) rfl ?_
          refine d_rule (is := false) hK (zr32 _) (zr32 _) (fun S1 q1 => ?_)
          refine u_ko_1 ?_
          refine us_icmp_same dLaw_law_174 ?_
          refine us_iinc_3 dLaw_law_598 rfl (Nat.le_of_ble_eq_true rfl) ?_
          refine us_goto dLaw_law_601 ?_
          rw [show (i : Int) + 4 = ((i + 4 : Nat) : Int) by omega]
          exact ih (L - (i + 4)) (by omega) (i + 4) _ _ S1 rfl (by omega) (u1.ag (fun q e1 e2 => md_out (by omega))) md_again q1
        · skip
          refine us_aload_n dLaw_law_120 rfl ?_
          refine us_aload_n dLaw_law_121 rfl ?_
          refine us_iload_n dLaw_law_122 rfl ?_
          refine us_iconst dLaw_law_123 ?_
          refine us_iadd dLaw_law_124 ?_
          refine us_sld (j := (i + 1)) dLaw_law_125 rfl (by omega) (by omega) (by omega) ?_
          refine us_aload_n dLaw_law_126 rfl ?_
          refine us_iload_n dLaw_law_127 rfl ?_
          refine us_iconst dLaw_law_128 ?_
          refine us_iadd dLaw_law_129 ?_
          refine us_sld (j := (i + 2)) dLaw_law_130 rfl (by omega) (by omega) (by omega) ?_
          refine us_aload_n dLaw_law_131 rfl ?_
          refine us_iload_n dLaw_law_132 rfl ?_
          refine us_iconst dLaw_law_133 ?_
          refine us_iadd dLaw_law_134 ?_
          refine us_sld (j := (i + 3)) dLaw_law_135 rfl (by omega) (by omega) (by omega) ?_
          refine us_if_eq dLaw_law_136 (zr32 _) (fun cz => absurd cz hz) (fun cz => ?_)
          refine us_iconst dLaw_law_139 ?_
          refine us_goto dLaw_law_140 ?_
          refine us_v3 mUmp_rule dLaw_law_144 kV_Law_13 hc ⟨(Nat.le_of_ble_eq_true rfl), rfl, rfl, (Nat.le_of_ble_eq_true rfl), (Nat.le_of_ble_eq_true rfl)⟩ (Nat.le_of_ble_eq_true rfl) (Nat.le_of_ble_eq_true rfl) rfl ?_
          refine c_rule (is := true) hU (zr32 _) (zr32 _) (fun h1 u1 s1 => ?_)
          refine u_ko_1 ?_
          rw [← md_keep hf s1]
          refine us_aload_n dLaw_law_147 rfl ?_
          refine us_aload_n dLaw_law_148 rfl ?_
          refine us_iload_n dLaw_law_149 rfl ?_
          refine us_iconst dLaw_law_150 ?_
          refine us_iadd dLaw_law_151 ?_
          refine us_sld (j := (i + 1)) dLaw_law_152 rfl (by omega) (by omega) (by omega) ?_
          refine us_aload_n dLaw_law_153 rfl ?_
          refine us_iload_n dLaw_law_154 rfl ?_
          refine us_iconst dLaw_law_155 ?_
          refine us_iadd dLaw_law_156 ?_
          refine us_sld (j := (i + 2)) dLaw_law_157 rfl (by omega) (by omega) (by omega) ?_
          refine us_aload_n dLaw_law_158 rfl ?_
          refine us_iload_n dLaw_law_159 rfl ?_
          refine us_iconst dLaw_law_160 ?_
          refine us_iadd dLaw_law_161 ?_
          refine us_sld (j := (i + 3)) dLaw_law_162 rfl (by omega) (by omega) (by omega) ?_
          refine us_if_eq dLaw_law_163 (zr32 _) (fun cz => absurd cz hz) (fun cz => ?_)
          refine us_iconst dLaw_law_166 ?_
          refine us_goto dLaw_law_167 ?_
          refine us_v3 mMod_rule dLaw_law_171 kV_Law_17 md_obj ⟨(Nat.le_of_ble_eq_true rfl), rfl, rfl, (Nat.le_of_ble_eq_true rfl), (Nat.le_of_ble_eq_true rfl)⟩ (Nat.le_of_ble_eq_true rfl) (Nat.le_of_ble_eq_true rfl) rfl ?_
          refine d_rule (is := true) hK (zr32 _) (zr32 _) (fun S1 q1 => ?_)
          refine u_ko_1 ?_
          refine us_icmp_same dLaw_law_174 ?_
          refine us_iinc_3 dLaw_law_598 rfl (Nat.le_of_ble_eq_true rfl) ?_
          refine us_goto dLaw_law_601 ?_
          rw [show (i : Int) + 4 = ((i + 4 : Nat) : Int) by omega]
          exact ih (L - (i + 4)) (by omega) (i + 4) _ _ S1 rfl (by omega) (u1.ag (fun q e1 e2 => md_out (by omega))) md_again q1
      · skip
        refine us_tableIn dLaw_law_32 (by decide) (by decide) rfl (tg := 179) (by decide) ?_
        refine us_aload_n dLaw_law_179 rfl ?_
        refine us_v0 mUmp_pack dLaw_law_180 kV_Law_18 hc ⟨(Nat.le_of_ble_eq_true rfl), rfl, rfl, (Nat.le_of_ble_eq_true rfl), (Nat.le_of_ble_eq_true rfl)⟩ (Nat.le_of_ble_eq_true rfl) (Nat.le_of_ble_eq_true rfl) rfl ?_
        refine c_pack hU hpv (fun Z h1 u1 s1 => ?_)
        refine u_ko_1 ?_
        rw [← md_keep hf s1]
        refine us_aload_n dLaw_law_183 rfl ?_
        refine us_v0 mMod_pack dLaw_law_184 kV_Law_22 md_obj ⟨(Nat.le_of_ble_eq_true rfl), rfl, rfl, (Nat.le_of_ble_eq_true rfl), (Nat.le_of_ble_eq_true rfl)⟩ (Nat.le_of_ble_eq_true rfl) (Nat.le_of_ble_eq_true rfl) rfl ?_
        refine d_pack (Z := Z) hK (fun S1 q1 => ?_)
        refine u_ko_1 ?_
        refine us_icmp_same dLaw_law_187 ?_
        refine us_iinc_3 dLaw_law_598 rfl (Nat.le_of_ble_eq_true rfl) ?_
        refine us_goto dLaw_law_601 ?_
        rw [show (i : Int) + 4 = ((i + 4 : Nat) : Int) by omega]
        exact ih (L - (i + 4)) (by omega) (i + 4) _ _ S1 rfl (by omega) (u1.ag (fun q e1 e2 => md_out (by omega))) md_again q1
      · skip
        refine us_tableIn dLaw_law_32 (by decide) (by decide) rfl (tg := 192) (by decide) ?_
        refine us_aload_n dLaw_law_192 rfl ?_
        refine us_v0 mUmp_unpackLast dLaw_law_193 kV_Law_23 hc ⟨(Nat.le_of_ble_eq_true rfl), rfl, rfl, (Nat.le_of_ble_eq_true rfl), (Nat.le_of_ble_eq_true rfl)⟩ (Nat.le_of_ble_eq_true rfl) (Nat.le_of_ble_eq_true rfl) rfl ?_
        refine c_unpack hU (fun h1 u1 s1 => ?_)
        refine u_ko_1 ?_
        rw [← md_keep hf s1]
        refine us_aload_n dLaw_law_196 rfl ?_
        refine us_v0 mMod_unpackLast dLaw_law_197 kV_Law_26 md_obj ⟨(Nat.le_of_ble_eq_true rfl), rfl, rfl, (Nat.le_of_ble_eq_true rfl), (Nat.le_of_ble_eq_true rfl)⟩ (Nat.le_of_ble_eq_true rfl) (Nat.le_of_ble_eq_true rfl) rfl ?_
        refine d_unpack hK (fun S1 q1 => ?_)
        refine u_ko_1 ?_
        refine us_icmp_same dLaw_law_200 ?_
        refine us_iinc_3 dLaw_law_598 rfl (Nat.le_of_ble_eq_true rfl) ?_
        refine us_goto dLaw_law_601 ?_
        rw [show (i : Int) + 4 = ((i + 4 : Nat) : Int) by omega]
        exact ih (L - (i + 4)) (by omega) (i + 4) _ _ S1 rfl (by omega) (u1.ag (fun q e1 e2 => md_out (by omega))) md_again q1
      · skip
        refine us_tableIn dLaw_law_32 (by decide) (by decide) rfl (tg := 205) (by decide) ?_
        refine us_aload_n dLaw_law_205 rfl ?_
        refine us_aload_n dLaw_law_206 rfl ?_
        refine us_iload_n dLaw_law_207 rfl ?_
        refine us_iconst dLaw_law_208 ?_
        refine us_iadd dLaw_law_209 ?_
        refine us_sld (j := (i + 1)) dLaw_law_210 rfl (by omega) (by omega) (by omega) ?_
        refine us_v1 mUmp_first dLaw_law_211 kV_Law_27 hc ⟨(Nat.le_of_ble_eq_true rfl), rfl, rfl, (Nat.le_of_ble_eq_true rfl), (Nat.le_of_ble_eq_true rfl)⟩ (Nat.le_of_ble_eq_true rfl) (Nat.le_of_ble_eq_true rfl) rfl ?_
        refine c_first hU (zr32 _) (fun h1 u1 s1 => ?_)
        refine u_ko_1 ?_
        rw [← md_keep hf s1]
        refine us_aload_n dLaw_law_214 rfl ?_
        refine us_aload_n dLaw_law_215 rfl ?_
        refine us_iload_n dLaw_law_216 rfl ?_
        refine us_iconst dLaw_law_217 ?_
        refine us_iadd dLaw_law_218 ?_
        refine us_sld (j := (i + 1)) dLaw_law_219 rfl (by omega) (by omega) (by omega) ?_
        refine us_v1 mMod_first dLaw_law_220 kV_Law_31 md_obj ⟨(Nat.le_of_ble_eq_true rfl), rfl, rfl, (Nat.le_of_ble_eq_true rfl), (Nat.le_of_ble_eq_true rfl)⟩ (Nat.le_of_ble_eq_true rfl) (Nat.le_of_ble_eq_true rfl) rfl ?_
        refine d_first hK (zr32 _) (fun S1 q1 => ?_)
        refine u_ko_1 ?_
        refine us_icmp_same dLaw_law_223 ?_
        refine us_iinc_3 dLaw_law_598 rfl (Nat.le_of_ble_eq_true rfl) ?_
        refine us_goto dLaw_law_601 ?_
        rw [show (i : Int) + 4 = ((i + 4 : Nat) : Int) by omega]
        exact ih (L - (i + 4)) (by omega) (i + 4) _ _ S1 rfl (by omega) (u1.ag (fun q e1 e2 => md_out (by omega))) md_again q1
      · skip
        refine us_tableIn dLaw_law_32 (by decide) (by decide) rfl (tg := 228) (by decide) ?_
        refine us_aload_n dLaw_law_228 rfl ?_
        refine us_aload_n dLaw_law_229 rfl ?_
        refine us_iload_n dLaw_law_230 rfl ?_
        refine us_iconst dLaw_law_231 ?_
        refine us_iadd dLaw_law_232 ?_
        refine us_sld (j := (i + 1)) dLaw_law_233 rfl (by omega) (by omega) (by omega) ?_
        refine us_i2c dLaw_law_234 ?_
        rw [i2c_c]
        refine us_v1 mUmp_type dLaw_law_235 kV_Law_32 hc ⟨(Nat.le_of_ble_eq_true rfl), rfl, rfl, (Nat.le_of_ble_eq_true rfl), (Nat.le_of_ble_eq_true rfl)⟩ (Nat.le_of_ble_eq_true rfl) (Nat.le_of_ble_eq_true rfl) rfl ?_
        refine c_type hU (by omega) (fun h1 u1 s1 => ?_)
        refine u_ko_1 ?_
        rw [← md_keep hf s1]
        refine us_aload_n dLaw_law_238 rfl ?_
        refine us_aload_n dLaw_law_239 rfl ?_
        refine us_iload_n dLaw_law_240 rfl ?_
        refine us_iconst dLaw_law_241 ?_
        refine us_iadd dLaw_law_242 ?_
        refine us_sld (j := (i + 1)) dLaw_law_243 rfl (by omega) (by omega) (by omega) ?_
        refine us_i2c dLaw_law_244 ?_
        rw [i2c_c]
        refine us_v1 mMod_type dLaw_law_245 kV_Law_36 md_obj ⟨(Nat.le_of_ble_eq_true rfl), rfl, rfl, (Nat.le_of_ble_eq_true rfl), (Nat.le_of_ble_eq_true rfl)⟩ (Nat.le_of_ble_eq_true rfl) (Nat.le_of_ble_eq_true rfl) rfl ?_
        refine d_type hK (by omega) (fun S1 q1 => ?_)
        refine u_ko_1 ?_
        refine us_icmp_same dLaw_law_248 ?_
        refine us_iinc_3 dLaw_law_598 rfl (Nat.le_of_ble_eq_true rfl) ?_
        refine us_goto dLaw_law_601 ?_
        rw [show (i : Int) + 4 = ((i + 4 : Nat) : Int) by omega]
        exact ih (L - (i + 4)) (by omega) (i + 4) _ _ S1 rfl (by omega) (u1.ag (fun q e1 e2 => md_out (by omega))) md_again q1
      · skip
        refine us_tableIn dLaw_law_32 (by decide) (by decide) rfl (tg := 253) (by decide) ?_
        refine us_aload_n dLaw_law_253 rfl ?_
        refine us_v0 mUmp_clearText dLaw_law_254 kV_Law_37 hc ⟨(Nat.le_of_ble_eq_true rfl), rfl, rfl, (Nat.le_of_ble_eq_true rfl), (Nat.le_of_ble_eq_true rfl)⟩ (Nat.le_of_ble_eq_true rfl) (Nat.le_of_ble_eq_true rfl) rfl ?_
        refine c_clear hU (fun h1 u1 s1 => ?_)
        refine u_ko_1 ?_
        rw [← md_keep hf s1]
        refine us_aload_n dLaw_law_257 rfl ?_
        refine us_v0 mMod_clearText dLaw_law_258 kV_Law_40 md_obj ⟨(Nat.le_of_ble_eq_true rfl), rfl, rfl, (Nat.le_of_ble_eq_true rfl), (Nat.le_of_ble_eq_true rfl)⟩ (Nat.le_of_ble_eq_true rfl) (Nat.le_of_ble_eq_true rfl) rfl ?_
        refine d_clear hK (fun S1 q1 => ?_)
        refine u_ko_1 ?_
        refine us_icmp_same dLaw_law_261 ?_
        refine us_iinc_3 dLaw_law_598 rfl (Nat.le_of_ble_eq_true rfl) ?_
        refine us_goto dLaw_law_601 ?_
        rw [show (i : Int) + 4 = ((i + 4 : Nat) : Int) by omega]
        exact ih (L - (i + 4)) (by omega) (i + 4) _ _ S1 rfl (by omega) (u1.ag (fun q e1 e2 => md_out (by omega))) md_again q1
      · skip
        refine us_tableIn dLaw_law_32 (by decide) (by decide) rfl (tg := 266) (by decide) ?_
        refine us_aload_n dLaw_law_266 rfl ?_
        refine us_aload_n dLaw_law_267 rfl ?_
        refine us_iload_n dLaw_law_268 rfl ?_
        refine us_iconst dLaw_law_269 ?_
        refine us_iadd dLaw_law_270 ?_
        refine us_sld (j := (i + 1)) dLaw_law_271 rfl (by omega) (by omega) (by omega) ?_
        refine us_v1 mUmp_fault dLaw_law_272 kV_Law_41 hc ⟨(Nat.le_of_ble_eq_true rfl), rfl, rfl, (Nat.le_of_ble_eq_true rfl), (Nat.le_of_ble_eq_true rfl)⟩ (Nat.le_of_ble_eq_true rfl) (Nat.le_of_ble_eq_true rfl) rfl ?_
        refine c_fault hU (zr32 _) (fun Z h1 u1 s1 => ?_)
        refine u_ko_1 ?_
        rw [← md_keep hf s1]
        refine us_aload_n dLaw_law_275 rfl ?_
        refine us_aload_n dLaw_law_276 rfl ?_
        refine us_iload_n dLaw_law_277 rfl ?_
        refine us_iconst dLaw_law_278 ?_
        refine us_iadd dLaw_law_279 ?_
        refine us_sld (j := (i + 1)) dLaw_law_280 rfl (by omega) (by omega) (by omega) ?_
        refine us_v1 mMod_fault dLaw_law_281 kV_Law_44 md_obj ⟨(Nat.le_of_ble_eq_true rfl), rfl, rfl, (Nat.le_of_ble_eq_true rfl), (Nat.le_of_ble_eq_true rfl)⟩ (Nat.le_of_ble_eq_true rfl) (Nat.le_of_ble_eq_true rfl) rfl ?_
        refine d_fault (Z := Z) hK (zr32 _) (fun S1 q1 => ?_)
        refine u_ko_1 ?_
        refine us_icmp_same dLaw_law_284 ?_
        refine us_iinc_3 dLaw_law_598 rfl (Nat.le_of_ble_eq_true rfl) ?_
        refine us_goto dLaw_law_601 ?_
        rw [show (i : Int) + 4 = ((i + 4 : Nat) : Int) by omega]
        exact ih (L - (i + 4)) (by omega) (i + 4) _ _ S1 rfl (by omega) (u1.ag (fun q e1 e2 => md_out (by omega))) md_again q1
      · skip
        refine us_tableIn dLaw_law_32 (by decide) (by decide) rfl (tg := 289) (by decide) ?_
        refine us_aload_n dLaw_law_289 rfl ?_
        refine us_v0 mUmp_undo dLaw_law_290 kV_Law_45 hc ⟨(Nat.le_of_ble_eq_true rfl), rfl, rfl, (Nat.le_of_ble_eq_true rfl), (Nat.le_of_ble_eq_true rfl)⟩ (Nat.le_of_ble_eq_true rfl) (Nat.le_of_ble_eq_true rfl) rfl ?_
        refine c_undo hU (fun h1 u1 s1 => ?_)
        refine u_ko_1 ?_
        rw [← md_keep hf s1]
        refine us_aload_n dLaw_law_293 rfl ?_
        refine us_v0 mMod_undo dLaw_law_294 kV_Law_48 md_obj ⟨(Nat.le_of_ble_eq_true rfl), rfl, rfl, (Nat.le_of_ble_eq_true rfl), (Nat.le_of_ble_eq_true rfl)⟩ (Nat.le_of_ble_eq_true rfl) (Nat.le_of_ble_eq_true rfl) rfl ?_
        refine d_undo hK (fun S1 q1 => ?_)
        refine u_ko_1 ?_
        refine us_icmp_same dLaw_law_297 ?_
        refine us_iinc_3 dLaw_law_598 rfl (Nat.le_of_ble_eq_true rfl) ?_
        refine us_goto dLaw_law_601 ?_
        rw [show (i : Int) + 4 = ((i + 4 : Nat) : Int) by omega]
        exact ih (L - (i + 4)) (by omega) (i + 4) _ _ S1 rfl (by omega) (u1.ag (fun q e1 e2 => md_out (by omega))) md_again q1
      · skip
        refine us_tableIn dLaw_law_32 (by decide) (by decide) rfl (tg := 302) (by decide) ?_
        refine us_aload_n dLaw_law_302 rfl ?_
        refine us_v0 mUmp_keep dLaw_law_303 kV_Law_49 hc ⟨(Nat.le_of_ble_eq_true rfl), rfl, rfl, (Nat.le_of_ble_eq_true rfl), (Nat.le_of_ble_eq_true rfl)⟩ (Nat.le_of_ble_eq_true rfl) (Nat.le_of_ble_eq_true rfl) rfl ?_
        refine c_keep hU (fun h1 u1 s1 => ?_)
        refine u_ko_1 ?_
        rw [← md_keep hf s1]
        refine us_aload_n dLaw_law_306 rfl ?_
        refine us_v0 mMod_keep dLaw_law_307 kV_Law_52 md_obj ⟨(Nat.le_of_ble_eq_true rfl), rfl, rfl, (Nat.le_of_ble_eq_true rfl), (Nat.le_of_ble_eq_true rfl)⟩ (Nat.le_of_ble_eq_true rfl) (Nat.le_of_ble_eq_true rfl) rfl ?_
        refine d_keep hK (fun S1 q1 => ?_)
        refine u_ko_1 ?_
        refine us_icmp_same dLaw_law_310 ?_
        refine us_iinc_3 dLaw_law_598 rfl (Nat.le_of_ble_eq_true rfl) ?_
        refine us_goto dLaw_law_601 ?_
        rw [show (i : Int) + 4 = ((i + 4 : Nat) : Int) by omega]
        exact ih (L - (i + 4)) (by omega) (i + 4) _ _ S1 rfl (by omega) (u1.ag (fun q e1 e2 => md_out (by omega))) md_again q1
      · skip
        refine us_tableIn dLaw_law_32 (by decide) (by decide) rfl (tg := 315) (by decide) ?_
        refine us_aload_n dLaw_law_315 rfl ?_
        refine us_v0 mUmp_restore dLaw_law_316 kV_Law_53 hc ⟨(Nat.le_of_ble_eq_true rfl), rfl, rfl, (Nat.le_of_ble_eq_true rfl), (Nat.le_of_ble_eq_true rfl)⟩ (Nat.le_of_ble_eq_true rfl) (Nat.le_of_ble_eq_true rfl) rfl ?_
        refine c_restore hU (fun h1 u1 s1 => ?_)
        refine u_ko_1 ?_
        rw [← md_keep hf s1]
        refine us_aload_n dLaw_law_319 rfl ?_
        refine us_v0 mMod_restore dLaw_law_320 kV_Law_56 md_obj ⟨(Nat.le_of_ble_eq_true rfl), rfl, rfl, (Nat.le_of_ble_eq_true rfl), (Nat.le_of_ble_eq_true rfl)⟩ (Nat.le_of_ble_eq_true rfl) (Nat.le_of_ble_eq_true rfl) rfl ?_
        refine d_restore hK (fun S1 q1 => ?_)
        refine u_ko_1 ?_
        refine us_icmp_same dLaw_law_323 ?_
        refine us_iinc_3 dLaw_law_598 rfl (Nat.le_of_ble_eq_true rfl) ?_
        refine us_goto dLaw_law_601 ?_
        rw [show (i : Int) + 4 = ((i + 4 : Nat) : Int) by omega]
        exact ih (L - (i + 4)) (by omega) (i + 4) _ _ S1 rfl (by omega) (u1.ag (fun q e1 e2 => md_out (by omega))) md_again q1
      · skip
        refine us_tableIn dLaw_law_32 (by decide) (by decide) rfl (tg := 328) (by decide) ?_
        refine us_aload_n dLaw_law_328 rfl ?_
        refine us_aload_n dLaw_law_329 rfl ?_
        refine us_iload_n dLaw_law_330 rfl ?_
        refine us_iconst dLaw_law_331 ?_
        refine us_iadd dLaw_law_332 ?_
        refine us_sld (j := (i + 1)) dLaw_law_333 rfl (by omega) (by omega) (by omega) ?_
        refine us_aload_n dLaw_law_334 rfl ?_
        refine us_iload_n dLaw_law_335 rfl ?_
        refine us_iconst dLaw_law_336 ?_
        refine us_iadd dLaw_law_337 ?_
        refine us_sld (j := (i + 2)) dLaw_law_338 rfl (by omega) (by omega) (by omega) ?_
        refine us_v2 mUmp_charAt dLaw_law_339 kV_Law_57 hc ⟨(Nat.le_of_ble_eq_true rfl), rfl, rfl, (Nat.le_of_ble_eq_true rfl), (Nat.le_of_ble_eq_true rfl)⟩ (Nat.le_of_ble_eq_true rfl) (Nat.le_of_ble_eq_true rfl) rfl ?_
        refine c_charAt hU (zr32 _) (zr32 _) (fun h1 u1 s1 => ?_)
        refine u_ko_1 ?_
        rw [← md_keep hf s1]
        refine us_aload_n dLaw_law_342 rfl ?_
        refine us_aload_n dLaw_law_343 rfl ?_
        refine us_iload_n dLaw_law_344 rfl ?_
        refine us_iconst dLaw_law_345 ?_
        refine us_iadd dLaw_law_346 ?_
        refine us_sld (j := (i + 1)) dLaw_law_347 rfl (by omega) (by omega) (by omega) ?_
        refine us_aload_n dLaw_law_348 rfl ?_
        refine us_iload_n dLaw_law_349 rfl ?_
        refine us_iconst dLaw_law_350 ?_
        refine us_iadd dLaw_law_351 ?_
        refine us_sld (j := (i + 2)) dLaw_law_352 rfl (by omega) (by omega) (by omega) ?_
        refine us_v2 mMod_charAt dLaw_law_353 kV_Law_61 md_obj ⟨(Nat.le_of_ble_eq_true rfl), rfl, rfl, (Nat.le_of_ble_eq_true rfl), (Nat.le_of_ble_eq_true rfl)⟩ (Nat.le_of_ble_eq_true rfl) (Nat.le_of_ble_eq_true rfl) rfl ?_
        refine d_charAt hK (zr32 _) (zr32 _) (fun S1 q1 => ?_)
        refine u_ko_1 ?_
        refine us_icmp_same dLaw_law_356 ?_
        refine us_iinc_3 dLaw_law_598 rfl (Nat.le_of_ble_eq_true rfl) ?_
        refine us_goto dLaw_law_601 ?_
        rw [show (i : Int) + 4 = ((i + 4 : Nat) : Int) by omega]
        exact ih (L - (i + 4)) (by omega) (i + 4) _ _ S1 rfl (by omega) (u1.ag (fun q e1 e2 => md_out (by omega))) md_again q1
      · skip
        refine us_tableIn dLaw_law_32 (by decide) (by decide) rfl (tg := 361) (by decide) ?_
        refine us_aload_n dLaw_law_361 rfl ?_
        refine us_aload_n dLaw_law_362 rfl ?_
        refine us_iload_n dLaw_law_363 rfl ?_
        refine us_iconst dLaw_law_364 ?_
        refine us_iadd dLaw_law_365 ?_
        refine us_sld (j := (i + 1)) dLaw_law_366 rfl (by omega) (by omega) (by omega) ?_
        refine us_aload_n dLaw_law_367 rfl ?_
        refine us_iload_n dLaw_law_368 rfl ?_
        refine us_iconst dLaw_law_369 ?_
        refine us_iadd dLaw_law_370 ?_
        refine us_sld (j := (i + 2)) dLaw_law_371 rfl (by omega) (by omega) (by omega) ?_
        refine us_aload_n dLaw_law_372 rfl ?_
        refine us_iload_n dLaw_law_373 rfl ?_
        refine us_iconst dLaw_law_374 ?_
        refine us_iadd dLaw_law_375 ?_
        refine us_sld (j := (i + 3)) dLaw_law_376 rfl (by omega) (by omega) (by omega) ?_
        refine us_v3 mUmp_code dLaw_law_377 kV_Law_62 hc ⟨(Nat.le_of_ble_eq_true rfl), rfl, rfl, (Nat.le_of_ble_eq_true rfl), (Nat.le_of_ble_eq_true rfl)⟩ (Nat.le_of_ble_eq_true rfl) (Nat.le_of_ble_eq_true rfl) rfl ?_
        refine c_code hU (zr32 _) (zr32 _) (zr32 _) (fun h1 u1 s1 => ?_)
        refine u_ko_1 ?_
        rw [← md_keep hf s1]
        refine us_aload_n dLaw_law_380 rfl ?_
        refine us_aload_n dLaw_law_381 rfl ?_
        refine us_iload_n dLaw_law_382 rfl ?_
        refine us_iconst dLaw_law_383 ?_
        refine us_iadd dLaw_law_384 ?_
        refine us_sld (j := (i + 1)) dLaw_law_385 rfl (by omega) (by omega) (by omega) ?_
        refine us_aload_n dLaw_law_386 rfl ?_
        refine us_iload_n dLaw_law_387 rfl ?_
        refine us_iconst dLaw_law_388 ?_
        refine us_iadd dLaw_law_389 ?_
        refine us_sld (j := (i + 2)) dLaw_law_390 rfl (by omega) (by omega) (by omega) ?_
        refine us_aload_n dLaw_law_391 rfl ?_
        refine us_iload_n dLaw_law_392 rfl ?_
        refine us_iconst dLaw_law_393 ?_
        refine us_iadd dLaw_law_394 ?_
        refine us_sld (j := (i + 3)) dLaw_law_395 rfl (by omega) (by omega) (by omega) ?_
        refine us_v3 mMod_code dLaw_law_396 kV_Law_66 md_obj ⟨(Nat.le_of_ble_eq_true rfl), rfl, rfl, (Nat.le_of_ble_eq_true rfl), (Nat.le_of_ble_eq_true rfl)⟩ (Nat.le_of_ble_eq_true rfl) (Nat.le_of_ble_eq_true rfl) rfl ?_
        refine d_code hK (zr32 _) (zr32 _) (zr32 _) (fun S1 q1 => ?_)
        refine u_ko_1 ?_
        refine us_icmp_same dLaw_law_399 ?_
        refine us_iinc_3 dLaw_law_598 rfl (Nat.le_of_ble_eq_true rfl) ?_
        refine us_goto dLaw_law_601 ?_
        rw [show (i : Int) + 4 = ((i + 4 : Nat) : Int) by omega]
        exact ih (L - (i + 4)) (by omega) (i + 4) _ _ S1 rfl (by omega) (u1.ag (fun q e1 e2 => md_out (by omega))) md_again q1
      · skip
        refine us_tableIn dLaw_law_32 (by decide) (by decide) rfl (tg := 404) (by decide) ?_
        refine us_aload_n dLaw_law_404 rfl ?_
        refine us_aload_n dLaw_law_405 rfl ?_
        refine us_iload_n dLaw_law_406 rfl ?_
        refine us_iconst dLaw_law_407 ?_
        refine us_iadd dLaw_law_408 ?_
        refine us_sld (j := (i + 1)) dLaw_law_409 rfl (by omega) (by omega) (by omega) ?_
        refine us_aload_n dLaw_law_410 rfl ?_
        refine us_iload_n dLaw_law_411 rfl ?_
        refine us_iconst dLaw_law_412 ?_
        refine us_iadd dLaw_law_413 ?_
        refine us_sld (j := (i + 2)) dLaw_law_414 rfl (by omega) (by omega) (by omega) ?_
        refine us_v2 mUmp_bits dLaw_law_415 kV_Law_67 hc ⟨(Nat.le_of_ble_eq_true rfl), rfl, rfl, (Nat.le_of_ble_eq_true rfl), (Nat.le_of_ble_eq_true rfl)⟩ (Nat.le_of_ble_eq_true rfl) (Nat.le_of_ble_eq_true rfl) rfl ?_
        refine c_bits hU (zr32 _) (zr32 _) (fun h1 u1 s1 => ?_)
        refine u_ko_1 ?_
        rw [← md_keep hf s1]
        refine us_aload_n dLaw_law_418 rfl ?_
        refine us_aload_n dLaw_law_419 rfl ?_
        refine us_iload_n dLaw_law_420 rfl ?_
        refine us_iconst dLaw_law_421 ?_
        refine us_iadd dLaw_law_422 ?_
        refine us_sld (j := (i + 1)) dLaw_law_423 rfl (by omega) (by omega) (by omega) ?_
        refine us_aload_n dLaw_law_424 rfl ?_
        refine us_iload_n dLaw_law_425 rfl ?_
        refine us_iconst dLaw_law_426 ?_
        refine us_iadd dLaw_law_427 ?_
        refine us_sld (j := (i + 2)) dLaw_law_428 rfl (by omega) (by omega) (by omega) ?_
        refine us_v2 mMod_bits dLaw_law_429 kV_Law_70 md_obj ⟨(Nat.le_of_ble_eq_true rfl), rfl, rfl, (Nat.le_of_ble_eq_true rfl), (Nat.le_of_ble_eq_true rfl)⟩ (Nat.le_of_ble_eq_true rfl) (Nat.le_of_ble_eq_true rfl) rfl ?_
        refine d_bits hK (zr32 _) (zr32 _) (fun S1 q1 => ?_)
        refine u_ko_1 ?_
        refine us_icmp_same dLaw_law_432 ?_
        refine us_iinc_3 dLaw_law_598 rfl (Nat.le_of_ble_eq_true rfl) ?_
        refine us_goto dLaw_law_601 ?_
        rw [show (i : Int) + 4 = ((i + 4 : Nat) : Int) by omega]
        exact ih (L - (i + 4)) (by omega) (i + 4) _ _ S1 rfl (by omega) (u1.ag (fun q e1 e2 => md_out (by omega))) md_again q1
      · skip
        refine us_tableIn dLaw_law_32 (by decide) (by decide) rfl (tg := 437) (by decide) ?_
        by_cases hz : (xs (i + 1)).toInt = 0
        · skip
          refine us_aload_n dLaw_law_437 rfl ?_
          refine us_aload_n dLaw_law_438 rfl ?_
          refine us_iload_n dLaw_law_439 rfl ?_
          refine us_iconst dLaw_law_440 ?_
          refine us_iadd dLaw_law_441 ?_
          refine us_sld (j := (i + 1)) dLaw_law_442 rfl (by omega) (by omega) (by omega) ?_
          refine us_if_eq dLaw_law_443 (zr32 _) (fun cz => ?_) (fun cz => absurd hz cz)
          refine us_iconst dLaw_law_450 ?_
          refine us_v1 mUmp_wouldTake dLaw_law_451 kV_Law_71 hc ⟨(Nat.le_of_ble_eq_true rfl), rfl, rfl, (Nat.le_of_ble_eq_true rfl), (Nat.le_of_ble_eq_true rfl)⟩ (Nat.le_of_ble_eq_true rfl) (Nat.le_of_ble_eq_true rfl) rfl ?_
          refine c_would (al := false) hU hpv (fun Z h1 u1 s1 => ?_)
          refine u_ko_1 ?_
          rw [← md_keep hf s1]
          refine us_aload_n dLaw_law_454 rfl ?_
          refine us_aload_n dLaw_law_455 rfl ?_
          refine us_iload_n dLaw_law_456 rfl ?_
          refine us_iconst dLaw_law_457 ?_
          refine us_iadd dLaw_law_458 ?_
          refine us_sld (j := (i + 1)) dLaw_law_459 rfl (by omega) (by omega) (by omega) ?_
          refine us_if_eq dLaw_law_460 (zr32 _) (fun cz => ?_) (fun cz => absurd hz cz)
          refine us_iconst dLaw_law_467 ?_
          refine us_v1 mMod_wouldTake dLaw_law_468 kV_Law_75 md_obj ⟨(Nat.le_of_ble_eq_true rfl), rfl, rfl, (Nat.le_of_ble_eq_true rfl), (Nat.le_of_ble_eq_true rfl)⟩ (Nat.le_of_ble_eq_true rfl) (Nat.le_of_ble_eq_true rfl) rfl ?_
          refine d_would (al := false) (Z := Z) hK (fun S1 q1 => ?_)
          refine u_ko_1 ?_
          refine us_icmp_same dLaw_law_471 ?_
          refine us_iinc_3 dLaw_law_598 rfl (Nat.le_of_ble_eq_true rfl) ?_
          refine us_goto dLaw_law_601 ?_
          rw [show (i : Int) + 4 = ((i + 4 : Nat) : Int) by omega]
          exact ih (L - (i + 4)) (by omega) (i + 4) _ _ S1 rfl (by omega) (u1.ag (fun q e1 e2 => md_out (by omega))) md_again q1
        · skip
          refine us_aload_n dLaw_law_437 rfl ?_
          refine us_aload_n dLaw_law_438 rfl ?_
          refine us_iload_n dLaw_law_439 rfl ?_
          refine us_iconst dLaw_law_440 ?_
          refine us_iadd dLaw_law_441 ?_
          refine us_sld (j := (i + 1)) dLaw_law_442 rfl (by omega) (by omega) (by omega) ?_
          refine us_if_eq dLaw_law_443 (zr32 _) (fun cz => absurd cz hz) (fun cz => ?_)
          refine us_iconst dLaw_law_446 ?_
          refine us_goto dLaw_law_447 ?_
          refine us_v1 mUmp_wouldTake dLaw_law_451 kV_Law_71 hc ⟨(Nat.le_of_ble_eq_true rfl), rfl, rfl, (Nat.le_of_ble_eq_true rfl), (Nat.le_of_ble_eq_true rfl)⟩ (Nat.le_of_ble_eq_true rfl) (Nat.le_of_ble_eq_true rfl) rfl ?_
          refine c_would (al := true) hU hpv (fun Z h1 u1 s1 => ?_)
          refine u_ko_1 ?_
          rw [← md_keep hf s1]
          refine us_aload_n dLaw_law_454 rfl ?_
          refine us_aload_n dLaw_law_455 rfl ?_
          refine us_iload_n dLaw_law_456 rfl ?_
          refine us_iconst dLaw_law_457 ?_
          refine us_iadd dLaw_law_458 ?_
          refine us_sld (j := (i + 1)) dLaw_law_459 rfl (by omega) (by omega) (by omega) ?_
          refine us_if_eq dLaw_law_460 (zr32 _) (fun cz => absurd cz hz) (fun cz => ?_)
          refine us_iconst dLaw_law_463 ?_
          refine us_goto dLaw_law_464 ?_
          refine us_v1 mMod_wouldTake dLaw_law_468 kV_Law_75 md_obj ⟨(Nat.le_of_ble_eq_true rfl), rfl, rfl, (Nat.le_of_ble_eq_true rfl), (Nat.le_of_ble_eq_true rfl)⟩ (Nat.le_of_ble_eq_true rfl) (Nat.le_of_ble_eq_true rfl) rfl ?_
          refine d_would (al := true) (Z := Z) hK (fun S1 q1 => ?_)
          refine u_ko_1 ?_
          refine us_icmp_same dLaw_law_471 ?_
          refine us_iinc_3 dLaw_law_598 rfl (Nat.le_of_ble_eq_true rfl) ?_
          refine us_goto dLaw_law_601 ?_
          rw [show (i : Int) + 4 = ((i + 4 : Nat) : Int) by omega]
          exact ih (L - (i + 4)) (by omega) (i + 4) _ _ S1 rfl (by omega) (u1.ag (fun q e1 e2 => md_out (by omega))) md_again q1
      · skip
        refine us_tableIn dLaw_law_32 (by decide) (by decide) rfl (tg := 476) (by decide) ?_
        refine us_aload_n dLaw_law_476 rfl ?_
        refine us_aload_n dLaw_law_477 rfl ?_
        refine us_iload_n dLaw_law_478 rfl ?_
        refine us_iconst dLaw_law_479 ?_
        refine us_iadd dLaw_law_480 ?_
        refine us_sld (j := (i + 1)) dLaw_law_481 rfl (by omega) (by omega) (by omega) ?_
        refine us_aload_n dLaw_law_482 rfl ?_
        refine us_iload_n dLaw_law_483 rfl ?_
        refine us_iconst dLaw_law_484 ?_
        refine us_iadd dLaw_law_485 ?_
        refine us_sld (j := (i + 2)) dLaw_law_486 rfl (by omega) (by omega) (by omega) ?_
        refine us_v2 mUmp_path dLaw_law_487 kV_Law_76 hc ⟨(Nat.le_of_ble_eq_true rfl), rfl, rfl, (Nat.le_of_ble_eq_true rfl), (Nat.le_of_ble_eq_true rfl)⟩ (Nat.le_of_ble_eq_true rfl) (Nat.le_of_ble_eq_true rfl) rfl ?_
        refine c_path hU (zr32 _) (zr32 _) (fun h1 u1 s1 => ?_)
        refine u_ko_1 ?_
        rw [← md_keep hf s1]
        refine us_aload_n dLaw_law_490 rfl ?_
        refine us_aload_n dLaw_law_491 rfl ?_
        refine us_iload_n dLaw_law_492 rfl ?_
        refine us_iconst dLaw_law_493 ?_
        refine us_iadd dLaw_law_494 ?_
        refine us_sld (j := (i + 1)) dLaw_law_495 rfl (by omega) (by omega) (by omega) ?_
        refine us_aload_n dLaw_law_496 rfl ?_
        refine us_iload_n dLaw_law_497 rfl ?_
        refine us_iconst dLaw_law_498 ?_
        refine us_iadd dLaw_law_499 ?_
        refine us_sld (j := (i + 2)) dLaw_law_500 rfl (by omega) (by omega) (by omega) ?_
        refine us_v2 mMod_path dLaw_law_501 kV_Law_79 md_obj ⟨(Nat.le_of_ble_eq_true rfl), rfl, rfl, (Nat.le_of_ble_eq_true rfl), (Nat.le_of_ble_eq_true rfl)⟩ (Nat.le_of_ble_eq_true rfl) (Nat.le_of_ble_eq_true rfl) rfl ?_
        refine d_path hK (zr32 _) (zr32 _) (fun S1 q1 => ?_)
        refine u_ko_1 ?_
        refine us_icmp_same dLaw_law_504 ?_
        refine us_iinc_3 dLaw_law_598 rfl (Nat.le_of_ble_eq_true rfl) ?_
        refine us_goto dLaw_law_601 ?_
        rw [show (i : Int) + 4 = ((i + 4 : Nat) : Int) by omega]
        exact ih (L - (i + 4)) (by omega) (i + 4) _ _ S1 rfl (by omega) (u1.ag (fun q e1 e2 => md_out (by omega))) md_again q1
      · skip
        refine us_tableIn dLaw_law_32 (by decide) (by decide) rfl (tg := 509) (by decide) ?_
        refine us_aload_n dLaw_law_509 rfl ?_
        refine us_aload_n dLaw_law_510 rfl ?_
        refine us_iload_n dLaw_law_511 rfl ?_
        refine us_iconst dLaw_law_512 ?_
        refine us_iadd dLaw_law_513 ?_
        refine us_sld (j := (i + 1)) dLaw_law_514 rfl (by omega) (by omega) (by omega) ?_
        refine us_aload_n dLaw_law_515 rfl ?_
        refine us_iload_n dLaw_law_516 rfl ?_
        refine us_iconst dLaw_law_517 ?_
        refine us_iadd dLaw_law_518 ?_
        refine us_sld (j := (i + 2)) dLaw_law_519 rfl (by omega) (by omega) (by omega) ?_
        refine us_v2 mUmp_known dLaw_law_520 kV_Law_80 hc ⟨(Nat.le_of_ble_eq_true rfl), rfl, rfl, (Nat.le_of_ble_eq_true rfl), (Nat.le_of_ble_eq_true rfl)⟩ (Nat.le_of_ble_eq_true rfl) (Nat.le_of_ble_eq_true rfl) rfl ?_
        refine c_known hU (zr32 _) (zr32 _) (fun h1 u1 s1 => ?_)
        refine u_ko_1 ?_
        rw [← md_keep hf s1]
        refine us_aload_n dLaw_law_523 rfl ?_
        refine us_aload_n dLaw_law_524 rfl ?_
        refine us_iload_n dLaw_law_525 rfl ?_
        refine us_iconst dLaw_law_526 ?_
        refine us_iadd dLaw_law_527 ?_
        refine us_sld (j := (i + 1)) dLaw_law_528 rfl (by omega) (by omega) (by omega) ?_
        refine us_aload_n dLaw_law_529 rfl ?_
        refine us_iload_n dLaw_law_530 rfl ?_
        refine us_iconst dLaw_law_531 ?_
        refine us_iadd dLaw_law_532 ?_
        refine us_sld (j := (i + 2)) dLaw_law_533 rfl (by omega) (by omega) (by omega) ?_
        refine us_v2 mMod_known dLaw_law_534 kV_Law_83 md_obj ⟨(Nat.le_of_ble_eq_true rfl), rfl, rfl, (Nat.le_of_ble_eq_true rfl), (Nat.le_of_ble_eq_true rfl)⟩ (Nat.le_of_ble_eq_true rfl) (Nat.le_of_ble_eq_true rfl) rfl ?_
        refine d_known hK (zr32 _) (zr32 _) (fun S1 q1 => ?_)
        refine u_ko_1 ?_
        refine us_icmp_same dLaw_law_537 ?_
        refine us_iinc_3 dLaw_law_598 rfl (Nat.le_of_ble_eq_true rfl) ?_
        refine us_goto dLaw_law_601 ?_
        rw [show (i : Int) + 4 = ((i + 4 : Nat) : Int) by omega]
        exact ih (L - (i + 4)) (by omega) (i + 4) _ _ S1 rfl (by omega) (u1.ag (fun q e1 e2 => md_out (by omega))) md_again q1
      · skip
        refine us_tableIn dLaw_law_32 (by decide) (by decide) rfl (tg := 542) (by decide) ?_
        refine us_aload_n dLaw_law_542 rfl ?_
        refine us_aload_n dLaw_law_543 rfl ?_
        refine us_iload_n dLaw_law_544 rfl ?_
        refine us_iconst dLaw_law_545 ?_
        refine us_iadd dLaw_law_546 ?_
        refine us_sld (j := (i + 1)) dLaw_law_547 rfl (by omega) (by omega) (by omega) ?_
        refine us_aload_n dLaw_law_548 rfl ?_
        refine us_iload_n dLaw_law_549 rfl ?_
        refine us_iconst dLaw_law_550 ?_
        refine us_iadd dLaw_law_551 ?_
        refine us_sld (j := (i + 2)) dLaw_law_552 rfl (by omega) (by omega) (by omega) ?_
        refine us_v2 mUmp_latest dLaw_law_553 kV_Law_84 hc ⟨(Nat.le_of_ble_eq_true rfl), rfl, rfl, (Nat.le_of_ble_eq_true rfl), (Nat.le_of_ble_eq_true rfl)⟩ (Nat.le_of_ble_eq_true rfl) (Nat.le_of_ble_eq_true rfl) rfl ?_
        refine c_latest hU (zr32 _) (zr32 _) (fun h1 u1 s1 => ?_)
        refine u_ko_1 ?_
        rw [← md_keep hf s1]
        refine us_aload_n dLaw_law_556 rfl ?_
        refine us_aload_n dLaw_law_557 rfl ?_
        refine us_iload_n dLaw_law_558 rfl ?_
        refine us_iconst dLaw_law_559 ?_
        refine us_iadd dLaw_law_560 ?_
        refine us_sld (j := (i + 1)) dLaw_law_561 rfl (by omega) (by omega) (by omega) ?_
        refine us_aload_n dLaw_law_562 rfl ?_
        refine us_iload_n dLaw_law_563 rfl ?_
        refine us_iconst dLaw_law_564 ?_
        refine us_iadd dLaw_law_565 ?_
        refine us_sld (j := (i + 2)) dLaw_law_566 rfl (by omega) (by omega) (by omega) ?_
        refine us_v2 mMod_latest dLaw_law_567 kV_Law_87 md_obj ⟨(Nat.le_of_ble_eq_true rfl), rfl, rfl, (Nat.le_of_ble_eq_true rfl), (Nat.le_of_ble_eq_true rfl)⟩ (Nat.le_of_ble_eq_true rfl) (Nat.le_of_ble_eq_true rfl) rfl ?_
        refine d_latest hK (zr32 _) (zr32 _) (fun S1 q1 => ?_)
        refine u_ko_1 ?_
        refine us_icmp_same dLaw_law_570 ?_
        refine us_iinc_3 dLaw_law_598 rfl (Nat.le_of_ble_eq_true rfl) ?_
        refine us_goto dLaw_law_601 ?_
        rw [show (i : Int) + 4 = ((i + 4 : Nat) : Int) by omega]
        exact ih (L - (i + 4)) (by omega) (i + 4) _ _ S1 rfl (by omega) (u1.ag (fun q e1 e2 => md_out (by omega))) md_again q1
      · skip
        refine us_tableIn dLaw_law_32 (by decide) (by decide) rfl (tg := 575) (by decide) ?_
        refine us_aload_n dLaw_law_575 rfl ?_
        refine us_aload_n dLaw_law_576 rfl ?_
        refine us_iload_n dLaw_law_577 rfl ?_
        refine us_iconst dLaw_law_578 ?_
        refine us_iadd dLaw_law_579 ?_
        refine us_sld (j := (i + 1)) dLaw_law_580 rfl (by omega) (by omega) (by omega) ?_
        refine us_v1 mUmp_count dLaw_law_581 kV_Law_88 hc ⟨(Nat.le_of_ble_eq_true rfl), rfl, rfl, (Nat.le_of_ble_eq_true rfl), (Nat.le_of_ble_eq_true rfl)⟩ (Nat.le_of_ble_eq_true rfl) (Nat.le_of_ble_eq_true rfl) rfl ?_
        refine c_count hU (zr32 _) (fun h1 u1 s1 => ?_)
        refine u_ko_1 ?_
        rw [← md_keep hf s1]
        refine us_aload_n dLaw_law_584 rfl ?_
        refine us_aload_n dLaw_law_585 rfl ?_
        refine us_iload_n dLaw_law_586 rfl ?_
        refine us_iconst dLaw_law_587 ?_
        refine us_iadd dLaw_law_588 ?_
        refine us_sld (j := (i + 1)) dLaw_law_589 rfl (by omega) (by omega) (by omega) ?_
        refine us_v1 mMod_count dLaw_law_590 kV_Law_91 md_obj ⟨(Nat.le_of_ble_eq_true rfl), rfl, rfl, (Nat.le_of_ble_eq_true rfl), (Nat.le_of_ble_eq_true rfl)⟩ (Nat.le_of_ble_eq_true rfl) (Nat.le_of_ble_eq_true rfl) rfl ?_
        refine d_count hK (zr32 _) (fun S1 q1 => ?_)
        refine u_ko_1 ?_
        refine us_icmp_same dLaw_law_593 ?_
        refine us_iinc_3 dLaw_law_598 rfl (Nat.le_of_ble_eq_true rfl) ?_
        refine us_goto dLaw_law_601 ?_
        rw [show (i : Int) + 4 = ((i + 4 : Nat) : Int) by omega]
        exact ih (L - (i + 4)) (by omega) (i + 4) _ _ S1 rfl (by omega) (u1.ag (fun q e1 e2 => md_out (by omega))) md_again q1
      · skip
        refine us_tableOut dLaw_law_32 hw hww (tg := 598) (by decide) ?_
        refine us_iinc_3 dLaw_law_598 rfl (Nat.le_of_ble_eq_true rfl) ?_
        refine us_goto dLaw_law_601 ?_
        rw [show (i : Int) + 4 = ((i + 4 : Nat) : Int) by omega]
        exact ih (L - (i + 4)) (by omega) (i + 4) h B S rfl (by omega) hU hf hK
theorem law_0 {b L x : Nat} {xs : Nat → Int32} {h : uHp} {Q : uPs} (hL : L ≤ 2048) (nx : h.1 = x) (hQ : ∀ h : uHp, Q (some (ub true)) h) : uW (mLaw_law b L xs) 0 [.ref b, .null, .null, .null] [] h 0 0 Q := by
  refine us_newG nx dLaw_law_0 (ci := 8) rfl kC_Law_7 dv_8 (Nat.le_of_ble_eq_true rfl) (Nat.le_of_ble_eq_true rfl) (fun h1 n1 c1 g1 => ?_)
  refine us_dup dLaw_law_3 rfl ?_
  refine us_callI dLaw_law_4 (As := []) (b := x) rfl kI_Law_9.1 rfl (Nat.le_of_ble_eq_true rfl) rfl rfl kI_Law_9.2.1 kI_Law_9.2.2.1 (Nat.le_of_ble_eq_true rfl) (Nat.le_of_ble_eq_true rfl) (Nat.le_of_ble_eq_true rfl) (Nat.le_of_ble_eq_true rfl) rfl ?_
  refine i_Ump n1 c1 (fun h2 n2 u2 g2 => ?_)
  refine u_ko_0 ?_
  refine us_astore_1 dLaw_law_7 rfl (Nat.le_of_ble_eq_true rfl) ?_
  refine us_newG n2 dLaw_law_8 (ci := 9) rfl kC_Law_10 dv_9 (Nat.le_of_ble_eq_true rfl) (Nat.le_of_ble_eq_true rfl) (fun h3 n3 c3 g3 => ?_)
  refine us_dup dLaw_law_11 rfl ?_
  refine us_callI dLaw_law_12 (As := []) (b := x + 775) rfl kI_Law_12.1 rfl (Nat.le_of_ble_eq_true rfl) rfl rfl kI_Law_12.2.1 kI_Law_12.2.2.1 (Nat.le_of_ble_eq_true rfl) (Nat.le_of_ble_eq_true rfl) (Nat.le_of_ble_eq_true rfl) (Nat.le_of_ble_eq_true rfl) rfl ?_
  refine i_Mod n3 c3 (fun h4 n4 f4 g4 => ?_)
  refine u_ko_0 ?_
  refine us_astore_2 dLaw_law_15 rfl (Nat.le_of_ble_eq_true rfl) ?_
  refine us_iconst dLaw_law_16 ?_
  refine us_istore_3 dLaw_law_17 rfl (Nat.le_of_ble_eq_true rfl) ?_
  exact law_18 hL hQ L 0 h4 uB0 uS0 rfl (by omega) (u2.ag (fun q e1 e2 => (g4 q (by omega)).trans (g3 q (by omega)))) f4 rKB0
