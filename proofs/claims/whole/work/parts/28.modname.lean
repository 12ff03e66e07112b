/-! the reference: names by where they stand -/
theorem idx_at : ∀ (xs : List Int) (x : Int) (j : Nat), j < xs.length → ratI xs (j : Int) = x → (∀ i : Nat, i < j → ratI xs (i : Int) ≠ x) → xs.idxOf x = j
  | [], x, j, h, _, _ => absurd h (by simp)
  | z :: zs, x, 0, _, h2, _ => by
    have h2 : z = x := h2
    subst h2
    exact List.idxOf_cons_self
  | z :: zs, x, j + 1, h1, h2, h3 => by
    have h4 : z ≠ x := h3 0 (by omega)
    rw [List.idxOf_cons, show (z == x) = false by simp [h4], cond_false]
    congr 1
    refine idx_at zs x j (by simpa using h1) ?_ (fun i hi => ?_)
    · have e : ∀ l : List Int, ratI l (((j + 1 : Nat)) : Int) = l.getD (j + 1) 0 := fun l => if_pos (by omega)
      have e2 : ∀ l : List Int, ratI l ((j : Nat) : Int) = l.getD j 0 := fun l => if_pos (by omega)
      rw [e] at h2
      rw [e2]
      exact h2
    · have e := h3 (i + 1) (by omega)
      have e1 : ∀ l : List Int, ratI l (((i + 1 : Nat)) : Int) = l.getD (i + 1) 0 := fun l => if_pos (by omega)
      have e2 : ∀ l : List Int, ratI l ((i : Nat) : Int) = l.getD i 0 := fun l => if_pos (by omega)
      rw [e1] at e
      rw [e2]
      exact e
theorem idx_no {xs : List Int} {x : Int} (h : ∀ i : Nat, i < xs.length → ratI xs (i : Int) ≠ x) : xs.idxOf x = xs.length := by
  have h1 := List.idxOf_le_length (l := xs) (a := x)
  by_cases h2 : xs.idxOf x < xs.length
  · have e := h _ h2
    have e2 : ∀ l : List Int, ratI l ((xs.idxOf x : Nat) : Int) = l.getD (xs.idxOf x) 0 := fun l => if_pos (by omega)
    rw [e2, List.getD_eq_getElem?_getD, List.getElem?_eq_getElem h2] at e
    exact absurd (List.getElem_idxOf h2) e
  · omega
/-- cells hi, hi - 1, .. (n of them) take what stands t before them -/
def mH (S : uMS) (f t hi n : Nat) : uMS := (S.1, fun g q => if g = f ∧ hi < q + n ∧ q ≤ hi then S.2 f (q - t) else S.2 g q)
theorem mH_2 (S : uMS) (f t hi n g q : Nat) : (mH S f t hi n).2 g q = if g = f ∧ hi < q + n ∧ q ≤ hi then S.2 f (q - t) else S.2 g q := rfl
theorem mH_zero (S : uMS) (f t hi : Nat) : mH S f t hi 0 = S := by
  refine Prod.ext rfl ?_
  funext g q
  exact if_neg (fun x => by omega)
theorem mH_succ (S : uMS) (f t hi n : Nat) (h : n ≤ hi) : mH S f t hi (n + 1) = mA (mH S f t hi n) f (hi - n) (S.2 f (hi - n - t)) := by
  refine Prod.ext rfl ?_
  funext g q
  rw [mA_2, mH_2, mH_2]
  by_cases h1 : g = f ∧ q = hi - n
  · rw [if_pos (by omega), if_pos h1, h1.2]
  · rw [if_neg h1]
    by_cases h2 : g = f ∧ hi < q + n ∧ q ≤ hi
    · rw [if_pos h2, if_pos (by omega)]
    · rw [if_neg h2, if_neg (by omega)]
theorem mH_ne {S : uMS} {f t hi n g q : Nat} (h : g ≠ f) : (mH S f t hi n).2 g q = S.2 g q := if_neg (fun x => h x.1)
theorem mH_low {S : uMS} {f t hi n g q : Nat} (h : q + n ≤ hi) : (mH S f t hi n).2 g q = S.2 g q := if_neg (fun x => by omega)
theorem nodup_len : ∀ (n : Nat) (l : List Int), l.Nodup → (∀ x ∈ l, 0 ≤ x ∧ x < (n : Int)) → l.length ≤ n
  | 0, l, _, h => by
    match l, h with
    | [], _ => exact Nat.le_refl _
    | x :: t, h => exact absurd (h x List.mem_cons_self) (by omega)
  | n + 1, l, hd, h => by
    by_cases hm : (n : Int) ∈ l
    · have e := nodup_len n (l.erase (n : Int)) (hd.erase _) (fun x hx => by
        have h1 := (List.Nodup.mem_erase_iff hd).mp hx
        have h2 := h x h1.2
        have h3 := h1.1
        omega)
      rw [List.length_erase_of_mem hm] at e
      omega
    · have e := nodup_len n l hd (fun x hx => by
        have h2 := h x hx
        have h3 : x ≠ (n : Int) := fun q => hm (q ▸ hx)
        omega)
      omega
def uNR (S : uMS) (N : Nat → List Int) : Prop := ∀ a, a < 7 → S.2 21 a = ((N a).length : Int) ∧ (∀ j, j < (N a).length → S.2 20 (6 * a + j) = ratI (N a) (j : Int)) ∧ (N a).Nodup ∧ ∀ x ∈ N a, 0 ≤ x ∧ x < 6
theorem uNR.len {S : uMS} {N : Nat → List Int} (h : uNR S N) {a : Nat} (ha : a < 7) : (N a).length ≤ 6 := nodup_len 6 _ (h a ha).2.2.1 (h a ha).2.2.2
theorem uNR.room {S : uMS} {N : Nat → List Int} (h : uNR S N) {a : Nat} (ha : a < 7) {x : Int} (hx : 0 ≤ x ∧ x < 6) : (N a).idxOf x < 6 := by
  by_cases hm : x ∈ N a
  · have := List.idxOf_lt_length_iff.mpr hm
    have := h.len ha
    omega
  · have e := nodup_len 6 (x :: N a) (List.nodup_cons.mpr ⟨hm, (h a ha).2.2.1⟩) (fun z hz => by
      rcases List.mem_cons.mp hz with rfl | hz
      · exact hx
      · exact (h a ha).2.2.2 z hz)
    have := List.idxOf_le_length (l := N a) (a := x)
    simp at e
    omega
theorem uNR.same {S S' : uMS} {N : Nat → List Int} (h : uNR S N) (e0 : S'.2 20 = S.2 20) (e1 : S'.2 21 = S.2 21) : uNR S' N := fun a ha => by rw [e0, e1]; exact h a ha
theorem uNR.front {S S' : uMS} {N : Nat → List Int} {a : Nat} {x : Int} (h : uNR S N) (ha : a < 7) (hx : 0 ≤ x ∧ x < 6)
    (e1 : ∀ q, S'.2 21 q = if q = a then (if (N a).idxOf x = (N a).length then ((N a).length : Int) + 1 else ((N a).length : Int)) else S.2 21 q)
    (e2 : ∀ q, S'.2 20 q = if q = 6 * a then x else if 6 * a < q ∧ q ≤ 6 * a + (N a).idxOf x then S.2 20 (q - 1) else S.2 20 q) : uNR S' (uP N a (mfI 6 (N a) x)) := by
  intro c hc
  by_cases hca : c = a
  · subst hca
    obtain ⟨f1, f2, f3, f4⟩ := h c hc
    have hr := h.room hc hx
    have hle := List.idxOf_le_length (l := N c) (a := x)
    have hL := h.len hc
    rw [uP_eq, show mfI 6 (N c) x = x :: (N c).eraseIdx ((N c).idxOf x) from if_pos hr]
    have hlen : (x :: (N c).eraseIdx ((N c).idxOf x)).length = if (N c).idxOf x = (N c).length then (N c).length + 1 else (N c).length := by
      rw [List.length_cons, List.length_eraseIdx]
      split
      · rw [if_neg (by omega)]; omega
      · rw [if_pos (by omega)]
    refine ⟨?_, fun j hj => ?_, ?_, ?_⟩
    · rw [e1, if_pos rfl, hlen]
      split <;> rfl
    · rw [e2]
      have ez : ∀ (l : List Int) (i : Nat), ratI l (i : Int) = l.getD i 0 := fun l i => if_pos (by omega)
      match j, hj with
      | 0, _ => rw [if_pos (by omega)]; rfl
      | j + 1, hj =>
        rw [hlen] at hj
        rw [if_neg (by omega), ez, List.getD_cons_succ, List.getD_eq_getElem?_getD, List.getElem?_eraseIdx]
        by_cases hp : j < (N c).idxOf x
        · rw [if_pos (by omega), if_pos hp, show 6 * c + (j + 1) - 1 = 6 * c + j by omega, f2 j (by omega), ez, List.getD_eq_getElem?_getD]
        · have hjl : j + 1 < (N c).length := by
            split at hj <;> omega
          rw [if_neg (by omega), if_neg hp, f2 (j + 1) hjl, ez, List.getD_eq_getElem?_getD]
    · refine List.nodup_cons.mpr ⟨?_, f3.sublist (List.eraseIdx_sublist _ _)⟩
      rw [← List.erase_eq_eraseIdx_of_idxOf rfl]
      exact fun q => (List.Nodup.mem_erase_iff f3).mp q |>.1 rfl
    · intro z hz
      rcases List.mem_cons.mp hz with rfl | hz
      · exact hx
      · exact f4 z ((List.eraseIdx_sublist _ _).subset hz)
  · rw [uP_ne hca]
    obtain ⟨f1, f2, f3⟩ := h c hc
    have hL := h.len hc
    refine ⟨?_, fun j hj => ?_, f3⟩
    · rw [e1, if_neg hca]; exact f1
    · have hr := h.room ha hx
      rw [e2, if_neg (by omega), if_neg (by omega)]
      exact f2 j hj
/-- all but names' lists and codes -/
def uKN (S S' : uMS) : Prop := S'.1 = S.1 ∧ ∀ f, f ≠ 20 → f ≠ 21 → f ≠ 26 → f ≠ 27 → S'.2 f = S.2 f
theorem c_Mod_codesName_36 {h : uHp} {y : Nat} {S : uMS} {N : Nat → List Int} {a : Nat} {b nm : Int} {v5 : Value} {Q : uPs} (hN : uNR S N) (ha : a < 7) (hn : 0 ≤ nm ∧ nm < 6) : ∀ (n j : Nat), n + j = (N a).length → (∀ i : Nat, i < j → ratI (N a) (i : Int) ≠ nm) → uW mMod_codesName 69 [.ref y, ui b, ui (a : Int), ui nm, ui (((N a).idxOf nm : Nat) : Int), v5] [] (u_mod h y S) 0 0 Q → uW mMod_codesName 36 [.ref y, ui b, ui (a : Int), ui nm, ui (j : Int), v5] [] (u_mod h y S) 0 0 Q := by
  obtain ⟨e1, e2, e3, e4⟩ := hN a ha
  have hL := hN.len ha
  intro n
  induction n with
  | zero =>
    intro j hj hb K
    refine us_iload dMod_codesName_36 rfl ?_
    refine us_aload_n dMod_codesName_38 rfl ?_
    refine us_getf 9 21 dMod_codesName_39 kF_Mod_43 md_obj rfl ?_
    refine us_iload_n dMod_codesName_42 rfl ?_
    refine us_iald a dMod_codesName_43 md_a12 rfl (by omega) (by omega) rfl ?_
    rw [e1]
    refine us_icmp_ge dMod_codesName_44 (by omega) (fun c1 => ?_) (fun c1 => absurd c1 (by omega))
    rw [idx_no (xs := N a) (x := nm) (fun i hi => hb i (by omega))] at K
    rw [show j = (N a).length by omega]
    exact K
  | succ n ih =>
    intro j hj hb K
    refine us_iload dMod_codesName_36 rfl ?_
    refine us_aload_n dMod_codesName_38 rfl ?_
    refine us_getf 9 21 dMod_codesName_39 kF_Mod_43 md_obj rfl ?_
    refine us_iload_n dMod_codesName_42 rfl ?_
    refine us_iald a dMod_codesName_43 md_a12 rfl (by omega) (by omega) rfl ?_
    rw [e1]
    refine us_icmp_ge dMod_codesName_44 (by omega) (fun c1 => absurd c1 (by omega)) (fun c1 => ?_)
    refine us_aload_n dMod_codesName_47 rfl ?_
    refine us_getf 9 20 dMod_codesName_48 kF_Mod_40 md_obj rfl ?_
    refine us_bipush dMod_codesName_51 (by decide) ?_
    refine us_iload_n dMod_codesName_53 rfl ?_
    refine us_imul dMod_codesName_54 ?_
    refine us_iload dMod_codesName_55 rfl ?_
    refine us_iadd dMod_codesName_57 ?_
    refine us_iald (6 * a + j) dMod_codesName_58 md_a11 (by omega) (by omega) (by omega) (congrArg ui (e2 j (by omega))) ?_
    refine us_iload_n dMod_codesName_59 rfl ?_
    have hz := e4 _ (ratI_mem (xs := N a) (j := j) (by omega))
    refine us_icmp_eq dMod_codesName_60 (by omega) (fun c2 => ?_) (fun c2 => ?_)
    · skip
      rw [idx_at (N a) nm j (by omega) (by assumption) hb] at K
      exact K
    · skip
      refine us_iinc_4 dMod_codesName_63 rfl (Nat.le_of_ble_eq_true rfl) ?_
      refine us_goto dMod_codesName_66 ?_
      rw [show (j : Int) + 1 = ((j + 1 : Nat) : Int) from by omega]
      refine ih (j + 1) (by omega) (fun i hi => ?_) K
      by_cases hij : i = j
      · rw [hij]; assumption
      · exact hb i (by omega)

theorem c_Mod_codesName_113 {h : uHp} {y : Nat} {S : uMS} {a p : Nat} {b nm v : Int} {Q : uPs} (ha : a < 7) (hp : p < 6) : ∀ (n : Nat), n ≤ p → uW mMod_codesName 150 [.ref y, ui b, ui (a : Int), ui nm, ui v, ui ((0 : Nat) : Int)] [] (u_mod h y (mH S 20 1 (6 * a + p) p)) 0 0 Q → uW mMod_codesName 113 [.ref y, ui b, ui (a : Int), ui nm, ui v, ui (n : Int)] [] (u_mod h y (mH S 20 1 (6 * a + p) (p - n))) 0 0 Q := by
  intro n
  induction n with
  | zero =>
    intro hn K
    refine us_iload dMod_codesName_113 rfl ?_
    refine us_if_le dMod_codesName_115 (by omega) (fun c1 => ?_) (fun c1 => absurd c1 (by omega))
    exact K
  | succ n ih =>
    intro hn K
    refine us_iload dMod_codesName_113 rfl ?_
    refine us_if_le dMod_codesName_115 (by omega) (fun c1 => absurd c1 (by omega)) (fun c1 => ?_)
    refine us_aload_n dMod_codesName_118 rfl ?_
    refine us_getf 9 20 dMod_codesName_119 kF_Mod_40 md_obj rfl ?_
    refine us_bipush dMod_codesName_122 (by decide) ?_
    refine us_iload_n dMod_codesName_124 rfl ?_
    refine us_imul dMod_codesName_125 ?_
    refine us_iload dMod_codesName_126 rfl ?_
    refine us_iadd dMod_codesName_128 ?_
    refine us_aload_n dMod_codesName_129 rfl ?_
    refine us_getf 9 20 dMod_codesName_130 kF_Mod_40 md_obj rfl ?_
    refine us_bipush dMod_codesName_133 (by decide) ?_
    refine us_iload_n dMod_codesName_135 rfl ?_
    refine us_imul dMod_codesName_136 ?_
    refine us_iload dMod_codesName_137 rfl ?_
    refine us_iadd dMod_codesName_139 ?_
    refine us_iconst dMod_codesName_140 ?_
    refine us_isub dMod_codesName_141 ?_
    refine us_iald (6 * a + n) dMod_codesName_142 md_a11 (by omega) (by omega) (by omega) (congrArg ui (mH_low (by omega))) ?_
    refine ms_iast 11 20 (6 * a + p - (p - (n + 1))) dMod_codesName_143 ⟨by decide, by decide, rfl, rfl⟩ (by omega) (show _ < 42 from (by omega)) ?_
    refine us_iinc_5 dMod_codesName_144 rfl (Nat.le_of_ble_eq_true rfl) ?_
    refine us_goto dMod_codesName_147 ?_
    have e := mH_succ S 20 1 (6 * a + p) (p - (n + 1)) (by omega)
    rw [show p - (n + 1) + 1 = p - n by omega, show 6 * a + p - (p - (n + 1)) - 1 = 6 * a + n by omega] at e
    rw [← e, show ((n + 1 : Nat) : Int) + -1 = (n : Int) by omega]
    exact ih (by omega) K

theorem c_Mod_codesName_109 {h : uHp} {y : Nat} {S : uMS} {N : Nat → List Int} {a : Nat} {b nm : Int} {v5 : Value} {Q : uPs} (ha : a < 7) (hr : (N a).idxOf nm < 6) (hQ : Q none (u_mod h y (mA (mH S 20 1 (6 * a + (N a).idxOf nm) ((N a).idxOf nm)) 20 (6 * a) nm))) : uW mMod_codesName 109 [.ref y, ui b, ui (a : Int), ui nm, ui (((N a).idxOf nm : Nat) : Int), v5] [] (u_mod h y S) 0 0 Q := by
  refine us_iload dMod_codesName_109 rfl ?_
  refine us_istore_5 dMod_codesName_111 rfl (Nat.le_of_ble_eq_true rfl) ?_
  have e := c_Mod_codesName_113 (h := h) (y := y) (S := S) (b := b) (nm := nm) (v := (((N a).idxOf nm : Nat) : Int)) (Q := Q) ha hr ((N a).idxOf nm) (Nat.le_refl _) ?_
  · rw [Nat.sub_self, mH_zero] at e
    exact e
  refine us_aload_n dMod_codesName_150 rfl ?_
  refine us_getf 9 20 dMod_codesName_151 kF_Mod_40 md_obj rfl ?_
  refine us_bipush dMod_codesName_154 (by decide) ?_
  refine us_iload_n dMod_codesName_156 rfl ?_
  refine us_imul dMod_codesName_157 ?_
  refine us_iload_n dMod_codesName_158 rfl ?_
  refine ms_iast 11 20 (6 * a) dMod_codesName_159 ⟨by decide, by decide, rfl, rfl⟩ (by omega) (show _ < 42 from (by omega)) ?_
  refine us_return dMod_codesName_160 rfl (Nat.le_of_ble_eq_true rfl) (Nat.le_of_ble_eq_true rfl) ?_
  exact hQ

theorem uCR.same {S S' : uMS} {C : Nat → List Int} (h : uCR S C) (e0 : S'.2 26 = S.2 26) (e1 : S'.2 27 = S.2 27) : uCR S' C := fun r hr => by rw [e0, e1]; exact h r hr
theorem c_Mod_codesName_26 {h : uHp} {y : Nat} {S : uMS} {N C : Nat → List Int} {a b : Nat} {nm : Int} {v3 v4 v5 : Value} {Q : uPs} (hC : uCR S C) (hN : uNR S N) (ha : a < 7) (hn : 0 ≤ nm ∧ nm < 6) (hb : b < 40) (hb0 : S.2 11 (13 * b) = nm) (hl : (C 1).length < 100) (hQ : ∀ S' : uMS, uCR S' (uP C 1 (appI 100 (C 1) (if plcI (N a) nm = -1 then ((N a).length : Int) + nm else plcI (N a) nm))) → uNR S' (uP N a (mfI 6 (N a) nm)) → uKN S S' → Q none (u_mod h y S')) : uW mMod_codesName 26 [.ref y, ui (b : Int), ui (a : Int), v3, v4, v5] [] (u_mod h y S) 0 0 Q := by
  have hr := hN.room ha hn
  have hL := hN.len ha
  have f1 := (hN a ha).1
  have hle := List.idxOf_le_length (l := N a) (a := nm)
  refine us_aload_n dMod_codesName_26 rfl ?_
  refine us_iload_n dMod_codesName_27 rfl ?_
  refine us_iconst dMod_codesName_28 ?_
  refine us_v2 mMod_box dMod_codesName_29 kV_Mod_97 md_obj ⟨by decide, rfl, rfl, (Nat.le_of_ble_eq_true rfl), (Nat.le_of_ble_eq_true rfl)⟩ (Nat.le_of_ble_eq_true rfl) (Nat.le_of_ble_eq_true rfl) rfl ?_
  refine c_Mod_box (13 * b) (by omega) (by omega) ?_
  rw [hb0]
  refine u_ko_1 ?_
  refine us_istore_3 dMod_codesName_32 rfl (Nat.le_of_ble_eq_true rfl) ?_
  refine us_iconst dMod_codesName_33 ?_
  refine us_istore_4 dMod_codesName_34 rfl (Nat.le_of_ble_eq_true rfl) ?_
  refine c_Mod_codesName_36 hN ha hn (N a).length 0 (by omega) (fun i hi => absurd hi (by omega)) ?_
  refine us_iload dMod_codesName_69 rfl ?_
  refine us_aload_n dMod_codesName_71 rfl ?_
  refine us_getf 9 21 dMod_codesName_72 kF_Mod_43 md_obj rfl ?_
  refine us_iload_n dMod_codesName_75 rfl ?_
  refine us_iald a dMod_codesName_76 md_a12 rfl (by omega) (by omega) (congrArg ui f1) ?_
  refine us_icmp_ne dMod_codesName_77 (by omega) (fun c1 => ?_) (fun c1 => ?_)
  · skip
    rw [show plcI (N a) nm = (((N a).idxOf nm : Nat) : Int) by rw [plcI_idx, if_pos (by omega)], if_neg (by omega)] at hQ
    refine us_aload_n dMod_codesName_102 rfl ?_
    refine us_iconst dMod_codesName_103 ?_
    refine us_iload dMod_codesName_104 rfl ?_
    refine us_v2 mMod_codes dMod_codesName_106 kV_Mod_150 md_obj ⟨by decide, rfl, rfl, (Nat.le_of_ble_eq_true rfl), (Nat.le_of_ble_eq_true rfl)⟩ (Nat.le_of_ble_eq_true rfl) (Nat.le_of_ble_eq_true rfl) rfl ?_
    refine c_Mod_codes hC 1 (by decide) hl (by omega) (fun S1 hC1 hK1 => ?_)
    refine u_ko_0 ?_
    refine c_Mod_codesName_109 ha hr ?_
    refine hQ _ (hC1.same ?_ ?_) (hN.front ha hn (fun q => ?_) (fun q => ?_)) ⟨?_, fun f h1 h2 h3 h4 => ?_⟩
    · funext q; rw [mA_ne (by decide), mH_ne (by decide)]
    · funext q; rw [mA_ne (by decide), mH_ne (by decide)]
    · rw [mA_ne (by decide), mH_ne (by decide)]
      rw [hK1.2 21 (by decide) (by decide)]
      by_cases hq : q = a
      · rw [if_pos hq, if_neg (by omega), hq]; exact f1
      · rw [if_neg hq]
    · rw [mA_2, mH_2]
      have ee : ∀ q, S1.2 20 q = S.2 20 q := fun q => by rw [hK1.2 20 (by decide) (by decide)]
      rw [ee, ee]
      by_cases hq : q = 6 * a
      · rw [if_pos ⟨rfl, hq⟩, if_pos hq]
      · rw [if_neg (fun z => hq z.2), if_neg hq]
        by_cases hq2 : 6 * a < q ∧ q ≤ 6 * a + (N a).idxOf nm
        · rw [if_pos (by omega), if_pos hq2]
        · rw [if_neg (by omega), if_neg hq2]
    · exact hK1.1
    · funext q; rw [mA_ne h1, mH_ne h1, hK1.2 f h3 h4]
  · skip
    rw [show plcI (N a) nm = -1 by rw [plcI_idx, if_neg (by omega)], if_pos rfl] at hQ
    refine us_aload_n dMod_codesName_80 rfl ?_
    refine us_iconst dMod_codesName_81 ?_
    refine us_iload dMod_codesName_82 rfl ?_
    refine us_iload_n dMod_codesName_84 rfl ?_
    refine us_iadd dMod_codesName_85 ?_
    refine us_v2 mMod_codes dMod_codesName_86 kV_Mod_150 md_obj ⟨by decide, rfl, rfl, (Nat.le_of_ble_eq_true rfl), (Nat.le_of_ble_eq_true rfl)⟩ (Nat.le_of_ble_eq_true rfl) (Nat.le_of_ble_eq_true rfl) rfl ?_
    rw [show (((N a).idxOf nm : Nat) : Int) + nm = ((N a).length : Int) + nm by omega]
    refine c_Mod_codes hC 1 (by decide) hl (by omega) (fun S1 hC1 hK1 => ?_)
    refine u_ko_0 ?_
    refine us_aload_n dMod_codesName_89 rfl ?_
    refine us_getf 9 21 dMod_codesName_90 kF_Mod_43 md_obj rfl ?_
    refine us_iload_n dMod_codesName_93 rfl ?_
    refine us_dup2 dMod_codesName_94 rfl rfl ?_
    refine us_iald a dMod_codesName_95 md_a12 rfl (by omega) (by omega) (congrArg ui ((congrFun (hK1.2 21 (by decide) (by decide)) a).trans f1)) ?_
    refine us_iconst dMod_codesName_96 ?_
    refine us_iadd dMod_codesName_97 ?_
    refine ms_iast 12 21 (a) dMod_codesName_98 ⟨by decide, by decide, rfl, rfl⟩ rfl (show _ < 7 from (by omega)) ?_
    refine us_goto dMod_codesName_99 ?_
    refine c_Mod_codesName_109 ha hr ?_
    refine hQ _ (hC1.same ?_ ?_) (hN.front ha hn (fun q => ?_) (fun q => ?_)) ⟨?_, fun f h1 h2 h3 h4 => ?_⟩
    · funext q; rw [mA_ne (by decide), mH_ne (by decide), mA_ne (by decide)]
    · funext q; rw [mA_ne (by decide), mH_ne (by decide), mA_ne (by decide)]
    · rw [mA_ne (by decide), mH_ne (by decide)]
      rw [mA_2, hK1.2 21 (by decide) (by decide)]
      by_cases hq : q = a
      · rw [if_pos ⟨rfl, hq⟩, if_pos hq, if_pos (by omega)]
      · rw [if_neg (fun z => hq z.2), if_neg hq]
    · rw [mA_2, mH_2]
      have ee : ∀ q, (mA S1 21 a (((N a).length : Int) + 1)).2 20 q = S.2 20 q := fun q => by rw [mA_ne (by decide), hK1.2 20 (by decide) (by decide)]
      rw [ee, ee]
      by_cases hq : q = 6 * a
      · rw [if_pos ⟨rfl, hq⟩, if_pos hq]
      · rw [if_neg (fun z => hq z.2), if_neg hq]
        by_cases hq2 : 6 * a < q ∧ q ≤ 6 * a + (N a).idxOf nm
        · rw [if_pos (by omega), if_pos hq2]
        · rw [if_neg (by omega), if_neg hq2]
    · exact hK1.1
    · funext q; rw [mA_ne h1, mH_ne h1, mA_ne h2, hK1.2 f h3 h4]

theorem c_Mod_codesName {h : uHp} {y : Nat} {S : uMS} {N C : Nat → List Int} {a b : Nat} {nm : Int} {Q : uPs} (hC : uCR S C) (hN : uNR S N) (ha : a < 7) (hn : 0 ≤ nm ∧ nm < 6) (hb : b < 40) (hb0 : S.2 11 (13 * b) = nm) (har : (S.2 11 (13 * b + 2) = -5 ∧ a = 6) ∨ ∃ q : Nat, S.2 11 (13 * b + 2) = (q : Int) ∧ q < 40 ∧ S.2 11 (13 * q) = (a : Int) ∧ a < 6) (hl : (C 1).length < 100) (hQ : ∀ S' : uMS, uCR S' (uP C 1 (appI 100 (C 1) (if plcI (N a) nm = -1 then ((N a).length : Int) + nm else plcI (N a) nm))) → uNR S' (uP N a (mfI 6 (N a) nm)) → uKN S S' → Q none (u_mod h y S')) : uW mMod_codesName 0 [.ref y, ui (b : Int), .null, .null, .null, .null] [] (u_mod h y S) 0 0 Q := by
  refine us_aload_n dMod_codesName_0 rfl ?_
  refine us_iload_n dMod_codesName_1 rfl ?_
  refine us_iconst dMod_codesName_2 ?_
  refine us_v2 mMod_box dMod_codesName_3 kV_Mod_97 md_obj ⟨by decide, rfl, rfl, (Nat.le_of_ble_eq_true rfl), (Nat.le_of_ble_eq_true rfl)⟩ (Nat.le_of_ble_eq_true rfl) (Nat.le_of_ble_eq_true rfl) rfl ?_
  refine c_Mod_box (13 * b + 2) (by omega) (by omega) ?_
  refine u_ko_1 ?_
  rcases har with ⟨h1, h2⟩ | ⟨q, h1, h2, h3, h4⟩
  · rw [h1]
    refine us_if_ge dMod_codesName_6 (by omega) (fun c => absurd c (by omega)) (fun c => ?_)
    refine us_bipush dMod_codesName_9 (by decide) ?_
    refine us_goto dMod_codesName_11 ?_
    refine us_istore_2 dMod_codesName_25 rfl (Nat.le_of_ble_eq_true rfl) ?_
    have e := c_Mod_codesName_26 (v3 := .null) (v4 := .null) (v5 := .null) hC hN ha hn hb hb0 hl hQ
    rw [h2] at e
    exact e
  · rw [h1]
    refine us_if_ge dMod_codesName_6 (by omega) (fun c => ?_) (fun c => absurd c (by omega))
    refine us_aload_n dMod_codesName_14 rfl ?_
    refine us_aload_n dMod_codesName_15 rfl ?_
    refine us_iload_n dMod_codesName_16 rfl ?_
    refine us_iconst dMod_codesName_17 ?_
    refine us_v2 mMod_box dMod_codesName_18 kV_Mod_97 md_obj ⟨by decide, rfl, rfl, (Nat.le_of_ble_eq_true rfl), (Nat.le_of_ble_eq_true rfl)⟩ (Nat.le_of_ble_eq_true rfl) (Nat.le_of_ble_eq_true rfl) rfl ?_
    refine c_Mod_box (13 * b + 2) (by omega) (by omega) ?_
    rw [h1]
    refine u_ko_1 ?_
    refine us_iconst dMod_codesName_21 ?_
    refine us_v2 mMod_box dMod_codesName_22 kV_Mod_97 md_obj ⟨by decide, rfl, rfl, (Nat.le_of_ble_eq_true rfl), (Nat.le_of_ble_eq_true rfl)⟩ (Nat.le_of_ble_eq_true rfl) (Nat.le_of_ble_eq_true rfl) rfl ?_
    refine c_Mod_box (13 * q) (by omega) (by omega) ?_
    rw [h3]
    refine u_ko_1 ?_
    refine us_istore_2 dMod_codesName_25 rfl (Nat.le_of_ble_eq_true rfl) ?_
    exact c_Mod_codesName_26 hC hN ha hn hb hb0 hl hQ

