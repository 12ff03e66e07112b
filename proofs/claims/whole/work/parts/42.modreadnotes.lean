/-! the reference: readNotes -/
/-- all but a box's notes and the keys' places -/
def uNF (k : Nat) (S S' : uMS) : Prop := S'.1 = S.1 ∧ (∀ f, f ≠ 10 → f ≠ 11 → S'.2 f = S.2 f) ∧ ∀ q, (q < 13 * k + 3 ∨ 13 * k + 13 ≤ q ∨ (13 * k + 5 ≤ q ∧ q < 13 * k + 9)) → S'.2 11 q = S.2 11 q
theorem uNF.rf {k : Nat} {S : uMS} : uNF k S S := ⟨rfl, fun _ _ _ => rfl, fun _ _ => rfl⟩
theorem uNF.tr {k : Nat} {S S1 S2 : uMS} (a : uNF k S S1) (b : uNF k S1 S2) : uNF k S S2 := ⟨b.1.trans a.1, fun f h1 h2 => (b.2.1 f h1 h2).trans (a.2.1 f h1 h2), fun q h => (b.2.2 q h).trans (a.2.2 q h)⟩
theorem uNF.sp {k : Nat} {S S' : uMS} (a : uNF k S S') : uSP S S' := ⟨fun i _ _ _ _ _ _ _ => congrFun a.1 i, fun f _ h2 h3 _ _ => a.2.1 f h2 h3⟩
theorem rn_turn {S : uMS} {R xs : List Int} {PX P : uPg} {O KP : List Int} {fp fc : Int} {ZF : uZ} {k pl m s ord a key : Nat} (hl : xs.length ≤ 100) (hP0 : PX 0 = xs) (hP2 : ratI (PX 2) (k : Int) = (pl : Int)) (hn : rNt S PX k m s ord KP) (hT : rTx S xs) (hz : zr R xs a (uP P 0 (xs.take a), O, KP, 2, fp, -1, fc) = ZF) (ha : a = pl + 2 + 4 * m)
    (hk4 : key < 4) (hb0 : (s / 2 ^ key) % 2 = 0) (w1 : a + 1 < xs.length) (hkey : ratI xs ((a + 1 : Nat) : Int) = 119 + (key : Int)) (x1 : a + 2 < xs.length) (x2 : ratI xs ((a + 2 : Nat) : Int) = 61) (y1 : a + 3 < xs.length) (y2 : 48 ≤ ratI xs ((a + 3 : Nat) : Int) ∧ ratI xs ((a + 3 : Nat) : Int) ≤ 57) (hsp : ratI xs (a : Int) = 32) :
    rNt (mA (mA (mA S 10 key ((a + 1 : Nat) : Int)) 11 (13 * k + 3) ((s + 2 ^ key : Nat) : Int)) 11 (13 * k + 9 + key) (ratI xs ((a + 3 : Nat) : Int) - 48)) PX k (m + 1) (s + 2 ^ key) (ord + key * 4 ^ m) (putI KP (key : Int) ((a + 1 : Nat) : Int)) ∧ rTx (mA (mA (mA S 10 key ((a + 1 : Nat) : Int)) 11 (13 * k + 3) ((s + 2 ^ key : Nat) : Int)) 11 (13 * k + 9 + key) (ratI xs ((a + 3 : Nat) : Int) - 48)) xs ∧ zr R xs (a + 4) (uP P 0 (xs.take (a + 4)), O, putI KP (key : Int) ((a + 1 : Nat) : Int), 2, fp, -1, fc) = ZF ∧ uNF k S (mA (mA (mA S 10 key ((a + 1 : Nat) : Int)) 11 (13 * k + 3) ((s + 2 ^ key : Nat) : Int)) 11 (13 * k + 9 + key) (ratI xs ((a + 3 : Nat) : Int) - 48)) := by
  have hz2 := zs hz (by omega) hl (tk_sp hsp)
  have hkk : ratI xs ((a + 1 : Nat) : Int) - 119 = (key : Int) := by omega
  have hz3 := zs hz2 w1 hl (tk_key (by omega) (by rw [hkk]; exact (hn.2.2.2.1 key hk4 hb0).1))
  have hz4 := zs hz3 x1 hl (tk_eq x2)
  have hz5 := zs hz4 y1 hl (tk_dig y2)
  rw [hkk] at hz5
  have hpk : p_kn PX (k : Int) (m : Int) = (key : Int) := by
    unfold p_kn
    rw [hP0, hP2, show (pl : Int) + 2 + 4 * (m : Int) = ((a : Nat) : Int) by omega, if_pos hsp, show (a : Int) + 1 = ((a + 1 : Nat) : Int) by omega]
    exact hkk
  have hnf : uNF k S (mA (mA (mA S 10 key ((a + 1 : Nat) : Int)) 11 (13 * k + 3) ((s + 2 ^ key : Nat) : Int)) 11 (13 * k + 9 + key) (ratI xs ((a + 3 : Nat) : Int) - 48)) := ⟨rfl, fun f h1 h2 => by funext q; rw [mA_ne h2, mA_ne h2, mA_ne h1], fun q hq => by rw [mA_2, if_neg (by omega), mA_2, if_neg (by omega), mA_ne (by decide)]⟩
  refine ⟨(hn.step (d := ratI xs ((a + 3 : Nat) : Int) - 48) (at1 := ((a + 1 : Nat) : Int)) hk4 hb0 hpk (by rw [hP0, hP2, show (pl : Int) + 5 + 4 * (m : Int) = ((a + 3 : Nat) : Int) by omega]) (by omega) (by omega) ?_ (fun q => ?_) (fun q hq => ?_)).1, hT.sp hnf.sp, hz5, hnf⟩
  · rw [mA_2, if_neg (by omega), mA_2, if_pos ⟨rfl, rfl⟩]
  · rw [mA_ne (by decide), mA_ne (by decide), mA_2]
    by_cases h1 : q = key
    · rw [if_pos ⟨rfl, h1⟩, if_pos h1]
    · rw [if_neg (fun z => h1 z.2), if_neg h1]
  · rw [mA_2]
    by_cases h1 : q = key
    · rw [if_pos ⟨rfl, by omega⟩, if_pos h1]
    · rw [if_neg (by omega), if_neg h1, mA_2, if_neg (by omega), mA_ne (by decide)]
theorem c_Mod_readNotes_8 {h : uHp} {y k pl : Nat} {R xs : List Int} {PX P : uPg} {O : List Int} {fp fc : Int} {ZF : uZ} {Q : uPs} (hk : k < 39) (hl : xs.length ≤ 100) (hP0 : PX 0 = xs) (hP2 : ratI (PX 2) (k : Int) = (pl : Int)) : ∀ (n m s ord a : Nat) (KP : List Int) (S : uMS) (v6 : Value), n = 4 - m → a = pl + 2 + 4 * m → rNt S PX k m s ord KP → rTx S xs → zr R xs a (uP P 0 (xs.take a), O, KP, 2, fp, -1, fc) = ZF → a ≤ xs.length →
    (∀ S' : uMS, uSP S S' → uFlt S' (z_end ZF (xs.length : Int)) → Q (some (ui (-5))) (u_mod h y S')) →
    (∀ (S' : uMS) (KP' : List Int) (m' : Nat), uNF k S S' → uBN (S'.2 11) PX k → pcN (p_ks PX (k : Int)) = m' → zr R xs (pl + 3 + 4 * m') (uP P 0 (xs.take (pl + 3 + 4 * m')), O, KP', 6, fp, -1, fc) = ZF → pl + 3 + 4 * m' ≤ xs.length → Q (some (ui ((pl + 3 + 4 * m' : Nat) : Int))) (u_mod h y S')) →
    ∀ p0 : Int, uW mMod_readNotes 8 [.ref y, ui (k : Int), ui p0, ui (a : Int), ui (m : Int), ui (ord : Int), v6] [] (u_mod h y S) 0 0 Q := by
  intro n
  induction n using Nat.strongRecOn with
  | ind n ih =>
    intro m s ord a KP S v6 hnm ha hn hT hz hal hF hG p0
    have hm4' := hn.1.2.2.2.1
    have hs16 := hn.1.2.1
    refine us_aload_n dMod_readNotes_8 rfl ?_
    refine us_iload_n dMod_readNotes_9 rfl ?_
    refine us_bipush dMod_readNotes_10 (by decide) ?_
    refine us_bipush dMod_readNotes_12 (by decide) ?_
    refine us_v3 mMod_isAt dMod_readNotes_14 kV_Mod_107 md_obj ⟨by decide, rfl, rfl, (Nat.le_of_ble_eq_true rfl), (Nat.le_of_ble_eq_true rfl)⟩ (Nat.le_of_ble_eq_true rfl) (Nat.le_of_ble_eq_true rfl) rfl ?_
    refine c_Mod_isAt a rfl (by decide) (by rw [hT.1]; omega) hT.2.2 (by omega) ?_
    refine u_ko_1 ?_
    refine us_ifb_eq dMod_readNotes_17 (fun c61 => ?_) (fun c61 => ?_)
    · skip
      have hno := isA_f hT (by assumption)
      have hend : m < 4 → p_kn PX (k : Int) (m : Int) = -1 := by
        intro _
        unfold p_kn
        rw [hP0, hP2, show (pl : Int) + 2 + 4 * (m : Int) = ((a : Nat) : Int) by omega, if_neg]
        intro h32
        by_cases hlt : a < xs.length
        · exact hno hlt (by omega)
        · rw [ratI_nat, List.getD_eq_getElem?_getD, List.getElem?_eq_none (by omega)] at h32
          exact absurd h32 (by decide)
      refine us_aload_n dMod_readNotes_226 rfl ?_
      refine us_iload_n dMod_readNotes_227 rfl ?_
      refine us_iconst dMod_readNotes_228 ?_
      refine us_iload dMod_readNotes_229 rfl ?_
      refine us_iconst dMod_readNotes_231 ?_
      refine us_icmp_ge dMod_readNotes_232 (by omega) (fun c62 => ?_) (fun c62 => ?_)
      · skip
        have hm2 : ¬ m < 2 := by omega
        refine us_aload_n dMod_readNotes_240 rfl ?_
        refine us_iload_n dMod_readNotes_241 rfl ?_
        refine us_iconst dMod_readNotes_242 ?_
        refine us_v2 mMod_box dMod_readNotes_243 kV_Mod_97 md_obj ⟨by decide, rfl, rfl, (Nat.le_of_ble_eq_true rfl), (Nat.le_of_ble_eq_true rfl)⟩ (Nat.le_of_ble_eq_true rfl) (Nat.le_of_ble_eq_true rfl) rfl ?_
        refine c_Mod_box (13 * k + 3) (by omega) (by omega) ?_
        rw [hn.1.1]
        refine u_ko_1 ?_
        refine us_iload dMod_readNotes_246 rfl ?_
        refine us_iload dMod_readNotes_248 rfl ?_
        refine us_s3 mMod_rankOf dMod_readNotes_250 kS_Mod_116 ⟨by decide, rfl, rfl, (Nat.le_of_ble_eq_true rfl), (Nat.le_of_ble_eq_true rfl)⟩ (Nat.le_of_ble_eq_true rfl) (Nat.le_of_ble_eq_true rfl) rfl ?_
        refine c_Mod_rankOf (Nat.lt_of_lt_of_le hn.1.2.2.2.2 (Nat.pow_le_pow_right (by decide) hn.1.2.2.2.1)) hn.1.2.1 hn.1.2.2.2.1 ?_
        refine u_ko_1 ?_
        refine us_v3 mMod_boxes dMod_readNotes_253 kV_Mod_113 md_obj ⟨by decide, rfl, rfl, (Nat.le_of_ble_eq_true rfl), (Nat.le_of_ble_eq_true rfl)⟩ (Nat.le_of_ble_eq_true rfl) (Nat.le_of_ble_eq_true rfl) rfl ?_
        refine c_Mod_boxes (13 * k + 4) (by omega) (by omega) ?_
        refine u_ko_0 ?_
        have hfin : ∀ z, z = (if m < 2 then -5 else ((rkN ord m 0 0 s : Nat) : Int)) → uBN ((mA S 11 (13 * k + 4) z).2 11) PX k ∧ pcN (p_ks PX (k : Int)) = m := fun z hz9 => hn.fin hend (fun q hq => if_neg (fun x => hq x.2)) ((if_pos ⟨rfl, rfl⟩).trans hz9)
        have hnf9 : ∀ z, uNF k S (mA S 11 (13 * k + 4) z) := fun z => ⟨rfl, fun f h1 h2 => by funext q; rw [mA_ne h2], fun q hq => by rw [mA_2, if_neg (by omega)]⟩
        refine us_aload_n dMod_readNotes_256 rfl ?_
        refine us_iload_n dMod_readNotes_257 rfl ?_
        refine us_bipush dMod_readNotes_258 (by decide) ?_
        refine us_bipush dMod_readNotes_260 (by decide) ?_
        refine us_v3 mMod_isAt dMod_readNotes_262 kV_Mod_107 md_obj ⟨by decide, rfl, rfl, (Nat.le_of_ble_eq_true rfl), (Nat.le_of_ble_eq_true rfl)⟩ (Nat.le_of_ble_eq_true rfl) (Nat.le_of_ble_eq_true rfl) rfl ?_
        refine c_Mod_isAt a rfl (by decide) (by rw [(hT.sp (hnf9 _).sp).1]; omega) (hT.sp (hnf9 _).sp).2.2 (by omega) ?_
        refine u_ko_1 ?_
        refine us_ifb_ne dMod_readNotes_265 (fun c63 => ?_) (fun c63 => ?_)
        · skip
          refine us_iload_n dMod_readNotes_280 rfl ?_
          refine us_iconst dMod_readNotes_281 ?_
          refine us_iadd dMod_readNotes_282 ?_
          refine us_ireturn dMod_readNotes_283 rfl (Nat.le_of_ble_eq_true rfl) (Nat.le_of_ble_eq_true rfl) ?_
          obtain ⟨x1, x2, x3⟩ := isA_t (hT.sp (hnf9 _).sp) (j := a) (by assumption)
          have hz6 := zs hz x1 hl (tk_gt (by omega))
          obtain ⟨u1, u2⟩ := hfin _ (by first | rw [if_pos hm2] | rw [if_neg hm2])
          subst ha
          rw [show ((pl + 2 + 4 * m : Nat) : Int) + 1 = ((pl + 3 + 4 * m : Nat) : Int) by omega]
          exact hG _ KP m (hnf9 _) u1 u2 (by rw [show pl + 3 + 4 * m = pl + 2 + 4 * m + 1 by omega]; exact hz6) (by omega)
        · skip
          refine us_aload_n dMod_readNotes_268 rfl ?_
          refine us_iload_n dMod_readNotes_269 rfl ?_
          refine us_iconst dMod_readNotes_270 ?_
          refine us_bipush dMod_readNotes_271 (by decide) ?_
          refine us_v3 mMod_fails dMod_readNotes_273 kV_Mod_110 md_obj ⟨by decide, rfl, rfl, (Nat.le_of_ble_eq_true rfl), (Nat.le_of_ble_eq_true rfl)⟩ (Nat.le_of_ble_eq_true rfl) (Nat.le_of_ble_eq_true rfl) rfl ?_
          refine c_Mod_fails (by rw [(hT.sp (hnf9 _).sp).1]; omega) ?_
          refine u_ko_1 ?_
          refine us_pop dMod_readNotes_276 rfl ?_
          refine us_bipush dMod_readNotes_277 (by decide) ?_
          refine us_ireturn dMod_readNotes_279 rfl (Nat.le_of_ble_eq_true rfl) (Nat.le_of_ble_eq_true rfl) ?_
          refine hF _ (uSP.tr (hnf9 _).sp (uSP.fail _ _ _)) (zf hz (by decide) (by omega) hl (by decide) (fun hlt => ?_) hT.1)
          have h32 := hno hlt
          have h62 := isA_f (hT.sp (hnf9 _).sp) (j := a) (by assumption) hlt
          rw [tk_bad2 (fun z => h32 (by omega)) (fun z => h62 (by omega))]
      · skip
        have hm2 : m < 2 := by omega
        refine us_bipush dMod_readNotes_235 (by decide) ?_
        refine us_goto dMod_readNotes_237 ?_
        refine us_v3 mMod_boxes dMod_readNotes_253 kV_Mod_113 md_obj ⟨by decide, rfl, rfl, (Nat.le_of_ble_eq_true rfl), (Nat.le_of_ble_eq_true rfl)⟩ (Nat.le_of_ble_eq_true rfl) (Nat.le_of_ble_eq_true rfl) rfl ?_
        refine c_Mod_boxes (13 * k + 4) (by omega) (by omega) ?_
        refine u_ko_0 ?_
        have hfin : ∀ z, z = (if m < 2 then -5 else ((rkN ord m 0 0 s : Nat) : Int)) → uBN ((mA S 11 (13 * k + 4) z).2 11) PX k ∧ pcN (p_ks PX (k : Int)) = m := fun z hz9 => hn.fin hend (fun q hq => if_neg (fun x => hq x.2)) ((if_pos ⟨rfl, rfl⟩).trans hz9)
        have hnf9 : ∀ z, uNF k S (mA S 11 (13 * k + 4) z) := fun z => ⟨rfl, fun f h1 h2 => by funext q; rw [mA_ne h2], fun q hq => by rw [mA_2, if_neg (by omega)]⟩
        refine us_aload_n dMod_readNotes_256 rfl ?_
        refine us_iload_n dMod_readNotes_257 rfl ?_
        refine us_bipush dMod_readNotes_258 (by decide) ?_
        refine us_bipush dMod_readNotes_260 (by decide) ?_
        refine us_v3 mMod_isAt dMod_readNotes_262 kV_Mod_107 md_obj ⟨by decide, rfl, rfl, (Nat.le_of_ble_eq_true rfl), (Nat.le_of_ble_eq_true rfl)⟩ (Nat.le_of_ble_eq_true rfl) (Nat.le_of_ble_eq_true rfl) rfl ?_
        refine c_Mod_isAt a rfl (by decide) (by rw [(hT.sp (hnf9 _).sp).1]; omega) (hT.sp (hnf9 _).sp).2.2 (by omega) ?_
        refine u_ko_1 ?_
        refine us_ifb_ne dMod_readNotes_265 (fun c64 => ?_) (fun c64 => ?_)
        · skip
          refine us_iload_n dMod_readNotes_280 rfl ?_
          refine us_iconst dMod_readNotes_281 ?_
          refine us_iadd dMod_readNotes_282 ?_
          refine us_ireturn dMod_readNotes_283 rfl (Nat.le_of_ble_eq_true rfl) (Nat.le_of_ble_eq_true rfl) ?_
          obtain ⟨x1, x2, x3⟩ := isA_t (hT.sp (hnf9 _).sp) (j := a) (by assumption)
          have hz6 := zs hz x1 hl (tk_gt (by omega))
          obtain ⟨u1, u2⟩ := hfin _ (by first | rw [if_pos hm2] | rw [if_neg hm2])
          subst ha
          rw [show ((pl + 2 + 4 * m : Nat) : Int) + 1 = ((pl + 3 + 4 * m : Nat) : Int) by omega]
          exact hG _ KP m (hnf9 _) u1 u2 (by rw [show pl + 3 + 4 * m = pl + 2 + 4 * m + 1 by omega]; exact hz6) (by omega)
        · skip
          refine us_aload_n dMod_readNotes_268 rfl ?_
          refine us_iload_n dMod_readNotes_269 rfl ?_
          refine us_iconst dMod_readNotes_270 ?_
          refine us_bipush dMod_readNotes_271 (by decide) ?_
          refine us_v3 mMod_fails dMod_readNotes_273 kV_Mod_110 md_obj ⟨by decide, rfl, rfl, (Nat.le_of_ble_eq_true rfl), (Nat.le_of_ble_eq_true rfl)⟩ (Nat.le_of_ble_eq_true rfl) (Nat.le_of_ble_eq_true rfl) rfl ?_
          refine c_Mod_fails (by rw [(hT.sp (hnf9 _).sp).1]; omega) ?_
          refine u_ko_1 ?_
          refine us_pop dMod_readNotes_276 rfl ?_
          refine us_bipush dMod_readNotes_277 (by decide) ?_
          refine us_ireturn dMod_readNotes_279 rfl (Nat.le_of_ble_eq_true rfl) (Nat.le_of_ble_eq_true rfl) ?_
          refine hF _ (uSP.tr (hnf9 _).sp (uSP.fail _ _ _)) (zf hz (by decide) (by omega) hl (by decide) (fun hlt => ?_) hT.1)
          have h32 := hno hlt
          have h62 := isA_f (hT.sp (hnf9 _).sp) (j := a) (by assumption) hlt
          rw [tk_bad2 (fun z => h32 (by omega)) (fun z => h62 (by omega))]
    · skip
      obtain ⟨g1, g2, g3⟩ := isA_t hT (by assumption)
      refine us_aload_n dMod_readNotes_20 rfl ?_
      refine us_iload_n dMod_readNotes_21 rfl ?_
      refine us_iconst dMod_readNotes_22 ?_
      refine us_iadd dMod_readNotes_23 ?_
      refine us_bipush dMod_readNotes_24 (by decide) ?_
      refine us_bipush dMod_readNotes_26 (by decide) ?_
      refine us_v3 mMod_isAt dMod_readNotes_28 kV_Mod_107 md_obj ⟨by decide, rfl, rfl, (Nat.le_of_ble_eq_true rfl), (Nat.le_of_ble_eq_true rfl)⟩ (Nat.le_of_ble_eq_true rfl) (Nat.le_of_ble_eq_true rfl) rfl ?_
      refine c_Mod_isAt (a + 1) (by omega) (by decide) (by rw [hT.1]; omega) hT.2.2 (by omega) ?_
      refine u_ko_1 ?_
      refine us_ifb_ne dMod_readNotes_31 (fun c65 => ?_) (fun c65 => ?_)
      · skip
        obtain ⟨w1, w2, w3⟩ := isA_t hT (by assumption)
        have hz2 := zs hz g1 hl (tk_sp (by omega))
        obtain ⟨key, hkey, hk4⟩ : ∃ key : Nat, ratI xs ((a + 1 : Nat) : Int) = 119 + (key : Int) ∧ key < 4 := ⟨(ratI xs ((a + 1 : Nat) : Int) - 119).toNat, by omega, by omega⟩
        refine us_aload_n dMod_readNotes_48 rfl ?_
        refine us_getf 9 5 dMod_readNotes_49 kF_Mod_19 md_obj rfl ?_
        refine us_iload_n dMod_readNotes_52 rfl ?_
        refine us_iconst dMod_readNotes_53 ?_
        refine us_iadd dMod_readNotes_54 ?_
        refine us_iald (a + 1) dMod_readNotes_55 md_a4 (by omega) (by omega) (by omega) (congrArg ui ((hT.2.1 (a + 1) w1).trans hkey)) ?_
        refine us_bipush dMod_readNotes_56 (by decide) ?_
        refine us_isub dMod_readNotes_58 ?_
        rw [show (119 : Int) + (key : Int) - 119 = (key : Int) by omega]
        refine us_istore_6 dMod_readNotes_59 rfl (Nat.le_of_ble_eq_true rfl) ?_
        refine us_aload_n dMod_readNotes_61 rfl ?_
        refine us_iload_n dMod_readNotes_62 rfl ?_
        refine us_iconst dMod_readNotes_63 ?_
        refine us_v2 mMod_box dMod_readNotes_64 kV_Mod_97 md_obj ⟨by decide, rfl, rfl, (Nat.le_of_ble_eq_true rfl), (Nat.le_of_ble_eq_true rfl)⟩ (Nat.le_of_ble_eq_true rfl) (Nat.le_of_ble_eq_true rfl) rfl ?_
        refine c_Mod_box (13 * k + 3) (by omega) (by omega) ?_
        rw [hn.1.1]
        refine u_ko_1 ?_
        refine us_iload dMod_readNotes_67 rfl ?_
        refine us_ishrI dMod_readNotes_69 ?_
        refine us_iconst dMod_readNotes_70 ?_
        refine us_iandI dMod_readNotes_71 ?_
        rw [s_bit s (by omega) key (by omega)]
        refine us_iconst dMod_readNotes_72 ?_
        refine us_icmp_ne dMod_readNotes_73 (by omega) (fun c66 => ?_) (fun c66 => ?_)
        · skip
          have hb0 : (s / 2 ^ key) % 2 = 0 := by omega
          refine us_aload_n dMod_readNotes_95 rfl ?_
          refine us_getf 9 10 dMod_readNotes_96 kF_Mod_28 md_obj rfl ?_
          refine us_iload dMod_readNotes_99 rfl ?_
          refine us_iload_n dMod_readNotes_101 rfl ?_
          refine us_iconst dMod_readNotes_102 ?_
          refine us_iadd dMod_readNotes_103 ?_
          rw [show (a : Int) + 1 = ((a + 1 : Nat) : Int) by omega]
          refine ms_iast 7 10 (key) dMod_readNotes_104 ⟨by decide, by decide, rfl, rfl⟩ rfl (show _ < 4 from (by omega)) ?_
          have hnf1 : uNF k S (mA S 10 key ((a + 1 : Nat) : Int)) := ⟨rfl, fun f h1 h2 => by funext q; rw [mA_ne h1], fun q _ => by rw [mA_ne (by decide)]⟩
          have hT1 : rTx (mA S 10 key ((a + 1 : Nat) : Int)) xs := hT.sp hnf1.sp
          refine us_aload_n dMod_readNotes_105 rfl ?_
          refine us_iload_n dMod_readNotes_106 rfl ?_
          refine us_iconst dMod_readNotes_107 ?_
          refine us_iadd dMod_readNotes_108 ?_
          refine us_bipush dMod_readNotes_109 (by decide) ?_
          refine us_bipush dMod_readNotes_111 (by decide) ?_
          refine us_v3 mMod_isAt dMod_readNotes_113 kV_Mod_107 md_obj ⟨by decide, rfl, rfl, (Nat.le_of_ble_eq_true rfl), (Nat.le_of_ble_eq_true rfl)⟩ (Nat.le_of_ble_eq_true rfl) (Nat.le_of_ble_eq_true rfl) rfl ?_
          refine c_Mod_isAt (a + 2) (by omega) (by decide) (by rw [hT1.1]; omega) hT1.2.2 (by omega) ?_
          refine u_ko_1 ?_
          refine us_ifb_eq dMod_readNotes_116 (fun c67 => ?_) (fun c67 => ?_)
          · skip
            refine us_aload_n dMod_readNotes_133 rfl ?_
            refine us_aload_n dMod_readNotes_134 rfl ?_
            refine us_iload_n dMod_readNotes_135 rfl ?_
            refine us_iconst dMod_readNotes_136 ?_
            refine us_iadd dMod_readNotes_137 ?_
            refine us_bipush dMod_readNotes_138 (by decide) ?_
            refine us_bipush dMod_readNotes_140 (by decide) ?_
            refine us_v3 mMod_isAt dMod_readNotes_142 kV_Mod_107 md_obj ⟨by decide, rfl, rfl, (Nat.le_of_ble_eq_true rfl), (Nat.le_of_ble_eq_true rfl)⟩ (Nat.le_of_ble_eq_true rfl) (Nat.le_of_ble_eq_true rfl) rfl ?_
            refine c_Mod_isAt (a + 2) (by omega) (by decide) (by rw [hT1.1]; omega) hT1.2.2 (by omega) ?_
            refine u_ko_1 ?_
            refine us_ifb_eq dMod_readNotes_145 (fun c68 => ?_) (fun c68 => absurd (Eq.trans (Eq.symm c68) c67) (by decide))
            refine us_iload_n dMod_readNotes_154 rfl ?_
            refine us_iconst dMod_readNotes_155 ?_
            refine us_iadd dMod_readNotes_156 ?_
            refine us_iconst dMod_readNotes_157 ?_
            refine us_bipush dMod_readNotes_158 (by decide) ?_
            refine us_v3 mMod_fails dMod_readNotes_160 kV_Mod_110 md_obj ⟨by decide, rfl, rfl, (Nat.le_of_ble_eq_true rfl), (Nat.le_of_ble_eq_true rfl)⟩ (Nat.le_of_ble_eq_true rfl) (Nat.le_of_ble_eq_true rfl) rfl ?_
            rw [show (a : Int) + 2 = ((a + 2 : Nat) : Int) by omega]
            refine c_Mod_fails (by show _ ∧ -2147483648 ≤ S.1 6 ∧ S.1 6 ≤ 2147483647; rw [hT.1]; omega) ?_
            refine u_ko_1 ?_
            refine us_pop dMod_readNotes_163 rfl ?_
            refine us_bipush dMod_readNotes_164 (by decide) ?_
            refine us_ireturn dMod_readNotes_166 rfl (Nat.le_of_ble_eq_true rfl) (Nat.le_of_ble_eq_true rfl) ?_
            have hz3 := zs hz2 w1 hl (tk_key (by omega) (by rw [show ratI xs ((a + 1 : Nat) : Int) - 119 = (key : Int) by omega]; exact (hn.2.2.2.1 key hk4 hb0).1))
            refine hF _ (uSP.tr (uNF.sp hnf1) (uSP.fail _ _ _)) (zf (S := mA S 10 key _) hz3 (by decide) (by omega) hl (by decide) (fun hlt => ?_) hT.1)
            have hne := isA_f hT1 (j := a + 2) (by assumption) hlt
            rw [tk_bad4 (show ratI xs ((a + 2 : Nat) : Int) ≠ 61 from fun z => hne (by omega))]
          · skip
            refine us_aload_n dMod_readNotes_119 rfl ?_
            refine us_iload_n dMod_readNotes_120 rfl ?_
            refine us_iconst dMod_readNotes_121 ?_
            refine us_iadd dMod_readNotes_122 ?_
            refine us_bipush dMod_readNotes_123 (by decide) ?_
            refine us_bipush dMod_readNotes_125 (by decide) ?_
            refine us_v3 mMod_isAt dMod_readNotes_127 kV_Mod_107 md_obj ⟨by decide, rfl, rfl, (Nat.le_of_ble_eq_true rfl), (Nat.le_of_ble_eq_true rfl)⟩ (Nat.le_of_ble_eq_true rfl) (Nat.le_of_ble_eq_true rfl) rfl ?_
            refine c_Mod_isAt (a + 3) (by omega) (by decide) (by rw [hT1.1]; omega) hT1.2.2 (by omega) ?_
            refine u_ko_1 ?_
            refine us_ifb_ne dMod_readNotes_130 (fun c69 => ?_) (fun c69 => ?_)
            · skip
              refine us_aload_n dMod_readNotes_167 rfl ?_
              refine us_iload_n dMod_readNotes_168 rfl ?_
              refine us_iconst dMod_readNotes_169 ?_
              refine us_aload_n dMod_readNotes_170 rfl ?_
              refine us_iload_n dMod_readNotes_171 rfl ?_
              refine us_iconst dMod_readNotes_172 ?_
              refine us_v2 mMod_box dMod_readNotes_173 kV_Mod_97 md_obj ⟨by decide, rfl, rfl, (Nat.le_of_ble_eq_true rfl), (Nat.le_of_ble_eq_true rfl)⟩ (Nat.le_of_ble_eq_true rfl) (Nat.le_of_ble_eq_true rfl) rfl ?_
              refine c_Mod_box (13 * k + 3) (by omega) (by omega) ?_
              rw [show (mA S 10 key ((a + 1 : Nat) : Int)).2 11 (13 * k + 3) = (s : Int) from hn.1.1]
              refine u_ko_1 ?_
              refine us_iconst dMod_readNotes_176 ?_
              refine us_iload dMod_readNotes_177 rfl ?_
              refine us_ishlI dMod_readNotes_179 ?_
              refine us_iorI dMod_readNotes_180 ?_
              rw [s_or s hn.1.2.1 key hk4 hb0]
              refine us_v3 mMod_boxes dMod_readNotes_181 kV_Mod_113 md_obj ⟨by decide, rfl, rfl, (Nat.le_of_ble_eq_true rfl), (Nat.le_of_ble_eq_true rfl)⟩ (Nat.le_of_ble_eq_true rfl) (Nat.le_of_ble_eq_true rfl) rfl ?_
              refine c_Mod_boxes (13 * k + 3) (by omega) (by omega) ?_
              refine u_ko_0 ?_
              obtain ⟨x1, x2, x3⟩ := isA_t hT1 (j := a + 2) (by assumption)
              obtain ⟨y1, y2, y3⟩ := isA_t hT1 (j := a + 3) (by assumption)
              have hT2 : rTx (mA (mA S 10 key ((a + 1 : Nat) : Int)) 11 (13 * k + 3) ((s + 2 ^ key : Nat) : Int)) xs := hT1.sp ⟨fun _ _ _ _ _ _ _ _ => rfl, fun f h8 h10 h11 h13 h14 => by funext q; rw [mA_ne h11]⟩
              refine us_aload_n dMod_readNotes_184 rfl ?_
              refine us_iload_n dMod_readNotes_185 rfl ?_
              refine us_bipush dMod_readNotes_186 (by decide) ?_
              refine us_iload dMod_readNotes_188 rfl ?_
              refine us_iadd dMod_readNotes_190 ?_
              refine us_aload_n dMod_readNotes_191 rfl ?_
              refine us_getf 9 5 dMod_readNotes_192 kF_Mod_19 md_obj rfl ?_
              refine us_iload_n dMod_readNotes_195 rfl ?_
              refine us_iconst dMod_readNotes_196 ?_
              refine us_iadd dMod_readNotes_197 ?_
              refine us_iald (a + 3) dMod_readNotes_198 md_a4 (by omega) (by omega) (by omega) (congrArg ui (hT2.2.1 (a + 3) y1)) ?_
              refine us_bipush dMod_readNotes_199 (by decide) ?_
              refine us_isub dMod_readNotes_201 ?_
              refine us_v3 mMod_boxes dMod_readNotes_202 kV_Mod_113 md_obj ⟨by decide, rfl, rfl, (Nat.le_of_ble_eq_true rfl), (Nat.le_of_ble_eq_true rfl)⟩ (Nat.le_of_ble_eq_true rfl) (Nat.le_of_ble_eq_true rfl) rfl ?_
              refine c_Mod_boxes (13 * k + 9 + key) (by omega) (by omega) ?_
              refine u_ko_0 ?_
              refine us_iload dMod_readNotes_205 rfl ?_
              refine us_iload dMod_readNotes_207 rfl ?_
              refine us_iconst dMod_readNotes_209 ?_
              refine us_iload dMod_readNotes_210 rfl ?_
              refine us_imul dMod_readNotes_212 ?_
              rw [show (2 : Int) * (m : Int) = ((2 * m : Nat) : Int) by omega]
              refine us_ishlI dMod_readNotes_213 ?_
              refine us_iorI dMod_readNotes_214 ?_
              have hb5 := s_pc s hn.1.2.1 key hk4 hb0
              have hb6 := s_pc4 _ hb5.2
              have hm4 : m < 4 := by have := hn.1.2.2.1; omega
              rw [s_ord m hm4 ord hn.1.2.2.2.2 key hk4]
              refine us_istore_5 dMod_readNotes_215 rfl (Nat.le_of_ble_eq_true rfl) ?_
              refine us_iinc_4 dMod_readNotes_217 rfl (Nat.le_of_ble_eq_true rfl) ?_
              refine us_iinc_3 dMod_readNotes_220 rfl (Nat.le_of_ble_eq_true rfl) ?_
              refine us_goto dMod_readNotes_223 ?_
              obtain ⟨t1, t2, t3, t4⟩ := rn_turn (R := R) (P := P) (O := O) (fp := fp) (fc := fc) (ZF := ZF) hl hP0 hP2 hn hT hz ha hk4 hb0 w1 hkey x1 (by omega) y1 (by omega) (by omega)
              rw [show (a : Int) + 4 = ((a + 4 : Nat) : Int) by omega, show (m : Int) + 1 = ((m + 1 : Nat) : Int) by omega]
              have e := ih (4 - (m + 1)) (by omega) (m + 1) (s + 2 ^ key) (ord + key * 4 ^ m) (a + 4) (putI KP (key : Int) ((a + 1 : Nat) : Int)) (mA (mA (mA S 10 key ((a + 1 : Nat) : Int)) 11 (13 * k + 3) ((s + 2 ^ key : Nat) : Int)) 11 (13 * k + 9 + key) (ratI xs ((a + 3 : Nat) : Int) - 48)) (ui (key : Int)) rfl (by omega) t1 t2 t3 (by omega) (fun S2 b1 b2 => hF S2 (t4.sp.tr b1) b2) (fun S2 KP2 m2 b1 b2 b3 b4 b5 => hG S2 KP2 m2 (t4.tr b1) b2 b3 b4 b5) p0
              exact e
            · skip
              refine us_aload_n dMod_readNotes_133 rfl ?_
              refine us_aload_n dMod_readNotes_134 rfl ?_
              refine us_iload_n dMod_readNotes_135 rfl ?_
              refine us_iconst dMod_readNotes_136 ?_
              refine us_iadd dMod_readNotes_137 ?_
              refine us_bipush dMod_readNotes_138 (by decide) ?_
              refine us_bipush dMod_readNotes_140 (by decide) ?_
              refine us_v3 mMod_isAt dMod_readNotes_142 kV_Mod_107 md_obj ⟨by decide, rfl, rfl, (Nat.le_of_ble_eq_true rfl), (Nat.le_of_ble_eq_true rfl)⟩ (Nat.le_of_ble_eq_true rfl) (Nat.le_of_ble_eq_true rfl) rfl ?_
              refine c_Mod_isAt (a + 2) (by omega) (by decide) (by rw [hT1.1]; omega) hT1.2.2 (by omega) ?_
              refine u_ko_1 ?_
              refine us_ifb_eq dMod_readNotes_145 (fun c70 => absurd (Eq.trans (Eq.symm c67) c70) (by decide)) (fun c70 => ?_)
              refine us_iload_n dMod_readNotes_148 rfl ?_
              refine us_iconst dMod_readNotes_149 ?_
              refine us_iadd dMod_readNotes_150 ?_
              refine us_goto dMod_readNotes_151 ?_
              refine us_iconst dMod_readNotes_157 ?_
              refine us_bipush dMod_readNotes_158 (by decide) ?_
              refine us_v3 mMod_fails dMod_readNotes_160 kV_Mod_110 md_obj ⟨by decide, rfl, rfl, (Nat.le_of_ble_eq_true rfl), (Nat.le_of_ble_eq_true rfl)⟩ (Nat.le_of_ble_eq_true rfl) (Nat.le_of_ble_eq_true rfl) rfl ?_
              rw [show (a : Int) + 3 = ((a + 3 : Nat) : Int) by omega]
              refine c_Mod_fails (by show _ ∧ -2147483648 ≤ S.1 6 ∧ S.1 6 ≤ 2147483647; rw [hT.1]; omega) ?_
              refine u_ko_1 ?_
              refine us_pop dMod_readNotes_163 rfl ?_
              refine us_bipush dMod_readNotes_164 (by decide) ?_
              refine us_ireturn dMod_readNotes_166 rfl (Nat.le_of_ble_eq_true rfl) (Nat.le_of_ble_eq_true rfl) ?_
              have hz3 := zs hz2 w1 hl (tk_key (by omega) (by rw [show ratI xs ((a + 1 : Nat) : Int) - 119 = (key : Int) by omega]; exact (hn.2.2.2.1 key hk4 hb0).1))
              obtain ⟨x1, x2, x3⟩ := isA_t hT1 (by assumption)
              have hz4 := zs hz3 x1 hl (tk_eq (show ratI xs ((a + 2 : Nat) : Int) = 61 by omega))
              refine hF _ (uSP.tr (uNF.sp hnf1) (uSP.fail _ _ _)) (zf (S := mA S 10 key _) hz4 (by decide) (by omega) hl (by decide) (fun hlt => ?_) hT.1)
              rw [tk_bad5 (isA_f hT1 (by assumption) hlt)]
        · skip
          have hb1 : (s / 2 ^ key) % 2 = 1 := by omega
          refine us_aload_n dMod_readNotes_76 rfl ?_
          refine us_iload_n dMod_readNotes_77 rfl ?_
          refine us_iconst dMod_readNotes_78 ?_
          refine us_iadd dMod_readNotes_79 ?_
          refine us_iconst dMod_readNotes_80 ?_
          refine us_aload_n dMod_readNotes_81 rfl ?_
          refine us_getf 9 10 dMod_readNotes_82 kF_Mod_28 md_obj rfl ?_
          refine us_iload dMod_readNotes_85 rfl ?_
          refine us_iald key dMod_readNotes_87 md_a7 rfl (by omega) (by omega) (congrArg ui (hn.2.2.1 key hk4 hb1).2.1) ?_
          refine us_v3 mMod_fails dMod_readNotes_88 kV_Mod_110 md_obj ⟨by decide, rfl, rfl, (Nat.le_of_ble_eq_true rfl), (Nat.le_of_ble_eq_true rfl)⟩ (Nat.le_of_ble_eq_true rfl) (Nat.le_of_ble_eq_true rfl) rfl ?_
          rw [show (a : Int) + 1 = ((a + 1 : Nat) : Int) by omega]
          refine c_Mod_fails (by rw [hT.1]; omega) ?_
          refine u_ko_1 ?_
          refine us_pop dMod_readNotes_91 rfl ?_
          refine us_bipush dMod_readNotes_92 (by decide) ?_
          refine us_ireturn dMod_readNotes_94 rfl (Nat.le_of_ble_eq_true rfl) (Nat.le_of_ble_eq_true rfl) ?_
          refine hF _ (uSP.fail _ _ _) (zf hz2 (by decide) (by omega) hl (by decide) (fun hlt => ?_) hT.1)
          have hkk : ratI xs ((a + 1 : Nat) : Int) - 119 = (key : Int) := by omega
          rw [tk_key2 (by omega) (by rw [hkk]; exact (hn.2.2.1 key hk4 hb1).1), hkk]
      · skip
        refine us_aload_n dMod_readNotes_34 rfl ?_
        refine us_iload_n dMod_readNotes_35 rfl ?_
        refine us_iconst dMod_readNotes_36 ?_
        refine us_iadd dMod_readNotes_37 ?_
        refine us_iconst dMod_readNotes_38 ?_
        refine us_bipush dMod_readNotes_39 (by decide) ?_
        refine us_v3 mMod_fails dMod_readNotes_41 kV_Mod_110 md_obj ⟨by decide, rfl, rfl, (Nat.le_of_ble_eq_true rfl), (Nat.le_of_ble_eq_true rfl)⟩ (Nat.le_of_ble_eq_true rfl) (Nat.le_of_ble_eq_true rfl) rfl ?_
        rw [show (a : Int) + 1 = ((a + 1 : Nat) : Int) by omega]
        refine c_Mod_fails (by rw [hT.1]; omega) ?_
        refine u_ko_1 ?_
        refine us_pop dMod_readNotes_44 rfl ?_
        refine us_bipush dMod_readNotes_45 (by decide) ?_
        refine us_ireturn dMod_readNotes_47 rfl (Nat.le_of_ble_eq_true rfl) (Nat.le_of_ble_eq_true rfl) ?_
        have hz2 := zs hz g1 hl (tk_sp (by omega))
        refine hF _ (uSP.fail _ _ _) (zf hz2 (by decide) (by omega) hl (by decide) (fun hlt => ?_) hT.1)
        have hne := isA_f hT (by assumption) hlt
        rw [tk_bad3 (by omega)]

