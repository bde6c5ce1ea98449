/-! THE REFERENCE: reading -/
def pE (tt : Nat → Nat) (n : Nat) (r : Bool × Nat × aP) : Bool × Nat × aP := if r.1 = true then pEnd tt n r.2.1 r.2.2 else r
def MDR (V : wV) (y : aP) : Prop := FG V 63 64 y.1 y.2.1 ∧ (V 53 18 = nI y.2.2.1 ∧ y.2.2.1 ≤ 10 ∧ ∀ s, s < y.2.2.1 → V 65 s = nI (y.2.2.2.1 s) ∧ 1 ≤ y.2.2.2.1 s ∧ y.2.2.2.1 s ≤ 4 ∧ ∀ i, i < y.2.2.2.1 s → V 66 (4 * s + i) = nI (y.2.2.2.2.1 s i) ∧ y.2.2.2.2.1 s i < 8) ∧ V 53 17 = nI y.2.2.2.2.2 ∧ y.2.2.2.2.2 ≤ 7
def MFm (V V' : wV) : Prop := (∀ k, k ≠ 13 → k ≠ 14 → k ≠ 15 → k ≠ 17 → k ≠ 18 → V' 53 k = V 53 k) ∧ ∀ j, j ≠ 53 → j ≠ 63 → j ≠ 64 → j ≠ 65 → j ≠ 66 → V' j = V j
theorem MFm.rf {V : wV} : MFm V V := ⟨fun _ _ _ _ _ _ => rfl, fun _ _ _ _ _ _ => rfl⟩
theorem MFm.tr {V V' V'' : wV} (h : MFm V V') (g : MFm V' V'') : MFm V V'' := ⟨fun k a b c d e => (g.1 k a b c d e).trans (h.1 k a b c d e), fun j a b c d e => (g.2 j a b c d e).trans (h.2 j a b c d e)⟩
theorem MT.fm {V V' : wV} {n : Nat} {tt : Nat → Nat} (h : MT V n tt) (g : MFm V V') : MT V' n tt := by
  unfold MT; rw [g.1 7 (by decide) (by decide) (by decide) (by decide) (by decide), g.2 58 (by decide) (by decide) (by decide) (by decide) (by decide)]; exact h
/-- a token taken: nothing but the token's slots changed -/
def MTk (V V' : wV) : Prop := (∀ k, k ≠ 13 → k ≠ 14 → k ≠ 15 → V' 53 k = V 53 k) ∧ ∀ j, j ≠ 53 → V' j = V j
theorem MTk.fm {V V' : wV} (h : MTk V V') : MFm V V' := ⟨fun k a b c _ _ => h.1 k a b c, fun j a _ _ _ _ => h.2 j a⟩
theorem MDR.tk {V V' : wV} {y : aP} (d : MDR V y) (h : MTk V V') : MDR V' y := by
  unfold MDR FG
  rw [h.1 17 (by decide) (by decide) (by decide), h.1 18 (by decide) (by decide) (by decide), h.2 63 (by decide), h.2 64 (by decide), h.2 65 (by decide), h.2 66 (by decide)]; exact d
theorem mtkIn {t lo hi : Nat} (h : t ≤ 301) (hh : hi < 256) : decide ((lo : Int) ≤ (mtk t).toInt ∧ (mtk t).toInt ≤ (hi : Int)) = decide (lo ≤ t ∧ t ≤ hi) := by
  rw [mtk_toInt h]
  apply decide_eq_decide.mpr
  split
  · omega
  · split
    · omega
    · omega
theorem mtk_eq {t k : Nat} (h : t ≤ 301) (hk : k < 256) : (mtk t).toInt = k ↔ t = k := by
  rw [mtk_toInt h]
  constructor
  · intro q; split at q
    · omega
    · split at q <;> omega
  · intro q; rw [if_neg (by omega), if_neg (by omega)]; omega
theorem mtk_300 {t : Nat} (h : t ≤ 301) : (mtk t).toInt = -1 ↔ t = 300 := by
  rw [mtk_toInt h]
  constructor
  · intro q; split at q
    · assumption
    · split at q <;> omega
  · intro q; rw [if_pos q]
theorem mtk_ne {t : Nat} (h : t < 256) : mtk t = nI t := by unfold mtk; rw [if_neg (by omega), if_neg (by omega)]
theorem c_X9_isFlag {E : wE} {ad : Nat → Nat} {V : wV} {n : Nat} {tt : Nat → Nat} (t0 : MT V n tt) {p : Nat} (hp : p ≤ n) (a0 : MA V n tt p)  : w_C E mX9_isFlag (w_R 1 0 0) 0 0 [.ref (ad (53))] SX ad V (w_i SX ad (fun r V' => r = bI (decide (97 ≤ tkT tt n p ∧ tkT tt n p ≤ 104)) ∧ V' = V)) := by
  refine w_C.of (by decide) (Nat.le_of_ble_eq_true rfl) ?_
  show Wp _ _ _ _ _ _ _ _ _ [(0, .ref (ad (53)))] [] SX ad V
  have hTl := tkT_le (p := p) (fun k hk => (t0.2.2 k hk).2)
  refine Wp_aload_n dX9_isFlag_0 rfl 0 rfl ?_
  refine Wp_get (x := (mtk (tkT tt n p))) fk_X9_91 sx_53 rfl a0.1 dX9_isFlag_1 ?_
  refine Wp_i2l (v := (mtk (tkT tt n p)).toInt64) dX9_isFlag_4 rfl ?_
  refine Wp_ldc2 mk_X9_98 dX9_isFlag_5 ?_
  refine Wp_ldc2 mk_X9_100 dX9_isFlag_8 ?_
  refine Wp_callSg (c_X9_in (Int32.toInt_toInt64 _) (by decide : ((97 : Int64)).toInt = 97) (by decide : ((104 : Int64)).toInt = 104)) YS_X9_in ml_X9_78 dX9_isFlag_11 (by omega) (by decide) (by omega) (by omega) rfl rfl (Nat.le_of_ble_eq_true rfl) ?_
  exact Wp_zret (b := decide (97 ≤ (mtk (tkT tt n p)).toInt ∧ (mtk (tkT tt n p)).toInt ≤ 104)) rfl rfl ⟨rfl, rfl, _, rfl, ⟨congrArg bI (mtkIn (lo := 97) (hi := 104) hTl.1 (by omega)), rfl⟩⟩ (Nat.le_refl _) (Nat.le_refl _) dX9_isFlag_14
theorem c_X9_isNumber {E : wE} {ad : Nat → Nat} {V : wV} {n : Nat} {tt : Nat → Nat} (t0 : MT V n tt) {p : Nat} (hp : p ≤ n) (a0 : MA V n tt p) {lo hi : Nat} (hh : 48 + hi < 256) (hlo : lo ≤ hi) : w_C E mX9_isNumber (w_R 1 0 0) 0 0 [.ref (ad (53)), .int (nI (lo)), .int (nI (hi))] SX ad V (w_i SX ad (fun r V' => r = bI (decide (48 + lo ≤ tkT tt n p ∧ tkT tt n p ≤ 48 + hi)) ∧ V' = V)) := by
  refine w_C.of (by decide) (Nat.le_of_ble_eq_true rfl) ?_
  show Wp _ _ _ _ _ _ _ _ _ [(0, .ref (ad (53))), (1, .int (nI (lo))), (2, .int (nI (hi)))] [] SX ad V
  have hTl := tkT_le (p := p) (fun k hk => (t0.2.2 k hk).2)
  refine Wp_aload_n dX9_isNumber_0 rfl 0 rfl ?_
  refine Wp_get (x := (mtk (tkT tt n p))) fk_X9_91 sx_53 rfl a0.1 dX9_isNumber_1 ?_
  refine Wp_i2l (v := (mtk (tkT tt n p)).toInt64) dX9_isNumber_4 rfl ?_
  refine Wp_bipush (v := (nI (48))) dX9_isNumber_5 (by decide) ?_
  refine Wp_iload_n dX9_isNumber_7 rfl 1 rfl ?_
  refine Wp_iadd (z := (nI ((48 + lo)))) dX9_isNumber_8 (nI_add _ _) ?_
  refine Wp_i2l (v := (nI ((48 + lo))).toInt64) dX9_isNumber_9 rfl ?_
  refine Wp_bipush (v := (nI (48))) dX9_isNumber_10 (by decide) ?_
  refine Wp_iload_n dX9_isNumber_12 rfl 2 rfl ?_
  refine Wp_iadd (z := (nI ((48 + hi)))) dX9_isNumber_13 (nI_add _ _) ?_
  refine Wp_i2l (v := (nI ((48 + hi))).toInt64) dX9_isNumber_14 rfl ?_
  refine Wp_callSg (c_X9_in (Int32.toInt_toInt64 _) ((Int32.toInt_toInt64 _).trans (nI_toInt (by omega))) ((Int32.toInt_toInt64 _).trans (nI_toInt (by omega)))) YS_X9_in ml_X9_78 dX9_isNumber_15 (by omega) (by decide) (by omega) (by omega) rfl rfl (Nat.le_of_ble_eq_true rfl) ?_
  exact Wp_zret (b := decide ((((48 + lo) : Nat) : Int) ≤ (mtk (tkT tt n p)).toInt ∧ (mtk (tkT tt n p)).toInt ≤ (((48 + hi) : Nat) : Int))) rfl rfl ⟨rfl, rfl, _, rfl, ⟨congrArg bI (mtkIn (lo := 48 + lo) (hi := 48 + hi) hTl.1 hh), rfl⟩⟩ (Nat.le_refl _) (Nat.le_refl _) dX9_isNumber_18
theorem c_X9_readsEnd {E : wE} {ad : Nat → Nat} {V : wV} {n : Nat} {tt : Nat → Nat} (t0 : MT V n tt) {p : Nat} (hp : p ≤ n) (a0 : MA V n tt p)  : w_C E mX9_readsEnd (w_R 3 0 0) 0 0 [.ref (ad (53))] SX ad V (w_i SX ad (fun r V' => r = bI (decide (tkT tt n p = 59)) ∧ ((tkT tt n p = 59 ∧ MA V' n tt (tkE tt n p) ∧ MTk V V') ∨ (tkT tt n p ≠ 59 ∧ V' = V)))) := by
  refine w_C.of (by decide) (Nat.le_of_ble_eq_true rfl) ?_
  show Wp _ _ _ _ _ _ _ _ _ [(0, .ref (ad (53)))] [] SX ad V
  have hTl := tkT_le (p := p) (fun k hk => (t0.2.2 k hk).2)
  refine Wp_aload_n dX9_readsEnd_0 rfl 0 rfl ?_
  refine Wp_get (x := (mtk (tkT tt n p))) fk_X9_91 sx_53 rfl a0.1 dX9_readsEnd_1 ?_
  refine Wp_bipush (v := (nI (59))) dX9_readsEnd_4 (by decide) ?_
  refine Wp_icmp_ne (tgt := 13) dX9_readsEnd_6 (by decide) (rfl) (nI_toInt (by omega)) (fun c_6 => ?_) (fun c_6 => ?_)
  · have hT : tkT tt n p ≠ 59 := fun w => c_6 ((mtk_eq hTl.1 (k := 59) (by omega)).mpr w)
    refine Wp_iconst (v := (nI (0))) dX9_readsEnd_13 (by decide) ?_
    refine Wp_istore_n (lv' := [(1, .int (nI (0))), (0, .ref (ad (53)))]) dX9_readsEnd_14 rfl (by decide) rfl ?_
    refine Wp_iload_n dX9_readsEnd_15 rfl 0 rfl ?_
    refine Wp_if_eq (tgt := 23) dX9_readsEnd_16 (by decide) (nI_toInt (by omega)) (fun c_16 => ?_) (fun c_16 => absurd c_16 (by omega))
    refine Wp_iload_n dX9_readsEnd_23 rfl 0 rfl ?_
    exact Wp_zret (b := false) rfl rfl ⟨rfl, rfl, _, rfl, ⟨congrArg bI (decide_eq_false hT).symm, Or.inr ⟨hT, rfl⟩⟩⟩ (Nat.le_refl _) (Nat.le_refl _) dX9_readsEnd_24
  · have hT : tkT tt n p = 59 := (mtk_eq hTl.1 (k := 59) (by omega)).mp c_6
    refine Wp_iconst (v := (nI (1))) dX9_readsEnd_9 (by decide) ?_
    refine Wp_goto (tgt := 14) dX9_readsEnd_10 (by decide) ?_
    refine Wp_istore_n (lv' := [(1, .int (nI (1))), (0, .ref (ad (53)))]) dX9_readsEnd_14 rfl (by decide) rfl ?_
    refine Wp_iload_n dX9_readsEnd_15 rfl 0 rfl ?_
    refine Wp_if_eq (tgt := 23) dX9_readsEnd_16 (by decide) (nI_toInt (by omega)) (fun c_16 => absurd c_16 (by omega)) (fun c_16 => ?_)
    refine Wp_aload_n dX9_readsEnd_19 rfl 1 rfl ?_
    refine Wp_callVv (c_X9_take t0 (tkE_le hp (show tkT tt n p ≠ 300 by omega)) (a0.2.2 (show tkT tt n p ≠ 300 by omega))) YV_X9_take ml_X9_102 sx_53 rfl dX9_readsEnd_20 (by omega) (by decide) (by omega) (by omega) rfl rfl (Nat.le_of_ble_eq_true rfl) (fun V1 hV1 => ?_)
    obtain ⟨a1, tk1a, tk1b⟩ := hV1
    have tk1 : MTk V V1 := ⟨tk1a, tk1b⟩
    have hp1 := tkE_le hp (show tkT tt n p ≠ 300 by omega)
    have t1 := t0.fm tk1.fm
    refine Wp_iload_n dX9_readsEnd_23 rfl 0 rfl ?_
    exact Wp_zret (b := true) rfl rfl ⟨rfl, rfl, _, rfl, ⟨congrArg bI (decide_eq_true hT).symm, Or.inl ⟨hT, a1, tk1⟩⟩⟩ (Nat.le_refl _) (Nat.le_refl _) dX9_readsEnd_24
theorem pE_f {tt : Nat → Nat} {n q : Nat} {y : aP} {r : Bool × Nat × aP} (h : r = (false, q, y)) : pE tt n r = (false, q, y) := by rw [h]; rfl
theorem pE_t {tt : Nat → Nat} {n q : Nat} {y : aP} {r : Bool × Nat × aP} (h : r = (true, q, y)) : pE tt n r = pEnd tt n q y := by rw [h]; rfl
theorem c_X9_readsPlaces {E : wE} {ad : Nat → Nat} {V : wV} {n : Nat} {tt : Nat → Nat} (t0 : MT V n tt) {p : Nat} (hp : p ≤ n) (a0 : MA V n tt p) {y : aP} (dr : MDR V y) (ht3 : tkT tt n p ≠ 300)  : w_C E mX9_readsPlaces (w_R 4 0 0) 0 0 [.ref (ad (53))] SX ad V (w_i SX ad (fun r V' => r = bI (pE tt n (pPl tt n p y)).1 ∧ MT V' n tt ∧ MA V' n tt (pE tt n (pPl tt n p y)).2.1 ∧ ((pE tt n (pPl tt n p y)).1 = true → MDR V' (pE tt n (pPl tt n p y)).2.2) ∧ MFm V V')) := by
  refine w_C.of (by decide) (Nat.le_of_ble_eq_true rfl) ?_
  show Wp _ _ _ _ _ _ _ _ _ [(0, .ref (ad (53)))] [] SX ad V
  have hTl := tkT_le (p := p) (fun k hk => (t0.2.2 k hk).2)
  refine Wp_aload_n dX9_readsPlaces_0 rfl 0 rfl ?_
  refine Wp_get (x := (nI (y.2.2.2.2.2))) fk_X9_105 sx_53 rfl dr.2.2.1 dX9_readsPlaces_1 ?_
  refine Wp_if_le (tgt := 9) dX9_readsPlaces_4 (by decide) (nI_toInt (by have := dr.2.2.2; omega)) (fun c_4 => ?_) (fun c_4 => ?_)
  · refine Wp_aload_n dX9_readsPlaces_9 rfl 0 rfl ?_
    refine Wp_callVv (c_X9_take t0 (tkE_le hp ht3) (a0.2.2 ht3)) YV_X9_take ml_X9_102 sx_53 rfl dX9_readsPlaces_10 (by omega) (by decide) (by omega) (by omega) rfl rfl (Nat.le_of_ble_eq_true rfl) (fun V1 hV1 => ?_)
    obtain ⟨a1, tk1a, tk1b⟩ := hV1
    have tk1 : MTk V V1 := ⟨tk1a, tk1b⟩
    have hp1 := tkE_le hp ht3
    have t1 := t0.fm tk1.fm
    refine Wp_aload_n dX9_readsPlaces_13 rfl 0 rfl ?_
    refine Wp_iconst (v := (nI (3))) dX9_readsPlaces_14 (by decide) ?_
    refine Wp_bipush (v := (nI (7))) dX9_readsPlaces_15 (by decide) ?_
    refine Wp_callVg (c_X9_isNumber t1 hp1 a1 (lo := 3) (hi := 7) (by omega) (by omega)) YV_X9_isNumber ml_X9_108 sx_53 rfl dX9_readsPlaces_17 (by omega) (by decide) (by omega) (by omega) rfl rfl (Nat.le_of_ble_eq_true rfl) ?_
    refine Wp_ifne_b (tgt := 25) dX9_readsPlaces_20 (by decide) (fun c_20 => ?_) (fun c_20 => ?_)
    · have q20 := of_decide_eq_true c_20
      refine Wp_aload_n dX9_readsPlaces_25 rfl 0 rfl ?_
      refine Wp_aload_n dX9_readsPlaces_26 rfl 0 rfl ?_
      refine Wp_get (x := (mtk (tkT tt n (tkE tt n p)))) fk_X9_91 sx_53 rfl a1.1 dX9_readsPlaces_27 ?_
      refine Wp_bipush (v := (nI (48))) dX9_readsPlaces_30 (by decide) ?_
      refine Wp_isub (z := (nI ((tkT tt n (tkE tt n p) - 48)))) dX9_readsPlaces_32 (by rw [mtk_ne (by omega), pk_sub (by omega)]) ?_
      refine Wp_put fk_X9_105 sx_53 rfl rfl rfl dX9_readsPlaces_33 ?_
      obtain ⟨V5, hV5⟩ : ∃ V5, V5 = (up2 V1 53 17 (nI ((tkT tt n (tkE tt n p) - 48)))) := ⟨_, rfl⟩
      rw [← hV5]
      have fm5 : MFm V1 V5 := ⟨fun k a b c d e => by rw [hV5, up2_k d], fun j a b c d e => by rw [hV5]; simp [up2, a]⟩
      have t5 := t1.fm fm5
      have d1 := dr.tk tk1
      have d5 : MDR V5 (y.1, y.2.1, y.2.2.1, y.2.2.2.1, y.2.2.2.2.1, tkT tt n (tkE tt n p) - 48) := by
        rw [hV5]
        refine ⟨d1.1.of (by simp [up2]) (by simp [up2]), ⟨by rw [up2_k (by decide)]; exact d1.2.1.1, d1.2.1.2.1, fun s hs => by simp [up2]; exact d1.2.1.2.2 s hs⟩, by rw [up2_s], by simp only; omega⟩
      refine Wp_aload_n dX9_readsPlaces_36 rfl 0 rfl ?_
      refine Wp_callVv (c_X9_take t5 (tkE_le hp1 (show tkT tt n (tkE tt n p) ≠ 300 by omega)) (by rw [hV5, up2_k (by decide)]; exact a1.2.2 (by omega))) YV_X9_take ml_X9_102 sx_53 rfl dX9_readsPlaces_37 (by omega) (by decide) (by omega) (by omega) rfl rfl (Nat.le_of_ble_eq_true rfl) (fun V2 hV2 => ?_)
      obtain ⟨a2, tk2a, tk2b⟩ := hV2
      have tk2 : MTk V5 V2 := ⟨tk2a, tk2b⟩
      have hp2 := tkE_le hp1 (show tkT tt n (tkE tt n p) ≠ 300 by omega)
      have t2 := t5.fm tk2.fm
      refine Wp_aload_n dX9_readsPlaces_40 rfl 0 rfl ?_
      refine Wp_callVi (c_X9_readsEnd t2 hp2 a2) YV_X9_readsEnd ml_X9_112 sx_53 rfl dX9_readsPlaces_41 (by omega) (by decide) (by omega) (by omega) rfl rfl (Nat.le_of_ble_eq_true rfl) (fun r3 V3 hr3 => ?_)
      obtain ⟨e3, o3⟩ := hr3
      subst e3
      exact Wp_zret (b := decide (tkT tt n (tkE tt n (tkE tt n p)) = 59)) rfl rfl ⟨rfl, rfl, _, rfl, by
      rw [pE_t ((show pPl tt n p y = (true, tkE tt n (tkE tt n p), (y.1, y.2.1, y.2.2.1, y.2.2.2.1, y.2.2.2.2.1, tkT tt n (tkE tt n p) - 48)) by unfold pPl; rw [if_neg (by omega), if_pos (by omega)]))]
      unfold pEnd
      rcases o3 with ⟨h1, h2, h3⟩ | ⟨h1, h2⟩
      · rw [if_pos h1, decide_eq_true h1]
        exact ⟨rfl, t2.fm h3.fm, h2, fun _ => (d5.tk tk2).tk h3, ((tk1.fm.tr fm5).tr tk2.fm).tr h3.fm⟩
      · rw [if_neg h1, decide_eq_false h1, h2]
        exact ⟨rfl, t2, a2, fun w => (by cases w), ((tk1.fm.tr fm5).tr tk2.fm)⟩⟩ (Nat.le_refl _) (Nat.le_refl _) dX9_readsPlaces_44
    · have q20 := of_decide_eq_false c_20
      refine Wp_iconst (v := (nI (0))) dX9_readsPlaces_23 (by decide) ?_
      exact Wp_zret (b := false) rfl rfl ⟨rfl, rfl, _, rfl, by
      rw [pE_f ((show pPl tt n p y = (false, tkE tt n p, y) by unfold pPl; rw [if_neg (by omega), if_neg (by omega)]))]
      exact ⟨rfl, t1, a1, fun w => (by cases w), tk1.fm⟩⟩ (Nat.le_refl _) (Nat.le_refl _) dX9_readsPlaces_24
  · refine Wp_iconst (v := (nI (0))) dX9_readsPlaces_7 (by decide) ?_
    exact Wp_zret (b := false) rfl rfl ⟨rfl, rfl, _, rfl, by
      rw [pE_f ((show pPl tt n p y = (false, p, y) by unfold pPl; rw [if_pos (by omega)]))]
      exact ⟨rfl, t0, a0, fun w => (by cases w), MFm.rf⟩⟩ (Nat.le_refl _) (Nat.le_refl _) dX9_readsPlaces_8
theorem c_X9_readsFlag {E : wE} {ad : Nat → Nat} {V : wV} {n : Nat} {tt : Nat → Nat} (t0 : MT V n tt) {p : Nat} (hp : p ≤ n) (a0 : MA V n tt p) {y : aP} (dr : MDR V y) (ht3 : tkT tt n p ≠ 300)  : w_C E mX9_readsFlag (w_R 4 0 0) 0 0 [.ref (ad (53))] SX ad V (w_i SX ad (fun r V' => r = bI (pE tt n (pFl tt n p y)).1 ∧ MT V' n tt ∧ MA V' n tt (pE tt n (pFl tt n p y)).2.1 ∧ ((pE tt n (pFl tt n p y)).1 = true → MDR V' (pE tt n (pFl tt n p y)).2.2) ∧ MFm V V')) := by
  refine w_C.of (by decide) (Nat.le_of_ble_eq_true rfl) ?_
  show Wp _ _ _ _ _ _ _ _ _ [(0, .ref (ad (53)))] [] SX ad V
  have hTl := tkT_le (p := p) (fun k hk => (t0.2.2 k hk).2)
  refine Wp_aload_n dX9_readsFlag_0 rfl 0 rfl ?_
  refine Wp_callVv (c_X9_take t0 (tkE_le hp ht3) (a0.2.2 ht3)) YV_X9_take ml_X9_102 sx_53 rfl dX9_readsFlag_1 (by omega) (by decide) (by omega) (by omega) rfl rfl (Nat.le_of_ble_eq_true rfl) (fun V1 hV1 => ?_)
  obtain ⟨a1, tk1a, tk1b⟩ := hV1
  have tk1 : MTk V V1 := ⟨tk1a, tk1b⟩
  have hp1 := tkE_le hp ht3
  have t1 := t0.fm tk1.fm
  refine Wp_aload_n dX9_readsFlag_4 rfl 0 rfl ?_
  refine Wp_callVg (c_X9_isFlag t1 hp1 a1) YV_X9_isFlag ml_X9_116 sx_53 rfl dX9_readsFlag_5 (by omega) (by decide) (by omega) (by omega) rfl rfl (Nat.le_of_ble_eq_true rfl) ?_
  refine Wp_ifne_b (tgt := 13) dX9_readsFlag_8 (by decide) (fun c_8 => ?_) (fun c_8 => ?_)
  · have q8 := of_decide_eq_true c_8
    refine Wp_aload_n dX9_readsFlag_13 rfl 0 rfl ?_
    refine Wp_get (x := (mtk (tkT tt n (tkE tt n p)))) fk_X9_91 sx_53 rfl a1.1 dX9_readsFlag_14 ?_
    refine Wp_bipush (v := (nI (97))) dX9_readsFlag_17 (by decide) ?_
    refine Wp_isub (z := (nI ((tkT tt n (tkE tt n p) - 97)))) dX9_readsFlag_19 (by rw [mtk_ne (by omega), pk_sub (by omega)]) ?_
    refine Wp_istore_n (lv' := [(1, .int (nI ((tkT tt n (tkE tt n p) - 97)))), (0, .ref (ad (53)))]) dX9_readsFlag_20 rfl (by decide) rfl ?_
    refine Wp_aload_n dX9_readsFlag_21 rfl 1 rfl ?_
    refine Wp_callVv (c_X9_take t1 (tkE_le hp1 (show tkT tt n (tkE tt n p) ≠ 300 by omega)) (a1.2.2 (show tkT tt n (tkE tt n p) ≠ 300 by omega))) YV_X9_take ml_X9_102 sx_53 rfl dX9_readsFlag_22 (by omega) (by decide) (by omega) (by omega) rfl rfl (Nat.le_of_ble_eq_true rfl) (fun V2 hV2 => ?_)
    obtain ⟨a2, tk2a, tk2b⟩ := hV2
    have tk2 : MTk V1 V2 := ⟨tk2a, tk2b⟩
    have hp2 := tkE_le hp1 (show tkT tt n (tkE tt n p) ≠ 300 by omega)
    have t2 := t1.fm tk2.fm
    refine Wp_aload_n dX9_readsFlag_25 rfl 1 rfl ?_
    refine Wp_iconst (v := (nI (0))) dX9_readsFlag_26 (by decide) ?_
    refine Wp_bipush (v := (nI (7))) dX9_readsFlag_27 (by decide) ?_
    refine Wp_callVg (c_X9_isNumber t2 hp2 a2 (lo := 0) (hi := 7) (by omega) (by omega)) YV_X9_isNumber ml_X9_108 sx_53 rfl dX9_readsFlag_29 (by omega) (by decide) (by omega) (by omega) rfl rfl (Nat.le_of_ble_eq_true rfl) ?_
    refine Wp_ifne_b (tgt := 37) dX9_readsFlag_32 (by decide) (fun c_32 => ?_) (fun c_32 => ?_)
    · have q32 := of_decide_eq_true c_32
      refine Wp_aload_n dX9_readsFlag_37 rfl 1 rfl ?_
      refine Wp_getr fk_X9_38 sx_53 rfl dX9_readsFlag_38 ?_
      refine Wp_iload_n dX9_readsFlag_41 rfl 0 rfl ?_
      refine Wp_aload_n dX9_readsFlag_42 rfl 1 rfl ?_
      refine Wp_get (x := (mtk (tkT tt n (tkE tt n (tkE tt n p))))) fk_X9_91 sx_53 rfl a2.1 dX9_readsFlag_43 ?_
      refine Wp_bipush (v := (nI (48))) dX9_readsFlag_46 (by decide) ?_
      refine Wp_isub (z := (nI ((tkT tt n (tkE tt n (tkE tt n p)) - 48)))) dX9_readsFlag_48 (by rw [mtk_ne (by omega), pk_sub (by omega)]) ?_
      refine Wp_ist (n := (tkT tt n (tkE tt n p) - 97)) sx_63 rfl (by omega) (by decide) dX9_readsFlag_49 ?_
      obtain ⟨V6, hV6⟩ : ∃ V6, V6 = (up2 V2 63 ((tkT tt n (tkE tt n p) - 97)) (nI ((tkT tt n (tkE tt n (tkE tt n p)) - 48)))) := ⟨_, rfl⟩
      rw [← hV6]
      have fm6 : MFm V2 V6 := ⟨fun k a b c d e => by rw [hV6, up2_i (by decide)], fun j a b c d e => by rw [hV6]; simp [up2, b]⟩
      have t6 := t2.fm fm6
      have d2 := (dr.tk tk1).tk tk2
      have c6 : ∀ k, V6 63 k = if k = (tkT tt n (tkE tt n p) - 97) then nI (tkT tt n (tkE tt n (tkE tt n p)) - 48) else V2 63 k := fun k => by rw [hV6]; simp [up2, upd]
      have o6 : ∀ j, j ≠ 63 → V6 j = V2 j := fun j hj => by rw [hV6]; simp [up2, hj]
      refine Wp_aload_n dX9_readsFlag_50 rfl 1 rfl ?_
      refine Wp_callVv (c_X9_take t6 (tkE_le hp2 (show tkT tt n (tkE tt n (tkE tt n p)) ≠ 300 by omega)) (by rw [hV6, up2_i (by decide)]; exact a2.2.2 (by omega))) YV_X9_take ml_X9_102 sx_53 rfl dX9_readsFlag_51 (by omega) (by decide) (by omega) (by omega) rfl rfl (Nat.le_of_ble_eq_true rfl) (fun V3 hV3 => ?_)
      obtain ⟨a3, tk3a, tk3b⟩ := hV3
      have tk3 : MTk V6 V3 := ⟨tk3a, tk3b⟩
      have hp3 := tkE_le hp2 (show tkT tt n (tkE tt n (tkE tt n p)) ≠ 300 by omega)
      have t3 := t6.fm tk3.fm
      refine Wp_aload_n dX9_readsFlag_54 rfl 1 rfl ?_
      refine Wp_iconst (v := (nI (1))) dX9_readsFlag_55 (by decide) ?_
      refine Wp_bipush (v := (nI (9))) dX9_readsFlag_56 (by decide) ?_
      refine Wp_callVg (c_X9_isNumber t3 hp3 a3 (lo := 1) (hi := 9) (by omega) (by omega)) YV_X9_isNumber ml_X9_108 sx_53 rfl dX9_readsFlag_58 (by omega) (by decide) (by omega) (by omega) rfl rfl (Nat.le_of_ble_eq_true rfl) ?_
      refine Wp_ifne_b (tgt := 66) dX9_readsFlag_61 (by decide) (fun c_61 => ?_) (fun c_61 => ?_)
      · have q61 := of_decide_eq_true c_61
        refine Wp_aload_n dX9_readsFlag_66 rfl 1 rfl ?_
        refine Wp_getr fk_X9_41 sx_53 rfl dX9_readsFlag_67 ?_
        refine Wp_iload_n dX9_readsFlag_70 rfl 0 rfl ?_
        refine Wp_aload_n dX9_readsFlag_71 rfl 1 rfl ?_
        refine Wp_get (x := (mtk (tkT tt n (tkE tt n (tkE tt n (tkE tt n p)))))) fk_X9_91 sx_53 rfl a3.1 dX9_readsFlag_72 ?_
        refine Wp_bipush (v := (nI (48))) dX9_readsFlag_75 (by decide) ?_
        refine Wp_isub (z := (nI ((tkT tt n (tkE tt n (tkE tt n (tkE tt n p))) - 48)))) dX9_readsFlag_77 (by rw [mtk_ne (by omega), pk_sub (by omega)]) ?_
        refine Wp_ist (n := (tkT tt n (tkE tt n p) - 97)) sx_64 rfl (by omega) (by decide) dX9_readsFlag_78 ?_
        obtain ⟨V7, hV7⟩ : ∃ V7, V7 = (up2 V3 64 ((tkT tt n (tkE tt n p) - 97)) (nI ((tkT tt n (tkE tt n (tkE tt n (tkE tt n p))) - 48)))) := ⟨_, rfl⟩
        rw [← hV7]
        have fm7 : MFm V3 V7 := ⟨fun k a b c d e => by rw [hV7, up2_i (by decide)], fun j a b c d e => by rw [hV7]; simp [up2, c]⟩
        have t7 := t3.fm fm7
        have c7 : ∀ k, V7 64 k = if k = (tkT tt n (tkE tt n p) - 97) then nI (tkT tt n (tkE tt n (tkE tt n (tkE tt n p))) - 48) else V3 64 k := fun k => by rw [hV7]; simp [up2, upd]
        have o7 : ∀ j, j ≠ 64 → V7 j = V3 j := fun j hj => by rw [hV7]; simp [up2, hj]
        have d7 : MDR V7 (va_up y.1 (tkT tt n (tkE tt n p) - 97) (tkT tt n (tkE tt n (tkE tt n p)) - 48), va_up y.2.1 (tkT tt n (tkE tt n p) - 97) (tkT tt n (tkE tt n (tkE tt n (tkE tt n p))) - 48), y.2.2) := by
          refine ⟨fun f hf => ?_, ⟨?_, d2.2.1.2.1, fun s hs => ?_⟩, ?_, d2.2.2.2⟩
          · rw [o7 63 (by decide), tk3.2 63 (by decide), c6, c7, tk3.2 64 (by decide), o6 64 (by decide)]
            by_cases z : f = (tkT tt n (tkE tt n p) - 97)
            · rw [if_pos z, if_pos z]; refine ⟨?_, ?_, ?_, ?_⟩ <;> simp only [va_up, if_pos z] <;> omega
            · rw [if_neg z, if_neg z]; simp only [va_up, if_neg z]; exact d2.1 f hf
          · rw [o7 53 (by decide), tk3.1 18 (by decide) (by decide) (by decide), o6 53 (by decide)]; exact d2.2.1.1
          · rw [o7 65 (by decide), o7 66 (by decide), tk3.2 65 (by decide), tk3.2 66 (by decide), o6 65 (by decide), o6 66 (by decide)]; exact d2.2.1.2.2 s hs
          · rw [o7 53 (by decide), tk3.1 17 (by decide) (by decide) (by decide), o6 53 (by decide)]; exact d2.2.2.1
        refine Wp_aload_n dX9_readsFlag_79 rfl 1 rfl ?_
        refine Wp_callVv (c_X9_take t7 (tkE_le hp3 (show tkT tt n (tkE tt n (tkE tt n (tkE tt n p))) ≠ 300 by omega)) (by rw [hV7, up2_i (by decide)]; exact a3.2.2 (by omega))) YV_X9_take ml_X9_102 sx_53 rfl dX9_readsFlag_80 (by omega) (by decide) (by omega) (by omega) rfl rfl (Nat.le_of_ble_eq_true rfl) (fun V4 hV4 => ?_)
        obtain ⟨a4, tk4a, tk4b⟩ := hV4
        have tk4 : MTk V7 V4 := ⟨tk4a, tk4b⟩
        have hp4 := tkE_le hp3 (show tkT tt n (tkE tt n (tkE tt n (tkE tt n p))) ≠ 300 by omega)
        have t4 := t7.fm tk4.fm
        refine Wp_aload_n dX9_readsFlag_83 rfl 1 rfl ?_
        refine Wp_callVi (c_X9_readsEnd t4 hp4 a4) YV_X9_readsEnd ml_X9_112 sx_53 rfl dX9_readsFlag_84 (by omega) (by decide) (by omega) (by omega) rfl rfl (Nat.le_of_ble_eq_true rfl) (fun r5 V5 hr5 => ?_)
        obtain ⟨e5, o5⟩ := hr5
        subst e5
        exact Wp_zret (b := decide (tkT tt n (tkE tt n (tkE tt n (tkE tt n (tkE tt n p)))) = 59)) rfl rfl ⟨rfl, rfl, _, rfl, by
      rw [pE_t ((show pFl tt n p y = (true, tkE tt n (tkE tt n (tkE tt n (tkE tt n p))), (va_up y.1 (tkT tt n (tkE tt n p) - 97) (tkT tt n (tkE tt n (tkE tt n p)) - 48), va_up y.2.1 (tkT tt n (tkE tt n p) - 97) (tkT tt n (tkE tt n (tkE tt n (tkE tt n p))) - 48), y.2.2)) by unfold pFl; rw [if_pos (by omega), if_pos (by omega), if_pos (by omega)]))]
      unfold pEnd
      rcases o5 with ⟨h1, h2, h3⟩ | ⟨h1, h2⟩
      · rw [if_pos h1, decide_eq_true h1]
        exact ⟨rfl, t4.fm h3.fm, h2, fun _ => (d7.tk tk4).tk h3, (((((tk1.fm.tr tk2.fm).tr fm6).tr tk3.fm).tr fm7).tr tk4.fm).tr h3.fm⟩
      · rw [if_neg h1, decide_eq_false h1, h2]
        exact ⟨rfl, t4, a4, fun w => (by cases w), (((((tk1.fm.tr tk2.fm).tr fm6).tr tk3.fm).tr fm7).tr tk4.fm)⟩⟩ (Nat.le_refl _) (Nat.le_refl _) dX9_readsFlag_87
      · have q61 := of_decide_eq_false c_61
        refine Wp_iconst (v := (nI (0))) dX9_readsFlag_64 (by decide) ?_
        exact Wp_zret (b := false) rfl rfl ⟨rfl, rfl, _, rfl, by
      rw [pE_f ((show pFl tt n p y = (false, tkE tt n (tkE tt n (tkE tt n p)), y) by unfold pFl; rw [if_pos (by omega), if_pos (by omega), if_neg (by omega)]))]
      exact ⟨rfl, t3, a3, fun w => (by cases w), (((tk1.fm.tr tk2.fm).tr fm6).tr tk3.fm)⟩⟩ (Nat.le_refl _) (Nat.le_refl _) dX9_readsFlag_65
    · have q32 := of_decide_eq_false c_32
      refine Wp_iconst (v := (nI (0))) dX9_readsFlag_35 (by decide) ?_
      exact Wp_zret (b := false) rfl rfl ⟨rfl, rfl, _, rfl, by
      rw [pE_f ((show pFl tt n p y = (false, tkE tt n (tkE tt n p), y) by unfold pFl; rw [if_pos (by omega), if_neg (by omega)]))]
      exact ⟨rfl, t2, a2, fun w => (by cases w), (tk1.fm.tr tk2.fm)⟩⟩ (Nat.le_refl _) (Nat.le_refl _) dX9_readsFlag_36
  · have q8 := of_decide_eq_false c_8
    refine Wp_iconst (v := (nI (0))) dX9_readsFlag_11 (by decide) ?_
    exact Wp_zret (b := false) rfl rfl ⟨rfl, rfl, _, rfl, by
      rw [pE_f ((show pFl tt n p y = (false, tkE tt n p, y) by unfold pFl; rw [if_neg (by omega)]))]
      exact ⟨rfl, t1, a1, fun w => (by cases w), tk1.fm⟩⟩ (Nat.le_refl _) (Nat.le_refl _) dX9_readsFlag_12
