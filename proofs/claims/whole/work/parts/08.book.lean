/-! THE BOOK (of the class): n sentences, ln letters each, lt the letters; a code is packed, four bits a letter -/
def dg (ln : Nat → Nat) (lt : Nat → Nat → Nat) (s i : Nat) : Nat := if i < ln s then lt s i + 1 else 0
def pkd (d : Nat → Nat) : Nat := d 0 * 4096 + d 1 * 256 + d 2 * 16 + d 3
def ltI (d : Nat) : Int32 := if d = 0 then -9 else nI (d - 1)
theorem ltI_0 : ltI 0 = -9 := rfl
theorem ltI_s {d : Nat} (h : d ≠ 0) : ltI d = nI (d - 1) := by simp [ltI, h]
theorem ltI_inj {a b : Nat} (ha : a ≤ 8) (hb : b ≤ 8) (h : (ltI a).toInt = (ltI b).toInt) : a = b := by
  have h9 : (-9 : Int32).toInt = -9 := by decide
  by_cases h1 : a = 0 <;> by_cases h2 : b = 0
  · omega
  · rw [h1, ltI_0, ltI_s h2, nI_toInt (by omega)] at h
    omega
  · rw [h2, ltI_0, ltI_s h1, nI_toInt (by omega)] at h
    omega
  · rw [ltI_s h1, ltI_s h2, nI_toInt (by omega), nI_toInt (by omega)] at h
    omega
def BK (V : wV) (h k n : Nat) (ln : Nat → Nat) (lt : Nat → Nat → Nat) : Prop := V h 3 = nI n ∧ n ≤ 10 ∧ ∀ s, s < n → V k s = nI (pkd (dg ln lt s)) ∧ 1 ≤ ln s ∧ ln s ≤ 4 ∧ ∀ i, i < ln s → lt s i < 8
def FG (V : wV) (c z : Nat) (col siz : Nat → Nat) : Prop := ∀ f, f < 8 → V c f = nI (col f) ∧ V z f = nI (siz f) ∧ col f < 8 ∧ siz f ≤ 9
theorem BK_dg {V : wV} {h k n : Nat} {ln : Nat → Nat} {lt : Nat → Nat → Nat} (b : BK V h k n ln lt) {s : Nat} (hs : s < n) (i : Nat) : dg ln lt s i ≤ 8 := by
  unfold dg
  split
  · have := (b.2.2 s hs).2.2.2 i (by assumption); omega
  · omega
theorem pkd_lt {d : Nat → Nat} (h : ∀ i, d i ≤ 8) : pkd d < 65536 := by
  have h0 := h 0; have h1 := h 1; have h2 := h 2; have h3 := h 3
  unfold pkd; omega
theorem pkd_dig {d : Nat → Nat} (h : ∀ i, d i ≤ 8) {i : Nat} (hi : i < 4) : pkd d / 2 ^ (4 * (3 - i)) % 16 = d i := by
  have h0 := h 0; have h1 := h 1; have h2 := h 2; have h3 := h 3
  unfold pkd
  rcases (show i = 0 ∨ i = 1 ∨ i = 2 ∨ i = 3 by omega) with rfl | rfl | rfl | rfl <;> simp <;> omega
theorem ltI_9 {d : Nat} (h : d ≤ 8) : (ltI d).toInt = -9 ↔ d = 0 := by
  constructor
  · intro q
    by_cases h0 : d = 0
    · exact h0
    · rw [ltI_s h0, nI_toInt (by omega)] at q; omega
  · intro q; subst q; decide
theorem has_nI {s n : Nat} (h : s < 2 ^ 31) : decide (0 ≤ (nI s).toInt ∧ (nI s).toInt < n) = decide (s < n) := by
  rw [nI_toInt h]
  exact decide_eq_decide.mpr (by omega)
theorem c_X0_shiftOf {E : wE} {S : List wK} {ad : Nat → Nat} {V : wV} {i : Nat} (hi : i < 4) : w_C E mX0_shiftOf (w_R 0 0 0) 0 0 [.int (nI (i))] S ad V (w_i S ad (fun r V' => r = nI (4 * (3 - i)) ∧ V' = V)) := by
  refine w_C.of (by decide) (Nat.le_of_ble_eq_true rfl) ?_
  show Wp _ _ _ _ _ _ _ _ _ [(0, .int (nI (i)))] [] S ad V
  refine Wp_iconst (v := (nI (4))) dX0_shiftOf_0 (by decide) ?_
  refine Wp_iconst (v := (nI (3))) dX0_shiftOf_1 (by decide) ?_
  refine Wp_iload_n dX0_shiftOf_2 rfl 0 rfl ?_
  refine Wp_isub (z := (nI ((3 - i)))) dX0_shiftOf_3 (pk_sub (by omega)) ?_
  refine Wp_imul (z := (nI ((4 * (3 - i))))) dX0_shiftOf_4 (pk_mul _ _) ?_
  exact Wp_iret rfl ⟨rfl, rfl, _, rfl, ⟨rfl, rfl⟩⟩ (Nat.le_refl _) (Nat.le_refl _) dX0_shiftOf_5
theorem c_X0_packed {E : wE} {S : List wK} {ad : Nat → Nat} {V : wV} {f i : Nat} (hf : f < 8) (hi : i < 4) : w_C E mX0_packed (w_R 1 0 0) 0 0 [.int (nI (f)), .int (nI (i))] S ad V (w_i S ad (fun r V' => r = nI ((f + 1) * 2 ^ (4 * (3 - i))) ∧ V' = V)) := by
  refine w_C.of (by decide) (Nat.le_of_ble_eq_true rfl) ?_
  show Wp _ _ _ _ _ _ _ _ _ [(0, .int (nI (f))), (1, .int (nI (i)))] [] S ad V
  have hb : (f + 1) * 2 ^ (4 * (3 - i)) < 2 ^ 32 := by
    rcases (show i = 0 ∨ i = 1 ∨ i = 2 ∨ i = 3 by omega) with rfl | rfl | rfl | rfl <;> simp <;> omega
  refine Wp_iload_n dX0_packed_0 rfl 0 rfl ?_
  refine Wp_iconst (v := (nI (1))) dX0_packed_1 (by decide) ?_
  refine Wp_iadd (z := (nI ((f + 1)))) dX0_packed_2 (nI_add _ _) ?_
  refine Wp_iload_n dX0_packed_3 rfl 1 rfl ?_
  refine Wp_callSg (c_X0_shiftOf hi) YS_X0_shiftOf ml_X0_37 dX0_packed_4 (by omega) (by decide) (by omega) (by omega) rfl rfl (Nat.le_of_ble_eq_true rfl) ?_
  refine Wp_ishl (z := (nI ((f + 1) * 2 ^ (4 * (3 - i))))) dX0_packed_7 (w_shl (by omega) hb) ?_
  exact Wp_iret rfl ⟨rfl, rfl, _, rfl, ⟨rfl, rfl⟩⟩ (Nat.le_refl _) (Nat.le_refl _) dX0_packed_8
theorem c_X0_has {E : wE} {S : List wK} {ad : Nat → Nat} {V : wV} {h c z k : Nat} (hB : S[h]? = some (.inl (0, [some (some c), some (some z), some (some k), none, none]))) {n : Nat} (hn : V h 3 = nI n) (hn10 : n ≤ 10) (s : Int32) : w_C E mX0_has (w_R 0 0 0) 0 0 [.ref (ad (h)), .int (s)] S ad V (w_i S ad (fun r V' => r = bI (decide (0 ≤ s.toInt ∧ s.toInt < n)) ∧ V' = V)) := by
  refine w_C.of (by decide) (Nat.le_of_ble_eq_true rfl) ?_
  show Wp _ _ _ _ _ _ _ _ _ [(0, .ref (ad (h))), (1, .int (s))] [] S ad V
  refine Wp_iload_n dX0_has_0 rfl 1 rfl ?_
  refine Wp_if_lt (tgt := 16) dX0_has_1 (by decide) (rfl) (fun c_1 => ?_) (fun c_1 => ?_)
  · refine Wp_iconst (v := (nI (0))) dX0_has_16 (by decide) ?_
    exact Wp_zret (b := false) rfl rfl ⟨rfl, rfl, _, rfl, ⟨congrArg bI (decide_eq_false (by omega)).symm, rfl⟩⟩ (Nat.le_refl _) (Nat.le_refl _) dX0_has_17
  · refine Wp_iload_n dX0_has_4 rfl 1 rfl ?_
    refine Wp_aload_n dX0_has_5 rfl 0 rfl ?_
    refine Wp_get (x := (nI (n))) fk_X0_24 hB rfl hn dX0_has_6 ?_
    refine Wp_icmp_ge (tgt := 16) dX0_has_9 (by decide) (rfl) (nI_toInt (by omega)) (fun c_9 => ?_) (fun c_9 => ?_)
    · refine Wp_iconst (v := (nI (0))) dX0_has_16 (by decide) ?_
      exact Wp_zret (b := false) rfl rfl ⟨rfl, rfl, _, rfl, ⟨congrArg bI (decide_eq_false (by omega)).symm, rfl⟩⟩ (Nat.le_refl _) (Nat.le_refl _) dX0_has_17
    · refine Wp_iconst (v := (nI (1))) dX0_has_12 (by decide) ?_
      refine Wp_goto (tgt := 17) dX0_has_13 (by decide) ?_
      exact Wp_zret (b := true) rfl rfl ⟨rfl, rfl, _, rfl, ⟨congrArg bI (decide_eq_true (by omega)).symm, rfl⟩⟩ (Nat.le_refl _) (Nat.le_refl _) dX0_has_17
theorem lp_X0_hasCode {E : wE} {S : List wK} {ad : Nat → Nat} {V : wV} {h c z k : Nat} (hB : S[h]? = some (.inl (0, [some (some c), some (some z), some (some k), none, none])))(hk : S[k]? = some (.inr (.inl (false, 10)))) {n : Nat} {ln : Nat → Nat} {lt : Nat → Nat → Nat} (b : BK V h k n ln lt) {x : Nat} (hx : x < 65536) : ∀ (m : Nat) (s : Nat), s ≤ n → n < s + m → (∀ t, t < s → pkd (dg ln lt t) ≠ x) → Wp E mX0_hasCode (w_R 0 0 0) (w_i S ad (fun r V' => r = bI (decide (∃ s, s < n ∧ pkd (dg ln lt s) = x)) ∧ V' = V)) 0 0 0 0 2 [(2, .int (nI (s))), (0, .ref (ad (h))), (1, .int (nI (x)))] [] S ad V := by
  have hn := b.1; have hn10 := b.2.1
  intro m
  induction m with
  | zero => intro s hs hm hv; omega
  | succ m ih =>
    intro s hs hm hv
    refine Wp_iload_n dX0_hasCode_2 rfl 0 rfl ?_
    refine Wp_aload_n dX0_hasCode_3 rfl 1 rfl ?_
    refine Wp_get (x := (nI (n))) fk_X0_24 hB rfl hn dX0_hasCode_4 ?_
    refine Wp_icmp_ge (tgt := 28) dX0_hasCode_7 (by decide) (nI_toInt (by omega)) (nI_toInt (by omega)) (fun c_7 => ?_) (fun c_7 => ?_)
    · refine Wp_iconst (v := (nI (0))) dX0_hasCode_28 (by decide) ?_
      exact Wp_zret (b := false) rfl rfl ⟨rfl, rfl, _, rfl, ⟨congrArg bI (decide_eq_false (fun ⟨t, h1, h2⟩ => hv t (by omega) h2)).symm, rfl⟩⟩ (Nat.le_refl _) (Nat.le_refl _) dX0_hasCode_29
    · have hp := pkd_lt (fun i => BK_dg b (show s < n by omega) i)
      refine Wp_aload_n dX0_hasCode_10 rfl 1 rfl ?_
      refine Wp_getr fk_X0_18 hB rfl dX0_hasCode_11 ?_
      refine Wp_iload_n dX0_hasCode_14 rfl 0 rfl ?_
      refine Wp_ild (n := s) (y := (nI (pkd (dg ln lt s)))) hk rfl (by omega) (by decide) (b.2.2 s (by omega)).1 dX0_hasCode_15 ?_
      refine Wp_iload_n dX0_hasCode_16 rfl 2 rfl ?_
      refine Wp_icmp_ne (tgt := 22) dX0_hasCode_17 (by decide) (nI_toInt (by omega)) (nI_toInt (by omega)) (fun c_17 => ?_) (fun c_17 => ?_)
      · refine Wp_iinc (x := (nI ((s + 1)))) (lv' := [(2, .int (nI ((s + 1)))), (0, .ref (ad (h))), (1, .int (nI (x)))]) dX0_hasCode_22 0 rfl (w_inc1 _) (by decide) rfl ?_
        refine Wp_goto (tgt := 2) dX0_hasCode_25 (by decide) ?_
        exact ih (s + 1) (by omega) (by omega) (fun t ht => by
          rcases Nat.lt_or_ge t s with q | q
          · exact hv t q
          · have e : t = s := by omega
            subst e; omega)
      · refine Wp_iconst (v := (nI (1))) dX0_hasCode_20 (by decide) ?_
        exact Wp_zret (b := true) rfl rfl ⟨rfl, rfl, _, rfl, ⟨congrArg bI (decide_eq_true ⟨s, by omega, by omega⟩).symm, rfl⟩⟩ (Nat.le_refl _) (Nat.le_refl _) dX0_hasCode_21
theorem c_X0_hasCode {E : wE} {S : List wK} {ad : Nat → Nat} {V : wV} {h c z k : Nat} (hB : S[h]? = some (.inl (0, [some (some c), some (some z), some (some k), none, none])))(hk : S[k]? = some (.inr (.inl (false, 10)))) {n : Nat} {ln : Nat → Nat} {lt : Nat → Nat → Nat} (b : BK V h k n ln lt) {x : Nat} (hx : x < 65536) : w_C E mX0_hasCode (w_R 0 0 0) 0 0 [.ref (ad (h)), .int (nI (x))] S ad V (w_i S ad (fun r V' => r = bI (decide (∃ s, s < n ∧ pkd (dg ln lt s) = x)) ∧ V' = V)) := by
  refine w_C.of (by decide) (Nat.le_of_ble_eq_true rfl) ?_
  show Wp _ _ _ _ _ _ _ _ _ [(0, .ref (ad (h))), (1, .int (nI (x)))] [] S ad V
  refine Wp_iconst (v := (nI (0))) dX0_hasCode_0 (by decide) ?_
  refine Wp_istore_n (lv' := [(2, .int (nI (0))), (0, .ref (ad (h))), (1, .int (nI (x)))]) dX0_hasCode_1 rfl (by decide) rfl ?_
  exact lp_X0_hasCode hB hk b hx (n + 1) 0 (by omega) (by omega) (fun t ht => by omega)
theorem c_X0_add {E : wE} {S : List wK} {ad : Nat → Nat} {V : wV} {h c z k : Nat} (hB : S[h]? = some (.inl (0, [some (some c), some (some z), some (some k), none, none])))(hk : S[k]? = some (.inr (.inl (false, 10)))) {n : Nat} (hn : V h 3 = nI n) (hn10 : n ≤ 10) (hlt : n < 10) (x : Int32) : w_C E mX0_add (w_R 0 0 0) 0 0 [.ref (ad (h)), .int (x)] S ad V (w_v S ad (fun V' => V' = up2 (up2 V k n x) h 3 (nI (n + 1)))) := by
  refine w_C.of (by decide) (Nat.le_of_ble_eq_true rfl) ?_
  show Wp _ _ _ _ _ _ _ _ _ [(0, .ref (ad (h))), (1, .int (x))] [] S ad V
  refine Wp_aload_n dX0_add_0 rfl 0 rfl ?_
  refine Wp_get (x := (nI (n))) fk_X0_24 hB rfl hn dX0_add_1 ?_
  refine Wp_bipush (v := (nI (10))) dX0_add_4 (by decide) ?_
  refine Wp_icmp_ge (tgt := 29) dX0_add_6 (by decide) (nI_toInt (by omega)) (nI_toInt (by omega)) (fun c_6 => absurd c_6 (by omega)) (fun c_6 => ?_)
  refine Wp_aload_n dX0_add_9 rfl 0 rfl ?_
  refine Wp_getr fk_X0_18 hB rfl dX0_add_10 ?_
  refine Wp_aload_n dX0_add_13 rfl 0 rfl ?_
  refine Wp_get (x := (nI (n))) fk_X0_24 hB rfl hn dX0_add_14 ?_
  refine Wp_iload_n dX0_add_17 rfl 1 rfl ?_
  refine Wp_ist (n := n) hk rfl (by omega) (by decide) dX0_add_18 ?_
  refine Wp_aload_n dX0_add_19 rfl 0 rfl ?_
  refine Wp_dup dX0_add_20 rfl ?_
  refine Wp_get (x := (nI (n))) fk_X0_24 hB rfl ((up2_i (w_ne hB hk (by simp))).trans hn) dX0_add_21 ?_
  refine Wp_iconst (v := (nI (1))) dX0_add_24 (by decide) ?_
  refine Wp_iadd (z := (nI ((n + 1)))) dX0_add_25 (nI_add _ _) ?_
  refine Wp_put fk_X0_24 hB rfl rfl rfl dX0_add_26 ?_
  exact Wp_vret rfl ⟨rfl, rfl, rfl, rfl⟩ (Nat.le_refl _) (Nat.le_refl _) dX0_add_29
theorem c_X0_letterOf {E : wE} {S : List wK} {ad : Nat → Nat} {V : wV} {h c z k : Nat} (hB : S[h]? = some (.inl (0, [some (some c), some (some z), some (some k), none, none])))(hk : S[k]? = some (.inr (.inl (false, 10)))) {n : Nat} {ln : Nat → Nat} {lt : Nat → Nat → Nat} (b : BK V h k n ln lt) {s i : Nat} (hs : s < n) (hi : i < 4) : w_C E mX0_letterOf (w_R 1 0 0) 0 0 [.ref (ad (h)), .int (nI (s)), .int (nI (i))] S ad V (w_i S ad (fun r V' => r = ltI (dg ln lt s i) ∧ V' = V)) := by
  refine w_C.of (by decide) (Nat.le_of_ble_eq_true rfl) ?_
  show Wp _ _ _ _ _ _ _ _ _ [(0, .ref (ad (h))), (1, .int (nI (s))), (2, .int (nI (i)))] [] S ad V
  have hn := b.1; have hn10 := b.2.1
  have hd := fun i => BK_dg b hs i
  have hp := pkd_lt hd
  have h3 : nI (pkd (dg ln lt s) / 2 ^ (4 * (3 - i))) &&& nI 15 = nI (dg ln lt s i) := by
    rw [pk_andN (by have := Nat.div_le_self (pkd (dg ln lt s)) (2 ^ (4 * (3 - i))); omega) 4 (by decide), show (2 : Nat) ^ 4 = 16 from rfl, pkd_dig hd hi]
  have hdi := hd i
  refine Wp_aload_n dX0_letterOf_0 rfl 0 rfl ?_
  refine Wp_iload_n dX0_letterOf_1 rfl 1 rfl ?_
  refine Wp_callVg (c_X0_has hB hn hn10 _) YV_X0_has ml_X0_41 hB rfl dX0_letterOf_2 (by omega) (by decide) (by omega) (by omega) rfl rfl (Nat.le_of_ble_eq_true rfl) ?_
  refine Wp_ifne_b (tgt := 11) dX0_letterOf_5 (by decide) (fun c_5 => ?_) (fun c_5 => absurd c_5 (by rw [has_nI (by omega)]; simp; omega))
  refine Wp_aload_n dX0_letterOf_11 rfl 0 rfl ?_
  refine Wp_getr fk_X0_18 hB rfl dX0_letterOf_12 ?_
  refine Wp_iload_n dX0_letterOf_15 rfl 1 rfl ?_
  refine Wp_ild (n := s) (y := (nI (pkd (dg ln lt s)))) hk rfl (by omega) (by decide) (b.2.2 s hs).1 dX0_letterOf_16 ?_
  refine Wp_iload_n dX0_letterOf_17 rfl 2 rfl ?_
  refine Wp_callSg (c_X0_shiftOf hi) YS_X0_shiftOf ml_X0_37 dX0_letterOf_18 (by omega) (by decide) (by omega) (by omega) rfl rfl (Nat.le_of_ble_eq_true rfl) ?_
  refine Wp_ishr (z := (nI (pkd (dg ln lt s) / 2 ^ (4 * (3 - i))))) dX0_letterOf_21 (w_shr (by omega) (by omega)) ?_
  refine Wp_bipush (v := (nI (15))) dX0_letterOf_22 (by decide) ?_
  refine Wp_iand (z := (nI (dg ln lt s i))) dX0_letterOf_24 h3 ?_
  refine Wp_istore_n (lv' := [(3, .int (nI (dg ln lt s i))), (0, .ref (ad (h))), (1, .int (nI (s))), (2, .int (nI (i)))]) dX0_letterOf_25 rfl (by decide) rfl ?_
  refine Wp_iload_n dX0_letterOf_26 rfl 0 rfl ?_
  refine Wp_if_ne (tgt := 35) dX0_letterOf_27 (by decide) (nI_toInt (by omega)) (fun c_27 => ?_) (fun c_27 => ?_)
  · refine Wp_iload_n dX0_letterOf_35 rfl 0 rfl ?_
    refine Wp_iconst (v := (nI (1))) dX0_letterOf_36 (by decide) ?_
    refine Wp_isub (z := (nI ((dg ln lt s i - 1)))) dX0_letterOf_37 (pk_sub (by omega)) ?_
    exact Wp_iret rfl ⟨rfl, rfl, _, rfl, ⟨by rw [ltI_s (by omega)], rfl⟩⟩ (Nat.le_refl _) (Nat.le_refl _) dX0_letterOf_38
  · refine Wp_bipush (v := ((-9))) dX0_letterOf_30 (by decide) ?_
    refine Wp_goto (tgt := 38) dX0_letterOf_32 (by decide) ?_
    exact Wp_iret rfl ⟨rfl, rfl, _, rfl, ⟨by rw [show dg ln lt s i = 0 by omega]; rfl, rfl⟩⟩ (Nat.le_refl _) (Nat.le_refl _) dX0_letterOf_38
theorem lp_X0_lengthOf {E : wE} {S : List wK} {ad : Nat → Nat} {V : wV} {h c z k : Nat} (hB : S[h]? = some (.inl (0, [some (some c), some (some z), some (some k), none, none])))(hk : S[k]? = some (.inr (.inl (false, 10)))) {n : Nat} {ln : Nat → Nat} {lt : Nat → Nat → Nat} (b : BK V h k n ln lt) {s : Nat} (hs : s < n) : ∀ (m : Nat) (i : Nat), i ≤ ln s → 4 < i + m → Wp E mX0_lengthOf (w_R 2 0 0) (w_i S ad (fun r V' => r = nI (ln s) ∧ V' = V)) 0 0 0 0 2 [(2, .int (nI (i))), (0, .ref (ad (h))), (1, .int (nI (s)))] [] S ad V := by
  have hn := b.1; have hn10 := b.2.1
  have hl := (b.2.2 s hs).2.2.1
  intro m
  induction m with
  | zero => intro i hi hm; omega
  | succ m ih =>
    intro i hi hm
    refine Wp_iload_n dX0_lengthOf_2 rfl 0 rfl ?_
    refine Wp_iconst (v := (nI (4))) dX0_lengthOf_3 (by decide) ?_
    refine Wp_icmp_ge (tgt := 24) dX0_lengthOf_4 (by decide) (nI_toInt (by omega)) (nI_toInt (by omega)) (fun c_4 => ?_) (fun c_4 => ?_)
    · refine Wp_iload_n dX0_lengthOf_24 rfl 0 rfl ?_
      exact Wp_iret rfl ⟨rfl, rfl, _, rfl, ⟨by rw [show i = ln s by omega], rfl⟩⟩ (Nat.le_refl _) (Nat.le_refl _) dX0_lengthOf_25
    · refine Wp_aload_n dX0_lengthOf_7 rfl 1 rfl ?_
      refine Wp_iload_n dX0_lengthOf_8 rfl 2 rfl ?_
      refine Wp_iload_n dX0_lengthOf_9 rfl 0 rfl ?_
      refine Wp_callVg (c_X0_letterOf hB hk b (s := s) (i := i) (by omega) (by omega)) YV_X0_letterOf ml_X0_45 hB rfl dX0_lengthOf_10 (by omega) (by decide) (by omega) (by omega) rfl rfl (Nat.le_of_ble_eq_true rfl) ?_
      refine Wp_bipush (v := ((-9))) dX0_lengthOf_13 (by decide) ?_
      refine Wp_icmp_eq (tgt := 24) dX0_lengthOf_15 (by decide) (rfl) ((by decide : ((-9) : Int32).toInt = (-9))) (fun c_15 => ?_) (fun c_15 => ?_)
      · have q0 := (ltI_9 (BK_dg b hs i)).mp c_15
        have q1 : ¬ i < ln s := by
          intro q; simp [dg, q] at q0
        refine Wp_iload_n dX0_lengthOf_24 rfl 0 rfl ?_
        exact Wp_iret rfl ⟨rfl, rfl, _, rfl, ⟨by rw [show i = ln s by omega], rfl⟩⟩ (Nat.le_refl _) (Nat.le_refl _) dX0_lengthOf_25
      · have q1 : i < ln s := by
          rcases Nat.lt_or_ge i (ln s) with q | q
          · exact q
          · exact absurd ((ltI_9 (BK_dg b hs i)).mpr (by unfold dg; rw [if_neg (by omega)])) c_15
        refine Wp_iinc (x := (nI ((i + 1)))) (lv' := [(2, .int (nI ((i + 1)))), (0, .ref (ad (h))), (1, .int (nI (s)))]) dX0_lengthOf_18 0 rfl (w_inc1 _) (by decide) rfl ?_
        refine Wp_goto (tgt := 2) dX0_lengthOf_21 (by decide) ?_
        exact ih (i + 1) (by omega) (by omega)
theorem c_X0_lengthOf {E : wE} {S : List wK} {ad : Nat → Nat} {V : wV} {h c z k : Nat} (hB : S[h]? = some (.inl (0, [some (some c), some (some z), some (some k), none, none])))(hk : S[k]? = some (.inr (.inl (false, 10)))) {n : Nat} {ln : Nat → Nat} {lt : Nat → Nat → Nat} (b : BK V h k n ln lt) {s : Nat} (hs : s < n) : w_C E mX0_lengthOf (w_R 2 0 0) 0 0 [.ref (ad (h)), .int (nI (s))] S ad V (w_i S ad (fun r V' => r = nI (ln s) ∧ V' = V)) := by
  refine w_C.of (by decide) (Nat.le_of_ble_eq_true rfl) ?_
  show Wp _ _ _ _ _ _ _ _ _ [(0, .ref (ad (h))), (1, .int (nI (s)))] [] S ad V
  refine Wp_iconst (v := (nI (0))) dX0_lengthOf_0 (by decide) ?_
  refine Wp_istore_n (lv' := [(2, .int (nI (0))), (0, .ref (ad (h))), (1, .int (nI (s)))]) dX0_lengthOf_1 rfl (by decide) rfl ?_
  exact lp_X0_lengthOf hB hk b hs 5 0 (by omega) (by omega)
/-- how many of the first t sentences are ahead of one -/
def rkd (f : Nat → Nat) (x : Nat) : Nat → Nat
  | 0 => 0
  | t + 1 => rkd f x t + (if f t < x then 1 else 0)
theorem rkd_le (f : Nat → Nat) (x t : Nat) : rkd f x t ≤ t := by
  induction t with
  | zero => simp [rkd]
  | succ t ih => simp only [rkd]; split <;> omega
theorem lp_X0_rankOf {E : wE} {S : List wK} {ad : Nat → Nat} {V : wV} {h c z k : Nat} (hB : S[h]? = some (.inl (0, [some (some c), some (some z), some (some k), none, none])))(hk : S[k]? = some (.inr (.inl (false, 10)))) {n : Nat} {ln : Nat → Nat} {lt : Nat → Nat → Nat} (b : BK V h k n ln lt) {s : Nat} (hs : s < n) : ∀ (m : Nat) (t : Nat), t ≤ n → n < t + m → Wp E mX0_rankOf (w_R 1 0 0) (w_i S ad (fun r V' => r = nI (rkd (fun t => pkd (dg ln lt t)) (pkd (dg ln lt s)) n) ∧ V' = V)) 0 0 0 0 15 [(3, .int (nI (t))), (2, .int (nI (rkd (fun t => pkd (dg ln lt t)) (pkd (dg ln lt s)) t))), (0, .ref (ad (h))), (1, .int (nI (s)))] [] S ad V := by
  have hn := b.1; have hn10 := b.2.1
  have hps := pkd_lt (fun i => BK_dg b hs i)
  intro m
  induction m with
  | zero => intro t ht hm; omega
  | succ m ih =>
    intro t ht hm
    refine Wp_iload_n dX0_rankOf_15 rfl 0 rfl ?_
    refine Wp_aload_n dX0_rankOf_16 rfl 2 rfl ?_
    refine Wp_get (x := (nI (n))) fk_X0_24 hB rfl hn dX0_rankOf_17 ?_
    refine Wp_icmp_ge (tgt := 47) dX0_rankOf_20 (by decide) (nI_toInt (by omega)) (nI_toInt (by omega)) (fun c_20 => ?_) (fun c_20 => ?_)
    · refine Wp_iload_n dX0_rankOf_47 rfl 1 rfl ?_
      exact Wp_iret rfl ⟨rfl, rfl, _, rfl, ⟨by rw [show t = n by omega], rfl⟩⟩ (Nat.le_refl _) (Nat.le_refl _) dX0_rankOf_48
    · have hpt := pkd_lt (fun i => BK_dg b (show t < n by omega) i)
      have hrk := rkd_le (fun t => pkd (dg ln lt t)) (pkd (dg ln lt s)) t
      refine Wp_aload_n dX0_rankOf_23 rfl 2 rfl ?_
      refine Wp_getr fk_X0_18 hB rfl dX0_rankOf_24 ?_
      refine Wp_iload_n dX0_rankOf_27 rfl 0 rfl ?_
      refine Wp_ild (n := t) (y := (nI (pkd (dg ln lt t)))) hk rfl (by omega) (by decide) (b.2.2 t (by omega)).1 dX0_rankOf_28 ?_
      refine Wp_aload_n dX0_rankOf_29 rfl 2 rfl ?_
      refine Wp_getr fk_X0_18 hB rfl dX0_rankOf_30 ?_
      refine Wp_iload_n dX0_rankOf_33 rfl 3 rfl ?_
      refine Wp_ild (n := s) (y := (nI (pkd (dg ln lt s)))) hk rfl (by omega) (by decide) (b.2.2 s hs).1 dX0_rankOf_34 ?_
      refine Wp_icmp_ge (tgt := 41) dX0_rankOf_35 (by decide) (nI_toInt (by omega)) (nI_toInt (by omega)) (fun c_35 => ?_) (fun c_35 => ?_)
      · have hq : rkd (fun t => pkd (dg ln lt t)) (pkd (dg ln lt s)) (t + 1) = rkd (fun t => pkd (dg ln lt t)) (pkd (dg ln lt s)) t := by
          simp only [rkd]; rw [if_neg (by omega)]; rfl
        refine Wp_iinc (x := (nI ((t + 1)))) (lv' := [(3, .int (nI ((t + 1)))), (2, .int (nI (rkd (fun t => pkd (dg ln lt t)) (pkd (dg ln lt s)) t))), (0, .ref (ad (h))), (1, .int (nI (s)))]) dX0_rankOf_41 0 rfl (w_inc1 _) (by decide) rfl ?_
        refine Wp_goto (tgt := 15) dX0_rankOf_44 (by decide) ?_
        rw [← hq]
        exact ih (t + 1) (by omega) (by omega)
      · have hq : rkd (fun t => pkd (dg ln lt t)) (pkd (dg ln lt s)) (t + 1) = rkd (fun t => pkd (dg ln lt t)) (pkd (dg ln lt s)) t + 1 := by
          simp only [rkd]; rw [if_pos (by omega)]
        refine Wp_iinc (x := (nI ((rkd (fun t => pkd (dg ln lt t)) (pkd (dg ln lt s)) t + 1)))) (lv' := [(2, .int (nI ((rkd (fun t => pkd (dg ln lt t)) (pkd (dg ln lt s)) t + 1)))), (3, .int (nI (t))), (0, .ref (ad (h))), (1, .int (nI (s)))]) dX0_rankOf_38 1 rfl (w_inc1 _) (by decide) rfl ?_
        refine Wp_iinc (x := (nI ((t + 1)))) (lv' := [(3, .int (nI ((t + 1)))), (2, .int (nI ((rkd (fun t => pkd (dg ln lt t)) (pkd (dg ln lt s)) t + 1)))), (0, .ref (ad (h))), (1, .int (nI (s)))]) dX0_rankOf_41 1 rfl (w_inc1 _) (by decide) rfl ?_
        refine Wp_goto (tgt := 15) dX0_rankOf_44 (by decide) ?_
        rw [← hq]
        exact ih (t + 1) (by omega) (by omega)
theorem c_X0_rankOf {E : wE} {S : List wK} {ad : Nat → Nat} {V : wV} {h c z k : Nat} (hB : S[h]? = some (.inl (0, [some (some c), some (some z), some (some k), none, none])))(hk : S[k]? = some (.inr (.inl (false, 10)))) {n : Nat} {ln : Nat → Nat} {lt : Nat → Nat → Nat} (b : BK V h k n ln lt) {s : Nat} (hs : s < n) : w_C E mX0_rankOf (w_R 1 0 0) 0 0 [.ref (ad (h)), .int (nI (s))] S ad V (w_i S ad (fun r V' => r = nI (rkd (fun t => pkd (dg ln lt t)) (pkd (dg ln lt s)) n) ∧ V' = V)) := by
  refine w_C.of (by decide) (Nat.le_of_ble_eq_true rfl) ?_
  show Wp _ _ _ _ _ _ _ _ _ [(0, .ref (ad (h))), (1, .int (nI (s)))] [] S ad V
  have hn := b.1; have hn10 := b.2.1
  refine Wp_aload_n dX0_rankOf_0 rfl 0 rfl ?_
  refine Wp_iload_n dX0_rankOf_1 rfl 1 rfl ?_
  refine Wp_callVg (c_X0_has hB hn hn10 _) YV_X0_has ml_X0_41 hB rfl dX0_rankOf_2 (by omega) (by decide) (by omega) (by omega) rfl rfl (Nat.le_of_ble_eq_true rfl) ?_
  refine Wp_ifne_b (tgt := 11) dX0_rankOf_5 (by decide) (fun c_5 => ?_) (fun c_5 => absurd c_5 (by rw [has_nI (by omega)]; simp; omega))
  refine Wp_iconst (v := (nI (0))) dX0_rankOf_11 (by decide) ?_
  refine Wp_istore_n (lv' := [(2, .int (nI (0))), (0, .ref (ad (h))), (1, .int (nI (s)))]) dX0_rankOf_12 rfl (by decide) rfl ?_
  refine Wp_iconst (v := (nI (0))) dX0_rankOf_13 (by decide) ?_
  refine Wp_istore_n (lv' := [(3, .int (nI (0))), (2, .int (nI (0))), (0, .ref (ad (h))), (1, .int (nI (s)))]) dX0_rankOf_14 rfl (by decide) rfl ?_
  exact lp_X0_rankOf hB hk b hs (n + 1) 0 (by omega) (by omega)
