/-! A HOIST as it grows: things, how many; letters, how many; substitutes used; how many of them -/
abbrev aH : Type := (Nat → Nat) × Nat × (Nat → Nat) × Nat × (Nat → Bool) × Nat
def isth (le : Nat → Nat) (lc x : Nat) : Bool := decide (∃ i, i < lc ∧ le i = x)
def fsc (le : Nat → Nat) (lc : Nat) (us : Nat → Bool) (x k : Nat) : Bool := decide (k < lc) && (decide (le k = x) && !us k)
def fsb (le : Nat → Nat) (lc : Nat) (us : Nat → Bool) (x : Nat) : Nat := if fsc le lc us x 0 = true then 1 else if fsc le lc us x 1 = true then 2 else if fsc le lc us x 2 = true then 3 else 0
def hLet (room : Nat) (h : aH) (x : Nat) : Option aH :=
  if isth h.2.2.1 h.2.2.2.1 x = true then
    if fsb h.2.2.1 h.2.2.2.1 h.2.2.2.2.1 x = 0 then none else if room ≤ h.2.1 then none else
      some (va_up h.1 h.2.1 (10 + fsb h.2.2.1 h.2.2.2.1 h.2.2.2.2.1 x), h.2.1 + 1, va_up h.2.2.1 h.2.2.2.1 x, h.2.2.2.1 + 1, va_up h.2.2.2.2.1 (fsb h.2.2.1 h.2.2.2.1 h.2.2.2.2.1 x - 1) true, h.2.2.2.2.2 + 1)
  else if room ≤ h.2.1 then none else some (va_up h.1 h.2.1 x, h.2.1 + 1, va_up h.2.2.1 h.2.2.2.1 x, h.2.2.2.1 + 1, h.2.2.2.2.1, h.2.2.2.2.2)
def hTac (room : Nat) (h : aH) : Option aH := if room ≤ h.2.1 then none else some (va_up h.1 h.2.1 20, h.2.1 + 1, h.2.2)
def hLs (room : Nat) (lt : Nat → Nat) : Nat → Nat → aH → Option aH
  | 0, _, h => some h
  | f + 1, i, h => (hLet room h (lt i)).bind (hLs room lt f (i + 1))
def hCode (room : Nat) (ln : Nat → Nat) (lt : Nat → Nat → Nat) (s : Nat) (h : aH) : Option aH := (if h.2.1 = 0 then some h else hTac room h).bind (hLs room (lt s) (ln s) 0)
def hRw (room : Nat) (ln : Nat → Nat) (lt : Nat → Nat → Nat) (row : Nat → Nat) : Nat → Nat → aH → Option aH
  | 0, _, h => some h
  | f + 1, i, h => (hCode room ln lt (row i) h).bind (hRw room ln lt row f (i + 1))
def h0H : aH := (fun _ => 0, 0, fun _ => 0, 0, fun _ => false, 0)
theorem fsb_le (le : Nat → Nat) (lc : Nat) (us : Nat → Bool) (x : Nat) : fsb le lc us x ≤ 3 := by
  unfold fsb; split
  · omega
  · split
    · omega
    · split <;> omega
def shN (us : Nat → Bool) : Nat := (if us 0 = true then 2 else 0) + (if us 1 = true then 4 else 0) + (if us 2 = true then 8 else 0)
def sbI (f : Nat) : Int32 := if f = 0 then -9 else nI f
/-- the rope holds a hoist -/
def RP (V : wV) (rp rt rl room : Nat) (h : aH) : Prop := V rp 1 = nI h.2.1 ∧ V rp 2 = nI h.2.2.2.2.2 ∧ V rp 4 = nI h.2.2.2.1 ∧ V rp 5 = nI (shN h.2.2.2.2.1) ∧ V rp 6 = nI room ∧ room ≤ 7 ∧ h.2.1 ≤ room ∧ h.2.2.2.1 ≤ h.2.1 ∧ (∀ k, k < h.2.1 → V rt k = nI (h.1 k)) ∧ ∀ k, k < h.2.2.2.1 → V rl k = nI (h.2.2.1 k) ∧ h.2.2.1 k < 8
theorem RP.of {V V' : wV} {rp rt rl room : Nat} {h : aH} (g : RP V rp rt rl room h) (h1 : V' rp = V rp) (h2 : V' rt = V rt) (h3 : V' rl = V rl) : RP V' rp rt rl room h := by
  unfold RP; rw [h1, h2, h3]; exact g
theorem c_X4_begin {E : wE} {S : List wK} {ad : Nat → Nat} {V : wV} {rp rt rl : Nat} (hP : S[rp]? = some (.inl (4, [some (some rt), none, none, some (some rl), none, none, none]))) {pl : Nat} (hpl : pl ≤ 7) : w_C E mX4_begin (w_R 1 0 0) 0 0 [.ref (ad (rp)), .int (nI (pl))] S ad V (w_v S ad (fun V' => RP V' rp rt rl pl h0H ∧ ∀ j, j ≠ rp → V' j = V j)) := by
  refine w_C.of (by decide) (Nat.le_of_ble_eq_true rfl) ?_
  show Wp _ _ _ _ _ _ _ _ _ [(0, .ref (ad (rp))), (1, .int (nI (pl)))] [] S ad V
  refine Wp_aload_n dX4_begin_0 rfl 0 rfl ?_
  refine Wp_iconst (v := (nI (0))) dX4_begin_1 (by decide) ?_
  refine Wp_put fk_X4_18 hP rfl rfl rfl dX4_begin_2 ?_
  refine Wp_aload_n dX4_begin_5 rfl 0 rfl ?_
  refine Wp_iconst (v := (nI (0))) dX4_begin_6 (by decide) ?_
  refine Wp_put fk_X4_22 hP rfl rfl rfl dX4_begin_7 ?_
  refine Wp_aload_n dX4_begin_10 rfl 0 rfl ?_
  refine Wp_iconst (v := (nI (0))) dX4_begin_11 (by decide) ?_
  refine Wp_put fk_X4_25 hP rfl rfl rfl dX4_begin_12 ?_
  refine Wp_aload_n dX4_begin_15 rfl 0 rfl ?_
  refine Wp_iconst (v := (nI (0))) dX4_begin_16 (by decide) ?_
  refine Wp_put fk_X4_28 hP rfl rfl rfl dX4_begin_17 ?_
  refine Wp_aload_n dX4_begin_20 rfl 0 rfl ?_
  refine Wp_iload_n dX4_begin_21 rfl 1 rfl ?_
  refine Wp_bipush (v := (nI (7))) dX4_begin_22 (by decide) ?_
  refine Wp_min (z := (nI (pl))) ml_X4_31 (if_neg (nI_nlt hpl (by omega))) (by decide) (Nat.le_of_ble_eq_true rfl) (by omega) (by omega) dX4_begin_24 ?_
  refine Wp_put fk_X4_37 hP rfl rfl rfl dX4_begin_27 ?_
  exact Wp_vret rfl ⟨rfl, rfl, rfl, by
    refine ⟨⟨?_, ?_, ?_, ?_, ?_, hpl, Nat.zero_le _, Nat.zero_le _, fun k hk => absurd hk (Nat.not_lt_zero k), fun k hk => absurd hk (Nat.not_lt_zero k)⟩, fun j hj => by simp [up2, hj]⟩ <;> simp [up2, upd] <;> rfl⟩ (Nat.le_refl _) (Nat.le_refl _) dX4_begin_30
theorem c_X4_addThing {E : wE} {S : List wK} {ad : Nat → Nat} {V : wV} {rp rt rl : Nat} (hP : S[rp]? = some (.inl (4, [some (some rt), none, none, some (some rl), none, none, none]))) (hrt : S[rt]? = some (.inr (.inl (false, 7)))) {tn room : Nat} (a1 : V rp 1 = nI tn) (a6 : V rp 6 = nI room) (h7 : room ≤ 7) (htn : tn ≤ room) (x : Int32) : w_C E mX4_addThing (w_R 0 0 0) 0 0 [.ref (ad (rp)), .int (x)] S ad V (w_i S ad (fun r V' => (room ≤ tn ∧ r = bI false ∧ V' = V) ∨ (tn < room ∧ r = bI true ∧ V' = up2 (up2 V rt tn x) rp 1 (nI (tn + 1))))) := by
  refine w_C.of (by decide) (Nat.le_of_ble_eq_true rfl) ?_
  show Wp _ _ _ _ _ _ _ _ _ [(0, .ref (ad (rp))), (1, .int (x))] [] S ad V
  refine Wp_aload_n dX4_addThing_0 rfl 0 rfl ?_
  refine Wp_get (x := (nI (tn))) fk_X4_18 hP rfl a1 dX4_addThing_1 ?_
  refine Wp_aload_n dX4_addThing_4 rfl 0 rfl ?_
  refine Wp_get (x := (nI (room))) fk_X4_37 hP rfl a6 dX4_addThing_5 ?_
  refine Wp_icmp_lt (tgt := 13) dX4_addThing_8 (by decide) (nI_toInt (by omega)) (nI_toInt (by omega)) (fun c_8 => ?_) (fun c_8 => ?_)
  · refine Wp_aload_n dX4_addThing_13 rfl 0 rfl ?_
    refine Wp_getr fk_X4_9 hP rfl dX4_addThing_14 ?_
    refine Wp_aload_n dX4_addThing_17 rfl 0 rfl ?_
    refine Wp_get (x := (nI (tn))) fk_X4_18 hP rfl a1 dX4_addThing_18 ?_
    refine Wp_iload_n dX4_addThing_21 rfl 1 rfl ?_
    refine Wp_ist (n := tn) hrt rfl (by omega) (by decide) dX4_addThing_22 ?_
    refine Wp_aload_n dX4_addThing_23 rfl 0 rfl ?_
    refine Wp_dup dX4_addThing_24 rfl ?_
    refine Wp_get (x := (nI (tn))) fk_X4_18 hP rfl ((up2_i (w_ne hP hrt (by simp))).trans a1) dX4_addThing_25 ?_
    refine Wp_iconst (v := (nI (1))) dX4_addThing_28 (by decide) ?_
    refine Wp_iadd (z := (nI ((tn + 1)))) dX4_addThing_29 (nI_add _ _) ?_
    refine Wp_put fk_X4_18 hP rfl rfl rfl dX4_addThing_30 ?_
    refine Wp_iconst (v := (nI (1))) dX4_addThing_33 (by decide) ?_
    exact Wp_zret (b := true) rfl rfl ⟨rfl, rfl, _, rfl, Or.inr ⟨by omega, rfl, rfl⟩⟩ (Nat.le_refl _) (Nat.le_refl _) dX4_addThing_34
  · refine Wp_iconst (v := (nI (0))) dX4_addThing_11 (by decide) ?_
    exact Wp_zret (b := false) rfl rfl ⟨rfl, rfl, _, rfl, Or.inl ⟨by omega, rfl, rfl⟩⟩ (Nat.le_refl _) (Nat.le_refl _) dX4_addThing_12
theorem lp_X4_isThere {E : wE} {S : List wK} {ad : Nat → Nat} {V : wV} {rp rt rl : Nat} (hP : S[rp]? = some (.inl (4, [some (some rt), none, none, some (some rl), none, none, none]))) (hrl : S[rl]? = some (.inr (.inl (false, 7)))) {room : Nat} {g : aH} (r0 : RP V rp rt rl room g) {x : Nat} (hx : x < 8) : ∀ (m : Nat) (i : Nat), i ≤ g.2.2.2.1 → g.2.2.2.1 < i + m → (∀ t, t < i → g.2.2.1 t ≠ x) → Wp E mX4_isThere (w_R 0 0 0) (w_i S ad (fun r V' => r = bI (isth g.2.2.1 g.2.2.2.1 x) ∧ V' = V)) 0 0 0 0 2 [(2, .int (nI (i))), (0, .ref (ad (rp))), (1, .int (nI (x)))] [] S ad V := by
  obtain ⟨r1, r2, r4, r5, r6, r7, r8, r9, r10, r11⟩ := r0
  intro m
  induction m with
  | zero => intro i hi hm hv; omega
  | succ m ih =>
    intro i hi hm hv
    refine Wp_iload_n dX4_isThere_2 rfl 0 rfl ?_
    refine Wp_aload_n dX4_isThere_3 rfl 1 rfl ?_
    refine Wp_get (x := (nI (g.2.2.2.1))) fk_X4_25 hP rfl r4 dX4_isThere_4 ?_
    refine Wp_icmp_ge (tgt := 28) dX4_isThere_7 (by decide) (nI_toInt (by omega)) (nI_toInt (by omega)) (fun c_7 => ?_) (fun c_7 => ?_)
    · refine Wp_iconst (v := (nI (0))) dX4_isThere_28 (by decide) ?_
      exact Wp_zret (b := false) rfl rfl ⟨rfl, rfl, _, rfl, ⟨congrArg bI (decide_eq_false (fun ⟨t, h1, h2⟩ => hv t (by omega) h2)).symm, rfl⟩⟩ (Nat.le_refl _) (Nat.le_refl _) dX4_isThere_29
    · have hle := (r11 i (by omega)).2
      refine Wp_aload_n dX4_isThere_10 rfl 1 rfl ?_
      refine Wp_getr fk_X4_15 hP rfl dX4_isThere_11 ?_
      refine Wp_iload_n dX4_isThere_14 rfl 0 rfl ?_
      refine Wp_ild (n := i) (y := (nI (g.2.2.1 i))) hrl rfl (by omega) (by decide) (r11 i (by omega)).1 dX4_isThere_15 ?_
      refine Wp_iload_n dX4_isThere_16 rfl 2 rfl ?_
      refine Wp_icmp_ne (tgt := 22) dX4_isThere_17 (by decide) (nI_toInt (by omega)) (nI_toInt (by omega)) (fun c_17 => ?_) (fun c_17 => ?_)
      · refine Wp_iinc (x := (nI ((i + 1)))) (lv' := [(2, .int (nI ((i + 1)))), (0, .ref (ad (rp))), (1, .int (nI (x)))]) dX4_isThere_22 0 rfl (w_inc1 _) (by decide) rfl ?_
        refine Wp_goto (tgt := 2) dX4_isThere_25 (by decide) ?_
        exact ih (i + 1) (by omega) (by omega) (fun t ht => by
          rcases Nat.lt_or_ge t i with q | q
          · exact hv t q
          · rw [show t = i by omega]; omega)
      · refine Wp_iconst (v := (nI (1))) dX4_isThere_20 (by decide) ?_
        exact Wp_zret (b := true) rfl rfl ⟨rfl, rfl, _, rfl, ⟨congrArg bI (decide_eq_true ⟨i, by omega, by omega⟩).symm, rfl⟩⟩ (Nat.le_refl _) (Nat.le_refl _) dX4_isThere_21
theorem c_X4_isThere {E : wE} {S : List wK} {ad : Nat → Nat} {V : wV} {rp rt rl : Nat} (hP : S[rp]? = some (.inl (4, [some (some rt), none, none, some (some rl), none, none, none]))) (hrl : S[rl]? = some (.inr (.inl (false, 7)))) {room : Nat} {g : aH} (r0 : RP V rp rt rl room g) {x : Nat} (hx : x < 8) : w_C E mX4_isThere (w_R 0 0 0) 0 0 [.ref (ad (rp)), .int (nI (x))] S ad V (w_i S ad (fun r V' => r = bI (isth g.2.2.1 g.2.2.2.1 x) ∧ V' = V)) := by
  refine w_C.of (by decide) (Nat.le_of_ble_eq_true rfl) ?_
  show Wp _ _ _ _ _ _ _ _ _ [(0, .ref (ad (rp))), (1, .int (nI (x)))] [] S ad V
  refine Wp_iconst (v := (nI (0))) dX4_isThere_0 (by decide) ?_
  refine Wp_istore_n (lv' := [(2, .int (nI (0))), (0, .ref (ad (rp))), (1, .int (nI (x)))]) dX4_isThere_1 rfl (by decide) rfl ?_
  exact lp_X4_isThere hP hrl r0 hx 9 0 (by omega) (by have h8 := r0.2.2.2.2.2.1; have h9 := r0.2.2.2.2.2.2.1; have h10 := r0.2.2.2.2.2.2.2.1; omega) (fun t ht => by omega)
theorem shN_bit (us : Nat → Bool) {k : Nat} (hk : k < 3) : nI (shN us) &&& (nI 1 <<< (nI (k + 1) &&& 31)) = if us k = true then nI (2 ^ (k + 1)) else nI 0 := by
  unfold shN
  rcases (show k = 0 ∨ k = 1 ∨ k = 2 by omega) with rfl | rfl | rfl <;> cases h0 : us 0 <;> cases h1 : us 1 <;> cases h2 : us 2 <;> decide
theorem shN_set (us : Nat → Bool) {k : Nat} (hk : k < 3) (h : us k = false) : nI (shN us) ||| (nI 1 <<< (nI (k + 1) &&& 31)) = nI (shN (va_up us k true)) := by
  unfold shN va_up
  rcases (show k = 0 ∨ k = 1 ∨ k = 2 by omega) with rfl | rfl | rfl <;> cases h0 : us 0 <;> cases h1 : us 1 <;> cases h2 : us 2 <;> first | decide | (rw [h0] at h; cases h) | (rw [h1] at h; cases h) | (rw [h2] at h; cases h)
theorem fsc_t {le : Nat → Nat} {lc : Nat} {us : Nat → Bool} {x k : Nat} (h1 : k < lc) (h2 : le k = x) (h3 : us k = false) : fsc le lc us x k = true := by simp [fsc, h1, h2, h3]
theorem fsc_f {le : Nat → Nat} {lc : Nat} {us : Nat → Bool} {x k : Nat} (h : ¬ k < lc ∨ ¬ le k = x ∨ us k = true) : fsc le lc us x k = false := by
  rcases h with h | h | h <;> simp [fsc, h]
theorem lp_X4_freeSubstitute {E : wE} {S : List wK} {ad : Nat → Nat} {V : wV} {rp rt rl : Nat} (hP : S[rp]? = some (.inl (4, [some (some rt), none, none, some (some rl), none, none, none]))) (hrl : S[rl]? = some (.inr (.inl (false, 7)))) {room : Nat} {g : aH} (r0 : RP V rp rt rl room g) {x : Nat} (hx : x < 8) : ∀ (m : Nat) (n : Nat), n ≤ 3 → 3 < n + m → (∀ t, t < n → fsc g.2.2.1 g.2.2.2.1 g.2.2.2.2.1 x t = false) → Wp E mX4_freeSubstitute (w_R 0 0 0) (w_i S ad (fun r V' => r = sbI (fsb g.2.2.1 g.2.2.2.1 g.2.2.2.2.1 x) ∧ V' = V)) 0 0 0 0 2 [(2, .int (nI ((n + 1)))), (0, .ref (ad (rp))), (1, .int (nI (x)))] [] S ad V := by
  obtain ⟨r1, r2, r4, r5, r6, r7, r8, r9, r10, r11⟩ := r0
  have hl7 : g.2.2.2.1 ≤ 7 := by omega
  intro m
  induction m with
  | zero => intro n hn hm hv; omega
  | succ m ih =>
    intro n hn hm hv
    refine Wp_iload_n dX4_freeSubstitute_2 rfl 0 rfl ?_
    refine Wp_iconst (v := (nI (3))) dX4_freeSubstitute_3 (by decide) ?_
    refine Wp_icmp_gt (tgt := 56) dX4_freeSubstitute_4 (by decide) (nI_toInt (by omega)) (nI_toInt (by omega)) (fun c_4 => ?_) (fun c_4 => ?_)
    · refine Wp_bipush (v := ((-9))) dX4_freeSubstitute_56 (by decide) ?_
      exact Wp_iret rfl ⟨rfl, rfl, _, rfl, ⟨by
      have hz : ∀ t, t < 3 → fsc g.2.2.1 g.2.2.2.1 g.2.2.2.2.1 x t = false := fun t ht => by
        rcases Nat.lt_or_ge t n with q | q
        · exact hv t q
        · exact fsc_f (Or.inl (by omega))
      unfold fsb; rw [if_neg (by rw [hz 0 (by omega)]; decide), if_neg (by rw [hz 1 (by omega)]; decide), if_neg (by rw [hz 2 (by omega)]; decide)]; rfl, rfl⟩⟩ (Nat.le_refl _) (Nat.le_refl _) dX4_freeSubstitute_58
    · refine Wp_iload_n dX4_freeSubstitute_7 rfl 0 rfl ?_
      refine Wp_aload_n dX4_freeSubstitute_8 rfl 1 rfl ?_
      refine Wp_get (x := (nI (g.2.2.2.1))) fk_X4_25 hP rfl r4 dX4_freeSubstitute_9 ?_
      refine Wp_icmp_gt (tgt := 56) dX4_freeSubstitute_12 (by decide) (nI_toInt (by omega)) (nI_toInt (by omega)) (fun c_12 => ?_) (fun c_12 => ?_)
      · refine Wp_bipush (v := ((-9))) dX4_freeSubstitute_56 (by decide) ?_
        exact Wp_iret rfl ⟨rfl, rfl, _, rfl, ⟨by
      have hz : ∀ t, t < 3 → fsc g.2.2.1 g.2.2.2.1 g.2.2.2.2.1 x t = false := fun t ht => by
        rcases Nat.lt_or_ge t n with q | q
        · exact hv t q
        · exact fsc_f (Or.inl (by omega))
      unfold fsb; rw [if_neg (by rw [hz 0 (by omega)]; decide), if_neg (by rw [hz 1 (by omega)]; decide), if_neg (by rw [hz 2 (by omega)]; decide)]; rfl, rfl⟩⟩ (Nat.le_refl _) (Nat.le_refl _) dX4_freeSubstitute_58
      · refine Wp_aload_n dX4_freeSubstitute_15 rfl 1 rfl ?_
        refine Wp_get (x := (nI (shN g.2.2.2.2.1))) fk_X4_28 hP rfl r5 dX4_freeSubstitute_16 ?_
        refine Wp_iconst (v := (nI (1))) dX4_freeSubstitute_19 (by decide) ?_
        refine Wp_iload_n dX4_freeSubstitute_20 rfl 0 rfl ?_
        refine Wp_ishl (z := (nI 1 <<< (nI (n + 1) &&& 31))) dX4_freeSubstitute_21 rfl ?_
        refine Wp_iand (z := (if g.2.2.2.2.1 n = true then nI (2 ^ (n + 1)) else nI 0)) dX4_freeSubstitute_22 (shN_bit _ (by omega)) ?_
        refine Wp_if_ne (tgt := 30) dX4_freeSubstitute_23 (by decide) (rfl) (fun c_23 => ?_) (fun c_23 => ?_)
        · have hu : g.2.2.2.2.1 n = true := by
            cases q : g.2.2.2.2.1 n with
            | true => rfl
            | false => rw [q] at c_23; exact absurd rfl c_23
          refine Wp_iconst (v := (nI (0))) dX4_freeSubstitute_30 (by decide) ?_
          refine Wp_istore_n (lv' := [(3, .int (nI (0))), (2, .int (nI ((n + 1)))), (0, .ref (ad (rp))), (1, .int (nI (x)))]) dX4_freeSubstitute_31 rfl (by decide) rfl ?_
          refine Wp_iload_n dX4_freeSubstitute_32 rfl 0 rfl ?_
          refine Wp_if_eq (tgt := 50) dX4_freeSubstitute_33 (by decide) (nI_toInt (by omega)) (fun c_33 => ?_) (fun c_33 => absurd c_33 (by omega))
          refine Wp_iinc (x := (nI (((n + 1) + 1)))) (lv' := [(2, .int (nI (((n + 1) + 1)))), (3, .int (nI (0))), (0, .ref (ad (rp))), (1, .int (nI (x)))]) dX4_freeSubstitute_50 1 rfl (w_inc1 _) (by decide) rfl ?_
          refine Wp_goto (tgt := 2) dX4_freeSubstitute_53 (by decide) ?_
          refine Wp_lv (lv2 := [(2, .int (nI (((n + 1) + 1)))), (0, .ref (ad (rp))), (1, .int (nI (x)))]) [0, 2, 3] rfl ?_
          exact ih (n + 1) (by omega) (by omega) (fun t ht => by
            rcases Nat.lt_or_ge t n with q | q
            · exact hv t q
            · rw [show t = n by omega]; exact fsc_f (by first | exact Or.inr (Or.inr hu) | exact Or.inr (Or.inl (by omega))))
        · have hu : g.2.2.2.2.1 n = false := by
            cases q : g.2.2.2.2.1 n with
            | false => rfl
            | true =>
              rw [q] at c_23
              rcases (show n = 0 ∨ n = 1 ∨ n = 2 by omega) with rfl | rfl | rfl <;> exact absurd c_23 (by decide)
          have hle := (r11 n (by omega)).2
          refine Wp_iconst (v := (nI (1))) dX4_freeSubstitute_26 (by decide) ?_
          refine Wp_goto (tgt := 31) dX4_freeSubstitute_27 (by decide) ?_
          refine Wp_istore_n (lv' := [(3, .int (nI (1))), (2, .int (nI ((n + 1)))), (0, .ref (ad (rp))), (1, .int (nI (x)))]) dX4_freeSubstitute_31 rfl (by decide) rfl ?_
          refine Wp_iload_n dX4_freeSubstitute_32 rfl 0 rfl ?_
          refine Wp_if_eq (tgt := 50) dX4_freeSubstitute_33 (by decide) (nI_toInt (by omega)) (fun c_33 => absurd c_33 (by omega)) (fun c_33 => ?_)
          refine Wp_aload_n dX4_freeSubstitute_36 rfl 2 rfl ?_
          refine Wp_getr fk_X4_15 hP rfl dX4_freeSubstitute_37 ?_
          refine Wp_iload_n dX4_freeSubstitute_40 rfl 1 rfl ?_
          refine Wp_iconst (v := (nI (1))) dX4_freeSubstitute_41 (by decide) ?_
          refine Wp_isub (z := (nI (((n + 1) - 1)))) dX4_freeSubstitute_42 (pk_sub (by omega)) ?_
          refine Wp_ild (n := n) (y := (nI (g.2.2.1 n))) hrl (by congr 1) (by omega) (by decide) (r11 n (by omega)).1 dX4_freeSubstitute_43 ?_
          refine Wp_iload_n dX4_freeSubstitute_44 rfl 3 rfl ?_
          refine Wp_icmp_ne (tgt := 50) dX4_freeSubstitute_45 (by decide) (nI_toInt (by omega)) (nI_toInt (by omega)) (fun c_45 => ?_) (fun c_45 => ?_)
          · refine Wp_iinc (x := (nI (((n + 1) + 1)))) (lv' := [(2, .int (nI (((n + 1) + 1)))), (3, .int (nI (1))), (0, .ref (ad (rp))), (1, .int (nI (x)))]) dX4_freeSubstitute_50 1 rfl (w_inc1 _) (by decide) rfl ?_
            refine Wp_goto (tgt := 2) dX4_freeSubstitute_53 (by decide) ?_
            refine Wp_lv (lv2 := [(2, .int (nI (((n + 1) + 1)))), (0, .ref (ad (rp))), (1, .int (nI (x)))]) [0, 2, 3] rfl ?_
            exact ih (n + 1) (by omega) (by omega) (fun t ht => by
              rcases Nat.lt_or_ge t n with q | q
              · exact hv t q
              · rw [show t = n by omega]; exact fsc_f (by first | exact Or.inr (Or.inr hu) | exact Or.inr (Or.inl (by omega))))
          · refine Wp_iload_n dX4_freeSubstitute_48 rfl 1 rfl ?_
            exact Wp_iret rfl ⟨rfl, rfl, _, rfl, ⟨by
      have hf := fsc_t (x := x) (show n < g.2.2.2.1 by omega) (show g.2.2.1 n = x by omega) hu
      rcases (show n = 0 ∨ n = 1 ∨ n = 2 by omega) with rfl | rfl | rfl
      · unfold fsb; rw [if_pos hf]; rfl
      · unfold fsb; rw [if_neg (by rw [hv 0 (by omega)]; decide), if_pos hf]; rfl
      · unfold fsb; rw [if_neg (by rw [hv 0 (by omega)]; decide), if_neg (by rw [hv 1 (by omega)]; decide), if_pos hf]; rfl, rfl⟩⟩ (Nat.le_refl _) (Nat.le_refl _) dX4_freeSubstitute_49
theorem c_X4_freeSubstitute {E : wE} {S : List wK} {ad : Nat → Nat} {V : wV} {rp rt rl : Nat} (hP : S[rp]? = some (.inl (4, [some (some rt), none, none, some (some rl), none, none, none]))) (hrl : S[rl]? = some (.inr (.inl (false, 7)))) {room : Nat} {g : aH} (r0 : RP V rp rt rl room g) {x : Nat} (hx : x < 8) : w_C E mX4_freeSubstitute (w_R 0 0 0) 0 0 [.ref (ad (rp)), .int (nI (x))] S ad V (w_i S ad (fun r V' => r = sbI (fsb g.2.2.1 g.2.2.2.1 g.2.2.2.2.1 x) ∧ V' = V)) := by
  refine w_C.of (by decide) (Nat.le_of_ble_eq_true rfl) ?_
  show Wp _ _ _ _ _ _ _ _ _ [(0, .ref (ad (rp))), (1, .int (nI (x)))] [] S ad V
  refine Wp_iconst (v := (nI (1))) dX4_freeSubstitute_0 (by decide) ?_
  refine Wp_istore_n (lv' := [(2, .int (nI (1))), (0, .ref (ad (rp))), (1, .int (nI (x)))]) dX4_freeSubstitute_1 rfl (by decide) rfl ?_
  exact lp_X4_freeSubstitute hP hrl r0 hx 4 0 (by omega) (by omega) (fun t ht => by omega)
