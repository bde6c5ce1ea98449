/-! THE CLASS: deeds -/
def hN (b : Bool) (hn : Nat) : Nat := if b = true then (if hn < 10 then hn + 1 else 10) else hn
def hH (b : Bool) (hi : Nat → aSig) (hn : Nat) (x : aSig) : Nat → aSig := if b = true then hpush hi hn x else hi
theorem hpush_ok {hi : Nat → aSig} {hn nb B : Nat} {x : aSig} (h : ∀ j, j < hn → okS (hi j) nb B) (hx : okS x nb B) (h10 : hn ≤ 10) : ∀ j, j < (if hn < 10 then hn + 1 else 10) → okS (hpush hi hn x j) nb B := by
  intro j hj
  unfold hpush
  by_cases z : hn < 10
  · rw [if_pos z] at hj ⊢
    unfold va_up
    split
    · exact hx
    · exact h j (by omega)
  · rw [if_neg z] at hj ⊢
    show okS (if j = 9 then x else hi (j + 1)) nb B
    split
    · exact hx
    · exact h (j + 1) (by omega)
theorem CL.deed {V V' : wV} {B C n : Nat} {tt : Nat → Nat} {nb : Nat} {ln : Nat → Nat} {lt : Nat → Nat → Nat} {col siz : Nat → Nat} {sg sg' : aSig} {hn hn' : Nat} {hi hi' im : Nat → aSig} {kp : Nat → Bool} {q : Nat} {sk sv : Nat → Nat} (h : CL V B n tt nb ln lt col siz sg hn hi im kp q sk sv) {ol : Nat} (h1 : HS V' 14 16 ol hn' hi') (h2 : ∀ j, j < hn' → okS (hi' j) nb C) (s2 : SG V' 12 13 sg') (o2 : okS sg' nb C) (hBC : B ≤ C)
    (fr : ∀ j, j < 45 → j ≠ 12 → j ≠ 13 → j ≠ 14 → ¬ (16 ≤ j ∧ j < 36) → V' j = V j) : CL V' C n tt nb ln lt col siz sg' hn' hi' im kp q sk sv := by
  obtain ⟨tx, ⟨bk, fg⟩, -, -, img, sn⟩ := h
  have f : ∀ j, j < 45 → j < 12 ∨ 36 ≤ j → V' j = V j := fun j h1 h2 => fr j h1 (by omega) (by omega) (by omega) (by omega)
  refine ⟨tx.of (by rw [f 1 (by omega) (by omega)]; exact tx.1) (f 2 (by omega) (by omega)), ⟨bk.of (f 8 (by omega) (by omega)) (f 11 (by omega) (by omega)), fg.of (f 9 (by omega) (by omega)) (f 10 (by omega) (by omega))⟩, ⟨s2, o2⟩, ⟨ol, h1, h2⟩, fun i hi => ?_, sn.of (f 42 (by omega) (by omega)) (f 43 (by omega) (by omega)) (f 44 (by omega) (by omega))⟩
  have := img i hi
  rw [f 41 (by omega) (by omega)]
  exact ⟨this.1, fun w => ⟨(this.2 w).1.of (f _ (by omega) (by omega)) (f _ (by omega) (by omega)), (this.2 w).2.mono hBC⟩⟩
def puB (p s : Int32) (sg : aSig) (nb : Nat) : Bool := decide (0 ≤ p.toInt) && (decide (p.toInt ≤ sg.2.1) && (decide (0 ≤ s.toInt) && (decide (s.toInt < nb) && decide (sg.2.1 < 8))))
theorem puB_t {p s : Int32} {sg : aSig} {nb : Nat} (h : 0 ≤ p.toInt ∧ p.toInt ≤ sg.2.1 ∧ 0 ≤ s.toInt ∧ s.toInt < nb ∧ sg.2.1 < 8) : puB p s sg nb = true := by simp [puB, h]
theorem puB_f {p s : Int32} {sg : aSig} {nb : Nat} (h : ¬ (0 ≤ p.toInt ∧ p.toInt ≤ sg.2.1 ∧ 0 ≤ s.toInt ∧ s.toInt < nb ∧ sg.2.1 < 8)) : puB p s sg nb = false := by
  cases z : puB p s sg nb with
  | false => rfl
  | true => exact absurd (by simpa [puB] using z) h
def puR (p s : Int32) (sg : aSig) (nb : Nat) : Int32 := if 0 ≤ p.toInt ∧ p.toInt ≤ sg.2.1 ∧ 0 ≤ s.toInt ∧ s.toInt < nb then (if sg.2.1 < 8 then nI (sg.2.1 + 1) else -3) else -1
def puS (b : Bool) (p s : Int32) (sg : aSig) : aSig := if b = true then (ins sg.1 (cn p) (cn s), sg.2.1 + 1, sg.2.2.1, 0, 0) else sg
theorem hNf {b : Bool} (h : b = false) (hn : Nat) : hN b hn = hn := by rw [h]; rfl
theorem hHf {b : Bool} (h : b = false) (hi : Nat → aSig) (hn : Nat) (x : aSig) : hH b hi hn x = hi := by rw [h]; rfl
theorem hNt {b : Bool} (h : b = true) (hn : Nat) : hN b hn = if hn < 10 then hn + 1 else 10 := by rw [h]; rfl
theorem hHt {b : Bool} (h : b = true) (hi : Nat → aSig) (hn : Nat) (x : aSig) : hH b hi hn x = hpush hi hn x := by rw [h]; rfl
theorem ins_lt {ms : Nat → Nat} {p s len nb : Nat} (h : ∀ k, k < len → ms k < nb) (hs : s < nb) (hp : p ≤ len) : ∀ k, k < len + 1 → ins ms p s k < nb := by
  intro k hk; unfold ins; split
  · exact h k (by omega)
  · split
    · exact hs
    · exact h (k - 1) (by omega)
theorem del_lt {ms : Nat → Nat} {p len nb : Nat} (h : ∀ k, k < len → ms k < nb) (hp : p < len) : ∀ k, k < len - 1 → del ms p k < nb := by
  intro k hk; unfold del; split
  · exact h k (by omega)
  · exact h (k + 1) (by omega)
theorem c_X8_puts {E : wE} {ad : Nat → Nat} {V : wV} {B n nb hn q : Nat} {tt ln col siz sk sv : Nat → Nat} {lt : Nat → Nat → Nat} {sg : aSig} {hi im : Nat → aSig} {kp : Nat → Bool} (cl : CL V B n tt nb ln lt col siz sg hn hi im kp q sk sv) (p s : Int32) : w_C E mX8_puts (w_R 3 0 0) 0 0 [.ref (ad (0)), .int (p), .int (s)] SX ad V (w_i SX ad (fun r V' => r = puR p s sg nb ∧ CL V' B n tt nb ln lt col siz (puS (puB p s sg nb) p s sg) (hN (puB p s sg nb) hn) (hH (puB p s sg nb) hi hn sg) im kp q sk sv ∧ ∀ j, 53 ≤ j → V' j = V j)) := by
  refine w_C.of (by decide) (Nat.le_of_ble_eq_true rfl) ?_
  show Wp _ _ _ _ _ _ _ _ _ [(0, .ref (ad (0))), (1, .int (p)), (2, .int (s))] [] SX ad V
  obtain ⟨tx, ⟨bk, fg⟩, ⟨s0, ok0⟩, ⟨ol, hs, okh⟩, img, sn⟩ := id cl
  have hn120 := tx.2.1
  have hnb := bk.2.1
  have hn10 := hs.2.2.2.1
  have hq6 := sn.2.1
  have hl8 := ok0.1
  refine Wp_iload_n dX8_puts_0 rfl 1 rfl ?_
  refine Wp_if_lt (tgt := 26) dX8_puts_1 (by decide) (rfl) (fun c_1 => ?_) (fun c_1 => ?_)
  · refine Wp_iconst (v := ((-1))) dX8_puts_26 (by decide) ?_
    exact Wp_iret rfl ⟨rfl, rfl, _, rfl, by
    have e := puB_f (p := p) (s := s) (sg := sg) (nb := nb) (by omega)
    refine ⟨by unfold puR; rw [if_neg (by omega)], ?_, fun _ _ => rfl⟩
    rw [hNf e, hHf e]; unfold puS; rw [if_neg (by rw [e]; decide)]; exact cl⟩ (Nat.le_refl _) (Nat.le_refl _) dX8_puts_27
  · refine Wp_iload_n dX8_puts_4 rfl 1 rfl ?_
    refine Wp_aload_n dX8_puts_5 rfl 0 rfl ?_
    refine Wp_getr fk_X8_35 sx_0 rfl dX8_puts_6 ?_
    refine Wp_get (x := (nI (sg.2.1))) fk_X8_124 sx_12 rfl s0.1 dX8_puts_9 ?_
    refine Wp_icmp_gt (tgt := 26) dX8_puts_12 (by decide) (rfl) (nI_toInt (by omega)) (fun c_12 => ?_) (fun c_12 => ?_)
    · refine Wp_iconst (v := ((-1))) dX8_puts_26 (by decide) ?_
      exact Wp_iret rfl ⟨rfl, rfl, _, rfl, by
    have e := puB_f (p := p) (s := s) (sg := sg) (nb := nb) (by omega)
    refine ⟨by unfold puR; rw [if_neg (by omega)], ?_, fun _ _ => rfl⟩
    rw [hNf e, hHf e]; unfold puS; rw [if_neg (by rw [e]; decide)]; exact cl⟩ (Nat.le_refl _) (Nat.le_refl _) dX8_puts_27
    · refine Wp_aload_n dX8_puts_15 rfl 0 rfl ?_
      refine Wp_getr fk_X8_28 sx_0 rfl dX8_puts_16 ?_
      refine Wp_iload_n dX8_puts_19 rfl 2 rfl ?_
      refine Wp_callVg (c_X0_has sx_8 bk.1 hnb _) YV_X0_has ml_X8_105 sx_8 rfl dX8_puts_20 (by omega) (by decide) (by omega) (by omega) rfl rfl (Nat.le_of_ble_eq_true rfl) ?_
      refine Wp_ifne_b (tgt := 28) dX8_puts_23 (by decide) (fun c_23 => ?_) (fun c_23 => ?_)
      · have q23 := of_decide_eq_true c_23
        have hp1 := cl_i (x := p) (by omega)
        have hs1 := cl_i (x := s) (by omega)
        refine Wp_aload_n dX8_puts_28 rfl 0 rfl ?_
        refine Wp_getr fk_X8_35 sx_0 rfl dX8_puts_29 ?_
        refine Wp_get (x := (nI (sg.2.1))) fk_X8_124 sx_12 rfl s0.1 dX8_puts_32 ?_
        refine Wp_bipush (v := (nI (8))) dX8_puts_35 (by decide) ?_
        refine Wp_icmp_lt (tgt := 43) dX8_puts_37 (by decide) (nI_toInt (by omega)) (nI_toInt (by omega)) (fun c_37 => ?_) (fun c_37 => ?_)
        · refine Wp_aload_n dX8_puts_43 rfl 0 rfl ?_
          refine Wp_getr fk_X8_50 sx_0 rfl dX8_puts_44 ?_
          refine Wp_aload_n dX8_puts_47 rfl 0 rfl ?_
          refine Wp_getr fk_X8_35 sx_0 rfl dX8_puts_48 ?_
          refine Wp_callVv (c_X2_remember sx_14 sx_15 sx_12 sx_13 rgX hs s0 ok0.1 (by omega)) YV_X2_remember ml_X8_125 sx_14 rfl dX8_puts_51 (by omega) (by decide) (by omega) (by omega) rfl rfl (Nat.le_of_ble_eq_true rfl) (fun V1 hV1 => ?_)
          obtain ⟨⟨ol1, h1⟩, fr1⟩ := hV1
          have s1 : SG V1 12 13 sg := s0.of (fr1 12 (by omega) (by omega)) (fr1 13 (by omega) (by omega))
          have okh1 := hpush_ok okh ok0 hn10
          refine Wp_aload_n dX8_puts_54 rfl 0 rfl ?_
          refine Wp_getr fk_X8_35 sx_0 rfl dX8_puts_55 ?_
          refine Wp_iload_n dX8_puts_58 rfl 1 rfl ?_
          refine Wp_iload_n dX8_puts_59 rfl 2 rfl ?_
          refine Wp_callVv (w_C_av (av2 := [.ref (ad 12), .int p, .int s]) (c_X6_insert sx_12 sx_13 (ms := sg.1) (len := sg.2.1) (pl := sg.2.2.1) (un := sg.2.2.2.1) (ti := sg.2.2.2.2) s1 (p := cn p) (s := cn s) (by omega) (by omega)) (by rw [w_cl (by omega), w_cl (by omega)])) YV_X6_insert ml_X8_129 sx_12 rfl dX8_puts_60 (by omega) (by decide) (by omega) (by omega) rfl rfl (Nat.le_of_ble_eq_true rfl) (fun V2 hV2 => ?_)
          obtain ⟨s2, fr2⟩ := hV2
          refine Wp_aload_n dX8_puts_63 rfl 0 rfl ?_
          refine Wp_getr fk_X8_35 sx_0 rfl dX8_puts_64 ?_
          refine Wp_get (x := (nI ((sg.2.1 + 1)))) fk_X8_124 sx_12 rfl s2.1 dX8_puts_67 ?_
          exact Wp_iret rfl ⟨rfl, rfl, _, rfl, by
    have e := puB_t (p := p) (s := s) (sg := sg) (nb := nb) (by omega)
    refine ⟨by unfold puR; rw [if_pos (by omega), if_pos (by omega)], ?_, fun j hj => by rw [fr2 j (by omega) (by omega), fr1 j (by omega) (by omega)]⟩
    rw [hNt e, hHt e]; unfold puS; rw [if_pos e]
    refine cl.deed (h1.of (fr2 14 (by omega) (by omega)) (fun j a1 a2 => fr2 j (by omega) (by omega))) okh1 s2 ⟨by simp only; omega, ok0.2.1, ok0.2.2.1, Nat.zero_le _, Nat.zero_le _, ?_⟩ (Nat.le_refl _) (fun j a1 a2 a3 a4 a5 => by rw [fr2 j a2 a3, fr1 j a4 a5])
    exact ins_lt ok0.2.2.2.2.2 (by omega) (by omega)⟩ (Nat.le_refl _) (Nat.le_refl _) dX8_puts_70
        · refine Wp_bipush (v := ((-3))) dX8_puts_40 (by decide) ?_
          exact Wp_iret rfl ⟨rfl, rfl, _, rfl, by
    have e := puB_f (p := p) (s := s) (sg := sg) (nb := nb) (by omega)
    refine ⟨by unfold puR; rw [if_pos (by omega), if_neg (by omega)], ?_, fun _ _ => rfl⟩
    rw [hNf e, hHf e]; unfold puS; rw [if_neg (by rw [e]; decide)]; exact cl⟩ (Nat.le_refl _) (Nat.le_refl _) dX8_puts_42
      · have q23 := of_decide_eq_false c_23
        refine Wp_iconst (v := ((-1))) dX8_puts_26 (by decide) ?_
        exact Wp_iret rfl ⟨rfl, rfl, _, rfl, by
    have e := puB_f (p := p) (s := s) (sg := sg) (nb := nb) (by omega)
    refine ⟨by unfold puR; rw [if_neg (by omega)], ?_, fun _ _ => rfl⟩
    rw [hNf e, hHf e]; unfold puS; rw [if_neg (by rw [e]; decide)]; exact cl⟩ (Nat.le_refl _) (Nat.le_refl _) dX8_puts_27
def taB (p : Int32) (sg : aSig) : Bool := decide (0 ≤ p.toInt) && decide (p.toInt < sg.2.1)
theorem taB_t {p : Int32} {sg : aSig} (h : 0 ≤ p.toInt ∧ p.toInt < sg.2.1) : taB p sg = true := by simp [taB, h]
theorem taB_f {p : Int32} {sg : aSig} (h : ¬ (0 ≤ p.toInt ∧ p.toInt < sg.2.1)) : taB p sg = false := by
  cases z : taB p sg with
  | false => rfl
  | true => exact absurd (by simpa [taB] using z) h
def taS (b : Bool) (p : Int32) (sg : aSig) : aSig := if b = true then (del sg.1 (cn p), sg.2.1 - 1, sg.2.2.1, 0, 0) else sg
theorem c_X8_takes {E : wE} {ad : Nat → Nat} {V : wV} {B n nb hn q : Nat} {tt ln col siz sk sv : Nat → Nat} {lt : Nat → Nat → Nat} {sg : aSig} {hi im : Nat → aSig} {kp : Nat → Bool} (cl : CL V B n tt nb ln lt col siz sg hn hi im kp q sk sv) (p : Int32) : w_C E mX8_takes (w_R 3 0 0) 0 0 [.ref (ad (0)), .int (p)] SX ad V (w_i SX ad (fun r V' => r = meR p sg ∧ CL V' B n tt nb ln lt col siz (taS (taB p sg) p sg) (hN (taB p sg) hn) (hH (taB p sg) hi hn sg) im kp q sk sv ∧ ∀ j, 53 ≤ j → V' j = V j)) := by
  refine w_C.of (by decide) (Nat.le_of_ble_eq_true rfl) ?_
  show Wp _ _ _ _ _ _ _ _ _ [(0, .ref (ad (0))), (1, .int (p))] [] SX ad V
  obtain ⟨tx, ⟨bk, fg⟩, ⟨s0, ok0⟩, ⟨ol, hs, okh⟩, img, sn⟩ := id cl
  have hn120 := tx.2.1
  have hnb := bk.2.1
  have hn10 := hs.2.2.2.1
  have hq6 := sn.2.1
  have hl8 := ok0.1
  refine Wp_aload_n dX8_takes_0 rfl 0 rfl ?_
  refine Wp_getr fk_X8_35 sx_0 rfl dX8_takes_1 ?_
  refine Wp_iload_n dX8_takes_4 rfl 1 rfl ?_
  refine Wp_callVg (c_X6_hasPlace sx_12 s0.1 ok0.1 _) YV_X6_hasPlace ml_X8_133 sx_12 rfl dX8_takes_5 (by omega) (by decide) (by omega) (by omega) rfl rfl (Nat.le_of_ble_eq_true rfl) ?_
  refine Wp_ifne_b (tgt := 13) dX8_takes_8 (by decide) (fun c_8 => ?_) (fun c_8 => ?_)
  · have q8 := of_decide_eq_true c_8
    have hp1 := cl_i (x := p) (by omega)
    refine Wp_aload_n dX8_takes_13 rfl 0 rfl ?_
    refine Wp_getr fk_X8_50 sx_0 rfl dX8_takes_14 ?_
    refine Wp_aload_n dX8_takes_17 rfl 0 rfl ?_
    refine Wp_getr fk_X8_35 sx_0 rfl dX8_takes_18 ?_
    refine Wp_callVv (c_X2_remember sx_14 sx_15 sx_12 sx_13 rgX hs s0 ok0.1 (by omega)) YV_X2_remember ml_X8_125 sx_14 rfl dX8_takes_21 (by omega) (by decide) (by omega) (by omega) rfl rfl (Nat.le_of_ble_eq_true rfl) (fun V1 hV1 => ?_)
    obtain ⟨⟨ol1, h1⟩, fr1⟩ := hV1
    have s1 : SG V1 12 13 sg := s0.of (fr1 12 (by omega) (by omega)) (fr1 13 (by omega) (by omega))
    have okh1 := hpush_ok okh ok0 hn10
    refine Wp_aload_n dX8_takes_24 rfl 0 rfl ?_
    refine Wp_getr fk_X8_35 sx_0 rfl dX8_takes_25 ?_
    refine Wp_iload_n dX8_takes_28 rfl 1 rfl ?_
    refine Wp_callVi (w_C_av (av2 := [.ref (ad 12), .int p]) (c_X6_remove sx_12 sx_13 (ms := sg.1) (len := sg.2.1) (pl := sg.2.2.1) (un := sg.2.2.2.1) (ti := sg.2.2.2.2) s1 (p := cn p) (by omega) (by omega)) (by rw [w_cl (by omega)])) YV_X6_remove ml_X8_136 sx_12 rfl dX8_takes_29 (by omega) (by decide) (by omega) (by omega) rfl rfl (Nat.le_of_ble_eq_true rfl) (fun r2 V2 hV2 => ?_)
    obtain ⟨e2, s2, fr2⟩ := hV2
    subst e2
    exact Wp_iret rfl ⟨rfl, rfl, _, rfl, by
    have e := taB_t (p := p) (sg := sg) (by omega)
    refine ⟨by unfold meR; rw [if_pos (by omega)], ?_, fun j hj => by rw [fr2 j (by omega) (by omega), fr1 j (by omega) (by omega)]⟩
    rw [hNt e, hHt e]; unfold taS; rw [if_pos e]
    refine cl.deed (h1.of (fr2 14 (by omega) (by omega)) (fun j a1 a2 => fr2 j (by omega) (by omega))) okh1 s2 ⟨by simp only; omega, ok0.2.1, ok0.2.2.1, Nat.zero_le _, Nat.zero_le _, ?_⟩ (Nat.le_refl _) (fun j a1 a2 a3 a4 a5 => by rw [fr2 j a2 a3, fr1 j a4 a5])
    exact del_lt ok0.2.2.2.2.2 (by omega)⟩ (Nat.le_refl _) (Nat.le_refl _) dX8_takes_32
  · have q8 := of_decide_eq_false c_8
    refine Wp_iconst (v := ((-1))) dX8_takes_11 (by decide) ?_
    exact Wp_iret rfl ⟨rfl, rfl, _, rfl, by
    have e := taB_f (p := p) (sg := sg) (by omega)
    refine ⟨by unfold meR; rw [if_neg (by omega)], ?_, fun _ _ => rfl⟩
    rw [hNf e, hHf e]; unfold taS; rw [if_neg (by rw [e]; decide)]; exact cl⟩ (Nat.le_refl _) (Nat.le_refl _) dX8_takes_12
def plB (x : Int32) (sg : aSig) : Bool := decide (3 ≤ x.toInt) && (decide (x.toInt ≤ 7) && !decide (x.toInt = sg.2.2.1))
theorem plB_t {x : Int32} {sg : aSig} (h : 3 ≤ x.toInt ∧ x.toInt ≤ 7 ∧ ¬ x.toInt = sg.2.2.1) : plB x sg = true := by simp [plB, h]
theorem plB_f {x : Int32} {sg : aSig} (h : ¬ (3 ≤ x.toInt ∧ x.toInt ≤ 7 ∧ ¬ x.toInt = sg.2.2.1)) : plB x sg = false := by
  cases z : plB x sg with
  | false => rfl
  | true => exact absurd (by simpa [plB] using z) h
def plR (x : Int32) (sg : aSig) : Int32 := if 3 ≤ x.toInt ∧ x.toInt ≤ 7 then (if x.toInt = sg.2.2.1 then -2 else nI sg.2.2.1) else -1
def plS (b : Bool) (x : Int32) (sg : aSig) : aSig := if b = true then (sg.1, sg.2.1, cn x, 0, 0) else sg
theorem c_X8_places {E : wE} {ad : Nat → Nat} {V : wV} {B n nb hn q : Nat} {tt ln col siz sk sv : Nat → Nat} {lt : Nat → Nat → Nat} {sg : aSig} {hi im : Nat → aSig} {kp : Nat → Bool} (cl : CL V B n tt nb ln lt col siz sg hn hi im kp q sk sv) (x : Int32) : w_C E mX8_places (w_R 3 0 0) 0 0 [.ref (ad (0)), .int (x)] SX ad V (w_i SX ad (fun r V' => r = plR x sg ∧ CL V' B n tt nb ln lt col siz (plS (plB x sg) x sg) (hN (plB x sg) hn) (hH (plB x sg) hi hn sg) im kp q sk sv ∧ ∀ j, 53 ≤ j → V' j = V j)) := by
  refine w_C.of (by decide) (Nat.le_of_ble_eq_true rfl) ?_
  show Wp _ _ _ _ _ _ _ _ _ [(0, .ref (ad (0))), (1, .int (x))] [] SX ad V
  obtain ⟨tx, ⟨bk, fg⟩, ⟨s0, ok0⟩, ⟨ol, hs, okh⟩, img, sn⟩ := id cl
  have hn120 := tx.2.1
  have hnb := bk.2.1
  have hn10 := hs.2.2.2.1
  have hq6 := sn.2.1
  have hl8 := ok0.1
  have hp7 := ok0.2.2.1
  refine Wp_iload_n dX8_places_0 rfl 1 rfl ?_
  refine Wp_iconst (v := (nI (3))) dX8_places_1 (by decide) ?_
  refine Wp_icmp_lt (tgt := 11) dX8_places_2 (by decide) (rfl) (nI_toInt (by omega)) (fun c_2 => ?_) (fun c_2 => ?_)
  · refine Wp_iconst (v := ((-1))) dX8_places_11 (by decide) ?_
    exact Wp_iret rfl ⟨rfl, rfl, _, rfl, by
    have e := plB_f (x := x) (sg := sg) (by omega)
    refine ⟨by unfold plR; rw [if_neg (by omega)], ?_, fun _ _ => rfl⟩
    rw [hNf e, hHf e]; unfold plS; rw [if_neg (by rw [e]; decide)]; exact cl⟩ (Nat.le_refl _) (Nat.le_refl _) dX8_places_12
  · refine Wp_iload_n dX8_places_5 rfl 1 rfl ?_
    refine Wp_bipush (v := (nI (7))) dX8_places_6 (by decide) ?_
    refine Wp_icmp_le (tgt := 13) dX8_places_8 (by decide) (rfl) (nI_toInt (by omega)) (fun c_8 => ?_) (fun c_8 => ?_)
    · refine Wp_iload_n dX8_places_13 rfl 1 rfl ?_
      refine Wp_aload_n dX8_places_14 rfl 0 rfl ?_
      refine Wp_getr fk_X8_35 sx_0 rfl dX8_places_15 ?_
      refine Wp_get (x := (nI (sg.2.2.1))) fk_X8_139 sx_12 rfl s0.2.1 dX8_places_18 ?_
      refine Wp_icmp_ne (tgt := 27) dX8_places_21 (by decide) (rfl) (nI_toInt (by omega)) (fun c_21 => ?_) (fun c_21 => ?_)
      · refine Wp_aload_n dX8_places_27 rfl 0 rfl ?_
        refine Wp_getr fk_X8_50 sx_0 rfl dX8_places_28 ?_
        refine Wp_aload_n dX8_places_31 rfl 0 rfl ?_
        refine Wp_getr fk_X8_35 sx_0 rfl dX8_places_32 ?_
        refine Wp_callVv (c_X2_remember sx_14 sx_15 sx_12 sx_13 rgX hs s0 ok0.1 (by omega)) YV_X2_remember ml_X8_125 sx_14 rfl dX8_places_35 (by omega) (by decide) (by omega) (by omega) rfl rfl (Nat.le_of_ble_eq_true rfl) (fun V1 hV1 => ?_)
        obtain ⟨⟨ol1, h1⟩, fr1⟩ := hV1
        have s1 : SG V1 12 13 sg := s0.of (fr1 12 (by omega) (by omega)) (fr1 13 (by omega) (by omega))
        have okh1 := hpush_ok okh ok0 hn10
        refine Wp_aload_n dX8_places_38 rfl 0 rfl ?_
        refine Wp_getr fk_X8_35 sx_0 rfl dX8_places_39 ?_
        refine Wp_get (x := (nI (sg.2.2.1))) fk_X8_139 sx_12 rfl s1.2.1 dX8_places_42 ?_
        refine Wp_istore_n (lv' := [(2, .int (nI (sg.2.2.1))), (0, .ref (ad (0))), (1, .int (x))]) dX8_places_45 rfl (by decide) rfl ?_
        refine Wp_aload_n dX8_places_46 rfl 1 rfl ?_
        refine Wp_getr fk_X8_35 sx_0 rfl dX8_places_47 ?_
        refine Wp_iload_n dX8_places_50 rfl 2 rfl ?_
        refine Wp_put fk_X8_139 sx_12 rfl rfl rfl dX8_places_51 ?_
        refine Wp_aload_n dX8_places_54 rfl 1 rfl ?_
        refine Wp_getr fk_X8_35 sx_0 rfl dX8_places_55 ?_
        refine Wp_callVv (c_X6_nothingSent sx_12) YV_X6_nothingSent ml_X8_140 sx_12 rfl dX8_places_58 (by omega) (by decide) (by omega) (by omega) rfl rfl (Nat.le_of_ble_eq_true rfl) (fun V2 hV2 => ?_)
        subst hV2
        refine Wp_iload_n dX8_places_61 rfl 0 rfl ?_
        exact Wp_iret rfl ⟨rfl, rfl, _, rfl, by
    have e := plB_t (x := x) (sg := sg) (by omega)
    have hx1 := cl_i (x := x) (by omega)
    have f2 : ∀ j, j ≠ 12 → up2 (up2 (up2 V1 12 2 x) 12 3 (nI 0)) 12 4 (nI 0) j = V1 j := fun j hj => by simp [up2, hj]
    refine ⟨by unfold plR; rw [if_pos (by omega), if_neg (by omega)], ?_, fun j hj => by rw [f2 j (by omega), fr1 j (by omega) (by omega)]⟩
    rw [hNt e, hHt e]; unfold plS; rw [if_pos e]
    refine cl.deed (h1.of (f2 14 (by omega)) (fun j a1 a2 => f2 j (by omega))) okh1 ⟨?_, ?_, ?_, ?_, ?_⟩ ⟨ok0.1, by simp only; omega, by simp only; omega, Nat.zero_le _, Nat.zero_le _, ok0.2.2.2.2.2⟩ (Nat.le_refl _) (fun j a1 a2 a3 a4 a5 => by rw [f2 j a2, fr1 j a4 a5])
    · simp [up2, upd]; exact s1.1
    · simp [up2, upd]; exact (w_cl (by omega)).symm
    · simp [up2, upd]
    · simp [up2, upd]
    · intro k hk; rw [f2 13 (by omega)]; exact s1.2.2.2.2 k hk⟩ (Nat.le_refl _) (Nat.le_refl _) dX8_places_62
      · refine Wp_bipush (v := ((-2))) dX8_places_24 (by decide) ?_
        exact Wp_iret rfl ⟨rfl, rfl, _, rfl, by
    have e := plB_f (x := x) (sg := sg) (by omega)
    refine ⟨by unfold plR; rw [if_pos (by omega), if_pos (by omega)], ?_, fun _ _ => rfl⟩
    rw [hNf e, hHf e]; unfold plS; rw [if_neg (by rw [e]; decide)]; exact cl⟩ (Nat.le_refl _) (Nat.le_refl _) dX8_places_26
    · refine Wp_iconst (v := ((-1))) dX8_places_11 (by decide) ?_
      exact Wp_iret rfl ⟨rfl, rfl, _, rfl, by
    have e := plB_f (x := x) (sg := sg) (by omega)
    refine ⟨by unfold plR; rw [if_neg (by omega)], ?_, fun _ _ => rfl⟩
    rw [hNf e, hHf e]; unfold plS; rw [if_neg (by rw [e]; decide)]; exact cl⟩ (Nat.le_refl _) (Nat.le_refl _) dX8_places_12
def anB (x : Int32) (sg : aSig) : Bool := decide (0 ≤ x.toInt) && (decide (x.toInt ≤ 1) && decide (0 < sg.2.2.2.2))
theorem anB_t {x : Int32} {sg : aSig} (h : 0 ≤ x.toInt ∧ x.toInt ≤ 1 ∧ 0 < sg.2.2.2.2) : anB x sg = true := by simp [anB, h]
theorem anB_f {x : Int32} {sg : aSig} (h : ¬ (0 ≤ x.toInt ∧ x.toInt ≤ 1 ∧ 0 < sg.2.2.2.2)) : anB x sg = false := by
  cases z : anB x sg with
  | false => rfl
  | true => exact absurd (by simpa [anB] using z) h
def anR (x : Int32) (sg : aSig) : Int32 := if 0 ≤ x.toInt ∧ x.toInt ≤ 1 then (if sg.2.2.2.2 = 0 then -2 else if x.toInt = 0 then nI (sg.2.2.2.2 + 1) else nI sg.2.2.2.2) else -1
def anS (b : Bool) (x : Int32) (sg : aSig) : aSig := if b = true then (if x.toInt = 0 then (sg.1, sg.2.1, sg.2.2.1, sg.2.2.2.1, sg.2.2.2.2 + 1) else (sg.1, sg.2.1, sg.2.2.1, sg.2.2.2.1 + 1, 0)) else sg
theorem c_X8_answers {E : wE} {ad : Nat → Nat} {V : wV} {B n nb hn q : Nat} {tt ln col siz sk sv : Nat → Nat} {lt : Nat → Nat → Nat} {sg : aSig} {hi im : Nat → aSig} {kp : Nat → Bool} (cl : CL V B n tt nb ln lt col siz sg hn hi im kp q sk sv) (hB : B < 2 ^ 30) (x : Int32) : w_C E mX8_answers (w_R 3 0 0) 0 0 [.ref (ad (0)), .int (x)] SX ad V (w_i SX ad (fun r V' => r = anR x sg ∧ CL V' (B + 1) n tt nb ln lt col siz (anS (anB x sg) x sg) (hN (anB x sg) hn) (hH (anB x sg) hi hn sg) im kp q sk sv ∧ ∀ j, 53 ≤ j → V' j = V j)) := by
  refine w_C.of (by decide) (Nat.le_of_ble_eq_true rfl) ?_
  show Wp _ _ _ _ _ _ _ _ _ [(0, .ref (ad (0))), (1, .int (x))] [] SX ad V
  obtain ⟨tx, ⟨bk, fg⟩, ⟨s0, ok0⟩, ⟨ol, hs, okh⟩, img, sn⟩ := id cl
  have hn120 := tx.2.1
  have hnb := bk.2.1
  have hn10 := hs.2.2.2.1
  have hq6 := sn.2.1
  have hl8 := ok0.1
  have ht9 := ok0.2.2.2.2.1
  have hu9 := ok0.2.2.2.1
  refine Wp_iload_n dX8_answers_0 rfl 1 rfl ?_
  refine Wp_if_lt (tgt := 9) dX8_answers_1 (by decide) (rfl) (fun c_1 => ?_) (fun c_1 => ?_)
  · refine Wp_iconst (v := ((-1))) dX8_answers_9 (by decide) ?_
    exact Wp_iret rfl ⟨rfl, rfl, _, rfl, by
    have e := anB_f (x := x) (sg := sg) (by omega)
    refine ⟨by unfold anR; rw [if_neg (by omega)], ?_, fun _ _ => rfl⟩
    rw [hNf e, hHf e]; unfold anS; rw [if_neg (by rw [e]; decide)]; exact cl.mono (by omega)⟩ (Nat.le_refl _) (Nat.le_refl _) dX8_answers_10
  · refine Wp_iload_n dX8_answers_4 rfl 1 rfl ?_
    refine Wp_iconst (v := (nI (1))) dX8_answers_5 (by decide) ?_
    refine Wp_icmp_le (tgt := 11) dX8_answers_6 (by decide) (rfl) (nI_toInt (by omega)) (fun c_6 => ?_) (fun c_6 => ?_)
    · refine Wp_aload_n dX8_answers_11 rfl 0 rfl ?_
      refine Wp_getr fk_X8_35 sx_0 rfl dX8_answers_12 ?_
      refine Wp_callVg (c_X6_isUp sx_12 s0.2.2.2.1 (by omega)) YV_X6_isUp ml_X8_147 sx_12 rfl dX8_answers_15 (by omega) (by decide) (by omega) (by omega) rfl rfl (Nat.le_of_ble_eq_true rfl) ?_
      refine Wp_ifne_b (tgt := 24) dX8_answers_18 (by decide) (fun c_18 => ?_) (fun c_18 => ?_)
      · have q18 := of_decide_eq_true c_18
        refine Wp_aload_n dX8_answers_24 rfl 0 rfl ?_
        refine Wp_getr fk_X8_50 sx_0 rfl dX8_answers_25 ?_
        refine Wp_aload_n dX8_answers_28 rfl 0 rfl ?_
        refine Wp_getr fk_X8_35 sx_0 rfl dX8_answers_29 ?_
        refine Wp_callVv (c_X2_remember sx_14 sx_15 sx_12 sx_13 rgX hs s0 ok0.1 (by omega)) YV_X2_remember ml_X8_125 sx_14 rfl dX8_answers_32 (by omega) (by decide) (by omega) (by omega) rfl rfl (Nat.le_of_ble_eq_true rfl) (fun V1 hV1 => ?_)
        obtain ⟨⟨ol1, h1⟩, fr1⟩ := hV1
        have s1 : SG V1 12 13 sg := s0.of (fr1 12 (by omega) (by omega)) (fr1 13 (by omega) (by omega))
        have okh1 := hpush_ok okh ok0 hn10
        refine Wp_iload_n dX8_answers_35 rfl 1 rfl ?_
        refine Wp_if_ne (tgt := 49) dX8_answers_36 (by decide) (rfl) (fun c_36 => ?_) (fun c_36 => ?_)
        · refine Wp_aload_n dX8_answers_49 rfl 0 rfl ?_
          refine Wp_getr fk_X8_35 sx_0 rfl dX8_answers_50 ?_
          refine Wp_callVi (c_X6_takeDown sx_12 s1.2.2.1 s1.2.2.2.1) YV_X6_takeDown ml_X8_167 sx_12 rfl dX8_answers_53 (by omega) (by decide) (by omega) (by omega) rfl rfl (Nat.le_of_ble_eq_true rfl) (fun r2 V2 hr2 => ?_)
          obtain ⟨e2, e3⟩ := hr2
          subst e2
          subst e3
          exact Wp_iret rfl ⟨rfl, rfl, _, rfl, by
    have e := anB_t (x := x) (sg := sg) (by omega)
    have f2 : ∀ j, j ≠ 12 → (up2 (up2 V1 12 4 (nI 0)) 12 3 (nI (sg.2.2.2.1 + 1))) j = V1 j := fun j hj => by simp [up2, hj]
    refine ⟨by unfold anR; rw [if_pos (by omega), if_neg (by omega), if_neg (by omega)], ?_, fun j hj => by rw [f2 j (by omega), fr1 j (by omega) (by omega)]⟩
    rw [hNt e, hHt e]; unfold anS; rw [if_pos e, if_neg (by omega)]
    refine cl.deed (h1.of (f2 14 (by omega)) (fun j a1 a2 => f2 j (by omega))) (fun j hj => (okh1 j hj).mono (by omega)) ⟨?_, ?_, ?_, ?_, ?_⟩ ⟨ok0.1, ok0.2.1, ok0.2.2.1, by have := ok0.2.2.2.1; simp only; omega, by have := ok0.2.2.2.2.1; simp only; omega, ok0.2.2.2.2.2⟩ (by omega) (fun j a1 a2 a3 a4 a5 => by rw [f2 j a2, fr1 j a4 a5])
    · simp [up2, upd]; exact s1.1
    · simp [up2, upd]; exact s1.2.1
    · simp [up2, upd]
    · simp [up2, upd]
    · intro k hk; rw [f2 13 (by omega)]; exact s1.2.2.2.2 k hk⟩ (Nat.le_refl _) (Nat.le_refl _) dX8_answers_56
        · refine Wp_aload_n dX8_answers_39 rfl 0 rfl ?_
          refine Wp_getr fk_X8_35 sx_0 rfl dX8_answers_40 ?_
          refine Wp_callVi (c_X6_sendAgain sx_12 s1.2.2.2.1) YV_X6_sendAgain ml_X8_164 sx_12 rfl dX8_answers_43 (by omega) (by decide) (by omega) (by omega) rfl rfl (Nat.le_of_ble_eq_true rfl) (fun r2 V2 hr2 => ?_)
          obtain ⟨e2, e3⟩ := hr2
          subst e2
          subst e3
          refine Wp_goto (tgt := 56) dX8_answers_46 (by decide) ?_
          exact Wp_iret rfl ⟨rfl, rfl, _, rfl, by
    have e := anB_t (x := x) (sg := sg) (by omega)
    have f2 : ∀ j, j ≠ 12 → (up2 V1 12 4 (nI (sg.2.2.2.2 + 1))) j = V1 j := fun j hj => by simp [up2, hj]
    refine ⟨by unfold anR; rw [if_pos (by omega), if_neg (by omega), if_pos (by omega)], ?_, fun j hj => by rw [f2 j (by omega), fr1 j (by omega) (by omega)]⟩
    rw [hNt e, hHt e]; unfold anS; rw [if_pos e, if_pos (by omega)]
    refine cl.deed (h1.of (f2 14 (by omega)) (fun j a1 a2 => f2 j (by omega))) (fun j hj => (okh1 j hj).mono (by omega)) ⟨?_, ?_, ?_, ?_, ?_⟩ ⟨ok0.1, ok0.2.1, ok0.2.2.1, by have := ok0.2.2.2.1; simp only; omega, by have := ok0.2.2.2.2.1; simp only; omega, ok0.2.2.2.2.2⟩ (by omega) (fun j a1 a2 a3 a4 a5 => by rw [f2 j a2, fr1 j a4 a5])
    · simp [up2, upd]; exact s1.1
    · simp [up2, upd]; exact s1.2.1
    · simp [up2, upd]; exact s1.2.2.1
    · simp [up2, upd]
    · intro k hk; rw [f2 13 (by omega)]; exact s1.2.2.2.2 k hk⟩ (Nat.le_refl _) (Nat.le_refl _) dX8_answers_56
      · have q18 := of_decide_eq_false c_18
        refine Wp_bipush (v := ((-2))) dX8_answers_21 (by decide) ?_
        exact Wp_iret rfl ⟨rfl, rfl, _, rfl, by
    have e := anB_f (x := x) (sg := sg) (by omega)
    refine ⟨by unfold anR; rw [if_pos (by omega), if_pos (by omega)], ?_, fun _ _ => rfl⟩
    rw [hNf e, hHf e]; unfold anS; rw [if_neg (by rw [e]; decide)]; exact cl.mono (by omega)⟩ (Nat.le_refl _) (Nat.le_refl _) dX8_answers_23
    · refine Wp_iconst (v := ((-1))) dX8_answers_9 (by decide) ?_
      exact Wp_iret rfl ⟨rfl, rfl, _, rfl, by
    have e := anB_f (x := x) (sg := sg) (by omega)
    refine ⟨by unfold anR; rw [if_neg (by omega)], ?_, fun _ _ => rfl⟩
    rw [hNf e, hHf e]; unfold anS; rw [if_neg (by rw [e]; decide)]; exact cl.mono (by omega)⟩ (Nat.le_refl _) (Nat.le_refl _) dX8_answers_10
def unR (hn : Nat) : Int32 := if hn = 0 then -2 else nI (hn - 1)
def unS (hn : Nat) (hi : Nat → aSig) (sg : aSig) : aSig := if hn = 0 then sg else hi (hn - 1)
theorem c_X8_undo {E : wE} {ad : Nat → Nat} {V : wV} {B n nb hn q : Nat} {tt ln col siz sk sv : Nat → Nat} {lt : Nat → Nat → Nat} {sg : aSig} {hi im : Nat → aSig} {kp : Nat → Bool} (cl : CL V B n tt nb ln lt col siz sg hn hi im kp q sk sv)  : w_C E mX8_undo (w_R 3 0 0) 0 0 [.ref (ad (0))] SX ad V (w_i SX ad (fun r V' => r = unR hn ∧ CL V' B n tt nb ln lt col siz (unS hn hi sg) (hn - 1) hi im kp q sk sv ∧ ∀ j, 53 ≤ j → V' j = V j)) := by
  refine w_C.of (by decide) (Nat.le_of_ble_eq_true rfl) ?_
  show Wp _ _ _ _ _ _ _ _ _ [(0, .ref (ad (0)))] [] SX ad V
  obtain ⟨tx, ⟨bk, fg⟩, ⟨s0, ok0⟩, ⟨ol, hs, okh⟩, img, sn⟩ := id cl
  have hn120 := tx.2.1
  have hnb := bk.2.1
  have hn10 := hs.2.2.2.1
  have hq6 := sn.2.1
  have hl8 := ok0.1
  refine Wp_aload_n dX8_undo_0 rfl 0 rfl ?_
  refine Wp_getr fk_X8_50 sx_0 rfl dX8_undo_1 ?_
  refine Wp_get (x := (nI (hn))) fk_X8_95 sx_14 rfl hs.2.1 dX8_undo_4 ?_
  refine Wp_if_ne (tgt := 13) dX8_undo_7 (by decide) (nI_toInt (by omega)) (fun c_7 => ?_) (fun c_7 => ?_)
  · refine Wp_aload_n dX8_undo_13 rfl 0 rfl ?_
    refine Wp_getr fk_X8_50 sx_0 rfl dX8_undo_14 ?_
    refine Wp_aload_n dX8_undo_17 rfl 0 rfl ?_
    refine Wp_getr fk_X8_35 sx_0 rfl dX8_undo_18 ?_
    refine Wp_callVv (c_X2_restore sx_14 sx_15 sx_12 sx_13 rgX hs (by omega) (by omega) (by omega)) YV_X2_restore ml_X8_170 sx_14 rfl dX8_undo_21 (by omega) (by decide) (by omega) (by omega) rfl rfl (Nat.le_of_ble_eq_true rfl) (fun V1 hV1 => ?_)
    obtain ⟨h1, s1, fr1⟩ := hV1
    refine Wp_aload_n dX8_undo_24 rfl 0 rfl ?_
    refine Wp_getr fk_X8_50 sx_0 rfl dX8_undo_25 ?_
    refine Wp_get (x := (nI ((hn - 1)))) fk_X8_95 sx_14 rfl h1.2.1 dX8_undo_28 ?_
    exact Wp_iret rfl ⟨rfl, rfl, _, rfl, by
    unfold unR unS; rw [if_neg (by omega), if_neg (by omega)]
    exact ⟨rfl, cl.deed h1 (fun j hj => okh j (by omega)) s1 (okh (hn - 1) (by omega)) (Nat.le_refl _) (fun j a1 a2 a3 a4 a5 => fr1 j a4 a2 a3), fun j hj => fr1 j (by omega) (by omega) (by omega)⟩⟩ (Nat.le_refl _) (Nat.le_refl _) dX8_undo_31
  · refine Wp_bipush (v := ((-2))) dX8_undo_10 (by decide) ?_
    exact Wp_iret rfl ⟨rfl, rfl, _, rfl, by
    have h0 : hn = 0 := by omega
    unfold unR unS; rw [if_pos h0, if_pos h0, h0]; rw [h0] at cl; exact ⟨rfl, cl, fun _ _ => rfl⟩⟩ (Nat.le_refl _) (Nat.le_refl _) dX8_undo_12
