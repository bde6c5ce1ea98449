/-! THE REFERENCE: hoists told -/
theorem c_X9_makes8 {E : wE} {ad : Nat → Nat} {V : wV} {B n nb hn q : Nat} {tt ln col siz sk sv : Nat → Nat} {lt : Nat → Nat → Nat} {sg : aSig} {hi im : Nat → aSig} {kp : Nat → Bool} (ml : ML V B n tt nb ln lt col siz sg hn hi im kp q sk sv)  : w_C E mX9_makes (w_R 3 0 0) 0 0 [.ref (ad 53), .int (-9)] SX ad V (w_v SX ad (fun V' => ∃ md H st, CUTS (law sg.2.2.1 ln lt (del sg.1 8)) sg.2.1 md H st ∧ V' 53 28 = (if md = true then nI H else -9) ∧ (md = true → ∀ k, k ≤ H → V' 70 k = nI (st k)) ∧ HD V' sg.2.1 sg.2.2.1 nb ln lt (del sg.1 8) ∧ MFk V V')) := by
  have e : (if 8 < sg.2.1 then sg.2.1 - 1 else sg.2.1) = sg.2.1 := if_neg (by have := ml.2.2.2.1.2.1; omega)
  have h := c_X9_makes (E := E) (ad := ad) ml (x := -9) (p := 8) (Or.inl ⟨by decide, rfl⟩)
  rw [e] at h
  exact h
theorem ML.mk {V V' : wV} {B n : Nat} {tt : Nat → Nat} {nb : Nat} {ln : Nat → Nat} {lt : Nat → Nat → Nat} {col siz : Nat → Nat} {sg : aSig} {hn : Nat} {hi im : Nat → aSig} {kp : Nat → Bool} {q : Nat} {sk sv : Nat → Nat} (h : ML V B n tt nb ln lt col siz sg hn hi im kp q sk sv) (f : MFk V V') : ML V' B n tt nb ln lt col siz sg hn hi im kp q sk sv := h.of (fun k hk => f.1 k (by omega) (by omega)) (fun j h1 h2 => f.2 j (by omega) (by omega) (by omega) (by omega) (by omega))
theorem MFk.lo {V V' : wV} (f : MFk V V') : ∀ j, j < 53 → V' j = V j := fun j hj => f.2 j (by omega) (by omega) (by omega) (by omega) (by omega)
theorem MFk.tr {V V' V'' : wV} (h : MFk V V') (g : ∀ j, j ≠ 68 → j ≠ 69 → V'' j = V' j) : MFk V V'' := ⟨fun k a b => by rw [g 53 (by decide) (by decide)]; exact h.1 k a b, fun j a b c d e => (g j c d).trans (h.2 j a b c d e)⟩
theorem HD.fr {V V' : wV} {n pl nb : Nat} {ln : Nat → Nat} {lt : Nat → Nat → Nat} {row : Nat → Nat} (h : HD V n pl nb ln lt row) (g : ∀ j, j ≠ 68 → j ≠ 69 → V' j = V j) : HD V' n pl nb ln lt row := h.of (by rw [g 53 (by decide) (by decide)]) (by rw [g 53 (by decide) (by decide)]) (g 67 (by decide) (by decide)) (by rw [g 54 (by decide) (by decide)]) (g 61 (by decide) (by decide)) (g 62 (by decide) (by decide))
theorem hGet_s {pl : Nat} {ln : Nat → Nat} {lt : Nat → Nat → Nat} {row : Nat → Nat} {a e : Nat} {g : aH} (h : hRw pl ln lt row (e - a) a h0H = some g) : hGet pl ln lt row a e = g := by unfold hGet; rw [h]; rfl
/-- substitutes among the first things -/
def sbc (th : Nat → Nat) : Nat → Nat
  | 0 => 0
  | k + 1 => sbc th k + (if 11 ≤ th k ∧ th k ≤ 13 then 1 else 0)
theorem sbc_le (th : Nat → Nat) (k : Nat) : sbc th k ≤ k := by
  induction k with
  | zero => simp [sbc]
  | succ k ih => simp only [sbc]; split <;> omega
theorem sbc_up (th : Nat → Nat) (i x k : Nat) (h : k ≤ i) : sbc (va_up th i x) k = sbc th k := by
  induction k with
  | zero => rfl
  | succ k ih => simp only [sbc]; rw [ih (by omega), show va_up th i x k = th k from if_neg (by omega)]
def SBT (h : aH) : Prop := sbc h.1 h.2.1 = h.2.2.2.2.2 ∧ ∀ k, k < h.2.1 → h.1 k ≤ 20
theorem SBT_step {h g : aH} {x : Nat} (i : SBT h) (e1 : g.1 = va_up h.1 h.2.1 x) (e2 : g.2.1 = h.2.1 + 1) (hx : x ≤ 20) (e3 : g.2.2.2.2.2 = h.2.2.2.2.2 + (if 11 ≤ x ∧ x ≤ 13 then 1 else 0)) : SBT g := by
  unfold SBT
  rw [e1, e2, e3]
  have ex : va_up h.1 h.2.1 x h.2.1 = x := if_pos rfl
  refine ⟨?_, fun k hk => ?_⟩
  · simp only [sbc]; rw [sbc_up _ _ _ _ (Nat.le_refl _), i.1, ex]
  · by_cases z : k = h.2.1
    · rw [z, ex]; exact hx
    · rw [show va_up h.1 h.2.1 x k = h.1 k from if_neg z]; exact i.2 k (by omega)
theorem hLet_sb {pl : Nat} {h g : aH} {x : Nat} (hx : x < 8) (i : SBT h) (e : hLet pl h x = some g) : SBT g := by
  unfold hLet at e
  split at e
  · split at e
    · cases e
    · split at e
      · cases e
      · cases e
        have hF := fsb_le h.2.2.1 h.2.2.2.1 h.2.2.2.2.1 x
        exact SBT_step (x := 10 + fsb h.2.2.1 h.2.2.2.1 h.2.2.2.2.1 x) i rfl rfl (by omega) (by show h.2.2.2.2.2 + 1 = _; rw [if_pos (by omega)])
  · split at e
    · cases e
    · cases e
      exact SBT_step (x := x) i rfl rfl (by omega) (by show h.2.2.2.2.2 = _; rw [if_neg (by omega)]; rfl)
theorem hLs_sb {pl : Nat} {lt : Nat → Nat} (f : Nat) : ∀ (i : Nat) (h g : aH), (∀ j, i ≤ j → j < i + f → lt j < 8) → SBT h → hLs pl lt f i h = some g → SBT g := by
  induction f with
  | zero => intro i h g _ s e; cases e; exact s
  | succ f ih =>
    intro i h g hx s e
    have e : (hLet pl h (lt i)).bind (hLs pl lt f (i + 1)) = some g := e
    cases q : hLet pl h (lt i) with
    | none => rw [q] at e; cases e
    | some w => rw [q] at e; exact ih (i + 1) w g (fun j a b => hx j (by omega) (by omega)) (hLet_sb (hx i (by omega) (by omega)) s q) e
theorem hCode_sb {pl s : Nat} {ln : Nat → Nat} {lt : Nat → Nat → Nat} {h g : aH} (hx : ∀ j, j < ln s → lt s j < 8) (i : SBT h) (e : hCode pl ln lt s h = some g) : SBT g := by
  unfold hCode at e
  cases q : (if h.2.1 = 0 then some h else hTac pl h) with
  | none => rw [q] at e; cases e
  | some w =>
    rw [q] at e
    refine hLs_sb _ _ _ _ (fun j _ b => hx j (by omega)) ?_ e
    split at q
    · cases q; exact i
    · unfold hTac at q
      split at q
      · cases q
      · cases q
        exact SBT_step (x := 20) i rfl rfl (by omega) rfl
theorem hRw_sb {pl : Nat} {ln : Nat → Nat} {lt : Nat → Nat → Nat} {row : Nat → Nat} (f : Nat) : ∀ (i : Nat) (h g : aH), (∀ j, i ≤ j → j < i + f → ∀ z, z < ln (row j) → lt (row j) z < 8) → SBT h → hRw pl ln lt row f i h = some g → SBT g := by
  induction f with
  | zero => intro i h g _ s e; cases e; exact s
  | succ f ih =>
    intro i h g hx s e
    have e : (hCode pl ln lt (row i) h).bind (hRw pl ln lt row f (i + 1)) = some g := e
    cases q : hCode pl ln lt (row i) h with
    | none => rw [q] at e; cases e
    | some w => rw [q] at e; exact ih (i + 1) w g (fun j a b => hx j (by omega) (by omega)) (hCode_sb (hx i (by omega) (by omega)) s q) e
theorem SBT_0 : SBT h0H := ⟨rfl, fun k hk => absurd hk (Nat.not_lt_zero k)⟩
theorem c_X9_things {E : wE} {ad : Nat → Nat} {V : wV} {n pl nb : Nat} {ln : Nat → Nat} {lt : Nat → Nat → Nat} {row : Nat → Nat} {md : Bool} {H : Nat} {st : Nat → Nat} (cu : CUTS (law pl ln lt row) n md H st) (h28 : V 53 28 = (if md = true then nI H else -9)) (hst : md = true → ∀ k, k ≤ H → V 70 k = nI (st k)) (hd : HD V n pl nb ln lt row) (x : Int32)  : w_C E mX9_things (w_R 2 0 0) 0 0 [.ref (ad (53)), .int (x)] SX ad V (w_i SX ad (fun r V' => (((md = true ∧ 0 ≤ x.toInt ∧ x.toInt < H) ∧ ∃ g, hRw pl ln lt row (st (cn x + 1) - st (cn x)) (st (cn x)) h0H = some g ∧ r = nI g.2.1 ∧ MH V' pl g) ∨ (¬ (md = true ∧ 0 ≤ x.toInt ∧ x.toInt < H) ∧ r = -9)) ∧ ∀ j, j ≠ 68 → j ≠ 69 → V' j = V j)) := by
  refine w_C.of (by decide) (Nat.le_of_ble_eq_true rfl) ?_
  show Wp _ _ _ _ _ _ _ _ _ [(0, .ref (ad (53))), (1, .int (x))] [] SX ad V
  have hH := cu.2.2.2
  cases md with
  | true =>
    have h28 : V 53 28 = nI H := h28
    have hst := hst rfl
    have dp := cu.2.1 rfl
    refine Wp_iload_n dX9_things_0 rfl 1 rfl ?_
    refine Wp_i2l (v := (x).toInt64) dX9_things_1 rfl ?_
    refine Wp_lconst (v := 0) dX9_things_2 (by decide) ?_
    refine Wp_aload_n dX9_things_3 rfl 0 rfl ?_
    refine Wp_get (x := (nI (H))) fk_X9_174 sx_53 rfl h28 dX9_things_4 ?_
    refine Wp_iconst (v := (nI (1))) dX9_things_7 (by decide) ?_
    refine Wp_isub (z := (pI H)) dX9_things_8 rfl ?_
    refine Wp_i2l (v := (pI H).toInt64) dX9_things_9 rfl ?_
    refine Wp_callSg (c_X9_in (Int32.toInt_toInt64 _) (by decide : ((0 : Int64)).toInt = 0) ((Int32.toInt_toInt64 _).trans (pI_toInt (by omega)))) YS_X9_in ml_X9_78 dX9_things_10 (by omega) (by decide) (by omega) (by omega) rfl rfl (Nat.le_of_ble_eq_true rfl) ?_
    refine Wp_ifeq_b (tgt := 37) dX9_things_13 (by decide) (fun c_13 => ?_) (fun c_13 => ?_)
    · have q13 := of_decide_eq_false c_13
      refine Wp_bipush (v := ((-9))) dX9_things_37 (by decide) ?_
      exact Wp_iret rfl ⟨rfl, rfl, _, rfl, ⟨Or.inr ⟨by omega, rfl⟩, fun _ _ _ => rfl⟩⟩ (Nat.le_refl _) (Nat.le_refl _) dX9_things_39
    · have q13 := of_decide_eq_true c_13
      have hx := cl_i (x := x) (by omega)
      have dl := DPS_lt dp (k := cn x) (by omega)
      refine Wp_aload_n dX9_things_16 rfl 0 rfl ?_
      refine Wp_aload_n dX9_things_17 rfl 0 rfl ?_
      refine Wp_getr fk_X9_59 sx_53 rfl dX9_things_18 ?_
      refine Wp_iload_n dX9_things_21 rfl 1 rfl ?_
      refine Wp_ild (n := (cn x)) (y := (nI (st (cn x)))) sx_70 (w_cl (by omega)).symm (by omega) (by decide) (hst (cn x) (by omega)) dX9_things_22 ?_
      refine Wp_aload_n dX9_things_23 rfl 0 rfl ?_
      refine Wp_getr fk_X9_59 sx_53 rfl dX9_things_24 ?_
      refine Wp_iload_n dX9_things_27 rfl 1 rfl ?_
      refine Wp_iconst (v := (nI (1))) dX9_things_28 (by decide) ?_
      refine Wp_iadd (z := (nI ((cn x + 1)))) dX9_things_29 ((congrArg (· + nI 1) (w_cl (x := x) (by omega)).symm).trans (nI_add _ _)) ?_
      refine Wp_ild (n := (cn x + 1)) (y := (nI (st (cn x + 1)))) sx_70 rfl (by omega) (by decide) (hst (cn x + 1) (by omega)) dX9_things_30 ?_
      refine Wp_callVi (c_X9_shows hd (a := st (cn x)) (b := st (cn x + 1)) (by omega) (by omega)) YV_X9_shows ml_X9_170 sx_53 rfl dX9_things_31 (by omega) (by decide) (by omega) (by omega) rfl rfl (Nat.le_of_ble_eq_true rfl) (fun r2 V2 hr2 => ?_)
      obtain ⟨hr2, fr2⟩ := hr2
      refine Wp_goto (tgt := 39) dX9_things_34 (by decide) ?_
      exact Wp_iret rfl ⟨rfl, rfl, _, rfl, by
      refine ⟨Or.inl ⟨⟨rfl, by omega, by omega⟩, ?_⟩, fr2⟩
      rcases hr2 with ⟨hE, e2⟩ | ⟨g, hE, e2, mh2⟩
      · have := dl.2.2; unfold law at this; rw [hE] at this; cases this
      · exact ⟨g, hE, e2, mh2⟩⟩ (Nat.le_refl _) (Nat.le_refl _) dX9_things_39
  | false =>
    have h28 : V 53 28 = -9 := h28
    refine Wp_iload_n dX9_things_0 rfl 1 rfl ?_
    refine Wp_i2l (v := (x).toInt64) dX9_things_1 rfl ?_
    refine Wp_lconst (v := 0) dX9_things_2 (by decide) ?_
    refine Wp_aload_n dX9_things_3 rfl 0 rfl ?_
    refine Wp_get (x := ((-9))) fk_X9_174 sx_53 rfl h28 dX9_things_4 ?_
    refine Wp_iconst (v := (nI (1))) dX9_things_7 (by decide) ?_
    refine Wp_isub (z := ((((-9)) - (nI (1))))) dX9_things_8 rfl ?_
    refine Wp_i2l (v := ((((-9)) - (nI (1)))).toInt64) dX9_things_9 rfl ?_
    refine Wp_callSg (c_X9_in (Int32.toInt_toInt64 _) (by decide : ((0 : Int64)).toInt = 0) (Int32.toInt_toInt64 _)) YS_X9_in ml_X9_78 dX9_things_10 (by omega) (by decide) (by omega) (by omega) rfl rfl (Nat.le_of_ble_eq_true rfl) ?_
    refine Wp_ifeq_b (tgt := 37) dX9_things_13 (by decide) (fun c_13 => ?_) (fun c_13 => absurd c_13 (by rw [decide_eq_false (show ¬ (0 ≤ x.toInt ∧ x.toInt ≤ (((-9) : Int32) - nI 1).toInt) from fun w => (by have e : (((-9) : Int32) - nI 1).toInt = -10 := (by decide); omega))]; decide))
    refine Wp_bipush (v := ((-9))) dX9_things_37 (by decide) ?_
    exact Wp_iret rfl ⟨rfl, rfl, _, rfl, ⟨Or.inr ⟨fun w => (by cases w.1), rfl⟩, fun _ _ _ => rfl⟩⟩ (Nat.le_refl _) (Nat.le_refl _) dX9_things_39
theorem c_X9_thing {E : wE} {ad : Nat → Nat} {V : wV} {B n nb hn q : Nat} {tt ln col siz sk sv : Nat → Nat} {lt : Nat → Nat → Nat} {sg : aSig} {hi im : Nat → aSig} {kp : Nat → Bool} (ml : ML V B n tt nb ln lt col siz sg hn hi im kp q sk sv) (k i : Int32)  : w_C E mX9_thing (w_R 4 0 0) 0 0 [.ref (ad (53)), .int (k), .int (i)] SX ad V (w_i SX ad (fun r V' => ((¬ (0 ≤ k.toInt ∧ 0 ≤ i.toInt) ∧ r = -1) ∨ ((0 ≤ k.toInt ∧ 0 ≤ i.toInt) ∧ ∃ md H st, CUTS (law sg.2.2.1 ln lt (del sg.1 8)) sg.2.1 md H st ∧ r = thR k i (hGet sg.2.2.1 ln lt (del sg.1 8) (st (cn k)) (st (cn k + 1))) md H)) ∧ ML V' B n tt nb ln lt col siz sg hn hi im kp q sk sv ∧ ∀ j, j < 53 → V' j = V j)) := by
  refine w_C.of (by decide) (Nat.le_of_ble_eq_true rfl) ?_
  show Wp _ _ _ _ _ _ _ _ _ [(0, .ref (ad (53))), (1, .int (k)), (2, .int (i))] [] SX ad V
  obtain ⟨tx, bk, fg, ⟨w0, ok0⟩, ⟨hs1, hs2, hsj⟩, img, sn⟩ := id ml
  have hn120 := tx.2.1
  have hnb := bk.2.1
  have hq6 := sn.2.1
  have hl8 := ok0.1
  have hpl3 := ok0.2.1
  have hpl7 := ok0.2.2.1
  have hu9 := ok0.2.2.2.1
  have ht9 := ok0.2.2.2.2.1
  refine Wp_iload_n dX9_thing_0 rfl 1 rfl ?_
  refine Wp_if_lt (tgt := 8) dX9_thing_1 (by decide) (rfl) (fun c_1 => ?_) (fun c_1 => ?_)
  · refine Wp_iconst (v := ((-1))) dX9_thing_8 (by decide) ?_
    exact Wp_iret rfl ⟨rfl, rfl, _, rfl, ⟨Or.inl ⟨by omega, rfl⟩, ml, fun _ _ => rfl⟩⟩ (Nat.le_refl _) (Nat.le_refl _) dX9_thing_9
  · refine Wp_iload_n dX9_thing_4 rfl 2 rfl ?_
    refine Wp_if_ge (tgt := 10) dX9_thing_5 (by decide) (rfl) (fun c_5 => ?_) (fun c_5 => ?_)
    · refine Wp_aload_n dX9_thing_10 rfl 0 rfl ?_
      refine Wp_bipush (v := ((-9))) dX9_thing_11 (by decide) ?_
      refine Wp_callVv (c_X9_makes8 ml) YV_X9_makes ml_X9_182 sx_53 rfl dX9_thing_13 (by omega) (by decide) (by omega) (by omega) rfl rfl (Nat.le_of_ble_eq_true rfl) (fun V1 hV1 => ?_)
      obtain ⟨md, H, st, cu, h28, hst, hd1, mf1⟩ := hV1
      have ml1 := ml.mk mf1
      have hH8 := cu.2.2.2
      refine Wp_aload_n dX9_thing_16 rfl 0 rfl ?_
      refine Wp_iload_n dX9_thing_17 rfl 1 rfl ?_
      refine Wp_callVi (c_X9_things cu h28 hst hd1 k) YV_X9_things ml_X9_186 sx_53 rfl dX9_thing_18 (by omega) (by decide) (by omega) (by omega) rfl rfl (Nat.le_of_ble_eq_true rfl) (fun r2 V2 hr2 => ?_)
      obtain ⟨hr2, fr2⟩ := hr2
      have ml2 := ml.mk (mf1.tr fr2)
      have lo2 := (mf1.tr fr2).lo
      rcases hr2 with ⟨⟨hmd, hx0, hxH⟩, g, hE, e2, mh2⟩ | ⟨hno, e2⟩
      · rw [e2]
        have hx := cl_i (x := k) hx0
        have hg := hGet_s hE
        have hg7 := Nat.le_trans mh2.1 hd1.2.2.2.2.1
        refine Wp_istore_n (lv' := [(3, .int (nI (g.2.1))), (0, .ref (ad (53))), (1, .int (k)), (2, .int (i))]) dX9_thing_21 rfl (by decide) rfl ?_
        refine Wp_iload_n dX9_thing_22 rfl 0 rfl ?_
        refine Wp_bipush (v := ((-9))) dX9_thing_23 (by decide) ?_
        refine Wp_icmp_eq (tgt := 42) dX9_thing_25 (by decide) (nI_toInt (by omega)) ((by decide : ((-9) : Int32).toInt = (-9))) (fun c_25 => absurd c_25 (by omega)) (fun c_25 => ?_)
        refine Wp_iload_n dX9_thing_28 rfl 3 rfl ?_
        refine Wp_iload_n dX9_thing_29 rfl 0 rfl ?_
        refine Wp_icmp_ge (tgt := 42) dX9_thing_30 (by decide) (rfl) (nI_toInt (by omega)) (fun c_30 => ?_) (fun c_30 => ?_)
        · refine Wp_bipush (v := ((-9))) dX9_thing_42 (by decide) ?_
          exact Wp_iret rfl ⟨rfl, rfl, _, rfl, ⟨Or.inr ⟨by omega, md, H, st, cu, by
      unfold thR
      first
        | (exfalso; omega)
        | (rw [if_pos (show md = true ∧ cn k < H from ⟨hmd, by omega⟩), hg, if_pos (by omega)])
        | (rw [if_pos (show md = true ∧ cn k < H from ⟨hmd, by omega⟩), hg, if_neg (by omega)])
        | (rw [if_neg (fun w => hno ⟨w.1, by omega, by have := cl_i (x := k) (by omega); omega⟩)])⟩, ml2, lo2⟩⟩ (Nat.le_refl _) (Nat.le_refl _) dX9_thing_44
        · have hi := cl_i (x := i) (by omega)
          refine Wp_aload_n dX9_thing_33 rfl 1 rfl ?_
          refine Wp_getr fk_X9_53 sx_53 rfl dX9_thing_34 ?_
          refine Wp_iload_n dX9_thing_37 rfl 3 rfl ?_
          refine Wp_ild (n := (cn i)) (y := (nI (g.1 (cn i)))) sx_68 (w_cl (by omega)).symm (by omega) (by decide) (mh2.2.2.1 (cn i) (by omega)) dX9_thing_38 ?_
          refine Wp_goto (tgt := 44) dX9_thing_39 (by decide) ?_
          exact Wp_iret rfl ⟨rfl, rfl, _, rfl, ⟨Or.inr ⟨by omega, md, H, st, cu, by
      unfold thR
      first
        | (exfalso; omega)
        | (rw [if_pos (show md = true ∧ cn k < H from ⟨hmd, by omega⟩), hg, if_pos (by omega)])
        | (rw [if_pos (show md = true ∧ cn k < H from ⟨hmd, by omega⟩), hg, if_neg (by omega)])
        | (rw [if_neg (fun w => hno ⟨w.1, by omega, by have := cl_i (x := k) (by omega); omega⟩)])⟩, ml2, lo2⟩⟩ (Nat.le_refl _) (Nat.le_refl _) dX9_thing_44
      · rw [e2]
        refine Wp_istore_n (lv' := [(3, .int ((-9))), (0, .ref (ad (53))), (1, .int (k)), (2, .int (i))]) dX9_thing_21 rfl (by decide) rfl ?_
        refine Wp_iload_n dX9_thing_22 rfl 0 rfl ?_
        refine Wp_bipush (v := ((-9))) dX9_thing_23 (by decide) ?_
        refine Wp_icmp_eq (tgt := 42) dX9_thing_25 (by decide) ((by decide : ((-9) : Int32).toInt = (-9))) ((by decide : ((-9) : Int32).toInt = (-9))) (fun c_25 => ?_) (fun c_25 => absurd c_25 (by omega))
        refine Wp_bipush (v := ((-9))) dX9_thing_42 (by decide) ?_
        exact Wp_iret rfl ⟨rfl, rfl, _, rfl, ⟨Or.inr ⟨by omega, md, H, st, cu, by
      unfold thR
      first
        | (exfalso; omega)
        | (rw [if_pos (show md = true ∧ cn k < H from ⟨hmd, by omega⟩), hg, if_pos (by omega)])
        | (rw [if_pos (show md = true ∧ cn k < H from ⟨hmd, by omega⟩), hg, if_neg (by omega)])
        | (rw [if_neg (fun w => hno ⟨w.1, by omega, by have := cl_i (x := k) (by omega); omega⟩)])⟩, ml2, lo2⟩⟩ (Nat.le_refl _) (Nat.le_refl _) dX9_thing_44
    · refine Wp_iconst (v := ((-1))) dX9_thing_8 (by decide) ?_
      exact Wp_iret rfl ⟨rfl, rfl, _, rfl, ⟨Or.inl ⟨by omega, rfl⟩, ml, fun _ _ => rfl⟩⟩ (Nat.le_refl _) (Nat.le_refl _) dX9_thing_9
theorem lp_X9_hoist {E : wE} {ad : Nat → Nat} {V : wV} {B n nb hn q : Nat} {tt ln col siz sk sv : Nat → Nat} {lt : Nat → Nat → Nat} {sg : aSig} {hi im : Nat → aSig} {kp : Nat → Bool} {k w : Int32} {md : Bool} {H : Nat} {st : Nat → Nat} {g : aH} {V2 : wV} (cu : CUTS (law sg.2.2.1 ln lt (del sg.1 8)) sg.2.1 md H st) (hst : ∀ k, k ≤ H → V2 70 k = nI (st k)) (hmd : md = true) (hk0 : 0 ≤ k.toInt) (hkH : k.toInt < H) (hw : 0 ≤ w.toInt ∧ w.toInt ≤ 3 ∧ w.toInt ≠ 2) (hg : hGet sg.2.2.1 ln lt (del sg.1 8) (st (cn k)) (st (cn k + 1)) = g) (mh2 : MH V2 sg.2.2.1 g) (hsb : SBT g) (hg7 : g.2.1 ≤ 7) (ml2 : ML V2 B n tt nb ln lt col siz sg hn hi im kp q sk sv) (lo2 : ∀ j, j < 53 → V2 j = V j)  : ∀ (m : Nat) (i : Nat), i ≤ g.2.1 → g.2.1 < i + m → Wp E mX9_hoist (w_R 4 0 0) (w_i SX ad (fun r V' => ((¬ (0 ≤ k.toInt ∧ 0 ≤ w.toInt ∧ w.toInt ≤ 3) ∧ r = -1) ∨ ((0 ≤ k.toInt ∧ 0 ≤ w.toInt ∧ w.toInt ≤ 3) ∧ ∃ md H st, CUTS (law sg.2.2.1 ln lt (del sg.1 8)) sg.2.1 md H st ∧ r = hoR k w (hGet sg.2.2.1 ln lt (del sg.1 8) (st (cn k)) (st (cn k + 1))) md H st)) ∧ ML V' B n tt nb ln lt col siz sg hn hi im kp q sk sv ∧ ∀ j, j < 53 → V' j = V j)) 0 0 0 0 49 [(5, .int (nI (i))), (4, .int (nI (sbc g.1 i))), (3, .int (nI (g.2.1))), (0, .ref (ad (53))), (1, .int (k)), (2, .int (w))] [] SX ad V2 := by
  have hkn := cl_i (x := k) hk0
  have hH := cu.2.2.2
  have hl8 := ml2.2.2.2.1.2.1
  have dl := DPS_lt (cu.2.1 hmd) (k := cn k) (by omega)
  intro m
  induction m with
  | zero => intro i hi hm; omega
  | succ m ih =>
    intro i hi hm
    have hsl := sbc_le g.1 i
    refine Wp_iload dX9_hoist_49 0 rfl ?_
    refine Wp_iload_n dX9_hoist_51 rfl 2 rfl ?_
    refine Wp_icmp_ge (tgt := 91) dX9_hoist_52 (by decide) (nI_toInt (by omega)) (nI_toInt (by omega)) (fun c_52 => ?_) (fun c_52 => ?_)
    · refine Wp_iload_n dX9_hoist_91 rfl 5 rfl ?_
      refine Wp_if_ne (tgt := 104) dX9_hoist_92 (by decide) (rfl) (fun c_92 => ?_) (fun c_92 => ?_)
      · refine Wp_iload_n dX9_hoist_104 rfl 5 rfl ?_
        refine Wp_iconst (v := (nI (1))) dX9_hoist_105 (by decide) ?_
        refine Wp_icmp_ne (tgt := 127) dX9_hoist_106 (by decide) (rfl) (nI_toInt (by omega)) (fun c_106 => ?_) (fun c_106 => ?_)
        · refine Wp_iload dX9_hoist_127 1 rfl ?_
          exact Wp_iret rfl ⟨rfl, rfl, _, rfl, ⟨Or.inr ⟨by omega, md, H, st, cu, by
      unfold hoR
      rw [if_pos (show md = true ∧ cn k < H from ⟨hmd, by omega⟩), hg]
      first
        | (rw [if_pos (by omega)])
        | (rw [if_neg (by omega), if_pos (by omega)])
        | (rw [if_neg (by omega), if_neg (by omega), if_neg (by omega), show i = g.2.1 by omega, hsb.1])⟩, ml2, lo2⟩⟩ (Nat.le_refl _) (Nat.le_refl _) dX9_hoist_129
        · refine Wp_aload_n dX9_hoist_109 rfl 3 rfl ?_
          refine Wp_getr fk_X9_59 sx_53 rfl dX9_hoist_110 ?_
          refine Wp_iload_n dX9_hoist_113 rfl 4 rfl ?_
          refine Wp_iconst (v := (nI (1))) dX9_hoist_114 (by decide) ?_
          refine Wp_iadd (z := (nI ((cn k + 1)))) dX9_hoist_115 ((congrArg (· + nI 1) (w_cl (x := k) (by omega)).symm).trans (nI_add _ _)) ?_
          refine Wp_ild (n := (cn k + 1)) (y := (nI (st (cn k + 1)))) sx_70 rfl (by omega) (by decide) (hst (cn k + 1) (by omega)) dX9_hoist_116 ?_
          refine Wp_aload_n dX9_hoist_117 rfl 3 rfl ?_
          refine Wp_getr fk_X9_59 sx_53 rfl dX9_hoist_118 ?_
          refine Wp_iload_n dX9_hoist_121 rfl 4 rfl ?_
          refine Wp_ild (n := (cn k)) (y := (nI (st (cn k)))) sx_70 (w_cl (by omega)).symm (by omega) (by decide) (hst (cn k) (by omega)) dX9_hoist_122 ?_
          refine Wp_isub (z := (nI ((st (cn k + 1) - st (cn k))))) dX9_hoist_123 (pk_sub (by omega)) ?_
          refine Wp_goto (tgt := 129) dX9_hoist_124 (by decide) ?_
          exact Wp_iret rfl ⟨rfl, rfl, _, rfl, ⟨Or.inr ⟨by omega, md, H, st, cu, by
      unfold hoR
      rw [if_pos (show md = true ∧ cn k < H from ⟨hmd, by omega⟩), hg]
      first
        | (rw [if_pos (by omega)])
        | (rw [if_neg (by omega), if_pos (by omega)])
        | (rw [if_neg (by omega), if_neg (by omega), if_neg (by omega), show i = g.2.1 by omega, hsb.1])⟩, ml2, lo2⟩⟩ (Nat.le_refl _) (Nat.le_refl _) dX9_hoist_129
      · refine Wp_aload_n dX9_hoist_95 rfl 3 rfl ?_
        refine Wp_getr fk_X9_59 sx_53 rfl dX9_hoist_96 ?_
        refine Wp_iload_n dX9_hoist_99 rfl 4 rfl ?_
        refine Wp_ild (n := (cn k)) (y := (nI (st (cn k)))) sx_70 (w_cl (by omega)).symm (by omega) (by decide) (hst (cn k) (by omega)) dX9_hoist_100 ?_
        refine Wp_goto (tgt := 129) dX9_hoist_101 (by decide) ?_
        exact Wp_iret rfl ⟨rfl, rfl, _, rfl, ⟨Or.inr ⟨by omega, md, H, st, cu, by
      unfold hoR
      rw [if_pos (show md = true ∧ cn k < H from ⟨hmd, by omega⟩), hg]
      first
        | (rw [if_pos (by omega)])
        | (rw [if_neg (by omega), if_pos (by omega)])
        | (rw [if_neg (by omega), if_neg (by omega), if_neg (by omega), show i = g.2.1 by omega, hsb.1])⟩, ml2, lo2⟩⟩ (Nat.le_refl _) (Nat.le_refl _) dX9_hoist_129
    · have h20 := hsb.2 i (by omega)
      refine Wp_iload dX9_hoist_55 1 rfl ?_
      refine Wp_aload_n dX9_hoist_57 rfl 3 rfl ?_
      refine Wp_getr fk_X9_53 sx_53 rfl dX9_hoist_58 ?_
      refine Wp_iload dX9_hoist_61 0 rfl ?_
      refine Wp_ild (n := i) (y := (nI (g.1 i))) sx_68 rfl (by omega) (by decide) (mh2.2.2.1 i (by omega)) dX9_hoist_63 ?_
      refine Wp_i2l (v := (nI (g.1 i)).toInt64) dX9_hoist_64 rfl ?_
      refine Wp_ldc2 mk_X9_189 dX9_hoist_65 ?_
      refine Wp_ldc2 mk_X9_191 dX9_hoist_68 ?_
      refine Wp_callSg (c_X9_in ((Int32.toInt_toInt64 _).trans (nI_toInt (by omega))) (by decide : ((11 : Int64)).toInt = 11) (by decide : ((13 : Int64)).toInt = 13)) YS_X9_in ml_X9_78 dX9_hoist_71 (by omega) (by decide) (by omega) (by omega) rfl rfl (Nat.le_of_ble_eq_true rfl) ?_
      refine Wp_ifeq_b (tgt := 81) dX9_hoist_74 (by decide) (fun c_74 => ?_) (fun c_74 => ?_)
      · have q74 := of_decide_eq_false c_74
        refine Wp_iconst (v := (nI (0))) dX9_hoist_81 (by decide) ?_
        refine Wp_iadd (z := (nI ((sbc g.1 i + 0)))) dX9_hoist_82 (nI_add _ _) ?_
        refine Wp_istore (lv' := [(4, .int (nI ((sbc g.1 i + 0)))), (5, .int (nI (i))), (3, .int (nI (g.2.1))), (0, .ref (ad (53))), (1, .int (k)), (2, .int (w))]) dX9_hoist_83 (by decide) rfl ?_
        refine Wp_iinc (x := (nI ((i + 1)))) (lv' := [(5, .int (nI ((i + 1)))), (4, .int (nI ((sbc g.1 i + 0)))), (3, .int (nI (g.2.1))), (0, .ref (ad (53))), (1, .int (k)), (2, .int (w))]) dX9_hoist_85 1 rfl (w_inc1 _) (by decide) rfl ?_
        refine Wp_goto (tgt := 49) dX9_hoist_88 (by decide) ?_
        have e : sbc g.1 (i + 1) = (sbc g.1 i + 0) := by simp only [sbc]; first | rw [if_pos (by omega)] | rw [if_neg (by omega)]
        refine Wp_lv (lv2 := [(5, .int (nI (i + 1))), (4, .int (nI (sbc g.1 (i + 1)))), (3, .int (nI (g.2.1))), (0, .ref (ad (53))), (1, .int (k)), (2, .int (w))]) [0, 1, 2, 3, 4, 5] (by rw [e]; rfl) ?_
        exact ih (i + 1) (by omega) (by omega)
      · have q74 := of_decide_eq_true c_74
        refine Wp_iconst (v := (nI (1))) dX9_hoist_77 (by decide) ?_
        refine Wp_goto (tgt := 82) dX9_hoist_78 (by decide) ?_
        refine Wp_iadd (z := (nI ((sbc g.1 i + 1)))) dX9_hoist_82 (nI_add _ _) ?_
        refine Wp_istore (lv' := [(4, .int (nI ((sbc g.1 i + 1)))), (5, .int (nI (i))), (3, .int (nI (g.2.1))), (0, .ref (ad (53))), (1, .int (k)), (2, .int (w))]) dX9_hoist_83 (by decide) rfl ?_
        refine Wp_iinc (x := (nI ((i + 1)))) (lv' := [(5, .int (nI ((i + 1)))), (4, .int (nI ((sbc g.1 i + 1)))), (3, .int (nI (g.2.1))), (0, .ref (ad (53))), (1, .int (k)), (2, .int (w))]) dX9_hoist_85 1 rfl (w_inc1 _) (by decide) rfl ?_
        refine Wp_goto (tgt := 49) dX9_hoist_88 (by decide) ?_
        have e : sbc g.1 (i + 1) = (sbc g.1 i + 1) := by simp only [sbc]; first | rw [if_pos (by omega)] | rw [if_neg (by omega)]
        refine Wp_lv (lv2 := [(5, .int (nI (i + 1))), (4, .int (nI (sbc g.1 (i + 1)))), (3, .int (nI (g.2.1))), (0, .ref (ad (53))), (1, .int (k)), (2, .int (w))]) [0, 1, 2, 3, 4, 5] (by rw [e]; rfl) ?_
        exact ih (i + 1) (by omega) (by omega)
theorem c_X9_hoist {E : wE} {ad : Nat → Nat} {V : wV} {B n nb hn q : Nat} {tt ln col siz sk sv : Nat → Nat} {lt : Nat → Nat → Nat} {sg : aSig} {hi im : Nat → aSig} {kp : Nat → Bool} (ml : ML V B n tt nb ln lt col siz sg hn hi im kp q sk sv) (k w : Int32)  : w_C E mX9_hoist (w_R 4 0 0) 0 0 [.ref (ad (53)), .int (k), .int (w)] SX ad V (w_i SX ad (fun r V' => ((¬ (0 ≤ k.toInt ∧ 0 ≤ w.toInt ∧ w.toInt ≤ 3) ∧ r = -1) ∨ ((0 ≤ k.toInt ∧ 0 ≤ w.toInt ∧ w.toInt ≤ 3) ∧ ∃ md H st, CUTS (law sg.2.2.1 ln lt (del sg.1 8)) sg.2.1 md H st ∧ r = hoR k w (hGet sg.2.2.1 ln lt (del sg.1 8) (st (cn k)) (st (cn k + 1))) md H st)) ∧ ML V' B n tt nb ln lt col siz sg hn hi im kp q sk sv ∧ ∀ j, j < 53 → V' j = V j)) := by
  refine w_C.of (by decide) (Nat.le_of_ble_eq_true rfl) ?_
  show Wp _ _ _ _ _ _ _ _ _ [(0, .ref (ad (53))), (1, .int (k)), (2, .int (w))] [] SX ad V
  obtain ⟨tx, bk, fg, ⟨w0, ok0⟩, ⟨hs1, hs2, hsj⟩, img, sn⟩ := id ml
  have hn120 := tx.2.1
  have hnb := bk.2.1
  have hq6 := sn.2.1
  have hl8 := ok0.1
  have hpl3 := ok0.2.1
  have hpl7 := ok0.2.2.1
  have hu9 := ok0.2.2.2.1
  have ht9 := ok0.2.2.2.2.1
  refine Wp_iload_n dX9_hoist_0 rfl 1 rfl ?_
  refine Wp_if_lt (tgt := 16) dX9_hoist_1 (by decide) (rfl) (fun c_1 => ?_) (fun c_1 => ?_)
  · refine Wp_iconst (v := ((-1))) dX9_hoist_16 (by decide) ?_
    exact Wp_iret rfl ⟨rfl, rfl, _, rfl, ⟨Or.inl ⟨by omega, rfl⟩, ml, fun _ _ => rfl⟩⟩ (Nat.le_refl _) (Nat.le_refl _) dX9_hoist_17
  · refine Wp_iload_n dX9_hoist_4 rfl 2 rfl ?_
    refine Wp_i2l (v := (w).toInt64) dX9_hoist_5 rfl ?_
    refine Wp_lconst (v := 0) dX9_hoist_6 (by decide) ?_
    refine Wp_ldc2 mk_X9_180 dX9_hoist_7 ?_
    refine Wp_callSg (c_X9_in (Int32.toInt_toInt64 _) (by decide : ((0 : Int64)).toInt = 0) (by decide : ((3 : Int64)).toInt = 3)) YS_X9_in ml_X9_78 dX9_hoist_10 (by omega) (by decide) (by omega) (by omega) rfl rfl (Nat.le_of_ble_eq_true rfl) ?_
    refine Wp_ifne_b (tgt := 18) dX9_hoist_13 (by decide) (fun c_13 => ?_) (fun c_13 => ?_)
    · have q13 := of_decide_eq_true c_13
      refine Wp_aload_n dX9_hoist_18 rfl 0 rfl ?_
      refine Wp_bipush (v := ((-9))) dX9_hoist_19 (by decide) ?_
      refine Wp_callVv (c_X9_makes8 ml) YV_X9_makes ml_X9_182 sx_53 rfl dX9_hoist_21 (by omega) (by decide) (by omega) (by omega) rfl rfl (Nat.le_of_ble_eq_true rfl) (fun V1 hV1 => ?_)
      obtain ⟨md, H, st, cu, h28, hst, hd1, mf1⟩ := hV1
      have ml1 := ml.mk mf1
      have hH8 := cu.2.2.2
      refine Wp_aload_n dX9_hoist_24 rfl 0 rfl ?_
      refine Wp_iload_n dX9_hoist_25 rfl 1 rfl ?_
      refine Wp_callVi (c_X9_things cu h28 hst hd1 k) YV_X9_things ml_X9_186 sx_53 rfl dX9_hoist_26 (by omega) (by decide) (by omega) (by omega) rfl rfl (Nat.le_of_ble_eq_true rfl) (fun r2 V2 hr2 => ?_)
      obtain ⟨hr2, fr2⟩ := hr2
      have ml2 := ml.mk (mf1.tr fr2)
      have lo2 := (mf1.tr fr2).lo
      rcases hr2 with ⟨⟨hmd, hx0, hxH⟩, g, hE, e2, mh2⟩ | ⟨hno, e2⟩
      · rw [e2]
        have hx := cl_i (x := k) hx0
        have hg := hGet_s hE
        have hg7 := Nat.le_trans mh2.1 hd1.2.2.2.2.1
        refine Wp_istore_n (lv' := [(3, .int (nI (g.2.1))), (0, .ref (ad (53))), (1, .int (k)), (2, .int (w))]) dX9_hoist_29 rfl (by decide) rfl ?_
        refine Wp_iload_n dX9_hoist_30 rfl 0 rfl ?_
        refine Wp_bipush (v := ((-9))) dX9_hoist_31 (by decide) ?_
        refine Wp_icmp_eq (tgt := 41) dX9_hoist_33 (by decide) (nI_toInt (by omega)) ((by decide : ((-9) : Int32).toInt = (-9))) (fun c_33 => absurd c_33 (by omega)) (fun c_33 => ?_)
        refine Wp_iload_n dX9_hoist_36 rfl 3 rfl ?_
        refine Wp_iconst (v := (nI (2))) dX9_hoist_37 (by decide) ?_
        refine Wp_icmp_ne (tgt := 43) dX9_hoist_38 (by decide) (rfl) (nI_toInt (by omega)) (fun c_38 => ?_) (fun c_38 => ?_)
        · refine Wp_iconst (v := (nI (0))) dX9_hoist_43 (by decide) ?_
          refine Wp_istore (lv' := [(4, .int (nI (0))), (3, .int (nI (g.2.1))), (0, .ref (ad (53))), (1, .int (k)), (2, .int (w))]) dX9_hoist_44 (by decide) rfl ?_
          refine Wp_iconst (v := (nI (0))) dX9_hoist_46 (by decide) ?_
          refine Wp_istore (lv' := [(5, .int (nI (0))), (4, .int (nI (0))), (3, .int (nI (g.2.1))), (0, .ref (ad (53))), (1, .int (k)), (2, .int (w))]) dX9_hoist_47 (by decide) rfl ?_
          refine Wp_lv (lv2 := [(5, .int (nI (0))), (4, .int (nI (sbc g.1 0))), (3, .int (nI (g.2.1))), (0, .ref (ad (53))), (1, .int (k)), (2, .int (w))]) [0, 1, 2, 3, 4, 5] rfl ?_
          exact lp_X9_hoist cu (fun z hz => by rw [fr2 70 (by decide) (by decide)]; exact hst hmd z hz) hmd hx0 hxH (by omega) hg mh2 (hRw_sb _ _ _ _ (fun j a b z hz => by
            have dl := DPS_lt (cu.2.1 hmd) (k := cn k) (by omega)
            exact (((hd1.2.2.2.2.2.2.2 _ (hd1.2.2.1 j (by omega)).2).2.2.2) z hz).2) SBT_0 hE) hg7 ml2 lo2 (g.2.1 + 1) 0 (by omega) (by omega)
        · refine Wp_iload_n dX9_hoist_41 rfl 0 rfl ?_
          exact Wp_iret rfl ⟨rfl, rfl, _, rfl, ⟨Or.inr ⟨by omega, md, H, st, cu, by
      unfold hoR
      first
        | (rw [if_pos (show md = true ∧ cn k < H from ⟨hmd, by omega⟩), hg, if_neg (by omega), if_neg (by omega), if_pos (by omega)])
        | (rw [if_neg (fun w => hno ⟨w.1, by omega, by have := cl_i (x := k) (by omega); omega⟩)])⟩, ml2, lo2⟩⟩ (Nat.le_refl _) (Nat.le_refl _) dX9_hoist_42
      · rw [e2]
        refine Wp_istore_n (lv' := [(3, .int ((-9))), (0, .ref (ad (53))), (1, .int (k)), (2, .int (w))]) dX9_hoist_29 rfl (by decide) rfl ?_
        refine Wp_iload_n dX9_hoist_30 rfl 0 rfl ?_
        refine Wp_bipush (v := ((-9))) dX9_hoist_31 (by decide) ?_
        refine Wp_icmp_eq (tgt := 41) dX9_hoist_33 (by decide) ((by decide : ((-9) : Int32).toInt = (-9))) ((by decide : ((-9) : Int32).toInt = (-9))) (fun c_33 => ?_) (fun c_33 => absurd c_33 (by omega))
        refine Wp_iload_n dX9_hoist_41 rfl 0 rfl ?_
        exact Wp_iret rfl ⟨rfl, rfl, _, rfl, ⟨Or.inr ⟨by omega, md, H, st, cu, by
      unfold hoR
      first
        | (rw [if_pos (show md = true ∧ cn k < H from ⟨hmd, by omega⟩), hg, if_neg (by omega), if_neg (by omega), if_pos (by omega)])
        | (rw [if_neg (fun w => hno ⟨w.1, by omega, by have := cl_i (x := k) (by omega); omega⟩)])⟩, ml2, lo2⟩⟩ (Nat.le_refl _) (Nat.le_refl _) dX9_hoist_42
    · have q13 := of_decide_eq_false c_13
      refine Wp_iconst (v := ((-1))) dX9_hoist_16 (by decide) ?_
      exact Wp_iret rfl ⟨rfl, rfl, _, rfl, ⟨Or.inl ⟨by omega, rfl⟩, ml, fun _ _ => rfl⟩⟩ (Nat.le_refl _) (Nat.le_refl _) dX9_hoist_17
