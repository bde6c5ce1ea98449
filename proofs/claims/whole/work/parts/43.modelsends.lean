/-! THE REFERENCE: sends, unseen, counts -/
theorem c_X9_sends {E : wE} {ad : Nat → Nat} {V : wV} {B n nb hn q : Nat} {tt ln col siz sk sv : Nat → Nat} {lt : Nat → Nat → Nat} {sg : aSig} {hi im : Nat → aSig} {kp : Nat → Bool} (ml : ML V B n tt nb ln lt col siz sg hn hi im kp q sk sv) (hB : B < 2 ^ 30)  : w_C E mX9_sends (w_R 4 0 0) 0 0 [.ref (ad (53))] SX ad V (w_i SX ad (fun r V' => ∃ md H st, CUTS (law sg.2.2.1 ln lt (del sg.1 8)) sg.2.1 md H st ∧ r = snR (snB md H sg) sg ∧ ML V' (B + 1) n tt nb ln lt col siz (snS (snB md H sg) sg) (hN (snB md H sg) hn) (hH (snB md H sg) hi hn sg) im kp q sk sv ∧ ∀ j, j < 53 → V' j = V j)) := by
  refine w_C.of (by decide) (Nat.le_of_ble_eq_true rfl) ?_
  show Wp _ _ _ _ _ _ _ _ _ [(0, .ref (ad (53)))] [] SX ad V
  obtain ⟨tx, bk, fg, ⟨w0, ok0⟩, ⟨hs1, hs2, hsj⟩, img, sn⟩ := id ml
  have hn120 := tx.2.1
  have hnb := bk.2.1
  have hq6 := sn.2.1
  have hl8 := ok0.1
  have hpl3 := ok0.2.1
  have hpl7 := ok0.2.2.1
  have hu9 := ok0.2.2.2.1
  have ht9 := ok0.2.2.2.2.1
  refine Wp_aload_n dX9_sends_0 rfl 0 rfl ?_
  refine Wp_bipush (v := ((-9))) dX9_sends_1 (by decide) ?_
  refine Wp_callVv (c_X9_makes8 ml) YV_X9_makes ml_X9_182 sx_53 rfl dX9_sends_3 (by omega) (by decide) (by omega) (by omega) rfl rfl (Nat.le_of_ble_eq_true rfl) (fun V1 hV1 => ?_)
  obtain ⟨md, H, st, cu, h28, hst, hd1, mf1⟩ := hV1
  have ml1 := ml.mk mf1
  have hH8 := cu.2.2.2
  obtain ⟨hv, hhv⟩ : ∃ hv, hv = (if md = true then nI H else -9) := ⟨_, rfl⟩
  have h28c := h28
  rw [← hhv] at h28
  have hvT : (md = true ∧ hv.toInt = H) ∨ (md = false ∧ hv.toInt = -9) := by
    cases md with
    | true => left; exact ⟨rfl, by rw [hhv]; exact nI_toInt (by omega)⟩
    | false => right; exact ⟨rfl, by rw [hhv]; rfl⟩
  obtain ⟨tx1, bk1, fg1, ⟨w1, ok1⟩, ⟨g1, g2, g3⟩, img1, sn1⟩ := id ml1
  refine Wp_aload_n dX9_sends_6 rfl 0 rfl ?_
  refine Wp_getr fk_X9_7 sx_53 rfl dX9_sends_7 ?_
  refine Wp_bipush (v := (nI (11))) dX9_sends_10 (by decide) ?_
  refine Wp_ild (n := 11) (y := (nI (sg.2.2.2.2))) sx_54 rfl (by omega) (by decide) w1.2.2.2.1 dX9_sends_12 ?_
  refine Wp_if_gt (tgt := 30) dX9_sends_13 (by decide) (nI_toInt (by omega)) (fun c_13 => ?_) (fun c_13 => ?_)
  · have e : (snB md H sg) = false := by unfold snB; rw [decide_eq_false (by omega)]; rfl
    refine Wp_bipush (v := ((-2))) dX9_sends_30 (by decide) ?_
    exact Wp_iret rfl ⟨rfl, rfl, _, rfl, by
    refine ⟨md, H, st, cu, by unfold snR; rw [if_neg (by rw [e]; decide)], ?_, mf1.lo⟩
    rw [hNf e, hHf e]; unfold snS; rw [if_neg (by rw [e]; decide)]; exact ml1.mono (by omega)⟩ (Nat.le_refl _) (Nat.le_refl _) dX9_sends_32
  · refine Wp_aload_n dX9_sends_16 rfl 0 rfl ?_
    refine Wp_getr fk_X9_7 sx_53 rfl dX9_sends_17 ?_
    refine Wp_bipush (v := (nI (10))) dX9_sends_20 (by decide) ?_
    refine Wp_ild (n := 10) (y := (nI (sg.2.2.2.1))) sx_54 rfl (by omega) (by decide) w1.2.2.1 dX9_sends_22 ?_
    refine Wp_aload_n dX9_sends_23 rfl 0 rfl ?_
    refine Wp_get (x := (hv)) fk_X9_174 sx_53 rfl h28 dX9_sends_24 ?_
    refine Wp_icmp_lt (tgt := 33) dX9_sends_27 (by decide) (nI_toInt (by omega)) (rfl) (fun c_27 => ?_) (fun c_27 => ?_)
    · have e : (snB md H sg) = true := by
        unfold snB
        rcases hvT with z | z
        · rw [show decide (sg.2.2.2.2 = 0) = true from decide_eq_true (by omega), show decide (sg.2.2.2.1 < H) = true from decide_eq_true (by omega), z.1]; rfl
        · omega
      refine Wp_aload_n dX9_sends_33 rfl 0 rfl ?_
      refine Wp_callVv (c_X9_minds ml1) YV_X9_minds ml_X9_193 sx_53 rfl dX9_sends_34 (by omega) (by decide) (by omega) (by omega) rfl rfl (Nat.le_of_ble_eq_true rfl) (fun V2 hV2 => ?_)
      obtain ⟨h1, h2, h3, h4, h5⟩ := hV2
      have okh1 := hpush_ok (fun j hj => (g3 j hj).2) ok1 g2
      have w2 : WS V2 0 sg := w1.of hl8 (fun k hk => h3 (0 + k) (by omega))
      refine Wp_aload_n dX9_sends_37 rfl 0 rfl ?_
      refine Wp_getr fk_X9_7 sx_53 rfl dX9_sends_38 ?_
      refine Wp_bipush (v := (nI (11))) dX9_sends_41 (by decide) ?_
      refine Wp_iconst (v := (nI (1))) dX9_sends_43 (by decide) ?_
      refine Wp_ist (n := 11) sx_54 rfl (by omega) (by decide) dX9_sends_44 ?_
      refine Wp_aload_n dX9_sends_45 rfl 0 rfl ?_
      refine Wp_getr fk_X9_7 sx_53 rfl dX9_sends_46 ?_
      refine Wp_bipush (v := (nI (10))) dX9_sends_49 (by decide) ?_
      refine Wp_ild (n := 10) (y := (nI (sg.2.2.2.1))) sx_54 rfl (by omega) (by decide) (by rw [up2_k (by decide)]; exact w2.2.2.1) dX9_sends_51 ?_
      exact Wp_iret rfl ⟨rfl, rfl, _, rfl, by
    obtain ⟨V9, hV9⟩ : ∃ V9, V9 = up2 V2 54 11 (nI 1) := ⟨_, rfl⟩
    rw [← hV9]
    have e53 : V9 53 = V2 53 := by rw [hV9]; simp only [up2]; rfl
    have eo : ∀ j, j ≠ 54 → V9 j = V2 j := fun j hj => by rw [hV9]; simp [up2, hj]
    have v54 : ∀ i, V9 54 i = if i = 11 then nI 1 else V2 54 i := fun i => by rw [hV9]; simp [up2, upd]
    have e54 : ∀ i, 12 ≤ i → V9 54 i = V2 54 i := fun i hi => by rw [v54, if_neg (by omega)]
    refine ⟨md, H, st, cu, by unfold snR; rw [if_pos e], ?_, fun j hj => by rw [eo j (by omega), h5 j (by omega) (by omega)]; exact mf1.lo j hj⟩
    rw [hNt e, hHt e]; unfold snS; rw [if_pos e]
    refine ml1.deed (fun j hj => ((h1 j hj).of (okh1 j hj).1 (fun i hi => e54 (36 + 12 * j + i) (by omega)))) (fun j hj => (okh1 j hj).mono (by omega)) (by rw [e53]; exact h2) hNle ?_ ?_ (by omega) (fun i a1 a2 => by rw [e54 i (by omega), h3 i a2]) (fun z a1 a2 => by rw [e53]; exact h4 z a1) (fun j a1 a2 => by rw [eo j (by omega)]; exact h5 j (by omega) (by omega))
    · refine ⟨?_, ?_, ?_, ?_, fun z hz => ?_⟩
      · rw [v54, if_neg (by omega)]; exact w2.1
      · rw [v54, if_neg (by omega)]; exact w2.2.1
      · rw [v54, if_neg (by omega)]; exact w2.2.2.1
      · rw [v54, if_pos (by omega)]
      · have hz : z < sg.2.1 := hz
        rw [v54, if_neg (by omega)]; exact w2.2.2.2.2 z hz
    · exact ⟨ok1.1, ok1.2.1, ok1.2.2.1, by simp only; omega, by simp only; omega, ok1.2.2.2.2.2⟩⟩ (Nat.le_refl _) (Nat.le_refl _) dX9_sends_52
    · have e : (snB md H sg) = false := by
        unfold snB
        rcases hvT with z | z
        · rw [show decide (sg.2.2.2.1 < H) = false from decide_eq_false (by omega)]; simp
        · rw [z.1]; simp
      refine Wp_bipush (v := ((-2))) dX9_sends_30 (by decide) ?_
      exact Wp_iret rfl ⟨rfl, rfl, _, rfl, by
    refine ⟨md, H, st, cu, by unfold snR; rw [if_neg (by rw [e]; decide)], ?_, mf1.lo⟩
    rw [hNf e, hHf e]; unfold snS; rw [if_neg (by rw [e]; decide)]; exact ml1.mono (by omega)⟩ (Nat.le_refl _) (Nat.le_refl _) dX9_sends_32
theorem c_X9_makesp {E : wE} {ad : Nat → Nat} {V : wV} {B n nb hn q : Nat} {tt ln col siz sk sv : Nat → Nat} {lt : Nat → Nat → Nat} {sg : aSig} {hi im : Nat → aSig} {kp : Nat → Bool} (ml : ML V B n tt nb ln lt col siz sg hn hi im kp q sk sv) {p : Nat} (hp : p < sg.2.1) : w_C E mX9_makes (w_R 3 0 0) 0 0 [.ref (ad 53), .int (nI p)] SX ad V (w_v SX ad (fun V' => ∃ md H st, CUTS (law sg.2.2.1 ln lt (del sg.1 p)) (sg.2.1 - 1) md H st ∧ V' 53 28 = (if md = true then nI H else -9) ∧ (md = true → ∀ k, k ≤ H → V' 70 k = nI (st k)) ∧ HD V' (sg.2.1 - 1) sg.2.2.1 nb ln lt (del sg.1 p) ∧ MFk V V')) := by
  have hl := ml.2.2.2.1.2.1
  have h := c_X9_makes (E := E) (ad := ad) ml (x := nI p) (p := p) (Or.inr ⟨nI_toInt (by omega), hp⟩)
  rw [if_pos hp] at h
  exact h
theorem fit_mono {md : Bool} {e q : Nat} {P : Nat → Prop} [Decidable (∀ i, i < e → P i)] [Decidable (∀ i, i < q → P i)] (h : e ≤ q) (hz : (md && decide (∀ i, i < e → P i)) = false) : (md && decide (∀ i, i < q → P i)) = false := by
  rw [Bool.and_eq_false_iff] at hz ⊢
  rcases hz with a | a
  · left; exact a
  · right; exact decide_eq_false (fun w => of_decide_eq_false a (fun i hi => w i (by omega)))
theorem lp_X9_unI {E : wE} {ad : Nat → Nat} {V : wV} {n nb hn q B p : Nat} {tt ln col siz sk sv : Nat → Nat} {lt : Nat → Nat → Nat} {sg : aSig} {hi im : Nat → aSig} {kp : Nat → Bool} {ub : Nat → Bool} {V1 : wV} {md : Bool} {H : Nat} {st : Nat → Nat} (cu : CUTS (law sg.2.2.1 ln lt (del sg.1 p)) (sg.2.1 - 1) md H st) (h28 : V1 53 28 = (if md = true then nI H else -9)) (hst : md = true → ∀ k, k ≤ H → V1 70 k = nI (st k)) (hd1 : HD V1 (sg.2.1 - 1) sg.2.2.1 nb ln lt (del sg.1 p)) (ml1 : ML V1 B n tt nb ln lt col siz sg hn hi im kp q sk sv) (hp : p < sg.2.1) (Kt : ∀ V2, (∀ j, j ≠ 68 → j ≠ 69 → V2 j = V1 j) → Wp E mX9_unseen (w_R 4 0 0) (w_i SX ad (fun r V' => (∃ ub, (∀ p, p < sg.2.1 → UNB sg ln lt q sk sv p (ub p)) ∧ r = unF ub sg.2.1) ∧ ML V' B n tt nb ln lt col siz sg hn hi im kp q sk sv ∧ ∀ j, j < 53 → V' j = V j)) 0 0 0 0 98 [(3, .int (bI ((md && (decide (∀ i, i < q → thg sg.2.2.1 ln lt (del sg.1 p) md H st (sk i) = sv i)))))), (2, .int (nI (p))), (1, .int (unF ub p)), (0, .ref (ad (53)))] [] SX ad V2)  : ∀ (m : Nat) (e : Nat) (VA : wV), e ≤ q → q < e + m → (∀ j, j ≠ 68 → j ≠ 69 → VA j = V1 j) → Wp E mX9_unseen (w_R 4 0 0) (w_i SX ad (fun r V' => (∃ ub, (∀ p, p < sg.2.1 → UNB sg ln lt q sk sv p (ub p)) ∧ r = unF ub sg.2.1) ∧ ML V' B n tt nb ln lt col siz sg hn hi im kp q sk sv ∧ ∀ j, j < 53 → V' j = V j)) 0 0 0 0 37 [(4, .int (nI (e))), (3, .int (bI ((md && (decide (∀ i, i < e → thg sg.2.2.1 ln lt (del sg.1 p) md H st (sk i) = sv i)))))), (2, .int (nI (p))), (1, .int (unF ub p)), (0, .ref (ad (53)))] [] SX ad VA := by
  have hq6 := ml1.2.2.2.2.2.2.2.1
  intro m
  induction m with
  | zero => intro e VA he hm frA; omega
  | succ m ih =>
    intro e VA he hm frA
    have hH8 := cu.2.2.2
    have hdA := hd1.fr frA
    have e53A := frA 53 (by decide) (by decide)
    have e70A := frA 70 (by decide) (by decide)
    have mlA : ML VA B n tt nb ln lt col siz sg hn hi im kp q sk sv := ml1.of (fun k hk => by rw [e53A]) (fun j h1 h2 => frA j (by omega) (by omega))
    have sn := mlA.2.2.2.2.2.2
    refine Wp_iload dX9_unseen_37 0 rfl ?_
    refine Wp_aload_n dX9_unseen_39 rfl 4 rfl ?_
    refine Wp_get (x := (nI (q))) fk_X9_148 sx_53 rfl sn.1 dX9_unseen_40 ?_
    refine Wp_icmp_ge (tgt := 98) dX9_unseen_43 (by decide) (nI_toInt (by omega)) (nI_toInt (by omega)) (fun c_43 => ?_) (fun c_43 => ?_)
    · have eQ : (md && (decide (∀ i, i < e → thg sg.2.2.1 ln lt (del sg.1 p) md H st (sk i) = sv i))) = (md && (decide (∀ i, i < q → thg sg.2.2.1 ln lt (del sg.1 p) md H st (sk i) = sv i))) := by
        first | rw [show e = q by omega] | (rw [hz, fit_mono he hz])
      refine Wp_lv (lv2 := [(3, .int (bI ((md && (decide (∀ i, i < q → thg sg.2.2.1 ln lt (del sg.1 p) md H st (sk i) = sv i)))))), (2, .int (nI (p))), (1, .int (unF ub p)), (0, .ref (ad (53)))]) [1, 2, 3, 4] (by rw [← eQ]; rfl) ?_
      exact Kt _ frA
    · refine Wp_iload_n dX9_unseen_46 rfl 1 rfl ?_
      refine Wp_ifeq_b (tgt := 98) dX9_unseen_47 (by decide) (fun c_47 => ?_) (fun c_47 => ?_)
      · have hz := c_47
        have eQ : (md && (decide (∀ i, i < e → thg sg.2.2.1 ln lt (del sg.1 p) md H st (sk i) = sv i))) = (md && (decide (∀ i, i < q → thg sg.2.2.1 ln lt (del sg.1 p) md H st (sk i) = sv i))) := by
          first | rw [show e = q by omega] | (rw [hz, fit_mono he hz])
        refine Wp_lv (lv2 := [(3, .int (bI ((md && (decide (∀ i, i < q → thg sg.2.2.1 ln lt (del sg.1 p) md H st (sk i) = sv i)))))), (2, .int (nI (p))), (1, .int (unF ub p)), (0, .ref (ad (53)))]) [1, 2, 3, 4] (by rw [← eQ]; rfl) ?_
        exact Kt _ frA
      · have hz := c_47
        rw [Bool.and_eq_true] at hz
        have hmdT := hz.1
        have hall := of_decide_eq_true hz.2
        have hek := sn.2.2 e (by omega)
        refine Wp_aload_n dX9_unseen_50 rfl 4 rfl ?_
        refine Wp_aload_n dX9_unseen_51 rfl 4 rfl ?_
        refine Wp_getr fk_X9_17 sx_53 rfl dX9_unseen_52 ?_
        refine Wp_iload dX9_unseen_55 0 rfl ?_
        refine Wp_ild (n := e) (y := (nI (sk e))) sx_56 rfl (by omega) (by decide) (sn.2.2 e (by omega)).1 dX9_unseen_57 ?_
        refine Wp_callVi (c_X9_things cu (V := VA) (by rw [e53A]; exact h28) (fun a k hk => by rw [e70A]; exact hst a k hk) hdA (nI (sk e))) YV_X9_things ml_X9_186 sx_53 rfl dX9_unseen_58 (by omega) (by decide) (by omega) (by omega) rfl rfl (Nat.le_of_ble_eq_true rfl) (fun r2 V2 hr2 => ?_)
        have eI : (nI (sk e)).toInt = ((sk e : Nat) : Int) := nI_toInt (by omega)
        have ec : cn (nI (sk e)) = sk e := by have := cl_i (x := nI (sk e)) (by omega); omega
        obtain ⟨hr2, fr2⟩ := hr2
        rw [ec] at hr2
        rcases hr2 with ⟨⟨hmd, hx0, hxH⟩, g, hE, e2, mh2⟩ | ⟨hno, e2⟩
        · rw [e2]
          have hg7 := Nat.le_trans mh2.1 hd1.2.2.2.2.1
          have et : thg sg.2.2.1 ln lt (del sg.1 p) md H st (sk e) = g.2.1 := by
            unfold thg; rw [if_pos ⟨hmd, by omega⟩]; exact hsz_s hE
          refine Wp_istore (lv' := [(5, .int (nI (g.2.1))), (4, .int (nI (e))), (3, .int (bI ((md && (decide (∀ i, i < e → thg sg.2.2.1 ln lt (del sg.1 p) md H st (sk i) = sv i)))))), (2, .int (nI (p))), (1, .int (unF ub p)), (0, .ref (ad (53)))]) dX9_unseen_61 (by decide) rfl ?_
          refine Wp_aload_n dX9_unseen_63 rfl 5 rfl ?_
          refine Wp_getr fk_X9_20 sx_53 rfl dX9_unseen_64 ?_
          refine Wp_iload dX9_unseen_67 1 rfl ?_
          refine Wp_ild (n := e) (y := (nI (sv e))) sx_57 rfl (by omega) (by decide) (by first | exact (sn.2.2 e (by omega)).2.1 | (rw [fr2 57 (by decide) (by decide)]; exact (sn.2.2 e (by omega)).2.1)) dX9_unseen_69 ?_
          refine Wp_iload dX9_unseen_70 0 rfl ?_
          refine Wp_bipush (v := ((-9))) dX9_unseen_72 (by decide) ?_
          refine Wp_icmp_ne (tgt := 81) dX9_unseen_74 (by decide) (nI_toInt (by omega)) ((by decide : ((-9) : Int32).toInt = (-9))) (fun c_74 => ?_) (fun c_74 => absurd c_74 (by omega))
          refine Wp_iload dX9_unseen_81 0 rfl ?_
          refine Wp_icmp_ne (tgt := 90) dX9_unseen_83 (by decide) (nI_toInt (by omega)) (nI_toInt (by omega)) (fun c_83 => ?_) (fun c_83 => ?_)
          · refine Wp_iconst (v := (nI (0))) dX9_unseen_90 (by decide) ?_
            refine Wp_istore_n (lv' := [(3, .int (nI (0))), (5, .int (nI (g.2.1))), (4, .int (nI (e))), (2, .int (nI (p))), (1, .int (unF ub p)), (0, .ref (ad (53)))]) dX9_unseen_91 rfl (by decide) rfl ?_
            refine Wp_iinc (x := (nI ((e + 1)))) (lv' := [(4, .int (nI ((e + 1)))), (3, .int (nI (0))), (5, .int (nI (g.2.1))), (2, .int (nI (p))), (1, .int (unF ub p)), (0, .ref (ad (53)))]) dX9_unseen_92 2 rfl (w_inc1 _) (by decide) rfl ?_
            refine Wp_goto (tgt := 37) dX9_unseen_95 (by decide) ?_
            have eB : (md && (decide (∀ i, i < (e + 1) → thg sg.2.2.1 ln lt (del sg.1 p) md H st (sk i) = sv i))) = false := by
              exact Bool.and_eq_false_iff.mpr (Or.inr (decide_eq_false (fun w => by have := w e (by omega); omega)))
            refine Wp_lv (lv2 := [(4, .int (nI ((e + 1)))), (3, .int (bI ((md && (decide (∀ i, i < (e + 1) → thg sg.2.2.1 ln lt (del sg.1 p) md H st (sk i) = sv i)))))), (2, .int (nI (p))), (1, .int (unF ub p)), (0, .ref (ad (53)))]) [0, 1, 3, 4, 5] (by rw [eB]; rfl) ?_
            exact ih (e + 1) V2 (by omega) (by omega) (fun j a b => by rw [fr2 j a b, frA j a b])
          · refine Wp_iconst (v := (nI (1))) dX9_unseen_86 (by decide) ?_
            refine Wp_goto (tgt := 91) dX9_unseen_87 (by decide) ?_
            refine Wp_istore_n (lv' := [(3, .int (nI (1))), (5, .int (nI (g.2.1))), (4, .int (nI (e))), (2, .int (nI (p))), (1, .int (unF ub p)), (0, .ref (ad (53)))]) dX9_unseen_91 rfl (by decide) rfl ?_
            refine Wp_iinc (x := (nI ((e + 1)))) (lv' := [(4, .int (nI ((e + 1)))), (3, .int (nI (1))), (5, .int (nI (g.2.1))), (2, .int (nI (p))), (1, .int (unF ub p)), (0, .ref (ad (53)))]) dX9_unseen_92 2 rfl (w_inc1 _) (by decide) rfl ?_
            refine Wp_goto (tgt := 37) dX9_unseen_95 (by decide) ?_
            have eB : (md && (decide (∀ i, i < (e + 1) → thg sg.2.2.1 ln lt (del sg.1 p) md H st (sk i) = sv i))) = true := by
              rw [Bool.and_eq_true]
              refine ⟨hmdT, decide_eq_true (fun i hi => ?_)⟩
              by_cases z : i = e
              · rw [z]; omega
              · exact hall i (by omega)
            refine Wp_lv (lv2 := [(4, .int (nI ((e + 1)))), (3, .int (bI ((md && (decide (∀ i, i < (e + 1) → thg sg.2.2.1 ln lt (del sg.1 p) md H st (sk i) = sv i)))))), (2, .int (nI (p))), (1, .int (unF ub p)), (0, .ref (ad (53)))]) [0, 1, 3, 4, 5] (by rw [eB]; rfl) ?_
            exact ih (e + 1) V2 (by omega) (by omega) (fun j a b => by rw [fr2 j a b, frA j a b])
        · rw [e2]
          have et : thg sg.2.2.1 ln lt (del sg.1 p) md H st (sk e) = 0 := by
            unfold thg; rw [if_neg (fun w => hno ⟨w.1, by omega, by omega⟩)]
          refine Wp_istore (lv' := [(5, .int ((-9))), (4, .int (nI (e))), (3, .int (bI ((md && (decide (∀ i, i < e → thg sg.2.2.1 ln lt (del sg.1 p) md H st (sk i) = sv i)))))), (2, .int (nI (p))), (1, .int (unF ub p)), (0, .ref (ad (53)))]) dX9_unseen_61 (by decide) rfl ?_
          refine Wp_aload_n dX9_unseen_63 rfl 5 rfl ?_
          refine Wp_getr fk_X9_20 sx_53 rfl dX9_unseen_64 ?_
          refine Wp_iload dX9_unseen_67 1 rfl ?_
          refine Wp_ild (n := e) (y := (nI (sv e))) sx_57 rfl (by omega) (by decide) (by first | exact (sn.2.2 e (by omega)).2.1 | (rw [fr2 57 (by decide) (by decide)]; exact (sn.2.2 e (by omega)).2.1)) dX9_unseen_69 ?_
          refine Wp_iload dX9_unseen_70 0 rfl ?_
          refine Wp_bipush (v := ((-9))) dX9_unseen_72 (by decide) ?_
          refine Wp_icmp_ne (tgt := 81) dX9_unseen_74 (by decide) ((by decide : ((-9) : Int32).toInt = (-9))) ((by decide : ((-9) : Int32).toInt = (-9))) (fun c_74 => absurd c_74 (by omega)) (fun c_74 => ?_)
          refine Wp_iconst (v := (nI (0))) dX9_unseen_77 (by decide) ?_
          refine Wp_goto (tgt := 83) dX9_unseen_78 (by decide) ?_
          refine Wp_icmp_ne (tgt := 90) dX9_unseen_83 (by decide) (nI_toInt (by omega)) (nI_toInt (by omega)) (fun c_83 => ?_) (fun c_83 => ?_)
          · refine Wp_iconst (v := (nI (0))) dX9_unseen_90 (by decide) ?_
            refine Wp_istore_n (lv' := [(3, .int (nI (0))), (5, .int ((-9))), (4, .int (nI (e))), (2, .int (nI (p))), (1, .int (unF ub p)), (0, .ref (ad (53)))]) dX9_unseen_91 rfl (by decide) rfl ?_
            refine Wp_iinc (x := (nI ((e + 1)))) (lv' := [(4, .int (nI ((e + 1)))), (3, .int (nI (0))), (5, .int ((-9))), (2, .int (nI (p))), (1, .int (unF ub p)), (0, .ref (ad (53)))]) dX9_unseen_92 2 rfl (w_inc1 _) (by decide) rfl ?_
            refine Wp_goto (tgt := 37) dX9_unseen_95 (by decide) ?_
            have eB : (md && (decide (∀ i, i < (e + 1) → thg sg.2.2.1 ln lt (del sg.1 p) md H st (sk i) = sv i))) = false := by
              exact Bool.and_eq_false_iff.mpr (Or.inr (decide_eq_false (fun w => by have := w e (by omega); omega)))
            refine Wp_lv (lv2 := [(4, .int (nI ((e + 1)))), (3, .int (bI ((md && (decide (∀ i, i < (e + 1) → thg sg.2.2.1 ln lt (del sg.1 p) md H st (sk i) = sv i)))))), (2, .int (nI (p))), (1, .int (unF ub p)), (0, .ref (ad (53)))]) [0, 1, 3, 4, 5] (by rw [eB]; rfl) ?_
            exact ih (e + 1) V2 (by omega) (by omega) (fun j a b => by rw [fr2 j a b, frA j a b])
          · refine Wp_iconst (v := (nI (1))) dX9_unseen_86 (by decide) ?_
            refine Wp_goto (tgt := 91) dX9_unseen_87 (by decide) ?_
            refine Wp_istore_n (lv' := [(3, .int (nI (1))), (5, .int ((-9))), (4, .int (nI (e))), (2, .int (nI (p))), (1, .int (unF ub p)), (0, .ref (ad (53)))]) dX9_unseen_91 rfl (by decide) rfl ?_
            refine Wp_iinc (x := (nI ((e + 1)))) (lv' := [(4, .int (nI ((e + 1)))), (3, .int (nI (1))), (5, .int ((-9))), (2, .int (nI (p))), (1, .int (unF ub p)), (0, .ref (ad (53)))]) dX9_unseen_92 2 rfl (w_inc1 _) (by decide) rfl ?_
            refine Wp_goto (tgt := 37) dX9_unseen_95 (by decide) ?_
            have eB : (md && (decide (∀ i, i < (e + 1) → thg sg.2.2.1 ln lt (del sg.1 p) md H st (sk i) = sv i))) = true := by
              rw [Bool.and_eq_true]
              refine ⟨hmdT, decide_eq_true (fun i hi => ?_)⟩
              by_cases z : i = e
              · rw [z]; omega
              · exact hall i (by omega)
            refine Wp_lv (lv2 := [(4, .int (nI ((e + 1)))), (3, .int (bI ((md && (decide (∀ i, i < (e + 1) → thg sg.2.2.1 ln lt (del sg.1 p) md H st (sk i) = sv i)))))), (2, .int (nI (p))), (1, .int (unF ub p)), (0, .ref (ad (53)))]) [0, 1, 3, 4, 5] (by rw [eB]; rfl) ?_
            exact ih (e + 1) V2 (by omega) (by omega) (fun j a b => by rw [fr2 j a b, frA j a b])
theorem lp_X9_unE {E : wE} {ad : Nat → Nat} {V : wV} {n nb hn q B p : Nat} {tt ln col siz sk sv : Nat → Nat} {lt : Nat → Nat → Nat} {sg : aSig} {hi im : Nat → aSig} {kp : Nat → Bool} {ub : Nat → Bool} {V2 : wV} {md : Bool} {H : Nat} {st : Nat → Nat} (cu : CUTS (law sg.2.2.1 ln lt (del sg.1 p)) (sg.2.1 - 1) md H st) (hp : p < sg.2.1) (hub : ∀ z, z < p → UNB sg ln lt q sk sv z (ub z)) (Kt2 : ∀ V3 ub3, (∀ z, z < p + 1 → UNB sg ln lt q sk sv z (ub3 z)) → ML V3 B n tt nb ln lt col siz sg hn hi im kp q sk sv → (∀ j, j < 53 → V3 j = V j) → Wp E mX9_unseen (w_R 4 0 0) (w_i SX ad (fun r V' => (∃ ub, (∀ p, p < sg.2.1 → UNB sg ln lt q sk sv p (ub p)) ∧ r = unF ub sg.2.1) ∧ ML V' B n tt nb ln lt col siz sg hn hi im kp q sk sv ∧ ∀ j, j < 53 → V' j = V j)) 0 0 0 0 4 [(2, .int (nI ((p + 1)))), (1, .int (unF ub3 (p + 1))), (0, .ref (ad (53)))] [] SX ad V3) (ml2 : ML V2 B n tt nb ln lt col siz sg hn hi im kp q sk sv) (lo2 : ∀ j, j < 53 → V2 j = V j) : Wp E mX9_unseen (w_R 4 0 0) (w_i SX ad (fun r V' => (∃ ub, (∀ p, p < sg.2.1 → UNB sg ln lt q sk sv p (ub p)) ∧ r = unF ub sg.2.1) ∧ ML V' B n tt nb ln lt col siz sg hn hi im kp q sk sv ∧ ∀ j, j < 53 → V' j = V j)) 0 0 0 0 98 [(3, .int (bI ((md && (decide (∀ i, i < q → thg sg.2.2.1 ln lt (del sg.1 p) md H st (sk i) = sv i)))))), (2, .int (nI (p))), (1, .int (unF ub p)), (0, .ref (ad (53)))] [] SX ad V2 := by
  have hl8 := ml2.2.2.2.1.2.1
  refine Wp_iload_n dX9_unseen_98 rfl 2 rfl ?_
  refine Wp_iload_n dX9_unseen_99 rfl 0 rfl ?_
  refine Wp_ifeq_b (tgt := 109) dX9_unseen_100 (by decide) (fun c_100 => ?_) (fun c_100 => ?_)
  · refine Wp_iconst (v := (nI (0))) dX9_unseen_109 (by decide) ?_
    refine Wp_ior (z := (((unF ub p) ||| (nI (0))))) dX9_unseen_110 rfl ?_
    refine Wp_istore_n (lv' := [(1, .int (((unF ub p) ||| (nI (0))))), (3, .int (bI ((md && (decide (∀ i, i < q → thg sg.2.2.1 ln lt (del sg.1 p) md H st (sk i) = sv i)))))), (2, .int (nI (p))), (0, .ref (ad (53)))]) dX9_unseen_111 rfl (by decide) rfl ?_
    refine Wp_iinc (x := (nI ((p + 1)))) (lv' := [(2, .int (nI ((p + 1)))), (1, .int (((unF ub p) ||| (nI (0))))), (3, .int (bI ((md && (decide (∀ i, i < q → thg sg.2.2.1 ln lt (del sg.1 p) md H st (sk i) = sv i)))))), (0, .ref (ad (53)))]) dX9_unseen_112 2 rfl (w_inc1 _) (by decide) rfl ?_
    refine Wp_goto (tgt := 4) dX9_unseen_115 (by decide) ?_
    refine Wp_lv (lv2 := [(2, .int (nI (p + 1))), (1, .int (((unF ub p) ||| (nI (0))))), (0, .ref (ad 53))]) [0, 1, 3] rfl ?_
    have hunb : UNB sg ln lt q sk sv p false := ⟨md, H, st, cu, c_100.symm⟩
    have hag : ∀ z, z < p → va_up ub p false z = ub z := fun z hz => by simp only [va_up, if_neg (show ¬ z = p by omega)]
    rw [show (((unF ub p) ||| (nI (0)))) = unF (va_up ub p false) (p + 1) by simp only [unF]; rw [unF_congr hag, show nI 0 = (0 : Int32) from rfl, Int32.or_zero]; simp [va_up]]
    exact Kt2 V2 (va_up ub p false) (fun z hz => by
      by_cases e : z = p
      · subst e; simp only [va_up, if_true]; exact hunb
      · rw [hag z (by omega)]; exact hub z (by omega)) ml2 lo2
  · refine Wp_iconst (v := (nI (1))) dX9_unseen_103 (by decide) ?_
    refine Wp_iload_n dX9_unseen_104 rfl 1 rfl ?_
    refine Wp_ishl (z := (nI 1 <<< (nI p &&& 31))) dX9_unseen_105 rfl ?_
    refine Wp_goto (tgt := 110) dX9_unseen_106 (by decide) ?_
    refine Wp_ior (z := (((unF ub p) ||| (nI 1 <<< (nI p &&& 31))))) dX9_unseen_110 rfl ?_
    refine Wp_istore_n (lv' := [(1, .int (((unF ub p) ||| (nI 1 <<< (nI p &&& 31))))), (3, .int (bI ((md && (decide (∀ i, i < q → thg sg.2.2.1 ln lt (del sg.1 p) md H st (sk i) = sv i)))))), (2, .int (nI (p))), (0, .ref (ad (53)))]) dX9_unseen_111 rfl (by decide) rfl ?_
    refine Wp_iinc (x := (nI ((p + 1)))) (lv' := [(2, .int (nI ((p + 1)))), (1, .int (((unF ub p) ||| (nI 1 <<< (nI p &&& 31))))), (3, .int (bI ((md && (decide (∀ i, i < q → thg sg.2.2.1 ln lt (del sg.1 p) md H st (sk i) = sv i)))))), (0, .ref (ad (53)))]) dX9_unseen_112 2 rfl (w_inc1 _) (by decide) rfl ?_
    refine Wp_goto (tgt := 4) dX9_unseen_115 (by decide) ?_
    refine Wp_lv (lv2 := [(2, .int (nI (p + 1))), (1, .int (((unF ub p) ||| (nI 1 <<< (nI p &&& 31))))), (0, .ref (ad 53))]) [0, 1, 3] rfl ?_
    have hunb : UNB sg ln lt q sk sv p true := ⟨md, H, st, cu, c_100.symm⟩
    have hag : ∀ z, z < p → va_up ub p true z = ub z := fun z hz => by simp only [va_up, if_neg (show ¬ z = p by omega)]
    rw [show (((unF ub p) ||| (nI 1 <<< (nI p &&& 31)))) = unF (va_up ub p true) (p + 1) by simp only [unF]; rw [unF_congr hag]; simp [va_up]]
    exact Kt2 V2 (va_up ub p true) (fun z hz => by
      by_cases e : z = p
      · subst e; simp only [va_up, if_true]; exact hunb
      · rw [hag z (by omega)]; exact hub z (by omega)) ml2 lo2
theorem lp_X9_unseen {E : wE} {ad : Nat → Nat} {V : wV} {B n nb hn q : Nat} {tt ln col siz sk sv : Nat → Nat} {lt : Nat → Nat → Nat} {sg : aSig} {hi im : Nat → aSig} {kp : Nat → Bool}  : ∀ (m : Nat) (p : Nat) (ub : Nat → Bool) (VA : wV), p ≤ sg.2.1 → sg.2.1 < p + m → (∀ z, z < p → UNB sg ln lt q sk sv z (ub z)) → ML VA B n tt nb ln lt col siz sg hn hi im kp q sk sv → (∀ j, j < 53 → VA j = V j) → Wp E mX9_unseen (w_R 4 0 0) (w_i SX ad (fun r V' => (∃ ub, (∀ p, p < sg.2.1 → UNB sg ln lt q sk sv p (ub p)) ∧ r = unF ub sg.2.1) ∧ ML V' B n tt nb ln lt col siz sg hn hi im kp q sk sv ∧ ∀ j, j < 53 → V' j = V j)) 0 0 0 0 4 [(2, .int (nI (p))), (1, .int (unF ub p)), (0, .ref (ad (53)))] [] SX ad VA := by
  intro m
  induction m with
  | zero => intro p ub VA hp hm hub mlA frA; omega
  | succ m ih =>
    intro p ub VA hp hm hub mlA frA
    have wA := mlA.2.2.2.1.1
    have hl8 := mlA.2.2.2.1.2.1
    have hq6 := mlA.2.2.2.2.2.2.2.1
    refine Wp_iload_n dX9_unseen_4 rfl 0 rfl ?_
    refine Wp_aload_n dX9_unseen_5 rfl 2 rfl ?_
    refine Wp_getr fk_X9_7 sx_53 rfl dX9_unseen_6 ?_
    refine Wp_iconst (v := (nI (0))) dX9_unseen_9 (by decide) ?_
    refine Wp_ild (n := 0) (y := (nI (sg.2.1))) sx_54 rfl (by omega) (by decide) wA.1 dX9_unseen_10 ?_
    refine Wp_icmp_ge (tgt := 118) dX9_unseen_11 (by decide) (nI_toInt (by omega)) (nI_toInt (by omega)) (fun c_11 => ?_) (fun c_11 => ?_)
    · refine Wp_iload_n dX9_unseen_118 rfl 1 rfl ?_
      exact Wp_iret rfl ⟨rfl, rfl, _, rfl, ⟨⟨ub, fun z hz => hub z (by omega), by rw [show p = sg.2.1 by omega]⟩, mlA, frA⟩⟩ (Nat.le_refl _) (Nat.le_refl _) dX9_unseen_119
    · refine Wp_aload_n dX9_unseen_14 rfl 2 rfl ?_
      refine Wp_iload_n dX9_unseen_15 rfl 0 rfl ?_
      refine Wp_callVv (c_X9_makesp mlA (p := p) (by omega)) YV_X9_makes ml_X9_182 sx_53 rfl dX9_unseen_16 (by omega) (by decide) (by omega) (by omega) rfl rfl (Nat.le_of_ble_eq_true rfl) (fun V1 hV1 => ?_)
      obtain ⟨md, H, st, cu, h28, hst, hd1, mf1⟩ := hV1
      have ml1 := mlA.mk mf1
      have hH8 := cu.2.2.2
      obtain ⟨hv, hhv⟩ : ∃ hv, hv = (if md = true then nI H else -9) := ⟨_, rfl⟩
      have h28c := h28
      rw [← hhv] at h28
      have hvT : (md = true ∧ hv.toInt = H) ∨ (md = false ∧ hv.toInt = -9) := by
        cases md with
        | true => left; exact ⟨rfl, by rw [hhv]; exact nI_toInt (by omega)⟩
        | false => right; exact ⟨rfl, by rw [hhv]; rfl⟩
      refine Wp_aload_n dX9_unseen_19 rfl 2 rfl ?_
      refine Wp_get (x := (hv)) fk_X9_174 sx_53 rfl h28 dX9_unseen_20 ?_
      refine Wp_bipush (v := ((-9))) dX9_unseen_23 (by decide) ?_
      refine Wp_icmp_eq (tgt := 32) dX9_unseen_25 (by decide) (rfl) ((by decide : ((-9) : Int32).toInt = (-9))) (fun c_25 => ?_) (fun c_25 => ?_)
      · refine Wp_iconst (v := (nI (0))) dX9_unseen_32 (by decide) ?_
        refine Wp_istore_n (lv' := [(3, .int (nI (0))), (2, .int (nI (p))), (1, .int (unF ub p)), (0, .ref (ad (53)))]) dX9_unseen_33 rfl (by decide) rfl ?_
        refine Wp_iconst (v := (nI (0))) dX9_unseen_34 (by decide) ?_
        refine Wp_istore (lv' := [(4, .int (nI (0))), (3, .int (nI (0))), (2, .int (nI (p))), (1, .int (unF ub p)), (0, .ref (ad (53)))]) dX9_unseen_35 (by decide) rfl ?_
        obtain ⟨e0, he0⟩ : ∃ e0 : Nat, e0 = 0 := ⟨0, rfl⟩
        have eB : (md && (decide (∀ i, i < e0 → thg sg.2.2.1 ln lt (del sg.1 p) md H st (sk i) = sv i))) = false := by
          have hmd : md = false := by rcases hvT with z | z <;> first | exact z.1 | omega
          exact Bool.and_eq_false_iff.mpr (Or.inl hmd)
        refine Wp_lv (lv2 := [(4, .int (nI (e0))), (3, .int (bI ((md && (decide (∀ i, i < e0 → thg sg.2.2.1 ln lt (del sg.1 p) md H st (sk i) = sv i)))))), (2, .int (nI (p))), (1, .int (unF ub p)), (0, .ref (ad (53)))]) [0, 1, 2, 3, 4] (by rw [eB, he0]; rfl) ?_
        refine lp_X9_unI cu h28c hst hd1 ml1 (by omega) ?_ (q + 1) e0 V1 (by omega) (by omega) (fun _ _ _ => rfl)
        intro V2 fr2
        have mf2 := mf1.tr fr2
        have ml2 : ML V2 B n tt nb ln lt col siz sg hn hi im kp q sk sv := mlA.mk mf2
        have lo2 : ∀ j, j < 53 → V2 j = V j := fun j hj => by rw [mf2.lo j hj]; exact frA j hj
        exact lp_X9_unE cu (by omega) hub (fun V3 ub3 a1 a2 a3 => ih (p + 1) ub3 V3 (by omega) (by omega) a1 a2 a3) ml2 lo2
      · refine Wp_iconst (v := (nI (1))) dX9_unseen_28 (by decide) ?_
        refine Wp_goto (tgt := 33) dX9_unseen_29 (by decide) ?_
        refine Wp_istore_n (lv' := [(3, .int (nI (1))), (2, .int (nI (p))), (1, .int (unF ub p)), (0, .ref (ad (53)))]) dX9_unseen_33 rfl (by decide) rfl ?_
        refine Wp_iconst (v := (nI (0))) dX9_unseen_34 (by decide) ?_
        refine Wp_istore (lv' := [(4, .int (nI (0))), (3, .int (nI (1))), (2, .int (nI (p))), (1, .int (unF ub p)), (0, .ref (ad (53)))]) dX9_unseen_35 (by decide) rfl ?_
        obtain ⟨e0, he0⟩ : ∃ e0 : Nat, e0 = 0 := ⟨0, rfl⟩
        have eB : (md && (decide (∀ i, i < e0 → thg sg.2.2.1 ln lt (del sg.1 p) md H st (sk i) = sv i))) = true := by
          have hmd : md = true := by rcases hvT with z | z <;> first | exact z.1 | omega
          rw [Bool.and_eq_true]; exact ⟨hmd, decide_eq_true (fun i hi => absurd hi (by omega))⟩
        refine Wp_lv (lv2 := [(4, .int (nI (e0))), (3, .int (bI ((md && (decide (∀ i, i < e0 → thg sg.2.2.1 ln lt (del sg.1 p) md H st (sk i) = sv i)))))), (2, .int (nI (p))), (1, .int (unF ub p)), (0, .ref (ad (53)))]) [0, 1, 2, 3, 4] (by rw [eB, he0]; rfl) ?_
        refine lp_X9_unI cu h28c hst hd1 ml1 (by omega) ?_ (q + 1) e0 V1 (by omega) (by omega) (fun _ _ _ => rfl)
        intro V2 fr2
        have mf2 := mf1.tr fr2
        have ml2 : ML V2 B n tt nb ln lt col siz sg hn hi im kp q sk sv := mlA.mk mf2
        have lo2 : ∀ j, j < 53 → V2 j = V j := fun j hj => by rw [mf2.lo j hj]; exact frA j hj
        exact lp_X9_unE cu (by omega) hub (fun V3 ub3 a1 a2 a3 => ih (p + 1) ub3 V3 (by omega) (by omega) a1 a2 a3) ml2 lo2
theorem c_X9_unseen {E : wE} {ad : Nat → Nat} {V : wV} {B n nb hn q : Nat} {tt ln col siz sk sv : Nat → Nat} {lt : Nat → Nat → Nat} {sg : aSig} {hi im : Nat → aSig} {kp : Nat → Bool} (ml : ML V B n tt nb ln lt col siz sg hn hi im kp q sk sv)  : w_C E mX9_unseen (w_R 4 0 0) 0 0 [.ref (ad (53))] SX ad V (w_i SX ad (fun r V' => (∃ ub, (∀ p, p < sg.2.1 → UNB sg ln lt q sk sv p (ub p)) ∧ r = unF ub sg.2.1) ∧ ML V' B n tt nb ln lt col siz sg hn hi im kp q sk sv ∧ ∀ j, j < 53 → V' j = V j)) := by
  refine w_C.of (by decide) (Nat.le_of_ble_eq_true rfl) ?_
  show Wp _ _ _ _ _ _ _ _ _ [(0, .ref (ad (53)))] [] SX ad V
  refine Wp_iconst (v := (nI (0))) dX9_unseen_0 (by decide) ?_
  refine Wp_istore_n (lv' := [(1, .int (nI (0))), (0, .ref (ad (53)))]) dX9_unseen_1 rfl (by decide) rfl ?_
  refine Wp_iconst (v := (nI (0))) dX9_unseen_2 (by decide) ?_
  refine Wp_istore_n (lv' := [(2, .int (nI (0))), (1, .int (nI (0))), (0, .ref (ad (53)))]) dX9_unseen_3 rfl (by decide) rfl ?_
  refine Wp_lv (lv2 := [(2, .int (nI (0))), (1, .int (unF (fun _ => false) 0)), (0, .ref (ad (53)))]) [0, 1, 2] rfl ?_
  exact lp_X9_unseen (sg.2.1 + 1) 0 (fun _ => false) V (by omega) (by omega) (fun z hz => by omega) ml (fun _ _ => rfl)
theorem c_X9_count0 {E : wE} {ad : Nat → Nat} {V : wV} {B n nb hn q : Nat} {tt ln col siz sk sv : Nat → Nat} {lt : Nat → Nat → Nat} {sg : aSig} {hi im : Nat → aSig} {kp : Nat → Bool} (ml : ML V B n tt nb ln lt col siz sg hn hi im kp q sk sv) (x : Int32)  : w_C E mX9_count0 (w_R 4 0 0) 0 0 [.ref (ad (53)), .int (x)] SX ad V (w_i SX ad (fun r V' => (∃ md H st, CUTS (law sg.2.2.1 ln lt (del sg.1 8)) sg.2.1 md H st ∧ r = (if x.toInt = 3 then (if md = true then nI H else -9) else (if md = true then nI (frt (orw col siz ln lt (del sg.1 8) nb sg.2.1) 9) else -9))) ∧ ML V' B n tt nb ln lt col siz sg hn hi im kp q sk sv ∧ ∀ j, j < 53 → V' j = V j)) := by
  refine w_C.of (by decide) (Nat.le_of_ble_eq_true rfl) ?_
  show Wp _ _ _ _ _ _ _ _ _ [(0, .ref (ad (53))), (1, .int (x))] [] SX ad V
  obtain ⟨tx, bk, fg, ⟨w0, ok0⟩, ⟨hs1, hs2, hsj⟩, img, sn⟩ := id ml
  have hn120 := tx.2.1
  have hnb := bk.2.1
  have hq6 := sn.2.1
  have hl8 := ok0.1
  have hpl3 := ok0.2.1
  have hpl7 := ok0.2.2.1
  have hu9 := ok0.2.2.2.1
  have ht9 := ok0.2.2.2.2.1
  refine Wp_aload_n dX9_count0_0 rfl 0 rfl ?_
  refine Wp_bipush (v := ((-9))) dX9_count0_1 (by decide) ?_
  refine Wp_callVv (c_X9_makes8 ml) YV_X9_makes ml_X9_182 sx_53 rfl dX9_count0_3 (by omega) (by decide) (by omega) (by omega) rfl rfl (Nat.le_of_ble_eq_true rfl) (fun V1 hV1 => ?_)
  obtain ⟨md, H, st, cu, h28, hst, hd1, mf1⟩ := hV1
  have ml1 := ml.mk mf1
  have hH8 := cu.2.2.2
  refine Wp_iload_n dX9_count0_6 rfl 1 rfl ?_
  refine Wp_iconst (v := (nI (3))) dX9_count0_7 (by decide) ?_
  refine Wp_icmp_ne (tgt := 18) dX9_count0_8 (by decide) (rfl) (nI_toInt (by omega)) (fun c_8 => ?_) (fun c_8 => ?_)
  · refine Wp_aload_n dX9_count0_18 rfl 0 rfl ?_
    refine Wp_callVg (c_X9_farthest ml1 cu h28 hst hd1) YV_X9_farthest ml_X9_211 sx_53 rfl dX9_count0_19 (by omega) (by decide) (by omega) (by omega) rfl rfl (Nat.le_of_ble_eq_true rfl) ?_
    exact Wp_iret rfl ⟨rfl, rfl, _, rfl, ⟨⟨md, H, st, cu, by rw [if_neg (show ¬ x.toInt = 3 from c_8)]⟩, ml1, mf1.lo⟩⟩ (Nat.le_refl _) (Nat.le_refl _) dX9_count0_22
  · refine Wp_aload_n dX9_count0_11 rfl 0 rfl ?_
    refine Wp_get (x := ((if md = true then nI H else -9))) fk_X9_174 sx_53 rfl h28 dX9_count0_12 ?_
    refine Wp_goto (tgt := 22) dX9_count0_15 (by decide) ?_
    exact Wp_iret rfl ⟨rfl, rfl, _, rfl, ⟨⟨md, H, st, cu, by rw [if_pos (show x.toInt = 3 from c_8)]⟩, ml1, mf1.lo⟩⟩ (Nat.le_refl _) (Nat.le_refl _) dX9_count0_22
theorem ctR3 {x : Int32} {n nb hn q : Nat} {sg : aSig} {md : Bool} {H F : Nat} (h : x.toInt = 3) : (if x.toInt = 3 then (if md = true then nI H else -9) else (if md = true then nI F else -9)) = ctR x n nb hn q sg md H F := by
  unfold ctR; rw [if_pos h, if_neg (show ¬ x.toInt = 0 by omega), if_neg (show ¬ x.toInt = 1 by omega), if_neg (show ¬ x.toInt = 2 by omega), if_pos h]
theorem ctR4 {x : Int32} {n nb hn q : Nat} {sg : aSig} {md : Bool} {H F : Nat} (h : x.toInt = 4) : (if x.toInt = 3 then (if md = true then nI H else -9) else (if md = true then nI F else -9)) = ctR x n nb hn q sg md H F := by
  unfold ctR; rw [if_neg (show ¬ x.toInt = 3 by omega), if_neg (show ¬ x.toInt = 0 by omega), if_neg (show ¬ x.toInt = 1 by omega), if_neg (show ¬ x.toInt = 2 by omega), if_neg (show ¬ x.toInt = 3 by omega), if_pos h]
theorem c_X9_count {E : wE} {ad : Nat → Nat} {V : wV} {B n nb hn q : Nat} {tt ln col siz sk sv : Nat → Nat} {lt : Nat → Nat → Nat} {sg : aSig} {hi im : Nat → aSig} {kp : Nat → Bool} (ml : ML V B n tt nb ln lt col siz sg hn hi im kp q sk sv) (hB : B < 2 ^ 30) (x : Int32)  : w_C E mX9_count (w_R 5 0 0) 0 0 [.ref (ad (53)), .int (x)] SX ad V (w_i SX ad (fun r V' => ((x.toInt ≠ 3 ∧ x.toInt ≠ 4 ∧ r = ctR x n nb hn q sg true 0 0) ∨ ((x.toInt = 3 ∨ x.toInt = 4) ∧ ∃ md H st, CUTS (law sg.2.2.1 ln lt (del sg.1 8)) sg.2.1 md H st ∧ r = ctR x n nb hn q sg md H (frt (orw col siz ln lt (del sg.1 8) nb sg.2.1) 9))) ∧ ML V' B n tt nb ln lt col siz sg hn hi im kp q sk sv ∧ ∀ j, j < 53 → V' j = V j)) := by
  refine w_C.of (by decide) (Nat.le_of_ble_eq_true rfl) ?_
  show Wp _ _ _ _ _ _ _ _ _ [(0, .ref (ad (53))), (1, .int (x))] [] SX ad V
  obtain ⟨tx, bk, fg, ⟨w0, ok0⟩, ⟨hs1, hs2, hsj⟩, img, sn⟩ := id ml
  have hn120 := tx.2.1
  have hnb := bk.2.1
  have hq6 := sn.2.1
  have hl8 := ok0.1
  have hpl3 := ok0.2.1
  have hpl7 := ok0.2.2.1
  have hu9 := ok0.2.2.2.1
  have ht9 := ok0.2.2.2.2.1
  refine Wp_iload_n dX9_count_0 rfl 1 rfl ?_
  by_cases c_1_0 : ((x)).toInt = 0
  · refine Wp_tableIn (tgt := 56) (off := 55) dX9_count_1 (a := 0) ((rfl).trans c_1_0) (by decide) (by decide) (by decide) (by decide) ?_
    refine Wp_aload_n dX9_count_56 rfl 0 rfl ?_
    refine Wp_get (x := (nI (nb))) fk_X9_145 sx_53 rfl bk.1 dX9_count_57 ?_
    exact Wp_iret rfl ⟨rfl, rfl, _, rfl, ⟨Or.inl ⟨by omega, by omega, by unfold ctR; rw [if_pos (by omega)]⟩, ml, fun _ _ => rfl⟩⟩ (Nat.le_refl _) (Nat.le_refl _) dX9_count_60
  by_cases c_1_1 : ((x)).toInt = 1
  · refine Wp_tableIn (tgt := 61) (off := 60) dX9_count_1 (a := 1) ((rfl).trans c_1_1) (by decide) (by decide) (by decide) (by decide) ?_
    refine Wp_aload_n dX9_count_61 rfl 0 rfl ?_
    refine Wp_getr fk_X9_7 sx_53 rfl dX9_count_62 ?_
    refine Wp_iconst (v := (nI (0))) dX9_count_65 (by decide) ?_
    refine Wp_ild (n := 0) (y := (nI (sg.2.1))) sx_54 rfl (by omega) (by decide) w0.1 dX9_count_66 ?_
    exact Wp_iret rfl ⟨rfl, rfl, _, rfl, ⟨Or.inl ⟨by omega, by omega, by unfold ctR; rw [if_neg (by omega), if_pos (by omega)]⟩, ml, fun _ _ => rfl⟩⟩ (Nat.le_refl _) (Nat.le_refl _) dX9_count_67
  by_cases c_1_2 : ((x)).toInt = 2
  · refine Wp_tableIn (tgt := 68) (off := 67) dX9_count_1 (a := 2) ((rfl).trans c_1_2) (by decide) (by decide) (by decide) (by decide) ?_
    refine Wp_aload_n dX9_count_68 rfl 0 rfl ?_
    refine Wp_getr fk_X9_7 sx_53 rfl dX9_count_69 ?_
    refine Wp_bipush (v := (nI (9))) dX9_count_72 (by decide) ?_
    refine Wp_ild (n := 9) (y := (nI (sg.2.2.1))) sx_54 rfl (by omega) (by decide) w0.2.1 dX9_count_74 ?_
    exact Wp_iret rfl ⟨rfl, rfl, _, rfl, ⟨Or.inl ⟨by omega, by omega, by unfold ctR; rw [if_neg (by omega), if_neg (by omega), if_pos (by omega)]⟩, ml, fun _ _ => rfl⟩⟩ (Nat.le_refl _) (Nat.le_refl _) dX9_count_75
  by_cases c_1_3 : ((x)).toInt = 3
  · refine Wp_tableIn (tgt := 76) (off := 75) dX9_count_1 (a := 3) ((rfl).trans c_1_3) (by decide) (by decide) (by decide) (by decide) ?_
    refine Wp_aload_n dX9_count_76 rfl 0 rfl ?_
    refine Wp_iload_n dX9_count_77 rfl 1 rfl ?_
    refine Wp_callVi (c_X9_count0 ml x) YV_X9_count0 ml_X9_215 sx_53 rfl dX9_count_78 (by omega) (by decide) (by omega) (by omega) rfl rfl (Nat.le_of_ble_eq_true rfl) (fun r1 V1 hr1 => ?_)
    obtain ⟨⟨md, H, st, cu, e1⟩, ml1, lo1⟩ := hr1
    exact Wp_iret rfl ⟨rfl, rfl, _, rfl, ⟨Or.inr ⟨by omega, md, H, st, cu, by first | exact e1.trans (ctR3 (by assumption)) | exact e1.trans (ctR4 (by assumption))⟩, ml1, lo1⟩⟩ (Nat.le_refl _) (Nat.le_refl _) dX9_count_81
  by_cases c_1_4 : ((x)).toInt = 4
  · refine Wp_tableIn (tgt := 76) (off := 75) dX9_count_1 (a := 4) ((rfl).trans c_1_4) (by decide) (by decide) (by decide) (by decide) ?_
    refine Wp_aload_n dX9_count_76 rfl 0 rfl ?_
    refine Wp_iload_n dX9_count_77 rfl 1 rfl ?_
    refine Wp_callVi (c_X9_count0 ml x) YV_X9_count0 ml_X9_215 sx_53 rfl dX9_count_78 (by omega) (by decide) (by omega) (by omega) rfl rfl (Nat.le_of_ble_eq_true rfl) (fun r1 V1 hr1 => ?_)
    obtain ⟨⟨md, H, st, cu, e1⟩, ml1, lo1⟩ := hr1
    exact Wp_iret rfl ⟨rfl, rfl, _, rfl, ⟨Or.inr ⟨by omega, md, H, st, cu, by first | exact e1.trans (ctR3 (by assumption)) | exact e1.trans (ctR4 (by assumption))⟩, ml1, lo1⟩⟩ (Nat.le_refl _) (Nat.le_refl _) dX9_count_81
  by_cases c_1_5 : ((x)).toInt = 5
  · refine Wp_tableIn (tgt := 82) (off := 81) dX9_count_1 (a := 5) ((rfl).trans c_1_5) (by decide) (by decide) (by decide) (by decide) ?_
    refine Wp_aload_n dX9_count_82 rfl 0 rfl ?_
    refine Wp_getr fk_X9_7 sx_53 rfl dX9_count_83 ?_
    refine Wp_bipush (v := (nI (11))) dX9_count_86 (by decide) ?_
    refine Wp_ild (n := 11) (y := (nI (sg.2.2.2.2))) sx_54 rfl (by omega) (by decide) w0.2.2.2.1 dX9_count_88 ?_
    refine Wp_if_le (tgt := 102) dX9_count_89 (by decide) (nI_toInt (by omega)) (fun c_89 => ?_) (fun c_89 => ?_)
    · refine Wp_bipush (v := ((-9))) dX9_count_102 (by decide) ?_
      exact Wp_iret rfl ⟨rfl, rfl, _, rfl, ⟨Or.inl ⟨by omega, by omega, by unfold ctR; rw [if_neg (by omega), if_neg (by omega), if_neg (by omega), if_neg (by omega), if_neg (by omega), if_pos (by omega), if_pos (by omega)]⟩, ml, fun _ _ => rfl⟩⟩ (Nat.le_refl _) (Nat.le_refl _) dX9_count_104
    · refine Wp_aload_n dX9_count_92 rfl 0 rfl ?_
      refine Wp_getr fk_X9_7 sx_53 rfl dX9_count_93 ?_
      refine Wp_bipush (v := (nI (10))) dX9_count_96 (by decide) ?_
      refine Wp_ild (n := 10) (y := (nI (sg.2.2.2.1))) sx_54 rfl (by omega) (by decide) w0.2.2.1 dX9_count_98 ?_
      refine Wp_goto (tgt := 104) dX9_count_99 (by decide) ?_
      exact Wp_iret rfl ⟨rfl, rfl, _, rfl, ⟨Or.inl ⟨by omega, by omega, by unfold ctR; rw [if_neg (by omega), if_neg (by omega), if_neg (by omega), if_neg (by omega), if_neg (by omega), if_pos (by omega), if_neg (by omega)]⟩, ml, fun _ _ => rfl⟩⟩ (Nat.le_refl _) (Nat.le_refl _) dX9_count_104
  by_cases c_1_6 : ((x)).toInt = 6
  · refine Wp_tableIn (tgt := 105) (off := 104) dX9_count_1 (a := 6) ((rfl).trans c_1_6) (by decide) (by decide) (by decide) (by decide) ?_
    refine Wp_aload_n dX9_count_105 rfl 0 rfl ?_
    refine Wp_getr fk_X9_7 sx_53 rfl dX9_count_106 ?_
    refine Wp_bipush (v := (nI (10))) dX9_count_109 (by decide) ?_
    refine Wp_ild (n := 10) (y := (nI (sg.2.2.2.1))) sx_54 rfl (by omega) (by decide) w0.2.2.1 dX9_count_111 ?_
    exact Wp_iret rfl ⟨rfl, rfl, _, rfl, ⟨Or.inl ⟨by omega, by omega, by unfold ctR; rw [if_neg (by omega), if_neg (by omega), if_neg (by omega), if_neg (by omega), if_neg (by omega), if_neg (by omega), if_pos (by omega)]⟩, ml, fun _ _ => rfl⟩⟩ (Nat.le_refl _) (Nat.le_refl _) dX9_count_112
  by_cases c_1_7 : ((x)).toInt = 7
  · refine Wp_tableIn (tgt := 113) (off := 112) dX9_count_1 (a := 7) ((rfl).trans c_1_7) (by decide) (by decide) (by decide) (by decide) ?_
    refine Wp_aload_n dX9_count_113 rfl 0 rfl ?_
    refine Wp_get (x := (nI (q))) fk_X9_148 sx_53 rfl sn.1 dX9_count_114 ?_
    exact Wp_iret rfl ⟨rfl, rfl, _, rfl, ⟨Or.inl ⟨by omega, by omega, by unfold ctR; rw [if_neg (by omega), if_neg (by omega), if_neg (by omega), if_neg (by omega), if_neg (by omega), if_neg (by omega), if_neg (by omega), if_pos (by omega)]⟩, ml, fun _ _ => rfl⟩⟩ (Nat.le_refl _) (Nat.le_refl _) dX9_count_117
  by_cases c_1_8 : ((x)).toInt = 8
  · refine Wp_tableIn (tgt := 118) (off := 117) dX9_count_1 (a := 8) ((rfl).trans c_1_8) (by decide) (by decide) (by decide) (by decide) ?_
    refine Wp_aload_n dX9_count_118 rfl 0 rfl ?_
    refine Wp_get (x := (nI (n))) fk_X9_85 sx_53 rfl tx.1 dX9_count_119 ?_
    exact Wp_iret rfl ⟨rfl, rfl, _, rfl, ⟨Or.inl ⟨by omega, by omega, by unfold ctR; rw [if_neg (by omega), if_neg (by omega), if_neg (by omega), if_neg (by omega), if_neg (by omega), if_neg (by omega), if_neg (by omega), if_neg (by omega), if_pos (by omega)]⟩, ml, fun _ _ => rfl⟩⟩ (Nat.le_refl _) (Nat.le_refl _) dX9_count_122
  by_cases c_1_9 : ((x)).toInt = 9
  · refine Wp_tableIn (tgt := 123) (off := 122) dX9_count_1 (a := 9) ((rfl).trans c_1_9) (by decide) (by decide) (by decide) (by decide) ?_
    refine Wp_aload_n dX9_count_123 rfl 0 rfl ?_
    refine Wp_get (x := (nI (hn))) fk_X9_66 sx_53 rfl hs1 dX9_count_124 ?_
    exact Wp_iret rfl ⟨rfl, rfl, _, rfl, ⟨Or.inl ⟨by omega, by omega, by unfold ctR; rw [if_neg (by omega), if_neg (by omega), if_neg (by omega), if_neg (by omega), if_neg (by omega), if_neg (by omega), if_neg (by omega), if_neg (by omega), if_neg (by omega), if_pos (by omega)]⟩, ml, fun _ _ => rfl⟩⟩ (Nat.le_refl _) (Nat.le_refl _) dX9_count_127
  refine Wp_tableOut (tgt := 128) dX9_count_1 (rfl) (by omega) (by decide) ?_
  refine Wp_iconst (v := ((-1))) dX9_count_128 (by decide) ?_
  exact Wp_iret rfl ⟨rfl, rfl, _, rfl, ⟨Or.inl ⟨by omega, by omega, by unfold ctR; rw [if_neg (by omega), if_neg (by omega), if_neg (by omega), if_neg (by omega), if_neg (by omega), if_neg (by omega), if_neg (by omega), if_neg (by omega), if_neg (by omega), if_neg (by omega)]⟩, ml, fun _ _ => rfl⟩⟩ (Nat.le_refl _) (Nat.le_refl _) dX9_count_129
