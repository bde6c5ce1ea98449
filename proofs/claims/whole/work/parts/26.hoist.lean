/-! THE CLASS: a hoist, its things, its meanings; unseen; the book -/
def hGet (pl : Nat) (ln : Nat → Nat) (lt : Nat → Nat → Nat) (row : Nat → Nat) (a e : Nat) : aH := (hRw pl ln lt row (e - a) a h0H).getD h0H
def hoR (k w : Int32) (g : aH) (md : Bool) (H : Nat) (st : Nat → Nat) : Int32 := if md = true ∧ cn k < H then (if w.toInt = 0 then nI (st (cn k)) else if w.toInt = 1 then nI (st (cn k + 1) - st (cn k)) else if w.toInt = 2 then nI g.2.1 else nI g.2.2.2.2.2) else -9
def thR (k i : Int32) (g : aH) (md : Bool) (H : Nat) : Int32 := if md = true ∧ cn k < H then (if i.toInt < g.2.1 then nI (g.1 (cn i)) else -9) else -9
def mnR (k : Int32) (P : Nat) (md : Bool) (H : Nat) : Int32 := if md = true ∧ cn k < H then nI P else -9
theorem c_X8_hoist {E : wE} {ad : Nat → Nat} {V : wV} {B n nb hn q : Nat} {tt ln col siz sk sv : Nat → Nat} {lt : Nat → Nat → Nat} {sg : aSig} {hi im : Nat → aSig} {kp : Nat → Bool} (cl : CL V B n tt nb ln lt col siz sg hn hi im kp q sk sv) (hB : B < 2 ^ 30) (k w : Int32) : w_C E mX8_hoist (w_R 5 0 0) 0 0 [.ref (ad (0)), .int (k), .int (w)] SX ad V (w_i SX ad (fun r V' => ((¬ (0 ≤ k.toInt ∧ 0 ≤ w.toInt ∧ w.toInt ≤ 3) ∧ r = -1) ∨ ((0 ≤ k.toInt ∧ 0 ≤ w.toInt ∧ w.toInt ≤ 3) ∧ ∃ md H st, CUTS (law sg.2.2.1 ln lt (del sg.1 8)) sg.2.1 md H st ∧ r = hoR k w (hGet sg.2.2.1 ln lt (del sg.1 8) (st (cn k)) (st (cn k + 1))) md H st)) ∧ CL V' B n tt nb ln lt col siz sg hn hi im kp q sk sv ∧ ∀ j, 53 ≤ j → V' j = V j)) := by
  refine w_C.of (by decide) (Nat.le_of_ble_eq_true rfl) ?_
  show Wp _ _ _ _ _ _ _ _ _ [(0, .ref (ad (0))), (1, .int (k)), (2, .int (w))] [] SX ad V
  obtain ⟨tx, ⟨bk, fg⟩, ⟨s0, ok0⟩, ⟨ol, hs, okh⟩, img, sn⟩ := id cl
  have hn120 := tx.2.1
  have hnb := bk.2.1
  have hn10 := hs.2.2.2.1
  have hq6 := sn.2.1
  have hl8 := ok0.1
  have ht9 := ok0.2.2.2.2.1
  have hu9 := ok0.2.2.2.1
  refine Wp_iload_n dX8_hoist_0 rfl 1 rfl ?_
  refine Wp_if_lt (tgt := 13) dX8_hoist_1 (by decide) (rfl) (fun c_1 => ?_) (fun c_1 => ?_)
  · refine Wp_iconst (v := ((-1))) dX8_hoist_13 (by decide) ?_
    exact Wp_iret rfl ⟨rfl, rfl, _, rfl, ⟨Or.inl ⟨by omega, rfl⟩, cl, fun _ _ => rfl⟩⟩ (Nat.le_refl _) (Nat.le_refl _) dX8_hoist_14
  · refine Wp_iload_n dX8_hoist_4 rfl 2 rfl ?_
    refine Wp_if_lt (tgt := 13) dX8_hoist_5 (by decide) (rfl) (fun c_5 => ?_) (fun c_5 => ?_)
    · refine Wp_iconst (v := ((-1))) dX8_hoist_13 (by decide) ?_
      exact Wp_iret rfl ⟨rfl, rfl, _, rfl, ⟨Or.inl ⟨by omega, rfl⟩, cl, fun _ _ => rfl⟩⟩ (Nat.le_refl _) (Nat.le_refl _) dX8_hoist_14
    · refine Wp_iload_n dX8_hoist_8 rfl 2 rfl ?_
      refine Wp_iconst (v := (nI (3))) dX8_hoist_9 (by decide) ?_
      refine Wp_icmp_le (tgt := 15) dX8_hoist_10 (by decide) (rfl) (nI_toInt (by omega)) (fun c_10 => ?_) (fun c_10 => ?_)
      · refine Wp_aload_n dX8_hoist_15 rfl 0 rfl ?_
        refine Wp_getr fk_X8_74 sx_0 rfl dX8_hoist_16 ?_
        refine Wp_aload_n dX8_hoist_19 rfl 0 rfl ?_
        refine Wp_getr fk_X8_35 sx_0 rfl dX8_hoist_20 ?_
        refine Wp_bipush (v := ((-9))) dX8_hoist_23 (by decide) ?_
        refine Wp_callVv (c_X1_make sx_45 sx_46 sx_50 sx_51 sx_52 sx_47 sx_48 sx_49 sx_8 sx_11 sx_12 sx_13 bk (by decide) (by decide) (by decide) (by decide) (by decide) (ms := sg.1) (len := sg.2.1) (pl := sg.2.2.1) (un := sg.2.2.2.1) (ti := sg.2.2.2.2) (go := 8) (n := sg.2.1) s0 ok0.1 ok0.2.2.1 ok0.2.2.2.2.2 (Or.inr ⟨ok0.1, rfl⟩) (x := -9) (hgo9 ok0.1)) YV_X1_make ml_X8_143 sx_45 rfl dX8_hoist_25 (by omega) (by decide) (by omega) (by omega) rfl rfl (Nat.le_of_ble_eq_true rfl) (fun V1 hV1 => ?_)
        obtain ⟨⟨md, H, st, k1⟩, fr1⟩ := hV1
        have hcu := k1.cuts
        have hH8 := k1.2.2.2.1
        have cl1 : CL V1 B n tt nb ln lt col siz sg hn hi im kp q sk sv := cl.of (fun j hj => fr1 j (by omega) (by omega) (by omega) (by omega) (by omega) (by omega) (by omega) (by omega))
        obtain ⟨tx1, ⟨bk1, fg1⟩, ⟨s1, -⟩, ⟨ol1, hs1, -⟩, img1, sn1⟩ := id cl1
        have frm1 : ∀ j, 53 ≤ j → V1 j = V j := fun j hj => fr1 j (by omega) (by omega) (by omega) (by omega) (by omega) (by omega) (by omega) (by omega)
        refine Wp_aload_n dX8_hoist_28 rfl 0 rfl ?_
        refine Wp_getr fk_X8_74 sx_0 rfl dX8_hoist_29 ?_
        refine Wp_iload_n dX8_hoist_32 rfl 1 rfl ?_
        refine Wp_callVg (c_X1_has sx_45 k1 _) YV_X1_has ml_X8_176 sx_45 rfl dX8_hoist_33 (by omega) (by decide) (by omega) (by omega) rfl rfl (Nat.le_of_ble_eq_true rfl) ?_
        refine Wp_ifne_b (tgt := 42) dX8_hoist_36 (by decide) (fun c_36 => ?_) (fun c_36 => ?_)
        · have q9 := Bool.and_eq_true_iff.mp c_36
          have hmd := q9.1
          have hkH := of_decide_eq_true q9.2
          have hk1 := cl_i (x := k) (by omega)
          refine Wp_aload_n dX8_hoist_42 rfl 0 rfl ?_
          refine Wp_getr fk_X8_74 sx_0 rfl dX8_hoist_43 ?_
          refine Wp_iload_n dX8_hoist_46 rfl 1 rfl ?_
          refine Wp_callVv (w_C_av (av2 := [.ref (ad 45), .int k]) (c_X1_show sx_45 sx_46 sx_50 sx_47 sx_48 sx_49 sx_8 sx_11 bk1 k1 (by decide) (K := cn k) hmd (by omega)) (by rw [w_cl (by omega)])) YV_X1_show ml_X8_177 sx_45 rfl dX8_hoist_47 (by omega) (by decide) (by omega) (by omega) rfl rfl (Nat.le_of_ble_eq_true rfl) (fun V2 hV2 => ?_)
          obtain ⟨⟨g, hg, rp⟩, fr2⟩ := hV2
          have hgk : (hGet sg.2.2.1 ln lt (del sg.1 8) (st (cn k)) (st (cn k + 1))) = g := by unfold hGet; rw [hg]; rfl
          have cl2 : CL V2 B n tt nb ln lt col siz sg hn hi im kp q sk sv := cl1.of (fun j hj => fr2 j (by omega) (by omega) (by omega))
          have frm2 : ∀ j, 53 ≤ j → V2 j = V j := fun j hj => by rw [fr2 j (by omega) (by omega) (by omega), frm1 j hj]
          have k2 := k1.of (fr2 45 (by decide) (by decide) (by decide)) (fr2 46 (by decide) (by decide) (by decide)) (fr2 50 (by decide) (by decide) (by decide))
          have hst := k2.2.2.2.2.1 hmd
          have hdp := DPS_lt (hcu.2.1 hmd) (show cn k < H by omega)
          have hg7 := rp.2.2.2.2.2.2.1
          have hg8 := rp.2.2.2.2.2.1
          refine Wp_iload_n dX8_hoist_50 rfl 2 rfl ?_
          by_cases c_51_0 : ((w)).toInt = 0
          · refine Wp_tableIn (tgt := 76) (off := 25) dX8_hoist_51 (a := 0) ((rfl).trans c_51_0) (by decide) (by decide) (by decide) (by decide) ?_
            refine Wp_aload_n dX8_hoist_76 rfl 0 rfl ?_
            refine Wp_getr fk_X8_74 sx_0 rfl dX8_hoist_77 ?_
            refine Wp_getr fk_X8_180 sx_45 rfl dX8_hoist_80 ?_
            refine Wp_iload_n dX8_hoist_83 rfl 1 rfl ?_
            refine Wp_ild (n := (cn k)) (y := (nI (st (cn k)))) sx_46 (w_cl (by omega)).symm (by omega) (by decide) (hst (cn k) (by omega)).1 dX8_hoist_84 ?_
            exact Wp_iret rfl ⟨rfl, rfl, _, rfl, ⟨Or.inr ⟨by omega, md, H, st, hcu, by unfold hoR; rw [if_pos ⟨hmd, by omega⟩, hgk, if_pos (by omega)]⟩, cl2, frm2⟩⟩ (Nat.le_refl _) (Nat.le_refl _) dX8_hoist_85
          by_cases c_51_1 : ((w)).toInt = 1
          · refine Wp_tableIn (tgt := 86) (off := 35) dX8_hoist_51 (a := 1) ((rfl).trans c_51_1) (by decide) (by decide) (by decide) (by decide) ?_
            refine Wp_aload_n dX8_hoist_86 rfl 0 rfl ?_
            refine Wp_getr fk_X8_74 sx_0 rfl dX8_hoist_87 ?_
            refine Wp_getr fk_X8_180 sx_45 rfl dX8_hoist_90 ?_
            refine Wp_iload_n dX8_hoist_93 rfl 1 rfl ?_
            refine Wp_iconst (v := (nI (1))) dX8_hoist_94 (by decide) ?_
            refine Wp_iadd (z := (((k) + (nI (1))))) dX8_hoist_95 rfl ?_
            refine Wp_ild (n := (cn k + 1)) (y := (nI (st (cn k + 1)))) sx_46 (by rw [← nI_add, w_cl (by omega)]) (by omega) (by decide) (hst (cn k + 1) (by omega)).1 dX8_hoist_96 ?_
            refine Wp_aload_n dX8_hoist_97 rfl 0 rfl ?_
            refine Wp_getr fk_X8_74 sx_0 rfl dX8_hoist_98 ?_
            refine Wp_getr fk_X8_180 sx_45 rfl dX8_hoist_101 ?_
            refine Wp_iload_n dX8_hoist_104 rfl 1 rfl ?_
            refine Wp_ild (n := (cn k)) (y := (nI (st (cn k)))) sx_46 (w_cl (by omega)).symm (by omega) (by decide) (hst (cn k) (by omega)).1 dX8_hoist_105 ?_
            refine Wp_isub (z := (nI ((st (cn k + 1) - st (cn k))))) dX8_hoist_106 (pk_sub (by omega)) ?_
            exact Wp_iret rfl ⟨rfl, rfl, _, rfl, ⟨Or.inr ⟨by omega, md, H, st, hcu, by unfold hoR; rw [if_pos ⟨hmd, by omega⟩, hgk, if_neg (by omega), if_pos (by omega)]⟩, cl2, frm2⟩⟩ (Nat.le_refl _) (Nat.le_refl _) dX8_hoist_107
          by_cases c_51_2 : ((w)).toInt = 2
          · refine Wp_tableIn (tgt := 108) (off := 57) dX8_hoist_51 (a := 2) ((rfl).trans c_51_2) (by decide) (by decide) (by decide) (by decide) ?_
            refine Wp_aload_n dX8_hoist_108 rfl 0 rfl ?_
            refine Wp_getr fk_X8_74 sx_0 rfl dX8_hoist_109 ?_
            refine Wp_getr fk_X8_183 sx_45 rfl dX8_hoist_112 ?_
            refine Wp_get (x := (nI (g.2.1))) fk_X8_187 sx_47 rfl rp.1 dX8_hoist_115 ?_
            exact Wp_iret rfl ⟨rfl, rfl, _, rfl, ⟨Or.inr ⟨by omega, md, H, st, hcu, by unfold hoR; rw [if_pos ⟨hmd, by omega⟩, hgk, if_neg (by omega), if_neg (by omega), if_pos (by omega)]⟩, cl2, frm2⟩⟩ (Nat.le_refl _) (Nat.le_refl _) dX8_hoist_118
          refine Wp_tableOut (tgt := 119) dX8_hoist_51 (rfl) (by omega) (by decide) ?_
          refine Wp_aload_n dX8_hoist_119 rfl 0 rfl ?_
          refine Wp_getr fk_X8_74 sx_0 rfl dX8_hoist_120 ?_
          refine Wp_getr fk_X8_183 sx_45 rfl dX8_hoist_123 ?_
          refine Wp_get (x := (nI (g.2.2.2.2.2))) fk_X8_190 sx_47 rfl rp.2.1 dX8_hoist_126 ?_
          exact Wp_iret rfl ⟨rfl, rfl, _, rfl, ⟨Or.inr ⟨by omega, md, H, st, hcu, by unfold hoR; rw [if_pos ⟨hmd, by omega⟩, hgk, if_neg (by omega), if_neg (by omega), if_neg (by omega)]⟩, cl2, frm2⟩⟩ (Nat.le_refl _) (Nat.le_refl _) dX8_hoist_129
        · have hk1 := cl_i (x := k) (by omega)
          have hnk : ¬ (md = true ∧ cn k < H) := fun w => by rw [w.1, decide_eq_true (by omega)] at c_36; cases c_36
          refine Wp_bipush (v := ((-9))) dX8_hoist_39 (by decide) ?_
          exact Wp_iret rfl ⟨rfl, rfl, _, rfl, ⟨Or.inr ⟨by omega, md, H, st, hcu, by unfold hoR; rw [if_neg hnk]⟩, cl1, frm1⟩⟩ (Nat.le_refl _) (Nat.le_refl _) dX8_hoist_41
      · refine Wp_iconst (v := ((-1))) dX8_hoist_13 (by decide) ?_
        exact Wp_iret rfl ⟨rfl, rfl, _, rfl, ⟨Or.inl ⟨by omega, rfl⟩, cl, fun _ _ => rfl⟩⟩ (Nat.le_refl _) (Nat.le_refl _) dX8_hoist_14
theorem c_X8_thing {E : wE} {ad : Nat → Nat} {V : wV} {B n nb hn q : Nat} {tt ln col siz sk sv : Nat → Nat} {lt : Nat → Nat → Nat} {sg : aSig} {hi im : Nat → aSig} {kp : Nat → Bool} (cl : CL V B n tt nb ln lt col siz sg hn hi im kp q sk sv) (hB : B < 2 ^ 30) (k i : Int32) : w_C E mX8_thing (w_R 5 0 0) 0 0 [.ref (ad (0)), .int (k), .int (i)] SX ad V (w_i SX ad (fun r V' => ((¬ (0 ≤ k.toInt ∧ 0 ≤ i.toInt) ∧ r = -1) ∨ ((0 ≤ k.toInt ∧ 0 ≤ i.toInt) ∧ ∃ md H st, CUTS (law sg.2.2.1 ln lt (del sg.1 8)) sg.2.1 md H st ∧ r = thR k i (hGet sg.2.2.1 ln lt (del sg.1 8) (st (cn k)) (st (cn k + 1))) md H)) ∧ CL V' B n tt nb ln lt col siz sg hn hi im kp q sk sv ∧ ∀ j, 53 ≤ j → V' j = V j)) := by
  refine w_C.of (by decide) (Nat.le_of_ble_eq_true rfl) ?_
  show Wp _ _ _ _ _ _ _ _ _ [(0, .ref (ad (0))), (1, .int (k)), (2, .int (i))] [] SX ad V
  obtain ⟨tx, ⟨bk, fg⟩, ⟨s0, ok0⟩, ⟨ol, hs, okh⟩, img, sn⟩ := id cl
  have hn120 := tx.2.1
  have hnb := bk.2.1
  have hn10 := hs.2.2.2.1
  have hq6 := sn.2.1
  have hl8 := ok0.1
  have ht9 := ok0.2.2.2.2.1
  have hu9 := ok0.2.2.2.1
  refine Wp_iload_n dX8_thing_0 rfl 1 rfl ?_
  refine Wp_if_lt (tgt := 8) dX8_thing_1 (by decide) (rfl) (fun c_1 => ?_) (fun c_1 => ?_)
  · refine Wp_iconst (v := ((-1))) dX8_thing_8 (by decide) ?_
    exact Wp_iret rfl ⟨rfl, rfl, _, rfl, ⟨Or.inl ⟨by omega, rfl⟩, cl, fun _ _ => rfl⟩⟩ (Nat.le_refl _) (Nat.le_refl _) dX8_thing_9
  · refine Wp_iload_n dX8_thing_4 rfl 2 rfl ?_
    refine Wp_if_ge (tgt := 10) dX8_thing_5 (by decide) (rfl) (fun c_5 => ?_) (fun c_5 => ?_)
    · refine Wp_aload_n dX8_thing_10 rfl 0 rfl ?_
      refine Wp_getr fk_X8_74 sx_0 rfl dX8_thing_11 ?_
      refine Wp_aload_n dX8_thing_14 rfl 0 rfl ?_
      refine Wp_getr fk_X8_35 sx_0 rfl dX8_thing_15 ?_
      refine Wp_bipush (v := ((-9))) dX8_thing_18 (by decide) ?_
      refine Wp_callVv (c_X1_make sx_45 sx_46 sx_50 sx_51 sx_52 sx_47 sx_48 sx_49 sx_8 sx_11 sx_12 sx_13 bk (by decide) (by decide) (by decide) (by decide) (by decide) (ms := sg.1) (len := sg.2.1) (pl := sg.2.2.1) (un := sg.2.2.2.1) (ti := sg.2.2.2.2) (go := 8) (n := sg.2.1) s0 ok0.1 ok0.2.2.1 ok0.2.2.2.2.2 (Or.inr ⟨ok0.1, rfl⟩) (x := -9) (hgo9 ok0.1)) YV_X1_make ml_X8_143 sx_45 rfl dX8_thing_20 (by omega) (by decide) (by omega) (by omega) rfl rfl (Nat.le_of_ble_eq_true rfl) (fun V1 hV1 => ?_)
      obtain ⟨⟨md, H, st, k1⟩, fr1⟩ := hV1
      have hcu := k1.cuts
      have hH8 := k1.2.2.2.1
      have cl1 : CL V1 B n tt nb ln lt col siz sg hn hi im kp q sk sv := cl.of (fun j hj => fr1 j (by omega) (by omega) (by omega) (by omega) (by omega) (by omega) (by omega) (by omega))
      obtain ⟨tx1, ⟨bk1, fg1⟩, ⟨s1, -⟩, ⟨ol1, hs1, -⟩, img1, sn1⟩ := id cl1
      have frm1 : ∀ j, 53 ≤ j → V1 j = V j := fun j hj => fr1 j (by omega) (by omega) (by omega) (by omega) (by omega) (by omega) (by omega) (by omega)
      refine Wp_aload_n dX8_thing_23 rfl 0 rfl ?_
      refine Wp_getr fk_X8_74 sx_0 rfl dX8_thing_24 ?_
      refine Wp_iload_n dX8_thing_27 rfl 1 rfl ?_
      refine Wp_callVg (c_X1_has sx_45 k1 _) YV_X1_has ml_X8_176 sx_45 rfl dX8_thing_28 (by omega) (by decide) (by omega) (by omega) rfl rfl (Nat.le_of_ble_eq_true rfl) ?_
      refine Wp_ifne_b (tgt := 37) dX8_thing_31 (by decide) (fun c_31 => ?_) (fun c_31 => ?_)
      · have q9 := Bool.and_eq_true_iff.mp c_31
        have hmd := q9.1
        have hkH := of_decide_eq_true q9.2
        have hk1 := cl_i (x := k) (by omega)
        refine Wp_aload_n dX8_thing_37 rfl 0 rfl ?_
        refine Wp_getr fk_X8_74 sx_0 rfl dX8_thing_38 ?_
        refine Wp_iload_n dX8_thing_41 rfl 1 rfl ?_
        refine Wp_callVv (w_C_av (av2 := [.ref (ad 45), .int k]) (c_X1_show sx_45 sx_46 sx_50 sx_47 sx_48 sx_49 sx_8 sx_11 bk1 k1 (by decide) (K := cn k) hmd (by omega)) (by rw [w_cl (by omega)])) YV_X1_show ml_X8_177 sx_45 rfl dX8_thing_42 (by omega) (by decide) (by omega) (by omega) rfl rfl (Nat.le_of_ble_eq_true rfl) (fun V2 hV2 => ?_)
        obtain ⟨⟨g, hg, rp⟩, fr2⟩ := hV2
        have hgk : (hGet sg.2.2.1 ln lt (del sg.1 8) (st (cn k)) (st (cn k + 1))) = g := by unfold hGet; rw [hg]; rfl
        have cl2 : CL V2 B n tt nb ln lt col siz sg hn hi im kp q sk sv := cl1.of (fun j hj => fr2 j (by omega) (by omega) (by omega))
        have frm2 : ∀ j, 53 ≤ j → V2 j = V j := fun j hj => by rw [fr2 j (by omega) (by omega) (by omega), frm1 j hj]
        have k2 := k1.of (fr2 45 (by decide) (by decide) (by decide)) (fr2 46 (by decide) (by decide) (by decide)) (fr2 50 (by decide) (by decide) (by decide))
        have hst := k2.2.2.2.2.1 hmd
        have hdp := DPS_lt (hcu.2.1 hmd) (show cn k < H by omega)
        have hg7 := rp.2.2.2.2.2.2.1
        have hg8 := rp.2.2.2.2.2.1
        refine Wp_iload_n dX8_thing_45 rfl 2 rfl ?_
        refine Wp_aload_n dX8_thing_46 rfl 0 rfl ?_
        refine Wp_getr fk_X8_74 sx_0 rfl dX8_thing_47 ?_
        refine Wp_getr fk_X8_183 sx_45 rfl dX8_thing_50 ?_
        refine Wp_get (x := (nI (g.2.1))) fk_X8_187 sx_47 rfl rp.1 dX8_thing_53 ?_
        refine Wp_icmp_ge (tgt := 74) dX8_thing_56 (by decide) (rfl) (nI_toInt (by omega)) (fun c_56 => ?_) (fun c_56 => ?_)
        · refine Wp_bipush (v := ((-9))) dX8_thing_74 (by decide) ?_
          exact Wp_iret rfl ⟨rfl, rfl, _, rfl, ⟨Or.inr ⟨by omega, md, H, st, hcu, by unfold thR; rw [if_pos ⟨hmd, by omega⟩, hgk, if_neg (by omega)]⟩, cl2, frm2⟩⟩ (Nat.le_refl _) (Nat.le_refl _) dX8_thing_76
        · have hi1 := cl_i (x := i) (by omega)
          refine Wp_aload_n dX8_thing_59 rfl 0 rfl ?_
          refine Wp_getr fk_X8_74 sx_0 rfl dX8_thing_60 ?_
          refine Wp_getr fk_X8_183 sx_45 rfl dX8_thing_63 ?_
          refine Wp_getr fk_X8_193 sx_47 rfl dX8_thing_66 ?_
          refine Wp_iload_n dX8_thing_69 rfl 2 rfl ?_
          refine Wp_ild (n := (cn i)) (y := (nI (g.1 (cn i)))) sx_48 (w_cl (by omega)).symm (by omega) (by decide) (rp.2.2.2.2.2.2.2.2.1 (cn i) (by omega)) dX8_thing_70 ?_
          refine Wp_goto (tgt := 76) dX8_thing_71 (by decide) ?_
          exact Wp_iret rfl ⟨rfl, rfl, _, rfl, ⟨Or.inr ⟨by omega, md, H, st, hcu, by unfold thR; rw [if_pos ⟨hmd, by omega⟩, hgk, if_pos (by omega)]⟩, cl2, frm2⟩⟩ (Nat.le_refl _) (Nat.le_refl _) dX8_thing_76
      · have hk1 := cl_i (x := k) (by omega)
        have hnk : ¬ (md = true ∧ cn k < H) := fun w => by rw [w.1, decide_eq_true (by omega)] at c_31; cases c_31
        refine Wp_bipush (v := ((-9))) dX8_thing_34 (by decide) ?_
        exact Wp_iret rfl ⟨rfl, rfl, _, rfl, ⟨Or.inr ⟨by omega, md, H, st, hcu, by unfold thR; rw [if_neg hnk]⟩, cl1, frm1⟩⟩ (Nat.le_refl _) (Nat.le_refl _) dX8_thing_36
    · refine Wp_iconst (v := ((-1))) dX8_thing_8 (by decide) ?_
      exact Wp_iret rfl ⟨rfl, rfl, _, rfl, ⟨Or.inl ⟨by omega, rfl⟩, cl, fun _ _ => rfl⟩⟩ (Nat.le_refl _) (Nat.le_refl _) dX8_thing_9
theorem c_X8_meanings {E : wE} {ad : Nat → Nat} {V : wV} {B n nb hn q : Nat} {tt ln col siz sk sv : Nat → Nat} {lt : Nat → Nat → Nat} {sg : aSig} {hi im : Nat → aSig} {kp : Nat → Bool} (cl : CL V B n tt nb ln lt col siz sg hn hi im kp q sk sv) (hB : B < 2 ^ 30) (k e : Int32) : w_C E mX8_meanings (w_R 5 0 0) 0 0 [.ref (ad (0)), .int (k), .int (e)] SX ad V (w_i SX ad (fun r V' => ((¬ (0 ≤ k.toInt ∧ 1 ≤ e.toInt ∧ e.toInt ≤ 9) ∧ r = -1) ∨ ((0 ≤ k.toInt ∧ 1 ≤ e.toInt ∧ e.toInt ≤ 9) ∧ ∃ md H st, CUTS (law sg.2.2.1 ln lt (del sg.1 8)) sg.2.1 md H st ∧ r = mnR k (prd (fun i => lkd (tld col siz ln lt (cn e) ((del sg.1 8) i)) nb) (st (cn k)) (st (cn k + 1) - st (cn k))) md H)) ∧ CL V' B n tt nb ln lt col siz sg hn hi im kp q sk sv ∧ ∀ j, 53 ≤ j → V' j = V j)) := by
  refine w_C.of (by decide) (Nat.le_of_ble_eq_true rfl) ?_
  show Wp _ _ _ _ _ _ _ _ _ [(0, .ref (ad (0))), (1, .int (k)), (2, .int (e))] [] SX ad V
  obtain ⟨tx, ⟨bk, fg⟩, ⟨s0, ok0⟩, ⟨ol, hs, okh⟩, img, sn⟩ := id cl
  have hn120 := tx.2.1
  have hnb := bk.2.1
  have hn10 := hs.2.2.2.1
  have hq6 := sn.2.1
  have hl8 := ok0.1
  have ht9 := ok0.2.2.2.2.1
  have hu9 := ok0.2.2.2.1
  refine Wp_iload_n dX8_meanings_0 rfl 1 rfl ?_
  refine Wp_if_lt (tgt := 11) dX8_meanings_1 (by decide) (rfl) (fun c_1 => ?_) (fun c_1 => ?_)
  · refine Wp_iconst (v := ((-1))) dX8_meanings_11 (by decide) ?_
    exact Wp_iret rfl ⟨rfl, rfl, _, rfl, ⟨Or.inl ⟨by omega, rfl⟩, cl, fun _ _ => rfl⟩⟩ (Nat.le_refl _) (Nat.le_refl _) dX8_meanings_12
  · refine Wp_iload_n dX8_meanings_4 rfl 2 rfl ?_
    refine Wp_callSg (c_X8_isDistance _) YS_X8_isDistance ml_X8_196 dX8_meanings_5 (by omega) (by decide) (by omega) (by omega) rfl rfl (Nat.le_of_ble_eq_true rfl) ?_
    refine Wp_ifne_b (tgt := 13) dX8_meanings_8 (by decide) (fun c_8 => ?_) (fun c_8 => ?_)
    · have q8 := of_decide_eq_true c_8
      have he1 := cl_i (x := e) (by omega)
      refine Wp_aload_n dX8_meanings_13 rfl 0 rfl ?_
      refine Wp_getr fk_X8_74 sx_0 rfl dX8_meanings_14 ?_
      refine Wp_aload_n dX8_meanings_17 rfl 0 rfl ?_
      refine Wp_getr fk_X8_35 sx_0 rfl dX8_meanings_18 ?_
      refine Wp_bipush (v := ((-9))) dX8_meanings_21 (by decide) ?_
      refine Wp_callVv (c_X1_make sx_45 sx_46 sx_50 sx_51 sx_52 sx_47 sx_48 sx_49 sx_8 sx_11 sx_12 sx_13 bk (by decide) (by decide) (by decide) (by decide) (by decide) (ms := sg.1) (len := sg.2.1) (pl := sg.2.2.1) (un := sg.2.2.2.1) (ti := sg.2.2.2.2) (go := 8) (n := sg.2.1) s0 ok0.1 ok0.2.2.1 ok0.2.2.2.2.2 (Or.inr ⟨ok0.1, rfl⟩) (x := -9) (hgo9 ok0.1)) YV_X1_make ml_X8_143 sx_45 rfl dX8_meanings_23 (by omega) (by decide) (by omega) (by omega) rfl rfl (Nat.le_of_ble_eq_true rfl) (fun V1 hV1 => ?_)
      obtain ⟨⟨md, H, st, k1⟩, fr1⟩ := hV1
      have hcu := k1.cuts
      have hH8 := k1.2.2.2.1
      have cl1 : CL V1 B n tt nb ln lt col siz sg hn hi im kp q sk sv := cl.of (fun j hj => fr1 j (by omega) (by omega) (by omega) (by omega) (by omega) (by omega) (by omega) (by omega))
      obtain ⟨tx1, ⟨bk1, fg1⟩, ⟨s1, -⟩, ⟨ol1, hs1, -⟩, img1, sn1⟩ := id cl1
      have frm1 : ∀ j, 53 ≤ j → V1 j = V j := fun j hj => fr1 j (by omega) (by omega) (by omega) (by omega) (by omega) (by omega) (by omega) (by omega)
      refine Wp_aload_n dX8_meanings_26 rfl 0 rfl ?_
      refine Wp_getr fk_X8_74 sx_0 rfl dX8_meanings_27 ?_
      refine Wp_iload_n dX8_meanings_30 rfl 1 rfl ?_
      refine Wp_callVg (c_X1_has sx_45 k1 _) YV_X1_has ml_X8_176 sx_45 rfl dX8_meanings_31 (by omega) (by decide) (by omega) (by omega) rfl rfl (Nat.le_of_ble_eq_true rfl) ?_
      refine Wp_ifeq_b (tgt := 49) dX8_meanings_34 (by decide) (fun c_34 => ?_) (fun c_34 => ?_)
      · have hk1 := cl_i (x := k) (by omega)
        have hnk : ¬ (md = true ∧ cn k < H) := fun w => by rw [w.1, decide_eq_true (by omega)] at c_34; cases c_34
        refine Wp_bipush (v := ((-9))) dX8_meanings_49 (by decide) ?_
        exact Wp_iret rfl ⟨rfl, rfl, _, rfl, ⟨Or.inr ⟨by omega, md, H, st, hcu, by unfold mnR; rw [if_neg hnk]⟩, cl1, frm1⟩⟩ (Nat.le_refl _) (Nat.le_refl _) dX8_meanings_51
      · have q9 := Bool.and_eq_true_iff.mp c_34
        have hmd := q9.1
        have hkH := of_decide_eq_true q9.2
        have hk1 := cl_i (x := k) (by omega)
        refine Wp_aload_n dX8_meanings_37 rfl 0 rfl ?_
        refine Wp_getr fk_X8_74 sx_0 rfl dX8_meanings_38 ?_
        refine Wp_iload_n dX8_meanings_41 rfl 1 rfl ?_
        refine Wp_iload_n dX8_meanings_42 rfl 2 rfl ?_
        refine Wp_callVg (w_C_av (av2 := [.ref (ad 45), .int k, .int e]) (c_X1_waysToRead sx_45 sx_46 sx_50 sx_8 sx_9 sx_10 sx_11 bk1 k1 fg1 (K := cn k) hmd (by omega) (e := cn e) (by omega)) (by rw [w_cl (by omega), w_cl (by omega)])) YV_X1_waysToRead ml_X8_203 sx_45 rfl dX8_meanings_43 (by omega) (by decide) (by omega) (by omega) rfl rfl (Nat.le_of_ble_eq_true rfl) ?_
        refine Wp_goto (tgt := 51) dX8_meanings_46 (by decide) ?_
        exact Wp_iret rfl ⟨rfl, rfl, _, rfl, ⟨Or.inr ⟨by omega, md, H, st, hcu, by unfold mnR; rw [if_pos ⟨hmd, by omega⟩]⟩, cl1, frm1⟩⟩ (Nat.le_refl _) (Nat.le_refl _) dX8_meanings_51
    · have q8 := of_decide_eq_false c_8
      refine Wp_iconst (v := ((-1))) dX8_meanings_11 (by decide) ?_
      exact Wp_iret rfl ⟨rfl, rfl, _, rfl, ⟨Or.inl ⟨by omega, rfl⟩, cl, fun _ _ => rfl⟩⟩ (Nat.le_refl _) (Nat.le_refl _) dX8_meanings_12
def unF (ub : Nat → Bool) : Nat → Int32
  | 0 => 0
  | p + 1 => if ub p = true then unF ub p ||| (nI 1 <<< (nI p &&& 31)) else unF ub p
theorem unF_congr {f g : Nat → Bool} {t : Nat} (h : ∀ p, p < t → f p = g p) : unF f t = unF g t := by
  induction t with
  | zero => rfl
  | succ t ih => simp only [unF]; rw [ih (fun p hp => h p (by omega)), h t (by omega)]
def UNB (sg : aSig) (ln : Nat → Nat) (lt : Nat → Nat → Nat) (q : Nat) (sk sv : Nat → Nat) (p : Nat) (b : Bool) : Prop := ∃ md H st, CUTS (law sg.2.2.1 ln lt (del sg.1 p)) (sg.2.1 - 1) md H st ∧ b = (md && decide (∀ i, i < q → thg sg.2.2.1 ln lt (del sg.1 p) md H st (sk i) = sv i))
theorem lp_X8_unseen {E : wE} {ad : Nat → Nat} {V : wV} {B n nb hn q : Nat} {tt ln col siz sk sv : Nat → Nat} {lt : Nat → Nat → Nat} {sg : aSig} {hi im : Nat → aSig} {kp : Nat → Bool} (cl : CL V B n tt nb ln lt col siz sg hn hi im kp q sk sv) (hB : B < 2 ^ 30)  : ∀ (m : Nat) (p : Nat) (ub : Nat → Bool) (VA : wV), p ≤ sg.2.1 → sg.2.1 < p + m → (∀ z, z < p → UNB sg ln lt q sk sv z (ub z)) → CL VA B n tt nb ln lt col siz sg hn hi im kp q sk sv → (∀ j, 53 ≤ j → VA j = V j) → Wp E mX8_unseen (w_R 6 0 0) (w_i SX ad (fun r V' => (∃ ub, (∀ p, p < sg.2.1 → UNB sg ln lt q sk sv p (ub p)) ∧ r = unF ub sg.2.1) ∧ CL V' B n tt nb ln lt col siz sg hn hi im kp q sk sv ∧ ∀ j, 53 ≤ j → V' j = V j)) 0 0 0 0 4 [(2, .int (nI (p))), (1, .int (unF ub p)), (0, .ref (ad (0)))] [] SX ad VA := by
  intro m
  induction m with
  | zero => intro p ub VA hp hm hub clA frA; omega
  | succ m ih =>
    intro p ub VA hp hm hub clA frA
    obtain ⟨txA, ⟨bkA, fgA⟩, ⟨sA, okA⟩, ⟨olA, hsA, okhA⟩, imgA, snA⟩ := id clA
    have hl8 := okA.1
    refine Wp_iload_n dX8_unseen_4 rfl 0 rfl ?_
    refine Wp_aload_n dX8_unseen_5 rfl 2 rfl ?_
    refine Wp_getr fk_X8_35 sx_0 rfl dX8_unseen_6 ?_
    refine Wp_get (x := (nI (sg.2.1))) fk_X8_124 sx_12 rfl sA.1 dX8_unseen_9 ?_
    refine Wp_icmp_ge (tgt := 63) dX8_unseen_12 (by decide) (nI_toInt (by omega)) (nI_toInt (by omega)) (fun c_12 => ?_) (fun c_12 => ?_)
    · refine Wp_iload_n dX8_unseen_63 rfl 1 rfl ?_
      exact Wp_iret rfl ⟨rfl, rfl, _, rfl, ⟨⟨ub, fun z hz => hub z (by omega), by rw [show p = sg.2.1 by omega]⟩, clA, frA⟩⟩ (Nat.le_refl _) (Nat.le_refl _) dX8_unseen_64
    · refine Wp_aload_n dX8_unseen_15 rfl 2 rfl ?_
      refine Wp_getr fk_X8_74 sx_0 rfl dX8_unseen_16 ?_
      refine Wp_aload_n dX8_unseen_19 rfl 2 rfl ?_
      refine Wp_getr fk_X8_35 sx_0 rfl dX8_unseen_20 ?_
      refine Wp_iload_n dX8_unseen_23 rfl 0 rfl ?_
      refine Wp_callVv (c_X1_make sx_45 sx_46 sx_50 sx_51 sx_52 sx_47 sx_48 sx_49 sx_8 sx_11 sx_12 sx_13 bkA (by decide) (by decide) (by decide) (by decide) (by decide) (ms := sg.1) (len := sg.2.1) (pl := sg.2.2.1) (un := sg.2.2.2.1) (ti := sg.2.2.2.2) (go := p) (n := sg.2.1 - 1) sA okA.1 okA.2.2.1 okA.2.2.2.2.2 (Or.inl ⟨by omega, by omega⟩) (x := nI p) (hgoN (by omega))) YV_X1_make ml_X8_143 sx_45 rfl dX8_unseen_24 (by omega) (by decide) (by omega) (by omega) rfl rfl (Nat.le_of_ble_eq_true rfl) (fun V1 hV1 => ?_)
      obtain ⟨⟨md, H, st, k1⟩, fr1⟩ := hV1
      have hcu := k1.cuts
      have hH8 := k1.2.2.2.1
      have cl1 : CL V1 B n tt nb ln lt col siz sg hn hi im kp q sk sv := clA.of (fun j hj => fr1 j (by omega) (by omega) (by omega) (by omega) (by omega) (by omega) (by omega) (by omega))
      obtain ⟨tx1, ⟨bk1, fg1⟩, ⟨s1, -⟩, ⟨ol1, hs1, -⟩, img1, sn1⟩ := id cl1
      have frm1 : ∀ j, 53 ≤ j → V1 j = VA j := fun j hj => fr1 j (by omega) (by omega) (by omega) (by omega) (by omega) (by omega) (by omega) (by omega)
      refine Wp_aload_n dX8_unseen_27 rfl 2 rfl ?_
      refine Wp_getr fk_X8_74 sx_0 rfl dX8_unseen_28 ?_
      refine Wp_get (x := (bI (md))) fk_X8_151 sx_45 rfl k1.1 dX8_unseen_31 ?_
      refine Wp_ifeq_b (tgt := 57) dX8_unseen_34 (by decide) (fun c_34 => ?_) (fun c_34 => ?_)
      · refine Wp_iinc (x := (nI ((p + 1)))) (lv' := [(2, .int (nI ((p + 1)))), (1, .int (unF ub p)), (0, .ref (ad (0)))]) dX8_unseen_57 0 rfl (w_inc1 _) (by decide) rfl ?_
        refine Wp_goto (tgt := 4) dX8_unseen_60 (by decide) ?_
        refine Wp_lv (lv2 := [(2, .int (nI (p + 1))), (1, .int (unF ub p)), (0, .ref (ad 0))]) [0, 1, 2] rfl ?_
        have hunb : UNB sg ln lt q sk sv p false := ⟨md, H, st, hcu, by rw [c_34]; rfl⟩
        have hag : ∀ z, z < p → va_up ub p false z = ub z := fun z hz => by simp only [va_up, if_neg (show ¬ z = p by omega)]
        rw [show (unF ub p) = unF (va_up ub p false) (p + 1) by simp only [unF]; rw [unF_congr hag]; simp [va_up]]
        exact ih (p + 1) (va_up ub p false) V1 (by omega) (by omega) (fun z hz => by
          by_cases e : z = p
          · subst e; simp only [va_up, if_true]; exact hunb
          · rw [hag z (by omega)]; exact hub z (by omega)) cl1 (fun j hj => by rw [frm1 j hj, frA j hj])
      · refine Wp_aload_n dX8_unseen_37 rfl 2 rfl ?_
        refine Wp_getr fk_X8_65 sx_0 rfl dX8_unseen_38 ?_
        refine Wp_aload_n dX8_unseen_41 rfl 2 rfl ?_
        refine Wp_getr fk_X8_74 sx_0 rfl dX8_unseen_42 ?_
        refine Wp_callVi (c_X5_allFit sx_42 sx_43 sx_44 sx_45 sx_46 sx_50 sx_47 sx_48 sx_49 sx_8 sx_11 bk1 k1 (by decide) sn1) YV_X5_allFit ml_X8_209 sx_42 rfl dX8_unseen_45 (by omega) (by decide) (by omega) (by omega) rfl rfl (Nat.le_of_ble_eq_true rfl) (fun r2 V2 hr2 => ?_)
        obtain ⟨e2, hf2⟩ := hr2
        subst e2
        have cl2 : CL V2 B n tt nb ln lt col siz sg hn hi im kp q sk sv := cl1.of (fun j hj => hf2 j (by omega) (by omega) (by omega))
        refine Wp_ifeq_b (tgt := 57) dX8_unseen_48 (by decide) (fun c_48 => ?_) (fun c_48 => ?_)
        · refine Wp_iinc (x := (nI ((p + 1)))) (lv' := [(2, .int (nI ((p + 1)))), (1, .int (unF ub p)), (0, .ref (ad (0)))]) dX8_unseen_57 0 rfl (w_inc1 _) (by decide) rfl ?_
          refine Wp_goto (tgt := 4) dX8_unseen_60 (by decide) ?_
          refine Wp_lv (lv2 := [(2, .int (nI (p + 1))), (1, .int (unF ub p)), (0, .ref (ad 0))]) [0, 1, 2] rfl ?_
          have hunb : UNB sg ln lt q sk sv p false := ⟨md, H, st, hcu, by rw [c_48, c_34]; rfl⟩
          have hag : ∀ z, z < p → va_up ub p false z = ub z := fun z hz => by simp only [va_up, if_neg (show ¬ z = p by omega)]
          rw [show (unF ub p) = unF (va_up ub p false) (p + 1) by simp only [unF]; rw [unF_congr hag]; simp [va_up]]
          exact ih (p + 1) (va_up ub p false) V2 (by omega) (by omega) (fun z hz => by
            by_cases e : z = p
            · subst e; simp only [va_up, if_true]; exact hunb
            · rw [hag z (by omega)]; exact hub z (by omega)) cl2 (fun j hj => by rw [hf2 j (by omega) (by omega) (by omega), frm1 j hj, frA j hj])
        · refine Wp_iload_n dX8_unseen_51 rfl 1 rfl ?_
          refine Wp_iconst (v := (nI (1))) dX8_unseen_52 (by decide) ?_
          refine Wp_iload_n dX8_unseen_53 rfl 0 rfl ?_
          refine Wp_ishl (z := (nI 1 <<< (nI p &&& 31))) dX8_unseen_54 rfl ?_
          refine Wp_ior (z := (((unF ub p) ||| (nI 1 <<< (nI p &&& 31))))) dX8_unseen_55 rfl ?_
          refine Wp_istore_n (lv' := [(1, .int (((unF ub p) ||| (nI 1 <<< (nI p &&& 31))))), (2, .int (nI (p))), (0, .ref (ad (0)))]) dX8_unseen_56 rfl (by decide) rfl ?_
          refine Wp_iinc (x := (nI ((p + 1)))) (lv' := [(2, .int (nI ((p + 1)))), (1, .int (((unF ub p) ||| (nI 1 <<< (nI p &&& 31))))), (0, .ref (ad (0)))]) dX8_unseen_57 1 rfl (w_inc1 _) (by decide) rfl ?_
          refine Wp_goto (tgt := 4) dX8_unseen_60 (by decide) ?_
          refine Wp_lv (lv2 := [(2, .int (nI (p + 1))), (1, .int (((unF ub p) ||| (nI 1 <<< (nI p &&& 31))))), (0, .ref (ad 0))]) [0, 1, 2] rfl ?_
          have hunb : UNB sg ln lt q sk sv p true := ⟨md, H, st, hcu, by rw [c_48, c_34]; rfl⟩
          have hag : ∀ z, z < p → va_up ub p true z = ub z := fun z hz => by simp only [va_up, if_neg (show ¬ z = p by omega)]
          rw [show (((unF ub p) ||| (nI 1 <<< (nI p &&& 31)))) = unF (va_up ub p true) (p + 1) by simp only [unF]; rw [unF_congr hag]; simp [va_up]]
          exact ih (p + 1) (va_up ub p true) V2 (by omega) (by omega) (fun z hz => by
            by_cases e : z = p
            · subst e; simp only [va_up, if_true]; exact hunb
            · rw [hag z (by omega)]; exact hub z (by omega)) cl2 (fun j hj => by rw [hf2 j (by omega) (by omega) (by omega), frm1 j hj, frA j hj])
theorem c_X8_unseen {E : wE} {ad : Nat → Nat} {V : wV} {B n nb hn q : Nat} {tt ln col siz sk sv : Nat → Nat} {lt : Nat → Nat → Nat} {sg : aSig} {hi im : Nat → aSig} {kp : Nat → Bool} (cl : CL V B n tt nb ln lt col siz sg hn hi im kp q sk sv) (hB : B < 2 ^ 30)  : w_C E mX8_unseen (w_R 6 0 0) 0 0 [.ref (ad (0))] SX ad V (w_i SX ad (fun r V' => (∃ ub, (∀ p, p < sg.2.1 → UNB sg ln lt q sk sv p (ub p)) ∧ r = unF ub sg.2.1) ∧ CL V' B n tt nb ln lt col siz sg hn hi im kp q sk sv ∧ ∀ j, 53 ≤ j → V' j = V j)) := by
  refine w_C.of (by decide) (Nat.le_of_ble_eq_true rfl) ?_
  show Wp _ _ _ _ _ _ _ _ _ [(0, .ref (ad (0)))] [] SX ad V
  refine Wp_iconst (v := (nI (0))) dX8_unseen_0 (by decide) ?_
  refine Wp_istore_n (lv' := [(1, .int (nI (0))), (0, .ref (ad (0)))]) dX8_unseen_1 rfl (by decide) rfl ?_
  refine Wp_iconst (v := (nI (0))) dX8_unseen_2 (by decide) ?_
  refine Wp_istore_n (lv' := [(2, .int (nI (0))), (1, .int (nI (0))), (0, .ref (ad (0)))]) dX8_unseen_3 rfl (by decide) rfl ?_
  exact lp_X8_unseen cl hB (sg.2.1 + 1) 0 (fun _ => false) V (by omega) (by omega) (fun z hz => by omega) cl (fun _ _ => rfl)
