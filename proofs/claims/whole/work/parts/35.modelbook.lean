/-! THE REFERENCE: an item, all, the book -/
theorem c_X9_readsItem {E : wE} {ad : Nat → Nat} {V : wV} {n : Nat} {tt : Nat → Nat} (t0 : MT V n tt) {p : Nat} (hp : p ≤ n) (a0 : MA V n tt p) {y : aP} (dr : MDR V y) (ht3 : tkT tt n p ≠ 300)  : w_C E mX9_readsItem (w_R 5 0 0) 0 0 [.ref (ad (53))] SX ad V (w_i SX ad (fun r V' => r = bI (pIt tt n p y).1 ∧ MT V' n tt ∧ MA V' n tt (pIt tt n p y).2.1 ∧ ((pIt tt n p y).1 = true → MDR V' (pIt tt n p y).2.2) ∧ MFm V V')) := by
  refine w_C.of (by decide) (Nat.le_of_ble_eq_true rfl) ?_
  show Wp _ _ _ _ _ _ _ _ _ [(0, .ref (ad (53)))] [] SX ad V
  have hTl := tkT_le (p := p) (fun k hk => (t0.2.2 k hk).2)
  refine Wp_aload_n dX9_readsItem_0 rfl 0 rfl ?_
  refine Wp_get (x := (mtk (tkT tt n p))) fk_X9_91 sx_53 rfl a0.1 dX9_readsItem_1 ?_
  by_cases c_4_0 : ((mtk (tkT tt n p))).toInt = 102
  · refine Wp_lookup (tgt := 45) (off := 41) dX9_readsItem_4 (by decide) (a := 102) ((rfl).trans c_4_0) (by decide) (by decide) ?_
    have hT : tkT tt n p = 102 := (mtk_eq hTl.1 (k := 102) (by omega)).mp c_4_0
    refine Wp_aload_n dX9_readsItem_45 rfl 0 rfl ?_
    refine Wp_callVi (c_X9_readsFlag t0 hp a0 dr ht3) YV_X9_readsFlag ml_X9_128 sx_53 rfl dX9_readsItem_46 (by omega) (by decide) (by omega) (by omega) rfl rfl (Nat.le_of_ble_eq_true rfl) (fun r1 V1 hr1 => ?_)
    obtain ⟨e1, t1, a1, d1, fm1⟩ := hr1
    subst e1
    exact Wp_zret (b := (pE tt n (pFl tt n p y)).1) rfl rfl ⟨rfl, rfl, _, rfl, by
      have e : pIt tt n p y = pE tt n (pFl tt n p y) := by show pE tt n (pIt0 tt n p y) = _; unfold pIt0; rw [if_neg (by omega), if_pos hT]
      rw [e]; exact ⟨rfl, t1, a1, d1, fm1⟩⟩ (Nat.le_refl _) (Nat.le_refl _) dX9_readsItem_49
  by_cases c_4_1 : ((mtk (tkT tt n p))).toInt = 107
  · refine Wp_lookup (tgt := 50) (off := 46) dX9_readsItem_4 (by decide) (a := 107) ((rfl).trans c_4_1) (by decide) (by decide) ?_
    have hT : tkT tt n p = 107 := (mtk_eq hTl.1 (k := 107) (by omega)).mp c_4_1
    refine Wp_aload_n dX9_readsItem_50 rfl 0 rfl ?_
    refine Wp_callVi (c_X9_readsCode t0 hp a0 dr ht3) YV_X9_readsCode ml_X9_131 sx_53 rfl dX9_readsItem_51 (by omega) (by decide) (by omega) (by omega) rfl rfl (Nat.le_of_ble_eq_true rfl) (fun r1 V1 hr1 => ?_)
    obtain ⟨e1, t1, a1, d1, fm1⟩ := hr1
    subst e1
    exact Wp_zret (b := (pE tt n (pCd tt n p y)).1) rfl rfl ⟨rfl, rfl, _, rfl, by
      have e : pIt tt n p y = pE tt n (pCd tt n p y) := by show pE tt n (pIt0 tt n p y) = _; unfold pIt0; rw [if_neg (by omega), if_neg (by omega), if_pos hT]
      rw [e]; exact ⟨rfl, t1, a1, d1, fm1⟩⟩ (Nat.le_refl _) (Nat.le_refl _) dX9_readsItem_54
  by_cases c_4_2 : ((mtk (tkT tt n p))).toInt = 112
  · refine Wp_lookup (tgt := 40) (off := 36) dX9_readsItem_4 (by decide) (a := 112) ((rfl).trans c_4_2) (by decide) (by decide) ?_
    have hT : tkT tt n p = 112 := (mtk_eq hTl.1 (k := 112) (by omega)).mp c_4_2
    refine Wp_aload_n dX9_readsItem_40 rfl 0 rfl ?_
    refine Wp_callVi (c_X9_readsPlaces t0 hp a0 dr ht3) YV_X9_readsPlaces ml_X9_125 sx_53 rfl dX9_readsItem_41 (by omega) (by decide) (by omega) (by omega) rfl rfl (Nat.le_of_ble_eq_true rfl) (fun r1 V1 hr1 => ?_)
    obtain ⟨e1, t1, a1, d1, fm1⟩ := hr1
    subst e1
    exact Wp_zret (b := (pE tt n (pPl tt n p y)).1) rfl rfl ⟨rfl, rfl, _, rfl, by
      have e : pIt tt n p y = pE tt n (pPl tt n p y) := by show pE tt n (pIt0 tt n p y) = _; unfold pIt0; rw [if_pos hT]
      rw [e]; exact ⟨rfl, t1, a1, d1, fm1⟩⟩ (Nat.le_refl _) (Nat.le_refl _) dX9_readsItem_44
  refine Wp_lookup (tgt := 55) (off := 51) dX9_readsItem_4 (by decide) (rfl) (by simp [Op.lookupswitch.offset_cons, Op.lookupswitch.offset, Ne.symm c_4_0, Ne.symm c_4_1, Ne.symm c_4_2]) (by decide) ?_
  refine Wp_iconst (v := (nI (0))) dX9_readsItem_55 (by decide) ?_
  exact Wp_zret (b := false) rfl rfl ⟨rfl, rfl, _, rfl, by
      have h1 : tkT tt n p ≠ 102 := fun w => c_4_0 ((mtk_eq hTl.1 (k := 102) (by omega)).mpr w)
      have h2 : tkT tt n p ≠ 107 := fun w => c_4_1 ((mtk_eq hTl.1 (k := 107) (by omega)).mpr w)
      have h3 : tkT tt n p ≠ 112 := fun w => c_4_2 ((mtk_eq hTl.1 (k := 112) (by omega)).mpr w)
      have e : pIt tt n p y = (false, p, y) := by show pE tt n (pIt0 tt n p y) = _; unfold pIt0; rw [if_neg h3, if_neg h1, if_neg h2]; rfl
      rw [e]; exact ⟨rfl, t0, a0, fun w => (by cases w), MFm.rf⟩⟩ (Nat.le_refl _) (Nat.le_refl _) dX9_readsItem_56
/-- after the reading: nothing but what is read changed -/
def MFr (V V' : wV) : Prop := (∀ k, k ≤ 12 → V' 53 k = V 53 k) ∧ ∀ j, j ≠ 53 → j ≠ 63 → j ≠ 64 → j ≠ 65 → j ≠ 66 → V' j = V j
theorem MFr.fm {V V' V'' : wV} (h : MFr V V') (g : MFm V' V'') : MFr V V'' := ⟨fun k a => (g.1 k (by omega) (by omega) (by omega) (by omega) (by omega)).trans (h.1 k a), fun j a b c d e => (g.2 j a b c d e).trans (h.2 j a b c d e)⟩
theorem lp_X9_reads {E : wE} {ad : Nat → Nat} {V : wV} {n : Nat} {tt : Nat → Nat} (t0 : MT V n tt)  : ∀ (m : Nat) (i : Nat) (p : Nat) (y : aP) (V1 : wV), i ≤ p → p ≤ n → n < p + m → (pAll tt n (n + 1) 0 0 x0P) = pAll tt n m i p y → MT V1 n tt → MA V1 n tt p → MDR V1 y → V1 53 16 = nI i → MFr V V1 → Wp E mX9_reads (w_R 6 0 0) (w_i SX ad (fun r V' => r = bI (pAll tt n (n + 1) 0 0 x0P).1 ∧ ((pAll tt n (n + 1) 0 0 x0P).1 = false → V' 53 14 = nI (skp tt n (pAll tt n (n + 1) 0 0 x0P).2.2.1)) ∧ ((pAll tt n (n + 1) 0 0 x0P).1 = true → MDR V' (pAll tt n (n + 1) 0 0 x0P).2.2.2 ∧ V' 53 16 = nI (pAll tt n (n + 1) 0 0 x0P).2.1) ∧ MFr V V')) 0 0 0 0 35 [(0, .ref (ad (53)))] [] SX ad V1 := by
  intro m
  induction m with
  | zero => intro i p y V1 hi hp hm hall t1 a1 d1 h16 fr; omega
  | succ m ih =>
    intro i p y V1 hi hp hm hall t1 a1 d1 h16 fr
    have hTl := tkT_le (p := p) (fun k hk => (t1.2.2 k hk).2)
    have hn120 := t1.2.1
    refine Wp_aload_n dX9_reads_35 rfl 0 rfl ?_
    refine Wp_get (x := (mtk (tkT tt n p))) fk_X9_91 sx_53 rfl a1.1 dX9_reads_36 ?_
    refine Wp_iconst (v := ((-1))) dX9_reads_39 (by decide) ?_
    refine Wp_icmp_eq (tgt := 65) dX9_reads_40 (by decide) (rfl) ((by decide : ((-1) : Int32).toInt = (-1))) (fun c_40 => ?_) (fun c_40 => ?_)
    · have hT : tkT tt n p = 300 := (mtk_300 hTl.1).mp c_40
      have hR : (pAll tt n (n + 1) 0 0 x0P) = (true, i, p, y) := by rw [hall]; simp only [pAll]; rw [if_pos hT]
      refine Wp_iconst (v := (nI (1))) dX9_reads_65 (by decide) ?_
      exact Wp_zret (b := true) rfl rfl ⟨rfl, rfl, _, rfl, by
      rw [hR]; exact ⟨rfl, fun w => (by cases w), fun _ => ⟨d1, h16⟩, fr⟩⟩ (Nat.le_refl _) (Nat.le_refl _) dX9_reads_66
    · have hT : tkT tt n p ≠ 300 := fun w => c_40 ((mtk_300 hTl.1).mpr w)
      refine Wp_aload_n dX9_reads_43 rfl 0 rfl ?_
      refine Wp_callVi (c_X9_readsItem t1 hp a1 d1 hT) YV_X9_readsItem ml_X9_137 sx_53 rfl dX9_reads_44 (by omega) (by decide) (by omega) (by omega) rfl rfl (Nat.le_of_ble_eq_true rfl) (fun r2 V2 hr2 => ?_)
      obtain ⟨e2, t2, a2, d2, fm2⟩ := hr2
      subst e2
      refine Wp_ifne_b (tgt := 52) dX9_reads_47 (by decide) (fun c_47 => ?_) (fun c_47 => ?_)
      · refine Wp_aload_n dX9_reads_52 rfl 0 rfl ?_
        refine Wp_dup dX9_reads_53 rfl ?_
        refine Wp_get (x := (nI (i))) fk_X9_134 sx_53 rfl (by rw [fm2.1 16 (by decide) (by decide) (by decide) (by decide) (by decide)]; exact h16) dX9_reads_54 ?_
        refine Wp_iconst (v := (nI (1))) dX9_reads_57 (by decide) ?_
        refine Wp_iadd (z := (nI ((i + 1)))) dX9_reads_58 (nI_add _ _) ?_
        refine Wp_put fk_X9_134 sx_53 rfl rfl rfl dX9_reads_59 ?_
        obtain ⟨V5, hV5⟩ : ∃ V5, V5 = (up2 V2 53 16 (nI ((i + 1)))) := ⟨_, rfl⟩
        rw [← hV5]
        have o5 : ∀ j, j ≠ 53 → V5 j = V2 j := fun j hj => by rw [hV5]; simp [up2, hj]
        have s5 : ∀ k, k ≠ 16 → V5 53 k = V2 53 k := fun k hk => by rw [hV5, up2_k hk]
        have hle := pIt_le hp hT c_47
        have t5 : MT V5 n tt := by unfold MT; rw [s5 7 (by decide), o5 58 (by decide)]; exact t2
        have a5 : MA V5 n tt (pIt tt n p y).2.1 := by unfold MA; rw [s5 15 (by decide), s5 14 (by decide), s5 13 (by decide)]; exact a2
        have d5 : MDR V5 (pIt tt n p y).2.2 := by unfold MDR FG; rw [s5 17 (by decide), s5 18 (by decide), o5 63 (by decide), o5 64 (by decide), o5 65 (by decide), o5 66 (by decide)]; exact d2 c_47
        have fr2 := fr.fm fm2
        refine Wp_goto (tgt := 35) dX9_reads_62 (by decide) ?_
        exact ih (i + 1) (pIt tt n p y).2.1 (pIt tt n p y).2.2 V5 (by omega) hle.2 (by omega) (by rw [hall]; simp only [pAll]; rw [if_neg hT, if_pos c_47]) t5 a5 d5 (by rw [hV5, up2_s]) ⟨fun k hk => (s5 k (by omega)).trans (fr2.1 k hk), fun j b1 b2 b3 b4 b5 => (o5 j b1).trans (fr2.2 j b1 b2 b3 b4 b5)⟩
      · refine Wp_iconst (v := (nI (0))) dX9_reads_50 (by decide) ?_
        exact Wp_zret (b := false) rfl rfl ⟨rfl, rfl, _, rfl, by
      have hR : (pAll tt n (n + 1) 0 0 x0P) = (false, i, (pIt tt n p y).2.1, y) := by rw [hall]; simp only [pAll]; rw [if_neg hT, if_neg (by rw [c_47]; decide)]
      rw [hR]; exact ⟨rfl, fun _ => a2.2.1, fun w => (by cases w), fr.fm fm2⟩⟩ (Nat.le_refl _) (Nat.le_refl _) dX9_reads_51
theorem c_X9_reads {E : wE} {ad : Nat → Nat} {V : wV} {n : Nat} {tt : Nat → Nat} (t0 : MT V n tt)  : w_C E mX9_reads (w_R 6 0 0) 0 0 [.ref (ad (53))] SX ad V (w_i SX ad (fun r V' => r = bI (pAll tt n (n + 1) 0 0 x0P).1 ∧ ((pAll tt n (n + 1) 0 0 x0P).1 = false → V' 53 14 = nI (skp tt n (pAll tt n (n + 1) 0 0 x0P).2.2.1)) ∧ ((pAll tt n (n + 1) 0 0 x0P).1 = true → MDR V' (pAll tt n (n + 1) 0 0 x0P).2.2.2 ∧ V' 53 16 = nI (pAll tt n (n + 1) 0 0 x0P).2.1) ∧ MFr V V')) := by
  refine w_C.of (by decide) (Nat.le_of_ble_eq_true rfl) ?_
  show Wp _ _ _ _ _ _ _ _ _ [(0, .ref (ad (53)))] [] SX ad V
  have hn120 := t0.2.1
  refine Wp_aload_n dX9_reads_0 rfl 0 rfl ?_
  refine Wp_iconst (v := (nI (0))) dX9_reads_1 (by decide) ?_
  refine Wp_put fk_X9_82 sx_53 rfl rfl rfl dX9_reads_2 ?_
  refine Wp_aload_n dX9_reads_5 rfl 0 rfl ?_
  refine Wp_iconst (v := (nI (0))) dX9_reads_6 (by decide) ?_
  refine Wp_put fk_X9_134 sx_53 rfl rfl rfl dX9_reads_7 ?_
  refine Wp_aload_n dX9_reads_10 rfl 0 rfl ?_
  refine Wp_iconst (v := (nI (0))) dX9_reads_11 (by decide) ?_
  refine Wp_put fk_X9_105 sx_53 rfl rfl rfl dX9_reads_12 ?_
  refine Wp_aload_n dX9_reads_15 rfl 0 rfl ?_
  refine Wp_iconst (v := (nI (0))) dX9_reads_16 (by decide) ?_
  refine Wp_put fk_X9_119 sx_53 rfl rfl rfl dX9_reads_17 ?_
  obtain ⟨V5, hV5⟩ : ∃ V5, V5 = (up2 (up2 (up2 (up2 V 53 13 (nI (0))) 53 16 (nI (0))) 53 17 (nI (0))) 53 18 (nI (0))) := ⟨_, rfl⟩
  rw [← hV5]
  have o5 : ∀ j, j ≠ 53 → V5 j = V j := fun j hj => by rw [hV5]; simp [up2, hj]
  have s5 : ∀ k, k ≤ 12 → V5 53 k = V 53 k := fun k hk => by rw [hV5, up2_k (by omega), up2_k (by omega), up2_k (by omega), up2_k (by omega)]
  refine Wp_aload_n dX9_reads_20 rfl 0 rfl ?_
  refine Wp_getr fk_X9_38 sx_53 rfl dX9_reads_21 ?_
  refine Wp_aload_n dX9_reads_24 rfl 0 rfl ?_
  refine Wp_getr fk_X9_41 sx_53 rfl dX9_reads_25 ?_
  refine Wp_callSv (c_X9_firstFlags sx_63 sx_64 (by decide)) YS_X9_firstFlags ml_X9_62 dX9_reads_28 (by omega) (by decide) (by omega) (by omega) rfl rfl (Nat.le_of_ble_eq_true rfl) (fun V1 hV1 => ?_)
  obtain ⟨g1, f1⟩ := hV1
  have t1 : MT V1 n tt := by unfold MT; rw [f1 53 (by decide) (by decide), f1 58 (by decide) (by decide), s5 7 (by omega), o5 58 (by decide)]; exact t0
  refine Wp_aload_n dX9_reads_31 rfl 0 rfl ?_
  refine Wp_callVv (c_X9_take (p := 0) t1 (Nat.zero_le n) (by rw [f1 53 (by decide) (by decide), hV5]; simp [up2, upd])) YV_X9_take ml_X9_102 sx_53 rfl dX9_reads_32 (by omega) (by decide) (by omega) (by omega) rfl rfl (Nat.le_of_ble_eq_true rfl) (fun V2 hV2 => ?_)
  obtain ⟨a2, tk2a, tk2b⟩ := hV2
  have tk2 : MTk V1 V2 := ⟨tk2a, tk2b⟩
  have d2 : MDR V2 x0P := by
    refine MDR.tk ?_ tk2
    refine ⟨g1, ⟨?_, Nat.zero_le 10, fun s hs => absurd hs (Nat.not_lt_zero s)⟩, ?_, Nat.zero_le 7⟩
    · rw [f1 53 (by decide) (by decide), hV5]; simp [up2, upd]; rfl
    · rw [f1 53 (by decide) (by decide), hV5]; simp [up2, upd]; rfl
  exact lp_X9_reads t0 (n + 1) 0 0 x0P V2 (by omega) (by omega) (by omega) rfl (t1.fm tk2.fm) a2 d2 (by rw [tk2a 16 (by decide) (by decide) (by decide), f1 53 (by decide) (by decide), hV5]; simp [up2, upd]) ⟨fun k hk => by rw [tk2a k (by omega) (by omega) (by omega), f1 53 (by decide) (by decide)]; exact s5 k hk, fun j b1 b2 b3 b4 b5 => by rw [tk2b j b1, f1 j b2 b3]; exact o5 j b1⟩
/-- the draft, while it is copied -/
def BKD (V0 V : wV) (y : aP) (it : Nat) : Prop := MDR V y ∧ V 53 16 = nI it ∧ ∀ j, j < 53 → V j = V0 j
theorem BKD.of {V0 V V' : wV} {y : aP} {it : Nat} (h : BKD V0 V y it) (h1 : ∀ k, 13 ≤ k → V' 53 k = V 53 k) (h2 : ∀ j, j < 53 ∨ 63 ≤ j → V' j = V j) : BKD V0 V' y it := by
  obtain ⟨a, b, c⟩ := h
  refine ⟨?_, by rw [h1 16 (by omega)]; exact b, fun j hj => by rw [h2 j (by omega)]; exact c j hj⟩
  unfold MDR FG
  rw [h1 17 (by omega), h1 18 (by omega), h2 63 (by omega), h2 64 (by omega), h2 65 (by omega), h2 66 (by omega)]; exact a
theorem tl_X9_book {E : wE} {ad : Nat → Nat} {V : wV} {B n nb hn q : Nat} {tt ln col siz sk sv : Nat → Nat} {lt : Nat → Nat → Nat} {sg : aSig} {hi im : Nat → aSig} {kp : Nat → Bool} (ml : ML V B n tt nb ln lt col siz sg hn hi im kp q sk sv) (hR : (pAll tt n (n + 1) 0 0 x0P).1 = true) (hle : (pAll tt n (n + 1) 0 0 x0P).2.1 ≤ 120) (hpl : plOK (pAll tt n (n + 1) 0 0 x0P).2.2.2) {y : aP} (hY : (pAll tt n (n + 1) 0 0 x0P).2.2.2 = y) {V1 : wV} (bd : BKD V V1 y (pAll tt n (n + 1) 0 0 x0P).2.1) (hf : (∀ f, f < 8 → V1 59 f = nI (y.1 f) ∧ V1 60 f = nI (y.2.1 f))) (hs : V1 53 10 = nI y.2.2.1) (hc : (∀ s, s < y.2.2.1 → V1 61 s = nI (y.2.2.2.1 s) ∧ ∀ i, i < y.2.2.2.1 s → V1 62 (4 * s + i) = nI (y.2.2.2.2.1 s i))) (hw : ∀ k, k < 12 → V1 54 k = nI 0) : Wp E mX9_book (w_R 7 0 0) (w_i SX ad (fun r V' => (((pAll tt n (n + 1) 0 0 x0P).1 = false ∧ r = (-10) - nI (skp tt n (pAll tt n (n + 1) 0 0 x0P).2.2.1) ∧ ML V' B n tt nb ln lt col siz sg hn hi im kp q sk sv) ∨ ((pAll tt n (n + 1) 0 0 x0P).1 = true ∧ r = nI (pAll tt n (n + 1) 0 0 x0P).2.1 ∧ ML V' B 0 tt (pAll tt n (n + 1) 0 0 x0P).2.2.2.2.2.1 (pAll tt n (n + 1) 0 0 x0P).2.2.2.2.2.2.1 (pAll tt n (n + 1) 0 0 x0P).2.2.2.2.2.2.2.1 (pAll tt n (n + 1) 0 0 x0P).2.2.2.1 (pAll tt n (n + 1) 0 0 x0P).2.2.2.2.1 (sg.1, 0, plc (pAll tt n (n + 1) 0 0 x0P).2.2.2, 0, 0) 0 hi im (fun _ => false) 0 sk sv)) ∧ ∀ j, j < 53 → V' j = V j)) 0 0 0 0 143 [(0, .ref (ad 53))] [] SX ad V1 := by
  obtain ⟨d, h16, hfr⟩ := id bd
  have p7 := d.2.2.2
  rw [hY] at hpl ⊢
  refine Wp_aload_n dX9_book_143 rfl 0 rfl ?_
  refine Wp_getr fk_X9_7 sx_53 rfl dX9_book_144 ?_
  refine Wp_bipush (v := (nI (9))) dX9_book_147 (by decide) ?_
  refine Wp_aload_n dX9_book_149 rfl 0 rfl ?_
  refine Wp_get (x := (nI (y.2.2.2.2.2))) fk_X9_105 sx_53 rfl d.2.2.1 dX9_book_150 ?_
  refine Wp_if_le (tgt := 163) dX9_book_153 (by decide) (nI_toInt (by omega)) (fun c_153 => ?_) (fun c_153 => ?_)
  · refine Wp_iconst (v := (nI (5))) dX9_book_163 (by decide) ?_
    refine Wp_ist (n := 9) sx_54 rfl (by omega) (by decide) dX9_book_164 ?_
    refine Wp_aload_n dX9_book_165 rfl 0 rfl ?_
    refine Wp_iconst (v := (nI (0))) dX9_book_166 (by decide) ?_
    refine Wp_put fk_X9_85 sx_53 rfl rfl rfl dX9_book_167 ?_
    refine Wp_aload_n dX9_book_170 rfl 0 rfl ?_
    refine Wp_iconst (v := (nI (0))) dX9_book_171 (by decide) ?_
    refine Wp_put fk_X9_66 sx_53 rfl rfl rfl dX9_book_172 ?_
    refine Wp_aload_n dX9_book_175 rfl 0 rfl ?_
    refine Wp_iconst (v := (nI (0))) dX9_book_176 (by decide) ?_
    refine Wp_put fk_X9_148 sx_53 rfl rfl rfl dX9_book_177 ?_
    refine Wp_aload_n dX9_book_180 rfl 0 rfl ?_
    refine Wp_getr fk_X9_13 sx_53 rfl dX9_book_181 ?_
    refine Wp_iconst (v := (nI (0))) dX9_book_184 (by decide) ?_
    refine Wp_iconst (v := (nI (0))) dX9_book_185 (by decide) ?_
    refine Wp_zst (n := 0) sx_55 rfl (by omega) (by decide) (by decide) dX9_book_186 ?_
    refine Wp_aload_n dX9_book_187 rfl 0 rfl ?_
    refine Wp_getr fk_X9_13 sx_53 rfl dX9_book_188 ?_
    refine Wp_iconst (v := (nI (1))) dX9_book_191 (by decide) ?_
    refine Wp_iconst (v := (nI (0))) dX9_book_192 (by decide) ?_
    refine Wp_zst (n := 1) sx_55 rfl (by omega) (by decide) (by decide) dX9_book_193 ?_
    refine Wp_aload_n dX9_book_194 rfl 0 rfl ?_
    refine Wp_get (x := (nI ((pAll tt n (n + 1) 0 0 x0P).2.1))) fk_X9_134 sx_53 rfl ((up2_k (by decide)).trans ((up2_k (by decide)).trans ((up2_k (by decide)).trans ((up2_k (by decide)).trans ((up2_k (by decide)).trans ((up2_k (by decide)).trans h16)))))) dX9_book_195 ?_
    exact Wp_iret rfl ⟨rfl, rfl, _, rfl, by
      obtain ⟨V5, hV5⟩ : ∃ V5, V5 = (up2 (up2 (up2 (up2 (up2 (up2 V1 54 9 (nI (5))) 53 7 (nI (0))) 53 2 (nI (0))) 53 5 (nI (0))) 55 0 (nI (0))) 55 1 (nI (0))) := ⟨_, rfl⟩
      show ((_ ∧ _ ∧ _) ∨ (_ ∧ _ ∧ ML ((up2 (up2 (up2 (up2 (up2 (up2 V1 54 9 (nI (5))) 53 7 (nI (0))) 53 2 (nI (0))) 53 5 (nI (0))) 55 0 (nI (0))) 55 1 (nI (0)))) _ _ _ _ _ _ _ _ _ _ _ _ _ _ _ _)) ∧ ∀ j, j < 53 → (up2 (up2 (up2 (up2 (up2 (up2 V1 54 9 (nI (5))) 53 7 (nI (0))) 53 2 (nI (0))) 53 5 (nI (0))) 55 0 (nI (0))) 55 1 (nI (0))) j = V j
      rw [← hV5]
      have f5 : ∀ j, j ≠ 53 → j ≠ 54 → j ≠ 55 → V5 j = V1 j := fun j a1 a2 a3 => by rw [hV5]; simp [up2, a1, a2, a3]
      have s5 : ∀ k, 8 ≤ k → V5 53 k = V1 53 k := fun k hk => by rw [hV5]; simp [up2, upd, show k ≠ 7 by omega, show k ≠ 5 by omega, show k ≠ 2 by omega]
      have w5 : ∀ k, k ≠ 9 → V5 54 k = V1 54 k := fun k hk => by rw [hV5]; simp [up2, upd, hk]
      refine ⟨Or.inr ⟨hR, rfl, ⟨?_, by omega, fun k hk => absurd hk (Nat.not_lt_zero k)⟩, ⟨?_, d.2.1.2.1, fun s h => ?_⟩, fun f h => ?_, ⟨⟨?_, ?_, ?_, ?_, fun k hk => absurd hk (Nat.not_lt_zero k)⟩, Nat.zero_le 8, ?_, ?_, Nat.zero_le _, Nat.zero_le _, fun k hk => absurd hk (Nat.not_lt_zero k)⟩, ⟨?_, by omega, fun j hj => absurd hj (Nat.not_lt_zero j)⟩, fun i hi => ⟨?_, fun w => (by cases w)⟩, ⟨?_, by omega, fun i hi => absurd hi (Nat.not_lt_zero i)⟩⟩, fun j hj => by rw [f5 j (by omega) (by omega) (by omega)]; exact hfr j hj⟩
      · rw [hV5]; simp [up2, upd]
      · rw [s5 10 (by omega)]; exact hs
      · have z := d.2.1.2.2 s h
        rw [f5 61 (by decide) (by decide) (by decide), f5 62 (by decide) (by decide) (by decide)]
        exact ⟨(hc s h).1, z.2.1, z.2.2.1, fun i hi => ⟨(hc s h).2 i hi, (z.2.2.2 i hi).2⟩⟩
      · rw [f5 59 (by decide) (by decide) (by decide), f5 60 (by decide) (by decide) (by decide)]
        exact ⟨(hf f h).1, (hf f h).2, (d.1 f h).2.2⟩
      · rw [w5 0 (by decide)]; exact hw 0 (by omega)
      · show V5 54 9 = nI (plc y); rw [hV5]; simp [up2, upd]; unfold plc; first | rw [if_pos (show y.2.2.2.2.2 = 0 by omega)] | rw [if_neg (show y.2.2.2.2.2 ≠ 0 by omega)]
      · rw [w5 10 (by decide)]; exact hw 10 (by omega)
      · rw [w5 11 (by decide)]; exact hw 11 (by omega)
      · show 3 ≤ plc y; unfold plc; rcases hpl with z | z
        · rw [if_pos z]; omega
        · rw [if_neg (by omega)]; omega
      · show plc y ≤ 7; unfold plc; rcases hpl with z | z
        · rw [if_pos z]; omega
        · rw [if_neg (by omega)]; omega
      · rw [hV5]; simp [up2, upd]
      · rw [hV5]; rcases (show i = 0 ∨ i = 1 by omega) with rfl | rfl <;> simp [up2, upd] <;> rfl
      · rw [hV5]; simp [up2, upd]⟩ (Nat.le_refl _) (Nat.le_refl _) dX9_book_198
  · refine Wp_aload_n dX9_book_156 rfl 0 rfl ?_
    refine Wp_get (x := (nI (y.2.2.2.2.2))) fk_X9_105 sx_53 rfl d.2.2.1 dX9_book_157 ?_
    refine Wp_goto (tgt := 164) dX9_book_160 (by decide) ?_
    refine Wp_ist (n := 9) sx_54 rfl (by omega) (by decide) dX9_book_164 ?_
    refine Wp_aload_n dX9_book_165 rfl 0 rfl ?_
    refine Wp_iconst (v := (nI (0))) dX9_book_166 (by decide) ?_
    refine Wp_put fk_X9_85 sx_53 rfl rfl rfl dX9_book_167 ?_
    refine Wp_aload_n dX9_book_170 rfl 0 rfl ?_
    refine Wp_iconst (v := (nI (0))) dX9_book_171 (by decide) ?_
    refine Wp_put fk_X9_66 sx_53 rfl rfl rfl dX9_book_172 ?_
    refine Wp_aload_n dX9_book_175 rfl 0 rfl ?_
    refine Wp_iconst (v := (nI (0))) dX9_book_176 (by decide) ?_
    refine Wp_put fk_X9_148 sx_53 rfl rfl rfl dX9_book_177 ?_
    refine Wp_aload_n dX9_book_180 rfl 0 rfl ?_
    refine Wp_getr fk_X9_13 sx_53 rfl dX9_book_181 ?_
    refine Wp_iconst (v := (nI (0))) dX9_book_184 (by decide) ?_
    refine Wp_iconst (v := (nI (0))) dX9_book_185 (by decide) ?_
    refine Wp_zst (n := 0) sx_55 rfl (by omega) (by decide) (by decide) dX9_book_186 ?_
    refine Wp_aload_n dX9_book_187 rfl 0 rfl ?_
    refine Wp_getr fk_X9_13 sx_53 rfl dX9_book_188 ?_
    refine Wp_iconst (v := (nI (1))) dX9_book_191 (by decide) ?_
    refine Wp_iconst (v := (nI (0))) dX9_book_192 (by decide) ?_
    refine Wp_zst (n := 1) sx_55 rfl (by omega) (by decide) (by decide) dX9_book_193 ?_
    refine Wp_aload_n dX9_book_194 rfl 0 rfl ?_
    refine Wp_get (x := (nI ((pAll tt n (n + 1) 0 0 x0P).2.1))) fk_X9_134 sx_53 rfl ((up2_k (by decide)).trans ((up2_k (by decide)).trans ((up2_k (by decide)).trans ((up2_k (by decide)).trans ((up2_k (by decide)).trans ((up2_k (by decide)).trans h16)))))) dX9_book_195 ?_
    exact Wp_iret rfl ⟨rfl, rfl, _, rfl, by
      obtain ⟨V5, hV5⟩ : ∃ V5, V5 = (up2 (up2 (up2 (up2 (up2 (up2 V1 54 9 (nI (y.2.2.2.2.2))) 53 7 (nI (0))) 53 2 (nI (0))) 53 5 (nI (0))) 55 0 (nI (0))) 55 1 (nI (0))) := ⟨_, rfl⟩
      show ((_ ∧ _ ∧ _) ∨ (_ ∧ _ ∧ ML ((up2 (up2 (up2 (up2 (up2 (up2 V1 54 9 (nI (y.2.2.2.2.2))) 53 7 (nI (0))) 53 2 (nI (0))) 53 5 (nI (0))) 55 0 (nI (0))) 55 1 (nI (0)))) _ _ _ _ _ _ _ _ _ _ _ _ _ _ _ _)) ∧ ∀ j, j < 53 → (up2 (up2 (up2 (up2 (up2 (up2 V1 54 9 (nI (y.2.2.2.2.2))) 53 7 (nI (0))) 53 2 (nI (0))) 53 5 (nI (0))) 55 0 (nI (0))) 55 1 (nI (0))) j = V j
      rw [← hV5]
      have f5 : ∀ j, j ≠ 53 → j ≠ 54 → j ≠ 55 → V5 j = V1 j := fun j a1 a2 a3 => by rw [hV5]; simp [up2, a1, a2, a3]
      have s5 : ∀ k, 8 ≤ k → V5 53 k = V1 53 k := fun k hk => by rw [hV5]; simp [up2, upd, show k ≠ 7 by omega, show k ≠ 5 by omega, show k ≠ 2 by omega]
      have w5 : ∀ k, k ≠ 9 → V5 54 k = V1 54 k := fun k hk => by rw [hV5]; simp [up2, upd, hk]
      refine ⟨Or.inr ⟨hR, rfl, ⟨?_, by omega, fun k hk => absurd hk (Nat.not_lt_zero k)⟩, ⟨?_, d.2.1.2.1, fun s h => ?_⟩, fun f h => ?_, ⟨⟨?_, ?_, ?_, ?_, fun k hk => absurd hk (Nat.not_lt_zero k)⟩, Nat.zero_le 8, ?_, ?_, Nat.zero_le _, Nat.zero_le _, fun k hk => absurd hk (Nat.not_lt_zero k)⟩, ⟨?_, by omega, fun j hj => absurd hj (Nat.not_lt_zero j)⟩, fun i hi => ⟨?_, fun w => (by cases w)⟩, ⟨?_, by omega, fun i hi => absurd hi (Nat.not_lt_zero i)⟩⟩, fun j hj => by rw [f5 j (by omega) (by omega) (by omega)]; exact hfr j hj⟩
      · rw [hV5]; simp [up2, upd]
      · rw [s5 10 (by omega)]; exact hs
      · have z := d.2.1.2.2 s h
        rw [f5 61 (by decide) (by decide) (by decide), f5 62 (by decide) (by decide) (by decide)]
        exact ⟨(hc s h).1, z.2.1, z.2.2.1, fun i hi => ⟨(hc s h).2 i hi, (z.2.2.2 i hi).2⟩⟩
      · rw [f5 59 (by decide) (by decide) (by decide), f5 60 (by decide) (by decide) (by decide)]
        exact ⟨(hf f h).1, (hf f h).2, (d.1 f h).2.2⟩
      · rw [w5 0 (by decide)]; exact hw 0 (by omega)
      · show V5 54 9 = nI (plc y); rw [hV5]; simp [up2, upd]; unfold plc; first | rw [if_pos (show y.2.2.2.2.2 = 0 by omega)] | rw [if_neg (show y.2.2.2.2.2 ≠ 0 by omega)]
      · rw [w5 10 (by decide)]; exact hw 10 (by omega)
      · rw [w5 11 (by decide)]; exact hw 11 (by omega)
      · show 3 ≤ plc y; unfold plc; rcases hpl with z | z
        · rw [if_pos z]; omega
        · rw [if_neg (by omega)]; omega
      · show plc y ≤ 7; unfold plc; rcases hpl with z | z
        · rw [if_pos z]; omega
        · rw [if_neg (by omega)]; omega
      · rw [hV5]; simp [up2, upd]
      · rw [hV5]; rcases (show i = 0 ∨ i = 1 by omega) with rfl | rfl <;> simp [up2, upd] <;> rfl
      · rw [hV5]; simp [up2, upd]⟩ (Nat.le_refl _) (Nat.le_refl _) dX9_book_198
theorem lp_X9_book3 {E : wE} {ad : Nat → Nat} {V : wV} {B n nb hn q : Nat} {tt ln col siz sk sv : Nat → Nat} {lt : Nat → Nat → Nat} {sg : aSig} {hi im : Nat → aSig} {kp : Nat → Bool} (ml : ML V B n tt nb ln lt col siz sg hn hi im kp q sk sv) (hR : (pAll tt n (n + 1) 0 0 x0P).1 = true) (hle : (pAll tt n (n + 1) 0 0 x0P).2.1 ≤ 120) (hpl : plOK (pAll tt n (n + 1) 0 0 x0P).2.2.2) {y : aP} (hY : (pAll tt n (n + 1) 0 0 x0P).2.2.2 = y)  : ∀ (m : Nat) (k : Nat) (V1 : wV), k ≤ 12 → 12 < k + m → BKD V V1 y (pAll tt n (n + 1) 0 0 x0P).2.1 → (∀ f, f < 8 → V1 59 f = nI (y.1 f) ∧ V1 60 f = nI (y.2.1 f)) → V1 53 10 = nI y.2.2.1 → (∀ s, s < y.2.2.1 → V1 61 s = nI (y.2.2.2.1 s) ∧ ∀ i, i < y.2.2.2.1 s → V1 62 (4 * s + i) = nI (y.2.2.2.2.1 s i)) → (∀ i, i < k → V1 54 i = nI 0) → Wp E mX9_book (w_R 7 0 0) (w_i SX ad (fun r V' => (((pAll tt n (n + 1) 0 0 x0P).1 = false ∧ r = (-10) - nI (skp tt n (pAll tt n (n + 1) 0 0 x0P).2.2.1) ∧ ML V' B n tt nb ln lt col siz sg hn hi im kp q sk sv) ∨ ((pAll tt n (n + 1) 0 0 x0P).1 = true ∧ r = nI (pAll tt n (n + 1) 0 0 x0P).2.1 ∧ ML V' B 0 tt (pAll tt n (n + 1) 0 0 x0P).2.2.2.2.2.1 (pAll tt n (n + 1) 0 0 x0P).2.2.2.2.2.2.1 (pAll tt n (n + 1) 0 0 x0P).2.2.2.2.2.2.2.1 (pAll tt n (n + 1) 0 0 x0P).2.2.2.1 (pAll tt n (n + 1) 0 0 x0P).2.2.2.2.1 (sg.1, 0, plc (pAll tt n (n + 1) 0 0 x0P).2.2.2, 0, 0) 0 hi im (fun _ => false) 0 sk sv)) ∧ ∀ j, j < 53 → V' j = V j)) 0 0 0 0 124 [(1, .int (nI (k))), (0, .ref (ad (53)))] [] SX ad V1 := by
  intro m
  induction m with
  | zero => intro k V1 hk hm bd hf hs hc hw; omega
  | succ m ih =>
    intro k V1 hk hm bd hf hs hc hw
    refine Wp_iload_n dX9_book_124 rfl 0 rfl ?_
    refine Wp_bipush (v := (nI (12))) dX9_book_125 (by decide) ?_
    refine Wp_icmp_ge (tgt := 143) dX9_book_127 (by decide) (nI_toInt (by omega)) (nI_toInt (by omega)) (fun c_127 => ?_) (fun c_127 => ?_)
    · refine Wp_lv (lv2 := [(0, .ref (ad (53)))]) [1] rfl ?_
      exact tl_X9_book ml hR hle hpl hY bd hf hs hc (fun i hi => hw i (by omega))
    · refine Wp_aload_n dX9_book_130 rfl 1 rfl ?_
      refine Wp_getr fk_X9_7 sx_53 rfl dX9_book_131 ?_
      refine Wp_iload_n dX9_book_134 rfl 0 rfl ?_
      refine Wp_iconst (v := (nI (0))) dX9_book_135 (by decide) ?_
      refine Wp_ist (n := k) sx_54 rfl (by omega) (by decide) dX9_book_136 ?_
      refine Wp_iinc (x := (nI ((k + 1)))) (lv' := [(1, .int (nI ((k + 1)))), (0, .ref (ad (53)))]) dX9_book_137 0 rfl (w_inc1 _) (by decide) rfl ?_
      refine Wp_goto (tgt := 124) dX9_book_140 (by decide) ?_
      exact ih (k + 1) _ (by omega) (by omega) (bd.of (fun i hi => by simp only [up2, if_neg (show (53 : Nat) ≠ 54 by decide)]) (fun j hj => by simp only [up2, if_neg (show j ≠ 54 by omega)])) hf hs hc (fun i hi => by
        by_cases z : i = k
        · subst z; rw [up2_s]
        · rw [up2_k z]; exact hw i (by omega))
theorem lp_X9_book2i {E : wE} {ad : Nat → Nat} {V : wV} {B n nb hn q : Nat} {tt ln col siz sk sv : Nat → Nat} {lt : Nat → Nat → Nat} {sg : aSig} {hi im : Nat → aSig} {kp : Nat → Bool} (ml : ML V B n tt nb ln lt col siz sg hn hi im kp q sk sv) (hR : (pAll tt n (n + 1) 0 0 x0P).1 = true) (hle : (pAll tt n (n + 1) 0 0 x0P).2.1 ≤ 120) (hpl : plOK (pAll tt n (n + 1) 0 0 x0P).2.2.2) {y : aP} (hY : (pAll tt n (n + 1) 0 0 x0P).2.2.2 = y) {s : Nat} (hsn : s < y.2.2.1) (K : ∀ V2 : wV, BKD V V2 y (pAll tt n (n + 1) 0 0 x0P).2.1 → (∀ f, f < 8 → V2 59 f = nI (y.1 f) ∧ V2 60 f = nI (y.2.1 f)) → V2 53 10 = nI y.2.2.1 → (∀ t, t < s + 1 → V2 61 t = nI (y.2.2.2.1 t) ∧ ∀ i, i < y.2.2.2.1 t → V2 62 (4 * t + i) = nI (y.2.2.2.2.1 t i)) → Wp E mX9_book (w_R 7 0 0) (w_i SX ad (fun r V' => (((pAll tt n (n + 1) 0 0 x0P).1 = false ∧ r = (-10) - nI (skp tt n (pAll tt n (n + 1) 0 0 x0P).2.2.1) ∧ ML V' B n tt nb ln lt col siz sg hn hi im kp q sk sv) ∨ ((pAll tt n (n + 1) 0 0 x0P).1 = true ∧ r = nI (pAll tt n (n + 1) 0 0 x0P).2.1 ∧ ML V' B 0 tt (pAll tt n (n + 1) 0 0 x0P).2.2.2.2.2.1 (pAll tt n (n + 1) 0 0 x0P).2.2.2.2.2.2.1 (pAll tt n (n + 1) 0 0 x0P).2.2.2.2.2.2.2.1 (pAll tt n (n + 1) 0 0 x0P).2.2.2.1 (pAll tt n (n + 1) 0 0 x0P).2.2.2.2.1 (sg.1, 0, plc (pAll tt n (n + 1) 0 0 x0P).2.2.2, 0, 0) 0 hi im (fun _ => false) 0 sk sv)) ∧ ∀ j, j < 53 → V' j = V j)) 0 0 0 0 63 [(1, .int (nI (s + 1))), (0, .ref (ad 53))] [] SX ad V2) : ∀ (m : Nat) (k : Nat) (V1 : wV), k ≤ 4 → 4 < k + m → BKD V V1 y (pAll tt n (n + 1) 0 0 x0P).2.1 → (∀ f, f < 8 → V1 59 f = nI (y.1 f) ∧ V1 60 f = nI (y.2.1 f)) → V1 53 10 = nI y.2.2.1 → (∀ t, t < s → V1 61 t = nI (y.2.2.2.1 t) ∧ ∀ i, i < y.2.2.2.1 t → V1 62 (4 * t + i) = nI (y.2.2.2.2.1 t i)) → V1 61 s = nI (y.2.2.2.1 s) → (∀ i, i < k → V1 62 (4 * s + i) = V1 66 (4 * s + i)) → Wp E mX9_book (w_R 7 0 0) (w_i SX ad (fun r V' => (((pAll tt n (n + 1) 0 0 x0P).1 = false ∧ r = (-10) - nI (skp tt n (pAll tt n (n + 1) 0 0 x0P).2.2.1) ∧ ML V' B n tt nb ln lt col siz sg hn hi im kp q sk sv) ∨ ((pAll tt n (n + 1) 0 0 x0P).1 = true ∧ r = nI (pAll tt n (n + 1) 0 0 x0P).2.1 ∧ ML V' B 0 tt (pAll tt n (n + 1) 0 0 x0P).2.2.2.2.2.1 (pAll tt n (n + 1) 0 0 x0P).2.2.2.2.2.2.1 (pAll tt n (n + 1) 0 0 x0P).2.2.2.2.2.2.2.1 (pAll tt n (n + 1) 0 0 x0P).2.2.2.1 (pAll tt n (n + 1) 0 0 x0P).2.2.2.2.1 (sg.1, 0, plc (pAll tt n (n + 1) 0 0 x0P).2.2.2, 0, 0) 0 hi im (fun _ => false) 0 sk sv)) ∧ ∀ j, j < 53 → V' j = V j)) 0 0 0 0 85 [(2, .int (nI (k))), (1, .int (nI (s))), (0, .ref (ad (53)))] [] SX ad V1 := by
  intro m
  induction m with
  | zero => intro k V1 hk hm bd hf hs hc hl hw; omega
  | succ m ih =>
    intro k V1 hk hm bd hf hs hc hl hw
    have d10 := bd.1.2.1.2.1
    refine Wp_iload_n dX9_book_85 rfl 0 rfl ?_
    refine Wp_iconst (v := (nI (4))) dX9_book_86 (by decide) ?_
    refine Wp_icmp_ge (tgt := 116) dX9_book_87 (by decide) (nI_toInt (by omega)) (nI_toInt (by omega)) (fun c_87 => ?_) (fun c_87 => ?_)
    · refine Wp_iinc (x := (nI ((s + 1)))) (lv' := [(1, .int (nI ((s + 1)))), (2, .int (nI (k))), (0, .ref (ad (53)))]) dX9_book_116 1 rfl (w_inc1 _) (by decide) rfl ?_
      refine Wp_goto (tgt := 63) dX9_book_119 (by decide) ?_
      refine Wp_lv (lv2 := [(1, .int (nI ((s + 1)))), (0, .ref (ad (53)))]) [0, 2] rfl ?_
      exact K V1 bd hf hs (fun t ht => by
        by_cases z : t = s
        · subst z
          have b := bd.1.2.1.2.2 t hsn
          exact ⟨hl, fun i hi => by rw [hw i (by have := b.2.2.1; omega)]; exact (b.2.2.2 i hi).1⟩
        · exact hc t (by omega))
    · refine Wp_aload_n dX9_book_90 rfl 2 rfl ?_
      refine Wp_getr fk_X9_35 sx_53 rfl dX9_book_91 ?_
      refine Wp_iconst (v := (nI (4))) dX9_book_94 (by decide) ?_
      refine Wp_iload_n dX9_book_95 rfl 1 rfl ?_
      refine Wp_imul (z := (nI ((4 * s)))) dX9_book_96 (pk_mul _ _) ?_
      refine Wp_iload_n dX9_book_97 rfl 0 rfl ?_
      refine Wp_iadd (z := (nI (((4 * s) + k)))) dX9_book_98 (nI_add _ _) ?_
      refine Wp_aload_n dX9_book_99 rfl 2 rfl ?_
      refine Wp_getr fk_X9_47 sx_53 rfl dX9_book_100 ?_
      refine Wp_iconst (v := (nI (4))) dX9_book_103 (by decide) ?_
      refine Wp_iload_n dX9_book_104 rfl 1 rfl ?_
      refine Wp_imul (z := (nI ((4 * s)))) dX9_book_105 (pk_mul _ _) ?_
      refine Wp_iload_n dX9_book_106 rfl 0 rfl ?_
      refine Wp_iadd (z := (nI (((4 * s) + k)))) dX9_book_107 (nI_add _ _) ?_
      refine Wp_ild (n := ((4 * s) + k)) (y := (V1 66 (((4 * s) + k)))) sx_66 rfl (by omega) (by decide) rfl dX9_book_108 ?_
      refine Wp_ist (n := ((4 * s) + k)) sx_62 rfl (by omega) (by decide) dX9_book_109 ?_
      refine Wp_iinc (x := (nI ((k + 1)))) (lv' := [(2, .int (nI ((k + 1)))), (1, .int (nI (s))), (0, .ref (ad (53)))]) dX9_book_110 0 rfl (w_inc1 _) (by decide) rfl ?_
      refine Wp_goto (tgt := 85) dX9_book_113 (by decide) ?_
      have d4 : ∀ t, t < s → ∀ i, i < y.2.2.2.1 t → 4 * t + i ≠ 4 * s + k := fun t ht i hi => by
        have := (bd.1.2.1.2.2 t (by omega)).2.2.1
        omega
      exact ih (k + 1) _ (by omega) (by omega) (bd.of (fun i hi => by simp only [up2, if_neg (show (53 : Nat) ≠ 62 by decide)]) (fun j hj => by simp only [up2, if_neg (show j ≠ 62 by omega)])) hf hs (fun t ht => ⟨(hc t ht).1, fun i hi => by rw [up2_k (d4 t ht i hi)]; exact (hc t ht).2 i hi⟩) hl (fun i hi => by
        rw [up2_i (show (66 : Nat) ≠ 62 by decide)]
        by_cases z : i = k
        · subst z; rw [up2_s]
        · rw [up2_k (by omega)]; exact hw i (by omega))
theorem lp_X9_book2 {E : wE} {ad : Nat → Nat} {V : wV} {B n nb hn q : Nat} {tt ln col siz sk sv : Nat → Nat} {lt : Nat → Nat → Nat} {sg : aSig} {hi im : Nat → aSig} {kp : Nat → Bool} (ml : ML V B n tt nb ln lt col siz sg hn hi im kp q sk sv) (hR : (pAll tt n (n + 1) 0 0 x0P).1 = true) (hle : (pAll tt n (n + 1) 0 0 x0P).2.1 ≤ 120) (hpl : plOK (pAll tt n (n + 1) 0 0 x0P).2.2.2) {y : aP} (hY : (pAll tt n (n + 1) 0 0 x0P).2.2.2 = y)  : ∀ (m : Nat) (s : Nat) (V1 : wV), s ≤ y.2.2.1 → y.2.2.1 < s + m → BKD V V1 y (pAll tt n (n + 1) 0 0 x0P).2.1 → (∀ f, f < 8 → V1 59 f = nI (y.1 f) ∧ V1 60 f = nI (y.2.1 f)) → V1 53 10 = nI y.2.2.1 → (∀ t, t < s → V1 61 t = nI (y.2.2.2.1 t) ∧ ∀ i, i < y.2.2.2.1 t → V1 62 (4 * t + i) = nI (y.2.2.2.2.1 t i)) → Wp E mX9_book (w_R 7 0 0) (w_i SX ad (fun r V' => (((pAll tt n (n + 1) 0 0 x0P).1 = false ∧ r = (-10) - nI (skp tt n (pAll tt n (n + 1) 0 0 x0P).2.2.1) ∧ ML V' B n tt nb ln lt col siz sg hn hi im kp q sk sv) ∨ ((pAll tt n (n + 1) 0 0 x0P).1 = true ∧ r = nI (pAll tt n (n + 1) 0 0 x0P).2.1 ∧ ML V' B 0 tt (pAll tt n (n + 1) 0 0 x0P).2.2.2.2.2.1 (pAll tt n (n + 1) 0 0 x0P).2.2.2.2.2.2.1 (pAll tt n (n + 1) 0 0 x0P).2.2.2.2.2.2.2.1 (pAll tt n (n + 1) 0 0 x0P).2.2.2.1 (pAll tt n (n + 1) 0 0 x0P).2.2.2.2.1 (sg.1, 0, plc (pAll tt n (n + 1) 0 0 x0P).2.2.2, 0, 0) 0 hi im (fun _ => false) 0 sk sv)) ∧ ∀ j, j < 53 → V' j = V j)) 0 0 0 0 63 [(1, .int (nI (s))), (0, .ref (ad (53)))] [] SX ad V1 := by
  intro m
  induction m with
  | zero => intro s V1 hsn hm bd hf hs hc; omega
  | succ m ih =>
    intro s V1 hsn hm bd hf hs hc
    have d10 := bd.1.2.1.2.1
    refine Wp_iload_n dX9_book_63 rfl 0 rfl ?_
    refine Wp_aload_n dX9_book_64 rfl 1 rfl ?_
    refine Wp_get (x := (nI (y.2.2.1))) fk_X9_145 sx_53 rfl hs dX9_book_65 ?_
    refine Wp_icmp_ge (tgt := 122) dX9_book_68 (by decide) (nI_toInt (by omega)) (nI_toInt (by omega)) (fun c_68 => ?_) (fun c_68 => ?_)
    · refine Wp_iconst (v := (nI (0))) dX9_book_122 (by decide) ?_
      refine Wp_istore_n (lv' := [(1, .int (nI (0))), (0, .ref (ad (53)))]) dX9_book_123 rfl (by decide) rfl ?_
      exact lp_X9_book3 ml hR hle hpl hY 13 0 V1 (by omega) (by omega) bd hf hs (fun t ht => hc t (by omega)) (fun i hi => by omega)
    · refine Wp_aload_n dX9_book_71 rfl 1 rfl ?_
      refine Wp_getr fk_X9_32 sx_53 rfl dX9_book_72 ?_
      refine Wp_iload_n dX9_book_75 rfl 0 rfl ?_
      refine Wp_aload_n dX9_book_76 rfl 1 rfl ?_
      refine Wp_getr fk_X9_44 sx_53 rfl dX9_book_77 ?_
      refine Wp_iload_n dX9_book_80 rfl 0 rfl ?_
      refine Wp_ild (n := s) (y := (nI (y.2.2.2.1 s))) sx_65 rfl (by omega) (by decide) (bd.1.2.1.2.2 s (by omega)).1 dX9_book_81 ?_
      refine Wp_ist (n := s) sx_61 rfl (by omega) (by decide) dX9_book_82 ?_
      refine Wp_iconst (v := (nI (0))) dX9_book_83 (by decide) ?_
      refine Wp_istore_n (lv' := [(2, .int (nI (0))), (1, .int (nI (s))), (0, .ref (ad (53)))]) dX9_book_84 rfl (by decide) rfl ?_
      exact lp_X9_book2i ml hR hle hpl hY (s := s) (by omega) (fun V2 b1 b2 b3 b4 => ih (s + 1) V2 (by omega) (by omega) b1 b2 b3 b4) 5 0 _ (by omega) (by omega) (bd.of (fun i hi => by simp only [up2, if_neg (show (53 : Nat) ≠ 61 by decide)]) (fun j hj => by simp only [up2, if_neg (show j ≠ 61 by omega)])) hf hs (fun t ht => ⟨by rw [up2_k (by omega)]; exact (hc t ht).1, (hc t ht).2⟩) (by rw [up2_s]) (fun i hi => by omega)
theorem lp_X9_book1 {E : wE} {ad : Nat → Nat} {V : wV} {B n nb hn q : Nat} {tt ln col siz sk sv : Nat → Nat} {lt : Nat → Nat → Nat} {sg : aSig} {hi im : Nat → aSig} {kp : Nat → Bool} (ml : ML V B n tt nb ln lt col siz sg hn hi im kp q sk sv) (hR : (pAll tt n (n + 1) 0 0 x0P).1 = true) (hle : (pAll tt n (n + 1) 0 0 x0P).2.1 ≤ 120) (hpl : plOK (pAll tt n (n + 1) 0 0 x0P).2.2.2) {y : aP} (hY : (pAll tt n (n + 1) 0 0 x0P).2.2.2 = y)  : ∀ (m : Nat) (f : Nat) (V1 : wV), f ≤ 8 → 8 < f + m → BKD V V1 y (pAll tt n (n + 1) 0 0 x0P).2.1 → (∀ g, g < f → V1 59 g = nI (y.1 g) ∧ V1 60 g = nI (y.2.1 g)) → Wp E mX9_book (w_R 7 0 0) (w_i SX ad (fun r V' => (((pAll tt n (n + 1) 0 0 x0P).1 = false ∧ r = (-10) - nI (skp tt n (pAll tt n (n + 1) 0 0 x0P).2.2.1) ∧ ML V' B n tt nb ln lt col siz sg hn hi im kp q sk sv) ∨ ((pAll tt n (n + 1) 0 0 x0P).1 = true ∧ r = nI (pAll tt n (n + 1) 0 0 x0P).2.1 ∧ ML V' B 0 tt (pAll tt n (n + 1) 0 0 x0P).2.2.2.2.2.1 (pAll tt n (n + 1) 0 0 x0P).2.2.2.2.2.2.1 (pAll tt n (n + 1) 0 0 x0P).2.2.2.2.2.2.2.1 (pAll tt n (n + 1) 0 0 x0P).2.2.2.1 (pAll tt n (n + 1) 0 0 x0P).2.2.2.2.1 (sg.1, 0, plc (pAll tt n (n + 1) 0 0 x0P).2.2.2, 0, 0) 0 hi im (fun _ => false) 0 sk sv)) ∧ ∀ j, j < 53 → V' j = V j)) 0 0 0 0 17 [(1, .int (nI (f))), (0, .ref (ad (53)))] [] SX ad V1 := by
  intro m
  induction m with
  | zero => intro f V1 hf8 hm bd hf; omega
  | succ m ih =>
    intro f V1 hf8 hm bd hf
    refine Wp_iload_n dX9_book_17 rfl 0 rfl ?_
    refine Wp_bipush (v := (nI (8))) dX9_book_18 (by decide) ?_
    refine Wp_icmp_ge (tgt := 53) dX9_book_20 (by decide) (nI_toInt (by omega)) (nI_toInt (by omega)) (fun c_20 => ?_) (fun c_20 => ?_)
    · refine Wp_aload_n dX9_book_53 rfl 1 rfl ?_
      refine Wp_aload_n dX9_book_54 rfl 1 rfl ?_
      refine Wp_get (x := (nI (y.2.2.1))) fk_X9_119 sx_53 rfl bd.1.2.1.1 dX9_book_55 ?_
      refine Wp_put fk_X9_145 sx_53 rfl rfl rfl dX9_book_58 ?_
      refine Wp_iconst (v := (nI (0))) dX9_book_61 (by decide) ?_
      refine Wp_istore_n (lv' := [(1, .int (nI (0))), (0, .ref (ad (53)))]) dX9_book_62 rfl (by decide) rfl ?_
      exact lp_X9_book2 ml hR hle hpl hY 11 0 _ (by omega) (by have := bd.1.2.1.2.1; omega) (bd.of (fun i hi => by rw [up2_k (by omega)]) (fun j hj => by simp only [up2, if_neg (show j ≠ 53 by omega)])) (fun g hg => hf g (by omega)) (by rw [up2_s]) (fun t ht => by omega)
    · refine Wp_aload_n dX9_book_23 rfl 1 rfl ?_
      refine Wp_getr fk_X9_26 sx_53 rfl dX9_book_24 ?_
      refine Wp_iload_n dX9_book_27 rfl 0 rfl ?_
      refine Wp_aload_n dX9_book_28 rfl 1 rfl ?_
      refine Wp_getr fk_X9_38 sx_53 rfl dX9_book_29 ?_
      refine Wp_iload_n dX9_book_32 rfl 0 rfl ?_
      refine Wp_ild (n := f) (y := (nI (y.1 f))) sx_63 rfl (by omega) (by decide) (bd.1.1 f (by omega)).1 dX9_book_33 ?_
      refine Wp_ist (n := f) sx_59 rfl (by omega) (by decide) dX9_book_34 ?_
      refine Wp_aload_n dX9_book_35 rfl 1 rfl ?_
      refine Wp_getr fk_X9_29 sx_53 rfl dX9_book_36 ?_
      refine Wp_iload_n dX9_book_39 rfl 0 rfl ?_
      refine Wp_aload_n dX9_book_40 rfl 1 rfl ?_
      refine Wp_getr fk_X9_41 sx_53 rfl dX9_book_41 ?_
      refine Wp_iload_n dX9_book_44 rfl 0 rfl ?_
      refine Wp_ild (n := f) (y := (nI (y.2.1 f))) sx_64 rfl (by omega) (by decide) (by rw [up2_i (by decide)]; exact (bd.1.1 f (by omega)).2.1) dX9_book_45 ?_
      refine Wp_ist (n := f) sx_60 rfl (by omega) (by decide) dX9_book_46 ?_
      refine Wp_iinc (x := (nI ((f + 1)))) (lv' := [(1, .int (nI ((f + 1)))), (0, .ref (ad (53)))]) dX9_book_47 0 rfl (w_inc1 _) (by decide) rfl ?_
      refine Wp_goto (tgt := 17) dX9_book_50 (by decide) ?_
      exact ih (f + 1) _ (by omega) (by omega) (bd.of (fun i hi => by simp only [up2, if_neg (show (53 : Nat) ≠ 59 by decide), if_neg (show (53 : Nat) ≠ 60 by decide)]) (fun j hj => by simp only [up2, if_neg (show j ≠ 59 by omega), if_neg (show j ≠ 60 by omega)])) (fun g hg => by
        by_cases z : g = f
        · subst z; exact ⟨by rw [up2_i (by decide), up2_s], by rw [up2_s]⟩
        · rw [up2_i (show (59 : Nat) ≠ 60 by decide), up2_k z, up2_k z, up2_i (show (60 : Nat) ≠ 59 by decide)]; exact hf g (by omega))
theorem c_X9_book {E : wE} {ad : Nat → Nat} {V : wV} {B n nb hn q : Nat} {tt ln col siz sk sv : Nat → Nat} {lt : Nat → Nat → Nat} {sg : aSig} {hi im : Nat → aSig} {kp : Nat → Bool} (ml : ML V B n tt nb ln lt col siz sg hn hi im kp q sk sv)  : w_C E mX9_book (w_R 7 0 0) 0 0 [.ref (ad (53))] SX ad V (w_i SX ad (fun r V' => (((pAll tt n (n + 1) 0 0 x0P).1 = false ∧ r = (-10) - nI (skp tt n (pAll tt n (n + 1) 0 0 x0P).2.2.1) ∧ ML V' B n tt nb ln lt col siz sg hn hi im kp q sk sv) ∨ ((pAll tt n (n + 1) 0 0 x0P).1 = true ∧ r = nI (pAll tt n (n + 1) 0 0 x0P).2.1 ∧ ML V' B 0 tt (pAll tt n (n + 1) 0 0 x0P).2.2.2.2.2.1 (pAll tt n (n + 1) 0 0 x0P).2.2.2.2.2.2.1 (pAll tt n (n + 1) 0 0 x0P).2.2.2.2.2.2.2.1 (pAll tt n (n + 1) 0 0 x0P).2.2.2.1 (pAll tt n (n + 1) 0 0 x0P).2.2.2.2.1 (sg.1, 0, plc (pAll tt n (n + 1) 0 0 x0P).2.2.2, 0, 0) 0 hi im (fun _ => false) 0 sk sv)) ∧ ∀ j, j < 53 → V' j = V j)) := by
  refine w_C.of (by decide) (Nat.le_of_ble_eq_true rfl) ?_
  show Wp _ _ _ _ _ _ _ _ _ [(0, .ref (ad (53)))] [] SX ad V
  obtain ⟨tx, bk, fg, ⟨w0, ok0⟩, ⟨hs1, hs2, hsj⟩, img, sn⟩ := id ml
  have hn120 := tx.2.1
  have hnb := bk.2.1
  have hq6 := sn.2.1
  have hl8 := ok0.1
  have hpl3 := ok0.2.1
  have hpl7 := ok0.2.2.1
  have hu9 := ok0.2.2.2.1
  have ht9 := ok0.2.2.2.2.1
  have hle := pAll_le (tt := tt) (n := n) (n + 1) 0 0 x0P (Nat.le_refl 0) (Nat.zero_le n)
  have hpl := pAll_pl (tt := tt) (n := n) (n + 1) 0 0 x0P (Or.inl rfl)
  refine Wp_aload_n dX9_book_0 rfl 0 rfl ?_
  refine Wp_callVi (c_X9_reads tx) YV_X9_reads ml_X9_142 sx_53 rfl dX9_book_1 (by omega) (by decide) (by omega) (by omega) rfl rfl (Nat.le_of_ble_eq_true rfl) (fun r1 V1 hr1 => ?_)
  obtain ⟨e1, b1, d1, fr1⟩ := hr1
  subst e1
  refine Wp_ifne_b (tgt := 15) dX9_book_4 (by decide) (fun c_4 => ?_) (fun c_4 => ?_)
  · refine Wp_iconst (v := (nI (0))) dX9_book_15 (by decide) ?_
    refine Wp_istore_n (lv' := [(1, .int (nI (0))), (0, .ref (ad (53)))]) dX9_book_16 rfl (by decide) rfl ?_
    exact lp_X9_book1 ml c_4 (by omega) hpl rfl 9 0 V1 (by omega) (by omega) ⟨(d1 c_4).1, (d1 c_4).2, fun j hj => fr1.2 j (by omega) (by omega) (by omega) (by omega) (by omega)⟩ (fun g hg => by omega)
  · refine Wp_bipush (v := ((-10))) dX9_book_7 (by decide) ?_
    refine Wp_aload_n dX9_book_9 rfl 0 rfl ?_
    refine Wp_get (x := (nI (skp tt n (pAll tt n (n + 1) 0 0 x0P).2.2.1))) fk_X9_88 sx_53 rfl (b1 c_4) dX9_book_10 ?_
    refine Wp_isub (z := ((((-10)) - (nI (skp tt n (pAll tt n (n + 1) 0 0 x0P).2.2.1))))) dX9_book_13 rfl ?_
    exact Wp_iret rfl ⟨rfl, rfl, _, rfl, ⟨Or.inl ⟨c_4, rfl, ml.of fr1.1 (fun j h1 h2 => fr1.2 j (by omega) (by omega) (by omega) (by omega) (by omega))⟩, fun j hj => fr1.2 j (by omega) (by omega) (by omega) (by omega) (by omega)⟩⟩ (Nat.le_refl _) (Nat.le_refl _) dX9_book_14
