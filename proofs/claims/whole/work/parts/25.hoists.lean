/-! THE CLASS: what needs the hoists; images; counts -/
def CUTS (lw : Nat → Nat → Bool) (n : Nat) (md : Bool) (H : Nat) (st : Nat → Nat) : Prop := md = MADE lw n ∧ (md = true → DPS lw n H st) ∧ (md = false → H = 0) ∧ H ≤ 8
theorem CT.cuts {V : wV} {ct ss rw pl n nb : Nat} {row : Nat → Nat} {lw : Nat → Nat → Bool} {md : Bool} {H : Nat} {st : Nat → Nat} (h : CT V ct ss rw pl n nb row lw md H st) : CUTS lw n md H st := ⟨h.2.2.2.2.2.1, h.2.2.2.2.2.2.1, h.2.2.2.2.2.2.2, h.2.2.2.1⟩
theorem hgo9 {len : Nat} (h : len ≤ 8) : ∀ i, i < len → ((i : Int) = (-9 : Int32).toInt ↔ i = 8) := by
  intro i hi
  rw [show (-9 : Int32).toInt = -9 by decide]
  constructor <;> intro q <;> omega
theorem hgoN {len p : Nat} (h : p < 2 ^ 31) : ∀ i, i < len → ((i : Int) = (nI p).toInt ↔ i = p) := by
  intro i hi
  rw [nI_toInt h]
  constructor <;> intro q <;> omega
def snB (md : Bool) (H : Nat) (sg : aSig) : Bool := decide (sg.2.2.2.2 = 0) && (md && decide (sg.2.2.2.1 < H))
def snR (b : Bool) (sg : aSig) : Int32 := if b = true then nI sg.2.2.2.1 else -2
def snS (b : Bool) (sg : aSig) : aSig := if b = true then (sg.1, sg.2.1, sg.2.2.1, sg.2.2.2.1, 1) else sg
theorem c_X8_sends {E : wE} {ad : Nat → Nat} {V : wV} {B n nb hn q : Nat} {tt ln col siz sk sv : Nat → Nat} {lt : Nat → Nat → Nat} {sg : aSig} {hi im : Nat → aSig} {kp : Nat → Bool} (cl : CL V B n tt nb ln lt col siz sg hn hi im kp q sk sv) (hB : B < 2 ^ 30)  : w_C E mX8_sends (w_R 5 0 0) 0 0 [.ref (ad (0))] SX ad V (w_i SX ad (fun r V' => ∃ md H st, CUTS (law sg.2.2.1 ln lt (del sg.1 8)) sg.2.1 md H st ∧ r = snR (snB md H sg) sg ∧ CL V' (B + 1) n tt nb ln lt col siz (snS (snB md H sg) sg) (hN (snB md H sg) hn) (hH (snB md H sg) hi hn sg) im kp q sk sv ∧ ∀ j, 53 ≤ j → V' j = V j)) := by
  refine w_C.of (by decide) (Nat.le_of_ble_eq_true rfl) ?_
  show Wp _ _ _ _ _ _ _ _ _ [(0, .ref (ad (0)))] [] SX ad V
  obtain ⟨tx, ⟨bk, fg⟩, ⟨s0, ok0⟩, ⟨ol, hs, okh⟩, img, sn⟩ := id cl
  have hn120 := tx.2.1
  have hnb := bk.2.1
  have hn10 := hs.2.2.2.1
  have hq6 := sn.2.1
  have hl8 := ok0.1
  have ht9 := ok0.2.2.2.2.1
  have hu9 := ok0.2.2.2.1
  refine Wp_aload_n dX8_sends_0 rfl 0 rfl ?_
  refine Wp_getr fk_X8_74 sx_0 rfl dX8_sends_1 ?_
  refine Wp_aload_n dX8_sends_4 rfl 0 rfl ?_
  refine Wp_getr fk_X8_35 sx_0 rfl dX8_sends_5 ?_
  refine Wp_bipush (v := ((-9))) dX8_sends_8 (by decide) ?_
  refine Wp_callVv (c_X1_make sx_45 sx_46 sx_50 sx_51 sx_52 sx_47 sx_48 sx_49 sx_8 sx_11 sx_12 sx_13 bk (by decide) (by decide) (by decide) (by decide) (by decide) (ms := sg.1) (len := sg.2.1) (pl := sg.2.2.1) (un := sg.2.2.2.1) (ti := sg.2.2.2.2) (go := 8) (n := sg.2.1) s0 ok0.1 ok0.2.2.1 ok0.2.2.2.2.2 (Or.inr ⟨ok0.1, rfl⟩) (x := -9) (hgo9 ok0.1)) YV_X1_make ml_X8_143 sx_45 rfl dX8_sends_10 (by omega) (by decide) (by omega) (by omega) rfl rfl (Nat.le_of_ble_eq_true rfl) (fun V1 hV1 => ?_)
  obtain ⟨⟨md, H, st, k1⟩, fr1⟩ := hV1
  have hcu := k1.cuts
  have hH8 := k1.2.2.2.1
  have cl1 : CL V1 B n tt nb ln lt col siz sg hn hi im kp q sk sv := cl.of (fun j hj => fr1 j (by omega) (by omega) (by omega) (by omega) (by omega) (by omega) (by omega) (by omega))
  obtain ⟨tx1, ⟨bk1, fg1⟩, ⟨s1, -⟩, ⟨ol1, hs1, -⟩, img1, sn1⟩ := id cl1
  have frm1 : ∀ j, 53 ≤ j → V1 j = V j := fun j hj => fr1 j (by omega) (by omega) (by omega) (by omega) (by omega) (by omega) (by omega) (by omega)
  refine Wp_aload_n dX8_sends_13 rfl 0 rfl ?_
  refine Wp_getr fk_X8_35 sx_0 rfl dX8_sends_14 ?_
  refine Wp_callVg (c_X6_isUp sx_12 s1.2.2.2.1 (by omega)) YV_X6_isUp ml_X8_147 sx_12 rfl dX8_sends_17 (by omega) (by decide) (by omega) (by omega) rfl rfl (Nat.le_of_ble_eq_true rfl) ?_
  refine Wp_ifne_b (tgt := 50) dX8_sends_20 (by decide) (fun c_20 => ?_) (fun c_20 => ?_)
  · have q20 := of_decide_eq_true c_20
    have e : (snB md H sg) = false := by unfold snB; rw [decide_eq_false (by omega)]; rfl
    refine Wp_bipush (v := ((-2))) dX8_sends_50 (by decide) ?_
    exact Wp_iret rfl ⟨rfl, rfl, _, rfl, by
    refine ⟨md, H, st, hcu, by unfold snR; rw [if_neg (by rw [e]; decide)], ?_, frm1⟩
    rw [hNf e, hHf e]; unfold snS; rw [if_neg (by rw [e]; decide)]; exact cl1.mono (by omega)⟩ (Nat.le_refl _) (Nat.le_refl _) dX8_sends_52
  · have q20 := of_decide_eq_false c_20
    refine Wp_aload_n dX8_sends_23 rfl 0 rfl ?_
    refine Wp_getr fk_X8_74 sx_0 rfl dX8_sends_24 ?_
    refine Wp_get (x := (bI (md))) fk_X8_151 sx_45 rfl k1.1 dX8_sends_27 ?_
    refine Wp_ifeq_b (tgt := 50) dX8_sends_30 (by decide) (fun c_30 => ?_) (fun c_30 => ?_)
    · have e : (snB md H sg) = false := by unfold snB; rw [c_30]; simp
      refine Wp_bipush (v := ((-2))) dX8_sends_50 (by decide) ?_
      exact Wp_iret rfl ⟨rfl, rfl, _, rfl, by
    refine ⟨md, H, st, hcu, by unfold snR; rw [if_neg (by rw [e]; decide)], ?_, frm1⟩
    rw [hNf e, hHf e]; unfold snS; rw [if_neg (by rw [e]; decide)]; exact cl1.mono (by omega)⟩ (Nat.le_refl _) (Nat.le_refl _) dX8_sends_52
    · refine Wp_aload_n dX8_sends_33 rfl 0 rfl ?_
      refine Wp_getr fk_X8_35 sx_0 rfl dX8_sends_34 ?_
      refine Wp_get (x := (nI (sg.2.2.2.1))) fk_X8_155 sx_12 rfl s1.2.2.1 dX8_sends_37 ?_
      refine Wp_aload_n dX8_sends_40 rfl 0 rfl ?_
      refine Wp_getr fk_X8_74 sx_0 rfl dX8_sends_41 ?_
      refine Wp_get (x := (nI (H))) fk_X8_158 sx_45 rfl k1.2.1 dX8_sends_44 ?_
      refine Wp_icmp_lt (tgt := 53) dX8_sends_47 (by decide) (nI_toInt (by omega)) (nI_toInt (by omega)) (fun c_47 => ?_) (fun c_47 => ?_)
      · have e : (snB md H sg) = true := by unfold snB; rw [show decide (sg.2.2.2.2 = 0) = true from decide_eq_true (by omega), show decide (sg.2.2.2.1 < H) = true from decide_eq_true (by omega), c_30]; rfl
        refine Wp_aload_n dX8_sends_53 rfl 0 rfl ?_
        refine Wp_getr fk_X8_50 sx_0 rfl dX8_sends_54 ?_
        refine Wp_aload_n dX8_sends_57 rfl 0 rfl ?_
        refine Wp_getr fk_X8_35 sx_0 rfl dX8_sends_58 ?_
        refine Wp_callVv (c_X2_remember sx_14 sx_15 sx_12 sx_13 rgX hs1 s1 ok0.1 (by omega)) YV_X2_remember ml_X8_125 sx_14 rfl dX8_sends_61 (by omega) (by decide) (by omega) (by omega) rfl rfl (Nat.le_of_ble_eq_true rfl) (fun V2 hV2 => ?_)
        obtain ⟨⟨ol2, h2⟩, fr2⟩ := hV2
        have s2 : SG V2 12 13 sg := s1.of (fr2 12 (by omega) (by omega)) (fr2 13 (by omega) (by omega))
        have okh1 := hpush_ok okh ok0 hn10
        refine Wp_aload_n dX8_sends_64 rfl 0 rfl ?_
        refine Wp_getr fk_X8_35 sx_0 rfl dX8_sends_65 ?_
        refine Wp_iconst (v := (nI (1))) dX8_sends_68 (by decide) ?_
        refine Wp_put fk_X8_161 sx_12 rfl rfl rfl dX8_sends_69 ?_
        refine Wp_aload_n dX8_sends_72 rfl 0 rfl ?_
        refine Wp_getr fk_X8_35 sx_0 rfl dX8_sends_73 ?_
        refine Wp_get (x := (nI (sg.2.2.2.1))) fk_X8_155 sx_12 rfl ((up2_k (by decide)).trans s2.2.2.1) dX8_sends_76 ?_
        exact Wp_iret rfl ⟨rfl, rfl, _, rfl, by
    have f3 : ∀ j, j ≠ 12 → up2 V2 12 4 (nI 1) j = V2 j := fun j hj => by simp [up2, hj]
    refine ⟨md, H, st, hcu, by unfold snR; rw [if_pos e], ?_, fun j hj => by rw [f3 j (by omega), fr2 j (by omega) (by omega), frm1 j hj]⟩
    rw [hNt e, hHt e]; unfold snS; rw [if_pos e]
    refine cl1.deed (h2.of (f3 14 (by omega)) (fun j a1 a2 => f3 j (by omega))) (fun j hj => (okh1 j hj).mono (by omega)) ⟨?_, ?_, ?_, ?_, ?_⟩ ⟨ok0.1, ok0.2.1, ok0.2.2.1, by simp only; omega, by simp only; omega, ok0.2.2.2.2.2⟩ (by omega) (fun j a1 a2 a3 a4 a5 => by rw [f3 j a2, fr2 j a4 a5])
    · simp [up2, upd]; exact s2.1
    · simp [up2, upd]; exact s2.2.1
    · simp [up2, upd]; exact s2.2.2.1
    · simp [up2, upd]
    · intro k hk; rw [f3 13 (by omega)]; exact s2.2.2.2.2 k hk⟩ (Nat.le_refl _) (Nat.le_refl _) dX8_sends_79
      · have e : (snB md H sg) = false := by unfold snB; rw [show decide (sg.2.2.2.1 < H) = false from decide_eq_false (by omega)]; simp
        refine Wp_bipush (v := ((-2))) dX8_sends_50 (by decide) ?_
        exact Wp_iret rfl ⟨rfl, rfl, _, rfl, by
    refine ⟨md, H, st, hcu, by unfold snR; rw [if_neg (by rw [e]; decide)], ?_, frm1⟩
    rw [hNf e, hHf e]; unfold snS; rw [if_neg (by rw [e]; decide)]; exact cl1.mono (by omega)⟩ (Nat.le_refl _) (Nat.le_refl _) dX8_sends_52
def imB (x : Int32) : Bool := decide (0 ≤ x.toInt) && decide (x.toInt < 2)
def keR (x : Int32) (sg : aSig) : Int32 := if imB x = true then nI sg.2.1 else -1
def keI (x : Int32) (im : Nat → aSig) (sg : aSig) : Nat → aSig := if imB x = true then va_up im (cn x) sg else im
def keK (x : Int32) (kp : Nat → Bool) : Nat → Bool := if imB x = true then va_up kp (cn x) true else kp
theorem im_cases (x : Int32) : imB x = false ∨ x = nI 0 ∨ x = nI 1 := by
  by_cases h : 0 ≤ x.toInt ∧ x.toInt < 2
  · right
    rcases (show x.toInt = 0 ∨ x.toInt = 1 by omega) with q | q
    · left; exact Int32.toInt_inj.mp (by rw [q]; rfl)
    · right; exact Int32.toInt_inj.mp (by rw [q]; rfl)
  · left
    cases z : imB x with
    | false => rfl
    | true => exact absurd (by simpa [imB] using z) h
theorem imB_f {x : Int32} (h : imB x = false) : ¬ (0 ≤ x.toInt ∧ x.toInt < 2) := by
  intro q; simp [imB, q] at h
theorem c_X8_keep {E : wE} {ad : Nat → Nat} {V : wV} {B n nb hn q : Nat} {tt ln col siz sk sv : Nat → Nat} {lt : Nat → Nat → Nat} {sg : aSig} {hi im : Nat → aSig} {kp : Nat → Bool} (cl : CL V B n tt nb ln lt col siz sg hn hi im kp q sk sv) (x : Int32) : w_C E mX8_keep (w_R 2 0 0) 0 0 [.ref (ad (0)), .int (x)] SX ad V (w_i SX ad (fun r V' => r = keR x sg ∧ CL V' B n tt nb ln lt col siz sg hn hi (keI x im sg) (keK x kp) q sk sv ∧ ∀ j, 53 ≤ j → V' j = V j)) := by
  refine w_C.of (by decide) (Nat.le_of_ble_eq_true rfl) ?_
  show Wp _ _ _ _ _ _ _ _ _ [(0, .ref (ad (0))), (1, .int (x))] [] SX ad V
  obtain ⟨tx, ⟨bk, fg⟩, ⟨s0, ok0⟩, ⟨ol, hs, okh⟩, img, sn⟩ := id cl
  have hn120 := tx.2.1
  have hnb := bk.2.1
  have hn10 := hs.2.2.2.1
  have hq6 := sn.2.1
  have hl8 := ok0.1
  rcases im_cases x with hx | hx | hx
  · have hxb := imB_f hx
    refine Wp_iload_n dX8_keep_0 rfl 1 rfl ?_
    refine Wp_if_lt (tgt := 9) dX8_keep_1 (by decide) (rfl) (fun c_1 => ?_) (fun c_1 => ?_)
    · refine Wp_iconst (v := ((-1))) dX8_keep_9 (by decide) ?_
      exact Wp_iret rfl ⟨rfl, rfl, _, rfl, by
      unfold keR keI keK; rw [if_neg (by rw [hx]; decide), if_neg (by rw [hx]; decide), if_neg (by rw [hx]; decide)]
      exact ⟨rfl, cl, fun _ _ => rfl⟩⟩ (Nat.le_refl _) (Nat.le_refl _) dX8_keep_10
    · refine Wp_iload_n dX8_keep_4 rfl 1 rfl ?_
      refine Wp_iconst (v := (nI (2))) dX8_keep_5 (by decide) ?_
      refine Wp_icmp_lt (tgt := 11) dX8_keep_6 (by decide) (rfl) (nI_toInt (by omega)) (fun c_6 => ?_) (fun c_6 => ?_)
      · exact absurd (show 0 ≤ x.toInt ∧ x.toInt < 2 by omega) hxb --end
      · refine Wp_iconst (v := ((-1))) dX8_keep_9 (by decide) ?_
        exact Wp_iret rfl ⟨rfl, rfl, _, rfl, by
      unfold keR keI keK; rw [if_neg (by rw [hx]; decide), if_neg (by rw [hx]; decide), if_neg (by rw [hx]; decide)]
      exact ⟨rfl, cl, fun _ _ => rfl⟩⟩ (Nat.le_refl _) (Nat.le_refl _) dX8_keep_10
  · subst hx
    refine Wp_iload_n dX8_keep_0 rfl 1 rfl ?_
    refine Wp_if_lt (tgt := 9) dX8_keep_1 (by decide) (nI_toInt (by omega)) (fun c_1 => absurd c_1 (by omega)) (fun c_1 => ?_)
    refine Wp_iload_n dX8_keep_4 rfl 1 rfl ?_
    refine Wp_iconst (v := (nI (2))) dX8_keep_5 (by decide) ?_
    refine Wp_icmp_lt (tgt := 11) dX8_keep_6 (by decide) (nI_toInt (by omega)) (nI_toInt (by omega)) (fun c_6 => ?_) (fun c_6 => absurd c_6 (by omega))
    refine Wp_aload_n dX8_keep_11 rfl 0 rfl ?_
    refine Wp_getr fk_X8_54 sx_0 rfl dX8_keep_12 ?_
    refine Wp_iload_n dX8_keep_15 rfl 1 rfl ?_
    refine Wp_ald (n := 0) sx_36 rfl (by decide) (by decide) rfl dX8_keep_16 ?_
    refine Wp_aload_n dX8_keep_17 rfl 0 rfl ?_
    refine Wp_getr fk_X8_35 sx_0 rfl dX8_keep_18 ?_
    refine Wp_callVv (c_X6_copyFrom sx_37 sx_38 sx_12 sx_13 s0 ok0.1 (by decide)) YV_X6_copyFrom ml_X8_213 sx_37 rfl dX8_keep_21 (by omega) (by decide) (by omega) (by omega) rfl rfl (Nat.le_of_ble_eq_true rfl) (fun V1 hV1 => ?_)
    obtain ⟨g1, fr1⟩ := hV1
    refine Wp_aload_n dX8_keep_24 rfl 0 rfl ?_
    refine Wp_getr fk_X8_58 sx_0 rfl dX8_keep_25 ?_
    refine Wp_iload_n dX8_keep_28 rfl 1 rfl ?_
    refine Wp_iconst (v := (nI (1))) dX8_keep_29 (by decide) ?_
    refine Wp_zst (n := 0) sx_41 rfl (by omega) (by decide) (by decide) dX8_keep_30 ?_
    refine Wp_aload_n dX8_keep_31 rfl 0 rfl ?_
    refine Wp_getr fk_X8_35 sx_0 rfl dX8_keep_32 ?_
    refine Wp_get (x := (nI (sg.2.1))) fk_X8_124 sx_12 rfl ((up2_k (by decide)).trans (show V1 12 1 = nI sg.2.1 by rw [fr1 12 (by decide) (by decide)]; exact s0.1)) dX8_keep_35 ?_
    exact Wp_iret rfl ⟨rfl, rfl, _, rfl, by
      have f2 : ∀ j, j ≠ 37 → j ≠ 38 → j ≠ 41 → up2 V1 41 0 (nI 1) j = V j := fun j h1 h2 h3 => by rw [← fr1 j h1 h2]; simp [up2, h3]
      refine ⟨rfl, ?_, fun j hj => f2 j (by omega) (by omega) (by omega)⟩
      refine ⟨tx.of (by rw [f2 1 (by omega) (by omega) (by omega)]; exact tx.1) (f2 2 (by omega) (by omega) (by omega)), ⟨bk.of (f2 8 (by omega) (by omega) (by omega)) (f2 11 (by omega) (by omega) (by omega)), fg.of (f2 9 (by omega) (by omega) (by omega)) (f2 10 (by omega) (by omega) (by omega))⟩, ⟨s0.of (f2 12 (by omega) (by omega) (by omega)) (f2 13 (by omega) (by omega) (by omega)), ok0⟩, ⟨ol, hs.of (f2 14 (by omega) (by omega) (by omega)) (fun j a1 a2 => f2 j (by omega) (by omega) (by omega)), okh⟩, fun i hi => ?_, sn.of (f2 42 (by omega) (by omega) (by omega)) (f2 43 (by omega) (by omega) (by omega)) (f2 44 (by omega) (by omega) (by omega))⟩
      have ek : keK (nI 0) kp = va_up kp 0 true := rfl
      have ei : keI (nI 0) im sg = va_up im 0 sg := rfl
      rw [ek, ei]
      by_cases z : i = 0
      · subst z
        refine ⟨by rw [up2_s]; rfl, fun _ => ?_⟩
        simp only [va_up, if_true]
        exact ⟨g1.of (by simp [up2]) (by simp [up2]), ok0⟩
      · have hio : i = 1 := by omega
        subst hio
        have := img 1 (by omega)
        refine ⟨by rw [up2_k (by decide), fr1 41 (by decide) (by decide)]; exact this.1, fun w => ?_⟩
        have t2 := this.2 w
        exact ⟨t2.1.of (f2 _ (by decide) (by decide) (by decide)) (f2 _ (by decide) (by decide) (by decide)), t2.2⟩⟩ (Nat.le_refl _) (Nat.le_refl _) dX8_keep_38
  · subst hx
    refine Wp_iload_n dX8_keep_0 rfl 1 rfl ?_
    refine Wp_if_lt (tgt := 9) dX8_keep_1 (by decide) (nI_toInt (by omega)) (fun c_1 => absurd c_1 (by omega)) (fun c_1 => ?_)
    refine Wp_iload_n dX8_keep_4 rfl 1 rfl ?_
    refine Wp_iconst (v := (nI (2))) dX8_keep_5 (by decide) ?_
    refine Wp_icmp_lt (tgt := 11) dX8_keep_6 (by decide) (nI_toInt (by omega)) (nI_toInt (by omega)) (fun c_6 => ?_) (fun c_6 => absurd c_6 (by omega))
    refine Wp_aload_n dX8_keep_11 rfl 0 rfl ?_
    refine Wp_getr fk_X8_54 sx_0 rfl dX8_keep_12 ?_
    refine Wp_iload_n dX8_keep_15 rfl 1 rfl ?_
    refine Wp_ald (n := 1) sx_36 rfl (by decide) (by decide) rfl dX8_keep_16 ?_
    refine Wp_aload_n dX8_keep_17 rfl 0 rfl ?_
    refine Wp_getr fk_X8_35 sx_0 rfl dX8_keep_18 ?_
    refine Wp_callVv (c_X6_copyFrom sx_39 sx_40 sx_12 sx_13 s0 ok0.1 (by decide)) YV_X6_copyFrom ml_X8_213 sx_39 rfl dX8_keep_21 (by omega) (by decide) (by omega) (by omega) rfl rfl (Nat.le_of_ble_eq_true rfl) (fun V1 hV1 => ?_)
    obtain ⟨g1, fr1⟩ := hV1
    refine Wp_aload_n dX8_keep_24 rfl 0 rfl ?_
    refine Wp_getr fk_X8_58 sx_0 rfl dX8_keep_25 ?_
    refine Wp_iload_n dX8_keep_28 rfl 1 rfl ?_
    refine Wp_iconst (v := (nI (1))) dX8_keep_29 (by decide) ?_
    refine Wp_zst (n := 1) sx_41 rfl (by omega) (by decide) (by decide) dX8_keep_30 ?_
    refine Wp_aload_n dX8_keep_31 rfl 0 rfl ?_
    refine Wp_getr fk_X8_35 sx_0 rfl dX8_keep_32 ?_
    refine Wp_get (x := (nI (sg.2.1))) fk_X8_124 sx_12 rfl ((up2_i (by decide)).trans (show V1 12 1 = nI sg.2.1 by rw [fr1 12 (by decide) (by decide)]; exact s0.1)) dX8_keep_35 ?_
    exact Wp_iret rfl ⟨rfl, rfl, _, rfl, by
      have f2 : ∀ j, j ≠ 39 → j ≠ 40 → j ≠ 41 → up2 V1 41 1 (nI 1) j = V j := fun j h1 h2 h3 => by rw [← fr1 j h1 h2]; simp [up2, h3]
      refine ⟨rfl, ?_, fun j hj => f2 j (by omega) (by omega) (by omega)⟩
      refine ⟨tx.of (by rw [f2 1 (by omega) (by omega) (by omega)]; exact tx.1) (f2 2 (by omega) (by omega) (by omega)), ⟨bk.of (f2 8 (by omega) (by omega) (by omega)) (f2 11 (by omega) (by omega) (by omega)), fg.of (f2 9 (by omega) (by omega) (by omega)) (f2 10 (by omega) (by omega) (by omega))⟩, ⟨s0.of (f2 12 (by omega) (by omega) (by omega)) (f2 13 (by omega) (by omega) (by omega)), ok0⟩, ⟨ol, hs.of (f2 14 (by omega) (by omega) (by omega)) (fun j a1 a2 => f2 j (by omega) (by omega) (by omega)), okh⟩, fun i hi => ?_, sn.of (f2 42 (by omega) (by omega) (by omega)) (f2 43 (by omega) (by omega) (by omega)) (f2 44 (by omega) (by omega) (by omega))⟩
      have ek : keK (nI 1) kp = va_up kp 1 true := rfl
      have ei : keI (nI 1) im sg = va_up im 1 sg := rfl
      rw [ek, ei]
      by_cases z : i = 1
      · subst z
        refine ⟨by rw [up2_s]; rfl, fun _ => ?_⟩
        simp only [va_up, if_true]
        exact ⟨g1.of (by simp [up2]) (by simp [up2]), ok0⟩
      · have hio : i = 0 := by omega
        subst hio
        have := img 0 (by omega)
        refine ⟨by rw [up2_k (by decide), fr1 41 (by decide) (by decide)]; exact this.1, fun w => ?_⟩
        have t2 := this.2 w
        exact ⟨t2.1.of (f2 _ (by decide) (by decide) (by decide)) (f2 _ (by decide) (by decide) (by decide)), t2.2⟩⟩ (Nat.le_refl _) (Nat.le_refl _) dX8_keep_38
def baB (x : Int32) (kp : Nat → Bool) : Bool := imB x && kp (cn x)
def baR (x : Int32) (kp : Nat → Bool) (im : Nat → aSig) : Int32 := if imB x = true then (if kp (cn x) = true then nI (im (cn x)).2.1 else -2) else -1
def baS (x : Int32) (kp : Nat → Bool) (im : Nat → aSig) (sg : aSig) : aSig := if baB x kp = true then im (cn x) else sg
def baH (x : Int32) (kp : Nat → Bool) (hn : Nat) : Nat := if baB x kp = true then 0 else hn
theorem c_X8_back {E : wE} {ad : Nat → Nat} {V : wV} {B n nb hn q : Nat} {tt ln col siz sk sv : Nat → Nat} {lt : Nat → Nat → Nat} {sg : aSig} {hi im : Nat → aSig} {kp : Nat → Bool} (cl : CL V B n tt nb ln lt col siz sg hn hi im kp q sk sv) (x : Int32) : w_C E mX8_back (w_R 2 0 0) 0 0 [.ref (ad (0)), .int (x)] SX ad V (w_i SX ad (fun r V' => r = baR x kp im ∧ CL V' B n tt nb ln lt col siz (baS x kp im sg) (baH x kp hn) hi im kp q sk sv ∧ ∀ j, 53 ≤ j → V' j = V j)) := by
  refine w_C.of (by decide) (Nat.le_of_ble_eq_true rfl) ?_
  show Wp _ _ _ _ _ _ _ _ _ [(0, .ref (ad (0))), (1, .int (x))] [] SX ad V
  obtain ⟨tx, ⟨bk, fg⟩, ⟨s0, ok0⟩, ⟨ol, hs, okh⟩, img, sn⟩ := id cl
  have hn120 := tx.2.1
  have hnb := bk.2.1
  have hn10 := hs.2.2.2.1
  have hq6 := sn.2.1
  have hl8 := ok0.1
  rcases im_cases x with hx | hx | hx
  · have hxb := imB_f hx
    refine Wp_iload_n dX8_back_0 rfl 1 rfl ?_
    refine Wp_if_lt (tgt := 9) dX8_back_1 (by decide) (rfl) (fun c_1 => ?_) (fun c_1 => ?_)
    · refine Wp_iconst (v := ((-1))) dX8_back_9 (by decide) ?_
      exact Wp_iret rfl ⟨rfl, rfl, _, rfl, by
      have e : baB x kp = false := by unfold baB; rw [hx]; rfl
      unfold baR baS baH; rw [if_neg (by rw [hx]; decide), if_neg (by rw [e]; decide), if_neg (by rw [e]; decide)]
      exact ⟨rfl, cl, fun _ _ => rfl⟩⟩ (Nat.le_refl _) (Nat.le_refl _) dX8_back_10
    · refine Wp_iload_n dX8_back_4 rfl 1 rfl ?_
      refine Wp_iconst (v := (nI (2))) dX8_back_5 (by decide) ?_
      refine Wp_icmp_lt (tgt := 11) dX8_back_6 (by decide) (rfl) (nI_toInt (by omega)) (fun c_6 => ?_) (fun c_6 => ?_)
      · exact absurd (show 0 ≤ x.toInt ∧ x.toInt < 2 by omega) hxb --end
      · refine Wp_iconst (v := ((-1))) dX8_back_9 (by decide) ?_
        exact Wp_iret rfl ⟨rfl, rfl, _, rfl, by
      have e : baB x kp = false := by unfold baB; rw [hx]; rfl
      unfold baR baS baH; rw [if_neg (by rw [hx]; decide), if_neg (by rw [e]; decide), if_neg (by rw [e]; decide)]
      exact ⟨rfl, cl, fun _ _ => rfl⟩⟩ (Nat.le_refl _) (Nat.le_refl _) dX8_back_10
  · subst hx
    refine Wp_iload_n dX8_back_0 rfl 1 rfl ?_
    refine Wp_if_lt (tgt := 9) dX8_back_1 (by decide) (nI_toInt (by omega)) (fun c_1 => absurd c_1 (by omega)) (fun c_1 => ?_)
    refine Wp_iload_n dX8_back_4 rfl 1 rfl ?_
    refine Wp_iconst (v := (nI (2))) dX8_back_5 (by decide) ?_
    refine Wp_icmp_lt (tgt := 11) dX8_back_6 (by decide) (nI_toInt (by omega)) (nI_toInt (by omega)) (fun c_6 => ?_) (fun c_6 => absurd c_6 (by omega))
    refine Wp_aload_n dX8_back_11 rfl 0 rfl ?_
    refine Wp_getr fk_X8_58 sx_0 rfl dX8_back_12 ?_
    refine Wp_iload_n dX8_back_15 rfl 1 rfl ?_
    refine Wp_zld (n := 0) (y := (bI (kp 0))) sx_41 rfl (by decide) (by decide) (img 0 (by omega)).1 dX8_back_16 ?_
    refine Wp_ifne_b (tgt := 23) dX8_back_17 (by decide) (fun c_17 => ?_) (fun c_17 => ?_)
    · have t2 := (img 0 (by omega)).2 c_17
      have l2 := t2.2.1
      refine Wp_aload_n dX8_back_23 rfl 0 rfl ?_
      refine Wp_getr fk_X8_35 sx_0 rfl dX8_back_24 ?_
      refine Wp_aload_n dX8_back_27 rfl 0 rfl ?_
      refine Wp_getr fk_X8_54 sx_0 rfl dX8_back_28 ?_
      refine Wp_iload_n dX8_back_31 rfl 1 rfl ?_
      refine Wp_ald (n := 0) sx_36 rfl (by decide) (by decide) rfl dX8_back_32 ?_
      refine Wp_callVv (c_X6_copyFrom sx_12 sx_13 sx_37 sx_38 t2.1 t2.2.1 (by decide)) YV_X6_copyFrom ml_X8_213 sx_12 rfl dX8_back_33 (by omega) (by decide) (by omega) (by omega) rfl rfl (Nat.le_of_ble_eq_true rfl) (fun V1 hV1 => ?_)
      obtain ⟨g1, fr1⟩ := hV1
      refine Wp_aload_n dX8_back_36 rfl 0 rfl ?_
      refine Wp_getr fk_X8_50 sx_0 rfl dX8_back_37 ?_
      refine Wp_iconst (v := (nI (0))) dX8_back_40 (by decide) ?_
      refine Wp_put fk_X8_95 sx_14 rfl rfl rfl dX8_back_41 ?_
      refine Wp_aload_n dX8_back_44 rfl 0 rfl ?_
      refine Wp_getr fk_X8_35 sx_0 rfl dX8_back_45 ?_
      refine Wp_get (x := (nI ((im 0).2.1))) fk_X8_124 sx_12 rfl ((up2_k (by decide)).trans g1.1) dX8_back_48 ?_
      exact Wp_iret rfl ⟨rfl, rfl, _, rfl, by
      have e : baB (nI 0) kp = true := by show (true && kp 0) = true; rw [c_17]; rfl
      unfold baS baH; rw [if_pos e, if_pos e]
      have f2 : ∀ j, j ≠ 12 → j ≠ 13 → j ≠ 14 → up2 V1 14 2 (nI 0) j = V j := fun j h1 h2 h3 => by rw [← fr1 j h1 h2]; simp [up2, h3]
      refine ⟨by show _ = (if kp 0 = true then nI (im 0).2.1 else -2); rw [c_17]; rfl, cl.deed (ol := ol) (hn' := 0) ⟨by rw [up2_k (by decide), fr1 14 (by decide) (by decide)]; exact hs.1, by rw [up2_s], hs.2.2.1, by omega, fun j hj => absurd hj (Nat.not_lt_zero j)⟩ (fun j hj => absurd hj (Nat.not_lt_zero j)) (g1.of (by simp [up2]) (by simp [up2])) t2.2 (Nat.le_refl _) (fun j a1 a2 a3 a4 a5 => f2 j a2 a3 a4), fun j hj => f2 j (by omega) (by omega) (by omega)⟩⟩ (Nat.le_refl _) (Nat.le_refl _) dX8_back_51
    · refine Wp_bipush (v := ((-2))) dX8_back_20 (by decide) ?_
      exact Wp_iret rfl ⟨rfl, rfl, _, rfl, by
      have e : baB (nI 0) kp = false := by show (true && kp 0) = false; rw [c_17]; rfl
      unfold baS baH; rw [if_neg (by rw [e]; decide), if_neg (by rw [e]; decide)]
      exact ⟨by show _ = (if kp 0 = true then nI (im 0).2.1 else -2); rw [c_17]; rfl, cl, fun _ _ => rfl⟩⟩ (Nat.le_refl _) (Nat.le_refl _) dX8_back_22
  · subst hx
    refine Wp_iload_n dX8_back_0 rfl 1 rfl ?_
    refine Wp_if_lt (tgt := 9) dX8_back_1 (by decide) (nI_toInt (by omega)) (fun c_1 => absurd c_1 (by omega)) (fun c_1 => ?_)
    refine Wp_iload_n dX8_back_4 rfl 1 rfl ?_
    refine Wp_iconst (v := (nI (2))) dX8_back_5 (by decide) ?_
    refine Wp_icmp_lt (tgt := 11) dX8_back_6 (by decide) (nI_toInt (by omega)) (nI_toInt (by omega)) (fun c_6 => ?_) (fun c_6 => absurd c_6 (by omega))
    refine Wp_aload_n dX8_back_11 rfl 0 rfl ?_
    refine Wp_getr fk_X8_58 sx_0 rfl dX8_back_12 ?_
    refine Wp_iload_n dX8_back_15 rfl 1 rfl ?_
    refine Wp_zld (n := 1) (y := (bI (kp 1))) sx_41 rfl (by decide) (by decide) (img 1 (by omega)).1 dX8_back_16 ?_
    refine Wp_ifne_b (tgt := 23) dX8_back_17 (by decide) (fun c_17 => ?_) (fun c_17 => ?_)
    · have t2 := (img 1 (by omega)).2 c_17
      have l2 := t2.2.1
      refine Wp_aload_n dX8_back_23 rfl 0 rfl ?_
      refine Wp_getr fk_X8_35 sx_0 rfl dX8_back_24 ?_
      refine Wp_aload_n dX8_back_27 rfl 0 rfl ?_
      refine Wp_getr fk_X8_54 sx_0 rfl dX8_back_28 ?_
      refine Wp_iload_n dX8_back_31 rfl 1 rfl ?_
      refine Wp_ald (n := 1) sx_36 rfl (by decide) (by decide) rfl dX8_back_32 ?_
      refine Wp_callVv (c_X6_copyFrom sx_12 sx_13 sx_39 sx_40 t2.1 t2.2.1 (by decide)) YV_X6_copyFrom ml_X8_213 sx_12 rfl dX8_back_33 (by omega) (by decide) (by omega) (by omega) rfl rfl (Nat.le_of_ble_eq_true rfl) (fun V1 hV1 => ?_)
      obtain ⟨g1, fr1⟩ := hV1
      refine Wp_aload_n dX8_back_36 rfl 0 rfl ?_
      refine Wp_getr fk_X8_50 sx_0 rfl dX8_back_37 ?_
      refine Wp_iconst (v := (nI (0))) dX8_back_40 (by decide) ?_
      refine Wp_put fk_X8_95 sx_14 rfl rfl rfl dX8_back_41 ?_
      refine Wp_aload_n dX8_back_44 rfl 0 rfl ?_
      refine Wp_getr fk_X8_35 sx_0 rfl dX8_back_45 ?_
      refine Wp_get (x := (nI ((im 1).2.1))) fk_X8_124 sx_12 rfl ((up2_k (by decide)).trans g1.1) dX8_back_48 ?_
      exact Wp_iret rfl ⟨rfl, rfl, _, rfl, by
      have e : baB (nI 1) kp = true := by show (true && kp 1) = true; rw [c_17]; rfl
      unfold baS baH; rw [if_pos e, if_pos e]
      have f2 : ∀ j, j ≠ 12 → j ≠ 13 → j ≠ 14 → up2 V1 14 2 (nI 0) j = V j := fun j h1 h2 h3 => by rw [← fr1 j h1 h2]; simp [up2, h3]
      refine ⟨by show _ = (if kp 1 = true then nI (im 1).2.1 else -2); rw [c_17]; rfl, cl.deed (ol := ol) (hn' := 0) ⟨by rw [up2_k (by decide), fr1 14 (by decide) (by decide)]; exact hs.1, by rw [up2_s], hs.2.2.1, by omega, fun j hj => absurd hj (Nat.not_lt_zero j)⟩ (fun j hj => absurd hj (Nat.not_lt_zero j)) (g1.of (by simp [up2]) (by simp [up2])) t2.2 (Nat.le_refl _) (fun j a1 a2 a3 a4 a5 => f2 j a2 a3 a4), fun j hj => f2 j (by omega) (by omega) (by omega)⟩⟩ (Nat.le_refl _) (Nat.le_refl _) dX8_back_51
    · refine Wp_bipush (v := ((-2))) dX8_back_20 (by decide) ?_
      exact Wp_iret rfl ⟨rfl, rfl, _, rfl, by
      have e : baB (nI 1) kp = false := by show (true && kp 1) = false; rw [c_17]; rfl
      unfold baS baH; rw [if_neg (by rw [e]; decide), if_neg (by rw [e]; decide)]
      exact ⟨by show _ = (if kp 1 = true then nI (im 1).2.1 else -2); rw [c_17]; rfl, cl, fun _ _ => rfl⟩⟩ (Nat.le_refl _) (Nat.le_refl _) dX8_back_22
def ctR (x : Int32) (n nb hn q : Nat) (sg : aSig) (md : Bool) (H F : Nat) : Int32 :=
  if x.toInt = 0 then nI nb else if x.toInt = 1 then nI sg.2.1 else if x.toInt = 2 then nI sg.2.2.1 else if x.toInt = 3 then (if md = true then nI H else -9) else if x.toInt = 4 then (if md = true then nI F else -9)
  else if x.toInt = 5 then (if sg.2.2.2.2 = 0 then -9 else nI sg.2.2.2.1) else if x.toInt = 6 then nI sg.2.2.2.1 else if x.toInt = 7 then nI q else if x.toInt = 8 then nI n else if x.toInt = 9 then nI hn else -1
theorem c_X8_count {E : wE} {ad : Nat → Nat} {V : wV} {B n nb hn q : Nat} {tt ln col siz sk sv : Nat → Nat} {lt : Nat → Nat → Nat} {sg : aSig} {hi im : Nat → aSig} {kp : Nat → Bool} (cl : CL V B n tt nb ln lt col siz sg hn hi im kp q sk sv) (hB : B < 2 ^ 30) (x : Int32) : w_C E mX8_count (w_R 6 0 0) 0 0 [.ref (ad (0)), .int (x)] SX ad V (w_i SX ad (fun r V' => ((x.toInt ≠ 3 ∧ x.toInt ≠ 4 ∧ r = ctR x n nb hn q sg true 0 0) ∨ ((x.toInt = 3 ∨ x.toInt = 4) ∧ ∃ md H st, CUTS (law sg.2.2.1 ln lt (del sg.1 8)) sg.2.1 md H st ∧ r = ctR x n nb hn q sg md H (frt (orw col siz ln lt (del sg.1 8) nb sg.2.1) 9))) ∧ CL V' B n tt nb ln lt col siz sg hn hi im kp q sk sv ∧ ∀ j, 53 ≤ j → V' j = V j)) := by
  refine w_C.of (by decide) (Nat.le_of_ble_eq_true rfl) ?_
  show Wp _ _ _ _ _ _ _ _ _ [(0, .ref (ad (0))), (1, .int (x))] [] SX ad V
  obtain ⟨tx, ⟨bk, fg⟩, ⟨s0, ok0⟩, ⟨ol, hs, okh⟩, img, sn⟩ := id cl
  have hn120 := tx.2.1
  have hnb := bk.2.1
  have hn10 := hs.2.2.2.1
  have hq6 := sn.2.1
  have hl8 := ok0.1
  have ht9 := ok0.2.2.2.2.1
  have hu9 := ok0.2.2.2.1
  refine Wp_iload_n dX8_count_0 rfl 1 rfl ?_
  by_cases c_1_0 : ((x)).toInt = 0
  · refine Wp_tableIn (tgt := 56) (off := 55) dX8_count_1 (a := 0) ((rfl).trans c_1_0) (by decide) (by decide) (by decide) (by decide) ?_
    refine Wp_aload_n dX8_count_56 rfl 0 rfl ?_
    refine Wp_getr fk_X8_28 sx_0 rfl dX8_count_57 ?_
    refine Wp_get (x := (nI (nb))) fk_X8_117 sx_8 rfl bk.1 dX8_count_60 ?_
    exact Wp_iret rfl ⟨rfl, rfl, _, rfl, ⟨Or.inl ⟨by omega, by omega, by unfold ctR; rw [if_pos (by omega)]⟩, cl, fun _ _ => rfl⟩⟩ (Nat.le_refl _) (Nat.le_refl _) dX8_count_63
  by_cases c_1_1 : ((x)).toInt = 1
  · refine Wp_tableIn (tgt := 64) (off := 63) dX8_count_1 (a := 1) ((rfl).trans c_1_1) (by decide) (by decide) (by decide) (by decide) ?_
    refine Wp_aload_n dX8_count_64 rfl 0 rfl ?_
    refine Wp_getr fk_X8_35 sx_0 rfl dX8_count_65 ?_
    refine Wp_get (x := (nI (sg.2.1))) fk_X8_124 sx_12 rfl s0.1 dX8_count_68 ?_
    exact Wp_iret rfl ⟨rfl, rfl, _, rfl, ⟨Or.inl ⟨by omega, by omega, by unfold ctR; rw [if_neg (by omega), if_pos (by omega)]⟩, cl, fun _ _ => rfl⟩⟩ (Nat.le_refl _) (Nat.le_refl _) dX8_count_71
  by_cases c_1_2 : ((x)).toInt = 2
  · refine Wp_tableIn (tgt := 72) (off := 71) dX8_count_1 (a := 2) ((rfl).trans c_1_2) (by decide) (by decide) (by decide) (by decide) ?_
    refine Wp_aload_n dX8_count_72 rfl 0 rfl ?_
    refine Wp_getr fk_X8_35 sx_0 rfl dX8_count_73 ?_
    refine Wp_get (x := (nI (sg.2.2.1))) fk_X8_139 sx_12 rfl s0.2.1 dX8_count_76 ?_
    exact Wp_iret rfl ⟨rfl, rfl, _, rfl, ⟨Or.inl ⟨by omega, by omega, by unfold ctR; rw [if_neg (by omega), if_neg (by omega), if_pos (by omega)]⟩, cl, fun _ _ => rfl⟩⟩ (Nat.le_refl _) (Nat.le_refl _) dX8_count_79
  by_cases c_1_3 : ((x)).toInt = 3
  · refine Wp_tableIn (tgt := 80) (off := 79) dX8_count_1 (a := 3) ((rfl).trans c_1_3) (by decide) (by decide) (by decide) (by decide) ?_
    refine Wp_aload_n dX8_count_80 rfl 0 rfl ?_
    refine Wp_getr fk_X8_74 sx_0 rfl dX8_count_81 ?_
    refine Wp_aload_n dX8_count_84 rfl 0 rfl ?_
    refine Wp_getr fk_X8_35 sx_0 rfl dX8_count_85 ?_
    refine Wp_bipush (v := ((-9))) dX8_count_88 (by decide) ?_
    refine Wp_callVv (c_X1_make sx_45 sx_46 sx_50 sx_51 sx_52 sx_47 sx_48 sx_49 sx_8 sx_11 sx_12 sx_13 bk (by decide) (by decide) (by decide) (by decide) (by decide) (ms := sg.1) (len := sg.2.1) (pl := sg.2.2.1) (un := sg.2.2.2.1) (ti := sg.2.2.2.2) (go := 8) (n := sg.2.1) s0 ok0.1 ok0.2.2.1 ok0.2.2.2.2.2 (Or.inr ⟨ok0.1, rfl⟩) (x := -9) (hgo9 ok0.1)) YV_X1_make ml_X8_143 sx_45 rfl dX8_count_90 (by omega) (by decide) (by omega) (by omega) rfl rfl (Nat.le_of_ble_eq_true rfl) (fun V1 hV1 => ?_)
    obtain ⟨⟨md, H, st, k1⟩, fr1⟩ := hV1
    have hcu := k1.cuts
    have hH8 := k1.2.2.2.1
    have cl1 : CL V1 B n tt nb ln lt col siz sg hn hi im kp q sk sv := cl.of (fun j hj => fr1 j (by omega) (by omega) (by omega) (by omega) (by omega) (by omega) (by omega) (by omega))
    obtain ⟨tx1, ⟨bk1, fg1⟩, ⟨s1, -⟩, ⟨ol1, hs1, -⟩, img1, sn1⟩ := id cl1
    have frm1 : ∀ j, 53 ≤ j → V1 j = V j := fun j hj => fr1 j (by omega) (by omega) (by omega) (by omega) (by omega) (by omega) (by omega) (by omega)
    refine Wp_aload_n dX8_count_93 rfl 0 rfl ?_
    refine Wp_getr fk_X8_74 sx_0 rfl dX8_count_94 ?_
    refine Wp_get (x := (bI (md))) fk_X8_151 sx_45 rfl k1.1 dX8_count_97 ?_
    refine Wp_ifeq_b (tgt := 113) dX8_count_100 (by decide) (fun c_100 => ?_) (fun c_100 => ?_)
    · refine Wp_bipush (v := ((-9))) dX8_count_113 (by decide) ?_
      exact Wp_iret rfl ⟨rfl, rfl, _, rfl, ⟨Or.inr ⟨by omega, md, H, st, hcu, by unfold ctR; rw [if_neg (by omega), if_neg (by omega), if_neg (by omega), if_pos (by omega), if_neg (by rw [c_100]; decide)]⟩, cl1, frm1⟩⟩ (Nat.le_refl _) (Nat.le_refl _) dX8_count_115
    · refine Wp_aload_n dX8_count_103 rfl 0 rfl ?_
      refine Wp_getr fk_X8_74 sx_0 rfl dX8_count_104 ?_
      refine Wp_get (x := (nI (H))) fk_X8_158 sx_45 rfl k1.2.1 dX8_count_107 ?_
      refine Wp_goto (tgt := 115) dX8_count_110 (by decide) ?_
      exact Wp_iret rfl ⟨rfl, rfl, _, rfl, ⟨Or.inr ⟨by omega, md, H, st, hcu, by unfold ctR; rw [if_neg (by omega), if_neg (by omega), if_neg (by omega), if_pos (by omega), if_pos c_100]⟩, cl1, frm1⟩⟩ (Nat.le_refl _) (Nat.le_refl _) dX8_count_115
  by_cases c_1_4 : ((x)).toInt = 4
  · refine Wp_tableIn (tgt := 116) (off := 115) dX8_count_1 (a := 4) ((rfl).trans c_1_4) (by decide) (by decide) (by decide) (by decide) ?_
    refine Wp_aload_n dX8_count_116 rfl 0 rfl ?_
    refine Wp_getr fk_X8_74 sx_0 rfl dX8_count_117 ?_
    refine Wp_aload_n dX8_count_120 rfl 0 rfl ?_
    refine Wp_getr fk_X8_35 sx_0 rfl dX8_count_121 ?_
    refine Wp_bipush (v := ((-9))) dX8_count_124 (by decide) ?_
    refine Wp_callVv (c_X1_make sx_45 sx_46 sx_50 sx_51 sx_52 sx_47 sx_48 sx_49 sx_8 sx_11 sx_12 sx_13 bk (by decide) (by decide) (by decide) (by decide) (by decide) (ms := sg.1) (len := sg.2.1) (pl := sg.2.2.1) (un := sg.2.2.2.1) (ti := sg.2.2.2.2) (go := 8) (n := sg.2.1) s0 ok0.1 ok0.2.2.1 ok0.2.2.2.2.2 (Or.inr ⟨ok0.1, rfl⟩) (x := -9) (hgo9 ok0.1)) YV_X1_make ml_X8_143 sx_45 rfl dX8_count_126 (by omega) (by decide) (by omega) (by omega) rfl rfl (Nat.le_of_ble_eq_true rfl) (fun V1 hV1 => ?_)
    obtain ⟨⟨md, H, st, k1⟩, fr1⟩ := hV1
    have hcu := k1.cuts
    have hH8 := k1.2.2.2.1
    have cl1 : CL V1 B n tt nb ln lt col siz sg hn hi im kp q sk sv := cl.of (fun j hj => fr1 j (by omega) (by omega) (by omega) (by omega) (by omega) (by omega) (by omega) (by omega))
    obtain ⟨tx1, ⟨bk1, fg1⟩, ⟨s1, -⟩, ⟨ol1, hs1, -⟩, img1, sn1⟩ := id cl1
    have frm1 : ∀ j, 53 ≤ j → V1 j = V j := fun j hj => fr1 j (by omega) (by omega) (by omega) (by omega) (by omega) (by omega) (by omega) (by omega)
    refine Wp_aload_n dX8_count_129 rfl 0 rfl ?_
    refine Wp_getr fk_X8_74 sx_0 rfl dX8_count_130 ?_
    refine Wp_get (x := (bI (md))) fk_X8_151 sx_45 rfl k1.1 dX8_count_133 ?_
    refine Wp_ifeq_b (tgt := 149) dX8_count_136 (by decide) (fun c_136 => ?_) (fun c_136 => ?_)
    · refine Wp_bipush (v := ((-9))) dX8_count_149 (by decide) ?_
      exact Wp_iret rfl ⟨rfl, rfl, _, rfl, ⟨Or.inr ⟨by omega, md, H, st, hcu, by unfold ctR; rw [if_neg (by omega), if_neg (by omega), if_neg (by omega), if_neg (by omega), if_pos (by omega), if_neg (by rw [c_136]; decide)]⟩, cl1, frm1⟩⟩ (Nat.le_refl _) (Nat.le_refl _) dX8_count_151
    · refine Wp_aload_n dX8_count_139 rfl 0 rfl ?_
      refine Wp_getr fk_X8_74 sx_0 rfl dX8_count_140 ?_
      refine Wp_callVg (c_X1_farthest sx_45 sx_50 sx_8 sx_9 sx_10 sx_11 bk1 k1.2.2.1 fg1) YV_X1_farthest ml_X8_215 sx_45 rfl dX8_count_143 (by omega) (by decide) (by omega) (by omega) rfl rfl (Nat.le_of_ble_eq_true rfl) ?_
      refine Wp_goto (tgt := 151) dX8_count_146 (by decide) ?_
      exact Wp_iret rfl ⟨rfl, rfl, _, rfl, ⟨Or.inr ⟨by omega, md, H, st, hcu, by unfold ctR; rw [if_neg (by omega), if_neg (by omega), if_neg (by omega), if_neg (by omega), if_pos (by omega), if_pos c_136]⟩, cl1, frm1⟩⟩ (Nat.le_refl _) (Nat.le_refl _) dX8_count_151
  by_cases c_1_5 : ((x)).toInt = 5
  · refine Wp_tableIn (tgt := 152) (off := 151) dX8_count_1 (a := 5) ((rfl).trans c_1_5) (by decide) (by decide) (by decide) (by decide) ?_
    refine Wp_aload_n dX8_count_152 rfl 0 rfl ?_
    refine Wp_getr fk_X8_35 sx_0 rfl dX8_count_153 ?_
    refine Wp_callVg (c_X6_isUp sx_12 s0.2.2.2.1 (by omega)) YV_X6_isUp ml_X8_147 sx_12 rfl dX8_count_156 (by omega) (by decide) (by omega) (by omega) rfl rfl (Nat.le_of_ble_eq_true rfl) ?_
    refine Wp_ifeq_b (tgt := 172) dX8_count_159 (by decide) (fun c_159 => ?_) (fun c_159 => ?_)
    · have q5 := of_decide_eq_false c_159
      refine Wp_bipush (v := ((-9))) dX8_count_172 (by decide) ?_
      exact Wp_iret rfl ⟨rfl, rfl, _, rfl, ⟨Or.inl ⟨by omega, by omega, by unfold ctR; rw [if_neg (by omega), if_neg (by omega), if_neg (by omega), if_neg (by omega), if_neg (by omega), if_pos (by omega), if_pos (by omega)]⟩, cl, fun _ _ => rfl⟩⟩ (Nat.le_refl _) (Nat.le_refl _) dX8_count_174
    · have q5 := of_decide_eq_true c_159
      refine Wp_aload_n dX8_count_162 rfl 0 rfl ?_
      refine Wp_getr fk_X8_35 sx_0 rfl dX8_count_163 ?_
      refine Wp_get (x := (nI (sg.2.2.2.1))) fk_X8_155 sx_12 rfl s0.2.2.1 dX8_count_166 ?_
      refine Wp_goto (tgt := 174) dX8_count_169 (by decide) ?_
      exact Wp_iret rfl ⟨rfl, rfl, _, rfl, ⟨Or.inl ⟨by omega, by omega, by unfold ctR; rw [if_neg (by omega), if_neg (by omega), if_neg (by omega), if_neg (by omega), if_neg (by omega), if_pos (by omega), if_neg (by omega)]⟩, cl, fun _ _ => rfl⟩⟩ (Nat.le_refl _) (Nat.le_refl _) dX8_count_174
  by_cases c_1_6 : ((x)).toInt = 6
  · refine Wp_tableIn (tgt := 175) (off := 174) dX8_count_1 (a := 6) ((rfl).trans c_1_6) (by decide) (by decide) (by decide) (by decide) ?_
    refine Wp_aload_n dX8_count_175 rfl 0 rfl ?_
    refine Wp_getr fk_X8_35 sx_0 rfl dX8_count_176 ?_
    refine Wp_get (x := (nI (sg.2.2.2.1))) fk_X8_155 sx_12 rfl s0.2.2.1 dX8_count_179 ?_
    exact Wp_iret rfl ⟨rfl, rfl, _, rfl, ⟨Or.inl ⟨by omega, by omega, by unfold ctR; rw [if_neg (by omega), if_neg (by omega), if_neg (by omega), if_neg (by omega), if_neg (by omega), if_neg (by omega), if_pos (by omega)]⟩, cl, fun _ _ => rfl⟩⟩ (Nat.le_refl _) (Nat.le_refl _) dX8_count_182
  by_cases c_1_7 : ((x)).toInt = 7
  · refine Wp_tableIn (tgt := 183) (off := 182) dX8_count_1 (a := 7) ((rfl).trans c_1_7) (by decide) (by decide) (by decide) (by decide) ?_
    refine Wp_aload_n dX8_count_183 rfl 0 rfl ?_
    refine Wp_getr fk_X8_65 sx_0 rfl dX8_count_184 ?_
    refine Wp_get (x := (nI (q))) fk_X8_98 sx_42 rfl sn.1 dX8_count_187 ?_
    exact Wp_iret rfl ⟨rfl, rfl, _, rfl, ⟨Or.inl ⟨by omega, by omega, by unfold ctR; rw [if_neg (by omega), if_neg (by omega), if_neg (by omega), if_neg (by omega), if_neg (by omega), if_neg (by omega), if_neg (by omega), if_pos (by omega)]⟩, cl, fun _ _ => rfl⟩⟩ (Nat.le_refl _) (Nat.le_refl _) dX8_count_190
  by_cases c_1_8 : ((x)).toInt = 8
  · refine Wp_tableIn (tgt := 191) (off := 190) dX8_count_1 (a := 8) ((rfl).trans c_1_8) (by decide) (by decide) (by decide) (by decide) ?_
    refine Wp_aload_n dX8_count_191 rfl 0 rfl ?_
    refine Wp_getr fk_X8_10 sx_0 rfl dX8_count_192 ?_
    refine Wp_get (x := (nI (n))) fk_X8_78 sx_1 rfl tx.1 dX8_count_195 ?_
    exact Wp_iret rfl ⟨rfl, rfl, _, rfl, ⟨Or.inl ⟨by omega, by omega, by unfold ctR; rw [if_neg (by omega), if_neg (by omega), if_neg (by omega), if_neg (by omega), if_neg (by omega), if_neg (by omega), if_neg (by omega), if_neg (by omega), if_pos (by omega)]⟩, cl, fun _ _ => rfl⟩⟩ (Nat.le_refl _) (Nat.le_refl _) dX8_count_198
  by_cases c_1_9 : ((x)).toInt = 9
  · refine Wp_tableIn (tgt := 199) (off := 198) dX8_count_1 (a := 9) ((rfl).trans c_1_9) (by decide) (by decide) (by decide) (by decide) ?_
    refine Wp_aload_n dX8_count_199 rfl 0 rfl ?_
    refine Wp_getr fk_X8_50 sx_0 rfl dX8_count_200 ?_
    refine Wp_get (x := (nI (hn))) fk_X8_95 sx_14 rfl hs.2.1 dX8_count_203 ?_
    exact Wp_iret rfl ⟨rfl, rfl, _, rfl, ⟨Or.inl ⟨by omega, by omega, by unfold ctR; rw [if_neg (by omega), if_neg (by omega), if_neg (by omega), if_neg (by omega), if_neg (by omega), if_neg (by omega), if_neg (by omega), if_neg (by omega), if_neg (by omega), if_pos (by omega)]⟩, cl, fun _ _ => rfl⟩⟩ (Nat.le_refl _) (Nat.le_refl _) dX8_count_206
  refine Wp_tableOut (tgt := 207) dX8_count_1 (rfl) (by omega) (by decide) ?_
  refine Wp_iconst (v := ((-1))) dX8_count_207 (by decide) ?_
  exact Wp_iret rfl ⟨rfl, rfl, _, rfl, ⟨Or.inl ⟨by omega, by omega, by unfold ctR; rw [if_neg (by omega), if_neg (by omega), if_neg (by omega), if_neg (by omega), if_neg (by omega), if_neg (by omega), if_neg (by omega), if_neg (by omega), if_neg (by omega), if_neg (by omega)]⟩, cl, fun _ _ => rfl⟩⟩ (Nat.le_refl _) (Nat.le_refl _) dX8_count_208
