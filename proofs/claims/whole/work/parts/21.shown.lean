/-! THE CUT: hoists shown, read from afar; what was seen -/
def hsz (pl : Nat) (ln : Nat → Nat) (lt : Nat → Nat → Nat) (row : Nat → Nat) (a e : Nat) : Nat := match hRw pl ln lt row (e - a) a h0H with
  | some g => g.2.1
  | none => 0
theorem hsz_s {pl : Nat} {ln : Nat → Nat} {lt : Nat → Nat → Nat} {row : Nat → Nat} {a e : Nat} {g : aH} (h : hRw pl ln lt row (e - a) a h0H = some g) : hsz pl ln lt row a e = g.2.1 := by unfold hsz; rw [h]
def prd (f : Nat → Nat) (a : Nat) : Nat → Nat
  | 0 => 1
  | k + 1 => prd f a k * f (a + k)
def frt (p : Nat → Bool) : Nat → Nat
  | 0 => 0
  | d + 1 => if p (d + 1) = true then d + 1 else frt p d
theorem CT.of {V V' : wV} {ct ss rw pl n nb : Nat} {row : Nat → Nat} {lw : Nat → Nat → Bool} {md : Bool} {H : Nat} {st : Nat → Nat} (h : CT V ct ss rw pl n nb row lw md H st) (h1 : V' ct = V ct) (h2 : V' ss = V ss) (h3 : V' rw = V rw) : CT V' ct ss rw pl n nb row lw md H st := by
  unfold CT RW; rw [h1, h2, h3]; exact h
theorem c_X1_has {E : wE} {S : List wK} {ad : Nat → Nat} {V : wV} {ct ss rp rw h fw nx : Nat} (hC : S[ct]? = some (.inl (1, [none, none, some (some ss), some (some rp), some (some rw), none, none, some (some h), some (some fw), some (some nx)]))) {pl n nb : Nat} {row : Nat → Nat} {lw : Nat → Nat → Bool} {md : Bool} {H : Nat} {st : Nat → Nat} (k0 : CT V ct ss rw pl n nb row lw md H st) (x : Int32) : w_C E mX1_has (w_R 0 0 0) 0 0 [.ref (ad (ct)), .int (x)] S ad V (w_i S ad (fun r V' => r = bI (md && decide (0 ≤ x.toInt ∧ x.toInt < H)) ∧ V' = V)) := by
  refine w_C.of (by decide) (Nat.le_of_ble_eq_true rfl) ?_
  show Wp _ _ _ _ _ _ _ _ _ [(0, .ref (ad (ct))), (1, .int (x))] [] S ad V
  have hH := k0.2.2.2.1
  refine Wp_aload_n dX1_has_0 rfl 0 rfl ?_
  refine Wp_get (x := (bI (md))) fk_X1_49 hC rfl k0.1 dX1_has_1 ?_
  refine Wp_ifeq_b (tgt := 23) dX1_has_4 (by decide) (fun c_4 => ?_) (fun c_4 => ?_)
  · refine Wp_iconst (v := (nI (0))) dX1_has_23 (by decide) ?_
    exact Wp_zret (b := false) rfl rfl ⟨rfl, rfl, _, rfl, ⟨by first | (rw [c_4]; rfl) | (rw [c_4, decide_eq_false (by omega)]; rfl), rfl⟩⟩ (Nat.le_refl _) (Nat.le_refl _) dX1_has_24
  · refine Wp_iload_n dX1_has_7 rfl 1 rfl ?_
    refine Wp_if_lt (tgt := 23) dX1_has_8 (by decide) (rfl) (fun c_8 => ?_) (fun c_8 => ?_)
    · refine Wp_iconst (v := (nI (0))) dX1_has_23 (by decide) ?_
      exact Wp_zret (b := false) rfl rfl ⟨rfl, rfl, _, rfl, ⟨by first | (rw [c_4]; rfl) | (rw [c_4, decide_eq_false (by omega)]; rfl), rfl⟩⟩ (Nat.le_refl _) (Nat.le_refl _) dX1_has_24
    · refine Wp_iload_n dX1_has_11 rfl 1 rfl ?_
      refine Wp_aload_n dX1_has_12 rfl 0 rfl ?_
      refine Wp_get (x := (nI (H))) fk_X1_57 hC rfl k0.2.1 dX1_has_13 ?_
      refine Wp_icmp_ge (tgt := 23) dX1_has_16 (by decide) (rfl) (nI_toInt (by omega)) (fun c_16 => ?_) (fun c_16 => ?_)
      · refine Wp_iconst (v := (nI (0))) dX1_has_23 (by decide) ?_
        exact Wp_zret (b := false) rfl rfl ⟨rfl, rfl, _, rfl, ⟨by first | (rw [c_4]; rfl) | (rw [c_4, decide_eq_false (by omega)]; rfl), rfl⟩⟩ (Nat.le_refl _) (Nat.le_refl _) dX1_has_24
      · refine Wp_iconst (v := (nI (1))) dX1_has_19 (by decide) ?_
        refine Wp_goto (tgt := 24) dX1_has_20 (by decide) ?_
        exact Wp_zret (b := true) rfl rfl ⟨rfl, rfl, _, rfl, ⟨by rw [c_4, decide_eq_true (by omega)]; rfl, rfl⟩⟩ (Nat.le_refl _) (Nat.le_refl _) dX1_has_24
theorem lp_X1_show {E : wE} {S : List wK} {ad : Nat → Nat} {V : wV} {ct ss rp rw h fw nx rt rl c z k : Nat} (hC : S[ct]? = some (.inl (1, [none, none, some (some ss), some (some rp), some (some rw), none, none, some (some h), some (some fw), some (some nx)]))) (hss : S[ss]? = some (.inr (.inl (false, 9)))) (hrw : S[rw]? = some (.inr (.inl (false, 8)))) (hP : S[rp]? = some (.inl (4, [some (some rt), none, none, some (some rl), none, none, none]))) (hrt : S[rt]? = some (.inr (.inl (false, 7)))) (hrl : S[rl]? = some (.inr (.inl (false, 7)))) (hB : S[h]? = some (.inl (0, [some (some c), some (some z), some (some k), none, none]))) (hk : S[k]? = some (.inr (.inl (false, 10)))) {nb : Nat} {ln : Nat → Nat} {lt : Nat → Nat → Nat} (b : BK V h k nb ln lt) {pl n : Nat} {row : Nat → Nat} {md : Bool} {H : Nat} {st : Nat → Nat} (k0 : CT V ct ss rw pl n nb row (law pl ln lt row) md H st) (n1 : rt ≠ rl) {K : Nat} (hmd : md = true) (hK : K < H)  : ∀ (m : Nat) (f : Nat) (g : aH) (V1 : wV), st K + f ≤ st (K + 1) → st (K + 1) < st K + f + m → hRw pl ln lt row f (st K) h0H = some g → RP V1 rp rt rl pl g → (∀ j, j ≠ rp → j ≠ rt → j ≠ rl → V1 j = V j) → Wp E mX1_show (w_R 3 0 0) (w_v S ad (fun V' => (∃ g, hRw pl ln lt row (st (K + 1) - st K) (st K) h0H = some g ∧ RP V' rp rt rl pl g) ∧ ∀ j, j ≠ rp → j ≠ rt → j ≠ rl → V' j = V j)) 0 0 0 0 26 [(2, .int (nI ((st K + f)))), (0, .ref (ad (ct))), (1, .int (nI (K)))] [] S ad V1 := by
  have hH := k0.2.2.2.1
  have hw := k0.2.2.1
  have hst := k0.2.2.2.2.1 hmd
  have hdp := DPS_lt (k0.2.2.2.2.2.2.1 hmd) hK
  have hn8 := hw.2.2.1
  intro m
  induction m with
  | zero => intro f g V1 h1 hm hg q0 fr; omega
  | succ m ih =>
    intro f g V1 h1 hm hg q0 fr
    refine Wp_iload_n dX1_show_26 rfl 0 rfl ?_
    refine Wp_aload_n dX1_show_27 rfl 1 rfl ?_
    refine Wp_getr fk_X1_9 hC rfl dX1_show_28 ?_
    refine Wp_iload_n dX1_show_31 rfl 2 rfl ?_
    refine Wp_iconst (v := (nI (1))) dX1_show_32 (by decide) ?_
    refine Wp_iadd (z := (nI ((K + 1)))) dX1_show_33 (nI_add _ _) ?_
    refine Wp_ild (n := (K + 1)) (y := (nI (st (K + 1)))) hss rfl (by omega) (by decide) (show V1 ss (K + 1) = nI (st (K + 1)) by rw [fr ss (w_ne hss hP (by simp)) (w_ne hss hrt (by simp)) (w_ne hss hrl (by simp))]; exact (hst (K + 1) (by omega)).1) dX1_show_34 ?_
    refine Wp_icmp_ge (tgt := 62) dX1_show_35 (by decide) (nI_toInt (by omega)) (nI_toInt (by omega)) (fun c_35 => ?_) (fun c_35 => ?_)
    · exact Wp_vret rfl ⟨rfl, rfl, rfl, ⟨⟨g, by rw [show st (K + 1) - st K = f by omega]; exact hg, q0⟩, fr⟩⟩ (Nat.le_refl _) (Nat.le_refl _) dX1_show_62
    · have b1 : BK V1 h k nb ln lt := b.of (fr h (w_ne hB hP (by simp)) (w_ne hB hrt (by simp)) (w_ne hB hrl (by simp))) (fr k (w_ne hk hP (by simp)) (w_ne hk hrt (by simp)) (w_ne hk hrl (by simp)))
      have hsn := hRw_snoc (room := pl) (ln := ln) (lt := lt) (row := row) f (st K) h0H
      rw [hg] at hsn
      have hsn : hRw pl ln lt row (f + 1) (st K) h0H = hCode pl ln lt (row (st K + f)) g := hsn
      have hlw := law_mono (e := st K + (f + 1)) hdp.2.2 (by omega) (by omega)
      unfold law at hlw
      rw [show st K + (f + 1) - st K = f + 1 by omega] at hlw
      obtain ⟨g2, hg2⟩ := Option.isSome_iff_exists.mp hlw
      refine Wp_aload_n dX1_show_38 rfl 1 rfl ?_
      refine Wp_getr fk_X1_18 hC rfl dX1_show_39 ?_
      refine Wp_aload_n dX1_show_42 rfl 1 rfl ?_
      refine Wp_getr fk_X1_31 hC rfl dX1_show_43 ?_
      refine Wp_aload_n dX1_show_46 rfl 1 rfl ?_
      refine Wp_getr fk_X1_22 hC rfl dX1_show_47 ?_
      refine Wp_iload_n dX1_show_50 rfl 0 rfl ?_
      refine Wp_ild (n := (st K + f)) (y := (nI (row (st K + f)))) hrw rfl (by omega) (by decide) (show V1 rw (st K + f) = nI (row (st K + f)) by rw [fr rw (w_ne hrw hP (by simp)) (w_ne hrw hrt (by simp)) (w_ne hrw hrl (by simp))]; exact (hw.2.2.2.2 (st K + f) (by omega)).1) dX1_show_51 ?_
      refine Wp_callVi (c_X4_addCode hP hrt hrl hB hk q0 b1 n1 (hw.2.2.2.2 (st K + f) (by omega)).2) YV_X4_addCode ml_X1_64 hP rfl dX1_show_52 (by omega) (by decide) (by omega) (by omega) rfl rfl (Nat.le_of_ble_eq_true rfl) (fun r7 V7 hr7 => ?_)
      obtain ⟨e7, p7, fr7⟩ := hr7
      subst e7
      refine Wp_pop dX1_show_55 rfl ?_
      refine Wp_iinc (x := (nI (((st K + f) + 1)))) (lv' := [(2, .int (nI (((st K + f) + 1)))), (0, .ref (ad (ct))), (1, .int (nI (K)))]) dX1_show_56 0 rfl (w_inc1 _) (by decide) rfl ?_
      refine Wp_goto (tgt := 26) dX1_show_59 (by decide) ?_
      exact ih (f + 1) g2 V7 (by omega) (by omega) hg2 (p7 g2 (by rw [← hsn]; exact hg2)) (fun j a1 a2 a3 => by rw [fr7 j a1 a2 a3, fr j a1 a2 a3])
theorem c_X1_show {E : wE} {S : List wK} {ad : Nat → Nat} {V : wV} {ct ss rp rw h fw nx rt rl c z k : Nat} (hC : S[ct]? = some (.inl (1, [none, none, some (some ss), some (some rp), some (some rw), none, none, some (some h), some (some fw), some (some nx)]))) (hss : S[ss]? = some (.inr (.inl (false, 9)))) (hrw : S[rw]? = some (.inr (.inl (false, 8)))) (hP : S[rp]? = some (.inl (4, [some (some rt), none, none, some (some rl), none, none, none]))) (hrt : S[rt]? = some (.inr (.inl (false, 7)))) (hrl : S[rl]? = some (.inr (.inl (false, 7)))) (hB : S[h]? = some (.inl (0, [some (some c), some (some z), some (some k), none, none]))) (hk : S[k]? = some (.inr (.inl (false, 10)))) {nb : Nat} {ln : Nat → Nat} {lt : Nat → Nat → Nat} (b : BK V h k nb ln lt) {pl n : Nat} {row : Nat → Nat} {md : Bool} {H : Nat} {st : Nat → Nat} (k0 : CT V ct ss rw pl n nb row (law pl ln lt row) md H st) (n1 : rt ≠ rl) {K : Nat} (hmd : md = true) (hK : K < H)  : w_C E mX1_show (w_R 3 0 0) 0 0 [.ref (ad (ct)), .int (nI (K))] S ad V (w_v S ad (fun V' => (∃ g, hRw pl ln lt row (st (K + 1) - st K) (st K) h0H = some g ∧ RP V' rp rt rl pl g) ∧ ∀ j, j ≠ rp → j ≠ rt → j ≠ rl → V' j = V j)) := by
  refine w_C.of (by decide) (Nat.le_of_ble_eq_true rfl) ?_
  show Wp _ _ _ _ _ _ _ _ _ [(0, .ref (ad (ct))), (1, .int (nI (K)))] [] S ad V
  have hH := k0.2.2.2.1
  have hw := k0.2.2.1
  have hst := k0.2.2.2.2.1 hmd
  have hdp := DPS_lt (k0.2.2.2.2.2.2.1 hmd) hK
  have hn8 := hw.2.2.1
  refine Wp_aload_n dX1_show_0 rfl 0 rfl ?_
  refine Wp_getr fk_X1_18 hC rfl dX1_show_1 ?_
  refine Wp_aload_n dX1_show_4 rfl 0 rfl ?_
  refine Wp_get (x := (nI (pl))) fk_X1_41 hC rfl hw.2.1 dX1_show_5 ?_
  refine Wp_callVv (c_X4_begin hP (rt := rt) (rl := rl) hw.2.2.2.1) YV_X4_begin ml_X1_60 hP rfl dX1_show_8 (by omega) (by decide) (by omega) (by omega) rfl rfl (Nat.le_of_ble_eq_true rfl) (fun V1 hV1 => ?_)
  obtain ⟨q1, fr⟩ := hV1
  have k1 := k0.of (fr ct (w_ne hC hP (by simp))) (fr ss (w_ne hss hP (by simp))) (fr rw (w_ne hrw hP (by simp)))
  refine Wp_aload_n dX1_show_11 rfl 0 rfl ?_
  refine Wp_iload_n dX1_show_12 rfl 1 rfl ?_
  refine Wp_callVg (c_X1_has hC k1 _) YV_X1_has ml_X1_68 hC rfl dX1_show_13 (by omega) (by decide) (by omega) (by omega) rfl rfl (Nat.le_of_ble_eq_true rfl) ?_
  refine Wp_ifeq_b (tgt := 62) dX1_show_16 (by decide) (fun c_16 => absurd c_16 (by rw [hmd, has_nI (by omega), decide_eq_true hK]; decide)) (fun c_16 => ?_)
  refine Wp_aload_n dX1_show_19 rfl 0 rfl ?_
  refine Wp_getr fk_X1_9 hC rfl dX1_show_20 ?_
  refine Wp_iload_n dX1_show_23 rfl 1 rfl ?_
  refine Wp_ild (n := K) (y := (nI ((st K + 0)))) hss rfl (by omega) (by decide) (show V1 ss K = nI (st K + 0) by rw [fr ss (w_ne hss hP (by simp))]; exact (hst K (by omega)).1) dX1_show_24 ?_
  refine Wp_istore_n (lv' := [(2, .int (nI ((st K + 0)))), (0, .ref (ad (ct))), (1, .int (nI (K)))]) dX1_show_25 rfl (by decide) rfl ?_
  exact lp_X1_show hC hss hrw hP hrt hrl hB hk b k0 n1 hmd hK 9 0 h0H V1 (by omega) (by have := (hst (K + 1) (by omega)).2; omega) rfl q1 (fun j a1 a2 a3 => fr j a1)
theorem c_X1_show_no {E : wE} {S : List wK} {ad : Nat → Nat} {V : wV} {ct ss rp rw h fw nx rt rl c z k : Nat} (hC : S[ct]? = some (.inl (1, [none, none, some (some ss), some (some rp), some (some rw), none, none, some (some h), some (some fw), some (some nx)]))) (hss : S[ss]? = some (.inr (.inl (false, 9)))) (hrw : S[rw]? = some (.inr (.inl (false, 8)))) (hP : S[rp]? = some (.inl (4, [some (some rt), none, none, some (some rl), none, none, none]))) (hrt : S[rt]? = some (.inr (.inl (false, 7)))) (hrl : S[rl]? = some (.inr (.inl (false, 7)))) (hB : S[h]? = some (.inl (0, [some (some c), some (some z), some (some k), none, none]))) (hk : S[k]? = some (.inr (.inl (false, 10)))) {nb : Nat} {ln : Nat → Nat} {lt : Nat → Nat → Nat} (b : BK V h k nb ln lt) {pl n : Nat} {row : Nat → Nat} {md : Bool} {H : Nat} {st : Nat → Nat} (k0 : CT V ct ss rw pl n nb row (law pl ln lt row) md H st) (n1 : rt ≠ rl) {x : Int32} (hno : (md && decide (0 ≤ x.toInt ∧ x.toInt < H)) = false)  : w_C E mX1_show (w_R 3 0 0) 0 0 [.ref (ad (ct)), .int (x)] S ad V (w_v S ad (fun V' => RP V' rp rt rl pl h0H ∧ ∀ j, j ≠ rp → j ≠ rt → j ≠ rl → V' j = V j)) := by
  refine w_C.of (by decide) (Nat.le_of_ble_eq_true rfl) ?_
  show Wp _ _ _ _ _ _ _ _ _ [(0, .ref (ad (ct))), (1, .int (x))] [] S ad V
  have hw := k0.2.2.1
  refine Wp_aload_n dX1_show_0 rfl 0 rfl ?_
  refine Wp_getr fk_X1_18 hC rfl dX1_show_1 ?_
  refine Wp_aload_n dX1_show_4 rfl 0 rfl ?_
  refine Wp_get (x := (nI (pl))) fk_X1_41 hC rfl hw.2.1 dX1_show_5 ?_
  refine Wp_callVv (c_X4_begin hP (rt := rt) (rl := rl) hw.2.2.2.1) YV_X4_begin ml_X1_60 hP rfl dX1_show_8 (by omega) (by decide) (by omega) (by omega) rfl rfl (Nat.le_of_ble_eq_true rfl) (fun V1 hV1 => ?_)
  obtain ⟨q1, fr⟩ := hV1
  have k1 := k0.of (fr ct (w_ne hC hP (by simp))) (fr ss (w_ne hss hP (by simp))) (fr rw (w_ne hrw hP (by simp)))
  refine Wp_aload_n dX1_show_11 rfl 0 rfl ?_
  refine Wp_iload_n dX1_show_12 rfl 1 rfl ?_
  refine Wp_callVg (c_X1_has hC k1 _) YV_X1_has ml_X1_68 hC rfl dX1_show_13 (by omega) (by decide) (by omega) (by omega) rfl rfl (Nat.le_of_ble_eq_true rfl) ?_
  refine Wp_ifeq_b (tgt := 62) dX1_show_16 (by decide) (fun c_16 => ?_) (fun c_16 => absurd c_16 (by rw [hno]; decide))
  exact Wp_vret rfl ⟨rfl, rfl, rfl, ⟨q1, fun j a1 a2 a3 => fr j a1⟩⟩ (Nat.le_refl _) (Nat.le_refl _) dX1_show_62
def thg (pl : Nat) (ln : Nat → Nat) (lt : Nat → Nat → Nat) (row : Nat → Nat) (md : Bool) (H : Nat) (st : Nat → Nat) (K : Nat) : Nat := if md = true ∧ K < H then hsz pl ln lt row (st K) (st (K + 1)) else 0
theorem c_X1_thingsOf {E : wE} {S : List wK} {ad : Nat → Nat} {V : wV} {ct ss rp rw h fw nx rt rl c z k : Nat} (hC : S[ct]? = some (.inl (1, [none, none, some (some ss), some (some rp), some (some rw), none, none, some (some h), some (some fw), some (some nx)]))) (hss : S[ss]? = some (.inr (.inl (false, 9)))) (hrw : S[rw]? = some (.inr (.inl (false, 8)))) (hP : S[rp]? = some (.inl (4, [some (some rt), none, none, some (some rl), none, none, none]))) (hrt : S[rt]? = some (.inr (.inl (false, 7)))) (hrl : S[rl]? = some (.inr (.inl (false, 7)))) (hB : S[h]? = some (.inl (0, [some (some c), some (some z), some (some k), none, none]))) (hk : S[k]? = some (.inr (.inl (false, 10)))) {nb : Nat} {ln : Nat → Nat} {lt : Nat → Nat → Nat} (b : BK V h k nb ln lt) {pl n : Nat} {row : Nat → Nat} {md : Bool} {H : Nat} {st : Nat → Nat} (k0 : CT V ct ss rw pl n nb row (law pl ln lt row) md H st) (n1 : rt ≠ rl) {K : Nat} (hK31 : K < 2 ^ 30)  : w_C E mX1_thingsOf (w_R 4 0 0) 0 0 [.ref (ad (ct)), .int (nI (K))] S ad V (w_i S ad (fun r V' => r = nI (thg pl ln lt row md H st K) ∧ thg pl ln lt row md H st K ≤ 7 ∧ ∀ j, j ≠ rp → j ≠ rt → j ≠ rl → V' j = V j)) := by
  refine w_C.of (by decide) (Nat.le_of_ble_eq_true rfl) ?_
  show Wp _ _ _ _ _ _ _ _ _ [(0, .ref (ad (ct))), (1, .int (nI (K)))] [] S ad V
  by_cases hh : md = true ∧ K < H
  · refine Wp_aload_n dX1_thingsOf_0 rfl 0 rfl ?_
    refine Wp_iload_n dX1_thingsOf_1 rfl 1 rfl ?_
    refine Wp_callVv (c_X1_show hC hss hrw hP hrt hrl hB hk b k0 n1 hh.1 hh.2) YV_X1_show ml_X1_71 hC rfl dX1_thingsOf_2 (by omega) (by decide) (by omega) (by omega) rfl rfl (Nat.le_of_ble_eq_true rfl) (fun V1 hV1 => ?_)
    obtain ⟨⟨g, hg, q1⟩, fr⟩ := hV1
    refine Wp_aload_n dX1_thingsOf_5 rfl 0 rfl ?_
    refine Wp_getr fk_X1_18 hC rfl dX1_thingsOf_6 ?_
    refine Wp_get (x := (nI (g.2.1))) fk_X1_74 hP rfl q1.1 dX1_thingsOf_9 ?_
    exact Wp_iret rfl ⟨rfl, rfl, _, rfl, ⟨by unfold thg; rw [if_pos hh, hsz_s hg], by unfold thg; rw [if_pos hh, hsz_s hg]; have z1 := q1.2.2.2.2.2.1; have z2 := q1.2.2.2.2.2.2.1; omega, fr⟩⟩ (Nat.le_refl _) (Nat.le_refl _) dX1_thingsOf_12
  · have hno : (md && decide (0 ≤ (nI K).toInt ∧ (nI K).toInt < H)) = false := by
      rw [has_nI (by omega)]
      cases q : md with
      | false => rfl
      | true => rw [decide_eq_false (fun w => hh ⟨q, w⟩)]; rfl
    refine Wp_aload_n dX1_thingsOf_0 rfl 0 rfl ?_
    refine Wp_iload_n dX1_thingsOf_1 rfl 1 rfl ?_
    refine Wp_callVv (c_X1_show_no hC hss hrw hP hrt hrl hB hk b k0 n1 (x := nI K) hno) YV_X1_show ml_X1_71 hC rfl dX1_thingsOf_2 (by omega) (by decide) (by omega) (by omega) rfl rfl (Nat.le_of_ble_eq_true rfl) (fun V1 hV1 => ?_)
    refine Wp_aload_n dX1_thingsOf_5 rfl 0 rfl ?_
    refine Wp_getr fk_X1_18 hC rfl dX1_thingsOf_6 ?_
    refine Wp_get (x := (nI (0))) fk_X1_74 hP rfl hV1.1.1 dX1_thingsOf_9 ?_
    exact Wp_iret rfl ⟨rfl, rfl, _, rfl, ⟨by unfold thg; rw [if_neg hh], by unfold thg; rw [if_neg hh]; omega, hV1.2⟩⟩ (Nat.le_refl _) (Nat.le_refl _) dX1_thingsOf_12
theorem lp_X1_waysToRead {E : wE} {S : List wK} {ad : Nat → Nat} {V : wV} {ct ss rp rw h fw nx c z k : Nat} (hC : S[ct]? = some (.inl (1, [none, none, some (some ss), some (some rp), some (some rw), none, none, some (some h), some (some fw), some (some nx)]))) (hss : S[ss]? = some (.inr (.inl (false, 9)))) (hrw : S[rw]? = some (.inr (.inl (false, 8)))) (hB : S[h]? = some (.inl (0, [some (some c), some (some z), some (some k), none, none]))) (hc : S[c]? = some (.inr (.inl (false, 8)))) (hz : S[z]? = some (.inr (.inl (false, 8)))) (hk : S[k]? = some (.inr (.inl (false, 10)))) {nb : Nat} {ln : Nat → Nat} {lt : Nat → Nat → Nat} (b : BK V h k nb ln lt) {pl n : Nat} {row : Nat → Nat} {md : Bool} {H : Nat} {st : Nat → Nat} (k0 : CT V ct ss rw pl n nb row (law pl ln lt row) md H st) {col siz : Nat → Nat} (fg : FG V c z col siz) {K : Nat} (hmd : md = true) (hK : K < H) {e : Nat} (he : e ≤ 9)  : ∀ (m : Nat) (f : Nat), st K + f ≤ st (K + 1) → st (K + 1) < st K + f + m → Wp E mX1_waysToRead (w_R 4 0 0) (w_i S ad (fun r V' => r = nI (prd (fun i => lkd (tld col siz ln lt e (row i)) nb) (st K) (st (K + 1) - st K)) ∧ V' = V)) 0 0 0 0 18 [(4, .int (nI ((st K + f)))), (3, .int (nI (prd (fun i => lkd (tld col siz ln lt e (row i)) nb) (st K) f))), (0, .ref (ad (ct))), (1, .int (nI (K))), (2, .int (nI (e)))] [] S ad V := by
  have hH := k0.2.2.2.1
  have hw := k0.2.2.1
  have hst := k0.2.2.2.2.1 hmd
  have hdp := DPS_lt (k0.2.2.2.2.2.2.1 hmd) hK
  have hn8 := hw.2.2.1
  intro m
  induction m with
  | zero => intro f h1 hm; omega
  | succ m ih =>
    intro f h1 hm
    refine Wp_iload dX1_waysToRead_18 0 rfl ?_
    refine Wp_aload_n dX1_waysToRead_20 rfl 2 rfl ?_
    refine Wp_getr fk_X1_9 hC rfl dX1_waysToRead_21 ?_
    refine Wp_iload_n dX1_waysToRead_24 rfl 3 rfl ?_
    refine Wp_iconst (v := (nI (1))) dX1_waysToRead_25 (by decide) ?_
    refine Wp_iadd (z := (nI ((K + 1)))) dX1_waysToRead_26 (nI_add _ _) ?_
    refine Wp_ild (n := (K + 1)) (y := (nI (st (K + 1)))) hss rfl (by omega) (by decide) (hst (K + 1) (by omega)).1 dX1_waysToRead_27 ?_
    refine Wp_icmp_ge (tgt := 55) dX1_waysToRead_28 (by decide) (nI_toInt (by omega)) (nI_toInt (by omega)) (fun c_28 => ?_) (fun c_28 => ?_)
    · refine Wp_iload_n dX1_waysToRead_55 rfl 1 rfl ?_
      exact Wp_iret rfl ⟨rfl, rfl, _, rfl, ⟨by rw [show st (K + 1) - st K = f by omega], rfl⟩⟩ (Nat.le_refl _) (Nat.le_refl _) dX1_waysToRead_56
    · refine Wp_iload_n dX1_waysToRead_31 rfl 1 rfl ?_
      refine Wp_aload_n dX1_waysToRead_32 rfl 2 rfl ?_
      refine Wp_getr fk_X1_31 hC rfl dX1_waysToRead_33 ?_
      refine Wp_aload_n dX1_waysToRead_36 rfl 2 rfl ?_
      refine Wp_getr fk_X1_22 hC rfl dX1_waysToRead_37 ?_
      refine Wp_iload dX1_waysToRead_40 0 rfl ?_
      refine Wp_ild (n := (st K + f)) (y := (nI (row (st K + f)))) hrw rfl (by omega) (by decide) (hw.2.2.2.2 (st K + f) (by omega)).1 dX1_waysToRead_42 ?_
      refine Wp_iload_n dX1_waysToRead_43 rfl 4 rfl ?_
      refine Wp_callVg (c_X0_likenesses hB hc hz hk b fg (hw.2.2.2.2 (st K + f) (by omega)).2 he) YV_X0_likenesses ml_X1_75 hB rfl dX1_waysToRead_44 (by omega) (by decide) (by omega) (by omega) rfl rfl (Nat.le_of_ble_eq_true rfl) ?_
      refine Wp_imul (z := (nI (prd (fun i => lkd (tld col siz ln lt e (row i)) nb) (st K) (f + 1)))) dX1_waysToRead_47 (pk_mul _ _) ?_
      refine Wp_istore_n (lv' := [(3, .int (nI (prd (fun i => lkd (tld col siz ln lt e (row i)) nb) (st K) (f + 1)))), (4, .int (nI ((st K + f)))), (0, .ref (ad (ct))), (1, .int (nI (K))), (2, .int (nI (e)))]) dX1_waysToRead_48 rfl (by decide) rfl ?_
      refine Wp_iinc (x := (nI (((st K + f) + 1)))) (lv' := [(4, .int (nI (((st K + f) + 1)))), (3, .int (nI (prd (fun i => lkd (tld col siz ln lt e (row i)) nb) (st K) (f + 1)))), (0, .ref (ad (ct))), (1, .int (nI (K))), (2, .int (nI (e)))]) dX1_waysToRead_49 1 rfl (w_inc1 _) (by decide) rfl ?_
      refine Wp_goto (tgt := 18) dX1_waysToRead_52 (by decide) ?_
      exact ih (f + 1) (by omega) (by omega)
theorem c_X1_waysToRead {E : wE} {S : List wK} {ad : Nat → Nat} {V : wV} {ct ss rp rw h fw nx c z k : Nat} (hC : S[ct]? = some (.inl (1, [none, none, some (some ss), some (some rp), some (some rw), none, none, some (some h), some (some fw), some (some nx)]))) (hss : S[ss]? = some (.inr (.inl (false, 9)))) (hrw : S[rw]? = some (.inr (.inl (false, 8)))) (hB : S[h]? = some (.inl (0, [some (some c), some (some z), some (some k), none, none]))) (hc : S[c]? = some (.inr (.inl (false, 8)))) (hz : S[z]? = some (.inr (.inl (false, 8)))) (hk : S[k]? = some (.inr (.inl (false, 10)))) {nb : Nat} {ln : Nat → Nat} {lt : Nat → Nat → Nat} (b : BK V h k nb ln lt) {pl n : Nat} {row : Nat → Nat} {md : Bool} {H : Nat} {st : Nat → Nat} (k0 : CT V ct ss rw pl n nb row (law pl ln lt row) md H st) {col siz : Nat → Nat} (fg : FG V c z col siz) {K : Nat} (hmd : md = true) (hK : K < H) {e : Nat} (he : e ≤ 9)  : w_C E mX1_waysToRead (w_R 4 0 0) 0 0 [.ref (ad (ct)), .int (nI (K)), .int (nI (e))] S ad V (w_i S ad (fun r V' => r = nI (prd (fun i => lkd (tld col siz ln lt e (row i)) nb) (st K) (st (K + 1) - st K)) ∧ V' = V)) := by
  refine w_C.of (by decide) (Nat.le_of_ble_eq_true rfl) ?_
  show Wp _ _ _ _ _ _ _ _ _ [(0, .ref (ad (ct))), (1, .int (nI (K))), (2, .int (nI (e)))] [] S ad V
  have hH := k0.2.2.2.1
  have hst := k0.2.2.2.2.1 hmd
  have hdp := DPS_lt (k0.2.2.2.2.2.2.1 hmd) hK
  have hn8 := k0.2.2.1.2.2.1
  refine Wp_iconst (v := (nI (1))) dX1_waysToRead_0 (by decide) ?_
  refine Wp_istore_n (lv' := [(3, .int (nI (1))), (0, .ref (ad (ct))), (1, .int (nI (K))), (2, .int (nI (e)))]) dX1_waysToRead_1 rfl (by decide) rfl ?_
  refine Wp_aload_n dX1_waysToRead_2 rfl 1 rfl ?_
  refine Wp_iload_n dX1_waysToRead_3 rfl 2 rfl ?_
  refine Wp_callVg (c_X1_has hC k0 _) YV_X1_has ml_X1_68 hC rfl dX1_waysToRead_4 (by omega) (by decide) (by omega) (by omega) rfl rfl (Nat.le_of_ble_eq_true rfl) ?_
  refine Wp_ifeq_b (tgt := 55) dX1_waysToRead_7 (by decide) (fun c_7 => absurd c_7 (by rw [hmd, has_nI (by omega), decide_eq_true hK]; decide)) (fun c_7 => ?_)
  refine Wp_aload_n dX1_waysToRead_10 rfl 1 rfl ?_
  refine Wp_getr fk_X1_9 hC rfl dX1_waysToRead_11 ?_
  refine Wp_iload_n dX1_waysToRead_14 rfl 2 rfl ?_
  refine Wp_ild (n := K) (y := (nI ((st K + 0)))) hss rfl (by omega) (by decide) (hst K (by omega)).1 dX1_waysToRead_15 ?_
  refine Wp_istore (lv' := [(4, .int (nI ((st K + 0)))), (3, .int (nI (1))), (0, .ref (ad (ct))), (1, .int (nI (K))), (2, .int (nI (e)))]) dX1_waysToRead_16 (by decide) rfl ?_
  exact lp_X1_waysToRead hC hss hrw hB hc hz hk b k0 fg hmd hK he 9 0 (by omega) (by have := (hst (K + 1) (by omega)).2; omega)
def orw (col siz ln : Nat → Nat) (lt : Nat → Nat → Nat) (row : Nat → Nat) (nb n e : Nat) : Bool := decide (∀ i, i < n → lkd (tld col siz ln lt e (row i)) nb = 1)
theorem lp_X1_isReadOneWay {E : wE} {S : List wK} {ad : Nat → Nat} {V : wV} {ct ss rp rw h fw nx c z k : Nat} (hC : S[ct]? = some (.inl (1, [none, none, some (some ss), some (some rp), some (some rw), none, none, some (some h), some (some fw), some (some nx)]))) (hrw : S[rw]? = some (.inr (.inl (false, 8)))) (hB : S[h]? = some (.inl (0, [some (some c), some (some z), some (some k), none, none]))) (hc : S[c]? = some (.inr (.inl (false, 8)))) (hz : S[z]? = some (.inr (.inl (false, 8)))) (hk : S[k]? = some (.inr (.inl (false, 10)))) {nb : Nat} {ln : Nat → Nat} {lt : Nat → Nat → Nat} (b : BK V h k nb ln lt) {n pl : Nat} {row : Nat → Nat} (w0 : RW V ct rw n pl nb row) {col siz : Nat → Nat} (fg : FG V c z col siz) {e : Nat} (he : e ≤ 9)  : ∀ (m : Nat) (i : Nat), i ≤ n → n < i + m → (∀ t, t < i → lkd (tld col siz ln lt e (row t)) nb = 1) → Wp E mX1_isReadOneWay (w_R 4 0 0) (w_i S ad (fun r V' => r = bI (orw col siz ln lt row nb n e) ∧ V' = V)) 0 0 0 0 2 [(2, .int (nI (i))), (0, .ref (ad (ct))), (1, .int (nI (e)))] [] S ad V := by
  obtain ⟨w1, w2, w3, w4, w5⟩ := w0
  have hnb := b.2.1
  intro m
  induction m with
  | zero => intro i hi hm hv; omega
  | succ m ih =>
    intro i hi hm hv
    refine Wp_iload_n dX1_isReadOneWay_2 rfl 0 rfl ?_
    refine Wp_aload_n dX1_isReadOneWay_3 rfl 1 rfl ?_
    refine Wp_get (x := (nI (n))) fk_X1_42 hC rfl w1 dX1_isReadOneWay_4 ?_
    refine Wp_icmp_ge (tgt := 36) dX1_isReadOneWay_7 (by decide) (nI_toInt (by omega)) (nI_toInt (by omega)) (fun c_7 => ?_) (fun c_7 => ?_)
    · refine Wp_iconst (v := (nI (1))) dX1_isReadOneWay_36 (by decide) ?_
      exact Wp_zret (b := true) rfl rfl ⟨rfl, rfl, _, rfl, ⟨congrArg bI (decide_eq_true (fun t ht => hv t (by omega))).symm, rfl⟩⟩ (Nat.le_refl _) (Nat.le_refl _) dX1_isReadOneWay_37
    · have hle := lkd_le (tld col siz ln lt e (row i)) nb
      refine Wp_aload_n dX1_isReadOneWay_10 rfl 1 rfl ?_
      refine Wp_getr fk_X1_31 hC rfl dX1_isReadOneWay_11 ?_
      refine Wp_aload_n dX1_isReadOneWay_14 rfl 1 rfl ?_
      refine Wp_getr fk_X1_22 hC rfl dX1_isReadOneWay_15 ?_
      refine Wp_iload_n dX1_isReadOneWay_18 rfl 0 rfl ?_
      refine Wp_ild (n := i) (y := (nI (row i))) hrw rfl (by omega) (by decide) (w5 i (by omega)).1 dX1_isReadOneWay_19 ?_
      refine Wp_iload_n dX1_isReadOneWay_20 rfl 2 rfl ?_
      refine Wp_callVg (c_X0_likenesses hB hc hz hk b fg (w5 i (by omega)).2 he) YV_X0_likenesses ml_X1_75 hB rfl dX1_isReadOneWay_21 (by omega) (by decide) (by omega) (by omega) rfl rfl (Nat.le_of_ble_eq_true rfl) ?_
      refine Wp_iconst (v := (nI (1))) dX1_isReadOneWay_24 (by decide) ?_
      refine Wp_icmp_eq (tgt := 30) dX1_isReadOneWay_25 (by decide) (nI_toInt (by omega)) (nI_toInt (by omega)) (fun c_25 => ?_) (fun c_25 => ?_)
      · refine Wp_iinc (x := (nI ((i + 1)))) (lv' := [(2, .int (nI ((i + 1)))), (0, .ref (ad (ct))), (1, .int (nI (e)))]) dX1_isReadOneWay_30 0 rfl (w_inc1 _) (by decide) rfl ?_
        refine Wp_goto (tgt := 2) dX1_isReadOneWay_33 (by decide) ?_
        exact ih (i + 1) (by omega) (by omega) (fun t ht => by
          rcases Nat.lt_or_ge t i with q | q
          · exact hv t q
          · rw [show t = i by omega]; omega)
      · refine Wp_iconst (v := (nI (0))) dX1_isReadOneWay_28 (by decide) ?_
        exact Wp_zret (b := false) rfl rfl ⟨rfl, rfl, _, rfl, ⟨congrArg bI (decide_eq_false (fun w => by have := w i (by omega); omega)).symm, rfl⟩⟩ (Nat.le_refl _) (Nat.le_refl _) dX1_isReadOneWay_29
theorem c_X1_isReadOneWay {E : wE} {S : List wK} {ad : Nat → Nat} {V : wV} {ct ss rp rw h fw nx c z k : Nat} (hC : S[ct]? = some (.inl (1, [none, none, some (some ss), some (some rp), some (some rw), none, none, some (some h), some (some fw), some (some nx)]))) (hrw : S[rw]? = some (.inr (.inl (false, 8)))) (hB : S[h]? = some (.inl (0, [some (some c), some (some z), some (some k), none, none]))) (hc : S[c]? = some (.inr (.inl (false, 8)))) (hz : S[z]? = some (.inr (.inl (false, 8)))) (hk : S[k]? = some (.inr (.inl (false, 10)))) {nb : Nat} {ln : Nat → Nat} {lt : Nat → Nat → Nat} (b : BK V h k nb ln lt) {n pl : Nat} {row : Nat → Nat} (w0 : RW V ct rw n pl nb row) {col siz : Nat → Nat} (fg : FG V c z col siz) {e : Nat} (he : e ≤ 9)  : w_C E mX1_isReadOneWay (w_R 4 0 0) 0 0 [.ref (ad (ct)), .int (nI (e))] S ad V (w_i S ad (fun r V' => r = bI (orw col siz ln lt row nb n e) ∧ V' = V)) := by
  refine w_C.of (by decide) (Nat.le_of_ble_eq_true rfl) ?_
  show Wp _ _ _ _ _ _ _ _ _ [(0, .ref (ad (ct))), (1, .int (nI (e)))] [] S ad V
  refine Wp_iconst (v := (nI (0))) dX1_isReadOneWay_0 (by decide) ?_
  refine Wp_istore_n (lv' := [(2, .int (nI (0))), (0, .ref (ad (ct))), (1, .int (nI (e)))]) dX1_isReadOneWay_1 rfl (by decide) rfl ?_
  exact lp_X1_isReadOneWay hC hrw hB hc hz hk b w0 fg he (n + 1) 0 (by omega) (by omega) (fun t ht => by omega)
theorem frt_s {p : Nat → Bool} {d : Nat} (h : 0 < d) : frt p d = if p d = true then d else frt p (d - 1) := by
  obtain ⟨e, rfl⟩ : ∃ e, d = e + 1 := ⟨d - 1, by omega⟩
  rfl
theorem lp_X1_farthest {E : wE} {S : List wK} {ad : Nat → Nat} {V : wV} {ct ss rp rw h fw nx c z k : Nat} (hC : S[ct]? = some (.inl (1, [none, none, some (some ss), some (some rp), some (some rw), none, none, some (some h), some (some fw), some (some nx)]))) (hrw : S[rw]? = some (.inr (.inl (false, 8)))) (hB : S[h]? = some (.inl (0, [some (some c), some (some z), some (some k), none, none]))) (hc : S[c]? = some (.inr (.inl (false, 8)))) (hz : S[z]? = some (.inr (.inl (false, 8)))) (hk : S[k]? = some (.inr (.inl (false, 10)))) {nb : Nat} {ln : Nat → Nat} {lt : Nat → Nat → Nat} (b : BK V h k nb ln lt) {n pl : Nat} {row : Nat → Nat} (w0 : RW V ct rw n pl nb row) {col siz : Nat → Nat} (fg : FG V c z col siz)  : ∀ (m : Nat) (d : Nat), d ≤ 9 → d < m → frt (orw col siz ln lt row nb n) 9 = frt (orw col siz ln lt row nb n) d → Wp E mX1_farthest (w_R 5 0 0) (w_i S ad (fun r V' => r = nI (frt (orw col siz ln lt row nb n) 9) ∧ V' = V)) 0 0 0 0 3 [(1, .int (nI (d))), (0, .ref (ad (ct)))] [] S ad V := by
  intro m
  induction m with
  | zero => intro d hd hm hE; omega
  | succ m ih =>
    intro d hd hm hE
    refine Wp_iload_n dX1_farthest_3 rfl 0 rfl ?_
    refine Wp_iconst (v := (nI (1))) dX1_farthest_4 (by decide) ?_
    refine Wp_icmp_lt (tgt := 24) dX1_farthest_5 (by decide) (nI_toInt (by omega)) (nI_toInt (by omega)) (fun c_5 => ?_) (fun c_5 => ?_)
    · refine Wp_iconst (v := (nI (0))) dX1_farthest_24 (by decide) ?_
      exact Wp_iret rfl ⟨rfl, rfl, _, rfl, ⟨by rw [hE, show d = 0 by omega]; rfl, rfl⟩⟩ (Nat.le_refl _) (Nat.le_refl _) dX1_farthest_25
    · refine Wp_aload_n dX1_farthest_8 rfl 1 rfl ?_
      refine Wp_iload_n dX1_farthest_9 rfl 0 rfl ?_
      refine Wp_callVg (c_X1_isReadOneWay hC hrw hB hc hz hk b w0 fg hd) YV_X1_isReadOneWay ml_X1_81 hC rfl dX1_farthest_10 (by omega) (by decide) (by omega) (by omega) rfl rfl (Nat.le_of_ble_eq_true rfl) ?_
      refine Wp_ifeq_b (tgt := 18) dX1_farthest_13 (by decide) (fun c_13 => ?_) (fun c_13 => ?_)
      · refine Wp_iinc (x := (nI ((d - 1)))) (lv' := [(1, .int (nI ((d - 1)))), (0, .ref (ad (ct)))]) dX1_farthest_18 0 rfl (w_dec1 (by omega)) (by decide) rfl ?_
        refine Wp_goto (tgt := 3) dX1_farthest_21 (by decide) ?_
        exact ih (d - 1) (by omega) (by omega) (by rw [hE, frt_s (by omega), if_neg (by rw [c_13]; decide)])
      · refine Wp_iload_n dX1_farthest_16 rfl 0 rfl ?_
        exact Wp_iret rfl ⟨rfl, rfl, _, rfl, ⟨by rw [hE, frt_s (by omega), if_pos c_13], rfl⟩⟩ (Nat.le_refl _) (Nat.le_refl _) dX1_farthest_17
theorem c_X1_farthest {E : wE} {S : List wK} {ad : Nat → Nat} {V : wV} {ct ss rp rw h fw nx c z k : Nat} (hC : S[ct]? = some (.inl (1, [none, none, some (some ss), some (some rp), some (some rw), none, none, some (some h), some (some fw), some (some nx)]))) (hrw : S[rw]? = some (.inr (.inl (false, 8)))) (hB : S[h]? = some (.inl (0, [some (some c), some (some z), some (some k), none, none]))) (hc : S[c]? = some (.inr (.inl (false, 8)))) (hz : S[z]? = some (.inr (.inl (false, 8)))) (hk : S[k]? = some (.inr (.inl (false, 10)))) {nb : Nat} {ln : Nat → Nat} {lt : Nat → Nat → Nat} (b : BK V h k nb ln lt) {n pl : Nat} {row : Nat → Nat} (w0 : RW V ct rw n pl nb row) {col siz : Nat → Nat} (fg : FG V c z col siz)  : w_C E mX1_farthest (w_R 5 0 0) 0 0 [.ref (ad (ct))] S ad V (w_i S ad (fun r V' => r = nI (frt (orw col siz ln lt row nb n) 9) ∧ V' = V)) := by
  refine w_C.of (by decide) (Nat.le_of_ble_eq_true rfl) ?_
  show Wp _ _ _ _ _ _ _ _ _ [(0, .ref (ad (ct)))] [] S ad V
  refine Wp_bipush (v := (nI (9))) dX1_farthest_0 (by decide) ?_
  refine Wp_istore_n (lv' := [(1, .int (nI (9))), (0, .ref (ad (ct)))]) dX1_farthest_2 rfl (by decide) rfl ?_
  exact lp_X1_farthest hC hrw hB hc hz hk b w0 fg 10 9 (by omega) (by omega) rfl
def SN (V : wV) (sn sh sg q : Nat) (sk sv : Nat → Nat) : Prop := V sn 2 = nI q ∧ q ≤ 6 ∧ ∀ i, i < q → V sh i = nI (sk i) ∧ V sg i = nI (sv i) ∧ sk i < 8 ∧ sv i < 8
theorem SN.of {V V' : wV} {sn sh sg q : Nat} {sk sv : Nat → Nat} (h : SN V sn sh sg q sk sv) (h1 : V' sn = V sn) (h2 : V' sh = V sh) (h3 : V' sg = V sg) : SN V' sn sh sg q sk sv := by
  unfold SN; rw [h1, h2, h3]; exact h
theorem c_X5_note {E : wE} {S : List wK} {ad : Nat → Nat} {V : wV} {sn sh sg : Nat} (hSn : S[sn]? = some (.inl (5, [some (some sh), some (some sg), none]))) (hsh : S[sh]? = some (.inr (.inl (false, 6)))) (hsg : S[sg]? = some (.inr (.inl (false, 6)))) {q : Nat} {sk sv : Nat → Nat} (s0 : SN V sn sh sg q sk sv) (hq : q < 6) (n2 : sh ≠ sg) {k v : Nat} (hk8 : k < 8) (hv8 : v < 8)  : w_C E mX5_note (w_R 0 0 0) 0 0 [.ref (ad (sn)), .int (nI (k)), .int (nI (v))] S ad V (w_v S ad (fun V' => SN V' sn sh sg (q + 1) (va_up sk q k) (va_up sv q v) ∧ ∀ j, j ≠ sn → j ≠ sh → j ≠ sg → V' j = V j)) := by
  refine w_C.of (by decide) (Nat.le_of_ble_eq_true rfl) ?_
  show Wp _ _ _ _ _ _ _ _ _ [(0, .ref (ad (sn))), (1, .int (nI (k))), (2, .int (nI (v)))] [] S ad V
  refine Wp_aload_n dX5_note_0 rfl 0 rfl ?_
  refine Wp_get (x := (nI (q))) fk_X5_18 hSn rfl s0.1 dX5_note_1 ?_
  refine Wp_bipush (v := (nI (6))) dX5_note_4 (by decide) ?_
  refine Wp_icmp_ge (tgt := 39) dX5_note_6 (by decide) (nI_toInt (by omega)) (nI_toInt (by omega)) (fun c_6 => absurd c_6 (by omega)) (fun c_6 => ?_)
  refine Wp_aload_n dX5_note_9 rfl 0 rfl ?_
  refine Wp_getr fk_X5_9 hSn rfl dX5_note_10 ?_
  refine Wp_aload_n dX5_note_13 rfl 0 rfl ?_
  refine Wp_get (x := (nI (q))) fk_X5_18 hSn rfl s0.1 dX5_note_14 ?_
  refine Wp_iload_n dX5_note_17 rfl 1 rfl ?_
  refine Wp_ist (n := q) hsh rfl (by omega) (by decide) dX5_note_18 ?_
  refine Wp_aload_n dX5_note_19 rfl 0 rfl ?_
  refine Wp_getr fk_X5_15 hSn rfl dX5_note_20 ?_
  refine Wp_aload_n dX5_note_23 rfl 0 rfl ?_
  refine Wp_get (x := (nI (q))) fk_X5_18 hSn rfl ((up2_i (w_ne hSn hsh (by simp))).trans s0.1) dX5_note_24 ?_
  refine Wp_iload_n dX5_note_27 rfl 2 rfl ?_
  refine Wp_ist (n := q) hsg rfl (by omega) (by decide) dX5_note_28 ?_
  refine Wp_aload_n dX5_note_29 rfl 0 rfl ?_
  refine Wp_dup dX5_note_30 rfl ?_
  refine Wp_get (x := (nI (q))) fk_X5_18 hSn rfl ((up2_i (w_ne hSn hsg (by simp))).trans ((up2_i (w_ne hSn hsh (by simp))).trans s0.1)) dX5_note_31 ?_
  refine Wp_iconst (v := (nI (1))) dX5_note_34 (by decide) ?_
  refine Wp_iadd (z := (nI ((q + 1)))) dX5_note_35 (nI_add _ _) ?_
  refine Wp_put fk_X5_18 hSn rfl rfl rfl dX5_note_36 ?_
  exact Wp_vret rfl ⟨rfl, rfl, rfl, by
    refine ⟨⟨by rw [up2_s], by omega, fun i hi => ?_⟩, fun j a1 a2 a3 => by simp [up2, a1, a2, a3]⟩
    rw [up2_i (w_ne hsh hSn (by simp)), up2_i (w_ne hsg hSn (by simp))]
    by_cases z : i = q
    · subst z; rw [up2_i n2, up2_s, up2_s]; simp [va_up, hk8, hv8]
    · rw [up2_k z, up2_k z, up2_k z, up2_k z]; simp only [va_up, if_neg z]; exact s0.2.2 i (by omega)⟩ (Nat.le_refl _) (Nat.le_refl _) dX5_note_39
