/-! THE REFERENCE: what it holds -/
theorem lgc_lt (x y : Int64) : (lg_cmp x y).toInt < 0 ↔ x.toInt < y.toInt := by
  unfold lg_cmp
  by_cases h : x > y
  · have h1 := Int64.lt_iff_toInt_lt.mp h
    rw [if_pos h]
    exact ⟨fun q => absurd q (by decide), fun q => by omega⟩
  · have h1 : ¬ y.toInt < x.toInt := fun q => h (Int64.lt_iff_toInt_lt.mpr q)
    rw [if_neg h]
    by_cases h2 : x = y
    · subst h2; rw [if_pos rfl]
      exact ⟨fun q => absurd q (by decide), fun q => by omega⟩
    · have h4 : x.toInt ≠ y.toInt := fun q => h2 (Int64.toInt_inj.mp q)
      rw [if_neg h2]
      exact ⟨fun q => by omega, fun q => by decide⟩
theorem lgc_gt (x y : Int64) : 0 < (lg_cmp x y).toInt ↔ y.toInt < x.toInt := by
  unfold lg_cmp
  by_cases h : x > y
  · have h1 := Int64.lt_iff_toInt_lt.mp h
    rw [if_pos h]
    exact ⟨fun q => h1, fun q => by decide⟩
  · have h1 : ¬ y.toInt < x.toInt := fun q => h (Int64.lt_iff_toInt_lt.mpr q)
    rw [if_neg h]
    by_cases h2 : x = y
    · subst h2; rw [if_pos rfl]
      exact ⟨fun q => absurd q (by decide), fun q => by omega⟩
    · rw [if_neg h2]
      exact ⟨fun q => absurd q (by decide), fun q => by omega⟩
theorem c_X9_in {E : wE} {S : List wK} {ad : Nat → Nat} {V : wV} {a b c : Int64} {A B C : Int} (ha : a.toInt = A) (hb : b.toInt = B) (hc : c.toInt = C) : w_C E mX9_in (w_R 0 0 0) 0 0 [.long (a), .long (b), .long (c)] S ad V (w_i S ad (fun r V' => r = bI (decide (B ≤ A ∧ A ≤ C)) ∧ V' = V)) := by
  refine w_C.of (by decide) (Nat.le_of_ble_eq_true rfl) ?_
  show Wp _ _ _ _ _ _ _ _ _ [(0, .long (a)), (2, .long (b)), (4, .long (c))] [] S ad V
  have h1 := lgc_lt a b
  have h2 := lgc_gt a c
  rw [ha, hb] at h1
  rw [ha, hc] at h2
  refine Wp_lload_n dX9_in_0 rfl 0 rfl ?_
  refine Wp_lload_n dX9_in_1 rfl 1 rfl ?_
  refine Wp_lcmp dX9_in_2 ?_
  refine Wp_if_lt (tgt := 17) dX9_in_3 (by decide) (rfl) (fun c_3 => ?_) (fun c_3 => ?_)
  · refine Wp_iconst (v := (nI (0))) dX9_in_17 (by decide) ?_
    exact Wp_zret (b := false) rfl rfl ⟨rfl, rfl, _, rfl, ⟨congrArg bI (decide_eq_false (by omega)).symm, rfl⟩⟩ (Nat.le_refl _) (Nat.le_refl _) dX9_in_18
  · refine Wp_lload_n dX9_in_6 rfl 0 rfl ?_
    refine Wp_lload dX9_in_7 2 rfl ?_
    refine Wp_lcmp dX9_in_9 ?_
    refine Wp_if_gt (tgt := 17) dX9_in_10 (by decide) (rfl) (fun c_10 => ?_) (fun c_10 => ?_)
    · refine Wp_iconst (v := (nI (0))) dX9_in_17 (by decide) ?_
      exact Wp_zret (b := false) rfl rfl ⟨rfl, rfl, _, rfl, ⟨congrArg bI (decide_eq_false (by omega)).symm, rfl⟩⟩ (Nat.le_refl _) (Nat.le_refl _) dX9_in_18
    · refine Wp_iconst (v := (nI (1))) dX9_in_13 (by decide) ?_
      refine Wp_goto (tgt := 18) dX9_in_14 (by decide) ?_
      exact Wp_zret (b := true) rfl rfl ⟨rfl, rfl, _, rfl, ⟨congrArg bI (decide_eq_true (by omega)).symm, rfl⟩⟩ (Nat.le_refl _) (Nat.le_refl _) dX9_in_18
theorem lp_X9_firstFlags {E : wE} {S : List wK} {ad : Nat → Nat} {V : wV} {c z : Nat} (hc : S[c]? = some (.inr (.inl (false, 8)))) (hz : S[z]? = some (.inr (.inl (false, 8)))) (hcz : c ≠ z) : ∀ (m : Nat) (f : Nat) (V1 : wV), f ≤ 8 → 8 < f + m → (∀ j, j ≠ c → j ≠ z → V1 j = V j) → (∀ k, k < f → V1 c k = nI k ∧ V1 z k = nI 5) → Wp E mX9_firstFlags (w_R 0 0 0) (w_v S ad (fun V' => FG V' c z (fun f => f) (fun _ => 5) ∧ ∀ j, j ≠ c → j ≠ z → V' j = V j)) 0 0 0 0 2 [(2, .int (nI (f))), (0, .ref (ad (c))), (1, .ref (ad (z)))] [] S ad V1 := by
  intro m
  induction m with
  | zero => intro f V1 hf hm fr lo; omega
  | succ m ih =>
    intro f V1 hf hm fr lo
    refine Wp_iload_n dX9_firstFlags_2 rfl 0 rfl ?_
    refine Wp_bipush (v := (nI (8))) dX9_firstFlags_3 (by decide) ?_
    refine Wp_icmp_ge (tgt := 22) dX9_firstFlags_5 (by decide) (nI_toInt (by omega)) (nI_toInt (by omega)) (fun c_5 => ?_) (fun c_5 => ?_)
    · exact Wp_vret rfl ⟨rfl, rfl, rfl, ⟨fun k hk => ⟨(lo k (by omega)).1, (lo k (by omega)).2, hk, Nat.le_of_ble_eq_true rfl⟩, fr⟩⟩ (Nat.le_refl _) (Nat.le_refl _) dX9_firstFlags_22
    · refine Wp_aload_n dX9_firstFlags_8 rfl 1 rfl ?_
      refine Wp_iload_n dX9_firstFlags_9 rfl 0 rfl ?_
      refine Wp_iload_n dX9_firstFlags_10 rfl 0 rfl ?_
      refine Wp_ist (n := f) hc rfl (by omega) (by decide) dX9_firstFlags_11 ?_
      refine Wp_aload_n dX9_firstFlags_12 rfl 2 rfl ?_
      refine Wp_iload_n dX9_firstFlags_13 rfl 0 rfl ?_
      refine Wp_iconst (v := (nI (5))) dX9_firstFlags_14 (by decide) ?_
      refine Wp_ist (n := f) hz rfl (by omega) (by decide) dX9_firstFlags_15 ?_
      refine Wp_iinc (x := (nI ((f + 1)))) (lv' := [(2, .int (nI ((f + 1)))), (0, .ref (ad (c))), (1, .ref (ad (z)))]) dX9_firstFlags_16 0 rfl (w_inc1 _) (by decide) rfl ?_
      refine Wp_goto (tgt := 2) dX9_firstFlags_19 (by decide) ?_
      exact ih (f + 1) _ (by omega) (by omega) (fun j h1 h2 => by rw [← fr j h1 h2]; simp [up2, h1, h2]) (fun k hk => by
        by_cases q : k = f
        · subst q; exact ⟨by rw [up2_i hcz, up2_s], by rw [up2_s]⟩
        · rw [up2_k q, up2_k q, up2_k q, up2_k q]; exact lo k (by omega))
theorem c_X9_firstFlags {E : wE} {S : List wK} {ad : Nat → Nat} {V : wV} {c z : Nat} (hc : S[c]? = some (.inr (.inl (false, 8)))) (hz : S[z]? = some (.inr (.inl (false, 8)))) (hcz : c ≠ z) : w_C E mX9_firstFlags (w_R 0 0 0) 0 0 [.ref (ad (c)), .ref (ad (z))] S ad V (w_v S ad (fun V' => FG V' c z (fun f => f) (fun _ => 5) ∧ ∀ j, j ≠ c → j ≠ z → V' j = V j)) := by
  refine w_C.of (by decide) (Nat.le_of_ble_eq_true rfl) ?_
  show Wp _ _ _ _ _ _ _ _ _ [(0, .ref (ad (c))), (1, .ref (ad (z)))] [] S ad V
  refine Wp_iconst (v := (nI (0))) dX9_firstFlags_0 (by decide) ?_
  refine Wp_istore_n (lv' := [(2, .int (nI (0))), (0, .ref (ad (c))), (1, .ref (ad (z)))]) dX9_firstFlags_1 rfl (by decide) rfl ?_
  exact lp_X9_firstFlags hc hz hcz 9 0 V (by omega) (by omega) (fun _ _ _ => rfl) (fun k hk => by omega)
/-- a row of the reference's numbers at o: the message, places, understood, times -/
def WS (V : wV) (o : Nat) (x : aSig) : Prop := V 54 o = nI x.2.1 ∧ V 54 (o + 9) = nI x.2.2.1 ∧ V 54 (o + 10) = nI x.2.2.2.1 ∧ V 54 (o + 11) = nI x.2.2.2.2 ∧ ∀ k, k < x.2.1 → V 54 (o + 1 + k) = nI (x.1 k)
def MB (V : wV) (nb : Nat) (ln : Nat → Nat) (lt : Nat → Nat → Nat) : Prop := V 53 10 = nI nb ∧ nb ≤ 10 ∧ ∀ s, s < nb → V 61 s = nI (ln s) ∧ 1 ≤ ln s ∧ ln s ≤ 4 ∧ ∀ i, i < ln s → V 62 (4 * s + i) = nI (lt s i) ∧ lt s i < 8
def MT (V : wV) (n : Nat) (tt : Nat → Nat) : Prop := V 53 7 = nI n ∧ n ≤ 120 ∧ ∀ k, k < n → V 58 k = nI (tt k) ∧ tt k < 256
def MS (V : wV) (q : Nat) (sk sv : Nat → Nat) : Prop := V 53 5 = nI q ∧ q ≤ 6 ∧ ∀ i, i < q → V 56 i = nI (sk i) ∧ V 57 i = nI (sv i) ∧ sk i < 8 ∧ sv i < 8
/-- THE REFERENCE holds the same -/
def ML (V : wV) (B n : Nat) (tt : Nat → Nat) (nb : Nat) (ln : Nat → Nat) (lt : Nat → Nat → Nat) (col siz : Nat → Nat) (sg : aSig) (hn : Nat) (hi im : Nat → aSig) (kp : Nat → Bool) (q : Nat) (sk sv : Nat → Nat) : Prop :=
  MT V n tt ∧ MB V nb ln lt ∧ FG V 59 60 col siz ∧ (WS V 0 sg ∧ okS sg nb B) ∧ (V 53 2 = nI hn ∧ hn ≤ 10 ∧ ∀ j, j < hn → WS V (36 + 12 * j) (hi j) ∧ okS (hi j) nb B) ∧ (∀ i, i < 2 → V 55 i = bI (kp i) ∧ (kp i = true → WS V (12 + 12 * i) (im i) ∧ okS (im i) nb B)) ∧ MS V q sk sv
theorem WS.of {V V' : wV} {o : Nat} {x : aSig} (h : WS V o x) (h8 : x.2.1 ≤ 8) (f : ∀ k, k < 12 → V' 54 (o + k) = V 54 (o + k)) : WS V' o x := by
  obtain ⟨a, b, c, d, e⟩ := h
  refine ⟨by have := f 0 (by omega); rw [Nat.add_zero] at this; rw [this]; exact a, by rw [f 9 (by omega)]; exact b, by rw [f 10 (by omega)]; exact c, by rw [f 11 (by omega)]; exact d, fun k hk => ?_⟩
  rw [show o + 1 + k = o + (1 + k) by omega, f (1 + k) (by omega), show o + (1 + k) = o + 1 + k by omega]; exact e k hk
theorem WS.to {V V' : wV} {o p : Nat} {x : aSig} (h : WS V o x) (h8 : x.2.1 ≤ 8) (f : ∀ k, k < 12 → V' 54 (p + k) = V 54 (o + k)) : WS V' p x := by
  obtain ⟨a, b, c, d, e⟩ := h
  refine ⟨by have := f 0 (by omega); rw [Nat.add_zero, Nat.add_zero] at this; rw [this]; exact a, by rw [f 9 (by omega)]; exact b, by rw [f 10 (by omega)]; exact c, by rw [f 11 (by omega)]; exact d, fun k hk => ?_⟩
  rw [show p + 1 + k = p + (1 + k) by omega, f (1 + k) (by omega), show o + (1 + k) = o + 1 + k by omega]; exact e k hk
/-- the same, if the slots that it speaks of are as they were -/
theorem ML.of {V V' : wV} {B n : Nat} {tt : Nat → Nat} {nb : Nat} {ln : Nat → Nat} {lt : Nat → Nat → Nat} {col siz : Nat → Nat} {sg : aSig} {hn : Nat} {hi im : Nat → aSig} {kp : Nat → Bool} {q : Nat} {sk sv : Nat → Nat} (h : ML V B n tt nb ln lt col siz sg hn hi im kp q sk sv) (f1 : ∀ k, k ≤ 12 → V' 53 k = V 53 k) (f2 : ∀ j, 54 ≤ j → j < 63 → V' j = V j) : ML V' B n tt nb ln lt col siz sg hn hi im kp q sk sv := by
  unfold ML MT MB FG WS MS
  rw [f1 7 (by omega), f1 10 (by omega), f1 2 (by omega), f1 5 (by omega), f2 54 (by omega) (by omega), f2 55 (by omega) (by omega), f2 56 (by omega) (by omega), f2 57 (by omega) (by omega), f2 58 (by omega) (by omega), f2 59 (by omega) (by omega), f2 60 (by omega) (by omega), f2 61 (by omega) (by omega), f2 62 (by omega) (by omega)]
  exact h
theorem ML.mono {V : wV} {B C n : Nat} {tt : Nat → Nat} {nb : Nat} {ln : Nat → Nat} {lt : Nat → Nat → Nat} {col siz : Nat → Nat} {sg : aSig} {hn : Nat} {hi im : Nat → aSig} {kp : Nat → Bool} {q : Nat} {sk sv : Nat → Nat} (h : ML V B n tt nb ln lt col siz sg hn hi im kp q sk sv) (hBC : B ≤ C) : ML V C n tt nb ln lt col siz sg hn hi im kp q sk sv := by
  obtain ⟨h1, h2, h3, h4, ⟨h5, h6, h7⟩, h8, h9⟩ := h
  exact ⟨h1, h2, h3, ⟨h4.1, h4.2.mono hBC⟩, ⟨h5, h6, fun j hj => ⟨(h7 j hj).1, (h7 j hj).2.mono hBC⟩⟩, fun i hi => ⟨(h8 i hi).1, fun w => ⟨((h8 i hi).2 w).1, ((h8 i hi).2 w).2.mono hBC⟩⟩, h9⟩
theorem lp_X9_copy {E : wE} {ad : Nat → Nat} {V : wV} {F G : Nat} (hF : F + 12 ≤ 156) (hG : G + 12 ≤ 156) (hFG : F + 12 ≤ G ∨ G + 12 ≤ F) : ∀ (m : Nat) (k : Nat) (V1 : wV), k ≤ 12 → 12 < k + m → (∀ i, i < k → V1 54 (G + i) = V 54 (F + i)) → (∀ i, ¬ (G ≤ i ∧ i < G + k) → V1 54 i = V 54 i) → (∀ j, j ≠ 54 → V1 j = V j) → Wp E mX9_copy (w_R 0 0 0) (w_v SX ad (fun V' => (∀ k, k < 12 → V' 54 (G + k) = V 54 (F + k)) ∧ (∀ i, ¬ (G ≤ i ∧ i < G + 12) → V' 54 i = V 54 i) ∧ ∀ j, j ≠ 54 → V' j = V j)) 0 0 0 0 2 [(3, .int (nI (k))), (0, .ref (ad (53))), (1, .int (nI (F))), (2, .int (nI (G)))] [] SX ad V1 := by
  intro m
  induction m with
  | zero => intro k V1 hk hm lo ot fr; omega
  | succ m ih =>
    intro k V1 hk hm lo ot fr
    refine Wp_iload_n dX9_copy_2 rfl 0 rfl ?_
    refine Wp_bipush (v := (nI (12))) dX9_copy_3 (by decide) ?_
    refine Wp_icmp_ge (tgt := 30) dX9_copy_5 (by decide) (nI_toInt (by omega)) (nI_toInt (by omega)) (fun c_5 => ?_) (fun c_5 => ?_)
    · exact Wp_vret rfl ⟨rfl, rfl, rfl, ⟨fun i hi => lo i (by omega), fun i hi => ot i (by omega), fr⟩⟩ (Nat.le_refl _) (Nat.le_refl _) dX9_copy_30
    · refine Wp_aload_n dX9_copy_8 rfl 1 rfl ?_
      refine Wp_getr fk_X9_7 sx_53 rfl dX9_copy_9 ?_
      refine Wp_iload_n dX9_copy_12 rfl 3 rfl ?_
      refine Wp_iload_n dX9_copy_13 rfl 0 rfl ?_
      refine Wp_iadd (z := (nI ((G + k)))) dX9_copy_14 (nI_add _ _) ?_
      refine Wp_aload_n dX9_copy_15 rfl 1 rfl ?_
      refine Wp_getr fk_X9_7 sx_53 rfl dX9_copy_16 ?_
      refine Wp_iload_n dX9_copy_19 rfl 2 rfl ?_
      refine Wp_iload_n dX9_copy_20 rfl 0 rfl ?_
      refine Wp_iadd (z := (nI ((F + k)))) dX9_copy_21 (nI_add _ _) ?_
      refine Wp_ild (n := (F + k)) (y := (V 54 (F + k))) sx_54 rfl (by omega) (by decide) (ot (F + k) (by omega)) dX9_copy_22 ?_
      refine Wp_ist (n := (G + k)) sx_54 rfl (by omega) (by decide) dX9_copy_23 ?_
      refine Wp_iinc (x := (nI ((k + 1)))) (lv' := [(3, .int (nI ((k + 1)))), (0, .ref (ad (53))), (1, .int (nI (F))), (2, .int (nI (G)))]) dX9_copy_24 0 rfl (w_inc1 _) (by decide) rfl ?_
      refine Wp_goto (tgt := 2) dX9_copy_27 (by decide) ?_
      exact ih (k + 1) _ (by omega) (by omega) (fun i hi => by
        by_cases z : i = k
        · subst z; rw [up2_s]
        · rw [up2_k (by omega)]; exact lo i (by omega)) (fun i hi => by rw [up2_k (by omega)]; exact ot i (by omega)) (fun j hj => by rw [← fr j hj]; simp [up2, hj])
theorem c_X9_copy {E : wE} {ad : Nat → Nat} {V : wV} {F G : Nat} (hF : F + 12 ≤ 156) (hG : G + 12 ≤ 156) (hFG : F + 12 ≤ G ∨ G + 12 ≤ F) : w_C E mX9_copy (w_R 0 0 0) 0 0 [.ref (ad (53)), .int (nI (F)), .int (nI (G))] SX ad V (w_v SX ad (fun V' => (∀ k, k < 12 → V' 54 (G + k) = V 54 (F + k)) ∧ (∀ i, ¬ (G ≤ i ∧ i < G + 12) → V' 54 i = V 54 i) ∧ ∀ j, j ≠ 54 → V' j = V j)) := by
  refine w_C.of (by decide) (Nat.le_of_ble_eq_true rfl) ?_
  show Wp _ _ _ _ _ _ _ _ _ [(0, .ref (ad (53))), (1, .int (nI (F))), (2, .int (nI (G)))] [] SX ad V
  refine Wp_iconst (v := (nI (0))) dX9_copy_0 (by decide) ?_
  refine Wp_istore_n (lv' := [(3, .int (nI (0))), (0, .ref (ad (53))), (1, .int (nI (F))), (2, .int (nI (G)))]) dX9_copy_1 rfl (by decide) rfl ?_
  exact lp_X9_copy hF hG hFG 13 0 V (by omega) (by omega) (fun i hi => by omega) (fun i hi => rfl) (fun _ _ => rfl)
theorem lp_X9_minds {E : wE} {ad : Nat → Nat} {V : wV} {B n nb hn q : Nat} {tt ln col siz sk sv : Nat → Nat} {lt : Nat → Nat → Nat} {sg : aSig} {hi im : Nat → aSig} {kp : Nat → Bool} (ml : ML V B n tt nb ln lt col siz sg hn hi im kp q sk sv) (h10 : hn = 10)  : ∀ (m : Nat) (k : Nat) (V1 : wV), k ≤ 108 → 108 < k + m → (∀ i, i < k → V1 54 (36 + i) = V 54 (48 + i)) → (∀ i, ¬ (36 ≤ i ∧ i < 36 + k) → V1 54 i = V 54 i) → (∀ j, j ≠ 54 → V1 j = V j) → Wp E mX9_minds (w_R 1 0 0) (w_v SX ad (fun V' => (∀ j, j < (if hn < 10 then hn + 1 else 10) → WS V' (36 + 12 * j) (hpush hi hn sg j)) ∧ V' 53 2 = nI (if hn < 10 then hn + 1 else 10) ∧ (∀ i, i < 36 → V' 54 i = V 54 i) ∧ (∀ k, k ≠ 2 → V' 53 k = V 53 k) ∧ ∀ j, j ≠ 53 → j ≠ 54 → V' j = V j)) 0 0 0 0 11 [(1, .int (nI (k))), (0, .ref (ad (53)))] [] SX ad V1 := by
  obtain ⟨tx, bk, fg, ⟨w0, ok0⟩, ⟨hs1, hs2, hsj⟩, img, sn⟩ := id ml
  have hn120 := tx.2.1
  have hnb := bk.2.1
  have hq6 := sn.2.1
  have hl8 := ok0.1
  have hpl3 := ok0.2.1
  have hpl7 := ok0.2.2.1
  have hu9 := ok0.2.2.2.1
  have ht9 := ok0.2.2.2.2.1
  intro m
  induction m with
  | zero => intro k V1 hk hm lo ot fr; omega
  | succ m ih =>
    intro k V1 hk hm lo ot fr
    refine Wp_iload_n dX9_minds_11 rfl 0 rfl ?_
    refine Wp_bipush (v := (nI (108))) dX9_minds_12 (by decide) ?_
    refine Wp_icmp_ge (tgt := 41) dX9_minds_14 (by decide) (nI_toInt (by omega)) (nI_toInt (by omega)) (fun c_14 => ?_) (fun c_14 => ?_)
    · refine Wp_aload_n dX9_minds_41 rfl 1 rfl ?_
      refine Wp_dup dX9_minds_42 rfl ?_
      refine Wp_get (x := (nI (10))) fk_X9_66 sx_53 rfl (show V1 53 2 = nI 10 by rw [fr 53 (by decide), hs1, h10]) dX9_minds_43 ?_
      refine Wp_iconst (v := (nI (1))) dX9_minds_46 (by decide) ?_
      refine Wp_isub (z := (nI (9))) dX9_minds_47 (pk_sub (by omega)) ?_
      refine Wp_put fk_X9_66 sx_53 rfl rfl rfl dX9_minds_48 ?_
      refine Wp_aload_n dX9_minds_51 rfl 1 rfl ?_
      refine Wp_iconst (v := (nI (0))) dX9_minds_52 (by decide) ?_
      refine Wp_bipush (v := (nI (36))) dX9_minds_53 (by decide) ?_
      refine Wp_bipush (v := (nI (12))) dX9_minds_55 (by decide) ?_
      refine Wp_aload_n dX9_minds_57 rfl 1 rfl ?_
      refine Wp_get (x := (nI (9))) fk_X9_66 sx_53 rfl up2_s dX9_minds_58 ?_
      refine Wp_imul (z := (nI ((12 * 9)))) dX9_minds_61 (pk_mul _ _) ?_
      refine Wp_iadd (z := (nI ((36 + (12 * 9))))) dX9_minds_62 (nI_add _ _) ?_
      refine Wp_callVv (c_X9_copy (F := 0) (G := 36 + 12 * 9) (by omega) (by omega) (by omega)) YV_X9_copy ml_X9_70 sx_53 rfl dX9_minds_63 (by omega) (by decide) (by omega) (by omega) rfl rfl (Nat.le_of_ble_eq_true rfl) (fun V2 hV2 => ?_)
      obtain ⟨c1, c2, c3⟩ := hV2
      refine Wp_aload_n dX9_minds_66 rfl 1 rfl ?_
      refine Wp_dup dX9_minds_67 rfl ?_
      refine Wp_get (x := (nI (9))) fk_X9_66 sx_53 rfl (show V2 53 2 = nI 9 by rw [c3 53 (by decide), up2_s]) dX9_minds_68 ?_
      refine Wp_iconst (v := (nI (1))) dX9_minds_71 (by decide) ?_
      refine Wp_iadd (z := (nI (10))) dX9_minds_72 (nI_add _ _) ?_
      refine Wp_put fk_X9_66 sx_53 rfl rfl rfl dX9_minds_73 ?_
      exact Wp_vret rfl ⟨rfl, rfl, rfl, by
      rw [if_neg (show ¬ hn < 10 by omega)]
      have u9 : ∀ i, up2 V1 53 2 (nI 9) 54 i = V1 54 i := fun i => by rw [up2_i (by decide)]
      have u8 : ∀ i, up2 V2 53 2 (nI 10) 54 i = V2 54 i := fun i => by rw [up2_i (by decide)]
      refine ⟨fun j hj => ?_, by rw [up2_s], fun i hi => by rw [u8, c2 i (by omega), u9, ot i (by omega)], fun z hz => by rw [up2_k hz, c3 53 (by decide), up2_k hz, fr 53 (by decide)], fun j a1 a2 => by simp only [up2, if_neg a1]; rw [c3 j a2]; simp only [up2, if_neg a1]; exact fr j a2⟩
      unfold hpush; rw [if_neg (show ¬ hn < 10 by omega)]
      by_cases z : j = 9
      · subst z
        simp only [if_true]
        exact w0.to hl8 (fun i hi => by rw [u8, c1 i hi, u9, ot (0 + i) (by omega)])
      · simp only [if_neg z]
        have h7 := hsj (j + 1) (by omega)
        exact h7.1.to h7.2.1 (fun i hi => by rw [u8, c2 (36 + 12 * j + i) (by omega), u9, show 36 + 12 * j + i = 36 + (12 * j + i) by omega, lo (12 * j + i) (by omega)]; congr 1; omega)⟩ (Nat.le_refl _) (Nat.le_refl _) dX9_minds_76
    · refine Wp_aload_n dX9_minds_17 rfl 1 rfl ?_
      refine Wp_getr fk_X9_7 sx_53 rfl dX9_minds_18 ?_
      refine Wp_bipush (v := (nI (36))) dX9_minds_21 (by decide) ?_
      refine Wp_iload_n dX9_minds_23 rfl 0 rfl ?_
      refine Wp_iadd (z := (nI ((36 + k)))) dX9_minds_24 (nI_add _ _) ?_
      refine Wp_aload_n dX9_minds_25 rfl 1 rfl ?_
      refine Wp_getr fk_X9_7 sx_53 rfl dX9_minds_26 ?_
      refine Wp_bipush (v := (nI (48))) dX9_minds_29 (by decide) ?_
      refine Wp_iload_n dX9_minds_31 rfl 0 rfl ?_
      refine Wp_iadd (z := (nI ((48 + k)))) dX9_minds_32 (nI_add _ _) ?_
      refine Wp_ild (n := (48 + k)) (y := (V 54 (48 + k))) sx_54 rfl (by omega) (by decide) (ot (48 + k) (by omega)) dX9_minds_33 ?_
      refine Wp_ist (n := (36 + k)) sx_54 rfl (by omega) (by decide) dX9_minds_34 ?_
      refine Wp_iinc (x := (nI ((k + 1)))) (lv' := [(1, .int (nI ((k + 1)))), (0, .ref (ad (53)))]) dX9_minds_35 0 rfl (w_inc1 _) (by decide) rfl ?_
      refine Wp_goto (tgt := 11) dX9_minds_38 (by decide) ?_
      exact ih (k + 1) _ (by omega) (by omega) (fun i hi => by
        by_cases z : i = k
        · subst z; rw [up2_s]
        · rw [up2_k (by omega)]; exact lo i (by omega)) (fun i hi => by rw [up2_k (by omega)]; exact ot i (by omega)) (fun j hj => by rw [← fr j hj]; simp [up2, hj])
theorem c_X9_minds {E : wE} {ad : Nat → Nat} {V : wV} {B n nb hn q : Nat} {tt ln col siz sk sv : Nat → Nat} {lt : Nat → Nat → Nat} {sg : aSig} {hi im : Nat → aSig} {kp : Nat → Bool} (ml : ML V B n tt nb ln lt col siz sg hn hi im kp q sk sv)  : w_C E mX9_minds (w_R 1 0 0) 0 0 [.ref (ad (53))] SX ad V (w_v SX ad (fun V' => (∀ j, j < (if hn < 10 then hn + 1 else 10) → WS V' (36 + 12 * j) (hpush hi hn sg j)) ∧ V' 53 2 = nI (if hn < 10 then hn + 1 else 10) ∧ (∀ i, i < 36 → V' 54 i = V 54 i) ∧ (∀ k, k ≠ 2 → V' 53 k = V 53 k) ∧ ∀ j, j ≠ 53 → j ≠ 54 → V' j = V j)) := by
  refine w_C.of (by decide) (Nat.le_of_ble_eq_true rfl) ?_
  show Wp _ _ _ _ _ _ _ _ _ [(0, .ref (ad (53)))] [] SX ad V
  obtain ⟨tx, bk, fg, ⟨w0, ok0⟩, ⟨hs1, hs2, hsj⟩, img, sn⟩ := id ml
  have hn120 := tx.2.1
  have hnb := bk.2.1
  have hq6 := sn.2.1
  have hl8 := ok0.1
  have hpl3 := ok0.2.1
  have hpl7 := ok0.2.2.1
  have hu9 := ok0.2.2.2.1
  have ht9 := ok0.2.2.2.2.1
  refine Wp_aload_n dX9_minds_0 rfl 0 rfl ?_
  refine Wp_get (x := (nI (hn))) fk_X9_66 sx_53 rfl hs1 dX9_minds_1 ?_
  refine Wp_bipush (v := (nI (10))) dX9_minds_4 (by decide) ?_
  refine Wp_icmp_ne (tgt := 51) dX9_minds_6 (by decide) (nI_toInt (by omega)) (nI_toInt (by omega)) (fun c_6 => ?_) (fun c_6 => ?_)
  · refine Wp_aload_n dX9_minds_51 rfl 0 rfl ?_
    refine Wp_iconst (v := (nI (0))) dX9_minds_52 (by decide) ?_
    refine Wp_bipush (v := (nI (36))) dX9_minds_53 (by decide) ?_
    refine Wp_bipush (v := (nI (12))) dX9_minds_55 (by decide) ?_
    refine Wp_aload_n dX9_minds_57 rfl 0 rfl ?_
    refine Wp_get (x := (nI (hn))) fk_X9_66 sx_53 rfl hs1 dX9_minds_58 ?_
    refine Wp_imul (z := (nI ((12 * hn)))) dX9_minds_61 (pk_mul _ _) ?_
    refine Wp_iadd (z := (nI ((36 + (12 * hn))))) dX9_minds_62 (nI_add _ _) ?_
    refine Wp_callVv (c_X9_copy (F := 0) (G := 36 + 12 * hn) (by omega) (by omega) (by omega)) YV_X9_copy ml_X9_70 sx_53 rfl dX9_minds_63 (by omega) (by decide) (by omega) (by omega) rfl rfl (Nat.le_of_ble_eq_true rfl) (fun V2 hV2 => ?_)
    obtain ⟨c1, c2, c3⟩ := hV2
    refine Wp_aload_n dX9_minds_66 rfl 0 rfl ?_
    refine Wp_dup dX9_minds_67 rfl ?_
    refine Wp_get (x := (nI (hn))) fk_X9_66 sx_53 rfl (show V2 53 2 = nI hn by rw [c3 53 (by decide)]; exact hs1) dX9_minds_68 ?_
    refine Wp_iconst (v := (nI (1))) dX9_minds_71 (by decide) ?_
    refine Wp_iadd (z := (nI ((hn + 1)))) dX9_minds_72 (nI_add _ _) ?_
    refine Wp_put fk_X9_66 sx_53 rfl rfl rfl dX9_minds_73 ?_
    exact Wp_vret rfl ⟨rfl, rfl, rfl, by
      rw [if_pos (show hn < 10 by omega)]
      have u8 : ∀ i, up2 V2 53 2 (nI (hn + 1)) 54 i = V2 54 i := fun i => by rw [up2_i (by decide)]
      refine ⟨fun j hj => ?_, by rw [up2_s], fun i hi => by rw [u8, c2 i (by omega)], fun z hz => by rw [up2_k hz, c3 53 (by decide)], fun j a1 a2 => by simp only [up2, if_neg a1]; exact c3 j a2⟩
      unfold hpush; rw [if_pos (show hn < 10 by omega)]
      by_cases z : j = hn
      · subst z
        simp only [va_up, if_true]
        exact w0.to hl8 (fun i hi => by rw [u8, c1 i hi])
      · simp only [va_up, if_neg z]
        have h7 := hsj j (by omega)
        exact h7.1.of h7.2.1 (fun i hi => by rw [u8, c2 (36 + 12 * j + i) (by omega)])⟩ (Nat.le_refl _) (Nat.le_refl _) dX9_minds_76
  · refine Wp_iconst (v := (nI (0))) dX9_minds_9 (by decide) ?_
    refine Wp_istore_n (lv' := [(1, .int (nI (0))), (0, .ref (ad (53)))]) dX9_minds_10 rfl (by decide) rfl ?_
    exact lp_X9_minds ml (by omega) 109 0 V (by omega) (by omega) (fun i hi => by omega) (fun i hi => rfl) (fun _ _ => rfl)
theorem c_X9_none {E : wE} {ad : Nat → Nat} {V : wV} : w_C E mX9_none (w_R 0 0 0) 0 0 [.ref (ad (53))] SX ad V (w_v SX ad (fun V' => V' = up2 (up2 V 54 10 (nI 0)) 54 11 (nI 0))) := by
  refine w_C.of (by decide) (Nat.le_of_ble_eq_true rfl) ?_
  show Wp _ _ _ _ _ _ _ _ _ [(0, .ref (ad (53)))] [] SX ad V
  refine Wp_aload_n dX9_none_0 rfl 0 rfl ?_
  refine Wp_getr fk_X9_7 sx_53 rfl dX9_none_1 ?_
  refine Wp_bipush (v := (nI (10))) dX9_none_4 (by decide) ?_
  refine Wp_iconst (v := (nI (0))) dX9_none_6 (by decide) ?_
  refine Wp_ist (n := 10) sx_54 rfl (by omega) (by decide) dX9_none_7 ?_
  refine Wp_aload_n dX9_none_8 rfl 0 rfl ?_
  refine Wp_getr fk_X9_7 sx_53 rfl dX9_none_9 ?_
  refine Wp_bipush (v := (nI (11))) dX9_none_12 (by decide) ?_
  refine Wp_iconst (v := (nI (0))) dX9_none_14 (by decide) ?_
  refine Wp_ist (n := 11) sx_54 rfl (by omega) (by decide) dX9_none_15 ?_
  exact Wp_vret rfl ⟨rfl, rfl, rfl, rfl⟩ (Nat.le_refl _) (Nat.le_refl _) dX9_none_16
