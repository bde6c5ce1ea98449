/-! THE REFERENCE: what shows for a letter -/
def smk (us : Nat → Bool) : Nat := (if us 0 = true then 1 else 0) + (if us 1 = true then 2 else 0) + (if us 2 = true then 4 else 0)
def byI (f : Nat) : Int32 := if f = 0 then -9 else nI (10 + f)
def fsq (le : Nat → Nat) (lc : Nat) (us : Nat → Bool) (x q : Nat) : Nat := if q ≤ 0 ∧ fsc le lc us x 0 = true then 1 else if q ≤ 1 ∧ fsc le lc us x 1 = true then 2 else if q ≤ 2 ∧ fsc le lc us x 2 = true then 3 else 0
def shI (le : Nat → Nat) (lc : Nat) (us : Nat → Bool) (x : Nat) : Int32 := if isth le lc x = true then byI (fsb le lc us x) else nI x
theorem smk_bit (us : Nat → Bool) {k : Nat} (hk : k < 3) : (nI (smk us) >>> (nI k &&& 31)) &&& nI 1 = bI (us k) := by
  unfold smk
  rcases (show k = 0 ∨ k = 1 ∨ k = 2 by omega) with rfl | rfl | rfl <;> cases h0 : us 0 <;> cases h1 : us 1 <;> cases h2 : us 2 <;> decide
theorem smk_set (us : Nat → Bool) {k : Nat} (hk : k < 3) (h : us k = false) : nI (smk us) ||| (nI 1 <<< (nI k &&& 31)) = nI (smk (va_up us k true)) := by
  unfold smk va_up
  rcases (show k = 0 ∨ k = 1 ∨ k = 2 by omega) with rfl | rfl | rfl <;> cases h0 : us 0 <;> cases h1 : us 1 <;> cases h2 : us 2 <;> first | decide | (rw [h0] at h; cases h) | (rw [h1] at h; cases h) | (rw [h2] at h; cases h)
theorem smk_0 (us : Nat → Bool) : nI (smk us) ||| nI 0 = nI (smk us) := by
  unfold smk
  cases h0 : us 0 <;> cases h1 : us 1 <;> cases h2 : us 2 <;> decide
theorem smk_le (us : Nat → Bool) : smk us ≤ 7 := by
  unfold smk; cases us 0 <;> cases us 1 <;> cases us 2 <;> decide
theorem fsq_0 (le : Nat → Nat) (lc : Nat) (us : Nat → Bool) (x : Nat) : fsq le lc us x 0 = fsb le lc us x := by
  unfold fsq fsb; simp
theorem fsq_t {le : Nat → Nat} {lc : Nat} {us : Nat → Bool} {x k : Nat} (hk : k < 3) (h : fsc le lc us x k = true) : fsq le lc us x k = k + 1 := by
  unfold fsq
  rcases (show k = 0 ∨ k = 1 ∨ k = 2 by omega) with rfl | rfl | rfl <;> simp [h]
theorem fsq_n {le : Nat → Nat} {lc : Nat} {us : Nat → Bool} {x k : Nat} (h : 3 ≤ k ∨ fsc le lc us x k = false) : fsq le lc us x k = fsq le lc us x (k + 1) := by
  unfold fsq
  rcases (show k = 0 ∨ k = 1 ∨ k = 2 ∨ 3 ≤ k by omega) with rfl | rfl | rfl | h3
  · rcases h with h | h
    · omega
    · simp [h]
  · rcases h with h | h
    · omega
    · simp [h]
  · rcases h with h | h
    · omega
    · simp [h]
  · simp [show ¬ k = 0 by omega, show ¬ k ≤ 1 by omega, show ¬ k ≤ 2 by omega, show ¬ k + 1 ≤ 1 by omega, show ¬ k + 1 ≤ 2 by omega]
theorem fsq_e {le : Nat → Nat} {lc : Nat} {us : Nat → Bool} {x q : Nat} (h : lc ≤ q) : fsq le lc us x q = 0 := by
  have e : ∀ k, ¬ (q ≤ k ∧ fsc le lc us x k = true) := fun k z => by
    rw [fsc_f (Or.inl (by omega))] at z; cases z.2
  unfold fsq
  rw [if_neg (e 0), if_neg (e 1), if_neg (e 2)]
theorem pI_dec1 (k : Nat) : nI k + Int32.ofInt (-1) = pI k := by
  unfold pI; rw [Int32.sub_eq_add_neg]; rfl
theorem tl_X9_shownFor {E : wE} {ad : Nat → Nat} {V : wV} {lc x : Nat} {le : Nat → Nat} {us : Nat → Bool} (hl : ∀ i, i < lc → V 69 i = nI (le i) ∧ le i < 8) (hc : lc ≤ 8) (hx : x < 8) {w : Bool} {y k : Int32} (hw : w = true ↔ ∃ i, 0 ≤ i ∧ i < lc ∧ le i = x) (hy : y = byI (fsq le lc us x 0)) : Wp E mX9_shownFor (w_R 0 0 0) (w_i SX ad (fun r V' => r = shI le lc us x ∧ V' = V)) 0 0 0 0 84 [(6, .int (k)), (5, .int (y)), (4, .int (bI (w))), (0, .ref (ad (53))), (1, .int (nI (x))), (2, .int (nI (lc))), (3, .int (nI (smk us)))] [] SX ad V := by
  refine Wp_iload dX9_shownFor_84 2 rfl ?_
  refine Wp_ifeq_b (tgt := 94) dX9_shownFor_86 (by decide) (fun c_86 => ?_) (fun c_86 => ?_)
  · refine Wp_iload_n dX9_shownFor_94 rfl 4 rfl ?_
    exact Wp_iret rfl ⟨rfl, rfl, _, rfl, ⟨by unfold shI; rw [if_neg (show ¬ isth le lc x = true from fun q => by have := hw.mpr (by obtain ⟨i, b⟩ := of_decide_eq_true q; exact ⟨i, Nat.zero_le i, b⟩); rw [c_86] at this; cases this)], rfl⟩⟩ (Nat.le_refl _) (Nat.le_refl _) dX9_shownFor_95
  · refine Wp_iload dX9_shownFor_89 1 rfl ?_
    refine Wp_goto (tgt := 95) dX9_shownFor_91 (by decide) ?_
    exact Wp_iret rfl ⟨rfl, rfl, _, rfl, ⟨by unfold shI; rw [if_pos (show isth le lc x = true from decide_eq_true (by obtain ⟨i, _, b⟩ := hw.mp c_86; exact ⟨i, b⟩)), hy, fsq_0], rfl⟩⟩ (Nat.le_refl _) (Nat.le_refl _) dX9_shownFor_95
theorem lp_X9_shownFor {E : wE} {ad : Nat → Nat} {V : wV} {lc x : Nat} {le : Nat → Nat} {us : Nat → Bool} (hl : ∀ i, i < lc → V 69 i = nI (le i) ∧ le i < 8) (hc : lc ≤ 8) (hx : x < 8)  : ∀ (m : Nat) (k : Nat) (w : Bool) (y : Int32), k < lc → k < m → (w = true ↔ ∃ i, k + 1 ≤ i ∧ i < lc ∧ le i = x) → y = byI (fsq le lc us x (k + 1)) → Wp E mX9_shownFor (w_R 0 0 0) (w_i SX ad (fun r V' => r = shI le lc us x ∧ V' = V)) 0 0 0 0 17 [(6, .int (nI (k))), (5, .int (y)), (4, .int (bI (w))), (0, .ref (ad (53))), (1, .int (nI (x))), (2, .int (nI (lc))), (3, .int (nI (smk us)))] [] SX ad V := by
  intro m
  induction m with
  | zero => intro k w y hk hm hw hy; omega
  | succ m ih =>
    intro k w y hk hm hw hy
    have t78 : ∀ (w2 : Bool) (y2 : Int32), (w2 = true ↔ ∃ i, k ≤ i ∧ i < lc ∧ le i = x) → y2 = byI (fsq le lc us x k) → Wp E mX9_shownFor (w_R 0 0 0) (w_i SX ad (fun r V' => r = shI le lc us x ∧ V' = V)) 0 0 0 0 78 [(6, .int (nI (k))), (5, .int (y2)), (4, .int (bI (w2))), (0, .ref (ad (53))), (1, .int (nI (x))), (2, .int (nI (lc))), (3, .int (nI (smk us)))] [] SX ad V := by
      intro w2 y2 hw2 hy2
      refine Wp_iinc (x := (pI k)) (lv' := [(6, .int (pI k)), (5, .int (y2)), (4, .int (bI (w2))), (0, .ref (ad (53))), (1, .int (nI (x))), (2, .int (nI (lc))), (3, .int (nI (smk us)))]) dX9_shownFor_78 0 rfl (pI_dec1 _) (by decide) rfl ?_
      refine Wp_goto (tgt := 12) dX9_shownFor_81 (by decide) ?_
      refine Wp_iload dX9_shownFor_12 0 rfl ?_
      refine Wp_if_lt (tgt := 84) dX9_shownFor_14 (by decide) (pI_toInt (by omega)) (fun c_14 => ?_) (fun c_14 => ?_)
      · have h0 : k = 0 := by omega
        subst h0
        refine Wp_lv (lv2 := [(6, .int (pI 0)), (5, .int (y2)), (4, .int (bI (w2))), (0, .ref (ad (53))), (1, .int (nI (x))), (2, .int (nI (lc))), (3, .int (nI (smk us)))]) [0, 1, 2, 3, 4, 5, 6] rfl ?_
        exact tl_X9_shownFor hl hc hx hw2 hy2
      · obtain ⟨j, hj⟩ : ∃ j, k = j + 1 := ⟨k - 1, by omega⟩
        rw [hj, pI_s]
        refine Wp_lv (lv2 := [(6, .int (nI (j))), (5, .int (y2)), (4, .int (bI (w2))), (0, .ref (ad (53))), (1, .int (nI (x))), (2, .int (nI (lc))), (3, .int (nI (smk us)))]) [0, 1, 2, 3, 4, 5, 6] rfl ?_
        exact ih j w2 y2 (by omega) (by omega) (by rw [hj] at hw2; exact hw2) (by rw [hj] at hy2; exact hy2)
    have hlk := hl k (by omega)
    refine Wp_iload dX9_shownFor_17 2 rfl ?_
    refine Wp_ifne_b (tgt := 33) dX9_shownFor_19 (by decide) (fun c_19 => ?_) (fun c_19 => ?_)
    · refine Wp_iconst (v := (nI (1))) dX9_shownFor_33 (by decide) ?_
      refine Wp_goto (tgt := 38) dX9_shownFor_34 (by decide) ?_
      refine Wp_istore (lv' := [(4, .int (nI (1))), (6, .int (nI (k))), (5, .int (y)), (0, .ref (ad (53))), (1, .int (nI (x))), (2, .int (nI (lc))), (3, .int (nI (smk us)))]) dX9_shownFor_38 (by decide) rfl ?_
      refine Wp_iload dX9_shownFor_40 1 rfl ?_
      refine Wp_iconst (v := (nI (3))) dX9_shownFor_42 (by decide) ?_
      refine Wp_icmp_ge (tgt := 74) dX9_shownFor_43 (by decide) (nI_toInt (by omega)) (nI_toInt (by omega)) (fun c_43 => ?_) (fun c_43 => ?_)
      · refine Wp_iload dX9_shownFor_74 2 rfl ?_
        refine Wp_istore (lv' := [(5, .int (y)), (4, .int (nI (1))), (6, .int (nI (k))), (0, .ref (ad (53))), (1, .int (nI (x))), (2, .int (nI (lc))), (3, .int (nI (smk us)))]) dX9_shownFor_76 (by decide) rfl ?_
        refine Wp_lv (lv2 := [(6, .int (nI (k))), (5, .int ((y))), (4, .int (bI (true))), (0, .ref (ad (53))), (1, .int (nI (x))), (2, .int (nI (lc))), (3, .int (nI (smk us)))]) [2, 0, 1, 3, 4, 5, 6] rfl ?_
        exact t78 true (y) (by
          first
            | exact ⟨fun _ => ⟨k, by omega, by omega, by omega⟩, fun _ => rfl⟩
            | exact ⟨fun _ => by obtain ⟨i, a, b⟩ := hw.mp (by assumption); exact ⟨i, by omega, b⟩, fun _ => rfl⟩
            | exact ⟨fun q => (by cases q), fun ⟨i, a, b, d⟩ => by
                exfalso
                rcases Nat.eq_or_lt_of_le a with z | z
                · subst z; omega
                · have := hw.mpr ⟨i, by omega, b, d⟩; simp_all⟩) (by
          first
            | exact hy.trans (congrArg byI (fsq_n (Or.inl (by omega))).symm)
            | exact hy.trans (congrArg byI (fsq_n (Or.inr (fsc_f (Or.inr (Or.inl (by omega)))))).symm)
            | exact hy.trans (congrArg byI (fsq_n (Or.inr (fsc_f (Or.inr (Or.inr (by assumption)))))).symm)
            | (rw [fsq_t (k := k) (by omega) (fsc_t (by omega) (by omega) (by assumption))]; unfold byI; rw [if_neg (by omega)]; congr 1; omega))
      · refine Wp_aload_n dX9_shownFor_46 rfl 3 rfl ?_
        refine Wp_getr fk_X9_56 sx_53 rfl dX9_shownFor_47 ?_
        refine Wp_iload dX9_shownFor_50 1 rfl ?_
        refine Wp_ild (n := k) (y := (nI (le k))) sx_69 rfl (by omega) (by decide) hlk.1 dX9_shownFor_52 ?_
        refine Wp_iload_n dX9_shownFor_53 rfl 4 rfl ?_
        refine Wp_icmp_ne (tgt := 74) dX9_shownFor_54 (by decide) (nI_toInt (by omega)) (nI_toInt (by omega)) (fun c_54 => ?_) (fun c_54 => ?_)
        · refine Wp_iload dX9_shownFor_74 2 rfl ?_
          refine Wp_istore (lv' := [(5, .int (y)), (4, .int (nI (1))), (6, .int (nI (k))), (0, .ref (ad (53))), (1, .int (nI (x))), (2, .int (nI (lc))), (3, .int (nI (smk us)))]) dX9_shownFor_76 (by decide) rfl ?_
          refine Wp_lv (lv2 := [(6, .int (nI (k))), (5, .int ((y))), (4, .int (bI (true))), (0, .ref (ad (53))), (1, .int (nI (x))), (2, .int (nI (lc))), (3, .int (nI (smk us)))]) [2, 0, 1, 3, 4, 5, 6] rfl ?_
          exact t78 true (y) (by
            first
              | exact ⟨fun _ => ⟨k, by omega, by omega, by omega⟩, fun _ => rfl⟩
              | exact ⟨fun _ => by obtain ⟨i, a, b⟩ := hw.mp (by assumption); exact ⟨i, by omega, b⟩, fun _ => rfl⟩
              | exact ⟨fun q => (by cases q), fun ⟨i, a, b, d⟩ => by
                  exfalso
                  rcases Nat.eq_or_lt_of_le a with z | z
                  · subst z; omega
                  · have := hw.mpr ⟨i, by omega, b, d⟩; simp_all⟩) (by
            first
              | exact hy.trans (congrArg byI (fsq_n (Or.inl (by omega))).symm)
              | exact hy.trans (congrArg byI (fsq_n (Or.inr (fsc_f (Or.inr (Or.inl (by omega)))))).symm)
              | exact hy.trans (congrArg byI (fsq_n (Or.inr (fsc_f (Or.inr (Or.inr (by assumption)))))).symm)
              | (rw [fsq_t (k := k) (by omega) (fsc_t (by omega) (by omega) (by assumption))]; unfold byI; rw [if_neg (by omega)]; congr 1; omega))
        · refine Wp_iload_n dX9_shownFor_57 rfl 6 rfl ?_
          refine Wp_iload dX9_shownFor_58 1 rfl ?_
          refine Wp_ishr (z := (((nI (smk us)) >>> ((nI (k)) &&& 31)))) dX9_shownFor_60 rfl ?_
          refine Wp_iconst (v := (nI (1))) dX9_shownFor_61 (by decide) ?_
          refine Wp_iand (z := (bI (us k))) dX9_shownFor_62 (smk_bit us (by omega)) ?_
          refine Wp_ifne_b (tgt := 74) dX9_shownFor_63 (by decide) (fun c_63 => ?_) (fun c_63 => ?_)
          · refine Wp_iload dX9_shownFor_74 2 rfl ?_
            refine Wp_istore (lv' := [(5, .int (y)), (4, .int (nI (1))), (6, .int (nI (k))), (0, .ref (ad (53))), (1, .int (nI (x))), (2, .int (nI (lc))), (3, .int (nI (smk us)))]) dX9_shownFor_76 (by decide) rfl ?_
            refine Wp_lv (lv2 := [(6, .int (nI (k))), (5, .int ((y))), (4, .int (bI (true))), (0, .ref (ad (53))), (1, .int (nI (x))), (2, .int (nI (lc))), (3, .int (nI (smk us)))]) [2, 0, 1, 3, 4, 5, 6] rfl ?_
            exact t78 true (y) (by
              first
                | exact ⟨fun _ => ⟨k, by omega, by omega, by omega⟩, fun _ => rfl⟩
                | exact ⟨fun _ => by obtain ⟨i, a, b⟩ := hw.mp (by assumption); exact ⟨i, by omega, b⟩, fun _ => rfl⟩
                | exact ⟨fun q => (by cases q), fun ⟨i, a, b, d⟩ => by
                    exfalso
                    rcases Nat.eq_or_lt_of_le a with z | z
                    · subst z; omega
                    · have := hw.mpr ⟨i, by omega, b, d⟩; simp_all⟩) (by
              first
                | exact hy.trans (congrArg byI (fsq_n (Or.inl (by omega))).symm)
                | exact hy.trans (congrArg byI (fsq_n (Or.inr (fsc_f (Or.inr (Or.inl (by omega)))))).symm)
                | exact hy.trans (congrArg byI (fsq_n (Or.inr (fsc_f (Or.inr (Or.inr (by assumption)))))).symm)
                | (rw [fsq_t (k := k) (by omega) (fsc_t (by omega) (by omega) (by assumption))]; unfold byI; rw [if_neg (by omega)]; congr 1; omega))
          · refine Wp_bipush (v := (nI (11))) dX9_shownFor_66 (by decide) ?_
            refine Wp_iload dX9_shownFor_68 1 rfl ?_
            refine Wp_iadd (z := (nI ((11 + k)))) dX9_shownFor_70 (nI_add _ _) ?_
            refine Wp_goto (tgt := 76) dX9_shownFor_71 (by decide) ?_
            refine Wp_istore (lv' := [(5, .int (nI ((11 + k)))), (4, .int (nI (1))), (6, .int (nI (k))), (0, .ref (ad (53))), (1, .int (nI (x))), (2, .int (nI (lc))), (3, .int (nI (smk us)))]) dX9_shownFor_76 (by decide) rfl ?_
            refine Wp_lv (lv2 := [(6, .int (nI (k))), (5, .int ((nI ((11 + k))))), (4, .int (bI (true))), (0, .ref (ad (53))), (1, .int (nI (x))), (2, .int (nI (lc))), (3, .int (nI (smk us)))]) [2, 0, 1, 3, 4, 5, 6] rfl ?_
            exact t78 true (nI ((11 + k))) (by
              first
                | exact ⟨fun _ => ⟨k, by omega, by omega, by omega⟩, fun _ => rfl⟩
                | exact ⟨fun _ => by obtain ⟨i, a, b⟩ := hw.mp (by assumption); exact ⟨i, by omega, b⟩, fun _ => rfl⟩
                | exact ⟨fun q => (by cases q), fun ⟨i, a, b, d⟩ => by
                    exfalso
                    rcases Nat.eq_or_lt_of_le a with z | z
                    · subst z; omega
                    · have := hw.mpr ⟨i, by omega, b, d⟩; simp_all⟩) (by
              first
                | exact hy.trans (congrArg byI (fsq_n (Or.inl (by omega))).symm)
                | exact hy.trans (congrArg byI (fsq_n (Or.inr (fsc_f (Or.inr (Or.inl (by omega)))))).symm)
                | exact hy.trans (congrArg byI (fsq_n (Or.inr (fsc_f (Or.inr (Or.inr (by assumption)))))).symm)
                | (rw [fsq_t (k := k) (by omega) (fsc_t (by omega) (by omega) (by assumption))]; unfold byI; rw [if_neg (by omega)]; congr 1; omega))
    · refine Wp_aload_n dX9_shownFor_22 rfl 3 rfl ?_
      refine Wp_getr fk_X9_56 sx_53 rfl dX9_shownFor_23 ?_
      refine Wp_iload dX9_shownFor_26 0 rfl ?_
      refine Wp_ild (n := k) (y := (nI (le k))) sx_69 rfl (by omega) (by decide) hlk.1 dX9_shownFor_28 ?_
      refine Wp_iload_n dX9_shownFor_29 rfl 4 rfl ?_
      refine Wp_icmp_ne (tgt := 37) dX9_shownFor_30 (by decide) (nI_toInt (by omega)) (nI_toInt (by omega)) (fun c_30 => ?_) (fun c_30 => ?_)
      · refine Wp_iconst (v := (nI (0))) dX9_shownFor_37 (by decide) ?_
        refine Wp_istore (lv' := [(4, .int (nI (0))), (6, .int (nI (k))), (5, .int (y)), (0, .ref (ad (53))), (1, .int (nI (x))), (2, .int (nI (lc))), (3, .int (nI (smk us)))]) dX9_shownFor_38 (by decide) rfl ?_
        refine Wp_iload dX9_shownFor_40 1 rfl ?_
        refine Wp_iconst (v := (nI (3))) dX9_shownFor_42 (by decide) ?_
        refine Wp_icmp_ge (tgt := 74) dX9_shownFor_43 (by decide) (nI_toInt (by omega)) (nI_toInt (by omega)) (fun c_43 => ?_) (fun c_43 => ?_)
        · refine Wp_iload dX9_shownFor_74 2 rfl ?_
          refine Wp_istore (lv' := [(5, .int (y)), (4, .int (nI (0))), (6, .int (nI (k))), (0, .ref (ad (53))), (1, .int (nI (x))), (2, .int (nI (lc))), (3, .int (nI (smk us)))]) dX9_shownFor_76 (by decide) rfl ?_
          refine Wp_lv (lv2 := [(6, .int (nI (k))), (5, .int ((y))), (4, .int (bI (false))), (0, .ref (ad (53))), (1, .int (nI (x))), (2, .int (nI (lc))), (3, .int (nI (smk us)))]) [2, 0, 1, 3, 4, 5, 6] rfl ?_
          exact t78 false (y) (by
            first
              | exact ⟨fun _ => ⟨k, by omega, by omega, by omega⟩, fun _ => rfl⟩
              | exact ⟨fun _ => by obtain ⟨i, a, b⟩ := hw.mp (by assumption); exact ⟨i, by omega, b⟩, fun _ => rfl⟩
              | exact ⟨fun q => (by cases q), fun ⟨i, a, b, d⟩ => by
                  exfalso
                  rcases Nat.eq_or_lt_of_le a with z | z
                  · subst z; omega
                  · have := hw.mpr ⟨i, by omega, b, d⟩; simp_all⟩) (by
            first
              | exact hy.trans (congrArg byI (fsq_n (Or.inl (by omega))).symm)
              | exact hy.trans (congrArg byI (fsq_n (Or.inr (fsc_f (Or.inr (Or.inl (by omega)))))).symm)
              | exact hy.trans (congrArg byI (fsq_n (Or.inr (fsc_f (Or.inr (Or.inr (by assumption)))))).symm)
              | (rw [fsq_t (k := k) (by omega) (fsc_t (by omega) (by omega) (by assumption))]; unfold byI; rw [if_neg (by omega)]; congr 1; omega))
        · refine Wp_aload_n dX9_shownFor_46 rfl 3 rfl ?_
          refine Wp_getr fk_X9_56 sx_53 rfl dX9_shownFor_47 ?_
          refine Wp_iload dX9_shownFor_50 1 rfl ?_
          refine Wp_ild (n := k) (y := (nI (le k))) sx_69 rfl (by omega) (by decide) hlk.1 dX9_shownFor_52 ?_
          refine Wp_iload_n dX9_shownFor_53 rfl 4 rfl ?_
          refine Wp_icmp_ne (tgt := 74) dX9_shownFor_54 (by decide) (nI_toInt (by omega)) (nI_toInt (by omega)) (fun c_54 => ?_) (fun c_54 => ?_)
          · refine Wp_iload dX9_shownFor_74 2 rfl ?_
            refine Wp_istore (lv' := [(5, .int (y)), (4, .int (nI (0))), (6, .int (nI (k))), (0, .ref (ad (53))), (1, .int (nI (x))), (2, .int (nI (lc))), (3, .int (nI (smk us)))]) dX9_shownFor_76 (by decide) rfl ?_
            refine Wp_lv (lv2 := [(6, .int (nI (k))), (5, .int ((y))), (4, .int (bI (false))), (0, .ref (ad (53))), (1, .int (nI (x))), (2, .int (nI (lc))), (3, .int (nI (smk us)))]) [2, 0, 1, 3, 4, 5, 6] rfl ?_
            exact t78 false (y) (by
              first
                | exact ⟨fun _ => ⟨k, by omega, by omega, by omega⟩, fun _ => rfl⟩
                | exact ⟨fun _ => by obtain ⟨i, a, b⟩ := hw.mp (by assumption); exact ⟨i, by omega, b⟩, fun _ => rfl⟩
                | exact ⟨fun q => (by cases q), fun ⟨i, a, b, d⟩ => by
                    exfalso
                    rcases Nat.eq_or_lt_of_le a with z | z
                    · subst z; omega
                    · have := hw.mpr ⟨i, by omega, b, d⟩; simp_all⟩) (by
              first
                | exact hy.trans (congrArg byI (fsq_n (Or.inl (by omega))).symm)
                | exact hy.trans (congrArg byI (fsq_n (Or.inr (fsc_f (Or.inr (Or.inl (by omega)))))).symm)
                | exact hy.trans (congrArg byI (fsq_n (Or.inr (fsc_f (Or.inr (Or.inr (by assumption)))))).symm)
                | (rw [fsq_t (k := k) (by omega) (fsc_t (by omega) (by omega) (by assumption))]; unfold byI; rw [if_neg (by omega)]; congr 1; omega))
          · refine Wp_iload_n dX9_shownFor_57 rfl 6 rfl ?_
            refine Wp_iload dX9_shownFor_58 1 rfl ?_
            refine Wp_ishr (z := (((nI (smk us)) >>> ((nI (k)) &&& 31)))) dX9_shownFor_60 rfl ?_
            refine Wp_iconst (v := (nI (1))) dX9_shownFor_61 (by decide) ?_
            refine Wp_iand (z := (bI (us k))) dX9_shownFor_62 (smk_bit us (by omega)) ?_
            refine Wp_ifne_b (tgt := 74) dX9_shownFor_63 (by decide) (fun c_63 => ?_) (fun c_63 => ?_)
            · refine Wp_iload dX9_shownFor_74 2 rfl ?_
              refine Wp_istore (lv' := [(5, .int (y)), (4, .int (nI (0))), (6, .int (nI (k))), (0, .ref (ad (53))), (1, .int (nI (x))), (2, .int (nI (lc))), (3, .int (nI (smk us)))]) dX9_shownFor_76 (by decide) rfl ?_
              refine Wp_lv (lv2 := [(6, .int (nI (k))), (5, .int ((y))), (4, .int (bI (false))), (0, .ref (ad (53))), (1, .int (nI (x))), (2, .int (nI (lc))), (3, .int (nI (smk us)))]) [2, 0, 1, 3, 4, 5, 6] rfl ?_
              exact t78 false (y) (by
                first
                  | exact ⟨fun _ => ⟨k, by omega, by omega, by omega⟩, fun _ => rfl⟩
                  | exact ⟨fun _ => by obtain ⟨i, a, b⟩ := hw.mp (by assumption); exact ⟨i, by omega, b⟩, fun _ => rfl⟩
                  | exact ⟨fun q => (by cases q), fun ⟨i, a, b, d⟩ => by
                      exfalso
                      rcases Nat.eq_or_lt_of_le a with z | z
                      · subst z; omega
                      · have := hw.mpr ⟨i, by omega, b, d⟩; simp_all⟩) (by
                first
                  | exact hy.trans (congrArg byI (fsq_n (Or.inl (by omega))).symm)
                  | exact hy.trans (congrArg byI (fsq_n (Or.inr (fsc_f (Or.inr (Or.inl (by omega)))))).symm)
                  | exact hy.trans (congrArg byI (fsq_n (Or.inr (fsc_f (Or.inr (Or.inr (by assumption)))))).symm)
                  | (rw [fsq_t (k := k) (by omega) (fsc_t (by omega) (by omega) (by assumption))]; unfold byI; rw [if_neg (by omega)]; congr 1; omega))
            · refine Wp_bipush (v := (nI (11))) dX9_shownFor_66 (by decide) ?_
              refine Wp_iload dX9_shownFor_68 1 rfl ?_
              refine Wp_iadd (z := (nI ((11 + k)))) dX9_shownFor_70 (nI_add _ _) ?_
              refine Wp_goto (tgt := 76) dX9_shownFor_71 (by decide) ?_
              refine Wp_istore (lv' := [(5, .int (nI ((11 + k)))), (4, .int (nI (0))), (6, .int (nI (k))), (0, .ref (ad (53))), (1, .int (nI (x))), (2, .int (nI (lc))), (3, .int (nI (smk us)))]) dX9_shownFor_76 (by decide) rfl ?_
              refine Wp_lv (lv2 := [(6, .int (nI (k))), (5, .int ((nI ((11 + k))))), (4, .int (bI (false))), (0, .ref (ad (53))), (1, .int (nI (x))), (2, .int (nI (lc))), (3, .int (nI (smk us)))]) [2, 0, 1, 3, 4, 5, 6] rfl ?_
              exact t78 false (nI ((11 + k))) (by
                first
                  | exact ⟨fun _ => ⟨k, by omega, by omega, by omega⟩, fun _ => rfl⟩
                  | exact ⟨fun _ => by obtain ⟨i, a, b⟩ := hw.mp (by assumption); exact ⟨i, by omega, b⟩, fun _ => rfl⟩
                  | exact ⟨fun q => (by cases q), fun ⟨i, a, b, d⟩ => by
                      exfalso
                      rcases Nat.eq_or_lt_of_le a with z | z
                      · subst z; omega
                      · have := hw.mpr ⟨i, by omega, b, d⟩; simp_all⟩) (by
                first
                  | exact hy.trans (congrArg byI (fsq_n (Or.inl (by omega))).symm)
                  | exact hy.trans (congrArg byI (fsq_n (Or.inr (fsc_f (Or.inr (Or.inl (by omega)))))).symm)
                  | exact hy.trans (congrArg byI (fsq_n (Or.inr (fsc_f (Or.inr (Or.inr (by assumption)))))).symm)
                  | (rw [fsq_t (k := k) (by omega) (fsc_t (by omega) (by omega) (by assumption))]; unfold byI; rw [if_neg (by omega)]; congr 1; omega))
      · refine Wp_iconst (v := (nI (1))) dX9_shownFor_33 (by decide) ?_
        refine Wp_goto (tgt := 38) dX9_shownFor_34 (by decide) ?_
        refine Wp_istore (lv' := [(4, .int (nI (1))), (6, .int (nI (k))), (5, .int (y)), (0, .ref (ad (53))), (1, .int (nI (x))), (2, .int (nI (lc))), (3, .int (nI (smk us)))]) dX9_shownFor_38 (by decide) rfl ?_
        refine Wp_iload dX9_shownFor_40 1 rfl ?_
        refine Wp_iconst (v := (nI (3))) dX9_shownFor_42 (by decide) ?_
        refine Wp_icmp_ge (tgt := 74) dX9_shownFor_43 (by decide) (nI_toInt (by omega)) (nI_toInt (by omega)) (fun c_43 => ?_) (fun c_43 => ?_)
        · refine Wp_iload dX9_shownFor_74 2 rfl ?_
          refine Wp_istore (lv' := [(5, .int (y)), (4, .int (nI (1))), (6, .int (nI (k))), (0, .ref (ad (53))), (1, .int (nI (x))), (2, .int (nI (lc))), (3, .int (nI (smk us)))]) dX9_shownFor_76 (by decide) rfl ?_
          refine Wp_lv (lv2 := [(6, .int (nI (k))), (5, .int ((y))), (4, .int (bI (true))), (0, .ref (ad (53))), (1, .int (nI (x))), (2, .int (nI (lc))), (3, .int (nI (smk us)))]) [2, 0, 1, 3, 4, 5, 6] rfl ?_
          exact t78 true (y) (by
            first
              | exact ⟨fun _ => ⟨k, by omega, by omega, by omega⟩, fun _ => rfl⟩
              | exact ⟨fun _ => by obtain ⟨i, a, b⟩ := hw.mp (by assumption); exact ⟨i, by omega, b⟩, fun _ => rfl⟩
              | exact ⟨fun q => (by cases q), fun ⟨i, a, b, d⟩ => by
                  exfalso
                  rcases Nat.eq_or_lt_of_le a with z | z
                  · subst z; omega
                  · have := hw.mpr ⟨i, by omega, b, d⟩; simp_all⟩) (by
            first
              | exact hy.trans (congrArg byI (fsq_n (Or.inl (by omega))).symm)
              | exact hy.trans (congrArg byI (fsq_n (Or.inr (fsc_f (Or.inr (Or.inl (by omega)))))).symm)
              | exact hy.trans (congrArg byI (fsq_n (Or.inr (fsc_f (Or.inr (Or.inr (by assumption)))))).symm)
              | (rw [fsq_t (k := k) (by omega) (fsc_t (by omega) (by omega) (by assumption))]; unfold byI; rw [if_neg (by omega)]; congr 1; omega))
        · refine Wp_aload_n dX9_shownFor_46 rfl 3 rfl ?_
          refine Wp_getr fk_X9_56 sx_53 rfl dX9_shownFor_47 ?_
          refine Wp_iload dX9_shownFor_50 1 rfl ?_
          refine Wp_ild (n := k) (y := (nI (le k))) sx_69 rfl (by omega) (by decide) hlk.1 dX9_shownFor_52 ?_
          refine Wp_iload_n dX9_shownFor_53 rfl 4 rfl ?_
          refine Wp_icmp_ne (tgt := 74) dX9_shownFor_54 (by decide) (nI_toInt (by omega)) (nI_toInt (by omega)) (fun c_54 => ?_) (fun c_54 => ?_)
          · refine Wp_iload dX9_shownFor_74 2 rfl ?_
            refine Wp_istore (lv' := [(5, .int (y)), (4, .int (nI (1))), (6, .int (nI (k))), (0, .ref (ad (53))), (1, .int (nI (x))), (2, .int (nI (lc))), (3, .int (nI (smk us)))]) dX9_shownFor_76 (by decide) rfl ?_
            refine Wp_lv (lv2 := [(6, .int (nI (k))), (5, .int ((y))), (4, .int (bI (true))), (0, .ref (ad (53))), (1, .int (nI (x))), (2, .int (nI (lc))), (3, .int (nI (smk us)))]) [2, 0, 1, 3, 4, 5, 6] rfl ?_
            exact t78 true (y) (by
              first
                | exact ⟨fun _ => ⟨k, by omega, by omega, by omega⟩, fun _ => rfl⟩
                | exact ⟨fun _ => by obtain ⟨i, a, b⟩ := hw.mp (by assumption); exact ⟨i, by omega, b⟩, fun _ => rfl⟩
                | exact ⟨fun q => (by cases q), fun ⟨i, a, b, d⟩ => by
                    exfalso
                    rcases Nat.eq_or_lt_of_le a with z | z
                    · subst z; omega
                    · have := hw.mpr ⟨i, by omega, b, d⟩; simp_all⟩) (by
              first
                | exact hy.trans (congrArg byI (fsq_n (Or.inl (by omega))).symm)
                | exact hy.trans (congrArg byI (fsq_n (Or.inr (fsc_f (Or.inr (Or.inl (by omega)))))).symm)
                | exact hy.trans (congrArg byI (fsq_n (Or.inr (fsc_f (Or.inr (Or.inr (by assumption)))))).symm)
                | (rw [fsq_t (k := k) (by omega) (fsc_t (by omega) (by omega) (by assumption))]; unfold byI; rw [if_neg (by omega)]; congr 1; omega))
          · refine Wp_iload_n dX9_shownFor_57 rfl 6 rfl ?_
            refine Wp_iload dX9_shownFor_58 1 rfl ?_
            refine Wp_ishr (z := (((nI (smk us)) >>> ((nI (k)) &&& 31)))) dX9_shownFor_60 rfl ?_
            refine Wp_iconst (v := (nI (1))) dX9_shownFor_61 (by decide) ?_
            refine Wp_iand (z := (bI (us k))) dX9_shownFor_62 (smk_bit us (by omega)) ?_
            refine Wp_ifne_b (tgt := 74) dX9_shownFor_63 (by decide) (fun c_63 => ?_) (fun c_63 => ?_)
            · refine Wp_iload dX9_shownFor_74 2 rfl ?_
              refine Wp_istore (lv' := [(5, .int (y)), (4, .int (nI (1))), (6, .int (nI (k))), (0, .ref (ad (53))), (1, .int (nI (x))), (2, .int (nI (lc))), (3, .int (nI (smk us)))]) dX9_shownFor_76 (by decide) rfl ?_
              refine Wp_lv (lv2 := [(6, .int (nI (k))), (5, .int ((y))), (4, .int (bI (true))), (0, .ref (ad (53))), (1, .int (nI (x))), (2, .int (nI (lc))), (3, .int (nI (smk us)))]) [2, 0, 1, 3, 4, 5, 6] rfl ?_
              exact t78 true (y) (by
                first
                  | exact ⟨fun _ => ⟨k, by omega, by omega, by omega⟩, fun _ => rfl⟩
                  | exact ⟨fun _ => by obtain ⟨i, a, b⟩ := hw.mp (by assumption); exact ⟨i, by omega, b⟩, fun _ => rfl⟩
                  | exact ⟨fun q => (by cases q), fun ⟨i, a, b, d⟩ => by
                      exfalso
                      rcases Nat.eq_or_lt_of_le a with z | z
                      · subst z; omega
                      · have := hw.mpr ⟨i, by omega, b, d⟩; simp_all⟩) (by
                first
                  | exact hy.trans (congrArg byI (fsq_n (Or.inl (by omega))).symm)
                  | exact hy.trans (congrArg byI (fsq_n (Or.inr (fsc_f (Or.inr (Or.inl (by omega)))))).symm)
                  | exact hy.trans (congrArg byI (fsq_n (Or.inr (fsc_f (Or.inr (Or.inr (by assumption)))))).symm)
                  | (rw [fsq_t (k := k) (by omega) (fsc_t (by omega) (by omega) (by assumption))]; unfold byI; rw [if_neg (by omega)]; congr 1; omega))
            · refine Wp_bipush (v := (nI (11))) dX9_shownFor_66 (by decide) ?_
              refine Wp_iload dX9_shownFor_68 1 rfl ?_
              refine Wp_iadd (z := (nI ((11 + k)))) dX9_shownFor_70 (nI_add _ _) ?_
              refine Wp_goto (tgt := 76) dX9_shownFor_71 (by decide) ?_
              refine Wp_istore (lv' := [(5, .int (nI ((11 + k)))), (4, .int (nI (1))), (6, .int (nI (k))), (0, .ref (ad (53))), (1, .int (nI (x))), (2, .int (nI (lc))), (3, .int (nI (smk us)))]) dX9_shownFor_76 (by decide) rfl ?_
              refine Wp_lv (lv2 := [(6, .int (nI (k))), (5, .int ((nI ((11 + k))))), (4, .int (bI (true))), (0, .ref (ad (53))), (1, .int (nI (x))), (2, .int (nI (lc))), (3, .int (nI (smk us)))]) [2, 0, 1, 3, 4, 5, 6] rfl ?_
              exact t78 true (nI ((11 + k))) (by
                first
                  | exact ⟨fun _ => ⟨k, by omega, by omega, by omega⟩, fun _ => rfl⟩
                  | exact ⟨fun _ => by obtain ⟨i, a, b⟩ := hw.mp (by assumption); exact ⟨i, by omega, b⟩, fun _ => rfl⟩
                  | exact ⟨fun q => (by cases q), fun ⟨i, a, b, d⟩ => by
                      exfalso
                      rcases Nat.eq_or_lt_of_le a with z | z
                      · subst z; omega
                      · have := hw.mpr ⟨i, by omega, b, d⟩; simp_all⟩) (by
                first
                  | exact hy.trans (congrArg byI (fsq_n (Or.inl (by omega))).symm)
                  | exact hy.trans (congrArg byI (fsq_n (Or.inr (fsc_f (Or.inr (Or.inl (by omega)))))).symm)
                  | exact hy.trans (congrArg byI (fsq_n (Or.inr (fsc_f (Or.inr (Or.inr (by assumption)))))).symm)
                  | (rw [fsq_t (k := k) (by omega) (fsc_t (by omega) (by omega) (by assumption))]; unfold byI; rw [if_neg (by omega)]; congr 1; omega))
theorem c_X9_shownFor {E : wE} {ad : Nat → Nat} {V : wV} {lc x : Nat} {le : Nat → Nat} {us : Nat → Bool} (hl : ∀ i, i < lc → V 69 i = nI (le i) ∧ le i < 8) (hc : lc ≤ 8) (hx : x < 8)  : w_C E mX9_shownFor (w_R 0 0 0) 0 0 [.ref (ad (53)), .int (nI (x)), .int (nI (lc)), .int (nI (smk us))] SX ad V (w_i SX ad (fun r V' => r = shI le lc us x ∧ V' = V)) := by
  refine w_C.of (by decide) (Nat.le_of_ble_eq_true rfl) ?_
  show Wp _ _ _ _ _ _ _ _ _ [(0, .ref (ad (53))), (1, .int (nI (x))), (2, .int (nI (lc))), (3, .int (nI (smk us)))] [] SX ad V
  refine Wp_iconst (v := (nI (0))) dX9_shownFor_0 (by decide) ?_
  refine Wp_istore (lv' := [(4, .int (nI (0))), (0, .ref (ad (53))), (1, .int (nI (x))), (2, .int (nI (lc))), (3, .int (nI (smk us)))]) dX9_shownFor_1 (by decide) rfl ?_
  refine Wp_bipush (v := ((-9))) dX9_shownFor_3 (by decide) ?_
  refine Wp_istore (lv' := [(5, .int ((-9))), (4, .int (nI (0))), (0, .ref (ad (53))), (1, .int (nI (x))), (2, .int (nI (lc))), (3, .int (nI (smk us)))]) dX9_shownFor_5 (by decide) rfl ?_
  refine Wp_iload_n dX9_shownFor_7 rfl 4 rfl ?_
  refine Wp_iconst (v := (nI (1))) dX9_shownFor_8 (by decide) ?_
  refine Wp_isub (z := (pI lc)) dX9_shownFor_9 rfl ?_
  refine Wp_istore (lv' := [(6, .int (pI lc)), (5, .int ((-9))), (4, .int (nI (0))), (0, .ref (ad (53))), (1, .int (nI (x))), (2, .int (nI (lc))), (3, .int (nI (smk us)))]) dX9_shownFor_10 (by decide) rfl ?_
  refine Wp_iload dX9_shownFor_12 0 rfl ?_
  refine Wp_if_lt (tgt := 84) dX9_shownFor_14 (by decide) (pI_toInt (by omega)) (fun c_14 => ?_) (fun c_14 => ?_)
  · refine Wp_lv (lv2 := [(6, .int (pI lc)), (5, .int (-9)), (4, .int (bI (false))), (0, .ref (ad (53))), (1, .int (nI (x))), (2, .int (nI (lc))), (3, .int (nI (smk us)))]) [0, 1, 2, 3, 4, 5, 6] rfl ?_
    exact tl_X9_shownFor hl hc hx ⟨fun q => (by cases q), fun ⟨i, a, b, d⟩ => by omega⟩ (by rw [fsq_e (by omega)]; rfl)
  · obtain ⟨j, hj⟩ : ∃ j, lc = j + 1 := ⟨lc - 1, by omega⟩
    rw [hj, pI_s, ← hj]
    refine Wp_lv (lv2 := [(6, .int (nI (j))), (5, .int (-9)), (4, .int (bI (false))), (0, .ref (ad (53))), (1, .int (nI (x))), (2, .int (nI (lc))), (3, .int (nI (smk us)))]) [0, 1, 2, 3, 4, 5, 6] rfl ?_
    exact lp_X9_shownFor hl hc hx (j + 1) j false (-9) (by omega) (by omega) ⟨fun q => (by cases q), fun ⟨i, a, b, d⟩ => by omega⟩ (by rw [fsq_e (by omega)]; rfl)
