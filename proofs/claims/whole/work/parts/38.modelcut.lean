/-! THE REFERENCE: cut as a row of bits tells -/
def cv (lw : Nat → Nat → Bool) (n : Nat) : Nat → Nat → Nat → Option (List Nat)
  | 0, _, i => if lw i n = true then some [n] else none
  | r + 1, m, i => if 2 ^ r ≤ m then (if lw i (n - (r + 1)) = true then (cv lw n r (m - 2 ^ r) (n - (r + 1))).map (fun L => (n - (r + 1)) :: L) else none) else cv lw n r m i
def cvv (lw : Nat → Nat → Bool) (n M : Nat) : Option (List Nat) := if n = 0 then some [] else cv lw n (n - 1) M 0
def sl (L : List Nat) (j : Nat) : Nat := (0 :: L).getD j 0
theorem sl_app {P : List Nat} {k j : Nat} (h : j ≤ P.length) : sl (P ++ [k]) j = sl P j := by
  unfold sl
  cases j with
  | zero => rfl
  | succ j => simp only [List.getD_eq_getElem?_getD, List.getElem?_cons_succ]; rw [List.getElem?_append_left (by omega)]
theorem sl_new {P : List Nat} {k c : Nat} (h : P.length = c) : sl (P ++ [k]) (c + 1) = k := by
  subst h; unfold sl
  simp only [List.getD_eq_getElem?_getD, List.getElem?_cons_succ]; rw [List.getElem?_append_right (Nat.le_refl _)]; simp
theorem and1 : ∀ a, a < 256 → nI a &&& nI 1 = nI (a % 2) := by decide +kernel
theorem bitm (M d : Nat) : M % 2 ^ (d + 1) = M % 2 ^ d + 2 ^ d * (M / 2 ^ d % 2) := by rw [Nat.pow_succ, Nat.mod_mul]
theorem cv_set {lw : Nat → Nat → Bool} {n k M i : Nat} (hk : k < n) (hb : M / 2 ^ (n - 1 - k) % 2 = 1) : cv lw n (n - k) (M % 2 ^ (n - k)) i = if lw i k = true then (cv lw n (n - (k + 1)) (M % 2 ^ (n - (k + 1))) k).map (fun L => k :: L) else none := by
  have e := bitm M (n - 1 - k)
  rw [hb, show n - 1 - k + 1 = n - k by omega] at e
  have e2 : cv lw n (n - k) (M % 2 ^ (n - k)) i = cv lw n ((n - (k + 1)) + 1) (M % 2 ^ (n - k)) i := by rw [show (n - (k + 1)) + 1 = n - k by omega]
  rw [e2]
  simp only [cv]
  rw [show n - (n - (k + 1) + 1) = k by omega, e, show n - 1 - k = n - (k + 1) by omega, if_pos (by omega), show M % 2 ^ (n - (k + 1)) + 2 ^ (n - (k + 1)) * 1 - 2 ^ (n - (k + 1)) = M % 2 ^ (n - (k + 1)) by omega]
theorem cv_uns {lw : Nat → Nat → Bool} {n k M i : Nat} (hk : k < n) (hb : M / 2 ^ (n - 1 - k) % 2 ≠ 1) : cv lw n (n - k) (M % 2 ^ (n - k)) i = cv lw n (n - (k + 1)) (M % 2 ^ (n - (k + 1))) i := by
  have e := bitm M (n - 1 - k)
  rw [show M / 2 ^ (n - 1 - k) % 2 = 0 by omega, show n - 1 - k + 1 = n - k by omega] at e
  have e2 : cv lw n (n - k) (M % 2 ^ (n - k)) i = cv lw n ((n - (k + 1)) + 1) (M % 2 ^ (n - k)) i := by rw [show (n - (k + 1)) + 1 = n - k by omega]
  rw [e2]
  simp only [cv]
  have hp : 0 < 2 ^ (n - (k + 1)) := Nat.pos_of_ne_zero (by simp)
  have hl := Nat.mod_lt M hp
  rw [e, show n - 1 - k = n - (k + 1) by omega, if_neg (by omega)]
  simp
theorem lp_X9_cutBy {E : wE} {ad : Nat → Nat} {V : wV} {n pl nb : Nat} {ln : Nat → Nat} {lt : Nat → Nat → Nat} {row : Nat → Nat} (hd : HD V n pl nb ln lt row) {M : Nat} (hM : M < 256) (hM2 : 0 < n → M < 2 ^ (n - 1))  : ∀ (m : Nat) (k : Nat) (i : Nat) (c : Nat) (P : List Nat) (V1 : wV), 1 ≤ k → k ≤ n + 1 → n + 1 < k + m → i < k → c < k → P.length = c → sl P c = i → (∀ j, j < c → V1 70 j = nI (sl P j)) → (k ≤ n → cvv (law pl ln lt row) n M = (cv (law pl ln lt row) n (n - k) (M % 2 ^ (n - k)) i).map (fun L => P ++ L)) → (n < k → cvv (law pl ln lt row) n M = some P ∧ i = n) → (∀ j, j ≠ 68 → j ≠ 69 → j ≠ 70 → V1 j = V j) → Wp E mX9_cutBy (w_R 2 0 0) (w_i SX ad (fun r V' => ((cvv (law pl ln lt row) n M = none ∧ r = -9) ∨ (∃ L, cvv (law pl ln lt row) n M = some L ∧ r = nI L.length ∧ L.length ≤ n ∧ ∀ j, j ≤ L.length → V' 70 j = nI (sl L j))) ∧ ∀ j, j ≠ 68 → j ≠ 69 → j ≠ 70 → V' j = V j)) 0 0 0 0 7 [(4, .int (nI (k))), (3, .int (nI (i))), (2, .int (nI (c))), (0, .ref (ad (53))), (1, .int (nI (M)))] [] SX ad V1 := by
  intro m
  induction m with
  | zero => intro k i c P V1 hk1 hk hm hik hck hP hi hst hv1 hv2 fr; omega
  | succ m ih =>
    intro k i c P V1 hk1 hk hm hik hck hP hi hst hv1 hv2 fr
    have hd1 : HD V1 n pl nb ln lt row := hd.of (by rw [fr 53 (by decide) (by decide) (by decide)]) (by rw [fr 53 (by decide) (by decide) (by decide)]) (fr 67 (by decide) (by decide) (by decide)) (by rw [fr 54 (by decide) (by decide) (by decide)]) (fr 61 (by decide) (by decide) (by decide)) (fr 62 (by decide) (by decide) (by decide))
    have hn8 := hd.2.1
    refine Wp_iload dX9_cutBy_7 0 rfl ?_
    refine Wp_aload_n dX9_cutBy_9 rfl 3 rfl ?_
    refine Wp_get (x := (nI (n))) fk_X9_167 sx_53 rfl hd1.1 dX9_cutBy_10 ?_
    refine Wp_icmp_gt (tgt := 76) dX9_cutBy_13 (by decide) (nI_toInt (by omega)) (nI_toInt (by omega)) (fun c_13 => ?_) (fun c_13 => ?_)
    · refine Wp_aload_n dX9_cutBy_76 rfl 3 rfl ?_
      refine Wp_getr fk_X9_59 sx_53 rfl dX9_cutBy_77 ?_
      refine Wp_iload_n dX9_cutBy_80 rfl 2 rfl ?_
      refine Wp_aload_n dX9_cutBy_81 rfl 3 rfl ?_
      refine Wp_get (x := (nI (n))) fk_X9_167 sx_53 rfl hd1.1 dX9_cutBy_82 ?_
      refine Wp_ist (n := c) sx_70 rfl (by omega) (by decide) dX9_cutBy_85 ?_
      refine Wp_iload_n dX9_cutBy_86 rfl 2 rfl ?_
      exact Wp_iret rfl ⟨rfl, rfl, _, rfl, by
      obtain ⟨hv, hin⟩ := hv2 (by omega)
      refine ⟨Or.inr ⟨P, hv, by rw [hP], by omega, fun j hj => ?_⟩, fun j a1 a2 a3 => by simp only [up2, if_neg a3]; exact fr j a1 a2 a3⟩
      by_cases z : j = c
      · subst z; rw [up2_s, hi, hin]
      · rw [up2_k z]; exact hst j (by omega)⟩ (Nat.le_refl _) (Nat.le_refl _) dX9_cutBy_87
    · refine Wp_iload dX9_cutBy_16 0 rfl ?_
      refine Wp_aload_n dX9_cutBy_18 rfl 3 rfl ?_
      refine Wp_get (x := (nI (n))) fk_X9_167 sx_53 rfl hd1.1 dX9_cutBy_19 ?_
      refine Wp_icmp_eq (tgt := 42) dX9_cutBy_22 (by decide) (nI_toInt (by omega)) (nI_toInt (by omega)) (fun c_22 => ?_) (fun c_22 => ?_)
      · have hcv : cv (law pl ln lt row) n (n - k) (M % 2 ^ (n - k)) i = if law pl ln lt row i k = true then (if k = n then some [k] else (cv (law pl ln lt row) n (n - (k + 1)) (M % 2 ^ (n - (k + 1))) k).map (fun L => k :: L)) else none := by
          have hkn : k = n := by omega
          subst hkn
          rw [show k - k = 0 by omega]; simp only [cv, if_true]
        refine Wp_aload_n dX9_cutBy_42 rfl 3 rfl ?_
        refine Wp_iload_n dX9_cutBy_43 rfl 1 rfl ?_
        refine Wp_iload dX9_cutBy_44 0 rfl ?_
        refine Wp_callVi (c_X9_shows hd1 (a := i) (b := k) (by omega) (by omega)) YV_X9_shows ml_X9_170 sx_53 rfl dX9_cutBy_46 (by omega) (by decide) (by omega) (by omega) rfl rfl (Nat.le_of_ble_eq_true rfl) (fun r2 V2 hr2 => ?_)
        obtain ⟨hr2, fr2'⟩ := hr2
        have fr2 : ∀ j, j ≠ 68 → j ≠ 69 → j ≠ 70 → V2 j = V j := fun j a1 a2 a3 => (fr2' j a1 a2).trans (fr j a1 a2 a3)
        rcases hr2 with ⟨hE, e2⟩ | ⟨g, hE, e2, mh2⟩
        · rw [e2]
          have hl : law pl ln lt row i k = false := by show (hRw _ _ _ _ _ _ _).isSome = _; rw [hE]; rfl
          refine Wp_bipush (v := ((-9))) dX9_cutBy_49 (by decide) ?_
          refine Wp_icmp_ne (tgt := 57) dX9_cutBy_51 (by decide) ((by decide : ((-9) : Int32).toInt = (-9))) ((by decide : ((-9) : Int32).toInt = (-9))) (fun c_51 => absurd c_51 (by omega)) (fun c_51 => ?_)
          refine Wp_bipush (v := ((-9))) dX9_cutBy_54 (by decide) ?_
          exact Wp_iret rfl ⟨rfl, rfl, _, rfl, ⟨Or.inl ⟨by rw [hv1 (by omega), hcv, if_neg (by rw [hl]; decide)]; rfl, rfl⟩, fr2⟩⟩ (Nat.le_refl _) (Nat.le_refl _) dX9_cutBy_56
        · rw [e2]
          have hl : law pl ln lt row i k = true := by show (hRw _ _ _ _ _ _ _).isSome = _; rw [hE]; rfl
          have hg7 := Nat.le_trans mh2.1 hd.2.2.2.2.1
          refine Wp_bipush (v := ((-9))) dX9_cutBy_49 (by decide) ?_
          refine Wp_icmp_ne (tgt := 57) dX9_cutBy_51 (by decide) (nI_toInt (by omega)) ((by decide : ((-9) : Int32).toInt = (-9))) (fun c_51 => ?_) (fun c_51 => absurd c_51 (by omega))
          refine Wp_aload_n dX9_cutBy_57 rfl 3 rfl ?_
          refine Wp_getr fk_X9_59 sx_53 rfl dX9_cutBy_58 ?_
          refine Wp_iload_n dX9_cutBy_61 rfl 2 rfl ?_
          refine Wp_iload_n dX9_cutBy_62 rfl 1 rfl ?_
          refine Wp_ist (n := c) sx_70 rfl (by omega) (by decide) dX9_cutBy_63 ?_
          refine Wp_iinc (x := (nI ((c + 1)))) (lv' := [(2, .int (nI ((c + 1)))), (4, .int (nI (k))), (3, .int (nI (i))), (0, .ref (ad (53))), (1, .int (nI (M)))]) dX9_cutBy_64 2 rfl (w_inc1 _) (by decide) rfl ?_
          refine Wp_iload dX9_cutBy_67 1 rfl ?_
          refine Wp_istore_n (lv' := [(3, .int (nI (k))), (2, .int (nI ((c + 1)))), (4, .int (nI (k))), (0, .ref (ad (53))), (1, .int (nI (M)))]) dX9_cutBy_69 rfl (by decide) rfl ?_
          refine Wp_iinc (x := (nI ((k + 1)))) (lv' := [(4, .int (nI ((k + 1)))), (3, .int (nI (k))), (2, .int (nI ((c + 1)))), (0, .ref (ad (53))), (1, .int (nI (M)))]) dX9_cutBy_70 2 rfl (w_inc1 _) (by decide) rfl ?_
          refine Wp_goto (tgt := 7) dX9_cutBy_73 (by decide) ?_
          refine Wp_lv (lv2 := [(4, .int (nI (k + 1))), (3, .int (nI (k))), (2, .int (nI (c + 1))), (0, .ref (ad (53))), (1, .int (nI (M)))]) [0, 1, 2, 3, 4] rfl ?_
          exact ih (k + 1) k (c + 1) (P ++ [k]) _ (by omega) (by omega) (by omega) (by omega) (by omega) (by rw [List.length_append, hP]; rfl) (sl_new hP) (fun j hj => by
            by_cases z : j = c
            · subst z; rw [up2_s, sl_app (by omega), hi]
            · rw [up2_k z, fr2' 70 (by decide) (by decide), sl_app (by omega)]; exact hst j (by omega)) (fun hkn => by
            rw [hv1 (by omega), hcv, if_pos hl, if_neg (show ¬ k = n by omega), Option.map_map]
            congr 1; funext L; simp) (fun hkn => ⟨by rw [hv1 (by omega), hcv, if_pos hl, if_pos (show k = n by omega)]; rfl, by omega⟩) (fun j a1 a2 a3 => by simp only [up2, if_neg a3]; exact fr2 j a1 a2 a3)
      · refine Wp_iload_n dX9_cutBy_25 rfl 4 rfl ?_
        refine Wp_aload_n dX9_cutBy_26 rfl 3 rfl ?_
        refine Wp_get (x := (nI (n))) fk_X9_167 sx_53 rfl hd1.1 dX9_cutBy_27 ?_
        refine Wp_iconst (v := (nI (1))) dX9_cutBy_30 (by decide) ?_
        refine Wp_isub (z := (nI ((n - 1)))) dX9_cutBy_31 (pk_sub (by omega)) ?_
        refine Wp_iload dX9_cutBy_32 0 rfl ?_
        refine Wp_isub (z := (nI (((n - 1) - k)))) dX9_cutBy_34 (pk_sub (by omega)) ?_
        refine Wp_ishr (z := (nI ((M / 2 ^ (n - 1 - k))))) dX9_cutBy_35 (w_shr (by omega) (by omega)) ?_
        refine Wp_iconst (v := (nI (1))) dX9_cutBy_36 (by decide) ?_
        refine Wp_iand (z := (nI ((M / 2 ^ (n - 1 - k) % 2)))) dX9_cutBy_37 (and1 _ (Nat.lt_of_le_of_lt (Nat.div_le_self _ _) hM)) ?_
        refine Wp_iconst (v := (nI (1))) dX9_cutBy_38 (by decide) ?_
        refine Wp_icmp_ne (tgt := 70) dX9_cutBy_39 (by decide) (nI_toInt (by omega)) (nI_toInt (by omega)) (fun c_39 => ?_) (fun c_39 => ?_)
        · have hcn : cv (law pl ln lt row) n (n - k) (M % 2 ^ (n - k)) i = cv (law pl ln lt row) n (n - (k + 1)) (M % 2 ^ (n - (k + 1))) i := cv_uns (by omega) (by omega)
          refine Wp_iinc (x := (nI ((k + 1)))) (lv' := [(4, .int (nI ((k + 1)))), (3, .int (nI (i))), (2, .int (nI (c))), (0, .ref (ad (53))), (1, .int (nI (M)))]) dX9_cutBy_70 0 rfl (w_inc1 _) (by decide) rfl ?_
          refine Wp_goto (tgt := 7) dX9_cutBy_73 (by decide) ?_
          refine Wp_lv (lv2 := [(4, .int (nI (k + 1))), (3, .int (nI (i))), (2, .int (nI (c))), (0, .ref (ad (53))), (1, .int (nI (M)))]) [0, 1, 2, 3, 4] rfl ?_
          exact ih (k + 1) i c P V1 (by omega) (by omega) (by omega) (by omega) (by omega) hP hi hst (fun hkn => by rw [hv1 (by omega), hcn]) (fun hkn => by omega) fr
        · have hcv : cv (law pl ln lt row) n (n - k) (M % 2 ^ (n - k)) i = if law pl ln lt row i k = true then (if k = n then some [k] else (cv (law pl ln lt row) n (n - (k + 1)) (M % 2 ^ (n - (k + 1))) k).map (fun L => k :: L)) else none := by
            rw [if_neg (show ¬ k = n by omega)]; exact cv_set (by omega) (by omega)
          refine Wp_aload_n dX9_cutBy_42 rfl 3 rfl ?_
          refine Wp_iload_n dX9_cutBy_43 rfl 1 rfl ?_
          refine Wp_iload dX9_cutBy_44 0 rfl ?_
          refine Wp_callVi (c_X9_shows hd1 (a := i) (b := k) (by omega) (by omega)) YV_X9_shows ml_X9_170 sx_53 rfl dX9_cutBy_46 (by omega) (by decide) (by omega) (by omega) rfl rfl (Nat.le_of_ble_eq_true rfl) (fun r2 V2 hr2 => ?_)
          obtain ⟨hr2, fr2'⟩ := hr2
          have fr2 : ∀ j, j ≠ 68 → j ≠ 69 → j ≠ 70 → V2 j = V j := fun j a1 a2 a3 => (fr2' j a1 a2).trans (fr j a1 a2 a3)
          rcases hr2 with ⟨hE, e2⟩ | ⟨g, hE, e2, mh2⟩
          · rw [e2]
            have hl : law pl ln lt row i k = false := by show (hRw _ _ _ _ _ _ _).isSome = _; rw [hE]; rfl
            refine Wp_bipush (v := ((-9))) dX9_cutBy_49 (by decide) ?_
            refine Wp_icmp_ne (tgt := 57) dX9_cutBy_51 (by decide) ((by decide : ((-9) : Int32).toInt = (-9))) ((by decide : ((-9) : Int32).toInt = (-9))) (fun c_51 => absurd c_51 (by omega)) (fun c_51 => ?_)
            refine Wp_bipush (v := ((-9))) dX9_cutBy_54 (by decide) ?_
            exact Wp_iret rfl ⟨rfl, rfl, _, rfl, ⟨Or.inl ⟨by rw [hv1 (by omega), hcv, if_neg (by rw [hl]; decide)]; rfl, rfl⟩, fr2⟩⟩ (Nat.le_refl _) (Nat.le_refl _) dX9_cutBy_56
          · rw [e2]
            have hl : law pl ln lt row i k = true := by show (hRw _ _ _ _ _ _ _).isSome = _; rw [hE]; rfl
            have hg7 := Nat.le_trans mh2.1 hd.2.2.2.2.1
            refine Wp_bipush (v := ((-9))) dX9_cutBy_49 (by decide) ?_
            refine Wp_icmp_ne (tgt := 57) dX9_cutBy_51 (by decide) (nI_toInt (by omega)) ((by decide : ((-9) : Int32).toInt = (-9))) (fun c_51 => ?_) (fun c_51 => absurd c_51 (by omega))
            refine Wp_aload_n dX9_cutBy_57 rfl 3 rfl ?_
            refine Wp_getr fk_X9_59 sx_53 rfl dX9_cutBy_58 ?_
            refine Wp_iload_n dX9_cutBy_61 rfl 2 rfl ?_
            refine Wp_iload_n dX9_cutBy_62 rfl 1 rfl ?_
            refine Wp_ist (n := c) sx_70 rfl (by omega) (by decide) dX9_cutBy_63 ?_
            refine Wp_iinc (x := (nI ((c + 1)))) (lv' := [(2, .int (nI ((c + 1)))), (4, .int (nI (k))), (3, .int (nI (i))), (0, .ref (ad (53))), (1, .int (nI (M)))]) dX9_cutBy_64 2 rfl (w_inc1 _) (by decide) rfl ?_
            refine Wp_iload dX9_cutBy_67 1 rfl ?_
            refine Wp_istore_n (lv' := [(3, .int (nI (k))), (2, .int (nI ((c + 1)))), (4, .int (nI (k))), (0, .ref (ad (53))), (1, .int (nI (M)))]) dX9_cutBy_69 rfl (by decide) rfl ?_
            refine Wp_iinc (x := (nI ((k + 1)))) (lv' := [(4, .int (nI ((k + 1)))), (3, .int (nI (k))), (2, .int (nI ((c + 1)))), (0, .ref (ad (53))), (1, .int (nI (M)))]) dX9_cutBy_70 2 rfl (w_inc1 _) (by decide) rfl ?_
            refine Wp_goto (tgt := 7) dX9_cutBy_73 (by decide) ?_
            refine Wp_lv (lv2 := [(4, .int (nI (k + 1))), (3, .int (nI (k))), (2, .int (nI (c + 1))), (0, .ref (ad (53))), (1, .int (nI (M)))]) [0, 1, 2, 3, 4] rfl ?_
            exact ih (k + 1) k (c + 1) (P ++ [k]) _ (by omega) (by omega) (by omega) (by omega) (by omega) (by rw [List.length_append, hP]; rfl) (sl_new hP) (fun j hj => by
              by_cases z : j = c
              · subst z; rw [up2_s, sl_app (by omega), hi]
              · rw [up2_k z, fr2' 70 (by decide) (by decide), sl_app (by omega)]; exact hst j (by omega)) (fun hkn => by
              rw [hv1 (by omega), hcv, if_pos hl, if_neg (show ¬ k = n by omega), Option.map_map]
              congr 1; funext L; simp) (fun hkn => ⟨by rw [hv1 (by omega), hcv, if_pos hl, if_pos (show k = n by omega)]; rfl, by omega⟩) (fun j a1 a2 a3 => by simp only [up2, if_neg a3]; exact fr2 j a1 a2 a3)
theorem c_X9_cutBy {E : wE} {ad : Nat → Nat} {V : wV} {n pl nb : Nat} {ln : Nat → Nat} {lt : Nat → Nat → Nat} {row : Nat → Nat} (hd : HD V n pl nb ln lt row) {M : Nat} (hM : M < 256) (hM2 : 0 < n → M < 2 ^ (n - 1))  : w_C E mX9_cutBy (w_R 2 0 0) 0 0 [.ref (ad (53)), .int (nI (M))] SX ad V (w_i SX ad (fun r V' => ((cvv (law pl ln lt row) n M = none ∧ r = -9) ∨ (∃ L, cvv (law pl ln lt row) n M = some L ∧ r = nI L.length ∧ L.length ≤ n ∧ ∀ j, j ≤ L.length → V' 70 j = nI (sl L j))) ∧ ∀ j, j ≠ 68 → j ≠ 69 → j ≠ 70 → V' j = V j)) := by
  refine w_C.of (by decide) (Nat.le_of_ble_eq_true rfl) ?_
  show Wp _ _ _ _ _ _ _ _ _ [(0, .ref (ad (53))), (1, .int (nI (M)))] [] SX ad V
  have hn8 := hd.2.1
  refine Wp_iconst (v := (nI (0))) dX9_cutBy_0 (by decide) ?_
  refine Wp_istore_n (lv' := [(2, .int (nI (0))), (0, .ref (ad (53))), (1, .int (nI (M)))]) dX9_cutBy_1 rfl (by decide) rfl ?_
  refine Wp_iconst (v := (nI (0))) dX9_cutBy_2 (by decide) ?_
  refine Wp_istore_n (lv' := [(3, .int (nI (0))), (2, .int (nI (0))), (0, .ref (ad (53))), (1, .int (nI (M)))]) dX9_cutBy_3 rfl (by decide) rfl ?_
  refine Wp_iconst (v := (nI (1))) dX9_cutBy_4 (by decide) ?_
  refine Wp_istore (lv' := [(4, .int (nI (1))), (3, .int (nI (0))), (2, .int (nI (0))), (0, .ref (ad (53))), (1, .int (nI (M)))]) dX9_cutBy_5 (by decide) rfl ?_
  refine Wp_lv (lv2 := [(4, .int (nI (1))), (3, .int (nI (0))), (2, .int (nI (0))), (0, .ref (ad (53))), (1, .int (nI (M)))]) [0, 1, 2, 3, 4] rfl ?_
  exact lp_X9_cutBy hd hM hM2 (n + 1) 1 0 0 [] V (by omega) (by omega) (by omega) (by omega) (by omega) rfl rfl (fun j hj => by omega) (fun hkn => by
    unfold cvv; rw [if_neg (by omega), Nat.mod_eq_of_lt (hM2 (by omega))]
    show _ = Option.map (fun L => L) _
    rw [Option.map_id']) (fun hkn => ⟨by unfold cvv; rw [if_pos (by omega)], by omega⟩) (fun _ _ _ _ => rfl)
