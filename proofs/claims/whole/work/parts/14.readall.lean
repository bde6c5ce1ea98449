/-! READING: an item, all -/
theorem ctk_eq {t k : Nat} (h : t ≤ 301) (hk : k < 256) : (ctk t).toInt = k ↔ t = k := by
  rw [ctk_toInt h]
  constructor
  · intro q; split at q
    · omega
    · split at q <;> omega
  · intro q; rw [if_neg (by omega), if_neg (by omega)]; omega
theorem ctk_300 {t : Nat} (h : t ≤ 301) : (ctk t).toInt = -1 ↔ t = 300 := by
  rw [ctk_toInt h]
  constructor
  · intro q; split at q
    · assumption
    · split at q <;> omega
  · intro q; rw [if_pos q]
theorem pIt0_le {tt : Nat → Nat} {n p : Nat} {x : aP} (hp : p ≤ n) (ht : tkT tt n p ≠ 300) (h : (pIt0 tt n p x).1 = true) : (pIt0 tt n p x).2.1 ≤ n := by
  have e1 := tkE_gt hp ht
  revert h
  unfold pIt0
  split
  · unfold pPl
    split
    · simp
    · split
      · intro _; have := tkE_gt e1.2.1 (show tkT tt n (tkE tt n p) ≠ 300 by omega); simp only; omega
      · simp
  · split
    · unfold pFl
      split
      · have e2 := tkE_gt e1.2.1 (show tkT tt n (tkE tt n p) ≠ 300 by omega)
        split
        · have e3 := tkE_gt e2.2.1 (show tkT tt n (tkE tt n (tkE tt n p)) ≠ 300 by omega)
          split
          · intro _; have := tkE_gt e3.2.1 (show tkT tt n (tkE tt n (tkE tt n (tkE tt n p))) ≠ 300 by omega); simp only; omega
          · simp
        · simp
      · simp
    · split
      · unfold pCd
        split
        · simp
        · have q := cdf_le (tt := tt) (n := n) 4 0 (tkE tt n p) (fun _ => 0) e1.2.1
          split
          · simp
          · intro _; simp only; omega
      · simp
theorem tl_X3_readItem_pPl {E : wE} {S : List wK} {ad : Nat → Nat} {V : wV} {rd x ta db dc dz dk : Nat} (hR : S[rd]? = some (.inl (3, [some (some db), some (some x), none]))) (hX : S[x]? = some (.inl (7, [some (some ta), none, none, none, none]))) (hta : S[ta]? = some (.inr (.inl (false, 120)))) (hB : S[db]? = some (.inl (0, [some (some dc), some (some dz), some (some dk), none, none]))) (hc : S[dc]? = some (.inr (.inl (false, 8)))) (hz : S[dz]? = some (.inr (.inl (false, 8)))) (hk : S[dk]? = some (.inr (.inl (false, 10)))) {n : Nat} {tt : Nat → Nat} (t0 : TX V x ta n tt) {p : Nat} (hp : p ≤ n) (at0 : AT V x n tt p) {y : aP} (dr : DR V rd db dc dz dk y) (hcz : dc ≠ dz) (ht3 : tkT tt n p ≠ 300) (hT : tkT tt n p = 112) (e0 : pIt0 tt n p y = pPl tt n p y) {V1 : wV} (t1 : TX V1 x ta n tt) (a1 : AT V1 x n tt (pPl tt n p y).2.1) (d1 : (pPl tt n p y).1 = true → DR V1 rd db dc dz dk (pPl tt n p y).2.2) (fr1 : ∀ j, j ≠ x → j ≠ rd → j ≠ db → j ≠ dc → j ≠ dz → j ≠ dk → V1 j = V j) : Wp E mX3_readItem (w_R 4 0 0) (w_i S ad (fun r V' => r = bI (pIt tt n p y).1 ∧ TX V' x ta n tt ∧ AT V' x n tt (pIt tt n p y).2.1 ∧ ((pIt tt n p y).1 = true → DR V' rd db dc dz dk (pIt tt n p y).2.2) ∧ ∀ j, j ≠ x → j ≠ rd → j ≠ db → j ≠ dc → j ≠ dz → j ≠ dk → V' j = V j)) 0 0 0 0 66 [(1, .int (bI (pPl tt n p y).1)), (0, .ref (ad rd))] [] S ad V1 := by
  have hxa : ta ≠ x := w_ne hta hX (by simp)
  have n1 : rd ≠ x := w_ne hR hX (by simp)
  have n2 : db ≠ x := w_ne hB hX (by simp)
  have n3 : dc ≠ x := w_ne hc hX (by simp)
  have n4 : dz ≠ x := w_ne hz hX (by simp)
  have n5 : dk ≠ x := w_ne hk hX (by simp)
  have m1 : rd ≠ db := w_ne hR hB (by simp)
  have m2 : dc ≠ rd := w_ne hc hR (by simp)
  have m3 : dz ≠ rd := w_ne hz hR (by simp)
  have m4 : dk ≠ rd := w_ne hk hR (by simp)
  have m5 : dc ≠ db := w_ne hc hB (by simp)
  have m6 : dz ≠ db := w_ne hz hB (by simp)
  have m7 : dk ≠ db := w_ne hk hB (by simp)
  have m8 : dk ≠ dc := w_ne hk hc (by simp)
  have m9 : dk ≠ dz := w_ne hk hz (by simp)
  have w1 : ta ≠ rd := w_ne hta hR (by simp)
  have w2 : ta ≠ db := w_ne hta hB (by simp)
  have w3 : ta ≠ dc := w_ne hta hc (by simp)
  have w4 : ta ≠ dz := w_ne hta hz (by simp)
  have w5 : ta ≠ dk := w_ne hta hk (by simp)
  refine Wp_iload_n dX3_readItem_66 rfl 0 rfl ?_
  refine Wp_ifeq_b (tgt := 87) dX3_readItem_67 (by decide) (fun c_67 => ?_) (fun c_67 => ?_)
  · refine Wp_iconst (v := (nI (0))) dX3_readItem_87 (by decide) ?_
    exact Wp_zret (b := false) rfl rfl ⟨rfl, rfl, _, rfl, by
        first
          | (have e : pIt tt n p y = pPl tt n p y := by
               unfold pIt; rw [e0, if_neg (by rw [c_67]; decide)]
             rw [e, c_67]
             exact ⟨rfl, t1, a1, fun w => (by cases w), fr1⟩)
          | (have e : pIt tt n p y = (false, (pPl tt n p y).2.1, (pPl tt n p y).2.2) := by
               unfold pIt; rw [e0, if_pos c_67]; unfold pEnd; rw [if_neg (by omega)]
             rw [e]
             exact ⟨rfl, t1, a1, fun w => (by cases w), fr1⟩)⟩ (Nat.le_refl _) (Nat.le_refl _) dX3_readItem_88
  · have hp1 := pIt0_le hp ht3 (show (pIt0 tt n p y).1 = true by rw [e0]; exact c_67)
    rw [e0] at hp1
    refine Wp_aload_n dX3_readItem_70 rfl 1 rfl ?_
    refine Wp_bipush (v := (nI (59))) dX3_readItem_71 (by decide) ?_
    refine Wp_iconst (v := (nI (0))) dX3_readItem_73 (by decide) ?_
    refine Wp_iconst (v := (nI (0))) dX3_readItem_74 (by decide) ?_
    refine Wp_callVi (c_X3_take hR hX hta t1 hp1 a1 (z := 59) (lo := 0) (hi := 0) (by omega) (by omega)) YV_X3_take ml_X3_54 hR rfl dX3_readItem_75 (by omega) (by decide) (by omega) (by omega) rfl rfl (Nat.le_of_ble_eq_true rfl) (fun r2 V2 hr2 => ?_)
    rcases hr2 with ⟨k1, k2, rfl, t2, a2, fr2⟩ | ⟨k1, rfl, e2⟩
    · refine Wp_bipush (v := ((-9))) dX3_readItem_78 (by decide) ?_
      refine Wp_icmp_eq (tgt := 87) dX3_readItem_80 (by decide) (nI_toInt (by omega)) ((by decide : ((-9) : Int32).toInt = (-9))) (fun c_80 => absurd c_80 (by omega)) (fun c_80 => ?_)
      refine Wp_iconst (v := (nI (1))) dX3_readItem_83 (by decide) ?_
      refine Wp_goto (tgt := 88) dX3_readItem_84 (by decide) ?_
      exact Wp_zret (b := true) rfl rfl ⟨rfl, rfl, _, rfl, by
        have e : pIt tt n p y = (true, tkE tt n (pPl tt n p y).2.1, (pPl tt n p y).2.2) := by
          unfold pIt; rw [e0, if_pos c_67]; unfold pEnd; rw [if_pos (by omega)]
        rw [e]
        exact ⟨rfl, t2, a2, fun _ => (d1 c_67).step n1 n2 n3 n4 n5 fr2, fun j q1 q2 q3 q4 q5 q6 => by rw [fr2 j q1]; exact fr1 j q1 q2 q3 q4 q5 q6⟩⟩ (Nat.le_refl _) (Nat.le_refl _) dX3_readItem_88
    · rw [e2]
      refine Wp_bipush (v := ((-9))) dX3_readItem_78 (by decide) ?_
      refine Wp_icmp_eq (tgt := 87) dX3_readItem_80 (by decide) ((by decide : ((-9) : Int32).toInt = (-9))) ((by decide : ((-9) : Int32).toInt = (-9))) (fun c_80 => ?_) (fun c_80 => absurd c_80 (by omega))
      refine Wp_iconst (v := (nI (0))) dX3_readItem_87 (by decide) ?_
      exact Wp_zret (b := false) rfl rfl ⟨rfl, rfl, _, rfl, by
        first
          | (have e : pIt tt n p y = pPl tt n p y := by
               unfold pIt; rw [e0, if_neg (by rw [c_67]; decide)]
             rw [e, c_67]
             exact ⟨rfl, t1, a1, fun w => (by cases w), fr1⟩)
          | (have e : pIt tt n p y = (false, (pPl tt n p y).2.1, (pPl tt n p y).2.2) := by
               unfold pIt; rw [e0, if_pos c_67]; unfold pEnd; rw [if_neg (by omega)]
             rw [e]
             exact ⟨rfl, t1, a1, fun w => (by cases w), fr1⟩)⟩ (Nat.le_refl _) (Nat.le_refl _) dX3_readItem_88
theorem tl_X3_readItem_pFl {E : wE} {S : List wK} {ad : Nat → Nat} {V : wV} {rd x ta db dc dz dk : Nat} (hR : S[rd]? = some (.inl (3, [some (some db), some (some x), none]))) (hX : S[x]? = some (.inl (7, [some (some ta), none, none, none, none]))) (hta : S[ta]? = some (.inr (.inl (false, 120)))) (hB : S[db]? = some (.inl (0, [some (some dc), some (some dz), some (some dk), none, none]))) (hc : S[dc]? = some (.inr (.inl (false, 8)))) (hz : S[dz]? = some (.inr (.inl (false, 8)))) (hk : S[dk]? = some (.inr (.inl (false, 10)))) {n : Nat} {tt : Nat → Nat} (t0 : TX V x ta n tt) {p : Nat} (hp : p ≤ n) (at0 : AT V x n tt p) {y : aP} (dr : DR V rd db dc dz dk y) (hcz : dc ≠ dz) (ht3 : tkT tt n p ≠ 300) (hT : tkT tt n p = 102) (e0 : pIt0 tt n p y = pFl tt n p y) {V1 : wV} (t1 : TX V1 x ta n tt) (a1 : AT V1 x n tt (pFl tt n p y).2.1) (d1 : (pFl tt n p y).1 = true → DR V1 rd db dc dz dk (pFl tt n p y).2.2) (fr1 : ∀ j, j ≠ x → j ≠ rd → j ≠ db → j ≠ dc → j ≠ dz → j ≠ dk → V1 j = V j) : Wp E mX3_readItem (w_R 4 0 0) (w_i S ad (fun r V' => r = bI (pIt tt n p y).1 ∧ TX V' x ta n tt ∧ AT V' x n tt (pIt tt n p y).2.1 ∧ ((pIt tt n p y).1 = true → DR V' rd db dc dz dk (pIt tt n p y).2.2) ∧ ∀ j, j ≠ x → j ≠ rd → j ≠ db → j ≠ dc → j ≠ dz → j ≠ dk → V' j = V j)) 0 0 0 0 66 [(1, .int (bI (pFl tt n p y).1)), (0, .ref (ad rd))] [] S ad V1 := by
  have hxa : ta ≠ x := w_ne hta hX (by simp)
  have n1 : rd ≠ x := w_ne hR hX (by simp)
  have n2 : db ≠ x := w_ne hB hX (by simp)
  have n3 : dc ≠ x := w_ne hc hX (by simp)
  have n4 : dz ≠ x := w_ne hz hX (by simp)
  have n5 : dk ≠ x := w_ne hk hX (by simp)
  have m1 : rd ≠ db := w_ne hR hB (by simp)
  have m2 : dc ≠ rd := w_ne hc hR (by simp)
  have m3 : dz ≠ rd := w_ne hz hR (by simp)
  have m4 : dk ≠ rd := w_ne hk hR (by simp)
  have m5 : dc ≠ db := w_ne hc hB (by simp)
  have m6 : dz ≠ db := w_ne hz hB (by simp)
  have m7 : dk ≠ db := w_ne hk hB (by simp)
  have m8 : dk ≠ dc := w_ne hk hc (by simp)
  have m9 : dk ≠ dz := w_ne hk hz (by simp)
  have w1 : ta ≠ rd := w_ne hta hR (by simp)
  have w2 : ta ≠ db := w_ne hta hB (by simp)
  have w3 : ta ≠ dc := w_ne hta hc (by simp)
  have w4 : ta ≠ dz := w_ne hta hz (by simp)
  have w5 : ta ≠ dk := w_ne hta hk (by simp)
  refine Wp_iload_n dX3_readItem_66 rfl 0 rfl ?_
  refine Wp_ifeq_b (tgt := 87) dX3_readItem_67 (by decide) (fun c_67 => ?_) (fun c_67 => ?_)
  · refine Wp_iconst (v := (nI (0))) dX3_readItem_87 (by decide) ?_
    exact Wp_zret (b := false) rfl rfl ⟨rfl, rfl, _, rfl, by
        first
          | (have e : pIt tt n p y = pFl tt n p y := by
               unfold pIt; rw [e0, if_neg (by rw [c_67]; decide)]
             rw [e, c_67]
             exact ⟨rfl, t1, a1, fun w => (by cases w), fr1⟩)
          | (have e : pIt tt n p y = (false, (pFl tt n p y).2.1, (pFl tt n p y).2.2) := by
               unfold pIt; rw [e0, if_pos c_67]; unfold pEnd; rw [if_neg (by omega)]
             rw [e]
             exact ⟨rfl, t1, a1, fun w => (by cases w), fr1⟩)⟩ (Nat.le_refl _) (Nat.le_refl _) dX3_readItem_88
  · have hp1 := pIt0_le hp ht3 (show (pIt0 tt n p y).1 = true by rw [e0]; exact c_67)
    rw [e0] at hp1
    refine Wp_aload_n dX3_readItem_70 rfl 1 rfl ?_
    refine Wp_bipush (v := (nI (59))) dX3_readItem_71 (by decide) ?_
    refine Wp_iconst (v := (nI (0))) dX3_readItem_73 (by decide) ?_
    refine Wp_iconst (v := (nI (0))) dX3_readItem_74 (by decide) ?_
    refine Wp_callVi (c_X3_take hR hX hta t1 hp1 a1 (z := 59) (lo := 0) (hi := 0) (by omega) (by omega)) YV_X3_take ml_X3_54 hR rfl dX3_readItem_75 (by omega) (by decide) (by omega) (by omega) rfl rfl (Nat.le_of_ble_eq_true rfl) (fun r2 V2 hr2 => ?_)
    rcases hr2 with ⟨k1, k2, rfl, t2, a2, fr2⟩ | ⟨k1, rfl, e2⟩
    · refine Wp_bipush (v := ((-9))) dX3_readItem_78 (by decide) ?_
      refine Wp_icmp_eq (tgt := 87) dX3_readItem_80 (by decide) (nI_toInt (by omega)) ((by decide : ((-9) : Int32).toInt = (-9))) (fun c_80 => absurd c_80 (by omega)) (fun c_80 => ?_)
      refine Wp_iconst (v := (nI (1))) dX3_readItem_83 (by decide) ?_
      refine Wp_goto (tgt := 88) dX3_readItem_84 (by decide) ?_
      exact Wp_zret (b := true) rfl rfl ⟨rfl, rfl, _, rfl, by
        have e : pIt tt n p y = (true, tkE tt n (pFl tt n p y).2.1, (pFl tt n p y).2.2) := by
          unfold pIt; rw [e0, if_pos c_67]; unfold pEnd; rw [if_pos (by omega)]
        rw [e]
        exact ⟨rfl, t2, a2, fun _ => (d1 c_67).step n1 n2 n3 n4 n5 fr2, fun j q1 q2 q3 q4 q5 q6 => by rw [fr2 j q1]; exact fr1 j q1 q2 q3 q4 q5 q6⟩⟩ (Nat.le_refl _) (Nat.le_refl _) dX3_readItem_88
    · rw [e2]
      refine Wp_bipush (v := ((-9))) dX3_readItem_78 (by decide) ?_
      refine Wp_icmp_eq (tgt := 87) dX3_readItem_80 (by decide) ((by decide : ((-9) : Int32).toInt = (-9))) ((by decide : ((-9) : Int32).toInt = (-9))) (fun c_80 => ?_) (fun c_80 => absurd c_80 (by omega))
      refine Wp_iconst (v := (nI (0))) dX3_readItem_87 (by decide) ?_
      exact Wp_zret (b := false) rfl rfl ⟨rfl, rfl, _, rfl, by
        first
          | (have e : pIt tt n p y = pFl tt n p y := by
               unfold pIt; rw [e0, if_neg (by rw [c_67]; decide)]
             rw [e, c_67]
             exact ⟨rfl, t1, a1, fun w => (by cases w), fr1⟩)
          | (have e : pIt tt n p y = (false, (pFl tt n p y).2.1, (pFl tt n p y).2.2) := by
               unfold pIt; rw [e0, if_pos c_67]; unfold pEnd; rw [if_neg (by omega)]
             rw [e]
             exact ⟨rfl, t1, a1, fun w => (by cases w), fr1⟩)⟩ (Nat.le_refl _) (Nat.le_refl _) dX3_readItem_88
theorem tl_X3_readItem_pCd {E : wE} {S : List wK} {ad : Nat → Nat} {V : wV} {rd x ta db dc dz dk : Nat} (hR : S[rd]? = some (.inl (3, [some (some db), some (some x), none]))) (hX : S[x]? = some (.inl (7, [some (some ta), none, none, none, none]))) (hta : S[ta]? = some (.inr (.inl (false, 120)))) (hB : S[db]? = some (.inl (0, [some (some dc), some (some dz), some (some dk), none, none]))) (hc : S[dc]? = some (.inr (.inl (false, 8)))) (hz : S[dz]? = some (.inr (.inl (false, 8)))) (hk : S[dk]? = some (.inr (.inl (false, 10)))) {n : Nat} {tt : Nat → Nat} (t0 : TX V x ta n tt) {p : Nat} (hp : p ≤ n) (at0 : AT V x n tt p) {y : aP} (dr : DR V rd db dc dz dk y) (hcz : dc ≠ dz) (ht3 : tkT tt n p ≠ 300) (hT : tkT tt n p = 107) (e0 : pIt0 tt n p y = pCd tt n p y) {V1 : wV} (t1 : TX V1 x ta n tt) (a1 : AT V1 x n tt (pCd tt n p y).2.1) (d1 : (pCd tt n p y).1 = true → DR V1 rd db dc dz dk (pCd tt n p y).2.2) (fr1 : ∀ j, j ≠ x → j ≠ rd → j ≠ db → j ≠ dc → j ≠ dz → j ≠ dk → V1 j = V j) : Wp E mX3_readItem (w_R 4 0 0) (w_i S ad (fun r V' => r = bI (pIt tt n p y).1 ∧ TX V' x ta n tt ∧ AT V' x n tt (pIt tt n p y).2.1 ∧ ((pIt tt n p y).1 = true → DR V' rd db dc dz dk (pIt tt n p y).2.2) ∧ ∀ j, j ≠ x → j ≠ rd → j ≠ db → j ≠ dc → j ≠ dz → j ≠ dk → V' j = V j)) 0 0 0 0 66 [(1, .int (bI (pCd tt n p y).1)), (0, .ref (ad rd))] [] S ad V1 := by
  have hxa : ta ≠ x := w_ne hta hX (by simp)
  have n1 : rd ≠ x := w_ne hR hX (by simp)
  have n2 : db ≠ x := w_ne hB hX (by simp)
  have n3 : dc ≠ x := w_ne hc hX (by simp)
  have n4 : dz ≠ x := w_ne hz hX (by simp)
  have n5 : dk ≠ x := w_ne hk hX (by simp)
  have m1 : rd ≠ db := w_ne hR hB (by simp)
  have m2 : dc ≠ rd := w_ne hc hR (by simp)
  have m3 : dz ≠ rd := w_ne hz hR (by simp)
  have m4 : dk ≠ rd := w_ne hk hR (by simp)
  have m5 : dc ≠ db := w_ne hc hB (by simp)
  have m6 : dz ≠ db := w_ne hz hB (by simp)
  have m7 : dk ≠ db := w_ne hk hB (by simp)
  have m8 : dk ≠ dc := w_ne hk hc (by simp)
  have m9 : dk ≠ dz := w_ne hk hz (by simp)
  have w1 : ta ≠ rd := w_ne hta hR (by simp)
  have w2 : ta ≠ db := w_ne hta hB (by simp)
  have w3 : ta ≠ dc := w_ne hta hc (by simp)
  have w4 : ta ≠ dz := w_ne hta hz (by simp)
  have w5 : ta ≠ dk := w_ne hta hk (by simp)
  refine Wp_iload_n dX3_readItem_66 rfl 0 rfl ?_
  refine Wp_ifeq_b (tgt := 87) dX3_readItem_67 (by decide) (fun c_67 => ?_) (fun c_67 => ?_)
  · refine Wp_iconst (v := (nI (0))) dX3_readItem_87 (by decide) ?_
    exact Wp_zret (b := false) rfl rfl ⟨rfl, rfl, _, rfl, by
        first
          | (have e : pIt tt n p y = pCd tt n p y := by
               unfold pIt; rw [e0, if_neg (by rw [c_67]; decide)]
             rw [e, c_67]
             exact ⟨rfl, t1, a1, fun w => (by cases w), fr1⟩)
          | (have e : pIt tt n p y = (false, (pCd tt n p y).2.1, (pCd tt n p y).2.2) := by
               unfold pIt; rw [e0, if_pos c_67]; unfold pEnd; rw [if_neg (by omega)]
             rw [e]
             exact ⟨rfl, t1, a1, fun w => (by cases w), fr1⟩)⟩ (Nat.le_refl _) (Nat.le_refl _) dX3_readItem_88
  · have hp1 := pIt0_le hp ht3 (show (pIt0 tt n p y).1 = true by rw [e0]; exact c_67)
    rw [e0] at hp1
    refine Wp_aload_n dX3_readItem_70 rfl 1 rfl ?_
    refine Wp_bipush (v := (nI (59))) dX3_readItem_71 (by decide) ?_
    refine Wp_iconst (v := (nI (0))) dX3_readItem_73 (by decide) ?_
    refine Wp_iconst (v := (nI (0))) dX3_readItem_74 (by decide) ?_
    refine Wp_callVi (c_X3_take hR hX hta t1 hp1 a1 (z := 59) (lo := 0) (hi := 0) (by omega) (by omega)) YV_X3_take ml_X3_54 hR rfl dX3_readItem_75 (by omega) (by decide) (by omega) (by omega) rfl rfl (Nat.le_of_ble_eq_true rfl) (fun r2 V2 hr2 => ?_)
    rcases hr2 with ⟨k1, k2, rfl, t2, a2, fr2⟩ | ⟨k1, rfl, e2⟩
    · refine Wp_bipush (v := ((-9))) dX3_readItem_78 (by decide) ?_
      refine Wp_icmp_eq (tgt := 87) dX3_readItem_80 (by decide) (nI_toInt (by omega)) ((by decide : ((-9) : Int32).toInt = (-9))) (fun c_80 => absurd c_80 (by omega)) (fun c_80 => ?_)
      refine Wp_iconst (v := (nI (1))) dX3_readItem_83 (by decide) ?_
      refine Wp_goto (tgt := 88) dX3_readItem_84 (by decide) ?_
      exact Wp_zret (b := true) rfl rfl ⟨rfl, rfl, _, rfl, by
        have e : pIt tt n p y = (true, tkE tt n (pCd tt n p y).2.1, (pCd tt n p y).2.2) := by
          unfold pIt; rw [e0, if_pos c_67]; unfold pEnd; rw [if_pos (by omega)]
        rw [e]
        exact ⟨rfl, t2, a2, fun _ => (d1 c_67).step n1 n2 n3 n4 n5 fr2, fun j q1 q2 q3 q4 q5 q6 => by rw [fr2 j q1]; exact fr1 j q1 q2 q3 q4 q5 q6⟩⟩ (Nat.le_refl _) (Nat.le_refl _) dX3_readItem_88
    · rw [e2]
      refine Wp_bipush (v := ((-9))) dX3_readItem_78 (by decide) ?_
      refine Wp_icmp_eq (tgt := 87) dX3_readItem_80 (by decide) ((by decide : ((-9) : Int32).toInt = (-9))) ((by decide : ((-9) : Int32).toInt = (-9))) (fun c_80 => ?_) (fun c_80 => absurd c_80 (by omega))
      refine Wp_iconst (v := (nI (0))) dX3_readItem_87 (by decide) ?_
      exact Wp_zret (b := false) rfl rfl ⟨rfl, rfl, _, rfl, by
        first
          | (have e : pIt tt n p y = pCd tt n p y := by
               unfold pIt; rw [e0, if_neg (by rw [c_67]; decide)]
             rw [e, c_67]
             exact ⟨rfl, t1, a1, fun w => (by cases w), fr1⟩)
          | (have e : pIt tt n p y = (false, (pCd tt n p y).2.1, (pCd tt n p y).2.2) := by
               unfold pIt; rw [e0, if_pos c_67]; unfold pEnd; rw [if_neg (by omega)]
             rw [e]
             exact ⟨rfl, t1, a1, fun w => (by cases w), fr1⟩)⟩ (Nat.le_refl _) (Nat.le_refl _) dX3_readItem_88
theorem c_X3_readItem {E : wE} {S : List wK} {ad : Nat → Nat} {V : wV} {rd x ta db dc dz dk : Nat} (hR : S[rd]? = some (.inl (3, [some (some db), some (some x), none]))) (hX : S[x]? = some (.inl (7, [some (some ta), none, none, none, none]))) (hta : S[ta]? = some (.inr (.inl (false, 120)))) (hB : S[db]? = some (.inl (0, [some (some dc), some (some dz), some (some dk), none, none]))) (hc : S[dc]? = some (.inr (.inl (false, 8)))) (hz : S[dz]? = some (.inr (.inl (false, 8)))) (hk : S[dk]? = some (.inr (.inl (false, 10)))) {n : Nat} {tt : Nat → Nat} (t0 : TX V x ta n tt) {p : Nat} (hp : p ≤ n) (at0 : AT V x n tt p) {y : aP} (dr : DR V rd db dc dz dk y) (hcz : dc ≠ dz) (ht3 : tkT tt n p ≠ 300)  : w_C E mX3_readItem (w_R 4 0 0) 0 0 [.ref (ad (rd))] S ad V (w_i S ad (fun r V' => r = bI (pIt tt n p y).1 ∧ TX V' x ta n tt ∧ AT V' x n tt (pIt tt n p y).2.1 ∧ ((pIt tt n p y).1 = true → DR V' rd db dc dz dk (pIt tt n p y).2.2) ∧ ∀ j, j ≠ x → j ≠ rd → j ≠ db → j ≠ dc → j ≠ dz → j ≠ dk → V' j = V j)) := by
  refine w_C.of (by decide) (Nat.le_of_ble_eq_true rfl) ?_
  show Wp _ _ _ _ _ _ _ _ _ [(0, .ref (ad (rd)))] [] S ad V
  have hxa : ta ≠ x := w_ne hta hX (by simp)
  have n1 : rd ≠ x := w_ne hR hX (by simp)
  have n2 : db ≠ x := w_ne hB hX (by simp)
  have n3 : dc ≠ x := w_ne hc hX (by simp)
  have n4 : dz ≠ x := w_ne hz hX (by simp)
  have n5 : dk ≠ x := w_ne hk hX (by simp)
  have m1 : rd ≠ db := w_ne hR hB (by simp)
  have m2 : dc ≠ rd := w_ne hc hR (by simp)
  have m3 : dz ≠ rd := w_ne hz hR (by simp)
  have m4 : dk ≠ rd := w_ne hk hR (by simp)
  have m5 : dc ≠ db := w_ne hc hB (by simp)
  have m6 : dz ≠ db := w_ne hz hB (by simp)
  have m7 : dk ≠ db := w_ne hk hB (by simp)
  have m8 : dk ≠ dc := w_ne hk hc (by simp)
  have m9 : dk ≠ dz := w_ne hk hz (by simp)
  have w1 : ta ≠ rd := w_ne hta hR (by simp)
  have w2 : ta ≠ db := w_ne hta hB (by simp)
  have w3 : ta ≠ dc := w_ne hta hc (by simp)
  have w4 : ta ≠ dz := w_ne hta hz (by simp)
  have w5 : ta ≠ dk := w_ne hta hk (by simp)
  have hTl := tkT_le (p := p) (fun k hk => (t0.2.2 k hk).2)
  refine Wp_aload_n dX3_readItem_0 rfl 0 rfl ?_
  refine Wp_getr fk_X3_9 hR rfl dX3_readItem_1 ?_
  refine Wp_get (x := (ctk (tkT tt n p))) fk_X3_34 hX rfl at0.1 dX3_readItem_4 ?_
  by_cases c_7_0 : ((ctk (tkT tt n p))).toInt = 102
  · refine Wp_lookup (tgt := 48) (off := 41) dX3_readItem_7 (by decide) (a := 102) ((rfl).trans c_7_0) (by decide) (by decide) ?_
    have hT := (ctk_eq hTl.1 (k := 102) (by omega)).mp c_7_0
    refine Wp_aload_n dX3_readItem_48 rfl 0 rfl ?_
    refine Wp_callVi (c_X3_readFlag hR hX hta hB hc hz hk t0 hp at0 dr hcz ht3) YV_X3_readFlag ml_X3_48 hR rfl dX3_readItem_49 (by omega) (by decide) (by omega) (by omega) rfl rfl (Nat.le_of_ble_eq_true rfl) (fun r1 V1 hr1 => ?_)
    obtain ⟨e1, t1, a1, d1, fr1⟩ := hr1
    subst e1
    refine Wp_istore_n (lv' := [(1, .int (bI ((pFl tt n p y).1))), (0, .ref (ad (rd)))]) dX3_readItem_52 rfl (by decide) rfl ?_
    refine Wp_goto (tgt := 66) dX3_readItem_53 (by decide) ?_
    exact tl_X3_readItem_pFl hR hX hta hB hc hz hk t0 hp at0 dr hcz ht3 hT (by unfold pIt0; rw [if_neg (by omega), if_pos hT]) t1 a1 d1 fr1
  by_cases c_7_1 : ((ctk (tkT tt n p))).toInt = 107
  · refine Wp_lookup (tgt := 56) (off := 49) dX3_readItem_7 (by decide) (a := 107) ((rfl).trans c_7_1) (by decide) (by decide) ?_
    have hT := (ctk_eq hTl.1 (k := 107) (by omega)).mp c_7_1
    refine Wp_aload_n dX3_readItem_56 rfl 0 rfl ?_
    refine Wp_callVi (c_X3_readCode hR hX hta hB hc hz hk t0 hp at0 dr hcz ht3) YV_X3_readCode ml_X3_51 hR rfl dX3_readItem_57 (by omega) (by decide) (by omega) (by omega) rfl rfl (Nat.le_of_ble_eq_true rfl) (fun r1 V1 hr1 => ?_)
    obtain ⟨e1, t1, a1, d1, fr1⟩ := hr1
    subst e1
    refine Wp_istore_n (lv' := [(1, .int (bI ((pCd tt n p y).1))), (0, .ref (ad (rd)))]) dX3_readItem_60 rfl (by decide) rfl ?_
    refine Wp_goto (tgt := 66) dX3_readItem_61 (by decide) ?_
    exact tl_X3_readItem_pCd hR hX hta hB hc hz hk t0 hp at0 dr hcz ht3 hT (by unfold pIt0; rw [if_neg (by omega), if_neg (by omega), if_pos hT]) t1 a1 d1 fr1
  by_cases c_7_2 : ((ctk (tkT tt n p))).toInt = 112
  · refine Wp_lookup (tgt := 40) (off := 33) dX3_readItem_7 (by decide) (a := 112) ((rfl).trans c_7_2) (by decide) (by decide) ?_
    have hT := (ctk_eq hTl.1 (k := 112) (by omega)).mp c_7_2
    refine Wp_aload_n dX3_readItem_40 rfl 0 rfl ?_
    refine Wp_callVi (c_X3_readPlaces hR hX hta hB hc hz hk t0 hp at0 dr hcz ht3) YV_X3_readPlaces ml_X3_45 hR rfl dX3_readItem_41 (by omega) (by decide) (by omega) (by omega) rfl rfl (Nat.le_of_ble_eq_true rfl) (fun r1 V1 hr1 => ?_)
    obtain ⟨e1, t1, a1, d1, fr1⟩ := hr1
    subst e1
    refine Wp_istore_n (lv' := [(1, .int (bI ((pPl tt n p y).1))), (0, .ref (ad (rd)))]) dX3_readItem_44 rfl (by decide) rfl ?_
    refine Wp_goto (tgt := 66) dX3_readItem_45 (by decide) ?_
    exact tl_X3_readItem_pPl hR hX hta hB hc hz hk t0 hp at0 dr hcz ht3 hT (by unfold pIt0; rw [if_pos hT]) t1 a1 d1 fr1
  refine Wp_lookup (tgt := 64) (off := 57) dX3_readItem_7 (by decide) (rfl) (by simp [Op.lookupswitch.offset_cons, Op.lookupswitch.offset, Ne.symm c_7_0, Ne.symm c_7_1, Ne.symm c_7_2]) (by decide) ?_
  have z1 : tkT tt n p ≠ 102 := fun q => c_7_0 ((ctk_eq hTl.1 (k := 102) (by omega)).mpr q)
  have z2 : tkT tt n p ≠ 107 := fun q => c_7_1 ((ctk_eq hTl.1 (k := 107) (by omega)).mpr q)
  have z3 : tkT tt n p ≠ 112 := fun q => c_7_2 ((ctk_eq hTl.1 (k := 112) (by omega)).mpr q)
  refine Wp_iconst (v := (nI (0))) dX3_readItem_64 (by decide) ?_
  refine Wp_istore_n (lv' := [(1, .int (nI (0))), (0, .ref (ad (rd)))]) dX3_readItem_65 rfl (by decide) rfl ?_
  refine Wp_iload_n dX3_readItem_66 rfl 0 rfl ?_
  refine Wp_if_eq (tgt := 87) dX3_readItem_67 (by decide) (nI_toInt (by omega)) (fun c_67 => ?_) (fun c_67 => absurd c_67 (by omega))
  refine Wp_iconst (v := (nI (0))) dX3_readItem_87 (by decide) ?_
  exact Wp_zret (b := false) rfl rfl ⟨rfl, rfl, _, rfl, by
    have e : pIt tt n p y = (false, p, y) := by
      have e0 : pIt0 tt n p y = (false, p, y) := by unfold pIt0; rw [if_neg (by omega), if_neg (by omega), if_neg (by omega)]
      unfold pIt; rw [e0]; rfl
    rw [e]; exact ⟨rfl, t0, at0, fun w => (by cases w), fun _ _ _ _ _ _ _ => rfl⟩⟩ (Nat.le_refl _) (Nat.le_refl _) dX3_readItem_88
theorem lp_X3_readAll {E : wE} {S : List wK} {ad : Nat → Nat} {V : wV} {rd x ta db dc dz dk : Nat} (hR : S[rd]? = some (.inl (3, [some (some db), some (some x), none]))) (hX : S[x]? = some (.inl (7, [some (some ta), none, none, none, none]))) (hta : S[ta]? = some (.inr (.inl (false, 120)))) (hB : S[db]? = some (.inl (0, [some (some dc), some (some dz), some (some dk), none, none]))) (hc : S[dc]? = some (.inr (.inl (false, 8)))) (hz : S[dz]? = some (.inr (.inl (false, 8)))) (hk : S[dk]? = some (.inr (.inl (false, 10)))) {n : Nat} {tt : Nat → Nat} (t0 : TX V x ta n tt) (hcz : dc ≠ dz)  : ∀ (m : Nat) (i : Nat) (p : Nat) (y : aP) (V1 : wV), i ≤ p → p ≤ n → n < p + m → (pAll tt n (n + 1) 0 0 x0P) = pAll tt n m i p y → TX V1 x ta n tt → AT V1 x n tt p → DR V1 rd db dc dz dk y → (∀ j, j ≠ x → j ≠ rd → j ≠ db → j ≠ dc → j ≠ dz → j ≠ dk → V1 j = V j) → Wp E mX3_readAll (w_R 5 0 0) (w_i S ad (fun r V' => r = (if (pAll tt n (n + 1) 0 0 x0P).1 = true then nI (pAll tt n (n + 1) 0 0 x0P).2.1 else (-10) - nI (skp tt n (pAll tt n (n + 1) 0 0 x0P).2.2.1)) ∧ TX V' x ta n tt ∧ ((pAll tt n (n + 1) 0 0 x0P).1 = true → DR V' rd db dc dz dk (pAll tt n (n + 1) 0 0 x0P).2.2.2) ∧ ∀ j, j ≠ x → j ≠ rd → j ≠ db → j ≠ dc → j ≠ dz → j ≠ dk → V' j = V j)) 0 0 0 0 21 [(1, .int (nI (i))), (0, .ref (ad (rd)))] [] S ad V1 := by
  have h120 := t0.2.1
  intro m
  induction m with
  | zero => intro i p y V1 hip hpn hm hE t1 a1 d1 fr; omega
  | succ m ih =>
    intro i p y V1 hip hpn hm hE t1 a1 d1 fr
    refine Wp_iload_n dX3_readAll_21 rfl 0 rfl ?_
    refine Wp_bipush (v := (nI (120))) dX3_readAll_22 (by decide) ?_
    refine Wp_icmp_ge (tgt := 62) dX3_readAll_24 (by decide) (nI_toInt (by omega)) (nI_toInt (by omega)) (fun c_24 => ?_) (fun c_24 => ?_)
    · have hT : tkT tt n p = 300 := by
        have := skp_ge (tt := tt) hpn
        unfold tkT; rw [if_pos (by omega)]
      refine Wp_iload_n dX3_readAll_62 rfl 0 rfl ?_
      exact Wp_iret rfl ⟨rfl, rfl, _, rfl, by
      have e : (pAll tt n (n + 1) 0 0 x0P) = (true, i, p, y) := by rw [hE]; simp only [pAll]; rw [if_pos hT]
      rw [e]; exact ⟨rfl, t1, fun _ => d1, fr⟩⟩ (Nat.le_refl _) (Nat.le_refl _) dX3_readAll_63
    · have hTl := tkT_le (p := p) (fun k hk => (t1.2.2 k hk).2)
      refine Wp_aload_n dX3_readAll_27 rfl 1 rfl ?_
      refine Wp_getr fk_X3_9 hR rfl dX3_readAll_28 ?_
      refine Wp_get (x := (ctk (tkT tt n p))) fk_X3_34 hX rfl a1.1 dX3_readAll_31 ?_
      refine Wp_iconst (v := ((-1))) dX3_readAll_34 (by decide) ?_
      refine Wp_icmp_eq (tgt := 62) dX3_readAll_35 (by decide) (rfl) ((by decide : ((-1) : Int32).toInt = (-1))) (fun c_35 => ?_) (fun c_35 => ?_)
      · have hT : tkT tt n p = 300 := (ctk_300 hTl.1).mp c_35
        refine Wp_iload_n dX3_readAll_62 rfl 0 rfl ?_
        exact Wp_iret rfl ⟨rfl, rfl, _, rfl, by
      have e : (pAll tt n (n + 1) 0 0 x0P) = (true, i, p, y) := by rw [hE]; simp only [pAll]; rw [if_pos hT]
      rw [e]; exact ⟨rfl, t1, fun _ => d1, fr⟩⟩ (Nat.le_refl _) (Nat.le_refl _) dX3_readAll_63
      · have ht3 : tkT tt n p ≠ 300 := fun q => c_35 ((ctk_300 hTl.1).mpr q)
        refine Wp_aload_n dX3_readAll_38 rfl 1 rfl ?_
        refine Wp_callVi (c_X3_readItem hR hX hta hB hc hz hk t1 hpn a1 d1 hcz ht3) YV_X3_readItem ml_X3_38 hR rfl dX3_readAll_39 (by omega) (by decide) (by omega) (by omega) rfl rfl (Nat.le_of_ble_eq_true rfl) (fun r2 V2 hr2 => ?_)
        obtain ⟨e2, t2, a2, d2, fr2⟩ := hr2
        subst e2
        refine Wp_ifne_b (tgt := 56) dX3_readAll_42 (by decide) (fun c_42 => ?_) (fun c_42 => ?_)
        · have hle := pIt_le hpn ht3 c_42
          have hE2 : (pAll tt n (n + 1) 0 0 x0P) = pAll tt n m (i + 1) (pIt tt n p y).2.1 (pIt tt n p y).2.2 := by rw [hE]; simp only [pAll]; rw [if_neg ht3, if_pos c_42]
          refine Wp_iinc (x := (nI ((i + 1)))) (lv' := [(1, .int (nI ((i + 1)))), (0, .ref (ad (rd)))]) dX3_readAll_56 0 rfl (w_inc1 _) (by decide) rfl ?_
          refine Wp_goto (tgt := 21) dX3_readAll_59 (by decide) ?_
          exact ih (i + 1) (pIt tt n p y).2.1 (pIt tt n p y).2.2 V2 (by omega) (by omega) (by omega) hE2 t2 a2 (d2 c_42) (fun j q1 q2 q3 q4 q5 q6 => by rw [fr2 j q1 q2 q3 q4 q5 q6, fr j q1 q2 q3 q4 q5 q6])
        · have hE2 : (pAll tt n (n + 1) 0 0 x0P) = (false, i, (pIt tt n p y).2.1, y) := by rw [hE]; simp only [pAll]; rw [if_neg ht3, if_neg (by rw [c_42]; decide)]
          refine Wp_bipush (v := ((-10))) dX3_readAll_45 (by decide) ?_
          refine Wp_aload_n dX3_readAll_47 rfl 1 rfl ?_
          refine Wp_getr fk_X3_9 hR rfl dX3_readAll_48 ?_
          refine Wp_get (x := (nI (skp tt n (pIt tt n p y).2.1))) fk_X3_42 hX rfl a2.2.1 dX3_readAll_51 ?_
          refine Wp_isub (z := ((((-10)) - (nI (skp tt n (pIt tt n p y).2.1))))) dX3_readAll_54 rfl ?_
          exact Wp_iret rfl ⟨rfl, rfl, _, rfl, by
      rw [hE2]; exact ⟨rfl, t2, fun w => (by cases w), fun j q1 q2 q3 q4 q5 q6 => by rw [fr2 j q1 q2 q3 q4 q5 q6, fr j q1 q2 q3 q4 q5 q6]⟩⟩ (Nat.le_refl _) (Nat.le_refl _) dX3_readAll_55
theorem c_X3_readAll {E : wE} {S : List wK} {ad : Nat → Nat} {V : wV} {rd x ta db dc dz dk : Nat} (hR : S[rd]? = some (.inl (3, [some (some db), some (some x), none]))) (hX : S[x]? = some (.inl (7, [some (some ta), none, none, none, none]))) (hta : S[ta]? = some (.inr (.inl (false, 120)))) (hB : S[db]? = some (.inl (0, [some (some dc), some (some dz), some (some dk), none, none]))) (hc : S[dc]? = some (.inr (.inl (false, 8)))) (hz : S[dz]? = some (.inr (.inl (false, 8)))) (hk : S[dk]? = some (.inr (.inl (false, 10)))) {n : Nat} {tt : Nat → Nat} (t0 : TX V x ta n tt) (hcz : dc ≠ dz)  : w_C E mX3_readAll (w_R 5 0 0) 0 0 [.ref (ad (rd))] S ad V (w_i S ad (fun r V' => r = (if (pAll tt n (n + 1) 0 0 x0P).1 = true then nI (pAll tt n (n + 1) 0 0 x0P).2.1 else (-10) - nI (skp tt n (pAll tt n (n + 1) 0 0 x0P).2.2.1)) ∧ TX V' x ta n tt ∧ ((pAll tt n (n + 1) 0 0 x0P).1 = true → DR V' rd db dc dz dk (pAll tt n (n + 1) 0 0 x0P).2.2.2) ∧ ∀ j, j ≠ x → j ≠ rd → j ≠ db → j ≠ dc → j ≠ dz → j ≠ dk → V' j = V j)) := by
  refine w_C.of (by decide) (Nat.le_of_ble_eq_true rfl) ?_
  show Wp _ _ _ _ _ _ _ _ _ [(0, .ref (ad (rd)))] [] S ad V
  have hxa : ta ≠ x := w_ne hta hX (by simp)
  have n1 : rd ≠ x := w_ne hR hX (by simp)
  have n2 : db ≠ x := w_ne hB hX (by simp)
  have n3 : dc ≠ x := w_ne hc hX (by simp)
  have n4 : dz ≠ x := w_ne hz hX (by simp)
  have n5 : dk ≠ x := w_ne hk hX (by simp)
  have m1 : rd ≠ db := w_ne hR hB (by simp)
  have m2 : dc ≠ rd := w_ne hc hR (by simp)
  have m3 : dz ≠ rd := w_ne hz hR (by simp)
  have m4 : dk ≠ rd := w_ne hk hR (by simp)
  have m5 : dc ≠ db := w_ne hc hB (by simp)
  have m6 : dz ≠ db := w_ne hz hB (by simp)
  have m7 : dk ≠ db := w_ne hk hB (by simp)
  have m8 : dk ≠ dc := w_ne hk hc (by simp)
  have m9 : dk ≠ dz := w_ne hk hz (by simp)
  have w1 : ta ≠ rd := w_ne hta hR (by simp)
  have w2 : ta ≠ db := w_ne hta hB (by simp)
  have w3 : ta ≠ dc := w_ne hta hc (by simp)
  have w4 : ta ≠ dz := w_ne hta hz (by simp)
  have w5 : ta ≠ dk := w_ne hta hk (by simp)
  refine Wp_aload_n dX3_readAll_0 rfl 0 rfl ?_
  refine Wp_getr fk_X3_18 hR rfl dX3_readAll_1 ?_
  refine Wp_callVv (c_X0_reset hB hc hz hcz) YV_X0_reset ml_X3_22 hB rfl dX3_readAll_4 (by omega) (by decide) (by omega) (by omega) rfl rfl (Nat.le_of_ble_eq_true rfl) (fun V1 hV1 => ?_)
  obtain ⟨f1, f2, f3, f4⟩ := hV1
  refine Wp_aload_n dX3_readAll_7 rfl 0 rfl ?_
  refine Wp_iconst (v := (nI (0))) dX3_readAll_8 (by decide) ?_
  refine Wp_put fk_X3_25 hR rfl rfl rfl dX3_readAll_9 ?_
  obtain ⟨V9, hV9⟩ : ∃ V9, V9 = (up2 V1 rd 2 (nI (0))) := ⟨_, rfl⟩
  rw [← hV9]
  have t9 : TX V9 x ta n tt := by
    refine t0.of ?_ ?_
    · rw [hV9, up2_i (Ne.symm n1), f4 x (Ne.symm n2) (Ne.symm n3) (Ne.symm n4)]; exact t0.1
    · rw [hV9]; simp only [up2, if_neg w1]; exact f4 ta w2 w3 w4
  have d9 : DR V9 rd db dc dz dk x0P := by
    rw [hV9]
    refine ⟨fun f hf => ?_, ⟨?_, by decide, fun s hs => absurd hs (Nat.not_lt_zero s)⟩, ?_, ?_, by decide⟩
    · rw [up2_i m2, up2_i m3]; exact f1 f hf
    · rw [up2_i (Ne.symm m1)]; exact f2
    · rw [up2_i (Ne.symm m1)]; exact f3
    · rw [up2_s]; rfl
  refine Wp_aload_n dX3_readAll_12 rfl 0 rfl ?_
  refine Wp_getr fk_X3_9 hR rfl dX3_readAll_13 ?_
  refine Wp_callVv (c_X7_rewind hX hta t9) YV_X7_rewind ml_X3_29 hX rfl dX3_readAll_16 (by omega) (by decide) (by omega) (by omega) rfl rfl (Nat.le_of_ble_eq_true rfl) (fun V2 hV2 => ?_)
  obtain ⟨a2, x2, fr2⟩ := hV2
  refine Wp_iconst (v := (nI (0))) dX3_readAll_19 (by decide) ?_
  refine Wp_istore_n (lv' := [(1, .int (nI (0))), (0, .ref (ad (rd)))]) dX3_readAll_20 rfl (by decide) rfl ?_
  exact lp_X3_readAll hR hX hta hB hc hz hk t0 hcz (n + 1) 0 0 x0P V2 (by omega) (by omega) (by omega) rfl (t9.of x2 (fr2 ta hxa)) a2 (d9.step n1 n2 n3 n4 n5 fr2) (fun j q1 q2 q3 q4 q5 q6 => by rw [fr2 j q1, hV9]; simp only [up2, if_neg q2]; exact f4 j q3 q4 q5)
