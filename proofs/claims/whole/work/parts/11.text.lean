/-! THE BOOK: reset, copy -/
theorem lp_X0_reset {E : wE} {S : List wK} {ad : Nat → Nat} {V : wV} {h c z k : Nat} (hB : S[h]? = some (.inl (0, [some (some c), some (some z), some (some k), none, none]))) (hc : S[c]? = some (.inr (.inl (false, 8)))) (hz : S[z]? = some (.inr (.inl (false, 8)))) (hcz : c ≠ z) : ∀ (m : Nat) (f : Nat) (V1 : wV), f ≤ 8 → 8 < f + m → (∀ j, j ≠ c → j ≠ z → V1 j = V j) → (∀ k, k < f → V1 c k = nI k ∧ V1 z k = nI 5) → Wp E mX0_reset (w_R 0 0 0) (w_v S ad (fun V' => FG V' c z (fun f => f) (fun _ => 5) ∧ V' h 3 = nI 0 ∧ V' h 4 = nI 5 ∧ ∀ j, j ≠ h → j ≠ c → j ≠ z → V' j = V j)) 0 0 0 0 2 [(1, .int (nI (f))), (0, .ref (ad (h)))] [] S ad V1 := by
  have hch : c ≠ h := w_ne hc hB (by simp)
  have hzh : z ≠ h := w_ne hz hB (by simp)
  intro m
  induction m with
  | zero => intro f V1 hf hm fr lo; omega
  | succ m ih =>
    intro f V1 hf hm fr lo
    refine Wp_iload_n dX0_reset_2 rfl 0 rfl ?_
    refine Wp_bipush (v := (nI (8))) dX0_reset_3 (by decide) ?_
    refine Wp_icmp_ge (tgt := 28) dX0_reset_5 (by decide) (nI_toInt (by omega)) (nI_toInt (by omega)) (fun c_5 => ?_) (fun c_5 => ?_)
    · refine Wp_aload_n dX0_reset_28 rfl 1 rfl ?_
      refine Wp_iconst (v := (nI (0))) dX0_reset_29 (by decide) ?_
      refine Wp_put fk_X0_24 hB rfl rfl rfl dX0_reset_30 ?_
      refine Wp_aload_n dX0_reset_33 rfl 1 rfl ?_
      refine Wp_iconst (v := (nI (5))) dX0_reset_34 (by decide) ?_
      refine Wp_put fk_X0_28 hB rfl rfl rfl dX0_reset_35 ?_
      exact Wp_vret rfl ⟨rfl, rfl, rfl, by
      refine ⟨fun k hk => ?_, by simp [up2, upd], by simp [up2, upd], fun j h1 h2 h3 => by rw [← fr j h2 h3]; simp [up2, h1]⟩
      rw [up2_i hch, up2_i hch, up2_i hzh, up2_i hzh]
      exact ⟨(lo k (by omega)).1, (lo k (by omega)).2, hk, Nat.le_of_ble_eq_true rfl⟩⟩ (Nat.le_refl _) (Nat.le_refl _) dX0_reset_38
    · refine Wp_aload_n dX0_reset_8 rfl 1 rfl ?_
      refine Wp_getr fk_X0_9 hB rfl dX0_reset_9 ?_
      refine Wp_iload_n dX0_reset_12 rfl 0 rfl ?_
      refine Wp_iload_n dX0_reset_13 rfl 0 rfl ?_
      refine Wp_ist (n := f) hc rfl (by omega) (by decide) dX0_reset_14 ?_
      refine Wp_aload_n dX0_reset_15 rfl 1 rfl ?_
      refine Wp_getr fk_X0_15 hB rfl dX0_reset_16 ?_
      refine Wp_iload_n dX0_reset_19 rfl 0 rfl ?_
      refine Wp_iconst (v := (nI (5))) dX0_reset_20 (by decide) ?_
      refine Wp_ist (n := f) hz rfl (by omega) (by decide) dX0_reset_21 ?_
      refine Wp_iinc (x := (nI ((f + 1)))) (lv' := [(1, .int (nI ((f + 1)))), (0, .ref (ad (h)))]) dX0_reset_22 0 rfl (w_inc1 _) (by decide) rfl ?_
      refine Wp_goto (tgt := 2) dX0_reset_25 (by decide) ?_
      exact ih (f + 1) _ (by omega) (by omega) (fun j h1 h2 => by rw [← fr j h1 h2]; simp [up2, h1, h2]) (fun k hk => by
        by_cases q : k = f
        · subst q; exact ⟨by rw [up2_i hcz, up2_s], by rw [up2_s]⟩
        · rw [up2_k q, up2_k q, up2_k q, up2_k q]; exact lo k (by omega))
theorem c_X0_reset {E : wE} {S : List wK} {ad : Nat → Nat} {V : wV} {h c z k : Nat} (hB : S[h]? = some (.inl (0, [some (some c), some (some z), some (some k), none, none]))) (hc : S[c]? = some (.inr (.inl (false, 8)))) (hz : S[z]? = some (.inr (.inl (false, 8)))) (hcz : c ≠ z) : w_C E mX0_reset (w_R 0 0 0) 0 0 [.ref (ad (h))] S ad V (w_v S ad (fun V' => FG V' c z (fun f => f) (fun _ => 5) ∧ V' h 3 = nI 0 ∧ V' h 4 = nI 5 ∧ ∀ j, j ≠ h → j ≠ c → j ≠ z → V' j = V j)) := by
  refine w_C.of (by decide) (Nat.le_of_ble_eq_true rfl) ?_
  show Wp _ _ _ _ _ _ _ _ _ [(0, .ref (ad (h)))] [] S ad V
  refine Wp_iconst (v := (nI (0))) dX0_reset_0 (by decide) ?_
  refine Wp_istore_n (lv' := [(1, .int (nI (0))), (0, .ref (ad (h)))]) dX0_reset_1 rfl (by decide) rfl ?_
  exact lp_X0_reset hB hc hz hcz 9 0 V (by omega) (by omega) (fun _ _ _ => rfl) (fun k hk => by omega)
theorem c_X0_copyFrom {E : wE} {S : List wK} {ad : Nat → Nat} {V : wV} {h c z k h2 c2 z2 k2 : Nat} (hB : S[h]? = some (.inl (0, [some (some c), some (some z), some (some k), none, none]))) (hc : S[c]? = some (.inr (.inl (false, 8)))) (hz : S[z]? = some (.inr (.inl (false, 8)))) (hk : S[k]? = some (.inr (.inl (false, 10)))) (hB2 : S[h2]? = some (.inl (0, [some (some c2), some (some z2), some (some k2), none, none]))) (hc2 : S[c2]? = some (.inr (.inl (false, 8)))) (hz2 : S[z2]? = some (.inr (.inl (false, 8)))) (hk2 : S[k2]? = some (.inr (.inl (false, 10)))) {n : Nat} {ln : Nat → Nat} {lt : Nat → Nat → Nat} {col siz : Nat → Nat} (b : BK V h2 k2 n ln lt) (g : FG V c2 z2 col siz) (n1 : h2 ≠ h) (n2 : c ≠ z) (n3 : z2 ≠ c) (n4 : z2 ≠ z) (n5 : c2 ≠ c) : w_C E mX0_copyFrom (w_R 1 0 0) 0 0 [.ref (ad (h)), .ref (ad (h2))] S ad V (w_v S ad (fun V' => BK V' h k n ln lt ∧ FG V' c z col siz ∧ V' h 4 = V h2 4 ∧ ∀ j, j ≠ h → j ≠ c → j ≠ z → j ≠ k → V' j = V j)) := by
  refine w_C.of (by decide) (Nat.le_of_ble_eq_true rfl) ?_
  show Wp _ _ _ _ _ _ _ _ _ [(0, .ref (ad (h))), (1, .ref (ad (h2)))] [] S ad V
  have q1 : c ≠ h := w_ne hc hB (by simp)
  have q2 : z ≠ h := w_ne hz hB (by simp)
  have q3 : k ≠ h := w_ne hk hB (by simp)
  have q4 : h2 ≠ c := w_ne hB2 hc (by simp)
  have q5 : h2 ≠ z := w_ne hB2 hz (by simp)
  have q6 : h2 ≠ k := w_ne hB2 hk (by simp)
  have q7 : k ≠ c := w_ne hk hc (by simp)
  have q8 : k ≠ z := w_ne hk hz (by simp)
  have q9 : k2 ≠ c := w_ne hk2 hc (by simp)
  have q10 : k2 ≠ z := w_ne hk2 hz (by simp)
  obtain ⟨b1, b2, b3⟩ := b
  refine Wp_aload_n dX0_copyFrom_0 rfl 1 rfl ?_
  refine Wp_getr fk_X0_9 hB2 rfl dX0_copyFrom_1 ?_
  refine Wp_iconst (v := (nI (0))) dX0_copyFrom_4 (by decide) ?_
  refine Wp_aload_n dX0_copyFrom_5 rfl 0 rfl ?_
  refine Wp_getr fk_X0_9 hB rfl dX0_copyFrom_6 ?_
  refine Wp_iconst (v := (nI (0))) dX0_copyFrom_9 (by decide) ?_
  refine Wp_bipush (v := (nI (8))) dX0_copyFrom_10 (by decide) ?_
  refine Wp_copy (N := 8) ml_X0_31 hc2 hc rfl rfl rfl (by decide) (by decide) (by decide) (by decide) (by decide) dX0_copyFrom_12 ?_
  obtain ⟨V1, hV1⟩ : ∃ V1, V1 = (up1 V c (va_cpy (V c2) (V c) 0 0 8)) := ⟨_, rfl⟩
  rw [← hV1]
  have fr1 : ∀ j, j ≠ c → V1 j = V j := fun j hj => by rw [hV1]; simp [up1, hj]
  have fa1 : ∀ q, q < 8 → V1 c q = V c2 q := fun q hq => by rw [hV1]; simp only [up1, if_pos rfl]; exact sb_cpy0 hq
  refine Wp_aload_n dX0_copyFrom_15 rfl 1 rfl ?_
  refine Wp_getr fk_X0_15 hB2 rfl dX0_copyFrom_16 ?_
  refine Wp_iconst (v := (nI (0))) dX0_copyFrom_19 (by decide) ?_
  refine Wp_aload_n dX0_copyFrom_20 rfl 0 rfl ?_
  refine Wp_getr fk_X0_15 hB rfl dX0_copyFrom_21 ?_
  refine Wp_iconst (v := (nI (0))) dX0_copyFrom_24 (by decide) ?_
  refine Wp_bipush (v := (nI (8))) dX0_copyFrom_25 (by decide) ?_
  refine Wp_copy (N := 8) ml_X0_31 hz2 hz rfl rfl rfl (by decide) (by decide) (by decide) (by decide) (by decide) dX0_copyFrom_27 ?_
  obtain ⟨V2, hV2⟩ : ∃ V2, V2 = (up1 V1 z (va_cpy (V1 z2) (V1 z) 0 0 8)) := ⟨_, rfl⟩
  rw [← hV2]
  have fr2 : ∀ j, j ≠ z → V2 j = V1 j := fun j hj => by rw [hV2]; simp [up1, hj]
  have fa2 : ∀ q, q < 8 → V2 z q = V1 z2 q := fun q hq => by rw [hV2]; simp only [up1, if_pos rfl]; exact sb_cpy0 hq
  refine Wp_aload_n dX0_copyFrom_30 rfl 1 rfl ?_
  refine Wp_getr fk_X0_18 hB2 rfl dX0_copyFrom_31 ?_
  refine Wp_iconst (v := (nI (0))) dX0_copyFrom_34 (by decide) ?_
  refine Wp_aload_n dX0_copyFrom_35 rfl 0 rfl ?_
  refine Wp_getr fk_X0_18 hB rfl dX0_copyFrom_36 ?_
  refine Wp_iconst (v := (nI (0))) dX0_copyFrom_39 (by decide) ?_
  refine Wp_bipush (v := (nI (10))) dX0_copyFrom_40 (by decide) ?_
  refine Wp_copy (N := 10) ml_X0_31 hk2 hk rfl rfl rfl (by decide) (by decide) (by decide) (by decide) (by decide) dX0_copyFrom_42 ?_
  obtain ⟨V3, hV3⟩ : ∃ V3, V3 = (up1 V2 k (va_cpy (V2 k2) (V2 k) 0 0 10)) := ⟨_, rfl⟩
  rw [← hV3]
  have fr3 : ∀ j, j ≠ k → V3 j = V2 j := fun j hj => by rw [hV3]; simp [up1, hj]
  have fa3 : ∀ q, q < 10 → V3 k q = V2 k2 q := fun q hq => by rw [hV3]; simp only [up1, if_pos rfl]; exact sb_cpy0 hq
  refine Wp_aload_n dX0_copyFrom_45 rfl 0 rfl ?_
  refine Wp_aload_n dX0_copyFrom_46 rfl 1 rfl ?_
  refine Wp_get (x := (V3 h2 3)) fk_X0_24 hB2 rfl rfl dX0_copyFrom_47 ?_
  refine Wp_put fk_X0_24 hB rfl rfl rfl dX0_copyFrom_50 ?_
  refine Wp_aload_n dX0_copyFrom_53 rfl 0 rfl ?_
  refine Wp_aload_n dX0_copyFrom_54 rfl 1 rfl ?_
  refine Wp_get (x := (V3 h2 4)) fk_X0_28 hB2 rfl ((up2_k (by decide)).trans rfl) dX0_copyFrom_55 ?_
  refine Wp_put fk_X0_28 hB rfl rfl rfl dX0_copyFrom_58 ?_
  exact Wp_vret rfl ⟨rfl, rfl, rfl, by
    have e3 : V3 h2 = V h2 := by rw [fr3 h2 q6, fr2 h2 q5, fr1 h2 q4]
    refine ⟨⟨?_, b2, fun s hs => ?_⟩, fun f hf => ?_, ?_, fun j h1 h2 h3 h4 => ?_⟩
    · simp [up2, upd]; rw [e3]; exact b1
    · rw [up2_i q3, up2_i q3, fa3 s (by omega), fr2 k2 q10, fr1 k2 q9]; exact b3 s hs
    · rw [up2_i q1, up2_i q1, up2_i q2, up2_i q2, fr3 c (Ne.symm q7), fr2 c n2, fa1 f hf, fr3 z (Ne.symm q8), fa2 f hf, fr1 z2 n3]; exact g f hf
    · simp [up2, upd, n1]; rw [e3]
    · rw [← fr1 j h2, ← fr2 j h3, ← fr3 j h4]; simp [up2, h1]⟩ (Nat.le_refl _) (Nat.le_refl _) dX0_copyFrom_61
/-! THE TEXT: its tokens. 300: the end; 301: a number that stands nowhere; else the letter -/
def skf (tt : Nat → Nat) : Nat → Nat → Nat
  | 0, p => p
  | f + 1, p => if tt p = 32 then skf tt f (p + 1) else p
def skp (tt : Nat → Nat) (n p : Nat) : Nat := skf tt (n - p) p
def isD (c : Nat) : Bool := decide (48 ≤ c ∧ c ≤ 57)
def dgf (tt : Nat → Nat) : Nat → Nat → Nat
  | 0, p => p
  | f + 1, p => if isD (tt p) = true then dgf tt f (p + 1) else p
def dgp (tt : Nat → Nat) (n p : Nat) : Nat := dgf tt (n - p) p
theorem skp_s {tt : Nat → Nat} {n p : Nat} (h : p < n) (h2 : tt p = 32) : skp tt n p = skp tt n (p + 1) := by
  unfold skp; rw [show n - p = (n - (p + 1)) + 1 by omega]; simp [skf, h2]
theorem skp_e {tt : Nat → Nat} {n p : Nat} (h : n ≤ p ∨ tt p ≠ 32) : skp tt n p = p := by
  unfold skp
  rcases Nat.eq_zero_or_pos (n - p) with q | q
  · rw [q]; rfl
  · rw [show n - p = (n - p - 1) + 1 by omega]
    rcases h with h | h
    · omega
    · simp [skf, h]
theorem skf_ge (tt : Nat → Nat) (f p : Nat) : p ≤ skf tt f p ∧ skf tt f p ≤ p + f := by
  induction f generalizing p with
  | zero => simp [skf]
  | succ f ih =>
    simp only [skf]; split
    · have := ih (p + 1); omega
    · omega
theorem skp_ge {tt : Nat → Nat} {n p : Nat} (h : p ≤ n) : p ≤ skp tt n p ∧ skp tt n p ≤ n := by
  have := skf_ge tt (n - p) p; unfold skp; omega
theorem dgp_s {tt : Nat → Nat} {n p : Nat} (h : p < n) (h2 : isD (tt p) = true) : dgp tt n p = dgp tt n (p + 1) := by
  unfold dgp; rw [show n - p = (n - (p + 1)) + 1 by omega]; simp [dgf, h2]
theorem dgp_e {tt : Nat → Nat} {n p : Nat} (h : n ≤ p ∨ isD (tt p) = false) : dgp tt n p = p := by
  unfold dgp
  rcases Nat.eq_zero_or_pos (n - p) with q | q
  · rw [q]; rfl
  · rw [show n - p = (n - p - 1) + 1 by omega]
    rcases h with h | h
    · omega
    · simp [dgf, h]
theorem dgf_ge (tt : Nat → Nat) (f p : Nat) : p ≤ dgf tt f p ∧ dgf tt f p ≤ p + f := by
  induction f generalizing p with
  | zero => simp [dgf]
  | succ f ih =>
    simp only [dgf]; split
    · have := ih (p + 1); omega
    · omega
theorem dgp_ge {tt : Nat → Nat} {n p : Nat} (h : p ≤ n) : p ≤ dgp tt n p ∧ dgp tt n p ≤ n := by
  have := dgf_ge tt (n - p) p; unfold dgp; omega
def tkE (tt : Nat → Nat) (n p : Nat) : Nat := if isD (tt (skp tt n p)) = true then dgp tt n (skp tt n p + 1) else skp tt n p + 1
def tkT (tt : Nat → Nat) (n p : Nat) : Nat := if n ≤ skp tt n p then 300 else if isD (tt (skp tt n p)) = true ∧ skp tt n p + 1 < tkE tt n p then 301 else tt (skp tt n p)
theorem tkE_gt {tt : Nat → Nat} {n p : Nat} (h : p ≤ n) (h2 : tkT tt n p ≠ 300) : p < tkE tt n p ∧ tkE tt n p ≤ n ∧ skp tt n p < tkE tt n p := by
  have h3 := skp_ge (tt := tt) h
  have h4 : skp tt n p < n := by
    rcases Nat.lt_or_ge (skp tt n p) n with q | q
    · exact q
    · exact absurd (by unfold tkT; rw [if_pos q]) h2
  unfold tkE
  split
  · have := dgp_ge (tt := tt) (show skp tt n p + 1 ≤ n by omega); omega
  · omega
theorem tkT_ne {tt : Nat → Nat} {n p : Nat} (htt : ∀ k, k < n → tt k < 256) (h : tkT tt n p ≠ 300) : skp tt n p < n := by
  rcases Nat.lt_or_ge (skp tt n p) n with q | q
  · exact q
  · exact absurd (by unfold tkT; rw [if_pos q]) h
def ctk (t : Nat) : Int32 := if t = 300 then -1 else if t = 301 then -2 else nI t
theorem ctk_toInt {t : Nat} (h : t ≤ 301) : (ctk t).toInt = if t = 300 then -1 else if t = 301 then -2 else (t : Int) := by
  unfold ctk
  split
  · decide
  · split
    · decide
    · exact nI_toInt (by omega)
theorem tkT_le {tt : Nat → Nat} {n p : Nat} (htt : ∀ k, k < n → tt k < 256) : tkT tt n p ≤ 301 ∧ (tkT tt n p < 256 ∨ tkT tt n p = 300 ∨ tkT tt n p = 301) := by
  unfold tkT
  split
  · omega
  · split
    · omega
    · have := htt (skp tt n p) (by omega); omega
def TX (V : wV) (x ta n : Nat) (tt : Nat → Nat) : Prop := V x 1 = nI n ∧ n ≤ 120 ∧ ∀ k, k < n → V ta k = nI (tt k) ∧ tt k < 256
/-- the text stands at the token at p -/
def AT (V : wV) (x n : Nat) (tt : Nat → Nat) (p : Nat) : Prop := V x 2 = ctk (tkT tt n p) ∧ V x 3 = nI (skp tt n p) ∧ (tkT tt n p ≠ 300 → V x 4 = nI (tkE tt n p))
theorem c_X7_isDigit {E : wE} {S : List wK} {ad : Nat → Nat} {V : wV} {c : Nat} (hc : c < 256) : w_C E mX7_isDigit (w_R 0 0 0) 0 0 [.int (nI (c))] S ad V (w_i S ad (fun r V' => r = bI (isD c) ∧ V' = V)) := by
  refine w_C.of (by decide) (Nat.le_of_ble_eq_true rfl) ?_
  show Wp _ _ _ _ _ _ _ _ _ [(0, .int (nI (c)))] [] S ad V
  refine Wp_iload_n dX7_isDigit_0 rfl 0 rfl ?_
  refine Wp_bipush (v := (nI (48))) dX7_isDigit_1 (by decide) ?_
  refine Wp_icmp_lt (tgt := 16) dX7_isDigit_3 (by decide) (nI_toInt (by omega)) (nI_toInt (by omega)) (fun c_3 => ?_) (fun c_3 => ?_)
  · refine Wp_iconst (v := (nI (0))) dX7_isDigit_16 (by decide) ?_
    exact Wp_zret (b := false) rfl rfl ⟨rfl, rfl, _, rfl, ⟨congrArg bI (decide_eq_false (by omega)).symm, rfl⟩⟩ (Nat.le_refl _) (Nat.le_refl _) dX7_isDigit_17
  · refine Wp_iload_n dX7_isDigit_6 rfl 0 rfl ?_
    refine Wp_bipush (v := (nI (57))) dX7_isDigit_7 (by decide) ?_
    refine Wp_icmp_gt (tgt := 16) dX7_isDigit_9 (by decide) (nI_toInt (by omega)) (nI_toInt (by omega)) (fun c_9 => ?_) (fun c_9 => ?_)
    · refine Wp_iconst (v := (nI (0))) dX7_isDigit_16 (by decide) ?_
      exact Wp_zret (b := false) rfl rfl ⟨rfl, rfl, _, rfl, ⟨congrArg bI (decide_eq_false (by omega)).symm, rfl⟩⟩ (Nat.le_refl _) (Nat.le_refl _) dX7_isDigit_17
    · refine Wp_iconst (v := (nI (1))) dX7_isDigit_12 (by decide) ?_
      refine Wp_goto (tgt := 17) dX7_isDigit_13 (by decide) ?_
      exact Wp_zret (b := true) rfl rfl ⟨rfl, rfl, _, rfl, ⟨congrArg bI (decide_eq_true (by omega)).symm, rfl⟩⟩ (Nat.le_refl _) (Nat.le_refl _) dX7_isDigit_17
theorem lp_X7_step2 {E : wE} {S : List wK} {ad : Nat → Nat} {V : wV} {x ta : Nat} (hX : S[x]? = some (.inl (7, [some (some ta), none, none, none, none]))) (hta : S[ta]? = some (.inr (.inl (false, 120)))) {n : Nat} {tt : Nat → Nat} (t0 : TX V x ta n tt) {p : Nat} (hp : p ≤ n)  : ∀ (m : Nat) (e : Nat) (q : Nat) (V1 : wV), q < e → e ≤ n → n < e + m → skp tt n p = q → isD (tt q) = true → tkE tt n p = dgp tt n e → V1 x 1 = nI n → V1 x 3 = nI q → V1 x 4 = nI e → V1 x 2 = (if q + 1 < e then -2 else nI (tt q)) → (∀ j, j ≠ x → V1 j = V j) → Wp E mX7_step (w_R 1 0 0) (w_v S ad (fun V' => AT V' x n tt p ∧ V' x 1 = nI n ∧ ∀ j, j ≠ x → V' j = V j)) 0 0 0 0 96 [(0, .ref (ad (x)))] [] S ad V1 := by
  have hxa : ta ≠ x := w_ne hta hX (by simp)
  obtain ⟨g1, g2, g3⟩ := t0
  intro m
  induction m with
  | zero => intro e q V1 hqe he hm hsk hd hE f1 f3 f4 f2 fr; omega
  | succ m ih =>
    intro e q V1 hqe he hm hsk hd hE f1 f3 f4 f2 fr
    refine Wp_aload_n dX7_step_96 rfl 0 rfl ?_
    refine Wp_get (x := (nI (e))) fk_X7_15 hX rfl f4 dX7_step_97 ?_
    refine Wp_aload_n dX7_step_100 rfl 0 rfl ?_
    refine Wp_get (x := (nI (n))) fk_X7_25 hX rfl f1 dX7_step_101 ?_
    refine Wp_icmp_ge (tgt := 141) dX7_step_104 (by decide) (nI_toInt (by omega)) (nI_toInt (by omega)) (fun c_104 => ?_) (fun c_104 => ?_)
    · exact Wp_vret rfl ⟨rfl, rfl, rfl, by
      have hEe : tkE tt n p = e := by rw [hE]; exact dgp_e (by first | exact Or.inr c_119 | exact Or.inl (by omega))
      have hT : tkT tt n p = if q + 1 < e then 301 else tt q := by
        unfold tkT
        rw [hsk, hEe, if_neg (by omega)]
        by_cases z : q + 1 < e
        · rw [if_pos ⟨hd, z⟩, if_pos z]
        · rw [if_neg (fun w => z w.2), if_neg z]
      have g8 := (g3 q (by omega)).2
      refine ⟨⟨?_, by rw [hsk]; exact f3, fun _ => by rw [hEe]; exact f4⟩, f1, fr⟩
      rw [hT, f2]
      by_cases z : q + 1 < e
      · rw [if_pos z, if_pos z]; rfl
      · rw [if_neg z, if_neg z]; unfold ctk; rw [if_neg (by omega), if_neg (by omega)]⟩ (Nat.le_refl _) (Nat.le_refl _) dX7_step_141
    · have g9 := (g3 e (by omega)).2
      refine Wp_aload_n dX7_step_107 rfl 0 rfl ?_
      refine Wp_getr fk_X7_9 hX rfl dX7_step_108 ?_
      refine Wp_aload_n dX7_step_111 rfl 0 rfl ?_
      refine Wp_get (x := (nI (e))) fk_X7_15 hX rfl f4 dX7_step_112 ?_
      refine Wp_ild (n := e) (y := (nI (tt e))) hta rfl (by omega) (by decide) (show V1 ta e = nI (tt e) by rw [fr ta hxa]; exact (g3 e (by omega)).1) dX7_step_115 ?_
      refine Wp_callSg (c_X7_isDigit g9) YS_X7_isDigit ml_X7_31 dX7_step_116 (by omega) (by decide) (by omega) (by omega) rfl rfl (Nat.le_of_ble_eq_true rfl) ?_
      refine Wp_ifeq_b (tgt := 141) dX7_step_119 (by decide) (fun c_119 => ?_) (fun c_119 => ?_)
      · exact Wp_vret rfl ⟨rfl, rfl, rfl, by
      have hEe : tkE tt n p = e := by rw [hE]; exact dgp_e (by first | exact Or.inr c_119 | exact Or.inl (by omega))
      have hT : tkT tt n p = if q + 1 < e then 301 else tt q := by
        unfold tkT
        rw [hsk, hEe, if_neg (by omega)]
        by_cases z : q + 1 < e
        · rw [if_pos ⟨hd, z⟩, if_pos z]
        · rw [if_neg (fun w => z w.2), if_neg z]
      have g8 := (g3 q (by omega)).2
      refine ⟨⟨?_, by rw [hsk]; exact f3, fun _ => by rw [hEe]; exact f4⟩, f1, fr⟩
      rw [hT, f2]
      by_cases z : q + 1 < e
      · rw [if_pos z, if_pos z]; rfl
      · rw [if_neg z, if_neg z]; unfold ctk; rw [if_neg (by omega), if_neg (by omega)]⟩ (Nat.le_refl _) (Nat.le_refl _) dX7_step_141
      · refine Wp_aload_n dX7_step_122 rfl 0 rfl ?_
        refine Wp_bipush (v := ((-2))) dX7_step_123 (by decide) ?_
        refine Wp_put fk_X7_28 hX rfl rfl rfl dX7_step_125 ?_
        refine Wp_aload_n dX7_step_128 rfl 0 rfl ?_
        refine Wp_dup dX7_step_129 rfl ?_
        refine Wp_get (x := (nI (e))) fk_X7_15 hX rfl ((up2_k (by decide)).trans f4) dX7_step_130 ?_
        refine Wp_iconst (v := (nI (1))) dX7_step_133 (by decide) ?_
        refine Wp_iadd (z := (nI ((e + 1)))) dX7_step_134 (nI_add _ _) ?_
        refine Wp_put fk_X7_15 hX rfl rfl rfl dX7_step_135 ?_
        refine Wp_goto (tgt := 96) dX7_step_138 (by decide) ?_
        exact ih (e + 1) q _ (by omega) (by omega) (by omega) hsk hd (by rw [hE]; exact dgp_s (by omega) c_119) (by rw [up2_k (by decide), up2_k (by decide)]; exact f1) (by rw [up2_k (by decide), up2_k (by decide)]; exact f3) (by rw [up2_s]) (by rw [up2_k (by decide), up2_s, if_pos (by omega)]) (fun j hj => by rw [← fr j hj]; simp [up2, hj])
theorem lp_X7_step1 {E : wE} {S : List wK} {ad : Nat → Nat} {V : wV} {x ta : Nat} (hX : S[x]? = some (.inl (7, [some (some ta), none, none, none, none]))) (hta : S[ta]? = some (.inr (.inl (false, 120)))) {n : Nat} {tt : Nat → Nat} (t0 : TX V x ta n tt) {p : Nat} (hp : p ≤ n)  : ∀ (m : Nat) (q : Nat) (V1 : wV), p ≤ q → q ≤ n → n < q + m → skp tt n p = skp tt n q → V1 x 1 = nI n → V1 x 3 = nI q → (∀ j, j ≠ x → V1 j = V j) → Wp E mX7_step (w_R 1 0 0) (w_v S ad (fun V' => AT V' x n tt p ∧ V' x 1 = nI n ∧ ∀ j, j ≠ x → V' j = V j)) 0 0 0 0 8 [(0, .ref (ad (x)))] [] S ad V1 := by
  have hxa : ta ≠ x := w_ne hta hX (by simp)
  have t1 := t0
  obtain ⟨g1, g2, g3⟩ := t0
  intro m
  induction m with
  | zero => intro q V1 hpq hq hm hsk f1 f3 fr; omega
  | succ m ih =>
    intro q V1 hpq hq hm hsk f1 f3 fr
    refine Wp_aload_n dX7_step_8 rfl 0 rfl ?_
    refine Wp_get (x := (nI (q))) fk_X7_22 hX rfl f3 dX7_step_9 ?_
    refine Wp_aload_n dX7_step_12 rfl 0 rfl ?_
    refine Wp_get (x := (nI (n))) fk_X7_25 hX rfl f1 dX7_step_13 ?_
    refine Wp_icmp_ge (tgt := 46) dX7_step_16 (by decide) (nI_toInt (by omega)) (nI_toInt (by omega)) (fun c_16 => ?_) (fun c_16 => ?_)
    · have hsq : skp tt n p = q := by rw [hsk]; exact skp_e (Or.inl (by omega))
      refine Wp_aload_n dX7_step_46 rfl 0 rfl ?_
      refine Wp_get (x := (nI (q))) fk_X7_22 hX rfl f3 dX7_step_47 ?_
      refine Wp_aload_n dX7_step_50 rfl 0 rfl ?_
      refine Wp_get (x := (nI (n))) fk_X7_25 hX rfl f1 dX7_step_51 ?_
      refine Wp_icmp_lt (tgt := 63) dX7_step_54 (by decide) (nI_toInt (by omega)) (nI_toInt (by omega)) (fun c_54 => ?_) (fun c_54 => ?_)
      · have g9 := (g3 q (by omega)).2
        refine Wp_aload_n dX7_step_63 rfl 0 rfl ?_
        refine Wp_aload_n dX7_step_64 rfl 0 rfl ?_
        refine Wp_getr fk_X7_9 hX rfl dX7_step_65 ?_
        refine Wp_aload_n dX7_step_68 rfl 0 rfl ?_
        refine Wp_get (x := (nI (q))) fk_X7_22 hX rfl f3 dX7_step_69 ?_
        refine Wp_ild (n := q) (y := (nI (tt q))) hta rfl (by omega) (by decide) (show V1 ta q = nI (tt q) by rw [fr ta hxa]; exact (g3 q (by omega)).1) dX7_step_72 ?_
        refine Wp_put fk_X7_28 hX rfl rfl rfl dX7_step_73 ?_
        refine Wp_aload_n dX7_step_76 rfl 0 rfl ?_
        refine Wp_aload_n dX7_step_77 rfl 0 rfl ?_
        refine Wp_get (x := (nI (q))) fk_X7_22 hX rfl ((up2_k (by decide)).trans f3) dX7_step_78 ?_
        refine Wp_iconst (v := (nI (1))) dX7_step_81 (by decide) ?_
        refine Wp_iadd (z := (nI ((q + 1)))) dX7_step_82 (nI_add _ _) ?_
        refine Wp_put fk_X7_15 hX rfl rfl rfl dX7_step_83 ?_
        refine Wp_aload_n dX7_step_86 rfl 0 rfl ?_
        refine Wp_get (x := (nI (tt q))) fk_X7_28 hX rfl ((up2_k (by decide)).trans up2_s) dX7_step_87 ?_
        refine Wp_callSg (c_X7_isDigit g9) YS_X7_isDigit ml_X7_31 dX7_step_90 (by omega) (by decide) (by omega) (by omega) rfl rfl (Nat.le_of_ble_eq_true rfl) ?_
        refine Wp_ifeq_b (tgt := 141) dX7_step_93 (by decide) (fun c_93 => ?_) (fun c_93 => ?_)
        · have hE : tkE tt n p = q + 1 := by unfold tkE; rw [hsq, if_neg (by rw [c_93]; decide)]
          exact Wp_vret rfl ⟨rfl, rfl, rfl, by
      have hT : tkT tt n p = tt q := by unfold tkT; rw [hsq, if_neg (by omega), if_neg (by rw [c_93]; simp)]
      refine ⟨⟨?_, ?_, fun w => ?_⟩, ?_, fun j hj => by rw [← fr j hj]; simp [up2, hj]⟩
      · rw [hT]; simp [up2, upd]; unfold ctk; rw [if_neg (by omega), if_neg (by omega)]
      · rw [hsq]; simp [up2, upd]; exact f3
      · rw [hE]; simp [up2, upd]
      · simp [up2, upd]; exact f1⟩ (Nat.le_refl _) (Nat.le_refl _) dX7_step_141
        · have hE : tkE tt n p = dgp tt n (q + 1) := by unfold tkE; rw [hsq, if_pos c_93]
          exact lp_X7_step2 hX hta t1 hp (n + 1) (q + 1) q _ (by omega) (by omega) (by omega) hsq c_93 hE (by simp [up2, upd]; exact f1) (by simp [up2, upd]; exact f3) (by simp [up2, upd]) (by simp [up2, upd]) (fun j hj => by rw [← fr j hj]; simp [up2, hj])
      · refine Wp_aload_n dX7_step_57 rfl 0 rfl ?_
        refine Wp_iconst (v := ((-1))) dX7_step_58 (by decide) ?_
        refine Wp_put fk_X7_28 hX rfl rfl rfl dX7_step_59 ?_
        exact Wp_vret rfl ⟨rfl, rfl, rfl, by
      have hT : tkT tt n p = 300 := by unfold tkT; rw [hsq, if_pos (by omega)]
      refine ⟨⟨by rw [hT, up2_s]; rfl, by rw [hsq, up2_k (by decide)]; exact f3, fun w => absurd hT w⟩, by rw [up2_k (by decide)]; exact f1, fun j hj => by rw [← fr j hj]; simp [up2, hj]⟩⟩ (Nat.le_refl _) (Nat.le_refl _) dX7_step_62
    · have g9 := (g3 q (by omega)).2
      refine Wp_aload_n dX7_step_19 rfl 0 rfl ?_
      refine Wp_getr fk_X7_9 hX rfl dX7_step_20 ?_
      refine Wp_aload_n dX7_step_23 rfl 0 rfl ?_
      refine Wp_get (x := (nI (q))) fk_X7_22 hX rfl f3 dX7_step_24 ?_
      refine Wp_ild (n := q) (y := (nI (tt q))) hta rfl (by omega) (by decide) (show V1 ta q = nI (tt q) by rw [fr ta hxa]; exact (g3 q (by omega)).1) dX7_step_27 ?_
      refine Wp_bipush (v := (nI (32))) dX7_step_28 (by decide) ?_
      refine Wp_icmp_ne (tgt := 46) dX7_step_30 (by decide) (nI_toInt (by omega)) (nI_toInt (by omega)) (fun c_30 => ?_) (fun c_30 => ?_)
      · have hsq : skp tt n p = q := by rw [hsk]; exact skp_e (Or.inr (by omega))
        refine Wp_aload_n dX7_step_46 rfl 0 rfl ?_
        refine Wp_get (x := (nI (q))) fk_X7_22 hX rfl f3 dX7_step_47 ?_
        refine Wp_aload_n dX7_step_50 rfl 0 rfl ?_
        refine Wp_get (x := (nI (n))) fk_X7_25 hX rfl f1 dX7_step_51 ?_
        refine Wp_icmp_lt (tgt := 63) dX7_step_54 (by decide) (nI_toInt (by omega)) (nI_toInt (by omega)) (fun c_54 => ?_) (fun c_54 => ?_)
        · have g9 := (g3 q (by omega)).2
          refine Wp_aload_n dX7_step_63 rfl 0 rfl ?_
          refine Wp_aload_n dX7_step_64 rfl 0 rfl ?_
          refine Wp_getr fk_X7_9 hX rfl dX7_step_65 ?_
          refine Wp_aload_n dX7_step_68 rfl 0 rfl ?_
          refine Wp_get (x := (nI (q))) fk_X7_22 hX rfl f3 dX7_step_69 ?_
          refine Wp_ild (n := q) (y := (nI (tt q))) hta rfl (by omega) (by decide) (show V1 ta q = nI (tt q) by rw [fr ta hxa]; exact (g3 q (by omega)).1) dX7_step_72 ?_
          refine Wp_put fk_X7_28 hX rfl rfl rfl dX7_step_73 ?_
          refine Wp_aload_n dX7_step_76 rfl 0 rfl ?_
          refine Wp_aload_n dX7_step_77 rfl 0 rfl ?_
          refine Wp_get (x := (nI (q))) fk_X7_22 hX rfl ((up2_k (by decide)).trans f3) dX7_step_78 ?_
          refine Wp_iconst (v := (nI (1))) dX7_step_81 (by decide) ?_
          refine Wp_iadd (z := (nI ((q + 1)))) dX7_step_82 (nI_add _ _) ?_
          refine Wp_put fk_X7_15 hX rfl rfl rfl dX7_step_83 ?_
          refine Wp_aload_n dX7_step_86 rfl 0 rfl ?_
          refine Wp_get (x := (nI (tt q))) fk_X7_28 hX rfl ((up2_k (by decide)).trans up2_s) dX7_step_87 ?_
          refine Wp_callSg (c_X7_isDigit g9) YS_X7_isDigit ml_X7_31 dX7_step_90 (by omega) (by decide) (by omega) (by omega) rfl rfl (Nat.le_of_ble_eq_true rfl) ?_
          refine Wp_ifeq_b (tgt := 141) dX7_step_93 (by decide) (fun c_93 => ?_) (fun c_93 => ?_)
          · have hE : tkE tt n p = q + 1 := by unfold tkE; rw [hsq, if_neg (by rw [c_93]; decide)]
            exact Wp_vret rfl ⟨rfl, rfl, rfl, by
      have hT : tkT tt n p = tt q := by unfold tkT; rw [hsq, if_neg (by omega), if_neg (by rw [c_93]; simp)]
      refine ⟨⟨?_, ?_, fun w => ?_⟩, ?_, fun j hj => by rw [← fr j hj]; simp [up2, hj]⟩
      · rw [hT]; simp [up2, upd]; unfold ctk; rw [if_neg (by omega), if_neg (by omega)]
      · rw [hsq]; simp [up2, upd]; exact f3
      · rw [hE]; simp [up2, upd]
      · simp [up2, upd]; exact f1⟩ (Nat.le_refl _) (Nat.le_refl _) dX7_step_141
          · have hE : tkE tt n p = dgp tt n (q + 1) := by unfold tkE; rw [hsq, if_pos c_93]
            exact lp_X7_step2 hX hta t1 hp (n + 1) (q + 1) q _ (by omega) (by omega) (by omega) hsq c_93 hE (by simp [up2, upd]; exact f1) (by simp [up2, upd]; exact f3) (by simp [up2, upd]) (by simp [up2, upd]) (fun j hj => by rw [← fr j hj]; simp [up2, hj])
        · refine Wp_aload_n dX7_step_57 rfl 0 rfl ?_
          refine Wp_iconst (v := ((-1))) dX7_step_58 (by decide) ?_
          refine Wp_put fk_X7_28 hX rfl rfl rfl dX7_step_59 ?_
          exact Wp_vret rfl ⟨rfl, rfl, rfl, by
      have hT : tkT tt n p = 300 := by unfold tkT; rw [hsq, if_pos (by omega)]
      refine ⟨⟨by rw [hT, up2_s]; rfl, by rw [hsq, up2_k (by decide)]; exact f3, fun w => absurd hT w⟩, by rw [up2_k (by decide)]; exact f1, fun j hj => by rw [← fr j hj]; simp [up2, hj]⟩⟩ (Nat.le_refl _) (Nat.le_refl _) dX7_step_62
      · refine Wp_aload_n dX7_step_33 rfl 0 rfl ?_
        refine Wp_dup dX7_step_34 rfl ?_
        refine Wp_get (x := (nI (q))) fk_X7_22 hX rfl f3 dX7_step_35 ?_
        refine Wp_iconst (v := (nI (1))) dX7_step_38 (by decide) ?_
        refine Wp_iadd (z := (nI ((q + 1)))) dX7_step_39 (nI_add _ _) ?_
        refine Wp_put fk_X7_22 hX rfl rfl rfl dX7_step_40 ?_
        refine Wp_goto (tgt := 8) dX7_step_43 (by decide) ?_
        exact ih (q + 1) _ (by omega) (by omega) (by omega) (by rw [hsk]; exact skp_s (by omega) (by omega)) (by rw [up2_k (by decide)]; exact f1) (by rw [up2_s]) (fun j hj => by rw [← fr j hj]; simp [up2, hj])
theorem c_X7_step {E : wE} {S : List wK} {ad : Nat → Nat} {V : wV} {x ta : Nat} (hX : S[x]? = some (.inl (7, [some (some ta), none, none, none, none]))) (hta : S[ta]? = some (.inr (.inl (false, 120)))) {n : Nat} {tt : Nat → Nat} (t0 : TX V x ta n tt) {p : Nat} (hp : p ≤ n) (h4 : V x 4 = nI p) : w_C E mX7_step (w_R 1 0 0) 0 0 [.ref (ad (x))] S ad V (w_v S ad (fun V' => AT V' x n tt p ∧ V' x 1 = nI n ∧ ∀ j, j ≠ x → V' j = V j)) := by
  refine w_C.of (by decide) (Nat.le_of_ble_eq_true rfl) ?_
  show Wp _ _ _ _ _ _ _ _ _ [(0, .ref (ad (x)))] [] S ad V
  refine Wp_aload_n dX7_step_0 rfl 0 rfl ?_
  refine Wp_aload_n dX7_step_1 rfl 0 rfl ?_
  refine Wp_get (x := (nI (p))) fk_X7_15 hX rfl h4 dX7_step_2 ?_
  refine Wp_put fk_X7_22 hX rfl rfl rfl dX7_step_5 ?_
  exact lp_X7_step1 hX hta t0 hp (n + 1) p _ (by omega) hp (by omega) rfl (by rw [up2_k (by decide)]; exact t0.1) (by rw [up2_s]) (fun j hj => by simp [up2, hj])
theorem c_X7_rewind {E : wE} {S : List wK} {ad : Nat → Nat} {V : wV} {x ta : Nat} (hX : S[x]? = some (.inl (7, [some (some ta), none, none, none, none]))) (hta : S[ta]? = some (.inr (.inl (false, 120)))) {n : Nat} {tt : Nat → Nat} (t0 : TX V x ta n tt) : w_C E mX7_rewind (w_R 2 0 0) 0 0 [.ref (ad (x))] S ad V (w_v S ad (fun V' => AT V' x n tt 0 ∧ V' x 1 = nI n ∧ ∀ j, j ≠ x → V' j = V j)) := by
  refine w_C.of (by decide) (Nat.le_of_ble_eq_true rfl) ?_
  show Wp _ _ _ _ _ _ _ _ _ [(0, .ref (ad (x)))] [] S ad V
  have hxa : ta ≠ x := w_ne hta hX (by simp)
  have t1 : TX (up2 V x 4 (nI 0)) x ta n tt := ⟨by rw [up2_k (by decide)]; exact t0.1, t0.2.1, fun k hk => by rw [up2_i hxa]; exact t0.2.2 k hk⟩
  refine Wp_aload_n dX7_rewind_0 rfl 0 rfl ?_
  refine Wp_iconst (v := (nI (0))) dX7_rewind_1 (by decide) ?_
  refine Wp_put fk_X7_15 hX rfl rfl rfl dX7_rewind_2 ?_
  refine Wp_aload_n dX7_rewind_5 rfl 0 rfl ?_
  refine Wp_callVv (c_X7_step hX hta t1 (Nat.zero_le n) up2_s) YV_X7_step ml_X7_19 hX rfl dX7_rewind_6 (by omega) (by decide) (by omega) (by omega) rfl rfl (Nat.le_of_ble_eq_true rfl) (fun V1 hV1 => ?_)
  exact Wp_vret rfl ⟨rfl, rfl, rfl, ⟨hV1.1, hV1.2.1, fun j hj => by rw [hV1.2.2 j hj]; simp [up2, hj]⟩⟩ (Nat.le_refl _) (Nat.le_refl _) dX7_rewind_9
