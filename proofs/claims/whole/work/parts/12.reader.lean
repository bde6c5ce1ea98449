/-! READING: what the text tells, item by item (a pure picture that both sides keep) -/
theorem w_sub_toInt {a b : Int32} (h1 : -2147483648 ≤ a.toInt - b.toInt) (h2 : a.toInt - b.toInt < 2147483648) : (a - b).toInt = a.toInt - b.toInt := by
  rw [Int32.toInt_sub]
  exact Int.bmod_eq_of_le (by omega) (by omega)
theorem nI_or (a b : Nat) : nI a ||| nI b = nI (a ||| b) := by
  apply Int32.toBitVec_inj.mp
  show BitVec.ofNat 32 a ||| BitVec.ofNat 32 b = BitVec.ofNat 32 (a ||| b)
  rw [BitVec.ofNat_or]
/-- colours, sizes, how many sentences, their lengths, letters; places (0: not told) -/
abbrev aP : Type := (Nat → Nat) × (Nat → Nat) × Nat × (Nat → Nat) × (Nat → Nat → Nat) × Nat
def pEnd (tt : Nat → Nat) (n p : Nat) (x : aP) : Bool × Nat × aP := if tkT tt n p = 59 then (true, tkE tt n p, x) else (false, p, x)
def pPl (tt : Nat → Nat) (n p : Nat) (x : aP) : Bool × Nat × aP := if x.2.2.2.2.2 ≠ 0 then (false, p, x) else
  if 51 ≤ tkT tt n (tkE tt n p) ∧ tkT tt n (tkE tt n p) ≤ 55 then (true, tkE tt n (tkE tt n p), (x.1, x.2.1, x.2.2.1, x.2.2.2.1, x.2.2.2.2.1, tkT tt n (tkE tt n p) - 48)) else (false, tkE tt n p, x)
def pFl (tt : Nat → Nat) (n p : Nat) (x : aP) : Bool × Nat × aP :=
  if 97 ≤ tkT tt n (tkE tt n p) ∧ tkT tt n (tkE tt n p) ≤ 104 then
    if 48 ≤ tkT tt n (tkE tt n (tkE tt n p)) ∧ tkT tt n (tkE tt n (tkE tt n p)) ≤ 55 then
      if 49 ≤ tkT tt n (tkE tt n (tkE tt n (tkE tt n p))) ∧ tkT tt n (tkE tt n (tkE tt n (tkE tt n p))) ≤ 57 then
        (true, tkE tt n (tkE tt n (tkE tt n (tkE tt n p))), (va_up x.1 (tkT tt n (tkE tt n p) - 97) (tkT tt n (tkE tt n (tkE tt n p)) - 48), va_up x.2.1 (tkT tt n (tkE tt n p) - 97) (tkT tt n (tkE tt n (tkE tt n (tkE tt n p))) - 48), x.2.2))
      else (false, tkE tt n (tkE tt n (tkE tt n p)), x)
    else (false, tkE tt n (tkE tt n p), x)
  else (false, tkE tt n p, x)
/-- letters of a code: how many, where they end, which -/
def cdf (tt : Nat → Nat) (n : Nat) : Nat → Nat → Nat → (Nat → Nat) → Nat × Nat × (Nat → Nat)
  | 0, i, p, g => (i, p, g)
  | f + 1, i, p, g => if 97 ≤ tkT tt n p ∧ tkT tt n p ≤ 104 then cdf tt n f (i + 1) (tkE tt n p) (va_up g i (tkT tt n p - 97)) else (i, p, g)
def sme (x : aP) (L : Nat) (g : Nat → Nat) : Bool := decide (∃ s, s < x.2.2.1 ∧ x.2.2.2.1 s = L ∧ ∀ i, i < L → x.2.2.2.2.1 s i = g i)
def adc (x : aP) (L : Nat) (g : Nat → Nat) : aP := (x.1, x.2.1, x.2.2.1 + 1, va_up x.2.2.2.1 x.2.2.1 L, va_up x.2.2.2.2.1 x.2.2.1 g, x.2.2.2.2.2)
def pCd (tt : Nat → Nat) (n p : Nat) (x : aP) : Bool × Nat × aP := if 10 ≤ x.2.2.1 then (false, p, x) else
  if (cdf tt n 4 0 (tkE tt n p) (fun _ => 0)).1 = 0 ∨ sme x (cdf tt n 4 0 (tkE tt n p) (fun _ => 0)).1 (cdf tt n 4 0 (tkE tt n p) (fun _ => 0)).2.2 = true then (false, (cdf tt n 4 0 (tkE tt n p) (fun _ => 0)).2.1, x)
  else (true, (cdf tt n 4 0 (tkE tt n p) (fun _ => 0)).2.1, adc x (cdf tt n 4 0 (tkE tt n p) (fun _ => 0)).1 (cdf tt n 4 0 (tkE tt n p) (fun _ => 0)).2.2)
def pIt0 (tt : Nat → Nat) (n p : Nat) (x : aP) : Bool × Nat × aP := if tkT tt n p = 112 then pPl tt n p x else if tkT tt n p = 102 then pFl tt n p x else if tkT tt n p = 107 then pCd tt n p x else (false, p, x)
def pIt (tt : Nat → Nat) (n p : Nat) (x : aP) : Bool × Nat × aP := if (pIt0 tt n p x).1 = true then pEnd tt n (pIt0 tt n p x).2.1 (pIt0 tt n p x).2.2 else pIt0 tt n p x
/-- all items: ok, how many, where it stands, what was told -/
def pAll (tt : Nat → Nat) (n : Nat) : Nat → Nat → Nat → aP → Bool × Nat × Nat × aP
  | 0, i, p, x => (true, i, p, x)
  | f + 1, i, p, x => if tkT tt n p = 300 then (true, i, p, x) else if (pIt tt n p x).1 = true then pAll tt n f (i + 1) (pIt tt n p x).2.1 (pIt tt n p x).2.2 else (false, i, (pIt tt n p x).2.1, x)
def x0P : aP := (fun f => f, fun _ => 5, 0, fun _ => 0, fun _ _ => 0, 0)
theorem tkE_le {tt : Nat → Nat} {n p : Nat} (h : p ≤ n) (h2 : tkT tt n p ≠ 300) : tkE tt n p ≤ n := (tkE_gt h h2).2.1
theorem cdf_le {tt : Nat → Nat} {n : Nat} (f i p : Nat) (g : Nat → Nat) (hp : p ≤ n) : (cdf tt n f i p g).2.1 ≤ n ∧ p ≤ (cdf tt n f i p g).2.1 ∧ i ≤ (cdf tt n f i p g).1 ∧ (cdf tt n f i p g).1 ≤ i + f := by
  induction f generalizing i p g with
  | zero => simp only [cdf]; omega
  | succ f ih =>
    simp only [cdf]
    split
    · have q := tkE_gt hp (show tkT tt n p ≠ 300 by omega)
      have := ih (i + 1) (tkE tt n p) (va_up g i (tkT tt n p - 97)) q.2.1
      omega
    · simp only; omega
theorem cdf_lt {tt : Nat → Nat} {n : Nat} (f i p : Nat) (g : Nat → Nat) (hg : ∀ j, j < i → g j < 8) : ∀ j, j < (cdf tt n f i p g).1 → (cdf tt n f i p g).2.2 j < 8 := by
  induction f generalizing i p g with
  | zero => simpa only [cdf] using hg
  | succ f ih =>
    simp only [cdf]
    split
    · apply ih
      intro j hj
      unfold va_up
      split
      · omega
      · exact hg j (by omega)
    · simpa only using hg
theorem pIt_le {tt : Nat → Nat} {n p : Nat} {x : aP} (hp : p ≤ n) (ht : tkT tt n p ≠ 300) (h : (pIt tt n p x).1 = true) : p < (pIt tt n p x).2.1 ∧ (pIt tt n p x).2.1 ≤ n := by
  have e1 := tkE_gt hp ht
  have key : (pIt0 tt n p x).1 = true → p < (pIt0 tt n p x).2.1 ∧ (pIt0 tt n p x).2.1 ≤ n := by
    unfold pIt0
    split
    · unfold pPl
      split
      · simp
      · split
        · intro _; have := tkE_gt e1.2.1 (show tkT tt n (tkE tt n p) ≠ 300 by omega); simp only; omega
        · simp
    · split
      · unfold pFl
        split
        · have e2 := tkE_gt e1.2.1 (show tkT tt n (tkE tt n p) ≠ 300 by omega)
          split
          · have e3 := tkE_gt e2.2.1 (show tkT tt n (tkE tt n (tkE tt n p)) ≠ 300 by omega)
            split
            · intro _; have := tkE_gt e3.2.1 (show tkT tt n (tkE tt n (tkE tt n (tkE tt n p))) ≠ 300 by omega); simp only; omega
            · simp
          · simp
        · simp
      · split
        · unfold pCd
          split
          · simp
          · have q := cdf_le (tt := tt) (n := n) 4 0 (tkE tt n p) (fun _ => 0) e1.2.1
            split
            · simp
            · intro _; simp only; omega
        · simp
  unfold pIt at h ⊢
  split
  · rename_i h1
    have k := key h1
    rw [if_pos h1] at h
    unfold pEnd at h ⊢
    split
    · rename_i h2
      have := tkE_gt k.2 (show tkT tt n (pIt0 tt n p x).2.1 ≠ 300 by omega)
      simp only; omega
    · rename_i h2
      rw [if_neg h2] at h; simp at h
  · rename_i h1
    rw [if_neg h1] at h
    exact absurd h h1
/-- the reader's draft holds what was told -/
def DR (V : wV) (rd db dc dz dk : Nat) (y : aP) : Prop := FG V dc dz y.1 y.2.1 ∧ BK V db dk y.2.2.1 y.2.2.2.1 y.2.2.2.2.1 ∧ V db 4 = nI (if y.2.2.2.2.2 = 0 then 5 else y.2.2.2.2.2) ∧ V rd 2 = bI (decide (y.2.2.2.2.2 ≠ 0)) ∧ y.2.2.2.2.2 ≤ 7
theorem DR.of {V V' : wV} {rd db dc dz dk : Nat} {y : aP} (h : DR V rd db dc dz dk y) (h1 : V' rd = V rd) (h2 : V' db = V db) (h3 : V' dc = V dc) (h4 : V' dz = V dz) (h5 : V' dk = V dk) : DR V' rd db dc dz dk y := by
  unfold DR FG BK; rw [h1, h2, h3, h4, h5]; exact h
theorem TX.of {V V' : wV} {x ta n : Nat} {tt : Nat → Nat} (h : TX V x ta n tt) (h1 : V' x 1 = nI n) (h2 : V' ta = V ta) : TX V' x ta n tt := by
  unfold TX; rw [h1, h2]; exact ⟨rfl, h.2⟩
theorem AT.of {V V' : wV} {x n p : Nat} {tt : Nat → Nat} (h : AT V x n tt p) (h1 : V' x = V x) : AT V' x n tt p := by
  unfold AT; rw [h1]; exact h
theorem ctk_ne {t : Nat} (h : t < 256) : ctk t = nI t := by unfold ctk; rw [if_neg (by omega), if_neg (by omega)]
theorem c_X3_take {E : wE} {S : List wK} {ad : Nat → Nat} {V : wV} {rd x ta db : Nat} (hR : S[rd]? = some (.inl (3, [some (some db), some (some x), none]))) (hX : S[x]? = some (.inl (7, [some (some ta), none, none, none, none]))) (hta : S[ta]? = some (.inr (.inl (false, 120)))) {n : Nat} {tt : Nat → Nat} (t0 : TX V x ta n tt) {p : Nat} (hp : p ≤ n) (at0 : AT V x n tt p) {z lo hi : Nat} (hz : z + hi < 256) (hlo : lo ≤ hi) : w_C E mX3_take (w_R 2 0 0) 0 0 [.ref (ad (rd)), .int (nI (z)), .int (nI (lo)), .int (nI (hi))] S ad V (w_i S ad (fun r V' => (z + lo ≤ tkT tt n p ∧ tkT tt n p ≤ z + hi ∧ r = nI (tkT tt n p - z) ∧ TX V' x ta n tt ∧ AT V' x n tt (tkE tt n p) ∧ ∀ j, j ≠ x → V' j = V j) ∨ (¬ (z + lo ≤ tkT tt n p ∧ tkT tt n p ≤ z + hi) ∧ r = -9 ∧ V' = V))) := by
  refine w_C.of (by decide) (Nat.le_of_ble_eq_true rfl) ?_
  show Wp _ _ _ _ _ _ _ _ _ [(0, .ref (ad (rd))), (1, .int (nI (z))), (2, .int (nI (lo))), (3, .int (nI (hi)))] [] S ad V
  have hxa : ta ≠ x := w_ne hta hX (by simp)
  have hT := tkT_le (p := p) (fun k hk => (t0.2.2 k hk).2)
  have hci := ctk_toInt hT.1
  have hzi : (nI z).toInt = z := nI_toInt (by omega)
  have hsub : (ctk (tkT tt n p) - nI z).toInt = (if tkT tt n p = 300 then -1 else if tkT tt n p = 301 then -2 else (tkT tt n p : Int)) - z := by
    rw [w_sub_toInt, hci, hzi]
    · rw [hci, hzi]; split
      · omega
      · split <;> omega
    · rw [hci, hzi]; split
      · omega
      · split <;> omega
  obtain ⟨D, hD⟩ : ∃ D : Int, D = (if tkT tt n p = 300 then -1 else if tkT tt n p = 301 then -2 else (tkT tt n p : Int)) - z := ⟨_, rfl⟩
  rw [← hD] at hsub
  have hD2 : (tkT tt n p < 256 ∧ D = (tkT tt n p : Int) - z) ∨ (300 ≤ tkT tt n p ∧ D < 0) := by
    rcases hT.2 with q | q | q
    · left; rw [if_neg (by omega), if_neg (by omega)] at hD; exact ⟨q, hD⟩
    · right; rw [if_pos q] at hD; omega
    · right; rw [if_neg (by omega), if_pos q] at hD; omega
  refine Wp_aload_n dX3_take_0 rfl 0 rfl ?_
  refine Wp_getr fk_X3_9 hR rfl dX3_take_1 ?_
  refine Wp_get (x := (ctk (tkT tt n p))) fk_X3_34 hX rfl at0.1 dX3_take_4 ?_
  refine Wp_iload_n dX3_take_7 rfl 1 rfl ?_
  refine Wp_isub (z := (((ctk (tkT tt n p)) - (nI (z))))) dX3_take_8 rfl ?_
  refine Wp_istore (lv' := [(4, .int (((ctk (tkT tt n p)) - (nI (z))))), (0, .ref (ad (rd))), (1, .int (nI (z))), (2, .int (nI (lo))), (3, .int (nI (hi)))]) dX3_take_9 (by decide) rfl ?_
  refine Wp_iload dX3_take_11 0 rfl ?_
  refine Wp_iload_n dX3_take_13 rfl 3 rfl ?_
  refine Wp_icmp_lt (tgt := 23) dX3_take_14 (by decide) (hsub) (nI_toInt (by omega)) (fun c_14 => ?_) (fun c_14 => ?_)
  · refine Wp_bipush (v := ((-9))) dX3_take_23 (by decide) ?_
    exact Wp_iret rfl ⟨rfl, rfl, _, rfl, Or.inr ⟨by omega, rfl, rfl⟩⟩ (Nat.le_refl _) (Nat.le_refl _) dX3_take_25
  · refine Wp_iload dX3_take_17 0 rfl ?_
    refine Wp_iload_n dX3_take_19 rfl 4 rfl ?_
    refine Wp_icmp_le (tgt := 26) dX3_take_20 (by decide) (hsub) (nI_toInt (by omega)) (fun c_20 => ?_) (fun c_20 => ?_)
    · have h256 : tkT tt n p < 256 := by omega
      have hb := at0.2.2 (by omega)
      refine Wp_aload_n dX3_take_26 rfl 1 rfl ?_
      refine Wp_getr fk_X3_9 hR rfl dX3_take_27 ?_
      refine Wp_callVv (c_X7_step hX hta t0 (tkE_le hp (by omega)) hb) YV_X7_step ml_X3_58 hX rfl dX3_take_30 (by omega) (by decide) (by omega) (by omega) rfl rfl (Nat.le_of_ble_eq_true rfl) (fun V1 hV1 => ?_)
      refine Wp_iload dX3_take_33 0 rfl ?_
      exact Wp_iret rfl ⟨rfl, rfl, _, rfl, Or.inl ⟨by omega, by omega, by rw [ctk_ne h256, pk_sub (by omega)], t0.of hV1.2.1 (hV1.2.2 ta hxa), hV1.1, hV1.2.2⟩⟩ (Nat.le_refl _) (Nat.le_refl _) dX3_take_35
    · refine Wp_bipush (v := ((-9))) dX3_take_23 (by decide) ?_
      exact Wp_iret rfl ⟨rfl, rfl, _, rfl, Or.inr ⟨by omega, rfl, rfl⟩⟩ (Nat.le_refl _) (Nat.le_refl _) dX3_take_25
theorem DR.step {V V' : wV} {rd db dc dz dk x : Nat} {y : aP} (h : DR V rd db dc dz dk y) (n1 : rd ≠ x) (n2 : db ≠ x) (n3 : dc ≠ x) (n4 : dz ≠ x) (n5 : dk ≠ x) (fr : ∀ j, j ≠ x → V' j = V j) : DR V' rd db dc dz dk y := h.of (fr _ n1) (fr _ n2) (fr _ n3) (fr _ n4) (fr _ n5)
