/-! CLASS AND REFERENCE ANSWER ALIKE: what is only counted -/
def DIS (nb : Nat) (ln : Nat → Nat) (lt : Nat → Nat → Nat) : Prop := ∀ s t, s < t → t < nb → ¬ (ln s = ln t ∧ ∀ i, i < ln t → lt s i = lt t i)
def WFC (nb : Nat) (ln : Nat → Nat) (lt : Nat → Nat → Nat) : Prop := ∀ s, s < nb → 1 ≤ ln s ∧ ln s ≤ 4 ∧ ∀ i, i < ln s → lt s i < 8
theorem WFC.dg {nb : Nat} {ln : Nat → Nat} {lt : Nat → Nat → Nat} (h : WFC nb ln lt) {s : Nat} (hs : s < nb) (i : Nat) : dg ln lt s i ≤ 8 := by
  unfold Jvm.Pilot.CFlagHoistsLaw_law_r3175_6896d3.dg
  split
  · rename_i q
    have := (h s hs).2.2 i q; omega
  · omega
theorem dg_inj {nb : Nat} {ln : Nat → Nat} {lt : Nat → Nat → Nat} (h : WFC nb ln lt) (d : DIS nb ln lt) {s t : Nat} (hs : s < nb) (ht : t < nb) (e : ∀ i, i < 4 → dg ln lt s i = dg ln lt t i) : s = t := by
  have hS := h s hs
  have hT := h t ht
  have hl : ln s = ln t := by
    rcases Nat.lt_trichotomy (ln s) (ln t) with q | q | q
    · have := e (ln s) (by omega); unfold dg at this; rw [if_neg (by omega), if_pos q] at this; omega
    · exact q
    · have := e (ln t) (by omega); unfold dg at this; rw [if_pos q, if_neg (by omega)] at this; omega
  have hg : ∀ i, i < ln t → lt s i = lt t i := fun i hi => by
    have := e i (by omega); unfold dg at this; rw [if_pos (by omega), if_pos hi] at this; omega
  rcases Nat.lt_trichotomy s t with q | q | q
  · exact absurd ⟨hl, hg⟩ (d s t q ht)
  · exact q
  · exact absurd ⟨hl.symm, fun i hi => (hg i (by omega)).symm⟩ (d t s q hs)
theorem ord_eq {d e : Nat → Nat} (hd : ∀ i, d i ≤ 8) (he : ∀ i, e i ≤ 8) : pkd d < pkd e ↔ nin d < nin e := by
  have a0 := hd 0; have a1 := hd 1; have a2 := hd 2; have a3 := hd 3
  have b0 := he 0; have b1 := he 1; have b2 := he 2; have b3 := he 3
  simp only [pkd, nin, nac]
  generalize d 0 = x0 at *; generalize d 1 = x1 at *; generalize d 2 = x2 at *; generalize d 3 = x3 at *
  generalize e 0 = y0 at *; generalize e 1 = y1 at *; generalize e 2 = y2 at *; generalize e 3 = y3 at *
  clear hd he
  rcases Nat.lt_trichotomy x0 y0 with q | q | q
  · constructor <;> intro _ <;> omega
  · subst q
    rcases Nat.lt_trichotomy x1 y1 with q | q | q
    · constructor <;> intro _ <;> omega
    · subst q
      rcases Nat.lt_trichotomy x2 y2 with q | q | q
      · constructor <;> intro _ <;> omega
      · subst q; constructor <;> intro _ <;> omega
      · constructor <;> intro _ <;> omega
    · constructor <;> intro _ <;> omega
  · constructor <;> intro _ <;> omega
theorem nin_dig {d e : Nat → Nat} (hd : ∀ i, d i ≤ 8) (he : ∀ i, e i ≤ 8) (h : nin d = nin e) : ∀ i, i < 4 → d i = e i := by
  have a0 := hd 0; have a1 := hd 1; have a2 := hd 2; have a3 := hd 3
  have b0 := he 0; have b1 := he 1; have b2 := he 2; have b3 := he 3
  simp only [nin, nac] at h
  intro i hi
  rcases (show i = 0 ∨ i = 1 ∨ i = 2 ∨ i = 3 by omega) with rfl | rfl | rfl | rfl <;> omega
theorem nin_first {d e : Nat → Nat} (hd : ∀ i, d i ≤ 8) (h : d 0 < e 0) : nin d < nin e := by
  have a1 := hd 1; have a2 := hd 2; have a3 := hd 3
  simp only [nin, nac]; omega
theorem rkd_congr {f g : Nat → Nat} {x y : Nat} (n : Nat) (h : ∀ t, t < n → (f t < x ↔ g t < y)) : rkd f x n = rkd g y n := by
  induction n with
  | zero => rfl
  | succ n ih =>
    simp only [rkd]
    rw [ih (fun t ht => h t (by omega))]
    by_cases q : f n < x
    · rw [if_pos q, if_pos ((h n (by omega)).mp q)]
    · rw [if_neg q, if_neg (fun w => q ((h n (by omega)).mpr w))]
theorem rkd_mono {f : Nat → Nat} {x y : Nat} (n : Nat) (h : x ≤ y) : rkd f x n ≤ rkd f y n := by
  induction n with
  | zero => exact Nat.le_refl _
  | succ n ih =>
    simp only [rkd]
    by_cases q : f n < x
    · rw [if_pos q, if_pos (by omega)]; omega
    · rw [if_neg q]; omega
theorem rkd_lt {f : Nat → Nat} {x y u : Nat} (n : Nat) (hu : u < n) (h : x ≤ y) (h2 : ¬ f u < x) (h3 : f u < y) : rkd f x n < rkd f y n := by
  induction n with
  | zero => omega
  | succ n ih =>
    simp only [rkd]
    by_cases z : u = n
    · subst z
      have := rkd_mono (f := f) u h
      rw [if_neg h2, if_pos h3]; omega
    · have := ih (by omega)
      by_cases q : f n < x
      · rw [if_pos q, if_pos (by omega)]; omega
      · rw [if_neg q]; omega
theorem rkd_self {f : Nat → Nat} {x u : Nat} (n : Nat) (hu : u < n) (h2 : ¬ f u < x) : rkd f x n < n := by
  induction n with
  | zero => omega
  | succ n ih =>
    simp only [rkd]
    by_cases z : u = n
    · subst z
      have := rkd_le f x u
      rw [if_neg h2]; omega
    · have := ih (by omega)
      split <;> omega
theorem rkd_all {f : Nat → Nat} {x : Nat} (n : Nat) (h : ∀ t, t < n → f t < x) : rkd f x n = n := by
  induction n with
  | zero => rfl
  | succ n ih => simp only [rkd]; rw [ih (fun t ht => h t (by omega)), if_pos (h n (by omega))]
theorem rkF_uniq {f : Nat → Nat} {nb : Nat} {k : Int} {F G : Nat} (inj : ∀ s t, s < nb → t < nb → f s = f t → s = t) (h : rkF f nb k F nb) (h' : rkF f nb k G nb) : F = G := by
  rcases h with ⟨a1, a2⟩ | ⟨a1, a2, a3⟩ <;> rcases h' with ⟨b1, b2⟩ | ⟨b1, b2, b3⟩
  · omega
  · exact absurd b3 (a2 (G - 1) (by omega))
  · exact absurd a3 (b2 (F - 1) (by omega))
  · have e : rkd f (f (F - 1)) nb = rkd f (f (G - 1)) nb := by omega
    have : F - 1 = G - 1 := inj _ _ (by omega) (by omega) (by
      rcases Nat.lt_trichotomy (f (F - 1)) (f (G - 1)) with q | q | q
      · have := rkd_lt (f := f) (u := F - 1) nb (by omega) (Nat.le_of_lt q) (Nat.lt_irrefl _) q; omega
      · exact q
      · have := rkd_lt (f := f) (u := G - 1) nb (by omega) (Nat.le_of_lt q) (Nat.lt_irrefl _) q; omega)
    omega
theorem nin_inj {nb : Nat} {ln : Nat → Nat} {lt : Nat → Nat → Nat} (h : WFC nb ln lt) (d : DIS nb ln lt) : ∀ s t, s < nb → t < nb → nin (dg ln lt s) = nin (dg ln lt t) → s = t := fun _ _ hs ht e => dg_inj h d hs ht (nin_dig (h.dg hs) (h.dg ht) e)
theorem rkF_tr {nb : Nat} {ln : Nat → Nat} {lt : Nat → Nat → Nat} (h : WFC nb ln lt) {k : Int} {F : Nat} (r : rkF (fun t => pkd (dg ln lt t)) nb k F nb) : rkF (fun t => nin (dg ln lt t)) nb k F nb := by
  have e : ∀ u, u < nb → rkd (fun t => pkd (dg ln lt t)) (pkd (dg ln lt u)) nb = rkd (fun t => nin (dg ln lt t)) (nin (dg ln lt u)) nb := fun u hu => rkd_congr nb (fun t ht => ord_eq (h.dg ht) (h.dg hu))
  rcases r with ⟨a1, a2⟩ | ⟨a1, a2, a3⟩
  · exact Or.inl ⟨a1, fun u hu => by have := a2 u hu; rw [e u hu] at this; exact this⟩
  · exact Or.inr ⟨a1, a2, by rw [e (F - 1) (by omega)] at a3; exact a3⟩
theorem ffd_rk {nb : Nat} {ln : Nat → Nat} {lt : Nat → Nat → Nat} (h : WFC nb ln lt) {L F : Nat} (r : ffd ln lt L F nb) : rkF (fun t => nin (dg ln lt t)) nb (rkd (fun t => lt t 0) L nb : Int) F nb := by
  have d0 : ∀ u, u < nb → dg ln lt u 0 = lt u 0 + 1 := fun u hu => by unfold dg; rw [if_pos (by have := (h u hu).1; omega)]
  rcases r with ⟨a1, a2⟩ | ⟨a1, a2, a3, a4⟩
  · refine Or.inl ⟨a1, fun u hu => ?_⟩
    have e := rkd_all (f := fun t => lt t 0) (x := L) nb a2
    have := rkd_self (f := fun t => nin (dg ln lt t)) (x := nin (dg ln lt u)) (u := u) nb hu (Nat.lt_irrefl _)
    intro w
    have w : ((rkd (fun t => nin (dg ln lt t)) (nin (dg ln lt u)) nb : Nat) : Int) = ((rkd (fun t => lt t 0) L nb : Nat) : Int) := w
    omega
  · refine Or.inr ⟨a1, a2, ?_⟩
    have hv : F - 1 < nb := by omega
    have e : rkd (fun t => nin (dg ln lt t)) (nin (dg ln lt (F - 1))) nb = rkd (fun t => lt t 0) L nb := by
      refine rkd_congr nb (fun t ht => ⟨fun w => ?_, fun w => ?_⟩)
      · rcases Nat.lt_or_ge (lt t 0) L with q | q
        · exact q
        · have := (ord_eq (h.dg ht) (h.dg hv)).mpr w
          have := a4 t ht q
          omega
      · exact nin_first (h.dg ht) (by rw [d0 t ht, d0 _ hv]; omega)
    exact congrArg (fun z : Nat => (z : Int)) e
/-! a told book has no code twice -/
theorem DIS_adc {x : aP} {L : Nat} {g : Nat → Nat} (d : DIS x.2.2.1 x.2.2.2.1 x.2.2.2.2.1) (h : ¬ sme x L g = true) : DIS (adc x L g).2.2.1 (adc x L g).2.2.2.1 (adc x L g).2.2.2.2.1 := by
  intro s t hst ht
  have ht : t < x.2.2.1 + 1 := ht
  show ¬ (va_up x.2.2.2.1 x.2.2.1 L s = va_up x.2.2.2.1 x.2.2.1 L t ∧ ∀ i, i < va_up x.2.2.2.1 x.2.2.1 L t → va_up x.2.2.2.2.1 x.2.2.1 g s i = va_up x.2.2.2.2.1 x.2.2.1 g t i)
  have es : s ≠ x.2.2.1 := by omega
  have e1 : va_up x.2.2.2.1 x.2.2.1 L s = x.2.2.2.1 s := if_neg es
  have e2 : va_up x.2.2.2.2.1 x.2.2.1 g s = x.2.2.2.2.1 s := if_neg es
  by_cases q : t = x.2.2.1
  · have e3 : va_up x.2.2.2.1 x.2.2.1 L t = L := if_pos q
    have e4 : va_up x.2.2.2.2.1 x.2.2.1 g t = g := if_pos q
    rw [e1, e2, e3, e4]
    intro w
    exact h (decide_eq_true ⟨s, by omega, w.1, w.2⟩)
  · have e3 : va_up x.2.2.2.1 x.2.2.1 L t = x.2.2.2.1 t := if_neg q
    have e4 : va_up x.2.2.2.2.1 x.2.2.1 g t = x.2.2.2.2.1 t := if_neg q
    rw [e1, e2, e3, e4]
    exact d s t hst (by omega)
theorem DIS_pIt0 {tt : Nat → Nat} {n p : Nat} {x : aP} (d : DIS x.2.2.1 x.2.2.2.1 x.2.2.2.2.1) : DIS (pIt0 tt n p x).2.2.2.2.1 (pIt0 tt n p x).2.2.2.2.2.1 (pIt0 tt n p x).2.2.2.2.2.2.1 := by
  unfold pIt0
  split
  · unfold pPl
    split
    · exact d
    · split <;> exact d
  · split
    · unfold pFl
      split
      · split
        · split <;> exact d
        · exact d
      · exact d
    · split
      · unfold pCd
        split
        · exact d
        · split
          · exact d
          · rename_i q
            exact DIS_adc d (fun w => q (Or.inr w))
      · exact d
theorem DIS_pIt {tt : Nat → Nat} {n p : Nat} {x : aP} (d : DIS x.2.2.1 x.2.2.2.1 x.2.2.2.2.1) : DIS (pIt tt n p x).2.2.2.2.1 (pIt tt n p x).2.2.2.2.2.1 (pIt tt n p x).2.2.2.2.2.2.1 := by
  unfold pIt
  split
  · unfold pEnd
    split <;> exact DIS_pIt0 d
  · exact DIS_pIt0 d
theorem DIS_pAll {tt : Nat → Nat} {n : Nat} (f : Nat) : ∀ (i p : Nat) (x : aP), DIS x.2.2.1 x.2.2.2.1 x.2.2.2.2.1 → DIS (pAll tt n f i p x).2.2.2.2.2.1 (pAll tt n f i p x).2.2.2.2.2.2.1 (pAll tt n f i p x).2.2.2.2.2.2.2.1 := by
  induction f with
  | zero => intro i p x d; exact d
  | succ f ih =>
    intro i p x d
    simp only [pAll]
    split
    · exact d
    · split
      · exact ih _ _ _ (DIS_pIt d)
      · exact d
/-! answers out of the one best cut -/
theorem thR_eq {lw : Nat → Nat → Bool} {n H H' : Nat} {st st' : Nat → Nat} {md md' : Bool} (h : CUTS lw n md H st) (h' : CUTS lw n md' H' st') {k i : Int32} {G : Nat → Nat → aH} : thR k i (G (st (cn k)) (st (cn k + 1))) md H = thR k i (G (st' (cn k)) (st' (cn k + 1))) md' H' := by
  obtain ⟨rfl, rfl, e⟩ := CUTS_uniq h h'
  unfold thR
  by_cases q : md = true ∧ cn k < H
  · rw [if_pos q, if_pos q, e q.1 (cn k) (by omega), e q.1 (cn k + 1) (by omega)]
  · rw [if_neg q, if_neg q]
theorem hoR_eq {lw : Nat → Nat → Bool} {n H H' : Nat} {st st' : Nat → Nat} {md md' : Bool} (h : CUTS lw n md H st) (h' : CUTS lw n md' H' st') {k w : Int32} {G : Nat → Nat → aH} : hoR k w (G (st (cn k)) (st (cn k + 1))) md H st = hoR k w (G (st' (cn k)) (st' (cn k + 1))) md' H' st' := by
  obtain ⟨rfl, rfl, e⟩ := CUTS_uniq h h'
  unfold hoR
  by_cases q : md = true ∧ cn k < H
  · rw [if_pos q, if_pos q, e q.1 (cn k) (by omega), e q.1 (cn k + 1) (by omega)]
  · rw [if_neg q, if_neg q]
theorem mnR_eq {lw : Nat → Nat → Bool} {n H H' : Nat} {st st' : Nat → Nat} {md md' : Bool} (h : CUTS lw n md H st) (h' : CUTS lw n md' H' st') {k : Int32} {G : Nat → Nat → Nat} : mnR k (G (st (cn k)) (st (cn k + 1) - st (cn k))) md H = mnR k (G (st' (cn k)) (st' (cn k + 1) - st' (cn k))) md' H' := by
  obtain ⟨rfl, rfl, e⟩ := CUTS_uniq h h'
  unfold mnR
  by_cases q : md = true ∧ cn k < H
  · rw [if_pos q, if_pos q, e q.1 (cn k) (by omega), e q.1 (cn k + 1) (by omega)]
  · rw [if_neg q, if_neg q]
theorem thg_eq {lw : Nat → Nat → Bool} {n H H' : Nat} {st st' : Nat → Nat} {md md' : Bool} (h : CUTS lw n md H st) (h' : CUTS lw n md' H' st') {pl : Nat} {ln : Nat → Nat} {lt : Nat → Nat → Nat} {row : Nat → Nat} {K : Nat} : thg pl ln lt row md H st K = thg pl ln lt row md' H' st' K := by
  obtain ⟨rfl, rfl, e⟩ := CUTS_uniq h h'
  unfold thg
  by_cases q : md = true ∧ K < H
  · rw [if_pos q, if_pos q, e q.1 K (by omega), e q.1 (K + 1) (by omega)]
  · rw [if_neg q, if_neg q]
theorem UNB_uniq {sg : aSig} {ln : Nat → Nat} {lt : Nat → Nat → Nat} {q : Nat} {sk sv : Nat → Nat} {p : Nat} {b c : Bool} (h : UNB sg ln lt q sk sv p b) (h' : UNB sg ln lt q sk sv p c) : b = c := by
  obtain ⟨md, H, st, cu, rfl⟩ := h
  obtain ⟨md', H', st', cu', rfl⟩ := h'
  have e := (CUTS_uniq cu cu').1
  have t : ∀ K, thg sg.2.2.1 ln lt (del sg.1 p) md H st K = thg sg.2.2.1 ln lt (del sg.1 p) md' H' st' K := fun K => thg_eq cu cu'
  rw [← e]
  congr 1
  apply decide_eq_decide.mpr
  constructor
  · intro w i hi; rw [e, ← t]; exact w i hi
  · intro w i hi; have := w i hi; rw [e, ← t] at this; exact this
