/-! THE BEST CUT: all ways to cut, and the fewest -/
theorem hLet_sz {pl : Nat} {h g : aH} {x : Nat} (e : hLet pl h x = some g) : g.2.1 = h.2.1 + 1 ∧ g.2.1 ≤ pl := by
  unfold hLet at e
  split at e
  · split at e
    · cases e
    · split at e
      · cases e
      · cases e; exact ⟨rfl, by show h.2.1 + 1 ≤ pl; omega⟩
  · split at e
    · cases e
    · cases e; exact ⟨rfl, by show h.2.1 + 1 ≤ pl; omega⟩
theorem hLs_sz {pl : Nat} {lt : Nat → Nat} (f : Nat) : ∀ (i : Nat) (h g : aH), hLs pl lt f i h = some g → g.2.1 = h.2.1 + f ∧ (0 < f → g.2.1 ≤ pl) := by
  induction f with
  | zero => intro i h g e; cases e; exact ⟨rfl, fun q => by omega⟩
  | succ f ih =>
    intro i h g e
    have e : (hLet pl h (lt i)).bind (hLs pl lt f (i + 1)) = some g := e
    cases q : hLet pl h (lt i) with
    | none => rw [q] at e; cases e
    | some w =>
      rw [q] at e
      have a := hLet_sz q
      have b := ih (i + 1) w g e
      refine ⟨by omega, fun _ => ?_⟩
      rcases Nat.eq_zero_or_pos f with z | z
      · omega
      · exact b.2 z
theorem hCode_sz {pl s : Nat} {ln : Nat → Nat} {lt : Nat → Nat → Nat} {h g : aH} (h1 : 1 ≤ ln s) (e : hCode pl ln lt s h = some g) : ln s ≤ g.2.1 ∧ g.2.1 ≤ pl := by
  unfold hCode at e
  cases q : (if h.2.1 = 0 then some h else hTac pl h) with
  | none => rw [q] at e; cases e
  | some w =>
    rw [q] at e
    have := hLs_sz _ _ _ _ e
    omega
theorem hRw_ln {pl : Nat} {ln : Nat → Nat} {lt : Nat → Nat → Nat} {row : Nat → Nat} (f : Nat) : ∀ (i : Nat) (h g : aH), (∀ j, i ≤ j → j < i + f → 1 ≤ ln (row j)) → hRw pl ln lt row f i h = some g → ∀ j, i ≤ j → j < i + f → ln (row j) ≤ pl := by
  induction f with
  | zero => intro i h g _ _ j a b; omega
  | succ f ih =>
    intro i h g h1 e j a b
    have e : (hCode pl ln lt (row i) h).bind (hRw pl ln lt row f (i + 1)) = some g := e
    cases q : hCode pl ln lt (row i) h with
    | none => rw [q] at e; cases e
    | some w =>
      rw [q] at e
      rcases Nat.eq_or_lt_of_le a with z | z
      · subst z; have := hCode_sz (h1 i (by omega) (by omega)) q; omega
      · exact ih (i + 1) w g (fun t c d => h1 t (by omega) (by omega)) e j (by omega) (by omega)
/-- each substitute shown has a later letter like it -/
def Qs (h : aH) : Prop := ∀ i, h.2.2.2.2.1 i = true → ∃ j, i < j ∧ j < h.2.2.2.1 ∧ h.2.2.1 j = h.2.2.1 i
theorem lastOcc {le : Nat → Nat} {x : Nat} (lc : Nat) (h : ∃ i, i < lc ∧ le i = x) : ∃ i, i < lc ∧ le i = x ∧ ∀ j, i < j → j < lc → le j ≠ x := by
  induction lc with
  | zero => obtain ⟨i, a, _⟩ := h; omega
  | succ lc ih =>
    by_cases z : le lc = x
    · exact ⟨lc, by omega, z, fun j a b => by omega⟩
    · obtain ⟨i, a, b⟩ := h
      have hi : i ≠ lc := fun q => by subst q; exact z b
      obtain ⟨k, c, d, e⟩ := ih ⟨i, by omega, b⟩
      refine ⟨k, by omega, d, fun j f g => ?_⟩
      rcases Nat.lt_or_ge j lc with y | y
      · exact e j f y
      · rw [show j = lc by omega]; exact z
theorem fsb_pos {le : Nat → Nat} {lc : Nat} {us : Nat → Bool} {x k : Nat} (hk : k < 3) (h : fsc le lc us x k = true) : fsb le lc us x ≠ 0 := by
  unfold fsb
  rcases (show k = 0 ∨ k = 1 ∨ k = 2 by omega) with rfl | rfl | rfl
  · rw [if_pos h]; omega
  · split
    · omega
    · first | omega | (rw [if_pos h]; omega)
  · split
    · omega
    · split
      · omega
      · first | omega | (rw [if_pos h]; omega)
theorem fsb_is {le : Nat → Nat} {lc : Nat} {us : Nat → Bool} {x : Nat} (h : fsb le lc us x ≠ 0) : fsc le lc us x (fsb le lc us x - 1) = true := by
  unfold fsb at h ⊢
  split
  · assumption
  · split
    · assumption
    · split
      · assumption
      · rename_i a b c; rw [if_neg a, if_neg b, if_neg c] at h; omega
theorem hLet_Q {pl : Nat} {h : aH} {x : Nat} (q : Qs h) (h3 : h.2.2.2.1 ≤ 3) (hp : h.2.1 < pl) : ∃ g, hLet pl h x = some g ∧ Qs g ∧ g.2.1 = h.2.1 + 1 ∧ g.2.2.2.1 = h.2.2.2.1 + 1 := by
  unfold hLet
  by_cases z : isth h.2.2.1 h.2.2.2.1 x = true
  · rw [if_pos z]
    obtain ⟨i, a, b, c⟩ := lastOcc _ (of_decide_eq_true z)
    have hu : h.2.2.2.2.1 i = false := by
      cases u : h.2.2.2.2.1 i with
      | false => rfl
      | true => obtain ⟨j, d, e, f⟩ := q i u; exact absurd (f.trans b) (c j d e)
    have hF := fsb_pos (k := i) (by omega) (fsc_t a b hu)
    rw [if_neg hF, if_neg (by omega)]
    refine ⟨_, rfl, fun k hk => ?_, rfl, rfl⟩
    have h4 := fsb_is hF
    simp only [fsc, Bool.and_eq_true, decide_eq_true_eq] at h4
    by_cases y : k = fsb h.2.2.1 h.2.2.2.1 h.2.2.2.2.1 x - 1
    · refine ⟨h.2.2.2.1, by omega, by show _ < h.2.2.2.1 + 1; omega, ?_⟩
      simp only [va_up, if_true]
      rw [if_neg (by omega), y]; exact h4.2.1.symm
    · have hk : va_up h.2.2.2.2.1 (fsb h.2.2.1 h.2.2.2.1 h.2.2.2.2.1 x - 1) true k = true := hk
      simp only [va_up, if_neg y] at hk
      obtain ⟨j, d, e, f⟩ := q k hk
      refine ⟨j, d, by show j < h.2.2.2.1 + 1; omega, ?_⟩
      simp only [va_up]; rw [if_neg (by omega), if_neg (by omega)]; exact f
  · rw [if_neg z, if_neg (by omega)]
    refine ⟨_, rfl, fun k hk => ?_, rfl, rfl⟩
    obtain ⟨j, d, e, f⟩ := q k hk
    refine ⟨j, d, by show j < h.2.2.2.1 + 1; omega, ?_⟩
    simp only [va_up]; rw [if_neg (by omega), if_neg (by omega)]; exact f
theorem hLs_Q {pl : Nat} {lt : Nat → Nat} (f : Nat) : ∀ (i : Nat) (h : aH), Qs h → h.2.2.2.1 + f ≤ 4 → h.2.1 + f ≤ pl → (hLs pl lt f i h).isSome = true := by
  induction f with
  | zero => intro i h _ _ _; rfl
  | succ f ih =>
    intro i h q a b
    obtain ⟨g, e, qg, e1, e2⟩ := hLet_Q (x := lt i) q (by omega) (show h.2.1 < pl by omega)
    show ((hLet pl h (lt i)).bind (hLs pl lt f (i + 1))).isSome = true
    rw [e]; exact ih (i + 1) g qg (by omega) (by omega)
/-- one sentence of a lawful hoist is lawful alone -/
theorem law_one {pl : Nat} {ln : Nat → Nat} {lt : Nat → Nat → Nat} {row : Nat → Nat} {a i b : Nat} (hl : ∀ j, a ≤ j → j < b → 1 ≤ ln (row j) ∧ ln (row j) ≤ 4) (h : law pl ln lt row a b = true) (h1 : a ≤ i) (h2 : i < b) : law pl ln lt row i (i + 1) = true := by
  have hp : ln (row i) ≤ pl := by
    cases q : hRw pl ln lt row (b - a) a h0H with
    | none => unfold law at h; rw [q] at h; cases h
    | some g => exact hRw_ln (b - a) a h0H g (fun j c d => (hl j c (by omega)).1) q i h1 (by omega)
  unfold law
  rw [show i + 1 - i = 1 by omega]
  show ((hCode pl ln lt (row i) h0H).bind (fun w => some w)).isSome = true
  have e : hCode pl ln lt (row i) h0H = hLs pl (lt (row i)) (ln (row i)) 0 h0H := by unfold hCode; rw [if_pos (show h0H.2.1 = 0 from rfl)]; rfl
  have s := hLs_Q (pl := pl) (lt := lt (row i)) (ln (row i)) 0 h0H (fun k hk => (by cases hk)) (by have := (hl i h1 h2).2; show 0 + _ ≤ 4; omega) (by show 0 + _ ≤ pl; omega)
  rw [e]
  cases q : hLs pl (lt (row i)) (ln (row i)) 0 h0H with
  | none => rw [q] at s; cases s
  | some g => rfl
/-- the best next cut there is -/
theorem bst_ex {lw : Nat → Nat → Bool} {f : Nat → Nat} {i : Nat} (h1 : lw i (i + 1) = true) : ∀ d, ∃ F X, BEST lw f (i + 1 + d) i F X := by
  intro d
  induction d with
  | zero => exact ⟨f (i + 1) + 1, i + 1, by omega, by omega, h1, rfl, fun e a b _ => by rw [show e = i + 1 by omega]; omega⟩
  | succ d ih =>
    obtain ⟨F, X, a1, a2, a3, a4, a5⟩ := ih
    by_cases z : lw i (i + 1 + (d + 1)) = true ∧ f (i + 1 + (d + 1)) + 1 ≤ F
    · refine ⟨f (i + 1 + (d + 1)) + 1, i + 1 + (d + 1), by omega, by omega, z.1, rfl, fun e b1 b2 b3 => ?_⟩
      rcases Nat.lt_or_ge e (i + 1 + (d + 1)) with y | y
      · have := a5 e b1 (by omega) b3; omega
      · rw [show e = i + 1 + (d + 1) by omega]; omega
    · refine ⟨F, X, a1, by omega, a3, a4, fun e b1 b2 b3 => ?_⟩
      rcases Nat.lt_or_ge e (i + 1 + (d + 1)) with y | y
      · exact a5 e b1 (by omega) b3
      · have hy : e = i + 1 + (d + 1) := by omega
        subst hy
        have : ¬ f (i + 1 + (d + 1)) + 1 ≤ F := fun q => z ⟨b3, q⟩
        omega
theorem dp_ex {lw : Nat → Nat → Bool} {n : Nat} (h : MADE lw n = true) : ∃ f nx : Nat → Nat, f n = 0 ∧ ∀ i, i < n → BEST lw f n i (f i) (nx i) := by
  have hm : ∀ i, i < n → lw i (i + 1) = true := of_decide_eq_true h
  have key : ∀ d, ∃ f nx : Nat → Nat, f n = 0 ∧ ∀ i, n ≤ i + d → i < n → BEST lw f n i (f i) (nx i) := by
    intro d
    induction d with
    | zero => exact ⟨fun _ => 0, fun _ => 0, rfl, fun i a b => by omega⟩
    | succ d ih =>
      obtain ⟨f, nx, a1, a2⟩ := ih
      by_cases hd : n < d + 1
      · exact ⟨f, nx, a1, fun i a b => a2 i (by omega) b⟩
      · obtain ⟨i, hi⟩ : ∃ i, n = i + 1 + d := ⟨n - 1 - d, by omega⟩
        obtain ⟨F, X, hB⟩ := bst_ex (f := f) (hm i (by omega)) d
        rw [← hi] at hB
        refine ⟨va_up f i F, va_up nx i X, by simp only [va_up]; rw [if_neg (by omega)]; exact a1, fun j b1 b2 => ?_⟩
        have hc : ∀ j, i ≤ j → ∀ e, j < e → e ≤ n → f e = va_up f i F e := fun j c e d1 d2 => by simp only [va_up]; rw [if_neg (by omega)]
        by_cases z : j = i
        · subst z
          rw [show va_up f j F j = F by simp [va_up], show va_up nx j X j = X by simp [va_up]]
          exact BEST_congr hB (hc j (by omega))
        · rw [show va_up f i F j = f j by simp [va_up, z], show va_up nx i X j = nx j by simp [va_up, z]]
          exact BEST_congr (a2 j (by omega) b2) (hc j (by omega))
  obtain ⟨f, nx, a, b⟩ := key n
  exact ⟨f, nx, a, fun i hi => b i (by omega) hi⟩
theorem cv_len {lw : Nat → Nat → Bool} {n : Nat} {f nx : Nat → Nat} (hf : f n = 0) (hB : ∀ i, i < n → BEST lw f n i (f i) (nx i)) (r : Nat) : ∀ (m i : Nat) (L : List Nat), i < n - r → cv lw n r m i = some L → f i ≤ L.length := by
  induction r with
  | zero =>
    intro m i L hi e
    simp only [cv] at e
    split at e
    · rename_i hl
      cases e
      have := ((hB i (by omega)).2.2.2.2 n (by omega) (by omega) hl).1
      simp only [List.length]; omega
    · cases e
  | succ r ih =>
    intro m i L hi e
    simp only [cv] at e
    split at e
    · split at e
      · rename_i hl
        cases q : cv lw n r (m - 2 ^ r) (n - (r + 1)) with
        | none => rw [q] at e; cases e
        | some L2 =>
          rw [q] at e
          cases e
          have a := ih _ _ _ (by omega) q
          have b := ((hB i (by omega)).2.2.2.2 (n - (r + 1)) (by omega) (by omega) hl).1
          simp only [List.length]; omega
      · cases e
    · exact ih _ _ _ (by omega) e
theorem cv_made {lw : Nat → Nat → Bool} {n : Nat} (hs : ∀ a i b, a ≤ i → i < b → b ≤ n → lw a b = true → lw i (i + 1) = true) (r : Nat) : ∀ (m i : Nat) (L : List Nat), i < n - r → cv lw n r m i = some L → ∀ j, i ≤ j → j < n → lw j (j + 1) = true := by
  induction r with
  | zero =>
    intro m i L hi e j h1 h2
    simp only [cv] at e
    split at e
    · rename_i hl; exact hs i j n h1 h2 (by omega) hl
    · cases e
  | succ r ih =>
    intro m i L hi e j h1 h2
    simp only [cv] at e
    split at e
    · split at e
      · rename_i hl
        cases q : cv lw n r (m - 2 ^ r) (n - (r + 1)) with
        | none => rw [q] at e; cases e
        | some L2 =>
          rcases Nat.lt_or_ge j (n - (r + 1)) with z | z
          · exact hs i j _ h1 z (by omega) hl
          · exact ih _ _ _ (by omega) q j z h2
      · cases e
    · exact ih _ _ _ (by omega) e j h1 h2
def CHL (nx : Nat → Nat) (n : Nat) : Nat → List Nat → Prop
  | i, [] => i = n
  | i, x :: L => i < n ∧ x = nx i ∧ CHL nx n x L
theorem CHL_at {nx : Nat → Nat} {n : Nat} (L : List Nat) : ∀ i, CHL nx n i L → (i :: L).getD L.length 0 = n ∧ ∀ k, k < L.length → (i :: L).getD k 0 < n ∧ (i :: L).getD (k + 1) 0 = nx ((i :: L).getD k 0) := by
  induction L with
  | nil => intro i h; exact ⟨h, fun k hk => absurd hk (Nat.not_lt_zero k)⟩
  | cons x L ih =>
    intro i h
    obtain ⟨h1, h2, h3⟩ := h
    have a := ih x h3
    refine ⟨a.1, fun k hk => ?_⟩
    cases k with
    | zero => exact ⟨h1, h2⟩
    | succ k => exact a.2 k (by simp only [List.length] at hk; omega)
theorem p2_le {a b : Nat} (h : a ≤ b) : 2 ^ a ≤ 2 ^ b := Nat.pow_le_pow_right (by omega) h
theorem cv_best {lw : Nat → Nat → Bool} {n : Nat} {f nx : Nat → Nat} (hf : f n = 0) (hB : ∀ i, i < n → BEST lw f n i (f i) (nx i)) (d : Nat) : ∀ i, n - i ≤ d → i < n → ∃ m L, L.length = f i ∧ CHL nx n i L ∧ m < 2 ^ (n - nx i) ∧ (∀ r, i < n - r → n - r ≤ nx i → cv lw n r m i = some L) ∧ ∀ r m' L', i < n - r → m' < 2 ^ r → cv lw n r m' i = some L' → L'.length = f i → m ≤ m' ∧ (m' ≤ m → L' = L) := by
  induction d with
  | zero => intro i a b; omega
  | succ d ih =>
    intro i a b
    obtain ⟨h1, h2, h3, h4, h5⟩ := hB i b
    -- what is chosen
    have hch : ∃ m L, L.length = f i ∧ CHL nx n i L ∧ m < 2 ^ (n - nx i) ∧ (∀ r, i < n - r → n - r ≤ nx i → cv lw n r m i = some L) ∧ (nx i = n → m = 0 ∧ L = [n]) ∧ (nx i < n → ∃ m2 L2, m = 2 ^ (n - 1 - nx i) + m2 ∧ L = nx i :: L2 ∧ ∀ r m' L', nx i < n - r → m' < 2 ^ r → cv lw n r m' (nx i) = some L' → L'.length = f (nx i) → m2 ≤ m' ∧ (m' ≤ m2 → L' = L2)) := by
      rcases Nat.eq_or_lt_of_le h2 with z | z
      · refine ⟨0, [n], ?_, ⟨b, z.symm, rfl⟩, Nat.pos_of_ne_zero (by simp), fun r => ?_, fun _ => ⟨rfl, rfl⟩, fun y => by omega⟩
        · rw [h4, z, hf]; rfl
        · induction r with
          | zero => intro _ _; simp only [cv]; rw [← z, if_pos h3]
          | succ r ihr =>
            intro q1 q2
            simp only [cv]
            rw [if_neg (by have : 0 < 2 ^ r := Nat.pos_of_ne_zero (by simp); omega)]
            exact ihr (by omega) (by omega)
      · obtain ⟨m2, L2, c1, c2, c3, c4, c5⟩ := ih (nx i) (by omega) z
        have hx := (hB (nx i) z).1
        have hx2 := (hB (nx i) z).2.1
        have e1 : 2 ^ (n - nx i) = 2 ^ (n - 1 - nx i) * 2 := by rw [← Nat.pow_succ]; congr 1; omega
        have e2 : 2 ^ (n - nx (nx i)) ≤ 2 ^ (n - 1 - nx i) := p2_le (by omega)
        refine ⟨2 ^ (n - 1 - nx i) + m2, nx i :: L2, by simp only [List.length]; omega, ⟨b, rfl, c2⟩, by omega, fun r => ?_, fun y => by omega, fun _ => ⟨m2, L2, rfl, rfl, c5⟩⟩
        induction r with
        | zero => intro q1 q2; omega
        | succ r ihr =>
          intro q1 q2
          simp only [cv]
          rcases Nat.eq_or_lt_of_le q2 with y | y
          · have hr : r = n - 1 - nx i := by omega
            rw [← hr, if_pos (by omega), y, if_pos h3, show 2 ^ r + m2 - 2 ^ r = m2 by omega, c4 r (by omega) (by omega)]; rfl
          · have e3 : 2 ^ (n - nx i) ≤ 2 ^ r := p2_le (by omega)
            rw [if_neg (by omega)]
            exact ihr (by omega) (by omega)
    obtain ⟨m, L, k1, k2, k3, k4, k5, k6⟩ := hch
    refine ⟨m, L, k1, k2, k3, k4, fun r => ?_⟩
    induction r with
    | zero =>
      intro m' L' q1 q2 q3 q4
      simp only [cv] at q3
      split at q3
      · rename_i hl
        cases q3
        simp only [List.length] at q4
        have y := (h5 n (by omega) (by omega) hl).2 (by omega)
        obtain ⟨w1, w2⟩ := k5 (by omega)
        exact ⟨by omega, fun _ => w2.symm⟩
      · cases q3
    | succ r ihr =>
      intro m' L' q1 q2 q3 q4
      simp only [cv] at q3
      split at q3
      · rename_i hset
        split at q3
        · rename_i hl
          cases q : cv lw n r (m' - 2 ^ r) (n - (r + 1)) with
          | none => rw [q] at q3; cases q3
          | some L2' =>
            rw [q] at q3
            cases q3
            simp only [List.length] at q4
            have ha := cv_len hf hB r _ _ _ (by omega) q
            have hb := h5 (n - (r + 1)) (by omega) (by omega) hl
            have hk := hb.2 (by omega)
            have hp : 2 ^ (r + 1) = 2 ^ r * 2 := Nat.pow_succ ..
            rcases Nat.eq_or_lt_of_le hk with y | y
            · obtain ⟨m2, L2, w1, w2, w3⟩ := k6 (by omega)
              rw [y] at q
              have hr : r = n - 1 - nx i := by omega
              have hfx : f (nx i) = f (n - (r + 1)) := by rw [y]
              obtain ⟨v1, v2⟩ := w3 r _ _ (by omega) (show m' - 2 ^ r < 2 ^ r by omega) q (by omega)
              rw [← hr] at w1
              exact ⟨by omega, fun t => by rw [w2, v2 (by omega), y]⟩
            · have e3 : 2 ^ (n - nx i) ≤ 2 ^ r := p2_le (by omega)
              exact ⟨by omega, fun t => by omega⟩
        · cases q3
      · exact ihr m' L' (by omega) (by omega) q3 q4
theorem cvv_made {lw : Nat → Nat → Bool} {n M : Nat} {L : List Nat} (hs : ∀ a i b, a ≤ i → i < b → b ≤ n → lw a b = true → lw i (i + 1) = true) (h : cvv lw n M = some L) : MADE lw n = true := by
  unfold cvv at h
  split at h
  · exact decide_eq_true (fun i hi => by omega)
  · exact decide_eq_true (fun i hi => cv_made hs (n - 1) M 0 L (by omega) h i (Nat.zero_le i) hi)
theorem cvv_ex {lw : Nat → Nat → Bool} {n : Nat} (h : MADE lw n = true) : ∃ M L, (n = 0 ∨ M < 2 ^ (n - 1)) ∧ cvv lw n M = some L := by
  rcases Nat.eq_zero_or_pos n with z | z
  · exact ⟨0, [], Or.inl z, by unfold cvv; rw [if_pos z]⟩
  · obtain ⟨f, nx, hf, hB⟩ := dp_ex h
    obtain ⟨m, L, a1, a2, a3, a4, a5⟩ := cv_best hf hB n 0 (by omega) z
    have hb := (hB 0 z).1
    exact ⟨m, L, Or.inr (Nat.lt_of_lt_of_le a3 (p2_le (by omega))), by unfold cvv; rw [if_neg (by omega)]; exact a4 (n - 1) (by omega) (by omega)⟩
theorem cvv_best {lw : Nat → Nat → Bool} {n b : Nat} {L : List Nat} (hm : MADE lw n = true) (hb : n = 0 ∨ b < 2 ^ (n - 1)) (h : cvv lw n b = some L) (hmin : ∀ M L', (n = 0 ∨ M < 2 ^ (n - 1)) → cvv lw n M = some L' → L.length ≤ L'.length ∧ (L'.length = L.length → b ≤ M)) : DPS lw n L.length (sl L) := by
  obtain ⟨f, nx, hf, hB⟩ := dp_ex hm
  rcases Nat.eq_zero_or_pos n with z | z
  · unfold cvv at h; rw [if_pos z] at h; cases h
    exact ⟨f, nx, hf, hB, rfl, z.symm, fun k hk => absurd hk (Nat.not_lt_zero k)⟩
  · obtain ⟨m, L0, a1, a2, a3, a4, a5⟩ := cv_best hf hB n 0 (by omega) z
    have hx := (hB 0 z).1
    have hm2 : m < 2 ^ (n - 1) := Nat.lt_of_lt_of_le a3 (p2_le (by omega))
    have e0 : cvv lw n m = some L0 := by unfold cvv; rw [if_neg (by omega)]; exact a4 (n - 1) (by omega) (by omega)
    have hcv : cv lw n (n - 1) b 0 = some L := by unfold cvv at h; rw [if_neg (by omega)] at h; exact h
    have c1 := hmin m L0 (Or.inr hm2) e0
    have c2 := cv_len hf hB (n - 1) b 0 L (by omega) hcv
    have c3 := a5 (n - 1) b L (by omega) (by omega) hcv (by omega)
    have c4 := c3.2 (c1.2 (by omega))
    rw [c4]
    have c5 := CHL_at L0 0 a2
    exact ⟨f, nx, hf, hB, rfl, c5.1, c5.2⟩
theorem DPS_uniq {lw : Nat → Nat → Bool} {n H H' : Nat} {st st' : Nat → Nat} (h : DPS lw n H st) (h' : DPS lw n H' st') : H = H' ∧ ∀ k, k ≤ H → st k = st' k := by
  obtain ⟨f, nx, a1, a2, a3, a4, a5⟩ := h
  obtain ⟨g, ny, b1, b2, b3, b4, b5⟩ := h'
  have hfg : ∀ d i, n - i ≤ d → i ≤ n → f i = g i := by
    intro d
    induction d with
    | zero => intro i q1 q2; rw [show i = n by omega, a1, b1]
    | succ d ih =>
      intro i q1 q2
      rcases Nat.eq_or_lt_of_le q2 with z | z
      · rw [z, a1, b1]
      · obtain ⟨c1, c2, c3, c4, c5⟩ := a2 i z
        obtain ⟨d1, d2, d3, d4, d5⟩ := b2 i z
        have e1 := ih (nx i) (by omega) c2
        have e2 := ih (ny i) (by omega) d2
        have e3 := (d5 (nx i) c1 c2 c3).1
        have e4 := (c5 (ny i) d1 d2 d3).1
        omega
  have hnx : ∀ i, i < n → nx i = ny i := by
    intro i z
    obtain ⟨c1, c2, c3, c4, c5⟩ := a2 i z
    obtain ⟨d1, d2, d3, d4, d5⟩ := b2 i z
    have e0 := hfg n i (by omega) (by omega)
    have e1 := hfg n (nx i) (by omega) c2
    have e2 := hfg n (ny i) (by omega) d2
    have e3 := (d5 (nx i) c1 c2 c3).2 (by omega)
    have e4 := (c5 (ny i) d1 d2 d3).2 (by omega)
    omega
  have hst : ∀ k, k ≤ H → k ≤ H' → st k = st' k := by
    intro k
    induction k with
    | zero => intro _ _; rw [a3, b3]
    | succ k ih =>
      intro q1 q2
      have e := ih (by omega) (by omega)
      rw [(a5 k (by omega)).2, (b5 k (by omega)).2, ← e, hnx _ (a5 k (by omega)).1]
  have hH : H = H' := by
    rcases Nat.lt_trichotomy H H' with z | z | z
    · have := (b5 H z).1; rw [← hst H (by omega) (by omega)] at this; omega
    · exact z
    · have := (a5 H' z).1; rw [hst H' (by omega) (by omega)] at this; omega
  exact ⟨hH, fun k hk => hst k hk (by omega)⟩
theorem CUTS_uniq {lw : Nat → Nat → Bool} {n H H' : Nat} {st st' : Nat → Nat} {md md' : Bool} (h : CUTS lw n md H st) (h' : CUTS lw n md' H' st') : md = md' ∧ H = H' ∧ (md = true → ∀ k, k ≤ H → st k = st' k) := by
  obtain ⟨a1, a2, a3, a4⟩ := h
  obtain ⟨b1, b2, b3, b4⟩ := h'
  have e : md = md' := a1.trans b1.symm
  subst e
  cases md with
  | false => exact ⟨rfl, by rw [a3 rfl, b3 rfl], fun q => (by cases q)⟩
  | true => have u := DPS_uniq (a2 rfl) (b2 rfl); exact ⟨rfl, u.1, fun _ => u.2⟩
