/-! THE WORLD GROWS: rows for constructors -/
def w_kb (n : Nat) (x : Option (Option Nat)) : Bool := match x with
  | some (some j) => decide (j < n)
  | _ => true
def w_ck (n : Nat) : wK → Prop
  | .inl o => o.2.all (w_kb n) = true
  | .inr (.inl _) => True
  | .inr (.inr r) => ∀ k j, r.2 k = some j → j < n
/-- no cell refers beyond the world -/
def w_cd (S : List wK) : Prop := ∀ (i : Nat) (k : wK), S[i]? = some k → w_ck S.length k
theorem w_f1_ag {ad ad' : Nat → Nat} {x : Int32} {o : Option (Option Nat)} {n : Nat} (h : w_kb n o = true) (ha : ∀ j, j < n → ad' j = ad j) : w_f1 ad' x o = w_f1 ad x o := by
  match o, h with
  | none, _ => rfl
  | some none, _ => rfl
  | some (some j), h => simp only [w_f1]; rw [ha j (of_decide_eq_true h)]
theorem w_fs_ag {ad ad' : Nat → Nat} {v : Nat → Int32} {sl : List (Option (Option Nat))} {n : Nat} (h : sl.all (w_kb n) = true) (ha : ∀ j, j < n → ad' j = ad j) : w_fs ad' v sl = w_fs ad v sl := by
  apply List.ext_getElem?
  intro k
  cases hk : sl[k]? with
  | none => simp [w_fs, hk]
  | some o => rw [w_fs_get hk, w_fs_get hk, w_f1_ag (List.all_eq_true.mp h o (List.mem_of_getElem? hk)) ha]
theorem w_cell_ag {ca : Nat → ClassId} {ad ad' : Nat → Nat} {v : Nat → Int32} {k : wK} {n : Nat} (h : w_ck n k) (ha : ∀ j, j < n → ad' j = ad j) : w_cell ca ad' v k = w_cell ca ad v k := by
  match k, h with
  | .inl o, h => simp only [w_cell]; rw [w_fs_ag h ha]
  | .inr (.inl a), _ => rfl
  | .inr (.inr r), h =>
    simp only [w_cell]
    have e : (fun j => (r.2 j).map ad') = (fun j => (r.2 j).map ad) := by
      funext j
      cases hj : r.2 j with
      | none => rfl
      | some q => simp only [Option.map]; rw [ha q (h j q hj)]
    rw [e]
theorem w_ws_ag {ca : Nat → ClassId} {S : List wK} {ad ad' : Nat → Nat} {V : wV} (h : w_cd S) (ha : ∀ j, j < S.length → ad' j = ad j) : w_ws ca S ad' V = w_ws ca S ad V := by
  apply List.ext_getElem?
  intro i
  cases hi : S[i]? with
  | none => simp [w_ws, hi]
  | some k => rw [w_ws_get hi, w_ws_get hi, ha i (List.getElem?_eq_some_iff.mp hi).1, w_cell_ag (h i k hi) ha]
theorem w_ws_push {ca : Nat → ClassId} {S : List wK} {ad : Nat → Nat} {V : wV} {k : wK} : w_ws ca (S ++ [k]) ad V = w_ws ca S ad V ++ [(ad S.length, w_cell ca ad (V S.length) k)] := by simp [w_ws, List.mapIdx_append]
def w_ad (ad : Nat → Nat) (n q : Nat) : Nat → Nat := fun j => if j = n then q else ad j
theorem w_ad_lt {ad : Nat → Nat} {n q j : Nat} (h : j < n) : w_ad ad n q j = ad j := if_neg (by omega)
theorem w_ad_s {ad : Nat → Nat} {n q : Nat} : w_ad ad n q n = q := if_pos rfl
theorem w_ws_new {ca : Nat → ClassId} {S : List wK} {ad : Nat → Nat} {V : wV} {q : Nat} {k : wK} (h : w_cd S) : w_ws ca (S ++ [k]) (w_ad ad S.length q) V = w_ws ca S ad V ++ [(q, w_cell ca (w_ad ad S.length q) (V S.length) k)] := by
  rw [w_ws_push, w_ws_ag h (fun j hj => w_ad_lt hj), w_ad_s]
theorem w_ck.mono {n m : Nat} {k : wK} (h : w_ck n k) (hm : n ≤ m) : w_ck m k := by
  match k, h with
  | .inl o, h =>
    refine List.all_eq_true.mpr (fun x hx => ?_)
    have := List.all_eq_true.mp h x hx
    match x, this with
    | none, _ => rfl
    | some none, _ => rfl
    | some (some j), q => exact decide_eq_true (Nat.lt_of_lt_of_le (of_decide_eq_true q) hm)
  | .inr (.inl _), _ => exact trivial
  | .inr (.inr r), h => exact fun k j q => Nat.lt_of_lt_of_le (h k j q) hm
theorem w_cd.push {S : List wK} {k : wK} (h : w_cd S) (hk : w_ck S.length k) : w_cd (S ++ [k]) := by
  intro i x hx
  have hl : (S ++ [k]).length = S.length + 1 := by simp
  rw [hl]
  by_cases hi : i < S.length
  · rw [List.getElem?_append_left hi] at hx
    exact (h i x hx).mono (by omega)
  · rw [List.getElem?_append_right (by omega)] at hx
    have hz : i - S.length < 1 := (List.getElem?_eq_some_iff.mp hx).1
    rw [show i - S.length = 0 by omega] at hx
    cases hx
    exact hk.mono (by omega)
theorem w_cd.set {S : List wK} {k : wK} (h : w_cd S) (i : Nat) (hk : w_ck S.length k) : w_cd (S.set i k) := by
  intro j x hx
  rw [List.length_set]
  by_cases hj : i = j
  · subst hj
    rw [List.getElem?_set_self'] at hx
    cases q : S[i]? with
    | none => rw [q] at hx; cases hx
    | some y => rw [q] at hx; cases hx; exact hk
  · rw [List.getElem?_set_ne hj] at hx
    exact h j x hx
theorem w_ck_up {n N i j : Nat} {f : Nat → Option Nat} (h : w_ck n (.inr (.inr (N, f)))) (hj : j < n) : w_ck n (.inr (.inr (N, va_up f i (some j)))) := by
  intro k x hx
  have hx : va_up f i (some j) k = some x := hx
  unfold va_up at hx
  split at hx
  · cases hx; exact hj
  · exact h k x hx
theorem w_fs_setr {ad : Nat → Nat} {v : Nat → Int32} {sl : List (Option (Option Nat))} {k j : Nat} : w_fs ad v (sl.set k (some (some j))) = (w_fs ad v sl).set k (.ref (ad j)) := by
  apply List.ext_getElem?
  intro i
  by_cases hi : k = i
  · subst hi
    by_cases hl : k < sl.length
    · rw [w_fs_get (o := some (some j)) (by rw [List.getElem?_set_self hl]), List.getElem?_set_self (by rw [w_fs_len]; exact hl)]
      rfl
    · rw [List.getElem?_eq_none (by rw [w_fs_len, List.length_set]; omega), List.getElem?_eq_none (by rw [List.length_set, w_fs_len]; omega)]
  · rw [List.getElem?_set_ne hi]
    simp [w_fs, List.getElem?_set_ne hi]
theorem w_ws_setS {ca : Nat → ClassId} {S : List wK} {ad : Nat → Nat} {V : wV} {i : Nat} {k : wK} (hi : i < S.length) : w_ws ca (S.set i k) ad V = (w_ws ca S ad V).set i (ad i, w_cell ca ad (V i) k) := by
  apply List.ext_getElem?
  intro j
  by_cases hj : i = j
  · subst hj
    rw [w_ws_get (k := k) (by rw [List.getElem?_set_self hi]), List.getElem?_set_self (by simp [w_ws]; exact hi)]
  · rw [List.getElem?_set_ne hj]
    simp [w_ws, List.getElem?_set_ne hj]
/-- a constructor's end: the world is S1; the first n cells stand where they stood -/
def w_n (S1 : List wK) (n : Nat) (ad : Nat → Nat) (q : wV → Prop) : wQ := fun v S' ad' V' => v = none ∧ S' = S1 ∧ (∀ j, j < n → ad' j = ad j) ∧ q V'
section WGROW
variable {E : wE} {M : wM} {R : Room} {Q : wQ} {mc ms nc ns pc : Nat} {lv : List (Nat × Value)} {st : List Value} {S : List wK} {ad : Nat → Nat} {V : wV}
variable {S' : List wK} {lvf : (Nat → Nat) → List (Nat × Value)} {stf : (Nat → Nat) → List Value}
theorem Wp_oinit {idx i : Nat} (hw : Cond.methodLink M.1.cls idx objectInit ∈ w_T) (hdg : decode M.2.1 pc = .ok (.invokespecial idx, 3)) (hf : 1 ≤ R.frames) (hr : (st.map fun v => v.category).sum + 12 ≤ R.locals) (k : Wp E M R Q mc ms nc ns (pc + 3) lv st S ad V) : Wp E M R Q mc ms nc ns pc lv (.ref (ad i) :: st) S ad V := by
  intro p l e s m args below meth c H locs A ls hC hG hl
  exact W.objInit (g := F0 m pc ls (.ref (ad i) :: st)) (rest := st) hC.1 hC.2.1 hC.2.2.2.1 (hC.2.2.2.2.1 _ hw) (hC.2.2.2.2.1 _ mi_objectInit) (hC.2.2.2.2.1 _ mc_objectInit) rfl (by rw [hC.2.2.1]; exact hl.1) rfl hdg hf (by show 2 * 0 + _ + 12 ≤ _; omega) (k p l e s m args below meth c H locs A ls hC hG hl)
theorem Wp_new {idx ci N : Nat} {C : String} {T : u_T} {ty0 : Nat → FieldType} {sl : List (Option (Option Nat))} {n0 : Nat} (hl0 : S.length = n0) (hcd : w_cd S) (hci : vwCl[ci]? = some (C, T, N)) (hin : ∀ w ∈ u_ws C T N, w ∈ w_T) (hty : ∀ k, k < N → parseFieldDescriptor (T k).2.2.1 = some (ty0 k)) (hcl : Cond.classLink M.1.cls idx C ∈ w_T) (hinst : Cond.instantiable C N ∈ w_T) (hini : Cond.initialized C ∈ w_T)
    (hfs : ∀ (a : Nat → Nat) (j : Nat), j < N → defaultValue (ty0 j) = vp_V (w_fs a (fun _ => 0) sl) j) (hnr : sl.all (w_kb 0) = true) (hV : V n0 = fun _ => 0) (hS : S ++ [.inl (ci, sl)] = S') (hlv : lvf ad = lv) (hst : stf ad = st) (hag : ∀ a' : Nat → Nat, (∀ j, j < n0 → a' j = ad j) → lvf a' = lvf ad ∧ stf a' = stf ad)
    (hc : nc + 1 ≤ R.cells) (hs : ns + N ≤ R.slots) (hdg : decode M.2.1 pc = .ok (.new idx, 3)) (k : ∀ a' : Nat → Nat, (∀ j, j < n0 → a' j = ad j) → Wp E M R Q mc ms (nc + 1) (ns + N) (pc + 3) (lvf a') (.ref (a' n0) :: stf a') S' a' V) : Wp E M R Q mc ms nc ns pc lv st S ad V := by
  intro p l e s m args below meth c H locs A ls hC hG hl
  subst hl0 hS hlv hst
  refine va_new (ci := ci) (D := E.1) (cl := vwCl) (tys := w_tys E.2) (fs := w_fs ad (fun _ => 0) sl) hC.1 hC.2.1 hC.2.2.2.2.1 hin ty0 hty hC.2.2.2.1 (hC.2.2.2.2.1 _ hcl) (hC.2.2.2.2.1 _ hinst) (hC.2.2.2.2.1 _ hini) hG.1 hG.2.1 hG.2.2.1 hG.2.2.2.1 hG.2.2.2.2.1 hci (hfs ad) hc hs hdg (fun q H1 hP hD hS1 => ?_)
  have hk : w_fs (w_ad ad S.length q) (fun _ => 0) sl = w_fs ad (fun _ => 0) sl := w_fs_ag hnr (fun j hj => absurd hj (Nat.not_lt_zero j))
  have e1 := w_ws_new (ca := E.2) (ad := ad) (V := V) (q := q) (k := .inl (ci, sl)) hcd
  have e2 : w_cell E.2 (w_ad ad S.length q) (V S.length) (.inl (ci, sl)) = .inr (ci, w_fs ad (fun _ => 0) sl) := by rw [hV, ← hk]; rfl
  rw [e2] at e1
  rw [← e1] at hP hD
  have ha : ∀ j, j < S.length → w_ad ad S.length q j = ad j := fun j hj => w_ad_lt hj
  have k1 := k _ ha p l e s m args below meth c H1 locs A ls hC ⟨hG.1, hP, hD, hS1, hG.2.2.2.2⟩ (by rw [(hag _ ha).1]; exact hl)
  rw [w_ad_s, (hag _ ha).2] at k1
  exact k1
theorem w_caI {ca : Nat → ClassId} {D : va_G} {s : State} {cA : ClassId} {ty : FieldType} (hK : va_K D vwCl (w_tys ca) s) (hK1 : va_K D vwCl (w_tys ca ++ [(cA, ty)]) s) {i : Nat} (hi : (w_tys ca)[i]? = some (ca i, ty)) : cA = ca i := by
  have h1 := (hK.2 i _ hi).2
  have h2 := (hK1.2 3 (cA, ty) rfl).2
  cases ty with
  | object C =>
    obtain ⟨_, _, _, _, _, a⟩ := h1
    obtain ⟨_, _, _, _, _, b⟩ := h2
    exact Option.some.inj (b.symm.trans a)
  | _ => exact Option.some.inj ((show s.vm.findClass _ = some cA from h2).symm.trans (show s.vm.findClass _ = some (ca i) from h1))
theorem nI_nneg {N : Nat} (h : N < 2 ^ 31) : ¬ nI N < 0 := nI_nlt (a := N) (b := 0) (Nat.zero_le _) h
theorem Wp_newI {N : Nat} {x : Int32} (hx : x = nI N) (hN : N < 1000) {n0 : Nat} (hl0 : S.length = n0) (hcd : w_cd S) (hV : V n0 = fun _ => 0) (hS : S ++ [.inr (.inl (false, N))] = S') (hlv : lvf ad = lv) (hst : stf ad = st) (hag : ∀ a' : Nat → Nat, (∀ j, j < n0 → a' j = ad j) → lvf a' = lvf ad ∧ stf a' = stf ad)
    (hc : nc + 1 ≤ R.cells) (hs : ns + N ≤ R.slots) (hdg : decode M.2.1 pc = .ok (.newarray .int, 2)) (k : ∀ a' : Nat → Nat, (∀ j, j < n0 → a' j = ad j) → Wp E M R Q mc ms (nc + 1) (ns + N) (pc + 2) (lvf a') (.ref (a' n0) :: stf a') S' a' V) : Wp E M R Q mc ms nc ns pc lv (.int x :: st) S ad V := by
  intro p l e s m args below meth c H locs A ls hC hG hl
  subst hl0 hS hlv hst hx
  refine va_newa (atype := .int) (D := E.1) (cl := vwCl) (tys := w_tys E.2) (a0 := (N, .inl (fun _ => 0))) (N' := N) hC.1 hC.2.1 (hC.2.2.2.2.1 _ mar_int) (ty := .int) rfl hG.1 hG.2.1 hG.2.2.1 hG.2.2.2.1 hG.2.2.2.2.1 (fun cA => rfl) (nI_nneg (by omega)) (nI_clamp (by omega)) (by show N * 4 ≤ _; omega) hc hs hdg (fun q cA H1 hK1 hP hD hS1 => ?_)
  have hcA := w_caI (i := 0) hG.1 hK1 rfl
  subst hcA
  have e1 := w_ws_new (ca := E.2) (ad := ad) (V := V) (q := q) (k := .inr (.inl (false, N))) hcd
  have e2 : w_cell E.2 (w_ad ad S.length q) (V S.length) (.inr (.inl (false, N))) = .inl (E.2 0, N, .inl (fun _ => 0)) := by rw [hV]; rfl
  rw [e2] at e1
  rw [← e1] at hP hD
  have ha : ∀ j, j < S.length → w_ad ad S.length q j = ad j := fun j hj => w_ad_lt hj
  have k1 := k _ ha p l e s m args below meth c H1 locs A ls hC ⟨hG.1, hP, hD, hS1, hG.2.2.2.2⟩ (by rw [(hag _ ha).1]; exact hl)
  rw [w_ad_s, (hag _ ha).2] at k1
  exact k1
theorem Wp_newZ {N : Nat} {x : Int32} (hx : x = nI N) (hN : N < 1000) {n0 : Nat} (hl0 : S.length = n0) (hcd : w_cd S) (hV : V n0 = fun _ => 0) (hS : S ++ [.inr (.inl (true, N))] = S') (hlv : lvf ad = lv) (hst : stf ad = st) (hag : ∀ a' : Nat → Nat, (∀ j, j < n0 → a' j = ad j) → lvf a' = lvf ad ∧ stf a' = stf ad)
    (hc : nc + 1 ≤ R.cells) (hs : ns + N ≤ R.slots) (hdg : decode M.2.1 pc = .ok (.newarray .boolean, 2)) (k : ∀ a' : Nat → Nat, (∀ j, j < n0 → a' j = ad j) → Wp E M R Q mc ms (nc + 1) (ns + N) (pc + 2) (lvf a') (.ref (a' n0) :: stf a') S' a' V) : Wp E M R Q mc ms nc ns pc lv (.int x :: st) S ad V := by
  intro p l e s m args below meth c H locs A ls hC hG hl
  subst hl0 hS hlv hst hx
  refine va_newa (atype := .boolean) (D := E.1) (cl := vwCl) (tys := w_tys E.2) (a0 := (N, .inl (fun _ => 0))) (N' := N) hC.1 hC.2.1 (hC.2.2.2.2.1 _ mar_boolean) (ty := .boolean) rfl hG.1 hG.2.1 hG.2.2.1 hG.2.2.2.1 hG.2.2.2.2.1 (fun cA => rfl) (nI_nneg (by omega)) (nI_clamp (by omega)) (by show N * 1 ≤ _; omega) hc hs hdg (fun q cA H1 hK1 hP hD hS1 => ?_)
  have hcA := w_caI (i := 1) hG.1 hK1 rfl
  subst hcA
  have e1 := w_ws_new (ca := E.2) (ad := ad) (V := V) (q := q) (k := .inr (.inl (true, N))) hcd
  have e2 : w_cell E.2 (w_ad ad S.length q) (V S.length) (.inr (.inl (true, N))) = .inl (E.2 1, N, .inl (fun _ => 0)) := by rw [hV]; rfl
  rw [e2] at e1
  rw [← e1] at hP hD
  have ha : ∀ j, j < S.length → w_ad ad S.length q j = ad j := fun j hj => w_ad_lt hj
  have k1 := k _ ha p l e s m args below meth c H1 locs A ls hC ⟨hG.1, hP, hD, hS1, hG.2.2.2.2⟩ (by rw [(hag _ ha).1]; exact hl)
  rw [w_ad_s, (hag _ ha).2] at k1
  exact k1
theorem Wp_newq {N idx : Nat} {x : Int32} (hx : x = nI N) (hN : N < 1000) (hw : Cond.classLink M.1.cls idx RX6 ∈ w_T) {n0 : Nat} (hl0 : S.length = n0) (hcd : w_cd S) (hS : S ++ [.inr (.inr (N, fun _ => none))] = S') (hlv : lvf ad = lv) (hst : stf ad = st) (hag : ∀ a' : Nat → Nat, (∀ j, j < n0 → a' j = ad j) → lvf a' = lvf ad ∧ stf a' = stf ad)
    (hc : nc + 1 ≤ R.cells) (hs : ns + N ≤ R.slots) (hdg : decode M.2.1 pc = .ok (.anewarray idx, 3)) (k : ∀ a' : Nat → Nat, (∀ j, j < n0 → a' j = ad j) → Wp E M R Q mc ms (nc + 1) (ns + N) (pc + 3) (lvf a') (.ref (a' n0) :: stf a') S' a' V) : Wp E M R Q mc ms nc ns pc lv (.int x :: st) S ad V := by
  intro p l e s m args below meth c H locs A ls hC hG hl
  subst hl0 hS hlv hst hx
  refine va_newq (D := E.1) (cl := vwCl) (tys := w_tys E.2) (N' := N) hC.1 hC.2.1 hC.2.2.2.1 (hC.2.2.2.2.1 _ hw) hG.2.2.2.2.2.2.2.2.2.2 hG.1 hG.2.1 hG.2.2.1 hG.2.2.2.1 hG.2.2.2.2.1 (nI_nneg (by omega)) (nI_clamp (by omega)) (by omega) hc hs hdg (fun q cA H1 hK1 hP hD hS1 => ?_)
  have hcA := w_caI (i := 2) hG.1 hK1 rfl
  subst hcA
  have e1 := w_ws_new (ca := E.2) (ad := ad) (V := V) (q := q) (k := .inr (.inr (N, fun _ => none))) hcd
  have e2 : w_cell E.2 (w_ad ad S.length q) (V S.length) (.inr (.inr (N, fun _ => none))) = .inl (E.2 2, N, .inr (.inr (.inr (.inr (fun _ => none))))) := rfl
  rw [e2] at e1
  rw [← e1] at hP hD
  have ha : ∀ j, j < S.length → w_ad ad S.length q j = ad j := fun j hj => w_ad_lt hj
  have k1 := k _ ha p l e s m args below meth c H1 locs A ls hC ⟨hG.1, hP, hD, hS1, hG.2.2.2.2⟩ (by rw [(hag _ ha).1]; exact hl)
  rw [w_ad_s, (hag _ ha).2] at k1
  exact k1
theorem Wp_putr {idx ci i kk j : Nat} {ty : FieldType} {sl : List (Option (Option Nat))} (hf : w_F M.1.cls idx ci kk ty true) (hi : S[i]? = some (.inl (ci, sl))) (hk : kk < sl.length) (hnm : M.1.name = "<init>") (hdecl : ∀ q : vw_C, vwCl[ci]? = some q → (q.2.1 kk).1 = M.1.cls) (hn : ∀ a : Nat, narrow ty (.ref a) = .ref a) (hfit : ∀ a : Nat, fits ty (.ref a) = true) (hS : S.set i (.inl (ci, sl.set kk (some (some j)))) = S') (hdg : decode M.2.1 pc = .ok (.putfield idx, 3)) (k : Wp E M R Q mc ms nc ns (pc + 3) lv st S' ad V) : Wp E M R Q mc ms nc ns pc lv (.ref (ad j) :: .ref (ad i) :: st) S ad V := by
  intro p l e s m args below meth c H locs A ls hC hG hl
  obtain ⟨q, ty0, h1, h2, h3, h4, h5, h6, h7, h8⟩ := hf
  subst h8 hS
  refine va_putF (D := E.1) (v := .ref (ad j)) (ty := ty0 kk) hC.1 hC.2.1 hC.2.2.2.2.1 h2 ty0 h3 h4 hC.2.2.2.1 hG.1 hG.2.1 hG.2.2.1 hG.2.2.2.1 i (w_ws_get hi) h1 kk h5 (hC.2.2.2.2.1 _ h6) (fun _ h => h) h7 (hC.2.2.2.2.2.2.2.trans hnm) (hdecl q h1) (h3 kk h5) (hn _) (hfit _) (by rw [w_fs_len]; exact hk) hdg (fun H1 locs1 hP hD hS1 => ?_)
  have e1 : (w_ws E.2 S ad V).set i (ad i, .inr (ci, (w_fs ad (V i) sl).set kk (.ref (ad j)))) = w_ws E.2 (S.set i (.inl (ci, sl.set kk (some (some j))))) ad V := by
    rw [w_ws_setS (List.getElem?_eq_some_iff.mp hi).1, ← w_fs_setr]
    rfl
  rw [e1] at hP hD
  exact k p l e s m args below meth c H1 locs1 A ls hC ⟨hG.1, hP, hD, hS1, hG.2.2.2.2⟩ hl
theorem Wp_ast {i j n N : Nat} {f : Nat → Option Nat} {sl : List (Option (Option Nat))} {x : Int32} (hi : S[i]? = some (.inr (.inr (N, f)))) (hj : S[j]? = some (.inl (6, sl))) (hx : x = nI n) (hn : n < N) (hN : N < 2 ^ 31) (hS : S.set i (.inr (.inr (N, va_up f n (some j)))) = S') (hdg : decode M.2.1 pc = .ok (.aastore, 1)) (k : Wp E M R Q mc ms nc ns (pc + 1) lv st S' ad V) : Wp E M R Q mc ms nc ns pc lv (.ref (ad j) :: .int x :: .ref (ad i) :: st) S ad V := by
  intro p l e s m args below meth c H locs A ls hC hG hl
  subst hS hx
  refine va_astq (D := E.1) (cl := vwCl) (tys := w_tys E.2) (r := (RX6, TX6, 5)) hC.1 hC.2.1 hG.1 hG.2.1 hG.2.2.1 hG.2.2.2.1 i 2 j 6 (w_ws_get hi) rfl (w_ws_get hj) rfl (vp_in_nI hn hN) hdg (fun H1 locs1 hP hD hS1 => ?_)
  rw [nI_clamp (n := n) (by omega)] at hP hD
  have e0 : va_up (fun z => (f z).map ad) n (some (ad j)) = fun z => (va_up f n (some j) z).map ad := by
    funext z
    unfold va_up
    split <;> rfl
  have e1 : (w_ws E.2 S ad V).set i (ad i, .inl (E.2 2, N, .inr (.inr (.inr (.inr (va_up (fun z => (f z).map ad) n (some (ad j)))))))) = w_ws E.2 (S.set i (.inr (.inr (N, va_up f n (some j))))) ad V := by
    rw [w_ws_setS (List.getElem?_eq_some_iff.mp hi).1, e0]
    rfl
  rw [e1] at hP hD
  exact k p l e s m args below meth c H1 locs1 A ls hC ⟨hG.1, hP, hD, hS1, hG.2.2.2.2⟩ hl
variable {M' : wM} {As : List Value}
theorem Wp_ctor {i n idx d d' mc' ms' b : Nat} {S1 : List wK} {q : wV → Prop} (C : w_C E M' (w_R d' mc' ms') mc' ms' (.ref (ad i) :: As) S ad V (w_n S1 b ad q)) (hY : w_YI M' n) (hw : Cond.methodLink M.1.cls idx M'.1 ∈ w_T) (hn : As.length = n) (hd : d' < d) (hL : M'.2.2.1 ≤ 11) (hc : nc + mc' ≤ mc) (hs : ns + ms' ≤ ms) (hlv : lvf ad = lv) (hst : st = As.reverse ++ .ref (ad i) :: stf ad) (hag : ∀ a' : Nat → Nat, (∀ j, j < b → a' j = ad j) → lvf a' = lvf ad ∧ stf a' = stf ad) (hcat : ((stf ad).map fun v => v.category).sum ≤ 8) (hdg : decode M.2.1 pc = .ok (.invokespecial idx, 3))
    (kk : ∀ (a' : Nat → Nat) (V' : wV), (∀ j, j < b → a' j = ad j) → q V' → Wp E M (w_R d mc ms) Q mc ms (nc + mc') (ns + ms') (pc + 3) (lvf a') (stf a') S1 a' V') : Wp E M (w_R d mc ms) Q mc ms nc ns pc lv st S ad V := by
  intro p l e s m args below meth c H locs A ls hC hG hl
  subst hlv
  obtain ⟨y1, y2, y4, y6, y7, y5⟩ := hY
  have hM' : M'.2.2.2 = none := y7
  have hr4 : 8 + (M'.2.2.1 + 11) + (w_R d' mc' ms').locals ≤ (w_R d mc ms).locals := by show 8 + (M'.2.2.1 + 11) + 30 * d' ≤ 30 * d; omega
  have Cl := C l H.size
  rw [hM'] at Cl y1
  refine w_after hG (va_runI (As := As) (rest := stf ad) ⟨hC.1, hC.2.1, hC.2.2.1, hC.2.2.2.1, hC.2.2.2.2.1⟩ Cl ⟨callB_of n hC.2.2.2.2.1 (w_goodT y1) rfl rfl rfl (hC.2.2.2.2.1 _ y4) (hC.2.2.2.2.1 _ hw) y5 ⟨hd, hr4⟩, y6, hC.2.2.2.2.1 _ y2⟩ ⟨w_blind, fun U hU hW => ⟨rfl, by rw [hU], by rw [hU]; exact hG.2.1, va_K.moved hW.alike hG.1, hG.2.2.1.weaken (fun _ _ _ _ => trivial), hG.2.2.2.2.2.warm hW⟩⟩ rfl hn hl.1 hst (lv_room hcat) hdg ⟨hc, hs⟩) (fun v S' ad' V' H1 locs1 hq hG1 => ?_)
  obtain ⟨rfl, rfl, ha, hq⟩ := hq
  have k1 := kk ad' V' ha hq p l e s m args below meth c H1 locs1 A ls hC hG1 (by rw [(hag _ ha).1]; exact hl)
  rw [(hag _ ha).2] at k1
  exact k1
theorem Wp_ctorN {i n idx d d' mc' ms' b : Nat} {S1 : List wK} {q : wV → Prop} (C : w_C E M' (w_R d' mc' ms') mc' ms' (.ref (ad i) :: As) S ad V (w_n S1 b ad q)) (hY : w_YI M' n) (hw : ∀ U, w_Nw U → va_Nw (.methodLinkNest M.1.cls idx M'.1 RX8) U) (hn : As.length = n) (hd : d' < d) (hL : M'.2.2.1 ≤ 11) (hc : nc + mc' ≤ mc) (hs : ns + ms' ≤ ms) (hlv : lvf ad = lv) (hst : st = As.reverse ++ .ref (ad i) :: stf ad) (hag : ∀ a' : Nat → Nat, (∀ j, j < b → a' j = ad j) → lvf a' = lvf ad ∧ stf a' = stf ad) (hcat : ((stf ad).map fun v => v.category).sum ≤ 8) (hdg : decode M.2.1 pc = .ok (.invokespecial idx, 3))
    (kk : ∀ (a' : Nat → Nat) (V' : wV), (∀ j, j < b → a' j = ad j) → q V' → Wp E M (w_R d mc ms) Q mc ms (nc + mc') (ns + ms') (pc + 3) (lvf a') (stf a') S1 a' V') : Wp E M (w_R d mc ms) Q mc ms nc ns pc lv st S ad V := by
  intro p l e s m args below meth c H locs A ls hC hG hl
  subst hlv
  obtain ⟨y1, y2, y4, y6, y7, y5⟩ := hY
  have hM' : M'.2.2.2 = none := y7
  have hr4 : 8 + (M'.2.2.1 + 11) + (w_R d' mc' ms').locals ≤ (w_R d mc ms).locals := by show 8 + (M'.2.2.1 + 11) + 30 * d' ≤ 30 * d; omega
  have Cl := C l H.size
  rw [hM'] at Cl y1
  refine w_after hG (va_runIN (As := As) (rest := stf ad) ⟨hC.1, hC.2.1, hC.2.2.1, hC.2.2.2.1, hC.2.2.2.2.1⟩ Cl ⟨va_cnB n hC.2.2.2.2.1 (w_goodT y1) rfl rfl rfl (hw _ hG.2.2.2.2.2) (hC.2.2.2.2.1 _ y4) y5 ⟨hd, hr4⟩, y6, hC.2.2.2.2.1 _ y2⟩ ⟨w_blind, fun U hU hW => ⟨rfl, by rw [hU], by rw [hU]; exact hG.2.1, va_K.moved hW.alike hG.1, hG.2.2.1.weaken (fun _ _ _ _ => trivial), hG.2.2.2.2.2.warm hW⟩⟩ rfl hn hl.1 hst (lv_room hcat) hdg ⟨hc, hs⟩) (fun v S' ad' V' H1 locs1 hq hG1 => ?_)
  obtain ⟨rfl, rfl, ha, hq⟩ := hq
  have k1 := kk ad' V' ha hq p l e s m args below meth c H1 locs1 A ls hC hG1 (by rw [(hag _ ha).1]; exact hl)
  rw [(hag _ ha).2] at k1
  exact k1
end WGROW
