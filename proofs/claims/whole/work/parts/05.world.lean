/-! THE WORLD: all cells of the system in one list, by number; what they hold is V (cell, slot); a walk over it (Wp) hides the machine -/
abbrev wK : Type := (Nat × List (Option (Option Nat))) ⊕ ((Bool × Nat) ⊕ (Nat × (Nat → Option Nat)))
abbrev wV : Type := Nat → Nat → Int32
abbrev wE : Type := va_G × (Nat → ClassId)
abbrev wM : Type := MethodName × ByteArray × Nat × Option FieldType
abbrev wQ : Type := Option Value → List wK → (Nat → Nat) → wV → Prop
def w_f1 (ad : Nat → Nat) (x : Int32) : Option (Option Nat) → Value
  | none => .int x
  | some none => .null
  | some (some j) => .ref (ad j)
def w_fs (ad : Nat → Nat) (v : Nat → Int32) (sl : List (Option (Option Nat))) : List Value := sl.mapIdx (fun k o => w_f1 ad (v k) o)
def w_cell (ca : Nat → ClassId) (ad : Nat → Nat) (v : Nat → Int32) : wK → va_E
  | .inl o => .inr (o.1, w_fs ad v o.2)
  | .inr (.inl a) => .inl (ca (if a.1 then 1 else 0), a.2, .inl v)
  | .inr (.inr r) => .inl (ca 2, r.1, .inr (.inr (.inr (.inr (fun j => (r.2 j).map ad)))))
def w_ws (ca : Nat → ClassId) (S : List wK) (ad : Nat → Nat) (V : wV) : va_W := S.mapIdx (fun i k => (ad i, w_cell ca ad (V i) k))
def w_tys (ca : Nat → ClassId) : List (ClassId × FieldType) := [(ca 0, .int), (ca 1, .boolean), (ca 2, .object RX6)]
def up2 (V : wV) (i k : Nat) (x : Int32) : wV := fun j => if j = i then upd (V i) k x else V j
def up1 (V : wV) (i : Nat) (f : Nat → Int32) : wV := fun j => if j = i then f else V j
theorem up2_s {V : wV} {i k : Nat} {x : Int32} : up2 V i k x i k = x := by simp [up2, upd]
theorem up2_i {V : wV} {i j k q : Nat} {x : Int32} (h : j ≠ i) : up2 V i k x j q = V j q := by simp [up2, h]
theorem up2_k {V : wV} {i j k q : Nat} {x : Int32} (h : q ≠ k) : up2 V i k x j q = V j q := by
  by_cases hj : j = i
  · subst hj; simp [up2, upd, h]
  · simp [up2, hj]
theorem w_ws_get {ca : Nat → ClassId} {S : List wK} {ad : Nat → Nat} {V : wV} {i : Nat} {k : wK} (h : S[i]? = some k) : (w_ws ca S ad V)[i]? = some (ad i, w_cell ca ad (V i) k) := by simp [w_ws, h]
theorem w_ws_set {ca : Nat → ClassId} {S : List wK} {ad : Nat → Nat} {V V' : wV} {i : Nat} {k : wK} (h : S[i]? = some k) (ho : ∀ j, j ≠ i → V' j = V j) : w_ws ca S ad V' = (w_ws ca S ad V).set i (ad i, w_cell ca ad (V' i) k) := by
  apply List.ext_getElem?
  intro j
  by_cases hj : j = i
  · subst hj
    have hlt : j < (w_ws ca S ad V).length := (List.getElem?_eq_some_iff.mp (w_ws_get (ca := ca) (ad := ad) (V := V) h)).1
    rw [w_ws_get h, List.getElem?_set_self hlt]
  · rw [List.getElem?_set_ne (fun q => hj q.symm)]
    simp [w_ws, ho j hj]
theorem w_fs_get {ad : Nat → Nat} {v : Nat → Int32} {sl : List (Option (Option Nat))} {k : Nat} {o : Option (Option Nat)} (h : sl[k]? = some o) : (w_fs ad v sl)[k]? = some (w_f1 ad (v k) o) := by simp [w_fs, h]
theorem w_fs_len {ad : Nat → Nat} {v : Nat → Int32} {sl : List (Option (Option Nat))} : (w_fs ad v sl).length = sl.length := by simp [w_fs]
theorem w_fs_set {ad : Nat → Nat} {v : Nat → Int32} {sl : List (Option (Option Nat))} {k : Nat} (x : Int32) (h : sl[k]? = some none) : w_fs ad (upd v k x) sl = (w_fs ad v sl).set k (.int x) := by
  apply List.ext_getElem?
  intro j
  by_cases hj : j = k
  · subst hj
    have hlt : j < (w_fs ad v sl).length := by rw [w_fs_len]; exact (List.getElem?_eq_some_iff.mp h).1
    rw [w_fs_get h, List.getElem?_set_self hlt]
    simp [w_f1, upd]
  · rw [List.getElem?_set_ne (fun q => hj q.symm)]
    simp [w_fs, upd, hj]
/-- the nest mates' links, which a callee must hear by its start -/
def w_Nw (U : State) : Prop := va_Nw (.methodLinkNest RX8 9 yX7_init RX8) U ∧ va_Nw (.methodLinkNest RX8 34 yX6_init RX8) U ∧ va_Nw (.methodLinkNest RX2 17 yX6_init RX8) U ∧ va_Nw (.methodLinkNest RX8 64 yX5_init RX8) U ∧ va_Nw (.methodLinkNest RX1 17 yX4_init RX8) U ∧ va_AO RX6 U
theorem w_Nw.warm {s U : State} (hW : s.WarmedH U.vm) (h : w_Nw s) : w_Nw U := ⟨h.1.warmM hW, h.2.1.warmM hW, h.2.2.1.warmM hW, h.2.2.2.1.warmM hW, h.2.2.2.2.1.warmM hW, va_AO.moved hW.alike h.2.2.2.2.2⟩
theorem w_Nw.same {u U : State} (hv : u.vm = U.vm) (h : w_Nw u) : w_Nw U := ⟨h.1.same rfl hv, h.2.1.same rfl hv, h.2.2.1.same rfl hv, h.2.2.2.1.same rfl hv, h.2.2.2.2.1.same rfl hv, va_AO.moved (show u.vm.Alike U.vm by rw [← hv]; exact Vm.Alike.refl u.vm) h.2.2.2.2.2⟩
/-- what stands still in a method -/
def w_Cx (M : wM) (p : Program) (s : State) (m : MethodId) (args : Array Value) (meth : Method) (c : Code) : Prop :=
  p.tables.exec = Jvm.exec ∧ c.code = M.2.1 ∧ c.maxLocals = M.2.2.1 ∧ s.vm.findClass M.1.cls = some m.cls ∧ (∀ w ∈ w_T, w.before args s = true) ∧ meth.sig.returnType = M.2.2.2 ∧ meth.locks = false ∧ meth.name = M.1.name
/-- the world at a point of a method -/
def w_G (E : wE) (S : List wK) (ad : Nat → Nat) (V : wV) (A : Nat → Prop) (s : State) (H : Heap) (locs : List Loc) : Prop :=
  va_K E.1 vwCl (w_tys E.2) s ∧ va_P E.1 vwCl (w_ws E.2 S ad V) H ∧ va_D A (w_ws E.2 S ad V) ∧ va_S A s.heap H locs ∧ (∀ q, s.heap.size ≤ q → A q) ∧ w_Nw s
def w_Q (E : wE) (Q : wQ) (A : Nat → Prop) : Array Value → State → Outcome → State → Prop := fun _ st oc t =>
  (∃ (v : Option Value) (S : List wK) (ad : Nat → Nat) (V : wV), oc = .returned v ∧ Q v S ad V ∧ va_P E.1 vwCl (w_ws E.2 S ad V) t.heap ∧ va_K E.1 vwCl (w_tys E.2) t ∧ va_D A (w_ws E.2 S ad V)) ∧ va_F A st t
/-- A WALK: from this point of the method, whatever the machine is, the method returns with Q -/
def Wp (E : wE) (M : wM) (R : Room) (Q : wQ) (mc ms nc ns pc : Nat) (lv : List (Nat × Value)) (st : List Value) (S : List wK) (ad : Nat → Nat) (V : wV) : Prop :=
  ∀ (p : Program) (l : Launch) (e : Env) (s : State) (m : MethodId) (args : Array Value) (below : List Frame) (meth : Method) (c : Code) (H : Heap) (locs : List Loc) (A : Nat → Prop) (ls : Array Slot),
    w_Cx M p s m args meth c → w_G E S ad V A s H locs → lv_has ls M.2.2.1 lv → W p l e R s m args below meth c H locs nc ns (MQ below (w_Q E Q A) args s mc ms A) (F0 m pc ls st)
/-- A CONTRACT -/
def w_C (E : wE) (M : wM) (R : Room) (mc ms : Nat) (av : List Value) (S : List wK) (ad : Nat → Nat) (V : wV) (Q : wQ) : Prop :=
  ∀ (l : Launch) (sz : Nat), Met l M.1 (Cond.code M.1 M.2.1 M.2.2.1 M.2.2.2 :: w_T) R (va_Pc av (fun U => U.heap.size = sz ∧ va_P E.1 vwCl (w_ws E.2 S ad V) U.heap ∧ va_K E.1 vwCl (w_tys E.2) U ∧ va_D (fun _ => True) (w_ws E.2 S ad V) ∧ w_Nw U)) (w_Q E Q (va_A (w_ws E.2 S ad V) sz)) mc ms (va_A (w_ws E.2 S ad V) sz)
theorem w_C.of {E : wE} {M : wM} {R : Room} {mc ms : Nat} {av : List Value} {S : List wK} {ad : Nat → Nat} {V : wV} {Q : wQ} (hp : plainName M.1.cls = true) (hn : (lg_sl av).length ≤ M.2.2.1)
    (h : Wp E M R Q mc ms 0 0 0 (lv_args 0 av) [] S ad V) : w_C E M R mc ms av S ad V Q := by
  intro l sz
  refine Met.ofW (cc := M.2.1) (maxL := M.2.2.1) (ret := M.2.2.2) hp rfl ?_
  intro p e s m args below meth c s₁ B hml hv
  obtain ⟨rfl, hsz, hP, hK, hD0, hNw⟩ := hv
  subst hsz
  have hts := atoms_spec (ws := Cond.code M.1 M.2.1 M.2.2.1 M.2.2.2 :: w_T) B.pre
  have hl := lv_entry av (n := M.2.2.1) hn
  rw [lg_entry_eq]
  exact h p l e s m _ below meth c s.heap [] _ _ ⟨B.exec, B.bytes, hml, findClass_of_methodNamed B.named, fun w hw => hts w (List.mem_cons_of_mem _ hw), B.returns, B.notSynchronized, (name_of_methodNamed B.named B.method).1⟩ ⟨hK, hP, hD0.self, va_S.rf, fun q h => Or.inr h, hNw⟩ hl
/-- what is known of a callee: V: by invokevirtual, S: static, I: a constructor -/
def w_YV (M : wM) (n : Nat) : Prop := Cond.code M.1 M.2.1 M.2.2.1 M.2.2.2 ∈ w_T ∧ Cond.instanceMethod M.1 ∈ w_T ∧ Cond.selects M.1.cls M.1 M.1 ∈ w_T ∧ Cond.initialized M.1.cls ∈ w_T ∧ (M.1.cls ≠ "java/lang/invoke/MethodHandle" ∧ M.1.cls ≠ "java/lang/invoke/VarHandle" ∧ (parseMethodDescriptor M.1.desc).map (fun d => d.parameters.length) = some n)
def w_YS (M : wM) (n : Nat) : Prop := Cond.code M.1 M.2.1 M.2.2.1 M.2.2.2 ∈ w_T ∧ Cond.static M.1 ∈ w_T ∧ Cond.initialized M.1.cls ∈ w_T ∧ (M.1.cls ≠ "java/lang/invoke/MethodHandle" ∧ M.1.cls ≠ "java/lang/invoke/VarHandle" ∧ (parseMethodDescriptor M.1.desc).map (fun d => d.parameters.length) = some n)
def w_YI (M : wM) (n : Nat) : Prop := Cond.code M.1 M.2.1 M.2.2.1 M.2.2.2 ∈ w_T ∧ Cond.instanceMethod M.1 ∈ w_T ∧ Cond.initialized M.1.cls ∈ w_T ∧ M.1.name = "<init>" ∧ M.2.2.2 = none ∧ (M.1.cls ≠ "java/lang/invoke/MethodHandle" ∧ M.1.cls ≠ "java/lang/invoke/VarHandle" ∧ (parseMethodDescriptor M.1.desc).map (fun d => d.parameters.length) = some n)
theorem w_goodT {c : Cond} (hc : c ∈ w_T) : GoodIn w_T (c :: w_T) := by
  have key : ∀ w ∈ w_T, w ∈ w_T ∧ ((w.onTables && w.keeps) = true ∨ ∃ ty, w = .arrayClass ty) := fun w hw => ⟨hw, good_of_word (List.mem_filter.mp hw).2⟩
  intro w hw
  rcases List.mem_cons.mp hw with rfl | h
  · exact key _ hc
  · exact key w h
def w_Rm (M' : wM) (R R' : Room) (nc ns mc' ms' : Nat) : Prop := R'.cells = mc' ∧ R'.slots = ms' ∧ R'.frames + 1 ≤ R.frames ∧ 8 + (M'.2.2.1 + 11) + R'.locals ≤ R.locals ∧ nc + mc' ≤ R.cells ∧ ns + ms' ≤ R.slots
section WCALL
variable {E : wE} {p : Program} {l : Launch} {e : Env} {R : Room} {s : State} {m : MethodId} {args : Array Value} {below : List Frame} {meth : Method} {c : Code} {H : Heap} {locs : List Loc} {Qs : State → Prop}
variable {M M' : wM} {R' : Room} {Q' : wQ} {mc' ms' nc ns pc : Nat} {st rest As : List Value} {S : List wK} {ad : Nat → Nat} {V : wV} {A : Nat → Prop} {ls : Array Slot} {nL : Nat}
theorem w_blind {E : wE} {S : List wK} {ad : Nat → Nat} {V : wV} {av : List Value} {sz : Nat} : FrameBlind (va_Pc av (fun U => U.heap.size = sz ∧ va_P E.1 vwCl (w_ws E.2 S ad V) U.heap ∧ va_K E.1 vwCl (w_tys E.2) U ∧ va_D (fun _ => True) (w_ws E.2 S ad V) ∧ w_Nw U)) := by
  intro a U g mk q
  obtain ⟨q0, q1, qP, qK, qD, qN⟩ := q
  exact ⟨q0, q1, qP, va_K.moved (u := U) (U := U.calling g mk a) (Vm.Alike.refl U.vm) qK, qD, w_Nw.same (u := U) rfl qN⟩
/-- behind any call -/
theorem w_after (hG : w_G E S ad V A s H locs) (hr : va_Run p l e R s m args below meth c H locs nc ns mc' ms' (F0 m pc ls st) rest (w_Q E Q' (va_A (w_ws E.2 S ad V) H.size) As.toArray) (va_A (w_ws E.2 S ad V) H.size))
    (kk : ∀ (v : Option Value) (S' : List wK) (ad' : Nat → Nat) (V' : wV) (H1 : Heap) (locs1 : List Loc), Q' v S' ad' V' → w_G E S' ad' V' A s H1 locs1 → W p l e R s m args below meth c H1 locs1 (nc + mc') (ns + ms') Qs (F0 m (pc + 3) ls (v.toList ++ rest))) :
    W p l e R s m args below meth c H locs nc ns Qs (F0 m pc ls st) := by
  obtain ⟨hK, hP, hD, hS, hA, hN⟩ := hG
  have hF : ∀ q, va_A (w_ws E.2 S ad V) H.size q → A q := by
    intro q h
    rcases h with ⟨k, e, h⟩ | h
    · exact hD.2 k (q, e) h
    · exact hA q (Nat.le_trans hS.1 h)
  intro T hT X
  obtain ⟨v, st₀, t, T', L, h0, X', hL, e1, e2, ⟨⟨v', S', ad', V', hv, hq, hP1, hK1, hD1⟩, hz, hk⟩, stp⟩ := hr T hT X
  cases hv
  rw [h0] at hz hk
  have hal : s.vm.Alike t.vm := by rw [← e2]; exact X'.warmed.alike
  obtain ⟨t2, a1, b1⟩ := kk v S' ad' V' T'.heap (locs ++ L) hq ⟨hK, by rw [e1]; exact hP1, hD1.weaken (fun k q _ h => hF q.1 h), ⟨Nat.le_trans hS.1 (by rw [e1]; exact hz), fun q h1 h2 => by rw [e1]; exact (hk q (Nat.lt_of_lt_of_le h1 hS.1) (fun h => h2 (hF q h))).trans (hS.2.1 q h1 h2), fun l hl => (List.mem_append.mp hl).elim (hS.2.2 l) (fun h => hF _ (hL l h))⟩, hA, hN⟩ T' rfl X'
  exact ⟨t2, stp t2 a1, b1⟩
end WCALL
