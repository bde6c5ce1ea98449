/-! THE CLAIM OUT OF ONE WALK OF THE LAW'S BODY. Your part is whole_start (and what it stands on); all else here is the same for every law, but numbers. -/
def R_law : String := "FlagHoistsLaw"
def lw_P (b : Addr) (xs : List Int32) (args : Array Value) (s : State) : Prop := args = #[.ref b] ∧ s.IntsAt b xs ∧ xs.length ≤ 2048 ∧ (Jvm.Cond.and given_1 narrow_1).before args s = true
def lw_Q (_ : Array Value) (s : State) (o : Outcome) (t : State) : Prop := o = .returned (some (.int 1)) ∧ Framed s o t [] 600000 7302250
def lw_Z (below : List Frame) (a : Array Value) (s : State) : State → Prop := fun t => ∃ o, t.status = .running ∧ Ended t below o ∧ lw_Q a s o t
/-- the law's own end, with 1 on the stack, nothing written that was there before, its room as the claim has it -/
theorem lw_ret {p : Program} {l : Launch} {e : Env} {s : State} {m : MethodId} {below : List Frame} {meth : Method} {c : Code} {b : Nat} (hx : p.tables.exec = Jvm.exec) (hb : c.code = code) (hr : meth.sig.returnType = ret) (hlocks : meth.locks = false) {pc : Nat} {H : Heap} {ls : Array Slot} (hdg : decode code pc = .ok (.ireturn, 1)) : W p l e room_1 s m #[Value.ref b] below meth c H [] 600000 7302250 (lw_Z below #[Value.ref b] s) (F0 m pc ls [.int 1]) := by
  intro T hT X
  obtain ⟨fs, hret, hrun, hended, hW, hframe⟩ := X.leave (v := some (.int 1)) (hlocks := hlocks) (fun h => by rw [hr] at h; cases h)
  have hmeth' : T.vm.method? m = some meth := X.method'
  refine ⟨T.setFrames fs, ?_, .returned (some (.int 1)), hrun, hended, rfl, ⟨_, rfl⟩, hW, hframe⟩
  jvm_step X.here [X.here.top, hx, hb, hdg, hmeth', hr, ret, narrow_b1]
  (try refine ⟨rfl, ?_⟩); (try refine ⟨rfl, ?_⟩)
  first | (intro acts; rw [hret _ acts rfl rfl rfl]) | rw [hret _ _ rfl rfl rfl]
  exact Steps.refl _
/-- what holds at the law's entry: the machine, the code, the tables' words (any of lw_tbl by 'hts w (by decide +kernel)'), the script of L ints xs at the cell b, what the Statement gives of the start (any of its parts by flat_of_before) -/
def lw_At (p : Program) (s : State) (m : MethodId) (meth : Method) (c : Code) (b L : Nat) (xs : Nat → Int32) : Prop :=
  p.tables.exec = Jvm.exec ∧ c.code = code ∧ meth.sig.returnType = ret ∧ c.maxLocals = 4 ∧ s.vm.findClass R_law = some m.cls ∧ (∀ w ∈ lw_tbl, w.before #[Value.ref b] s = true) ∧ va_X b L xs s s.heap ∧ b < s.heap.size ∧ meth.locks = false ∧ (Jvm.Cond.and given_1 narrow_1).before #[Value.ref b] s = true

/-! THE LAW'S OWN FRAME: a walk of it (Wl), and its rows -/
def w_Lx (p : Program) (s : State) (m : MethodId) (meth : Method) (c : Code) (b L : Nat) (xs : Nat → Int32) : Prop := p.tables.exec = Jvm.exec ∧ c.code = cL_law ∧ c.maxLocals = 4 ∧ s.vm.findClass RL = some m.cls ∧ (∀ w ∈ w_T, w.before #[Value.ref b] s = true) ∧ meth.sig.returnType = ret ∧ meth.locks = false ∧ va_X b L xs s s.heap ∧ b < s.heap.size
def Wl (E : wE) (p : Program) (l : Launch) (e : Env) (s : State) (m : MethodId) (below : List Frame) (meth : Method) (c : Code) (b nc ns pc : Nat) (lv : List (Nat × Value)) (st : List Value) (S : List wK) (ad : Nat → Nat) (V : wV) : Prop :=
  ∀ (H : Heap) (locs : List Loc) (ls : Array Slot), w_G E S ad V (fun q => s.heap.size ≤ q) s H locs → lv_has ls 4 lv → W p l e room_1 s m #[Value.ref b] below meth c H locs nc ns (lw_Z below #[Value.ref b] s) (F0 m pc ls st)
section WLAW
variable {E : wE} {p : Program} {l : Launch} {e : Env} {s : State} {m : MethodId} {below : List Frame} {meth : Method} {c : Code} {b nc ns pc : Nat} {lv : List (Nat × Value)} {st : List Value} {S : List wK} {ad : Nat → Nat} {V : wV} {L : Nat} {xs : Nat → Int32}
theorem Wl_iconst (hX : w_Lx p s m meth c b L xs) {n : Int} {v : Int32} (hdg : decode cL_law pc = .ok (.iconst n, 1)) (hv : Int32.ofInt n = v) (k : Wl E p l e s m below meth c b nc ns (pc + 1) lv (.int v :: st) S ad V) : Wl E p l e s m below meth c b nc ns pc lv st S ad V := fun H locs ls hG hl => lv_iconst hX.1 hX.2.1 hdg hv (k H locs ls hG hl)
theorem Wl_bipush (hX : w_Lx p s m meth c b L xs) {n : Int} {v : Int32} (hdg : decode cL_law pc = .ok (.bipush n, 2)) (hv : (Int8.ofInt n).toInt32 = v) (k : Wl E p l e s m below meth c b nc ns (pc + 2) lv (.int v :: st) S ad V) : Wl E p l e s m below meth c b nc ns pc lv st S ad V := fun H locs ls hG hl => lv_bipush hX.1 hX.2.1 hdg hv (k H locs ls hG hl)
theorem Wl_iload_n (hX : w_Lx p s m meth c b L xs) {j : Fin 4} {i : Nat} {x : Int32} (hdg : decode cL_law pc = .ok (.iload_n j, 1)) (hi : (j : Nat) = i) (q : Nat) (hq : lv[q]? = some (i, .int x)) (k : Wl E p l e s m below meth c b nc ns (pc + 1) lv (.int x :: st) S ad V) : Wl E p l e s m below meth c b nc ns pc lv st S ad V := fun H locs ls hG hl => lv_iload_n hX.1 hX.2.1 hdg hi (lv_at hl q hq) (k H locs ls hG hl)
theorem Wl_aload_n (hX : w_Lx p s m meth c b L xs) {j : Fin 4} {i x : Nat} (hdg : decode cL_law pc = .ok (.aload_n j, 1)) (hi : (j : Nat) = i) (q : Nat) (hq : lv[q]? = some (i, .ref x)) (k : Wl E p l e s m below meth c b nc ns (pc + 1) lv (.ref x :: st) S ad V) : Wl E p l e s m below meth c b nc ns pc lv st S ad V := fun H locs ls hG hl => lv_aload_n hX.1 hX.2.1 hdg hi (lv_at hl q hq) (k H locs ls hG hl)
theorem Wl_istore_n (hX : w_Lx p s m meth c b L xs) {j : Fin 4} {i : Nat} {x : Int32} {lv' : List (Nat × Value)} (hdg : decode cL_law pc = .ok (.istore_n j, 1)) (hi : (j : Nat) = i) (hn : i < 4) (hl' : (i, Value.int x) :: lv.filter (fun q => !(q.1 == i) && !(q.1 + 1 == i && q.2.category == 2)) = lv') (k : Wl E p l e s m below meth c b nc ns (pc + 1) lv' st S ad V) : Wl E p l e s m below meth c b nc ns pc lv (.int x :: st) S ad V := fun H locs ls hG hl => lv_istore_n hX.1 hX.2.1 hdg hi hl hn hl' (fun ls hl => k H locs ls hG hl)
theorem Wl_astore_n (hX : w_Lx p s m meth c b L xs) {j : Fin 4} {i : Nat} {x : Nat} {lv' : List (Nat × Value)} (hdg : decode cL_law pc = .ok (.astore_n j, 1)) (hi : (j : Nat) = i) (hn : i < 4) (hl' : (i, Value.ref x) :: lv.filter (fun q => !(q.1 == i) && !(q.1 + 1 == i && q.2.category == 2)) = lv') (k : Wl E p l e s m below meth c b nc ns (pc + 1) lv' st S ad V) : Wl E p l e s m below meth c b nc ns pc lv (.ref x :: st) S ad V := fun H locs ls hG hl => lv_astore_n hX.1 hX.2.1 hdg hi hl hn hl' (fun ls hl => k H locs ls hG hl)
theorem Wl_iinc (hX : w_Lx p s m meth c b L xs) {i : Nat} {n : Int} {x0 x : Int32} {lv' : List (Nat × Value)} (hdg : decode cL_law pc = .ok (.iinc i n, 3)) (q : Nat) (hq : lv[q]? = some (i, .int x0)) (hv : x0 + Int32.ofInt n = x) (hn : i < 4) (hl' : (i, Value.int x) :: lv.filter (fun q => !(q.1 == i) && !(q.1 + 1 == i && q.2.category == 2)) = lv') (k : Wl E p l e s m below meth c b nc ns (pc + 3) lv' st S ad V) : Wl E p l e s m below meth c b nc ns pc lv st S ad V := fun H locs ls hG hl => lv_iinc hX.1 hX.2.1 hdg hl hq hv hn hl' (fun ls hl => k H locs ls hG hl)
theorem Wl_iadd (hX : w_Lx p s m meth c b L xs) {x y : Int32} (hdg : decode cL_law pc = .ok (.iadd, 1)) {z : Int32} (hz : x + y = z) (k : Wl E p l e s m below meth c b nc ns (pc + 1) lv (.int z :: st) S ad V) : Wl E p l e s m below meth c b nc ns pc lv (.int y :: .int x :: st) S ad V := fun H locs ls hG hl => lv_iadd hX.1 hX.2.1 hdg (hz.symm ▸ (k H locs ls hG hl))
theorem Wl_isub (hX : w_Lx p s m meth c b L xs) {x y : Int32} (hdg : decode cL_law pc = .ok (.isub, 1)) {z : Int32} (hz : x - y = z) (k : Wl E p l e s m below meth c b nc ns (pc + 1) lv (.int z :: st) S ad V) : Wl E p l e s m below meth c b nc ns pc lv (.int y :: .int x :: st) S ad V := fun H locs ls hG hl => lv_isub hX.1 hX.2.1 hdg (hz.symm ▸ (k H locs ls hG hl))
theorem Wl_iand (hX : w_Lx p s m meth c b L xs) {x y : Int32} (hdg : decode cL_law pc = .ok (.iand, 1)) {z : Int32} (hz : x &&& y = z) (k : Wl E p l e s m below meth c b nc ns (pc + 1) lv (.int z :: st) S ad V) : Wl E p l e s m below meth c b nc ns pc lv (.int y :: .int x :: st) S ad V := fun H locs ls hG hl => lv_iand hX.1 hX.2.1 hdg (hz.symm ▸ (k H locs ls hG hl))
theorem Wl_dup (hX : w_Lx p s m meth c b L xs) {va : Value} (hdg : decode cL_law pc = .ok (.dup, 1)) (hva : va.category = 1) (k : Wl E p l e s m below meth c b nc ns (pc + 1) lv (va :: va :: st) S ad V) : Wl E p l e s m below meth c b nc ns pc lv (va :: st) S ad V := fun H locs ls hG hl => lv_dup hX.1 hX.2.1 hdg hva (k H locs ls hG hl)
theorem Wl_icmp_eq (hX : w_Lx p s m meth c b L xs) {x y : Int32} {off : Int} {tgt : Nat} (hdg : decode cL_law pc = .ok (.if_icmp .eq off, 3)) (ht : (pc : Int) + off = (tgt : Int)) {a a2 : Int} (ha : x.toInt = a) (hb : y.toInt = a2) (kt : a = a2 → Wl E p l e s m below meth c b nc ns tgt lv st S ad V) (kf : ¬ a = a2 → Wl E p l e s m below meth c b nc ns (pc + 3) lv st S ad V) : Wl E p l e s m below meth c b nc ns pc lv (.int y :: .int x :: st) S ad V := fun H locs ls hG hl => lv_icmp_eq hX.1 hX.2.1 hdg ht (fun h => kt (by rw [← ha, ← hb, h]) H locs ls hG hl) (fun h => kf (fun q => h (Int32.toInt_inj.mp (by rw [ha, hb]; exact q))) H locs ls hG hl)
theorem Wl_icmp_gt (hX : w_Lx p s m meth c b L xs) {x y : Int32} {off : Int} {tgt : Nat} (hdg : decode cL_law pc = .ok (.if_icmp .gt off, 3)) (ht : (pc : Int) + off = (tgt : Int)) {a a2 : Int} (ha : x.toInt = a) (hb : y.toInt = a2) (kt : a2 < a → Wl E p l e s m below meth c b nc ns tgt lv st S ad V) (kf : ¬ a2 < a → Wl E p l e s m below meth c b nc ns (pc + 3) lv st S ad V) : Wl E p l e s m below meth c b nc ns pc lv (.int y :: .int x :: st) S ad V := fun H locs ls hG hl => lv_icmp_gt hX.1 hX.2.1 hdg ht (fun h => kt (by rw [← ha, ← hb]; exact Int32.lt_iff_toInt_lt.mp h) H locs ls hG hl) (fun h => kf (by rw [← ha, ← hb]; exact fun q => h (Int32.lt_iff_toInt_lt.mpr q)) H locs ls hG hl)
theorem Wl_goto (hX : w_Lx p s m meth c b L xs) {off : Int} {tgt : Nat} (hdg : decode cL_law pc = .ok (.goto off, 3)) (ht : (pc : Int) + off = (tgt : Int)) (k : Wl E p l e s m below meth c b nc ns tgt lv st S ad V) : Wl E p l e s m below meth c b nc ns pc lv st S ad V := fun H locs ls hG hl => lv_goto hX.1 hX.2.1 hdg ht (k H locs ls hG hl)
theorem Wl_tableIn (hX : w_Lx p s m meth c b L xs) {dflt lo hi : Int} {offs : Array Int} {len : Nat} {x : Int32} {off : Int} {tgt : Nat} (hdg : decode cL_law pc = .ok (.tableswitch dflt lo hi offs, len)) {a : Int} (ha : x.toInt = a) (h1 : ¬ a < lo) (h2 : ¬ hi < a) (ho : offs[(a - lo).toNat]? = some off) (ht : (pc : Int) + off = (tgt : Int)) (k : Wl E p l e s m below meth c b nc ns tgt lv st S ad V) : Wl E p l e s m below meth c b nc ns pc lv (.int x :: st) S ad V := fun H locs ls hG hl => lv_tableIn hX.1 hX.2.1 hdg (ha.symm ▸ h1) (ha.symm ▸ h2) (ha.symm ▸ ho) ht (k H locs ls hG hl)
theorem Wl_tableOut (hX : w_Lx p s m meth c b L xs) {dflt lo hi : Int} {offs : Array Int} {len : Nat} {x : Int32} {tgt : Nat} (hdg : decode cL_law pc = .ok (.tableswitch dflt lo hi offs, len)) {a : Int} (ha : x.toInt = a) (h : a < lo ∨ hi < a) (ht : (pc : Int) + dflt = (tgt : Int)) (k : Wl E p l e s m below meth c b nc ns tgt lv st S ad V) : Wl E p l e s m below meth c b nc ns pc lv (.int x :: st) S ad V := fun H locs ls hG hl => lv_tableOut hX.1 hX.2.1 hdg (ha.symm ▸ h) ht (k H locs ls hG hl)
theorem Wl_len (hX : w_Lx p s m meth c b L xs) (hdg : decode cL_law pc = .ok (.arraylength, 1)) (k : Wl E p l e s m below meth c b nc ns (pc + 1) lv (.int (nI L) :: st) S ad V) : Wl E p l e s m below meth c b nc ns pc lv (.ref b :: st) S ad V := fun H locs ls hG hl => va_slen hX.1 hX.2.1 hX.2.2.2.2.2.2.2.1 hX.2.2.2.2.2.2.2.2 (Nat.not_le.mpr hX.2.2.2.2.2.2.2.2) hG.2.2.2.1 hdg (k H locs ls hG hl)
theorem Wl_sld {n : Nat} {x y : Int32} (hX : w_Lx p s m meth c b L xs) (hx : x = nI n) (hn : n < L) (hL : L < 2 ^ 31) (hy : xs n = y) (hdg : decode cL_law pc = .ok (.iaload, 1)) (k : Wl E p l e s m below meth c b nc ns (pc + 1) lv (.int y :: st) S ad V) : Wl E p l e s m below meth c b nc ns pc lv (.int x :: .ref b :: st) S ad V := by
  intro H locs ls hG hl
  subst hx hy
  refine va_sld hX.1 hX.2.1 hX.2.2.2.2.2.2.2.1 hX.2.2.2.2.2.2.2.2 (Nat.not_le.mpr hX.2.2.2.2.2.2.2.2) hG.2.2.2.1 (vp_in_nI hn hL) hdg ?_
  rw [nI_clamp (n := n) (by omega)]
  exact k H locs ls hG hl
theorem Wl_ret (hX : w_Lx p s m meth c b L xs) (hc : nc ≤ 600000) (hs : ns ≤ 7302250) (hdg : decode cL_law pc = .ok (.ireturn, 1)) : Wl E p l e s m below meth c b nc ns pc lv [.int 1] S ad V := by
  intro H locs ls hG hl
  refine W.widen hc hs ?_
  refine va_forget hG.2.2.2.1.2.2 ?_
  exact lw_ret hX.1 hX.2.1 hX.2.2.2.2.2.1 hX.2.2.2.2.2.2.1 hdg
theorem Wl_lv {lv2 : List (Nat × Value)} (ks : List Nat) (h : lv_pick lv ks = lv2) (k : Wl E p l e s m below meth c b nc ns pc lv2 st S ad V) : Wl E p l e s m below meth c b nc ns pc lv st S ad V := fun H locs ls hG hl => k H locs ls hG (lv_sub hl ks h)
variable {S' : List wK} {lvf : (Nat → Nat) → List (Nat × Value)} {stf : (Nat → Nat) → List Value}
theorem Wl_new (hX : w_Lx p s m meth c b L xs) {idx ci N : Nat} {C : String} {T : u_T} {ty0 : Nat → FieldType} {sl : List (Option (Option Nat))} {n0 : Nat} (hl0 : S.length = n0) (hcd : w_cd S) (hci : vwCl[ci]? = some (C, T, N)) (hin : ∀ w ∈ u_ws C T N, w ∈ w_T) (hty : ∀ k, k < N → parseFieldDescriptor (T k).2.2.1 = some (ty0 k)) (hcl : Cond.classLink RL idx C ∈ w_T) (hinst : Cond.instantiable C N ∈ w_T) (hini : Cond.initialized C ∈ w_T)
    (hfs : ∀ (a : Nat → Nat) (j : Nat), j < N → defaultValue (ty0 j) = vp_V (w_fs a (fun _ => 0) sl) j) (hnr : sl.all (w_kb 0) = true) (hV : V n0 = fun _ => 0) (hS : S ++ [.inl (ci, sl)] = S') (hlv : lvf ad = lv) (hst : stf ad = st) (hag : ∀ a' : Nat → Nat, (∀ j, j < n0 → a' j = ad j) → lvf a' = lvf ad ∧ stf a' = stf ad)
    (hc : nc + 1 ≤ 600000) (hs : ns + N ≤ 7302250) (hdg : decode cL_law pc = .ok (.new idx, 3)) (k : ∀ a' : Nat → Nat, (∀ j, j < n0 → a' j = ad j) → Wl E p l e s m below meth c b (nc + 1) (ns + N) (pc + 3) (lvf a') (.ref (a' n0) :: stf a') S' a' V) : Wl E p l e s m below meth c b nc ns pc lv st S ad V := by
  intro H locs ls hG hl
  subst hl0 hS hlv hst
  refine va_new (ci := ci) (D := E.1) (cl := vwCl) (tys := w_tys E.2) (fs := w_fs ad (fun _ => 0) sl) hX.1 hX.2.1 hX.2.2.2.2.1 hin ty0 hty hX.2.2.2.1 (hX.2.2.2.2.1 _ hcl) (hX.2.2.2.2.1 _ hinst) (hX.2.2.2.2.1 _ hini) hG.1 hG.2.1 hG.2.2.1 hG.2.2.2.1 hG.2.2.2.2.1 hci (hfs ad) hc hs hdg (fun q H1 hP hD hS1 => ?_)
  have hk : w_fs (w_ad ad S.length q) (fun _ => 0) sl = w_fs ad (fun _ => 0) sl := w_fs_ag hnr (fun j hj => absurd hj (Nat.not_lt_zero j))
  have e1 := w_ws_new (ca := E.2) (ad := ad) (V := V) (q := q) (k := .inl (ci, sl)) hcd
  have e2 : w_cell E.2 (w_ad ad S.length q) (V S.length) (.inl (ci, sl)) = .inr (ci, w_fs ad (fun _ => 0) sl) := by rw [hV, ← hk]; rfl
  rw [e2] at e1
  rw [← e1] at hP hD
  have ha : ∀ j, j < S.length → w_ad ad S.length q j = ad j := fun j hj => w_ad_lt hj
  have k1 := k _ ha H1 locs ls ⟨hG.1, hP, hD, hS1, hG.2.2.2.2⟩ (by rw [(hag _ ha).1]; exact hl)
  rw [w_ad_s, (hag _ ha).2] at k1
  exact k1
variable {M' : wM} {As rest : List Value}
theorem Wl_ctor {i n idx d' mc' ms' b' : Nat} {S1 : List wK} {q : wV → Prop} (hX : w_Lx p s m meth c b L xs) (C : w_C E M' (w_R d' mc' ms') mc' ms' (.ref (ad i) :: As) S ad V (w_n S1 b' ad q)) (hY : w_YI M' n) (hw : Cond.methodLink RL idx M'.1 ∈ w_T) (hn : As.length = n) (hd : d' < 8) (hL : M'.2.2.1 ≤ 11) (hc : nc + mc' ≤ 600000) (hs : ns + ms' ≤ 7302250) (hlv : lvf ad = lv) (hst : st = As.reverse ++ .ref (ad i) :: stf ad) (hag : ∀ a' : Nat → Nat, (∀ j, j < b' → a' j = ad j) → lvf a' = lvf ad ∧ stf a' = stf ad) (hcat : ((stf ad).map fun v => v.category).sum ≤ 8) (hdg : decode cL_law pc = .ok (.invokespecial idx, 3))
    (kk : ∀ (a' : Nat → Nat) (V' : wV), (∀ j, j < b' → a' j = ad j) → q V' → Wl E p l e s m below meth c b (nc + mc') (ns + ms') (pc + 3) (lvf a') (stf a') S1 a' V') : Wl E p l e s m below meth c b nc ns pc lv st S ad V := by
  intro H locs ls hG hl
  subst hlv
  obtain ⟨y1, y2, y4, y6, y7, y5⟩ := hY
  have hM' : M'.2.2.2 = none := y7
  have hr3 : (w_R d' mc' ms').frames + 1 ≤ room_1.frames := by show d' + 1 ≤ 10; omega
  have hr4 : 8 + (M'.2.2.1 + 11) + (w_R d' mc' ms').locals ≤ room_1.locals := by show 8 + (M'.2.2.1 + 11) + 30 * d' ≤ 338; omega
  have Cl := C l H.size
  rw [hM'] at Cl y1
  refine w_after hG (va_runI (As := As) (rest := stf ad) ⟨hX.1, hX.2.1, hX.2.2.1, hX.2.2.2.1, hX.2.2.2.2.1⟩ Cl ⟨callB_of n hX.2.2.2.2.1 (w_goodT y1) rfl rfl rfl (hX.2.2.2.2.1 _ y4) (hX.2.2.2.2.1 _ hw) y5 ⟨hr3, hr4⟩, y6, hX.2.2.2.2.1 _ y2⟩ ⟨w_blind, fun U hU hW => ⟨rfl, by rw [hU], by rw [hU]; exact hG.2.1, va_K.moved hW.alike hG.1, hG.2.2.1.weaken (fun _ _ _ _ => trivial), hG.2.2.2.2.2.warm hW⟩⟩ rfl hn hl.1 hst (lv_room hcat) hdg ⟨hc, hs⟩) (fun v S' ad' V' H1 locs1 hq hG1 => ?_)
  obtain ⟨rfl, rfl, ha, hq⟩ := hq
  have k1 := kk ad' V' ha hq H1 locs1 ls hG1 (by rw [(hag _ ha).1]; exact hl)
  rw [(hag _ ha).2] at k1
  exact k1
theorem Wl_call {i ci idx n d' : Nat} {sl : List (Option (Option Nat))} {q : Int32 → wV → Prop} (hX : w_Lx p s m meth c b L xs) (C : w_C E M' (w_R d' 0 0) 0 0 (.ref (ad i) :: As) S ad V (w_i S ad q)) (hY : w_YV M' n) (hw : Cond.methodLink RL idx M'.1 ∈ w_T) (hi : S[i]? = some (.inl (ci, sl))) (hci : (vwCl[ci]?).map (fun q => q.1) = some M'.1.cls) (hdg : decode cL_law pc = .ok (.invokevirtual idx, 3)) (hd : d' < 8) (hL : M'.2.2.1 ≤ 11) (hc : nc ≤ 600000) (hs : ns ≤ 7302250) (hn : As.length = n) (hst : st = As.reverse ++ .ref (ad i) :: rest) (hcat : (rest.map fun v => v.category).sum ≤ 8) (kk : ∀ (r : Int32) (V' : wV), q r V' → Wl E p l e s m below meth c b nc ns (pc + 3) lv (.int r :: rest) S ad V') : Wl E p l e s m below meth c b nc ns pc lv st S ad V := by
  intro H locs ls hG hl
  obtain ⟨y1, y2, y3, y4, y5⟩ := hY
  have hr3 : (w_R d' 0 0).frames + 1 ≤ room_1.frames := by show d' + 1 ≤ 10; omega
  have hr4 : 8 + (M'.2.2.1 + 11) + (w_R d' 0 0).locals ≤ room_1.locals := by show 8 + (M'.2.2.1 + 11) + 30 * d' ≤ 338; omega
  obtain ⟨qc, hqv, hqc⟩ : ∃ q : vw_C, vwCl[ci]? = some q ∧ q.1 = M'.1.cls := by
    cases h : vwCl[ci]? with
    | none => rw [h] at hci; cases hci
    | some q => rw [h] at hci; exact ⟨q, rfl, Option.some.inj hci⟩
  have hrecv := va_recv hG.1 hG.2.1 hqv (w_ws_get (ca := E.2) (ad := ad) (V := V) hi)
  rw [hqc] at hrecv
  refine w_after hG (va_runV (As := As) (rest := rest) ⟨hX.1, hX.2.1, hX.2.2.1, hX.2.2.2.1, hX.2.2.2.2.1⟩ (C l H.size) ⟨callB_of n hX.2.2.2.2.1 (w_goodT y1) rfl rfl rfl (hX.2.2.2.2.1 _ y4) (hX.2.2.2.2.1 _ hw) y5 ⟨hr3, hr4⟩, hX.2.2.2.2.1 _ y2, hX.2.2.2.2.1 _ y3⟩ ⟨w_blind, hrecv, fun U hU hW => ⟨rfl, by rw [hU], by rw [hU]; exact hG.2.1, va_K.moved hW.alike hG.1, hG.2.2.1.weaken (fun _ _ _ _ => trivial), hG.2.2.2.2.2.warm hW⟩⟩ rfl hn hl.1 hst (lv_room hcat) hdg ⟨hc, hs⟩) (fun v S' ad' V' H1 locs1 hq hG1 => ?_)
  obtain ⟨rfl, rfl, r, rfl, hq⟩ := hq
  exact kk r V' hq H1 locs1 ls hG1 hl
end WLAW
theorem ML.hi {V V' : wV} {B n : Nat} {tt : Nat → Nat} {nb : Nat} {ln : Nat → Nat} {lt : Nat → Nat → Nat} {col siz : Nat → Nat} {sg : aSig} {hn : Nat} {hi im : Nat → aSig} {kp : Nat → Bool} {q : Nat} {sk sv : Nat → Nat} (h : ML V B n tt nb ln lt col siz sg hn hi im kp q sk sv) (f : ∀ j, 53 ≤ j → V' j = V j) : ML V' B n tt nb ln lt col siz sg hn hi im kp q sk sv := h.of (fun k _ => by rw [f 53 (by omega)]) (fun j a _ => f j (by omega))
theorem CL.lo {V V' : wV} {B n : Nat} {tt : Nat → Nat} {nb : Nat} {ln : Nat → Nat} {lt : Nat → Nat → Nat} {col siz : Nat → Nat} {sg : aSig} {hn : Nat} {hi im : Nat → aSig} {kp : Nat → Bool} {q : Nat} {sk sv : Nat → Nat} (h : CL V B n tt nb ln lt col siz sg hn hi im kp q sk sv) (f : ∀ j, j < 53 → V' j = V j) : CL V' B n tt nb ln lt col siz sg hn hi im kp q sk sv := h.of (fun j hj => f j (by omega))
theorem ML.wfc {V : wV} {B n : Nat} {tt : Nat → Nat} {nb : Nat} {ln : Nat → Nat} {lt : Nat → Nat → Nat} {col siz : Nat → Nat} {sg : aSig} {hn : Nat} {hi im : Nat → aSig} {kp : Nat → Bool} {q : Nat} {sk sv : Nat → Nat} (h : ML V B n tt nb ln lt col siz sg hn hi im kp q sk sv) : WFC nb ln lt := fun s hs => ⟨(h.2.1.2.2 s hs).2.1, (h.2.1.2.2 s hs).2.2.1, fun i hi => ((h.2.1.2.2 s hs).2.2.2 i hi).2⟩
/-- class and reference hold the same -/
def INV (V : wV) (B : Nat) : Prop := ∃ (n : Nat) (tt : Nat → Nat) (nb : Nat) (ln : Nat → Nat) (lt : Nat → Nat → Nat) (col siz : Nat → Nat) (sg : aSig) (hn : Nat) (hi im : Nat → aSig) (kp : Nat → Bool) (q : Nat) (sk sv : Nat → Nat), CL V B n tt nb ln lt col siz sg hn hi im kp q sk sv ∧ ML V B n tt nb ln lt col siz sg hn hi im kp q sk sv ∧ DIS nb ln lt
theorem INV.mk {V : wV} {B C n : Nat} {tt : Nat → Nat} {nb : Nat} {ln : Nat → Nat} {lt : Nat → Nat → Nat} {col siz : Nat → Nat} {sg : aSig} {hn : Nat} {hi im : Nat → aSig} {kp : Nat → Bool} {q : Nat} {sk sv : Nat → Nat} (h : CL V B n tt nb ln lt col siz sg hn hi im kp q sk sv) (g : ML V B n tt nb ln lt col siz sg hn hi im kp q sk sv) (d : DIS nb ln lt) (hBC : B ≤ C) : INV V C := ⟨n, tt, nb, ln, lt, col, siz, sg, hn, hi, im, kp, q, sk, sv, h.mono hBC, g.mono hBC, d⟩
