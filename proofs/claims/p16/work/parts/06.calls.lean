/-! making cells, ends, calls -/
section GO2
variable {l : Launch} {own : String} {cc : ByteArray} {nL : Nat} {R : Room} {nm : String} {rt : Option FieldType} {n0 mc ms : Nat} {Xf : Nat → State → Prop} {Qf : Option Value → HP → Prop} {sl pc : Nat} {lv : List (Nat × Value)} {st : List Value} {h : HP}
def g_at (kd : Nat) : ArrayType := match kd with
  | 9 => .byte
  | 10 => .int
  | 11 => .long
  | _ => .boolean
theorem g_newS {D : va_G} {cy : Nat → ClassId} {zb : Nat × Nat} {h : HP} {H H1 : Heap} {s : State} {locs : List Loc} {kd len : Nat} (hP : va_P D vwCl (g_ws cy zb h) H) (hS : va_S (fun q => zb.1 ≤ q) s.heap H locs) (hsz : H.size = zb.1 + h.1.length) (z1 : H1.size = zb.1 + h.1.length + 1) (o1 : ∀ q : Nat, q < zb.1 + h.1.length → H1[q]? = H[q]?) (hnew : va_at D vwCl (zb.1 + h.1.length, g_cell cy zb (hN h kd len) h.1.length (kd, len)) H1) : va_P D vwCl (g_ws cy zb (hN h kd len)) H1 ∧ va_S (fun q => zb.1 ≤ q) s.heap H1 locs := by
  have hk : ∀ (k : Nat) (x : Nat × va_E), (g_ws cy zb h)[k]? = some x → H1[x.1]? = H[x.1]? := fun k x hx => o1 x.1 (by rw [← hsz]; exact (hP k x hx).lt)
  refine ⟨?_, ⟨Nat.le_trans hS.1 (by omega), fun x h1 h2 => (o1 x (by rw [← hsz]; exact Nat.lt_of_lt_of_le h1 hS.1)).trans (hS.2.1 x h1 h2), hS.2.2⟩⟩
  rw [← g_ws_push (cy := cy) (zb := zb) (h := h) (h' := hN h kd len) (sh := (kd, len)) rfl (fun c' sh' hne => g_cell_N hne) rfl]
  refine (hP.kept hk).app (fun k x hx => ?_)
  have hz : k < 1 := (List.getElem?_eq_some_iff.mp hx).1
  rw [show k = 0 by omega] at hx
  cases hx
  exact hnew
theorem g_RA_fun {U : State} {c1 c2 : ClassId} {ty : FieldType} (hp : ty = .byte ∨ ty = .int ∨ ty = .long ∨ ty = .boolean) (h1 : va_RA U c1 ty) (h2 : U.vm.findClass ("[" ++ ty.toString) = some c2) : c2 = c1 := by
  rcases hp with rfl | rfl | rfl | rfl <;> exact Option.some.inj (h2.symm.trans h1)
theorem go_newa {kd len : Nat} {n : Int32} (h9 : kd = 9 ∨ kd = 10 ∨ kd = 11 ∨ kd = 12) (ha : Cond.arrayClass (newarray.typeOf (g_at kd)) ∈ gw) (hn0 : ¬ n < 0) (hN0 : n.toNatClampNeg = len) (hby : len * componentBytes (newarray.typeOf (g_at kd)) ≤ 536870912) (hcs : h.1.length - n0 + 1 ≤ R.cells) (hsl : sl + len ≤ R.slots) (hd : decode cc pc = .ok (.newarray (g_at kd), 2)) (k : Go l own cc nL R nm rt n0 mc ms Xf Qf (sl + len) (pc + 2) lv (.ref h.1.length :: st) (hN h kd len)) : Go l own cc nL R nm rt n0 mc ms Xf Qf sl pc lv (.int n :: st) h := by
  intro p e s m args below meth c D cy zb Q H locs ls C E hP hS hn hl
  refine g_sz (fun hup => ?_)
  have h0 := C.2.2.2.2.2.2.2.1
  have hlo := g_lo hP hS h0 hn
  have hsz : H.size = zb.1 + h.1.length := by omega
  refine va_newaK C.1 C.2.1 (C.2.2.2.2.1 _ ha) rfl hd rfl hn0 hN0 hby hcs hsl hsz fun H1 cA e1 z1 o1 hAr hNm => ?_
  have hK := C.2.2.2.2.2.2.1
  have key : va_at D vwCl (zb.1 + h.1.length, g_cell cy zb (hN h kd len) h.1.length (kd, len)) H1 := by
    rcases h9 with rfl | rfl | rfl | rfl
    · have hcA := g_RA_fun (Or.inl rfl) (hK.2 0 _ rfl).2 hNm
      subst hcA
      simp only [g_cell, hN]
      exact e1.trans (by simp [vp_cell, defaultValue, newarray.typeOf, g_at])
    · have hcA := g_RA_fun (Or.inr (Or.inl rfl)) (hK.2 1 _ rfl).2 hNm
      subst hcA
      simp only [g_cell, hN]
      exact e1.trans (by simp [vp_cell, defaultValue, newarray.typeOf, g_at])
    · have hcA := g_RA_fun (Or.inr (Or.inr (Or.inl rfl))) (hK.2 2 _ rfl).2 hNm
      subst hcA
      simp only [g_cell, hN]
      exact e1.trans (by simp [vp_cell, defaultValue, newarray.typeOf, g_at])
    · have hcA := g_RA_fun (Or.inr (Or.inr (Or.inr rfl))) (hK.2 3 _ rfl).2 hNm
      subst hcA
      simp only [g_cell, hN]
      exact e1.trans (by simp [vp_cell, defaultValue, newarray.typeOf, g_at])
  obtain ⟨hP1, hS1⟩ := g_newS hP hS hsz z1 o1 key
  have K := k p e s m args below meth c D cy zb Q H1 locs ls C E hP1 hS1 (by simp [hN]; omega) hl
  have hc1 : (hN h kd len).1.length - n0 = h.1.length - n0 + 1 := by simp [hN]; omega
  rw [hc1] at K
  exact K
def g_df (ty : FieldType) : Value := if g_kind ty = 0 then .int 0 else if g_kind ty = 1 then .long 0 else .null
theorem g_dfs (ci : Nat) (C : String) (T : u_T) (N : Nat) (hc : vwCl[ci]? = some (C, T, N)) : ∀ j, j < N → defaultValue (g_ty ci j) = g_df (g_ty ci j) := by
  match ci, hc with
  | 0, hc => cases hc; decide +kernel
  | 1, hc => cases hc; decide +kernel
  | 2, hc => cases hc; decide +kernel
  | 3, hc => cases hc; decide +kernel
  | 4, hc => cases hc; decide +kernel
  | 5, hc => cases hc; decide +kernel
  | 6, hc => cases hc; decide +kernel
  | 7, hc => cases hc; decide +kernel
  | 8, hc => cases hc; decide +kernel
  | k + 9, hc => simp [vwCl] at hc
theorem go_new {ci idx N : Nat} {Cn : String} {T : u_T} (hc : vwCl[ci]? = some (Cn, T, N)) (h1 : Cond.classLink own idx Cn ∈ gw) (h2 : Cond.instantiable Cn N ∈ gw) (h3 : Cond.initialized Cn ∈ gw) (hcs : h.1.length - n0 + 1 ≤ R.cells) (hsl : sl + N ≤ R.slots) (hd : decode cc pc = .ok (.new idx, 3)) (k : Go l own cc nL R nm rt n0 mc ms Xf Qf (sl + N) (pc + 3) lv (.ref h.1.length :: st) (hN h ci N)) : Go l own cc nL R nm rt n0 mc ms Xf Qf sl pc lv st h := by
  intro p e s m args below meth c D cy zb Q H locs ls C E hP hS hn hl
  refine g_sz (fun hup => ?_)
  have h0 := C.2.2.2.2.2.2.2.1
  have hlo := g_lo hP hS h0 hn
  have hsz : H.size = zb.1 + h.1.length := by omega
  have hK := C.2.2.2.2.2.2.1
  have hKn := hK.1 ci _ hc
  have hts := C.2.2.2.2.1
  obtain ⟨g1, g2, g3⟩ := g_in ci Cn T N hc
  have hci : ci < 9 := (List.getElem?_eq_some_iff.mp hc).1
  refine W.newcK C.1 C.2.1 C.2.2.2.1 (hts _ h1) (hts _ h2) (hts _ h3) rfl hd hcs hsl hKn.2.1 hsz fun H1 kC hkC e1 z1 o1 => ?_
  have key : va_at D vwCl (zb.1 + h.1.length, g_cell cy zb (hN h ci N) h.1.length (ci, N)) H1 := by
    rw [show g_cell cy zb (hN h ci N) h.1.length (ci, N) = .inr (ci, (List.range N).map (fun j => g_fv zb (hN h ci N) h.1.length j (g_ty ci j))) by simp [g_cell, hci]]
    refine ⟨_, hc, (u_born (g_ty ci) hts g1 hKn hkC e1 g2).to (fun j hj => ?_)⟩
    rw [g_dfs ci Cn T N hc j hj]
    simp only [vp_V, g_df, g_fv, hN]
    rw [List.getD_eq_getElem?_getD, List.getElem?_map, List.getElem?_range hj]
    simp [gv]
  obtain ⟨hP1, hS1⟩ := g_newS hP hS hsz z1 o1 key
  have K := k p e s m args below meth c D cy zb Q H1 locs ls C E hP1 hS1 (by simp [hN]; omega) hl
  have hc1 : (hN h ci N).1.length - n0 = h.1.length - n0 + 1 := by simp [hN]; omega
  rw [hc1] at K
  exact K
theorem go_objInit {c idx : Nat} (h1 : Cond.methodLink own idx objectInit ∈ gw) (h2 : Cond.instanceMethod objectInit ∈ gw) (h3 : Cond.code objectInit ⟨#[0xb1]⟩ 1 none ∈ gw) (hfr : 1 ≤ R.frames) (hlo : 20 ≤ R.locals) (hst : (st.map fun v => v.category).sum ≤ 8) (hd : decode cc pc = .ok (.invokespecial idx, 3)) (k : Go l own cc nL R nm rt n0 mc ms Xf Qf sl (pc + 3) lv st h) : Go l own cc nL R nm rt n0 mc ms Xf Qf sl pc lv (.ref c :: st) h := by
  intro p e s m args below meth c2 D cy zb Q H locs ls C E hP hS hn hl
  have hts := C.2.2.2.2.1
  have hcat : ((st.map (gv zb)).map fun v => v.category).sum ≤ 8 := by
    rw [List.map_map, show ((fun v : Value => v.category) ∘ gv zb) = (fun v => v.category) from funext (gv_cat zb)]
    exact hst
  have hr := lv_room (m := m) (pc := pc) (ls := ls) (rest := (Value.ref c :: st).map (gv zb)) hcat
  exact W.objInit C.1 C.2.1 C.2.2.2.1 (hts _ h1) (hts _ h2) (hts _ h3) rfl (by rw [C.2.2.1]; exact hl.1) rfl hd hfr (by omega) (k p e s m args below meth c2 D cy zb Q H locs ls C E hP hS hn hl)
/-! ends -/
theorem go_iret {v : Int32} {ty : FieldType} (hna : narrow ty (.int v) = .int v) (hq : Qf (some (.int v)) h) (hlen : h.1.length = n0 + mc) (hsl : sl ≤ ms) (hd : decode cc pc = .ok (.ireturn, 1)) : Go l own cc nL R nm (some ty) n0 mc ms Xf Qf sl pc lv [.int v] h := by
  intro p e s m args below meth c2 D cy zb Q H locs ls C E hP hS hn hl
  exact W.widen (by omega) hsl (E (some (.int v)) h H locs pc ls hq ⟨hd, hna⟩ hlen hP hS)
theorem go_lret {v : Int64} (hq : Qf (some (.long v)) h) (hlen : h.1.length = n0 + mc) (hsl : sl ≤ ms) (hd : decode cc pc = .ok (.lreturn, 1)) : Go l own cc nL R nm (some .long) n0 mc ms Xf Qf sl pc lv [.long v] h := by
  intro p e s m args below meth c2 D cy zb Q H locs ls C E hP hS hn hl
  exact W.widen (by omega) hsl (E (some (.long v)) h H locs pc ls hq ⟨hd, rfl⟩ hlen hP hS)
theorem go_vret (hq : Qf none h) (hlen : h.1.length = n0 + mc) (hsl : sl ≤ ms) (hd : decode cc pc = .ok (.return_, 1)) : Go l own cc nL R nm none n0 mc ms Xf Qf sl pc lv [] h := by
  intro p e s m args below meth c2 D cy zb Q H locs ls C E hP hS hn hl
  exact W.widen (by omega) hsl (E none h H locs pc ls hq hd hlen hP hS)
end GO2
/-! contracts -/
def g_rm (d mc ms : Nat) : Room := { frames := d, cells := mc, slots := ms, locals := 40 * d }
def g_Pc (D : va_G) (cy : Nat → ClassId) (zb : Nat × Nat) (as : List Value) (h : HP) : Array Value → State → Prop := va_Pc (as.map (gv zb)) (fun U => U.heap.size = zb.1 + h.1.length ∧ va_P D vwCl (g_ws cy zb h) U.heap ∧ va_K D vwCl (g_tys cy) U ∧ gw_N U)
def g_Qc (D : va_G) (cy : Nat → ClassId) (zb : Nat × Nat) (h : HP) (mc : Nat) (Qf : Option Value → HP → Prop) : Array Value → State → Outcome → State → Prop := fun _ st oc t => (∃ (r : Option Value) (h' : HP), oc = .returned (r.map (gv zb)) ∧ Qf r h' ∧ va_P D vwCl (g_ws cy zb h') t.heap ∧ h'.1.length = h.1.length + mc) ∧ va_F (fun q => zb.1 ≤ q) st t
def Mt (l : Launch) (y : MethodName) (cc : ByteArray) (nL : Nat) (rt : Option FieldType) (d : Nat) (as : List Value) (h : HP) (mc ms : Nat) (Qf : Option Value → HP → Prop) : Prop := ∀ (D : va_G) (cy : Nat → ClassId) (zb : Nat × Nat), Met l y (.code y cc nL rt :: gw) (g_rm d mc ms) (g_Pc D cy zb as h) (g_Qc D cy zb h mc Qf) mc ms (fun q => zb.1 ≤ q)
theorem g_blind (D : va_G) (cy : Nat → ClassId) (zb : Nat × Nat) (as : List Value) (h : HP) : FrameBlind (g_Pc D cy zb as h) := by
  intro a U g mk q
  obtain ⟨h1, h2, h3, h4, h5⟩ := q
  exact ⟨h1, h2, h3, va_K.moved (u := U) (U := U.calling g mk a) (Vm.Alike.refl U.vm) h4, gw_N.same (u := U) (U := U.calling g mk a) rfl h5⟩
set_option maxHeartbeats 1000000 in
theorem Mt_of {l : Launch} {y : MethodName} {cc : ByteArray} {nL : Nat} {rt : Option FieldType} {d : Nat} {as : List Value} {h : HP} {mc ms : Nat} {Qf : Option Value → HP → Prop} (hy : plainName y.cls = true) (hlen : (lg_sl as).length ≤ nL) (body : Go l y.cls cc nL (g_rm d mc ms) y.name rt h.1.length mc ms (fun _ _ => True) Qf 0 0 (lv_args 0 as) [] h) : Mt l y cc nL rt d as h mc ms Qf := by
  intro D cy zb
  refine Met.ofW (cc := cc) (maxL := nL) (ret := rt) hy rfl ?_
  intro p e s m args below meth c s₁ B hml hv
  obtain ⟨rfl, hsz, hP, hK, hN⟩ := hv
  have hr := B.returns
  have hlocks := B.notSynchronized
  have hts0 := atoms_spec (ws := .code y cc nL rt :: gw) B.pre
  have hts : ∀ w ∈ gw, w.before (as.map (gv zb)).toArray s = true := fun w hw => hts0 w (List.mem_cons_of_mem _ hw)
  have hown : s.vm.findClass y.cls = some m.cls := findClass_of_methodNamed B.named
  have hin : meth.name = y.name := (name_of_methodNamed B.named B.method).1
  have hl := lv_entry (as.map (gv zb)) (n := nL) (by rw [g_sl_len]; exact hlen)
  rw [lg_entry_eq]
  rw [g_args_ms] at hl
  have C : Cx y.cls cc nL y.name h.1.length (fun _ _ => True) D cy zb p s m (as.map (gv zb)).toArray meth c := ⟨B.exec, B.bytes, hml, hown, hts, hN, hK, hsz, hin, trivial⟩
  have E : Ge l cc (g_rm d mc ms) rt h.1.length mc ms Qf D cy zb p e s m (as.map (gv zb)).toArray below meth c (MQ below (g_Qc D cy zb h mc Qf) (as.map (gv zb)).toArray s mc ms (fun q => zb.1 ≤ q)) := by
    intro r h' H locs pc ls hq hret hl' hP' hS'
    have hpost : ∀ t : State, t.heap = H → s.WarmedH t.vm → g_Qc D cy zb h mc Qf (as.map (gv zb)).toArray s (.returned (r.map (gv zb))) t := fun t ht _ => ⟨⟨r, h', rfl, hq, by rw [ht]; exact hP', hl'⟩, hS'.F ht⟩
    unfold g_ret at hret
    split at hret
    · exact W.vret B.exec B.bytes hr hpost hS'.2.2 hret
    · exact W.zret B.exec B.bytes hr hret.2 hpost hS'.2.2 hret.1
    · obtain ⟨h1, rfl⟩ := hret
      exact W.lret B.exec B.bytes hr hpost hS'.2.2 h1
    · exact hret.elim
  have K := body p e s m _ below meth c D cy zb _ s.heap [] _ C E hP va_S.rf (Nat.le_refl _) hl
  rw [Nat.sub_self] at K
  exact K
/-! calls -/
def ML (own : String) (idx : Nat) (y : MethodName) (cc : ByteArray) (nL : Nat) (rt : Option FieldType) (np : Nat) : Prop :=
  (Cond.methodLink own idx y ∈ gw ∨ ∃ host, Cond.methodLinkNest own idx y host ∈ gw_n) ∧ Cond.initialized y.cls ∈ gw ∧ Cond.code y cc nL rt ∈ gw ∧ (y.cls ≠ "java/lang/invoke/MethodHandle" ∧ y.cls ≠ "java/lang/invoke/VarHandle" ∧ (parseMethodDescriptor y.desc).map (fun d => d.parameters.length) = some np)
section GO3
variable {l : Launch} {own : String} {cc : ByteArray} {nL : Nat} {R : Room} {nm : String} {rt : Option FieldType} {n0 mc ms : Nat} {Xf : Nat → State → Prop} {Qf : Option Value → HP → Prop} {sl pc : Nat} {lv : List (Nat × Value)} {st : List Value} {h : HP}
theorem g_after {p : Program} {e : Env} {s : State} {m : MethodId} {args : Array Value} {below : List Frame} {meth : Method} {c : Code} {D : va_G} {cy : Nat → ClassId} {zb : Nat × Nat} {Q : State → Prop} {H : Heap} {locs : List Loc} {ls : Array Slot} {st0 rest : List Value} {mc' ms' : Nat} {Qc : Option Value → HP → Prop} {a : Array Value}
    (C : Cx own cc nL nm n0 Xf D cy zb p s m args meth c) (E : Ge l cc R rt n0 mc ms Qf D cy zb p e s m args below meth c Q) (hS : va_S (fun q => zb.1 ≤ q) s.heap H locs) (hn : n0 ≤ h.1.length) (hl : lv_has ls nL (g_ms zb lv))
    (hr : va_Run p l e R s m args below meth c H locs (h.1.length - n0) sl mc' ms' (F0 m pc ls st0) (rest.map (gv zb)) (g_Qc D cy zb h mc' Qc a) (fun q => zb.1 ≤ q))
    (k : ∀ (r : Option Value) (h' : HP), Qc r h' → h'.1.length = h.1.length + mc' → Go l own cc nL R nm rt n0 mc ms Xf Qf (sl + ms') (pc + 3) lv (r.toList ++ rest) h') : W p l e R s m args below meth c H locs (h.1.length - n0) sl Q (F0 m pc ls st0) := by
  intro T hT X
  obtain ⟨v, st₀, t, T', L, h0, X', hL, e1, e2, ⟨⟨r, h', hv, hq, hP', hlen⟩, hz, hk⟩, hst⟩ := hr T hT X
  have hv' : v = r.map (gv zb) := by cases hv; rfl
  rw [h0] at hz hk
  have hS' : va_S (fun q => zb.1 ≤ q) s.heap T'.heap (locs ++ L) := ⟨Nat.le_trans hS.1 (by rw [e1]; exact hz), fun q h1 h2 => by rw [e1, hk q (Nat.lt_of_lt_of_le h1 hS.1) h2]; exact hS.2.1 q h1 h2, fun q hq => by
      rcases List.mem_append.mp hq with h | h
      · exact hS.2.2 q h
      · exact hL q h⟩
  have K := k r h' hq hlen p e s m args below meth c D cy zb Q T'.heap (locs ++ L) ls C E (by rw [e1]; exact hP') hS' (by omega) hl
  rw [show h'.1.length - n0 = h.1.length - n0 + mc' by omega] at K
  have hmap : (r.toList ++ rest).map (gv zb) = v.toList ++ rest.map (gv zb) := by
    rw [hv']
    cases r <;> rfl
  rw [hmap] at K
  obtain ⟨t2, a1, b1⟩ := K T' rfl X'
  exact ⟨t2, hst t2 a1, b1⟩
theorem g_cats {zb : Nat × Nat} {rest : List Value} (hst : (rest.map fun v => v.category).sum ≤ 8) : ((rest.map (gv zb)).map fun v => v.category).sum ≤ 8 := by
  rw [List.map_map, show ((fun v : Value => v.category) ∘ gv zb) = (fun v => v.category) from funext (gv_cat zb)]
  exact hst
set_option maxHeartbeats 1000000 in
theorem go_invV {c ci len idx np d' mc' ms' nL' : Nat} {y : MethodName} {cc' : ByteArray} {rt' : Option FieldType} {As rest : List Value} {Qc : Option Value → HP → Prop} {T : u_T} {N : Nat} (hM : Mt l y cc' nL' rt' d' (.ref c :: As) h mc' ms' Qc) (hL : ML own idx y cc' nL' rt' np) (hI : Cond.instanceMethod y ∈ gw) (hsel : Cond.selects y.cls y y ∈ gw) (hc : h.1[c]? = some (ci, len)) (hci : vwCl[ci]? = some (y.cls, T, N)) (hstk : st = As.reverse ++ .ref c :: rest) (hnp : As.length = np) (hrest : (rest.map fun v => v.category).sum ≤ 8) (hfr : d' + 1 ≤ R.frames) (hlo : 8 + (nL' + 11) + 40 * d' ≤ R.locals) (hcs : h.1.length - n0 + mc' ≤ R.cells) (hsl : sl + ms' ≤ R.slots) (hd : decode cc pc = .ok (.invokevirtual idx, 3)) (k : ∀ (r : Option Value) (h' : HP), Qc r h' → h'.1.length = h.1.length + mc' → Go l own cc nL R nm rt n0 mc ms Xf Qf (sl + ms') (pc + 3) lv (r.toList ++ rest) h') : Go l own cc nL R nm rt n0 mc ms Xf Qf sl pc lv st h := by
  intro p e s m args below meth c2 D cy zb Q H locs ls C E hP hS hn hl
  refine g_sz (fun hup => ?_)
  have h0 := C.2.2.2.2.2.2.2.1
  have hlo0 := g_lo hP hS h0 hn
  have hsz : H.size = zb.1 + h.1.length := by omega
  have hts := C.2.2.2.2.1
  have hK := C.2.2.2.2.2.2.1
  have hg : GoodIn gw (Cond.code y cc' nL' rt' :: gw) := gw_good (fun w hw => hw) hL.2.2.1
  have S : CallFix p m c2 cc nL s args gw own := ⟨C.1, C.2.1, C.2.2.1, C.2.2.2.1, hts⟩
  have hcell : (g_ws cy zb h)[c]? = some (zb.1 + c, .inr (ci, (List.range len).map (fun j => g_fv zb h c j (g_ty ci j)))) := by
    rw [g_ws_get hc]; simp [g_cell, (List.getElem?_eq_some_iff.mp hci).1]
    exact fun hh => absurd (List.getElem?_eq_some_iff.mp hci).1 (by simpa [vwCl] using hh)
  have hpre : PreV s H y.cls (zb.1 + c) (g_Pc D cy zb (.ref c :: As) h) (As.map (gv zb)) := ⟨g_blind D cy zb _ h, va_recv hK hP hci hcell, fun U hU hW => ⟨rfl, by rw [hU]; exact hsz, by rw [hU]; exact hP, va_K.moved hW.alike hK, gw_N.warm hW C.2.2.2.2.2.1⟩⟩
  have hstk' : (F0 m pc ls (st.map (gv zb))).stack = (As.map (gv zb)).reverse ++ .ref (zb.1 + c) :: rest.map (gv zb) := by
    show st.map (gv zb) = _
    rw [hstk, List.map_append, List.map_reverse]
    rfl
  refine g_after (Qc := Qc) (rest := rest) (a := (Value.ref (zb.1 + c) :: As.map (gv zb)).toArray) C E hS hn hl ?_ k
  rcases hL.1 with hl1 | ⟨host, hl1⟩
  · exact va_runV S (hM D cy zb) ⟨callB_of np hts hg rfl rfl rfl (hts _ hL.2.1) (hts _ hl1) hL.2.2.2 ⟨hfr, hlo⟩, hts _ hI, hts _ hsel⟩ hpre rfl (by rw [List.length_map]; exact hnp) hl.1 hstk' (lv_room (g_cats hrest)) hd ⟨hcs, hsl⟩
  · exact va_runVN S (hM D cy zb) ⟨va_cnB np hts hg rfl rfl rfl (C.2.2.2.2.2.1 _ hl1) (hts _ hL.2.1) hL.2.2.2 ⟨hfr, hlo⟩, hts _ hI, hts _ hsel⟩ hpre rfl (by rw [List.length_map]; exact hnp) hl.1 hstk' (lv_room (g_cats hrest)) hd ⟨hcs, hsl⟩
set_option maxHeartbeats 1000000 in
theorem go_invS {idx np d' mc' ms' nL' : Nat} {y : MethodName} {cc' : ByteArray} {rt' : Option FieldType} {As rest : List Value} {Qc : Option Value → HP → Prop} (hM : Mt l y cc' nL' rt' d' As h mc' ms' Qc) (hL : ML own idx y cc' nL' rt' np) (hI : Cond.static y ∈ gw) (hstk : st = As.reverse ++ rest) (hnp : As.length = np) (hrest : (rest.map fun v => v.category).sum ≤ 8) (hfr : d' + 1 ≤ R.frames) (hlo : 8 + (nL' + 11) + 40 * d' ≤ R.locals) (hcs : h.1.length - n0 + mc' ≤ R.cells) (hsl : sl + ms' ≤ R.slots) (hd : decode cc pc = .ok (.invokestatic idx, 3)) (k : ∀ (r : Option Value) (h' : HP), Qc r h' → h'.1.length = h.1.length + mc' → Go l own cc nL R nm rt n0 mc ms Xf Qf (sl + ms') (pc + 3) lv (r.toList ++ rest) h') : Go l own cc nL R nm rt n0 mc ms Xf Qf sl pc lv st h := by
  intro p e s m args below meth c2 D cy zb Q H locs ls C E hP hS hn hl
  refine g_sz (fun hup => ?_)
  have h0 := C.2.2.2.2.2.2.2.1
  have hlo0 := g_lo hP hS h0 hn
  have hsz : H.size = zb.1 + h.1.length := by omega
  have hts := C.2.2.2.2.1
  have hK := C.2.2.2.2.2.2.1
  have hg : GoodIn gw (Cond.code y cc' nL' rt' :: gw) := gw_good (fun w hw => hw) hL.2.2.1
  have S : CallFix p m c2 cc nL s args gw own := ⟨C.1, C.2.1, C.2.2.1, C.2.2.2.1, hts⟩
  have hpre : PreS s H (g_Pc D cy zb As h) (As.map (gv zb)) := ⟨g_blind D cy zb _ h, fun U hU hW => ⟨rfl, by rw [hU]; exact hsz, by rw [hU]; exact hP, va_K.moved hW.alike hK, gw_N.warm hW C.2.2.2.2.2.1⟩⟩
  have hstk' : (F0 m pc ls (st.map (gv zb))).stack = (As.map (gv zb)).reverse ++ rest.map (gv zb) := by
    show st.map (gv zb) = _
    rw [hstk, List.map_append, List.map_reverse]
  refine g_after (Qc := Qc) (rest := rest) (a := (As.map (gv zb)).toArray) C E hS hn hl ?_ k
  rcases hL.1 with hl1 | ⟨host, hl1⟩
  · exact va_runS S (hM D cy zb) ⟨callB_of np hts hg rfl rfl rfl (hts _ hL.2.1) (hts _ hl1) hL.2.2.2 ⟨hfr, hlo⟩, hts _ hI⟩ hpre rfl (by rw [List.length_map]; exact hnp) hl.1 hstk' (lv_room (g_cats hrest)) hd ⟨hcs, hsl⟩
  · exact va_runSN S (hM D cy zb) ⟨va_cnB np hts hg rfl rfl rfl (C.2.2.2.2.2.1 _ hl1) (hts _ hL.2.1) hL.2.2.2 ⟨hfr, hlo⟩, hts _ hI, trivial⟩ hpre rfl (by rw [List.length_map]; exact hnp) hl.1 hstk' (lv_room (g_cats hrest)) hd ⟨hcs, hsl⟩
set_option maxHeartbeats 1000000 in
theorem go_invI {c idx np d' mc' ms' nL' : Nat} {y : MethodName} {cc' : ByteArray} {As rest : List Value} {Qc : Option Value → HP → Prop} (hM : Mt l y cc' nL' none d' (.ref c :: As) h mc' ms' Qc) (hL : ML own idx y cc' nL' none np) (hI : Cond.instanceMethod y ∈ gw) (hy1 : y.name = "<init>") (hstk : st = As.reverse ++ .ref c :: rest) (hnp : As.length = np) (hrest : (rest.map fun v => v.category).sum ≤ 8) (hfr : d' + 1 ≤ R.frames) (hlo : 8 + (nL' + 11) + 40 * d' ≤ R.locals) (hcs : h.1.length - n0 + mc' ≤ R.cells) (hsl : sl + ms' ≤ R.slots) (hd : decode cc pc = .ok (.invokespecial idx, 3)) (k : ∀ (r : Option Value) (h' : HP), Qc r h' → h'.1.length = h.1.length + mc' → Go l own cc nL R nm rt n0 mc ms Xf Qf (sl + ms') (pc + 3) lv (r.toList ++ rest) h') : Go l own cc nL R nm rt n0 mc ms Xf Qf sl pc lv st h := by
  intro p e s m args below meth c2 D cy zb Q H locs ls C E hP hS hn hl
  refine g_sz (fun hup => ?_)
  have h0 := C.2.2.2.2.2.2.2.1
  have hlo0 := g_lo hP hS h0 hn
  have hsz : H.size = zb.1 + h.1.length := by omega
  have hts := C.2.2.2.2.1
  have hK := C.2.2.2.2.2.2.1
  have hg : GoodIn gw (Cond.code y cc' nL' none :: gw) := gw_good (fun w hw => hw) hL.2.2.1
  have S : CallFix p m c2 cc nL s args gw own := ⟨C.1, C.2.1, C.2.2.1, C.2.2.2.1, hts⟩
  have hpre : PreS s H (g_Pc D cy zb (.ref c :: As) h) (.ref (zb.1 + c) :: As.map (gv zb)) := ⟨g_blind D cy zb _ h, fun U hU hW => ⟨rfl, by rw [hU]; exact hsz, by rw [hU]; exact hP, va_K.moved hW.alike hK, gw_N.warm hW C.2.2.2.2.2.1⟩⟩
  have hstk' : (F0 m pc ls (st.map (gv zb))).stack = (As.map (gv zb)).reverse ++ .ref (zb.1 + c) :: rest.map (gv zb) := by
    show st.map (gv zb) = _
    rw [hstk, List.map_append, List.map_reverse]
    rfl
  refine g_after (Qc := Qc) (rest := rest) (a := (Value.ref (zb.1 + c) :: As.map (gv zb)).toArray) C E hS hn hl ?_ k
  rcases hL.1 with hl1 | ⟨host, hl1⟩
  · exact va_runI S (hM D cy zb) ⟨callB_of np hts hg rfl rfl rfl (hts _ hL.2.1) (hts _ hl1) hL.2.2.2 ⟨hfr, hlo⟩, hy1, hts _ hI⟩ hpre rfl (by rw [List.length_map]; exact hnp) hl.1 hstk' (lv_room (g_cats hrest)) hd ⟨hcs, hsl⟩
  · exact va_runIN S (hM D cy zb) ⟨va_cnB np hts hg rfl rfl rfl (C.2.2.2.2.2.1 _ hl1) (hts _ hL.2.1) hL.2.2.2 ⟨hfr, hlo⟩, hy1, hts _ hI⟩ hpre rfl (by rw [List.length_map]; exact hnp) hl.1 hstk' (lv_room (g_cats hrest)) hd ⟨hcs, hsl⟩
/-! the law's script -/
theorem go_slen {L x : Nat} {xs : Nat → Int32} (hX : ∀ b s, Xf b s → va_X b L xs s s.heap ∧ b < s.heap.size) (h0n : n0 = 0) (hd : decode cc pc = .ok (.arraylength, 1)) (k : Go l own cc nL R nm rt n0 mc ms Xf Qf sl (pc + 1) lv (.int (Int32.ofNat L) :: st) h) : Go l own cc nL R nm rt n0 mc ms Xf Qf sl pc lv (.retAddr x :: st) h := by
  intro p e s m args below meth c2 D cy zb Q H locs ls C E hP hS hn hl
  obtain ⟨hx1, hx2⟩ := hX _ _ C.2.2.2.2.2.2.2.2.2
  have h0 := C.2.2.2.2.2.2.2.1
  exact va_slen C.1 C.2.1 hx1 hx2 (fun q => by have q : zb.1 ≤ zb.2 := q; omega) hS hd (k p e s m args below meth c2 D cy zb Q H locs ls C E hP hS hn hl)
theorem go_sld {L x : Nat} {i : Int32} {xs : Nat → Int32} (hX : ∀ b s, Xf b s → va_X b L xs s s.heap ∧ b < s.heap.size) (h0n : n0 = 0) (hi : vp_in i L) (hd : decode cc pc = .ok (.iaload, 1)) (k : Go l own cc nL R nm rt n0 mc ms Xf Qf sl (pc + 1) lv (.int (xs i.toNatClampNeg) :: st) h) : Go l own cc nL R nm rt n0 mc ms Xf Qf sl pc lv (.int i :: .retAddr x :: st) h := by
  intro p e s m args below meth c2 D cy zb Q H locs ls C E hP hS hn hl
  obtain ⟨hx1, hx2⟩ := hX _ _ C.2.2.2.2.2.2.2.2.2
  have h0 := C.2.2.2.2.2.2.2.1
  exact va_sld C.1 C.2.1 hx1 hx2 (fun q => by have q : zb.1 ≤ zb.2 := q; omega) hS hi hd (k p e s m args below meth c2 D cy zb Q H locs ls C E hP hS hn hl)
end GO3
