/-! CONTRACTS AND CALLS -/
def xrm (d k n : Nat) : Room := { frames := d, cells := k, slots := n, locals := 39 * d }
def xPc (X : xS) (z : Bool) (E : xE) (av : List Value) (h : List va_E) : Array Value → State → Prop := fun a U =>
  a = (av.map (xv E)).toArray ∧ (z = true → U.heap.size = E.1 + h.length) ∧ h.length < 1000 ∧ va_P E.2.2.2.1 xcl (xws E h) U.heap ∧ va_K E.2.2.2.1 xcl (xtys E) U ∧ xRO X E U U.heap ∧ E.1 ≤ U.heap.size ∧ E.2.2.1.category = 1
def xQc (z : Bool) (E : xE) (Q : List Value → List va_E → Prop) : Array Value → State → Outcome → State → Prop := fun _ st oc t =>
  (∃ (v : List Value) (h' : List va_E), oc = .returned (v.map (xv E)).head? ∧ v.length ≤ 1 ∧ Q v h' ∧ (z = true → t.heap.size = E.1 + h'.length) ∧ h'.length < 1000 ∧ va_P E.2.2.2.1 xcl (xws E h') t.heap) ∧ va_F (xA E) st t
/-- method M, called with av where the cells are h, returns with Q; it makes at most k cells of n slots -/
def xEv (X : xS) (z : Bool) (d k n : Nat) (M : xM) (av : List Value) (h : List va_E) (Q : List Value → List va_E → Prop) : Prop :=
  ∀ (l : Launch) (E : xE), Met l M.1 (Cond.code M.1 M.2.1 M.2.2.1 M.2.2.2 :: xT) (xrm d k n) (xPc X z E av h) (xQc z E Q) k n (xA E)
/-- .. with the answer v1, and the cells h1 -/
def xDv (X : xS) (z : Bool) (d : Nat) (M : xM) (av : List Value) (h : List va_E) (v1 : List Value) (h1 : List va_E) : Prop := xEv X z d 0 0 M av h (fun v h' => v = v1 ∧ h' = h1)
theorem xsl_len {E : xE} (hE : E.2.2.1.category = 1) : ∀ av : List Value, (lg_sl (av.map (xv E))).length = (xen av).length := by
  intro av
  induction av with
  | nil => rfl
  | cons a l ih =>
    have h1 : (lg_sl ((a :: l).map (xv E))).length = (if a.category = 2 then 2 else 1) + (lg_sl (l.map (xv E))).length := by
      simp only [List.map_cons, lg_sl, List.flatMap_cons, List.length_append, xv_cat hE]
      split <;> rfl
    rw [h1, ih]
    cases a <;> simp [xen, Value.category] <;> omega
theorem xEv.of {X : xS} {z : Bool} {d k n : Nat} {M : xM} {av : List Value} {h : List va_E} {Q : List Value → List va_E → Prop} (hy : plainName M.1.cls = true) (hL : (xen av).length ≤ M.2.2.1) {ls : List (Option Value)} (hls : xent av M.2.2.1 = ls) (g : xGo X z d k n M 0 ls [] h Q) : xEv X z d k n M av h Q := by
  intro l E
  subst hls
  refine Met.ofW (cc := M.2.1) (maxL := M.2.2.1) (ret := M.2.2.2) hy rfl ?_
  intro p e s m args below meth c s₁ B hml hv
  obtain ⟨rfl, hsz, hlen, hP, hK, hRO, hE1, hcat⟩ := hv
  have hts := atoms_spec (ws := Cond.code M.1 M.2.1 M.2.2.1 M.2.2.2 :: xT) B.pre
  have hr := B.returns
  have hlocks := B.notSynchronized
  have hl := lv_entry (av.map (xv E)) (n := M.2.2.1) (by rw [xsl_len hcat]; exact hL)
  rw [lg_entry_eq]
  generalize (lg_sl (av.map (xv E)) ++ List.replicate (M.2.2.1 - (lg_sl (av.map (xv E))).length) Slot.unset).toArray = lc at hl ⊢
  refine g E p l e (xrm d k n) s m _ below meth c _ ⟨B.exec, B.bytes, hml, findClass_of_methodNamed B.named, fun w hw => hts w (List.mem_cons_of_mem _ hw), (name_of_methodNamed B.named B.method).1, hK, hRO, hE1, Nat.le_refl _, Nat.le_refl _, hcat⟩ s.heap [] 0 0 lc ⟨hsz, hlen, hP, va_S.rf⟩ (Nat.le_of_eq (Nat.zero_add _)) (Nat.le_of_eq (Nat.zero_add _)) (xL.entry hcat hl) (fun pc' v h' H' locs' lc' hq hrt hw => ?_)
  rw [Nat.zero_add, Nat.zero_add]
  have fin : ∀ (t : State), t.heap = H' → v.length ≤ 1 → xQc z E Q (av.map (xv E)).toArray s (.returned (v.map (xv E)).head?) t := fun t ht hv1 => ⟨⟨v, h', rfl, hv1, hq, fun q => by rw [ht]; exact hw.1 q, hw.2.1, by rw [ht]; exact hw.2.2.1⟩, hw.2.2.2.F ht⟩
  rcases hrt with ⟨r1, rfl, r3⟩ | ⟨x, ty, r1, rfl, r2, r3⟩ | ⟨x, r1, rfl, r3⟩
  · exact W.vret B.exec B.bytes (hr.trans r1) (fun t ht _ => fin t ht (by simp)) hw.2.2.2.2.2 r3
  · exact W.zret B.exec B.bytes (hr.trans r1) r2 (fun t ht _ => fin t ht (by simp)) hw.2.2.2.2.2 r3
  · exact W.lret B.exec B.bytes (hr.trans r1) (fun t ht _ => fin t ht (by simp)) hw.2.2.2.2.2 r3
/-- what a call of M needs of the tables: its code, its class, its descriptor -/
def xMc (M : xM) (np : Nat) : Prop := Cond.initialized M.1.cls ∈ xT ∧ Cond.code M.1 M.2.1 M.2.2.1 M.2.2.2 ∈ xT ∧ (M.1.cls ≠ "java/lang/invoke/MethodHandle" ∧ M.1.cls ≠ "java/lang/invoke/VarHandle" ∧ (parseMethodDescriptor M.1.desc).map (fun d => d.parameters.length) = some np) ∧ M.2.2.1 ≤ 20 ∧ plainName M.1.cls = true
def xMv (M : xM) (np : Nat) : Prop := xMc M np ∧ Cond.instanceMethod M.1 ∈ xT ∧ Cond.selects M.1.cls M.1 M.1 ∈ xT
def xMs (M : xM) (np : Nat) : Prop := xMc M np ∧ Cond.static M.1 ∈ xT
def xMi (M : xM) (np : Nat) : Prop := xMc M np ∧ Cond.instanceMethod M.1 ∈ xT ∧ M.1.name = "<init>" ∧ M.2.2.2 = none
def xpu : List Value → List Value → List Value
  | [], r => r
  | a :: l, r => xpu l (a :: r)
theorem xpu_eq : ∀ (as r : List Value), xpu as r = as.reverse ++ r := by
  intro as
  induction as with
  | nil => intro r; rfl
  | cons a l ih => intro r; simp [xpu, ih]
theorem xmc_good {M : xM} {np : Nat} (hm : xMc M np) : GoodIn xT (Cond.code M.1 M.2.1 M.2.2.1 M.2.2.2 :: xT) := fun w hw => by
  rcases List.mem_cons.mp hw with rfl | hw
  · exact xT_good _ hm.2.1
  · exact xT_good _ hw
section XCALL
variable {p : Program} {l : Launch} {e : Env} {R : Room} {s : State} {m : MethodId} {args : Array Value} {below : List Frame} {meth : Method} {c : Code} {H : Heap} {locs : List Loc} {cells slots mc ms : Nat} {Qf : State → Prop}
theorem xw_call {z : Bool} {E : xE} {Q1 : List Value → List va_E → Prop} {pc : Nat} {lc : Array Slot} {st0 rest : List Value} {a : Array Value} (hr : va_Run p l e R s m args below meth c H locs cells slots mc ms (F0 m pc lc st0) rest (xQc z E Q1 a) (xA E)) (hS : va_S (xA E) s.heap H locs)
    (kk : ∀ (v : List Value) (h' : List va_E) (H1 : Heap) (locs1 : List Loc), Q1 v h' → xH z E s h' H1 locs1 → W p l e R s m args below meth c H1 locs1 (cells + mc) (slots + ms) Qf (F0 m (pc + 3) lc (v.map (xv E) ++ rest))) : W p l e R s m args below meth c H locs cells slots Qf (F0 m pc lc st0) := by
  intro T hT X
  obtain ⟨v, st₀, t, T', L, h0, X', hL, e1, e2, ⟨⟨v1, h', hv, hlen1, hq, hz, hl, hP⟩, hF⟩, st⟩ := hr T hT X
  have hv2 : v.toList = v1.map (xv E) := by
    have := Outcome.returned.inj hv
    rw [this]
    cases v1 with
    | nil => rfl
    | cons a l =>
      cases l with
      | nil => rfl
      | cons b l => simp at hlen1
  rw [hv2] at st
  unfold va_F at hF
  rw [h0] at hF
  obtain ⟨t2, a1, b1⟩ := kk v1 h' T'.heap (locs ++ L) hq ⟨fun q => by rw [e1]; exact hz q, hl, by rw [e1]; exact hP, Nat.le_trans hS.1 (by rw [e1]; exact hF.1), fun q h1 h2 => by rw [e1, hF.2 q (Nat.lt_of_lt_of_le h1 hS.1) h2]; exact hS.2.1 q h1 h2, fun q hq => by
      rcases List.mem_append.mp hq with h | h
      · exact hS.2.2 q h
      · exact hL q h⟩ T' rfl X'
  exact ⟨t2, st t2 a1, b1⟩
theorem xpc_blind {X : xS} {z : Bool} {E : xE} {av : List Value} {h : List va_E} : FrameBlind (xPc X z E av h) := fun a U g mk q => by
  obtain ⟨q1, q2, q3, q4, q5, q6, q7, q8⟩ := q
  exact ⟨q1, q2, q3, q4, va_K.moved (u := U) (U := U.calling g mk a) (Vm.Alike.refl U.vm) q5, xRO.same (u := U) (U := U.calling g mk a) rfl q6, q7, q8⟩
theorem xpc_at {X : xS} {z : Bool} {d : Nat} {M : xM} {E : xE} {av : List Value} {h : List va_E} (C : xC X d M E p R s m args meth c) (w : xH z E s h H locs) : ∀ U : State, U.heap = H → s.WarmedH U.vm → xPc X z E av h (av.map (xv E)).toArray U := fun U hU hW => by
  refine ⟨rfl, fun q => by rw [hU]; exact w.1 q, w.2.1, by rw [hU]; exact w.2.2.1, va_K.moved hW.alike C.2.2.2.2.2.2.1, ?_, ?_, C.2.2.2.2.2.2.2.2.2.2.2⟩
  · rw [hU]; exact (C.2.2.2.2.2.2.2.1.kept w.2.2.2.2.1).moved hW
  · rw [hU]; exact Nat.le_trans C.2.2.2.2.2.2.2.2.1 w.2.2.2.1
end XCALL
section XGC
variable {X : xS} {z : Bool} {d k n k1 n1 k2 n2 : Nat} {M M' : xM} {pc idx np : Nat} {ls : List (Option Value)} {st as rest : List Value} {h h1 : List va_E} {Q Q1 : List Value → List va_E → Prop}
theorem xroom {R : Room} {a : Nat} (hf : d + 1 ≤ R.frames) (hl : 39 * (d + 1) ≤ R.locals) (hm : a ≤ 20) : (xrm d k1 n1).frames + 1 ≤ R.frames ∧ 8 + (a + 11) + (xrm d k1 n1).locals ≤ R.locals := by
  refine ⟨hf, ?_⟩
  show 8 + (a + 11) + 39 * d ≤ R.locals
  omega
theorem xg_callv {q ci : Nat} {fs : List Value} (hd : decode M.2.1 pc = .ok (.invokevirtual idx, 3)) (hl : Cond.methodLink M.1.cls idx M'.1 ∈ xT) (hm : xMv M' np) (hq : h[q]? = some (.inr (ci, fs))) (hci : (xcl[ci]?).map (fun r => r.1) = some M'.1.cls) (hev : xEv X z d k1 n1 M' (.ref q :: as) h Q1) (hn : as.length = np) (hst : st = xpu as (.ref q :: rest)) (hcat : (rest.map fun v => v.category).sum ≤ 8) (hk : k1 + k2 = k) (hk' : n1 + n2 = n)
    (g : ∀ v h', Q1 v h' → xGo X z (d + 1) k2 n2 M (pc + 3) ls (v ++ rest) h' Q) : xGo X z (d + 1) k n M pc ls st h Q := by
  intro E p l e R s m args below meth c Qf C H locs cells slots lc w h1 h2 hl' K
  subst hk; subst hk'; subst hst
  have hE := C.2.2.2.2.2.2.2.2.2.2.2
  obtain ⟨r, hr1, hr2⟩ : ∃ r, xcl[ci]? = some r ∧ r.1 = M'.1.cls := by
    cases hx : xcl[ci]? with
    | none => rw [hx] at hci; cases hci
    | some r => rw [hx] at hci; exact ⟨r, rfl, Option.some.inj hci⟩
  have hrun := va_runV (p := p) (e := e) (R := R) (below := below) (meth := meth) (locs := locs) (cells := cells) (slots := slots) (C := M'.1.cls) (b := E.1 + q) (As := as.map (xv E)) (rest := rest.map (xv E)) (g := F0 m pc lc ((xpu as (.ref q :: rest)).map (xv E)))
    ⟨C.1, C.2.1, C.2.2.1, C.2.2.2.1, C.2.2.2.2.1⟩ (hev l E)
    (cwV np C.2.2.2.2.1 (fun w hw => by
      unfold wsV at hw
      rcases List.mem_append.mp hw with hw | hw
      · have : w ∈ xT := by
          simp only [List.mem_cons, List.not_mem_nil, or_false] at hw
          rcases hw with rfl | rfl | rfl | rfl
          · exact hl
          · exact hm.2.1
          · exact hm.2.2
          · exact hm.1.1
        exact xT_good _ this
      · exact xmc_good hm.1 w hw) rfl rfl rfl ⟨rfl, hm.1.2.2.1⟩ (xroom C.2.2.2.2.2.2.2.2.2.1 C.2.2.2.2.2.2.2.2.2.2.1 hm.1.2.2.2.1))
    ⟨xpc_blind, by rw [← hr2]; exact va_recv C.2.2.2.2.2.2.1 w.2.2.1 hr1 (xws_get hq), fun U hU hW => by
      have := xpc_at (av := .ref q :: as) C w U hU hW
      have e1 : (Value.ref q :: as).map (xv E) = .ref (E.1 + q) :: as.map (xv E) := by
        show Value.ref (xa E q) :: _ = _
        rw [xa_lo (xlt hq w.2.1)]
      rw [e1] at this
      exact this⟩
    rfl (by rw [List.length_map]; exact hn) hl'.1 (by
      show (xpu as (.ref q :: rest)).map (xv E) = _
      rw [xpu_eq, List.map_append, List.map_reverse]
      show _ ++ (Value.ref (xa E q) :: _) = _
      rw [xa_lo (xlt hq w.2.1)]) (lv_room (by rw [xv_sum hE]; exact hcat)) hd (by omega)
  refine xw_call hrun w.2.2.2 (fun v h' H1 locs1 hq1 w1 => ?_)
  rw [← List.map_append]
  refine g v h' hq1 E p l e R s m args below meth c Qf C H1 locs1 _ _ lc w1 (by omega) (by omega) hl' (fun pc' v h' H' locs' lc' q1 q2 q3 => ?_)
  have := K pc' v h' H' locs' lc' q1 q2 q3
  rwa [← Nat.add_assoc, ← Nat.add_assoc] at this
theorem xg_calls (hd : decode M.2.1 pc = .ok (.invokestatic idx, 3)) (hl : Cond.methodLink M.1.cls idx M'.1 ∈ xT) (hm : xMs M' np) (hev : xEv X z d k1 n1 M' as h Q1) (hn : as.length = np) (hst : st = xpu as rest) (hcat : (rest.map fun v => v.category).sum ≤ 8) (hk : k1 + k2 = k) (hk' : n1 + n2 = n)
    (g : ∀ v h', Q1 v h' → xGo X z (d + 1) k2 n2 M (pc + 3) ls (v ++ rest) h' Q) : xGo X z (d + 1) k n M pc ls st h Q := by
  intro E p l e R s m args below meth c Qf C H locs cells slots lc w h1 h2 hl' K
  subst hk; subst hk'; subst hst
  have hE := C.2.2.2.2.2.2.2.2.2.2.2
  have hrun := va_runS (p := p) (e := e) (R := R) (below := below) (meth := meth) (locs := locs) (cells := cells) (slots := slots) (H := H) (As := as.map (xv E)) (rest := rest.map (xv E)) (g := F0 m pc lc ((xpu as rest).map (xv E)))
    ⟨C.1, C.2.1, C.2.2.1, C.2.2.2.1, C.2.2.2.2.1⟩ (hev l E)
    (va_cwS np C.2.2.2.2.1 (fun w hw => by
      unfold va_wsS at hw
      rcases List.mem_append.mp hw with hw | hw
      · have : w ∈ xT := by
          simp only [List.mem_cons, List.not_mem_nil, or_false] at hw
          rcases hw with rfl | rfl | rfl
          · exact hl
          · exact hm.2
          · exact hm.1.1
        exact xT_good _ this
      · exact xmc_good hm.1 w hw) rfl rfl rfl hm.1.2.2.1 (xroom C.2.2.2.2.2.2.2.2.2.1 C.2.2.2.2.2.2.2.2.2.2.1 hm.1.2.2.2.1))
    ⟨xpc_blind, fun U hU hW => xpc_at (av := as) C w U hU hW⟩
    rfl (by rw [List.length_map]; exact hn) hl'.1 (by
      show (xpu as rest).map (xv E) = _
      rw [xpu_eq, List.map_append, List.map_reverse]) (lv_room (by rw [xv_sum hE]; exact hcat)) hd (by omega)
  refine xw_call hrun w.2.2.2 (fun v h' H1 locs1 hq1 w1 => ?_)
  rw [← List.map_append]
  refine g v h' hq1 E p l e R s m args below meth c Qf C H1 locs1 _ _ lc w1 (by omega) (by omega) hl' (fun pc' v h' H' locs' lc' q1 q2 q3 => ?_)
  have := K pc' v h' H' locs' lc' q1 q2 q3
  rwa [← Nat.add_assoc, ← Nat.add_assoc] at this
theorem xg_calli {q ci : Nat} {fs : List Value} (hd : decode M.2.1 pc = .ok (.invokespecial idx, 3)) (hl : Cond.methodLink M.1.cls idx M'.1 ∈ xT) (hm : xMi M' np) (hq : h[q]? = some (.inr (ci, fs))) (hev : xEv X z d k1 n1 M' (.ref q :: as) h Q1) (hn : as.length = np) (hst : st = xpu as (.ref q :: rest)) (hcat : (rest.map fun v => v.category).sum ≤ 8) (hk : k1 + k2 = k) (hk' : n1 + n2 = n)
    (g : ∀ v h', Q1 v h' → xGo X z (d + 1) k2 n2 M (pc + 3) ls (v ++ rest) h' Q) : xGo X z (d + 1) k n M pc ls st h Q := by
  intro E p l e R s m args below meth c Qf C H locs cells slots lc w h1 h2 hl' K
  subst hk; subst hk'; subst hst
  have hE := C.2.2.2.2.2.2.2.2.2.2.2
  have hev' := hev l E
  obtain ⟨hm1, hm2, hm3, hm4⟩ := hm
  have hg := xmc_good hm1
  have hcw := hm1.2.1
  rw [hm4] at hev' hg
  have hrun := va_runI (p := p) (e := e) (R := R) (below := below) (meth := meth) (locs := locs) (cells := cells) (slots := slots) (H := H) (b := E.1 + q) (As := as.map (xv E)) (rest := rest.map (xv E)) (g := F0 m pc lc ((xpu as (.ref q :: rest)).map (xv E)))
    ⟨C.1, C.2.1, C.2.2.1, C.2.2.2.1, C.2.2.2.2.1⟩ hev'
    (cwI np C.2.2.2.2.1 hg rfl rfl rfl (C.2.2.2.2.1 _ hm1.1) (C.2.2.2.2.1 _ hl) (C.2.2.2.2.1 _ hm2) hm3 hm1.2.2.1 (xroom C.2.2.2.2.2.2.2.2.2.1 C.2.2.2.2.2.2.2.2.2.2.1 hm1.2.2.2.1))
    ⟨xpc_blind, fun U hU hW => by
      have := xpc_at (av := .ref q :: as) C w U hU hW
      have e1 : (Value.ref q :: as).map (xv E) = .ref (E.1 + q) :: as.map (xv E) := by
        show Value.ref (xa E q) :: _ = _
        rw [xa_lo (xlt hq w.2.1)]
      rw [e1] at this
      exact this⟩
    rfl (by rw [List.length_map]; exact hn) hl'.1 (by
      show (xpu as (.ref q :: rest)).map (xv E) = _
      rw [xpu_eq, List.map_append, List.map_reverse]
      show _ ++ (Value.ref (xa E q) :: _) = _
      rw [xa_lo (xlt hq w.2.1)]) (lv_room (by rw [xv_sum hE]; exact hcat)) hd (by omega)
  refine xw_call hrun w.2.2.2 (fun v h' H1 locs1 hq1 w1 => ?_)
  rw [← List.map_append]
  refine g v h' hq1 E p l e R s m args below meth c Qf C H1 locs1 _ _ lc w1 (by omega) (by omega) hl' (fun pc' v h' H' locs' lc' q1 q2 q3 => ?_)
  have := K pc' v h' H' locs' lc' q1 q2 q3
  rwa [← Nat.add_assoc, ← Nat.add_assoc] at this
/-- a method of a text constant -/
theorem xg_callt {i : Nat} (hd : decode M.2.1 pc = .ok (.invokevirtual idx, 3)) (hl : Cond.methodLink M.1.cls idx M'.1 ∈ xT) (hm : xMv M' np) (hi : i < 16) (hci : M'.1.cls = "java/lang/String") (hev : xEv X z d 0 0 M' (.ref (1100 + i) :: as) h Q1) (hn : as.length = np) (hst : st = xpu as (.ref (1100 + i) :: rest)) (hcat : (rest.map fun v => v.category).sum ≤ 8)
    (g : ∀ v h', Q1 v h' → xGo X z (d + 1) k n M (pc + 3) ls (v ++ rest) h' Q) : xGo X z (d + 1) k n M pc ls st h Q := by
  intro E p l e R s m args below meth c Qf C H locs cells slots lc w h1 h2 hl' K
  subst hst
  have hE := C.2.2.2.2.2.2.2.2.2.2.2
  have ea : xa E (1100 + i) = E.2.1 (1100 + i) := xa_hi (by omega)
  have hrun := va_runV (p := p) (e := e) (R := R) (below := below) (meth := meth) (locs := locs) (cells := cells) (slots := slots) (C := M'.1.cls) (b := E.2.1 (1100 + i)) (As := as.map (xv E)) (rest := rest.map (xv E)) (g := F0 m pc lc ((xpu as (.ref (1100 + i) :: rest)).map (xv E)))
    ⟨C.1, C.2.1, C.2.2.1, C.2.2.2.1, C.2.2.2.2.1⟩ (hev l E)
    (cwV np C.2.2.2.2.1 (fun w hw => by
      unfold wsV at hw
      rcases List.mem_append.mp hw with hw | hw
      · have : w ∈ xT := by
          simp only [List.mem_cons, List.not_mem_nil, or_false] at hw
          rcases hw with rfl | rfl | rfl | rfl
          · exact hl
          · exact hm.2.1
          · exact hm.2.2
          · exact hm.1.1
        exact xT_good _ this
      · exact xmc_good hm.1 w hw) rfl rfl rfl ⟨rfl, hm.1.2.2.1⟩ (xroom C.2.2.2.2.2.2.2.2.2.1 C.2.2.2.2.2.2.2.2.2.2.1 hm.1.2.2.2.1))
    ⟨xpc_blind, by rw [hci]; exact vk_recv (i := i) (adK := fun i => E.2.1 (1100 + i)) C.2.2.2.2.2.2.2.1.2.2.2.2.2.2.2.1 hi w.2.2.2, fun U hU hW => by
      have := xpc_at (av := .ref (1100 + i) :: as) C w U hU hW
      have e1 : (Value.ref (1100 + i) :: as).map (xv E) = .ref (E.2.1 (1100 + i)) :: as.map (xv E) := by
        show Value.ref (xa E (1100 + i)) :: _ = _
        rw [ea]
      rw [e1] at this
      exact this⟩
    rfl (by rw [List.length_map]; exact hn) hl'.1 (by
      show (xpu as (.ref (1100 + i) :: rest)).map (xv E) = _
      rw [xpu_eq, List.map_append, List.map_reverse]
      show _ ++ (Value.ref (xa E (1100 + i)) :: _) = _
      rw [ea]) (lv_room (by rw [xv_sum hE]; exact hcat)) hd (by omega)
  refine xw_call hrun w.2.2.2 (fun v h' H1 locs1 hq1 w1 => ?_)
  rw [← List.map_append]
  exact g v h' hq1 E p l e R s m args below meth c Qf C H1 locs1 _ _ lc w1 (by omega) (by omega) hl' K
theorem xg_obj {q : Nat} (hd : decode M.2.1 pc = .ok (.invokespecial idx, 3)) (hl : Cond.methodLink M.1.cls idx objectInit ∈ xT) (hi : Cond.instanceMethod objectInit ∈ xT) (hc : Cond.code objectInit ⟨#[0xb1]⟩ 1 none ∈ xT) (hcat : (rest.map fun v => v.category).sum ≤ 8)
    (g : xGo X z (d + 1) k n M (pc + 3) ls rest h Q) : xGo X z (d + 1) k n M pc ls (.ref q :: rest) h Q := by
  intro E p l e R s m args below meth c Qf C H locs cells slots lc w h1 h2 hl' K
  have hE := C.2.2.2.2.2.2.2.2.2.2.2
  have hf := C.2.2.2.2.2.2.2.2.2.1
  have hlo := C.2.2.2.2.2.2.2.2.2.2.1
  have hw : 2 * (F0 m pc lc ((Value.ref q :: rest).map (xv E))).monitorRoom + ((rest.map (xv E)).map fun v => v.category).sum ≤ 8 := lv_room (by rw [xv_sum hE]; exact hcat)
  exact W.objInit C.1 C.2.1 C.2.2.2.1 (C.2.2.2.2.1 _ hl) (C.2.2.2.2.1 _ hi) (C.2.2.2.2.1 _ hc) rfl (hl'.1.trans C.2.2.1.symm) (a := xa E q) (rest := rest.map (xv E)) rfl hd (by omega) (by omega) (g E p l e R s m args below meth c Qf C H locs cells slots lc w h1 h2 hl' K)
/-! Math's own -/
theorem xg_mmin {x y : Int32} (hd : decode M.2.1 pc = .ok (.invokestatic idx, 3)) (hl : Cond.methodLink M.1.cls idx Lib.Math.min.name ∈ xT) (hm : Cond.static Lib.Math.min.name ∈ xT ∧ Cond.initialized "java/lang/Math" ∈ xT ∧ Cond.code Lib.Math.min.name Lib.Math.min.code 2 (some .int) ∈ xT) (hcat : (rest.map fun v => v.category).sum ≤ 8)
    (g : xGo X z (d + 1) k n M (pc + 3) ls (.int (if y < x then y else x) :: rest) h Q) : xGo X z (d + 1) k n M pc ls (.int y :: .int x :: rest) h Q := by
  intro E p l e R s m args below meth c Qf C H locs cells slots lc w h1 h2 hl' K
  have hE := C.2.2.2.2.2.2.2.2.2.2.2
  have hf := C.2.2.2.2.2.2.2.2.2.1
  have hlo := C.2.2.2.2.2.2.2.2.2.2.1
  exact va_mmin C.1 C.2.1 (C.2.2.1.trans hl'.1.symm) C.2.2.2.1 (C.2.2.2.2.1 _ hl) (C.2.2.2.2.1 _ hm.1) (C.2.2.2.2.1 _ hm.2.1) (C.2.2.2.2.1 _ hm.2.2) (by omega) (by rw [xv_sum hE]; omega) (by omega) (by omega) hd (g E p l e R s m args below meth c Qf C H locs cells slots lc w h1 h2 hl' K)
theorem xg_mmax {x y : Int32} (hd : decode M.2.1 pc = .ok (.invokestatic idx, 3)) (hl : Cond.methodLink M.1.cls idx Lib.Math.max.name ∈ xT) (hm : Cond.static Lib.Math.max.name ∈ xT ∧ Cond.initialized "java/lang/Math" ∈ xT ∧ Cond.code Lib.Math.max.name Lib.Math.max.code 2 (some .int) ∈ xT) (hcat : (rest.map fun v => v.category).sum ≤ 8)
    (g : xGo X z (d + 1) k n M (pc + 3) ls (.int (if x < y then y else x) :: rest) h Q) : xGo X z (d + 1) k n M pc ls (.int y :: .int x :: rest) h Q := by
  intro E p l e R s m args below meth c Qf C H locs cells slots lc w h1 h2 hl' K
  have hE := C.2.2.2.2.2.2.2.2.2.2.2
  have hf := C.2.2.2.2.2.2.2.2.2.1
  have hlo := C.2.2.2.2.2.2.2.2.2.2.1
  exact va_mmax C.1 C.2.1 (C.2.2.1.trans hl'.1.symm) C.2.2.2.1 (C.2.2.2.2.1 _ hl) (C.2.2.2.2.1 _ hm.1) (C.2.2.2.2.1 _ hm.2.1) (C.2.2.2.2.1 _ hm.2.2) (by omega) (by rw [xv_sum hE]; omega) (by omega) (by omega) hd (g E p l e R s m args below meth c Qf C H locs cells slots lc w h1 h2 hl' K)
theorem xg_mabs {x : Int32} (hd : decode M.2.1 pc = .ok (.invokestatic idx, 3)) (hl : Cond.methodLink M.1.cls idx Lib.Math.abs.name ∈ xT) (hm : Cond.static Lib.Math.abs.name ∈ xT ∧ Cond.initialized "java/lang/Math" ∈ xT ∧ Cond.code Lib.Math.abs.name Lib.Math.abs.code 1 (some .int) ∈ xT) (hcat : (rest.map fun v => v.category).sum ≤ 8)
    (g : xGo X z (d + 1) k n M (pc + 3) ls (.int (if 0 ≤ x then x else 0 - x) :: rest) h Q) : xGo X z (d + 1) k n M pc ls (.int x :: rest) h Q := by
  intro E p l e R s m args below meth c Qf C H locs cells slots lc w h1 h2 hl' K
  have hE := C.2.2.2.2.2.2.2.2.2.2.2
  have hf := C.2.2.2.2.2.2.2.2.2.1
  have hlo := C.2.2.2.2.2.2.2.2.2.2.1
  exact va_mabs C.1 C.2.1 (C.2.2.1.trans hl'.1.symm) C.2.2.2.1 (C.2.2.2.2.1 _ hl) (C.2.2.2.2.1 _ hm.1) (C.2.2.2.2.1 _ hm.2.1) (C.2.2.2.2.1 _ hm.2.2) (by omega) (by rw [xv_sum hE]; omega) (by omega) (by omega) hd (g E p l e R s m args below meth c Qf C H locs cells slots lc w h1 h2 hl' K)
/-- System.arraycopy of longs -/
theorem xg_copyl {q0 q1 N0 N1 : Nat} {f g0 : Nat → Int64} {i0 i1 i2 : Int32} {h2 : List va_E} (sp dp cn : Nat) (hd : decode M.2.1 pc = .ok (.invokestatic idx, 3)) (hl : Cond.methodLink M.1.cls idx arraycopyName ∈ xT) (hm : Cond.native arraycopyName ∈ xT ∧ Cond.static arraycopyName ∈ xT ∧ Cond.initialized "java/lang/System" ∈ xT) (hc0 : h[q0]? = some (.inl (1, N0, .inr (.inl f)))) (hc1 : h[q1]? = some (.inl (1, N1, .inr (.inl g0)))) (e0 : i0 = nI sp) (e1 : i1 = nI dp) (e2 : i2 = nI cn) (b0 : sp + cn ≤ N0) (b1 : dp + cn ≤ N1) (hN0 : N0 < 2 ^ 31) (hN1 : N1 < 2 ^ 31) (hcat : (rest.map fun v => v.category).sum ≤ 8)
    (hh : h.set q1 (.inl (1, N1, .inr (.inl (va_cpy f g0 sp dp cn)))) = h2) (g : xGo X false (d + 1) k n M (pc + 3) ls rest h2 Q) : xGo X false (d + 1) k n M pc ls (.int i2 :: .int i1 :: .ref q1 :: .int i0 :: .ref q0 :: rest) h Q := by
  subst e0; subst e1; subst e2; subst hh
  intro E p l e R s m args below meth c Qf C H locs cells slots lc w h1 h2 hl' K
  have hE := C.2.2.2.2.2.2.2.2.2.2.2
  have hf := C.2.2.2.2.2.2.2.2.2.1
  have hlo := C.2.2.2.2.2.2.2.2.2.2.1
  show W p l e R s m args below meth c H locs cells slots Qf (F0 m pc lc (.int (nI cn) :: .int (nI dp) :: .ref (xa E q1) :: .int (nI sp) :: .ref (xa E q0) :: rest.map (xv E)))
  rw [xa_lo (xlt hc0 w.2.1), xa_lo (xlt hc1 w.2.1)]
  have k0 : (nI sp).toNatClampNeg = sp := nI_clamp (by omega)
  have k1 : (nI dp).toNatClampNeg = dp := nI_clamp (by omega)
  have k2 : (nI cn).toNatClampNeg = cn := nI_clamp (by omega)
  refine va_copyl (ty := .long) C.1 C.2.1 (C.2.2.1.trans hl'.1.symm) C.2.2.2.1 (C.2.2.2.2.1 _ hl) (C.2.2.2.2.1 _ hm.1) (C.2.2.2.2.1 _ hm.2.1) (C.2.2.2.2.1 _ hm.2.2) C.2.2.2.2.2.2.1 w.2.2.1 (xws_D E h) w.2.2.2 q0 q1 1 1 (xws_get hc0) (xws_get hc1) rfl rfl rfl (nI_pos (by omega)) (nI_pos (by omega)) (nI_pos (by omega)) (by omega) (by omega) (fun i _ => rfl) (by omega) (by
    rw [xv_sum hE]
    have : nativeFrameWords "java/lang/System" "arraycopy" 5 ≤ 20 := by decide +kernel
    omega) hd (fun H1 locs1 hP _ hS => ?_)
  rw [k0, k1, k2] at hP
  exact g E p l e R s m args below meth c Qf C H1 locs1 cells slots lc ⟨fun q => absurd q (by decide), by rw [List.length_set]; exact w.2.1, by rw [xws_set]; exact hP, hS⟩ h1 h2 hl' K
/-! calls whose answer is known -/
theorem xg_cvI {q ci : Nat} {fs : List Value} {x : Int32} (hd : decode M.2.1 pc = .ok (.invokevirtual idx, 3)) (hl : Cond.methodLink M.1.cls idx M'.1 ∈ xT) (hm : xMv M' np) (hq : h[q]? = some (.inr (ci, fs))) (hci : (xcl[ci]?).map (fun r => r.1) = some M'.1.cls) (hev : xDv X z d M' (.ref q :: as) h [.int x] h1) (hn : as.length = np) (hst : st = xpu as (.ref q :: rest)) (hcat : (rest.map fun v => v.category).sum ≤ 8)
    (g : xGo X z (d + 1) k n M (pc + 3) ls (.int x :: rest) h1 Q) : xGo X z (d + 1) k n M pc ls st h Q :=
  xg_callv hd hl hm hq hci hev hn hst hcat (Nat.zero_add _) (Nat.zero_add _) (fun v h' q => by rw [q.1, q.2]; exact g)
theorem xg_cvL {q ci : Nat} {fs : List Value} {x : Int64} (hd : decode M.2.1 pc = .ok (.invokevirtual idx, 3)) (hl : Cond.methodLink M.1.cls idx M'.1 ∈ xT) (hm : xMv M' np) (hq : h[q]? = some (.inr (ci, fs))) (hci : (xcl[ci]?).map (fun r => r.1) = some M'.1.cls) (hev : xDv X z d M' (.ref q :: as) h [.long x] h1) (hn : as.length = np) (hst : st = xpu as (.ref q :: rest)) (hcat : (rest.map fun v => v.category).sum ≤ 8)
    (g : xGo X z (d + 1) k n M (pc + 3) ls (.long x :: rest) h1 Q) : xGo X z (d + 1) k n M pc ls st h Q :=
  xg_callv hd hl hm hq hci hev hn hst hcat (Nat.zero_add _) (Nat.zero_add _) (fun v h' q => by rw [q.1, q.2]; exact g)
theorem xg_cvV {q ci : Nat} {fs : List Value} (hd : decode M.2.1 pc = .ok (.invokevirtual idx, 3)) (hl : Cond.methodLink M.1.cls idx M'.1 ∈ xT) (hm : xMv M' np) (hq : h[q]? = some (.inr (ci, fs))) (hci : (xcl[ci]?).map (fun r => r.1) = some M'.1.cls) (hev : xDv X z d M' (.ref q :: as) h [] h1) (hn : as.length = np) (hst : st = xpu as (.ref q :: rest)) (hcat : (rest.map fun v => v.category).sum ≤ 8)
    (g : xGo X z (d + 1) k n M (pc + 3) ls rest h1 Q) : xGo X z (d + 1) k n M pc ls st h Q :=
  xg_callv hd hl hm hq hci hev hn hst hcat (Nat.zero_add _) (Nat.zero_add _) (fun v h' q => by rw [q.1, q.2]; exact g)
theorem xg_csI {x : Int32} (hd : decode M.2.1 pc = .ok (.invokestatic idx, 3)) (hl : Cond.methodLink M.1.cls idx M'.1 ∈ xT) (hm : xMs M' np) (hev : xDv X z d M' as h [.int x] h1) (hn : as.length = np) (hst : st = xpu as rest) (hcat : (rest.map fun v => v.category).sum ≤ 8)
    (g : xGo X z (d + 1) k n M (pc + 3) ls (.int x :: rest) h1 Q) : xGo X z (d + 1) k n M pc ls st h Q :=
  xg_calls hd hl hm hev hn hst hcat (Nat.zero_add _) (Nat.zero_add _) (fun v h' q => by rw [q.1, q.2]; exact g)
theorem xg_csL {x : Int64} (hd : decode M.2.1 pc = .ok (.invokestatic idx, 3)) (hl : Cond.methodLink M.1.cls idx M'.1 ∈ xT) (hm : xMs M' np) (hev : xDv X z d M' as h [.long x] h1) (hn : as.length = np) (hst : st = xpu as rest) (hcat : (rest.map fun v => v.category).sum ≤ 8)
    (g : xGo X z (d + 1) k n M (pc + 3) ls (.long x :: rest) h1 Q) : xGo X z (d + 1) k n M pc ls st h Q :=
  xg_calls hd hl hm hev hn hst hcat (Nat.zero_add _) (Nat.zero_add _) (fun v h' q => by rw [q.1, q.2]; exact g)
theorem xg_csV (hd : decode M.2.1 pc = .ok (.invokestatic idx, 3)) (hl : Cond.methodLink M.1.cls idx M'.1 ∈ xT) (hm : xMs M' np) (hev : xDv X z d M' as h [] h1) (hn : as.length = np) (hst : st = xpu as rest) (hcat : (rest.map fun v => v.category).sum ≤ 8)
    (g : xGo X z (d + 1) k n M (pc + 3) ls rest h1 Q) : xGo X z (d + 1) k n M pc ls st h Q :=
  xg_calls hd hl hm hev hn hst hcat (Nat.zero_add _) (Nat.zero_add _) (fun v h' q => by rw [q.1, q.2]; exact g)
theorem xg_ctI {i : Nat} {x : Int32} (hd : decode M.2.1 pc = .ok (.invokevirtual idx, 3)) (hl : Cond.methodLink M.1.cls idx M'.1 ∈ xT) (hm : xMv M' np) (hi : i < 16) (hci : M'.1.cls = "java/lang/String") (hev : xDv X z d M' (.ref (1100 + i) :: as) h [.int x] h1) (hn : as.length = np) (hst : st = xpu as (.ref (1100 + i) :: rest)) (hcat : (rest.map fun v => v.category).sum ≤ 8)
    (g : xGo X z (d + 1) k n M (pc + 3) ls (.int x :: rest) h1 Q) : xGo X z (d + 1) k n M pc ls st h Q :=
  xg_callt hd hl hm hi hci hev hn hst hcat (fun v h' q => by rw [q.1, q.2]; exact g)
/-- a contract with a known answer, out of a walk -/
theorem xDv.of {av : List Value} {v1 : List Value} (hy : plainName M.1.cls = true) (hL : (xen av).length ≤ M.2.2.1) (hls : xent av M.2.2.1 = ls) (g : xGo X z d 0 0 M 0 ls [] h (fun v h' => v = v1 ∧ h' = h1)) : xDv X z d M av h v1 h1 := xEv.of hy hL hls g
theorem xDv.eq {av : List Value} {v1 v2 : List Value} {h2 : List va_E} (g : xDv X z d M av h v1 h1) (e1 : v1 = v2) (e2 : h1 = h2) : xDv X z d M av h v2 h2 := by subst e1; subst e2; exact g
end XGC
