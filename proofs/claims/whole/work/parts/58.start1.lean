/-! THE LAW'S BEGINNING: both systems are made (the heap's size is known), then the loop (it isn't asked for any more) -/
def xGL (X : xS) (d k n : Nat) (M : xM) (pc : Nat) (ls : List (Option Value)) (st : List Value) (h : List va_E) (Q : List Value → List va_E → Prop) : Prop :=
  ∀ (E : xE) (p : Program) (l : Launch) (e : Env) (R : Room) (s : State) (m : MethodId) (args : Array Value) (below : List Frame) (meth : Method) (c : Code) (Qf : State → Prop), xC X d M E p R s m args meth c →
  ∀ (H : Heap) (locs : List Loc) (cells slots : Nat) (lc : Array Slot), xH true E s h H locs → cells + k ≤ R.cells → slots + n ≤ R.slots → xL E lc M.2.2.1 ls →
  (∀ (pc' : Nat) (v : List Value) (h' : List va_E) (H' : Heap) (locs' : List Loc) (lc' : Array Slot), Q v h' → xRt M pc' v → xH false E s h' H' locs' → W p l e R s m args below meth c H' locs' (cells + k) (slots + n) Qf (F0 m pc' lc' (v.map (xv E)))) →
  W p l e R s m args below meth c H locs cells slots Qf (F0 m pc lc (st.map (xv E)))
section
variable {X : xS} {d k n k1 n1 k2 n2 : Nat} {M M' : xM} {pc pc' idx np : Nat} {ls ls' : List (Option Value)} {st st' as rest : List Value} {h : List va_E} {Q Q1 : List Value → List va_E → Prop}
theorem xGL.of (g : xGo X false d k n M pc ls st h Q) : xGL X d k n M pc ls st h Q := by
  intro E p l e R s m args below meth c Qf C H locs cells slots lc w h1 h2 hl K
  exact g E p l e R s m args below meth c Qf C H locs cells slots lc ⟨fun q => absurd q (by decide), w.2⟩ h1 h2 hl K
theorem xl_s (step : ∀ (E : xE) (p : Program) (l : Launch) (e : Env) (R : Room) (s : State) (m : MethodId) (args : Array Value) (below : List Frame) (meth : Method) (c : Code) (Qf : State → Prop) (H : Heap) (locs : List Loc) (cells slots : Nat) (lc : Array Slot), xC X d M E p R s m args meth c → xH true E s h H locs → xL E lc M.2.2.1 ls →
    W p l e R s m args below meth c H locs cells slots Qf (F0 m pc' lc (st'.map (xv E))) → W p l e R s m args below meth c H locs cells slots Qf (F0 m pc lc (st.map (xv E))))
    (g : xGL X d k n M pc' ls st' h Q) : xGL X d k n M pc ls st h Q := by
  intro E p l e R s m args below meth c Qf C H locs cells slots lc w h1 h2 hl K
  exact step E p l e R s m args below meth c Qf H locs cells slots lc C w hl (g E p l e R s m args below meth c Qf C H locs cells slots lc w h1 h2 hl K)
theorem xl_dup {v : Value} (hd : decode M.2.1 pc = .ok (.dup, 1)) (hc : v.category = 1) (g : xGL X d k n M (pc + 1) ls (v :: v :: st) h Q) : xGL X d k n M pc ls (v :: st) h Q :=
  xl_s (fun E p l e R s m args below meth c Qf H locs cells slots lc C w hl ww => lv_dup C.1 C.2.1 hd ((xv_cat C.2.2.2.2.2.2.2.2.2.2.2 v).trans hc) ww) g
theorem xl_astore_n {i : Fin 4} {x : Nat} (hd : decode M.2.1 pc = .ok (.astore_n i, 1)) (hn : (i : Nat) < M.2.2.1) (hl' : xst ls i (.ref x) = ls') (g : xGL X d k n M (pc + 1) ls' st h Q) : xGL X d k n M pc ls (.ref x :: st) h Q := by
  intro E p l e R s m args below meth c Qf C H locs cells slots lc w h1 h2 hl K
  subst hl'
  exact lv_astore_n C.1 C.2.1 hd rfl hl.has hn rfl (fun lc' q => g E p l e R s m args below meth c Qf C H locs cells slots lc' w h1 h2 (xL.st (v := .ref x) C.2.2.2.2.2.2.2.2.2.2.2 q) K)
theorem xl_new {ci N : Nat} {C : String} {T : u_T} {ty : Nat → FieldType} {fs : List Value} (hd : decode M.2.1 pc = .ok (.new idx, 3)) (hK : xK ci C T N ty) (hcl : Cond.classLink M.1.cls idx C ∈ xT) (hins : Cond.instantiable C N ∈ xT) (hini : Cond.initialized C ∈ xT) (hfs : ∀ (E : xE) (j : Nat), j < N → defaultValue (ty j) = vp_V (fs.map (xv E)) j) (hln : h.length + 1 < 1000)
    (g : xGL X d k n M (pc + 3) ls (.ref h.length :: st) (h ++ [.inr (ci, fs)]) Q) : xGL X d (k + 1) (n + N) M pc ls st h Q := by
  intro E p l e R s m args below meth c Qf Cx H locs cells slots lc w h1 h2 hl K
  have hKn := Cx.2.2.2.2.2.2.1.1 ci _ hK.1
  refine W.newcK Cx.1 Cx.2.1 Cx.2.2.2.1 (Cx.2.2.2.2.1 _ hcl) (Cx.2.2.2.2.1 _ hins) (Cx.2.2.2.2.1 _ hini) rfl hd (by omega) (by omega) hKn.2.1 (w.1 rfl) fun H1 kC hkC e1 z1 o1 => ?_
  have hw : xH true E s (h ++ [.inr (ci, fs)]) H1 locs := w.push (by rw [z1, w.1 rfl]) (fun q hq => o1 q (by rw [← w.1 rfl]; exact hq)) hln ⟨_, hK.1, (u_born ty Cx.2.2.2.2.1 hK.2.1 hKn hkC e1 hK.2.2.1).to (hfs E)⟩
  have := g E p l e R s m args below meth c Qf Cx H1 locs (cells + 1) (slots + N) lc hw (by omega) (by omega) hl (fun pc' v h' H' locs' lc' q1 q2 q3 => by
    have := K pc' v h' H' locs' lc' q1 q2 q3
    rwa [show cells + (k + 1) = cells + 1 + k by omega, show slots + (n + N) = slots + N + n by omega] at this)
  have e2 : xv E (.ref h.length) = .ref (E.1 + h.length) := congrArg Value.ref (xa_lo (by omega))
  rw [List.map_cons, e2] at this
  exact this
theorem xl_calli {q ci : Nat} {fs : List Value} (hd : decode M.2.1 pc = .ok (.invokespecial idx, 3)) (hl : Cond.methodLink M.1.cls idx M'.1 ∈ xT) (hm : xMi M' np) (hq : h[q]? = some (.inr (ci, fs))) (hev : xEv X true d k1 n1 M' (.ref q :: as) h Q1) (hn : as.length = np) (hst : st = xpu as (.ref q :: rest)) (hcat : (rest.map fun v => v.category).sum ≤ 8) (hk : k1 + k2 = k) (hk' : n1 + n2 = n)
    (g : ∀ v h', Q1 v h' → xGL X (d + 1) k2 n2 M (pc + 3) ls (v ++ rest) h' Q) : xGL X (d + 1) k n M pc ls st h Q := by
  intro E p l e R s m args below meth c Qf C H locs cells slots lc w h1 h2 hl' K
  subst hk; subst hk'; subst hst
  have hE := C.2.2.2.2.2.2.2.2.2.2.2
  have hev' := hev l E
  obtain ⟨hm1, hm2, hm3, hm4⟩ := hm
  have hg := xmc_good hm1
  have hcw := hm1.2.1
  rw [hm4] at hev' hg
  have hrun := va_runI (p := p) (e := e) (R := R) (below := below) (meth := meth) (locs := locs) (cells := cells) (slots := slots) (H := H) (b := E.1 + q) (As := as.map (xv E)) (rest := rest.map (xv E)) (g := F0 m pc lc ((xpu as (.ref q :: rest)).map (xv E)))
    ⟨C.1, C.2.1, C.2.2.1, C.2.2.2.1, C.2.2.2.2.1⟩ hev'
    (cwI np C.2.2.2.2.1 hg rfl rfl rfl (C.2.2.2.2.1 _ hm1.1) (C.2.2.2.2.1 _ hl) (C.2.2.2.2.1 _ hm2) hm3 hm1.2.2.1 (xroom C.2.2.2.2.2.2.2.2.2.1 C.2.2.2.2.2.2.2.2.2.2.1 hm1.2.2.2.1))
    ⟨xpc_blind, fun U hU hW => by
      have := xpc_at (av := .ref q :: as) C w U hU hW
      have e1 : (Value.ref q :: as).map (xv E) = .ref (E.1 + q) :: as.map (xv E) := by
        show Value.ref (xa E q) :: _ = _
        rw [xa_lo (xlt hq w.2.1)]
      rw [e1] at this
      exact this⟩
    rfl (by rw [List.length_map]; exact hn) hl'.1 (by
      show (xpu as (.ref q :: rest)).map (xv E) = _
      rw [xpu_eq, List.map_append, List.map_reverse]
      show _ ++ (Value.ref (xa E q) :: _) = _
      rw [xa_lo (xlt hq w.2.1)]) (lv_room (by rw [xv_sum hE]; exact hcat)) hd (by omega)
  refine xw_call hrun w.2.2.2 (fun v h' H1 locs1 hq1 w1 => ?_)
  rw [← List.map_append]
  refine g v h' hq1 E p l e R s m args below meth c Qf C H1 locs1 _ _ lc w1 (by omega) (by omega) hl' (fun pc' v h' H' locs' lc' q1 q2 q3 => ?_)
  have := K pc' v h' H' locs' lc' q1 q2 q3
  rwa [← Nat.add_assoc, ← Nat.add_assoc] at this
end
