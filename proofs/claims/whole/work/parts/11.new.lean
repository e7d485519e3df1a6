/-! cells are made: in constructors alone, the heap's size is known there (z = true) -/
section XNEW
variable {X : xS} {d k n : Nat} {M : xM} {pc idx : Nat} {ls : List (Option Value)} {st : List Value} {h h' : List va_E} {Q : List Value → List va_E → Prop}
theorem xH.push {E : xE} {s : State} {H H1 : Heap} {locs : List Loc} {e : va_E} (w : xH true E s h H locs) (hz : H1.size = H.size + 1) (ho : ∀ q, q < H.size → H1[q]? = H[q]?) (hl : h.length + 1 < 1000) (he : va_at E.2.2.2.1 xcl (E.1 + h.length, xe E e) H1) : xH true E s (h ++ [e]) H1 locs := by
  refine ⟨fun _ => by rw [hz, w.1 rfl, List.length_append]; rfl, by rw [List.length_append]; exact hl, ?_, Nat.le_trans w.2.2.2.1 (by omega), fun q h1 h2 => (ho q (Nat.lt_of_lt_of_le h1 w.2.2.2.1)).trans (w.2.2.2.2.1 q h1 h2), w.2.2.2.2.2⟩
  rw [xws_push]
  refine va_P.app (w.2.2.1.kept (fun k q hk => ho q.1 ((w.2.2.1 k q hk).lt))) (fun k q hk => ?_)
  have hz : k < 1 := (List.getElem?_eq_some_iff.mp hk).1
  rw [show k = 0 by omega] at hk
  cases hk
  exact he
theorem xg_new {ci N : Nat} {C : String} {T : u_T} {ty : Nat → FieldType} {fs : List Value} (hd : decode M.2.1 pc = .ok (.new idx, 3)) (hK : xK ci C T N ty) (hcl : Cond.classLink M.1.cls idx C ∈ xT) (hins : Cond.instantiable C N ∈ xT) (hini : Cond.initialized C ∈ xT) (hfs : ∀ (E : xE) (j : Nat), j < N → defaultValue (ty j) = vp_V (fs.map (xv E)) j) (hln : h.length + 1 < 1000)
    (g : xGo X true d k n M (pc + 3) ls (.ref h.length :: st) (h ++ [.inr (ci, fs)]) Q) : xGo X true d (k + 1) (n + N) M pc ls st h Q := by
  intro E p l e R s m args below meth c Qf Cx H locs cells slots lc w h1 h2 hl K
  have hKn := Cx.2.2.2.2.2.2.1.1 ci _ hK.1
  refine W.newcK Cx.1 Cx.2.1 Cx.2.2.2.1 (Cx.2.2.2.2.1 _ hcl) (Cx.2.2.2.2.1 _ hins) (Cx.2.2.2.2.1 _ hini) rfl hd (by omega) (by omega) hKn.2.1 (w.1 rfl) fun H1 kC hkC e1 z1 o1 => ?_
  have hw : xH true E s (h ++ [.inr (ci, fs)]) H1 locs := w.push (by rw [z1, w.1 rfl]) (fun q hq => o1 q (by rw [← w.1 rfl]; exact hq)) hln ⟨_, hK.1, (u_born ty Cx.2.2.2.2.1 hK.2.1 hKn hkC e1 hK.2.2.1).to (hfs E)⟩
  have := g E p l e R s m args below meth c Qf Cx H1 locs (cells + 1) (slots + N) lc hw (by omega) (by omega) hl (fun pc' v h' H' locs' lc' q1 q2 q3 => by
    have := K pc' v h' H' locs' lc' q1 q2 q3
    rwa [show cells + (k + 1) = cells + 1 + k by omega, show slots + (n + N) = slots + N + n by omega] at this)
  have e2 : xv E (.ref h.length) = .ref (E.1 + h.length) := congrArg Value.ref (xa_lo (by omega))
  rw [List.map_cons, e2] at this
  exact this
theorem xg_newa {t N : Nat} {atype : ArrayType} {ty : FieldType} {a0 : xD} {x : Int32} (hd : decode M.2.1 pc = .ok (.newarray atype, 2)) (hac : Cond.arrayClass (newarray.typeOf atype) ∈ xT) (hty : newarray.typeOf atype = ty) (ht : ∀ E : xE, (xtys E)[t]? = some (E.2.2.2.2 t, ty)) (hra : ∀ (U : State) (cA : ClassId), va_RA U cA ty = (U.vm.findClass ("[" ++ ty.toString) = some cA)) (ha : ∀ (E : xE) (cA : ClassId), vp_cell cA (N, xda E a0) = arrV cA N (fun _ => defaultValue ty)) (hx : x = nI N) (hN : N < 100000) (hb : N * componentBytes ty ≤ 536870912) (hln : h.length + 1 < 1000)
    (g : xGo X true d k n M (pc + 2) ls (.ref h.length :: st) (h ++ [.inl (t, N, a0)]) Q) : xGo X true d (k + 1) (n + N) M pc ls (.int x :: st) h Q := by
  subst hx; subst hty
  intro E p l e R s m args below meth c Qf Cx H locs cells slots lc w h1 h2 hl K
  refine va_newaK Cx.1 Cx.2.1 (Cx.2.2.2.2.1 _ hac) rfl hd rfl (nI_pos (by omega)) (nI_clamp (by omega)) hb (by omega) (by omega) (w.1 rfl) fun H1 cA e1 z1 o1 hAr hNm => ?_
  have hc : cA = E.2.2.2.2 t := by
    have h3 := (Cx.2.2.2.2.2.2.1.2 t _ (ht E)).2
    rw [hra] at h3
    exact Option.some.inj (hNm.symm.trans h3)
  have hw : xH true E s (h ++ [.inl (t, N, a0)]) H1 locs := w.push (by rw [z1, w.1 rfl]) (fun q hq => o1 q (by rw [← w.1 rfl]; exact hq)) hln (by
    show H1[E.1 + h.length]? = some (vp_cell (E.2.2.2.2 t) (N, xda E a0))
    rw [ha, e1, hc])
  have := g E p l e R s m args below meth c Qf Cx H1 locs (cells + 1) (slots + N) lc hw (by omega) (by omega) hl (fun pc' v h' H' locs' lc' q1 q2 q3 => by
    have := K pc' v h' H' locs' lc' q1 q2 q3
    rwa [show cells + (k + 1) = cells + 1 + k by omega, show slots + (n + N) = slots + N + n by omega] at this)
  have e2 : xv E (.ref h.length) = .ref (E.1 + h.length) := congrArg Value.ref (xa_lo (by omega))
  rw [List.map_cons, e2] at this
  exact this
theorem xg_newq {t N : Nat} {C : String} {x : Int32} (hd : decode M.2.1 pc = .ok (.anewarray idx, 3)) (hcl : Cond.classLink M.1.cls idx C ∈ xT) (hao : C = RX5 ∨ C = RX0 ∨ C = RX2) (ht : ∀ E : xE, (xtys E)[t]? = some (E.2.2.2.2 t, .object C)) (hx : x = nI N) (hN : N < 100000) (hln : h.length + 1 < 1000)
    (g : xGo X true d k n M (pc + 3) ls (.ref h.length :: st) (h ++ [.inl (t, N, .inr (.inr (.inr (.inr (fun _ => none)))))]) Q) : xGo X true d (k + 1) (n + N) M pc ls (.int x :: st) h Q := by
  subst hx
  intro E p l e R s m args below meth c Qf Cx H locs cells slots lc w h1 h2 hl K
  have ec : (nI N).toNatClampNeg = N := nI_clamp (by omega)
  have hov : (Cond.arrayOver (.object C)).before args s = true := by
    obtain ⟨q1, q2, q3, -⟩ := Cx.2.2.2.2.2.2.2.1.2.2.2.2.2.2.2.2.2
    rcases hao with rfl | rfl | rfl
    · exact q1.use
    · exact q2.use
    · exact q3.use
  refine W.anew Cx.1 Cx.2.1 Cx.2.2.2.1 (Cx.2.2.2.2.1 _ hcl) hov rfl hd rfl (nI_pos (by omega)) (by rw [ec]; omega) (by omega) (by rw [ec]; omega) fun cA kA comp f1 f2 f3 f4 => ?_
  rw [ec]
  have hc : cA = E.2.2.2.2 t := by
    obtain ⟨_, _, _, _, _, h3⟩ := (Cx.2.2.2.2.2.2.1.2 t _ (ht E)).2
    exact Option.some.inj (f1.symm.trans h3)
  generalize hH1 : H.push ({ cls := cA, slots := Array.replicate N .null, vm := .none } : Cell) = H1
  have z1 : H1.size = H.size + 1 := by rw [← hH1, Array.size_push]
  have e1 : H1[H.size]? = some (arrV cA N (fun _ => .null)) := by rw [← hH1, Array.getElem?_push_size, ← arrV_new]
  have o1 : ∀ q : Nat, q < H.size → H1[q]? = H[q]? := fun q hq => by rw [← hH1, Array.getElem?_push, if_neg (Nat.ne_of_lt hq)]
  have hw : xH true E s (h ++ [.inl (t, N, .inr (.inr (.inr (.inr (fun _ => none)))))]) H1 locs := w.push z1 o1 hln (by
    show H1[E.1 + h.length]? = some (vp_cell (E.2.2.2.2 t) (N, .inr (.inr (.inr (.inr (fun j => (none : Option Nat).map (xa E)))))))
    rw [← w.1 rfl, e1, hc, vp_cell_q]
    rfl)
  have := g E p l e R s m args below meth c Qf Cx H1 locs (cells + 1) (slots + N) lc hw (by omega) (by omega) hl (fun pc' v h' H' locs' lc' q1 q2 q3 => by
    have := K pc' v h' H' locs' lc' q1 q2 q3
    rwa [show cells + (k + 1) = cells + 1 + k by omega, show slots + (n + N) = slots + N + n by omega] at this)
  have e2 : xv E (.ref h.length) = .ref H.size := by rw [w.1 rfl]; exact congrArg Value.ref (xa_lo (by omega))
  rw [List.map_cons, e2] at this
  exact this
theorem xg_aast {z : Bool} {q N t ci r : Nat} {rc : vw_C} {f : Nat → Option Nat} {vs : List Value} {i : Int32} (j : Nat) (hd : decode M.2.1 pc = .ok (.aastore, 1)) (hc : h[q]? = some (.inl (t, N, .inr (.inr (.inr (.inr f)))))) (hr : h[r]? = some (.inr (ci, vs))) (hci : xcl[ci]? = some rc) (ht : ∀ E : xE, (xtys E)[t]? = some (E.2.2.2.2 t, .object rc.1)) (hi : i = nI j) (hj : j < N) (hN : N < 2 ^ 31) (hh : h.set q (.inl (t, N, .inr (.inr (.inr (.inr (va_up f j (some r))))))) = h') (g : xGo X z d k n M (pc + 1) ls st h' Q) : xGo X z d k n M pc ls (.ref r :: .int i :: .ref q :: st) h Q := by
  subst hi; subst hh
  intro E p l e R s m args below meth c Qf Cx H locs cells slots lc w h1 h2 hl K
  show W p l e R s m args below meth c H locs cells slots Qf (F0 m pc lc (.ref (xa E r) :: .int (nI j) :: .ref (xa E q) :: st.map (xv E)))
  have er : xa E r = E.1 + r := xa_lo (xlt hr w.2.1)
  rw [xa_lo (xlt hc w.2.1), er]
  have hK := Cx.2.2.2.2.2.2.1
  have ec : (nI j).toNatClampNeg = j := nI_clamp (Nat.lt_trans hj hN)
  have hP := w.2.2.1
  obtain ⟨r', hr', cellV, g1, g2, g3, -⟩ := hP r _ (xws_get hr)
  have hcls := (hK.1 ci rc hci).2
  obtain ⟨kA, comp, k1, k2, k3, -⟩ := (hK.2 t _ (ht E)).2
  have hcomp : comp = E.2.2.2.1.1 ci := Option.some.inj (k3.symm.trans hcls.1)
  subst hcomp
  obtain ⟨kC, hkC, -⟩ := hcls.2
  refine W.aast Cx.1 Cx.2.1 (hP q _ (xws_get hc)) (fun q h => by cases h) (fun h => by cases h) k1 k2 rfl hkC ⟨nI_pos (by omega), by show _ < (arrV _ _ _).slots.size; rw [arrV_size, ec]; exact hj⟩ g1 (fun q h => by rw [g3] at h; cases h) (by rw [g2]; exact hkC) (by rw [g2]; exact va_assign hcls) rfl rfl hd fun H1 e1 z1 oq => ?_
  rw [ec] at e1 ⊢
  refine g E p l e R s m args below meth c Qf Cx H1 _ cells slots lc ⟨fun q => by rw [z1, w.1 q, List.length_set], by rw [List.length_set]; exact w.2.1, ?_, w.2.2.2.put z1 oq (Nat.le_add_right _ _)⟩ h1 h2 hl K
  rw [xws_set]
  refine hP.set (xws_D E h) (xws_get hc) ?_ oq
  show H1[E.1 + q]? = some (vp_cell _ _)
  rw [e1]
  show some ((vp_cell _ (N, .inr (.inr (.inr (.inr (fun j => (f j).map (xa E))))))).setSlot j (.ref (E.1 + r))) = some (vp_cell _ (N, .inr (.inr (.inr (.inr (fun j' => (va_up f j (some r) j').map (xa E)))))))
  rw [vp_cell_q, vp_cell_q, arrV_store]
  congr 2
  funext q'
  by_cases hq : q' = j
  · subst hq
    simp [updV, va_up, va_rf, er]
  · simp [updV, va_up, hq]
end XNEW
