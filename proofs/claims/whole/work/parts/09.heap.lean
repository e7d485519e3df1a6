/-! rows for locals, fields, arrays, what nobody writes, returns -/
def xK (ci : Nat) (C : String) (T : u_T) (N : Nat) (ty : Nat → FieldType) : Prop :=
  xcl[ci]? = some (C, T, N) ∧ (∀ w ∈ u_ws C T N, w ∈ xT) ∧ (∀ k, k < N → parseFieldDescriptor (T k).2.2.1 = some (ty k)) ∧ (∀ a, a < N → ∀ b, b < N → a ≠ b → (T a).2.1 ≠ (T b).2.1)
/-- entry idx of class own's pool is field kf (type fty, final or not, declared by dcl) of class ci -/
def xFl (own : String) (idx ci kf : Nat) (fty : FieldType) (fin : Bool) (dcl : String) : Prop :=
  ∃ (C : String) (T : u_T) (N : Nat) (ty : Nat → FieldType), xK ci C T N ty ∧ kf < N ∧ Cond.fieldLink own idx (T kf).1 (T kf).2.1 (T kf).2.2.1 ∈ xT ∧ ty kf = fty ∧ (T kf).2.2.2 = fin ∧ (T kf).1 = dcl
theorem xlt {h : List va_E} {q : Nat} {e : va_E} (hc : h[q]? = some e) (hl : h.length < 1000) : q < 1000 := Nat.lt_trans (List.getElem?_eq_some_iff.mp hc).1 hl
section XW
variable {p : Program} {l : Launch} {e : Env} {R : Room} {s : State} {m : MethodId} {args : Array Value} {below : List Frame} {meth : Method} {c : Code} {H : Heap} {locs : List Loc} {cells slots : Nat} {Q : State → Prop}
variable {cc : ByteArray} {pc : Nat} {ls : Array Slot} {rest : List Value} {D : va_G} {A : Nat → Prop} {a : Nat} {tys : List (ClassId × FieldType)} {ws : va_W} {H0 : Heap}
/-- a field is written, final or not: as the kit's row, and the heap stays as long as it was -/
theorem xw_put (hexec : p.tables.exec = Jvm.exec) (hb : c.code = cc) {own : String} {C : String} {T : u_T} {N ci index : Nat} {ty0 : Nat → FieldType} (hts : ∀ w ∈ xT, w.before args s = true) (hx : xK ci C T N ty0) (hown : s.vm.findClass own = some m.cls) (hK : va_K D xcl tys s) (hP : va_P D xcl ws H) (hD : va_D A ws) (hS0 : va_S A H0 H locs) (q0 : Nat) {fs : List Value} (he : ws[q0]? = some (a, .inr (ci, fs))) (k : Nat) (hk : k < N) (hlink : (Cond.fieldLink own index (T k).1 (T k).2.1 (T k).2.2.1).before args s = true)
    (hfin : (T k).2.2.2 = false ∨ ((T k).2.2.2 = true ∧ meth.name = "<init>" ∧ (T k).1 = own)) {v : Value} (hn : narrow (ty0 k) v = v) (hfit : fits (ty0 k) v = true) (hl : k < fs.length) (hdg : decode cc pc = .ok (.putfield index, 3))
    (kk : ∀ (H1 : Heap) (locs1 : List Loc), H1.size = H.size → va_P D xcl (ws.set q0 (a, .inr (ci, fs.set k v))) H1 → va_S A H0 H1 locs1 → W p l e R s m args below meth c H1 locs1 cells slots Q (F0 m (pc + 3) ls rest)) : W p l e R s m args below meth c H locs cells slots Q (F0 m pc ls (v :: .ref a :: rest)) := by
  obtain ⟨hc, hin, hty, hnm⟩ := hx
  have hap := va_apart (own := own) hts hin ty0 hty hnm hK hc
  obtain ⟨r, h1, cell, q1, q2, q3, q4⟩ := hP q0 _ he
  have hr : r = (C, T, N) := Option.some.inj (h1.symm.trans hc)
  subst hr
  obtain ⟨hS, hfc, kC, hkC, hkind⟩ := hK.1 ci _ hc
  obtain ⟨cf, kf, fi, f, hi, hsl⟩ := hS k hk
  have hst := (u_facts hfc hkC (u_lays hts hin hk) hi).1
  have hlt : f.slot < cell.slots.size := by rw [hsl]; exact k2_hasslot (q4 k hk)
  have fin : ∀ H1 : Heap, H1[a]? = some (cell.setSlot f.slot v) → H1.size = H.size → (∀ q, q ≠ a → H1[q]? = H[q]?) → W p l e R s m args below meth c H1 (locs ++ [⟨a, f.slot⟩]) cells slots Q (F0 m (pc + 3) ls rest) := by
    intro H1 e1 e2 e3
    rw [hsl] at e1 ⊢
    exact kk H1 _ e2 (hP.set hD he ⟨_, hc, t_OB.to (V := updV (vp_V fs) k v) ⟨_, e1, q2, q3, t_set q4 hap hk v⟩ (fun j _ => vp_updV_set hl v j)⟩ e3) (hS0.put e2 e3 (hD.2 q0 _ he))
  have hlay := hts _ (hin _ (u_in_lay hk))
  unfold u_lay at hlay
  rcases hfin with hfin | ⟨hfin, hin2, hdecl⟩
  · rw [if_neg (by rw [hfin]; decide)] at hlay
    have h6 := u_store hfc hkC hkind hlay hi (hty k hk) hn hfit
    exact W.putK hexec hb (f := f) ⟨hown, hlink, ⟨_, _, _, hi⟩, hst⟩ (by rw [q2]; exact h6) q1 q3 hlt rfl rfl hdg fin
  · rw [if_pos hfin] at hlay
    have hcf : m.cls = cf := by
      obtain ⟨_, _, c', _, _, _, -, -, hf', -, -, -, hown2, -⟩ := Cond.laysFinal_spec hlay
      have e1 : c' = cf := by have := hi.symm.trans hf'; simp at this; exact this.1.symm
      rw [hdecl] at hown2
      rw [← e1]; exact Option.some.inj (hown.symm.trans hown2)
    have h6 := u_fits hfc hkC hkind (Or.inr hlay) hi (hty k hk) hn hfit
    exact W.putFinK hexec hb hown hlink hi hst hcf hin2 (by rw [q2]; exact h6) q1 q3 hlt rfl rfl hdg fin
end XW
section XGH
variable {X : xS} {z : Bool} {d k n : Nat} {M : xM} {pc : Nat} {ls ls' : List (Option Value)} {st : List Value} {h h' : List va_E} {Q : List Value → List va_E → Prop}
theorem xg_istore_n {i : Fin 4} {x : Int32} (hd : decode M.2.1 pc = .ok (.istore_n i, 1)) (hn : (i : Nat) < M.2.2.1) (hl' : xst ls i (.int x) = ls') (g : xGo X z d k n M (pc + 1) ls' st h Q) : xGo X z d k n M pc ls (.int x :: st) h Q := by
  intro E p l e R s m args below meth c Qf C H locs cells slots lc w h1 h2 hl K
  subst hl'
  exact lv_istore_n C.1 C.2.1 hd rfl hl.has hn rfl (fun lc' q => g E p l e R s m args below meth c Qf C H locs cells slots lc' w h1 h2 (xL.st (v := .int x) C.2.2.2.2.2.2.2.2.2.2.2 q) K)
theorem xg_istore {i : Nat} {x : Int32} (hd : decode M.2.1 pc = .ok (.istore i, 2)) (hn : i < M.2.2.1) (hl' : xst ls i (.int x) = ls') (g : xGo X z d k n M (pc + 2) ls' st h Q) : xGo X z d k n M pc ls (.int x :: st) h Q := by
  intro E p l e R s m args below meth c Qf C H locs cells slots lc w h1 h2 hl K
  subst hl'
  exact lv_istore C.1 C.2.1 hd hl.has hn rfl (fun lc' q => g E p l e R s m args below meth c Qf C H locs cells slots lc' w h1 h2 (xL.st (v := .int x) C.2.2.2.2.2.2.2.2.2.2.2 q) K)
theorem xg_lstore_n {i : Fin 4} {x : Int64} (hd : decode M.2.1 pc = .ok (.lstore_n i, 1)) (hn : (i : Nat) + 1 < M.2.2.1) (hl' : xst2 ls i (.long x) = ls') (g : xGo X z d k n M (pc + 1) ls' st h Q) : xGo X z d k n M pc ls (.long x :: st) h Q := by
  intro E p l e R s m args below meth c Qf C H locs cells slots lc w h1 h2 hl K
  subst hl'
  exact lv_lstore_n C.1 C.2.1 hd rfl hl.has hn rfl (fun lc' q => g E p l e R s m args below meth c Qf C H locs cells slots lc' w h1 h2 (xL.st2 (v := .long x) C.2.2.2.2.2.2.2.2.2.2.2 q) K)
theorem xg_lstore {i : Nat} {x : Int64} (hd : decode M.2.1 pc = .ok (.lstore i, 2)) (hn : i + 1 < M.2.2.1) (hl' : xst2 ls i (.long x) = ls') (g : xGo X z d k n M (pc + 2) ls' st h Q) : xGo X z d k n M pc ls (.long x :: st) h Q := by
  intro E p l e R s m args below meth c Qf C H locs cells slots lc w h1 h2 hl K
  subst hl'
  exact lv_lstore C.1 C.2.1 hd hl.has hn rfl (fun lc' q => g E p l e R s m args below meth c Qf C H locs cells slots lc' w h1 h2 (xL.st2 (v := .long x) C.2.2.2.2.2.2.2.2.2.2.2 q) K)
theorem xg_astore_n {i : Fin 4} {x : Nat} (hd : decode M.2.1 pc = .ok (.astore_n i, 1)) (hn : (i : Nat) < M.2.2.1) (hl' : xst ls i (.ref x) = ls') (g : xGo X z d k n M (pc + 1) ls' st h Q) : xGo X z d k n M pc ls (.ref x :: st) h Q := by
  intro E p l e R s m args below meth c Qf C H locs cells slots lc w h1 h2 hl K
  subst hl'
  exact lv_astore_n C.1 C.2.1 hd rfl hl.has hn rfl (fun lc' q => g E p l e R s m args below meth c Qf C H locs cells slots lc' w h1 h2 (xL.st (v := .ref x) C.2.2.2.2.2.2.2.2.2.2.2 q) K)
theorem xg_astore {i : Nat} {x : Nat} (hd : decode M.2.1 pc = .ok (.astore i, 2)) (hn : i < M.2.2.1) (hl' : xst ls i (.ref x) = ls') (g : xGo X z d k n M (pc + 2) ls' st h Q) : xGo X z d k n M pc ls (.ref x :: st) h Q := by
  intro E p l e R s m args below meth c Qf C H locs cells slots lc w h1 h2 hl K
  subst hl'
  exact lv_astore C.1 C.2.1 hd hl.has hn rfl (fun lc' q => g E p l e R s m args below meth c Qf C H locs cells slots lc' w h1 h2 (xL.st (v := .ref x) C.2.2.2.2.2.2.2.2.2.2.2 q) K)
theorem xg_iinc {i : Nat} {c0 : Int} {x y : Int32} (hd : decode M.2.1 pc = .ok (.iinc i c0, 3)) (hv : ls[i]? = some (some (.int x))) (hy : x + Int32.ofInt c0 = y) (hn : i < M.2.2.1) (hl' : xst ls i (.int y) = ls') (g : xGo X z d k n M (pc + 3) ls' st h Q) : xGo X z d k n M pc ls st h Q := by
  intro E p l e R s m args below meth c Qf C H locs cells slots lc w h1 h2 hl K
  subst hl'
  have hm : (i, Value.int x) ∈ xpr E 0 ls := (xpr_mem ls 0 _).mpr ⟨i, _, hv, by simp [xv]⟩
  obtain ⟨k0, hk0⟩ := List.getElem?_of_mem hm
  exact lv_iinc C.1 C.2.1 hd hl.has hk0 hy hn rfl (fun lc' q => g E p l e R s m args below meth c Qf C H locs cells slots lc' w h1 h2 (xL.st (v := .int y) C.2.2.2.2.2.2.2.2.2.2.2 q) K)
theorem xg_get {idx ci kf q : Nat} {fty : FieldType} {fin : Bool} {dcl : String} {fs : List Value} {v : Value} (hd : decode M.2.1 pc = .ok (.getfield idx, 3)) (hf : xFl M.1.cls idx ci kf fty fin dcl) (hc : h[q]? = some (.inr (ci, fs))) (hv : fs[kf]? = some v) (g : xGo X z d k n M (pc + 3) ls (v :: st) h Q) : xGo X z d k n M pc ls (.ref q :: st) h Q := by
  refine xg_s (fun E p l e R s m args below meth c Qf H locs cells slots lc C w hl ww => ?_) g
  obtain ⟨Cn, T, N, ty, hK, hk, hln, -⟩ := hf
  show W p l e R s m args below meth c H locs cells slots Qf (F0 m pc lc (.ref (xa E q) :: st.map (xv E)))
  rw [xa_lo (xlt hc w.2.1)]
  exact va_get C.1 C.2.1 C.2.2.2.2.1 hK.2.1 C.2.2.2.1 C.2.2.2.2.2.2.1 w.2.2.1 q (xws_get hc) hK.1 kf hk (C.2.2.2.2.1 _ hln) (fun _ h9 => h9) (v := xv E v) (by rw [List.getElem?_map, hv]; rfl) hd ww
theorem xg_put {idx ci kf q : Nat} {fty : FieldType} {fin : Bool} {dcl : String} {fs : List Value} {v : Value} (hd : decode M.2.1 pc = .ok (.putfield idx, 3)) (hf : xFl M.1.cls idx ci kf fty fin dcl) (hfi : fin = false ∨ (M.1.name = "<init>" ∧ dcl = M.1.cls)) (hc : h[q]? = some (.inr (ci, fs))) (hn : ∀ E : xE, narrow fty (xv E v) = xv E v ∧ fits fty (xv E v) = true) (hl0 : kf < fs.length) (hh : h.set q (.inr (ci, fs.set kf v)) = h') (g : xGo X z d k n M (pc + 3) ls st h' Q) : xGo X z d k n M pc ls (v :: .ref q :: st) h Q := by
  intro E p l e R s m args below meth c Qf C H locs cells slots lc w h1 h2 hl K
  obtain ⟨Cn, T, N, ty, hK, hk, hln, e1, e2, e3⟩ := hf
  subst hh
  subst e1
  show W p l e R s m args below meth c H locs cells slots Qf (F0 m pc lc (xv E v :: .ref (xa E q) :: st.map (xv E)))
  rw [xa_lo (xlt hc w.2.1)]
  refine xw_put C.1 C.2.1 C.2.2.2.2.1 hK C.2.2.2.1 C.2.2.2.2.2.2.1 w.2.2.1 (xws_D E h) w.2.2.2 q (xws_get hc) kf hk (C.2.2.2.2.1 _ hln) ?_ (hn E).1 (hn E).2 (by rw [List.length_map]; exact hl0) hd (fun H1 locs1 hz hP hS => ?_)
  · cases hb : (T kf).2.2.2 with
    | false => exact Or.inl rfl
    | true =>
      right
      rcases hfi with hfi | ⟨h3, h4⟩
      · rw [← e2, hb] at hfi; cases hfi
      · exact ⟨rfl, C.2.2.2.2.2.1.trans h3, e3.trans h4⟩
  · refine g E p l e R s m args below meth c Qf C H1 locs1 cells slots lc ⟨fun q => by rw [hz, w.1 q, List.length_set], by rw [List.length_set]; exact w.2.1, ?_, hS⟩ h1 h2 hl K
    rw [xws_set]
    rw [← List.map_set] at hP
    exact hP
theorem xg_puti {idx ci kf q : Nat} {dcl : String} {fs : List Value} {x : Int32} (hd : decode M.2.1 pc = .ok (.putfield idx, 3)) (hf : xFl M.1.cls idx ci kf .int false dcl) (hc : h[q]? = some (.inr (ci, fs))) (hl0 : kf < fs.length) (hh : h.set q (.inr (ci, fs.set kf (.int x))) = h') (g : xGo X z d k n M (pc + 3) ls st h' Q) : xGo X z d k n M pc ls (.int x :: .ref q :: st) h Q :=
  xg_put hd hf (Or.inl rfl) hc (fun _ => ⟨rfl, rfl⟩) hl0 hh g
theorem xg_iald {q N : Nat} {f : Nat → Int32} {i : Int32} (j : Nat) (hd : decode M.2.1 pc = .ok (.iaload, 1)) (hc : h[q]? = some (.inl (0, N, .inl f))) (hi : i = nI j) (hj : j < N) (hN : N < 2 ^ 31) (g : xGo X z d k n M (pc + 1) ls (.int (f j) :: st) h Q) : xGo X z d k n M pc ls (.int i :: .ref q :: st) h Q := by
  subst hi
  refine xg_s (fun E p l e R s m args below meth c Qf H locs cells slots lc C w hl ww => ?_) g
  show W p l e R s m args below meth c H locs cells slots Qf (F0 m pc lc (.int (nI j) :: .ref (xa E q) :: st.map (xv E)))
  rw [xa_lo (xlt hc w.2.1)]
  refine va_iald C.1 C.2.1 C.2.2.2.2.2.2.1 w.2.2.1 q 0 (xws_get hc) rfl (vp_in_nI hj hN) hd ?_
  rw [nI_clamp (Nat.lt_trans hj hN)]
  exact ww
theorem xg_zald {q N : Nat} {f : Nat → Int32} {i : Int32} (j : Nat) (hd : decode M.2.1 pc = .ok (.baload, 1)) (hc : h[q]? = some (.inl (2, N, .inl f))) (hi : i = nI j) (hj : j < N) (hN : N < 2 ^ 31) (g : xGo X z d k n M (pc + 1) ls (.int (f j) :: st) h Q) : xGo X z d k n M pc ls (.int i :: .ref q :: st) h Q := by
  subst hi
  refine xg_s (fun E p l e R s m args below meth c Qf H locs cells slots lc C w hl ww => ?_) g
  show W p l e R s m args below meth c H locs cells slots Qf (F0 m pc lc (.int (nI j) :: .ref (xa E q) :: st.map (xv E)))
  rw [xa_lo (xlt hc w.2.1)]
  refine va_zald C.1 C.2.1 C.2.2.2.2.2.2.1 w.2.2.1 q 2 (xws_get hc) rfl (vp_in_nI hj hN) hd ?_
  rw [nI_clamp (Nat.lt_trans hj hN)]
  exact ww
theorem xg_lald {q N : Nat} {f : Nat → Int64} {i : Int32} (j : Nat) (hd : decode M.2.1 pc = .ok (.laload, 1)) (hc : h[q]? = some (.inl (1, N, .inr (.inl f)))) (hi : i = nI j) (hj : j < N) (hN : N < 2 ^ 31) (g : xGo X z d k n M (pc + 1) ls (.long (f j) :: st) h Q) : xGo X z d k n M pc ls (.int i :: .ref q :: st) h Q := by
  subst hi
  refine xg_s (fun E p l e R s m args below meth c Qf H locs cells slots lc C w hl ww => ?_) g
  show W p l e R s m args below meth c H locs cells slots Qf (F0 m pc lc (.int (nI j) :: .ref (xa E q) :: st.map (xv E)))
  rw [xa_lo (xlt hc w.2.1)]
  refine va_lald C.1 C.2.1 C.2.2.2.2.2.2.1 w.2.2.1 q 1 (xws_get hc) rfl (vp_in_nI hj hN) hd ?_
  rw [nI_clamp (Nat.lt_trans hj hN)]
  exact ww
theorem xg_aald {q N t r : Nat} {f : Nat → Option Nat} {i : Int32} (j : Nat) (hd : decode M.2.1 pc = .ok (.aaload, 1)) (hc : h[q]? = some (.inl (t, N, .inr (.inr (.inr (.inr f)))))) (ht : t = 3 ∨ t = 4 ∨ t = 5) (hi : i = nI j) (hj : j < N) (hN : N < 2 ^ 31) (hr : f j = some r) (g : xGo X z d k n M (pc + 1) ls (.ref r :: st) h Q) : xGo X z d k n M pc ls (.int i :: .ref q :: st) h Q := by
  subst hi
  refine xg_s (fun E p l e R s m args below meth c Qf H locs cells slots lc C w hl ww => ?_) g
  show W p l e R s m args below meth c H locs cells slots Qf (F0 m pc lc (.int (nI j) :: .ref (xa E q) :: st.map (xv E)))
  rw [xa_lo (xlt hc w.2.1)]
  have fin : W p l e R s m args below meth c H locs cells slots Qf (F0 m (pc + 1) lc (va_rf ((fun j => (f j).map (xa E)) (nI j).toNatClampNeg) :: st.map (xv E))) := by
    rw [nI_clamp (Nat.lt_trans hj hN)]
    show W p l e R s m args below meth c H locs cells slots Qf (F0 m (pc + 1) lc (va_rf ((f j).map (xa E)) :: st.map (xv E)))
    rw [hr]
    exact ww
  rcases ht with ht | ht | ht <;> subst ht
  · exact va_aldq (C := RX5) C.1 C.2.1 C.2.2.2.2.2.2.1 w.2.2.1 q 3 (xws_get hc) rfl (vp_in_nI hj hN) hd fin
  · exact va_aldq (C := RX0) C.1 C.2.1 C.2.2.2.2.2.2.1 w.2.2.1 q 4 (xws_get hc) rfl (vp_in_nI hj hN) hd fin
  · exact va_aldq (C := RX2) C.1 C.2.1 C.2.2.2.2.2.2.1 w.2.2.1 q 5 (xws_get hc) rfl (vp_in_nI hj hN) hd fin
theorem xg_iast {q N : Nat} {f : Nat → Int32} {i x : Int32} (j : Nat) (hd : decode M.2.1 pc = .ok (.iastore, 1)) (hc : h[q]? = some (.inl (0, N, .inl f))) (hi : i = nI j) (hj : j < N) (hN : N < 2 ^ 31) (hh : h.set q (.inl (0, N, .inl (upd f j x))) = h') (g : xGo X false d k n M (pc + 1) ls st h' Q) : xGo X false d k n M pc ls (.int x :: .int i :: .ref q :: st) h Q := by
  subst hi
  subst hh
  intro E p l e R s m args below meth c Qf C H locs cells slots lc w h1 h2 hl K
  show W p l e R s m args below meth c H locs cells slots Qf (F0 m pc lc (.int x :: .int (nI j) :: .ref (xa E q) :: st.map (xv E)))
  rw [xa_lo (xlt hc w.2.1)]
  refine va_iast C.1 C.2.1 C.2.2.2.2.2.2.1 w.2.2.1 (xws_D E h) w.2.2.2 q 0 (xws_get hc) rfl (vp_in_nI hj hN) hd (fun H1 locs1 hP _ hS => ?_)
  rw [nI_clamp (Nat.lt_trans hj hN)] at hP
  exact g E p l e R s m args below meth c Qf C H1 locs1 cells slots lc ⟨fun q => absurd q (by decide), by rw [List.length_set]; exact w.2.1, by rw [xws_set]; exact hP, hS⟩ h1 h2 hl K
theorem xg_zast {q N : Nat} {f : Nat → Int32} {i x : Int32} (j : Nat) (hd : decode M.2.1 pc = .ok (.bastore, 1)) (hc : h[q]? = some (.inl (2, N, .inl f))) (hi : i = nI j) (hj : j < N) (hN : N < 2 ^ 31) (hx : vp_nar .boolean x = x) (hh : h.set q (.inl (2, N, .inl (upd f j x))) = h') (g : xGo X false d k n M (pc + 1) ls st h' Q) : xGo X false d k n M pc ls (.int x :: .int i :: .ref q :: st) h Q := by
  subst hi
  subst hh
  intro E p l e R s m args below meth c Qf C H locs cells slots lc w h1 h2 hl K
  show W p l e R s m args below meth c H locs cells slots Qf (F0 m pc lc (.int x :: .int (nI j) :: .ref (xa E q) :: st.map (xv E)))
  rw [xa_lo (xlt hc w.2.1)]
  refine va_zast C.1 C.2.1 C.2.2.2.2.2.2.1 w.2.2.1 (xws_D E h) w.2.2.2 q 2 (xws_get hc) rfl (vp_in_nI hj hN) hd (fun H1 locs1 hP _ hS => ?_)
  rw [nI_clamp (Nat.lt_trans hj hN), hx] at hP
  exact g E p l e R s m args below meth c Qf C H1 locs1 cells slots lc ⟨fun q => absurd q (by decide), by rw [List.length_set]; exact w.2.1, by rw [xws_set]; exact hP, hS⟩ h1 h2 hl K
theorem xg_last {q N : Nat} {f : Nat → Int64} {i : Int32} {x : Int64} (j : Nat) (hd : decode M.2.1 pc = .ok (.lastore, 1)) (hc : h[q]? = some (.inl (1, N, .inr (.inl f)))) (hi : i = nI j) (hj : j < N) (hN : N < 2 ^ 31) (hh : h.set q (.inl (1, N, .inr (.inl (vp_updL f j x)))) = h') (g : xGo X false d k n M (pc + 1) ls st h' Q) : xGo X false d k n M pc ls (.long x :: .int i :: .ref q :: st) h Q := by
  subst hi
  subst hh
  intro E p l e R s m args below meth c Qf C H locs cells slots lc w h1 h2 hl K
  show W p l e R s m args below meth c H locs cells slots Qf (F0 m pc lc (.long x :: .int (nI j) :: .ref (xa E q) :: st.map (xv E)))
  rw [xa_lo (xlt hc w.2.1)]
  refine va_last C.1 C.2.1 C.2.2.2.2.2.2.1 w.2.2.1 (xws_D E h) w.2.2.2 q 1 (xws_get hc) rfl (vp_in_nI hj hN) hd (fun H1 locs1 hP _ hS => ?_)
  rw [nI_clamp (Nat.lt_trans hj hN)] at hP
  exact g E p l e R s m args below meth c Qf C H1 locs1 cells slots lc ⟨fun q => absurd q (by decide), by rw [List.length_set]; exact w.2.1, by rw [xws_set]; exact hP, hS⟩ h1 h2 hl K
/-! returns -/
theorem xg_ret (hd : decode M.2.1 pc = .ok (.return_, 1)) (hr : M.2.2.2 = none) (q : Q [] h) : xGo X z d k n M pc ls [] h Q := by
  intro E p l e R s m args below meth c Qf C H locs cells slots lc w h1 h2 hl K
  exact W.widen (Nat.le_add_right _ _) (Nat.le_add_right _ _) (K pc [] h H locs lc q (Or.inl ⟨hr, rfl, hd⟩) w)
theorem xg_zret {x : Int32} {ty : FieldType} (hd : decode M.2.1 pc = .ok (.ireturn, 1)) (hr : M.2.2.2 = some ty) (hn : narrow ty (.int x) = .int x) (q : Q [.int x] h) : xGo X z d k n M pc ls [.int x] h Q := by
  intro E p l e R s m args below meth c Qf C H locs cells slots lc w h1 h2 hl K
  exact W.widen (Nat.le_add_right _ _) (Nat.le_add_right _ _) (K pc [.int x] h H locs lc q (Or.inr (Or.inl ⟨x, ty, hr, rfl, hn, hd⟩)) w)
theorem xg_iret {x : Int32} (hd : decode M.2.1 pc = .ok (.ireturn, 1)) (hr : M.2.2.2 = some .int) (q : Q [.int x] h) : xGo X z d k n M pc ls [.int x] h Q := xg_zret hd hr rfl q
theorem xg_lret {x : Int64} (hd : decode M.2.1 pc = .ok (.lreturn, 1)) (hr : M.2.2.2 = some .long) (q : Q [.long x] h) : xGo X z d k n M pc ls [.long x] h Q := by
  intro E p l e R s m args below meth c Qf C H locs cells slots lc w h1 h2 hl K
  exact W.widen (Nat.le_add_right _ _) (Nat.le_add_right _ _) (K pc [.long x] h H locs lc q (Or.inr (Or.inr ⟨x, hr, rfl, hd⟩)) w)
/-! switches -/
theorem xg_tswI {x : Int32} {dflt lo hi off : Int} {offs : Array Int} {len : Nat} (i : Nat) {tgt : Nat} (hd : decode M.2.1 pc = .ok (.tableswitch dflt lo hi offs, len)) (hx : x.toInt = lo + i) (hh : lo + i ≤ hi) (ho : offs[i]? = some off) (ht : (pc : Int) + off = (tgt : Int)) (g : xGo X z d k n M tgt ls st h Q) : xGo X z d k n M pc ls (.int x :: st) h Q :=
  xg_s (fun E p l e R s m args below meth c Qf H locs cells slots lc C w hl ww => lv_tableIn C.1 C.2.1 hd (by omega) (by omega) (by rw [show (x.toInt - lo).toNat = i by omega]; exact ho) ht ww) g
theorem xg_tswO {x : Int32} {dflt lo hi : Int} {offs : Array Int} {len : Nat} {tgt : Nat} (hd : decode M.2.1 pc = .ok (.tableswitch dflt lo hi offs, len)) (hx : x.toInt < lo ∨ hi < x.toInt) (ht : (pc : Int) + dflt = (tgt : Int)) (g : xGo X z d k n M tgt ls st h Q) : xGo X z d k n M pc ls (.int x :: st) h Q :=
  xg_s (fun E p l e R s m args below meth c Qf H locs cells slots lc C w hl ww => lv_tableOut C.1 C.2.1 hd hx ht ww) g
/-! what nobody writes -/
theorem xg_gsN {idx : Nat} (hd : decode M.2.1 pc = .ok (.getstatic idx, 3)) (hln : Cond.fieldLink M.1.cls idx "GlintNetsModel" "NAMES" "[I" ∈ xT) (g : xGo X z d k n M (pc + 3) ls (.ref 1002 :: st) h Q) : xGo X z d k n M pc ls st h Q :=
  xg_s (fun E p l e R s m args below meth c Qf H locs cells slots lc C w hl ww => va_gets C.1 C.2.1 C.2.2.2.2.2.2.2.1.2.2.2.1 w.2.2.2 C.2.2.2.1 (C.2.2.2.2.1 _ hln) (fun _ q => q) hd ww) g
theorem xg_gsK (hd : decode M.2.1 pc = .ok (.getstatic xni, 3)) (hM : M.1.cls = RX5) (g : xGo X z d k n M (pc + 3) ls (.ref 1001 :: st) h Q) : xGo X z d k n M pc ls st h Q :=
  xg_s (fun E p l e R s m args below meth c Qf H locs cells slots lc C w hl ww => va_getsN C.1 C.2.1 C.2.2.2.2.2.2.2.1.2.1 w.2.2.2 (by rw [← hM]; exact C.2.2.2.1) (va_Nw.use rfl C.2.2.2.2.2.2.2.1.2.2.2.2.2.2.2.2.2.2.2.2) (fun _ q => q) hd ww) g
theorem xg_gsC {idx : Nat} (hd : decode M.2.1 pc = .ok (.getstatic idx, 3)) (hln : Cond.fieldLink M.1.cls idx "java/lang/String" "COMPACT_STRINGS" "Z" ∈ xT) (g : xGo X z d k n M (pc + 3) ls (.int 1 :: st) h Q) : xGo X z d k n M pc ls st h Q :=
  xg_s (fun E p l e R s m args below meth c Qf H locs cells slots lc C w hl ww => va_gets C.1 C.2.1 C.2.2.2.2.2.2.2.1.2.2.2.2.2.1 w.2.2.2 C.2.2.2.1 (C.2.2.2.2.1 _ hln) (fun _ q => q) hd ww) g
theorem xg_gsS {idx : Nat} (hd : decode M.2.1 pc = .ok (.getstatic idx, 3)) (hln : Cond.fieldLink M.1.cls idx "jdk/internal/util/Preconditions" "SIOOBE_FORMATTER" "Ljava/util/function/BiFunction;" ∈ xT) (g : xGo X z d k n M (pc + 3) ls (.float 0 :: st) h Q) : xGo X z d k n M pc ls st h Q :=
  xg_s (fun E p l e R s m args below meth c Qf H locs cells slots lc C w hl ww => va_gets C.1 C.2.1 C.2.2.2.2.2.2.2.1.2.2.2.2.2.2.1 w.2.2.2 C.2.2.2.1 (C.2.2.2.2.1 _ hln) (fun _ q => q) hd ww) g
theorem xg_ldS {i : Nat} {idx : Nat} (hd : decode M.2.1 pc = .ok (.ldc idx, 2)) (hM : M.1.cls = RX4) (hi : i < 16) (hx : xix.getD i 0 = idx) (g : xGo X z d k n M (pc + 2) ls (.ref (1100 + i) :: st) h Q) : xGo X z d k n M pc ls st h Q := by
  refine xg_s (fun E p l e R s m args below meth c Qf H locs cells slots lc C w hl ww => ?_) g
  have e1 : xv E (.ref (1100 + i)) = .ref (E.2.1 (1100 + i)) := congrArg Value.ref (xa_hi (by omega))
  have ww' : W p l e R s m args below meth c H locs cells slots Qf (F0 m (pc + 2) lc (.ref (E.2.1 (1100 + i)) :: st.map (xv E))) := by rw [← e1]; exact ww
  exact va_ldcS C.1 C.2.1 (by rw [← hM]; exact C.2.2.2.1) (hx ▸ C.2.2.2.2.2.2.2.1.2.2.2.2.2.2.2.2.1 i hi) hd ww'
theorem xg_siald {i : Int32} (j : Nat) (hd : decode M.2.1 pc = .ok (.iaload, 1)) (hi : i = nI j) (hj : j < X.1) (hN : X.1 < 2 ^ 31) (g : xGo X z d k n M (pc + 1) ls (.int (X.2 j) :: st) h Q) : xGo X z d k n M pc ls (.int i :: .ref 1000 :: st) h Q := by
  subst hi
  refine xg_s (fun E p l e R s m args below meth c Qf H locs cells slots lc C w hl ww => ?_) g
  exact va_ti C.1 C.2.1 C.2.2.2.2.2.2.2.1.1 w.2.2.2 (vp_in_nI hj hN) (by rw [nI_clamp (Nat.lt_trans hj hN)]; rfl) hd ww
theorem xg_kiald {i : Int32} (j : Nat) (hd : decode M.2.1 pc = .ok (.iaload, 1)) (hi : i = nI j) (hj : j < 6) (g : xGo X z d k n M (pc + 1) ls (.int (xka.getD j 0) :: st) h Q) : xGo X z d k n M pc ls (.int i :: .ref 1001 :: st) h Q := by
  subst hi
  refine xg_s (fun E p l e R s m args below meth c Qf H locs cells slots lc C w hl ww => ?_) g
  exact va_ti C.1 C.2.1 C.2.2.2.2.2.2.2.1.2.2.1 w.2.2.2 (vp_in_nI hj (by decide)) (by rw [nI_clamp (by omega)]; rfl) hd ww
theorem xg_niald {i : Int32} (j : Nat) (hd : decode M.2.1 pc = .ok (.iaload, 1)) (hi : i = nI j) (hj : j < 112) (g : xGo X z d k n M (pc + 1) ls (.int (xnm.getD j 0) :: st) h Q) : xGo X z d k n M pc ls (.int i :: .ref 1002 :: st) h Q := by
  subst hi
  refine xg_s (fun E p l e R s m args below meth c Qf H locs cells slots lc C w hl ww => ?_) g
  exact va_ti C.1 C.2.1 C.2.2.2.2.2.2.2.1.2.2.2.2.1 w.2.2.2 (vp_in_nI hj (by decide)) (by rw [nI_clamp (by omega)]; rfl) hd ww
theorem xg_slen (hd : decode M.2.1 pc = .ok (.arraylength, 1)) (g : xGo X z d k n M (pc + 1) ls (.int (nI X.1) :: st) h Q) : xGo X z d k n M pc ls (.ref 1000 :: st) h Q :=
  xg_s (fun E p l e R s m args below meth c Qf H locs cells slots lc C w hl ww => va_tlen C.1 C.2.1 C.2.2.2.2.2.2.2.1.1 w.2.2.2 rfl hd ww) g
theorem xg_blen {i : Nat} (hd : decode M.2.1 pc = .ok (.arraylength, 1)) (hi : i < 16) (g : xGo X z d k n M (pc + 1) ls (.int (nI (xln.getD i 0)) :: st) h Q) : xGo X z d k n M pc ls (.ref (1200 + i) :: st) h Q := by
  refine xg_s (fun E p l e R s m args below meth c Qf H locs cells slots lc C w hl ww => ?_) g
  show W p l e R s m args below meth c H locs cells slots Qf (F0 m pc lc (.ref (xa E (1200 + i)) :: st.map (xv E)))
  rw [xa_hi (by omega)]
  exact va_tlen C.1 C.2.1 (C.2.2.2.2.2.2.2.1.2.2.2.2.2.2.2.1.1 i hi).2.2.2 w.2.2.2 rfl hd ww
theorem xg_bbald {i : Nat} {a : Int32} (j : Nat) (hd : decode M.2.1 pc = .ok (.baload, 1)) (hi : i < 16) (ha : a = nI j) (hj : j < xln.getD i 0) (hN : xln.getD i 0 < 2 ^ 31) (g : xGo X z d k n M (pc + 1) ls (.int ((xby.getD i []).getD j 0) :: st) h Q) : xGo X z d k n M pc ls (.int a :: .ref (1200 + i) :: st) h Q := by
  subst ha
  refine xg_s (fun E p l e R s m args below meth c Qf H locs cells slots lc C w hl ww => ?_) g
  show W p l e R s m args below meth c H locs cells slots Qf (F0 m pc lc (.int (nI j) :: .ref (xa E (1200 + i)) :: st.map (xv E)))
  rw [xa_hi (by omega)]
  exact va_tb C.1 C.2.1 (C.2.2.2.2.2.2.2.1.2.2.2.2.2.2.2.1.1 i hi).2.2.2 w.2.2.2 (vp_in_nI hj hN) (by rw [nI_clamp (Nat.lt_trans hj hN)]; rfl) hd ww
theorem xg_sval {i idx : Nat} (hd : decode M.2.1 pc = .ok (.getfield idx, 3)) (hln : Cond.fieldLink M.1.cls idx "java/lang/String" "value" "[B" ∈ xT) (hi : i < 16) (g : xGo X z d k n M (pc + 3) ls (.ref (1200 + i) :: st) h Q) : xGo X z d k n M pc ls (.ref (1100 + i) :: st) h Q := by
  refine xg_s (fun E p l e R s m args below meth c Qf H locs cells slots lc C w hl ww => ?_) g
  show W p l e R s m args below meth c H locs cells slots Qf (F0 m pc lc (.ref (xa E (1100 + i)) :: st.map (xv E)))
  rw [xa_hi (by omega)]
  have ww' : W p l e R s m args below meth c H locs cells slots Qf (F0 m (pc + 3) lc (.ref (E.2.1 (1200 + i)) :: st.map (xv E))) := by rw [← xa_hi (E := E) (k := 1200 + i) (by omega)]; exact ww
  exact vk_getf C.1 C.2.1 (C.2.2.2.2.2.2.2.1.2.2.2.2.2.2.2.1.1 i hi).2.2.1 w.2.2.2 C.2.2.2.1 (C.2.2.2.2.1 _ hln) (fun _ q => q) hd ww'
theorem xg_scod {i idx : Nat} (hd : decode M.2.1 pc = .ok (.getfield idx, 3)) (hln : Cond.fieldLink M.1.cls idx "java/lang/String" "coder" "B" ∈ xT) (hi : i < 16) (g : xGo X z d k n M (pc + 3) ls (.int 0 :: st) h Q) : xGo X z d k n M pc ls (.ref (1100 + i) :: st) h Q := by
  refine xg_s (fun E p l e R s m args below meth c Qf H locs cells slots lc C w hl ww => ?_) g
  show W p l e R s m args below meth c H locs cells slots Qf (F0 m pc lc (.ref (xa E (1100 + i)) :: st.map (xv E)))
  rw [xa_hi (by omega)]
  exact vk_getf C.1 C.2.1 (C.2.2.2.2.2.2.2.1.2.2.2.2.2.2.2.1.1 i hi).2.1 w.2.2.2 C.2.2.2.1 (C.2.2.2.2.1 _ hln) (fun _ q => q) hd ww
end XGH
