/-! THE CONTEXT of a method's body, and what it comes to from a place in it -/
def xT : List Cond := lw_tbl.filter goodWord
theorem xT_in {w : Cond} (i : Nat) (h : lw_tbl[i]? = some w) (hg : goodWord w = true) : w ∈ xT := List.mem_filter.mpr ⟨List.mem_of_getElem? h, hg⟩
theorem xT_good : GoodIn xT xT := fun w hw => ⟨hw, good_of_word (List.mem_filter.mp hw).2⟩
theorem xT_sub : ∀ w ∈ xT, w ∈ lw_tbl := fun _ hw => (List.mem_filter.mp hw).1
def xcl : List vw_C := [(RX0, TX0, 4), (RX1, TX1, 7), (RX2, TX2, 3), (RX3, TX3, 2), (RX4, TX4, 5), (RX5, TX5, 5), (RX6, TX6, 8), (RX7, TX7, 17)]
def xtys (E : xE) : List (ClassId × FieldType) := [(E.2.2.2.2 0, .int), (E.2.2.2.2 1, .long), (E.2.2.2.2 2, .boolean), (E.2.2.2.2 3, .object RX5), (E.2.2.2.2 4, .object RX0), (E.2.2.2.2 5, .object RX2)]
abbrev xA (E : xE) : Nat → Prop := fun q => E.1 ≤ q
def xka : List Int32 := [-1, 0, 0, 0, 1, 2]
def xnm : List Int32 := [116, 104, 105, 110, 103, 0, 0, 116, 111, 119, 101, 114, 0, 0, 98, 114, 105, 100, 101, 0, 0, 109, 111, 111, 110, 0, 0, 0, 115, 116, 101, 101, 112, 108, 101, 102, 97, 99, 101, 0, 0, 0, 97, 116, 0, 0, 0, 0, 0, 104, 105, 103, 104, 0, 0, 0, 108, 105, 103, 104, 116, 0, 0, 102, 101, 101, 0, 0, 0, 0, 98, 111, 97, 116, 0, 0, 0, 110, 101, 116, 0, 0, 0, 0, 119, 105, 110, 100, 0, 0, 0, 99, 97, 108, 109, 0, 0, 0, 102, 111, 103, 0, 0, 0, 0, 99, 108, 101, 97, 114, 0, 0]
def xln : List Nat := [5, 5, 5, 4, 7, 4, 2, 4, 5, 3, 4, 3, 4, 4, 3, 5]
def xby : List (List Int32) := [[116, 104, 105, 110, 103], [116, 111, 119, 101, 114], [98, 114, 105, 100, 101], [109, 111, 111, 110], [115, 116, 101, 101, 112, 108, 101], [102, 97, 99, 101], [97, 116], [104, 105, 103, 104], [108, 105, 103, 104, 116], [102, 101, 101], [98, 111, 97, 116], [110, 101, 116], [119, 105, 110, 100], [99, 97, 108, 109], [102, 111, 103], [99, 108, 101, 97, 114]]
def xix : List Nat := [99, 101, 103, 105, 107, 109, 68, 74, 76, 78, 40, 87, 49, 55, 57, 59]
def xtx : List String := ["thing", "tower", "bride", "moon", "steeple", "face", "at", "high", "light", "fee", "boat", "net", "wind", "calm", "fog", "clear"]
abbrev xni : Nat := 31
/-- what nobody writes: the script, the two static tables, the text constants -/
def xRO (X : xS) (E : xE) (U : State) (H : Heap) : Prop :=
  va_T .int (E.2.1 1000) X.1 (fun j => .int (X.2 j)) (xA E) U H ∧
  va_Z "GlintNets" "KIND_ABOVE" "[I" (.ref (E.2.1 1001)) (xA E) U H ∧ va_T .int (E.2.1 1001) 6 (fun j => .int (xka.getD j 0)) (xA E) U H ∧
  va_Z "GlintNetsModel" "NAMES" "[I" (.ref (E.2.1 1002)) (xA E) U H ∧ va_T .int (E.2.1 1002) 112 (fun j => .int (xnm.getD j 0)) (xA E) U H ∧
  va_Z "java/lang/String" "COMPACT_STRINGS" "Z" (.int 1) (xA E) U H ∧
  va_Z "jdk/internal/util/Preconditions" "SIOOBE_FORMATTER" "Ljava/util/function/BiFunction;" E.2.2.1 (xA E) U H ∧
  vk_S 16 xln xby (fun i => E.2.1 (1100 + i)) (fun i => E.2.1 (1200 + i)) (xA E) U H ∧ (∀ i, i < 16 → vk_R RX4 (xix.getD i 0) (xtx.getD i "") (E.2.1 (1100 + i)) U) ∧ va_AO RX5 U ∧ va_AO RX0 U ∧ va_AO RX2 U ∧ va_Nw (.fieldLinkNest RX5 xni "GlintNets" "KIND_ABOVE" "[I" "GlintNets") U
theorem xRO.moved {X : xS} {E : xE} {u U : State} {H : Heap} (hW : u.WarmedH U.vm) (h : xRO X E u H) : xRO X E U H := by
  obtain ⟨h1, h2, h3, h4, h5, h6, h7, h8, h9, h10, h11, h12, h13⟩ := h
  exact ⟨h1.moved hW.alike, h2.moved hW.alike, h3.moved hW.alike, h4.moved hW.alike, h5.moved hW.alike, h6.moved hW.alike, h7.moved hW.alike, h8.moved hW.alike, fun i hi => (h9 i hi).warm hW, h10.moved hW.alike, h11.moved hW.alike, h12.moved hW.alike, h13.warmF hW⟩
theorem xRO.same {X : xS} {E : xE} {u U : State} {H : Heap} (hv : U.vm = u.vm) (h : xRO X E u H) : xRO X E U H := by
  obtain ⟨h1, h2, h3, h4, h5, h6, h7, h8, h9, h10, h11, h12, h13⟩ := h
  have hA : u.vm.Alike U.vm := hv ▸ Vm.Alike.refl u.vm
  exact ⟨h1.moved hA, h2.moved hA, h3.moved hA, h4.moved hA, h5.moved hA, h6.moved hA, h7.moved hA, h8.moved hA, fun i hi => (h9 i hi).same hv, h10.moved hA, h11.moved hA, h12.moved hA, h13.same rfl hv.symm⟩
theorem xRO.kept {X : xS} {E : xE} {U : State} {H H1 : Heap} (h : xRO X E U H) (hq : ∀ a : Nat, a < H.size → ¬ (xA E) a → H1[a]? = H[a]?) : xRO X E U H1 := by
  obtain ⟨h1, h2, h3, h4, h5, h6, h7, h8, h9⟩ := h
  exact ⟨h1.kept hq, h2.kept hq, h3.kept hq, h4.kept hq, h5.kept hq, h6.kept hq, h7.kept hq, h8.kept hq, h9⟩
def xC (X : xS) (d : Nat) (M : xM) (E : xE) (p : Program) (R : Room) (s : State) (m : MethodId) (args : Array Value) (meth : Method) (c : Code) : Prop :=
  p.tables.exec = Jvm.exec ∧ c.code = M.2.1 ∧ c.maxLocals = M.2.2.1 ∧ s.vm.findClass M.1.cls = some m.cls ∧ (∀ w ∈ xT, w.before args s = true) ∧ meth.name = M.1.name ∧
  va_K E.2.2.2.1 xcl (xtys E) s ∧ xRO X E s s.heap ∧ E.1 ≤ s.heap.size ∧ d ≤ R.frames ∧ 39 * d ≤ R.locals ∧ E.2.2.1.category = 1
def xH (z : Bool) (E : xE) (s : State) (h : List va_E) (H : Heap) (locs : List Loc) : Prop :=
  (z = true → H.size = E.1 + h.length) ∧ h.length < 1000 ∧ va_P E.2.2.2.1 xcl (xws E h) H ∧ va_S (xA E) s.heap H locs
/-- the place where a method returns with v -/
def xRt (M : xM) (pc : Nat) (v : List Value) : Prop :=
  (M.2.2.2 = none ∧ v = [] ∧ decode M.2.1 pc = .ok (.return_, 1)) ∨ (∃ (x : Int32) (ty : FieldType), M.2.2.2 = some ty ∧ v = [.int x] ∧ narrow ty (.int x) = .int x ∧ decode M.2.1 pc = .ok (.ireturn, 1)) ∨ (∃ x : Int64, M.2.2.2 = some .long ∧ v = [.long x] ∧ decode M.2.1 pc = .ok (.lreturn, 1))
/-- from this place the method comes to its return, with Q of its answer and the cells behind it; it makes at most k cells of n slots more -/
def xGo (X : xS) (z : Bool) (d k n : Nat) (M : xM) (pc : Nat) (ls : List (Option Value)) (st : List Value) (h : List va_E) (Q : List Value → List va_E → Prop) : Prop :=
  ∀ (E : xE) (p : Program) (l : Launch) (e : Env) (R : Room) (s : State) (m : MethodId) (args : Array Value) (below : List Frame) (meth : Method) (c : Code) (Qf : State → Prop), xC X d M E p R s m args meth c →
  ∀ (H : Heap) (locs : List Loc) (cells slots : Nat) (lc : Array Slot), xH z E s h H locs → cells + k ≤ R.cells → slots + n ≤ R.slots → xL E lc M.2.2.1 ls →
  (∀ (pc' : Nat) (v : List Value) (h' : List va_E) (H' : Heap) (locs' : List Loc) (lc' : Array Slot), Q v h' → xRt M pc' v → xH z E s h' H' locs' → W p l e R s m args below meth c H' locs' (cells + k) (slots + n) Qf (F0 m pc' lc' (v.map (xv E)))) →
  W p l e R s m args below meth c H locs cells slots Qf (F0 m pc lc (st.map (xv E)))
section XGO
variable {X : xS} {z : Bool} {d k n : Nat} {M : xM} {pc pc' : Nat} {ls : List (Option Value)} {st st' : List Value} {h : List va_E} {Q : List Value → List va_E → Prop}
theorem xg_s (step : ∀ (E : xE) (p : Program) (l : Launch) (e : Env) (R : Room) (s : State) (m : MethodId) (args : Array Value) (below : List Frame) (meth : Method) (c : Code) (Qf : State → Prop) (H : Heap) (locs : List Loc) (cells slots : Nat) (lc : Array Slot), xC X d M E p R s m args meth c → xH z E s h H locs → xL E lc M.2.2.1 ls →
    W p l e R s m args below meth c H locs cells slots Qf (F0 m pc' lc (st'.map (xv E))) → W p l e R s m args below meth c H locs cells slots Qf (F0 m pc lc (st.map (xv E))))
    (g : xGo X z d k n M pc' ls st' h Q) : xGo X z d k n M pc ls st h Q := by
  intro E p l e R s m args below meth c Qf C H locs cells slots lc w h1 h2 hl K
  exact step E p l e R s m args below meth c Qf H locs cells slots lc C w hl (g E p l e R s m args below meth c Qf C H locs cells slots lc w h1 h2 hl K)
/-- a number gets a name -/
theorem xg_nm {x : Int32} (g : ∀ y : Int32, y = x → xGo X z d k n M pc ls (.int y :: st) h Q) : xGo X z d k n M pc ls (.int x :: st) h Q := g x rfl
theorem xg_nmL {x : Int64} (g : ∀ y : Int64, y = x → xGo X z d k n M pc ls (.long y :: st) h Q) : xGo X z d k n M pc ls (.long x :: st) h Q := g x rfl
/-- a number is another way to write it -/
theorem xg_eq {x y : Int32} (e : x = y) (g : xGo X z d k n M pc ls (.int y :: st) h Q) : xGo X z d k n M pc ls (.int x :: st) h Q := e ▸ g
theorem xg_eq2 {v : Value} {x y : Int32} (e : x = y) (g : xGo X z d k n M pc ls (v :: .int y :: st) h Q) : xGo X z d k n M pc ls (v :: .int x :: st) h Q := e ▸ g
theorem xg_eqh {h' : List va_E} (e : h = h') (g : xGo X z d k n M pc ls st h' Q) : xGo X z d k n M pc ls st h Q := e ▸ g
theorem xg_eql {ls' : List (Option Value)} (e : ls = ls') (g : xGo X z d k n M pc ls' st h Q) : xGo X z d k n M pc ls st h Q := e ▸ g
theorem xg_mono {Q' : List Value → List va_E → Prop} (hq : ∀ v h', Q' v h' → Q v h') (g : xGo X z d k n M pc ls st h Q') : xGo X z d k n M pc ls st h Q := by
  intro E p l e R s m args below meth c Qf C H locs cells slots lc w h1 h2 hl K
  exact g E p l e R s m args below meth c Qf C H locs cells slots lc w h1 h2 hl (fun pc' v h' H' locs' lc' q => K pc' v h' H' locs' lc' (hq _ _ q))
theorem xg_iconst {i : Int} {v : Int32} (hd : decode M.2.1 pc = .ok (.iconst i, 1)) (hv : Int32.ofInt i = v) (g : xGo X z d k n M (pc + 1) ls (.int v :: st) h Q) : xGo X z d k n M pc ls (st) h Q :=
  xg_s (fun E p l e R s m args below meth c Qf H locs cells slots lc C w hl ww => lv_iconst C.1 C.2.1 hd hv ww) g
theorem xg_bipush {i : Int} {v : Int32} (hd : decode M.2.1 pc = .ok (.bipush i, 2)) (hv : (Int8.ofInt i).toInt32 = v) (g : xGo X z d k n M (pc + 2) ls (.int v :: st) h Q) : xGo X z d k n M pc ls (st) h Q :=
  xg_s (fun E p l e R s m args below meth c Qf H locs cells slots lc C w hl ww => lv_bipush C.1 C.2.1 hd hv ww) g
theorem xg_sipush {i : Int} {v : Int32} (hd : decode M.2.1 pc = .ok (.sipush i, 3)) (hv : (Int16.ofInt i).toInt32 = v) (g : xGo X z d k n M (pc + 3) ls (.int v :: st) h Q) : xGo X z d k n M pc ls (st) h Q :=
  xg_s (fun E p l e R s m args below meth c Qf H locs cells slots lc C w hl ww => lv_sipush C.1 C.2.1 hd hv ww) g
theorem xg_lconst {i : Fin 2} {v : Int64} (hd : decode M.2.1 pc = .ok (.lconst i, 1)) (hv : Int64.ofNat (i : Nat) = v) (g : xGo X z d k n M (pc + 1) ls (.long v :: st) h Q) : xGo X z d k n M pc ls (st) h Q :=
  xg_s (fun E p l e R s m args below meth c Qf H locs cells slots lc C w hl ww => lv_lconst C.1 C.2.1 hd hv ww) g
theorem xg_ldc {i : Nat} {v : Int32} (hd : decode M.2.1 pc = .ok (.ldc i, 2)) (hc : Cond.constant M.1.cls i v ∈ xT) (g : xGo X z d k n M (pc + 2) ls (.int v :: st) h Q) : xGo X z d k n M pc ls (st) h Q :=
  xg_s (fun E p l e R s m args below meth c Qf H locs cells slots lc C w hl ww => lv_ldc C.1 C.2.1 C.2.2.2.1 (C.2.2.2.2.1 _ hc) hd ww) g
theorem xg_ldc2 {i : Nat} {v : Int64} (hd : decode M.2.1 pc = .ok (.ldc2_w i, 3)) (hc : Cond.constantLong M.1.cls i v ∈ xT) (g : xGo X z d k n M (pc + 3) ls (.long v :: st) h Q) : xGo X z d k n M pc ls (st) h Q :=
  xg_s (fun E p l e R s m args below meth c Qf H locs cells slots lc C w hl ww => lv_ldc2 C.1 C.2.1 C.2.2.2.1 (C.2.2.2.2.1 _ hc) hd ww) g
theorem xg_iload_n {i : Fin 4} {x : Int32} (hd : decode M.2.1 pc = .ok (.iload_n i, 1)) (hv : ls[(i : Nat)]? = some (some (.int x))) (g : xGo X z d k n M (pc + 1) ls (.int x :: st) h Q) : xGo X z d k n M pc ls (st) h Q :=
  xg_s (fun E p l e R s m args below meth c Qf H locs cells slots lc C w hl ww => lv_iload_n C.1 C.2.1 hd rfl (hl.2.2 _ _ hv) ww) g
theorem xg_iload {i : Nat} {x : Int32} (hd : decode M.2.1 pc = .ok (.iload i, 2)) (hv : ls[i]? = some (some (.int x))) (g : xGo X z d k n M (pc + 2) ls (.int x :: st) h Q) : xGo X z d k n M pc ls (st) h Q :=
  xg_s (fun E p l e R s m args below meth c Qf H locs cells slots lc C w hl ww => lv_iload C.1 C.2.1 hd (hl.2.2 _ _ hv) ww) g
theorem xg_lload_n {i : Fin 4} {x : Int64} (hd : decode M.2.1 pc = .ok (.lload_n i, 1)) (hv : ls[(i : Nat)]? = some (some (.long x))) (g : xGo X z d k n M (pc + 1) ls (.long x :: st) h Q) : xGo X z d k n M pc ls (st) h Q :=
  xg_s (fun E p l e R s m args below meth c Qf H locs cells slots lc C w hl ww => lv_lload_n C.1 C.2.1 hd rfl (hl.2.2 _ _ hv) ww) g
theorem xg_lload {i : Nat} {x : Int64} (hd : decode M.2.1 pc = .ok (.lload i, 2)) (hv : ls[i]? = some (some (.long x))) (g : xGo X z d k n M (pc + 2) ls (.long x :: st) h Q) : xGo X z d k n M pc ls (st) h Q :=
  xg_s (fun E p l e R s m args below meth c Qf H locs cells slots lc C w hl ww => lv_lload C.1 C.2.1 hd (hl.2.2 _ _ hv) ww) g
theorem xg_aload_n {i : Fin 4} {x : Nat} (hd : decode M.2.1 pc = .ok (.aload_n i, 1)) (hv : ls[(i : Nat)]? = some (some (.ref x))) (g : xGo X z d k n M (pc + 1) ls (.ref x :: st) h Q) : xGo X z d k n M pc ls (st) h Q :=
  xg_s (fun E p l e R s m args below meth c Qf H locs cells slots lc C w hl ww => lv_aload_n C.1 C.2.1 hd rfl (hl.2.2 _ _ hv) ww) g
theorem xg_aload {i : Nat} {x : Nat} (hd : decode M.2.1 pc = .ok (.aload i, 2)) (hv : ls[i]? = some (some (.ref x))) (g : xGo X z d k n M (pc + 2) ls (.ref x :: st) h Q) : xGo X z d k n M pc ls (st) h Q :=
  xg_s (fun E p l e R s m args below meth c Qf H locs cells slots lc C w hl ww => lv_aload C.1 C.2.1 hd (hl.2.2 _ _ hv) ww) g
theorem xg_iadd {x y : Int32} (hd : decode M.2.1 pc = .ok (.iadd, 1)) (g : xGo X z d k n M (pc + 1) ls (.int (x + y) :: st) h Q) : xGo X z d k n M pc ls (.int y :: .int x :: st) h Q :=
  xg_s (fun E p l e R s m args below meth c Qf H locs cells slots lc C w hl ww => lv_iadd C.1 C.2.1 hd ww) g
theorem xg_isub {x y : Int32} (hd : decode M.2.1 pc = .ok (.isub, 1)) (g : xGo X z d k n M (pc + 1) ls (.int (x - y) :: st) h Q) : xGo X z d k n M pc ls (.int y :: .int x :: st) h Q :=
  xg_s (fun E p l e R s m args below meth c Qf H locs cells slots lc C w hl ww => lv_isub C.1 C.2.1 hd ww) g
theorem xg_imul {x y : Int32} (hd : decode M.2.1 pc = .ok (.imul, 1)) (g : xGo X z d k n M (pc + 1) ls (.int (x * y) :: st) h Q) : xGo X z d k n M pc ls (.int y :: .int x :: st) h Q :=
  xg_s (fun E p l e R s m args below meth c Qf H locs cells slots lc C w hl ww => lv_imul C.1 C.2.1 hd ww) g
theorem xg_iand {x y : Int32} (hd : decode M.2.1 pc = .ok (.iand, 1)) (g : xGo X z d k n M (pc + 1) ls (.int (x &&& y) :: st) h Q) : xGo X z d k n M pc ls (.int y :: .int x :: st) h Q :=
  xg_s (fun E p l e R s m args below meth c Qf H locs cells slots lc C w hl ww => lv_iand C.1 C.2.1 hd ww) g
theorem xg_ior {x y : Int32} (hd : decode M.2.1 pc = .ok (.ior, 1)) (g : xGo X z d k n M (pc + 1) ls (.int (x ||| y) :: st) h Q) : xGo X z d k n M pc ls (.int y :: .int x :: st) h Q :=
  xg_s (fun E p l e R s m args below meth c Qf H locs cells slots lc C w hl ww => lv_ior C.1 C.2.1 hd ww) g
theorem xg_ixor {x y : Int32} (hd : decode M.2.1 pc = .ok (.ixor, 1)) (g : xGo X z d k n M (pc + 1) ls (.int (x ^^^ y) :: st) h Q) : xGo X z d k n M pc ls (.int y :: .int x :: st) h Q :=
  xg_s (fun E p l e R s m args below meth c Qf H locs cells slots lc C w hl ww => lv_ixor C.1 C.2.1 hd ww) g
theorem xg_ishl {x y : Int32} (hd : decode M.2.1 pc = .ok (.ishl, 1)) (g : xGo X z d k n M (pc + 1) ls (.int (x <<< (y &&& 31)) :: st) h Q) : xGo X z d k n M pc ls (.int y :: .int x :: st) h Q :=
  xg_s (fun E p l e R s m args below meth c Qf H locs cells slots lc C w hl ww => lv_ishl C.1 C.2.1 hd ww) g
theorem xg_ishr {x y : Int32} (hd : decode M.2.1 pc = .ok (.ishr, 1)) (g : xGo X z d k n M (pc + 1) ls (.int (x >>> (y &&& 31)) :: st) h Q) : xGo X z d k n M pc ls (.int y :: .int x :: st) h Q :=
  xg_s (fun E p l e R s m args below meth c Qf H locs cells slots lc C w hl ww => lv_ishr C.1 C.2.1 hd ww) g
theorem xg_idiv {x y : Int32} (hd : decode M.2.1 pc = .ok (.idiv, 1)) (hne : ¬ y = 0) (g : xGo X z d k n M (pc + 1) ls (.int (x / y) :: st) h Q) : xGo X z d k n M pc ls (.int y :: .int x :: st) h Q :=
  xg_s (fun E p l e R s m args below meth c Qf H locs cells slots lc C w hl ww => lv_idiv C.1 C.2.1 hd hne ww) g
theorem xg_irem {x y : Int32} (hd : decode M.2.1 pc = .ok (.irem, 1)) (hne : ¬ y = 0) (g : xGo X z d k n M (pc + 1) ls (.int (x - x / y * y) :: st) h Q) : xGo X z d k n M pc ls (.int y :: .int x :: st) h Q :=
  xg_s (fun E p l e R s m args below meth c Qf H locs cells slots lc C w hl ww => lv_irem C.1 C.2.1 hd hne ww) g
theorem xg_ineg {x : Int32} (hd : decode M.2.1 pc = .ok (.ineg, 1)) (g : xGo X z d k n M (pc + 1) ls (.int (-x) :: st) h Q) : xGo X z d k n M pc ls (.int x :: st) h Q :=
  xg_s (fun E p l e R s m args below meth c Qf H locs cells slots lc C w hl ww => lv_ineg C.1 C.2.1 hd ww) g
theorem xg_land {x y : Int64} (hd : decode M.2.1 pc = .ok (.land, 1)) (g : xGo X z d k n M (pc + 1) ls (.long (x &&& y) :: st) h Q) : xGo X z d k n M pc ls (.long y :: .long x :: st) h Q :=
  xg_s (fun E p l e R s m args below meth c Qf H locs cells slots lc C w hl ww => lv_land C.1 C.2.1 hd ww) g
theorem xg_lor {x y : Int64} (hd : decode M.2.1 pc = .ok (.lor, 1)) (g : xGo X z d k n M (pc + 1) ls (.long (x ||| y) :: st) h Q) : xGo X z d k n M pc ls (.long y :: .long x :: st) h Q :=
  xg_s (fun E p l e R s m args below meth c Qf H locs cells slots lc C w hl ww => lv_lor C.1 C.2.1 hd ww) g
theorem xg_lshl {x : Int64} {y : Int32} (hd : decode M.2.1 pc = .ok (.lshl, 1)) (g : xGo X z d k n M (pc + 1) ls (.long (x <<< (y.toInt64 &&& 63)) :: st) h Q) : xGo X z d k n M pc ls (.int y :: .long x :: st) h Q :=
  xg_s (fun E p l e R s m args below meth c Qf H locs cells slots lc C w hl ww => lv_lshl C.1 C.2.1 hd rfl ww) g
theorem xg_iushr {x y : Int32} (hd : decode M.2.1 pc = .ok (.iushr, 1)) (g : xGo X z d k n M (pc + 1) ls (.int ((x.toUInt32 >>> (y.toUInt32 &&& Int32.toUInt32 31)).toInt32) :: st) h Q) : xGo X z d k n M pc ls (.int y :: .int x :: st) h Q :=
  xg_s (fun E p l e R s m args below meth c Qf H locs cells slots lc C w hl ww => lv_iushr C.1 C.2.1 hd rfl ww) g
theorem xg_i2l {x : Int32} (hd : decode M.2.1 pc = .ok (.i2l, 1)) (g : xGo X z d k n M (pc + 1) ls (.long x.toInt64 :: st) h Q) : xGo X z d k n M pc ls (.int x :: st) h Q :=
  xg_s (fun E p l e R s m args below meth c Qf H locs cells slots lc C w hl ww => lv_i2l C.1 C.2.1 hd rfl ww) g
theorem xg_l2i {x : Int64} (hd : decode M.2.1 pc = .ok (.l2i, 1)) (g : xGo X z d k n M (pc + 1) ls (.int x.toInt32 :: st) h Q) : xGo X z d k n M pc ls (.long x :: st) h Q :=
  xg_s (fun E p l e R s m args below meth c Qf H locs cells slots lc C w hl ww => lv_l2i C.1 C.2.1 hd rfl ww) g
theorem xg_i2b {x : Int32} (hd : decode M.2.1 pc = .ok (.i2b, 1)) (g : xGo X z d k n M (pc + 1) ls (.int x.toInt8.toInt32 :: st) h Q) : xGo X z d k n M pc ls (.int x :: st) h Q :=
  xg_s (fun E p l e R s m args below meth c Qf H locs cells slots lc C w hl ww => lv_i2b C.1 C.2.1 hd rfl ww) g
theorem xg_i2s {x : Int32} (hd : decode M.2.1 pc = .ok (.i2s, 1)) (g : xGo X z d k n M (pc + 1) ls (.int x.toInt16.toInt32 :: st) h Q) : xGo X z d k n M pc ls (.int x :: st) h Q :=
  xg_s (fun E p l e R s m args below meth c Qf H locs cells slots lc C w hl ww => lv_i2s C.1 C.2.1 hd rfl ww) g
theorem xg_i2c {x : Int32} (hd : decode M.2.1 pc = .ok (.i2c, 1)) (g : xGo X z d k n M (pc + 1) ls (.int (x.toUInt32 % 65536).toInt32 :: st) h Q) : xGo X z d k n M pc ls (.int x :: st) h Q :=
  xg_s (fun E p l e R s m args below meth c Qf H locs cells slots lc C w hl ww => lv_i2c C.1 C.2.1 hd rfl ww) g
theorem xg_lcmp {x y : Int64} (hd : decode M.2.1 pc = .ok (.lcmp, 1)) (g : xGo X z d k n M (pc + 1) ls (.int (lg_cmp x y) :: st) h Q) : xGo X z d k n M pc ls (.long y :: .long x :: st) h Q :=
  xg_s (fun E p l e R s m args below meth c Qf H locs cells slots lc C w hl ww => W.lcmp C.1 C.2.1 hd ww) g
theorem xg_dup {v : Value} (hd : decode M.2.1 pc = .ok (.dup, 1)) (hc : v.category = 1) (g : xGo X z d k n M (pc + 1) ls (v :: v :: st) h Q) : xGo X z d k n M pc ls (v :: st) h Q :=
  xg_s (fun E p l e R s m args below meth c Qf H locs cells slots lc C w hl ww => lv_dup C.1 C.2.1 hd ((xv_cat C.2.2.2.2.2.2.2.2.2.2.2 v).trans hc) ww) g
theorem xg_pop {v : Value} (hd : decode M.2.1 pc = .ok (.pop, 1)) (hc : v.category = 1) (g : xGo X z d k n M (pc + 1) ls (st) h Q) : xGo X z d k n M pc ls (v :: st) h Q :=
  xg_s (fun E p l e R s m args below meth c Qf H locs cells slots lc C w hl ww => lv_pop C.1 C.2.1 hd ((xv_cat C.2.2.2.2.2.2.2.2.2.2.2 v).trans hc) ww) g
theorem xg_dup2 {v u : Value} (hd : decode M.2.1 pc = .ok (.dup2, 1)) (hc : v.category = 1) (hu : u.category = 1) (g : xGo X z d k n M (pc + 1) ls (v :: u :: v :: u :: st) h Q) : xGo X z d k n M pc ls (v :: u :: st) h Q :=
  xg_s (fun E p l e R s m args below meth c Qf H locs cells slots lc C w hl ww => lv_dup2_11 C.1 C.2.1 hd ((xv_cat C.2.2.2.2.2.2.2.2.2.2.2 v).trans hc) ((xv_cat C.2.2.2.2.2.2.2.2.2.2.2 u).trans hu) ww) g
theorem xg_goto {off : Int} {tgt : Nat} (hd : decode M.2.1 pc = .ok (.goto off, 3)) (ht : (pc : Int) + off = (tgt : Int)) (g : xGo X z d k n M tgt ls st h Q) : xGo X z d k n M pc ls st h Q :=
  xg_s (fun E p l e R s m args below meth c Qf H locs cells slots lc C w hl ww => lv_goto C.1 C.2.1 hd ht ww) g
theorem xg_if_eq {x : Int32} {off : Int} {tgt : Nat} (hd : decode M.2.1 pc = .ok (.ifCond .eq off, 3)) (ht : (pc : Int) + off = (tgt : Int)) (gt : x = 0 → xGo X z d k n M tgt ls st h Q) (gf : ¬ x = 0 → xGo X z d k n M (pc + 3) ls st h Q) : xGo X z d k n M pc ls (.int x :: st) h Q := by
  intro E p l e R s m args below meth c Qf C H locs cells slots lc w h1 h2 hl K
  exact lv_if_eq C.1 C.2.1 hd ht (fun q => gt q E p l e R s m args below meth c Qf C H locs cells slots lc w h1 h2 hl K) (fun q => gf q E p l e R s m args below meth c Qf C H locs cells slots lc w h1 h2 hl K)
theorem xg_icmp_eq {x y : Int32} {off : Int} {tgt : Nat} (hd : decode M.2.1 pc = .ok (.if_icmp .eq off, 3)) (ht : (pc : Int) + off = (tgt : Int)) (gt : x = y → xGo X z d k n M tgt ls st h Q) (gf : ¬ x = y → xGo X z d k n M (pc + 3) ls st h Q) : xGo X z d k n M pc ls (.int y :: .int x :: st) h Q := by
  intro E p l e R s m args below meth c Qf C H locs cells slots lc w h1 h2 hl K
  exact lv_icmp_eq C.1 C.2.1 hd ht (fun q => gt q E p l e R s m args below meth c Qf C H locs cells slots lc w h1 h2 hl K) (fun q => gf q E p l e R s m args below meth c Qf C H locs cells slots lc w h1 h2 hl K)
theorem xg_if_ne {x : Int32} {off : Int} {tgt : Nat} (hd : decode M.2.1 pc = .ok (.ifCond .ne off, 3)) (ht : (pc : Int) + off = (tgt : Int)) (gt : ¬ x = 0 → xGo X z d k n M tgt ls st h Q) (gf : x = 0 → xGo X z d k n M (pc + 3) ls st h Q) : xGo X z d k n M pc ls (.int x :: st) h Q := by
  intro E p l e R s m args below meth c Qf C H locs cells slots lc w h1 h2 hl K
  exact lv_if_ne C.1 C.2.1 hd ht (fun q => gt q E p l e R s m args below meth c Qf C H locs cells slots lc w h1 h2 hl K) (fun q => gf q E p l e R s m args below meth c Qf C H locs cells slots lc w h1 h2 hl K)
theorem xg_icmp_ne {x y : Int32} {off : Int} {tgt : Nat} (hd : decode M.2.1 pc = .ok (.if_icmp .ne off, 3)) (ht : (pc : Int) + off = (tgt : Int)) (gt : ¬ x = y → xGo X z d k n M tgt ls st h Q) (gf : x = y → xGo X z d k n M (pc + 3) ls st h Q) : xGo X z d k n M pc ls (.int y :: .int x :: st) h Q := by
  intro E p l e R s m args below meth c Qf C H locs cells slots lc w h1 h2 hl K
  exact lv_icmp_ne C.1 C.2.1 hd ht (fun q => gt q E p l e R s m args below meth c Qf C H locs cells slots lc w h1 h2 hl K) (fun q => gf q E p l e R s m args below meth c Qf C H locs cells slots lc w h1 h2 hl K)
theorem xg_if_lt {x : Int32} {off : Int} {tgt : Nat} (hd : decode M.2.1 pc = .ok (.ifCond .lt off, 3)) (ht : (pc : Int) + off = (tgt : Int)) (gt : x < 0 → xGo X z d k n M tgt ls st h Q) (gf : ¬ x < 0 → xGo X z d k n M (pc + 3) ls st h Q) : xGo X z d k n M pc ls (.int x :: st) h Q := by
  intro E p l e R s m args below meth c Qf C H locs cells slots lc w h1 h2 hl K
  exact lv_if_lt C.1 C.2.1 hd ht (fun q => gt q E p l e R s m args below meth c Qf C H locs cells slots lc w h1 h2 hl K) (fun q => gf q E p l e R s m args below meth c Qf C H locs cells slots lc w h1 h2 hl K)
theorem xg_icmp_lt {x y : Int32} {off : Int} {tgt : Nat} (hd : decode M.2.1 pc = .ok (.if_icmp .lt off, 3)) (ht : (pc : Int) + off = (tgt : Int)) (gt : x < y → xGo X z d k n M tgt ls st h Q) (gf : ¬ x < y → xGo X z d k n M (pc + 3) ls st h Q) : xGo X z d k n M pc ls (.int y :: .int x :: st) h Q := by
  intro E p l e R s m args below meth c Qf C H locs cells slots lc w h1 h2 hl K
  exact lv_icmp_lt C.1 C.2.1 hd ht (fun q => gt q E p l e R s m args below meth c Qf C H locs cells slots lc w h1 h2 hl K) (fun q => gf q E p l e R s m args below meth c Qf C H locs cells slots lc w h1 h2 hl K)
theorem xg_if_ge {x : Int32} {off : Int} {tgt : Nat} (hd : decode M.2.1 pc = .ok (.ifCond .ge off, 3)) (ht : (pc : Int) + off = (tgt : Int)) (gt : 0 ≤ x → xGo X z d k n M tgt ls st h Q) (gf : ¬ 0 ≤ x → xGo X z d k n M (pc + 3) ls st h Q) : xGo X z d k n M pc ls (.int x :: st) h Q := by
  intro E p l e R s m args below meth c Qf C H locs cells slots lc w h1 h2 hl K
  exact lv_if_ge C.1 C.2.1 hd ht (fun q => gt q E p l e R s m args below meth c Qf C H locs cells slots lc w h1 h2 hl K) (fun q => gf q E p l e R s m args below meth c Qf C H locs cells slots lc w h1 h2 hl K)
theorem xg_icmp_ge {x y : Int32} {off : Int} {tgt : Nat} (hd : decode M.2.1 pc = .ok (.if_icmp .ge off, 3)) (ht : (pc : Int) + off = (tgt : Int)) (gt : y ≤ x → xGo X z d k n M tgt ls st h Q) (gf : ¬ y ≤ x → xGo X z d k n M (pc + 3) ls st h Q) : xGo X z d k n M pc ls (.int y :: .int x :: st) h Q := by
  intro E p l e R s m args below meth c Qf C H locs cells slots lc w h1 h2 hl K
  exact lv_icmp_ge C.1 C.2.1 hd ht (fun q => gt q E p l e R s m args below meth c Qf C H locs cells slots lc w h1 h2 hl K) (fun q => gf q E p l e R s m args below meth c Qf C H locs cells slots lc w h1 h2 hl K)
theorem xg_if_gt {x : Int32} {off : Int} {tgt : Nat} (hd : decode M.2.1 pc = .ok (.ifCond .gt off, 3)) (ht : (pc : Int) + off = (tgt : Int)) (gt : 0 < x → xGo X z d k n M tgt ls st h Q) (gf : ¬ 0 < x → xGo X z d k n M (pc + 3) ls st h Q) : xGo X z d k n M pc ls (.int x :: st) h Q := by
  intro E p l e R s m args below meth c Qf C H locs cells slots lc w h1 h2 hl K
  exact lv_if_gt C.1 C.2.1 hd ht (fun q => gt q E p l e R s m args below meth c Qf C H locs cells slots lc w h1 h2 hl K) (fun q => gf q E p l e R s m args below meth c Qf C H locs cells slots lc w h1 h2 hl K)
theorem xg_icmp_gt {x y : Int32} {off : Int} {tgt : Nat} (hd : decode M.2.1 pc = .ok (.if_icmp .gt off, 3)) (ht : (pc : Int) + off = (tgt : Int)) (gt : y < x → xGo X z d k n M tgt ls st h Q) (gf : ¬ y < x → xGo X z d k n M (pc + 3) ls st h Q) : xGo X z d k n M pc ls (.int y :: .int x :: st) h Q := by
  intro E p l e R s m args below meth c Qf C H locs cells slots lc w h1 h2 hl K
  exact lv_icmp_gt C.1 C.2.1 hd ht (fun q => gt q E p l e R s m args below meth c Qf C H locs cells slots lc w h1 h2 hl K) (fun q => gf q E p l e R s m args below meth c Qf C H locs cells slots lc w h1 h2 hl K)
theorem xg_if_le {x : Int32} {off : Int} {tgt : Nat} (hd : decode M.2.1 pc = .ok (.ifCond .le off, 3)) (ht : (pc : Int) + off = (tgt : Int)) (gt : x ≤ 0 → xGo X z d k n M tgt ls st h Q) (gf : ¬ x ≤ 0 → xGo X z d k n M (pc + 3) ls st h Q) : xGo X z d k n M pc ls (.int x :: st) h Q := by
  intro E p l e R s m args below meth c Qf C H locs cells slots lc w h1 h2 hl K
  exact lv_if_le C.1 C.2.1 hd ht (fun q => gt q E p l e R s m args below meth c Qf C H locs cells slots lc w h1 h2 hl K) (fun q => gf q E p l e R s m args below meth c Qf C H locs cells slots lc w h1 h2 hl K)
theorem xg_icmp_le {x y : Int32} {off : Int} {tgt : Nat} (hd : decode M.2.1 pc = .ok (.if_icmp .le off, 3)) (ht : (pc : Int) + off = (tgt : Int)) (gt : x ≤ y → xGo X z d k n M tgt ls st h Q) (gf : ¬ x ≤ y → xGo X z d k n M (pc + 3) ls st h Q) : xGo X z d k n M pc ls (.int y :: .int x :: st) h Q := by
  intro E p l e R s m args below meth c Qf C H locs cells slots lc w h1 h2 hl K
  exact lv_icmp_le C.1 C.2.1 hd ht (fun q => gt q E p l e R s m args below meth c Qf C H locs cells slots lc w h1 h2 hl K) (fun q => gf q E p l e R s m args below meth c Qf C H locs cells slots lc w h1 h2 hl K)
end XGO
