/-! what stands behind the constructors -/
def f00 : Nat → Int32 := fun k => if k < 5 then 0 else if k < 45 then (if (k - 5) % 5 = 2 then 3 else if (k - 5) % 5 = 3 then 40 else if (k - 5) % 5 = 4 then 1 else 0) else (if (k - 45) % 4 = 1 then 10 else 0)
def o00 : xO := (0, fun _ => 0, 0, fun _ => 0, 0, 0, 0, 0, fun _ => 0, fun _ => 0, fun _ _ => 0)
def q00 : xQ := (fun _ => 0, 0, fun _ => 0, fun _ => 0, fun _ => 0, fun _ => 0, 0, 0, 0, 0, 0, 0, fun _ => 0, fun _ => 0, fun _ => 0)
theorem okP_f00 : okP f00 := by
  have e3 : nT f00 = 0 := by decide
  have e4 : nB f00 = 0 := by decide
  refine ⟨⟨⟨by rw [e3]; rfl, by rw [e3]; decide, by rw [e4]; rfl, by rw [e4]; decide⟩, fun j hj => ?_⟩, fun t ht => ?_, fun j hj => ?_⟩
  · rw [e4] at hj; omega
  · rw [e3] at ht; omega
  · rw [e4] at hj; omega
theorem lv_f00 : lvE f00 (fun _ => 0) := by
  have e3 : nT f00 = 0 := by decide
  have e4 : nB f00 = 0 := by decide
  intro k hk
  rw [e3, e4] at hk
  show (0 : Int32) = f00 k
  unfold f00
  rw [if_pos (by omega)]
theorem IV_0 : IV o00 f00 f00 q00 (fun _ => 0) :=
  ⟨okP_f00, lv_f00, okP_f00, lv_f00, rfl, fun _ _ => rfl, rfl, ⟨0, by decide, rfl, rfl⟩, fun _ _ => ⟨rfl, (show ix (0 : Int32) ≤ 40 by decide)⟩, fun _ _ => ⟨rfl, rfl⟩, fun _ _ _ _ => rfl⟩
def c62 : List va_E := [.inr (6, [.ref (0 + 1), .ref (0 + 17), .ref (0 + 33), .int 0, .ref (0 + 49), .ref (0 + 51), .ref (0 + 52), .ref (0 + 61)]), .inr (1, [.int 0, .int 0, .int 0, .int 0, .int 0, .ref (0 + 2), .ref (0 + 11)]), .inl (3, 8, .inr (.inr (.inr (.inr (trg (0 + 1)))))), .inr (5, [.int 0, .int 0, .int 3, .int 40, .int 1]), .inr (5, [.int 0, .int 0, .int 3, .int 40, .int 1]), .inr (5, [.int 0, .int 0, .int 3, .int 40, .int 1]), .inr (5, [.int 0, .int 0, .int 3, .int 40, .int 1]), .inr (5, [.int 0, .int 0, .int 3, .int 40, .int 1]), .inr (5, [.int 0, .int 0, .int 3, .int 40, .int 1]), .inr (5, [.int 0, .int 0, .int 3, .int 40, .int 1]), .inr (5, [.int 0, .int 0, .int 3, .int 40, .int 1]), .inl (4, 5, .inr (.inr (.inr (.inr (brg (0 + 1)))))), .inr (0, [.int 0, .int 10, .int 0, .int 0]), .inr (0, [.int 0, .int 10, .int 0, .int 0]), .inr (0, [.int 0, .int 10, .int 0, .int 0]), .inr (0, [.int 0, .int 10, .int 0, .int 0]), .inr (0, [.int 0, .int 10, .int 0, .int 0]), .inr (1, [.int 0, .int 0, .int 0, .int 0, .int 0, .ref (0 + 18), .ref (0 + 27)]), .inl (3, 8, .inr (.inr (.inr (.inr (trg (0 + 17)))))), .inr (5, [.int 0, .int 0, .int 3, .int 40, .int 1]), .inr (5, [.int 0, .int 0, .int 3, .int 40, .int 1]), .inr (5, [.int 0, .int 0, .int 3, .int 40, .int 1]), .inr (5, [.int 0, .int 0, .int 3, .int 40, .int 1]), .inr (5, [.int 0, .int 0, .int 3, .int 40, .int 1]), .inr (5, [.int 0, .int 0, .int 3, .int 40, .int 1]), .inr (5, [.int 0, .int 0, .int 3, .int 40, .int 1]), .inr (5, [.int 0, .int 0, .int 3, .int 40, .int 1]), .inl (4, 5, .inr (.inr (.inr (.inr (brg (0 + 17)))))), .inr (0, [.int 0, .int 10, .int 0, .int 0]), .inr (0, [.int 0, .int 10, .int 0, .int 0]), .inr (0, [.int 0, .int 10, .int 0, .int 0]), .inr (0, [.int 0, .int 10, .int 0, .int 0]), .inr (0, [.int 0, .int 10, .int 0, .int 0]), .inr (1, [.int 0, .int 0, .int 0, .int 0, .int 0, .ref (0 + 34), .ref (0 + 43)]), .inl (3, 8, .inr (.inr (.inr (.inr (trg (0 + 33)))))), .inr (5, [.int 0, .int 0, .int 3, .int 40, .int 1]), .inr (5, [.int 0, .int 0, .int 3, .int 40, .int 1]), .inr (5, [.int 0, .int 0, .int 3, .int 40, .int 1]), .inr (5, [.int 0, .int 0, .int 3, .int 40, .int 1]), .inr (5, [.int 0, .int 0, .int 3, .int 40, .int 1]), .inr (5, [.int 0, .int 0, .int 3, .int 40, .int 1]), .inr (5, [.int 0, .int 0, .int 3, .int 40, .int 1]), .inr (5, [.int 0, .int 0, .int 3, .int 40, .int 1]), .inl (4, 5, .inr (.inr (.inr (.inr (brg (0 + 33)))))), .inr (0, [.int 0, .int 10, .int 0, .int 0]), .inr (0, [.int 0, .int 10, .int 0, .int 0]), .inr (0, [.int 0, .int 10, .int 0, .int 0]), .inr (0, [.int 0, .int 10, .int 0, .int 0]), .inr (0, [.int 0, .int 10, .int 0, .int 0]), .inr (3, [.int 0, .ref (0 + 50)]), .inl (0, 120, .inl (fun _ => 0)), .inr (4, [.ref (0 + 49), .int 0, .int 0, .int 0, .int 0]), .inl (5, 4, .inr (.inr (.inr (.inr (srg 0))))), .inr (2, [.int 0, .int 0, .ref (0 + 54)]), .inl (1, 40, .inr (.inl (fun _ => 0))), .inr (2, [.int 0, .int 0, .ref (0 + 56)]), .inl (1, 40, .inr (.inl (fun _ => 0))), .inr (2, [.int 0, .int 0, .ref (0 + 58)]), .inl (1, 40, .inr (.inl (fun _ => 0))), .inr (2, [.int 0, .int 0, .ref (0 + 60)]), .inl (1, 40, .inr (.inl (fun _ => 0))), .inl (0, 7, .inl (fun _ => 0))]
def c11 : List va_E := [.inr (7, [.ref (62 + 1), .ref (62 + 2), .ref (62 + 3), .int 0, .ref (62 + 4), .ref (62 + 5), .ref (62 + 6), .ref (62 + 7), .int 0, .int 0, .int 0, .int 0, .int 0, .int 0, .ref (62 + 8), .ref (62 + 9), .ref (62 + 10)]), .inl (0, 65, .inl (fun _ => 0)), .inl (0, 65, .inl (fun _ => 0)), .inl (0, 65, .inl (fun _ => 0)), .inl (0, 7, .inl (fun _ => 0)), .inl (2, 48, .inl (fun _ => 0)), .inl (0, 48, .inl (fun _ => 0)), .inl (0, 120, .inl (fun _ => 0)), .inl (0, 4, .inl (fun _ => 0)), .inl (0, 4, .inl (fun _ => 0)), .inl (1, 160, .inr (.inl (fun _ => 0)))]
theorem c73 : c62 ++ c11 = hp (tri f00 f00 f00) o00 (fun _ => 0) (fun _ => 0) q00 := rfl
set_option maxRecDepth 100000 in
set_option maxHeartbeats 4000000 in
theorem law_all {X : xS} {nm : String} (hXL : X.1 ≤ 3072) : xGL X (12 + 1) 73 1161 (mLw nm) 0 [some (.ref 1000), none, none, none] [] [] (fun v _ => v = [.int 1]) := by
  refine xl_new (k := 72) (n := 1153) (ci := 6) (fs := [.null, .null, .null, .int 0, .null, .null, .null, .null]) (pc := 0) dL_law_0 xk6 klL_7 inX6 iiX6 df6 (by decide) ?_
  show xGL X (12 + 1) 72 1153 (mLw nm) 3 [some (.ref 1000), none, none, none] [.ref 0] [.inr (6, [.null, .null, .null, .int 0, .null, .null, .null, .null])] _
  refine xl_dup (pc := 3) dL_law_3 rfl ?_
  refine xl_calli (k1 := 61) (n1 := 550) (k2 := 11) (n2 := 603) (as := []) (rest := [.ref 0]) (pc := 4) (M' := mX6_init) dL_law_4 lkL_9 mcX6_init rfl (show xEv X true 12 61 550 mX6_init [.ref 0] [.inr (6, [.null, .null, .null, .int 0, .null, .null, .null, .null])] (fun v h' => v = [] ∧ h' = c62) from ec_X6_init (d := 9) (h := []) (n0 := 0) rfl (by decide)) rfl rfl (Nat.le_of_ble_eq_true rfl) rfl rfl (fun v h' hq => ?_)
  obtain ⟨rfl, rfl⟩ := hq
  refine xl_astore_n (ls' := [some (.ref 1000), some (.ref 0), none, none]) (pc := 7) dL_law_7 (show 1 < 4 by decide) rfl ?_
  refine xl_new (k := 10) (n := 586) (ci := 7) (fs := [.null, .null, .null, .int 0, .null, .null, .null, .null, .int 0, .int 0, .int 0, .int 0, .int 0, .int 0, .null, .null, .null]) (pc := 8) dL_law_8 xk7 klL_10 inX7 iiX7 df7 (by decide) ?_
  show xGL X (12 + 1) 10 586 (mLw nm) 11 [some (.ref 1000), some (.ref 0), none, none] [.ref 62] (c62 ++ [.inr (7, [.null, .null, .null, .int 0, .null, .null, .null, .null, .int 0, .int 0, .int 0, .int 0, .int 0, .int 0, .null, .null, .null])]) _
  refine xl_dup (pc := 11) dL_law_11 rfl ?_
  refine xl_calli (k1 := 10) (n1 := 586) (k2 := 0) (n2 := 0) (as := []) (rest := [.ref 62]) (pc := 12) (M' := mX7_init) dL_law_12 lkL_12 mcX7_init (hE_get (h := c62) (n0 := 62) (j := 0) rfl rfl) (show xEv X true 12 10 586 mX7_init [.ref 62] (c62 ++ [.inr (7, [.null, .null, .null, .int 0, .null, .null, .null, .null, .int 0, .int 0, .int 0, .int 0, .int 0, .int 0, .null, .null, .null])]) (fun v h' => v = [] ∧ h' = c62 ++ c11) from ec_X7_init (d := 11) (h := c62) (n0 := 62) rfl (by decide)) rfl rfl (Nat.le_of_ble_eq_true rfl) rfl rfl (fun v h' hq => ?_)
  obtain ⟨rfl, rfl⟩ := hq
  refine xl_astore_n (ls' := [some (.ref 1000), some (.ref 0), some (.ref 62), none]) (pc := 15) dL_law_15 (show 2 < 4 by decide) rfl ?_
  refine xGL.of ?_
  refine xg_iconst (v := 0) (pc := 16) dL_law_16 (by decide) ?_
  refine xg_istore_n (pc := 17) (ls' := [some (.ref 1000), some (.ref 0), some (.ref 62), some (.int (nI 0))]) dL_law_17 (show 3 < 4 by decide) rfl ?_
  rw [c73]
  exact lp_law hXL 512 0 _ _ _ _ _ _ _ (by omega) (by omega) IV_0
