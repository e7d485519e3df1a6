section
variable {X : xS} {d : Nat} {lk : Nat → Nat → Int32} {o : xO} {mf wf : Nat → Int32} {q : xQ}
set_option maxRecDepth 100000 in
theorem ev_X7_isNew {c : Nat} (hc : c < 48) (hb : B01 q.2.2.2.1) : xDv X false (d + 1) mX7_isNew [.ref 62, .int (nI c)] (hp lk o mf wf q) [.int (if isN mf q.2.2.2.1 c then 1 else 0)] (hp lk o mf wf (q.1, q.2.1, q.2.2.1, if isN mf q.2.2.2.1 c then upd q.2.2.2.1 c 1 else q.2.2.2.1, q.2.2.2.2.1, q.2.2.2.2.2.1, q.2.2.2.2.2.2.1, q.2.2.2.2.2.2.2.1, q.2.2.2.2.2.2.2.2.1, q.2.2.2.2.2.2.2.2.2.1, q.2.2.2.2.2.2.2.2.2.2.1, q.2.2.2.2.2.2.2.2.2.2.2.1, q.2.2.2.2.2.2.2.2.2.2.2.2.1, q.2.2.2.2.2.2.2.2.2.2.2.2.2.1, q.2.2.2.2.2.2.2.2.2.2.2.2.2.2)) := by
  refine xDv.of (ls := [some (.ref 62), some (.int (nI c)), none]) mcX7_isNew.1.2.2.2.2 (Nat.le_of_ble_eq_true rfl) rfl ?_
  refine xg_aload_n (pc := 0) dX7_isNew_0 rfl ?_
  refine xg_iload_n (pc := 1) dX7_isNew_1 rfl ?_
  refine xg_cvI (pc := 2) (h1 := hp lk o mf wf q) (x := if rip mf (nI c) then 1 else 0) (M' := mX7_isRippled) dX7_isNew_2 lkX7_70 mcX7_isRippled hp_62 rfl (ev_X7_isRippled) rfl rfl (Nat.le_of_ble_eq_true rfl) ?_
  refine xg_bnz (pc := 5) (tgt := 21) dX7_isNew_5 (by decide) (fun c_5 => ?_) (fun c_5 => ?_)
  ·
    refine xg_iconst (v := 0) (pc := 21) dX7_isNew_21 (by decide) ?_
    refine xg_istore_n (pc := 22) (ls' := [some (.ref 62), some (.int (nI c)), some (.int 0)]) dX7_isNew_22 (by decide) rfl ?_
    refine xg_aload_n (pc := 23) dX7_isNew_23 rfl ?_
    refine xg_get (pc := 24) dX7_isNew_24 flX7_22 hp_62 rfl ?_
    refine xg_iload_n (pc := 27) dX7_isNew_27 rfl ?_
    refine xg_dup2 (pc := 28) dX7_isNew_28 rfl rfl ?_
    refine xg_zald (pc := 29) c dX7_isNew_29 hp_67 rfl (by omega) (by decide) ?_
    refine xg_iload_n (pc := 30) dX7_isNew_30 rfl ?_
    refine xg_ior (pc := 31) dX7_isNew_31 ?_
    refine xg_zast (pc := 32) (h' := hp lk o mf wf (q.1, q.2.1, q.2.2.1, upd q.2.2.2.1 c ((q.2.2.2.1 c) ||| 0), q.2.2.2.2.1, q.2.2.2.2.2.1, q.2.2.2.2.2.2.1, q.2.2.2.2.2.2.2.1, q.2.2.2.2.2.2.2.2.1, q.2.2.2.2.2.2.2.2.2.1, q.2.2.2.2.2.2.2.2.2.2.1, q.2.2.2.2.2.2.2.2.2.2.2.1, q.2.2.2.2.2.2.2.2.2.2.2.2.1, q.2.2.2.2.2.2.2.2.2.2.2.2.2.1, q.2.2.2.2.2.2.2.2.2.2.2.2.2.2)) c dX7_isNew_32 hp_67 rfl (by omega) (by decide) (by rw [Int32.or_zero]; rcases hb c hc with z | z <;> rw [z] <;> rfl) hs_co ?_
    refine xg_iload_n (pc := 33) dX7_isNew_33 rfl ?_
    exact xg_zret (pc := 34) (ty := .boolean) dX7_isNew_34 rfl rfl (⟨by rw [if_neg (fun z => z.1 c_5)], by rw [if_neg (fun z => z.1 c_5), Int32.or_zero, upd_id]⟩)
  ·
    refine xg_aload_n (pc := 8) dX7_isNew_8 rfl ?_
    refine xg_get (pc := 9) dX7_isNew_9 flX7_22 hp_62 rfl ?_
    refine xg_iload_n (pc := 12) dX7_isNew_12 rfl ?_
    refine xg_zald (pc := 13) c dX7_isNew_13 hp_67 rfl (by omega) (by decide) ?_
    refine xg_if_ne (pc := 14) (tgt := 21) dX7_isNew_14 (by decide) (fun c_14 => ?_) (fun c_14 => ?_)
    ·
      refine xg_iconst (v := 0) (pc := 21) dX7_isNew_21 (by decide) ?_
      refine xg_istore_n (pc := 22) (ls' := [some (.ref 62), some (.int (nI c)), some (.int 0)]) dX7_isNew_22 (by decide) rfl ?_
      refine xg_aload_n (pc := 23) dX7_isNew_23 rfl ?_
      refine xg_get (pc := 24) dX7_isNew_24 flX7_22 hp_62 rfl ?_
      refine xg_iload_n (pc := 27) dX7_isNew_27 rfl ?_
      refine xg_dup2 (pc := 28) dX7_isNew_28 rfl rfl ?_
      refine xg_zald (pc := 29) c dX7_isNew_29 hp_67 rfl (by omega) (by decide) ?_
      refine xg_iload_n (pc := 30) dX7_isNew_30 rfl ?_
      refine xg_ior (pc := 31) dX7_isNew_31 ?_
      refine xg_zast (pc := 32) (h' := hp lk o mf wf (q.1, q.2.1, q.2.2.1, upd q.2.2.2.1 c ((q.2.2.2.1 c) ||| 0), q.2.2.2.2.1, q.2.2.2.2.2.1, q.2.2.2.2.2.2.1, q.2.2.2.2.2.2.2.1, q.2.2.2.2.2.2.2.2.1, q.2.2.2.2.2.2.2.2.2.1, q.2.2.2.2.2.2.2.2.2.2.1, q.2.2.2.2.2.2.2.2.2.2.2.1, q.2.2.2.2.2.2.2.2.2.2.2.2.1, q.2.2.2.2.2.2.2.2.2.2.2.2.2.1, q.2.2.2.2.2.2.2.2.2.2.2.2.2.2)) c dX7_isNew_32 hp_67 rfl (by omega) (by decide) (by rw [Int32.or_zero]; rcases hb c hc with z | z <;> rw [z] <;> rfl) hs_co ?_
      refine xg_iload_n (pc := 33) dX7_isNew_33 rfl ?_
      exact xg_zret (pc := 34) (ty := .boolean) dX7_isNew_34 rfl rfl (⟨by rw [if_neg (fun z => c_14 z.2)], by rw [if_neg (fun z => c_14 z.2), Int32.or_zero, upd_id]⟩)
    ·
      refine xg_iconst (v := 1) (pc := 17) dX7_isNew_17 (by decide) ?_
      refine xg_goto (pc := 18) (tgt := 22) dX7_isNew_18 (by decide) ?_
      refine xg_istore_n (pc := 22) (ls' := [some (.ref 62), some (.int (nI c)), some (.int 1)]) dX7_isNew_22 (by decide) rfl ?_
      refine xg_aload_n (pc := 23) dX7_isNew_23 rfl ?_
      refine xg_get (pc := 24) dX7_isNew_24 flX7_22 hp_62 rfl ?_
      refine xg_iload_n (pc := 27) dX7_isNew_27 rfl ?_
      refine xg_dup2 (pc := 28) dX7_isNew_28 rfl rfl ?_
      refine xg_zald (pc := 29) c dX7_isNew_29 hp_67 rfl (by omega) (by decide) ?_
      refine xg_iload_n (pc := 30) dX7_isNew_30 rfl ?_
      refine xg_ior (pc := 31) dX7_isNew_31 ?_
      refine xg_zast (pc := 32) (h' := hp lk o mf wf (q.1, q.2.1, q.2.2.1, upd q.2.2.2.1 c ((q.2.2.2.1 c) ||| 1), q.2.2.2.2.1, q.2.2.2.2.2.1, q.2.2.2.2.2.2.1, q.2.2.2.2.2.2.2.1, q.2.2.2.2.2.2.2.2.1, q.2.2.2.2.2.2.2.2.2.1, q.2.2.2.2.2.2.2.2.2.2.1, q.2.2.2.2.2.2.2.2.2.2.2.1, q.2.2.2.2.2.2.2.2.2.2.2.2.1, q.2.2.2.2.2.2.2.2.2.2.2.2.2.1, q.2.2.2.2.2.2.2.2.2.2.2.2.2.2)) c dX7_isNew_32 hp_67 rfl (by omega) (by decide) (by rw [c_14]; rfl) hs_co ?_
      refine xg_iload_n (pc := 33) dX7_isNew_33 rfl ?_
      exact xg_zret (pc := 34) (ty := .boolean) dX7_isNew_34 rfl rfl (⟨by rw [if_pos ⟨c_5, c_14⟩], by rw [if_pos ⟨c_5, c_14⟩, c_14]; rfl⟩)
set_option maxRecDepth 100000 in
theorem sp_93 {c n0 : Nat} (hc : c < 48) : ∀ (g e : Nat → Int32) (n : Nat), okE (g, e, n) → xGo X false (d + 2) 0 0 mX7_spreads 93 [some (.ref 62), some (.int (nI c)), some (.int (nI n0)), some (.int (nI n))] [] (hp lk o mf wf (q.1, q.2.1, q.2.2.1, g, e, q.2.2.2.2.2.1, q.2.2.2.2.2.2.1, q.2.2.2.2.2.2.2.1, q.2.2.2.2.2.2.2.2.1, q.2.2.2.2.2.2.2.2.2.1, q.2.2.2.2.2.2.2.2.2.2.1, q.2.2.2.2.2.2.2.2.2.2.2.1, q.2.2.2.2.2.2.2.2.2.2.2.2.1, q.2.2.2.2.2.2.2.2.2.2.2.2.2.1, q.2.2.2.2.2.2.2.2.2.2.2.2.2.2)) (fun v h' => v = [.int (nI (bk4 mf c ((g, e, n))).2.2)] ∧ h' = hp lk o mf wf (q.1, q.2.1, q.2.2.1, (bk4 mf c ((g, e, n))).1, (bk4 mf c ((g, e, n))).2.1, q.2.2.2.2.2.1, q.2.2.2.2.2.2.1, q.2.2.2.2.2.2.2.1, q.2.2.2.2.2.2.2.2.1, q.2.2.2.2.2.2.2.2.2.1, q.2.2.2.2.2.2.2.2.2.2.1, q.2.2.2.2.2.2.2.2.2.2.2.1, q.2.2.2.2.2.2.2.2.2.2.2.2.1, q.2.2.2.2.2.2.2.2.2.2.2.2.2.1, q.2.2.2.2.2.2.2.2.2.2.2.2.2.2)) := by
  intro g e n ho
  refine xg_iload_n (pc := 93) dX7_spreads_93 rfl ?_
  refine xg_bipush (v := 8) (pc := 94) dX7_spreads_94 (by decide) ?_
  refine xg_irem (pc := 96) dX7_spreads_96 (by decide) ?_
  refine xg_eq (rem_n (d := 8) (by omega) (by decide) (by decide)) ?_
  refine xg_if_le (pc := 97) (tgt := 122) dX7_spreads_97 (by decide) (fun c_97 => ?_) (fun c_97 => ?_)
  ·
    have hq : ¬ 0 < c % 8 := by rw [show (0 : Int32) = nI 0 from rfl, nI_leI (by omega) (by omega)] at c_97; omega
    have e1 : bk4 mf c (g, e, n) = (g, e, n) := if_neg hq
    have ho2 := ho.b4 (f := mf) hc
    rw [e1] at ho2 ⊢
    refine xg_iload_n (pc := 122) dX7_spreads_122 rfl ?_
    exact xg_iret (pc := 123) dX7_spreads_123 rfl (⟨rfl, rfl⟩)
  ·
    have hq : 0 < c % 8 := by rw [show (0 : Int32) = nI 0 from rfl, nI_leI (by omega) (by omega)] at c_97; omega
    refine xg_aload_n (pc := 100) dX7_spreads_100 rfl ?_
    refine xg_iload_n (pc := 101) dX7_spreads_101 rfl ?_
    refine xg_iconst (v := 1) (pc := 102) dX7_spreads_102 (by decide) ?_
    refine xg_isub (pc := 103) dX7_spreads_103 ?_
    refine xg_eq (pk_sub (b := 1) (by omega)) ?_
    refine xg_cvI (pc := 104) (h1 := hp lk o mf wf (q.1, q.2.1, q.2.2.1, if isN mf g (c - 1) then upd g (c - 1) 1 else g, e, q.2.2.2.2.2.1, q.2.2.2.2.2.2.1, q.2.2.2.2.2.2.2.1, q.2.2.2.2.2.2.2.2.1, q.2.2.2.2.2.2.2.2.2.1, q.2.2.2.2.2.2.2.2.2.2.1, q.2.2.2.2.2.2.2.2.2.2.2.1, q.2.2.2.2.2.2.2.2.2.2.2.2.1, q.2.2.2.2.2.2.2.2.2.2.2.2.2.1, q.2.2.2.2.2.2.2.2.2.2.2.2.2.2)) (x := if isN mf g (c - 1) then 1 else 0) (M' := mX7_isNew) dX7_spreads_104 lkX7_163 mcX7_isNew hp_62 rfl (ev_X7_isNew (c := c - 1) (by omega) ho.1) rfl rfl (Nat.le_of_ble_eq_true rfl) ?_
    refine xg_bz (pc := 107) (tgt := 122) dX7_spreads_107 (by decide) (fun c_107 => ?_) (fun c_107 => ?_)
    ·
      have e1 : bk4 mf c (g, e, n) = (g, e, n) := (if_pos hq).trans (if_neg c_107)
      have e2 : (if isN mf g (c - 1) then upd g (c - 1) 1 else g) = g := if_neg c_107
      rw [e2]
      have ho2 := ho.b4 (f := mf) hc
      rw [e1] at ho2 ⊢
      refine xg_iload_n (pc := 122) dX7_spreads_122 rfl ?_
      exact xg_iret (pc := 123) dX7_spreads_123 rfl (⟨rfl, rfl⟩)
    ·
      have hn : n < 48 := ho.lt (by omega) c_107.2
      refine xg_aload_n (pc := 110) dX7_spreads_110 rfl ?_
      refine xg_get (pc := 111) dX7_spreads_111 flX7_26 hp_62 rfl ?_
      refine xg_iload_n (pc := 114) dX7_spreads_114 rfl ?_
      refine xg_iload_n (pc := 115) dX7_spreads_115 rfl ?_
      refine xg_iconst (v := 1) (pc := 116) dX7_spreads_116 (by decide) ?_
      refine xg_isub (pc := 117) dX7_spreads_117 ?_
      refine xg_eq (pk_sub (b := 1) (by omega)) ?_
      refine xg_iast (pc := 118) (h' := hp lk o mf wf (q.1, q.2.1, q.2.2.1, if isN mf g (c - 1) then upd g (c - 1) 1 else g, upd e n (nI (c - 1)), q.2.2.2.2.2.1, q.2.2.2.2.2.2.1, q.2.2.2.2.2.2.2.1, q.2.2.2.2.2.2.2.2.1, q.2.2.2.2.2.2.2.2.2.1, q.2.2.2.2.2.2.2.2.2.2.1, q.2.2.2.2.2.2.2.2.2.2.2.1, q.2.2.2.2.2.2.2.2.2.2.2.2.1, q.2.2.2.2.2.2.2.2.2.2.2.2.2.1, q.2.2.2.2.2.2.2.2.2.2.2.2.2.2)) n dX7_spreads_118 hp_68 rfl (by omega) (by decide) hs_ed ?_
      refine xg_iinc (pc := 119) (y := nI (n + 1)) (ls' := [some (.ref 62), some (.int (nI c)), some (.int (nI n0)), some (.int (nI (n + 1)))]) dX7_spreads_119 rfl (xinc _) (by decide) rfl ?_
      have e1 : bk4 mf c (g, e, n) = (upd g (c - 1) 1, upd e n (nI (c - 1)), n + 1) := (if_pos hq).trans (if_pos c_107)
      have e2 : (if isN mf g (c - 1) then upd g (c - 1) 1 else g) = upd g (c - 1) 1 := if_pos c_107
      rw [e2]
      have ho2 := ho.b4 (f := mf) hc
      rw [e1] at ho2 ⊢
      refine xg_iload_n (pc := 122) dX7_spreads_122 rfl ?_
      exact xg_iret (pc := 123) dX7_spreads_123 rfl (⟨rfl, rfl⟩)
set_option maxRecDepth 100000 in
theorem sp_63 {c n0 : Nat} (hc : c < 48) : ∀ (g e : Nat → Int32) (n : Nat), okE (g, e, n) → xGo X false (d + 2) 0 0 mX7_spreads 63 [some (.ref 62), some (.int (nI c)), some (.int (nI n0)), some (.int (nI n))] [] (hp lk o mf wf (q.1, q.2.1, q.2.2.1, g, e, q.2.2.2.2.2.1, q.2.2.2.2.2.2.1, q.2.2.2.2.2.2.2.1, q.2.2.2.2.2.2.2.2.1, q.2.2.2.2.2.2.2.2.2.1, q.2.2.2.2.2.2.2.2.2.2.1, q.2.2.2.2.2.2.2.2.2.2.2.1, q.2.2.2.2.2.2.2.2.2.2.2.2.1, q.2.2.2.2.2.2.2.2.2.2.2.2.2.1, q.2.2.2.2.2.2.2.2.2.2.2.2.2.2)) (fun v h' => v = [.int (nI (bk4 mf c (bk3 mf c ((g, e, n)))).2.2)] ∧ h' = hp lk o mf wf (q.1, q.2.1, q.2.2.1, (bk4 mf c (bk3 mf c ((g, e, n)))).1, (bk4 mf c (bk3 mf c ((g, e, n)))).2.1, q.2.2.2.2.2.1, q.2.2.2.2.2.2.1, q.2.2.2.2.2.2.2.1, q.2.2.2.2.2.2.2.2.1, q.2.2.2.2.2.2.2.2.2.1, q.2.2.2.2.2.2.2.2.2.2.1, q.2.2.2.2.2.2.2.2.2.2.2.1, q.2.2.2.2.2.2.2.2.2.2.2.2.1, q.2.2.2.2.2.2.2.2.2.2.2.2.2.1, q.2.2.2.2.2.2.2.2.2.2.2.2.2.2)) := by
  intro g e n ho
  refine xg_iload_n (pc := 63) dX7_spreads_63 rfl ?_
  refine xg_bipush (v := 40) (pc := 64) dX7_spreads_64 (by decide) ?_
  refine xg_icmp_ge (pc := 66) (tgt := 93) dX7_spreads_66 (by decide) (fun c_66 => ?_) (fun c_66 => ?_)
  ·
    have hq : ¬ c < 40 := by rw [show (40 : Int32) = nI 40 from rfl, nI_leI (by omega) (by omega)] at c_66; omega
    have e1 : bk3 mf c (g, e, n) = (g, e, n) := if_neg hq
    have ho2 := ho.b3 (f := mf) hc
    rw [e1] at ho2 ⊢
    exact sp_93 hc _ _ _ ho2
  ·
    have hq : c < 40 := by rw [show (40 : Int32) = nI 40 from rfl, nI_leI (by omega) (by omega)] at c_66; omega
    refine xg_aload_n (pc := 69) dX7_spreads_69 rfl ?_
    refine xg_iload_n (pc := 70) dX7_spreads_70 rfl ?_
    refine xg_bipush (v := 8) (pc := 71) dX7_spreads_71 (by decide) ?_
    refine xg_iadd (pc := 73) dX7_spreads_73 ?_
    refine xg_eq (nI_add _ 8) ?_
    refine xg_cvI (pc := 74) (h1 := hp lk o mf wf (q.1, q.2.1, q.2.2.1, if isN mf g (c + 8) then upd g (c + 8) 1 else g, e, q.2.2.2.2.2.1, q.2.2.2.2.2.2.1, q.2.2.2.2.2.2.2.1, q.2.2.2.2.2.2.2.2.1, q.2.2.2.2.2.2.2.2.2.1, q.2.2.2.2.2.2.2.2.2.2.1, q.2.2.2.2.2.2.2.2.2.2.2.1, q.2.2.2.2.2.2.2.2.2.2.2.2.1, q.2.2.2.2.2.2.2.2.2.2.2.2.2.1, q.2.2.2.2.2.2.2.2.2.2.2.2.2.2)) (x := if isN mf g (c + 8) then 1 else 0) (M' := mX7_isNew) dX7_spreads_74 lkX7_163 mcX7_isNew hp_62 rfl (ev_X7_isNew (c := c + 8) (by omega) ho.1) rfl rfl (Nat.le_of_ble_eq_true rfl) ?_
    refine xg_bz (pc := 77) (tgt := 93) dX7_spreads_77 (by decide) (fun c_77 => ?_) (fun c_77 => ?_)
    ·
      have e1 : bk3 mf c (g, e, n) = (g, e, n) := (if_pos hq).trans (if_neg c_77)
      have e2 : (if isN mf g (c + 8) then upd g (c + 8) 1 else g) = g := if_neg c_77
      rw [e2]
      have ho2 := ho.b3 (f := mf) hc
      rw [e1] at ho2 ⊢
      exact sp_93 hc _ _ _ ho2
    ·
      have hn : n < 48 := ho.lt (by omega) c_77.2
      refine xg_aload_n (pc := 80) dX7_spreads_80 rfl ?_
      refine xg_get (pc := 81) dX7_spreads_81 flX7_26 hp_62 rfl ?_
      refine xg_iload_n (pc := 84) dX7_spreads_84 rfl ?_
      refine xg_iload_n (pc := 85) dX7_spreads_85 rfl ?_
      refine xg_bipush (v := 8) (pc := 86) dX7_spreads_86 (by decide) ?_
      refine xg_iadd (pc := 88) dX7_spreads_88 ?_
      refine xg_eq (nI_add _ 8) ?_
      refine xg_iast (pc := 89) (h' := hp lk o mf wf (q.1, q.2.1, q.2.2.1, if isN mf g (c + 8) then upd g (c + 8) 1 else g, upd e n (nI (c + 8)), q.2.2.2.2.2.1, q.2.2.2.2.2.2.1, q.2.2.2.2.2.2.2.1, q.2.2.2.2.2.2.2.2.1, q.2.2.2.2.2.2.2.2.2.1, q.2.2.2.2.2.2.2.2.2.2.1, q.2.2.2.2.2.2.2.2.2.2.2.1, q.2.2.2.2.2.2.2.2.2.2.2.2.1, q.2.2.2.2.2.2.2.2.2.2.2.2.2.1, q.2.2.2.2.2.2.2.2.2.2.2.2.2.2)) n dX7_spreads_89 hp_68 rfl (by omega) (by decide) hs_ed ?_
      refine xg_iinc (pc := 90) (y := nI (n + 1)) (ls' := [some (.ref 62), some (.int (nI c)), some (.int (nI n0)), some (.int (nI (n + 1)))]) dX7_spreads_90 rfl (xinc _) (by decide) rfl ?_
      have e1 : bk3 mf c (g, e, n) = (upd g (c + 8) 1, upd e n (nI (c + 8)), n + 1) := (if_pos hq).trans (if_pos c_77)
      have e2 : (if isN mf g (c + 8) then upd g (c + 8) 1 else g) = upd g (c + 8) 1 := if_pos c_77
      rw [e2]
      have ho2 := ho.b3 (f := mf) hc
      rw [e1] at ho2 ⊢
      exact sp_93 hc _ _ _ ho2
set_option maxRecDepth 100000 in
theorem sp_32 {c n0 : Nat} (hc : c < 48) : ∀ (g e : Nat → Int32) (n : Nat), okE (g, e, n) → xGo X false (d + 2) 0 0 mX7_spreads 32 [some (.ref 62), some (.int (nI c)), some (.int (nI n0)), some (.int (nI n))] [] (hp lk o mf wf (q.1, q.2.1, q.2.2.1, g, e, q.2.2.2.2.2.1, q.2.2.2.2.2.2.1, q.2.2.2.2.2.2.2.1, q.2.2.2.2.2.2.2.2.1, q.2.2.2.2.2.2.2.2.2.1, q.2.2.2.2.2.2.2.2.2.2.1, q.2.2.2.2.2.2.2.2.2.2.2.1, q.2.2.2.2.2.2.2.2.2.2.2.2.1, q.2.2.2.2.2.2.2.2.2.2.2.2.2.1, q.2.2.2.2.2.2.2.2.2.2.2.2.2.2)) (fun v h' => v = [.int (nI (bk4 mf c (bk3 mf c (bk2 mf c ((g, e, n))))).2.2)] ∧ h' = hp lk o mf wf (q.1, q.2.1, q.2.2.1, (bk4 mf c (bk3 mf c (bk2 mf c ((g, e, n))))).1, (bk4 mf c (bk3 mf c (bk2 mf c ((g, e, n))))).2.1, q.2.2.2.2.2.1, q.2.2.2.2.2.2.1, q.2.2.2.2.2.2.2.1, q.2.2.2.2.2.2.2.2.1, q.2.2.2.2.2.2.2.2.2.1, q.2.2.2.2.2.2.2.2.2.2.1, q.2.2.2.2.2.2.2.2.2.2.2.1, q.2.2.2.2.2.2.2.2.2.2.2.2.1, q.2.2.2.2.2.2.2.2.2.2.2.2.2.1, q.2.2.2.2.2.2.2.2.2.2.2.2.2.2)) := by
  intro g e n ho
  refine xg_iload_n (pc := 32) dX7_spreads_32 rfl ?_
  refine xg_bipush (v := 8) (pc := 33) dX7_spreads_33 (by decide) ?_
  refine xg_irem (pc := 35) dX7_spreads_35 (by decide) ?_
  refine xg_eq (rem_n (d := 8) (by omega) (by decide) (by decide)) ?_
  refine xg_bipush (v := 7) (pc := 36) dX7_spreads_36 (by decide) ?_
  refine xg_icmp_ge (pc := 38) (tgt := 63) dX7_spreads_38 (by decide) (fun c_38 => ?_) (fun c_38 => ?_)
  ·
    have hq : ¬ c % 8 < 7 := by rw [show (7 : Int32) = nI 7 from rfl, nI_leI (by omega) (by omega)] at c_38; omega
    have e1 : bk2 mf c (g, e, n) = (g, e, n) := if_neg hq
    have ho2 := ho.b2 (f := mf) hc
    rw [e1] at ho2 ⊢
    exact sp_63 hc _ _ _ ho2
  ·
    have hq : c % 8 < 7 := by rw [show (7 : Int32) = nI 7 from rfl, nI_leI (by omega) (by omega)] at c_38; omega
    refine xg_aload_n (pc := 41) dX7_spreads_41 rfl ?_
    refine xg_iload_n (pc := 42) dX7_spreads_42 rfl ?_
    refine xg_iconst (v := 1) (pc := 43) dX7_spreads_43 (by decide) ?_
    refine xg_iadd (pc := 44) dX7_spreads_44 ?_
    refine xg_eq (nI_1 _) ?_
    refine xg_cvI (pc := 45) (h1 := hp lk o mf wf (q.1, q.2.1, q.2.2.1, if isN mf g (c + 1) then upd g (c + 1) 1 else g, e, q.2.2.2.2.2.1, q.2.2.2.2.2.2.1, q.2.2.2.2.2.2.2.1, q.2.2.2.2.2.2.2.2.1, q.2.2.2.2.2.2.2.2.2.1, q.2.2.2.2.2.2.2.2.2.2.1, q.2.2.2.2.2.2.2.2.2.2.2.1, q.2.2.2.2.2.2.2.2.2.2.2.2.1, q.2.2.2.2.2.2.2.2.2.2.2.2.2.1, q.2.2.2.2.2.2.2.2.2.2.2.2.2.2)) (x := if isN mf g (c + 1) then 1 else 0) (M' := mX7_isNew) dX7_spreads_45 lkX7_163 mcX7_isNew hp_62 rfl (ev_X7_isNew (c := c + 1) (by omega) ho.1) rfl rfl (Nat.le_of_ble_eq_true rfl) ?_
    refine xg_bz (pc := 48) (tgt := 63) dX7_spreads_48 (by decide) (fun c_48 => ?_) (fun c_48 => ?_)
    ·
      have e1 : bk2 mf c (g, e, n) = (g, e, n) := (if_pos hq).trans (if_neg c_48)
      have e2 : (if isN mf g (c + 1) then upd g (c + 1) 1 else g) = g := if_neg c_48
      rw [e2]
      have ho2 := ho.b2 (f := mf) hc
      rw [e1] at ho2 ⊢
      exact sp_63 hc _ _ _ ho2
    ·
      have hn : n < 48 := ho.lt (by omega) c_48.2
      refine xg_aload_n (pc := 51) dX7_spreads_51 rfl ?_
      refine xg_get (pc := 52) dX7_spreads_52 flX7_26 hp_62 rfl ?_
      refine xg_iload_n (pc := 55) dX7_spreads_55 rfl ?_
      refine xg_iload_n (pc := 56) dX7_spreads_56 rfl ?_
      refine xg_iconst (v := 1) (pc := 57) dX7_spreads_57 (by decide) ?_
      refine xg_iadd (pc := 58) dX7_spreads_58 ?_
      refine xg_eq (nI_1 _) ?_
      refine xg_iast (pc := 59) (h' := hp lk o mf wf (q.1, q.2.1, q.2.2.1, if isN mf g (c + 1) then upd g (c + 1) 1 else g, upd e n (nI (c + 1)), q.2.2.2.2.2.1, q.2.2.2.2.2.2.1, q.2.2.2.2.2.2.2.1, q.2.2.2.2.2.2.2.2.1, q.2.2.2.2.2.2.2.2.2.1, q.2.2.2.2.2.2.2.2.2.2.1, q.2.2.2.2.2.2.2.2.2.2.2.1, q.2.2.2.2.2.2.2.2.2.2.2.2.1, q.2.2.2.2.2.2.2.2.2.2.2.2.2.1, q.2.2.2.2.2.2.2.2.2.2.2.2.2.2)) n dX7_spreads_59 hp_68 rfl (by omega) (by decide) hs_ed ?_
      refine xg_iinc (pc := 60) (y := nI (n + 1)) (ls' := [some (.ref 62), some (.int (nI c)), some (.int (nI n0)), some (.int (nI (n + 1)))]) dX7_spreads_60 rfl (xinc _) (by decide) rfl ?_
      have e1 : bk2 mf c (g, e, n) = (upd g (c + 1) 1, upd e n (nI (c + 1)), n + 1) := (if_pos hq).trans (if_pos c_48)
      have e2 : (if isN mf g (c + 1) then upd g (c + 1) 1 else g) = upd g (c + 1) 1 := if_pos c_48
      rw [e2]
      have ho2 := ho.b2 (f := mf) hc
      rw [e1] at ho2 ⊢
      exact sp_63 hc _ _ _ ho2
set_option maxRecDepth 100000 in
theorem sp_2 {c n0 : Nat} (hc : c < 48) : ∀ (g e : Nat → Int32) (n : Nat), okE (g, e, n) → xGo X false (d + 2) 0 0 mX7_spreads 2 [some (.ref 62), some (.int (nI c)), some (.int (nI n0)), some (.int (nI n))] [] (hp lk o mf wf (q.1, q.2.1, q.2.2.1, g, e, q.2.2.2.2.2.1, q.2.2.2.2.2.2.1, q.2.2.2.2.2.2.2.1, q.2.2.2.2.2.2.2.2.1, q.2.2.2.2.2.2.2.2.2.1, q.2.2.2.2.2.2.2.2.2.2.1, q.2.2.2.2.2.2.2.2.2.2.2.1, q.2.2.2.2.2.2.2.2.2.2.2.2.1, q.2.2.2.2.2.2.2.2.2.2.2.2.2.1, q.2.2.2.2.2.2.2.2.2.2.2.2.2.2)) (fun v h' => v = [.int (nI (bk4 mf c (bk3 mf c (bk2 mf c (bk1 mf c ((g, e, n)))))).2.2)] ∧ h' = hp lk o mf wf (q.1, q.2.1, q.2.2.1, (bk4 mf c (bk3 mf c (bk2 mf c (bk1 mf c ((g, e, n)))))).1, (bk4 mf c (bk3 mf c (bk2 mf c (bk1 mf c ((g, e, n)))))).2.1, q.2.2.2.2.2.1, q.2.2.2.2.2.2.1, q.2.2.2.2.2.2.2.1, q.2.2.2.2.2.2.2.2.1, q.2.2.2.2.2.2.2.2.2.1, q.2.2.2.2.2.2.2.2.2.2.1, q.2.2.2.2.2.2.2.2.2.2.2.1, q.2.2.2.2.2.2.2.2.2.2.2.2.1, q.2.2.2.2.2.2.2.2.2.2.2.2.2.1, q.2.2.2.2.2.2.2.2.2.2.2.2.2.2)) := by
  intro g e n ho
  refine xg_iload_n (pc := 2) dX7_spreads_2 rfl ?_
  refine xg_bipush (v := 8) (pc := 3) dX7_spreads_3 (by decide) ?_
  refine xg_icmp_lt (pc := 5) (tgt := 32) dX7_spreads_5 (by decide) (fun c_5 => ?_) (fun c_5 => ?_)
  ·
    have hq : ¬ 8 ≤ c := by rw [show (8 : Int32) = nI 8 from rfl, nI_ltI (by omega) (by omega)] at c_5; omega
    have e1 : bk1 mf c (g, e, n) = (g, e, n) := if_neg hq
    have ho2 := ho.b1 (f := mf) hc
    rw [e1] at ho2 ⊢
    exact sp_32 hc _ _ _ ho2
  ·
    have hq : 8 ≤ c := by rw [show (8 : Int32) = nI 8 from rfl, nI_ltI (by omega) (by omega)] at c_5; omega
    refine xg_aload_n (pc := 8) dX7_spreads_8 rfl ?_
    refine xg_iload_n (pc := 9) dX7_spreads_9 rfl ?_
    refine xg_bipush (v := 8) (pc := 10) dX7_spreads_10 (by decide) ?_
    refine xg_isub (pc := 12) dX7_spreads_12 ?_
    refine xg_eq (pk_sub (b := 8) (by omega)) ?_
    refine xg_cvI (pc := 13) (h1 := hp lk o mf wf (q.1, q.2.1, q.2.2.1, if isN mf g (c - 8) then upd g (c - 8) 1 else g, e, q.2.2.2.2.2.1, q.2.2.2.2.2.2.1, q.2.2.2.2.2.2.2.1, q.2.2.2.2.2.2.2.2.1, q.2.2.2.2.2.2.2.2.2.1, q.2.2.2.2.2.2.2.2.2.2.1, q.2.2.2.2.2.2.2.2.2.2.2.1, q.2.2.2.2.2.2.2.2.2.2.2.2.1, q.2.2.2.2.2.2.2.2.2.2.2.2.2.1, q.2.2.2.2.2.2.2.2.2.2.2.2.2.2)) (x := if isN mf g (c - 8) then 1 else 0) (M' := mX7_isNew) dX7_spreads_13 lkX7_163 mcX7_isNew hp_62 rfl (ev_X7_isNew (c := c - 8) (by omega) ho.1) rfl rfl (Nat.le_of_ble_eq_true rfl) ?_
    refine xg_bz (pc := 16) (tgt := 32) dX7_spreads_16 (by decide) (fun c_16 => ?_) (fun c_16 => ?_)
    ·
      have e1 : bk1 mf c (g, e, n) = (g, e, n) := (if_pos hq).trans (if_neg c_16)
      have e2 : (if isN mf g (c - 8) then upd g (c - 8) 1 else g) = g := if_neg c_16
      rw [e2]
      have ho2 := ho.b1 (f := mf) hc
      rw [e1] at ho2 ⊢
      exact sp_32 hc _ _ _ ho2
    ·
      have hn : n < 48 := ho.lt (by omega) c_16.2
      refine xg_aload_n (pc := 19) dX7_spreads_19 rfl ?_
      refine xg_get (pc := 20) dX7_spreads_20 flX7_26 hp_62 rfl ?_
      refine xg_iload_n (pc := 23) dX7_spreads_23 rfl ?_
      refine xg_iload_n (pc := 24) dX7_spreads_24 rfl ?_
      refine xg_bipush (v := 8) (pc := 25) dX7_spreads_25 (by decide) ?_
      refine xg_isub (pc := 27) dX7_spreads_27 ?_
      refine xg_eq (pk_sub (b := 8) (by omega)) ?_
      refine xg_iast (pc := 28) (h' := hp lk o mf wf (q.1, q.2.1, q.2.2.1, if isN mf g (c - 8) then upd g (c - 8) 1 else g, upd e n (nI (c - 8)), q.2.2.2.2.2.1, q.2.2.2.2.2.2.1, q.2.2.2.2.2.2.2.1, q.2.2.2.2.2.2.2.2.1, q.2.2.2.2.2.2.2.2.2.1, q.2.2.2.2.2.2.2.2.2.2.1, q.2.2.2.2.2.2.2.2.2.2.2.1, q.2.2.2.2.2.2.2.2.2.2.2.2.1, q.2.2.2.2.2.2.2.2.2.2.2.2.2.1, q.2.2.2.2.2.2.2.2.2.2.2.2.2.2)) n dX7_spreads_28 hp_68 rfl (by omega) (by decide) hs_ed ?_
      refine xg_iinc (pc := 29) (y := nI (n + 1)) (ls' := [some (.ref 62), some (.int (nI c)), some (.int (nI n0)), some (.int (nI (n + 1)))]) dX7_spreads_29 rfl (xinc _) (by decide) rfl ?_
      have e1 : bk1 mf c (g, e, n) = (upd g (c - 8) 1, upd e n (nI (c - 8)), n + 1) := (if_pos hq).trans (if_pos c_16)
      have e2 : (if isN mf g (c - 8) then upd g (c - 8) 1 else g) = upd g (c - 8) 1 := if_pos c_16
      rw [e2]
      have ho2 := ho.b1 (f := mf) hc
      rw [e1] at ho2 ⊢
      exact sp_32 hc _ _ _ ho2
set_option maxRecDepth 100000 in
theorem ev_X7_spreads {c n0 : Nat} {g e : Nat → Int32} (hc : c < 48) (ho : okE (g, e, n0)) : xDv X false (d + 2) mX7_spreads [.ref 62, .int (nI c), .int (nI n0)] (hp lk o mf wf (q.1, q.2.1, q.2.2.1, g, e, q.2.2.2.2.2.1, q.2.2.2.2.2.2.1, q.2.2.2.2.2.2.2.1, q.2.2.2.2.2.2.2.2.1, q.2.2.2.2.2.2.2.2.2.1, q.2.2.2.2.2.2.2.2.2.2.1, q.2.2.2.2.2.2.2.2.2.2.2.1, q.2.2.2.2.2.2.2.2.2.2.2.2.1, q.2.2.2.2.2.2.2.2.2.2.2.2.2.1, q.2.2.2.2.2.2.2.2.2.2.2.2.2.2)) [.int (nI ((spr mf c (g, e, n0)).2.2))] (hp lk o mf wf (q.1, q.2.1, q.2.2.1, (spr mf c (g, e, n0)).1, (spr mf c (g, e, n0)).2.1, q.2.2.2.2.2.1, q.2.2.2.2.2.2.1, q.2.2.2.2.2.2.2.1, q.2.2.2.2.2.2.2.2.1, q.2.2.2.2.2.2.2.2.2.1, q.2.2.2.2.2.2.2.2.2.2.1, q.2.2.2.2.2.2.2.2.2.2.2.1, q.2.2.2.2.2.2.2.2.2.2.2.2.1, q.2.2.2.2.2.2.2.2.2.2.2.2.2.1, q.2.2.2.2.2.2.2.2.2.2.2.2.2.2)) := by
  refine xDv.of (ls := [some (.ref 62), some (.int (nI c)), some (.int (nI n0)), none]) mcX7_spreads.1.2.2.2.2 (Nat.le_of_ble_eq_true rfl) rfl ?_
  refine xg_iload_n (pc := 0) dX7_spreads_0 rfl ?_
  refine xg_istore_n (pc := 1) (ls' := [some (.ref 62), some (.int (nI c)), some (.int (nI n0)), some (.int (nI n0))]) dX7_spreads_1 (by decide) rfl ?_
  exact sp_2 hc _ _ _ ho
set_option maxRecDepth 100000 in
theorem lp_way1 {a b sp gn n : Nat} {g e : Nat → Int32} (ha : a < 48) (hb : b < 48) (hw : wyI mf a b sp gn (g, e, n)) (HO : ∀ (g2 e2 : Nat → Int32) (n2 : Nat), rgI mf a sp n e (bsd e gn n) (g2, e2, n2) → ∀ l6, xGo X false (d + 3) 0 0 mX7_way 69 [some (.ref 62), some (.int (nI a)), some (.int (nI b)), some (.int (nI n2)), some (.int (nI n)), some (.int (nI (sp + 1))), l6] [] (hp lk o mf wf (q.1, q.2.1, q.2.2.1, g2, e2, q.2.2.2.2.2.1, q.2.2.2.2.2.2.1, q.2.2.2.2.2.2.2.1, q.2.2.2.2.2.2.2.2.1, q.2.2.2.2.2.2.2.2.2.1, q.2.2.2.2.2.2.2.2.2.2.1, q.2.2.2.2.2.2.2.2.2.2.2.1, q.2.2.2.2.2.2.2.2.2.2.2.2.1, q.2.2.2.2.2.2.2.2.2.2.2.2.2.1, q.2.2.2.2.2.2.2.2.2.2.2.2.2.2)) (WP lk o q (wyQ mf (wyD a b) (srch (rpl mf) (wyR a b + 1 - wyL a b) (wyL a b))))) : ∀ (k tq : Nat), tq + k = n → ∀ (g2 e2 : Nat → Int32), ∀ (n2 : Nat), gn ≤ tq → rgI mf a sp n e (bsd e gn tq) (g2, e2, n2) → xGo X false (d + 3) 0 0 mX7_way 87 [some (.ref 62), some (.int (nI a)), some (.int (nI b)), some (.int (nI n2)), some (.int (nI tq)), some (.int (nI sp)), some (.int (nI n))] [] (hp lk o mf wf (q.1, q.2.1, q.2.2.1, g2, e2, q.2.2.2.2.2.1, q.2.2.2.2.2.2.1, q.2.2.2.2.2.2.2.1, q.2.2.2.2.2.2.2.2.1, q.2.2.2.2.2.2.2.2.2.1, q.2.2.2.2.2.2.2.2.2.2.1, q.2.2.2.2.2.2.2.2.2.2.2.1, q.2.2.2.2.2.2.2.2.2.2.2.2.1, q.2.2.2.2.2.2.2.2.2.2.2.2.2.1, q.2.2.2.2.2.2.2.2.2.2.2.2.2.2)) (WP lk o q (wyQ mf (wyD a b) (srch (rpl mf) (wyR a b + 1 - wyL a b) (wyL a b)))) := by
  intro k
  induction k with
  | zero =>
    intro tq ht g2 e2 n2 hg hr
    have hn48 : n ≤ 48 := hw.1.le
    have etq : n = tq := by omega
    subst etq
    refine xg_iload (pc := 87) dX7_way_87 rfl ?_
    refine xg_iload (pc := 89) dX7_way_89 rfl ?_
    refine xg_icmp_ge (pc := 91) (tgt := 113) dX7_way_91 (by decide) (fun c_91 => ?_) (fun c_91 => absurd c_91 (fun q => q (nI_le (by omega) (by omega))))
    refine xg_iinc (pc := 113) (y := nI (sp + 1)) (ls' := [some (.ref 62), some (.int (nI a)), some (.int (nI b)), some (.int (nI n2)), some (.int (nI n)), some (.int (nI (sp + 1))), some (.int (nI n))]) dX7_way_113 rfl (xinc _) (by decide) rfl ?_
    refine xg_goto (pc := 116) (tgt := 69) dX7_way_116 (by decide) ?_
    exact HO _ _ _ hr _
  | succ k ih =>
    intro tq ht g2 e2 n2 hg hr
    have hn48 : n ≤ 48 := hw.1.le
    obtain ⟨c0, hc0, hec, hg1⟩ := hw.2.2.2.1 tq (show tq < n by omega)
    have hrr : RR mf a c0 := ((hw.2.2.1 c0 hc0).mp hg1).1
    have hdd : DD a c0 = sp := hw.2.2.2.2.2.1 tq c0 hg (show tq < n by omega) hc0 hec
    have hec : e tq = nI c0 := hec
    have he : e2 tq = nI c0 := (hr.2.2.1 tq (by omega)).trans hec
    refine xg_iload (pc := 87) dX7_way_87 rfl ?_
    refine xg_iload (pc := 89) dX7_way_89 rfl ?_
    refine xg_icmp_ge (pc := 91) (tgt := 113) dX7_way_91 (by decide) (fun c_91 => absurd c_91 (nI_ge (by omega) (by omega))) (fun c_91 => ?_)
    refine xg_aload_n (pc := 94) dX7_way_94 rfl ?_
    refine xg_aload_n (pc := 95) dX7_way_95 rfl ?_
    refine xg_get (pc := 96) dX7_way_96 flX7_26 hp_62 rfl ?_
    refine xg_iload (pc := 99) dX7_way_99 rfl ?_
    refine xg_iald (pc := 101) tq dX7_way_101 hp_68 rfl (by omega) (by decide) ?_
    refine xg_eq he ?_
    refine xg_iload_n (pc := 102) dX7_way_102 rfl ?_
    refine xg_cvI (pc := 103) (h1 := hp lk o mf wf (q.1, q.2.1, q.2.2.1, (spr mf c0 (g2, e2, n2)).1, (spr mf c0 (g2, e2, n2)).2.1, q.2.2.2.2.2.1, q.2.2.2.2.2.2.1, q.2.2.2.2.2.2.2.1, q.2.2.2.2.2.2.2.2.1, q.2.2.2.2.2.2.2.2.2.1, q.2.2.2.2.2.2.2.2.2.2.1, q.2.2.2.2.2.2.2.2.2.2.2.1, q.2.2.2.2.2.2.2.2.2.2.2.2.1, q.2.2.2.2.2.2.2.2.2.2.2.2.2.1, q.2.2.2.2.2.2.2.2.2.2.2.2.2.2)) (x := nI ((spr mf c0 (g2, e2, n2)).2.2)) (M' := mX7_spreads) dX7_way_103 lkX7_166 mcX7_spreads hp_62 rfl (ev_X7_spreads (c := c0) hc0 hr.1) rfl rfl (Nat.le_of_ble_eq_true rfl) ?_
    refine xg_istore_n (pc := 106) (ls' := [some (.ref 62), some (.int (nI a)), some (.int (nI b)), some (.int (nI ((spr mf c0 (g2, e2, n2)).2.2))), some (.int (nI tq)), some (.int (nI sp)), some (.int (nI n))]) dX7_way_106 (by decide) rfl ?_
    refine xg_iinc (pc := 107) (y := nI (tq + 1)) (ls' := [some (.ref 62), some (.int (nI a)), some (.int (nI b)), some (.int (nI ((spr mf c0 (g2, e2, n2)).2.2))), some (.int (nI (tq + 1))), some (.int (nI sp)), some (.int (nI n))]) dX7_way_107 rfl (xinc _) (by decide) rfl ?_
    refine xg_goto (pc := 110) (tgt := 87) dX7_way_110 (by decide) ?_
    exact ih (tq + 1) (by omega) _ _ _ (by omega) ((hr.spr hc0 hrr hdd).to (bsd_s hg hc0 hec))
set_option maxRecDepth 100000 in
theorem lp_way2 {a b : Nat} (ha : a < 48) (hb : b < 48) : ∀ (k gn sp n : Nat) (g e : Nat → Int32) (l6 : Option Value), 48 ≤ gn + k → wyI mf a b sp gn (g, e, n) → xGo X false (d + 3) 0 0 mX7_way 69 [some (.ref 62), some (.int (nI a)), some (.int (nI b)), some (.int (nI n)), some (.int (nI gn)), some (.int (nI sp)), l6] [] (hp lk o mf wf (q.1, q.2.1, q.2.2.1, g, e, q.2.2.2.2.2.1, q.2.2.2.2.2.2.1, q.2.2.2.2.2.2.2.1, q.2.2.2.2.2.2.2.2.1, q.2.2.2.2.2.2.2.2.2.1, q.2.2.2.2.2.2.2.2.2.2.1, q.2.2.2.2.2.2.2.2.2.2.2.1, q.2.2.2.2.2.2.2.2.2.2.2.2.1, q.2.2.2.2.2.2.2.2.2.2.2.2.2.1, q.2.2.2.2.2.2.2.2.2.2.2.2.2.2)) (WP lk o q (wyQ mf (wyD a b) (srch (rpl mf) (wyR a b + 1 - wyL a b) (wyL a b)))) := by
  intro k
  induction k with
  | zero =>
    intro gn sp n g e l6 hk hw
    have hn48 : n ≤ 48 := hw.1.le
    have hng : n ≤ gn := by omega
    have hgn : gn ≤ n := hw.2.1
    refine xg_iload (pc := 69) dX7_way_69 rfl ?_
    refine xg_iload_n (pc := 71) dX7_way_71 rfl ?_
    refine xg_icmp_ge (pc := 72) (tgt := 119) dX7_way_72 (by decide) (fun c_72 => ?_) (fun c_72 => absurd c_72 (fun zq => zq (nI_le (by omega) (by omega))))
    refine xg_aload_n (pc := 119) dX7_way_119 rfl ?_
    refine xg_get (pc := 120) dX7_way_120 flX7_22 hp_62 rfl ?_
    refine xg_iload_n (pc := 123) dX7_way_123 rfl ?_
    refine xg_zald (pc := 124) b dX7_way_124 hp_67 rfl (by omega) (by decide) ?_
    refine xg_if_eq (pc := 125) (tgt := 133) dX7_way_125 (by decide) (fun c_125 => ?_) (fun c_125 => ?_)
    ·
      refine xg_aload_n (pc := 133) dX7_way_133 rfl ?_
      refine xg_ldc (v := -1000000004) (pc := 134) dX7_way_134 ccX7_43 ?_
      refine xg_cvI (pc := 136) (h1 := hp lk o mf wf (q.1, q.2.1, upd q.2.2.1 3 (q.2.2.1 3 + 1), g, e, q.2.2.2.2.2.1, q.2.2.2.2.2.2.1, q.2.2.2.2.2.2.2.1, q.2.2.2.2.2.2.2.2.1, q.2.2.2.2.2.2.2.2.2.1, q.2.2.2.2.2.2.2.2.2.2.1, q.2.2.2.2.2.2.2.2.2.2.2.1, q.2.2.2.2.2.2.2.2.2.2.2.2.1, q.2.2.2.2.2.2.2.2.2.2.2.2.2.1, q.2.2.2.2.2.2.2.2.2.2.2.2.2.2)) (x := -1000000004) (M' := mX7_finds) dX7_way_136 lkX7_44 mcX7_finds hp_62 rfl (ev_X7_finds (j := 3) (by decide) (by decide)) rfl rfl (Nat.le_of_ble_eq_true rfl) ?_
      exact xg_iret (pc := 139) dX7_way_139 rfl (wpR (q := q) (co := g) (ed := e) (j := some 3) (way_no (hw.none ha hb c_125 hng)) eq65.rf)
    ·
      refine xg_iload (pc := 128) dX7_way_128 rfl ?_
      refine xg_goto (pc := 130) (tgt := 139) dX7_way_130 (by decide) ?_
      exact xg_iret (pc := 139) dX7_way_139 rfl (wpR (q := q) (co := g) (ed := e) (j := none) (by rw [way_yes (hw.found hb c_125).1, (hw.found hb c_125).2]) eq65.rf)
  | succ k ih =>
    intro gn sp n g e l6 hk hw
    have hn48 : n ≤ 48 := hw.1.le
    have hgn : gn ≤ n := hw.2.1
    refine xg_iload (pc := 69) dX7_way_69 rfl ?_
    refine xg_iload_n (pc := 71) dX7_way_71 rfl ?_
    refine xg_icmp_ge (pc := 72) (tgt := 119) dX7_way_72 (by decide) (fun c_72 => ?_) (fun c_72 => ?_)
    ·
      have hng : n ≤ gn := (nI_leI (by omega) (by omega)).mp c_72
      refine xg_aload_n (pc := 119) dX7_way_119 rfl ?_
      refine xg_get (pc := 120) dX7_way_120 flX7_22 hp_62 rfl ?_
      refine xg_iload_n (pc := 123) dX7_way_123 rfl ?_
      refine xg_zald (pc := 124) b dX7_way_124 hp_67 rfl (by omega) (by decide) ?_
      refine xg_if_eq (pc := 125) (tgt := 133) dX7_way_125 (by decide) (fun c_125 => ?_) (fun c_125 => ?_)
      ·
        refine xg_aload_n (pc := 133) dX7_way_133 rfl ?_
        refine xg_ldc (v := -1000000004) (pc := 134) dX7_way_134 ccX7_43 ?_
        refine xg_cvI (pc := 136) (h1 := hp lk o mf wf (q.1, q.2.1, upd q.2.2.1 3 (q.2.2.1 3 + 1), g, e, q.2.2.2.2.2.1, q.2.2.2.2.2.2.1, q.2.2.2.2.2.2.2.1, q.2.2.2.2.2.2.2.2.1, q.2.2.2.2.2.2.2.2.2.1, q.2.2.2.2.2.2.2.2.2.2.1, q.2.2.2.2.2.2.2.2.2.2.2.1, q.2.2.2.2.2.2.2.2.2.2.2.2.1, q.2.2.2.2.2.2.2.2.2.2.2.2.2.1, q.2.2.2.2.2.2.2.2.2.2.2.2.2.2)) (x := -1000000004) (M' := mX7_finds) dX7_way_136 lkX7_44 mcX7_finds hp_62 rfl (ev_X7_finds (j := 3) (by decide) (by decide)) rfl rfl (Nat.le_of_ble_eq_true rfl) ?_
        exact xg_iret (pc := 139) dX7_way_139 rfl (wpR (q := q) (co := g) (ed := e) (j := some 3) (way_no (hw.none ha hb c_125 hng)) eq65.rf)
      ·
        refine xg_iload (pc := 128) dX7_way_128 rfl ?_
        refine xg_goto (pc := 130) (tgt := 139) dX7_way_130 (by decide) ?_
        exact xg_iret (pc := 139) dX7_way_139 rfl (wpR (q := q) (co := g) (ed := e) (j := none) (by rw [way_yes (hw.found hb c_125).1, (hw.found hb c_125).2]) eq65.rf)
    ·
      refine xg_aload_n (pc := 75) dX7_way_75 rfl ?_
      refine xg_get (pc := 76) dX7_way_76 flX7_22 hp_62 rfl ?_
      refine xg_iload_n (pc := 79) dX7_way_79 rfl ?_
      refine xg_zald (pc := 80) b dX7_way_80 hp_67 rfl (by omega) (by decide) ?_
      refine xg_if_ne (pc := 81) (tgt := 119) dX7_way_81 (by decide) (fun c_81 => ?_) (fun c_81 => ?_)
      ·
        refine xg_aload_n (pc := 119) dX7_way_119 rfl ?_
        refine xg_get (pc := 120) dX7_way_120 flX7_22 hp_62 rfl ?_
        refine xg_iload_n (pc := 123) dX7_way_123 rfl ?_
        refine xg_zald (pc := 124) b dX7_way_124 hp_67 rfl (by omega) (by decide) ?_
        refine xg_if_eq (pc := 125) (tgt := 133) dX7_way_125 (by decide) (fun c_125 => ?_) (fun c_125 => ?_)
        ·
          refine xg_aload_n (pc := 133) dX7_way_133 rfl ?_
          refine xg_ldc (v := -1000000004) (pc := 134) dX7_way_134 ccX7_43 ?_
          refine xg_cvI (pc := 136) (h1 := hp lk o mf wf (q.1, q.2.1, upd q.2.2.1 3 (q.2.2.1 3 + 1), g, e, q.2.2.2.2.2.1, q.2.2.2.2.2.2.1, q.2.2.2.2.2.2.2.1, q.2.2.2.2.2.2.2.2.1, q.2.2.2.2.2.2.2.2.2.1, q.2.2.2.2.2.2.2.2.2.2.1, q.2.2.2.2.2.2.2.2.2.2.2.1, q.2.2.2.2.2.2.2.2.2.2.2.2.1, q.2.2.2.2.2.2.2.2.2.2.2.2.2.1, q.2.2.2.2.2.2.2.2.2.2.2.2.2.2)) (x := -1000000004) (M' := mX7_finds) dX7_way_136 lkX7_44 mcX7_finds hp_62 rfl (ev_X7_finds (j := 3) (by decide) (by decide)) rfl rfl (Nat.le_of_ble_eq_true rfl) ?_
          exact xg_iret (pc := 139) dX7_way_139 rfl (absurd c_125 c_81)
        ·
          refine xg_iload (pc := 128) dX7_way_128 rfl ?_
          refine xg_goto (pc := 130) (tgt := 139) dX7_way_130 (by decide) ?_
          exact xg_iret (pc := 139) dX7_way_139 rfl (wpR (q := q) (co := g) (ed := e) (j := none) (by rw [way_yes (hw.found hb c_125).1, (hw.found hb c_125).2]) eq65.rf)
      ·
        refine xg_iload_n (pc := 84) dX7_way_84 rfl ?_
        refine xg_istore (pc := 85) (ls' := [some (.ref 62), some (.int (nI a)), some (.int (nI b)), some (.int (nI n)), some (.int (nI gn)), some (.int (nI sp)), some (.int (nI n))]) dX7_way_85 (by decide) rfl ?_
        have hlt : gn < n := by rw [nI_leI (by omega) (by omega)] at c_72; omega
        exact lp_way1 ha hb hw (fun g2 e2 n2 hr l6 => ih n (sp + 1) n2 g2 e2 l6 (by omega) (wyI.next ha hw hb c_81 hr)) (n - gn) gn (by omega) _ _ _ (Nat.le_refl _) hw.begin
set_option maxRecDepth 100000 in
theorem lp_way0 {a b : Nat} (ha : a < 48) (hb : b < 48) : ∀ (k tq : Nat), tq + k = 48 → ∀ (l4 l5 l6 : Option Value), xGo X false (d + 3) 0 0 mX7_way 23 [some (.ref 62), some (.int (nI a)), some (.int (nI b)), some (.int (nI tq)), l4, l5, l6] [] (hp lk o mf wf (q.1, q.2.1, q.2.2.1, clr tq q.2.2.2.1, q.2.2.2.2.1, q.2.2.2.2.2.1, q.2.2.2.2.2.2.1, q.2.2.2.2.2.2.2.1, q.2.2.2.2.2.2.2.2.1, q.2.2.2.2.2.2.2.2.2.1, q.2.2.2.2.2.2.2.2.2.2.1, q.2.2.2.2.2.2.2.2.2.2.2.1, q.2.2.2.2.2.2.2.2.2.2.2.2.1, q.2.2.2.2.2.2.2.2.2.2.2.2.2.1, q.2.2.2.2.2.2.2.2.2.2.2.2.2.2)) (WP lk o q (wyQ mf (wyD a b) (srch (rpl mf) (wyR a b + 1 - wyL a b) (wyL a b)))) := by
  intro k
  induction k with
  | zero =>
    intro tq ht l4 l5 l6
    have etq : tq = 48 := by omega
    subst etq
    have hz : ∀ c, c < 48 → clr 48 q.2.2.2.1 c = 0 := fun c hc => if_pos hc
    refine xg_iload_n (pc := 23) dX7_way_23 rfl ?_
    refine xg_bipush (v := 48) (pc := 24) dX7_way_24 (by decide) ?_
    refine xg_icmp_ge (pc := 26) (tgt := 42) dX7_way_26 (by decide) (fun c_26 => ?_) (fun c_26 => absurd c_26 (by decide))
    refine xg_aload_n (pc := 42) dX7_way_42 rfl ?_
    refine xg_iload_n (pc := 43) dX7_way_43 rfl ?_
    refine xg_cvI (pc := 44) (h1 := hp lk o mf wf (q.1, q.2.1, q.2.2.1, if isN mf (clr 48 q.2.2.2.1) a then upd (clr 48 q.2.2.2.1) a 1 else (clr 48 q.2.2.2.1), q.2.2.2.2.1, q.2.2.2.2.2.1, q.2.2.2.2.2.2.1, q.2.2.2.2.2.2.2.1, q.2.2.2.2.2.2.2.2.1, q.2.2.2.2.2.2.2.2.2.1, q.2.2.2.2.2.2.2.2.2.2.1, q.2.2.2.2.2.2.2.2.2.2.2.1, q.2.2.2.2.2.2.2.2.2.2.2.2.1, q.2.2.2.2.2.2.2.2.2.2.2.2.2.1, q.2.2.2.2.2.2.2.2.2.2.2.2.2.2)) (x := if isN mf (clr 48 q.2.2.2.1) a then 1 else 0) (M' := mX7_isNew) dX7_way_44 lkX7_163 mcX7_isNew hp_62 rfl (ev_X7_isNew (c := a) (by omega) (fun c hc => Or.inl (hz c hc))) rfl rfl (Nat.le_of_ble_eq_true rfl) ?_
    refine xg_bz (pc := 47) (tgt := 54) dX7_way_47 (by decide) (fun c_47 => ?_) (fun c_47 => ?_)
    ·
      refine xg_iconst (v := 0) (pc := 54) dX7_way_54 (by decide) ?_
      refine xg_istore_n (pc := 55) (ls' := [some (.ref 62), some (.int (nI a)), some (.int (nI b)), some (.int 0), l4, l5, l6]) dX7_way_55 (by decide) rfl ?_
      refine xg_aload_n (pc := 56) dX7_way_56 rfl ?_
      refine xg_get (pc := 57) dX7_way_57 flX7_26 hp_62 rfl ?_
      refine xg_iconst (v := 0) (pc := 60) dX7_way_60 (by decide) ?_
      refine xg_iload_n (pc := 61) dX7_way_61 rfl ?_
      refine xg_iast (pc := 62) (h' := hp lk o mf wf (q.1, q.2.1, q.2.2.1, if isN mf (clr 48 q.2.2.2.1) a then upd (clr 48 q.2.2.2.1) a 1 else (clr 48 q.2.2.2.1), upd q.2.2.2.2.1 0 (nI a), q.2.2.2.2.2.1, q.2.2.2.2.2.2.1, q.2.2.2.2.2.2.2.1, q.2.2.2.2.2.2.2.2.1, q.2.2.2.2.2.2.2.2.2.1, q.2.2.2.2.2.2.2.2.2.2.1, q.2.2.2.2.2.2.2.2.2.2.2.1, q.2.2.2.2.2.2.2.2.2.2.2.2.1, q.2.2.2.2.2.2.2.2.2.2.2.2.2.1, q.2.2.2.2.2.2.2.2.2.2.2.2.2.2)) 0 dX7_way_62 hp_68 rfl (by omega) (by decide) hs_ed ?_
      refine xg_iconst (v := 0) (pc := 63) dX7_way_63 (by decide) ?_
      refine xg_istore (pc := 64) (ls' := [some (.ref 62), some (.int (nI a)), some (.int (nI b)), some (.int 0), some (.int 0), l5, l6]) dX7_way_64 (by decide) rfl ?_
      refine xg_iconst (v := 0) (pc := 66) dX7_way_66 (by decide) ?_
      refine xg_istore (pc := 67) (ls' := [some (.ref 62), some (.int (nI a)), some (.int (nI b)), some (.int 0), some (.int 0), some (.int 0), l6]) dX7_way_67 (by decide) rfl ?_
      have hrp : rip mf (nI a) := Classical.not_not.mp (fun z => c_47 ⟨z, hz a ha⟩)
      have e2 : (if isN mf (clr 48 q.2.2.2.1) a then upd (clr 48 q.2.2.2.1) a 1 else (clr 48 q.2.2.2.1)) = clr 48 q.2.2.2.1 := if_neg c_47
      rw [e2]
      exact lp_way2 ha hb 48 0 0 0 _ _ _ (by omega) ((wyI.start ha hz).2 hrp)
    ·
      refine xg_iconst (v := 1) (pc := 50) dX7_way_50 (by decide) ?_
      refine xg_goto (pc := 51) (tgt := 55) dX7_way_51 (by decide) ?_
      refine xg_istore_n (pc := 55) (ls' := [some (.ref 62), some (.int (nI a)), some (.int (nI b)), some (.int 1), l4, l5, l6]) dX7_way_55 (by decide) rfl ?_
      refine xg_aload_n (pc := 56) dX7_way_56 rfl ?_
      refine xg_get (pc := 57) dX7_way_57 flX7_26 hp_62 rfl ?_
      refine xg_iconst (v := 0) (pc := 60) dX7_way_60 (by decide) ?_
      refine xg_iload_n (pc := 61) dX7_way_61 rfl ?_
      refine xg_iast (pc := 62) (h' := hp lk o mf wf (q.1, q.2.1, q.2.2.1, if isN mf (clr 48 q.2.2.2.1) a then upd (clr 48 q.2.2.2.1) a 1 else (clr 48 q.2.2.2.1), upd q.2.2.2.2.1 0 (nI a), q.2.2.2.2.2.1, q.2.2.2.2.2.2.1, q.2.2.2.2.2.2.2.1, q.2.2.2.2.2.2.2.2.1, q.2.2.2.2.2.2.2.2.2.1, q.2.2.2.2.2.2.2.2.2.2.1, q.2.2.2.2.2.2.2.2.2.2.2.1, q.2.2.2.2.2.2.2.2.2.2.2.2.1, q.2.2.2.2.2.2.2.2.2.2.2.2.2.1, q.2.2.2.2.2.2.2.2.2.2.2.2.2.2)) 0 dX7_way_62 hp_68 rfl (by omega) (by decide) hs_ed ?_
      refine xg_iconst (v := 0) (pc := 63) dX7_way_63 (by decide) ?_
      refine xg_istore (pc := 64) (ls' := [some (.ref 62), some (.int (nI a)), some (.int (nI b)), some (.int 1), some (.int 0), l5, l6]) dX7_way_64 (by decide) rfl ?_
      refine xg_iconst (v := 0) (pc := 66) dX7_way_66 (by decide) ?_
      refine xg_istore (pc := 67) (ls' := [some (.ref 62), some (.int (nI a)), some (.int (nI b)), some (.int 1), some (.int 0), some (.int 0), l6]) dX7_way_67 (by decide) rfl ?_
      have e2 : (if isN mf (clr 48 q.2.2.2.1) a then upd (clr 48 q.2.2.2.1) a 1 else (clr 48 q.2.2.2.1)) = upd (clr 48 q.2.2.2.1) a 1 := if_pos c_47
      rw [e2]
      exact lp_way2 ha hb 48 0 0 1 _ _ _ (by omega) ((wyI.start ha hz).1 c_47.1)
  | succ k ih =>
    intro tq ht l4 l5 l6
    refine xg_iload_n (pc := 23) dX7_way_23 rfl ?_
    refine xg_bipush (v := 48) (pc := 24) dX7_way_24 (by decide) ?_
    refine xg_icmp_ge (pc := 26) (tgt := 42) dX7_way_26 (by decide) (fun c_26 => absurd c_26 (nI_ge (b := 48) (by omega) (by omega))) (fun c_26 => ?_)
    refine xg_aload_n (pc := 29) dX7_way_29 rfl ?_
    refine xg_get (pc := 30) dX7_way_30 flX7_22 hp_62 rfl ?_
    refine xg_iload_n (pc := 33) dX7_way_33 rfl ?_
    refine xg_iconst (v := 0) (pc := 34) dX7_way_34 (by decide) ?_
    refine xg_zast (pc := 35) (h' := hp lk o mf wf (q.1, q.2.1, q.2.2.1, upd (clr tq q.2.2.2.1) tq 0, q.2.2.2.2.1, q.2.2.2.2.2.1, q.2.2.2.2.2.2.1, q.2.2.2.2.2.2.2.1, q.2.2.2.2.2.2.2.2.1, q.2.2.2.2.2.2.2.2.2.1, q.2.2.2.2.2.2.2.2.2.2.1, q.2.2.2.2.2.2.2.2.2.2.2.1, q.2.2.2.2.2.2.2.2.2.2.2.2.1, q.2.2.2.2.2.2.2.2.2.2.2.2.2.1, q.2.2.2.2.2.2.2.2.2.2.2.2.2.2)) tq dX7_way_35 hp_67 rfl (by omega) (by decide) rfl hs_co ?_
    refine xg_iinc (pc := 36) (y := nI (tq + 1)) (ls' := [some (.ref 62), some (.int (nI a)), some (.int (nI b)), some (.int (nI (tq + 1))), l4, l5, l6]) dX7_way_36 rfl (xinc _) (by decide) rfl ?_
    refine xg_goto (pc := 39) (tgt := 23) dX7_way_39 (by decide) ?_
    rw [show upd (clr tq q.2.2.2.1) tq 0 = clr (tq + 1) q.2.2.2.1 from clr_s]
    exact ih (tq + 1) (by omega) _ _ _
set_option maxRecDepth 100000 in
set_option maxHeartbeats 4000000 in
theorem ev_X7_way {a b : Int32}  : xEv X false (d + 3) 0 0 mX7_way [.ref 62, .int a, .int b] (hp lk o mf wf q) (WP lk o q (sp_way mf a b)) := by
  refine xEv.of (ls := [some (.ref 62), some (.int a), some (.int b), none, none, none, none]) mcX7_way.1.2.2.2.2 (Nat.le_of_ble_eq_true rfl) rfl ?_
  refine xg_iload_n (pc := 0) dX7_way_0 rfl ?_
  refine xg_csI (pc := 1) (h1 := hp lk o mf wf q) (x := if 0 ≤ a ∧ a ≤ 47 then 1 else 0) (M' := mX7_isCell) dX7_way_1 lkX7_83 mcX7_isCell (ev_X7_isCell) rfl rfl (Nat.le_of_ble_eq_true rfl) ?_
  refine xg_bz (pc := 4) (tgt := 14) dX7_way_4 (by decide) (fun c_4 => ?_) (fun c_4 => ?_)
  ·
    refine xg_aload_n (pc := 14) dX7_way_14 rfl ?_
    refine xg_ldc (v := -1000000001) (pc := 15) dX7_way_15 ccX7_42 ?_
    refine xg_cvI (pc := 17) (h1 := hp lk o mf wf (q.1, q.2.1, upd q.2.2.1 0 (q.2.2.1 0 + 1), q.2.2.2.1, q.2.2.2.2.1, q.2.2.2.2.2.1, q.2.2.2.2.2.2.1, q.2.2.2.2.2.2.2.1, q.2.2.2.2.2.2.2.2.1, q.2.2.2.2.2.2.2.2.2.1, q.2.2.2.2.2.2.2.2.2.2.1, q.2.2.2.2.2.2.2.2.2.2.2.1, q.2.2.2.2.2.2.2.2.2.2.2.2.1, q.2.2.2.2.2.2.2.2.2.2.2.2.2.1, q.2.2.2.2.2.2.2.2.2.2.2.2.2.2)) (x := -1000000001) (M' := mX7_finds) dX7_way_17 lkX7_44 mcX7_finds hp_62 rfl (ev_X7_finds (j := 0) (by decide) (by decide)) rfl rfl (Nat.le_of_ble_eq_true rfl) ?_
    exact xg_iret (pc := 20) dX7_way_20 rfl (wpR (j := some 0) (if_neg (fun q => c_4 q.1)) eq65.rf)
  ·
    refine xg_iload_n (pc := 7) dX7_way_7 rfl ?_
    refine xg_csI (pc := 8) (h1 := hp lk o mf wf q) (x := if 0 ≤ b ∧ b ≤ 47 then 1 else 0) (M' := mX7_isCell) dX7_way_8 lkX7_83 mcX7_isCell (ev_X7_isCell) rfl rfl (Nat.le_of_ble_eq_true rfl) ?_
    refine xg_bnz (pc := 11) (tgt := 21) dX7_way_11 (by decide) (fun c_11 => ?_) (fun c_11 => ?_)
    ·
      obtain ⟨an, han, rfl⟩ := cell_n c_4
      have ean : ix (nI an) = an := nI_clamp (by omega)
      obtain ⟨bn, hbn, rfl⟩ := cell_n c_11
      have ebn : ix (nI bn) = bn := nI_clamp (by omega)
      refine xg_iconst (v := 0) (pc := 21) dX7_way_21 (by decide) ?_
      refine xg_istore_n (pc := 22) (ls' := [some (.ref 62), some (.int (nI an)), some (.int (nI bn)), some (.int 0), none, none, none]) dX7_way_22 (by decide) rfl ?_
      rw [show sp_way mf (nI an) (nI bn) = wyQ mf (wyD an bn) (srch (rpl mf) (wyR an bn + 1 - wyL an bn) (wyL an bn)) from by unfold sp_way; rw [if_pos ⟨c_4, c_11⟩, ean, ebn]]
      have z := lp_way0 (X := X) (d := d) (lk := lk) (o := o) (mf := mf) (wf := wf) (q := q) han hbn 48 0 rfl none none none
      rw [clr_0] at z
      exact z
    ·
      refine xg_aload_n (pc := 14) dX7_way_14 rfl ?_
      refine xg_ldc (v := -1000000001) (pc := 15) dX7_way_15 ccX7_42 ?_
      refine xg_cvI (pc := 17) (h1 := hp lk o mf wf (q.1, q.2.1, upd q.2.2.1 0 (q.2.2.1 0 + 1), q.2.2.2.1, q.2.2.2.2.1, q.2.2.2.2.2.1, q.2.2.2.2.2.2.1, q.2.2.2.2.2.2.2.1, q.2.2.2.2.2.2.2.2.1, q.2.2.2.2.2.2.2.2.2.1, q.2.2.2.2.2.2.2.2.2.2.1, q.2.2.2.2.2.2.2.2.2.2.2.1, q.2.2.2.2.2.2.2.2.2.2.2.2.1, q.2.2.2.2.2.2.2.2.2.2.2.2.2.1, q.2.2.2.2.2.2.2.2.2.2.2.2.2.2)) (x := -1000000001) (M' := mX7_finds) dX7_way_17 lkX7_44 mcX7_finds hp_62 rfl (ev_X7_finds (j := 0) (by decide) (by decide)) rfl rfl (Nat.le_of_ble_eq_true rfl) ?_
      exact xg_iret (pc := 20) dX7_way_20 rfl (wpR (j := some 0) (if_neg (fun q => c_11 q.2)) eq65.rf)
end
