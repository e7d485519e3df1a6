section
variable {X : xS} {d : Nat} {lk : Nat → Nat → Int32} {o : xO} {mf wf : Nat → Int32} {q : xQ} {f : Nat → Int32} {L K : Nat}
set_option maxRecDepth 100000 in
theorem lp_bec2  (hL : L < 3) (hK : K < 3) (hne : K ≠ L) (okg : okN (lk K)) (h4 : f 4 = lk K 4) : ∀ (k tq : Nat), tq + k = nB (lk K) → ∀ (x3 : Option Value), xGo X false (d + 1) 0 0 mX1_become 94 [some (.ref (1 + 16 * L)), some (.ref (1 + 16 * K)), some (.int (nI tq)), x3] [] (hp (va_up lk L (itF (bb (lk K)) tq f)) o mf wf q) (fun v h' => v = [] ∧ h' = hp (va_up lk L (itF (bb (lk K)) (nB (lk K)) f)) o mf wf q) := by
  intro k
  induction k with
  | zero =>
    intro tq ht x3
    have h5 := okg.2.2.2
    have e4q : itF (bb (lk K)) tq f 4 = nI (nB (lk K)) := (itF_o _ _ (fun j hj g => uB_o (by omega))).trans (h4.trans okg.2.2.1)
    have etq : tq = nB (lk K) := by omega
    subst etq
    refine xg_iload_n (pc := 94) dX1_become_94 rfl ?_
    refine xg_aload_n (pc := 95) dX1_become_95 rfl ?_
    refine xg_get (pc := 96) dX1_become_96 flX1_38 (hp_lake hL) rfl ?_
    refine xg_eq e4q ?_
    refine xg_icmp_ge (pc := 99) (tgt := 140) dX1_become_99 (by decide) (fun c_99 => ?_) (fun c_99 => absurd c_99 (fun q => q (nI_le (by omega) (by omega))))
    exact xg_ret (pc := 140) dX1_become_140 rfl (⟨rfl, rfl⟩)
  | succ k ih =>
    intro tq ht x3
    have h5 := okg.2.2.2
    have e4q : itF (bb (lk K)) tq f 4 = nI (nB (lk K)) := (itF_o _ _ (fun j hj g => uB_o (by omega))).trans (h4.trans okg.2.2.1)
    refine xg_iload_n (pc := 94) dX1_become_94 rfl ?_
    refine xg_aload_n (pc := 95) dX1_become_95 rfl ?_
    refine xg_get (pc := 96) dX1_become_96 flX1_38 (hp_lake hL) rfl ?_
    refine xg_eq e4q ?_
    refine xg_icmp_ge (pc := 99) (tgt := 140) dX1_become_99 (by decide) (fun c_99 => absurd c_99 (nI_ge (by omega) (by omega))) (fun c_99 => ?_)
    refine xg_aload_n (pc := 102) dX1_become_102 rfl ?_
    refine xg_get (pc := 103) dX1_become_103 flX1_20 (hp_lakeO hL hK hne) rfl ?_
    refine xg_iload_n (pc := 106) dX1_become_106 rfl ?_
    refine xg_aald (pc := 107) (r := 12 + 16 * K + tq) tq dX1_become_107 (hp_barrO hL hK hne) (by decide) rfl (by omega) (by decide) (if_pos (by omega)) ?_
    refine xg_astore_n (pc := 108) (ls' := [some (.ref (1 + 16 * L)), some (.ref (1 + 16 * K)), some (.int (nI tq)), some (.ref (12 + 16 * K + tq))]) dX1_become_108 (by decide) rfl ?_
    refine xg_aload_n (pc := 109) dX1_become_109 rfl ?_
    refine xg_get (pc := 110) dX1_become_110 flX1_20 (hp_lake hL) rfl ?_
    refine xg_iload_n (pc := 113) dX1_become_113 rfl ?_
    refine xg_aald (pc := 114) (r := 12 + 16 * L + tq) tq dX1_become_114 (hp_barr hL) (by decide) rfl (by omega) (by decide) (if_pos (by omega)) ?_
    refine xg_aload_n (pc := 115) dX1_become_115 rfl ?_
    refine xg_get (pc := 116) dX1_become_116 flX1_60 (hp_boatO hL hK hne (by omega)) rfl ?_
    refine xg_aload_n (pc := 119) dX1_become_119 rfl ?_
    refine xg_get (pc := 120) dX1_become_120 flX1_63 (hp_boatO hL hK hne (by omega)) rfl ?_
    refine xg_aload_n (pc := 123) dX1_become_123 rfl ?_
    refine xg_get (pc := 124) dX1_become_124 flX1_66 (hp_boatO hL hK hne (by omega)) rfl ?_
    refine xg_aload_n (pc := 127) dX1_become_127 rfl ?_
    refine xg_get (pc := 128) dX1_become_128 flX1_69 (hp_boatO hL hK hne (by omega)) rfl ?_
    refine xg_cvV (pc := 131) (h1 := hp (va_up lk L (uB (itF (bb (lk K)) tq f) tq ((lk K) (45 + 4 * tq)) ((lk K) (45 + 4 * tq + 1)) ((lk K) (45 + 4 * tq + 2)) ((lk K) (45 + 4 * tq + 3)))) o mf wf q) (M' := mX0_become) dX1_become_131 lkX1_72 mcX0_become (hp_boat hL (by omega)) rfl (ev_X0_become (j := tq) hL (by omega)) rfl rfl (Nat.le_of_ble_eq_true rfl) ?_
    refine xg_iinc (pc := 134) (y := nI (tq + 1)) (ls' := [some (.ref (1 + 16 * L)), some (.ref (1 + 16 * K)), some (.int (nI (tq + 1))), some (.ref (12 + 16 * K + tq))]) dX1_become_134 rfl (xinc _) (by decide) rfl ?_
    refine xg_goto (pc := 137) (tgt := 94) dX1_become_137 (by decide) ?_
    refine xg_eqh (h' := hp (va_up lk L (itF (bb (lk K)) (tq + 1) f)) o mf wf q) rfl ?_
    exact ih (tq + 1) (by omega) _
set_option maxRecDepth 100000 in
theorem lp_bec1  (hL : L < 3) (hK : K < 3) (hne : K ≠ L) (okg : okN (lk K)) (h3 : f 3 = lk K 3) (h4 : f 4 = lk K 4) : ∀ (k tq : Nat), tq + k = nT (lk K) → ∀ (x3 : Option Value), xGo X false (d + 1) 0 0 mX1_become 42 [some (.ref (1 + 16 * L)), some (.ref (1 + 16 * K)), some (.int (nI tq)), x3] [] (hp (va_up lk L (itF (bt (lk K)) tq f)) o mf wf q) (fun v h' => v = [] ∧ h' = hp (va_up lk L (itF (bb (lk K)) (nB (lk K)) (itF (bt (lk K)) (nT (lk K)) f))) o mf wf q) := by
  intro k
  induction k with
  | zero =>
    intro tq ht x3
    have h8 := okg.2.1
    have e3q : itF (bt (lk K)) tq f 3 = nI (nT (lk K)) := (itF_o _ _ (fun j hj g => uT_o (by omega))).trans (h3.trans okg.1)
    have e4q : itF (bt (lk K)) tq f 4 = lk K 4 := (itF_o _ _ (fun j hj g => uT_o (by omega))).trans h4
    have etq : tq = nT (lk K) := by omega
    subst etq
    refine xg_iload_n (pc := 42) dX1_become_42 rfl ?_
    refine xg_aload_n (pc := 43) dX1_become_43 rfl ?_
    refine xg_get (pc := 44) dX1_become_44 flX1_35 (hp_lake hL) rfl ?_
    refine xg_eq e3q ?_
    refine xg_icmp_ge (pc := 47) (tgt := 92) dX1_become_47 (by decide) (fun c_47 => ?_) (fun c_47 => absurd c_47 (fun q => q (nI_le (by omega) (by omega))))
    refine xg_iconst (v := 0) (pc := 92) dX1_become_92 (by decide) ?_
    refine xg_istore_n (pc := 93) (ls' := [some (.ref (1 + 16 * L)), some (.ref (1 + 16 * K)), some (.int 0), x3]) dX1_become_93 (by decide) rfl ?_
    exact lp_bec2 hL hK hne okg e4q (nB (lk K)) 0 (by omega) _
  | succ k ih =>
    intro tq ht x3
    have h8 := okg.2.1
    have e3q : itF (bt (lk K)) tq f 3 = nI (nT (lk K)) := (itF_o _ _ (fun j hj g => uT_o (by omega))).trans (h3.trans okg.1)
    have e4q : itF (bt (lk K)) tq f 4 = lk K 4 := (itF_o _ _ (fun j hj g => uT_o (by omega))).trans h4
    refine xg_iload_n (pc := 42) dX1_become_42 rfl ?_
    refine xg_aload_n (pc := 43) dX1_become_43 rfl ?_
    refine xg_get (pc := 44) dX1_become_44 flX1_35 (hp_lake hL) rfl ?_
    refine xg_eq e3q ?_
    refine xg_icmp_ge (pc := 47) (tgt := 92) dX1_become_47 (by decide) (fun c_47 => absurd c_47 (nI_ge (by omega) (by omega))) (fun c_47 => ?_)
    refine xg_aload_n (pc := 50) dX1_become_50 rfl ?_
    refine xg_get (pc := 51) dX1_become_51 flX1_11 (hp_lakeO hL hK hne) rfl ?_
    refine xg_iload_n (pc := 54) dX1_become_54 rfl ?_
    refine xg_aald (pc := 55) (r := 3 + 16 * K + tq) tq dX1_become_55 (hp_tarrO hL hK hne) (by decide) rfl (by omega) (by decide) (if_pos (by omega)) ?_
    refine xg_astore_n (pc := 56) (ls' := [some (.ref (1 + 16 * L)), some (.ref (1 + 16 * K)), some (.int (nI tq)), some (.ref (3 + 16 * K + tq))]) dX1_become_56 (by decide) rfl ?_
    refine xg_aload_n (pc := 57) dX1_become_57 rfl ?_
    refine xg_get (pc := 58) dX1_become_58 flX1_11 (hp_lake hL) rfl ?_
    refine xg_iload_n (pc := 61) dX1_become_61 rfl ?_
    refine xg_aald (pc := 62) (r := 3 + 16 * L + tq) tq dX1_become_62 (hp_tarr hL) (by decide) rfl (by omega) (by decide) (if_pos (by omega)) ?_
    refine xg_aload_n (pc := 63) dX1_become_63 rfl ?_
    refine xg_get (pc := 64) dX1_become_64 flX1_41 (hp_thingO hL hK hne (by omega)) rfl ?_
    refine xg_aload_n (pc := 67) dX1_become_67 rfl ?_
    refine xg_get (pc := 68) dX1_become_68 flX1_44 (hp_thingO hL hK hne (by omega)) rfl ?_
    refine xg_aload_n (pc := 71) dX1_become_71 rfl ?_
    refine xg_get (pc := 72) dX1_become_72 flX1_47 (hp_thingO hL hK hne (by omega)) rfl ?_
    refine xg_aload_n (pc := 75) dX1_become_75 rfl ?_
    refine xg_get (pc := 76) dX1_become_76 flX1_50 (hp_thingO hL hK hne (by omega)) rfl ?_
    refine xg_aload_n (pc := 79) dX1_become_79 rfl ?_
    refine xg_get (pc := 80) dX1_become_80 flX1_53 (hp_thingO hL hK hne (by omega)) rfl ?_
    refine xg_cvV (pc := 83) (h1 := hp (va_up lk L (uT (itF (bt (lk K)) tq f) tq ((lk K) (5 + 5 * tq)) ((lk K) (5 + 5 * tq + 1)) ((lk K) (5 + 5 * tq + 2)) ((lk K) (5 + 5 * tq + 3)) ((lk K) (5 + 5 * tq + 4)))) o mf wf q) (M' := mX5_become) dX1_become_83 lkX1_56 mcX5_become (hp_thing hL (by omega)) rfl (ev_X5_become (i := tq) hL (by omega)) rfl rfl (Nat.le_of_ble_eq_true rfl) ?_
    refine xg_iinc (pc := 86) (y := nI (tq + 1)) (ls' := [some (.ref (1 + 16 * L)), some (.ref (1 + 16 * K)), some (.int (nI (tq + 1))), some (.ref (3 + 16 * K + tq))]) dX1_become_86 rfl (xinc _) (by decide) rfl ?_
    refine xg_goto (pc := 89) (tgt := 42) dX1_become_89 (by decide) ?_
    refine xg_eqh (h' := hp (va_up lk L (itF (bt (lk K)) (tq + 1) f)) o mf wf q) rfl ?_
    exact ih (tq + 1) (by omega) _
set_option maxRecDepth 100000 in
theorem ev_X1_become  (hL : L < 3) (hK : K < 3) (hne : K ≠ L) (okg : okN (lk K)) : xDv X false (d + 1) mX1_become [.ref (1 + 16 * L), .ref (1 + 16 * K)] (hp (va_up lk L f) o mf wf q) [] (hp (va_up lk L (bcF (lk K) f)) o mf wf q) := by
  refine xDv.of (ls := [some (.ref (1 + 16 * L)), some (.ref (1 + 16 * K)), none, none]) mcX1_become.1.2.2.2.2 (Nat.le_of_ble_eq_true rfl) rfl ?_
  refine xg_aload_n (pc := 0) dX1_become_0 rfl ?_
  refine xg_aload_n (pc := 1) dX1_become_1 rfl ?_
  refine xg_get (pc := 2) dX1_become_2 flX1_25 (hp_lakeO hL hK hne) rfl ?_
  refine xg_puti (pc := 5) (h' := hp (va_up lk L (upd f 0 ((lk K) 0))) o mf wf q) dX1_become_5 flX1_25 (hp_lake hL) (Nat.le_of_ble_eq_true rfl) (hs_lk hL (by decide)) ?_
  refine xg_aload_n (pc := 8) dX1_become_8 rfl ?_
  refine xg_aload_n (pc := 9) dX1_become_9 rfl ?_
  refine xg_get (pc := 10) dX1_become_10 flX1_29 (hp_lakeO hL hK hne) rfl ?_
  refine xg_puti (pc := 13) (h' := hp (va_up lk L (upd (upd f 0 ((lk K) 0)) 1 ((lk K) 1))) o mf wf q) dX1_become_13 flX1_29 (hp_lake hL) (Nat.le_of_ble_eq_true rfl) (hs_lk hL (by decide)) ?_
  refine xg_aload_n (pc := 16) dX1_become_16 rfl ?_
  refine xg_aload_n (pc := 17) dX1_become_17 rfl ?_
  refine xg_get (pc := 18) dX1_become_18 flX1_32 (hp_lakeO hL hK hne) rfl ?_
  refine xg_puti (pc := 21) (h' := hp (va_up lk L (upd (upd (upd f 0 ((lk K) 0)) 1 ((lk K) 1)) 2 ((lk K) 2))) o mf wf q) dX1_become_21 flX1_32 (hp_lake hL) (Nat.le_of_ble_eq_true rfl) (hs_lk hL (by decide)) ?_
  refine xg_aload_n (pc := 24) dX1_become_24 rfl ?_
  refine xg_aload_n (pc := 25) dX1_become_25 rfl ?_
  refine xg_get (pc := 26) dX1_become_26 flX1_35 (hp_lakeO hL hK hne) rfl ?_
  refine xg_puti (pc := 29) (h' := hp (va_up lk L (upd (upd (upd (upd f 0 ((lk K) 0)) 1 ((lk K) 1)) 2 ((lk K) 2)) 3 ((lk K) 3))) o mf wf q) dX1_become_29 flX1_35 (hp_lake hL) (Nat.le_of_ble_eq_true rfl) (hs_lk hL (by decide)) ?_
  refine xg_aload_n (pc := 32) dX1_become_32 rfl ?_
  refine xg_aload_n (pc := 33) dX1_become_33 rfl ?_
  refine xg_get (pc := 34) dX1_become_34 flX1_38 (hp_lakeO hL hK hne) rfl ?_
  refine xg_puti (pc := 37) (h' := hp (va_up lk L (upd (upd (upd (upd (upd f 0 ((lk K) 0)) 1 ((lk K) 1)) 2 ((lk K) 2)) 3 ((lk K) 3)) 4 ((lk K) 4))) o mf wf q) dX1_become_37 flX1_38 (hp_lake hL) (Nat.le_of_ble_eq_true rfl) (hs_lk hL (by decide)) ?_
  refine xg_iconst (v := 0) (pc := 40) dX1_become_40 (by decide) ?_
  refine xg_istore_n (pc := 41) (ls' := [some (.ref (1 + 16 * L)), some (.ref (1 + 16 * K)), some (.int 0), none]) dX1_become_41 (by decide) rfl ?_
  exact lp_bec1 (f := b5 (lk K) f) hL hK hne okg rfl rfl (nT (lk K)) 0 (by omega) _
end
section
variable {X : xS} {d : Nat} {o : xO} {mf wf : Nat → Int32} {q : xQ} {f0 f1 f2 : Nat → Int32} {i j c : Nat} {x : Int32}
theorem hp_lake0 : (hp (tri f0 f1 f2) o mf wf q)[1 + 16 * 0]? = some (.inr (1, lfs f0 0)) := rfl
theorem hp_tarr0 : (hp (tri f0 f1 f2) o mf wf q)[2 + 16 * 0]? = some (.inl (3, 8, .inr (.inr (.inr (.inr (trf 0)))))) := rfl
theorem hp_barr0 : (hp (tri f0 f1 f2) o mf wf q)[11 + 16 * 0]? = some (.inl (4, 5, .inr (.inr (.inr (.inr (brf 0)))))) := rfl
theorem hp_thing0 (hi : i < 8) : (hp (tri f0 f1 f2) o mf wf q)[3 + 16 * 0 + i]? = some (.inr (5, tfs f0 i)) := by
  have := hp_thing (lk := tri f0 f1 f2) (f := f0) (o := o) (mf := mf) (wf := wf) (q := q) (L := 0) (by decide) hi
  rwa [tri_up0] at this
theorem hp_boat0 (hj : j < 5) : (hp (tri f0 f1 f2) o mf wf q)[12 + 16 * 0 + j]? = some (.inr (0, bfs f0 j)) := by
  have := hp_boat (lk := tri f0 f1 f2) (f := f0) (o := o) (mf := mf) (wf := wf) (q := q) (L := 0) (by decide) hj
  rwa [tri_up0] at this
theorem hs_lk0 (hc : c < 5) : (hp (tri f0 f1 f2) o mf wf q).set (1 + 16 * 0) (.inr (1, (lfs f0 0).set c (.int x))) = hp (tri (upd f0 c x) f1 f2) o mf wf q := by
  have := hs_lk (lk := tri f0 f1 f2) (f := f0) (o := o) (mf := mf) (wf := wf) (q := q) (L := 0) (x := x) (by decide) hc
  rwa [tri_up0, tri_up0] at this
theorem hs_t0 (hi : i < 8) (hc : c < 5) : (hp (tri f0 f1 f2) o mf wf q).set (3 + 16 * 0 + i) (.inr (5, (tfs f0 i).set c (.int x))) = hp (tri (upd f0 (5 + 5 * i + c) x) f1 f2) o mf wf q := by
  have := hs_t (lk := tri f0 f1 f2) (f := f0) (o := o) (mf := mf) (wf := wf) (q := q) (L := 0) (x := x) (by decide) hi hc
  rwa [tri_up0, tri_up0] at this
theorem hs_b0 (hj : j < 5) (hc : c < 4) : (hp (tri f0 f1 f2) o mf wf q).set (12 + 16 * 0 + j) (.inr (0, (bfs f0 j).set c (.int x))) = hp (tri (upd f0 (45 + 4 * j + c) x) f1 f2) o mf wf q := by
  have := hs_b (lk := tri f0 f1 f2) (f := f0) (o := o) (mf := mf) (wf := wf) (q := q) (L := 0) (x := x) (by decide) hj hc
  rwa [tri_up0, tri_up0] at this
theorem hp_lake1 : (hp (tri f0 f1 f2) o mf wf q)[1 + 16 * 1]? = some (.inr (1, lfs f1 1)) := rfl
theorem hp_tarr1 : (hp (tri f0 f1 f2) o mf wf q)[2 + 16 * 1]? = some (.inl (3, 8, .inr (.inr (.inr (.inr (trf 1)))))) := rfl
theorem hp_barr1 : (hp (tri f0 f1 f2) o mf wf q)[11 + 16 * 1]? = some (.inl (4, 5, .inr (.inr (.inr (.inr (brf 1)))))) := rfl
theorem hp_thing1 (hi : i < 8) : (hp (tri f0 f1 f2) o mf wf q)[3 + 16 * 1 + i]? = some (.inr (5, tfs f1 i)) := by
  have := hp_thing (lk := tri f0 f1 f2) (f := f1) (o := o) (mf := mf) (wf := wf) (q := q) (L := 1) (by decide) hi
  rwa [tri_up1] at this
theorem hp_boat1 (hj : j < 5) : (hp (tri f0 f1 f2) o mf wf q)[12 + 16 * 1 + j]? = some (.inr (0, bfs f1 j)) := by
  have := hp_boat (lk := tri f0 f1 f2) (f := f1) (o := o) (mf := mf) (wf := wf) (q := q) (L := 1) (by decide) hj
  rwa [tri_up1] at this
theorem hs_lk1 (hc : c < 5) : (hp (tri f0 f1 f2) o mf wf q).set (1 + 16 * 1) (.inr (1, (lfs f1 1).set c (.int x))) = hp (tri f0 (upd f1 c x) f2) o mf wf q := by
  have := hs_lk (lk := tri f0 f1 f2) (f := f1) (o := o) (mf := mf) (wf := wf) (q := q) (L := 1) (x := x) (by decide) hc
  rwa [tri_up1, tri_up1] at this
theorem hs_t1 (hi : i < 8) (hc : c < 5) : (hp (tri f0 f1 f2) o mf wf q).set (3 + 16 * 1 + i) (.inr (5, (tfs f1 i).set c (.int x))) = hp (tri f0 (upd f1 (5 + 5 * i + c) x) f2) o mf wf q := by
  have := hs_t (lk := tri f0 f1 f2) (f := f1) (o := o) (mf := mf) (wf := wf) (q := q) (L := 1) (x := x) (by decide) hi hc
  rwa [tri_up1, tri_up1] at this
theorem hs_b1 (hj : j < 5) (hc : c < 4) : (hp (tri f0 f1 f2) o mf wf q).set (12 + 16 * 1 + j) (.inr (0, (bfs f1 j).set c (.int x))) = hp (tri f0 (upd f1 (45 + 4 * j + c) x) f2) o mf wf q := by
  have := hs_b (lk := tri f0 f1 f2) (f := f1) (o := o) (mf := mf) (wf := wf) (q := q) (L := 1) (x := x) (by decide) hj hc
  rwa [tri_up1, tri_up1] at this
theorem ev0_X1_hasRipples {a : Int32}  : xDv X false (d + 0) mX1_hasRipples [.ref (1 + 16 * 0), .int a] (hp (tri f0 f1 f2) o mf wf q) [.int (if (f0 1 >>> (a &&& 31)) &&& 1 = 1 then 1 else 0)] (hp (tri f0 f1 f2) o mf wf q) := by
  have := ev_X1_hasRipples (X := X) (d := d) (lk := tri f0 f1 f2) (f := f0) (o := o) (mf := mf) (wf := wf) (q := q) (L := 0) (c := a) (by decide)
  simp only [tri_up0] at this
  exact this
theorem ev0_X1_glintOf {a : Int32} (ok : okN f0) (hc : 0 ≤ a ∧ a ≤ 47) : xDv X false (d + 3) mX1_glintOf [.ref (1 + 16 * 0), .int a] (hp (tri f0 f1 f2) o mf wf q) [.int (glC f0 a)] (hp (tri f0 f1 f2) o mf wf q) := by
  have := ev_X1_glintOf (X := X) (d := d) (lk := tri f0 f1 f2) (f := f0) (o := o) (mf := mf) (wf := wf) (q := q) (L := 0) (c := a) (by decide) ok hc
  simp only [tri_up0] at this
  exact this
theorem ev0_X1_thingsMirroredIn {a : Int32} (ok : okN f0) : xDv X false (d + 3) mX1_thingsMirroredIn [.ref (1 + 16 * 0), .int a] (hp (tri f0 f1 f2) o mf wf q) [.int (orI (oC f0 a) (nT f0))] (hp (tri f0 f1 f2) o mf wf q) := by
  have := ev_X1_thingsMirroredIn (X := X) (d := d) (lk := tri f0 f1 f2) (f := f0) (o := o) (mf := mf) (wf := wf) (q := q) (L := 0) (c := a) (by decide) ok
  simp only [tri_up0] at this
  exact this
theorem ev0_X1_taxOf {a : Int32} (ok : okN f0) : xDv X false (d + 3) mX1_taxOf [.ref (1 + 16 * 0), .int a] (hp (tri f0 f1 f2) o mf wf q) [.int (sumI (tC f0 a) (nT f0))] (hp (tri f0 f1 f2) o mf wf q) := by
  have := ev_X1_taxOf (X := X) (d := d) (lk := tri f0 f1 f2) (f := f0) (o := o) (mf := mf) (wf := wf) (q := q) (L := 0) (c := a) (by decide) ok
  simp only [tri_up0] at this
  exact this
theorem ev0_X1_boatsAt {a : Int32} (ok : okN f0) : xDv X false (d + 0) mX1_boatsAt [.ref (1 + 16 * 0), .int a] (hp (tri f0 f1 f2) o mf wf q) [.int (orI (bA f0 a) (nB f0))] (hp (tri f0 f1 f2) o mf wf q) := by
  have := ev_X1_boatsAt (X := X) (d := d) (lk := tri f0 f1 f2) (f := f0) (o := o) (mf := mf) (wf := wf) (q := q) (L := 0) (c := a) (by decide) ok
  simp only [tri_up0] at this
  exact this
theorem ev0_X1_coinsOfAll  (ok : okN f0) : xDv X false (d + 0) mX1_coinsOfAll [.ref (1 + 16 * 0)] (hp (tri f0 f1 f2) o mf wf q) [.int (sumI (sB f0 3) (nB f0))] (hp (tri f0 f1 f2) o mf wf q) := by
  have := ev_X1_coinsOfAll (X := X) (d := d) (lk := tri f0 f1 f2) (f := f0) (o := o) (mf := mf) (wf := wf) (q := q) (L := 0) (by decide) ok
  simp only [tri_up0] at this
  exact this
theorem ev0_X1_holdOfAll  (ok : okN f0) : xDv X false (d + 0) mX1_holdOfAll [.ref (1 + 16 * 0)] (hp (tri f0 f1 f2) o mf wf q) [.int (sumI (sB f0 2) (nB f0))] (hp (tri f0 f1 f2) o mf wf q) := by
  have := ev_X1_holdOfAll (X := X) (d := d) (lk := tri f0 f1 f2) (f := f0) (o := o) (mf := mf) (wf := wf) (q := q) (L := 0) (by decide) ok
  simp only [tri_up0] at this
  exact this
theorem ev0_X1_lightOfAll  (ok : okN f0) : xDv X false (d + 0) mX1_lightOfAll [.ref (1 + 16 * 0)] (hp (tri f0 f1 f2) o mf wf q) [.int (sumI (lA f0) (nT f0))] (hp (tri f0 f1 f2) o mf wf q) := by
  have := ev_X1_lightOfAll (X := X) (d := d) (lk := tri f0 f1 f2) (f := f0) (o := o) (mf := mf) (wf := wf) (q := q) (L := 0) (by decide) ok
  simp only [tri_up0] at this
  exact this
theorem ev0_X1_darkThings  (ok : okN f0) : xDv X false (d + 0) mX1_darkThings [.ref (1 + 16 * 0)] (hp (tri f0 f1 f2) o mf wf q) [.int (orI (dA f0) (nT f0))] (hp (tri f0 f1 f2) o mf wf q) := by
  have := ev_X1_darkThings (X := X) (d := d) (lk := tri f0 f1 f2) (f := f0) (o := o) (mf := mf) (wf := wf) (q := q) (L := 0) (by decide) ok
  simp only [tri_up0] at this
  exact this
theorem ev0_X1_glintOfAll  (ok : okN f0) : xDv X false (d + 4) mX1_glintOfAll [.ref (1 + 16 * 0)] (hp (tri f0 f1 f2) o mf wf q) [.int (sumI (gAC f0) 48)] (hp (tri f0 f1 f2) o mf wf q) := by
  have := ev_X1_glintOfAll (X := X) (d := d) (lk := tri f0 f1 f2) (f := f0) (o := o) (mf := mf) (wf := wf) (q := q) (L := 0) (by decide) ok
  simp only [tri_up0] at this
  exact this
theorem ev0_X1_passHour  (ok : okM f0) : xDv X false (d + 5) mX1_passHour [.ref (1 + 16 * 0)] (hp (tri f0 f1 f2) o mf wf q) [] (hp (tri (hrC f0) f1 f2) o mf wf q) := by
  have := ev_X1_passHour (X := X) (d := d) (lk := tri f0 f1 f2) (f := f0) (o := o) (mf := mf) (wf := wf) (q := q) (L := 0) (by decide) ok
  simp only [tri_up0] at this
  exact this
theorem ev0_X1_passHours {n : Nat} (ok : okM f0) (hn : n < 2 ^ 31) : xDv X false (d + 6) mX1_passHours [.ref (1 + 16 * 0), .int (nI n)] (hp (tri f0 f1 f2) o mf wf q) [] (hp (tri (hsC n f0) f1 f2) o mf wf q) := by
  have := ev_X1_passHours (X := X) (d := d) (lk := tri f0 f1 f2) (f := f0) (o := o) (mf := mf) (wf := wf) (q := q) (L := 0) (n := n) (by decide) ok hn
  simp only [tri_up0] at this
  exact this
theorem ev0_X1_addThing {a b c e g : Int32} (ok : okN f0) (hr : nT f0 < 8) : xDv X false (d + 1) mX1_addThing [.ref (1 + 16 * 0), .int a, .int b, .int c, .int e, .int g] (hp (tri f0 f1 f2) o mf wf q) [] (hp (tri (aT f0 a b c e g) f1 f2) o mf wf q) := by
  have := ev_X1_addThing (X := X) (d := d) (lk := tri f0 f1 f2) (f := f0) (o := o) (mf := mf) (wf := wf) (q := q) (L := 0) (a := a) (b := b) (c := c) (e := e) (g := g) (by decide) ok hr
  simp only [tri_up0] at this
  exact this
theorem ev0_X1_addBoat {a b : Int32} (ok : okN f0) (hr : nB f0 < 5) : xDv X false (d + 1) mX1_addBoat [.ref (1 + 16 * 0), .int a, .int b] (hp (tri f0 f1 f2) o mf wf q) [] (hp (tri (aB f0 a b) f1 f2) o mf wf q) := by
  have := ev_X1_addBoat (X := X) (d := d) (lk := tri f0 f1 f2) (f := f0) (o := o) (mf := mf) (wf := wf) (q := q) (L := 0) (a := a) (b := b) (by decide) ok hr
  simp only [tri_up0] at this
  exact this
theorem ev0_X5_reach {h : Int32} (hi : i < 8) : xDv X false (d + 1) mX5_reach [.ref (3 + 16 * 0 + i), .int h] (hp (tri f0 f1 f2) o mf wf q) [.int (rch (tw6 (f0 (5 + 5 * i + 2))) h (f0 (5 + 5 * i)) (f0 (5 + 5 * i + 2)))] (hp (tri f0 f1 f2) o mf wf q) := by
  have := ev_X5_reach (X := X) (d := d) (lk := tri f0 f1 f2) (f := f0) (o := o) (mf := mf) (wf := wf) (q := q) (L := 0) (h := h) (by decide) hi
  simp only [tri_up0] at this
  exact this
theorem ev0_X5_shine {r : Int32} (hi : i < 8) (hr : ¬ r < 0) (hr1 : ¬ r + 1 = 0) : xDv X false (d + 0) mX5_shine [.ref (3 + 16 * 0 + i), .int r] (hp (tri f0 f1 f2) o mf wf q) [.int (shn (f0 (5 + 5 * i)) (f0 (5 + 5 * i + 3)) r)] (hp (tri f0 f1 f2) o mf wf q) := by
  have := ev_X5_shine (X := X) (d := d) (lk := tri f0 f1 f2) (f := f0) (o := o) (mf := mf) (wf := wf) (q := q) (L := 0) (r := r) (by decide) hi hr hr1
  simp only [tri_up0] at this
  exact this
theorem ev0_X5_taxed  (hi : i < 8) : xDv X false (d + 0) mX5_taxed [.ref (3 + 16 * 0 + i)] (hp (tri f0 f1 f2) o mf wf q) [.int (txd (f0 (5 + 5 * i)) (f0 (5 + 5 * i + 4)))] (hp (tri f0 f1 f2) o mf wf q) := by
  have := ev_X5_taxed (X := X) (d := d) (lk := tri f0 f1 f2) (f := f0) (o := o) (mf := mf) (wf := wf) (q := q) (L := 0) (by decide) hi
  simp only [tri_up0] at this
  exact this
theorem ev0_X0_takeFrom {g : Int32} (hj : j < 5) : xDv X false (d + 1) mX0_takeFrom [.ref (12 + 16 * 0 + j), .int g] (hp (tri f0 f1 f2) o mf wf q) [.int (mn2 g (mn2 (f0 (45 + 4 * j + 1)) (999 - f0 (45 + 4 * j + 2))))] (hp (tri f0 f1 f2) o mf wf q) := by
  have := ev_X0_takeFrom (X := X) (d := d) (lk := tri f0 f1 f2) (f := f0) (o := o) (mf := mf) (wf := wf) (q := q) (L := 0) (g := g) (by decide) hj
  simp only [tri_up0] at this
  exact this
theorem ev0_X0_worth  (hj : j < 5) : xDv X false (d + 0) mX0_worth [.ref (12 + 16 * 0 + j)] (hp (tri f0 f1 f2) o mf wf q) [.int (f0 (45 + 4 * j + 3) + f0 (45 + 4 * j + 2))] (hp (tri f0 f1 f2) o mf wf q) := by
  have := ev_X0_worth (X := X) (d := d) (lk := tri f0 f1 f2) (f := f0) (o := o) (mf := mf) (wf := wf) (q := q) (L := 0) (by decide) hj
  simp only [tri_up0] at this
  exact this
theorem ev1_X1_hasRipples {a : Int32}  : xDv X false (d + 0) mX1_hasRipples [.ref (1 + 16 * 1), .int a] (hp (tri f0 f1 f2) o mf wf q) [.int (if (f1 1 >>> (a &&& 31)) &&& 1 = 1 then 1 else 0)] (hp (tri f0 f1 f2) o mf wf q) := by
  have := ev_X1_hasRipples (X := X) (d := d) (lk := tri f0 f1 f2) (f := f1) (o := o) (mf := mf) (wf := wf) (q := q) (L := 1) (c := a) (by decide)
  simp only [tri_up1] at this
  exact this
theorem ev1_X1_glintOf {a : Int32} (ok : okN f1) (hc : 0 ≤ a ∧ a ≤ 47) : xDv X false (d + 3) mX1_glintOf [.ref (1 + 16 * 1), .int a] (hp (tri f0 f1 f2) o mf wf q) [.int (glC f1 a)] (hp (tri f0 f1 f2) o mf wf q) := by
  have := ev_X1_glintOf (X := X) (d := d) (lk := tri f0 f1 f2) (f := f1) (o := o) (mf := mf) (wf := wf) (q := q) (L := 1) (c := a) (by decide) ok hc
  simp only [tri_up1] at this
  exact this
theorem ev1_X1_thingsMirroredIn {a : Int32} (ok : okN f1) : xDv X false (d + 3) mX1_thingsMirroredIn [.ref (1 + 16 * 1), .int a] (hp (tri f0 f1 f2) o mf wf q) [.int (orI (oC f1 a) (nT f1))] (hp (tri f0 f1 f2) o mf wf q) := by
  have := ev_X1_thingsMirroredIn (X := X) (d := d) (lk := tri f0 f1 f2) (f := f1) (o := o) (mf := mf) (wf := wf) (q := q) (L := 1) (c := a) (by decide) ok
  simp only [tri_up1] at this
  exact this
theorem ev1_X1_taxOf {a : Int32} (ok : okN f1) : xDv X false (d + 3) mX1_taxOf [.ref (1 + 16 * 1), .int a] (hp (tri f0 f1 f2) o mf wf q) [.int (sumI (tC f1 a) (nT f1))] (hp (tri f0 f1 f2) o mf wf q) := by
  have := ev_X1_taxOf (X := X) (d := d) (lk := tri f0 f1 f2) (f := f1) (o := o) (mf := mf) (wf := wf) (q := q) (L := 1) (c := a) (by decide) ok
  simp only [tri_up1] at this
  exact this
theorem ev1_X1_boatsAt {a : Int32} (ok : okN f1) : xDv X false (d + 0) mX1_boatsAt [.ref (1 + 16 * 1), .int a] (hp (tri f0 f1 f2) o mf wf q) [.int (orI (bA f1 a) (nB f1))] (hp (tri f0 f1 f2) o mf wf q) := by
  have := ev_X1_boatsAt (X := X) (d := d) (lk := tri f0 f1 f2) (f := f1) (o := o) (mf := mf) (wf := wf) (q := q) (L := 1) (c := a) (by decide) ok
  simp only [tri_up1] at this
  exact this
theorem ev1_X1_coinsOfAll  (ok : okN f1) : xDv X false (d + 0) mX1_coinsOfAll [.ref (1 + 16 * 1)] (hp (tri f0 f1 f2) o mf wf q) [.int (sumI (sB f1 3) (nB f1))] (hp (tri f0 f1 f2) o mf wf q) := by
  have := ev_X1_coinsOfAll (X := X) (d := d) (lk := tri f0 f1 f2) (f := f1) (o := o) (mf := mf) (wf := wf) (q := q) (L := 1) (by decide) ok
  simp only [tri_up1] at this
  exact this
theorem ev1_X1_holdOfAll  (ok : okN f1) : xDv X false (d + 0) mX1_holdOfAll [.ref (1 + 16 * 1)] (hp (tri f0 f1 f2) o mf wf q) [.int (sumI (sB f1 2) (nB f1))] (hp (tri f0 f1 f2) o mf wf q) := by
  have := ev_X1_holdOfAll (X := X) (d := d) (lk := tri f0 f1 f2) (f := f1) (o := o) (mf := mf) (wf := wf) (q := q) (L := 1) (by decide) ok
  simp only [tri_up1] at this
  exact this
theorem ev1_X1_lightOfAll  (ok : okN f1) : xDv X false (d + 0) mX1_lightOfAll [.ref (1 + 16 * 1)] (hp (tri f0 f1 f2) o mf wf q) [.int (sumI (lA f1) (nT f1))] (hp (tri f0 f1 f2) o mf wf q) := by
  have := ev_X1_lightOfAll (X := X) (d := d) (lk := tri f0 f1 f2) (f := f1) (o := o) (mf := mf) (wf := wf) (q := q) (L := 1) (by decide) ok
  simp only [tri_up1] at this
  exact this
theorem ev1_X1_darkThings  (ok : okN f1) : xDv X false (d + 0) mX1_darkThings [.ref (1 + 16 * 1)] (hp (tri f0 f1 f2) o mf wf q) [.int (orI (dA f1) (nT f1))] (hp (tri f0 f1 f2) o mf wf q) := by
  have := ev_X1_darkThings (X := X) (d := d) (lk := tri f0 f1 f2) (f := f1) (o := o) (mf := mf) (wf := wf) (q := q) (L := 1) (by decide) ok
  simp only [tri_up1] at this
  exact this
theorem ev1_X1_glintOfAll  (ok : okN f1) : xDv X false (d + 4) mX1_glintOfAll [.ref (1 + 16 * 1)] (hp (tri f0 f1 f2) o mf wf q) [.int (sumI (gAC f1) 48)] (hp (tri f0 f1 f2) o mf wf q) := by
  have := ev_X1_glintOfAll (X := X) (d := d) (lk := tri f0 f1 f2) (f := f1) (o := o) (mf := mf) (wf := wf) (q := q) (L := 1) (by decide) ok
  simp only [tri_up1] at this
  exact this
theorem ev1_X1_passHour  (ok : okM f1) : xDv X false (d + 5) mX1_passHour [.ref (1 + 16 * 1)] (hp (tri f0 f1 f2) o mf wf q) [] (hp (tri f0 (hrC f1) f2) o mf wf q) := by
  have := ev_X1_passHour (X := X) (d := d) (lk := tri f0 f1 f2) (f := f1) (o := o) (mf := mf) (wf := wf) (q := q) (L := 1) (by decide) ok
  simp only [tri_up1] at this
  exact this
theorem ev1_X1_passHours {n : Nat} (ok : okM f1) (hn : n < 2 ^ 31) : xDv X false (d + 6) mX1_passHours [.ref (1 + 16 * 1), .int (nI n)] (hp (tri f0 f1 f2) o mf wf q) [] (hp (tri f0 (hsC n f1) f2) o mf wf q) := by
  have := ev_X1_passHours (X := X) (d := d) (lk := tri f0 f1 f2) (f := f1) (o := o) (mf := mf) (wf := wf) (q := q) (L := 1) (n := n) (by decide) ok hn
  simp only [tri_up1] at this
  exact this
theorem ev1_X1_addThing {a b c e g : Int32} (ok : okN f1) (hr : nT f1 < 8) : xDv X false (d + 1) mX1_addThing [.ref (1 + 16 * 1), .int a, .int b, .int c, .int e, .int g] (hp (tri f0 f1 f2) o mf wf q) [] (hp (tri f0 (aT f1 a b c e g) f2) o mf wf q) := by
  have := ev_X1_addThing (X := X) (d := d) (lk := tri f0 f1 f2) (f := f1) (o := o) (mf := mf) (wf := wf) (q := q) (L := 1) (a := a) (b := b) (c := c) (e := e) (g := g) (by decide) ok hr
  simp only [tri_up1] at this
  exact this
theorem ev1_X1_addBoat {a b : Int32} (ok : okN f1) (hr : nB f1 < 5) : xDv X false (d + 1) mX1_addBoat [.ref (1 + 16 * 1), .int a, .int b] (hp (tri f0 f1 f2) o mf wf q) [] (hp (tri f0 (aB f1 a b) f2) o mf wf q) := by
  have := ev_X1_addBoat (X := X) (d := d) (lk := tri f0 f1 f2) (f := f1) (o := o) (mf := mf) (wf := wf) (q := q) (L := 1) (a := a) (b := b) (by decide) ok hr
  simp only [tri_up1] at this
  exact this
theorem ev1_X5_reach {h : Int32} (hi : i < 8) : xDv X false (d + 1) mX5_reach [.ref (3 + 16 * 1 + i), .int h] (hp (tri f0 f1 f2) o mf wf q) [.int (rch (tw6 (f1 (5 + 5 * i + 2))) h (f1 (5 + 5 * i)) (f1 (5 + 5 * i + 2)))] (hp (tri f0 f1 f2) o mf wf q) := by
  have := ev_X5_reach (X := X) (d := d) (lk := tri f0 f1 f2) (f := f1) (o := o) (mf := mf) (wf := wf) (q := q) (L := 1) (h := h) (by decide) hi
  simp only [tri_up1] at this
  exact this
theorem ev1_X5_shine {r : Int32} (hi : i < 8) (hr : ¬ r < 0) (hr1 : ¬ r + 1 = 0) : xDv X false (d + 0) mX5_shine [.ref (3 + 16 * 1 + i), .int r] (hp (tri f0 f1 f2) o mf wf q) [.int (shn (f1 (5 + 5 * i)) (f1 (5 + 5 * i + 3)) r)] (hp (tri f0 f1 f2) o mf wf q) := by
  have := ev_X5_shine (X := X) (d := d) (lk := tri f0 f1 f2) (f := f1) (o := o) (mf := mf) (wf := wf) (q := q) (L := 1) (r := r) (by decide) hi hr hr1
  simp only [tri_up1] at this
  exact this
theorem ev1_X5_taxed  (hi : i < 8) : xDv X false (d + 0) mX5_taxed [.ref (3 + 16 * 1 + i)] (hp (tri f0 f1 f2) o mf wf q) [.int (txd (f1 (5 + 5 * i)) (f1 (5 + 5 * i + 4)))] (hp (tri f0 f1 f2) o mf wf q) := by
  have := ev_X5_taxed (X := X) (d := d) (lk := tri f0 f1 f2) (f := f1) (o := o) (mf := mf) (wf := wf) (q := q) (L := 1) (by decide) hi
  simp only [tri_up1] at this
  exact this
theorem ev1_X0_takeFrom {g : Int32} (hj : j < 5) : xDv X false (d + 1) mX0_takeFrom [.ref (12 + 16 * 1 + j), .int g] (hp (tri f0 f1 f2) o mf wf q) [.int (mn2 g (mn2 (f1 (45 + 4 * j + 1)) (999 - f1 (45 + 4 * j + 2))))] (hp (tri f0 f1 f2) o mf wf q) := by
  have := ev_X0_takeFrom (X := X) (d := d) (lk := tri f0 f1 f2) (f := f1) (o := o) (mf := mf) (wf := wf) (q := q) (L := 1) (g := g) (by decide) hj
  simp only [tri_up1] at this
  exact this
theorem ev1_X0_worth  (hj : j < 5) : xDv X false (d + 0) mX0_worth [.ref (12 + 16 * 1 + j)] (hp (tri f0 f1 f2) o mf wf q) [.int (f1 (45 + 4 * j + 3) + f1 (45 + 4 * j + 2))] (hp (tri f0 f1 f2) o mf wf q) := by
  have := ev_X0_worth (X := X) (d := d) (lk := tri f0 f1 f2) (f := f1) (o := o) (mf := mf) (wf := wf) (q := q) (L := 1) (by decide) hj
  simp only [tri_up1] at this
  exact this
theorem ev0_X5_isOfKind0 {a : Int32} (hi : i < 8) (hk : f0 (5 + 5 * i) = 0) : xDv X false (d + 0) mX5_isOfKind [.ref (3 + 16 * 0 + i), .int a] (hp (tri f0 f1 f2) o mf wf q) [.int (if kof 0 a then 1 else 0)] (hp (tri f0 f1 f2) o mf wf q) := by
  have := ev_X5_isOfKind0 (X := X) (d := d) (lk := tri f0 f1 f2) (f := f0) (o := o) (mf := mf) (wf := wf) (q := q) (L := 0) (a := a) (by decide) hi hk
  simp only [tri_up0] at this
  exact this
theorem ev0_X5_isOfKind1 {a : Int32} (hi : i < 8) (hk : f0 (5 + 5 * i) = 1) : xDv X false (d + 0) mX5_isOfKind [.ref (3 + 16 * 0 + i), .int a] (hp (tri f0 f1 f2) o mf wf q) [.int (if kof 1 a then 1 else 0)] (hp (tri f0 f1 f2) o mf wf q) := by
  have := ev_X5_isOfKind1 (X := X) (d := d) (lk := tri f0 f1 f2) (f := f0) (o := o) (mf := mf) (wf := wf) (q := q) (L := 0) (a := a) (by decide) hi hk
  simp only [tri_up0] at this
  exact this
theorem ev0_X5_isOfKind2 {a : Int32} (hi : i < 8) (hk : f0 (5 + 5 * i) = 2) : xDv X false (d + 0) mX5_isOfKind [.ref (3 + 16 * 0 + i), .int a] (hp (tri f0 f1 f2) o mf wf q) [.int (if kof 2 a then 1 else 0)] (hp (tri f0 f1 f2) o mf wf q) := by
  have := ev_X5_isOfKind2 (X := X) (d := d) (lk := tri f0 f1 f2) (f := f0) (o := o) (mf := mf) (wf := wf) (q := q) (L := 0) (a := a) (by decide) hi hk
  simp only [tri_up0] at this
  exact this
theorem ev0_X5_isOfKind3 {a : Int32} (hi : i < 8) (hk : f0 (5 + 5 * i) = 3) : xDv X false (d + 0) mX5_isOfKind [.ref (3 + 16 * 0 + i), .int a] (hp (tri f0 f1 f2) o mf wf q) [.int (if kof 3 a then 1 else 0)] (hp (tri f0 f1 f2) o mf wf q) := by
  have := ev_X5_isOfKind3 (X := X) (d := d) (lk := tri f0 f1 f2) (f := f0) (o := o) (mf := mf) (wf := wf) (q := q) (L := 0) (a := a) (by decide) hi hk
  simp only [tri_up0] at this
  exact this
theorem ev0_X5_isOfKind4 {a : Int32} (hi : i < 8) (hk : f0 (5 + 5 * i) = 4) : xDv X false (d + 0) mX5_isOfKind [.ref (3 + 16 * 0 + i), .int a] (hp (tri f0 f1 f2) o mf wf q) [.int (if kof 4 a then 1 else 0)] (hp (tri f0 f1 f2) o mf wf q) := by
  have := ev_X5_isOfKind4 (X := X) (d := d) (lk := tri f0 f1 f2) (f := f0) (o := o) (mf := mf) (wf := wf) (q := q) (L := 0) (a := a) (by decide) hi hk
  simp only [tri_up0] at this
  exact this
theorem ev0_X5_isOfKind5 {a : Int32} (hi : i < 8) (hk : f0 (5 + 5 * i) = 5) : xDv X false (d + 0) mX5_isOfKind [.ref (3 + 16 * 0 + i), .int a] (hp (tri f0 f1 f2) o mf wf q) [.int (if kof 5 a then 1 else 0)] (hp (tri f0 f1 f2) o mf wf q) := by
  have := ev_X5_isOfKind5 (X := X) (d := d) (lk := tri f0 f1 f2) (f := f0) (o := o) (mf := mf) (wf := wf) (q := q) (L := 0) (a := a) (by decide) hi hk
  simp only [tri_up0] at this
  exact this
theorem tri_up2 {f0 f1 f2 f : Nat → Int32} : hp (va_up (tri f0 f1 f2) 2 f) o mf wf q = hp (tri f0 f1 f) o mf wf q := rfl
theorem tri_self2 {f0 f1 f2 : Nat → Int32} : va_up (tri f0 f1 f2) 2 f2 = tri f0 f1 f2 := by
  funext L; match L with | 0 => rfl | 1 => rfl | 2 => rfl | L + 3 => rfl
theorem ev_bec_10 (ok : okN f0) : xDv X false (d + 1) mX1_become [.ref (1 + 16 * 1), .ref (1 + 16 * 0)] (hp (tri f0 f1 f2) o mf wf q) [] (hp (tri f0 (bcF f0 f1) f2) o mf wf q) := by
  have := ev_X1_become (X := X) (d := d) (lk := tri f0 f1 f2) (f := f1) (o := o) (mf := mf) (wf := wf) (q := q) (L := 1) (K := 0) (by decide) (by decide) (by decide) ok
  simp only [tri_up1] at this
  exact this
theorem ev_bec_01 (ok : okN f1) : xDv X false (d + 1) mX1_become [.ref (1 + 16 * 0), .ref (1 + 16 * 1)] (hp (tri f0 f1 f2) o mf wf q) [] (hp (tri (bcF f1 f0) f1 f2) o mf wf q) := by
  have := ev_X1_become (X := X) (d := d) (lk := tri f0 f1 f2) (f := f0) (o := o) (mf := mf) (wf := wf) (q := q) (L := 0) (K := 1) (by decide) (by decide) (by decide) ok
  simp only [tri_up0] at this
  exact this
theorem ev_bec_20 (ok : okN f0) : xDv X false (d + 1) mX1_become [.ref (1 + 16 * 2), .ref (1 + 16 * 0)] (hp (tri f0 f1 f2) o mf wf q) [] (hp (tri f0 f1 (bcF f0 f2)) o mf wf q) := by
  have := ev_X1_become (X := X) (d := d) (lk := tri f0 f1 f2) (f := f2) (o := o) (mf := mf) (wf := wf) (q := q) (L := 2) (K := 0) (by decide) (by decide) (by decide) ok
  simp only [tri_up2] at this
  exact this
theorem ev_bec_02 (ok : okN f2) : xDv X false (d + 1) mX1_become [.ref (1 + 16 * 0), .ref (1 + 16 * 2)] (hp (tri f0 f1 f2) o mf wf q) [] (hp (tri (bcF f2 f0) f1 f2) o mf wf q) := by
  have := ev_X1_become (X := X) (d := d) (lk := tri f0 f1 f2) (f := f0) (o := o) (mf := mf) (wf := wf) (q := q) (L := 0) (K := 2) (by decide) (by decide) (by decide) ok
  simp only [tri_up0] at this
  exact this
end
