section
variable {X : xS} {d : Nat} {lk : Nat → Nat → Int32} {o : xO} {mf wf : Nat → Int32} {q : xQ} {L : Nat} {t : Tk}
set_option maxRecDepth 100000 in
theorem ev_paY {w : Nat} (hL : q.2.2.2.2.2.2.1 = nI L) (hL2 : L ≤ 120) (okt : okT q.2.2.2.2.2.1 L t) (hw : w ≤ 23) (h : cd q.2.2.2.2.2.1 t = w) : xDv X false (d + 3) mX7_passes [.ref 62, .int (nI w)] (hp lk o mf wf (qX q t 0)) [.int 1] (hp lk o mf wf (qX q (nx q.2.2.2.2.2.1 L t) 0)) := by
  refine xDv.of (ls := [some (.ref 62), some (.int (nI w))]) mcX7_passes.1.2.2.2.2 (Nat.le_of_ble_eq_true rfl) rfl ?_
  refine xg_aload_n (pc := 0) dX7_passes_0 rfl ?_
  refine xg_get (pc := 1) dX7_passes_1 flX7_199 hp_62 rfl ?_
  refine xg_eq (show _ = (0 : Int32) from rfl) ?_
  refine xg_if_ne (pc := 4) (tgt := 15) dX7_passes_4 (by decide) (fun c_4 => absurd c_4 (by decide)) (fun c_4 => ?_)
  refine xg_aload_n (pc := 7) dX7_passes_7 rfl ?_
  refine xg_get (pc := 8) dX7_passes_8 flX7_192 hp_62 rfl ?_
  refine xg_eq (show _ = nI (cd q.2.2.2.2.2.1 t) from rfl) ?_
  refine xg_iload_n (pc := 11) dX7_passes_11 rfl ?_
  refine xg_icmp_eq (pc := 12) (tgt := 17) dX7_passes_12 (by decide) (fun c_12 => ?_) (fun c_12 => absurd c_12 (fun z => z (by rw [h])))
  refine xg_aload_n (pc := 17) dX7_passes_17 rfl ?_
  refine xg_cvV (pc := 18) (h1 := hp lk o mf wf (qX q (nx q.2.2.2.2.2.1 L t) 0)) (M' := mX7_reads) dX7_passes_18 lkX7_203 mcX7_reads hp_62 rfl (ev_rnx hL hL2 okt) rfl rfl (Nat.le_of_ble_eq_true rfl) ?_
  refine xg_iconst (v := 1) (pc := 21) dX7_passes_21 (by decide) ?_
  exact xg_zret (pc := 22) (ty := .boolean) dX7_passes_22 rfl rfl (⟨by rfl, rfl⟩)
set_option maxRecDepth 100000 in
theorem ev_paN {w : Nat} (hw : w ≤ 23) (h : ¬ cd q.2.2.2.2.2.1 t = w) : xDv X false (d + 3) mX7_passes [.ref 62, .int (nI w)] (hp lk o mf wf (qX q t 0)) [.int 0] (hp lk o mf wf (qX q t 0)) := by
  refine xDv.of (ls := [some (.ref 62), some (.int (nI w))]) mcX7_passes.1.2.2.2.2 (Nat.le_of_ble_eq_true rfl) rfl ?_
  refine xg_aload_n (pc := 0) dX7_passes_0 rfl ?_
  refine xg_get (pc := 1) dX7_passes_1 flX7_199 hp_62 rfl ?_
  refine xg_eq (show _ = (0 : Int32) from rfl) ?_
  refine xg_if_ne (pc := 4) (tgt := 15) dX7_passes_4 (by decide) (fun c_4 => absurd c_4 (by decide)) (fun c_4 => ?_)
  refine xg_aload_n (pc := 7) dX7_passes_7 rfl ?_
  refine xg_get (pc := 8) dX7_passes_8 flX7_192 hp_62 rfl ?_
  refine xg_eq (show _ = nI (cd q.2.2.2.2.2.1 t) from rfl) ?_
  refine xg_iload_n (pc := 11) dX7_passes_11 rfl ?_
  refine xg_icmp_eq (pc := 12) (tgt := 17) dX7_passes_12 (by decide) (fun c_12 => absurd c_12 (fun z => h ((nI_eq (by have := cd_le (b := q.2.2.2.2.2.1) (t := t); omega) (by omega)).mp z))) (fun c_12 => ?_)
  refine xg_iconst (v := 0) (pc := 15) dX7_passes_15 (by decide) ?_
  exact xg_zret (pc := 16) (ty := .boolean) dX7_passes_16 rfl rfl (⟨by rfl, rfl⟩)
set_option maxRecDepth 100000 in
theorem ev_paB {w : Int32} : xDv X false (d + 3) mX7_passes [.ref 62, .int w] (hp lk o mf wf (qX q t 1)) [.int 0] (hp lk o mf wf (qX q t 1)) := by
  refine xDv.of (ls := [some (.ref 62), some (.int w)]) mcX7_passes.1.2.2.2.2 (Nat.le_of_ble_eq_true rfl) rfl ?_
  refine xg_aload_n (pc := 0) dX7_passes_0 rfl ?_
  refine xg_get (pc := 1) dX7_passes_1 flX7_199 hp_62 rfl ?_
  refine xg_eq (show _ = (1 : Int32) from rfl) ?_
  refine xg_if_ne (pc := 4) (tgt := 15) dX7_passes_4 (by decide) (fun c_4 => ?_) (fun c_4 => absurd c_4 (by decide))
  refine xg_iconst (v := 0) (pc := 15) dX7_passes_15 (by decide) ?_
  exact xg_zret (pc := 16) (ty := .boolean) dX7_passes_16 rfl rfl (⟨by rfl, rfl⟩)
set_option maxRecDepth 100000 in
theorem ev_nuY {lo hi : Nat} (hL : q.2.2.2.2.2.2.1 = nI L) (hL2 : L ≤ 120) (okt : okT q.2.2.2.2.2.1 L t) (hhi : hi ≤ 99) (hlo : lo ≤ hi) (h : t.1 = 2 ∧ lo ≤ t.2.2.2 ∧ t.2.2.2 ≤ hi) : xDv X false (d + 3) mX7_number [.ref 62, .int (nI lo), .int (nI hi)] (hp lk o mf wf (qX q t 0)) [.int (nI t.2.2.2)] (hp lk o mf wf (qX q (nx q.2.2.2.2.2.1 L t) 0)) := by
  refine xDv.of (ls := [some (.ref 62), some (.int (nI lo)), some (.int (nI hi)), none]) mcX7_number.1.2.2.2.2 (Nat.le_of_ble_eq_true rfl) rfl ?_
  refine xg_aload_n (pc := 0) dX7_number_0 rfl ?_
  refine xg_get (pc := 1) dX7_number_1 flX7_189 hp_62 rfl ?_
  refine xg_eq (show _ = nI t.2.2.2 from rfl) ?_
  refine xg_istore_n (pc := 4) (ls' := [some (.ref 62), some (.int (nI lo)), some (.int (nI hi)), some (.int (nI t.2.2.2))]) dX7_number_4 (by decide) rfl ?_
  refine xg_aload_n (pc := 5) dX7_number_5 rfl ?_
  refine xg_aload_n (pc := 6) dX7_number_6 rfl ?_
  refine xg_get (pc := 7) dX7_number_7 flX7_199 hp_62 rfl ?_
  refine xg_eq (show _ = (0 : Int32) from rfl) ?_
  refine xg_if_ne (pc := 10) (tgt := 32) dX7_number_10 (by decide) (fun c_10 => absurd c_10 (by decide)) (fun c_10 => ?_)
  refine xg_aload_n (pc := 13) dX7_number_13 rfl ?_
  refine xg_get (pc := 14) dX7_number_14 flX7_192 hp_62 rfl ?_
  refine xg_eq (show _ = nI (cd q.2.2.2.2.2.1 t) from rfl) ?_
  refine xg_bipush (v := 20) (pc := 17) dX7_number_17 (by decide) ?_
  refine xg_icmp_ne (pc := 19) (tgt := 32) dX7_number_19 (by decide) (fun c_19 => absurd c_19 (fun z => z (by rw [cd_20.mpr h.1]; rfl))) (fun c_19 => ?_)
  refine xg_iload_n (pc := 22) dX7_number_22 rfl ?_
  refine xg_i2l (pc := 23) dX7_number_23 ?_
  refine xg_iload_n (pc := 24) dX7_number_24 rfl ?_
  refine xg_iload_n (pc := 25) dX7_number_25 rfl ?_
  refine xg_csI (pc := 26) (h1 := hp lk o mf wf (qX q t 0)) (x := if (nI lo) ≤ (nI t.2.2.2) ∧ (nI t.2.2.2) ≤ (nI hi) then 1 else 0) (M' := mX7_in) dX7_number_26 lkX7_48 mcX7_in (ev_in) rfl rfl (Nat.le_of_ble_eq_true rfl) ?_
  refine xg_bnz (pc := 29) (tgt := 36) dX7_number_29 (by decide) (fun c_29 => ?_) (fun c_29 => absurd c_29 (fun z => z ⟨nI_le h.2.1 (by omega), nI_le h.2.2 (by omega)⟩))
  refine xg_iconst (v := 0) (pc := 36) dX7_number_36 (by decide) ?_
  refine xg_put (pc := 37) (h' := hp lk o mf wf (qX q t 0)) dX7_number_37 flX7_199 (Or.inl rfl) hp_62 (fun _ => ⟨rfl, rfl⟩) (Nat.le_of_ble_eq_true rfl) hs_bd ?_
  refine xg_aload_n (pc := 40) dX7_number_40 rfl ?_
  refine xg_get (pc := 41) dX7_number_41 flX7_199 hp_62 rfl ?_
  refine xg_eq (show _ = (0 : Int32) from rfl) ?_
  refine xg_if_ne (pc := 44) (tgt := 51) dX7_number_44 (by decide) (fun c_44 => absurd c_44 (by decide)) (fun c_44 => ?_)
  refine xg_aload_n (pc := 47) dX7_number_47 rfl ?_
  refine xg_cvV (pc := 48) (h1 := hp lk o mf wf (qX q (nx q.2.2.2.2.2.1 L t) 0)) (M' := mX7_reads) dX7_number_48 lkX7_203 mcX7_reads hp_62 rfl (ev_rnx hL hL2 okt) rfl rfl (Nat.le_of_ble_eq_true rfl) ?_
  refine xg_iload_n (pc := 51) dX7_number_51 rfl ?_
  exact xg_iret (pc := 52) dX7_number_52 rfl (⟨by rfl, rfl⟩)
set_option maxRecDepth 100000 in
theorem ev_nuN {lo hi : Nat} (okt : okT q.2.2.2.2.2.1 L t) (hhi : hi ≤ 99) (hlo : lo ≤ hi) (h : ¬ (t.1 = 2 ∧ lo ≤ t.2.2.2 ∧ t.2.2.2 ≤ hi)) : xDv X false (d + 3) mX7_number [.ref 62, .int (nI lo), .int (nI hi)] (hp lk o mf wf (qX q t 0)) [.int (nI t.2.2.2)] (hp lk o mf wf (qX q t 1)) := by
  have hv9 := okt.2.2.1
  have hcl := cd_le (b := q.2.2.2.2.2.1) (t := t)
  refine xDv.of (ls := [some (.ref 62), some (.int (nI lo)), some (.int (nI hi)), none]) mcX7_number.1.2.2.2.2 (Nat.le_of_ble_eq_true rfl) rfl ?_
  refine xg_aload_n (pc := 0) dX7_number_0 rfl ?_
  refine xg_get (pc := 1) dX7_number_1 flX7_189 hp_62 rfl ?_
  refine xg_eq (show _ = nI t.2.2.2 from rfl) ?_
  refine xg_istore_n (pc := 4) (ls' := [some (.ref 62), some (.int (nI lo)), some (.int (nI hi)), some (.int (nI t.2.2.2))]) dX7_number_4 (by decide) rfl ?_
  refine xg_aload_n (pc := 5) dX7_number_5 rfl ?_
  refine xg_aload_n (pc := 6) dX7_number_6 rfl ?_
  refine xg_get (pc := 7) dX7_number_7 flX7_199 hp_62 rfl ?_
  refine xg_eq (show _ = (0 : Int32) from rfl) ?_
  refine xg_if_ne (pc := 10) (tgt := 32) dX7_number_10 (by decide) (fun c_10 => absurd c_10 (by decide)) (fun c_10 => ?_)
  refine xg_aload_n (pc := 13) dX7_number_13 rfl ?_
  refine xg_get (pc := 14) dX7_number_14 flX7_192 hp_62 rfl ?_
  refine xg_eq (show _ = nI (cd q.2.2.2.2.2.1 t) from rfl) ?_
  refine xg_bipush (v := 20) (pc := 17) dX7_number_17 (by decide) ?_
  refine xg_icmp_ne (pc := 19) (tgt := 32) dX7_number_19 (by decide) (fun c_19 => ?_) (fun c_19 => ?_)
  ·
    refine xg_iconst (v := 1) (pc := 32) dX7_number_32 (by decide) ?_
    refine xg_goto (pc := 33) (tgt := 37) dX7_number_33 (by decide) ?_
    refine xg_put (pc := 37) (h' := hp lk o mf wf (qX q t 1)) dX7_number_37 flX7_199 (Or.inl rfl) hp_62 (fun _ => ⟨rfl, rfl⟩) (Nat.le_of_ble_eq_true rfl) hs_bd ?_
    refine xg_aload_n (pc := 40) dX7_number_40 rfl ?_
    refine xg_get (pc := 41) dX7_number_41 flX7_199 hp_62 rfl ?_
    refine xg_eq (show _ = (1 : Int32) from rfl) ?_
    refine xg_if_ne (pc := 44) (tgt := 51) dX7_number_44 (by decide) (fun c_44 => ?_) (fun c_44 => absurd c_44 (by decide))
    refine xg_iload_n (pc := 51) dX7_number_51 rfl ?_
    exact xg_iret (pc := 52) dX7_number_52 rfl (⟨by rfl, rfl⟩)
  ·
    refine xg_iload_n (pc := 22) dX7_number_22 rfl ?_
    refine xg_i2l (pc := 23) dX7_number_23 ?_
    refine xg_iload_n (pc := 24) dX7_number_24 rfl ?_
    refine xg_iload_n (pc := 25) dX7_number_25 rfl ?_
    refine xg_csI (pc := 26) (h1 := hp lk o mf wf (qX q t 0)) (x := if (nI lo) ≤ (nI t.2.2.2) ∧ (nI t.2.2.2) ≤ (nI hi) then 1 else 0) (M' := mX7_in) dX7_number_26 lkX7_48 mcX7_in (ev_in) rfl rfl (Nat.le_of_ble_eq_true rfl) ?_
    refine xg_bnz (pc := 29) (tgt := 36) dX7_number_29 (by decide) (fun c_29 => absurd c_29 (fun z => h ⟨cd_20.mp ((nI_eq (b := 20) (by omega) (by omega)).mp c_19), (nI_leI (by omega) (by omega)).mp z.1, (nI_leI (by omega) (by omega)).mp z.2⟩)) (fun c_29 => ?_)
    refine xg_iconst (v := 1) (pc := 32) dX7_number_32 (by decide) ?_
    refine xg_goto (pc := 33) (tgt := 37) dX7_number_33 (by decide) ?_
    refine xg_put (pc := 37) (h' := hp lk o mf wf (qX q t 1)) dX7_number_37 flX7_199 (Or.inl rfl) hp_62 (fun _ => ⟨rfl, rfl⟩) (Nat.le_of_ble_eq_true rfl) hs_bd ?_
    refine xg_aload_n (pc := 40) dX7_number_40 rfl ?_
    refine xg_get (pc := 41) dX7_number_41 flX7_199 hp_62 rfl ?_
    refine xg_eq (show _ = (1 : Int32) from rfl) ?_
    refine xg_if_ne (pc := 44) (tgt := 51) dX7_number_44 (by decide) (fun c_44 => ?_) (fun c_44 => absurd c_44 (by decide))
    refine xg_iload_n (pc := 51) dX7_number_51 rfl ?_
    exact xg_iret (pc := 52) dX7_number_52 rfl (⟨by rfl, rfl⟩)
set_option maxRecDepth 100000 in
theorem ev_nuB {lo hi : Int32} : xDv X false (d + 3) mX7_number [.ref 62, .int lo, .int hi] (hp lk o mf wf (qX q t 1)) [.int (nI t.2.2.2)] (hp lk o mf wf (qX q t 1)) := by
  refine xDv.of (ls := [some (.ref 62), some (.int lo), some (.int hi), none]) mcX7_number.1.2.2.2.2 (Nat.le_of_ble_eq_true rfl) rfl ?_
  refine xg_aload_n (pc := 0) dX7_number_0 rfl ?_
  refine xg_get (pc := 1) dX7_number_1 flX7_189 hp_62 rfl ?_
  refine xg_eq (show _ = nI t.2.2.2 from rfl) ?_
  refine xg_istore_n (pc := 4) (ls' := [some (.ref 62), some (.int lo), some (.int hi), some (.int (nI t.2.2.2))]) dX7_number_4 (by decide) rfl ?_
  refine xg_aload_n (pc := 5) dX7_number_5 rfl ?_
  refine xg_aload_n (pc := 6) dX7_number_6 rfl ?_
  refine xg_get (pc := 7) dX7_number_7 flX7_199 hp_62 rfl ?_
  refine xg_eq (show _ = (1 : Int32) from rfl) ?_
  refine xg_if_ne (pc := 10) (tgt := 32) dX7_number_10 (by decide) (fun c_10 => ?_) (fun c_10 => absurd c_10 (by decide))
  refine xg_iconst (v := 1) (pc := 32) dX7_number_32 (by decide) ?_
  refine xg_goto (pc := 33) (tgt := 37) dX7_number_33 (by decide) ?_
  refine xg_put (pc := 37) (h' := hp lk o mf wf (qX q t 1)) dX7_number_37 flX7_199 (Or.inl rfl) hp_62 (fun _ => ⟨rfl, rfl⟩) (Nat.le_of_ble_eq_true rfl) hs_bd ?_
  refine xg_aload_n (pc := 40) dX7_number_40 rfl ?_
  refine xg_get (pc := 41) dX7_number_41 flX7_199 hp_62 rfl ?_
  refine xg_eq (show _ = (1 : Int32) from rfl) ?_
  refine xg_if_ne (pc := 44) (tgt := 51) dX7_number_44 (by decide) (fun c_44 => ?_) (fun c_44 => absurd c_44 (by decide))
  refine xg_iload_n (pc := 51) dX7_number_51 rfl ?_
  exact xg_iret (pc := 52) dX7_number_52 rfl (⟨by rfl, rfl⟩)
set_option maxRecDepth 100000 in
theorem ev_pe1 {w lo hi : Nat} {so : Int32} (hL : q.2.2.2.2.2.2.1 = nI L) (hL2 : L ≤ 120) (okt : okT q.2.2.2.2.2.1 L t) (hw : w ≤ 23) (hhi : hi ≤ 99) (hlo : lo ≤ hi) (hc : cd q.2.2.2.2.2.1 t = w) (hn : (nx q.2.2.2.2.2.1 L t).1 = 2 ∧ lo ≤ (nx q.2.2.2.2.2.1 L t).2.2.2 ∧ (nx q.2.2.2.2.2.1 L t).2.2.2 ≤ hi) : xDv X false (d + 4) mX7_perhaps [.ref 62, .int (nI w), .int (nI lo), .int (nI hi), .int so] (hp lk o mf wf (qX q t 0)) [.int ((nA q.2.2.2.2.2.1 L w lo hi so t).1)] (hp lk o mf wf (qX q ((nA q.2.2.2.2.2.1 L w lo hi so t).2) 0)) := by
  refine xDv.of (ls := [some (.ref 62), some (.int (nI w)), some (.int (nI lo)), some (.int (nI hi)), some (.int so)]) mcX7_perhaps.1.2.2.2.2 (Nat.le_of_ble_eq_true rfl) rfl ?_
  refine xg_aload_n (pc := 0) dX7_perhaps_0 rfl ?_
  refine xg_iload_n (pc := 1) dX7_perhaps_1 rfl ?_
  refine xg_cvI (pc := 2) (h1 := hp lk o mf wf (qX q (nx q.2.2.2.2.2.1 L t) 0)) (x := 1) (M' := mX7_passes) dX7_perhaps_2 lkX7_206 mcX7_passes hp_62 rfl (ev_paY hL hL2 okt hw hc) rfl rfl (Nat.le_of_ble_eq_true rfl) ?_
  refine xg_if_eq (pc := 5) (tgt := 17) dX7_perhaps_5 (by decide) (fun c_5 => absurd c_5 (by decide)) (fun c_5 => ?_)
  refine xg_aload_n (pc := 8) dX7_perhaps_8 rfl ?_
  refine xg_iload_n (pc := 9) dX7_perhaps_9 rfl ?_
  refine xg_iload_n (pc := 10) dX7_perhaps_10 rfl ?_
  refine xg_cvI (pc := 11) (h1 := hp lk o mf wf (qX q (nx q.2.2.2.2.2.1 L (nx q.2.2.2.2.2.1 L t)) 0)) (x := nI ((nx q.2.2.2.2.2.1 L t).2.2.2)) (M' := mX7_number) dX7_perhaps_11 lkX7_209 mcX7_number hp_62 rfl (ev_nuY hL hL2 (nx_ok okt).1 hhi hlo hn) rfl rfl (Nat.le_of_ble_eq_true rfl) ?_
  refine xg_goto (pc := 14) (tgt := 19) dX7_perhaps_14 (by decide) ?_
  exact xg_iret (pc := 19) dX7_perhaps_19 rfl (⟨by unfold nA nU; rw [if_pos hc, if_pos hn], by unfold nA nU; rw [if_pos hc, if_pos hn]⟩)
set_option maxRecDepth 100000 in
theorem ev_pe2 {w lo hi : Nat} {so : Int32} (hL : q.2.2.2.2.2.2.1 = nI L) (hL2 : L ≤ 120) (okt : okT q.2.2.2.2.2.1 L t) (hw : w ≤ 23) (hhi : hi ≤ 99) (hlo : lo ≤ hi) (hc : ¬ cd q.2.2.2.2.2.1 t = w) : xDv X false (d + 4) mX7_perhaps [.ref 62, .int (nI w), .int (nI lo), .int (nI hi), .int so] (hp lk o mf wf (qX q t 0)) [.int ((nA q.2.2.2.2.2.1 L w lo hi so t).1)] (hp lk o mf wf (qX q ((nA q.2.2.2.2.2.1 L w lo hi so t).2) 0)) := by
  refine xDv.of (ls := [some (.ref 62), some (.int (nI w)), some (.int (nI lo)), some (.int (nI hi)), some (.int so)]) mcX7_perhaps.1.2.2.2.2 (Nat.le_of_ble_eq_true rfl) rfl ?_
  refine xg_aload_n (pc := 0) dX7_perhaps_0 rfl ?_
  refine xg_iload_n (pc := 1) dX7_perhaps_1 rfl ?_
  refine xg_cvI (pc := 2) (h1 := hp lk o mf wf (qX q t 0)) (x := 0) (M' := mX7_passes) dX7_perhaps_2 lkX7_206 mcX7_passes hp_62 rfl (ev_paN hw hc) rfl rfl (Nat.le_of_ble_eq_true rfl) ?_
  refine xg_if_eq (pc := 5) (tgt := 17) dX7_perhaps_5 (by decide) (fun c_5 => ?_) (fun c_5 => absurd c_5 (by decide))
  refine xg_iload (pc := 17) dX7_perhaps_17 rfl ?_
  exact xg_iret (pc := 19) dX7_perhaps_19 rfl (⟨by unfold nA; rw [if_neg hc], by unfold nA; rw [if_neg hc]⟩)
set_option maxRecDepth 100000 in
theorem ev_pe3 {w lo hi : Nat} {so : Int32} (hL : q.2.2.2.2.2.2.1 = nI L) (hL2 : L ≤ 120) (okt : okT q.2.2.2.2.2.1 L t) (hw : w ≤ 23) (hhi : hi ≤ 99) (hlo : lo ≤ hi) (hc : cd q.2.2.2.2.2.1 t = w) (hn : ¬ ((nx q.2.2.2.2.2.1 L t).1 = 2 ∧ lo ≤ (nx q.2.2.2.2.2.1 L t).2.2.2 ∧ (nx q.2.2.2.2.2.1 L t).2.2.2 ≤ hi)) : xDv X false (d + 4) mX7_perhaps [.ref 62, .int (nI w), .int (nI lo), .int (nI hi), .int so] (hp lk o mf wf (qX q t 0)) [.int (nI ((nx q.2.2.2.2.2.1 L t).2.2.2))] (hp lk o mf wf (qX q ((nA q.2.2.2.2.2.1 L w lo hi so t).2) 1)) := by
  refine xDv.of (ls := [some (.ref 62), some (.int (nI w)), some (.int (nI lo)), some (.int (nI hi)), some (.int so)]) mcX7_perhaps.1.2.2.2.2 (Nat.le_of_ble_eq_true rfl) rfl ?_
  refine xg_aload_n (pc := 0) dX7_perhaps_0 rfl ?_
  refine xg_iload_n (pc := 1) dX7_perhaps_1 rfl ?_
  refine xg_cvI (pc := 2) (h1 := hp lk o mf wf (qX q (nx q.2.2.2.2.2.1 L t) 0)) (x := 1) (M' := mX7_passes) dX7_perhaps_2 lkX7_206 mcX7_passes hp_62 rfl (ev_paY hL hL2 okt hw hc) rfl rfl (Nat.le_of_ble_eq_true rfl) ?_
  refine xg_if_eq (pc := 5) (tgt := 17) dX7_perhaps_5 (by decide) (fun c_5 => absurd c_5 (by decide)) (fun c_5 => ?_)
  refine xg_aload_n (pc := 8) dX7_perhaps_8 rfl ?_
  refine xg_iload_n (pc := 9) dX7_perhaps_9 rfl ?_
  refine xg_iload_n (pc := 10) dX7_perhaps_10 rfl ?_
  refine xg_cvI (pc := 11) (h1 := hp lk o mf wf (qX q (nx q.2.2.2.2.2.1 L t) 1)) (x := nI ((nx q.2.2.2.2.2.1 L t).2.2.2)) (M' := mX7_number) dX7_perhaps_11 lkX7_209 mcX7_number hp_62 rfl (ev_nuN (nx_ok okt).1 hhi hlo hn) rfl rfl (Nat.le_of_ble_eq_true rfl) ?_
  refine xg_goto (pc := 14) (tgt := 19) dX7_perhaps_14 (by decide) ?_
  exact xg_iret (pc := 19) dX7_perhaps_19 rfl (⟨rfl, by unfold nA nU; rw [if_pos hc, if_neg hn]⟩)
theorem na_i {b : Nat → Int32} {w lo hi : Nat} {so : Int32} (hs : ¬ so = -1) (h99 : hi ≤ 99) : ((nA b L w lo hi so t).1 = -1) ↔ (cd b t = w ∧ ¬ ((nx b L t).1 = 2 ∧ lo ≤ (nx b L t).2.2.2 ∧ (nx b L t).2.2.2 ≤ hi)) := by
  unfold nA nU
  by_cases h : cd b t = w
  · rw [if_pos h]
    by_cases q : (nx b L t).1 = 2 ∧ lo ≤ (nx b L t).2.2.2 ∧ (nx b L t).2.2.2 ≤ hi
    · rw [if_pos q]
      refine ⟨fun z => ?_, fun z => absurd q z.2⟩
      exact absurd (show nI (nx b L t).2.2.2 < 0 from (show nI (nx b L t).2.2.2 = -1 from z) ▸ (by decide)) (nI_pos (by omega))
    · rw [if_neg q]
      exact ⟨fun _ => ⟨h, q⟩, fun _ => rfl⟩
  · rw [if_neg h]
    exact ⟨fun z => absurd z hs, fun z => absurd z.1 h⟩
theorem nu_i {b : Nat → Int32} {lo hi : Nat} (h99 : hi ≤ 99) : ((nU b L lo hi t).1 = -1) ↔ ¬ (t.1 = 2 ∧ lo ≤ t.2.2.2 ∧ t.2.2.2 ≤ hi) := by
  unfold nU
  by_cases q : t.1 = 2 ∧ lo ≤ t.2.2.2 ∧ t.2.2.2 ≤ hi
  · rw [if_pos q]
    refine ⟨fun z => ?_, fun z => absurd q z⟩
    exact absurd (show nI t.2.2.2 < 0 from (show nI t.2.2.2 = -1 from z) ▸ (by decide)) (nI_pos (by omega))
  · rw [if_neg q]
    exact ⟨fun _ => q, fun _ => rfl⟩
theorem ev_peY {w lo hi : Nat} {so : Int32} (hL : q.2.2.2.2.2.2.1 = nI L) (hL2 : L ≤ 120) (okt : okT q.2.2.2.2.2.1 L t) (hw : w ≤ 23) (hhi : hi ≤ 99) (hlo : lo ≤ hi) (hs : ¬ so = -1) (h : ¬ (nA q.2.2.2.2.2.1 L w lo hi so t).1 = -1) : xDv X false (d + 4) mX7_perhaps [.ref 62, .int (nI w), .int (nI lo), .int (nI hi), .int so] (hp lk o mf wf (qX q t 0)) [.int (nA q.2.2.2.2.2.1 L w lo hi so t).1] (hp lk o mf wf (qX q ((nA q.2.2.2.2.2.1 L w lo hi so t).2) 0)) := by
  by_cases hc : cd q.2.2.2.2.2.1 t = w
  · by_cases hn : (nx q.2.2.2.2.2.1 L t).1 = 2 ∧ lo ≤ (nx q.2.2.2.2.2.1 L t).2.2.2 ∧ (nx q.2.2.2.2.2.1 L t).2.2.2 ≤ hi
    · exact ev_pe1 hL hL2 okt hw hhi hlo hc hn
    · exact absurd ((na_i hs hhi).mpr ⟨hc, hn⟩) h
  · exact ev_pe2 hL hL2 okt hw hhi hlo hc
theorem ev_peN {w lo hi : Nat} {so : Int32} (hL : q.2.2.2.2.2.2.1 = nI L) (hL2 : L ≤ 120) (okt : okT q.2.2.2.2.2.1 L t) (hw : w ≤ 23) (hhi : hi ≤ 99) (hlo : lo ≤ hi) (hs : ¬ so = -1) (h : (nA q.2.2.2.2.2.1 L w lo hi so t).1 = -1) : xDv X false (d + 4) mX7_perhaps [.ref 62, .int (nI w), .int (nI lo), .int (nI hi), .int so] (hp lk o mf wf (qX q t 0)) [.int (nI (nx q.2.2.2.2.2.1 L t).2.2.2)] (hp lk o mf wf (qX q ((nA q.2.2.2.2.2.1 L w lo hi so t).2) 1)) :=
  have z := (na_i hs hhi).mp h
  ev_pe3 hL hL2 okt hw hhi hlo z.1 z.2
set_option maxRecDepth 100000 in
theorem ev_peB {w lo hi so : Int32} : xDv X false (d + 4) mX7_perhaps [.ref 62, .int w, .int lo, .int hi, .int so] (hp lk o mf wf (qX q t 1)) [.int so] (hp lk o mf wf (qX q t 1)) := by
  refine xDv.of (ls := [some (.ref 62), some (.int w), some (.int lo), some (.int hi), some (.int so)]) mcX7_perhaps.1.2.2.2.2 (Nat.le_of_ble_eq_true rfl) rfl ?_
  refine xg_aload_n (pc := 0) dX7_perhaps_0 rfl ?_
  refine xg_iload_n (pc := 1) dX7_perhaps_1 rfl ?_
  refine xg_cvI (pc := 2) (h1 := hp lk o mf wf (qX q t 1)) (x := 0) (M' := mX7_passes) dX7_perhaps_2 lkX7_206 mcX7_passes hp_62 rfl (ev_paB) rfl rfl (Nat.le_of_ble_eq_true rfl) ?_
  refine xg_if_eq (pc := 5) (tgt := 17) dX7_perhaps_5 (by decide) (fun c_5 => ?_) (fun c_5 => absurd c_5 (by decide))
  refine xg_iload (pc := 17) dX7_perhaps_17 rfl ?_
  exact xg_iret (pc := 19) dX7_perhaps_19 rfl (⟨by rfl, rfl⟩)
set_option maxRecDepth 100000 in
theorem bt_63 {k c : Int32}  : xGo X false (d + 5) 0 0 mX7_thingItem 63 [some (.ref 62), some (.int k), some (.int c), none, none, none] [] (hp lk o mf wf (qX q t 1)) (fun v h' => v = [] ∧ h' = hp lk o mf wf (qX q t 1)) := by
  refine xg_aload_n (pc := 63) dX7_thingItem_63 rfl ?_
  refine xg_bipush (v := 7) (pc := 64) dX7_thingItem_64 (by decide) ?_
  refine xg_iconst (v := 1) (pc := 66) dX7_thingItem_66 (by decide) ?_
  refine xg_bipush (v := 6) (pc := 67) dX7_thingItem_67 (by decide) ?_
  refine xg_iconst (v := 3) (pc := 69) dX7_thingItem_69 (by decide) ?_
  refine xg_cvI (pc := 70) (h1 := hp lk o mf wf (qX q t 1)) (x := 3) (M' := mX7_perhaps) dX7_thingItem_70 lkX7_212 mcX7_perhaps hp_62 rfl (ev_peB) rfl rfl (Nat.le_of_ble_eq_true rfl) ?_
  refine xg_istore_n (pc := 73) (ls' := [some (.ref 62), some (.int k), some (.int c), some (.int 3), none, none]) dX7_thingItem_73 (by decide) rfl ?_
  refine xg_aload_n (pc := 74) dX7_thingItem_74 rfl ?_
  refine xg_bipush (v := 8) (pc := 75) dX7_thingItem_75 (by decide) ?_
  refine xg_iconst (v := 0) (pc := 77) dX7_thingItem_77 (by decide) ?_
  refine xg_bipush (v := 99) (pc := 78) dX7_thingItem_78 (by decide) ?_
  refine xg_bipush (v := 40) (pc := 80) dX7_thingItem_80 (by decide) ?_
  refine xg_cvI (pc := 82) (h1 := hp lk o mf wf (qX q t 1)) (x := 40) (M' := mX7_perhaps) dX7_thingItem_82 lkX7_212 mcX7_perhaps hp_62 rfl (ev_peB) rfl rfl (Nat.le_of_ble_eq_true rfl) ?_
  refine xg_istore (pc := 85) (ls' := [some (.ref 62), some (.int k), some (.int c), some (.int 3), some (.int 40), none]) dX7_thingItem_85 (by decide) rfl ?_
  refine xg_aload_n (pc := 87) dX7_thingItem_87 rfl ?_
  refine xg_bipush (v := 9) (pc := 88) dX7_thingItem_88 (by decide) ?_
  refine xg_iconst (v := 0) (pc := 90) dX7_thingItem_90 (by decide) ?_
  refine xg_bipush (v := 9) (pc := 91) dX7_thingItem_91 (by decide) ?_
  refine xg_iconst (v := 1) (pc := 93) dX7_thingItem_93 (by decide) ?_
  refine xg_cvI (pc := 94) (h1 := hp lk o mf wf (qX q t 1)) (x := 1) (M' := mX7_perhaps) dX7_thingItem_94 lkX7_212 mcX7_perhaps hp_62 rfl (ev_peB) rfl rfl (Nat.le_of_ble_eq_true rfl) ?_
  refine xg_istore (pc := 97) (ls' := [some (.ref 62), some (.int k), some (.int c), some (.int 3), some (.int 40), some (.int 1)]) dX7_thingItem_97 (by decide) rfl ?_
  refine xg_aload_n (pc := 99) dX7_thingItem_99 rfl ?_
  refine xg_get (pc := 100) dX7_thingItem_100 flX7_199 hp_62 rfl ?_
  refine xg_eq (show _ = (1 : Int32) from rfl) ?_
  refine xg_if_ne (pc := 103) (tgt := 118) dX7_thingItem_103 (by decide) (fun c_103 => ?_) (fun c_103 => absurd c_103 (by decide))
  exact xg_ret (pc := 118) dX7_thingItem_118 rfl (⟨rfl, rfl⟩)
set_option maxRecDepth 100000 in
theorem bt_74 {k c h : Int32}  : xGo X false (d + 5) 0 0 mX7_thingItem 74 [some (.ref 62), some (.int k), some (.int c), some (.int h), none, none] [] (hp lk o mf wf (qX q t 1)) (fun v h' => v = [] ∧ h' = hp lk o mf wf (qX q t 1)) := by
  refine xg_aload_n (pc := 74) dX7_thingItem_74 rfl ?_
  refine xg_bipush (v := 8) (pc := 75) dX7_thingItem_75 (by decide) ?_
  refine xg_iconst (v := 0) (pc := 77) dX7_thingItem_77 (by decide) ?_
  refine xg_bipush (v := 99) (pc := 78) dX7_thingItem_78 (by decide) ?_
  refine xg_bipush (v := 40) (pc := 80) dX7_thingItem_80 (by decide) ?_
  refine xg_cvI (pc := 82) (h1 := hp lk o mf wf (qX q t 1)) (x := 40) (M' := mX7_perhaps) dX7_thingItem_82 lkX7_212 mcX7_perhaps hp_62 rfl (ev_peB) rfl rfl (Nat.le_of_ble_eq_true rfl) ?_
  refine xg_istore (pc := 85) (ls' := [some (.ref 62), some (.int k), some (.int c), some (.int h), some (.int 40), none]) dX7_thingItem_85 (by decide) rfl ?_
  refine xg_aload_n (pc := 87) dX7_thingItem_87 rfl ?_
  refine xg_bipush (v := 9) (pc := 88) dX7_thingItem_88 (by decide) ?_
  refine xg_iconst (v := 0) (pc := 90) dX7_thingItem_90 (by decide) ?_
  refine xg_bipush (v := 9) (pc := 91) dX7_thingItem_91 (by decide) ?_
  refine xg_iconst (v := 1) (pc := 93) dX7_thingItem_93 (by decide) ?_
  refine xg_cvI (pc := 94) (h1 := hp lk o mf wf (qX q t 1)) (x := 1) (M' := mX7_perhaps) dX7_thingItem_94 lkX7_212 mcX7_perhaps hp_62 rfl (ev_peB) rfl rfl (Nat.le_of_ble_eq_true rfl) ?_
  refine xg_istore (pc := 97) (ls' := [some (.ref 62), some (.int k), some (.int c), some (.int h), some (.int 40), some (.int 1)]) dX7_thingItem_97 (by decide) rfl ?_
  refine xg_aload_n (pc := 99) dX7_thingItem_99 rfl ?_
  refine xg_get (pc := 100) dX7_thingItem_100 flX7_199 hp_62 rfl ?_
  refine xg_eq (show _ = (1 : Int32) from rfl) ?_
  refine xg_if_ne (pc := 103) (tgt := 118) dX7_thingItem_103 (by decide) (fun c_103 => ?_) (fun c_103 => absurd c_103 (by decide))
  exact xg_ret (pc := 118) dX7_thingItem_118 rfl (⟨rfl, rfl⟩)
set_option maxRecDepth 100000 in
theorem bt_87 {k c h l : Int32}  : xGo X false (d + 5) 0 0 mX7_thingItem 87 [some (.ref 62), some (.int k), some (.int c), some (.int h), some (.int l), none] [] (hp lk o mf wf (qX q t 1)) (fun v h' => v = [] ∧ h' = hp lk o mf wf (qX q t 1)) := by
  refine xg_aload_n (pc := 87) dX7_thingItem_87 rfl ?_
  refine xg_bipush (v := 9) (pc := 88) dX7_thingItem_88 (by decide) ?_
  refine xg_iconst (v := 0) (pc := 90) dX7_thingItem_90 (by decide) ?_
  refine xg_bipush (v := 9) (pc := 91) dX7_thingItem_91 (by decide) ?_
  refine xg_iconst (v := 1) (pc := 93) dX7_thingItem_93 (by decide) ?_
  refine xg_cvI (pc := 94) (h1 := hp lk o mf wf (qX q t 1)) (x := 1) (M' := mX7_perhaps) dX7_thingItem_94 lkX7_212 mcX7_perhaps hp_62 rfl (ev_peB) rfl rfl (Nat.le_of_ble_eq_true rfl) ?_
  refine xg_istore (pc := 97) (ls' := [some (.ref 62), some (.int k), some (.int c), some (.int h), some (.int l), some (.int 1)]) dX7_thingItem_97 (by decide) rfl ?_
  refine xg_aload_n (pc := 99) dX7_thingItem_99 rfl ?_
  refine xg_get (pc := 100) dX7_thingItem_100 flX7_199 hp_62 rfl ?_
  refine xg_eq (show _ = (1 : Int32) from rfl) ?_
  refine xg_if_ne (pc := 103) (tgt := 118) dX7_thingItem_103 (by decide) (fun c_103 => ?_) (fun c_103 => absurd c_103 (by decide))
  exact xg_ret (pc := 118) dX7_thingItem_118 rfl (⟨rfl, rfl⟩)
set_option maxRecDepth 100000 in
theorem bt_99 {k c h l g : Int32}  : xGo X false (d + 5) 0 0 mX7_thingItem 99 [some (.ref 62), some (.int k), some (.int c), some (.int h), some (.int l), some (.int g)] [] (hp lk o mf wf (qX q t 1)) (fun v h' => v = [] ∧ h' = hp lk o mf wf (qX q t 1)) := by
  refine xg_aload_n (pc := 99) dX7_thingItem_99 rfl ?_
  refine xg_get (pc := 100) dX7_thingItem_100 flX7_199 hp_62 rfl ?_
  refine xg_eq (show _ = (1 : Int32) from rfl) ?_
  refine xg_if_ne (pc := 103) (tgt := 118) dX7_thingItem_103 (by decide) (fun c_103 => ?_) (fun c_103 => absurd c_103 (by decide))
  exact xg_ret (pc := 118) dX7_thingItem_118 rfl (⟨rfl, rfl⟩)
set_option maxRecDepth 100000 in
theorem gt_th4 {k c h l : Int32} (hL : q.2.2.2.2.2.2.1 = nI L) (hL2 : L ≤ 120) (okt : okT q.2.2.2.2.2.1 L t) (ok : okN mf) (h8 : nT mf < 8) : xGo X false (d + 5) 0 0 mX7_thingItem 87 [some (.ref 62), some (.int k), some (.int c), some (.int h), some (.int l), none] [] (hp lk o mf wf (qX q t 0)) (fun v h' => v = [] ∧ h' = hp lk o ((th4 q.2.2.2.2.2.1 L k c h l t mf).2.2) wf (qX q ((th4 q.2.2.2.2.2.1 L k c h l t mf).2.1) (bdO (th4 q.2.2.2.2.2.1 L k c h l t mf).1))) := by
  by_cases hg : (nA q.2.2.2.2.2.1 L 9 0 9 1 t).1 = -1
  · rw [show th4 q.2.2.2.2.2.1 L k c h l t mf = (0, (nA q.2.2.2.2.2.1 L 9 0 9 1 t).2, mf) from if_pos hg]
    refine xg_aload_n (pc := 87) dX7_thingItem_87 rfl ?_
    refine xg_bipush (v := 9) (pc := 88) dX7_thingItem_88 (by decide) ?_
    refine xg_iconst (v := 0) (pc := 90) dX7_thingItem_90 (by decide) ?_
    refine xg_bipush (v := 9) (pc := 91) dX7_thingItem_91 (by decide) ?_
    refine xg_iconst (v := 1) (pc := 93) dX7_thingItem_93 (by decide) ?_
    refine xg_cvI (pc := 94) (h1 := hp lk o mf wf (qX q ((nA q.2.2.2.2.2.1 L 9 0 9 1 t).2) 1)) (x := nI ((nx q.2.2.2.2.2.1 L t).2.2.2)) (M' := mX7_perhaps) dX7_thingItem_94 lkX7_212 mcX7_perhaps hp_62 rfl (ev_peN (w := 9) (lo := 0) (hi := 9) hL hL2 okt (by omega) (by omega) (by omega) (by decide) hg) rfl rfl (Nat.le_of_ble_eq_true rfl) ?_
    refine xg_istore (pc := 97) (ls' := [some (.ref 62), some (.int k), some (.int c), some (.int h), some (.int l), some (.int (nI ((nx q.2.2.2.2.2.1 L t).2.2.2)))]) dX7_thingItem_97 (by decide) rfl ?_
    exact bt_99
  · rw [show th4 q.2.2.2.2.2.1 L k c h l t mf = (1, (nA q.2.2.2.2.2.1 L 9 0 9 1 t).2, aT mf k c h l (nA q.2.2.2.2.2.1 L 9 0 9 1 t).1) from if_neg hg]
    refine xg_aload_n (pc := 87) dX7_thingItem_87 rfl ?_
    refine xg_bipush (v := 9) (pc := 88) dX7_thingItem_88 (by decide) ?_
    refine xg_iconst (v := 0) (pc := 90) dX7_thingItem_90 (by decide) ?_
    refine xg_bipush (v := 9) (pc := 91) dX7_thingItem_91 (by decide) ?_
    refine xg_iconst (v := 1) (pc := 93) dX7_thingItem_93 (by decide) ?_
    refine xg_cvI (pc := 94) (h1 := hp lk o mf wf (qX q ((nA q.2.2.2.2.2.1 L 9 0 9 1 t).2) 0)) (x := (nA q.2.2.2.2.2.1 L 9 0 9 1 t).1) (M' := mX7_perhaps) dX7_thingItem_94 lkX7_212 mcX7_perhaps hp_62 rfl (ev_peY (w := 9) (lo := 0) (hi := 9) hL hL2 okt (by omega) (by omega) (by omega) (by decide) hg) rfl rfl (Nat.le_of_ble_eq_true rfl) ?_
    refine xg_istore (pc := 97) (ls' := [some (.ref 62), some (.int k), some (.int c), some (.int h), some (.int l), some (.int ((nA q.2.2.2.2.2.1 L 9 0 9 1 t).1))]) dX7_thingItem_97 (by decide) rfl ?_
    refine xg_aload_n (pc := 99) dX7_thingItem_99 rfl ?_
    refine xg_get (pc := 100) dX7_thingItem_100 flX7_199 hp_62 rfl ?_
    refine xg_eq (show _ = (0 : Int32) from rfl) ?_
    refine xg_if_ne (pc := 103) (tgt := 118) dX7_thingItem_103 (by decide) (fun c_103 => absurd c_103 (by decide)) (fun c_103 => ?_)
    refine xg_aload_n (pc := 106) dX7_thingItem_106 rfl ?_
    refine xg_iload_n (pc := 107) dX7_thingItem_107 rfl ?_
    refine xg_iload_n (pc := 108) dX7_thingItem_108 rfl ?_
    refine xg_iload_n (pc := 109) dX7_thingItem_109 rfl ?_
    refine xg_iload (pc := 110) dX7_thingItem_110 rfl ?_
    refine xg_iload (pc := 112) dX7_thingItem_112 rfl ?_
    refine xg_cvI (pc := 114) (h1 := hp lk o (aT mf k c h l ((nA q.2.2.2.2.2.1 L 9 0 9 1 t).1)) wf (qX q ((nA q.2.2.2.2.2.1 L 9 0 9 1 t).2) 0)) (x := mf 3) (M' := mX7_comes) dX7_thingItem_114 lkX7_102 mcX7_comes hp_62 rfl (ev_X7_comes ok (by omega)) rfl rfl (Nat.le_of_ble_eq_true rfl) ?_
    refine xg_pop (pc := 117) dX7_thingItem_117 rfl ?_
    exact xg_ret (pc := 118) dX7_thingItem_118 rfl (⟨rfl, rfl⟩)
set_option maxRecDepth 100000 in
theorem gt_th3 {k c h : Int32} (hL : q.2.2.2.2.2.2.1 = nI L) (hL2 : L ≤ 120) (okt : okT q.2.2.2.2.2.1 L t) (ok : okN mf) (h8 : nT mf < 8) : xGo X false (d + 5) 0 0 mX7_thingItem 74 [some (.ref 62), some (.int k), some (.int c), some (.int h), none, none] [] (hp lk o mf wf (qX q t 0)) (fun v h' => v = [] ∧ h' = hp lk o ((th3 q.2.2.2.2.2.1 L k c h t mf).2.2) wf (qX q ((th3 q.2.2.2.2.2.1 L k c h t mf).2.1) (bdO (th3 q.2.2.2.2.2.1 L k c h t mf).1))) := by
  by_cases hg : (nA q.2.2.2.2.2.1 L 8 0 99 40 t).1 = -1
  · rw [show th3 q.2.2.2.2.2.1 L k c h t mf = (0, (nA q.2.2.2.2.2.1 L 8 0 99 40 t).2, mf) from if_pos hg]
    refine xg_aload_n (pc := 74) dX7_thingItem_74 rfl ?_
    refine xg_bipush (v := 8) (pc := 75) dX7_thingItem_75 (by decide) ?_
    refine xg_iconst (v := 0) (pc := 77) dX7_thingItem_77 (by decide) ?_
    refine xg_bipush (v := 99) (pc := 78) dX7_thingItem_78 (by decide) ?_
    refine xg_bipush (v := 40) (pc := 80) dX7_thingItem_80 (by decide) ?_
    refine xg_cvI (pc := 82) (h1 := hp lk o mf wf (qX q ((nA q.2.2.2.2.2.1 L 8 0 99 40 t).2) 1)) (x := nI ((nx q.2.2.2.2.2.1 L t).2.2.2)) (M' := mX7_perhaps) dX7_thingItem_82 lkX7_212 mcX7_perhaps hp_62 rfl (ev_peN (w := 8) (lo := 0) (hi := 99) hL hL2 okt (by omega) (by omega) (by omega) (by decide) hg) rfl rfl (Nat.le_of_ble_eq_true rfl) ?_
    refine xg_istore (pc := 85) (ls' := [some (.ref 62), some (.int k), some (.int c), some (.int h), some (.int (nI ((nx q.2.2.2.2.2.1 L t).2.2.2))), none]) dX7_thingItem_85 (by decide) rfl ?_
    exact bt_87
  · rw [show th3 q.2.2.2.2.2.1 L k c h t mf = th4 q.2.2.2.2.2.1 L k c h (nA q.2.2.2.2.2.1 L 8 0 99 40 t).1 (nA q.2.2.2.2.2.1 L 8 0 99 40 t).2 mf from if_neg hg]
    refine xg_aload_n (pc := 74) dX7_thingItem_74 rfl ?_
    refine xg_bipush (v := 8) (pc := 75) dX7_thingItem_75 (by decide) ?_
    refine xg_iconst (v := 0) (pc := 77) dX7_thingItem_77 (by decide) ?_
    refine xg_bipush (v := 99) (pc := 78) dX7_thingItem_78 (by decide) ?_
    refine xg_bipush (v := 40) (pc := 80) dX7_thingItem_80 (by decide) ?_
    refine xg_cvI (pc := 82) (h1 := hp lk o mf wf (qX q ((nA q.2.2.2.2.2.1 L 8 0 99 40 t).2) 0)) (x := (nA q.2.2.2.2.2.1 L 8 0 99 40 t).1) (M' := mX7_perhaps) dX7_thingItem_82 lkX7_212 mcX7_perhaps hp_62 rfl (ev_peY (w := 8) (lo := 0) (hi := 99) hL hL2 okt (by omega) (by omega) (by omega) (by decide) hg) rfl rfl (Nat.le_of_ble_eq_true rfl) ?_
    refine xg_istore (pc := 85) (ls' := [some (.ref 62), some (.int k), some (.int c), some (.int h), some (.int ((nA q.2.2.2.2.2.1 L 8 0 99 40 t).1)), none]) dX7_thingItem_85 (by decide) rfl ?_
    exact gt_th4 hL hL2 (nA_ok okt).1 ok h8
set_option maxRecDepth 100000 in
theorem gt_th2 {k c : Int32} (hL : q.2.2.2.2.2.2.1 = nI L) (hL2 : L ≤ 120) (okt : okT q.2.2.2.2.2.1 L t) (ok : okN mf) (h8 : nT mf < 8) : xGo X false (d + 5) 0 0 mX7_thingItem 63 [some (.ref 62), some (.int k), some (.int c), none, none, none] [] (hp lk o mf wf (qX q t 0)) (fun v h' => v = [] ∧ h' = hp lk o ((th2 q.2.2.2.2.2.1 L k c t mf).2.2) wf (qX q ((th2 q.2.2.2.2.2.1 L k c t mf).2.1) (bdO (th2 q.2.2.2.2.2.1 L k c t mf).1))) := by
  by_cases hg : (nA q.2.2.2.2.2.1 L 7 1 6 3 t).1 = -1
  · rw [show th2 q.2.2.2.2.2.1 L k c t mf = (0, (nA q.2.2.2.2.2.1 L 7 1 6 3 t).2, mf) from if_pos hg]
    refine xg_aload_n (pc := 63) dX7_thingItem_63 rfl ?_
    refine xg_bipush (v := 7) (pc := 64) dX7_thingItem_64 (by decide) ?_
    refine xg_iconst (v := 1) (pc := 66) dX7_thingItem_66 (by decide) ?_
    refine xg_bipush (v := 6) (pc := 67) dX7_thingItem_67 (by decide) ?_
    refine xg_iconst (v := 3) (pc := 69) dX7_thingItem_69 (by decide) ?_
    refine xg_cvI (pc := 70) (h1 := hp lk o mf wf (qX q ((nA q.2.2.2.2.2.1 L 7 1 6 3 t).2) 1)) (x := nI ((nx q.2.2.2.2.2.1 L t).2.2.2)) (M' := mX7_perhaps) dX7_thingItem_70 lkX7_212 mcX7_perhaps hp_62 rfl (ev_peN (w := 7) (lo := 1) (hi := 6) hL hL2 okt (by omega) (by omega) (by omega) (by decide) hg) rfl rfl (Nat.le_of_ble_eq_true rfl) ?_
    refine xg_istore_n (pc := 73) (ls' := [some (.ref 62), some (.int k), some (.int c), some (.int (nI ((nx q.2.2.2.2.2.1 L t).2.2.2))), none, none]) dX7_thingItem_73 (by decide) rfl ?_
    exact bt_74
  · rw [show th2 q.2.2.2.2.2.1 L k c t mf = th3 q.2.2.2.2.2.1 L k c (nA q.2.2.2.2.2.1 L 7 1 6 3 t).1 (nA q.2.2.2.2.2.1 L 7 1 6 3 t).2 mf from if_neg hg]
    refine xg_aload_n (pc := 63) dX7_thingItem_63 rfl ?_
    refine xg_bipush (v := 7) (pc := 64) dX7_thingItem_64 (by decide) ?_
    refine xg_iconst (v := 1) (pc := 66) dX7_thingItem_66 (by decide) ?_
    refine xg_bipush (v := 6) (pc := 67) dX7_thingItem_67 (by decide) ?_
    refine xg_iconst (v := 3) (pc := 69) dX7_thingItem_69 (by decide) ?_
    refine xg_cvI (pc := 70) (h1 := hp lk o mf wf (qX q ((nA q.2.2.2.2.2.1 L 7 1 6 3 t).2) 0)) (x := (nA q.2.2.2.2.2.1 L 7 1 6 3 t).1) (M' := mX7_perhaps) dX7_thingItem_70 lkX7_212 mcX7_perhaps hp_62 rfl (ev_peY (w := 7) (lo := 1) (hi := 6) hL hL2 okt (by omega) (by omega) (by omega) (by decide) hg) rfl rfl (Nat.le_of_ble_eq_true rfl) ?_
    refine xg_istore_n (pc := 73) (ls' := [some (.ref 62), some (.int k), some (.int c), some (.int ((nA q.2.2.2.2.2.1 L 7 1 6 3 t).1)), none, none]) dX7_thingItem_73 (by decide) rfl ?_
    exact gt_th3 hL hL2 (nA_ok okt).1 ok h8
set_option maxRecDepth 100000 in
theorem gt_th1 {k : Int32} (hL : q.2.2.2.2.2.2.1 = nI L) (hL2 : L ≤ 120) (okt : okT q.2.2.2.2.2.1 L t) (ok : okN mf) (h8 : nT mf < 8) : xGo X false (d + 5) 0 0 mX7_thingItem 37 [some (.ref 62), some (.int k), none, none, none, none] [] (hp lk o mf wf (qX q t 0)) (fun v h' => v = [] ∧ h' = hp lk o ((th1 q.2.2.2.2.2.1 L k t mf).2.2) wf (qX q ((th1 q.2.2.2.2.2.1 L k t mf).2.1) (bdO (th1 q.2.2.2.2.2.1 L k t mf).1))) := by
  by_cases hc : cd q.2.2.2.2.2.1 t = 6
  · by_cases hn : (nx q.2.2.2.2.2.1 L t).1 = 2 ∧ 0 ≤ (nx q.2.2.2.2.2.1 L t).2.2.2 ∧ (nx q.2.2.2.2.2.1 L t).2.2.2 ≤ 7
    · rw [show th1 q.2.2.2.2.2.1 L k t mf = th2 q.2.2.2.2.2.1 L k (nI (nx q.2.2.2.2.2.1 L t).2.2.2) (nx q.2.2.2.2.2.1 L (nx q.2.2.2.2.2.1 L t)) mf from by
        unfold th1; rw [show nA q.2.2.2.2.2.1 L 6 0 7 (-1) t = (nI (nx q.2.2.2.2.2.1 L t).2.2.2, nx q.2.2.2.2.2.1 L (nx q.2.2.2.2.2.1 L t)) from (if_pos hc).trans (if_pos hn)]; exact if_neg (fun z => absurd (show nI (nx q.2.2.2.2.2.1 L t).2.2.2 < 0 from by rw [show nI (nx q.2.2.2.2.2.1 L t).2.2.2 = -1 from z]; decide) (nI_pos (by have := (nx_ok okt).1.2.2.1; omega)))]
      refine xg_aload_n (pc := 37) dX7_thingItem_37 rfl ?_
      refine xg_aload_n (pc := 38) dX7_thingItem_38 rfl ?_
      refine xg_bipush (v := 6) (pc := 39) dX7_thingItem_39 (by decide) ?_
      refine xg_cvI (pc := 41) (h1 := hp lk o mf wf (qX q (nx q.2.2.2.2.2.1 L t) 0)) (x := 1) (M' := mX7_passes) dX7_thingItem_41 lkX7_206 mcX7_passes hp_62 rfl (ev_paY (w := 6) hL hL2 okt (by decide) hc) rfl rfl (Nat.le_of_ble_eq_true rfl) ?_
      refine xg_if_ne (pc := 44) (tgt := 51) dX7_thingItem_44 (by decide) (fun c_44 => ?_) (fun c_44 => absurd c_44 (by decide))
      refine xg_iconst (v := 0) (pc := 51) dX7_thingItem_51 (by decide) ?_
      refine xg_put (pc := 52) (h' := hp lk o mf wf (qX q (nx q.2.2.2.2.2.1 L t) 0)) dX7_thingItem_52 flX7_199 (Or.inl rfl) hp_62 (fun _ => ⟨rfl, rfl⟩) (Nat.le_of_ble_eq_true rfl) hs_bd ?_
      refine xg_aload_n (pc := 55) dX7_thingItem_55 rfl ?_
      refine xg_iconst (v := 0) (pc := 56) dX7_thingItem_56 (by decide) ?_
      refine xg_bipush (v := 7) (pc := 57) dX7_thingItem_57 (by decide) ?_
      refine xg_cvI (pc := 59) (h1 := hp lk o mf wf (qX q (nx q.2.2.2.2.2.1 L (nx q.2.2.2.2.2.1 L t)) 0)) (x := nI ((nx q.2.2.2.2.2.1 L t).2.2.2)) (M' := mX7_number) dX7_thingItem_59 lkX7_209 mcX7_number hp_62 rfl (ev_nuY (lo := 0) (hi := 7) hL hL2 (nx_ok okt).1 (by decide) (by decide) hn) rfl rfl (Nat.le_of_ble_eq_true rfl) ?_
      refine xg_istore_n (pc := 62) (ls' := [some (.ref 62), some (.int k), some (.int (nI ((nx q.2.2.2.2.2.1 L t).2.2.2))), none, none, none]) dX7_thingItem_62 (by decide) rfl ?_
      exact gt_th2 hL hL2 (nx_ok (nx_ok okt).1).1 ok h8
    · rw [show th1 q.2.2.2.2.2.1 L k t mf = (0, nx q.2.2.2.2.2.1 L t, mf) from by
        unfold th1; rw [show nA q.2.2.2.2.2.1 L 6 0 7 (-1) t = (-1, nx q.2.2.2.2.2.1 L t) from (if_pos hc).trans (if_neg hn)]; exact if_pos rfl]
      refine xg_aload_n (pc := 37) dX7_thingItem_37 rfl ?_
      refine xg_aload_n (pc := 38) dX7_thingItem_38 rfl ?_
      refine xg_bipush (v := 6) (pc := 39) dX7_thingItem_39 (by decide) ?_
      refine xg_cvI (pc := 41) (h1 := hp lk o mf wf (qX q (nx q.2.2.2.2.2.1 L t) 0)) (x := 1) (M' := mX7_passes) dX7_thingItem_41 lkX7_206 mcX7_passes hp_62 rfl (ev_paY (w := 6) hL hL2 okt (by decide) hc) rfl rfl (Nat.le_of_ble_eq_true rfl) ?_
      refine xg_if_ne (pc := 44) (tgt := 51) dX7_thingItem_44 (by decide) (fun c_44 => ?_) (fun c_44 => absurd c_44 (by decide))
      refine xg_iconst (v := 0) (pc := 51) dX7_thingItem_51 (by decide) ?_
      refine xg_put (pc := 52) (h' := hp lk o mf wf (qX q (nx q.2.2.2.2.2.1 L t) 0)) dX7_thingItem_52 flX7_199 (Or.inl rfl) hp_62 (fun _ => ⟨rfl, rfl⟩) (Nat.le_of_ble_eq_true rfl) hs_bd ?_
      refine xg_aload_n (pc := 55) dX7_thingItem_55 rfl ?_
      refine xg_iconst (v := 0) (pc := 56) dX7_thingItem_56 (by decide) ?_
      refine xg_bipush (v := 7) (pc := 57) dX7_thingItem_57 (by decide) ?_
      refine xg_cvI (pc := 59) (h1 := hp lk o mf wf (qX q (nx q.2.2.2.2.2.1 L t) 1)) (x := nI ((nx q.2.2.2.2.2.1 L t).2.2.2)) (M' := mX7_number) dX7_thingItem_59 lkX7_209 mcX7_number hp_62 rfl (ev_nuN (lo := 0) (hi := 7) (nx_ok okt).1 (by decide) (by decide) hn) rfl rfl (Nat.le_of_ble_eq_true rfl) ?_
      refine xg_istore_n (pc := 62) (ls' := [some (.ref 62), some (.int k), some (.int (nI ((nx q.2.2.2.2.2.1 L t).2.2.2))), none, none, none]) dX7_thingItem_62 (by decide) rfl ?_
      exact bt_63
  · rw [show th1 q.2.2.2.2.2.1 L k t mf = (0, t, mf) from by
      unfold th1; rw [show nA q.2.2.2.2.2.1 L 6 0 7 (-1) t = (-1, t) from if_neg hc]; exact if_pos rfl]
    refine xg_aload_n (pc := 37) dX7_thingItem_37 rfl ?_
    refine xg_aload_n (pc := 38) dX7_thingItem_38 rfl ?_
    refine xg_bipush (v := 6) (pc := 39) dX7_thingItem_39 (by decide) ?_
    refine xg_cvI (pc := 41) (h1 := hp lk o mf wf (qX q t 0)) (x := 0) (M' := mX7_passes) dX7_thingItem_41 lkX7_206 mcX7_passes hp_62 rfl (ev_paN (w := 6) (by decide) hc) rfl rfl (Nat.le_of_ble_eq_true rfl) ?_
    refine xg_if_ne (pc := 44) (tgt := 51) dX7_thingItem_44 (by decide) (fun c_44 => absurd c_44 (by decide)) (fun c_44 => ?_)
    refine xg_iconst (v := 1) (pc := 47) dX7_thingItem_47 (by decide) ?_
    refine xg_goto (pc := 48) (tgt := 52) dX7_thingItem_48 (by decide) ?_
    refine xg_put (pc := 52) (h' := hp lk o mf wf (qX q t 1)) dX7_thingItem_52 flX7_199 (Or.inl rfl) hp_62 (fun _ => ⟨rfl, rfl⟩) (Nat.le_of_ble_eq_true rfl) hs_bd ?_
    refine xg_aload_n (pc := 55) dX7_thingItem_55 rfl ?_
    refine xg_iconst (v := 0) (pc := 56) dX7_thingItem_56 (by decide) ?_
    refine xg_bipush (v := 7) (pc := 57) dX7_thingItem_57 (by decide) ?_
    refine xg_cvI (pc := 59) (h1 := hp lk o mf wf (qX q t 1)) (x := nI t.2.2.2) (M' := mX7_number) dX7_thingItem_59 lkX7_209 mcX7_number hp_62 rfl (ev_nuB) rfl rfl (Nat.le_of_ble_eq_true rfl) ?_
    refine xg_istore_n (pc := 62) (ls' := [some (.ref 62), some (.int k), some (.int (nI t.2.2.2)), none, none, none]) dX7_thingItem_62 (by decide) rfl ?_
    exact bt_63
set_option maxRecDepth 100000 in
theorem ev_X7_thingItem  (hL : q.2.2.2.2.2.2.1 = nI L) (hL2 : L ≤ 120) (okt : okT q.2.2.2.2.2.1 L t) (ok : okN mf) : xDv X false (d + 5) mX7_thingItem [.ref 62] (hp lk o mf wf (qX q t 0)) [] (hp lk o ((thI q.2.2.2.2.2.1 L (nI (cd q.2.2.2.2.2.1 t)) t mf).2.2) wf (qX q ((thI q.2.2.2.2.2.1 L (nI (cd q.2.2.2.2.2.1 t)) t mf).2.1) (bdO (thI q.2.2.2.2.2.1 L (nI (cd q.2.2.2.2.2.1 t)) t mf).1))) := by
  refine xDv.of (ls := [some (.ref 62), none, none, none, none, none]) mcX7_thingItem.1.2.2.2.2 (Nat.le_of_ble_eq_true rfl) rfl ?_
  refine xg_aload_n (pc := 0) dX7_thingItem_0 rfl ?_
  refine xg_get (pc := 1) dX7_thingItem_1 flX7_192 hp_62 rfl ?_
  refine xg_eq (show _ = nI (cd q.2.2.2.2.2.1 t) from rfl) ?_
  refine xg_istore_n (pc := 4) (ls' := [some (.ref 62), some (.int (nI (cd q.2.2.2.2.2.1 t))), none, none, none, none]) dX7_thingItem_4 (by decide) rfl ?_
  refine xg_aload_n (pc := 5) dX7_thingItem_5 rfl ?_
  refine xg_aload_n (pc := 6) dX7_thingItem_6 rfl ?_
  refine xg_get (pc := 7) dX7_thingItem_7 flX7_9 hp_62 rfl ?_
  refine xg_iconst (v := 3) (pc := 10) dX7_thingItem_10 (by decide) ?_
  refine xg_iald (pc := 11) 3 dX7_thingItem_11 hp_63 rfl (by omega) (by decide) ?_
  refine xg_bipush (v := 8) (pc := 12) dX7_thingItem_12 (by decide) ?_
  refine xg_icmp_ne (pc := 14) (tgt := 21) dX7_thingItem_14 (by decide) (fun c_14 => ?_) (fun c_14 => ?_)
  ·
    refine xg_iconst (v := 0) (pc := 21) dX7_thingItem_21 (by decide) ?_
    refine xg_put (pc := 22) (h' := hp lk o mf wf (qX q t 0)) dX7_thingItem_22 flX7_199 (Or.inl rfl) hp_62 (fun _ => ⟨rfl, rfl⟩) (Nat.le_of_ble_eq_true rfl) hs_bd ?_
    refine xg_aload_n (pc := 25) dX7_thingItem_25 rfl ?_
    refine xg_get (pc := 26) dX7_thingItem_26 flX7_199 hp_62 rfl ?_
    refine xg_eq (show _ = (0 : Int32) from rfl) ?_
    refine xg_if_eq (pc := 29) (tgt := 33) dX7_thingItem_29 (by decide) (fun c_29 => ?_) (fun c_29 => absurd c_29 (by decide))
    refine xg_aload_n (pc := 33) dX7_thingItem_33 rfl ?_
    refine xg_cvV (pc := 34) (h1 := hp lk o mf wf (qX q (nx q.2.2.2.2.2.1 L t) 0)) (M' := mX7_reads) dX7_thingItem_34 lkX7_203 mcX7_reads hp_62 rfl (ev_rnx hL hL2 okt) rfl rfl (Nat.le_of_ble_eq_true rfl) ?_
    rw [show thI q.2.2.2.2.2.1 L (nI (cd q.2.2.2.2.2.1 t)) t mf = th1 q.2.2.2.2.2.1 L (nI (cd q.2.2.2.2.2.1 t)) (nx q.2.2.2.2.2.1 L t) mf from if_neg (lt8_of ok (ne_of8 ok c_14))]
    exact gt_th1 hL hL2 (nx_ok okt).1 ok (ne_of8 ok c_14)
  ·
    refine xg_iconst (v := 1) (pc := 17) dX7_thingItem_17 (by decide) ?_
    refine xg_goto (pc := 18) (tgt := 22) dX7_thingItem_18 (by decide) ?_
    refine xg_put (pc := 22) (h' := hp lk o mf wf (qX q t 1)) dX7_thingItem_22 flX7_199 (Or.inl rfl) hp_62 (fun _ => ⟨rfl, rfl⟩) (Nat.le_of_ble_eq_true rfl) hs_bd ?_
    refine xg_aload_n (pc := 25) dX7_thingItem_25 rfl ?_
    refine xg_get (pc := 26) dX7_thingItem_26 flX7_199 hp_62 rfl ?_
    refine xg_eq (show _ = (1 : Int32) from rfl) ?_
    refine xg_if_eq (pc := 29) (tgt := 33) dX7_thingItem_29 (by decide) (fun c_29 => absurd c_29 (by decide)) (fun c_29 => ?_)
    exact xg_ret (pc := 32) dX7_thingItem_32 rfl (⟨rfl, by rw [show thI q.2.2.2.2.2.1 L (nI (cd q.2.2.2.2.2.1 t)) t mf = (0, t, mf) from if_pos (by rw [c_14]; decide)]; rfl⟩)
set_option maxRecDepth 100000 in
theorem bb_39 {c : Int32}  : xGo X false (d + 5) 0 0 mX7_boatItem 39 [some (.ref 62), some (.int c), none] [] (hp lk o mf wf (qX q t 1)) (fun v h' => v = [] ∧ h' = hp lk o mf wf (qX q t 1)) := by
  refine xg_aload_n (pc := 39) dX7_boatItem_39 rfl ?_
  refine xg_bipush (v := 11) (pc := 40) dX7_boatItem_40 (by decide) ?_
  refine xg_iconst (v := 0) (pc := 42) dX7_boatItem_42 (by decide) ?_
  refine xg_bipush (v := 99) (pc := 43) dX7_boatItem_43 (by decide) ?_
  refine xg_bipush (v := 10) (pc := 45) dX7_boatItem_45 (by decide) ?_
  refine xg_cvI (pc := 47) (h1 := hp lk o mf wf (qX q t 1)) (x := 10) (M' := mX7_perhaps) dX7_boatItem_47 lkX7_212 mcX7_perhaps hp_62 rfl (ev_peB) rfl rfl (Nat.le_of_ble_eq_true rfl) ?_
  refine xg_istore_n (pc := 50) (ls' := [some (.ref 62), some (.int c), some (.int 10)]) dX7_boatItem_50 (by decide) rfl ?_
  refine xg_aload_n (pc := 51) dX7_boatItem_51 rfl ?_
  refine xg_get (pc := 52) dX7_boatItem_52 flX7_199 hp_62 rfl ?_
  refine xg_eq (show _ = (1 : Int32) from rfl) ?_
  refine xg_if_ne (pc := 55) (tgt := 65) dX7_boatItem_55 (by decide) (fun c_55 => ?_) (fun c_55 => absurd c_55 (by decide))
  exact xg_ret (pc := 65) dX7_boatItem_65 rfl (⟨rfl, rfl⟩)
set_option maxRecDepth 100000 in
theorem bb_51 {c g : Int32}  : xGo X false (d + 5) 0 0 mX7_boatItem 51 [some (.ref 62), some (.int c), some (.int g)] [] (hp lk o mf wf (qX q t 1)) (fun v h' => v = [] ∧ h' = hp lk o mf wf (qX q t 1)) := by
  refine xg_aload_n (pc := 51) dX7_boatItem_51 rfl ?_
  refine xg_get (pc := 52) dX7_boatItem_52 flX7_199 hp_62 rfl ?_
  refine xg_eq (show _ = (1 : Int32) from rfl) ?_
  refine xg_if_ne (pc := 55) (tgt := 65) dX7_boatItem_55 (by decide) (fun c_55 => ?_) (fun c_55 => absurd c_55 (by decide))
  exact xg_ret (pc := 65) dX7_boatItem_65 rfl (⟨rfl, rfl⟩)
set_option maxRecDepth 100000 in
theorem gt_bo2 {c : Int32} (hL : q.2.2.2.2.2.2.1 = nI L) (hL2 : L ≤ 120) (okt : okT q.2.2.2.2.2.1 L t) (ok : okN mf) (h5 : nB mf < 5) : xGo X false (d + 5) 0 0 mX7_boatItem 39 [some (.ref 62), some (.int c), none] [] (hp lk o mf wf (qX q t 0)) (fun v h' => v = [] ∧ h' = hp lk o ((bo2 q.2.2.2.2.2.1 L c t mf).2.2) wf (qX q ((bo2 q.2.2.2.2.2.1 L c t mf).2.1) (bdO (bo2 q.2.2.2.2.2.1 L c t mf).1))) := by
  by_cases hg : (nA q.2.2.2.2.2.1 L 11 0 99 10 t).1 = -1
  · rw [show bo2 q.2.2.2.2.2.1 L c t mf = (0, (nA q.2.2.2.2.2.1 L 11 0 99 10 t).2, mf) from if_pos hg]
    refine xg_aload_n (pc := 39) dX7_boatItem_39 rfl ?_
    refine xg_bipush (v := 11) (pc := 40) dX7_boatItem_40 (by decide) ?_
    refine xg_iconst (v := 0) (pc := 42) dX7_boatItem_42 (by decide) ?_
    refine xg_bipush (v := 99) (pc := 43) dX7_boatItem_43 (by decide) ?_
    refine xg_bipush (v := 10) (pc := 45) dX7_boatItem_45 (by decide) ?_
    refine xg_cvI (pc := 47) (h1 := hp lk o mf wf (qX q ((nA q.2.2.2.2.2.1 L 11 0 99 10 t).2) 1)) (x := nI ((nx q.2.2.2.2.2.1 L t).2.2.2)) (M' := mX7_perhaps) dX7_boatItem_47 lkX7_212 mcX7_perhaps hp_62 rfl (ev_peN (w := 11) (lo := 0) (hi := 99) hL hL2 okt (by omega) (by omega) (by omega) (by decide) hg) rfl rfl (Nat.le_of_ble_eq_true rfl) ?_
    refine xg_istore_n (pc := 50) (ls' := [some (.ref 62), some (.int c), some (.int (nI ((nx q.2.2.2.2.2.1 L t).2.2.2)))]) dX7_boatItem_50 (by decide) rfl ?_
    exact bb_51
  · rw [show bo2 q.2.2.2.2.2.1 L c t mf = (1, (nA q.2.2.2.2.2.1 L 11 0 99 10 t).2, aB mf c (nA q.2.2.2.2.2.1 L 11 0 99 10 t).1) from if_neg hg]
    refine xg_aload_n (pc := 39) dX7_boatItem_39 rfl ?_
    refine xg_bipush (v := 11) (pc := 40) dX7_boatItem_40 (by decide) ?_
    refine xg_iconst (v := 0) (pc := 42) dX7_boatItem_42 (by decide) ?_
    refine xg_bipush (v := 99) (pc := 43) dX7_boatItem_43 (by decide) ?_
    refine xg_bipush (v := 10) (pc := 45) dX7_boatItem_45 (by decide) ?_
    refine xg_cvI (pc := 47) (h1 := hp lk o mf wf (qX q ((nA q.2.2.2.2.2.1 L 11 0 99 10 t).2) 0)) (x := (nA q.2.2.2.2.2.1 L 11 0 99 10 t).1) (M' := mX7_perhaps) dX7_boatItem_47 lkX7_212 mcX7_perhaps hp_62 rfl (ev_peY (w := 11) (lo := 0) (hi := 99) hL hL2 okt (by omega) (by omega) (by omega) (by decide) hg) rfl rfl (Nat.le_of_ble_eq_true rfl) ?_
    refine xg_istore_n (pc := 50) (ls' := [some (.ref 62), some (.int c), some (.int ((nA q.2.2.2.2.2.1 L 11 0 99 10 t).1))]) dX7_boatItem_50 (by decide) rfl ?_
    refine xg_aload_n (pc := 51) dX7_boatItem_51 rfl ?_
    refine xg_get (pc := 52) dX7_boatItem_52 flX7_199 hp_62 rfl ?_
    refine xg_eq (show _ = (0 : Int32) from rfl) ?_
    refine xg_if_ne (pc := 55) (tgt := 65) dX7_boatItem_55 (by decide) (fun c_55 => absurd c_55 (by decide)) (fun c_55 => ?_)
    refine xg_aload_n (pc := 58) dX7_boatItem_58 rfl ?_
    refine xg_iload_n (pc := 59) dX7_boatItem_59 rfl ?_
    refine xg_iload_n (pc := 60) dX7_boatItem_60 rfl ?_
    refine xg_cvI (pc := 61) (h1 := hp lk o (aB mf c ((nA q.2.2.2.2.2.1 L 11 0 99 10 t).1)) wf (qX q ((nA q.2.2.2.2.2.1 L 11 0 99 10 t).2) 0)) (x := mf 4) (M' := mX7_comesBoat) dX7_boatItem_61 lkX7_114 mcX7_comesBoat hp_62 rfl (ev_X7_comesBoat ok (by omega)) rfl rfl (Nat.le_of_ble_eq_true rfl) ?_
    refine xg_pop (pc := 64) dX7_boatItem_64 rfl ?_
    exact xg_ret (pc := 65) dX7_boatItem_65 rfl (⟨rfl, rfl⟩)
set_option maxRecDepth 100000 in
theorem ev_X7_boatItem  (hL : q.2.2.2.2.2.2.1 = nI L) (hL2 : L ≤ 120) (okt : okT q.2.2.2.2.2.1 L t) (ok : okN mf) : xDv X false (d + 5) mX7_boatItem [.ref 62] (hp lk o mf wf (qX q t 0)) [] (hp lk o ((boI q.2.2.2.2.2.1 L t mf).2.2) wf (qX q ((boI q.2.2.2.2.2.1 L t mf).2.1) (bdO (boI q.2.2.2.2.2.1 L t mf).1))) := by
  refine xDv.of (ls := [some (.ref 62), none, none]) mcX7_boatItem.1.2.2.2.2 (Nat.le_of_ble_eq_true rfl) rfl ?_
  refine xg_aload_n (pc := 0) dX7_boatItem_0 rfl ?_
  refine xg_aload_n (pc := 1) dX7_boatItem_1 rfl ?_
  refine xg_get (pc := 2) dX7_boatItem_2 flX7_9 hp_62 rfl ?_
  refine xg_iconst (v := 4) (pc := 5) dX7_boatItem_5 (by decide) ?_
  refine xg_iald (pc := 6) 4 dX7_boatItem_6 hp_63 rfl (by omega) (by decide) ?_
  refine xg_iconst (v := 5) (pc := 7) dX7_boatItem_7 (by decide) ?_
  refine xg_icmp_ne (pc := 8) (tgt := 15) dX7_boatItem_8 (by decide) (fun c_8 => ?_) (fun c_8 => ?_)
  ·
    refine xg_iconst (v := 0) (pc := 15) dX7_boatItem_15 (by decide) ?_
    refine xg_put (pc := 16) (h' := hp lk o mf wf (qX q t 0)) dX7_boatItem_16 flX7_199 (Or.inl rfl) hp_62 (fun _ => ⟨rfl, rfl⟩) (Nat.le_of_ble_eq_true rfl) hs_bd ?_
    refine xg_aload_n (pc := 19) dX7_boatItem_19 rfl ?_
    refine xg_get (pc := 20) dX7_boatItem_20 flX7_199 hp_62 rfl ?_
    refine xg_eq (show _ = (0 : Int32) from rfl) ?_
    refine xg_if_eq (pc := 23) (tgt := 27) dX7_boatItem_23 (by decide) (fun c_23 => ?_) (fun c_23 => absurd c_23 (by decide))
    refine xg_aload_n (pc := 27) dX7_boatItem_27 rfl ?_
    refine xg_cvV (pc := 28) (h1 := hp lk o mf wf (qX q (nx q.2.2.2.2.2.1 L t) 0)) (M' := mX7_reads) dX7_boatItem_28 lkX7_203 mcX7_reads hp_62 rfl (ev_rnx hL hL2 okt) rfl rfl (Nat.le_of_ble_eq_true rfl) ?_
    by_cases hn : (nx q.2.2.2.2.2.1 L t).1 = 2 ∧ 0 ≤ (nx q.2.2.2.2.2.1 L t).2.2.2 ∧ (nx q.2.2.2.2.2.1 L t).2.2.2 ≤ 47
    ·
      refine xg_aload_n (pc := 31) dX7_boatItem_31 rfl ?_
      refine xg_iconst (v := 0) (pc := 32) dX7_boatItem_32 (by decide) ?_
      refine xg_bipush (v := 47) (pc := 33) dX7_boatItem_33 (by decide) ?_
      refine xg_cvI (pc := 35) (h1 := hp lk o mf wf (qX q (nx q.2.2.2.2.2.1 L (nx q.2.2.2.2.2.1 L t)) 0)) (x := nI ((nx q.2.2.2.2.2.1 L t).2.2.2)) (M' := mX7_number) dX7_boatItem_35 lkX7_209 mcX7_number hp_62 rfl (ev_nuY (lo := 0) (hi := 47) hL hL2 (nx_ok okt).1 (by decide) (by decide) hn) rfl rfl (Nat.le_of_ble_eq_true rfl) ?_
      refine xg_istore_n (pc := 38) (ls' := [some (.ref 62), some (.int (nI ((nx q.2.2.2.2.2.1 L t).2.2.2))), none]) dX7_boatItem_38 (by decide) rfl ?_
      rw [show boI q.2.2.2.2.2.1 L t mf = bo2 q.2.2.2.2.2.1 L (nI (nx q.2.2.2.2.2.1 L t).2.2.2) (nx q.2.2.2.2.2.1 L (nx q.2.2.2.2.2.1 L t)) mf from by
      unfold boI; rw [show nU q.2.2.2.2.2.1 L 0 47 (nx q.2.2.2.2.2.1 L t) = (nI (nx q.2.2.2.2.2.1 L t).2.2.2, nx q.2.2.2.2.2.1 L (nx q.2.2.2.2.2.1 L t)) from if_pos hn, if_neg (lt5_of ok (ne_of5 ok c_8))]; exact if_neg (fun z => absurd (show nI (nx q.2.2.2.2.2.1 L t).2.2.2 < 0 from by rw [show nI (nx q.2.2.2.2.2.1 L t).2.2.2 = -1 from z]; decide) (nI_pos (by have := (nx_ok okt).1.2.2.1; omega)))]
      exact gt_bo2 hL hL2 (nx_ok (nx_ok okt).1).1 ok (ne_of5 ok c_8)
    ·
      refine xg_aload_n (pc := 31) dX7_boatItem_31 rfl ?_
      refine xg_iconst (v := 0) (pc := 32) dX7_boatItem_32 (by decide) ?_
      refine xg_bipush (v := 47) (pc := 33) dX7_boatItem_33 (by decide) ?_
      refine xg_cvI (pc := 35) (h1 := hp lk o mf wf (qX q (nx q.2.2.2.2.2.1 L t) 1)) (x := nI ((nx q.2.2.2.2.2.1 L t).2.2.2)) (M' := mX7_number) dX7_boatItem_35 lkX7_209 mcX7_number hp_62 rfl (ev_nuN (lo := 0) (hi := 47) (nx_ok okt).1 (by decide) (by decide) hn) rfl rfl (Nat.le_of_ble_eq_true rfl) ?_
      refine xg_istore_n (pc := 38) (ls' := [some (.ref 62), some (.int (nI ((nx q.2.2.2.2.2.1 L t).2.2.2))), none]) dX7_boatItem_38 (by decide) rfl ?_
      rw [show boI q.2.2.2.2.2.1 L t mf = (0, nx q.2.2.2.2.2.1 L t, mf) from by
      unfold boI; rw [show nU q.2.2.2.2.2.1 L 0 47 (nx q.2.2.2.2.2.1 L t) = (-1, nx q.2.2.2.2.2.1 L t) from if_neg hn, if_neg (lt5_of ok (ne_of5 ok c_8))]; exact if_pos rfl]
      exact bb_39
  ·
    refine xg_iconst (v := 1) (pc := 11) dX7_boatItem_11 (by decide) ?_
    refine xg_goto (pc := 12) (tgt := 16) dX7_boatItem_12 (by decide) ?_
    refine xg_put (pc := 16) (h' := hp lk o mf wf (qX q t 1)) dX7_boatItem_16 flX7_199 (Or.inl rfl) hp_62 (fun _ => ⟨rfl, rfl⟩) (Nat.le_of_ble_eq_true rfl) hs_bd ?_
    refine xg_aload_n (pc := 19) dX7_boatItem_19 rfl ?_
    refine xg_get (pc := 20) dX7_boatItem_20 flX7_199 hp_62 rfl ?_
    refine xg_eq (show _ = (1 : Int32) from rfl) ?_
    refine xg_if_eq (pc := 23) (tgt := 27) dX7_boatItem_23 (by decide) (fun c_23 => absurd c_23 (by decide)) (fun c_23 => ?_)
    exact xg_ret (pc := 26) dX7_boatItem_26 rfl (⟨rfl, by rw [show boI q.2.2.2.2.2.1 L t mf = (0, t, mf) from if_pos (by rw [c_8]; decide)]; rfl⟩)
set_option maxRecDepth 100000 in
theorem ev_wi1  (hL : q.2.2.2.2.2.2.1 = nI L) (hL2 : L ≤ 120) (okt : okT q.2.2.2.2.2.1 L t) : xDv X false (d + 4) mX7_windItem [.ref 62, .int 1] (hp lk o mf wf (qX q (nx q.2.2.2.2.2.1 L t) 0)) [] (hp lk o ((rpI q.2.2.2.2.2.1 L 1 t mf).2.2) wf (qX q ((rpI q.2.2.2.2.2.1 L 1 t mf).2.1) (bdO (rpI q.2.2.2.2.2.1 L 1 t mf).1))) := by
  refine xDv.of (ls := [some (.ref 62), some (.int 1), none]) mcX7_windItem.1.2.2.2.2 (Nat.le_of_ble_eq_true rfl) rfl ?_
  by_cases hn : (nx q.2.2.2.2.2.1 L t).1 = 2 ∧ 0 ≤ (nx q.2.2.2.2.2.1 L t).2.2.2 ∧ (nx q.2.2.2.2.2.1 L t).2.2.2 ≤ 7
  ·
    refine xg_aload_n (pc := 0) dX7_windItem_0 rfl ?_
    refine xg_iconst (v := 0) (pc := 1) dX7_windItem_1 (by decide) ?_
    refine xg_bipush (v := 7) (pc := 2) dX7_windItem_2 (by decide) ?_
    refine xg_cvI (pc := 4) (h1 := hp lk o mf wf (qX q (nx q.2.2.2.2.2.1 L (nx q.2.2.2.2.2.1 L t)) 0)) (x := nI ((nx q.2.2.2.2.2.1 L t).2.2.2)) (M' := mX7_number) dX7_windItem_4 lkX7_209 mcX7_number hp_62 rfl (ev_nuY (lo := 0) (hi := 7) hL hL2 (nx_ok okt).1 (by decide) (by decide) hn) rfl rfl (Nat.le_of_ble_eq_true rfl) ?_
    refine xg_istore_n (pc := 7) (ls' := [some (.ref 62), some (.int 1), some (.int (nI ((nx q.2.2.2.2.2.1 L t).2.2.2)))]) dX7_windItem_7 (by decide) rfl ?_
    refine xg_aload_n (pc := 8) dX7_windItem_8 rfl ?_
    refine xg_get (pc := 9) dX7_windItem_9 flX7_199 hp_62 rfl ?_
    refine xg_eq (show _ = (0 : Int32) from rfl) ?_
    refine xg_if_ne (pc := 12) (tgt := 37) dX7_windItem_12 (by decide) (fun c_12 => absurd c_12 (by decide)) (fun c_12 => ?_)
    refine xg_aload_n (pc := 15) dX7_windItem_15 rfl ?_
    refine xg_get (pc := 16) dX7_windItem_16 flX7_9 hp_62 rfl ?_
    refine xg_iconst (v := 1) (pc := 19) dX7_windItem_19 (by decide) ?_
    refine xg_aload_n (pc := 20) dX7_windItem_20 rfl ?_
    refine xg_get (pc := 21) dX7_windItem_21 flX7_9 hp_62 rfl ?_
    refine xg_iconst (v := 1) (pc := 24) dX7_windItem_24 (by decide) ?_
    refine xg_iald (pc := 25) 1 dX7_windItem_25 hp_63 rfl (by omega) (by decide) ?_
    refine xg_iconst (v := 1) (pc := 26) dX7_windItem_26 (by decide) ?_
    refine xg_iload_n (pc := 27) dX7_windItem_27 rfl ?_
    refine xg_ishl (pc := 28) dX7_windItem_28 ?_
    refine xg_iconst (v := -1) (pc := 29) dX7_windItem_29 (by decide) ?_
    refine xg_ixor (pc := 30) dX7_windItem_30 ?_
    refine xg_iand (pc := 31) dX7_windItem_31 ?_
    refine xg_iload_n (pc := 32) dX7_windItem_32 rfl ?_
    refine xg_iload_n (pc := 33) dX7_windItem_33 rfl ?_
    refine xg_ishl (pc := 34) dX7_windItem_34 ?_
    refine xg_ior (pc := 35) dX7_windItem_35 ?_
    refine xg_iast (pc := 36) (h' := hp lk o (upd mf 1 (((mf 1) &&& (((1 : Int32) <<< ((nI ((nx q.2.2.2.2.2.1 L t).2.2.2)) &&& 31)) ^^^ (-1))) ||| ((1 : Int32) <<< ((nI ((nx q.2.2.2.2.2.1 L t).2.2.2)) &&& 31)))) wf (qX q (nx q.2.2.2.2.2.1 L (nx q.2.2.2.2.2.1 L t)) 0)) 1 dX7_windItem_36 hp_63 rfl (by omega) (by decide) hs_mf ?_
    exact xg_ret (pc := 37) dX7_windItem_37 rfl (⟨rfl, by rw [show rpI q.2.2.2.2.2.1 L 1 t mf = (1, nx q.2.2.2.2.2.1 L (nx q.2.2.2.2.2.1 L t), upd mf 1 (rpO 1 (mf 1) (nI (nx q.2.2.2.2.2.1 L t).2.2.2))) from by
      unfold rpI; rw [show nU q.2.2.2.2.2.1 L 0 7 (nx q.2.2.2.2.2.1 L t) = (nI (nx q.2.2.2.2.2.1 L t).2.2.2, nx q.2.2.2.2.2.1 L (nx q.2.2.2.2.2.1 L t)) from if_pos hn]; exact if_neg (fun z => absurd (show nI (nx q.2.2.2.2.2.1 L t).2.2.2 < 0 from by rw [show nI (nx q.2.2.2.2.2.1 L t).2.2.2 = -1 from z]; decide) (nI_pos (by have := (nx_ok okt).1.2.2.1; omega)))]; rw [rp_on]; rfl⟩)
  ·
    refine xg_aload_n (pc := 0) dX7_windItem_0 rfl ?_
    refine xg_iconst (v := 0) (pc := 1) dX7_windItem_1 (by decide) ?_
    refine xg_bipush (v := 7) (pc := 2) dX7_windItem_2 (by decide) ?_
    refine xg_cvI (pc := 4) (h1 := hp lk o mf wf (qX q (nx q.2.2.2.2.2.1 L t) 1)) (x := nI ((nx q.2.2.2.2.2.1 L t).2.2.2)) (M' := mX7_number) dX7_windItem_4 lkX7_209 mcX7_number hp_62 rfl (ev_nuN (lo := 0) (hi := 7) (nx_ok okt).1 (by decide) (by decide) hn) rfl rfl (Nat.le_of_ble_eq_true rfl) ?_
    refine xg_istore_n (pc := 7) (ls' := [some (.ref 62), some (.int 1), some (.int (nI ((nx q.2.2.2.2.2.1 L t).2.2.2)))]) dX7_windItem_7 (by decide) rfl ?_
    refine xg_aload_n (pc := 8) dX7_windItem_8 rfl ?_
    refine xg_get (pc := 9) dX7_windItem_9 flX7_199 hp_62 rfl ?_
    refine xg_eq (show _ = (1 : Int32) from rfl) ?_
    refine xg_if_ne (pc := 12) (tgt := 37) dX7_windItem_12 (by decide) (fun c_12 => ?_) (fun c_12 => absurd c_12 (by decide))
    exact xg_ret (pc := 37) dX7_windItem_37 rfl (⟨rfl, by rw [show rpI q.2.2.2.2.2.1 L 1 t mf = (0, nx q.2.2.2.2.2.1 L t, mf) from by
      unfold rpI; rw [show nU q.2.2.2.2.2.1 L 0 7 (nx q.2.2.2.2.2.1 L t) = (-1, nx q.2.2.2.2.2.1 L t) from if_neg hn]; exact if_pos rfl]; rfl⟩)
set_option maxRecDepth 100000 in
theorem ev_wi0  (hL : q.2.2.2.2.2.2.1 = nI L) (hL2 : L ≤ 120) (okt : okT q.2.2.2.2.2.1 L t) : xDv X false (d + 4) mX7_windItem [.ref 62, .int 0] (hp lk o mf wf (qX q (nx q.2.2.2.2.2.1 L t) 0)) [] (hp lk o ((rpI q.2.2.2.2.2.1 L 0 t mf).2.2) wf (qX q ((rpI q.2.2.2.2.2.1 L 0 t mf).2.1) (bdO (rpI q.2.2.2.2.2.1 L 0 t mf).1))) := by
  refine xDv.of (ls := [some (.ref 62), some (.int 0), none]) mcX7_windItem.1.2.2.2.2 (Nat.le_of_ble_eq_true rfl) rfl ?_
  by_cases hn : (nx q.2.2.2.2.2.1 L t).1 = 2 ∧ 0 ≤ (nx q.2.2.2.2.2.1 L t).2.2.2 ∧ (nx q.2.2.2.2.2.1 L t).2.2.2 ≤ 7
  ·
    refine xg_aload_n (pc := 0) dX7_windItem_0 rfl ?_
    refine xg_iconst (v := 0) (pc := 1) dX7_windItem_1 (by decide) ?_
    refine xg_bipush (v := 7) (pc := 2) dX7_windItem_2 (by decide) ?_
    refine xg_cvI (pc := 4) (h1 := hp lk o mf wf (qX q (nx q.2.2.2.2.2.1 L (nx q.2.2.2.2.2.1 L t)) 0)) (x := nI ((nx q.2.2.2.2.2.1 L t).2.2.2)) (M' := mX7_number) dX7_windItem_4 lkX7_209 mcX7_number hp_62 rfl (ev_nuY (lo := 0) (hi := 7) hL hL2 (nx_ok okt).1 (by decide) (by decide) hn) rfl rfl (Nat.le_of_ble_eq_true rfl) ?_
    refine xg_istore_n (pc := 7) (ls' := [some (.ref 62), some (.int 0), some (.int (nI ((nx q.2.2.2.2.2.1 L t).2.2.2)))]) dX7_windItem_7 (by decide) rfl ?_
    refine xg_aload_n (pc := 8) dX7_windItem_8 rfl ?_
    refine xg_get (pc := 9) dX7_windItem_9 flX7_199 hp_62 rfl ?_
    refine xg_eq (show _ = (0 : Int32) from rfl) ?_
    refine xg_if_ne (pc := 12) (tgt := 37) dX7_windItem_12 (by decide) (fun c_12 => absurd c_12 (by decide)) (fun c_12 => ?_)
    refine xg_aload_n (pc := 15) dX7_windItem_15 rfl ?_
    refine xg_get (pc := 16) dX7_windItem_16 flX7_9 hp_62 rfl ?_
    refine xg_iconst (v := 1) (pc := 19) dX7_windItem_19 (by decide) ?_
    refine xg_aload_n (pc := 20) dX7_windItem_20 rfl ?_
    refine xg_get (pc := 21) dX7_windItem_21 flX7_9 hp_62 rfl ?_
    refine xg_iconst (v := 1) (pc := 24) dX7_windItem_24 (by decide) ?_
    refine xg_iald (pc := 25) 1 dX7_windItem_25 hp_63 rfl (by omega) (by decide) ?_
    refine xg_iconst (v := 1) (pc := 26) dX7_windItem_26 (by decide) ?_
    refine xg_iload_n (pc := 27) dX7_windItem_27 rfl ?_
    refine xg_ishl (pc := 28) dX7_windItem_28 ?_
    refine xg_iconst (v := -1) (pc := 29) dX7_windItem_29 (by decide) ?_
    refine xg_ixor (pc := 30) dX7_windItem_30 ?_
    refine xg_iand (pc := 31) dX7_windItem_31 ?_
    refine xg_iload_n (pc := 32) dX7_windItem_32 rfl ?_
    refine xg_iload_n (pc := 33) dX7_windItem_33 rfl ?_
    refine xg_ishl (pc := 34) dX7_windItem_34 ?_
    refine xg_ior (pc := 35) dX7_windItem_35 ?_
    refine xg_iast (pc := 36) (h' := hp lk o (upd mf 1 (((mf 1) &&& (((1 : Int32) <<< ((nI ((nx q.2.2.2.2.2.1 L t).2.2.2)) &&& 31)) ^^^ (-1))) ||| ((0 : Int32) <<< ((nI ((nx q.2.2.2.2.2.1 L t).2.2.2)) &&& 31)))) wf (qX q (nx q.2.2.2.2.2.1 L (nx q.2.2.2.2.2.1 L t)) 0)) 1 dX7_windItem_36 hp_63 rfl (by omega) (by decide) hs_mf ?_
    exact xg_ret (pc := 37) dX7_windItem_37 rfl (⟨rfl, by rw [show rpI q.2.2.2.2.2.1 L 0 t mf = (1, nx q.2.2.2.2.2.1 L (nx q.2.2.2.2.2.1 L t), upd mf 1 (rpO 0 (mf 1) (nI (nx q.2.2.2.2.2.1 L t).2.2.2))) from by
      unfold rpI; rw [show nU q.2.2.2.2.2.1 L 0 7 (nx q.2.2.2.2.2.1 L t) = (nI (nx q.2.2.2.2.2.1 L t).2.2.2, nx q.2.2.2.2.2.1 L (nx q.2.2.2.2.2.1 L t)) from if_pos hn]; exact if_neg (fun z => absurd (show nI (nx q.2.2.2.2.2.1 L t).2.2.2 < 0 from by rw [show nI (nx q.2.2.2.2.2.1 L t).2.2.2 = -1 from z]; decide) (nI_pos (by have := (nx_ok okt).1.2.2.1; omega)))]; rw [rp_off]; rfl⟩)
  ·
    refine xg_aload_n (pc := 0) dX7_windItem_0 rfl ?_
    refine xg_iconst (v := 0) (pc := 1) dX7_windItem_1 (by decide) ?_
    refine xg_bipush (v := 7) (pc := 2) dX7_windItem_2 (by decide) ?_
    refine xg_cvI (pc := 4) (h1 := hp lk o mf wf (qX q (nx q.2.2.2.2.2.1 L t) 1)) (x := nI ((nx q.2.2.2.2.2.1 L t).2.2.2)) (M' := mX7_number) dX7_windItem_4 lkX7_209 mcX7_number hp_62 rfl (ev_nuN (lo := 0) (hi := 7) (nx_ok okt).1 (by decide) (by decide) hn) rfl rfl (Nat.le_of_ble_eq_true rfl) ?_
    refine xg_istore_n (pc := 7) (ls' := [some (.ref 62), some (.int 0), some (.int (nI ((nx q.2.2.2.2.2.1 L t).2.2.2)))]) dX7_windItem_7 (by decide) rfl ?_
    refine xg_aload_n (pc := 8) dX7_windItem_8 rfl ?_
    refine xg_get (pc := 9) dX7_windItem_9 flX7_199 hp_62 rfl ?_
    refine xg_eq (show _ = (1 : Int32) from rfl) ?_
    refine xg_if_ne (pc := 12) (tgt := 37) dX7_windItem_12 (by decide) (fun c_12 => ?_) (fun c_12 => absurd c_12 (by decide))
    exact xg_ret (pc := 37) dX7_windItem_37 rfl (⟨rfl, by rw [show rpI q.2.2.2.2.2.1 L 0 t mf = (0, nx q.2.2.2.2.2.1 L t, mf) from by
      unfold rpI; rw [show nU q.2.2.2.2.2.1 L 0 7 (nx q.2.2.2.2.2.1 L t) = (-1, nx q.2.2.2.2.2.1 L t) from if_neg hn]; exact if_pos rfl]; rfl⟩)
theorem cd7 (n : Nat) (h : n ≤ 23) : n ≤ 5 ∨ (¬ n ≤ 5 ∧ n = 10) ∨ (¬ n ≤ 5 ∧ ¬ n = 10 ∧ n = 12) ∨ (¬ n ≤ 5 ∧ ¬ n = 10 ∧ ¬ n = 12 ∧ n = 13) ∨ (¬ n ≤ 5 ∧ ¬ n = 10 ∧ ¬ n = 12 ∧ ¬ n = 13 ∧ n = 14) ∨ (¬ n ≤ 5 ∧ ¬ n = 10 ∧ ¬ n = 12 ∧ ¬ n = 13 ∧ ¬ n = 14 ∧ n = 15) ∨ (¬ n ≤ 5 ∧ ¬ n = 10 ∧ ¬ n = 12 ∧ ¬ n = 13 ∧ ¬ n = 14 ∧ ¬ n = 15) := by omega
set_option maxRecDepth 100000 in
theorem ev_X7_item  (hL : q.2.2.2.2.2.2.1 = nI L) (hL2 : L ≤ 120) (okt : okT q.2.2.2.2.2.1 L t) (ok : okN mf) : xDv X false (d + 6) mX7_item [.ref 62] (hp lk o mf wf (qX q t 0)) [] (hp lk o ((itI q.2.2.2.2.2.1 L t mf).2.2) wf (qX q ((itI q.2.2.2.2.2.1 L t mf).2.1) (bdO (itI q.2.2.2.2.2.1 L t mf).1))) := by
  refine xDv.of (ls := [some (.ref 62)]) mcX7_item.1.2.2.2.2 (Nat.le_of_ble_eq_true rfl) rfl ?_
  rcases cd7 (cd q.2.2.2.2.2.1 t) cd_le with k0 | ⟨k0, k10⟩ | ⟨k0, k10, k12⟩ | ⟨k0, k10, k12, k13⟩ | ⟨k0, k10, k12, k13, k14⟩ | ⟨k0, k10, k12, k13, k14, k15⟩ | ⟨k0, k10, k12, k13, k14, k15⟩
  ·
    refine xg_aload_n (pc := 0) dX7_item_0 rfl ?_
    refine xg_get (pc := 1) dX7_item_1 flX7_192 hp_62 rfl ?_
    refine xg_eq (show _ = nI (cd q.2.2.2.2.2.1 t) from rfl) ?_
    refine xg_iconst (v := 5) (pc := 4) dX7_item_4 (by decide) ?_
    refine xg_icmp_gt (pc := 5) (tgt := 15) dX7_item_5 (by decide) (fun c_5 => absurd c_5 (nI_nlt (a := 5) k0 (by omega))) (fun c_5 => ?_)
    refine xg_aload_n (pc := 8) dX7_item_8 rfl ?_
    refine xg_cvV (pc := 9) (h1 := hp lk o ((thI q.2.2.2.2.2.1 L (nI (cd q.2.2.2.2.2.1 t)) t mf).2.2) wf (qX q ((thI q.2.2.2.2.2.1 L (nI (cd q.2.2.2.2.2.1 t)) t mf).2.1) (bdO (thI q.2.2.2.2.2.1 L (nI (cd q.2.2.2.2.2.1 t)) t mf).1))) (M' := mX7_thingItem) dX7_item_9 lkX7_215 mcX7_thingItem hp_62 rfl (ev_X7_thingItem hL hL2 okt ok) rfl rfl (Nat.le_of_ble_eq_true rfl) ?_
    refine xg_goto (pc := 12) (tgt := 108) dX7_item_12 (by decide) ?_
    exact xg_ret (pc := 108) dX7_item_108 rfl (⟨rfl, by unfold itI; rw [if_pos k0]; try rfl⟩)
  ·
    refine xg_aload_n (pc := 0) dX7_item_0 rfl ?_
    refine xg_get (pc := 1) dX7_item_1 flX7_192 hp_62 rfl ?_
    refine xg_eq (show _ = nI (cd q.2.2.2.2.2.1 t) from rfl) ?_
    refine xg_iconst (v := 5) (pc := 4) dX7_item_4 (by decide) ?_
    refine xg_icmp_gt (pc := 5) (tgt := 15) dX7_item_5 (by decide) (fun c_5 => ?_) (fun c_5 => absurd c_5 (fun z => z (nI_lt (a := 5) (by omega) (by have := cd_le (b := q.2.2.2.2.2.1) (t := t); omega))))
    refine xg_aload_n (pc := 15) dX7_item_15 rfl ?_
    refine xg_get (pc := 16) dX7_item_16 flX7_192 hp_62 rfl ?_
    refine xg_eq (show _ = nI (cd q.2.2.2.2.2.1 t) from rfl) ?_
    refine xg_bipush (v := 10) (pc := 19) dX7_item_19 (by decide) ?_
    refine xg_icmp_ne (pc := 21) (tgt := 31) dX7_item_21 (by decide) (fun c_21 => absurd c_21 (fun z => z (by rw [k10]; rfl))) (fun c_21 => ?_)
    refine xg_aload_n (pc := 24) dX7_item_24 rfl ?_
    refine xg_cvV (pc := 25) (h1 := hp lk o ((boI q.2.2.2.2.2.1 L t mf).2.2) wf (qX q ((boI q.2.2.2.2.2.1 L t mf).2.1) (bdO (boI q.2.2.2.2.2.1 L t mf).1))) (M' := mX7_boatItem) dX7_item_25 lkX7_218 mcX7_boatItem hp_62 rfl (ev_X7_boatItem hL hL2 okt ok) rfl rfl (Nat.le_of_ble_eq_true rfl) ?_
    refine xg_goto (pc := 28) (tgt := 108) dX7_item_28 (by decide) ?_
    exact xg_ret (pc := 108) dX7_item_108 rfl (⟨rfl, by unfold itI; rw [if_neg k0, if_pos k10]; try rfl⟩)
  ·
    refine xg_aload_n (pc := 0) dX7_item_0 rfl ?_
    refine xg_get (pc := 1) dX7_item_1 flX7_192 hp_62 rfl ?_
    refine xg_eq (show _ = nI (cd q.2.2.2.2.2.1 t) from rfl) ?_
    refine xg_iconst (v := 5) (pc := 4) dX7_item_4 (by decide) ?_
    refine xg_icmp_gt (pc := 5) (tgt := 15) dX7_item_5 (by decide) (fun c_5 => ?_) (fun c_5 => absurd c_5 (fun z => z (nI_lt (a := 5) (by omega) (by have := cd_le (b := q.2.2.2.2.2.1) (t := t); omega))))
    refine xg_aload_n (pc := 15) dX7_item_15 rfl ?_
    refine xg_get (pc := 16) dX7_item_16 flX7_192 hp_62 rfl ?_
    refine xg_eq (show _ = nI (cd q.2.2.2.2.2.1 t) from rfl) ?_
    refine xg_bipush (v := 10) (pc := 19) dX7_item_19 (by decide) ?_
    refine xg_icmp_ne (pc := 21) (tgt := 31) dX7_item_21 (by decide) (fun c_21 => ?_) (fun c_21 => absurd c_21 (fun z => k10 ((nI_eq (b := 10) (by have := cd_le (b := q.2.2.2.2.2.1) (t := t); omega) (by omega)).mp z)))
    refine xg_aload_n (pc := 31) dX7_item_31 rfl ?_
    refine xg_bipush (v := 12) (pc := 32) dX7_item_32 (by decide) ?_
    refine xg_cvI (pc := 34) (h1 := hp lk o mf wf (qX q (nx q.2.2.2.2.2.1 L t) 0)) (x := 1) (M' := mX7_passes) dX7_item_34 lkX7_206 mcX7_passes hp_62 rfl (ev_paY (w := 12) hL hL2 okt (by decide) k12) rfl rfl (Nat.le_of_ble_eq_true rfl) ?_
    refine xg_if_eq (pc := 37) (tgt := 48) dX7_item_37 (by decide) (fun c_37 => absurd c_37 (by decide)) (fun c_37 => ?_)
    refine xg_aload_n (pc := 40) dX7_item_40 rfl ?_
    refine xg_iconst (v := 1) (pc := 41) dX7_item_41 (by decide) ?_
    refine xg_cvV (pc := 42) (h1 := hp lk o ((rpI q.2.2.2.2.2.1 L 1 t mf).2.2) wf (qX q ((rpI q.2.2.2.2.2.1 L 1 t mf).2.1) (bdO (rpI q.2.2.2.2.2.1 L 1 t mf).1))) (M' := mX7_windItem) dX7_item_42 lkX7_221 mcX7_windItem hp_62 rfl (ev_wi1 hL hL2 okt) rfl rfl (Nat.le_of_ble_eq_true rfl) ?_
    refine xg_goto (pc := 45) (tgt := 108) dX7_item_45 (by decide) ?_
    exact xg_ret (pc := 108) dX7_item_108 rfl (⟨rfl, by unfold itI; rw [if_neg k0, if_neg k10, if_pos k12]; try rfl⟩)
  ·
    refine xg_aload_n (pc := 0) dX7_item_0 rfl ?_
    refine xg_get (pc := 1) dX7_item_1 flX7_192 hp_62 rfl ?_
    refine xg_eq (show _ = nI (cd q.2.2.2.2.2.1 t) from rfl) ?_
    refine xg_iconst (v := 5) (pc := 4) dX7_item_4 (by decide) ?_
    refine xg_icmp_gt (pc := 5) (tgt := 15) dX7_item_5 (by decide) (fun c_5 => ?_) (fun c_5 => absurd c_5 (fun z => z (nI_lt (a := 5) (by omega) (by have := cd_le (b := q.2.2.2.2.2.1) (t := t); omega))))
    refine xg_aload_n (pc := 15) dX7_item_15 rfl ?_
    refine xg_get (pc := 16) dX7_item_16 flX7_192 hp_62 rfl ?_
    refine xg_eq (show _ = nI (cd q.2.2.2.2.2.1 t) from rfl) ?_
    refine xg_bipush (v := 10) (pc := 19) dX7_item_19 (by decide) ?_
    refine xg_icmp_ne (pc := 21) (tgt := 31) dX7_item_21 (by decide) (fun c_21 => ?_) (fun c_21 => absurd c_21 (fun z => k10 ((nI_eq (b := 10) (by have := cd_le (b := q.2.2.2.2.2.1) (t := t); omega) (by omega)).mp z)))
    refine xg_aload_n (pc := 31) dX7_item_31 rfl ?_
    refine xg_bipush (v := 12) (pc := 32) dX7_item_32 (by decide) ?_
    refine xg_cvI (pc := 34) (h1 := hp lk o mf wf (qX q t 0)) (x := 0) (M' := mX7_passes) dX7_item_34 lkX7_206 mcX7_passes hp_62 rfl (ev_paN (w := 12) (by decide) k12) rfl rfl (Nat.le_of_ble_eq_true rfl) ?_
    refine xg_if_eq (pc := 37) (tgt := 48) dX7_item_37 (by decide) (fun c_37 => ?_) (fun c_37 => absurd c_37 (by decide))
    refine xg_aload_n (pc := 48) dX7_item_48 rfl ?_
    refine xg_bipush (v := 13) (pc := 49) dX7_item_49 (by decide) ?_
    refine xg_cvI (pc := 51) (h1 := hp lk o mf wf (qX q (nx q.2.2.2.2.2.1 L t) 0)) (x := 1) (M' := mX7_passes) dX7_item_51 lkX7_206 mcX7_passes hp_62 rfl (ev_paY (w := 13) hL hL2 okt (by decide) k13) rfl rfl (Nat.le_of_ble_eq_true rfl) ?_
    refine xg_if_eq (pc := 54) (tgt := 65) dX7_item_54 (by decide) (fun c_54 => absurd c_54 (by decide)) (fun c_54 => ?_)
    refine xg_aload_n (pc := 57) dX7_item_57 rfl ?_
    refine xg_iconst (v := 0) (pc := 58) dX7_item_58 (by decide) ?_
    refine xg_cvV (pc := 59) (h1 := hp lk o ((rpI q.2.2.2.2.2.1 L 0 t mf).2.2) wf (qX q ((rpI q.2.2.2.2.2.1 L 0 t mf).2.1) (bdO (rpI q.2.2.2.2.2.1 L 0 t mf).1))) (M' := mX7_windItem) dX7_item_59 lkX7_221 mcX7_windItem hp_62 rfl (ev_wi0 hL hL2 okt) rfl rfl (Nat.le_of_ble_eq_true rfl) ?_
    refine xg_goto (pc := 62) (tgt := 108) dX7_item_62 (by decide) ?_
    exact xg_ret (pc := 108) dX7_item_108 rfl (⟨rfl, by unfold itI; rw [if_neg k0, if_neg k10, if_neg k12, if_pos k13]; try rfl⟩)
  ·
    refine xg_aload_n (pc := 0) dX7_item_0 rfl ?_
    refine xg_get (pc := 1) dX7_item_1 flX7_192 hp_62 rfl ?_
    refine xg_eq (show _ = nI (cd q.2.2.2.2.2.1 t) from rfl) ?_
    refine xg_iconst (v := 5) (pc := 4) dX7_item_4 (by decide) ?_
    refine xg_icmp_gt (pc := 5) (tgt := 15) dX7_item_5 (by decide) (fun c_5 => ?_) (fun c_5 => absurd c_5 (fun z => z (nI_lt (a := 5) (by omega) (by have := cd_le (b := q.2.2.2.2.2.1) (t := t); omega))))
    refine xg_aload_n (pc := 15) dX7_item_15 rfl ?_
    refine xg_get (pc := 16) dX7_item_16 flX7_192 hp_62 rfl ?_
    refine xg_eq (show _ = nI (cd q.2.2.2.2.2.1 t) from rfl) ?_
    refine xg_bipush (v := 10) (pc := 19) dX7_item_19 (by decide) ?_
    refine xg_icmp_ne (pc := 21) (tgt := 31) dX7_item_21 (by decide) (fun c_21 => ?_) (fun c_21 => absurd c_21 (fun z => k10 ((nI_eq (b := 10) (by have := cd_le (b := q.2.2.2.2.2.1) (t := t); omega) (by omega)).mp z)))
    refine xg_aload_n (pc := 31) dX7_item_31 rfl ?_
    refine xg_bipush (v := 12) (pc := 32) dX7_item_32 (by decide) ?_
    refine xg_cvI (pc := 34) (h1 := hp lk o mf wf (qX q t 0)) (x := 0) (M' := mX7_passes) dX7_item_34 lkX7_206 mcX7_passes hp_62 rfl (ev_paN (w := 12) (by decide) k12) rfl rfl (Nat.le_of_ble_eq_true rfl) ?_
    refine xg_if_eq (pc := 37) (tgt := 48) dX7_item_37 (by decide) (fun c_37 => ?_) (fun c_37 => absurd c_37 (by decide))
    refine xg_aload_n (pc := 48) dX7_item_48 rfl ?_
    refine xg_bipush (v := 13) (pc := 49) dX7_item_49 (by decide) ?_
    refine xg_cvI (pc := 51) (h1 := hp lk o mf wf (qX q t 0)) (x := 0) (M' := mX7_passes) dX7_item_51 lkX7_206 mcX7_passes hp_62 rfl (ev_paN (w := 13) (by decide) k13) rfl rfl (Nat.le_of_ble_eq_true rfl) ?_
    refine xg_if_eq (pc := 54) (tgt := 65) dX7_item_54 (by decide) (fun c_54 => ?_) (fun c_54 => absurd c_54 (by decide))
    refine xg_aload_n (pc := 65) dX7_item_65 rfl ?_
    refine xg_bipush (v := 14) (pc := 66) dX7_item_66 (by decide) ?_
    refine xg_cvI (pc := 68) (h1 := hp lk o mf wf (qX q (nx q.2.2.2.2.2.1 L t) 0)) (x := 1) (M' := mX7_passes) dX7_item_68 lkX7_206 mcX7_passes hp_62 rfl (ev_paY (w := 14) hL hL2 okt (by decide) k14) rfl rfl (Nat.le_of_ble_eq_true rfl) ?_
    refine xg_if_eq (pc := 71) (tgt := 84) dX7_item_71 (by decide) (fun c_71 => absurd c_71 (by decide)) (fun c_71 => ?_)
    refine xg_aload_n (pc := 74) dX7_item_74 rfl ?_
    refine xg_get (pc := 75) dX7_item_75 flX7_9 hp_62 rfl ?_
    refine xg_iconst (v := 2) (pc := 78) dX7_item_78 (by decide) ?_
    refine xg_iconst (v := 1) (pc := 79) dX7_item_79 (by decide) ?_
    refine xg_iast (pc := 80) (h' := hp lk o (upd mf 2 1) wf (qX q (nx q.2.2.2.2.2.1 L t) 0)) 2 dX7_item_80 hp_63 rfl (by omega) (by decide) hs_mf ?_
    refine xg_goto (pc := 81) (tgt := 108) dX7_item_81 (by decide) ?_
    exact xg_ret (pc := 108) dX7_item_108 rfl (⟨rfl, by unfold itI; rw [if_neg k0, if_neg k10, if_neg k12, if_neg k13, if_pos k14]; try rfl⟩)
  ·
    refine xg_aload_n (pc := 0) dX7_item_0 rfl ?_
    refine xg_get (pc := 1) dX7_item_1 flX7_192 hp_62 rfl ?_
    refine xg_eq (show _ = nI (cd q.2.2.2.2.2.1 t) from rfl) ?_
    refine xg_iconst (v := 5) (pc := 4) dX7_item_4 (by decide) ?_
    refine xg_icmp_gt (pc := 5) (tgt := 15) dX7_item_5 (by decide) (fun c_5 => ?_) (fun c_5 => absurd c_5 (fun z => z (nI_lt (a := 5) (by omega) (by have := cd_le (b := q.2.2.2.2.2.1) (t := t); omega))))
    refine xg_aload_n (pc := 15) dX7_item_15 rfl ?_
    refine xg_get (pc := 16) dX7_item_16 flX7_192 hp_62 rfl ?_
    refine xg_eq (show _ = nI (cd q.2.2.2.2.2.1 t) from rfl) ?_
    refine xg_bipush (v := 10) (pc := 19) dX7_item_19 (by decide) ?_
    refine xg_icmp_ne (pc := 21) (tgt := 31) dX7_item_21 (by decide) (fun c_21 => ?_) (fun c_21 => absurd c_21 (fun z => k10 ((nI_eq (b := 10) (by have := cd_le (b := q.2.2.2.2.2.1) (t := t); omega) (by omega)).mp z)))
    refine xg_aload_n (pc := 31) dX7_item_31 rfl ?_
    refine xg_bipush (v := 12) (pc := 32) dX7_item_32 (by decide) ?_
    refine xg_cvI (pc := 34) (h1 := hp lk o mf wf (qX q t 0)) (x := 0) (M' := mX7_passes) dX7_item_34 lkX7_206 mcX7_passes hp_62 rfl (ev_paN (w := 12) (by decide) k12) rfl rfl (Nat.le_of_ble_eq_true rfl) ?_
    refine xg_if_eq (pc := 37) (tgt := 48) dX7_item_37 (by decide) (fun c_37 => ?_) (fun c_37 => absurd c_37 (by decide))
    refine xg_aload_n (pc := 48) dX7_item_48 rfl ?_
    refine xg_bipush (v := 13) (pc := 49) dX7_item_49 (by decide) ?_
    refine xg_cvI (pc := 51) (h1 := hp lk o mf wf (qX q t 0)) (x := 0) (M' := mX7_passes) dX7_item_51 lkX7_206 mcX7_passes hp_62 rfl (ev_paN (w := 13) (by decide) k13) rfl rfl (Nat.le_of_ble_eq_true rfl) ?_
    refine xg_if_eq (pc := 54) (tgt := 65) dX7_item_54 (by decide) (fun c_54 => ?_) (fun c_54 => absurd c_54 (by decide))
    refine xg_aload_n (pc := 65) dX7_item_65 rfl ?_
    refine xg_bipush (v := 14) (pc := 66) dX7_item_66 (by decide) ?_
    refine xg_cvI (pc := 68) (h1 := hp lk o mf wf (qX q t 0)) (x := 0) (M' := mX7_passes) dX7_item_68 lkX7_206 mcX7_passes hp_62 rfl (ev_paN (w := 14) (by decide) k14) rfl rfl (Nat.le_of_ble_eq_true rfl) ?_
    refine xg_if_eq (pc := 71) (tgt := 84) dX7_item_71 (by decide) (fun c_71 => ?_) (fun c_71 => absurd c_71 (by decide))
    refine xg_aload_n (pc := 84) dX7_item_84 rfl ?_
    refine xg_bipush (v := 15) (pc := 85) dX7_item_85 (by decide) ?_
    refine xg_cvI (pc := 87) (h1 := hp lk o mf wf (qX q (nx q.2.2.2.2.2.1 L t) 0)) (x := 1) (M' := mX7_passes) dX7_item_87 lkX7_206 mcX7_passes hp_62 rfl (ev_paY (w := 15) hL hL2 okt (by decide) k15) rfl rfl (Nat.le_of_ble_eq_true rfl) ?_
    refine xg_if_eq (pc := 90) (tgt := 103) dX7_item_90 (by decide) (fun c_90 => absurd c_90 (by decide)) (fun c_90 => ?_)
    refine xg_aload_n (pc := 93) dX7_item_93 rfl ?_
    refine xg_get (pc := 94) dX7_item_94 flX7_9 hp_62 rfl ?_
    refine xg_iconst (v := 2) (pc := 97) dX7_item_97 (by decide) ?_
    refine xg_iconst (v := 0) (pc := 98) dX7_item_98 (by decide) ?_
    refine xg_iast (pc := 99) (h' := hp lk o (upd mf 2 0) wf (qX q (nx q.2.2.2.2.2.1 L t) 0)) 2 dX7_item_99 hp_63 rfl (by omega) (by decide) hs_mf ?_
    refine xg_goto (pc := 100) (tgt := 108) dX7_item_100 (by decide) ?_
    exact xg_ret (pc := 108) dX7_item_108 rfl (⟨rfl, by unfold itI; rw [if_neg k0, if_neg k10, if_neg k12, if_neg k13, if_neg k14, if_pos k15]; try rfl⟩)
  ·
    refine xg_aload_n (pc := 0) dX7_item_0 rfl ?_
    refine xg_get (pc := 1) dX7_item_1 flX7_192 hp_62 rfl ?_
    refine xg_eq (show _ = nI (cd q.2.2.2.2.2.1 t) from rfl) ?_
    refine xg_iconst (v := 5) (pc := 4) dX7_item_4 (by decide) ?_
    refine xg_icmp_gt (pc := 5) (tgt := 15) dX7_item_5 (by decide) (fun c_5 => ?_) (fun c_5 => absurd c_5 (fun z => z (nI_lt (a := 5) (by omega) (by have := cd_le (b := q.2.2.2.2.2.1) (t := t); omega))))
    refine xg_aload_n (pc := 15) dX7_item_15 rfl ?_
    refine xg_get (pc := 16) dX7_item_16 flX7_192 hp_62 rfl ?_
    refine xg_eq (show _ = nI (cd q.2.2.2.2.2.1 t) from rfl) ?_
    refine xg_bipush (v := 10) (pc := 19) dX7_item_19 (by decide) ?_
    refine xg_icmp_ne (pc := 21) (tgt := 31) dX7_item_21 (by decide) (fun c_21 => ?_) (fun c_21 => absurd c_21 (fun z => k10 ((nI_eq (b := 10) (by have := cd_le (b := q.2.2.2.2.2.1) (t := t); omega) (by omega)).mp z)))
    refine xg_aload_n (pc := 31) dX7_item_31 rfl ?_
    refine xg_bipush (v := 12) (pc := 32) dX7_item_32 (by decide) ?_
    refine xg_cvI (pc := 34) (h1 := hp lk o mf wf (qX q t 0)) (x := 0) (M' := mX7_passes) dX7_item_34 lkX7_206 mcX7_passes hp_62 rfl (ev_paN (w := 12) (by decide) k12) rfl rfl (Nat.le_of_ble_eq_true rfl) ?_
    refine xg_if_eq (pc := 37) (tgt := 48) dX7_item_37 (by decide) (fun c_37 => ?_) (fun c_37 => absurd c_37 (by decide))
    refine xg_aload_n (pc := 48) dX7_item_48 rfl ?_
    refine xg_bipush (v := 13) (pc := 49) dX7_item_49 (by decide) ?_
    refine xg_cvI (pc := 51) (h1 := hp lk o mf wf (qX q t 0)) (x := 0) (M' := mX7_passes) dX7_item_51 lkX7_206 mcX7_passes hp_62 rfl (ev_paN (w := 13) (by decide) k13) rfl rfl (Nat.le_of_ble_eq_true rfl) ?_
    refine xg_if_eq (pc := 54) (tgt := 65) dX7_item_54 (by decide) (fun c_54 => ?_) (fun c_54 => absurd c_54 (by decide))
    refine xg_aload_n (pc := 65) dX7_item_65 rfl ?_
    refine xg_bipush (v := 14) (pc := 66) dX7_item_66 (by decide) ?_
    refine xg_cvI (pc := 68) (h1 := hp lk o mf wf (qX q t 0)) (x := 0) (M' := mX7_passes) dX7_item_68 lkX7_206 mcX7_passes hp_62 rfl (ev_paN (w := 14) (by decide) k14) rfl rfl (Nat.le_of_ble_eq_true rfl) ?_
    refine xg_if_eq (pc := 71) (tgt := 84) dX7_item_71 (by decide) (fun c_71 => ?_) (fun c_71 => absurd c_71 (by decide))
    refine xg_aload_n (pc := 84) dX7_item_84 rfl ?_
    refine xg_bipush (v := 15) (pc := 85) dX7_item_85 (by decide) ?_
    refine xg_cvI (pc := 87) (h1 := hp lk o mf wf (qX q t 0)) (x := 0) (M' := mX7_passes) dX7_item_87 lkX7_206 mcX7_passes hp_62 rfl (ev_paN (w := 15) (by decide) k15) rfl rfl (Nat.le_of_ble_eq_true rfl) ?_
    refine xg_if_eq (pc := 90) (tgt := 103) dX7_item_90 (by decide) (fun c_90 => ?_) (fun c_90 => absurd c_90 (by decide))
    refine xg_aload_n (pc := 103) dX7_item_103 rfl ?_
    refine xg_iconst (v := 1) (pc := 104) dX7_item_104 (by decide) ?_
    refine xg_put (pc := 105) (h' := hp lk o mf wf (qX q t 1)) dX7_item_105 flX7_199 (Or.inl rfl) hp_62 (fun _ => ⟨rfl, rfl⟩) (Nat.le_of_ble_eq_true rfl) hs_bd ?_
    exact xg_ret (pc := 108) dX7_item_108 rfl (⟨rfl, by unfold itI; rw [if_neg k0, if_neg k10, if_neg k12, if_neg k13, if_neg k14, if_neg k15]; try rfl⟩)
end
