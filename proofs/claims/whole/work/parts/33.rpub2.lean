section
variable {X : xS} {d : Nat} {lk : Nat → Nat → Int32} {o : xO} {mf wf : Nat → Int32} {q : xQ}
theorem ev_goC {n : Nat} (okp : okP mf) (hn : n < 2 ^ 31) : xDv X false (d + 7) mX7_goesOn [.ref 62, .int (nI n)] (hp lk o mf wf q) [] (hp lk o (hsC n mf) wf q) :=
  (ev_X7_goesOn okp.1 hn).eq rfl (by rw [(hs_P okp).1])
theorem ev_hrC (okp : okP mf) : xDv X false (d + 6) mX7_hour [.ref 62] (hp lk o mf wf q) [] (hp lk o (hrC mf) wf q) :=
  (ev_X7_hour okp.1).eq rfl (by rw [(hr_P okp).1])
theorem ev_orN {v : Int32} : xDv X false (d + 1) mX7_orNone [.ref 62, .int v] (hp lk o mf wf q) [.int (if v < 0 then -1000000004 else v)] (hp lk o mf wf (fnQ q (if v < 0 then some 3 else none))) := by
  by_cases hv : v < 0
  · rw [if_pos hv, if_pos hv]; exact ev_X7_orNone_neg hv
  · rw [if_neg hv, if_neg hv]; exact ev_X7_orNone_pos hv
set_option maxRecDepth 100000 in
set_option maxHeartbeats 4000000 in
theorem ev_X7_on {b n w : Int32} (okp : okP mf) : xEv X false (d + 8) 0 0 mX7_on [.ref 62, .int b, .int n, .int w] (hp lk o mf wf q) (RQ lk o q (sp_on mf (hsC (ix n) mf) b n w)) := by
  have ok := okp.1.1
  have h8 := ok.2.1
  have h5 := ok.2.2.2
  refine xEv.of (ls := [some (.ref 62), some (.int b), some (.int n), some (.int w), none]) mcX7_on.1.2.2.2.2 (Nat.le_of_ble_eq_true rfl) rfl ?_
  refine xg_aload_n (pc := 0) dX7_on_0 rfl ?_
  refine xg_iload_n (pc := 1) dX7_on_1 rfl ?_
  refine xg_cvI (pc := 2) (h1 := hp lk o mf wf q) (x := if 0 ≤ b ∧ b < mf 4 then 1 else 0) (M' := mX7_isBoat) dX7_on_2 lkX7_117 mcX7_isBoat hp_62 rfl (ev_isB ok) rfl rfl (Nat.le_of_ble_eq_true rfl) ?_
  refine xg_bz (pc := 5) (tgt := 29) dX7_on_5 (by decide) (fun c_5 => ?_) (fun c_5 => ?_)
  ·
    refine xg_aload_n (pc := 29) dX7_on_29 rfl ?_
    refine xg_ldc (v := -1000000001) (pc := 30) dX7_on_30 ccX7_42 ?_
    refine xg_cvI (pc := 32) (h1 := hp lk o mf wf (q.1, q.2.1, upd q.2.2.1 0 (q.2.2.1 0 + 1), q.2.2.2.1, q.2.2.2.2.1, q.2.2.2.2.2.1, q.2.2.2.2.2.2.1, q.2.2.2.2.2.2.2.1, q.2.2.2.2.2.2.2.2.1, q.2.2.2.2.2.2.2.2.2.1, q.2.2.2.2.2.2.2.2.2.2.1, q.2.2.2.2.2.2.2.2.2.2.2.1, q.2.2.2.2.2.2.2.2.2.2.2.2.1, q.2.2.2.2.2.2.2.2.2.2.2.2.2.1, q.2.2.2.2.2.2.2.2.2.2.2.2.2.2)) (x := -1000000001) (M' := mX7_finds) dX7_on_32 lkX7_44 mcX7_finds hp_62 rfl (ev_X7_finds (j := 0) (by decide) (by decide)) rfl rfl (Nat.le_of_ble_eq_true rfl) ?_
    exact xg_iret (pc := 35) dX7_on_35 rfl (rqR (j := (some 0)) (g := mf) (by unfold sp_on; refine (if_neg (by first | exact ⟨c_5, c_16, c_26⟩ | exact (fun q => c_5 q.1) | exact (fun q => c_16 q.2.1) | exact (fun q => c_26 q.2.2))).trans ?_; first | (with_reducible rfl) | (simp only [*, ix_0, ix_1, ix_2, ix_3, ix_4]; done) | (simp [*, ix_0, ix_1, ix_2, ix_3, ix_4]; done) | rfl | (simp_all [ix_0, ix_1, ix_2, ix_3, ix_4]; done)) (by first | exact eq65.rf | exact eq65_cp))
  ·
    refine xg_iload_n (pc := 8) dX7_on_8 rfl ?_
    refine xg_i2l (pc := 9) dX7_on_9 ?_
    refine xg_iconst (v := 0) (pc := 10) dX7_on_10 (by decide) ?_
    refine xg_bipush (v := 72) (pc := 11) dX7_on_11 (by decide) ?_
    refine xg_csI (pc := 13) (h1 := hp lk o mf wf q) (x := if 0 ≤ n ∧ n ≤ 72 then 1 else 0) (M' := mX7_in) dX7_on_13 lkX7_48 mcX7_in (ev_in) rfl rfl (Nat.le_of_ble_eq_true rfl) ?_
    refine xg_bz (pc := 16) (tgt := 29) dX7_on_16 (by decide) (fun c_16 => ?_) (fun c_16 => ?_)
    ·
      refine xg_aload_n (pc := 29) dX7_on_29 rfl ?_
      refine xg_ldc (v := -1000000001) (pc := 30) dX7_on_30 ccX7_42 ?_
      refine xg_cvI (pc := 32) (h1 := hp lk o mf wf (q.1, q.2.1, upd q.2.2.1 0 (q.2.2.1 0 + 1), q.2.2.2.1, q.2.2.2.2.1, q.2.2.2.2.2.1, q.2.2.2.2.2.2.1, q.2.2.2.2.2.2.2.1, q.2.2.2.2.2.2.2.2.1, q.2.2.2.2.2.2.2.2.2.1, q.2.2.2.2.2.2.2.2.2.2.1, q.2.2.2.2.2.2.2.2.2.2.2.1, q.2.2.2.2.2.2.2.2.2.2.2.2.1, q.2.2.2.2.2.2.2.2.2.2.2.2.2.1, q.2.2.2.2.2.2.2.2.2.2.2.2.2.2)) (x := -1000000001) (M' := mX7_finds) dX7_on_32 lkX7_44 mcX7_finds hp_62 rfl (ev_X7_finds (j := 0) (by decide) (by decide)) rfl rfl (Nat.le_of_ble_eq_true rfl) ?_
      exact xg_iret (pc := 35) dX7_on_35 rfl (rqR (j := (some 0)) (g := mf) (by unfold sp_on; refine (if_neg (by first | exact ⟨c_5, c_16, c_26⟩ | exact (fun q => c_5 q.1) | exact (fun q => c_16 q.2.1) | exact (fun q => c_26 q.2.2))).trans ?_; first | (with_reducible rfl) | (simp only [*, ix_0, ix_1, ix_2, ix_3, ix_4]; done) | (simp [*, ix_0, ix_1, ix_2, ix_3, ix_4]; done) | rfl | (simp_all [ix_0, ix_1, ix_2, ix_3, ix_4]; done)) (by first | exact eq65.rf | exact eq65_cp))
    ·
      refine xg_iload_n (pc := 19) dX7_on_19 rfl ?_
      refine xg_i2l (pc := 20) dX7_on_20 ?_
      refine xg_iconst (v := 0) (pc := 21) dX7_on_21 (by decide) ?_
      refine xg_iconst (v := 1) (pc := 22) dX7_on_22 (by decide) ?_
      refine xg_csI (pc := 23) (h1 := hp lk o mf wf q) (x := if 0 ≤ w ∧ w ≤ 1 then 1 else 0) (M' := mX7_in) dX7_on_23 lkX7_48 mcX7_in (ev_in) rfl rfl (Nat.le_of_ble_eq_true rfl) ?_
      refine xg_bnz (pc := 26) (tgt := 36) dX7_on_26 (by decide) (fun c_26 => ?_) (fun c_26 => ?_)
      ·
        obtain ⟨bn, hbn, rfl⟩ := idxB ok c_5
        have ebn : ix (nI bn) = bn := nI_clamp (by omega)
        obtain ⟨nn, hnn, rfl⟩ := rngN (n := 72) c_16 (by decide)
        have enn : ix (nI nn) = nn := nI_clamp (by omega)
        refine xg_aload_n (pc := 36) dX7_on_36 rfl ?_
        refine xg_cvV (pc := 37) (h1 := hp lk o mf (cpF 65 mf wf) q) (M' := mX7_thinks) dX7_on_37 lkX7_147 mcX7_thinks hp_62 rfl (ev_X7_thinks) rfl rfl (Nat.le_of_ble_eq_true rfl) ?_
        rcases w01 c_26 with rfl | rfl
        ·
          refine xg_aload_n (pc := 40) dX7_on_40 rfl ?_
          refine xg_iload_n (pc := 41) dX7_on_41 rfl ?_
          refine xg_cvV (pc := 42) (h1 := hp lk o (hsC nn mf) (cpF 65 mf wf) q) (M' := mX7_goesOn) dX7_on_42 lkX7_137 mcX7_goesOn hp_62 rfl (ev_goC (n := nn) okp (by omega)) rfl rfl (Nat.le_of_ble_eq_true rfl) ?_
          refine xg_aload_n (pc := 45) dX7_on_45 rfl ?_
          refine xg_iload_n (pc := 46) dX7_on_46 rfl ?_
          refine xg_iconst (v := 2) (pc := 47) dX7_on_47 (by decide) ?_
          refine xg_iload_n (pc := 48) dX7_on_48 rfl ?_
          refine xg_iadd (pc := 49) dX7_on_49 ?_
          refine xg_cvI (pc := 50) (h1 := hp lk o (hsC nn mf) (cpF 65 mf wf) q) (x := (hsC nn mf) (45 + 4 * bn + 2 + 0)) (M' := mX7_has) dX7_on_50 lkX7_77 mcX7_has hp_62 rfl (ev_X7_has (j := bn) (w := 2 + 0) (by omega)) rfl rfl (Nat.le_of_ble_eq_true rfl) ?_
          refine xg_istore (pc := 53) (ls' := [some (.ref 62), some (.int (nI bn)), some (.int (nI nn)), some (.int 0), some (.int ((hsC nn mf) (45 + 4 * bn + 2 + 0)))]) dX7_on_53 (by decide) rfl ?_
          refine xg_aload_n (pc := 55) dX7_on_55 rfl ?_
          refine xg_cvV (pc := 56) (h1 := hp lk o (cpF 65 (cpF 65 mf wf) (hsC nn mf)) (cpF 65 mf wf) q) (M' := mX7_putsBack) dX7_on_56 lkX7_150 mcX7_putsBack hp_62 rfl (ev_X7_putsBack) rfl rfl (Nat.le_of_ble_eq_true rfl) ?_
          refine xg_iload (pc := 59) dX7_on_59 rfl ?_
          exact xg_iret (pc := 61) dX7_on_61 rfl (rqR (j := none) (g := mf) (by unfold sp_on; refine (if_pos (by first | exact ⟨c_5, c_16, c_26⟩ | exact (fun q => c_5 q.1) | exact (fun q => c_16 q.2.1) | exact (fun q => c_26 q.2.2))).trans ?_; first | (with_reducible rfl) | (simp only [*, ix_0, ix_1, ix_2, ix_3, ix_4]; done) | (simp [*, ix_0, ix_1, ix_2, ix_3, ix_4]; done) | rfl | (simp_all [ix_0, ix_1, ix_2, ix_3, ix_4]; done)) (by first | exact eq65.rf | exact eq65_cp))
        ·
          refine xg_aload_n (pc := 40) dX7_on_40 rfl ?_
          refine xg_iload_n (pc := 41) dX7_on_41 rfl ?_
          refine xg_cvV (pc := 42) (h1 := hp lk o (hsC nn mf) (cpF 65 mf wf) q) (M' := mX7_goesOn) dX7_on_42 lkX7_137 mcX7_goesOn hp_62 rfl (ev_goC (n := nn) okp (by omega)) rfl rfl (Nat.le_of_ble_eq_true rfl) ?_
          refine xg_aload_n (pc := 45) dX7_on_45 rfl ?_
          refine xg_iload_n (pc := 46) dX7_on_46 rfl ?_
          refine xg_iconst (v := 2) (pc := 47) dX7_on_47 (by decide) ?_
          refine xg_iload_n (pc := 48) dX7_on_48 rfl ?_
          refine xg_iadd (pc := 49) dX7_on_49 ?_
          refine xg_cvI (pc := 50) (h1 := hp lk o (hsC nn mf) (cpF 65 mf wf) q) (x := (hsC nn mf) (45 + 4 * bn + 2 + 1)) (M' := mX7_has) dX7_on_50 lkX7_77 mcX7_has hp_62 rfl (ev_X7_has (j := bn) (w := 2 + 1) (by omega)) rfl rfl (Nat.le_of_ble_eq_true rfl) ?_
          refine xg_istore (pc := 53) (ls' := [some (.ref 62), some (.int (nI bn)), some (.int (nI nn)), some (.int 1), some (.int ((hsC nn mf) (45 + 4 * bn + 2 + 1)))]) dX7_on_53 (by decide) rfl ?_
          refine xg_aload_n (pc := 55) dX7_on_55 rfl ?_
          refine xg_cvV (pc := 56) (h1 := hp lk o (cpF 65 (cpF 65 mf wf) (hsC nn mf)) (cpF 65 mf wf) q) (M' := mX7_putsBack) dX7_on_56 lkX7_150 mcX7_putsBack hp_62 rfl (ev_X7_putsBack) rfl rfl (Nat.le_of_ble_eq_true rfl) ?_
          refine xg_iload (pc := 59) dX7_on_59 rfl ?_
          exact xg_iret (pc := 61) dX7_on_61 rfl (rqR (j := none) (g := mf) (by unfold sp_on; refine (if_pos (by first | exact ⟨c_5, c_16, c_26⟩ | exact (fun q => c_5 q.1) | exact (fun q => c_16 q.2.1) | exact (fun q => c_26 q.2.2))).trans ?_; first | (with_reducible rfl) | (simp only [*, ix_0, ix_1, ix_2, ix_3, ix_4]; done) | (simp [*, ix_0, ix_1, ix_2, ix_3, ix_4]; done) | rfl | (simp_all [ix_0, ix_1, ix_2, ix_3, ix_4]; done)) (by first | exact eq65.rf | exact eq65_cp))
      ·
        refine xg_aload_n (pc := 29) dX7_on_29 rfl ?_
        refine xg_ldc (v := -1000000001) (pc := 30) dX7_on_30 ccX7_42 ?_
        refine xg_cvI (pc := 32) (h1 := hp lk o mf wf (q.1, q.2.1, upd q.2.2.1 0 (q.2.2.1 0 + 1), q.2.2.2.1, q.2.2.2.2.1, q.2.2.2.2.2.1, q.2.2.2.2.2.2.1, q.2.2.2.2.2.2.2.1, q.2.2.2.2.2.2.2.2.1, q.2.2.2.2.2.2.2.2.2.1, q.2.2.2.2.2.2.2.2.2.2.1, q.2.2.2.2.2.2.2.2.2.2.2.1, q.2.2.2.2.2.2.2.2.2.2.2.2.1, q.2.2.2.2.2.2.2.2.2.2.2.2.2.1, q.2.2.2.2.2.2.2.2.2.2.2.2.2.2)) (x := -1000000001) (M' := mX7_finds) dX7_on_32 lkX7_44 mcX7_finds hp_62 rfl (ev_X7_finds (j := 0) (by decide) (by decide)) rfl rfl (Nat.le_of_ble_eq_true rfl) ?_
        exact xg_iret (pc := 35) dX7_on_35 rfl (rqR (j := (some 0)) (g := mf) (by unfold sp_on; refine (if_neg (by first | exact ⟨c_5, c_16, c_26⟩ | exact (fun q => c_5 q.1) | exact (fun q => c_16 q.2.1) | exact (fun q => c_26 q.2.2))).trans ?_; first | (with_reducible rfl) | (simp only [*, ix_0, ix_1, ix_2, ix_3, ix_4]; done) | (simp [*, ix_0, ix_1, ix_2, ix_3, ix_4]; done) | rfl | (simp_all [ix_0, ix_1, ix_2, ix_3, ix_4]; done)) (by first | exact eq65.rf | exact eq65_cp))
set_option maxRecDepth 100000 in
set_option maxHeartbeats 4000000 in
theorem ev_X7_light {t n : Int32} (okp : okP mf) : xEv X false (d + 8) 0 0 mX7_light [.ref 62, .int t, .int n] (hp lk o mf wf q) (RQ lk o q (sp_light mf (hsC (ix n) mf) t n)) := by
  have ok := okp.1.1
  have h8 := ok.2.1
  have h5 := ok.2.2.2
  refine xEv.of (ls := [some (.ref 62), some (.int t), some (.int n), none]) mcX7_light.1.2.2.2.2 (Nat.le_of_ble_eq_true rfl) rfl ?_
  refine xg_aload_n (pc := 0) dX7_light_0 rfl ?_
  refine xg_iload_n (pc := 1) dX7_light_1 rfl ?_
  refine xg_cvI (pc := 2) (h1 := hp lk o mf wf q) (x := if 0 ≤ t ∧ t < mf 3 then 1 else 0) (M' := mX7_isThing) dX7_light_2 lkX7_106 mcX7_isThing hp_62 rfl (ev_isT ok) rfl rfl (Nat.le_of_ble_eq_true rfl) ?_
  refine xg_bz (pc := 5) (tgt := 19) dX7_light_5 (by decide) (fun c_5 => ?_) (fun c_5 => ?_)
  ·
    refine xg_aload_n (pc := 19) dX7_light_19 rfl ?_
    refine xg_ldc (v := -1000000001) (pc := 20) dX7_light_20 ccX7_42 ?_
    refine xg_cvI (pc := 22) (h1 := hp lk o mf wf (q.1, q.2.1, upd q.2.2.1 0 (q.2.2.1 0 + 1), q.2.2.2.1, q.2.2.2.2.1, q.2.2.2.2.2.1, q.2.2.2.2.2.2.1, q.2.2.2.2.2.2.2.1, q.2.2.2.2.2.2.2.2.1, q.2.2.2.2.2.2.2.2.2.1, q.2.2.2.2.2.2.2.2.2.2.1, q.2.2.2.2.2.2.2.2.2.2.2.1, q.2.2.2.2.2.2.2.2.2.2.2.2.1, q.2.2.2.2.2.2.2.2.2.2.2.2.2.1, q.2.2.2.2.2.2.2.2.2.2.2.2.2.2)) (x := -1000000001) (M' := mX7_finds) dX7_light_22 lkX7_44 mcX7_finds hp_62 rfl (ev_X7_finds (j := 0) (by decide) (by decide)) rfl rfl (Nat.le_of_ble_eq_true rfl) ?_
    exact xg_iret (pc := 25) dX7_light_25 rfl (rqR (j := (some 0)) (g := mf) (by unfold sp_light; refine (if_neg (by first | exact ⟨c_5, c_16⟩ | exact (fun q => c_5 q.1) | exact (fun q => c_16 q.2))).trans ?_; first | (with_reducible rfl) | (simp only [*, ix_0, ix_1, ix_2, ix_3, ix_4]; done) | (simp [*, ix_0, ix_1, ix_2, ix_3, ix_4]; done) | rfl | (simp_all [ix_0, ix_1, ix_2, ix_3, ix_4]; done)) (by first | exact eq65.rf | exact eq65_cp))
  ·
    refine xg_iload_n (pc := 8) dX7_light_8 rfl ?_
    refine xg_i2l (pc := 9) dX7_light_9 ?_
    refine xg_iconst (v := 0) (pc := 10) dX7_light_10 (by decide) ?_
    refine xg_bipush (v := 72) (pc := 11) dX7_light_11 (by decide) ?_
    refine xg_csI (pc := 13) (h1 := hp lk o mf wf q) (x := if 0 ≤ n ∧ n ≤ 72 then 1 else 0) (M' := mX7_in) dX7_light_13 lkX7_48 mcX7_in (ev_in) rfl rfl (Nat.le_of_ble_eq_true rfl) ?_
    refine xg_bnz (pc := 16) (tgt := 26) dX7_light_16 (by decide) (fun c_16 => ?_) (fun c_16 => ?_)
    ·
      obtain ⟨tn, htn, rfl⟩ := idxT ok c_5
      have etn : ix (nI tn) = tn := nI_clamp (by omega)
      obtain ⟨nn, hnn, rfl⟩ := rngN (n := 72) c_16 (by decide)
      have enn : ix (nI nn) = nn := nI_clamp (by omega)
      refine xg_aload_n (pc := 26) dX7_light_26 rfl ?_
      refine xg_cvV (pc := 27) (h1 := hp lk o mf (cpF 65 mf wf) q) (M' := mX7_thinks) dX7_light_27 lkX7_147 mcX7_thinks hp_62 rfl (ev_X7_thinks) rfl rfl (Nat.le_of_ble_eq_true rfl) ?_
      refine xg_aload_n (pc := 30) dX7_light_30 rfl ?_
      refine xg_iload_n (pc := 31) dX7_light_31 rfl ?_
      refine xg_cvV (pc := 32) (h1 := hp lk o (hsC nn mf) (cpF 65 mf wf) q) (M' := mX7_goesOn) dX7_light_32 lkX7_137 mcX7_goesOn hp_62 rfl (ev_goC (n := nn) okp (by omega)) rfl rfl (Nat.le_of_ble_eq_true rfl) ?_
      refine xg_aload_n (pc := 35) dX7_light_35 rfl ?_
      refine xg_iload_n (pc := 36) dX7_light_36 rfl ?_
      refine xg_iconst (v := 3) (pc := 37) dX7_light_37 (by decide) ?_
      refine xg_cvI (pc := 38) (h1 := hp lk o (hsC nn mf) (cpF 65 mf wf) q) (x := (hsC nn mf) (5 + 5 * tn + 3)) (M' := mX7_lit) dX7_light_38 lkX7_52 mcX7_lit hp_62 rfl (ev_X7_lit (t := tn) (w := 3) (by omega)) rfl rfl (Nat.le_of_ble_eq_true rfl) ?_
      refine xg_istore_n (pc := 41) (ls' := [some (.ref 62), some (.int (nI tn)), some (.int (nI nn)), some (.int ((hsC nn mf) (5 + 5 * tn + 3)))]) dX7_light_41 (by decide) rfl ?_
      refine xg_aload_n (pc := 42) dX7_light_42 rfl ?_
      refine xg_cvV (pc := 43) (h1 := hp lk o (cpF 65 (cpF 65 mf wf) (hsC nn mf)) (cpF 65 mf wf) q) (M' := mX7_putsBack) dX7_light_43 lkX7_150 mcX7_putsBack hp_62 rfl (ev_X7_putsBack) rfl rfl (Nat.le_of_ble_eq_true rfl) ?_
      refine xg_iload_n (pc := 46) dX7_light_46 rfl ?_
      exact xg_iret (pc := 47) dX7_light_47 rfl (rqR (j := none) (g := mf) (by unfold sp_light; refine (if_pos (by first | exact ⟨c_5, c_16⟩ | exact (fun q => c_5 q.1) | exact (fun q => c_16 q.2))).trans ?_; first | (with_reducible rfl) | (simp only [*, ix_0, ix_1, ix_2, ix_3, ix_4]; done) | (simp [*, ix_0, ix_1, ix_2, ix_3, ix_4]; done) | rfl | (simp_all [ix_0, ix_1, ix_2, ix_3, ix_4]; done)) (by first | exact eq65.rf | exact eq65_cp))
    ·
      refine xg_aload_n (pc := 19) dX7_light_19 rfl ?_
      refine xg_ldc (v := -1000000001) (pc := 20) dX7_light_20 ccX7_42 ?_
      refine xg_cvI (pc := 22) (h1 := hp lk o mf wf (q.1, q.2.1, upd q.2.2.1 0 (q.2.2.1 0 + 1), q.2.2.2.1, q.2.2.2.2.1, q.2.2.2.2.2.1, q.2.2.2.2.2.2.1, q.2.2.2.2.2.2.2.1, q.2.2.2.2.2.2.2.2.1, q.2.2.2.2.2.2.2.2.2.1, q.2.2.2.2.2.2.2.2.2.2.1, q.2.2.2.2.2.2.2.2.2.2.2.1, q.2.2.2.2.2.2.2.2.2.2.2.2.1, q.2.2.2.2.2.2.2.2.2.2.2.2.2.1, q.2.2.2.2.2.2.2.2.2.2.2.2.2.2)) (x := -1000000001) (M' := mX7_finds) dX7_light_22 lkX7_44 mcX7_finds hp_62 rfl (ev_X7_finds (j := 0) (by decide) (by decide)) rfl rfl (Nat.le_of_ble_eq_true rfl) ?_
      exact xg_iret (pc := 25) dX7_light_25 rfl (rqR (j := (some 0)) (g := mf) (by unfold sp_light; refine (if_neg (by first | exact ⟨c_5, c_16⟩ | exact (fun q => c_5 q.1) | exact (fun q => c_16 q.2))).trans ?_; first | (with_reducible rfl) | (simp only [*, ix_0, ix_1, ix_2, ix_3, ix_4]; done) | (simp [*, ix_0, ix_1, ix_2, ix_3, ix_4]; done) | rfl | (simp_all [ix_0, ix_1, ix_2, ix_3, ix_4]; done)) (by first | exact eq65.rf | exact eq65_cp))
set_option maxRecDepth 100000 in
theorem ev_X7_worthOn {j n : Nat} (okp : okP mf) (hj : j < nB mf) (hn : n < 2 ^ 31) : xDv X false (d + 8) mX7_worthOn [.ref 62, .int (nI j), .int (nI n)] (hp lk o mf wf q) [.int (wo (hsC n mf) j)] (hp lk o (cpF 65 wf (hsC n mf)) wf q) := by
  have ok := okp.1.1
  have h8 := ok.2.1
  have h5 := ok.2.2.2
  refine xDv.of (ls := [some (.ref 62), some (.int (nI j)), some (.int (nI n)), none]) mcX7_worthOn.1.2.2.2.2 (Nat.le_of_ble_eq_true rfl) rfl ?_
  refine xg_aload_n (pc := 0) dX7_worthOn_0 rfl ?_
  refine xg_iload_n (pc := 1) dX7_worthOn_1 rfl ?_
  refine xg_cvV (pc := 2) (h1 := hp lk o (hsC n mf) wf q) (M' := mX7_goesOn) dX7_worthOn_2 lkX7_137 mcX7_goesOn hp_62 rfl (ev_goC (n := n) okp (by omega)) rfl rfl (Nat.le_of_ble_eq_true rfl) ?_
  refine xg_iload_n (pc := 5) dX7_worthOn_5 rfl ?_
  refine xg_if_ge (pc := 6) (tgt := 23) dX7_worthOn_6 (by decide) (fun c_6 => ?_) (fun c_6 => absurd c_6 (fun q => q (nI_pos' (by omega))))
  refine xg_aload_n (pc := 23) dX7_worthOn_23 rfl ?_
  refine xg_iload_n (pc := 24) dX7_worthOn_24 rfl ?_
  refine xg_iconst (v := 3) (pc := 25) dX7_worthOn_25 (by decide) ?_
  refine xg_cvI (pc := 26) (h1 := hp lk o (hsC n mf) wf q) (x := (hsC n mf) (45 + 4 * j + 3)) (M' := mX7_has) dX7_worthOn_26 lkX7_77 mcX7_has hp_62 rfl (ev_X7_has (j := j) (w := 3) (by omega)) rfl rfl (Nat.le_of_ble_eq_true rfl) ?_
  refine xg_aload_n (pc := 29) dX7_worthOn_29 rfl ?_
  refine xg_iload_n (pc := 30) dX7_worthOn_30 rfl ?_
  refine xg_iconst (v := 2) (pc := 31) dX7_worthOn_31 (by decide) ?_
  refine xg_cvI (pc := 32) (h1 := hp lk o (hsC n mf) wf q) (x := (hsC n mf) (45 + 4 * j + 2)) (M' := mX7_has) dX7_worthOn_32 lkX7_77 mcX7_has hp_62 rfl (ev_X7_has (j := j) (w := 2) (by omega)) rfl rfl (Nat.le_of_ble_eq_true rfl) ?_
  refine xg_iadd (pc := 35) dX7_worthOn_35 ?_
  refine xg_istore_n (pc := 36) (ls' := [some (.ref 62), some (.int (nI j)), some (.int (nI n)), some (.int (((hsC n mf) (45 + 4 * j + 3)) + ((hsC n mf) (45 + 4 * j + 2))))]) dX7_worthOn_36 (by decide) rfl ?_
  refine xg_aload_n (pc := 37) dX7_worthOn_37 rfl ?_
  refine xg_cvV (pc := 38) (h1 := hp lk o (cpF 65 wf (hsC n mf)) wf q) (M' := mX7_putsBack) dX7_worthOn_38 lkX7_150 mcX7_putsBack hp_62 rfl (ev_X7_putsBack) rfl rfl (Nat.le_of_ble_eq_true rfl) ?_
  refine xg_iload_n (pc := 41) dX7_worthOn_41 rfl ?_
  exact xg_iret (pc := 42) dX7_worthOn_42 rfl (⟨by rfl, rfl⟩)
set_option maxRecDepth 100000 in
theorem ev_worthA {n : Nat} (okp : okP mf) (hn : n < 2 ^ 31) : xDv X false (d + 8) mX7_worthOn [.ref 62, .int (-1), .int (nI n)] (hp lk o mf wf q) [.int (woA (hsC n mf))] (hp lk o (cpF 65 wf (hsC n mf)) wf q) := by
  have ok := okp.1.1
  have h8 := ok.2.1
  have h5 := ok.2.2.2
  refine xDv.of (ls := [some (.ref 62), some (.int (-1)), some (.int (nI n)), none]) mcX7_worthOn.1.2.2.2.2 (Nat.le_of_ble_eq_true rfl) rfl ?_
  refine xg_aload_n (pc := 0) dX7_worthOn_0 rfl ?_
  refine xg_iload_n (pc := 1) dX7_worthOn_1 rfl ?_
  refine xg_cvV (pc := 2) (h1 := hp lk o (hsC n mf) wf q) (M' := mX7_goesOn) dX7_worthOn_2 lkX7_137 mcX7_goesOn hp_62 rfl (ev_goC (n := n) okp (by omega)) rfl rfl (Nat.le_of_ble_eq_true rfl) ?_
  refine xg_iload_n (pc := 5) dX7_worthOn_5 rfl ?_
  refine xg_if_ge (pc := 6) (tgt := 23) dX7_worthOn_6 (by decide) (fun c_6 => absurd c_6 (by decide)) (fun c_6 => ?_)
  refine xg_aload_n (pc := 9) dX7_worthOn_9 rfl ?_
  refine xg_iconst (v := 3) (pc := 10) dX7_worthOn_10 (by decide) ?_
  refine xg_cvI (pc := 11) (h1 := hp lk o (hsC n mf) wf q) (x := sumI (sB (hsC n mf) 3) (nB (hsC n mf))) (M' := mX7_sumOf) dX7_worthOn_11 lkX7_140 mcX7_sumOf hp_62 rfl (ev_X7_sumOf (hsC_ok okp.1 n).1 (w := 3) (by decide)) rfl rfl (Nat.le_of_ble_eq_true rfl) ?_
  refine xg_aload_n (pc := 14) dX7_worthOn_14 rfl ?_
  refine xg_iconst (v := 2) (pc := 15) dX7_worthOn_15 (by decide) ?_
  refine xg_cvI (pc := 16) (h1 := hp lk o (hsC n mf) wf q) (x := sumI (sB (hsC n mf) 2) (nB (hsC n mf))) (M' := mX7_sumOf) dX7_worthOn_16 lkX7_140 mcX7_sumOf hp_62 rfl (ev_X7_sumOf (hsC_ok okp.1 n).1 (w := 2) (by decide)) rfl rfl (Nat.le_of_ble_eq_true rfl) ?_
  refine xg_iadd (pc := 19) dX7_worthOn_19 ?_
  refine xg_goto (pc := 20) (tgt := 36) dX7_worthOn_20 (by decide) ?_
  refine xg_istore_n (pc := 36) (ls' := [some (.ref 62), some (.int (-1)), some (.int (nI n)), some (.int ((sumI (sB (hsC n mf) 3) (nB (hsC n mf))) + (sumI (sB (hsC n mf) 2) (nB (hsC n mf)))))]) dX7_worthOn_36 (by decide) rfl ?_
  refine xg_aload_n (pc := 37) dX7_worthOn_37 rfl ?_
  refine xg_cvV (pc := 38) (h1 := hp lk o (cpF 65 wf (hsC n mf)) wf q) (M' := mX7_putsBack) dX7_worthOn_38 lkX7_150 mcX7_putsBack hp_62 rfl (ev_X7_putsBack) rfl rfl (Nat.le_of_ble_eq_true rfl) ?_
  refine xg_iload_n (pc := 41) dX7_worthOn_41 rfl ?_
  exact xg_iret (pc := 42) dX7_worthOn_42 rfl (⟨by rfl, rfl⟩)
end
