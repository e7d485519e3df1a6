section
variable {X : xS} {d : Nat} {o : xO} {mf wf : Nat → Int32} {q : xQ} {f0 f1 f2 : Nat → Int32} {lk : Nat → Nat → Int32} {L : Nat} {t : Tk}
set_option maxRecDepth 100000 in
theorem lp_X4_isWord {w : Nat} (hL : o.2.2.1 = nI L) (hL2 : L ≤ 120) (okt : okT o.2.2.2.1 L t) (hw : w < 16) (hln : t.2.2.1 - t.2.1 = xln.getD w 0) : ∀ (k tq : Nat), tq + k = xln.getD w 0 → xGo X false (d + 4) 0 0 mX4_isWord 28 [some (.ref 51), some (.ref (1100 + w)), some (.int (nI tq))] [] (hp lk (oK o t) mf wf q) (fun v h' => v = [.int (al (fun i => o.2.2.2.1 (t.2.1 + i) = (xby.getD w []).getD i 0) k tq)] ∧ h' = hp lk (oK o t) mf wf q) := by
  intro k
  induction k with
  | zero =>
    intro tq ht
    have hl7 := ln_ok w hw
    have ht1 := okt.1
    have ht2 := okt.2.1
    have etq : tq = xln.getD w 0 := by omega
    subst etq
    refine xg_iload_n (pc := 28) dX4_isWord_28 rfl ?_
    refine xg_aload_n (pc := 29) dX4_isWord_29 rfl ?_
    refine xg_ctI (pc := 30) (h1 := hp lk (oK o t) mf wf q) (x := nI (xln.getD w 0)) (M' := mJ0_length_8abf5) (i := w) dX4_isWord_30 lkX4_111 mcJ0_length_8abf5 hw rfl (ev_J0_length_8abf5 hw) rfl rfl (Nat.le_of_ble_eq_true rfl) ?_
    refine xg_icmp_ge (pc := 33) (tgt := 66) dX4_isWord_33 (by decide) (fun c_33 => ?_) (fun c_33 => absurd c_33 (fun q => q (nI_le (by omega) (by omega))))
    refine xg_iconst (v := 1) (pc := 66) dX4_isWord_66 (by decide) ?_
    exact xg_zret (pc := 67) (ty := .boolean) dX4_isWord_67 rfl rfl (⟨rfl, rfl⟩)
  | succ k ih =>
    intro tq ht
    have hl7 := ln_ok w hw
    have ht1 := okt.1
    have ht2 := okt.2.1
    refine xg_iload_n (pc := 28) dX4_isWord_28 rfl ?_
    refine xg_aload_n (pc := 29) dX4_isWord_29 rfl ?_
    refine xg_ctI (pc := 30) (h1 := hp lk (oK o t) mf wf q) (x := nI (xln.getD w 0)) (M' := mJ0_length_8abf5) (i := w) dX4_isWord_30 lkX4_111 mcJ0_length_8abf5 hw rfl (ev_J0_length_8abf5 hw) rfl rfl (Nat.le_of_ble_eq_true rfl) ?_
    refine xg_icmp_ge (pc := 33) (tgt := 66) dX4_isWord_33 (by decide) (fun c_33 => absurd c_33 (nI_ge (by omega) (by omega))) (fun c_33 => ?_)
    refine xg_aload_n (pc := 36) dX4_isWord_36 rfl ?_
    refine xg_get (pc := 37) dX4_isWord_37 flX4_9 hp_51 rfl ?_
    refine xg_get (pc := 40) dX4_isWord_40 flX4_116 hp_49 rfl ?_
    refine xg_aload_n (pc := 43) dX4_isWord_43 rfl ?_
    refine xg_get (pc := 44) dX4_isWord_44 flX4_26 hp_51 rfl ?_
    refine xg_eq (show _ = nI t.2.1 from rfl) ?_
    refine xg_iload_n (pc := 47) dX4_isWord_47 rfl ?_
    refine xg_iadd (pc := 48) dX4_isWord_48 ?_
    refine xg_iald (pc := 49) (t.2.1 + tq) dX4_isWord_49 hp_50 (by simp only [xlit, nI_add, pk_mul]) (by omega) (by decide) ?_
    refine xg_aload_n (pc := 50) dX4_isWord_50 rfl ?_
    refine xg_iload_n (pc := 51) dX4_isWord_51 rfl ?_
    refine xg_ctI (pc := 52) (h1 := hp lk (oK o t) mf wf q) (x := (xby.getD w []).getD tq 0) (M' := mJ0_charAt_5068e) (i := w) dX4_isWord_52 lkX4_122 mcJ0_charAt_5068e hw rfl (ev_J0_charAt_5068e hw (by omega)) rfl rfl (Nat.le_of_ble_eq_true rfl) ?_
    refine xg_icmp_eq (pc := 55) (tgt := 60) dX4_isWord_55 (by decide) (fun c_55 => ?_) (fun c_55 => ?_)
    ·
      refine xg_iinc (pc := 60) (y := nI (tq + 1)) (ls' := [some (.ref 51), some (.ref (1100 + w)), some (.int (nI (tq + 1)))]) dX4_isWord_60 rfl (xinc _) (by decide) rfl ?_
      refine xg_goto (pc := 63) (tgt := 28) dX4_isWord_63 (by decide) ?_
      rw [show al (fun i => o.2.2.2.1 (t.2.1 + i) = (xby.getD w []).getD i 0) (k + 1) tq = al (fun i => o.2.2.2.1 (t.2.1 + i) = (xby.getD w []).getD i 0) k (tq + 1) from if_pos c_55]
      exact ih (tq + 1) (by omega)
    ·
      refine xg_iconst (v := 0) (pc := 58) dX4_isWord_58 (by decide) ?_
      exact xg_zret (pc := 59) (ty := .boolean) dX4_isWord_59 rfl rfl (⟨by rw [show al (fun i => o.2.2.2.1 (t.2.1 + i) = (xby.getD w []).getD i 0) (k + 1) tq = 0 from if_neg c_55], rfl⟩)
set_option maxRecDepth 100000 in
theorem ev_X4_isWord {w : Nat} (hL : o.2.2.1 = nI L) (hL2 : L ≤ 120) (okt : okT o.2.2.2.1 L t) (hw : w < 16) : xDv X false (d + 4) mX4_isWord [.ref 51, .ref (1100 + w)] (hp lk (oK o t) mf wf q) [.int (if wrd o.2.2.2.1 t w then 1 else 0)] (hp lk (oK o t) mf wf q) := by
  have hl7 := ln_ok w hw
  have ht1 := okt.1
  have ht2 := okt.2.1
  refine xDv.of (ls := [some (.ref 51), some (.ref (1100 + w)), none]) mcX4_isWord.1.2.2.2.2 (Nat.le_of_ble_eq_true rfl) rfl ?_
  refine xg_aload_n (pc := 0) dX4_isWord_0 rfl ?_
  refine xg_get (pc := 1) dX4_isWord_1 flX4_29 hp_51 rfl ?_
  refine xg_eq (show _ = nI t.1 from rfl) ?_
  refine xg_iconst (v := 1) (pc := 4) dX4_isWord_4 (by decide) ?_
  refine xg_icmp_ne (pc := 5) (tgt := 24) dX4_isWord_5 (by decide) (fun c_5 => ?_) (fun c_5 => ?_)
  ·
    refine xg_iconst (v := 0) (pc := 24) dX4_isWord_24 (by decide) ?_
    exact xg_zret (pc := 25) (ty := .boolean) dX4_isWord_25 rfl rfl (⟨by rw [if_neg (fun z => c_5 (by rw [z.1]; rfl))], rfl⟩)
  ·
    refine xg_aload_n (pc := 8) dX4_isWord_8 rfl ?_
    refine xg_get (pc := 9) dX4_isWord_9 flX4_15 hp_51 rfl ?_
    refine xg_eq (show _ = nI t.2.2.1 from rfl) ?_
    refine xg_aload_n (pc := 12) dX4_isWord_12 rfl ?_
    refine xg_get (pc := 13) dX4_isWord_13 flX4_26 hp_51 rfl ?_
    refine xg_eq (show _ = nI t.2.1 from rfl) ?_
    refine xg_isub (pc := 16) dX4_isWord_16 ?_
    refine xg_eq (pk_sub okt.1) ?_
    refine xg_aload_n (pc := 17) dX4_isWord_17 rfl ?_
    refine xg_ctI (pc := 18) (h1 := hp lk (oK o t) mf wf q) (x := nI (xln.getD w 0)) (M' := mJ0_length_8abf5) (i := w) dX4_isWord_18 lkX4_111 mcJ0_length_8abf5 hw rfl (ev_J0_length_8abf5 hw) rfl rfl (Nat.le_of_ble_eq_true rfl) ?_
    refine xg_icmp_eq (pc := 21) (tgt := 26) dX4_isWord_21 (by decide) (fun c_21 => ?_) (fun c_21 => ?_)
    ·
      refine xg_iconst (v := 0) (pc := 26) dX4_isWord_26 (by decide) ?_
      refine xg_istore_n (pc := 27) (ls' := [some (.ref 51), some (.ref (1100 + w)), some (.int 0)]) dX4_isWord_27 (by decide) rfl ?_
      have h1 : t.1 = 1 := (nI_eq (b := 1) (by have := okt.2.2.2.1; omega) (by omega)).mp c_5
      have hln : t.2.2.1 - t.2.1 = xln.getD w 0 := (nI_eq (by omega) (by omega)).mp c_21
      refine xg_mono (fun v h' q => ?_) (lp_X4_isWord hL hL2 okt hw hln (xln.getD w 0) 0 (by omega))
      rw [q.1, q.2]
      refine ⟨?_, rfl⟩
      rcases al01 (P := (fun i => o.2.2.2.1 (t.2.1 + i) = (xby.getD w []).getD i 0)) (xln.getD w 0) 0 with z | z
      · rw [if_neg (fun y => by have := y.2.2; rw [z] at this; exact absurd this (by decide)), z]
      · rw [if_pos ⟨h1, hln, z⟩, z]
    ·
      refine xg_iconst (v := 0) (pc := 24) dX4_isWord_24 (by decide) ?_
      exact xg_zret (pc := 25) (ty := .boolean) dX4_isWord_25 rfl rfl (⟨by rw [if_neg (fun z => c_21 (by rw [z.2.1]))], rfl⟩)
theorem ev_isW {w : Nat} (hL : o.2.2.1 = nI L) (hL2 : L ≤ 120) (okt : okT o.2.2.2.1 L t) (hw : w < 16) : xDv X false (d + 4) mX4_isWord [.ref 51, .ref (1100 + w)] (hp lk (oK o t) mf wf q) [.int (if cd o.2.2.2.1 t = w then 1 else 0)] (hp lk (oK o t) mf wf q) := by
  refine (ev_X4_isWord hL hL2 okt hw).eq ?_ rfl
  by_cases z : wrd o.2.2.2.1 t w
  · rw [if_pos z, if_pos ((cd_iff hw).mp z)]
  · rw [if_neg z, if_neg (fun y => z ((cd_iff hw).mpr y))]
set_option maxRecDepth 100000 in
theorem ev_X4_numberAfter {w lo hi : Nat} {so : Int32} (hL : o.2.2.1 = nI L) (hL2 : L ≤ 120) (okt : okT o.2.2.2.1 L t) (hw : w < 16) (hlo : lo ≤ hi) (hhi : hi ≤ 99) : xDv X false (d + 5) mX4_numberAfter [.ref 51, .ref (1100 + w), .int (nI lo), .int (nI hi), .int so] (hp lk (oK o t) mf wf q) [.int ((nA o.2.2.2.1 L w lo hi so t).1)] (hp lk (oK o ((nA o.2.2.2.1 L w lo hi so t).2)) mf wf q) := by
  have okn := nx_ok okt
  refine xDv.of (ls := [some (.ref 51), some (.ref (1100 + w)), some (.int (nI lo)), some (.int (nI hi)), some (.int so), none]) mcX4_numberAfter.1.2.2.2.2 (Nat.le_of_ble_eq_true rfl) rfl ?_
  refine xg_aload_n (pc := 0) dX4_numberAfter_0 rfl ?_
  refine xg_aload_n (pc := 1) dX4_numberAfter_1 rfl ?_
  refine xg_cvI (pc := 2) (h1 := hp lk (oK o t) mf wf q) (x := if cd o.2.2.2.1 t = w then 1 else 0) (M' := mX4_isWord) dX4_numberAfter_2 lkX4_42 mcX4_isWord hp_51 rfl (ev_isW hL hL2 okt hw) rfl rfl (Nat.le_of_ble_eq_true rfl) ?_
  refine xg_bnz (pc := 5) (tgt := 11) dX4_numberAfter_5 (by decide) (fun c_5 => ?_) (fun c_5 => ?_)
  ·
    refine xg_aload_n (pc := 11) dX4_numberAfter_11 rfl ?_
    refine xg_cvV (pc := 12) (h1 := hp lk (oK o (nx o.2.2.2.1 L t)) mf wf q) (M' := mX4_nextToken) dX4_numberAfter_12 lkX4_19 mcX4_nextToken hp_51 rfl (ev_nx hL hL2 okt) rfl rfl (Nat.le_of_ble_eq_true rfl) ?_
    refine xg_aload_n (pc := 15) dX4_numberAfter_15 rfl ?_
    refine xg_get (pc := 16) dX4_numberAfter_16 flX4_29 hp_51 rfl ?_
    refine xg_eq (show _ = nI (nx o.2.2.2.1 L t).1 from rfl) ?_
    refine xg_iconst (v := 2) (pc := 19) dX4_numberAfter_19 (by decide) ?_
    refine xg_icmp_ne (pc := 20) (tgt := 39) dX4_numberAfter_20 (by decide) (fun c_20 => ?_) (fun c_20 => ?_)
    ·
      have hbad : ¬ ((nx o.2.2.2.1 L t).1 = 2 ∧ lo ≤ (nx o.2.2.2.1 L t).2.2.2 ∧ (nx o.2.2.2.1 L t).2.2.2 ≤ hi) := fun z => c_20 (by rw [z.1]; rfl)
      refine xg_iconst (v := -1) (pc := 39) dX4_numberAfter_39 (by decide) ?_
      exact xg_iret (pc := 40) dX4_numberAfter_40 rfl (⟨by unfold nA nU; rw [if_pos c_5, if_neg hbad], by unfold nA nU; rw [if_pos c_5, if_neg hbad]⟩)
    ·
      refine xg_aload_n (pc := 23) dX4_numberAfter_23 rfl ?_
      refine xg_get (pc := 24) dX4_numberAfter_24 flX4_96 hp_51 rfl ?_
      refine xg_eq (show _ = nI (min (nx o.2.2.2.1 L t).2.2.2 1000) from rfl) ?_
      refine xg_iload_n (pc := 27) dX4_numberAfter_27 rfl ?_
      refine xg_icmp_lt (pc := 28) (tgt := 39) dX4_numberAfter_28 (by decide) (fun c_28 => ?_) (fun c_28 => ?_)
      ·
        have hbad : ¬ ((nx o.2.2.2.1 L t).1 = 2 ∧ lo ≤ (nx o.2.2.2.1 L t).2.2.2 ∧ (nx o.2.2.2.1 L t).2.2.2 ≤ hi) := fun z => by have y := (nI_ltI (by omega) (by omega)).mp c_28; have := z.2.1; omega
        refine xg_iconst (v := -1) (pc := 39) dX4_numberAfter_39 (by decide) ?_
        exact xg_iret (pc := 40) dX4_numberAfter_40 rfl (⟨by unfold nA nU; rw [if_pos c_5, if_neg hbad], by unfold nA nU; rw [if_pos c_5, if_neg hbad]⟩)
      ·
        refine xg_aload_n (pc := 31) dX4_numberAfter_31 rfl ?_
        refine xg_get (pc := 32) dX4_numberAfter_32 flX4_96 hp_51 rfl ?_
        refine xg_eq (show _ = nI (min (nx o.2.2.2.1 L t).2.2.2 1000) from rfl) ?_
        refine xg_iload_n (pc := 35) dX4_numberAfter_35 rfl ?_
        refine xg_icmp_le (pc := 36) (tgt := 41) dX4_numberAfter_36 (by decide) (fun c_36 => ?_) (fun c_36 => ?_)
        ·
          have g1 : (nx o.2.2.2.1 L t).1 = 2 := (nI_eq (b := 2) (by have := okn.1.2.2.2.1; omega) (by omega)).mp c_20
          have g2 : lo ≤ min (nx o.2.2.2.1 L t).2.2.2 1000 := Nat.le_of_not_lt (fun x => c_28 (nI_lt x (by omega)))
          have g3 : min (nx o.2.2.2.1 L t).2.2.2 1000 ≤ hi := (nI_leI (by omega) (by omega)).mp c_36
          have hgood : (nx o.2.2.2.1 L t).1 = 2 ∧ lo ≤ (nx o.2.2.2.1 L t).2.2.2 ∧ (nx o.2.2.2.1 L t).2.2.2 ≤ hi := ⟨g1, by omega, by omega⟩
          have emin : min (nx o.2.2.2.1 L t).2.2.2 1000 = (nx o.2.2.2.1 L t).2.2.2 := by omega
          refine xg_aload_n (pc := 41) dX4_numberAfter_41 rfl ?_
          refine xg_get (pc := 42) dX4_numberAfter_42 flX4_96 hp_51 rfl ?_
          refine xg_eq (show _ = nI (min (nx o.2.2.2.1 L t).2.2.2 1000) from rfl) ?_
          refine xg_istore (pc := 45) (ls' := [some (.ref 51), some (.ref (1100 + w)), some (.int (nI lo)), some (.int (nI hi)), some (.int so), some (.int (nI (min (nx o.2.2.2.1 L t).2.2.2 1000)))]) dX4_numberAfter_45 (by decide) rfl ?_
          refine xg_aload_n (pc := 47) dX4_numberAfter_47 rfl ?_
          refine xg_cvV (pc := 48) (h1 := hp lk (oK o (nx o.2.2.2.1 L (nx o.2.2.2.1 L t))) mf wf q) (M' := mX4_nextToken) dX4_numberAfter_48 lkX4_19 mcX4_nextToken hp_51 rfl (ev_nx hL hL2 okn.1) rfl rfl (Nat.le_of_ble_eq_true rfl) ?_
          refine xg_iload (pc := 51) dX4_numberAfter_51 rfl ?_
          exact xg_iret (pc := 53) dX4_numberAfter_53 rfl (⟨by unfold nA nU; rw [if_pos c_5, if_pos hgood, emin], by unfold nA nU; rw [if_pos c_5, if_pos hgood]⟩)
        ·
          have hbad : ¬ ((nx o.2.2.2.1 L t).1 = 2 ∧ lo ≤ (nx o.2.2.2.1 L t).2.2.2 ∧ (nx o.2.2.2.1 L t).2.2.2 ≤ hi) := fun z => by have y : ¬ min (nx o.2.2.2.1 L t).2.2.2 1000 ≤ hi := fun x => c_36 (nI_le x (by omega)); have := z.2.2; omega
          refine xg_iconst (v := -1) (pc := 39) dX4_numberAfter_39 (by decide) ?_
          exact xg_iret (pc := 40) dX4_numberAfter_40 rfl (⟨by unfold nA nU; rw [if_pos c_5, if_neg hbad], by unfold nA nU; rw [if_pos c_5, if_neg hbad]⟩)
  ·
    refine xg_iload (pc := 8) dX4_numberAfter_8 rfl ?_
    exact xg_iret (pc := 10) dX4_numberAfter_10 rfl (⟨by unfold nA; rw [if_neg c_5], by unfold nA; rw [if_neg c_5]⟩)
set_option maxRecDepth 100000 in
theorem ev_X4_kindNamed  (hL : o.2.2.1 = nI L) (hL2 : L ≤ 120) (okt : okT o.2.2.2.1 L t) : xDv X false (d + 5) mX4_kindNamed [.ref 51] (hp lk (oK o t) mf wf q) [.int (if cd o.2.2.2.1 t ≤ 5 then nI (cd o.2.2.2.1 t) else -1)] (hp lk (oK o t) mf wf q) := by
  refine xDv.of (ls := [some (.ref 51)]) mcX4_kindNamed.1.2.2.2.2 (Nat.le_of_ble_eq_true rfl) rfl ?_
  refine xg_aload_n (pc := 0) dX4_kindNamed_0 rfl ?_
  refine xg_ldS (i := 0) (pc := 1) dX4_kindNamed_1 rfl (by decide) rfl ?_
  refine xg_cvI (pc := 3) (h1 := hp lk (oK o t) mf wf q) (x := if cd o.2.2.2.1 t = 0 then 1 else 0) (M' := mX4_isWord) dX4_kindNamed_3 lkX4_42 mcX4_isWord hp_51 rfl (ev_isW hL hL2 okt (by decide)) rfl rfl (Nat.le_of_ble_eq_true rfl) ?_
  refine xg_bz (pc := 6) (tgt := 11) dX4_kindNamed_6 (by decide) (fun c_6 => ?_) (fun c_6 => ?_)
  ·
    refine xg_aload_n (pc := 11) dX4_kindNamed_11 rfl ?_
    refine xg_ldS (i := 1) (pc := 12) dX4_kindNamed_12 rfl (by decide) rfl ?_
    refine xg_cvI (pc := 14) (h1 := hp lk (oK o t) mf wf q) (x := if cd o.2.2.2.1 t = 1 then 1 else 0) (M' := mX4_isWord) dX4_kindNamed_14 lkX4_42 mcX4_isWord hp_51 rfl (ev_isW hL hL2 okt (by decide)) rfl rfl (Nat.le_of_ble_eq_true rfl) ?_
    refine xg_bz (pc := 17) (tgt := 22) dX4_kindNamed_17 (by decide) (fun c_17 => ?_) (fun c_17 => ?_)
    ·
      refine xg_aload_n (pc := 22) dX4_kindNamed_22 rfl ?_
      refine xg_ldS (i := 2) (pc := 23) dX4_kindNamed_23 rfl (by decide) rfl ?_
      refine xg_cvI (pc := 25) (h1 := hp lk (oK o t) mf wf q) (x := if cd o.2.2.2.1 t = 2 then 1 else 0) (M' := mX4_isWord) dX4_kindNamed_25 lkX4_42 mcX4_isWord hp_51 rfl (ev_isW hL hL2 okt (by decide)) rfl rfl (Nat.le_of_ble_eq_true rfl) ?_
      refine xg_bz (pc := 28) (tgt := 33) dX4_kindNamed_28 (by decide) (fun c_28 => ?_) (fun c_28 => ?_)
      ·
        refine xg_aload_n (pc := 33) dX4_kindNamed_33 rfl ?_
        refine xg_ldS (i := 3) (pc := 34) dX4_kindNamed_34 rfl (by decide) rfl ?_
        refine xg_cvI (pc := 36) (h1 := hp lk (oK o t) mf wf q) (x := if cd o.2.2.2.1 t = 3 then 1 else 0) (M' := mX4_isWord) dX4_kindNamed_36 lkX4_42 mcX4_isWord hp_51 rfl (ev_isW hL hL2 okt (by decide)) rfl rfl (Nat.le_of_ble_eq_true rfl) ?_
        refine xg_bz (pc := 39) (tgt := 44) dX4_kindNamed_39 (by decide) (fun c_39 => ?_) (fun c_39 => ?_)
        ·
          refine xg_aload_n (pc := 44) dX4_kindNamed_44 rfl ?_
          refine xg_ldS (i := 4) (pc := 45) dX4_kindNamed_45 rfl (by decide) rfl ?_
          refine xg_cvI (pc := 47) (h1 := hp lk (oK o t) mf wf q) (x := if cd o.2.2.2.1 t = 4 then 1 else 0) (M' := mX4_isWord) dX4_kindNamed_47 lkX4_42 mcX4_isWord hp_51 rfl (ev_isW hL hL2 okt (by decide)) rfl rfl (Nat.le_of_ble_eq_true rfl) ?_
          refine xg_bz (pc := 50) (tgt := 55) dX4_kindNamed_50 (by decide) (fun c_50 => ?_) (fun c_50 => ?_)
          ·
            refine xg_aload_n (pc := 55) dX4_kindNamed_55 rfl ?_
            refine xg_ldS (i := 5) (pc := 56) dX4_kindNamed_56 rfl (by decide) rfl ?_
            refine xg_cvI (pc := 58) (h1 := hp lk (oK o t) mf wf q) (x := if cd o.2.2.2.1 t = 5 then 1 else 0) (M' := mX4_isWord) dX4_kindNamed_58 lkX4_42 mcX4_isWord hp_51 rfl (ev_isW hL hL2 okt (by decide)) rfl rfl (Nat.le_of_ble_eq_true rfl) ?_
            refine xg_bz (pc := 61) (tgt := 68) dX4_kindNamed_61 (by decide) (fun c_61 => ?_) (fun c_61 => ?_)
            ·
              refine xg_iconst (v := -1) (pc := 68) dX4_kindNamed_68 (by decide) ?_
              exact xg_iret (pc := 69) dX4_kindNamed_69 rfl (⟨by rw [if_neg (by omega)], rfl⟩)
            ·
              refine xg_iconst (v := 5) (pc := 64) dX4_kindNamed_64 (by decide) ?_
              refine xg_goto (pc := 65) (tgt := 69) dX4_kindNamed_65 (by decide) ?_
              exact xg_iret (pc := 69) dX4_kindNamed_69 rfl (⟨by rw [c_61]; rfl, rfl⟩)
          ·
            refine xg_iconst (v := 4) (pc := 53) dX4_kindNamed_53 (by decide) ?_
            exact xg_iret (pc := 54) dX4_kindNamed_54 rfl (⟨by rw [c_50]; rfl, rfl⟩)
        ·
          refine xg_iconst (v := 3) (pc := 42) dX4_kindNamed_42 (by decide) ?_
          exact xg_iret (pc := 43) dX4_kindNamed_43 rfl (⟨by rw [c_39]; rfl, rfl⟩)
      ·
        refine xg_iconst (v := 2) (pc := 31) dX4_kindNamed_31 (by decide) ?_
        exact xg_iret (pc := 32) dX4_kindNamed_32 rfl (⟨by rw [c_28]; rfl, rfl⟩)
    ·
      refine xg_iconst (v := 1) (pc := 20) dX4_kindNamed_20 (by decide) ?_
      exact xg_iret (pc := 21) dX4_kindNamed_21 rfl (⟨by rw [c_17]; rfl, rfl⟩)
  ·
    refine xg_iconst (v := 0) (pc := 9) dX4_kindNamed_9 (by decide) ?_
    exact xg_iret (pc := 10) dX4_kindNamed_10 rfl (⟨by rw [c_6]; rfl, rfl⟩)
set_option maxRecDepth 100000 in
theorem ev_rpI1  (hL : o.2.2.1 = nI L) (hL2 : L ≤ 120) (okt : okT o.2.2.2.1 L t) (hcd : cd o.2.2.2.1 t = 12) : xDv X false (d + 6) mX4_readRipples [.ref 51, .ref (1 + 16 * 1), .ref (1100 + 12), .int 1] (hp (tri f0 f1 f2) (oK o t) mf wf q) [.int ((rpI o.2.2.2.1 L 1 t f1).1)] (hp (tri f0 ((rpI o.2.2.2.1 L 1 t f1).2.2) f2) (oK o ((rpI o.2.2.2.1 L 1 t f1).2.1)) mf wf q) := by
  refine xDv.of (ls := [some (.ref 51), some (.ref (1 + 16 * 1)), some (.ref (1100 + 12)), some (.int 1), none]) mcX4_readRipples.1.2.2.2.2 (Nat.le_of_ble_eq_true rfl) rfl ?_
  refine xg_aload_n (pc := 0) dX4_readRipples_0 rfl ?_
  refine xg_aload_n (pc := 1) dX4_readRipples_1 rfl ?_
  refine xg_iconst (v := 0) (pc := 2) dX4_readRipples_2 (by decide) ?_
  refine xg_bipush (v := 7) (pc := 3) dX4_readRipples_3 (by decide) ?_
  refine xg_iconst (v := -1) (pc := 5) dX4_readRipples_5 (by decide) ?_
  refine xg_cvI (pc := 6) (h1 := hp (tri f0 f1 f2) (oK o (nU o.2.2.2.1 L 0 7 (nx o.2.2.2.1 L t)).2) mf wf q) (x := (nU o.2.2.2.1 L 0 7 (nx o.2.2.2.1 L t)).1) (M' := mX4_numberAfter) dX4_readRipples_6 lkX4_70 mcX4_numberAfter hp_51 rfl ((ev_X4_numberAfter (w := 12) (lo := 0) (hi := 7) hL hL2 okt (by decide) (by omega) (by omega)).eq (by rw [show nA o.2.2.2.1 L 12 0 7 (-1) t = nU o.2.2.2.1 L 0 7 (nx o.2.2.2.1 L t) from if_pos hcd]) (by rw [show nA o.2.2.2.1 L 12 0 7 (-1) t = nU o.2.2.2.1 L 0 7 (nx o.2.2.2.1 L t) from if_pos hcd])) rfl rfl (Nat.le_of_ble_eq_true rfl) ?_
  refine xg_istore (pc := 9) (ls' := [some (.ref 51), some (.ref (1 + 16 * 1)), some (.ref (1100 + 12)), some (.int 1), some (.int ((nU o.2.2.2.1 L 0 7 (nx o.2.2.2.1 L t)).1))]) dX4_readRipples_9 (by decide) rfl ?_
  refine xg_iload (pc := 11) dX4_readRipples_11 rfl ?_
  refine xg_iconst (v := -1) (pc := 13) dX4_readRipples_13 (by decide) ?_
  refine xg_icmp_ne (pc := 14) (tgt := 19) dX4_readRipples_14 (by decide) (fun c_14 => ?_) (fun c_14 => ?_)
  ·
    refine xg_iload_n (pc := 19) dX4_readRipples_19 rfl ?_
    refine xg_if_eq (pc := 20) (tgt := 39) dX4_readRipples_20 (by decide) (fun c_20 => absurd c_20 (by decide)) (fun c_20 => ?_)
    refine xg_aload_n (pc := 23) dX4_readRipples_23 rfl ?_
    refine xg_dup (pc := 24) dX4_readRipples_24 rfl ?_
    refine xg_get (pc := 25) dX4_readRipples_25 flX4_93 (hp_lake1 ) rfl ?_
    refine xg_iconst (v := 1) (pc := 28) dX4_readRipples_28 (by decide) ?_
    refine xg_iload (pc := 29) dX4_readRipples_29 rfl ?_
    refine xg_ishl (pc := 31) dX4_readRipples_31 ?_
    refine xg_ior (pc := 32) dX4_readRipples_32 ?_
    refine xg_puti (pc := 33) (h' := hp (tri f0 (upd f1 1 ((f1 1) ||| (1 <<< (((nU o.2.2.2.1 L 0 7 (nx o.2.2.2.1 L t)).1) &&& 31)))) f2) (oK o (nU o.2.2.2.1 L 0 7 (nx o.2.2.2.1 L t)).2) mf wf q) dX4_readRipples_33 flX4_93 (hp_lake1 ) (Nat.le_of_ble_eq_true rfl) (hs_lk1  (by decide)) ?_
    refine xg_goto (pc := 36) (tgt := 54) dX4_readRipples_36 (by decide) ?_
    refine xg_iconst (v := 1) (pc := 54) dX4_readRipples_54 (by decide) ?_
    exact xg_zret (pc := 55) (ty := .boolean) dX4_readRipples_55 rfl rfl (⟨by unfold rpI; rw [if_neg c_14], by unfold rpI rpO; rw [if_neg c_14]; rfl⟩)
  ·
    refine xg_iconst (v := 0) (pc := 17) dX4_readRipples_17 (by decide) ?_
    exact xg_zret (pc := 18) (ty := .boolean) dX4_readRipples_18 rfl rfl (⟨by unfold rpI; rw [if_pos c_14], by unfold rpI; rw [if_pos c_14]⟩)
set_option maxRecDepth 100000 in
theorem ev_rpI0  (hL : o.2.2.1 = nI L) (hL2 : L ≤ 120) (okt : okT o.2.2.2.1 L t) (hcd : cd o.2.2.2.1 t = 13) : xDv X false (d + 6) mX4_readRipples [.ref 51, .ref (1 + 16 * 1), .ref (1100 + 13), .int 0] (hp (tri f0 f1 f2) (oK o t) mf wf q) [.int ((rpI o.2.2.2.1 L 0 t f1).1)] (hp (tri f0 ((rpI o.2.2.2.1 L 0 t f1).2.2) f2) (oK o ((rpI o.2.2.2.1 L 0 t f1).2.1)) mf wf q) := by
  refine xDv.of (ls := [some (.ref 51), some (.ref (1 + 16 * 1)), some (.ref (1100 + 13)), some (.int 0), none]) mcX4_readRipples.1.2.2.2.2 (Nat.le_of_ble_eq_true rfl) rfl ?_
  refine xg_aload_n (pc := 0) dX4_readRipples_0 rfl ?_
  refine xg_aload_n (pc := 1) dX4_readRipples_1 rfl ?_
  refine xg_iconst (v := 0) (pc := 2) dX4_readRipples_2 (by decide) ?_
  refine xg_bipush (v := 7) (pc := 3) dX4_readRipples_3 (by decide) ?_
  refine xg_iconst (v := -1) (pc := 5) dX4_readRipples_5 (by decide) ?_
  refine xg_cvI (pc := 6) (h1 := hp (tri f0 f1 f2) (oK o (nU o.2.2.2.1 L 0 7 (nx o.2.2.2.1 L t)).2) mf wf q) (x := (nU o.2.2.2.1 L 0 7 (nx o.2.2.2.1 L t)).1) (M' := mX4_numberAfter) dX4_readRipples_6 lkX4_70 mcX4_numberAfter hp_51 rfl ((ev_X4_numberAfter (w := 13) (lo := 0) (hi := 7) hL hL2 okt (by decide) (by omega) (by omega)).eq (by rw [show nA o.2.2.2.1 L 13 0 7 (-1) t = nU o.2.2.2.1 L 0 7 (nx o.2.2.2.1 L t) from if_pos hcd]) (by rw [show nA o.2.2.2.1 L 13 0 7 (-1) t = nU o.2.2.2.1 L 0 7 (nx o.2.2.2.1 L t) from if_pos hcd])) rfl rfl (Nat.le_of_ble_eq_true rfl) ?_
  refine xg_istore (pc := 9) (ls' := [some (.ref 51), some (.ref (1 + 16 * 1)), some (.ref (1100 + 13)), some (.int 0), some (.int ((nU o.2.2.2.1 L 0 7 (nx o.2.2.2.1 L t)).1))]) dX4_readRipples_9 (by decide) rfl ?_
  refine xg_iload (pc := 11) dX4_readRipples_11 rfl ?_
  refine xg_iconst (v := -1) (pc := 13) dX4_readRipples_13 (by decide) ?_
  refine xg_icmp_ne (pc := 14) (tgt := 19) dX4_readRipples_14 (by decide) (fun c_14 => ?_) (fun c_14 => ?_)
  ·
    refine xg_iload_n (pc := 19) dX4_readRipples_19 rfl ?_
    refine xg_if_eq (pc := 20) (tgt := 39) dX4_readRipples_20 (by decide) (fun c_20 => ?_) (fun c_20 => absurd c_20 (by decide))
    refine xg_aload_n (pc := 39) dX4_readRipples_39 rfl ?_
    refine xg_dup (pc := 40) dX4_readRipples_40 rfl ?_
    refine xg_get (pc := 41) dX4_readRipples_41 flX4_93 (hp_lake1 ) rfl ?_
    refine xg_iconst (v := 1) (pc := 44) dX4_readRipples_44 (by decide) ?_
    refine xg_iload (pc := 45) dX4_readRipples_45 rfl ?_
    refine xg_ishl (pc := 47) dX4_readRipples_47 ?_
    refine xg_iconst (v := -1) (pc := 48) dX4_readRipples_48 (by decide) ?_
    refine xg_ixor (pc := 49) dX4_readRipples_49 ?_
    refine xg_iand (pc := 50) dX4_readRipples_50 ?_
    refine xg_puti (pc := 51) (h' := hp (tri f0 (upd f1 1 ((f1 1) &&& ((1 <<< (((nU o.2.2.2.1 L 0 7 (nx o.2.2.2.1 L t)).1) &&& 31)) ^^^ (-1)))) f2) (oK o (nU o.2.2.2.1 L 0 7 (nx o.2.2.2.1 L t)).2) mf wf q) dX4_readRipples_51 flX4_93 (hp_lake1 ) (Nat.le_of_ble_eq_true rfl) (hs_lk1  (by decide)) ?_
    refine xg_iconst (v := 1) (pc := 54) dX4_readRipples_54 (by decide) ?_
    exact xg_zret (pc := 55) (ty := .boolean) dX4_readRipples_55 rfl rfl (⟨by unfold rpI; rw [if_neg c_14], by unfold rpI rpO; rw [if_neg c_14]; rfl⟩)
  ·
    refine xg_iconst (v := 0) (pc := 17) dX4_readRipples_17 (by decide) ?_
    exact xg_zret (pc := 18) (ty := .boolean) dX4_readRipples_18 rfl rfl (⟨by unfold rpI; rw [if_pos c_14], by unfold rpI; rw [if_pos c_14]⟩)
set_option maxRecDepth 100000 in
theorem ev_X4_readBoat  (hL : o.2.2.1 = nI L) (hL2 : L ≤ 120) (okt : okT o.2.2.2.1 L t) (ok : okN f1) (hcd : cd o.2.2.2.1 t = 10) : xDv X false (d + 6) mX4_readBoat [.ref 51, .ref (1 + 16 * 1)] (hp (tri f0 f1 f2) (oK o t) mf wf q) [.int ((boI o.2.2.2.1 L t f1).1)] (hp (tri f0 ((boI o.2.2.2.1 L t f1).2.2) f2) (oK o ((boI o.2.2.2.1 L t f1).2.1)) mf wf q) := by
  have okn := nx_ok okt
  have h5 := ok.2.2.2
  refine xDv.of (ls := [some (.ref 51), some (.ref (1 + 16 * 1)), none, none]) mcX4_readBoat.1.2.2.2.2 (Nat.le_of_ble_eq_true rfl) rfl ?_
  refine xg_aload_n (pc := 0) dX4_readBoat_0 rfl ?_
  refine xg_get (pc := 1) dX4_readBoat_1 flX4_84 (hp_lake1 ) rfl ?_
  refine xg_iconst (v := 5) (pc := 4) dX4_readBoat_4 (by decide) ?_
  refine xg_icmp_lt (pc := 5) (tgt := 10) dX4_readBoat_5 (by decide) (fun c_5 => ?_) (fun c_5 => ?_)
  ·
    refine xg_aload_n (pc := 10) dX4_readBoat_10 rfl ?_
    refine xg_ldS (i := 10) (pc := 11) dX4_readBoat_11 rfl (by decide) rfl ?_
    refine xg_iconst (v := 0) (pc := 13) dX4_readBoat_13 (by decide) ?_
    refine xg_bipush (v := 47) (pc := 14) dX4_readBoat_14 (by decide) ?_
    refine xg_iconst (v := -1) (pc := 16) dX4_readBoat_16 (by decide) ?_
    refine xg_cvI (pc := 17) (h1 := hp (tri f0 f1 f2) (oK o (nU o.2.2.2.1 L 0 47 (nx o.2.2.2.1 L t)).2) mf wf q) (x := (nU o.2.2.2.1 L 0 47 (nx o.2.2.2.1 L t)).1) (M' := mX4_numberAfter) dX4_readBoat_17 lkX4_70 mcX4_numberAfter hp_51 rfl ((ev_X4_numberAfter (w := 10) (lo := 0) (hi := 47) hL hL2 okt (by decide) (by omega) (by omega)).eq (by rw [show nA o.2.2.2.1 L 10 0 47 (-1) t = nU o.2.2.2.1 L 0 47 (nx o.2.2.2.1 L t) from if_pos hcd]) (by rw [show nA o.2.2.2.1 L 10 0 47 (-1) t = nU o.2.2.2.1 L 0 47 (nx o.2.2.2.1 L t) from if_pos hcd])) rfl rfl (Nat.le_of_ble_eq_true rfl) ?_
    refine xg_istore_n (pc := 20) (ls' := [some (.ref 51), some (.ref (1 + 16 * 1)), some (.int ((nU o.2.2.2.1 L 0 47 (nx o.2.2.2.1 L t)).1)), none]) dX4_readBoat_20 (by decide) rfl ?_
    refine xg_iload_n (pc := 21) dX4_readBoat_21 rfl ?_
    refine xg_iconst (v := -1) (pc := 22) dX4_readBoat_22 (by decide) ?_
    refine xg_icmp_ne (pc := 23) (tgt := 28) dX4_readBoat_23 (by decide) (fun c_23 => ?_) (fun c_23 => ?_)
    ·
      refine xg_aload_n (pc := 28) dX4_readBoat_28 rfl ?_
      refine xg_ldS (i := 11) (pc := 29) dX4_readBoat_29 rfl (by decide) rfl ?_
      refine xg_iconst (v := 0) (pc := 31) dX4_readBoat_31 (by decide) ?_
      refine xg_bipush (v := 99) (pc := 32) dX4_readBoat_32 (by decide) ?_
      refine xg_bipush (v := 10) (pc := 34) dX4_readBoat_34 (by decide) ?_
      refine xg_cvI (pc := 36) (h1 := hp (tri f0 f1 f2) (oK o (nA o.2.2.2.1 L 11 0 99 10 (nU o.2.2.2.1 L 0 47 (nx o.2.2.2.1 L t)).2).2) mf wf q) (x := (nA o.2.2.2.1 L 11 0 99 10 (nU o.2.2.2.1 L 0 47 (nx o.2.2.2.1 L t)).2).1) (M' := mX4_numberAfter) dX4_readBoat_36 lkX4_70 mcX4_numberAfter hp_51 rfl (ev_X4_numberAfter (w := 11) (lo := 0) (hi := 99) hL hL2 (nU_ok okn.1).1 (by decide) (by omega) (by omega)) rfl rfl (Nat.le_of_ble_eq_true rfl) ?_
      refine xg_istore_n (pc := 39) (ls' := [some (.ref 51), some (.ref (1 + 16 * 1)), some (.int ((nU o.2.2.2.1 L 0 47 (nx o.2.2.2.1 L t)).1)), some (.int ((nA o.2.2.2.1 L 11 0 99 10 (nU o.2.2.2.1 L 0 47 (nx o.2.2.2.1 L t)).2).1))]) dX4_readBoat_39 (by decide) rfl ?_
      refine xg_iload_n (pc := 40) dX4_readBoat_40 rfl ?_
      refine xg_iconst (v := -1) (pc := 41) dX4_readBoat_41 (by decide) ?_
      refine xg_icmp_ne (pc := 42) (tgt := 47) dX4_readBoat_42 (by decide) (fun c_42 => ?_) (fun c_42 => ?_)
      ·
        have hr5 : nB f1 < 5 := lt_of5 ok c_5
        refine xg_aload_n (pc := 47) dX4_readBoat_47 rfl ?_
        refine xg_iload_n (pc := 48) dX4_readBoat_48 rfl ?_
        refine xg_iload_n (pc := 49) dX4_readBoat_49 rfl ?_
        refine xg_cvV (pc := 50) (h1 := hp (tri f0 (aB f1 ((nU o.2.2.2.1 L 0 47 (nx o.2.2.2.1 L t)).1) ((nA o.2.2.2.1 L 11 0 99 10 (nU o.2.2.2.1 L 0 47 (nx o.2.2.2.1 L t)).2).1)) f2) (oK o (nA o.2.2.2.1 L 11 0 99 10 (nU o.2.2.2.1 L 0 47 (nx o.2.2.2.1 L t)).2).2) mf wf q) (M' := mX1_addBoat) dX4_readBoat_50 lkX4_89 mcX1_addBoat (hp_lake1 ) rfl (ev1_X1_addBoat ok (by omega)) rfl rfl (Nat.le_of_ble_eq_true rfl) ?_
        refine xg_iconst (v := 1) (pc := 53) dX4_readBoat_53 (by decide) ?_
        exact xg_zret (pc := 54) (ty := .boolean) dX4_readBoat_54 rfl rfl (⟨by unfold boI bo2; rw [if_neg (Int32.not_le.mpr c_5), if_neg c_23, if_neg c_42], by unfold boI bo2; rw [if_neg (Int32.not_le.mpr c_5), if_neg c_23, if_neg c_42]⟩)
      ·
        refine xg_iconst (v := 0) (pc := 45) dX4_readBoat_45 (by decide) ?_
        exact xg_zret (pc := 46) (ty := .boolean) dX4_readBoat_46 rfl rfl (⟨by unfold boI bo2; rw [if_neg (Int32.not_le.mpr c_5), if_neg c_23, if_pos c_42], by unfold boI bo2; rw [if_neg (Int32.not_le.mpr c_5), if_neg c_23, if_pos c_42]⟩)
    ·
      refine xg_iconst (v := 0) (pc := 26) dX4_readBoat_26 (by decide) ?_
      exact xg_zret (pc := 27) (ty := .boolean) dX4_readBoat_27 rfl rfl (⟨by unfold boI; rw [if_neg (Int32.not_le.mpr c_5), if_pos c_23], by unfold boI; rw [if_neg (Int32.not_le.mpr c_5), if_pos c_23]⟩)
  ·
    refine xg_iconst (v := 0) (pc := 8) dX4_readBoat_8 (by decide) ?_
    exact xg_zret (pc := 9) (ty := .boolean) dX4_readBoat_9 rfl rfl (⟨by unfold boI; rw [if_pos (Int32.not_lt.mp c_5)], by unfold boI; rw [if_pos (Int32.not_lt.mp c_5)]⟩)
set_option maxRecDepth 100000 in
theorem go_th4 {k c h l : Int32} (hL : o.2.2.1 = nI L) (hL2 : L ≤ 120) (okt : okT o.2.2.2.1 L t) (ok : okN f1) (h8 : nT f1 < 8) : xGo X false (d + 6) 0 0 mX4_readThing 74 [some (.ref 51), some (.ref (1 + 16 * 1)), some (.int k), some (.int c), some (.int h), some (.int l), none] [] (hp (tri f0 f1 f2) (oK o t) mf wf q) (fun v h' => v = [.int ((th4 o.2.2.2.1 L k c h l t f1).1)] ∧ h' = hp (tri f0 ((th4 o.2.2.2.1 L k c h l t f1).2.2) f2) (oK o ((th4 o.2.2.2.1 L k c h l t f1).2.1)) mf wf q) := by
  refine xg_aload_n (pc := 74) dX4_readThing_74 rfl ?_
  refine xg_ldS (i := 9) (pc := 75) dX4_readThing_75 rfl (by decide) rfl ?_
  refine xg_iconst (v := 0) (pc := 77) dX4_readThing_77 (by decide) ?_
  refine xg_bipush (v := 9) (pc := 78) dX4_readThing_78 (by decide) ?_
  refine xg_iconst (v := 1) (pc := 80) dX4_readThing_80 (by decide) ?_
  refine xg_cvI (pc := 81) (h1 := hp (tri f0 f1 f2) (oK o (nA o.2.2.2.1 L 9 0 9 1 t).2) mf wf q) (x := (nA o.2.2.2.1 L 9 0 9 1 t).1) (M' := mX4_numberAfter) dX4_readThing_81 lkX4_70 mcX4_numberAfter hp_51 rfl (ev_X4_numberAfter (w := 9) (lo := 0) (hi := 9) hL hL2 okt (by decide) (by omega) (by omega)) rfl rfl (Nat.le_of_ble_eq_true rfl) ?_
  refine xg_istore (pc := 84) (ls' := [some (.ref 51), some (.ref (1 + 16 * 1)), some (.int k), some (.int c), some (.int h), some (.int l), some (.int ((nA o.2.2.2.1 L 9 0 9 1 t).1))]) dX4_readThing_84 (by decide) rfl ?_
  refine xg_iload (pc := 86) dX4_readThing_86 rfl ?_
  refine xg_iconst (v := -1) (pc := 88) dX4_readThing_88 (by decide) ?_
  refine xg_icmp_ne (pc := 89) (tgt := 94) dX4_readThing_89 (by decide) (fun c_89 => ?_) (fun c_89 => ?_)
  ·
    refine xg_aload_n (pc := 94) dX4_readThing_94 rfl ?_
    refine xg_iload_n (pc := 95) dX4_readThing_95 rfl ?_
    refine xg_iload_n (pc := 96) dX4_readThing_96 rfl ?_
    refine xg_iload (pc := 97) dX4_readThing_97 rfl ?_
    refine xg_iload (pc := 99) dX4_readThing_99 rfl ?_
    refine xg_iload (pc := 101) dX4_readThing_101 rfl ?_
    refine xg_cvV (pc := 103) (h1 := hp (tri f0 (aT f1 k c h l ((nA o.2.2.2.1 L 9 0 9 1 t).1)) f2) (oK o (nA o.2.2.2.1 L 9 0 9 1 t).2) mf wf q) (M' := mX1_addThing) dX4_readThing_103 lkX4_80 mcX1_addThing (hp_lake1 ) rfl (ev1_X1_addThing ok (by omega)) rfl rfl (Nat.le_of_ble_eq_true rfl) ?_
    refine xg_iconst (v := 1) (pc := 106) dX4_readThing_106 (by decide) ?_
    exact xg_zret (pc := 107) (ty := .boolean) dX4_readThing_107 rfl rfl (⟨by unfold th4; rw [if_neg c_89], by unfold th4; rw [if_neg c_89]⟩)
  ·
    refine xg_iconst (v := 0) (pc := 92) dX4_readThing_92 (by decide) ?_
    exact xg_zret (pc := 93) (ty := .boolean) dX4_readThing_93 rfl rfl (⟨by unfold th4; rw [if_pos c_89], by unfold th4; rw [if_pos c_89]⟩)
set_option maxRecDepth 100000 in
theorem go_th3 {k c h : Int32} (hL : o.2.2.1 = nI L) (hL2 : L ≤ 120) (okt : okT o.2.2.2.1 L t) (ok : okN f1) (h8 : nT f1 < 8) : xGo X false (d + 6) 0 0 mX4_readThing 53 [some (.ref 51), some (.ref (1 + 16 * 1)), some (.int k), some (.int c), some (.int h), none, none] [] (hp (tri f0 f1 f2) (oK o t) mf wf q) (fun v h' => v = [.int ((th3 o.2.2.2.1 L k c h t f1).1)] ∧ h' = hp (tri f0 ((th3 o.2.2.2.1 L k c h t f1).2.2) f2) (oK o ((th3 o.2.2.2.1 L k c h t f1).2.1)) mf wf q) := by
  refine xg_aload_n (pc := 53) dX4_readThing_53 rfl ?_
  refine xg_ldS (i := 8) (pc := 54) dX4_readThing_54 rfl (by decide) rfl ?_
  refine xg_iconst (v := 0) (pc := 56) dX4_readThing_56 (by decide) ?_
  refine xg_bipush (v := 99) (pc := 57) dX4_readThing_57 (by decide) ?_
  refine xg_bipush (v := 40) (pc := 59) dX4_readThing_59 (by decide) ?_
  refine xg_cvI (pc := 61) (h1 := hp (tri f0 f1 f2) (oK o (nA o.2.2.2.1 L 8 0 99 40 t).2) mf wf q) (x := (nA o.2.2.2.1 L 8 0 99 40 t).1) (M' := mX4_numberAfter) dX4_readThing_61 lkX4_70 mcX4_numberAfter hp_51 rfl (ev_X4_numberAfter (w := 8) (lo := 0) (hi := 99) hL hL2 okt (by decide) (by omega) (by omega)) rfl rfl (Nat.le_of_ble_eq_true rfl) ?_
  refine xg_istore (pc := 64) (ls' := [some (.ref 51), some (.ref (1 + 16 * 1)), some (.int k), some (.int c), some (.int h), some (.int ((nA o.2.2.2.1 L 8 0 99 40 t).1)), none]) dX4_readThing_64 (by decide) rfl ?_
  refine xg_iload (pc := 66) dX4_readThing_66 rfl ?_
  refine xg_iconst (v := -1) (pc := 68) dX4_readThing_68 (by decide) ?_
  refine xg_icmp_ne (pc := 69) (tgt := 74) dX4_readThing_69 (by decide) (fun c_69 => ?_) (fun c_69 => ?_)
  ·
    rw [show th3 o.2.2.2.1 L k c h t f1 = th4 o.2.2.2.1 L k c h (nA o.2.2.2.1 L 8 0 99 40 t).1 (nA o.2.2.2.1 L 8 0 99 40 t).2 f1 from if_neg c_69]
    exact go_th4 hL hL2 (nA_ok okt).1 ok h8
  ·
    refine xg_iconst (v := 0) (pc := 72) dX4_readThing_72 (by decide) ?_
    exact xg_zret (pc := 73) (ty := .boolean) dX4_readThing_73 rfl rfl (⟨by unfold th3; rw [if_pos c_69], by unfold th3; rw [if_pos c_69]⟩)
set_option maxRecDepth 100000 in
theorem go_th2 {k c : Int32} (hL : o.2.2.1 = nI L) (hL2 : L ≤ 120) (okt : okT o.2.2.2.1 L t) (ok : okN f1) (h8 : nT f1 < 8) : xGo X false (d + 6) 0 0 mX4_readThing 33 [some (.ref 51), some (.ref (1 + 16 * 1)), some (.int k), some (.int c), none, none, none] [] (hp (tri f0 f1 f2) (oK o t) mf wf q) (fun v h' => v = [.int ((th2 o.2.2.2.1 L k c t f1).1)] ∧ h' = hp (tri f0 ((th2 o.2.2.2.1 L k c t f1).2.2) f2) (oK o ((th2 o.2.2.2.1 L k c t f1).2.1)) mf wf q) := by
  refine xg_aload_n (pc := 33) dX4_readThing_33 rfl ?_
  refine xg_ldS (i := 7) (pc := 34) dX4_readThing_34 rfl (by decide) rfl ?_
  refine xg_iconst (v := 1) (pc := 36) dX4_readThing_36 (by decide) ?_
  refine xg_bipush (v := 6) (pc := 37) dX4_readThing_37 (by decide) ?_
  refine xg_iconst (v := 3) (pc := 39) dX4_readThing_39 (by decide) ?_
  refine xg_cvI (pc := 40) (h1 := hp (tri f0 f1 f2) (oK o (nA o.2.2.2.1 L 7 1 6 3 t).2) mf wf q) (x := (nA o.2.2.2.1 L 7 1 6 3 t).1) (M' := mX4_numberAfter) dX4_readThing_40 lkX4_70 mcX4_numberAfter hp_51 rfl (ev_X4_numberAfter (w := 7) (lo := 1) (hi := 6) hL hL2 okt (by decide) (by omega) (by omega)) rfl rfl (Nat.le_of_ble_eq_true rfl) ?_
  refine xg_istore (pc := 43) (ls' := [some (.ref 51), some (.ref (1 + 16 * 1)), some (.int k), some (.int c), some (.int ((nA o.2.2.2.1 L 7 1 6 3 t).1)), none, none]) dX4_readThing_43 (by decide) rfl ?_
  refine xg_iload (pc := 45) dX4_readThing_45 rfl ?_
  refine xg_iconst (v := -1) (pc := 47) dX4_readThing_47 (by decide) ?_
  refine xg_icmp_ne (pc := 48) (tgt := 53) dX4_readThing_48 (by decide) (fun c_48 => ?_) (fun c_48 => ?_)
  ·
    rw [show th2 o.2.2.2.1 L k c t f1 = th3 o.2.2.2.1 L k c (nA o.2.2.2.1 L 7 1 6 3 t).1 (nA o.2.2.2.1 L 7 1 6 3 t).2 f1 from if_neg c_48]
    exact go_th3 hL hL2 (nA_ok okt).1 ok h8
  ·
    refine xg_iconst (v := 0) (pc := 51) dX4_readThing_51 (by decide) ?_
    exact xg_zret (pc := 52) (ty := .boolean) dX4_readThing_52 rfl rfl (⟨by unfold th2; rw [if_pos c_48], by unfold th2; rw [if_pos c_48]⟩)
set_option maxRecDepth 100000 in
theorem go_th1 {k : Int32} (hL : o.2.2.1 = nI L) (hL2 : L ≤ 120) (okt : okT o.2.2.2.1 L t) (ok : okN f1) (h8 : nT f1 < 8) : xGo X false (d + 6) 0 0 mX4_readThing 15 [some (.ref 51), some (.ref (1 + 16 * 1)), some (.int k), none, none, none, none] [] (hp (tri f0 f1 f2) (oK o t) mf wf q) (fun v h' => v = [.int ((th1 o.2.2.2.1 L k t f1).1)] ∧ h' = hp (tri f0 ((th1 o.2.2.2.1 L k t f1).2.2) f2) (oK o ((th1 o.2.2.2.1 L k t f1).2.1)) mf wf q) := by
  refine xg_aload_n (pc := 15) dX4_readThing_15 rfl ?_
  refine xg_ldS (i := 6) (pc := 16) dX4_readThing_16 rfl (by decide) rfl ?_
  refine xg_iconst (v := 0) (pc := 18) dX4_readThing_18 (by decide) ?_
  refine xg_bipush (v := 7) (pc := 19) dX4_readThing_19 (by decide) ?_
  refine xg_iconst (v := -1) (pc := 21) dX4_readThing_21 (by decide) ?_
  refine xg_cvI (pc := 22) (h1 := hp (tri f0 f1 f2) (oK o (nA o.2.2.2.1 L 6 0 7 (-1) t).2) mf wf q) (x := (nA o.2.2.2.1 L 6 0 7 (-1) t).1) (M' := mX4_numberAfter) dX4_readThing_22 lkX4_70 mcX4_numberAfter hp_51 rfl (ev_X4_numberAfter (w := 6) (lo := 0) (hi := 7) hL hL2 okt (by decide) (by omega) (by omega)) rfl rfl (Nat.le_of_ble_eq_true rfl) ?_
  refine xg_istore_n (pc := 25) (ls' := [some (.ref 51), some (.ref (1 + 16 * 1)), some (.int k), some (.int ((nA o.2.2.2.1 L 6 0 7 (-1) t).1)), none, none, none]) dX4_readThing_25 (by decide) rfl ?_
  refine xg_iload_n (pc := 26) dX4_readThing_26 rfl ?_
  refine xg_iconst (v := -1) (pc := 27) dX4_readThing_27 (by decide) ?_
  refine xg_icmp_ne (pc := 28) (tgt := 33) dX4_readThing_28 (by decide) (fun c_28 => ?_) (fun c_28 => ?_)
  ·
    rw [show th1 o.2.2.2.1 L k t f1 = th2 o.2.2.2.1 L k (nA o.2.2.2.1 L 6 0 7 (-1) t).1 (nA o.2.2.2.1 L 6 0 7 (-1) t).2 f1 from if_neg c_28]
    exact go_th2 hL hL2 (nA_ok okt).1 ok h8
  ·
    refine xg_iconst (v := 0) (pc := 31) dX4_readThing_31 (by decide) ?_
    exact xg_zret (pc := 32) (ty := .boolean) dX4_readThing_32 rfl rfl (⟨by unfold th1; rw [if_pos c_28], by unfold th1; rw [if_pos c_28]⟩)
set_option maxRecDepth 100000 in
theorem ev_X4_readThing {k : Int32} (hL : o.2.2.1 = nI L) (hL2 : L ≤ 120) (okt : okT o.2.2.2.1 L t) (ok : okN f1) : xDv X false (d + 6) mX4_readThing [.ref 51, .ref (1 + 16 * 1), .int k] (hp (tri f0 f1 f2) (oK o t) mf wf q) [.int ((thI o.2.2.2.1 L k t f1).1)] (hp (tri f0 ((thI o.2.2.2.1 L k t f1).2.2) f2) (oK o ((thI o.2.2.2.1 L k t f1).2.1)) mf wf q) := by
  refine xDv.of (ls := [some (.ref 51), some (.ref (1 + 16 * 1)), some (.int k), none, none, none, none]) mcX4_readThing.1.2.2.2.2 (Nat.le_of_ble_eq_true rfl) rfl ?_
  refine xg_aload_n (pc := 0) dX4_readThing_0 rfl ?_
  refine xg_get (pc := 1) dX4_readThing_1 flX4_65 (hp_lake1 ) rfl ?_
  refine xg_bipush (v := 8) (pc := 4) dX4_readThing_4 (by decide) ?_
  refine xg_icmp_lt (pc := 6) (tgt := 11) dX4_readThing_6 (by decide) (fun c_6 => ?_) (fun c_6 => ?_)
  ·
    refine xg_aload_n (pc := 11) dX4_readThing_11 rfl ?_
    refine xg_cvV (pc := 12) (h1 := hp (tri f0 f1 f2) (oK o (nx o.2.2.2.1 L t)) mf wf q) (M' := mX4_nextToken) dX4_readThing_12 lkX4_19 mcX4_nextToken hp_51 rfl (ev_nx hL hL2 okt) rfl rfl (Nat.le_of_ble_eq_true rfl) ?_
    rw [show thI o.2.2.2.1 L k t f1 = th1 o.2.2.2.1 L k (nx o.2.2.2.1 L t) f1 from if_neg (Int32.not_le.mpr c_6)]
    exact go_th1 hL hL2 (nx_ok okt).1 ok (lt_of8 ok c_6)
  ·
    refine xg_iconst (v := 0) (pc := 9) dX4_readThing_9 (by decide) ?_
    exact xg_zret (pc := 10) (ty := .boolean) dX4_readThing_10 rfl rfl (⟨by unfold thI; rw [if_pos (Int32.not_lt.mp c_6)], by unfold thI; rw [if_pos (Int32.not_lt.mp c_6)]⟩)
theorem it01 {b : Nat → Int32} {f : Nat → Int32} : (itI b L t f).1 = 0 ∨ (itI b L t f).1 = 1 := by
  unfold itI thI th1 th2 th3 th4 boI bo2 rpI
  (repeat' split) <;> first | exact Or.inl rfl | exact Or.inr rfl
theorem z01 {x : Int32} (h : x = 0 ∨ x = 1) : narrow .boolean (.int x) = .int x := by rcases h with h | h <;> rw [h] <;> rfl
theorem th01 {b : Nat → Int32} {k : Int32} {f : Nat → Int32} : (thI b L k t f).1 = 0 ∨ (thI b L k t f).1 = 1 := by
  unfold thI th1 th2 th3 th4
  (repeat' split) <;> first | exact Or.inl rfl | exact Or.inr rfl
theorem bo01 {b : Nat → Int32} {f : Nat → Int32} : (boI b L t f).1 = 0 ∨ (boI b L t f).1 = 1 := by
  unfold boI bo2
  (repeat' split) <;> first | exact Or.inl rfl | exact Or.inr rfl
theorem rp01 {b : Nat → Int32} {on : Nat} {f : Nat → Int32} : (rpI b L on t f).1 = 0 ∨ (rpI b L on t f).1 = 1 := by
  unfold rpI
  (repeat' split) <;> first | exact Or.inl rfl | exact Or.inr rfl
set_option maxRecDepth 100000 in
theorem ev_X4_readItem  (hL : o.2.2.1 = nI L) (hL2 : L ≤ 120) (okt : okT o.2.2.2.1 L t) (ok : okN f1) : xDv X false (d + 7) mX4_readItem [.ref 51, .ref (1 + 16 * 1)] (hp (tri f0 f1 f2) (oK o t) mf wf q) [.int ((itI o.2.2.2.1 L t f1).1)] (hp (tri f0 ((itI o.2.2.2.1 L t f1).2.2) f2) (oK o ((itI o.2.2.2.1 L t f1).2.1)) mf wf q) := by
  refine xDv.of (ls := [some (.ref 51), some (.ref (1 + 16 * 1)), none]) mcX4_readItem.1.2.2.2.2 (Nat.le_of_ble_eq_true rfl) rfl ?_
  refine xg_aload_n (pc := 0) dX4_readItem_0 rfl ?_
  refine xg_cvI (pc := 1) (h1 := hp (tri f0 f1 f2) (oK o t) mf wf q) (x := if cd o.2.2.2.1 t ≤ 5 then nI (cd o.2.2.2.1 t) else -1) (M' := mX4_kindNamed) dX4_readItem_1 lkX4_32 mcX4_kindNamed hp_51 rfl (ev_X4_kindNamed hL hL2 okt) rfl rfl (Nat.le_of_ble_eq_true rfl) ?_
  refine xg_istore_n (pc := 4) (ls' := [some (.ref 51), some (.ref (1 + 16 * 1)), some (.int (if cd o.2.2.2.1 t ≤ 5 then nI (cd o.2.2.2.1 t) else -1))]) dX4_readItem_4 (by decide) rfl ?_
  refine xg_iload_n (pc := 5) dX4_readItem_5 rfl ?_
  refine xg_iconst (v := -1) (pc := 6) dX4_readItem_6 (by decide) ?_
  refine xg_icmp_eq (pc := 7) (tgt := 17) dX4_readItem_7 (by decide) (fun c_7 => ?_) (fun c_7 => ?_)
  ·
    have hcl := cd_le (b := o.2.2.2.1) (t := t)
    have n5 : ¬ cd o.2.2.2.1 t ≤ 5 := fun z => absurd c_7 (by rw [if_pos z]; exact fun y => nI_pos (n := cd o.2.2.2.1 t) (by omega) (by rw [y]; decide))
    refine xg_aload_n (pc := 17) dX4_readItem_17 rfl ?_
    refine xg_ldS (i := 10) (pc := 18) dX4_readItem_18 rfl (by decide) rfl ?_
    refine xg_cvI (pc := 20) (h1 := hp (tri f0 f1 f2) (oK o t) mf wf q) (x := if cd o.2.2.2.1 t = 10 then 1 else 0) (M' := mX4_isWord) dX4_readItem_20 lkX4_42 mcX4_isWord hp_51 rfl (ev_isW hL hL2 okt (by decide)) rfl rfl (Nat.le_of_ble_eq_true rfl) ?_
    refine xg_bz (pc := 23) (tgt := 32) dX4_readItem_23 (by decide) (fun c_23 => ?_) (fun c_23 => ?_)
    ·
      refine xg_aload_n (pc := 32) dX4_readItem_32 rfl ?_
      refine xg_ldS (i := 12) (pc := 33) dX4_readItem_33 rfl (by decide) rfl ?_
      refine xg_cvI (pc := 35) (h1 := hp (tri f0 f1 f2) (oK o t) mf wf q) (x := if cd o.2.2.2.1 t = 12 then 1 else 0) (M' := mX4_isWord) dX4_readItem_35 lkX4_42 mcX4_isWord hp_51 rfl (ev_isW hL hL2 okt (by decide)) rfl rfl (Nat.le_of_ble_eq_true rfl) ?_
      refine xg_bz (pc := 38) (tgt := 50) dX4_readItem_38 (by decide) (fun c_38 => ?_) (fun c_38 => ?_)
      ·
        refine xg_aload_n (pc := 50) dX4_readItem_50 rfl ?_
        refine xg_ldS (i := 13) (pc := 51) dX4_readItem_51 rfl (by decide) rfl ?_
        refine xg_cvI (pc := 53) (h1 := hp (tri f0 f1 f2) (oK o t) mf wf q) (x := if cd o.2.2.2.1 t = 13 then 1 else 0) (M' := mX4_isWord) dX4_readItem_53 lkX4_42 mcX4_isWord hp_51 rfl (ev_isW hL hL2 okt (by decide)) rfl rfl (Nat.le_of_ble_eq_true rfl) ?_
        refine xg_bz (pc := 56) (tgt := 68) dX4_readItem_56 (by decide) (fun c_56 => ?_) (fun c_56 => ?_)
        ·
          refine xg_aload_n (pc := 68) dX4_readItem_68 rfl ?_
          refine xg_ldS (i := 14) (pc := 69) dX4_readItem_69 rfl (by decide) rfl ?_
          refine xg_cvI (pc := 71) (h1 := hp (tri f0 f1 f2) (oK o t) mf wf q) (x := if cd o.2.2.2.1 t = 14 then 1 else 0) (M' := mX4_isWord) dX4_readItem_71 lkX4_42 mcX4_isWord hp_51 rfl (ev_isW hL hL2 okt (by decide)) rfl rfl (Nat.le_of_ble_eq_true rfl) ?_
          refine xg_bnz (pc := 74) (tgt := 86) dX4_readItem_74 (by decide) (fun c_74 => ?_) (fun c_74 => ?_)
          ·
            refine xg_aload_n (pc := 86) dX4_readItem_86 rfl ?_
            refine xg_aload_n (pc := 87) dX4_readItem_87 rfl ?_
            refine xg_ldS (i := 14) (pc := 88) dX4_readItem_88 rfl (by decide) rfl ?_
            refine xg_cvI (pc := 90) (h1 := hp (tri f0 f1 f2) (oK o t) mf wf q) (x := if cd o.2.2.2.1 t = 14 then 1 else 0) (M' := mX4_isWord) dX4_readItem_90 lkX4_42 mcX4_isWord hp_51 rfl (ev_isW hL hL2 okt (by decide)) rfl rfl (Nat.le_of_ble_eq_true rfl) ?_
            refine xg_bz (pc := 93) (tgt := 100) dX4_readItem_93 (by decide) (fun c_93 => absurd c_93 (fun z => z c_74)) (fun c_93 => ?_)
            refine xg_iconst (v := 1) (pc := 96) dX4_readItem_96 (by decide) ?_
            refine xg_goto (pc := 97) (tgt := 101) dX4_readItem_97 (by decide) ?_
            refine xg_puti (pc := 101) (h' := hp (tri f0 (upd f1 2 1) f2) (oK o t) mf wf q) dX4_readItem_101 flX4_61 (hp_lake1 ) (Nat.le_of_ble_eq_true rfl) (hs_lk1  (by decide)) ?_
            refine xg_aload_n (pc := 104) dX4_readItem_104 rfl ?_
            refine xg_cvV (pc := 105) (h1 := hp (tri f0 (upd f1 2 1) f2) (oK o (nx o.2.2.2.1 L t)) mf wf q) (M' := mX4_nextToken) dX4_readItem_105 lkX4_19 mcX4_nextToken hp_51 rfl (ev_nx hL hL2 okt) rfl rfl (Nat.le_of_ble_eq_true rfl) ?_
            refine xg_iconst (v := 1) (pc := 108) dX4_readItem_108 (by decide) ?_
            exact xg_zret (pc := 109) (ty := .boolean) dX4_readItem_109 rfl rfl (⟨by unfold itI; rw [if_neg n5, if_neg c_23, if_neg c_38, if_neg c_56, if_pos c_74], by unfold itI; rw [if_neg n5, if_neg c_23, if_neg c_38, if_neg c_56, if_pos c_74]⟩)
          ·
            refine xg_aload_n (pc := 77) dX4_readItem_77 rfl ?_
            refine xg_ldS (i := 15) (pc := 78) dX4_readItem_78 rfl (by decide) rfl ?_
            refine xg_cvI (pc := 80) (h1 := hp (tri f0 f1 f2) (oK o t) mf wf q) (x := if cd o.2.2.2.1 t = 15 then 1 else 0) (M' := mX4_isWord) dX4_readItem_80 lkX4_42 mcX4_isWord hp_51 rfl (ev_isW hL hL2 okt (by decide)) rfl rfl (Nat.le_of_ble_eq_true rfl) ?_
            refine xg_bz (pc := 83) (tgt := 110) dX4_readItem_83 (by decide) (fun c_83 => ?_) (fun c_83 => ?_)
            ·
              refine xg_iconst (v := 0) (pc := 110) dX4_readItem_110 (by decide) ?_
              exact xg_zret (pc := 111) (ty := .boolean) dX4_readItem_111 rfl rfl (⟨by unfold itI; rw [if_neg n5, if_neg c_23, if_neg c_38, if_neg c_56, if_neg c_74, if_neg c_83], by unfold itI; rw [if_neg n5, if_neg c_23, if_neg c_38, if_neg c_56, if_neg c_74, if_neg c_83]⟩)
            ·
              refine xg_aload_n (pc := 86) dX4_readItem_86 rfl ?_
              refine xg_aload_n (pc := 87) dX4_readItem_87 rfl ?_
              refine xg_ldS (i := 14) (pc := 88) dX4_readItem_88 rfl (by decide) rfl ?_
              refine xg_cvI (pc := 90) (h1 := hp (tri f0 f1 f2) (oK o t) mf wf q) (x := if cd o.2.2.2.1 t = 14 then 1 else 0) (M' := mX4_isWord) dX4_readItem_90 lkX4_42 mcX4_isWord hp_51 rfl (ev_isW hL hL2 okt (by decide)) rfl rfl (Nat.le_of_ble_eq_true rfl) ?_
              refine xg_bz (pc := 93) (tgt := 100) dX4_readItem_93 (by decide) (fun c_93 => ?_) (fun c_93 => absurd c_93 c_74)
              refine xg_iconst (v := 0) (pc := 100) dX4_readItem_100 (by decide) ?_
              refine xg_puti (pc := 101) (h' := hp (tri f0 (upd f1 2 0) f2) (oK o t) mf wf q) dX4_readItem_101 flX4_61 (hp_lake1 ) (Nat.le_of_ble_eq_true rfl) (hs_lk1  (by decide)) ?_
              refine xg_aload_n (pc := 104) dX4_readItem_104 rfl ?_
              refine xg_cvV (pc := 105) (h1 := hp (tri f0 (upd f1 2 0) f2) (oK o (nx o.2.2.2.1 L t)) mf wf q) (M' := mX4_nextToken) dX4_readItem_105 lkX4_19 mcX4_nextToken hp_51 rfl (ev_nx hL hL2 okt) rfl rfl (Nat.le_of_ble_eq_true rfl) ?_
              refine xg_iconst (v := 1) (pc := 108) dX4_readItem_108 (by decide) ?_
              exact xg_zret (pc := 109) (ty := .boolean) dX4_readItem_109 rfl rfl (⟨by unfold itI; rw [if_neg n5, if_neg c_23, if_neg c_38, if_neg c_56, if_neg c_74, if_pos c_83], by unfold itI; rw [if_neg n5, if_neg c_23, if_neg c_38, if_neg c_56, if_neg c_74, if_pos c_83]⟩)
        ·
          refine xg_aload_n (pc := 59) dX4_readItem_59 rfl ?_
          refine xg_aload_n (pc := 60) dX4_readItem_60 rfl ?_
          refine xg_ldS (i := 13) (pc := 61) dX4_readItem_61 rfl (by decide) rfl ?_
          refine xg_iconst (v := 0) (pc := 63) dX4_readItem_63 (by decide) ?_
          refine xg_cvI (pc := 64) (h1 := hp (tri f0 ((rpI o.2.2.2.1 L 0 t f1).2.2) f2) (oK o ((rpI o.2.2.2.1 L 0 t f1).2.1)) mf wf q) (x := (rpI o.2.2.2.1 L 0 t f1).1) (M' := mX4_readRipples) dX4_readItem_64 lkX4_51 mcX4_readRipples hp_51 rfl (ev_rpI0 hL hL2 okt c_56) rfl rfl (Nat.le_of_ble_eq_true rfl) ?_
          exact xg_zret (pc := 67) (ty := .boolean) dX4_readItem_67 rfl (z01 (by first | exact th01 | exact bo01 | exact rp01)) (⟨by unfold itI; rw [if_neg n5, if_neg c_23, if_neg c_38, if_pos c_56], by unfold itI; rw [if_neg n5, if_neg c_23, if_neg c_38, if_pos c_56]⟩)
      ·
        refine xg_aload_n (pc := 41) dX4_readItem_41 rfl ?_
        refine xg_aload_n (pc := 42) dX4_readItem_42 rfl ?_
        refine xg_ldS (i := 12) (pc := 43) dX4_readItem_43 rfl (by decide) rfl ?_
        refine xg_iconst (v := 1) (pc := 45) dX4_readItem_45 (by decide) ?_
        refine xg_cvI (pc := 46) (h1 := hp (tri f0 ((rpI o.2.2.2.1 L 1 t f1).2.2) f2) (oK o ((rpI o.2.2.2.1 L 1 t f1).2.1)) mf wf q) (x := (rpI o.2.2.2.1 L 1 t f1).1) (M' := mX4_readRipples) dX4_readItem_46 lkX4_51 mcX4_readRipples hp_51 rfl (ev_rpI1 hL hL2 okt c_38) rfl rfl (Nat.le_of_ble_eq_true rfl) ?_
        exact xg_zret (pc := 49) (ty := .boolean) dX4_readItem_49 rfl (z01 (by first | exact th01 | exact bo01 | exact rp01)) (⟨by unfold itI; rw [if_neg n5, if_neg c_23, if_pos c_38], by unfold itI; rw [if_neg n5, if_neg c_23, if_pos c_38]⟩)
    ·
      refine xg_aload_n (pc := 26) dX4_readItem_26 rfl ?_
      refine xg_aload_n (pc := 27) dX4_readItem_27 rfl ?_
      refine xg_cvI (pc := 28) (h1 := hp (tri f0 ((boI o.2.2.2.1 L t f1).2.2) f2) (oK o ((boI o.2.2.2.1 L t f1).2.1)) mf wf q) (x := (boI o.2.2.2.1 L t f1).1) (M' := mX4_readBoat) dX4_readItem_28 lkX4_46 mcX4_readBoat hp_51 rfl (ev_X4_readBoat hL hL2 okt ok c_23) rfl rfl (Nat.le_of_ble_eq_true rfl) ?_
      exact xg_zret (pc := 31) (ty := .boolean) dX4_readItem_31 rfl (z01 (by first | exact th01 | exact bo01 | exact rp01)) (⟨by unfold itI; rw [if_neg n5, if_pos c_23], by unfold itI; rw [if_neg n5, if_pos c_23]⟩)
  ·
    have y5 : cd o.2.2.2.1 t ≤ 5 := Classical.not_not.mp (fun z => c_7 (if_neg z))
    refine xg_aload_n (pc := 10) dX4_readItem_10 rfl ?_
    refine xg_aload_n (pc := 11) dX4_readItem_11 rfl ?_
    refine xg_iload_n (pc := 12) dX4_readItem_12 rfl ?_
    refine xg_cvI (pc := 13) (h1 := hp (tri f0 ((thI o.2.2.2.1 L (if cd o.2.2.2.1 t ≤ 5 then nI (cd o.2.2.2.1 t) else -1) t f1).2.2) f2) (oK o ((thI o.2.2.2.1 L (if cd o.2.2.2.1 t ≤ 5 then nI (cd o.2.2.2.1 t) else -1) t f1).2.1)) mf wf q) (x := (thI o.2.2.2.1 L (if cd o.2.2.2.1 t ≤ 5 then nI (cd o.2.2.2.1 t) else -1) t f1).1) (M' := mX4_readThing) dX4_readItem_13 lkX4_36 mcX4_readThing hp_51 rfl (ev_X4_readThing hL hL2 okt ok) rfl rfl (Nat.le_of_ble_eq_true rfl) ?_
    exact xg_zret (pc := 16) (ty := .boolean) dX4_readItem_16 rfl (z01 (by first | exact th01 | exact bo01 | exact rp01)) (⟨by unfold itI; rw [if_pos y5, if_pos y5], by unfold itI; rw [if_pos y5, if_pos y5]⟩)
end
