section
variable {X : xS} {d : Nat} {lk : Nat → Nat → Int32} {o : xO} {mf wf : Nat → Int32} {q : xQ} {f : Nat → Int32} {L K : Nat}
set_option maxRecDepth 100000 in
theorem ev_X5_reach {i : Nat} {h : Int32} (hL : L < 3) (hi : i < 8) : xDv X false (d + 1) mX5_reach [.ref (3 + 16 * L + i), .int h] (hp (va_up lk L f) o mf wf q) [.int (rch (tw6 (f (5 + 5 * i + 2))) h (f (5 + 5 * i)) (f (5 + 5 * i + 2)))] (hp (va_up lk L f) o mf wf q) := by
  refine xDv.of (ls := [some (.ref (3 + 16 * L + i)), some (.int h), none, none]) mcX5_reach.1.2.2.2.2 (Nat.le_of_ble_eq_true rfl) rfl ?_
  refine xg_iload_n (pc := 0) dX5_reach_0 rfl ?_
  refine xg_bipush (v := 24) (pc := 1) dX5_reach_1 (by decide) ?_
  refine xg_irem (pc := 3) dX5_reach_3 (by decide) ?_
  refine xg_istore_n (pc := 4) (ls' := [some (.ref (3 + 16 * L + i)), some (.int h), some (.int (h - h / 24 * 24)), none]) dX5_reach_4 (by decide) rfl ?_
  refine xg_aload_n (pc := 5) dX5_reach_5 rfl ?_
  refine xg_get (pc := 6) dX5_reach_6 flX5_22 (hp_thing hL (by omega)) rfl ?_
  refine xg_bipush (v := 6) (pc := 9) dX5_reach_9 (by decide) ?_
  refine xg_icmp_ge (pc := 11) (tgt := 23) dX5_reach_11 (by decide) (fun c_11 => ?_) (fun c_11 => ?_)
  ·
    refine xg_bipush (v := 6) (pc := 23) dX5_reach_23 (by decide) ?_
    refine xg_istore_n (pc := 25) (ls' := [some (.ref (3 + 16 * L + i)), some (.int h), some (.int (h - h / 24 * 24)), some (.int 6)]) dX5_reach_25 (by decide) rfl ?_
    refine xg_aload_n (pc := 26) dX5_reach_26 rfl ?_
    refine xg_get (pc := 27) dX5_reach_27 flX5_15 (hp_thing hL (by omega)) rfl ?_
    by_cases w30_1 : (f (5 + 5 * i)) = 1
    ·
      refine xg_tswI (pc := 30) 0 (tgt := 64) dX5_reach_30 (by rw [w30_1]; rfl) (by decide) rfl (by decide) ?_
      refine xg_iload_n (pc := 64) dX5_reach_64 rfl ?_
      exact xg_iret (pc := 65) dX5_reach_65 rfl (⟨by (try simp only [rch, tw6, md] at *); (try simp only [← Int32.not_le, ← Int64.not_le, Classical.not_not] at *); first | (simp [*]; done) | (simp_all; done) | (exfalso; simp only [Int32.lt_iff_toInt_lt, Int32.le_iff_toInt_le, Int32.not_lt, Int32.not_le, ← Int32.toInt_inj, Int64.lt_iff_toInt_lt, Int64.le_iff_toInt_le, Int64.not_lt, Int64.not_le, Classical.not_not, Int32.reduceToInt, Int64.reduceToInt] at *; omega), rfl⟩)
    by_cases w30_2 : (f (5 + 5 * i)) = 2
    ·
      refine xg_tswI (pc := 30) 1 (tgt := 66) dX5_reach_30 (by rw [w30_2]; rfl) (by decide) rfl (by decide) ?_
      refine xg_iload_n (pc := 66) dX5_reach_66 rfl ?_
      refine xg_bipush (v := 8) (pc := 67) dX5_reach_67 (by decide) ?_
      refine xg_icmp_lt (pc := 69) (tgt := 85) dX5_reach_69 (by decide) (fun c_69 => ?_) (fun c_69 => ?_)
      ·
        refine xg_iconst (v := 0) (pc := 85) dX5_reach_85 (by decide) ?_
        exact xg_iret (pc := 86) dX5_reach_86 rfl (⟨by (try simp only [rch, tw6, md] at *); (try simp only [← Int32.not_le, ← Int64.not_le, Classical.not_not] at *); first | (simp [*]; done) | (simp_all; done) | (exfalso; simp only [Int32.lt_iff_toInt_lt, Int32.le_iff_toInt_le, Int32.not_lt, Int32.not_le, ← Int32.toInt_inj, Int64.lt_iff_toInt_lt, Int64.le_iff_toInt_le, Int64.not_lt, Int64.not_le, Classical.not_not, Int32.reduceToInt, Int64.reduceToInt] at *; omega), rfl⟩)
      ·
        refine xg_iload_n (pc := 72) dX5_reach_72 rfl ?_
        refine xg_bipush (v := 17) (pc := 73) dX5_reach_73 (by decide) ?_
        refine xg_icmp_gt (pc := 75) (tgt := 85) dX5_reach_75 (by decide) (fun c_75 => ?_) (fun c_75 => ?_)
        ·
          refine xg_iconst (v := 0) (pc := 85) dX5_reach_85 (by decide) ?_
          exact xg_iret (pc := 86) dX5_reach_86 rfl (⟨by (try simp only [rch, tw6, md] at *); (try simp only [← Int32.not_le, ← Int64.not_le, Classical.not_not] at *); first | (simp [*]; done) | (simp_all; done) | (exfalso; simp only [Int32.lt_iff_toInt_lt, Int32.le_iff_toInt_le, Int32.not_lt, Int32.not_le, ← Int32.toInt_inj, Int64.lt_iff_toInt_lt, Int64.le_iff_toInt_le, Int64.not_lt, Int64.not_le, Classical.not_not, Int32.reduceToInt, Int64.reduceToInt] at *; omega), rfl⟩)
        ·
          refine xg_aload_n (pc := 78) dX5_reach_78 rfl ?_
          refine xg_get (pc := 79) dX5_reach_79 flX5_22 (hp_thing hL (by omega)) rfl ?_
          refine xg_goto (pc := 82) (tgt := 86) dX5_reach_82 (by decide) ?_
          exact xg_iret (pc := 86) dX5_reach_86 rfl (⟨by (try simp only [rch, tw6, md] at *); (try simp only [← Int32.not_le, ← Int64.not_le, Classical.not_not] at *); first | (simp [*]; done) | (simp_all; done) | (exfalso; simp only [Int32.lt_iff_toInt_lt, Int32.le_iff_toInt_le, Int32.not_lt, Int32.not_le, ← Int32.toInt_inj, Int64.lt_iff_toInt_lt, Int64.le_iff_toInt_le, Int64.not_lt, Int64.not_le, Classical.not_not, Int32.reduceToInt, Int64.reduceToInt] at *; omega), rfl⟩)
    by_cases w30_3 : (f (5 + 5 * i)) = 3
    ·
      refine xg_tswI (pc := 30) 2 (tgt := 87) dX5_reach_30 (by rw [w30_3]; rfl) (by decide) rfl (by decide) ?_
      refine xg_iload_n (pc := 87) dX5_reach_87 rfl ?_
      refine xg_bipush (v := 6) (pc := 88) dX5_reach_88 (by decide) ?_
      refine xg_icmp_lt (pc := 90) (tgt := 99) dX5_reach_90 (by decide) (fun c_90 => ?_) (fun c_90 => ?_)
      ·
        refine xg_bipush (v := 6) (pc := 99) dX5_reach_99 (by decide) ?_
        refine xg_goto (pc := 101) (tgt := 105) dX5_reach_101 (by decide) ?_
        exact xg_iret (pc := 105) dX5_reach_105 rfl (⟨by (try simp only [rch, tw6, md] at *); (try simp only [← Int32.not_le, ← Int64.not_le, Classical.not_not] at *); first | (simp [*]; done) | (simp_all; done) | (exfalso; simp only [Int32.lt_iff_toInt_lt, Int32.le_iff_toInt_le, Int32.not_lt, Int32.not_le, ← Int32.toInt_inj, Int64.lt_iff_toInt_lt, Int64.le_iff_toInt_le, Int64.not_lt, Int64.not_le, Classical.not_not, Int32.reduceToInt, Int64.reduceToInt] at *; omega), rfl⟩)
      ·
        refine xg_iload_n (pc := 93) dX5_reach_93 rfl ?_
        refine xg_bipush (v := 17) (pc := 94) dX5_reach_94 (by decide) ?_
        refine xg_icmp_le (pc := 96) (tgt := 104) dX5_reach_96 (by decide) (fun c_96 => ?_) (fun c_96 => ?_)
        ·
          refine xg_iconst (v := 0) (pc := 104) dX5_reach_104 (by decide) ?_
          exact xg_iret (pc := 105) dX5_reach_105 rfl (⟨by (try simp only [rch, tw6, md] at *); (try simp only [← Int32.not_le, ← Int64.not_le, Classical.not_not] at *); first | (simp [*]; done) | (simp_all; done) | (exfalso; simp only [Int32.lt_iff_toInt_lt, Int32.le_iff_toInt_le, Int32.not_lt, Int32.not_le, ← Int32.toInt_inj, Int64.lt_iff_toInt_lt, Int64.le_iff_toInt_le, Int64.not_lt, Int64.not_le, Classical.not_not, Int32.reduceToInt, Int64.reduceToInt] at *; omega), rfl⟩)
        ·
          refine xg_bipush (v := 6) (pc := 99) dX5_reach_99 (by decide) ?_
          refine xg_goto (pc := 101) (tgt := 105) dX5_reach_101 (by decide) ?_
          exact xg_iret (pc := 105) dX5_reach_105 rfl (⟨by (try simp only [rch, tw6, md] at *); (try simp only [← Int32.not_le, ← Int64.not_le, Classical.not_not] at *); first | (simp [*]; done) | (simp_all; done) | (exfalso; simp only [Int32.lt_iff_toInt_lt, Int32.le_iff_toInt_le, Int32.not_lt, Int32.not_le, ← Int32.toInt_inj, Int64.lt_iff_toInt_lt, Int64.le_iff_toInt_le, Int64.not_lt, Int64.not_le, Classical.not_not, Int32.reduceToInt, Int64.reduceToInt] at *; omega), rfl⟩)
    by_cases w30_4 : (f (5 + 5 * i)) = 4
    ·
      refine xg_tswI (pc := 30) 3 (tgt := 106) dX5_reach_30 (by rw [w30_4]; rfl) (by decide) rfl (by decide) ?_
      refine xg_iload_n (pc := 106) dX5_reach_106 rfl ?_
      refine xg_iconst (v := 2) (pc := 107) dX5_reach_107 (by decide) ?_
      refine xg_irem (pc := 108) dX5_reach_108 (by decide) ?_
      refine xg_if_ne (pc := 109) (tgt := 116) dX5_reach_109 (by decide) (fun c_109 => ?_) (fun c_109 => ?_)
      ·
        refine xg_iload_n (pc := 116) dX5_reach_116 rfl ?_
        refine xg_iconst (v := 2) (pc := 117) dX5_reach_117 (by decide) ?_
        refine xg_idiv (pc := 118) dX5_reach_118 (by decide) ?_
        exact xg_iret (pc := 119) dX5_reach_119 rfl (⟨by (try simp only [rch, tw6, md] at *); (try simp only [← Int32.not_le, ← Int64.not_le, Classical.not_not] at *); first | (simp [*]; done) | (simp_all; done) | (exfalso; simp only [Int32.lt_iff_toInt_lt, Int32.le_iff_toInt_le, Int32.not_lt, Int32.not_le, ← Int32.toInt_inj, Int64.lt_iff_toInt_lt, Int64.le_iff_toInt_le, Int64.not_lt, Int64.not_le, Classical.not_not, Int32.reduceToInt, Int64.reduceToInt] at *; omega), rfl⟩)
      ·
        refine xg_iload_n (pc := 112) dX5_reach_112 rfl ?_
        refine xg_goto (pc := 113) (tgt := 119) dX5_reach_113 (by decide) ?_
        exact xg_iret (pc := 119) dX5_reach_119 rfl (⟨by (try simp only [rch, tw6, md] at *); (try simp only [← Int32.not_le, ← Int64.not_le, Classical.not_not] at *); first | (simp [*]; done) | (simp_all; done) | (exfalso; simp only [Int32.lt_iff_toInt_lt, Int32.le_iff_toInt_le, Int32.not_lt, Int32.not_le, ← Int32.toInt_inj, Int64.lt_iff_toInt_lt, Int64.le_iff_toInt_le, Int64.not_lt, Int64.not_le, Classical.not_not, Int32.reduceToInt, Int64.reduceToInt] at *; omega), rfl⟩)
    by_cases w30_5 : (f (5 + 5 * i)) = 5
    ·
      refine xg_tswI (pc := 30) 4 (tgt := 66) dX5_reach_30 (by rw [w30_5]; rfl) (by decide) rfl (by decide) ?_
      refine xg_iload_n (pc := 66) dX5_reach_66 rfl ?_
      refine xg_bipush (v := 8) (pc := 67) dX5_reach_67 (by decide) ?_
      refine xg_icmp_lt (pc := 69) (tgt := 85) dX5_reach_69 (by decide) (fun c_69 => ?_) (fun c_69 => ?_)
      ·
        refine xg_iconst (v := 0) (pc := 85) dX5_reach_85 (by decide) ?_
        exact xg_iret (pc := 86) dX5_reach_86 rfl (⟨by (try simp only [rch, tw6, md] at *); (try simp only [← Int32.not_le, ← Int64.not_le, Classical.not_not] at *); first | (simp [*]; done) | (simp_all; done) | (exfalso; simp only [Int32.lt_iff_toInt_lt, Int32.le_iff_toInt_le, Int32.not_lt, Int32.not_le, ← Int32.toInt_inj, Int64.lt_iff_toInt_lt, Int64.le_iff_toInt_le, Int64.not_lt, Int64.not_le, Classical.not_not, Int32.reduceToInt, Int64.reduceToInt] at *; omega), rfl⟩)
      ·
        refine xg_iload_n (pc := 72) dX5_reach_72 rfl ?_
        refine xg_bipush (v := 17) (pc := 73) dX5_reach_73 (by decide) ?_
        refine xg_icmp_gt (pc := 75) (tgt := 85) dX5_reach_75 (by decide) (fun c_75 => ?_) (fun c_75 => ?_)
        ·
          refine xg_iconst (v := 0) (pc := 85) dX5_reach_85 (by decide) ?_
          exact xg_iret (pc := 86) dX5_reach_86 rfl (⟨by (try simp only [rch, tw6, md] at *); (try simp only [← Int32.not_le, ← Int64.not_le, Classical.not_not] at *); first | (simp [*]; done) | (simp_all; done) | (exfalso; simp only [Int32.lt_iff_toInt_lt, Int32.le_iff_toInt_le, Int32.not_lt, Int32.not_le, ← Int32.toInt_inj, Int64.lt_iff_toInt_lt, Int64.le_iff_toInt_le, Int64.not_lt, Int64.not_le, Classical.not_not, Int32.reduceToInt, Int64.reduceToInt] at *; omega), rfl⟩)
        ·
          refine xg_aload_n (pc := 78) dX5_reach_78 rfl ?_
          refine xg_get (pc := 79) dX5_reach_79 flX5_22 (hp_thing hL (by omega)) rfl ?_
          refine xg_goto (pc := 82) (tgt := 86) dX5_reach_82 (by decide) ?_
          exact xg_iret (pc := 86) dX5_reach_86 rfl (⟨by (try simp only [rch, tw6, md] at *); (try simp only [← Int32.not_le, ← Int64.not_le, Classical.not_not] at *); first | (simp [*]; done) | (simp_all; done) | (exfalso; simp only [Int32.lt_iff_toInt_lt, Int32.le_iff_toInt_le, Int32.not_lt, Int32.not_le, ← Int32.toInt_inj, Int64.lt_iff_toInt_lt, Int64.le_iff_toInt_le, Int64.not_lt, Int64.not_le, Classical.not_not, Int32.reduceToInt, Int64.reduceToInt] at *; omega), rfl⟩)
    refine xg_tswO (pc := 30) (tgt := 120) dX5_reach_30 (by have := lv_neT (a := 1) w30_1 (by decide); have := lv_neT (a := 2) w30_2 (by decide); have := lv_neT (a := 3) w30_3 (by decide); have := lv_neT (a := 4) w30_4 (by decide); have := lv_neT (a := 5) w30_5 (by decide); omega) (by decide) ?_
    refine xg_aload_n (pc := 120) dX5_reach_120 rfl ?_
    refine xg_get (pc := 121) dX5_reach_121 flX5_22 (hp_thing hL (by omega)) rfl ?_
    exact xg_iret (pc := 124) dX5_reach_124 rfl (⟨by (try simp only [rch, tw6, md] at *); (try simp only [← Int32.not_le, ← Int64.not_le, Classical.not_not] at *); first | (simp [*]; done) | (simp_all; done) | (exfalso; simp only [Int32.lt_iff_toInt_lt, Int32.le_iff_toInt_le, Int32.not_lt, Int32.not_le, ← Int32.toInt_inj, Int64.lt_iff_toInt_lt, Int64.le_iff_toInt_le, Int64.not_lt, Int64.not_le, Classical.not_not, Int32.reduceToInt, Int64.reduceToInt] at *; omega), rfl⟩)
  ·
    refine xg_aload_n (pc := 14) dX5_reach_14 rfl ?_
    refine xg_get (pc := 15) dX5_reach_15 flX5_22 (hp_thing hL (by omega)) rfl ?_
    refine xg_iconst (v := 1) (pc := 18) dX5_reach_18 (by decide) ?_
    refine xg_iadd (pc := 19) dX5_reach_19 ?_
    refine xg_goto (pc := 20) (tgt := 25) dX5_reach_20 (by decide) ?_
    refine xg_istore_n (pc := 25) (ls' := [some (.ref (3 + 16 * L + i)), some (.int h), some (.int (h - h / 24 * 24)), some (.int ((f (5 + 5 * i + 2)) + 1))]) dX5_reach_25 (by decide) rfl ?_
    refine xg_aload_n (pc := 26) dX5_reach_26 rfl ?_
    refine xg_get (pc := 27) dX5_reach_27 flX5_15 (hp_thing hL (by omega)) rfl ?_
    by_cases w30_1 : (f (5 + 5 * i)) = 1
    ·
      refine xg_tswI (pc := 30) 0 (tgt := 64) dX5_reach_30 (by rw [w30_1]; rfl) (by decide) rfl (by decide) ?_
      refine xg_iload_n (pc := 64) dX5_reach_64 rfl ?_
      exact xg_iret (pc := 65) dX5_reach_65 rfl (⟨by (try simp only [rch, tw6, md] at *); (try simp only [← Int32.not_le, ← Int64.not_le, Classical.not_not] at *); first | (simp [*]; done) | (simp_all; done) | (exfalso; simp only [Int32.lt_iff_toInt_lt, Int32.le_iff_toInt_le, Int32.not_lt, Int32.not_le, ← Int32.toInt_inj, Int64.lt_iff_toInt_lt, Int64.le_iff_toInt_le, Int64.not_lt, Int64.not_le, Classical.not_not, Int32.reduceToInt, Int64.reduceToInt] at *; omega), rfl⟩)
    by_cases w30_2 : (f (5 + 5 * i)) = 2
    ·
      refine xg_tswI (pc := 30) 1 (tgt := 66) dX5_reach_30 (by rw [w30_2]; rfl) (by decide) rfl (by decide) ?_
      refine xg_iload_n (pc := 66) dX5_reach_66 rfl ?_
      refine xg_bipush (v := 8) (pc := 67) dX5_reach_67 (by decide) ?_
      refine xg_icmp_lt (pc := 69) (tgt := 85) dX5_reach_69 (by decide) (fun c_69 => ?_) (fun c_69 => ?_)
      ·
        refine xg_iconst (v := 0) (pc := 85) dX5_reach_85 (by decide) ?_
        exact xg_iret (pc := 86) dX5_reach_86 rfl (⟨by (try simp only [rch, tw6, md] at *); (try simp only [← Int32.not_le, ← Int64.not_le, Classical.not_not] at *); first | (simp [*]; done) | (simp_all; done) | (exfalso; simp only [Int32.lt_iff_toInt_lt, Int32.le_iff_toInt_le, Int32.not_lt, Int32.not_le, ← Int32.toInt_inj, Int64.lt_iff_toInt_lt, Int64.le_iff_toInt_le, Int64.not_lt, Int64.not_le, Classical.not_not, Int32.reduceToInt, Int64.reduceToInt] at *; omega), rfl⟩)
      ·
        refine xg_iload_n (pc := 72) dX5_reach_72 rfl ?_
        refine xg_bipush (v := 17) (pc := 73) dX5_reach_73 (by decide) ?_
        refine xg_icmp_gt (pc := 75) (tgt := 85) dX5_reach_75 (by decide) (fun c_75 => ?_) (fun c_75 => ?_)
        ·
          refine xg_iconst (v := 0) (pc := 85) dX5_reach_85 (by decide) ?_
          exact xg_iret (pc := 86) dX5_reach_86 rfl (⟨by (try simp only [rch, tw6, md] at *); (try simp only [← Int32.not_le, ← Int64.not_le, Classical.not_not] at *); first | (simp [*]; done) | (simp_all; done) | (exfalso; simp only [Int32.lt_iff_toInt_lt, Int32.le_iff_toInt_le, Int32.not_lt, Int32.not_le, ← Int32.toInt_inj, Int64.lt_iff_toInt_lt, Int64.le_iff_toInt_le, Int64.not_lt, Int64.not_le, Classical.not_not, Int32.reduceToInt, Int64.reduceToInt] at *; omega), rfl⟩)
        ·
          refine xg_aload_n (pc := 78) dX5_reach_78 rfl ?_
          refine xg_get (pc := 79) dX5_reach_79 flX5_22 (hp_thing hL (by omega)) rfl ?_
          refine xg_goto (pc := 82) (tgt := 86) dX5_reach_82 (by decide) ?_
          exact xg_iret (pc := 86) dX5_reach_86 rfl (⟨by (try simp only [rch, tw6, md] at *); (try simp only [← Int32.not_le, ← Int64.not_le, Classical.not_not] at *); first | (simp [*]; done) | (simp_all; done) | (exfalso; simp only [Int32.lt_iff_toInt_lt, Int32.le_iff_toInt_le, Int32.not_lt, Int32.not_le, ← Int32.toInt_inj, Int64.lt_iff_toInt_lt, Int64.le_iff_toInt_le, Int64.not_lt, Int64.not_le, Classical.not_not, Int32.reduceToInt, Int64.reduceToInt] at *; omega), rfl⟩)
    by_cases w30_3 : (f (5 + 5 * i)) = 3
    ·
      refine xg_tswI (pc := 30) 2 (tgt := 87) dX5_reach_30 (by rw [w30_3]; rfl) (by decide) rfl (by decide) ?_
      refine xg_iload_n (pc := 87) dX5_reach_87 rfl ?_
      refine xg_bipush (v := 6) (pc := 88) dX5_reach_88 (by decide) ?_
      refine xg_icmp_lt (pc := 90) (tgt := 99) dX5_reach_90 (by decide) (fun c_90 => ?_) (fun c_90 => ?_)
      ·
        refine xg_bipush (v := 6) (pc := 99) dX5_reach_99 (by decide) ?_
        refine xg_goto (pc := 101) (tgt := 105) dX5_reach_101 (by decide) ?_
        exact xg_iret (pc := 105) dX5_reach_105 rfl (⟨by (try simp only [rch, tw6, md] at *); (try simp only [← Int32.not_le, ← Int64.not_le, Classical.not_not] at *); first | (simp [*]; done) | (simp_all; done) | (exfalso; simp only [Int32.lt_iff_toInt_lt, Int32.le_iff_toInt_le, Int32.not_lt, Int32.not_le, ← Int32.toInt_inj, Int64.lt_iff_toInt_lt, Int64.le_iff_toInt_le, Int64.not_lt, Int64.not_le, Classical.not_not, Int32.reduceToInt, Int64.reduceToInt] at *; omega), rfl⟩)
      ·
        refine xg_iload_n (pc := 93) dX5_reach_93 rfl ?_
        refine xg_bipush (v := 17) (pc := 94) dX5_reach_94 (by decide) ?_
        refine xg_icmp_le (pc := 96) (tgt := 104) dX5_reach_96 (by decide) (fun c_96 => ?_) (fun c_96 => ?_)
        ·
          refine xg_iconst (v := 0) (pc := 104) dX5_reach_104 (by decide) ?_
          exact xg_iret (pc := 105) dX5_reach_105 rfl (⟨by (try simp only [rch, tw6, md] at *); (try simp only [← Int32.not_le, ← Int64.not_le, Classical.not_not] at *); first | (simp [*]; done) | (simp_all; done) | (exfalso; simp only [Int32.lt_iff_toInt_lt, Int32.le_iff_toInt_le, Int32.not_lt, Int32.not_le, ← Int32.toInt_inj, Int64.lt_iff_toInt_lt, Int64.le_iff_toInt_le, Int64.not_lt, Int64.not_le, Classical.not_not, Int32.reduceToInt, Int64.reduceToInt] at *; omega), rfl⟩)
        ·
          refine xg_bipush (v := 6) (pc := 99) dX5_reach_99 (by decide) ?_
          refine xg_goto (pc := 101) (tgt := 105) dX5_reach_101 (by decide) ?_
          exact xg_iret (pc := 105) dX5_reach_105 rfl (⟨by (try simp only [rch, tw6, md] at *); (try simp only [← Int32.not_le, ← Int64.not_le, Classical.not_not] at *); first | (simp [*]; done) | (simp_all; done) | (exfalso; simp only [Int32.lt_iff_toInt_lt, Int32.le_iff_toInt_le, Int32.not_lt, Int32.not_le, ← Int32.toInt_inj, Int64.lt_iff_toInt_lt, Int64.le_iff_toInt_le, Int64.not_lt, Int64.not_le, Classical.not_not, Int32.reduceToInt, Int64.reduceToInt] at *; omega), rfl⟩)
    by_cases w30_4 : (f (5 + 5 * i)) = 4
    ·
      refine xg_tswI (pc := 30) 3 (tgt := 106) dX5_reach_30 (by rw [w30_4]; rfl) (by decide) rfl (by decide) ?_
      refine xg_iload_n (pc := 106) dX5_reach_106 rfl ?_
      refine xg_iconst (v := 2) (pc := 107) dX5_reach_107 (by decide) ?_
      refine xg_irem (pc := 108) dX5_reach_108 (by decide) ?_
      refine xg_if_ne (pc := 109) (tgt := 116) dX5_reach_109 (by decide) (fun c_109 => ?_) (fun c_109 => ?_)
      ·
        refine xg_iload_n (pc := 116) dX5_reach_116 rfl ?_
        refine xg_iconst (v := 2) (pc := 117) dX5_reach_117 (by decide) ?_
        refine xg_idiv (pc := 118) dX5_reach_118 (by decide) ?_
        exact xg_iret (pc := 119) dX5_reach_119 rfl (⟨by (try simp only [rch, tw6, md] at *); (try simp only [← Int32.not_le, ← Int64.not_le, Classical.not_not] at *); first | (simp [*]; done) | (simp_all; done) | (exfalso; simp only [Int32.lt_iff_toInt_lt, Int32.le_iff_toInt_le, Int32.not_lt, Int32.not_le, ← Int32.toInt_inj, Int64.lt_iff_toInt_lt, Int64.le_iff_toInt_le, Int64.not_lt, Int64.not_le, Classical.not_not, Int32.reduceToInt, Int64.reduceToInt] at *; omega), rfl⟩)
      ·
        refine xg_iload_n (pc := 112) dX5_reach_112 rfl ?_
        refine xg_goto (pc := 113) (tgt := 119) dX5_reach_113 (by decide) ?_
        exact xg_iret (pc := 119) dX5_reach_119 rfl (⟨by (try simp only [rch, tw6, md] at *); (try simp only [← Int32.not_le, ← Int64.not_le, Classical.not_not] at *); first | (simp [*]; done) | (simp_all; done) | (exfalso; simp only [Int32.lt_iff_toInt_lt, Int32.le_iff_toInt_le, Int32.not_lt, Int32.not_le, ← Int32.toInt_inj, Int64.lt_iff_toInt_lt, Int64.le_iff_toInt_le, Int64.not_lt, Int64.not_le, Classical.not_not, Int32.reduceToInt, Int64.reduceToInt] at *; omega), rfl⟩)
    by_cases w30_5 : (f (5 + 5 * i)) = 5
    ·
      refine xg_tswI (pc := 30) 4 (tgt := 66) dX5_reach_30 (by rw [w30_5]; rfl) (by decide) rfl (by decide) ?_
      refine xg_iload_n (pc := 66) dX5_reach_66 rfl ?_
      refine xg_bipush (v := 8) (pc := 67) dX5_reach_67 (by decide) ?_
      refine xg_icmp_lt (pc := 69) (tgt := 85) dX5_reach_69 (by decide) (fun c_69 => ?_) (fun c_69 => ?_)
      ·
        refine xg_iconst (v := 0) (pc := 85) dX5_reach_85 (by decide) ?_
        exact xg_iret (pc := 86) dX5_reach_86 rfl (⟨by (try simp only [rch, tw6, md] at *); (try simp only [← Int32.not_le, ← Int64.not_le, Classical.not_not] at *); first | (simp [*]; done) | (simp_all; done) | (exfalso; simp only [Int32.lt_iff_toInt_lt, Int32.le_iff_toInt_le, Int32.not_lt, Int32.not_le, ← Int32.toInt_inj, Int64.lt_iff_toInt_lt, Int64.le_iff_toInt_le, Int64.not_lt, Int64.not_le, Classical.not_not, Int32.reduceToInt, Int64.reduceToInt] at *; omega), rfl⟩)
      ·
        refine xg_iload_n (pc := 72) dX5_reach_72 rfl ?_
        refine xg_bipush (v := 17) (pc := 73) dX5_reach_73 (by decide) ?_
        refine xg_icmp_gt (pc := 75) (tgt := 85) dX5_reach_75 (by decide) (fun c_75 => ?_) (fun c_75 => ?_)
        ·
          refine xg_iconst (v := 0) (pc := 85) dX5_reach_85 (by decide) ?_
          exact xg_iret (pc := 86) dX5_reach_86 rfl (⟨by (try simp only [rch, tw6, md] at *); (try simp only [← Int32.not_le, ← Int64.not_le, Classical.not_not] at *); first | (simp [*]; done) | (simp_all; done) | (exfalso; simp only [Int32.lt_iff_toInt_lt, Int32.le_iff_toInt_le, Int32.not_lt, Int32.not_le, ← Int32.toInt_inj, Int64.lt_iff_toInt_lt, Int64.le_iff_toInt_le, Int64.not_lt, Int64.not_le, Classical.not_not, Int32.reduceToInt, Int64.reduceToInt] at *; omega), rfl⟩)
        ·
          refine xg_aload_n (pc := 78) dX5_reach_78 rfl ?_
          refine xg_get (pc := 79) dX5_reach_79 flX5_22 (hp_thing hL (by omega)) rfl ?_
          refine xg_goto (pc := 82) (tgt := 86) dX5_reach_82 (by decide) ?_
          exact xg_iret (pc := 86) dX5_reach_86 rfl (⟨by (try simp only [rch, tw6, md] at *); (try simp only [← Int32.not_le, ← Int64.not_le, Classical.not_not] at *); first | (simp [*]; done) | (simp_all; done) | (exfalso; simp only [Int32.lt_iff_toInt_lt, Int32.le_iff_toInt_le, Int32.not_lt, Int32.not_le, ← Int32.toInt_inj, Int64.lt_iff_toInt_lt, Int64.le_iff_toInt_le, Int64.not_lt, Int64.not_le, Classical.not_not, Int32.reduceToInt, Int64.reduceToInt] at *; omega), rfl⟩)
    refine xg_tswO (pc := 30) (tgt := 120) dX5_reach_30 (by have := lv_neT (a := 1) w30_1 (by decide); have := lv_neT (a := 2) w30_2 (by decide); have := lv_neT (a := 3) w30_3 (by decide); have := lv_neT (a := 4) w30_4 (by decide); have := lv_neT (a := 5) w30_5 (by decide); omega) (by decide) ?_
    refine xg_aload_n (pc := 120) dX5_reach_120 rfl ?_
    refine xg_get (pc := 121) dX5_reach_121 flX5_22 (hp_thing hL (by omega)) rfl ?_
    exact xg_iret (pc := 124) dX5_reach_124 rfl (⟨by (try simp only [rch, tw6, md] at *); (try simp only [← Int32.not_le, ← Int64.not_le, Classical.not_not] at *); first | (simp [*]; done) | (simp_all; done) | (exfalso; simp only [Int32.lt_iff_toInt_lt, Int32.le_iff_toInt_le, Int32.not_lt, Int32.not_le, ← Int32.toInt_inj, Int64.lt_iff_toInt_lt, Int64.le_iff_toInt_le, Int64.not_lt, Int64.not_le, Classical.not_not, Int32.reduceToInt, Int64.reduceToInt] at *; omega), rfl⟩)
set_option maxRecDepth 100000 in
theorem ev_X5_shine {i : Nat} {r : Int32} (hL : L < 3) (hi : i < 8) (hr : ¬ r < 0) (hr1 : ¬ r + 1 = 0) : xDv X false (d + 0) mX5_shine [.ref (3 + 16 * L + i), .int r] (hp (va_up lk L f) o mf wf q) [.int (shn (f (5 + 5 * i)) (f (5 + 5 * i + 3)) r)] (hp (va_up lk L f) o mf wf q) := by
  refine xDv.of (ls := [some (.ref (3 + 16 * L + i)), some (.int r), none]) mcX5_shine.1.2.2.2.2 (Nat.le_of_ble_eq_true rfl) rfl ?_
  refine xg_iload_n (pc := 0) dX5_shine_0 rfl ?_
  refine xg_if_ge (pc := 1) (tgt := 6) dX5_shine_1 (by decide) (fun c_1 => ?_) (fun c_1 => absurd c_1 (fun q => q (Int32.not_lt.mp hr)))
  refine xg_aload_n (pc := 6) dX5_shine_6 rfl ?_
  refine xg_get (pc := 7) dX5_shine_7 flX5_25 (hp_thing hL (by omega)) rfl ?_
  refine xg_iload_n (pc := 10) dX5_shine_10 rfl ?_
  refine xg_iconst (v := 1) (pc := 11) dX5_shine_11 (by decide) ?_
  refine xg_iadd (pc := 12) dX5_shine_12 ?_
  refine xg_idiv (pc := 13) dX5_shine_13 hr1 ?_
  refine xg_istore_n (pc := 14) (ls' := [some (.ref (3 + 16 * L + i)), some (.int r), some (.int ((f (5 + 5 * i + 3)) / (r + 1)))]) dX5_shine_14 (by decide) rfl ?_
  refine xg_aload_n (pc := 15) dX5_shine_15 rfl ?_
  refine xg_get (pc := 16) dX5_shine_16 flX5_15 (hp_thing hL (by omega)) rfl ?_
  by_cases w19_2 : (f (5 + 5 * i)) = 2
  ·
    refine xg_tswI (pc := 19) 0 (tgt := 48) dX5_shine_19 (by rw [w19_2]; rfl) (by decide) rfl (by decide) ?_
    refine xg_iconst (v := 2) (pc := 48) dX5_shine_48 (by decide) ?_
    refine xg_iload_n (pc := 49) dX5_shine_49 rfl ?_
    refine xg_imul (pc := 50) dX5_shine_50 ?_
    exact xg_iret (pc := 51) dX5_shine_51 rfl (⟨by simp [shn, *], rfl⟩)
  by_cases w19_3 : (f (5 + 5 * i)) = 3
  ·
    refine xg_tswI (pc := 19) 1 (tgt := 52) dX5_shine_19 (by rw [w19_3]; rfl) (by decide) rfl (by decide) ?_
    refine xg_iload_n (pc := 52) dX5_shine_52 rfl ?_
    refine xg_iconst (v := 2) (pc := 53) dX5_shine_53 (by decide) ?_
    refine xg_idiv (pc := 54) dX5_shine_54 (by decide) ?_
    exact xg_iret (pc := 55) dX5_shine_55 rfl (⟨by simp [shn, *], rfl⟩)
  by_cases w19_4 : (f (5 + 5 * i)) = 4
  ·
    refine xg_tswI (pc := 19) 2 (tgt := 56) dX5_shine_19 (by rw [w19_4]; rfl) (by decide) rfl (by decide) ?_
    refine xg_iload_n (pc := 56) dX5_shine_56 rfl ?_
    refine xg_iload_n (pc := 57) dX5_shine_57 rfl ?_
    refine xg_iadd (pc := 58) dX5_shine_58 ?_
    exact xg_iret (pc := 59) dX5_shine_59 rfl (⟨by simp [shn, *], rfl⟩)
  by_cases w19_5 : (f (5 + 5 * i)) = 5
  ·
    refine xg_tswI (pc := 19) 3 (tgt := 60) dX5_shine_19 (by rw [w19_5]; rfl) (by decide) rfl (by decide) ?_
    refine xg_aload_n (pc := 60) dX5_shine_60 rfl ?_
    refine xg_get (pc := 61) dX5_shine_61 flX5_25 (hp_thing hL (by omega)) rfl ?_
    refine xg_if_le (pc := 64) (tgt := 75) dX5_shine_64 (by decide) (fun c_64 => ?_) (fun c_64 => ?_)
    ·
      refine xg_iconst (v := 2) (pc := 75) dX5_shine_75 (by decide) ?_
      refine xg_iload_n (pc := 76) dX5_shine_76 rfl ?_
      refine xg_imul (pc := 77) dX5_shine_77 ?_
      exact xg_iret (pc := 78) dX5_shine_78 rfl (⟨by simp [shn, *], rfl⟩)
    ·
      refine xg_iconst (v := 2) (pc := 67) dX5_shine_67 (by decide) ?_
      refine xg_iload_n (pc := 68) dX5_shine_68 rfl ?_
      refine xg_imul (pc := 69) dX5_shine_69 ?_
      refine xg_iconst (v := 3) (pc := 70) dX5_shine_70 (by decide) ?_
      refine xg_iadd (pc := 71) dX5_shine_71 ?_
      refine xg_goto (pc := 72) (tgt := 78) dX5_shine_72 (by decide) ?_
      exact xg_iret (pc := 78) dX5_shine_78 rfl (⟨by simp [shn, *], rfl⟩)
  refine xg_tswO (pc := 19) (tgt := 79) dX5_shine_19 (by have := lv_neT (a := 2) w19_2 (by decide); have := lv_neT (a := 3) w19_3 (by decide); have := lv_neT (a := 4) w19_4 (by decide); have := lv_neT (a := 5) w19_5 (by decide); omega) (by decide) ?_
  refine xg_iload_n (pc := 79) dX5_shine_79 rfl ?_
  exact xg_iret (pc := 80) dX5_shine_80 rfl (⟨by simp [shn, *], rfl⟩)
set_option maxRecDepth 100000 in
theorem ev_X5_taxed {i : Nat} (hL : L < 3) (hi : i < 8) : xDv X false (d + 0) mX5_taxed [.ref (3 + 16 * L + i)] (hp (va_up lk L f) o mf wf q) [.int (txd (f (5 + 5 * i)) (f (5 + 5 * i + 4)))] (hp (va_up lk L f) o mf wf q) := by
  refine xDv.of (ls := [some (.ref (3 + 16 * L + i))]) mcX5_taxed.1.2.2.2.2 (Nat.le_of_ble_eq_true rfl) rfl ?_
  refine xg_aload_n (pc := 0) dX5_taxed_0 rfl ?_
  refine xg_get (pc := 1) dX5_taxed_1 flX5_15 (hp_thing hL (by omega)) rfl ?_
  by_cases w4_2 : (f (5 + 5 * i)) = 2
  ·
    refine xg_tswI (pc := 4) 0 (tgt := 36) dX5_taxed_4 (by rw [w4_2]; rfl) (by decide) rfl (by decide) ?_
    refine xg_aload_n (pc := 36) dX5_taxed_36 rfl ?_
    refine xg_get (pc := 37) dX5_taxed_37 flX5_28 (hp_thing hL (by omega)) rfl ?_
    refine xg_iconst (v := 2) (pc := 40) dX5_taxed_40 (by decide) ?_
    refine xg_iadd (pc := 41) dX5_taxed_41 ?_
    exact xg_iret (pc := 42) dX5_taxed_42 rfl (⟨by simp [txd, *], rfl⟩)
  by_cases w4_3 : (f (5 + 5 * i)) = 3
  ·
    refine xg_tswI (pc := 4) 1 (tgt := 43) dX5_taxed_4 (by rw [w4_3]; rfl) (by decide) rfl (by decide) ?_
    refine xg_iconst (v := 0) (pc := 43) dX5_taxed_43 (by decide) ?_
    exact xg_iret (pc := 44) dX5_taxed_44 rfl (⟨by simp [txd, *], rfl⟩)
  by_cases w4_4 : (f (5 + 5 * i)) = 4
  ·
    refine xg_tswI (pc := 4) 2 (tgt := 54) dX5_taxed_4 (by rw [w4_4]; rfl) (by decide) rfl (by decide) ?_
    refine xg_aload_n (pc := 54) dX5_taxed_54 rfl ?_
    refine xg_get (pc := 55) dX5_taxed_55 flX5_28 (hp_thing hL (by omega)) rfl ?_
    exact xg_iret (pc := 58) dX5_taxed_58 rfl (⟨by simp [txd, *], rfl⟩)
  by_cases w4_5 : (f (5 + 5 * i)) = 5
  ·
    refine xg_tswI (pc := 4) 3 (tgt := 45) dX5_taxed_4 (by rw [w4_5]; rfl) (by decide) rfl (by decide) ?_
    refine xg_iconst (v := 2) (pc := 45) dX5_taxed_45 (by decide) ?_
    refine xg_aload_n (pc := 46) dX5_taxed_46 rfl ?_
    refine xg_get (pc := 47) dX5_taxed_47 flX5_28 (hp_thing hL (by omega)) rfl ?_
    refine xg_iconst (v := 2) (pc := 50) dX5_taxed_50 (by decide) ?_
    refine xg_iadd (pc := 51) dX5_taxed_51 ?_
    refine xg_imul (pc := 52) dX5_taxed_52 ?_
    exact xg_iret (pc := 53) dX5_taxed_53 rfl (⟨by simp [txd, *], rfl⟩)
  refine xg_tswO (pc := 4) (tgt := 54) dX5_taxed_4 (by have := lv_neT (a := 2) w4_2 (by decide); have := lv_neT (a := 3) w4_3 (by decide); have := lv_neT (a := 4) w4_4 (by decide); have := lv_neT (a := 5) w4_5 (by decide); omega) (by decide) ?_
  refine xg_aload_n (pc := 54) dX5_taxed_54 rfl ?_
  refine xg_get (pc := 55) dX5_taxed_55 flX5_28 (hp_thing hL (by omega)) rfl ?_
  exact xg_iret (pc := 58) dX5_taxed_58 rfl (⟨by simp [txd, *], rfl⟩)
set_option maxRecDepth 100000 in
theorem ev_X5_isMirroredIn {i : Nat} {c : Int32} (hL : L < 3) (hi : i < 8) : xDv X false (d + 2) mX5_isMirroredIn [.ref (3 + 16 * L + i), .int c, .int (f 0)] (hp (va_up lk L f) o mf wf q) [.int (if mirC f i c then 1 else 0)] (hp (va_up lk L f) o mf wf q) := by
  refine xDv.of (ls := [some (.ref (3 + 16 * L + i)), some (.int c), some (.int (f 0))]) mcX5_isMirroredIn.1.2.2.2.2 (Nat.le_of_ble_eq_true rfl) rfl ?_
  refine xg_iload_n (pc := 0) dX5_isMirroredIn_0 rfl ?_
  refine xg_bipush (v := 8) (pc := 1) dX5_isMirroredIn_1 (by decide) ?_
  refine xg_irem (pc := 3) dX5_isMirroredIn_3 (by decide) ?_
  refine xg_aload_n (pc := 4) dX5_isMirroredIn_4 rfl ?_
  refine xg_get (pc := 5) dX5_isMirroredIn_5 flX5_19 (hp_thing hL (by omega)) rfl ?_
  refine xg_icmp_ne (pc := 8) (tgt := 27) dX5_isMirroredIn_8 (by decide) (fun c_8 => ?_) (fun c_8 => ?_)
  ·
    refine xg_iconst (v := 0) (pc := 27) dX5_isMirroredIn_27 (by decide) ?_
    exact xg_zret (pc := 28) (ty := .boolean) dX5_isMirroredIn_28 rfl rfl (⟨by simp_all [mirC, md, rC], rfl⟩)
  ·
    refine xg_iload_n (pc := 11) dX5_isMirroredIn_11 rfl ?_
    refine xg_bipush (v := 8) (pc := 12) dX5_isMirroredIn_12 (by decide) ?_
    refine xg_idiv (pc := 14) dX5_isMirroredIn_14 (by decide) ?_
    refine xg_aload_n (pc := 15) dX5_isMirroredIn_15 rfl ?_
    refine xg_iload_n (pc := 16) dX5_isMirroredIn_16 rfl ?_
    refine xg_cvI (pc := 17) (h1 := hp (va_up lk L f) o mf wf q) (x := rch (tw6 (f (5 + 5 * i + 2))) (f 0) (f (5 + 5 * i)) (f (5 + 5 * i + 2))) (M' := mX5_reach) dX5_isMirroredIn_17 lkX5_35 mcX5_reach (hp_thing hL (by omega)) rfl (ev_X5_reach (i := i) hL (by omega)) rfl rfl (Nat.le_of_ble_eq_true rfl) ?_
    refine xg_icmp_ge (pc := 20) (tgt := 27) dX5_isMirroredIn_20 (by decide) (fun c_20 => ?_) (fun c_20 => ?_)
    ·
      refine xg_iconst (v := 0) (pc := 27) dX5_isMirroredIn_27 (by decide) ?_
      exact xg_zret (pc := 28) (ty := .boolean) dX5_isMirroredIn_28 rfl rfl (⟨by simp_all [mirC, md, rC], rfl⟩)
    ·
      refine xg_iconst (v := 1) (pc := 23) dX5_isMirroredIn_23 (by decide) ?_
      refine xg_goto (pc := 24) (tgt := 28) dX5_isMirroredIn_24 (by decide) ?_
      exact xg_zret (pc := 28) (ty := .boolean) dX5_isMirroredIn_28 rfl rfl (⟨by simp_all [mirC, md, rC], rfl⟩)
set_option maxRecDepth 100000 in
theorem ev_X5_dim {i : Nat} (hL : L < 3) (hi : i < 8) : xDv X false (d + 1) mX5_dim [.ref (3 + 16 * L + i)] (hp (va_up lk L f) o mf wf q) [] (hp (va_up lk L (dm1 i f)) o mf wf q) := by
  refine xDv.of (ls := [some (.ref (3 + 16 * L + i))]) mcX5_dim.1.2.2.2.2 (Nat.le_of_ble_eq_true rfl) rfl ?_
  refine xg_aload_n (pc := 0) dX5_dim_0 rfl ?_
  refine xg_aload_n (pc := 1) dX5_dim_1 rfl ?_
  refine xg_get (pc := 2) dX5_dim_2 flX5_25 (hp_thing hL (by omega)) rfl ?_
  refine xg_iconst (v := 1) (pc := 5) dX5_dim_5 (by decide) ?_
  refine xg_isub (pc := 6) dX5_dim_6 ?_
  refine xg_iconst (v := 0) (pc := 7) dX5_dim_7 (by decide) ?_
  refine xg_mmax (pc := 8) dX5_dim_8 lkX5_42 mm_max (Nat.le_of_ble_eq_true rfl) ?_
  refine xg_puti (pc := 11) (h' := hp (va_up lk L (upd f (5 + 5 * i + 3) (if ((f (5 + 5 * i + 3)) - 1) < 0 then 0 else ((f (5 + 5 * i + 3)) - 1)))) o mf wf q) dX5_dim_11 flX5_25 (hp_thing hL (by omega)) (Nat.le_of_ble_eq_true rfl) (hs_t hL (c := 3) (by omega) (by decide)) ?_
  exact xg_ret (pc := 14) dX5_dim_14 rfl (⟨rfl, rfl⟩)
set_option maxRecDepth 100000 in
theorem ev_X5_brighten {i : Nat} (hL : L < 3) (hi : i < 8) : xDv X false (d + 1) mX5_brighten [.ref (3 + 16 * L + i)] (hp (va_up lk L f) o mf wf q) [] (hp (va_up lk L (brC i f)) o mf wf q) := by
  refine xDv.of (ls := [some (.ref (3 + 16 * L + i))]) mcX5_brighten.1.2.2.2.2 (Nat.le_of_ble_eq_true rfl) rfl ?_
  refine xg_aload_n (pc := 0) dX5_brighten_0 rfl ?_
  refine xg_aload_n (pc := 1) dX5_brighten_1 rfl ?_
  refine xg_get (pc := 2) dX5_brighten_2 flX5_25 (hp_thing hL (by omega)) rfl ?_
  refine xg_iconst (v := 1) (pc := 5) dX5_brighten_5 (by decide) ?_
  refine xg_iadd (pc := 6) dX5_brighten_6 ?_
  refine xg_bipush (v := 99) (pc := 7) dX5_brighten_7 (by decide) ?_
  refine xg_mmin (pc := 9) dX5_brighten_9 lkX5_48 mm_min (Nat.le_of_ble_eq_true rfl) ?_
  refine xg_puti (pc := 12) (h' := hp (va_up lk L (upd f (5 + 5 * i + 3) (if 99 < ((f (5 + 5 * i + 3)) + 1) then 99 else ((f (5 + 5 * i + 3)) + 1)))) o mf wf q) dX5_brighten_12 flX5_25 (hp_thing hL (by omega)) (Nat.le_of_ble_eq_true rfl) (hs_t hL (c := 3) (by omega) (by decide)) ?_
  exact xg_ret (pc := 15) dX5_brighten_15 rfl (⟨rfl, rfl⟩)
set_option maxRecDepth 100000 in
theorem ev_X5_become {z : Bool} {i : Nat} {a b c e g : Int32} (hL : L < 3) (hi : i < 8) : xDv X z (d + 0) mX5_become [.ref (3 + 16 * L + i), .int a, .int b, .int c, .int e, .int g] (hp (va_up lk L f) o mf wf q) [] (hp (va_up lk L (uT f i a b c e g)) o mf wf q) := by
  refine xDv.of (ls := [some (.ref (3 + 16 * L + i)), some (.int a), some (.int b), some (.int c), some (.int e), some (.int g)]) mcX5_become.1.2.2.2.2 (Nat.le_of_ble_eq_true rfl) rfl ?_
  refine xg_aload_n (pc := 0) dX5_become_0 rfl ?_
  refine xg_iload_n (pc := 1) dX5_become_1 rfl ?_
  refine xg_puti (pc := 2) (h' := hp (va_up lk L (upd f (5 + 5 * i + 0) a)) o mf wf q) dX5_become_2 flX5_15 (hp_thing hL (by omega)) (Nat.le_of_ble_eq_true rfl) (hs_t hL (c := 0) (by omega) (by decide)) ?_
  refine xg_aload_n (pc := 5) dX5_become_5 rfl ?_
  refine xg_iload_n (pc := 6) dX5_become_6 rfl ?_
  refine xg_puti (pc := 7) (h' := hp (va_up lk L (upd (upd f (5 + 5 * i + 0) a) (5 + 5 * i + 1) b)) o mf wf q) dX5_become_7 flX5_19 (hp_thing hL (by omega)) (Nat.le_of_ble_eq_true rfl) (hs_t hL (c := 1) (by omega) (by decide)) ?_
  refine xg_aload_n (pc := 10) dX5_become_10 rfl ?_
  refine xg_iload_n (pc := 11) dX5_become_11 rfl ?_
  refine xg_puti (pc := 12) (h' := hp (va_up lk L (upd (upd (upd f (5 + 5 * i + 0) a) (5 + 5 * i + 1) b) (5 + 5 * i + 2) c)) o mf wf q) dX5_become_12 flX5_22 (hp_thing hL (by omega)) (Nat.le_of_ble_eq_true rfl) (hs_t hL (c := 2) (by omega) (by decide)) ?_
  refine xg_aload_n (pc := 15) dX5_become_15 rfl ?_
  refine xg_iload (pc := 16) dX5_become_16 rfl ?_
  refine xg_puti (pc := 18) (h' := hp (va_up lk L (upd (upd (upd (upd f (5 + 5 * i + 0) a) (5 + 5 * i + 1) b) (5 + 5 * i + 2) c) (5 + 5 * i + 3) e)) o mf wf q) dX5_become_18 flX5_25 (hp_thing hL (by omega)) (Nat.le_of_ble_eq_true rfl) (hs_t hL (c := 3) (by omega) (by decide)) ?_
  refine xg_aload_n (pc := 21) dX5_become_21 rfl ?_
  refine xg_iload (pc := 22) dX5_become_22 rfl ?_
  refine xg_puti (pc := 24) (h' := hp (va_up lk L (upd (upd (upd (upd (upd f (5 + 5 * i + 0) a) (5 + 5 * i + 1) b) (5 + 5 * i + 2) c) (5 + 5 * i + 3) e) (5 + 5 * i + 4) g)) o mf wf q) dX5_become_24 flX5_28 (hp_thing hL (by omega)) (Nat.le_of_ble_eq_true rfl) (hs_t hL (c := 4) (by omega) (by decide)) ?_
  exact xg_ret (pc := 27) dX5_become_27 rfl (⟨rfl, rfl⟩)
set_option maxRecDepth 100000 in
theorem ev_X5_isOfKind0 {i : Nat} {a : Int32} (hL : L < 3) (hi : i < 8) (hk : f (5 + 5 * i) = 0) : xDv X false (d + 0) mX5_isOfKind [.ref (3 + 16 * L + i), .int a] (hp (va_up lk L f) o mf wf q) [.int (if kof 0 a then 1 else 0)] (hp (va_up lk L f) o mf wf q) := by
  refine xDv.of (ls := [some (.ref (3 + 16 * L + i)), some (.int a), none, none]) mcX5_isOfKind.1.2.2.2.2 (Nat.le_of_ble_eq_true rfl) rfl ?_
  refine xg_aload_n (pc := 0) dX5_isOfKind_0 rfl ?_
  refine xg_get (pc := 1) dX5_isOfKind_1 flX5_15 (hp_thing hL (by omega)) rfl ?_
  refine xg_eq hk ?_
  refine xg_istore_n (pc := 4) (ls' := [some (.ref (3 + 16 * L + i)), some (.int a), some (.int 0), none]) dX5_isOfKind_4 (by decide) rfl ?_
  refine xg_iconst (v := 0) (pc := 5) dX5_isOfKind_5 (by decide) ?_
  refine xg_istore_n (pc := 6) (ls' := [some (.ref (3 + 16 * L + i)), some (.int a), some (.int 0), some (.int 0)]) dX5_isOfKind_6 (by decide) rfl ?_
  refine xg_iload_n (pc := 7) dX5_isOfKind_7 rfl ?_
  refine xg_bipush (v := 6) (pc := 8) dX5_isOfKind_8 (by decide) ?_
  refine xg_icmp_ge (pc := 10) (tgt := 42) dX5_isOfKind_10 (by decide) (fun c_10 => absurd c_10 (by decide)) (fun c_10 => ?_)
  refine xg_iload_n (pc := 13) dX5_isOfKind_13 rfl ?_
  refine xg_if_lt (pc := 14) (tgt := 42) dX5_isOfKind_14 (by decide) (fun c_14 => absurd c_14 (by decide)) (fun c_14 => ?_)
  refine xg_iload_n (pc := 17) dX5_isOfKind_17 rfl ?_
  refine xg_bipush (v := 6) (pc := 18) dX5_isOfKind_18 (by decide) ?_
  refine xg_icmp_ge (pc := 20) (tgt := 42) dX5_isOfKind_20 (by decide) (fun c_20 => absurd c_20 (by decide)) (fun c_20 => ?_)
  refine xg_iload_n (pc := 23) dX5_isOfKind_23 rfl ?_
  refine xg_iload_n (pc := 24) dX5_isOfKind_24 rfl ?_
  refine xg_icmp_ne (pc := 25) (tgt := 30) dX5_isOfKind_25 (by decide) (fun c_25 => ?_) (fun c_25 => ?_)
  ·
    refine xg_gsK (pc := 30) dX5_isOfKind_30 rfl ?_
    refine xg_iload_n (pc := 33) dX5_isOfKind_33 rfl ?_
    refine xg_kiald (pc := 34) 0 dX5_isOfKind_34 rfl (by omega) ?_
    refine xg_eq (show xka.getD 0 0 = -1 from by decide) ?_
    refine xg_istore_n (pc := 35) (ls' := [some (.ref (3 + 16 * L + i)), some (.int a), some (.int (-1)), some (.int 0)]) dX5_isOfKind_35 (by decide) rfl ?_
    refine xg_iinc (pc := 36) (y := 1) (ls' := [some (.ref (3 + 16 * L + i)), some (.int a), some (.int (-1)), some (.int 1)]) dX5_isOfKind_36 rfl (by decide) (by decide) rfl ?_
    refine xg_goto (pc := 39) (tgt := 7) dX5_isOfKind_39 (by decide) ?_
    refine xg_iload_n (pc := 7) dX5_isOfKind_7 rfl ?_
    refine xg_bipush (v := 6) (pc := 8) dX5_isOfKind_8 (by decide) ?_
    refine xg_icmp_ge (pc := 10) (tgt := 42) dX5_isOfKind_10 (by decide) (fun c_10 => absurd c_10 (by decide)) (fun c_10 => ?_)
    refine xg_iload_n (pc := 13) dX5_isOfKind_13 rfl ?_
    refine xg_if_lt (pc := 14) (tgt := 42) dX5_isOfKind_14 (by decide) (fun c_14 => ?_) (fun c_14 => absurd c_14 (by decide))
    refine xg_iconst (v := 0) (pc := 42) dX5_isOfKind_42 (by decide) ?_
    exact xg_zret (pc := 43) (ty := .boolean) dX5_isOfKind_43 rfl rfl (⟨by simp_all [kof], rfl⟩)
  ·
    refine xg_iconst (v := 1) (pc := 28) dX5_isOfKind_28 (by decide) ?_
    exact xg_zret (pc := 29) (ty := .boolean) dX5_isOfKind_29 rfl rfl (⟨by simp_all [kof], rfl⟩)
set_option maxRecDepth 100000 in
theorem ev_X5_isOfKind1 {i : Nat} {a : Int32} (hL : L < 3) (hi : i < 8) (hk : f (5 + 5 * i) = 1) : xDv X false (d + 0) mX5_isOfKind [.ref (3 + 16 * L + i), .int a] (hp (va_up lk L f) o mf wf q) [.int (if kof 1 a then 1 else 0)] (hp (va_up lk L f) o mf wf q) := by
  refine xDv.of (ls := [some (.ref (3 + 16 * L + i)), some (.int a), none, none]) mcX5_isOfKind.1.2.2.2.2 (Nat.le_of_ble_eq_true rfl) rfl ?_
  refine xg_aload_n (pc := 0) dX5_isOfKind_0 rfl ?_
  refine xg_get (pc := 1) dX5_isOfKind_1 flX5_15 (hp_thing hL (by omega)) rfl ?_
  refine xg_eq hk ?_
  refine xg_istore_n (pc := 4) (ls' := [some (.ref (3 + 16 * L + i)), some (.int a), some (.int 1), none]) dX5_isOfKind_4 (by decide) rfl ?_
  refine xg_iconst (v := 0) (pc := 5) dX5_isOfKind_5 (by decide) ?_
  refine xg_istore_n (pc := 6) (ls' := [some (.ref (3 + 16 * L + i)), some (.int a), some (.int 1), some (.int 0)]) dX5_isOfKind_6 (by decide) rfl ?_
  refine xg_iload_n (pc := 7) dX5_isOfKind_7 rfl ?_
  refine xg_bipush (v := 6) (pc := 8) dX5_isOfKind_8 (by decide) ?_
  refine xg_icmp_ge (pc := 10) (tgt := 42) dX5_isOfKind_10 (by decide) (fun c_10 => absurd c_10 (by decide)) (fun c_10 => ?_)
  refine xg_iload_n (pc := 13) dX5_isOfKind_13 rfl ?_
  refine xg_if_lt (pc := 14) (tgt := 42) dX5_isOfKind_14 (by decide) (fun c_14 => absurd c_14 (by decide)) (fun c_14 => ?_)
  refine xg_iload_n (pc := 17) dX5_isOfKind_17 rfl ?_
  refine xg_bipush (v := 6) (pc := 18) dX5_isOfKind_18 (by decide) ?_
  refine xg_icmp_ge (pc := 20) (tgt := 42) dX5_isOfKind_20 (by decide) (fun c_20 => absurd c_20 (by decide)) (fun c_20 => ?_)
  refine xg_iload_n (pc := 23) dX5_isOfKind_23 rfl ?_
  refine xg_iload_n (pc := 24) dX5_isOfKind_24 rfl ?_
  refine xg_icmp_ne (pc := 25) (tgt := 30) dX5_isOfKind_25 (by decide) (fun c_25 => ?_) (fun c_25 => ?_)
  ·
    refine xg_gsK (pc := 30) dX5_isOfKind_30 rfl ?_
    refine xg_iload_n (pc := 33) dX5_isOfKind_33 rfl ?_
    refine xg_kiald (pc := 34) 1 dX5_isOfKind_34 rfl (by omega) ?_
    refine xg_eq (show xka.getD 1 0 = 0 from by decide) ?_
    refine xg_istore_n (pc := 35) (ls' := [some (.ref (3 + 16 * L + i)), some (.int a), some (.int 0), some (.int 0)]) dX5_isOfKind_35 (by decide) rfl ?_
    refine xg_iinc (pc := 36) (y := 1) (ls' := [some (.ref (3 + 16 * L + i)), some (.int a), some (.int 0), some (.int 1)]) dX5_isOfKind_36 rfl (by decide) (by decide) rfl ?_
    refine xg_goto (pc := 39) (tgt := 7) dX5_isOfKind_39 (by decide) ?_
    refine xg_iload_n (pc := 7) dX5_isOfKind_7 rfl ?_
    refine xg_bipush (v := 6) (pc := 8) dX5_isOfKind_8 (by decide) ?_
    refine xg_icmp_ge (pc := 10) (tgt := 42) dX5_isOfKind_10 (by decide) (fun c_10 => absurd c_10 (by decide)) (fun c_10 => ?_)
    refine xg_iload_n (pc := 13) dX5_isOfKind_13 rfl ?_
    refine xg_if_lt (pc := 14) (tgt := 42) dX5_isOfKind_14 (by decide) (fun c_14 => absurd c_14 (by decide)) (fun c_14 => ?_)
    refine xg_iload_n (pc := 17) dX5_isOfKind_17 rfl ?_
    refine xg_bipush (v := 6) (pc := 18) dX5_isOfKind_18 (by decide) ?_
    refine xg_icmp_ge (pc := 20) (tgt := 42) dX5_isOfKind_20 (by decide) (fun c_20 => absurd c_20 (by decide)) (fun c_20 => ?_)
    refine xg_iload_n (pc := 23) dX5_isOfKind_23 rfl ?_
    refine xg_iload_n (pc := 24) dX5_isOfKind_24 rfl ?_
    refine xg_icmp_ne (pc := 25) (tgt := 30) dX5_isOfKind_25 (by decide) (fun c_25 => ?_) (fun c_25 => ?_)
    ·
      refine xg_gsK (pc := 30) dX5_isOfKind_30 rfl ?_
      refine xg_iload_n (pc := 33) dX5_isOfKind_33 rfl ?_
      refine xg_kiald (pc := 34) 0 dX5_isOfKind_34 rfl (by omega) ?_
      refine xg_eq (show xka.getD 0 0 = -1 from by decide) ?_
      refine xg_istore_n (pc := 35) (ls' := [some (.ref (3 + 16 * L + i)), some (.int a), some (.int (-1)), some (.int 1)]) dX5_isOfKind_35 (by decide) rfl ?_
      refine xg_iinc (pc := 36) (y := 2) (ls' := [some (.ref (3 + 16 * L + i)), some (.int a), some (.int (-1)), some (.int 2)]) dX5_isOfKind_36 rfl (by decide) (by decide) rfl ?_
      refine xg_goto (pc := 39) (tgt := 7) dX5_isOfKind_39 (by decide) ?_
      refine xg_iload_n (pc := 7) dX5_isOfKind_7 rfl ?_
      refine xg_bipush (v := 6) (pc := 8) dX5_isOfKind_8 (by decide) ?_
      refine xg_icmp_ge (pc := 10) (tgt := 42) dX5_isOfKind_10 (by decide) (fun c_10 => absurd c_10 (by decide)) (fun c_10 => ?_)
      refine xg_iload_n (pc := 13) dX5_isOfKind_13 rfl ?_
      refine xg_if_lt (pc := 14) (tgt := 42) dX5_isOfKind_14 (by decide) (fun c_14 => ?_) (fun c_14 => absurd c_14 (by decide))
      refine xg_iconst (v := 0) (pc := 42) dX5_isOfKind_42 (by decide) ?_
      exact xg_zret (pc := 43) (ty := .boolean) dX5_isOfKind_43 rfl rfl (⟨by simp_all [kof], rfl⟩)
    ·
      refine xg_iconst (v := 1) (pc := 28) dX5_isOfKind_28 (by decide) ?_
      exact xg_zret (pc := 29) (ty := .boolean) dX5_isOfKind_29 rfl rfl (⟨by simp_all [kof], rfl⟩)
  ·
    refine xg_iconst (v := 1) (pc := 28) dX5_isOfKind_28 (by decide) ?_
    exact xg_zret (pc := 29) (ty := .boolean) dX5_isOfKind_29 rfl rfl (⟨by simp_all [kof], rfl⟩)
set_option maxRecDepth 100000 in
theorem ev_X5_isOfKind2 {i : Nat} {a : Int32} (hL : L < 3) (hi : i < 8) (hk : f (5 + 5 * i) = 2) : xDv X false (d + 0) mX5_isOfKind [.ref (3 + 16 * L + i), .int a] (hp (va_up lk L f) o mf wf q) [.int (if kof 2 a then 1 else 0)] (hp (va_up lk L f) o mf wf q) := by
  refine xDv.of (ls := [some (.ref (3 + 16 * L + i)), some (.int a), none, none]) mcX5_isOfKind.1.2.2.2.2 (Nat.le_of_ble_eq_true rfl) rfl ?_
  refine xg_aload_n (pc := 0) dX5_isOfKind_0 rfl ?_
  refine xg_get (pc := 1) dX5_isOfKind_1 flX5_15 (hp_thing hL (by omega)) rfl ?_
  refine xg_eq hk ?_
  refine xg_istore_n (pc := 4) (ls' := [some (.ref (3 + 16 * L + i)), some (.int a), some (.int 2), none]) dX5_isOfKind_4 (by decide) rfl ?_
  refine xg_iconst (v := 0) (pc := 5) dX5_isOfKind_5 (by decide) ?_
  refine xg_istore_n (pc := 6) (ls' := [some (.ref (3 + 16 * L + i)), some (.int a), some (.int 2), some (.int 0)]) dX5_isOfKind_6 (by decide) rfl ?_
  refine xg_iload_n (pc := 7) dX5_isOfKind_7 rfl ?_
  refine xg_bipush (v := 6) (pc := 8) dX5_isOfKind_8 (by decide) ?_
  refine xg_icmp_ge (pc := 10) (tgt := 42) dX5_isOfKind_10 (by decide) (fun c_10 => absurd c_10 (by decide)) (fun c_10 => ?_)
  refine xg_iload_n (pc := 13) dX5_isOfKind_13 rfl ?_
  refine xg_if_lt (pc := 14) (tgt := 42) dX5_isOfKind_14 (by decide) (fun c_14 => absurd c_14 (by decide)) (fun c_14 => ?_)
  refine xg_iload_n (pc := 17) dX5_isOfKind_17 rfl ?_
  refine xg_bipush (v := 6) (pc := 18) dX5_isOfKind_18 (by decide) ?_
  refine xg_icmp_ge (pc := 20) (tgt := 42) dX5_isOfKind_20 (by decide) (fun c_20 => absurd c_20 (by decide)) (fun c_20 => ?_)
  refine xg_iload_n (pc := 23) dX5_isOfKind_23 rfl ?_
  refine xg_iload_n (pc := 24) dX5_isOfKind_24 rfl ?_
  refine xg_icmp_ne (pc := 25) (tgt := 30) dX5_isOfKind_25 (by decide) (fun c_25 => ?_) (fun c_25 => ?_)
  ·
    refine xg_gsK (pc := 30) dX5_isOfKind_30 rfl ?_
    refine xg_iload_n (pc := 33) dX5_isOfKind_33 rfl ?_
    refine xg_kiald (pc := 34) 2 dX5_isOfKind_34 rfl (by omega) ?_
    refine xg_eq (show xka.getD 2 0 = 0 from by decide) ?_
    refine xg_istore_n (pc := 35) (ls' := [some (.ref (3 + 16 * L + i)), some (.int a), some (.int 0), some (.int 0)]) dX5_isOfKind_35 (by decide) rfl ?_
    refine xg_iinc (pc := 36) (y := 1) (ls' := [some (.ref (3 + 16 * L + i)), some (.int a), some (.int 0), some (.int 1)]) dX5_isOfKind_36 rfl (by decide) (by decide) rfl ?_
    refine xg_goto (pc := 39) (tgt := 7) dX5_isOfKind_39 (by decide) ?_
    refine xg_iload_n (pc := 7) dX5_isOfKind_7 rfl ?_
    refine xg_bipush (v := 6) (pc := 8) dX5_isOfKind_8 (by decide) ?_
    refine xg_icmp_ge (pc := 10) (tgt := 42) dX5_isOfKind_10 (by decide) (fun c_10 => absurd c_10 (by decide)) (fun c_10 => ?_)
    refine xg_iload_n (pc := 13) dX5_isOfKind_13 rfl ?_
    refine xg_if_lt (pc := 14) (tgt := 42) dX5_isOfKind_14 (by decide) (fun c_14 => absurd c_14 (by decide)) (fun c_14 => ?_)
    refine xg_iload_n (pc := 17) dX5_isOfKind_17 rfl ?_
    refine xg_bipush (v := 6) (pc := 18) dX5_isOfKind_18 (by decide) ?_
    refine xg_icmp_ge (pc := 20) (tgt := 42) dX5_isOfKind_20 (by decide) (fun c_20 => absurd c_20 (by decide)) (fun c_20 => ?_)
    refine xg_iload_n (pc := 23) dX5_isOfKind_23 rfl ?_
    refine xg_iload_n (pc := 24) dX5_isOfKind_24 rfl ?_
    refine xg_icmp_ne (pc := 25) (tgt := 30) dX5_isOfKind_25 (by decide) (fun c_25 => ?_) (fun c_25 => ?_)
    ·
      refine xg_gsK (pc := 30) dX5_isOfKind_30 rfl ?_
      refine xg_iload_n (pc := 33) dX5_isOfKind_33 rfl ?_
      refine xg_kiald (pc := 34) 0 dX5_isOfKind_34 rfl (by omega) ?_
      refine xg_eq (show xka.getD 0 0 = -1 from by decide) ?_
      refine xg_istore_n (pc := 35) (ls' := [some (.ref (3 + 16 * L + i)), some (.int a), some (.int (-1)), some (.int 1)]) dX5_isOfKind_35 (by decide) rfl ?_
      refine xg_iinc (pc := 36) (y := 2) (ls' := [some (.ref (3 + 16 * L + i)), some (.int a), some (.int (-1)), some (.int 2)]) dX5_isOfKind_36 rfl (by decide) (by decide) rfl ?_
      refine xg_goto (pc := 39) (tgt := 7) dX5_isOfKind_39 (by decide) ?_
      refine xg_iload_n (pc := 7) dX5_isOfKind_7 rfl ?_
      refine xg_bipush (v := 6) (pc := 8) dX5_isOfKind_8 (by decide) ?_
      refine xg_icmp_ge (pc := 10) (tgt := 42) dX5_isOfKind_10 (by decide) (fun c_10 => absurd c_10 (by decide)) (fun c_10 => ?_)
      refine xg_iload_n (pc := 13) dX5_isOfKind_13 rfl ?_
      refine xg_if_lt (pc := 14) (tgt := 42) dX5_isOfKind_14 (by decide) (fun c_14 => ?_) (fun c_14 => absurd c_14 (by decide))
      refine xg_iconst (v := 0) (pc := 42) dX5_isOfKind_42 (by decide) ?_
      exact xg_zret (pc := 43) (ty := .boolean) dX5_isOfKind_43 rfl rfl (⟨by simp_all [kof], rfl⟩)
    ·
      refine xg_iconst (v := 1) (pc := 28) dX5_isOfKind_28 (by decide) ?_
      exact xg_zret (pc := 29) (ty := .boolean) dX5_isOfKind_29 rfl rfl (⟨by simp_all [kof], rfl⟩)
  ·
    refine xg_iconst (v := 1) (pc := 28) dX5_isOfKind_28 (by decide) ?_
    exact xg_zret (pc := 29) (ty := .boolean) dX5_isOfKind_29 rfl rfl (⟨by simp_all [kof], rfl⟩)
set_option maxRecDepth 100000 in
theorem ev_X5_isOfKind3 {i : Nat} {a : Int32} (hL : L < 3) (hi : i < 8) (hk : f (5 + 5 * i) = 3) : xDv X false (d + 0) mX5_isOfKind [.ref (3 + 16 * L + i), .int a] (hp (va_up lk L f) o mf wf q) [.int (if kof 3 a then 1 else 0)] (hp (va_up lk L f) o mf wf q) := by
  refine xDv.of (ls := [some (.ref (3 + 16 * L + i)), some (.int a), none, none]) mcX5_isOfKind.1.2.2.2.2 (Nat.le_of_ble_eq_true rfl) rfl ?_
  refine xg_aload_n (pc := 0) dX5_isOfKind_0 rfl ?_
  refine xg_get (pc := 1) dX5_isOfKind_1 flX5_15 (hp_thing hL (by omega)) rfl ?_
  refine xg_eq hk ?_
  refine xg_istore_n (pc := 4) (ls' := [some (.ref (3 + 16 * L + i)), some (.int a), some (.int 3), none]) dX5_isOfKind_4 (by decide) rfl ?_
  refine xg_iconst (v := 0) (pc := 5) dX5_isOfKind_5 (by decide) ?_
  refine xg_istore_n (pc := 6) (ls' := [some (.ref (3 + 16 * L + i)), some (.int a), some (.int 3), some (.int 0)]) dX5_isOfKind_6 (by decide) rfl ?_
  refine xg_iload_n (pc := 7) dX5_isOfKind_7 rfl ?_
  refine xg_bipush (v := 6) (pc := 8) dX5_isOfKind_8 (by decide) ?_
  refine xg_icmp_ge (pc := 10) (tgt := 42) dX5_isOfKind_10 (by decide) (fun c_10 => absurd c_10 (by decide)) (fun c_10 => ?_)
  refine xg_iload_n (pc := 13) dX5_isOfKind_13 rfl ?_
  refine xg_if_lt (pc := 14) (tgt := 42) dX5_isOfKind_14 (by decide) (fun c_14 => absurd c_14 (by decide)) (fun c_14 => ?_)
  refine xg_iload_n (pc := 17) dX5_isOfKind_17 rfl ?_
  refine xg_bipush (v := 6) (pc := 18) dX5_isOfKind_18 (by decide) ?_
  refine xg_icmp_ge (pc := 20) (tgt := 42) dX5_isOfKind_20 (by decide) (fun c_20 => absurd c_20 (by decide)) (fun c_20 => ?_)
  refine xg_iload_n (pc := 23) dX5_isOfKind_23 rfl ?_
  refine xg_iload_n (pc := 24) dX5_isOfKind_24 rfl ?_
  refine xg_icmp_ne (pc := 25) (tgt := 30) dX5_isOfKind_25 (by decide) (fun c_25 => ?_) (fun c_25 => ?_)
  ·
    refine xg_gsK (pc := 30) dX5_isOfKind_30 rfl ?_
    refine xg_iload_n (pc := 33) dX5_isOfKind_33 rfl ?_
    refine xg_kiald (pc := 34) 3 dX5_isOfKind_34 rfl (by omega) ?_
    refine xg_eq (show xka.getD 3 0 = 0 from by decide) ?_
    refine xg_istore_n (pc := 35) (ls' := [some (.ref (3 + 16 * L + i)), some (.int a), some (.int 0), some (.int 0)]) dX5_isOfKind_35 (by decide) rfl ?_
    refine xg_iinc (pc := 36) (y := 1) (ls' := [some (.ref (3 + 16 * L + i)), some (.int a), some (.int 0), some (.int 1)]) dX5_isOfKind_36 rfl (by decide) (by decide) rfl ?_
    refine xg_goto (pc := 39) (tgt := 7) dX5_isOfKind_39 (by decide) ?_
    refine xg_iload_n (pc := 7) dX5_isOfKind_7 rfl ?_
    refine xg_bipush (v := 6) (pc := 8) dX5_isOfKind_8 (by decide) ?_
    refine xg_icmp_ge (pc := 10) (tgt := 42) dX5_isOfKind_10 (by decide) (fun c_10 => absurd c_10 (by decide)) (fun c_10 => ?_)
    refine xg_iload_n (pc := 13) dX5_isOfKind_13 rfl ?_
    refine xg_if_lt (pc := 14) (tgt := 42) dX5_isOfKind_14 (by decide) (fun c_14 => absurd c_14 (by decide)) (fun c_14 => ?_)
    refine xg_iload_n (pc := 17) dX5_isOfKind_17 rfl ?_
    refine xg_bipush (v := 6) (pc := 18) dX5_isOfKind_18 (by decide) ?_
    refine xg_icmp_ge (pc := 20) (tgt := 42) dX5_isOfKind_20 (by decide) (fun c_20 => absurd c_20 (by decide)) (fun c_20 => ?_)
    refine xg_iload_n (pc := 23) dX5_isOfKind_23 rfl ?_
    refine xg_iload_n (pc := 24) dX5_isOfKind_24 rfl ?_
    refine xg_icmp_ne (pc := 25) (tgt := 30) dX5_isOfKind_25 (by decide) (fun c_25 => ?_) (fun c_25 => ?_)
    ·
      refine xg_gsK (pc := 30) dX5_isOfKind_30 rfl ?_
      refine xg_iload_n (pc := 33) dX5_isOfKind_33 rfl ?_
      refine xg_kiald (pc := 34) 0 dX5_isOfKind_34 rfl (by omega) ?_
      refine xg_eq (show xka.getD 0 0 = -1 from by decide) ?_
      refine xg_istore_n (pc := 35) (ls' := [some (.ref (3 + 16 * L + i)), some (.int a), some (.int (-1)), some (.int 1)]) dX5_isOfKind_35 (by decide) rfl ?_
      refine xg_iinc (pc := 36) (y := 2) (ls' := [some (.ref (3 + 16 * L + i)), some (.int a), some (.int (-1)), some (.int 2)]) dX5_isOfKind_36 rfl (by decide) (by decide) rfl ?_
      refine xg_goto (pc := 39) (tgt := 7) dX5_isOfKind_39 (by decide) ?_
      refine xg_iload_n (pc := 7) dX5_isOfKind_7 rfl ?_
      refine xg_bipush (v := 6) (pc := 8) dX5_isOfKind_8 (by decide) ?_
      refine xg_icmp_ge (pc := 10) (tgt := 42) dX5_isOfKind_10 (by decide) (fun c_10 => absurd c_10 (by decide)) (fun c_10 => ?_)
      refine xg_iload_n (pc := 13) dX5_isOfKind_13 rfl ?_
      refine xg_if_lt (pc := 14) (tgt := 42) dX5_isOfKind_14 (by decide) (fun c_14 => ?_) (fun c_14 => absurd c_14 (by decide))
      refine xg_iconst (v := 0) (pc := 42) dX5_isOfKind_42 (by decide) ?_
      exact xg_zret (pc := 43) (ty := .boolean) dX5_isOfKind_43 rfl rfl (⟨by simp_all [kof], rfl⟩)
    ·
      refine xg_iconst (v := 1) (pc := 28) dX5_isOfKind_28 (by decide) ?_
      exact xg_zret (pc := 29) (ty := .boolean) dX5_isOfKind_29 rfl rfl (⟨by simp_all [kof], rfl⟩)
  ·
    refine xg_iconst (v := 1) (pc := 28) dX5_isOfKind_28 (by decide) ?_
    exact xg_zret (pc := 29) (ty := .boolean) dX5_isOfKind_29 rfl rfl (⟨by simp_all [kof], rfl⟩)
set_option maxRecDepth 100000 in
theorem ev_X5_isOfKind4 {i : Nat} {a : Int32} (hL : L < 3) (hi : i < 8) (hk : f (5 + 5 * i) = 4) : xDv X false (d + 0) mX5_isOfKind [.ref (3 + 16 * L + i), .int a] (hp (va_up lk L f) o mf wf q) [.int (if kof 4 a then 1 else 0)] (hp (va_up lk L f) o mf wf q) := by
  refine xDv.of (ls := [some (.ref (3 + 16 * L + i)), some (.int a), none, none]) mcX5_isOfKind.1.2.2.2.2 (Nat.le_of_ble_eq_true rfl) rfl ?_
  refine xg_aload_n (pc := 0) dX5_isOfKind_0 rfl ?_
  refine xg_get (pc := 1) dX5_isOfKind_1 flX5_15 (hp_thing hL (by omega)) rfl ?_
  refine xg_eq hk ?_
  refine xg_istore_n (pc := 4) (ls' := [some (.ref (3 + 16 * L + i)), some (.int a), some (.int 4), none]) dX5_isOfKind_4 (by decide) rfl ?_
  refine xg_iconst (v := 0) (pc := 5) dX5_isOfKind_5 (by decide) ?_
  refine xg_istore_n (pc := 6) (ls' := [some (.ref (3 + 16 * L + i)), some (.int a), some (.int 4), some (.int 0)]) dX5_isOfKind_6 (by decide) rfl ?_
  refine xg_iload_n (pc := 7) dX5_isOfKind_7 rfl ?_
  refine xg_bipush (v := 6) (pc := 8) dX5_isOfKind_8 (by decide) ?_
  refine xg_icmp_ge (pc := 10) (tgt := 42) dX5_isOfKind_10 (by decide) (fun c_10 => absurd c_10 (by decide)) (fun c_10 => ?_)
  refine xg_iload_n (pc := 13) dX5_isOfKind_13 rfl ?_
  refine xg_if_lt (pc := 14) (tgt := 42) dX5_isOfKind_14 (by decide) (fun c_14 => absurd c_14 (by decide)) (fun c_14 => ?_)
  refine xg_iload_n (pc := 17) dX5_isOfKind_17 rfl ?_
  refine xg_bipush (v := 6) (pc := 18) dX5_isOfKind_18 (by decide) ?_
  refine xg_icmp_ge (pc := 20) (tgt := 42) dX5_isOfKind_20 (by decide) (fun c_20 => absurd c_20 (by decide)) (fun c_20 => ?_)
  refine xg_iload_n (pc := 23) dX5_isOfKind_23 rfl ?_
  refine xg_iload_n (pc := 24) dX5_isOfKind_24 rfl ?_
  refine xg_icmp_ne (pc := 25) (tgt := 30) dX5_isOfKind_25 (by decide) (fun c_25 => ?_) (fun c_25 => ?_)
  ·
    refine xg_gsK (pc := 30) dX5_isOfKind_30 rfl ?_
    refine xg_iload_n (pc := 33) dX5_isOfKind_33 rfl ?_
    refine xg_kiald (pc := 34) 4 dX5_isOfKind_34 rfl (by omega) ?_
    refine xg_eq (show xka.getD 4 0 = 1 from by decide) ?_
    refine xg_istore_n (pc := 35) (ls' := [some (.ref (3 + 16 * L + i)), some (.int a), some (.int 1), some (.int 0)]) dX5_isOfKind_35 (by decide) rfl ?_
    refine xg_iinc (pc := 36) (y := 1) (ls' := [some (.ref (3 + 16 * L + i)), some (.int a), some (.int 1), some (.int 1)]) dX5_isOfKind_36 rfl (by decide) (by decide) rfl ?_
    refine xg_goto (pc := 39) (tgt := 7) dX5_isOfKind_39 (by decide) ?_
    refine xg_iload_n (pc := 7) dX5_isOfKind_7 rfl ?_
    refine xg_bipush (v := 6) (pc := 8) dX5_isOfKind_8 (by decide) ?_
    refine xg_icmp_ge (pc := 10) (tgt := 42) dX5_isOfKind_10 (by decide) (fun c_10 => absurd c_10 (by decide)) (fun c_10 => ?_)
    refine xg_iload_n (pc := 13) dX5_isOfKind_13 rfl ?_
    refine xg_if_lt (pc := 14) (tgt := 42) dX5_isOfKind_14 (by decide) (fun c_14 => absurd c_14 (by decide)) (fun c_14 => ?_)
    refine xg_iload_n (pc := 17) dX5_isOfKind_17 rfl ?_
    refine xg_bipush (v := 6) (pc := 18) dX5_isOfKind_18 (by decide) ?_
    refine xg_icmp_ge (pc := 20) (tgt := 42) dX5_isOfKind_20 (by decide) (fun c_20 => absurd c_20 (by decide)) (fun c_20 => ?_)
    refine xg_iload_n (pc := 23) dX5_isOfKind_23 rfl ?_
    refine xg_iload_n (pc := 24) dX5_isOfKind_24 rfl ?_
    refine xg_icmp_ne (pc := 25) (tgt := 30) dX5_isOfKind_25 (by decide) (fun c_25 => ?_) (fun c_25 => ?_)
    ·
      refine xg_gsK (pc := 30) dX5_isOfKind_30 rfl ?_
      refine xg_iload_n (pc := 33) dX5_isOfKind_33 rfl ?_
      refine xg_kiald (pc := 34) 1 dX5_isOfKind_34 rfl (by omega) ?_
      refine xg_eq (show xka.getD 1 0 = 0 from by decide) ?_
      refine xg_istore_n (pc := 35) (ls' := [some (.ref (3 + 16 * L + i)), some (.int a), some (.int 0), some (.int 1)]) dX5_isOfKind_35 (by decide) rfl ?_
      refine xg_iinc (pc := 36) (y := 2) (ls' := [some (.ref (3 + 16 * L + i)), some (.int a), some (.int 0), some (.int 2)]) dX5_isOfKind_36 rfl (by decide) (by decide) rfl ?_
      refine xg_goto (pc := 39) (tgt := 7) dX5_isOfKind_39 (by decide) ?_
      refine xg_iload_n (pc := 7) dX5_isOfKind_7 rfl ?_
      refine xg_bipush (v := 6) (pc := 8) dX5_isOfKind_8 (by decide) ?_
      refine xg_icmp_ge (pc := 10) (tgt := 42) dX5_isOfKind_10 (by decide) (fun c_10 => absurd c_10 (by decide)) (fun c_10 => ?_)
      refine xg_iload_n (pc := 13) dX5_isOfKind_13 rfl ?_
      refine xg_if_lt (pc := 14) (tgt := 42) dX5_isOfKind_14 (by decide) (fun c_14 => absurd c_14 (by decide)) (fun c_14 => ?_)
      refine xg_iload_n (pc := 17) dX5_isOfKind_17 rfl ?_
      refine xg_bipush (v := 6) (pc := 18) dX5_isOfKind_18 (by decide) ?_
      refine xg_icmp_ge (pc := 20) (tgt := 42) dX5_isOfKind_20 (by decide) (fun c_20 => absurd c_20 (by decide)) (fun c_20 => ?_)
      refine xg_iload_n (pc := 23) dX5_isOfKind_23 rfl ?_
      refine xg_iload_n (pc := 24) dX5_isOfKind_24 rfl ?_
      refine xg_icmp_ne (pc := 25) (tgt := 30) dX5_isOfKind_25 (by decide) (fun c_25 => ?_) (fun c_25 => ?_)
      ·
        refine xg_gsK (pc := 30) dX5_isOfKind_30 rfl ?_
        refine xg_iload_n (pc := 33) dX5_isOfKind_33 rfl ?_
        refine xg_kiald (pc := 34) 0 dX5_isOfKind_34 rfl (by omega) ?_
        refine xg_eq (show xka.getD 0 0 = -1 from by decide) ?_
        refine xg_istore_n (pc := 35) (ls' := [some (.ref (3 + 16 * L + i)), some (.int a), some (.int (-1)), some (.int 2)]) dX5_isOfKind_35 (by decide) rfl ?_
        refine xg_iinc (pc := 36) (y := 3) (ls' := [some (.ref (3 + 16 * L + i)), some (.int a), some (.int (-1)), some (.int 3)]) dX5_isOfKind_36 rfl (by decide) (by decide) rfl ?_
        refine xg_goto (pc := 39) (tgt := 7) dX5_isOfKind_39 (by decide) ?_
        refine xg_iload_n (pc := 7) dX5_isOfKind_7 rfl ?_
        refine xg_bipush (v := 6) (pc := 8) dX5_isOfKind_8 (by decide) ?_
        refine xg_icmp_ge (pc := 10) (tgt := 42) dX5_isOfKind_10 (by decide) (fun c_10 => absurd c_10 (by decide)) (fun c_10 => ?_)
        refine xg_iload_n (pc := 13) dX5_isOfKind_13 rfl ?_
        refine xg_if_lt (pc := 14) (tgt := 42) dX5_isOfKind_14 (by decide) (fun c_14 => ?_) (fun c_14 => absurd c_14 (by decide))
        refine xg_iconst (v := 0) (pc := 42) dX5_isOfKind_42 (by decide) ?_
        exact xg_zret (pc := 43) (ty := .boolean) dX5_isOfKind_43 rfl rfl (⟨by simp_all [kof], rfl⟩)
      ·
        refine xg_iconst (v := 1) (pc := 28) dX5_isOfKind_28 (by decide) ?_
        exact xg_zret (pc := 29) (ty := .boolean) dX5_isOfKind_29 rfl rfl (⟨by simp_all [kof], rfl⟩)
    ·
      refine xg_iconst (v := 1) (pc := 28) dX5_isOfKind_28 (by decide) ?_
      exact xg_zret (pc := 29) (ty := .boolean) dX5_isOfKind_29 rfl rfl (⟨by simp_all [kof], rfl⟩)
  ·
    refine xg_iconst (v := 1) (pc := 28) dX5_isOfKind_28 (by decide) ?_
    exact xg_zret (pc := 29) (ty := .boolean) dX5_isOfKind_29 rfl rfl (⟨by simp_all [kof], rfl⟩)
set_option maxRecDepth 100000 in
theorem ev_X5_isOfKind5 {i : Nat} {a : Int32} (hL : L < 3) (hi : i < 8) (hk : f (5 + 5 * i) = 5) : xDv X false (d + 0) mX5_isOfKind [.ref (3 + 16 * L + i), .int a] (hp (va_up lk L f) o mf wf q) [.int (if kof 5 a then 1 else 0)] (hp (va_up lk L f) o mf wf q) := by
  refine xDv.of (ls := [some (.ref (3 + 16 * L + i)), some (.int a), none, none]) mcX5_isOfKind.1.2.2.2.2 (Nat.le_of_ble_eq_true rfl) rfl ?_
  refine xg_aload_n (pc := 0) dX5_isOfKind_0 rfl ?_
  refine xg_get (pc := 1) dX5_isOfKind_1 flX5_15 (hp_thing hL (by omega)) rfl ?_
  refine xg_eq hk ?_
  refine xg_istore_n (pc := 4) (ls' := [some (.ref (3 + 16 * L + i)), some (.int a), some (.int 5), none]) dX5_isOfKind_4 (by decide) rfl ?_
  refine xg_iconst (v := 0) (pc := 5) dX5_isOfKind_5 (by decide) ?_
  refine xg_istore_n (pc := 6) (ls' := [some (.ref (3 + 16 * L + i)), some (.int a), some (.int 5), some (.int 0)]) dX5_isOfKind_6 (by decide) rfl ?_
  refine xg_iload_n (pc := 7) dX5_isOfKind_7 rfl ?_
  refine xg_bipush (v := 6) (pc := 8) dX5_isOfKind_8 (by decide) ?_
  refine xg_icmp_ge (pc := 10) (tgt := 42) dX5_isOfKind_10 (by decide) (fun c_10 => absurd c_10 (by decide)) (fun c_10 => ?_)
  refine xg_iload_n (pc := 13) dX5_isOfKind_13 rfl ?_
  refine xg_if_lt (pc := 14) (tgt := 42) dX5_isOfKind_14 (by decide) (fun c_14 => absurd c_14 (by decide)) (fun c_14 => ?_)
  refine xg_iload_n (pc := 17) dX5_isOfKind_17 rfl ?_
  refine xg_bipush (v := 6) (pc := 18) dX5_isOfKind_18 (by decide) ?_
  refine xg_icmp_ge (pc := 20) (tgt := 42) dX5_isOfKind_20 (by decide) (fun c_20 => absurd c_20 (by decide)) (fun c_20 => ?_)
  refine xg_iload_n (pc := 23) dX5_isOfKind_23 rfl ?_
  refine xg_iload_n (pc := 24) dX5_isOfKind_24 rfl ?_
  refine xg_icmp_ne (pc := 25) (tgt := 30) dX5_isOfKind_25 (by decide) (fun c_25 => ?_) (fun c_25 => ?_)
  ·
    refine xg_gsK (pc := 30) dX5_isOfKind_30 rfl ?_
    refine xg_iload_n (pc := 33) dX5_isOfKind_33 rfl ?_
    refine xg_kiald (pc := 34) 5 dX5_isOfKind_34 rfl (by omega) ?_
    refine xg_eq (show xka.getD 5 0 = 2 from by decide) ?_
    refine xg_istore_n (pc := 35) (ls' := [some (.ref (3 + 16 * L + i)), some (.int a), some (.int 2), some (.int 0)]) dX5_isOfKind_35 (by decide) rfl ?_
    refine xg_iinc (pc := 36) (y := 1) (ls' := [some (.ref (3 + 16 * L + i)), some (.int a), some (.int 2), some (.int 1)]) dX5_isOfKind_36 rfl (by decide) (by decide) rfl ?_
    refine xg_goto (pc := 39) (tgt := 7) dX5_isOfKind_39 (by decide) ?_
    refine xg_iload_n (pc := 7) dX5_isOfKind_7 rfl ?_
    refine xg_bipush (v := 6) (pc := 8) dX5_isOfKind_8 (by decide) ?_
    refine xg_icmp_ge (pc := 10) (tgt := 42) dX5_isOfKind_10 (by decide) (fun c_10 => absurd c_10 (by decide)) (fun c_10 => ?_)
    refine xg_iload_n (pc := 13) dX5_isOfKind_13 rfl ?_
    refine xg_if_lt (pc := 14) (tgt := 42) dX5_isOfKind_14 (by decide) (fun c_14 => absurd c_14 (by decide)) (fun c_14 => ?_)
    refine xg_iload_n (pc := 17) dX5_isOfKind_17 rfl ?_
    refine xg_bipush (v := 6) (pc := 18) dX5_isOfKind_18 (by decide) ?_
    refine xg_icmp_ge (pc := 20) (tgt := 42) dX5_isOfKind_20 (by decide) (fun c_20 => absurd c_20 (by decide)) (fun c_20 => ?_)
    refine xg_iload_n (pc := 23) dX5_isOfKind_23 rfl ?_
    refine xg_iload_n (pc := 24) dX5_isOfKind_24 rfl ?_
    refine xg_icmp_ne (pc := 25) (tgt := 30) dX5_isOfKind_25 (by decide) (fun c_25 => ?_) (fun c_25 => ?_)
    ·
      refine xg_gsK (pc := 30) dX5_isOfKind_30 rfl ?_
      refine xg_iload_n (pc := 33) dX5_isOfKind_33 rfl ?_
      refine xg_kiald (pc := 34) 2 dX5_isOfKind_34 rfl (by omega) ?_
      refine xg_eq (show xka.getD 2 0 = 0 from by decide) ?_
      refine xg_istore_n (pc := 35) (ls' := [some (.ref (3 + 16 * L + i)), some (.int a), some (.int 0), some (.int 1)]) dX5_isOfKind_35 (by decide) rfl ?_
      refine xg_iinc (pc := 36) (y := 2) (ls' := [some (.ref (3 + 16 * L + i)), some (.int a), some (.int 0), some (.int 2)]) dX5_isOfKind_36 rfl (by decide) (by decide) rfl ?_
      refine xg_goto (pc := 39) (tgt := 7) dX5_isOfKind_39 (by decide) ?_
      refine xg_iload_n (pc := 7) dX5_isOfKind_7 rfl ?_
      refine xg_bipush (v := 6) (pc := 8) dX5_isOfKind_8 (by decide) ?_
      refine xg_icmp_ge (pc := 10) (tgt := 42) dX5_isOfKind_10 (by decide) (fun c_10 => absurd c_10 (by decide)) (fun c_10 => ?_)
      refine xg_iload_n (pc := 13) dX5_isOfKind_13 rfl ?_
      refine xg_if_lt (pc := 14) (tgt := 42) dX5_isOfKind_14 (by decide) (fun c_14 => absurd c_14 (by decide)) (fun c_14 => ?_)
      refine xg_iload_n (pc := 17) dX5_isOfKind_17 rfl ?_
      refine xg_bipush (v := 6) (pc := 18) dX5_isOfKind_18 (by decide) ?_
      refine xg_icmp_ge (pc := 20) (tgt := 42) dX5_isOfKind_20 (by decide) (fun c_20 => absurd c_20 (by decide)) (fun c_20 => ?_)
      refine xg_iload_n (pc := 23) dX5_isOfKind_23 rfl ?_
      refine xg_iload_n (pc := 24) dX5_isOfKind_24 rfl ?_
      refine xg_icmp_ne (pc := 25) (tgt := 30) dX5_isOfKind_25 (by decide) (fun c_25 => ?_) (fun c_25 => ?_)
      ·
        refine xg_gsK (pc := 30) dX5_isOfKind_30 rfl ?_
        refine xg_iload_n (pc := 33) dX5_isOfKind_33 rfl ?_
        refine xg_kiald (pc := 34) 0 dX5_isOfKind_34 rfl (by omega) ?_
        refine xg_eq (show xka.getD 0 0 = -1 from by decide) ?_
        refine xg_istore_n (pc := 35) (ls' := [some (.ref (3 + 16 * L + i)), some (.int a), some (.int (-1)), some (.int 2)]) dX5_isOfKind_35 (by decide) rfl ?_
        refine xg_iinc (pc := 36) (y := 3) (ls' := [some (.ref (3 + 16 * L + i)), some (.int a), some (.int (-1)), some (.int 3)]) dX5_isOfKind_36 rfl (by decide) (by decide) rfl ?_
        refine xg_goto (pc := 39) (tgt := 7) dX5_isOfKind_39 (by decide) ?_
        refine xg_iload_n (pc := 7) dX5_isOfKind_7 rfl ?_
        refine xg_bipush (v := 6) (pc := 8) dX5_isOfKind_8 (by decide) ?_
        refine xg_icmp_ge (pc := 10) (tgt := 42) dX5_isOfKind_10 (by decide) (fun c_10 => absurd c_10 (by decide)) (fun c_10 => ?_)
        refine xg_iload_n (pc := 13) dX5_isOfKind_13 rfl ?_
        refine xg_if_lt (pc := 14) (tgt := 42) dX5_isOfKind_14 (by decide) (fun c_14 => ?_) (fun c_14 => absurd c_14 (by decide))
        refine xg_iconst (v := 0) (pc := 42) dX5_isOfKind_42 (by decide) ?_
        exact xg_zret (pc := 43) (ty := .boolean) dX5_isOfKind_43 rfl rfl (⟨by simp_all [kof], rfl⟩)
      ·
        refine xg_iconst (v := 1) (pc := 28) dX5_isOfKind_28 (by decide) ?_
        exact xg_zret (pc := 29) (ty := .boolean) dX5_isOfKind_29 rfl rfl (⟨by simp_all [kof], rfl⟩)
    ·
      refine xg_iconst (v := 1) (pc := 28) dX5_isOfKind_28 (by decide) ?_
      exact xg_zret (pc := 29) (ty := .boolean) dX5_isOfKind_29 rfl rfl (⟨by simp_all [kof], rfl⟩)
  ·
    refine xg_iconst (v := 1) (pc := 28) dX5_isOfKind_28 (by decide) ?_
    exact xg_zret (pc := 29) (ty := .boolean) dX5_isOfKind_29 rfl rfl (⟨by simp_all [kof], rfl⟩)
set_option maxRecDepth 100000 in
theorem ev_X0_takeFrom {j : Nat} {g : Int32} (hL : L < 3) (hj : j < 5) : xDv X false (d + 1) mX0_takeFrom [.ref (12 + 16 * L + j), .int g] (hp (va_up lk L f) o mf wf q) [.int (mn2 g (mn2 (f (45 + 4 * j + 1)) (999 - f (45 + 4 * j + 2))))] (hp (va_up lk L f) o mf wf q) := by
  refine xDv.of (ls := [some (.ref (12 + 16 * L + j)), some (.int g)]) mcX0_takeFrom.1.2.2.2.2 (Nat.le_of_ble_eq_true rfl) rfl ?_
  refine xg_iload_n (pc := 0) dX0_takeFrom_0 rfl ?_
  refine xg_aload_n (pc := 1) dX0_takeFrom_1 rfl ?_
  refine xg_get (pc := 2) dX0_takeFrom_2 flX0_19 (hp_boat hL (by omega)) rfl ?_
  refine xg_sipush (v := 999) (pc := 5) dX0_takeFrom_5 (by decide) ?_
  refine xg_aload_n (pc := 8) dX0_takeFrom_8 rfl ?_
  refine xg_get (pc := 9) dX0_takeFrom_9 flX0_22 (hp_boat hL (by omega)) rfl ?_
  refine xg_isub (pc := 12) dX0_takeFrom_12 ?_
  refine xg_mmin (pc := 13) dX0_takeFrom_13 lkX0_28 mm_min (Nat.le_of_ble_eq_true rfl) ?_
  refine xg_mmin (pc := 16) dX0_takeFrom_16 lkX0_28 mm_min (Nat.le_of_ble_eq_true rfl) ?_
  exact xg_iret (pc := 19) dX0_takeFrom_19 rfl (⟨by rfl, rfl⟩)
set_option maxRecDepth 100000 in
theorem ev_X0_worth {j : Nat} (hL : L < 3) (hj : j < 5) : xDv X false (d + 0) mX0_worth [.ref (12 + 16 * L + j)] (hp (va_up lk L f) o mf wf q) [.int (f (45 + 4 * j + 3) + f (45 + 4 * j + 2))] (hp (va_up lk L f) o mf wf q) := by
  refine xDv.of (ls := [some (.ref (12 + 16 * L + j))]) mcX0_worth.1.2.2.2.2 (Nat.le_of_ble_eq_true rfl) rfl ?_
  refine xg_aload_n (pc := 0) dX0_worth_0 rfl ?_
  refine xg_get (pc := 1) dX0_worth_1 flX0_25 (hp_boat hL (by omega)) rfl ?_
  refine xg_aload_n (pc := 4) dX0_worth_4 rfl ?_
  refine xg_get (pc := 5) dX0_worth_5 flX0_22 (hp_boat hL (by omega)) rfl ?_
  refine xg_iadd (pc := 8) dX0_worth_8 ?_
  exact xg_iret (pc := 9) dX0_worth_9 rfl (⟨by rfl, rfl⟩)
set_option maxRecDepth 100000 in
theorem ev_X0_earn {j : Nat} {c : Int32} (hL : L < 3) (hj : j < 5) : xDv X false (d + 1) mX0_earn [.ref (12 + 16 * L + j), .int c] (hp (va_up lk L f) o mf wf q) [] (hp (va_up lk L (ernC f j c)) o mf wf q) := by
  refine xDv.of (ls := [some (.ref (12 + 16 * L + j)), some (.int c)]) mcX0_earn.1.2.2.2.2 (Nat.le_of_ble_eq_true rfl) rfl ?_
  refine xg_aload_n (pc := 0) dX0_earn_0 rfl ?_
  refine xg_ldc (v := -99999) (pc := 1) dX0_earn_1 ccX0_34 ?_
  refine xg_ldc (v := 99999) (pc := 3) dX0_earn_3 ccX0_35 ?_
  refine xg_aload_n (pc := 5) dX0_earn_5 rfl ?_
  refine xg_get (pc := 6) dX0_earn_6 flX0_25 (hp_boat hL (by omega)) rfl ?_
  refine xg_iload_n (pc := 9) dX0_earn_9 rfl ?_
  refine xg_iadd (pc := 10) dX0_earn_10 ?_
  refine xg_mmin (pc := 11) dX0_earn_11 lkX0_28 mm_min (Nat.le_of_ble_eq_true rfl) ?_
  refine xg_mmax (pc := 14) dX0_earn_14 lkX0_36 mm_max (Nat.le_of_ble_eq_true rfl) ?_
  refine xg_puti (pc := 17) (h' := hp (va_up lk L (upd f (45 + 4 * j + 3) (if (-99999) < (if ((f (45 + 4 * j + 3)) + c) < 99999 then ((f (45 + 4 * j + 3)) + c) else 99999) then (if ((f (45 + 4 * j + 3)) + c) < 99999 then ((f (45 + 4 * j + 3)) + c) else 99999) else (-99999)))) o mf wf q) dX0_earn_17 flX0_25 (hp_boat hL (by omega)) (Nat.le_of_ble_eq_true rfl) (hs_b hL (c := 3) (by omega) (by decide)) ?_
  exact xg_ret (pc := 20) dX0_earn_20 rfl (⟨rfl, rfl⟩)
set_option maxRecDepth 100000 in
theorem ev_X0_sell {j : Nat} (hL : L < 3) (hj : j < 5) : xDv X false (d + 2) mX0_sell [.ref (12 + 16 * L + j)] (hp (va_up lk L f) o mf wf q) [] (hp (va_up lk L (slC j f)) o mf wf q) := by
  refine xDv.of (ls := [some (.ref (12 + 16 * L + j))]) mcX0_sell.1.2.2.2.2 (Nat.le_of_ble_eq_true rfl) rfl ?_
  refine xg_aload_n (pc := 0) dX0_sell_0 rfl ?_
  refine xg_aload_n (pc := 1) dX0_sell_1 rfl ?_
  refine xg_get (pc := 2) dX0_sell_2 flX0_22 (hp_boat hL (by omega)) rfl ?_
  refine xg_cvV (pc := 5) (h1 := hp (va_up lk L (ernC f j (f (45 + 4 * j + 2)))) o mf wf q) (M' := mX0_earn) dX0_sell_5 lkX0_39 mcX0_earn (hp_boat hL (by omega)) rfl (ev_X0_earn (j := j) hL (by omega)) rfl rfl (Nat.le_of_ble_eq_true rfl) ?_
  refine xg_aload_n (pc := 8) dX0_sell_8 rfl ?_
  refine xg_iconst (v := 0) (pc := 9) dX0_sell_9 (by decide) ?_
  refine xg_puti (pc := 10) (h' := hp (va_up lk L (upd (ernC f j (f (45 + 4 * j + 2))) (45 + 4 * j + 2) 0)) o mf wf q) dX0_sell_10 flX0_22 (hp_boat hL (by omega)) (Nat.le_of_ble_eq_true rfl) (hs_b hL (c := 2) (by omega) (by decide)) ?_
  exact xg_ret (pc := 13) dX0_sell_13 rfl (⟨rfl, rfl⟩)
set_option maxRecDepth 100000 in
theorem ev_X0_become {z : Bool} {j : Nat} {a b c e : Int32} (hL : L < 3) (hj : j < 5) : xDv X z (d + 0) mX0_become [.ref (12 + 16 * L + j), .int a, .int b, .int c, .int e] (hp (va_up lk L f) o mf wf q) [] (hp (va_up lk L (uB f j a b c e)) o mf wf q) := by
  refine xDv.of (ls := [some (.ref (12 + 16 * L + j)), some (.int a), some (.int b), some (.int c), some (.int e)]) mcX0_become.1.2.2.2.2 (Nat.le_of_ble_eq_true rfl) rfl ?_
  refine xg_aload_n (pc := 0) dX0_become_0 rfl ?_
  refine xg_iload_n (pc := 1) dX0_become_1 rfl ?_
  refine xg_puti (pc := 2) (h' := hp (va_up lk L (upd f (45 + 4 * j + 0) a)) o mf wf q) dX0_become_2 flX0_15 (hp_boat hL (by omega)) (Nat.le_of_ble_eq_true rfl) (hs_b hL (c := 0) (by omega) (by decide)) ?_
  refine xg_aload_n (pc := 5) dX0_become_5 rfl ?_
  refine xg_iload_n (pc := 6) dX0_become_6 rfl ?_
  refine xg_puti (pc := 7) (h' := hp (va_up lk L (upd (upd f (45 + 4 * j + 0) a) (45 + 4 * j + 1) b)) o mf wf q) dX0_become_7 flX0_19 (hp_boat hL (by omega)) (Nat.le_of_ble_eq_true rfl) (hs_b hL (c := 1) (by omega) (by decide)) ?_
  refine xg_aload_n (pc := 10) dX0_become_10 rfl ?_
  refine xg_iload_n (pc := 11) dX0_become_11 rfl ?_
  refine xg_puti (pc := 12) (h' := hp (va_up lk L (upd (upd (upd f (45 + 4 * j + 0) a) (45 + 4 * j + 1) b) (45 + 4 * j + 2) c)) o mf wf q) dX0_become_12 flX0_22 (hp_boat hL (by omega)) (Nat.le_of_ble_eq_true rfl) (hs_b hL (c := 2) (by omega) (by decide)) ?_
  refine xg_aload_n (pc := 15) dX0_become_15 rfl ?_
  refine xg_iload (pc := 16) dX0_become_16 rfl ?_
  refine xg_puti (pc := 18) (h' := hp (va_up lk L (upd (upd (upd (upd f (45 + 4 * j + 0) a) (45 + 4 * j + 1) b) (45 + 4 * j + 2) c) (45 + 4 * j + 3) e)) o mf wf q) dX0_become_18 flX0_25 (hp_boat hL (by omega)) (Nat.le_of_ble_eq_true rfl) (hs_b hL (c := 3) (by omega) (by decide)) ?_
  exact xg_ret (pc := 21) dX0_become_21 rfl (⟨rfl, rfl⟩)
end
