theorem CH_ref {g : GG} {I0 : II} {b : Nat} {X X2 : va_W} {T T2 : TT} {I2 : II} {i f : Nat} {w' : Nat → Int32} {B' N' E' : Nat} {an' : Int32} {r : Option Value} (h : CH g I0 b X T i f w' B' N' E' an' r X2 T2 I2) : ∃ f2, r = some (.ref (ga g f2)) := by
  obtain ⟨-, -, ⟨-, h, -⟩ | ⟨-, h, -⟩⟩ := h
  · exact ⟨_, h⟩
  · exact ⟨_, h⟩
set_option maxHeartbeats 1000000 in
theorem c_obey_0 {g : GG} {X : va_W} {T : TT} {I : II} {b : Nat} (hd : isDk T b) {w : Nat → Int32} {B N E : Nat} {pm : Nat → Nat} (hV : DV I b w B N E pm) {D U : Nat} (hG : Gd w B N E D U) (hS : Sd w N) (hDx : D + 60 ≤ 100000) {d : Nat} (ha : T d = (2, 5, nr)) : Mc g yX3_obey cX3_obey 3 (some (.object "LendingDesk$Fault")) 7 0 0 [.ref b, .ref (ga g (10 + 0)), .ref d] X T I (CHx g I b X T w B N E 0 (I d)) := by
  have hB6 := hV.hB
  have hN10 := hV.hN
  have hE20 := hV.hE
  refine Mc.of (by decide) (Nat.le_of_ble_eq_true rfl) (fun k hfl C => ?_)
  refine r_lo (lo' := [(0, _), (1, _), (2, _)]) rfl ?_
  refine r_aload_n (pc := 0) C 2 dX3_obey_0 rfl rfl ?_
  refine r_alen (pc := 1) C ha (by decide) dX3_obey_1 ?_
  refine r_iconst (pc := 2) (v := 5) C dX3_obey_2 rfl ?_
  refine r_cgeN (pc := 3) (tgt := 10) C dX3_obey_3 rfl (by omega) (by omega) (fun c_3 => ?_) (fun c_3 => False.elim (by omega))
  refine r_sw (pc := 10) C (gx 1581 (by decide +kernel) (by decide +kernel)) dX3_obey_10 ?_
  refine r_aload_n (pc := 13) C 1 dX3_obey_13 rfl rfl ?_
  refine r_ord (pc := 14) (i := 0) C hfl (by decide) (by decide) (by decide) (Nat.le_of_ble_eq_true rfl) dX3_obey_14 ?_
  refine r_swl (pc := 17) (i := 0) C (by decide) dX3_obey_17 ?_
  refine r_t (y := nI 1) rfl ?_
  refine r_tblI (pc := 18) (tgt := 64) C dX3_obey_18 (by decide) (by decide) (by rfl) rfl ?_
  refine r_aload_n (pc := 64) C 0 dX3_obey_64 rfl rfl ?_
  refine r_aload_n (pc := 65) C 2 dX3_obey_65 rfl rfl ?_
  refine r_iconst (pc := 66) (v := 0) C dX3_obey_66 rfl ?_
  refine r_iald (pc := 67) (x := 0) C ha rfl (by omega) (by decide) dX3_obey_67 ?_
  refine r_callV (pc := 68) C hfl k_X3_113 (h_0 hd hV hG hS) (Dk_0 hd) ca_X3 rfl rfl (Nat.le_of_ble_eq_true rfl) (by decide) (by decide) dX3_obey_68 (fun r2 X2 T2 J2 h2 => ?_)
  obtain ⟨f2, rfl⟩ := CH_ref h2
  refine r_st (st' := .ref _ :: []) rfl ?_
  exact r_aret (pc := 71) C (Or.inl ⟨_, rfl⟩) (Or.inr ⟨_, rfl⟩) dX3_obey_71 h2 (by decide)

set_option maxHeartbeats 1000000 in
theorem c_obey_1 {g : GG} {X : va_W} {T : TT} {I : II} {b : Nat} (hd : isDk T b) {w : Nat → Int32} {B N E : Nat} {pm : Nat → Nat} (hV : DV I b w B N E pm) {D U : Nat} (hG : Gd w B N E D U) (hS : Sd w N) (hDx : D + 60 ≤ 100000) {d : Nat} (ha : T d = (2, 5, nr)) : Mc g yX3_obey cX3_obey 3 (some (.object "LendingDesk$Fault")) 7 0 0 [.ref b, .ref (ga g (10 + 1)), .ref d] X T I (CHx g I b X T w B N E 1 (I d)) := by
  have hB6 := hV.hB
  have hN10 := hV.hN
  have hE20 := hV.hE
  refine Mc.of (by decide) (Nat.le_of_ble_eq_true rfl) (fun k hfl C => ?_)
  refine r_lo (lo' := [(0, _), (1, _), (2, _)]) rfl ?_
  refine r_aload_n (pc := 0) C 2 dX3_obey_0 rfl rfl ?_
  refine r_alen (pc := 1) C ha (by decide) dX3_obey_1 ?_
  refine r_iconst (pc := 2) (v := 5) C dX3_obey_2 rfl ?_
  refine r_cgeN (pc := 3) (tgt := 10) C dX3_obey_3 rfl (by omega) (by omega) (fun c_3 => ?_) (fun c_3 => False.elim (by omega))
  refine r_sw (pc := 10) C (gx 1581 (by decide +kernel) (by decide +kernel)) dX3_obey_10 ?_
  refine r_aload_n (pc := 13) C 1 dX3_obey_13 rfl rfl ?_
  refine r_ord (pc := 14) (i := 1) C hfl (by decide) (by decide) (by decide) (Nat.le_of_ble_eq_true rfl) dX3_obey_14 ?_
  refine r_swl (pc := 17) (i := 1) C (by decide) dX3_obey_17 ?_
  refine r_t (y := nI 2) rfl ?_
  refine r_tblI (pc := 18) (tgt := 72) C dX3_obey_18 (by decide) (by decide) (by rfl) rfl ?_
  refine r_aload_n (pc := 72) C 0 dX3_obey_72 rfl rfl ?_
  refine r_aload_n (pc := 73) C 2 dX3_obey_73 rfl rfl ?_
  refine r_iconst (pc := 74) (v := 0) C dX3_obey_74 rfl ?_
  refine r_iald (pc := 75) (x := 0) C ha rfl (by omega) (by decide) dX3_obey_75 ?_
  refine r_aload_n (pc := 76) C 2 dX3_obey_76 rfl rfl ?_
  refine r_iconst (pc := 77) (v := 1) C dX3_obey_77 rfl ?_
  refine r_iald (pc := 78) (x := 1) C ha rfl (by omega) (by decide) dX3_obey_78 ?_
  refine r_aload_n (pc := 79) C 2 dX3_obey_79 rfl rfl ?_
  refine r_iconst (pc := 80) (v := 2) C dX3_obey_80 rfl ?_
  refine r_iald (pc := 81) (x := 2) C ha rfl (by omega) (by decide) dX3_obey_81 ?_
  refine r_callV (pc := 82) C hfl k_X3_117 (h_1 hd hV hG hS) (Dk_0 hd) ca_X3 rfl rfl (Nat.le_of_ble_eq_true rfl) (by decide) (by decide) dX3_obey_82 (fun r2 X2 T2 J2 h2 => ?_)
  obtain ⟨f2, rfl⟩ := CH_ref h2
  refine r_st (st' := .ref _ :: []) rfl ?_
  exact r_aret (pc := 85) C (Or.inl ⟨_, rfl⟩) (Or.inr ⟨_, rfl⟩) dX3_obey_85 h2 (by decide)

set_option maxHeartbeats 1000000 in
theorem c_obey_2 {g : GG} {X : va_W} {T : TT} {I : II} {b : Nat} (hd : isDk T b) {w : Nat → Int32} {B N E : Nat} {pm : Nat → Nat} (hV : DV I b w B N E pm) {D U : Nat} (hG : Gd w B N E D U) (hS : Sd w N) (hDx : D + 60 ≤ 100000) {d : Nat} (ha : T d = (2, 5, nr)) : Mc g yX3_obey cX3_obey 3 (some (.object "LendingDesk$Fault")) 7 0 0 [.ref b, .ref (ga g (10 + 2)), .ref d] X T I (CHx g I b X T w B N E 2 (I d)) := by
  have hB6 := hV.hB
  have hN10 := hV.hN
  have hE20 := hV.hE
  refine Mc.of (by decide) (Nat.le_of_ble_eq_true rfl) (fun k hfl C => ?_)
  refine r_lo (lo' := [(0, _), (1, _), (2, _)]) rfl ?_
  refine r_aload_n (pc := 0) C 2 dX3_obey_0 rfl rfl ?_
  refine r_alen (pc := 1) C ha (by decide) dX3_obey_1 ?_
  refine r_iconst (pc := 2) (v := 5) C dX3_obey_2 rfl ?_
  refine r_cgeN (pc := 3) (tgt := 10) C dX3_obey_3 rfl (by omega) (by omega) (fun c_3 => ?_) (fun c_3 => False.elim (by omega))
  refine r_sw (pc := 10) C (gx 1581 (by decide +kernel) (by decide +kernel)) dX3_obey_10 ?_
  refine r_aload_n (pc := 13) C 1 dX3_obey_13 rfl rfl ?_
  refine r_ord (pc := 14) (i := 2) C hfl (by decide) (by decide) (by decide) (Nat.le_of_ble_eq_true rfl) dX3_obey_14 ?_
  refine r_swl (pc := 17) (i := 2) C (by decide) dX3_obey_17 ?_
  refine r_t (y := nI 3) rfl ?_
  refine r_tblI (pc := 18) (tgt := 86) C dX3_obey_18 (by decide) (by decide) (by rfl) rfl ?_
  refine r_aload_n (pc := 86) C 0 dX3_obey_86 rfl rfl ?_
  refine r_aload_n (pc := 87) C 2 dX3_obey_87 rfl rfl ?_
  refine r_iconst (pc := 88) (v := 0) C dX3_obey_88 rfl ?_
  refine r_iald (pc := 89) (x := 0) C ha rfl (by omega) (by decide) dX3_obey_89 ?_
  refine r_aload_n (pc := 90) C 2 dX3_obey_90 rfl rfl ?_
  refine r_iconst (pc := 91) (v := 1) C dX3_obey_91 rfl ?_
  refine r_iald (pc := 92) (x := 1) C ha rfl (by omega) (by decide) dX3_obey_92 ?_
  refine r_callV (pc := 93) C hfl k_X3_121 (h_2 hd hV hG hS) (Dk_0 hd) ca_X3 rfl rfl (Nat.le_of_ble_eq_true rfl) (by decide) (by decide) dX3_obey_93 (fun r2 X2 T2 J2 h2 => ?_)
  obtain ⟨f2, rfl⟩ := CH_ref h2
  refine r_st (st' := .ref _ :: []) rfl ?_
  exact r_aret (pc := 96) C (Or.inl ⟨_, rfl⟩) (Or.inr ⟨_, rfl⟩) dX3_obey_96 h2 (by decide)

set_option maxHeartbeats 1000000 in
theorem c_obey_3 {g : GG} {X : va_W} {T : TT} {I : II} {b : Nat} (hd : isDk T b) {w : Nat → Int32} {B N E : Nat} {pm : Nat → Nat} (hV : DV I b w B N E pm) {D U : Nat} (hG : Gd w B N E D U) (hS : Sd w N) (hDx : D + 60 ≤ 100000) {d : Nat} (ha : T d = (2, 5, nr)) : Mc g yX3_obey cX3_obey 3 (some (.object "LendingDesk$Fault")) 7 0 0 [.ref b, .ref (ga g (10 + 3)), .ref d] X T I (CHx g I b X T w B N E 3 (I d)) := by
  have hB6 := hV.hB
  have hN10 := hV.hN
  have hE20 := hV.hE
  refine Mc.of (by decide) (Nat.le_of_ble_eq_true rfl) (fun k hfl C => ?_)
  refine r_lo (lo' := [(0, _), (1, _), (2, _)]) rfl ?_
  refine r_aload_n (pc := 0) C 2 dX3_obey_0 rfl rfl ?_
  refine r_alen (pc := 1) C ha (by decide) dX3_obey_1 ?_
  refine r_iconst (pc := 2) (v := 5) C dX3_obey_2 rfl ?_
  refine r_cgeN (pc := 3) (tgt := 10) C dX3_obey_3 rfl (by omega) (by omega) (fun c_3 => ?_) (fun c_3 => False.elim (by omega))
  refine r_sw (pc := 10) C (gx 1581 (by decide +kernel) (by decide +kernel)) dX3_obey_10 ?_
  refine r_aload_n (pc := 13) C 1 dX3_obey_13 rfl rfl ?_
  refine r_ord (pc := 14) (i := 3) C hfl (by decide) (by decide) (by decide) (Nat.le_of_ble_eq_true rfl) dX3_obey_14 ?_
  refine r_swl (pc := 17) (i := 3) C (by decide) dX3_obey_17 ?_
  refine r_t (y := nI 4) rfl ?_
  refine r_tblI (pc := 18) (tgt := 97) C dX3_obey_18 (by decide) (by decide) (by rfl) rfl ?_
  refine r_aload_n (pc := 97) C 0 dX3_obey_97 rfl rfl ?_
  refine r_aload_n (pc := 98) C 2 dX3_obey_98 rfl rfl ?_
  refine r_iconst (pc := 99) (v := 0) C dX3_obey_99 rfl ?_
  refine r_iald (pc := 100) (x := 0) C ha rfl (by omega) (by decide) dX3_obey_100 ?_
  refine r_aload_n (pc := 101) C 2 dX3_obey_101 rfl rfl ?_
  refine r_iconst (pc := 102) (v := 1) C dX3_obey_102 rfl ?_
  refine r_iald (pc := 103) (x := 1) C ha rfl (by omega) (by decide) dX3_obey_103 ?_
  refine r_aload_n (pc := 104) C 2 dX3_obey_104 rfl rfl ?_
  refine r_iconst (pc := 105) (v := 2) C dX3_obey_105 rfl ?_
  refine r_iald (pc := 106) (x := 2) C ha rfl (by omega) (by decide) dX3_obey_106 ?_
  refine r_aload_n (pc := 107) C 2 dX3_obey_107 rfl rfl ?_
  refine r_iconst (pc := 108) (v := 3) C dX3_obey_108 rfl ?_
  refine r_iald (pc := 109) (x := 3) C ha rfl (by omega) (by decide) dX3_obey_109 ?_
  refine r_aload_n (pc := 110) C 2 dX3_obey_110 rfl rfl ?_
  refine r_iconst (pc := 111) (v := 4) C dX3_obey_111 rfl ?_
  refine r_iald (pc := 112) (x := 4) C ha rfl (by omega) (by decide) dX3_obey_112 ?_
  refine r_callV (pc := 113) C hfl k_X3_125 (h_3 hd hV hG hS) (Dk_0 hd) ca_X3 rfl rfl (Nat.le_of_ble_eq_true rfl) (by decide) (by decide) dX3_obey_113 (fun r2 X2 T2 J2 h2 => ?_)
  obtain ⟨f2, rfl⟩ := CH_ref h2
  refine r_st (st' := .ref _ :: []) rfl ?_
  exact r_aret (pc := 116) C (Or.inl ⟨_, rfl⟩) (Or.inr ⟨_, rfl⟩) dX3_obey_116 h2 (by decide)

set_option maxHeartbeats 1000000 in
theorem c_obey_4 {g : GG} {X : va_W} {T : TT} {I : II} {b : Nat} (hd : isDk T b) {w : Nat → Int32} {B N E : Nat} {pm : Nat → Nat} (hV : DV I b w B N E pm) {D U : Nat} (hG : Gd w B N E D U) (hS : Sd w N) (hDx : D + 60 ≤ 100000) {d : Nat} (ha : T d = (2, 5, nr)) : Mc g yX3_obey cX3_obey 3 (some (.object "LendingDesk$Fault")) 7 0 0 [.ref b, .ref (ga g (10 + 4)), .ref d] X T I (CHx g I b X T w B N E 4 (I d)) := by
  have hB6 := hV.hB
  have hN10 := hV.hN
  have hE20 := hV.hE
  refine Mc.of (by decide) (Nat.le_of_ble_eq_true rfl) (fun k hfl C => ?_)
  refine r_lo (lo' := [(0, _), (1, _), (2, _)]) rfl ?_
  refine r_aload_n (pc := 0) C 2 dX3_obey_0 rfl rfl ?_
  refine r_alen (pc := 1) C ha (by decide) dX3_obey_1 ?_
  refine r_iconst (pc := 2) (v := 5) C dX3_obey_2 rfl ?_
  refine r_cgeN (pc := 3) (tgt := 10) C dX3_obey_3 rfl (by omega) (by omega) (fun c_3 => ?_) (fun c_3 => False.elim (by omega))
  refine r_sw (pc := 10) C (gx 1581 (by decide +kernel) (by decide +kernel)) dX3_obey_10 ?_
  refine r_aload_n (pc := 13) C 1 dX3_obey_13 rfl rfl ?_
  refine r_ord (pc := 14) (i := 4) C hfl (by decide) (by decide) (by decide) (Nat.le_of_ble_eq_true rfl) dX3_obey_14 ?_
  refine r_swl (pc := 17) (i := 4) C (by decide) dX3_obey_17 ?_
  refine r_t (y := nI 5) rfl ?_
  refine r_tblI (pc := 18) (tgt := 117) C dX3_obey_18 (by decide) (by decide) (by rfl) rfl ?_
  refine r_aload_n (pc := 117) C 0 dX3_obey_117 rfl rfl ?_
  refine r_aload_n (pc := 118) C 2 dX3_obey_118 rfl rfl ?_
  refine r_iconst (pc := 119) (v := 0) C dX3_obey_119 rfl ?_
  refine r_iald (pc := 120) (x := 0) C ha rfl (by omega) (by decide) dX3_obey_120 ?_
  refine r_aload_n (pc := 121) C 2 dX3_obey_121 rfl rfl ?_
  refine r_iconst (pc := 122) (v := 1) C dX3_obey_122 rfl ?_
  refine r_iald (pc := 123) (x := 1) C ha rfl (by omega) (by decide) dX3_obey_123 ?_
  refine r_aload_n (pc := 124) C 2 dX3_obey_124 rfl rfl ?_
  refine r_iconst (pc := 125) (v := 2) C dX3_obey_125 rfl ?_
  refine r_iald (pc := 126) (x := 2) C ha rfl (by omega) (by decide) dX3_obey_126 ?_
  refine r_callV (pc := 127) C hfl k_X3_129 (h_4 hd hV hG hS) (Dk_0 hd) ca_X3 rfl rfl (Nat.le_of_ble_eq_true rfl) (by decide) (by decide) dX3_obey_127 (fun r2 X2 T2 J2 h2 => ?_)
  obtain ⟨f2, rfl⟩ := CH_ref h2
  refine r_st (st' := .ref _ :: []) rfl ?_
  exact r_aret (pc := 130) C (Or.inl ⟨_, rfl⟩) (Or.inr ⟨_, rfl⟩) dX3_obey_130 h2 (by decide)

set_option maxHeartbeats 1000000 in
theorem c_obey_5 {g : GG} {X : va_W} {T : TT} {I : II} {b : Nat} (hd : isDk T b) {w : Nat → Int32} {B N E : Nat} {pm : Nat → Nat} (hV : DV I b w B N E pm) {D U : Nat} (hG : Gd w B N E D U) (hS : Sd w N) (hDx : D + 60 ≤ 100000) {d : Nat} (ha : T d = (2, 5, nr)) : Mc g yX3_obey cX3_obey 3 (some (.object "LendingDesk$Fault")) 7 0 0 [.ref b, .ref (ga g (10 + 5)), .ref d] X T I (CHx g I b X T w B N E 5 (I d)) := by
  have hB6 := hV.hB
  have hN10 := hV.hN
  have hE20 := hV.hE
  refine Mc.of (by decide) (Nat.le_of_ble_eq_true rfl) (fun k hfl C => ?_)
  refine r_lo (lo' := [(0, _), (1, _), (2, _)]) rfl ?_
  refine r_aload_n (pc := 0) C 2 dX3_obey_0 rfl rfl ?_
  refine r_alen (pc := 1) C ha (by decide) dX3_obey_1 ?_
  refine r_iconst (pc := 2) (v := 5) C dX3_obey_2 rfl ?_
  refine r_cgeN (pc := 3) (tgt := 10) C dX3_obey_3 rfl (by omega) (by omega) (fun c_3 => ?_) (fun c_3 => False.elim (by omega))
  refine r_sw (pc := 10) C (gx 1581 (by decide +kernel) (by decide +kernel)) dX3_obey_10 ?_
  refine r_aload_n (pc := 13) C 1 dX3_obey_13 rfl rfl ?_
  refine r_ord (pc := 14) (i := 5) C hfl (by decide) (by decide) (by decide) (Nat.le_of_ble_eq_true rfl) dX3_obey_14 ?_
  refine r_swl (pc := 17) (i := 5) C (by decide) dX3_obey_17 ?_
  refine r_t (y := nI 6) rfl ?_
  refine r_tblI (pc := 18) (tgt := 131) C dX3_obey_18 (by decide) (by decide) (by rfl) rfl ?_
  refine r_aload_n (pc := 131) C 0 dX3_obey_131 rfl rfl ?_
  refine r_aload_n (pc := 132) C 2 dX3_obey_132 rfl rfl ?_
  refine r_iconst (pc := 133) (v := 0) C dX3_obey_133 rfl ?_
  refine r_iald (pc := 134) (x := 0) C ha rfl (by omega) (by decide) dX3_obey_134 ?_
  refine r_aload_n (pc := 135) C 2 dX3_obey_135 rfl rfl ?_
  refine r_iconst (pc := 136) (v := 1) C dX3_obey_136 rfl ?_
  refine r_iald (pc := 137) (x := 1) C ha rfl (by omega) (by decide) dX3_obey_137 ?_
  refine r_aload_n (pc := 138) C 2 dX3_obey_138 rfl rfl ?_
  refine r_iconst (pc := 139) (v := 2) C dX3_obey_139 rfl ?_
  refine r_iald (pc := 140) (x := 2) C ha rfl (by omega) (by decide) dX3_obey_140 ?_
  refine r_callV (pc := 141) C hfl k_X3_132 (h_5 hd hV hG hS) (Dk_0 hd) ca_X3 rfl rfl (Nat.le_of_ble_eq_true rfl) (by decide) (by decide) dX3_obey_141 (fun r2 X2 T2 J2 h2 => ?_)
  obtain ⟨f2, rfl⟩ := CH_ref h2
  refine r_st (st' := .ref _ :: []) rfl ?_
  exact r_aret (pc := 144) C (Or.inl ⟨_, rfl⟩) (Or.inr ⟨_, rfl⟩) dX3_obey_144 h2 (by decide)

set_option maxHeartbeats 1000000 in
theorem c_obey_6 {g : GG} {X : va_W} {T : TT} {I : II} {b : Nat} (hd : isDk T b) {w : Nat → Int32} {B N E : Nat} {pm : Nat → Nat} (hV : DV I b w B N E pm) {D U : Nat} (hG : Gd w B N E D U) (hS : Sd w N) (hDx : D + 60 ≤ 100000) {d : Nat} (ha : T d = (2, 5, nr)) : Mc g yX3_obey cX3_obey 3 (some (.object "LendingDesk$Fault")) 7 0 0 [.ref b, .ref (ga g (10 + 6)), .ref d] X T I (CHx g I b X T w B N E 6 (I d)) := by
  have hB6 := hV.hB
  have hN10 := hV.hN
  have hE20 := hV.hE
  refine Mc.of (by decide) (Nat.le_of_ble_eq_true rfl) (fun k hfl C => ?_)
  refine r_lo (lo' := [(0, _), (1, _), (2, _)]) rfl ?_
  refine r_aload_n (pc := 0) C 2 dX3_obey_0 rfl rfl ?_
  refine r_alen (pc := 1) C ha (by decide) dX3_obey_1 ?_
  refine r_iconst (pc := 2) (v := 5) C dX3_obey_2 rfl ?_
  refine r_cgeN (pc := 3) (tgt := 10) C dX3_obey_3 rfl (by omega) (by omega) (fun c_3 => ?_) (fun c_3 => False.elim (by omega))
  refine r_sw (pc := 10) C (gx 1581 (by decide +kernel) (by decide +kernel)) dX3_obey_10 ?_
  refine r_aload_n (pc := 13) C 1 dX3_obey_13 rfl rfl ?_
  refine r_ord (pc := 14) (i := 6) C hfl (by decide) (by decide) (by decide) (Nat.le_of_ble_eq_true rfl) dX3_obey_14 ?_
  refine r_swl (pc := 17) (i := 6) C (by decide) dX3_obey_17 ?_
  refine r_t (y := nI 7) rfl ?_
  refine r_tblI (pc := 18) (tgt := 145) C dX3_obey_18 (by decide) (by decide) (by rfl) rfl ?_
  refine r_aload_n (pc := 145) C 0 dX3_obey_145 rfl rfl ?_
  refine r_aload_n (pc := 146) C 2 dX3_obey_146 rfl rfl ?_
  refine r_iconst (pc := 147) (v := 0) C dX3_obey_147 rfl ?_
  refine r_iald (pc := 148) (x := 0) C ha rfl (by omega) (by decide) dX3_obey_148 ?_
  refine r_aload_n (pc := 149) C 2 dX3_obey_149 rfl rfl ?_
  refine r_iconst (pc := 150) (v := 1) C dX3_obey_150 rfl ?_
  refine r_iald (pc := 151) (x := 1) C ha rfl (by omega) (by decide) dX3_obey_151 ?_
  refine r_callV (pc := 152) C hfl k_X3_135 (h_6 hd hV hG hS) (Dk_0 hd) ca_X3 rfl rfl (Nat.le_of_ble_eq_true rfl) (by decide) (by decide) dX3_obey_152 (fun r2 X2 T2 J2 h2 => ?_)
  obtain ⟨f2, rfl⟩ := CH_ref h2
  refine r_st (st' := .ref _ :: []) rfl ?_
  exact r_aret (pc := 155) C (Or.inl ⟨_, rfl⟩) (Or.inr ⟨_, rfl⟩) dX3_obey_155 h2 (by decide)

set_option maxHeartbeats 1000000 in
theorem c_obey_7 {g : GG} {X : va_W} {T : TT} {I : II} {b : Nat} (hd : isDk T b) {w : Nat → Int32} {B N E : Nat} {pm : Nat → Nat} (hV : DV I b w B N E pm) {D U : Nat} (hG : Gd w B N E D U) (hS : Sd w N) (hDx : D + 60 ≤ 100000) {d : Nat} (ha : T d = (2, 5, nr)) : Mc g yX3_obey cX3_obey 3 (some (.object "LendingDesk$Fault")) 7 0 0 [.ref b, .ref (ga g (10 + 7)), .ref d] X T I (CHx g I b X T w B N E 7 (I d)) := by
  have hB6 := hV.hB
  have hN10 := hV.hN
  have hE20 := hV.hE
  refine Mc.of (by decide) (Nat.le_of_ble_eq_true rfl) (fun k hfl C => ?_)
  refine r_lo (lo' := [(0, _), (1, _), (2, _)]) rfl ?_
  refine r_aload_n (pc := 0) C 2 dX3_obey_0 rfl rfl ?_
  refine r_alen (pc := 1) C ha (by decide) dX3_obey_1 ?_
  refine r_iconst (pc := 2) (v := 5) C dX3_obey_2 rfl ?_
  refine r_cgeN (pc := 3) (tgt := 10) C dX3_obey_3 rfl (by omega) (by omega) (fun c_3 => ?_) (fun c_3 => False.elim (by omega))
  refine r_sw (pc := 10) C (gx 1581 (by decide +kernel) (by decide +kernel)) dX3_obey_10 ?_
  refine r_aload_n (pc := 13) C 1 dX3_obey_13 rfl rfl ?_
  refine r_ord (pc := 14) (i := 7) C hfl (by decide) (by decide) (by decide) (Nat.le_of_ble_eq_true rfl) dX3_obey_14 ?_
  refine r_swl (pc := 17) (i := 7) C (by decide) dX3_obey_17 ?_
  refine r_t (y := nI 8) rfl ?_
  refine r_tblI (pc := 18) (tgt := 156) C dX3_obey_18 (by decide) (by decide) (by rfl) rfl ?_
  refine r_aload_n (pc := 156) C 0 dX3_obey_156 rfl rfl ?_
  refine r_aload_n (pc := 157) C 2 dX3_obey_157 rfl rfl ?_
  refine r_iconst (pc := 158) (v := 0) C dX3_obey_158 rfl ?_
  refine r_iald (pc := 159) (x := 0) C ha rfl (by omega) (by decide) dX3_obey_159 ?_
  refine r_aload_n (pc := 160) C 2 dX3_obey_160 rfl rfl ?_
  refine r_iconst (pc := 161) (v := 1) C dX3_obey_161 rfl ?_
  refine r_iald (pc := 162) (x := 1) C ha rfl (by omega) (by decide) dX3_obey_162 ?_
  refine r_aload_n (pc := 163) C 2 dX3_obey_163 rfl rfl ?_
  refine r_iconst (pc := 164) (v := 2) C dX3_obey_164 rfl ?_
  refine r_iald (pc := 165) (x := 2) C ha rfl (by omega) (by decide) dX3_obey_165 ?_
  refine r_callV (pc := 166) C hfl k_X3_138 (h_7 hd hV hG hS) (Dk_0 hd) ca_X3 rfl rfl (Nat.le_of_ble_eq_true rfl) (by decide) (by decide) dX3_obey_166 (fun r2 X2 T2 J2 h2 => ?_)
  obtain ⟨f2, rfl⟩ := CH_ref h2
  refine r_st (st' := .ref _ :: []) rfl ?_
  exact r_aret (pc := 169) C (Or.inl ⟨_, rfl⟩) (Or.inr ⟨_, rfl⟩) dX3_obey_169 h2 (by decide)

set_option maxHeartbeats 1000000 in
theorem c_obey_8 {g : GG} {X : va_W} {T : TT} {I : II} {b : Nat} (hd : isDk T b) {w : Nat → Int32} {B N E : Nat} {pm : Nat → Nat} (hV : DV I b w B N E pm) {D U : Nat} (hG : Gd w B N E D U) (hS : Sd w N) (hDx : D + 60 ≤ 100000) {d : Nat} (ha : T d = (2, 5, nr)) : Mc g yX3_obey cX3_obey 3 (some (.object "LendingDesk$Fault")) 7 0 0 [.ref b, .ref (ga g (10 + 8)), .ref d] X T I (CHx g I b X T w B N E 8 (I d)) := by
  have hB6 := hV.hB
  have hN10 := hV.hN
  have hE20 := hV.hE
  refine Mc.of (by decide) (Nat.le_of_ble_eq_true rfl) (fun k hfl C => ?_)
  refine r_lo (lo' := [(0, _), (1, _), (2, _)]) rfl ?_
  refine r_aload_n (pc := 0) C 2 dX3_obey_0 rfl rfl ?_
  refine r_alen (pc := 1) C ha (by decide) dX3_obey_1 ?_
  refine r_iconst (pc := 2) (v := 5) C dX3_obey_2 rfl ?_
  refine r_cgeN (pc := 3) (tgt := 10) C dX3_obey_3 rfl (by omega) (by omega) (fun c_3 => ?_) (fun c_3 => False.elim (by omega))
  refine r_sw (pc := 10) C (gx 1581 (by decide +kernel) (by decide +kernel)) dX3_obey_10 ?_
  refine r_aload_n (pc := 13) C 1 dX3_obey_13 rfl rfl ?_
  refine r_ord (pc := 14) (i := 8) C hfl (by decide) (by decide) (by decide) (Nat.le_of_ble_eq_true rfl) dX3_obey_14 ?_
  refine r_swl (pc := 17) (i := 8) C (by decide) dX3_obey_17 ?_
  refine r_t (y := nI 0) rfl ?_
  refine r_tblO (pc := 18) (tgt := 170) C dX3_obey_18 (by decide) rfl ?_
  refine r_aload_n (pc := 170) C 0 dX3_obey_170 rfl rfl ?_
  refine r_aload_n (pc := 171) C 2 dX3_obey_171 rfl rfl ?_
  refine r_iconst (pc := 172) (v := 0) C dX3_obey_172 rfl ?_
  refine r_iald (pc := 173) (x := 0) C ha rfl (by omega) (by decide) dX3_obey_173 ?_
  refine r_callV (pc := 174) C hfl k_X3_141 (h_8 hd hV hG hS hDx) (Dk_0 hd) ca_X3 rfl rfl (Nat.le_of_ble_eq_true rfl) (by decide) (by decide) dX3_obey_174 (fun r2 X2 T2 J2 h2 => ?_)
  obtain ⟨f2, rfl⟩ := CH_ref h2
  refine r_st (st' := .ref _ :: []) rfl ?_
  exact r_aret (pc := 177) C (Or.inl ⟨_, rfl⟩) (Or.inr ⟨_, rfl⟩) dX3_obey_177 h2 (by decide)
