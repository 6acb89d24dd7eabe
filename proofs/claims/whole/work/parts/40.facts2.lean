theorem kn_X7_34 : LkSN RX7 34 "LendingDesk" yX9_quotientUp cX9_quotientUp 2 (some .int) 2 := ⟨List.mem_of_getElem? (i := 489) (by decide +kernel), mw_X9_quotientUp⟩
theorem ka_X3_73 : LkA RX3 73 := ⟨(gx 503 (by decide +kernel) (by decide +kernel)), (gx 505 (by decide +kernel) (by decide +kernel)), (gx 504 (by decide +kernel) (by decide +kernel)), (gx 101 (by decide +kernel) (by decide +kernel))⟩
theorem ka_X1_22 : LkA RX1 22 := ⟨(gx 510 (by decide +kernel) (by decide +kernel)), (gx 505 (by decide +kernel) (by decide +kernel)), (gx 504 (by decide +kernel) (by decide +kernel)), (gx 101 (by decide +kernel) (by decide +kernel))⟩
theorem ka_X7_47 : LkA RX7 47 := ⟨(gx 515 (by decide +kernel) (by decide +kernel)), (gx 505 (by decide +kernel) (by decide +kernel)), (gx 504 (by decide +kernel) (by decide +kernel)), (gx 101 (by decide +kernel) (by decide +kernel))⟩
theorem ka_X6_32 : LkA RX6 32 := ⟨(gx 520 (by decide +kernel) (by decide +kernel)), (gx 505 (by decide +kernel) (by decide +kernel)), (gx 504 (by decide +kernel) (by decide +kernel)), (gx 101 (by decide +kernel) (by decide +kernel))⟩
theorem kn_X3_246 : LkSN RX3 246 "LendingDesk" yX9_quotientUp cX9_quotientUp 2 (some .int) 2 := ⟨List.mem_of_getElem? (i := 533) (by decide +kernel), mw_X9_quotientUp⟩
theorem kn_X3_144 : LkSN RX3 144 "LendingDesk" yX9_isWithin cX9_isWithin 3 (some .boolean) 3 := ⟨List.mem_of_getElem? (i := 570) (by decide +kernel), mw_X9_isWithin⟩
theorem kn_X3_162 : LkSN RX3 162 "LendingDesk" yX9_isKind cX9_isKind 1 (some .boolean) 1 := ⟨List.mem_of_getElem? (i := 753) (by decide +kernel), mw_X9_isKind⟩
theorem kn_X3_176 : LkSN RX3 176 "LendingDesk" yX9_covers cX9_covers 2 (some .boolean) 2 := ⟨List.mem_of_getElem? (i := 787) (by decide +kernel), mw_X9_covers⟩
theorem ka_X2_44 : LkA RX2 44 := ⟨(gx 1521 (by decide +kernel) (by decide +kernel)), (gx 505 (by decide +kernel) (by decide +kernel)), (gx 504 (by decide +kernel) (by decide +kernel)), (gx 101 (by decide +kernel) (by decide +kernel))⟩
theorem kf_X3_148 : LkF RX3 148 3 := (gx 573 (by decide +kernel) (by decide +kernel))
theorem kf_X3_96 : LkF RX3 96 4 := (gx 575 (by decide +kernel) (by decide +kernel))
theorem kf_X3_155 : LkF RX3 155 0 := (gx 581 (by decide +kernel) (by decide +kernel))
theorem kf_X9_113 : LkF RX9 113 1 := (gx 590 (by decide +kernel) (by decide +kernel))
theorem kf_X9_126 : LkF RX9 126 2 := (gx 663 (by decide +kernel) (by decide +kernel))
theorem kf_X9_134 : LkF RX9 134 3 := (gx 681 (by decide +kernel) (by decide +kernel))
theorem kf_X9_142 : LkF RX9 142 4 := (gx 698 (by decide +kernel) (by decide +kernel))
theorem kf_X3_166 : LkF RX3 166 2 := (gx 756 (by decide +kernel) (by decide +kernel))
theorem kf_X3_200 : LkF RX3 200 1 := (gx 811 (by decide +kernel) (by decide +kernel))
theorem kf_X9_424 : LkF RX9 424 0 := (gx 1598 (by decide +kernel) (by decide +kernel))
