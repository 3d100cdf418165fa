set_option maxHeartbeats 16000000 in
set_option maxRecDepth 4000 in
theorem k_0 {X : zX} {dep : Nat} {h : zH} (h0 : h 0 = zd 0) (hdep : 3 ≤ dep) : yW mX10_init X dep 168 12177 1 0 (zar 0 [xR 0]) [] h (zKq 0 169 169 h) := by
  have i := zIn.start h0
  have i : zIn 0 1 h h [(0, [])] := i
  refine y_aload_n 0 dX10_init_0 rfl ?_
  refine y_obj dX10_init_1 zb_110 zb_111 zb_112 (by decide) (by omega) (by decide) (by decide) ?_
  refine y_aload_n 0 dX10_init_4 rfl ?_
  refine y_nw (q := 1) 167 12175 pk7 dX10_init_5 zb_113 zb_114 zb_83 (by decide +kernel) (by decide +kernel) (by decide) (by decide) (by decide) rfl ?_
  refine y_dup dX10_init_8 (by decide) ?_
  refine y_mkN (host := "LotOffice") (as := []) (dep' := 1) (bc2 := 166) (bs2 := 11835) (k_1 (znew_q rfl) (by decide)) dX10_init_9 nX7_init rfl rfl (zmT1 (List.mem_of_getElem? (i := 34) (by decide +kernel))) zb_116 zb_83 (by omega) rfl rfl (by decide) (by decide) rfl rfl i (by decide) (by decide) (fun h i => ?_)
  refine y_fldF (k := 0) (kz := 0) pk10 dX10_init_12 (by decide) zb_457 rfl rfl rfl (by decide) (zFit_obj _ _) (zOb.lit (by decide +kernel)) rfl i (by decide) (by decide +kernel) (fun h i => ?_)
  refine y_aload_n 0 dX10_init_15 rfl ?_
  refine y_nw (q := 3) 165 11818 pk4 dX10_init_16 zb_130 zb_131 zb_84 (by decide +kernel) (by decide +kernel) (by decide) (by decide) (by decide) rfl ?_
  refine y_dup dX10_init_19 (by decide) ?_
  refine y_mkN (host := "LotOffice") (as := []) (dep' := 2) (bc2 := 145) (bs2 := 8255) (k_3 (znew_q rfl) (by decide)) dX10_init_20 nX4_init rfl rfl (zmT1 (List.mem_of_getElem? (i := 51) (by decide +kernel))) zb_133 zb_84 (by omega) rfl rfl (by decide) (by decide) rfl rfl i (by decide) (by decide) (fun h i => ?_)
  refine y_fldF (k := 1) (kz := 1) pk10 dX10_init_23 (by decide) zb_458 rfl rfl rfl (by decide) (zFit_obj _ _) (zOb.lit (by decide +kernel)) rfl i (by decide) (by decide +kernel) (fun h i => ?_)
  refine y_aload_n 0 dX10_init_26 rfl ?_
  refine y_nw (q := 24) 144 8247 pk5 dX10_init_27 zb_227 zb_228 zb_86 (by decide +kernel) (by decide +kernel) (by decide) (by decide) (by decide) rfl ?_
  refine y_dup dX10_init_30 (by decide) ?_
  refine y_mkN (host := "LotOffice") (as := []) (dep' := 2) (bc2 := 133) (bs2 := 6824) (k_24 (znew_q rfl) (by decide)) dX10_init_31 nX5_init rfl rfl (zmT1 (List.mem_of_getElem? (i := 148) (by decide +kernel))) zb_230 zb_86 (by omega) rfl rfl (by decide) (by decide) rfl rfl i (by decide) (by decide) (fun h i => ?_)
  refine y_fldF (k := 2) (kz := 2) pk10 dX10_init_34 (by decide) zb_459 rfl rfl rfl (by decide) (zFit_obj _ _) (zOb.lit (by decide +kernel)) rfl i (by decide) (by decide +kernel) (fun h i => ?_)
  refine y_aload_n 0 dX10_init_37 rfl ?_
  refine y_nw (q := 36) 132 6811 pk1 dX10_init_38 zb_350 zb_267 zb_88 (by decide +kernel) (by decide +kernel) (by decide) (by decide) (by decide) rfl ?_
  refine y_dup dX10_init_41 (by decide) ?_
  refine y_mkN (host := "LotOffice") (as := []) (dep' := 1) (bc2 := 127) (bs2 := 6611) (k_36 (znew_q rfl) (by decide)) dX10_init_42 nX1_init rfl rfl (zmT2 (List.mem_of_getElem? (i := 30) (by decide +kernel))) zb_269 zb_88 (by omega) rfl rfl (by decide) (by decide) rfl rfl i (by decide) (by decide) (fun h i => ?_)
  refine y_fldF (k := 3) (kz := 3) pk10 dX10_init_45 (by decide) zb_460 rfl rfl rfl (by decide) (zFit_obj _ _) (zOb.lit (by decide +kernel)) rfl i (by decide) (by decide +kernel) (fun h i => ?_)
  refine y_aload_n 0 dX10_init_48 rfl ?_
  refine y_bipush dX10_init_49 ⟨by decide, by decide⟩ (by decide) ?_
  refine y_arp (t := 7) (N := 8) (q := 42) (q1 := 43) 43 126 6603 dX10_init_51 rfl (by decide) zb_350 (fun _ z => z.1) (by decide +kernel) (by decide) (by decide) (by decide) (by decide) rfl rfl rfl i (by decide) (by decide) (fun h i => ?_)
  refine y_fldF (k := 4) (kz := 4) pk10 dX10_init_54 (by decide) zb_461 rfl rfl rfl (by decide) (zFit_arr _ _) (zOb.lit (by decide +kernel)) rfl i (by decide) (by decide +kernel) (fun h i => ?_)
  refine y_aload_n 0 dX10_init_57 rfl ?_
  refine y_iconst dX10_init_58 ⟨by decide, by decide⟩ ?_
  refine y_arp (t := 8) (N := 4) (q := 43) (q1 := 44) 44 125 6599 dX10_init_59 rfl (by decide) zb_353 (fun _ z => z.2.1) (by decide +kernel) (by decide) (by decide) (by decide) (by decide) rfl rfl rfl i (by decide) (by decide) (fun h i => ?_)
  refine y_fldF (k := 5) (kz := 5) pk10 dX10_init_62 (by decide) zb_462 rfl rfl rfl (by decide) (zFit_arr _ _) (zOb.lit (by decide +kernel)) rfl i (by decide) (by decide +kernel) (fun h i => ?_)
  refine y_aload_n 0 dX10_init_65 rfl ?_
  refine y_nw (q := 44) 124 6596 pk0 dX10_init_66 zb_355 zb_356 zb_89 (by decide +kernel) (by decide +kernel) (by decide) (by decide) (by decide) rfl ?_
  refine y_dup dX10_init_69 (by decide) ?_
  refine y_mkN (host := "LotOffice") (as := []) (dep' := 1) (bc2 := 106) (bs2 := 6388) (k_44 (znew_q rfl) (by decide)) dX10_init_70 nX0_init rfl rfl (zmT2 (List.mem_of_getElem? (i := 36) (by decide +kernel))) zb_358 zb_89 (by omega) rfl rfl (by decide) (by decide) rfl rfl i (by decide) (by decide) (fun h i => ?_)
  refine y_fldF (k := 6) (kz := 6) pk10 dX10_init_73 (by decide) zb_463 rfl rfl rfl (by decide) (zFit_obj _ _) (zOb.lit (by decide +kernel)) rfl i (by decide) (by decide +kernel) (fun h i => ?_)
  refine y_aload_n 0 dX10_init_76 rfl ?_
  refine y_bipush dX10_init_77 ⟨by decide, by decide⟩ (by decide) ?_
  refine y_arr (t := 3) (N := 60) (q := 63) (q1 := 64) 64 105 6328 dX10_init_79 rfl (by decide) zb_226 (by decide +kernel) (by decide) (by decide) (by decide) (by decide) rfl rfl rfl i (by decide) rfl (by decide +kernel) (fun h i => ?_)
  refine y_fldF (k := 7) (kz := 7) pk10 dX10_init_81 (by decide) zb_464 rfl rfl rfl (by decide) (zFit_arr _ _) (zOb.lit (by decide +kernel)) rfl i (by decide) (by decide +kernel) (fun h i => ?_)
  refine y_aload_n 0 dX10_init_84 rfl ?_
  refine y_bipush dX10_init_85 ⟨by decide, by decide⟩ (by decide) ?_
  refine y_arr (t := 1) (N := 60) (q := 64) (q1 := 65) 65 104 6268 dX10_init_87 rfl (by decide) zb_153 (by decide +kernel) (by decide) (by decide) (by decide) (by decide) rfl rfl rfl i (by decide) rfl (by decide +kernel) (fun h i => ?_)
  refine y_fldF (k := 8) (kz := 8) pk10 dX10_init_89 (by decide) zb_465 rfl rfl rfl (by decide) (zFit_arr _ _) (zOb.lit (by decide +kernel)) rfl i (by decide) (by decide +kernel) (fun h i => ?_)
  refine y_aload_n 0 dX10_init_92 rfl ?_
  refine y_iconst dX10_init_93 ⟨by decide, by decide⟩ ?_
  refine y_fld (k := 14) (kz := 14) pk10 dX10_init_94 (by decide) zb_471 rfl (zFit_int _) (zOb.lit (by decide +kernel)) rfl i (by decide) (by decide +kernel) (fun h i => ?_)
  refine y_iconst dX10_init_97 ⟨by decide, by decide⟩ ?_
  refine y_istore_n (lv' := [(1, xI 0), (0, xR 0)]) dX10_init_98 (by decide) rfl ?_
  refine y_iload_n 0 dX10_init_99 rfl ?_
  refine y_bipush dX10_init_100 ⟨by decide, by decide⟩ (by decide) ?_
  refine y_icmp_ge dX10_init_102 rfl (fun c => absurd c (by decide)) (fun _ => ?_)
  refine y_aload_n 1 dX10_init_105 rfl ?_
  refine y_gt (k := 4) (kz := 4) (v := 42) pk10 dX10_init_106 (by decide) zb_461 rfl (zOb.lit (by decide +kernel)) rfl i (by decide) rfl (by decide) (by decide +kernel) ?_
  refine y_iload_n 0 dX10_init_109 rfl ?_
  refine y_nw (q := 65) 103 6255 pk1 dX10_init_110 zb_350 zb_267 zb_88 (by decide +kernel) (by decide +kernel) (by decide) (by decide) (by decide) rfl ?_
  refine y_dup dX10_init_113 (by decide) ?_
  refine y_mkN (host := "LotOffice") (as := []) (dep' := 1) (bc2 := 98) (bs2 := 6055) (k_65 (znew_q rfl) (by decide)) dX10_init_114 nX1_init rfl rfl (zmT2 (List.mem_of_getElem? (i := 30) (by decide +kernel))) zb_269 zb_88 (by omega) rfl rfl (by decide) (by decide) rfl rfl i (by decide) (by decide) (fun h i => ?_)
  have i := i.swap2 (by decide)
  have i := i.swap (by decide)
  refine y_aa (ci := 1) dX10_init_117 (zOb.lit (sh := (7, 0, 8)) (by decide +kernel)) (by decide) rfl (zOb.lit (sh := (0, 1, 13)) (by decide +kernel)) rfl (by decide) (by decide) (by decide) (by decide) i (by decide) (by decide +kernel) (fun h i => ?_)
  refine y_iinc (lv' := [(1, xI 1), (0, xR 0)]) 0 dX10_init_118 rfl (by decide) (by rw [show w32 (0 + 1) = 1 by decide]; rfl) ?_
  refine y_goto dX10_init_121 rfl ?_
  refine y_iload_n 0 dX10_init_99 rfl ?_
  refine y_bipush dX10_init_100 ⟨by decide, by decide⟩ (by decide) ?_
  refine y_icmp_ge dX10_init_102 rfl (fun c => absurd c (by decide)) (fun _ => ?_)
  refine y_aload_n 1 dX10_init_105 rfl ?_
  refine y_gt (k := 4) (kz := 4) (v := 42) pk10 dX10_init_106 (by decide) zb_461 rfl (zOb.lit (by decide +kernel)) rfl i (by decide) rfl (by decide) (by decide +kernel) ?_
  refine y_iload_n 0 dX10_init_109 rfl ?_
  refine y_nw (q := 71) 97 6042 pk1 dX10_init_110 zb_350 zb_267 zb_88 (by decide +kernel) (by decide +kernel) (by decide) (by decide) (by decide) rfl ?_
  refine y_dup dX10_init_113 (by decide) ?_
  refine y_mkN (host := "LotOffice") (as := []) (dep' := 1) (bc2 := 92) (bs2 := 5842) (k_71 (znew_q rfl) (by decide)) dX10_init_114 nX1_init rfl rfl (zmT2 (List.mem_of_getElem? (i := 30) (by decide +kernel))) zb_269 zb_88 (by omega) rfl rfl (by decide) (by decide) rfl rfl i (by decide) (by decide) (fun h i => ?_)
  refine y_aa (ci := 1) dX10_init_117 (zOb.lit (sh := (7, 0, 8)) (by decide +kernel)) (by decide) rfl (zOb.lit (sh := (0, 1, 13)) (by decide +kernel)) rfl (by decide) (by decide) (by decide) (by decide) i (by decide) (by decide +kernel) (fun h i => ?_)
  refine y_iinc (lv' := [(1, xI 2), (0, xR 0)]) 0 dX10_init_118 rfl (by decide) (by rw [show w32 (1 + 1) = 2 by decide]; rfl) ?_
  refine y_goto dX10_init_121 rfl ?_
  refine y_iload_n 0 dX10_init_99 rfl ?_
  refine y_bipush dX10_init_100 ⟨by decide, by decide⟩ (by decide) ?_
  refine y_icmp_ge dX10_init_102 rfl (fun c => absurd c (by decide)) (fun _ => ?_)
  refine y_aload_n 1 dX10_init_105 rfl ?_
  refine y_gt (k := 4) (kz := 4) (v := 42) pk10 dX10_init_106 (by decide) zb_461 rfl (zOb.lit (by decide +kernel)) rfl i (by decide) rfl (by decide) (by decide +kernel) ?_
  refine y_iload_n 0 dX10_init_109 rfl ?_
  refine y_nw (q := 77) 91 5829 pk1 dX10_init_110 zb_350 zb_267 zb_88 (by decide +kernel) (by decide +kernel) (by decide) (by decide) (by decide) rfl ?_
  refine y_dup dX10_init_113 (by decide) ?_
  refine y_mkN (host := "LotOffice") (as := []) (dep' := 1) (bc2 := 86) (bs2 := 5629) (k_77 (znew_q rfl) (by decide)) dX10_init_114 nX1_init rfl rfl (zmT2 (List.mem_of_getElem? (i := 30) (by decide +kernel))) zb_269 zb_88 (by omega) rfl rfl (by decide) (by decide) rfl rfl i (by decide) (by decide) (fun h i => ?_)
  refine y_aa (ci := 1) dX10_init_117 (zOb.lit (sh := (7, 0, 8)) (by decide +kernel)) (by decide) rfl (zOb.lit (sh := (0, 1, 13)) (by decide +kernel)) rfl (by decide) (by decide) (by decide) (by decide) i (by decide) (by decide +kernel) (fun h i => ?_)
  refine y_iinc (lv' := [(1, xI 3), (0, xR 0)]) 0 dX10_init_118 rfl (by decide) (by rw [show w32 (2 + 1) = 3 by decide]; rfl) ?_
  refine y_goto dX10_init_121 rfl ?_
  refine y_iload_n 0 dX10_init_99 rfl ?_
  refine y_bipush dX10_init_100 ⟨by decide, by decide⟩ (by decide) ?_
  refine y_icmp_ge dX10_init_102 rfl (fun c => absurd c (by decide)) (fun _ => ?_)
  refine y_aload_n 1 dX10_init_105 rfl ?_
  refine y_gt (k := 4) (kz := 4) (v := 42) pk10 dX10_init_106 (by decide) zb_461 rfl (zOb.lit (by decide +kernel)) rfl i (by decide) rfl (by decide) (by decide +kernel) ?_
  refine y_iload_n 0 dX10_init_109 rfl ?_
  refine y_nw (q := 83) 85 5616 pk1 dX10_init_110 zb_350 zb_267 zb_88 (by decide +kernel) (by decide +kernel) (by decide) (by decide) (by decide) rfl ?_
  refine y_dup dX10_init_113 (by decide) ?_
  refine y_mkN (host := "LotOffice") (as := []) (dep' := 1) (bc2 := 80) (bs2 := 5416) (k_83 (znew_q rfl) (by decide)) dX10_init_114 nX1_init rfl rfl (zmT2 (List.mem_of_getElem? (i := 30) (by decide +kernel))) zb_269 zb_88 (by omega) rfl rfl (by decide) (by decide) rfl rfl i (by decide) (by decide) (fun h i => ?_)
  refine y_aa (ci := 1) dX10_init_117 (zOb.lit (sh := (7, 0, 8)) (by decide +kernel)) (by decide) rfl (zOb.lit (sh := (0, 1, 13)) (by decide +kernel)) rfl (by decide) (by decide) (by decide) (by decide) i (by decide) (by decide +kernel) (fun h i => ?_)
  refine y_iinc (lv' := [(1, xI 4), (0, xR 0)]) 0 dX10_init_118 rfl (by decide) (by rw [show w32 (3 + 1) = 4 by decide]; rfl) ?_
  refine y_goto dX10_init_121 rfl ?_
  refine y_iload_n 0 dX10_init_99 rfl ?_
  refine y_bipush dX10_init_100 ⟨by decide, by decide⟩ (by decide) ?_
  refine y_icmp_ge dX10_init_102 rfl (fun c => absurd c (by decide)) (fun _ => ?_)
  refine y_aload_n 1 dX10_init_105 rfl ?_
  refine y_gt (k := 4) (kz := 4) (v := 42) pk10 dX10_init_106 (by decide) zb_461 rfl (zOb.lit (by decide +kernel)) rfl i (by decide) rfl (by decide) (by decide +kernel) ?_
  refine y_iload_n 0 dX10_init_109 rfl ?_
  refine y_nw (q := 89) 79 5403 pk1 dX10_init_110 zb_350 zb_267 zb_88 (by decide +kernel) (by decide +kernel) (by decide) (by decide) (by decide) rfl ?_
  refine y_dup dX10_init_113 (by decide) ?_
  refine y_mkN (host := "LotOffice") (as := []) (dep' := 1) (bc2 := 74) (bs2 := 5203) (k_89 (znew_q rfl) (by decide)) dX10_init_114 nX1_init rfl rfl (zmT2 (List.mem_of_getElem? (i := 30) (by decide +kernel))) zb_269 zb_88 (by omega) rfl rfl (by decide) (by decide) rfl rfl i (by decide) (by decide) (fun h i => ?_)
  refine y_aa (ci := 1) dX10_init_117 (zOb.lit (sh := (7, 0, 8)) (by decide +kernel)) (by decide) rfl (zOb.lit (sh := (0, 1, 13)) (by decide +kernel)) rfl (by decide) (by decide) (by decide) (by decide) i (by decide) (by decide +kernel) (fun h i => ?_)
  refine y_iinc (lv' := [(1, xI 5), (0, xR 0)]) 0 dX10_init_118 rfl (by decide) (by rw [show w32 (4 + 1) = 5 by decide]; rfl) ?_
  refine y_goto dX10_init_121 rfl ?_
  refine y_iload_n 0 dX10_init_99 rfl ?_
  refine y_bipush dX10_init_100 ⟨by decide, by decide⟩ (by decide) ?_
  refine y_icmp_ge dX10_init_102 rfl (fun c => absurd c (by decide)) (fun _ => ?_)
  refine y_aload_n 1 dX10_init_105 rfl ?_
  refine y_gt (k := 4) (kz := 4) (v := 42) pk10 dX10_init_106 (by decide) zb_461 rfl (zOb.lit (by decide +kernel)) rfl i (by decide) rfl (by decide) (by decide +kernel) ?_
  refine y_iload_n 0 dX10_init_109 rfl ?_
  refine y_nw (q := 95) 73 5190 pk1 dX10_init_110 zb_350 zb_267 zb_88 (by decide +kernel) (by decide +kernel) (by decide) (by decide) (by decide) rfl ?_
  refine y_dup dX10_init_113 (by decide) ?_
  refine y_mkN (host := "LotOffice") (as := []) (dep' := 1) (bc2 := 68) (bs2 := 4990) (k_95 (znew_q rfl) (by decide)) dX10_init_114 nX1_init rfl rfl (zmT2 (List.mem_of_getElem? (i := 30) (by decide +kernel))) zb_269 zb_88 (by omega) rfl rfl (by decide) (by decide) rfl rfl i (by decide) (by decide) (fun h i => ?_)
  refine y_aa (ci := 1) dX10_init_117 (zOb.lit (sh := (7, 0, 8)) (by decide +kernel)) (by decide) rfl (zOb.lit (sh := (0, 1, 13)) (by decide +kernel)) rfl (by decide) (by decide) (by decide) (by decide) i (by decide) (by decide +kernel) (fun h i => ?_)
  refine y_iinc (lv' := [(1, xI 6), (0, xR 0)]) 0 dX10_init_118 rfl (by decide) (by rw [show w32 (5 + 1) = 6 by decide]; rfl) ?_
  refine y_goto dX10_init_121 rfl ?_
  refine y_iload_n 0 dX10_init_99 rfl ?_
  refine y_bipush dX10_init_100 ⟨by decide, by decide⟩ (by decide) ?_
  refine y_icmp_ge dX10_init_102 rfl (fun c => absurd c (by decide)) (fun _ => ?_)
  refine y_aload_n 1 dX10_init_105 rfl ?_
  refine y_gt (k := 4) (kz := 4) (v := 42) pk10 dX10_init_106 (by decide) zb_461 rfl (zOb.lit (by decide +kernel)) rfl i (by decide) rfl (by decide) (by decide +kernel) ?_
  refine y_iload_n 0 dX10_init_109 rfl ?_
  refine y_nw (q := 101) 67 4977 pk1 dX10_init_110 zb_350 zb_267 zb_88 (by decide +kernel) (by decide +kernel) (by decide) (by decide) (by decide) rfl ?_
  refine y_dup dX10_init_113 (by decide) ?_
  refine y_mkN (host := "LotOffice") (as := []) (dep' := 1) (bc2 := 62) (bs2 := 4777) (k_101 (znew_q rfl) (by decide)) dX10_init_114 nX1_init rfl rfl (zmT2 (List.mem_of_getElem? (i := 30) (by decide +kernel))) zb_269 zb_88 (by omega) rfl rfl (by decide) (by decide) rfl rfl i (by decide) (by decide) (fun h i => ?_)
  refine y_aa (ci := 1) dX10_init_117 (zOb.lit (sh := (7, 0, 8)) (by decide +kernel)) (by decide) rfl (zOb.lit (sh := (0, 1, 13)) (by decide +kernel)) rfl (by decide) (by decide) (by decide) (by decide) i (by decide) (by decide +kernel) (fun h i => ?_)
  refine y_iinc (lv' := [(1, xI 7), (0, xR 0)]) 0 dX10_init_118 rfl (by decide) (by rw [show w32 (6 + 1) = 7 by decide]; rfl) ?_
  refine y_goto dX10_init_121 rfl ?_
  refine y_iload_n 0 dX10_init_99 rfl ?_
  refine y_bipush dX10_init_100 ⟨by decide, by decide⟩ (by decide) ?_
  refine y_icmp_ge dX10_init_102 rfl (fun c => absurd c (by decide)) (fun _ => ?_)
  refine y_aload_n 1 dX10_init_105 rfl ?_
  refine y_gt (k := 4) (kz := 4) (v := 42) pk10 dX10_init_106 (by decide) zb_461 rfl (zOb.lit (by decide +kernel)) rfl i (by decide) rfl (by decide) (by decide +kernel) ?_
  refine y_iload_n 0 dX10_init_109 rfl ?_
  refine y_nw (q := 107) 61 4764 pk1 dX10_init_110 zb_350 zb_267 zb_88 (by decide +kernel) (by decide +kernel) (by decide) (by decide) (by decide) rfl ?_
  refine y_dup dX10_init_113 (by decide) ?_
  refine y_mkN (host := "LotOffice") (as := []) (dep' := 1) (bc2 := 56) (bs2 := 4564) (k_107 (znew_q rfl) (by decide)) dX10_init_114 nX1_init rfl rfl (zmT2 (List.mem_of_getElem? (i := 30) (by decide +kernel))) zb_269 zb_88 (by omega) rfl rfl (by decide) (by decide) rfl rfl i (by decide) (by decide) (fun h i => ?_)
  refine y_aa (ci := 1) dX10_init_117 (zOb.lit (sh := (7, 0, 8)) (by decide +kernel)) (by decide) rfl (zOb.lit (sh := (0, 1, 13)) (by decide +kernel)) rfl (by decide) (by decide) (by decide) (by decide) i (by decide) (by decide +kernel) (fun h i => ?_)
  refine y_iinc (lv' := [(1, xI 8), (0, xR 0)]) 0 dX10_init_118 rfl (by decide) (by rw [show w32 (7 + 1) = 8 by decide]; rfl) ?_
  refine y_goto dX10_init_121 rfl ?_
  refine y_iload_n 0 dX10_init_99 rfl ?_
  refine y_bipush dX10_init_100 ⟨by decide, by decide⟩ (by decide) ?_
  refine y_icmp_ge dX10_init_102 rfl (fun _ => ?_) (fun c => absurd (by decide) c)
  refine y_iconst dX10_init_124 ⟨by decide, by decide⟩ ?_
  refine y_istore_n (lv' := [(1, xI 0), (0, xR 0)]) dX10_init_125 (by decide) rfl ?_
  refine y_iload_n 0 dX10_init_126 rfl ?_
  refine y_iconst dX10_init_127 ⟨by decide, by decide⟩ ?_
  refine y_icmp_ge dX10_init_128 rfl (fun c => absurd c (by decide)) (fun _ => ?_)
  refine y_aload_n 1 dX10_init_131 rfl ?_
  refine y_gt (k := 5) (kz := 5) (v := 43) pk10 dX10_init_132 (by decide) zb_462 rfl (zOb.lit (by decide +kernel)) rfl i (by decide) rfl (by decide) (by decide +kernel) ?_
  refine y_iload_n 0 dX10_init_135 rfl ?_
  refine y_nw (q := 113) 55 4551 pk6 dX10_init_136 zb_353 zb_376 zb_90 (by decide +kernel) (by decide +kernel) (by decide) (by decide) (by decide) rfl ?_
  refine y_dup dX10_init_139 (by decide) ?_
  refine y_iload_n 0 dX10_init_140 rfl ?_
  refine y_mk (as := [xI 0]) (dep' := 2) (bc2 := 42) (bs2 := 3423) (k_113 (znew_q rfl) (by decide)) dX10_init_141 nX6_init rfl rfl zb_377 zb_378 zb_90 (by omega) rfl rfl (by decide) (by decide) rfl rfl i (by decide) (by decide) (fun h i => ?_)
  have i := i.swap2 (by decide)
  have i := i.swap (by decide)
  refine y_aa (ci := 6) dX10_init_144 (zOb.lit (sh := (8, 0, 4)) (by decide +kernel)) (by decide) rfl (zOb.lit (sh := (0, 6, 13)) (by decide +kernel)) rfl (by decide) (by decide) (by decide) (by decide) i (by decide) (by decide +kernel) (fun h i => ?_)
  refine y_iinc (lv' := [(1, xI 1), (0, xR 0)]) 0 dX10_init_145 rfl (by decide) (by rw [show w32 (0 + 1) = 1 by decide]; rfl) ?_
  refine y_goto dX10_init_148 rfl ?_
  refine y_iload_n 0 dX10_init_126 rfl ?_
  refine y_iconst dX10_init_127 ⟨by decide, by decide⟩ ?_
  refine y_icmp_ge dX10_init_128 rfl (fun c => absurd c (by decide)) (fun _ => ?_)
  refine y_aload_n 1 dX10_init_131 rfl ?_
  refine y_gt (k := 5) (kz := 5) (v := 43) pk10 dX10_init_132 (by decide) zb_462 rfl (zOb.lit (by decide +kernel)) rfl i (by decide) rfl (by decide) (by decide +kernel) ?_
  refine y_iload_n 0 dX10_init_135 rfl ?_
  refine y_nw (q := 127) 41 3410 pk6 dX10_init_136 zb_353 zb_376 zb_90 (by decide +kernel) (by decide +kernel) (by decide) (by decide) (by decide) rfl ?_
  refine y_dup dX10_init_139 (by decide) ?_
  refine y_iload_n 0 dX10_init_140 rfl ?_
  refine y_mk (as := [xI 1]) (dep' := 2) (bc2 := 28) (bs2 := 2282) (k_127 (znew_q rfl) (by decide)) dX10_init_141 nX6_init rfl rfl zb_377 zb_378 zb_90 (by omega) rfl rfl (by decide) (by decide) rfl rfl i (by decide) (by decide) (fun h i => ?_)
  refine y_aa (ci := 6) dX10_init_144 (zOb.lit (sh := (8, 0, 4)) (by decide +kernel)) (by decide) rfl (zOb.lit (sh := (0, 6, 13)) (by decide +kernel)) rfl (by decide) (by decide) (by decide) (by decide) i (by decide) (by decide +kernel) (fun h i => ?_)
  refine y_iinc (lv' := [(1, xI 2), (0, xR 0)]) 0 dX10_init_145 rfl (by decide) (by rw [show w32 (1 + 1) = 2 by decide]; rfl) ?_
  refine y_goto dX10_init_148 rfl ?_
  refine y_iload_n 0 dX10_init_126 rfl ?_
  refine y_iconst dX10_init_127 ⟨by decide, by decide⟩ ?_
  refine y_icmp_ge dX10_init_128 rfl (fun c => absurd c (by decide)) (fun _ => ?_)
  refine y_aload_n 1 dX10_init_131 rfl ?_
  refine y_gt (k := 5) (kz := 5) (v := 43) pk10 dX10_init_132 (by decide) zb_462 rfl (zOb.lit (by decide +kernel)) rfl i (by decide) rfl (by decide) (by decide +kernel) ?_
  refine y_iload_n 0 dX10_init_135 rfl ?_
  refine y_nw (q := 141) 27 2269 pk6 dX10_init_136 zb_353 zb_376 zb_90 (by decide +kernel) (by decide +kernel) (by decide) (by decide) (by decide) rfl ?_
  refine y_dup dX10_init_139 (by decide) ?_
  refine y_iload_n 0 dX10_init_140 rfl ?_
  refine y_mk (as := [xI 2]) (dep' := 2) (bc2 := 14) (bs2 := 1141) (k_141 (znew_q rfl) (by decide)) dX10_init_141 nX6_init rfl rfl zb_377 zb_378 zb_90 (by omega) rfl rfl (by decide) (by decide) rfl rfl i (by decide) (by decide) (fun h i => ?_)
  refine y_aa (ci := 6) dX10_init_144 (zOb.lit (sh := (8, 0, 4)) (by decide +kernel)) (by decide) rfl (zOb.lit (sh := (0, 6, 13)) (by decide +kernel)) rfl (by decide) (by decide) (by decide) (by decide) i (by decide) (by decide +kernel) (fun h i => ?_)
  refine y_iinc (lv' := [(1, xI 3), (0, xR 0)]) 0 dX10_init_145 rfl (by decide) (by rw [show w32 (2 + 1) = 3 by decide]; rfl) ?_
  refine y_goto dX10_init_148 rfl ?_
  refine y_iload_n 0 dX10_init_126 rfl ?_
  refine y_iconst dX10_init_127 ⟨by decide, by decide⟩ ?_
  refine y_icmp_ge dX10_init_128 rfl (fun c => absurd c (by decide)) (fun _ => ?_)
  refine y_aload_n 1 dX10_init_131 rfl ?_
  refine y_gt (k := 5) (kz := 5) (v := 43) pk10 dX10_init_132 (by decide) zb_462 rfl (zOb.lit (by decide +kernel)) rfl i (by decide) rfl (by decide) (by decide +kernel) ?_
  refine y_iload_n 0 dX10_init_135 rfl ?_
  refine y_nw (q := 155) 13 1128 pk6 dX10_init_136 zb_353 zb_376 zb_90 (by decide +kernel) (by decide +kernel) (by decide) (by decide) (by decide) rfl ?_
  refine y_dup dX10_init_139 (by decide) ?_
  refine y_iload_n 0 dX10_init_140 rfl ?_
  refine y_mk (as := [xI 3]) (dep' := 2) (bc2 := 0) (bs2 := 0) (k_155 (znew_q rfl) (by decide)) dX10_init_141 nX6_init rfl rfl zb_377 zb_378 zb_90 (by omega) rfl rfl (by decide) (by decide) rfl rfl i (by decide) (by decide) (fun h i => ?_)
  refine y_aa (ci := 6) dX10_init_144 (zOb.lit (sh := (8, 0, 4)) (by decide +kernel)) (by decide) rfl (zOb.lit (sh := (0, 6, 13)) (by decide +kernel)) rfl (by decide) (by decide) (by decide) (by decide) i (by decide) (by decide +kernel) (fun h i => ?_)
  refine y_iinc (lv' := [(1, xI 4), (0, xR 0)]) 0 dX10_init_145 rfl (by decide) (by rw [show w32 (3 + 1) = 4 by decide]; rfl) ?_
  refine y_goto dX10_init_148 rfl ?_
  refine y_iload_n 0 dX10_init_126 rfl ?_
  refine y_iconst dX10_init_127 ⟨by decide, by decide⟩ ?_
  refine y_icmp_ge dX10_init_128 rfl (fun _ => ?_) (fun c => absurd (by decide) c)
  have i := i.made (by decide +kernel) rfl
  have i := i.made (by decide +kernel) rfl
  exact y_end dX10_init_151 rfl rfl i (by decide +kernel)
