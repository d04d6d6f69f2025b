def dz_M259_64 (s : q_S) (a1 : Int32) : q_S :=
  q_let (dz_M206 s a1 0) fun r1 => cond r1 (q_let (dz_M206 (q_sA s 15 (upd (s.1 15) 5 (vp_nar .boolean 1))) a1 1) fun r2 => cond r2 (q_let ((q_sA s 15 (upd (s.1 15) 5 (vp_nar .boolean 1)))) fun r3 => q_let (dz_M206 (q_sA r3 15 (upd (r3.1 15) 4 (vp_nar .boolean 1))) a1 2) fun r4 => cond r4 (q_let ((q_sA r3 15 (upd (r3.1 15) 4 (vp_nar .boolean 1)))) fun r5 => q_let (dz_M206 (q_sA r5 15 (upd (r5.1 15) 3 (vp_nar .boolean 1))) a1 3) fun r6 => cond r6 (q_let ((q_sA r5 15 (upd (r5.1 15) 3 (vp_nar .boolean 1)))) fun r7 => q_let (dz_M206 (q_sA r7 15 (upd (r7.1 15) 2 (vp_nar .boolean 1))) a1 6) fun r8 => cond r8 (q_let ((q_sA r7 15 (upd (r7.1 15) 2 (vp_nar .boolean 1)))) fun r9 => q_let (dz_M206 (q_sA r9 15 (upd (r9.1 15) 1 (vp_nar .boolean 1))) a1 7) fun r10 => cond r10 (q_let ((q_sA r9 15 (upd (r9.1 15) 1 (vp_nar .boolean 1)))) fun r11 => (q_sA r11 15 (upd (r11.1 15) 0 (vp_nar .boolean 1)))) (q_let ((q_sA r9 15 (upd (r9.1 15) 1 (vp_nar .boolean 1)))) fun r12 => (q_sA r12 15 (upd (r12.1 15) 0 (vp_nar .boolean 0))))) (q_let ((q_sA r7 15 (upd (r7.1 15) 2 (vp_nar .boolean 1)))) fun r13 => q_let (dz_M206 (q_sA r13 15 (upd (r13.1 15) 1 (vp_nar .boolean 0))) a1 7) fun r14 => cond r14 (q_let ((q_sA r13 15 (upd (r13.1 15) 1 (vp_nar .boolean 0)))) fun r15 => (q_sA r15 15 (upd (r15.1 15) 0 (vp_nar .boolean 1)))) (q_let ((q_sA r13 15 (upd (r13.1 15) 1 (vp_nar .boolean 0)))) fun r16 => (q_sA r16 15 (upd (r16.1 15) 0 (vp_nar .boolean 0)))))) (q_let ((q_sA r5 15 (upd (r5.1 15) 3 (vp_nar .boolean 1)))) fun r17 => q_let (dz_M206 (q_sA r17 15 (upd (r17.1 15) 2 (vp_nar .boolean 0))) a1 6) fun r18 => cond r18 (q_let ((q_sA r17 15 (upd (r17.1 15) 2 (vp_nar .boolean 0)))) fun r19 => q_let (dz_M206 (q_sA r19 15 (upd (r19.1 15) 1 (vp_nar .boolean 1))) a1 7) fun r20 => cond r20 (q_let ((q_sA r19 15 (upd (r19.1 15) 1 (vp_nar .boolean 1)))) fun r21 => (q_sA r21 15 (upd (r21.1 15) 0 (vp_nar .boolean 1)))) (q_let ((q_sA r19 15 (upd (r19.1 15) 1 (vp_nar .boolean 1)))) fun r22 => (q_sA r22 15 (upd (r22.1 15) 0 (vp_nar .boolean 0))))) (q_let ((q_sA r17 15 (upd (r17.1 15) 2 (vp_nar .boolean 0)))) fun r23 => q_let (dz_M206 (q_sA r23 15 (upd (r23.1 15) 1 (vp_nar .boolean 0))) a1 7) fun r24 => cond r24 (q_let ((q_sA r23 15 (upd (r23.1 15) 1 (vp_nar .boolean 0)))) fun r25 => (q_sA r25 15 (upd (r25.1 15) 0 (vp_nar .boolean 1)))) (q_let ((q_sA r23 15 (upd (r23.1 15) 1 (vp_nar .boolean 0)))) fun r26 => (q_sA r26 15 (upd (r26.1 15) 0 (vp_nar .boolean 0))))))) (q_let ((q_sA r3 15 (upd (r3.1 15) 4 (vp_nar .boolean 1)))) fun r27 => q_let (dz_M206 (q_sA r27 15 (upd (r27.1 15) 3 (vp_nar .boolean 0))) a1 3) fun r28 => cond r28 (q_let ((q_sA r27 15 (upd (r27.1 15) 3 (vp_nar .boolean 0)))) fun r29 => q_let (dz_M206 (q_sA r29 15 (upd (r29.1 15) 2 (vp_nar .boolean 1))) a1 6) fun r30 => cond r30 (q_let ((q_sA r29 15 (upd (r29.1 15) 2 (vp_nar .boolean 1)))) fun r31 => q_let (dz_M206 (q_sA r31 15 (upd (r31.1 15) 1 (vp_nar .boolean 1))) a1 7) fun r32 => cond r32 (q_let ((q_sA r31 15 (upd (r31.1 15) 1 (vp_nar .boolean 1)))) fun r33 => (q_sA r33 15 (upd (r33.1 15) 0 (vp_nar .boolean 1)))) (q_let ((q_sA r31 15 (upd (r31.1 15) 1 (vp_nar .boolean 1)))) fun r34 => (q_sA r34 15 (upd (r34.1 15) 0 (vp_nar .boolean 0))))) (q_let ((q_sA r29 15 (upd (r29.1 15) 2 (vp_nar .boolean 1)))) fun r35 => q_let (dz_M206 (q_sA r35 15 (upd (r35.1 15) 1 (vp_nar .boolean 0))) a1 7) fun r36 => cond r36 (q_let ((q_sA r35 15 (upd (r35.1 15) 1 (vp_nar .boolean 0)))) fun r37 => (q_sA r37 15 (upd (r37.1 15) 0 (vp_nar .boolean 1)))) (q_let ((q_sA r35 15 (upd (r35.1 15) 1 (vp_nar .boolean 0)))) fun r38 => (q_sA r38 15 (upd (r38.1 15) 0 (vp_nar .boolean 0)))))) (q_let ((q_sA r27 15 (upd (r27.1 15) 3 (vp_nar .boolean 0)))) fun r39 => q_let (dz_M206 (q_sA r39 15 (upd (r39.1 15) 2 (vp_nar .boolean 0))) a1 6) fun r40 => cond r40 (q_let ((q_sA r39 15 (upd (r39.1 15) 2 (vp_nar .boolean 0)))) fun r41 => q_let (dz_M206 (q_sA r41 15 (upd (r41.1 15) 1 (vp_nar .boolean 1))) a1 7) fun r42 => cond r42 (q_let ((q_sA r41 15 (upd (r41.1 15) 1 (vp_nar .boolean 1)))) fun r43 => (q_sA r43 15 (upd (r43.1 15) 0 (vp_nar .boolean 1)))) (q_let ((q_sA r41 15 (upd (r41.1 15) 1 (vp_nar .boolean 1)))) fun r44 => (q_sA r44 15 (upd (r44.1 15) 0 (vp_nar .boolean 0))))) (q_let ((q_sA r39 15 (upd (r39.1 15) 2 (vp_nar .boolean 0)))) fun r45 => q_let (dz_M206 (q_sA r45 15 (upd (r45.1 15) 1 (vp_nar .boolean 0))) a1 7) fun r46 => cond r46 (q_let ((q_sA r45 15 (upd (r45.1 15) 1 (vp_nar .boolean 0)))) fun r47 => (q_sA r47 15 (upd (r47.1 15) 0 (vp_nar .boolean 1)))) (q_let ((q_sA r45 15 (upd (r45.1 15) 1 (vp_nar .boolean 0)))) fun r48 => (q_sA r48 15 (upd (r48.1 15) 0 (vp_nar .boolean 0)))))))) (q_let ((q_sA s 15 (upd (s.1 15) 5 (vp_nar .boolean 1)))) fun r49 => q_let (dz_M206 (q_sA r49 15 (upd (r49.1 15) 4 (vp_nar .boolean 0))) a1 2) fun r50 => cond r50 (q_let ((q_sA r49 15 (upd (r49.1 15) 4 (vp_nar .boolean 0)))) fun r51 => q_let (dz_M206 (q_sA r51 15 (upd (r51.1 15) 3 (vp_nar .boolean 1))) a1 3) fun r52 => cond r52 (q_let ((q_sA r51 15 (upd (r51.1 15) 3 (vp_nar .boolean 1)))) fun r53 => q_let (dz_M206 (q_sA r53 15 (upd (r53.1 15) 2 (vp_nar .boolean 1))) a1 6) fun r54 => cond r54 (q_let ((q_sA r53 15 (upd (r53.1 15) 2 (vp_nar .boolean 1)))) fun r55 => q_let (dz_M206 (q_sA r55 15 (upd (r55.1 15) 1 (vp_nar .boolean 1))) a1 7) fun r56 => cond r56 (q_let ((q_sA r55 15 (upd (r55.1 15) 1 (vp_nar .boolean 1)))) fun r57 => (q_sA r57 15 (upd (r57.1 15) 0 (vp_nar .boolean 1)))) (q_let ((q_sA r55 15 (upd (r55.1 15) 1 (vp_nar .boolean 1)))) fun r58 => (q_sA r58 15 (upd (r58.1 15) 0 (vp_nar .boolean 0))))) (q_let ((q_sA r53 15 (upd (r53.1 15) 2 (vp_nar .boolean 1)))) fun r59 => q_let (dz_M206 (q_sA r59 15 (upd (r59.1 15) 1 (vp_nar .boolean 0))) a1 7) fun r60 => cond r60 (q_let ((q_sA r59 15 (upd (r59.1 15) 1 (vp_nar .boolean 0)))) fun r61 => (q_sA r61 15 (upd (r61.1 15) 0 (vp_nar .boolean 1)))) (q_let ((q_sA r59 15 (upd (r59.1 15) 1 (vp_nar .boolean 0)))) fun r62 => (q_sA r62 15 (upd (r62.1 15) 0 (vp_nar .boolean 0)))))) (q_let ((q_sA r51 15 (upd (r51.1 15) 3 (vp_nar .boolean 1)))) fun r63 => q_let (dz_M206 (q_sA r63 15 (upd (r63.1 15) 2 (vp_nar .boolean 0))) a1 6) fun r64 => cond r64 (q_let ((q_sA r63 15 (upd (r63.1 15) 2 (vp_nar .boolean 0)))) fun r65 => q_let (dz_M206 (q_sA r65 15 (upd (r65.1 15) 1 (vp_nar .boolean 1))) a1 7) fun r66 => cond r66 (q_let ((q_sA r65 15 (upd (r65.1 15) 1 (vp_nar .boolean 1)))) fun r67 => (q_sA r67 15 (upd (r67.1 15) 0 (vp_nar .boolean 1)))) (q_let ((q_sA r65 15 (upd (r65.1 15) 1 (vp_nar .boolean 1)))) fun r68 => (q_sA r68 15 (upd (r68.1 15) 0 (vp_nar .boolean 0))))) (q_let ((q_sA r63 15 (upd (r63.1 15) 2 (vp_nar .boolean 0)))) fun r69 => q_let (dz_M206 (q_sA r69 15 (upd (r69.1 15) 1 (vp_nar .boolean 0))) a1 7) fun r70 => cond r70 (q_let ((q_sA r69 15 (upd (r69.1 15) 1 (vp_nar .boolean 0)))) fun r71 => (q_sA r71 15 (upd (r71.1 15) 0 (vp_nar .boolean 1)))) (q_let ((q_sA r69 15 (upd (r69.1 15) 1 (vp_nar .boolean 0)))) fun r72 => (q_sA r72 15 (upd (r72.1 15) 0 (vp_nar .boolean 0))))))) (q_let ((q_sA r49 15 (upd (r49.1 15) 4 (vp_nar .boolean 0)))) fun r73 => q_let (dz_M206 (q_sA r73 15 (upd (r73.1 15) 3 (vp_nar .boolean 0))) a1 3) fun r74 => cond r74 (q_let ((q_sA r73 15 (upd (r73.1 15) 3 (vp_nar .boolean 0)))) fun r75 => q_let (dz_M206 (q_sA r75 15 (upd (r75.1 15) 2 (vp_nar .boolean 1))) a1 6) fun r76 => cond r76 (q_let ((q_sA r75 15 (upd (r75.1 15) 2 (vp_nar .boolean 1)))) fun r77 => q_let (dz_M206 (q_sA r77 15 (upd (r77.1 15) 1 (vp_nar .boolean 1))) a1 7) fun r78 => cond r78 (q_let ((q_sA r77 15 (upd (r77.1 15) 1 (vp_nar .boolean 1)))) fun r79 => (q_sA r79 15 (upd (r79.1 15) 0 (vp_nar .boolean 1)))) (q_let ((q_sA r77 15 (upd (r77.1 15) 1 (vp_nar .boolean 1)))) fun r80 => (q_sA r80 15 (upd (r80.1 15) 0 (vp_nar .boolean 0))))) (q_let ((q_sA r75 15 (upd (r75.1 15) 2 (vp_nar .boolean 1)))) fun r81 => q_let (dz_M206 (q_sA r81 15 (upd (r81.1 15) 1 (vp_nar .boolean 0))) a1 7) fun r82 => cond r82 (q_let ((q_sA r81 15 (upd (r81.1 15) 1 (vp_nar .boolean 0)))) fun r83 => (q_sA r83 15 (upd (r83.1 15) 0 (vp_nar .boolean 1)))) (q_let ((q_sA r81 15 (upd (r81.1 15) 1 (vp_nar .boolean 0)))) fun r84 => (q_sA r84 15 (upd (r84.1 15) 0 (vp_nar .boolean 0)))))) (q_let ((q_sA r73 15 (upd (r73.1 15) 3 (vp_nar .boolean 0)))) fun r85 => q_let (dz_M206 (q_sA r85 15 (upd (r85.1 15) 2 (vp_nar .boolean 0))) a1 6) fun r86 => cond r86 (q_let ((q_sA r85 15 (upd (r85.1 15) 2 (vp_nar .boolean 0)))) fun r87 => q_let (dz_M206 (q_sA r87 15 (upd (r87.1 15) 1 (vp_nar .boolean 1))) a1 7) fun r88 => cond r88 (q_let ((q_sA r87 15 (upd (r87.1 15) 1 (vp_nar .boolean 1)))) fun r89 => (q_sA r89 15 (upd (r89.1 15) 0 (vp_nar .boolean 1)))) (q_let ((q_sA r87 15 (upd (r87.1 15) 1 (vp_nar .boolean 1)))) fun r90 => (q_sA r90 15 (upd (r90.1 15) 0 (vp_nar .boolean 0))))) (q_let ((q_sA r85 15 (upd (r85.1 15) 2 (vp_nar .boolean 0)))) fun r91 => q_let (dz_M206 (q_sA r91 15 (upd (r91.1 15) 1 (vp_nar .boolean 0))) a1 7) fun r92 => cond r92 (q_let ((q_sA r91 15 (upd (r91.1 15) 1 (vp_nar .boolean 0)))) fun r93 => (q_sA r93 15 (upd (r93.1 15) 0 (vp_nar .boolean 1)))) (q_let ((q_sA r91 15 (upd (r91.1 15) 1 (vp_nar .boolean 0)))) fun r94 => (q_sA r94 15 (upd (r94.1 15) 0 (vp_nar .boolean 0))))))))) (q_let (dz_M206 (q_sA s 15 (upd (s.1 15) 5 (vp_nar .boolean 0))) a1 1) fun r95 => cond r95 (q_let ((q_sA s 15 (upd (s.1 15) 5 (vp_nar .boolean 0)))) fun r96 => q_let (dz_M206 (q_sA r96 15 (upd (r96.1 15) 4 (vp_nar .boolean 1))) a1 2) fun r97 => cond r97 (q_let ((q_sA r96 15 (upd (r96.1 15) 4 (vp_nar .boolean 1)))) fun r98 => q_let (dz_M206 (q_sA r98 15 (upd (r98.1 15) 3 (vp_nar .boolean 1))) a1 3) fun r99 => cond r99 (q_let ((q_sA r98 15 (upd (r98.1 15) 3 (vp_nar .boolean 1)))) fun r100 => q_let (dz_M206 (q_sA r100 15 (upd (r100.1 15) 2 (vp_nar .boolean 1))) a1 6) fun r101 => cond r101 (q_let ((q_sA r100 15 (upd (r100.1 15) 2 (vp_nar .boolean 1)))) fun r102 => q_let (dz_M206 (q_sA r102 15 (upd (r102.1 15) 1 (vp_nar .boolean 1))) a1 7) fun r103 => cond r103 (q_let ((q_sA r102 15 (upd (r102.1 15) 1 (vp_nar .boolean 1)))) fun r104 => (q_sA r104 15 (upd (r104.1 15) 0 (vp_nar .boolean 1)))) (q_let ((q_sA r102 15 (upd (r102.1 15) 1 (vp_nar .boolean 1)))) fun r105 => (q_sA r105 15 (upd (r105.1 15) 0 (vp_nar .boolean 0))))) (q_let ((q_sA r100 15 (upd (r100.1 15) 2 (vp_nar .boolean 1)))) fun r106 => q_let (dz_M206 (q_sA r106 15 (upd (r106.1 15) 1 (vp_nar .boolean 0))) a1 7) fun r107 => cond r107 (q_let ((q_sA r106 15 (upd (r106.1 15) 1 (vp_nar .boolean 0)))) fun r108 => (q_sA r108 15 (upd (r108.1 15) 0 (vp_nar .boolean 1)))) (q_let ((q_sA r106 15 (upd (r106.1 15) 1 (vp_nar .boolean 0)))) fun r109 => (q_sA r109 15 (upd (r109.1 15) 0 (vp_nar .boolean 0)))))) (q_let ((q_sA r98 15 (upd (r98.1 15) 3 (vp_nar .boolean 1)))) fun r110 => q_let (dz_M206 (q_sA r110 15 (upd (r110.1 15) 2 (vp_nar .boolean 0))) a1 6) fun r111 => cond r111 (q_let ((q_sA r110 15 (upd (r110.1 15) 2 (vp_nar .boolean 0)))) fun r112 => q_let (dz_M206 (q_sA r112 15 (upd (r112.1 15) 1 (vp_nar .boolean 1))) a1 7) fun r113 => cond r113 (q_let ((q_sA r112 15 (upd (r112.1 15) 1 (vp_nar .boolean 1)))) fun r114 => (q_sA r114 15 (upd (r114.1 15) 0 (vp_nar .boolean 1)))) (q_let ((q_sA r112 15 (upd (r112.1 15) 1 (vp_nar .boolean 1)))) fun r115 => (q_sA r115 15 (upd (r115.1 15) 0 (vp_nar .boolean 0))))) (q_let ((q_sA r110 15 (upd (r110.1 15) 2 (vp_nar .boolean 0)))) fun r116 => q_let (dz_M206 (q_sA r116 15 (upd (r116.1 15) 1 (vp_nar .boolean 0))) a1 7) fun r117 => cond r117 (q_let ((q_sA r116 15 (upd (r116.1 15) 1 (vp_nar .boolean 0)))) fun r118 => (q_sA r118 15 (upd (r118.1 15) 0 (vp_nar .boolean 1)))) (q_let ((q_sA r116 15 (upd (r116.1 15) 1 (vp_nar .boolean 0)))) fun r119 => (q_sA r119 15 (upd (r119.1 15) 0 (vp_nar .boolean 0))))))) (q_let ((q_sA r96 15 (upd (r96.1 15) 4 (vp_nar .boolean 1)))) fun r120 => q_let (dz_M206 (q_sA r120 15 (upd (r120.1 15) 3 (vp_nar .boolean 0))) a1 3) fun r121 => cond r121 (q_let ((q_sA r120 15 (upd (r120.1 15) 3 (vp_nar .boolean 0)))) fun r122 => q_let (dz_M206 (q_sA r122 15 (upd (r122.1 15) 2 (vp_nar .boolean 1))) a1 6) fun r123 => cond r123 (q_let ((q_sA r122 15 (upd (r122.1 15) 2 (vp_nar .boolean 1)))) fun r124 => q_let (dz_M206 (q_sA r124 15 (upd (r124.1 15) 1 (vp_nar .boolean 1))) a1 7) fun r125 => cond r125 (q_let ((q_sA r124 15 (upd (r124.1 15) 1 (vp_nar .boolean 1)))) fun r126 => (q_sA r126 15 (upd (r126.1 15) 0 (vp_nar .boolean 1)))) (q_let ((q_sA r124 15 (upd (r124.1 15) 1 (vp_nar .boolean 1)))) fun r127 => (q_sA r127 15 (upd (r127.1 15) 0 (vp_nar .boolean 0))))) (q_let ((q_sA r122 15 (upd (r122.1 15) 2 (vp_nar .boolean 1)))) fun r128 => q_let (dz_M206 (q_sA r128 15 (upd (r128.1 15) 1 (vp_nar .boolean 0))) a1 7) fun r129 => cond r129 (q_let ((q_sA r128 15 (upd (r128.1 15) 1 (vp_nar .boolean 0)))) fun r130 => (q_sA r130 15 (upd (r130.1 15) 0 (vp_nar .boolean 1)))) (q_let ((q_sA r128 15 (upd (r128.1 15) 1 (vp_nar .boolean 0)))) fun r131 => (q_sA r131 15 (upd (r131.1 15) 0 (vp_nar .boolean 0)))))) (q_let ((q_sA r120 15 (upd (r120.1 15) 3 (vp_nar .boolean 0)))) fun r132 => q_let (dz_M206 (q_sA r132 15 (upd (r132.1 15) 2 (vp_nar .boolean 0))) a1 6) fun r133 => cond r133 (q_let ((q_sA r132 15 (upd (r132.1 15) 2 (vp_nar .boolean 0)))) fun r134 => q_let (dz_M206 (q_sA r134 15 (upd (r134.1 15) 1 (vp_nar .boolean 1))) a1 7) fun r135 => cond r135 (q_let ((q_sA r134 15 (upd (r134.1 15) 1 (vp_nar .boolean 1)))) fun r136 => (q_sA r136 15 (upd (r136.1 15) 0 (vp_nar .boolean 1)))) (q_let ((q_sA r134 15 (upd (r134.1 15) 1 (vp_nar .boolean 1)))) fun r137 => (q_sA r137 15 (upd (r137.1 15) 0 (vp_nar .boolean 0))))) (q_let ((q_sA r132 15 (upd (r132.1 15) 2 (vp_nar .boolean 0)))) fun r138 => q_let (dz_M206 (q_sA r138 15 (upd (r138.1 15) 1 (vp_nar .boolean 0))) a1 7) fun r139 => cond r139 (q_let ((q_sA r138 15 (upd (r138.1 15) 1 (vp_nar .boolean 0)))) fun r140 => (q_sA r140 15 (upd (r140.1 15) 0 (vp_nar .boolean 1)))) (q_let ((q_sA r138 15 (upd (r138.1 15) 1 (vp_nar .boolean 0)))) fun r141 => (q_sA r141 15 (upd (r141.1 15) 0 (vp_nar .boolean 0)))))))) (q_let ((q_sA s 15 (upd (s.1 15) 5 (vp_nar .boolean 0)))) fun r142 => q_let (dz_M206 (q_sA r142 15 (upd (r142.1 15) 4 (vp_nar .boolean 0))) a1 2) fun r143 => cond r143 (q_let ((q_sA r142 15 (upd (r142.1 15) 4 (vp_nar .boolean 0)))) fun r144 => q_let (dz_M206 (q_sA r144 15 (upd (r144.1 15) 3 (vp_nar .boolean 1))) a1 3) fun r145 => cond r145 (q_let ((q_sA r144 15 (upd (r144.1 15) 3 (vp_nar .boolean 1)))) fun r146 => q_let (dz_M206 (q_sA r146 15 (upd (r146.1 15) 2 (vp_nar .boolean 1))) a1 6) fun r147 => cond r147 (q_let ((q_sA r146 15 (upd (r146.1 15) 2 (vp_nar .boolean 1)))) fun r148 => q_let (dz_M206 (q_sA r148 15 (upd (r148.1 15) 1 (vp_nar .boolean 1))) a1 7) fun r149 => cond r149 (q_let ((q_sA r148 15 (upd (r148.1 15) 1 (vp_nar .boolean 1)))) fun r150 => (q_sA r150 15 (upd (r150.1 15) 0 (vp_nar .boolean 1)))) (q_let ((q_sA r148 15 (upd (r148.1 15) 1 (vp_nar .boolean 1)))) fun r151 => (q_sA r151 15 (upd (r151.1 15) 0 (vp_nar .boolean 0))))) (q_let ((q_sA r146 15 (upd (r146.1 15) 2 (vp_nar .boolean 1)))) fun r152 => q_let (dz_M206 (q_sA r152 15 (upd (r152.1 15) 1 (vp_nar .boolean 0))) a1 7) fun r153 => cond r153 (q_let ((q_sA r152 15 (upd (r152.1 15) 1 (vp_nar .boolean 0)))) fun r154 => (q_sA r154 15 (upd (r154.1 15) 0 (vp_nar .boolean 1)))) (q_let ((q_sA r152 15 (upd (r152.1 15) 1 (vp_nar .boolean 0)))) fun r155 => (q_sA r155 15 (upd (r155.1 15) 0 (vp_nar .boolean 0)))))) (q_let ((q_sA r144 15 (upd (r144.1 15) 3 (vp_nar .boolean 1)))) fun r156 => q_let (dz_M206 (q_sA r156 15 (upd (r156.1 15) 2 (vp_nar .boolean 0))) a1 6) fun r157 => cond r157 (q_let ((q_sA r156 15 (upd (r156.1 15) 2 (vp_nar .boolean 0)))) fun r158 => q_let (dz_M206 (q_sA r158 15 (upd (r158.1 15) 1 (vp_nar .boolean 1))) a1 7) fun r159 => cond r159 (q_let ((q_sA r158 15 (upd (r158.1 15) 1 (vp_nar .boolean 1)))) fun r160 => (q_sA r160 15 (upd (r160.1 15) 0 (vp_nar .boolean 1)))) (q_let ((q_sA r158 15 (upd (r158.1 15) 1 (vp_nar .boolean 1)))) fun r161 => (q_sA r161 15 (upd (r161.1 15) 0 (vp_nar .boolean 0))))) (q_let ((q_sA r156 15 (upd (r156.1 15) 2 (vp_nar .boolean 0)))) fun r162 => q_let (dz_M206 (q_sA r162 15 (upd (r162.1 15) 1 (vp_nar .boolean 0))) a1 7) fun r163 => cond r163 (q_let ((q_sA r162 15 (upd (r162.1 15) 1 (vp_nar .boolean 0)))) fun r164 => (q_sA r164 15 (upd (r164.1 15) 0 (vp_nar .boolean 1)))) (q_let ((q_sA r162 15 (upd (r162.1 15) 1 (vp_nar .boolean 0)))) fun r165 => (q_sA r165 15 (upd (r165.1 15) 0 (vp_nar .boolean 0))))))) (q_let ((q_sA r142 15 (upd (r142.1 15) 4 (vp_nar .boolean 0)))) fun r166 => q_let (dz_M206 (q_sA r166 15 (upd (r166.1 15) 3 (vp_nar .boolean 0))) a1 3) fun r167 => cond r167 (q_let ((q_sA r166 15 (upd (r166.1 15) 3 (vp_nar .boolean 0)))) fun r168 => q_let (dz_M206 (q_sA r168 15 (upd (r168.1 15) 2 (vp_nar .boolean 1))) a1 6) fun r169 => cond r169 (q_let ((q_sA r168 15 (upd (r168.1 15) 2 (vp_nar .boolean 1)))) fun r170 => q_let (dz_M206 (q_sA r170 15 (upd (r170.1 15) 1 (vp_nar .boolean 1))) a1 7) fun r171 => cond r171 (q_let ((q_sA r170 15 (upd (r170.1 15) 1 (vp_nar .boolean 1)))) fun r172 => (q_sA r172 15 (upd (r172.1 15) 0 (vp_nar .boolean 1)))) (q_let ((q_sA r170 15 (upd (r170.1 15) 1 (vp_nar .boolean 1)))) fun r173 => (q_sA r173 15 (upd (r173.1 15) 0 (vp_nar .boolean 0))))) (q_let ((q_sA r168 15 (upd (r168.1 15) 2 (vp_nar .boolean 1)))) fun r174 => q_let (dz_M206 (q_sA r174 15 (upd (r174.1 15) 1 (vp_nar .boolean 0))) a1 7) fun r175 => cond r175 (q_let ((q_sA r174 15 (upd (r174.1 15) 1 (vp_nar .boolean 0)))) fun r176 => (q_sA r176 15 (upd (r176.1 15) 0 (vp_nar .boolean 1)))) (q_let ((q_sA r174 15 (upd (r174.1 15) 1 (vp_nar .boolean 0)))) fun r177 => (q_sA r177 15 (upd (r177.1 15) 0 (vp_nar .boolean 0)))))) (q_let ((q_sA r166 15 (upd (r166.1 15) 3 (vp_nar .boolean 0)))) fun r178 => q_let (dz_M206 (q_sA r178 15 (upd (r178.1 15) 2 (vp_nar .boolean 0))) a1 6) fun r179 => cond r179 (q_let ((q_sA r178 15 (upd (r178.1 15) 2 (vp_nar .boolean 0)))) fun r180 => q_let (dz_M206 (q_sA r180 15 (upd (r180.1 15) 1 (vp_nar .boolean 1))) a1 7) fun r181 => cond r181 (q_let ((q_sA r180 15 (upd (r180.1 15) 1 (vp_nar .boolean 1)))) fun r182 => (q_sA r182 15 (upd (r182.1 15) 0 (vp_nar .boolean 1)))) (q_let ((q_sA r180 15 (upd (r180.1 15) 1 (vp_nar .boolean 1)))) fun r183 => (q_sA r183 15 (upd (r183.1 15) 0 (vp_nar .boolean 0))))) (q_let ((q_sA r178 15 (upd (r178.1 15) 2 (vp_nar .boolean 0)))) fun r184 => q_let (dz_M206 (q_sA r184 15 (upd (r184.1 15) 1 (vp_nar .boolean 0))) a1 7) fun r185 => cond r185 (q_let ((q_sA r184 15 (upd (r184.1 15) 1 (vp_nar .boolean 0)))) fun r186 => (q_sA r186 15 (upd (r186.1 15) 0 (vp_nar .boolean 1)))) (q_let ((q_sA r184 15 (upd (r184.1 15) 1 (vp_nar .boolean 0)))) fun r187 => (q_sA r187 15 (upd (r187.1 15) 0 (vp_nar .boolean 0)))))))))
set_option maxHeartbeats 4000000 in
theorem dzt_M259_64 (s : q_S) (c n : Nat) (a1 : Int32) : q_Ca q_TB0 2 258 [.ref 64, .int a1] (q_kM s c n) ((q_oSM c n) (dz_M259_64 s a1)) := by
  refine q_CaT_of (φ := (q_oSM c n)) (Nat.le_of_ble_eq_true rfl) ?_
  unfold dz_M259_64
  refine q_RT_seg (g2 := (7, [(0, .ref 64), (1, .int a1)], [.int 0, .int a1, .int 5, .ref 79], (q_kM s c n))) 5 (fun _ _ => rfl) ?_
  refine q_RT_call (v := (some (.int (q_b (dz_M206 s a1 0))))) (h2 := (q_kM s c n)) rfl rfl ((dzt_M206 s c n a1 0).le (Nat.le_of_ble_eq_true rfl)) ?_
  generalize dz_M206 s a1 0 = r1
  refine q_RT_let ?_
  show q_RT _ _ _ (10, [(0, .ref 64), (1, .int a1)], [.int (q_b r1), .int 5, .ref 79], (q_kM s c n)) _ _
  cases h1 : r1 with
  | true =>
    refine q_RT_cT ?_
    show q_RT _ _ _ (10, [(0, .ref 64), (1, .int a1)], [.int 1, .int 5, .ref 79], (q_kM s c n)) _ _
    refine q_RT_seg (g2 := (18, [(0, .ref 64), (1, .int a1)], [.int 1, .int a1, .int 4, .ref 79], (q_kM (q_sA s 15 (upd (s.1 15) 5 (vp_nar .boolean 1))) c n))) 6 (fun _ _ => rfl) ?_
    refine q_RT_call (v := (some (.int (q_b (dz_M206 (q_sA s 15 (upd (s.1 15) 5 (vp_nar .boolean 1))) a1 1))))) (h2 := (q_kM (q_sA s 15 (upd (s.1 15) 5 (vp_nar .boolean 1))) c n)) rfl rfl ((dzt_M206 (q_sA s 15 (upd (s.1 15) 5 (vp_nar .boolean 1))) c n a1 1).le (Nat.le_of_ble_eq_true rfl)) ?_
    generalize dz_M206 (q_sA s 15 (upd (s.1 15) 5 (vp_nar .boolean 1))) a1 1 = r2
    refine q_RT_let ?_
    show q_RT _ _ _ (21, [(0, .ref 64), (1, .int a1)], [.int (q_b r2), .int 4, .ref 79], (q_kM (q_sA s 15 (upd (s.1 15) 5 (vp_nar .boolean 1))) c n)) _ _
    cases h2 : r2 with
    | true =>
      refine q_RT_cT ?_
      show q_RT _ _ _ (21, [(0, .ref 64), (1, .int a1)], [.int 1, .int 4, .ref 79], (q_kM (q_sA s 15 (upd (s.1 15) 5 (vp_nar .boolean 1))) c n)) _ _
      generalize (q_sA s 15 (upd (s.1 15) 5 (vp_nar .boolean 1))) = r3
      refine q_RT_let ?_
      show q_RT _ _ _ (21, [(0, .ref 64), (1, .int a1)], [.int 1, .int 4, .ref 79], (q_kM r3 c n)) _ _
      refine q_RT_seg (g2 := (29, [(0, .ref 64), (1, .int a1)], [.int 2, .int a1, .int 3, .ref 79], (q_kM (q_sA r3 15 (upd (r3.1 15) 4 (vp_nar .boolean 1))) c n))) 6 (fun _ _ => rfl) ?_
      refine q_RT_call (v := (some (.int (q_b (dz_M206 (q_sA r3 15 (upd (r3.1 15) 4 (vp_nar .boolean 1))) a1 2))))) (h2 := (q_kM (q_sA r3 15 (upd (r3.1 15) 4 (vp_nar .boolean 1))) c n)) rfl rfl ((dzt_M206 (q_sA r3 15 (upd (r3.1 15) 4 (vp_nar .boolean 1))) c n a1 2).le (Nat.le_of_ble_eq_true rfl)) ?_
      generalize dz_M206 (q_sA r3 15 (upd (r3.1 15) 4 (vp_nar .boolean 1))) a1 2 = r4
      refine q_RT_let ?_
      show q_RT _ _ _ (32, [(0, .ref 64), (1, .int a1)], [.int (q_b r4), .int 3, .ref 79], (q_kM (q_sA r3 15 (upd (r3.1 15) 4 (vp_nar .boolean 1))) c n)) _ _
      cases h3 : r4 with
      | true =>
        refine q_RT_cT ?_
        show q_RT _ _ _ (32, [(0, .ref 64), (1, .int a1)], [.int 1, .int 3, .ref 79], (q_kM (q_sA r3 15 (upd (r3.1 15) 4 (vp_nar .boolean 1))) c n)) _ _
        generalize (q_sA r3 15 (upd (r3.1 15) 4 (vp_nar .boolean 1))) = r5
        refine q_RT_let ?_
        show q_RT _ _ _ (32, [(0, .ref 64), (1, .int a1)], [.int 1, .int 3, .ref 79], (q_kM r5 c n)) _ _
        refine q_RT_seg (g2 := (40, [(0, .ref 64), (1, .int a1)], [.int 3, .int a1, .int 2, .ref 79], (q_kM (q_sA r5 15 (upd (r5.1 15) 3 (vp_nar .boolean 1))) c n))) 6 (fun _ _ => rfl) ?_
        refine q_RT_call (v := (some (.int (q_b (dz_M206 (q_sA r5 15 (upd (r5.1 15) 3 (vp_nar .boolean 1))) a1 3))))) (h2 := (q_kM (q_sA r5 15 (upd (r5.1 15) 3 (vp_nar .boolean 1))) c n)) rfl rfl ((dzt_M206 (q_sA r5 15 (upd (r5.1 15) 3 (vp_nar .boolean 1))) c n a1 3).le (Nat.le_of_ble_eq_true rfl)) ?_
        generalize dz_M206 (q_sA r5 15 (upd (r5.1 15) 3 (vp_nar .boolean 1))) a1 3 = r6
        refine q_RT_let ?_
        show q_RT _ _ _ (43, [(0, .ref 64), (1, .int a1)], [.int (q_b r6), .int 2, .ref 79], (q_kM (q_sA r5 15 (upd (r5.1 15) 3 (vp_nar .boolean 1))) c n)) _ _
        cases h4 : r6 with
        | true =>
          refine q_RT_cT ?_
          show q_RT _ _ _ (43, [(0, .ref 64), (1, .int a1)], [.int 1, .int 2, .ref 79], (q_kM (q_sA r5 15 (upd (r5.1 15) 3 (vp_nar .boolean 1))) c n)) _ _
          generalize (q_sA r5 15 (upd (r5.1 15) 3 (vp_nar .boolean 1))) = r7
          refine q_RT_let ?_
          show q_RT _ _ _ (43, [(0, .ref 64), (1, .int a1)], [.int 1, .int 2, .ref 79], (q_kM r7 c n)) _ _
          refine q_RT_seg (g2 := (52, [(0, .ref 64), (1, .int a1)], [.int 6, .int a1, .int 1, .ref 79], (q_kM (q_sA r7 15 (upd (r7.1 15) 2 (vp_nar .boolean 1))) c n))) 6 (fun _ _ => rfl) ?_
          refine q_RT_call (v := (some (.int (q_b (dz_M206 (q_sA r7 15 (upd (r7.1 15) 2 (vp_nar .boolean 1))) a1 6))))) (h2 := (q_kM (q_sA r7 15 (upd (r7.1 15) 2 (vp_nar .boolean 1))) c n)) rfl rfl ((dzt_M206 (q_sA r7 15 (upd (r7.1 15) 2 (vp_nar .boolean 1))) c n a1 6).le (Nat.le_of_ble_eq_true rfl)) ?_
          generalize dz_M206 (q_sA r7 15 (upd (r7.1 15) 2 (vp_nar .boolean 1))) a1 6 = r8
          refine q_RT_let ?_
          show q_RT _ _ _ (55, [(0, .ref 64), (1, .int a1)], [.int (q_b r8), .int 1, .ref 79], (q_kM (q_sA r7 15 (upd (r7.1 15) 2 (vp_nar .boolean 1))) c n)) _ _
          cases h5 : r8 with
          | true =>
            refine q_RT_cT ?_
            show q_RT _ _ _ (55, [(0, .ref 64), (1, .int a1)], [.int 1, .int 1, .ref 79], (q_kM (q_sA r7 15 (upd (r7.1 15) 2 (vp_nar .boolean 1))) c n)) _ _
            generalize (q_sA r7 15 (upd (r7.1 15) 2 (vp_nar .boolean 1))) = r9
            refine q_RT_let ?_
            show q_RT _ _ _ (55, [(0, .ref 64), (1, .int a1)], [.int 1, .int 1, .ref 79], (q_kM r9 c n)) _ _
            refine q_RT_seg (g2 := (64, [(0, .ref 64), (1, .int a1)], [.int 7, .int a1, .int 0, .ref 79], (q_kM (q_sA r9 15 (upd (r9.1 15) 1 (vp_nar .boolean 1))) c n))) 6 (fun _ _ => rfl) ?_
            refine q_RT_call (v := (some (.int (q_b (dz_M206 (q_sA r9 15 (upd (r9.1 15) 1 (vp_nar .boolean 1))) a1 7))))) (h2 := (q_kM (q_sA r9 15 (upd (r9.1 15) 1 (vp_nar .boolean 1))) c n)) rfl rfl ((dzt_M206 (q_sA r9 15 (upd (r9.1 15) 1 (vp_nar .boolean 1))) c n a1 7).le (Nat.le_of_ble_eq_true rfl)) ?_
            generalize dz_M206 (q_sA r9 15 (upd (r9.1 15) 1 (vp_nar .boolean 1))) a1 7 = r10
            refine q_RT_let ?_
            show q_RT _ _ _ (67, [(0, .ref 64), (1, .int a1)], [.int (q_b r10), .int 0, .ref 79], (q_kM (q_sA r9 15 (upd (r9.1 15) 1 (vp_nar .boolean 1))) c n)) _ _
            cases h6 : r10 with
            | true =>
              refine q_RT_cT ?_
              show q_RT _ _ _ (67, [(0, .ref 64), (1, .int a1)], [.int 1, .int 0, .ref 79], (q_kM (q_sA r9 15 (upd (r9.1 15) 1 (vp_nar .boolean 1))) c n)) _ _
              generalize (q_sA r9 15 (upd (r9.1 15) 1 (vp_nar .boolean 1))) = r11
              refine q_RT_let ?_
              show q_RT _ _ _ (67, [(0, .ref 64), (1, .int a1)], [.int 1, .int 0, .ref 79], (q_kM r11 c n)) _ _
              refine q_RT_seg (g2 := (68, [(0, .ref 64), (1, .int a1)], [], (q_kM (q_sA r11 15 (upd (r11.1 15) 0 (vp_nar .boolean 1))) c n))) 1 (fun _ _ => rfl) ?_
              exact q_RT_ret rfl rfl rfl
            | false =>
              refine q_RT_cF ?_
              show q_RT _ _ _ (67, [(0, .ref 64), (1, .int a1)], [.int 0, .int 0, .ref 79], (q_kM (q_sA r9 15 (upd (r9.1 15) 1 (vp_nar .boolean 1))) c n)) _ _
              generalize (q_sA r9 15 (upd (r9.1 15) 1 (vp_nar .boolean 1))) = r12
              refine q_RT_let ?_
              show q_RT _ _ _ (67, [(0, .ref 64), (1, .int a1)], [.int 0, .int 0, .ref 79], (q_kM r12 c n)) _ _
              refine q_RT_seg (g2 := (68, [(0, .ref 64), (1, .int a1)], [], (q_kM (q_sA r12 15 (upd (r12.1 15) 0 (vp_nar .boolean 0))) c n))) 1 (fun _ _ => rfl) ?_
              exact q_RT_ret rfl rfl rfl
          | false =>
            refine q_RT_cF ?_
            show q_RT _ _ _ (55, [(0, .ref 64), (1, .int a1)], [.int 0, .int 1, .ref 79], (q_kM (q_sA r7 15 (upd (r7.1 15) 2 (vp_nar .boolean 1))) c n)) _ _
            generalize (q_sA r7 15 (upd (r7.1 15) 2 (vp_nar .boolean 1))) = r13
            refine q_RT_let ?_
            show q_RT _ _ _ (55, [(0, .ref 64), (1, .int a1)], [.int 0, .int 1, .ref 79], (q_kM r13 c n)) _ _
            refine q_RT_seg (g2 := (64, [(0, .ref 64), (1, .int a1)], [.int 7, .int a1, .int 0, .ref 79], (q_kM (q_sA r13 15 (upd (r13.1 15) 1 (vp_nar .boolean 0))) c n))) 6 (fun _ _ => rfl) ?_
            refine q_RT_call (v := (some (.int (q_b (dz_M206 (q_sA r13 15 (upd (r13.1 15) 1 (vp_nar .boolean 0))) a1 7))))) (h2 := (q_kM (q_sA r13 15 (upd (r13.1 15) 1 (vp_nar .boolean 0))) c n)) rfl rfl ((dzt_M206 (q_sA r13 15 (upd (r13.1 15) 1 (vp_nar .boolean 0))) c n a1 7).le (Nat.le_of_ble_eq_true rfl)) ?_
            generalize dz_M206 (q_sA r13 15 (upd (r13.1 15) 1 (vp_nar .boolean 0))) a1 7 = r14
            refine q_RT_let ?_
            show q_RT _ _ _ (67, [(0, .ref 64), (1, .int a1)], [.int (q_b r14), .int 0, .ref 79], (q_kM (q_sA r13 15 (upd (r13.1 15) 1 (vp_nar .boolean 0))) c n)) _ _
            cases h7 : r14 with
            | true =>
              refine q_RT_cT ?_
              show q_RT _ _ _ (67, [(0, .ref 64), (1, .int a1)], [.int 1, .int 0, .ref 79], (q_kM (q_sA r13 15 (upd (r13.1 15) 1 (vp_nar .boolean 0))) c n)) _ _
              generalize (q_sA r13 15 (upd (r13.1 15) 1 (vp_nar .boolean 0))) = r15
              refine q_RT_let ?_
              show q_RT _ _ _ (67, [(0, .ref 64), (1, .int a1)], [.int 1, .int 0, .ref 79], (q_kM r15 c n)) _ _
              refine q_RT_seg (g2 := (68, [(0, .ref 64), (1, .int a1)], [], (q_kM (q_sA r15 15 (upd (r15.1 15) 0 (vp_nar .boolean 1))) c n))) 1 (fun _ _ => rfl) ?_
              exact q_RT_ret rfl rfl rfl
            | false =>
              refine q_RT_cF ?_
              show q_RT _ _ _ (67, [(0, .ref 64), (1, .int a1)], [.int 0, .int 0, .ref 79], (q_kM (q_sA r13 15 (upd (r13.1 15) 1 (vp_nar .boolean 0))) c n)) _ _
              generalize (q_sA r13 15 (upd (r13.1 15) 1 (vp_nar .boolean 0))) = r16
              refine q_RT_let ?_
              show q_RT _ _ _ (67, [(0, .ref 64), (1, .int a1)], [.int 0, .int 0, .ref 79], (q_kM r16 c n)) _ _
              refine q_RT_seg (g2 := (68, [(0, .ref 64), (1, .int a1)], [], (q_kM (q_sA r16 15 (upd (r16.1 15) 0 (vp_nar .boolean 0))) c n))) 1 (fun _ _ => rfl) ?_
              exact q_RT_ret rfl rfl rfl
        | false =>
          refine q_RT_cF ?_
          show q_RT _ _ _ (43, [(0, .ref 64), (1, .int a1)], [.int 0, .int 2, .ref 79], (q_kM (q_sA r5 15 (upd (r5.1 15) 3 (vp_nar .boolean 1))) c n)) _ _
          generalize (q_sA r5 15 (upd (r5.1 15) 3 (vp_nar .boolean 1))) = r17
          refine q_RT_let ?_
          show q_RT _ _ _ (43, [(0, .ref 64), (1, .int a1)], [.int 0, .int 2, .ref 79], (q_kM r17 c n)) _ _
          refine q_RT_seg (g2 := (52, [(0, .ref 64), (1, .int a1)], [.int 6, .int a1, .int 1, .ref 79], (q_kM (q_sA r17 15 (upd (r17.1 15) 2 (vp_nar .boolean 0))) c n))) 6 (fun _ _ => rfl) ?_
          refine q_RT_call (v := (some (.int (q_b (dz_M206 (q_sA r17 15 (upd (r17.1 15) 2 (vp_nar .boolean 0))) a1 6))))) (h2 := (q_kM (q_sA r17 15 (upd (r17.1 15) 2 (vp_nar .boolean 0))) c n)) rfl rfl ((dzt_M206 (q_sA r17 15 (upd (r17.1 15) 2 (vp_nar .boolean 0))) c n a1 6).le (Nat.le_of_ble_eq_true rfl)) ?_
          generalize dz_M206 (q_sA r17 15 (upd (r17.1 15) 2 (vp_nar .boolean 0))) a1 6 = r18
          refine q_RT_let ?_
          show q_RT _ _ _ (55, [(0, .ref 64), (1, .int a1)], [.int (q_b r18), .int 1, .ref 79], (q_kM (q_sA r17 15 (upd (r17.1 15) 2 (vp_nar .boolean 0))) c n)) _ _
          cases h8 : r18 with
          | true =>
            refine q_RT_cT ?_
            show q_RT _ _ _ (55, [(0, .ref 64), (1, .int a1)], [.int 1, .int 1, .ref 79], (q_kM (q_sA r17 15 (upd (r17.1 15) 2 (vp_nar .boolean 0))) c n)) _ _
            generalize (q_sA r17 15 (upd (r17.1 15) 2 (vp_nar .boolean 0))) = r19
            refine q_RT_let ?_
            show q_RT _ _ _ (55, [(0, .ref 64), (1, .int a1)], [.int 1, .int 1, .ref 79], (q_kM r19 c n)) _ _
            refine q_RT_seg (g2 := (64, [(0, .ref 64), (1, .int a1)], [.int 7, .int a1, .int 0, .ref 79], (q_kM (q_sA r19 15 (upd (r19.1 15) 1 (vp_nar .boolean 1))) c n))) 6 (fun _ _ => rfl) ?_
            refine q_RT_call (v := (some (.int (q_b (dz_M206 (q_sA r19 15 (upd (r19.1 15) 1 (vp_nar .boolean 1))) a1 7))))) (h2 := (q_kM (q_sA r19 15 (upd (r19.1 15) 1 (vp_nar .boolean 1))) c n)) rfl rfl ((dzt_M206 (q_sA r19 15 (upd (r19.1 15) 1 (vp_nar .boolean 1))) c n a1 7).le (Nat.le_of_ble_eq_true rfl)) ?_
            generalize dz_M206 (q_sA r19 15 (upd (r19.1 15) 1 (vp_nar .boolean 1))) a1 7 = r20
            refine q_RT_let ?_
            show q_RT _ _ _ (67, [(0, .ref 64), (1, .int a1)], [.int (q_b r20), .int 0, .ref 79], (q_kM (q_sA r19 15 (upd (r19.1 15) 1 (vp_nar .boolean 1))) c n)) _ _
            cases h9 : r20 with
            | true =>
              refine q_RT_cT ?_
              show q_RT _ _ _ (67, [(0, .ref 64), (1, .int a1)], [.int 1, .int 0, .ref 79], (q_kM (q_sA r19 15 (upd (r19.1 15) 1 (vp_nar .boolean 1))) c n)) _ _
              generalize (q_sA r19 15 (upd (r19.1 15) 1 (vp_nar .boolean 1))) = r21
              refine q_RT_let ?_
              show q_RT _ _ _ (67, [(0, .ref 64), (1, .int a1)], [.int 1, .int 0, .ref 79], (q_kM r21 c n)) _ _
              refine q_RT_seg (g2 := (68, [(0, .ref 64), (1, .int a1)], [], (q_kM (q_sA r21 15 (upd (r21.1 15) 0 (vp_nar .boolean 1))) c n))) 1 (fun _ _ => rfl) ?_
              exact q_RT_ret rfl rfl rfl
            | false =>
              refine q_RT_cF ?_
              show q_RT _ _ _ (67, [(0, .ref 64), (1, .int a1)], [.int 0, .int 0, .ref 79], (q_kM (q_sA r19 15 (upd (r19.1 15) 1 (vp_nar .boolean 1))) c n)) _ _
              generalize (q_sA r19 15 (upd (r19.1 15) 1 (vp_nar .boolean 1))) = r22
              refine q_RT_let ?_
              show q_RT _ _ _ (67, [(0, .ref 64), (1, .int a1)], [.int 0, .int 0, .ref 79], (q_kM r22 c n)) _ _
              refine q_RT_seg (g2 := (68, [(0, .ref 64), (1, .int a1)], [], (q_kM (q_sA r22 15 (upd (r22.1 15) 0 (vp_nar .boolean 0))) c n))) 1 (fun _ _ => rfl) ?_
              exact q_RT_ret rfl rfl rfl
          | false =>
            refine q_RT_cF ?_
            show q_RT _ _ _ (55, [(0, .ref 64), (1, .int a1)], [.int 0, .int 1, .ref 79], (q_kM (q_sA r17 15 (upd (r17.1 15) 2 (vp_nar .boolean 0))) c n)) _ _
            generalize (q_sA r17 15 (upd (r17.1 15) 2 (vp_nar .boolean 0))) = r23
            refine q_RT_let ?_
            show q_RT _ _ _ (55, [(0, .ref 64), (1, .int a1)], [.int 0, .int 1, .ref 79], (q_kM r23 c n)) _ _
            refine q_RT_seg (g2 := (64, [(0, .ref 64), (1, .int a1)], [.int 7, .int a1, .int 0, .ref 79], (q_kM (q_sA r23 15 (upd (r23.1 15) 1 (vp_nar .boolean 0))) c n))) 6 (fun _ _ => rfl) ?_
            refine q_RT_call (v := (some (.int (q_b (dz_M206 (q_sA r23 15 (upd (r23.1 15) 1 (vp_nar .boolean 0))) a1 7))))) (h2 := (q_kM (q_sA r23 15 (upd (r23.1 15) 1 (vp_nar .boolean 0))) c n)) rfl rfl ((dzt_M206 (q_sA r23 15 (upd (r23.1 15) 1 (vp_nar .boolean 0))) c n a1 7).le (Nat.le_of_ble_eq_true rfl)) ?_
            generalize dz_M206 (q_sA r23 15 (upd (r23.1 15) 1 (vp_nar .boolean 0))) a1 7 = r24
            refine q_RT_let ?_
            show q_RT _ _ _ (67, [(0, .ref 64), (1, .int a1)], [.int (q_b r24), .int 0, .ref 79], (q_kM (q_sA r23 15 (upd (r23.1 15) 1 (vp_nar .boolean 0))) c n)) _ _
            cases h10 : r24 with
            | true =>
              refine q_RT_cT ?_
              show q_RT _ _ _ (67, [(0, .ref 64), (1, .int a1)], [.int 1, .int 0, .ref 79], (q_kM (q_sA r23 15 (upd (r23.1 15) 1 (vp_nar .boolean 0))) c n)) _ _
              generalize (q_sA r23 15 (upd (r23.1 15) 1 (vp_nar .boolean 0))) = r25
              refine q_RT_let ?_
              show q_RT _ _ _ (67, [(0, .ref 64), (1, .int a1)], [.int 1, .int 0, .ref 79], (q_kM r25 c n)) _ _
              refine q_RT_seg (g2 := (68, [(0, .ref 64), (1, .int a1)], [], (q_kM (q_sA r25 15 (upd (r25.1 15) 0 (vp_nar .boolean 1))) c n))) 1 (fun _ _ => rfl) ?_
              exact q_RT_ret rfl rfl rfl
            | false =>
              refine q_RT_cF ?_
              show q_RT _ _ _ (67, [(0, .ref 64), (1, .int a1)], [.int 0, .int 0, .ref 79], (q_kM (q_sA r23 15 (upd (r23.1 15) 1 (vp_nar .boolean 0))) c n)) _ _
              generalize (q_sA r23 15 (upd (r23.1 15) 1 (vp_nar .boolean 0))) = r26
              refine q_RT_let ?_
              show q_RT _ _ _ (67, [(0, .ref 64), (1, .int a1)], [.int 0, .int 0, .ref 79], (q_kM r26 c n)) _ _
              refine q_RT_seg (g2 := (68, [(0, .ref 64), (1, .int a1)], [], (q_kM (q_sA r26 15 (upd (r26.1 15) 0 (vp_nar .boolean 0))) c n))) 1 (fun _ _ => rfl) ?_
              exact q_RT_ret rfl rfl rfl
      | false =>
        refine q_RT_cF ?_
        show q_RT _ _ _ (32, [(0, .ref 64), (1, .int a1)], [.int 0, .int 3, .ref 79], (q_kM (q_sA r3 15 (upd (r3.1 15) 4 (vp_nar .boolean 1))) c n)) _ _
        generalize (q_sA r3 15 (upd (r3.1 15) 4 (vp_nar .boolean 1))) = r27
        refine q_RT_let ?_
        show q_RT _ _ _ (32, [(0, .ref 64), (1, .int a1)], [.int 0, .int 3, .ref 79], (q_kM r27 c n)) _ _
        refine q_RT_seg (g2 := (40, [(0, .ref 64), (1, .int a1)], [.int 3, .int a1, .int 2, .ref 79], (q_kM (q_sA r27 15 (upd (r27.1 15) 3 (vp_nar .boolean 0))) c n))) 6 (fun _ _ => rfl) ?_
        refine q_RT_call (v := (some (.int (q_b (dz_M206 (q_sA r27 15 (upd (r27.1 15) 3 (vp_nar .boolean 0))) a1 3))))) (h2 := (q_kM (q_sA r27 15 (upd (r27.1 15) 3 (vp_nar .boolean 0))) c n)) rfl rfl ((dzt_M206 (q_sA r27 15 (upd (r27.1 15) 3 (vp_nar .boolean 0))) c n a1 3).le (Nat.le_of_ble_eq_true rfl)) ?_
        generalize dz_M206 (q_sA r27 15 (upd (r27.1 15) 3 (vp_nar .boolean 0))) a1 3 = r28
        refine q_RT_let ?_
        show q_RT _ _ _ (43, [(0, .ref 64), (1, .int a1)], [.int (q_b r28), .int 2, .ref 79], (q_kM (q_sA r27 15 (upd (r27.1 15) 3 (vp_nar .boolean 0))) c n)) _ _
        cases h11 : r28 with
        | true =>
          refine q_RT_cT ?_
          show q_RT _ _ _ (43, [(0, .ref 64), (1, .int a1)], [.int 1, .int 2, .ref 79], (q_kM (q_sA r27 15 (upd (r27.1 15) 3 (vp_nar .boolean 0))) c n)) _ _
          generalize (q_sA r27 15 (upd (r27.1 15) 3 (vp_nar .boolean 0))) = r29
          refine q_RT_let ?_
          show q_RT _ _ _ (43, [(0, .ref 64), (1, .int a1)], [.int 1, .int 2, .ref 79], (q_kM r29 c n)) _ _
          refine q_RT_seg (g2 := (52, [(0, .ref 64), (1, .int a1)], [.int 6, .int a1, .int 1, .ref 79], (q_kM (q_sA r29 15 (upd (r29.1 15) 2 (vp_nar .boolean 1))) c n))) 6 (fun _ _ => rfl) ?_
          refine q_RT_call (v := (some (.int (q_b (dz_M206 (q_sA r29 15 (upd (r29.1 15) 2 (vp_nar .boolean 1))) a1 6))))) (h2 := (q_kM (q_sA r29 15 (upd (r29.1 15) 2 (vp_nar .boolean 1))) c n)) rfl rfl ((dzt_M206 (q_sA r29 15 (upd (r29.1 15) 2 (vp_nar .boolean 1))) c n a1 6).le (Nat.le_of_ble_eq_true rfl)) ?_
          generalize dz_M206 (q_sA r29 15 (upd (r29.1 15) 2 (vp_nar .boolean 1))) a1 6 = r30
          refine q_RT_let ?_
          show q_RT _ _ _ (55, [(0, .ref 64), (1, .int a1)], [.int (q_b r30), .int 1, .ref 79], (q_kM (q_sA r29 15 (upd (r29.1 15) 2 (vp_nar .boolean 1))) c n)) _ _
          cases h12 : r30 with
          | true =>
            refine q_RT_cT ?_
            show q_RT _ _ _ (55, [(0, .ref 64), (1, .int a1)], [.int 1, .int 1, .ref 79], (q_kM (q_sA r29 15 (upd (r29.1 15) 2 (vp_nar .boolean 1))) c n)) _ _
            generalize (q_sA r29 15 (upd (r29.1 15) 2 (vp_nar .boolean 1))) = r31
            refine q_RT_let ?_
            show q_RT _ _ _ (55, [(0, .ref 64), (1, .int a1)], [.int 1, .int 1, .ref 79], (q_kM r31 c n)) _ _
            refine q_RT_seg (g2 := (64, [(0, .ref 64), (1, .int a1)], [.int 7, .int a1, .int 0, .ref 79], (q_kM (q_sA r31 15 (upd (r31.1 15) 1 (vp_nar .boolean 1))) c n))) 6 (fun _ _ => rfl) ?_
            refine q_RT_call (v := (some (.int (q_b (dz_M206 (q_sA r31 15 (upd (r31.1 15) 1 (vp_nar .boolean 1))) a1 7))))) (h2 := (q_kM (q_sA r31 15 (upd (r31.1 15) 1 (vp_nar .boolean 1))) c n)) rfl rfl ((dzt_M206 (q_sA r31 15 (upd (r31.1 15) 1 (vp_nar .boolean 1))) c n a1 7).le (Nat.le_of_ble_eq_true rfl)) ?_
            generalize dz_M206 (q_sA r31 15 (upd (r31.1 15) 1 (vp_nar .boolean 1))) a1 7 = r32
            refine q_RT_let ?_
            show q_RT _ _ _ (67, [(0, .ref 64), (1, .int a1)], [.int (q_b r32), .int 0, .ref 79], (q_kM (q_sA r31 15 (upd (r31.1 15) 1 (vp_nar .boolean 1))) c n)) _ _
            cases h13 : r32 with
            | true =>
              refine q_RT_cT ?_
              show q_RT _ _ _ (67, [(0, .ref 64), (1, .int a1)], [.int 1, .int 0, .ref 79], (q_kM (q_sA r31 15 (upd (r31.1 15) 1 (vp_nar .boolean 1))) c n)) _ _
              generalize (q_sA r31 15 (upd (r31.1 15) 1 (vp_nar .boolean 1))) = r33
              refine q_RT_let ?_
              show q_RT _ _ _ (67, [(0, .ref 64), (1, .int a1)], [.int 1, .int 0, .ref 79], (q_kM r33 c n)) _ _
              refine q_RT_seg (g2 := (68, [(0, .ref 64), (1, .int a1)], [], (q_kM (q_sA r33 15 (upd (r33.1 15) 0 (vp_nar .boolean 1))) c n))) 1 (fun _ _ => rfl) ?_
              exact q_RT_ret rfl rfl rfl
            | false =>
              refine q_RT_cF ?_
              show q_RT _ _ _ (67, [(0, .ref 64), (1, .int a1)], [.int 0, .int 0, .ref 79], (q_kM (q_sA r31 15 (upd (r31.1 15) 1 (vp_nar .boolean 1))) c n)) _ _
              generalize (q_sA r31 15 (upd (r31.1 15) 1 (vp_nar .boolean 1))) = r34
              refine q_RT_let ?_
              show q_RT _ _ _ (67, [(0, .ref 64), (1, .int a1)], [.int 0, .int 0, .ref 79], (q_kM r34 c n)) _ _
              refine q_RT_seg (g2 := (68, [(0, .ref 64), (1, .int a1)], [], (q_kM (q_sA r34 15 (upd (r34.1 15) 0 (vp_nar .boolean 0))) c n))) 1 (fun _ _ => rfl) ?_
              exact q_RT_ret rfl rfl rfl
          | false =>
            refine q_RT_cF ?_
            show q_RT _ _ _ (55, [(0, .ref 64), (1, .int a1)], [.int 0, .int 1, .ref 79], (q_kM (q_sA r29 15 (upd (r29.1 15) 2 (vp_nar .boolean 1))) c n)) _ _
            generalize (q_sA r29 15 (upd (r29.1 15) 2 (vp_nar .boolean 1))) = r35
            refine q_RT_let ?_
            show q_RT _ _ _ (55, [(0, .ref 64), (1, .int a1)], [.int 0, .int 1, .ref 79], (q_kM r35 c n)) _ _
            refine q_RT_seg (g2 := (64, [(0, .ref 64), (1, .int a1)], [.int 7, .int a1, .int 0, .ref 79], (q_kM (q_sA r35 15 (upd (r35.1 15) 1 (vp_nar .boolean 0))) c n))) 6 (fun _ _ => rfl) ?_
            refine q_RT_call (v := (some (.int (q_b (dz_M206 (q_sA r35 15 (upd (r35.1 15) 1 (vp_nar .boolean 0))) a1 7))))) (h2 := (q_kM (q_sA r35 15 (upd (r35.1 15) 1 (vp_nar .boolean 0))) c n)) rfl rfl ((dzt_M206 (q_sA r35 15 (upd (r35.1 15) 1 (vp_nar .boolean 0))) c n a1 7).le (Nat.le_of_ble_eq_true rfl)) ?_
            generalize dz_M206 (q_sA r35 15 (upd (r35.1 15) 1 (vp_nar .boolean 0))) a1 7 = r36
            refine q_RT_let ?_
            show q_RT _ _ _ (67, [(0, .ref 64), (1, .int a1)], [.int (q_b r36), .int 0, .ref 79], (q_kM (q_sA r35 15 (upd (r35.1 15) 1 (vp_nar .boolean 0))) c n)) _ _
            cases h14 : r36 with
            | true =>
              refine q_RT_cT ?_
              show q_RT _ _ _ (67, [(0, .ref 64), (1, .int a1)], [.int 1, .int 0, .ref 79], (q_kM (q_sA r35 15 (upd (r35.1 15) 1 (vp_nar .boolean 0))) c n)) _ _
              generalize (q_sA r35 15 (upd (r35.1 15) 1 (vp_nar .boolean 0))) = r37
              refine q_RT_let ?_
              show q_RT _ _ _ (67, [(0, .ref 64), (1, .int a1)], [.int 1, .int 0, .ref 79], (q_kM r37 c n)) _ _
              refine q_RT_seg (g2 := (68, [(0, .ref 64), (1, .int a1)], [], (q_kM (q_sA r37 15 (upd (r37.1 15) 0 (vp_nar .boolean 1))) c n))) 1 (fun _ _ => rfl) ?_
              exact q_RT_ret rfl rfl rfl
            | false =>
              refine q_RT_cF ?_
              show q_RT _ _ _ (67, [(0, .ref 64), (1, .int a1)], [.int 0, .int 0, .ref 79], (q_kM (q_sA r35 15 (upd (r35.1 15) 1 (vp_nar .boolean 0))) c n)) _ _
              generalize (q_sA r35 15 (upd (r35.1 15) 1 (vp_nar .boolean 0))) = r38
              refine q_RT_let ?_
              show q_RT _ _ _ (67, [(0, .ref 64), (1, .int a1)], [.int 0, .int 0, .ref 79], (q_kM r38 c n)) _ _
              refine q_RT_seg (g2 := (68, [(0, .ref 64), (1, .int a1)], [], (q_kM (q_sA r38 15 (upd (r38.1 15) 0 (vp_nar .boolean 0))) c n))) 1 (fun _ _ => rfl) ?_
              exact q_RT_ret rfl rfl rfl
        | false =>
          refine q_RT_cF ?_
          show q_RT _ _ _ (43, [(0, .ref 64), (1, .int a1)], [.int 0, .int 2, .ref 79], (q_kM (q_sA r27 15 (upd (r27.1 15) 3 (vp_nar .boolean 0))) c n)) _ _
          generalize (q_sA r27 15 (upd (r27.1 15) 3 (vp_nar .boolean 0))) = r39
          refine q_RT_let ?_
          show q_RT _ _ _ (43, [(0, .ref 64), (1, .int a1)], [.int 0, .int 2, .ref 79], (q_kM r39 c n)) _ _
          refine q_RT_seg (g2 := (52, [(0, .ref 64), (1, .int a1)], [.int 6, .int a1, .int 1, .ref 79], (q_kM (q_sA r39 15 (upd (r39.1 15) 2 (vp_nar .boolean 0))) c n))) 6 (fun _ _ => rfl) ?_
          refine q_RT_call (v := (some (.int (q_b (dz_M206 (q_sA r39 15 (upd (r39.1 15) 2 (vp_nar .boolean 0))) a1 6))))) (h2 := (q_kM (q_sA r39 15 (upd (r39.1 15) 2 (vp_nar .boolean 0))) c n)) rfl rfl ((dzt_M206 (q_sA r39 15 (upd (r39.1 15) 2 (vp_nar .boolean 0))) c n a1 6).le (Nat.le_of_ble_eq_true rfl)) ?_
          generalize dz_M206 (q_sA r39 15 (upd (r39.1 15) 2 (vp_nar .boolean 0))) a1 6 = r40
          refine q_RT_let ?_
          show q_RT _ _ _ (55, [(0, .ref 64), (1, .int a1)], [.int (q_b r40), .int 1, .ref 79], (q_kM (q_sA r39 15 (upd (r39.1 15) 2 (vp_nar .boolean 0))) c n)) _ _
          cases h15 : r40 with
          | true =>
            refine q_RT_cT ?_
            show q_RT _ _ _ (55, [(0, .ref 64), (1, .int a1)], [.int 1, .int 1, .ref 79], (q_kM (q_sA r39 15 (upd (r39.1 15) 2 (vp_nar .boolean 0))) c n)) _ _
            generalize (q_sA r39 15 (upd (r39.1 15) 2 (vp_nar .boolean 0))) = r41
            refine q_RT_let ?_
            show q_RT _ _ _ (55, [(0, .ref 64), (1, .int a1)], [.int 1, .int 1, .ref 79], (q_kM r41 c n)) _ _
            refine q_RT_seg (g2 := (64, [(0, .ref 64), (1, .int a1)], [.int 7, .int a1, .int 0, .ref 79], (q_kM (q_sA r41 15 (upd (r41.1 15) 1 (vp_nar .boolean 1))) c n))) 6 (fun _ _ => rfl) ?_
            refine q_RT_call (v := (some (.int (q_b (dz_M206 (q_sA r41 15 (upd (r41.1 15) 1 (vp_nar .boolean 1))) a1 7))))) (h2 := (q_kM (q_sA r41 15 (upd (r41.1 15) 1 (vp_nar .boolean 1))) c n)) rfl rfl ((dzt_M206 (q_sA r41 15 (upd (r41.1 15) 1 (vp_nar .boolean 1))) c n a1 7).le (Nat.le_of_ble_eq_true rfl)) ?_
            generalize dz_M206 (q_sA r41 15 (upd (r41.1 15) 1 (vp_nar .boolean 1))) a1 7 = r42
            refine q_RT_let ?_
            show q_RT _ _ _ (67, [(0, .ref 64), (1, .int a1)], [.int (q_b r42), .int 0, .ref 79], (q_kM (q_sA r41 15 (upd (r41.1 15) 1 (vp_nar .boolean 1))) c n)) _ _
            cases h16 : r42 with
            | true =>
              refine q_RT_cT ?_
              show q_RT _ _ _ (67, [(0, .ref 64), (1, .int a1)], [.int 1, .int 0, .ref 79], (q_kM (q_sA r41 15 (upd (r41.1 15) 1 (vp_nar .boolean 1))) c n)) _ _
              generalize (q_sA r41 15 (upd (r41.1 15) 1 (vp_nar .boolean 1))) = r43
              refine q_RT_let ?_
              show q_RT _ _ _ (67, [(0, .ref 64), (1, .int a1)], [.int 1, .int 0, .ref 79], (q_kM r43 c n)) _ _
              refine q_RT_seg (g2 := (68, [(0, .ref 64), (1, .int a1)], [], (q_kM (q_sA r43 15 (upd (r43.1 15) 0 (vp_nar .boolean 1))) c n))) 1 (fun _ _ => rfl) ?_
              exact q_RT_ret rfl rfl rfl
            | false =>
              refine q_RT_cF ?_
              show q_RT _ _ _ (67, [(0, .ref 64), (1, .int a1)], [.int 0, .int 0, .ref 79], (q_kM (q_sA r41 15 (upd (r41.1 15) 1 (vp_nar .boolean 1))) c n)) _ _
              generalize (q_sA r41 15 (upd (r41.1 15) 1 (vp_nar .boolean 1))) = r44
              refine q_RT_let ?_
              show q_RT _ _ _ (67, [(0, .ref 64), (1, .int a1)], [.int 0, .int 0, .ref 79], (q_kM r44 c n)) _ _
              refine q_RT_seg (g2 := (68, [(0, .ref 64), (1, .int a1)], [], (q_kM (q_sA r44 15 (upd (r44.1 15) 0 (vp_nar .boolean 0))) c n))) 1 (fun _ _ => rfl) ?_
              exact q_RT_ret rfl rfl rfl
          | false =>
            refine q_RT_cF ?_
            show q_RT _ _ _ (55, [(0, .ref 64), (1, .int a1)], [.int 0, .int 1, .ref 79], (q_kM (q_sA r39 15 (upd (r39.1 15) 2 (vp_nar .boolean 0))) c n)) _ _
            generalize (q_sA r39 15 (upd (r39.1 15) 2 (vp_nar .boolean 0))) = r45
            refine q_RT_let ?_
            show q_RT _ _ _ (55, [(0, .ref 64), (1, .int a1)], [.int 0, .int 1, .ref 79], (q_kM r45 c n)) _ _
            refine q_RT_seg (g2 := (64, [(0, .ref 64), (1, .int a1)], [.int 7, .int a1, .int 0, .ref 79], (q_kM (q_sA r45 15 (upd (r45.1 15) 1 (vp_nar .boolean 0))) c n))) 6 (fun _ _ => rfl) ?_
            refine q_RT_call (v := (some (.int (q_b (dz_M206 (q_sA r45 15 (upd (r45.1 15) 1 (vp_nar .boolean 0))) a1 7))))) (h2 := (q_kM (q_sA r45 15 (upd (r45.1 15) 1 (vp_nar .boolean 0))) c n)) rfl rfl ((dzt_M206 (q_sA r45 15 (upd (r45.1 15) 1 (vp_nar .boolean 0))) c n a1 7).le (Nat.le_of_ble_eq_true rfl)) ?_
            generalize dz_M206 (q_sA r45 15 (upd (r45.1 15) 1 (vp_nar .boolean 0))) a1 7 = r46
            refine q_RT_let ?_
            show q_RT _ _ _ (67, [(0, .ref 64), (1, .int a1)], [.int (q_b r46), .int 0, .ref 79], (q_kM (q_sA r45 15 (upd (r45.1 15) 1 (vp_nar .boolean 0))) c n)) _ _
            cases h17 : r46 with
            | true =>
              refine q_RT_cT ?_
              show q_RT _ _ _ (67, [(0, .ref 64), (1, .int a1)], [.int 1, .int 0, .ref 79], (q_kM (q_sA r45 15 (upd (r45.1 15) 1 (vp_nar .boolean 0))) c n)) _ _
              generalize (q_sA r45 15 (upd (r45.1 15) 1 (vp_nar .boolean 0))) = r47
              refine q_RT_let ?_
              show q_RT _ _ _ (67, [(0, .ref 64), (1, .int a1)], [.int 1, .int 0, .ref 79], (q_kM r47 c n)) _ _
              refine q_RT_seg (g2 := (68, [(0, .ref 64), (1, .int a1)], [], (q_kM (q_sA r47 15 (upd (r47.1 15) 0 (vp_nar .boolean 1))) c n))) 1 (fun _ _ => rfl) ?_
              exact q_RT_ret rfl rfl rfl
            | false =>
              refine q_RT_cF ?_
              show q_RT _ _ _ (67, [(0, .ref 64), (1, .int a1)], [.int 0, .int 0, .ref 79], (q_kM (q_sA r45 15 (upd (r45.1 15) 1 (vp_nar .boolean 0))) c n)) _ _
              generalize (q_sA r45 15 (upd (r45.1 15) 1 (vp_nar .boolean 0))) = r48
              refine q_RT_let ?_
              show q_RT _ _ _ (67, [(0, .ref 64), (1, .int a1)], [.int 0, .int 0, .ref 79], (q_kM r48 c n)) _ _
              refine q_RT_seg (g2 := (68, [(0, .ref 64), (1, .int a1)], [], (q_kM (q_sA r48 15 (upd (r48.1 15) 0 (vp_nar .boolean 0))) c n))) 1 (fun _ _ => rfl) ?_
              exact q_RT_ret rfl rfl rfl
    | false =>
      refine q_RT_cF ?_
      show q_RT _ _ _ (21, [(0, .ref 64), (1, .int a1)], [.int 0, .int 4, .ref 79], (q_kM (q_sA s 15 (upd (s.1 15) 5 (vp_nar .boolean 1))) c n)) _ _
      generalize (q_sA s 15 (upd (s.1 15) 5 (vp_nar .boolean 1))) = r49
      refine q_RT_let ?_
      show q_RT _ _ _ (21, [(0, .ref 64), (1, .int a1)], [.int 0, .int 4, .ref 79], (q_kM r49 c n)) _ _
      refine q_RT_seg (g2 := (29, [(0, .ref 64), (1, .int a1)], [.int 2, .int a1, .int 3, .ref 79], (q_kM (q_sA r49 15 (upd (r49.1 15) 4 (vp_nar .boolean 0))) c n))) 6 (fun _ _ => rfl) ?_
      refine q_RT_call (v := (some (.int (q_b (dz_M206 (q_sA r49 15 (upd (r49.1 15) 4 (vp_nar .boolean 0))) a1 2))))) (h2 := (q_kM (q_sA r49 15 (upd (r49.1 15) 4 (vp_nar .boolean 0))) c n)) rfl rfl ((dzt_M206 (q_sA r49 15 (upd (r49.1 15) 4 (vp_nar .boolean 0))) c n a1 2).le (Nat.le_of_ble_eq_true rfl)) ?_
      generalize dz_M206 (q_sA r49 15 (upd (r49.1 15) 4 (vp_nar .boolean 0))) a1 2 = r50
      refine q_RT_let ?_
      show q_RT _ _ _ (32, [(0, .ref 64), (1, .int a1)], [.int (q_b r50), .int 3, .ref 79], (q_kM (q_sA r49 15 (upd (r49.1 15) 4 (vp_nar .boolean 0))) c n)) _ _
      cases h18 : r50 with
      | true =>
        refine q_RT_cT ?_
        show q_RT _ _ _ (32, [(0, .ref 64), (1, .int a1)], [.int 1, .int 3, .ref 79], (q_kM (q_sA r49 15 (upd (r49.1 15) 4 (vp_nar .boolean 0))) c n)) _ _
        generalize (q_sA r49 15 (upd (r49.1 15) 4 (vp_nar .boolean 0))) = r51
        refine q_RT_let ?_
        show q_RT _ _ _ (32, [(0, .ref 64), (1, .int a1)], [.int 1, .int 3, .ref 79], (q_kM r51 c n)) _ _
        refine q_RT_seg (g2 := (40, [(0, .ref 64), (1, .int a1)], [.int 3, .int a1, .int 2, .ref 79], (q_kM (q_sA r51 15 (upd (r51.1 15) 3 (vp_nar .boolean 1))) c n))) 6 (fun _ _ => rfl) ?_
        refine q_RT_call (v := (some (.int (q_b (dz_M206 (q_sA r51 15 (upd (r51.1 15) 3 (vp_nar .boolean 1))) a1 3))))) (h2 := (q_kM (q_sA r51 15 (upd (r51.1 15) 3 (vp_nar .boolean 1))) c n)) rfl rfl ((dzt_M206 (q_sA r51 15 (upd (r51.1 15) 3 (vp_nar .boolean 1))) c n a1 3).le (Nat.le_of_ble_eq_true rfl)) ?_
        generalize dz_M206 (q_sA r51 15 (upd (r51.1 15) 3 (vp_nar .boolean 1))) a1 3 = r52
        refine q_RT_let ?_
        show q_RT _ _ _ (43, [(0, .ref 64), (1, .int a1)], [.int (q_b r52), .int 2, .ref 79], (q_kM (q_sA r51 15 (upd (r51.1 15) 3 (vp_nar .boolean 1))) c n)) _ _
        cases h19 : r52 with
        | true =>
          refine q_RT_cT ?_
          show q_RT _ _ _ (43, [(0, .ref 64), (1, .int a1)], [.int 1, .int 2, .ref 79], (q_kM (q_sA r51 15 (upd (r51.1 15) 3 (vp_nar .boolean 1))) c n)) _ _
          generalize (q_sA r51 15 (upd (r51.1 15) 3 (vp_nar .boolean 1))) = r53
          refine q_RT_let ?_
          show q_RT _ _ _ (43, [(0, .ref 64), (1, .int a1)], [.int 1, .int 2, .ref 79], (q_kM r53 c n)) _ _
          refine q_RT_seg (g2 := (52, [(0, .ref 64), (1, .int a1)], [.int 6, .int a1, .int 1, .ref 79], (q_kM (q_sA r53 15 (upd (r53.1 15) 2 (vp_nar .boolean 1))) c n))) 6 (fun _ _ => rfl) ?_
          refine q_RT_call (v := (some (.int (q_b (dz_M206 (q_sA r53 15 (upd (r53.1 15) 2 (vp_nar .boolean 1))) a1 6))))) (h2 := (q_kM (q_sA r53 15 (upd (r53.1 15) 2 (vp_nar .boolean 1))) c n)) rfl rfl ((dzt_M206 (q_sA r53 15 (upd (r53.1 15) 2 (vp_nar .boolean 1))) c n a1 6).le (Nat.le_of_ble_eq_true rfl)) ?_
          generalize dz_M206 (q_sA r53 15 (upd (r53.1 15) 2 (vp_nar .boolean 1))) a1 6 = r54
          refine q_RT_let ?_
          show q_RT _ _ _ (55, [(0, .ref 64), (1, .int a1)], [.int (q_b r54), .int 1, .ref 79], (q_kM (q_sA r53 15 (upd (r53.1 15) 2 (vp_nar .boolean 1))) c n)) _ _
          cases h20 : r54 with
          | true =>
            refine q_RT_cT ?_
            show q_RT _ _ _ (55, [(0, .ref 64), (1, .int a1)], [.int 1, .int 1, .ref 79], (q_kM (q_sA r53 15 (upd (r53.1 15) 2 (vp_nar .boolean 1))) c n)) _ _
            generalize (q_sA r53 15 (upd (r53.1 15) 2 (vp_nar .boolean 1))) = r55
            refine q_RT_let ?_
            show q_RT _ _ _ (55, [(0, .ref 64), (1, .int a1)], [.int 1, .int 1, .ref 79], (q_kM r55 c n)) _ _
            refine q_RT_seg (g2 := (64, [(0, .ref 64), (1, .int a1)], [.int 7, .int a1, .int 0, .ref 79], (q_kM (q_sA r55 15 (upd (r55.1 15) 1 (vp_nar .boolean 1))) c n))) 6 (fun _ _ => rfl) ?_
            refine q_RT_call (v := (some (.int (q_b (dz_M206 (q_sA r55 15 (upd (r55.1 15) 1 (vp_nar .boolean 1))) a1 7))))) (h2 := (q_kM (q_sA r55 15 (upd (r55.1 15) 1 (vp_nar .boolean 1))) c n)) rfl rfl ((dzt_M206 (q_sA r55 15 (upd (r55.1 15) 1 (vp_nar .boolean 1))) c n a1 7).le (Nat.le_of_ble_eq_true rfl)) ?_
            generalize dz_M206 (q_sA r55 15 (upd (r55.1 15) 1 (vp_nar .boolean 1))) a1 7 = r56
            refine q_RT_let ?_
            show q_RT _ _ _ (67, [(0, .ref 64), (1, .int a1)], [.int (q_b r56), .int 0, .ref 79], (q_kM (q_sA r55 15 (upd (r55.1 15) 1 (vp_nar .boolean 1))) c n)) _ _
            cases h21 : r56 with
            | true =>
              refine q_RT_cT ?_
              show q_RT _ _ _ (67, [(0, .ref 64), (1, .int a1)], [.int 1, .int 0, .ref 79], (q_kM (q_sA r55 15 (upd (r55.1 15) 1 (vp_nar .boolean 1))) c n)) _ _
              generalize (q_sA r55 15 (upd (r55.1 15) 1 (vp_nar .boolean 1))) = r57
              refine q_RT_let ?_
              show q_RT _ _ _ (67, [(0, .ref 64), (1, .int a1)], [.int 1, .int 0, .ref 79], (q_kM r57 c n)) _ _
              refine q_RT_seg (g2 := (68, [(0, .ref 64), (1, .int a1)], [], (q_kM (q_sA r57 15 (upd (r57.1 15) 0 (vp_nar .boolean 1))) c n))) 1 (fun _ _ => rfl) ?_
              exact q_RT_ret rfl rfl rfl
            | false =>
              refine q_RT_cF ?_
              show q_RT _ _ _ (67, [(0, .ref 64), (1, .int a1)], [.int 0, .int 0, .ref 79], (q_kM (q_sA r55 15 (upd (r55.1 15) 1 (vp_nar .boolean 1))) c n)) _ _
              generalize (q_sA r55 15 (upd (r55.1 15) 1 (vp_nar .boolean 1))) = r58
              refine q_RT_let ?_
              show q_RT _ _ _ (67, [(0, .ref 64), (1, .int a1)], [.int 0, .int 0, .ref 79], (q_kM r58 c n)) _ _
              refine q_RT_seg (g2 := (68, [(0, .ref 64), (1, .int a1)], [], (q_kM (q_sA r58 15 (upd (r58.1 15) 0 (vp_nar .boolean 0))) c n))) 1 (fun _ _ => rfl) ?_
              exact q_RT_ret rfl rfl rfl
          | false =>
            refine q_RT_cF ?_
            show q_RT _ _ _ (55, [(0, .ref 64), (1, .int a1)], [.int 0, .int 1, .ref 79], (q_kM (q_sA r53 15 (upd (r53.1 15) 2 (vp_nar .boolean 1))) c n)) _ _
            generalize (q_sA r53 15 (upd (r53.1 15) 2 (vp_nar .boolean 1))) = r59
            refine q_RT_let ?_
            show q_RT _ _ _ (55, [(0, .ref 64), (1, .int a1)], [.int 0, .int 1, .ref 79], (q_kM r59 c n)) _ _
            refine q_RT_seg (g2 := (64, [(0, .ref 64), (1, .int a1)], [.int 7, .int a1, .int 0, .ref 79], (q_kM (q_sA r59 15 (upd (r59.1 15) 1 (vp_nar .boolean 0))) c n))) 6 (fun _ _ => rfl) ?_
            refine q_RT_call (v := (some (.int (q_b (dz_M206 (q_sA r59 15 (upd (r59.1 15) 1 (vp_nar .boolean 0))) a1 7))))) (h2 := (q_kM (q_sA r59 15 (upd (r59.1 15) 1 (vp_nar .boolean 0))) c n)) rfl rfl ((dzt_M206 (q_sA r59 15 (upd (r59.1 15) 1 (vp_nar .boolean 0))) c n a1 7).le (Nat.le_of_ble_eq_true rfl)) ?_
            generalize dz_M206 (q_sA r59 15 (upd (r59.1 15) 1 (vp_nar .boolean 0))) a1 7 = r60
            refine q_RT_let ?_
            show q_RT _ _ _ (67, [(0, .ref 64), (1, .int a1)], [.int (q_b r60), .int 0, .ref 79], (q_kM (q_sA r59 15 (upd (r59.1 15) 1 (vp_nar .boolean 0))) c n)) _ _
            cases h22 : r60 with
            | true =>
              refine q_RT_cT ?_
              show q_RT _ _ _ (67, [(0, .ref 64), (1, .int a1)], [.int 1, .int 0, .ref 79], (q_kM (q_sA r59 15 (upd (r59.1 15) 1 (vp_nar .boolean 0))) c n)) _ _
              generalize (q_sA r59 15 (upd (r59.1 15) 1 (vp_nar .boolean 0))) = r61
              refine q_RT_let ?_
              show q_RT _ _ _ (67, [(0, .ref 64), (1, .int a1)], [.int 1, .int 0, .ref 79], (q_kM r61 c n)) _ _
              refine q_RT_seg (g2 := (68, [(0, .ref 64), (1, .int a1)], [], (q_kM (q_sA r61 15 (upd (r61.1 15) 0 (vp_nar .boolean 1))) c n))) 1 (fun _ _ => rfl) ?_
              exact q_RT_ret rfl rfl rfl
            | false =>
              refine q_RT_cF ?_
              show q_RT _ _ _ (67, [(0, .ref 64), (1, .int a1)], [.int 0, .int 0, .ref 79], (q_kM (q_sA r59 15 (upd (r59.1 15) 1 (vp_nar .boolean 0))) c n)) _ _
              generalize (q_sA r59 15 (upd (r59.1 15) 1 (vp_nar .boolean 0))) = r62
              refine q_RT_let ?_
              show q_RT _ _ _ (67, [(0, .ref 64), (1, .int a1)], [.int 0, .int 0, .ref 79], (q_kM r62 c n)) _ _
              refine q_RT_seg (g2 := (68, [(0, .ref 64), (1, .int a1)], [], (q_kM (q_sA r62 15 (upd (r62.1 15) 0 (vp_nar .boolean 0))) c n))) 1 (fun _ _ => rfl) ?_
              exact q_RT_ret rfl rfl rfl
        | false =>
          refine q_RT_cF ?_
          show q_RT _ _ _ (43, [(0, .ref 64), (1, .int a1)], [.int 0, .int 2, .ref 79], (q_kM (q_sA r51 15 (upd (r51.1 15) 3 (vp_nar .boolean 1))) c n)) _ _
          generalize (q_sA r51 15 (upd (r51.1 15) 3 (vp_nar .boolean 1))) = r63
          refine q_RT_let ?_
          show q_RT _ _ _ (43, [(0, .ref 64), (1, .int a1)], [.int 0, .int 2, .ref 79], (q_kM r63 c n)) _ _
          refine q_RT_seg (g2 := (52, [(0, .ref 64), (1, .int a1)], [.int 6, .int a1, .int 1, .ref 79], (q_kM (q_sA r63 15 (upd (r63.1 15) 2 (vp_nar .boolean 0))) c n))) 6 (fun _ _ => rfl) ?_
          refine q_RT_call (v := (some (.int (q_b (dz_M206 (q_sA r63 15 (upd (r63.1 15) 2 (vp_nar .boolean 0))) a1 6))))) (h2 := (q_kM (q_sA r63 15 (upd (r63.1 15) 2 (vp_nar .boolean 0))) c n)) rfl rfl ((dzt_M206 (q_sA r63 15 (upd (r63.1 15) 2 (vp_nar .boolean 0))) c n a1 6).le (Nat.le_of_ble_eq_true rfl)) ?_
          generalize dz_M206 (q_sA r63 15 (upd (r63.1 15) 2 (vp_nar .boolean 0))) a1 6 = r64
          refine q_RT_let ?_
          show q_RT _ _ _ (55, [(0, .ref 64), (1, .int a1)], [.int (q_b r64), .int 1, .ref 79], (q_kM (q_sA r63 15 (upd (r63.1 15) 2 (vp_nar .boolean 0))) c n)) _ _
          cases h23 : r64 with
          | true =>
            refine q_RT_cT ?_
            show q_RT _ _ _ (55, [(0, .ref 64), (1, .int a1)], [.int 1, .int 1, .ref 79], (q_kM (q_sA r63 15 (upd (r63.1 15) 2 (vp_nar .boolean 0))) c n)) _ _
            generalize (q_sA r63 15 (upd (r63.1 15) 2 (vp_nar .boolean 0))) = r65
            refine q_RT_let ?_
            show q_RT _ _ _ (55, [(0, .ref 64), (1, .int a1)], [.int 1, .int 1, .ref 79], (q_kM r65 c n)) _ _
            refine q_RT_seg (g2 := (64, [(0, .ref 64), (1, .int a1)], [.int 7, .int a1, .int 0, .ref 79], (q_kM (q_sA r65 15 (upd (r65.1 15) 1 (vp_nar .boolean 1))) c n))) 6 (fun _ _ => rfl) ?_
            refine q_RT_call (v := (some (.int (q_b (dz_M206 (q_sA r65 15 (upd (r65.1 15) 1 (vp_nar .boolean 1))) a1 7))))) (h2 := (q_kM (q_sA r65 15 (upd (r65.1 15) 1 (vp_nar .boolean 1))) c n)) rfl rfl ((dzt_M206 (q_sA r65 15 (upd (r65.1 15) 1 (vp_nar .boolean 1))) c n a1 7).le (Nat.le_of_ble_eq_true rfl)) ?_
            generalize dz_M206 (q_sA r65 15 (upd (r65.1 15) 1 (vp_nar .boolean 1))) a1 7 = r66
            refine q_RT_let ?_
            show q_RT _ _ _ (67, [(0, .ref 64), (1, .int a1)], [.int (q_b r66), .int 0, .ref 79], (q_kM (q_sA r65 15 (upd (r65.1 15) 1 (vp_nar .boolean 1))) c n)) _ _
            cases h24 : r66 with
            | true =>
              refine q_RT_cT ?_
              show q_RT _ _ _ (67, [(0, .ref 64), (1, .int a1)], [.int 1, .int 0, .ref 79], (q_kM (q_sA r65 15 (upd (r65.1 15) 1 (vp_nar .boolean 1))) c n)) _ _
              generalize (q_sA r65 15 (upd (r65.1 15) 1 (vp_nar .boolean 1))) = r67
              refine q_RT_let ?_
              show q_RT _ _ _ (67, [(0, .ref 64), (1, .int a1)], [.int 1, .int 0, .ref 79], (q_kM r67 c n)) _ _
              refine q_RT_seg (g2 := (68, [(0, .ref 64), (1, .int a1)], [], (q_kM (q_sA r67 15 (upd (r67.1 15) 0 (vp_nar .boolean 1))) c n))) 1 (fun _ _ => rfl) ?_
              exact q_RT_ret rfl rfl rfl
            | false =>
              refine q_RT_cF ?_
              show q_RT _ _ _ (67, [(0, .ref 64), (1, .int a1)], [.int 0, .int 0, .ref 79], (q_kM (q_sA r65 15 (upd (r65.1 15) 1 (vp_nar .boolean 1))) c n)) _ _
              generalize (q_sA r65 15 (upd (r65.1 15) 1 (vp_nar .boolean 1))) = r68
              refine q_RT_let ?_
              show q_RT _ _ _ (67, [(0, .ref 64), (1, .int a1)], [.int 0, .int 0, .ref 79], (q_kM r68 c n)) _ _
              refine q_RT_seg (g2 := (68, [(0, .ref 64), (1, .int a1)], [], (q_kM (q_sA r68 15 (upd (r68.1 15) 0 (vp_nar .boolean 0))) c n))) 1 (fun _ _ => rfl) ?_
              exact q_RT_ret rfl rfl rfl
          | false =>
            refine q_RT_cF ?_
            show q_RT _ _ _ (55, [(0, .ref 64), (1, .int a1)], [.int 0, .int 1, .ref 79], (q_kM (q_sA r63 15 (upd (r63.1 15) 2 (vp_nar .boolean 0))) c n)) _ _
            generalize (q_sA r63 15 (upd (r63.1 15) 2 (vp_nar .boolean 0))) = r69
            refine q_RT_let ?_
            show q_RT _ _ _ (55, [(0, .ref 64), (1, .int a1)], [.int 0, .int 1, .ref 79], (q_kM r69 c n)) _ _
            refine q_RT_seg (g2 := (64, [(0, .ref 64), (1, .int a1)], [.int 7, .int a1, .int 0, .ref 79], (q_kM (q_sA r69 15 (upd (r69.1 15) 1 (vp_nar .boolean 0))) c n))) 6 (fun _ _ => rfl) ?_
            refine q_RT_call (v := (some (.int (q_b (dz_M206 (q_sA r69 15 (upd (r69.1 15) 1 (vp_nar .boolean 0))) a1 7))))) (h2 := (q_kM (q_sA r69 15 (upd (r69.1 15) 1 (vp_nar .boolean 0))) c n)) rfl rfl ((dzt_M206 (q_sA r69 15 (upd (r69.1 15) 1 (vp_nar .boolean 0))) c n a1 7).le (Nat.le_of_ble_eq_true rfl)) ?_
            generalize dz_M206 (q_sA r69 15 (upd (r69.1 15) 1 (vp_nar .boolean 0))) a1 7 = r70
            refine q_RT_let ?_
            show q_RT _ _ _ (67, [(0, .ref 64), (1, .int a1)], [.int (q_b r70), .int 0, .ref 79], (q_kM (q_sA r69 15 (upd (r69.1 15) 1 (vp_nar .boolean 0))) c n)) _ _
            cases h25 : r70 with
            | true =>
              refine q_RT_cT ?_
              show q_RT _ _ _ (67, [(0, .ref 64), (1, .int a1)], [.int 1, .int 0, .ref 79], (q_kM (q_sA r69 15 (upd (r69.1 15) 1 (vp_nar .boolean 0))) c n)) _ _
              generalize (q_sA r69 15 (upd (r69.1 15) 1 (vp_nar .boolean 0))) = r71
              refine q_RT_let ?_
              show q_RT _ _ _ (67, [(0, .ref 64), (1, .int a1)], [.int 1, .int 0, .ref 79], (q_kM r71 c n)) _ _
              refine q_RT_seg (g2 := (68, [(0, .ref 64), (1, .int a1)], [], (q_kM (q_sA r71 15 (upd (r71.1 15) 0 (vp_nar .boolean 1))) c n))) 1 (fun _ _ => rfl) ?_
              exact q_RT_ret rfl rfl rfl
            | false =>
              refine q_RT_cF ?_
              show q_RT _ _ _ (67, [(0, .ref 64), (1, .int a1)], [.int 0, .int 0, .ref 79], (q_kM (q_sA r69 15 (upd (r69.1 15) 1 (vp_nar .boolean 0))) c n)) _ _
              generalize (q_sA r69 15 (upd (r69.1 15) 1 (vp_nar .boolean 0))) = r72
              refine q_RT_let ?_
              show q_RT _ _ _ (67, [(0, .ref 64), (1, .int a1)], [.int 0, .int 0, .ref 79], (q_kM r72 c n)) _ _
              refine q_RT_seg (g2 := (68, [(0, .ref 64), (1, .int a1)], [], (q_kM (q_sA r72 15 (upd (r72.1 15) 0 (vp_nar .boolean 0))) c n))) 1 (fun _ _ => rfl) ?_
              exact q_RT_ret rfl rfl rfl
      | false =>
        refine q_RT_cF ?_
        show q_RT _ _ _ (32, [(0, .ref 64), (1, .int a1)], [.int 0, .int 3, .ref 79], (q_kM (q_sA r49 15 (upd (r49.1 15) 4 (vp_nar .boolean 0))) c n)) _ _
        generalize (q_sA r49 15 (upd (r49.1 15) 4 (vp_nar .boolean 0))) = r73
        refine q_RT_let ?_
        show q_RT _ _ _ (32, [(0, .ref 64), (1, .int a1)], [.int 0, .int 3, .ref 79], (q_kM r73 c n)) _ _
        refine q_RT_seg (g2 := (40, [(0, .ref 64), (1, .int a1)], [.int 3, .int a1, .int 2, .ref 79], (q_kM (q_sA r73 15 (upd (r73.1 15) 3 (vp_nar .boolean 0))) c n))) 6 (fun _ _ => rfl) ?_
        refine q_RT_call (v := (some (.int (q_b (dz_M206 (q_sA r73 15 (upd (r73.1 15) 3 (vp_nar .boolean 0))) a1 3))))) (h2 := (q_kM (q_sA r73 15 (upd (r73.1 15) 3 (vp_nar .boolean 0))) c n)) rfl rfl ((dzt_M206 (q_sA r73 15 (upd (r73.1 15) 3 (vp_nar .boolean 0))) c n a1 3).le (Nat.le_of_ble_eq_true rfl)) ?_
        generalize dz_M206 (q_sA r73 15 (upd (r73.1 15) 3 (vp_nar .boolean 0))) a1 3 = r74
        refine q_RT_let ?_
        show q_RT _ _ _ (43, [(0, .ref 64), (1, .int a1)], [.int (q_b r74), .int 2, .ref 79], (q_kM (q_sA r73 15 (upd (r73.1 15) 3 (vp_nar .boolean 0))) c n)) _ _
        cases h26 : r74 with
        | true =>
          refine q_RT_cT ?_
          show q_RT _ _ _ (43, [(0, .ref 64), (1, .int a1)], [.int 1, .int 2, .ref 79], (q_kM (q_sA r73 15 (upd (r73.1 15) 3 (vp_nar .boolean 0))) c n)) _ _
          generalize (q_sA r73 15 (upd (r73.1 15) 3 (vp_nar .boolean 0))) = r75
          refine q_RT_let ?_
          show q_RT _ _ _ (43, [(0, .ref 64), (1, .int a1)], [.int 1, .int 2, .ref 79], (q_kM r75 c n)) _ _
          refine q_RT_seg (g2 := (52, [(0, .ref 64), (1, .int a1)], [.int 6, .int a1, .int 1, .ref 79], (q_kM (q_sA r75 15 (upd (r75.1 15) 2 (vp_nar .boolean 1))) c n))) 6 (fun _ _ => rfl) ?_
          refine q_RT_call (v := (some (.int (q_b (dz_M206 (q_sA r75 15 (upd (r75.1 15) 2 (vp_nar .boolean 1))) a1 6))))) (h2 := (q_kM (q_sA r75 15 (upd (r75.1 15) 2 (vp_nar .boolean 1))) c n)) rfl rfl ((dzt_M206 (q_sA r75 15 (upd (r75.1 15) 2 (vp_nar .boolean 1))) c n a1 6).le (Nat.le_of_ble_eq_true rfl)) ?_
          generalize dz_M206 (q_sA r75 15 (upd (r75.1 15) 2 (vp_nar .boolean 1))) a1 6 = r76
          refine q_RT_let ?_
          show q_RT _ _ _ (55, [(0, .ref 64), (1, .int a1)], [.int (q_b r76), .int 1, .ref 79], (q_kM (q_sA r75 15 (upd (r75.1 15) 2 (vp_nar .boolean 1))) c n)) _ _
          cases h27 : r76 with
          | true =>
            refine q_RT_cT ?_
            show q_RT _ _ _ (55, [(0, .ref 64), (1, .int a1)], [.int 1, .int 1, .ref 79], (q_kM (q_sA r75 15 (upd (r75.1 15) 2 (vp_nar .boolean 1))) c n)) _ _
            generalize (q_sA r75 15 (upd (r75.1 15) 2 (vp_nar .boolean 1))) = r77
            refine q_RT_let ?_
            show q_RT _ _ _ (55, [(0, .ref 64), (1, .int a1)], [.int 1, .int 1, .ref 79], (q_kM r77 c n)) _ _
            refine q_RT_seg (g2 := (64, [(0, .ref 64), (1, .int a1)], [.int 7, .int a1, .int 0, .ref 79], (q_kM (q_sA r77 15 (upd (r77.1 15) 1 (vp_nar .boolean 1))) c n))) 6 (fun _ _ => rfl) ?_
            refine q_RT_call (v := (some (.int (q_b (dz_M206 (q_sA r77 15 (upd (r77.1 15) 1 (vp_nar .boolean 1))) a1 7))))) (h2 := (q_kM (q_sA r77 15 (upd (r77.1 15) 1 (vp_nar .boolean 1))) c n)) rfl rfl ((dzt_M206 (q_sA r77 15 (upd (r77.1 15) 1 (vp_nar .boolean 1))) c n a1 7).le (Nat.le_of_ble_eq_true rfl)) ?_
            generalize dz_M206 (q_sA r77 15 (upd (r77.1 15) 1 (vp_nar .boolean 1))) a1 7 = r78
            refine q_RT_let ?_
            show q_RT _ _ _ (67, [(0, .ref 64), (1, .int a1)], [.int (q_b r78), .int 0, .ref 79], (q_kM (q_sA r77 15 (upd (r77.1 15) 1 (vp_nar .boolean 1))) c n)) _ _
            cases h28 : r78 with
            | true =>
              refine q_RT_cT ?_
              show q_RT _ _ _ (67, [(0, .ref 64), (1, .int a1)], [.int 1, .int 0, .ref 79], (q_kM (q_sA r77 15 (upd (r77.1 15) 1 (vp_nar .boolean 1))) c n)) _ _
              generalize (q_sA r77 15 (upd (r77.1 15) 1 (vp_nar .boolean 1))) = r79
              refine q_RT_let ?_
              show q_RT _ _ _ (67, [(0, .ref 64), (1, .int a1)], [.int 1, .int 0, .ref 79], (q_kM r79 c n)) _ _
              refine q_RT_seg (g2 := (68, [(0, .ref 64), (1, .int a1)], [], (q_kM (q_sA r79 15 (upd (r79.1 15) 0 (vp_nar .boolean 1))) c n))) 1 (fun _ _ => rfl) ?_
              exact q_RT_ret rfl rfl rfl
            | false =>
              refine q_RT_cF ?_
              show q_RT _ _ _ (67, [(0, .ref 64), (1, .int a1)], [.int 0, .int 0, .ref 79], (q_kM (q_sA r77 15 (upd (r77.1 15) 1 (vp_nar .boolean 1))) c n)) _ _
              generalize (q_sA r77 15 (upd (r77.1 15) 1 (vp_nar .boolean 1))) = r80
              refine q_RT_let ?_
              show q_RT _ _ _ (67, [(0, .ref 64), (1, .int a1)], [.int 0, .int 0, .ref 79], (q_kM r80 c n)) _ _
              refine q_RT_seg (g2 := (68, [(0, .ref 64), (1, .int a1)], [], (q_kM (q_sA r80 15 (upd (r80.1 15) 0 (vp_nar .boolean 0))) c n))) 1 (fun _ _ => rfl) ?_
              exact q_RT_ret rfl rfl rfl
          | false =>
            refine q_RT_cF ?_
            show q_RT _ _ _ (55, [(0, .ref 64), (1, .int a1)], [.int 0, .int 1, .ref 79], (q_kM (q_sA r75 15 (upd (r75.1 15) 2 (vp_nar .boolean 1))) c n)) _ _
            generalize (q_sA r75 15 (upd (r75.1 15) 2 (vp_nar .boolean 1))) = r81
            refine q_RT_let ?_
            show q_RT _ _ _ (55, [(0, .ref 64), (1, .int a1)], [.int 0, .int 1, .ref 79], (q_kM r81 c n)) _ _
            refine q_RT_seg (g2 := (64, [(0, .ref 64), (1, .int a1)], [.int 7, .int a1, .int 0, .ref 79], (q_kM (q_sA r81 15 (upd (r81.1 15) 1 (vp_nar .boolean 0))) c n))) 6 (fun _ _ => rfl) ?_
            refine q_RT_call (v := (some (.int (q_b (dz_M206 (q_sA r81 15 (upd (r81.1 15) 1 (vp_nar .boolean 0))) a1 7))))) (h2 := (q_kM (q_sA r81 15 (upd (r81.1 15) 1 (vp_nar .boolean 0))) c n)) rfl rfl ((dzt_M206 (q_sA r81 15 (upd (r81.1 15) 1 (vp_nar .boolean 0))) c n a1 7).le (Nat.le_of_ble_eq_true rfl)) ?_
            generalize dz_M206 (q_sA r81 15 (upd (r81.1 15) 1 (vp_nar .boolean 0))) a1 7 = r82
            refine q_RT_let ?_
            show q_RT _ _ _ (67, [(0, .ref 64), (1, .int a1)], [.int (q_b r82), .int 0, .ref 79], (q_kM (q_sA r81 15 (upd (r81.1 15) 1 (vp_nar .boolean 0))) c n)) _ _
            cases h29 : r82 with
            | true =>
              refine q_RT_cT ?_
              show q_RT _ _ _ (67, [(0, .ref 64), (1, .int a1)], [.int 1, .int 0, .ref 79], (q_kM (q_sA r81 15 (upd (r81.1 15) 1 (vp_nar .boolean 0))) c n)) _ _
              generalize (q_sA r81 15 (upd (r81.1 15) 1 (vp_nar .boolean 0))) = r83
              refine q_RT_let ?_
              show q_RT _ _ _ (67, [(0, .ref 64), (1, .int a1)], [.int 1, .int 0, .ref 79], (q_kM r83 c n)) _ _
              refine q_RT_seg (g2 := (68, [(0, .ref 64), (1, .int a1)], [], (q_kM (q_sA r83 15 (upd (r83.1 15) 0 (vp_nar .boolean 1))) c n))) 1 (fun _ _ => rfl) ?_
              exact q_RT_ret rfl rfl rfl
            | false =>
              refine q_RT_cF ?_
              show q_RT _ _ _ (67, [(0, .ref 64), (1, .int a1)], [.int 0, .int 0, .ref 79], (q_kM (q_sA r81 15 (upd (r81.1 15) 1 (vp_nar .boolean 0))) c n)) _ _
              generalize (q_sA r81 15 (upd (r81.1 15) 1 (vp_nar .boolean 0))) = r84
              refine q_RT_let ?_
              show q_RT _ _ _ (67, [(0, .ref 64), (1, .int a1)], [.int 0, .int 0, .ref 79], (q_kM r84 c n)) _ _
              refine q_RT_seg (g2 := (68, [(0, .ref 64), (1, .int a1)], [], (q_kM (q_sA r84 15 (upd (r84.1 15) 0 (vp_nar .boolean 0))) c n))) 1 (fun _ _ => rfl) ?_
              exact q_RT_ret rfl rfl rfl
        | false =>
          refine q_RT_cF ?_
          show q_RT _ _ _ (43, [(0, .ref 64), (1, .int a1)], [.int 0, .int 2, .ref 79], (q_kM (q_sA r73 15 (upd (r73.1 15) 3 (vp_nar .boolean 0))) c n)) _ _
          generalize (q_sA r73 15 (upd (r73.1 15) 3 (vp_nar .boolean 0))) = r85
          refine q_RT_let ?_
          show q_RT _ _ _ (43, [(0, .ref 64), (1, .int a1)], [.int 0, .int 2, .ref 79], (q_kM r85 c n)) _ _
          refine q_RT_seg (g2 := (52, [(0, .ref 64), (1, .int a1)], [.int 6, .int a1, .int 1, .ref 79], (q_kM (q_sA r85 15 (upd (r85.1 15) 2 (vp_nar .boolean 0))) c n))) 6 (fun _ _ => rfl) ?_
          refine q_RT_call (v := (some (.int (q_b (dz_M206 (q_sA r85 15 (upd (r85.1 15) 2 (vp_nar .boolean 0))) a1 6))))) (h2 := (q_kM (q_sA r85 15 (upd (r85.1 15) 2 (vp_nar .boolean 0))) c n)) rfl rfl ((dzt_M206 (q_sA r85 15 (upd (r85.1 15) 2 (vp_nar .boolean 0))) c n a1 6).le (Nat.le_of_ble_eq_true rfl)) ?_
          generalize dz_M206 (q_sA r85 15 (upd (r85.1 15) 2 (vp_nar .boolean 0))) a1 6 = r86
          refine q_RT_let ?_
          show q_RT _ _ _ (55, [(0, .ref 64), (1, .int a1)], [.int (q_b r86), .int 1, .ref 79], (q_kM (q_sA r85 15 (upd (r85.1 15) 2 (vp_nar .boolean 0))) c n)) _ _
          cases h30 : r86 with
          | true =>
            refine q_RT_cT ?_
            show q_RT _ _ _ (55, [(0, .ref 64), (1, .int a1)], [.int 1, .int 1, .ref 79], (q_kM (q_sA r85 15 (upd (r85.1 15) 2 (vp_nar .boolean 0))) c n)) _ _
            generalize (q_sA r85 15 (upd (r85.1 15) 2 (vp_nar .boolean 0))) = r87
            refine q_RT_let ?_
            show q_RT _ _ _ (55, [(0, .ref 64), (1, .int a1)], [.int 1, .int 1, .ref 79], (q_kM r87 c n)) _ _
            refine q_RT_seg (g2 := (64, [(0, .ref 64), (1, .int a1)], [.int 7, .int a1, .int 0, .ref 79], (q_kM (q_sA r87 15 (upd (r87.1 15) 1 (vp_nar .boolean 1))) c n))) 6 (fun _ _ => rfl) ?_
            refine q_RT_call (v := (some (.int (q_b (dz_M206 (q_sA r87 15 (upd (r87.1 15) 1 (vp_nar .boolean 1))) a1 7))))) (h2 := (q_kM (q_sA r87 15 (upd (r87.1 15) 1 (vp_nar .boolean 1))) c n)) rfl rfl ((dzt_M206 (q_sA r87 15 (upd (r87.1 15) 1 (vp_nar .boolean 1))) c n a1 7).le (Nat.le_of_ble_eq_true rfl)) ?_
            generalize dz_M206 (q_sA r87 15 (upd (r87.1 15) 1 (vp_nar .boolean 1))) a1 7 = r88
            refine q_RT_let ?_
            show q_RT _ _ _ (67, [(0, .ref 64), (1, .int a1)], [.int (q_b r88), .int 0, .ref 79], (q_kM (q_sA r87 15 (upd (r87.1 15) 1 (vp_nar .boolean 1))) c n)) _ _
            cases h31 : r88 with
            | true =>
              refine q_RT_cT ?_
              show q_RT _ _ _ (67, [(0, .ref 64), (1, .int a1)], [.int 1, .int 0, .ref 79], (q_kM (q_sA r87 15 (upd (r87.1 15) 1 (vp_nar .boolean 1))) c n)) _ _
              generalize (q_sA r87 15 (upd (r87.1 15) 1 (vp_nar .boolean 1))) = r89
              refine q_RT_let ?_
              show q_RT _ _ _ (67, [(0, .ref 64), (1, .int a1)], [.int 1, .int 0, .ref 79], (q_kM r89 c n)) _ _
              refine q_RT_seg (g2 := (68, [(0, .ref 64), (1, .int a1)], [], (q_kM (q_sA r89 15 (upd (r89.1 15) 0 (vp_nar .boolean 1))) c n))) 1 (fun _ _ => rfl) ?_
              exact q_RT_ret rfl rfl rfl
            | false =>
              refine q_RT_cF ?_
              show q_RT _ _ _ (67, [(0, .ref 64), (1, .int a1)], [.int 0, .int 0, .ref 79], (q_kM (q_sA r87 15 (upd (r87.1 15) 1 (vp_nar .boolean 1))) c n)) _ _
              generalize (q_sA r87 15 (upd (r87.1 15) 1 (vp_nar .boolean 1))) = r90
              refine q_RT_let ?_
              show q_RT _ _ _ (67, [(0, .ref 64), (1, .int a1)], [.int 0, .int 0, .ref 79], (q_kM r90 c n)) _ _
              refine q_RT_seg (g2 := (68, [(0, .ref 64), (1, .int a1)], [], (q_kM (q_sA r90 15 (upd (r90.1 15) 0 (vp_nar .boolean 0))) c n))) 1 (fun _ _ => rfl) ?_
              exact q_RT_ret rfl rfl rfl
          | false =>
            refine q_RT_cF ?_
            show q_RT _ _ _ (55, [(0, .ref 64), (1, .int a1)], [.int 0, .int 1, .ref 79], (q_kM (q_sA r85 15 (upd (r85.1 15) 2 (vp_nar .boolean 0))) c n)) _ _
            generalize (q_sA r85 15 (upd (r85.1 15) 2 (vp_nar .boolean 0))) = r91
            refine q_RT_let ?_
            show q_RT _ _ _ (55, [(0, .ref 64), (1, .int a1)], [.int 0, .int 1, .ref 79], (q_kM r91 c n)) _ _
            refine q_RT_seg (g2 := (64, [(0, .ref 64), (1, .int a1)], [.int 7, .int a1, .int 0, .ref 79], (q_kM (q_sA r91 15 (upd (r91.1 15) 1 (vp_nar .boolean 0))) c n))) 6 (fun _ _ => rfl) ?_
            refine q_RT_call (v := (some (.int (q_b (dz_M206 (q_sA r91 15 (upd (r91.1 15) 1 (vp_nar .boolean 0))) a1 7))))) (h2 := (q_kM (q_sA r91 15 (upd (r91.1 15) 1 (vp_nar .boolean 0))) c n)) rfl rfl ((dzt_M206 (q_sA r91 15 (upd (r91.1 15) 1 (vp_nar .boolean 0))) c n a1 7).le (Nat.le_of_ble_eq_true rfl)) ?_
            generalize dz_M206 (q_sA r91 15 (upd (r91.1 15) 1 (vp_nar .boolean 0))) a1 7 = r92
            refine q_RT_let ?_
            show q_RT _ _ _ (67, [(0, .ref 64), (1, .int a1)], [.int (q_b r92), .int 0, .ref 79], (q_kM (q_sA r91 15 (upd (r91.1 15) 1 (vp_nar .boolean 0))) c n)) _ _
            cases h32 : r92 with
            | true =>
              refine q_RT_cT ?_
              show q_RT _ _ _ (67, [(0, .ref 64), (1, .int a1)], [.int 1, .int 0, .ref 79], (q_kM (q_sA r91 15 (upd (r91.1 15) 1 (vp_nar .boolean 0))) c n)) _ _
              generalize (q_sA r91 15 (upd (r91.1 15) 1 (vp_nar .boolean 0))) = r93
              refine q_RT_let ?_
              show q_RT _ _ _ (67, [(0, .ref 64), (1, .int a1)], [.int 1, .int 0, .ref 79], (q_kM r93 c n)) _ _
              refine q_RT_seg (g2 := (68, [(0, .ref 64), (1, .int a1)], [], (q_kM (q_sA r93 15 (upd (r93.1 15) 0 (vp_nar .boolean 1))) c n))) 1 (fun _ _ => rfl) ?_
              exact q_RT_ret rfl rfl rfl
            | false =>
              refine q_RT_cF ?_
              show q_RT _ _ _ (67, [(0, .ref 64), (1, .int a1)], [.int 0, .int 0, .ref 79], (q_kM (q_sA r91 15 (upd (r91.1 15) 1 (vp_nar .boolean 0))) c n)) _ _
              generalize (q_sA r91 15 (upd (r91.1 15) 1 (vp_nar .boolean 0))) = r94
              refine q_RT_let ?_
              show q_RT _ _ _ (67, [(0, .ref 64), (1, .int a1)], [.int 0, .int 0, .ref 79], (q_kM r94 c n)) _ _
              refine q_RT_seg (g2 := (68, [(0, .ref 64), (1, .int a1)], [], (q_kM (q_sA r94 15 (upd (r94.1 15) 0 (vp_nar .boolean 0))) c n))) 1 (fun _ _ => rfl) ?_
              exact q_RT_ret rfl rfl rfl
  | false =>
    refine q_RT_cF ?_
    show q_RT _ _ _ (10, [(0, .ref 64), (1, .int a1)], [.int 0, .int 5, .ref 79], (q_kM s c n)) _ _
    refine q_RT_seg (g2 := (18, [(0, .ref 64), (1, .int a1)], [.int 1, .int a1, .int 4, .ref 79], (q_kM (q_sA s 15 (upd (s.1 15) 5 (vp_nar .boolean 0))) c n))) 6 (fun _ _ => rfl) ?_
    refine q_RT_call (v := (some (.int (q_b (dz_M206 (q_sA s 15 (upd (s.1 15) 5 (vp_nar .boolean 0))) a1 1))))) (h2 := (q_kM (q_sA s 15 (upd (s.1 15) 5 (vp_nar .boolean 0))) c n)) rfl rfl ((dzt_M206 (q_sA s 15 (upd (s.1 15) 5 (vp_nar .boolean 0))) c n a1 1).le (Nat.le_of_ble_eq_true rfl)) ?_
    generalize dz_M206 (q_sA s 15 (upd (s.1 15) 5 (vp_nar .boolean 0))) a1 1 = r95
    refine q_RT_let ?_
    show q_RT _ _ _ (21, [(0, .ref 64), (1, .int a1)], [.int (q_b r95), .int 4, .ref 79], (q_kM (q_sA s 15 (upd (s.1 15) 5 (vp_nar .boolean 0))) c n)) _ _
    cases h33 : r95 with
    | true =>
      refine q_RT_cT ?_
      show q_RT _ _ _ (21, [(0, .ref 64), (1, .int a1)], [.int 1, .int 4, .ref 79], (q_kM (q_sA s 15 (upd (s.1 15) 5 (vp_nar .boolean 0))) c n)) _ _
      generalize (q_sA s 15 (upd (s.1 15) 5 (vp_nar .boolean 0))) = r96
      refine q_RT_let ?_
      show q_RT _ _ _ (21, [(0, .ref 64), (1, .int a1)], [.int 1, .int 4, .ref 79], (q_kM r96 c n)) _ _
      refine q_RT_seg (g2 := (29, [(0, .ref 64), (1, .int a1)], [.int 2, .int a1, .int 3, .ref 79], (q_kM (q_sA r96 15 (upd (r96.1 15) 4 (vp_nar .boolean 1))) c n))) 6 (fun _ _ => rfl) ?_
      refine q_RT_call (v := (some (.int (q_b (dz_M206 (q_sA r96 15 (upd (r96.1 15) 4 (vp_nar .boolean 1))) a1 2))))) (h2 := (q_kM (q_sA r96 15 (upd (r96.1 15) 4 (vp_nar .boolean 1))) c n)) rfl rfl ((dzt_M206 (q_sA r96 15 (upd (r96.1 15) 4 (vp_nar .boolean 1))) c n a1 2).le (Nat.le_of_ble_eq_true rfl)) ?_
      generalize dz_M206 (q_sA r96 15 (upd (r96.1 15) 4 (vp_nar .boolean 1))) a1 2 = r97
      refine q_RT_let ?_
      show q_RT _ _ _ (32, [(0, .ref 64), (1, .int a1)], [.int (q_b r97), .int 3, .ref 79], (q_kM (q_sA r96 15 (upd (r96.1 15) 4 (vp_nar .boolean 1))) c n)) _ _
      cases h34 : r97 with
      | true =>
        refine q_RT_cT ?_
        show q_RT _ _ _ (32, [(0, .ref 64), (1, .int a1)], [.int 1, .int 3, .ref 79], (q_kM (q_sA r96 15 (upd (r96.1 15) 4 (vp_nar .boolean 1))) c n)) _ _
        generalize (q_sA r96 15 (upd (r96.1 15) 4 (vp_nar .boolean 1))) = r98
        refine q_RT_let ?_
        show q_RT _ _ _ (32, [(0, .ref 64), (1, .int a1)], [.int 1, .int 3, .ref 79], (q_kM r98 c n)) _ _
        refine q_RT_seg (g2 := (40, [(0, .ref 64), (1, .int a1)], [.int 3, .int a1, .int 2, .ref 79], (q_kM (q_sA r98 15 (upd (r98.1 15) 3 (vp_nar .boolean 1))) c n))) 6 (fun _ _ => rfl) ?_
        refine q_RT_call (v := (some (.int (q_b (dz_M206 (q_sA r98 15 (upd (r98.1 15) 3 (vp_nar .boolean 1))) a1 3))))) (h2 := (q_kM (q_sA r98 15 (upd (r98.1 15) 3 (vp_nar .boolean 1))) c n)) rfl rfl ((dzt_M206 (q_sA r98 15 (upd (r98.1 15) 3 (vp_nar .boolean 1))) c n a1 3).le (Nat.le_of_ble_eq_true rfl)) ?_
        generalize dz_M206 (q_sA r98 15 (upd (r98.1 15) 3 (vp_nar .boolean 1))) a1 3 = r99
        refine q_RT_let ?_
        show q_RT _ _ _ (43, [(0, .ref 64), (1, .int a1)], [.int (q_b r99), .int 2, .ref 79], (q_kM (q_sA r98 15 (upd (r98.1 15) 3 (vp_nar .boolean 1))) c n)) _ _
        cases h35 : r99 with
        | true =>
          refine q_RT_cT ?_
          show q_RT _ _ _ (43, [(0, .ref 64), (1, .int a1)], [.int 1, .int 2, .ref 79], (q_kM (q_sA r98 15 (upd (r98.1 15) 3 (vp_nar .boolean 1))) c n)) _ _
          generalize (q_sA r98 15 (upd (r98.1 15) 3 (vp_nar .boolean 1))) = r100
          refine q_RT_let ?_
          show q_RT _ _ _ (43, [(0, .ref 64), (1, .int a1)], [.int 1, .int 2, .ref 79], (q_kM r100 c n)) _ _
          refine q_RT_seg (g2 := (52, [(0, .ref 64), (1, .int a1)], [.int 6, .int a1, .int 1, .ref 79], (q_kM (q_sA r100 15 (upd (r100.1 15) 2 (vp_nar .boolean 1))) c n))) 6 (fun _ _ => rfl) ?_
          refine q_RT_call (v := (some (.int (q_b (dz_M206 (q_sA r100 15 (upd (r100.1 15) 2 (vp_nar .boolean 1))) a1 6))))) (h2 := (q_kM (q_sA r100 15 (upd (r100.1 15) 2 (vp_nar .boolean 1))) c n)) rfl rfl ((dzt_M206 (q_sA r100 15 (upd (r100.1 15) 2 (vp_nar .boolean 1))) c n a1 6).le (Nat.le_of_ble_eq_true rfl)) ?_
          generalize dz_M206 (q_sA r100 15 (upd (r100.1 15) 2 (vp_nar .boolean 1))) a1 6 = r101
          refine q_RT_let ?_
          show q_RT _ _ _ (55, [(0, .ref 64), (1, .int a1)], [.int (q_b r101), .int 1, .ref 79], (q_kM (q_sA r100 15 (upd (r100.1 15) 2 (vp_nar .boolean 1))) c n)) _ _
          cases h36 : r101 with
          | true =>
            refine q_RT_cT ?_
            show q_RT _ _ _ (55, [(0, .ref 64), (1, .int a1)], [.int 1, .int 1, .ref 79], (q_kM (q_sA r100 15 (upd (r100.1 15) 2 (vp_nar .boolean 1))) c n)) _ _
            generalize (q_sA r100 15 (upd (r100.1 15) 2 (vp_nar .boolean 1))) = r102
            refine q_RT_let ?_
            show q_RT _ _ _ (55, [(0, .ref 64), (1, .int a1)], [.int 1, .int 1, .ref 79], (q_kM r102 c n)) _ _
            refine q_RT_seg (g2 := (64, [(0, .ref 64), (1, .int a1)], [.int 7, .int a1, .int 0, .ref 79], (q_kM (q_sA r102 15 (upd (r102.1 15) 1 (vp_nar .boolean 1))) c n))) 6 (fun _ _ => rfl) ?_
            refine q_RT_call (v := (some (.int (q_b (dz_M206 (q_sA r102 15 (upd (r102.1 15) 1 (vp_nar .boolean 1))) a1 7))))) (h2 := (q_kM (q_sA r102 15 (upd (r102.1 15) 1 (vp_nar .boolean 1))) c n)) rfl rfl ((dzt_M206 (q_sA r102 15 (upd (r102.1 15) 1 (vp_nar .boolean 1))) c n a1 7).le (Nat.le_of_ble_eq_true rfl)) ?_
            generalize dz_M206 (q_sA r102 15 (upd (r102.1 15) 1 (vp_nar .boolean 1))) a1 7 = r103
            refine q_RT_let ?_
            show q_RT _ _ _ (67, [(0, .ref 64), (1, .int a1)], [.int (q_b r103), .int 0, .ref 79], (q_kM (q_sA r102 15 (upd (r102.1 15) 1 (vp_nar .boolean 1))) c n)) _ _
            cases h37 : r103 with
            | true =>
              refine q_RT_cT ?_
              show q_RT _ _ _ (67, [(0, .ref 64), (1, .int a1)], [.int 1, .int 0, .ref 79], (q_kM (q_sA r102 15 (upd (r102.1 15) 1 (vp_nar .boolean 1))) c n)) _ _
              generalize (q_sA r102 15 (upd (r102.1 15) 1 (vp_nar .boolean 1))) = r104
              refine q_RT_let ?_
              show q_RT _ _ _ (67, [(0, .ref 64), (1, .int a1)], [.int 1, .int 0, .ref 79], (q_kM r104 c n)) _ _
              refine q_RT_seg (g2 := (68, [(0, .ref 64), (1, .int a1)], [], (q_kM (q_sA r104 15 (upd (r104.1 15) 0 (vp_nar .boolean 1))) c n))) 1 (fun _ _ => rfl) ?_
              exact q_RT_ret rfl rfl rfl
            | false =>
              refine q_RT_cF ?_
              show q_RT _ _ _ (67, [(0, .ref 64), (1, .int a1)], [.int 0, .int 0, .ref 79], (q_kM (q_sA r102 15 (upd (r102.1 15) 1 (vp_nar .boolean 1))) c n)) _ _
              generalize (q_sA r102 15 (upd (r102.1 15) 1 (vp_nar .boolean 1))) = r105
              refine q_RT_let ?_
              show q_RT _ _ _ (67, [(0, .ref 64), (1, .int a1)], [.int 0, .int 0, .ref 79], (q_kM r105 c n)) _ _
              refine q_RT_seg (g2 := (68, [(0, .ref 64), (1, .int a1)], [], (q_kM (q_sA r105 15 (upd (r105.1 15) 0 (vp_nar .boolean 0))) c n))) 1 (fun _ _ => rfl) ?_
              exact q_RT_ret rfl rfl rfl
          | false =>
            refine q_RT_cF ?_
            show q_RT _ _ _ (55, [(0, .ref 64), (1, .int a1)], [.int 0, .int 1, .ref 79], (q_kM (q_sA r100 15 (upd (r100.1 15) 2 (vp_nar .boolean 1))) c n)) _ _
            generalize (q_sA r100 15 (upd (r100.1 15) 2 (vp_nar .boolean 1))) = r106
            refine q_RT_let ?_
            show q_RT _ _ _ (55, [(0, .ref 64), (1, .int a1)], [.int 0, .int 1, .ref 79], (q_kM r106 c n)) _ _
            refine q_RT_seg (g2 := (64, [(0, .ref 64), (1, .int a1)], [.int 7, .int a1, .int 0, .ref 79], (q_kM (q_sA r106 15 (upd (r106.1 15) 1 (vp_nar .boolean 0))) c n))) 6 (fun _ _ => rfl) ?_
            refine q_RT_call (v := (some (.int (q_b (dz_M206 (q_sA r106 15 (upd (r106.1 15) 1 (vp_nar .boolean 0))) a1 7))))) (h2 := (q_kM (q_sA r106 15 (upd (r106.1 15) 1 (vp_nar .boolean 0))) c n)) rfl rfl ((dzt_M206 (q_sA r106 15 (upd (r106.1 15) 1 (vp_nar .boolean 0))) c n a1 7).le (Nat.le_of_ble_eq_true rfl)) ?_
            generalize dz_M206 (q_sA r106 15 (upd (r106.1 15) 1 (vp_nar .boolean 0))) a1 7 = r107
            refine q_RT_let ?_
            show q_RT _ _ _ (67, [(0, .ref 64), (1, .int a1)], [.int (q_b r107), .int 0, .ref 79], (q_kM (q_sA r106 15 (upd (r106.1 15) 1 (vp_nar .boolean 0))) c n)) _ _
            cases h38 : r107 with
            | true =>
              refine q_RT_cT ?_
              show q_RT _ _ _ (67, [(0, .ref 64), (1, .int a1)], [.int 1, .int 0, .ref 79], (q_kM (q_sA r106 15 (upd (r106.1 15) 1 (vp_nar .boolean 0))) c n)) _ _
              generalize (q_sA r106 15 (upd (r106.1 15) 1 (vp_nar .boolean 0))) = r108
              refine q_RT_let ?_
              show q_RT _ _ _ (67, [(0, .ref 64), (1, .int a1)], [.int 1, .int 0, .ref 79], (q_kM r108 c n)) _ _
              refine q_RT_seg (g2 := (68, [(0, .ref 64), (1, .int a1)], [], (q_kM (q_sA r108 15 (upd (r108.1 15) 0 (vp_nar .boolean 1))) c n))) 1 (fun _ _ => rfl) ?_
              exact q_RT_ret rfl rfl rfl
            | false =>
              refine q_RT_cF ?_
              show q_RT _ _ _ (67, [(0, .ref 64), (1, .int a1)], [.int 0, .int 0, .ref 79], (q_kM (q_sA r106 15 (upd (r106.1 15) 1 (vp_nar .boolean 0))) c n)) _ _
              generalize (q_sA r106 15 (upd (r106.1 15) 1 (vp_nar .boolean 0))) = r109
              refine q_RT_let ?_
              show q_RT _ _ _ (67, [(0, .ref 64), (1, .int a1)], [.int 0, .int 0, .ref 79], (q_kM r109 c n)) _ _
              refine q_RT_seg (g2 := (68, [(0, .ref 64), (1, .int a1)], [], (q_kM (q_sA r109 15 (upd (r109.1 15) 0 (vp_nar .boolean 0))) c n))) 1 (fun _ _ => rfl) ?_
              exact q_RT_ret rfl rfl rfl
        | false =>
          refine q_RT_cF ?_
          show q_RT _ _ _ (43, [(0, .ref 64), (1, .int a1)], [.int 0, .int 2, .ref 79], (q_kM (q_sA r98 15 (upd (r98.1 15) 3 (vp_nar .boolean 1))) c n)) _ _
          generalize (q_sA r98 15 (upd (r98.1 15) 3 (vp_nar .boolean 1))) = r110
          refine q_RT_let ?_
          show q_RT _ _ _ (43, [(0, .ref 64), (1, .int a1)], [.int 0, .int 2, .ref 79], (q_kM r110 c n)) _ _
          refine q_RT_seg (g2 := (52, [(0, .ref 64), (1, .int a1)], [.int 6, .int a1, .int 1, .ref 79], (q_kM (q_sA r110 15 (upd (r110.1 15) 2 (vp_nar .boolean 0))) c n))) 6 (fun _ _ => rfl) ?_
          refine q_RT_call (v := (some (.int (q_b (dz_M206 (q_sA r110 15 (upd (r110.1 15) 2 (vp_nar .boolean 0))) a1 6))))) (h2 := (q_kM (q_sA r110 15 (upd (r110.1 15) 2 (vp_nar .boolean 0))) c n)) rfl rfl ((dzt_M206 (q_sA r110 15 (upd (r110.1 15) 2 (vp_nar .boolean 0))) c n a1 6).le (Nat.le_of_ble_eq_true rfl)) ?_
          generalize dz_M206 (q_sA r110 15 (upd (r110.1 15) 2 (vp_nar .boolean 0))) a1 6 = r111
          refine q_RT_let ?_
          show q_RT _ _ _ (55, [(0, .ref 64), (1, .int a1)], [.int (q_b r111), .int 1, .ref 79], (q_kM (q_sA r110 15 (upd (r110.1 15) 2 (vp_nar .boolean 0))) c n)) _ _
          cases h39 : r111 with
          | true =>
            refine q_RT_cT ?_
            show q_RT _ _ _ (55, [(0, .ref 64), (1, .int a1)], [.int 1, .int 1, .ref 79], (q_kM (q_sA r110 15 (upd (r110.1 15) 2 (vp_nar .boolean 0))) c n)) _ _
            generalize (q_sA r110 15 (upd (r110.1 15) 2 (vp_nar .boolean 0))) = r112
            refine q_RT_let ?_
            show q_RT _ _ _ (55, [(0, .ref 64), (1, .int a1)], [.int 1, .int 1, .ref 79], (q_kM r112 c n)) _ _
            refine q_RT_seg (g2 := (64, [(0, .ref 64), (1, .int a1)], [.int 7, .int a1, .int 0, .ref 79], (q_kM (q_sA r112 15 (upd (r112.1 15) 1 (vp_nar .boolean 1))) c n))) 6 (fun _ _ => rfl) ?_
            refine q_RT_call (v := (some (.int (q_b (dz_M206 (q_sA r112 15 (upd (r112.1 15) 1 (vp_nar .boolean 1))) a1 7))))) (h2 := (q_kM (q_sA r112 15 (upd (r112.1 15) 1 (vp_nar .boolean 1))) c n)) rfl rfl ((dzt_M206 (q_sA r112 15 (upd (r112.1 15) 1 (vp_nar .boolean 1))) c n a1 7).le (Nat.le_of_ble_eq_true rfl)) ?_
            generalize dz_M206 (q_sA r112 15 (upd (r112.1 15) 1 (vp_nar .boolean 1))) a1 7 = r113
            refine q_RT_let ?_
            show q_RT _ _ _ (67, [(0, .ref 64), (1, .int a1)], [.int (q_b r113), .int 0, .ref 79], (q_kM (q_sA r112 15 (upd (r112.1 15) 1 (vp_nar .boolean 1))) c n)) _ _
            cases h40 : r113 with
            | true =>
              refine q_RT_cT ?_
              show q_RT _ _ _ (67, [(0, .ref 64), (1, .int a1)], [.int 1, .int 0, .ref 79], (q_kM (q_sA r112 15 (upd (r112.1 15) 1 (vp_nar .boolean 1))) c n)) _ _
              generalize (q_sA r112 15 (upd (r112.1 15) 1 (vp_nar .boolean 1))) = r114
              refine q_RT_let ?_
              show q_RT _ _ _ (67, [(0, .ref 64), (1, .int a1)], [.int 1, .int 0, .ref 79], (q_kM r114 c n)) _ _
              refine q_RT_seg (g2 := (68, [(0, .ref 64), (1, .int a1)], [], (q_kM (q_sA r114 15 (upd (r114.1 15) 0 (vp_nar .boolean 1))) c n))) 1 (fun _ _ => rfl) ?_
              exact q_RT_ret rfl rfl rfl
            | false =>
              refine q_RT_cF ?_
              show q_RT _ _ _ (67, [(0, .ref 64), (1, .int a1)], [.int 0, .int 0, .ref 79], (q_kM (q_sA r112 15 (upd (r112.1 15) 1 (vp_nar .boolean 1))) c n)) _ _
              generalize (q_sA r112 15 (upd (r112.1 15) 1 (vp_nar .boolean 1))) = r115
              refine q_RT_let ?_
              show q_RT _ _ _ (67, [(0, .ref 64), (1, .int a1)], [.int 0, .int 0, .ref 79], (q_kM r115 c n)) _ _
              refine q_RT_seg (g2 := (68, [(0, .ref 64), (1, .int a1)], [], (q_kM (q_sA r115 15 (upd (r115.1 15) 0 (vp_nar .boolean 0))) c n))) 1 (fun _ _ => rfl) ?_
              exact q_RT_ret rfl rfl rfl
          | false =>
            refine q_RT_cF ?_
            show q_RT _ _ _ (55, [(0, .ref 64), (1, .int a1)], [.int 0, .int 1, .ref 79], (q_kM (q_sA r110 15 (upd (r110.1 15) 2 (vp_nar .boolean 0))) c n)) _ _
            generalize (q_sA r110 15 (upd (r110.1 15) 2 (vp_nar .boolean 0))) = r116
            refine q_RT_let ?_
            show q_RT _ _ _ (55, [(0, .ref 64), (1, .int a1)], [.int 0, .int 1, .ref 79], (q_kM r116 c n)) _ _
            refine q_RT_seg (g2 := (64, [(0, .ref 64), (1, .int a1)], [.int 7, .int a1, .int 0, .ref 79], (q_kM (q_sA r116 15 (upd (r116.1 15) 1 (vp_nar .boolean 0))) c n))) 6 (fun _ _ => rfl) ?_
            refine q_RT_call (v := (some (.int (q_b (dz_M206 (q_sA r116 15 (upd (r116.1 15) 1 (vp_nar .boolean 0))) a1 7))))) (h2 := (q_kM (q_sA r116 15 (upd (r116.1 15) 1 (vp_nar .boolean 0))) c n)) rfl rfl ((dzt_M206 (q_sA r116 15 (upd (r116.1 15) 1 (vp_nar .boolean 0))) c n a1 7).le (Nat.le_of_ble_eq_true rfl)) ?_
            generalize dz_M206 (q_sA r116 15 (upd (r116.1 15) 1 (vp_nar .boolean 0))) a1 7 = r117
            refine q_RT_let ?_
            show q_RT _ _ _ (67, [(0, .ref 64), (1, .int a1)], [.int (q_b r117), .int 0, .ref 79], (q_kM (q_sA r116 15 (upd (r116.1 15) 1 (vp_nar .boolean 0))) c n)) _ _
            cases h41 : r117 with
            | true =>
              refine q_RT_cT ?_
              show q_RT _ _ _ (67, [(0, .ref 64), (1, .int a1)], [.int 1, .int 0, .ref 79], (q_kM (q_sA r116 15 (upd (r116.1 15) 1 (vp_nar .boolean 0))) c n)) _ _
              generalize (q_sA r116 15 (upd (r116.1 15) 1 (vp_nar .boolean 0))) = r118
              refine q_RT_let ?_
              show q_RT _ _ _ (67, [(0, .ref 64), (1, .int a1)], [.int 1, .int 0, .ref 79], (q_kM r118 c n)) _ _
              refine q_RT_seg (g2 := (68, [(0, .ref 64), (1, .int a1)], [], (q_kM (q_sA r118 15 (upd (r118.1 15) 0 (vp_nar .boolean 1))) c n))) 1 (fun _ _ => rfl) ?_
              exact q_RT_ret rfl rfl rfl
            | false =>
              refine q_RT_cF ?_
              show q_RT _ _ _ (67, [(0, .ref 64), (1, .int a1)], [.int 0, .int 0, .ref 79], (q_kM (q_sA r116 15 (upd (r116.1 15) 1 (vp_nar .boolean 0))) c n)) _ _
              generalize (q_sA r116 15 (upd (r116.1 15) 1 (vp_nar .boolean 0))) = r119
              refine q_RT_let ?_
              show q_RT _ _ _ (67, [(0, .ref 64), (1, .int a1)], [.int 0, .int 0, .ref 79], (q_kM r119 c n)) _ _
              refine q_RT_seg (g2 := (68, [(0, .ref 64), (1, .int a1)], [], (q_kM (q_sA r119 15 (upd (r119.1 15) 0 (vp_nar .boolean 0))) c n))) 1 (fun _ _ => rfl) ?_
              exact q_RT_ret rfl rfl rfl
      | false =>
        refine q_RT_cF ?_
        show q_RT _ _ _ (32, [(0, .ref 64), (1, .int a1)], [.int 0, .int 3, .ref 79], (q_kM (q_sA r96 15 (upd (r96.1 15) 4 (vp_nar .boolean 1))) c n)) _ _
        generalize (q_sA r96 15 (upd (r96.1 15) 4 (vp_nar .boolean 1))) = r120
        refine q_RT_let ?_
        show q_RT _ _ _ (32, [(0, .ref 64), (1, .int a1)], [.int 0, .int 3, .ref 79], (q_kM r120 c n)) _ _
        refine q_RT_seg (g2 := (40, [(0, .ref 64), (1, .int a1)], [.int 3, .int a1, .int 2, .ref 79], (q_kM (q_sA r120 15 (upd (r120.1 15) 3 (vp_nar .boolean 0))) c n))) 6 (fun _ _ => rfl) ?_
        refine q_RT_call (v := (some (.int (q_b (dz_M206 (q_sA r120 15 (upd (r120.1 15) 3 (vp_nar .boolean 0))) a1 3))))) (h2 := (q_kM (q_sA r120 15 (upd (r120.1 15) 3 (vp_nar .boolean 0))) c n)) rfl rfl ((dzt_M206 (q_sA r120 15 (upd (r120.1 15) 3 (vp_nar .boolean 0))) c n a1 3).le (Nat.le_of_ble_eq_true rfl)) ?_
        generalize dz_M206 (q_sA r120 15 (upd (r120.1 15) 3 (vp_nar .boolean 0))) a1 3 = r121
        refine q_RT_let ?_
        show q_RT _ _ _ (43, [(0, .ref 64), (1, .int a1)], [.int (q_b r121), .int 2, .ref 79], (q_kM (q_sA r120 15 (upd (r120.1 15) 3 (vp_nar .boolean 0))) c n)) _ _
        cases h42 : r121 with
        | true =>
          refine q_RT_cT ?_
          show q_RT _ _ _ (43, [(0, .ref 64), (1, .int a1)], [.int 1, .int 2, .ref 79], (q_kM (q_sA r120 15 (upd (r120.1 15) 3 (vp_nar .boolean 0))) c n)) _ _
          generalize (q_sA r120 15 (upd (r120.1 15) 3 (vp_nar .boolean 0))) = r122
          refine q_RT_let ?_
          show q_RT _ _ _ (43, [(0, .ref 64), (1, .int a1)], [.int 1, .int 2, .ref 79], (q_kM r122 c n)) _ _
          refine q_RT_seg (g2 := (52, [(0, .ref 64), (1, .int a1)], [.int 6, .int a1, .int 1, .ref 79], (q_kM (q_sA r122 15 (upd (r122.1 15) 2 (vp_nar .boolean 1))) c n))) 6 (fun _ _ => rfl) ?_
          refine q_RT_call (v := (some (.int (q_b (dz_M206 (q_sA r122 15 (upd (r122.1 15) 2 (vp_nar .boolean 1))) a1 6))))) (h2 := (q_kM (q_sA r122 15 (upd (r122.1 15) 2 (vp_nar .boolean 1))) c n)) rfl rfl ((dzt_M206 (q_sA r122 15 (upd (r122.1 15) 2 (vp_nar .boolean 1))) c n a1 6).le (Nat.le_of_ble_eq_true rfl)) ?_
          generalize dz_M206 (q_sA r122 15 (upd (r122.1 15) 2 (vp_nar .boolean 1))) a1 6 = r123
          refine q_RT_let ?_
          show q_RT _ _ _ (55, [(0, .ref 64), (1, .int a1)], [.int (q_b r123), .int 1, .ref 79], (q_kM (q_sA r122 15 (upd (r122.1 15) 2 (vp_nar .boolean 1))) c n)) _ _
          cases h43 : r123 with
          | true =>
            refine q_RT_cT ?_
            show q_RT _ _ _ (55, [(0, .ref 64), (1, .int a1)], [.int 1, .int 1, .ref 79], (q_kM (q_sA r122 15 (upd (r122.1 15) 2 (vp_nar .boolean 1))) c n)) _ _
            generalize (q_sA r122 15 (upd (r122.1 15) 2 (vp_nar .boolean 1))) = r124
            refine q_RT_let ?_
            show q_RT _ _ _ (55, [(0, .ref 64), (1, .int a1)], [.int 1, .int 1, .ref 79], (q_kM r124 c n)) _ _
            refine q_RT_seg (g2 := (64, [(0, .ref 64), (1, .int a1)], [.int 7, .int a1, .int 0, .ref 79], (q_kM (q_sA r124 15 (upd (r124.1 15) 1 (vp_nar .boolean 1))) c n))) 6 (fun _ _ => rfl) ?_
            refine q_RT_call (v := (some (.int (q_b (dz_M206 (q_sA r124 15 (upd (r124.1 15) 1 (vp_nar .boolean 1))) a1 7))))) (h2 := (q_kM (q_sA r124 15 (upd (r124.1 15) 1 (vp_nar .boolean 1))) c n)) rfl rfl ((dzt_M206 (q_sA r124 15 (upd (r124.1 15) 1 (vp_nar .boolean 1))) c n a1 7).le (Nat.le_of_ble_eq_true rfl)) ?_
            generalize dz_M206 (q_sA r124 15 (upd (r124.1 15) 1 (vp_nar .boolean 1))) a1 7 = r125
            refine q_RT_let ?_
            show q_RT _ _ _ (67, [(0, .ref 64), (1, .int a1)], [.int (q_b r125), .int 0, .ref 79], (q_kM (q_sA r124 15 (upd (r124.1 15) 1 (vp_nar .boolean 1))) c n)) _ _
            cases h44 : r125 with
            | true =>
              refine q_RT_cT ?_
              show q_RT _ _ _ (67, [(0, .ref 64), (1, .int a1)], [.int 1, .int 0, .ref 79], (q_kM (q_sA r124 15 (upd (r124.1 15) 1 (vp_nar .boolean 1))) c n)) _ _
              generalize (q_sA r124 15 (upd (r124.1 15) 1 (vp_nar .boolean 1))) = r126
              refine q_RT_let ?_
              show q_RT _ _ _ (67, [(0, .ref 64), (1, .int a1)], [.int 1, .int 0, .ref 79], (q_kM r126 c n)) _ _
              refine q_RT_seg (g2 := (68, [(0, .ref 64), (1, .int a1)], [], (q_kM (q_sA r126 15 (upd (r126.1 15) 0 (vp_nar .boolean 1))) c n))) 1 (fun _ _ => rfl) ?_
              exact q_RT_ret rfl rfl rfl
            | false =>
              refine q_RT_cF ?_
              show q_RT _ _ _ (67, [(0, .ref 64), (1, .int a1)], [.int 0, .int 0, .ref 79], (q_kM (q_sA r124 15 (upd (r124.1 15) 1 (vp_nar .boolean 1))) c n)) _ _
              generalize (q_sA r124 15 (upd (r124.1 15) 1 (vp_nar .boolean 1))) = r127
              refine q_RT_let ?_
              show q_RT _ _ _ (67, [(0, .ref 64), (1, .int a1)], [.int 0, .int 0, .ref 79], (q_kM r127 c n)) _ _
              refine q_RT_seg (g2 := (68, [(0, .ref 64), (1, .int a1)], [], (q_kM (q_sA r127 15 (upd (r127.1 15) 0 (vp_nar .boolean 0))) c n))) 1 (fun _ _ => rfl) ?_
              exact q_RT_ret rfl rfl rfl
          | false =>
            refine q_RT_cF ?_
            show q_RT _ _ _ (55, [(0, .ref 64), (1, .int a1)], [.int 0, .int 1, .ref 79], (q_kM (q_sA r122 15 (upd (r122.1 15) 2 (vp_nar .boolean 1))) c n)) _ _
            generalize (q_sA r122 15 (upd (r122.1 15) 2 (vp_nar .boolean 1))) = r128
            refine q_RT_let ?_
            show q_RT _ _ _ (55, [(0, .ref 64), (1, .int a1)], [.int 0, .int 1, .ref 79], (q_kM r128 c n)) _ _
            refine q_RT_seg (g2 := (64, [(0, .ref 64), (1, .int a1)], [.int 7, .int a1, .int 0, .ref 79], (q_kM (q_sA r128 15 (upd (r128.1 15) 1 (vp_nar .boolean 0))) c n))) 6 (fun _ _ => rfl) ?_
            refine q_RT_call (v := (some (.int (q_b (dz_M206 (q_sA r128 15 (upd (r128.1 15) 1 (vp_nar .boolean 0))) a1 7))))) (h2 := (q_kM (q_sA r128 15 (upd (r128.1 15) 1 (vp_nar .boolean 0))) c n)) rfl rfl ((dzt_M206 (q_sA r128 15 (upd (r128.1 15) 1 (vp_nar .boolean 0))) c n a1 7).le (Nat.le_of_ble_eq_true rfl)) ?_
            generalize dz_M206 (q_sA r128 15 (upd (r128.1 15) 1 (vp_nar .boolean 0))) a1 7 = r129
            refine q_RT_let ?_
            show q_RT _ _ _ (67, [(0, .ref 64), (1, .int a1)], [.int (q_b r129), .int 0, .ref 79], (q_kM (q_sA r128 15 (upd (r128.1 15) 1 (vp_nar .boolean 0))) c n)) _ _
            cases h45 : r129 with
            | true =>
              refine q_RT_cT ?_
              show q_RT _ _ _ (67, [(0, .ref 64), (1, .int a1)], [.int 1, .int 0, .ref 79], (q_kM (q_sA r128 15 (upd (r128.1 15) 1 (vp_nar .boolean 0))) c n)) _ _
              generalize (q_sA r128 15 (upd (r128.1 15) 1 (vp_nar .boolean 0))) = r130
              refine q_RT_let ?_
              show q_RT _ _ _ (67, [(0, .ref 64), (1, .int a1)], [.int 1, .int 0, .ref 79], (q_kM r130 c n)) _ _
              refine q_RT_seg (g2 := (68, [(0, .ref 64), (1, .int a1)], [], (q_kM (q_sA r130 15 (upd (r130.1 15) 0 (vp_nar .boolean 1))) c n))) 1 (fun _ _ => rfl) ?_
              exact q_RT_ret rfl rfl rfl
            | false =>
              refine q_RT_cF ?_
              show q_RT _ _ _ (67, [(0, .ref 64), (1, .int a1)], [.int 0, .int 0, .ref 79], (q_kM (q_sA r128 15 (upd (r128.1 15) 1 (vp_nar .boolean 0))) c n)) _ _
              generalize (q_sA r128 15 (upd (r128.1 15) 1 (vp_nar .boolean 0))) = r131
              refine q_RT_let ?_
              show q_RT _ _ _ (67, [(0, .ref 64), (1, .int a1)], [.int 0, .int 0, .ref 79], (q_kM r131 c n)) _ _
              refine q_RT_seg (g2 := (68, [(0, .ref 64), (1, .int a1)], [], (q_kM (q_sA r131 15 (upd (r131.1 15) 0 (vp_nar .boolean 0))) c n))) 1 (fun _ _ => rfl) ?_
              exact q_RT_ret rfl rfl rfl
        | false =>
          refine q_RT_cF ?_
          show q_RT _ _ _ (43, [(0, .ref 64), (1, .int a1)], [.int 0, .int 2, .ref 79], (q_kM (q_sA r120 15 (upd (r120.1 15) 3 (vp_nar .boolean 0))) c n)) _ _
          generalize (q_sA r120 15 (upd (r120.1 15) 3 (vp_nar .boolean 0))) = r132
          refine q_RT_let ?_
          show q_RT _ _ _ (43, [(0, .ref 64), (1, .int a1)], [.int 0, .int 2, .ref 79], (q_kM r132 c n)) _ _
          refine q_RT_seg (g2 := (52, [(0, .ref 64), (1, .int a1)], [.int 6, .int a1, .int 1, .ref 79], (q_kM (q_sA r132 15 (upd (r132.1 15) 2 (vp_nar .boolean 0))) c n))) 6 (fun _ _ => rfl) ?_
          refine q_RT_call (v := (some (.int (q_b (dz_M206 (q_sA r132 15 (upd (r132.1 15) 2 (vp_nar .boolean 0))) a1 6))))) (h2 := (q_kM (q_sA r132 15 (upd (r132.1 15) 2 (vp_nar .boolean 0))) c n)) rfl rfl ((dzt_M206 (q_sA r132 15 (upd (r132.1 15) 2 (vp_nar .boolean 0))) c n a1 6).le (Nat.le_of_ble_eq_true rfl)) ?_
          generalize dz_M206 (q_sA r132 15 (upd (r132.1 15) 2 (vp_nar .boolean 0))) a1 6 = r133
          refine q_RT_let ?_
          show q_RT _ _ _ (55, [(0, .ref 64), (1, .int a1)], [.int (q_b r133), .int 1, .ref 79], (q_kM (q_sA r132 15 (upd (r132.1 15) 2 (vp_nar .boolean 0))) c n)) _ _
          cases h46 : r133 with
          | true =>
            refine q_RT_cT ?_
            show q_RT _ _ _ (55, [(0, .ref 64), (1, .int a1)], [.int 1, .int 1, .ref 79], (q_kM (q_sA r132 15 (upd (r132.1 15) 2 (vp_nar .boolean 0))) c n)) _ _
            generalize (q_sA r132 15 (upd (r132.1 15) 2 (vp_nar .boolean 0))) = r134
            refine q_RT_let ?_
            show q_RT _ _ _ (55, [(0, .ref 64), (1, .int a1)], [.int 1, .int 1, .ref 79], (q_kM r134 c n)) _ _
            refine q_RT_seg (g2 := (64, [(0, .ref 64), (1, .int a1)], [.int 7, .int a1, .int 0, .ref 79], (q_kM (q_sA r134 15 (upd (r134.1 15) 1 (vp_nar .boolean 1))) c n))) 6 (fun _ _ => rfl) ?_
            refine q_RT_call (v := (some (.int (q_b (dz_M206 (q_sA r134 15 (upd (r134.1 15) 1 (vp_nar .boolean 1))) a1 7))))) (h2 := (q_kM (q_sA r134 15 (upd (r134.1 15) 1 (vp_nar .boolean 1))) c n)) rfl rfl ((dzt_M206 (q_sA r134 15 (upd (r134.1 15) 1 (vp_nar .boolean 1))) c n a1 7).le (Nat.le_of_ble_eq_true rfl)) ?_
            generalize dz_M206 (q_sA r134 15 (upd (r134.1 15) 1 (vp_nar .boolean 1))) a1 7 = r135
            refine q_RT_let ?_
            show q_RT _ _ _ (67, [(0, .ref 64), (1, .int a1)], [.int (q_b r135), .int 0, .ref 79], (q_kM (q_sA r134 15 (upd (r134.1 15) 1 (vp_nar .boolean 1))) c n)) _ _
            cases h47 : r135 with
            | true =>
              refine q_RT_cT ?_
              show q_RT _ _ _ (67, [(0, .ref 64), (1, .int a1)], [.int 1, .int 0, .ref 79], (q_kM (q_sA r134 15 (upd (r134.1 15) 1 (vp_nar .boolean 1))) c n)) _ _
              generalize (q_sA r134 15 (upd (r134.1 15) 1 (vp_nar .boolean 1))) = r136
              refine q_RT_let ?_
              show q_RT _ _ _ (67, [(0, .ref 64), (1, .int a1)], [.int 1, .int 0, .ref 79], (q_kM r136 c n)) _ _
              refine q_RT_seg (g2 := (68, [(0, .ref 64), (1, .int a1)], [], (q_kM (q_sA r136 15 (upd (r136.1 15) 0 (vp_nar .boolean 1))) c n))) 1 (fun _ _ => rfl) ?_
              exact q_RT_ret rfl rfl rfl
            | false =>
              refine q_RT_cF ?_
              show q_RT _ _ _ (67, [(0, .ref 64), (1, .int a1)], [.int 0, .int 0, .ref 79], (q_kM (q_sA r134 15 (upd (r134.1 15) 1 (vp_nar .boolean 1))) c n)) _ _
              generalize (q_sA r134 15 (upd (r134.1 15) 1 (vp_nar .boolean 1))) = r137
              refine q_RT_let ?_
              show q_RT _ _ _ (67, [(0, .ref 64), (1, .int a1)], [.int 0, .int 0, .ref 79], (q_kM r137 c n)) _ _
              refine q_RT_seg (g2 := (68, [(0, .ref 64), (1, .int a1)], [], (q_kM (q_sA r137 15 (upd (r137.1 15) 0 (vp_nar .boolean 0))) c n))) 1 (fun _ _ => rfl) ?_
              exact q_RT_ret rfl rfl rfl
          | false =>
            refine q_RT_cF ?_
            show q_RT _ _ _ (55, [(0, .ref 64), (1, .int a1)], [.int 0, .int 1, .ref 79], (q_kM (q_sA r132 15 (upd (r132.1 15) 2 (vp_nar .boolean 0))) c n)) _ _
            generalize (q_sA r132 15 (upd (r132.1 15) 2 (vp_nar .boolean 0))) = r138
            refine q_RT_let ?_
            show q_RT _ _ _ (55, [(0, .ref 64), (1, .int a1)], [.int 0, .int 1, .ref 79], (q_kM r138 c n)) _ _
            refine q_RT_seg (g2 := (64, [(0, .ref 64), (1, .int a1)], [.int 7, .int a1, .int 0, .ref 79], (q_kM (q_sA r138 15 (upd (r138.1 15) 1 (vp_nar .boolean 0))) c n))) 6 (fun _ _ => rfl) ?_
            refine q_RT_call (v := (some (.int (q_b (dz_M206 (q_sA r138 15 (upd (r138.1 15) 1 (vp_nar .boolean 0))) a1 7))))) (h2 := (q_kM (q_sA r138 15 (upd (r138.1 15) 1 (vp_nar .boolean 0))) c n)) rfl rfl ((dzt_M206 (q_sA r138 15 (upd (r138.1 15) 1 (vp_nar .boolean 0))) c n a1 7).le (Nat.le_of_ble_eq_true rfl)) ?_
            generalize dz_M206 (q_sA r138 15 (upd (r138.1 15) 1 (vp_nar .boolean 0))) a1 7 = r139
            refine q_RT_let ?_
            show q_RT _ _ _ (67, [(0, .ref 64), (1, .int a1)], [.int (q_b r139), .int 0, .ref 79], (q_kM (q_sA r138 15 (upd (r138.1 15) 1 (vp_nar .boolean 0))) c n)) _ _
            cases h48 : r139 with
            | true =>
              refine q_RT_cT ?_
              show q_RT _ _ _ (67, [(0, .ref 64), (1, .int a1)], [.int 1, .int 0, .ref 79], (q_kM (q_sA r138 15 (upd (r138.1 15) 1 (vp_nar .boolean 0))) c n)) _ _
              generalize (q_sA r138 15 (upd (r138.1 15) 1 (vp_nar .boolean 0))) = r140
              refine q_RT_let ?_
              show q_RT _ _ _ (67, [(0, .ref 64), (1, .int a1)], [.int 1, .int 0, .ref 79], (q_kM r140 c n)) _ _
              refine q_RT_seg (g2 := (68, [(0, .ref 64), (1, .int a1)], [], (q_kM (q_sA r140 15 (upd (r140.1 15) 0 (vp_nar .boolean 1))) c n))) 1 (fun _ _ => rfl) ?_
              exact q_RT_ret rfl rfl rfl
            | false =>
              refine q_RT_cF ?_
              show q_RT _ _ _ (67, [(0, .ref 64), (1, .int a1)], [.int 0, .int 0, .ref 79], (q_kM (q_sA r138 15 (upd (r138.1 15) 1 (vp_nar .boolean 0))) c n)) _ _
              generalize (q_sA r138 15 (upd (r138.1 15) 1 (vp_nar .boolean 0))) = r141
              refine q_RT_let ?_
              show q_RT _ _ _ (67, [(0, .ref 64), (1, .int a1)], [.int 0, .int 0, .ref 79], (q_kM r141 c n)) _ _
              refine q_RT_seg (g2 := (68, [(0, .ref 64), (1, .int a1)], [], (q_kM (q_sA r141 15 (upd (r141.1 15) 0 (vp_nar .boolean 0))) c n))) 1 (fun _ _ => rfl) ?_
              exact q_RT_ret rfl rfl rfl
    | false =>
      refine q_RT_cF ?_
      show q_RT _ _ _ (21, [(0, .ref 64), (1, .int a1)], [.int 0, .int 4, .ref 79], (q_kM (q_sA s 15 (upd (s.1 15) 5 (vp_nar .boolean 0))) c n)) _ _
      generalize (q_sA s 15 (upd (s.1 15) 5 (vp_nar .boolean 0))) = r142
      refine q_RT_let ?_
      show q_RT _ _ _ (21, [(0, .ref 64), (1, .int a1)], [.int 0, .int 4, .ref 79], (q_kM r142 c n)) _ _
      refine q_RT_seg (g2 := (29, [(0, .ref 64), (1, .int a1)], [.int 2, .int a1, .int 3, .ref 79], (q_kM (q_sA r142 15 (upd (r142.1 15) 4 (vp_nar .boolean 0))) c n))) 6 (fun _ _ => rfl) ?_
      refine q_RT_call (v := (some (.int (q_b (dz_M206 (q_sA r142 15 (upd (r142.1 15) 4 (vp_nar .boolean 0))) a1 2))))) (h2 := (q_kM (q_sA r142 15 (upd (r142.1 15) 4 (vp_nar .boolean 0))) c n)) rfl rfl ((dzt_M206 (q_sA r142 15 (upd (r142.1 15) 4 (vp_nar .boolean 0))) c n a1 2).le (Nat.le_of_ble_eq_true rfl)) ?_
      generalize dz_M206 (q_sA r142 15 (upd (r142.1 15) 4 (vp_nar .boolean 0))) a1 2 = r143
      refine q_RT_let ?_
      show q_RT _ _ _ (32, [(0, .ref 64), (1, .int a1)], [.int (q_b r143), .int 3, .ref 79], (q_kM (q_sA r142 15 (upd (r142.1 15) 4 (vp_nar .boolean 0))) c n)) _ _
      cases h49 : r143 with
      | true =>
        refine q_RT_cT ?_
        show q_RT _ _ _ (32, [(0, .ref 64), (1, .int a1)], [.int 1, .int 3, .ref 79], (q_kM (q_sA r142 15 (upd (r142.1 15) 4 (vp_nar .boolean 0))) c n)) _ _
        generalize (q_sA r142 15 (upd (r142.1 15) 4 (vp_nar .boolean 0))) = r144
        refine q_RT_let ?_
        show q_RT _ _ _ (32, [(0, .ref 64), (1, .int a1)], [.int 1, .int 3, .ref 79], (q_kM r144 c n)) _ _
        refine q_RT_seg (g2 := (40, [(0, .ref 64), (1, .int a1)], [.int 3, .int a1, .int 2, .ref 79], (q_kM (q_sA r144 15 (upd (r144.1 15) 3 (vp_nar .boolean 1))) c n))) 6 (fun _ _ => rfl) ?_
        refine q_RT_call (v := (some (.int (q_b (dz_M206 (q_sA r144 15 (upd (r144.1 15) 3 (vp_nar .boolean 1))) a1 3))))) (h2 := (q_kM (q_sA r144 15 (upd (r144.1 15) 3 (vp_nar .boolean 1))) c n)) rfl rfl ((dzt_M206 (q_sA r144 15 (upd (r144.1 15) 3 (vp_nar .boolean 1))) c n a1 3).le (Nat.le_of_ble_eq_true rfl)) ?_
        generalize dz_M206 (q_sA r144 15 (upd (r144.1 15) 3 (vp_nar .boolean 1))) a1 3 = r145
        refine q_RT_let ?_
        show q_RT _ _ _ (43, [(0, .ref 64), (1, .int a1)], [.int (q_b r145), .int 2, .ref 79], (q_kM (q_sA r144 15 (upd (r144.1 15) 3 (vp_nar .boolean 1))) c n)) _ _
        cases h50 : r145 with
        | true =>
          refine q_RT_cT ?_
          show q_RT _ _ _ (43, [(0, .ref 64), (1, .int a1)], [.int 1, .int 2, .ref 79], (q_kM (q_sA r144 15 (upd (r144.1 15) 3 (vp_nar .boolean 1))) c n)) _ _
          generalize (q_sA r144 15 (upd (r144.1 15) 3 (vp_nar .boolean 1))) = r146
          refine q_RT_let ?_
          show q_RT _ _ _ (43, [(0, .ref 64), (1, .int a1)], [.int 1, .int 2, .ref 79], (q_kM r146 c n)) _ _
          refine q_RT_seg (g2 := (52, [(0, .ref 64), (1, .int a1)], [.int 6, .int a1, .int 1, .ref 79], (q_kM (q_sA r146 15 (upd (r146.1 15) 2 (vp_nar .boolean 1))) c n))) 6 (fun _ _ => rfl) ?_
          refine q_RT_call (v := (some (.int (q_b (dz_M206 (q_sA r146 15 (upd (r146.1 15) 2 (vp_nar .boolean 1))) a1 6))))) (h2 := (q_kM (q_sA r146 15 (upd (r146.1 15) 2 (vp_nar .boolean 1))) c n)) rfl rfl ((dzt_M206 (q_sA r146 15 (upd (r146.1 15) 2 (vp_nar .boolean 1))) c n a1 6).le (Nat.le_of_ble_eq_true rfl)) ?_
          generalize dz_M206 (q_sA r146 15 (upd (r146.1 15) 2 (vp_nar .boolean 1))) a1 6 = r147
          refine q_RT_let ?_
          show q_RT _ _ _ (55, [(0, .ref 64), (1, .int a1)], [.int (q_b r147), .int 1, .ref 79], (q_kM (q_sA r146 15 (upd (r146.1 15) 2 (vp_nar .boolean 1))) c n)) _ _
          cases h51 : r147 with
          | true =>
            refine q_RT_cT ?_
            show q_RT _ _ _ (55, [(0, .ref 64), (1, .int a1)], [.int 1, .int 1, .ref 79], (q_kM (q_sA r146 15 (upd (r146.1 15) 2 (vp_nar .boolean 1))) c n)) _ _
            generalize (q_sA r146 15 (upd (r146.1 15) 2 (vp_nar .boolean 1))) = r148
            refine q_RT_let ?_
            show q_RT _ _ _ (55, [(0, .ref 64), (1, .int a1)], [.int 1, .int 1, .ref 79], (q_kM r148 c n)) _ _
            refine q_RT_seg (g2 := (64, [(0, .ref 64), (1, .int a1)], [.int 7, .int a1, .int 0, .ref 79], (q_kM (q_sA r148 15 (upd (r148.1 15) 1 (vp_nar .boolean 1))) c n))) 6 (fun _ _ => rfl) ?_
            refine q_RT_call (v := (some (.int (q_b (dz_M206 (q_sA r148 15 (upd (r148.1 15) 1 (vp_nar .boolean 1))) a1 7))))) (h2 := (q_kM (q_sA r148 15 (upd (r148.1 15) 1 (vp_nar .boolean 1))) c n)) rfl rfl ((dzt_M206 (q_sA r148 15 (upd (r148.1 15) 1 (vp_nar .boolean 1))) c n a1 7).le (Nat.le_of_ble_eq_true rfl)) ?_
            generalize dz_M206 (q_sA r148 15 (upd (r148.1 15) 1 (vp_nar .boolean 1))) a1 7 = r149
            refine q_RT_let ?_
            show q_RT _ _ _ (67, [(0, .ref 64), (1, .int a1)], [.int (q_b r149), .int 0, .ref 79], (q_kM (q_sA r148 15 (upd (r148.1 15) 1 (vp_nar .boolean 1))) c n)) _ _
            cases h52 : r149 with
            | true =>
              refine q_RT_cT ?_
              show q_RT _ _ _ (67, [(0, .ref 64), (1, .int a1)], [.int 1, .int 0, .ref 79], (q_kM (q_sA r148 15 (upd (r148.1 15) 1 (vp_nar .boolean 1))) c n)) _ _
              generalize (q_sA r148 15 (upd (r148.1 15) 1 (vp_nar .boolean 1))) = r150
              refine q_RT_let ?_
              show q_RT _ _ _ (67, [(0, .ref 64), (1, .int a1)], [.int 1, .int 0, .ref 79], (q_kM r150 c n)) _ _
              refine q_RT_seg (g2 := (68, [(0, .ref 64), (1, .int a1)], [], (q_kM (q_sA r150 15 (upd (r150.1 15) 0 (vp_nar .boolean 1))) c n))) 1 (fun _ _ => rfl) ?_
              exact q_RT_ret rfl rfl rfl
            | false =>
              refine q_RT_cF ?_
              show q_RT _ _ _ (67, [(0, .ref 64), (1, .int a1)], [.int 0, .int 0, .ref 79], (q_kM (q_sA r148 15 (upd (r148.1 15) 1 (vp_nar .boolean 1))) c n)) _ _
              generalize (q_sA r148 15 (upd (r148.1 15) 1 (vp_nar .boolean 1))) = r151
              refine q_RT_let ?_
              show q_RT _ _ _ (67, [(0, .ref 64), (1, .int a1)], [.int 0, .int 0, .ref 79], (q_kM r151 c n)) _ _
              refine q_RT_seg (g2 := (68, [(0, .ref 64), (1, .int a1)], [], (q_kM (q_sA r151 15 (upd (r151.1 15) 0 (vp_nar .boolean 0))) c n))) 1 (fun _ _ => rfl) ?_
              exact q_RT_ret rfl rfl rfl
          | false =>
            refine q_RT_cF ?_
            show q_RT _ _ _ (55, [(0, .ref 64), (1, .int a1)], [.int 0, .int 1, .ref 79], (q_kM (q_sA r146 15 (upd (r146.1 15) 2 (vp_nar .boolean 1))) c n)) _ _
            generalize (q_sA r146 15 (upd (r146.1 15) 2 (vp_nar .boolean 1))) = r152
            refine q_RT_let ?_
            show q_RT _ _ _ (55, [(0, .ref 64), (1, .int a1)], [.int 0, .int 1, .ref 79], (q_kM r152 c n)) _ _
            refine q_RT_seg (g2 := (64, [(0, .ref 64), (1, .int a1)], [.int 7, .int a1, .int 0, .ref 79], (q_kM (q_sA r152 15 (upd (r152.1 15) 1 (vp_nar .boolean 0))) c n))) 6 (fun _ _ => rfl) ?_
            refine q_RT_call (v := (some (.int (q_b (dz_M206 (q_sA r152 15 (upd (r152.1 15) 1 (vp_nar .boolean 0))) a1 7))))) (h2 := (q_kM (q_sA r152 15 (upd (r152.1 15) 1 (vp_nar .boolean 0))) c n)) rfl rfl ((dzt_M206 (q_sA r152 15 (upd (r152.1 15) 1 (vp_nar .boolean 0))) c n a1 7).le (Nat.le_of_ble_eq_true rfl)) ?_
            generalize dz_M206 (q_sA r152 15 (upd (r152.1 15) 1 (vp_nar .boolean 0))) a1 7 = r153
            refine q_RT_let ?_
            show q_RT _ _ _ (67, [(0, .ref 64), (1, .int a1)], [.int (q_b r153), .int 0, .ref 79], (q_kM (q_sA r152 15 (upd (r152.1 15) 1 (vp_nar .boolean 0))) c n)) _ _
            cases h53 : r153 with
            | true =>
              refine q_RT_cT ?_
              show q_RT _ _ _ (67, [(0, .ref 64), (1, .int a1)], [.int 1, .int 0, .ref 79], (q_kM (q_sA r152 15 (upd (r152.1 15) 1 (vp_nar .boolean 0))) c n)) _ _
              generalize (q_sA r152 15 (upd (r152.1 15) 1 (vp_nar .boolean 0))) = r154
              refine q_RT_let ?_
              show q_RT _ _ _ (67, [(0, .ref 64), (1, .int a1)], [.int 1, .int 0, .ref 79], (q_kM r154 c n)) _ _
              refine q_RT_seg (g2 := (68, [(0, .ref 64), (1, .int a1)], [], (q_kM (q_sA r154 15 (upd (r154.1 15) 0 (vp_nar .boolean 1))) c n))) 1 (fun _ _ => rfl) ?_
              exact q_RT_ret rfl rfl rfl
            | false =>
              refine q_RT_cF ?_
              show q_RT _ _ _ (67, [(0, .ref 64), (1, .int a1)], [.int 0, .int 0, .ref 79], (q_kM (q_sA r152 15 (upd (r152.1 15) 1 (vp_nar .boolean 0))) c n)) _ _
              generalize (q_sA r152 15 (upd (r152.1 15) 1 (vp_nar .boolean 0))) = r155
              refine q_RT_let ?_
              show q_RT _ _ _ (67, [(0, .ref 64), (1, .int a1)], [.int 0, .int 0, .ref 79], (q_kM r155 c n)) _ _
              refine q_RT_seg (g2 := (68, [(0, .ref 64), (1, .int a1)], [], (q_kM (q_sA r155 15 (upd (r155.1 15) 0 (vp_nar .boolean 0))) c n))) 1 (fun _ _ => rfl) ?_
              exact q_RT_ret rfl rfl rfl
        | false =>
          refine q_RT_cF ?_
          show q_RT _ _ _ (43, [(0, .ref 64), (1, .int a1)], [.int 0, .int 2, .ref 79], (q_kM (q_sA r144 15 (upd (r144.1 15) 3 (vp_nar .boolean 1))) c n)) _ _
          generalize (q_sA r144 15 (upd (r144.1 15) 3 (vp_nar .boolean 1))) = r156
          refine q_RT_let ?_
          show q_RT _ _ _ (43, [(0, .ref 64), (1, .int a1)], [.int 0, .int 2, .ref 79], (q_kM r156 c n)) _ _
          refine q_RT_seg (g2 := (52, [(0, .ref 64), (1, .int a1)], [.int 6, .int a1, .int 1, .ref 79], (q_kM (q_sA r156 15 (upd (r156.1 15) 2 (vp_nar .boolean 0))) c n))) 6 (fun _ _ => rfl) ?_
          refine q_RT_call (v := (some (.int (q_b (dz_M206 (q_sA r156 15 (upd (r156.1 15) 2 (vp_nar .boolean 0))) a1 6))))) (h2 := (q_kM (q_sA r156 15 (upd (r156.1 15) 2 (vp_nar .boolean 0))) c n)) rfl rfl ((dzt_M206 (q_sA r156 15 (upd (r156.1 15) 2 (vp_nar .boolean 0))) c n a1 6).le (Nat.le_of_ble_eq_true rfl)) ?_
          generalize dz_M206 (q_sA r156 15 (upd (r156.1 15) 2 (vp_nar .boolean 0))) a1 6 = r157
          refine q_RT_let ?_
          show q_RT _ _ _ (55, [(0, .ref 64), (1, .int a1)], [.int (q_b r157), .int 1, .ref 79], (q_kM (q_sA r156 15 (upd (r156.1 15) 2 (vp_nar .boolean 0))) c n)) _ _
          cases h54 : r157 with
          | true =>
            refine q_RT_cT ?_
            show q_RT _ _ _ (55, [(0, .ref 64), (1, .int a1)], [.int 1, .int 1, .ref 79], (q_kM (q_sA r156 15 (upd (r156.1 15) 2 (vp_nar .boolean 0))) c n)) _ _
            generalize (q_sA r156 15 (upd (r156.1 15) 2 (vp_nar .boolean 0))) = r158
            refine q_RT_let ?_
            show q_RT _ _ _ (55, [(0, .ref 64), (1, .int a1)], [.int 1, .int 1, .ref 79], (q_kM r158 c n)) _ _
            refine q_RT_seg (g2 := (64, [(0, .ref 64), (1, .int a1)], [.int 7, .int a1, .int 0, .ref 79], (q_kM (q_sA r158 15 (upd (r158.1 15) 1 (vp_nar .boolean 1))) c n))) 6 (fun _ _ => rfl) ?_
            refine q_RT_call (v := (some (.int (q_b (dz_M206 (q_sA r158 15 (upd (r158.1 15) 1 (vp_nar .boolean 1))) a1 7))))) (h2 := (q_kM (q_sA r158 15 (upd (r158.1 15) 1 (vp_nar .boolean 1))) c n)) rfl rfl ((dzt_M206 (q_sA r158 15 (upd (r158.1 15) 1 (vp_nar .boolean 1))) c n a1 7).le (Nat.le_of_ble_eq_true rfl)) ?_
            generalize dz_M206 (q_sA r158 15 (upd (r158.1 15) 1 (vp_nar .boolean 1))) a1 7 = r159
            refine q_RT_let ?_
            show q_RT _ _ _ (67, [(0, .ref 64), (1, .int a1)], [.int (q_b r159), .int 0, .ref 79], (q_kM (q_sA r158 15 (upd (r158.1 15) 1 (vp_nar .boolean 1))) c n)) _ _
            cases h55 : r159 with
            | true =>
              refine q_RT_cT ?_
              show q_RT _ _ _ (67, [(0, .ref 64), (1, .int a1)], [.int 1, .int 0, .ref 79], (q_kM (q_sA r158 15 (upd (r158.1 15) 1 (vp_nar .boolean 1))) c n)) _ _
              generalize (q_sA r158 15 (upd (r158.1 15) 1 (vp_nar .boolean 1))) = r160
              refine q_RT_let ?_
              show q_RT _ _ _ (67, [(0, .ref 64), (1, .int a1)], [.int 1, .int 0, .ref 79], (q_kM r160 c n)) _ _
              refine q_RT_seg (g2 := (68, [(0, .ref 64), (1, .int a1)], [], (q_kM (q_sA r160 15 (upd (r160.1 15) 0 (vp_nar .boolean 1))) c n))) 1 (fun _ _ => rfl) ?_
              exact q_RT_ret rfl rfl rfl
            | false =>
              refine q_RT_cF ?_
              show q_RT _ _ _ (67, [(0, .ref 64), (1, .int a1)], [.int 0, .int 0, .ref 79], (q_kM (q_sA r158 15 (upd (r158.1 15) 1 (vp_nar .boolean 1))) c n)) _ _
              generalize (q_sA r158 15 (upd (r158.1 15) 1 (vp_nar .boolean 1))) = r161
              refine q_RT_let ?_
              show q_RT _ _ _ (67, [(0, .ref 64), (1, .int a1)], [.int 0, .int 0, .ref 79], (q_kM r161 c n)) _ _
              refine q_RT_seg (g2 := (68, [(0, .ref 64), (1, .int a1)], [], (q_kM (q_sA r161 15 (upd (r161.1 15) 0 (vp_nar .boolean 0))) c n))) 1 (fun _ _ => rfl) ?_
              exact q_RT_ret rfl rfl rfl
          | false =>
            refine q_RT_cF ?_
            show q_RT _ _ _ (55, [(0, .ref 64), (1, .int a1)], [.int 0, .int 1, .ref 79], (q_kM (q_sA r156 15 (upd (r156.1 15) 2 (vp_nar .boolean 0))) c n)) _ _
            generalize (q_sA r156 15 (upd (r156.1 15) 2 (vp_nar .boolean 0))) = r162
            refine q_RT_let ?_
            show q_RT _ _ _ (55, [(0, .ref 64), (1, .int a1)], [.int 0, .int 1, .ref 79], (q_kM r162 c n)) _ _
            refine q_RT_seg (g2 := (64, [(0, .ref 64), (1, .int a1)], [.int 7, .int a1, .int 0, .ref 79], (q_kM (q_sA r162 15 (upd (r162.1 15) 1 (vp_nar .boolean 0))) c n))) 6 (fun _ _ => rfl) ?_
            refine q_RT_call (v := (some (.int (q_b (dz_M206 (q_sA r162 15 (upd (r162.1 15) 1 (vp_nar .boolean 0))) a1 7))))) (h2 := (q_kM (q_sA r162 15 (upd (r162.1 15) 1 (vp_nar .boolean 0))) c n)) rfl rfl ((dzt_M206 (q_sA r162 15 (upd (r162.1 15) 1 (vp_nar .boolean 0))) c n a1 7).le (Nat.le_of_ble_eq_true rfl)) ?_
            generalize dz_M206 (q_sA r162 15 (upd (r162.1 15) 1 (vp_nar .boolean 0))) a1 7 = r163
            refine q_RT_let ?_
            show q_RT _ _ _ (67, [(0, .ref 64), (1, .int a1)], [.int (q_b r163), .int 0, .ref 79], (q_kM (q_sA r162 15 (upd (r162.1 15) 1 (vp_nar .boolean 0))) c n)) _ _
            cases h56 : r163 with
            | true =>
              refine q_RT_cT ?_
              show q_RT _ _ _ (67, [(0, .ref 64), (1, .int a1)], [.int 1, .int 0, .ref 79], (q_kM (q_sA r162 15 (upd (r162.1 15) 1 (vp_nar .boolean 0))) c n)) _ _
              generalize (q_sA r162 15 (upd (r162.1 15) 1 (vp_nar .boolean 0))) = r164
              refine q_RT_let ?_
              show q_RT _ _ _ (67, [(0, .ref 64), (1, .int a1)], [.int 1, .int 0, .ref 79], (q_kM r164 c n)) _ _
              refine q_RT_seg (g2 := (68, [(0, .ref 64), (1, .int a1)], [], (q_kM (q_sA r164 15 (upd (r164.1 15) 0 (vp_nar .boolean 1))) c n))) 1 (fun _ _ => rfl) ?_
              exact q_RT_ret rfl rfl rfl
            | false =>
              refine q_RT_cF ?_
              show q_RT _ _ _ (67, [(0, .ref 64), (1, .int a1)], [.int 0, .int 0, .ref 79], (q_kM (q_sA r162 15 (upd (r162.1 15) 1 (vp_nar .boolean 0))) c n)) _ _
              generalize (q_sA r162 15 (upd (r162.1 15) 1 (vp_nar .boolean 0))) = r165
              refine q_RT_let ?_
              show q_RT _ _ _ (67, [(0, .ref 64), (1, .int a1)], [.int 0, .int 0, .ref 79], (q_kM r165 c n)) _ _
              refine q_RT_seg (g2 := (68, [(0, .ref 64), (1, .int a1)], [], (q_kM (q_sA r165 15 (upd (r165.1 15) 0 (vp_nar .boolean 0))) c n))) 1 (fun _ _ => rfl) ?_
              exact q_RT_ret rfl rfl rfl
      | false =>
        refine q_RT_cF ?_
        show q_RT _ _ _ (32, [(0, .ref 64), (1, .int a1)], [.int 0, .int 3, .ref 79], (q_kM (q_sA r142 15 (upd (r142.1 15) 4 (vp_nar .boolean 0))) c n)) _ _
        generalize (q_sA r142 15 (upd (r142.1 15) 4 (vp_nar .boolean 0))) = r166
        refine q_RT_let ?_
        show q_RT _ _ _ (32, [(0, .ref 64), (1, .int a1)], [.int 0, .int 3, .ref 79], (q_kM r166 c n)) _ _
        refine q_RT_seg (g2 := (40, [(0, .ref 64), (1, .int a1)], [.int 3, .int a1, .int 2, .ref 79], (q_kM (q_sA r166 15 (upd (r166.1 15) 3 (vp_nar .boolean 0))) c n))) 6 (fun _ _ => rfl) ?_
        refine q_RT_call (v := (some (.int (q_b (dz_M206 (q_sA r166 15 (upd (r166.1 15) 3 (vp_nar .boolean 0))) a1 3))))) (h2 := (q_kM (q_sA r166 15 (upd (r166.1 15) 3 (vp_nar .boolean 0))) c n)) rfl rfl ((dzt_M206 (q_sA r166 15 (upd (r166.1 15) 3 (vp_nar .boolean 0))) c n a1 3).le (Nat.le_of_ble_eq_true rfl)) ?_
        generalize dz_M206 (q_sA r166 15 (upd (r166.1 15) 3 (vp_nar .boolean 0))) a1 3 = r167
        refine q_RT_let ?_
        show q_RT _ _ _ (43, [(0, .ref 64), (1, .int a1)], [.int (q_b r167), .int 2, .ref 79], (q_kM (q_sA r166 15 (upd (r166.1 15) 3 (vp_nar .boolean 0))) c n)) _ _
        cases h57 : r167 with
        | true =>
          refine q_RT_cT ?_
          show q_RT _ _ _ (43, [(0, .ref 64), (1, .int a1)], [.int 1, .int 2, .ref 79], (q_kM (q_sA r166 15 (upd (r166.1 15) 3 (vp_nar .boolean 0))) c n)) _ _
          generalize (q_sA r166 15 (upd (r166.1 15) 3 (vp_nar .boolean 0))) = r168
          refine q_RT_let ?_
          show q_RT _ _ _ (43, [(0, .ref 64), (1, .int a1)], [.int 1, .int 2, .ref 79], (q_kM r168 c n)) _ _
          refine q_RT_seg (g2 := (52, [(0, .ref 64), (1, .int a1)], [.int 6, .int a1, .int 1, .ref 79], (q_kM (q_sA r168 15 (upd (r168.1 15) 2 (vp_nar .boolean 1))) c n))) 6 (fun _ _ => rfl) ?_
          refine q_RT_call (v := (some (.int (q_b (dz_M206 (q_sA r168 15 (upd (r168.1 15) 2 (vp_nar .boolean 1))) a1 6))))) (h2 := (q_kM (q_sA r168 15 (upd (r168.1 15) 2 (vp_nar .boolean 1))) c n)) rfl rfl ((dzt_M206 (q_sA r168 15 (upd (r168.1 15) 2 (vp_nar .boolean 1))) c n a1 6).le (Nat.le_of_ble_eq_true rfl)) ?_
          generalize dz_M206 (q_sA r168 15 (upd (r168.1 15) 2 (vp_nar .boolean 1))) a1 6 = r169
          refine q_RT_let ?_
          show q_RT _ _ _ (55, [(0, .ref 64), (1, .int a1)], [.int (q_b r169), .int 1, .ref 79], (q_kM (q_sA r168 15 (upd (r168.1 15) 2 (vp_nar .boolean 1))) c n)) _ _
          cases h58 : r169 with
          | true =>
            refine q_RT_cT ?_
            show q_RT _ _ _ (55, [(0, .ref 64), (1, .int a1)], [.int 1, .int 1, .ref 79], (q_kM (q_sA r168 15 (upd (r168.1 15) 2 (vp_nar .boolean 1))) c n)) _ _
            generalize (q_sA r168 15 (upd (r168.1 15) 2 (vp_nar .boolean 1))) = r170
            refine q_RT_let ?_
            show q_RT _ _ _ (55, [(0, .ref 64), (1, .int a1)], [.int 1, .int 1, .ref 79], (q_kM r170 c n)) _ _
            refine q_RT_seg (g2 := (64, [(0, .ref 64), (1, .int a1)], [.int 7, .int a1, .int 0, .ref 79], (q_kM (q_sA r170 15 (upd (r170.1 15) 1 (vp_nar .boolean 1))) c n))) 6 (fun _ _ => rfl) ?_
            refine q_RT_call (v := (some (.int (q_b (dz_M206 (q_sA r170 15 (upd (r170.1 15) 1 (vp_nar .boolean 1))) a1 7))))) (h2 := (q_kM (q_sA r170 15 (upd (r170.1 15) 1 (vp_nar .boolean 1))) c n)) rfl rfl ((dzt_M206 (q_sA r170 15 (upd (r170.1 15) 1 (vp_nar .boolean 1))) c n a1 7).le (Nat.le_of_ble_eq_true rfl)) ?_
            generalize dz_M206 (q_sA r170 15 (upd (r170.1 15) 1 (vp_nar .boolean 1))) a1 7 = r171
            refine q_RT_let ?_
            show q_RT _ _ _ (67, [(0, .ref 64), (1, .int a1)], [.int (q_b r171), .int 0, .ref 79], (q_kM (q_sA r170 15 (upd (r170.1 15) 1 (vp_nar .boolean 1))) c n)) _ _
            cases h59 : r171 with
            | true =>
              refine q_RT_cT ?_
              show q_RT _ _ _ (67, [(0, .ref 64), (1, .int a1)], [.int 1, .int 0, .ref 79], (q_kM (q_sA r170 15 (upd (r170.1 15) 1 (vp_nar .boolean 1))) c n)) _ _
              generalize (q_sA r170 15 (upd (r170.1 15) 1 (vp_nar .boolean 1))) = r172
              refine q_RT_let ?_
              show q_RT _ _ _ (67, [(0, .ref 64), (1, .int a1)], [.int 1, .int 0, .ref 79], (q_kM r172 c n)) _ _
              refine q_RT_seg (g2 := (68, [(0, .ref 64), (1, .int a1)], [], (q_kM (q_sA r172 15 (upd (r172.1 15) 0 (vp_nar .boolean 1))) c n))) 1 (fun _ _ => rfl) ?_
              exact q_RT_ret rfl rfl rfl
            | false =>
              refine q_RT_cF ?_
              show q_RT _ _ _ (67, [(0, .ref 64), (1, .int a1)], [.int 0, .int 0, .ref 79], (q_kM (q_sA r170 15 (upd (r170.1 15) 1 (vp_nar .boolean 1))) c n)) _ _
              generalize (q_sA r170 15 (upd (r170.1 15) 1 (vp_nar .boolean 1))) = r173
              refine q_RT_let ?_
              show q_RT _ _ _ (67, [(0, .ref 64), (1, .int a1)], [.int 0, .int 0, .ref 79], (q_kM r173 c n)) _ _
              refine q_RT_seg (g2 := (68, [(0, .ref 64), (1, .int a1)], [], (q_kM (q_sA r173 15 (upd (r173.1 15) 0 (vp_nar .boolean 0))) c n))) 1 (fun _ _ => rfl) ?_
              exact q_RT_ret rfl rfl rfl
          | false =>
            refine q_RT_cF ?_
            show q_RT _ _ _ (55, [(0, .ref 64), (1, .int a1)], [.int 0, .int 1, .ref 79], (q_kM (q_sA r168 15 (upd (r168.1 15) 2 (vp_nar .boolean 1))) c n)) _ _
            generalize (q_sA r168 15 (upd (r168.1 15) 2 (vp_nar .boolean 1))) = r174
            refine q_RT_let ?_
            show q_RT _ _ _ (55, [(0, .ref 64), (1, .int a1)], [.int 0, .int 1, .ref 79], (q_kM r174 c n)) _ _
            refine q_RT_seg (g2 := (64, [(0, .ref 64), (1, .int a1)], [.int 7, .int a1, .int 0, .ref 79], (q_kM (q_sA r174 15 (upd (r174.1 15) 1 (vp_nar .boolean 0))) c n))) 6 (fun _ _ => rfl) ?_
            refine q_RT_call (v := (some (.int (q_b (dz_M206 (q_sA r174 15 (upd (r174.1 15) 1 (vp_nar .boolean 0))) a1 7))))) (h2 := (q_kM (q_sA r174 15 (upd (r174.1 15) 1 (vp_nar .boolean 0))) c n)) rfl rfl ((dzt_M206 (q_sA r174 15 (upd (r174.1 15) 1 (vp_nar .boolean 0))) c n a1 7).le (Nat.le_of_ble_eq_true rfl)) ?_
            generalize dz_M206 (q_sA r174 15 (upd (r174.1 15) 1 (vp_nar .boolean 0))) a1 7 = r175
            refine q_RT_let ?_
            show q_RT _ _ _ (67, [(0, .ref 64), (1, .int a1)], [.int (q_b r175), .int 0, .ref 79], (q_kM (q_sA r174 15 (upd (r174.1 15) 1 (vp_nar .boolean 0))) c n)) _ _
            cases h60 : r175 with
            | true =>
              refine q_RT_cT ?_
              show q_RT _ _ _ (67, [(0, .ref 64), (1, .int a1)], [.int 1, .int 0, .ref 79], (q_kM (q_sA r174 15 (upd (r174.1 15) 1 (vp_nar .boolean 0))) c n)) _ _
              generalize (q_sA r174 15 (upd (r174.1 15) 1 (vp_nar .boolean 0))) = r176
              refine q_RT_let ?_
              show q_RT _ _ _ (67, [(0, .ref 64), (1, .int a1)], [.int 1, .int 0, .ref 79], (q_kM r176 c n)) _ _
              refine q_RT_seg (g2 := (68, [(0, .ref 64), (1, .int a1)], [], (q_kM (q_sA r176 15 (upd (r176.1 15) 0 (vp_nar .boolean 1))) c n))) 1 (fun _ _ => rfl) ?_
              exact q_RT_ret rfl rfl rfl
            | false =>
              refine q_RT_cF ?_
              show q_RT _ _ _ (67, [(0, .ref 64), (1, .int a1)], [.int 0, .int 0, .ref 79], (q_kM (q_sA r174 15 (upd (r174.1 15) 1 (vp_nar .boolean 0))) c n)) _ _
              generalize (q_sA r174 15 (upd (r174.1 15) 1 (vp_nar .boolean 0))) = r177
              refine q_RT_let ?_
              show q_RT _ _ _ (67, [(0, .ref 64), (1, .int a1)], [.int 0, .int 0, .ref 79], (q_kM r177 c n)) _ _
              refine q_RT_seg (g2 := (68, [(0, .ref 64), (1, .int a1)], [], (q_kM (q_sA r177 15 (upd (r177.1 15) 0 (vp_nar .boolean 0))) c n))) 1 (fun _ _ => rfl) ?_
              exact q_RT_ret rfl rfl rfl
        | false =>
          refine q_RT_cF ?_
          show q_RT _ _ _ (43, [(0, .ref 64), (1, .int a1)], [.int 0, .int 2, .ref 79], (q_kM (q_sA r166 15 (upd (r166.1 15) 3 (vp_nar .boolean 0))) c n)) _ _
          generalize (q_sA r166 15 (upd (r166.1 15) 3 (vp_nar .boolean 0))) = r178
          refine q_RT_let ?_
          show q_RT _ _ _ (43, [(0, .ref 64), (1, .int a1)], [.int 0, .int 2, .ref 79], (q_kM r178 c n)) _ _
          refine q_RT_seg (g2 := (52, [(0, .ref 64), (1, .int a1)], [.int 6, .int a1, .int 1, .ref 79], (q_kM (q_sA r178 15 (upd (r178.1 15) 2 (vp_nar .boolean 0))) c n))) 6 (fun _ _ => rfl) ?_
          refine q_RT_call (v := (some (.int (q_b (dz_M206 (q_sA r178 15 (upd (r178.1 15) 2 (vp_nar .boolean 0))) a1 6))))) (h2 := (q_kM (q_sA r178 15 (upd (r178.1 15) 2 (vp_nar .boolean 0))) c n)) rfl rfl ((dzt_M206 (q_sA r178 15 (upd (r178.1 15) 2 (vp_nar .boolean 0))) c n a1 6).le (Nat.le_of_ble_eq_true rfl)) ?_
          generalize dz_M206 (q_sA r178 15 (upd (r178.1 15) 2 (vp_nar .boolean 0))) a1 6 = r179
          refine q_RT_let ?_
          show q_RT _ _ _ (55, [(0, .ref 64), (1, .int a1)], [.int (q_b r179), .int 1, .ref 79], (q_kM (q_sA r178 15 (upd (r178.1 15) 2 (vp_nar .boolean 0))) c n)) _ _
          cases h61 : r179 with
          | true =>
            refine q_RT_cT ?_
            show q_RT _ _ _ (55, [(0, .ref 64), (1, .int a1)], [.int 1, .int 1, .ref 79], (q_kM (q_sA r178 15 (upd (r178.1 15) 2 (vp_nar .boolean 0))) c n)) _ _
            generalize (q_sA r178 15 (upd (r178.1 15) 2 (vp_nar .boolean 0))) = r180
            refine q_RT_let ?_
            show q_RT _ _ _ (55, [(0, .ref 64), (1, .int a1)], [.int 1, .int 1, .ref 79], (q_kM r180 c n)) _ _
            refine q_RT_seg (g2 := (64, [(0, .ref 64), (1, .int a1)], [.int 7, .int a1, .int 0, .ref 79], (q_kM (q_sA r180 15 (upd (r180.1 15) 1 (vp_nar .boolean 1))) c n))) 6 (fun _ _ => rfl) ?_
            refine q_RT_call (v := (some (.int (q_b (dz_M206 (q_sA r180 15 (upd (r180.1 15) 1 (vp_nar .boolean 1))) a1 7))))) (h2 := (q_kM (q_sA r180 15 (upd (r180.1 15) 1 (vp_nar .boolean 1))) c n)) rfl rfl ((dzt_M206 (q_sA r180 15 (upd (r180.1 15) 1 (vp_nar .boolean 1))) c n a1 7).le (Nat.le_of_ble_eq_true rfl)) ?_
            generalize dz_M206 (q_sA r180 15 (upd (r180.1 15) 1 (vp_nar .boolean 1))) a1 7 = r181
            refine q_RT_let ?_
            show q_RT _ _ _ (67, [(0, .ref 64), (1, .int a1)], [.int (q_b r181), .int 0, .ref 79], (q_kM (q_sA r180 15 (upd (r180.1 15) 1 (vp_nar .boolean 1))) c n)) _ _
            cases h62 : r181 with
            | true =>
              refine q_RT_cT ?_
              show q_RT _ _ _ (67, [(0, .ref 64), (1, .int a1)], [.int 1, .int 0, .ref 79], (q_kM (q_sA r180 15 (upd (r180.1 15) 1 (vp_nar .boolean 1))) c n)) _ _
              generalize (q_sA r180 15 (upd (r180.1 15) 1 (vp_nar .boolean 1))) = r182
              refine q_RT_let ?_
              show q_RT _ _ _ (67, [(0, .ref 64), (1, .int a1)], [.int 1, .int 0, .ref 79], (q_kM r182 c n)) _ _
              refine q_RT_seg (g2 := (68, [(0, .ref 64), (1, .int a1)], [], (q_kM (q_sA r182 15 (upd (r182.1 15) 0 (vp_nar .boolean 1))) c n))) 1 (fun _ _ => rfl) ?_
              exact q_RT_ret rfl rfl rfl
            | false =>
              refine q_RT_cF ?_
              show q_RT _ _ _ (67, [(0, .ref 64), (1, .int a1)], [.int 0, .int 0, .ref 79], (q_kM (q_sA r180 15 (upd (r180.1 15) 1 (vp_nar .boolean 1))) c n)) _ _
              generalize (q_sA r180 15 (upd (r180.1 15) 1 (vp_nar .boolean 1))) = r183
              refine q_RT_let ?_
              show q_RT _ _ _ (67, [(0, .ref 64), (1, .int a1)], [.int 0, .int 0, .ref 79], (q_kM r183 c n)) _ _
              refine q_RT_seg (g2 := (68, [(0, .ref 64), (1, .int a1)], [], (q_kM (q_sA r183 15 (upd (r183.1 15) 0 (vp_nar .boolean 0))) c n))) 1 (fun _ _ => rfl) ?_
              exact q_RT_ret rfl rfl rfl
          | false =>
            refine q_RT_cF ?_
            show q_RT _ _ _ (55, [(0, .ref 64), (1, .int a1)], [.int 0, .int 1, .ref 79], (q_kM (q_sA r178 15 (upd (r178.1 15) 2 (vp_nar .boolean 0))) c n)) _ _
            generalize (q_sA r178 15 (upd (r178.1 15) 2 (vp_nar .boolean 0))) = r184
            refine q_RT_let ?_
            show q_RT _ _ _ (55, [(0, .ref 64), (1, .int a1)], [.int 0, .int 1, .ref 79], (q_kM r184 c n)) _ _
            refine q_RT_seg (g2 := (64, [(0, .ref 64), (1, .int a1)], [.int 7, .int a1, .int 0, .ref 79], (q_kM (q_sA r184 15 (upd (r184.1 15) 1 (vp_nar .boolean 0))) c n))) 6 (fun _ _ => rfl) ?_
            refine q_RT_call (v := (some (.int (q_b (dz_M206 (q_sA r184 15 (upd (r184.1 15) 1 (vp_nar .boolean 0))) a1 7))))) (h2 := (q_kM (q_sA r184 15 (upd (r184.1 15) 1 (vp_nar .boolean 0))) c n)) rfl rfl ((dzt_M206 (q_sA r184 15 (upd (r184.1 15) 1 (vp_nar .boolean 0))) c n a1 7).le (Nat.le_of_ble_eq_true rfl)) ?_
            generalize dz_M206 (q_sA r184 15 (upd (r184.1 15) 1 (vp_nar .boolean 0))) a1 7 = r185
            refine q_RT_let ?_
            show q_RT _ _ _ (67, [(0, .ref 64), (1, .int a1)], [.int (q_b r185), .int 0, .ref 79], (q_kM (q_sA r184 15 (upd (r184.1 15) 1 (vp_nar .boolean 0))) c n)) _ _
            cases h63 : r185 with
            | true =>
              refine q_RT_cT ?_
              show q_RT _ _ _ (67, [(0, .ref 64), (1, .int a1)], [.int 1, .int 0, .ref 79], (q_kM (q_sA r184 15 (upd (r184.1 15) 1 (vp_nar .boolean 0))) c n)) _ _
              generalize (q_sA r184 15 (upd (r184.1 15) 1 (vp_nar .boolean 0))) = r186
              refine q_RT_let ?_
              show q_RT _ _ _ (67, [(0, .ref 64), (1, .int a1)], [.int 1, .int 0, .ref 79], (q_kM r186 c n)) _ _
              refine q_RT_seg (g2 := (68, [(0, .ref 64), (1, .int a1)], [], (q_kM (q_sA r186 15 (upd (r186.1 15) 0 (vp_nar .boolean 1))) c n))) 1 (fun _ _ => rfl) ?_
              exact q_RT_ret rfl rfl rfl
            | false =>
              refine q_RT_cF ?_
              show q_RT _ _ _ (67, [(0, .ref 64), (1, .int a1)], [.int 0, .int 0, .ref 79], (q_kM (q_sA r184 15 (upd (r184.1 15) 1 (vp_nar .boolean 0))) c n)) _ _
              generalize (q_sA r184 15 (upd (r184.1 15) 1 (vp_nar .boolean 0))) = r187
              refine q_RT_let ?_
              show q_RT _ _ _ (67, [(0, .ref 64), (1, .int a1)], [.int 0, .int 0, .ref 79], (q_kM r187 c n)) _ _
              refine q_RT_seg (g2 := (68, [(0, .ref 64), (1, .int a1)], [], (q_kM (q_sA r187 15 (upd (r187.1 15) 0 (vp_nar .boolean 0))) c n))) 1 (fun _ _ => rfl) ?_
              exact q_RT_ret rfl rfl rfl
def dz_M274_64 (s : q_S) (a1 : Int32) : Option (q_S × Int32) :=
  (dz_M256_64 s).bind fun r2 => (dz_M256_64 r2.1).bind fun r3 => q_let (dz_M213 r3.1 ((r2.2 + (256 * r3.2)) + a1)) fun r4 => some (r3.1, r4)
set_option maxHeartbeats 4000000 in
theorem dzt_M274_64 (s : q_S) (c n : Nat) (a1 : Int32) (x : q_S × Int32) (h : dz_M274_64 s a1 = some x) : q_Ca q_TB0 2 273 [.ref 64, .int a1] (q_kM s c n) ((q_oIM c n) x) := by
  refine q_CaP_of (φ := (q_oIM c n)) (Nat.le_of_ble_eq_true rfl) ?_ h
  clear h
  unfold dz_M274_64
  refine q_RP_seg (g2 := (1, [(0, .ref 64), (1, .int a1)], [.ref 64], (q_kM s c n))) 1 (fun _ _ => rfl) ?_
  refine q_RP_bd fun r2 er2 => ?_
  refine q_RP_call (v := (some (.int r2.2))) (h2 := (q_kM r2.1 c n)) rfl rfl ((dzt_M256_64 s c n r2 er2).le (Nat.le_of_ble_eq_true rfl)) ?_
  show q_RP _ _ _ (4, [(0, .ref 64), (1, .int a1)], [.int r2.2], (q_kM r2.1 c n)) _ _
  refine q_RP_seg (g2 := (10, [(2, .int r2.2), (0, .ref 64), (1, .int a1)], [.ref 64, .int 256, .int r2.2], (q_kM r2.1 c n))) 4 (fun _ _ => rfl) ?_
  refine q_RP_bd fun r3 er3 => ?_
  refine q_RP_call (v := (some (.int r3.2))) (h2 := (q_kM r3.1 c n)) rfl rfl ((dzt_M256_64 r2.1 c n r3 er3).le (Nat.le_of_ble_eq_true rfl)) ?_
  show q_RP _ _ _ (13, [(2, .int r2.2), (0, .ref 64), (1, .int a1)], [.int r3.2, .int 256, .int r2.2], (q_kM r3.1 c n)) _ _
  refine q_RP_seg (g2 := (17, [(2, .int r2.2), (0, .ref 64), (1, .int a1)], [.int ((r2.2 + (256 * r3.2)) + a1)], (q_kM r3.1 c n))) 4 (fun _ _ => rfl) ?_
  refine q_RP_call (v := (some (.int (dz_M213 r3.1 ((r2.2 + (256 * r3.2)) + a1))))) (h2 := (q_kM r3.1 c n)) rfl rfl ((dzt_M213 r3.1 c n ((r2.2 + (256 * r3.2)) + a1)).le (Nat.le_of_ble_eq_true rfl)) ?_
  generalize dz_M213 r3.1 ((r2.2 + (256 * r3.2)) + a1) = r4
  refine q_RP_let ?_
  show q_RP _ _ _ (20, [(2, .int r2.2), (0, .ref 64), (1, .int a1)], [.int r4], (q_kM r3.1 c n)) _ _
  exact q_RP_ret rfl rfl rfl
def dz_M275_64_43 (s : q_S) (v1 : Int32) (v3 : Int32) : Option (q_S) :=
  cond (decide (v1 = 159)) ((dz_M247_64 s v3).bind fun r6 => (dz_M247_64 r6.1 (((v3 / 256) * 256) + ((v3 + 1) - (v3 + 1) / 256 * 256))).bind fun r7 => q_let (dz_M213 r7.1 (r6.2 + (256 * r7.2))) fun r8 => some (q_sA r7.1 14 (upd (r7.1.1 14) 4 r8))) (some (q_sA s 14 (upd (s.1 14) 4 v3)))
set_option maxHeartbeats 4000000 in
theorem dzt_M275_64_43 (c n : Nat) (s : q_S) (v1 : Int32) (v3 : Int32) : q_RP q_TB0 6 274 (43, [(0, .ref 64), (1, .int v1), (3, .int v3)], [], (q_kM s c n)) (q_oSM c n) (dz_M275_64_43 s v1 v3) := by
  unfold dz_M275_64_43
  refine q_RP_seg (g2 := (52, [(0, .ref 64), (1, .int v1), (3, .int v3)], [.int 159, .int v1, .int 4, .ref 78], (q_kM s c n))) 5 (fun _ _ => rfl) ?_
  cases h2 : decide (v1 = 159) with
  | true =>
    refine q_RP_cT ?_
    refine q_RP_rsF (g2 := (55, [(0, .ref 64), (1, .int v1), (3, .int v3)], [.int 4, .ref 78], (q_kM s c n))) rfl rfl (q_d_neT h2) ?_
    refine q_RP_seg (g2 := (57, [(0, .ref 64), (1, .int v1), (3, .int v3)], [.int v3, .ref 64, .int 4, .ref 78], (q_kM s c n))) 2 (fun _ _ => rfl) ?_
    refine q_RP_bd fun r6 er6 => ?_
    refine q_RP_call (v := (some (.int r6.2))) (h2 := (q_kM r6.1 c n)) rfl rfl ((dzt_M247_64 s c n v3 r6 er6).le (Nat.le_of_ble_eq_true rfl)) ?_
    show q_RP _ _ _ (60, [(0, .ref 64), (1, .int v1), (3, .int v3)], [.int r6.2, .int 4, .ref 78], (q_kM r6.1 c n)) _ _
    refine q_RP_seg (g2 := (81, [(0, .ref 64), (1, .int v1), (3, .int v3)], [.int (((v3 / 256) * 256) + ((v3 + 1) - (v3 + 1) / 256 * 256)), .ref 64, .int 256, .int r6.2, .int 4, .ref 78], (q_kM r6.1 c n))) 13 (fun _ _ => rfl) ?_
    refine q_RP_bd fun r7 er7 => ?_
    refine q_RP_call (v := (some (.int r7.2))) (h2 := (q_kM r7.1 c n)) rfl rfl ((dzt_M247_64 r6.1 c n (((v3 / 256) * 256) + ((v3 + 1) - (v3 + 1) / 256 * 256)) r7 er7).le (Nat.le_of_ble_eq_true rfl)) ?_
    show q_RP _ _ _ (84, [(0, .ref 64), (1, .int v1), (3, .int v3)], [.int r7.2, .int 256, .int r6.2, .int 4, .ref 78], (q_kM r7.1 c n)) _ _
    refine q_RP_seg (g2 := (86, [(0, .ref 64), (1, .int v1), (3, .int v3)], [.int (r6.2 + (256 * r7.2)), .int 4, .ref 78], (q_kM r7.1 c n))) 2 (fun _ _ => rfl) ?_
    refine q_RP_call (v := (some (.int (dz_M213 r7.1 (r6.2 + (256 * r7.2)))))) (h2 := (q_kM r7.1 c n)) rfl rfl ((dzt_M213 r7.1 c n (r6.2 + (256 * r7.2))).le (Nat.le_of_ble_eq_true rfl)) ?_
    generalize dz_M213 r7.1 (r6.2 + (256 * r7.2)) = r8
    refine q_RP_let ?_
    show q_RP _ _ _ (89, [(0, .ref 64), (1, .int v1), (3, .int v3)], [.int r8, .int 4, .ref 78], (q_kM r7.1 c n)) _ _
    refine q_RP_seg (g2 := (94, [(0, .ref 64), (1, .int v1), (3, .int v3)], [], (q_kM (q_sA r7.1 14 (upd (r7.1.1 14) 4 r8)) c n))) 2 (fun _ _ => rfl) ?_
    exact q_RP_ret rfl rfl rfl
  | false =>
    refine q_RP_cF ?_
    refine q_RP_rsT (g2 := (92, [(0, .ref 64), (1, .int v1), (3, .int v3)], [.int 4, .ref 78], (q_kM s c n))) rfl rfl (q_d_neF h2) ?_
    refine q_RP_seg (g2 := (94, [(0, .ref 64), (1, .int v1), (3, .int v3)], [], (q_kM (q_sA s 14 (upd (s.1 14) 4 v3)) c n))) 2 (fun _ _ => rfl) ?_
    exact q_RP_ret rfl rfl rfl
def dz_M275_64 (s : q_S) (a1 : Int32) (a2 : Int32) : Option (q_S) :=
  (dz_M248_64 s (a2 + 1)).bind fun r2 => cond (decide (a1 = 158)) (q_let (dz_M213 r2.1 (a2 + 2)) fun r3 => (dz_M255_64 r2.1 (r3 / 256)).bind fun r4 => (dz_M255_64 r4 (r3 - r3 / 256 * 256)).bind fun r5 => dz_M275_64_43 r5 a1 r2.2) (dz_M275_64_43 r2.1 a1 r2.2)
set_option maxHeartbeats 4000000 in
theorem dzt_M275_64 (s : q_S) (c n : Nat) (a1 : Int32) (a2 : Int32) (x : q_S) (h : dz_M275_64 s a1 a2 = some x) : q_Ca q_TB0 7 274 [.ref 64, .int a1, .int a2] (q_kM s c n) ((q_oSM c n) x) := by
  refine q_CaP_of (φ := (q_oSM c n)) (Nat.le_of_ble_eq_true rfl) ?_ h
  clear h
  unfold dz_M275_64
  refine q_RP_seg (g2 := (4, [(0, .ref 64), (1, .int a1), (2, .int a2)], [.int (a2 + 1), .ref 64], (q_kM s c n))) 4 (fun _ _ => rfl) ?_
  refine q_RP_bd fun r2 er2 => ?_
  refine q_RP_call (v := (some (.int r2.2))) (h2 := (q_kM r2.1 c n)) rfl rfl ((dzt_M248_64 s c n (a2 + 1) r2 er2).le (Nat.le_of_ble_eq_true rfl)) ?_
  show q_RP _ _ _ (7, [(0, .ref 64), (1, .int a1), (2, .int a2)], [.int r2.2], (q_kM r2.1 c n)) _ _
  refine q_RP_seg (g2 := (12, [(3, .int r2.2), (0, .ref 64), (1, .int a1), (2, .int a2)], [.int 158, .int a1], (q_kM r2.1 c n))) 3 (fun _ _ => rfl) ?_
  cases h1 : decide (a1 = 158) with
  | true =>
    refine q_RP_cT ?_
    refine q_RP_rsF (g2 := (15, [(3, .int r2.2), (0, .ref 64), (1, .int a1), (2, .int a2)], [], (q_kM r2.1 c n))) rfl rfl (q_d_neT h1) ?_
    refine q_RP_seg (g2 := (18, [(3, .int r2.2), (0, .ref 64), (1, .int a1), (2, .int a2)], [.int (a2 + 2)], (q_kM r2.1 c n))) 3 (fun _ _ => rfl) ?_
    refine q_RP_call (v := (some (.int (dz_M213 r2.1 (a2 + 2))))) (h2 := (q_kM r2.1 c n)) rfl rfl ((dzt_M213 r2.1 c n (a2 + 2)).le (Nat.le_of_ble_eq_true rfl)) ?_
    generalize dz_M213 r2.1 (a2 + 2) = r3
    refine q_RP_let ?_
    show q_RP _ _ _ (21, [(3, .int r2.2), (0, .ref 64), (1, .int a1), (2, .int a2)], [.int r3], (q_kM r2.1 c n)) _ _
    refine q_RP_seg (g2 := (30, [(4, .int r3), (3, .int r2.2), (0, .ref 64), (1, .int a1), (2, .int a2)], [.int (r3 / 256), .ref 64], (q_kM r2.1 c n))) 5 (fun _ _ => rfl) ?_
    refine q_RP_bd fun r4 er4 => ?_
    refine q_RP_call (v := none) (h2 := (q_kM r4 c n)) rfl rfl ((dzt_M255_64 r2.1 c n (r3 / 256) r4 er4).le (Nat.le_of_ble_eq_true rfl)) ?_
    show q_RP _ _ _ (33, [(4, .int r3), (3, .int r2.2), (0, .ref 64), (1, .int a1), (2, .int a2)], [], (q_kM r4 c n)) _ _
    refine q_RP_seg (g2 := (40, [(4, .int r3), (3, .int r2.2), (0, .ref 64), (1, .int a1), (2, .int a2)], [.int (r3 - r3 / 256 * 256), .ref 64], (q_kM r4 c n))) 4 (fun _ _ => rfl) ?_
    refine q_RP_bd fun r5 er5 => ?_
    refine q_RP_call (v := none) (h2 := (q_kM r5 c n)) rfl rfl ((dzt_M255_64 r4 c n (r3 - r3 / 256 * 256) r5 er5).le (Nat.le_of_ble_eq_true rfl)) ?_
    show q_RP _ _ _ (43, [(4, .int r3), (3, .int r2.2), (0, .ref 64), (1, .int a1), (2, .int a2)], [], (q_kM r5 c n)) _ _
    exact q_RP_xt (q_xt_mk (q_mn1 2 rfl (q_mn1 3 rfl (q_mn1 1 rfl q_mn0))) rfl) (dzt_M275_64_43 c n r5 a1 r2.2)
  | false =>
    refine q_RP_cF ?_
    refine q_RP_rsT (g2 := (43, [(3, .int r2.2), (0, .ref 64), (1, .int a1), (2, .int a2)], [], (q_kM r2.1 c n))) rfl rfl (q_d_neF h1) ?_
    exact q_RP_xt (q_xt_mk (q_mn1 1 rfl (q_mn1 2 rfl (q_mn1 0 rfl q_mn0))) rfl) (dzt_M275_64_43 c n r2.1 a1 r2.2)
def dz_M261_64 (s : q_S) (a1 : Int32) : q_S × Int32 :=
  cond (decide (a1 = 0)) (cond (decide (127 < a1)) (q_let ((q_sA s 15 (upd (s.1 15) 4 (vp_nar .boolean 1)))) fun r1 => ((q_sA r1 15 (upd (r1.1 15) 0 (vp_nar .boolean 1))), a1)) (q_let ((q_sA s 15 (upd (s.1 15) 4 (vp_nar .boolean 1)))) fun r2 => ((q_sA r2 15 (upd (r2.1 15) 0 (vp_nar .boolean 0))), a1))) (cond (decide (127 < a1)) (q_let ((q_sA s 15 (upd (s.1 15) 4 (vp_nar .boolean 0)))) fun r3 => ((q_sA r3 15 (upd (r3.1 15) 0 (vp_nar .boolean 1))), a1)) (q_let ((q_sA s 15 (upd (s.1 15) 4 (vp_nar .boolean 0)))) fun r4 => ((q_sA r4 15 (upd (r4.1 15) 0 (vp_nar .boolean 0))), a1)))
set_option maxHeartbeats 4000000 in
theorem dzt_M261_64 (s : q_S) (c n : Nat) (a1 : Int32) : q_Ca q_TB0 1 260 [.ref 64, .int a1] (q_kM s c n) ((q_oIM c n) (dz_M261_64 s a1)) := by
  refine q_CaT_of (φ := (q_oIM c n)) (Nat.le_of_ble_eq_true rfl) ?_
  unfold dz_M261_64
  refine q_RT_seg (g2 := (6, [(0, .ref 64), (1, .int a1)], [.int a1, .int 4, .ref 79], (q_kM s c n))) 4 (fun _ _ => rfl) ?_
  cases h1 : decide (a1 = 0) with
  | true =>
    refine q_RT_cT ?_
    refine q_RT_rsF (g2 := (9, [(0, .ref 64), (1, .int a1)], [.int 4, .ref 79], (q_kM s c n))) rfl rfl (q_d_neT h1) ?_
    refine q_RT_seg (g2 := (23, [(0, .ref 64), (1, .int a1)], [.int 127, .int a1, .int 0, .ref 79], (q_kM (q_sA s 15 (upd (s.1 15) 4 (vp_nar .boolean 1))) c n))) 8 (fun _ _ => rfl) ?_
    cases h2 : decide (127 < a1) with
    | true =>
      refine q_RT_cT ?_
      refine q_RT_rsF (g2 := (26, [(0, .ref 64), (1, .int a1)], [.int 0, .ref 79], (q_kM (q_sA s 15 (upd (s.1 15) 4 (vp_nar .boolean 1))) c n))) rfl rfl (q_d_geT h2) ?_
      refine q_RT_seg (g2 := (31, [(0, .ref 64), (1, .int a1)], [.int 1, .int 0, .ref 79], (q_kM (q_sA s 15 (upd (s.1 15) 4 (vp_nar .boolean 1))) c n))) 2 (fun _ _ => rfl) ?_
      generalize (q_sA s 15 (upd (s.1 15) 4 (vp_nar .boolean 1))) = r1
      refine q_RT_let ?_
      show q_RT _ _ _ (31, [(0, .ref 64), (1, .int a1)], [.int 1, .int 0, .ref 79], (q_kM r1 c n)) _ _
      refine q_RT_seg (g2 := (33, [(0, .ref 64), (1, .int a1)], [.int a1], (q_kM (q_sA r1 15 (upd (r1.1 15) 0 (vp_nar .boolean 1))) c n))) 2 (fun _ _ => rfl) ?_
      exact q_RT_ret rfl rfl rfl
    | false =>
      refine q_RT_cF ?_
      refine q_RT_rsT (g2 := (30, [(0, .ref 64), (1, .int a1)], [.int 0, .ref 79], (q_kM (q_sA s 15 (upd (s.1 15) 4 (vp_nar .boolean 1))) c n))) rfl rfl (q_d_geF h2) ?_
      refine q_RT_seg (g2 := (31, [(0, .ref 64), (1, .int a1)], [.int 0, .int 0, .ref 79], (q_kM (q_sA s 15 (upd (s.1 15) 4 (vp_nar .boolean 1))) c n))) 1 (fun _ _ => rfl) ?_
      generalize (q_sA s 15 (upd (s.1 15) 4 (vp_nar .boolean 1))) = r2
      refine q_RT_let ?_
      show q_RT _ _ _ (31, [(0, .ref 64), (1, .int a1)], [.int 0, .int 0, .ref 79], (q_kM r2 c n)) _ _
      refine q_RT_seg (g2 := (33, [(0, .ref 64), (1, .int a1)], [.int a1], (q_kM (q_sA r2 15 (upd (r2.1 15) 0 (vp_nar .boolean 0))) c n))) 2 (fun _ _ => rfl) ?_
      exact q_RT_ret rfl rfl rfl
  | false =>
    refine q_RT_cF ?_
    refine q_RT_rsT (g2 := (13, [(0, .ref 64), (1, .int a1)], [.int 4, .ref 79], (q_kM s c n))) rfl rfl (q_d_neF h1) ?_
    refine q_RT_seg (g2 := (23, [(0, .ref 64), (1, .int a1)], [.int 127, .int a1, .int 0, .ref 79], (q_kM (q_sA s 15 (upd (s.1 15) 4 (vp_nar .boolean 0))) c n))) 7 (fun _ _ => rfl) ?_
    cases h3 : decide (127 < a1) with
    | true =>
      refine q_RT_cT ?_
      refine q_RT_rsF (g2 := (26, [(0, .ref 64), (1, .int a1)], [.int 0, .ref 79], (q_kM (q_sA s 15 (upd (s.1 15) 4 (vp_nar .boolean 0))) c n))) rfl rfl (q_d_geT h3) ?_
      refine q_RT_seg (g2 := (31, [(0, .ref 64), (1, .int a1)], [.int 1, .int 0, .ref 79], (q_kM (q_sA s 15 (upd (s.1 15) 4 (vp_nar .boolean 0))) c n))) 2 (fun _ _ => rfl) ?_
      generalize (q_sA s 15 (upd (s.1 15) 4 (vp_nar .boolean 0))) = r3
      refine q_RT_let ?_
      show q_RT _ _ _ (31, [(0, .ref 64), (1, .int a1)], [.int 1, .int 0, .ref 79], (q_kM r3 c n)) _ _
      refine q_RT_seg (g2 := (33, [(0, .ref 64), (1, .int a1)], [.int a1], (q_kM (q_sA r3 15 (upd (r3.1 15) 0 (vp_nar .boolean 1))) c n))) 2 (fun _ _ => rfl) ?_
      exact q_RT_ret rfl rfl rfl
    | false =>
      refine q_RT_cF ?_
      refine q_RT_rsT (g2 := (30, [(0, .ref 64), (1, .int a1)], [.int 0, .ref 79], (q_kM (q_sA s 15 (upd (s.1 15) 4 (vp_nar .boolean 0))) c n))) rfl rfl (q_d_geF h3) ?_
      refine q_RT_seg (g2 := (31, [(0, .ref 64), (1, .int a1)], [.int 0, .int 0, .ref 79], (q_kM (q_sA s 15 (upd (s.1 15) 4 (vp_nar .boolean 0))) c n))) 1 (fun _ _ => rfl) ?_
      generalize (q_sA s 15 (upd (s.1 15) 4 (vp_nar .boolean 0))) = r4
      refine q_RT_let ?_
      show q_RT _ _ _ (31, [(0, .ref 64), (1, .int a1)], [.int 0, .int 0, .ref 79], (q_kM r4 c n)) _ _
      refine q_RT_seg (g2 := (33, [(0, .ref 64), (1, .int a1)], [.int a1], (q_kM (q_sA r4 15 (upd (r4.1 15) 0 (vp_nar .boolean 0))) c n))) 2 (fun _ _ => rfl) ?_
      exact q_RT_ret rfl rfl rfl
def dz_M262_64 (s : q_S) (a1 : Int32) (a2 : Int32) : Option (q_S) :=
  q_let (dz_M261_64 s a2) fun r2 => cond (q_in a1 24) (some (q_sA r2.1 14 (upd (r2.1.1 14) (a1.toNatClampNeg) r2.2))) none
set_option maxHeartbeats 4000000 in
theorem dzt_M262_64 (s : q_S) (c n : Nat) (a1 : Int32) (a2 : Int32) (x : q_S) (h : dz_M262_64 s a1 a2 = some x) : q_Ca q_TB0 2 261 [.ref 64, .int a1, .int a2] (q_kM s c n) ((q_oSM c n) x) := by
  refine q_CaP_of (φ := (q_oSM c n)) (Nat.le_of_ble_eq_true rfl) ?_ h
  clear h
  unfold dz_M262_64
  refine q_RP_seg (g2 := (7, [(0, .ref 64), (1, .int a1), (2, .int a2)], [.int a2, .ref 64, .int a1, .ref 78], (q_kM s c n))) 5 (fun _ _ => rfl) ?_
  refine q_RP_call (v := (some (.int (dz_M261_64 s a2).2))) (h2 := (q_kM (dz_M261_64 s a2).1 c n)) rfl rfl ((dzt_M261_64 s c n a2).le (Nat.le_of_ble_eq_true rfl)) ?_
  generalize dz_M261_64 s a2 = r2
  refine q_RP_let ?_
  show q_RP _ _ _ (10, [(0, .ref 64), (1, .int a1), (2, .int a2)], [.int r2.2, .int a1, .ref 78], (q_kM r2.1 c n)) _ _
  refine q_RP_as fun i1 => ?_
  refine q_RP_rsT (g2 := (11, [(0, .ref 64), (1, .int a1), (2, .int a2)], [], (q_kM (q_sA r2.1 14 (upd (r2.1.1 14) (a1.toNatClampNeg) r2.2)) c n))) rfl q_wM14 i1 ?_
  exact q_RP_ret rfl rfl rfl
def dz_M272_64 (s : q_S) (a1 : Int32) : Option (q_S) :=
  (dz_M257_64 s 5 1).bind fun r2 => cond (decide (a1 - a1 / 2 * 2 = 0)) (q_let (dz_M206 s ((s.1 14) 0) 7) fun r3 => cond r3 (cond (decide (a1 = 150)) ((dz_M262_64 (q_sA s 15 (upd (s.1 15) 5 (vp_nar .boolean 1))) 0 ((((s.1 14) 0) * 2) &&& 255)).bind fun r4 => some r4) (cond (decide (a1 = 151)) ((dz_M262_64 (q_sA s 15 (upd (s.1 15) 5 (vp_nar .boolean 1))) 0 (((s.1 14) 0) / 2)).bind fun r5 => some r5) (cond (decide (a1 = 152)) ((dz_M262_64 (q_sA s 15 (upd (s.1 15) 5 (vp_nar .boolean 1))) 0 (((((s.1 14) 0) * 2) + r2) &&& 255)).bind fun r6 => some r6) ((dz_M262_64 (q_sA s 15 (upd (s.1 15) 5 (vp_nar .boolean 1))) 0 ((((s.1 14) 0) / 2) + (128 * r2))).bind fun r7 => some r7)))) (cond (decide (a1 = 150)) ((dz_M262_64 (q_sA s 15 (upd (s.1 15) 5 (vp_nar .boolean 0))) 0 ((((s.1 14) 0) * 2) &&& 255)).bind fun r8 => some r8) (cond (decide (a1 = 151)) ((dz_M262_64 (q_sA s 15 (upd (s.1 15) 5 (vp_nar .boolean 0))) 0 (((s.1 14) 0) / 2)).bind fun r9 => some r9) (cond (decide (a1 = 152)) ((dz_M262_64 (q_sA s 15 (upd (s.1 15) 5 (vp_nar .boolean 0))) 0 (((((s.1 14) 0) * 2) + r2) &&& 255)).bind fun r10 => some r10) ((dz_M262_64 (q_sA s 15 (upd (s.1 15) 5 (vp_nar .boolean 0))) 0 ((((s.1 14) 0) / 2) + (128 * r2))).bind fun r11 => some r11))))) (q_let (dz_M206 s ((s.1 14) 0) 0) fun r12 => cond r12 (cond (decide (a1 = 150)) ((dz_M262_64 (q_sA s 15 (upd (s.1 15) 5 (vp_nar .boolean 1))) 0 ((((s.1 14) 0) * 2) &&& 255)).bind fun r13 => some r13) (cond (decide (a1 = 151)) ((dz_M262_64 (q_sA s 15 (upd (s.1 15) 5 (vp_nar .boolean 1))) 0 (((s.1 14) 0) / 2)).bind fun r14 => some r14) (cond (decide (a1 = 152)) ((dz_M262_64 (q_sA s 15 (upd (s.1 15) 5 (vp_nar .boolean 1))) 0 (((((s.1 14) 0) * 2) + r2) &&& 255)).bind fun r15 => some r15) ((dz_M262_64 (q_sA s 15 (upd (s.1 15) 5 (vp_nar .boolean 1))) 0 ((((s.1 14) 0) / 2) + (128 * r2))).bind fun r16 => some r16)))) (cond (decide (a1 = 150)) ((dz_M262_64 (q_sA s 15 (upd (s.1 15) 5 (vp_nar .boolean 0))) 0 ((((s.1 14) 0) * 2) &&& 255)).bind fun r17 => some r17) (cond (decide (a1 = 151)) ((dz_M262_64 (q_sA s 15 (upd (s.1 15) 5 (vp_nar .boolean 0))) 0 (((s.1 14) 0) / 2)).bind fun r18 => some r18) (cond (decide (a1 = 152)) ((dz_M262_64 (q_sA s 15 (upd (s.1 15) 5 (vp_nar .boolean 0))) 0 (((((s.1 14) 0) * 2) + r2) &&& 255)).bind fun r19 => some r19) ((dz_M262_64 (q_sA s 15 (upd (s.1 15) 5 (vp_nar .boolean 0))) 0 ((((s.1 14) 0) / 2) + (128 * r2))).bind fun r20 => some r20)))))
set_option maxHeartbeats 4000000 in
theorem dzt_M272_64 (s : q_S) (c n : Nat) (a1 : Int32) (x : q_S) (h : dz_M272_64 s a1 = some x) : q_Ca q_TB0 3 271 [.ref 64, .int a1] (q_kM s c n) ((q_oSM c n) x) := by
  refine q_CaP_of (φ := (q_oSM c n)) (Nat.le_of_ble_eq_true rfl) ?_ h
  clear h
  unfold dz_M272_64
  refine q_RP_seg (g2 := (6, [(0, .ref 64), (1, .int a1)], [.int ((s.1 14) 0)], (q_kM s c n))) 4 (fun _ _ => rfl) ?_
  refine q_RP_seg (g2 := (10, [(2, .int ((s.1 14) 0)), (0, .ref 64), (1, .int a1)], [.int 1, .int 5, .ref 64], (q_kM s c n))) 4 (fun _ _ => rfl) ?_
  refine q_RP_bd fun r2 er2 => ?_
  refine q_RP_call (v := (some (.int r2))) (h2 := (q_kM s c n)) rfl rfl ((dzt_M257_64 s c n 5 1 r2 er2).le (Nat.le_of_ble_eq_true rfl)) ?_
  show q_RP _ _ _ (13, [(2, .int ((s.1 14) 0)), (0, .ref 64), (1, .int a1)], [.int r2], (q_kM s c n)) _ _
  refine q_RP_seg (g2 := (23, [(3, .int r2), (2, .int ((s.1 14) 0)), (0, .ref 64), (1, .int a1)], [.int (a1 - a1 / 2 * 2), .int ((s.1 14) 0), .int 5, .ref 79], (q_kM s c n))) 8 (fun _ _ => rfl) ?_
  cases h1 : decide (a1 - a1 / 2 * 2 = 0) with
  | true =>
    refine q_RP_cT ?_
    refine q_RP_rsF (g2 := (26, [(3, .int r2), (2, .int ((s.1 14) 0)), (0, .ref 64), (1, .int a1)], [.int ((s.1 14) 0), .int 5, .ref 79], (q_kM s c n))) rfl rfl (q_d_neT h1) ?_
    refine q_RP_seg (g2 := (32, [(3, .int r2), (2, .int ((s.1 14) 0)), (0, .ref 64), (1, .int a1)], [.int 7, .int ((s.1 14) 0), .int 5, .ref 79], (q_kM s c n))) 2 (fun _ _ => rfl) ?_
    refine q_RP_call (v := (some (.int (q_b (dz_M206 s ((s.1 14) 0) 7))))) (h2 := (q_kM s c n)) rfl rfl ((dzt_M206 s c n ((s.1 14) 0) 7).le (Nat.le_of_ble_eq_true rfl)) ?_
    generalize dz_M206 s ((s.1 14) 0) 7 = r3
    refine q_RP_let ?_
    show q_RP _ _ _ (35, [(3, .int r2), (2, .int ((s.1 14) 0)), (0, .ref 64), (1, .int a1)], [.int (q_b r3), .int 5, .ref 79], (q_kM s c n)) _ _
    cases h2 : r3 with
    | true =>
      refine q_RP_cT ?_
      show q_RP _ _ _ (35, [(3, .int r2), (2, .int ((s.1 14) 0)), (0, .ref 64), (1, .int a1)], [.int 1, .int 5, .ref 79], (q_kM s c n)) _ _
      refine q_RP_seg (g2 := (42, [(3, .int r2), (2, .int ((s.1 14) 0)), (0, .ref 64), (1, .int a1)], [.int 150, .int a1, .int 0, .ref 64], (q_kM (q_sA s 15 (upd (s.1 15) 5 (vp_nar .boolean 1))) c n))) 5 (fun _ _ => rfl) ?_
      cases h3 : decide (a1 = 150) with
      | true =>
        refine q_RP_cT ?_
        refine q_RP_rsF (g2 := (45, [(3, .int r2), (2, .int ((s.1 14) 0)), (0, .ref 64), (1, .int a1)], [.int 0, .ref 64], (q_kM (q_sA s 15 (upd (s.1 15) 5 (vp_nar .boolean 1))) c n))) rfl rfl (q_d_neT h3) ?_
        refine q_RP_seg (g2 := (96, [(3, .int r2), (2, .int ((s.1 14) 0)), (0, .ref 64), (1, .int a1)], [.int ((((s.1 14) 0) * 2) &&& 255), .int 0, .ref 64], (q_kM (q_sA s 15 (upd (s.1 15) 5 (vp_nar .boolean 1))) c n))) 6 (fun _ _ => rfl) ?_
        refine q_RP_bd fun r4 er4 => ?_
        refine q_RP_call (v := none) (h2 := (q_kM r4 c n)) rfl rfl ((dzt_M262_64 (q_sA s 15 (upd (s.1 15) 5 (vp_nar .boolean 1))) c n 0 ((((s.1 14) 0) * 2) &&& 255) r4 er4).le (Nat.le_of_ble_eq_true rfl)) ?_
        show q_RP _ _ _ (99, [(3, .int r2), (2, .int ((s.1 14) 0)), (0, .ref 64), (1, .int a1)], [], (q_kM r4 c n)) _ _
        exact q_RP_ret rfl rfl rfl
      | false =>
        refine q_RP_cF ?_
        refine q_RP_rsT (g2 := (55, [(3, .int r2), (2, .int ((s.1 14) 0)), (0, .ref 64), (1, .int a1)], [.int 0, .ref 64], (q_kM (q_sA s 15 (upd (s.1 15) 5 (vp_nar .boolean 1))) c n))) rfl rfl (q_d_neF h3) ?_
        refine q_RP_seg (g2 := (59, [(3, .int r2), (2, .int ((s.1 14) 0)), (0, .ref 64), (1, .int a1)], [.int 151, .int a1, .int 0, .ref 64], (q_kM (q_sA s 15 (upd (s.1 15) 5 (vp_nar .boolean 1))) c n))) 2 (fun _ _ => rfl) ?_
        cases h4 : decide (a1 = 151) with
        | true =>
          refine q_RP_cT ?_
          refine q_RP_rsF (g2 := (62, [(3, .int r2), (2, .int ((s.1 14) 0)), (0, .ref 64), (1, .int a1)], [.int 0, .ref 64], (q_kM (q_sA s 15 (upd (s.1 15) 5 (vp_nar .boolean 1))) c n))) rfl rfl (q_d_neT h4) ?_
          refine q_RP_seg (g2 := (96, [(3, .int r2), (2, .int ((s.1 14) 0)), (0, .ref 64), (1, .int a1)], [.int (((s.1 14) 0) / 2), .int 0, .ref 64], (q_kM (q_sA s 15 (upd (s.1 15) 5 (vp_nar .boolean 1))) c n))) 4 (fun _ _ => rfl) ?_
          refine q_RP_bd fun r5 er5 => ?_
          refine q_RP_call (v := none) (h2 := (q_kM r5 c n)) rfl rfl ((dzt_M262_64 (q_sA s 15 (upd (s.1 15) 5 (vp_nar .boolean 1))) c n 0 (((s.1 14) 0) / 2) r5 er5).le (Nat.le_of_ble_eq_true rfl)) ?_
          show q_RP _ _ _ (99, [(3, .int r2), (2, .int ((s.1 14) 0)), (0, .ref 64), (1, .int a1)], [], (q_kM r5 c n)) _ _
          exact q_RP_ret rfl rfl rfl
        | false =>
          refine q_RP_cF ?_
          refine q_RP_rsT (g2 := (68, [(3, .int r2), (2, .int ((s.1 14) 0)), (0, .ref 64), (1, .int a1)], [.int 0, .ref 64], (q_kM (q_sA s 15 (upd (s.1 15) 5 (vp_nar .boolean 1))) c n))) rfl rfl (q_d_neF h4) ?_
          refine q_RP_seg (g2 := (72, [(3, .int r2), (2, .int ((s.1 14) 0)), (0, .ref 64), (1, .int a1)], [.int 152, .int a1, .int 0, .ref 64], (q_kM (q_sA s 15 (upd (s.1 15) 5 (vp_nar .boolean 1))) c n))) 2 (fun _ _ => rfl) ?_
          cases h5 : decide (a1 = 152) with
          | true =>
            refine q_RP_cT ?_
            refine q_RP_rsF (g2 := (75, [(3, .int r2), (2, .int ((s.1 14) 0)), (0, .ref 64), (1, .int a1)], [.int 0, .ref 64], (q_kM (q_sA s 15 (upd (s.1 15) 5 (vp_nar .boolean 1))) c n))) rfl rfl (q_d_neT h5) ?_
            refine q_RP_seg (g2 := (96, [(3, .int r2), (2, .int ((s.1 14) 0)), (0, .ref 64), (1, .int a1)], [.int (((((s.1 14) 0) * 2) + r2) &&& 255), .int 0, .ref 64], (q_kM (q_sA s 15 (upd (s.1 15) 5 (vp_nar .boolean 1))) c n))) 8 (fun _ _ => rfl) ?_
            refine q_RP_bd fun r6 er6 => ?_
            refine q_RP_call (v := none) (h2 := (q_kM r6 c n)) rfl rfl ((dzt_M262_64 (q_sA s 15 (upd (s.1 15) 5 (vp_nar .boolean 1))) c n 0 (((((s.1 14) 0) * 2) + r2) &&& 255) r6 er6).le (Nat.le_of_ble_eq_true rfl)) ?_
            show q_RP _ _ _ (99, [(3, .int r2), (2, .int ((s.1 14) 0)), (0, .ref 64), (1, .int a1)], [], (q_kM r6 c n)) _ _
            exact q_RP_ret rfl rfl rfl
          | false =>
            refine q_RP_cF ?_
            refine q_RP_rsT (g2 := (87, [(3, .int r2), (2, .int ((s.1 14) 0)), (0, .ref 64), (1, .int a1)], [.int 0, .ref 64], (q_kM (q_sA s 15 (upd (s.1 15) 5 (vp_nar .boolean 1))) c n))) rfl rfl (q_d_neF h5) ?_
            refine q_RP_seg (g2 := (96, [(3, .int r2), (2, .int ((s.1 14) 0)), (0, .ref 64), (1, .int a1)], [.int ((((s.1 14) 0) / 2) + (128 * r2)), .int 0, .ref 64], (q_kM (q_sA s 15 (upd (s.1 15) 5 (vp_nar .boolean 1))) c n))) 7 (fun _ _ => rfl) ?_
            refine q_RP_bd fun r7 er7 => ?_
            refine q_RP_call (v := none) (h2 := (q_kM r7 c n)) rfl rfl ((dzt_M262_64 (q_sA s 15 (upd (s.1 15) 5 (vp_nar .boolean 1))) c n 0 ((((s.1 14) 0) / 2) + (128 * r2)) r7 er7).le (Nat.le_of_ble_eq_true rfl)) ?_
            show q_RP _ _ _ (99, [(3, .int r2), (2, .int ((s.1 14) 0)), (0, .ref 64), (1, .int a1)], [], (q_kM r7 c n)) _ _
            exact q_RP_ret rfl rfl rfl
    | false =>
      refine q_RP_cF ?_
      show q_RP _ _ _ (35, [(3, .int r2), (2, .int ((s.1 14) 0)), (0, .ref 64), (1, .int a1)], [.int 0, .int 5, .ref 79], (q_kM s c n)) _ _
      refine q_RP_seg (g2 := (42, [(3, .int r2), (2, .int ((s.1 14) 0)), (0, .ref 64), (1, .int a1)], [.int 150, .int a1, .int 0, .ref 64], (q_kM (q_sA s 15 (upd (s.1 15) 5 (vp_nar .boolean 0))) c n))) 5 (fun _ _ => rfl) ?_
      cases h6 : decide (a1 = 150) with
      | true =>
        refine q_RP_cT ?_
        refine q_RP_rsF (g2 := (45, [(3, .int r2), (2, .int ((s.1 14) 0)), (0, .ref 64), (1, .int a1)], [.int 0, .ref 64], (q_kM (q_sA s 15 (upd (s.1 15) 5 (vp_nar .boolean 0))) c n))) rfl rfl (q_d_neT h6) ?_
        refine q_RP_seg (g2 := (96, [(3, .int r2), (2, .int ((s.1 14) 0)), (0, .ref 64), (1, .int a1)], [.int ((((s.1 14) 0) * 2) &&& 255), .int 0, .ref 64], (q_kM (q_sA s 15 (upd (s.1 15) 5 (vp_nar .boolean 0))) c n))) 6 (fun _ _ => rfl) ?_
        refine q_RP_bd fun r8 er8 => ?_
        refine q_RP_call (v := none) (h2 := (q_kM r8 c n)) rfl rfl ((dzt_M262_64 (q_sA s 15 (upd (s.1 15) 5 (vp_nar .boolean 0))) c n 0 ((((s.1 14) 0) * 2) &&& 255) r8 er8).le (Nat.le_of_ble_eq_true rfl)) ?_
        show q_RP _ _ _ (99, [(3, .int r2), (2, .int ((s.1 14) 0)), (0, .ref 64), (1, .int a1)], [], (q_kM r8 c n)) _ _
        exact q_RP_ret rfl rfl rfl
      | false =>
        refine q_RP_cF ?_
        refine q_RP_rsT (g2 := (55, [(3, .int r2), (2, .int ((s.1 14) 0)), (0, .ref 64), (1, .int a1)], [.int 0, .ref 64], (q_kM (q_sA s 15 (upd (s.1 15) 5 (vp_nar .boolean 0))) c n))) rfl rfl (q_d_neF h6) ?_
        refine q_RP_seg (g2 := (59, [(3, .int r2), (2, .int ((s.1 14) 0)), (0, .ref 64), (1, .int a1)], [.int 151, .int a1, .int 0, .ref 64], (q_kM (q_sA s 15 (upd (s.1 15) 5 (vp_nar .boolean 0))) c n))) 2 (fun _ _ => rfl) ?_
        cases h7 : decide (a1 = 151) with
        | true =>
          refine q_RP_cT ?_
          refine q_RP_rsF (g2 := (62, [(3, .int r2), (2, .int ((s.1 14) 0)), (0, .ref 64), (1, .int a1)], [.int 0, .ref 64], (q_kM (q_sA s 15 (upd (s.1 15) 5 (vp_nar .boolean 0))) c n))) rfl rfl (q_d_neT h7) ?_
          refine q_RP_seg (g2 := (96, [(3, .int r2), (2, .int ((s.1 14) 0)), (0, .ref 64), (1, .int a1)], [.int (((s.1 14) 0) / 2), .int 0, .ref 64], (q_kM (q_sA s 15 (upd (s.1 15) 5 (vp_nar .boolean 0))) c n))) 4 (fun _ _ => rfl) ?_
          refine q_RP_bd fun r9 er9 => ?_
          refine q_RP_call (v := none) (h2 := (q_kM r9 c n)) rfl rfl ((dzt_M262_64 (q_sA s 15 (upd (s.1 15) 5 (vp_nar .boolean 0))) c n 0 (((s.1 14) 0) / 2) r9 er9).le (Nat.le_of_ble_eq_true rfl)) ?_
          show q_RP _ _ _ (99, [(3, .int r2), (2, .int ((s.1 14) 0)), (0, .ref 64), (1, .int a1)], [], (q_kM r9 c n)) _ _
          exact q_RP_ret rfl rfl rfl
        | false =>
          refine q_RP_cF ?_
          refine q_RP_rsT (g2 := (68, [(3, .int r2), (2, .int ((s.1 14) 0)), (0, .ref 64), (1, .int a1)], [.int 0, .ref 64], (q_kM (q_sA s 15 (upd (s.1 15) 5 (vp_nar .boolean 0))) c n))) rfl rfl (q_d_neF h7) ?_
          refine q_RP_seg (g2 := (72, [(3, .int r2), (2, .int ((s.1 14) 0)), (0, .ref 64), (1, .int a1)], [.int 152, .int a1, .int 0, .ref 64], (q_kM (q_sA s 15 (upd (s.1 15) 5 (vp_nar .boolean 0))) c n))) 2 (fun _ _ => rfl) ?_
          cases h8 : decide (a1 = 152) with
          | true =>
            refine q_RP_cT ?_
            refine q_RP_rsF (g2 := (75, [(3, .int r2), (2, .int ((s.1 14) 0)), (0, .ref 64), (1, .int a1)], [.int 0, .ref 64], (q_kM (q_sA s 15 (upd (s.1 15) 5 (vp_nar .boolean 0))) c n))) rfl rfl (q_d_neT h8) ?_
            refine q_RP_seg (g2 := (96, [(3, .int r2), (2, .int ((s.1 14) 0)), (0, .ref 64), (1, .int a1)], [.int (((((s.1 14) 0) * 2) + r2) &&& 255), .int 0, .ref 64], (q_kM (q_sA s 15 (upd (s.1 15) 5 (vp_nar .boolean 0))) c n))) 8 (fun _ _ => rfl) ?_
            refine q_RP_bd fun r10 er10 => ?_
            refine q_RP_call (v := none) (h2 := (q_kM r10 c n)) rfl rfl ((dzt_M262_64 (q_sA s 15 (upd (s.1 15) 5 (vp_nar .boolean 0))) c n 0 (((((s.1 14) 0) * 2) + r2) &&& 255) r10 er10).le (Nat.le_of_ble_eq_true rfl)) ?_
            show q_RP _ _ _ (99, [(3, .int r2), (2, .int ((s.1 14) 0)), (0, .ref 64), (1, .int a1)], [], (q_kM r10 c n)) _ _
            exact q_RP_ret rfl rfl rfl
          | false =>
            refine q_RP_cF ?_
            refine q_RP_rsT (g2 := (87, [(3, .int r2), (2, .int ((s.1 14) 0)), (0, .ref 64), (1, .int a1)], [.int 0, .ref 64], (q_kM (q_sA s 15 (upd (s.1 15) 5 (vp_nar .boolean 0))) c n))) rfl rfl (q_d_neF h8) ?_
            refine q_RP_seg (g2 := (96, [(3, .int r2), (2, .int ((s.1 14) 0)), (0, .ref 64), (1, .int a1)], [.int ((((s.1 14) 0) / 2) + (128 * r2)), .int 0, .ref 64], (q_kM (q_sA s 15 (upd (s.1 15) 5 (vp_nar .boolean 0))) c n))) 7 (fun _ _ => rfl) ?_
            refine q_RP_bd fun r11 er11 => ?_
            refine q_RP_call (v := none) (h2 := (q_kM r11 c n)) rfl rfl ((dzt_M262_64 (q_sA s 15 (upd (s.1 15) 5 (vp_nar .boolean 0))) c n 0 ((((s.1 14) 0) / 2) + (128 * r2)) r11 er11).le (Nat.le_of_ble_eq_true rfl)) ?_
            show q_RP _ _ _ (99, [(3, .int r2), (2, .int ((s.1 14) 0)), (0, .ref 64), (1, .int a1)], [], (q_kM r11 c n)) _ _
            exact q_RP_ret rfl rfl rfl
  | false =>
    refine q_RP_cF ?_
    refine q_RP_rsT (g2 := (31, [(3, .int r2), (2, .int ((s.1 14) 0)), (0, .ref 64), (1, .int a1)], [.int ((s.1 14) 0), .int 5, .ref 79], (q_kM s c n))) rfl rfl (q_d_neF h1) ?_
    refine q_RP_seg (g2 := (32, [(3, .int r2), (2, .int ((s.1 14) 0)), (0, .ref 64), (1, .int a1)], [.int 0, .int ((s.1 14) 0), .int 5, .ref 79], (q_kM s c n))) 1 (fun _ _ => rfl) ?_
    refine q_RP_call (v := (some (.int (q_b (dz_M206 s ((s.1 14) 0) 0))))) (h2 := (q_kM s c n)) rfl rfl ((dzt_M206 s c n ((s.1 14) 0) 0).le (Nat.le_of_ble_eq_true rfl)) ?_
    generalize dz_M206 s ((s.1 14) 0) 0 = r12
    refine q_RP_let ?_
    show q_RP _ _ _ (35, [(3, .int r2), (2, .int ((s.1 14) 0)), (0, .ref 64), (1, .int a1)], [.int (q_b r12), .int 5, .ref 79], (q_kM s c n)) _ _
    cases h9 : r12 with
    | true =>
      refine q_RP_cT ?_
      show q_RP _ _ _ (35, [(3, .int r2), (2, .int ((s.1 14) 0)), (0, .ref 64), (1, .int a1)], [.int 1, .int 5, .ref 79], (q_kM s c n)) _ _
      refine q_RP_seg (g2 := (42, [(3, .int r2), (2, .int ((s.1 14) 0)), (0, .ref 64), (1, .int a1)], [.int 150, .int a1, .int 0, .ref 64], (q_kM (q_sA s 15 (upd (s.1 15) 5 (vp_nar .boolean 1))) c n))) 5 (fun _ _ => rfl) ?_
      cases h10 : decide (a1 = 150) with
      | true =>
        refine q_RP_cT ?_
        refine q_RP_rsF (g2 := (45, [(3, .int r2), (2, .int ((s.1 14) 0)), (0, .ref 64), (1, .int a1)], [.int 0, .ref 64], (q_kM (q_sA s 15 (upd (s.1 15) 5 (vp_nar .boolean 1))) c n))) rfl rfl (q_d_neT h10) ?_
        refine q_RP_seg (g2 := (96, [(3, .int r2), (2, .int ((s.1 14) 0)), (0, .ref 64), (1, .int a1)], [.int ((((s.1 14) 0) * 2) &&& 255), .int 0, .ref 64], (q_kM (q_sA s 15 (upd (s.1 15) 5 (vp_nar .boolean 1))) c n))) 6 (fun _ _ => rfl) ?_
        refine q_RP_bd fun r13 er13 => ?_
        refine q_RP_call (v := none) (h2 := (q_kM r13 c n)) rfl rfl ((dzt_M262_64 (q_sA s 15 (upd (s.1 15) 5 (vp_nar .boolean 1))) c n 0 ((((s.1 14) 0) * 2) &&& 255) r13 er13).le (Nat.le_of_ble_eq_true rfl)) ?_
        show q_RP _ _ _ (99, [(3, .int r2), (2, .int ((s.1 14) 0)), (0, .ref 64), (1, .int a1)], [], (q_kM r13 c n)) _ _
        exact q_RP_ret rfl rfl rfl
      | false =>
        refine q_RP_cF ?_
        refine q_RP_rsT (g2 := (55, [(3, .int r2), (2, .int ((s.1 14) 0)), (0, .ref 64), (1, .int a1)], [.int 0, .ref 64], (q_kM (q_sA s 15 (upd (s.1 15) 5 (vp_nar .boolean 1))) c n))) rfl rfl (q_d_neF h10) ?_
        refine q_RP_seg (g2 := (59, [(3, .int r2), (2, .int ((s.1 14) 0)), (0, .ref 64), (1, .int a1)], [.int 151, .int a1, .int 0, .ref 64], (q_kM (q_sA s 15 (upd (s.1 15) 5 (vp_nar .boolean 1))) c n))) 2 (fun _ _ => rfl) ?_
        cases h11 : decide (a1 = 151) with
        | true =>
          refine q_RP_cT ?_
          refine q_RP_rsF (g2 := (62, [(3, .int r2), (2, .int ((s.1 14) 0)), (0, .ref 64), (1, .int a1)], [.int 0, .ref 64], (q_kM (q_sA s 15 (upd (s.1 15) 5 (vp_nar .boolean 1))) c n))) rfl rfl (q_d_neT h11) ?_
          refine q_RP_seg (g2 := (96, [(3, .int r2), (2, .int ((s.1 14) 0)), (0, .ref 64), (1, .int a1)], [.int (((s.1 14) 0) / 2), .int 0, .ref 64], (q_kM (q_sA s 15 (upd (s.1 15) 5 (vp_nar .boolean 1))) c n))) 4 (fun _ _ => rfl) ?_
          refine q_RP_bd fun r14 er14 => ?_
          refine q_RP_call (v := none) (h2 := (q_kM r14 c n)) rfl rfl ((dzt_M262_64 (q_sA s 15 (upd (s.1 15) 5 (vp_nar .boolean 1))) c n 0 (((s.1 14) 0) / 2) r14 er14).le (Nat.le_of_ble_eq_true rfl)) ?_
          show q_RP _ _ _ (99, [(3, .int r2), (2, .int ((s.1 14) 0)), (0, .ref 64), (1, .int a1)], [], (q_kM r14 c n)) _ _
          exact q_RP_ret rfl rfl rfl
        | false =>
          refine q_RP_cF ?_
          refine q_RP_rsT (g2 := (68, [(3, .int r2), (2, .int ((s.1 14) 0)), (0, .ref 64), (1, .int a1)], [.int 0, .ref 64], (q_kM (q_sA s 15 (upd (s.1 15) 5 (vp_nar .boolean 1))) c n))) rfl rfl (q_d_neF h11) ?_
          refine q_RP_seg (g2 := (72, [(3, .int r2), (2, .int ((s.1 14) 0)), (0, .ref 64), (1, .int a1)], [.int 152, .int a1, .int 0, .ref 64], (q_kM (q_sA s 15 (upd (s.1 15) 5 (vp_nar .boolean 1))) c n))) 2 (fun _ _ => rfl) ?_
          cases h12 : decide (a1 = 152) with
          | true =>
            refine q_RP_cT ?_
            refine q_RP_rsF (g2 := (75, [(3, .int r2), (2, .int ((s.1 14) 0)), (0, .ref 64), (1, .int a1)], [.int 0, .ref 64], (q_kM (q_sA s 15 (upd (s.1 15) 5 (vp_nar .boolean 1))) c n))) rfl rfl (q_d_neT h12) ?_
            refine q_RP_seg (g2 := (96, [(3, .int r2), (2, .int ((s.1 14) 0)), (0, .ref 64), (1, .int a1)], [.int (((((s.1 14) 0) * 2) + r2) &&& 255), .int 0, .ref 64], (q_kM (q_sA s 15 (upd (s.1 15) 5 (vp_nar .boolean 1))) c n))) 8 (fun _ _ => rfl) ?_
            refine q_RP_bd fun r15 er15 => ?_
            refine q_RP_call (v := none) (h2 := (q_kM r15 c n)) rfl rfl ((dzt_M262_64 (q_sA s 15 (upd (s.1 15) 5 (vp_nar .boolean 1))) c n 0 (((((s.1 14) 0) * 2) + r2) &&& 255) r15 er15).le (Nat.le_of_ble_eq_true rfl)) ?_
            show q_RP _ _ _ (99, [(3, .int r2), (2, .int ((s.1 14) 0)), (0, .ref 64), (1, .int a1)], [], (q_kM r15 c n)) _ _
            exact q_RP_ret rfl rfl rfl
          | false =>
            refine q_RP_cF ?_
            refine q_RP_rsT (g2 := (87, [(3, .int r2), (2, .int ((s.1 14) 0)), (0, .ref 64), (1, .int a1)], [.int 0, .ref 64], (q_kM (q_sA s 15 (upd (s.1 15) 5 (vp_nar .boolean 1))) c n))) rfl rfl (q_d_neF h12) ?_
            refine q_RP_seg (g2 := (96, [(3, .int r2), (2, .int ((s.1 14) 0)), (0, .ref 64), (1, .int a1)], [.int ((((s.1 14) 0) / 2) + (128 * r2)), .int 0, .ref 64], (q_kM (q_sA s 15 (upd (s.1 15) 5 (vp_nar .boolean 1))) c n))) 7 (fun _ _ => rfl) ?_
            refine q_RP_bd fun r16 er16 => ?_
            refine q_RP_call (v := none) (h2 := (q_kM r16 c n)) rfl rfl ((dzt_M262_64 (q_sA s 15 (upd (s.1 15) 5 (vp_nar .boolean 1))) c n 0 ((((s.1 14) 0) / 2) + (128 * r2)) r16 er16).le (Nat.le_of_ble_eq_true rfl)) ?_
            show q_RP _ _ _ (99, [(3, .int r2), (2, .int ((s.1 14) 0)), (0, .ref 64), (1, .int a1)], [], (q_kM r16 c n)) _ _
            exact q_RP_ret rfl rfl rfl
    | false =>
      refine q_RP_cF ?_
      show q_RP _ _ _ (35, [(3, .int r2), (2, .int ((s.1 14) 0)), (0, .ref 64), (1, .int a1)], [.int 0, .int 5, .ref 79], (q_kM s c n)) _ _
      refine q_RP_seg (g2 := (42, [(3, .int r2), (2, .int ((s.1 14) 0)), (0, .ref 64), (1, .int a1)], [.int 150, .int a1, .int 0, .ref 64], (q_kM (q_sA s 15 (upd (s.1 15) 5 (vp_nar .boolean 0))) c n))) 5 (fun _ _ => rfl) ?_
      cases h13 : decide (a1 = 150) with
      | true =>
        refine q_RP_cT ?_
        refine q_RP_rsF (g2 := (45, [(3, .int r2), (2, .int ((s.1 14) 0)), (0, .ref 64), (1, .int a1)], [.int 0, .ref 64], (q_kM (q_sA s 15 (upd (s.1 15) 5 (vp_nar .boolean 0))) c n))) rfl rfl (q_d_neT h13) ?_
        refine q_RP_seg (g2 := (96, [(3, .int r2), (2, .int ((s.1 14) 0)), (0, .ref 64), (1, .int a1)], [.int ((((s.1 14) 0) * 2) &&& 255), .int 0, .ref 64], (q_kM (q_sA s 15 (upd (s.1 15) 5 (vp_nar .boolean 0))) c n))) 6 (fun _ _ => rfl) ?_
        refine q_RP_bd fun r17 er17 => ?_
        refine q_RP_call (v := none) (h2 := (q_kM r17 c n)) rfl rfl ((dzt_M262_64 (q_sA s 15 (upd (s.1 15) 5 (vp_nar .boolean 0))) c n 0 ((((s.1 14) 0) * 2) &&& 255) r17 er17).le (Nat.le_of_ble_eq_true rfl)) ?_
        show q_RP _ _ _ (99, [(3, .int r2), (2, .int ((s.1 14) 0)), (0, .ref 64), (1, .int a1)], [], (q_kM r17 c n)) _ _
        exact q_RP_ret rfl rfl rfl
      | false =>
        refine q_RP_cF ?_
        refine q_RP_rsT (g2 := (55, [(3, .int r2), (2, .int ((s.1 14) 0)), (0, .ref 64), (1, .int a1)], [.int 0, .ref 64], (q_kM (q_sA s 15 (upd (s.1 15) 5 (vp_nar .boolean 0))) c n))) rfl rfl (q_d_neF h13) ?_
        refine q_RP_seg (g2 := (59, [(3, .int r2), (2, .int ((s.1 14) 0)), (0, .ref 64), (1, .int a1)], [.int 151, .int a1, .int 0, .ref 64], (q_kM (q_sA s 15 (upd (s.1 15) 5 (vp_nar .boolean 0))) c n))) 2 (fun _ _ => rfl) ?_
        cases h14 : decide (a1 = 151) with
        | true =>
          refine q_RP_cT ?_
          refine q_RP_rsF (g2 := (62, [(3, .int r2), (2, .int ((s.1 14) 0)), (0, .ref 64), (1, .int a1)], [.int 0, .ref 64], (q_kM (q_sA s 15 (upd (s.1 15) 5 (vp_nar .boolean 0))) c n))) rfl rfl (q_d_neT h14) ?_
          refine q_RP_seg (g2 := (96, [(3, .int r2), (2, .int ((s.1 14) 0)), (0, .ref 64), (1, .int a1)], [.int (((s.1 14) 0) / 2), .int 0, .ref 64], (q_kM (q_sA s 15 (upd (s.1 15) 5 (vp_nar .boolean 0))) c n))) 4 (fun _ _ => rfl) ?_
          refine q_RP_bd fun r18 er18 => ?_
          refine q_RP_call (v := none) (h2 := (q_kM r18 c n)) rfl rfl ((dzt_M262_64 (q_sA s 15 (upd (s.1 15) 5 (vp_nar .boolean 0))) c n 0 (((s.1 14) 0) / 2) r18 er18).le (Nat.le_of_ble_eq_true rfl)) ?_
          show q_RP _ _ _ (99, [(3, .int r2), (2, .int ((s.1 14) 0)), (0, .ref 64), (1, .int a1)], [], (q_kM r18 c n)) _ _
          exact q_RP_ret rfl rfl rfl
        | false =>
          refine q_RP_cF ?_
          refine q_RP_rsT (g2 := (68, [(3, .int r2), (2, .int ((s.1 14) 0)), (0, .ref 64), (1, .int a1)], [.int 0, .ref 64], (q_kM (q_sA s 15 (upd (s.1 15) 5 (vp_nar .boolean 0))) c n))) rfl rfl (q_d_neF h14) ?_
          refine q_RP_seg (g2 := (72, [(3, .int r2), (2, .int ((s.1 14) 0)), (0, .ref 64), (1, .int a1)], [.int 152, .int a1, .int 0, .ref 64], (q_kM (q_sA s 15 (upd (s.1 15) 5 (vp_nar .boolean 0))) c n))) 2 (fun _ _ => rfl) ?_
          cases h15 : decide (a1 = 152) with
          | true =>
            refine q_RP_cT ?_
            refine q_RP_rsF (g2 := (75, [(3, .int r2), (2, .int ((s.1 14) 0)), (0, .ref 64), (1, .int a1)], [.int 0, .ref 64], (q_kM (q_sA s 15 (upd (s.1 15) 5 (vp_nar .boolean 0))) c n))) rfl rfl (q_d_neT h15) ?_
            refine q_RP_seg (g2 := (96, [(3, .int r2), (2, .int ((s.1 14) 0)), (0, .ref 64), (1, .int a1)], [.int (((((s.1 14) 0) * 2) + r2) &&& 255), .int 0, .ref 64], (q_kM (q_sA s 15 (upd (s.1 15) 5 (vp_nar .boolean 0))) c n))) 8 (fun _ _ => rfl) ?_
            refine q_RP_bd fun r19 er19 => ?_
            refine q_RP_call (v := none) (h2 := (q_kM r19 c n)) rfl rfl ((dzt_M262_64 (q_sA s 15 (upd (s.1 15) 5 (vp_nar .boolean 0))) c n 0 (((((s.1 14) 0) * 2) + r2) &&& 255) r19 er19).le (Nat.le_of_ble_eq_true rfl)) ?_
            show q_RP _ _ _ (99, [(3, .int r2), (2, .int ((s.1 14) 0)), (0, .ref 64), (1, .int a1)], [], (q_kM r19 c n)) _ _
            exact q_RP_ret rfl rfl rfl
          | false =>
            refine q_RP_cF ?_
            refine q_RP_rsT (g2 := (87, [(3, .int r2), (2, .int ((s.1 14) 0)), (0, .ref 64), (1, .int a1)], [.int 0, .ref 64], (q_kM (q_sA s 15 (upd (s.1 15) 5 (vp_nar .boolean 0))) c n))) rfl rfl (q_d_neF h15) ?_
            refine q_RP_seg (g2 := (96, [(3, .int r2), (2, .int ((s.1 14) 0)), (0, .ref 64), (1, .int a1)], [.int ((((s.1 14) 0) / 2) + (128 * r2)), .int 0, .ref 64], (q_kM (q_sA s 15 (upd (s.1 15) 5 (vp_nar .boolean 0))) c n))) 7 (fun _ _ => rfl) ?_
            refine q_RP_bd fun r20 er20 => ?_
            refine q_RP_call (v := none) (h2 := (q_kM r20 c n)) rfl rfl ((dzt_M262_64 (q_sA s 15 (upd (s.1 15) 5 (vp_nar .boolean 0))) c n 0 ((((s.1 14) 0) / 2) + (128 * r2)) r20 er20).le (Nat.le_of_ble_eq_true rfl)) ?_
            show q_RP _ _ _ (99, [(3, .int r2), (2, .int ((s.1 14) 0)), (0, .ref 64), (1, .int a1)], [], (q_kM r20 c n)) _ _
            exact q_RP_ret rfl rfl rfl
def dz_M273_64 (s : q_S) (a1 : Int32) (a2 : Int32) : Option (q_S) :=
  cond (decide (a1 < 128)) (q_let (dz_M213 (q_sA s 15 (upd (s.1 15) 7 (vp_nar .boolean 1))) (a2 + 1)) fun r4 => some (q_sA (q_sA s 15 (upd (s.1 15) 7 (vp_nar .boolean 1))) 14 (upd (s.1 14) 4 r4))) (cond (decide (153 < a1)) (q_let (dz_M213 (q_sA s 15 (upd (s.1 15) 7 (vp_nar .boolean 1))) (a2 + 1)) fun r5 => some (q_sA (q_sA s 15 (upd (s.1 15) 7 (vp_nar .boolean 1))) 14 (upd (s.1 14) 4 r5))) (cond (decide (a1 = 128)) ((dz_M262_64 s 1 ((((s.1 14) 1) + 1) &&& 255)).bind fun r6 => q_let (dz_M213 r6 (a2 + 1)) fun r7 => some (q_sA r6 14 (upd (r6.1 14) 4 r7))) (cond (decide (a1 = 129)) ((dz_M262_64 s 1 ((((s.1 14) 1) - 1) &&& 255)).bind fun r8 => q_let (dz_M213 r8 (a2 + 1)) fun r9 => some (q_sA r8 14 (upd (r8.1 14) 4 r9))) (cond (decide (a1 = 130)) ((dz_M262_64 s 2 ((((s.1 14) 2) + 1) &&& 255)).bind fun r10 => q_let (dz_M213 r10 (a2 + 1)) fun r11 => some (q_sA r10 14 (upd (r10.1 14) 4 r11))) (cond (decide (a1 = 131)) ((dz_M262_64 s 2 ((((s.1 14) 2) - 1) &&& 255)).bind fun r12 => q_let (dz_M213 r12 (a2 + 1)) fun r13 => some (q_sA r12 14 (upd (r12.1 14) 4 r13))) (cond (decide (a1 = 132)) ((dz_M262_64 s 1 ((s.1 14) 0)).bind fun r14 => q_let (dz_M213 r14 (a2 + 1)) fun r15 => some (q_sA r14 14 (upd (r14.1 14) 4 r15))) (cond (decide (a1 = 133)) ((dz_M262_64 s 0 ((s.1 14) 1)).bind fun r16 => q_let (dz_M213 r16 (a2 + 1)) fun r17 => some (q_sA r16 14 (upd (r16.1 14) 4 r17))) (cond (decide (a1 = 134)) ((dz_M262_64 s 2 ((s.1 14) 0)).bind fun r18 => q_let (dz_M213 r18 (a2 + 1)) fun r19 => some (q_sA r18 14 (upd (r18.1 14) 4 r19))) (cond (decide (a1 = 135)) ((dz_M262_64 s 0 ((s.1 14) 2)).bind fun r20 => q_let (dz_M213 r20 (a2 + 1)) fun r21 => some (q_sA r20 14 (upd (r20.1 14) 4 r21))) (cond (decide (a1 = 136)) ((dz_M262_64 s 1 ((s.1 14) 3)).bind fun r22 => q_let (dz_M213 r22 (a2 + 1)) fun r23 => some (q_sA r22 14 (upd (r22.1 14) 4 r23))) (cond (decide (a1 = 137)) (q_let (dz_M213 (q_sA s 14 (upd (s.1 14) 3 ((s.1 14) 1))) (a2 + 1)) fun r24 => q_let ((q_sA s 14 (upd (s.1 14) 3 ((s.1 14) 1)))) fun r25 => some (q_sA r25 14 (upd (r25.1 14) 4 r24))) (cond (decide (a1 = 138)) ((dz_M255_64 s ((s.1 14) 0)).bind fun r26 => q_let (dz_M213 r26 (a2 + 1)) fun r27 => some (q_sA r26 14 (upd (r26.1 14) 4 r27))) (cond (decide (a1 = 139)) ((dz_M256_64 s).bind fun r28 => (dz_M262_64 r28.1 0 r28.2).bind fun r29 => q_let (dz_M213 r29 (a2 + 1)) fun r30 => some (q_sA r29 14 (upd (r29.1 14) 4 r30))) (cond (decide (a1 = 140)) ((dz_M258_64 s 16).bind fun r31 => (dz_M255_64 s r31).bind fun r32 => q_let (dz_M213 r32 (a2 + 1)) fun r33 => some (q_sA r32 14 (upd (r32.1 14) 4 r33))) (cond (decide (a1 = 141)) ((dz_M256_64 s).bind fun r34 => q_let (dz_M259_64 r34.1 r34.2) fun r35 => q_let (dz_M213 r35 (a2 + 1)) fun r36 => some (q_sA r35 14 (upd (r35.1 14) 4 r36))) (cond (decide (a1 = 142)) (q_let (dz_M213 (q_sA s 15 (upd (s.1 15) 5 (vp_nar .boolean 1))) (a2 + 1)) fun r37 => some (q_sA (q_sA s 15 (upd (s.1 15) 5 (vp_nar .boolean 1))) 14 (upd (s.1 14) 4 r37))) (cond (decide (a1 = 143)) (q_let (dz_M213 (q_sA s 15 (upd (s.1 15) 5 (vp_nar .boolean 0))) (a2 + 1)) fun r38 => some (q_sA (q_sA s 15 (upd (s.1 15) 5 (vp_nar .boolean 0))) 14 (upd (s.1 14) 4 r38))) (cond (decide (a1 = 144)) (q_let (dz_M213 (q_sA s 15 (upd (s.1 15) 2 (vp_nar .boolean 1))) (a2 + 1)) fun r39 => some (q_sA (q_sA s 15 (upd (s.1 15) 2 (vp_nar .boolean 1))) 14 (upd (s.1 14) 4 r39))) (cond (decide (a1 = 145)) (q_let (dz_M213 (q_sA s 15 (upd (s.1 15) 2 (vp_nar .boolean 0))) (a2 + 1)) fun r40 => some (q_sA (q_sA s 15 (upd (s.1 15) 2 (vp_nar .boolean 0))) 14 (upd (s.1 14) 4 r40))) (cond (decide (a1 = 146)) (q_let (dz_M213 (q_sA s 15 (upd (s.1 15) 3 (vp_nar .boolean 1))) (a2 + 1)) fun r41 => some (q_sA (q_sA s 15 (upd (s.1 15) 3 (vp_nar .boolean 1))) 14 (upd (s.1 14) 4 r41))) (cond (decide (a1 = 147)) (q_let (dz_M213 (q_sA s 15 (upd (s.1 15) 3 (vp_nar .boolean 0))) (a2 + 1)) fun r42 => some (q_sA (q_sA s 15 (upd (s.1 15) 3 (vp_nar .boolean 0))) 14 (upd (s.1 14) 4 r42))) (cond (decide (a1 = 148)) (q_let (dz_M213 (q_sA s 15 (upd (s.1 15) 1 (vp_nar .boolean 0))) (a2 + 1)) fun r43 => some (q_sA (q_sA s 15 (upd (s.1 15) 1 (vp_nar .boolean 0))) 14 (upd (s.1 14) 4 r43))) (cond (decide (a1 = 149)) (q_let (dz_M213 s (a2 + 1)) fun r44 => some (q_sA s 14 (upd (s.1 14) 4 r44))) (cond (decide (a1 = 150)) ((dz_M272_64 s a1).bind fun r45 => q_let (dz_M213 r45 (a2 + 1)) fun r46 => some (q_sA r45 14 (upd (r45.1 14) 4 r46))) (cond (decide (a1 = 151)) ((dz_M272_64 s a1).bind fun r47 => q_let (dz_M213 r47 (a2 + 1)) fun r48 => some (q_sA r47 14 (upd (r47.1 14) 4 r48))) (cond (decide (a1 = 152)) ((dz_M272_64 s a1).bind fun r49 => q_let (dz_M213 r49 (a2 + 1)) fun r50 => some (q_sA r49 14 (upd (r49.1 14) 4 r50))) ((dz_M272_64 s a1).bind fun r51 => q_let (dz_M213 r51 (a2 + 1)) fun r52 => some (q_sA r51 14 (upd (r51.1 14) 4 r52)))))))))))))))))))))))))))))
set_option maxHeartbeats 4000000 in
theorem dzt_M273_64 (s : q_S) (c n : Nat) (a1 : Int32) (a2 : Int32) (x : q_S) (h : dz_M273_64 s a1 a2 = some x) : q_Ca q_TB0 4 272 [.ref 64, .int a1, .int a2] (q_kM s c n) ((q_oSM c n) x) := by
  refine q_CaP_of (φ := (q_oSM c n)) (Nat.le_of_ble_eq_true rfl) ?_ h
  clear h
  unfold dz_M273_64
  refine q_RP_seg (g2 := (1, [(0, .ref 64), (1, .int a1), (2, .int a2)], [.int a1], (q_kM s c n))) 1 (fun _ _ => rfl) ?_
  cases h4 : decide (a1 < 128) with
  | true =>
    refine q_RP_cT ?_
    refine q_RP_st1 (g2 := (415, [(0, .ref 64), (1, .int a1), (2, .int a2)], [], (q_kM s c n))) rfl (if_pos (Or.inl (Int32.lt_iff_toInt_lt.mp (of_decide_eq_true h4)))) ?_
    refine q_RP_seg (g2 := (431, [(0, .ref 64), (1, .int a1), (2, .int a2)], [.int (a2 + 1), .int 4, .ref 78], (q_kM (q_sA s 15 (upd (s.1 15) 7 (vp_nar .boolean 1))) c n))) 11 (fun _ _ => rfl) ?_
    refine q_RP_call (v := (some (.int (dz_M213 (q_sA s 15 (upd (s.1 15) 7 (vp_nar .boolean 1))) (a2 + 1))))) (h2 := (q_kM (q_sA s 15 (upd (s.1 15) 7 (vp_nar .boolean 1))) c n)) rfl rfl ((dzt_M213 (q_sA s 15 (upd (s.1 15) 7 (vp_nar .boolean 1))) c n (a2 + 1)).le (Nat.le_of_ble_eq_true rfl)) ?_
    generalize dz_M213 (q_sA s 15 (upd (s.1 15) 7 (vp_nar .boolean 1))) (a2 + 1) = r4
    refine q_RP_let ?_
    show q_RP _ _ _ (434, [(0, .ref 64), (1, .int a1), (2, .int a2)], [.int r4, .int 4, .ref 78], (q_kM (q_sA s 15 (upd (s.1 15) 7 (vp_nar .boolean 1))) c n)) _ _
    refine q_RP_seg (g2 := (435, [(0, .ref 64), (1, .int a1), (2, .int a2)], [], (q_kM (q_sA (q_sA s 15 (upd (s.1 15) 7 (vp_nar .boolean 1))) 14 (upd (s.1 14) 4 r4)) c n))) 1 (fun _ _ => rfl) ?_
    exact q_RP_ret rfl rfl rfl
  | false =>
    refine q_RP_cF ?_
    cases h5 : decide (153 < a1) with
    | true =>
      refine q_RP_cT ?_
      refine q_RP_st1 (g2 := (415, [(0, .ref 64), (1, .int a1), (2, .int a2)], [], (q_kM s c n))) rfl (if_pos (Or.inr (Int32.lt_iff_toInt_lt.mp (of_decide_eq_true h5)))) ?_
      refine q_RP_seg (g2 := (431, [(0, .ref 64), (1, .int a1), (2, .int a2)], [.int (a2 + 1), .int 4, .ref 78], (q_kM (q_sA s 15 (upd (s.1 15) 7 (vp_nar .boolean 1))) c n))) 11 (fun _ _ => rfl) ?_
      refine q_RP_call (v := (some (.int (dz_M213 (q_sA s 15 (upd (s.1 15) 7 (vp_nar .boolean 1))) (a2 + 1))))) (h2 := (q_kM (q_sA s 15 (upd (s.1 15) 7 (vp_nar .boolean 1))) c n)) rfl rfl ((dzt_M213 (q_sA s 15 (upd (s.1 15) 7 (vp_nar .boolean 1))) c n (a2 + 1)).le (Nat.le_of_ble_eq_true rfl)) ?_
      generalize dz_M213 (q_sA s 15 (upd (s.1 15) 7 (vp_nar .boolean 1))) (a2 + 1) = r5
      refine q_RP_let ?_
      show q_RP _ _ _ (434, [(0, .ref 64), (1, .int a1), (2, .int a2)], [.int r5, .int 4, .ref 78], (q_kM (q_sA s 15 (upd (s.1 15) 7 (vp_nar .boolean 1))) c n)) _ _
      refine q_RP_seg (g2 := (435, [(0, .ref 64), (1, .int a1), (2, .int a2)], [], (q_kM (q_sA (q_sA s 15 (upd (s.1 15) 7 (vp_nar .boolean 1))) 14 (upd (s.1 14) 4 r5)) c n))) 1 (fun _ _ => rfl) ?_
      exact q_RP_ret rfl rfl rfl
    | false =>
      refine q_RP_cF ?_
      cases h6 : decide (a1 = 128) with
      | true =>
        refine q_RP_cT ?_
        refine q_RP_st1 (g2 := (120, [(0, .ref 64), (1, .int a1), (2, .int a2)], [], (q_kM s c n))) rfl (by rw [of_decide_eq_true h6]; rfl) ?_
        refine q_RP_seg (g2 := (128, [(0, .ref 64), (1, .int a1), (2, .int a2)], [.int ((s.1 14) 1), .int 1, .ref 64], (q_kM s c n))) 6 (fun _ _ => rfl) ?_
        refine q_RP_seg (g2 := (134, [(0, .ref 64), (1, .int a1), (2, .int a2)], [.int ((((s.1 14) 1) + 1) &&& 255), .int 1, .ref 64], (q_kM s c n))) 4 (fun _ _ => rfl) ?_
        refine q_RP_bd fun r6 er6 => ?_
        refine q_RP_call (v := none) (h2 := (q_kM r6 c n)) rfl rfl ((dzt_M262_64 s c n 1 ((((s.1 14) 1) + 1) &&& 255) r6 er6).le (Nat.le_of_ble_eq_true rfl)) ?_
        show q_RP _ _ _ (137, [(0, .ref 64), (1, .int a1), (2, .int a2)], [], (q_kM r6 c n)) _ _
        refine q_RP_seg (g2 := (431, [(0, .ref 64), (1, .int a1), (2, .int a2)], [.int (a2 + 1), .int 4, .ref 78], (q_kM r6 c n))) 7 (fun _ _ => rfl) ?_
        refine q_RP_call (v := (some (.int (dz_M213 r6 (a2 + 1))))) (h2 := (q_kM r6 c n)) rfl rfl ((dzt_M213 r6 c n (a2 + 1)).le (Nat.le_of_ble_eq_true rfl)) ?_
        generalize dz_M213 r6 (a2 + 1) = r7
        refine q_RP_let ?_
        show q_RP _ _ _ (434, [(0, .ref 64), (1, .int a1), (2, .int a2)], [.int r7, .int 4, .ref 78], (q_kM r6 c n)) _ _
        refine q_RP_seg (g2 := (435, [(0, .ref 64), (1, .int a1), (2, .int a2)], [], (q_kM (q_sA r6 14 (upd (r6.1 14) 4 r7)) c n))) 1 (fun _ _ => rfl) ?_
        exact q_RP_ret rfl rfl rfl
      | false =>
        refine q_RP_cF ?_
        cases h7 : decide (a1 = 129) with
        | true =>
          refine q_RP_cT ?_
          refine q_RP_st1 (g2 := (140, [(0, .ref 64), (1, .int a1), (2, .int a2)], [], (q_kM s c n))) rfl (by rw [of_decide_eq_true h7]; rfl) ?_
          refine q_RP_seg (g2 := (148, [(0, .ref 64), (1, .int a1), (2, .int a2)], [.int ((s.1 14) 1), .int 1, .ref 64], (q_kM s c n))) 6 (fun _ _ => rfl) ?_
          refine q_RP_seg (g2 := (154, [(0, .ref 64), (1, .int a1), (2, .int a2)], [.int ((((s.1 14) 1) - 1) &&& 255), .int 1, .ref 64], (q_kM s c n))) 4 (fun _ _ => rfl) ?_
          refine q_RP_bd fun r8 er8 => ?_
          refine q_RP_call (v := none) (h2 := (q_kM r8 c n)) rfl rfl ((dzt_M262_64 s c n 1 ((((s.1 14) 1) - 1) &&& 255) r8 er8).le (Nat.le_of_ble_eq_true rfl)) ?_
          show q_RP _ _ _ (157, [(0, .ref 64), (1, .int a1), (2, .int a2)], [], (q_kM r8 c n)) _ _
          refine q_RP_seg (g2 := (431, [(0, .ref 64), (1, .int a1), (2, .int a2)], [.int (a2 + 1), .int 4, .ref 78], (q_kM r8 c n))) 7 (fun _ _ => rfl) ?_
          refine q_RP_call (v := (some (.int (dz_M213 r8 (a2 + 1))))) (h2 := (q_kM r8 c n)) rfl rfl ((dzt_M213 r8 c n (a2 + 1)).le (Nat.le_of_ble_eq_true rfl)) ?_
          generalize dz_M213 r8 (a2 + 1) = r9
          refine q_RP_let ?_
          show q_RP _ _ _ (434, [(0, .ref 64), (1, .int a1), (2, .int a2)], [.int r9, .int 4, .ref 78], (q_kM r8 c n)) _ _
          refine q_RP_seg (g2 := (435, [(0, .ref 64), (1, .int a1), (2, .int a2)], [], (q_kM (q_sA r8 14 (upd (r8.1 14) 4 r9)) c n))) 1 (fun _ _ => rfl) ?_
          exact q_RP_ret rfl rfl rfl
        | false =>
          refine q_RP_cF ?_
          cases h8 : decide (a1 = 130) with
          | true =>
            refine q_RP_cT ?_
            refine q_RP_st1 (g2 := (160, [(0, .ref 64), (1, .int a1), (2, .int a2)], [], (q_kM s c n))) rfl (by rw [of_decide_eq_true h8]; rfl) ?_
            refine q_RP_seg (g2 := (168, [(0, .ref 64), (1, .int a1), (2, .int a2)], [.int ((s.1 14) 2), .int 2, .ref 64], (q_kM s c n))) 6 (fun _ _ => rfl) ?_
            refine q_RP_seg (g2 := (174, [(0, .ref 64), (1, .int a1), (2, .int a2)], [.int ((((s.1 14) 2) + 1) &&& 255), .int 2, .ref 64], (q_kM s c n))) 4 (fun _ _ => rfl) ?_
            refine q_RP_bd fun r10 er10 => ?_
            refine q_RP_call (v := none) (h2 := (q_kM r10 c n)) rfl rfl ((dzt_M262_64 s c n 2 ((((s.1 14) 2) + 1) &&& 255) r10 er10).le (Nat.le_of_ble_eq_true rfl)) ?_
            show q_RP _ _ _ (177, [(0, .ref 64), (1, .int a1), (2, .int a2)], [], (q_kM r10 c n)) _ _
            refine q_RP_seg (g2 := (431, [(0, .ref 64), (1, .int a1), (2, .int a2)], [.int (a2 + 1), .int 4, .ref 78], (q_kM r10 c n))) 7 (fun _ _ => rfl) ?_
            refine q_RP_call (v := (some (.int (dz_M213 r10 (a2 + 1))))) (h2 := (q_kM r10 c n)) rfl rfl ((dzt_M213 r10 c n (a2 + 1)).le (Nat.le_of_ble_eq_true rfl)) ?_
            generalize dz_M213 r10 (a2 + 1) = r11
            refine q_RP_let ?_
            show q_RP _ _ _ (434, [(0, .ref 64), (1, .int a1), (2, .int a2)], [.int r11, .int 4, .ref 78], (q_kM r10 c n)) _ _
            refine q_RP_seg (g2 := (435, [(0, .ref 64), (1, .int a1), (2, .int a2)], [], (q_kM (q_sA r10 14 (upd (r10.1 14) 4 r11)) c n))) 1 (fun _ _ => rfl) ?_
            exact q_RP_ret rfl rfl rfl
          | false =>
            refine q_RP_cF ?_
            cases h9 : decide (a1 = 131) with
            | true =>
              refine q_RP_cT ?_
              refine q_RP_st1 (g2 := (180, [(0, .ref 64), (1, .int a1), (2, .int a2)], [], (q_kM s c n))) rfl (by rw [of_decide_eq_true h9]; rfl) ?_
              refine q_RP_seg (g2 := (188, [(0, .ref 64), (1, .int a1), (2, .int a2)], [.int ((s.1 14) 2), .int 2, .ref 64], (q_kM s c n))) 6 (fun _ _ => rfl) ?_
              refine q_RP_seg (g2 := (194, [(0, .ref 64), (1, .int a1), (2, .int a2)], [.int ((((s.1 14) 2) - 1) &&& 255), .int 2, .ref 64], (q_kM s c n))) 4 (fun _ _ => rfl) ?_
              refine q_RP_bd fun r12 er12 => ?_
              refine q_RP_call (v := none) (h2 := (q_kM r12 c n)) rfl rfl ((dzt_M262_64 s c n 2 ((((s.1 14) 2) - 1) &&& 255) r12 er12).le (Nat.le_of_ble_eq_true rfl)) ?_
              show q_RP _ _ _ (197, [(0, .ref 64), (1, .int a1), (2, .int a2)], [], (q_kM r12 c n)) _ _
              refine q_RP_seg (g2 := (431, [(0, .ref 64), (1, .int a1), (2, .int a2)], [.int (a2 + 1), .int 4, .ref 78], (q_kM r12 c n))) 7 (fun _ _ => rfl) ?_
              refine q_RP_call (v := (some (.int (dz_M213 r12 (a2 + 1))))) (h2 := (q_kM r12 c n)) rfl rfl ((dzt_M213 r12 c n (a2 + 1)).le (Nat.le_of_ble_eq_true rfl)) ?_
              generalize dz_M213 r12 (a2 + 1) = r13
              refine q_RP_let ?_
              show q_RP _ _ _ (434, [(0, .ref 64), (1, .int a1), (2, .int a2)], [.int r13, .int 4, .ref 78], (q_kM r12 c n)) _ _
              refine q_RP_seg (g2 := (435, [(0, .ref 64), (1, .int a1), (2, .int a2)], [], (q_kM (q_sA r12 14 (upd (r12.1 14) 4 r13)) c n))) 1 (fun _ _ => rfl) ?_
              exact q_RP_ret rfl rfl rfl
            | false =>
              refine q_RP_cF ?_
              cases h10 : decide (a1 = 132) with
              | true =>
                refine q_RP_cT ?_
                refine q_RP_st1 (g2 := (200, [(0, .ref 64), (1, .int a1), (2, .int a2)], [], (q_kM s c n))) rfl (by rw [of_decide_eq_true h10]; rfl) ?_
                refine q_RP_seg (g2 := (208, [(0, .ref 64), (1, .int a1), (2, .int a2)], [.int ((s.1 14) 0), .int 1, .ref 64], (q_kM s c n))) 6 (fun _ _ => rfl) ?_
                refine q_RP_bd fun r14 er14 => ?_
                refine q_RP_call (v := none) (h2 := (q_kM r14 c n)) rfl rfl ((dzt_M262_64 s c n 1 ((s.1 14) 0) r14 er14).le (Nat.le_of_ble_eq_true rfl)) ?_
                show q_RP _ _ _ (211, [(0, .ref 64), (1, .int a1), (2, .int a2)], [], (q_kM r14 c n)) _ _
                refine q_RP_seg (g2 := (431, [(0, .ref 64), (1, .int a1), (2, .int a2)], [.int (a2 + 1), .int 4, .ref 78], (q_kM r14 c n))) 7 (fun _ _ => rfl) ?_
                refine q_RP_call (v := (some (.int (dz_M213 r14 (a2 + 1))))) (h2 := (q_kM r14 c n)) rfl rfl ((dzt_M213 r14 c n (a2 + 1)).le (Nat.le_of_ble_eq_true rfl)) ?_
                generalize dz_M213 r14 (a2 + 1) = r15
                refine q_RP_let ?_
                show q_RP _ _ _ (434, [(0, .ref 64), (1, .int a1), (2, .int a2)], [.int r15, .int 4, .ref 78], (q_kM r14 c n)) _ _
                refine q_RP_seg (g2 := (435, [(0, .ref 64), (1, .int a1), (2, .int a2)], [], (q_kM (q_sA r14 14 (upd (r14.1 14) 4 r15)) c n))) 1 (fun _ _ => rfl) ?_
                exact q_RP_ret rfl rfl rfl
              | false =>
                refine q_RP_cF ?_
                cases h11 : decide (a1 = 133) with
                | true =>
                  refine q_RP_cT ?_
                  refine q_RP_st1 (g2 := (214, [(0, .ref 64), (1, .int a1), (2, .int a2)], [], (q_kM s c n))) rfl (by rw [of_decide_eq_true h11]; rfl) ?_
                  refine q_RP_seg (g2 := (222, [(0, .ref 64), (1, .int a1), (2, .int a2)], [.int ((s.1 14) 1), .int 0, .ref 64], (q_kM s c n))) 6 (fun _ _ => rfl) ?_
                  refine q_RP_bd fun r16 er16 => ?_
                  refine q_RP_call (v := none) (h2 := (q_kM r16 c n)) rfl rfl ((dzt_M262_64 s c n 0 ((s.1 14) 1) r16 er16).le (Nat.le_of_ble_eq_true rfl)) ?_
                  show q_RP _ _ _ (225, [(0, .ref 64), (1, .int a1), (2, .int a2)], [], (q_kM r16 c n)) _ _
                  refine q_RP_seg (g2 := (431, [(0, .ref 64), (1, .int a1), (2, .int a2)], [.int (a2 + 1), .int 4, .ref 78], (q_kM r16 c n))) 7 (fun _ _ => rfl) ?_
                  refine q_RP_call (v := (some (.int (dz_M213 r16 (a2 + 1))))) (h2 := (q_kM r16 c n)) rfl rfl ((dzt_M213 r16 c n (a2 + 1)).le (Nat.le_of_ble_eq_true rfl)) ?_
                  generalize dz_M213 r16 (a2 + 1) = r17
                  refine q_RP_let ?_
                  show q_RP _ _ _ (434, [(0, .ref 64), (1, .int a1), (2, .int a2)], [.int r17, .int 4, .ref 78], (q_kM r16 c n)) _ _
                  refine q_RP_seg (g2 := (435, [(0, .ref 64), (1, .int a1), (2, .int a2)], [], (q_kM (q_sA r16 14 (upd (r16.1 14) 4 r17)) c n))) 1 (fun _ _ => rfl) ?_
                  exact q_RP_ret rfl rfl rfl
                | false =>
                  refine q_RP_cF ?_
                  cases h12 : decide (a1 = 134) with
                  | true =>
                    refine q_RP_cT ?_
                    refine q_RP_st1 (g2 := (228, [(0, .ref 64), (1, .int a1), (2, .int a2)], [], (q_kM s c n))) rfl (by rw [of_decide_eq_true h12]; rfl) ?_
                    refine q_RP_seg (g2 := (236, [(0, .ref 64), (1, .int a1), (2, .int a2)], [.int ((s.1 14) 0), .int 2, .ref 64], (q_kM s c n))) 6 (fun _ _ => rfl) ?_
                    refine q_RP_bd fun r18 er18 => ?_
                    refine q_RP_call (v := none) (h2 := (q_kM r18 c n)) rfl rfl ((dzt_M262_64 s c n 2 ((s.1 14) 0) r18 er18).le (Nat.le_of_ble_eq_true rfl)) ?_
                    show q_RP _ _ _ (239, [(0, .ref 64), (1, .int a1), (2, .int a2)], [], (q_kM r18 c n)) _ _
                    refine q_RP_seg (g2 := (431, [(0, .ref 64), (1, .int a1), (2, .int a2)], [.int (a2 + 1), .int 4, .ref 78], (q_kM r18 c n))) 7 (fun _ _ => rfl) ?_
                    refine q_RP_call (v := (some (.int (dz_M213 r18 (a2 + 1))))) (h2 := (q_kM r18 c n)) rfl rfl ((dzt_M213 r18 c n (a2 + 1)).le (Nat.le_of_ble_eq_true rfl)) ?_
                    generalize dz_M213 r18 (a2 + 1) = r19
                    refine q_RP_let ?_
                    show q_RP _ _ _ (434, [(0, .ref 64), (1, .int a1), (2, .int a2)], [.int r19, .int 4, .ref 78], (q_kM r18 c n)) _ _
                    refine q_RP_seg (g2 := (435, [(0, .ref 64), (1, .int a1), (2, .int a2)], [], (q_kM (q_sA r18 14 (upd (r18.1 14) 4 r19)) c n))) 1 (fun _ _ => rfl) ?_
                    exact q_RP_ret rfl rfl rfl
                  | false =>
                    refine q_RP_cF ?_
                    cases h13 : decide (a1 = 135) with
                    | true =>
                      refine q_RP_cT ?_
                      refine q_RP_st1 (g2 := (242, [(0, .ref 64), (1, .int a1), (2, .int a2)], [], (q_kM s c n))) rfl (by rw [of_decide_eq_true h13]; rfl) ?_
                      refine q_RP_seg (g2 := (250, [(0, .ref 64), (1, .int a1), (2, .int a2)], [.int ((s.1 14) 2), .int 0, .ref 64], (q_kM s c n))) 6 (fun _ _ => rfl) ?_
                      refine q_RP_bd fun r20 er20 => ?_
                      refine q_RP_call (v := none) (h2 := (q_kM r20 c n)) rfl rfl ((dzt_M262_64 s c n 0 ((s.1 14) 2) r20 er20).le (Nat.le_of_ble_eq_true rfl)) ?_
                      show q_RP _ _ _ (253, [(0, .ref 64), (1, .int a1), (2, .int a2)], [], (q_kM r20 c n)) _ _
                      refine q_RP_seg (g2 := (431, [(0, .ref 64), (1, .int a1), (2, .int a2)], [.int (a2 + 1), .int 4, .ref 78], (q_kM r20 c n))) 7 (fun _ _ => rfl) ?_
                      refine q_RP_call (v := (some (.int (dz_M213 r20 (a2 + 1))))) (h2 := (q_kM r20 c n)) rfl rfl ((dzt_M213 r20 c n (a2 + 1)).le (Nat.le_of_ble_eq_true rfl)) ?_
                      generalize dz_M213 r20 (a2 + 1) = r21
                      refine q_RP_let ?_
                      show q_RP _ _ _ (434, [(0, .ref 64), (1, .int a1), (2, .int a2)], [.int r21, .int 4, .ref 78], (q_kM r20 c n)) _ _
                      refine q_RP_seg (g2 := (435, [(0, .ref 64), (1, .int a1), (2, .int a2)], [], (q_kM (q_sA r20 14 (upd (r20.1 14) 4 r21)) c n))) 1 (fun _ _ => rfl) ?_
                      exact q_RP_ret rfl rfl rfl
                    | false =>
                      refine q_RP_cF ?_
                      cases h14 : decide (a1 = 136) with
                      | true =>
                        refine q_RP_cT ?_
                        refine q_RP_st1 (g2 := (256, [(0, .ref 64), (1, .int a1), (2, .int a2)], [], (q_kM s c n))) rfl (by rw [of_decide_eq_true h14]; rfl) ?_
                        refine q_RP_seg (g2 := (264, [(0, .ref 64), (1, .int a1), (2, .int a2)], [.int ((s.1 14) 3), .int 1, .ref 64], (q_kM s c n))) 6 (fun _ _ => rfl) ?_
                        refine q_RP_bd fun r22 er22 => ?_
                        refine q_RP_call (v := none) (h2 := (q_kM r22 c n)) rfl rfl ((dzt_M262_64 s c n 1 ((s.1 14) 3) r22 er22).le (Nat.le_of_ble_eq_true rfl)) ?_
                        show q_RP _ _ _ (267, [(0, .ref 64), (1, .int a1), (2, .int a2)], [], (q_kM r22 c n)) _ _
                        refine q_RP_seg (g2 := (431, [(0, .ref 64), (1, .int a1), (2, .int a2)], [.int (a2 + 1), .int 4, .ref 78], (q_kM r22 c n))) 7 (fun _ _ => rfl) ?_
                        refine q_RP_call (v := (some (.int (dz_M213 r22 (a2 + 1))))) (h2 := (q_kM r22 c n)) rfl rfl ((dzt_M213 r22 c n (a2 + 1)).le (Nat.le_of_ble_eq_true rfl)) ?_
                        generalize dz_M213 r22 (a2 + 1) = r23
                        refine q_RP_let ?_
                        show q_RP _ _ _ (434, [(0, .ref 64), (1, .int a1), (2, .int a2)], [.int r23, .int 4, .ref 78], (q_kM r22 c n)) _ _
                        refine q_RP_seg (g2 := (435, [(0, .ref 64), (1, .int a1), (2, .int a2)], [], (q_kM (q_sA r22 14 (upd (r22.1 14) 4 r23)) c n))) 1 (fun _ _ => rfl) ?_
                        exact q_RP_ret rfl rfl rfl
                      | false =>
                        refine q_RP_cF ?_
                        cases h15 : decide (a1 = 137) with
                        | true =>
                          refine q_RP_cT ?_
                          refine q_RP_st1 (g2 := (270, [(0, .ref 64), (1, .int a1), (2, .int a2)], [], (q_kM s c n))) rfl (by rw [of_decide_eq_true h15]; rfl) ?_
                          refine q_RP_seg (g2 := (281, [(0, .ref 64), (1, .int a1), (2, .int a2)], [.int ((s.1 14) 1), .int 3, .ref 78], (q_kM s c n))) 7 (fun _ _ => rfl) ?_
                          refine q_RP_seg (g2 := (431, [(0, .ref 64), (1, .int a1), (2, .int a2)], [.int (a2 + 1), .int 4, .ref 78], (q_kM (q_sA s 14 (upd (s.1 14) 3 ((s.1 14) 1))) c n))) 8 (fun _ _ => rfl) ?_
                          refine q_RP_call (v := (some (.int (dz_M213 (q_sA s 14 (upd (s.1 14) 3 ((s.1 14) 1))) (a2 + 1))))) (h2 := (q_kM (q_sA s 14 (upd (s.1 14) 3 ((s.1 14) 1))) c n)) rfl rfl ((dzt_M213 (q_sA s 14 (upd (s.1 14) 3 ((s.1 14) 1))) c n (a2 + 1)).le (Nat.le_of_ble_eq_true rfl)) ?_
                          generalize dz_M213 (q_sA s 14 (upd (s.1 14) 3 ((s.1 14) 1))) (a2 + 1) = r24
                          refine q_RP_let ?_
                          show q_RP _ _ _ (434, [(0, .ref 64), (1, .int a1), (2, .int a2)], [.int r24, .int 4, .ref 78], (q_kM (q_sA s 14 (upd (s.1 14) 3 ((s.1 14) 1))) c n)) _ _
                          generalize (q_sA s 14 (upd (s.1 14) 3 ((s.1 14) 1))) = r25
                          refine q_RP_let ?_
                          show q_RP _ _ _ (434, [(0, .ref 64), (1, .int a1), (2, .int a2)], [.int r24, .int 4, .ref 78], (q_kM r25 c n)) _ _
                          refine q_RP_seg (g2 := (435, [(0, .ref 64), (1, .int a1), (2, .int a2)], [], (q_kM (q_sA r25 14 (upd (r25.1 14) 4 r24)) c n))) 1 (fun _ _ => rfl) ?_
                          exact q_RP_ret rfl rfl rfl
                        | false =>
                          refine q_RP_cF ?_
                          cases h16 : decide (a1 = 138) with
                          | true =>
                            refine q_RP_cT ?_
                            refine q_RP_st1 (g2 := (285, [(0, .ref 64), (1, .int a1), (2, .int a2)], [], (q_kM s c n))) rfl (by rw [of_decide_eq_true h16]; rfl) ?_
                            refine q_RP_seg (g2 := (292, [(0, .ref 64), (1, .int a1), (2, .int a2)], [.int ((s.1 14) 0), .ref 64], (q_kM s c n))) 5 (fun _ _ => rfl) ?_
                            refine q_RP_bd fun r26 er26 => ?_
                            refine q_RP_call (v := none) (h2 := (q_kM r26 c n)) rfl rfl ((dzt_M255_64 s c n ((s.1 14) 0) r26 er26).le (Nat.le_of_ble_eq_true rfl)) ?_
                            show q_RP _ _ _ (295, [(0, .ref 64), (1, .int a1), (2, .int a2)], [], (q_kM r26 c n)) _ _
                            refine q_RP_seg (g2 := (431, [(0, .ref 64), (1, .int a1), (2, .int a2)], [.int (a2 + 1), .int 4, .ref 78], (q_kM r26 c n))) 7 (fun _ _ => rfl) ?_
                            refine q_RP_call (v := (some (.int (dz_M213 r26 (a2 + 1))))) (h2 := (q_kM r26 c n)) rfl rfl ((dzt_M213 r26 c n (a2 + 1)).le (Nat.le_of_ble_eq_true rfl)) ?_
                            generalize dz_M213 r26 (a2 + 1) = r27
                            refine q_RP_let ?_
                            show q_RP _ _ _ (434, [(0, .ref 64), (1, .int a1), (2, .int a2)], [.int r27, .int 4, .ref 78], (q_kM r26 c n)) _ _
                            refine q_RP_seg (g2 := (435, [(0, .ref 64), (1, .int a1), (2, .int a2)], [], (q_kM (q_sA r26 14 (upd (r26.1 14) 4 r27)) c n))) 1 (fun _ _ => rfl) ?_
                            exact q_RP_ret rfl rfl rfl
                          | false =>
                            refine q_RP_cF ?_
                            cases h17 : decide (a1 = 139) with
                            | true =>
                              refine q_RP_cT ?_
                              refine q_RP_st1 (g2 := (298, [(0, .ref 64), (1, .int a1), (2, .int a2)], [], (q_kM s c n))) rfl (by rw [of_decide_eq_true h17]; rfl) ?_
                              refine q_RP_seg (g2 := (301, [(0, .ref 64), (1, .int a1), (2, .int a2)], [.ref 64, .int 0, .ref 64], (q_kM s c n))) 3 (fun _ _ => rfl) ?_
                              refine q_RP_bd fun r28 er28 => ?_
                              refine q_RP_call (v := (some (.int r28.2))) (h2 := (q_kM r28.1 c n)) rfl rfl ((dzt_M256_64 s c n r28 er28).le (Nat.le_of_ble_eq_true rfl)) ?_
                              show q_RP _ _ _ (304, [(0, .ref 64), (1, .int a1), (2, .int a2)], [.int r28.2, .int 0, .ref 64], (q_kM r28.1 c n)) _ _
                              refine q_RP_bd fun r29 er29 => ?_
                              refine q_RP_call (v := none) (h2 := (q_kM r29 c n)) rfl rfl ((dzt_M262_64 r28.1 c n 0 r28.2 r29 er29).le (Nat.le_of_ble_eq_true rfl)) ?_
                              show q_RP _ _ _ (307, [(0, .ref 64), (1, .int a1), (2, .int a2)], [], (q_kM r29 c n)) _ _
                              refine q_RP_seg (g2 := (431, [(0, .ref 64), (1, .int a1), (2, .int a2)], [.int (a2 + 1), .int 4, .ref 78], (q_kM r29 c n))) 7 (fun _ _ => rfl) ?_
                              refine q_RP_call (v := (some (.int (dz_M213 r29 (a2 + 1))))) (h2 := (q_kM r29 c n)) rfl rfl ((dzt_M213 r29 c n (a2 + 1)).le (Nat.le_of_ble_eq_true rfl)) ?_
                              generalize dz_M213 r29 (a2 + 1) = r30
                              refine q_RP_let ?_
                              show q_RP _ _ _ (434, [(0, .ref 64), (1, .int a1), (2, .int a2)], [.int r30, .int 4, .ref 78], (q_kM r29 c n)) _ _
                              refine q_RP_seg (g2 := (435, [(0, .ref 64), (1, .int a1), (2, .int a2)], [], (q_kM (q_sA r29 14 (upd (r29.1 14) 4 r30)) c n))) 1 (fun _ _ => rfl) ?_
                              exact q_RP_ret rfl rfl rfl
                            | false =>
                              refine q_RP_cF ?_
                              cases h18 : decide (a1 = 140) with
                              | true =>
                                refine q_RP_cT ?_
                                refine q_RP_st1 (g2 := (310, [(0, .ref 64), (1, .int a1), (2, .int a2)], [], (q_kM s c n))) rfl (by rw [of_decide_eq_true h18]; rfl) ?_
                                refine q_RP_seg (g2 := (314, [(0, .ref 64), (1, .int a1), (2, .int a2)], [.int 16, .ref 64, .ref 64], (q_kM s c n))) 3 (fun _ _ => rfl) ?_
                                refine q_RP_bd fun r31 er31 => ?_
                                refine q_RP_call (v := (some (.int r31))) (h2 := (q_kM s c n)) rfl rfl ((dzt_M258_64 s c n 16 r31 er31).le (Nat.le_of_ble_eq_true rfl)) ?_
                                show q_RP _ _ _ (317, [(0, .ref 64), (1, .int a1), (2, .int a2)], [.int r31, .ref 64], (q_kM s c n)) _ _
                                refine q_RP_bd fun r32 er32 => ?_
                                refine q_RP_call (v := none) (h2 := (q_kM r32 c n)) rfl rfl ((dzt_M255_64 s c n r31 r32 er32).le (Nat.le_of_ble_eq_true rfl)) ?_
                                show q_RP _ _ _ (320, [(0, .ref 64), (1, .int a1), (2, .int a2)], [], (q_kM r32 c n)) _ _
                                refine q_RP_seg (g2 := (431, [(0, .ref 64), (1, .int a1), (2, .int a2)], [.int (a2 + 1), .int 4, .ref 78], (q_kM r32 c n))) 7 (fun _ _ => rfl) ?_
                                refine q_RP_call (v := (some (.int (dz_M213 r32 (a2 + 1))))) (h2 := (q_kM r32 c n)) rfl rfl ((dzt_M213 r32 c n (a2 + 1)).le (Nat.le_of_ble_eq_true rfl)) ?_
                                generalize dz_M213 r32 (a2 + 1) = r33
                                refine q_RP_let ?_
                                show q_RP _ _ _ (434, [(0, .ref 64), (1, .int a1), (2, .int a2)], [.int r33, .int 4, .ref 78], (q_kM r32 c n)) _ _
                                refine q_RP_seg (g2 := (435, [(0, .ref 64), (1, .int a1), (2, .int a2)], [], (q_kM (q_sA r32 14 (upd (r32.1 14) 4 r33)) c n))) 1 (fun _ _ => rfl) ?_
                                exact q_RP_ret rfl rfl rfl
                              | false =>
                                refine q_RP_cF ?_
                                cases h19 : decide (a1 = 141) with
                                | true =>
                                  refine q_RP_cT ?_
                                  refine q_RP_st1 (g2 := (323, [(0, .ref 64), (1, .int a1), (2, .int a2)], [], (q_kM s c n))) rfl (by rw [of_decide_eq_true h19]; rfl) ?_
                                  refine q_RP_seg (g2 := (325, [(0, .ref 64), (1, .int a1), (2, .int a2)], [.ref 64, .ref 64], (q_kM s c n))) 2 (fun _ _ => rfl) ?_
                                  refine q_RP_bd fun r34 er34 => ?_
                                  refine q_RP_call (v := (some (.int r34.2))) (h2 := (q_kM r34.1 c n)) rfl rfl ((dzt_M256_64 s c n r34 er34).le (Nat.le_of_ble_eq_true rfl)) ?_
                                  show q_RP _ _ _ (328, [(0, .ref 64), (1, .int a1), (2, .int a2)], [.int r34.2, .ref 64], (q_kM r34.1 c n)) _ _
                                  refine q_RP_call (v := none) (h2 := (q_kM (dz_M259_64 r34.1 r34.2) c n)) rfl rfl ((dzt_M259_64 r34.1 c n r34.2).le (Nat.le_of_ble_eq_true rfl)) ?_
                                  generalize dz_M259_64 r34.1 r34.2 = r35
                                  refine q_RP_let ?_
                                  show q_RP _ _ _ (331, [(0, .ref 64), (1, .int a1), (2, .int a2)], [], (q_kM r35 c n)) _ _
                                  refine q_RP_seg (g2 := (431, [(0, .ref 64), (1, .int a1), (2, .int a2)], [.int (a2 + 1), .int 4, .ref 78], (q_kM r35 c n))) 7 (fun _ _ => rfl) ?_
                                  refine q_RP_call (v := (some (.int (dz_M213 r35 (a2 + 1))))) (h2 := (q_kM r35 c n)) rfl rfl ((dzt_M213 r35 c n (a2 + 1)).le (Nat.le_of_ble_eq_true rfl)) ?_
                                  generalize dz_M213 r35 (a2 + 1) = r36
                                  refine q_RP_let ?_
                                  show q_RP _ _ _ (434, [(0, .ref 64), (1, .int a1), (2, .int a2)], [.int r36, .int 4, .ref 78], (q_kM r35 c n)) _ _
                                  refine q_RP_seg (g2 := (435, [(0, .ref 64), (1, .int a1), (2, .int a2)], [], (q_kM (q_sA r35 14 (upd (r35.1 14) 4 r36)) c n))) 1 (fun _ _ => rfl) ?_
                                  exact q_RP_ret rfl rfl rfl
                                | false =>
                                  refine q_RP_cF ?_
                                  cases h20 : decide (a1 = 142) with
                                  | true =>
                                    refine q_RP_cT ?_
                                    refine q_RP_st1 (g2 := (334, [(0, .ref 64), (1, .int a1), (2, .int a2)], [], (q_kM s c n))) rfl (by rw [of_decide_eq_true h20]; rfl) ?_
                                    refine q_RP_seg (g2 := (431, [(0, .ref 64), (1, .int a1), (2, .int a2)], [.int (a2 + 1), .int 4, .ref 78], (q_kM (q_sA s 15 (upd (s.1 15) 5 (vp_nar .boolean 1))) c n))) 12 (fun _ _ => rfl) ?_
                                    refine q_RP_call (v := (some (.int (dz_M213 (q_sA s 15 (upd (s.1 15) 5 (vp_nar .boolean 1))) (a2 + 1))))) (h2 := (q_kM (q_sA s 15 (upd (s.1 15) 5 (vp_nar .boolean 1))) c n)) rfl rfl ((dzt_M213 (q_sA s 15 (upd (s.1 15) 5 (vp_nar .boolean 1))) c n (a2 + 1)).le (Nat.le_of_ble_eq_true rfl)) ?_
                                    generalize dz_M213 (q_sA s 15 (upd (s.1 15) 5 (vp_nar .boolean 1))) (a2 + 1) = r37
                                    refine q_RP_let ?_
                                    show q_RP _ _ _ (434, [(0, .ref 64), (1, .int a1), (2, .int a2)], [.int r37, .int 4, .ref 78], (q_kM (q_sA s 15 (upd (s.1 15) 5 (vp_nar .boolean 1))) c n)) _ _
                                    refine q_RP_seg (g2 := (435, [(0, .ref 64), (1, .int a1), (2, .int a2)], [], (q_kM (q_sA (q_sA s 15 (upd (s.1 15) 5 (vp_nar .boolean 1))) 14 (upd (s.1 14) 4 r37)) c n))) 1 (fun _ _ => rfl) ?_
                                    exact q_RP_ret rfl rfl rfl
                                  | false =>
                                    refine q_RP_cF ?_
                                    cases h21 : decide (a1 = 143) with
                                    | true =>
                                      refine q_RP_cT ?_
                                      refine q_RP_st1 (g2 := (344, [(0, .ref 64), (1, .int a1), (2, .int a2)], [], (q_kM s c n))) rfl (by rw [of_decide_eq_true h21]; rfl) ?_
                                      refine q_RP_seg (g2 := (431, [(0, .ref 64), (1, .int a1), (2, .int a2)], [.int (a2 + 1), .int 4, .ref 78], (q_kM (q_sA s 15 (upd (s.1 15) 5 (vp_nar .boolean 0))) c n))) 12 (fun _ _ => rfl) ?_
                                      refine q_RP_call (v := (some (.int (dz_M213 (q_sA s 15 (upd (s.1 15) 5 (vp_nar .boolean 0))) (a2 + 1))))) (h2 := (q_kM (q_sA s 15 (upd (s.1 15) 5 (vp_nar .boolean 0))) c n)) rfl rfl ((dzt_M213 (q_sA s 15 (upd (s.1 15) 5 (vp_nar .boolean 0))) c n (a2 + 1)).le (Nat.le_of_ble_eq_true rfl)) ?_
                                      generalize dz_M213 (q_sA s 15 (upd (s.1 15) 5 (vp_nar .boolean 0))) (a2 + 1) = r38
                                      refine q_RP_let ?_
                                      show q_RP _ _ _ (434, [(0, .ref 64), (1, .int a1), (2, .int a2)], [.int r38, .int 4, .ref 78], (q_kM (q_sA s 15 (upd (s.1 15) 5 (vp_nar .boolean 0))) c n)) _ _
                                      refine q_RP_seg (g2 := (435, [(0, .ref 64), (1, .int a1), (2, .int a2)], [], (q_kM (q_sA (q_sA s 15 (upd (s.1 15) 5 (vp_nar .boolean 0))) 14 (upd (s.1 14) 4 r38)) c n))) 1 (fun _ _ => rfl) ?_
                                      exact q_RP_ret rfl rfl rfl
                                    | false =>
                                      refine q_RP_cF ?_
                                      cases h22 : decide (a1 = 144) with
                                      | true =>
                                        refine q_RP_cT ?_
                                        refine q_RP_st1 (g2 := (354, [(0, .ref 64), (1, .int a1), (2, .int a2)], [], (q_kM s c n))) rfl (by rw [of_decide_eq_true h22]; rfl) ?_
                                        refine q_RP_seg (g2 := (431, [(0, .ref 64), (1, .int a1), (2, .int a2)], [.int (a2 + 1), .int 4, .ref 78], (q_kM (q_sA s 15 (upd (s.1 15) 2 (vp_nar .boolean 1))) c n))) 12 (fun _ _ => rfl) ?_
                                        refine q_RP_call (v := (some (.int (dz_M213 (q_sA s 15 (upd (s.1 15) 2 (vp_nar .boolean 1))) (a2 + 1))))) (h2 := (q_kM (q_sA s 15 (upd (s.1 15) 2 (vp_nar .boolean 1))) c n)) rfl rfl ((dzt_M213 (q_sA s 15 (upd (s.1 15) 2 (vp_nar .boolean 1))) c n (a2 + 1)).le (Nat.le_of_ble_eq_true rfl)) ?_
                                        generalize dz_M213 (q_sA s 15 (upd (s.1 15) 2 (vp_nar .boolean 1))) (a2 + 1) = r39
                                        refine q_RP_let ?_
                                        show q_RP _ _ _ (434, [(0, .ref 64), (1, .int a1), (2, .int a2)], [.int r39, .int 4, .ref 78], (q_kM (q_sA s 15 (upd (s.1 15) 2 (vp_nar .boolean 1))) c n)) _ _
                                        refine q_RP_seg (g2 := (435, [(0, .ref 64), (1, .int a1), (2, .int a2)], [], (q_kM (q_sA (q_sA s 15 (upd (s.1 15) 2 (vp_nar .boolean 1))) 14 (upd (s.1 14) 4 r39)) c n))) 1 (fun _ _ => rfl) ?_
                                        exact q_RP_ret rfl rfl rfl
                                      | false =>
                                        refine q_RP_cF ?_
                                        cases h23 : decide (a1 = 145) with
                                        | true =>
                                          refine q_RP_cT ?_
                                          refine q_RP_st1 (g2 := (364, [(0, .ref 64), (1, .int a1), (2, .int a2)], [], (q_kM s c n))) rfl (by rw [of_decide_eq_true h23]; rfl) ?_
                                          refine q_RP_seg (g2 := (431, [(0, .ref 64), (1, .int a1), (2, .int a2)], [.int (a2 + 1), .int 4, .ref 78], (q_kM (q_sA s 15 (upd (s.1 15) 2 (vp_nar .boolean 0))) c n))) 12 (fun _ _ => rfl) ?_
                                          refine q_RP_call (v := (some (.int (dz_M213 (q_sA s 15 (upd (s.1 15) 2 (vp_nar .boolean 0))) (a2 + 1))))) (h2 := (q_kM (q_sA s 15 (upd (s.1 15) 2 (vp_nar .boolean 0))) c n)) rfl rfl ((dzt_M213 (q_sA s 15 (upd (s.1 15) 2 (vp_nar .boolean 0))) c n (a2 + 1)).le (Nat.le_of_ble_eq_true rfl)) ?_
                                          generalize dz_M213 (q_sA s 15 (upd (s.1 15) 2 (vp_nar .boolean 0))) (a2 + 1) = r40
                                          refine q_RP_let ?_
                                          show q_RP _ _ _ (434, [(0, .ref 64), (1, .int a1), (2, .int a2)], [.int r40, .int 4, .ref 78], (q_kM (q_sA s 15 (upd (s.1 15) 2 (vp_nar .boolean 0))) c n)) _ _
                                          refine q_RP_seg (g2 := (435, [(0, .ref 64), (1, .int a1), (2, .int a2)], [], (q_kM (q_sA (q_sA s 15 (upd (s.1 15) 2 (vp_nar .boolean 0))) 14 (upd (s.1 14) 4 r40)) c n))) 1 (fun _ _ => rfl) ?_
                                          exact q_RP_ret rfl rfl rfl
                                        | false =>
                                          refine q_RP_cF ?_
                                          cases h24 : decide (a1 = 146) with
                                          | true =>
                                            refine q_RP_cT ?_
                                            refine q_RP_st1 (g2 := (374, [(0, .ref 64), (1, .int a1), (2, .int a2)], [], (q_kM s c n))) rfl (by rw [of_decide_eq_true h24]; rfl) ?_
                                            refine q_RP_seg (g2 := (431, [(0, .ref 64), (1, .int a1), (2, .int a2)], [.int (a2 + 1), .int 4, .ref 78], (q_kM (q_sA s 15 (upd (s.1 15) 3 (vp_nar .boolean 1))) c n))) 12 (fun _ _ => rfl) ?_
                                            refine q_RP_call (v := (some (.int (dz_M213 (q_sA s 15 (upd (s.1 15) 3 (vp_nar .boolean 1))) (a2 + 1))))) (h2 := (q_kM (q_sA s 15 (upd (s.1 15) 3 (vp_nar .boolean 1))) c n)) rfl rfl ((dzt_M213 (q_sA s 15 (upd (s.1 15) 3 (vp_nar .boolean 1))) c n (a2 + 1)).le (Nat.le_of_ble_eq_true rfl)) ?_
                                            generalize dz_M213 (q_sA s 15 (upd (s.1 15) 3 (vp_nar .boolean 1))) (a2 + 1) = r41
                                            refine q_RP_let ?_
                                            show q_RP _ _ _ (434, [(0, .ref 64), (1, .int a1), (2, .int a2)], [.int r41, .int 4, .ref 78], (q_kM (q_sA s 15 (upd (s.1 15) 3 (vp_nar .boolean 1))) c n)) _ _
                                            refine q_RP_seg (g2 := (435, [(0, .ref 64), (1, .int a1), (2, .int a2)], [], (q_kM (q_sA (q_sA s 15 (upd (s.1 15) 3 (vp_nar .boolean 1))) 14 (upd (s.1 14) 4 r41)) c n))) 1 (fun _ _ => rfl) ?_
                                            exact q_RP_ret rfl rfl rfl
                                          | false =>
                                            refine q_RP_cF ?_
                                            cases h25 : decide (a1 = 147) with
                                            | true =>
                                              refine q_RP_cT ?_
                                              refine q_RP_st1 (g2 := (384, [(0, .ref 64), (1, .int a1), (2, .int a2)], [], (q_kM s c n))) rfl (by rw [of_decide_eq_true h25]; rfl) ?_
                                              refine q_RP_seg (g2 := (431, [(0, .ref 64), (1, .int a1), (2, .int a2)], [.int (a2 + 1), .int 4, .ref 78], (q_kM (q_sA s 15 (upd (s.1 15) 3 (vp_nar .boolean 0))) c n))) 12 (fun _ _ => rfl) ?_
                                              refine q_RP_call (v := (some (.int (dz_M213 (q_sA s 15 (upd (s.1 15) 3 (vp_nar .boolean 0))) (a2 + 1))))) (h2 := (q_kM (q_sA s 15 (upd (s.1 15) 3 (vp_nar .boolean 0))) c n)) rfl rfl ((dzt_M213 (q_sA s 15 (upd (s.1 15) 3 (vp_nar .boolean 0))) c n (a2 + 1)).le (Nat.le_of_ble_eq_true rfl)) ?_
                                              generalize dz_M213 (q_sA s 15 (upd (s.1 15) 3 (vp_nar .boolean 0))) (a2 + 1) = r42
                                              refine q_RP_let ?_
                                              show q_RP _ _ _ (434, [(0, .ref 64), (1, .int a1), (2, .int a2)], [.int r42, .int 4, .ref 78], (q_kM (q_sA s 15 (upd (s.1 15) 3 (vp_nar .boolean 0))) c n)) _ _
                                              refine q_RP_seg (g2 := (435, [(0, .ref 64), (1, .int a1), (2, .int a2)], [], (q_kM (q_sA (q_sA s 15 (upd (s.1 15) 3 (vp_nar .boolean 0))) 14 (upd (s.1 14) 4 r42)) c n))) 1 (fun _ _ => rfl) ?_
                                              exact q_RP_ret rfl rfl rfl
                                            | false =>
                                              refine q_RP_cF ?_
                                              cases h26 : decide (a1 = 148) with
                                              | true =>
                                                refine q_RP_cT ?_
                                                refine q_RP_st1 (g2 := (394, [(0, .ref 64), (1, .int a1), (2, .int a2)], [], (q_kM s c n))) rfl (by rw [of_decide_eq_true h26]; rfl) ?_
                                                refine q_RP_seg (g2 := (431, [(0, .ref 64), (1, .int a1), (2, .int a2)], [.int (a2 + 1), .int 4, .ref 78], (q_kM (q_sA s 15 (upd (s.1 15) 1 (vp_nar .boolean 0))) c n))) 12 (fun _ _ => rfl) ?_
                                                refine q_RP_call (v := (some (.int (dz_M213 (q_sA s 15 (upd (s.1 15) 1 (vp_nar .boolean 0))) (a2 + 1))))) (h2 := (q_kM (q_sA s 15 (upd (s.1 15) 1 (vp_nar .boolean 0))) c n)) rfl rfl ((dzt_M213 (q_sA s 15 (upd (s.1 15) 1 (vp_nar .boolean 0))) c n (a2 + 1)).le (Nat.le_of_ble_eq_true rfl)) ?_
                                                generalize dz_M213 (q_sA s 15 (upd (s.1 15) 1 (vp_nar .boolean 0))) (a2 + 1) = r43
                                                refine q_RP_let ?_
                                                show q_RP _ _ _ (434, [(0, .ref 64), (1, .int a1), (2, .int a2)], [.int r43, .int 4, .ref 78], (q_kM (q_sA s 15 (upd (s.1 15) 1 (vp_nar .boolean 0))) c n)) _ _
                                                refine q_RP_seg (g2 := (435, [(0, .ref 64), (1, .int a1), (2, .int a2)], [], (q_kM (q_sA (q_sA s 15 (upd (s.1 15) 1 (vp_nar .boolean 0))) 14 (upd (s.1 14) 4 r43)) c n))) 1 (fun _ _ => rfl) ?_
                                                exact q_RP_ret rfl rfl rfl
                                              | false =>
                                                refine q_RP_cF ?_
                                                cases h27 : decide (a1 = 149) with
                                                | true =>
                                                  refine q_RP_cT ?_
                                                  refine q_RP_st1 (g2 := (404, [(0, .ref 64), (1, .int a1), (2, .int a2)], [], (q_kM s c n))) rfl (by rw [of_decide_eq_true h27]; rfl) ?_
                                                  refine q_RP_seg (g2 := (431, [(0, .ref 64), (1, .int a1), (2, .int a2)], [.int (a2 + 1), .int 4, .ref 78], (q_kM s c n))) 7 (fun _ _ => rfl) ?_
                                                  refine q_RP_call (v := (some (.int (dz_M213 s (a2 + 1))))) (h2 := (q_kM s c n)) rfl rfl ((dzt_M213 s c n (a2 + 1)).le (Nat.le_of_ble_eq_true rfl)) ?_
                                                  generalize dz_M213 s (a2 + 1) = r44
                                                  refine q_RP_let ?_
                                                  show q_RP _ _ _ (434, [(0, .ref 64), (1, .int a1), (2, .int a2)], [.int r44, .int 4, .ref 78], (q_kM s c n)) _ _
                                                  refine q_RP_seg (g2 := (435, [(0, .ref 64), (1, .int a1), (2, .int a2)], [], (q_kM (q_sA s 14 (upd (s.1 14) 4 r44)) c n))) 1 (fun _ _ => rfl) ?_
                                                  exact q_RP_ret rfl rfl rfl
                                                | false =>
                                                  refine q_RP_cF ?_
                                                  cases h28 : decide (a1 = 150) with
                                                  | true =>
                                                    refine q_RP_cT ?_
                                                    refine q_RP_st1 (g2 := (407, [(0, .ref 64), (1, .int a1), (2, .int a2)], [], (q_kM s c n))) rfl (by rw [of_decide_eq_true h28]; rfl) ?_
                                                    refine q_RP_seg (g2 := (409, [(0, .ref 64), (1, .int a1), (2, .int a2)], [.int a1, .ref 64], (q_kM s c n))) 2 (fun _ _ => rfl) ?_
                                                    refine q_RP_bd fun r45 er45 => ?_
                                                    refine q_RP_call (v := none) (h2 := (q_kM r45 c n)) rfl rfl ((dzt_M272_64 s c n a1 r45 er45).le (Nat.le_of_ble_eq_true rfl)) ?_
                                                    show q_RP _ _ _ (412, [(0, .ref 64), (1, .int a1), (2, .int a2)], [], (q_kM r45 c n)) _ _
                                                    refine q_RP_seg (g2 := (431, [(0, .ref 64), (1, .int a1), (2, .int a2)], [.int (a2 + 1), .int 4, .ref 78], (q_kM r45 c n))) 7 (fun _ _ => rfl) ?_
                                                    refine q_RP_call (v := (some (.int (dz_M213 r45 (a2 + 1))))) (h2 := (q_kM r45 c n)) rfl rfl ((dzt_M213 r45 c n (a2 + 1)).le (Nat.le_of_ble_eq_true rfl)) ?_
                                                    generalize dz_M213 r45 (a2 + 1) = r46
                                                    refine q_RP_let ?_
                                                    show q_RP _ _ _ (434, [(0, .ref 64), (1, .int a1), (2, .int a2)], [.int r46, .int 4, .ref 78], (q_kM r45 c n)) _ _
                                                    refine q_RP_seg (g2 := (435, [(0, .ref 64), (1, .int a1), (2, .int a2)], [], (q_kM (q_sA r45 14 (upd (r45.1 14) 4 r46)) c n))) 1 (fun _ _ => rfl) ?_
                                                    exact q_RP_ret rfl rfl rfl
                                                  | false =>
                                                    refine q_RP_cF ?_
                                                    cases h29 : decide (a1 = 151) with
                                                    | true =>
                                                      refine q_RP_cT ?_
                                                      refine q_RP_st1 (g2 := (407, [(0, .ref 64), (1, .int a1), (2, .int a2)], [], (q_kM s c n))) rfl (by rw [of_decide_eq_true h29]; rfl) ?_
                                                      refine q_RP_seg (g2 := (409, [(0, .ref 64), (1, .int a1), (2, .int a2)], [.int a1, .ref 64], (q_kM s c n))) 2 (fun _ _ => rfl) ?_
                                                      refine q_RP_bd fun r47 er47 => ?_
                                                      refine q_RP_call (v := none) (h2 := (q_kM r47 c n)) rfl rfl ((dzt_M272_64 s c n a1 r47 er47).le (Nat.le_of_ble_eq_true rfl)) ?_
                                                      show q_RP _ _ _ (412, [(0, .ref 64), (1, .int a1), (2, .int a2)], [], (q_kM r47 c n)) _ _
                                                      refine q_RP_seg (g2 := (431, [(0, .ref 64), (1, .int a1), (2, .int a2)], [.int (a2 + 1), .int 4, .ref 78], (q_kM r47 c n))) 7 (fun _ _ => rfl) ?_
                                                      refine q_RP_call (v := (some (.int (dz_M213 r47 (a2 + 1))))) (h2 := (q_kM r47 c n)) rfl rfl ((dzt_M213 r47 c n (a2 + 1)).le (Nat.le_of_ble_eq_true rfl)) ?_
                                                      generalize dz_M213 r47 (a2 + 1) = r48
                                                      refine q_RP_let ?_
                                                      show q_RP _ _ _ (434, [(0, .ref 64), (1, .int a1), (2, .int a2)], [.int r48, .int 4, .ref 78], (q_kM r47 c n)) _ _
                                                      refine q_RP_seg (g2 := (435, [(0, .ref 64), (1, .int a1), (2, .int a2)], [], (q_kM (q_sA r47 14 (upd (r47.1 14) 4 r48)) c n))) 1 (fun _ _ => rfl) ?_
                                                      exact q_RP_ret rfl rfl rfl
                                                    | false =>
                                                      refine q_RP_cF ?_
                                                      cases h30 : decide (a1 = 152) with
                                                      | true =>
                                                        refine q_RP_cT ?_
                                                        refine q_RP_st1 (g2 := (407, [(0, .ref 64), (1, .int a1), (2, .int a2)], [], (q_kM s c n))) rfl (by rw [of_decide_eq_true h30]; rfl) ?_
                                                        refine q_RP_seg (g2 := (409, [(0, .ref 64), (1, .int a1), (2, .int a2)], [.int a1, .ref 64], (q_kM s c n))) 2 (fun _ _ => rfl) ?_
                                                        refine q_RP_bd fun r49 er49 => ?_
                                                        refine q_RP_call (v := none) (h2 := (q_kM r49 c n)) rfl rfl ((dzt_M272_64 s c n a1 r49 er49).le (Nat.le_of_ble_eq_true rfl)) ?_
                                                        show q_RP _ _ _ (412, [(0, .ref 64), (1, .int a1), (2, .int a2)], [], (q_kM r49 c n)) _ _
                                                        refine q_RP_seg (g2 := (431, [(0, .ref 64), (1, .int a1), (2, .int a2)], [.int (a2 + 1), .int 4, .ref 78], (q_kM r49 c n))) 7 (fun _ _ => rfl) ?_
                                                        refine q_RP_call (v := (some (.int (dz_M213 r49 (a2 + 1))))) (h2 := (q_kM r49 c n)) rfl rfl ((dzt_M213 r49 c n (a2 + 1)).le (Nat.le_of_ble_eq_true rfl)) ?_
                                                        generalize dz_M213 r49 (a2 + 1) = r50
                                                        refine q_RP_let ?_
                                                        show q_RP _ _ _ (434, [(0, .ref 64), (1, .int a1), (2, .int a2)], [.int r50, .int 4, .ref 78], (q_kM r49 c n)) _ _
                                                        refine q_RP_seg (g2 := (435, [(0, .ref 64), (1, .int a1), (2, .int a2)], [], (q_kM (q_sA r49 14 (upd (r49.1 14) 4 r50)) c n))) 1 (fun _ _ => rfl) ?_
                                                        exact q_RP_ret rfl rfl rfl
                                                      | false =>
                                                        refine q_RP_cF ?_
                                                        have h31 : a1 = 153 := Int32.toInt_inj.mp (by have e0 := q_neI h6 (n := 128); have e1 := q_neI h7 (n := 129); have e2 := q_neI h8 (n := 130); have e3 := q_neI h9 (n := 131); have e4 := q_neI h10 (n := 132); have e5 := q_neI h11 (n := 133); have e6 := q_neI h12 (n := 134); have e7 := q_neI h13 (n := 135); have e8 := q_neI h14 (n := 136); have e9 := q_neI h15 (n := 137); have e10 := q_neI h16 (n := 138); have e11 := q_neI h17 (n := 139); have e12 := q_neI h18 (n := 140); have e13 := q_neI h19 (n := 141); have e14 := q_neI h20 (n := 142); have e15 := q_neI h21 (n := 143); have e16 := q_neI h22 (n := 144); have e17 := q_neI h23 (n := 145); have e18 := q_neI h24 (n := 146); have e19 := q_neI h25 (n := 147); have e20 := q_neI h26 (n := 148); have e21 := q_neI h27 (n := 149); have e22 := q_neI h28 (n := 150); have e23 := q_neI h29 (n := 151); have e24 := q_neI h30 (n := 152); have l1 : 128 ≤ (a1).toInt := q_lo1 h4; have l2 : (a1).toInt ≤ 153 := q_hi2 h5; show (a1).toInt = 153; omega)
                                                        refine q_RP_st1 (g2 := (407, [(0, .ref 64), (1, .int a1), (2, .int a2)], [], (q_kM s c n))) rfl (by rw [h31]; rfl) ?_
                                                        refine q_RP_seg (g2 := (409, [(0, .ref 64), (1, .int a1), (2, .int a2)], [.int a1, .ref 64], (q_kM s c n))) 2 (fun _ _ => rfl) ?_
                                                        refine q_RP_bd fun r51 er51 => ?_
                                                        refine q_RP_call (v := none) (h2 := (q_kM r51 c n)) rfl rfl ((dzt_M272_64 s c n a1 r51 er51).le (Nat.le_of_ble_eq_true rfl)) ?_
                                                        show q_RP _ _ _ (412, [(0, .ref 64), (1, .int a1), (2, .int a2)], [], (q_kM r51 c n)) _ _
                                                        refine q_RP_seg (g2 := (431, [(0, .ref 64), (1, .int a1), (2, .int a2)], [.int (a2 + 1), .int 4, .ref 78], (q_kM r51 c n))) 7 (fun _ _ => rfl) ?_
                                                        refine q_RP_call (v := (some (.int (dz_M213 r51 (a2 + 1))))) (h2 := (q_kM r51 c n)) rfl rfl ((dzt_M213 r51 c n (a2 + 1)).le (Nat.le_of_ble_eq_true rfl)) ?_
                                                        generalize dz_M213 r51 (a2 + 1) = r52
                                                        refine q_RP_let ?_
                                                        show q_RP _ _ _ (434, [(0, .ref 64), (1, .int a1), (2, .int a2)], [.int r52, .int 4, .ref 78], (q_kM r51 c n)) _ _
                                                        refine q_RP_seg (g2 := (435, [(0, .ref 64), (1, .int a1), (2, .int a2)], [], (q_kM (q_sA r51 14 (upd (r51.1 14) 4 r52)) c n))) 1 (fun _ _ => rfl) ?_
                                                        exact q_RP_ret rfl rfl rfl
def dz_M246 (s : q_S) (a0 : Int32) : Int32 :=
  q_let (dz_M244 s a0) fun r1 => cond (decide (r1 < 0)) (q_let (dz_M202 s a0 157 159) fun r2 => cond r2 (3) (q_let (dz_M202 s a0 160 167) fun r3 => cond r3 (2) (1))) (q_let (dz_M202 s (a0 - a0 / 8 * 8) 3 5) fun r4 => cond r4 (3) (2))
set_option maxHeartbeats 4000000 in
theorem dzt_M246 (s : q_S) (c n : Nat) (a0 : Int32) : q_Ca q_TB0 3 245 [.int a0] (q_kM s c n) ((q_oP (q_kM s c n)) (dz_M246 s a0)) := by
  refine q_CaT_of (φ := (q_oP (q_kM s c n))) (Nat.le_of_ble_eq_true rfl) ?_
  unfold dz_M246
  refine q_RT_seg (g2 := (1, [(0, .int a0)], [.int a0], (q_kM s c n))) 1 (fun _ _ => rfl) ?_
  refine q_RT_call (v := (some (.int (dz_M244 s a0)))) (h2 := (q_kM s c n)) rfl rfl ((dzt_M244 s c n a0).le (Nat.le_of_ble_eq_true rfl)) ?_
  generalize dz_M244 s a0 = r1
  refine q_RT_let ?_
  show q_RT _ _ _ (4, [(0, .int a0)], [.int r1], (q_kM s c n)) _ _
  refine q_RT_seg (g2 := (6, [(1, .int r1), (0, .int a0)], [.int r1], (q_kM s c n))) 2 (fun _ _ => rfl) ?_
  cases h1 : decide (r1 < 0) with
  | true =>
    refine q_RT_cT ?_
    refine q_RT_rsT (g2 := (27, [(1, .int r1), (0, .int a0)], [], (q_kM s c n))) rfl rfl h1 ?_
    refine q_RT_seg (g2 := (34, [(1, .int r1), (0, .int a0)], [.int 159, .int 157, .int a0], (q_kM s c n))) 3 (fun _ _ => rfl) ?_
    refine q_RT_call (v := (some (.int (q_b (dz_M202 s a0 157 159))))) (h2 := (q_kM s c n)) rfl rfl ((dzt_M202 s c n a0 157 159).le (Nat.le_of_ble_eq_true rfl)) ?_
    generalize dz_M202 s a0 157 159 = r2
    refine q_RT_let ?_
    show q_RT _ _ _ (37, [(1, .int r1), (0, .int a0)], [.int (q_b r2)], (q_kM s c n)) _ _
    cases h2 : r2 with
    | true =>
      refine q_RT_cT ?_
      show q_RT _ _ _ (37, [(1, .int r1), (0, .int a0)], [.int 1], (q_kM s c n)) _ _
      refine q_RT_seg (g2 := (41, [(1, .int r1), (0, .int a0)], [.int 3], (q_kM s c n))) 2 (fun _ _ => rfl) ?_
      exact q_RT_ret rfl rfl rfl
    | false =>
      refine q_RT_cF ?_
      show q_RT _ _ _ (37, [(1, .int r1), (0, .int a0)], [.int 0], (q_kM s c n)) _ _
      refine q_RT_seg (g2 := (49, [(1, .int r1), (0, .int a0)], [.int 167, .int 160, .int a0], (q_kM s c n))) 4 (fun _ _ => rfl) ?_
      refine q_RT_call (v := (some (.int (q_b (dz_M202 s a0 160 167))))) (h2 := (q_kM s c n)) rfl rfl ((dzt_M202 s c n a0 160 167).le (Nat.le_of_ble_eq_true rfl)) ?_
      generalize dz_M202 s a0 160 167 = r3
      refine q_RT_let ?_
      show q_RT _ _ _ (52, [(1, .int r1), (0, .int a0)], [.int (q_b r3)], (q_kM s c n)) _ _
      cases h3 : r3 with
      | true =>
        refine q_RT_cT ?_
        show q_RT _ _ _ (52, [(1, .int r1), (0, .int a0)], [.int 1], (q_kM s c n)) _ _
        refine q_RT_seg (g2 := (60, [(1, .int r1), (0, .int a0)], [.int 2], (q_kM s c n))) 3 (fun _ _ => rfl) ?_
        exact q_RT_ret rfl rfl rfl
      | false =>
        refine q_RT_cF ?_
        show q_RT _ _ _ (52, [(1, .int r1), (0, .int a0)], [.int 0], (q_kM s c n)) _ _
        refine q_RT_seg (g2 := (60, [(1, .int r1), (0, .int a0)], [.int 1], (q_kM s c n))) 2 (fun _ _ => rfl) ?_
        exact q_RT_ret rfl rfl rfl
  | false =>
    refine q_RT_cF ?_
    refine q_RT_rsF (g2 := (9, [(1, .int r1), (0, .int a0)], [], (q_kM s c n))) rfl rfl h1 ?_
    refine q_RT_seg (g2 := (15, [(1, .int r1), (0, .int a0)], [.int 5, .int 3, .int (a0 - a0 / 8 * 8)], (q_kM s c n))) 5 (fun _ _ => rfl) ?_
    refine q_RT_call (v := (some (.int (q_b (dz_M202 s (a0 - a0 / 8 * 8) 3 5))))) (h2 := (q_kM s c n)) rfl rfl ((dzt_M202 s c n (a0 - a0 / 8 * 8) 3 5).le (Nat.le_of_ble_eq_true rfl)) ?_
    generalize dz_M202 s (a0 - a0 / 8 * 8) 3 5 = r4
    refine q_RT_let ?_
    show q_RT _ _ _ (18, [(1, .int r1), (0, .int a0)], [.int (q_b r4)], (q_kM s c n)) _ _
    cases h4 : r4 with
    | true =>
      refine q_RT_cT ?_
      show q_RT _ _ _ (18, [(1, .int r1), (0, .int a0)], [.int 1], (q_kM s c n)) _ _
      refine q_RT_seg (g2 := (26, [(1, .int r1), (0, .int a0)], [.int 3], (q_kM s c n))) 3 (fun _ _ => rfl) ?_
      exact q_RT_ret rfl rfl rfl
    | false =>
      refine q_RT_cF ?_
      show q_RT _ _ _ (18, [(1, .int r1), (0, .int a0)], [.int 0], (q_kM s c n)) _ _
      refine q_RT_seg (g2 := (26, [(1, .int r1), (0, .int a0)], [.int 2], (q_kM s c n))) 2 (fun _ _ => rfl) ?_
      exact q_RT_ret rfl rfl rfl
def dz_M263_64 (s : q_S) (a1 : Int32) (a2 : Int32) : Option (q_S) :=
  cond (q_in a1 24) (cond (decide ((s.1 14) (a1.toNatClampNeg) < a2)) (q_let (dz_M261_64 (q_sA s 15 (upd (s.1 15) 5 (vp_nar .boolean 0))) ((((s.1 14) (a1.toNatClampNeg)) - a2) &&& 255)) fun r1 => some r1.1) (q_let (dz_M261_64 (q_sA s 15 (upd (s.1 15) 5 (vp_nar .boolean 1))) ((((s.1 14) (a1.toNatClampNeg)) - a2) &&& 255)) fun r2 => some r2.1)) none
set_option maxHeartbeats 4000000 in
theorem dzt_M263_64 (s : q_S) (c n : Nat) (a1 : Int32) (a2 : Int32) (x : q_S) (h : dz_M263_64 s a1 a2 = some x) : q_Ca q_TB0 2 262 [.ref 64, .int a1, .int a2] (q_kM s c n) ((q_oSM c n) x) := by
  refine q_CaP_of (φ := (q_oSM c n)) (Nat.le_of_ble_eq_true rfl) ?_ h
  clear h
  unfold dz_M263_64
  refine q_RP_seg (g2 := (10, [(0, .ref 64), (1, .int a1), (2, .int a2)], [.int a1, .ref 78, .int 5, .ref 79], (q_kM s c n))) 6 (fun _ _ => rfl) ?_
  refine q_RP_as fun i1 => ?_
  refine q_RP_rsT (g2 := (11, [(0, .ref 64), (1, .int a1), (2, .int a2)], [.int ((s.1 14) (a1.toNatClampNeg)), .int 5, .ref 79], (q_kM s c n))) rfl rfl i1 ?_
  refine q_RP_seg (g2 := (12, [(0, .ref 64), (1, .int a1), (2, .int a2)], [.int a2, .int ((s.1 14) (a1.toNatClampNeg)), .int 5, .ref 79], (q_kM s c n))) 1 (fun _ _ => rfl) ?_
  cases h2 : decide ((s.1 14) (a1.toNatClampNeg) < a2) with
  | true =>
    refine q_RP_cT ?_
    refine q_RP_rsT (g2 := (19, [(0, .ref 64), (1, .int a1), (2, .int a2)], [.int 5, .ref 79], (q_kM s c n))) rfl rfl h2 ?_
    refine q_RP_seg (g2 := (27, [(0, .ref 64), (1, .int a1), (2, .int a2)], [.int a1, .ref 78, .ref 64], (q_kM (q_sA s 15 (upd (s.1 15) 5 (vp_nar .boolean 0))) c n))) 6 (fun _ _ => rfl) ?_
    refine q_RP_rsT (g2 := (28, [(0, .ref 64), (1, .int a1), (2, .int a2)], [.int ((s.1 14) (a1.toNatClampNeg)), .ref 64], (q_kM (q_sA s 15 (upd (s.1 15) 5 (vp_nar .boolean 0))) c n))) rfl rfl i1 ?_
    refine q_RP_seg (g2 := (34, [(0, .ref 64), (1, .int a1), (2, .int a2)], [.int ((((s.1 14) (a1.toNatClampNeg)) - a2) &&& 255), .ref 64], (q_kM (q_sA s 15 (upd (s.1 15) 5 (vp_nar .boolean 0))) c n))) 4 (fun _ _ => rfl) ?_
    refine q_RP_call (v := (some (.int (dz_M261_64 (q_sA s 15 (upd (s.1 15) 5 (vp_nar .boolean 0))) ((((s.1 14) (a1.toNatClampNeg)) - a2) &&& 255)).2))) (h2 := (q_kM (dz_M261_64 (q_sA s 15 (upd (s.1 15) 5 (vp_nar .boolean 0))) ((((s.1 14) (a1.toNatClampNeg)) - a2) &&& 255)).1 c n)) rfl rfl ((dzt_M261_64 (q_sA s 15 (upd (s.1 15) 5 (vp_nar .boolean 0))) c n ((((s.1 14) (a1.toNatClampNeg)) - a2) &&& 255)).le (Nat.le_of_ble_eq_true rfl)) ?_
    generalize dz_M261_64 (q_sA s 15 (upd (s.1 15) 5 (vp_nar .boolean 0))) ((((s.1 14) (a1.toNatClampNeg)) - a2) &&& 255) = r1
    refine q_RP_let ?_
    show q_RP _ _ _ (37, [(0, .ref 64), (1, .int a1), (2, .int a2)], [.int r1.2], (q_kM r1.1 c n)) _ _
    refine q_RP_seg (g2 := (38, [(0, .ref 64), (1, .int a1), (2, .int a2)], [], (q_kM r1.1 c n))) 1 (fun _ _ => rfl) ?_
    exact q_RP_ret rfl rfl rfl
  | false =>
    refine q_RP_cF ?_
    refine q_RP_rsF (g2 := (15, [(0, .ref 64), (1, .int a1), (2, .int a2)], [.int 5, .ref 79], (q_kM s c n))) rfl rfl h2 ?_
    refine q_RP_seg (g2 := (27, [(0, .ref 64), (1, .int a1), (2, .int a2)], [.int a1, .ref 78, .ref 64], (q_kM (q_sA s 15 (upd (s.1 15) 5 (vp_nar .boolean 1))) c n))) 7 (fun _ _ => rfl) ?_
    refine q_RP_rsT (g2 := (28, [(0, .ref 64), (1, .int a1), (2, .int a2)], [.int ((s.1 14) (a1.toNatClampNeg)), .ref 64], (q_kM (q_sA s 15 (upd (s.1 15) 5 (vp_nar .boolean 1))) c n))) rfl rfl i1 ?_
    refine q_RP_seg (g2 := (34, [(0, .ref 64), (1, .int a1), (2, .int a2)], [.int ((((s.1 14) (a1.toNatClampNeg)) - a2) &&& 255), .ref 64], (q_kM (q_sA s 15 (upd (s.1 15) 5 (vp_nar .boolean 1))) c n))) 4 (fun _ _ => rfl) ?_
    refine q_RP_call (v := (some (.int (dz_M261_64 (q_sA s 15 (upd (s.1 15) 5 (vp_nar .boolean 1))) ((((s.1 14) (a1.toNatClampNeg)) - a2) &&& 255)).2))) (h2 := (q_kM (dz_M261_64 (q_sA s 15 (upd (s.1 15) 5 (vp_nar .boolean 1))) ((((s.1 14) (a1.toNatClampNeg)) - a2) &&& 255)).1 c n)) rfl rfl ((dzt_M261_64 (q_sA s 15 (upd (s.1 15) 5 (vp_nar .boolean 1))) c n ((((s.1 14) (a1.toNatClampNeg)) - a2) &&& 255)).le (Nat.le_of_ble_eq_true rfl)) ?_
    generalize dz_M261_64 (q_sA s 15 (upd (s.1 15) 5 (vp_nar .boolean 1))) ((((s.1 14) (a1.toNatClampNeg)) - a2) &&& 255) = r2
    refine q_RP_let ?_
    show q_RP _ _ _ (37, [(0, .ref 64), (1, .int a1), (2, .int a2)], [.int r2.2], (q_kM r2.1 c n)) _ _
    refine q_RP_seg (g2 := (38, [(0, .ref 64), (1, .int a1), (2, .int a2)], [], (q_kM r2.1 c n))) 1 (fun _ _ => rfl) ?_
    exact q_RP_ret rfl rfl rfl
def dz_M264_64 (s : q_S) (a1 : Int32) : Option (q_S) :=
  (dz_M257_64 s 5 1).bind fun r2 => cond (decide (((((s.1 14) 0) ^^^ ((((s.1 14) 0) + a1) + r2)) &&& (a1 ^^^ ((((s.1 14) 0) + a1) + r2))) &&& 128 = 0)) (cond (decide (255 < (((s.1 14) 0) + a1) + r2)) (q_let ((q_sA s 15 (upd (s.1 15) 1 (vp_nar .boolean 0)))) fun r3 => some (q_sA (q_sA r3 15 (upd (r3.1 15) 5 (vp_nar .boolean 1))) 14 (upd (r3.1 14) 0 (((((s.1 14) 0) + a1) + r2) - ((((s.1 14) 0) + a1) + r2) / 256 * 256)))) (q_let ((q_sA s 15 (upd (s.1 15) 1 (vp_nar .boolean 0)))) fun r4 => some (q_sA (q_sA r4 15 (upd (r4.1 15) 5 (vp_nar .boolean 0))) 14 (upd (r4.1 14) 0 (((((s.1 14) 0) + a1) + r2) - ((((s.1 14) 0) + a1) + r2) / 256 * 256))))) (cond (decide (255 < (((s.1 14) 0) + a1) + r2)) (q_let ((q_sA s 15 (upd (s.1 15) 1 (vp_nar .boolean 1)))) fun r5 => some (q_sA (q_sA r5 15 (upd (r5.1 15) 5 (vp_nar .boolean 1))) 14 (upd (r5.1 14) 0 (((((s.1 14) 0) + a1) + r2) - ((((s.1 14) 0) + a1) + r2) / 256 * 256)))) (q_let ((q_sA s 15 (upd (s.1 15) 1 (vp_nar .boolean 1)))) fun r6 => some (q_sA (q_sA r6 15 (upd (r6.1 15) 5 (vp_nar .boolean 0))) 14 (upd (r6.1 14) 0 (((((s.1 14) 0) + a1) + r2) - ((((s.1 14) 0) + a1) + r2) / 256 * 256)))))
set_option maxHeartbeats 4000000 in
theorem dzt_M264_64 (s : q_S) (c n : Nat) (a1 : Int32) (x : q_S) (h : dz_M264_64 s a1 = some x) : q_Ca q_TB0 2 263 [.ref 64, .int a1] (q_kM s c n) ((q_oSM c n) x) := by
  refine q_CaP_of (φ := (q_oSM c n)) (Nat.le_of_ble_eq_true rfl) ?_ h
  clear h
  unfold dz_M264_64
  refine q_RP_seg (g2 := (6, [(0, .ref 64), (1, .int a1)], [.int ((s.1 14) 0)], (q_kM s c n))) 4 (fun _ _ => rfl) ?_
  refine q_RP_seg (g2 := (11, [(0, .ref 64), (1, .int a1)], [.int 1, .int 5, .ref 64, .int (((s.1 14) 0) + a1)], (q_kM s c n))) 5 (fun _ _ => rfl) ?_
  refine q_RP_bd fun r2 er2 => ?_
  refine q_RP_call (v := (some (.int r2))) (h2 := (q_kM s c n)) rfl rfl ((dzt_M257_64 s c n 5 1 r2 er2).le (Nat.le_of_ble_eq_true rfl)) ?_
  show q_RP _ _ _ (14, [(0, .ref 64), (1, .int a1)], [.int r2, .int (((s.1 14) 0) + a1)], (q_kM s c n)) _ _
  refine q_RP_seg (g2 := (27, [(2, .int ((((s.1 14) 0) + a1) + r2)), (0, .ref 64), (1, .int a1)], [.int ((s.1 14) 0), .int 1, .ref 79], (q_kM s c n))) 9 (fun _ _ => rfl) ?_
  refine q_RP_seg (g2 := (37, [(2, .int ((((s.1 14) 0) + a1) + r2)), (0, .ref 64), (1, .int a1)], [.int (((((s.1 14) 0) ^^^ ((((s.1 14) 0) + a1) + r2)) &&& (a1 ^^^ ((((s.1 14) 0) + a1) + r2))) &&& 128), .int 1, .ref 79], (q_kM s c n))) 8 (fun _ _ => rfl) ?_
  cases h1 : decide (((((s.1 14) 0) ^^^ ((((s.1 14) 0) + a1) + r2)) &&& (a1 ^^^ ((((s.1 14) 0) + a1) + r2))) &&& 128 = 0) with
  | true =>
    refine q_RP_cT ?_
    refine q_RP_rsT (g2 := (44, [(2, .int ((((s.1 14) 0) + a1) + r2)), (0, .ref 64), (1, .int a1)], [.int 1, .ref 79], (q_kM s c n))) rfl rfl h1 ?_
    refine q_RP_seg (g2 := (55, [(2, .int ((((s.1 14) 0) + a1) + r2)), (0, .ref 64), (1, .int a1)], [.int 255, .int ((((s.1 14) 0) + a1) + r2), .int 5, .ref 79], (q_kM (q_sA s 15 (upd (s.1 15) 1 (vp_nar .boolean 0))) c n))) 7 (fun _ _ => rfl) ?_
    cases h2 : decide (255 < (((s.1 14) 0) + a1) + r2) with
    | true =>
      refine q_RP_cT ?_
      refine q_RP_rsF (g2 := (58, [(2, .int ((((s.1 14) 0) + a1) + r2)), (0, .ref 64), (1, .int a1)], [.int 5, .ref 79], (q_kM (q_sA s 15 (upd (s.1 15) 1 (vp_nar .boolean 0))) c n))) rfl rfl (q_d_geT h2) ?_
      refine q_RP_seg (g2 := (63, [(2, .int ((((s.1 14) 0) + a1) + r2)), (0, .ref 64), (1, .int a1)], [.int 1, .int 5, .ref 79], (q_kM (q_sA s 15 (upd (s.1 15) 1 (vp_nar .boolean 0))) c n))) 2 (fun _ _ => rfl) ?_
      generalize (q_sA s 15 (upd (s.1 15) 1 (vp_nar .boolean 0))) = r3
      refine q_RP_let ?_
      show q_RP _ _ _ (63, [(2, .int ((((s.1 14) 0) + a1) + r2)), (0, .ref 64), (1, .int a1)], [.int 1, .int 5, .ref 79], (q_kM r3 c n)) _ _
      refine q_RP_seg (g2 := (75, [(2, .int ((((s.1 14) 0) + a1) + r2)), (0, .ref 64), (1, .int a1)], [], (q_kM (q_sA (q_sA r3 15 (upd (r3.1 15) 5 (vp_nar .boolean 1))) 14 (upd (r3.1 14) 0 (((((s.1 14) 0) + a1) + r2) - ((((s.1 14) 0) + a1) + r2) / 256 * 256))) c n))) 8 (fun _ _ => rfl) ?_
      exact q_RP_ret rfl rfl rfl
    | false =>
      refine q_RP_cF ?_
      refine q_RP_rsT (g2 := (62, [(2, .int ((((s.1 14) 0) + a1) + r2)), (0, .ref 64), (1, .int a1)], [.int 5, .ref 79], (q_kM (q_sA s 15 (upd (s.1 15) 1 (vp_nar .boolean 0))) c n))) rfl rfl (q_d_geF h2) ?_
      refine q_RP_seg (g2 := (63, [(2, .int ((((s.1 14) 0) + a1) + r2)), (0, .ref 64), (1, .int a1)], [.int 0, .int 5, .ref 79], (q_kM (q_sA s 15 (upd (s.1 15) 1 (vp_nar .boolean 0))) c n))) 1 (fun _ _ => rfl) ?_
      generalize (q_sA s 15 (upd (s.1 15) 1 (vp_nar .boolean 0))) = r4
      refine q_RP_let ?_
      show q_RP _ _ _ (63, [(2, .int ((((s.1 14) 0) + a1) + r2)), (0, .ref 64), (1, .int a1)], [.int 0, .int 5, .ref 79], (q_kM r4 c n)) _ _
      refine q_RP_seg (g2 := (75, [(2, .int ((((s.1 14) 0) + a1) + r2)), (0, .ref 64), (1, .int a1)], [], (q_kM (q_sA (q_sA r4 15 (upd (r4.1 15) 5 (vp_nar .boolean 0))) 14 (upd (r4.1 14) 0 (((((s.1 14) 0) + a1) + r2) - ((((s.1 14) 0) + a1) + r2) / 256 * 256))) c n))) 8 (fun _ _ => rfl) ?_
      exact q_RP_ret rfl rfl rfl
  | false =>
    refine q_RP_cF ?_
    refine q_RP_rsF (g2 := (40, [(2, .int ((((s.1 14) 0) + a1) + r2)), (0, .ref 64), (1, .int a1)], [.int 1, .ref 79], (q_kM s c n))) rfl rfl h1 ?_
    refine q_RP_seg (g2 := (55, [(2, .int ((((s.1 14) 0) + a1) + r2)), (0, .ref 64), (1, .int a1)], [.int 255, .int ((((s.1 14) 0) + a1) + r2), .int 5, .ref 79], (q_kM (q_sA s 15 (upd (s.1 15) 1 (vp_nar .boolean 1))) c n))) 8 (fun _ _ => rfl) ?_
    cases h3 : decide (255 < (((s.1 14) 0) + a1) + r2) with
    | true =>
      refine q_RP_cT ?_
      refine q_RP_rsF (g2 := (58, [(2, .int ((((s.1 14) 0) + a1) + r2)), (0, .ref 64), (1, .int a1)], [.int 5, .ref 79], (q_kM (q_sA s 15 (upd (s.1 15) 1 (vp_nar .boolean 1))) c n))) rfl rfl (q_d_geT h3) ?_
      refine q_RP_seg (g2 := (63, [(2, .int ((((s.1 14) 0) + a1) + r2)), (0, .ref 64), (1, .int a1)], [.int 1, .int 5, .ref 79], (q_kM (q_sA s 15 (upd (s.1 15) 1 (vp_nar .boolean 1))) c n))) 2 (fun _ _ => rfl) ?_
      generalize (q_sA s 15 (upd (s.1 15) 1 (vp_nar .boolean 1))) = r5
      refine q_RP_let ?_
      show q_RP _ _ _ (63, [(2, .int ((((s.1 14) 0) + a1) + r2)), (0, .ref 64), (1, .int a1)], [.int 1, .int 5, .ref 79], (q_kM r5 c n)) _ _
      refine q_RP_seg (g2 := (75, [(2, .int ((((s.1 14) 0) + a1) + r2)), (0, .ref 64), (1, .int a1)], [], (q_kM (q_sA (q_sA r5 15 (upd (r5.1 15) 5 (vp_nar .boolean 1))) 14 (upd (r5.1 14) 0 (((((s.1 14) 0) + a1) + r2) - ((((s.1 14) 0) + a1) + r2) / 256 * 256))) c n))) 8 (fun _ _ => rfl) ?_
      exact q_RP_ret rfl rfl rfl
    | false =>
      refine q_RP_cF ?_
      refine q_RP_rsT (g2 := (62, [(2, .int ((((s.1 14) 0) + a1) + r2)), (0, .ref 64), (1, .int a1)], [.int 5, .ref 79], (q_kM (q_sA s 15 (upd (s.1 15) 1 (vp_nar .boolean 1))) c n))) rfl rfl (q_d_geF h3) ?_
      refine q_RP_seg (g2 := (63, [(2, .int ((((s.1 14) 0) + a1) + r2)), (0, .ref 64), (1, .int a1)], [.int 0, .int 5, .ref 79], (q_kM (q_sA s 15 (upd (s.1 15) 1 (vp_nar .boolean 1))) c n))) 1 (fun _ _ => rfl) ?_
      generalize (q_sA s 15 (upd (s.1 15) 1 (vp_nar .boolean 1))) = r6
      refine q_RP_let ?_
      show q_RP _ _ _ (63, [(2, .int ((((s.1 14) 0) + a1) + r2)), (0, .ref 64), (1, .int a1)], [.int 0, .int 5, .ref 79], (q_kM r6 c n)) _ _
      refine q_RP_seg (g2 := (75, [(2, .int ((((s.1 14) 0) + a1) + r2)), (0, .ref 64), (1, .int a1)], [], (q_kM (q_sA (q_sA r6 15 (upd (r6.1 15) 5 (vp_nar .boolean 0))) 14 (upd (r6.1 14) 0 (((((s.1 14) 0) + a1) + r2) - ((((s.1 14) 0) + a1) + r2) / 256 * 256))) c n))) 8 (fun _ _ => rfl) ?_
      exact q_RP_ret rfl rfl rfl
def dz_M266_64 (s : q_S) (a1 : Int32) (a2 : Int32) (a3 : Int32) : q_S :=
  cond (decide ((((a1 - a1 / 16 * 16) - (a2 - a2 / 16 * 16)) - 1) + a3 < 0)) (q_let (((((a1 - a1 / 16 * 16) - (a2 - a2 / 16 * 16)) - 1) + a3) + 10) fun x1 => cond (decide (((a1 / 16) - (a2 / 16)) - 1 < 0)) ((q_sA (q_sA s 15 (upd (s.1 15) 5 (vp_nar .boolean 0))) 14 (upd (s.1 14) 0 (((16 * ((((a1 / 16) - (a2 / 16)) - 1) + 10)) + x1) &&& 255)))) ((q_sA (q_sA s 15 (upd (s.1 15) 5 (vp_nar .boolean 1))) 14 (upd (s.1 14) 0 (((16 * ((((a1 / 16) - (a2 / 16)) - 1) + 0)) + x1) &&& 255))))) (cond (decide (((a1 / 16) - (a2 / 16)) - 0 < 0)) ((q_sA (q_sA s 15 (upd (s.1 15) 5 (vp_nar .boolean 0))) 14 (upd (s.1 14) 0 (((16 * ((((a1 / 16) - (a2 / 16)) - 0) + 10)) + (((((a1 - a1 / 16 * 16) - (a2 - a2 / 16 * 16)) - 1) + a3) + 0)) &&& 255)))) ((q_sA (q_sA s 15 (upd (s.1 15) 5 (vp_nar .boolean 1))) 14 (upd (s.1 14) 0 (((16 * ((((a1 / 16) - (a2 / 16)) - 0) + 0)) + (((((a1 - a1 / 16 * 16) - (a2 - a2 / 16 * 16)) - 1) + a3) + 0)) &&& 255)))))
set_option maxHeartbeats 4000000 in
theorem dzt_M266_64 (s : q_S) (c n : Nat) (a1 : Int32) (a2 : Int32) (a3 : Int32) : q_Ca q_TB0 1 265 [.ref 64, .int a1, .int a2, .int a3] (q_kM s c n) ((q_oSM c n) (dz_M266_64 s a1 a2 a3)) := by
  refine q_CaT_of (φ := (q_oSM c n)) (Nat.le_of_ble_eq_true rfl) ?_
  unfold dz_M266_64
  refine q_RT_seg (g2 := (26, [(4, .int ((((a1 - a1 / 16 * 16) - (a2 - a2 / 16 * 16)) - 1) + a3)), (0, .ref 64), (1, .int a1), (2, .int a2), (3, .int a3)], [.int ((((a1 - a1 / 16 * 16) - (a2 - a2 / 16 * 16)) - 1) + a3), .int ((a1 / 16) - (a2 / 16))], (q_kM s c n))) 20 (fun _ _ => rfl) ?_
  cases h1 : decide ((((a1 - a1 / 16 * 16) - (a2 - a2 / 16 * 16)) - 1) + a3 < 0) with
  | true =>
    refine q_RT_cT ?_
    refine q_RT_rsF (g2 := (29, [(4, .int ((((a1 - a1 / 16 * 16) - (a2 - a2 / 16 * 16)) - 1) + a3)), (0, .ref 64), (1, .int a1), (2, .int a2), (3, .int a3)], [.int ((a1 / 16) - (a2 / 16))], (q_kM s c n))) rfl rfl (q_d_geT h1) ?_
    refine q_RT_seg (g2 := (41, [(5, .int (((a1 / 16) - (a2 / 16)) - 1)), (4, .int ((((a1 - a1 / 16 * 16) - (a2 - a2 / 16 * 16)) - 1) + a3)), (0, .ref 64), (1, .int a1), (2, .int a2), (3, .int a3)], [.int ((((a1 - a1 / 16 * 16) - (a2 - a2 / 16 * 16)) - 1) + a3), .int ((((a1 - a1 / 16 * 16) - (a2 - a2 / 16 * 16)) - 1) + a3)], (q_kM s c n))) 6 (fun _ _ => rfl) ?_
    refine q_RT_rsF (g2 := (44, [(5, .int (((a1 / 16) - (a2 / 16)) - 1)), (4, .int ((((a1 - a1 / 16 * 16) - (a2 - a2 / 16 * 16)) - 1) + a3)), (0, .ref 64), (1, .int a1), (2, .int a2), (3, .int a3)], [.int ((((a1 - a1 / 16 * 16) - (a2 - a2 / 16 * 16)) - 1) + a3)], (q_kM s c n))) rfl rfl (q_d_geT h1) ?_
    refine q_RT_seg (g2 := (51, [(5, .int (((a1 / 16) - (a2 / 16)) - 1)), (4, .int ((((a1 - a1 / 16 * 16) - (a2 - a2 / 16 * 16)) - 1) + a3)), (0, .ref 64), (1, .int a1), (2, .int a2), (3, .int a3)], [.int (((((a1 - a1 / 16 * 16) - (a2 - a2 / 16 * 16)) - 1) + a3) + 10)], (q_kM s c n))) 3 (fun _ _ => rfl) ?_
    generalize (((((a1 - a1 / 16 * 16) - (a2 - a2 / 16 * 16)) - 1) + a3) + 10) = x1
    refine q_RT_let ?_
    show q_RT _ _ _ (51, [(5, .int (((a1 / 16) - (a2 / 16)) - 1)), (4, .int ((((a1 - a1 / 16 * 16) - (a2 - a2 / 16 * 16)) - 1) + a3)), (0, .ref 64), (1, .int a1), (2, .int a2), (3, .int a3)], [.int x1], (q_kM s c n)) _ _
    refine q_RT_seg (g2 := (60, [(4, .int x1), (5, .int (((a1 / 16) - (a2 / 16)) - 1)), (0, .ref 64), (1, .int a1), (2, .int a2), (3, .int a3)], [.int (((a1 / 16) - (a2 / 16)) - 1), .int 5, .ref 79], (q_kM s c n))) 5 (fun _ _ => rfl) ?_
    cases h2 : decide (((a1 / 16) - (a2 / 16)) - 1 < 0) with
    | true =>
      refine q_RT_cT ?_
      refine q_RT_rsT (g2 := (67, [(4, .int x1), (5, .int (((a1 / 16) - (a2 / 16)) - 1)), (0, .ref 64), (1, .int a1), (2, .int a2), (3, .int a3)], [.int 5, .ref 79], (q_kM s c n))) rfl rfl h2 ?_
      refine q_RT_seg (g2 := (73, [(4, .int x1), (5, .int (((a1 / 16) - (a2 / 16)) - 1)), (0, .ref 64), (1, .int a1), (2, .int a2), (3, .int a3)], [.int (((a1 / 16) - (a2 / 16)) - 1), .int (((a1 / 16) - (a2 / 16)) - 1)], (q_kM (q_sA s 15 (upd (s.1 15) 5 (vp_nar .boolean 0))) c n))) 4 (fun _ _ => rfl) ?_
      refine q_RT_rsF (g2 := (76, [(4, .int x1), (5, .int (((a1 / 16) - (a2 / 16)) - 1)), (0, .ref 64), (1, .int a1), (2, .int a2), (3, .int a3)], [.int (((a1 / 16) - (a2 / 16)) - 1)], (q_kM (q_sA s 15 (upd (s.1 15) 5 (vp_nar .boolean 0))) c n))) rfl rfl (q_d_geT h2) ?_
      refine q_RT_seg (g2 := (103, [(5, .int ((((a1 / 16) - (a2 / 16)) - 1) + 10)), (4, .int x1), (0, .ref 64), (1, .int a1), (2, .int a2), (3, .int a3)], [], (q_kM (q_sA (q_sA s 15 (upd (s.1 15) 5 (vp_nar .boolean 0))) 14 (upd (s.1 14) 0 (((16 * ((((a1 / 16) - (a2 / 16)) - 1) + 10)) + x1) &&& 255))) c n))) 15 (fun _ _ => rfl) ?_
      exact q_RT_ret rfl rfl rfl
    | false =>
      refine q_RT_cF ?_
      refine q_RT_rsF (g2 := (63, [(4, .int x1), (5, .int (((a1 / 16) - (a2 / 16)) - 1)), (0, .ref 64), (1, .int a1), (2, .int a2), (3, .int a3)], [.int 5, .ref 79], (q_kM s c n))) rfl rfl h2 ?_
      refine q_RT_seg (g2 := (73, [(4, .int x1), (5, .int (((a1 / 16) - (a2 / 16)) - 1)), (0, .ref 64), (1, .int a1), (2, .int a2), (3, .int a3)], [.int (((a1 / 16) - (a2 / 16)) - 1), .int (((a1 / 16) - (a2 / 16)) - 1)], (q_kM (q_sA s 15 (upd (s.1 15) 5 (vp_nar .boolean 1))) c n))) 5 (fun _ _ => rfl) ?_
      refine q_RT_rsT (g2 := (81, [(4, .int x1), (5, .int (((a1 / 16) - (a2 / 16)) - 1)), (0, .ref 64), (1, .int a1), (2, .int a2), (3, .int a3)], [.int (((a1 / 16) - (a2 / 16)) - 1)], (q_kM (q_sA s 15 (upd (s.1 15) 5 (vp_nar .boolean 1))) c n))) rfl rfl (q_d_geF h2) ?_
      refine q_RT_seg (g2 := (103, [(5, .int ((((a1 / 16) - (a2 / 16)) - 1) + 0)), (4, .int x1), (0, .ref 64), (1, .int a1), (2, .int a2), (3, .int a3)], [], (q_kM (q_sA (q_sA s 15 (upd (s.1 15) 5 (vp_nar .boolean 1))) 14 (upd (s.1 14) 0 (((16 * ((((a1 / 16) - (a2 / 16)) - 1) + 0)) + x1) &&& 255))) c n))) 14 (fun _ _ => rfl) ?_
      exact q_RT_ret rfl rfl rfl
  | false =>
    refine q_RT_cF ?_
    refine q_RT_rsT (g2 := (33, [(4, .int ((((a1 - a1 / 16 * 16) - (a2 - a2 / 16 * 16)) - 1) + a3)), (0, .ref 64), (1, .int a1), (2, .int a2), (3, .int a3)], [.int ((a1 / 16) - (a2 / 16))], (q_kM s c n))) rfl rfl (q_d_geF h1) ?_
    refine q_RT_seg (g2 := (41, [(5, .int (((a1 / 16) - (a2 / 16)) - 0)), (4, .int ((((a1 - a1 / 16 * 16) - (a2 - a2 / 16 * 16)) - 1) + a3)), (0, .ref 64), (1, .int a1), (2, .int a2), (3, .int a3)], [.int ((((a1 - a1 / 16 * 16) - (a2 - a2 / 16 * 16)) - 1) + a3), .int ((((a1 - a1 / 16 * 16) - (a2 - a2 / 16 * 16)) - 1) + a3)], (q_kM s c n))) 5 (fun _ _ => rfl) ?_
    refine q_RT_rsT (g2 := (49, [(5, .int (((a1 / 16) - (a2 / 16)) - 0)), (4, .int ((((a1 - a1 / 16 * 16) - (a2 - a2 / 16 * 16)) - 1) + a3)), (0, .ref 64), (1, .int a1), (2, .int a2), (3, .int a3)], [.int ((((a1 - a1 / 16 * 16) - (a2 - a2 / 16 * 16)) - 1) + a3)], (q_kM s c n))) rfl rfl (q_d_geF h1) ?_
    refine q_RT_seg (g2 := (60, [(4, .int (((((a1 - a1 / 16 * 16) - (a2 - a2 / 16 * 16)) - 1) + a3) + 0)), (5, .int (((a1 / 16) - (a2 / 16)) - 0)), (0, .ref 64), (1, .int a1), (2, .int a2), (3, .int a3)], [.int (((a1 / 16) - (a2 / 16)) - 0), .int 5, .ref 79], (q_kM s c n))) 7 (fun _ _ => rfl) ?_
    cases h3 : decide (((a1 / 16) - (a2 / 16)) - 0 < 0) with
    | true =>
      refine q_RT_cT ?_
      refine q_RT_rsT (g2 := (67, [(4, .int (((((a1 - a1 / 16 * 16) - (a2 - a2 / 16 * 16)) - 1) + a3) + 0)), (5, .int (((a1 / 16) - (a2 / 16)) - 0)), (0, .ref 64), (1, .int a1), (2, .int a2), (3, .int a3)], [.int 5, .ref 79], (q_kM s c n))) rfl rfl h3 ?_
      refine q_RT_seg (g2 := (73, [(4, .int (((((a1 - a1 / 16 * 16) - (a2 - a2 / 16 * 16)) - 1) + a3) + 0)), (5, .int (((a1 / 16) - (a2 / 16)) - 0)), (0, .ref 64), (1, .int a1), (2, .int a2), (3, .int a3)], [.int (((a1 / 16) - (a2 / 16)) - 0), .int (((a1 / 16) - (a2 / 16)) - 0)], (q_kM (q_sA s 15 (upd (s.1 15) 5 (vp_nar .boolean 0))) c n))) 4 (fun _ _ => rfl) ?_
      refine q_RT_rsF (g2 := (76, [(4, .int (((((a1 - a1 / 16 * 16) - (a2 - a2 / 16 * 16)) - 1) + a3) + 0)), (5, .int (((a1 / 16) - (a2 / 16)) - 0)), (0, .ref 64), (1, .int a1), (2, .int a2), (3, .int a3)], [.int (((a1 / 16) - (a2 / 16)) - 0)], (q_kM (q_sA s 15 (upd (s.1 15) 5 (vp_nar .boolean 0))) c n))) rfl rfl (q_d_geT h3) ?_
      refine q_RT_seg (g2 := (103, [(5, .int ((((a1 / 16) - (a2 / 16)) - 0) + 10)), (4, .int (((((a1 - a1 / 16 * 16) - (a2 - a2 / 16 * 16)) - 1) + a3) + 0)), (0, .ref 64), (1, .int a1), (2, .int a2), (3, .int a3)], [], (q_kM (q_sA (q_sA s 15 (upd (s.1 15) 5 (vp_nar .boolean 0))) 14 (upd (s.1 14) 0 (((16 * ((((a1 / 16) - (a2 / 16)) - 0) + 10)) + (((((a1 - a1 / 16 * 16) - (a2 - a2 / 16 * 16)) - 1) + a3) + 0)) &&& 255))) c n))) 15 (fun _ _ => rfl) ?_
      exact q_RT_ret rfl rfl rfl
    | false =>
      refine q_RT_cF ?_
      refine q_RT_rsF (g2 := (63, [(4, .int (((((a1 - a1 / 16 * 16) - (a2 - a2 / 16 * 16)) - 1) + a3) + 0)), (5, .int (((a1 / 16) - (a2 / 16)) - 0)), (0, .ref 64), (1, .int a1), (2, .int a2), (3, .int a3)], [.int 5, .ref 79], (q_kM s c n))) rfl rfl h3 ?_
      refine q_RT_seg (g2 := (73, [(4, .int (((((a1 - a1 / 16 * 16) - (a2 - a2 / 16 * 16)) - 1) + a3) + 0)), (5, .int (((a1 / 16) - (a2 / 16)) - 0)), (0, .ref 64), (1, .int a1), (2, .int a2), (3, .int a3)], [.int (((a1 / 16) - (a2 / 16)) - 0), .int (((a1 / 16) - (a2 / 16)) - 0)], (q_kM (q_sA s 15 (upd (s.1 15) 5 (vp_nar .boolean 1))) c n))) 5 (fun _ _ => rfl) ?_
      refine q_RT_rsT (g2 := (81, [(4, .int (((((a1 - a1 / 16 * 16) - (a2 - a2 / 16 * 16)) - 1) + a3) + 0)), (5, .int (((a1 / 16) - (a2 / 16)) - 0)), (0, .ref 64), (1, .int a1), (2, .int a2), (3, .int a3)], [.int (((a1 / 16) - (a2 / 16)) - 0)], (q_kM (q_sA s 15 (upd (s.1 15) 5 (vp_nar .boolean 1))) c n))) rfl rfl (q_d_geF h3) ?_
      refine q_RT_seg (g2 := (103, [(5, .int ((((a1 / 16) - (a2 / 16)) - 0) + 0)), (4, .int (((((a1 - a1 / 16 * 16) - (a2 - a2 / 16 * 16)) - 1) + a3) + 0)), (0, .ref 64), (1, .int a1), (2, .int a2), (3, .int a3)], [], (q_kM (q_sA (q_sA s 15 (upd (s.1 15) 5 (vp_nar .boolean 1))) 14 (upd (s.1 14) 0 (((16 * ((((a1 / 16) - (a2 / 16)) - 0) + 0)) + (((((a1 - a1 / 16 * 16) - (a2 - a2 / 16 * 16)) - 1) + a3) + 0)) &&& 255))) c n))) 14 (fun _ _ => rfl) ?_
      exact q_RT_ret rfl rfl rfl
def dz_M267_64_f_56 (s : q_S) (v2 : Int32) (v3 : Int32) (v4 : Int32) : Option (q_S) :=
  cond (decide ((s.1 15) 2 = 0)) (q_let (dz_M261_64 s ((s.1 14) 0)) fun r4 => some r4.1) (q_let (dz_M266_64 s v3 v2 v4) fun r5 => q_let (dz_M261_64 r5 ((r5.1 14) 0)) fun r6 => some r6.1)
set_option maxHeartbeats 4000000 in
theorem dzt_M267_64_f_56 (c n : Nat) (s : q_S) (v2 : Int32) (v3 : Int32) (v4 : Int32) : q_RP q_TB0 2 266 (56, [(0, .ref 64), (2, .int v2), (3, .int v3), (4, .int v4)], [], (q_kM s c n)) (q_oSM c n) (dz_M267_64_f_56 s v2 v3 v4) := by
  unfold dz_M267_64_f_56
  refine q_RP_seg (g2 := (62, [(0, .ref 64), (2, .int v2), (3, .int v3), (4, .int v4)], [.int ((s.1 15) 2)], (q_kM s c n))) 4 (fun _ _ => rfl) ?_
  cases h2 : decide ((s.1 15) 2 = 0) with
  | true =>
    refine q_RP_cT ?_
    refine q_RP_rsT (g2 := (73, [(0, .ref 64), (2, .int v2), (3, .int v3), (4, .int v4)], [], (q_kM s c n))) rfl rfl h2 ?_
    refine q_RP_seg (g2 := (80, [(0, .ref 64), (2, .int v2), (3, .int v3), (4, .int v4)], [.int ((s.1 14) 0), .ref 64], (q_kM s c n))) 5 (fun _ _ => rfl) ?_
    refine q_RP_call (v := (some (.int (dz_M261_64 s ((s.1 14) 0)).2))) (h2 := (q_kM (dz_M261_64 s ((s.1 14) 0)).1 c n)) rfl rfl ((dzt_M261_64 s c n ((s.1 14) 0)).le (Nat.le_of_ble_eq_true rfl)) ?_
    generalize dz_M261_64 s ((s.1 14) 0) = r4
    refine q_RP_let ?_
    show q_RP _ _ _ (83, [(0, .ref 64), (2, .int v2), (3, .int v3), (4, .int v4)], [.int r4.2], (q_kM r4.1 c n)) _ _
    refine q_RP_seg (g2 := (84, [(0, .ref 64), (2, .int v2), (3, .int v3), (4, .int v4)], [], (q_kM r4.1 c n))) 1 (fun _ _ => rfl) ?_
    exact q_RP_ret rfl rfl rfl
  | false =>
    refine q_RP_cF ?_
    refine q_RP_rsF (g2 := (65, [(0, .ref 64), (2, .int v2), (3, .int v3), (4, .int v4)], [], (q_kM s c n))) rfl rfl h2 ?_
    refine q_RP_seg (g2 := (70, [(0, .ref 64), (2, .int v2), (3, .int v3), (4, .int v4)], [.int v4, .int v2, .int v3, .ref 64], (q_kM s c n))) 4 (fun _ _ => rfl) ?_
    refine q_RP_call (v := none) (h2 := (q_kM (dz_M266_64 s v3 v2 v4) c n)) rfl rfl ((dzt_M266_64 s c n v3 v2 v4).le (Nat.le_of_ble_eq_true rfl)) ?_
    generalize dz_M266_64 s v3 v2 v4 = r5
    refine q_RP_let ?_
    show q_RP _ _ _ (73, [(0, .ref 64), (2, .int v2), (3, .int v3), (4, .int v4)], [], (q_kM r5 c n)) _ _
    refine q_RP_seg (g2 := (80, [(0, .ref 64), (2, .int v2), (3, .int v3), (4, .int v4)], [.int ((r5.1 14) 0), .ref 64], (q_kM r5 c n))) 5 (fun _ _ => rfl) ?_
    refine q_RP_call (v := (some (.int (dz_M261_64 r5 ((r5.1 14) 0)).2))) (h2 := (q_kM (dz_M261_64 r5 ((r5.1 14) 0)).1 c n)) rfl rfl ((dzt_M261_64 r5 c n ((r5.1 14) 0)).le (Nat.le_of_ble_eq_true rfl)) ?_
    generalize dz_M261_64 r5 ((r5.1 14) 0) = r6
    refine q_RP_let ?_
    show q_RP _ _ _ (83, [(0, .ref 64), (2, .int v2), (3, .int v3), (4, .int v4)], [.int r6.2], (q_kM r6.1 c n)) _ _
    refine q_RP_seg (g2 := (84, [(0, .ref 64), (2, .int v2), (3, .int v3), (4, .int v4)], [], (q_kM r6.1 c n))) 1 (fun _ _ => rfl) ?_
    exact q_RP_ret rfl rfl rfl
def dz_M267_64_f (s : q_S) (a2 : Int32) : Option (q_S) :=
  (dz_M257_64 s 5 1).bind fun r2 => (dz_M264_64 s ((255 : Int32) - a2)).bind fun r3 => cond (decide ((r3.1 15) 2 = 0)) (dz_M267_64_f_56 r3 a2 ((s.1 14) 0) r2) (dz_M267_64_f_56 r3 a2 ((s.1 14) 0) r2)
set_option maxHeartbeats 4000000 in
theorem dzt_M267_64_f (s : q_S) (c n : Nat) (a2 : Int32) (x : q_S) (h : dz_M267_64_f s a2 = some x) : q_Ca q_TB0 3 266 [.ref 64, .int 0, .int a2] (q_kM s c n) ((q_oSM c n) x) := by
  refine q_CaP_of (φ := (q_oSM c n)) (Nat.le_of_ble_eq_true rfl) ?_ h
  clear h
  unfold dz_M267_64_f
  refine q_RP_seg (g2 := (6, [(0, .ref 64), (1, .int 0), (2, .int a2)], [.int ((s.1 14) 0)], (q_kM s c n))) 4 (fun _ _ => rfl) ?_
  refine q_RP_seg (g2 := (10, [(3, .int ((s.1 14) 0)), (0, .ref 64), (1, .int 0), (2, .int a2)], [.int 1, .int 5, .ref 64], (q_kM s c n))) 4 (fun _ _ => rfl) ?_
  refine q_RP_bd fun r2 er2 => ?_
  refine q_RP_call (v := (some (.int r2))) (h2 := (q_kM s c n)) rfl rfl ((dzt_M257_64 s c n 5 1 r2 er2).le (Nat.le_of_ble_eq_true rfl)) ?_
  show q_RP _ _ _ (13, [(3, .int ((s.1 14) 0)), (0, .ref 64), (1, .int 0), (2, .int a2)], [.int r2], (q_kM s c n)) _ _
  refine q_RP_seg (g2 := (29, [(4, .int r2), (3, .int ((s.1 14) 0)), (0, .ref 64), (1, .int 0), (2, .int a2)], [.int ((255 : Int32) - a2), .ref 64], (q_kM s c n))) 7 (fun _ _ => rfl) ?_
  refine q_RP_bd fun r3 er3 => ?_
  refine q_RP_call (v := none) (h2 := (q_kM r3 c n)) rfl rfl ((dzt_M264_64 s c n ((255 : Int32) - a2) r3 er3).le (Nat.le_of_ble_eq_true rfl)) ?_
  show q_RP _ _ _ (32, [(4, .int r2), (3, .int ((s.1 14) 0)), (0, .ref 64), (1, .int 0), (2, .int a2)], [], (q_kM r3 c n)) _ _
  refine q_RP_seg (g2 := (38, [(4, .int r2), (3, .int ((s.1 14) 0)), (0, .ref 64), (1, .int 0), (2, .int a2)], [.int ((r3.1 15) 2)], (q_kM r3 c n))) 4 (fun _ _ => rfl) ?_
  cases h1 : decide ((r3.1 15) 2 = 0) with
  | true =>
    refine q_RP_cT ?_
    refine q_RP_rsT (g2 := (56, [(4, .int r2), (3, .int ((s.1 14) 0)), (0, .ref 64), (1, .int 0), (2, .int a2)], [], (q_kM r3 c n))) rfl rfl h1 ?_
    exact q_RP_xt (q_xt_mk (q_mn1 2 rfl (q_mn1 4 rfl (q_mn1 1 rfl (q_mn1 0 rfl q_mn0)))) rfl) (dzt_M267_64_f_56 c n r3 a2 ((s.1 14) 0) r2)
  | false =>
    refine q_RP_cF ?_
    refine q_RP_rsF (g2 := (41, [(4, .int r2), (3, .int ((s.1 14) 0)), (0, .ref 64), (1, .int 0), (2, .int a2)], [], (q_kM r3 c n))) rfl rfl h1 ?_
    refine q_RP_seg (g2 := (56, [(4, .int r2), (3, .int ((s.1 14) 0)), (0, .ref 64), (1, .int 0), (2, .int a2)], [], (q_kM r3 c n))) 2 (fun _ _ => rfl) ?_
    exact q_RP_xt (q_xt_mk (q_mn1 2 rfl (q_mn1 4 rfl (q_mn1 1 rfl (q_mn1 0 rfl q_mn0)))) rfl) (dzt_M267_64_f_56 c n r3 a2 ((s.1 14) 0) r2)
def dz_M268_64 (s : q_S) (a1 : Int32) : Option (q_S × Int32) :=
  (dz_M214_64 s a1).bind fun r2 => cond (decide (a1 = 3869)) (cond (decide (a1 = 3870)) (q_let ((q_sA r2.1 14 (upd (r2.1.1 14) 10 0))) fun r3 => some ((q_sA r3 14 (upd (r3.1 14) 11 0)), r2.2)) (some ((q_sA r2.1 14 (upd (r2.1.1 14) 10 0)), r2.2))) (cond (decide (a1 = 3870)) (some ((q_sA r2.1 14 (upd (r2.1.1 14) 11 0)), r2.2)) (some (r2.1, r2.2)))
set_option maxHeartbeats 4000000 in
theorem dzt_M268_64 (s : q_S) (c n : Nat) (a1 : Int32) (x : q_S × Int32) (h : dz_M268_64 s a1 = some x) : q_Ca q_TB0 5 267 [.ref 64, .int a1] (q_kM s c n) ((q_oIM c n) x) := by
  refine q_CaP_of (φ := (q_oIM c n)) (Nat.le_of_ble_eq_true rfl) ?_ h
  clear h
  unfold dz_M268_64
  refine q_RP_seg (g2 := (2, [(0, .ref 64), (1, .int a1)], [.int a1, .ref 64], (q_kM s c n))) 2 (fun _ _ => rfl) ?_
  refine q_RP_bd fun r2 er2 => ?_
  refine q_RP_call (v := (some (.int r2.2))) (h2 := (q_kM r2.1 c n)) rfl rfl ((dzt_M214_64 s c n a1 r2 er2).le (Nat.le_of_ble_eq_true rfl)) ?_
  show q_RP _ _ _ (5, [(0, .ref 64), (1, .int a1)], [.int r2.2], (q_kM r2.1 c n)) _ _
  refine q_RP_seg (g2 := (10, [(2, .int r2.2), (0, .ref 64), (1, .int a1)], [.int 3869, .int a1], (q_kM r2.1 c n))) 3 (fun _ _ => rfl) ?_
  cases h1 : decide (a1 = 3869) with
  | true =>
    refine q_RP_cT ?_
    refine q_RP_rsF (g2 := (13, [(2, .int r2.2), (0, .ref 64), (1, .int a1)], [], (q_kM r2.1 c n))) rfl rfl (q_d_neT h1) ?_
    refine q_RP_seg (g2 := (25, [(2, .int r2.2), (0, .ref 64), (1, .int a1)], [.int 3870, .int a1], (q_kM (q_sA r2.1 14 (upd (r2.1.1 14) 10 0)) c n))) 7 (fun _ _ => rfl) ?_
    cases h2 : decide (a1 = 3870) with
    | true =>
      refine q_RP_cT ?_
      refine q_RP_rsF (g2 := (28, [(2, .int r2.2), (0, .ref 64), (1, .int a1)], [], (q_kM (q_sA r2.1 14 (upd (r2.1.1 14) 10 0)) c n))) rfl rfl (q_d_neT h2) ?_
      refine q_RP_seg (g2 := (35, [(2, .int r2.2), (0, .ref 64), (1, .int a1)], [.int 0, .int 11, .ref 78], (q_kM (q_sA r2.1 14 (upd (r2.1.1 14) 10 0)) c n))) 4 (fun _ _ => rfl) ?_
      generalize (q_sA r2.1 14 (upd (r2.1.1 14) 10 0)) = r3
      refine q_RP_let ?_
      show q_RP _ _ _ (35, [(2, .int r2.2), (0, .ref 64), (1, .int a1)], [.int 0, .int 11, .ref 78], (q_kM r3 c n)) _ _
      refine q_RP_seg (g2 := (37, [(2, .int r2.2), (0, .ref 64), (1, .int a1)], [.int r2.2], (q_kM (q_sA r3 14 (upd (r3.1 14) 11 0)) c n))) 2 (fun _ _ => rfl) ?_
      exact q_RP_ret rfl rfl rfl
    | false =>
      refine q_RP_cF ?_
      refine q_RP_rsT (g2 := (36, [(2, .int r2.2), (0, .ref 64), (1, .int a1)], [], (q_kM (q_sA r2.1 14 (upd (r2.1.1 14) 10 0)) c n))) rfl rfl (q_d_neF h2) ?_
      refine q_RP_seg (g2 := (37, [(2, .int r2.2), (0, .ref 64), (1, .int a1)], [.int r2.2], (q_kM (q_sA r2.1 14 (upd (r2.1.1 14) 10 0)) c n))) 1 (fun _ _ => rfl) ?_
      exact q_RP_ret rfl rfl rfl
  | false =>
    refine q_RP_cF ?_
    refine q_RP_rsT (g2 := (21, [(2, .int r2.2), (0, .ref 64), (1, .int a1)], [], (q_kM r2.1 c n))) rfl rfl (q_d_neF h1) ?_
    refine q_RP_seg (g2 := (25, [(2, .int r2.2), (0, .ref 64), (1, .int a1)], [.int 3870, .int a1], (q_kM r2.1 c n))) 2 (fun _ _ => rfl) ?_
    cases h3 : decide (a1 = 3870) with
    | true =>
      refine q_RP_cT ?_
      refine q_RP_rsF (g2 := (28, [(2, .int r2.2), (0, .ref 64), (1, .int a1)], [], (q_kM r2.1 c n))) rfl rfl (q_d_neT h3) ?_
      refine q_RP_seg (g2 := (37, [(2, .int r2.2), (0, .ref 64), (1, .int a1)], [.int r2.2], (q_kM (q_sA r2.1 14 (upd (r2.1.1 14) 11 0)) c n))) 6 (fun _ _ => rfl) ?_
      exact q_RP_ret rfl rfl rfl
    | false =>
      refine q_RP_cF ?_
      refine q_RP_rsT (g2 := (36, [(2, .int r2.2), (0, .ref 64), (1, .int a1)], [], (q_kM r2.1 c n))) rfl rfl (q_d_neF h3) ?_
      refine q_RP_seg (g2 := (37, [(2, .int r2.2), (0, .ref 64), (1, .int a1)], [.int r2.2], (q_kM r2.1 c n))) 1 (fun _ _ => rfl) ?_
      exact q_RP_ret rfl rfl rfl
