def dz_M259_64 (s : q_S) (a1 : Int32) : q_S :=
  q_let (dz_M206 s a1 0) fun r1 => cond r1 (q_let (dz_M206 (q_sA s 15 (upd (s.1 15) 5 (vp_nar .boolean 1))) a1 1) fun r2 => cond r2 (q_let ((q_sA s 15 (upd (s.1 15) 5 (vp_nar .boolean 1)))) fun r3 => q_let (dz_M206 (q_sA r3 15 (upd (r3.1 15) 4 (vp_nar .boolean 1))) a1 2) fun r4 => cond r4 (q_let ((q_sA r3 15 (upd (r3.1 15) 4 (vp_nar .boolean 1)))) fun r5 => q_let (dz_M206 (q_sA r5 15 (upd (r5.1 15) 3 (vp_nar .boolean 1))) a1 3) fun r6 => cond r6 (q_let ((q_sA r5 15 (upd (r5.1 15) 3 (vp_nar .boolean 1)))) fun r7 => q_let (dz_M206 (q_sA r7 15 (upd (r7.1 15) 2 (vp_nar .boolean 1))) a1 6) fun r8 => cond r8 (q_let ((q_sA r7 15 (upd (r7.1 15) 2 (vp_nar .boolean 1)))) fun r9 => q_let (dz_M206 (q_sA r9 15 (upd (r9.1 15) 1 (vp_nar .boolean 1))) a1 7) fun r10 => cond r10 (q_let ((q_sA r9 15 (upd (r9.1 15) 1 (vp_nar .boolean 1)))) fun r11 => (q_sA r11 15 (upd (r11.1 15) 0 (vp_nar .boolean 1)))) (q_let ((q_sA r9 15 (upd (r9.1 15) 1 (vp_nar .boolean 1)))) fun r12 => (q_sA r12 15 (upd (r12.1 15) 0 (vp_nar .boolean 0))))) (q_let ((q_sA r7 15 (upd (r7.1 15) 2 (vp_nar .boolean 1)))) fun r13 => q_let (dz_M206 (q_sA r13 15 (upd (r13.1 15) 1 (vp_nar .boolean 0))) a1 7) fun r14 => cond r14 (q_let ((q_sA r13 15 (upd (r13.1 15) 1 (vp_nar .boolean 0)))) fun r15 => (q_sA r15 15 (upd (r15.1 15) 0 (vp_nar .boolean 1)))) (q_let ((q_sA r13 15 (upd (r13.1 15) 1 (vp_nar .boolean 0)))) fun r16 => (q_sA r16 15 (upd (r16.1 15) 0 (vp_nar .boolean 0)))))) (q_let ((q_sA r5 15 (upd (r5.1 15) 3 (vp_nar .boolean 1)))) fun r17 => q_let (dz_M206 (q_sA r17 15 (upd (r17.1 15) 2 (vp_nar .boolean 0))) a1 6) fun r18 => cond r18 (q_let ((q_sA r17 15 (upd (r17.1 15) 2 (vp_nar .boolean 0)))) fun r19 => q_let (dz_M206 (q_sA r19 15 (upd (r19.1 15) 1 (vp_nar .boolean 1))) a1 7) fun r20 => cond r20 (q_let ((q_sA r19 15 (upd (r19.1 15) 1 (vp_nar .boolean 1)))) fun r21 => (q_sA r21 15 (upd (r21.1 15) 0 (vp_nar .boolean 1)))) (q_let ((q_sA r19 15 (upd (r19.1 15) 1 (vp_nar .boolean 1)))) fun r22 => (q_sA r22 15 (upd (r22.1 15) 0 (vp_nar .boolean 0))))) (q_let ((q_sA r17 15 (upd (r17.1 15) 2 (vp_nar .boolean 0)))) fun r23 => q_let (dz_M206 (q_sA r23 15 (upd (r23.1 15) 1 (vp_nar .boolean 0))) a1 7) fun r24 => cond r24 (q_let ((q_sA r23 15 (upd (r23.1 15) 1 (vp_nar .boolean 0)))) fun r25 => (q_sA r25 15 (upd (r25.1 15) 0 (vp_nar .boolean 1)))) (q_let ((q_sA r23 15 (upd (r23.1 15) 1 (vp_nar .boolean 0)))) fun r26 => (q_sA r26 15 (upd (r26.1 15) 0 (vp_nar .boolean 0))))))) (q_let ((q_sA r3 15 (upd (r3.1 15) 4 (vp_nar .boolean 1)))) fun r27 => q_let (dz_M206 (q_sA r27 15 (upd (r27.1 15) 3 (vp_nar .boolean 0))) a1 3) fun r28 => cond r28 (q_let ((q_sA r27 15 (upd (r27.1 15) 3 (vp_nar .boolean 0)))) fun r29 => q_let (dz_M206 (q_sA r29 15 (upd (r29.1 15) 2 (vp_nar .boolean 1))) a1 6) fun r30 => cond r30 (q_let ((q_sA r29 15 (upd (r29.1 15) 2 (vp_nar .boolean 1)))) fun r31 => q_let (dz_M206 (q_sA r31 15 (upd (r31.1 15) 1 (vp_nar .boolean 1))) a1 7) fun r32 => cond r32 (q_let ((q_sA r31 15 (upd (r31.1 15) 1 (vp_nar .boolean 1)))) fun r33 => (q_sA r33 15 (upd (r33.1 15) 0 (vp_nar .boolean 1)))) (q_let ((q_sA r31 15 (upd (r31.1 15) 1 (vp_nar .boolean 1)))) fun r34 => (q_sA r34 15 (upd (r34.1 15) 0 (vp_nar .boolean 0))))) (q_let ((q_sA r29 15 (upd (r29.1 15) 2 (vp_nar .boolean 1)))) fun r35 => q_let (dz_M206 (q_sA r35 15 (upd (r35.1 15) 1 (vp_nar .boolean 0))) a1 7) fun r36 => cond r36 (q_let ((q_sA r35 15 (upd (r35.1 15) 1 (vp_nar .boolean 0)))) fun r37 => (q_sA r37 15 (upd (r37.1 15) 0 (vp_nar .boolean 1)))) (q_let ((q_sA r35 15 (upd (r35.1 15) 1 (vp_nar .boolean 0)))) fun r38 => (q_sA r38 15 (upd (r38.1 15) 0 (vp_nar .boolean 0)))))) (q_let ((q_sA r27 15 (upd (r27.1 15) 3 (vp_nar .boolean 0)))) fun r39 => q_let (dz_M206 (q_sA r39 15 (upd (r39.1 15) 2 (vp_nar .boolean 0))) a1 6) fun r40 => cond r40 (q_let ((q_sA r39 15 (upd (r39.1 15) 2 (vp_nar .boolean 0)))) fun r41 => q_let (dz_M206 (q_sA r41 15 (upd (r41.1 15) 1 (vp_nar .boolean 1))) a1 7) fun r42 => cond r42 (q_let ((q_sA r41 15 (upd (r41.1 15) 1 (vp_nar .boolean 1)))) fun r43 => (q_sA r43 15 (upd (r43.1 15) 0 (vp_nar .boolean 1)))) (q_let ((q_sA r41 15 (upd (r41.1 15) 1 (vp_nar .boolean 1)))) fun r44 => (q_sA r44 15 (upd (r44.1 15) 0 (vp_nar .boolean 0))))) (q_let ((q_sA r39 15 (upd (r39.1 15) 2 (vp_nar .boolean 0)))) fun r45 => q_let (dz_M206 (q_sA r45 15 (upd (r45.1 15) 1 (vp_nar .boolean 0))) a1 7) fun r46 => cond r46 (q_let ((q_sA r45 15 (upd (r45.1 15) 1 (vp_nar .boolean 0)))) fun r47 => (q_sA r47 15 (upd (r47.1 15) 0 (vp_nar .boolean 1)))) (q_let ((q_sA r45 15 (upd (r45.1 15) 1 (vp_nar .boolean 0)))) fun r48 => (q_sA r48 15 (upd (r48.1 15) 0 (vp_nar .boolean 0)))))))) (q_let ((q_sA s 15 (upd (s.1 15) 5 (vp_nar .boolean 1)))) fun r49 => q_let (dz_M206 (q_sA r49 15 (upd (r49.1 15) 4 (vp_nar .boolean 0))) a1 2) fun r50 => cond r50 (q_let ((q_sA r49 15 (upd (r49.1 15) 4 (vp_nar .boolean 0)))) fun r51 => q_let (dz_M206 (q_sA r51 15 (upd (r51.1 15) 3 (vp_nar .boolean 1))) a1 3) fun r52 => cond r52 (q_let ((q_sA r51 15 (upd (r51.1 15) 3 (vp_nar .boolean 1)))) fun r53 => q_let (dz_M206 (q_sA r53 15 (upd (r53.1 15) 2 (vp_nar .boolean 1))) a1 6) fun r54 => cond r54 (q_let ((q_sA r53 15 (upd (r53.1 15) 2 (vp_nar .boolean 1)))) fun r55 => q_let (dz_M206 (q_sA r55 15 (upd (r55.1 15) 1 (vp_nar .boolean 1))) a1 7) fun r56 => cond r56 (q_let ((q_sA r55 15 (upd (r55.1 15) 1 (vp_nar .boolean 1)))) fun r57 => (q_sA r57 15 (upd (r57.1 15) 0 (vp_nar .boolean 1)))) (q_let ((q_sA r55 15 (upd (r55.1 15) 1 (vp_nar .boolean 1)))) fun r58 => (q_sA r58 15 (upd (r58.1 15) 0 (vp_nar .boolean 0))))) (q_let ((q_sA r53 15 (upd (r53.1 15) 2 (vp_nar .boolean 1)))) fun r59 => q_let (dz_M206 (q_sA r59 15 (upd (r59.1 15) 1 (vp_nar .boolean 0))) a1 7) fun r60 => cond r60 (q_let ((q_sA r59 15 (upd (r59.1 15) 1 (vp_nar .boolean 0)))) fun r61 => (q_sA r61 15 (upd (r61.1 15) 0 (vp_nar .boolean 1)))) (q_let ((q_sA r59 15 (upd (r59.1 15) 1 (vp_nar .boolean 0)))) fun r62 => (q_sA r62 15 (upd (r62.1 15) 0 (vp_nar .boolean 0)))))) (q_let ((q_sA r51 15 (upd (r51.1 15) 3 (vp_nar .boolean 1)))) fun r63 => q_let (dz_M206 (q_sA r63 15 (upd (r63.1 15) 2 (vp_nar .boolean 0))) a1 6) fun r64 => cond r64 (q_let ((q_sA r63 15 (upd (r63.1 15) 2 (vp_nar .boolean 0)))) fun r65 => q_let (dz_M206 (q_sA r65 15 (upd (r65.1 15) 1 (vp_nar .boolean 1))) a1 7) fun r66 => cond r66 (q_let ((q_sA r65 15 (upd (r65.1 15) 1 (vp_nar .boolean 1)))) fun r67 => (q_sA r67 15 (upd (r67.1 15) 0 (vp_nar .boolean 1)))) (q_let ((q_sA r65 15 (upd (r65.1 15) 1 (vp_nar .boolean 1)))) fun r68 => (q_sA r68 15 (upd (r68.1 15) 0 (vp_nar .boolean 0))))) (q_let ((q_sA r63 15 (upd (r63.1 15) 2 (vp_nar .boolean 0)))) fun r69 => q_let (dz_M206 (q_sA r69 15 (upd (r69.1 15) 1 (vp_nar .boolean 0))) a1 7) fun r70 => cond r70 (q_let ((q_sA r69 15 (upd (r69.1 15) 1 (vp_nar .boolean 0)))) fun r71 => (q_sA r71 15 (upd (r71.1 15) 0 (vp_nar .boolean 1)))) (q_let ((q_sA r69 15 (upd (r69.1 15) 1 (vp_nar .boolean 0)))) fun r72 => (q_sA r72 15 (upd (r72.1 15) 0 (vp_nar .boolean 0))))))) (q_let ((q_sA r49 15 (upd (r49.1 15) 4 (vp_nar .boolean 0)))) fun r73 => q_let (dz_M206 (q_sA r73 15 (upd (r73.1 15) 3 (vp_nar .boolean 0))) a1 3) fun r74 => cond r74 (q_let ((q_sA r73 15 (upd (r73.1 15) 3 (vp_nar .boolean 0)))) fun r75 => q_let (dz_M206 (q_sA r75 15 (upd (r75.1 15) 2 (vp_nar .boolean 1))) a1 6) fun r76 => cond r76 (q_let ((q_sA r75 15 (upd (r75.1 15) 2 (vp_nar .boolean 1)))) fun r77 => q_let (dz_M206 (q_sA r77 15 (upd (r77.1 15) 1 (vp_nar .boolean 1))) a1 7) fun r78 => cond r78 (q_let ((q_sA r77 15 (upd (r77.1 15) 1 (vp_nar .boolean 1)))) fun r79 => (q_sA r79 15 (upd (r79.1 15) 0 (vp_nar .boolean 1)))) (q_let ((q_sA r77 15 (upd (r77.1 15) 1 (vp_nar .boolean 1)))) fun r80 => (q_sA r80 15 (upd (r80.1 15) 0 (vp_nar .boolean 0))))) (q_let ((q_sA r75 15 (upd (r75.1 15) 2 (vp_nar .boolean 1)))) fun r81 => q_let (dz_M206 (q_sA r81 15 (upd (r81.1 15) 1 (vp_nar .boolean 0))) a1 7) fun r82 => cond r82 (q_let ((q_sA r81 15 (upd (r81.1 15) 1 (vp_nar .boolean 0)))) fun r83 => (q_sA r83 15 (upd (r83.1 15) 0 (vp_nar .boolean 1)))) (q_let ((q_sA r81 15 (upd (r81.1 15) 1 (vp_nar .boolean 0)))) fun r84 => (q_sA r84 15 (upd (r84.1 15) 0 (vp_nar .boolean 0)))))) (q_let ((q_sA r73 15 (upd (r73.1 15) 3 (vp_nar .boolean 0)))) fun r85 => q_let (dz_M206 (q_sA r85 15 (upd (r85.1 15) 2 (vp_nar .boolean 0))) a1 6) fun r86 => cond r86 (q_let ((q_sA r85 15 (upd (r85.1 15) 2 (vp_nar .boolean 0)))) fun r87 => q_let (dz_M206 (q_sA r87 15 (upd (r87.1 15) 1 (vp_nar .boolean 1))) a1 7) fun r88 => cond r88 (q_let ((q_sA r87 15 (upd (r87.1 15) 1 (vp_nar .boolean 1)))) fun r89 => (q_sA r89 15 (upd (r89.1 15) 0 (vp_nar .boolean 1)))) (q_let ((q_sA r87 15 (upd (r87.1 15) 1 (vp_nar .boolean 1)))) fun r90 => (q_sA r90 15 (upd (r90.1 15) 0 (vp_nar .boolean 0))))) (q_let ((q_sA r85 15 (upd (r85.1 15) 2 (vp_nar .boolean 0)))) fun r91 => q_let (dz_M206 (q_sA r91 15 (upd (r91.1 15) 1 (vp_nar .boolean 0))) a1 7) fun r92 => cond r92 (q_let ((q_sA r91 15 (upd (r91.1 15) 1 (vp_nar .boolean 0)))) fun r93 => (q_sA r93 15 (upd (r93.1 15) 0 (vp_nar .boolean 1)))) (q_let ((q_sA r91 15 (upd (r91.1 15) 1 (vp_nar .boolean 0)))) fun r94 => (q_sA r94 15 (upd (r94.1 15) 0 (vp_nar .boolean 0))))))))) (q_let (dz_M206 (q_sA s 15 (upd (s.1 15) 5 (vp_nar .boolean 0))) a1 1) fun r95 => cond r95 (q_let ((q_sA s 15 (upd (s.1 15) 5 (vp_nar .boolean 0)))) fun r96 => q_let (dz_M206 (q_sA r96 15 (upd (r96.1 15) 4 (vp_nar .boolean 1))) a1 2) fun r97 => cond r97 (q_let ((q_sA r96 15 (upd (r96.1 15) 4 (vp_nar .boolean 1)))) fun r98 => q_let (dz_M206 (q_sA r98 15 (upd (r98.1 15) 3 (vp_nar .boolean 1))) a1 3) fun r99 => cond r99 (q_let ((q_sA r98 15 (upd (r98.1 15) 3 (vp_nar .boolean 1)))) fun r100 => q_let (dz_M206 (q_sA r100 15 (upd (r100.1 15) 2 (vp_nar .boolean 1))) a1 6) fun r101 => cond r101 (q_let ((q_sA r100 15 (upd (r100.1 15) 2 (vp_nar .boolean 1)))) fun r102 => q_let (dz_M206 (q_sA r102 15 (upd (r102.1 15) 1 (vp_nar .boolean 1))) a1 7) fun r103 => cond r103 (q_let ((q_sA r102 15 (upd (r102.1 15) 1 (vp_nar .boolean 1)))) fun r104 => (q_sA r104 15 (upd (r104.1 15) 0 (vp_nar .boolean 1)))) (q_let ((q_sA r102 15 (upd (r102.1 15) 1 (vp_nar .boolean 1)))) fun r105 => (q_sA r105 15 (upd (r105.1 15) 0 (vp_nar .boolean 0))))) (q_let ((q_sA r100 15 (upd (r100.1 15) 2 (vp_nar .boolean 1)))) fun r106 => q_let (dz_M206 (q_sA r106 15 (upd (r106.1 15) 1 (vp_nar .boolean 0))) a1 7) fun r107 => cond r107 (q_let ((q_sA r106 15 (upd (r106.1 15) 1 (vp_nar .boolean 0)))) fun r108 => (q_sA r108 15 (upd (r108.1 15) 0 (vp_nar .boolean 1)))) (q_let ((q_sA r106 15 (upd (r106.1 15) 1 (vp_nar .boolean 0)))) fun r109 => (q_sA r109 15 (upd (r109.1 15) 0 (vp_nar .boolean 0)))))) (q_let ((q_sA r98 15 (upd (r98.1 15) 3 (vp_nar .boolean 1)))) fun r110 => q_let (dz_M206 (q_sA r110 15 (upd (r110.1 15) 2 (vp_nar .boolean 0))) a1 6) fun r111 => cond r111 (q_let ((q_sA r110 15 (upd (r110.1 15) 2 (vp_nar .boolean 0)))) fun r112 => q_let (dz_M206 (q_sA r112 15 (upd (r112.1 15) 1 (vp_nar .boolean 1))) a1 7) fun r113 => cond r113 (q_let ((q_sA r112 15 (upd (r112.1 15) 1 (vp_nar .boolean 1)))) fun r114 => (q_sA r114 15 (upd (r114.1 15) 0 (vp_nar .boolean 1)))) (q_let ((q_sA r112 15 (upd (r112.1 15) 1 (vp_nar .boolean 1)))) fun r115 => (q_sA r115 15 (upd (r115.1 15) 0 (vp_nar .boolean 0))))) (q_let ((q_sA r110 15 (upd (r110.1 15) 2 (vp_nar .boolean 0)))) fun r116 => q_let (dz_M206 (q_sA r116 15 (upd (r116.1 15) 1 (vp_nar .boolean 0))) a1 7) fun r117 => cond r117 (q_let ((q_sA r116 15 (upd (r116.1 15) 1 (vp_nar .boolean 0)))) fun r118 => (q_sA r118 15 (upd (r118.1 15) 0 (vp_nar .boolean 1)))) (q_let ((q_sA r116 15 (upd (r116.1 15) 1 (vp_nar .boolean 0)))) fun r119 => (q_sA r119 15 (upd (r119.1 15) 0 (vp_nar .boolean 0))))))) (q_let ((q_sA r96 15 (upd (r96.1 15) 4 (vp_nar .boolean 1)))) fun r120 => q_let (dz_M206 (q_sA r120 15 (upd (r120.1 15) 3 (vp_nar .boolean 0))) a1 3) fun r121 => cond r121 (q_let ((q_sA r120 15 (upd (r120.1 15) 3 (vp_nar .boolean 0)))) fun r122 => q_let (dz_M206 (q_sA r122 15 (upd (r122.1 15) 2 (vp_nar .boolean 1))) a1 6) fun r123 => cond r123 (q_let ((q_sA r122 15 (upd (r122.1 15) 2 (vp_nar .boolean 1)))) fun r124 => q_let (dz_M206 (q_sA r124 15 (upd (r124.1 15) 1 (vp_nar .boolean 1))) a1 7) fun r125 => cond r125 (q_let ((q_sA r124 15 (upd (r124.1 15) 1 (vp_nar .boolean 1)))) fun r126 => (q_sA r126 15 (upd (r126.1 15) 0 (vp_nar .boolean 1)))) (q_let ((q_sA r124 15 (upd (r124.1 15) 1 (vp_nar .boolean 1)))) fun r127 => (q_sA r127 15 (upd (r127.1 15) 0 (vp_nar .boolean 0))))) (q_let ((q_sA r122 15 (upd (r122.1 15) 2 (vp_nar .boolean 1)))) fun r128 => q_let (dz_M206 (q_sA r128 15 (upd (r128.1 15) 1 (vp_nar .boolean 0))) a1 7) fun r129 => cond r129 (q_let ((q_sA r128 15 (upd (r128.1 15) 1 (vp_nar .boolean 0)))) fun r130 => (q_sA r130 15 (upd (r130.1 15) 0 (vp_nar .boolean 1)))) (q_let ((q_sA r128 15 (upd (r128.1 15) 1 (vp_nar .boolean 0)))) fun r131 => (q_sA r131 15 (upd (r131.1 15) 0 (vp_nar .boolean 0)))))) (q_let ((q_sA r120 15 (upd (r120.1 15) 3 (vp_nar .boolean 0)))) fun r132 => q_let (dz_M206 (q_sA r132 15 (upd (r132.1 15) 2 (vp_nar .boolean 0))) a1 6) fun r133 => cond r133 (q_let ((q_sA r132 15 (upd (r132.1 15) 2 (vp_nar .boolean 0)))) fun r134 => q_let (dz_M206 (q_sA r134 15 (upd (r134.1 15) 1 (vp_nar .boolean 1))) a1 7) fun r135 => cond r135 (q_let ((q_sA r134 15 (upd (r134.1 15) 1 (vp_nar .boolean 1)))) fun r136 => (q_sA r136 15 (upd (r136.1 15) 0 (vp_nar .boolean 1)))) (q_let ((q_sA r134 15 (upd (r134.1 15) 1 (vp_nar .boolean 1)))) fun r137 => (q_sA r137 15 (upd (r137.1 15) 0 (vp_nar .boolean 0))))) (q_let ((q_sA r132 15 (upd (r132.1 15) 2 (vp_nar .boolean 0)))) fun r138 => q_let (dz_M206 (q_sA r138 15 (upd (r138.1 15) 1 (vp_nar .boolean 0))) a1 7) fun r139 => cond r139 (q_let ((q_sA r138 15 (upd (r138.1 15) 1 (vp_nar .boolean 0)))) fun r140 => (q_sA r140 15 (upd (r140.1 15) 0 (vp_nar .boolean 1)))) (q_let ((q_sA r138 15 (upd (r138.1 15) 1 (vp_nar .boolean 0)))) fun r141 => (q_sA r141 15 (upd (r141.1 15) 0 (vp_nar .boolean 0)))))))) (q_let ((q_sA s 15 (upd (s.1 15) 5 (vp_nar .boolean 0)))) fun r142 => q_let (dz_M206 (q_sA r142 15 (upd (r142.1 15) 4 (vp_nar .boolean 0))) a1 2) fun r143 => cond r143 (q_let ((q_sA r142 15 (upd (r142.1 15) 4 (vp_nar .boolean 0)))) fun r144 => q_let (dz_M206 (q_sA r144 15 (upd (r144.1 15) 3 (vp_nar .boolean 1))) a1 3) fun r145 => cond r145 (q_let ((q_sA r144 15 (upd (r144.1 15) 3 (vp_nar .boolean 1)))) fun r146 => q_let (dz_M206 (q_sA r146 15 (upd (r146.1 15) 2 (vp_nar .boolean 1))) a1 6) fun r147 => cond r147 (q_let ((q_sA r146 15 (upd (r146.1 15) 2 (vp_nar .boolean 1)))) fun r148 => q_let (dz_M206 (q_sA r148 15 (upd (r148.1 15) 1 (vp_nar .boolean 1))) a1 7) fun r149 => cond r149 (q_let ((q_sA r148 15 (upd (r148.1 15) 1 (vp_nar .boolean 1)))) fun r150 => (q_sA r150 15 (upd (r150.1 15) 0 (vp_nar .boolean 1)))) (q_let ((q_sA r148 15 (upd (r148.1 15) 1 (vp_nar .boolean 1)))) fun r151 => (q_sA r151 15 (upd (r151.1 15) 0 (vp_nar .boolean 0))))) (q_let ((q_sA r146 15 (upd (r146.1 15) 2 (vp_nar .boolean 1)))) fun r152 => q_let (dz_M206 (q_sA r152 15 (upd (r152.1 15) 1 (vp_nar .boolean 0))) a1 7) fun r153 => cond r153 (q_let ((q_sA r152 15 (upd (r152.1 15) 1 (vp_nar .boolean 0)))) fun r154 => (q_sA r154 15 (upd (r154.1 15) 0 (vp_nar .boolean 1)))) (q_let ((q_sA r152 15 (upd (r152.1 15) 1 (vp_nar .boolean 0)))) fun r155 => (q_sA r155 15 (upd (r155.1 15) 0 (vp_nar .boolean 0)))))) (q_let ((q_sA r144 15 (upd (r144.1 15) 3 (vp_nar .boolean 1)))) fun r156 => q_let (dz_M206 (q_sA r156 15 (upd (r156.1 15) 2 (vp_nar .boolean 0))) a1 6) fun r157 => cond r157 (q_let ((q_sA r156 15 (upd (r156.1 15) 2 (vp_nar .boolean 0)))) fun r158 => q_let (dz_M206 (q_sA r158 15 (upd (r158.1 15) 1 (vp_nar .boolean 1))) a1 7) fun r159 => cond r159 (q_let ((q_sA r158 15 (upd (r158.1 15) 1 (vp_nar .boolean 1)))) fun r160 => (q_sA r160 15 (upd (r160.1 15) 0 (vp_nar .boolean 1)))) (q_let ((q_sA r158 15 (upd (r158.1 15) 1 (vp_nar .boolean 1)))) fun r161 => (q_sA r161 15 (upd (r161.1 15) 0 (vp_nar .boolean 0))))) (q_let ((q_sA r156 15 (upd (r156.1 15) 2 (vp_nar .boolean 0)))) fun r162 => q_let (dz_M206 (q_sA r162 15 (upd (r162.1 15) 1 (vp_nar .boolean 0))) a1 7) fun r163 => cond r163 (q_let ((q_sA r162 15 (upd (r162.1 15) 1 (vp_nar .boolean 0)))) fun r164 => (q_sA r164 15 (upd (r164.1 15) 0 (vp_nar .boolean 1)))) (q_let ((q_sA r162 15 (upd (r162.1 15) 1 (vp_nar .boolean 0)))) fun r165 => (q_sA r165 15 (upd (r165.1 15) 0 (vp_nar .boolean 0))))))) (q_let ((q_sA r142 15 (upd (r142.1 15) 4 (vp_nar .boolean 0)))) fun r166 => q_let (dz_M206 (q_sA r166 15 (upd (r166.1 15) 3 (vp_nar .boolean 0))) a1 3) fun r167 => cond r167 (q_let ((q_sA r166 15 (upd (r166.1 15) 3 (vp_nar .boolean 0)))) fun r168 => q_let (dz_M206 (q_sA r168 15 (upd (r168.1 15) 2 (vp_nar .boolean 1))) a1 6) fun r169 => cond r169 (q_let ((q_sA r168 15 (upd (r168.1 15) 2 (vp_nar .boolean 1)))) fun r170 => q_let (dz_M206 (q_sA r170 15 (upd (r170.1 15) 1 (vp_nar .boolean 1))) a1 7) fun r171 => cond r171 (q_let ((q_sA r170 15 (upd (r170.1 15) 1 (vp_nar .boolean 1)))) fun r172 => (q_sA r172 15 (upd (r172.1 15) 0 (vp_nar .boolean 1)))) (q_let ((q_sA r170 15 (upd (r170.1 15) 1 (vp_nar .boolean 1)))) fun r173 => (q_sA r173 15 (upd (r173.1 15) 0 (vp_nar .boolean 0))))) (q_let ((q_sA r168 15 (upd (r168.1 15) 2 (vp_nar .boolean 1)))) fun r174 => q_let (dz_M206 (q_sA r174 15 (upd (r174.1 15) 1 (vp_nar .boolean 0))) a1 7) fun r175 => cond r175 (q_let ((q_sA r174 15 (upd (r174.1 15) 1 (vp_nar .boolean 0)))) fun r176 => (q_sA r176 15 (upd (r176.1 15) 0 (vp_nar .boolean 1)))) (q_let ((q_sA r174 15 (upd (r174.1 15) 1 (vp_nar .boolean 0)))) fun r177 => (q_sA r177 15 (upd (r177.1 15) 0 (vp_nar .boolean 0)))))) (q_let ((q_sA r166 15 (upd (r166.1 15) 3 (vp_nar .boolean 0)))) fun r178 => q_let (dz_M206 (q_sA r178 15 (upd (r178.1 15) 2 (vp_nar .boolean 0))) a1 6) fun r179 => cond r179 (q_let ((q_sA r178 15 (upd (r178.1 15) 2 (vp_nar .boolean 0)))) fun r180 => q_let (dz_M206 (q_sA r180 15 (upd (r180.1 15) 1 (vp_nar .boolean 1))) a1 7) fun r181 => cond r181 (q_let ((q_sA r180 15 (upd (r180.1 15) 1 (vp_nar .boolean 1)))) fun r182 => (q_sA r182 15 (upd (r182.1 15) 0 (vp_nar .boolean 1)))) (q_let ((q_sA r180 15 (upd (r180.1 15) 1 (vp_nar .boolean 1)))) fun r183 => (q_sA r183 15 (upd (r183.1 15) 0 (vp_nar .boolean 0))))) (q_let ((q_sA r178 15 (upd (r178.1 15) 2 (vp_nar .boolean 0)))) fun r184 => q_let (dz_M206 (q_sA r184 15 (upd (r184.1 15) 1 (vp_nar .boolean 0))) a1 7) fun r185 => cond r185 (q_let ((q_sA r184 15 (upd (r184.1 15) 1 (vp_nar .boolean 0)))) fun r186 => (q_sA r186 15 (upd (r186.1 15) 0 (vp_nar .boolean 1)))) (q_let ((q_sA r184 15 (upd (r184.1 15) 1 (vp_nar .boolean 0)))) fun r187 => (q_sA r187 15 (upd (r187.1 15) 0 (vp_nar .boolean 0)))))))))
set_option maxHeartbeats 4000000 in
theorem dzt_M259_64 (s : q_S) (c n : Nat) (a1 : Int32) : q_Ca q_TB0 2 258 [.ref 64, .int a1] (q_kM s c n) ((q_oSM c n) (dz_M259_64 s a1)) := by
  refine q_CaT_of (φ := (q_oSM c n)) (Nat.le_of_ble_eq_true rfl) ?_
  unfold dz_M259_64
  refine q_RT_seg (g2 := (7, [(0, .ref 64), (1, .int a1)], [.int 0, .int a1, .int 5, .ref 79], (q_kM s c n))) 5 (fun _ _ => rfl) ?_
  refine q_RT_call (v := (some (.int (q_b (dz_M206 s a1 0))))) (h2 := (q_kM s c n)) rfl rfl ((dzt_M206 s c n a1 0).le (Nat.le_of_ble_eq_true rfl)) ?_
  generalize dz_M206 s a1 0 = r1
  refine q_RT_let ?_
  show q_RT _ _ _ (10, [(0, .ref 64), (1, .int a1)], [.int (q_b r1), .int 5, .ref 79], (q_kM s c n)) _ _
  cases h1 : r1 with
  | true =>
    refine q_RT_cT ?_
    show q_RT _ _ _ (10, [(0, .ref 64), (1, .int a1)], [.int 1, .int 5, .ref 79], (q_kM s c n)) _ _
    refine q_RT_seg (g2 := (18, [(0, .ref 64), (1, .int a1)], [.int 1, .int a1, .int 4, .ref 79], (q_kM (q_sA s 15 (upd (s.1 15) 5 (vp_nar .boolean 1))) c n))) 6 (fun _ _ => rfl) ?_
    refine q_RT_call (v := (some (.int (q_b (dz_M206 (q_sA s 15 (upd (s.1 15) 5 (vp_nar .boolean 1))) a1 1))))) (h2 := (q_kM (q_sA s 15 (upd (s.1 15) 5 (vp_nar .boolean 1))) c n)) rfl rfl ((dzt_M206 (q_sA s 15 (upd (s.1 15) 5 (vp_nar .boolean 1))) c n a1 1).le (Nat.le_of_ble_eq_true rfl)) ?_
    generalize dz_M206 (q_sA s 15 (upd (s.1 15) 5 (vp_nar .boolean 1))) a1 1 = r2
    refine q_RT_let ?_
    show q_RT _ _ _ (21, [(0, .ref 64), (1, .int a1)], [.int (q_b r2), .int 4, .ref 79], (q_kM (q_sA s 15 (upd (s.1 15) 5 (vp_nar .boolean 1))) c n)) _ _
    cases h2 : r2 with
    | true =>
      refine q_RT_cT ?_
      show q_RT _ _ _ (21, [(0, .ref 64), (1, .int a1)], [.int 1, .int 4, .ref 79], (q_kM (q_sA s 15 (upd (s.1 15) 5 (vp_nar .boolean 1))) c n)) _ _
      generalize (q_sA s 15 (upd (s.1 15) 5 (vp_nar .boolean 1))) = r3
      refine q_RT_let ?_
      show q_RT _ _ _ (21, [(0, .ref 64), (1, .int a1)], [.int 1, .int 4, .ref 79], (q_kM r3 c n)) _ _
      refine q_RT_seg (g2 := (29, [(0, .ref 64), (1, .int a1)], [.int 2, .int a1, .int 3, .ref 79], (q_kM (q_sA r3 15 (upd (r3.1 15) 4 (vp_nar .boolean 1))) c n))) 6 (fun _ _ => rfl) ?_
      refine q_RT_call (v := (some (.int (q_b (dz_M206 (q_sA r3 15 (upd (r3.1 15) 4 (vp_nar .boolean 1))) a1 2))))) (h2 := (q_kM (q_sA r3 15 (upd (r3.1 15) 4 (vp_nar .boolean 1))) c n)) rfl rfl ((dzt_M206 (q_sA r3 15 (upd (r3.1 15) 4 (vp_nar .boolean 1))) c n a1 2).le (Nat.le_of_ble_eq_true rfl)) ?_
      generalize dz_M206 (q_sA r3 15 (upd (r3.1 15) 4 (vp_nar .boolean 1))) a1 2 = r4
      refine q_RT_let ?_
      show q_RT _ _ _ (32, [(0, .ref 64), (1, .int a1)], [.int (q_b r4), .int 3, .ref 79], (q_kM (q_sA r3 15 (upd (r3.1 15) 4 (vp_nar .boolean 1))) c n)) _ _
      cases h3 : r4 with
      | true =>
        refine q_RT_cT ?_
        show q_RT _ _ _ (32, [(0, .ref 64), (1, .int a1)], [.int 1, .int 3, .ref 79], (q_kM (q_sA r3 15 (upd (r3.1 15) 4 (vp_nar .boolean 1))) c n)) _ _
        generalize (q_sA r3 15 (upd (r3.1 15) 4 (vp_nar .boolean 1))) = r5
        refine q_RT_let ?_
        show q_RT _ _ _ (32, [(0, .ref 64), (1, .int a1)], [.int 1, .int 3, .ref 79], (q_kM r5 c n)) _ _
        refine q_RT_seg (g2 := (40, [(0, .ref 64), (1, .int a1)], [.int 3, .int a1, .int 2, .ref 79], (q_kM (q_sA r5 15 (upd (r5.1 15) 3 (vp_nar .boolean 1))) c n))) 6 (fun _ _ => rfl) ?_
        refine q_RT_call (v := (some (.int (q_b (dz_M206 (q_sA r5 15 (upd (r5.1 15) 3 (vp_nar .boolean 1))) a1 3))))) (h2 := (q_kM (q_sA r5 15 (upd (r5.1 15) 3 (vp_nar .boolean 1))) c n)) rfl rfl ((dzt_M206 (q_sA r5 15 (upd (r5.1 15) 3 (vp_nar .boolean 1))) c n a1 3).le (Nat.le_of_ble_eq_true rfl)) ?_
        generalize dz_M206 (q_sA r5 15 (upd (r5.1 15) 3 (vp_nar .boolean 1))) a1 3 = r6
        refine q_RT_let ?_
        show q_RT _ _ _ (43, [(0, .ref 64), (1, .int a1)], [.int (q_b r6), .int 2, .ref 79], (q_kM (q_sA r5 15 (upd (r5.1 15) 3 (vp_nar .boolean 1))) c n)) _ _
        cases h4 : r6 with
        | true =>
          refine q_RT_cT ?_
          show q_RT _ _ _ (43, [(0, .ref 64), (1, .int a1)], [.int 1, .int 2, .ref 79], (q_kM (q_sA r5 15 (upd (r5.1 15) 3 (vp_nar .boolean 1))) c n)) _ _
          generalize (q_sA r5 15 (upd (r5.1 15) 3 (vp_nar .boolean 1))) = r7
          refine q_RT_let ?_
          show q_RT _ _ _ (43, [(0, .ref 64), (1, .int a1)], [.int 1, .int 2, .ref 79], (q_kM r7 c n)) _ _
          refine q_RT_seg (g2 := (52, [(0, .ref 64), (1, .int a1)], [.int 6, .int a1, .int 1, .ref 79], (q_kM (q_sA r7 15 (upd (r7.1 15) 2 (vp_nar .boolean 1))) c n))) 6 (fun _ _ => rfl) ?_
          refine q_RT_call (v := (some (.int (q_b (dz_M206 (q_sA r7 15 (upd (r7.1 15) 2 (vp_nar .boolean 1))) a1 6))))) (h2 := (q_kM (q_sA r7 15 (upd (r7.1 15) 2 (vp_nar .boolean 1))) c n)) rfl rfl ((dzt_M206 (q_sA r7 15 (upd (r7.1 15) 2 (vp_nar .boolean 1))) c n a1 6).le (Nat.le_of_ble_eq_true rfl)) ?_
          generalize dz_M206 (q_sA r7 15 (upd (r7.1 15) 2 (vp_nar .boolean 1))) a1 6 = r8
          refine q_RT_let ?_
          show q_RT _ _ _ (55, [(0, .ref 64), (1, .int a1)], [.int (q_b r8), .int 1, .ref 79], (q_kM (q_sA r7 15 (upd (r7.1 15) 2 (vp_nar .boolean 1))) c n)) _ _
          cases h5 : r8 with
          | true =>
            refine q_RT_cT ?_
            show q_RT _ _ _ (55, [(0, .ref 64), (1, .int a1)], [.int 1, .int 1, .ref 79], (q_kM (q_sA r7 15 (upd (r7.1 15) 2 (vp_nar .boolean 1))) c n)) _ _
            generalize (q_sA r7 15 (upd (r7.1 15) 2 (vp_nar .boolean 1))) = r9
            refine q_RT_let ?_
            show q_RT _ _ _ (55, [(0, .ref 64), (1, .int a1)], [.int 1, .int 1, .ref 79], (q_kM r9 c n)) _ _
            refine q_RT_seg (g2 := (64, [(0, .ref 64), (1, .int a1)], [.int 7, .int a1, .int 0, .ref 79], (q_kM (q_sA r9 15 (upd (r9.1 15) 1 (vp_nar .boolean 1))) c n))) 6 (fun _ _ => rfl) ?_
            refine q_RT_call (v := (some (.int (q_b (dz_M206 (q_sA r9 15 (upd (r9.1 15) 1 (vp_nar .boolean 1))) a1 7))))) (h2 := (q_kM (q_sA r9 15 (upd (r9.1 15) 1 (vp_nar .boolean 1))) c n)) rfl rfl ((dzt_M206 (q_sA r9 15 (upd (r9.1 15) 1 (vp_nar .boolean 1))) c n a1 7).le (Nat.le_of_ble_eq_true rfl)) ?_
            generalize dz_M206 (q_sA r9 15 (upd (r9.1 15) 1 (vp_nar .boolean 1))) a1 7 = r10
            refine q_RT_let ?_
            show q_RT _ _ _ (67, [(0, .ref 64), (1, .int a1)], [.int (q_b r10), .int 0, .ref 79], (q_kM (q_sA r9 15 (upd (r9.1 15) 1 (vp_nar .boolean 1))) c n)) _ _
            cases h6 : r10 with
            | true =>
              refine q_RT_cT ?_
              show q_RT _ _ _ (67, [(0, .ref 64), (1, .int a1)], [.int 1, .int 0, .ref 79], (q_kM (q_sA r9 15 (upd (r9.1 15) 1 (vp_nar .boolean 1))) c n)) _ _
              generalize (q_sA r9 15 (upd (r9.1 15) 1 (vp_nar .boolean 1))) = r11
              refine q_RT_let ?_
              show q_RT _ _ _ (67, [(0, .ref 64), (1, .int a1)], [.int 1, .int 0, .ref 79], (q_kM r11 c n)) _ _
              refine q_RT_seg (g2 := (68, [(0, .ref 64), (1, .int a1)], [], (q_kM (q_sA r11 15 (upd (r11.1 15) 0 (vp_nar .boolean 1))) c n))) 1 (fun _ _ => rfl) ?_
              exact q_RT_ret rfl rfl rfl
            | false =>
              refine q_RT_cF ?_
              show q_RT _ _ _ (67, [(0, .ref 64), (1, .int a1)], [.int 0, .int 0, .ref 79], (q_kM (q_sA r9 15 (upd (r9.1 15) 1 (vp_nar .boolean 1))) c n)) _ _
              generalize (q_sA r9 15 (upd (r9.1 15) 1 (vp_nar .boolean 1))) = r12
              refine q_RT_let ?_
              show q_RT _ _ _ (67, [(0, .ref 64), (1, .int a1)], [.int 0, .int 0, .ref 79], (q_kM r12 c n)) _ _
              refine q_RT_seg (g2 := (68, [(0, .ref 64), (1, .int a1)], [], (q_kM (q_sA r12 15 (upd (r12.1 15) 0 (vp_nar .boolean 0))) c n))) 1 (fun _ _ => rfl) ?_
              exact q_RT_ret rfl rfl rfl
          | false =>
            refine q_RT_cF ?_
            show q_RT _ _ _ (55, [(0, .ref 64), (1, .int a1)], [.int 0, .int 1, .ref 79], (q_kM (q_sA r7 15 (upd (r7.1 15) 2 (vp_nar .boolean 1))) c n)) _ _
            generalize (q_sA r7 15 (upd (r7.1 15) 2 (vp_nar .boolean 1))) = r13
            refine q_RT_let ?_
            show q_RT _ _ _ (55, [(0, .ref 64), (1, .int a1)], [.int 0, .int 1, .ref 79], (q_kM r13 c n)) _ _
            refine q_RT_seg (g2 := (64, [(0, .ref 64), (1, .int a1)], [.int 7, .int a1, .int 0, .ref 79], (q_kM (q_sA r13 15 (upd (r13.1 15) 1 (vp_nar .boolean 0))) c n))) 6 (fun _ _ => rfl) ?_
            refine q_RT_call (v := (some (.int (q_b (dz_M206 (q_sA r13 15 (upd (r13.1 15) 1 (vp_nar .boolean 0))) a1 7))))) (h2 := (q_kM (q_sA r13 15 (upd (r13.1 15) 1 (vp_nar .boolean 0))) c n)) rfl rfl ((dzt_M206 (q_sA r13 15 (upd (r13.1 15) 1 (vp_nar .boolean 0))) c n a1 7).le (Nat.le_of_ble_eq_true rfl)) ?_
            generalize dz_M206 (q_sA r13 15 (upd (r13.1 15) 1 (vp_nar .boolean 0))) a1 7 = r14
            refine q_RT_let ?_
            show q_RT _ _ _ (67, [(0, .ref 64), (1, .int a1)], [.int (q_b r14), .int 0, .ref 79], (q_kM (q_sA r13 15 (upd (r13.1 15) 1 (vp_nar .boolean 0))) c n)) _ _
            cases h7 : r14 with
            | true =>
              refine q_RT_cT ?_
              show q_RT _ _ _ (67, [(0, .ref 64), (1, .int a1)], [.int 1, .int 0, .ref 79], (q_kM (q_sA r13 15 (upd (r13.1 15) 1 (vp_nar .boolean 0))) c n)) _ _
              generalize (q_sA r13 15 (upd (r13.1 15) 1 (vp_nar .boolean 0))) = r15
              refine q_RT_let ?_
              show q_RT _ _ _ (67, [(0, .ref 64), (1, .int a1)], [.int 1, .int 0, .ref 79], (q_kM r15 c n)) _ _
              refine q_RT_seg (g2 := (68, [(0, .ref 64), (1, .int a1)], [], (q_kM (q_sA r15 15 (upd (r15.1 15) 0 (vp_nar .boolean 1))) c n))) 1 (fun _ _ => rfl) ?_
              exact q_RT_ret rfl rfl rfl
            | false =>
              refine q_RT_cF ?_
              show q_RT _ _ _ (67, [(0, .ref 64), (1, .int a1)], [.int 0, .int 0, .ref 79], (q_kM (q_sA r13 15 (upd (r13.1 15) 1 (vp_nar .boolean 0))) c n)) _ _
              generalize (q_sA r13 15 (upd (r13.1 15) 1 (vp_nar .boolean 0))) = r16
              refine q_RT_let ?_
              show q_RT _ _ _ (67, [(0, .ref 64), (1, .int a1)], [.int 0, .int 0, .ref 79], (q_kM r16 c n)) _ _
              refine q_RT_seg (g2 := (68, [(0, .ref 64), (1, .int a1)], [], (q_kM (q_sA r16 15 (upd (r16.1 15) 0 (vp_nar .boolean 0))) c n))) 1 (fun _ _ => rfl) ?_
              exact q_RT_ret rfl rfl rfl
        | false =>
          refine q_RT_cF ?_
          show q_RT _ _ _ (43, [(0, .ref 64), (1, .int a1)], [.int 0, .int 2, .ref 79], (q_kM (q_sA r5 15 (upd (r5.1 15) 3 (vp_nar .boolean 1))) c n)) _ _
          generalize (q_sA r5 15 (upd (r5.1 15) 3 (vp_nar .boolean 1))) = r17
          refine q_RT_let ?_
          show q_RT _ _ _ (43, [(0, .ref 64), (1, .int a1)], [.int 0, .int 2, .ref 79], (q_kM r17 c n)) _ _
          refine q_RT_seg (g2 := (52, [(0, .ref 64), (1, .int a1)], [.int 6, .int a1, .int 1, .ref 79], (q_kM (q_sA r17 15 (upd (r17.1 15) 2 (vp_nar .boolean 0))) c n))) 6 (fun _ _ => rfl) ?_
          refine q_RT_call (v := (some (.int (q_b (dz_M206 (q_sA r17 15 (upd (r17.1 15) 2 (vp_nar .boolean 0))) a1 6))))) (h2 := (q_kM (q_sA r17 15 (upd (r17.1 15) 2 (vp_nar .boolean 0))) c n)) rfl rfl ((dzt_M206 (q_sA r17 15 (upd (r17.1 15) 2 (vp_nar .boolean 0))) c n a1 6).le (Nat.le_of_ble_eq_true rfl)) ?_
          generalize dz_M206 (q_sA r17 15 (upd (r17.1 15) 2 (vp_nar .boolean 0))) a1 6 = r18
          refine q_RT_let ?_
          show q_RT _ _ _ (55, [(0, .ref 64), (1, .int a1)], [.int (q_b r18), .int 1, .ref 79], (q_kM (q_sA r17 15 (upd (r17.1 15) 2 (vp_nar .boolean 0))) c n)) _ _
          cases h8 : r18 with
          | true =>
            refine q_RT_cT ?_
            show q_RT _ _ _ (55, [(0, .ref 64), (1, .int a1)], [.int 1, .int 1, .ref 79], (q_kM (q_sA r17 15 (upd (r17.1 15) 2 (vp_nar .boolean 0))) c n)) _ _
            generalize (q_sA r17 15 (upd (r17.1 15) 2 (vp_nar .boolean 0))) = r19
            refine q_RT_let ?_
            show q_RT _ _ _ (55, [(0, .ref 64), (1, .int a1)], [.int 1, .int 1, .ref 79], (q_kM r19 c n)) _ _
            refine q_RT_seg (g2 := (64, [(0, .ref 64), (1, .int a1)], [.int 7, .int a1, .int 0, .ref 79], (q_kM (q_sA r19 15 (upd (r19.1 15) 1 (vp_nar .boolean 1))) c n))) 6 (fun _ _ => rfl) ?_
            refine q_RT_call (v := (some (.int (q_b (dz_M206 (q_sA r19 15 (upd (r19.1 15) 1 (vp_nar .boolean 1))) a1 7))))) (h2 := (q_kM (q_sA r19 15 (upd (r19.1 15) 1 (vp_nar .boolean 1))) c n)) rfl rfl ((dzt_M206 (q_sA r19 15 (upd (r19.1 15) 1 (vp_nar .boolean 1))) c n a1 7).le (Nat.le_of_ble_eq_true rfl)) ?_
            generalize dz_M206 (q_sA r19 15 (upd (r19.1 15) 1 (vp_nar .boolean 1))) a1 7 = r20
            refine q_RT_let ?_
            show q_RT _ _ _ (67, [(0, .ref 64), (1, .int a1)], [.int (q_b r20), .int 0, .ref 79], (q_kM (q_sA r19 15 (upd (r19.1 15) 1 (vp_nar .boolean 1))) c n)) _ _
            cases h9 : r20 with
            | true =>
              refine q_RT_cT ?_
              show q_RT _ _ _ (67, [(0, .ref 64), (1, .int a1)], [.int 1, .int 0, .ref 79], (q_kM (q_sA r19 15 (upd (r19.1 15) 1 (vp_nar .boolean 1))) c n)) _ _
              generalize (q_sA r19 15 (upd (r19.1 15) 1 (vp_nar .boolean 1))) = r21
              refine q_RT_let ?_
              show q_RT _ _ _ (67, [(0, .ref 64), (1, .int a1)], [.int 1, .int 0, .ref 79], (q_kM r21 c n)) _ _
              refine q_RT_seg (g2 := (68, [(0, .ref 64), (1, .int a1)], [], (q_kM (q_sA r21 15 (upd (r21.1 15) 0 (vp_nar .boolean 1))) c n))) 1 (fun _ _ => rfl) ?_
              exact q_RT_ret rfl rfl rfl
            | false =>
              refine q_RT_cF ?_
              show q_RT _ _ _ (67, [(0, .ref 64), (1, .int a1)], [.int 0, .int 0, .ref 79], (q_kM (q_sA r19 15 (upd (r19.1 15) 1 (vp_nar .boolean 1))) c n)) _ _
              generalize (q_sA r19 15 (upd (r19.1 15) 1 (vp_nar .boolean 1))) = r22
              refine q_RT_let ?_
              show q_RT _ _ _ (67, [(0, .ref 64), (1, .int a1)], [.int 0, .int 0, .ref 79], (q_kM r22 c n)) _ _
              refine q_RT_seg (g2 := (68, [(0, .ref 64), (1, .int a1)], [], (q_kM (q_sA r22 15 (upd (r22.1 15) 0 (vp_nar .boolean 0))) c n))) 1 (fun _ _ => rfl) ?_
              exact q_RT_ret rfl rfl rfl
          | false =>
            refine q_RT_cF ?_
            show q_RT _ _ _ (55, [(0, .ref 64), (1, .int a1)], [.int 0, .int 1, .ref 79], (q_kM (q_sA r17 15 (upd (r17.1 15) 2 (vp_nar .boolean 0))) c n)) _ _
            generalize (q_sA r17 15 (upd (r17.1 15) 2 (vp_nar .boolean 0))) = r23
            refine q_RT_let ?_
            show q_RT _ _ _ (55, [(0, .ref 64), (1, .int a1)], [.int 0, .int 1, .ref 79], (q_kM r23 c n)) _ _
            refine q_RT_seg (g2 := (64, [(0, .ref 64), (1, .int a1)], [.int 7, .int a1, .int 0, .ref 79], (q_kM (q_sA r23 15 (upd (r23.1 15) 1 (vp_nar .boolean 0))) c n))) 6 (fun _ _ => rfl) ?_
            refine q_RT_call (v := (some (.int (q_b (dz_M206 (q_sA r23 15 (upd (r23.1 15) 1 (vp_nar .boolean 0))) a1 7))))) (h2 := (q_kM (q_sA r23 15 (upd (r23.1 15) 1 (vp_nar .boolean 0))) c n)) rfl rfl ((dzt_M206 (q_sA r23 15 (upd (r23.1 15) 1 (vp_nar .boolean 0))) c n a1 7).le (Nat.le_of_ble_eq_true rfl)) ?_
            generalize dz_M206 (q_sA r23 15 (upd (r23.1 15) 1 (vp_nar .boolean 0))) a1 7 = r24
            refine q_RT_let ?_
            show q_RT _ _ _ (67, [(0, .ref 64), (1, .int a1)], [.int (q_b r24), .int 0, .ref 79], (q_kM (q_sA r23 15 (upd (r23.1 15) 1 (vp_nar .boolean 0))) c n)) _ _
            cases h10 : r24 with
            | true =>
              refine q_RT_cT ?_
              show q_RT _ _ _ (67, [(0, .ref 64), (1, .int a1)], [.int 1, .int 0, .ref 79], (q_kM (q_sA r23 15 (upd (r23.1 15) 1 (vp_nar .boolean 0))) c n)) _ _
              generalize (q_sA r23 15 (upd (r23.1 15) 1 (vp_nar .boolean 0))) = r25
              refine q_RT_let ?_
              show q_RT _ _ _ (67, [(0, .ref 64), (1, .int a1)], [.int 1, .int 0, .ref 79], (q_kM r25 c n)) _ _
              refine q_RT_seg (g2 := (68, [(0, .ref 64), (1, .int a1)], [], (q_kM (q_sA r25 15 (upd (r25.1 15) 0 (vp_nar .boolean 1))) c n))) 1 (fun _ _ => rfl) ?_
              exact q_RT_ret rfl rfl rfl
            | false =>
              refine q_RT_cF ?_
              show q_RT _ _ _ (67, [(0, .ref 64), (1, .int a1)], [.int 0, .int 0, .ref 79], (q_kM (q_sA r23 15 (upd (r23.1 15) 1 (vp_nar .boolean 0))) c n)) _ _
              generalize (q_sA r23 15 (upd (r23.1 15) 1 (vp_nar .boolean 0))) = r26
              refine q_RT_let ?_
              show q_RT _ _ _ (67, [(0, .ref 64), (1, .int a1)], [.int 0, .int 0, .ref 79], (q_kM r26 c n)) _ _
              refine q_RT_seg (g2 := (68, [(0, .ref 64), (1, .int a1)], [], (q_kM (q_sA r26 15 (upd (r26.1 15) 0 (vp_nar .boolean 0))) c n))) 1 (fun _ _ => rfl) ?_
              exact q_RT_ret rfl rfl rfl
      | false =>
        refine q_RT_cF ?_
        show q_RT _ _ _ (32, [(0, .ref 64), (1, .int a1)], [.int 0, .int 3, .ref 79], (q_kM (q_sA r3 15 (upd (r3.1 15) 4 (vp_nar .boolean 1))) c n)) _ _
        generalize (q_sA r3 15 (upd (r3.1 15) 4 (vp_nar .boolean 1))) = r27
        refine q_RT_let ?_
        show q_RT _ _ _ (32, [(0, .ref 64), (1, .int a1)], [.int 0, .int 3, .ref 79], (q_kM r27 c n)) _ _
        refine q_RT_seg (g2 := (40, [(0, .ref 64), (1, .int a1)], [.int 3, .int a1, .int 2, .ref 79], (q_kM (q_sA r27 15 (upd (r27.1 15) 3 (vp_nar .boolean 0))) c n))) 6 (fun _ _ => rfl) ?_
        refine q_RT_call (v := (some (.int (q_b (dz_M206 (q_sA r27 15 (upd (r27.1 15) 3 (vp_nar .boolean 0))) a1 3))))) (h2 := (q_kM (q_sA r27 15 (upd (r27.1 15) 3 (vp_nar .boolean 0))) c n)) rfl rfl ((dzt_M206 (q_sA r27 15 (upd (r27.1 15) 3 (vp_nar .boolean 0))) c n a1 3).le (Nat.le_of_ble_eq_true rfl)) ?_
        generalize dz_M206 (q_sA r27 15 (upd (r27.1 15) 3 (vp_nar .boolean 0))) a1 3 = r28
        refine q_RT_let ?_
        show q_RT _ _ _ (43, [(0, .ref 64), (1, .int a1)], [.int (q_b r28), .int 2, .ref 79], (q_kM (q_sA r27 15 (upd (r27.1 15) 3 (vp_nar .boolean 0))) c n)) _ _
        cases h11 : r28 with
        | true =>
          refine q_RT_cT ?_
          show q_RT _ _ _ (43, [(0, .ref 64), (1, .int a1)], [.int 1, .int 2, .ref 79], (q_kM (q_sA r27 15 (upd (r27.1 15) 3 (vp_nar .boolean 0))) c n)) _ _
          generalize (q_sA r27 15 (upd (r27.1 15) 3 (vp_nar .boolean 0))) = r29
          refine q_RT_let ?_
          show q_RT _ _ _ (43, [(0, .ref 64), (1, .int a1)], [.int 1, .int 2, .ref 79], (q_kM r29 c n)) _ _
          refine q_RT_seg (g2 := (52, [(0, .ref 64), (1, .int a1)], [.int 6, .int a1, .int 1, .ref 79], (q_kM (q_sA r29 15 (upd (r29.1 15) 2 (vp_nar .boolean 1))) c n))) 6 (fun _ _ => rfl) ?_
          refine q_RT_call (v := (some (.int (q_b (dz_M206 (q_sA r29 15 (upd (r29.1 15) 2 (vp_nar .boolean 1))) a1 6))))) (h2 := (q_kM (q_sA r29 15 (upd (r29.1 15) 2 (vp_nar .boolean 1))) c n)) rfl rfl ((dzt_M206 (q_sA r29 15 (upd (r29.1 15) 2 (vp_nar .boolean 1))) c n a1 6).le (Nat.le_of_ble_eq_true rfl)) ?_
          generalize dz_M206 (q_sA r29 15 (upd (r29.1 15) 2 (vp_nar .boolean 1))) a1 6 = r30
          refine q_RT_let ?_
          show q_RT _ _ _ (55, [(0, .ref 64), (1, .int a1)], [.int (q_b r30), .int 1, .ref 79], (q_kM (q_sA r29 15 (upd (r29.1 15) 2 (vp_nar .boolean 1))) c n)) _ _
          cases h12 : r30 with
          | true =>
            refine q_RT_cT ?_
            show q_RT _ _ _ (55, [(0, .ref 64), (1, .int a1)], [.int 1, .int 1, .ref 79], (q_kM (q_sA r29 15 (upd (r29.1 15) 2 (vp_nar .boolean 1))) c n)) _ _
            generalize (q_sA r29 15 (upd (r29.1 15) 2 (vp_nar .boolean 1))) = r31
            refine q_RT_let ?_
            show q_RT _ _ _ (55, [(0, .ref 64), (1, .int a1)], [.int 1, .int 1, .ref 79], (q_kM r31 c n)) _ _
            refine q_RT_seg (g2 := (64, [(0, .ref 64), (1, .int a1)], [.int 7, .int a1, .int 0, .ref 79], (q_kM (q_sA r31 15 (upd (r31.1 15) 1 (vp_nar .boolean 1))) c n))) 6 (fun _ _ => rfl) ?_
            refine q_RT_call (v := (some (.int (q_b (dz_M206 (q_sA r31 15 (upd (r31.1 15) 1 (vp_nar .boolean 1))) a1 7))))) (h2 := (q_kM (q_sA r31 15 (upd (r31.1 15) 1 (vp_nar .boolean 1))) c n)) rfl rfl ((dzt_M206 (q_sA r31 15 (upd (r31.1 15) 1 (vp_nar .boolean 1))) c n a1 7).le (Nat.le_of_ble_eq_true rfl)) ?_
            generalize dz_M206 (q_sA r31 15 (upd (r31.1 15) 1 (vp_nar .boolean 1))) a1 7 = r32
            refine q_RT_let ?_
            show q_RT _ _ _ (67, [(0, .ref 64), (1, .int a1)], [.int (q_b r32), .int 0, .ref 79], (q_kM (q_sA r31 15 (upd (r31.1 15) 1 (vp_nar .boolean 1))) c n)) _ _
            cases h13 : r32 with
            | true =>
              refine q_RT_cT ?_
              show q_RT _ _ _ (67, [(0, .ref 64), (1, .int a1)], [.int 1, .int 0, .ref 79], (q_kM (q_sA r31 15 (upd (r31.1 15) 1 (vp_nar .boolean 1))) c n)) _ _
              generalize (q_sA r31 15 (upd (r31.1 15) 1 (vp_nar .boolean 1))) = r33
              refine q_RT_let ?_
              show q_RT _ _ _ (67, [(0, .ref 64), (1, .int a1)], [.int 1, .int 0, .ref 79], (q_kM r33 c n)) _ _
              refine q_RT_seg (g2 := (68, [(0, .ref 64), (1, .int a1)], [], (q_kM (q_sA r33 15 (upd (r33.1 15) 0 (vp_nar .boolean 1))) c n))) 1 (fun _ _ => rfl) ?_
              exact q_RT_ret rfl rfl rfl
            | false =>
              refine q_RT_cF ?_
              show q_RT _ _ _ (67, [(0, .ref 64), (1, .int a1)], [.int 0, .int 0, .ref 79], (q_kM (q_sA r31 15 (upd (r31.1 15) 1 (vp_nar .boolean 1))) c n)) _ _
              generalize (q_sA r31 15 (upd (r31.1 15) 1 (vp_nar .boolean 1))) = r34
              refine q_RT_let ?_
              show q_RT _ _ _ (67, [(0, .ref 64), (1, .int a1)], [.int 0, .int 0, .ref 79], (q_kM r34 c n)) _ _
              refine q_RT_seg (g2 := (68, [(0, .ref 64), (1, .int a1)], [], (q_kM (q_sA r34 15 (upd (r34.1 15) 0 (vp_nar .boolean 0))) c n))) 1 (fun _ _ => rfl) ?_
              exact q_RT_ret rfl rfl rfl
          | false =>
            refine q_RT_cF ?_
            show q_RT _ _ _ (55, [(0, .ref 64), (1, .int a1)], [.int 0, .int 1, .ref 79], (q_kM (q_sA r29 15 (upd (r29.1 15) 2 (vp_nar .boolean 1))) c n)) _ _
            generalize (q_sA r29 15 (upd (r29.1 15) 2 (vp_nar .boolean 1))) = r35
            refine q_RT_let ?_
            show q_RT _ _ _ (55, [(0, .ref 64), (1, .int a1)], [.int 0, .int 1, .ref 79], (q_kM r35 c n)) _ _
            refine q_RT_seg (g2 := (64, [(0, .ref 64), (1, .int a1)], [.int 7, .int a1, .int 0, .ref 79], (q_kM (q_sA r35 15 (upd (r35.1 15) 1 (vp_nar .boolean 0))) c n))) 6 (fun _ _ => rfl) ?_
            refine q_RT_call (v := (some (.int (q_b (dz_M206 (q_sA r35 15 (upd (r35.1 15) 1 (vp_nar .boolean 0))) a1 7))))) (h2 := (q_kM (q_sA r35 15 (upd (r35.1 15) 1 (vp_nar .boolean 0))) c n)) rfl rfl ((dzt_M206 (q_sA r35 15 (upd (r35.1 15) 1 (vp_nar .boolean 0))) c n a1 7).le (Nat.le_of_ble_eq_true rfl)) ?_
            generalize dz_M206 (q_sA r35 15 (upd (r35.1 15) 1 (vp_nar .boolean 0))) a1 7 = r36
            refine q_RT_let ?_
            show q_RT _ _ _ (67, [(0, .ref 64), (1, .int a1)], [.int (q_b r36), .int 0, .ref 79], (q_kM (q_sA r35 15 (upd (r35.1 15) 1 (vp_nar .boolean 0))) c n)) _ _
            cases h14 : r36 with
            | true =>
              refine q_RT_cT ?_
              show q_RT _ _ _ (67, [(0, .ref 64), (1, .int a1)], [.int 1, .int 0, .ref 79], (q_kM (q_sA r35 15 (upd (r35.1 15) 1 (vp_nar .boolean 0))) c n)) _ _
              generalize (q_sA r35 15 (upd (r35.1 15) 1 (vp_nar .boolean 0))) = r37
              refine q_RT_let ?_
              show q_RT _ _ _ (67, [(0, .ref 64), (1, .int a1)], [.int 1, .int 0, .ref 79], (q_kM r37 c n)) _ _
              refine q_RT_seg (g2 := (68, [(0, .ref 64), (1, .int a1)], [], (q_kM (q_sA r37 15 (upd (r37.1 15) 0 (vp_nar .boolean 1))) c n))) 1 (fun _ _ => rfl) ?_
              exact q_RT_ret rfl rfl rfl
            | false =>
              refine q_RT_cF ?_
              show q_RT _ _ _ (67, [(0, .ref 64), (1, .int a1)], [.int 0, .int 0, .ref 79], (q_kM (q_sA r35 15 (upd (r35.1 15) 1 (vp_nar .boolean 0))) c n)) _ _
              generalize (q_sA r35 15 (upd (r35.1 15) 1 (vp_nar .boolean 0))) = r38
              refine q_RT_let ?_
              show q_RT _ _ _ (67, [(0, .ref 64), (1, .int a1)], [.int 0, .int 0, .ref 79], (q_kM r38 c n)) _ _
              refine q_RT_seg (g2 := (68, [(0, .ref 64), (1, .int a1)], [], (q_kM (q_sA r38 15 (upd (r38.1 15) 0 (vp_nar .boolean 0))) c n))) 1 (fun _ _ => rfl) ?_
              exact q_RT_ret rfl rfl rfl
        | false =>
          refine q_RT_cF ?_
          show q_RT _ _ _ (43, [(0, .ref 64), (1, .int a1)], [.int 0, .int 2, .ref 79], (q_kM (q_sA r27 15 (upd (r27.1 15) 3 (vp_nar .boolean 0))) c n)) _ _
          generalize (q_sA r27 15 (upd (r27.1 15) 3 (vp_nar .boolean 0))) = r39
          refine q_RT_let ?_
          show q_RT _ _ _ (43, [(0, .ref 64), (1, .int a1)], [.int 0, .int 2, .ref 79], (q_kM r39 c n)) _ _
          refine q_RT_seg (g2 := (52, [(0, .ref 64), (1, .int a1)], [.int 6, .int a1, .int 1, .ref 79], (q_kM (q_sA r39 15 (upd (r39.1 15) 2 (vp_nar .boolean 0))) c n))) 6 (fun _ _ => rfl) ?_
          refine q_RT_call (v := (some (.int (q_b (dz_M206 (q_sA r39 15 (upd (r39.1 15) 2 (vp_nar .boolean 0))) a1 6))))) (h2 := (q_kM (q_sA r39 15 (upd (r39.1 15) 2 (vp_nar .boolean 0))) c n)) rfl rfl ((dzt_M206 (q_sA r39 15 (upd (r39.1 15) 2 (vp_nar .boolean 0))) c n a1 6).le (Nat.le_of_ble_eq_true rfl)) ?_
          generalize dz_M206 (q_sA r39 15 (upd (r39.1 15) 2 (vp_nar .boolean 0))) a1 6 = r40
          refine q_RT_let ?_
          show q_RT _ _ _ (55, [(0, .ref 64), (1, .int a1)], [.int (q_b r40), .int 1, .ref 79], (q_kM (q_sA r39 15 (upd (r39.1 15) 2 (vp_nar .boolean 0))) c n)) _ _
          cases h15 : r40 with
          | true =>
            refine q_RT_cT ?_
            show q_RT _ _ _ (55, [(0, .ref 64), (1, .int a1)], [.int 1, .int 1, .ref 79], (q_kM (q_sA r39 15 (upd (r39.1 15) 2 (vp_nar .boolean 0))) c n)) _ _
            generalize (q_sA r39 15 (upd (r39.1 15) 2 (vp_nar .boolean 0))) = r41
            refine q_RT_let ?_
            show q_RT _ _ _ (55, [(0, .ref 64), (1, .int a1)], [.int 1, .int 1, .ref 79], (q_kM r41 c n)) _ _
            refine q_RT_seg (g2 := (64, [(0, .ref 64), (1, .int a1)], [.int 7, .int a1, .int 0, .ref 79], (q_kM (q_sA r41 15 (upd (r41.1 15) 1 (vp_nar .boolean 1))) c n))) 6 (fun _ _ => rfl) ?_
            refine q_RT_call (v := (some (.int (q_b (dz_M206 (q_sA r41 15 (upd (r41.1 15) 1 (vp_nar .boolean 1))) a1 7))))) (h2 := (q_kM (q_sA r41 15 (upd (r41.1 15) 1 (vp_nar .boolean 1))) c n)) rfl rfl ((dzt_M206 (q_sA r41 15 (upd (r41.1 15) 1 (vp_nar .boolean 1))) c n a1 7).le (Nat.le_of_ble_eq_true rfl)) ?_
            generalize dz_M206 (q_sA r41 15 (upd (r41.1 15) 1 (vp_nar .boolean 1))) a1 7 = r42
            refine q_RT_let ?_
            show q_RT _ _ _ (67, [(0, .ref 64), (1, .int a1)], [.int (q_b r42), .int 0, .ref 79], (q_kM (q_sA r41 15 (upd (r41.1 15) 1 (vp_nar .boolean 1))) c n)) _ _
            cases h16 : r42 with
            | true =>
              refine q_RT_cT ?_
              show q_RT _ _ _ (67, [(0, .ref 64), (1, .int a1)], [.int 1, .int 0, .ref 79], (q_kM (q_sA r41 15 (upd (r41.1 15) 1 (vp_nar .boolean 1))) c n)) _ _
              generalize (q_sA r41 15 (upd (r41.1 15) 1 (vp_nar .boolean 1))) = r43
              refine q_RT_let ?_
              show q_RT _ _ _ (67, [(0, .ref 64), (1, .int a1)], [.int 1, .int 0, .ref 79], (q_kM r43 c n)) _ _
              refine q_RT_seg (g2 := (68, [(0, .ref 64), (1, .int a1)], [], (q_kM (q_sA r43 15 (upd (r43.1 15) 0 (vp_nar .boolean 1))) c n))) 1 (fun _ _ => rfl) ?_
              exact q_RT_ret rfl rfl rfl
            | false =>
              refine q_RT_cF ?_
              show q_RT _ _ _ (67, [(0, .ref 64), (1, .int a1)], [.int 0, .int 0, .ref 79], (q_kM (q_sA r41 15 (upd (r41.1 15) 1 (vp_nar .boolean 1))) c n)) _ _
              generalize (q_sA r41 15 (upd (r41.1 15) 1 (vp_nar .boolean 1))) = r44
              refine q_RT_let ?_
              show q_RT _ _ _ (67, [(0, .ref 64), (1, .int a1)], [.int 0, .int 0, .ref 79], (q_kM r44 c n)) _ _
              refine q_RT_seg (g2 := (68, [(0, .ref 64), (1, .int a1)], [], (q_kM (q_sA r44 15 (upd (r44.1 15) 0 (vp_nar .boolean 0))) c n))) 1 (fun _ _ => rfl) ?_
              exact q_RT_ret rfl rfl rfl
          | false =>
            refine q_RT_cF ?_
            show q_RT _ _ _ (55, [(0, .ref 64), (1, .int a1)], [.int 0, .int 1, .ref 79], (q_kM (q_sA r39 15 (upd (r39.1 15) 2 (vp_nar .boolean 0))) c n)) _ _
            generalize (q_sA r39 15 (upd (r39.1 15) 2 (vp_nar .boolean 0))) = r45
            refine q_RT_let ?_
            show q_RT _ _ _ (55, [(0, .ref 64), (1, .int a1)], [.int 0, .int 1, .ref 79], (q_kM r45 c n)) _ _
            refine q_RT_seg (g2 := (64, [(0, .ref 64), (1, .int a1)], [.int 7, .int a1, .int 0, .ref 79], (q_kM (q_sA r45 15 (upd (r45.1 15) 1 (vp_nar .boolean 0))) c n))) 6 (fun _ _ => rfl) ?_
            refine q_RT_call (v := (some (.int (q_b (dz_M206 (q_sA r45 15 (upd (r45.1 15) 1 (vp_nar .boolean 0))) a1 7))))) (h2 := (q_kM (q_sA r45 15 (upd (r45.1 15) 1 (vp_nar .boolean 0))) c n)) rfl rfl ((dzt_M206 (q_sA r45 15 (upd (r45.1 15) 1 (vp_nar .boolean 0))) c n a1 7).le (Nat.le_of_ble_eq_true rfl)) ?_
            generalize dz_M206 (q_sA r45 15 (upd (r45.1 15) 1 (vp_nar .boolean 0))) a1 7 = r46
            refine q_RT_let ?_
            show q_RT _ _ _ (67, [(0, .ref 64), (1, .int a1)], [.int (q_b r46), .int 0, .ref 79], (q_kM (q_sA r45 15 (upd (r45.1 15) 1 (vp_nar .boolean 0))) c n)) _ _
            cases h17 : r46 with
            | true =>
              refine q_RT_cT ?_
              show q_RT _ _ _ (67, [(0, .ref 64), (1, .int a1)], [.int 1, .int 0, .ref 79], (q_kM (q_sA r45 15 (upd (r45.1 15) 1 (vp_nar .boolean 0))) c n)) _ _
              generalize (q_sA r45 15 (upd (r45.1 15) 1 (vp_nar .boolean 0))) = r47
              refine q_RT_let ?_
              show q_RT _ _ _ (67, [(0, .ref 64), (1, .int a1)], [.int 1, .int 0, .ref 79], (q_kM r47 c n)) _ _
              refine q_RT_seg (g2 := (68, [(0, .ref 64), (1, .int a1)], [], (q_kM (q_sA r47 15 (upd (r47.1 15) 0 (vp_nar .boolean 1))) c n))) 1 (fun _ _ => rfl) ?_
              exact q_RT_ret rfl rfl rfl
            | false =>
              refine q_RT_cF ?_
              show q_RT _ _ _ (67, [(0, .ref 64), (1, .int a1)], [.int 0, .int 0, .ref 79], (q_kM (q_sA r45 15 (upd (r45.1 15) 1 (vp_nar .boolean 0))) c n)) _ _
              generalize (q_sA r45 15 (upd (r45.1 15) 1 (vp_nar .boolean 0))) = r48
              refine q_RT_let ?_
              show q_RT _ _ _ (67, [(0, .ref 64), (1, .int a1)], [.int 0, .int 0, .ref 79], (q_kM r48 c n)) _ _
              refine q_RT_seg (g2 := (68, [(0, .ref 64), (1, .int a1)], [], (q_kM (q_sA r48 15 (upd (r48.1 15) 0 (vp_nar .boolean 0))) c n))) 1 (fun _ _ => rfl) ?_
              exact q_RT_ret rfl rfl rfl
    | false =>
      refine q_RT_cF ?_
      show q_RT _ _ _ (21, [(0, .ref 64), (1, .int a1)], [.int 0, .int 4, .ref 79], (q_kM (q_sA s 15 (upd (s.1 15) 5 (vp_nar .boolean 1))) c n)) _ _
      generalize (q_sA s 15 (upd (s.1 15) 5 (vp_nar .boolean 1))) = r49
      refine q_RT_let ?_
      show q_RT _ _ _ (21, [(0, .ref 64), (1, .int a1)], [.int 0, .int 4, .ref 79], (q_kM r49 c n)) _ _
      refine q_RT_seg (g2 := (29, [(0, .ref 64), (1, .int a1)], [.int 2, .int a1, .int 3, .ref 79], (q_kM (q_sA r49 15 (upd (r49.1 15) 4 (vp_nar .boolean 0))) c n))) 6 (fun _ _ => rfl) ?_
      refine q_RT_call (v := (some (.int (q_b (dz_M206 (q_sA r49 15 (upd (r49.1 15) 4 (vp_nar .boolean 0))) a1 2))))) (h2 := (q_kM (q_sA r49 15 (upd (r49.1 15) 4 (vp_nar .boolean 0))) c n)) rfl rfl ((dzt_M206 (q_sA r49 15 (upd (r49.1 15) 4 (vp_nar .boolean 0))) c n a1 2).le (Nat.le_of_ble_eq_true rfl)) ?_
      generalize dz_M206 (q_sA r49 15 (upd (r49.1 15) 4 (vp_nar .boolean 0))) a1 2 = r50
      refine q_RT_let ?_
      show q_RT _ _ _ (32, [(0, .ref 64), (1, .int a1)], [.int (q_b r50), .int 3, .ref 79], (q_kM (q_sA r49 15 (upd (r49.1 15) 4 (vp_nar .boolean 0))) c n)) _ _
      cases h18 : r50 with
      | true =>
        refine q_RT_cT ?_
        show q_RT _ _ _ (32, [(0, .ref 64), (1, .int a1)], [.int 1, .int 3, .ref 79], (q_kM (q_sA r49 15 (upd (r49.1 15) 4 (vp_nar .boolean 0))) c n)) _ _
        generalize (q_sA r49 15 (upd (r49.1 15) 4 (vp_nar .boolean 0))) = r51
        refine q_RT_let ?_
        show q_RT _ _ _ (32, [(0, .ref 64), (1, .int a1)], [.int 1, .int 3, .ref 79], (q_kM r51 c n)) _ _
        refine q_RT_seg (g2 := (40, [(0, .ref 64), (1, .int a1)], [.int 3, .int a1, .int 2, .ref 79], (q_kM (q_sA r51 15 (upd (r51.1 15) 3 (vp_nar .boolean 1))) c n))) 6 (fun _ _ => rfl) ?_
        refine q_RT_call (v := (some (.int (q_b (dz_M206 (q_sA r51 15 (upd (r51.1 15) 3 (vp_nar .boolean 1))) a1 3))))) (h2 := (q_kM (q_sA r51 15 (upd (r51.1 15) 3 (vp_nar .boolean 1))) c n)) rfl rfl ((dzt_M206 (q_sA r51 15 (upd (r51.1 15) 3 (vp_nar .boolean 1))) c n a1 3).le (Nat.le_of_ble_eq_true rfl)) ?_
        generalize dz_M206 (q_sA r51 15 (upd (r51.1 15) 3 (vp_nar .boolean 1))) a1 3 = r52
        refine q_RT_let ?_
        show q_RT _ _ _ (43, [(0, .ref 64), (1, .int a1)], [.int (q_b r52), .int 2, .ref 79], (q_kM (q_sA r51 15 (upd (r51.1 15) 3 (vp_nar .boolean 1))) c n)) _ _
        cases h19 : r52 with
        | true =>
          refine q_RT_cT ?_
          show q_RT _ _ _ (43, [(0, .ref 64), (1, .int a1)], [.int 1, .int 2, .ref 79], (q_kM (q_sA r51 15 (upd (r51.1 15) 3 (vp_nar .boolean 1))) c n)) _ _
          generalize (q_sA r51 15 (upd (r51.1 15) 3 (vp_nar .boolean 1))) = r53
          refine q_RT_let ?_
          show q_RT _ _ _ (43, [(0, .ref 64), (1, .int a1)], [.int 1, .int 2, .ref 79], (q_kM r53 c n)) _ _
          refine q_RT_seg (g2 := (52, [(0, .ref 64), (1, .int a1)], [.int 6, .int a1, .int 1, .ref 79], (q_kM (q_sA r53 15 (upd (r53.1 15) 2 (vp_nar .boolean 1))) c n))) 6 (fun _ _ => rfl) ?_
          refine q_RT_call (v := (some (.int (q_b (dz_M206 (q_sA r53 15 (upd (r53.1 15) 2 (vp_nar .boolean 1))) a1 6))))) (h2 := (q_kM (q_sA r53 15 (upd (r53.1 15) 2 (vp_nar .boolean 1))) c n)) rfl rfl ((dzt_M206 (q_sA r53 15 (upd (r53.1 15) 2 (vp_nar .boolean 1))) c n a1 6).le (Nat.le_of_ble_eq_true rfl)) ?_
          generalize dz_M206 (q_sA r53 15 (upd (r53.1 15) 2 (vp_nar .boolean 1))) a1 6 = r54
          refine q_RT_let ?_
          show q_RT _ _ _ (55, [(0, .ref 64), (1, .int a1)], [.int (q_b r54), .int 1, .ref 79], (q_kM (q_sA r53 15 (upd (r53.1 15) 2 (vp_nar .boolean 1))) c n)) _ _
          cases h20 : r54 with
          | true =>
            refine q_RT_cT ?_
            show q_RT _ _ _ (55, [(0, .ref 64), (1, .int a1)], [.int 1, .int 1, .ref 79], (q_kM (q_sA r53 15 (upd (r53.1 15) 2 (vp_nar .boolean 1))) c n)) _ _
            generalize (q_sA r53 15 (upd (r53.1 15) 2 (vp_nar .boolean 1))) = r55
            refine q_RT_let ?_
            show q_RT _ _ _ (55, [(0, .ref 64), (1, .int a1)], [.int 1, .int 1, .ref 79], (q_kM r55 c n)) _ _
            refine q_RT_seg (g2 := (64, [(0, .ref 64), (1, .int a1)], [.int 7, .int a1, .int 0, .ref 79], (q_kM (q_sA r55 15 (upd (r55.1 15) 1 (vp_nar .boolean 1))) c n))) 6 (fun _ _ => rfl) ?_
            refine q_RT_call (v := (some (.int (q_b (dz_M206 (q_sA r55 15 (upd (r55.1 15) 1 (vp_nar .boolean 1))) a1 7))))) (h2 := (q_kM (q_sA r55 15 (upd (r55.1 15) 1 (vp_nar .boolean 1))) c n)) rfl rfl ((dzt_M206 (q_sA r55 15 (upd (r55.1 15) 1 (vp_nar .boolean 1))) c n a1 7).le (Nat.le_of_ble_eq_true rfl)) ?_
            generalize dz_M206 (q_sA r55 15 (upd (r55.1 15) 1 (vp_nar .boolean 1))) a1 7 = r56
            refine q_RT_let ?_
            show q_RT _ _ _ (67, [(0, .ref 64), (1, .int a1)], [.int (q_b r56), .int 0, .ref 79], (q_kM (q_sA r55 15 (upd (r55.1 15) 1 (vp_nar .boolean 1))) c n)) _ _
            cases h21 : r56 with
            | true =>
              refine q_RT_cT ?_
              show q_RT _ _ _ (67, [(0, .ref 64), (1, .int a1)], [.int 1, .int 0, .ref 79], (q_kM (q_sA r55 15 (upd (r55.1 15) 1 (vp_nar .boolean 1))) c n)) _ _
              generalize (q_sA r55 15 (upd (r55.1 15) 1 (vp_nar .boolean 1))) = r57
              refine q_RT_let ?_
              show q_RT _ _ _ (67, [(0, .ref 64), (1, .int a1)], [.int 1, .int 0, .ref 79], (q_kM r57 c n)) _ _
              refine q_RT_seg (g2 := (68, [(0, .ref 64), (1, .int a1)], [], (q_kM (q_sA r57 15 (upd (r57.1 15) 0 (vp_nar .boolean 1))) c n))) 1 (fun _ _ => rfl) ?_
              exact q_RT_ret rfl rfl rfl
            | false =>
              refine q_RT_cF ?_
              show q_RT _ _ _ (67, [(0, .ref 64), (1, .int a1)], [.int 0, .int 0, .ref 79], (q_kM (q_sA r55 15 (upd (r55.1 15) 1 (vp_nar .boolean 1))) c n)) _ _
              generalize (q_sA r55 15 (upd (r55.1 15) 1 (vp_nar .boolean 1))) = r58
              refine q_RT_let ?_
              show q_RT _ _ _ (67, [(0, .ref 64), (1, .int a1)], [.int 0, .int 0, .ref 79], (q_kM r58 c n)) _ _
              refine q_RT_seg (g2 := (68, [(0, .ref 64), (1, .int a1)], [], (q_kM (q_sA r58 15 (upd (r58.1 15) 0 (vp_nar .boolean 0))) c n))) 1 (fun _ _ => rfl) ?_
              exact q_RT_ret rfl rfl rfl
          | false =>
            refine q_RT_cF ?_
            show q_RT _ _ _ (55, [(0, .ref 64), (1, .int a1)], [.int 0, .int 1, .ref 79], (q_kM (q_sA r53 15 (upd (r53.1 15) 2 (vp_nar .boolean 1))) c n)) _ _
            generalize (q_sA r53 15 (upd (r53.1 15) 2 (vp_nar .boolean 1))) = r59
            refine q_RT_let ?_
            show q_RT _ _ _ (55, [(0, .ref 64), (1, .int a1)], [.int 0, .int 1, .ref 79], (q_kM r59 c n)) _ _
            refine q_RT_seg (g2 := (64, [(0, .ref 64), (1, .int a1)], [.int 7, .int a1, .int 0, .ref 79], (q_kM (q_sA r59 15 (upd (r59.1 15) 1 (vp_nar .boolean 0))) c n))) 6 (fun _ _ => rfl) ?_
            refine q_RT_call (v := (some (.int (q_b (dz_M206 (q_sA r59 15 (upd (r59.1 15) 1 (vp_nar .boolean 0))) a1 7))))) (h2 := (q_kM (q_sA r59 15 (upd (r59.1 15) 1 (vp_nar .boolean 0))) c n)) rfl rfl ((dzt_M206 (q_sA r59 15 (upd (r59.1 15) 1 (vp_nar .boolean 0))) c n a1 7).le (Nat.le_of_ble_eq_true rfl)) ?_
            generalize dz_M206 (q_sA r59 15 (upd (r59.1 15) 1 (vp_nar .boolean 0))) a1 7 = r60
            refine q_RT_let ?_
            show q_RT _ _ _ (67, [(0, .ref 64), (1, .int a1)], [.int (q_b r60), .int 0, .ref 79], (q_kM (q_sA r59 15 (upd (r59.1 15) 1 (vp_nar .boolean 0))) c n)) _ _
            cases h22 : r60 with
            | true =>
              refine q_RT_cT ?_
              show q_RT _ _ _ (67, [(0, .ref 64), (1, .int a1)], [.int 1, .int 0, .ref 79], (q_kM (q_sA r59 15 (upd (r59.1 15) 1 (vp_nar .boolean 0))) c n)) _ _
              generalize (q_sA r59 15 (upd (r59.1 15) 1 (vp_nar .boolean 0))) = r61
              refine q_RT_let ?_
              show q_RT _ _ _ (67, [(0, .ref 64), (1, .int a1)], [.int 1, .int 0, .ref 79], (q_kM r61 c n)) _ _
              refine q_RT_seg (g2 := (68, [(0, .ref 64), (1, .int a1)], [], (q_kM (q_sA r61 15 (upd (r61.1 15) 0 (vp_nar .boolean 1))) c n))) 1 (fun _ _ => rfl) ?_
              exact q_RT_ret rfl rfl rfl
            | false =>
              refine q_RT_cF ?_
              show q_RT _ _ _ (67, [(0, .ref 64), (1, .int a1)], [.int 0, .int 0, .ref 79], (q_kM (q_sA r59 15 (upd (r59.1 15) 1 (vp_nar .boolean 0))) c n)) _ _
              generalize (q_sA r59 15 (upd (r59.1 15) 1 (vp_nar .boolean 0))) = r62
              refine q_RT_let ?_
              show q_RT _ _ _ (67, [(0, .ref 64), (1, .int a1)], [.int 0, .int 0, .ref 79], (q_kM r62 c n)) _ _
              refine q_RT_seg (g2 := (68, [(0, .ref 64), (1, .int a1)], [], (q_kM (q_sA r62 15 (upd (r62.1 15) 0 (vp_nar .boolean 0))) c n))) 1 (fun _ _ => rfl) ?_
              exact q_RT_ret rfl rfl rfl
        | false =>
          refine q_RT_cF ?_
          show q_RT _ _ _ (43, [(0, .ref 64), (1, .int a1)], [.int 0, .int 2, .ref 79], (q_kM (q_sA r51 15 (upd (r51.1 15) 3 (vp_nar .boolean 1))) c n)) _ _
          generalize (q_sA r51 15 (upd (r51.1 15) 3 (vp_nar .boolean 1))) = r63
          refine q_RT_let ?_
          show q_RT _ _ _ (43, [(0, .ref 64), (1, .int a1)], [.int 0, .int 2, .ref 79], (q_kM r63 c n)) _ _
          refine q_RT_seg (g2 := (52, [(0, .ref 64), (1, .int a1)], [.int 6, .int a1, .int 1, .ref 79], (q_kM (q_sA r63 15 (upd (r63.1 15) 2 (vp_nar .boolean 0))) c n))) 6 (fun _ _ => rfl) ?_
          refine q_RT_call (v := (some (.int (q_b (dz_M206 (q_sA r63 15 (upd (r63.1 15) 2 (vp_nar .boolean 0))) a1 6))))) (h2 := (q_kM (q_sA r63 15 (upd (r63.1 15) 2 (vp_nar .boolean 0))) c n)) rfl rfl ((dzt_M206 (q_sA r63 15 (upd (r63.1 15) 2 (vp_nar .boolean 0))) c n a1 6).le (Nat.le_of_ble_eq_true rfl)) ?_
          generalize dz_M206 (q_sA r63 15 (upd (r63.1 15) 2 (vp_nar .boolean 0))) a1 6 = r64
          refine q_RT_let ?_
          show q_RT _ _ _ (55, [(0, .ref 64), (1, .int a1)], [.int (q_b r64), .int 1, .ref 79], (q_kM (q_sA r63 15 (upd (r63.1 15) 2 (vp_nar .boolean 0))) c n)) _ _
          cases h23 : r64 with
          | true =>
            refine q_RT_cT ?_
            show q_RT _ _ _ (55, [(0, .ref 64), (1, .int a1)], [.int 1, .int 1, .ref 79], (q_kM (q_sA r63 15 (upd (r63.1 15) 2 (vp_nar .boolean 0))) c n)) _ _
            generalize (q_sA r63 15 (upd (r63.1 15) 2 (vp_nar .boolean 0))) = r65
            refine q_RT_let ?_
            show q_RT _ _ _ (55, [(0, .ref 64), (1, .int a1)], [.int 1, .int 1, .ref 79], (q_kM r65 c n)) _ _
            refine q_RT_seg (g2 := (64, [(0, .ref 64), (1, .int a1)], [.int 7, .int a1, .int 0, .ref 79], (q_kM (q_sA r65 15 (upd (r65.1 15) 1 (vp_nar .boolean 1))) c n))) 6 (fun _ _ => rfl) ?_
            refine q_RT_call (v := (some (.int (q_b (dz_M206 (q_sA r65 15 (upd (r65.1 15) 1 (vp_nar .boolean 1))) a1 7))))) (h2 := (q_kM (q_sA r65 15 (upd (r65.1 15) 1 (vp_nar .boolean 1))) c n)) rfl rfl ((dzt_M206 (q_sA r65 15 (upd (r65.1 15) 1 (vp_nar .boolean 1))) c n a1 7).le (Nat.le_of_ble_eq_true rfl)) ?_
            generalize dz_M206 (q_sA r65 15 (upd (r65.1 15) 1 (vp_nar .boolean 1))) a1 7 = r66
            refine q_RT_let ?_
            show q_RT _ _ _ (67, [(0, .ref 64), (1, .int a1)], [.int (q_b r66), .int 0, .ref 79], (q_kM (q_sA r65 15 (upd (r65.1 15) 1 (vp_nar .boolean 1))) c n)) _ _
            cases h24 : r66 with
            | true =>
              refine q_RT_cT ?_
              show q_RT _ _ _ (67, [(0, .ref 64), (1, .int a1)], [.int 1, .int 0, .ref 79], (q_kM (q_sA r65 15 (upd (r65.1 15) 1 (vp_nar .boolean 1))) c n)) _ _
              generalize (q_sA r65 15 (upd (r65.1 15) 1 (vp_nar .boolean 1))) = r67
              refine q_RT_let ?_
              show q_RT _ _ _ (67, [(0, .ref 64), (1, .int a1)], [.int 1, .int 0, .ref 79], (q_kM r67 c n)) _ _
              refine q_RT_seg (g2 := (68, [(0, .ref 64), (1, .int a1)], [], (q_kM (q_sA r67 15 (upd (r67.1 15) 0 (vp_nar .boolean 1))) c n))) 1 (fun _ _ => rfl) ?_
              exact q_RT_ret rfl rfl rfl
            | false =>
              refine q_RT_cF ?_
              show q_RT _ _ _ (67, [(0, .ref 64), (1, .int a1)], [.int 0, .int 0, .ref 79], (q_kM (q_sA r65 15 (upd (r65.1 15) 1 (vp_nar .boolean 1))) c n)) _ _
              generalize (q_sA r65 15 (upd (r65.1 15) 1 (vp_nar .boolean 1))) = r68
              refine q_RT_let ?_
              show q_RT _ _ _ (67, [(0, .ref 64), (1, .int a1)], [.int 0, .int 0, .ref 79], (q_kM r68 c n)) _ _
              refine q_RT_seg (g2 := (68, [(0, .ref 64), (1, .int a1)], [], (q_kM (q_sA r68 15 (upd (r68.1 15) 0 (vp_nar .boolean 0))) c n))) 1 (fun _ _ => rfl) ?_
              exact q_RT_ret rfl rfl rfl
          | false =>
            refine q_RT_cF ?_
            show q_RT _ _ _ (55, [(0, .ref 64), (1, .int a1)], [.int 0, .int 1, .ref 79], (q_kM (q_sA r63 15 (upd (r63.1 15) 2 (vp_nar .boolean 0))) c n)) _ _
            generalize (q_sA r63 15 (upd (r63.1 15) 2 (vp_nar .boolean 0))) = r69
            refine q_RT_let ?_
            show q_RT _ _ _ (55, [(0, .ref 64), (1, .int a1)], [.int 0, .int 1, .ref 79], (q_kM r69 c n)) _ _
            refine q_RT_seg (g2 := (64, [(0, .ref 64), (1, .int a1)], [.int 7, .int a1, .int 0, .ref 79], (q_kM (q_sA r69 15 (upd (r69.1 15) 1 (vp_nar .boolean 0))) c n))) 6 (fun _ _ => rfl) ?_
            refine q_RT_call (v := (some (.int (q_b (dz_M206 (q_sA r69 15 (upd (r69.1 15) 1 (vp_nar .boolean 0))) a1 7))))) (h2 := (q_kM (q_sA r69 15 (upd (r69.1 15) 1 (vp_nar .boolean 0))) c n)) rfl rfl ((dzt_M206 (q_sA r69 15 (upd (r69.1 15) 1 (vp_nar .boolean 0))) c n a1 7).le (Nat.le_of_ble_eq_true rfl)) ?_
            generalize dz_M206 (q_sA r69 15 (upd (r69.1 15) 1 (vp_nar .boolean 0))) a1 7 = r70
            refine q_RT_let ?_
            show q_RT _ _ _ (67, [(0, .ref 64), (1, .int a1)], [.int (q_b r70), .int 0, .ref 79], (q_kM (q_sA r69 15 (upd (r69.1 15) 1 (vp_nar .boolean 0))) c n)) _ _
            cases h25 : r70 with
            | true =>
              refine q_RT_cT ?_
              show q_RT _ _ _ (67, [(0, .ref 64), (1, .int a1)], [.int 1, .int 0, .ref 79], (q_kM (q_sA r69 15 (upd (r69.1 15) 1 (vp_nar .boolean 0))) c n)) _ _
              generalize (q_sA r69 15 (upd (r69.1 15) 1 (vp_nar .boolean 0))) = r71
              refine q_RT_let ?_
              show q_RT _ _ _ (67, [(0, .ref 64), (1, .int a1)], [.int 1, .int 0, .ref 79], (q_kM r71 c n)) _ _
              refine q_RT_seg (g2 := (68, [(0, .ref 64), (1, .int a1)], [], (q_kM (q_sA r71 15 (upd (r71.1 15) 0 (vp_nar .boolean 1))) c n))) 1 (fun _ _ => rfl) ?_
              exact q_RT_ret rfl rfl rfl
            | false =>
              refine q_RT_cF ?_
              show q_RT _ _ _ (67, [(0, .ref 64), (1, .int a1)], [.int 0, .int 0, .ref 79], (q_kM (q_sA r69 15 (upd (r69.1 15) 1 (vp_nar .boolean 0))) c n)) _ _
              generalize (q_sA r69 15 (upd (r69.1 15) 1 (vp_nar .boolean 0))) = r72
              refine q_RT_let ?_
              show q_RT _ _ _ (67, [(0, .ref 64), (1, .int a1)], [.int 0, .int 0, .ref 79], (q_kM r72 c n)) _ _
              refine q_RT_seg (g2 := (68, [(0, .ref 64), (1, .int a1)], [], (q_kM (q_sA r72 15 (upd (r72.1 15) 0 (vp_nar .boolean 0))) c n))) 1 (fun _ _ => rfl) ?_
              exact q_RT_ret rfl rfl rfl
      | false =>
        refine q_RT_cF ?_
        show q_RT _ _ _ (32, [(0, .ref 64), (1, .int a1)], [.int 0, .int 3, .ref 79], (q_kM (q_sA r49 15 (upd (r49.1 15) 4 (vp_nar .boolean 0))) c n)) _ _
        generalize (q_sA r49 15 (upd (r49.1 15) 4 (vp_nar .boolean 0))) = r73
        refine q_RT_let ?_
        show q_RT _ _ _ (32, [(0, .ref 64), (1, .int a1)], [.int 0, .int 3, .ref 79], (q_kM r73 c n)) _ _
        refine q_RT_seg (g2 := (40, [(0, .ref 64), (1, .int a1)], [.int 3, .int a1, .int 2, .ref 79], (q_kM (q_sA r73 15 (upd (r73.1 15) 3 (vp_nar .boolean 0))) c n))) 6 (fun _ _ => rfl) ?_
        refine q_RT_call (v := (some (.int (q_b (dz_M206 (q_sA r73 15 (upd (r73.1 15) 3 (vp_nar .boolean 0))) a1 3))))) (h2 := (q_kM (q_sA r73 15 (upd (r73.1 15) 3 (vp_nar .boolean 0))) c n)) rfl rfl ((dzt_M206 (q_sA r73 15 (upd (r73.1 15) 3 (vp_nar .boolean 0))) c n a1 3).le (Nat.le_of_ble_eq_true rfl)) ?_
        generalize dz_M206 (q_sA r73 15 (upd (r73.1 15) 3 (vp_nar .boolean 0))) a1 3 = r74
        refine q_RT_let ?_
        show q_RT _ _ _ (43, [(0, .ref 64), (1, .int a1)], [.int (q_b r74), .int 2, .ref 79], (q_kM (q_sA r73 15 (upd (r73.1 15) 3 (vp_nar .boolean 0))) c n)) _ _
        cases h26 : r74 with
        | true =>
          refine q_RT_cT ?_
          show q_RT _ _ _ (43, [(0, .ref 64), (1, .int a1)], [.int 1, .int 2, .ref 79], (q_kM (q_sA r73 15 (upd (r73.1 15) 3 (vp_nar .boolean 0))) c n)) _ _
          generalize (q_sA r73 15 (upd (r73.1 15) 3 (vp_nar .boolean 0))) = r75
          refine q_RT_let ?_
          show q_RT _ _ _ (43, [(0, .ref 64), (1, .int a1)], [.int 1, .int 2, .ref 79], (q_kM r75 c n)) _ _
          refine q_RT_seg (g2 := (52, [(0, .ref 64), (1, .int a1)], [.int 6, .int a1, .int 1, .ref 79], (q_kM (q_sA r75 15 (upd (r75.1 15) 2 (vp_nar .boolean 1))) c n))) 6 (fun _ _ => rfl) ?_
          refine q_RT_call (v := (some (.int (q_b (dz_M206 (q_sA r75 15 (upd (r75.1 15) 2 (vp_nar .boolean 1))) a1 6))))) (h2 := (q_kM (q_sA r75 15 (upd (r75.1 15) 2 (vp_nar .boolean 1))) c n)) rfl rfl ((dzt_M206 (q_sA r75 15 (upd (r75.1 15) 2 (vp_nar .boolean 1))) c n a1 6).le (Nat.le_of_ble_eq_true rfl)) ?_
          generalize dz_M206 (q_sA r75 15 (upd (r75.1 15) 2 (vp_nar .boolean 1))) a1 6 = r76
          refine q_RT_let ?_
          show q_RT _ _ _ (55, [(0, .ref 64), (1, .int a1)], [.int (q_b r76), .int 1, .ref 79], (q_kM (q_sA r75 15 (upd (r75.1 15) 2 (vp_nar .boolean 1))) c n)) _ _
          cases h27 : r76 with
          | true =>
            refine q_RT_cT ?_
            show q_RT _ _ _ (55, [(0, .ref 64), (1, .int a1)], [.int 1, .int 1, .ref 79], (q_kM (q_sA r75 15 (upd (r75.1 15) 2 (vp_nar .boolean 1))) c n)) _ _
            generalize (q_sA r75 15 (upd (r75.1 15) 2 (vp_nar .boolean 1))) = r77
            refine q_RT_let ?_
            show q_RT _ _ _ (55, [(0, .ref 64), (1, .int a1)], [.int 1, .int 1, .ref 79], (q_kM r77 c n)) _ _
            refine q_RT_seg (g2 := (64, [(0, .ref 64), (1, .int a1)], [.int 7, .int a1, .int 0, .ref 79], (q_kM (q_sA r77 15 (upd (r77.1 15) 1 (vp_nar .boolean 1))) c n))) 6 (fun _ _ => rfl) ?_
            refine q_RT_call (v := (some (.int (q_b (dz_M206 (q_sA r77 15 (upd (r77.1 15) 1 (vp_nar .boolean 1))) a1 7))))) (h2 := (q_kM (q_sA r77 15 (upd (r77.1 15) 1 (vp_nar .boolean 1))) c n)) rfl rfl ((dzt_M206 (q_sA r77 15 (upd (r77.1 15) 1 (vp_nar .boolean 1))) c n a1 7).le (Nat.le_of_ble_eq_true rfl)) ?_
            generalize dz_M206 (q_sA r77 15 (upd (r77.1 15) 1 (vp_nar .boolean 1))) a1 7 = r78
            refine q_RT_let ?_
            show q_RT _ _ _ (67, [(0, .ref 64), (1, .int a1)], [.int (q_b r78), .int 0, .ref 79], (q_kM (q_sA r77 15 (upd (r77.1 15) 1 (vp_nar .boolean 1))) c n)) _ _
            cases h28 : r78 with
            | true =>
              refine q_RT_cT ?_
              show q_RT _ _ _ (67, [(0, .ref 64), (1, .int a1)], [.int 1, .int 0, .ref 79], (q_kM (q_sA r77 15 (upd (r77.1 15) 1 (vp_nar .boolean 1))) c n)) _ _
              generalize (q_sA r77 15 (upd (r77.1 15) 1 (vp_nar .boolean 1))) = r79
              refine q_RT_let ?_
              show q_RT _ _ _ (67, [(0, .ref 64), (1, .int a1)], [.int 1, .int 0, .ref 79], (q_kM r79 c n)) _ _
              refine q_RT_seg (g2 := (68, [(0, .ref 64), (1, .int a1)], [], (q_kM (q_sA r79 15 (upd (r79.1 15) 0 (vp_nar .boolean 1))) c n))) 1 (fun _ _ => rfl) ?_
              exact q_RT_ret rfl rfl rfl
            | false =>
              refine q_RT_cF ?_
              show q_RT _ _ _ (67, [(0, .ref 64), (1, .int a1)], [.int 0, .int 0, .ref 79], (q_kM (q_sA r77 15 (upd (r77.1 15) 1 (vp_nar .boolean 1))) c n)) _ _
              generalize (q_sA r77 15 (upd (r77.1 15) 1 (vp_nar .boolean 1))) = r80
              refine q_RT_let ?_
              show q_RT _ _ _ (67, [(0, .ref 64), (1, .int a1)], [.int 0, .int 0, .ref 79], (q_kM r80 c n)) _ _
              refine q_RT_seg (g2 := (68, [(0, .ref 64), (1, .int a1)], [], (q_kM (q_sA r80 15 (upd (r80.1 15) 0 (vp_nar .boolean 0))) c n))) 1 (fun _ _ => rfl) ?_
              exact q_RT_ret rfl rfl rfl
          | false =>
            refine q_RT_cF ?_
            show q_RT _ _ _ (55, [(0, .ref 64), (1, .int a1)], [.int 0, .int 1, .ref 79], (q_kM (q_sA r75 15 (upd (r75.1 15) 2 (vp_nar .boolean 1))) c n)) _ _
            generalize (q_sA r75 15 (upd (r75.1 15) 2 (vp_nar .boolean 1))) = r81
            refine q_RT_let ?_
            show q_RT _ _ _ (55, [(0, .ref 64), (1, .int a1)], [.int 0, .int 1, .ref 79], (q_kM r81 c n)) _ _
            refine q_RT_seg (g2 := (64, [(0, .ref 64), (1, .int a1)], [.int 7, .int a1, .int 0, .ref 79], (q_kM (q_sA r81 15 (upd (r81.1 15) 1 (vp_nar .boolean 0))) c n))) 6 (fun _ _ => rfl) ?_
            refine q_RT_call (v := (some (.int (q_b (dz_M206 (q_sA r81 15 (upd (r81.1 15) 1 (vp_nar .boolean 0))) a1 7))))) (h2 := (q_kM (q_sA r81 15 (upd (r81.1 15) 1 (vp_nar .boolean 0))) c n)) rfl rfl ((dzt_M206 (q_sA r81 15 (upd (r81.1 15) 1 (vp_nar .boolean 0))) c n a1 7).le (Nat.le_of_ble_eq_true rfl)) ?_
            generalize dz_M206 (q_sA r81 15 (upd (r81.1 15) 1 (vp_nar .boolean 0))) a1 7 = r82
            refine q_RT_let ?_
            show q_RT _ _ _ (67, [(0, .ref 64), (1, .int a1)], [.int (q_b r82), .int 0, .ref 79], (q_kM (q_sA r81 15 (upd (r81.1 15) 1 (vp_nar .boolean 0))) c n)) _ _
            cases h29 : r82 with
            | true =>
              refine q_RT_cT ?_
              show q_RT _ _ _ (67, [(0, .ref 64), (1, .int a1)], [.int 1, .int 0, .ref 79], (q_kM (q_sA r81 15 (upd (r81.1 15) 1 (vp_nar .boolean 0))) c n)) _ _
              generalize (q_sA r81 15 (upd (r81.1 15) 1 (vp_nar .boolean 0))) = r83
              refine q_RT_let ?_
              show q_RT _ _ _ (67, [(0, .ref 64), (1, .int a1)], [.int 1, .int 0, .ref 79], (q_kM r83 c n)) _ _
              refine q_RT_seg (g2 := (68, [(0, .ref 64), (1, .int a1)], [], (q_kM (q_sA r83 15 (upd (r83.1 15) 0 (vp_nar .boolean 1))) c n))) 1 (fun _ _ => rfl) ?_
              exact q_RT_ret rfl rfl rfl
            | false =>
              refine q_RT_cF ?_
              show q_RT _ _ _ (67, [(0, .ref 64), (1, .int a1)], [.int 0, .int 0, .ref 79], (q_kM (q_sA r81 15 (upd (r81.1 15) 1 (vp_nar .boolean 0))) c n)) _ _
              generalize (q_sA r81 15 (upd (r81.1 15) 1 (vp_nar .boolean 0))) = r84
              refine q_RT_let ?_
              show q_RT _ _ _ (67, [(0, .ref 64), (1, .int a1)], [.int 0, .int 0, .ref 79], (q_kM r84 c n)) _ _
              refine q_RT_seg (g2 := (68, [(0, .ref 64), (1, .int a1)], [], (q_kM (q_sA r84 15 (upd (r84.1 15) 0 (vp_nar .boolean 0))) c n))) 1 (fun _ _ => rfl) ?_
              exact q_RT_ret rfl rfl rfl
        | false =>
          refine q_RT_cF ?_
          show q_RT _ _ _ (43, [(0, .ref 64), (1, .int a1)], [.int 0, .int 2, .ref 79], (q_kM (q_sA r73 15 (upd (r73.1 15) 3 (vp_nar .boolean 0))) c n)) _ _
          generalize (q_sA r73 15 (upd (r73.1 15) 3 (vp_nar .boolean 0))) = r85
          refine q_RT_let ?_
          show q_RT _ _ _ (43, [(0, .ref 64), (1, .int a1)], [.int 0, .int 2, .ref 79], (q_kM r85 c n)) _ _
          refine q_RT_seg (g2 := (52, [(0, .ref 64), (1, .int a1)], [.int 6, .int a1, .int 1, .ref 79], (q_kM (q_sA r85 15 (upd (r85.1 15) 2 (vp_nar .boolean 0))) c n))) 6 (fun _ _ => rfl) ?_
          refine q_RT_call (v := (some (.int (q_b (dz_M206 (q_sA r85 15 (upd (r85.1 15) 2 (vp_nar .boolean 0))) a1 6))))) (h2 := (q_kM (q_sA r85 15 (upd (r85.1 15) 2 (vp_nar .boolean 0))) c n)) rfl rfl ((dzt_M206 (q_sA r85 15 (upd (r85.1 15) 2 (vp_nar .boolean 0))) c n a1 6).le (Nat.le_of_ble_eq_true rfl)) ?_
          generalize dz_M206 (q_sA r85 15 (upd (r85.1 15) 2 (vp_nar .boolean 0))) a1 6 = r86
          refine q_RT_let ?_
          show q_RT _ _ _ (55, [(0, .ref 64), (1, .int a1)], [.int (q_b r86), .int 1, .ref 79], (q_kM (q_sA r85 15 (upd (r85.1 15) 2 (vp_nar .boolean 0))) c n)) _ _
          cases h30 : r86 with
          | true =>
            refine q_RT_cT ?_
            show q_RT _ _ _ (55, [(0, .ref 64), (1, .int a1)], [.int 1, .int 1, .ref 79], (q_kM (q_sA r85 15 (upd (r85.1 15) 2 (vp_nar .boolean 0))) c n)) _ _
            generalize (q_sA r85 15 (upd (r85.1 15) 2 (vp_nar .boolean 0))) = r87
            refine q_RT_let ?_
            show q_RT _ _ _ (55, [(0, .ref 64), (1, .int a1)], [.int 1, .int 1, .ref 79], (q_kM r87 c n)) _ _
            refine q_RT_seg (g2 := (64, [(0, .ref 64), (1, .int a1)], [.int 7, .int a1, .int 0, .ref 79], (q_kM (q_sA r87 15 (upd (r87.1 15) 1 (vp_nar .boolean 1))) c n))) 6 (fun _ _ => rfl) ?_
            refine q_RT_call (v := (some (.int (q_b (dz_M206 (q_sA r87 15 (upd (r87.1 15) 1 (vp_nar .boolean 1))) a1 7))))) (h2 := (q_kM (q_sA r87 15 (upd (r87.1 15) 1 (vp_nar .boolean 1))) c n)) rfl rfl ((dzt_M206 (q_sA r87 15 (upd (r87.1 15) 1 (vp_nar .boolean 1))) c n a1 7).le (Nat.le_of_ble_eq_true rfl)) ?_
            generalize dz_M206 (q_sA r87 15 (upd (r87.1 15) 1 (vp_nar .boolean 1))) a1 7 = r88
            refine q_RT_let ?_
            show q_RT _ _ _ (67, [(0, .ref 64), (1, .int a1)], [.int (q_b r88), .int 0, .ref 79], (q_kM (q_sA r87 15 (upd (r87.1 15) 1 (vp_nar .boolean 1))) c n)) _ _
            cases h31 : r88 with
            | true =>
              refine q_RT_cT ?_
              show q_RT _ _ _ (67, [(0, .ref 64), (1, .int a1)], [.int 1, .int 0, .ref 79], (q_kM (q_sA r87 15 (upd (r87.1 15) 1 (vp_nar .boolean 1))) c n)) _ _
              generalize (q_sA r87 15 (upd (r87.1 15) 1 (vp_nar .boolean 1))) = r89
              refine q_RT_let ?_
              show q_RT _ _ _ (67, [(0, .ref 64), (1, .int a1)], [.int 1, .int 0, .ref 79], (q_kM r89 c n)) _ _
              refine q_RT_seg (g2 := (68, [(0, .ref 64), (1, .int a1)], [], (q_kM (q_sA r89 15 (upd (r89.1 15) 0 (vp_nar .boolean 1))) c n))) 1 (fun _ _ => rfl) ?_
              exact q_RT_ret rfl rfl rfl
            | false =>
              refine q_RT_cF ?_
              show q_RT _ _ _ (67, [(0, .ref 64), (1, .int a1)], [.int 0, .int 0, .ref 79], (q_kM (q_sA r87 15 (upd (r87.1 15) 1 (vp_nar .boolean 1))) c n)) _ _
              generalize (q_sA r87 15 (upd (r87.1 15) 1 (vp_nar .boolean 1))) = r90
              refine q_RT_let ?_
              show q_RT _ _ _ (67, [(0, .ref 64), (1, .int a1)], [.int 0, .int 0, .ref 79], (q_kM r90 c n)) _ _
              refine q_RT_seg (g2 := (68, [(0, .ref 64), (1, .int a1)], [], (q_kM (q_sA r90 15 (upd (r90.1 15) 0 (vp_nar .boolean 0))) c n))) 1 (fun _ _ => rfl) ?_
              exact q_RT_ret rfl rfl rfl
          | false =>
            refine q_RT_cF ?_
            show q_RT _ _ _ (55, [(0, .ref 64), (1, .int a1)], [.int 0, .int 1, .ref 79], (q_kM (q_sA r85 15 (upd (r85.1 15) 2 (vp_nar .boolean 0))) c n)) _ _
            generalize (q_sA r85 15 (upd (r85.1 15) 2 (vp_nar .boolean 0))) = r91
            refine q_RT_let ?_
            show q_RT _ _ _ (55, [(0, .ref 64), (1, .int a1)], [.int 0, .int 1, .ref 79], (q_kM r91 c n)) _ _
            refine q_RT_seg (g2 := (64, [(0, .ref 64), (1, .int a1)], [.int 7, .int a1, .int 0, .ref 79], (q_kM (q_sA r91 15 (upd (r91.1 15) 1 (vp_nar .boolean 0))) c n))) 6 (fun _ _ => rfl) ?_
            refine q_RT_call (v := (some (.int (q_b (dz_M206 (q_sA r91 15 (upd (r91.1 15) 1 (vp_nar .boolean 0))) a1 7))))) (h2 := (q_kM (q_sA r91 15 (upd (r91.1 15) 1 (vp_nar .boolean 0))) c n)) rfl rfl ((dzt_M206 (q_sA r91 15 (upd (r91.1 15) 1 (vp_nar .boolean 0))) c n a1 7).le (Nat.le_of_ble_eq_true rfl)) ?_
            generalize dz_M206 (q_sA r91 15 (upd (r91.1 15) 1 (vp_nar .boolean 0))) a1 7 = r92
            refine q_RT_let ?_
            show q_RT _ _ _ (67, [(0, .ref 64), (1, .int a1)], [.int (q_b r92), .int 0, .ref 79], (q_kM (q_sA r91 15 (upd (r91.1 15) 1 (vp_nar .boolean 0))) c n)) _ _
            cases h32 : r92 with
            | true =>
              refine q_RT_cT ?_
              show q_RT _ _ _ (67, [(0, .ref 64), (1, .int a1)], [.int 1, .int 0, .ref 79], (q_kM (q_sA r91 15 (upd (r91.1 15) 1 (vp_nar .boolean 0))) c n)) _ _
              generalize (q_sA r91 15 (upd (r91.1 15) 1 (vp_nar .boolean 0))) = r93
              refine q_RT_let ?_
              show q_RT _ _ _ (67, [(0, .ref 64), (1, .int a1)], [.int 1, .int 0, .ref 79], (q_kM r93 c n)) _ _
              refine q_RT_seg (g2 := (68, [(0, .ref 64), (1, .int a1)], [], (q_kM (q_sA r93 15 (upd (r93.1 15) 0 (vp_nar .boolean 1))) c n))) 1 (fun _ _ => rfl) ?_
              exact q_RT_ret rfl rfl rfl
            | false =>
              refine q_RT_cF ?_
              show q_RT _ _ _ (67, [(0, .ref 64), (1, .int a1)], [.int 0, .int 0, .ref 79], (q_kM (q_sA r91 15 (upd (r91.1 15) 1 (vp_nar .boolean 0))) c n)) _ _
              generalize (q_sA r91 15 (upd (r91.1 15) 1 (vp_nar .boolean 0))) = r94
              refine q_RT_let ?_
              show q_RT _ _ _ (67, [(0, .ref 64), (1, .int a1)], [.int 0, .int 0, .ref 79], (q_kM r94 c n)) _ _
              refine q_RT_seg (g2 := (68, [(0, .ref 64), (1, .int a1)], [], (q_kM (q_sA r94 15 (upd (r94.1 15) 0 (vp_nar .boolean 0))) c n))) 1 (fun _ _ => rfl) ?_
              exact q_RT_ret rfl rfl rfl
  | false =>
    refine q_RT_cF ?_
    show q_RT _ _ _ (10, [(0, .ref 64), (1, .int a1)], [.int 0, .int 5, .ref 79], (q_kM s c n)) _ _
    refine q_RT_seg (g2 := (18, [(0, .ref 64), (1, .int a1)], [.int 1, .int a1, .int 4, .ref 79], (q_kM (q_sA s 15 (upd (s.1 15) 5 (vp_nar .boolean 0))) c n))) 6 (fun _ _ => rfl) ?_
    refine q_RT_call (v := (some (.int (q_b (dz_M206 (q_sA s 15 (upd (s.1 15) 5 (vp_nar .boolean 0))) a1 1))))) (h2 := (q_kM (q_sA s 15 (upd (s.1 15) 5 (vp_nar .boolean 0))) c n)) rfl rfl ((dzt_M206 (q_sA s 15 (upd (s.1 15) 5 (vp_nar .boolean 0))) c n a1 1).le (Nat.le_of_ble_eq_true rfl)) ?_
    generalize dz_M206 (q_sA s 15 (upd (s.1 15) 5 (vp_nar .boolean 0))) a1 1 = r95
    refine q_RT_let ?_
    show q_RT _ _ _ (21, [(0, .ref 64), (1, .int a1)], [.int (q_b r95), .int 4, .ref 79], (q_kM (q_sA s 15 (upd (s.1 15) 5 (vp_nar .boolean 0))) c n)) _ _
    cases h33 : r95 with
    | true =>
      refine q_RT_cT ?_
      show q_RT _ _ _ (21, [(0, .ref 64), (1, .int a1)], [.int 1, .int 4, .ref 79], (q_kM (q_sA s 15 (upd (s.1 15) 5 (vp_nar .boolean 0))) c n)) _ _
      generalize (q_sA s 15 (upd (s.1 15) 5 (vp_nar .boolean 0))) = r96
      refine q_RT_let ?_
      show q_RT _ _ _ (21, [(0, .ref 64), (1, .int a1)], [.int 1, .int 4, .ref 79], (q_kM r96 c n)) _ _
      refine q_RT_seg (g2 := (29, [(0, .ref 64), (1, .int a1)], [.int 2, .int a1, .int 3, .ref 79], (q_kM (q_sA r96 15 (upd (r96.1 15) 4 (vp_nar .boolean 1))) c n))) 6 (fun _ _ => rfl) ?_
      refine q_RT_call (v := (some (.int (q_b (dz_M206 (q_sA r96 15 (upd (r96.1 15) 4 (vp_nar .boolean 1))) a1 2))))) (h2 := (q_kM (q_sA r96 15 (upd (r96.1 15) 4 (vp_nar .boolean 1))) c n)) rfl rfl ((dzt_M206 (q_sA r96 15 (upd (r96.1 15) 4 (vp_nar .boolean 1))) c n a1 2).le (Nat.le_of_ble_eq_true rfl)) ?_
      generalize dz_M206 (q_sA r96 15 (upd (r96.1 15) 4 (vp_nar .boolean 1))) a1 2 = r97
      refine q_RT_let ?_
      show q_RT _ _ _ (32, [(0, .ref 64), (1, .int a1)], [.int (q_b r97), .int 3, .ref 79], (q_kM (q_sA r96 15 (upd (r96.1 15) 4 (vp_nar .boolean 1))) c n)) _ _
      cases h34 : r97 with
      | true =>
        refine q_RT_cT ?_
        show q_RT _ _ _ (32, [(0, .ref 64), (1, .int a1)], [.int 1, .int 3, .ref 79], (q_kM (q_sA r96 15 (upd (r96.1 15) 4 (vp_nar .boolean 1))) c n)) _ _
        generalize (q_sA r96 15 (upd (r96.1 15) 4 (vp_nar .boolean 1))) = r98
        refine q_RT_let ?_
        show q_RT _ _ _ (32, [(0, .ref 64), (1, .int a1)], [.int 1, .int 3, .ref 79], (q_kM r98 c n)) _ _
        refine q_RT_seg (g2 := (40, [(0, .ref 64), (1, .int a1)], [.int 3, .int a1, .int 2, .ref 79], (q_kM (q_sA r98 15 (upd (r98.1 15) 3 (vp_nar .boolean 1))) c n))) 6 (fun _ _ => rfl) ?_
        refine q_RT_call (v := (some (.int (q_b (dz_M206 (q_sA r98 15 (upd (r98.1 15) 3 (vp_nar .boolean 1))) a1 3))))) (h2 := (q_kM (q_sA r98 15 (upd (r98.1 15) 3 (vp_nar .boolean 1))) c n)) rfl rfl ((dzt_M206 (q_sA r98 15 (upd (r98.1 15) 3 (vp_nar .boolean 1))) c n a1 3).le (Nat.le_of_ble_eq_true rfl)) ?_
        generalize dz_M206 (q_sA r98 15 (upd (r98.1 15) 3 (vp_nar .boolean 1))) a1 3 = r99
        refine q_RT_let ?_
        show q_RT _ _ _ (43, [(0, .ref 64), (1, .int a1)], [.int (q_b r99), .int 2, .ref 79], (q_kM (q_sA r98 15 (upd (r98.1 15) 3 (vp_nar .boolean 1))) c n)) _ _
        cases h35 : r99 with
        | true =>
          refine q_RT_cT ?_
          show q_RT _ _ _ (43, [(0, .ref 64), (1, .int a1)], [.int 1, .int 2, .ref 79], (q_kM (q_sA r98 15 (upd (r98.1 15) 3 (vp_nar .boolean 1))) c n)) _ _
          generalize (q_sA r98 15 (upd (r98.1 15) 3 (vp_nar .boolean 1))) = r100
          refine q_RT_let ?_
          show q_RT _ _ _ (43, [(0, .ref 64), (1, .int a1)], [.int 1, .int 2, .ref 79], (q_kM r100 c n)) _ _
          refine q_RT_seg (g2 := (52, [(0, .ref 64), (1, .int a1)], [.int 6, .int a1, .int 1, .ref 79], (q_kM (q_sA r100 15 (upd (r100.1 15) 2 (vp_nar .boolean 1))) c n))) 6 (fun _ _ => rfl) ?_
          refine q_RT_call (v := (some (.int (q_b (dz_M206 (q_sA r100 15 (upd (r100.1 15) 2 (vp_nar .boolean 1))) a1 6))))) (h2 := (q_kM (q_sA r100 15 (upd (r100.1 15) 2 (vp_nar .boolean 1))) c n)) rfl rfl ((dzt_M206 (q_sA r100 15 (upd (r100.1 15) 2 (vp_nar .boolean 1))) c n a1 6).le (Nat.le_of_ble_eq_true rfl)) ?_
          generalize dz_M206 (q_sA r100 15 (upd (r100.1 15) 2 (vp_nar .boolean 1))) a1 6 = r101
          refine q_RT_let ?_
          show q_RT _ _ _ (55, [(0, .ref 64), (1, .int a1)], [.int (q_b r101), .int 1, .ref 79], (q_kM (q_sA r100 15 (upd (r100.1 15) 2 (vp_nar .boolean 1))) c n)) _ _
          cases h36 : r101 with
          | true =>
            refine q_RT_cT ?_
            show q_RT _ _ _ (55, [(0, .ref 64), (1, .int a1)], [.int 1, .int 1, .ref 79], (q_kM (q_sA r100 15 (upd (r100.1 15) 2 (vp_nar .boolean 1))) c n)) _ _
            generalize (q_sA r100 15 (upd (r100.1 15) 2 (vp_nar .boolean 1))) = r102
            refine q_RT_let ?_
            show q_RT _ _ _ (55, [(0, .ref 64), (1, .int a1)], [.int 1, .int 1, .ref 79], (q_kM r102 c n)) _ _
            refine q_RT_seg (g2 := (64, [(0, .ref 64), (1, .int a1)], [.int 7, .int a1, .int 0, .ref 79], (q_kM (q_sA r102 15 (upd (r102.1 15) 1 (vp_nar .boolean 1))) c n))) 6 (fun _ _ => rfl) ?_
            refine q_RT_call (v := (some (.int (q_b (dz_M206 (q_sA r102 15 (upd (r102.1 15) 1 (vp_nar .boolean 1))) a1 7))))) (h2 := (q_kM (q_sA r102 15 (upd (r102.1 15) 1 (vp_nar .boolean 1))) c n)) rfl rfl ((dzt_M206 (q_sA r102 15 (upd (r102.1 15) 1 (vp_nar .boolean 1))) c n a1 7).le (Nat.le_of_ble_eq_true rfl)) ?_
            generalize dz_M206 (q_sA r102 15 (upd (r102.1 15) 1 (vp_nar .boolean 1))) a1 7 = r103
            refine q_RT_let ?_
            show q_RT _ _ _ (67, [(0, .ref 64), (1, .int a1)], [.int (q_b r103), .int 0, .ref 79], (q_kM (q_sA r102 15 (upd (r102.1 15) 1 (vp_nar .boolean 1))) c n)) _ _
            cases h37 : r103 with
            | true =>
              refine q_RT_cT ?_
              show q_RT _ _ _ (67, [(0, .ref 64), (1, .int a1)], [.int 1, .int 0, .ref 79], (q_kM (q_sA r102 15 (upd (r102.1 15) 1 (vp_nar .boolean 1))) c n)) _ _
              generalize (q_sA r102 15 (upd (r102.1 15) 1 (vp_nar .boolean 1))) = r104
              refine q_RT_let ?_
              show q_RT _ _ _ (67, [(0, .ref 64), (1, .int a1)], [.int 1, .int 0, .ref 79], (q_kM r104 c n)) _ _
              refine q_RT_seg (g2 := (68, [(0, .ref 64), (1, .int a1)], [], (q_kM (q_sA r104 15 (upd (r104.1 15) 0 (vp_nar .boolean 1))) c n))) 1 (fun _ _ => rfl) ?_
              exact q_RT_ret rfl rfl rfl
            | false =>
              refine q_RT_cF ?_
              show q_RT _ _ _ (67, [(0, .ref 64), (1, .int a1)], [.int 0, .int 0, .ref 79], (q_kM (q_sA r102 15 (upd (r102.1 15) 1 (vp_nar .boolean 1))) c n)) _ _
              generalize (q_sA r102 15 (upd (r102.1 15) 1 (vp_nar .boolean 1))) = r105
              refine q_RT_let ?_
              show q_RT _ _ _ (67, [(0, .ref 64), (1, .int a1)], [.int 0, .int 0, .ref 79], (q_kM r105 c n)) _ _
              refine q_RT_seg (g2 := (68, [(0, .ref 64), (1, .int a1)], [], (q_kM (q_sA r105 15 (upd (r105.1 15) 0 (vp_nar .boolean 0))) c n))) 1 (fun _ _ => rfl) ?_
              exact q_RT_ret rfl rfl rfl
          | false =>
            refine q_RT_cF ?_
            show q_RT _ _ _ (55, [(0, .ref 64), (1, .int a1)], [.int 0, .int 1, .ref 79], (q_kM (q_sA r100 15 (upd (r100.1 15) 2 (vp_nar .boolean 1))) c n)) _ _
            generalize (q_sA r100 15 (upd (r100.1 15) 2 (vp_nar .boolean 1))) = r106
            refine q_RT_let ?_
            show q_RT _ _ _ (55, [(0, .ref 64), (1, .int a1)], [.int 0, .int 1, .ref 79], (q_kM r106 c n)) _ _
            refine q_RT_seg (g2 := (64, [(0, .ref 64), (1, .int a1)], [.int 7, .int a1, .int 0, .ref 79], (q_kM (q_sA r106 15 (upd (r106.1 15) 1 (vp_nar .boolean 0))) c n))) 6 (fun _ _ => rfl) ?_
            refine q_RT_call (v := (some (.int (q_b (dz_M206 (q_sA r106 15 (upd (r106.1 15) 1 (vp_nar .boolean 0))) a1 7))))) (h2 := (q_kM (q_sA r106 15 (upd (r106.1 15) 1 (vp_nar .boolean 0))) c n)) rfl rfl ((dzt_M206 (q_sA r106 15 (upd (r106.1 15) 1 (vp_nar .boolean 0))) c n a1 7).le (Nat.le_of_ble_eq_true rfl)) ?_
            generalize dz_M206 (q_sA r106 15 (upd (r106.1 15) 1 (vp_nar .boolean 0))) a1 7 = r107
            refine q_RT_let ?_
            show q_RT _ _ _ (67, [(0, .ref 64), (1, .int a1)], [.int (q_b r107), .int 0, .ref 79], (q_kM (q_sA r106 15 (upd (r106.1 15) 1 (vp_nar .boolean 0))) c n)) _ _
            cases h38 : r107 with
            | true =>
              refine q_RT_cT ?_
              show q_RT _ _ _ (67, [(0, .ref 64), (1, .int a1)], [.int 1, .int 0, .ref 79], (q_kM (q_sA r106 15 (upd (r106.1 15) 1 (vp_nar .boolean 0))) c n)) _ _
              generalize (q_sA r106 15 (upd (r106.1 15) 1 (vp_nar .boolean 0))) = r108
              refine q_RT_let ?_
              show q_RT _ _ _ (67, [(0, .ref 64), (1, .int a1)], [.int 1, .int 0, .ref 79], (q_kM r108 c n)) _ _
              refine q_RT_seg (g2 := (68, [(0, .ref 64), (1, .int a1)], [], (q_kM (q_sA r108 15 (upd (r108.1 15) 0 (vp_nar .boolean 1))) c n))) 1 (fun _ _ => rfl) ?_
              exact q_RT_ret rfl rfl rfl
            | false =>
              refine q_RT_cF ?_
              show q_RT _ _ _ (67, [(0, .ref 64), (1, .int a1)], [.int 0, .int 0, .ref 79], (q_kM (q_sA r106 15 (upd (r106.1 15) 1 (vp_nar .boolean 0))) c n)) _ _
              generalize (q_sA r106 15 (upd (r106.1 15) 1 (vp_nar .boolean 0))) = r109
              refine q_RT_let ?_
              show q_RT _ _ _ (67, [(0, .ref 64), (1, .int a1)], [.int 0, .int 0, .ref 79], (q_kM r109 c n)) _ _
              refine q_RT_seg (g2 := (68, [(0, .ref 64), (1, .int a1)], [], (q_kM (q_sA r109 15 (upd (r109.1 15) 0 (vp_nar .boolean 0))) c n))) 1 (fun _ _ => rfl) ?_
              exact q_RT_ret rfl rfl rfl
        | false =>
          refine q_RT_cF ?_
          show q_RT _ _ _ (43, [(0, .ref 64), (1, .int a1)], [.int 0, .int 2, .ref 79], (q_kM (q_sA r98 15 (upd (r98.1 15) 3 (vp_nar .boolean 1))) c n)) _ _
          generalize (q_sA r98 15 (upd (r98.1 15) 3 (vp_nar .boolean 1))) = r110
          refine q_RT_let ?_
          show q_RT _ _ _ (43, [(0, .ref 64), (1, .int a1)], [.int 0, .int 2, .ref 79], (q_kM r110 c n)) _ _
          refine q_RT_seg (g2 := (52, [(0, .ref 64), (1, .int a1)], [.int 6, .int a1, .int 1, .ref 79], (q_kM (q_sA r110 15 (upd (r110.1 15) 2 (vp_nar .boolean 0))) c n))) 6 (fun _ _ => rfl) ?_
          refine q_RT_call (v := (some (.int (q_b (dz_M206 (q_sA r110 15 (upd (r110.1 15) 2 (vp_nar .boolean 0))) a1 6))))) (h2 := (q_kM (q_sA r110 15 (upd (r110.1 15) 2 (vp_nar .boolean 0))) c n)) rfl rfl ((dzt_M206 (q_sA r110 15 (upd (r110.1 15) 2 (vp_nar .boolean 0))) c n a1 6).le (Nat.le_of_ble_eq_true rfl)) ?_
          generalize dz_M206 (q_sA r110 15 (upd (r110.1 15) 2 (vp_nar .boolean 0))) a1 6 = r111
          refine q_RT_let ?_
          show q_RT _ _ _ (55, [(0, .ref 64), (1, .int a1)], [.int (q_b r111), .int 1, .ref 79], (q_kM (q_sA r110 15 (upd (r110.1 15) 2 (vp_nar .boolean 0))) c n)) _ _
          cases h39 : r111 with
          | true =>
            refine q_RT_cT ?_
            show q_RT _ _ _ (55, [(0, .ref 64), (1, .int a1)], [.int 1, .int 1, .ref 79], (q_kM (q_sA r110 15 (upd (r110.1 15) 2 (vp_nar .boolean 0))) c n)) _ _
            generalize (q_sA r110 15 (upd (r110.1 15) 2 (vp_nar .boolean 0))) = r112
            refine q_RT_let ?_
            show q_RT _ _ _ (55, [(0, .ref 64), (1, .int a1)], [.int 1, .int 1, .ref 79], (q_kM r112 c n)) _ _
            refine q_RT_seg (g2 := (64, [(0, .ref 64), (1, .int a1)], [.int 7, .int a1, .int 0, .ref 79], (q_kM (q_sA r112 15 (upd (r112.1 15) 1 (vp_nar .boolean 1))) c n))) 6 (fun _ _ => rfl) ?_
            refine q_RT_call (v := (some (.int (q_b (dz_M206 (q_sA r112 15 (upd (r112.1 15) 1 (vp_nar .boolean 1))) a1 7))))) (h2 := (q_kM (q_sA r112 15 (upd (r112.1 15) 1 (vp_nar .boolean 1))) c n)) rfl rfl ((dzt_M206 (q_sA r112 15 (upd (r112.1 15) 1 (vp_nar .boolean 1))) c n a1 7).le (Nat.le_of_ble_eq_true rfl)) ?_
            generalize dz_M206 (q_sA r112 15 (upd (r112.1 15) 1 (vp_nar .boolean 1))) a1 7 = r113
            refine q_RT_let ?_
            show q_RT _ _ _ (67, [(0, .ref 64), (1, .int a1)], [.int (q_b r113), .int 0, .ref 79], (q_kM (q_sA r112 15 (upd (r112.1 15) 1 (vp_nar .boolean 1))) c n)) _ _
            cases h40 : r113 with
            | true =>
              refine q_RT_cT ?_
              show q_RT _ _ _ (67, [(0, .ref 64), (1, .int a1)], [.int 1, .int 0, .ref 79], (q_kM (q_sA r112 15 (upd (r112.1 15) 1 (vp_nar .boolean 1))) c n)) _ _
              generalize (q_sA r112 15 (upd (r112.1 15) 1 (vp_nar .boolean 1))) = r114
              refine q_RT_let ?_
              show q_RT _ _ _ (67, [(0, .ref 64), (1, .int a1)], [.int 1, .int 0, .ref 79], (q_kM r114 c n)) _ _
              refine q_RT_seg (g2 := (68, [(0, .ref 64), (1, .int a1)], [], (q_kM (q_sA r114 15 (upd (r114.1 15) 0 (vp_nar .boolean 1))) c n))) 1 (fun _ _ => rfl) ?_
              exact q_RT_ret rfl rfl rfl
            | false =>
              refine q_RT_cF ?_
              show q_RT _ _ _ (67, [(0, .ref 64), (1, .int a1)], [.int 0, .int 0, .ref 79], (q_kM (q_sA r112 15 (upd (r112.1 15) 1 (vp_nar .boolean 1))) c n)) _ _
              generalize (q_sA r112 15 (upd (r112.1 15) 1 (vp_nar .boolean 1))) = r115
              refine q_RT_let ?_
              show q_RT _ _ _ (67, [(0, .ref 64), (1, .int a1)], [.int 0, .int 0, .ref 79], (q_kM r115 c n)) _ _
              refine q_RT_seg (g2 := (68, [(0, .ref 64), (1, .int a1)], [], (q_kM (q_sA r115 15 (upd (r115.1 15) 0 (vp_nar .boolean 0))) c n))) 1 (fun _ _ => rfl) ?_
              exact q_RT_ret rfl rfl rfl
          | false =>
            refine q_RT_cF ?_
            show q_RT _ _ _ (55, [(0, .ref 64), (1, .int a1)], [.int 0, .int 1, .ref 79], (q_kM (q_sA r110 15 (upd (r110.1 15) 2 (vp_nar .boolean 0))) c n)) _ _
            generalize (q_sA r110 15 (upd (r110.1 15) 2 (vp_nar .boolean 0))) = r116
            refine q_RT_let ?_
            show q_RT _ _ _ (55, [(0, .ref 64), (1, .int a1)], [.int 0, .int 1, .ref 79], (q_kM r116 c n)) _ _
            refine q_RT_seg (g2 := (64, [(0, .ref 64), (1, .int a1)], [.int 7, .int a1, .int 0, .ref 79], (q_kM (q_sA r116 15 (upd (r116.1 15) 1 (vp_nar .boolean 0))) c n))) 6 (fun _ _ => rfl) ?_
            refine q_RT_call (v := (some (.int (q_b (dz_M206 (q_sA r116 15 (upd (r116.1 15) 1 (vp_nar .boolean 0))) a1 7))))) (h2 := (q_kM (q_sA r116 15 (upd (r116.1 15) 1 (vp_nar .boolean 0))) c n)) rfl rfl ((dzt_M206 (q_sA r116 15 (upd (r116.1 15) 1 (vp_nar .boolean 0))) c n a1 7).le (Nat.le_of_ble_eq_true rfl)) ?_
            generalize dz_M206 (q_sA r116 15 (upd (r116.1 15) 1 (vp_nar .boolean 0))) a1 7 = r117
            refine q_RT_let ?_
            show q_RT _ _ _ (67, [(0, .ref 64), (1, .int a1)], [.int (q_b r117), .int 0, .ref 79], (q_kM (q_sA r116 15 (upd (r116.1 15) 1 (vp_nar .boolean 0))) c n)) _ _
            cases h41 : r117 with
            | true =>
              refine q_RT_cT ?_
              show q_RT _ _ _ (67, [(0, .ref 64), (1, .int a1)], [.int 1, .int 0, .ref 79], (q_kM (q_sA r116 15 (upd (r116.1 15) 1 (vp_nar .boolean 0))) c n)) _ _
              generalize (q_sA r116 15 (upd (r116.1 15) 1 (vp_nar .boolean 0))) = r118
              refine q_RT_let ?_
              show q_RT _ _ _ (67, [(0, .ref 64), (1, .int a1)], [.int 1, .int 0, .ref 79], (q_kM r118 c n)) _ _
              refine q_RT_seg (g2 := (68, [(0, .ref 64), (1, .int a1)], [], (q_kM (q_sA r118 15 (upd (r118.1 15) 0 (vp_nar .boolean 1))) c n))) 1 (fun _ _ => rfl) ?_
              exact q_RT_ret rfl rfl rfl
            | false =>
              refine q_RT_cF ?_
              show q_RT _ _ _ (67, [(0, .ref 64), (1, .int a1)], [.int 0, .int 0, .ref 79], (q_kM (q_sA r116 15 (upd (r116.1 15) 1 (vp_nar .boolean 0))) c n)) _ _
              generalize (q_sA r116 15 (upd (r116.1 15) 1 (vp_nar .boolean 0))) = r119
              refine q_RT_let ?_
              show q_RT _ _ _ (67, [(0, .ref 64), (1, .int a1)], [.int 0, .int 0, .ref 79], (q_kM r119 c n)) _ _
              refine q_RT_seg (g2 := (68, [(0, .ref 64), (1, .int a1)], [], (q_kM (q_sA r119 15 (upd (r119.1 15) 0 (vp_nar .boolean 0))) c n))) 1 (fun _ _ => rfl) ?_
              exact q_RT_ret rfl rfl rfl
      | false =>
        refine q_RT_cF ?_
        show q_RT _ _ _ (32, [(0, .ref 64), (1, .int a1)], [.int 0, .int 3, .ref 79], (q_kM (q_sA r96 15 (upd (r96.1 15) 4 (vp_nar .boolean 1))) c n)) _ _
        generalize (q_sA r96 15 (upd (r96.1 15) 4 (vp_nar .boolean 1))) = r120
        refine q_RT_let ?_
        show q_RT _ _ _ (32, [(0, .ref 64), (1, .int a1)], [.int 0, .int 3, .ref 79], (q_kM r120 c n)) _ _
        refine q_RT_seg (g2 := (40, [(0, .ref 64), (1, .int a1)], [.int 3, .int a1, .int 2, .ref 79], (q_kM (q_sA r120 15 (upd (r120.1 15) 3 (vp_nar .boolean 0))) c n))) 6 (fun _ _ => rfl) ?_
        refine q_RT_call (v := (some (.int (q_b (dz_M206 (q_sA r120 15 (upd (r120.1 15) 3 (vp_nar .boolean 0))) a1 3))))) (h2 := (q_kM (q_sA r120 15 (upd (r120.1 15) 3 (vp_nar .boolean 0))) c n)) rfl rfl ((dzt_M206 (q_sA r120 15 (upd (r120.1 15) 3 (vp_nar .boolean 0))) c n a1 3).le (Nat.le_of_ble_eq_true rfl)) ?_
        generalize dz_M206 (q_sA r120 15 (upd (r120.1 15) 3 (vp_nar .boolean 0))) a1 3 = r121
        refine q_RT_let ?_
        show q_RT _ _ _ (43, [(0, .ref 64), (1, .int a1)], [.int (q_b r121), .int 2, .ref 79], (q_kM (q_sA r120 15 (upd (r120.1 15) 3 (vp_nar .boolean 0))) c n)) _ _
        cases h42 : r121 with
        | true =>
          refine q_RT_cT ?_
          show q_RT _ _ _ (43, [(0, .ref 64), (1, .int a1)], [.int 1, .int 2, .ref 79], (q_kM (q_sA r120 15 (upd (r120.1 15) 3 (vp_nar .boolean 0))) c n)) _ _
          generalize (q_sA r120 15 (upd (r120.1 15) 3 (vp_nar .boolean 0))) = r122
          refine q_RT_let ?_
          show q_RT _ _ _ (43, [(0, .ref 64), (1, .int a1)], [.int 1, .int 2, .ref 79], (q_kM r122 c n)) _ _
          refine q_RT_seg (g2 := (52, [(0, .ref 64), (1, .int a1)], [.int 6, .int a1, .int 1, .ref 79], (q_kM (q_sA r122 15 (upd (r122.1 15) 2 (vp_nar .boolean 1))) c n))) 6 (fun _ _ => rfl) ?_
          refine q_RT_call (v := (some (.int (q_b (dz_M206 (q_sA r122 15 (upd (r122.1 15) 2 (vp_nar .boolean 1))) a1 6))))) (h2 := (q_kM (q_sA r122 15 (upd (r122.1 15) 2 (vp_nar .boolean 1))) c n)) rfl rfl ((dzt_M206 (q_sA r122 15 (upd (r122.1 15) 2 (vp_nar .boolean 1))) c n a1 6).le (Nat.le_of_ble_eq_true rfl)) ?_
          generalize dz_M206 (q_sA r122 15 (upd (r122.1 15) 2 (vp_nar .boolean 1))) a1 6 = r123
          refine q_RT_let ?_
          show q_RT _ _ _ (55, [(0, .ref 64), (1, .int a1)], [.int (q_b r123), .int 1, .ref 79], (q_kM (q_sA r122 15 (upd (r122.1 15) 2 (vp_nar .boolean 1))) c n)) _ _
          cases h43 : r123 with
          | true =>
            refine q_RT_cT ?_
            show q_RT _ _ _ (55, [(0, .ref 64), (1, .int a1)], [.int 1, .int 1, .ref 79], (q_kM (q_sA r122 15 (upd (r122.1 15) 2 (vp_nar .boolean 1))) c n)) _ _
            generalize (q_sA r122 15 (upd (r122.1 15) 2 (vp_nar .boolean 1))) = r124
            refine q_RT_let ?_
            show q_RT _ _ _ (55, [(0, .ref 64), (1, .int a1)], [.int 1, .int 1, .ref 79], (q_kM r124 c n)) _ _
            refine q_RT_seg (g2 := (64, [(0, .ref 64), (1, .int a1)], [.int 7, .int a1, .int 0, .ref 79], (q_kM (q_sA r124 15 (upd (r124.1 15) 1 (vp_nar .boolean 1))) c n))) 6 (fun _ _ => rfl) ?_
            refine q_RT_call (v := (some (.int (q_b (dz_M206 (q_sA r124 15 (upd (r124.1 15) 1 (vp_nar .boolean 1))) a1 7))))) (h2 := (q_kM (q_sA r124 15 (upd (r124.1 15) 1 (vp_nar .boolean 1))) c n)) rfl rfl ((dzt_M206 (q_sA r124 15 (upd (r124.1 15) 1 (vp_nar .boolean 1))) c n a1 7).le (Nat.le_of_ble_eq_true rfl)) ?_
            generalize dz_M206 (q_sA r124 15 (upd (r124.1 15) 1 (vp_nar .boolean 1))) a1 7 = r125
            refine q_RT_let ?_
            show q_RT _ _ _ (67, [(0, .ref 64), (1, .int a1)], [.int (q_b r125), .int 0, .ref 79], (q_kM (q_sA r124 15 (upd (r124.1 15) 1 (vp_nar .boolean 1))) c n)) _ _
            cases h44 : r125 with
            | true =>
              refine q_RT_cT ?_
              show q_RT _ _ _ (67, [(0, .ref 64), (1, .int a1)], [.int 1, .int 0, .ref 79], (q_kM (q_sA r124 15 (upd (r124.1 15) 1 (vp_nar .boolean 1))) c n)) _ _
              generalize (q_sA r124 15 (upd (r124.1 15) 1 (vp_nar .boolean 1))) = r126
              refine q_RT_let ?_
              show q_RT _ _ _ (67, [(0, .ref 64), (1, .int a1)], [.int 1, .int 0, .ref 79], (q_kM r126 c n)) _ _
              refine q_RT_seg (g2 := (68, [(0, .ref 64), (1, .int a1)], [], (q_kM (q_sA r126 15 (upd (r126.1 15) 0 (vp_nar .boolean 1))) c n))) 1 (fun _ _ => rfl) ?_
              exact q_RT_ret rfl rfl rfl
            | false =>
              refine q_RT_cF ?_
              show q_RT _ _ _ (67, [(0, .ref 64), (1, .int a1)], [.int 0, .int 0, .ref 79], (q_kM (q_sA r124 15 (upd (r124.1 15) 1 (vp_nar .boolean 1))) c n)) _ _
              generalize (q_sA r124 15 (upd (r124.1 15) 1 (vp_nar .boolean 1))) = r127
              refine q_RT_let ?_
              show q_RT _ _ _ (67, [(0, .ref 64), (1, .int a1)], [.int 0, .int 0, .ref 79], (q_kM r127 c n)) _ _
              refine q_RT_seg (g2 := (68, [(0, .ref 64), (1, .int a1)], [], (q_kM (q_sA r127 15 (upd (r127.1 15) 0 (vp_nar .boolean 0))) c n))) 1 (fun _ _ => rfl) ?_
              exact q_RT_ret rfl rfl rfl
          | false =>
            refine q_RT_cF ?_
            show q_RT _ _ _ (55, [(0, .ref 64), (1, .int a1)], [.int 0, .int 1, .ref 79], (q_kM (q_sA r122 15 (upd (r122.1 15) 2 (vp_nar .boolean 1))) c n)) _ _
            generalize (q_sA r122 15 (upd (r122.1 15) 2 (vp_nar .boolean 1))) = r128
            refine q_RT_let ?_
            show q_RT _ _ _ (55, [(0, .ref 64), (1, .int a1)], [.int 0, .int 1, .ref 79], (q_kM r128 c n)) _ _
            refine q_RT_seg (g2 := (64, [(0, .ref 64), (1, .int a1)], [.int 7, .int a1, .int 0, .ref 79], (q_kM (q_sA r128 15 (upd (r128.1 15) 1 (vp_nar .boolean 0))) c n))) 6 (fun _ _ => rfl) ?_
            refine q_RT_call (v := (some (.int (q_b (dz_M206 (q_sA r128 15 (upd (r128.1 15) 1 (vp_nar .boolean 0))) a1 7))))) (h2 := (q_kM (q_sA r128 15 (upd (r128.1 15) 1 (vp_nar .boolean 0))) c n)) rfl rfl ((dzt_M206 (q_sA r128 15 (upd (r128.1 15) 1 (vp_nar .boolean 0))) c n a1 7).le (Nat.le_of_ble_eq_true rfl)) ?_
            generalize dz_M206 (q_sA r128 15 (upd (r128.1 15) 1 (vp_nar .boolean 0))) a1 7 = r129
            refine q_RT_let ?_
            show q_RT _ _ _ (67, [(0, .ref 64), (1, .int a1)], [.int (q_b r129), .int 0, .ref 79], (q_kM (q_sA r128 15 (upd (r128.1 15) 1 (vp_nar .boolean 0))) c n)) _ _
            cases h45 : r129 with
            | true =>
              refine q_RT_cT ?_
              show q_RT _ _ _ (67, [(0, .ref 64), (1, .int a1)], [.int 1, .int 0, .ref 79], (q_kM (q_sA r128 15 (upd (r128.1 15) 1 (vp_nar .boolean 0))) c n)) _ _
              generalize (q_sA r128 15 (upd (r128.1 15) 1 (vp_nar .boolean 0))) = r130
              refine q_RT_let ?_
              show q_RT _ _ _ (67, [(0, .ref 64), (1, .int a1)], [.int 1, .int 0, .ref 79], (q_kM r130 c n)) _ _
              refine q_RT_seg (g2 := (68, [(0, .ref 64), (1, .int a1)], [], (q_kM (q_sA r130 15 (upd (r130.1 15) 0 (vp_nar .boolean 1))) c n))) 1 (fun _ _ => rfl) ?_
              exact q_RT_ret rfl rfl rfl
            | false =>
              refine q_RT_cF ?_
              show q_RT _ _ _ (67, [(0, .ref 64), (1, .int a1)], [.int 0, .int 0, .ref 79], (q_kM (q_sA r128 15 (upd (r128.1 15) 1 (vp_nar .boolean 0))) c n)) _ _
              generalize (q_sA r128 15 (upd (r128.1 15) 1 (vp_nar .boolean 0))) = r131
              refine q_RT_let ?_
              show q_RT _ _ _ (67, [(0, .ref 64), (1, .int a1)], [.int 0, .int 0, .ref 79], (q_kM r131 c n)) _ _
              refine q_RT_seg (g2 := (68, [(0, .ref 64), (1, .int a1)], [], (q_kM (q_sA r131 15 (upd (r131.1 15) 0 (vp_nar .boolean 0))) c n))) 1 (fun _ _ => rfl) ?_
              exact q_RT_ret rfl rfl rfl
        | false =>
          refine q_RT_cF ?_
          show q_RT _ _ _ (43, [(0, .ref 64), (1, .int a1)], [.int 0, .int 2, .ref 79], (q_kM (q_sA r120 15 (upd (r120.1 15) 3 (vp_nar .boolean 0))) c n)) _ _
          generalize (q_sA r120 15 (upd (r120.1 15) 3 (vp_nar .boolean 0))) = r132
          refine q_RT_let ?_
          show q_RT _ _ _ (43, [(0, .ref 64), (1, .int a1)], [.int 0, .int 2, .ref 79], (q_kM r132 c n)) _ _
          refine q_RT_seg (g2 := (52, [(0, .ref 64), (1, .int a1)], [.int 6, .int a1, .int 1, .ref 79], (q_kM (q_sA r132 15 (upd (r132.1 15) 2 (vp_nar .boolean 0))) c n))) 6 (fun _ _ => rfl) ?_
          refine q_RT_call (v := (some (.int (q_b (dz_M206 (q_sA r132 15 (upd (r132.1 15) 2 (vp_nar .boolean 0))) a1 6))))) (h2 := (q_kM (q_sA r132 15 (upd (r132.1 15) 2 (vp_nar .boolean 0))) c n)) rfl rfl ((dzt_M206 (q_sA r132 15 (upd (r132.1 15) 2 (vp_nar .boolean 0))) c n a1 6).le (Nat.le_of_ble_eq_true rfl)) ?_
          generalize dz_M206 (q_sA r132 15 (upd (r132.1 15) 2 (vp_nar .boolean 0))) a1 6 = r133
          refine q_RT_let ?_
          show q_RT _ _ _ (55, [(0, .ref 64), (1, .int a1)], [.int (q_b r133), .int 1, .ref 79], (q_kM (q_sA r132 15 (upd (r132.1 15) 2 (vp_nar .boolean 0))) c n)) _ _
          cases h46 : r133 with
          | true =>
            refine q_RT_cT ?_
            show q_RT _ _ _ (55, [(0, .ref 64), (1, .int a1)], [.int 1, .int 1, .ref 79], (q_kM (q_sA r132 15 (upd (r132.1 15) 2 (vp_nar .boolean 0))) c n)) _ _
            generalize (q_sA r132 15 (upd (r132.1 15) 2 (vp_nar .boolean 0))) = r134
            refine q_RT_let ?_
            show q_RT _ _ _ (55, [(0, .ref 64), (1, .int a1)], [.int 1, .int 1, .ref 79], (q_kM r134 c n)) _ _
            refine q_RT_seg (g2 := (64, [(0, .ref 64), (1, .int a1)], [.int 7, .int a1, .int 0, .ref 79], (q_kM (q_sA r134 15 (upd (r134.1 15) 1 (vp_nar .boolean 1))) c n))) 6 (fun _ _ => rfl) ?_
            refine q_RT_call (v := (some (.int (q_b (dz_M206 (q_sA r134 15 (upd (r134.1 15) 1 (vp_nar .boolean 1))) a1 7))))) (h2 := (q_kM (q_sA r134 15 (upd (r134.1 15) 1 (vp_nar .boolean 1))) c n)) rfl rfl ((dzt_M206 (q_sA r134 15 (upd (r134.1 15) 1 (vp_nar .boolean 1))) c n a1 7).le (Nat.le_of_ble_eq_true rfl)) ?_
            generalize dz_M206 (q_sA r134 15 (upd (r134.1 15) 1 (vp_nar .boolean 1))) a1 7 = r135
            refine q_RT_let ?_
            show q_RT _ _ _ (67, [(0, .ref 64), (1, .int a1)], [.int (q_b r135), .int 0, .ref 79], (q_kM (q_sA r134 15 (upd (r134.1 15) 1 (vp_nar .boolean 1))) c n)) _ _
            cases h47 : r135 with
            | true =>
              refine q_RT_cT ?_
              show q_RT _ _ _ (67, [(0, .ref 64), (1, .int a1)], [.int 1, .int 0, .ref 79], (q_kM (q_sA r134 15 (upd (r134.1 15) 1 (vp_nar .boolean 1))) c n)) _ _
              generalize (q_sA r134 15 (upd (r134.1 15) 1 (vp_nar .boolean 1))) = r136
              refine q_RT_let ?_
              show q_RT _ _ _ (67, [(0, .ref 64), (1, .int a1)], [.int 1, .int 0, .ref 79], (q_kM r136 c n)) _ _
              refine q_RT_seg (g2 := (68, [(0, .ref 64), (1, .int a1)], [], (q_kM (q_sA r136 15 (upd (r136.1 15) 0 (vp_nar .boolean 1))) c n))) 1 (fun _ _ => rfl) ?_
              exact q_RT_ret rfl rfl rfl
            | false =>
              refine q_RT_cF ?_
              show q_RT _ _ _ (67, [(0, .ref 64), (1, .int a1)], [.int 0, .int 0, .ref 79], (q_kM (q_sA r134 15 (upd (r134.1 15) 1 (vp_nar .boolean 1))) c n)) _ _
              generalize (q_sA r134 15 (upd (r134.1 15) 1 (vp_nar .boolean 1))) = r137
              refine q_RT_let ?_
              show q_RT _ _ _ (67, [(0, .ref 64), (1, .int a1)], [.int 0, .int 0, .ref 79], (q_kM r137 c n)) _ _
              refine q_RT_seg (g2 := (68, [(0, .ref 64), (1, .int a1)], [], (q_kM (q_sA r137 15 (upd (r137.1 15) 0 (vp_nar .boolean 0))) c n))) 1 (fun _ _ => rfl) ?_
              exact q_RT_ret rfl rfl rfl
          | false =>
            refine q_RT_cF ?_
            show q_RT _ _ _ (55, [(0, .ref 64), (1, .int a1)], [.int 0, .int 1, .ref 79], (q_kM (q_sA r132 15 (upd (r132.1 15) 2 (vp_nar .boolean 0))) c n)) _ _
            generalize (q_sA r132 15 (upd (r132.1 15) 2 (vp_nar .boolean 0))) = r138
            refine q_RT_let ?_
            show q_RT _ _ _ (55, [(0, .ref 64), (1, .int a1)], [.int 0, .int 1, .ref 79], (q_kM r138 c n)) _ _
            refine q_RT_seg (g2 := (64, [(0, .ref 64), (1, .int a1)], [.int 7, .int a1, .int 0, .ref 79], (q_kM (q_sA r138 15 (upd (r138.1 15) 1 (vp_nar .boolean 0))) c n))) 6 (fun _ _ => rfl) ?_
            refine q_RT_call (v := (some (.int (q_b (dz_M206 (q_sA r138 15 (upd (r138.1 15) 1 (vp_nar .boolean 0))) a1 7))))) (h2 := (q_kM (q_sA r138 15 (upd (r138.1 15) 1 (vp_nar .boolean 0))) c n)) rfl rfl ((dzt_M206 (q_sA r138 15 (upd (r138.1 15) 1 (vp_nar .boolean 0))) c n a1 7).le (Nat.le_of_ble_eq_true rfl)) ?_
            generalize dz_M206 (q_sA r138 15 (upd (r138.1 15) 1 (vp_nar .boolean 0))) a1 7 = r139
            refine q_RT_let ?_
            show q_RT _ _ _ (67, [(0, .ref 64), (1, .int a1)], [.int (q_b r139), .int 0, .ref 79], (q_kM (q_sA r138 15 (upd (r138.1 15) 1 (vp_nar .boolean 0))) c n)) _ _
            cases h48 : r139 with
            | true =>
              refine q_RT_cT ?_
              show q_RT _ _ _ (67, [(0, .ref 64), (1, .int a1)], [.int 1, .int 0, .ref 79], (q_kM (q_sA r138 15 (upd (r138.1 15) 1 (vp_nar .boolean 0))) c n)) _ _
              generalize (q_sA r138 15 (upd (r138.1 15) 1 (vp_nar .boolean 0))) = r140
              refine q_RT_let ?_
              show q_RT _ _ _ (67, [(0, .ref 64), (1, .int a1)], [.int 1, .int 0, .ref 79], (q_kM r140 c n)) _ _
              refine q_RT_seg (g2 := (68, [(0, .ref 64), (1, .int a1)], [], (q_kM (q_sA r140 15 (upd (r140.1 15) 0 (vp_nar .boolean 1))) c n))) 1 (fun _ _ => rfl) ?_
              exact q_RT_ret rfl rfl rfl
            | false =>
              refine q_RT_cF ?_
              show q_RT _ _ _ (67, [(0, .ref 64), (1, .int a1)], [.int 0, .int 0, .ref 79], (q_kM (q_sA r138 15 (upd (r138.1 15) 1 (vp_nar .boolean 0))) c n)) _ _
              generalize (q_sA r138 15 (upd (r138.1 15) 1 (vp_nar .boolean 0))) = r141
              refine q_RT_let ?_
              show q_RT _ _ _ (67, [(0, .ref 64), (1, .int a1)], [.int 0, .int 0, .ref 79], (q_kM r141 c n)) _ _
              refine q_RT_seg (g2 := (68, [(0, .ref 64), (1, .int a1)], [], (q_kM (q_sA r141 15 (upd (r141.1 15) 0 (vp_nar .boolean 0))) c n))) 1 (fun _ _ => rfl) ?_
              exact q_RT_ret rfl rfl rfl
    | false =>
      refine q_RT_cF ?_
      show q_RT _ _ _ (21, [(0, .ref 64), (1, .int a1)], [.int 0, .int 4, .ref 79], (q_kM (q_sA s 15 (upd (s.1 15) 5 (vp_nar .boolean 0))) c n)) _ _
      generalize (q_sA s 15 (upd (s.1 15) 5 (vp_nar .boolean 0))) = r142
      refine q_RT_let ?_
      show q_RT _ _ _ (21, [(0, .ref 64), (1, .int a1)], [.int 0, .int 4, .ref 79], (q_kM r142 c n)) _ _
      refine q_RT_seg (g2 := (29, [(0, .ref 64), (1, .int a1)], [.int 2, .int a1, .int 3, .ref 79], (q_kM (q_sA r142 15 (upd (r142.1 15) 4 (vp_nar .boolean 0))) c n))) 6 (fun _ _ => rfl) ?_
      refine q_RT_call (v := (some (.int (q_b (dz_M206 (q_sA r142 15 (upd (r142.1 15) 4 (vp_nar .boolean 0))) a1 2))))) (h2 := (q_kM (q_sA r142 15 (upd (r142.1 15) 4 (vp_nar .boolean 0))) c n)) rfl rfl ((dzt_M206 (q_sA r142 15 (upd (r142.1 15) 4 (vp_nar .boolean 0))) c n a1 2).le (Nat.le_of_ble_eq_true rfl)) ?_
      generalize dz_M206 (q_sA r142 15 (upd (r142.1 15) 4 (vp_nar .boolean 0))) a1 2 = r143
      refine q_RT_let ?_
      show q_RT _ _ _ (32, [(0, .ref 64), (1, .int a1)], [.int (q_b r143), .int 3, .ref 79], (q_kM (q_sA r142 15 (upd (r142.1 15) 4 (vp_nar .boolean 0))) c n)) _ _
      cases h49 : r143 with
      | true =>
        refine q_RT_cT ?_
        show q_RT _ _ _ (32, [(0, .ref 64), (1, .int a1)], [.int 1, .int 3, .ref 79], (q_kM (q_sA r142 15 (upd (r142.1 15) 4 (vp_nar .boolean 0))) c n)) _ _
        generalize (q_sA r142 15 (upd (r142.1 15) 4 (vp_nar .boolean 0))) = r144
        refine q_RT_let ?_
        show q_RT _ _ _ (32, [(0, .ref 64), (1, .int a1)], [.int 1, .int 3, .ref 79], (q_kM r144 c n)) _ _
        refine q_RT_seg (g2 := (40, [(0, .ref 64), (1, .int a1)], [.int 3, .int a1, .int 2, .ref 79], (q_kM (q_sA r144 15 (upd (r144.1 15) 3 (vp_nar .boolean 1))) c n))) 6 (fun _ _ => rfl) ?_
        refine q_RT_call (v := (some (.int (q_b (dz_M206 (q_sA r144 15 (upd (r144.1 15) 3 (vp_nar .boolean 1))) a1 3))))) (h2 := (q_kM (q_sA r144 15 (upd (r144.1 15) 3 (vp_nar .boolean 1))) c n)) rfl rfl ((dzt_M206 (q_sA r144 15 (upd (r144.1 15) 3 (vp_nar .boolean 1))) c n a1 3).le (Nat.le_of_ble_eq_true rfl)) ?_
        generalize dz_M206 (q_sA r144 15 (upd (r144.1 15) 3 (vp_nar .boolean 1))) a1 3 = r145
        refine q_RT_let ?_
        show q_RT _ _ _ (43, [(0, .ref 64), (1, .int a1)], [.int (q_b r145), .int 2, .ref 79], (q_kM (q_sA r144 15 (upd (r144.1 15) 3 (vp_nar .boolean 1))) c n)) _ _
        cases h50 : r145 with
        | true =>
          refine q_RT_cT ?_
          show q_RT _ _ _ (43, [(0, .ref 64), (1, .int a1)], [.int 1, .int 2, .ref 79], (q_kM (q_sA r144 15 (upd (r144.1 15) 3 (vp_nar .boolean 1))) c n)) _ _
          generalize (q_sA r144 15 (upd (r144.1 15) 3 (vp_nar .boolean 1))) = r146
          refine q_RT_let ?_
          show q_RT _ _ _ (43, [(0, .ref 64), (1, .int a1)], [.int 1, .int 2, .ref 79], (q_kM r146 c n)) _ _
          refine q_RT_seg (g2 := (52, [(0, .ref 64), (1, .int a1)], [.int 6, .int a1, .int 1, .ref 79], (q_kM (q_sA r146 15 (upd (r146.1 15) 2 (vp_nar .boolean 1))) c n))) 6 (fun _ _ => rfl) ?_
          refine q_RT_call (v := (some (.int (q_b (dz_M206 (q_sA r146 15 (upd (r146.1 15) 2 (vp_nar .boolean 1))) a1 6))))) (h2 := (q_kM (q_sA r146 15 (upd (r146.1 15) 2 (vp_nar .boolean 1))) c n)) rfl rfl ((dzt_M206 (q_sA r146 15 (upd (r146.1 15) 2 (vp_nar .boolean 1))) c n a1 6).le (Nat.le_of_ble_eq_true rfl)) ?_
          generalize dz_M206 (q_sA r146 15 (upd (r146.1 15) 2 (vp_nar .boolean 1))) a1 6 = r147
          refine q_RT_let ?_
          show q_RT _ _ _ (55, [(0, .ref 64), (1, .int a1)], [.int (q_b r147), .int 1, .ref 79], (q_kM (q_sA r146 15 (upd (r146.1 15) 2 (vp_nar .boolean 1))) c n)) _ _
          cases h51 : r147 with
          | true =>
            refine q_RT_cT ?_
            show q_RT _ _ _ (55, [(0, .ref 64), (1, .int a1)], [.int 1, .int 1, .ref 79], (q_kM (q_sA r146 15 (upd (r146.1 15) 2 (vp_nar .boolean 1))) c n)) _ _
            generalize (q_sA r146 15 (upd (r146.1 15) 2 (vp_nar .boolean 1))) = r148
            refine q_RT_let ?_
            show q_RT _ _ _ (55, [(0, .ref 64), (1, .int a1)], [.int 1, .int 1, .ref 79], (q_kM r148 c n)) _ _
            refine q_RT_seg (g2 := (64, [(0, .ref 64), (1, .int a1)], [.int 7, .int a1, .int 0, .ref 79], (q_kM (q_sA r148 15 (upd (r148.1 15) 1 (vp_nar .boolean 1))) c n))) 6 (fun _ _ => rfl) ?_
            refine q_RT_call (v := (some (.int (q_b (dz_M206 (q_sA r148 15 (upd (r148.1 15) 1 (vp_nar .boolean 1))) a1 7))))) (h2 := (q_kM (q_sA r148 15 (upd (r148.1 15) 1 (vp_nar .boolean 1))) c n)) rfl rfl ((dzt_M206 (q_sA r148 15 (upd (r148.1 15) 1 (vp_nar .boolean 1))) c n a1 7).le (Nat.le_of_ble_eq_true rfl)) ?_
            generalize dz_M206 (q_sA r148 15 (upd (r148.1 15) 1 (vp_nar .boolean 1))) a1 7 = r149
            refine q_RT_let ?_
            show q_RT _ _ _ (67, [(0, .ref 64), (1, .int a1)], [.int (q_b r149), .int 0, .ref 79], (q_kM (q_sA r148 15 (upd (r148.1 15) 1 (vp_nar .boolean 1))) c n)) _ _
            cases h52 : r149 with
            | true =>
              refine q_RT_cT ?_
              show q_RT _ _ _ (67, [(0, .ref 64), (1, .int a1)], [.int 1, .int 0, .ref 79], (q_kM (q_sA r148 15 (upd (r148.1 15) 1 (vp_nar .boolean 1))) c n)) _ _
              generalize (q_sA r148 15 (upd (r148.1 15) 1 (vp_nar .boolean 1))) = r150
              refine q_RT_let ?_
              show q_RT _ _ _ (67, [(0, .ref 64), (1, .int a1)], [.int 1, .int 0, .ref 79], (q_kM r150 c n)) _ _
              refine q_RT_seg (g2 := (68, [(0, .ref 64), (1, .int a1)], [], (q_kM (q_sA r150 15 (upd (r150.1 15) 0 (vp_nar .boolean 1))) c n))) 1 (fun _ _ => rfl) ?_
              exact q_RT_ret rfl rfl rfl
            | false =>
              refine q_RT_cF ?_
              show q_RT _ _ _ (67, [(0, .ref 64), (1, .int a1)], [.int 0, .int 0, .ref 79], (q_kM (q_sA r148 15 (upd (r148.1 15) 1 (vp_nar .boolean 1))) c n)) _ _
              generalize (q_sA r148 15 (upd (r148.1 15) 1 (vp_nar .boolean 1))) = r151
              refine q_RT_let ?_
              show q_RT _ _ _ (67, [(0, .ref 64), (1, .int a1)], [.int 0, .int 0, .ref 79], (q_kM r151 c n)) _ _
              refine q_RT_seg (g2 := (68, [(0, .ref 64), (1, .int a1)], [], (q_kM (q_sA r151 15 (upd (r151.1 15) 0 (vp_nar .boolean 0))) c n))) 1 (fun _ _ => rfl) ?_
              exact q_RT_ret rfl rfl rfl
          | false =>
            refine q_RT_cF ?_
            show q_RT _ _ _ (55, [(0, .ref 64), (1, .int a1)], [.int 0, .int 1, .ref 79], (q_kM (q_sA r146 15 (upd (r146.1 15) 2 (vp_nar .boolean 1))) c n)) _ _
            generalize (q_sA r146 15 (upd (r146.1 15) 2 (vp_nar .boolean 1))) = r152
            refine q_RT_let ?_
            show q_RT _ _ _ (55, [(0, .ref 64), (1, .int a1)], [.int 0, .int 1, .ref 79], (q_kM r152 c n)) _ _
            refine q_RT_seg (g2 := (64, [(0, .ref 64), (1, .int a1)], [.int 7, .int a1, .int 0, .ref 79], (q_kM (q_sA r152 15 (upd (r152.1 15) 1 (vp_nar .boolean 0))) c n))) 6 (fun _ _ => rfl) ?_
            refine q_RT_call (v := (some (.int (q_b (dz_M206 (q_sA r152 15 (upd (r152.1 15) 1 (vp_nar .boolean 0))) a1 7))))) (h2 := (q_kM (q_sA r152 15 (upd (r152.1 15) 1 (vp_nar .boolean 0))) c n)) rfl rfl ((dzt_M206 (q_sA r152 15 (upd (r152.1 15) 1 (vp_nar .boolean 0))) c n a1 7).le (Nat.le_of_ble_eq_true rfl)) ?_
            generalize dz_M206 (q_sA r152 15 (upd (r152.1 15) 1 (vp_nar .boolean 0))) a1 7 = r153
            refine q_RT_let ?_
            show q_RT _ _ _ (67, [(0, .ref 64), (1, .int a1)], [.int (q_b r153), .int 0, .ref 79], (q_kM (q_sA r152 15 (upd (r152.1 15) 1 (vp_nar .boolean 0))) c n)) _ _
            cases h53 : r153 with
            | true =>
              refine q_RT_cT ?_
              show q_RT _ _ _ (67, [(0, .ref 64), (1, .int a1)], [.int 1, .int 0, .ref 79], (q_kM (q_sA r152 15 (upd (r152.1 15) 1 (vp_nar .boolean 0))) c n)) _ _
              generalize (q_sA r152 15 (upd (r152.1 15) 1 (vp_nar .boolean 0))) = r154
              refine q_RT_let ?_
              show q_RT _ _ _ (67, [(0, .ref 64), (1, .int a1)], [.int 1, .int 0, .ref 79], (q_kM r154 c n)) _ _
              refine q_RT_seg (g2 := (68, [(0, .ref 64), (1, .int a1)], [], (q_kM (q_sA r154 15 (upd (r154.1 15) 0 (vp_nar .boolean 1))) c n))) 1 (fun _ _ => rfl) ?_
              exact q_RT_ret rfl rfl rfl
            | false =>
              refine q_RT_cF ?_
              show q_RT _ _ _ (67, [(0, .ref 64), (1, .int a1)], [.int 0, .int 0, .ref 79], (q_kM (q_sA r152 15 (upd (r152.1 15) 1 (vp_nar .boolean 0))) c n)) _ _
              generalize (q_sA r152 15 (upd (r152.1 15) 1 (vp_nar .boolean 0))) = r155
              refine q_RT_let ?_
              show q_RT _ _ _ (67, [(0, .ref 64), (1, .int a1)], [.int 0, .int 0, .ref 79], (q_kM r155 c n)) _ _
              refine q_RT_seg (g2 := (68, [(0, .ref 64), (1, .int a1)], [], (q_kM (q_sA r155 15 (upd (r155.1 15) 0 (vp_nar .boolean 0))) c n))) 1 (fun _ _ => rfl) ?_
              exact q_RT_ret rfl rfl rfl
        | false =>
          refine q_RT_cF ?_
          show q_RT _ _ _ (43, [(0, .ref 64), (1, .int a1)], [.int 0, .int 2, .ref 79], (q_kM (q_sA r144 15 (upd (r144.1 15) 3 (vp_nar .boolean 1))) c n)) _ _
          generalize (q_sA r144 15 (upd (r144.1 15) 3 (vp_nar .boolean 1))) = r156
          refine q_RT_let ?_
          show q_RT _ _ _ (43, [(0, .ref 64), (1, .int a1)], [.int 0, .int 2, .ref 79], (q_kM r156 c n)) _ _
          refine q_RT_seg (g2 := (52, [(0, .ref 64), (1, .int a1)], [.int 6, .int a1, .int 1, .ref 79], (q_kM (q_sA r156 15 (upd (r156.1 15) 2 (vp_nar .boolean 0))) c n))) 6 (fun _ _ => rfl) ?_
          refine q_RT_call (v := (some (.int (q_b (dz_M206 (q_sA r156 15 (upd (r156.1 15) 2 (vp_nar .boolean 0))) a1 6))))) (h2 := (q_kM (q_sA r156 15 (upd (r156.1 15) 2 (vp_nar .boolean 0))) c n)) rfl rfl ((dzt_M206 (q_sA r156 15 (upd (r156.1 15) 2 (vp_nar .boolean 0))) c n a1 6).le (Nat.le_of_ble_eq_true rfl)) ?_
          generalize dz_M206 (q_sA r156 15 (upd (r156.1 15) 2 (vp_nar .boolean 0))) a1 6 = r157
          refine q_RT_let ?_
          show q_RT _ _ _ (55, [(0, .ref 64), (1, .int a1)], [.int (q_b r157), .int 1, .ref 79], (q_kM (q_sA r156 15 (upd (r156.1 15) 2 (vp_nar .boolean 0))) c n)) _ _
          cases h54 : r157 with
          | true =>
            refine q_RT_cT ?_
            show q_RT _ _ _ (55, [(0, .ref 64), (1, .int a1)], [.int 1, .int 1, .ref 79], (q_kM (q_sA r156 15 (upd (r156.1 15) 2 (vp_nar .boolean 0))) c n)) _ _
            generalize (q_sA r156 15 (upd (r156.1 15) 2 (vp_nar .boolean 0))) = r158
            refine q_RT_let ?_
            show q_RT _ _ _ (55, [(0, .ref 64), (1, .int a1)], [.int 1, .int 1, .ref 79], (q_kM r158 c n)) _ _
            refine q_RT_seg (g2 := (64, [(0, .ref 64), (1, .int a1)], [.int 7, .int a1, .int 0, .ref 79], (q_kM (q_sA r158 15 (upd (r158.1 15) 1 (vp_nar .boolean 1))) c n))) 6 (fun _ _ => rfl) ?_
            refine q_RT_call (v := (some (.int (q_b (dz_M206 (q_sA r158 15 (upd (r158.1 15) 1 (vp_nar .boolean 1))) a1 7))))) (h2 := (q_kM (q_sA r158 15 (upd (r158.1 15) 1 (vp_nar .boolean 1))) c n)) rfl rfl ((dzt_M206 (q_sA r158 15 (upd (r158.1 15) 1 (vp_nar .boolean 1))) c n a1 7).le (Nat.le_of_ble_eq_true rfl)) ?_
            generalize dz_M206 (q_sA r158 15 (upd (r158.1 15) 1 (vp_nar .boolean 1))) a1 7 = r159
            refine q_RT_let ?_
            show q_RT _ _ _ (67, [(0, .ref 64), (1, .int a1)], [.int (q_b r159), .int 0, .ref 79], (q_kM (q_sA r158 15 (upd (r158.1 15) 1 (vp_nar .boolean 1))) c n)) _ _
            cases h55 : r159 with
            | true =>
              refine q_RT_cT ?_
              show q_RT _ _ _ (67, [(0, .ref 64), (1, .int a1)], [.int 1, .int 0, .ref 79], (q_kM (q_sA r158 15 (upd (r158.1 15) 1 (vp_nar .boolean 1))) c n)) _ _
              generalize (q_sA r158 15 (upd (r158.1 15) 1 (vp_nar .boolean 1))) = r160
              refine q_RT_let ?_
              show q_RT _ _ _ (67, [(0, .ref 64), (1, .int a1)], [.int 1, .int 0, .ref 79], (q_kM r160 c n)) _ _
              refine q_RT_seg (g2 := (68, [(0, .ref 64), (1, .int a1)], [], (q_kM (q_sA r160 15 (upd (r160.1 15) 0 (vp_nar .boolean 1))) c n))) 1 (fun _ _ => rfl) ?_
              exact q_RT_ret rfl rfl rfl
            | false =>
              refine q_RT_cF ?_
              show q_RT _ _ _ (67, [(0, .ref 64), (1, .int a1)], [.int 0, .int 0, .ref 79], (q_kM (q_sA r158 15 (upd (r158.1 15) 1 (vp_nar .boolean 1))) c n)) _ _
              generalize (q_sA r158 15 (upd (r158.1 15) 1 (vp_nar .boolean 1))) = r161
              refine q_RT_let ?_
              show q_RT _ _ _ (67, [(0, .ref 64), (1, .int a1)], [.int 0, .int 0, .ref 79], (q_kM r161 c n)) _ _
              refine q_RT_seg (g2 := (68, [(0, .ref 64), (1, .int a1)], [], (q_kM (q_sA r161 15 (upd (r161.1 15) 0 (vp_nar .boolean 0))) c n))) 1 (fun _ _ => rfl) ?_
              exact q_RT_ret rfl rfl rfl
          | false =>
            refine q_RT_cF ?_
            show q_RT _ _ _ (55, [(0, .ref 64), (1, .int a1)], [.int 0, .int 1, .ref 79], (q_kM (q_sA r156 15 (upd (r156.1 15) 2 (vp_nar .boolean 0))) c n)) _ _
            generalize (q_sA r156 15 (upd (r156.1 15) 2 (vp_nar .boolean 0))) = r162
            refine q_RT_let ?_
            show q_RT _ _ _ (55, [(0, .ref 64), (1, .int a1)], [.int 0, .int 1, .ref 79], (q_kM r162 c n)) _ _
            refine q_RT_seg (g2 := (64, [(0, .ref 64), (1, .int a1)], [.int 7, .int a1, .int 0, .ref 79], (q_kM (q_sA r162 15 (upd (r162.1 15) 1 (vp_nar .boolean 0))) c n))) 6 (fun _ _ => rfl) ?_
            refine q_RT_call (v := (some (.int (q_b (dz_M206 (q_sA r162 15 (upd (r162.1 15) 1 (vp_nar .boolean 0))) a1 7))))) (h2 := (q_kM (q_sA r162 15 (upd (r162.1 15) 1 (vp_nar .boolean 0))) c n)) rfl rfl ((dzt_M206 (q_sA r162 15 (upd (r162.1 15) 1 (vp_nar .boolean 0))) c n a1 7).le (Nat.le_of_ble_eq_true rfl)) ?_
            generalize dz_M206 (q_sA r162 15 (upd (r162.1 15) 1 (vp_nar .boolean 0))) a1 7 = r163
            refine q_RT_let ?_
            show q_RT _ _ _ (67, [(0, .ref 64), (1, .int a1)], [.int (q_b r163), .int 0, .ref 79], (q_kM (q_sA r162 15 (upd (r162.1 15) 1 (vp_nar .boolean 0))) c n)) _ _
            cases h56 : r163 with
            | true =>
              refine q_RT_cT ?_
              show q_RT _ _ _ (67, [(0, .ref 64), (1, .int a1)], [.int 1, .int 0, .ref 79], (q_kM (q_sA r162 15 (upd (r162.1 15) 1 (vp_nar .boolean 0))) c n)) _ _
              generalize (q_sA r162 15 (upd (r162.1 15) 1 (vp_nar .boolean 0))) = r164
              refine q_RT_let ?_
              show q_RT _ _ _ (67, [(0, .ref 64), (1, .int a1)], [.int 1, .int 0, .ref 79], (q_kM r164 c n)) _ _
              refine q_RT_seg (g2 := (68, [(0, .ref 64), (1, .int a1)], [], (q_kM (q_sA r164 15 (upd (r164.1 15) 0 (vp_nar .boolean 1))) c n))) 1 (fun _ _ => rfl) ?_
              exact q_RT_ret rfl rfl rfl
            | false =>
              refine q_RT_cF ?_
              show q_RT _ _ _ (67, [(0, .ref 64), (1, .int a1)], [.int 0, .int 0, .ref 79], (q_kM (q_sA r162 15 (upd (r162.1 15) 1 (vp_nar .boolean 0))) c n)) _ _
              generalize (q_sA r162 15 (upd (r162.1 15) 1 (vp_nar .boolean 0))) = r165
              refine q_RT_let ?_
              show q_RT _ _ _ (67, [(0, .ref 64), (1, .int a1)], [.int 0, .int 0, .ref 79], (q_kM r165 c n)) _ _
              refine q_RT_seg (g2 := (68, [(0, .ref 64), (1, .int a1)], [], (q_kM (q_sA r165 15 (upd (r165.1 15) 0 (vp_nar .boolean 0))) c n))) 1 (fun _ _ => rfl) ?_
              exact q_RT_ret rfl rfl rfl
      | false =>
        refine q_RT_cF ?_
        show q_RT _ _ _ (32, [(0, .ref 64), (1, .int a1)], [.int 0, .int 3, .ref 79], (q_kM (q_sA r142 15 (upd (r142.1 15) 4 (vp_nar .boolean 0))) c n)) _ _
        generalize (q_sA r142 15 (upd (r142.1 15) 4 (vp_nar .boolean 0))) = r166
        refine q_RT_let ?_
        show q_RT _ _ _ (32, [(0, .ref 64), (1, .int a1)], [.int 0, .int 3, .ref 79], (q_kM r166 c n)) _ _
        refine q_RT_seg (g2 := (40, [(0, .ref 64), (1, .int a1)], [.int 3, .int a1, .int 2, .ref 79], (q_kM (q_sA r166 15 (upd (r166.1 15) 3 (vp_nar .boolean 0))) c n))) 6 (fun _ _ => rfl) ?_
        refine q_RT_call (v := (some (.int (q_b (dz_M206 (q_sA r166 15 (upd (r166.1 15) 3 (vp_nar .boolean 0))) a1 3))))) (h2 := (q_kM (q_sA r166 15 (upd (r166.1 15) 3 (vp_nar .boolean 0))) c n)) rfl rfl ((dzt_M206 (q_sA r166 15 (upd (r166.1 15) 3 (vp_nar .boolean 0))) c n a1 3).le (Nat.le_of_ble_eq_true rfl)) ?_
        generalize dz_M206 (q_sA r166 15 (upd (r166.1 15) 3 (vp_nar .boolean 0))) a1 3 = r167
        refine q_RT_let ?_
        show q_RT _ _ _ (43, [(0, .ref 64), (1, .int a1)], [.int (q_b r167), .int 2, .ref 79], (q_kM (q_sA r166 15 (upd (r166.1 15) 3 (vp_nar .boolean 0))) c n)) _ _
        cases h57 : r167 with
        | true =>
          refine q_RT_cT ?_
          show q_RT _ _ _ (43, [(0, .ref 64), (1, .int a1)], [.int 1, .int 2, .ref 79], (q_kM (q_sA r166 15 (upd (r166.1 15) 3 (vp_nar .boolean 0))) c n)) _ _
          generalize (q_sA r166 15 (upd (r166.1 15) 3 (vp_nar .boolean 0))) = r168
          refine q_RT_let ?_
          show q_RT _ _ _ (43, [(0, .ref 64), (1, .int a1)], [.int 1, .int 2, .ref 79], (q_kM r168 c n)) _ _
          refine q_RT_seg (g2 := (52, [(0, .ref 64), (1, .int a1)], [.int 6, .int a1, .int 1, .ref 79], (q_kM (q_sA r168 15 (upd (r168.1 15) 2 (vp_nar .boolean 1))) c n))) 6 (fun _ _ => rfl) ?_
          refine q_RT_call (v := (some (.int (q_b (dz_M206 (q_sA r168 15 (upd (r168.1 15) 2 (vp_nar .boolean 1))) a1 6))))) (h2 := (q_kM (q_sA r168 15 (upd (r168.1 15) 2 (vp_nar .boolean 1))) c n)) rfl rfl ((dzt_M206 (q_sA r168 15 (upd (r168.1 15) 2 (vp_nar .boolean 1))) c n a1 6).le (Nat.le_of_ble_eq_true rfl)) ?_
          generalize dz_M206 (q_sA r168 15 (upd (r168.1 15) 2 (vp_nar .boolean 1))) a1 6 = r169
          refine q_RT_let ?_
          show q_RT _ _ _ (55, [(0, .ref 64), (1, .int a1)], [.int (q_b r169), .int 1, .ref 79], (q_kM (q_sA r168 15 (upd (r168.1 15) 2 (vp_nar .boolean 1))) c n)) _ _
          cases h58 : r169 with
          | true =>
            refine q_RT_cT ?_
            show q_RT _ _ _ (55, [(0, .ref 64), (1, .int a1)], [.int 1, .int 1, .ref 79], (q_kM (q_sA r168 15 (upd (r168.1 15) 2 (vp_nar .boolean 1))) c n)) _ _
            generalize (q_sA r168 15 (upd (r168.1 15) 2 (vp_nar .boolean 1))) = r170
            refine q_RT_let ?_
            show q_RT _ _ _ (55, [(0, .ref 64), (1, .int a1)], [.int 1, .int 1, .ref 79], (q_kM r170 c n)) _ _
            refine q_RT_seg (g2 := (64, [(0, .ref 64), (1, .int a1)], [.int 7, .int a1, .int 0, .ref 79], (q_kM (q_sA r170 15 (upd (r170.1 15) 1 (vp_nar .boolean 1))) c n))) 6 (fun _ _ => rfl) ?_
            refine q_RT_call (v := (some (.int (q_b (dz_M206 (q_sA r170 15 (upd (r170.1 15) 1 (vp_nar .boolean 1))) a1 7))))) (h2 := (q_kM (q_sA r170 15 (upd (r170.1 15) 1 (vp_nar .boolean 1))) c n)) rfl rfl ((dzt_M206 (q_sA r170 15 (upd (r170.1 15) 1 (vp_nar .boolean 1))) c n a1 7).le (Nat.le_of_ble_eq_true rfl)) ?_
            generalize dz_M206 (q_sA r170 15 (upd (r170.1 15) 1 (vp_nar .boolean 1))) a1 7 = r171
            refine q_RT_let ?_
            show q_RT _ _ _ (67, [(0, .ref 64), (1, .int a1)], [.int (q_b r171), .int 0, .ref 79], (q_kM (q_sA r170 15 (upd (r170.1 15) 1 (vp_nar .boolean 1))) c n)) _ _
            cases h59 : r171 with
            | true =>
              refine q_RT_cT ?_
              show q_RT _ _ _ (67, [(0, .ref 64), (1, .int a1)], [.int 1, .int 0, .ref 79], (q_kM (q_sA r170 15 (upd (r170.1 15) 1 (vp_nar .boolean 1))) c n)) _ _
              generalize (q_sA r170 15 (upd (r170.1 15) 1 (vp_nar .boolean 1))) = r172
              refine q_RT_let ?_
              show q_RT _ _ _ (67, [(0, .ref 64), (1, .int a1)], [.int 1, .int 0, .ref 79], (q_kM r172 c n)) _ _
              refine q_RT_seg (g2 := (68, [(0, .ref 64), (1, .int a1)], [], (q_kM (q_sA r172 15 (upd (r172.1 15) 0 (vp_nar .boolean 1))) c n))) 1 (fun _ _ => rfl) ?_
              exact q_RT_ret rfl rfl rfl
            | false =>
              refine q_RT_cF ?_
              show q_RT _ _ _ (67, [(0, .ref 64), (1, .int a1)], [.int 0, .int 0, .ref 79], (q_kM (q_sA r170 15 (upd (r170.1 15) 1 (vp_nar .boolean 1))) c n)) _ _
              generalize (q_sA r170 15 (upd (r170.1 15) 1 (vp_nar .boolean 1))) = r173
              refine q_RT_let ?_
              show q_RT _ _ _ (67, [(0, .ref 64), (1, .int a1)], [.int 0, .int 0, .ref 79], (q_kM r173 c n)) _ _
              refine q_RT_seg (g2 := (68, [(0, .ref 64), (1, .int a1)], [], (q_kM (q_sA r173 15 (upd (r173.1 15) 0 (vp_nar .boolean 0))) c n))) 1 (fun _ _ => rfl) ?_
              exact q_RT_ret rfl rfl rfl
          | false =>
            refine q_RT_cF ?_
            show q_RT _ _ _ (55, [(0, .ref 64), (1, .int a1)], [.int 0, .int 1, .ref 79], (q_kM (q_sA r168 15 (upd (r168.1 15) 2 (vp_nar .boolean 1))) c n)) _ _
            generalize (q_sA r168 15 (upd (r168.1 15) 2 (vp_nar .boolean 1))) = r174
            refine q_RT_let ?_
            show q_RT _ _ _ (55, [(0, .ref 64), (1, .int a1)], [.int 0, .int 1, .ref 79], (q_kM r174 c n)) _ _
            refine q_RT_seg (g2 := (64, [(0, .ref 64), (1, .int a1)], [.int 7, .int a1, .int 0, .ref 79], (q_kM (q_sA r174 15 (upd (r174.1 15) 1 (vp_nar .boolean 0))) c n))) 6 (fun _ _ => rfl) ?_
            refine q_RT_call (v := (some (.int (q_b (dz_M206 (q_sA r174 15 (upd (r174.1 15) 1 (vp_nar .boolean 0))) a1 7))))) (h2 := (q_kM (q_sA r174 15 (upd (r174.1 15) 1 (vp_nar .boolean 0))) c n)) rfl rfl ((dzt_M206 (q_sA r174 15 (upd (r174.1 15) 1 (vp_nar .boolean 0))) c n a1 7).le (Nat.le_of_ble_eq_true rfl)) ?_
            generalize dz_M206 (q_sA r174 15 (upd (r174.1 15) 1 (vp_nar .boolean 0))) a1 7 = r175
            refine q_RT_let ?_
            show q_RT _ _ _ (67, [(0, .ref 64), (1, .int a1)], [.int (q_b r175), .int 0, .ref 79], (q_kM (q_sA r174 15 (upd (r174.1 15) 1 (vp_nar .boolean 0))) c n)) _ _
            cases h60 : r175 with
            | true =>
              refine q_RT_cT ?_
              show q_RT _ _ _ (67, [(0, .ref 64), (1, .int a1)], [.int 1, .int 0, .ref 79], (q_kM (q_sA r174 15 (upd (r174.1 15) 1 (vp_nar .boolean 0))) c n)) _ _
              generalize (q_sA r174 15 (upd (r174.1 15) 1 (vp_nar .boolean 0))) = r176
              refine q_RT_let ?_
              show q_RT _ _ _ (67, [(0, .ref 64), (1, .int a1)], [.int 1, .int 0, .ref 79], (q_kM r176 c n)) _ _
              refine q_RT_seg (g2 := (68, [(0, .ref 64), (1, .int a1)], [], (q_kM (q_sA r176 15 (upd (r176.1 15) 0 (vp_nar .boolean 1))) c n))) 1 (fun _ _ => rfl) ?_
              exact q_RT_ret rfl rfl rfl
            | false =>
              refine q_RT_cF ?_
              show q_RT _ _ _ (67, [(0, .ref 64), (1, .int a1)], [.int 0, .int 0, .ref 79], (q_kM (q_sA r174 15 (upd (r174.1 15) 1 (vp_nar .boolean 0))) c n)) _ _
              generalize (q_sA r174 15 (upd (r174.1 15) 1 (vp_nar .boolean 0))) = r177
              refine q_RT_let ?_
              show q_RT _ _ _ (67, [(0, .ref 64), (1, .int a1)], [.int 0, .int 0, .ref 79], (q_kM r177 c n)) _ _
              refine q_RT_seg (g2 := (68, [(0, .ref 64), (1, .int a1)], [], (q_kM (q_sA r177 15 (upd (r177.1 15) 0 (vp_nar .boolean 0))) c n))) 1 (fun _ _ => rfl) ?_
              exact q_RT_ret rfl rfl rfl
        | false =>
          refine q_RT_cF ?_
          show q_RT _ _ _ (43, [(0, .ref 64), (1, .int a1)], [.int 0, .int 2, .ref 79], (q_kM (q_sA r166 15 (upd (r166.1 15) 3 (vp_nar .boolean 0))) c n)) _ _
          generalize (q_sA r166 15 (upd (r166.1 15) 3 (vp_nar .boolean 0))) = r178
          refine q_RT_let ?_
          show q_RT _ _ _ (43, [(0, .ref 64), (1, .int a1)], [.int 0, .int 2, .ref 79], (q_kM r178 c n)) _ _
          refine q_RT_seg (g2 := (52, [(0, .ref 64), (1, .int a1)], [.int 6, .int a1, .int 1, .ref 79], (q_kM (q_sA r178 15 (upd (r178.1 15) 2 (vp_nar .boolean 0))) c n))) 6 (fun _ _ => rfl) ?_
          refine q_RT_call (v := (some (.int (q_b (dz_M206 (q_sA r178 15 (upd (r178.1 15) 2 (vp_nar .boolean 0))) a1 6))))) (h2 := (q_kM (q_sA r178 15 (upd (r178.1 15) 2 (vp_nar .boolean 0))) c n)) rfl rfl ((dzt_M206 (q_sA r178 15 (upd (r178.1 15) 2 (vp_nar .boolean 0))) c n a1 6).le (Nat.le_of_ble_eq_true rfl)) ?_
          generalize dz_M206 (q_sA r178 15 (upd (r178.1 15) 2 (vp_nar .boolean 0))) a1 6 = r179
          refine q_RT_let ?_
          show q_RT _ _ _ (55, [(0, .ref 64), (1, .int a1)], [.int (q_b r179), .int 1, .ref 79], (q_kM (q_sA r178 15 (upd (r178.1 15) 2 (vp_nar .boolean 0))) c n)) _ _
          cases h61 : r179 with
          | true =>
            refine q_RT_cT ?_
            show q_RT _ _ _ (55, [(0, .ref 64), (1, .int a1)], [.int 1, .int 1, .ref 79], (q_kM (q_sA r178 15 (upd (r178.1 15) 2 (vp_nar .boolean 0))) c n)) _ _
            generalize (q_sA r178 15 (upd (r178.1 15) 2 (vp_nar .boolean 0))) = r180
            refine q_RT_let ?_
            show q_RT _ _ _ (55, [(0, .ref 64), (1, .int a1)], [.int 1, .int 1, .ref 79], (q_kM r180 c n)) _ _
            refine q_RT_seg (g2 := (64, [(0, .ref 64), (1, .int a1)], [.int 7, .int a1, .int 0, .ref 79], (q_kM (q_sA r180 15 (upd (r180.1 15) 1 (vp_nar .boolean 1))) c n))) 6 (fun _ _ => rfl) ?_
            refine q_RT_call (v := (some (.int (q_b (dz_M206 (q_sA r180 15 (upd (r180.1 15) 1 (vp_nar .boolean 1))) a1 7))))) (h2 := (q_kM (q_sA r180 15 (upd (r180.1 15) 1 (vp_nar .boolean 1))) c n)) rfl rfl ((dzt_M206 (q_sA r180 15 (upd (r180.1 15) 1 (vp_nar .boolean 1))) c n a1 7).le (Nat.le_of_ble_eq_true rfl)) ?_
            generalize dz_M206 (q_sA r180 15 (upd (r180.1 15) 1 (vp_nar .boolean 1))) a1 7 = r181
            refine q_RT_let ?_
            show q_RT _ _ _ (67, [(0, .ref 64), (1, .int a1)], [.int (q_b r181), .int 0, .ref 79], (q_kM (q_sA r180 15 (upd (r180.1 15) 1 (vp_nar .boolean 1))) c n)) _ _
            cases h62 : r181 with
            | true =>
              refine q_RT_cT ?_
              show q_RT _ _ _ (67, [(0, .ref 64), (1, .int a1)], [.int 1, .int 0, .ref 79], (q_kM (q_sA r180 15 (upd (r180.1 15) 1 (vp_nar .boolean 1))) c n)) _ _
              generalize (q_sA r180 15 (upd (r180.1 15) 1 (vp_nar .boolean 1))) = r182
              refine q_RT_let ?_
              show q_RT _ _ _ (67, [(0, .ref 64), (1, .int a1)], [.int 1, .int 0, .ref 79], (q_kM r182 c n)) _ _
              refine q_RT_seg (g2 := (68, [(0, .ref 64), (1, .int a1)], [], (q_kM (q_sA r182 15 (upd (r182.1 15) 0 (vp_nar .boolean 1))) c n))) 1 (fun _ _ => rfl) ?_
              exact q_RT_ret rfl rfl rfl
            | false =>
              refine q_RT_cF ?_
              show q_RT _ _ _ (67, [(0, .ref 64), (1, .int a1)], [.int 0, .int 0, .ref 79], (q_kM (q_sA r180 15 (upd (r180.1 15) 1 (vp_nar .boolean 1))) c n)) _ _
              generalize (q_sA r180 15 (upd (r180.1 15) 1 (vp_nar .boolean 1))) = r183
              refine q_RT_let ?_
              show q_RT _ _ _ (67, [(0, .ref 64), (1, .int a1)], [.int 0, .int 0, .ref 79], (q_kM r183 c n)) _ _
              refine q_RT_seg (g2 := (68, [(0, .ref 64), (1, .int a1)], [], (q_kM (q_sA r183 15 (upd (r183.1 15) 0 (vp_nar .boolean 0))) c n))) 1 (fun _ _ => rfl) ?_
              exact q_RT_ret rfl rfl rfl
          | false =>
            refine q_RT_cF ?_
            show q_RT _ _ _ (55, [(0, .ref 64), (1, .int a1)], [.int 0, .int 1, .ref 79], (q_kM (q_sA r178 15 (upd (r178.1 15) 2 (vp_nar .boolean 0))) c n)) _ _
            generalize (q_sA r178 15 (upd (r178.1 15) 2 (vp_nar .boolean 0))) = r184
            refine q_RT_let ?_
            show q_RT _ _ _ (55, [(0, .ref 64), (1, .int a1)], [.int 0, .int 1, .ref 79], (q_kM r184 c n)) _ _
            refine q_RT_seg (g2 := (64, [(0, .ref 64), (1, .int a1)], [.int 7, .int a1, .int 0, .ref 79], (q_kM (q_sA r184 15 (upd (r184.1 15) 1 (vp_nar .boolean 0))) c n))) 6 (fun _ _ => rfl) ?_
            refine q_RT_call (v := (some (.int (q_b (dz_M206 (q_sA r184 15 (upd (r184.1 15) 1 (vp_nar .boolean 0))) a1 7))))) (h2 := (q_kM (q_sA r184 15 (upd (r184.1 15) 1 (vp_nar .boolean 0))) c n)) rfl rfl ((dzt_M206 (q_sA r184 15 (upd (r184.1 15) 1 (vp_nar .boolean 0))) c n a1 7).le (Nat.le_of_ble_eq_true rfl)) ?_
            generalize dz_M206 (q_sA r184 15 (upd (r184.1 15) 1 (vp_nar .boolean 0))) a1 7 = r185
            refine q_RT_let ?_
            show q_RT _ _ _ (67, [(0, .ref 64), (1, .int a1)], [.int (q_b r185), .int 0, .ref 79], (q_kM (q_sA r184 15 (upd (r184.1 15) 1 (vp_nar .boolean 0))) c n)) _ _
            cases h63 : r185 with
            | true =>
              refine q_RT_cT ?_
              show q_RT _ _ _ (67, [(0, .ref 64), (1, .int a1)], [.int 1, .int 0, .ref 79], (q_kM (q_sA r184 15 (upd (r184.1 15) 1 (vp_nar .boolean 0))) c n)) _ _
              generalize (q_sA r184 15 (upd (r184.1 15) 1 (vp_nar .boolean 0))) = r186
              refine q_RT_let ?_
              show q_RT _ _ _ (67, [(0, .ref 64), (1, .int a1)], [.int 1, .int 0, .ref 79], (q_kM r186 c n)) _ _
              refine q_RT_seg (g2 := (68, [(0, .ref 64), (1, .int a1)], [], (q_kM (q_sA r186 15 (upd (r186.1 15) 0 (vp_nar .boolean 1))) c n))) 1 (fun _ _ => rfl) ?_
              exact q_RT_ret rfl rfl rfl
            | false =>
              refine q_RT_cF ?_
              show q_RT _ _ _ (67, [(0, .ref 64), (1, .int a1)], [.int 0, .int 0, .ref 79], (q_kM (q_sA r184 15 (upd (r184.1 15) 1 (vp_nar .boolean 0))) c n)) _ _
              generalize (q_sA r184 15 (upd (r184.1 15) 1 (vp_nar .boolean 0))) = r187
              refine q_RT_let ?_
              show q_RT _ _ _ (67, [(0, .ref 64), (1, .int a1)], [.int 0, .int 0, .ref 79], (q_kM r187 c n)) _ _
              refine q_RT_seg (g2 := (68, [(0, .ref 64), (1, .int a1)], [], (q_kM (q_sA r187 15 (upd (r187.1 15) 0 (vp_nar .boolean 0))) c n))) 1 (fun _ _ => rfl) ?_
              exact q_RT_ret rfl rfl rfl
