def dz_M259_64 (s : q_S) (a1 : Int32) : q_S :=
  q_let (dz_M206 s a1 0) fun r937 => cond r937 (q_let (dz_M206 (q_sA s 15 (upd (s.1 15) 5 (vp_nar .boolean 1))) a1 1) fun r938 => cond r938 (q_let ((q_sA s 15 (upd (s.1 15) 5 (vp_nar .boolean 1)))) fun r939 => q_let (dz_M206 (q_sA r939 15 (upd (r939.1 15) 4 (vp_nar .boolean 1))) a1 2) fun r940 => cond r940 (q_let ((q_sA r939 15 (upd (r939.1 15) 4 (vp_nar .boolean 1)))) fun r941 => q_let (dz_M206 (q_sA r941 15 (upd (r941.1 15) 3 (vp_nar .boolean 1))) a1 3) fun r942 => cond r942 (q_let ((q_sA r941 15 (upd (r941.1 15) 3 (vp_nar .boolean 1)))) fun r943 => q_let (dz_M206 (q_sA r943 15 (upd (r943.1 15) 2 (vp_nar .boolean 1))) a1 6) fun r944 => cond r944 (q_let ((q_sA r943 15 (upd (r943.1 15) 2 (vp_nar .boolean 1)))) fun r945 => q_let (dz_M206 (q_sA r945 15 (upd (r945.1 15) 1 (vp_nar .boolean 1))) a1 7) fun r946 => cond r946 (q_let ((q_sA r945 15 (upd (r945.1 15) 1 (vp_nar .boolean 1)))) fun r947 => (q_sA r947 15 (upd (r947.1 15) 0 (vp_nar .boolean 1)))) (q_let ((q_sA r945 15 (upd (r945.1 15) 1 (vp_nar .boolean 1)))) fun r948 => (q_sA r948 15 (upd (r948.1 15) 0 (vp_nar .boolean 0))))) (q_let ((q_sA r943 15 (upd (r943.1 15) 2 (vp_nar .boolean 1)))) fun r949 => q_let (dz_M206 (q_sA r949 15 (upd (r949.1 15) 1 (vp_nar .boolean 0))) a1 7) fun r950 => cond r950 (q_let ((q_sA r949 15 (upd (r949.1 15) 1 (vp_nar .boolean 0)))) fun r951 => (q_sA r951 15 (upd (r951.1 15) 0 (vp_nar .boolean 1)))) (q_let ((q_sA r949 15 (upd (r949.1 15) 1 (vp_nar .boolean 0)))) fun r952 => (q_sA r952 15 (upd (r952.1 15) 0 (vp_nar .boolean 0)))))) (q_let ((q_sA r941 15 (upd (r941.1 15) 3 (vp_nar .boolean 1)))) fun r953 => q_let (dz_M206 (q_sA r953 15 (upd (r953.1 15) 2 (vp_nar .boolean 0))) a1 6) fun r954 => cond r954 (q_let ((q_sA r953 15 (upd (r953.1 15) 2 (vp_nar .boolean 0)))) fun r955 => q_let (dz_M206 (q_sA r955 15 (upd (r955.1 15) 1 (vp_nar .boolean 1))) a1 7) fun r956 => cond r956 (q_let ((q_sA r955 15 (upd (r955.1 15) 1 (vp_nar .boolean 1)))) fun r957 => (q_sA r957 15 (upd (r957.1 15) 0 (vp_nar .boolean 1)))) (q_let ((q_sA r955 15 (upd (r955.1 15) 1 (vp_nar .boolean 1)))) fun r958 => (q_sA r958 15 (upd (r958.1 15) 0 (vp_nar .boolean 0))))) (q_let ((q_sA r953 15 (upd (r953.1 15) 2 (vp_nar .boolean 0)))) fun r959 => q_let (dz_M206 (q_sA r959 15 (upd (r959.1 15) 1 (vp_nar .boolean 0))) a1 7) fun r960 => cond r960 (q_let ((q_sA r959 15 (upd (r959.1 15) 1 (vp_nar .boolean 0)))) fun r961 => (q_sA r961 15 (upd (r961.1 15) 0 (vp_nar .boolean 1)))) (q_let ((q_sA r959 15 (upd (r959.1 15) 1 (vp_nar .boolean 0)))) fun r962 => (q_sA r962 15 (upd (r962.1 15) 0 (vp_nar .boolean 0))))))) (q_let ((q_sA r939 15 (upd (r939.1 15) 4 (vp_nar .boolean 1)))) fun r963 => q_let (dz_M206 (q_sA r963 15 (upd (r963.1 15) 3 (vp_nar .boolean 0))) a1 3) fun r964 => cond r964 (q_let ((q_sA r963 15 (upd (r963.1 15) 3 (vp_nar .boolean 0)))) fun r965 => q_let (dz_M206 (q_sA r965 15 (upd (r965.1 15) 2 (vp_nar .boolean 1))) a1 6) fun r966 => cond r966 (q_let ((q_sA r965 15 (upd (r965.1 15) 2 (vp_nar .boolean 1)))) fun r967 => q_let (dz_M206 (q_sA r967 15 (upd (r967.1 15) 1 (vp_nar .boolean 1))) a1 7) fun r968 => cond r968 (q_let ((q_sA r967 15 (upd (r967.1 15) 1 (vp_nar .boolean 1)))) fun r969 => (q_sA r969 15 (upd (r969.1 15) 0 (vp_nar .boolean 1)))) (q_let ((q_sA r967 15 (upd (r967.1 15) 1 (vp_nar .boolean 1)))) fun r970 => (q_sA r970 15 (upd (r970.1 15) 0 (vp_nar .boolean 0))))) (q_let ((q_sA r965 15 (upd (r965.1 15) 2 (vp_nar .boolean 1)))) fun r971 => q_let (dz_M206 (q_sA r971 15 (upd (r971.1 15) 1 (vp_nar .boolean 0))) a1 7) fun r972 => cond r972 (q_let ((q_sA r971 15 (upd (r971.1 15) 1 (vp_nar .boolean 0)))) fun r973 => (q_sA r973 15 (upd (r973.1 15) 0 (vp_nar .boolean 1)))) (q_let ((q_sA r971 15 (upd (r971.1 15) 1 (vp_nar .boolean 0)))) fun r974 => (q_sA r974 15 (upd (r974.1 15) 0 (vp_nar .boolean 0)))))) (q_let ((q_sA r963 15 (upd (r963.1 15) 3 (vp_nar .boolean 0)))) fun r975 => q_let (dz_M206 (q_sA r975 15 (upd (r975.1 15) 2 (vp_nar .boolean 0))) a1 6) fun r976 => cond r976 (q_let ((q_sA r975 15 (upd (r975.1 15) 2 (vp_nar .boolean 0)))) fun r977 => q_let (dz_M206 (q_sA r977 15 (upd (r977.1 15) 1 (vp_nar .boolean 1))) a1 7) fun r978 => cond r978 (q_let ((q_sA r977 15 (upd (r977.1 15) 1 (vp_nar .boolean 1)))) fun r979 => (q_sA r979 15 (upd (r979.1 15) 0 (vp_nar .boolean 1)))) (q_let ((q_sA r977 15 (upd (r977.1 15) 1 (vp_nar .boolean 1)))) fun r980 => (q_sA r980 15 (upd (r980.1 15) 0 (vp_nar .boolean 0))))) (q_let ((q_sA r975 15 (upd (r975.1 15) 2 (vp_nar .boolean 0)))) fun r981 => q_let (dz_M206 (q_sA r981 15 (upd (r981.1 15) 1 (vp_nar .boolean 0))) a1 7) fun r982 => cond r982 (q_let ((q_sA r981 15 (upd (r981.1 15) 1 (vp_nar .boolean 0)))) fun r983 => (q_sA r983 15 (upd (r983.1 15) 0 (vp_nar .boolean 1)))) (q_let ((q_sA r981 15 (upd (r981.1 15) 1 (vp_nar .boolean 0)))) fun r984 => (q_sA r984 15 (upd (r984.1 15) 0 (vp_nar .boolean 0)))))))) (q_let ((q_sA s 15 (upd (s.1 15) 5 (vp_nar .boolean 1)))) fun r985 => q_let (dz_M206 (q_sA r985 15 (upd (r985.1 15) 4 (vp_nar .boolean 0))) a1 2) fun r986 => cond r986 (q_let ((q_sA r985 15 (upd (r985.1 15) 4 (vp_nar .boolean 0)))) fun r987 => q_let (dz_M206 (q_sA r987 15 (upd (r987.1 15) 3 (vp_nar .boolean 1))) a1 3) fun r988 => cond r988 (q_let ((q_sA r987 15 (upd (r987.1 15) 3 (vp_nar .boolean 1)))) fun r989 => q_let (dz_M206 (q_sA r989 15 (upd (r989.1 15) 2 (vp_nar .boolean 1))) a1 6) fun r990 => cond r990 (q_let ((q_sA r989 15 (upd (r989.1 15) 2 (vp_nar .boolean 1)))) fun r991 => q_let (dz_M206 (q_sA r991 15 (upd (r991.1 15) 1 (vp_nar .boolean 1))) a1 7) fun r992 => cond r992 (q_let ((q_sA r991 15 (upd (r991.1 15) 1 (vp_nar .boolean 1)))) fun r993 => (q_sA r993 15 (upd (r993.1 15) 0 (vp_nar .boolean 1)))) (q_let ((q_sA r991 15 (upd (r991.1 15) 1 (vp_nar .boolean 1)))) fun r994 => (q_sA r994 15 (upd (r994.1 15) 0 (vp_nar .boolean 0))))) (q_let ((q_sA r989 15 (upd (r989.1 15) 2 (vp_nar .boolean 1)))) fun r995 => q_let (dz_M206 (q_sA r995 15 (upd (r995.1 15) 1 (vp_nar .boolean 0))) a1 7) fun r996 => cond r996 (q_let ((q_sA r995 15 (upd (r995.1 15) 1 (vp_nar .boolean 0)))) fun r997 => (q_sA r997 15 (upd (r997.1 15) 0 (vp_nar .boolean 1)))) (q_let ((q_sA r995 15 (upd (r995.1 15) 1 (vp_nar .boolean 0)))) fun r998 => (q_sA r998 15 (upd (r998.1 15) 0 (vp_nar .boolean 0)))))) (q_let ((q_sA r987 15 (upd (r987.1 15) 3 (vp_nar .boolean 1)))) fun r999 => q_let (dz_M206 (q_sA r999 15 (upd (r999.1 15) 2 (vp_nar .boolean 0))) a1 6) fun r1000 => cond r1000 (q_let ((q_sA r999 15 (upd (r999.1 15) 2 (vp_nar .boolean 0)))) fun r1001 => q_let (dz_M206 (q_sA r1001 15 (upd (r1001.1 15) 1 (vp_nar .boolean 1))) a1 7) fun r1002 => cond r1002 (q_let ((q_sA r1001 15 (upd (r1001.1 15) 1 (vp_nar .boolean 1)))) fun r1003 => (q_sA r1003 15 (upd (r1003.1 15) 0 (vp_nar .boolean 1)))) (q_let ((q_sA r1001 15 (upd (r1001.1 15) 1 (vp_nar .boolean 1)))) fun r1004 => (q_sA r1004 15 (upd (r1004.1 15) 0 (vp_nar .boolean 0))))) (q_let ((q_sA r999 15 (upd (r999.1 15) 2 (vp_nar .boolean 0)))) fun r1005 => q_let (dz_M206 (q_sA r1005 15 (upd (r1005.1 15) 1 (vp_nar .boolean 0))) a1 7) fun r1006 => cond r1006 (q_let ((q_sA r1005 15 (upd (r1005.1 15) 1 (vp_nar .boolean 0)))) fun r1007 => (q_sA r1007 15 (upd (r1007.1 15) 0 (vp_nar .boolean 1)))) (q_let ((q_sA r1005 15 (upd (r1005.1 15) 1 (vp_nar .boolean 0)))) fun r1008 => (q_sA r1008 15 (upd (r1008.1 15) 0 (vp_nar .boolean 0))))))) (q_let ((q_sA r985 15 (upd (r985.1 15) 4 (vp_nar .boolean 0)))) fun r1009 => q_let (dz_M206 (q_sA r1009 15 (upd (r1009.1 15) 3 (vp_nar .boolean 0))) a1 3) fun r1010 => cond r1010 (q_let ((q_sA r1009 15 (upd (r1009.1 15) 3 (vp_nar .boolean 0)))) fun r1011 => q_let (dz_M206 (q_sA r1011 15 (upd (r1011.1 15) 2 (vp_nar .boolean 1))) a1 6) fun r1012 => cond r1012 (q_let ((q_sA r1011 15 (upd (r1011.1 15) 2 (vp_nar .boolean 1)))) fun r1013 => q_let (dz_M206 (q_sA r1013 15 (upd (r1013.1 15) 1 (vp_nar .boolean 1))) a1 7) fun r1014 => cond r1014 (q_let ((q_sA r1013 15 (upd (r1013.1 15) 1 (vp_nar .boolean 1)))) fun r1015 => (q_sA r1015 15 (upd (r1015.1 15) 0 (vp_nar .boolean 1)))) (q_let ((q_sA r1013 15 (upd (r1013.1 15) 1 (vp_nar .boolean 1)))) fun r1016 => (q_sA r1016 15 (upd (r1016.1 15) 0 (vp_nar .boolean 0))))) (q_let ((q_sA r1011 15 (upd (r1011.1 15) 2 (vp_nar .boolean 1)))) fun r1017 => q_let (dz_M206 (q_sA r1017 15 (upd (r1017.1 15) 1 (vp_nar .boolean 0))) a1 7) fun r1018 => cond r1018 (q_let ((q_sA r1017 15 (upd (r1017.1 15) 1 (vp_nar .boolean 0)))) fun r1019 => (q_sA r1019 15 (upd (r1019.1 15) 0 (vp_nar .boolean 1)))) (q_let ((q_sA r1017 15 (upd (r1017.1 15) 1 (vp_nar .boolean 0)))) fun r1020 => (q_sA r1020 15 (upd (r1020.1 15) 0 (vp_nar .boolean 0)))))) (q_let ((q_sA r1009 15 (upd (r1009.1 15) 3 (vp_nar .boolean 0)))) fun r1021 => q_let (dz_M206 (q_sA r1021 15 (upd (r1021.1 15) 2 (vp_nar .boolean 0))) a1 6) fun r1022 => cond r1022 (q_let ((q_sA r1021 15 (upd (r1021.1 15) 2 (vp_nar .boolean 0)))) fun r1023 => q_let (dz_M206 (q_sA r1023 15 (upd (r1023.1 15) 1 (vp_nar .boolean 1))) a1 7) fun r1024 => cond r1024 (q_let ((q_sA r1023 15 (upd (r1023.1 15) 1 (vp_nar .boolean 1)))) fun r1025 => (q_sA r1025 15 (upd (r1025.1 15) 0 (vp_nar .boolean 1)))) (q_let ((q_sA r1023 15 (upd (r1023.1 15) 1 (vp_nar .boolean 1)))) fun r1026 => (q_sA r1026 15 (upd (r1026.1 15) 0 (vp_nar .boolean 0))))) (q_let ((q_sA r1021 15 (upd (r1021.1 15) 2 (vp_nar .boolean 0)))) fun r1027 => q_let (dz_M206 (q_sA r1027 15 (upd (r1027.1 15) 1 (vp_nar .boolean 0))) a1 7) fun r1028 => cond r1028 (q_let ((q_sA r1027 15 (upd (r1027.1 15) 1 (vp_nar .boolean 0)))) fun r1029 => (q_sA r1029 15 (upd (r1029.1 15) 0 (vp_nar .boolean 1)))) (q_let ((q_sA r1027 15 (upd (r1027.1 15) 1 (vp_nar .boolean 0)))) fun r1030 => (q_sA r1030 15 (upd (r1030.1 15) 0 (vp_nar .boolean 0))))))))) (q_let (dz_M206 (q_sA s 15 (upd (s.1 15) 5 (vp_nar .boolean 0))) a1 1) fun r1031 => cond r1031 (q_let ((q_sA s 15 (upd (s.1 15) 5 (vp_nar .boolean 0)))) fun r1032 => q_let (dz_M206 (q_sA r1032 15 (upd (r1032.1 15) 4 (vp_nar .boolean 1))) a1 2) fun r1033 => cond r1033 (q_let ((q_sA r1032 15 (upd (r1032.1 15) 4 (vp_nar .boolean 1)))) fun r1034 => q_let (dz_M206 (q_sA r1034 15 (upd (r1034.1 15) 3 (vp_nar .boolean 1))) a1 3) fun r1035 => cond r1035 (q_let ((q_sA r1034 15 (upd (r1034.1 15) 3 (vp_nar .boolean 1)))) fun r1036 => q_let (dz_M206 (q_sA r1036 15 (upd (r1036.1 15) 2 (vp_nar .boolean 1))) a1 6) fun r1037 => cond r1037 (q_let ((q_sA r1036 15 (upd (r1036.1 15) 2 (vp_nar .boolean 1)))) fun r1038 => q_let (dz_M206 (q_sA r1038 15 (upd (r1038.1 15) 1 (vp_nar .boolean 1))) a1 7) fun r1039 => cond r1039 (q_let ((q_sA r1038 15 (upd (r1038.1 15) 1 (vp_nar .boolean 1)))) fun r1040 => (q_sA r1040 15 (upd (r1040.1 15) 0 (vp_nar .boolean 1)))) (q_let ((q_sA r1038 15 (upd (r1038.1 15) 1 (vp_nar .boolean 1)))) fun r1041 => (q_sA r1041 15 (upd (r1041.1 15) 0 (vp_nar .boolean 0))))) (q_let ((q_sA r1036 15 (upd (r1036.1 15) 2 (vp_nar .boolean 1)))) fun r1042 => q_let (dz_M206 (q_sA r1042 15 (upd (r1042.1 15) 1 (vp_nar .boolean 0))) a1 7) fun r1043 => cond r1043 (q_let ((q_sA r1042 15 (upd (r1042.1 15) 1 (vp_nar .boolean 0)))) fun r1044 => (q_sA r1044 15 (upd (r1044.1 15) 0 (vp_nar .boolean 1)))) (q_let ((q_sA r1042 15 (upd (r1042.1 15) 1 (vp_nar .boolean 0)))) fun r1045 => (q_sA r1045 15 (upd (r1045.1 15) 0 (vp_nar .boolean 0)))))) (q_let ((q_sA r1034 15 (upd (r1034.1 15) 3 (vp_nar .boolean 1)))) fun r1046 => q_let (dz_M206 (q_sA r1046 15 (upd (r1046.1 15) 2 (vp_nar .boolean 0))) a1 6) fun r1047 => cond r1047 (q_let ((q_sA r1046 15 (upd (r1046.1 15) 2 (vp_nar .boolean 0)))) fun r1048 => q_let (dz_M206 (q_sA r1048 15 (upd (r1048.1 15) 1 (vp_nar .boolean 1))) a1 7) fun r1049 => cond r1049 (q_let ((q_sA r1048 15 (upd (r1048.1 15) 1 (vp_nar .boolean 1)))) fun r1050 => (q_sA r1050 15 (upd (r1050.1 15) 0 (vp_nar .boolean 1)))) (q_let ((q_sA r1048 15 (upd (r1048.1 15) 1 (vp_nar .boolean 1)))) fun r1051 => (q_sA r1051 15 (upd (r1051.1 15) 0 (vp_nar .boolean 0))))) (q_let ((q_sA r1046 15 (upd (r1046.1 15) 2 (vp_nar .boolean 0)))) fun r1052 => q_let (dz_M206 (q_sA r1052 15 (upd (r1052.1 15) 1 (vp_nar .boolean 0))) a1 7) fun r1053 => cond r1053 (q_let ((q_sA r1052 15 (upd (r1052.1 15) 1 (vp_nar .boolean 0)))) fun r1054 => (q_sA r1054 15 (upd (r1054.1 15) 0 (vp_nar .boolean 1)))) (q_let ((q_sA r1052 15 (upd (r1052.1 15) 1 (vp_nar .boolean 0)))) fun r1055 => (q_sA r1055 15 (upd (r1055.1 15) 0 (vp_nar .boolean 0))))))) (q_let ((q_sA r1032 15 (upd (r1032.1 15) 4 (vp_nar .boolean 1)))) fun r1056 => q_let (dz_M206 (q_sA r1056 15 (upd (r1056.1 15) 3 (vp_nar .boolean 0))) a1 3) fun r1057 => cond r1057 (q_let ((q_sA r1056 15 (upd (r1056.1 15) 3 (vp_nar .boolean 0)))) fun r1058 => q_let (dz_M206 (q_sA r1058 15 (upd (r1058.1 15) 2 (vp_nar .boolean 1))) a1 6) fun r1059 => cond r1059 (q_let ((q_sA r1058 15 (upd (r1058.1 15) 2 (vp_nar .boolean 1)))) fun r1060 => q_let (dz_M206 (q_sA r1060 15 (upd (r1060.1 15) 1 (vp_nar .boolean 1))) a1 7) fun r1061 => cond r1061 (q_let ((q_sA r1060 15 (upd (r1060.1 15) 1 (vp_nar .boolean 1)))) fun r1062 => (q_sA r1062 15 (upd (r1062.1 15) 0 (vp_nar .boolean 1)))) (q_let ((q_sA r1060 15 (upd (r1060.1 15) 1 (vp_nar .boolean 1)))) fun r1063 => (q_sA r1063 15 (upd (r1063.1 15) 0 (vp_nar .boolean 0))))) (q_let ((q_sA r1058 15 (upd (r1058.1 15) 2 (vp_nar .boolean 1)))) fun r1064 => q_let (dz_M206 (q_sA r1064 15 (upd (r1064.1 15) 1 (vp_nar .boolean 0))) a1 7) fun r1065 => cond r1065 (q_let ((q_sA r1064 15 (upd (r1064.1 15) 1 (vp_nar .boolean 0)))) fun r1066 => (q_sA r1066 15 (upd (r1066.1 15) 0 (vp_nar .boolean 1)))) (q_let ((q_sA r1064 15 (upd (r1064.1 15) 1 (vp_nar .boolean 0)))) fun r1067 => (q_sA r1067 15 (upd (r1067.1 15) 0 (vp_nar .boolean 0)))))) (q_let ((q_sA r1056 15 (upd (r1056.1 15) 3 (vp_nar .boolean 0)))) fun r1068 => q_let (dz_M206 (q_sA r1068 15 (upd (r1068.1 15) 2 (vp_nar .boolean 0))) a1 6) fun r1069 => cond r1069 (q_let ((q_sA r1068 15 (upd (r1068.1 15) 2 (vp_nar .boolean 0)))) fun r1070 => q_let (dz_M206 (q_sA r1070 15 (upd (r1070.1 15) 1 (vp_nar .boolean 1))) a1 7) fun r1071 => cond r1071 (q_let ((q_sA r1070 15 (upd (r1070.1 15) 1 (vp_nar .boolean 1)))) fun r1072 => (q_sA r1072 15 (upd (r1072.1 15) 0 (vp_nar .boolean 1)))) (q_let ((q_sA r1070 15 (upd (r1070.1 15) 1 (vp_nar .boolean 1)))) fun r1073 => (q_sA r1073 15 (upd (r1073.1 15) 0 (vp_nar .boolean 0))))) (q_let ((q_sA r1068 15 (upd (r1068.1 15) 2 (vp_nar .boolean 0)))) fun r1074 => q_let (dz_M206 (q_sA r1074 15 (upd (r1074.1 15) 1 (vp_nar .boolean 0))) a1 7) fun r1075 => cond r1075 (q_let ((q_sA r1074 15 (upd (r1074.1 15) 1 (vp_nar .boolean 0)))) fun r1076 => (q_sA r1076 15 (upd (r1076.1 15) 0 (vp_nar .boolean 1)))) (q_let ((q_sA r1074 15 (upd (r1074.1 15) 1 (vp_nar .boolean 0)))) fun r1077 => (q_sA r1077 15 (upd (r1077.1 15) 0 (vp_nar .boolean 0)))))))) (q_let ((q_sA s 15 (upd (s.1 15) 5 (vp_nar .boolean 0)))) fun r1078 => q_let (dz_M206 (q_sA r1078 15 (upd (r1078.1 15) 4 (vp_nar .boolean 0))) a1 2) fun r1079 => cond r1079 (q_let ((q_sA r1078 15 (upd (r1078.1 15) 4 (vp_nar .boolean 0)))) fun r1080 => q_let (dz_M206 (q_sA r1080 15 (upd (r1080.1 15) 3 (vp_nar .boolean 1))) a1 3) fun r1081 => cond r1081 (q_let ((q_sA r1080 15 (upd (r1080.1 15) 3 (vp_nar .boolean 1)))) fun r1082 => q_let (dz_M206 (q_sA r1082 15 (upd (r1082.1 15) 2 (vp_nar .boolean 1))) a1 6) fun r1083 => cond r1083 (q_let ((q_sA r1082 15 (upd (r1082.1 15) 2 (vp_nar .boolean 1)))) fun r1084 => q_let (dz_M206 (q_sA r1084 15 (upd (r1084.1 15) 1 (vp_nar .boolean 1))) a1 7) fun r1085 => cond r1085 (q_let ((q_sA r1084 15 (upd (r1084.1 15) 1 (vp_nar .boolean 1)))) fun r1086 => (q_sA r1086 15 (upd (r1086.1 15) 0 (vp_nar .boolean 1)))) (q_let ((q_sA r1084 15 (upd (r1084.1 15) 1 (vp_nar .boolean 1)))) fun r1087 => (q_sA r1087 15 (upd (r1087.1 15) 0 (vp_nar .boolean 0))))) (q_let ((q_sA r1082 15 (upd (r1082.1 15) 2 (vp_nar .boolean 1)))) fun r1088 => q_let (dz_M206 (q_sA r1088 15 (upd (r1088.1 15) 1 (vp_nar .boolean 0))) a1 7) fun r1089 => cond r1089 (q_let ((q_sA r1088 15 (upd (r1088.1 15) 1 (vp_nar .boolean 0)))) fun r1090 => (q_sA r1090 15 (upd (r1090.1 15) 0 (vp_nar .boolean 1)))) (q_let ((q_sA r1088 15 (upd (r1088.1 15) 1 (vp_nar .boolean 0)))) fun r1091 => (q_sA r1091 15 (upd (r1091.1 15) 0 (vp_nar .boolean 0)))))) (q_let ((q_sA r1080 15 (upd (r1080.1 15) 3 (vp_nar .boolean 1)))) fun r1092 => q_let (dz_M206 (q_sA r1092 15 (upd (r1092.1 15) 2 (vp_nar .boolean 0))) a1 6) fun r1093 => cond r1093 (q_let ((q_sA r1092 15 (upd (r1092.1 15) 2 (vp_nar .boolean 0)))) fun r1094 => q_let (dz_M206 (q_sA r1094 15 (upd (r1094.1 15) 1 (vp_nar .boolean 1))) a1 7) fun r1095 => cond r1095 (q_let ((q_sA r1094 15 (upd (r1094.1 15) 1 (vp_nar .boolean 1)))) fun r1096 => (q_sA r1096 15 (upd (r1096.1 15) 0 (vp_nar .boolean 1)))) (q_let ((q_sA r1094 15 (upd (r1094.1 15) 1 (vp_nar .boolean 1)))) fun r1097 => (q_sA r1097 15 (upd (r1097.1 15) 0 (vp_nar .boolean 0))))) (q_let ((q_sA r1092 15 (upd (r1092.1 15) 2 (vp_nar .boolean 0)))) fun r1098 => q_let (dz_M206 (q_sA r1098 15 (upd (r1098.1 15) 1 (vp_nar .boolean 0))) a1 7) fun r1099 => cond r1099 (q_let ((q_sA r1098 15 (upd (r1098.1 15) 1 (vp_nar .boolean 0)))) fun r1100 => (q_sA r1100 15 (upd (r1100.1 15) 0 (vp_nar .boolean 1)))) (q_let ((q_sA r1098 15 (upd (r1098.1 15) 1 (vp_nar .boolean 0)))) fun r1101 => (q_sA r1101 15 (upd (r1101.1 15) 0 (vp_nar .boolean 0))))))) (q_let ((q_sA r1078 15 (upd (r1078.1 15) 4 (vp_nar .boolean 0)))) fun r1102 => q_let (dz_M206 (q_sA r1102 15 (upd (r1102.1 15) 3 (vp_nar .boolean 0))) a1 3) fun r1103 => cond r1103 (q_let ((q_sA r1102 15 (upd (r1102.1 15) 3 (vp_nar .boolean 0)))) fun r1104 => q_let (dz_M206 (q_sA r1104 15 (upd (r1104.1 15) 2 (vp_nar .boolean 1))) a1 6) fun r1105 => cond r1105 (q_let ((q_sA r1104 15 (upd (r1104.1 15) 2 (vp_nar .boolean 1)))) fun r1106 => q_let (dz_M206 (q_sA r1106 15 (upd (r1106.1 15) 1 (vp_nar .boolean 1))) a1 7) fun r1107 => cond r1107 (q_let ((q_sA r1106 15 (upd (r1106.1 15) 1 (vp_nar .boolean 1)))) fun r1108 => (q_sA r1108 15 (upd (r1108.1 15) 0 (vp_nar .boolean 1)))) (q_let ((q_sA r1106 15 (upd (r1106.1 15) 1 (vp_nar .boolean 1)))) fun r1109 => (q_sA r1109 15 (upd (r1109.1 15) 0 (vp_nar .boolean 0))))) (q_let ((q_sA r1104 15 (upd (r1104.1 15) 2 (vp_nar .boolean 1)))) fun r1110 => q_let (dz_M206 (q_sA r1110 15 (upd (r1110.1 15) 1 (vp_nar .boolean 0))) a1 7) fun r1111 => cond r1111 (q_let ((q_sA r1110 15 (upd (r1110.1 15) 1 (vp_nar .boolean 0)))) fun r1112 => (q_sA r1112 15 (upd (r1112.1 15) 0 (vp_nar .boolean 1)))) (q_let ((q_sA r1110 15 (upd (r1110.1 15) 1 (vp_nar .boolean 0)))) fun r1113 => (q_sA r1113 15 (upd (r1113.1 15) 0 (vp_nar .boolean 0)))))) (q_let ((q_sA r1102 15 (upd (r1102.1 15) 3 (vp_nar .boolean 0)))) fun r1114 => q_let (dz_M206 (q_sA r1114 15 (upd (r1114.1 15) 2 (vp_nar .boolean 0))) a1 6) fun r1115 => cond r1115 (q_let ((q_sA r1114 15 (upd (r1114.1 15) 2 (vp_nar .boolean 0)))) fun r1116 => q_let (dz_M206 (q_sA r1116 15 (upd (r1116.1 15) 1 (vp_nar .boolean 1))) a1 7) fun r1117 => cond r1117 (q_let ((q_sA r1116 15 (upd (r1116.1 15) 1 (vp_nar .boolean 1)))) fun r1118 => (q_sA r1118 15 (upd (r1118.1 15) 0 (vp_nar .boolean 1)))) (q_let ((q_sA r1116 15 (upd (r1116.1 15) 1 (vp_nar .boolean 1)))) fun r1119 => (q_sA r1119 15 (upd (r1119.1 15) 0 (vp_nar .boolean 0))))) (q_let ((q_sA r1114 15 (upd (r1114.1 15) 2 (vp_nar .boolean 0)))) fun r1120 => q_let (dz_M206 (q_sA r1120 15 (upd (r1120.1 15) 1 (vp_nar .boolean 0))) a1 7) fun r1121 => cond r1121 (q_let ((q_sA r1120 15 (upd (r1120.1 15) 1 (vp_nar .boolean 0)))) fun r1122 => (q_sA r1122 15 (upd (r1122.1 15) 0 (vp_nar .boolean 1)))) (q_let ((q_sA r1120 15 (upd (r1120.1 15) 1 (vp_nar .boolean 0)))) fun r1123 => (q_sA r1123 15 (upd (r1123.1 15) 0 (vp_nar .boolean 0)))))))))
set_option maxHeartbeats 4000000 in
theorem dzt_M259_64 (s : q_S) (c n : Nat) (a1 : Int32) : q_Ca q_TB0 2 258 [.ref 64, .int a1] (q_kM s c n) ((q_oSM c n) (dz_M259_64 s a1)) := by
  refine q_CaT_of (φ := (q_oSM c n)) (Nat.le_of_ble_eq_true rfl) ?_
  unfold dz_M259_64
  refine q_RT_seg (g2 := (7, [(0, .ref 64), (1, .int a1)], [.int 0, .int a1, .int 5, .ref 79], (q_kM s c n))) 5 (fun _ _ => rfl) ?_
  refine q_RT_call (v := (some (.int (q_b (dz_M206 s a1 0))))) (h2 := (q_kM s c n)) rfl rfl ((dzt_M206 s c n a1 0).le (Nat.le_of_ble_eq_true rfl)) ?_
  generalize dz_M206 s a1 0 = r937
  refine q_RT_let ?_
  show q_RT _ _ _ (10, [(0, .ref 64), (1, .int a1)], [.int (q_b r937), .int 5, .ref 79], (q_kM s c n)) _ _
  cases h1269 : r937 with
  | true =>
    refine q_RT_cT ?_
    show q_RT _ _ _ (10, [(0, .ref 64), (1, .int a1)], [.int 1, .int 5, .ref 79], (q_kM s c n)) _ _
    refine q_RT_seg (g2 := (18, [(0, .ref 64), (1, .int a1)], [.int 1, .int a1, .int 4, .ref 79], (q_kM (q_sA s 15 (upd (s.1 15) 5 (vp_nar .boolean 1))) c n))) 6 (fun _ _ => rfl) ?_
    refine q_RT_call (v := (some (.int (q_b (dz_M206 (q_sA s 15 (upd (s.1 15) 5 (vp_nar .boolean 1))) a1 1))))) (h2 := (q_kM (q_sA s 15 (upd (s.1 15) 5 (vp_nar .boolean 1))) c n)) rfl rfl ((dzt_M206 (q_sA s 15 (upd (s.1 15) 5 (vp_nar .boolean 1))) c n a1 1).le (Nat.le_of_ble_eq_true rfl)) ?_
    generalize dz_M206 (q_sA s 15 (upd (s.1 15) 5 (vp_nar .boolean 1))) a1 1 = r938
    refine q_RT_let ?_
    show q_RT _ _ _ (21, [(0, .ref 64), (1, .int a1)], [.int (q_b r938), .int 4, .ref 79], (q_kM (q_sA s 15 (upd (s.1 15) 5 (vp_nar .boolean 1))) c n)) _ _
    cases h1270 : r938 with
    | true =>
      refine q_RT_cT ?_
      show q_RT _ _ _ (21, [(0, .ref 64), (1, .int a1)], [.int 1, .int 4, .ref 79], (q_kM (q_sA s 15 (upd (s.1 15) 5 (vp_nar .boolean 1))) c n)) _ _
      generalize (q_sA s 15 (upd (s.1 15) 5 (vp_nar .boolean 1))) = r939
      refine q_RT_let ?_
      show q_RT _ _ _ (21, [(0, .ref 64), (1, .int a1)], [.int 1, .int 4, .ref 79], (q_kM r939 c n)) _ _
      refine q_RT_seg (g2 := (29, [(0, .ref 64), (1, .int a1)], [.int 2, .int a1, .int 3, .ref 79], (q_kM (q_sA r939 15 (upd (r939.1 15) 4 (vp_nar .boolean 1))) c n))) 6 (fun _ _ => rfl) ?_
      refine q_RT_call (v := (some (.int (q_b (dz_M206 (q_sA r939 15 (upd (r939.1 15) 4 (vp_nar .boolean 1))) a1 2))))) (h2 := (q_kM (q_sA r939 15 (upd (r939.1 15) 4 (vp_nar .boolean 1))) c n)) rfl rfl ((dzt_M206 (q_sA r939 15 (upd (r939.1 15) 4 (vp_nar .boolean 1))) c n a1 2).le (Nat.le_of_ble_eq_true rfl)) ?_
      generalize dz_M206 (q_sA r939 15 (upd (r939.1 15) 4 (vp_nar .boolean 1))) a1 2 = r940
      refine q_RT_let ?_
      show q_RT _ _ _ (32, [(0, .ref 64), (1, .int a1)], [.int (q_b r940), .int 3, .ref 79], (q_kM (q_sA r939 15 (upd (r939.1 15) 4 (vp_nar .boolean 1))) c n)) _ _
      cases h1271 : r940 with
      | true =>
        refine q_RT_cT ?_
        show q_RT _ _ _ (32, [(0, .ref 64), (1, .int a1)], [.int 1, .int 3, .ref 79], (q_kM (q_sA r939 15 (upd (r939.1 15) 4 (vp_nar .boolean 1))) c n)) _ _
        generalize (q_sA r939 15 (upd (r939.1 15) 4 (vp_nar .boolean 1))) = r941
        refine q_RT_let ?_
        show q_RT _ _ _ (32, [(0, .ref 64), (1, .int a1)], [.int 1, .int 3, .ref 79], (q_kM r941 c n)) _ _
        refine q_RT_seg (g2 := (40, [(0, .ref 64), (1, .int a1)], [.int 3, .int a1, .int 2, .ref 79], (q_kM (q_sA r941 15 (upd (r941.1 15) 3 (vp_nar .boolean 1))) c n))) 6 (fun _ _ => rfl) ?_
        refine q_RT_call (v := (some (.int (q_b (dz_M206 (q_sA r941 15 (upd (r941.1 15) 3 (vp_nar .boolean 1))) a1 3))))) (h2 := (q_kM (q_sA r941 15 (upd (r941.1 15) 3 (vp_nar .boolean 1))) c n)) rfl rfl ((dzt_M206 (q_sA r941 15 (upd (r941.1 15) 3 (vp_nar .boolean 1))) c n a1 3).le (Nat.le_of_ble_eq_true rfl)) ?_
        generalize dz_M206 (q_sA r941 15 (upd (r941.1 15) 3 (vp_nar .boolean 1))) a1 3 = r942
        refine q_RT_let ?_
        show q_RT _ _ _ (43, [(0, .ref 64), (1, .int a1)], [.int (q_b r942), .int 2, .ref 79], (q_kM (q_sA r941 15 (upd (r941.1 15) 3 (vp_nar .boolean 1))) c n)) _ _
        cases h1272 : r942 with
        | true =>
          refine q_RT_cT ?_
          show q_RT _ _ _ (43, [(0, .ref 64), (1, .int a1)], [.int 1, .int 2, .ref 79], (q_kM (q_sA r941 15 (upd (r941.1 15) 3 (vp_nar .boolean 1))) c n)) _ _
          generalize (q_sA r941 15 (upd (r941.1 15) 3 (vp_nar .boolean 1))) = r943
          refine q_RT_let ?_
          show q_RT _ _ _ (43, [(0, .ref 64), (1, .int a1)], [.int 1, .int 2, .ref 79], (q_kM r943 c n)) _ _
          refine q_RT_seg (g2 := (52, [(0, .ref 64), (1, .int a1)], [.int 6, .int a1, .int 1, .ref 79], (q_kM (q_sA r943 15 (upd (r943.1 15) 2 (vp_nar .boolean 1))) c n))) 6 (fun _ _ => rfl) ?_
          refine q_RT_call (v := (some (.int (q_b (dz_M206 (q_sA r943 15 (upd (r943.1 15) 2 (vp_nar .boolean 1))) a1 6))))) (h2 := (q_kM (q_sA r943 15 (upd (r943.1 15) 2 (vp_nar .boolean 1))) c n)) rfl rfl ((dzt_M206 (q_sA r943 15 (upd (r943.1 15) 2 (vp_nar .boolean 1))) c n a1 6).le (Nat.le_of_ble_eq_true rfl)) ?_
          generalize dz_M206 (q_sA r943 15 (upd (r943.1 15) 2 (vp_nar .boolean 1))) a1 6 = r944
          refine q_RT_let ?_
          show q_RT _ _ _ (55, [(0, .ref 64), (1, .int a1)], [.int (q_b r944), .int 1, .ref 79], (q_kM (q_sA r943 15 (upd (r943.1 15) 2 (vp_nar .boolean 1))) c n)) _ _
          cases h1273 : r944 with
          | true =>
            refine q_RT_cT ?_
            show q_RT _ _ _ (55, [(0, .ref 64), (1, .int a1)], [.int 1, .int 1, .ref 79], (q_kM (q_sA r943 15 (upd (r943.1 15) 2 (vp_nar .boolean 1))) c n)) _ _
            generalize (q_sA r943 15 (upd (r943.1 15) 2 (vp_nar .boolean 1))) = r945
            refine q_RT_let ?_
            show q_RT _ _ _ (55, [(0, .ref 64), (1, .int a1)], [.int 1, .int 1, .ref 79], (q_kM r945 c n)) _ _
            refine q_RT_seg (g2 := (64, [(0, .ref 64), (1, .int a1)], [.int 7, .int a1, .int 0, .ref 79], (q_kM (q_sA r945 15 (upd (r945.1 15) 1 (vp_nar .boolean 1))) c n))) 6 (fun _ _ => rfl) ?_
            refine q_RT_call (v := (some (.int (q_b (dz_M206 (q_sA r945 15 (upd (r945.1 15) 1 (vp_nar .boolean 1))) a1 7))))) (h2 := (q_kM (q_sA r945 15 (upd (r945.1 15) 1 (vp_nar .boolean 1))) c n)) rfl rfl ((dzt_M206 (q_sA r945 15 (upd (r945.1 15) 1 (vp_nar .boolean 1))) c n a1 7).le (Nat.le_of_ble_eq_true rfl)) ?_
            generalize dz_M206 (q_sA r945 15 (upd (r945.1 15) 1 (vp_nar .boolean 1))) a1 7 = r946
            refine q_RT_let ?_
            show q_RT _ _ _ (67, [(0, .ref 64), (1, .int a1)], [.int (q_b r946), .int 0, .ref 79], (q_kM (q_sA r945 15 (upd (r945.1 15) 1 (vp_nar .boolean 1))) c n)) _ _
            cases h1274 : r946 with
            | true =>
              refine q_RT_cT ?_
              show q_RT _ _ _ (67, [(0, .ref 64), (1, .int a1)], [.int 1, .int 0, .ref 79], (q_kM (q_sA r945 15 (upd (r945.1 15) 1 (vp_nar .boolean 1))) c n)) _ _
              generalize (q_sA r945 15 (upd (r945.1 15) 1 (vp_nar .boolean 1))) = r947
              refine q_RT_let ?_
              show q_RT _ _ _ (67, [(0, .ref 64), (1, .int a1)], [.int 1, .int 0, .ref 79], (q_kM r947 c n)) _ _
              refine q_RT_seg (g2 := (68, [(0, .ref 64), (1, .int a1)], [], (q_kM (q_sA r947 15 (upd (r947.1 15) 0 (vp_nar .boolean 1))) c n))) 1 (fun _ _ => rfl) ?_
              exact q_RT_ret rfl rfl rfl
            | false =>
              refine q_RT_cF ?_
              show q_RT _ _ _ (67, [(0, .ref 64), (1, .int a1)], [.int 0, .int 0, .ref 79], (q_kM (q_sA r945 15 (upd (r945.1 15) 1 (vp_nar .boolean 1))) c n)) _ _
              generalize (q_sA r945 15 (upd (r945.1 15) 1 (vp_nar .boolean 1))) = r948
              refine q_RT_let ?_
              show q_RT _ _ _ (67, [(0, .ref 64), (1, .int a1)], [.int 0, .int 0, .ref 79], (q_kM r948 c n)) _ _
              refine q_RT_seg (g2 := (68, [(0, .ref 64), (1, .int a1)], [], (q_kM (q_sA r948 15 (upd (r948.1 15) 0 (vp_nar .boolean 0))) c n))) 1 (fun _ _ => rfl) ?_
              exact q_RT_ret rfl rfl rfl
          | false =>
            refine q_RT_cF ?_
            show q_RT _ _ _ (55, [(0, .ref 64), (1, .int a1)], [.int 0, .int 1, .ref 79], (q_kM (q_sA r943 15 (upd (r943.1 15) 2 (vp_nar .boolean 1))) c n)) _ _
            generalize (q_sA r943 15 (upd (r943.1 15) 2 (vp_nar .boolean 1))) = r949
            refine q_RT_let ?_
            show q_RT _ _ _ (55, [(0, .ref 64), (1, .int a1)], [.int 0, .int 1, .ref 79], (q_kM r949 c n)) _ _
            refine q_RT_seg (g2 := (64, [(0, .ref 64), (1, .int a1)], [.int 7, .int a1, .int 0, .ref 79], (q_kM (q_sA r949 15 (upd (r949.1 15) 1 (vp_nar .boolean 0))) c n))) 6 (fun _ _ => rfl) ?_
            refine q_RT_call (v := (some (.int (q_b (dz_M206 (q_sA r949 15 (upd (r949.1 15) 1 (vp_nar .boolean 0))) a1 7))))) (h2 := (q_kM (q_sA r949 15 (upd (r949.1 15) 1 (vp_nar .boolean 0))) c n)) rfl rfl ((dzt_M206 (q_sA r949 15 (upd (r949.1 15) 1 (vp_nar .boolean 0))) c n a1 7).le (Nat.le_of_ble_eq_true rfl)) ?_
            generalize dz_M206 (q_sA r949 15 (upd (r949.1 15) 1 (vp_nar .boolean 0))) a1 7 = r950
            refine q_RT_let ?_
            show q_RT _ _ _ (67, [(0, .ref 64), (1, .int a1)], [.int (q_b r950), .int 0, .ref 79], (q_kM (q_sA r949 15 (upd (r949.1 15) 1 (vp_nar .boolean 0))) c n)) _ _
            cases h1275 : r950 with
            | true =>
              refine q_RT_cT ?_
              show q_RT _ _ _ (67, [(0, .ref 64), (1, .int a1)], [.int 1, .int 0, .ref 79], (q_kM (q_sA r949 15 (upd (r949.1 15) 1 (vp_nar .boolean 0))) c n)) _ _
              generalize (q_sA r949 15 (upd (r949.1 15) 1 (vp_nar .boolean 0))) = r951
              refine q_RT_let ?_
              show q_RT _ _ _ (67, [(0, .ref 64), (1, .int a1)], [.int 1, .int 0, .ref 79], (q_kM r951 c n)) _ _
              refine q_RT_seg (g2 := (68, [(0, .ref 64), (1, .int a1)], [], (q_kM (q_sA r951 15 (upd (r951.1 15) 0 (vp_nar .boolean 1))) c n))) 1 (fun _ _ => rfl) ?_
              exact q_RT_ret rfl rfl rfl
            | false =>
              refine q_RT_cF ?_
              show q_RT _ _ _ (67, [(0, .ref 64), (1, .int a1)], [.int 0, .int 0, .ref 79], (q_kM (q_sA r949 15 (upd (r949.1 15) 1 (vp_nar .boolean 0))) c n)) _ _
              generalize (q_sA r949 15 (upd (r949.1 15) 1 (vp_nar .boolean 0))) = r952
              refine q_RT_let ?_
              show q_RT _ _ _ (67, [(0, .ref 64), (1, .int a1)], [.int 0, .int 0, .ref 79], (q_kM r952 c n)) _ _
              refine q_RT_seg (g2 := (68, [(0, .ref 64), (1, .int a1)], [], (q_kM (q_sA r952 15 (upd (r952.1 15) 0 (vp_nar .boolean 0))) c n))) 1 (fun _ _ => rfl) ?_
              exact q_RT_ret rfl rfl rfl
        | false =>
          refine q_RT_cF ?_
          show q_RT _ _ _ (43, [(0, .ref 64), (1, .int a1)], [.int 0, .int 2, .ref 79], (q_kM (q_sA r941 15 (upd (r941.1 15) 3 (vp_nar .boolean 1))) c n)) _ _
          generalize (q_sA r941 15 (upd (r941.1 15) 3 (vp_nar .boolean 1))) = r953
          refine q_RT_let ?_
          show q_RT _ _ _ (43, [(0, .ref 64), (1, .int a1)], [.int 0, .int 2, .ref 79], (q_kM r953 c n)) _ _
          refine q_RT_seg (g2 := (52, [(0, .ref 64), (1, .int a1)], [.int 6, .int a1, .int 1, .ref 79], (q_kM (q_sA r953 15 (upd (r953.1 15) 2 (vp_nar .boolean 0))) c n))) 6 (fun _ _ => rfl) ?_
          refine q_RT_call (v := (some (.int (q_b (dz_M206 (q_sA r953 15 (upd (r953.1 15) 2 (vp_nar .boolean 0))) a1 6))))) (h2 := (q_kM (q_sA r953 15 (upd (r953.1 15) 2 (vp_nar .boolean 0))) c n)) rfl rfl ((dzt_M206 (q_sA r953 15 (upd (r953.1 15) 2 (vp_nar .boolean 0))) c n a1 6).le (Nat.le_of_ble_eq_true rfl)) ?_
          generalize dz_M206 (q_sA r953 15 (upd (r953.1 15) 2 (vp_nar .boolean 0))) a1 6 = r954
          refine q_RT_let ?_
          show q_RT _ _ _ (55, [(0, .ref 64), (1, .int a1)], [.int (q_b r954), .int 1, .ref 79], (q_kM (q_sA r953 15 (upd (r953.1 15) 2 (vp_nar .boolean 0))) c n)) _ _
          cases h1276 : r954 with
          | true =>
            refine q_RT_cT ?_
            show q_RT _ _ _ (55, [(0, .ref 64), (1, .int a1)], [.int 1, .int 1, .ref 79], (q_kM (q_sA r953 15 (upd (r953.1 15) 2 (vp_nar .boolean 0))) c n)) _ _
            generalize (q_sA r953 15 (upd (r953.1 15) 2 (vp_nar .boolean 0))) = r955
            refine q_RT_let ?_
            show q_RT _ _ _ (55, [(0, .ref 64), (1, .int a1)], [.int 1, .int 1, .ref 79], (q_kM r955 c n)) _ _
            refine q_RT_seg (g2 := (64, [(0, .ref 64), (1, .int a1)], [.int 7, .int a1, .int 0, .ref 79], (q_kM (q_sA r955 15 (upd (r955.1 15) 1 (vp_nar .boolean 1))) c n))) 6 (fun _ _ => rfl) ?_
            refine q_RT_call (v := (some (.int (q_b (dz_M206 (q_sA r955 15 (upd (r955.1 15) 1 (vp_nar .boolean 1))) a1 7))))) (h2 := (q_kM (q_sA r955 15 (upd (r955.1 15) 1 (vp_nar .boolean 1))) c n)) rfl rfl ((dzt_M206 (q_sA r955 15 (upd (r955.1 15) 1 (vp_nar .boolean 1))) c n a1 7).le (Nat.le_of_ble_eq_true rfl)) ?_
            generalize dz_M206 (q_sA r955 15 (upd (r955.1 15) 1 (vp_nar .boolean 1))) a1 7 = r956
            refine q_RT_let ?_
            show q_RT _ _ _ (67, [(0, .ref 64), (1, .int a1)], [.int (q_b r956), .int 0, .ref 79], (q_kM (q_sA r955 15 (upd (r955.1 15) 1 (vp_nar .boolean 1))) c n)) _ _
            cases h1277 : r956 with
            | true =>
              refine q_RT_cT ?_
              show q_RT _ _ _ (67, [(0, .ref 64), (1, .int a1)], [.int 1, .int 0, .ref 79], (q_kM (q_sA r955 15 (upd (r955.1 15) 1 (vp_nar .boolean 1))) c n)) _ _
              generalize (q_sA r955 15 (upd (r955.1 15) 1 (vp_nar .boolean 1))) = r957
              refine q_RT_let ?_
              show q_RT _ _ _ (67, [(0, .ref 64), (1, .int a1)], [.int 1, .int 0, .ref 79], (q_kM r957 c n)) _ _
              refine q_RT_seg (g2 := (68, [(0, .ref 64), (1, .int a1)], [], (q_kM (q_sA r957 15 (upd (r957.1 15) 0 (vp_nar .boolean 1))) c n))) 1 (fun _ _ => rfl) ?_
              exact q_RT_ret rfl rfl rfl
            | false =>
              refine q_RT_cF ?_
              show q_RT _ _ _ (67, [(0, .ref 64), (1, .int a1)], [.int 0, .int 0, .ref 79], (q_kM (q_sA r955 15 (upd (r955.1 15) 1 (vp_nar .boolean 1))) c n)) _ _
              generalize (q_sA r955 15 (upd (r955.1 15) 1 (vp_nar .boolean 1))) = r958
              refine q_RT_let ?_
              show q_RT _ _ _ (67, [(0, .ref 64), (1, .int a1)], [.int 0, .int 0, .ref 79], (q_kM r958 c n)) _ _
              refine q_RT_seg (g2 := (68, [(0, .ref 64), (1, .int a1)], [], (q_kM (q_sA r958 15 (upd (r958.1 15) 0 (vp_nar .boolean 0))) c n))) 1 (fun _ _ => rfl) ?_
              exact q_RT_ret rfl rfl rfl
          | false =>
            refine q_RT_cF ?_
            show q_RT _ _ _ (55, [(0, .ref 64), (1, .int a1)], [.int 0, .int 1, .ref 79], (q_kM (q_sA r953 15 (upd (r953.1 15) 2 (vp_nar .boolean 0))) c n)) _ _
            generalize (q_sA r953 15 (upd (r953.1 15) 2 (vp_nar .boolean 0))) = r959
            refine q_RT_let ?_
            show q_RT _ _ _ (55, [(0, .ref 64), (1, .int a1)], [.int 0, .int 1, .ref 79], (q_kM r959 c n)) _ _
            refine q_RT_seg (g2 := (64, [(0, .ref 64), (1, .int a1)], [.int 7, .int a1, .int 0, .ref 79], (q_kM (q_sA r959 15 (upd (r959.1 15) 1 (vp_nar .boolean 0))) c n))) 6 (fun _ _ => rfl) ?_
            refine q_RT_call (v := (some (.int (q_b (dz_M206 (q_sA r959 15 (upd (r959.1 15) 1 (vp_nar .boolean 0))) a1 7))))) (h2 := (q_kM (q_sA r959 15 (upd (r959.1 15) 1 (vp_nar .boolean 0))) c n)) rfl rfl ((dzt_M206 (q_sA r959 15 (upd (r959.1 15) 1 (vp_nar .boolean 0))) c n a1 7).le (Nat.le_of_ble_eq_true rfl)) ?_
            generalize dz_M206 (q_sA r959 15 (upd (r959.1 15) 1 (vp_nar .boolean 0))) a1 7 = r960
            refine q_RT_let ?_
            show q_RT _ _ _ (67, [(0, .ref 64), (1, .int a1)], [.int (q_b r960), .int 0, .ref 79], (q_kM (q_sA r959 15 (upd (r959.1 15) 1 (vp_nar .boolean 0))) c n)) _ _
            cases h1278 : r960 with
            | true =>
              refine q_RT_cT ?_
              show q_RT _ _ _ (67, [(0, .ref 64), (1, .int a1)], [.int 1, .int 0, .ref 79], (q_kM (q_sA r959 15 (upd (r959.1 15) 1 (vp_nar .boolean 0))) c n)) _ _
              generalize (q_sA r959 15 (upd (r959.1 15) 1 (vp_nar .boolean 0))) = r961
              refine q_RT_let ?_
              show q_RT _ _ _ (67, [(0, .ref 64), (1, .int a1)], [.int 1, .int 0, .ref 79], (q_kM r961 c n)) _ _
              refine q_RT_seg (g2 := (68, [(0, .ref 64), (1, .int a1)], [], (q_kM (q_sA r961 15 (upd (r961.1 15) 0 (vp_nar .boolean 1))) c n))) 1 (fun _ _ => rfl) ?_
              exact q_RT_ret rfl rfl rfl
            | false =>
              refine q_RT_cF ?_
              show q_RT _ _ _ (67, [(0, .ref 64), (1, .int a1)], [.int 0, .int 0, .ref 79], (q_kM (q_sA r959 15 (upd (r959.1 15) 1 (vp_nar .boolean 0))) c n)) _ _
              generalize (q_sA r959 15 (upd (r959.1 15) 1 (vp_nar .boolean 0))) = r962
              refine q_RT_let ?_
              show q_RT _ _ _ (67, [(0, .ref 64), (1, .int a1)], [.int 0, .int 0, .ref 79], (q_kM r962 c n)) _ _
              refine q_RT_seg (g2 := (68, [(0, .ref 64), (1, .int a1)], [], (q_kM (q_sA r962 15 (upd (r962.1 15) 0 (vp_nar .boolean 0))) c n))) 1 (fun _ _ => rfl) ?_
              exact q_RT_ret rfl rfl rfl
      | false =>
        refine q_RT_cF ?_
        show q_RT _ _ _ (32, [(0, .ref 64), (1, .int a1)], [.int 0, .int 3, .ref 79], (q_kM (q_sA r939 15 (upd (r939.1 15) 4 (vp_nar .boolean 1))) c n)) _ _
        generalize (q_sA r939 15 (upd (r939.1 15) 4 (vp_nar .boolean 1))) = r963
        refine q_RT_let ?_
        show q_RT _ _ _ (32, [(0, .ref 64), (1, .int a1)], [.int 0, .int 3, .ref 79], (q_kM r963 c n)) _ _
        refine q_RT_seg (g2 := (40, [(0, .ref 64), (1, .int a1)], [.int 3, .int a1, .int 2, .ref 79], (q_kM (q_sA r963 15 (upd (r963.1 15) 3 (vp_nar .boolean 0))) c n))) 6 (fun _ _ => rfl) ?_
        refine q_RT_call (v := (some (.int (q_b (dz_M206 (q_sA r963 15 (upd (r963.1 15) 3 (vp_nar .boolean 0))) a1 3))))) (h2 := (q_kM (q_sA r963 15 (upd (r963.1 15) 3 (vp_nar .boolean 0))) c n)) rfl rfl ((dzt_M206 (q_sA r963 15 (upd (r963.1 15) 3 (vp_nar .boolean 0))) c n a1 3).le (Nat.le_of_ble_eq_true rfl)) ?_
        generalize dz_M206 (q_sA r963 15 (upd (r963.1 15) 3 (vp_nar .boolean 0))) a1 3 = r964
        refine q_RT_let ?_
        show q_RT _ _ _ (43, [(0, .ref 64), (1, .int a1)], [.int (q_b r964), .int 2, .ref 79], (q_kM (q_sA r963 15 (upd (r963.1 15) 3 (vp_nar .boolean 0))) c n)) _ _
        cases h1279 : r964 with
        | true =>
          refine q_RT_cT ?_
          show q_RT _ _ _ (43, [(0, .ref 64), (1, .int a1)], [.int 1, .int 2, .ref 79], (q_kM (q_sA r963 15 (upd (r963.1 15) 3 (vp_nar .boolean 0))) c n)) _ _
          generalize (q_sA r963 15 (upd (r963.1 15) 3 (vp_nar .boolean 0))) = r965
          refine q_RT_let ?_
          show q_RT _ _ _ (43, [(0, .ref 64), (1, .int a1)], [.int 1, .int 2, .ref 79], (q_kM r965 c n)) _ _
          refine q_RT_seg (g2 := (52, [(0, .ref 64), (1, .int a1)], [.int 6, .int a1, .int 1, .ref 79], (q_kM (q_sA r965 15 (upd (r965.1 15) 2 (vp_nar .boolean 1))) c n))) 6 (fun _ _ => rfl) ?_
          refine q_RT_call (v := (some (.int (q_b (dz_M206 (q_sA r965 15 (upd (r965.1 15) 2 (vp_nar .boolean 1))) a1 6))))) (h2 := (q_kM (q_sA r965 15 (upd (r965.1 15) 2 (vp_nar .boolean 1))) c n)) rfl rfl ((dzt_M206 (q_sA r965 15 (upd (r965.1 15) 2 (vp_nar .boolean 1))) c n a1 6).le (Nat.le_of_ble_eq_true rfl)) ?_
          generalize dz_M206 (q_sA r965 15 (upd (r965.1 15) 2 (vp_nar .boolean 1))) a1 6 = r966
          refine q_RT_let ?_
          show q_RT _ _ _ (55, [(0, .ref 64), (1, .int a1)], [.int (q_b r966), .int 1, .ref 79], (q_kM (q_sA r965 15 (upd (r965.1 15) 2 (vp_nar .boolean 1))) c n)) _ _
          cases h1280 : r966 with
          | true =>
            refine q_RT_cT ?_
            show q_RT _ _ _ (55, [(0, .ref 64), (1, .int a1)], [.int 1, .int 1, .ref 79], (q_kM (q_sA r965 15 (upd (r965.1 15) 2 (vp_nar .boolean 1))) c n)) _ _
            generalize (q_sA r965 15 (upd (r965.1 15) 2 (vp_nar .boolean 1))) = r967
            refine q_RT_let ?_
            show q_RT _ _ _ (55, [(0, .ref 64), (1, .int a1)], [.int 1, .int 1, .ref 79], (q_kM r967 c n)) _ _
            refine q_RT_seg (g2 := (64, [(0, .ref 64), (1, .int a1)], [.int 7, .int a1, .int 0, .ref 79], (q_kM (q_sA r967 15 (upd (r967.1 15) 1 (vp_nar .boolean 1))) c n))) 6 (fun _ _ => rfl) ?_
            refine q_RT_call (v := (some (.int (q_b (dz_M206 (q_sA r967 15 (upd (r967.1 15) 1 (vp_nar .boolean 1))) a1 7))))) (h2 := (q_kM (q_sA r967 15 (upd (r967.1 15) 1 (vp_nar .boolean 1))) c n)) rfl rfl ((dzt_M206 (q_sA r967 15 (upd (r967.1 15) 1 (vp_nar .boolean 1))) c n a1 7).le (Nat.le_of_ble_eq_true rfl)) ?_
            generalize dz_M206 (q_sA r967 15 (upd (r967.1 15) 1 (vp_nar .boolean 1))) a1 7 = r968
            refine q_RT_let ?_
            show q_RT _ _ _ (67, [(0, .ref 64), (1, .int a1)], [.int (q_b r968), .int 0, .ref 79], (q_kM (q_sA r967 15 (upd (r967.1 15) 1 (vp_nar .boolean 1))) c n)) _ _
            cases h1281 : r968 with
            | true =>
              refine q_RT_cT ?_
              show q_RT _ _ _ (67, [(0, .ref 64), (1, .int a1)], [.int 1, .int 0, .ref 79], (q_kM (q_sA r967 15 (upd (r967.1 15) 1 (vp_nar .boolean 1))) c n)) _ _
              generalize (q_sA r967 15 (upd (r967.1 15) 1 (vp_nar .boolean 1))) = r969
              refine q_RT_let ?_
              show q_RT _ _ _ (67, [(0, .ref 64), (1, .int a1)], [.int 1, .int 0, .ref 79], (q_kM r969 c n)) _ _
              refine q_RT_seg (g2 := (68, [(0, .ref 64), (1, .int a1)], [], (q_kM (q_sA r969 15 (upd (r969.1 15) 0 (vp_nar .boolean 1))) c n))) 1 (fun _ _ => rfl) ?_
              exact q_RT_ret rfl rfl rfl
            | false =>
              refine q_RT_cF ?_
              show q_RT _ _ _ (67, [(0, .ref 64), (1, .int a1)], [.int 0, .int 0, .ref 79], (q_kM (q_sA r967 15 (upd (r967.1 15) 1 (vp_nar .boolean 1))) c n)) _ _
              generalize (q_sA r967 15 (upd (r967.1 15) 1 (vp_nar .boolean 1))) = r970
              refine q_RT_let ?_
              show q_RT _ _ _ (67, [(0, .ref 64), (1, .int a1)], [.int 0, .int 0, .ref 79], (q_kM r970 c n)) _ _
              refine q_RT_seg (g2 := (68, [(0, .ref 64), (1, .int a1)], [], (q_kM (q_sA r970 15 (upd (r970.1 15) 0 (vp_nar .boolean 0))) c n))) 1 (fun _ _ => rfl) ?_
              exact q_RT_ret rfl rfl rfl
          | false =>
            refine q_RT_cF ?_
            show q_RT _ _ _ (55, [(0, .ref 64), (1, .int a1)], [.int 0, .int 1, .ref 79], (q_kM (q_sA r965 15 (upd (r965.1 15) 2 (vp_nar .boolean 1))) c n)) _ _
            generalize (q_sA r965 15 (upd (r965.1 15) 2 (vp_nar .boolean 1))) = r971
            refine q_RT_let ?_
            show q_RT _ _ _ (55, [(0, .ref 64), (1, .int a1)], [.int 0, .int 1, .ref 79], (q_kM r971 c n)) _ _
            refine q_RT_seg (g2 := (64, [(0, .ref 64), (1, .int a1)], [.int 7, .int a1, .int 0, .ref 79], (q_kM (q_sA r971 15 (upd (r971.1 15) 1 (vp_nar .boolean 0))) c n))) 6 (fun _ _ => rfl) ?_
            refine q_RT_call (v := (some (.int (q_b (dz_M206 (q_sA r971 15 (upd (r971.1 15) 1 (vp_nar .boolean 0))) a1 7))))) (h2 := (q_kM (q_sA r971 15 (upd (r971.1 15) 1 (vp_nar .boolean 0))) c n)) rfl rfl ((dzt_M206 (q_sA r971 15 (upd (r971.1 15) 1 (vp_nar .boolean 0))) c n a1 7).le (Nat.le_of_ble_eq_true rfl)) ?_
            generalize dz_M206 (q_sA r971 15 (upd (r971.1 15) 1 (vp_nar .boolean 0))) a1 7 = r972
            refine q_RT_let ?_
            show q_RT _ _ _ (67, [(0, .ref 64), (1, .int a1)], [.int (q_b r972), .int 0, .ref 79], (q_kM (q_sA r971 15 (upd (r971.1 15) 1 (vp_nar .boolean 0))) c n)) _ _
            cases h1282 : r972 with
            | true =>
              refine q_RT_cT ?_
              show q_RT _ _ _ (67, [(0, .ref 64), (1, .int a1)], [.int 1, .int 0, .ref 79], (q_kM (q_sA r971 15 (upd (r971.1 15) 1 (vp_nar .boolean 0))) c n)) _ _
              generalize (q_sA r971 15 (upd (r971.1 15) 1 (vp_nar .boolean 0))) = r973
              refine q_RT_let ?_
              show q_RT _ _ _ (67, [(0, .ref 64), (1, .int a1)], [.int 1, .int 0, .ref 79], (q_kM r973 c n)) _ _
              refine q_RT_seg (g2 := (68, [(0, .ref 64), (1, .int a1)], [], (q_kM (q_sA r973 15 (upd (r973.1 15) 0 (vp_nar .boolean 1))) c n))) 1 (fun _ _ => rfl) ?_
              exact q_RT_ret rfl rfl rfl
            | false =>
              refine q_RT_cF ?_
              show q_RT _ _ _ (67, [(0, .ref 64), (1, .int a1)], [.int 0, .int 0, .ref 79], (q_kM (q_sA r971 15 (upd (r971.1 15) 1 (vp_nar .boolean 0))) c n)) _ _
              generalize (q_sA r971 15 (upd (r971.1 15) 1 (vp_nar .boolean 0))) = r974
              refine q_RT_let ?_
              show q_RT _ _ _ (67, [(0, .ref 64), (1, .int a1)], [.int 0, .int 0, .ref 79], (q_kM r974 c n)) _ _
              refine q_RT_seg (g2 := (68, [(0, .ref 64), (1, .int a1)], [], (q_kM (q_sA r974 15 (upd (r974.1 15) 0 (vp_nar .boolean 0))) c n))) 1 (fun _ _ => rfl) ?_
              exact q_RT_ret rfl rfl rfl
        | false =>
          refine q_RT_cF ?_
          show q_RT _ _ _ (43, [(0, .ref 64), (1, .int a1)], [.int 0, .int 2, .ref 79], (q_kM (q_sA r963 15 (upd (r963.1 15) 3 (vp_nar .boolean 0))) c n)) _ _
          generalize (q_sA r963 15 (upd (r963.1 15) 3 (vp_nar .boolean 0))) = r975
          refine q_RT_let ?_
          show q_RT _ _ _ (43, [(0, .ref 64), (1, .int a1)], [.int 0, .int 2, .ref 79], (q_kM r975 c n)) _ _
          refine q_RT_seg (g2 := (52, [(0, .ref 64), (1, .int a1)], [.int 6, .int a1, .int 1, .ref 79], (q_kM (q_sA r975 15 (upd (r975.1 15) 2 (vp_nar .boolean 0))) c n))) 6 (fun _ _ => rfl) ?_
          refine q_RT_call (v := (some (.int (q_b (dz_M206 (q_sA r975 15 (upd (r975.1 15) 2 (vp_nar .boolean 0))) a1 6))))) (h2 := (q_kM (q_sA r975 15 (upd (r975.1 15) 2 (vp_nar .boolean 0))) c n)) rfl rfl ((dzt_M206 (q_sA r975 15 (upd (r975.1 15) 2 (vp_nar .boolean 0))) c n a1 6).le (Nat.le_of_ble_eq_true rfl)) ?_
          generalize dz_M206 (q_sA r975 15 (upd (r975.1 15) 2 (vp_nar .boolean 0))) a1 6 = r976
          refine q_RT_let ?_
          show q_RT _ _ _ (55, [(0, .ref 64), (1, .int a1)], [.int (q_b r976), .int 1, .ref 79], (q_kM (q_sA r975 15 (upd (r975.1 15) 2 (vp_nar .boolean 0))) c n)) _ _
          cases h1283 : r976 with
          | true =>
            refine q_RT_cT ?_
            show q_RT _ _ _ (55, [(0, .ref 64), (1, .int a1)], [.int 1, .int 1, .ref 79], (q_kM (q_sA r975 15 (upd (r975.1 15) 2 (vp_nar .boolean 0))) c n)) _ _
            generalize (q_sA r975 15 (upd (r975.1 15) 2 (vp_nar .boolean 0))) = r977
            refine q_RT_let ?_
            show q_RT _ _ _ (55, [(0, .ref 64), (1, .int a1)], [.int 1, .int 1, .ref 79], (q_kM r977 c n)) _ _
            refine q_RT_seg (g2 := (64, [(0, .ref 64), (1, .int a1)], [.int 7, .int a1, .int 0, .ref 79], (q_kM (q_sA r977 15 (upd (r977.1 15) 1 (vp_nar .boolean 1))) c n))) 6 (fun _ _ => rfl) ?_
            refine q_RT_call (v := (some (.int (q_b (dz_M206 (q_sA r977 15 (upd (r977.1 15) 1 (vp_nar .boolean 1))) a1 7))))) (h2 := (q_kM (q_sA r977 15 (upd (r977.1 15) 1 (vp_nar .boolean 1))) c n)) rfl rfl ((dzt_M206 (q_sA r977 15 (upd (r977.1 15) 1 (vp_nar .boolean 1))) c n a1 7).le (Nat.le_of_ble_eq_true rfl)) ?_
            generalize dz_M206 (q_sA r977 15 (upd (r977.1 15) 1 (vp_nar .boolean 1))) a1 7 = r978
            refine q_RT_let ?_
            show q_RT _ _ _ (67, [(0, .ref 64), (1, .int a1)], [.int (q_b r978), .int 0, .ref 79], (q_kM (q_sA r977 15 (upd (r977.1 15) 1 (vp_nar .boolean 1))) c n)) _ _
            cases h1284 : r978 with
            | true =>
              refine q_RT_cT ?_
              show q_RT _ _ _ (67, [(0, .ref 64), (1, .int a1)], [.int 1, .int 0, .ref 79], (q_kM (q_sA r977 15 (upd (r977.1 15) 1 (vp_nar .boolean 1))) c n)) _ _
              generalize (q_sA r977 15 (upd (r977.1 15) 1 (vp_nar .boolean 1))) = r979
              refine q_RT_let ?_
              show q_RT _ _ _ (67, [(0, .ref 64), (1, .int a1)], [.int 1, .int 0, .ref 79], (q_kM r979 c n)) _ _
              refine q_RT_seg (g2 := (68, [(0, .ref 64), (1, .int a1)], [], (q_kM (q_sA r979 15 (upd (r979.1 15) 0 (vp_nar .boolean 1))) c n))) 1 (fun _ _ => rfl) ?_
              exact q_RT_ret rfl rfl rfl
            | false =>
              refine q_RT_cF ?_
              show q_RT _ _ _ (67, [(0, .ref 64), (1, .int a1)], [.int 0, .int 0, .ref 79], (q_kM (q_sA r977 15 (upd (r977.1 15) 1 (vp_nar .boolean 1))) c n)) _ _
              generalize (q_sA r977 15 (upd (r977.1 15) 1 (vp_nar .boolean 1))) = r980
              refine q_RT_let ?_
              show q_RT _ _ _ (67, [(0, .ref 64), (1, .int a1)], [.int 0, .int 0, .ref 79], (q_kM r980 c n)) _ _
              refine q_RT_seg (g2 := (68, [(0, .ref 64), (1, .int a1)], [], (q_kM (q_sA r980 15 (upd (r980.1 15) 0 (vp_nar .boolean 0))) c n))) 1 (fun _ _ => rfl) ?_
              exact q_RT_ret rfl rfl rfl
          | false =>
            refine q_RT_cF ?_
            show q_RT _ _ _ (55, [(0, .ref 64), (1, .int a1)], [.int 0, .int 1, .ref 79], (q_kM (q_sA r975 15 (upd (r975.1 15) 2 (vp_nar .boolean 0))) c n)) _ _
            generalize (q_sA r975 15 (upd (r975.1 15) 2 (vp_nar .boolean 0))) = r981
            refine q_RT_let ?_
            show q_RT _ _ _ (55, [(0, .ref 64), (1, .int a1)], [.int 0, .int 1, .ref 79], (q_kM r981 c n)) _ _
            refine q_RT_seg (g2 := (64, [(0, .ref 64), (1, .int a1)], [.int 7, .int a1, .int 0, .ref 79], (q_kM (q_sA r981 15 (upd (r981.1 15) 1 (vp_nar .boolean 0))) c n))) 6 (fun _ _ => rfl) ?_
            refine q_RT_call (v := (some (.int (q_b (dz_M206 (q_sA r981 15 (upd (r981.1 15) 1 (vp_nar .boolean 0))) a1 7))))) (h2 := (q_kM (q_sA r981 15 (upd (r981.1 15) 1 (vp_nar .boolean 0))) c n)) rfl rfl ((dzt_M206 (q_sA r981 15 (upd (r981.1 15) 1 (vp_nar .boolean 0))) c n a1 7).le (Nat.le_of_ble_eq_true rfl)) ?_
            generalize dz_M206 (q_sA r981 15 (upd (r981.1 15) 1 (vp_nar .boolean 0))) a1 7 = r982
            refine q_RT_let ?_
            show q_RT _ _ _ (67, [(0, .ref 64), (1, .int a1)], [.int (q_b r982), .int 0, .ref 79], (q_kM (q_sA r981 15 (upd (r981.1 15) 1 (vp_nar .boolean 0))) c n)) _ _
            cases h1285 : r982 with
            | true =>
              refine q_RT_cT ?_
              show q_RT _ _ _ (67, [(0, .ref 64), (1, .int a1)], [.int 1, .int 0, .ref 79], (q_kM (q_sA r981 15 (upd (r981.1 15) 1 (vp_nar .boolean 0))) c n)) _ _
              generalize (q_sA r981 15 (upd (r981.1 15) 1 (vp_nar .boolean 0))) = r983
              refine q_RT_let ?_
              show q_RT _ _ _ (67, [(0, .ref 64), (1, .int a1)], [.int 1, .int 0, .ref 79], (q_kM r983 c n)) _ _
              refine q_RT_seg (g2 := (68, [(0, .ref 64), (1, .int a1)], [], (q_kM (q_sA r983 15 (upd (r983.1 15) 0 (vp_nar .boolean 1))) c n))) 1 (fun _ _ => rfl) ?_
              exact q_RT_ret rfl rfl rfl
            | false =>
              refine q_RT_cF ?_
              show q_RT _ _ _ (67, [(0, .ref 64), (1, .int a1)], [.int 0, .int 0, .ref 79], (q_kM (q_sA r981 15 (upd (r981.1 15) 1 (vp_nar .boolean 0))) c n)) _ _
              generalize (q_sA r981 15 (upd (r981.1 15) 1 (vp_nar .boolean 0))) = r984
              refine q_RT_let ?_
              show q_RT _ _ _ (67, [(0, .ref 64), (1, .int a1)], [.int 0, .int 0, .ref 79], (q_kM r984 c n)) _ _
              refine q_RT_seg (g2 := (68, [(0, .ref 64), (1, .int a1)], [], (q_kM (q_sA r984 15 (upd (r984.1 15) 0 (vp_nar .boolean 0))) c n))) 1 (fun _ _ => rfl) ?_
              exact q_RT_ret rfl rfl rfl
    | false =>
      refine q_RT_cF ?_
      show q_RT _ _ _ (21, [(0, .ref 64), (1, .int a1)], [.int 0, .int 4, .ref 79], (q_kM (q_sA s 15 (upd (s.1 15) 5 (vp_nar .boolean 1))) c n)) _ _
      generalize (q_sA s 15 (upd (s.1 15) 5 (vp_nar .boolean 1))) = r985
      refine q_RT_let ?_
      show q_RT _ _ _ (21, [(0, .ref 64), (1, .int a1)], [.int 0, .int 4, .ref 79], (q_kM r985 c n)) _ _
      refine q_RT_seg (g2 := (29, [(0, .ref 64), (1, .int a1)], [.int 2, .int a1, .int 3, .ref 79], (q_kM (q_sA r985 15 (upd (r985.1 15) 4 (vp_nar .boolean 0))) c n))) 6 (fun _ _ => rfl) ?_
      refine q_RT_call (v := (some (.int (q_b (dz_M206 (q_sA r985 15 (upd (r985.1 15) 4 (vp_nar .boolean 0))) a1 2))))) (h2 := (q_kM (q_sA r985 15 (upd (r985.1 15) 4 (vp_nar .boolean 0))) c n)) rfl rfl ((dzt_M206 (q_sA r985 15 (upd (r985.1 15) 4 (vp_nar .boolean 0))) c n a1 2).le (Nat.le_of_ble_eq_true rfl)) ?_
      generalize dz_M206 (q_sA r985 15 (upd (r985.1 15) 4 (vp_nar .boolean 0))) a1 2 = r986
      refine q_RT_let ?_
      show q_RT _ _ _ (32, [(0, .ref 64), (1, .int a1)], [.int (q_b r986), .int 3, .ref 79], (q_kM (q_sA r985 15 (upd (r985.1 15) 4 (vp_nar .boolean 0))) c n)) _ _
      cases h1286 : r986 with
      | true =>
        refine q_RT_cT ?_
        show q_RT _ _ _ (32, [(0, .ref 64), (1, .int a1)], [.int 1, .int 3, .ref 79], (q_kM (q_sA r985 15 (upd (r985.1 15) 4 (vp_nar .boolean 0))) c n)) _ _
        generalize (q_sA r985 15 (upd (r985.1 15) 4 (vp_nar .boolean 0))) = r987
        refine q_RT_let ?_
        show q_RT _ _ _ (32, [(0, .ref 64), (1, .int a1)], [.int 1, .int 3, .ref 79], (q_kM r987 c n)) _ _
        refine q_RT_seg (g2 := (40, [(0, .ref 64), (1, .int a1)], [.int 3, .int a1, .int 2, .ref 79], (q_kM (q_sA r987 15 (upd (r987.1 15) 3 (vp_nar .boolean 1))) c n))) 6 (fun _ _ => rfl) ?_
        refine q_RT_call (v := (some (.int (q_b (dz_M206 (q_sA r987 15 (upd (r987.1 15) 3 (vp_nar .boolean 1))) a1 3))))) (h2 := (q_kM (q_sA r987 15 (upd (r987.1 15) 3 (vp_nar .boolean 1))) c n)) rfl rfl ((dzt_M206 (q_sA r987 15 (upd (r987.1 15) 3 (vp_nar .boolean 1))) c n a1 3).le (Nat.le_of_ble_eq_true rfl)) ?_
        generalize dz_M206 (q_sA r987 15 (upd (r987.1 15) 3 (vp_nar .boolean 1))) a1 3 = r988
        refine q_RT_let ?_
        show q_RT _ _ _ (43, [(0, .ref 64), (1, .int a1)], [.int (q_b r988), .int 2, .ref 79], (q_kM (q_sA r987 15 (upd (r987.1 15) 3 (vp_nar .boolean 1))) c n)) _ _
        cases h1287 : r988 with
        | true =>
          refine q_RT_cT ?_
          show q_RT _ _ _ (43, [(0, .ref 64), (1, .int a1)], [.int 1, .int 2, .ref 79], (q_kM (q_sA r987 15 (upd (r987.1 15) 3 (vp_nar .boolean 1))) c n)) _ _
          generalize (q_sA r987 15 (upd (r987.1 15) 3 (vp_nar .boolean 1))) = r989
          refine q_RT_let ?_
          show q_RT _ _ _ (43, [(0, .ref 64), (1, .int a1)], [.int 1, .int 2, .ref 79], (q_kM r989 c n)) _ _
          refine q_RT_seg (g2 := (52, [(0, .ref 64), (1, .int a1)], [.int 6, .int a1, .int 1, .ref 79], (q_kM (q_sA r989 15 (upd (r989.1 15) 2 (vp_nar .boolean 1))) c n))) 6 (fun _ _ => rfl) ?_
          refine q_RT_call (v := (some (.int (q_b (dz_M206 (q_sA r989 15 (upd (r989.1 15) 2 (vp_nar .boolean 1))) a1 6))))) (h2 := (q_kM (q_sA r989 15 (upd (r989.1 15) 2 (vp_nar .boolean 1))) c n)) rfl rfl ((dzt_M206 (q_sA r989 15 (upd (r989.1 15) 2 (vp_nar .boolean 1))) c n a1 6).le (Nat.le_of_ble_eq_true rfl)) ?_
          generalize dz_M206 (q_sA r989 15 (upd (r989.1 15) 2 (vp_nar .boolean 1))) a1 6 = r990
          refine q_RT_let ?_
          show q_RT _ _ _ (55, [(0, .ref 64), (1, .int a1)], [.int (q_b r990), .int 1, .ref 79], (q_kM (q_sA r989 15 (upd (r989.1 15) 2 (vp_nar .boolean 1))) c n)) _ _
          cases h1288 : r990 with
          | true =>
            refine q_RT_cT ?_
            show q_RT _ _ _ (55, [(0, .ref 64), (1, .int a1)], [.int 1, .int 1, .ref 79], (q_kM (q_sA r989 15 (upd (r989.1 15) 2 (vp_nar .boolean 1))) c n)) _ _
            generalize (q_sA r989 15 (upd (r989.1 15) 2 (vp_nar .boolean 1))) = r991
            refine q_RT_let ?_
            show q_RT _ _ _ (55, [(0, .ref 64), (1, .int a1)], [.int 1, .int 1, .ref 79], (q_kM r991 c n)) _ _
            refine q_RT_seg (g2 := (64, [(0, .ref 64), (1, .int a1)], [.int 7, .int a1, .int 0, .ref 79], (q_kM (q_sA r991 15 (upd (r991.1 15) 1 (vp_nar .boolean 1))) c n))) 6 (fun _ _ => rfl) ?_
            refine q_RT_call (v := (some (.int (q_b (dz_M206 (q_sA r991 15 (upd (r991.1 15) 1 (vp_nar .boolean 1))) a1 7))))) (h2 := (q_kM (q_sA r991 15 (upd (r991.1 15) 1 (vp_nar .boolean 1))) c n)) rfl rfl ((dzt_M206 (q_sA r991 15 (upd (r991.1 15) 1 (vp_nar .boolean 1))) c n a1 7).le (Nat.le_of_ble_eq_true rfl)) ?_
            generalize dz_M206 (q_sA r991 15 (upd (r991.1 15) 1 (vp_nar .boolean 1))) a1 7 = r992
            refine q_RT_let ?_
            show q_RT _ _ _ (67, [(0, .ref 64), (1, .int a1)], [.int (q_b r992), .int 0, .ref 79], (q_kM (q_sA r991 15 (upd (r991.1 15) 1 (vp_nar .boolean 1))) c n)) _ _
            cases h1289 : r992 with
            | true =>
              refine q_RT_cT ?_
              show q_RT _ _ _ (67, [(0, .ref 64), (1, .int a1)], [.int 1, .int 0, .ref 79], (q_kM (q_sA r991 15 (upd (r991.1 15) 1 (vp_nar .boolean 1))) c n)) _ _
              generalize (q_sA r991 15 (upd (r991.1 15) 1 (vp_nar .boolean 1))) = r993
              refine q_RT_let ?_
              show q_RT _ _ _ (67, [(0, .ref 64), (1, .int a1)], [.int 1, .int 0, .ref 79], (q_kM r993 c n)) _ _
              refine q_RT_seg (g2 := (68, [(0, .ref 64), (1, .int a1)], [], (q_kM (q_sA r993 15 (upd (r993.1 15) 0 (vp_nar .boolean 1))) c n))) 1 (fun _ _ => rfl) ?_
              exact q_RT_ret rfl rfl rfl
            | false =>
              refine q_RT_cF ?_
              show q_RT _ _ _ (67, [(0, .ref 64), (1, .int a1)], [.int 0, .int 0, .ref 79], (q_kM (q_sA r991 15 (upd (r991.1 15) 1 (vp_nar .boolean 1))) c n)) _ _
              generalize (q_sA r991 15 (upd (r991.1 15) 1 (vp_nar .boolean 1))) = r994
              refine q_RT_let ?_
              show q_RT _ _ _ (67, [(0, .ref 64), (1, .int a1)], [.int 0, .int 0, .ref 79], (q_kM r994 c n)) _ _
              refine q_RT_seg (g2 := (68, [(0, .ref 64), (1, .int a1)], [], (q_kM (q_sA r994 15 (upd (r994.1 15) 0 (vp_nar .boolean 0))) c n))) 1 (fun _ _ => rfl) ?_
              exact q_RT_ret rfl rfl rfl
          | false =>
            refine q_RT_cF ?_
            show q_RT _ _ _ (55, [(0, .ref 64), (1, .int a1)], [.int 0, .int 1, .ref 79], (q_kM (q_sA r989 15 (upd (r989.1 15) 2 (vp_nar .boolean 1))) c n)) _ _
            generalize (q_sA r989 15 (upd (r989.1 15) 2 (vp_nar .boolean 1))) = r995
            refine q_RT_let ?_
            show q_RT _ _ _ (55, [(0, .ref 64), (1, .int a1)], [.int 0, .int 1, .ref 79], (q_kM r995 c n)) _ _
            refine q_RT_seg (g2 := (64, [(0, .ref 64), (1, .int a1)], [.int 7, .int a1, .int 0, .ref 79], (q_kM (q_sA r995 15 (upd (r995.1 15) 1 (vp_nar .boolean 0))) c n))) 6 (fun _ _ => rfl) ?_
            refine q_RT_call (v := (some (.int (q_b (dz_M206 (q_sA r995 15 (upd (r995.1 15) 1 (vp_nar .boolean 0))) a1 7))))) (h2 := (q_kM (q_sA r995 15 (upd (r995.1 15) 1 (vp_nar .boolean 0))) c n)) rfl rfl ((dzt_M206 (q_sA r995 15 (upd (r995.1 15) 1 (vp_nar .boolean 0))) c n a1 7).le (Nat.le_of_ble_eq_true rfl)) ?_
            generalize dz_M206 (q_sA r995 15 (upd (r995.1 15) 1 (vp_nar .boolean 0))) a1 7 = r996
            refine q_RT_let ?_
            show q_RT _ _ _ (67, [(0, .ref 64), (1, .int a1)], [.int (q_b r996), .int 0, .ref 79], (q_kM (q_sA r995 15 (upd (r995.1 15) 1 (vp_nar .boolean 0))) c n)) _ _
            cases h1290 : r996 with
            | true =>
              refine q_RT_cT ?_
              show q_RT _ _ _ (67, [(0, .ref 64), (1, .int a1)], [.int 1, .int 0, .ref 79], (q_kM (q_sA r995 15 (upd (r995.1 15) 1 (vp_nar .boolean 0))) c n)) _ _
              generalize (q_sA r995 15 (upd (r995.1 15) 1 (vp_nar .boolean 0))) = r997
              refine q_RT_let ?_
              show q_RT _ _ _ (67, [(0, .ref 64), (1, .int a1)], [.int 1, .int 0, .ref 79], (q_kM r997 c n)) _ _
              refine q_RT_seg (g2 := (68, [(0, .ref 64), (1, .int a1)], [], (q_kM (q_sA r997 15 (upd (r997.1 15) 0 (vp_nar .boolean 1))) c n))) 1 (fun _ _ => rfl) ?_
              exact q_RT_ret rfl rfl rfl
            | false =>
              refine q_RT_cF ?_
              show q_RT _ _ _ (67, [(0, .ref 64), (1, .int a1)], [.int 0, .int 0, .ref 79], (q_kM (q_sA r995 15 (upd (r995.1 15) 1 (vp_nar .boolean 0))) c n)) _ _
              generalize (q_sA r995 15 (upd (r995.1 15) 1 (vp_nar .boolean 0))) = r998
              refine q_RT_let ?_
              show q_RT _ _ _ (67, [(0, .ref 64), (1, .int a1)], [.int 0, .int 0, .ref 79], (q_kM r998 c n)) _ _
              refine q_RT_seg (g2 := (68, [(0, .ref 64), (1, .int a1)], [], (q_kM (q_sA r998 15 (upd (r998.1 15) 0 (vp_nar .boolean 0))) c n))) 1 (fun _ _ => rfl) ?_
              exact q_RT_ret rfl rfl rfl
        | false =>
          refine q_RT_cF ?_
          show q_RT _ _ _ (43, [(0, .ref 64), (1, .int a1)], [.int 0, .int 2, .ref 79], (q_kM (q_sA r987 15 (upd (r987.1 15) 3 (vp_nar .boolean 1))) c n)) _ _
          generalize (q_sA r987 15 (upd (r987.1 15) 3 (vp_nar .boolean 1))) = r999
          refine q_RT_let ?_
          show q_RT _ _ _ (43, [(0, .ref 64), (1, .int a1)], [.int 0, .int 2, .ref 79], (q_kM r999 c n)) _ _
          refine q_RT_seg (g2 := (52, [(0, .ref 64), (1, .int a1)], [.int 6, .int a1, .int 1, .ref 79], (q_kM (q_sA r999 15 (upd (r999.1 15) 2 (vp_nar .boolean 0))) c n))) 6 (fun _ _ => rfl) ?_
          refine q_RT_call (v := (some (.int (q_b (dz_M206 (q_sA r999 15 (upd (r999.1 15) 2 (vp_nar .boolean 0))) a1 6))))) (h2 := (q_kM (q_sA r999 15 (upd (r999.1 15) 2 (vp_nar .boolean 0))) c n)) rfl rfl ((dzt_M206 (q_sA r999 15 (upd (r999.1 15) 2 (vp_nar .boolean 0))) c n a1 6).le (Nat.le_of_ble_eq_true rfl)) ?_
          generalize dz_M206 (q_sA r999 15 (upd (r999.1 15) 2 (vp_nar .boolean 0))) a1 6 = r1000
          refine q_RT_let ?_
          show q_RT _ _ _ (55, [(0, .ref 64), (1, .int a1)], [.int (q_b r1000), .int 1, .ref 79], (q_kM (q_sA r999 15 (upd (r999.1 15) 2 (vp_nar .boolean 0))) c n)) _ _
          cases h1291 : r1000 with
          | true =>
            refine q_RT_cT ?_
            show q_RT _ _ _ (55, [(0, .ref 64), (1, .int a1)], [.int 1, .int 1, .ref 79], (q_kM (q_sA r999 15 (upd (r999.1 15) 2 (vp_nar .boolean 0))) c n)) _ _
            generalize (q_sA r999 15 (upd (r999.1 15) 2 (vp_nar .boolean 0))) = r1001
            refine q_RT_let ?_
            show q_RT _ _ _ (55, [(0, .ref 64), (1, .int a1)], [.int 1, .int 1, .ref 79], (q_kM r1001 c n)) _ _
            refine q_RT_seg (g2 := (64, [(0, .ref 64), (1, .int a1)], [.int 7, .int a1, .int 0, .ref 79], (q_kM (q_sA r1001 15 (upd (r1001.1 15) 1 (vp_nar .boolean 1))) c n))) 6 (fun _ _ => rfl) ?_
            refine q_RT_call (v := (some (.int (q_b (dz_M206 (q_sA r1001 15 (upd (r1001.1 15) 1 (vp_nar .boolean 1))) a1 7))))) (h2 := (q_kM (q_sA r1001 15 (upd (r1001.1 15) 1 (vp_nar .boolean 1))) c n)) rfl rfl ((dzt_M206 (q_sA r1001 15 (upd (r1001.1 15) 1 (vp_nar .boolean 1))) c n a1 7).le (Nat.le_of_ble_eq_true rfl)) ?_
            generalize dz_M206 (q_sA r1001 15 (upd (r1001.1 15) 1 (vp_nar .boolean 1))) a1 7 = r1002
            refine q_RT_let ?_
            show q_RT _ _ _ (67, [(0, .ref 64), (1, .int a1)], [.int (q_b r1002), .int 0, .ref 79], (q_kM (q_sA r1001 15 (upd (r1001.1 15) 1 (vp_nar .boolean 1))) c n)) _ _
            cases h1292 : r1002 with
            | true =>
              refine q_RT_cT ?_
              show q_RT _ _ _ (67, [(0, .ref 64), (1, .int a1)], [.int 1, .int 0, .ref 79], (q_kM (q_sA r1001 15 (upd (r1001.1 15) 1 (vp_nar .boolean 1))) c n)) _ _
              generalize (q_sA r1001 15 (upd (r1001.1 15) 1 (vp_nar .boolean 1))) = r1003
              refine q_RT_let ?_
              show q_RT _ _ _ (67, [(0, .ref 64), (1, .int a1)], [.int 1, .int 0, .ref 79], (q_kM r1003 c n)) _ _
              refine q_RT_seg (g2 := (68, [(0, .ref 64), (1, .int a1)], [], (q_kM (q_sA r1003 15 (upd (r1003.1 15) 0 (vp_nar .boolean 1))) c n))) 1 (fun _ _ => rfl) ?_
              exact q_RT_ret rfl rfl rfl
            | false =>
              refine q_RT_cF ?_
              show q_RT _ _ _ (67, [(0, .ref 64), (1, .int a1)], [.int 0, .int 0, .ref 79], (q_kM (q_sA r1001 15 (upd (r1001.1 15) 1 (vp_nar .boolean 1))) c n)) _ _
              generalize (q_sA r1001 15 (upd (r1001.1 15) 1 (vp_nar .boolean 1))) = r1004
              refine q_RT_let ?_
              show q_RT _ _ _ (67, [(0, .ref 64), (1, .int a1)], [.int 0, .int 0, .ref 79], (q_kM r1004 c n)) _ _
              refine q_RT_seg (g2 := (68, [(0, .ref 64), (1, .int a1)], [], (q_kM (q_sA r1004 15 (upd (r1004.1 15) 0 (vp_nar .boolean 0))) c n))) 1 (fun _ _ => rfl) ?_
              exact q_RT_ret rfl rfl rfl
          | false =>
            refine q_RT_cF ?_
            show q_RT _ _ _ (55, [(0, .ref 64), (1, .int a1)], [.int 0, .int 1, .ref 79], (q_kM (q_sA r999 15 (upd (r999.1 15) 2 (vp_nar .boolean 0))) c n)) _ _
            generalize (q_sA r999 15 (upd (r999.1 15) 2 (vp_nar .boolean 0))) = r1005
            refine q_RT_let ?_
            show q_RT _ _ _ (55, [(0, .ref 64), (1, .int a1)], [.int 0, .int 1, .ref 79], (q_kM r1005 c n)) _ _
            refine q_RT_seg (g2 := (64, [(0, .ref 64), (1, .int a1)], [.int 7, .int a1, .int 0, .ref 79], (q_kM (q_sA r1005 15 (upd (r1005.1 15) 1 (vp_nar .boolean 0))) c n))) 6 (fun _ _ => rfl) ?_
            refine q_RT_call (v := (some (.int (q_b (dz_M206 (q_sA r1005 15 (upd (r1005.1 15) 1 (vp_nar .boolean 0))) a1 7))))) (h2 := (q_kM (q_sA r1005 15 (upd (r1005.1 15) 1 (vp_nar .boolean 0))) c n)) rfl rfl ((dzt_M206 (q_sA r1005 15 (upd (r1005.1 15) 1 (vp_nar .boolean 0))) c n a1 7).le (Nat.le_of_ble_eq_true rfl)) ?_
            generalize dz_M206 (q_sA r1005 15 (upd (r1005.1 15) 1 (vp_nar .boolean 0))) a1 7 = r1006
            refine q_RT_let ?_
            show q_RT _ _ _ (67, [(0, .ref 64), (1, .int a1)], [.int (q_b r1006), .int 0, .ref 79], (q_kM (q_sA r1005 15 (upd (r1005.1 15) 1 (vp_nar .boolean 0))) c n)) _ _
            cases h1293 : r1006 with
            | true =>
              refine q_RT_cT ?_
              show q_RT _ _ _ (67, [(0, .ref 64), (1, .int a1)], [.int 1, .int 0, .ref 79], (q_kM (q_sA r1005 15 (upd (r1005.1 15) 1 (vp_nar .boolean 0))) c n)) _ _
              generalize (q_sA r1005 15 (upd (r1005.1 15) 1 (vp_nar .boolean 0))) = r1007
              refine q_RT_let ?_
              show q_RT _ _ _ (67, [(0, .ref 64), (1, .int a1)], [.int 1, .int 0, .ref 79], (q_kM r1007 c n)) _ _
              refine q_RT_seg (g2 := (68, [(0, .ref 64), (1, .int a1)], [], (q_kM (q_sA r1007 15 (upd (r1007.1 15) 0 (vp_nar .boolean 1))) c n))) 1 (fun _ _ => rfl) ?_
              exact q_RT_ret rfl rfl rfl
            | false =>
              refine q_RT_cF ?_
              show q_RT _ _ _ (67, [(0, .ref 64), (1, .int a1)], [.int 0, .int 0, .ref 79], (q_kM (q_sA r1005 15 (upd (r1005.1 15) 1 (vp_nar .boolean 0))) c n)) _ _
              generalize (q_sA r1005 15 (upd (r1005.1 15) 1 (vp_nar .boolean 0))) = r1008
              refine q_RT_let ?_
              show q_RT _ _ _ (67, [(0, .ref 64), (1, .int a1)], [.int 0, .int 0, .ref 79], (q_kM r1008 c n)) _ _
              refine q_RT_seg (g2 := (68, [(0, .ref 64), (1, .int a1)], [], (q_kM (q_sA r1008 15 (upd (r1008.1 15) 0 (vp_nar .boolean 0))) c n))) 1 (fun _ _ => rfl) ?_
              exact q_RT_ret rfl rfl rfl
      | false =>
        refine q_RT_cF ?_
        show q_RT _ _ _ (32, [(0, .ref 64), (1, .int a1)], [.int 0, .int 3, .ref 79], (q_kM (q_sA r985 15 (upd (r985.1 15) 4 (vp_nar .boolean 0))) c n)) _ _
        generalize (q_sA r985 15 (upd (r985.1 15) 4 (vp_nar .boolean 0))) = r1009
        refine q_RT_let ?_
        show q_RT _ _ _ (32, [(0, .ref 64), (1, .int a1)], [.int 0, .int 3, .ref 79], (q_kM r1009 c n)) _ _
        refine q_RT_seg (g2 := (40, [(0, .ref 64), (1, .int a1)], [.int 3, .int a1, .int 2, .ref 79], (q_kM (q_sA r1009 15 (upd (r1009.1 15) 3 (vp_nar .boolean 0))) c n))) 6 (fun _ _ => rfl) ?_
        refine q_RT_call (v := (some (.int (q_b (dz_M206 (q_sA r1009 15 (upd (r1009.1 15) 3 (vp_nar .boolean 0))) a1 3))))) (h2 := (q_kM (q_sA r1009 15 (upd (r1009.1 15) 3 (vp_nar .boolean 0))) c n)) rfl rfl ((dzt_M206 (q_sA r1009 15 (upd (r1009.1 15) 3 (vp_nar .boolean 0))) c n a1 3).le (Nat.le_of_ble_eq_true rfl)) ?_
        generalize dz_M206 (q_sA r1009 15 (upd (r1009.1 15) 3 (vp_nar .boolean 0))) a1 3 = r1010
        refine q_RT_let ?_
        show q_RT _ _ _ (43, [(0, .ref 64), (1, .int a1)], [.int (q_b r1010), .int 2, .ref 79], (q_kM (q_sA r1009 15 (upd (r1009.1 15) 3 (vp_nar .boolean 0))) c n)) _ _
        cases h1294 : r1010 with
        | true =>
          refine q_RT_cT ?_
          show q_RT _ _ _ (43, [(0, .ref 64), (1, .int a1)], [.int 1, .int 2, .ref 79], (q_kM (q_sA r1009 15 (upd (r1009.1 15) 3 (vp_nar .boolean 0))) c n)) _ _
          generalize (q_sA r1009 15 (upd (r1009.1 15) 3 (vp_nar .boolean 0))) = r1011
          refine q_RT_let ?_
          show q_RT _ _ _ (43, [(0, .ref 64), (1, .int a1)], [.int 1, .int 2, .ref 79], (q_kM r1011 c n)) _ _
          refine q_RT_seg (g2 := (52, [(0, .ref 64), (1, .int a1)], [.int 6, .int a1, .int 1, .ref 79], (q_kM (q_sA r1011 15 (upd (r1011.1 15) 2 (vp_nar .boolean 1))) c n))) 6 (fun _ _ => rfl) ?_
          refine q_RT_call (v := (some (.int (q_b (dz_M206 (q_sA r1011 15 (upd (r1011.1 15) 2 (vp_nar .boolean 1))) a1 6))))) (h2 := (q_kM (q_sA r1011 15 (upd (r1011.1 15) 2 (vp_nar .boolean 1))) c n)) rfl rfl ((dzt_M206 (q_sA r1011 15 (upd (r1011.1 15) 2 (vp_nar .boolean 1))) c n a1 6).le (Nat.le_of_ble_eq_true rfl)) ?_
          generalize dz_M206 (q_sA r1011 15 (upd (r1011.1 15) 2 (vp_nar .boolean 1))) a1 6 = r1012
          refine q_RT_let ?_
          show q_RT _ _ _ (55, [(0, .ref 64), (1, .int a1)], [.int (q_b r1012), .int 1, .ref 79], (q_kM (q_sA r1011 15 (upd (r1011.1 15) 2 (vp_nar .boolean 1))) c n)) _ _
          cases h1295 : r1012 with
          | true =>
            refine q_RT_cT ?_
            show q_RT _ _ _ (55, [(0, .ref 64), (1, .int a1)], [.int 1, .int 1, .ref 79], (q_kM (q_sA r1011 15 (upd (r1011.1 15) 2 (vp_nar .boolean 1))) c n)) _ _
            generalize (q_sA r1011 15 (upd (r1011.1 15) 2 (vp_nar .boolean 1))) = r1013
            refine q_RT_let ?_
            show q_RT _ _ _ (55, [(0, .ref 64), (1, .int a1)], [.int 1, .int 1, .ref 79], (q_kM r1013 c n)) _ _
            refine q_RT_seg (g2 := (64, [(0, .ref 64), (1, .int a1)], [.int 7, .int a1, .int 0, .ref 79], (q_kM (q_sA r1013 15 (upd (r1013.1 15) 1 (vp_nar .boolean 1))) c n))) 6 (fun _ _ => rfl) ?_
            refine q_RT_call (v := (some (.int (q_b (dz_M206 (q_sA r1013 15 (upd (r1013.1 15) 1 (vp_nar .boolean 1))) a1 7))))) (h2 := (q_kM (q_sA r1013 15 (upd (r1013.1 15) 1 (vp_nar .boolean 1))) c n)) rfl rfl ((dzt_M206 (q_sA r1013 15 (upd (r1013.1 15) 1 (vp_nar .boolean 1))) c n a1 7).le (Nat.le_of_ble_eq_true rfl)) ?_
            generalize dz_M206 (q_sA r1013 15 (upd (r1013.1 15) 1 (vp_nar .boolean 1))) a1 7 = r1014
            refine q_RT_let ?_
            show q_RT _ _ _ (67, [(0, .ref 64), (1, .int a1)], [.int (q_b r1014), .int 0, .ref 79], (q_kM (q_sA r1013 15 (upd (r1013.1 15) 1 (vp_nar .boolean 1))) c n)) _ _
            cases h1296 : r1014 with
            | true =>
              refine q_RT_cT ?_
              show q_RT _ _ _ (67, [(0, .ref 64), (1, .int a1)], [.int 1, .int 0, .ref 79], (q_kM (q_sA r1013 15 (upd (r1013.1 15) 1 (vp_nar .boolean 1))) c n)) _ _
              generalize (q_sA r1013 15 (upd (r1013.1 15) 1 (vp_nar .boolean 1))) = r1015
              refine q_RT_let ?_
              show q_RT _ _ _ (67, [(0, .ref 64), (1, .int a1)], [.int 1, .int 0, .ref 79], (q_kM r1015 c n)) _ _
              refine q_RT_seg (g2 := (68, [(0, .ref 64), (1, .int a1)], [], (q_kM (q_sA r1015 15 (upd (r1015.1 15) 0 (vp_nar .boolean 1))) c n))) 1 (fun _ _ => rfl) ?_
              exact q_RT_ret rfl rfl rfl
            | false =>
              refine q_RT_cF ?_
              show q_RT _ _ _ (67, [(0, .ref 64), (1, .int a1)], [.int 0, .int 0, .ref 79], (q_kM (q_sA r1013 15 (upd (r1013.1 15) 1 (vp_nar .boolean 1))) c n)) _ _
              generalize (q_sA r1013 15 (upd (r1013.1 15) 1 (vp_nar .boolean 1))) = r1016
              refine q_RT_let ?_
              show q_RT _ _ _ (67, [(0, .ref 64), (1, .int a1)], [.int 0, .int 0, .ref 79], (q_kM r1016 c n)) _ _
              refine q_RT_seg (g2 := (68, [(0, .ref 64), (1, .int a1)], [], (q_kM (q_sA r1016 15 (upd (r1016.1 15) 0 (vp_nar .boolean 0))) c n))) 1 (fun _ _ => rfl) ?_
              exact q_RT_ret rfl rfl rfl
          | false =>
            refine q_RT_cF ?_
            show q_RT _ _ _ (55, [(0, .ref 64), (1, .int a1)], [.int 0, .int 1, .ref 79], (q_kM (q_sA r1011 15 (upd (r1011.1 15) 2 (vp_nar .boolean 1))) c n)) _ _
            generalize (q_sA r1011 15 (upd (r1011.1 15) 2 (vp_nar .boolean 1))) = r1017
            refine q_RT_let ?_
            show q_RT _ _ _ (55, [(0, .ref 64), (1, .int a1)], [.int 0, .int 1, .ref 79], (q_kM r1017 c n)) _ _
            refine q_RT_seg (g2 := (64, [(0, .ref 64), (1, .int a1)], [.int 7, .int a1, .int 0, .ref 79], (q_kM (q_sA r1017 15 (upd (r1017.1 15) 1 (vp_nar .boolean 0))) c n))) 6 (fun _ _ => rfl) ?_
            refine q_RT_call (v := (some (.int (q_b (dz_M206 (q_sA r1017 15 (upd (r1017.1 15) 1 (vp_nar .boolean 0))) a1 7))))) (h2 := (q_kM (q_sA r1017 15 (upd (r1017.1 15) 1 (vp_nar .boolean 0))) c n)) rfl rfl ((dzt_M206 (q_sA r1017 15 (upd (r1017.1 15) 1 (vp_nar .boolean 0))) c n a1 7).le (Nat.le_of_ble_eq_true rfl)) ?_
            generalize dz_M206 (q_sA r1017 15 (upd (r1017.1 15) 1 (vp_nar .boolean 0))) a1 7 = r1018
            refine q_RT_let ?_
            show q_RT _ _ _ (67, [(0, .ref 64), (1, .int a1)], [.int (q_b r1018), .int 0, .ref 79], (q_kM (q_sA r1017 15 (upd (r1017.1 15) 1 (vp_nar .boolean 0))) c n)) _ _
            cases h1297 : r1018 with
            | true =>
              refine q_RT_cT ?_
              show q_RT _ _ _ (67, [(0, .ref 64), (1, .int a1)], [.int 1, .int 0, .ref 79], (q_kM (q_sA r1017 15 (upd (r1017.1 15) 1 (vp_nar .boolean 0))) c n)) _ _
              generalize (q_sA r1017 15 (upd (r1017.1 15) 1 (vp_nar .boolean 0))) = r1019
              refine q_RT_let ?_
              show q_RT _ _ _ (67, [(0, .ref 64), (1, .int a1)], [.int 1, .int 0, .ref 79], (q_kM r1019 c n)) _ _
              refine q_RT_seg (g2 := (68, [(0, .ref 64), (1, .int a1)], [], (q_kM (q_sA r1019 15 (upd (r1019.1 15) 0 (vp_nar .boolean 1))) c n))) 1 (fun _ _ => rfl) ?_
              exact q_RT_ret rfl rfl rfl
            | false =>
              refine q_RT_cF ?_
              show q_RT _ _ _ (67, [(0, .ref 64), (1, .int a1)], [.int 0, .int 0, .ref 79], (q_kM (q_sA r1017 15 (upd (r1017.1 15) 1 (vp_nar .boolean 0))) c n)) _ _
              generalize (q_sA r1017 15 (upd (r1017.1 15) 1 (vp_nar .boolean 0))) = r1020
              refine q_RT_let ?_
              show q_RT _ _ _ (67, [(0, .ref 64), (1, .int a1)], [.int 0, .int 0, .ref 79], (q_kM r1020 c n)) _ _
              refine q_RT_seg (g2 := (68, [(0, .ref 64), (1, .int a1)], [], (q_kM (q_sA r1020 15 (upd (r1020.1 15) 0 (vp_nar .boolean 0))) c n))) 1 (fun _ _ => rfl) ?_
              exact q_RT_ret rfl rfl rfl
        | false =>
          refine q_RT_cF ?_
          show q_RT _ _ _ (43, [(0, .ref 64), (1, .int a1)], [.int 0, .int 2, .ref 79], (q_kM (q_sA r1009 15 (upd (r1009.1 15) 3 (vp_nar .boolean 0))) c n)) _ _
          generalize (q_sA r1009 15 (upd (r1009.1 15) 3 (vp_nar .boolean 0))) = r1021
          refine q_RT_let ?_
          show q_RT _ _ _ (43, [(0, .ref 64), (1, .int a1)], [.int 0, .int 2, .ref 79], (q_kM r1021 c n)) _ _
          refine q_RT_seg (g2 := (52, [(0, .ref 64), (1, .int a1)], [.int 6, .int a1, .int 1, .ref 79], (q_kM (q_sA r1021 15 (upd (r1021.1 15) 2 (vp_nar .boolean 0))) c n))) 6 (fun _ _ => rfl) ?_
          refine q_RT_call (v := (some (.int (q_b (dz_M206 (q_sA r1021 15 (upd (r1021.1 15) 2 (vp_nar .boolean 0))) a1 6))))) (h2 := (q_kM (q_sA r1021 15 (upd (r1021.1 15) 2 (vp_nar .boolean 0))) c n)) rfl rfl ((dzt_M206 (q_sA r1021 15 (upd (r1021.1 15) 2 (vp_nar .boolean 0))) c n a1 6).le (Nat.le_of_ble_eq_true rfl)) ?_
          generalize dz_M206 (q_sA r1021 15 (upd (r1021.1 15) 2 (vp_nar .boolean 0))) a1 6 = r1022
          refine q_RT_let ?_
          show q_RT _ _ _ (55, [(0, .ref 64), (1, .int a1)], [.int (q_b r1022), .int 1, .ref 79], (q_kM (q_sA r1021 15 (upd (r1021.1 15) 2 (vp_nar .boolean 0))) c n)) _ _
          cases h1298 : r1022 with
          | true =>
            refine q_RT_cT ?_
            show q_RT _ _ _ (55, [(0, .ref 64), (1, .int a1)], [.int 1, .int 1, .ref 79], (q_kM (q_sA r1021 15 (upd (r1021.1 15) 2 (vp_nar .boolean 0))) c n)) _ _
            generalize (q_sA r1021 15 (upd (r1021.1 15) 2 (vp_nar .boolean 0))) = r1023
            refine q_RT_let ?_
            show q_RT _ _ _ (55, [(0, .ref 64), (1, .int a1)], [.int 1, .int 1, .ref 79], (q_kM r1023 c n)) _ _
            refine q_RT_seg (g2 := (64, [(0, .ref 64), (1, .int a1)], [.int 7, .int a1, .int 0, .ref 79], (q_kM (q_sA r1023 15 (upd (r1023.1 15) 1 (vp_nar .boolean 1))) c n))) 6 (fun _ _ => rfl) ?_
            refine q_RT_call (v := (some (.int (q_b (dz_M206 (q_sA r1023 15 (upd (r1023.1 15) 1 (vp_nar .boolean 1))) a1 7))))) (h2 := (q_kM (q_sA r1023 15 (upd (r1023.1 15) 1 (vp_nar .boolean 1))) c n)) rfl rfl ((dzt_M206 (q_sA r1023 15 (upd (r1023.1 15) 1 (vp_nar .boolean 1))) c n a1 7).le (Nat.le_of_ble_eq_true rfl)) ?_
            generalize dz_M206 (q_sA r1023 15 (upd (r1023.1 15) 1 (vp_nar .boolean 1))) a1 7 = r1024
            refine q_RT_let ?_
            show q_RT _ _ _ (67, [(0, .ref 64), (1, .int a1)], [.int (q_b r1024), .int 0, .ref 79], (q_kM (q_sA r1023 15 (upd (r1023.1 15) 1 (vp_nar .boolean 1))) c n)) _ _
            cases h1299 : r1024 with
            | true =>
              refine q_RT_cT ?_
              show q_RT _ _ _ (67, [(0, .ref 64), (1, .int a1)], [.int 1, .int 0, .ref 79], (q_kM (q_sA r1023 15 (upd (r1023.1 15) 1 (vp_nar .boolean 1))) c n)) _ _
              generalize (q_sA r1023 15 (upd (r1023.1 15) 1 (vp_nar .boolean 1))) = r1025
              refine q_RT_let ?_
              show q_RT _ _ _ (67, [(0, .ref 64), (1, .int a1)], [.int 1, .int 0, .ref 79], (q_kM r1025 c n)) _ _
              refine q_RT_seg (g2 := (68, [(0, .ref 64), (1, .int a1)], [], (q_kM (q_sA r1025 15 (upd (r1025.1 15) 0 (vp_nar .boolean 1))) c n))) 1 (fun _ _ => rfl) ?_
              exact q_RT_ret rfl rfl rfl
            | false =>
              refine q_RT_cF ?_
              show q_RT _ _ _ (67, [(0, .ref 64), (1, .int a1)], [.int 0, .int 0, .ref 79], (q_kM (q_sA r1023 15 (upd (r1023.1 15) 1 (vp_nar .boolean 1))) c n)) _ _
              generalize (q_sA r1023 15 (upd (r1023.1 15) 1 (vp_nar .boolean 1))) = r1026
              refine q_RT_let ?_
              show q_RT _ _ _ (67, [(0, .ref 64), (1, .int a1)], [.int 0, .int 0, .ref 79], (q_kM r1026 c n)) _ _
              refine q_RT_seg (g2 := (68, [(0, .ref 64), (1, .int a1)], [], (q_kM (q_sA r1026 15 (upd (r1026.1 15) 0 (vp_nar .boolean 0))) c n))) 1 (fun _ _ => rfl) ?_
              exact q_RT_ret rfl rfl rfl
          | false =>
            refine q_RT_cF ?_
            show q_RT _ _ _ (55, [(0, .ref 64), (1, .int a1)], [.int 0, .int 1, .ref 79], (q_kM (q_sA r1021 15 (upd (r1021.1 15) 2 (vp_nar .boolean 0))) c n)) _ _
            generalize (q_sA r1021 15 (upd (r1021.1 15) 2 (vp_nar .boolean 0))) = r1027
            refine q_RT_let ?_
            show q_RT _ _ _ (55, [(0, .ref 64), (1, .int a1)], [.int 0, .int 1, .ref 79], (q_kM r1027 c n)) _ _
            refine q_RT_seg (g2 := (64, [(0, .ref 64), (1, .int a1)], [.int 7, .int a1, .int 0, .ref 79], (q_kM (q_sA r1027 15 (upd (r1027.1 15) 1 (vp_nar .boolean 0))) c n))) 6 (fun _ _ => rfl) ?_
            refine q_RT_call (v := (some (.int (q_b (dz_M206 (q_sA r1027 15 (upd (r1027.1 15) 1 (vp_nar .boolean 0))) a1 7))))) (h2 := (q_kM (q_sA r1027 15 (upd (r1027.1 15) 1 (vp_nar .boolean 0))) c n)) rfl rfl ((dzt_M206 (q_sA r1027 15 (upd (r1027.1 15) 1 (vp_nar .boolean 0))) c n a1 7).le (Nat.le_of_ble_eq_true rfl)) ?_
            generalize dz_M206 (q_sA r1027 15 (upd (r1027.1 15) 1 (vp_nar .boolean 0))) a1 7 = r1028
            refine q_RT_let ?_
            show q_RT _ _ _ (67, [(0, .ref 64), (1, .int a1)], [.int (q_b r1028), .int 0, .ref 79], (q_kM (q_sA r1027 15 (upd (r1027.1 15) 1 (vp_nar .boolean 0))) c n)) _ _
            cases h1300 : r1028 with
            | true =>
              refine q_RT_cT ?_
              show q_RT _ _ _ (67, [(0, .ref 64), (1, .int a1)], [.int 1, .int 0, .ref 79], (q_kM (q_sA r1027 15 (upd (r1027.1 15) 1 (vp_nar .boolean 0))) c n)) _ _
              generalize (q_sA r1027 15 (upd (r1027.1 15) 1 (vp_nar .boolean 0))) = r1029
              refine q_RT_let ?_
              show q_RT _ _ _ (67, [(0, .ref 64), (1, .int a1)], [.int 1, .int 0, .ref 79], (q_kM r1029 c n)) _ _
              refine q_RT_seg (g2 := (68, [(0, .ref 64), (1, .int a1)], [], (q_kM (q_sA r1029 15 (upd (r1029.1 15) 0 (vp_nar .boolean 1))) c n))) 1 (fun _ _ => rfl) ?_
              exact q_RT_ret rfl rfl rfl
            | false =>
              refine q_RT_cF ?_
              show q_RT _ _ _ (67, [(0, .ref 64), (1, .int a1)], [.int 0, .int 0, .ref 79], (q_kM (q_sA r1027 15 (upd (r1027.1 15) 1 (vp_nar .boolean 0))) c n)) _ _
              generalize (q_sA r1027 15 (upd (r1027.1 15) 1 (vp_nar .boolean 0))) = r1030
              refine q_RT_let ?_
              show q_RT _ _ _ (67, [(0, .ref 64), (1, .int a1)], [.int 0, .int 0, .ref 79], (q_kM r1030 c n)) _ _
              refine q_RT_seg (g2 := (68, [(0, .ref 64), (1, .int a1)], [], (q_kM (q_sA r1030 15 (upd (r1030.1 15) 0 (vp_nar .boolean 0))) c n))) 1 (fun _ _ => rfl) ?_
              exact q_RT_ret rfl rfl rfl
  | false =>
    refine q_RT_cF ?_
    show q_RT _ _ _ (10, [(0, .ref 64), (1, .int a1)], [.int 0, .int 5, .ref 79], (q_kM s c n)) _ _
    refine q_RT_seg (g2 := (18, [(0, .ref 64), (1, .int a1)], [.int 1, .int a1, .int 4, .ref 79], (q_kM (q_sA s 15 (upd (s.1 15) 5 (vp_nar .boolean 0))) c n))) 6 (fun _ _ => rfl) ?_
    refine q_RT_call (v := (some (.int (q_b (dz_M206 (q_sA s 15 (upd (s.1 15) 5 (vp_nar .boolean 0))) a1 1))))) (h2 := (q_kM (q_sA s 15 (upd (s.1 15) 5 (vp_nar .boolean 0))) c n)) rfl rfl ((dzt_M206 (q_sA s 15 (upd (s.1 15) 5 (vp_nar .boolean 0))) c n a1 1).le (Nat.le_of_ble_eq_true rfl)) ?_
    generalize dz_M206 (q_sA s 15 (upd (s.1 15) 5 (vp_nar .boolean 0))) a1 1 = r1031
    refine q_RT_let ?_
    show q_RT _ _ _ (21, [(0, .ref 64), (1, .int a1)], [.int (q_b r1031), .int 4, .ref 79], (q_kM (q_sA s 15 (upd (s.1 15) 5 (vp_nar .boolean 0))) c n)) _ _
    cases h1301 : r1031 with
    | true =>
      refine q_RT_cT ?_
      show q_RT _ _ _ (21, [(0, .ref 64), (1, .int a1)], [.int 1, .int 4, .ref 79], (q_kM (q_sA s 15 (upd (s.1 15) 5 (vp_nar .boolean 0))) c n)) _ _
      generalize (q_sA s 15 (upd (s.1 15) 5 (vp_nar .boolean 0))) = r1032
      refine q_RT_let ?_
      show q_RT _ _ _ (21, [(0, .ref 64), (1, .int a1)], [.int 1, .int 4, .ref 79], (q_kM r1032 c n)) _ _
      refine q_RT_seg (g2 := (29, [(0, .ref 64), (1, .int a1)], [.int 2, .int a1, .int 3, .ref 79], (q_kM (q_sA r1032 15 (upd (r1032.1 15) 4 (vp_nar .boolean 1))) c n))) 6 (fun _ _ => rfl) ?_
      refine q_RT_call (v := (some (.int (q_b (dz_M206 (q_sA r1032 15 (upd (r1032.1 15) 4 (vp_nar .boolean 1))) a1 2))))) (h2 := (q_kM (q_sA r1032 15 (upd (r1032.1 15) 4 (vp_nar .boolean 1))) c n)) rfl rfl ((dzt_M206 (q_sA r1032 15 (upd (r1032.1 15) 4 (vp_nar .boolean 1))) c n a1 2).le (Nat.le_of_ble_eq_true rfl)) ?_
      generalize dz_M206 (q_sA r1032 15 (upd (r1032.1 15) 4 (vp_nar .boolean 1))) a1 2 = r1033
      refine q_RT_let ?_
      show q_RT _ _ _ (32, [(0, .ref 64), (1, .int a1)], [.int (q_b r1033), .int 3, .ref 79], (q_kM (q_sA r1032 15 (upd (r1032.1 15) 4 (vp_nar .boolean 1))) c n)) _ _
      cases h1302 : r1033 with
      | true =>
        refine q_RT_cT ?_
        show q_RT _ _ _ (32, [(0, .ref 64), (1, .int a1)], [.int 1, .int 3, .ref 79], (q_kM (q_sA r1032 15 (upd (r1032.1 15) 4 (vp_nar .boolean 1))) c n)) _ _
        generalize (q_sA r1032 15 (upd (r1032.1 15) 4 (vp_nar .boolean 1))) = r1034
        refine q_RT_let ?_
        show q_RT _ _ _ (32, [(0, .ref 64), (1, .int a1)], [.int 1, .int 3, .ref 79], (q_kM r1034 c n)) _ _
        refine q_RT_seg (g2 := (40, [(0, .ref 64), (1, .int a1)], [.int 3, .int a1, .int 2, .ref 79], (q_kM (q_sA r1034 15 (upd (r1034.1 15) 3 (vp_nar .boolean 1))) c n))) 6 (fun _ _ => rfl) ?_
        refine q_RT_call (v := (some (.int (q_b (dz_M206 (q_sA r1034 15 (upd (r1034.1 15) 3 (vp_nar .boolean 1))) a1 3))))) (h2 := (q_kM (q_sA r1034 15 (upd (r1034.1 15) 3 (vp_nar .boolean 1))) c n)) rfl rfl ((dzt_M206 (q_sA r1034 15 (upd (r1034.1 15) 3 (vp_nar .boolean 1))) c n a1 3).le (Nat.le_of_ble_eq_true rfl)) ?_
        generalize dz_M206 (q_sA r1034 15 (upd (r1034.1 15) 3 (vp_nar .boolean 1))) a1 3 = r1035
        refine q_RT_let ?_
        show q_RT _ _ _ (43, [(0, .ref 64), (1, .int a1)], [.int (q_b r1035), .int 2, .ref 79], (q_kM (q_sA r1034 15 (upd (r1034.1 15) 3 (vp_nar .boolean 1))) c n)) _ _
        cases h1303 : r1035 with
        | true =>
          refine q_RT_cT ?_
          show q_RT _ _ _ (43, [(0, .ref 64), (1, .int a1)], [.int 1, .int 2, .ref 79], (q_kM (q_sA r1034 15 (upd (r1034.1 15) 3 (vp_nar .boolean 1))) c n)) _ _
          generalize (q_sA r1034 15 (upd (r1034.1 15) 3 (vp_nar .boolean 1))) = r1036
          refine q_RT_let ?_
          show q_RT _ _ _ (43, [(0, .ref 64), (1, .int a1)], [.int 1, .int 2, .ref 79], (q_kM r1036 c n)) _ _
          refine q_RT_seg (g2 := (52, [(0, .ref 64), (1, .int a1)], [.int 6, .int a1, .int 1, .ref 79], (q_kM (q_sA r1036 15 (upd (r1036.1 15) 2 (vp_nar .boolean 1))) c n))) 6 (fun _ _ => rfl) ?_
          refine q_RT_call (v := (some (.int (q_b (dz_M206 (q_sA r1036 15 (upd (r1036.1 15) 2 (vp_nar .boolean 1))) a1 6))))) (h2 := (q_kM (q_sA r1036 15 (upd (r1036.1 15) 2 (vp_nar .boolean 1))) c n)) rfl rfl ((dzt_M206 (q_sA r1036 15 (upd (r1036.1 15) 2 (vp_nar .boolean 1))) c n a1 6).le (Nat.le_of_ble_eq_true rfl)) ?_
          generalize dz_M206 (q_sA r1036 15 (upd (r1036.1 15) 2 (vp_nar .boolean 1))) a1 6 = r1037
          refine q_RT_let ?_
          show q_RT _ _ _ (55, [(0, .ref 64), (1, .int a1)], [.int (q_b r1037), .int 1, .ref 79], (q_kM (q_sA r1036 15 (upd (r1036.1 15) 2 (vp_nar .boolean 1))) c n)) _ _
          cases h1304 : r1037 with
          | true =>
            refine q_RT_cT ?_
            show q_RT _ _ _ (55, [(0, .ref 64), (1, .int a1)], [.int 1, .int 1, .ref 79], (q_kM (q_sA r1036 15 (upd (r1036.1 15) 2 (vp_nar .boolean 1))) c n)) _ _
            generalize (q_sA r1036 15 (upd (r1036.1 15) 2 (vp_nar .boolean 1))) = r1038
            refine q_RT_let ?_
            show q_RT _ _ _ (55, [(0, .ref 64), (1, .int a1)], [.int 1, .int 1, .ref 79], (q_kM r1038 c n)) _ _
            refine q_RT_seg (g2 := (64, [(0, .ref 64), (1, .int a1)], [.int 7, .int a1, .int 0, .ref 79], (q_kM (q_sA r1038 15 (upd (r1038.1 15) 1 (vp_nar .boolean 1))) c n))) 6 (fun _ _ => rfl) ?_
            refine q_RT_call (v := (some (.int (q_b (dz_M206 (q_sA r1038 15 (upd (r1038.1 15) 1 (vp_nar .boolean 1))) a1 7))))) (h2 := (q_kM (q_sA r1038 15 (upd (r1038.1 15) 1 (vp_nar .boolean 1))) c n)) rfl rfl ((dzt_M206 (q_sA r1038 15 (upd (r1038.1 15) 1 (vp_nar .boolean 1))) c n a1 7).le (Nat.le_of_ble_eq_true rfl)) ?_
            generalize dz_M206 (q_sA r1038 15 (upd (r1038.1 15) 1 (vp_nar .boolean 1))) a1 7 = r1039
            refine q_RT_let ?_
            show q_RT _ _ _ (67, [(0, .ref 64), (1, .int a1)], [.int (q_b r1039), .int 0, .ref 79], (q_kM (q_sA r1038 15 (upd (r1038.1 15) 1 (vp_nar .boolean 1))) c n)) _ _
            cases h1305 : r1039 with
            | true =>
              refine q_RT_cT ?_
              show q_RT _ _ _ (67, [(0, .ref 64), (1, .int a1)], [.int 1, .int 0, .ref 79], (q_kM (q_sA r1038 15 (upd (r1038.1 15) 1 (vp_nar .boolean 1))) c n)) _ _
              generalize (q_sA r1038 15 (upd (r1038.1 15) 1 (vp_nar .boolean 1))) = r1040
              refine q_RT_let ?_
              show q_RT _ _ _ (67, [(0, .ref 64), (1, .int a1)], [.int 1, .int 0, .ref 79], (q_kM r1040 c n)) _ _
              refine q_RT_seg (g2 := (68, [(0, .ref 64), (1, .int a1)], [], (q_kM (q_sA r1040 15 (upd (r1040.1 15) 0 (vp_nar .boolean 1))) c n))) 1 (fun _ _ => rfl) ?_
              exact q_RT_ret rfl rfl rfl
            | false =>
              refine q_RT_cF ?_
              show q_RT _ _ _ (67, [(0, .ref 64), (1, .int a1)], [.int 0, .int 0, .ref 79], (q_kM (q_sA r1038 15 (upd (r1038.1 15) 1 (vp_nar .boolean 1))) c n)) _ _
              generalize (q_sA r1038 15 (upd (r1038.1 15) 1 (vp_nar .boolean 1))) = r1041
              refine q_RT_let ?_
              show q_RT _ _ _ (67, [(0, .ref 64), (1, .int a1)], [.int 0, .int 0, .ref 79], (q_kM r1041 c n)) _ _
              refine q_RT_seg (g2 := (68, [(0, .ref 64), (1, .int a1)], [], (q_kM (q_sA r1041 15 (upd (r1041.1 15) 0 (vp_nar .boolean 0))) c n))) 1 (fun _ _ => rfl) ?_
              exact q_RT_ret rfl rfl rfl
          | false =>
            refine q_RT_cF ?_
            show q_RT _ _ _ (55, [(0, .ref 64), (1, .int a1)], [.int 0, .int 1, .ref 79], (q_kM (q_sA r1036 15 (upd (r1036.1 15) 2 (vp_nar .boolean 1))) c n)) _ _
            generalize (q_sA r1036 15 (upd (r1036.1 15) 2 (vp_nar .boolean 1))) = r1042
            refine q_RT_let ?_
            show q_RT _ _ _ (55, [(0, .ref 64), (1, .int a1)], [.int 0, .int 1, .ref 79], (q_kM r1042 c n)) _ _
            refine q_RT_seg (g2 := (64, [(0, .ref 64), (1, .int a1)], [.int 7, .int a1, .int 0, .ref 79], (q_kM (q_sA r1042 15 (upd (r1042.1 15) 1 (vp_nar .boolean 0))) c n))) 6 (fun _ _ => rfl) ?_
            refine q_RT_call (v := (some (.int (q_b (dz_M206 (q_sA r1042 15 (upd (r1042.1 15) 1 (vp_nar .boolean 0))) a1 7))))) (h2 := (q_kM (q_sA r1042 15 (upd (r1042.1 15) 1 (vp_nar .boolean 0))) c n)) rfl rfl ((dzt_M206 (q_sA r1042 15 (upd (r1042.1 15) 1 (vp_nar .boolean 0))) c n a1 7).le (Nat.le_of_ble_eq_true rfl)) ?_
            generalize dz_M206 (q_sA r1042 15 (upd (r1042.1 15) 1 (vp_nar .boolean 0))) a1 7 = r1043
            refine q_RT_let ?_
            show q_RT _ _ _ (67, [(0, .ref 64), (1, .int a1)], [.int (q_b r1043), .int 0, .ref 79], (q_kM (q_sA r1042 15 (upd (r1042.1 15) 1 (vp_nar .boolean 0))) c n)) _ _
            cases h1306 : r1043 with
            | true =>
              refine q_RT_cT ?_
              show q_RT _ _ _ (67, [(0, .ref 64), (1, .int a1)], [.int 1, .int 0, .ref 79], (q_kM (q_sA r1042 15 (upd (r1042.1 15) 1 (vp_nar .boolean 0))) c n)) _ _
              generalize (q_sA r1042 15 (upd (r1042.1 15) 1 (vp_nar .boolean 0))) = r1044
              refine q_RT_let ?_
              show q_RT _ _ _ (67, [(0, .ref 64), (1, .int a1)], [.int 1, .int 0, .ref 79], (q_kM r1044 c n)) _ _
              refine q_RT_seg (g2 := (68, [(0, .ref 64), (1, .int a1)], [], (q_kM (q_sA r1044 15 (upd (r1044.1 15) 0 (vp_nar .boolean 1))) c n))) 1 (fun _ _ => rfl) ?_
              exact q_RT_ret rfl rfl rfl
            | false =>
              refine q_RT_cF ?_
              show q_RT _ _ _ (67, [(0, .ref 64), (1, .int a1)], [.int 0, .int 0, .ref 79], (q_kM (q_sA r1042 15 (upd (r1042.1 15) 1 (vp_nar .boolean 0))) c n)) _ _
              generalize (q_sA r1042 15 (upd (r1042.1 15) 1 (vp_nar .boolean 0))) = r1045
              refine q_RT_let ?_
              show q_RT _ _ _ (67, [(0, .ref 64), (1, .int a1)], [.int 0, .int 0, .ref 79], (q_kM r1045 c n)) _ _
              refine q_RT_seg (g2 := (68, [(0, .ref 64), (1, .int a1)], [], (q_kM (q_sA r1045 15 (upd (r1045.1 15) 0 (vp_nar .boolean 0))) c n))) 1 (fun _ _ => rfl) ?_
              exact q_RT_ret rfl rfl rfl
        | false =>
          refine q_RT_cF ?_
          show q_RT _ _ _ (43, [(0, .ref 64), (1, .int a1)], [.int 0, .int 2, .ref 79], (q_kM (q_sA r1034 15 (upd (r1034.1 15) 3 (vp_nar .boolean 1))) c n)) _ _
          generalize (q_sA r1034 15 (upd (r1034.1 15) 3 (vp_nar .boolean 1))) = r1046
          refine q_RT_let ?_
          show q_RT _ _ _ (43, [(0, .ref 64), (1, .int a1)], [.int 0, .int 2, .ref 79], (q_kM r1046 c n)) _ _
          refine q_RT_seg (g2 := (52, [(0, .ref 64), (1, .int a1)], [.int 6, .int a1, .int 1, .ref 79], (q_kM (q_sA r1046 15 (upd (r1046.1 15) 2 (vp_nar .boolean 0))) c n))) 6 (fun _ _ => rfl) ?_
          refine q_RT_call (v := (some (.int (q_b (dz_M206 (q_sA r1046 15 (upd (r1046.1 15) 2 (vp_nar .boolean 0))) a1 6))))) (h2 := (q_kM (q_sA r1046 15 (upd (r1046.1 15) 2 (vp_nar .boolean 0))) c n)) rfl rfl ((dzt_M206 (q_sA r1046 15 (upd (r1046.1 15) 2 (vp_nar .boolean 0))) c n a1 6).le (Nat.le_of_ble_eq_true rfl)) ?_
          generalize dz_M206 (q_sA r1046 15 (upd (r1046.1 15) 2 (vp_nar .boolean 0))) a1 6 = r1047
          refine q_RT_let ?_
          show q_RT _ _ _ (55, [(0, .ref 64), (1, .int a1)], [.int (q_b r1047), .int 1, .ref 79], (q_kM (q_sA r1046 15 (upd (r1046.1 15) 2 (vp_nar .boolean 0))) c n)) _ _
          cases h1307 : r1047 with
          | true =>
            refine q_RT_cT ?_
            show q_RT _ _ _ (55, [(0, .ref 64), (1, .int a1)], [.int 1, .int 1, .ref 79], (q_kM (q_sA r1046 15 (upd (r1046.1 15) 2 (vp_nar .boolean 0))) c n)) _ _
            generalize (q_sA r1046 15 (upd (r1046.1 15) 2 (vp_nar .boolean 0))) = r1048
            refine q_RT_let ?_
            show q_RT _ _ _ (55, [(0, .ref 64), (1, .int a1)], [.int 1, .int 1, .ref 79], (q_kM r1048 c n)) _ _
            refine q_RT_seg (g2 := (64, [(0, .ref 64), (1, .int a1)], [.int 7, .int a1, .int 0, .ref 79], (q_kM (q_sA r1048 15 (upd (r1048.1 15) 1 (vp_nar .boolean 1))) c n))) 6 (fun _ _ => rfl) ?_
            refine q_RT_call (v := (some (.int (q_b (dz_M206 (q_sA r1048 15 (upd (r1048.1 15) 1 (vp_nar .boolean 1))) a1 7))))) (h2 := (q_kM (q_sA r1048 15 (upd (r1048.1 15) 1 (vp_nar .boolean 1))) c n)) rfl rfl ((dzt_M206 (q_sA r1048 15 (upd (r1048.1 15) 1 (vp_nar .boolean 1))) c n a1 7).le (Nat.le_of_ble_eq_true rfl)) ?_
            generalize dz_M206 (q_sA r1048 15 (upd (r1048.1 15) 1 (vp_nar .boolean 1))) a1 7 = r1049
            refine q_RT_let ?_
            show q_RT _ _ _ (67, [(0, .ref 64), (1, .int a1)], [.int (q_b r1049), .int 0, .ref 79], (q_kM (q_sA r1048 15 (upd (r1048.1 15) 1 (vp_nar .boolean 1))) c n)) _ _
            cases h1308 : r1049 with
            | true =>
              refine q_RT_cT ?_
              show q_RT _ _ _ (67, [(0, .ref 64), (1, .int a1)], [.int 1, .int 0, .ref 79], (q_kM (q_sA r1048 15 (upd (r1048.1 15) 1 (vp_nar .boolean 1))) c n)) _ _
              generalize (q_sA r1048 15 (upd (r1048.1 15) 1 (vp_nar .boolean 1))) = r1050
              refine q_RT_let ?_
              show q_RT _ _ _ (67, [(0, .ref 64), (1, .int a1)], [.int 1, .int 0, .ref 79], (q_kM r1050 c n)) _ _
              refine q_RT_seg (g2 := (68, [(0, .ref 64), (1, .int a1)], [], (q_kM (q_sA r1050 15 (upd (r1050.1 15) 0 (vp_nar .boolean 1))) c n))) 1 (fun _ _ => rfl) ?_
              exact q_RT_ret rfl rfl rfl
            | false =>
              refine q_RT_cF ?_
              show q_RT _ _ _ (67, [(0, .ref 64), (1, .int a1)], [.int 0, .int 0, .ref 79], (q_kM (q_sA r1048 15 (upd (r1048.1 15) 1 (vp_nar .boolean 1))) c n)) _ _
              generalize (q_sA r1048 15 (upd (r1048.1 15) 1 (vp_nar .boolean 1))) = r1051
              refine q_RT_let ?_
              show q_RT _ _ _ (67, [(0, .ref 64), (1, .int a1)], [.int 0, .int 0, .ref 79], (q_kM r1051 c n)) _ _
              refine q_RT_seg (g2 := (68, [(0, .ref 64), (1, .int a1)], [], (q_kM (q_sA r1051 15 (upd (r1051.1 15) 0 (vp_nar .boolean 0))) c n))) 1 (fun _ _ => rfl) ?_
              exact q_RT_ret rfl rfl rfl
          | false =>
            refine q_RT_cF ?_
            show q_RT _ _ _ (55, [(0, .ref 64), (1, .int a1)], [.int 0, .int 1, .ref 79], (q_kM (q_sA r1046 15 (upd (r1046.1 15) 2 (vp_nar .boolean 0))) c n)) _ _
            generalize (q_sA r1046 15 (upd (r1046.1 15) 2 (vp_nar .boolean 0))) = r1052
            refine q_RT_let ?_
            show q_RT _ _ _ (55, [(0, .ref 64), (1, .int a1)], [.int 0, .int 1, .ref 79], (q_kM r1052 c n)) _ _
            refine q_RT_seg (g2 := (64, [(0, .ref 64), (1, .int a1)], [.int 7, .int a1, .int 0, .ref 79], (q_kM (q_sA r1052 15 (upd (r1052.1 15) 1 (vp_nar .boolean 0))) c n))) 6 (fun _ _ => rfl) ?_
            refine q_RT_call (v := (some (.int (q_b (dz_M206 (q_sA r1052 15 (upd (r1052.1 15) 1 (vp_nar .boolean 0))) a1 7))))) (h2 := (q_kM (q_sA r1052 15 (upd (r1052.1 15) 1 (vp_nar .boolean 0))) c n)) rfl rfl ((dzt_M206 (q_sA r1052 15 (upd (r1052.1 15) 1 (vp_nar .boolean 0))) c n a1 7).le (Nat.le_of_ble_eq_true rfl)) ?_
            generalize dz_M206 (q_sA r1052 15 (upd (r1052.1 15) 1 (vp_nar .boolean 0))) a1 7 = r1053
            refine q_RT_let ?_
            show q_RT _ _ _ (67, [(0, .ref 64), (1, .int a1)], [.int (q_b r1053), .int 0, .ref 79], (q_kM (q_sA r1052 15 (upd (r1052.1 15) 1 (vp_nar .boolean 0))) c n)) _ _
            cases h1309 : r1053 with
            | true =>
              refine q_RT_cT ?_
              show q_RT _ _ _ (67, [(0, .ref 64), (1, .int a1)], [.int 1, .int 0, .ref 79], (q_kM (q_sA r1052 15 (upd (r1052.1 15) 1 (vp_nar .boolean 0))) c n)) _ _
              generalize (q_sA r1052 15 (upd (r1052.1 15) 1 (vp_nar .boolean 0))) = r1054
              refine q_RT_let ?_
              show q_RT _ _ _ (67, [(0, .ref 64), (1, .int a1)], [.int 1, .int 0, .ref 79], (q_kM r1054 c n)) _ _
              refine q_RT_seg (g2 := (68, [(0, .ref 64), (1, .int a1)], [], (q_kM (q_sA r1054 15 (upd (r1054.1 15) 0 (vp_nar .boolean 1))) c n))) 1 (fun _ _ => rfl) ?_
              exact q_RT_ret rfl rfl rfl
            | false =>
              refine q_RT_cF ?_
              show q_RT _ _ _ (67, [(0, .ref 64), (1, .int a1)], [.int 0, .int 0, .ref 79], (q_kM (q_sA r1052 15 (upd (r1052.1 15) 1 (vp_nar .boolean 0))) c n)) _ _
              generalize (q_sA r1052 15 (upd (r1052.1 15) 1 (vp_nar .boolean 0))) = r1055
              refine q_RT_let ?_
              show q_RT _ _ _ (67, [(0, .ref 64), (1, .int a1)], [.int 0, .int 0, .ref 79], (q_kM r1055 c n)) _ _
              refine q_RT_seg (g2 := (68, [(0, .ref 64), (1, .int a1)], [], (q_kM (q_sA r1055 15 (upd (r1055.1 15) 0 (vp_nar .boolean 0))) c n))) 1 (fun _ _ => rfl) ?_
              exact q_RT_ret rfl rfl rfl
      | false =>
        refine q_RT_cF ?_
        show q_RT _ _ _ (32, [(0, .ref 64), (1, .int a1)], [.int 0, .int 3, .ref 79], (q_kM (q_sA r1032 15 (upd (r1032.1 15) 4 (vp_nar .boolean 1))) c n)) _ _
        generalize (q_sA r1032 15 (upd (r1032.1 15) 4 (vp_nar .boolean 1))) = r1056
        refine q_RT_let ?_
        show q_RT _ _ _ (32, [(0, .ref 64), (1, .int a1)], [.int 0, .int 3, .ref 79], (q_kM r1056 c n)) _ _
        refine q_RT_seg (g2 := (40, [(0, .ref 64), (1, .int a1)], [.int 3, .int a1, .int 2, .ref 79], (q_kM (q_sA r1056 15 (upd (r1056.1 15) 3 (vp_nar .boolean 0))) c n))) 6 (fun _ _ => rfl) ?_
        refine q_RT_call (v := (some (.int (q_b (dz_M206 (q_sA r1056 15 (upd (r1056.1 15) 3 (vp_nar .boolean 0))) a1 3))))) (h2 := (q_kM (q_sA r1056 15 (upd (r1056.1 15) 3 (vp_nar .boolean 0))) c n)) rfl rfl ((dzt_M206 (q_sA r1056 15 (upd (r1056.1 15) 3 (vp_nar .boolean 0))) c n a1 3).le (Nat.le_of_ble_eq_true rfl)) ?_
        generalize dz_M206 (q_sA r1056 15 (upd (r1056.1 15) 3 (vp_nar .boolean 0))) a1 3 = r1057
        refine q_RT_let ?_
        show q_RT _ _ _ (43, [(0, .ref 64), (1, .int a1)], [.int (q_b r1057), .int 2, .ref 79], (q_kM (q_sA r1056 15 (upd (r1056.1 15) 3 (vp_nar .boolean 0))) c n)) _ _
        cases h1310 : r1057 with
        | true =>
          refine q_RT_cT ?_
          show q_RT _ _ _ (43, [(0, .ref 64), (1, .int a1)], [.int 1, .int 2, .ref 79], (q_kM (q_sA r1056 15 (upd (r1056.1 15) 3 (vp_nar .boolean 0))) c n)) _ _
          generalize (q_sA r1056 15 (upd (r1056.1 15) 3 (vp_nar .boolean 0))) = r1058
          refine q_RT_let ?_
          show q_RT _ _ _ (43, [(0, .ref 64), (1, .int a1)], [.int 1, .int 2, .ref 79], (q_kM r1058 c n)) _ _
          refine q_RT_seg (g2 := (52, [(0, .ref 64), (1, .int a1)], [.int 6, .int a1, .int 1, .ref 79], (q_kM (q_sA r1058 15 (upd (r1058.1 15) 2 (vp_nar .boolean 1))) c n))) 6 (fun _ _ => rfl) ?_
          refine q_RT_call (v := (some (.int (q_b (dz_M206 (q_sA r1058 15 (upd (r1058.1 15) 2 (vp_nar .boolean 1))) a1 6))))) (h2 := (q_kM (q_sA r1058 15 (upd (r1058.1 15) 2 (vp_nar .boolean 1))) c n)) rfl rfl ((dzt_M206 (q_sA r1058 15 (upd (r1058.1 15) 2 (vp_nar .boolean 1))) c n a1 6).le (Nat.le_of_ble_eq_true rfl)) ?_
          generalize dz_M206 (q_sA r1058 15 (upd (r1058.1 15) 2 (vp_nar .boolean 1))) a1 6 = r1059
          refine q_RT_let ?_
          show q_RT _ _ _ (55, [(0, .ref 64), (1, .int a1)], [.int (q_b r1059), .int 1, .ref 79], (q_kM (q_sA r1058 15 (upd (r1058.1 15) 2 (vp_nar .boolean 1))) c n)) _ _
          cases h1311 : r1059 with
          | true =>
            refine q_RT_cT ?_
            show q_RT _ _ _ (55, [(0, .ref 64), (1, .int a1)], [.int 1, .int 1, .ref 79], (q_kM (q_sA r1058 15 (upd (r1058.1 15) 2 (vp_nar .boolean 1))) c n)) _ _
            generalize (q_sA r1058 15 (upd (r1058.1 15) 2 (vp_nar .boolean 1))) = r1060
            refine q_RT_let ?_
            show q_RT _ _ _ (55, [(0, .ref 64), (1, .int a1)], [.int 1, .int 1, .ref 79], (q_kM r1060 c n)) _ _
            refine q_RT_seg (g2 := (64, [(0, .ref 64), (1, .int a1)], [.int 7, .int a1, .int 0, .ref 79], (q_kM (q_sA r1060 15 (upd (r1060.1 15) 1 (vp_nar .boolean 1))) c n))) 6 (fun _ _ => rfl) ?_
            refine q_RT_call (v := (some (.int (q_b (dz_M206 (q_sA r1060 15 (upd (r1060.1 15) 1 (vp_nar .boolean 1))) a1 7))))) (h2 := (q_kM (q_sA r1060 15 (upd (r1060.1 15) 1 (vp_nar .boolean 1))) c n)) rfl rfl ((dzt_M206 (q_sA r1060 15 (upd (r1060.1 15) 1 (vp_nar .boolean 1))) c n a1 7).le (Nat.le_of_ble_eq_true rfl)) ?_
            generalize dz_M206 (q_sA r1060 15 (upd (r1060.1 15) 1 (vp_nar .boolean 1))) a1 7 = r1061
            refine q_RT_let ?_
            show q_RT _ _ _ (67, [(0, .ref 64), (1, .int a1)], [.int (q_b r1061), .int 0, .ref 79], (q_kM (q_sA r1060 15 (upd (r1060.1 15) 1 (vp_nar .boolean 1))) c n)) _ _
            cases h1312 : r1061 with
            | true =>
              refine q_RT_cT ?_
              show q_RT _ _ _ (67, [(0, .ref 64), (1, .int a1)], [.int 1, .int 0, .ref 79], (q_kM (q_sA r1060 15 (upd (r1060.1 15) 1 (vp_nar .boolean 1))) c n)) _ _
              generalize (q_sA r1060 15 (upd (r1060.1 15) 1 (vp_nar .boolean 1))) = r1062
              refine q_RT_let ?_
              show q_RT _ _ _ (67, [(0, .ref 64), (1, .int a1)], [.int 1, .int 0, .ref 79], (q_kM r1062 c n)) _ _
              refine q_RT_seg (g2 := (68, [(0, .ref 64), (1, .int a1)], [], (q_kM (q_sA r1062 15 (upd (r1062.1 15) 0 (vp_nar .boolean 1))) c n))) 1 (fun _ _ => rfl) ?_
              exact q_RT_ret rfl rfl rfl
            | false =>
              refine q_RT_cF ?_
              show q_RT _ _ _ (67, [(0, .ref 64), (1, .int a1)], [.int 0, .int 0, .ref 79], (q_kM (q_sA r1060 15 (upd (r1060.1 15) 1 (vp_nar .boolean 1))) c n)) _ _
              generalize (q_sA r1060 15 (upd (r1060.1 15) 1 (vp_nar .boolean 1))) = r1063
              refine q_RT_let ?_
              show q_RT _ _ _ (67, [(0, .ref 64), (1, .int a1)], [.int 0, .int 0, .ref 79], (q_kM r1063 c n)) _ _
              refine q_RT_seg (g2 := (68, [(0, .ref 64), (1, .int a1)], [], (q_kM (q_sA r1063 15 (upd (r1063.1 15) 0 (vp_nar .boolean 0))) c n))) 1 (fun _ _ => rfl) ?_
              exact q_RT_ret rfl rfl rfl
          | false =>
            refine q_RT_cF ?_
            show q_RT _ _ _ (55, [(0, .ref 64), (1, .int a1)], [.int 0, .int 1, .ref 79], (q_kM (q_sA r1058 15 (upd (r1058.1 15) 2 (vp_nar .boolean 1))) c n)) _ _
            generalize (q_sA r1058 15 (upd (r1058.1 15) 2 (vp_nar .boolean 1))) = r1064
            refine q_RT_let ?_
            show q_RT _ _ _ (55, [(0, .ref 64), (1, .int a1)], [.int 0, .int 1, .ref 79], (q_kM r1064 c n)) _ _
            refine q_RT_seg (g2 := (64, [(0, .ref 64), (1, .int a1)], [.int 7, .int a1, .int 0, .ref 79], (q_kM (q_sA r1064 15 (upd (r1064.1 15) 1 (vp_nar .boolean 0))) c n))) 6 (fun _ _ => rfl) ?_
            refine q_RT_call (v := (some (.int (q_b (dz_M206 (q_sA r1064 15 (upd (r1064.1 15) 1 (vp_nar .boolean 0))) a1 7))))) (h2 := (q_kM (q_sA r1064 15 (upd (r1064.1 15) 1 (vp_nar .boolean 0))) c n)) rfl rfl ((dzt_M206 (q_sA r1064 15 (upd (r1064.1 15) 1 (vp_nar .boolean 0))) c n a1 7).le (Nat.le_of_ble_eq_true rfl)) ?_
            generalize dz_M206 (q_sA r1064 15 (upd (r1064.1 15) 1 (vp_nar .boolean 0))) a1 7 = r1065
            refine q_RT_let ?_
            show q_RT _ _ _ (67, [(0, .ref 64), (1, .int a1)], [.int (q_b r1065), .int 0, .ref 79], (q_kM (q_sA r1064 15 (upd (r1064.1 15) 1 (vp_nar .boolean 0))) c n)) _ _
            cases h1313 : r1065 with
            | true =>
              refine q_RT_cT ?_
              show q_RT _ _ _ (67, [(0, .ref 64), (1, .int a1)], [.int 1, .int 0, .ref 79], (q_kM (q_sA r1064 15 (upd (r1064.1 15) 1 (vp_nar .boolean 0))) c n)) _ _
              generalize (q_sA r1064 15 (upd (r1064.1 15) 1 (vp_nar .boolean 0))) = r1066
              refine q_RT_let ?_
              show q_RT _ _ _ (67, [(0, .ref 64), (1, .int a1)], [.int 1, .int 0, .ref 79], (q_kM r1066 c n)) _ _
              refine q_RT_seg (g2 := (68, [(0, .ref 64), (1, .int a1)], [], (q_kM (q_sA r1066 15 (upd (r1066.1 15) 0 (vp_nar .boolean 1))) c n))) 1 (fun _ _ => rfl) ?_
              exact q_RT_ret rfl rfl rfl
            | false =>
              refine q_RT_cF ?_
              show q_RT _ _ _ (67, [(0, .ref 64), (1, .int a1)], [.int 0, .int 0, .ref 79], (q_kM (q_sA r1064 15 (upd (r1064.1 15) 1 (vp_nar .boolean 0))) c n)) _ _
              generalize (q_sA r1064 15 (upd (r1064.1 15) 1 (vp_nar .boolean 0))) = r1067
              refine q_RT_let ?_
              show q_RT _ _ _ (67, [(0, .ref 64), (1, .int a1)], [.int 0, .int 0, .ref 79], (q_kM r1067 c n)) _ _
              refine q_RT_seg (g2 := (68, [(0, .ref 64), (1, .int a1)], [], (q_kM (q_sA r1067 15 (upd (r1067.1 15) 0 (vp_nar .boolean 0))) c n))) 1 (fun _ _ => rfl) ?_
              exact q_RT_ret rfl rfl rfl
        | false =>
          refine q_RT_cF ?_
          show q_RT _ _ _ (43, [(0, .ref 64), (1, .int a1)], [.int 0, .int 2, .ref 79], (q_kM (q_sA r1056 15 (upd (r1056.1 15) 3 (vp_nar .boolean 0))) c n)) _ _
          generalize (q_sA r1056 15 (upd (r1056.1 15) 3 (vp_nar .boolean 0))) = r1068
          refine q_RT_let ?_
          show q_RT _ _ _ (43, [(0, .ref 64), (1, .int a1)], [.int 0, .int 2, .ref 79], (q_kM r1068 c n)) _ _
          refine q_RT_seg (g2 := (52, [(0, .ref 64), (1, .int a1)], [.int 6, .int a1, .int 1, .ref 79], (q_kM (q_sA r1068 15 (upd (r1068.1 15) 2 (vp_nar .boolean 0))) c n))) 6 (fun _ _ => rfl) ?_
          refine q_RT_call (v := (some (.int (q_b (dz_M206 (q_sA r1068 15 (upd (r1068.1 15) 2 (vp_nar .boolean 0))) a1 6))))) (h2 := (q_kM (q_sA r1068 15 (upd (r1068.1 15) 2 (vp_nar .boolean 0))) c n)) rfl rfl ((dzt_M206 (q_sA r1068 15 (upd (r1068.1 15) 2 (vp_nar .boolean 0))) c n a1 6).le (Nat.le_of_ble_eq_true rfl)) ?_
          generalize dz_M206 (q_sA r1068 15 (upd (r1068.1 15) 2 (vp_nar .boolean 0))) a1 6 = r1069
          refine q_RT_let ?_
          show q_RT _ _ _ (55, [(0, .ref 64), (1, .int a1)], [.int (q_b r1069), .int 1, .ref 79], (q_kM (q_sA r1068 15 (upd (r1068.1 15) 2 (vp_nar .boolean 0))) c n)) _ _
          cases h1314 : r1069 with
          | true =>
            refine q_RT_cT ?_
            show q_RT _ _ _ (55, [(0, .ref 64), (1, .int a1)], [.int 1, .int 1, .ref 79], (q_kM (q_sA r1068 15 (upd (r1068.1 15) 2 (vp_nar .boolean 0))) c n)) _ _
            generalize (q_sA r1068 15 (upd (r1068.1 15) 2 (vp_nar .boolean 0))) = r1070
            refine q_RT_let ?_
            show q_RT _ _ _ (55, [(0, .ref 64), (1, .int a1)], [.int 1, .int 1, .ref 79], (q_kM r1070 c n)) _ _
            refine q_RT_seg (g2 := (64, [(0, .ref 64), (1, .int a1)], [.int 7, .int a1, .int 0, .ref 79], (q_kM (q_sA r1070 15 (upd (r1070.1 15) 1 (vp_nar .boolean 1))) c n))) 6 (fun _ _ => rfl) ?_
            refine q_RT_call (v := (some (.int (q_b (dz_M206 (q_sA r1070 15 (upd (r1070.1 15) 1 (vp_nar .boolean 1))) a1 7))))) (h2 := (q_kM (q_sA r1070 15 (upd (r1070.1 15) 1 (vp_nar .boolean 1))) c n)) rfl rfl ((dzt_M206 (q_sA r1070 15 (upd (r1070.1 15) 1 (vp_nar .boolean 1))) c n a1 7).le (Nat.le_of_ble_eq_true rfl)) ?_
            generalize dz_M206 (q_sA r1070 15 (upd (r1070.1 15) 1 (vp_nar .boolean 1))) a1 7 = r1071
            refine q_RT_let ?_
            show q_RT _ _ _ (67, [(0, .ref 64), (1, .int a1)], [.int (q_b r1071), .int 0, .ref 79], (q_kM (q_sA r1070 15 (upd (r1070.1 15) 1 (vp_nar .boolean 1))) c n)) _ _
            cases h1315 : r1071 with
            | true =>
              refine q_RT_cT ?_
              show q_RT _ _ _ (67, [(0, .ref 64), (1, .int a1)], [.int 1, .int 0, .ref 79], (q_kM (q_sA r1070 15 (upd (r1070.1 15) 1 (vp_nar .boolean 1))) c n)) _ _
              generalize (q_sA r1070 15 (upd (r1070.1 15) 1 (vp_nar .boolean 1))) = r1072
              refine q_RT_let ?_
              show q_RT _ _ _ (67, [(0, .ref 64), (1, .int a1)], [.int 1, .int 0, .ref 79], (q_kM r1072 c n)) _ _
              refine q_RT_seg (g2 := (68, [(0, .ref 64), (1, .int a1)], [], (q_kM (q_sA r1072 15 (upd (r1072.1 15) 0 (vp_nar .boolean 1))) c n))) 1 (fun _ _ => rfl) ?_
              exact q_RT_ret rfl rfl rfl
            | false =>
              refine q_RT_cF ?_
              show q_RT _ _ _ (67, [(0, .ref 64), (1, .int a1)], [.int 0, .int 0, .ref 79], (q_kM (q_sA r1070 15 (upd (r1070.1 15) 1 (vp_nar .boolean 1))) c n)) _ _
              generalize (q_sA r1070 15 (upd (r1070.1 15) 1 (vp_nar .boolean 1))) = r1073
              refine q_RT_let ?_
              show q_RT _ _ _ (67, [(0, .ref 64), (1, .int a1)], [.int 0, .int 0, .ref 79], (q_kM r1073 c n)) _ _
              refine q_RT_seg (g2 := (68, [(0, .ref 64), (1, .int a1)], [], (q_kM (q_sA r1073 15 (upd (r1073.1 15) 0 (vp_nar .boolean 0))) c n))) 1 (fun _ _ => rfl) ?_
              exact q_RT_ret rfl rfl rfl
          | false =>
            refine q_RT_cF ?_
            show q_RT _ _ _ (55, [(0, .ref 64), (1, .int a1)], [.int 0, .int 1, .ref 79], (q_kM (q_sA r1068 15 (upd (r1068.1 15) 2 (vp_nar .boolean 0))) c n)) _ _
            generalize (q_sA r1068 15 (upd (r1068.1 15) 2 (vp_nar .boolean 0))) = r1074
            refine q_RT_let ?_
            show q_RT _ _ _ (55, [(0, .ref 64), (1, .int a1)], [.int 0, .int 1, .ref 79], (q_kM r1074 c n)) _ _
            refine q_RT_seg (g2 := (64, [(0, .ref 64), (1, .int a1)], [.int 7, .int a1, .int 0, .ref 79], (q_kM (q_sA r1074 15 (upd (r1074.1 15) 1 (vp_nar .boolean 0))) c n))) 6 (fun _ _ => rfl) ?_
            refine q_RT_call (v := (some (.int (q_b (dz_M206 (q_sA r1074 15 (upd (r1074.1 15) 1 (vp_nar .boolean 0))) a1 7))))) (h2 := (q_kM (q_sA r1074 15 (upd (r1074.1 15) 1 (vp_nar .boolean 0))) c n)) rfl rfl ((dzt_M206 (q_sA r1074 15 (upd (r1074.1 15) 1 (vp_nar .boolean 0))) c n a1 7).le (Nat.le_of_ble_eq_true rfl)) ?_
            generalize dz_M206 (q_sA r1074 15 (upd (r1074.1 15) 1 (vp_nar .boolean 0))) a1 7 = r1075
            refine q_RT_let ?_
            show q_RT _ _ _ (67, [(0, .ref 64), (1, .int a1)], [.int (q_b r1075), .int 0, .ref 79], (q_kM (q_sA r1074 15 (upd (r1074.1 15) 1 (vp_nar .boolean 0))) c n)) _ _
            cases h1316 : r1075 with
            | true =>
              refine q_RT_cT ?_
              show q_RT _ _ _ (67, [(0, .ref 64), (1, .int a1)], [.int 1, .int 0, .ref 79], (q_kM (q_sA r1074 15 (upd (r1074.1 15) 1 (vp_nar .boolean 0))) c n)) _ _
              generalize (q_sA r1074 15 (upd (r1074.1 15) 1 (vp_nar .boolean 0))) = r1076
              refine q_RT_let ?_
              show q_RT _ _ _ (67, [(0, .ref 64), (1, .int a1)], [.int 1, .int 0, .ref 79], (q_kM r1076 c n)) _ _
              refine q_RT_seg (g2 := (68, [(0, .ref 64), (1, .int a1)], [], (q_kM (q_sA r1076 15 (upd (r1076.1 15) 0 (vp_nar .boolean 1))) c n))) 1 (fun _ _ => rfl) ?_
              exact q_RT_ret rfl rfl rfl
            | false =>
              refine q_RT_cF ?_
              show q_RT _ _ _ (67, [(0, .ref 64), (1, .int a1)], [.int 0, .int 0, .ref 79], (q_kM (q_sA r1074 15 (upd (r1074.1 15) 1 (vp_nar .boolean 0))) c n)) _ _
              generalize (q_sA r1074 15 (upd (r1074.1 15) 1 (vp_nar .boolean 0))) = r1077
              refine q_RT_let ?_
              show q_RT _ _ _ (67, [(0, .ref 64), (1, .int a1)], [.int 0, .int 0, .ref 79], (q_kM r1077 c n)) _ _
              refine q_RT_seg (g2 := (68, [(0, .ref 64), (1, .int a1)], [], (q_kM (q_sA r1077 15 (upd (r1077.1 15) 0 (vp_nar .boolean 0))) c n))) 1 (fun _ _ => rfl) ?_
              exact q_RT_ret rfl rfl rfl
    | false =>
      refine q_RT_cF ?_
      show q_RT _ _ _ (21, [(0, .ref 64), (1, .int a1)], [.int 0, .int 4, .ref 79], (q_kM (q_sA s 15 (upd (s.1 15) 5 (vp_nar .boolean 0))) c n)) _ _
      generalize (q_sA s 15 (upd (s.1 15) 5 (vp_nar .boolean 0))) = r1078
      refine q_RT_let ?_
      show q_RT _ _ _ (21, [(0, .ref 64), (1, .int a1)], [.int 0, .int 4, .ref 79], (q_kM r1078 c n)) _ _
      refine q_RT_seg (g2 := (29, [(0, .ref 64), (1, .int a1)], [.int 2, .int a1, .int 3, .ref 79], (q_kM (q_sA r1078 15 (upd (r1078.1 15) 4 (vp_nar .boolean 0))) c n))) 6 (fun _ _ => rfl) ?_
      refine q_RT_call (v := (some (.int (q_b (dz_M206 (q_sA r1078 15 (upd (r1078.1 15) 4 (vp_nar .boolean 0))) a1 2))))) (h2 := (q_kM (q_sA r1078 15 (upd (r1078.1 15) 4 (vp_nar .boolean 0))) c n)) rfl rfl ((dzt_M206 (q_sA r1078 15 (upd (r1078.1 15) 4 (vp_nar .boolean 0))) c n a1 2).le (Nat.le_of_ble_eq_true rfl)) ?_
      generalize dz_M206 (q_sA r1078 15 (upd (r1078.1 15) 4 (vp_nar .boolean 0))) a1 2 = r1079
      refine q_RT_let ?_
      show q_RT _ _ _ (32, [(0, .ref 64), (1, .int a1)], [.int (q_b r1079), .int 3, .ref 79], (q_kM (q_sA r1078 15 (upd (r1078.1 15) 4 (vp_nar .boolean 0))) c n)) _ _
      cases h1317 : r1079 with
      | true =>
        refine q_RT_cT ?_
        show q_RT _ _ _ (32, [(0, .ref 64), (1, .int a1)], [.int 1, .int 3, .ref 79], (q_kM (q_sA r1078 15 (upd (r1078.1 15) 4 (vp_nar .boolean 0))) c n)) _ _
        generalize (q_sA r1078 15 (upd (r1078.1 15) 4 (vp_nar .boolean 0))) = r1080
        refine q_RT_let ?_
        show q_RT _ _ _ (32, [(0, .ref 64), (1, .int a1)], [.int 1, .int 3, .ref 79], (q_kM r1080 c n)) _ _
        refine q_RT_seg (g2 := (40, [(0, .ref 64), (1, .int a1)], [.int 3, .int a1, .int 2, .ref 79], (q_kM (q_sA r1080 15 (upd (r1080.1 15) 3 (vp_nar .boolean 1))) c n))) 6 (fun _ _ => rfl) ?_
        refine q_RT_call (v := (some (.int (q_b (dz_M206 (q_sA r1080 15 (upd (r1080.1 15) 3 (vp_nar .boolean 1))) a1 3))))) (h2 := (q_kM (q_sA r1080 15 (upd (r1080.1 15) 3 (vp_nar .boolean 1))) c n)) rfl rfl ((dzt_M206 (q_sA r1080 15 (upd (r1080.1 15) 3 (vp_nar .boolean 1))) c n a1 3).le (Nat.le_of_ble_eq_true rfl)) ?_
        generalize dz_M206 (q_sA r1080 15 (upd (r1080.1 15) 3 (vp_nar .boolean 1))) a1 3 = r1081
        refine q_RT_let ?_
        show q_RT _ _ _ (43, [(0, .ref 64), (1, .int a1)], [.int (q_b r1081), .int 2, .ref 79], (q_kM (q_sA r1080 15 (upd (r1080.1 15) 3 (vp_nar .boolean 1))) c n)) _ _
        cases h1318 : r1081 with
        | true =>
          refine q_RT_cT ?_
          show q_RT _ _ _ (43, [(0, .ref 64), (1, .int a1)], [.int 1, .int 2, .ref 79], (q_kM (q_sA r1080 15 (upd (r1080.1 15) 3 (vp_nar .boolean 1))) c n)) _ _
          generalize (q_sA r1080 15 (upd (r1080.1 15) 3 (vp_nar .boolean 1))) = r1082
          refine q_RT_let ?_
          show q_RT _ _ _ (43, [(0, .ref 64), (1, .int a1)], [.int 1, .int 2, .ref 79], (q_kM r1082 c n)) _ _
          refine q_RT_seg (g2 := (52, [(0, .ref 64), (1, .int a1)], [.int 6, .int a1, .int 1, .ref 79], (q_kM (q_sA r1082 15 (upd (r1082.1 15) 2 (vp_nar .boolean 1))) c n))) 6 (fun _ _ => rfl) ?_
          refine q_RT_call (v := (some (.int (q_b (dz_M206 (q_sA r1082 15 (upd (r1082.1 15) 2 (vp_nar .boolean 1))) a1 6))))) (h2 := (q_kM (q_sA r1082 15 (upd (r1082.1 15) 2 (vp_nar .boolean 1))) c n)) rfl rfl ((dzt_M206 (q_sA r1082 15 (upd (r1082.1 15) 2 (vp_nar .boolean 1))) c n a1 6).le (Nat.le_of_ble_eq_true rfl)) ?_
          generalize dz_M206 (q_sA r1082 15 (upd (r1082.1 15) 2 (vp_nar .boolean 1))) a1 6 = r1083
          refine q_RT_let ?_
          show q_RT _ _ _ (55, [(0, .ref 64), (1, .int a1)], [.int (q_b r1083), .int 1, .ref 79], (q_kM (q_sA r1082 15 (upd (r1082.1 15) 2 (vp_nar .boolean 1))) c n)) _ _
          cases h1319 : r1083 with
          | true =>
            refine q_RT_cT ?_
            show q_RT _ _ _ (55, [(0, .ref 64), (1, .int a1)], [.int 1, .int 1, .ref 79], (q_kM (q_sA r1082 15 (upd (r1082.1 15) 2 (vp_nar .boolean 1))) c n)) _ _
            generalize (q_sA r1082 15 (upd (r1082.1 15) 2 (vp_nar .boolean 1))) = r1084
            refine q_RT_let ?_
            show q_RT _ _ _ (55, [(0, .ref 64), (1, .int a1)], [.int 1, .int 1, .ref 79], (q_kM r1084 c n)) _ _
            refine q_RT_seg (g2 := (64, [(0, .ref 64), (1, .int a1)], [.int 7, .int a1, .int 0, .ref 79], (q_kM (q_sA r1084 15 (upd (r1084.1 15) 1 (vp_nar .boolean 1))) c n))) 6 (fun _ _ => rfl) ?_
            refine q_RT_call (v := (some (.int (q_b (dz_M206 (q_sA r1084 15 (upd (r1084.1 15) 1 (vp_nar .boolean 1))) a1 7))))) (h2 := (q_kM (q_sA r1084 15 (upd (r1084.1 15) 1 (vp_nar .boolean 1))) c n)) rfl rfl ((dzt_M206 (q_sA r1084 15 (upd (r1084.1 15) 1 (vp_nar .boolean 1))) c n a1 7).le (Nat.le_of_ble_eq_true rfl)) ?_
            generalize dz_M206 (q_sA r1084 15 (upd (r1084.1 15) 1 (vp_nar .boolean 1))) a1 7 = r1085
            refine q_RT_let ?_
            show q_RT _ _ _ (67, [(0, .ref 64), (1, .int a1)], [.int (q_b r1085), .int 0, .ref 79], (q_kM (q_sA r1084 15 (upd (r1084.1 15) 1 (vp_nar .boolean 1))) c n)) _ _
            cases h1320 : r1085 with
            | true =>
              refine q_RT_cT ?_
              show q_RT _ _ _ (67, [(0, .ref 64), (1, .int a1)], [.int 1, .int 0, .ref 79], (q_kM (q_sA r1084 15 (upd (r1084.1 15) 1 (vp_nar .boolean 1))) c n)) _ _
              generalize (q_sA r1084 15 (upd (r1084.1 15) 1 (vp_nar .boolean 1))) = r1086
              refine q_RT_let ?_
              show q_RT _ _ _ (67, [(0, .ref 64), (1, .int a1)], [.int 1, .int 0, .ref 79], (q_kM r1086 c n)) _ _
              refine q_RT_seg (g2 := (68, [(0, .ref 64), (1, .int a1)], [], (q_kM (q_sA r1086 15 (upd (r1086.1 15) 0 (vp_nar .boolean 1))) c n))) 1 (fun _ _ => rfl) ?_
              exact q_RT_ret rfl rfl rfl
            | false =>
              refine q_RT_cF ?_
              show q_RT _ _ _ (67, [(0, .ref 64), (1, .int a1)], [.int 0, .int 0, .ref 79], (q_kM (q_sA r1084 15 (upd (r1084.1 15) 1 (vp_nar .boolean 1))) c n)) _ _
              generalize (q_sA r1084 15 (upd (r1084.1 15) 1 (vp_nar .boolean 1))) = r1087
              refine q_RT_let ?_
              show q_RT _ _ _ (67, [(0, .ref 64), (1, .int a1)], [.int 0, .int 0, .ref 79], (q_kM r1087 c n)) _ _
              refine q_RT_seg (g2 := (68, [(0, .ref 64), (1, .int a1)], [], (q_kM (q_sA r1087 15 (upd (r1087.1 15) 0 (vp_nar .boolean 0))) c n))) 1 (fun _ _ => rfl) ?_
              exact q_RT_ret rfl rfl rfl
          | false =>
            refine q_RT_cF ?_
            show q_RT _ _ _ (55, [(0, .ref 64), (1, .int a1)], [.int 0, .int 1, .ref 79], (q_kM (q_sA r1082 15 (upd (r1082.1 15) 2 (vp_nar .boolean 1))) c n)) _ _
            generalize (q_sA r1082 15 (upd (r1082.1 15) 2 (vp_nar .boolean 1))) = r1088
            refine q_RT_let ?_
            show q_RT _ _ _ (55, [(0, .ref 64), (1, .int a1)], [.int 0, .int 1, .ref 79], (q_kM r1088 c n)) _ _
            refine q_RT_seg (g2 := (64, [(0, .ref 64), (1, .int a1)], [.int 7, .int a1, .int 0, .ref 79], (q_kM (q_sA r1088 15 (upd (r1088.1 15) 1 (vp_nar .boolean 0))) c n))) 6 (fun _ _ => rfl) ?_
            refine q_RT_call (v := (some (.int (q_b (dz_M206 (q_sA r1088 15 (upd (r1088.1 15) 1 (vp_nar .boolean 0))) a1 7))))) (h2 := (q_kM (q_sA r1088 15 (upd (r1088.1 15) 1 (vp_nar .boolean 0))) c n)) rfl rfl ((dzt_M206 (q_sA r1088 15 (upd (r1088.1 15) 1 (vp_nar .boolean 0))) c n a1 7).le (Nat.le_of_ble_eq_true rfl)) ?_
            generalize dz_M206 (q_sA r1088 15 (upd (r1088.1 15) 1 (vp_nar .boolean 0))) a1 7 = r1089
            refine q_RT_let ?_
            show q_RT _ _ _ (67, [(0, .ref 64), (1, .int a1)], [.int (q_b r1089), .int 0, .ref 79], (q_kM (q_sA r1088 15 (upd (r1088.1 15) 1 (vp_nar .boolean 0))) c n)) _ _
            cases h1321 : r1089 with
            | true =>
              refine q_RT_cT ?_
              show q_RT _ _ _ (67, [(0, .ref 64), (1, .int a1)], [.int 1, .int 0, .ref 79], (q_kM (q_sA r1088 15 (upd (r1088.1 15) 1 (vp_nar .boolean 0))) c n)) _ _
              generalize (q_sA r1088 15 (upd (r1088.1 15) 1 (vp_nar .boolean 0))) = r1090
              refine q_RT_let ?_
              show q_RT _ _ _ (67, [(0, .ref 64), (1, .int a1)], [.int 1, .int 0, .ref 79], (q_kM r1090 c n)) _ _
              refine q_RT_seg (g2 := (68, [(0, .ref 64), (1, .int a1)], [], (q_kM (q_sA r1090 15 (upd (r1090.1 15) 0 (vp_nar .boolean 1))) c n))) 1 (fun _ _ => rfl) ?_
              exact q_RT_ret rfl rfl rfl
            | false =>
              refine q_RT_cF ?_
              show q_RT _ _ _ (67, [(0, .ref 64), (1, .int a1)], [.int 0, .int 0, .ref 79], (q_kM (q_sA r1088 15 (upd (r1088.1 15) 1 (vp_nar .boolean 0))) c n)) _ _
              generalize (q_sA r1088 15 (upd (r1088.1 15) 1 (vp_nar .boolean 0))) = r1091
              refine q_RT_let ?_
              show q_RT _ _ _ (67, [(0, .ref 64), (1, .int a1)], [.int 0, .int 0, .ref 79], (q_kM r1091 c n)) _ _
              refine q_RT_seg (g2 := (68, [(0, .ref 64), (1, .int a1)], [], (q_kM (q_sA r1091 15 (upd (r1091.1 15) 0 (vp_nar .boolean 0))) c n))) 1 (fun _ _ => rfl) ?_
              exact q_RT_ret rfl rfl rfl
        | false =>
          refine q_RT_cF ?_
          show q_RT _ _ _ (43, [(0, .ref 64), (1, .int a1)], [.int 0, .int 2, .ref 79], (q_kM (q_sA r1080 15 (upd (r1080.1 15) 3 (vp_nar .boolean 1))) c n)) _ _
          generalize (q_sA r1080 15 (upd (r1080.1 15) 3 (vp_nar .boolean 1))) = r1092
          refine q_RT_let ?_
          show q_RT _ _ _ (43, [(0, .ref 64), (1, .int a1)], [.int 0, .int 2, .ref 79], (q_kM r1092 c n)) _ _
          refine q_RT_seg (g2 := (52, [(0, .ref 64), (1, .int a1)], [.int 6, .int a1, .int 1, .ref 79], (q_kM (q_sA r1092 15 (upd (r1092.1 15) 2 (vp_nar .boolean 0))) c n))) 6 (fun _ _ => rfl) ?_
          refine q_RT_call (v := (some (.int (q_b (dz_M206 (q_sA r1092 15 (upd (r1092.1 15) 2 (vp_nar .boolean 0))) a1 6))))) (h2 := (q_kM (q_sA r1092 15 (upd (r1092.1 15) 2 (vp_nar .boolean 0))) c n)) rfl rfl ((dzt_M206 (q_sA r1092 15 (upd (r1092.1 15) 2 (vp_nar .boolean 0))) c n a1 6).le (Nat.le_of_ble_eq_true rfl)) ?_
          generalize dz_M206 (q_sA r1092 15 (upd (r1092.1 15) 2 (vp_nar .boolean 0))) a1 6 = r1093
          refine q_RT_let ?_
          show q_RT _ _ _ (55, [(0, .ref 64), (1, .int a1)], [.int (q_b r1093), .int 1, .ref 79], (q_kM (q_sA r1092 15 (upd (r1092.1 15) 2 (vp_nar .boolean 0))) c n)) _ _
          cases h1322 : r1093 with
          | true =>
            refine q_RT_cT ?_
            show q_RT _ _ _ (55, [(0, .ref 64), (1, .int a1)], [.int 1, .int 1, .ref 79], (q_kM (q_sA r1092 15 (upd (r1092.1 15) 2 (vp_nar .boolean 0))) c n)) _ _
            generalize (q_sA r1092 15 (upd (r1092.1 15) 2 (vp_nar .boolean 0))) = r1094
            refine q_RT_let ?_
            show q_RT _ _ _ (55, [(0, .ref 64), (1, .int a1)], [.int 1, .int 1, .ref 79], (q_kM r1094 c n)) _ _
            refine q_RT_seg (g2 := (64, [(0, .ref 64), (1, .int a1)], [.int 7, .int a1, .int 0, .ref 79], (q_kM (q_sA r1094 15 (upd (r1094.1 15) 1 (vp_nar .boolean 1))) c n))) 6 (fun _ _ => rfl) ?_
            refine q_RT_call (v := (some (.int (q_b (dz_M206 (q_sA r1094 15 (upd (r1094.1 15) 1 (vp_nar .boolean 1))) a1 7))))) (h2 := (q_kM (q_sA r1094 15 (upd (r1094.1 15) 1 (vp_nar .boolean 1))) c n)) rfl rfl ((dzt_M206 (q_sA r1094 15 (upd (r1094.1 15) 1 (vp_nar .boolean 1))) c n a1 7).le (Nat.le_of_ble_eq_true rfl)) ?_
            generalize dz_M206 (q_sA r1094 15 (upd (r1094.1 15) 1 (vp_nar .boolean 1))) a1 7 = r1095
            refine q_RT_let ?_
            show q_RT _ _ _ (67, [(0, .ref 64), (1, .int a1)], [.int (q_b r1095), .int 0, .ref 79], (q_kM (q_sA r1094 15 (upd (r1094.1 15) 1 (vp_nar .boolean 1))) c n)) _ _
            cases h1323 : r1095 with
            | true =>
              refine q_RT_cT ?_
              show q_RT _ _ _ (67, [(0, .ref 64), (1, .int a1)], [.int 1, .int 0, .ref 79], (q_kM (q_sA r1094 15 (upd (r1094.1 15) 1 (vp_nar .boolean 1))) c n)) _ _
              generalize (q_sA r1094 15 (upd (r1094.1 15) 1 (vp_nar .boolean 1))) = r1096
              refine q_RT_let ?_
              show q_RT _ _ _ (67, [(0, .ref 64), (1, .int a1)], [.int 1, .int 0, .ref 79], (q_kM r1096 c n)) _ _
              refine q_RT_seg (g2 := (68, [(0, .ref 64), (1, .int a1)], [], (q_kM (q_sA r1096 15 (upd (r1096.1 15) 0 (vp_nar .boolean 1))) c n))) 1 (fun _ _ => rfl) ?_
              exact q_RT_ret rfl rfl rfl
            | false =>
              refine q_RT_cF ?_
              show q_RT _ _ _ (67, [(0, .ref 64), (1, .int a1)], [.int 0, .int 0, .ref 79], (q_kM (q_sA r1094 15 (upd (r1094.1 15) 1 (vp_nar .boolean 1))) c n)) _ _
              generalize (q_sA r1094 15 (upd (r1094.1 15) 1 (vp_nar .boolean 1))) = r1097
              refine q_RT_let ?_
              show q_RT _ _ _ (67, [(0, .ref 64), (1, .int a1)], [.int 0, .int 0, .ref 79], (q_kM r1097 c n)) _ _
              refine q_RT_seg (g2 := (68, [(0, .ref 64), (1, .int a1)], [], (q_kM (q_sA r1097 15 (upd (r1097.1 15) 0 (vp_nar .boolean 0))) c n))) 1 (fun _ _ => rfl) ?_
              exact q_RT_ret rfl rfl rfl
          | false =>
            refine q_RT_cF ?_
            show q_RT _ _ _ (55, [(0, .ref 64), (1, .int a1)], [.int 0, .int 1, .ref 79], (q_kM (q_sA r1092 15 (upd (r1092.1 15) 2 (vp_nar .boolean 0))) c n)) _ _
            generalize (q_sA r1092 15 (upd (r1092.1 15) 2 (vp_nar .boolean 0))) = r1098
            refine q_RT_let ?_
            show q_RT _ _ _ (55, [(0, .ref 64), (1, .int a1)], [.int 0, .int 1, .ref 79], (q_kM r1098 c n)) _ _
            refine q_RT_seg (g2 := (64, [(0, .ref 64), (1, .int a1)], [.int 7, .int a1, .int 0, .ref 79], (q_kM (q_sA r1098 15 (upd (r1098.1 15) 1 (vp_nar .boolean 0))) c n))) 6 (fun _ _ => rfl) ?_
            refine q_RT_call (v := (some (.int (q_b (dz_M206 (q_sA r1098 15 (upd (r1098.1 15) 1 (vp_nar .boolean 0))) a1 7))))) (h2 := (q_kM (q_sA r1098 15 (upd (r1098.1 15) 1 (vp_nar .boolean 0))) c n)) rfl rfl ((dzt_M206 (q_sA r1098 15 (upd (r1098.1 15) 1 (vp_nar .boolean 0))) c n a1 7).le (Nat.le_of_ble_eq_true rfl)) ?_
            generalize dz_M206 (q_sA r1098 15 (upd (r1098.1 15) 1 (vp_nar .boolean 0))) a1 7 = r1099
            refine q_RT_let ?_
            show q_RT _ _ _ (67, [(0, .ref 64), (1, .int a1)], [.int (q_b r1099), .int 0, .ref 79], (q_kM (q_sA r1098 15 (upd (r1098.1 15) 1 (vp_nar .boolean 0))) c n)) _ _
            cases h1324 : r1099 with
            | true =>
              refine q_RT_cT ?_
              show q_RT _ _ _ (67, [(0, .ref 64), (1, .int a1)], [.int 1, .int 0, .ref 79], (q_kM (q_sA r1098 15 (upd (r1098.1 15) 1 (vp_nar .boolean 0))) c n)) _ _
              generalize (q_sA r1098 15 (upd (r1098.1 15) 1 (vp_nar .boolean 0))) = r1100
              refine q_RT_let ?_
              show q_RT _ _ _ (67, [(0, .ref 64), (1, .int a1)], [.int 1, .int 0, .ref 79], (q_kM r1100 c n)) _ _
              refine q_RT_seg (g2 := (68, [(0, .ref 64), (1, .int a1)], [], (q_kM (q_sA r1100 15 (upd (r1100.1 15) 0 (vp_nar .boolean 1))) c n))) 1 (fun _ _ => rfl) ?_
              exact q_RT_ret rfl rfl rfl
            | false =>
              refine q_RT_cF ?_
              show q_RT _ _ _ (67, [(0, .ref 64), (1, .int a1)], [.int 0, .int 0, .ref 79], (q_kM (q_sA r1098 15 (upd (r1098.1 15) 1 (vp_nar .boolean 0))) c n)) _ _
              generalize (q_sA r1098 15 (upd (r1098.1 15) 1 (vp_nar .boolean 0))) = r1101
              refine q_RT_let ?_
              show q_RT _ _ _ (67, [(0, .ref 64), (1, .int a1)], [.int 0, .int 0, .ref 79], (q_kM r1101 c n)) _ _
              refine q_RT_seg (g2 := (68, [(0, .ref 64), (1, .int a1)], [], (q_kM (q_sA r1101 15 (upd (r1101.1 15) 0 (vp_nar .boolean 0))) c n))) 1 (fun _ _ => rfl) ?_
              exact q_RT_ret rfl rfl rfl
      | false =>
        refine q_RT_cF ?_
        show q_RT _ _ _ (32, [(0, .ref 64), (1, .int a1)], [.int 0, .int 3, .ref 79], (q_kM (q_sA r1078 15 (upd (r1078.1 15) 4 (vp_nar .boolean 0))) c n)) _ _
        generalize (q_sA r1078 15 (upd (r1078.1 15) 4 (vp_nar .boolean 0))) = r1102
        refine q_RT_let ?_
        show q_RT _ _ _ (32, [(0, .ref 64), (1, .int a1)], [.int 0, .int 3, .ref 79], (q_kM r1102 c n)) _ _
        refine q_RT_seg (g2 := (40, [(0, .ref 64), (1, .int a1)], [.int 3, .int a1, .int 2, .ref 79], (q_kM (q_sA r1102 15 (upd (r1102.1 15) 3 (vp_nar .boolean 0))) c n))) 6 (fun _ _ => rfl) ?_
        refine q_RT_call (v := (some (.int (q_b (dz_M206 (q_sA r1102 15 (upd (r1102.1 15) 3 (vp_nar .boolean 0))) a1 3))))) (h2 := (q_kM (q_sA r1102 15 (upd (r1102.1 15) 3 (vp_nar .boolean 0))) c n)) rfl rfl ((dzt_M206 (q_sA r1102 15 (upd (r1102.1 15) 3 (vp_nar .boolean 0))) c n a1 3).le (Nat.le_of_ble_eq_true rfl)) ?_
        generalize dz_M206 (q_sA r1102 15 (upd (r1102.1 15) 3 (vp_nar .boolean 0))) a1 3 = r1103
        refine q_RT_let ?_
        show q_RT _ _ _ (43, [(0, .ref 64), (1, .int a1)], [.int (q_b r1103), .int 2, .ref 79], (q_kM (q_sA r1102 15 (upd (r1102.1 15) 3 (vp_nar .boolean 0))) c n)) _ _
        cases h1325 : r1103 with
        | true =>
          refine q_RT_cT ?_
          show q_RT _ _ _ (43, [(0, .ref 64), (1, .int a1)], [.int 1, .int 2, .ref 79], (q_kM (q_sA r1102 15 (upd (r1102.1 15) 3 (vp_nar .boolean 0))) c n)) _ _
          generalize (q_sA r1102 15 (upd (r1102.1 15) 3 (vp_nar .boolean 0))) = r1104
          refine q_RT_let ?_
          show q_RT _ _ _ (43, [(0, .ref 64), (1, .int a1)], [.int 1, .int 2, .ref 79], (q_kM r1104 c n)) _ _
          refine q_RT_seg (g2 := (52, [(0, .ref 64), (1, .int a1)], [.int 6, .int a1, .int 1, .ref 79], (q_kM (q_sA r1104 15 (upd (r1104.1 15) 2 (vp_nar .boolean 1))) c n))) 6 (fun _ _ => rfl) ?_
          refine q_RT_call (v := (some (.int (q_b (dz_M206 (q_sA r1104 15 (upd (r1104.1 15) 2 (vp_nar .boolean 1))) a1 6))))) (h2 := (q_kM (q_sA r1104 15 (upd (r1104.1 15) 2 (vp_nar .boolean 1))) c n)) rfl rfl ((dzt_M206 (q_sA r1104 15 (upd (r1104.1 15) 2 (vp_nar .boolean 1))) c n a1 6).le (Nat.le_of_ble_eq_true rfl)) ?_
          generalize dz_M206 (q_sA r1104 15 (upd (r1104.1 15) 2 (vp_nar .boolean 1))) a1 6 = r1105
          refine q_RT_let ?_
          show q_RT _ _ _ (55, [(0, .ref 64), (1, .int a1)], [.int (q_b r1105), .int 1, .ref 79], (q_kM (q_sA r1104 15 (upd (r1104.1 15) 2 (vp_nar .boolean 1))) c n)) _ _
          cases h1326 : r1105 with
          | true =>
            refine q_RT_cT ?_
            show q_RT _ _ _ (55, [(0, .ref 64), (1, .int a1)], [.int 1, .int 1, .ref 79], (q_kM (q_sA r1104 15 (upd (r1104.1 15) 2 (vp_nar .boolean 1))) c n)) _ _
            generalize (q_sA r1104 15 (upd (r1104.1 15) 2 (vp_nar .boolean 1))) = r1106
            refine q_RT_let ?_
            show q_RT _ _ _ (55, [(0, .ref 64), (1, .int a1)], [.int 1, .int 1, .ref 79], (q_kM r1106 c n)) _ _
            refine q_RT_seg (g2 := (64, [(0, .ref 64), (1, .int a1)], [.int 7, .int a1, .int 0, .ref 79], (q_kM (q_sA r1106 15 (upd (r1106.1 15) 1 (vp_nar .boolean 1))) c n))) 6 (fun _ _ => rfl) ?_
            refine q_RT_call (v := (some (.int (q_b (dz_M206 (q_sA r1106 15 (upd (r1106.1 15) 1 (vp_nar .boolean 1))) a1 7))))) (h2 := (q_kM (q_sA r1106 15 (upd (r1106.1 15) 1 (vp_nar .boolean 1))) c n)) rfl rfl ((dzt_M206 (q_sA r1106 15 (upd (r1106.1 15) 1 (vp_nar .boolean 1))) c n a1 7).le (Nat.le_of_ble_eq_true rfl)) ?_
            generalize dz_M206 (q_sA r1106 15 (upd (r1106.1 15) 1 (vp_nar .boolean 1))) a1 7 = r1107
            refine q_RT_let ?_
            show q_RT _ _ _ (67, [(0, .ref 64), (1, .int a1)], [.int (q_b r1107), .int 0, .ref 79], (q_kM (q_sA r1106 15 (upd (r1106.1 15) 1 (vp_nar .boolean 1))) c n)) _ _
            cases h1327 : r1107 with
            | true =>
              refine q_RT_cT ?_
              show q_RT _ _ _ (67, [(0, .ref 64), (1, .int a1)], [.int 1, .int 0, .ref 79], (q_kM (q_sA r1106 15 (upd (r1106.1 15) 1 (vp_nar .boolean 1))) c n)) _ _
              generalize (q_sA r1106 15 (upd (r1106.1 15) 1 (vp_nar .boolean 1))) = r1108
              refine q_RT_let ?_
              show q_RT _ _ _ (67, [(0, .ref 64), (1, .int a1)], [.int 1, .int 0, .ref 79], (q_kM r1108 c n)) _ _
              refine q_RT_seg (g2 := (68, [(0, .ref 64), (1, .int a1)], [], (q_kM (q_sA r1108 15 (upd (r1108.1 15) 0 (vp_nar .boolean 1))) c n))) 1 (fun _ _ => rfl) ?_
              exact q_RT_ret rfl rfl rfl
            | false =>
              refine q_RT_cF ?_
              show q_RT _ _ _ (67, [(0, .ref 64), (1, .int a1)], [.int 0, .int 0, .ref 79], (q_kM (q_sA r1106 15 (upd (r1106.1 15) 1 (vp_nar .boolean 1))) c n)) _ _
              generalize (q_sA r1106 15 (upd (r1106.1 15) 1 (vp_nar .boolean 1))) = r1109
              refine q_RT_let ?_
              show q_RT _ _ _ (67, [(0, .ref 64), (1, .int a1)], [.int 0, .int 0, .ref 79], (q_kM r1109 c n)) _ _
              refine q_RT_seg (g2 := (68, [(0, .ref 64), (1, .int a1)], [], (q_kM (q_sA r1109 15 (upd (r1109.1 15) 0 (vp_nar .boolean 0))) c n))) 1 (fun _ _ => rfl) ?_
              exact q_RT_ret rfl rfl rfl
          | false =>
            refine q_RT_cF ?_
            show q_RT _ _ _ (55, [(0, .ref 64), (1, .int a1)], [.int 0, .int 1, .ref 79], (q_kM (q_sA r1104 15 (upd (r1104.1 15) 2 (vp_nar .boolean 1))) c n)) _ _
            generalize (q_sA r1104 15 (upd (r1104.1 15) 2 (vp_nar .boolean 1))) = r1110
            refine q_RT_let ?_
            show q_RT _ _ _ (55, [(0, .ref 64), (1, .int a1)], [.int 0, .int 1, .ref 79], (q_kM r1110 c n)) _ _
            refine q_RT_seg (g2 := (64, [(0, .ref 64), (1, .int a1)], [.int 7, .int a1, .int 0, .ref 79], (q_kM (q_sA r1110 15 (upd (r1110.1 15) 1 (vp_nar .boolean 0))) c n))) 6 (fun _ _ => rfl) ?_
            refine q_RT_call (v := (some (.int (q_b (dz_M206 (q_sA r1110 15 (upd (r1110.1 15) 1 (vp_nar .boolean 0))) a1 7))))) (h2 := (q_kM (q_sA r1110 15 (upd (r1110.1 15) 1 (vp_nar .boolean 0))) c n)) rfl rfl ((dzt_M206 (q_sA r1110 15 (upd (r1110.1 15) 1 (vp_nar .boolean 0))) c n a1 7).le (Nat.le_of_ble_eq_true rfl)) ?_
            generalize dz_M206 (q_sA r1110 15 (upd (r1110.1 15) 1 (vp_nar .boolean 0))) a1 7 = r1111
            refine q_RT_let ?_
            show q_RT _ _ _ (67, [(0, .ref 64), (1, .int a1)], [.int (q_b r1111), .int 0, .ref 79], (q_kM (q_sA r1110 15 (upd (r1110.1 15) 1 (vp_nar .boolean 0))) c n)) _ _
            cases h1328 : r1111 with
            | true =>
              refine q_RT_cT ?_
              show q_RT _ _ _ (67, [(0, .ref 64), (1, .int a1)], [.int 1, .int 0, .ref 79], (q_kM (q_sA r1110 15 (upd (r1110.1 15) 1 (vp_nar .boolean 0))) c n)) _ _
              generalize (q_sA r1110 15 (upd (r1110.1 15) 1 (vp_nar .boolean 0))) = r1112
              refine q_RT_let ?_
              show q_RT _ _ _ (67, [(0, .ref 64), (1, .int a1)], [.int 1, .int 0, .ref 79], (q_kM r1112 c n)) _ _
              refine q_RT_seg (g2 := (68, [(0, .ref 64), (1, .int a1)], [], (q_kM (q_sA r1112 15 (upd (r1112.1 15) 0 (vp_nar .boolean 1))) c n))) 1 (fun _ _ => rfl) ?_
              exact q_RT_ret rfl rfl rfl
            | false =>
              refine q_RT_cF ?_
              show q_RT _ _ _ (67, [(0, .ref 64), (1, .int a1)], [.int 0, .int 0, .ref 79], (q_kM (q_sA r1110 15 (upd (r1110.1 15) 1 (vp_nar .boolean 0))) c n)) _ _
              generalize (q_sA r1110 15 (upd (r1110.1 15) 1 (vp_nar .boolean 0))) = r1113
              refine q_RT_let ?_
              show q_RT _ _ _ (67, [(0, .ref 64), (1, .int a1)], [.int 0, .int 0, .ref 79], (q_kM r1113 c n)) _ _
              refine q_RT_seg (g2 := (68, [(0, .ref 64), (1, .int a1)], [], (q_kM (q_sA r1113 15 (upd (r1113.1 15) 0 (vp_nar .boolean 0))) c n))) 1 (fun _ _ => rfl) ?_
              exact q_RT_ret rfl rfl rfl
        | false =>
          refine q_RT_cF ?_
          show q_RT _ _ _ (43, [(0, .ref 64), (1, .int a1)], [.int 0, .int 2, .ref 79], (q_kM (q_sA r1102 15 (upd (r1102.1 15) 3 (vp_nar .boolean 0))) c n)) _ _
          generalize (q_sA r1102 15 (upd (r1102.1 15) 3 (vp_nar .boolean 0))) = r1114
          refine q_RT_let ?_
          show q_RT _ _ _ (43, [(0, .ref 64), (1, .int a1)], [.int 0, .int 2, .ref 79], (q_kM r1114 c n)) _ _
          refine q_RT_seg (g2 := (52, [(0, .ref 64), (1, .int a1)], [.int 6, .int a1, .int 1, .ref 79], (q_kM (q_sA r1114 15 (upd (r1114.1 15) 2 (vp_nar .boolean 0))) c n))) 6 (fun _ _ => rfl) ?_
          refine q_RT_call (v := (some (.int (q_b (dz_M206 (q_sA r1114 15 (upd (r1114.1 15) 2 (vp_nar .boolean 0))) a1 6))))) (h2 := (q_kM (q_sA r1114 15 (upd (r1114.1 15) 2 (vp_nar .boolean 0))) c n)) rfl rfl ((dzt_M206 (q_sA r1114 15 (upd (r1114.1 15) 2 (vp_nar .boolean 0))) c n a1 6).le (Nat.le_of_ble_eq_true rfl)) ?_
          generalize dz_M206 (q_sA r1114 15 (upd (r1114.1 15) 2 (vp_nar .boolean 0))) a1 6 = r1115
          refine q_RT_let ?_
          show q_RT _ _ _ (55, [(0, .ref 64), (1, .int a1)], [.int (q_b r1115), .int 1, .ref 79], (q_kM (q_sA r1114 15 (upd (r1114.1 15) 2 (vp_nar .boolean 0))) c n)) _ _
          cases h1329 : r1115 with
          | true =>
            refine q_RT_cT ?_
            show q_RT _ _ _ (55, [(0, .ref 64), (1, .int a1)], [.int 1, .int 1, .ref 79], (q_kM (q_sA r1114 15 (upd (r1114.1 15) 2 (vp_nar .boolean 0))) c n)) _ _
            generalize (q_sA r1114 15 (upd (r1114.1 15) 2 (vp_nar .boolean 0))) = r1116
            refine q_RT_let ?_
            show q_RT _ _ _ (55, [(0, .ref 64), (1, .int a1)], [.int 1, .int 1, .ref 79], (q_kM r1116 c n)) _ _
            refine q_RT_seg (g2 := (64, [(0, .ref 64), (1, .int a1)], [.int 7, .int a1, .int 0, .ref 79], (q_kM (q_sA r1116 15 (upd (r1116.1 15) 1 (vp_nar .boolean 1))) c n))) 6 (fun _ _ => rfl) ?_
            refine q_RT_call (v := (some (.int (q_b (dz_M206 (q_sA r1116 15 (upd (r1116.1 15) 1 (vp_nar .boolean 1))) a1 7))))) (h2 := (q_kM (q_sA r1116 15 (upd (r1116.1 15) 1 (vp_nar .boolean 1))) c n)) rfl rfl ((dzt_M206 (q_sA r1116 15 (upd (r1116.1 15) 1 (vp_nar .boolean 1))) c n a1 7).le (Nat.le_of_ble_eq_true rfl)) ?_
            generalize dz_M206 (q_sA r1116 15 (upd (r1116.1 15) 1 (vp_nar .boolean 1))) a1 7 = r1117
            refine q_RT_let ?_
            show q_RT _ _ _ (67, [(0, .ref 64), (1, .int a1)], [.int (q_b r1117), .int 0, .ref 79], (q_kM (q_sA r1116 15 (upd (r1116.1 15) 1 (vp_nar .boolean 1))) c n)) _ _
            cases h1330 : r1117 with
            | true =>
              refine q_RT_cT ?_
              show q_RT _ _ _ (67, [(0, .ref 64), (1, .int a1)], [.int 1, .int 0, .ref 79], (q_kM (q_sA r1116 15 (upd (r1116.1 15) 1 (vp_nar .boolean 1))) c n)) _ _
              generalize (q_sA r1116 15 (upd (r1116.1 15) 1 (vp_nar .boolean 1))) = r1118
              refine q_RT_let ?_
              show q_RT _ _ _ (67, [(0, .ref 64), (1, .int a1)], [.int 1, .int 0, .ref 79], (q_kM r1118 c n)) _ _
              refine q_RT_seg (g2 := (68, [(0, .ref 64), (1, .int a1)], [], (q_kM (q_sA r1118 15 (upd (r1118.1 15) 0 (vp_nar .boolean 1))) c n))) 1 (fun _ _ => rfl) ?_
              exact q_RT_ret rfl rfl rfl
            | false =>
              refine q_RT_cF ?_
              show q_RT _ _ _ (67, [(0, .ref 64), (1, .int a1)], [.int 0, .int 0, .ref 79], (q_kM (q_sA r1116 15 (upd (r1116.1 15) 1 (vp_nar .boolean 1))) c n)) _ _
              generalize (q_sA r1116 15 (upd (r1116.1 15) 1 (vp_nar .boolean 1))) = r1119
              refine q_RT_let ?_
              show q_RT _ _ _ (67, [(0, .ref 64), (1, .int a1)], [.int 0, .int 0, .ref 79], (q_kM r1119 c n)) _ _
              refine q_RT_seg (g2 := (68, [(0, .ref 64), (1, .int a1)], [], (q_kM (q_sA r1119 15 (upd (r1119.1 15) 0 (vp_nar .boolean 0))) c n))) 1 (fun _ _ => rfl) ?_
              exact q_RT_ret rfl rfl rfl
          | false =>
            refine q_RT_cF ?_
            show q_RT _ _ _ (55, [(0, .ref 64), (1, .int a1)], [.int 0, .int 1, .ref 79], (q_kM (q_sA r1114 15 (upd (r1114.1 15) 2 (vp_nar .boolean 0))) c n)) _ _
            generalize (q_sA r1114 15 (upd (r1114.1 15) 2 (vp_nar .boolean 0))) = r1120
            refine q_RT_let ?_
            show q_RT _ _ _ (55, [(0, .ref 64), (1, .int a1)], [.int 0, .int 1, .ref 79], (q_kM r1120 c n)) _ _
            refine q_RT_seg (g2 := (64, [(0, .ref 64), (1, .int a1)], [.int 7, .int a1, .int 0, .ref 79], (q_kM (q_sA r1120 15 (upd (r1120.1 15) 1 (vp_nar .boolean 0))) c n))) 6 (fun _ _ => rfl) ?_
            refine q_RT_call (v := (some (.int (q_b (dz_M206 (q_sA r1120 15 (upd (r1120.1 15) 1 (vp_nar .boolean 0))) a1 7))))) (h2 := (q_kM (q_sA r1120 15 (upd (r1120.1 15) 1 (vp_nar .boolean 0))) c n)) rfl rfl ((dzt_M206 (q_sA r1120 15 (upd (r1120.1 15) 1 (vp_nar .boolean 0))) c n a1 7).le (Nat.le_of_ble_eq_true rfl)) ?_
            generalize dz_M206 (q_sA r1120 15 (upd (r1120.1 15) 1 (vp_nar .boolean 0))) a1 7 = r1121
            refine q_RT_let ?_
            show q_RT _ _ _ (67, [(0, .ref 64), (1, .int a1)], [.int (q_b r1121), .int 0, .ref 79], (q_kM (q_sA r1120 15 (upd (r1120.1 15) 1 (vp_nar .boolean 0))) c n)) _ _
            cases h1331 : r1121 with
            | true =>
              refine q_RT_cT ?_
              show q_RT _ _ _ (67, [(0, .ref 64), (1, .int a1)], [.int 1, .int 0, .ref 79], (q_kM (q_sA r1120 15 (upd (r1120.1 15) 1 (vp_nar .boolean 0))) c n)) _ _
              generalize (q_sA r1120 15 (upd (r1120.1 15) 1 (vp_nar .boolean 0))) = r1122
              refine q_RT_let ?_
              show q_RT _ _ _ (67, [(0, .ref 64), (1, .int a1)], [.int 1, .int 0, .ref 79], (q_kM r1122 c n)) _ _
              refine q_RT_seg (g2 := (68, [(0, .ref 64), (1, .int a1)], [], (q_kM (q_sA r1122 15 (upd (r1122.1 15) 0 (vp_nar .boolean 1))) c n))) 1 (fun _ _ => rfl) ?_
              exact q_RT_ret rfl rfl rfl
            | false =>
              refine q_RT_cF ?_
              show q_RT _ _ _ (67, [(0, .ref 64), (1, .int a1)], [.int 0, .int 0, .ref 79], (q_kM (q_sA r1120 15 (upd (r1120.1 15) 1 (vp_nar .boolean 0))) c n)) _ _
              generalize (q_sA r1120 15 (upd (r1120.1 15) 1 (vp_nar .boolean 0))) = r1123
              refine q_RT_let ?_
              show q_RT _ _ _ (67, [(0, .ref 64), (1, .int a1)], [.int 0, .int 0, .ref 79], (q_kM r1123 c n)) _ _
              refine q_RT_seg (g2 := (68, [(0, .ref 64), (1, .int a1)], [], (q_kM (q_sA r1123 15 (upd (r1123.1 15) 0 (vp_nar .boolean 0))) c n))) 1 (fun _ _ => rfl) ?_
              exact q_RT_ret rfl rfl rfl
def dz_M274_64 (s : q_S) (a1 : Int32) : Option (q_S × Int32) :=
  (dz_M256_64 s).bind fun r1126 => (dz_M256_64 r1126.1).bind fun r1127 => q_let (dz_M213 r1127.1 ((r1126.2 + (256 * r1127.2)) + a1)) fun r1128 => some (r1127.1, r1128)
set_option maxHeartbeats 4000000 in
theorem dzt_M274_64 (s : q_S) (c n : Nat) (a1 : Int32) (x : q_S × Int32) (h : dz_M274_64 s a1 = some x) : q_Ca q_TB0 2 273 [.ref 64, .int a1] (q_kM s c n) ((q_oIM c n) x) := by
  refine q_CaP_of (φ := (q_oIM c n)) (Nat.le_of_ble_eq_true rfl) ?_ h
  clear h
  unfold dz_M274_64
  refine q_RP_seg (g2 := (1, [(0, .ref 64), (1, .int a1)], [.ref 64], (q_kM s c n))) 1 (fun _ _ => rfl) ?_
  refine q_RP_bd fun r1126 er1126 => ?_
  refine q_RP_call (v := (some (.int r1126.2))) (h2 := (q_kM r1126.1 c n)) rfl rfl ((dzt_M256_64 s c n r1126 er1126).le (Nat.le_of_ble_eq_true rfl)) ?_
  show q_RP _ _ _ (4, [(0, .ref 64), (1, .int a1)], [.int r1126.2], (q_kM r1126.1 c n)) _ _
  refine q_RP_seg (g2 := (10, [(2, .int r1126.2), (0, .ref 64), (1, .int a1)], [.ref 64, .int 256, .int r1126.2], (q_kM r1126.1 c n))) 4 (fun _ _ => rfl) ?_
  refine q_RP_bd fun r1127 er1127 => ?_
  refine q_RP_call (v := (some (.int r1127.2))) (h2 := (q_kM r1127.1 c n)) rfl rfl ((dzt_M256_64 r1126.1 c n r1127 er1127).le (Nat.le_of_ble_eq_true rfl)) ?_
  show q_RP _ _ _ (13, [(2, .int r1126.2), (0, .ref 64), (1, .int a1)], [.int r1127.2, .int 256, .int r1126.2], (q_kM r1127.1 c n)) _ _
  refine q_RP_seg (g2 := (17, [(2, .int r1126.2), (0, .ref 64), (1, .int a1)], [.int ((r1126.2 + (256 * r1127.2)) + a1)], (q_kM r1127.1 c n))) 4 (fun _ _ => rfl) ?_
  refine q_RP_call (v := (some (.int (dz_M213 r1127.1 ((r1126.2 + (256 * r1127.2)) + a1))))) (h2 := (q_kM r1127.1 c n)) rfl rfl ((dzt_M213 r1127.1 c n ((r1126.2 + (256 * r1127.2)) + a1)).le (Nat.le_of_ble_eq_true rfl)) ?_
  generalize dz_M213 r1127.1 ((r1126.2 + (256 * r1127.2)) + a1) = r1128
  refine q_RP_let ?_
  show q_RP _ _ _ (20, [(2, .int r1126.2), (0, .ref 64), (1, .int a1)], [.int r1128], (q_kM r1127.1 c n)) _ _
  exact q_RP_ret rfl rfl rfl
def dz_M275_64_43 (s : q_S) (v1 : Int32) (v3 : Int32) : Option (q_S) :=
  cond (decide (v1 = 159)) ((dz_M247_64 s v3).bind fun r1137 => (dz_M247_64 r1137.1 (((v3 / 256) * 256) + ((v3 + 1) - (v3 + 1) / 256 * 256))).bind fun r1138 => q_let (dz_M213 r1138.1 (r1137.2 + (256 * r1138.2))) fun r1139 => some (q_sA r1138.1 14 (upd (r1138.1.1 14) 4 r1139))) (some (q_sA s 14 (upd (s.1 14) 4 v3)))
set_option maxHeartbeats 4000000 in
theorem dzt_M275_64_43 (c n : Nat) (s : q_S) (v1 : Int32) (v3 : Int32) : q_RP q_TB0 6 274 (43, [(0, .ref 64), (1, .int v1), (3, .int v3)], [], (q_kM s c n)) (q_oSM c n) (dz_M275_64_43 s v1 v3) := by
  unfold dz_M275_64_43
  refine q_RP_seg (g2 := (52, [(0, .ref 64), (1, .int v1), (3, .int v3)], [.int 159, .int v1, .int 4, .ref 78], (q_kM s c n))) 5 (fun _ _ => rfl) ?_
  cases h1335 : decide (v1 = 159) with
  | true =>
    refine q_RP_cT ?_
    refine q_RP_rsF (g2 := (55, [(0, .ref 64), (1, .int v1), (3, .int v3)], [.int 4, .ref 78], (q_kM s c n))) rfl rfl (q_d_neT h1335) ?_
    refine q_RP_seg (g2 := (57, [(0, .ref 64), (1, .int v1), (3, .int v3)], [.int v3, .ref 64, .int 4, .ref 78], (q_kM s c n))) 2 (fun _ _ => rfl) ?_
    refine q_RP_bd fun r1137 er1137 => ?_
    refine q_RP_call (v := (some (.int r1137.2))) (h2 := (q_kM r1137.1 c n)) rfl rfl ((dzt_M247_64 s c n v3 r1137 er1137).le (Nat.le_of_ble_eq_true rfl)) ?_
    show q_RP _ _ _ (60, [(0, .ref 64), (1, .int v1), (3, .int v3)], [.int r1137.2, .int 4, .ref 78], (q_kM r1137.1 c n)) _ _
    refine q_RP_seg (g2 := (81, [(0, .ref 64), (1, .int v1), (3, .int v3)], [.int (((v3 / 256) * 256) + ((v3 + 1) - (v3 + 1) / 256 * 256)), .ref 64, .int 256, .int r1137.2, .int 4, .ref 78], (q_kM r1137.1 c n))) 13 (fun _ _ => rfl) ?_
    refine q_RP_bd fun r1138 er1138 => ?_
    refine q_RP_call (v := (some (.int r1138.2))) (h2 := (q_kM r1138.1 c n)) rfl rfl ((dzt_M247_64 r1137.1 c n (((v3 / 256) * 256) + ((v3 + 1) - (v3 + 1) / 256 * 256)) r1138 er1138).le (Nat.le_of_ble_eq_true rfl)) ?_
    show q_RP _ _ _ (84, [(0, .ref 64), (1, .int v1), (3, .int v3)], [.int r1138.2, .int 256, .int r1137.2, .int 4, .ref 78], (q_kM r1138.1 c n)) _ _
    refine q_RP_seg (g2 := (86, [(0, .ref 64), (1, .int v1), (3, .int v3)], [.int (r1137.2 + (256 * r1138.2)), .int 4, .ref 78], (q_kM r1138.1 c n))) 2 (fun _ _ => rfl) ?_
    refine q_RP_call (v := (some (.int (dz_M213 r1138.1 (r1137.2 + (256 * r1138.2)))))) (h2 := (q_kM r1138.1 c n)) rfl rfl ((dzt_M213 r1138.1 c n (r1137.2 + (256 * r1138.2))).le (Nat.le_of_ble_eq_true rfl)) ?_
    generalize dz_M213 r1138.1 (r1137.2 + (256 * r1138.2)) = r1139
    refine q_RP_let ?_
    show q_RP _ _ _ (89, [(0, .ref 64), (1, .int v1), (3, .int v3)], [.int r1139, .int 4, .ref 78], (q_kM r1138.1 c n)) _ _
    refine q_RP_seg (g2 := (94, [(0, .ref 64), (1, .int v1), (3, .int v3)], [], (q_kM (q_sA r1138.1 14 (upd (r1138.1.1 14) 4 r1139)) c n))) 2 (fun _ _ => rfl) ?_
    exact q_RP_ret rfl rfl rfl
  | false =>
    refine q_RP_cF ?_
    refine q_RP_rsT (g2 := (92, [(0, .ref 64), (1, .int v1), (3, .int v3)], [.int 4, .ref 78], (q_kM s c n))) rfl rfl (q_d_neF h1335) ?_
    refine q_RP_seg (g2 := (94, [(0, .ref 64), (1, .int v1), (3, .int v3)], [], (q_kM (q_sA s 14 (upd (s.1 14) 4 v3)) c n))) 2 (fun _ _ => rfl) ?_
    exact q_RP_ret rfl rfl rfl
def dz_M275_64 (s : q_S) (a1 : Int32) (a2 : Int32) : Option (q_S) :=
  (dz_M248_64 s (a2 + 1)).bind fun r1133 => cond (decide (a1 = 158)) (q_let (dz_M213 r1133.1 (a2 + 2)) fun r1134 => (dz_M255_64 r1133.1 (r1134 / 256)).bind fun r1135 => (dz_M255_64 r1135 (r1134 - r1134 / 256 * 256)).bind fun r1136 => dz_M275_64_43 r1136 a1 r1133.2) (dz_M275_64_43 r1133.1 a1 r1133.2)
set_option maxHeartbeats 4000000 in
theorem dzt_M275_64 (s : q_S) (c n : Nat) (a1 : Int32) (a2 : Int32) (x : q_S) (h : dz_M275_64 s a1 a2 = some x) : q_Ca q_TB0 7 274 [.ref 64, .int a1, .int a2] (q_kM s c n) ((q_oSM c n) x) := by
  refine q_CaP_of (φ := (q_oSM c n)) (Nat.le_of_ble_eq_true rfl) ?_ h
  clear h
  unfold dz_M275_64
  refine q_RP_seg (g2 := (4, [(0, .ref 64), (1, .int a1), (2, .int a2)], [.int (a2 + 1), .ref 64], (q_kM s c n))) 4 (fun _ _ => rfl) ?_
  refine q_RP_bd fun r1133 er1133 => ?_
  refine q_RP_call (v := (some (.int r1133.2))) (h2 := (q_kM r1133.1 c n)) rfl rfl ((dzt_M248_64 s c n (a2 + 1) r1133 er1133).le (Nat.le_of_ble_eq_true rfl)) ?_
  show q_RP _ _ _ (7, [(0, .ref 64), (1, .int a1), (2, .int a2)], [.int r1133.2], (q_kM r1133.1 c n)) _ _
  refine q_RP_seg (g2 := (12, [(3, .int r1133.2), (0, .ref 64), (1, .int a1), (2, .int a2)], [.int 158, .int a1], (q_kM r1133.1 c n))) 3 (fun _ _ => rfl) ?_
  cases h1334 : decide (a1 = 158) with
  | true =>
    refine q_RP_cT ?_
    refine q_RP_rsF (g2 := (15, [(3, .int r1133.2), (0, .ref 64), (1, .int a1), (2, .int a2)], [], (q_kM r1133.1 c n))) rfl rfl (q_d_neT h1334) ?_
    refine q_RP_seg (g2 := (18, [(3, .int r1133.2), (0, .ref 64), (1, .int a1), (2, .int a2)], [.int (a2 + 2)], (q_kM r1133.1 c n))) 3 (fun _ _ => rfl) ?_
    refine q_RP_call (v := (some (.int (dz_M213 r1133.1 (a2 + 2))))) (h2 := (q_kM r1133.1 c n)) rfl rfl ((dzt_M213 r1133.1 c n (a2 + 2)).le (Nat.le_of_ble_eq_true rfl)) ?_
    generalize dz_M213 r1133.1 (a2 + 2) = r1134
    refine q_RP_let ?_
    show q_RP _ _ _ (21, [(3, .int r1133.2), (0, .ref 64), (1, .int a1), (2, .int a2)], [.int r1134], (q_kM r1133.1 c n)) _ _
    refine q_RP_seg (g2 := (30, [(4, .int r1134), (3, .int r1133.2), (0, .ref 64), (1, .int a1), (2, .int a2)], [.int (r1134 / 256), .ref 64], (q_kM r1133.1 c n))) 5 (fun _ _ => rfl) ?_
    refine q_RP_bd fun r1135 er1135 => ?_
    refine q_RP_call (v := none) (h2 := (q_kM r1135 c n)) rfl rfl ((dzt_M255_64 r1133.1 c n (r1134 / 256) r1135 er1135).le (Nat.le_of_ble_eq_true rfl)) ?_
    show q_RP _ _ _ (33, [(4, .int r1134), (3, .int r1133.2), (0, .ref 64), (1, .int a1), (2, .int a2)], [], (q_kM r1135 c n)) _ _
    refine q_RP_seg (g2 := (40, [(4, .int r1134), (3, .int r1133.2), (0, .ref 64), (1, .int a1), (2, .int a2)], [.int (r1134 - r1134 / 256 * 256), .ref 64], (q_kM r1135 c n))) 4 (fun _ _ => rfl) ?_
    refine q_RP_bd fun r1136 er1136 => ?_
    refine q_RP_call (v := none) (h2 := (q_kM r1136 c n)) rfl rfl ((dzt_M255_64 r1135 c n (r1134 - r1134 / 256 * 256) r1136 er1136).le (Nat.le_of_ble_eq_true rfl)) ?_
    show q_RP _ _ _ (43, [(4, .int r1134), (3, .int r1133.2), (0, .ref 64), (1, .int a1), (2, .int a2)], [], (q_kM r1136 c n)) _ _
    exact q_RP_xt (q_xt_mk (q_mn1 2 rfl (q_mn1 3 rfl (q_mn1 1 rfl q_mn0))) rfl) (dzt_M275_64_43 c n r1136 a1 r1133.2)
  | false =>
    refine q_RP_cF ?_
    refine q_RP_rsT (g2 := (43, [(3, .int r1133.2), (0, .ref 64), (1, .int a1), (2, .int a2)], [], (q_kM r1133.1 c n))) rfl rfl (q_d_neF h1334) ?_
    exact q_RP_xt (q_xt_mk (q_mn1 1 rfl (q_mn1 2 rfl (q_mn1 0 rfl q_mn0))) rfl) (dzt_M275_64_43 c n r1133.1 a1 r1133.2)
def dz_M261_64 (s : q_S) (a1 : Int32) : q_S × Int32 :=
  cond (decide (a1 = 0)) (cond (decide (127 < a1)) (q_let ((q_sA s 15 (upd (s.1 15) 4 (vp_nar .boolean 1)))) fun r1147 => ((q_sA r1147 15 (upd (r1147.1 15) 0 (vp_nar .boolean 1))), a1)) (q_let ((q_sA s 15 (upd (s.1 15) 4 (vp_nar .boolean 1)))) fun r1148 => ((q_sA r1148 15 (upd (r1148.1 15) 0 (vp_nar .boolean 0))), a1))) (cond (decide (127 < a1)) (q_let ((q_sA s 15 (upd (s.1 15) 4 (vp_nar .boolean 0)))) fun r1149 => ((q_sA r1149 15 (upd (r1149.1 15) 0 (vp_nar .boolean 1))), a1)) (q_let ((q_sA s 15 (upd (s.1 15) 4 (vp_nar .boolean 0)))) fun r1150 => ((q_sA r1150 15 (upd (r1150.1 15) 0 (vp_nar .boolean 0))), a1)))
set_option maxHeartbeats 4000000 in
theorem dzt_M261_64 (s : q_S) (c n : Nat) (a1 : Int32) : q_Ca q_TB0 1 260 [.ref 64, .int a1] (q_kM s c n) ((q_oIM c n) (dz_M261_64 s a1)) := by
  refine q_CaT_of (φ := (q_oIM c n)) (Nat.le_of_ble_eq_true rfl) ?_
  unfold dz_M261_64
  refine q_RT_seg (g2 := (6, [(0, .ref 64), (1, .int a1)], [.int a1, .int 4, .ref 79], (q_kM s c n))) 4 (fun _ _ => rfl) ?_
  cases h1341 : decide (a1 = 0) with
  | true =>
    refine q_RT_cT ?_
    refine q_RT_rsF (g2 := (9, [(0, .ref 64), (1, .int a1)], [.int 4, .ref 79], (q_kM s c n))) rfl rfl (q_d_neT h1341) ?_
    refine q_RT_seg (g2 := (23, [(0, .ref 64), (1, .int a1)], [.int 127, .int a1, .int 0, .ref 79], (q_kM (q_sA s 15 (upd (s.1 15) 4 (vp_nar .boolean 1))) c n))) 8 (fun _ _ => rfl) ?_
    cases h1342 : decide (127 < a1) with
    | true =>
      refine q_RT_cT ?_
      refine q_RT_rsF (g2 := (26, [(0, .ref 64), (1, .int a1)], [.int 0, .ref 79], (q_kM (q_sA s 15 (upd (s.1 15) 4 (vp_nar .boolean 1))) c n))) rfl rfl (q_d_geT h1342) ?_
      refine q_RT_seg (g2 := (31, [(0, .ref 64), (1, .int a1)], [.int 1, .int 0, .ref 79], (q_kM (q_sA s 15 (upd (s.1 15) 4 (vp_nar .boolean 1))) c n))) 2 (fun _ _ => rfl) ?_
      generalize (q_sA s 15 (upd (s.1 15) 4 (vp_nar .boolean 1))) = r1147
      refine q_RT_let ?_
      show q_RT _ _ _ (31, [(0, .ref 64), (1, .int a1)], [.int 1, .int 0, .ref 79], (q_kM r1147 c n)) _ _
      refine q_RT_seg (g2 := (33, [(0, .ref 64), (1, .int a1)], [.int a1], (q_kM (q_sA r1147 15 (upd (r1147.1 15) 0 (vp_nar .boolean 1))) c n))) 2 (fun _ _ => rfl) ?_
      exact q_RT_ret rfl rfl rfl
    | false =>
      refine q_RT_cF ?_
      refine q_RT_rsT (g2 := (30, [(0, .ref 64), (1, .int a1)], [.int 0, .ref 79], (q_kM (q_sA s 15 (upd (s.1 15) 4 (vp_nar .boolean 1))) c n))) rfl rfl (q_d_geF h1342) ?_
      refine q_RT_seg (g2 := (31, [(0, .ref 64), (1, .int a1)], [.int 0, .int 0, .ref 79], (q_kM (q_sA s 15 (upd (s.1 15) 4 (vp_nar .boolean 1))) c n))) 1 (fun _ _ => rfl) ?_
      generalize (q_sA s 15 (upd (s.1 15) 4 (vp_nar .boolean 1))) = r1148
      refine q_RT_let ?_
      show q_RT _ _ _ (31, [(0, .ref 64), (1, .int a1)], [.int 0, .int 0, .ref 79], (q_kM r1148 c n)) _ _
      refine q_RT_seg (g2 := (33, [(0, .ref 64), (1, .int a1)], [.int a1], (q_kM (q_sA r1148 15 (upd (r1148.1 15) 0 (vp_nar .boolean 0))) c n))) 2 (fun _ _ => rfl) ?_
      exact q_RT_ret rfl rfl rfl
  | false =>
    refine q_RT_cF ?_
    refine q_RT_rsT (g2 := (13, [(0, .ref 64), (1, .int a1)], [.int 4, .ref 79], (q_kM s c n))) rfl rfl (q_d_neF h1341) ?_
    refine q_RT_seg (g2 := (23, [(0, .ref 64), (1, .int a1)], [.int 127, .int a1, .int 0, .ref 79], (q_kM (q_sA s 15 (upd (s.1 15) 4 (vp_nar .boolean 0))) c n))) 7 (fun _ _ => rfl) ?_
    cases h1343 : decide (127 < a1) with
    | true =>
      refine q_RT_cT ?_
      refine q_RT_rsF (g2 := (26, [(0, .ref 64), (1, .int a1)], [.int 0, .ref 79], (q_kM (q_sA s 15 (upd (s.1 15) 4 (vp_nar .boolean 0))) c n))) rfl rfl (q_d_geT h1343) ?_
      refine q_RT_seg (g2 := (31, [(0, .ref 64), (1, .int a1)], [.int 1, .int 0, .ref 79], (q_kM (q_sA s 15 (upd (s.1 15) 4 (vp_nar .boolean 0))) c n))) 2 (fun _ _ => rfl) ?_
      generalize (q_sA s 15 (upd (s.1 15) 4 (vp_nar .boolean 0))) = r1149
      refine q_RT_let ?_
      show q_RT _ _ _ (31, [(0, .ref 64), (1, .int a1)], [.int 1, .int 0, .ref 79], (q_kM r1149 c n)) _ _
      refine q_RT_seg (g2 := (33, [(0, .ref 64), (1, .int a1)], [.int a1], (q_kM (q_sA r1149 15 (upd (r1149.1 15) 0 (vp_nar .boolean 1))) c n))) 2 (fun _ _ => rfl) ?_
      exact q_RT_ret rfl rfl rfl
    | false =>
      refine q_RT_cF ?_
      refine q_RT_rsT (g2 := (30, [(0, .ref 64), (1, .int a1)], [.int 0, .ref 79], (q_kM (q_sA s 15 (upd (s.1 15) 4 (vp_nar .boolean 0))) c n))) rfl rfl (q_d_geF h1343) ?_
      refine q_RT_seg (g2 := (31, [(0, .ref 64), (1, .int a1)], [.int 0, .int 0, .ref 79], (q_kM (q_sA s 15 (upd (s.1 15) 4 (vp_nar .boolean 0))) c n))) 1 (fun _ _ => rfl) ?_
      generalize (q_sA s 15 (upd (s.1 15) 4 (vp_nar .boolean 0))) = r1150
      refine q_RT_let ?_
      show q_RT _ _ _ (31, [(0, .ref 64), (1, .int a1)], [.int 0, .int 0, .ref 79], (q_kM r1150 c n)) _ _
      refine q_RT_seg (g2 := (33, [(0, .ref 64), (1, .int a1)], [.int a1], (q_kM (q_sA r1150 15 (upd (r1150.1 15) 0 (vp_nar .boolean 0))) c n))) 2 (fun _ _ => rfl) ?_
      exact q_RT_ret rfl rfl rfl
def dz_M262_64 (s : q_S) (a1 : Int32) (a2 : Int32) : Option (q_S) :=
  q_let (dz_M261_64 s a2) fun r1152 => cond (q_in a1 24) (some (q_sA r1152.1 14 (upd (r1152.1.1 14) (a1.toNatClampNeg) r1152.2))) none
set_option maxHeartbeats 4000000 in
theorem dzt_M262_64 (s : q_S) (c n : Nat) (a1 : Int32) (a2 : Int32) (x : q_S) (h : dz_M262_64 s a1 a2 = some x) : q_Ca q_TB0 2 261 [.ref 64, .int a1, .int a2] (q_kM s c n) ((q_oSM c n) x) := by
  refine q_CaP_of (φ := (q_oSM c n)) (Nat.le_of_ble_eq_true rfl) ?_ h
  clear h
  unfold dz_M262_64
  refine q_RP_seg (g2 := (7, [(0, .ref 64), (1, .int a1), (2, .int a2)], [.int a2, .ref 64, .int a1, .ref 78], (q_kM s c n))) 5 (fun _ _ => rfl) ?_
  refine q_RP_call (v := (some (.int (dz_M261_64 s a2).2))) (h2 := (q_kM (dz_M261_64 s a2).1 c n)) rfl rfl ((dzt_M261_64 s c n a2).le (Nat.le_of_ble_eq_true rfl)) ?_
  generalize dz_M261_64 s a2 = r1152
  refine q_RP_let ?_
  show q_RP _ _ _ (10, [(0, .ref 64), (1, .int a1), (2, .int a2)], [.int r1152.2, .int a1, .ref 78], (q_kM r1152.1 c n)) _ _
  refine q_RP_as fun i1344 => ?_
  refine q_RP_rsT (g2 := (11, [(0, .ref 64), (1, .int a1), (2, .int a2)], [], (q_kM (q_sA r1152.1 14 (upd (r1152.1.1 14) (a1.toNatClampNeg) r1152.2)) c n))) rfl q_wM14 i1344 ?_
  exact q_RP_ret rfl rfl rfl
def dz_M272_64 (s : q_S) (a1 : Int32) : Option (q_S) :=
  (dz_M257_64 s 5 1).bind fun r1196 => cond (decide (a1 - a1 / 2 * 2 = 0)) (q_let (dz_M206 s ((s.1 14) 0) 7) fun r1197 => cond r1197 (cond (decide (a1 = 150)) ((dz_M262_64 (q_sA s 15 (upd (s.1 15) 5 (vp_nar .boolean 1))) 0 ((((s.1 14) 0) * 2) &&& 255)).bind fun r1198 => some r1198) (cond (decide (a1 = 151)) ((dz_M262_64 (q_sA s 15 (upd (s.1 15) 5 (vp_nar .boolean 1))) 0 (((s.1 14) 0) / 2)).bind fun r1199 => some r1199) (cond (decide (a1 = 152)) ((dz_M262_64 (q_sA s 15 (upd (s.1 15) 5 (vp_nar .boolean 1))) 0 (((((s.1 14) 0) * 2) + r1196) &&& 255)).bind fun r1200 => some r1200) ((dz_M262_64 (q_sA s 15 (upd (s.1 15) 5 (vp_nar .boolean 1))) 0 ((((s.1 14) 0) / 2) + (128 * r1196))).bind fun r1201 => some r1201)))) (cond (decide (a1 = 150)) ((dz_M262_64 (q_sA s 15 (upd (s.1 15) 5 (vp_nar .boolean 0))) 0 ((((s.1 14) 0) * 2) &&& 255)).bind fun r1202 => some r1202) (cond (decide (a1 = 151)) ((dz_M262_64 (q_sA s 15 (upd (s.1 15) 5 (vp_nar .boolean 0))) 0 (((s.1 14) 0) / 2)).bind fun r1203 => some r1203) (cond (decide (a1 = 152)) ((dz_M262_64 (q_sA s 15 (upd (s.1 15) 5 (vp_nar .boolean 0))) 0 (((((s.1 14) 0) * 2) + r1196) &&& 255)).bind fun r1204 => some r1204) ((dz_M262_64 (q_sA s 15 (upd (s.1 15) 5 (vp_nar .boolean 0))) 0 ((((s.1 14) 0) / 2) + (128 * r1196))).bind fun r1205 => some r1205))))) (q_let (dz_M206 s ((s.1 14) 0) 0) fun r1206 => cond r1206 (cond (decide (a1 = 150)) ((dz_M262_64 (q_sA s 15 (upd (s.1 15) 5 (vp_nar .boolean 1))) 0 ((((s.1 14) 0) * 2) &&& 255)).bind fun r1207 => some r1207) (cond (decide (a1 = 151)) ((dz_M262_64 (q_sA s 15 (upd (s.1 15) 5 (vp_nar .boolean 1))) 0 (((s.1 14) 0) / 2)).bind fun r1208 => some r1208) (cond (decide (a1 = 152)) ((dz_M262_64 (q_sA s 15 (upd (s.1 15) 5 (vp_nar .boolean 1))) 0 (((((s.1 14) 0) * 2) + r1196) &&& 255)).bind fun r1209 => some r1209) ((dz_M262_64 (q_sA s 15 (upd (s.1 15) 5 (vp_nar .boolean 1))) 0 ((((s.1 14) 0) / 2) + (128 * r1196))).bind fun r1210 => some r1210)))) (cond (decide (a1 = 150)) ((dz_M262_64 (q_sA s 15 (upd (s.1 15) 5 (vp_nar .boolean 0))) 0 ((((s.1 14) 0) * 2) &&& 255)).bind fun r1211 => some r1211) (cond (decide (a1 = 151)) ((dz_M262_64 (q_sA s 15 (upd (s.1 15) 5 (vp_nar .boolean 0))) 0 (((s.1 14) 0) / 2)).bind fun r1212 => some r1212) (cond (decide (a1 = 152)) ((dz_M262_64 (q_sA s 15 (upd (s.1 15) 5 (vp_nar .boolean 0))) 0 (((((s.1 14) 0) * 2) + r1196) &&& 255)).bind fun r1213 => some r1213) ((dz_M262_64 (q_sA s 15 (upd (s.1 15) 5 (vp_nar .boolean 0))) 0 ((((s.1 14) 0) / 2) + (128 * r1196))).bind fun r1214 => some r1214)))))
set_option maxHeartbeats 4000000 in
theorem dzt_M272_64 (s : q_S) (c n : Nat) (a1 : Int32) (x : q_S) (h : dz_M272_64 s a1 = some x) : q_Ca q_TB0 3 271 [.ref 64, .int a1] (q_kM s c n) ((q_oSM c n) x) := by
  refine q_CaP_of (φ := (q_oSM c n)) (Nat.le_of_ble_eq_true rfl) ?_ h
  clear h
  unfold dz_M272_64
  refine q_RP_seg (g2 := (6, [(0, .ref 64), (1, .int a1)], [.int ((s.1 14) 0)], (q_kM s c n))) 4 (fun _ _ => rfl) ?_
  refine q_RP_seg (g2 := (10, [(2, .int ((s.1 14) 0)), (0, .ref 64), (1, .int a1)], [.int 1, .int 5, .ref 64], (q_kM s c n))) 4 (fun _ _ => rfl) ?_
  refine q_RP_bd fun r1196 er1196 => ?_
  refine q_RP_call (v := (some (.int r1196))) (h2 := (q_kM s c n)) rfl rfl ((dzt_M257_64 s c n 5 1 r1196 er1196).le (Nat.le_of_ble_eq_true rfl)) ?_
  show q_RP _ _ _ (13, [(2, .int ((s.1 14) 0)), (0, .ref 64), (1, .int a1)], [.int r1196], (q_kM s c n)) _ _
  refine q_RP_seg (g2 := (23, [(3, .int r1196), (2, .int ((s.1 14) 0)), (0, .ref 64), (1, .int a1)], [.int (a1 - a1 / 2 * 2), .int ((s.1 14) 0), .int 5, .ref 79], (q_kM s c n))) 8 (fun _ _ => rfl) ?_
  cases h1370 : decide (a1 - a1 / 2 * 2 = 0) with
  | true =>
    refine q_RP_cT ?_
    refine q_RP_rsF (g2 := (26, [(3, .int r1196), (2, .int ((s.1 14) 0)), (0, .ref 64), (1, .int a1)], [.int ((s.1 14) 0), .int 5, .ref 79], (q_kM s c n))) rfl rfl (q_d_neT h1370) ?_
    refine q_RP_seg (g2 := (32, [(3, .int r1196), (2, .int ((s.1 14) 0)), (0, .ref 64), (1, .int a1)], [.int 7, .int ((s.1 14) 0), .int 5, .ref 79], (q_kM s c n))) 2 (fun _ _ => rfl) ?_
    refine q_RP_call (v := (some (.int (q_b (dz_M206 s ((s.1 14) 0) 7))))) (h2 := (q_kM s c n)) rfl rfl ((dzt_M206 s c n ((s.1 14) 0) 7).le (Nat.le_of_ble_eq_true rfl)) ?_
    generalize dz_M206 s ((s.1 14) 0) 7 = r1197
    refine q_RP_let ?_
    show q_RP _ _ _ (35, [(3, .int r1196), (2, .int ((s.1 14) 0)), (0, .ref 64), (1, .int a1)], [.int (q_b r1197), .int 5, .ref 79], (q_kM s c n)) _ _
    cases h1371 : r1197 with
    | true =>
      refine q_RP_cT ?_
      show q_RP _ _ _ (35, [(3, .int r1196), (2, .int ((s.1 14) 0)), (0, .ref 64), (1, .int a1)], [.int 1, .int 5, .ref 79], (q_kM s c n)) _ _
      refine q_RP_seg (g2 := (42, [(3, .int r1196), (2, .int ((s.1 14) 0)), (0, .ref 64), (1, .int a1)], [.int 150, .int a1, .int 0, .ref 64], (q_kM (q_sA s 15 (upd (s.1 15) 5 (vp_nar .boolean 1))) c n))) 5 (fun _ _ => rfl) ?_
      cases h1372 : decide (a1 = 150) with
      | true =>
        refine q_RP_cT ?_
        refine q_RP_rsF (g2 := (45, [(3, .int r1196), (2, .int ((s.1 14) 0)), (0, .ref 64), (1, .int a1)], [.int 0, .ref 64], (q_kM (q_sA s 15 (upd (s.1 15) 5 (vp_nar .boolean 1))) c n))) rfl rfl (q_d_neT h1372) ?_
        refine q_RP_seg (g2 := (96, [(3, .int r1196), (2, .int ((s.1 14) 0)), (0, .ref 64), (1, .int a1)], [.int ((((s.1 14) 0) * 2) &&& 255), .int 0, .ref 64], (q_kM (q_sA s 15 (upd (s.1 15) 5 (vp_nar .boolean 1))) c n))) 6 (fun _ _ => rfl) ?_
        refine q_RP_bd fun r1198 er1198 => ?_
        refine q_RP_call (v := none) (h2 := (q_kM r1198 c n)) rfl rfl ((dzt_M262_64 (q_sA s 15 (upd (s.1 15) 5 (vp_nar .boolean 1))) c n 0 ((((s.1 14) 0) * 2) &&& 255) r1198 er1198).le (Nat.le_of_ble_eq_true rfl)) ?_
        show q_RP _ _ _ (99, [(3, .int r1196), (2, .int ((s.1 14) 0)), (0, .ref 64), (1, .int a1)], [], (q_kM r1198 c n)) _ _
        exact q_RP_ret rfl rfl rfl
      | false =>
        refine q_RP_cF ?_
        refine q_RP_rsT (g2 := (55, [(3, .int r1196), (2, .int ((s.1 14) 0)), (0, .ref 64), (1, .int a1)], [.int 0, .ref 64], (q_kM (q_sA s 15 (upd (s.1 15) 5 (vp_nar .boolean 1))) c n))) rfl rfl (q_d_neF h1372) ?_
        refine q_RP_seg (g2 := (59, [(3, .int r1196), (2, .int ((s.1 14) 0)), (0, .ref 64), (1, .int a1)], [.int 151, .int a1, .int 0, .ref 64], (q_kM (q_sA s 15 (upd (s.1 15) 5 (vp_nar .boolean 1))) c n))) 2 (fun _ _ => rfl) ?_
        cases h1373 : decide (a1 = 151) with
        | true =>
          refine q_RP_cT ?_
          refine q_RP_rsF (g2 := (62, [(3, .int r1196), (2, .int ((s.1 14) 0)), (0, .ref 64), (1, .int a1)], [.int 0, .ref 64], (q_kM (q_sA s 15 (upd (s.1 15) 5 (vp_nar .boolean 1))) c n))) rfl rfl (q_d_neT h1373) ?_
          refine q_RP_seg (g2 := (96, [(3, .int r1196), (2, .int ((s.1 14) 0)), (0, .ref 64), (1, .int a1)], [.int (((s.1 14) 0) / 2), .int 0, .ref 64], (q_kM (q_sA s 15 (upd (s.1 15) 5 (vp_nar .boolean 1))) c n))) 4 (fun _ _ => rfl) ?_
          refine q_RP_bd fun r1199 er1199 => ?_
          refine q_RP_call (v := none) (h2 := (q_kM r1199 c n)) rfl rfl ((dzt_M262_64 (q_sA s 15 (upd (s.1 15) 5 (vp_nar .boolean 1))) c n 0 (((s.1 14) 0) / 2) r1199 er1199).le (Nat.le_of_ble_eq_true rfl)) ?_
          show q_RP _ _ _ (99, [(3, .int r1196), (2, .int ((s.1 14) 0)), (0, .ref 64), (1, .int a1)], [], (q_kM r1199 c n)) _ _
          exact q_RP_ret rfl rfl rfl
        | false =>
          refine q_RP_cF ?_
          refine q_RP_rsT (g2 := (68, [(3, .int r1196), (2, .int ((s.1 14) 0)), (0, .ref 64), (1, .int a1)], [.int 0, .ref 64], (q_kM (q_sA s 15 (upd (s.1 15) 5 (vp_nar .boolean 1))) c n))) rfl rfl (q_d_neF h1373) ?_
          refine q_RP_seg (g2 := (72, [(3, .int r1196), (2, .int ((s.1 14) 0)), (0, .ref 64), (1, .int a1)], [.int 152, .int a1, .int 0, .ref 64], (q_kM (q_sA s 15 (upd (s.1 15) 5 (vp_nar .boolean 1))) c n))) 2 (fun _ _ => rfl) ?_
          cases h1374 : decide (a1 = 152) with
          | true =>
            refine q_RP_cT ?_
            refine q_RP_rsF (g2 := (75, [(3, .int r1196), (2, .int ((s.1 14) 0)), (0, .ref 64), (1, .int a1)], [.int 0, .ref 64], (q_kM (q_sA s 15 (upd (s.1 15) 5 (vp_nar .boolean 1))) c n))) rfl rfl (q_d_neT h1374) ?_
            refine q_RP_seg (g2 := (96, [(3, .int r1196), (2, .int ((s.1 14) 0)), (0, .ref 64), (1, .int a1)], [.int (((((s.1 14) 0) * 2) + r1196) &&& 255), .int 0, .ref 64], (q_kM (q_sA s 15 (upd (s.1 15) 5 (vp_nar .boolean 1))) c n))) 8 (fun _ _ => rfl) ?_
            refine q_RP_bd fun r1200 er1200 => ?_
            refine q_RP_call (v := none) (h2 := (q_kM r1200 c n)) rfl rfl ((dzt_M262_64 (q_sA s 15 (upd (s.1 15) 5 (vp_nar .boolean 1))) c n 0 (((((s.1 14) 0) * 2) + r1196) &&& 255) r1200 er1200).le (Nat.le_of_ble_eq_true rfl)) ?_
            show q_RP _ _ _ (99, [(3, .int r1196), (2, .int ((s.1 14) 0)), (0, .ref 64), (1, .int a1)], [], (q_kM r1200 c n)) _ _
            exact q_RP_ret rfl rfl rfl
          | false =>
            refine q_RP_cF ?_
            refine q_RP_rsT (g2 := (87, [(3, .int r1196), (2, .int ((s.1 14) 0)), (0, .ref 64), (1, .int a1)], [.int 0, .ref 64], (q_kM (q_sA s 15 (upd (s.1 15) 5 (vp_nar .boolean 1))) c n))) rfl rfl (q_d_neF h1374) ?_
            refine q_RP_seg (g2 := (96, [(3, .int r1196), (2, .int ((s.1 14) 0)), (0, .ref 64), (1, .int a1)], [.int ((((s.1 14) 0) / 2) + (128 * r1196)), .int 0, .ref 64], (q_kM (q_sA s 15 (upd (s.1 15) 5 (vp_nar .boolean 1))) c n))) 7 (fun _ _ => rfl) ?_
            refine q_RP_bd fun r1201 er1201 => ?_
            refine q_RP_call (v := none) (h2 := (q_kM r1201 c n)) rfl rfl ((dzt_M262_64 (q_sA s 15 (upd (s.1 15) 5 (vp_nar .boolean 1))) c n 0 ((((s.1 14) 0) / 2) + (128 * r1196)) r1201 er1201).le (Nat.le_of_ble_eq_true rfl)) ?_
            show q_RP _ _ _ (99, [(3, .int r1196), (2, .int ((s.1 14) 0)), (0, .ref 64), (1, .int a1)], [], (q_kM r1201 c n)) _ _
            exact q_RP_ret rfl rfl rfl
    | false =>
      refine q_RP_cF ?_
      show q_RP _ _ _ (35, [(3, .int r1196), (2, .int ((s.1 14) 0)), (0, .ref 64), (1, .int a1)], [.int 0, .int 5, .ref 79], (q_kM s c n)) _ _
      refine q_RP_seg (g2 := (42, [(3, .int r1196), (2, .int ((s.1 14) 0)), (0, .ref 64), (1, .int a1)], [.int 150, .int a1, .int 0, .ref 64], (q_kM (q_sA s 15 (upd (s.1 15) 5 (vp_nar .boolean 0))) c n))) 5 (fun _ _ => rfl) ?_
      cases h1375 : decide (a1 = 150) with
      | true =>
        refine q_RP_cT ?_
        refine q_RP_rsF (g2 := (45, [(3, .int r1196), (2, .int ((s.1 14) 0)), (0, .ref 64), (1, .int a1)], [.int 0, .ref 64], (q_kM (q_sA s 15 (upd (s.1 15) 5 (vp_nar .boolean 0))) c n))) rfl rfl (q_d_neT h1375) ?_
        refine q_RP_seg (g2 := (96, [(3, .int r1196), (2, .int ((s.1 14) 0)), (0, .ref 64), (1, .int a1)], [.int ((((s.1 14) 0) * 2) &&& 255), .int 0, .ref 64], (q_kM (q_sA s 15 (upd (s.1 15) 5 (vp_nar .boolean 0))) c n))) 6 (fun _ _ => rfl) ?_
        refine q_RP_bd fun r1202 er1202 => ?_
        refine q_RP_call (v := none) (h2 := (q_kM r1202 c n)) rfl rfl ((dzt_M262_64 (q_sA s 15 (upd (s.1 15) 5 (vp_nar .boolean 0))) c n 0 ((((s.1 14) 0) * 2) &&& 255) r1202 er1202).le (Nat.le_of_ble_eq_true rfl)) ?_
        show q_RP _ _ _ (99, [(3, .int r1196), (2, .int ((s.1 14) 0)), (0, .ref 64), (1, .int a1)], [], (q_kM r1202 c n)) _ _
        exact q_RP_ret rfl rfl rfl
      | false =>
        refine q_RP_cF ?_
        refine q_RP_rsT (g2 := (55, [(3, .int r1196), (2, .int ((s.1 14) 0)), (0, .ref 64), (1, .int a1)], [.int 0, .ref 64], (q_kM (q_sA s 15 (upd (s.1 15) 5 (vp_nar .boolean 0))) c n))) rfl rfl (q_d_neF h1375) ?_
        refine q_RP_seg (g2 := (59, [(3, .int r1196), (2, .int ((s.1 14) 0)), (0, .ref 64), (1, .int a1)], [.int 151, .int a1, .int 0, .ref 64], (q_kM (q_sA s 15 (upd (s.1 15) 5 (vp_nar .boolean 0))) c n))) 2 (fun _ _ => rfl) ?_
        cases h1376 : decide (a1 = 151) with
        | true =>
          refine q_RP_cT ?_
          refine q_RP_rsF (g2 := (62, [(3, .int r1196), (2, .int ((s.1 14) 0)), (0, .ref 64), (1, .int a1)], [.int 0, .ref 64], (q_kM (q_sA s 15 (upd (s.1 15) 5 (vp_nar .boolean 0))) c n))) rfl rfl (q_d_neT h1376) ?_
          refine q_RP_seg (g2 := (96, [(3, .int r1196), (2, .int ((s.1 14) 0)), (0, .ref 64), (1, .int a1)], [.int (((s.1 14) 0) / 2), .int 0, .ref 64], (q_kM (q_sA s 15 (upd (s.1 15) 5 (vp_nar .boolean 0))) c n))) 4 (fun _ _ => rfl) ?_
          refine q_RP_bd fun r1203 er1203 => ?_
          refine q_RP_call (v := none) (h2 := (q_kM r1203 c n)) rfl rfl ((dzt_M262_64 (q_sA s 15 (upd (s.1 15) 5 (vp_nar .boolean 0))) c n 0 (((s.1 14) 0) / 2) r1203 er1203).le (Nat.le_of_ble_eq_true rfl)) ?_
          show q_RP _ _ _ (99, [(3, .int r1196), (2, .int ((s.1 14) 0)), (0, .ref 64), (1, .int a1)], [], (q_kM r1203 c n)) _ _
          exact q_RP_ret rfl rfl rfl
        | false =>
          refine q_RP_cF ?_
          refine q_RP_rsT (g2 := (68, [(3, .int r1196), (2, .int ((s.1 14) 0)), (0, .ref 64), (1, .int a1)], [.int 0, .ref 64], (q_kM (q_sA s 15 (upd (s.1 15) 5 (vp_nar .boolean 0))) c n))) rfl rfl (q_d_neF h1376) ?_
          refine q_RP_seg (g2 := (72, [(3, .int r1196), (2, .int ((s.1 14) 0)), (0, .ref 64), (1, .int a1)], [.int 152, .int a1, .int 0, .ref 64], (q_kM (q_sA s 15 (upd (s.1 15) 5 (vp_nar .boolean 0))) c n))) 2 (fun _ _ => rfl) ?_
          cases h1377 : decide (a1 = 152) with
          | true =>
            refine q_RP_cT ?_
            refine q_RP_rsF (g2 := (75, [(3, .int r1196), (2, .int ((s.1 14) 0)), (0, .ref 64), (1, .int a1)], [.int 0, .ref 64], (q_kM (q_sA s 15 (upd (s.1 15) 5 (vp_nar .boolean 0))) c n))) rfl rfl (q_d_neT h1377) ?_
            refine q_RP_seg (g2 := (96, [(3, .int r1196), (2, .int ((s.1 14) 0)), (0, .ref 64), (1, .int a1)], [.int (((((s.1 14) 0) * 2) + r1196) &&& 255), .int 0, .ref 64], (q_kM (q_sA s 15 (upd (s.1 15) 5 (vp_nar .boolean 0))) c n))) 8 (fun _ _ => rfl) ?_
            refine q_RP_bd fun r1204 er1204 => ?_
            refine q_RP_call (v := none) (h2 := (q_kM r1204 c n)) rfl rfl ((dzt_M262_64 (q_sA s 15 (upd (s.1 15) 5 (vp_nar .boolean 0))) c n 0 (((((s.1 14) 0) * 2) + r1196) &&& 255) r1204 er1204).le (Nat.le_of_ble_eq_true rfl)) ?_
            show q_RP _ _ _ (99, [(3, .int r1196), (2, .int ((s.1 14) 0)), (0, .ref 64), (1, .int a1)], [], (q_kM r1204 c n)) _ _
            exact q_RP_ret rfl rfl rfl
          | false =>
            refine q_RP_cF ?_
            refine q_RP_rsT (g2 := (87, [(3, .int r1196), (2, .int ((s.1 14) 0)), (0, .ref 64), (1, .int a1)], [.int 0, .ref 64], (q_kM (q_sA s 15 (upd (s.1 15) 5 (vp_nar .boolean 0))) c n))) rfl rfl (q_d_neF h1377) ?_
            refine q_RP_seg (g2 := (96, [(3, .int r1196), (2, .int ((s.1 14) 0)), (0, .ref 64), (1, .int a1)], [.int ((((s.1 14) 0) / 2) + (128 * r1196)), .int 0, .ref 64], (q_kM (q_sA s 15 (upd (s.1 15) 5 (vp_nar .boolean 0))) c n))) 7 (fun _ _ => rfl) ?_
            refine q_RP_bd fun r1205 er1205 => ?_
            refine q_RP_call (v := none) (h2 := (q_kM r1205 c n)) rfl rfl ((dzt_M262_64 (q_sA s 15 (upd (s.1 15) 5 (vp_nar .boolean 0))) c n 0 ((((s.1 14) 0) / 2) + (128 * r1196)) r1205 er1205).le (Nat.le_of_ble_eq_true rfl)) ?_
            show q_RP _ _ _ (99, [(3, .int r1196), (2, .int ((s.1 14) 0)), (0, .ref 64), (1, .int a1)], [], (q_kM r1205 c n)) _ _
            exact q_RP_ret rfl rfl rfl
  | false =>
    refine q_RP_cF ?_
    refine q_RP_rsT (g2 := (31, [(3, .int r1196), (2, .int ((s.1 14) 0)), (0, .ref 64), (1, .int a1)], [.int ((s.1 14) 0), .int 5, .ref 79], (q_kM s c n))) rfl rfl (q_d_neF h1370) ?_
    refine q_RP_seg (g2 := (32, [(3, .int r1196), (2, .int ((s.1 14) 0)), (0, .ref 64), (1, .int a1)], [.int 0, .int ((s.1 14) 0), .int 5, .ref 79], (q_kM s c n))) 1 (fun _ _ => rfl) ?_
    refine q_RP_call (v := (some (.int (q_b (dz_M206 s ((s.1 14) 0) 0))))) (h2 := (q_kM s c n)) rfl rfl ((dzt_M206 s c n ((s.1 14) 0) 0).le (Nat.le_of_ble_eq_true rfl)) ?_
    generalize dz_M206 s ((s.1 14) 0) 0 = r1206
    refine q_RP_let ?_
    show q_RP _ _ _ (35, [(3, .int r1196), (2, .int ((s.1 14) 0)), (0, .ref 64), (1, .int a1)], [.int (q_b r1206), .int 5, .ref 79], (q_kM s c n)) _ _
    cases h1378 : r1206 with
    | true =>
      refine q_RP_cT ?_
      show q_RP _ _ _ (35, [(3, .int r1196), (2, .int ((s.1 14) 0)), (0, .ref 64), (1, .int a1)], [.int 1, .int 5, .ref 79], (q_kM s c n)) _ _
      refine q_RP_seg (g2 := (42, [(3, .int r1196), (2, .int ((s.1 14) 0)), (0, .ref 64), (1, .int a1)], [.int 150, .int a1, .int 0, .ref 64], (q_kM (q_sA s 15 (upd (s.1 15) 5 (vp_nar .boolean 1))) c n))) 5 (fun _ _ => rfl) ?_
      cases h1379 : decide (a1 = 150) with
      | true =>
        refine q_RP_cT ?_
        refine q_RP_rsF (g2 := (45, [(3, .int r1196), (2, .int ((s.1 14) 0)), (0, .ref 64), (1, .int a1)], [.int 0, .ref 64], (q_kM (q_sA s 15 (upd (s.1 15) 5 (vp_nar .boolean 1))) c n))) rfl rfl (q_d_neT h1379) ?_
        refine q_RP_seg (g2 := (96, [(3, .int r1196), (2, .int ((s.1 14) 0)), (0, .ref 64), (1, .int a1)], [.int ((((s.1 14) 0) * 2) &&& 255), .int 0, .ref 64], (q_kM (q_sA s 15 (upd (s.1 15) 5 (vp_nar .boolean 1))) c n))) 6 (fun _ _ => rfl) ?_
        refine q_RP_bd fun r1207 er1207 => ?_
        refine q_RP_call (v := none) (h2 := (q_kM r1207 c n)) rfl rfl ((dzt_M262_64 (q_sA s 15 (upd (s.1 15) 5 (vp_nar .boolean 1))) c n 0 ((((s.1 14) 0) * 2) &&& 255) r1207 er1207).le (Nat.le_of_ble_eq_true rfl)) ?_
        show q_RP _ _ _ (99, [(3, .int r1196), (2, .int ((s.1 14) 0)), (0, .ref 64), (1, .int a1)], [], (q_kM r1207 c n)) _ _
        exact q_RP_ret rfl rfl rfl
      | false =>
        refine q_RP_cF ?_
        refine q_RP_rsT (g2 := (55, [(3, .int r1196), (2, .int ((s.1 14) 0)), (0, .ref 64), (1, .int a1)], [.int 0, .ref 64], (q_kM (q_sA s 15 (upd (s.1 15) 5 (vp_nar .boolean 1))) c n))) rfl rfl (q_d_neF h1379) ?_
        refine q_RP_seg (g2 := (59, [(3, .int r1196), (2, .int ((s.1 14) 0)), (0, .ref 64), (1, .int a1)], [.int 151, .int a1, .int 0, .ref 64], (q_kM (q_sA s 15 (upd (s.1 15) 5 (vp_nar .boolean 1))) c n))) 2 (fun _ _ => rfl) ?_
        cases h1380 : decide (a1 = 151) with
        | true =>
          refine q_RP_cT ?_
          refine q_RP_rsF (g2 := (62, [(3, .int r1196), (2, .int ((s.1 14) 0)), (0, .ref 64), (1, .int a1)], [.int 0, .ref 64], (q_kM (q_sA s 15 (upd (s.1 15) 5 (vp_nar .boolean 1))) c n))) rfl rfl (q_d_neT h1380) ?_
          refine q_RP_seg (g2 := (96, [(3, .int r1196), (2, .int ((s.1 14) 0)), (0, .ref 64), (1, .int a1)], [.int (((s.1 14) 0) / 2), .int 0, .ref 64], (q_kM (q_sA s 15 (upd (s.1 15) 5 (vp_nar .boolean 1))) c n))) 4 (fun _ _ => rfl) ?_
          refine q_RP_bd fun r1208 er1208 => ?_
          refine q_RP_call (v := none) (h2 := (q_kM r1208 c n)) rfl rfl ((dzt_M262_64 (q_sA s 15 (upd (s.1 15) 5 (vp_nar .boolean 1))) c n 0 (((s.1 14) 0) / 2) r1208 er1208).le (Nat.le_of_ble_eq_true rfl)) ?_
          show q_RP _ _ _ (99, [(3, .int r1196), (2, .int ((s.1 14) 0)), (0, .ref 64), (1, .int a1)], [], (q_kM r1208 c n)) _ _
          exact q_RP_ret rfl rfl rfl
        | false =>
          refine q_RP_cF ?_
          refine q_RP_rsT (g2 := (68, [(3, .int r1196), (2, .int ((s.1 14) 0)), (0, .ref 64), (1, .int a1)], [.int 0, .ref 64], (q_kM (q_sA s 15 (upd (s.1 15) 5 (vp_nar .boolean 1))) c n))) rfl rfl (q_d_neF h1380) ?_
          refine q_RP_seg (g2 := (72, [(3, .int r1196), (2, .int ((s.1 14) 0)), (0, .ref 64), (1, .int a1)], [.int 152, .int a1, .int 0, .ref 64], (q_kM (q_sA s 15 (upd (s.1 15) 5 (vp_nar .boolean 1))) c n))) 2 (fun _ _ => rfl) ?_
          cases h1381 : decide (a1 = 152) with
          | true =>
            refine q_RP_cT ?_
            refine q_RP_rsF (g2 := (75, [(3, .int r1196), (2, .int ((s.1 14) 0)), (0, .ref 64), (1, .int a1)], [.int 0, .ref 64], (q_kM (q_sA s 15 (upd (s.1 15) 5 (vp_nar .boolean 1))) c n))) rfl rfl (q_d_neT h1381) ?_
            refine q_RP_seg (g2 := (96, [(3, .int r1196), (2, .int ((s.1 14) 0)), (0, .ref 64), (1, .int a1)], [.int (((((s.1 14) 0) * 2) + r1196) &&& 255), .int 0, .ref 64], (q_kM (q_sA s 15 (upd (s.1 15) 5 (vp_nar .boolean 1))) c n))) 8 (fun _ _ => rfl) ?_
            refine q_RP_bd fun r1209 er1209 => ?_
            refine q_RP_call (v := none) (h2 := (q_kM r1209 c n)) rfl rfl ((dzt_M262_64 (q_sA s 15 (upd (s.1 15) 5 (vp_nar .boolean 1))) c n 0 (((((s.1 14) 0) * 2) + r1196) &&& 255) r1209 er1209).le (Nat.le_of_ble_eq_true rfl)) ?_
            show q_RP _ _ _ (99, [(3, .int r1196), (2, .int ((s.1 14) 0)), (0, .ref 64), (1, .int a1)], [], (q_kM r1209 c n)) _ _
            exact q_RP_ret rfl rfl rfl
          | false =>
            refine q_RP_cF ?_
            refine q_RP_rsT (g2 := (87, [(3, .int r1196), (2, .int ((s.1 14) 0)), (0, .ref 64), (1, .int a1)], [.int 0, .ref 64], (q_kM (q_sA s 15 (upd (s.1 15) 5 (vp_nar .boolean 1))) c n))) rfl rfl (q_d_neF h1381) ?_
            refine q_RP_seg (g2 := (96, [(3, .int r1196), (2, .int ((s.1 14) 0)), (0, .ref 64), (1, .int a1)], [.int ((((s.1 14) 0) / 2) + (128 * r1196)), .int 0, .ref 64], (q_kM (q_sA s 15 (upd (s.1 15) 5 (vp_nar .boolean 1))) c n))) 7 (fun _ _ => rfl) ?_
            refine q_RP_bd fun r1210 er1210 => ?_
            refine q_RP_call (v := none) (h2 := (q_kM r1210 c n)) rfl rfl ((dzt_M262_64 (q_sA s 15 (upd (s.1 15) 5 (vp_nar .boolean 1))) c n 0 ((((s.1 14) 0) / 2) + (128 * r1196)) r1210 er1210).le (Nat.le_of_ble_eq_true rfl)) ?_
            show q_RP _ _ _ (99, [(3, .int r1196), (2, .int ((s.1 14) 0)), (0, .ref 64), (1, .int a1)], [], (q_kM r1210 c n)) _ _
            exact q_RP_ret rfl rfl rfl
    | false =>
      refine q_RP_cF ?_
      show q_RP _ _ _ (35, [(3, .int r1196), (2, .int ((s.1 14) 0)), (0, .ref 64), (1, .int a1)], [.int 0, .int 5, .ref 79], (q_kM s c n)) _ _
      refine q_RP_seg (g2 := (42, [(3, .int r1196), (2, .int ((s.1 14) 0)), (0, .ref 64), (1, .int a1)], [.int 150, .int a1, .int 0, .ref 64], (q_kM (q_sA s 15 (upd (s.1 15) 5 (vp_nar .boolean 0))) c n))) 5 (fun _ _ => rfl) ?_
      cases h1382 : decide (a1 = 150) with
      | true =>
        refine q_RP_cT ?_
        refine q_RP_rsF (g2 := (45, [(3, .int r1196), (2, .int ((s.1 14) 0)), (0, .ref 64), (1, .int a1)], [.int 0, .ref 64], (q_kM (q_sA s 15 (upd (s.1 15) 5 (vp_nar .boolean 0))) c n))) rfl rfl (q_d_neT h1382) ?_
        refine q_RP_seg (g2 := (96, [(3, .int r1196), (2, .int ((s.1 14) 0)), (0, .ref 64), (1, .int a1)], [.int ((((s.1 14) 0) * 2) &&& 255), .int 0, .ref 64], (q_kM (q_sA s 15 (upd (s.1 15) 5 (vp_nar .boolean 0))) c n))) 6 (fun _ _ => rfl) ?_
        refine q_RP_bd fun r1211 er1211 => ?_
        refine q_RP_call (v := none) (h2 := (q_kM r1211 c n)) rfl rfl ((dzt_M262_64 (q_sA s 15 (upd (s.1 15) 5 (vp_nar .boolean 0))) c n 0 ((((s.1 14) 0) * 2) &&& 255) r1211 er1211).le (Nat.le_of_ble_eq_true rfl)) ?_
        show q_RP _ _ _ (99, [(3, .int r1196), (2, .int ((s.1 14) 0)), (0, .ref 64), (1, .int a1)], [], (q_kM r1211 c n)) _ _
        exact q_RP_ret rfl rfl rfl
      | false =>
        refine q_RP_cF ?_
        refine q_RP_rsT (g2 := (55, [(3, .int r1196), (2, .int ((s.1 14) 0)), (0, .ref 64), (1, .int a1)], [.int 0, .ref 64], (q_kM (q_sA s 15 (upd (s.1 15) 5 (vp_nar .boolean 0))) c n))) rfl rfl (q_d_neF h1382) ?_
        refine q_RP_seg (g2 := (59, [(3, .int r1196), (2, .int ((s.1 14) 0)), (0, .ref 64), (1, .int a1)], [.int 151, .int a1, .int 0, .ref 64], (q_kM (q_sA s 15 (upd (s.1 15) 5 (vp_nar .boolean 0))) c n))) 2 (fun _ _ => rfl) ?_
        cases h1383 : decide (a1 = 151) with
        | true =>
          refine q_RP_cT ?_
          refine q_RP_rsF (g2 := (62, [(3, .int r1196), (2, .int ((s.1 14) 0)), (0, .ref 64), (1, .int a1)], [.int 0, .ref 64], (q_kM (q_sA s 15 (upd (s.1 15) 5 (vp_nar .boolean 0))) c n))) rfl rfl (q_d_neT h1383) ?_
          refine q_RP_seg (g2 := (96, [(3, .int r1196), (2, .int ((s.1 14) 0)), (0, .ref 64), (1, .int a1)], [.int (((s.1 14) 0) / 2), .int 0, .ref 64], (q_kM (q_sA s 15 (upd (s.1 15) 5 (vp_nar .boolean 0))) c n))) 4 (fun _ _ => rfl) ?_
          refine q_RP_bd fun r1212 er1212 => ?_
          refine q_RP_call (v := none) (h2 := (q_kM r1212 c n)) rfl rfl ((dzt_M262_64 (q_sA s 15 (upd (s.1 15) 5 (vp_nar .boolean 0))) c n 0 (((s.1 14) 0) / 2) r1212 er1212).le (Nat.le_of_ble_eq_true rfl)) ?_
          show q_RP _ _ _ (99, [(3, .int r1196), (2, .int ((s.1 14) 0)), (0, .ref 64), (1, .int a1)], [], (q_kM r1212 c n)) _ _
          exact q_RP_ret rfl rfl rfl
        | false =>
          refine q_RP_cF ?_
          refine q_RP_rsT (g2 := (68, [(3, .int r1196), (2, .int ((s.1 14) 0)), (0, .ref 64), (1, .int a1)], [.int 0, .ref 64], (q_kM (q_sA s 15 (upd (s.1 15) 5 (vp_nar .boolean 0))) c n))) rfl rfl (q_d_neF h1383) ?_
          refine q_RP_seg (g2 := (72, [(3, .int r1196), (2, .int ((s.1 14) 0)), (0, .ref 64), (1, .int a1)], [.int 152, .int a1, .int 0, .ref 64], (q_kM (q_sA s 15 (upd (s.1 15) 5 (vp_nar .boolean 0))) c n))) 2 (fun _ _ => rfl) ?_
          cases h1384 : decide (a1 = 152) with
          | true =>
            refine q_RP_cT ?_
            refine q_RP_rsF (g2 := (75, [(3, .int r1196), (2, .int ((s.1 14) 0)), (0, .ref 64), (1, .int a1)], [.int 0, .ref 64], (q_kM (q_sA s 15 (upd (s.1 15) 5 (vp_nar .boolean 0))) c n))) rfl rfl (q_d_neT h1384) ?_
            refine q_RP_seg (g2 := (96, [(3, .int r1196), (2, .int ((s.1 14) 0)), (0, .ref 64), (1, .int a1)], [.int (((((s.1 14) 0) * 2) + r1196) &&& 255), .int 0, .ref 64], (q_kM (q_sA s 15 (upd (s.1 15) 5 (vp_nar .boolean 0))) c n))) 8 (fun _ _ => rfl) ?_
            refine q_RP_bd fun r1213 er1213 => ?_
            refine q_RP_call (v := none) (h2 := (q_kM r1213 c n)) rfl rfl ((dzt_M262_64 (q_sA s 15 (upd (s.1 15) 5 (vp_nar .boolean 0))) c n 0 (((((s.1 14) 0) * 2) + r1196) &&& 255) r1213 er1213).le (Nat.le_of_ble_eq_true rfl)) ?_
            show q_RP _ _ _ (99, [(3, .int r1196), (2, .int ((s.1 14) 0)), (0, .ref 64), (1, .int a1)], [], (q_kM r1213 c n)) _ _
            exact q_RP_ret rfl rfl rfl
          | false =>
            refine q_RP_cF ?_
            refine q_RP_rsT (g2 := (87, [(3, .int r1196), (2, .int ((s.1 14) 0)), (0, .ref 64), (1, .int a1)], [.int 0, .ref 64], (q_kM (q_sA s 15 (upd (s.1 15) 5 (vp_nar .boolean 0))) c n))) rfl rfl (q_d_neF h1384) ?_
            refine q_RP_seg (g2 := (96, [(3, .int r1196), (2, .int ((s.1 14) 0)), (0, .ref 64), (1, .int a1)], [.int ((((s.1 14) 0) / 2) + (128 * r1196)), .int 0, .ref 64], (q_kM (q_sA s 15 (upd (s.1 15) 5 (vp_nar .boolean 0))) c n))) 7 (fun _ _ => rfl) ?_
            refine q_RP_bd fun r1214 er1214 => ?_
            refine q_RP_call (v := none) (h2 := (q_kM r1214 c n)) rfl rfl ((dzt_M262_64 (q_sA s 15 (upd (s.1 15) 5 (vp_nar .boolean 0))) c n 0 ((((s.1 14) 0) / 2) + (128 * r1196)) r1214 er1214).le (Nat.le_of_ble_eq_true rfl)) ?_
            show q_RP _ _ _ (99, [(3, .int r1196), (2, .int ((s.1 14) 0)), (0, .ref 64), (1, .int a1)], [], (q_kM r1214 c n)) _ _
            exact q_RP_ret rfl rfl rfl
def dz_M273_64 (s : q_S) (a1 : Int32) (a2 : Int32) : Option (q_S) :=
  cond (decide (a1 < 128)) (q_let (dz_M213 (q_sA s 15 (upd (s.1 15) 7 (vp_nar .boolean 1))) (a2 + 1)) fun r1154 => some (q_sA (q_sA s 15 (upd (s.1 15) 7 (vp_nar .boolean 1))) 14 (upd (s.1 14) 4 r1154))) (cond (decide (153 < a1)) (q_let (dz_M213 (q_sA s 15 (upd (s.1 15) 7 (vp_nar .boolean 1))) (a2 + 1)) fun r1155 => some (q_sA (q_sA s 15 (upd (s.1 15) 7 (vp_nar .boolean 1))) 14 (upd (s.1 14) 4 r1155))) (cond (decide (a1 = 128)) ((dz_M262_64 s 1 ((((s.1 14) 1) + 1) &&& 255)).bind fun r1156 => q_let (dz_M213 r1156 (a2 + 1)) fun r1157 => some (q_sA r1156 14 (upd (r1156.1 14) 4 r1157))) (cond (decide (a1 = 129)) ((dz_M262_64 s 1 ((((s.1 14) 1) - 1) &&& 255)).bind fun r1158 => q_let (dz_M213 r1158 (a2 + 1)) fun r1159 => some (q_sA r1158 14 (upd (r1158.1 14) 4 r1159))) (cond (decide (a1 = 130)) ((dz_M262_64 s 2 ((((s.1 14) 2) + 1) &&& 255)).bind fun r1160 => q_let (dz_M213 r1160 (a2 + 1)) fun r1161 => some (q_sA r1160 14 (upd (r1160.1 14) 4 r1161))) (cond (decide (a1 = 131)) ((dz_M262_64 s 2 ((((s.1 14) 2) - 1) &&& 255)).bind fun r1162 => q_let (dz_M213 r1162 (a2 + 1)) fun r1163 => some (q_sA r1162 14 (upd (r1162.1 14) 4 r1163))) (cond (decide (a1 = 132)) ((dz_M262_64 s 1 ((s.1 14) 0)).bind fun r1164 => q_let (dz_M213 r1164 (a2 + 1)) fun r1165 => some (q_sA r1164 14 (upd (r1164.1 14) 4 r1165))) (cond (decide (a1 = 133)) ((dz_M262_64 s 0 ((s.1 14) 1)).bind fun r1166 => q_let (dz_M213 r1166 (a2 + 1)) fun r1167 => some (q_sA r1166 14 (upd (r1166.1 14) 4 r1167))) (cond (decide (a1 = 134)) ((dz_M262_64 s 2 ((s.1 14) 0)).bind fun r1168 => q_let (dz_M213 r1168 (a2 + 1)) fun r1169 => some (q_sA r1168 14 (upd (r1168.1 14) 4 r1169))) (cond (decide (a1 = 135)) ((dz_M262_64 s 0 ((s.1 14) 2)).bind fun r1170 => q_let (dz_M213 r1170 (a2 + 1)) fun r1171 => some (q_sA r1170 14 (upd (r1170.1 14) 4 r1171))) (cond (decide (a1 = 136)) ((dz_M262_64 s 1 ((s.1 14) 3)).bind fun r1172 => q_let (dz_M213 r1172 (a2 + 1)) fun r1173 => some (q_sA r1172 14 (upd (r1172.1 14) 4 r1173))) (cond (decide (a1 = 137)) (q_let (dz_M213 (q_sA s 14 (upd (s.1 14) 3 ((s.1 14) 1))) (a2 + 1)) fun r1174 => q_let ((q_sA s 14 (upd (s.1 14) 3 ((s.1 14) 1)))) fun r1175 => some (q_sA r1175 14 (upd (r1175.1 14) 4 r1174))) (cond (decide (a1 = 138)) ((dz_M255_64 s ((s.1 14) 0)).bind fun r1176 => q_let (dz_M213 r1176 (a2 + 1)) fun r1177 => some (q_sA r1176 14 (upd (r1176.1 14) 4 r1177))) (cond (decide (a1 = 139)) ((dz_M256_64 s).bind fun r1178 => (dz_M262_64 r1178.1 0 r1178.2).bind fun r1179 => q_let (dz_M213 r1179 (a2 + 1)) fun r1180 => some (q_sA r1179 14 (upd (r1179.1 14) 4 r1180))) (cond (decide (a1 = 140)) ((dz_M258_64 s 16).bind fun r1181 => (dz_M255_64 s r1181).bind fun r1182 => q_let (dz_M213 r1182 (a2 + 1)) fun r1183 => some (q_sA r1182 14 (upd (r1182.1 14) 4 r1183))) (cond (decide (a1 = 141)) ((dz_M256_64 s).bind fun r1184 => q_let (dz_M259_64 r1184.1 r1184.2) fun r1185 => q_let (dz_M213 r1185 (a2 + 1)) fun r1186 => some (q_sA r1185 14 (upd (r1185.1 14) 4 r1186))) (cond (decide (a1 = 142)) (q_let (dz_M213 (q_sA s 15 (upd (s.1 15) 5 (vp_nar .boolean 1))) (a2 + 1)) fun r1187 => some (q_sA (q_sA s 15 (upd (s.1 15) 5 (vp_nar .boolean 1))) 14 (upd (s.1 14) 4 r1187))) (cond (decide (a1 = 143)) (q_let (dz_M213 (q_sA s 15 (upd (s.1 15) 5 (vp_nar .boolean 0))) (a2 + 1)) fun r1188 => some (q_sA (q_sA s 15 (upd (s.1 15) 5 (vp_nar .boolean 0))) 14 (upd (s.1 14) 4 r1188))) (cond (decide (a1 = 144)) (q_let (dz_M213 (q_sA s 15 (upd (s.1 15) 2 (vp_nar .boolean 1))) (a2 + 1)) fun r1189 => some (q_sA (q_sA s 15 (upd (s.1 15) 2 (vp_nar .boolean 1))) 14 (upd (s.1 14) 4 r1189))) (cond (decide (a1 = 145)) (q_let (dz_M213 (q_sA s 15 (upd (s.1 15) 2 (vp_nar .boolean 0))) (a2 + 1)) fun r1190 => some (q_sA (q_sA s 15 (upd (s.1 15) 2 (vp_nar .boolean 0))) 14 (upd (s.1 14) 4 r1190))) (cond (decide (a1 = 146)) (q_let (dz_M213 (q_sA s 15 (upd (s.1 15) 3 (vp_nar .boolean 1))) (a2 + 1)) fun r1191 => some (q_sA (q_sA s 15 (upd (s.1 15) 3 (vp_nar .boolean 1))) 14 (upd (s.1 14) 4 r1191))) (cond (decide (a1 = 147)) (q_let (dz_M213 (q_sA s 15 (upd (s.1 15) 3 (vp_nar .boolean 0))) (a2 + 1)) fun r1192 => some (q_sA (q_sA s 15 (upd (s.1 15) 3 (vp_nar .boolean 0))) 14 (upd (s.1 14) 4 r1192))) (cond (decide (a1 = 148)) (q_let (dz_M213 (q_sA s 15 (upd (s.1 15) 1 (vp_nar .boolean 0))) (a2 + 1)) fun r1193 => some (q_sA (q_sA s 15 (upd (s.1 15) 1 (vp_nar .boolean 0))) 14 (upd (s.1 14) 4 r1193))) (cond (decide (a1 = 149)) (q_let (dz_M213 s (a2 + 1)) fun r1194 => some (q_sA s 14 (upd (s.1 14) 4 r1194))) (cond (decide (a1 = 150)) ((dz_M272_64 s a1).bind fun r1215 => q_let (dz_M213 r1215 (a2 + 1)) fun r1216 => some (q_sA r1215 14 (upd (r1215.1 14) 4 r1216))) (cond (decide (a1 = 151)) ((dz_M272_64 s a1).bind fun r1217 => q_let (dz_M213 r1217 (a2 + 1)) fun r1218 => some (q_sA r1217 14 (upd (r1217.1 14) 4 r1218))) (cond (decide (a1 = 152)) ((dz_M272_64 s a1).bind fun r1219 => q_let (dz_M213 r1219 (a2 + 1)) fun r1220 => some (q_sA r1219 14 (upd (r1219.1 14) 4 r1220))) ((dz_M272_64 s a1).bind fun r1221 => q_let (dz_M213 r1221 (a2 + 1)) fun r1222 => some (q_sA r1221 14 (upd (r1221.1 14) 4 r1222)))))))))))))))))))))))))))))
set_option maxHeartbeats 4000000 in
theorem dzt_M273_64 (s : q_S) (c n : Nat) (a1 : Int32) (a2 : Int32) (x : q_S) (h : dz_M273_64 s a1 a2 = some x) : q_Ca q_TB0 4 272 [.ref 64, .int a1, .int a2] (q_kM s c n) ((q_oSM c n) x) := by
  refine q_CaP_of (φ := (q_oSM c n)) (Nat.le_of_ble_eq_true rfl) ?_ h
  clear h
  unfold dz_M273_64
  refine q_RP_seg (g2 := (1, [(0, .ref 64), (1, .int a1), (2, .int a2)], [.int a1], (q_kM s c n))) 1 (fun _ _ => rfl) ?_
  cases h1345 : decide (a1 < 128) with
  | true =>
    refine q_RP_cT ?_
    refine q_RP_st1 (g2 := (415, [(0, .ref 64), (1, .int a1), (2, .int a2)], [], (q_kM s c n))) rfl (if_pos (Or.inl (Int32.lt_iff_toInt_lt.mp (of_decide_eq_true h1345)))) ?_
    refine q_RP_seg (g2 := (431, [(0, .ref 64), (1, .int a1), (2, .int a2)], [.int (a2 + 1), .int 4, .ref 78], (q_kM (q_sA s 15 (upd (s.1 15) 7 (vp_nar .boolean 1))) c n))) 11 (fun _ _ => rfl) ?_
    refine q_RP_call (v := (some (.int (dz_M213 (q_sA s 15 (upd (s.1 15) 7 (vp_nar .boolean 1))) (a2 + 1))))) (h2 := (q_kM (q_sA s 15 (upd (s.1 15) 7 (vp_nar .boolean 1))) c n)) rfl rfl ((dzt_M213 (q_sA s 15 (upd (s.1 15) 7 (vp_nar .boolean 1))) c n (a2 + 1)).le (Nat.le_of_ble_eq_true rfl)) ?_
    generalize dz_M213 (q_sA s 15 (upd (s.1 15) 7 (vp_nar .boolean 1))) (a2 + 1) = r1154
    refine q_RP_let ?_
    show q_RP _ _ _ (434, [(0, .ref 64), (1, .int a1), (2, .int a2)], [.int r1154, .int 4, .ref 78], (q_kM (q_sA s 15 (upd (s.1 15) 7 (vp_nar .boolean 1))) c n)) _ _
    refine q_RP_seg (g2 := (435, [(0, .ref 64), (1, .int a1), (2, .int a2)], [], (q_kM (q_sA (q_sA s 15 (upd (s.1 15) 7 (vp_nar .boolean 1))) 14 (upd (s.1 14) 4 r1154)) c n))) 1 (fun _ _ => rfl) ?_
    exact q_RP_ret rfl rfl rfl
  | false =>
    refine q_RP_cF ?_
    cases h1346 : decide (153 < a1) with
    | true =>
      refine q_RP_cT ?_
      refine q_RP_st1 (g2 := (415, [(0, .ref 64), (1, .int a1), (2, .int a2)], [], (q_kM s c n))) rfl (if_pos (Or.inr (Int32.lt_iff_toInt_lt.mp (of_decide_eq_true h1346)))) ?_
      refine q_RP_seg (g2 := (431, [(0, .ref 64), (1, .int a1), (2, .int a2)], [.int (a2 + 1), .int 4, .ref 78], (q_kM (q_sA s 15 (upd (s.1 15) 7 (vp_nar .boolean 1))) c n))) 11 (fun _ _ => rfl) ?_
      refine q_RP_call (v := (some (.int (dz_M213 (q_sA s 15 (upd (s.1 15) 7 (vp_nar .boolean 1))) (a2 + 1))))) (h2 := (q_kM (q_sA s 15 (upd (s.1 15) 7 (vp_nar .boolean 1))) c n)) rfl rfl ((dzt_M213 (q_sA s 15 (upd (s.1 15) 7 (vp_nar .boolean 1))) c n (a2 + 1)).le (Nat.le_of_ble_eq_true rfl)) ?_
      generalize dz_M213 (q_sA s 15 (upd (s.1 15) 7 (vp_nar .boolean 1))) (a2 + 1) = r1155
      refine q_RP_let ?_
      show q_RP _ _ _ (434, [(0, .ref 64), (1, .int a1), (2, .int a2)], [.int r1155, .int 4, .ref 78], (q_kM (q_sA s 15 (upd (s.1 15) 7 (vp_nar .boolean 1))) c n)) _ _
      refine q_RP_seg (g2 := (435, [(0, .ref 64), (1, .int a1), (2, .int a2)], [], (q_kM (q_sA (q_sA s 15 (upd (s.1 15) 7 (vp_nar .boolean 1))) 14 (upd (s.1 14) 4 r1155)) c n))) 1 (fun _ _ => rfl) ?_
      exact q_RP_ret rfl rfl rfl
    | false =>
      refine q_RP_cF ?_
      cases h1347 : decide (a1 = 128) with
      | true =>
        refine q_RP_cT ?_
        refine q_RP_st1 (g2 := (120, [(0, .ref 64), (1, .int a1), (2, .int a2)], [], (q_kM s c n))) rfl (by rw [of_decide_eq_true h1347]; rfl) ?_
        refine q_RP_seg (g2 := (128, [(0, .ref 64), (1, .int a1), (2, .int a2)], [.int ((s.1 14) 1), .int 1, .ref 64], (q_kM s c n))) 6 (fun _ _ => rfl) ?_
        refine q_RP_seg (g2 := (134, [(0, .ref 64), (1, .int a1), (2, .int a2)], [.int ((((s.1 14) 1) + 1) &&& 255), .int 1, .ref 64], (q_kM s c n))) 4 (fun _ _ => rfl) ?_
        refine q_RP_bd fun r1156 er1156 => ?_
        refine q_RP_call (v := none) (h2 := (q_kM r1156 c n)) rfl rfl ((dzt_M262_64 s c n 1 ((((s.1 14) 1) + 1) &&& 255) r1156 er1156).le (Nat.le_of_ble_eq_true rfl)) ?_
        show q_RP _ _ _ (137, [(0, .ref 64), (1, .int a1), (2, .int a2)], [], (q_kM r1156 c n)) _ _
        refine q_RP_seg (g2 := (431, [(0, .ref 64), (1, .int a1), (2, .int a2)], [.int (a2 + 1), .int 4, .ref 78], (q_kM r1156 c n))) 7 (fun _ _ => rfl) ?_
        refine q_RP_call (v := (some (.int (dz_M213 r1156 (a2 + 1))))) (h2 := (q_kM r1156 c n)) rfl rfl ((dzt_M213 r1156 c n (a2 + 1)).le (Nat.le_of_ble_eq_true rfl)) ?_
        generalize dz_M213 r1156 (a2 + 1) = r1157
        refine q_RP_let ?_
        show q_RP _ _ _ (434, [(0, .ref 64), (1, .int a1), (2, .int a2)], [.int r1157, .int 4, .ref 78], (q_kM r1156 c n)) _ _
        refine q_RP_seg (g2 := (435, [(0, .ref 64), (1, .int a1), (2, .int a2)], [], (q_kM (q_sA r1156 14 (upd (r1156.1 14) 4 r1157)) c n))) 1 (fun _ _ => rfl) ?_
        exact q_RP_ret rfl rfl rfl
      | false =>
        refine q_RP_cF ?_
        cases h1348 : decide (a1 = 129) with
        | true =>
          refine q_RP_cT ?_
          refine q_RP_st1 (g2 := (140, [(0, .ref 64), (1, .int a1), (2, .int a2)], [], (q_kM s c n))) rfl (by rw [of_decide_eq_true h1348]; rfl) ?_
          refine q_RP_seg (g2 := (148, [(0, .ref 64), (1, .int a1), (2, .int a2)], [.int ((s.1 14) 1), .int 1, .ref 64], (q_kM s c n))) 6 (fun _ _ => rfl) ?_
          refine q_RP_seg (g2 := (154, [(0, .ref 64), (1, .int a1), (2, .int a2)], [.int ((((s.1 14) 1) - 1) &&& 255), .int 1, .ref 64], (q_kM s c n))) 4 (fun _ _ => rfl) ?_
          refine q_RP_bd fun r1158 er1158 => ?_
          refine q_RP_call (v := none) (h2 := (q_kM r1158 c n)) rfl rfl ((dzt_M262_64 s c n 1 ((((s.1 14) 1) - 1) &&& 255) r1158 er1158).le (Nat.le_of_ble_eq_true rfl)) ?_
          show q_RP _ _ _ (157, [(0, .ref 64), (1, .int a1), (2, .int a2)], [], (q_kM r1158 c n)) _ _
          refine q_RP_seg (g2 := (431, [(0, .ref 64), (1, .int a1), (2, .int a2)], [.int (a2 + 1), .int 4, .ref 78], (q_kM r1158 c n))) 7 (fun _ _ => rfl) ?_
          refine q_RP_call (v := (some (.int (dz_M213 r1158 (a2 + 1))))) (h2 := (q_kM r1158 c n)) rfl rfl ((dzt_M213 r1158 c n (a2 + 1)).le (Nat.le_of_ble_eq_true rfl)) ?_
          generalize dz_M213 r1158 (a2 + 1) = r1159
          refine q_RP_let ?_
          show q_RP _ _ _ (434, [(0, .ref 64), (1, .int a1), (2, .int a2)], [.int r1159, .int 4, .ref 78], (q_kM r1158 c n)) _ _
          refine q_RP_seg (g2 := (435, [(0, .ref 64), (1, .int a1), (2, .int a2)], [], (q_kM (q_sA r1158 14 (upd (r1158.1 14) 4 r1159)) c n))) 1 (fun _ _ => rfl) ?_
          exact q_RP_ret rfl rfl rfl
        | false =>
          refine q_RP_cF ?_
          cases h1349 : decide (a1 = 130) with
          | true =>
            refine q_RP_cT ?_
            refine q_RP_st1 (g2 := (160, [(0, .ref 64), (1, .int a1), (2, .int a2)], [], (q_kM s c n))) rfl (by rw [of_decide_eq_true h1349]; rfl) ?_
            refine q_RP_seg (g2 := (168, [(0, .ref 64), (1, .int a1), (2, .int a2)], [.int ((s.1 14) 2), .int 2, .ref 64], (q_kM s c n))) 6 (fun _ _ => rfl) ?_
            refine q_RP_seg (g2 := (174, [(0, .ref 64), (1, .int a1), (2, .int a2)], [.int ((((s.1 14) 2) + 1) &&& 255), .int 2, .ref 64], (q_kM s c n))) 4 (fun _ _ => rfl) ?_
            refine q_RP_bd fun r1160 er1160 => ?_
            refine q_RP_call (v := none) (h2 := (q_kM r1160 c n)) rfl rfl ((dzt_M262_64 s c n 2 ((((s.1 14) 2) + 1) &&& 255) r1160 er1160).le (Nat.le_of_ble_eq_true rfl)) ?_
            show q_RP _ _ _ (177, [(0, .ref 64), (1, .int a1), (2, .int a2)], [], (q_kM r1160 c n)) _ _
            refine q_RP_seg (g2 := (431, [(0, .ref 64), (1, .int a1), (2, .int a2)], [.int (a2 + 1), .int 4, .ref 78], (q_kM r1160 c n))) 7 (fun _ _ => rfl) ?_
            refine q_RP_call (v := (some (.int (dz_M213 r1160 (a2 + 1))))) (h2 := (q_kM r1160 c n)) rfl rfl ((dzt_M213 r1160 c n (a2 + 1)).le (Nat.le_of_ble_eq_true rfl)) ?_
            generalize dz_M213 r1160 (a2 + 1) = r1161
            refine q_RP_let ?_
            show q_RP _ _ _ (434, [(0, .ref 64), (1, .int a1), (2, .int a2)], [.int r1161, .int 4, .ref 78], (q_kM r1160 c n)) _ _
            refine q_RP_seg (g2 := (435, [(0, .ref 64), (1, .int a1), (2, .int a2)], [], (q_kM (q_sA r1160 14 (upd (r1160.1 14) 4 r1161)) c n))) 1 (fun _ _ => rfl) ?_
            exact q_RP_ret rfl rfl rfl
          | false =>
            refine q_RP_cF ?_
            cases h1350 : decide (a1 = 131) with
            | true =>
              refine q_RP_cT ?_
              refine q_RP_st1 (g2 := (180, [(0, .ref 64), (1, .int a1), (2, .int a2)], [], (q_kM s c n))) rfl (by rw [of_decide_eq_true h1350]; rfl) ?_
              refine q_RP_seg (g2 := (188, [(0, .ref 64), (1, .int a1), (2, .int a2)], [.int ((s.1 14) 2), .int 2, .ref 64], (q_kM s c n))) 6 (fun _ _ => rfl) ?_
              refine q_RP_seg (g2 := (194, [(0, .ref 64), (1, .int a1), (2, .int a2)], [.int ((((s.1 14) 2) - 1) &&& 255), .int 2, .ref 64], (q_kM s c n))) 4 (fun _ _ => rfl) ?_
              refine q_RP_bd fun r1162 er1162 => ?_
              refine q_RP_call (v := none) (h2 := (q_kM r1162 c n)) rfl rfl ((dzt_M262_64 s c n 2 ((((s.1 14) 2) - 1) &&& 255) r1162 er1162).le (Nat.le_of_ble_eq_true rfl)) ?_
              show q_RP _ _ _ (197, [(0, .ref 64), (1, .int a1), (2, .int a2)], [], (q_kM r1162 c n)) _ _
              refine q_RP_seg (g2 := (431, [(0, .ref 64), (1, .int a1), (2, .int a2)], [.int (a2 + 1), .int 4, .ref 78], (q_kM r1162 c n))) 7 (fun _ _ => rfl) ?_
              refine q_RP_call (v := (some (.int (dz_M213 r1162 (a2 + 1))))) (h2 := (q_kM r1162 c n)) rfl rfl ((dzt_M213 r1162 c n (a2 + 1)).le (Nat.le_of_ble_eq_true rfl)) ?_
              generalize dz_M213 r1162 (a2 + 1) = r1163
              refine q_RP_let ?_
              show q_RP _ _ _ (434, [(0, .ref 64), (1, .int a1), (2, .int a2)], [.int r1163, .int 4, .ref 78], (q_kM r1162 c n)) _ _
              refine q_RP_seg (g2 := (435, [(0, .ref 64), (1, .int a1), (2, .int a2)], [], (q_kM (q_sA r1162 14 (upd (r1162.1 14) 4 r1163)) c n))) 1 (fun _ _ => rfl) ?_
              exact q_RP_ret rfl rfl rfl
            | false =>
              refine q_RP_cF ?_
              cases h1351 : decide (a1 = 132) with
              | true =>
                refine q_RP_cT ?_
                refine q_RP_st1 (g2 := (200, [(0, .ref 64), (1, .int a1), (2, .int a2)], [], (q_kM s c n))) rfl (by rw [of_decide_eq_true h1351]; rfl) ?_
                refine q_RP_seg (g2 := (208, [(0, .ref 64), (1, .int a1), (2, .int a2)], [.int ((s.1 14) 0), .int 1, .ref 64], (q_kM s c n))) 6 (fun _ _ => rfl) ?_
                refine q_RP_bd fun r1164 er1164 => ?_
                refine q_RP_call (v := none) (h2 := (q_kM r1164 c n)) rfl rfl ((dzt_M262_64 s c n 1 ((s.1 14) 0) r1164 er1164).le (Nat.le_of_ble_eq_true rfl)) ?_
                show q_RP _ _ _ (211, [(0, .ref 64), (1, .int a1), (2, .int a2)], [], (q_kM r1164 c n)) _ _
                refine q_RP_seg (g2 := (431, [(0, .ref 64), (1, .int a1), (2, .int a2)], [.int (a2 + 1), .int 4, .ref 78], (q_kM r1164 c n))) 7 (fun _ _ => rfl) ?_
                refine q_RP_call (v := (some (.int (dz_M213 r1164 (a2 + 1))))) (h2 := (q_kM r1164 c n)) rfl rfl ((dzt_M213 r1164 c n (a2 + 1)).le (Nat.le_of_ble_eq_true rfl)) ?_
                generalize dz_M213 r1164 (a2 + 1) = r1165
                refine q_RP_let ?_
                show q_RP _ _ _ (434, [(0, .ref 64), (1, .int a1), (2, .int a2)], [.int r1165, .int 4, .ref 78], (q_kM r1164 c n)) _ _
                refine q_RP_seg (g2 := (435, [(0, .ref 64), (1, .int a1), (2, .int a2)], [], (q_kM (q_sA r1164 14 (upd (r1164.1 14) 4 r1165)) c n))) 1 (fun _ _ => rfl) ?_
                exact q_RP_ret rfl rfl rfl
              | false =>
                refine q_RP_cF ?_
                cases h1352 : decide (a1 = 133) with
                | true =>
                  refine q_RP_cT ?_
                  refine q_RP_st1 (g2 := (214, [(0, .ref 64), (1, .int a1), (2, .int a2)], [], (q_kM s c n))) rfl (by rw [of_decide_eq_true h1352]; rfl) ?_
                  refine q_RP_seg (g2 := (222, [(0, .ref 64), (1, .int a1), (2, .int a2)], [.int ((s.1 14) 1), .int 0, .ref 64], (q_kM s c n))) 6 (fun _ _ => rfl) ?_
                  refine q_RP_bd fun r1166 er1166 => ?_
                  refine q_RP_call (v := none) (h2 := (q_kM r1166 c n)) rfl rfl ((dzt_M262_64 s c n 0 ((s.1 14) 1) r1166 er1166).le (Nat.le_of_ble_eq_true rfl)) ?_
                  show q_RP _ _ _ (225, [(0, .ref 64), (1, .int a1), (2, .int a2)], [], (q_kM r1166 c n)) _ _
                  refine q_RP_seg (g2 := (431, [(0, .ref 64), (1, .int a1), (2, .int a2)], [.int (a2 + 1), .int 4, .ref 78], (q_kM r1166 c n))) 7 (fun _ _ => rfl) ?_
                  refine q_RP_call (v := (some (.int (dz_M213 r1166 (a2 + 1))))) (h2 := (q_kM r1166 c n)) rfl rfl ((dzt_M213 r1166 c n (a2 + 1)).le (Nat.le_of_ble_eq_true rfl)) ?_
                  generalize dz_M213 r1166 (a2 + 1) = r1167
                  refine q_RP_let ?_
                  show q_RP _ _ _ (434, [(0, .ref 64), (1, .int a1), (2, .int a2)], [.int r1167, .int 4, .ref 78], (q_kM r1166 c n)) _ _
                  refine q_RP_seg (g2 := (435, [(0, .ref 64), (1, .int a1), (2, .int a2)], [], (q_kM (q_sA r1166 14 (upd (r1166.1 14) 4 r1167)) c n))) 1 (fun _ _ => rfl) ?_
                  exact q_RP_ret rfl rfl rfl
                | false =>
                  refine q_RP_cF ?_
                  cases h1353 : decide (a1 = 134) with
                  | true =>
                    refine q_RP_cT ?_
                    refine q_RP_st1 (g2 := (228, [(0, .ref 64), (1, .int a1), (2, .int a2)], [], (q_kM s c n))) rfl (by rw [of_decide_eq_true h1353]; rfl) ?_
                    refine q_RP_seg (g2 := (236, [(0, .ref 64), (1, .int a1), (2, .int a2)], [.int ((s.1 14) 0), .int 2, .ref 64], (q_kM s c n))) 6 (fun _ _ => rfl) ?_
                    refine q_RP_bd fun r1168 er1168 => ?_
                    refine q_RP_call (v := none) (h2 := (q_kM r1168 c n)) rfl rfl ((dzt_M262_64 s c n 2 ((s.1 14) 0) r1168 er1168).le (Nat.le_of_ble_eq_true rfl)) ?_
                    show q_RP _ _ _ (239, [(0, .ref 64), (1, .int a1), (2, .int a2)], [], (q_kM r1168 c n)) _ _
                    refine q_RP_seg (g2 := (431, [(0, .ref 64), (1, .int a1), (2, .int a2)], [.int (a2 + 1), .int 4, .ref 78], (q_kM r1168 c n))) 7 (fun _ _ => rfl) ?_
                    refine q_RP_call (v := (some (.int (dz_M213 r1168 (a2 + 1))))) (h2 := (q_kM r1168 c n)) rfl rfl ((dzt_M213 r1168 c n (a2 + 1)).le (Nat.le_of_ble_eq_true rfl)) ?_
                    generalize dz_M213 r1168 (a2 + 1) = r1169
                    refine q_RP_let ?_
                    show q_RP _ _ _ (434, [(0, .ref 64), (1, .int a1), (2, .int a2)], [.int r1169, .int 4, .ref 78], (q_kM r1168 c n)) _ _
                    refine q_RP_seg (g2 := (435, [(0, .ref 64), (1, .int a1), (2, .int a2)], [], (q_kM (q_sA r1168 14 (upd (r1168.1 14) 4 r1169)) c n))) 1 (fun _ _ => rfl) ?_
                    exact q_RP_ret rfl rfl rfl
                  | false =>
                    refine q_RP_cF ?_
                    cases h1354 : decide (a1 = 135) with
                    | true =>
                      refine q_RP_cT ?_
                      refine q_RP_st1 (g2 := (242, [(0, .ref 64), (1, .int a1), (2, .int a2)], [], (q_kM s c n))) rfl (by rw [of_decide_eq_true h1354]; rfl) ?_
                      refine q_RP_seg (g2 := (250, [(0, .ref 64), (1, .int a1), (2, .int a2)], [.int ((s.1 14) 2), .int 0, .ref 64], (q_kM s c n))) 6 (fun _ _ => rfl) ?_
                      refine q_RP_bd fun r1170 er1170 => ?_
                      refine q_RP_call (v := none) (h2 := (q_kM r1170 c n)) rfl rfl ((dzt_M262_64 s c n 0 ((s.1 14) 2) r1170 er1170).le (Nat.le_of_ble_eq_true rfl)) ?_
                      show q_RP _ _ _ (253, [(0, .ref 64), (1, .int a1), (2, .int a2)], [], (q_kM r1170 c n)) _ _
                      refine q_RP_seg (g2 := (431, [(0, .ref 64), (1, .int a1), (2, .int a2)], [.int (a2 + 1), .int 4, .ref 78], (q_kM r1170 c n))) 7 (fun _ _ => rfl) ?_
                      refine q_RP_call (v := (some (.int (dz_M213 r1170 (a2 + 1))))) (h2 := (q_kM r1170 c n)) rfl rfl ((dzt_M213 r1170 c n (a2 + 1)).le (Nat.le_of_ble_eq_true rfl)) ?_
                      generalize dz_M213 r1170 (a2 + 1) = r1171
                      refine q_RP_let ?_
                      show q_RP _ _ _ (434, [(0, .ref 64), (1, .int a1), (2, .int a2)], [.int r1171, .int 4, .ref 78], (q_kM r1170 c n)) _ _
                      refine q_RP_seg (g2 := (435, [(0, .ref 64), (1, .int a1), (2, .int a2)], [], (q_kM (q_sA r1170 14 (upd (r1170.1 14) 4 r1171)) c n))) 1 (fun _ _ => rfl) ?_
                      exact q_RP_ret rfl rfl rfl
                    | false =>
                      refine q_RP_cF ?_
                      cases h1355 : decide (a1 = 136) with
                      | true =>
                        refine q_RP_cT ?_
                        refine q_RP_st1 (g2 := (256, [(0, .ref 64), (1, .int a1), (2, .int a2)], [], (q_kM s c n))) rfl (by rw [of_decide_eq_true h1355]; rfl) ?_
                        refine q_RP_seg (g2 := (264, [(0, .ref 64), (1, .int a1), (2, .int a2)], [.int ((s.1 14) 3), .int 1, .ref 64], (q_kM s c n))) 6 (fun _ _ => rfl) ?_
                        refine q_RP_bd fun r1172 er1172 => ?_
                        refine q_RP_call (v := none) (h2 := (q_kM r1172 c n)) rfl rfl ((dzt_M262_64 s c n 1 ((s.1 14) 3) r1172 er1172).le (Nat.le_of_ble_eq_true rfl)) ?_
                        show q_RP _ _ _ (267, [(0, .ref 64), (1, .int a1), (2, .int a2)], [], (q_kM r1172 c n)) _ _
                        refine q_RP_seg (g2 := (431, [(0, .ref 64), (1, .int a1), (2, .int a2)], [.int (a2 + 1), .int 4, .ref 78], (q_kM r1172 c n))) 7 (fun _ _ => rfl) ?_
                        refine q_RP_call (v := (some (.int (dz_M213 r1172 (a2 + 1))))) (h2 := (q_kM r1172 c n)) rfl rfl ((dzt_M213 r1172 c n (a2 + 1)).le (Nat.le_of_ble_eq_true rfl)) ?_
                        generalize dz_M213 r1172 (a2 + 1) = r1173
                        refine q_RP_let ?_
                        show q_RP _ _ _ (434, [(0, .ref 64), (1, .int a1), (2, .int a2)], [.int r1173, .int 4, .ref 78], (q_kM r1172 c n)) _ _
                        refine q_RP_seg (g2 := (435, [(0, .ref 64), (1, .int a1), (2, .int a2)], [], (q_kM (q_sA r1172 14 (upd (r1172.1 14) 4 r1173)) c n))) 1 (fun _ _ => rfl) ?_
                        exact q_RP_ret rfl rfl rfl
                      | false =>
                        refine q_RP_cF ?_
                        cases h1356 : decide (a1 = 137) with
                        | true =>
                          refine q_RP_cT ?_
                          refine q_RP_st1 (g2 := (270, [(0, .ref 64), (1, .int a1), (2, .int a2)], [], (q_kM s c n))) rfl (by rw [of_decide_eq_true h1356]; rfl) ?_
                          refine q_RP_seg (g2 := (281, [(0, .ref 64), (1, .int a1), (2, .int a2)], [.int ((s.1 14) 1), .int 3, .ref 78], (q_kM s c n))) 7 (fun _ _ => rfl) ?_
                          refine q_RP_seg (g2 := (431, [(0, .ref 64), (1, .int a1), (2, .int a2)], [.int (a2 + 1), .int 4, .ref 78], (q_kM (q_sA s 14 (upd (s.1 14) 3 ((s.1 14) 1))) c n))) 8 (fun _ _ => rfl) ?_
                          refine q_RP_call (v := (some (.int (dz_M213 (q_sA s 14 (upd (s.1 14) 3 ((s.1 14) 1))) (a2 + 1))))) (h2 := (q_kM (q_sA s 14 (upd (s.1 14) 3 ((s.1 14) 1))) c n)) rfl rfl ((dzt_M213 (q_sA s 14 (upd (s.1 14) 3 ((s.1 14) 1))) c n (a2 + 1)).le (Nat.le_of_ble_eq_true rfl)) ?_
                          generalize dz_M213 (q_sA s 14 (upd (s.1 14) 3 ((s.1 14) 1))) (a2 + 1) = r1174
                          refine q_RP_let ?_
                          show q_RP _ _ _ (434, [(0, .ref 64), (1, .int a1), (2, .int a2)], [.int r1174, .int 4, .ref 78], (q_kM (q_sA s 14 (upd (s.1 14) 3 ((s.1 14) 1))) c n)) _ _
                          generalize (q_sA s 14 (upd (s.1 14) 3 ((s.1 14) 1))) = r1175
                          refine q_RP_let ?_
                          show q_RP _ _ _ (434, [(0, .ref 64), (1, .int a1), (2, .int a2)], [.int r1174, .int 4, .ref 78], (q_kM r1175 c n)) _ _
                          refine q_RP_seg (g2 := (435, [(0, .ref 64), (1, .int a1), (2, .int a2)], [], (q_kM (q_sA r1175 14 (upd (r1175.1 14) 4 r1174)) c n))) 1 (fun _ _ => rfl) ?_
                          exact q_RP_ret rfl rfl rfl
                        | false =>
                          refine q_RP_cF ?_
                          cases h1357 : decide (a1 = 138) with
                          | true =>
                            refine q_RP_cT ?_
                            refine q_RP_st1 (g2 := (285, [(0, .ref 64), (1, .int a1), (2, .int a2)], [], (q_kM s c n))) rfl (by rw [of_decide_eq_true h1357]; rfl) ?_
                            refine q_RP_seg (g2 := (292, [(0, .ref 64), (1, .int a1), (2, .int a2)], [.int ((s.1 14) 0), .ref 64], (q_kM s c n))) 5 (fun _ _ => rfl) ?_
                            refine q_RP_bd fun r1176 er1176 => ?_
                            refine q_RP_call (v := none) (h2 := (q_kM r1176 c n)) rfl rfl ((dzt_M255_64 s c n ((s.1 14) 0) r1176 er1176).le (Nat.le_of_ble_eq_true rfl)) ?_
                            show q_RP _ _ _ (295, [(0, .ref 64), (1, .int a1), (2, .int a2)], [], (q_kM r1176 c n)) _ _
                            refine q_RP_seg (g2 := (431, [(0, .ref 64), (1, .int a1), (2, .int a2)], [.int (a2 + 1), .int 4, .ref 78], (q_kM r1176 c n))) 7 (fun _ _ => rfl) ?_
                            refine q_RP_call (v := (some (.int (dz_M213 r1176 (a2 + 1))))) (h2 := (q_kM r1176 c n)) rfl rfl ((dzt_M213 r1176 c n (a2 + 1)).le (Nat.le_of_ble_eq_true rfl)) ?_
                            generalize dz_M213 r1176 (a2 + 1) = r1177
                            refine q_RP_let ?_
                            show q_RP _ _ _ (434, [(0, .ref 64), (1, .int a1), (2, .int a2)], [.int r1177, .int 4, .ref 78], (q_kM r1176 c n)) _ _
                            refine q_RP_seg (g2 := (435, [(0, .ref 64), (1, .int a1), (2, .int a2)], [], (q_kM (q_sA r1176 14 (upd (r1176.1 14) 4 r1177)) c n))) 1 (fun _ _ => rfl) ?_
                            exact q_RP_ret rfl rfl rfl
                          | false =>
                            refine q_RP_cF ?_
                            cases h1358 : decide (a1 = 139) with
                            | true =>
                              refine q_RP_cT ?_
                              refine q_RP_st1 (g2 := (298, [(0, .ref 64), (1, .int a1), (2, .int a2)], [], (q_kM s c n))) rfl (by rw [of_decide_eq_true h1358]; rfl) ?_
                              refine q_RP_seg (g2 := (301, [(0, .ref 64), (1, .int a1), (2, .int a2)], [.ref 64, .int 0, .ref 64], (q_kM s c n))) 3 (fun _ _ => rfl) ?_
                              refine q_RP_bd fun r1178 er1178 => ?_
                              refine q_RP_call (v := (some (.int r1178.2))) (h2 := (q_kM r1178.1 c n)) rfl rfl ((dzt_M256_64 s c n r1178 er1178).le (Nat.le_of_ble_eq_true rfl)) ?_
                              show q_RP _ _ _ (304, [(0, .ref 64), (1, .int a1), (2, .int a2)], [.int r1178.2, .int 0, .ref 64], (q_kM r1178.1 c n)) _ _
                              refine q_RP_bd fun r1179 er1179 => ?_
                              refine q_RP_call (v := none) (h2 := (q_kM r1179 c n)) rfl rfl ((dzt_M262_64 r1178.1 c n 0 r1178.2 r1179 er1179).le (Nat.le_of_ble_eq_true rfl)) ?_
                              show q_RP _ _ _ (307, [(0, .ref 64), (1, .int a1), (2, .int a2)], [], (q_kM r1179 c n)) _ _
                              refine q_RP_seg (g2 := (431, [(0, .ref 64), (1, .int a1), (2, .int a2)], [.int (a2 + 1), .int 4, .ref 78], (q_kM r1179 c n))) 7 (fun _ _ => rfl) ?_
                              refine q_RP_call (v := (some (.int (dz_M213 r1179 (a2 + 1))))) (h2 := (q_kM r1179 c n)) rfl rfl ((dzt_M213 r1179 c n (a2 + 1)).le (Nat.le_of_ble_eq_true rfl)) ?_
                              generalize dz_M213 r1179 (a2 + 1) = r1180
                              refine q_RP_let ?_
                              show q_RP _ _ _ (434, [(0, .ref 64), (1, .int a1), (2, .int a2)], [.int r1180, .int 4, .ref 78], (q_kM r1179 c n)) _ _
                              refine q_RP_seg (g2 := (435, [(0, .ref 64), (1, .int a1), (2, .int a2)], [], (q_kM (q_sA r1179 14 (upd (r1179.1 14) 4 r1180)) c n))) 1 (fun _ _ => rfl) ?_
                              exact q_RP_ret rfl rfl rfl
                            | false =>
                              refine q_RP_cF ?_
                              cases h1359 : decide (a1 = 140) with
                              | true =>
                                refine q_RP_cT ?_
                                refine q_RP_st1 (g2 := (310, [(0, .ref 64), (1, .int a1), (2, .int a2)], [], (q_kM s c n))) rfl (by rw [of_decide_eq_true h1359]; rfl) ?_
                                refine q_RP_seg (g2 := (314, [(0, .ref 64), (1, .int a1), (2, .int a2)], [.int 16, .ref 64, .ref 64], (q_kM s c n))) 3 (fun _ _ => rfl) ?_
                                refine q_RP_bd fun r1181 er1181 => ?_
                                refine q_RP_call (v := (some (.int r1181))) (h2 := (q_kM s c n)) rfl rfl ((dzt_M258_64 s c n 16 r1181 er1181).le (Nat.le_of_ble_eq_true rfl)) ?_
                                show q_RP _ _ _ (317, [(0, .ref 64), (1, .int a1), (2, .int a2)], [.int r1181, .ref 64], (q_kM s c n)) _ _
                                refine q_RP_bd fun r1182 er1182 => ?_
                                refine q_RP_call (v := none) (h2 := (q_kM r1182 c n)) rfl rfl ((dzt_M255_64 s c n r1181 r1182 er1182).le (Nat.le_of_ble_eq_true rfl)) ?_
                                show q_RP _ _ _ (320, [(0, .ref 64), (1, .int a1), (2, .int a2)], [], (q_kM r1182 c n)) _ _
                                refine q_RP_seg (g2 := (431, [(0, .ref 64), (1, .int a1), (2, .int a2)], [.int (a2 + 1), .int 4, .ref 78], (q_kM r1182 c n))) 7 (fun _ _ => rfl) ?_
                                refine q_RP_call (v := (some (.int (dz_M213 r1182 (a2 + 1))))) (h2 := (q_kM r1182 c n)) rfl rfl ((dzt_M213 r1182 c n (a2 + 1)).le (Nat.le_of_ble_eq_true rfl)) ?_
                                generalize dz_M213 r1182 (a2 + 1) = r1183
                                refine q_RP_let ?_
                                show q_RP _ _ _ (434, [(0, .ref 64), (1, .int a1), (2, .int a2)], [.int r1183, .int 4, .ref 78], (q_kM r1182 c n)) _ _
                                refine q_RP_seg (g2 := (435, [(0, .ref 64), (1, .int a1), (2, .int a2)], [], (q_kM (q_sA r1182 14 (upd (r1182.1 14) 4 r1183)) c n))) 1 (fun _ _ => rfl) ?_
                                exact q_RP_ret rfl rfl rfl
                              | false =>
                                refine q_RP_cF ?_
                                cases h1360 : decide (a1 = 141) with
                                | true =>
                                  refine q_RP_cT ?_
                                  refine q_RP_st1 (g2 := (323, [(0, .ref 64), (1, .int a1), (2, .int a2)], [], (q_kM s c n))) rfl (by rw [of_decide_eq_true h1360]; rfl) ?_
                                  refine q_RP_seg (g2 := (325, [(0, .ref 64), (1, .int a1), (2, .int a2)], [.ref 64, .ref 64], (q_kM s c n))) 2 (fun _ _ => rfl) ?_
                                  refine q_RP_bd fun r1184 er1184 => ?_
                                  refine q_RP_call (v := (some (.int r1184.2))) (h2 := (q_kM r1184.1 c n)) rfl rfl ((dzt_M256_64 s c n r1184 er1184).le (Nat.le_of_ble_eq_true rfl)) ?_
                                  show q_RP _ _ _ (328, [(0, .ref 64), (1, .int a1), (2, .int a2)], [.int r1184.2, .ref 64], (q_kM r1184.1 c n)) _ _
                                  refine q_RP_call (v := none) (h2 := (q_kM (dz_M259_64 r1184.1 r1184.2) c n)) rfl rfl ((dzt_M259_64 r1184.1 c n r1184.2).le (Nat.le_of_ble_eq_true rfl)) ?_
                                  generalize dz_M259_64 r1184.1 r1184.2 = r1185
                                  refine q_RP_let ?_
                                  show q_RP _ _ _ (331, [(0, .ref 64), (1, .int a1), (2, .int a2)], [], (q_kM r1185 c n)) _ _
                                  refine q_RP_seg (g2 := (431, [(0, .ref 64), (1, .int a1), (2, .int a2)], [.int (a2 + 1), .int 4, .ref 78], (q_kM r1185 c n))) 7 (fun _ _ => rfl) ?_
                                  refine q_RP_call (v := (some (.int (dz_M213 r1185 (a2 + 1))))) (h2 := (q_kM r1185 c n)) rfl rfl ((dzt_M213 r1185 c n (a2 + 1)).le (Nat.le_of_ble_eq_true rfl)) ?_
                                  generalize dz_M213 r1185 (a2 + 1) = r1186
                                  refine q_RP_let ?_
                                  show q_RP _ _ _ (434, [(0, .ref 64), (1, .int a1), (2, .int a2)], [.int r1186, .int 4, .ref 78], (q_kM r1185 c n)) _ _
                                  refine q_RP_seg (g2 := (435, [(0, .ref 64), (1, .int a1), (2, .int a2)], [], (q_kM (q_sA r1185 14 (upd (r1185.1 14) 4 r1186)) c n))) 1 (fun _ _ => rfl) ?_
                                  exact q_RP_ret rfl rfl rfl
                                | false =>
                                  refine q_RP_cF ?_
                                  cases h1361 : decide (a1 = 142) with
                                  | true =>
                                    refine q_RP_cT ?_
                                    refine q_RP_st1 (g2 := (334, [(0, .ref 64), (1, .int a1), (2, .int a2)], [], (q_kM s c n))) rfl (by rw [of_decide_eq_true h1361]; rfl) ?_
                                    refine q_RP_seg (g2 := (431, [(0, .ref 64), (1, .int a1), (2, .int a2)], [.int (a2 + 1), .int 4, .ref 78], (q_kM (q_sA s 15 (upd (s.1 15) 5 (vp_nar .boolean 1))) c n))) 12 (fun _ _ => rfl) ?_
                                    refine q_RP_call (v := (some (.int (dz_M213 (q_sA s 15 (upd (s.1 15) 5 (vp_nar .boolean 1))) (a2 + 1))))) (h2 := (q_kM (q_sA s 15 (upd (s.1 15) 5 (vp_nar .boolean 1))) c n)) rfl rfl ((dzt_M213 (q_sA s 15 (upd (s.1 15) 5 (vp_nar .boolean 1))) c n (a2 + 1)).le (Nat.le_of_ble_eq_true rfl)) ?_
                                    generalize dz_M213 (q_sA s 15 (upd (s.1 15) 5 (vp_nar .boolean 1))) (a2 + 1) = r1187
                                    refine q_RP_let ?_
                                    show q_RP _ _ _ (434, [(0, .ref 64), (1, .int a1), (2, .int a2)], [.int r1187, .int 4, .ref 78], (q_kM (q_sA s 15 (upd (s.1 15) 5 (vp_nar .boolean 1))) c n)) _ _
                                    refine q_RP_seg (g2 := (435, [(0, .ref 64), (1, .int a1), (2, .int a2)], [], (q_kM (q_sA (q_sA s 15 (upd (s.1 15) 5 (vp_nar .boolean 1))) 14 (upd (s.1 14) 4 r1187)) c n))) 1 (fun _ _ => rfl) ?_
                                    exact q_RP_ret rfl rfl rfl
                                  | false =>
                                    refine q_RP_cF ?_
                                    cases h1362 : decide (a1 = 143) with
                                    | true =>
                                      refine q_RP_cT ?_
                                      refine q_RP_st1 (g2 := (344, [(0, .ref 64), (1, .int a1), (2, .int a2)], [], (q_kM s c n))) rfl (by rw [of_decide_eq_true h1362]; rfl) ?_
                                      refine q_RP_seg (g2 := (431, [(0, .ref 64), (1, .int a1), (2, .int a2)], [.int (a2 + 1), .int 4, .ref 78], (q_kM (q_sA s 15 (upd (s.1 15) 5 (vp_nar .boolean 0))) c n))) 12 (fun _ _ => rfl) ?_
                                      refine q_RP_call (v := (some (.int (dz_M213 (q_sA s 15 (upd (s.1 15) 5 (vp_nar .boolean 0))) (a2 + 1))))) (h2 := (q_kM (q_sA s 15 (upd (s.1 15) 5 (vp_nar .boolean 0))) c n)) rfl rfl ((dzt_M213 (q_sA s 15 (upd (s.1 15) 5 (vp_nar .boolean 0))) c n (a2 + 1)).le (Nat.le_of_ble_eq_true rfl)) ?_
                                      generalize dz_M213 (q_sA s 15 (upd (s.1 15) 5 (vp_nar .boolean 0))) (a2 + 1) = r1188
                                      refine q_RP_let ?_
                                      show q_RP _ _ _ (434, [(0, .ref 64), (1, .int a1), (2, .int a2)], [.int r1188, .int 4, .ref 78], (q_kM (q_sA s 15 (upd (s.1 15) 5 (vp_nar .boolean 0))) c n)) _ _
                                      refine q_RP_seg (g2 := (435, [(0, .ref 64), (1, .int a1), (2, .int a2)], [], (q_kM (q_sA (q_sA s 15 (upd (s.1 15) 5 (vp_nar .boolean 0))) 14 (upd (s.1 14) 4 r1188)) c n))) 1 (fun _ _ => rfl) ?_
                                      exact q_RP_ret rfl rfl rfl
                                    | false =>
                                      refine q_RP_cF ?_
                                      cases h1363 : decide (a1 = 144) with
                                      | true =>
                                        refine q_RP_cT ?_
                                        refine q_RP_st1 (g2 := (354, [(0, .ref 64), (1, .int a1), (2, .int a2)], [], (q_kM s c n))) rfl (by rw [of_decide_eq_true h1363]; rfl) ?_
                                        refine q_RP_seg (g2 := (431, [(0, .ref 64), (1, .int a1), (2, .int a2)], [.int (a2 + 1), .int 4, .ref 78], (q_kM (q_sA s 15 (upd (s.1 15) 2 (vp_nar .boolean 1))) c n))) 12 (fun _ _ => rfl) ?_
                                        refine q_RP_call (v := (some (.int (dz_M213 (q_sA s 15 (upd (s.1 15) 2 (vp_nar .boolean 1))) (a2 + 1))))) (h2 := (q_kM (q_sA s 15 (upd (s.1 15) 2 (vp_nar .boolean 1))) c n)) rfl rfl ((dzt_M213 (q_sA s 15 (upd (s.1 15) 2 (vp_nar .boolean 1))) c n (a2 + 1)).le (Nat.le_of_ble_eq_true rfl)) ?_
                                        generalize dz_M213 (q_sA s 15 (upd (s.1 15) 2 (vp_nar .boolean 1))) (a2 + 1) = r1189
                                        refine q_RP_let ?_
                                        show q_RP _ _ _ (434, [(0, .ref 64), (1, .int a1), (2, .int a2)], [.int r1189, .int 4, .ref 78], (q_kM (q_sA s 15 (upd (s.1 15) 2 (vp_nar .boolean 1))) c n)) _ _
                                        refine q_RP_seg (g2 := (435, [(0, .ref 64), (1, .int a1), (2, .int a2)], [], (q_kM (q_sA (q_sA s 15 (upd (s.1 15) 2 (vp_nar .boolean 1))) 14 (upd (s.1 14) 4 r1189)) c n))) 1 (fun _ _ => rfl) ?_
                                        exact q_RP_ret rfl rfl rfl
                                      | false =>
                                        refine q_RP_cF ?_
                                        cases h1364 : decide (a1 = 145) with
                                        | true =>
                                          refine q_RP_cT ?_
                                          refine q_RP_st1 (g2 := (364, [(0, .ref 64), (1, .int a1), (2, .int a2)], [], (q_kM s c n))) rfl (by rw [of_decide_eq_true h1364]; rfl) ?_
                                          refine q_RP_seg (g2 := (431, [(0, .ref 64), (1, .int a1), (2, .int a2)], [.int (a2 + 1), .int 4, .ref 78], (q_kM (q_sA s 15 (upd (s.1 15) 2 (vp_nar .boolean 0))) c n))) 12 (fun _ _ => rfl) ?_
                                          refine q_RP_call (v := (some (.int (dz_M213 (q_sA s 15 (upd (s.1 15) 2 (vp_nar .boolean 0))) (a2 + 1))))) (h2 := (q_kM (q_sA s 15 (upd (s.1 15) 2 (vp_nar .boolean 0))) c n)) rfl rfl ((dzt_M213 (q_sA s 15 (upd (s.1 15) 2 (vp_nar .boolean 0))) c n (a2 + 1)).le (Nat.le_of_ble_eq_true rfl)) ?_
                                          generalize dz_M213 (q_sA s 15 (upd (s.1 15) 2 (vp_nar .boolean 0))) (a2 + 1) = r1190
                                          refine q_RP_let ?_
                                          show q_RP _ _ _ (434, [(0, .ref 64), (1, .int a1), (2, .int a2)], [.int r1190, .int 4, .ref 78], (q_kM (q_sA s 15 (upd (s.1 15) 2 (vp_nar .boolean 0))) c n)) _ _
                                          refine q_RP_seg (g2 := (435, [(0, .ref 64), (1, .int a1), (2, .int a2)], [], (q_kM (q_sA (q_sA s 15 (upd (s.1 15) 2 (vp_nar .boolean 0))) 14 (upd (s.1 14) 4 r1190)) c n))) 1 (fun _ _ => rfl) ?_
                                          exact q_RP_ret rfl rfl rfl
                                        | false =>
                                          refine q_RP_cF ?_
                                          cases h1365 : decide (a1 = 146) with
                                          | true =>
                                            refine q_RP_cT ?_
                                            refine q_RP_st1 (g2 := (374, [(0, .ref 64), (1, .int a1), (2, .int a2)], [], (q_kM s c n))) rfl (by rw [of_decide_eq_true h1365]; rfl) ?_
                                            refine q_RP_seg (g2 := (431, [(0, .ref 64), (1, .int a1), (2, .int a2)], [.int (a2 + 1), .int 4, .ref 78], (q_kM (q_sA s 15 (upd (s.1 15) 3 (vp_nar .boolean 1))) c n))) 12 (fun _ _ => rfl) ?_
                                            refine q_RP_call (v := (some (.int (dz_M213 (q_sA s 15 (upd (s.1 15) 3 (vp_nar .boolean 1))) (a2 + 1))))) (h2 := (q_kM (q_sA s 15 (upd (s.1 15) 3 (vp_nar .boolean 1))) c n)) rfl rfl ((dzt_M213 (q_sA s 15 (upd (s.1 15) 3 (vp_nar .boolean 1))) c n (a2 + 1)).le (Nat.le_of_ble_eq_true rfl)) ?_
                                            generalize dz_M213 (q_sA s 15 (upd (s.1 15) 3 (vp_nar .boolean 1))) (a2 + 1) = r1191
                                            refine q_RP_let ?_
                                            show q_RP _ _ _ (434, [(0, .ref 64), (1, .int a1), (2, .int a2)], [.int r1191, .int 4, .ref 78], (q_kM (q_sA s 15 (upd (s.1 15) 3 (vp_nar .boolean 1))) c n)) _ _
                                            refine q_RP_seg (g2 := (435, [(0, .ref 64), (1, .int a1), (2, .int a2)], [], (q_kM (q_sA (q_sA s 15 (upd (s.1 15) 3 (vp_nar .boolean 1))) 14 (upd (s.1 14) 4 r1191)) c n))) 1 (fun _ _ => rfl) ?_
                                            exact q_RP_ret rfl rfl rfl
                                          | false =>
                                            refine q_RP_cF ?_
                                            cases h1366 : decide (a1 = 147) with
                                            | true =>
                                              refine q_RP_cT ?_
                                              refine q_RP_st1 (g2 := (384, [(0, .ref 64), (1, .int a1), (2, .int a2)], [], (q_kM s c n))) rfl (by rw [of_decide_eq_true h1366]; rfl) ?_
                                              refine q_RP_seg (g2 := (431, [(0, .ref 64), (1, .int a1), (2, .int a2)], [.int (a2 + 1), .int 4, .ref 78], (q_kM (q_sA s 15 (upd (s.1 15) 3 (vp_nar .boolean 0))) c n))) 12 (fun _ _ => rfl) ?_
                                              refine q_RP_call (v := (some (.int (dz_M213 (q_sA s 15 (upd (s.1 15) 3 (vp_nar .boolean 0))) (a2 + 1))))) (h2 := (q_kM (q_sA s 15 (upd (s.1 15) 3 (vp_nar .boolean 0))) c n)) rfl rfl ((dzt_M213 (q_sA s 15 (upd (s.1 15) 3 (vp_nar .boolean 0))) c n (a2 + 1)).le (Nat.le_of_ble_eq_true rfl)) ?_
                                              generalize dz_M213 (q_sA s 15 (upd (s.1 15) 3 (vp_nar .boolean 0))) (a2 + 1) = r1192
                                              refine q_RP_let ?_
                                              show q_RP _ _ _ (434, [(0, .ref 64), (1, .int a1), (2, .int a2)], [.int r1192, .int 4, .ref 78], (q_kM (q_sA s 15 (upd (s.1 15) 3 (vp_nar .boolean 0))) c n)) _ _
                                              refine q_RP_seg (g2 := (435, [(0, .ref 64), (1, .int a1), (2, .int a2)], [], (q_kM (q_sA (q_sA s 15 (upd (s.1 15) 3 (vp_nar .boolean 0))) 14 (upd (s.1 14) 4 r1192)) c n))) 1 (fun _ _ => rfl) ?_
                                              exact q_RP_ret rfl rfl rfl
                                            | false =>
                                              refine q_RP_cF ?_
                                              cases h1367 : decide (a1 = 148) with
                                              | true =>
                                                refine q_RP_cT ?_
                                                refine q_RP_st1 (g2 := (394, [(0, .ref 64), (1, .int a1), (2, .int a2)], [], (q_kM s c n))) rfl (by rw [of_decide_eq_true h1367]; rfl) ?_
                                                refine q_RP_seg (g2 := (431, [(0, .ref 64), (1, .int a1), (2, .int a2)], [.int (a2 + 1), .int 4, .ref 78], (q_kM (q_sA s 15 (upd (s.1 15) 1 (vp_nar .boolean 0))) c n))) 12 (fun _ _ => rfl) ?_
                                                refine q_RP_call (v := (some (.int (dz_M213 (q_sA s 15 (upd (s.1 15) 1 (vp_nar .boolean 0))) (a2 + 1))))) (h2 := (q_kM (q_sA s 15 (upd (s.1 15) 1 (vp_nar .boolean 0))) c n)) rfl rfl ((dzt_M213 (q_sA s 15 (upd (s.1 15) 1 (vp_nar .boolean 0))) c n (a2 + 1)).le (Nat.le_of_ble_eq_true rfl)) ?_
                                                generalize dz_M213 (q_sA s 15 (upd (s.1 15) 1 (vp_nar .boolean 0))) (a2 + 1) = r1193
                                                refine q_RP_let ?_
                                                show q_RP _ _ _ (434, [(0, .ref 64), (1, .int a1), (2, .int a2)], [.int r1193, .int 4, .ref 78], (q_kM (q_sA s 15 (upd (s.1 15) 1 (vp_nar .boolean 0))) c n)) _ _
                                                refine q_RP_seg (g2 := (435, [(0, .ref 64), (1, .int a1), (2, .int a2)], [], (q_kM (q_sA (q_sA s 15 (upd (s.1 15) 1 (vp_nar .boolean 0))) 14 (upd (s.1 14) 4 r1193)) c n))) 1 (fun _ _ => rfl) ?_
                                                exact q_RP_ret rfl rfl rfl
                                              | false =>
                                                refine q_RP_cF ?_
                                                cases h1368 : decide (a1 = 149) with
                                                | true =>
                                                  refine q_RP_cT ?_
                                                  refine q_RP_st1 (g2 := (404, [(0, .ref 64), (1, .int a1), (2, .int a2)], [], (q_kM s c n))) rfl (by rw [of_decide_eq_true h1368]; rfl) ?_
                                                  refine q_RP_seg (g2 := (431, [(0, .ref 64), (1, .int a1), (2, .int a2)], [.int (a2 + 1), .int 4, .ref 78], (q_kM s c n))) 7 (fun _ _ => rfl) ?_
                                                  refine q_RP_call (v := (some (.int (dz_M213 s (a2 + 1))))) (h2 := (q_kM s c n)) rfl rfl ((dzt_M213 s c n (a2 + 1)).le (Nat.le_of_ble_eq_true rfl)) ?_
                                                  generalize dz_M213 s (a2 + 1) = r1194
                                                  refine q_RP_let ?_
                                                  show q_RP _ _ _ (434, [(0, .ref 64), (1, .int a1), (2, .int a2)], [.int r1194, .int 4, .ref 78], (q_kM s c n)) _ _
                                                  refine q_RP_seg (g2 := (435, [(0, .ref 64), (1, .int a1), (2, .int a2)], [], (q_kM (q_sA s 14 (upd (s.1 14) 4 r1194)) c n))) 1 (fun _ _ => rfl) ?_
                                                  exact q_RP_ret rfl rfl rfl
                                                | false =>
                                                  refine q_RP_cF ?_
                                                  cases h1369 : decide (a1 = 150) with
                                                  | true =>
                                                    refine q_RP_cT ?_
                                                    refine q_RP_st1 (g2 := (407, [(0, .ref 64), (1, .int a1), (2, .int a2)], [], (q_kM s c n))) rfl (by rw [of_decide_eq_true h1369]; rfl) ?_
                                                    refine q_RP_seg (g2 := (409, [(0, .ref 64), (1, .int a1), (2, .int a2)], [.int a1, .ref 64], (q_kM s c n))) 2 (fun _ _ => rfl) ?_
                                                    refine q_RP_bd fun r1215 er1215 => ?_
                                                    refine q_RP_call (v := none) (h2 := (q_kM r1215 c n)) rfl rfl ((dzt_M272_64 s c n a1 r1215 er1215).le (Nat.le_of_ble_eq_true rfl)) ?_
                                                    show q_RP _ _ _ (412, [(0, .ref 64), (1, .int a1), (2, .int a2)], [], (q_kM r1215 c n)) _ _
                                                    refine q_RP_seg (g2 := (431, [(0, .ref 64), (1, .int a1), (2, .int a2)], [.int (a2 + 1), .int 4, .ref 78], (q_kM r1215 c n))) 7 (fun _ _ => rfl) ?_
                                                    refine q_RP_call (v := (some (.int (dz_M213 r1215 (a2 + 1))))) (h2 := (q_kM r1215 c n)) rfl rfl ((dzt_M213 r1215 c n (a2 + 1)).le (Nat.le_of_ble_eq_true rfl)) ?_
                                                    generalize dz_M213 r1215 (a2 + 1) = r1216
                                                    refine q_RP_let ?_
                                                    show q_RP _ _ _ (434, [(0, .ref 64), (1, .int a1), (2, .int a2)], [.int r1216, .int 4, .ref 78], (q_kM r1215 c n)) _ _
                                                    refine q_RP_seg (g2 := (435, [(0, .ref 64), (1, .int a1), (2, .int a2)], [], (q_kM (q_sA r1215 14 (upd (r1215.1 14) 4 r1216)) c n))) 1 (fun _ _ => rfl) ?_
                                                    exact q_RP_ret rfl rfl rfl
                                                  | false =>
                                                    refine q_RP_cF ?_
                                                    cases h1385 : decide (a1 = 151) with
                                                    | true =>
                                                      refine q_RP_cT ?_
                                                      refine q_RP_st1 (g2 := (407, [(0, .ref 64), (1, .int a1), (2, .int a2)], [], (q_kM s c n))) rfl (by rw [of_decide_eq_true h1385]; rfl) ?_
                                                      refine q_RP_seg (g2 := (409, [(0, .ref 64), (1, .int a1), (2, .int a2)], [.int a1, .ref 64], (q_kM s c n))) 2 (fun _ _ => rfl) ?_
                                                      refine q_RP_bd fun r1217 er1217 => ?_
                                                      refine q_RP_call (v := none) (h2 := (q_kM r1217 c n)) rfl rfl ((dzt_M272_64 s c n a1 r1217 er1217).le (Nat.le_of_ble_eq_true rfl)) ?_
                                                      show q_RP _ _ _ (412, [(0, .ref 64), (1, .int a1), (2, .int a2)], [], (q_kM r1217 c n)) _ _
                                                      refine q_RP_seg (g2 := (431, [(0, .ref 64), (1, .int a1), (2, .int a2)], [.int (a2 + 1), .int 4, .ref 78], (q_kM r1217 c n))) 7 (fun _ _ => rfl) ?_
                                                      refine q_RP_call (v := (some (.int (dz_M213 r1217 (a2 + 1))))) (h2 := (q_kM r1217 c n)) rfl rfl ((dzt_M213 r1217 c n (a2 + 1)).le (Nat.le_of_ble_eq_true rfl)) ?_
                                                      generalize dz_M213 r1217 (a2 + 1) = r1218
                                                      refine q_RP_let ?_
                                                      show q_RP _ _ _ (434, [(0, .ref 64), (1, .int a1), (2, .int a2)], [.int r1218, .int 4, .ref 78], (q_kM r1217 c n)) _ _
                                                      refine q_RP_seg (g2 := (435, [(0, .ref 64), (1, .int a1), (2, .int a2)], [], (q_kM (q_sA r1217 14 (upd (r1217.1 14) 4 r1218)) c n))) 1 (fun _ _ => rfl) ?_
                                                      exact q_RP_ret rfl rfl rfl
                                                    | false =>
                                                      refine q_RP_cF ?_
                                                      cases h1386 : decide (a1 = 152) with
                                                      | true =>
                                                        refine q_RP_cT ?_
                                                        refine q_RP_st1 (g2 := (407, [(0, .ref 64), (1, .int a1), (2, .int a2)], [], (q_kM s c n))) rfl (by rw [of_decide_eq_true h1386]; rfl) ?_
                                                        refine q_RP_seg (g2 := (409, [(0, .ref 64), (1, .int a1), (2, .int a2)], [.int a1, .ref 64], (q_kM s c n))) 2 (fun _ _ => rfl) ?_
                                                        refine q_RP_bd fun r1219 er1219 => ?_
                                                        refine q_RP_call (v := none) (h2 := (q_kM r1219 c n)) rfl rfl ((dzt_M272_64 s c n a1 r1219 er1219).le (Nat.le_of_ble_eq_true rfl)) ?_
                                                        show q_RP _ _ _ (412, [(0, .ref 64), (1, .int a1), (2, .int a2)], [], (q_kM r1219 c n)) _ _
                                                        refine q_RP_seg (g2 := (431, [(0, .ref 64), (1, .int a1), (2, .int a2)], [.int (a2 + 1), .int 4, .ref 78], (q_kM r1219 c n))) 7 (fun _ _ => rfl) ?_
                                                        refine q_RP_call (v := (some (.int (dz_M213 r1219 (a2 + 1))))) (h2 := (q_kM r1219 c n)) rfl rfl ((dzt_M213 r1219 c n (a2 + 1)).le (Nat.le_of_ble_eq_true rfl)) ?_
                                                        generalize dz_M213 r1219 (a2 + 1) = r1220
                                                        refine q_RP_let ?_
                                                        show q_RP _ _ _ (434, [(0, .ref 64), (1, .int a1), (2, .int a2)], [.int r1220, .int 4, .ref 78], (q_kM r1219 c n)) _ _
                                                        refine q_RP_seg (g2 := (435, [(0, .ref 64), (1, .int a1), (2, .int a2)], [], (q_kM (q_sA r1219 14 (upd (r1219.1 14) 4 r1220)) c n))) 1 (fun _ _ => rfl) ?_
                                                        exact q_RP_ret rfl rfl rfl
                                                      | false =>
                                                        refine q_RP_cF ?_
                                                        have h1387 : a1 = 153 := Int32.toInt_inj.mp (by have e0 := q_neI h1347 (n := 128); have e1 := q_neI h1348 (n := 129); have e2 := q_neI h1349 (n := 130); have e3 := q_neI h1350 (n := 131); have e4 := q_neI h1351 (n := 132); have e5 := q_neI h1352 (n := 133); have e6 := q_neI h1353 (n := 134); have e7 := q_neI h1354 (n := 135); have e8 := q_neI h1355 (n := 136); have e9 := q_neI h1356 (n := 137); have e10 := q_neI h1357 (n := 138); have e11 := q_neI h1358 (n := 139); have e12 := q_neI h1359 (n := 140); have e13 := q_neI h1360 (n := 141); have e14 := q_neI h1361 (n := 142); have e15 := q_neI h1362 (n := 143); have e16 := q_neI h1363 (n := 144); have e17 := q_neI h1364 (n := 145); have e18 := q_neI h1365 (n := 146); have e19 := q_neI h1366 (n := 147); have e20 := q_neI h1367 (n := 148); have e21 := q_neI h1368 (n := 149); have e22 := q_neI h1369 (n := 150); have e23 := q_neI h1385 (n := 151); have e24 := q_neI h1386 (n := 152); have l1 : 128 ≤ (a1).toInt := q_lo1 h1345; have l2 : (a1).toInt ≤ 153 := q_hi2 h1346; show (a1).toInt = 153; omega)
                                                        refine q_RP_st1 (g2 := (407, [(0, .ref 64), (1, .int a1), (2, .int a2)], [], (q_kM s c n))) rfl (by rw [h1387]; rfl) ?_
                                                        refine q_RP_seg (g2 := (409, [(0, .ref 64), (1, .int a1), (2, .int a2)], [.int a1, .ref 64], (q_kM s c n))) 2 (fun _ _ => rfl) ?_
                                                        refine q_RP_bd fun r1221 er1221 => ?_
                                                        refine q_RP_call (v := none) (h2 := (q_kM r1221 c n)) rfl rfl ((dzt_M272_64 s c n a1 r1221 er1221).le (Nat.le_of_ble_eq_true rfl)) ?_
                                                        show q_RP _ _ _ (412, [(0, .ref 64), (1, .int a1), (2, .int a2)], [], (q_kM r1221 c n)) _ _
                                                        refine q_RP_seg (g2 := (431, [(0, .ref 64), (1, .int a1), (2, .int a2)], [.int (a2 + 1), .int 4, .ref 78], (q_kM r1221 c n))) 7 (fun _ _ => rfl) ?_
                                                        refine q_RP_call (v := (some (.int (dz_M213 r1221 (a2 + 1))))) (h2 := (q_kM r1221 c n)) rfl rfl ((dzt_M213 r1221 c n (a2 + 1)).le (Nat.le_of_ble_eq_true rfl)) ?_
                                                        generalize dz_M213 r1221 (a2 + 1) = r1222
                                                        refine q_RP_let ?_
                                                        show q_RP _ _ _ (434, [(0, .ref 64), (1, .int a1), (2, .int a2)], [.int r1222, .int 4, .ref 78], (q_kM r1221 c n)) _ _
                                                        refine q_RP_seg (g2 := (435, [(0, .ref 64), (1, .int a1), (2, .int a2)], [], (q_kM (q_sA r1221 14 (upd (r1221.1 14) 4 r1222)) c n))) 1 (fun _ _ => rfl) ?_
                                                        exact q_RP_ret rfl rfl rfl
def dz_M246 (s : q_S) (a0 : Int32) : Int32 :=
  q_let (dz_M244 s a0) fun r1224 => cond (decide (r1224 < 0)) (q_let (dz_M202 s a0 157 159) fun r1225 => cond r1225 (3) (q_let (dz_M202 s a0 160 167) fun r1226 => cond r1226 (2) (1))) (q_let (dz_M202 s (a0 - a0 / 8 * 8) 3 5) fun r1227 => cond r1227 (3) (2))
set_option maxHeartbeats 4000000 in
theorem dzt_M246 (s : q_S) (c n : Nat) (a0 : Int32) : q_Ca q_TB0 3 245 [.int a0] (q_kM s c n) ((q_oP (q_kM s c n)) (dz_M246 s a0)) := by
  refine q_CaT_of (φ := (q_oP (q_kM s c n))) (Nat.le_of_ble_eq_true rfl) ?_
  unfold dz_M246
  refine q_RT_seg (g2 := (1, [(0, .int a0)], [.int a0], (q_kM s c n))) 1 (fun _ _ => rfl) ?_
  refine q_RT_call (v := (some (.int (dz_M244 s a0)))) (h2 := (q_kM s c n)) rfl rfl ((dzt_M244 s c n a0).le (Nat.le_of_ble_eq_true rfl)) ?_
  generalize dz_M244 s a0 = r1224
  refine q_RT_let ?_
  show q_RT _ _ _ (4, [(0, .int a0)], [.int r1224], (q_kM s c n)) _ _
  refine q_RT_seg (g2 := (6, [(1, .int r1224), (0, .int a0)], [.int r1224], (q_kM s c n))) 2 (fun _ _ => rfl) ?_
  cases h1388 : decide (r1224 < 0) with
  | true =>
    refine q_RT_cT ?_
    refine q_RT_rsT (g2 := (27, [(1, .int r1224), (0, .int a0)], [], (q_kM s c n))) rfl rfl h1388 ?_
    refine q_RT_seg (g2 := (34, [(1, .int r1224), (0, .int a0)], [.int 159, .int 157, .int a0], (q_kM s c n))) 3 (fun _ _ => rfl) ?_
    refine q_RT_call (v := (some (.int (q_b (dz_M202 s a0 157 159))))) (h2 := (q_kM s c n)) rfl rfl ((dzt_M202 s c n a0 157 159).le (Nat.le_of_ble_eq_true rfl)) ?_
    generalize dz_M202 s a0 157 159 = r1225
    refine q_RT_let ?_
    show q_RT _ _ _ (37, [(1, .int r1224), (0, .int a0)], [.int (q_b r1225)], (q_kM s c n)) _ _
    cases h1389 : r1225 with
    | true =>
      refine q_RT_cT ?_
      show q_RT _ _ _ (37, [(1, .int r1224), (0, .int a0)], [.int 1], (q_kM s c n)) _ _
      refine q_RT_seg (g2 := (41, [(1, .int r1224), (0, .int a0)], [.int 3], (q_kM s c n))) 2 (fun _ _ => rfl) ?_
      exact q_RT_ret rfl rfl rfl
    | false =>
      refine q_RT_cF ?_
      show q_RT _ _ _ (37, [(1, .int r1224), (0, .int a0)], [.int 0], (q_kM s c n)) _ _
      refine q_RT_seg (g2 := (49, [(1, .int r1224), (0, .int a0)], [.int 167, .int 160, .int a0], (q_kM s c n))) 4 (fun _ _ => rfl) ?_
      refine q_RT_call (v := (some (.int (q_b (dz_M202 s a0 160 167))))) (h2 := (q_kM s c n)) rfl rfl ((dzt_M202 s c n a0 160 167).le (Nat.le_of_ble_eq_true rfl)) ?_
      generalize dz_M202 s a0 160 167 = r1226
      refine q_RT_let ?_
      show q_RT _ _ _ (52, [(1, .int r1224), (0, .int a0)], [.int (q_b r1226)], (q_kM s c n)) _ _
      cases h1390 : r1226 with
      | true =>
        refine q_RT_cT ?_
        show q_RT _ _ _ (52, [(1, .int r1224), (0, .int a0)], [.int 1], (q_kM s c n)) _ _
        refine q_RT_seg (g2 := (60, [(1, .int r1224), (0, .int a0)], [.int 2], (q_kM s c n))) 3 (fun _ _ => rfl) ?_
        exact q_RT_ret rfl rfl rfl
      | false =>
        refine q_RT_cF ?_
        show q_RT _ _ _ (52, [(1, .int r1224), (0, .int a0)], [.int 0], (q_kM s c n)) _ _
        refine q_RT_seg (g2 := (60, [(1, .int r1224), (0, .int a0)], [.int 1], (q_kM s c n))) 2 (fun _ _ => rfl) ?_
        exact q_RT_ret rfl rfl rfl
  | false =>
    refine q_RT_cF ?_
    refine q_RT_rsF (g2 := (9, [(1, .int r1224), (0, .int a0)], [], (q_kM s c n))) rfl rfl h1388 ?_
    refine q_RT_seg (g2 := (15, [(1, .int r1224), (0, .int a0)], [.int 5, .int 3, .int (a0 - a0 / 8 * 8)], (q_kM s c n))) 5 (fun _ _ => rfl) ?_
    refine q_RT_call (v := (some (.int (q_b (dz_M202 s (a0 - a0 / 8 * 8) 3 5))))) (h2 := (q_kM s c n)) rfl rfl ((dzt_M202 s c n (a0 - a0 / 8 * 8) 3 5).le (Nat.le_of_ble_eq_true rfl)) ?_
    generalize dz_M202 s (a0 - a0 / 8 * 8) 3 5 = r1227
    refine q_RT_let ?_
    show q_RT _ _ _ (18, [(1, .int r1224), (0, .int a0)], [.int (q_b r1227)], (q_kM s c n)) _ _
    cases h1391 : r1227 with
    | true =>
      refine q_RT_cT ?_
      show q_RT _ _ _ (18, [(1, .int r1224), (0, .int a0)], [.int 1], (q_kM s c n)) _ _
      refine q_RT_seg (g2 := (26, [(1, .int r1224), (0, .int a0)], [.int 3], (q_kM s c n))) 3 (fun _ _ => rfl) ?_
      exact q_RT_ret rfl rfl rfl
    | false =>
      refine q_RT_cF ?_
      show q_RT _ _ _ (18, [(1, .int r1224), (0, .int a0)], [.int 0], (q_kM s c n)) _ _
      refine q_RT_seg (g2 := (26, [(1, .int r1224), (0, .int a0)], [.int 2], (q_kM s c n))) 2 (fun _ _ => rfl) ?_
      exact q_RT_ret rfl rfl rfl
def dz_M263_64 (s : q_S) (a1 : Int32) (a2 : Int32) : Option (q_S) :=
  cond (q_in a1 24) (cond (decide ((s.1 14) (a1.toNatClampNeg) < a2)) (q_let (dz_M261_64 (q_sA s 15 (upd (s.1 15) 5 (vp_nar .boolean 0))) ((((s.1 14) (a1.toNatClampNeg)) - a2) &&& 255)) fun r1239 => some r1239.1) (q_let (dz_M261_64 (q_sA s 15 (upd (s.1 15) 5 (vp_nar .boolean 1))) ((((s.1 14) (a1.toNatClampNeg)) - a2) &&& 255)) fun r1240 => some r1240.1)) none
set_option maxHeartbeats 4000000 in
theorem dzt_M263_64 (s : q_S) (c n : Nat) (a1 : Int32) (a2 : Int32) (x : q_S) (h : dz_M263_64 s a1 a2 = some x) : q_Ca q_TB0 2 262 [.ref 64, .int a1, .int a2] (q_kM s c n) ((q_oSM c n) x) := by
  refine q_CaP_of (φ := (q_oSM c n)) (Nat.le_of_ble_eq_true rfl) ?_ h
  clear h
  unfold dz_M263_64
  refine q_RP_seg (g2 := (10, [(0, .ref 64), (1, .int a1), (2, .int a2)], [.int a1, .ref 78, .int 5, .ref 79], (q_kM s c n))) 6 (fun _ _ => rfl) ?_
  refine q_RP_as fun i1406 => ?_
  refine q_RP_rsT (g2 := (11, [(0, .ref 64), (1, .int a1), (2, .int a2)], [.int ((s.1 14) (a1.toNatClampNeg)), .int 5, .ref 79], (q_kM s c n))) rfl rfl i1406 ?_
  refine q_RP_seg (g2 := (12, [(0, .ref 64), (1, .int a1), (2, .int a2)], [.int a2, .int ((s.1 14) (a1.toNatClampNeg)), .int 5, .ref 79], (q_kM s c n))) 1 (fun _ _ => rfl) ?_
  cases h1407 : decide ((s.1 14) (a1.toNatClampNeg) < a2) with
  | true =>
    refine q_RP_cT ?_
    refine q_RP_rsT (g2 := (19, [(0, .ref 64), (1, .int a1), (2, .int a2)], [.int 5, .ref 79], (q_kM s c n))) rfl rfl h1407 ?_
    refine q_RP_seg (g2 := (27, [(0, .ref 64), (1, .int a1), (2, .int a2)], [.int a1, .ref 78, .ref 64], (q_kM (q_sA s 15 (upd (s.1 15) 5 (vp_nar .boolean 0))) c n))) 6 (fun _ _ => rfl) ?_
    refine q_RP_rsT (g2 := (28, [(0, .ref 64), (1, .int a1), (2, .int a2)], [.int ((s.1 14) (a1.toNatClampNeg)), .ref 64], (q_kM (q_sA s 15 (upd (s.1 15) 5 (vp_nar .boolean 0))) c n))) rfl rfl i1406 ?_
    refine q_RP_seg (g2 := (34, [(0, .ref 64), (1, .int a1), (2, .int a2)], [.int ((((s.1 14) (a1.toNatClampNeg)) - a2) &&& 255), .ref 64], (q_kM (q_sA s 15 (upd (s.1 15) 5 (vp_nar .boolean 0))) c n))) 4 (fun _ _ => rfl) ?_
    refine q_RP_call (v := (some (.int (dz_M261_64 (q_sA s 15 (upd (s.1 15) 5 (vp_nar .boolean 0))) ((((s.1 14) (a1.toNatClampNeg)) - a2) &&& 255)).2))) (h2 := (q_kM (dz_M261_64 (q_sA s 15 (upd (s.1 15) 5 (vp_nar .boolean 0))) ((((s.1 14) (a1.toNatClampNeg)) - a2) &&& 255)).1 c n)) rfl rfl ((dzt_M261_64 (q_sA s 15 (upd (s.1 15) 5 (vp_nar .boolean 0))) c n ((((s.1 14) (a1.toNatClampNeg)) - a2) &&& 255)).le (Nat.le_of_ble_eq_true rfl)) ?_
    generalize dz_M261_64 (q_sA s 15 (upd (s.1 15) 5 (vp_nar .boolean 0))) ((((s.1 14) (a1.toNatClampNeg)) - a2) &&& 255) = r1239
    refine q_RP_let ?_
    show q_RP _ _ _ (37, [(0, .ref 64), (1, .int a1), (2, .int a2)], [.int r1239.2], (q_kM r1239.1 c n)) _ _
    refine q_RP_seg (g2 := (38, [(0, .ref 64), (1, .int a1), (2, .int a2)], [], (q_kM r1239.1 c n))) 1 (fun _ _ => rfl) ?_
    exact q_RP_ret rfl rfl rfl
  | false =>
    refine q_RP_cF ?_
    refine q_RP_rsF (g2 := (15, [(0, .ref 64), (1, .int a1), (2, .int a2)], [.int 5, .ref 79], (q_kM s c n))) rfl rfl h1407 ?_
    refine q_RP_seg (g2 := (27, [(0, .ref 64), (1, .int a1), (2, .int a2)], [.int a1, .ref 78, .ref 64], (q_kM (q_sA s 15 (upd (s.1 15) 5 (vp_nar .boolean 1))) c n))) 7 (fun _ _ => rfl) ?_
    refine q_RP_rsT (g2 := (28, [(0, .ref 64), (1, .int a1), (2, .int a2)], [.int ((s.1 14) (a1.toNatClampNeg)), .ref 64], (q_kM (q_sA s 15 (upd (s.1 15) 5 (vp_nar .boolean 1))) c n))) rfl rfl i1406 ?_
    refine q_RP_seg (g2 := (34, [(0, .ref 64), (1, .int a1), (2, .int a2)], [.int ((((s.1 14) (a1.toNatClampNeg)) - a2) &&& 255), .ref 64], (q_kM (q_sA s 15 (upd (s.1 15) 5 (vp_nar .boolean 1))) c n))) 4 (fun _ _ => rfl) ?_
    refine q_RP_call (v := (some (.int (dz_M261_64 (q_sA s 15 (upd (s.1 15) 5 (vp_nar .boolean 1))) ((((s.1 14) (a1.toNatClampNeg)) - a2) &&& 255)).2))) (h2 := (q_kM (dz_M261_64 (q_sA s 15 (upd (s.1 15) 5 (vp_nar .boolean 1))) ((((s.1 14) (a1.toNatClampNeg)) - a2) &&& 255)).1 c n)) rfl rfl ((dzt_M261_64 (q_sA s 15 (upd (s.1 15) 5 (vp_nar .boolean 1))) c n ((((s.1 14) (a1.toNatClampNeg)) - a2) &&& 255)).le (Nat.le_of_ble_eq_true rfl)) ?_
    generalize dz_M261_64 (q_sA s 15 (upd (s.1 15) 5 (vp_nar .boolean 1))) ((((s.1 14) (a1.toNatClampNeg)) - a2) &&& 255) = r1240
    refine q_RP_let ?_
    show q_RP _ _ _ (37, [(0, .ref 64), (1, .int a1), (2, .int a2)], [.int r1240.2], (q_kM r1240.1 c n)) _ _
    refine q_RP_seg (g2 := (38, [(0, .ref 64), (1, .int a1), (2, .int a2)], [], (q_kM r1240.1 c n))) 1 (fun _ _ => rfl) ?_
    exact q_RP_ret rfl rfl rfl
def dz_M264_64 (s : q_S) (a1 : Int32) : Option (q_S) :=
  (dz_M257_64 s 5 1).bind fun r1245 => cond (decide (((((s.1 14) 0) ^^^ ((((s.1 14) 0) + a1) + r1245)) &&& (a1 ^^^ ((((s.1 14) 0) + a1) + r1245))) &&& 128 = 0)) (cond (decide (255 < (((s.1 14) 0) + a1) + r1245)) (q_let ((q_sA s 15 (upd (s.1 15) 1 (vp_nar .boolean 0)))) fun r1246 => some (q_sA (q_sA r1246 15 (upd (r1246.1 15) 5 (vp_nar .boolean 1))) 14 (upd (r1246.1 14) 0 (((((s.1 14) 0) + a1) + r1245) - ((((s.1 14) 0) + a1) + r1245) / 256 * 256)))) (q_let ((q_sA s 15 (upd (s.1 15) 1 (vp_nar .boolean 0)))) fun r1247 => some (q_sA (q_sA r1247 15 (upd (r1247.1 15) 5 (vp_nar .boolean 0))) 14 (upd (r1247.1 14) 0 (((((s.1 14) 0) + a1) + r1245) - ((((s.1 14) 0) + a1) + r1245) / 256 * 256))))) (cond (decide (255 < (((s.1 14) 0) + a1) + r1245)) (q_let ((q_sA s 15 (upd (s.1 15) 1 (vp_nar .boolean 1)))) fun r1248 => some (q_sA (q_sA r1248 15 (upd (r1248.1 15) 5 (vp_nar .boolean 1))) 14 (upd (r1248.1 14) 0 (((((s.1 14) 0) + a1) + r1245) - ((((s.1 14) 0) + a1) + r1245) / 256 * 256)))) (q_let ((q_sA s 15 (upd (s.1 15) 1 (vp_nar .boolean 1)))) fun r1249 => some (q_sA (q_sA r1249 15 (upd (r1249.1 15) 5 (vp_nar .boolean 0))) 14 (upd (r1249.1 14) 0 (((((s.1 14) 0) + a1) + r1245) - ((((s.1 14) 0) + a1) + r1245) / 256 * 256)))))
set_option maxHeartbeats 4000000 in
theorem dzt_M264_64 (s : q_S) (c n : Nat) (a1 : Int32) (x : q_S) (h : dz_M264_64 s a1 = some x) : q_Ca q_TB0 2 263 [.ref 64, .int a1] (q_kM s c n) ((q_oSM c n) x) := by
  refine q_CaP_of (φ := (q_oSM c n)) (Nat.le_of_ble_eq_true rfl) ?_ h
  clear h
  unfold dz_M264_64
  refine q_RP_seg (g2 := (6, [(0, .ref 64), (1, .int a1)], [.int ((s.1 14) 0)], (q_kM s c n))) 4 (fun _ _ => rfl) ?_
  refine q_RP_seg (g2 := (11, [(0, .ref 64), (1, .int a1)], [.int 1, .int 5, .ref 64, .int (((s.1 14) 0) + a1)], (q_kM s c n))) 5 (fun _ _ => rfl) ?_
  refine q_RP_bd fun r1245 er1245 => ?_
  refine q_RP_call (v := (some (.int r1245))) (h2 := (q_kM s c n)) rfl rfl ((dzt_M257_64 s c n 5 1 r1245 er1245).le (Nat.le_of_ble_eq_true rfl)) ?_
  show q_RP _ _ _ (14, [(0, .ref 64), (1, .int a1)], [.int r1245, .int (((s.1 14) 0) + a1)], (q_kM s c n)) _ _
  refine q_RP_seg (g2 := (27, [(2, .int ((((s.1 14) 0) + a1) + r1245)), (0, .ref 64), (1, .int a1)], [.int ((s.1 14) 0), .int 1, .ref 79], (q_kM s c n))) 9 (fun _ _ => rfl) ?_
  refine q_RP_seg (g2 := (37, [(2, .int ((((s.1 14) 0) + a1) + r1245)), (0, .ref 64), (1, .int a1)], [.int (((((s.1 14) 0) ^^^ ((((s.1 14) 0) + a1) + r1245)) &&& (a1 ^^^ ((((s.1 14) 0) + a1) + r1245))) &&& 128), .int 1, .ref 79], (q_kM s c n))) 8 (fun _ _ => rfl) ?_
  cases h1409 : decide (((((s.1 14) 0) ^^^ ((((s.1 14) 0) + a1) + r1245)) &&& (a1 ^^^ ((((s.1 14) 0) + a1) + r1245))) &&& 128 = 0) with
  | true =>
    refine q_RP_cT ?_
    refine q_RP_rsT (g2 := (44, [(2, .int ((((s.1 14) 0) + a1) + r1245)), (0, .ref 64), (1, .int a1)], [.int 1, .ref 79], (q_kM s c n))) rfl rfl h1409 ?_
    refine q_RP_seg (g2 := (55, [(2, .int ((((s.1 14) 0) + a1) + r1245)), (0, .ref 64), (1, .int a1)], [.int 255, .int ((((s.1 14) 0) + a1) + r1245), .int 5, .ref 79], (q_kM (q_sA s 15 (upd (s.1 15) 1 (vp_nar .boolean 0))) c n))) 7 (fun _ _ => rfl) ?_
    cases h1410 : decide (255 < (((s.1 14) 0) + a1) + r1245) with
    | true =>
      refine q_RP_cT ?_
      refine q_RP_rsF (g2 := (58, [(2, .int ((((s.1 14) 0) + a1) + r1245)), (0, .ref 64), (1, .int a1)], [.int 5, .ref 79], (q_kM (q_sA s 15 (upd (s.1 15) 1 (vp_nar .boolean 0))) c n))) rfl rfl (q_d_geT h1410) ?_
      refine q_RP_seg (g2 := (63, [(2, .int ((((s.1 14) 0) + a1) + r1245)), (0, .ref 64), (1, .int a1)], [.int 1, .int 5, .ref 79], (q_kM (q_sA s 15 (upd (s.1 15) 1 (vp_nar .boolean 0))) c n))) 2 (fun _ _ => rfl) ?_
      generalize (q_sA s 15 (upd (s.1 15) 1 (vp_nar .boolean 0))) = r1246
      refine q_RP_let ?_
      show q_RP _ _ _ (63, [(2, .int ((((s.1 14) 0) + a1) + r1245)), (0, .ref 64), (1, .int a1)], [.int 1, .int 5, .ref 79], (q_kM r1246 c n)) _ _
      refine q_RP_seg (g2 := (75, [(2, .int ((((s.1 14) 0) + a1) + r1245)), (0, .ref 64), (1, .int a1)], [], (q_kM (q_sA (q_sA r1246 15 (upd (r1246.1 15) 5 (vp_nar .boolean 1))) 14 (upd (r1246.1 14) 0 (((((s.1 14) 0) + a1) + r1245) - ((((s.1 14) 0) + a1) + r1245) / 256 * 256))) c n))) 8 (fun _ _ => rfl) ?_
      exact q_RP_ret rfl rfl rfl
    | false =>
      refine q_RP_cF ?_
      refine q_RP_rsT (g2 := (62, [(2, .int ((((s.1 14) 0) + a1) + r1245)), (0, .ref 64), (1, .int a1)], [.int 5, .ref 79], (q_kM (q_sA s 15 (upd (s.1 15) 1 (vp_nar .boolean 0))) c n))) rfl rfl (q_d_geF h1410) ?_
      refine q_RP_seg (g2 := (63, [(2, .int ((((s.1 14) 0) + a1) + r1245)), (0, .ref 64), (1, .int a1)], [.int 0, .int 5, .ref 79], (q_kM (q_sA s 15 (upd (s.1 15) 1 (vp_nar .boolean 0))) c n))) 1 (fun _ _ => rfl) ?_
      generalize (q_sA s 15 (upd (s.1 15) 1 (vp_nar .boolean 0))) = r1247
      refine q_RP_let ?_
      show q_RP _ _ _ (63, [(2, .int ((((s.1 14) 0) + a1) + r1245)), (0, .ref 64), (1, .int a1)], [.int 0, .int 5, .ref 79], (q_kM r1247 c n)) _ _
      refine q_RP_seg (g2 := (75, [(2, .int ((((s.1 14) 0) + a1) + r1245)), (0, .ref 64), (1, .int a1)], [], (q_kM (q_sA (q_sA r1247 15 (upd (r1247.1 15) 5 (vp_nar .boolean 0))) 14 (upd (r1247.1 14) 0 (((((s.1 14) 0) + a1) + r1245) - ((((s.1 14) 0) + a1) + r1245) / 256 * 256))) c n))) 8 (fun _ _ => rfl) ?_
      exact q_RP_ret rfl rfl rfl
  | false =>
    refine q_RP_cF ?_
    refine q_RP_rsF (g2 := (40, [(2, .int ((((s.1 14) 0) + a1) + r1245)), (0, .ref 64), (1, .int a1)], [.int 1, .ref 79], (q_kM s c n))) rfl rfl h1409 ?_
    refine q_RP_seg (g2 := (55, [(2, .int ((((s.1 14) 0) + a1) + r1245)), (0, .ref 64), (1, .int a1)], [.int 255, .int ((((s.1 14) 0) + a1) + r1245), .int 5, .ref 79], (q_kM (q_sA s 15 (upd (s.1 15) 1 (vp_nar .boolean 1))) c n))) 8 (fun _ _ => rfl) ?_
    cases h1411 : decide (255 < (((s.1 14) 0) + a1) + r1245) with
    | true =>
      refine q_RP_cT ?_
      refine q_RP_rsF (g2 := (58, [(2, .int ((((s.1 14) 0) + a1) + r1245)), (0, .ref 64), (1, .int a1)], [.int 5, .ref 79], (q_kM (q_sA s 15 (upd (s.1 15) 1 (vp_nar .boolean 1))) c n))) rfl rfl (q_d_geT h1411) ?_
      refine q_RP_seg (g2 := (63, [(2, .int ((((s.1 14) 0) + a1) + r1245)), (0, .ref 64), (1, .int a1)], [.int 1, .int 5, .ref 79], (q_kM (q_sA s 15 (upd (s.1 15) 1 (vp_nar .boolean 1))) c n))) 2 (fun _ _ => rfl) ?_
      generalize (q_sA s 15 (upd (s.1 15) 1 (vp_nar .boolean 1))) = r1248
      refine q_RP_let ?_
      show q_RP _ _ _ (63, [(2, .int ((((s.1 14) 0) + a1) + r1245)), (0, .ref 64), (1, .int a1)], [.int 1, .int 5, .ref 79], (q_kM r1248 c n)) _ _
      refine q_RP_seg (g2 := (75, [(2, .int ((((s.1 14) 0) + a1) + r1245)), (0, .ref 64), (1, .int a1)], [], (q_kM (q_sA (q_sA r1248 15 (upd (r1248.1 15) 5 (vp_nar .boolean 1))) 14 (upd (r1248.1 14) 0 (((((s.1 14) 0) + a1) + r1245) - ((((s.1 14) 0) + a1) + r1245) / 256 * 256))) c n))) 8 (fun _ _ => rfl) ?_
      exact q_RP_ret rfl rfl rfl
    | false =>
      refine q_RP_cF ?_
      refine q_RP_rsT (g2 := (62, [(2, .int ((((s.1 14) 0) + a1) + r1245)), (0, .ref 64), (1, .int a1)], [.int 5, .ref 79], (q_kM (q_sA s 15 (upd (s.1 15) 1 (vp_nar .boolean 1))) c n))) rfl rfl (q_d_geF h1411) ?_
      refine q_RP_seg (g2 := (63, [(2, .int ((((s.1 14) 0) + a1) + r1245)), (0, .ref 64), (1, .int a1)], [.int 0, .int 5, .ref 79], (q_kM (q_sA s 15 (upd (s.1 15) 1 (vp_nar .boolean 1))) c n))) 1 (fun _ _ => rfl) ?_
      generalize (q_sA s 15 (upd (s.1 15) 1 (vp_nar .boolean 1))) = r1249
      refine q_RP_let ?_
      show q_RP _ _ _ (63, [(2, .int ((((s.1 14) 0) + a1) + r1245)), (0, .ref 64), (1, .int a1)], [.int 0, .int 5, .ref 79], (q_kM r1249 c n)) _ _
      refine q_RP_seg (g2 := (75, [(2, .int ((((s.1 14) 0) + a1) + r1245)), (0, .ref 64), (1, .int a1)], [], (q_kM (q_sA (q_sA r1249 15 (upd (r1249.1 15) 5 (vp_nar .boolean 0))) 14 (upd (r1249.1 14) 0 (((((s.1 14) 0) + a1) + r1245) - ((((s.1 14) 0) + a1) + r1245) / 256 * 256))) c n))) 8 (fun _ _ => rfl) ?_
      exact q_RP_ret rfl rfl rfl
def dz_M266_64 (s : q_S) (a1 : Int32) (a2 : Int32) (a3 : Int32) : q_S :=
  cond (decide ((((a1 - a1 / 16 * 16) - (a2 - a2 / 16 * 16)) - 1) + a3 < 0)) (q_let (((((a1 - a1 / 16 * 16) - (a2 - a2 / 16 * 16)) - 1) + a3) + 10) fun x1252 => cond (decide (((a1 / 16) - (a2 / 16)) - 1 < 0)) ((q_sA (q_sA s 15 (upd (s.1 15) 5 (vp_nar .boolean 0))) 14 (upd (s.1 14) 0 (((16 * ((((a1 / 16) - (a2 / 16)) - 1) + 10)) + x1252) &&& 255)))) ((q_sA (q_sA s 15 (upd (s.1 15) 5 (vp_nar .boolean 1))) 14 (upd (s.1 14) 0 (((16 * ((((a1 / 16) - (a2 / 16)) - 1) + 0)) + x1252) &&& 255))))) (cond (decide (((a1 / 16) - (a2 / 16)) - 0 < 0)) ((q_sA (q_sA s 15 (upd (s.1 15) 5 (vp_nar .boolean 0))) 14 (upd (s.1 14) 0 (((16 * ((((a1 / 16) - (a2 / 16)) - 0) + 10)) + (((((a1 - a1 / 16 * 16) - (a2 - a2 / 16 * 16)) - 1) + a3) + 0)) &&& 255)))) ((q_sA (q_sA s 15 (upd (s.1 15) 5 (vp_nar .boolean 1))) 14 (upd (s.1 14) 0 (((16 * ((((a1 / 16) - (a2 / 16)) - 0) + 0)) + (((((a1 - a1 / 16 * 16) - (a2 - a2 / 16 * 16)) - 1) + a3) + 0)) &&& 255)))))
set_option maxHeartbeats 4000000 in
theorem dzt_M266_64 (s : q_S) (c n : Nat) (a1 : Int32) (a2 : Int32) (a3 : Int32) : q_Ca q_TB0 1 265 [.ref 64, .int a1, .int a2, .int a3] (q_kM s c n) ((q_oSM c n) (dz_M266_64 s a1 a2 a3)) := by
  refine q_CaT_of (φ := (q_oSM c n)) (Nat.le_of_ble_eq_true rfl) ?_
  unfold dz_M266_64
  refine q_RT_seg (g2 := (26, [(4, .int ((((a1 - a1 / 16 * 16) - (a2 - a2 / 16 * 16)) - 1) + a3)), (0, .ref 64), (1, .int a1), (2, .int a2), (3, .int a3)], [.int ((((a1 - a1 / 16 * 16) - (a2 - a2 / 16 * 16)) - 1) + a3), .int ((a1 / 16) - (a2 / 16))], (q_kM s c n))) 20 (fun _ _ => rfl) ?_
  cases h1414 : decide ((((a1 - a1 / 16 * 16) - (a2 - a2 / 16 * 16)) - 1) + a3 < 0) with
  | true =>
    refine q_RT_cT ?_
    refine q_RT_rsF (g2 := (29, [(4, .int ((((a1 - a1 / 16 * 16) - (a2 - a2 / 16 * 16)) - 1) + a3)), (0, .ref 64), (1, .int a1), (2, .int a2), (3, .int a3)], [.int ((a1 / 16) - (a2 / 16))], (q_kM s c n))) rfl rfl (q_d_geT h1414) ?_
    refine q_RT_seg (g2 := (41, [(5, .int (((a1 / 16) - (a2 / 16)) - 1)), (4, .int ((((a1 - a1 / 16 * 16) - (a2 - a2 / 16 * 16)) - 1) + a3)), (0, .ref 64), (1, .int a1), (2, .int a2), (3, .int a3)], [.int ((((a1 - a1 / 16 * 16) - (a2 - a2 / 16 * 16)) - 1) + a3), .int ((((a1 - a1 / 16 * 16) - (a2 - a2 / 16 * 16)) - 1) + a3)], (q_kM s c n))) 6 (fun _ _ => rfl) ?_
    refine q_RT_rsF (g2 := (44, [(5, .int (((a1 / 16) - (a2 / 16)) - 1)), (4, .int ((((a1 - a1 / 16 * 16) - (a2 - a2 / 16 * 16)) - 1) + a3)), (0, .ref 64), (1, .int a1), (2, .int a2), (3, .int a3)], [.int ((((a1 - a1 / 16 * 16) - (a2 - a2 / 16 * 16)) - 1) + a3)], (q_kM s c n))) rfl rfl (q_d_geT h1414) ?_
    refine q_RT_seg (g2 := (51, [(5, .int (((a1 / 16) - (a2 / 16)) - 1)), (4, .int ((((a1 - a1 / 16 * 16) - (a2 - a2 / 16 * 16)) - 1) + a3)), (0, .ref 64), (1, .int a1), (2, .int a2), (3, .int a3)], [.int (((((a1 - a1 / 16 * 16) - (a2 - a2 / 16 * 16)) - 1) + a3) + 10)], (q_kM s c n))) 3 (fun _ _ => rfl) ?_
    generalize (((((a1 - a1 / 16 * 16) - (a2 - a2 / 16 * 16)) - 1) + a3) + 10) = x1252
    refine q_RT_let ?_
    show q_RT _ _ _ (51, [(5, .int (((a1 / 16) - (a2 / 16)) - 1)), (4, .int ((((a1 - a1 / 16 * 16) - (a2 - a2 / 16 * 16)) - 1) + a3)), (0, .ref 64), (1, .int a1), (2, .int a2), (3, .int a3)], [.int x1252], (q_kM s c n)) _ _
    refine q_RT_seg (g2 := (60, [(4, .int x1252), (5, .int (((a1 / 16) - (a2 / 16)) - 1)), (0, .ref 64), (1, .int a1), (2, .int a2), (3, .int a3)], [.int (((a1 / 16) - (a2 / 16)) - 1), .int 5, .ref 79], (q_kM s c n))) 5 (fun _ _ => rfl) ?_
    cases h1415 : decide (((a1 / 16) - (a2 / 16)) - 1 < 0) with
    | true =>
      refine q_RT_cT ?_
      refine q_RT_rsT (g2 := (67, [(4, .int x1252), (5, .int (((a1 / 16) - (a2 / 16)) - 1)), (0, .ref 64), (1, .int a1), (2, .int a2), (3, .int a3)], [.int 5, .ref 79], (q_kM s c n))) rfl rfl h1415 ?_
      refine q_RT_seg (g2 := (73, [(4, .int x1252), (5, .int (((a1 / 16) - (a2 / 16)) - 1)), (0, .ref 64), (1, .int a1), (2, .int a2), (3, .int a3)], [.int (((a1 / 16) - (a2 / 16)) - 1), .int (((a1 / 16) - (a2 / 16)) - 1)], (q_kM (q_sA s 15 (upd (s.1 15) 5 (vp_nar .boolean 0))) c n))) 4 (fun _ _ => rfl) ?_
      refine q_RT_rsF (g2 := (76, [(4, .int x1252), (5, .int (((a1 / 16) - (a2 / 16)) - 1)), (0, .ref 64), (1, .int a1), (2, .int a2), (3, .int a3)], [.int (((a1 / 16) - (a2 / 16)) - 1)], (q_kM (q_sA s 15 (upd (s.1 15) 5 (vp_nar .boolean 0))) c n))) rfl rfl (q_d_geT h1415) ?_
      refine q_RT_seg (g2 := (103, [(5, .int ((((a1 / 16) - (a2 / 16)) - 1) + 10)), (4, .int x1252), (0, .ref 64), (1, .int a1), (2, .int a2), (3, .int a3)], [], (q_kM (q_sA (q_sA s 15 (upd (s.1 15) 5 (vp_nar .boolean 0))) 14 (upd (s.1 14) 0 (((16 * ((((a1 / 16) - (a2 / 16)) - 1) + 10)) + x1252) &&& 255))) c n))) 15 (fun _ _ => rfl) ?_
      exact q_RT_ret rfl rfl rfl
    | false =>
      refine q_RT_cF ?_
      refine q_RT_rsF (g2 := (63, [(4, .int x1252), (5, .int (((a1 / 16) - (a2 / 16)) - 1)), (0, .ref 64), (1, .int a1), (2, .int a2), (3, .int a3)], [.int 5, .ref 79], (q_kM s c n))) rfl rfl h1415 ?_
      refine q_RT_seg (g2 := (73, [(4, .int x1252), (5, .int (((a1 / 16) - (a2 / 16)) - 1)), (0, .ref 64), (1, .int a1), (2, .int a2), (3, .int a3)], [.int (((a1 / 16) - (a2 / 16)) - 1), .int (((a1 / 16) - (a2 / 16)) - 1)], (q_kM (q_sA s 15 (upd (s.1 15) 5 (vp_nar .boolean 1))) c n))) 5 (fun _ _ => rfl) ?_
      refine q_RT_rsT (g2 := (81, [(4, .int x1252), (5, .int (((a1 / 16) - (a2 / 16)) - 1)), (0, .ref 64), (1, .int a1), (2, .int a2), (3, .int a3)], [.int (((a1 / 16) - (a2 / 16)) - 1)], (q_kM (q_sA s 15 (upd (s.1 15) 5 (vp_nar .boolean 1))) c n))) rfl rfl (q_d_geF h1415) ?_
      refine q_RT_seg (g2 := (103, [(5, .int ((((a1 / 16) - (a2 / 16)) - 1) + 0)), (4, .int x1252), (0, .ref 64), (1, .int a1), (2, .int a2), (3, .int a3)], [], (q_kM (q_sA (q_sA s 15 (upd (s.1 15) 5 (vp_nar .boolean 1))) 14 (upd (s.1 14) 0 (((16 * ((((a1 / 16) - (a2 / 16)) - 1) + 0)) + x1252) &&& 255))) c n))) 14 (fun _ _ => rfl) ?_
      exact q_RT_ret rfl rfl rfl
  | false =>
    refine q_RT_cF ?_
    refine q_RT_rsT (g2 := (33, [(4, .int ((((a1 - a1 / 16 * 16) - (a2 - a2 / 16 * 16)) - 1) + a3)), (0, .ref 64), (1, .int a1), (2, .int a2), (3, .int a3)], [.int ((a1 / 16) - (a2 / 16))], (q_kM s c n))) rfl rfl (q_d_geF h1414) ?_
    refine q_RT_seg (g2 := (41, [(5, .int (((a1 / 16) - (a2 / 16)) - 0)), (4, .int ((((a1 - a1 / 16 * 16) - (a2 - a2 / 16 * 16)) - 1) + a3)), (0, .ref 64), (1, .int a1), (2, .int a2), (3, .int a3)], [.int ((((a1 - a1 / 16 * 16) - (a2 - a2 / 16 * 16)) - 1) + a3), .int ((((a1 - a1 / 16 * 16) - (a2 - a2 / 16 * 16)) - 1) + a3)], (q_kM s c n))) 5 (fun _ _ => rfl) ?_
    refine q_RT_rsT (g2 := (49, [(5, .int (((a1 / 16) - (a2 / 16)) - 0)), (4, .int ((((a1 - a1 / 16 * 16) - (a2 - a2 / 16 * 16)) - 1) + a3)), (0, .ref 64), (1, .int a1), (2, .int a2), (3, .int a3)], [.int ((((a1 - a1 / 16 * 16) - (a2 - a2 / 16 * 16)) - 1) + a3)], (q_kM s c n))) rfl rfl (q_d_geF h1414) ?_
    refine q_RT_seg (g2 := (60, [(4, .int (((((a1 - a1 / 16 * 16) - (a2 - a2 / 16 * 16)) - 1) + a3) + 0)), (5, .int (((a1 / 16) - (a2 / 16)) - 0)), (0, .ref 64), (1, .int a1), (2, .int a2), (3, .int a3)], [.int (((a1 / 16) - (a2 / 16)) - 0), .int 5, .ref 79], (q_kM s c n))) 7 (fun _ _ => rfl) ?_
    cases h1416 : decide (((a1 / 16) - (a2 / 16)) - 0 < 0) with
    | true =>
      refine q_RT_cT ?_
      refine q_RT_rsT (g2 := (67, [(4, .int (((((a1 - a1 / 16 * 16) - (a2 - a2 / 16 * 16)) - 1) + a3) + 0)), (5, .int (((a1 / 16) - (a2 / 16)) - 0)), (0, .ref 64), (1, .int a1), (2, .int a2), (3, .int a3)], [.int 5, .ref 79], (q_kM s c n))) rfl rfl h1416 ?_
      refine q_RT_seg (g2 := (73, [(4, .int (((((a1 - a1 / 16 * 16) - (a2 - a2 / 16 * 16)) - 1) + a3) + 0)), (5, .int (((a1 / 16) - (a2 / 16)) - 0)), (0, .ref 64), (1, .int a1), (2, .int a2), (3, .int a3)], [.int (((a1 / 16) - (a2 / 16)) - 0), .int (((a1 / 16) - (a2 / 16)) - 0)], (q_kM (q_sA s 15 (upd (s.1 15) 5 (vp_nar .boolean 0))) c n))) 4 (fun _ _ => rfl) ?_
      refine q_RT_rsF (g2 := (76, [(4, .int (((((a1 - a1 / 16 * 16) - (a2 - a2 / 16 * 16)) - 1) + a3) + 0)), (5, .int (((a1 / 16) - (a2 / 16)) - 0)), (0, .ref 64), (1, .int a1), (2, .int a2), (3, .int a3)], [.int (((a1 / 16) - (a2 / 16)) - 0)], (q_kM (q_sA s 15 (upd (s.1 15) 5 (vp_nar .boolean 0))) c n))) rfl rfl (q_d_geT h1416) ?_
      refine q_RT_seg (g2 := (103, [(5, .int ((((a1 / 16) - (a2 / 16)) - 0) + 10)), (4, .int (((((a1 - a1 / 16 * 16) - (a2 - a2 / 16 * 16)) - 1) + a3) + 0)), (0, .ref 64), (1, .int a1), (2, .int a2), (3, .int a3)], [], (q_kM (q_sA (q_sA s 15 (upd (s.1 15) 5 (vp_nar .boolean 0))) 14 (upd (s.1 14) 0 (((16 * ((((a1 / 16) - (a2 / 16)) - 0) + 10)) + (((((a1 - a1 / 16 * 16) - (a2 - a2 / 16 * 16)) - 1) + a3) + 0)) &&& 255))) c n))) 15 (fun _ _ => rfl) ?_
      exact q_RT_ret rfl rfl rfl
    | false =>
      refine q_RT_cF ?_
      refine q_RT_rsF (g2 := (63, [(4, .int (((((a1 - a1 / 16 * 16) - (a2 - a2 / 16 * 16)) - 1) + a3) + 0)), (5, .int (((a1 / 16) - (a2 / 16)) - 0)), (0, .ref 64), (1, .int a1), (2, .int a2), (3, .int a3)], [.int 5, .ref 79], (q_kM s c n))) rfl rfl h1416 ?_
      refine q_RT_seg (g2 := (73, [(4, .int (((((a1 - a1 / 16 * 16) - (a2 - a2 / 16 * 16)) - 1) + a3) + 0)), (5, .int (((a1 / 16) - (a2 / 16)) - 0)), (0, .ref 64), (1, .int a1), (2, .int a2), (3, .int a3)], [.int (((a1 / 16) - (a2 / 16)) - 0), .int (((a1 / 16) - (a2 / 16)) - 0)], (q_kM (q_sA s 15 (upd (s.1 15) 5 (vp_nar .boolean 1))) c n))) 5 (fun _ _ => rfl) ?_
      refine q_RT_rsT (g2 := (81, [(4, .int (((((a1 - a1 / 16 * 16) - (a2 - a2 / 16 * 16)) - 1) + a3) + 0)), (5, .int (((a1 / 16) - (a2 / 16)) - 0)), (0, .ref 64), (1, .int a1), (2, .int a2), (3, .int a3)], [.int (((a1 / 16) - (a2 / 16)) - 0)], (q_kM (q_sA s 15 (upd (s.1 15) 5 (vp_nar .boolean 1))) c n))) rfl rfl (q_d_geF h1416) ?_
      refine q_RT_seg (g2 := (103, [(5, .int ((((a1 / 16) - (a2 / 16)) - 0) + 0)), (4, .int (((((a1 - a1 / 16 * 16) - (a2 - a2 / 16 * 16)) - 1) + a3) + 0)), (0, .ref 64), (1, .int a1), (2, .int a2), (3, .int a3)], [], (q_kM (q_sA (q_sA s 15 (upd (s.1 15) 5 (vp_nar .boolean 1))) 14 (upd (s.1 14) 0 (((16 * ((((a1 / 16) - (a2 / 16)) - 0) + 0)) + (((((a1 - a1 / 16 * 16) - (a2 - a2 / 16 * 16)) - 1) + a3) + 0)) &&& 255))) c n))) 14 (fun _ _ => rfl) ?_
      exact q_RT_ret rfl rfl rfl
def dz_M267_64_f_56 (s : q_S) (v2 : Int32) (v3 : Int32) (v4 : Int32) : Option (q_S) :=
  cond (decide ((s.1 15) 2 = 0)) (q_let (dz_M261_64 s ((s.1 14) 0)) fun r1251 => some r1251.1) (q_let (dz_M266_64 s v3 v2 v4) fun r1253 => q_let (dz_M261_64 r1253 ((r1253.1 14) 0)) fun r1254 => some r1254.1)
set_option maxHeartbeats 4000000 in
theorem dzt_M267_64_f_56 (c n : Nat) (s : q_S) (v2 : Int32) (v3 : Int32) (v4 : Int32) : q_RP q_TB0 2 266 (56, [(0, .ref 64), (2, .int v2), (3, .int v3), (4, .int v4)], [], (q_kM s c n)) (q_oSM c n) (dz_M267_64_f_56 s v2 v3 v4) := by
  unfold dz_M267_64_f_56
  refine q_RP_seg (g2 := (62, [(0, .ref 64), (2, .int v2), (3, .int v3), (4, .int v4)], [.int ((s.1 15) 2)], (q_kM s c n))) 4 (fun _ _ => rfl) ?_
  cases h1413 : decide ((s.1 15) 2 = 0) with
  | true =>
    refine q_RP_cT ?_
    refine q_RP_rsT (g2 := (73, [(0, .ref 64), (2, .int v2), (3, .int v3), (4, .int v4)], [], (q_kM s c n))) rfl rfl h1413 ?_
    refine q_RP_seg (g2 := (80, [(0, .ref 64), (2, .int v2), (3, .int v3), (4, .int v4)], [.int ((s.1 14) 0), .ref 64], (q_kM s c n))) 5 (fun _ _ => rfl) ?_
    refine q_RP_call (v := (some (.int (dz_M261_64 s ((s.1 14) 0)).2))) (h2 := (q_kM (dz_M261_64 s ((s.1 14) 0)).1 c n)) rfl rfl ((dzt_M261_64 s c n ((s.1 14) 0)).le (Nat.le_of_ble_eq_true rfl)) ?_
    generalize dz_M261_64 s ((s.1 14) 0) = r1251
    refine q_RP_let ?_
    show q_RP _ _ _ (83, [(0, .ref 64), (2, .int v2), (3, .int v3), (4, .int v4)], [.int r1251.2], (q_kM r1251.1 c n)) _ _
    refine q_RP_seg (g2 := (84, [(0, .ref 64), (2, .int v2), (3, .int v3), (4, .int v4)], [], (q_kM r1251.1 c n))) 1 (fun _ _ => rfl) ?_
    exact q_RP_ret rfl rfl rfl
  | false =>
    refine q_RP_cF ?_
    refine q_RP_rsF (g2 := (65, [(0, .ref 64), (2, .int v2), (3, .int v3), (4, .int v4)], [], (q_kM s c n))) rfl rfl h1413 ?_
    refine q_RP_seg (g2 := (70, [(0, .ref 64), (2, .int v2), (3, .int v3), (4, .int v4)], [.int v4, .int v2, .int v3, .ref 64], (q_kM s c n))) 4 (fun _ _ => rfl) ?_
    refine q_RP_call (v := none) (h2 := (q_kM (dz_M266_64 s v3 v2 v4) c n)) rfl rfl ((dzt_M266_64 s c n v3 v2 v4).le (Nat.le_of_ble_eq_true rfl)) ?_
    generalize dz_M266_64 s v3 v2 v4 = r1253
    refine q_RP_let ?_
    show q_RP _ _ _ (73, [(0, .ref 64), (2, .int v2), (3, .int v3), (4, .int v4)], [], (q_kM r1253 c n)) _ _
    refine q_RP_seg (g2 := (80, [(0, .ref 64), (2, .int v2), (3, .int v3), (4, .int v4)], [.int ((r1253.1 14) 0), .ref 64], (q_kM r1253 c n))) 5 (fun _ _ => rfl) ?_
    refine q_RP_call (v := (some (.int (dz_M261_64 r1253 ((r1253.1 14) 0)).2))) (h2 := (q_kM (dz_M261_64 r1253 ((r1253.1 14) 0)).1 c n)) rfl rfl ((dzt_M261_64 r1253 c n ((r1253.1 14) 0)).le (Nat.le_of_ble_eq_true rfl)) ?_
    generalize dz_M261_64 r1253 ((r1253.1 14) 0) = r1254
    refine q_RP_let ?_
    show q_RP _ _ _ (83, [(0, .ref 64), (2, .int v2), (3, .int v3), (4, .int v4)], [.int r1254.2], (q_kM r1254.1 c n)) _ _
    refine q_RP_seg (g2 := (84, [(0, .ref 64), (2, .int v2), (3, .int v3), (4, .int v4)], [], (q_kM r1254.1 c n))) 1 (fun _ _ => rfl) ?_
    exact q_RP_ret rfl rfl rfl
def dz_M267_64_f (s : q_S) (a2 : Int32) : Option (q_S) :=
  (dz_M257_64 s 5 1).bind fun r1243 => (dz_M264_64 s ((255 : Int32) - a2)).bind fun r1250 => cond (decide ((r1250.1 15) 2 = 0)) (dz_M267_64_f_56 r1250 a2 ((s.1 14) 0) r1243) (dz_M267_64_f_56 r1250 a2 ((s.1 14) 0) r1243)
set_option maxHeartbeats 4000000 in
theorem dzt_M267_64_f (s : q_S) (c n : Nat) (a2 : Int32) (x : q_S) (h : dz_M267_64_f s a2 = some x) : q_Ca q_TB0 3 266 [.ref 64, .int 0, .int a2] (q_kM s c n) ((q_oSM c n) x) := by
  refine q_CaP_of (φ := (q_oSM c n)) (Nat.le_of_ble_eq_true rfl) ?_ h
  clear h
  unfold dz_M267_64_f
  refine q_RP_seg (g2 := (6, [(0, .ref 64), (1, .int 0), (2, .int a2)], [.int ((s.1 14) 0)], (q_kM s c n))) 4 (fun _ _ => rfl) ?_
  refine q_RP_seg (g2 := (10, [(3, .int ((s.1 14) 0)), (0, .ref 64), (1, .int 0), (2, .int a2)], [.int 1, .int 5, .ref 64], (q_kM s c n))) 4 (fun _ _ => rfl) ?_
  refine q_RP_bd fun r1243 er1243 => ?_
  refine q_RP_call (v := (some (.int r1243))) (h2 := (q_kM s c n)) rfl rfl ((dzt_M257_64 s c n 5 1 r1243 er1243).le (Nat.le_of_ble_eq_true rfl)) ?_
  show q_RP _ _ _ (13, [(3, .int ((s.1 14) 0)), (0, .ref 64), (1, .int 0), (2, .int a2)], [.int r1243], (q_kM s c n)) _ _
  refine q_RP_seg (g2 := (29, [(4, .int r1243), (3, .int ((s.1 14) 0)), (0, .ref 64), (1, .int 0), (2, .int a2)], [.int ((255 : Int32) - a2), .ref 64], (q_kM s c n))) 7 (fun _ _ => rfl) ?_
  refine q_RP_bd fun r1250 er1250 => ?_
  refine q_RP_call (v := none) (h2 := (q_kM r1250 c n)) rfl rfl ((dzt_M264_64 s c n ((255 : Int32) - a2) r1250 er1250).le (Nat.le_of_ble_eq_true rfl)) ?_
  show q_RP _ _ _ (32, [(4, .int r1243), (3, .int ((s.1 14) 0)), (0, .ref 64), (1, .int 0), (2, .int a2)], [], (q_kM r1250 c n)) _ _
  refine q_RP_seg (g2 := (38, [(4, .int r1243), (3, .int ((s.1 14) 0)), (0, .ref 64), (1, .int 0), (2, .int a2)], [.int ((r1250.1 15) 2)], (q_kM r1250 c n))) 4 (fun _ _ => rfl) ?_
  cases h1412 : decide ((r1250.1 15) 2 = 0) with
  | true =>
    refine q_RP_cT ?_
    refine q_RP_rsT (g2 := (56, [(4, .int r1243), (3, .int ((s.1 14) 0)), (0, .ref 64), (1, .int 0), (2, .int a2)], [], (q_kM r1250 c n))) rfl rfl h1412 ?_
    exact q_RP_xt (q_xt_mk (q_mn1 2 rfl (q_mn1 4 rfl (q_mn1 1 rfl (q_mn1 0 rfl q_mn0)))) rfl) (dzt_M267_64_f_56 c n r1250 a2 ((s.1 14) 0) r1243)
  | false =>
    refine q_RP_cF ?_
    refine q_RP_rsF (g2 := (41, [(4, .int r1243), (3, .int ((s.1 14) 0)), (0, .ref 64), (1, .int 0), (2, .int a2)], [], (q_kM r1250 c n))) rfl rfl h1412 ?_
    refine q_RP_seg (g2 := (56, [(4, .int r1243), (3, .int ((s.1 14) 0)), (0, .ref 64), (1, .int 0), (2, .int a2)], [], (q_kM r1250 c n))) 2 (fun _ _ => rfl) ?_
    exact q_RP_xt (q_xt_mk (q_mn1 2 rfl (q_mn1 4 rfl (q_mn1 1 rfl (q_mn1 0 rfl q_mn0)))) rfl) (dzt_M267_64_f_56 c n r1250 a2 ((s.1 14) 0) r1243)
def dz_M268_64 (s : q_S) (a1 : Int32) : Option (q_S × Int32) :=
  (dz_M214_64 s a1).bind fun r1266 => cond (decide (a1 = 3869)) (cond (decide (a1 = 3870)) (q_let ((q_sA r1266.1 14 (upd (r1266.1.1 14) 10 0))) fun r1267 => some ((q_sA r1267 14 (upd (r1267.1 14) 11 0)), r1266.2)) (some ((q_sA r1266.1 14 (upd (r1266.1.1 14) 10 0)), r1266.2))) (cond (decide (a1 = 3870)) (some ((q_sA r1266.1 14 (upd (r1266.1.1 14) 11 0)), r1266.2)) (some (r1266.1, r1266.2)))
set_option maxHeartbeats 4000000 in
theorem dzt_M268_64 (s : q_S) (c n : Nat) (a1 : Int32) (x : q_S × Int32) (h : dz_M268_64 s a1 = some x) : q_Ca q_TB0 5 267 [.ref 64, .int a1] (q_kM s c n) ((q_oIM c n) x) := by
  refine q_CaP_of (φ := (q_oIM c n)) (Nat.le_of_ble_eq_true rfl) ?_ h
  clear h
  unfold dz_M268_64
  refine q_RP_seg (g2 := (2, [(0, .ref 64), (1, .int a1)], [.int a1, .ref 64], (q_kM s c n))) 2 (fun _ _ => rfl) ?_
  refine q_RP_bd fun r1266 er1266 => ?_
  refine q_RP_call (v := (some (.int r1266.2))) (h2 := (q_kM r1266.1 c n)) rfl rfl ((dzt_M214_64 s c n a1 r1266 er1266).le (Nat.le_of_ble_eq_true rfl)) ?_
  show q_RP _ _ _ (5, [(0, .ref 64), (1, .int a1)], [.int r1266.2], (q_kM r1266.1 c n)) _ _
  refine q_RP_seg (g2 := (10, [(2, .int r1266.2), (0, .ref 64), (1, .int a1)], [.int 3869, .int a1], (q_kM r1266.1 c n))) 3 (fun _ _ => rfl) ?_
  cases h1426 : decide (a1 = 3869) with
  | true =>
    refine q_RP_cT ?_
    refine q_RP_rsF (g2 := (13, [(2, .int r1266.2), (0, .ref 64), (1, .int a1)], [], (q_kM r1266.1 c n))) rfl rfl (q_d_neT h1426) ?_
    refine q_RP_seg (g2 := (25, [(2, .int r1266.2), (0, .ref 64), (1, .int a1)], [.int 3870, .int a1], (q_kM (q_sA r1266.1 14 (upd (r1266.1.1 14) 10 0)) c n))) 7 (fun _ _ => rfl) ?_
    cases h1427 : decide (a1 = 3870) with
    | true =>
      refine q_RP_cT ?_
      refine q_RP_rsF (g2 := (28, [(2, .int r1266.2), (0, .ref 64), (1, .int a1)], [], (q_kM (q_sA r1266.1 14 (upd (r1266.1.1 14) 10 0)) c n))) rfl rfl (q_d_neT h1427) ?_
      refine q_RP_seg (g2 := (35, [(2, .int r1266.2), (0, .ref 64), (1, .int a1)], [.int 0, .int 11, .ref 78], (q_kM (q_sA r1266.1 14 (upd (r1266.1.1 14) 10 0)) c n))) 4 (fun _ _ => rfl) ?_
      generalize (q_sA r1266.1 14 (upd (r1266.1.1 14) 10 0)) = r1267
      refine q_RP_let ?_
      show q_RP _ _ _ (35, [(2, .int r1266.2), (0, .ref 64), (1, .int a1)], [.int 0, .int 11, .ref 78], (q_kM r1267 c n)) _ _
      refine q_RP_seg (g2 := (37, [(2, .int r1266.2), (0, .ref 64), (1, .int a1)], [.int r1266.2], (q_kM (q_sA r1267 14 (upd (r1267.1 14) 11 0)) c n))) 2 (fun _ _ => rfl) ?_
      exact q_RP_ret rfl rfl rfl
    | false =>
      refine q_RP_cF ?_
      refine q_RP_rsT (g2 := (36, [(2, .int r1266.2), (0, .ref 64), (1, .int a1)], [], (q_kM (q_sA r1266.1 14 (upd (r1266.1.1 14) 10 0)) c n))) rfl rfl (q_d_neF h1427) ?_
      refine q_RP_seg (g2 := (37, [(2, .int r1266.2), (0, .ref 64), (1, .int a1)], [.int r1266.2], (q_kM (q_sA r1266.1 14 (upd (r1266.1.1 14) 10 0)) c n))) 1 (fun _ _ => rfl) ?_
      exact q_RP_ret rfl rfl rfl
  | false =>
    refine q_RP_cF ?_
    refine q_RP_rsT (g2 := (21, [(2, .int r1266.2), (0, .ref 64), (1, .int a1)], [], (q_kM r1266.1 c n))) rfl rfl (q_d_neF h1426) ?_
    refine q_RP_seg (g2 := (25, [(2, .int r1266.2), (0, .ref 64), (1, .int a1)], [.int 3870, .int a1], (q_kM r1266.1 c n))) 2 (fun _ _ => rfl) ?_
    cases h1428 : decide (a1 = 3870) with
    | true =>
      refine q_RP_cT ?_
      refine q_RP_rsF (g2 := (28, [(2, .int r1266.2), (0, .ref 64), (1, .int a1)], [], (q_kM r1266.1 c n))) rfl rfl (q_d_neT h1428) ?_
      refine q_RP_seg (g2 := (37, [(2, .int r1266.2), (0, .ref 64), (1, .int a1)], [.int r1266.2], (q_kM (q_sA r1266.1 14 (upd (r1266.1.1 14) 11 0)) c n))) 6 (fun _ _ => rfl) ?_
      exact q_RP_ret rfl rfl rfl
    | false =>
      refine q_RP_cF ?_
      refine q_RP_rsT (g2 := (36, [(2, .int r1266.2), (0, .ref 64), (1, .int a1)], [], (q_kM r1266.1 c n))) rfl rfl (q_d_neF h1428) ?_
      refine q_RP_seg (g2 := (37, [(2, .int r1266.2), (0, .ref 64), (1, .int a1)], [.int r1266.2], (q_kM r1266.1 c n))) 1 (fun _ _ => rfl) ?_
      exact q_RP_ret rfl rfl rfl
