def dz_M259_64 (s : q_S) (a1 : Int32) : q_S :=
  q_let (dz_M206 s a1 0) fun r933 => cond r933 (q_let (dz_M206 (q_sA s 15 (upd (s.1 15) 5 (vp_nar .boolean 1))) a1 1) fun r934 => cond r934 (q_let ((q_sA s 15 (upd (s.1 15) 5 (vp_nar .boolean 1)))) fun r935 => q_let (dz_M206 (q_sA r935 15 (upd (r935.1 15) 4 (vp_nar .boolean 1))) a1 2) fun r936 => cond r936 (q_let ((q_sA r935 15 (upd (r935.1 15) 4 (vp_nar .boolean 1)))) fun r937 => q_let (dz_M206 (q_sA r937 15 (upd (r937.1 15) 3 (vp_nar .boolean 1))) a1 3) fun r938 => cond r938 (q_let ((q_sA r937 15 (upd (r937.1 15) 3 (vp_nar .boolean 1)))) fun r939 => q_let (dz_M206 (q_sA r939 15 (upd (r939.1 15) 2 (vp_nar .boolean 1))) a1 6) fun r940 => cond r940 (q_let ((q_sA r939 15 (upd (r939.1 15) 2 (vp_nar .boolean 1)))) fun r941 => q_let (dz_M206 (q_sA r941 15 (upd (r941.1 15) 1 (vp_nar .boolean 1))) a1 7) fun r942 => cond r942 (q_let ((q_sA r941 15 (upd (r941.1 15) 1 (vp_nar .boolean 1)))) fun r943 => (q_sA r943 15 (upd (r943.1 15) 0 (vp_nar .boolean 1)))) (q_let ((q_sA r941 15 (upd (r941.1 15) 1 (vp_nar .boolean 1)))) fun r944 => (q_sA r944 15 (upd (r944.1 15) 0 (vp_nar .boolean 0))))) (q_let ((q_sA r939 15 (upd (r939.1 15) 2 (vp_nar .boolean 1)))) fun r945 => q_let (dz_M206 (q_sA r945 15 (upd (r945.1 15) 1 (vp_nar .boolean 0))) a1 7) fun r946 => cond r946 (q_let ((q_sA r945 15 (upd (r945.1 15) 1 (vp_nar .boolean 0)))) fun r947 => (q_sA r947 15 (upd (r947.1 15) 0 (vp_nar .boolean 1)))) (q_let ((q_sA r945 15 (upd (r945.1 15) 1 (vp_nar .boolean 0)))) fun r948 => (q_sA r948 15 (upd (r948.1 15) 0 (vp_nar .boolean 0)))))) (q_let ((q_sA r937 15 (upd (r937.1 15) 3 (vp_nar .boolean 1)))) fun r949 => q_let (dz_M206 (q_sA r949 15 (upd (r949.1 15) 2 (vp_nar .boolean 0))) a1 6) fun r950 => cond r950 (q_let ((q_sA r949 15 (upd (r949.1 15) 2 (vp_nar .boolean 0)))) fun r951 => q_let (dz_M206 (q_sA r951 15 (upd (r951.1 15) 1 (vp_nar .boolean 1))) a1 7) fun r952 => cond r952 (q_let ((q_sA r951 15 (upd (r951.1 15) 1 (vp_nar .boolean 1)))) fun r953 => (q_sA r953 15 (upd (r953.1 15) 0 (vp_nar .boolean 1)))) (q_let ((q_sA r951 15 (upd (r951.1 15) 1 (vp_nar .boolean 1)))) fun r954 => (q_sA r954 15 (upd (r954.1 15) 0 (vp_nar .boolean 0))))) (q_let ((q_sA r949 15 (upd (r949.1 15) 2 (vp_nar .boolean 0)))) fun r955 => q_let (dz_M206 (q_sA r955 15 (upd (r955.1 15) 1 (vp_nar .boolean 0))) a1 7) fun r956 => cond r956 (q_let ((q_sA r955 15 (upd (r955.1 15) 1 (vp_nar .boolean 0)))) fun r957 => (q_sA r957 15 (upd (r957.1 15) 0 (vp_nar .boolean 1)))) (q_let ((q_sA r955 15 (upd (r955.1 15) 1 (vp_nar .boolean 0)))) fun r958 => (q_sA r958 15 (upd (r958.1 15) 0 (vp_nar .boolean 0))))))) (q_let ((q_sA r935 15 (upd (r935.1 15) 4 (vp_nar .boolean 1)))) fun r959 => q_let (dz_M206 (q_sA r959 15 (upd (r959.1 15) 3 (vp_nar .boolean 0))) a1 3) fun r960 => cond r960 (q_let ((q_sA r959 15 (upd (r959.1 15) 3 (vp_nar .boolean 0)))) fun r961 => q_let (dz_M206 (q_sA r961 15 (upd (r961.1 15) 2 (vp_nar .boolean 1))) a1 6) fun r962 => cond r962 (q_let ((q_sA r961 15 (upd (r961.1 15) 2 (vp_nar .boolean 1)))) fun r963 => q_let (dz_M206 (q_sA r963 15 (upd (r963.1 15) 1 (vp_nar .boolean 1))) a1 7) fun r964 => cond r964 (q_let ((q_sA r963 15 (upd (r963.1 15) 1 (vp_nar .boolean 1)))) fun r965 => (q_sA r965 15 (upd (r965.1 15) 0 (vp_nar .boolean 1)))) (q_let ((q_sA r963 15 (upd (r963.1 15) 1 (vp_nar .boolean 1)))) fun r966 => (q_sA r966 15 (upd (r966.1 15) 0 (vp_nar .boolean 0))))) (q_let ((q_sA r961 15 (upd (r961.1 15) 2 (vp_nar .boolean 1)))) fun r967 => q_let (dz_M206 (q_sA r967 15 (upd (r967.1 15) 1 (vp_nar .boolean 0))) a1 7) fun r968 => cond r968 (q_let ((q_sA r967 15 (upd (r967.1 15) 1 (vp_nar .boolean 0)))) fun r969 => (q_sA r969 15 (upd (r969.1 15) 0 (vp_nar .boolean 1)))) (q_let ((q_sA r967 15 (upd (r967.1 15) 1 (vp_nar .boolean 0)))) fun r970 => (q_sA r970 15 (upd (r970.1 15) 0 (vp_nar .boolean 0)))))) (q_let ((q_sA r959 15 (upd (r959.1 15) 3 (vp_nar .boolean 0)))) fun r971 => q_let (dz_M206 (q_sA r971 15 (upd (r971.1 15) 2 (vp_nar .boolean 0))) a1 6) fun r972 => cond r972 (q_let ((q_sA r971 15 (upd (r971.1 15) 2 (vp_nar .boolean 0)))) fun r973 => q_let (dz_M206 (q_sA r973 15 (upd (r973.1 15) 1 (vp_nar .boolean 1))) a1 7) fun r974 => cond r974 (q_let ((q_sA r973 15 (upd (r973.1 15) 1 (vp_nar .boolean 1)))) fun r975 => (q_sA r975 15 (upd (r975.1 15) 0 (vp_nar .boolean 1)))) (q_let ((q_sA r973 15 (upd (r973.1 15) 1 (vp_nar .boolean 1)))) fun r976 => (q_sA r976 15 (upd (r976.1 15) 0 (vp_nar .boolean 0))))) (q_let ((q_sA r971 15 (upd (r971.1 15) 2 (vp_nar .boolean 0)))) fun r977 => q_let (dz_M206 (q_sA r977 15 (upd (r977.1 15) 1 (vp_nar .boolean 0))) a1 7) fun r978 => cond r978 (q_let ((q_sA r977 15 (upd (r977.1 15) 1 (vp_nar .boolean 0)))) fun r979 => (q_sA r979 15 (upd (r979.1 15) 0 (vp_nar .boolean 1)))) (q_let ((q_sA r977 15 (upd (r977.1 15) 1 (vp_nar .boolean 0)))) fun r980 => (q_sA r980 15 (upd (r980.1 15) 0 (vp_nar .boolean 0)))))))) (q_let ((q_sA s 15 (upd (s.1 15) 5 (vp_nar .boolean 1)))) fun r981 => q_let (dz_M206 (q_sA r981 15 (upd (r981.1 15) 4 (vp_nar .boolean 0))) a1 2) fun r982 => cond r982 (q_let ((q_sA r981 15 (upd (r981.1 15) 4 (vp_nar .boolean 0)))) fun r983 => q_let (dz_M206 (q_sA r983 15 (upd (r983.1 15) 3 (vp_nar .boolean 1))) a1 3) fun r984 => cond r984 (q_let ((q_sA r983 15 (upd (r983.1 15) 3 (vp_nar .boolean 1)))) fun r985 => q_let (dz_M206 (q_sA r985 15 (upd (r985.1 15) 2 (vp_nar .boolean 1))) a1 6) fun r986 => cond r986 (q_let ((q_sA r985 15 (upd (r985.1 15) 2 (vp_nar .boolean 1)))) fun r987 => q_let (dz_M206 (q_sA r987 15 (upd (r987.1 15) 1 (vp_nar .boolean 1))) a1 7) fun r988 => cond r988 (q_let ((q_sA r987 15 (upd (r987.1 15) 1 (vp_nar .boolean 1)))) fun r989 => (q_sA r989 15 (upd (r989.1 15) 0 (vp_nar .boolean 1)))) (q_let ((q_sA r987 15 (upd (r987.1 15) 1 (vp_nar .boolean 1)))) fun r990 => (q_sA r990 15 (upd (r990.1 15) 0 (vp_nar .boolean 0))))) (q_let ((q_sA r985 15 (upd (r985.1 15) 2 (vp_nar .boolean 1)))) fun r991 => q_let (dz_M206 (q_sA r991 15 (upd (r991.1 15) 1 (vp_nar .boolean 0))) a1 7) fun r992 => cond r992 (q_let ((q_sA r991 15 (upd (r991.1 15) 1 (vp_nar .boolean 0)))) fun r993 => (q_sA r993 15 (upd (r993.1 15) 0 (vp_nar .boolean 1)))) (q_let ((q_sA r991 15 (upd (r991.1 15) 1 (vp_nar .boolean 0)))) fun r994 => (q_sA r994 15 (upd (r994.1 15) 0 (vp_nar .boolean 0)))))) (q_let ((q_sA r983 15 (upd (r983.1 15) 3 (vp_nar .boolean 1)))) fun r995 => q_let (dz_M206 (q_sA r995 15 (upd (r995.1 15) 2 (vp_nar .boolean 0))) a1 6) fun r996 => cond r996 (q_let ((q_sA r995 15 (upd (r995.1 15) 2 (vp_nar .boolean 0)))) fun r997 => q_let (dz_M206 (q_sA r997 15 (upd (r997.1 15) 1 (vp_nar .boolean 1))) a1 7) fun r998 => cond r998 (q_let ((q_sA r997 15 (upd (r997.1 15) 1 (vp_nar .boolean 1)))) fun r999 => (q_sA r999 15 (upd (r999.1 15) 0 (vp_nar .boolean 1)))) (q_let ((q_sA r997 15 (upd (r997.1 15) 1 (vp_nar .boolean 1)))) fun r1000 => (q_sA r1000 15 (upd (r1000.1 15) 0 (vp_nar .boolean 0))))) (q_let ((q_sA r995 15 (upd (r995.1 15) 2 (vp_nar .boolean 0)))) fun r1001 => q_let (dz_M206 (q_sA r1001 15 (upd (r1001.1 15) 1 (vp_nar .boolean 0))) a1 7) fun r1002 => cond r1002 (q_let ((q_sA r1001 15 (upd (r1001.1 15) 1 (vp_nar .boolean 0)))) fun r1003 => (q_sA r1003 15 (upd (r1003.1 15) 0 (vp_nar .boolean 1)))) (q_let ((q_sA r1001 15 (upd (r1001.1 15) 1 (vp_nar .boolean 0)))) fun r1004 => (q_sA r1004 15 (upd (r1004.1 15) 0 (vp_nar .boolean 0))))))) (q_let ((q_sA r981 15 (upd (r981.1 15) 4 (vp_nar .boolean 0)))) fun r1005 => q_let (dz_M206 (q_sA r1005 15 (upd (r1005.1 15) 3 (vp_nar .boolean 0))) a1 3) fun r1006 => cond r1006 (q_let ((q_sA r1005 15 (upd (r1005.1 15) 3 (vp_nar .boolean 0)))) fun r1007 => q_let (dz_M206 (q_sA r1007 15 (upd (r1007.1 15) 2 (vp_nar .boolean 1))) a1 6) fun r1008 => cond r1008 (q_let ((q_sA r1007 15 (upd (r1007.1 15) 2 (vp_nar .boolean 1)))) fun r1009 => q_let (dz_M206 (q_sA r1009 15 (upd (r1009.1 15) 1 (vp_nar .boolean 1))) a1 7) fun r1010 => cond r1010 (q_let ((q_sA r1009 15 (upd (r1009.1 15) 1 (vp_nar .boolean 1)))) fun r1011 => (q_sA r1011 15 (upd (r1011.1 15) 0 (vp_nar .boolean 1)))) (q_let ((q_sA r1009 15 (upd (r1009.1 15) 1 (vp_nar .boolean 1)))) fun r1012 => (q_sA r1012 15 (upd (r1012.1 15) 0 (vp_nar .boolean 0))))) (q_let ((q_sA r1007 15 (upd (r1007.1 15) 2 (vp_nar .boolean 1)))) fun r1013 => q_let (dz_M206 (q_sA r1013 15 (upd (r1013.1 15) 1 (vp_nar .boolean 0))) a1 7) fun r1014 => cond r1014 (q_let ((q_sA r1013 15 (upd (r1013.1 15) 1 (vp_nar .boolean 0)))) fun r1015 => (q_sA r1015 15 (upd (r1015.1 15) 0 (vp_nar .boolean 1)))) (q_let ((q_sA r1013 15 (upd (r1013.1 15) 1 (vp_nar .boolean 0)))) fun r1016 => (q_sA r1016 15 (upd (r1016.1 15) 0 (vp_nar .boolean 0)))))) (q_let ((q_sA r1005 15 (upd (r1005.1 15) 3 (vp_nar .boolean 0)))) fun r1017 => q_let (dz_M206 (q_sA r1017 15 (upd (r1017.1 15) 2 (vp_nar .boolean 0))) a1 6) fun r1018 => cond r1018 (q_let ((q_sA r1017 15 (upd (r1017.1 15) 2 (vp_nar .boolean 0)))) fun r1019 => q_let (dz_M206 (q_sA r1019 15 (upd (r1019.1 15) 1 (vp_nar .boolean 1))) a1 7) fun r1020 => cond r1020 (q_let ((q_sA r1019 15 (upd (r1019.1 15) 1 (vp_nar .boolean 1)))) fun r1021 => (q_sA r1021 15 (upd (r1021.1 15) 0 (vp_nar .boolean 1)))) (q_let ((q_sA r1019 15 (upd (r1019.1 15) 1 (vp_nar .boolean 1)))) fun r1022 => (q_sA r1022 15 (upd (r1022.1 15) 0 (vp_nar .boolean 0))))) (q_let ((q_sA r1017 15 (upd (r1017.1 15) 2 (vp_nar .boolean 0)))) fun r1023 => q_let (dz_M206 (q_sA r1023 15 (upd (r1023.1 15) 1 (vp_nar .boolean 0))) a1 7) fun r1024 => cond r1024 (q_let ((q_sA r1023 15 (upd (r1023.1 15) 1 (vp_nar .boolean 0)))) fun r1025 => (q_sA r1025 15 (upd (r1025.1 15) 0 (vp_nar .boolean 1)))) (q_let ((q_sA r1023 15 (upd (r1023.1 15) 1 (vp_nar .boolean 0)))) fun r1026 => (q_sA r1026 15 (upd (r1026.1 15) 0 (vp_nar .boolean 0))))))))) (q_let (dz_M206 (q_sA s 15 (upd (s.1 15) 5 (vp_nar .boolean 0))) a1 1) fun r1027 => cond r1027 (q_let ((q_sA s 15 (upd (s.1 15) 5 (vp_nar .boolean 0)))) fun r1028 => q_let (dz_M206 (q_sA r1028 15 (upd (r1028.1 15) 4 (vp_nar .boolean 1))) a1 2) fun r1029 => cond r1029 (q_let ((q_sA r1028 15 (upd (r1028.1 15) 4 (vp_nar .boolean 1)))) fun r1030 => q_let (dz_M206 (q_sA r1030 15 (upd (r1030.1 15) 3 (vp_nar .boolean 1))) a1 3) fun r1031 => cond r1031 (q_let ((q_sA r1030 15 (upd (r1030.1 15) 3 (vp_nar .boolean 1)))) fun r1032 => q_let (dz_M206 (q_sA r1032 15 (upd (r1032.1 15) 2 (vp_nar .boolean 1))) a1 6) fun r1033 => cond r1033 (q_let ((q_sA r1032 15 (upd (r1032.1 15) 2 (vp_nar .boolean 1)))) fun r1034 => q_let (dz_M206 (q_sA r1034 15 (upd (r1034.1 15) 1 (vp_nar .boolean 1))) a1 7) fun r1035 => cond r1035 (q_let ((q_sA r1034 15 (upd (r1034.1 15) 1 (vp_nar .boolean 1)))) fun r1036 => (q_sA r1036 15 (upd (r1036.1 15) 0 (vp_nar .boolean 1)))) (q_let ((q_sA r1034 15 (upd (r1034.1 15) 1 (vp_nar .boolean 1)))) fun r1037 => (q_sA r1037 15 (upd (r1037.1 15) 0 (vp_nar .boolean 0))))) (q_let ((q_sA r1032 15 (upd (r1032.1 15) 2 (vp_nar .boolean 1)))) fun r1038 => q_let (dz_M206 (q_sA r1038 15 (upd (r1038.1 15) 1 (vp_nar .boolean 0))) a1 7) fun r1039 => cond r1039 (q_let ((q_sA r1038 15 (upd (r1038.1 15) 1 (vp_nar .boolean 0)))) fun r1040 => (q_sA r1040 15 (upd (r1040.1 15) 0 (vp_nar .boolean 1)))) (q_let ((q_sA r1038 15 (upd (r1038.1 15) 1 (vp_nar .boolean 0)))) fun r1041 => (q_sA r1041 15 (upd (r1041.1 15) 0 (vp_nar .boolean 0)))))) (q_let ((q_sA r1030 15 (upd (r1030.1 15) 3 (vp_nar .boolean 1)))) fun r1042 => q_let (dz_M206 (q_sA r1042 15 (upd (r1042.1 15) 2 (vp_nar .boolean 0))) a1 6) fun r1043 => cond r1043 (q_let ((q_sA r1042 15 (upd (r1042.1 15) 2 (vp_nar .boolean 0)))) fun r1044 => q_let (dz_M206 (q_sA r1044 15 (upd (r1044.1 15) 1 (vp_nar .boolean 1))) a1 7) fun r1045 => cond r1045 (q_let ((q_sA r1044 15 (upd (r1044.1 15) 1 (vp_nar .boolean 1)))) fun r1046 => (q_sA r1046 15 (upd (r1046.1 15) 0 (vp_nar .boolean 1)))) (q_let ((q_sA r1044 15 (upd (r1044.1 15) 1 (vp_nar .boolean 1)))) fun r1047 => (q_sA r1047 15 (upd (r1047.1 15) 0 (vp_nar .boolean 0))))) (q_let ((q_sA r1042 15 (upd (r1042.1 15) 2 (vp_nar .boolean 0)))) fun r1048 => q_let (dz_M206 (q_sA r1048 15 (upd (r1048.1 15) 1 (vp_nar .boolean 0))) a1 7) fun r1049 => cond r1049 (q_let ((q_sA r1048 15 (upd (r1048.1 15) 1 (vp_nar .boolean 0)))) fun r1050 => (q_sA r1050 15 (upd (r1050.1 15) 0 (vp_nar .boolean 1)))) (q_let ((q_sA r1048 15 (upd (r1048.1 15) 1 (vp_nar .boolean 0)))) fun r1051 => (q_sA r1051 15 (upd (r1051.1 15) 0 (vp_nar .boolean 0))))))) (q_let ((q_sA r1028 15 (upd (r1028.1 15) 4 (vp_nar .boolean 1)))) fun r1052 => q_let (dz_M206 (q_sA r1052 15 (upd (r1052.1 15) 3 (vp_nar .boolean 0))) a1 3) fun r1053 => cond r1053 (q_let ((q_sA r1052 15 (upd (r1052.1 15) 3 (vp_nar .boolean 0)))) fun r1054 => q_let (dz_M206 (q_sA r1054 15 (upd (r1054.1 15) 2 (vp_nar .boolean 1))) a1 6) fun r1055 => cond r1055 (q_let ((q_sA r1054 15 (upd (r1054.1 15) 2 (vp_nar .boolean 1)))) fun r1056 => q_let (dz_M206 (q_sA r1056 15 (upd (r1056.1 15) 1 (vp_nar .boolean 1))) a1 7) fun r1057 => cond r1057 (q_let ((q_sA r1056 15 (upd (r1056.1 15) 1 (vp_nar .boolean 1)))) fun r1058 => (q_sA r1058 15 (upd (r1058.1 15) 0 (vp_nar .boolean 1)))) (q_let ((q_sA r1056 15 (upd (r1056.1 15) 1 (vp_nar .boolean 1)))) fun r1059 => (q_sA r1059 15 (upd (r1059.1 15) 0 (vp_nar .boolean 0))))) (q_let ((q_sA r1054 15 (upd (r1054.1 15) 2 (vp_nar .boolean 1)))) fun r1060 => q_let (dz_M206 (q_sA r1060 15 (upd (r1060.1 15) 1 (vp_nar .boolean 0))) a1 7) fun r1061 => cond r1061 (q_let ((q_sA r1060 15 (upd (r1060.1 15) 1 (vp_nar .boolean 0)))) fun r1062 => (q_sA r1062 15 (upd (r1062.1 15) 0 (vp_nar .boolean 1)))) (q_let ((q_sA r1060 15 (upd (r1060.1 15) 1 (vp_nar .boolean 0)))) fun r1063 => (q_sA r1063 15 (upd (r1063.1 15) 0 (vp_nar .boolean 0)))))) (q_let ((q_sA r1052 15 (upd (r1052.1 15) 3 (vp_nar .boolean 0)))) fun r1064 => q_let (dz_M206 (q_sA r1064 15 (upd (r1064.1 15) 2 (vp_nar .boolean 0))) a1 6) fun r1065 => cond r1065 (q_let ((q_sA r1064 15 (upd (r1064.1 15) 2 (vp_nar .boolean 0)))) fun r1066 => q_let (dz_M206 (q_sA r1066 15 (upd (r1066.1 15) 1 (vp_nar .boolean 1))) a1 7) fun r1067 => cond r1067 (q_let ((q_sA r1066 15 (upd (r1066.1 15) 1 (vp_nar .boolean 1)))) fun r1068 => (q_sA r1068 15 (upd (r1068.1 15) 0 (vp_nar .boolean 1)))) (q_let ((q_sA r1066 15 (upd (r1066.1 15) 1 (vp_nar .boolean 1)))) fun r1069 => (q_sA r1069 15 (upd (r1069.1 15) 0 (vp_nar .boolean 0))))) (q_let ((q_sA r1064 15 (upd (r1064.1 15) 2 (vp_nar .boolean 0)))) fun r1070 => q_let (dz_M206 (q_sA r1070 15 (upd (r1070.1 15) 1 (vp_nar .boolean 0))) a1 7) fun r1071 => cond r1071 (q_let ((q_sA r1070 15 (upd (r1070.1 15) 1 (vp_nar .boolean 0)))) fun r1072 => (q_sA r1072 15 (upd (r1072.1 15) 0 (vp_nar .boolean 1)))) (q_let ((q_sA r1070 15 (upd (r1070.1 15) 1 (vp_nar .boolean 0)))) fun r1073 => (q_sA r1073 15 (upd (r1073.1 15) 0 (vp_nar .boolean 0)))))))) (q_let ((q_sA s 15 (upd (s.1 15) 5 (vp_nar .boolean 0)))) fun r1074 => q_let (dz_M206 (q_sA r1074 15 (upd (r1074.1 15) 4 (vp_nar .boolean 0))) a1 2) fun r1075 => cond r1075 (q_let ((q_sA r1074 15 (upd (r1074.1 15) 4 (vp_nar .boolean 0)))) fun r1076 => q_let (dz_M206 (q_sA r1076 15 (upd (r1076.1 15) 3 (vp_nar .boolean 1))) a1 3) fun r1077 => cond r1077 (q_let ((q_sA r1076 15 (upd (r1076.1 15) 3 (vp_nar .boolean 1)))) fun r1078 => q_let (dz_M206 (q_sA r1078 15 (upd (r1078.1 15) 2 (vp_nar .boolean 1))) a1 6) fun r1079 => cond r1079 (q_let ((q_sA r1078 15 (upd (r1078.1 15) 2 (vp_nar .boolean 1)))) fun r1080 => q_let (dz_M206 (q_sA r1080 15 (upd (r1080.1 15) 1 (vp_nar .boolean 1))) a1 7) fun r1081 => cond r1081 (q_let ((q_sA r1080 15 (upd (r1080.1 15) 1 (vp_nar .boolean 1)))) fun r1082 => (q_sA r1082 15 (upd (r1082.1 15) 0 (vp_nar .boolean 1)))) (q_let ((q_sA r1080 15 (upd (r1080.1 15) 1 (vp_nar .boolean 1)))) fun r1083 => (q_sA r1083 15 (upd (r1083.1 15) 0 (vp_nar .boolean 0))))) (q_let ((q_sA r1078 15 (upd (r1078.1 15) 2 (vp_nar .boolean 1)))) fun r1084 => q_let (dz_M206 (q_sA r1084 15 (upd (r1084.1 15) 1 (vp_nar .boolean 0))) a1 7) fun r1085 => cond r1085 (q_let ((q_sA r1084 15 (upd (r1084.1 15) 1 (vp_nar .boolean 0)))) fun r1086 => (q_sA r1086 15 (upd (r1086.1 15) 0 (vp_nar .boolean 1)))) (q_let ((q_sA r1084 15 (upd (r1084.1 15) 1 (vp_nar .boolean 0)))) fun r1087 => (q_sA r1087 15 (upd (r1087.1 15) 0 (vp_nar .boolean 0)))))) (q_let ((q_sA r1076 15 (upd (r1076.1 15) 3 (vp_nar .boolean 1)))) fun r1088 => q_let (dz_M206 (q_sA r1088 15 (upd (r1088.1 15) 2 (vp_nar .boolean 0))) a1 6) fun r1089 => cond r1089 (q_let ((q_sA r1088 15 (upd (r1088.1 15) 2 (vp_nar .boolean 0)))) fun r1090 => q_let (dz_M206 (q_sA r1090 15 (upd (r1090.1 15) 1 (vp_nar .boolean 1))) a1 7) fun r1091 => cond r1091 (q_let ((q_sA r1090 15 (upd (r1090.1 15) 1 (vp_nar .boolean 1)))) fun r1092 => (q_sA r1092 15 (upd (r1092.1 15) 0 (vp_nar .boolean 1)))) (q_let ((q_sA r1090 15 (upd (r1090.1 15) 1 (vp_nar .boolean 1)))) fun r1093 => (q_sA r1093 15 (upd (r1093.1 15) 0 (vp_nar .boolean 0))))) (q_let ((q_sA r1088 15 (upd (r1088.1 15) 2 (vp_nar .boolean 0)))) fun r1094 => q_let (dz_M206 (q_sA r1094 15 (upd (r1094.1 15) 1 (vp_nar .boolean 0))) a1 7) fun r1095 => cond r1095 (q_let ((q_sA r1094 15 (upd (r1094.1 15) 1 (vp_nar .boolean 0)))) fun r1096 => (q_sA r1096 15 (upd (r1096.1 15) 0 (vp_nar .boolean 1)))) (q_let ((q_sA r1094 15 (upd (r1094.1 15) 1 (vp_nar .boolean 0)))) fun r1097 => (q_sA r1097 15 (upd (r1097.1 15) 0 (vp_nar .boolean 0))))))) (q_let ((q_sA r1074 15 (upd (r1074.1 15) 4 (vp_nar .boolean 0)))) fun r1098 => q_let (dz_M206 (q_sA r1098 15 (upd (r1098.1 15) 3 (vp_nar .boolean 0))) a1 3) fun r1099 => cond r1099 (q_let ((q_sA r1098 15 (upd (r1098.1 15) 3 (vp_nar .boolean 0)))) fun r1100 => q_let (dz_M206 (q_sA r1100 15 (upd (r1100.1 15) 2 (vp_nar .boolean 1))) a1 6) fun r1101 => cond r1101 (q_let ((q_sA r1100 15 (upd (r1100.1 15) 2 (vp_nar .boolean 1)))) fun r1102 => q_let (dz_M206 (q_sA r1102 15 (upd (r1102.1 15) 1 (vp_nar .boolean 1))) a1 7) fun r1103 => cond r1103 (q_let ((q_sA r1102 15 (upd (r1102.1 15) 1 (vp_nar .boolean 1)))) fun r1104 => (q_sA r1104 15 (upd (r1104.1 15) 0 (vp_nar .boolean 1)))) (q_let ((q_sA r1102 15 (upd (r1102.1 15) 1 (vp_nar .boolean 1)))) fun r1105 => (q_sA r1105 15 (upd (r1105.1 15) 0 (vp_nar .boolean 0))))) (q_let ((q_sA r1100 15 (upd (r1100.1 15) 2 (vp_nar .boolean 1)))) fun r1106 => q_let (dz_M206 (q_sA r1106 15 (upd (r1106.1 15) 1 (vp_nar .boolean 0))) a1 7) fun r1107 => cond r1107 (q_let ((q_sA r1106 15 (upd (r1106.1 15) 1 (vp_nar .boolean 0)))) fun r1108 => (q_sA r1108 15 (upd (r1108.1 15) 0 (vp_nar .boolean 1)))) (q_let ((q_sA r1106 15 (upd (r1106.1 15) 1 (vp_nar .boolean 0)))) fun r1109 => (q_sA r1109 15 (upd (r1109.1 15) 0 (vp_nar .boolean 0)))))) (q_let ((q_sA r1098 15 (upd (r1098.1 15) 3 (vp_nar .boolean 0)))) fun r1110 => q_let (dz_M206 (q_sA r1110 15 (upd (r1110.1 15) 2 (vp_nar .boolean 0))) a1 6) fun r1111 => cond r1111 (q_let ((q_sA r1110 15 (upd (r1110.1 15) 2 (vp_nar .boolean 0)))) fun r1112 => q_let (dz_M206 (q_sA r1112 15 (upd (r1112.1 15) 1 (vp_nar .boolean 1))) a1 7) fun r1113 => cond r1113 (q_let ((q_sA r1112 15 (upd (r1112.1 15) 1 (vp_nar .boolean 1)))) fun r1114 => (q_sA r1114 15 (upd (r1114.1 15) 0 (vp_nar .boolean 1)))) (q_let ((q_sA r1112 15 (upd (r1112.1 15) 1 (vp_nar .boolean 1)))) fun r1115 => (q_sA r1115 15 (upd (r1115.1 15) 0 (vp_nar .boolean 0))))) (q_let ((q_sA r1110 15 (upd (r1110.1 15) 2 (vp_nar .boolean 0)))) fun r1116 => q_let (dz_M206 (q_sA r1116 15 (upd (r1116.1 15) 1 (vp_nar .boolean 0))) a1 7) fun r1117 => cond r1117 (q_let ((q_sA r1116 15 (upd (r1116.1 15) 1 (vp_nar .boolean 0)))) fun r1118 => (q_sA r1118 15 (upd (r1118.1 15) 0 (vp_nar .boolean 1)))) (q_let ((q_sA r1116 15 (upd (r1116.1 15) 1 (vp_nar .boolean 0)))) fun r1119 => (q_sA r1119 15 (upd (r1119.1 15) 0 (vp_nar .boolean 0)))))))))
set_option maxHeartbeats 4000000 in
theorem dzt_M259_64 (s : q_S) (c n : Nat) (a1 : Int32) : q_Ca q_TB0 2 258 [.ref 64, .int a1] (q_kM s c n) ((q_oSM c n) (dz_M259_64 s a1)) := by
  refine q_CaT_of (φ := (q_oSM c n)) (Nat.le_of_ble_eq_true rfl) ?_
  unfold dz_M259_64
  refine q_RT_seg (g2 := (7, [(0, .ref 64), (1, .int a1)], [.int 0, .int a1, .int 5, .ref 79], (q_kM s c n))) 5 (fun _ _ => rfl) ?_
  refine q_RT_call (v := (some (.int (q_b (dz_M206 s a1 0))))) (h2 := (q_kM s c n)) rfl rfl ((dzt_M206 s c n a1 0).le (Nat.le_of_ble_eq_true rfl)) ?_
  generalize dz_M206 s a1 0 = r933
  refine q_RT_let ?_
  show q_RT _ _ _ (10, [(0, .ref 64), (1, .int a1)], [.int (q_b r933), .int 5, .ref 79], (q_kM s c n)) _ _
  cases h1269 : r933 with
  | true =>
    refine q_RT_cT ?_
    show q_RT _ _ _ (10, [(0, .ref 64), (1, .int a1)], [.int 1, .int 5, .ref 79], (q_kM s c n)) _ _
    refine q_RT_seg (g2 := (18, [(0, .ref 64), (1, .int a1)], [.int 1, .int a1, .int 4, .ref 79], (q_kM (q_sA s 15 (upd (s.1 15) 5 (vp_nar .boolean 1))) c n))) 6 (fun _ _ => rfl) ?_
    refine q_RT_call (v := (some (.int (q_b (dz_M206 (q_sA s 15 (upd (s.1 15) 5 (vp_nar .boolean 1))) a1 1))))) (h2 := (q_kM (q_sA s 15 (upd (s.1 15) 5 (vp_nar .boolean 1))) c n)) rfl rfl ((dzt_M206 (q_sA s 15 (upd (s.1 15) 5 (vp_nar .boolean 1))) c n a1 1).le (Nat.le_of_ble_eq_true rfl)) ?_
    generalize dz_M206 (q_sA s 15 (upd (s.1 15) 5 (vp_nar .boolean 1))) a1 1 = r934
    refine q_RT_let ?_
    show q_RT _ _ _ (21, [(0, .ref 64), (1, .int a1)], [.int (q_b r934), .int 4, .ref 79], (q_kM (q_sA s 15 (upd (s.1 15) 5 (vp_nar .boolean 1))) c n)) _ _
    cases h1270 : r934 with
    | true =>
      refine q_RT_cT ?_
      show q_RT _ _ _ (21, [(0, .ref 64), (1, .int a1)], [.int 1, .int 4, .ref 79], (q_kM (q_sA s 15 (upd (s.1 15) 5 (vp_nar .boolean 1))) c n)) _ _
      generalize (q_sA s 15 (upd (s.1 15) 5 (vp_nar .boolean 1))) = r935
      refine q_RT_let ?_
      show q_RT _ _ _ (21, [(0, .ref 64), (1, .int a1)], [.int 1, .int 4, .ref 79], (q_kM r935 c n)) _ _
      refine q_RT_seg (g2 := (29, [(0, .ref 64), (1, .int a1)], [.int 2, .int a1, .int 3, .ref 79], (q_kM (q_sA r935 15 (upd (r935.1 15) 4 (vp_nar .boolean 1))) c n))) 6 (fun _ _ => rfl) ?_
      refine q_RT_call (v := (some (.int (q_b (dz_M206 (q_sA r935 15 (upd (r935.1 15) 4 (vp_nar .boolean 1))) a1 2))))) (h2 := (q_kM (q_sA r935 15 (upd (r935.1 15) 4 (vp_nar .boolean 1))) c n)) rfl rfl ((dzt_M206 (q_sA r935 15 (upd (r935.1 15) 4 (vp_nar .boolean 1))) c n a1 2).le (Nat.le_of_ble_eq_true rfl)) ?_
      generalize dz_M206 (q_sA r935 15 (upd (r935.1 15) 4 (vp_nar .boolean 1))) a1 2 = r936
      refine q_RT_let ?_
      show q_RT _ _ _ (32, [(0, .ref 64), (1, .int a1)], [.int (q_b r936), .int 3, .ref 79], (q_kM (q_sA r935 15 (upd (r935.1 15) 4 (vp_nar .boolean 1))) c n)) _ _
      cases h1271 : r936 with
      | true =>
        refine q_RT_cT ?_
        show q_RT _ _ _ (32, [(0, .ref 64), (1, .int a1)], [.int 1, .int 3, .ref 79], (q_kM (q_sA r935 15 (upd (r935.1 15) 4 (vp_nar .boolean 1))) c n)) _ _
        generalize (q_sA r935 15 (upd (r935.1 15) 4 (vp_nar .boolean 1))) = r937
        refine q_RT_let ?_
        show q_RT _ _ _ (32, [(0, .ref 64), (1, .int a1)], [.int 1, .int 3, .ref 79], (q_kM r937 c n)) _ _
        refine q_RT_seg (g2 := (40, [(0, .ref 64), (1, .int a1)], [.int 3, .int a1, .int 2, .ref 79], (q_kM (q_sA r937 15 (upd (r937.1 15) 3 (vp_nar .boolean 1))) c n))) 6 (fun _ _ => rfl) ?_
        refine q_RT_call (v := (some (.int (q_b (dz_M206 (q_sA r937 15 (upd (r937.1 15) 3 (vp_nar .boolean 1))) a1 3))))) (h2 := (q_kM (q_sA r937 15 (upd (r937.1 15) 3 (vp_nar .boolean 1))) c n)) rfl rfl ((dzt_M206 (q_sA r937 15 (upd (r937.1 15) 3 (vp_nar .boolean 1))) c n a1 3).le (Nat.le_of_ble_eq_true rfl)) ?_
        generalize dz_M206 (q_sA r937 15 (upd (r937.1 15) 3 (vp_nar .boolean 1))) a1 3 = r938
        refine q_RT_let ?_
        show q_RT _ _ _ (43, [(0, .ref 64), (1, .int a1)], [.int (q_b r938), .int 2, .ref 79], (q_kM (q_sA r937 15 (upd (r937.1 15) 3 (vp_nar .boolean 1))) c n)) _ _
        cases h1272 : r938 with
        | true =>
          refine q_RT_cT ?_
          show q_RT _ _ _ (43, [(0, .ref 64), (1, .int a1)], [.int 1, .int 2, .ref 79], (q_kM (q_sA r937 15 (upd (r937.1 15) 3 (vp_nar .boolean 1))) c n)) _ _
          generalize (q_sA r937 15 (upd (r937.1 15) 3 (vp_nar .boolean 1))) = r939
          refine q_RT_let ?_
          show q_RT _ _ _ (43, [(0, .ref 64), (1, .int a1)], [.int 1, .int 2, .ref 79], (q_kM r939 c n)) _ _
          refine q_RT_seg (g2 := (52, [(0, .ref 64), (1, .int a1)], [.int 6, .int a1, .int 1, .ref 79], (q_kM (q_sA r939 15 (upd (r939.1 15) 2 (vp_nar .boolean 1))) c n))) 6 (fun _ _ => rfl) ?_
          refine q_RT_call (v := (some (.int (q_b (dz_M206 (q_sA r939 15 (upd (r939.1 15) 2 (vp_nar .boolean 1))) a1 6))))) (h2 := (q_kM (q_sA r939 15 (upd (r939.1 15) 2 (vp_nar .boolean 1))) c n)) rfl rfl ((dzt_M206 (q_sA r939 15 (upd (r939.1 15) 2 (vp_nar .boolean 1))) c n a1 6).le (Nat.le_of_ble_eq_true rfl)) ?_
          generalize dz_M206 (q_sA r939 15 (upd (r939.1 15) 2 (vp_nar .boolean 1))) a1 6 = r940
          refine q_RT_let ?_
          show q_RT _ _ _ (55, [(0, .ref 64), (1, .int a1)], [.int (q_b r940), .int 1, .ref 79], (q_kM (q_sA r939 15 (upd (r939.1 15) 2 (vp_nar .boolean 1))) c n)) _ _
          cases h1273 : r940 with
          | true =>
            refine q_RT_cT ?_
            show q_RT _ _ _ (55, [(0, .ref 64), (1, .int a1)], [.int 1, .int 1, .ref 79], (q_kM (q_sA r939 15 (upd (r939.1 15) 2 (vp_nar .boolean 1))) c n)) _ _
            generalize (q_sA r939 15 (upd (r939.1 15) 2 (vp_nar .boolean 1))) = r941
            refine q_RT_let ?_
            show q_RT _ _ _ (55, [(0, .ref 64), (1, .int a1)], [.int 1, .int 1, .ref 79], (q_kM r941 c n)) _ _
            refine q_RT_seg (g2 := (64, [(0, .ref 64), (1, .int a1)], [.int 7, .int a1, .int 0, .ref 79], (q_kM (q_sA r941 15 (upd (r941.1 15) 1 (vp_nar .boolean 1))) c n))) 6 (fun _ _ => rfl) ?_
            refine q_RT_call (v := (some (.int (q_b (dz_M206 (q_sA r941 15 (upd (r941.1 15) 1 (vp_nar .boolean 1))) a1 7))))) (h2 := (q_kM (q_sA r941 15 (upd (r941.1 15) 1 (vp_nar .boolean 1))) c n)) rfl rfl ((dzt_M206 (q_sA r941 15 (upd (r941.1 15) 1 (vp_nar .boolean 1))) c n a1 7).le (Nat.le_of_ble_eq_true rfl)) ?_
            generalize dz_M206 (q_sA r941 15 (upd (r941.1 15) 1 (vp_nar .boolean 1))) a1 7 = r942
            refine q_RT_let ?_
            show q_RT _ _ _ (67, [(0, .ref 64), (1, .int a1)], [.int (q_b r942), .int 0, .ref 79], (q_kM (q_sA r941 15 (upd (r941.1 15) 1 (vp_nar .boolean 1))) c n)) _ _
            cases h1274 : r942 with
            | true =>
              refine q_RT_cT ?_
              show q_RT _ _ _ (67, [(0, .ref 64), (1, .int a1)], [.int 1, .int 0, .ref 79], (q_kM (q_sA r941 15 (upd (r941.1 15) 1 (vp_nar .boolean 1))) c n)) _ _
              generalize (q_sA r941 15 (upd (r941.1 15) 1 (vp_nar .boolean 1))) = r943
              refine q_RT_let ?_
              show q_RT _ _ _ (67, [(0, .ref 64), (1, .int a1)], [.int 1, .int 0, .ref 79], (q_kM r943 c n)) _ _
              refine q_RT_seg (g2 := (68, [(0, .ref 64), (1, .int a1)], [], (q_kM (q_sA r943 15 (upd (r943.1 15) 0 (vp_nar .boolean 1))) c n))) 1 (fun _ _ => rfl) ?_
              exact q_RT_ret rfl rfl rfl
            | false =>
              refine q_RT_cF ?_
              show q_RT _ _ _ (67, [(0, .ref 64), (1, .int a1)], [.int 0, .int 0, .ref 79], (q_kM (q_sA r941 15 (upd (r941.1 15) 1 (vp_nar .boolean 1))) c n)) _ _
              generalize (q_sA r941 15 (upd (r941.1 15) 1 (vp_nar .boolean 1))) = r944
              refine q_RT_let ?_
              show q_RT _ _ _ (67, [(0, .ref 64), (1, .int a1)], [.int 0, .int 0, .ref 79], (q_kM r944 c n)) _ _
              refine q_RT_seg (g2 := (68, [(0, .ref 64), (1, .int a1)], [], (q_kM (q_sA r944 15 (upd (r944.1 15) 0 (vp_nar .boolean 0))) c n))) 1 (fun _ _ => rfl) ?_
              exact q_RT_ret rfl rfl rfl
          | false =>
            refine q_RT_cF ?_
            show q_RT _ _ _ (55, [(0, .ref 64), (1, .int a1)], [.int 0, .int 1, .ref 79], (q_kM (q_sA r939 15 (upd (r939.1 15) 2 (vp_nar .boolean 1))) c n)) _ _
            generalize (q_sA r939 15 (upd (r939.1 15) 2 (vp_nar .boolean 1))) = r945
            refine q_RT_let ?_
            show q_RT _ _ _ (55, [(0, .ref 64), (1, .int a1)], [.int 0, .int 1, .ref 79], (q_kM r945 c n)) _ _
            refine q_RT_seg (g2 := (64, [(0, .ref 64), (1, .int a1)], [.int 7, .int a1, .int 0, .ref 79], (q_kM (q_sA r945 15 (upd (r945.1 15) 1 (vp_nar .boolean 0))) c n))) 6 (fun _ _ => rfl) ?_
            refine q_RT_call (v := (some (.int (q_b (dz_M206 (q_sA r945 15 (upd (r945.1 15) 1 (vp_nar .boolean 0))) a1 7))))) (h2 := (q_kM (q_sA r945 15 (upd (r945.1 15) 1 (vp_nar .boolean 0))) c n)) rfl rfl ((dzt_M206 (q_sA r945 15 (upd (r945.1 15) 1 (vp_nar .boolean 0))) c n a1 7).le (Nat.le_of_ble_eq_true rfl)) ?_
            generalize dz_M206 (q_sA r945 15 (upd (r945.1 15) 1 (vp_nar .boolean 0))) a1 7 = r946
            refine q_RT_let ?_
            show q_RT _ _ _ (67, [(0, .ref 64), (1, .int a1)], [.int (q_b r946), .int 0, .ref 79], (q_kM (q_sA r945 15 (upd (r945.1 15) 1 (vp_nar .boolean 0))) c n)) _ _
            cases h1275 : r946 with
            | true =>
              refine q_RT_cT ?_
              show q_RT _ _ _ (67, [(0, .ref 64), (1, .int a1)], [.int 1, .int 0, .ref 79], (q_kM (q_sA r945 15 (upd (r945.1 15) 1 (vp_nar .boolean 0))) c n)) _ _
              generalize (q_sA r945 15 (upd (r945.1 15) 1 (vp_nar .boolean 0))) = r947
              refine q_RT_let ?_
              show q_RT _ _ _ (67, [(0, .ref 64), (1, .int a1)], [.int 1, .int 0, .ref 79], (q_kM r947 c n)) _ _
              refine q_RT_seg (g2 := (68, [(0, .ref 64), (1, .int a1)], [], (q_kM (q_sA r947 15 (upd (r947.1 15) 0 (vp_nar .boolean 1))) c n))) 1 (fun _ _ => rfl) ?_
              exact q_RT_ret rfl rfl rfl
            | false =>
              refine q_RT_cF ?_
              show q_RT _ _ _ (67, [(0, .ref 64), (1, .int a1)], [.int 0, .int 0, .ref 79], (q_kM (q_sA r945 15 (upd (r945.1 15) 1 (vp_nar .boolean 0))) c n)) _ _
              generalize (q_sA r945 15 (upd (r945.1 15) 1 (vp_nar .boolean 0))) = r948
              refine q_RT_let ?_
              show q_RT _ _ _ (67, [(0, .ref 64), (1, .int a1)], [.int 0, .int 0, .ref 79], (q_kM r948 c n)) _ _
              refine q_RT_seg (g2 := (68, [(0, .ref 64), (1, .int a1)], [], (q_kM (q_sA r948 15 (upd (r948.1 15) 0 (vp_nar .boolean 0))) c n))) 1 (fun _ _ => rfl) ?_
              exact q_RT_ret rfl rfl rfl
        | false =>
          refine q_RT_cF ?_
          show q_RT _ _ _ (43, [(0, .ref 64), (1, .int a1)], [.int 0, .int 2, .ref 79], (q_kM (q_sA r937 15 (upd (r937.1 15) 3 (vp_nar .boolean 1))) c n)) _ _
          generalize (q_sA r937 15 (upd (r937.1 15) 3 (vp_nar .boolean 1))) = r949
          refine q_RT_let ?_
          show q_RT _ _ _ (43, [(0, .ref 64), (1, .int a1)], [.int 0, .int 2, .ref 79], (q_kM r949 c n)) _ _
          refine q_RT_seg (g2 := (52, [(0, .ref 64), (1, .int a1)], [.int 6, .int a1, .int 1, .ref 79], (q_kM (q_sA r949 15 (upd (r949.1 15) 2 (vp_nar .boolean 0))) c n))) 6 (fun _ _ => rfl) ?_
          refine q_RT_call (v := (some (.int (q_b (dz_M206 (q_sA r949 15 (upd (r949.1 15) 2 (vp_nar .boolean 0))) a1 6))))) (h2 := (q_kM (q_sA r949 15 (upd (r949.1 15) 2 (vp_nar .boolean 0))) c n)) rfl rfl ((dzt_M206 (q_sA r949 15 (upd (r949.1 15) 2 (vp_nar .boolean 0))) c n a1 6).le (Nat.le_of_ble_eq_true rfl)) ?_
          generalize dz_M206 (q_sA r949 15 (upd (r949.1 15) 2 (vp_nar .boolean 0))) a1 6 = r950
          refine q_RT_let ?_
          show q_RT _ _ _ (55, [(0, .ref 64), (1, .int a1)], [.int (q_b r950), .int 1, .ref 79], (q_kM (q_sA r949 15 (upd (r949.1 15) 2 (vp_nar .boolean 0))) c n)) _ _
          cases h1276 : r950 with
          | true =>
            refine q_RT_cT ?_
            show q_RT _ _ _ (55, [(0, .ref 64), (1, .int a1)], [.int 1, .int 1, .ref 79], (q_kM (q_sA r949 15 (upd (r949.1 15) 2 (vp_nar .boolean 0))) c n)) _ _
            generalize (q_sA r949 15 (upd (r949.1 15) 2 (vp_nar .boolean 0))) = r951
            refine q_RT_let ?_
            show q_RT _ _ _ (55, [(0, .ref 64), (1, .int a1)], [.int 1, .int 1, .ref 79], (q_kM r951 c n)) _ _
            refine q_RT_seg (g2 := (64, [(0, .ref 64), (1, .int a1)], [.int 7, .int a1, .int 0, .ref 79], (q_kM (q_sA r951 15 (upd (r951.1 15) 1 (vp_nar .boolean 1))) c n))) 6 (fun _ _ => rfl) ?_
            refine q_RT_call (v := (some (.int (q_b (dz_M206 (q_sA r951 15 (upd (r951.1 15) 1 (vp_nar .boolean 1))) a1 7))))) (h2 := (q_kM (q_sA r951 15 (upd (r951.1 15) 1 (vp_nar .boolean 1))) c n)) rfl rfl ((dzt_M206 (q_sA r951 15 (upd (r951.1 15) 1 (vp_nar .boolean 1))) c n a1 7).le (Nat.le_of_ble_eq_true rfl)) ?_
            generalize dz_M206 (q_sA r951 15 (upd (r951.1 15) 1 (vp_nar .boolean 1))) a1 7 = r952
            refine q_RT_let ?_
            show q_RT _ _ _ (67, [(0, .ref 64), (1, .int a1)], [.int (q_b r952), .int 0, .ref 79], (q_kM (q_sA r951 15 (upd (r951.1 15) 1 (vp_nar .boolean 1))) c n)) _ _
            cases h1277 : r952 with
            | true =>
              refine q_RT_cT ?_
              show q_RT _ _ _ (67, [(0, .ref 64), (1, .int a1)], [.int 1, .int 0, .ref 79], (q_kM (q_sA r951 15 (upd (r951.1 15) 1 (vp_nar .boolean 1))) c n)) _ _
              generalize (q_sA r951 15 (upd (r951.1 15) 1 (vp_nar .boolean 1))) = r953
              refine q_RT_let ?_
              show q_RT _ _ _ (67, [(0, .ref 64), (1, .int a1)], [.int 1, .int 0, .ref 79], (q_kM r953 c n)) _ _
              refine q_RT_seg (g2 := (68, [(0, .ref 64), (1, .int a1)], [], (q_kM (q_sA r953 15 (upd (r953.1 15) 0 (vp_nar .boolean 1))) c n))) 1 (fun _ _ => rfl) ?_
              exact q_RT_ret rfl rfl rfl
            | false =>
              refine q_RT_cF ?_
              show q_RT _ _ _ (67, [(0, .ref 64), (1, .int a1)], [.int 0, .int 0, .ref 79], (q_kM (q_sA r951 15 (upd (r951.1 15) 1 (vp_nar .boolean 1))) c n)) _ _
              generalize (q_sA r951 15 (upd (r951.1 15) 1 (vp_nar .boolean 1))) = r954
              refine q_RT_let ?_
              show q_RT _ _ _ (67, [(0, .ref 64), (1, .int a1)], [.int 0, .int 0, .ref 79], (q_kM r954 c n)) _ _
              refine q_RT_seg (g2 := (68, [(0, .ref 64), (1, .int a1)], [], (q_kM (q_sA r954 15 (upd (r954.1 15) 0 (vp_nar .boolean 0))) c n))) 1 (fun _ _ => rfl) ?_
              exact q_RT_ret rfl rfl rfl
          | false =>
            refine q_RT_cF ?_
            show q_RT _ _ _ (55, [(0, .ref 64), (1, .int a1)], [.int 0, .int 1, .ref 79], (q_kM (q_sA r949 15 (upd (r949.1 15) 2 (vp_nar .boolean 0))) c n)) _ _
            generalize (q_sA r949 15 (upd (r949.1 15) 2 (vp_nar .boolean 0))) = r955
            refine q_RT_let ?_
            show q_RT _ _ _ (55, [(0, .ref 64), (1, .int a1)], [.int 0, .int 1, .ref 79], (q_kM r955 c n)) _ _
            refine q_RT_seg (g2 := (64, [(0, .ref 64), (1, .int a1)], [.int 7, .int a1, .int 0, .ref 79], (q_kM (q_sA r955 15 (upd (r955.1 15) 1 (vp_nar .boolean 0))) c n))) 6 (fun _ _ => rfl) ?_
            refine q_RT_call (v := (some (.int (q_b (dz_M206 (q_sA r955 15 (upd (r955.1 15) 1 (vp_nar .boolean 0))) a1 7))))) (h2 := (q_kM (q_sA r955 15 (upd (r955.1 15) 1 (vp_nar .boolean 0))) c n)) rfl rfl ((dzt_M206 (q_sA r955 15 (upd (r955.1 15) 1 (vp_nar .boolean 0))) c n a1 7).le (Nat.le_of_ble_eq_true rfl)) ?_
            generalize dz_M206 (q_sA r955 15 (upd (r955.1 15) 1 (vp_nar .boolean 0))) a1 7 = r956
            refine q_RT_let ?_
            show q_RT _ _ _ (67, [(0, .ref 64), (1, .int a1)], [.int (q_b r956), .int 0, .ref 79], (q_kM (q_sA r955 15 (upd (r955.1 15) 1 (vp_nar .boolean 0))) c n)) _ _
            cases h1278 : r956 with
            | true =>
              refine q_RT_cT ?_
              show q_RT _ _ _ (67, [(0, .ref 64), (1, .int a1)], [.int 1, .int 0, .ref 79], (q_kM (q_sA r955 15 (upd (r955.1 15) 1 (vp_nar .boolean 0))) c n)) _ _
              generalize (q_sA r955 15 (upd (r955.1 15) 1 (vp_nar .boolean 0))) = r957
              refine q_RT_let ?_
              show q_RT _ _ _ (67, [(0, .ref 64), (1, .int a1)], [.int 1, .int 0, .ref 79], (q_kM r957 c n)) _ _
              refine q_RT_seg (g2 := (68, [(0, .ref 64), (1, .int a1)], [], (q_kM (q_sA r957 15 (upd (r957.1 15) 0 (vp_nar .boolean 1))) c n))) 1 (fun _ _ => rfl) ?_
              exact q_RT_ret rfl rfl rfl
            | false =>
              refine q_RT_cF ?_
              show q_RT _ _ _ (67, [(0, .ref 64), (1, .int a1)], [.int 0, .int 0, .ref 79], (q_kM (q_sA r955 15 (upd (r955.1 15) 1 (vp_nar .boolean 0))) c n)) _ _
              generalize (q_sA r955 15 (upd (r955.1 15) 1 (vp_nar .boolean 0))) = r958
              refine q_RT_let ?_
              show q_RT _ _ _ (67, [(0, .ref 64), (1, .int a1)], [.int 0, .int 0, .ref 79], (q_kM r958 c n)) _ _
              refine q_RT_seg (g2 := (68, [(0, .ref 64), (1, .int a1)], [], (q_kM (q_sA r958 15 (upd (r958.1 15) 0 (vp_nar .boolean 0))) c n))) 1 (fun _ _ => rfl) ?_
              exact q_RT_ret rfl rfl rfl
      | false =>
        refine q_RT_cF ?_
        show q_RT _ _ _ (32, [(0, .ref 64), (1, .int a1)], [.int 0, .int 3, .ref 79], (q_kM (q_sA r935 15 (upd (r935.1 15) 4 (vp_nar .boolean 1))) c n)) _ _
        generalize (q_sA r935 15 (upd (r935.1 15) 4 (vp_nar .boolean 1))) = r959
        refine q_RT_let ?_
        show q_RT _ _ _ (32, [(0, .ref 64), (1, .int a1)], [.int 0, .int 3, .ref 79], (q_kM r959 c n)) _ _
        refine q_RT_seg (g2 := (40, [(0, .ref 64), (1, .int a1)], [.int 3, .int a1, .int 2, .ref 79], (q_kM (q_sA r959 15 (upd (r959.1 15) 3 (vp_nar .boolean 0))) c n))) 6 (fun _ _ => rfl) ?_
        refine q_RT_call (v := (some (.int (q_b (dz_M206 (q_sA r959 15 (upd (r959.1 15) 3 (vp_nar .boolean 0))) a1 3))))) (h2 := (q_kM (q_sA r959 15 (upd (r959.1 15) 3 (vp_nar .boolean 0))) c n)) rfl rfl ((dzt_M206 (q_sA r959 15 (upd (r959.1 15) 3 (vp_nar .boolean 0))) c n a1 3).le (Nat.le_of_ble_eq_true rfl)) ?_
        generalize dz_M206 (q_sA r959 15 (upd (r959.1 15) 3 (vp_nar .boolean 0))) a1 3 = r960
        refine q_RT_let ?_
        show q_RT _ _ _ (43, [(0, .ref 64), (1, .int a1)], [.int (q_b r960), .int 2, .ref 79], (q_kM (q_sA r959 15 (upd (r959.1 15) 3 (vp_nar .boolean 0))) c n)) _ _
        cases h1279 : r960 with
        | true =>
          refine q_RT_cT ?_
          show q_RT _ _ _ (43, [(0, .ref 64), (1, .int a1)], [.int 1, .int 2, .ref 79], (q_kM (q_sA r959 15 (upd (r959.1 15) 3 (vp_nar .boolean 0))) c n)) _ _
          generalize (q_sA r959 15 (upd (r959.1 15) 3 (vp_nar .boolean 0))) = r961
          refine q_RT_let ?_
          show q_RT _ _ _ (43, [(0, .ref 64), (1, .int a1)], [.int 1, .int 2, .ref 79], (q_kM r961 c n)) _ _
          refine q_RT_seg (g2 := (52, [(0, .ref 64), (1, .int a1)], [.int 6, .int a1, .int 1, .ref 79], (q_kM (q_sA r961 15 (upd (r961.1 15) 2 (vp_nar .boolean 1))) c n))) 6 (fun _ _ => rfl) ?_
          refine q_RT_call (v := (some (.int (q_b (dz_M206 (q_sA r961 15 (upd (r961.1 15) 2 (vp_nar .boolean 1))) a1 6))))) (h2 := (q_kM (q_sA r961 15 (upd (r961.1 15) 2 (vp_nar .boolean 1))) c n)) rfl rfl ((dzt_M206 (q_sA r961 15 (upd (r961.1 15) 2 (vp_nar .boolean 1))) c n a1 6).le (Nat.le_of_ble_eq_true rfl)) ?_
          generalize dz_M206 (q_sA r961 15 (upd (r961.1 15) 2 (vp_nar .boolean 1))) a1 6 = r962
          refine q_RT_let ?_
          show q_RT _ _ _ (55, [(0, .ref 64), (1, .int a1)], [.int (q_b r962), .int 1, .ref 79], (q_kM (q_sA r961 15 (upd (r961.1 15) 2 (vp_nar .boolean 1))) c n)) _ _
          cases h1280 : r962 with
          | true =>
            refine q_RT_cT ?_
            show q_RT _ _ _ (55, [(0, .ref 64), (1, .int a1)], [.int 1, .int 1, .ref 79], (q_kM (q_sA r961 15 (upd (r961.1 15) 2 (vp_nar .boolean 1))) c n)) _ _
            generalize (q_sA r961 15 (upd (r961.1 15) 2 (vp_nar .boolean 1))) = r963
            refine q_RT_let ?_
            show q_RT _ _ _ (55, [(0, .ref 64), (1, .int a1)], [.int 1, .int 1, .ref 79], (q_kM r963 c n)) _ _
            refine q_RT_seg (g2 := (64, [(0, .ref 64), (1, .int a1)], [.int 7, .int a1, .int 0, .ref 79], (q_kM (q_sA r963 15 (upd (r963.1 15) 1 (vp_nar .boolean 1))) c n))) 6 (fun _ _ => rfl) ?_
            refine q_RT_call (v := (some (.int (q_b (dz_M206 (q_sA r963 15 (upd (r963.1 15) 1 (vp_nar .boolean 1))) a1 7))))) (h2 := (q_kM (q_sA r963 15 (upd (r963.1 15) 1 (vp_nar .boolean 1))) c n)) rfl rfl ((dzt_M206 (q_sA r963 15 (upd (r963.1 15) 1 (vp_nar .boolean 1))) c n a1 7).le (Nat.le_of_ble_eq_true rfl)) ?_
            generalize dz_M206 (q_sA r963 15 (upd (r963.1 15) 1 (vp_nar .boolean 1))) a1 7 = r964
            refine q_RT_let ?_
            show q_RT _ _ _ (67, [(0, .ref 64), (1, .int a1)], [.int (q_b r964), .int 0, .ref 79], (q_kM (q_sA r963 15 (upd (r963.1 15) 1 (vp_nar .boolean 1))) c n)) _ _
            cases h1281 : r964 with
            | true =>
              refine q_RT_cT ?_
              show q_RT _ _ _ (67, [(0, .ref 64), (1, .int a1)], [.int 1, .int 0, .ref 79], (q_kM (q_sA r963 15 (upd (r963.1 15) 1 (vp_nar .boolean 1))) c n)) _ _
              generalize (q_sA r963 15 (upd (r963.1 15) 1 (vp_nar .boolean 1))) = r965
              refine q_RT_let ?_
              show q_RT _ _ _ (67, [(0, .ref 64), (1, .int a1)], [.int 1, .int 0, .ref 79], (q_kM r965 c n)) _ _
              refine q_RT_seg (g2 := (68, [(0, .ref 64), (1, .int a1)], [], (q_kM (q_sA r965 15 (upd (r965.1 15) 0 (vp_nar .boolean 1))) c n))) 1 (fun _ _ => rfl) ?_
              exact q_RT_ret rfl rfl rfl
            | false =>
              refine q_RT_cF ?_
              show q_RT _ _ _ (67, [(0, .ref 64), (1, .int a1)], [.int 0, .int 0, .ref 79], (q_kM (q_sA r963 15 (upd (r963.1 15) 1 (vp_nar .boolean 1))) c n)) _ _
              generalize (q_sA r963 15 (upd (r963.1 15) 1 (vp_nar .boolean 1))) = r966
              refine q_RT_let ?_
              show q_RT _ _ _ (67, [(0, .ref 64), (1, .int a1)], [.int 0, .int 0, .ref 79], (q_kM r966 c n)) _ _
              refine q_RT_seg (g2 := (68, [(0, .ref 64), (1, .int a1)], [], (q_kM (q_sA r966 15 (upd (r966.1 15) 0 (vp_nar .boolean 0))) c n))) 1 (fun _ _ => rfl) ?_
              exact q_RT_ret rfl rfl rfl
          | false =>
            refine q_RT_cF ?_
            show q_RT _ _ _ (55, [(0, .ref 64), (1, .int a1)], [.int 0, .int 1, .ref 79], (q_kM (q_sA r961 15 (upd (r961.1 15) 2 (vp_nar .boolean 1))) c n)) _ _
            generalize (q_sA r961 15 (upd (r961.1 15) 2 (vp_nar .boolean 1))) = r967
            refine q_RT_let ?_
            show q_RT _ _ _ (55, [(0, .ref 64), (1, .int a1)], [.int 0, .int 1, .ref 79], (q_kM r967 c n)) _ _
            refine q_RT_seg (g2 := (64, [(0, .ref 64), (1, .int a1)], [.int 7, .int a1, .int 0, .ref 79], (q_kM (q_sA r967 15 (upd (r967.1 15) 1 (vp_nar .boolean 0))) c n))) 6 (fun _ _ => rfl) ?_
            refine q_RT_call (v := (some (.int (q_b (dz_M206 (q_sA r967 15 (upd (r967.1 15) 1 (vp_nar .boolean 0))) a1 7))))) (h2 := (q_kM (q_sA r967 15 (upd (r967.1 15) 1 (vp_nar .boolean 0))) c n)) rfl rfl ((dzt_M206 (q_sA r967 15 (upd (r967.1 15) 1 (vp_nar .boolean 0))) c n a1 7).le (Nat.le_of_ble_eq_true rfl)) ?_
            generalize dz_M206 (q_sA r967 15 (upd (r967.1 15) 1 (vp_nar .boolean 0))) a1 7 = r968
            refine q_RT_let ?_
            show q_RT _ _ _ (67, [(0, .ref 64), (1, .int a1)], [.int (q_b r968), .int 0, .ref 79], (q_kM (q_sA r967 15 (upd (r967.1 15) 1 (vp_nar .boolean 0))) c n)) _ _
            cases h1282 : r968 with
            | true =>
              refine q_RT_cT ?_
              show q_RT _ _ _ (67, [(0, .ref 64), (1, .int a1)], [.int 1, .int 0, .ref 79], (q_kM (q_sA r967 15 (upd (r967.1 15) 1 (vp_nar .boolean 0))) c n)) _ _
              generalize (q_sA r967 15 (upd (r967.1 15) 1 (vp_nar .boolean 0))) = r969
              refine q_RT_let ?_
              show q_RT _ _ _ (67, [(0, .ref 64), (1, .int a1)], [.int 1, .int 0, .ref 79], (q_kM r969 c n)) _ _
              refine q_RT_seg (g2 := (68, [(0, .ref 64), (1, .int a1)], [], (q_kM (q_sA r969 15 (upd (r969.1 15) 0 (vp_nar .boolean 1))) c n))) 1 (fun _ _ => rfl) ?_
              exact q_RT_ret rfl rfl rfl
            | false =>
              refine q_RT_cF ?_
              show q_RT _ _ _ (67, [(0, .ref 64), (1, .int a1)], [.int 0, .int 0, .ref 79], (q_kM (q_sA r967 15 (upd (r967.1 15) 1 (vp_nar .boolean 0))) c n)) _ _
              generalize (q_sA r967 15 (upd (r967.1 15) 1 (vp_nar .boolean 0))) = r970
              refine q_RT_let ?_
              show q_RT _ _ _ (67, [(0, .ref 64), (1, .int a1)], [.int 0, .int 0, .ref 79], (q_kM r970 c n)) _ _
              refine q_RT_seg (g2 := (68, [(0, .ref 64), (1, .int a1)], [], (q_kM (q_sA r970 15 (upd (r970.1 15) 0 (vp_nar .boolean 0))) c n))) 1 (fun _ _ => rfl) ?_
              exact q_RT_ret rfl rfl rfl
        | false =>
          refine q_RT_cF ?_
          show q_RT _ _ _ (43, [(0, .ref 64), (1, .int a1)], [.int 0, .int 2, .ref 79], (q_kM (q_sA r959 15 (upd (r959.1 15) 3 (vp_nar .boolean 0))) c n)) _ _
          generalize (q_sA r959 15 (upd (r959.1 15) 3 (vp_nar .boolean 0))) = r971
          refine q_RT_let ?_
          show q_RT _ _ _ (43, [(0, .ref 64), (1, .int a1)], [.int 0, .int 2, .ref 79], (q_kM r971 c n)) _ _
          refine q_RT_seg (g2 := (52, [(0, .ref 64), (1, .int a1)], [.int 6, .int a1, .int 1, .ref 79], (q_kM (q_sA r971 15 (upd (r971.1 15) 2 (vp_nar .boolean 0))) c n))) 6 (fun _ _ => rfl) ?_
          refine q_RT_call (v := (some (.int (q_b (dz_M206 (q_sA r971 15 (upd (r971.1 15) 2 (vp_nar .boolean 0))) a1 6))))) (h2 := (q_kM (q_sA r971 15 (upd (r971.1 15) 2 (vp_nar .boolean 0))) c n)) rfl rfl ((dzt_M206 (q_sA r971 15 (upd (r971.1 15) 2 (vp_nar .boolean 0))) c n a1 6).le (Nat.le_of_ble_eq_true rfl)) ?_
          generalize dz_M206 (q_sA r971 15 (upd (r971.1 15) 2 (vp_nar .boolean 0))) a1 6 = r972
          refine q_RT_let ?_
          show q_RT _ _ _ (55, [(0, .ref 64), (1, .int a1)], [.int (q_b r972), .int 1, .ref 79], (q_kM (q_sA r971 15 (upd (r971.1 15) 2 (vp_nar .boolean 0))) c n)) _ _
          cases h1283 : r972 with
          | true =>
            refine q_RT_cT ?_
            show q_RT _ _ _ (55, [(0, .ref 64), (1, .int a1)], [.int 1, .int 1, .ref 79], (q_kM (q_sA r971 15 (upd (r971.1 15) 2 (vp_nar .boolean 0))) c n)) _ _
            generalize (q_sA r971 15 (upd (r971.1 15) 2 (vp_nar .boolean 0))) = r973
            refine q_RT_let ?_
            show q_RT _ _ _ (55, [(0, .ref 64), (1, .int a1)], [.int 1, .int 1, .ref 79], (q_kM r973 c n)) _ _
            refine q_RT_seg (g2 := (64, [(0, .ref 64), (1, .int a1)], [.int 7, .int a1, .int 0, .ref 79], (q_kM (q_sA r973 15 (upd (r973.1 15) 1 (vp_nar .boolean 1))) c n))) 6 (fun _ _ => rfl) ?_
            refine q_RT_call (v := (some (.int (q_b (dz_M206 (q_sA r973 15 (upd (r973.1 15) 1 (vp_nar .boolean 1))) a1 7))))) (h2 := (q_kM (q_sA r973 15 (upd (r973.1 15) 1 (vp_nar .boolean 1))) c n)) rfl rfl ((dzt_M206 (q_sA r973 15 (upd (r973.1 15) 1 (vp_nar .boolean 1))) c n a1 7).le (Nat.le_of_ble_eq_true rfl)) ?_
            generalize dz_M206 (q_sA r973 15 (upd (r973.1 15) 1 (vp_nar .boolean 1))) a1 7 = r974
            refine q_RT_let ?_
            show q_RT _ _ _ (67, [(0, .ref 64), (1, .int a1)], [.int (q_b r974), .int 0, .ref 79], (q_kM (q_sA r973 15 (upd (r973.1 15) 1 (vp_nar .boolean 1))) c n)) _ _
            cases h1284 : r974 with
            | true =>
              refine q_RT_cT ?_
              show q_RT _ _ _ (67, [(0, .ref 64), (1, .int a1)], [.int 1, .int 0, .ref 79], (q_kM (q_sA r973 15 (upd (r973.1 15) 1 (vp_nar .boolean 1))) c n)) _ _
              generalize (q_sA r973 15 (upd (r973.1 15) 1 (vp_nar .boolean 1))) = r975
              refine q_RT_let ?_
              show q_RT _ _ _ (67, [(0, .ref 64), (1, .int a1)], [.int 1, .int 0, .ref 79], (q_kM r975 c n)) _ _
              refine q_RT_seg (g2 := (68, [(0, .ref 64), (1, .int a1)], [], (q_kM (q_sA r975 15 (upd (r975.1 15) 0 (vp_nar .boolean 1))) c n))) 1 (fun _ _ => rfl) ?_
              exact q_RT_ret rfl rfl rfl
            | false =>
              refine q_RT_cF ?_
              show q_RT _ _ _ (67, [(0, .ref 64), (1, .int a1)], [.int 0, .int 0, .ref 79], (q_kM (q_sA r973 15 (upd (r973.1 15) 1 (vp_nar .boolean 1))) c n)) _ _
              generalize (q_sA r973 15 (upd (r973.1 15) 1 (vp_nar .boolean 1))) = r976
              refine q_RT_let ?_
              show q_RT _ _ _ (67, [(0, .ref 64), (1, .int a1)], [.int 0, .int 0, .ref 79], (q_kM r976 c n)) _ _
              refine q_RT_seg (g2 := (68, [(0, .ref 64), (1, .int a1)], [], (q_kM (q_sA r976 15 (upd (r976.1 15) 0 (vp_nar .boolean 0))) c n))) 1 (fun _ _ => rfl) ?_
              exact q_RT_ret rfl rfl rfl
          | false =>
            refine q_RT_cF ?_
            show q_RT _ _ _ (55, [(0, .ref 64), (1, .int a1)], [.int 0, .int 1, .ref 79], (q_kM (q_sA r971 15 (upd (r971.1 15) 2 (vp_nar .boolean 0))) c n)) _ _
            generalize (q_sA r971 15 (upd (r971.1 15) 2 (vp_nar .boolean 0))) = r977
            refine q_RT_let ?_
            show q_RT _ _ _ (55, [(0, .ref 64), (1, .int a1)], [.int 0, .int 1, .ref 79], (q_kM r977 c n)) _ _
            refine q_RT_seg (g2 := (64, [(0, .ref 64), (1, .int a1)], [.int 7, .int a1, .int 0, .ref 79], (q_kM (q_sA r977 15 (upd (r977.1 15) 1 (vp_nar .boolean 0))) c n))) 6 (fun _ _ => rfl) ?_
            refine q_RT_call (v := (some (.int (q_b (dz_M206 (q_sA r977 15 (upd (r977.1 15) 1 (vp_nar .boolean 0))) a1 7))))) (h2 := (q_kM (q_sA r977 15 (upd (r977.1 15) 1 (vp_nar .boolean 0))) c n)) rfl rfl ((dzt_M206 (q_sA r977 15 (upd (r977.1 15) 1 (vp_nar .boolean 0))) c n a1 7).le (Nat.le_of_ble_eq_true rfl)) ?_
            generalize dz_M206 (q_sA r977 15 (upd (r977.1 15) 1 (vp_nar .boolean 0))) a1 7 = r978
            refine q_RT_let ?_
            show q_RT _ _ _ (67, [(0, .ref 64), (1, .int a1)], [.int (q_b r978), .int 0, .ref 79], (q_kM (q_sA r977 15 (upd (r977.1 15) 1 (vp_nar .boolean 0))) c n)) _ _
            cases h1285 : r978 with
            | true =>
              refine q_RT_cT ?_
              show q_RT _ _ _ (67, [(0, .ref 64), (1, .int a1)], [.int 1, .int 0, .ref 79], (q_kM (q_sA r977 15 (upd (r977.1 15) 1 (vp_nar .boolean 0))) c n)) _ _
              generalize (q_sA r977 15 (upd (r977.1 15) 1 (vp_nar .boolean 0))) = r979
              refine q_RT_let ?_
              show q_RT _ _ _ (67, [(0, .ref 64), (1, .int a1)], [.int 1, .int 0, .ref 79], (q_kM r979 c n)) _ _
              refine q_RT_seg (g2 := (68, [(0, .ref 64), (1, .int a1)], [], (q_kM (q_sA r979 15 (upd (r979.1 15) 0 (vp_nar .boolean 1))) c n))) 1 (fun _ _ => rfl) ?_
              exact q_RT_ret rfl rfl rfl
            | false =>
              refine q_RT_cF ?_
              show q_RT _ _ _ (67, [(0, .ref 64), (1, .int a1)], [.int 0, .int 0, .ref 79], (q_kM (q_sA r977 15 (upd (r977.1 15) 1 (vp_nar .boolean 0))) c n)) _ _
              generalize (q_sA r977 15 (upd (r977.1 15) 1 (vp_nar .boolean 0))) = r980
              refine q_RT_let ?_
              show q_RT _ _ _ (67, [(0, .ref 64), (1, .int a1)], [.int 0, .int 0, .ref 79], (q_kM r980 c n)) _ _
              refine q_RT_seg (g2 := (68, [(0, .ref 64), (1, .int a1)], [], (q_kM (q_sA r980 15 (upd (r980.1 15) 0 (vp_nar .boolean 0))) c n))) 1 (fun _ _ => rfl) ?_
              exact q_RT_ret rfl rfl rfl
    | false =>
      refine q_RT_cF ?_
      show q_RT _ _ _ (21, [(0, .ref 64), (1, .int a1)], [.int 0, .int 4, .ref 79], (q_kM (q_sA s 15 (upd (s.1 15) 5 (vp_nar .boolean 1))) c n)) _ _
      generalize (q_sA s 15 (upd (s.1 15) 5 (vp_nar .boolean 1))) = r981
      refine q_RT_let ?_
      show q_RT _ _ _ (21, [(0, .ref 64), (1, .int a1)], [.int 0, .int 4, .ref 79], (q_kM r981 c n)) _ _
      refine q_RT_seg (g2 := (29, [(0, .ref 64), (1, .int a1)], [.int 2, .int a1, .int 3, .ref 79], (q_kM (q_sA r981 15 (upd (r981.1 15) 4 (vp_nar .boolean 0))) c n))) 6 (fun _ _ => rfl) ?_
      refine q_RT_call (v := (some (.int (q_b (dz_M206 (q_sA r981 15 (upd (r981.1 15) 4 (vp_nar .boolean 0))) a1 2))))) (h2 := (q_kM (q_sA r981 15 (upd (r981.1 15) 4 (vp_nar .boolean 0))) c n)) rfl rfl ((dzt_M206 (q_sA r981 15 (upd (r981.1 15) 4 (vp_nar .boolean 0))) c n a1 2).le (Nat.le_of_ble_eq_true rfl)) ?_
      generalize dz_M206 (q_sA r981 15 (upd (r981.1 15) 4 (vp_nar .boolean 0))) a1 2 = r982
      refine q_RT_let ?_
      show q_RT _ _ _ (32, [(0, .ref 64), (1, .int a1)], [.int (q_b r982), .int 3, .ref 79], (q_kM (q_sA r981 15 (upd (r981.1 15) 4 (vp_nar .boolean 0))) c n)) _ _
      cases h1286 : r982 with
      | true =>
        refine q_RT_cT ?_
        show q_RT _ _ _ (32, [(0, .ref 64), (1, .int a1)], [.int 1, .int 3, .ref 79], (q_kM (q_sA r981 15 (upd (r981.1 15) 4 (vp_nar .boolean 0))) c n)) _ _
        generalize (q_sA r981 15 (upd (r981.1 15) 4 (vp_nar .boolean 0))) = r983
        refine q_RT_let ?_
        show q_RT _ _ _ (32, [(0, .ref 64), (1, .int a1)], [.int 1, .int 3, .ref 79], (q_kM r983 c n)) _ _
        refine q_RT_seg (g2 := (40, [(0, .ref 64), (1, .int a1)], [.int 3, .int a1, .int 2, .ref 79], (q_kM (q_sA r983 15 (upd (r983.1 15) 3 (vp_nar .boolean 1))) c n))) 6 (fun _ _ => rfl) ?_
        refine q_RT_call (v := (some (.int (q_b (dz_M206 (q_sA r983 15 (upd (r983.1 15) 3 (vp_nar .boolean 1))) a1 3))))) (h2 := (q_kM (q_sA r983 15 (upd (r983.1 15) 3 (vp_nar .boolean 1))) c n)) rfl rfl ((dzt_M206 (q_sA r983 15 (upd (r983.1 15) 3 (vp_nar .boolean 1))) c n a1 3).le (Nat.le_of_ble_eq_true rfl)) ?_
        generalize dz_M206 (q_sA r983 15 (upd (r983.1 15) 3 (vp_nar .boolean 1))) a1 3 = r984
        refine q_RT_let ?_
        show q_RT _ _ _ (43, [(0, .ref 64), (1, .int a1)], [.int (q_b r984), .int 2, .ref 79], (q_kM (q_sA r983 15 (upd (r983.1 15) 3 (vp_nar .boolean 1))) c n)) _ _
        cases h1287 : r984 with
        | true =>
          refine q_RT_cT ?_
          show q_RT _ _ _ (43, [(0, .ref 64), (1, .int a1)], [.int 1, .int 2, .ref 79], (q_kM (q_sA r983 15 (upd (r983.1 15) 3 (vp_nar .boolean 1))) c n)) _ _
          generalize (q_sA r983 15 (upd (r983.1 15) 3 (vp_nar .boolean 1))) = r985
          refine q_RT_let ?_
          show q_RT _ _ _ (43, [(0, .ref 64), (1, .int a1)], [.int 1, .int 2, .ref 79], (q_kM r985 c n)) _ _
          refine q_RT_seg (g2 := (52, [(0, .ref 64), (1, .int a1)], [.int 6, .int a1, .int 1, .ref 79], (q_kM (q_sA r985 15 (upd (r985.1 15) 2 (vp_nar .boolean 1))) c n))) 6 (fun _ _ => rfl) ?_
          refine q_RT_call (v := (some (.int (q_b (dz_M206 (q_sA r985 15 (upd (r985.1 15) 2 (vp_nar .boolean 1))) a1 6))))) (h2 := (q_kM (q_sA r985 15 (upd (r985.1 15) 2 (vp_nar .boolean 1))) c n)) rfl rfl ((dzt_M206 (q_sA r985 15 (upd (r985.1 15) 2 (vp_nar .boolean 1))) c n a1 6).le (Nat.le_of_ble_eq_true rfl)) ?_
          generalize dz_M206 (q_sA r985 15 (upd (r985.1 15) 2 (vp_nar .boolean 1))) a1 6 = r986
          refine q_RT_let ?_
          show q_RT _ _ _ (55, [(0, .ref 64), (1, .int a1)], [.int (q_b r986), .int 1, .ref 79], (q_kM (q_sA r985 15 (upd (r985.1 15) 2 (vp_nar .boolean 1))) c n)) _ _
          cases h1288 : r986 with
          | true =>
            refine q_RT_cT ?_
            show q_RT _ _ _ (55, [(0, .ref 64), (1, .int a1)], [.int 1, .int 1, .ref 79], (q_kM (q_sA r985 15 (upd (r985.1 15) 2 (vp_nar .boolean 1))) c n)) _ _
            generalize (q_sA r985 15 (upd (r985.1 15) 2 (vp_nar .boolean 1))) = r987
            refine q_RT_let ?_
            show q_RT _ _ _ (55, [(0, .ref 64), (1, .int a1)], [.int 1, .int 1, .ref 79], (q_kM r987 c n)) _ _
            refine q_RT_seg (g2 := (64, [(0, .ref 64), (1, .int a1)], [.int 7, .int a1, .int 0, .ref 79], (q_kM (q_sA r987 15 (upd (r987.1 15) 1 (vp_nar .boolean 1))) c n))) 6 (fun _ _ => rfl) ?_
            refine q_RT_call (v := (some (.int (q_b (dz_M206 (q_sA r987 15 (upd (r987.1 15) 1 (vp_nar .boolean 1))) a1 7))))) (h2 := (q_kM (q_sA r987 15 (upd (r987.1 15) 1 (vp_nar .boolean 1))) c n)) rfl rfl ((dzt_M206 (q_sA r987 15 (upd (r987.1 15) 1 (vp_nar .boolean 1))) c n a1 7).le (Nat.le_of_ble_eq_true rfl)) ?_
            generalize dz_M206 (q_sA r987 15 (upd (r987.1 15) 1 (vp_nar .boolean 1))) a1 7 = r988
            refine q_RT_let ?_
            show q_RT _ _ _ (67, [(0, .ref 64), (1, .int a1)], [.int (q_b r988), .int 0, .ref 79], (q_kM (q_sA r987 15 (upd (r987.1 15) 1 (vp_nar .boolean 1))) c n)) _ _
            cases h1289 : r988 with
            | true =>
              refine q_RT_cT ?_
              show q_RT _ _ _ (67, [(0, .ref 64), (1, .int a1)], [.int 1, .int 0, .ref 79], (q_kM (q_sA r987 15 (upd (r987.1 15) 1 (vp_nar .boolean 1))) c n)) _ _
              generalize (q_sA r987 15 (upd (r987.1 15) 1 (vp_nar .boolean 1))) = r989
              refine q_RT_let ?_
              show q_RT _ _ _ (67, [(0, .ref 64), (1, .int a1)], [.int 1, .int 0, .ref 79], (q_kM r989 c n)) _ _
              refine q_RT_seg (g2 := (68, [(0, .ref 64), (1, .int a1)], [], (q_kM (q_sA r989 15 (upd (r989.1 15) 0 (vp_nar .boolean 1))) c n))) 1 (fun _ _ => rfl) ?_
              exact q_RT_ret rfl rfl rfl
            | false =>
              refine q_RT_cF ?_
              show q_RT _ _ _ (67, [(0, .ref 64), (1, .int a1)], [.int 0, .int 0, .ref 79], (q_kM (q_sA r987 15 (upd (r987.1 15) 1 (vp_nar .boolean 1))) c n)) _ _
              generalize (q_sA r987 15 (upd (r987.1 15) 1 (vp_nar .boolean 1))) = r990
              refine q_RT_let ?_
              show q_RT _ _ _ (67, [(0, .ref 64), (1, .int a1)], [.int 0, .int 0, .ref 79], (q_kM r990 c n)) _ _
              refine q_RT_seg (g2 := (68, [(0, .ref 64), (1, .int a1)], [], (q_kM (q_sA r990 15 (upd (r990.1 15) 0 (vp_nar .boolean 0))) c n))) 1 (fun _ _ => rfl) ?_
              exact q_RT_ret rfl rfl rfl
          | false =>
            refine q_RT_cF ?_
            show q_RT _ _ _ (55, [(0, .ref 64), (1, .int a1)], [.int 0, .int 1, .ref 79], (q_kM (q_sA r985 15 (upd (r985.1 15) 2 (vp_nar .boolean 1))) c n)) _ _
            generalize (q_sA r985 15 (upd (r985.1 15) 2 (vp_nar .boolean 1))) = r991
            refine q_RT_let ?_
            show q_RT _ _ _ (55, [(0, .ref 64), (1, .int a1)], [.int 0, .int 1, .ref 79], (q_kM r991 c n)) _ _
            refine q_RT_seg (g2 := (64, [(0, .ref 64), (1, .int a1)], [.int 7, .int a1, .int 0, .ref 79], (q_kM (q_sA r991 15 (upd (r991.1 15) 1 (vp_nar .boolean 0))) c n))) 6 (fun _ _ => rfl) ?_
            refine q_RT_call (v := (some (.int (q_b (dz_M206 (q_sA r991 15 (upd (r991.1 15) 1 (vp_nar .boolean 0))) a1 7))))) (h2 := (q_kM (q_sA r991 15 (upd (r991.1 15) 1 (vp_nar .boolean 0))) c n)) rfl rfl ((dzt_M206 (q_sA r991 15 (upd (r991.1 15) 1 (vp_nar .boolean 0))) c n a1 7).le (Nat.le_of_ble_eq_true rfl)) ?_
            generalize dz_M206 (q_sA r991 15 (upd (r991.1 15) 1 (vp_nar .boolean 0))) a1 7 = r992
            refine q_RT_let ?_
            show q_RT _ _ _ (67, [(0, .ref 64), (1, .int a1)], [.int (q_b r992), .int 0, .ref 79], (q_kM (q_sA r991 15 (upd (r991.1 15) 1 (vp_nar .boolean 0))) c n)) _ _
            cases h1290 : r992 with
            | true =>
              refine q_RT_cT ?_
              show q_RT _ _ _ (67, [(0, .ref 64), (1, .int a1)], [.int 1, .int 0, .ref 79], (q_kM (q_sA r991 15 (upd (r991.1 15) 1 (vp_nar .boolean 0))) c n)) _ _
              generalize (q_sA r991 15 (upd (r991.1 15) 1 (vp_nar .boolean 0))) = r993
              refine q_RT_let ?_
              show q_RT _ _ _ (67, [(0, .ref 64), (1, .int a1)], [.int 1, .int 0, .ref 79], (q_kM r993 c n)) _ _
              refine q_RT_seg (g2 := (68, [(0, .ref 64), (1, .int a1)], [], (q_kM (q_sA r993 15 (upd (r993.1 15) 0 (vp_nar .boolean 1))) c n))) 1 (fun _ _ => rfl) ?_
              exact q_RT_ret rfl rfl rfl
            | false =>
              refine q_RT_cF ?_
              show q_RT _ _ _ (67, [(0, .ref 64), (1, .int a1)], [.int 0, .int 0, .ref 79], (q_kM (q_sA r991 15 (upd (r991.1 15) 1 (vp_nar .boolean 0))) c n)) _ _
              generalize (q_sA r991 15 (upd (r991.1 15) 1 (vp_nar .boolean 0))) = r994
              refine q_RT_let ?_
              show q_RT _ _ _ (67, [(0, .ref 64), (1, .int a1)], [.int 0, .int 0, .ref 79], (q_kM r994 c n)) _ _
              refine q_RT_seg (g2 := (68, [(0, .ref 64), (1, .int a1)], [], (q_kM (q_sA r994 15 (upd (r994.1 15) 0 (vp_nar .boolean 0))) c n))) 1 (fun _ _ => rfl) ?_
              exact q_RT_ret rfl rfl rfl
        | false =>
          refine q_RT_cF ?_
          show q_RT _ _ _ (43, [(0, .ref 64), (1, .int a1)], [.int 0, .int 2, .ref 79], (q_kM (q_sA r983 15 (upd (r983.1 15) 3 (vp_nar .boolean 1))) c n)) _ _
          generalize (q_sA r983 15 (upd (r983.1 15) 3 (vp_nar .boolean 1))) = r995
          refine q_RT_let ?_
          show q_RT _ _ _ (43, [(0, .ref 64), (1, .int a1)], [.int 0, .int 2, .ref 79], (q_kM r995 c n)) _ _
          refine q_RT_seg (g2 := (52, [(0, .ref 64), (1, .int a1)], [.int 6, .int a1, .int 1, .ref 79], (q_kM (q_sA r995 15 (upd (r995.1 15) 2 (vp_nar .boolean 0))) c n))) 6 (fun _ _ => rfl) ?_
          refine q_RT_call (v := (some (.int (q_b (dz_M206 (q_sA r995 15 (upd (r995.1 15) 2 (vp_nar .boolean 0))) a1 6))))) (h2 := (q_kM (q_sA r995 15 (upd (r995.1 15) 2 (vp_nar .boolean 0))) c n)) rfl rfl ((dzt_M206 (q_sA r995 15 (upd (r995.1 15) 2 (vp_nar .boolean 0))) c n a1 6).le (Nat.le_of_ble_eq_true rfl)) ?_
          generalize dz_M206 (q_sA r995 15 (upd (r995.1 15) 2 (vp_nar .boolean 0))) a1 6 = r996
          refine q_RT_let ?_
          show q_RT _ _ _ (55, [(0, .ref 64), (1, .int a1)], [.int (q_b r996), .int 1, .ref 79], (q_kM (q_sA r995 15 (upd (r995.1 15) 2 (vp_nar .boolean 0))) c n)) _ _
          cases h1291 : r996 with
          | true =>
            refine q_RT_cT ?_
            show q_RT _ _ _ (55, [(0, .ref 64), (1, .int a1)], [.int 1, .int 1, .ref 79], (q_kM (q_sA r995 15 (upd (r995.1 15) 2 (vp_nar .boolean 0))) c n)) _ _
            generalize (q_sA r995 15 (upd (r995.1 15) 2 (vp_nar .boolean 0))) = r997
            refine q_RT_let ?_
            show q_RT _ _ _ (55, [(0, .ref 64), (1, .int a1)], [.int 1, .int 1, .ref 79], (q_kM r997 c n)) _ _
            refine q_RT_seg (g2 := (64, [(0, .ref 64), (1, .int a1)], [.int 7, .int a1, .int 0, .ref 79], (q_kM (q_sA r997 15 (upd (r997.1 15) 1 (vp_nar .boolean 1))) c n))) 6 (fun _ _ => rfl) ?_
            refine q_RT_call (v := (some (.int (q_b (dz_M206 (q_sA r997 15 (upd (r997.1 15) 1 (vp_nar .boolean 1))) a1 7))))) (h2 := (q_kM (q_sA r997 15 (upd (r997.1 15) 1 (vp_nar .boolean 1))) c n)) rfl rfl ((dzt_M206 (q_sA r997 15 (upd (r997.1 15) 1 (vp_nar .boolean 1))) c n a1 7).le (Nat.le_of_ble_eq_true rfl)) ?_
            generalize dz_M206 (q_sA r997 15 (upd (r997.1 15) 1 (vp_nar .boolean 1))) a1 7 = r998
            refine q_RT_let ?_
            show q_RT _ _ _ (67, [(0, .ref 64), (1, .int a1)], [.int (q_b r998), .int 0, .ref 79], (q_kM (q_sA r997 15 (upd (r997.1 15) 1 (vp_nar .boolean 1))) c n)) _ _
            cases h1292 : r998 with
            | true =>
              refine q_RT_cT ?_
              show q_RT _ _ _ (67, [(0, .ref 64), (1, .int a1)], [.int 1, .int 0, .ref 79], (q_kM (q_sA r997 15 (upd (r997.1 15) 1 (vp_nar .boolean 1))) c n)) _ _
              generalize (q_sA r997 15 (upd (r997.1 15) 1 (vp_nar .boolean 1))) = r999
              refine q_RT_let ?_
              show q_RT _ _ _ (67, [(0, .ref 64), (1, .int a1)], [.int 1, .int 0, .ref 79], (q_kM r999 c n)) _ _
              refine q_RT_seg (g2 := (68, [(0, .ref 64), (1, .int a1)], [], (q_kM (q_sA r999 15 (upd (r999.1 15) 0 (vp_nar .boolean 1))) c n))) 1 (fun _ _ => rfl) ?_
              exact q_RT_ret rfl rfl rfl
            | false =>
              refine q_RT_cF ?_
              show q_RT _ _ _ (67, [(0, .ref 64), (1, .int a1)], [.int 0, .int 0, .ref 79], (q_kM (q_sA r997 15 (upd (r997.1 15) 1 (vp_nar .boolean 1))) c n)) _ _
              generalize (q_sA r997 15 (upd (r997.1 15) 1 (vp_nar .boolean 1))) = r1000
              refine q_RT_let ?_
              show q_RT _ _ _ (67, [(0, .ref 64), (1, .int a1)], [.int 0, .int 0, .ref 79], (q_kM r1000 c n)) _ _
              refine q_RT_seg (g2 := (68, [(0, .ref 64), (1, .int a1)], [], (q_kM (q_sA r1000 15 (upd (r1000.1 15) 0 (vp_nar .boolean 0))) c n))) 1 (fun _ _ => rfl) ?_
              exact q_RT_ret rfl rfl rfl
          | false =>
            refine q_RT_cF ?_
            show q_RT _ _ _ (55, [(0, .ref 64), (1, .int a1)], [.int 0, .int 1, .ref 79], (q_kM (q_sA r995 15 (upd (r995.1 15) 2 (vp_nar .boolean 0))) c n)) _ _
            generalize (q_sA r995 15 (upd (r995.1 15) 2 (vp_nar .boolean 0))) = r1001
            refine q_RT_let ?_
            show q_RT _ _ _ (55, [(0, .ref 64), (1, .int a1)], [.int 0, .int 1, .ref 79], (q_kM r1001 c n)) _ _
            refine q_RT_seg (g2 := (64, [(0, .ref 64), (1, .int a1)], [.int 7, .int a1, .int 0, .ref 79], (q_kM (q_sA r1001 15 (upd (r1001.1 15) 1 (vp_nar .boolean 0))) c n))) 6 (fun _ _ => rfl) ?_
            refine q_RT_call (v := (some (.int (q_b (dz_M206 (q_sA r1001 15 (upd (r1001.1 15) 1 (vp_nar .boolean 0))) a1 7))))) (h2 := (q_kM (q_sA r1001 15 (upd (r1001.1 15) 1 (vp_nar .boolean 0))) c n)) rfl rfl ((dzt_M206 (q_sA r1001 15 (upd (r1001.1 15) 1 (vp_nar .boolean 0))) c n a1 7).le (Nat.le_of_ble_eq_true rfl)) ?_
            generalize dz_M206 (q_sA r1001 15 (upd (r1001.1 15) 1 (vp_nar .boolean 0))) a1 7 = r1002
            refine q_RT_let ?_
            show q_RT _ _ _ (67, [(0, .ref 64), (1, .int a1)], [.int (q_b r1002), .int 0, .ref 79], (q_kM (q_sA r1001 15 (upd (r1001.1 15) 1 (vp_nar .boolean 0))) c n)) _ _
            cases h1293 : r1002 with
            | true =>
              refine q_RT_cT ?_
              show q_RT _ _ _ (67, [(0, .ref 64), (1, .int a1)], [.int 1, .int 0, .ref 79], (q_kM (q_sA r1001 15 (upd (r1001.1 15) 1 (vp_nar .boolean 0))) c n)) _ _
              generalize (q_sA r1001 15 (upd (r1001.1 15) 1 (vp_nar .boolean 0))) = r1003
              refine q_RT_let ?_
              show q_RT _ _ _ (67, [(0, .ref 64), (1, .int a1)], [.int 1, .int 0, .ref 79], (q_kM r1003 c n)) _ _
              refine q_RT_seg (g2 := (68, [(0, .ref 64), (1, .int a1)], [], (q_kM (q_sA r1003 15 (upd (r1003.1 15) 0 (vp_nar .boolean 1))) c n))) 1 (fun _ _ => rfl) ?_
              exact q_RT_ret rfl rfl rfl
            | false =>
              refine q_RT_cF ?_
              show q_RT _ _ _ (67, [(0, .ref 64), (1, .int a1)], [.int 0, .int 0, .ref 79], (q_kM (q_sA r1001 15 (upd (r1001.1 15) 1 (vp_nar .boolean 0))) c n)) _ _
              generalize (q_sA r1001 15 (upd (r1001.1 15) 1 (vp_nar .boolean 0))) = r1004
              refine q_RT_let ?_
              show q_RT _ _ _ (67, [(0, .ref 64), (1, .int a1)], [.int 0, .int 0, .ref 79], (q_kM r1004 c n)) _ _
              refine q_RT_seg (g2 := (68, [(0, .ref 64), (1, .int a1)], [], (q_kM (q_sA r1004 15 (upd (r1004.1 15) 0 (vp_nar .boolean 0))) c n))) 1 (fun _ _ => rfl) ?_
              exact q_RT_ret rfl rfl rfl
      | false =>
        refine q_RT_cF ?_
        show q_RT _ _ _ (32, [(0, .ref 64), (1, .int a1)], [.int 0, .int 3, .ref 79], (q_kM (q_sA r981 15 (upd (r981.1 15) 4 (vp_nar .boolean 0))) c n)) _ _
        generalize (q_sA r981 15 (upd (r981.1 15) 4 (vp_nar .boolean 0))) = r1005
        refine q_RT_let ?_
        show q_RT _ _ _ (32, [(0, .ref 64), (1, .int a1)], [.int 0, .int 3, .ref 79], (q_kM r1005 c n)) _ _
        refine q_RT_seg (g2 := (40, [(0, .ref 64), (1, .int a1)], [.int 3, .int a1, .int 2, .ref 79], (q_kM (q_sA r1005 15 (upd (r1005.1 15) 3 (vp_nar .boolean 0))) c n))) 6 (fun _ _ => rfl) ?_
        refine q_RT_call (v := (some (.int (q_b (dz_M206 (q_sA r1005 15 (upd (r1005.1 15) 3 (vp_nar .boolean 0))) a1 3))))) (h2 := (q_kM (q_sA r1005 15 (upd (r1005.1 15) 3 (vp_nar .boolean 0))) c n)) rfl rfl ((dzt_M206 (q_sA r1005 15 (upd (r1005.1 15) 3 (vp_nar .boolean 0))) c n a1 3).le (Nat.le_of_ble_eq_true rfl)) ?_
        generalize dz_M206 (q_sA r1005 15 (upd (r1005.1 15) 3 (vp_nar .boolean 0))) a1 3 = r1006
        refine q_RT_let ?_
        show q_RT _ _ _ (43, [(0, .ref 64), (1, .int a1)], [.int (q_b r1006), .int 2, .ref 79], (q_kM (q_sA r1005 15 (upd (r1005.1 15) 3 (vp_nar .boolean 0))) c n)) _ _
        cases h1294 : r1006 with
        | true =>
          refine q_RT_cT ?_
          show q_RT _ _ _ (43, [(0, .ref 64), (1, .int a1)], [.int 1, .int 2, .ref 79], (q_kM (q_sA r1005 15 (upd (r1005.1 15) 3 (vp_nar .boolean 0))) c n)) _ _
          generalize (q_sA r1005 15 (upd (r1005.1 15) 3 (vp_nar .boolean 0))) = r1007
          refine q_RT_let ?_
          show q_RT _ _ _ (43, [(0, .ref 64), (1, .int a1)], [.int 1, .int 2, .ref 79], (q_kM r1007 c n)) _ _
          refine q_RT_seg (g2 := (52, [(0, .ref 64), (1, .int a1)], [.int 6, .int a1, .int 1, .ref 79], (q_kM (q_sA r1007 15 (upd (r1007.1 15) 2 (vp_nar .boolean 1))) c n))) 6 (fun _ _ => rfl) ?_
          refine q_RT_call (v := (some (.int (q_b (dz_M206 (q_sA r1007 15 (upd (r1007.1 15) 2 (vp_nar .boolean 1))) a1 6))))) (h2 := (q_kM (q_sA r1007 15 (upd (r1007.1 15) 2 (vp_nar .boolean 1))) c n)) rfl rfl ((dzt_M206 (q_sA r1007 15 (upd (r1007.1 15) 2 (vp_nar .boolean 1))) c n a1 6).le (Nat.le_of_ble_eq_true rfl)) ?_
          generalize dz_M206 (q_sA r1007 15 (upd (r1007.1 15) 2 (vp_nar .boolean 1))) a1 6 = r1008
          refine q_RT_let ?_
          show q_RT _ _ _ (55, [(0, .ref 64), (1, .int a1)], [.int (q_b r1008), .int 1, .ref 79], (q_kM (q_sA r1007 15 (upd (r1007.1 15) 2 (vp_nar .boolean 1))) c n)) _ _
          cases h1295 : r1008 with
          | true =>
            refine q_RT_cT ?_
            show q_RT _ _ _ (55, [(0, .ref 64), (1, .int a1)], [.int 1, .int 1, .ref 79], (q_kM (q_sA r1007 15 (upd (r1007.1 15) 2 (vp_nar .boolean 1))) c n)) _ _
            generalize (q_sA r1007 15 (upd (r1007.1 15) 2 (vp_nar .boolean 1))) = r1009
            refine q_RT_let ?_
            show q_RT _ _ _ (55, [(0, .ref 64), (1, .int a1)], [.int 1, .int 1, .ref 79], (q_kM r1009 c n)) _ _
            refine q_RT_seg (g2 := (64, [(0, .ref 64), (1, .int a1)], [.int 7, .int a1, .int 0, .ref 79], (q_kM (q_sA r1009 15 (upd (r1009.1 15) 1 (vp_nar .boolean 1))) c n))) 6 (fun _ _ => rfl) ?_
            refine q_RT_call (v := (some (.int (q_b (dz_M206 (q_sA r1009 15 (upd (r1009.1 15) 1 (vp_nar .boolean 1))) a1 7))))) (h2 := (q_kM (q_sA r1009 15 (upd (r1009.1 15) 1 (vp_nar .boolean 1))) c n)) rfl rfl ((dzt_M206 (q_sA r1009 15 (upd (r1009.1 15) 1 (vp_nar .boolean 1))) c n a1 7).le (Nat.le_of_ble_eq_true rfl)) ?_
            generalize dz_M206 (q_sA r1009 15 (upd (r1009.1 15) 1 (vp_nar .boolean 1))) a1 7 = r1010
            refine q_RT_let ?_
            show q_RT _ _ _ (67, [(0, .ref 64), (1, .int a1)], [.int (q_b r1010), .int 0, .ref 79], (q_kM (q_sA r1009 15 (upd (r1009.1 15) 1 (vp_nar .boolean 1))) c n)) _ _
            cases h1296 : r1010 with
            | true =>
              refine q_RT_cT ?_
              show q_RT _ _ _ (67, [(0, .ref 64), (1, .int a1)], [.int 1, .int 0, .ref 79], (q_kM (q_sA r1009 15 (upd (r1009.1 15) 1 (vp_nar .boolean 1))) c n)) _ _
              generalize (q_sA r1009 15 (upd (r1009.1 15) 1 (vp_nar .boolean 1))) = r1011
              refine q_RT_let ?_
              show q_RT _ _ _ (67, [(0, .ref 64), (1, .int a1)], [.int 1, .int 0, .ref 79], (q_kM r1011 c n)) _ _
              refine q_RT_seg (g2 := (68, [(0, .ref 64), (1, .int a1)], [], (q_kM (q_sA r1011 15 (upd (r1011.1 15) 0 (vp_nar .boolean 1))) c n))) 1 (fun _ _ => rfl) ?_
              exact q_RT_ret rfl rfl rfl
            | false =>
              refine q_RT_cF ?_
              show q_RT _ _ _ (67, [(0, .ref 64), (1, .int a1)], [.int 0, .int 0, .ref 79], (q_kM (q_sA r1009 15 (upd (r1009.1 15) 1 (vp_nar .boolean 1))) c n)) _ _
              generalize (q_sA r1009 15 (upd (r1009.1 15) 1 (vp_nar .boolean 1))) = r1012
              refine q_RT_let ?_
              show q_RT _ _ _ (67, [(0, .ref 64), (1, .int a1)], [.int 0, .int 0, .ref 79], (q_kM r1012 c n)) _ _
              refine q_RT_seg (g2 := (68, [(0, .ref 64), (1, .int a1)], [], (q_kM (q_sA r1012 15 (upd (r1012.1 15) 0 (vp_nar .boolean 0))) c n))) 1 (fun _ _ => rfl) ?_
              exact q_RT_ret rfl rfl rfl
          | false =>
            refine q_RT_cF ?_
            show q_RT _ _ _ (55, [(0, .ref 64), (1, .int a1)], [.int 0, .int 1, .ref 79], (q_kM (q_sA r1007 15 (upd (r1007.1 15) 2 (vp_nar .boolean 1))) c n)) _ _
            generalize (q_sA r1007 15 (upd (r1007.1 15) 2 (vp_nar .boolean 1))) = r1013
            refine q_RT_let ?_
            show q_RT _ _ _ (55, [(0, .ref 64), (1, .int a1)], [.int 0, .int 1, .ref 79], (q_kM r1013 c n)) _ _
            refine q_RT_seg (g2 := (64, [(0, .ref 64), (1, .int a1)], [.int 7, .int a1, .int 0, .ref 79], (q_kM (q_sA r1013 15 (upd (r1013.1 15) 1 (vp_nar .boolean 0))) c n))) 6 (fun _ _ => rfl) ?_
            refine q_RT_call (v := (some (.int (q_b (dz_M206 (q_sA r1013 15 (upd (r1013.1 15) 1 (vp_nar .boolean 0))) a1 7))))) (h2 := (q_kM (q_sA r1013 15 (upd (r1013.1 15) 1 (vp_nar .boolean 0))) c n)) rfl rfl ((dzt_M206 (q_sA r1013 15 (upd (r1013.1 15) 1 (vp_nar .boolean 0))) c n a1 7).le (Nat.le_of_ble_eq_true rfl)) ?_
            generalize dz_M206 (q_sA r1013 15 (upd (r1013.1 15) 1 (vp_nar .boolean 0))) a1 7 = r1014
            refine q_RT_let ?_
            show q_RT _ _ _ (67, [(0, .ref 64), (1, .int a1)], [.int (q_b r1014), .int 0, .ref 79], (q_kM (q_sA r1013 15 (upd (r1013.1 15) 1 (vp_nar .boolean 0))) c n)) _ _
            cases h1297 : r1014 with
            | true =>
              refine q_RT_cT ?_
              show q_RT _ _ _ (67, [(0, .ref 64), (1, .int a1)], [.int 1, .int 0, .ref 79], (q_kM (q_sA r1013 15 (upd (r1013.1 15) 1 (vp_nar .boolean 0))) c n)) _ _
              generalize (q_sA r1013 15 (upd (r1013.1 15) 1 (vp_nar .boolean 0))) = r1015
              refine q_RT_let ?_
              show q_RT _ _ _ (67, [(0, .ref 64), (1, .int a1)], [.int 1, .int 0, .ref 79], (q_kM r1015 c n)) _ _
              refine q_RT_seg (g2 := (68, [(0, .ref 64), (1, .int a1)], [], (q_kM (q_sA r1015 15 (upd (r1015.1 15) 0 (vp_nar .boolean 1))) c n))) 1 (fun _ _ => rfl) ?_
              exact q_RT_ret rfl rfl rfl
            | false =>
              refine q_RT_cF ?_
              show q_RT _ _ _ (67, [(0, .ref 64), (1, .int a1)], [.int 0, .int 0, .ref 79], (q_kM (q_sA r1013 15 (upd (r1013.1 15) 1 (vp_nar .boolean 0))) c n)) _ _
              generalize (q_sA r1013 15 (upd (r1013.1 15) 1 (vp_nar .boolean 0))) = r1016
              refine q_RT_let ?_
              show q_RT _ _ _ (67, [(0, .ref 64), (1, .int a1)], [.int 0, .int 0, .ref 79], (q_kM r1016 c n)) _ _
              refine q_RT_seg (g2 := (68, [(0, .ref 64), (1, .int a1)], [], (q_kM (q_sA r1016 15 (upd (r1016.1 15) 0 (vp_nar .boolean 0))) c n))) 1 (fun _ _ => rfl) ?_
              exact q_RT_ret rfl rfl rfl
        | false =>
          refine q_RT_cF ?_
          show q_RT _ _ _ (43, [(0, .ref 64), (1, .int a1)], [.int 0, .int 2, .ref 79], (q_kM (q_sA r1005 15 (upd (r1005.1 15) 3 (vp_nar .boolean 0))) c n)) _ _
          generalize (q_sA r1005 15 (upd (r1005.1 15) 3 (vp_nar .boolean 0))) = r1017
          refine q_RT_let ?_
          show q_RT _ _ _ (43, [(0, .ref 64), (1, .int a1)], [.int 0, .int 2, .ref 79], (q_kM r1017 c n)) _ _
          refine q_RT_seg (g2 := (52, [(0, .ref 64), (1, .int a1)], [.int 6, .int a1, .int 1, .ref 79], (q_kM (q_sA r1017 15 (upd (r1017.1 15) 2 (vp_nar .boolean 0))) c n))) 6 (fun _ _ => rfl) ?_
          refine q_RT_call (v := (some (.int (q_b (dz_M206 (q_sA r1017 15 (upd (r1017.1 15) 2 (vp_nar .boolean 0))) a1 6))))) (h2 := (q_kM (q_sA r1017 15 (upd (r1017.1 15) 2 (vp_nar .boolean 0))) c n)) rfl rfl ((dzt_M206 (q_sA r1017 15 (upd (r1017.1 15) 2 (vp_nar .boolean 0))) c n a1 6).le (Nat.le_of_ble_eq_true rfl)) ?_
          generalize dz_M206 (q_sA r1017 15 (upd (r1017.1 15) 2 (vp_nar .boolean 0))) a1 6 = r1018
          refine q_RT_let ?_
          show q_RT _ _ _ (55, [(0, .ref 64), (1, .int a1)], [.int (q_b r1018), .int 1, .ref 79], (q_kM (q_sA r1017 15 (upd (r1017.1 15) 2 (vp_nar .boolean 0))) c n)) _ _
          cases h1298 : r1018 with
          | true =>
            refine q_RT_cT ?_
            show q_RT _ _ _ (55, [(0, .ref 64), (1, .int a1)], [.int 1, .int 1, .ref 79], (q_kM (q_sA r1017 15 (upd (r1017.1 15) 2 (vp_nar .boolean 0))) c n)) _ _
            generalize (q_sA r1017 15 (upd (r1017.1 15) 2 (vp_nar .boolean 0))) = r1019
            refine q_RT_let ?_
            show q_RT _ _ _ (55, [(0, .ref 64), (1, .int a1)], [.int 1, .int 1, .ref 79], (q_kM r1019 c n)) _ _
            refine q_RT_seg (g2 := (64, [(0, .ref 64), (1, .int a1)], [.int 7, .int a1, .int 0, .ref 79], (q_kM (q_sA r1019 15 (upd (r1019.1 15) 1 (vp_nar .boolean 1))) c n))) 6 (fun _ _ => rfl) ?_
            refine q_RT_call (v := (some (.int (q_b (dz_M206 (q_sA r1019 15 (upd (r1019.1 15) 1 (vp_nar .boolean 1))) a1 7))))) (h2 := (q_kM (q_sA r1019 15 (upd (r1019.1 15) 1 (vp_nar .boolean 1))) c n)) rfl rfl ((dzt_M206 (q_sA r1019 15 (upd (r1019.1 15) 1 (vp_nar .boolean 1))) c n a1 7).le (Nat.le_of_ble_eq_true rfl)) ?_
            generalize dz_M206 (q_sA r1019 15 (upd (r1019.1 15) 1 (vp_nar .boolean 1))) a1 7 = r1020
            refine q_RT_let ?_
            show q_RT _ _ _ (67, [(0, .ref 64), (1, .int a1)], [.int (q_b r1020), .int 0, .ref 79], (q_kM (q_sA r1019 15 (upd (r1019.1 15) 1 (vp_nar .boolean 1))) c n)) _ _
            cases h1299 : r1020 with
            | true =>
              refine q_RT_cT ?_
              show q_RT _ _ _ (67, [(0, .ref 64), (1, .int a1)], [.int 1, .int 0, .ref 79], (q_kM (q_sA r1019 15 (upd (r1019.1 15) 1 (vp_nar .boolean 1))) c n)) _ _
              generalize (q_sA r1019 15 (upd (r1019.1 15) 1 (vp_nar .boolean 1))) = r1021
              refine q_RT_let ?_
              show q_RT _ _ _ (67, [(0, .ref 64), (1, .int a1)], [.int 1, .int 0, .ref 79], (q_kM r1021 c n)) _ _
              refine q_RT_seg (g2 := (68, [(0, .ref 64), (1, .int a1)], [], (q_kM (q_sA r1021 15 (upd (r1021.1 15) 0 (vp_nar .boolean 1))) c n))) 1 (fun _ _ => rfl) ?_
              exact q_RT_ret rfl rfl rfl
            | false =>
              refine q_RT_cF ?_
              show q_RT _ _ _ (67, [(0, .ref 64), (1, .int a1)], [.int 0, .int 0, .ref 79], (q_kM (q_sA r1019 15 (upd (r1019.1 15) 1 (vp_nar .boolean 1))) c n)) _ _
              generalize (q_sA r1019 15 (upd (r1019.1 15) 1 (vp_nar .boolean 1))) = r1022
              refine q_RT_let ?_
              show q_RT _ _ _ (67, [(0, .ref 64), (1, .int a1)], [.int 0, .int 0, .ref 79], (q_kM r1022 c n)) _ _
              refine q_RT_seg (g2 := (68, [(0, .ref 64), (1, .int a1)], [], (q_kM (q_sA r1022 15 (upd (r1022.1 15) 0 (vp_nar .boolean 0))) c n))) 1 (fun _ _ => rfl) ?_
              exact q_RT_ret rfl rfl rfl
          | false =>
            refine q_RT_cF ?_
            show q_RT _ _ _ (55, [(0, .ref 64), (1, .int a1)], [.int 0, .int 1, .ref 79], (q_kM (q_sA r1017 15 (upd (r1017.1 15) 2 (vp_nar .boolean 0))) c n)) _ _
            generalize (q_sA r1017 15 (upd (r1017.1 15) 2 (vp_nar .boolean 0))) = r1023
            refine q_RT_let ?_
            show q_RT _ _ _ (55, [(0, .ref 64), (1, .int a1)], [.int 0, .int 1, .ref 79], (q_kM r1023 c n)) _ _
            refine q_RT_seg (g2 := (64, [(0, .ref 64), (1, .int a1)], [.int 7, .int a1, .int 0, .ref 79], (q_kM (q_sA r1023 15 (upd (r1023.1 15) 1 (vp_nar .boolean 0))) c n))) 6 (fun _ _ => rfl) ?_
            refine q_RT_call (v := (some (.int (q_b (dz_M206 (q_sA r1023 15 (upd (r1023.1 15) 1 (vp_nar .boolean 0))) a1 7))))) (h2 := (q_kM (q_sA r1023 15 (upd (r1023.1 15) 1 (vp_nar .boolean 0))) c n)) rfl rfl ((dzt_M206 (q_sA r1023 15 (upd (r1023.1 15) 1 (vp_nar .boolean 0))) c n a1 7).le (Nat.le_of_ble_eq_true rfl)) ?_
            generalize dz_M206 (q_sA r1023 15 (upd (r1023.1 15) 1 (vp_nar .boolean 0))) a1 7 = r1024
            refine q_RT_let ?_
            show q_RT _ _ _ (67, [(0, .ref 64), (1, .int a1)], [.int (q_b r1024), .int 0, .ref 79], (q_kM (q_sA r1023 15 (upd (r1023.1 15) 1 (vp_nar .boolean 0))) c n)) _ _
            cases h1300 : r1024 with
            | true =>
              refine q_RT_cT ?_
              show q_RT _ _ _ (67, [(0, .ref 64), (1, .int a1)], [.int 1, .int 0, .ref 79], (q_kM (q_sA r1023 15 (upd (r1023.1 15) 1 (vp_nar .boolean 0))) c n)) _ _
              generalize (q_sA r1023 15 (upd (r1023.1 15) 1 (vp_nar .boolean 0))) = r1025
              refine q_RT_let ?_
              show q_RT _ _ _ (67, [(0, .ref 64), (1, .int a1)], [.int 1, .int 0, .ref 79], (q_kM r1025 c n)) _ _
              refine q_RT_seg (g2 := (68, [(0, .ref 64), (1, .int a1)], [], (q_kM (q_sA r1025 15 (upd (r1025.1 15) 0 (vp_nar .boolean 1))) c n))) 1 (fun _ _ => rfl) ?_
              exact q_RT_ret rfl rfl rfl
            | false =>
              refine q_RT_cF ?_
              show q_RT _ _ _ (67, [(0, .ref 64), (1, .int a1)], [.int 0, .int 0, .ref 79], (q_kM (q_sA r1023 15 (upd (r1023.1 15) 1 (vp_nar .boolean 0))) c n)) _ _
              generalize (q_sA r1023 15 (upd (r1023.1 15) 1 (vp_nar .boolean 0))) = r1026
              refine q_RT_let ?_
              show q_RT _ _ _ (67, [(0, .ref 64), (1, .int a1)], [.int 0, .int 0, .ref 79], (q_kM r1026 c n)) _ _
              refine q_RT_seg (g2 := (68, [(0, .ref 64), (1, .int a1)], [], (q_kM (q_sA r1026 15 (upd (r1026.1 15) 0 (vp_nar .boolean 0))) c n))) 1 (fun _ _ => rfl) ?_
              exact q_RT_ret rfl rfl rfl
  | false =>
    refine q_RT_cF ?_
    show q_RT _ _ _ (10, [(0, .ref 64), (1, .int a1)], [.int 0, .int 5, .ref 79], (q_kM s c n)) _ _
    refine q_RT_seg (g2 := (18, [(0, .ref 64), (1, .int a1)], [.int 1, .int a1, .int 4, .ref 79], (q_kM (q_sA s 15 (upd (s.1 15) 5 (vp_nar .boolean 0))) c n))) 6 (fun _ _ => rfl) ?_
    refine q_RT_call (v := (some (.int (q_b (dz_M206 (q_sA s 15 (upd (s.1 15) 5 (vp_nar .boolean 0))) a1 1))))) (h2 := (q_kM (q_sA s 15 (upd (s.1 15) 5 (vp_nar .boolean 0))) c n)) rfl rfl ((dzt_M206 (q_sA s 15 (upd (s.1 15) 5 (vp_nar .boolean 0))) c n a1 1).le (Nat.le_of_ble_eq_true rfl)) ?_
    generalize dz_M206 (q_sA s 15 (upd (s.1 15) 5 (vp_nar .boolean 0))) a1 1 = r1027
    refine q_RT_let ?_
    show q_RT _ _ _ (21, [(0, .ref 64), (1, .int a1)], [.int (q_b r1027), .int 4, .ref 79], (q_kM (q_sA s 15 (upd (s.1 15) 5 (vp_nar .boolean 0))) c n)) _ _
    cases h1301 : r1027 with
    | true =>
      refine q_RT_cT ?_
      show q_RT _ _ _ (21, [(0, .ref 64), (1, .int a1)], [.int 1, .int 4, .ref 79], (q_kM (q_sA s 15 (upd (s.1 15) 5 (vp_nar .boolean 0))) c n)) _ _
      generalize (q_sA s 15 (upd (s.1 15) 5 (vp_nar .boolean 0))) = r1028
      refine q_RT_let ?_
      show q_RT _ _ _ (21, [(0, .ref 64), (1, .int a1)], [.int 1, .int 4, .ref 79], (q_kM r1028 c n)) _ _
      refine q_RT_seg (g2 := (29, [(0, .ref 64), (1, .int a1)], [.int 2, .int a1, .int 3, .ref 79], (q_kM (q_sA r1028 15 (upd (r1028.1 15) 4 (vp_nar .boolean 1))) c n))) 6 (fun _ _ => rfl) ?_
      refine q_RT_call (v := (some (.int (q_b (dz_M206 (q_sA r1028 15 (upd (r1028.1 15) 4 (vp_nar .boolean 1))) a1 2))))) (h2 := (q_kM (q_sA r1028 15 (upd (r1028.1 15) 4 (vp_nar .boolean 1))) c n)) rfl rfl ((dzt_M206 (q_sA r1028 15 (upd (r1028.1 15) 4 (vp_nar .boolean 1))) c n a1 2).le (Nat.le_of_ble_eq_true rfl)) ?_
      generalize dz_M206 (q_sA r1028 15 (upd (r1028.1 15) 4 (vp_nar .boolean 1))) a1 2 = r1029
      refine q_RT_let ?_
      show q_RT _ _ _ (32, [(0, .ref 64), (1, .int a1)], [.int (q_b r1029), .int 3, .ref 79], (q_kM (q_sA r1028 15 (upd (r1028.1 15) 4 (vp_nar .boolean 1))) c n)) _ _
      cases h1302 : r1029 with
      | true =>
        refine q_RT_cT ?_
        show q_RT _ _ _ (32, [(0, .ref 64), (1, .int a1)], [.int 1, .int 3, .ref 79], (q_kM (q_sA r1028 15 (upd (r1028.1 15) 4 (vp_nar .boolean 1))) c n)) _ _
        generalize (q_sA r1028 15 (upd (r1028.1 15) 4 (vp_nar .boolean 1))) = r1030
        refine q_RT_let ?_
        show q_RT _ _ _ (32, [(0, .ref 64), (1, .int a1)], [.int 1, .int 3, .ref 79], (q_kM r1030 c n)) _ _
        refine q_RT_seg (g2 := (40, [(0, .ref 64), (1, .int a1)], [.int 3, .int a1, .int 2, .ref 79], (q_kM (q_sA r1030 15 (upd (r1030.1 15) 3 (vp_nar .boolean 1))) c n))) 6 (fun _ _ => rfl) ?_
        refine q_RT_call (v := (some (.int (q_b (dz_M206 (q_sA r1030 15 (upd (r1030.1 15) 3 (vp_nar .boolean 1))) a1 3))))) (h2 := (q_kM (q_sA r1030 15 (upd (r1030.1 15) 3 (vp_nar .boolean 1))) c n)) rfl rfl ((dzt_M206 (q_sA r1030 15 (upd (r1030.1 15) 3 (vp_nar .boolean 1))) c n a1 3).le (Nat.le_of_ble_eq_true rfl)) ?_
        generalize dz_M206 (q_sA r1030 15 (upd (r1030.1 15) 3 (vp_nar .boolean 1))) a1 3 = r1031
        refine q_RT_let ?_
        show q_RT _ _ _ (43, [(0, .ref 64), (1, .int a1)], [.int (q_b r1031), .int 2, .ref 79], (q_kM (q_sA r1030 15 (upd (r1030.1 15) 3 (vp_nar .boolean 1))) c n)) _ _
        cases h1303 : r1031 with
        | true =>
          refine q_RT_cT ?_
          show q_RT _ _ _ (43, [(0, .ref 64), (1, .int a1)], [.int 1, .int 2, .ref 79], (q_kM (q_sA r1030 15 (upd (r1030.1 15) 3 (vp_nar .boolean 1))) c n)) _ _
          generalize (q_sA r1030 15 (upd (r1030.1 15) 3 (vp_nar .boolean 1))) = r1032
          refine q_RT_let ?_
          show q_RT _ _ _ (43, [(0, .ref 64), (1, .int a1)], [.int 1, .int 2, .ref 79], (q_kM r1032 c n)) _ _
          refine q_RT_seg (g2 := (52, [(0, .ref 64), (1, .int a1)], [.int 6, .int a1, .int 1, .ref 79], (q_kM (q_sA r1032 15 (upd (r1032.1 15) 2 (vp_nar .boolean 1))) c n))) 6 (fun _ _ => rfl) ?_
          refine q_RT_call (v := (some (.int (q_b (dz_M206 (q_sA r1032 15 (upd (r1032.1 15) 2 (vp_nar .boolean 1))) a1 6))))) (h2 := (q_kM (q_sA r1032 15 (upd (r1032.1 15) 2 (vp_nar .boolean 1))) c n)) rfl rfl ((dzt_M206 (q_sA r1032 15 (upd (r1032.1 15) 2 (vp_nar .boolean 1))) c n a1 6).le (Nat.le_of_ble_eq_true rfl)) ?_
          generalize dz_M206 (q_sA r1032 15 (upd (r1032.1 15) 2 (vp_nar .boolean 1))) a1 6 = r1033
          refine q_RT_let ?_
          show q_RT _ _ _ (55, [(0, .ref 64), (1, .int a1)], [.int (q_b r1033), .int 1, .ref 79], (q_kM (q_sA r1032 15 (upd (r1032.1 15) 2 (vp_nar .boolean 1))) c n)) _ _
          cases h1304 : r1033 with
          | true =>
            refine q_RT_cT ?_
            show q_RT _ _ _ (55, [(0, .ref 64), (1, .int a1)], [.int 1, .int 1, .ref 79], (q_kM (q_sA r1032 15 (upd (r1032.1 15) 2 (vp_nar .boolean 1))) c n)) _ _
            generalize (q_sA r1032 15 (upd (r1032.1 15) 2 (vp_nar .boolean 1))) = r1034
            refine q_RT_let ?_
            show q_RT _ _ _ (55, [(0, .ref 64), (1, .int a1)], [.int 1, .int 1, .ref 79], (q_kM r1034 c n)) _ _
            refine q_RT_seg (g2 := (64, [(0, .ref 64), (1, .int a1)], [.int 7, .int a1, .int 0, .ref 79], (q_kM (q_sA r1034 15 (upd (r1034.1 15) 1 (vp_nar .boolean 1))) c n))) 6 (fun _ _ => rfl) ?_
            refine q_RT_call (v := (some (.int (q_b (dz_M206 (q_sA r1034 15 (upd (r1034.1 15) 1 (vp_nar .boolean 1))) a1 7))))) (h2 := (q_kM (q_sA r1034 15 (upd (r1034.1 15) 1 (vp_nar .boolean 1))) c n)) rfl rfl ((dzt_M206 (q_sA r1034 15 (upd (r1034.1 15) 1 (vp_nar .boolean 1))) c n a1 7).le (Nat.le_of_ble_eq_true rfl)) ?_
            generalize dz_M206 (q_sA r1034 15 (upd (r1034.1 15) 1 (vp_nar .boolean 1))) a1 7 = r1035
            refine q_RT_let ?_
            show q_RT _ _ _ (67, [(0, .ref 64), (1, .int a1)], [.int (q_b r1035), .int 0, .ref 79], (q_kM (q_sA r1034 15 (upd (r1034.1 15) 1 (vp_nar .boolean 1))) c n)) _ _
            cases h1305 : r1035 with
            | true =>
              refine q_RT_cT ?_
              show q_RT _ _ _ (67, [(0, .ref 64), (1, .int a1)], [.int 1, .int 0, .ref 79], (q_kM (q_sA r1034 15 (upd (r1034.1 15) 1 (vp_nar .boolean 1))) c n)) _ _
              generalize (q_sA r1034 15 (upd (r1034.1 15) 1 (vp_nar .boolean 1))) = r1036
              refine q_RT_let ?_
              show q_RT _ _ _ (67, [(0, .ref 64), (1, .int a1)], [.int 1, .int 0, .ref 79], (q_kM r1036 c n)) _ _
              refine q_RT_seg (g2 := (68, [(0, .ref 64), (1, .int a1)], [], (q_kM (q_sA r1036 15 (upd (r1036.1 15) 0 (vp_nar .boolean 1))) c n))) 1 (fun _ _ => rfl) ?_
              exact q_RT_ret rfl rfl rfl
            | false =>
              refine q_RT_cF ?_
              show q_RT _ _ _ (67, [(0, .ref 64), (1, .int a1)], [.int 0, .int 0, .ref 79], (q_kM (q_sA r1034 15 (upd (r1034.1 15) 1 (vp_nar .boolean 1))) c n)) _ _
              generalize (q_sA r1034 15 (upd (r1034.1 15) 1 (vp_nar .boolean 1))) = r1037
              refine q_RT_let ?_
              show q_RT _ _ _ (67, [(0, .ref 64), (1, .int a1)], [.int 0, .int 0, .ref 79], (q_kM r1037 c n)) _ _
              refine q_RT_seg (g2 := (68, [(0, .ref 64), (1, .int a1)], [], (q_kM (q_sA r1037 15 (upd (r1037.1 15) 0 (vp_nar .boolean 0))) c n))) 1 (fun _ _ => rfl) ?_
              exact q_RT_ret rfl rfl rfl
          | false =>
            refine q_RT_cF ?_
            show q_RT _ _ _ (55, [(0, .ref 64), (1, .int a1)], [.int 0, .int 1, .ref 79], (q_kM (q_sA r1032 15 (upd (r1032.1 15) 2 (vp_nar .boolean 1))) c n)) _ _
            generalize (q_sA r1032 15 (upd (r1032.1 15) 2 (vp_nar .boolean 1))) = r1038
            refine q_RT_let ?_
            show q_RT _ _ _ (55, [(0, .ref 64), (1, .int a1)], [.int 0, .int 1, .ref 79], (q_kM r1038 c n)) _ _
            refine q_RT_seg (g2 := (64, [(0, .ref 64), (1, .int a1)], [.int 7, .int a1, .int 0, .ref 79], (q_kM (q_sA r1038 15 (upd (r1038.1 15) 1 (vp_nar .boolean 0))) c n))) 6 (fun _ _ => rfl) ?_
            refine q_RT_call (v := (some (.int (q_b (dz_M206 (q_sA r1038 15 (upd (r1038.1 15) 1 (vp_nar .boolean 0))) a1 7))))) (h2 := (q_kM (q_sA r1038 15 (upd (r1038.1 15) 1 (vp_nar .boolean 0))) c n)) rfl rfl ((dzt_M206 (q_sA r1038 15 (upd (r1038.1 15) 1 (vp_nar .boolean 0))) c n a1 7).le (Nat.le_of_ble_eq_true rfl)) ?_
            generalize dz_M206 (q_sA r1038 15 (upd (r1038.1 15) 1 (vp_nar .boolean 0))) a1 7 = r1039
            refine q_RT_let ?_
            show q_RT _ _ _ (67, [(0, .ref 64), (1, .int a1)], [.int (q_b r1039), .int 0, .ref 79], (q_kM (q_sA r1038 15 (upd (r1038.1 15) 1 (vp_nar .boolean 0))) c n)) _ _
            cases h1306 : r1039 with
            | true =>
              refine q_RT_cT ?_
              show q_RT _ _ _ (67, [(0, .ref 64), (1, .int a1)], [.int 1, .int 0, .ref 79], (q_kM (q_sA r1038 15 (upd (r1038.1 15) 1 (vp_nar .boolean 0))) c n)) _ _
              generalize (q_sA r1038 15 (upd (r1038.1 15) 1 (vp_nar .boolean 0))) = r1040
              refine q_RT_let ?_
              show q_RT _ _ _ (67, [(0, .ref 64), (1, .int a1)], [.int 1, .int 0, .ref 79], (q_kM r1040 c n)) _ _
              refine q_RT_seg (g2 := (68, [(0, .ref 64), (1, .int a1)], [], (q_kM (q_sA r1040 15 (upd (r1040.1 15) 0 (vp_nar .boolean 1))) c n))) 1 (fun _ _ => rfl) ?_
              exact q_RT_ret rfl rfl rfl
            | false =>
              refine q_RT_cF ?_
              show q_RT _ _ _ (67, [(0, .ref 64), (1, .int a1)], [.int 0, .int 0, .ref 79], (q_kM (q_sA r1038 15 (upd (r1038.1 15) 1 (vp_nar .boolean 0))) c n)) _ _
              generalize (q_sA r1038 15 (upd (r1038.1 15) 1 (vp_nar .boolean 0))) = r1041
              refine q_RT_let ?_
              show q_RT _ _ _ (67, [(0, .ref 64), (1, .int a1)], [.int 0, .int 0, .ref 79], (q_kM r1041 c n)) _ _
              refine q_RT_seg (g2 := (68, [(0, .ref 64), (1, .int a1)], [], (q_kM (q_sA r1041 15 (upd (r1041.1 15) 0 (vp_nar .boolean 0))) c n))) 1 (fun _ _ => rfl) ?_
              exact q_RT_ret rfl rfl rfl
        | false =>
          refine q_RT_cF ?_
          show q_RT _ _ _ (43, [(0, .ref 64), (1, .int a1)], [.int 0, .int 2, .ref 79], (q_kM (q_sA r1030 15 (upd (r1030.1 15) 3 (vp_nar .boolean 1))) c n)) _ _
          generalize (q_sA r1030 15 (upd (r1030.1 15) 3 (vp_nar .boolean 1))) = r1042
          refine q_RT_let ?_
          show q_RT _ _ _ (43, [(0, .ref 64), (1, .int a1)], [.int 0, .int 2, .ref 79], (q_kM r1042 c n)) _ _
          refine q_RT_seg (g2 := (52, [(0, .ref 64), (1, .int a1)], [.int 6, .int a1, .int 1, .ref 79], (q_kM (q_sA r1042 15 (upd (r1042.1 15) 2 (vp_nar .boolean 0))) c n))) 6 (fun _ _ => rfl) ?_
          refine q_RT_call (v := (some (.int (q_b (dz_M206 (q_sA r1042 15 (upd (r1042.1 15) 2 (vp_nar .boolean 0))) a1 6))))) (h2 := (q_kM (q_sA r1042 15 (upd (r1042.1 15) 2 (vp_nar .boolean 0))) c n)) rfl rfl ((dzt_M206 (q_sA r1042 15 (upd (r1042.1 15) 2 (vp_nar .boolean 0))) c n a1 6).le (Nat.le_of_ble_eq_true rfl)) ?_
          generalize dz_M206 (q_sA r1042 15 (upd (r1042.1 15) 2 (vp_nar .boolean 0))) a1 6 = r1043
          refine q_RT_let ?_
          show q_RT _ _ _ (55, [(0, .ref 64), (1, .int a1)], [.int (q_b r1043), .int 1, .ref 79], (q_kM (q_sA r1042 15 (upd (r1042.1 15) 2 (vp_nar .boolean 0))) c n)) _ _
          cases h1307 : r1043 with
          | true =>
            refine q_RT_cT ?_
            show q_RT _ _ _ (55, [(0, .ref 64), (1, .int a1)], [.int 1, .int 1, .ref 79], (q_kM (q_sA r1042 15 (upd (r1042.1 15) 2 (vp_nar .boolean 0))) c n)) _ _
            generalize (q_sA r1042 15 (upd (r1042.1 15) 2 (vp_nar .boolean 0))) = r1044
            refine q_RT_let ?_
            show q_RT _ _ _ (55, [(0, .ref 64), (1, .int a1)], [.int 1, .int 1, .ref 79], (q_kM r1044 c n)) _ _
            refine q_RT_seg (g2 := (64, [(0, .ref 64), (1, .int a1)], [.int 7, .int a1, .int 0, .ref 79], (q_kM (q_sA r1044 15 (upd (r1044.1 15) 1 (vp_nar .boolean 1))) c n))) 6 (fun _ _ => rfl) ?_
            refine q_RT_call (v := (some (.int (q_b (dz_M206 (q_sA r1044 15 (upd (r1044.1 15) 1 (vp_nar .boolean 1))) a1 7))))) (h2 := (q_kM (q_sA r1044 15 (upd (r1044.1 15) 1 (vp_nar .boolean 1))) c n)) rfl rfl ((dzt_M206 (q_sA r1044 15 (upd (r1044.1 15) 1 (vp_nar .boolean 1))) c n a1 7).le (Nat.le_of_ble_eq_true rfl)) ?_
            generalize dz_M206 (q_sA r1044 15 (upd (r1044.1 15) 1 (vp_nar .boolean 1))) a1 7 = r1045
            refine q_RT_let ?_
            show q_RT _ _ _ (67, [(0, .ref 64), (1, .int a1)], [.int (q_b r1045), .int 0, .ref 79], (q_kM (q_sA r1044 15 (upd (r1044.1 15) 1 (vp_nar .boolean 1))) c n)) _ _
            cases h1308 : r1045 with
            | true =>
              refine q_RT_cT ?_
              show q_RT _ _ _ (67, [(0, .ref 64), (1, .int a1)], [.int 1, .int 0, .ref 79], (q_kM (q_sA r1044 15 (upd (r1044.1 15) 1 (vp_nar .boolean 1))) c n)) _ _
              generalize (q_sA r1044 15 (upd (r1044.1 15) 1 (vp_nar .boolean 1))) = r1046
              refine q_RT_let ?_
              show q_RT _ _ _ (67, [(0, .ref 64), (1, .int a1)], [.int 1, .int 0, .ref 79], (q_kM r1046 c n)) _ _
              refine q_RT_seg (g2 := (68, [(0, .ref 64), (1, .int a1)], [], (q_kM (q_sA r1046 15 (upd (r1046.1 15) 0 (vp_nar .boolean 1))) c n))) 1 (fun _ _ => rfl) ?_
              exact q_RT_ret rfl rfl rfl
            | false =>
              refine q_RT_cF ?_
              show q_RT _ _ _ (67, [(0, .ref 64), (1, .int a1)], [.int 0, .int 0, .ref 79], (q_kM (q_sA r1044 15 (upd (r1044.1 15) 1 (vp_nar .boolean 1))) c n)) _ _
              generalize (q_sA r1044 15 (upd (r1044.1 15) 1 (vp_nar .boolean 1))) = r1047
              refine q_RT_let ?_
              show q_RT _ _ _ (67, [(0, .ref 64), (1, .int a1)], [.int 0, .int 0, .ref 79], (q_kM r1047 c n)) _ _
              refine q_RT_seg (g2 := (68, [(0, .ref 64), (1, .int a1)], [], (q_kM (q_sA r1047 15 (upd (r1047.1 15) 0 (vp_nar .boolean 0))) c n))) 1 (fun _ _ => rfl) ?_
              exact q_RT_ret rfl rfl rfl
          | false =>
            refine q_RT_cF ?_
            show q_RT _ _ _ (55, [(0, .ref 64), (1, .int a1)], [.int 0, .int 1, .ref 79], (q_kM (q_sA r1042 15 (upd (r1042.1 15) 2 (vp_nar .boolean 0))) c n)) _ _
            generalize (q_sA r1042 15 (upd (r1042.1 15) 2 (vp_nar .boolean 0))) = r1048
            refine q_RT_let ?_
            show q_RT _ _ _ (55, [(0, .ref 64), (1, .int a1)], [.int 0, .int 1, .ref 79], (q_kM r1048 c n)) _ _
            refine q_RT_seg (g2 := (64, [(0, .ref 64), (1, .int a1)], [.int 7, .int a1, .int 0, .ref 79], (q_kM (q_sA r1048 15 (upd (r1048.1 15) 1 (vp_nar .boolean 0))) c n))) 6 (fun _ _ => rfl) ?_
            refine q_RT_call (v := (some (.int (q_b (dz_M206 (q_sA r1048 15 (upd (r1048.1 15) 1 (vp_nar .boolean 0))) a1 7))))) (h2 := (q_kM (q_sA r1048 15 (upd (r1048.1 15) 1 (vp_nar .boolean 0))) c n)) rfl rfl ((dzt_M206 (q_sA r1048 15 (upd (r1048.1 15) 1 (vp_nar .boolean 0))) c n a1 7).le (Nat.le_of_ble_eq_true rfl)) ?_
            generalize dz_M206 (q_sA r1048 15 (upd (r1048.1 15) 1 (vp_nar .boolean 0))) a1 7 = r1049
            refine q_RT_let ?_
            show q_RT _ _ _ (67, [(0, .ref 64), (1, .int a1)], [.int (q_b r1049), .int 0, .ref 79], (q_kM (q_sA r1048 15 (upd (r1048.1 15) 1 (vp_nar .boolean 0))) c n)) _ _
            cases h1309 : r1049 with
            | true =>
              refine q_RT_cT ?_
              show q_RT _ _ _ (67, [(0, .ref 64), (1, .int a1)], [.int 1, .int 0, .ref 79], (q_kM (q_sA r1048 15 (upd (r1048.1 15) 1 (vp_nar .boolean 0))) c n)) _ _
              generalize (q_sA r1048 15 (upd (r1048.1 15) 1 (vp_nar .boolean 0))) = r1050
              refine q_RT_let ?_
              show q_RT _ _ _ (67, [(0, .ref 64), (1, .int a1)], [.int 1, .int 0, .ref 79], (q_kM r1050 c n)) _ _
              refine q_RT_seg (g2 := (68, [(0, .ref 64), (1, .int a1)], [], (q_kM (q_sA r1050 15 (upd (r1050.1 15) 0 (vp_nar .boolean 1))) c n))) 1 (fun _ _ => rfl) ?_
              exact q_RT_ret rfl rfl rfl
            | false =>
              refine q_RT_cF ?_
              show q_RT _ _ _ (67, [(0, .ref 64), (1, .int a1)], [.int 0, .int 0, .ref 79], (q_kM (q_sA r1048 15 (upd (r1048.1 15) 1 (vp_nar .boolean 0))) c n)) _ _
              generalize (q_sA r1048 15 (upd (r1048.1 15) 1 (vp_nar .boolean 0))) = r1051
              refine q_RT_let ?_
              show q_RT _ _ _ (67, [(0, .ref 64), (1, .int a1)], [.int 0, .int 0, .ref 79], (q_kM r1051 c n)) _ _
              refine q_RT_seg (g2 := (68, [(0, .ref 64), (1, .int a1)], [], (q_kM (q_sA r1051 15 (upd (r1051.1 15) 0 (vp_nar .boolean 0))) c n))) 1 (fun _ _ => rfl) ?_
              exact q_RT_ret rfl rfl rfl
      | false =>
        refine q_RT_cF ?_
        show q_RT _ _ _ (32, [(0, .ref 64), (1, .int a1)], [.int 0, .int 3, .ref 79], (q_kM (q_sA r1028 15 (upd (r1028.1 15) 4 (vp_nar .boolean 1))) c n)) _ _
        generalize (q_sA r1028 15 (upd (r1028.1 15) 4 (vp_nar .boolean 1))) = r1052
        refine q_RT_let ?_
        show q_RT _ _ _ (32, [(0, .ref 64), (1, .int a1)], [.int 0, .int 3, .ref 79], (q_kM r1052 c n)) _ _
        refine q_RT_seg (g2 := (40, [(0, .ref 64), (1, .int a1)], [.int 3, .int a1, .int 2, .ref 79], (q_kM (q_sA r1052 15 (upd (r1052.1 15) 3 (vp_nar .boolean 0))) c n))) 6 (fun _ _ => rfl) ?_
        refine q_RT_call (v := (some (.int (q_b (dz_M206 (q_sA r1052 15 (upd (r1052.1 15) 3 (vp_nar .boolean 0))) a1 3))))) (h2 := (q_kM (q_sA r1052 15 (upd (r1052.1 15) 3 (vp_nar .boolean 0))) c n)) rfl rfl ((dzt_M206 (q_sA r1052 15 (upd (r1052.1 15) 3 (vp_nar .boolean 0))) c n a1 3).le (Nat.le_of_ble_eq_true rfl)) ?_
        generalize dz_M206 (q_sA r1052 15 (upd (r1052.1 15) 3 (vp_nar .boolean 0))) a1 3 = r1053
        refine q_RT_let ?_
        show q_RT _ _ _ (43, [(0, .ref 64), (1, .int a1)], [.int (q_b r1053), .int 2, .ref 79], (q_kM (q_sA r1052 15 (upd (r1052.1 15) 3 (vp_nar .boolean 0))) c n)) _ _
        cases h1310 : r1053 with
        | true =>
          refine q_RT_cT ?_
          show q_RT _ _ _ (43, [(0, .ref 64), (1, .int a1)], [.int 1, .int 2, .ref 79], (q_kM (q_sA r1052 15 (upd (r1052.1 15) 3 (vp_nar .boolean 0))) c n)) _ _
          generalize (q_sA r1052 15 (upd (r1052.1 15) 3 (vp_nar .boolean 0))) = r1054
          refine q_RT_let ?_
          show q_RT _ _ _ (43, [(0, .ref 64), (1, .int a1)], [.int 1, .int 2, .ref 79], (q_kM r1054 c n)) _ _
          refine q_RT_seg (g2 := (52, [(0, .ref 64), (1, .int a1)], [.int 6, .int a1, .int 1, .ref 79], (q_kM (q_sA r1054 15 (upd (r1054.1 15) 2 (vp_nar .boolean 1))) c n))) 6 (fun _ _ => rfl) ?_
          refine q_RT_call (v := (some (.int (q_b (dz_M206 (q_sA r1054 15 (upd (r1054.1 15) 2 (vp_nar .boolean 1))) a1 6))))) (h2 := (q_kM (q_sA r1054 15 (upd (r1054.1 15) 2 (vp_nar .boolean 1))) c n)) rfl rfl ((dzt_M206 (q_sA r1054 15 (upd (r1054.1 15) 2 (vp_nar .boolean 1))) c n a1 6).le (Nat.le_of_ble_eq_true rfl)) ?_
          generalize dz_M206 (q_sA r1054 15 (upd (r1054.1 15) 2 (vp_nar .boolean 1))) a1 6 = r1055
          refine q_RT_let ?_
          show q_RT _ _ _ (55, [(0, .ref 64), (1, .int a1)], [.int (q_b r1055), .int 1, .ref 79], (q_kM (q_sA r1054 15 (upd (r1054.1 15) 2 (vp_nar .boolean 1))) c n)) _ _
          cases h1311 : r1055 with
          | true =>
            refine q_RT_cT ?_
            show q_RT _ _ _ (55, [(0, .ref 64), (1, .int a1)], [.int 1, .int 1, .ref 79], (q_kM (q_sA r1054 15 (upd (r1054.1 15) 2 (vp_nar .boolean 1))) c n)) _ _
            generalize (q_sA r1054 15 (upd (r1054.1 15) 2 (vp_nar .boolean 1))) = r1056
            refine q_RT_let ?_
            show q_RT _ _ _ (55, [(0, .ref 64), (1, .int a1)], [.int 1, .int 1, .ref 79], (q_kM r1056 c n)) _ _
            refine q_RT_seg (g2 := (64, [(0, .ref 64), (1, .int a1)], [.int 7, .int a1, .int 0, .ref 79], (q_kM (q_sA r1056 15 (upd (r1056.1 15) 1 (vp_nar .boolean 1))) c n))) 6 (fun _ _ => rfl) ?_
            refine q_RT_call (v := (some (.int (q_b (dz_M206 (q_sA r1056 15 (upd (r1056.1 15) 1 (vp_nar .boolean 1))) a1 7))))) (h2 := (q_kM (q_sA r1056 15 (upd (r1056.1 15) 1 (vp_nar .boolean 1))) c n)) rfl rfl ((dzt_M206 (q_sA r1056 15 (upd (r1056.1 15) 1 (vp_nar .boolean 1))) c n a1 7).le (Nat.le_of_ble_eq_true rfl)) ?_
            generalize dz_M206 (q_sA r1056 15 (upd (r1056.1 15) 1 (vp_nar .boolean 1))) a1 7 = r1057
            refine q_RT_let ?_
            show q_RT _ _ _ (67, [(0, .ref 64), (1, .int a1)], [.int (q_b r1057), .int 0, .ref 79], (q_kM (q_sA r1056 15 (upd (r1056.1 15) 1 (vp_nar .boolean 1))) c n)) _ _
            cases h1312 : r1057 with
            | true =>
              refine q_RT_cT ?_
              show q_RT _ _ _ (67, [(0, .ref 64), (1, .int a1)], [.int 1, .int 0, .ref 79], (q_kM (q_sA r1056 15 (upd (r1056.1 15) 1 (vp_nar .boolean 1))) c n)) _ _
              generalize (q_sA r1056 15 (upd (r1056.1 15) 1 (vp_nar .boolean 1))) = r1058
              refine q_RT_let ?_
              show q_RT _ _ _ (67, [(0, .ref 64), (1, .int a1)], [.int 1, .int 0, .ref 79], (q_kM r1058 c n)) _ _
              refine q_RT_seg (g2 := (68, [(0, .ref 64), (1, .int a1)], [], (q_kM (q_sA r1058 15 (upd (r1058.1 15) 0 (vp_nar .boolean 1))) c n))) 1 (fun _ _ => rfl) ?_
              exact q_RT_ret rfl rfl rfl
            | false =>
              refine q_RT_cF ?_
              show q_RT _ _ _ (67, [(0, .ref 64), (1, .int a1)], [.int 0, .int 0, .ref 79], (q_kM (q_sA r1056 15 (upd (r1056.1 15) 1 (vp_nar .boolean 1))) c n)) _ _
              generalize (q_sA r1056 15 (upd (r1056.1 15) 1 (vp_nar .boolean 1))) = r1059
              refine q_RT_let ?_
              show q_RT _ _ _ (67, [(0, .ref 64), (1, .int a1)], [.int 0, .int 0, .ref 79], (q_kM r1059 c n)) _ _
              refine q_RT_seg (g2 := (68, [(0, .ref 64), (1, .int a1)], [], (q_kM (q_sA r1059 15 (upd (r1059.1 15) 0 (vp_nar .boolean 0))) c n))) 1 (fun _ _ => rfl) ?_
              exact q_RT_ret rfl rfl rfl
          | false =>
            refine q_RT_cF ?_
            show q_RT _ _ _ (55, [(0, .ref 64), (1, .int a1)], [.int 0, .int 1, .ref 79], (q_kM (q_sA r1054 15 (upd (r1054.1 15) 2 (vp_nar .boolean 1))) c n)) _ _
            generalize (q_sA r1054 15 (upd (r1054.1 15) 2 (vp_nar .boolean 1))) = r1060
            refine q_RT_let ?_
            show q_RT _ _ _ (55, [(0, .ref 64), (1, .int a1)], [.int 0, .int 1, .ref 79], (q_kM r1060 c n)) _ _
            refine q_RT_seg (g2 := (64, [(0, .ref 64), (1, .int a1)], [.int 7, .int a1, .int 0, .ref 79], (q_kM (q_sA r1060 15 (upd (r1060.1 15) 1 (vp_nar .boolean 0))) c n))) 6 (fun _ _ => rfl) ?_
            refine q_RT_call (v := (some (.int (q_b (dz_M206 (q_sA r1060 15 (upd (r1060.1 15) 1 (vp_nar .boolean 0))) a1 7))))) (h2 := (q_kM (q_sA r1060 15 (upd (r1060.1 15) 1 (vp_nar .boolean 0))) c n)) rfl rfl ((dzt_M206 (q_sA r1060 15 (upd (r1060.1 15) 1 (vp_nar .boolean 0))) c n a1 7).le (Nat.le_of_ble_eq_true rfl)) ?_
            generalize dz_M206 (q_sA r1060 15 (upd (r1060.1 15) 1 (vp_nar .boolean 0))) a1 7 = r1061
            refine q_RT_let ?_
            show q_RT _ _ _ (67, [(0, .ref 64), (1, .int a1)], [.int (q_b r1061), .int 0, .ref 79], (q_kM (q_sA r1060 15 (upd (r1060.1 15) 1 (vp_nar .boolean 0))) c n)) _ _
            cases h1313 : r1061 with
            | true =>
              refine q_RT_cT ?_
              show q_RT _ _ _ (67, [(0, .ref 64), (1, .int a1)], [.int 1, .int 0, .ref 79], (q_kM (q_sA r1060 15 (upd (r1060.1 15) 1 (vp_nar .boolean 0))) c n)) _ _
              generalize (q_sA r1060 15 (upd (r1060.1 15) 1 (vp_nar .boolean 0))) = r1062
              refine q_RT_let ?_
              show q_RT _ _ _ (67, [(0, .ref 64), (1, .int a1)], [.int 1, .int 0, .ref 79], (q_kM r1062 c n)) _ _
              refine q_RT_seg (g2 := (68, [(0, .ref 64), (1, .int a1)], [], (q_kM (q_sA r1062 15 (upd (r1062.1 15) 0 (vp_nar .boolean 1))) c n))) 1 (fun _ _ => rfl) ?_
              exact q_RT_ret rfl rfl rfl
            | false =>
              refine q_RT_cF ?_
              show q_RT _ _ _ (67, [(0, .ref 64), (1, .int a1)], [.int 0, .int 0, .ref 79], (q_kM (q_sA r1060 15 (upd (r1060.1 15) 1 (vp_nar .boolean 0))) c n)) _ _
              generalize (q_sA r1060 15 (upd (r1060.1 15) 1 (vp_nar .boolean 0))) = r1063
              refine q_RT_let ?_
              show q_RT _ _ _ (67, [(0, .ref 64), (1, .int a1)], [.int 0, .int 0, .ref 79], (q_kM r1063 c n)) _ _
              refine q_RT_seg (g2 := (68, [(0, .ref 64), (1, .int a1)], [], (q_kM (q_sA r1063 15 (upd (r1063.1 15) 0 (vp_nar .boolean 0))) c n))) 1 (fun _ _ => rfl) ?_
              exact q_RT_ret rfl rfl rfl
        | false =>
          refine q_RT_cF ?_
          show q_RT _ _ _ (43, [(0, .ref 64), (1, .int a1)], [.int 0, .int 2, .ref 79], (q_kM (q_sA r1052 15 (upd (r1052.1 15) 3 (vp_nar .boolean 0))) c n)) _ _
          generalize (q_sA r1052 15 (upd (r1052.1 15) 3 (vp_nar .boolean 0))) = r1064
          refine q_RT_let ?_
          show q_RT _ _ _ (43, [(0, .ref 64), (1, .int a1)], [.int 0, .int 2, .ref 79], (q_kM r1064 c n)) _ _
          refine q_RT_seg (g2 := (52, [(0, .ref 64), (1, .int a1)], [.int 6, .int a1, .int 1, .ref 79], (q_kM (q_sA r1064 15 (upd (r1064.1 15) 2 (vp_nar .boolean 0))) c n))) 6 (fun _ _ => rfl) ?_
          refine q_RT_call (v := (some (.int (q_b (dz_M206 (q_sA r1064 15 (upd (r1064.1 15) 2 (vp_nar .boolean 0))) a1 6))))) (h2 := (q_kM (q_sA r1064 15 (upd (r1064.1 15) 2 (vp_nar .boolean 0))) c n)) rfl rfl ((dzt_M206 (q_sA r1064 15 (upd (r1064.1 15) 2 (vp_nar .boolean 0))) c n a1 6).le (Nat.le_of_ble_eq_true rfl)) ?_
          generalize dz_M206 (q_sA r1064 15 (upd (r1064.1 15) 2 (vp_nar .boolean 0))) a1 6 = r1065
          refine q_RT_let ?_
          show q_RT _ _ _ (55, [(0, .ref 64), (1, .int a1)], [.int (q_b r1065), .int 1, .ref 79], (q_kM (q_sA r1064 15 (upd (r1064.1 15) 2 (vp_nar .boolean 0))) c n)) _ _
          cases h1314 : r1065 with
          | true =>
            refine q_RT_cT ?_
            show q_RT _ _ _ (55, [(0, .ref 64), (1, .int a1)], [.int 1, .int 1, .ref 79], (q_kM (q_sA r1064 15 (upd (r1064.1 15) 2 (vp_nar .boolean 0))) c n)) _ _
            generalize (q_sA r1064 15 (upd (r1064.1 15) 2 (vp_nar .boolean 0))) = r1066
            refine q_RT_let ?_
            show q_RT _ _ _ (55, [(0, .ref 64), (1, .int a1)], [.int 1, .int 1, .ref 79], (q_kM r1066 c n)) _ _
            refine q_RT_seg (g2 := (64, [(0, .ref 64), (1, .int a1)], [.int 7, .int a1, .int 0, .ref 79], (q_kM (q_sA r1066 15 (upd (r1066.1 15) 1 (vp_nar .boolean 1))) c n))) 6 (fun _ _ => rfl) ?_
            refine q_RT_call (v := (some (.int (q_b (dz_M206 (q_sA r1066 15 (upd (r1066.1 15) 1 (vp_nar .boolean 1))) a1 7))))) (h2 := (q_kM (q_sA r1066 15 (upd (r1066.1 15) 1 (vp_nar .boolean 1))) c n)) rfl rfl ((dzt_M206 (q_sA r1066 15 (upd (r1066.1 15) 1 (vp_nar .boolean 1))) c n a1 7).le (Nat.le_of_ble_eq_true rfl)) ?_
            generalize dz_M206 (q_sA r1066 15 (upd (r1066.1 15) 1 (vp_nar .boolean 1))) a1 7 = r1067
            refine q_RT_let ?_
            show q_RT _ _ _ (67, [(0, .ref 64), (1, .int a1)], [.int (q_b r1067), .int 0, .ref 79], (q_kM (q_sA r1066 15 (upd (r1066.1 15) 1 (vp_nar .boolean 1))) c n)) _ _
            cases h1315 : r1067 with
            | true =>
              refine q_RT_cT ?_
              show q_RT _ _ _ (67, [(0, .ref 64), (1, .int a1)], [.int 1, .int 0, .ref 79], (q_kM (q_sA r1066 15 (upd (r1066.1 15) 1 (vp_nar .boolean 1))) c n)) _ _
              generalize (q_sA r1066 15 (upd (r1066.1 15) 1 (vp_nar .boolean 1))) = r1068
              refine q_RT_let ?_
              show q_RT _ _ _ (67, [(0, .ref 64), (1, .int a1)], [.int 1, .int 0, .ref 79], (q_kM r1068 c n)) _ _
              refine q_RT_seg (g2 := (68, [(0, .ref 64), (1, .int a1)], [], (q_kM (q_sA r1068 15 (upd (r1068.1 15) 0 (vp_nar .boolean 1))) c n))) 1 (fun _ _ => rfl) ?_
              exact q_RT_ret rfl rfl rfl
            | false =>
              refine q_RT_cF ?_
              show q_RT _ _ _ (67, [(0, .ref 64), (1, .int a1)], [.int 0, .int 0, .ref 79], (q_kM (q_sA r1066 15 (upd (r1066.1 15) 1 (vp_nar .boolean 1))) c n)) _ _
              generalize (q_sA r1066 15 (upd (r1066.1 15) 1 (vp_nar .boolean 1))) = r1069
              refine q_RT_let ?_
              show q_RT _ _ _ (67, [(0, .ref 64), (1, .int a1)], [.int 0, .int 0, .ref 79], (q_kM r1069 c n)) _ _
              refine q_RT_seg (g2 := (68, [(0, .ref 64), (1, .int a1)], [], (q_kM (q_sA r1069 15 (upd (r1069.1 15) 0 (vp_nar .boolean 0))) c n))) 1 (fun _ _ => rfl) ?_
              exact q_RT_ret rfl rfl rfl
          | false =>
            refine q_RT_cF ?_
            show q_RT _ _ _ (55, [(0, .ref 64), (1, .int a1)], [.int 0, .int 1, .ref 79], (q_kM (q_sA r1064 15 (upd (r1064.1 15) 2 (vp_nar .boolean 0))) c n)) _ _
            generalize (q_sA r1064 15 (upd (r1064.1 15) 2 (vp_nar .boolean 0))) = r1070
            refine q_RT_let ?_
            show q_RT _ _ _ (55, [(0, .ref 64), (1, .int a1)], [.int 0, .int 1, .ref 79], (q_kM r1070 c n)) _ _
            refine q_RT_seg (g2 := (64, [(0, .ref 64), (1, .int a1)], [.int 7, .int a1, .int 0, .ref 79], (q_kM (q_sA r1070 15 (upd (r1070.1 15) 1 (vp_nar .boolean 0))) c n))) 6 (fun _ _ => rfl) ?_
            refine q_RT_call (v := (some (.int (q_b (dz_M206 (q_sA r1070 15 (upd (r1070.1 15) 1 (vp_nar .boolean 0))) a1 7))))) (h2 := (q_kM (q_sA r1070 15 (upd (r1070.1 15) 1 (vp_nar .boolean 0))) c n)) rfl rfl ((dzt_M206 (q_sA r1070 15 (upd (r1070.1 15) 1 (vp_nar .boolean 0))) c n a1 7).le (Nat.le_of_ble_eq_true rfl)) ?_
            generalize dz_M206 (q_sA r1070 15 (upd (r1070.1 15) 1 (vp_nar .boolean 0))) a1 7 = r1071
            refine q_RT_let ?_
            show q_RT _ _ _ (67, [(0, .ref 64), (1, .int a1)], [.int (q_b r1071), .int 0, .ref 79], (q_kM (q_sA r1070 15 (upd (r1070.1 15) 1 (vp_nar .boolean 0))) c n)) _ _
            cases h1316 : r1071 with
            | true =>
              refine q_RT_cT ?_
              show q_RT _ _ _ (67, [(0, .ref 64), (1, .int a1)], [.int 1, .int 0, .ref 79], (q_kM (q_sA r1070 15 (upd (r1070.1 15) 1 (vp_nar .boolean 0))) c n)) _ _
              generalize (q_sA r1070 15 (upd (r1070.1 15) 1 (vp_nar .boolean 0))) = r1072
              refine q_RT_let ?_
              show q_RT _ _ _ (67, [(0, .ref 64), (1, .int a1)], [.int 1, .int 0, .ref 79], (q_kM r1072 c n)) _ _
              refine q_RT_seg (g2 := (68, [(0, .ref 64), (1, .int a1)], [], (q_kM (q_sA r1072 15 (upd (r1072.1 15) 0 (vp_nar .boolean 1))) c n))) 1 (fun _ _ => rfl) ?_
              exact q_RT_ret rfl rfl rfl
            | false =>
              refine q_RT_cF ?_
              show q_RT _ _ _ (67, [(0, .ref 64), (1, .int a1)], [.int 0, .int 0, .ref 79], (q_kM (q_sA r1070 15 (upd (r1070.1 15) 1 (vp_nar .boolean 0))) c n)) _ _
              generalize (q_sA r1070 15 (upd (r1070.1 15) 1 (vp_nar .boolean 0))) = r1073
              refine q_RT_let ?_
              show q_RT _ _ _ (67, [(0, .ref 64), (1, .int a1)], [.int 0, .int 0, .ref 79], (q_kM r1073 c n)) _ _
              refine q_RT_seg (g2 := (68, [(0, .ref 64), (1, .int a1)], [], (q_kM (q_sA r1073 15 (upd (r1073.1 15) 0 (vp_nar .boolean 0))) c n))) 1 (fun _ _ => rfl) ?_
              exact q_RT_ret rfl rfl rfl
    | false =>
      refine q_RT_cF ?_
      show q_RT _ _ _ (21, [(0, .ref 64), (1, .int a1)], [.int 0, .int 4, .ref 79], (q_kM (q_sA s 15 (upd (s.1 15) 5 (vp_nar .boolean 0))) c n)) _ _
      generalize (q_sA s 15 (upd (s.1 15) 5 (vp_nar .boolean 0))) = r1074
      refine q_RT_let ?_
      show q_RT _ _ _ (21, [(0, .ref 64), (1, .int a1)], [.int 0, .int 4, .ref 79], (q_kM r1074 c n)) _ _
      refine q_RT_seg (g2 := (29, [(0, .ref 64), (1, .int a1)], [.int 2, .int a1, .int 3, .ref 79], (q_kM (q_sA r1074 15 (upd (r1074.1 15) 4 (vp_nar .boolean 0))) c n))) 6 (fun _ _ => rfl) ?_
      refine q_RT_call (v := (some (.int (q_b (dz_M206 (q_sA r1074 15 (upd (r1074.1 15) 4 (vp_nar .boolean 0))) a1 2))))) (h2 := (q_kM (q_sA r1074 15 (upd (r1074.1 15) 4 (vp_nar .boolean 0))) c n)) rfl rfl ((dzt_M206 (q_sA r1074 15 (upd (r1074.1 15) 4 (vp_nar .boolean 0))) c n a1 2).le (Nat.le_of_ble_eq_true rfl)) ?_
      generalize dz_M206 (q_sA r1074 15 (upd (r1074.1 15) 4 (vp_nar .boolean 0))) a1 2 = r1075
      refine q_RT_let ?_
      show q_RT _ _ _ (32, [(0, .ref 64), (1, .int a1)], [.int (q_b r1075), .int 3, .ref 79], (q_kM (q_sA r1074 15 (upd (r1074.1 15) 4 (vp_nar .boolean 0))) c n)) _ _
      cases h1317 : r1075 with
      | true =>
        refine q_RT_cT ?_
        show q_RT _ _ _ (32, [(0, .ref 64), (1, .int a1)], [.int 1, .int 3, .ref 79], (q_kM (q_sA r1074 15 (upd (r1074.1 15) 4 (vp_nar .boolean 0))) c n)) _ _
        generalize (q_sA r1074 15 (upd (r1074.1 15) 4 (vp_nar .boolean 0))) = r1076
        refine q_RT_let ?_
        show q_RT _ _ _ (32, [(0, .ref 64), (1, .int a1)], [.int 1, .int 3, .ref 79], (q_kM r1076 c n)) _ _
        refine q_RT_seg (g2 := (40, [(0, .ref 64), (1, .int a1)], [.int 3, .int a1, .int 2, .ref 79], (q_kM (q_sA r1076 15 (upd (r1076.1 15) 3 (vp_nar .boolean 1))) c n))) 6 (fun _ _ => rfl) ?_
        refine q_RT_call (v := (some (.int (q_b (dz_M206 (q_sA r1076 15 (upd (r1076.1 15) 3 (vp_nar .boolean 1))) a1 3))))) (h2 := (q_kM (q_sA r1076 15 (upd (r1076.1 15) 3 (vp_nar .boolean 1))) c n)) rfl rfl ((dzt_M206 (q_sA r1076 15 (upd (r1076.1 15) 3 (vp_nar .boolean 1))) c n a1 3).le (Nat.le_of_ble_eq_true rfl)) ?_
        generalize dz_M206 (q_sA r1076 15 (upd (r1076.1 15) 3 (vp_nar .boolean 1))) a1 3 = r1077
        refine q_RT_let ?_
        show q_RT _ _ _ (43, [(0, .ref 64), (1, .int a1)], [.int (q_b r1077), .int 2, .ref 79], (q_kM (q_sA r1076 15 (upd (r1076.1 15) 3 (vp_nar .boolean 1))) c n)) _ _
        cases h1318 : r1077 with
        | true =>
          refine q_RT_cT ?_
          show q_RT _ _ _ (43, [(0, .ref 64), (1, .int a1)], [.int 1, .int 2, .ref 79], (q_kM (q_sA r1076 15 (upd (r1076.1 15) 3 (vp_nar .boolean 1))) c n)) _ _
          generalize (q_sA r1076 15 (upd (r1076.1 15) 3 (vp_nar .boolean 1))) = r1078
          refine q_RT_let ?_
          show q_RT _ _ _ (43, [(0, .ref 64), (1, .int a1)], [.int 1, .int 2, .ref 79], (q_kM r1078 c n)) _ _
          refine q_RT_seg (g2 := (52, [(0, .ref 64), (1, .int a1)], [.int 6, .int a1, .int 1, .ref 79], (q_kM (q_sA r1078 15 (upd (r1078.1 15) 2 (vp_nar .boolean 1))) c n))) 6 (fun _ _ => rfl) ?_
          refine q_RT_call (v := (some (.int (q_b (dz_M206 (q_sA r1078 15 (upd (r1078.1 15) 2 (vp_nar .boolean 1))) a1 6))))) (h2 := (q_kM (q_sA r1078 15 (upd (r1078.1 15) 2 (vp_nar .boolean 1))) c n)) rfl rfl ((dzt_M206 (q_sA r1078 15 (upd (r1078.1 15) 2 (vp_nar .boolean 1))) c n a1 6).le (Nat.le_of_ble_eq_true rfl)) ?_
          generalize dz_M206 (q_sA r1078 15 (upd (r1078.1 15) 2 (vp_nar .boolean 1))) a1 6 = r1079
          refine q_RT_let ?_
          show q_RT _ _ _ (55, [(0, .ref 64), (1, .int a1)], [.int (q_b r1079), .int 1, .ref 79], (q_kM (q_sA r1078 15 (upd (r1078.1 15) 2 (vp_nar .boolean 1))) c n)) _ _
          cases h1319 : r1079 with
          | true =>
            refine q_RT_cT ?_
            show q_RT _ _ _ (55, [(0, .ref 64), (1, .int a1)], [.int 1, .int 1, .ref 79], (q_kM (q_sA r1078 15 (upd (r1078.1 15) 2 (vp_nar .boolean 1))) c n)) _ _
            generalize (q_sA r1078 15 (upd (r1078.1 15) 2 (vp_nar .boolean 1))) = r1080
            refine q_RT_let ?_
            show q_RT _ _ _ (55, [(0, .ref 64), (1, .int a1)], [.int 1, .int 1, .ref 79], (q_kM r1080 c n)) _ _
            refine q_RT_seg (g2 := (64, [(0, .ref 64), (1, .int a1)], [.int 7, .int a1, .int 0, .ref 79], (q_kM (q_sA r1080 15 (upd (r1080.1 15) 1 (vp_nar .boolean 1))) c n))) 6 (fun _ _ => rfl) ?_
            refine q_RT_call (v := (some (.int (q_b (dz_M206 (q_sA r1080 15 (upd (r1080.1 15) 1 (vp_nar .boolean 1))) a1 7))))) (h2 := (q_kM (q_sA r1080 15 (upd (r1080.1 15) 1 (vp_nar .boolean 1))) c n)) rfl rfl ((dzt_M206 (q_sA r1080 15 (upd (r1080.1 15) 1 (vp_nar .boolean 1))) c n a1 7).le (Nat.le_of_ble_eq_true rfl)) ?_
            generalize dz_M206 (q_sA r1080 15 (upd (r1080.1 15) 1 (vp_nar .boolean 1))) a1 7 = r1081
            refine q_RT_let ?_
            show q_RT _ _ _ (67, [(0, .ref 64), (1, .int a1)], [.int (q_b r1081), .int 0, .ref 79], (q_kM (q_sA r1080 15 (upd (r1080.1 15) 1 (vp_nar .boolean 1))) c n)) _ _
            cases h1320 : r1081 with
            | true =>
              refine q_RT_cT ?_
              show q_RT _ _ _ (67, [(0, .ref 64), (1, .int a1)], [.int 1, .int 0, .ref 79], (q_kM (q_sA r1080 15 (upd (r1080.1 15) 1 (vp_nar .boolean 1))) c n)) _ _
              generalize (q_sA r1080 15 (upd (r1080.1 15) 1 (vp_nar .boolean 1))) = r1082
              refine q_RT_let ?_
              show q_RT _ _ _ (67, [(0, .ref 64), (1, .int a1)], [.int 1, .int 0, .ref 79], (q_kM r1082 c n)) _ _
              refine q_RT_seg (g2 := (68, [(0, .ref 64), (1, .int a1)], [], (q_kM (q_sA r1082 15 (upd (r1082.1 15) 0 (vp_nar .boolean 1))) c n))) 1 (fun _ _ => rfl) ?_
              exact q_RT_ret rfl rfl rfl
            | false =>
              refine q_RT_cF ?_
              show q_RT _ _ _ (67, [(0, .ref 64), (1, .int a1)], [.int 0, .int 0, .ref 79], (q_kM (q_sA r1080 15 (upd (r1080.1 15) 1 (vp_nar .boolean 1))) c n)) _ _
              generalize (q_sA r1080 15 (upd (r1080.1 15) 1 (vp_nar .boolean 1))) = r1083
              refine q_RT_let ?_
              show q_RT _ _ _ (67, [(0, .ref 64), (1, .int a1)], [.int 0, .int 0, .ref 79], (q_kM r1083 c n)) _ _
              refine q_RT_seg (g2 := (68, [(0, .ref 64), (1, .int a1)], [], (q_kM (q_sA r1083 15 (upd (r1083.1 15) 0 (vp_nar .boolean 0))) c n))) 1 (fun _ _ => rfl) ?_
              exact q_RT_ret rfl rfl rfl
          | false =>
            refine q_RT_cF ?_
            show q_RT _ _ _ (55, [(0, .ref 64), (1, .int a1)], [.int 0, .int 1, .ref 79], (q_kM (q_sA r1078 15 (upd (r1078.1 15) 2 (vp_nar .boolean 1))) c n)) _ _
            generalize (q_sA r1078 15 (upd (r1078.1 15) 2 (vp_nar .boolean 1))) = r1084
            refine q_RT_let ?_
            show q_RT _ _ _ (55, [(0, .ref 64), (1, .int a1)], [.int 0, .int 1, .ref 79], (q_kM r1084 c n)) _ _
            refine q_RT_seg (g2 := (64, [(0, .ref 64), (1, .int a1)], [.int 7, .int a1, .int 0, .ref 79], (q_kM (q_sA r1084 15 (upd (r1084.1 15) 1 (vp_nar .boolean 0))) c n))) 6 (fun _ _ => rfl) ?_
            refine q_RT_call (v := (some (.int (q_b (dz_M206 (q_sA r1084 15 (upd (r1084.1 15) 1 (vp_nar .boolean 0))) a1 7))))) (h2 := (q_kM (q_sA r1084 15 (upd (r1084.1 15) 1 (vp_nar .boolean 0))) c n)) rfl rfl ((dzt_M206 (q_sA r1084 15 (upd (r1084.1 15) 1 (vp_nar .boolean 0))) c n a1 7).le (Nat.le_of_ble_eq_true rfl)) ?_
            generalize dz_M206 (q_sA r1084 15 (upd (r1084.1 15) 1 (vp_nar .boolean 0))) a1 7 = r1085
            refine q_RT_let ?_
            show q_RT _ _ _ (67, [(0, .ref 64), (1, .int a1)], [.int (q_b r1085), .int 0, .ref 79], (q_kM (q_sA r1084 15 (upd (r1084.1 15) 1 (vp_nar .boolean 0))) c n)) _ _
            cases h1321 : r1085 with
            | true =>
              refine q_RT_cT ?_
              show q_RT _ _ _ (67, [(0, .ref 64), (1, .int a1)], [.int 1, .int 0, .ref 79], (q_kM (q_sA r1084 15 (upd (r1084.1 15) 1 (vp_nar .boolean 0))) c n)) _ _
              generalize (q_sA r1084 15 (upd (r1084.1 15) 1 (vp_nar .boolean 0))) = r1086
              refine q_RT_let ?_
              show q_RT _ _ _ (67, [(0, .ref 64), (1, .int a1)], [.int 1, .int 0, .ref 79], (q_kM r1086 c n)) _ _
              refine q_RT_seg (g2 := (68, [(0, .ref 64), (1, .int a1)], [], (q_kM (q_sA r1086 15 (upd (r1086.1 15) 0 (vp_nar .boolean 1))) c n))) 1 (fun _ _ => rfl) ?_
              exact q_RT_ret rfl rfl rfl
            | false =>
              refine q_RT_cF ?_
              show q_RT _ _ _ (67, [(0, .ref 64), (1, .int a1)], [.int 0, .int 0, .ref 79], (q_kM (q_sA r1084 15 (upd (r1084.1 15) 1 (vp_nar .boolean 0))) c n)) _ _
              generalize (q_sA r1084 15 (upd (r1084.1 15) 1 (vp_nar .boolean 0))) = r1087
              refine q_RT_let ?_
              show q_RT _ _ _ (67, [(0, .ref 64), (1, .int a1)], [.int 0, .int 0, .ref 79], (q_kM r1087 c n)) _ _
              refine q_RT_seg (g2 := (68, [(0, .ref 64), (1, .int a1)], [], (q_kM (q_sA r1087 15 (upd (r1087.1 15) 0 (vp_nar .boolean 0))) c n))) 1 (fun _ _ => rfl) ?_
              exact q_RT_ret rfl rfl rfl
        | false =>
          refine q_RT_cF ?_
          show q_RT _ _ _ (43, [(0, .ref 64), (1, .int a1)], [.int 0, .int 2, .ref 79], (q_kM (q_sA r1076 15 (upd (r1076.1 15) 3 (vp_nar .boolean 1))) c n)) _ _
          generalize (q_sA r1076 15 (upd (r1076.1 15) 3 (vp_nar .boolean 1))) = r1088
          refine q_RT_let ?_
          show q_RT _ _ _ (43, [(0, .ref 64), (1, .int a1)], [.int 0, .int 2, .ref 79], (q_kM r1088 c n)) _ _
          refine q_RT_seg (g2 := (52, [(0, .ref 64), (1, .int a1)], [.int 6, .int a1, .int 1, .ref 79], (q_kM (q_sA r1088 15 (upd (r1088.1 15) 2 (vp_nar .boolean 0))) c n))) 6 (fun _ _ => rfl) ?_
          refine q_RT_call (v := (some (.int (q_b (dz_M206 (q_sA r1088 15 (upd (r1088.1 15) 2 (vp_nar .boolean 0))) a1 6))))) (h2 := (q_kM (q_sA r1088 15 (upd (r1088.1 15) 2 (vp_nar .boolean 0))) c n)) rfl rfl ((dzt_M206 (q_sA r1088 15 (upd (r1088.1 15) 2 (vp_nar .boolean 0))) c n a1 6).le (Nat.le_of_ble_eq_true rfl)) ?_
          generalize dz_M206 (q_sA r1088 15 (upd (r1088.1 15) 2 (vp_nar .boolean 0))) a1 6 = r1089
          refine q_RT_let ?_
          show q_RT _ _ _ (55, [(0, .ref 64), (1, .int a1)], [.int (q_b r1089), .int 1, .ref 79], (q_kM (q_sA r1088 15 (upd (r1088.1 15) 2 (vp_nar .boolean 0))) c n)) _ _
          cases h1322 : r1089 with
          | true =>
            refine q_RT_cT ?_
            show q_RT _ _ _ (55, [(0, .ref 64), (1, .int a1)], [.int 1, .int 1, .ref 79], (q_kM (q_sA r1088 15 (upd (r1088.1 15) 2 (vp_nar .boolean 0))) c n)) _ _
            generalize (q_sA r1088 15 (upd (r1088.1 15) 2 (vp_nar .boolean 0))) = r1090
            refine q_RT_let ?_
            show q_RT _ _ _ (55, [(0, .ref 64), (1, .int a1)], [.int 1, .int 1, .ref 79], (q_kM r1090 c n)) _ _
            refine q_RT_seg (g2 := (64, [(0, .ref 64), (1, .int a1)], [.int 7, .int a1, .int 0, .ref 79], (q_kM (q_sA r1090 15 (upd (r1090.1 15) 1 (vp_nar .boolean 1))) c n))) 6 (fun _ _ => rfl) ?_
            refine q_RT_call (v := (some (.int (q_b (dz_M206 (q_sA r1090 15 (upd (r1090.1 15) 1 (vp_nar .boolean 1))) a1 7))))) (h2 := (q_kM (q_sA r1090 15 (upd (r1090.1 15) 1 (vp_nar .boolean 1))) c n)) rfl rfl ((dzt_M206 (q_sA r1090 15 (upd (r1090.1 15) 1 (vp_nar .boolean 1))) c n a1 7).le (Nat.le_of_ble_eq_true rfl)) ?_
            generalize dz_M206 (q_sA r1090 15 (upd (r1090.1 15) 1 (vp_nar .boolean 1))) a1 7 = r1091
            refine q_RT_let ?_
            show q_RT _ _ _ (67, [(0, .ref 64), (1, .int a1)], [.int (q_b r1091), .int 0, .ref 79], (q_kM (q_sA r1090 15 (upd (r1090.1 15) 1 (vp_nar .boolean 1))) c n)) _ _
            cases h1323 : r1091 with
            | true =>
              refine q_RT_cT ?_
              show q_RT _ _ _ (67, [(0, .ref 64), (1, .int a1)], [.int 1, .int 0, .ref 79], (q_kM (q_sA r1090 15 (upd (r1090.1 15) 1 (vp_nar .boolean 1))) c n)) _ _
              generalize (q_sA r1090 15 (upd (r1090.1 15) 1 (vp_nar .boolean 1))) = r1092
              refine q_RT_let ?_
              show q_RT _ _ _ (67, [(0, .ref 64), (1, .int a1)], [.int 1, .int 0, .ref 79], (q_kM r1092 c n)) _ _
              refine q_RT_seg (g2 := (68, [(0, .ref 64), (1, .int a1)], [], (q_kM (q_sA r1092 15 (upd (r1092.1 15) 0 (vp_nar .boolean 1))) c n))) 1 (fun _ _ => rfl) ?_
              exact q_RT_ret rfl rfl rfl
            | false =>
              refine q_RT_cF ?_
              show q_RT _ _ _ (67, [(0, .ref 64), (1, .int a1)], [.int 0, .int 0, .ref 79], (q_kM (q_sA r1090 15 (upd (r1090.1 15) 1 (vp_nar .boolean 1))) c n)) _ _
              generalize (q_sA r1090 15 (upd (r1090.1 15) 1 (vp_nar .boolean 1))) = r1093
              refine q_RT_let ?_
              show q_RT _ _ _ (67, [(0, .ref 64), (1, .int a1)], [.int 0, .int 0, .ref 79], (q_kM r1093 c n)) _ _
              refine q_RT_seg (g2 := (68, [(0, .ref 64), (1, .int a1)], [], (q_kM (q_sA r1093 15 (upd (r1093.1 15) 0 (vp_nar .boolean 0))) c n))) 1 (fun _ _ => rfl) ?_
              exact q_RT_ret rfl rfl rfl
          | false =>
            refine q_RT_cF ?_
            show q_RT _ _ _ (55, [(0, .ref 64), (1, .int a1)], [.int 0, .int 1, .ref 79], (q_kM (q_sA r1088 15 (upd (r1088.1 15) 2 (vp_nar .boolean 0))) c n)) _ _
            generalize (q_sA r1088 15 (upd (r1088.1 15) 2 (vp_nar .boolean 0))) = r1094
            refine q_RT_let ?_
            show q_RT _ _ _ (55, [(0, .ref 64), (1, .int a1)], [.int 0, .int 1, .ref 79], (q_kM r1094 c n)) _ _
            refine q_RT_seg (g2 := (64, [(0, .ref 64), (1, .int a1)], [.int 7, .int a1, .int 0, .ref 79], (q_kM (q_sA r1094 15 (upd (r1094.1 15) 1 (vp_nar .boolean 0))) c n))) 6 (fun _ _ => rfl) ?_
            refine q_RT_call (v := (some (.int (q_b (dz_M206 (q_sA r1094 15 (upd (r1094.1 15) 1 (vp_nar .boolean 0))) a1 7))))) (h2 := (q_kM (q_sA r1094 15 (upd (r1094.1 15) 1 (vp_nar .boolean 0))) c n)) rfl rfl ((dzt_M206 (q_sA r1094 15 (upd (r1094.1 15) 1 (vp_nar .boolean 0))) c n a1 7).le (Nat.le_of_ble_eq_true rfl)) ?_
            generalize dz_M206 (q_sA r1094 15 (upd (r1094.1 15) 1 (vp_nar .boolean 0))) a1 7 = r1095
            refine q_RT_let ?_
            show q_RT _ _ _ (67, [(0, .ref 64), (1, .int a1)], [.int (q_b r1095), .int 0, .ref 79], (q_kM (q_sA r1094 15 (upd (r1094.1 15) 1 (vp_nar .boolean 0))) c n)) _ _
            cases h1324 : r1095 with
            | true =>
              refine q_RT_cT ?_
              show q_RT _ _ _ (67, [(0, .ref 64), (1, .int a1)], [.int 1, .int 0, .ref 79], (q_kM (q_sA r1094 15 (upd (r1094.1 15) 1 (vp_nar .boolean 0))) c n)) _ _
              generalize (q_sA r1094 15 (upd (r1094.1 15) 1 (vp_nar .boolean 0))) = r1096
              refine q_RT_let ?_
              show q_RT _ _ _ (67, [(0, .ref 64), (1, .int a1)], [.int 1, .int 0, .ref 79], (q_kM r1096 c n)) _ _
              refine q_RT_seg (g2 := (68, [(0, .ref 64), (1, .int a1)], [], (q_kM (q_sA r1096 15 (upd (r1096.1 15) 0 (vp_nar .boolean 1))) c n))) 1 (fun _ _ => rfl) ?_
              exact q_RT_ret rfl rfl rfl
            | false =>
              refine q_RT_cF ?_
              show q_RT _ _ _ (67, [(0, .ref 64), (1, .int a1)], [.int 0, .int 0, .ref 79], (q_kM (q_sA r1094 15 (upd (r1094.1 15) 1 (vp_nar .boolean 0))) c n)) _ _
              generalize (q_sA r1094 15 (upd (r1094.1 15) 1 (vp_nar .boolean 0))) = r1097
              refine q_RT_let ?_
              show q_RT _ _ _ (67, [(0, .ref 64), (1, .int a1)], [.int 0, .int 0, .ref 79], (q_kM r1097 c n)) _ _
              refine q_RT_seg (g2 := (68, [(0, .ref 64), (1, .int a1)], [], (q_kM (q_sA r1097 15 (upd (r1097.1 15) 0 (vp_nar .boolean 0))) c n))) 1 (fun _ _ => rfl) ?_
              exact q_RT_ret rfl rfl rfl
      | false =>
        refine q_RT_cF ?_
        show q_RT _ _ _ (32, [(0, .ref 64), (1, .int a1)], [.int 0, .int 3, .ref 79], (q_kM (q_sA r1074 15 (upd (r1074.1 15) 4 (vp_nar .boolean 0))) c n)) _ _
        generalize (q_sA r1074 15 (upd (r1074.1 15) 4 (vp_nar .boolean 0))) = r1098
        refine q_RT_let ?_
        show q_RT _ _ _ (32, [(0, .ref 64), (1, .int a1)], [.int 0, .int 3, .ref 79], (q_kM r1098 c n)) _ _
        refine q_RT_seg (g2 := (40, [(0, .ref 64), (1, .int a1)], [.int 3, .int a1, .int 2, .ref 79], (q_kM (q_sA r1098 15 (upd (r1098.1 15) 3 (vp_nar .boolean 0))) c n))) 6 (fun _ _ => rfl) ?_
        refine q_RT_call (v := (some (.int (q_b (dz_M206 (q_sA r1098 15 (upd (r1098.1 15) 3 (vp_nar .boolean 0))) a1 3))))) (h2 := (q_kM (q_sA r1098 15 (upd (r1098.1 15) 3 (vp_nar .boolean 0))) c n)) rfl rfl ((dzt_M206 (q_sA r1098 15 (upd (r1098.1 15) 3 (vp_nar .boolean 0))) c n a1 3).le (Nat.le_of_ble_eq_true rfl)) ?_
        generalize dz_M206 (q_sA r1098 15 (upd (r1098.1 15) 3 (vp_nar .boolean 0))) a1 3 = r1099
        refine q_RT_let ?_
        show q_RT _ _ _ (43, [(0, .ref 64), (1, .int a1)], [.int (q_b r1099), .int 2, .ref 79], (q_kM (q_sA r1098 15 (upd (r1098.1 15) 3 (vp_nar .boolean 0))) c n)) _ _
        cases h1325 : r1099 with
        | true =>
          refine q_RT_cT ?_
          show q_RT _ _ _ (43, [(0, .ref 64), (1, .int a1)], [.int 1, .int 2, .ref 79], (q_kM (q_sA r1098 15 (upd (r1098.1 15) 3 (vp_nar .boolean 0))) c n)) _ _
          generalize (q_sA r1098 15 (upd (r1098.1 15) 3 (vp_nar .boolean 0))) = r1100
          refine q_RT_let ?_
          show q_RT _ _ _ (43, [(0, .ref 64), (1, .int a1)], [.int 1, .int 2, .ref 79], (q_kM r1100 c n)) _ _
          refine q_RT_seg (g2 := (52, [(0, .ref 64), (1, .int a1)], [.int 6, .int a1, .int 1, .ref 79], (q_kM (q_sA r1100 15 (upd (r1100.1 15) 2 (vp_nar .boolean 1))) c n))) 6 (fun _ _ => rfl) ?_
          refine q_RT_call (v := (some (.int (q_b (dz_M206 (q_sA r1100 15 (upd (r1100.1 15) 2 (vp_nar .boolean 1))) a1 6))))) (h2 := (q_kM (q_sA r1100 15 (upd (r1100.1 15) 2 (vp_nar .boolean 1))) c n)) rfl rfl ((dzt_M206 (q_sA r1100 15 (upd (r1100.1 15) 2 (vp_nar .boolean 1))) c n a1 6).le (Nat.le_of_ble_eq_true rfl)) ?_
          generalize dz_M206 (q_sA r1100 15 (upd (r1100.1 15) 2 (vp_nar .boolean 1))) a1 6 = r1101
          refine q_RT_let ?_
          show q_RT _ _ _ (55, [(0, .ref 64), (1, .int a1)], [.int (q_b r1101), .int 1, .ref 79], (q_kM (q_sA r1100 15 (upd (r1100.1 15) 2 (vp_nar .boolean 1))) c n)) _ _
          cases h1326 : r1101 with
          | true =>
            refine q_RT_cT ?_
            show q_RT _ _ _ (55, [(0, .ref 64), (1, .int a1)], [.int 1, .int 1, .ref 79], (q_kM (q_sA r1100 15 (upd (r1100.1 15) 2 (vp_nar .boolean 1))) c n)) _ _
            generalize (q_sA r1100 15 (upd (r1100.1 15) 2 (vp_nar .boolean 1))) = r1102
            refine q_RT_let ?_
            show q_RT _ _ _ (55, [(0, .ref 64), (1, .int a1)], [.int 1, .int 1, .ref 79], (q_kM r1102 c n)) _ _
            refine q_RT_seg (g2 := (64, [(0, .ref 64), (1, .int a1)], [.int 7, .int a1, .int 0, .ref 79], (q_kM (q_sA r1102 15 (upd (r1102.1 15) 1 (vp_nar .boolean 1))) c n))) 6 (fun _ _ => rfl) ?_
            refine q_RT_call (v := (some (.int (q_b (dz_M206 (q_sA r1102 15 (upd (r1102.1 15) 1 (vp_nar .boolean 1))) a1 7))))) (h2 := (q_kM (q_sA r1102 15 (upd (r1102.1 15) 1 (vp_nar .boolean 1))) c n)) rfl rfl ((dzt_M206 (q_sA r1102 15 (upd (r1102.1 15) 1 (vp_nar .boolean 1))) c n a1 7).le (Nat.le_of_ble_eq_true rfl)) ?_
            generalize dz_M206 (q_sA r1102 15 (upd (r1102.1 15) 1 (vp_nar .boolean 1))) a1 7 = r1103
            refine q_RT_let ?_
            show q_RT _ _ _ (67, [(0, .ref 64), (1, .int a1)], [.int (q_b r1103), .int 0, .ref 79], (q_kM (q_sA r1102 15 (upd (r1102.1 15) 1 (vp_nar .boolean 1))) c n)) _ _
            cases h1327 : r1103 with
            | true =>
              refine q_RT_cT ?_
              show q_RT _ _ _ (67, [(0, .ref 64), (1, .int a1)], [.int 1, .int 0, .ref 79], (q_kM (q_sA r1102 15 (upd (r1102.1 15) 1 (vp_nar .boolean 1))) c n)) _ _
              generalize (q_sA r1102 15 (upd (r1102.1 15) 1 (vp_nar .boolean 1))) = r1104
              refine q_RT_let ?_
              show q_RT _ _ _ (67, [(0, .ref 64), (1, .int a1)], [.int 1, .int 0, .ref 79], (q_kM r1104 c n)) _ _
              refine q_RT_seg (g2 := (68, [(0, .ref 64), (1, .int a1)], [], (q_kM (q_sA r1104 15 (upd (r1104.1 15) 0 (vp_nar .boolean 1))) c n))) 1 (fun _ _ => rfl) ?_
              exact q_RT_ret rfl rfl rfl
            | false =>
              refine q_RT_cF ?_
              show q_RT _ _ _ (67, [(0, .ref 64), (1, .int a1)], [.int 0, .int 0, .ref 79], (q_kM (q_sA r1102 15 (upd (r1102.1 15) 1 (vp_nar .boolean 1))) c n)) _ _
              generalize (q_sA r1102 15 (upd (r1102.1 15) 1 (vp_nar .boolean 1))) = r1105
              refine q_RT_let ?_
              show q_RT _ _ _ (67, [(0, .ref 64), (1, .int a1)], [.int 0, .int 0, .ref 79], (q_kM r1105 c n)) _ _
              refine q_RT_seg (g2 := (68, [(0, .ref 64), (1, .int a1)], [], (q_kM (q_sA r1105 15 (upd (r1105.1 15) 0 (vp_nar .boolean 0))) c n))) 1 (fun _ _ => rfl) ?_
              exact q_RT_ret rfl rfl rfl
          | false =>
            refine q_RT_cF ?_
            show q_RT _ _ _ (55, [(0, .ref 64), (1, .int a1)], [.int 0, .int 1, .ref 79], (q_kM (q_sA r1100 15 (upd (r1100.1 15) 2 (vp_nar .boolean 1))) c n)) _ _
            generalize (q_sA r1100 15 (upd (r1100.1 15) 2 (vp_nar .boolean 1))) = r1106
            refine q_RT_let ?_
            show q_RT _ _ _ (55, [(0, .ref 64), (1, .int a1)], [.int 0, .int 1, .ref 79], (q_kM r1106 c n)) _ _
            refine q_RT_seg (g2 := (64, [(0, .ref 64), (1, .int a1)], [.int 7, .int a1, .int 0, .ref 79], (q_kM (q_sA r1106 15 (upd (r1106.1 15) 1 (vp_nar .boolean 0))) c n))) 6 (fun _ _ => rfl) ?_
            refine q_RT_call (v := (some (.int (q_b (dz_M206 (q_sA r1106 15 (upd (r1106.1 15) 1 (vp_nar .boolean 0))) a1 7))))) (h2 := (q_kM (q_sA r1106 15 (upd (r1106.1 15) 1 (vp_nar .boolean 0))) c n)) rfl rfl ((dzt_M206 (q_sA r1106 15 (upd (r1106.1 15) 1 (vp_nar .boolean 0))) c n a1 7).le (Nat.le_of_ble_eq_true rfl)) ?_
            generalize dz_M206 (q_sA r1106 15 (upd (r1106.1 15) 1 (vp_nar .boolean 0))) a1 7 = r1107
            refine q_RT_let ?_
            show q_RT _ _ _ (67, [(0, .ref 64), (1, .int a1)], [.int (q_b r1107), .int 0, .ref 79], (q_kM (q_sA r1106 15 (upd (r1106.1 15) 1 (vp_nar .boolean 0))) c n)) _ _
            cases h1328 : r1107 with
            | true =>
              refine q_RT_cT ?_
              show q_RT _ _ _ (67, [(0, .ref 64), (1, .int a1)], [.int 1, .int 0, .ref 79], (q_kM (q_sA r1106 15 (upd (r1106.1 15) 1 (vp_nar .boolean 0))) c n)) _ _
              generalize (q_sA r1106 15 (upd (r1106.1 15) 1 (vp_nar .boolean 0))) = r1108
              refine q_RT_let ?_
              show q_RT _ _ _ (67, [(0, .ref 64), (1, .int a1)], [.int 1, .int 0, .ref 79], (q_kM r1108 c n)) _ _
              refine q_RT_seg (g2 := (68, [(0, .ref 64), (1, .int a1)], [], (q_kM (q_sA r1108 15 (upd (r1108.1 15) 0 (vp_nar .boolean 1))) c n))) 1 (fun _ _ => rfl) ?_
              exact q_RT_ret rfl rfl rfl
            | false =>
              refine q_RT_cF ?_
              show q_RT _ _ _ (67, [(0, .ref 64), (1, .int a1)], [.int 0, .int 0, .ref 79], (q_kM (q_sA r1106 15 (upd (r1106.1 15) 1 (vp_nar .boolean 0))) c n)) _ _
              generalize (q_sA r1106 15 (upd (r1106.1 15) 1 (vp_nar .boolean 0))) = r1109
              refine q_RT_let ?_
              show q_RT _ _ _ (67, [(0, .ref 64), (1, .int a1)], [.int 0, .int 0, .ref 79], (q_kM r1109 c n)) _ _
              refine q_RT_seg (g2 := (68, [(0, .ref 64), (1, .int a1)], [], (q_kM (q_sA r1109 15 (upd (r1109.1 15) 0 (vp_nar .boolean 0))) c n))) 1 (fun _ _ => rfl) ?_
              exact q_RT_ret rfl rfl rfl
        | false =>
          refine q_RT_cF ?_
          show q_RT _ _ _ (43, [(0, .ref 64), (1, .int a1)], [.int 0, .int 2, .ref 79], (q_kM (q_sA r1098 15 (upd (r1098.1 15) 3 (vp_nar .boolean 0))) c n)) _ _
          generalize (q_sA r1098 15 (upd (r1098.1 15) 3 (vp_nar .boolean 0))) = r1110
          refine q_RT_let ?_
          show q_RT _ _ _ (43, [(0, .ref 64), (1, .int a1)], [.int 0, .int 2, .ref 79], (q_kM r1110 c n)) _ _
          refine q_RT_seg (g2 := (52, [(0, .ref 64), (1, .int a1)], [.int 6, .int a1, .int 1, .ref 79], (q_kM (q_sA r1110 15 (upd (r1110.1 15) 2 (vp_nar .boolean 0))) c n))) 6 (fun _ _ => rfl) ?_
          refine q_RT_call (v := (some (.int (q_b (dz_M206 (q_sA r1110 15 (upd (r1110.1 15) 2 (vp_nar .boolean 0))) a1 6))))) (h2 := (q_kM (q_sA r1110 15 (upd (r1110.1 15) 2 (vp_nar .boolean 0))) c n)) rfl rfl ((dzt_M206 (q_sA r1110 15 (upd (r1110.1 15) 2 (vp_nar .boolean 0))) c n a1 6).le (Nat.le_of_ble_eq_true rfl)) ?_
          generalize dz_M206 (q_sA r1110 15 (upd (r1110.1 15) 2 (vp_nar .boolean 0))) a1 6 = r1111
          refine q_RT_let ?_
          show q_RT _ _ _ (55, [(0, .ref 64), (1, .int a1)], [.int (q_b r1111), .int 1, .ref 79], (q_kM (q_sA r1110 15 (upd (r1110.1 15) 2 (vp_nar .boolean 0))) c n)) _ _
          cases h1329 : r1111 with
          | true =>
            refine q_RT_cT ?_
            show q_RT _ _ _ (55, [(0, .ref 64), (1, .int a1)], [.int 1, .int 1, .ref 79], (q_kM (q_sA r1110 15 (upd (r1110.1 15) 2 (vp_nar .boolean 0))) c n)) _ _
            generalize (q_sA r1110 15 (upd (r1110.1 15) 2 (vp_nar .boolean 0))) = r1112
            refine q_RT_let ?_
            show q_RT _ _ _ (55, [(0, .ref 64), (1, .int a1)], [.int 1, .int 1, .ref 79], (q_kM r1112 c n)) _ _
            refine q_RT_seg (g2 := (64, [(0, .ref 64), (1, .int a1)], [.int 7, .int a1, .int 0, .ref 79], (q_kM (q_sA r1112 15 (upd (r1112.1 15) 1 (vp_nar .boolean 1))) c n))) 6 (fun _ _ => rfl) ?_
            refine q_RT_call (v := (some (.int (q_b (dz_M206 (q_sA r1112 15 (upd (r1112.1 15) 1 (vp_nar .boolean 1))) a1 7))))) (h2 := (q_kM (q_sA r1112 15 (upd (r1112.1 15) 1 (vp_nar .boolean 1))) c n)) rfl rfl ((dzt_M206 (q_sA r1112 15 (upd (r1112.1 15) 1 (vp_nar .boolean 1))) c n a1 7).le (Nat.le_of_ble_eq_true rfl)) ?_
            generalize dz_M206 (q_sA r1112 15 (upd (r1112.1 15) 1 (vp_nar .boolean 1))) a1 7 = r1113
            refine q_RT_let ?_
            show q_RT _ _ _ (67, [(0, .ref 64), (1, .int a1)], [.int (q_b r1113), .int 0, .ref 79], (q_kM (q_sA r1112 15 (upd (r1112.1 15) 1 (vp_nar .boolean 1))) c n)) _ _
            cases h1330 : r1113 with
            | true =>
              refine q_RT_cT ?_
              show q_RT _ _ _ (67, [(0, .ref 64), (1, .int a1)], [.int 1, .int 0, .ref 79], (q_kM (q_sA r1112 15 (upd (r1112.1 15) 1 (vp_nar .boolean 1))) c n)) _ _
              generalize (q_sA r1112 15 (upd (r1112.1 15) 1 (vp_nar .boolean 1))) = r1114
              refine q_RT_let ?_
              show q_RT _ _ _ (67, [(0, .ref 64), (1, .int a1)], [.int 1, .int 0, .ref 79], (q_kM r1114 c n)) _ _
              refine q_RT_seg (g2 := (68, [(0, .ref 64), (1, .int a1)], [], (q_kM (q_sA r1114 15 (upd (r1114.1 15) 0 (vp_nar .boolean 1))) c n))) 1 (fun _ _ => rfl) ?_
              exact q_RT_ret rfl rfl rfl
            | false =>
              refine q_RT_cF ?_
              show q_RT _ _ _ (67, [(0, .ref 64), (1, .int a1)], [.int 0, .int 0, .ref 79], (q_kM (q_sA r1112 15 (upd (r1112.1 15) 1 (vp_nar .boolean 1))) c n)) _ _
              generalize (q_sA r1112 15 (upd (r1112.1 15) 1 (vp_nar .boolean 1))) = r1115
              refine q_RT_let ?_
              show q_RT _ _ _ (67, [(0, .ref 64), (1, .int a1)], [.int 0, .int 0, .ref 79], (q_kM r1115 c n)) _ _
              refine q_RT_seg (g2 := (68, [(0, .ref 64), (1, .int a1)], [], (q_kM (q_sA r1115 15 (upd (r1115.1 15) 0 (vp_nar .boolean 0))) c n))) 1 (fun _ _ => rfl) ?_
              exact q_RT_ret rfl rfl rfl
          | false =>
            refine q_RT_cF ?_
            show q_RT _ _ _ (55, [(0, .ref 64), (1, .int a1)], [.int 0, .int 1, .ref 79], (q_kM (q_sA r1110 15 (upd (r1110.1 15) 2 (vp_nar .boolean 0))) c n)) _ _
            generalize (q_sA r1110 15 (upd (r1110.1 15) 2 (vp_nar .boolean 0))) = r1116
            refine q_RT_let ?_
            show q_RT _ _ _ (55, [(0, .ref 64), (1, .int a1)], [.int 0, .int 1, .ref 79], (q_kM r1116 c n)) _ _
            refine q_RT_seg (g2 := (64, [(0, .ref 64), (1, .int a1)], [.int 7, .int a1, .int 0, .ref 79], (q_kM (q_sA r1116 15 (upd (r1116.1 15) 1 (vp_nar .boolean 0))) c n))) 6 (fun _ _ => rfl) ?_
            refine q_RT_call (v := (some (.int (q_b (dz_M206 (q_sA r1116 15 (upd (r1116.1 15) 1 (vp_nar .boolean 0))) a1 7))))) (h2 := (q_kM (q_sA r1116 15 (upd (r1116.1 15) 1 (vp_nar .boolean 0))) c n)) rfl rfl ((dzt_M206 (q_sA r1116 15 (upd (r1116.1 15) 1 (vp_nar .boolean 0))) c n a1 7).le (Nat.le_of_ble_eq_true rfl)) ?_
            generalize dz_M206 (q_sA r1116 15 (upd (r1116.1 15) 1 (vp_nar .boolean 0))) a1 7 = r1117
            refine q_RT_let ?_
            show q_RT _ _ _ (67, [(0, .ref 64), (1, .int a1)], [.int (q_b r1117), .int 0, .ref 79], (q_kM (q_sA r1116 15 (upd (r1116.1 15) 1 (vp_nar .boolean 0))) c n)) _ _
            cases h1331 : r1117 with
            | true =>
              refine q_RT_cT ?_
              show q_RT _ _ _ (67, [(0, .ref 64), (1, .int a1)], [.int 1, .int 0, .ref 79], (q_kM (q_sA r1116 15 (upd (r1116.1 15) 1 (vp_nar .boolean 0))) c n)) _ _
              generalize (q_sA r1116 15 (upd (r1116.1 15) 1 (vp_nar .boolean 0))) = r1118
              refine q_RT_let ?_
              show q_RT _ _ _ (67, [(0, .ref 64), (1, .int a1)], [.int 1, .int 0, .ref 79], (q_kM r1118 c n)) _ _
              refine q_RT_seg (g2 := (68, [(0, .ref 64), (1, .int a1)], [], (q_kM (q_sA r1118 15 (upd (r1118.1 15) 0 (vp_nar .boolean 1))) c n))) 1 (fun _ _ => rfl) ?_
              exact q_RT_ret rfl rfl rfl
            | false =>
              refine q_RT_cF ?_
              show q_RT _ _ _ (67, [(0, .ref 64), (1, .int a1)], [.int 0, .int 0, .ref 79], (q_kM (q_sA r1116 15 (upd (r1116.1 15) 1 (vp_nar .boolean 0))) c n)) _ _
              generalize (q_sA r1116 15 (upd (r1116.1 15) 1 (vp_nar .boolean 0))) = r1119
              refine q_RT_let ?_
              show q_RT _ _ _ (67, [(0, .ref 64), (1, .int a1)], [.int 0, .int 0, .ref 79], (q_kM r1119 c n)) _ _
              refine q_RT_seg (g2 := (68, [(0, .ref 64), (1, .int a1)], [], (q_kM (q_sA r1119 15 (upd (r1119.1 15) 0 (vp_nar .boolean 0))) c n))) 1 (fun _ _ => rfl) ?_
              exact q_RT_ret rfl rfl rfl
def dz_M274_64 (s : q_S) (a1 : Int32) : Option (q_S × Int32) :=
  (dz_M256_64 s).bind fun r1122 => (dz_M256_64 r1122.1).bind fun r1123 => q_let (dz_M213 r1123.1 ((r1122.2 + (256 * r1123.2)) + a1)) fun r1124 => some (r1123.1, r1124)
set_option maxHeartbeats 4000000 in
theorem dzt_M274_64 (s : q_S) (c n : Nat) (a1 : Int32) (x : q_S × Int32) (h : dz_M274_64 s a1 = some x) : q_Ca q_TB0 2 273 [.ref 64, .int a1] (q_kM s c n) ((q_oIM c n) x) := by
  refine q_CaP_of (φ := (q_oIM c n)) (Nat.le_of_ble_eq_true rfl) ?_ h
  clear h
  unfold dz_M274_64
  refine q_RP_seg (g2 := (1, [(0, .ref 64), (1, .int a1)], [.ref 64], (q_kM s c n))) 1 (fun _ _ => rfl) ?_
  refine q_RP_bd fun r1122 er1122 => ?_
  refine q_RP_call (v := (some (.int r1122.2))) (h2 := (q_kM r1122.1 c n)) rfl rfl ((dzt_M256_64 s c n r1122 er1122).le (Nat.le_of_ble_eq_true rfl)) ?_
  show q_RP _ _ _ (4, [(0, .ref 64), (1, .int a1)], [.int r1122.2], (q_kM r1122.1 c n)) _ _
  refine q_RP_seg (g2 := (10, [(2, .int r1122.2), (0, .ref 64), (1, .int a1)], [.ref 64, .int 256, .int r1122.2], (q_kM r1122.1 c n))) 4 (fun _ _ => rfl) ?_
  refine q_RP_bd fun r1123 er1123 => ?_
  refine q_RP_call (v := (some (.int r1123.2))) (h2 := (q_kM r1123.1 c n)) rfl rfl ((dzt_M256_64 r1122.1 c n r1123 er1123).le (Nat.le_of_ble_eq_true rfl)) ?_
  show q_RP _ _ _ (13, [(2, .int r1122.2), (0, .ref 64), (1, .int a1)], [.int r1123.2, .int 256, .int r1122.2], (q_kM r1123.1 c n)) _ _
  refine q_RP_seg (g2 := (17, [(2, .int r1122.2), (0, .ref 64), (1, .int a1)], [.int ((r1122.2 + (256 * r1123.2)) + a1)], (q_kM r1123.1 c n))) 4 (fun _ _ => rfl) ?_
  refine q_RP_call (v := (some (.int (dz_M213 r1123.1 ((r1122.2 + (256 * r1123.2)) + a1))))) (h2 := (q_kM r1123.1 c n)) rfl rfl ((dzt_M213 r1123.1 c n ((r1122.2 + (256 * r1123.2)) + a1)).le (Nat.le_of_ble_eq_true rfl)) ?_
  generalize dz_M213 r1123.1 ((r1122.2 + (256 * r1123.2)) + a1) = r1124
  refine q_RP_let ?_
  show q_RP _ _ _ (20, [(2, .int r1122.2), (0, .ref 64), (1, .int a1)], [.int r1124], (q_kM r1123.1 c n)) _ _
  exact q_RP_ret rfl rfl rfl
def dz_M275_64_43 (s : q_S) (v1 : Int32) (v3 : Int32) : Option (q_S) :=
  cond (decide (v1 = 159)) ((dz_M247_64 s v3).bind fun r1133 => (dz_M247_64 r1133.1 (((v3 / 256) * 256) + ((v3 + 1) - (v3 + 1) / 256 * 256))).bind fun r1134 => q_let (dz_M213 r1134.1 (r1133.2 + (256 * r1134.2))) fun r1135 => some (q_sA r1134.1 14 (upd (r1134.1.1 14) 4 r1135))) (some (q_sA s 14 (upd (s.1 14) 4 v3)))
set_option maxHeartbeats 4000000 in
theorem dzt_M275_64_43 (c n : Nat) (s : q_S) (v1 : Int32) (v3 : Int32) : q_RP q_TB0 6 274 (43, [(0, .ref 64), (1, .int v1), (3, .int v3)], [], (q_kM s c n)) (q_oSM c n) (dz_M275_64_43 s v1 v3) := by
  unfold dz_M275_64_43
  refine q_RP_seg (g2 := (52, [(0, .ref 64), (1, .int v1), (3, .int v3)], [.int 159, .int v1, .int 4, .ref 78], (q_kM s c n))) 5 (fun _ _ => rfl) ?_
  cases h1335 : decide (v1 = 159) with
  | true =>
    refine q_RP_cT ?_
    refine q_RP_rsF (g2 := (55, [(0, .ref 64), (1, .int v1), (3, .int v3)], [.int 4, .ref 78], (q_kM s c n))) rfl rfl (q_d_neT h1335) ?_
    refine q_RP_seg (g2 := (57, [(0, .ref 64), (1, .int v1), (3, .int v3)], [.int v3, .ref 64, .int 4, .ref 78], (q_kM s c n))) 2 (fun _ _ => rfl) ?_
    refine q_RP_bd fun r1133 er1133 => ?_
    refine q_RP_call (v := (some (.int r1133.2))) (h2 := (q_kM r1133.1 c n)) rfl rfl ((dzt_M247_64 s c n v3 r1133 er1133).le (Nat.le_of_ble_eq_true rfl)) ?_
    show q_RP _ _ _ (60, [(0, .ref 64), (1, .int v1), (3, .int v3)], [.int r1133.2, .int 4, .ref 78], (q_kM r1133.1 c n)) _ _
    refine q_RP_seg (g2 := (81, [(0, .ref 64), (1, .int v1), (3, .int v3)], [.int (((v3 / 256) * 256) + ((v3 + 1) - (v3 + 1) / 256 * 256)), .ref 64, .int 256, .int r1133.2, .int 4, .ref 78], (q_kM r1133.1 c n))) 13 (fun _ _ => rfl) ?_
    refine q_RP_bd fun r1134 er1134 => ?_
    refine q_RP_call (v := (some (.int r1134.2))) (h2 := (q_kM r1134.1 c n)) rfl rfl ((dzt_M247_64 r1133.1 c n (((v3 / 256) * 256) + ((v3 + 1) - (v3 + 1) / 256 * 256)) r1134 er1134).le (Nat.le_of_ble_eq_true rfl)) ?_
    show q_RP _ _ _ (84, [(0, .ref 64), (1, .int v1), (3, .int v3)], [.int r1134.2, .int 256, .int r1133.2, .int 4, .ref 78], (q_kM r1134.1 c n)) _ _
    refine q_RP_seg (g2 := (86, [(0, .ref 64), (1, .int v1), (3, .int v3)], [.int (r1133.2 + (256 * r1134.2)), .int 4, .ref 78], (q_kM r1134.1 c n))) 2 (fun _ _ => rfl) ?_
    refine q_RP_call (v := (some (.int (dz_M213 r1134.1 (r1133.2 + (256 * r1134.2)))))) (h2 := (q_kM r1134.1 c n)) rfl rfl ((dzt_M213 r1134.1 c n (r1133.2 + (256 * r1134.2))).le (Nat.le_of_ble_eq_true rfl)) ?_
    generalize dz_M213 r1134.1 (r1133.2 + (256 * r1134.2)) = r1135
    refine q_RP_let ?_
    show q_RP _ _ _ (89, [(0, .ref 64), (1, .int v1), (3, .int v3)], [.int r1135, .int 4, .ref 78], (q_kM r1134.1 c n)) _ _
    refine q_RP_seg (g2 := (94, [(0, .ref 64), (1, .int v1), (3, .int v3)], [], (q_kM (q_sA r1134.1 14 (upd (r1134.1.1 14) 4 r1135)) c n))) 2 (fun _ _ => rfl) ?_
    exact q_RP_ret rfl rfl rfl
  | false =>
    refine q_RP_cF ?_
    refine q_RP_rsT (g2 := (92, [(0, .ref 64), (1, .int v1), (3, .int v3)], [.int 4, .ref 78], (q_kM s c n))) rfl rfl (q_d_neF h1335) ?_
    refine q_RP_seg (g2 := (94, [(0, .ref 64), (1, .int v1), (3, .int v3)], [], (q_kM (q_sA s 14 (upd (s.1 14) 4 v3)) c n))) 2 (fun _ _ => rfl) ?_
    exact q_RP_ret rfl rfl rfl
def dz_M275_64 (s : q_S) (a1 : Int32) (a2 : Int32) : Option (q_S) :=
  (dz_M248_64 s (a2 + 1)).bind fun r1129 => cond (decide (a1 = 158)) (q_let (dz_M213 r1129.1 (a2 + 2)) fun r1130 => (dz_M255_64 r1129.1 (r1130 / 256)).bind fun r1131 => (dz_M255_64 r1131 (r1130 - r1130 / 256 * 256)).bind fun r1132 => dz_M275_64_43 r1132 a1 r1129.2) (dz_M275_64_43 r1129.1 a1 r1129.2)
set_option maxHeartbeats 4000000 in
theorem dzt_M275_64 (s : q_S) (c n : Nat) (a1 : Int32) (a2 : Int32) (x : q_S) (h : dz_M275_64 s a1 a2 = some x) : q_Ca q_TB0 7 274 [.ref 64, .int a1, .int a2] (q_kM s c n) ((q_oSM c n) x) := by
  refine q_CaP_of (φ := (q_oSM c n)) (Nat.le_of_ble_eq_true rfl) ?_ h
  clear h
  unfold dz_M275_64
  refine q_RP_seg (g2 := (4, [(0, .ref 64), (1, .int a1), (2, .int a2)], [.int (a2 + 1), .ref 64], (q_kM s c n))) 4 (fun _ _ => rfl) ?_
  refine q_RP_bd fun r1129 er1129 => ?_
  refine q_RP_call (v := (some (.int r1129.2))) (h2 := (q_kM r1129.1 c n)) rfl rfl ((dzt_M248_64 s c n (a2 + 1) r1129 er1129).le (Nat.le_of_ble_eq_true rfl)) ?_
  show q_RP _ _ _ (7, [(0, .ref 64), (1, .int a1), (2, .int a2)], [.int r1129.2], (q_kM r1129.1 c n)) _ _
  refine q_RP_seg (g2 := (12, [(3, .int r1129.2), (0, .ref 64), (1, .int a1), (2, .int a2)], [.int 158, .int a1], (q_kM r1129.1 c n))) 3 (fun _ _ => rfl) ?_
  cases h1334 : decide (a1 = 158) with
  | true =>
    refine q_RP_cT ?_
    refine q_RP_rsF (g2 := (15, [(3, .int r1129.2), (0, .ref 64), (1, .int a1), (2, .int a2)], [], (q_kM r1129.1 c n))) rfl rfl (q_d_neT h1334) ?_
    refine q_RP_seg (g2 := (18, [(3, .int r1129.2), (0, .ref 64), (1, .int a1), (2, .int a2)], [.int (a2 + 2)], (q_kM r1129.1 c n))) 3 (fun _ _ => rfl) ?_
    refine q_RP_call (v := (some (.int (dz_M213 r1129.1 (a2 + 2))))) (h2 := (q_kM r1129.1 c n)) rfl rfl ((dzt_M213 r1129.1 c n (a2 + 2)).le (Nat.le_of_ble_eq_true rfl)) ?_
    generalize dz_M213 r1129.1 (a2 + 2) = r1130
    refine q_RP_let ?_
    show q_RP _ _ _ (21, [(3, .int r1129.2), (0, .ref 64), (1, .int a1), (2, .int a2)], [.int r1130], (q_kM r1129.1 c n)) _ _
    refine q_RP_seg (g2 := (30, [(4, .int r1130), (3, .int r1129.2), (0, .ref 64), (1, .int a1), (2, .int a2)], [.int (r1130 / 256), .ref 64], (q_kM r1129.1 c n))) 5 (fun _ _ => rfl) ?_
    refine q_RP_bd fun r1131 er1131 => ?_
    refine q_RP_call (v := none) (h2 := (q_kM r1131 c n)) rfl rfl ((dzt_M255_64 r1129.1 c n (r1130 / 256) r1131 er1131).le (Nat.le_of_ble_eq_true rfl)) ?_
    show q_RP _ _ _ (33, [(4, .int r1130), (3, .int r1129.2), (0, .ref 64), (1, .int a1), (2, .int a2)], [], (q_kM r1131 c n)) _ _
    refine q_RP_seg (g2 := (40, [(4, .int r1130), (3, .int r1129.2), (0, .ref 64), (1, .int a1), (2, .int a2)], [.int (r1130 - r1130 / 256 * 256), .ref 64], (q_kM r1131 c n))) 4 (fun _ _ => rfl) ?_
    refine q_RP_bd fun r1132 er1132 => ?_
    refine q_RP_call (v := none) (h2 := (q_kM r1132 c n)) rfl rfl ((dzt_M255_64 r1131 c n (r1130 - r1130 / 256 * 256) r1132 er1132).le (Nat.le_of_ble_eq_true rfl)) ?_
    show q_RP _ _ _ (43, [(4, .int r1130), (3, .int r1129.2), (0, .ref 64), (1, .int a1), (2, .int a2)], [], (q_kM r1132 c n)) _ _
    exact q_RP_xt (q_xt_mk (q_mn1 2 rfl (q_mn1 3 rfl (q_mn1 1 rfl q_mn0))) rfl) (dzt_M275_64_43 c n r1132 a1 r1129.2)
  | false =>
    refine q_RP_cF ?_
    refine q_RP_rsT (g2 := (43, [(3, .int r1129.2), (0, .ref 64), (1, .int a1), (2, .int a2)], [], (q_kM r1129.1 c n))) rfl rfl (q_d_neF h1334) ?_
    exact q_RP_xt (q_xt_mk (q_mn1 1 rfl (q_mn1 2 rfl (q_mn1 0 rfl q_mn0))) rfl) (dzt_M275_64_43 c n r1129.1 a1 r1129.2)
def dz_M261_64 (s : q_S) (a1 : Int32) : q_S × Int32 :=
  cond (decide (a1 = 0)) (cond (decide (127 < a1)) (q_let ((q_sA s 15 (upd (s.1 15) 4 (vp_nar .boolean 1)))) fun r1143 => ((q_sA r1143 15 (upd (r1143.1 15) 0 (vp_nar .boolean 1))), a1)) (q_let ((q_sA s 15 (upd (s.1 15) 4 (vp_nar .boolean 1)))) fun r1144 => ((q_sA r1144 15 (upd (r1144.1 15) 0 (vp_nar .boolean 0))), a1))) (cond (decide (127 < a1)) (q_let ((q_sA s 15 (upd (s.1 15) 4 (vp_nar .boolean 0)))) fun r1145 => ((q_sA r1145 15 (upd (r1145.1 15) 0 (vp_nar .boolean 1))), a1)) (q_let ((q_sA s 15 (upd (s.1 15) 4 (vp_nar .boolean 0)))) fun r1146 => ((q_sA r1146 15 (upd (r1146.1 15) 0 (vp_nar .boolean 0))), a1)))
set_option maxHeartbeats 4000000 in
theorem dzt_M261_64 (s : q_S) (c n : Nat) (a1 : Int32) : q_Ca q_TB0 1 260 [.ref 64, .int a1] (q_kM s c n) ((q_oIM c n) (dz_M261_64 s a1)) := by
  refine q_CaT_of (φ := (q_oIM c n)) (Nat.le_of_ble_eq_true rfl) ?_
  unfold dz_M261_64
  refine q_RT_seg (g2 := (6, [(0, .ref 64), (1, .int a1)], [.int a1, .int 4, .ref 79], (q_kM s c n))) 4 (fun _ _ => rfl) ?_
  cases h1341 : decide (a1 = 0) with
  | true =>
    refine q_RT_cT ?_
    refine q_RT_rsF (g2 := (9, [(0, .ref 64), (1, .int a1)], [.int 4, .ref 79], (q_kM s c n))) rfl rfl (q_d_neT h1341) ?_
    refine q_RT_seg (g2 := (23, [(0, .ref 64), (1, .int a1)], [.int 127, .int a1, .int 0, .ref 79], (q_kM (q_sA s 15 (upd (s.1 15) 4 (vp_nar .boolean 1))) c n))) 8 (fun _ _ => rfl) ?_
    cases h1342 : decide (127 < a1) with
    | true =>
      refine q_RT_cT ?_
      refine q_RT_rsF (g2 := (26, [(0, .ref 64), (1, .int a1)], [.int 0, .ref 79], (q_kM (q_sA s 15 (upd (s.1 15) 4 (vp_nar .boolean 1))) c n))) rfl rfl (q_d_geT h1342) ?_
      refine q_RT_seg (g2 := (31, [(0, .ref 64), (1, .int a1)], [.int 1, .int 0, .ref 79], (q_kM (q_sA s 15 (upd (s.1 15) 4 (vp_nar .boolean 1))) c n))) 2 (fun _ _ => rfl) ?_
      generalize (q_sA s 15 (upd (s.1 15) 4 (vp_nar .boolean 1))) = r1143
      refine q_RT_let ?_
      show q_RT _ _ _ (31, [(0, .ref 64), (1, .int a1)], [.int 1, .int 0, .ref 79], (q_kM r1143 c n)) _ _
      refine q_RT_seg (g2 := (33, [(0, .ref 64), (1, .int a1)], [.int a1], (q_kM (q_sA r1143 15 (upd (r1143.1 15) 0 (vp_nar .boolean 1))) c n))) 2 (fun _ _ => rfl) ?_
      exact q_RT_ret rfl rfl rfl
    | false =>
      refine q_RT_cF ?_
      refine q_RT_rsT (g2 := (30, [(0, .ref 64), (1, .int a1)], [.int 0, .ref 79], (q_kM (q_sA s 15 (upd (s.1 15) 4 (vp_nar .boolean 1))) c n))) rfl rfl (q_d_geF h1342) ?_
      refine q_RT_seg (g2 := (31, [(0, .ref 64), (1, .int a1)], [.int 0, .int 0, .ref 79], (q_kM (q_sA s 15 (upd (s.1 15) 4 (vp_nar .boolean 1))) c n))) 1 (fun _ _ => rfl) ?_
      generalize (q_sA s 15 (upd (s.1 15) 4 (vp_nar .boolean 1))) = r1144
      refine q_RT_let ?_
      show q_RT _ _ _ (31, [(0, .ref 64), (1, .int a1)], [.int 0, .int 0, .ref 79], (q_kM r1144 c n)) _ _
      refine q_RT_seg (g2 := (33, [(0, .ref 64), (1, .int a1)], [.int a1], (q_kM (q_sA r1144 15 (upd (r1144.1 15) 0 (vp_nar .boolean 0))) c n))) 2 (fun _ _ => rfl) ?_
      exact q_RT_ret rfl rfl rfl
  | false =>
    refine q_RT_cF ?_
    refine q_RT_rsT (g2 := (13, [(0, .ref 64), (1, .int a1)], [.int 4, .ref 79], (q_kM s c n))) rfl rfl (q_d_neF h1341) ?_
    refine q_RT_seg (g2 := (23, [(0, .ref 64), (1, .int a1)], [.int 127, .int a1, .int 0, .ref 79], (q_kM (q_sA s 15 (upd (s.1 15) 4 (vp_nar .boolean 0))) c n))) 7 (fun _ _ => rfl) ?_
    cases h1343 : decide (127 < a1) with
    | true =>
      refine q_RT_cT ?_
      refine q_RT_rsF (g2 := (26, [(0, .ref 64), (1, .int a1)], [.int 0, .ref 79], (q_kM (q_sA s 15 (upd (s.1 15) 4 (vp_nar .boolean 0))) c n))) rfl rfl (q_d_geT h1343) ?_
      refine q_RT_seg (g2 := (31, [(0, .ref 64), (1, .int a1)], [.int 1, .int 0, .ref 79], (q_kM (q_sA s 15 (upd (s.1 15) 4 (vp_nar .boolean 0))) c n))) 2 (fun _ _ => rfl) ?_
      generalize (q_sA s 15 (upd (s.1 15) 4 (vp_nar .boolean 0))) = r1145
      refine q_RT_let ?_
      show q_RT _ _ _ (31, [(0, .ref 64), (1, .int a1)], [.int 1, .int 0, .ref 79], (q_kM r1145 c n)) _ _
      refine q_RT_seg (g2 := (33, [(0, .ref 64), (1, .int a1)], [.int a1], (q_kM (q_sA r1145 15 (upd (r1145.1 15) 0 (vp_nar .boolean 1))) c n))) 2 (fun _ _ => rfl) ?_
      exact q_RT_ret rfl rfl rfl
    | false =>
      refine q_RT_cF ?_
      refine q_RT_rsT (g2 := (30, [(0, .ref 64), (1, .int a1)], [.int 0, .ref 79], (q_kM (q_sA s 15 (upd (s.1 15) 4 (vp_nar .boolean 0))) c n))) rfl rfl (q_d_geF h1343) ?_
      refine q_RT_seg (g2 := (31, [(0, .ref 64), (1, .int a1)], [.int 0, .int 0, .ref 79], (q_kM (q_sA s 15 (upd (s.1 15) 4 (vp_nar .boolean 0))) c n))) 1 (fun _ _ => rfl) ?_
      generalize (q_sA s 15 (upd (s.1 15) 4 (vp_nar .boolean 0))) = r1146
      refine q_RT_let ?_
      show q_RT _ _ _ (31, [(0, .ref 64), (1, .int a1)], [.int 0, .int 0, .ref 79], (q_kM r1146 c n)) _ _
      refine q_RT_seg (g2 := (33, [(0, .ref 64), (1, .int a1)], [.int a1], (q_kM (q_sA r1146 15 (upd (r1146.1 15) 0 (vp_nar .boolean 0))) c n))) 2 (fun _ _ => rfl) ?_
      exact q_RT_ret rfl rfl rfl
def dz_M262_64 (s : q_S) (a1 : Int32) (a2 : Int32) : Option (q_S) :=
  q_let (dz_M261_64 s a2) fun r1148 => cond (q_in a1 24) (some (q_sA r1148.1 14 (upd (r1148.1.1 14) (a1.toNatClampNeg) r1148.2))) none
set_option maxHeartbeats 4000000 in
theorem dzt_M262_64 (s : q_S) (c n : Nat) (a1 : Int32) (a2 : Int32) (x : q_S) (h : dz_M262_64 s a1 a2 = some x) : q_Ca q_TB0 2 261 [.ref 64, .int a1, .int a2] (q_kM s c n) ((q_oSM c n) x) := by
  refine q_CaP_of (φ := (q_oSM c n)) (Nat.le_of_ble_eq_true rfl) ?_ h
  clear h
  unfold dz_M262_64
  refine q_RP_seg (g2 := (7, [(0, .ref 64), (1, .int a1), (2, .int a2)], [.int a2, .ref 64, .int a1, .ref 78], (q_kM s c n))) 5 (fun _ _ => rfl) ?_
  refine q_RP_call (v := (some (.int (dz_M261_64 s a2).2))) (h2 := (q_kM (dz_M261_64 s a2).1 c n)) rfl rfl ((dzt_M261_64 s c n a2).le (Nat.le_of_ble_eq_true rfl)) ?_
  generalize dz_M261_64 s a2 = r1148
  refine q_RP_let ?_
  show q_RP _ _ _ (10, [(0, .ref 64), (1, .int a1), (2, .int a2)], [.int r1148.2, .int a1, .ref 78], (q_kM r1148.1 c n)) _ _
  refine q_RP_as fun i1344 => ?_
  refine q_RP_rsT (g2 := (11, [(0, .ref 64), (1, .int a1), (2, .int a2)], [], (q_kM (q_sA r1148.1 14 (upd (r1148.1.1 14) (a1.toNatClampNeg) r1148.2)) c n))) rfl q_wM14 i1344 ?_
  exact q_RP_ret rfl rfl rfl
def dz_M272_64 (s : q_S) (a1 : Int32) : Option (q_S) :=
  (dz_M257_64 s 5 1).bind fun r1192 => cond (decide (a1 - a1 / 2 * 2 = 0)) (q_let (dz_M206 s ((s.1 14) 0) 7) fun r1193 => cond r1193 (cond (decide (a1 = 150)) ((dz_M262_64 (q_sA s 15 (upd (s.1 15) 5 (vp_nar .boolean 1))) 0 ((((s.1 14) 0) * 2) &&& 255)).bind fun r1194 => some r1194) (cond (decide (a1 = 151)) ((dz_M262_64 (q_sA s 15 (upd (s.1 15) 5 (vp_nar .boolean 1))) 0 (((s.1 14) 0) / 2)).bind fun r1195 => some r1195) (cond (decide (a1 = 152)) ((dz_M262_64 (q_sA s 15 (upd (s.1 15) 5 (vp_nar .boolean 1))) 0 (((((s.1 14) 0) * 2) + r1192) &&& 255)).bind fun r1196 => some r1196) ((dz_M262_64 (q_sA s 15 (upd (s.1 15) 5 (vp_nar .boolean 1))) 0 ((((s.1 14) 0) / 2) + (128 * r1192))).bind fun r1197 => some r1197)))) (cond (decide (a1 = 150)) ((dz_M262_64 (q_sA s 15 (upd (s.1 15) 5 (vp_nar .boolean 0))) 0 ((((s.1 14) 0) * 2) &&& 255)).bind fun r1198 => some r1198) (cond (decide (a1 = 151)) ((dz_M262_64 (q_sA s 15 (upd (s.1 15) 5 (vp_nar .boolean 0))) 0 (((s.1 14) 0) / 2)).bind fun r1199 => some r1199) (cond (decide (a1 = 152)) ((dz_M262_64 (q_sA s 15 (upd (s.1 15) 5 (vp_nar .boolean 0))) 0 (((((s.1 14) 0) * 2) + r1192) &&& 255)).bind fun r1200 => some r1200) ((dz_M262_64 (q_sA s 15 (upd (s.1 15) 5 (vp_nar .boolean 0))) 0 ((((s.1 14) 0) / 2) + (128 * r1192))).bind fun r1201 => some r1201))))) (q_let (dz_M206 s ((s.1 14) 0) 0) fun r1202 => cond r1202 (cond (decide (a1 = 150)) ((dz_M262_64 (q_sA s 15 (upd (s.1 15) 5 (vp_nar .boolean 1))) 0 ((((s.1 14) 0) * 2) &&& 255)).bind fun r1203 => some r1203) (cond (decide (a1 = 151)) ((dz_M262_64 (q_sA s 15 (upd (s.1 15) 5 (vp_nar .boolean 1))) 0 (((s.1 14) 0) / 2)).bind fun r1204 => some r1204) (cond (decide (a1 = 152)) ((dz_M262_64 (q_sA s 15 (upd (s.1 15) 5 (vp_nar .boolean 1))) 0 (((((s.1 14) 0) * 2) + r1192) &&& 255)).bind fun r1205 => some r1205) ((dz_M262_64 (q_sA s 15 (upd (s.1 15) 5 (vp_nar .boolean 1))) 0 ((((s.1 14) 0) / 2) + (128 * r1192))).bind fun r1206 => some r1206)))) (cond (decide (a1 = 150)) ((dz_M262_64 (q_sA s 15 (upd (s.1 15) 5 (vp_nar .boolean 0))) 0 ((((s.1 14) 0) * 2) &&& 255)).bind fun r1207 => some r1207) (cond (decide (a1 = 151)) ((dz_M262_64 (q_sA s 15 (upd (s.1 15) 5 (vp_nar .boolean 0))) 0 (((s.1 14) 0) / 2)).bind fun r1208 => some r1208) (cond (decide (a1 = 152)) ((dz_M262_64 (q_sA s 15 (upd (s.1 15) 5 (vp_nar .boolean 0))) 0 (((((s.1 14) 0) * 2) + r1192) &&& 255)).bind fun r1209 => some r1209) ((dz_M262_64 (q_sA s 15 (upd (s.1 15) 5 (vp_nar .boolean 0))) 0 ((((s.1 14) 0) / 2) + (128 * r1192))).bind fun r1210 => some r1210)))))
set_option maxHeartbeats 4000000 in
theorem dzt_M272_64 (s : q_S) (c n : Nat) (a1 : Int32) (x : q_S) (h : dz_M272_64 s a1 = some x) : q_Ca q_TB0 3 271 [.ref 64, .int a1] (q_kM s c n) ((q_oSM c n) x) := by
  refine q_CaP_of (φ := (q_oSM c n)) (Nat.le_of_ble_eq_true rfl) ?_ h
  clear h
  unfold dz_M272_64
  refine q_RP_seg (g2 := (6, [(0, .ref 64), (1, .int a1)], [.int ((s.1 14) 0)], (q_kM s c n))) 4 (fun _ _ => rfl) ?_
  refine q_RP_seg (g2 := (10, [(2, .int ((s.1 14) 0)), (0, .ref 64), (1, .int a1)], [.int 1, .int 5, .ref 64], (q_kM s c n))) 4 (fun _ _ => rfl) ?_
  refine q_RP_bd fun r1192 er1192 => ?_
  refine q_RP_call (v := (some (.int r1192))) (h2 := (q_kM s c n)) rfl rfl ((dzt_M257_64 s c n 5 1 r1192 er1192).le (Nat.le_of_ble_eq_true rfl)) ?_
  show q_RP _ _ _ (13, [(2, .int ((s.1 14) 0)), (0, .ref 64), (1, .int a1)], [.int r1192], (q_kM s c n)) _ _
  refine q_RP_seg (g2 := (23, [(3, .int r1192), (2, .int ((s.1 14) 0)), (0, .ref 64), (1, .int a1)], [.int (a1 - a1 / 2 * 2), .int ((s.1 14) 0), .int 5, .ref 79], (q_kM s c n))) 8 (fun _ _ => rfl) ?_
  cases h1370 : decide (a1 - a1 / 2 * 2 = 0) with
  | true =>
    refine q_RP_cT ?_
    refine q_RP_rsF (g2 := (26, [(3, .int r1192), (2, .int ((s.1 14) 0)), (0, .ref 64), (1, .int a1)], [.int ((s.1 14) 0), .int 5, .ref 79], (q_kM s c n))) rfl rfl (q_d_neT h1370) ?_
    refine q_RP_seg (g2 := (32, [(3, .int r1192), (2, .int ((s.1 14) 0)), (0, .ref 64), (1, .int a1)], [.int 7, .int ((s.1 14) 0), .int 5, .ref 79], (q_kM s c n))) 2 (fun _ _ => rfl) ?_
    refine q_RP_call (v := (some (.int (q_b (dz_M206 s ((s.1 14) 0) 7))))) (h2 := (q_kM s c n)) rfl rfl ((dzt_M206 s c n ((s.1 14) 0) 7).le (Nat.le_of_ble_eq_true rfl)) ?_
    generalize dz_M206 s ((s.1 14) 0) 7 = r1193
    refine q_RP_let ?_
    show q_RP _ _ _ (35, [(3, .int r1192), (2, .int ((s.1 14) 0)), (0, .ref 64), (1, .int a1)], [.int (q_b r1193), .int 5, .ref 79], (q_kM s c n)) _ _
    cases h1371 : r1193 with
    | true =>
      refine q_RP_cT ?_
      show q_RP _ _ _ (35, [(3, .int r1192), (2, .int ((s.1 14) 0)), (0, .ref 64), (1, .int a1)], [.int 1, .int 5, .ref 79], (q_kM s c n)) _ _
      refine q_RP_seg (g2 := (42, [(3, .int r1192), (2, .int ((s.1 14) 0)), (0, .ref 64), (1, .int a1)], [.int 150, .int a1, .int 0, .ref 64], (q_kM (q_sA s 15 (upd (s.1 15) 5 (vp_nar .boolean 1))) c n))) 5 (fun _ _ => rfl) ?_
      cases h1372 : decide (a1 = 150) with
      | true =>
        refine q_RP_cT ?_
        refine q_RP_rsF (g2 := (45, [(3, .int r1192), (2, .int ((s.1 14) 0)), (0, .ref 64), (1, .int a1)], [.int 0, .ref 64], (q_kM (q_sA s 15 (upd (s.1 15) 5 (vp_nar .boolean 1))) c n))) rfl rfl (q_d_neT h1372) ?_
        refine q_RP_seg (g2 := (96, [(3, .int r1192), (2, .int ((s.1 14) 0)), (0, .ref 64), (1, .int a1)], [.int ((((s.1 14) 0) * 2) &&& 255), .int 0, .ref 64], (q_kM (q_sA s 15 (upd (s.1 15) 5 (vp_nar .boolean 1))) c n))) 6 (fun _ _ => rfl) ?_
        refine q_RP_bd fun r1194 er1194 => ?_
        refine q_RP_call (v := none) (h2 := (q_kM r1194 c n)) rfl rfl ((dzt_M262_64 (q_sA s 15 (upd (s.1 15) 5 (vp_nar .boolean 1))) c n 0 ((((s.1 14) 0) * 2) &&& 255) r1194 er1194).le (Nat.le_of_ble_eq_true rfl)) ?_
        show q_RP _ _ _ (99, [(3, .int r1192), (2, .int ((s.1 14) 0)), (0, .ref 64), (1, .int a1)], [], (q_kM r1194 c n)) _ _
        exact q_RP_ret rfl rfl rfl
      | false =>
        refine q_RP_cF ?_
        refine q_RP_rsT (g2 := (55, [(3, .int r1192), (2, .int ((s.1 14) 0)), (0, .ref 64), (1, .int a1)], [.int 0, .ref 64], (q_kM (q_sA s 15 (upd (s.1 15) 5 (vp_nar .boolean 1))) c n))) rfl rfl (q_d_neF h1372) ?_
        refine q_RP_seg (g2 := (59, [(3, .int r1192), (2, .int ((s.1 14) 0)), (0, .ref 64), (1, .int a1)], [.int 151, .int a1, .int 0, .ref 64], (q_kM (q_sA s 15 (upd (s.1 15) 5 (vp_nar .boolean 1))) c n))) 2 (fun _ _ => rfl) ?_
        cases h1373 : decide (a1 = 151) with
        | true =>
          refine q_RP_cT ?_
          refine q_RP_rsF (g2 := (62, [(3, .int r1192), (2, .int ((s.1 14) 0)), (0, .ref 64), (1, .int a1)], [.int 0, .ref 64], (q_kM (q_sA s 15 (upd (s.1 15) 5 (vp_nar .boolean 1))) c n))) rfl rfl (q_d_neT h1373) ?_
          refine q_RP_seg (g2 := (96, [(3, .int r1192), (2, .int ((s.1 14) 0)), (0, .ref 64), (1, .int a1)], [.int (((s.1 14) 0) / 2), .int 0, .ref 64], (q_kM (q_sA s 15 (upd (s.1 15) 5 (vp_nar .boolean 1))) c n))) 4 (fun _ _ => rfl) ?_
          refine q_RP_bd fun r1195 er1195 => ?_
          refine q_RP_call (v := none) (h2 := (q_kM r1195 c n)) rfl rfl ((dzt_M262_64 (q_sA s 15 (upd (s.1 15) 5 (vp_nar .boolean 1))) c n 0 (((s.1 14) 0) / 2) r1195 er1195).le (Nat.le_of_ble_eq_true rfl)) ?_
          show q_RP _ _ _ (99, [(3, .int r1192), (2, .int ((s.1 14) 0)), (0, .ref 64), (1, .int a1)], [], (q_kM r1195 c n)) _ _
          exact q_RP_ret rfl rfl rfl
        | false =>
          refine q_RP_cF ?_
          refine q_RP_rsT (g2 := (68, [(3, .int r1192), (2, .int ((s.1 14) 0)), (0, .ref 64), (1, .int a1)], [.int 0, .ref 64], (q_kM (q_sA s 15 (upd (s.1 15) 5 (vp_nar .boolean 1))) c n))) rfl rfl (q_d_neF h1373) ?_
          refine q_RP_seg (g2 := (72, [(3, .int r1192), (2, .int ((s.1 14) 0)), (0, .ref 64), (1, .int a1)], [.int 152, .int a1, .int 0, .ref 64], (q_kM (q_sA s 15 (upd (s.1 15) 5 (vp_nar .boolean 1))) c n))) 2 (fun _ _ => rfl) ?_
          cases h1374 : decide (a1 = 152) with
          | true =>
            refine q_RP_cT ?_
            refine q_RP_rsF (g2 := (75, [(3, .int r1192), (2, .int ((s.1 14) 0)), (0, .ref 64), (1, .int a1)], [.int 0, .ref 64], (q_kM (q_sA s 15 (upd (s.1 15) 5 (vp_nar .boolean 1))) c n))) rfl rfl (q_d_neT h1374) ?_
            refine q_RP_seg (g2 := (96, [(3, .int r1192), (2, .int ((s.1 14) 0)), (0, .ref 64), (1, .int a1)], [.int (((((s.1 14) 0) * 2) + r1192) &&& 255), .int 0, .ref 64], (q_kM (q_sA s 15 (upd (s.1 15) 5 (vp_nar .boolean 1))) c n))) 8 (fun _ _ => rfl) ?_
            refine q_RP_bd fun r1196 er1196 => ?_
            refine q_RP_call (v := none) (h2 := (q_kM r1196 c n)) rfl rfl ((dzt_M262_64 (q_sA s 15 (upd (s.1 15) 5 (vp_nar .boolean 1))) c n 0 (((((s.1 14) 0) * 2) + r1192) &&& 255) r1196 er1196).le (Nat.le_of_ble_eq_true rfl)) ?_
            show q_RP _ _ _ (99, [(3, .int r1192), (2, .int ((s.1 14) 0)), (0, .ref 64), (1, .int a1)], [], (q_kM r1196 c n)) _ _
            exact q_RP_ret rfl rfl rfl
          | false =>
            refine q_RP_cF ?_
            refine q_RP_rsT (g2 := (87, [(3, .int r1192), (2, .int ((s.1 14) 0)), (0, .ref 64), (1, .int a1)], [.int 0, .ref 64], (q_kM (q_sA s 15 (upd (s.1 15) 5 (vp_nar .boolean 1))) c n))) rfl rfl (q_d_neF h1374) ?_
            refine q_RP_seg (g2 := (96, [(3, .int r1192), (2, .int ((s.1 14) 0)), (0, .ref 64), (1, .int a1)], [.int ((((s.1 14) 0) / 2) + (128 * r1192)), .int 0, .ref 64], (q_kM (q_sA s 15 (upd (s.1 15) 5 (vp_nar .boolean 1))) c n))) 7 (fun _ _ => rfl) ?_
            refine q_RP_bd fun r1197 er1197 => ?_
            refine q_RP_call (v := none) (h2 := (q_kM r1197 c n)) rfl rfl ((dzt_M262_64 (q_sA s 15 (upd (s.1 15) 5 (vp_nar .boolean 1))) c n 0 ((((s.1 14) 0) / 2) + (128 * r1192)) r1197 er1197).le (Nat.le_of_ble_eq_true rfl)) ?_
            show q_RP _ _ _ (99, [(3, .int r1192), (2, .int ((s.1 14) 0)), (0, .ref 64), (1, .int a1)], [], (q_kM r1197 c n)) _ _
            exact q_RP_ret rfl rfl rfl
    | false =>
      refine q_RP_cF ?_
      show q_RP _ _ _ (35, [(3, .int r1192), (2, .int ((s.1 14) 0)), (0, .ref 64), (1, .int a1)], [.int 0, .int 5, .ref 79], (q_kM s c n)) _ _
      refine q_RP_seg (g2 := (42, [(3, .int r1192), (2, .int ((s.1 14) 0)), (0, .ref 64), (1, .int a1)], [.int 150, .int a1, .int 0, .ref 64], (q_kM (q_sA s 15 (upd (s.1 15) 5 (vp_nar .boolean 0))) c n))) 5 (fun _ _ => rfl) ?_
      cases h1375 : decide (a1 = 150) with
      | true =>
        refine q_RP_cT ?_
        refine q_RP_rsF (g2 := (45, [(3, .int r1192), (2, .int ((s.1 14) 0)), (0, .ref 64), (1, .int a1)], [.int 0, .ref 64], (q_kM (q_sA s 15 (upd (s.1 15) 5 (vp_nar .boolean 0))) c n))) rfl rfl (q_d_neT h1375) ?_
        refine q_RP_seg (g2 := (96, [(3, .int r1192), (2, .int ((s.1 14) 0)), (0, .ref 64), (1, .int a1)], [.int ((((s.1 14) 0) * 2) &&& 255), .int 0, .ref 64], (q_kM (q_sA s 15 (upd (s.1 15) 5 (vp_nar .boolean 0))) c n))) 6 (fun _ _ => rfl) ?_
        refine q_RP_bd fun r1198 er1198 => ?_
        refine q_RP_call (v := none) (h2 := (q_kM r1198 c n)) rfl rfl ((dzt_M262_64 (q_sA s 15 (upd (s.1 15) 5 (vp_nar .boolean 0))) c n 0 ((((s.1 14) 0) * 2) &&& 255) r1198 er1198).le (Nat.le_of_ble_eq_true rfl)) ?_
        show q_RP _ _ _ (99, [(3, .int r1192), (2, .int ((s.1 14) 0)), (0, .ref 64), (1, .int a1)], [], (q_kM r1198 c n)) _ _
        exact q_RP_ret rfl rfl rfl
      | false =>
        refine q_RP_cF ?_
        refine q_RP_rsT (g2 := (55, [(3, .int r1192), (2, .int ((s.1 14) 0)), (0, .ref 64), (1, .int a1)], [.int 0, .ref 64], (q_kM (q_sA s 15 (upd (s.1 15) 5 (vp_nar .boolean 0))) c n))) rfl rfl (q_d_neF h1375) ?_
        refine q_RP_seg (g2 := (59, [(3, .int r1192), (2, .int ((s.1 14) 0)), (0, .ref 64), (1, .int a1)], [.int 151, .int a1, .int 0, .ref 64], (q_kM (q_sA s 15 (upd (s.1 15) 5 (vp_nar .boolean 0))) c n))) 2 (fun _ _ => rfl) ?_
        cases h1376 : decide (a1 = 151) with
        | true =>
          refine q_RP_cT ?_
          refine q_RP_rsF (g2 := (62, [(3, .int r1192), (2, .int ((s.1 14) 0)), (0, .ref 64), (1, .int a1)], [.int 0, .ref 64], (q_kM (q_sA s 15 (upd (s.1 15) 5 (vp_nar .boolean 0))) c n))) rfl rfl (q_d_neT h1376) ?_
          refine q_RP_seg (g2 := (96, [(3, .int r1192), (2, .int ((s.1 14) 0)), (0, .ref 64), (1, .int a1)], [.int (((s.1 14) 0) / 2), .int 0, .ref 64], (q_kM (q_sA s 15 (upd (s.1 15) 5 (vp_nar .boolean 0))) c n))) 4 (fun _ _ => rfl) ?_
          refine q_RP_bd fun r1199 er1199 => ?_
          refine q_RP_call (v := none) (h2 := (q_kM r1199 c n)) rfl rfl ((dzt_M262_64 (q_sA s 15 (upd (s.1 15) 5 (vp_nar .boolean 0))) c n 0 (((s.1 14) 0) / 2) r1199 er1199).le (Nat.le_of_ble_eq_true rfl)) ?_
          show q_RP _ _ _ (99, [(3, .int r1192), (2, .int ((s.1 14) 0)), (0, .ref 64), (1, .int a1)], [], (q_kM r1199 c n)) _ _
          exact q_RP_ret rfl rfl rfl
        | false =>
          refine q_RP_cF ?_
          refine q_RP_rsT (g2 := (68, [(3, .int r1192), (2, .int ((s.1 14) 0)), (0, .ref 64), (1, .int a1)], [.int 0, .ref 64], (q_kM (q_sA s 15 (upd (s.1 15) 5 (vp_nar .boolean 0))) c n))) rfl rfl (q_d_neF h1376) ?_
          refine q_RP_seg (g2 := (72, [(3, .int r1192), (2, .int ((s.1 14) 0)), (0, .ref 64), (1, .int a1)], [.int 152, .int a1, .int 0, .ref 64], (q_kM (q_sA s 15 (upd (s.1 15) 5 (vp_nar .boolean 0))) c n))) 2 (fun _ _ => rfl) ?_
          cases h1377 : decide (a1 = 152) with
          | true =>
            refine q_RP_cT ?_
            refine q_RP_rsF (g2 := (75, [(3, .int r1192), (2, .int ((s.1 14) 0)), (0, .ref 64), (1, .int a1)], [.int 0, .ref 64], (q_kM (q_sA s 15 (upd (s.1 15) 5 (vp_nar .boolean 0))) c n))) rfl rfl (q_d_neT h1377) ?_
            refine q_RP_seg (g2 := (96, [(3, .int r1192), (2, .int ((s.1 14) 0)), (0, .ref 64), (1, .int a1)], [.int (((((s.1 14) 0) * 2) + r1192) &&& 255), .int 0, .ref 64], (q_kM (q_sA s 15 (upd (s.1 15) 5 (vp_nar .boolean 0))) c n))) 8 (fun _ _ => rfl) ?_
            refine q_RP_bd fun r1200 er1200 => ?_
            refine q_RP_call (v := none) (h2 := (q_kM r1200 c n)) rfl rfl ((dzt_M262_64 (q_sA s 15 (upd (s.1 15) 5 (vp_nar .boolean 0))) c n 0 (((((s.1 14) 0) * 2) + r1192) &&& 255) r1200 er1200).le (Nat.le_of_ble_eq_true rfl)) ?_
            show q_RP _ _ _ (99, [(3, .int r1192), (2, .int ((s.1 14) 0)), (0, .ref 64), (1, .int a1)], [], (q_kM r1200 c n)) _ _
            exact q_RP_ret rfl rfl rfl
          | false =>
            refine q_RP_cF ?_
            refine q_RP_rsT (g2 := (87, [(3, .int r1192), (2, .int ((s.1 14) 0)), (0, .ref 64), (1, .int a1)], [.int 0, .ref 64], (q_kM (q_sA s 15 (upd (s.1 15) 5 (vp_nar .boolean 0))) c n))) rfl rfl (q_d_neF h1377) ?_
            refine q_RP_seg (g2 := (96, [(3, .int r1192), (2, .int ((s.1 14) 0)), (0, .ref 64), (1, .int a1)], [.int ((((s.1 14) 0) / 2) + (128 * r1192)), .int 0, .ref 64], (q_kM (q_sA s 15 (upd (s.1 15) 5 (vp_nar .boolean 0))) c n))) 7 (fun _ _ => rfl) ?_
            refine q_RP_bd fun r1201 er1201 => ?_
            refine q_RP_call (v := none) (h2 := (q_kM r1201 c n)) rfl rfl ((dzt_M262_64 (q_sA s 15 (upd (s.1 15) 5 (vp_nar .boolean 0))) c n 0 ((((s.1 14) 0) / 2) + (128 * r1192)) r1201 er1201).le (Nat.le_of_ble_eq_true rfl)) ?_
            show q_RP _ _ _ (99, [(3, .int r1192), (2, .int ((s.1 14) 0)), (0, .ref 64), (1, .int a1)], [], (q_kM r1201 c n)) _ _
            exact q_RP_ret rfl rfl rfl
  | false =>
    refine q_RP_cF ?_
    refine q_RP_rsT (g2 := (31, [(3, .int r1192), (2, .int ((s.1 14) 0)), (0, .ref 64), (1, .int a1)], [.int ((s.1 14) 0), .int 5, .ref 79], (q_kM s c n))) rfl rfl (q_d_neF h1370) ?_
    refine q_RP_seg (g2 := (32, [(3, .int r1192), (2, .int ((s.1 14) 0)), (0, .ref 64), (1, .int a1)], [.int 0, .int ((s.1 14) 0), .int 5, .ref 79], (q_kM s c n))) 1 (fun _ _ => rfl) ?_
    refine q_RP_call (v := (some (.int (q_b (dz_M206 s ((s.1 14) 0) 0))))) (h2 := (q_kM s c n)) rfl rfl ((dzt_M206 s c n ((s.1 14) 0) 0).le (Nat.le_of_ble_eq_true rfl)) ?_
    generalize dz_M206 s ((s.1 14) 0) 0 = r1202
    refine q_RP_let ?_
    show q_RP _ _ _ (35, [(3, .int r1192), (2, .int ((s.1 14) 0)), (0, .ref 64), (1, .int a1)], [.int (q_b r1202), .int 5, .ref 79], (q_kM s c n)) _ _
    cases h1378 : r1202 with
    | true =>
      refine q_RP_cT ?_
      show q_RP _ _ _ (35, [(3, .int r1192), (2, .int ((s.1 14) 0)), (0, .ref 64), (1, .int a1)], [.int 1, .int 5, .ref 79], (q_kM s c n)) _ _
      refine q_RP_seg (g2 := (42, [(3, .int r1192), (2, .int ((s.1 14) 0)), (0, .ref 64), (1, .int a1)], [.int 150, .int a1, .int 0, .ref 64], (q_kM (q_sA s 15 (upd (s.1 15) 5 (vp_nar .boolean 1))) c n))) 5 (fun _ _ => rfl) ?_
      cases h1379 : decide (a1 = 150) with
      | true =>
        refine q_RP_cT ?_
        refine q_RP_rsF (g2 := (45, [(3, .int r1192), (2, .int ((s.1 14) 0)), (0, .ref 64), (1, .int a1)], [.int 0, .ref 64], (q_kM (q_sA s 15 (upd (s.1 15) 5 (vp_nar .boolean 1))) c n))) rfl rfl (q_d_neT h1379) ?_
        refine q_RP_seg (g2 := (96, [(3, .int r1192), (2, .int ((s.1 14) 0)), (0, .ref 64), (1, .int a1)], [.int ((((s.1 14) 0) * 2) &&& 255), .int 0, .ref 64], (q_kM (q_sA s 15 (upd (s.1 15) 5 (vp_nar .boolean 1))) c n))) 6 (fun _ _ => rfl) ?_
        refine q_RP_bd fun r1203 er1203 => ?_
        refine q_RP_call (v := none) (h2 := (q_kM r1203 c n)) rfl rfl ((dzt_M262_64 (q_sA s 15 (upd (s.1 15) 5 (vp_nar .boolean 1))) c n 0 ((((s.1 14) 0) * 2) &&& 255) r1203 er1203).le (Nat.le_of_ble_eq_true rfl)) ?_
        show q_RP _ _ _ (99, [(3, .int r1192), (2, .int ((s.1 14) 0)), (0, .ref 64), (1, .int a1)], [], (q_kM r1203 c n)) _ _
        exact q_RP_ret rfl rfl rfl
      | false =>
        refine q_RP_cF ?_
        refine q_RP_rsT (g2 := (55, [(3, .int r1192), (2, .int ((s.1 14) 0)), (0, .ref 64), (1, .int a1)], [.int 0, .ref 64], (q_kM (q_sA s 15 (upd (s.1 15) 5 (vp_nar .boolean 1))) c n))) rfl rfl (q_d_neF h1379) ?_
        refine q_RP_seg (g2 := (59, [(3, .int r1192), (2, .int ((s.1 14) 0)), (0, .ref 64), (1, .int a1)], [.int 151, .int a1, .int 0, .ref 64], (q_kM (q_sA s 15 (upd (s.1 15) 5 (vp_nar .boolean 1))) c n))) 2 (fun _ _ => rfl) ?_
        cases h1380 : decide (a1 = 151) with
        | true =>
          refine q_RP_cT ?_
          refine q_RP_rsF (g2 := (62, [(3, .int r1192), (2, .int ((s.1 14) 0)), (0, .ref 64), (1, .int a1)], [.int 0, .ref 64], (q_kM (q_sA s 15 (upd (s.1 15) 5 (vp_nar .boolean 1))) c n))) rfl rfl (q_d_neT h1380) ?_
          refine q_RP_seg (g2 := (96, [(3, .int r1192), (2, .int ((s.1 14) 0)), (0, .ref 64), (1, .int a1)], [.int (((s.1 14) 0) / 2), .int 0, .ref 64], (q_kM (q_sA s 15 (upd (s.1 15) 5 (vp_nar .boolean 1))) c n))) 4 (fun _ _ => rfl) ?_
          refine q_RP_bd fun r1204 er1204 => ?_
          refine q_RP_call (v := none) (h2 := (q_kM r1204 c n)) rfl rfl ((dzt_M262_64 (q_sA s 15 (upd (s.1 15) 5 (vp_nar .boolean 1))) c n 0 (((s.1 14) 0) / 2) r1204 er1204).le (Nat.le_of_ble_eq_true rfl)) ?_
          show q_RP _ _ _ (99, [(3, .int r1192), (2, .int ((s.1 14) 0)), (0, .ref 64), (1, .int a1)], [], (q_kM r1204 c n)) _ _
          exact q_RP_ret rfl rfl rfl
        | false =>
          refine q_RP_cF ?_
          refine q_RP_rsT (g2 := (68, [(3, .int r1192), (2, .int ((s.1 14) 0)), (0, .ref 64), (1, .int a1)], [.int 0, .ref 64], (q_kM (q_sA s 15 (upd (s.1 15) 5 (vp_nar .boolean 1))) c n))) rfl rfl (q_d_neF h1380) ?_
          refine q_RP_seg (g2 := (72, [(3, .int r1192), (2, .int ((s.1 14) 0)), (0, .ref 64), (1, .int a1)], [.int 152, .int a1, .int 0, .ref 64], (q_kM (q_sA s 15 (upd (s.1 15) 5 (vp_nar .boolean 1))) c n))) 2 (fun _ _ => rfl) ?_
          cases h1381 : decide (a1 = 152) with
          | true =>
            refine q_RP_cT ?_
            refine q_RP_rsF (g2 := (75, [(3, .int r1192), (2, .int ((s.1 14) 0)), (0, .ref 64), (1, .int a1)], [.int 0, .ref 64], (q_kM (q_sA s 15 (upd (s.1 15) 5 (vp_nar .boolean 1))) c n))) rfl rfl (q_d_neT h1381) ?_
            refine q_RP_seg (g2 := (96, [(3, .int r1192), (2, .int ((s.1 14) 0)), (0, .ref 64), (1, .int a1)], [.int (((((s.1 14) 0) * 2) + r1192) &&& 255), .int 0, .ref 64], (q_kM (q_sA s 15 (upd (s.1 15) 5 (vp_nar .boolean 1))) c n))) 8 (fun _ _ => rfl) ?_
            refine q_RP_bd fun r1205 er1205 => ?_
            refine q_RP_call (v := none) (h2 := (q_kM r1205 c n)) rfl rfl ((dzt_M262_64 (q_sA s 15 (upd (s.1 15) 5 (vp_nar .boolean 1))) c n 0 (((((s.1 14) 0) * 2) + r1192) &&& 255) r1205 er1205).le (Nat.le_of_ble_eq_true rfl)) ?_
            show q_RP _ _ _ (99, [(3, .int r1192), (2, .int ((s.1 14) 0)), (0, .ref 64), (1, .int a1)], [], (q_kM r1205 c n)) _ _
            exact q_RP_ret rfl rfl rfl
          | false =>
            refine q_RP_cF ?_
            refine q_RP_rsT (g2 := (87, [(3, .int r1192), (2, .int ((s.1 14) 0)), (0, .ref 64), (1, .int a1)], [.int 0, .ref 64], (q_kM (q_sA s 15 (upd (s.1 15) 5 (vp_nar .boolean 1))) c n))) rfl rfl (q_d_neF h1381) ?_
            refine q_RP_seg (g2 := (96, [(3, .int r1192), (2, .int ((s.1 14) 0)), (0, .ref 64), (1, .int a1)], [.int ((((s.1 14) 0) / 2) + (128 * r1192)), .int 0, .ref 64], (q_kM (q_sA s 15 (upd (s.1 15) 5 (vp_nar .boolean 1))) c n))) 7 (fun _ _ => rfl) ?_
            refine q_RP_bd fun r1206 er1206 => ?_
            refine q_RP_call (v := none) (h2 := (q_kM r1206 c n)) rfl rfl ((dzt_M262_64 (q_sA s 15 (upd (s.1 15) 5 (vp_nar .boolean 1))) c n 0 ((((s.1 14) 0) / 2) + (128 * r1192)) r1206 er1206).le (Nat.le_of_ble_eq_true rfl)) ?_
            show q_RP _ _ _ (99, [(3, .int r1192), (2, .int ((s.1 14) 0)), (0, .ref 64), (1, .int a1)], [], (q_kM r1206 c n)) _ _
            exact q_RP_ret rfl rfl rfl
    | false =>
      refine q_RP_cF ?_
      show q_RP _ _ _ (35, [(3, .int r1192), (2, .int ((s.1 14) 0)), (0, .ref 64), (1, .int a1)], [.int 0, .int 5, .ref 79], (q_kM s c n)) _ _
      refine q_RP_seg (g2 := (42, [(3, .int r1192), (2, .int ((s.1 14) 0)), (0, .ref 64), (1, .int a1)], [.int 150, .int a1, .int 0, .ref 64], (q_kM (q_sA s 15 (upd (s.1 15) 5 (vp_nar .boolean 0))) c n))) 5 (fun _ _ => rfl) ?_
      cases h1382 : decide (a1 = 150) with
      | true =>
        refine q_RP_cT ?_
        refine q_RP_rsF (g2 := (45, [(3, .int r1192), (2, .int ((s.1 14) 0)), (0, .ref 64), (1, .int a1)], [.int 0, .ref 64], (q_kM (q_sA s 15 (upd (s.1 15) 5 (vp_nar .boolean 0))) c n))) rfl rfl (q_d_neT h1382) ?_
        refine q_RP_seg (g2 := (96, [(3, .int r1192), (2, .int ((s.1 14) 0)), (0, .ref 64), (1, .int a1)], [.int ((((s.1 14) 0) * 2) &&& 255), .int 0, .ref 64], (q_kM (q_sA s 15 (upd (s.1 15) 5 (vp_nar .boolean 0))) c n))) 6 (fun _ _ => rfl) ?_
        refine q_RP_bd fun r1207 er1207 => ?_
        refine q_RP_call (v := none) (h2 := (q_kM r1207 c n)) rfl rfl ((dzt_M262_64 (q_sA s 15 (upd (s.1 15) 5 (vp_nar .boolean 0))) c n 0 ((((s.1 14) 0) * 2) &&& 255) r1207 er1207).le (Nat.le_of_ble_eq_true rfl)) ?_
        show q_RP _ _ _ (99, [(3, .int r1192), (2, .int ((s.1 14) 0)), (0, .ref 64), (1, .int a1)], [], (q_kM r1207 c n)) _ _
        exact q_RP_ret rfl rfl rfl
      | false =>
        refine q_RP_cF ?_
        refine q_RP_rsT (g2 := (55, [(3, .int r1192), (2, .int ((s.1 14) 0)), (0, .ref 64), (1, .int a1)], [.int 0, .ref 64], (q_kM (q_sA s 15 (upd (s.1 15) 5 (vp_nar .boolean 0))) c n))) rfl rfl (q_d_neF h1382) ?_
        refine q_RP_seg (g2 := (59, [(3, .int r1192), (2, .int ((s.1 14) 0)), (0, .ref 64), (1, .int a1)], [.int 151, .int a1, .int 0, .ref 64], (q_kM (q_sA s 15 (upd (s.1 15) 5 (vp_nar .boolean 0))) c n))) 2 (fun _ _ => rfl) ?_
        cases h1383 : decide (a1 = 151) with
        | true =>
          refine q_RP_cT ?_
          refine q_RP_rsF (g2 := (62, [(3, .int r1192), (2, .int ((s.1 14) 0)), (0, .ref 64), (1, .int a1)], [.int 0, .ref 64], (q_kM (q_sA s 15 (upd (s.1 15) 5 (vp_nar .boolean 0))) c n))) rfl rfl (q_d_neT h1383) ?_
          refine q_RP_seg (g2 := (96, [(3, .int r1192), (2, .int ((s.1 14) 0)), (0, .ref 64), (1, .int a1)], [.int (((s.1 14) 0) / 2), .int 0, .ref 64], (q_kM (q_sA s 15 (upd (s.1 15) 5 (vp_nar .boolean 0))) c n))) 4 (fun _ _ => rfl) ?_
          refine q_RP_bd fun r1208 er1208 => ?_
          refine q_RP_call (v := none) (h2 := (q_kM r1208 c n)) rfl rfl ((dzt_M262_64 (q_sA s 15 (upd (s.1 15) 5 (vp_nar .boolean 0))) c n 0 (((s.1 14) 0) / 2) r1208 er1208).le (Nat.le_of_ble_eq_true rfl)) ?_
          show q_RP _ _ _ (99, [(3, .int r1192), (2, .int ((s.1 14) 0)), (0, .ref 64), (1, .int a1)], [], (q_kM r1208 c n)) _ _
          exact q_RP_ret rfl rfl rfl
        | false =>
          refine q_RP_cF ?_
          refine q_RP_rsT (g2 := (68, [(3, .int r1192), (2, .int ((s.1 14) 0)), (0, .ref 64), (1, .int a1)], [.int 0, .ref 64], (q_kM (q_sA s 15 (upd (s.1 15) 5 (vp_nar .boolean 0))) c n))) rfl rfl (q_d_neF h1383) ?_
          refine q_RP_seg (g2 := (72, [(3, .int r1192), (2, .int ((s.1 14) 0)), (0, .ref 64), (1, .int a1)], [.int 152, .int a1, .int 0, .ref 64], (q_kM (q_sA s 15 (upd (s.1 15) 5 (vp_nar .boolean 0))) c n))) 2 (fun _ _ => rfl) ?_
          cases h1384 : decide (a1 = 152) with
          | true =>
            refine q_RP_cT ?_
            refine q_RP_rsF (g2 := (75, [(3, .int r1192), (2, .int ((s.1 14) 0)), (0, .ref 64), (1, .int a1)], [.int 0, .ref 64], (q_kM (q_sA s 15 (upd (s.1 15) 5 (vp_nar .boolean 0))) c n))) rfl rfl (q_d_neT h1384) ?_
            refine q_RP_seg (g2 := (96, [(3, .int r1192), (2, .int ((s.1 14) 0)), (0, .ref 64), (1, .int a1)], [.int (((((s.1 14) 0) * 2) + r1192) &&& 255), .int 0, .ref 64], (q_kM (q_sA s 15 (upd (s.1 15) 5 (vp_nar .boolean 0))) c n))) 8 (fun _ _ => rfl) ?_
            refine q_RP_bd fun r1209 er1209 => ?_
            refine q_RP_call (v := none) (h2 := (q_kM r1209 c n)) rfl rfl ((dzt_M262_64 (q_sA s 15 (upd (s.1 15) 5 (vp_nar .boolean 0))) c n 0 (((((s.1 14) 0) * 2) + r1192) &&& 255) r1209 er1209).le (Nat.le_of_ble_eq_true rfl)) ?_
            show q_RP _ _ _ (99, [(3, .int r1192), (2, .int ((s.1 14) 0)), (0, .ref 64), (1, .int a1)], [], (q_kM r1209 c n)) _ _
            exact q_RP_ret rfl rfl rfl
          | false =>
            refine q_RP_cF ?_
            refine q_RP_rsT (g2 := (87, [(3, .int r1192), (2, .int ((s.1 14) 0)), (0, .ref 64), (1, .int a1)], [.int 0, .ref 64], (q_kM (q_sA s 15 (upd (s.1 15) 5 (vp_nar .boolean 0))) c n))) rfl rfl (q_d_neF h1384) ?_
            refine q_RP_seg (g2 := (96, [(3, .int r1192), (2, .int ((s.1 14) 0)), (0, .ref 64), (1, .int a1)], [.int ((((s.1 14) 0) / 2) + (128 * r1192)), .int 0, .ref 64], (q_kM (q_sA s 15 (upd (s.1 15) 5 (vp_nar .boolean 0))) c n))) 7 (fun _ _ => rfl) ?_
            refine q_RP_bd fun r1210 er1210 => ?_
            refine q_RP_call (v := none) (h2 := (q_kM r1210 c n)) rfl rfl ((dzt_M262_64 (q_sA s 15 (upd (s.1 15) 5 (vp_nar .boolean 0))) c n 0 ((((s.1 14) 0) / 2) + (128 * r1192)) r1210 er1210).le (Nat.le_of_ble_eq_true rfl)) ?_
            show q_RP _ _ _ (99, [(3, .int r1192), (2, .int ((s.1 14) 0)), (0, .ref 64), (1, .int a1)], [], (q_kM r1210 c n)) _ _
            exact q_RP_ret rfl rfl rfl
def dz_M273_64 (s : q_S) (a1 : Int32) (a2 : Int32) : Option (q_S) :=
  cond (decide (a1 < 128)) (q_let (dz_M213 (q_sA s 15 (upd (s.1 15) 7 (vp_nar .boolean 1))) (a2 + 1)) fun r1150 => some (q_sA (q_sA s 15 (upd (s.1 15) 7 (vp_nar .boolean 1))) 14 (upd (s.1 14) 4 r1150))) (cond (decide (153 < a1)) (q_let (dz_M213 (q_sA s 15 (upd (s.1 15) 7 (vp_nar .boolean 1))) (a2 + 1)) fun r1151 => some (q_sA (q_sA s 15 (upd (s.1 15) 7 (vp_nar .boolean 1))) 14 (upd (s.1 14) 4 r1151))) (cond (decide (a1 = 128)) ((dz_M262_64 s 1 ((((s.1 14) 1) + 1) &&& 255)).bind fun r1152 => q_let (dz_M213 r1152 (a2 + 1)) fun r1153 => some (q_sA r1152 14 (upd (r1152.1 14) 4 r1153))) (cond (decide (a1 = 129)) ((dz_M262_64 s 1 ((((s.1 14) 1) - 1) &&& 255)).bind fun r1154 => q_let (dz_M213 r1154 (a2 + 1)) fun r1155 => some (q_sA r1154 14 (upd (r1154.1 14) 4 r1155))) (cond (decide (a1 = 130)) ((dz_M262_64 s 2 ((((s.1 14) 2) + 1) &&& 255)).bind fun r1156 => q_let (dz_M213 r1156 (a2 + 1)) fun r1157 => some (q_sA r1156 14 (upd (r1156.1 14) 4 r1157))) (cond (decide (a1 = 131)) ((dz_M262_64 s 2 ((((s.1 14) 2) - 1) &&& 255)).bind fun r1158 => q_let (dz_M213 r1158 (a2 + 1)) fun r1159 => some (q_sA r1158 14 (upd (r1158.1 14) 4 r1159))) (cond (decide (a1 = 132)) ((dz_M262_64 s 1 ((s.1 14) 0)).bind fun r1160 => q_let (dz_M213 r1160 (a2 + 1)) fun r1161 => some (q_sA r1160 14 (upd (r1160.1 14) 4 r1161))) (cond (decide (a1 = 133)) ((dz_M262_64 s 0 ((s.1 14) 1)).bind fun r1162 => q_let (dz_M213 r1162 (a2 + 1)) fun r1163 => some (q_sA r1162 14 (upd (r1162.1 14) 4 r1163))) (cond (decide (a1 = 134)) ((dz_M262_64 s 2 ((s.1 14) 0)).bind fun r1164 => q_let (dz_M213 r1164 (a2 + 1)) fun r1165 => some (q_sA r1164 14 (upd (r1164.1 14) 4 r1165))) (cond (decide (a1 = 135)) ((dz_M262_64 s 0 ((s.1 14) 2)).bind fun r1166 => q_let (dz_M213 r1166 (a2 + 1)) fun r1167 => some (q_sA r1166 14 (upd (r1166.1 14) 4 r1167))) (cond (decide (a1 = 136)) ((dz_M262_64 s 1 ((s.1 14) 3)).bind fun r1168 => q_let (dz_M213 r1168 (a2 + 1)) fun r1169 => some (q_sA r1168 14 (upd (r1168.1 14) 4 r1169))) (cond (decide (a1 = 137)) (q_let (dz_M213 (q_sA s 14 (upd (s.1 14) 3 ((s.1 14) 1))) (a2 + 1)) fun r1170 => q_let ((q_sA s 14 (upd (s.1 14) 3 ((s.1 14) 1)))) fun r1171 => some (q_sA r1171 14 (upd (r1171.1 14) 4 r1170))) (cond (decide (a1 = 138)) ((dz_M255_64 s ((s.1 14) 0)).bind fun r1172 => q_let (dz_M213 r1172 (a2 + 1)) fun r1173 => some (q_sA r1172 14 (upd (r1172.1 14) 4 r1173))) (cond (decide (a1 = 139)) ((dz_M256_64 s).bind fun r1174 => (dz_M262_64 r1174.1 0 r1174.2).bind fun r1175 => q_let (dz_M213 r1175 (a2 + 1)) fun r1176 => some (q_sA r1175 14 (upd (r1175.1 14) 4 r1176))) (cond (decide (a1 = 140)) ((dz_M258_64 s 16).bind fun r1177 => (dz_M255_64 s r1177).bind fun r1178 => q_let (dz_M213 r1178 (a2 + 1)) fun r1179 => some (q_sA r1178 14 (upd (r1178.1 14) 4 r1179))) (cond (decide (a1 = 141)) ((dz_M256_64 s).bind fun r1180 => q_let (dz_M259_64 r1180.1 r1180.2) fun r1181 => q_let (dz_M213 r1181 (a2 + 1)) fun r1182 => some (q_sA r1181 14 (upd (r1181.1 14) 4 r1182))) (cond (decide (a1 = 142)) (q_let (dz_M213 (q_sA s 15 (upd (s.1 15) 5 (vp_nar .boolean 1))) (a2 + 1)) fun r1183 => some (q_sA (q_sA s 15 (upd (s.1 15) 5 (vp_nar .boolean 1))) 14 (upd (s.1 14) 4 r1183))) (cond (decide (a1 = 143)) (q_let (dz_M213 (q_sA s 15 (upd (s.1 15) 5 (vp_nar .boolean 0))) (a2 + 1)) fun r1184 => some (q_sA (q_sA s 15 (upd (s.1 15) 5 (vp_nar .boolean 0))) 14 (upd (s.1 14) 4 r1184))) (cond (decide (a1 = 144)) (q_let (dz_M213 (q_sA s 15 (upd (s.1 15) 2 (vp_nar .boolean 1))) (a2 + 1)) fun r1185 => some (q_sA (q_sA s 15 (upd (s.1 15) 2 (vp_nar .boolean 1))) 14 (upd (s.1 14) 4 r1185))) (cond (decide (a1 = 145)) (q_let (dz_M213 (q_sA s 15 (upd (s.1 15) 2 (vp_nar .boolean 0))) (a2 + 1)) fun r1186 => some (q_sA (q_sA s 15 (upd (s.1 15) 2 (vp_nar .boolean 0))) 14 (upd (s.1 14) 4 r1186))) (cond (decide (a1 = 146)) (q_let (dz_M213 (q_sA s 15 (upd (s.1 15) 3 (vp_nar .boolean 1))) (a2 + 1)) fun r1187 => some (q_sA (q_sA s 15 (upd (s.1 15) 3 (vp_nar .boolean 1))) 14 (upd (s.1 14) 4 r1187))) (cond (decide (a1 = 147)) (q_let (dz_M213 (q_sA s 15 (upd (s.1 15) 3 (vp_nar .boolean 0))) (a2 + 1)) fun r1188 => some (q_sA (q_sA s 15 (upd (s.1 15) 3 (vp_nar .boolean 0))) 14 (upd (s.1 14) 4 r1188))) (cond (decide (a1 = 148)) (q_let (dz_M213 (q_sA s 15 (upd (s.1 15) 1 (vp_nar .boolean 0))) (a2 + 1)) fun r1189 => some (q_sA (q_sA s 15 (upd (s.1 15) 1 (vp_nar .boolean 0))) 14 (upd (s.1 14) 4 r1189))) (cond (decide (a1 = 149)) (q_let (dz_M213 s (a2 + 1)) fun r1190 => some (q_sA s 14 (upd (s.1 14) 4 r1190))) (cond (decide (a1 = 150)) ((dz_M272_64 s a1).bind fun r1211 => q_let (dz_M213 r1211 (a2 + 1)) fun r1212 => some (q_sA r1211 14 (upd (r1211.1 14) 4 r1212))) (cond (decide (a1 = 151)) ((dz_M272_64 s a1).bind fun r1213 => q_let (dz_M213 r1213 (a2 + 1)) fun r1214 => some (q_sA r1213 14 (upd (r1213.1 14) 4 r1214))) (cond (decide (a1 = 152)) ((dz_M272_64 s a1).bind fun r1215 => q_let (dz_M213 r1215 (a2 + 1)) fun r1216 => some (q_sA r1215 14 (upd (r1215.1 14) 4 r1216))) ((dz_M272_64 s a1).bind fun r1217 => q_let (dz_M213 r1217 (a2 + 1)) fun r1218 => some (q_sA r1217 14 (upd (r1217.1 14) 4 r1218)))))))))))))))))))))))))))))
set_option maxHeartbeats 4000000 in
theorem dzt_M273_64 (s : q_S) (c n : Nat) (a1 : Int32) (a2 : Int32) (x : q_S) (h : dz_M273_64 s a1 a2 = some x) : q_Ca q_TB0 4 272 [.ref 64, .int a1, .int a2] (q_kM s c n) ((q_oSM c n) x) := by
  refine q_CaP_of (φ := (q_oSM c n)) (Nat.le_of_ble_eq_true rfl) ?_ h
  clear h
  unfold dz_M273_64
  refine q_RP_seg (g2 := (1, [(0, .ref 64), (1, .int a1), (2, .int a2)], [.int a1], (q_kM s c n))) 1 (fun _ _ => rfl) ?_
  cases h1345 : decide (a1 < 128) with
  | true =>
    refine q_RP_cT ?_
    refine q_RP_st1 (g2 := (415, [(0, .ref 64), (1, .int a1), (2, .int a2)], [], (q_kM s c n))) rfl (if_pos (Or.inl (Int32.lt_iff_toInt_lt.mp (of_decide_eq_true h1345)))) ?_
    refine q_RP_seg (g2 := (431, [(0, .ref 64), (1, .int a1), (2, .int a2)], [.int (a2 + 1), .int 4, .ref 78], (q_kM (q_sA s 15 (upd (s.1 15) 7 (vp_nar .boolean 1))) c n))) 11 (fun _ _ => rfl) ?_
    refine q_RP_call (v := (some (.int (dz_M213 (q_sA s 15 (upd (s.1 15) 7 (vp_nar .boolean 1))) (a2 + 1))))) (h2 := (q_kM (q_sA s 15 (upd (s.1 15) 7 (vp_nar .boolean 1))) c n)) rfl rfl ((dzt_M213 (q_sA s 15 (upd (s.1 15) 7 (vp_nar .boolean 1))) c n (a2 + 1)).le (Nat.le_of_ble_eq_true rfl)) ?_
    generalize dz_M213 (q_sA s 15 (upd (s.1 15) 7 (vp_nar .boolean 1))) (a2 + 1) = r1150
    refine q_RP_let ?_
    show q_RP _ _ _ (434, [(0, .ref 64), (1, .int a1), (2, .int a2)], [.int r1150, .int 4, .ref 78], (q_kM (q_sA s 15 (upd (s.1 15) 7 (vp_nar .boolean 1))) c n)) _ _
    refine q_RP_seg (g2 := (435, [(0, .ref 64), (1, .int a1), (2, .int a2)], [], (q_kM (q_sA (q_sA s 15 (upd (s.1 15) 7 (vp_nar .boolean 1))) 14 (upd (s.1 14) 4 r1150)) c n))) 1 (fun _ _ => rfl) ?_
    exact q_RP_ret rfl rfl rfl
  | false =>
    refine q_RP_cF ?_
    cases h1346 : decide (153 < a1) with
    | true =>
      refine q_RP_cT ?_
      refine q_RP_st1 (g2 := (415, [(0, .ref 64), (1, .int a1), (2, .int a2)], [], (q_kM s c n))) rfl (if_pos (Or.inr (Int32.lt_iff_toInt_lt.mp (of_decide_eq_true h1346)))) ?_
      refine q_RP_seg (g2 := (431, [(0, .ref 64), (1, .int a1), (2, .int a2)], [.int (a2 + 1), .int 4, .ref 78], (q_kM (q_sA s 15 (upd (s.1 15) 7 (vp_nar .boolean 1))) c n))) 11 (fun _ _ => rfl) ?_
      refine q_RP_call (v := (some (.int (dz_M213 (q_sA s 15 (upd (s.1 15) 7 (vp_nar .boolean 1))) (a2 + 1))))) (h2 := (q_kM (q_sA s 15 (upd (s.1 15) 7 (vp_nar .boolean 1))) c n)) rfl rfl ((dzt_M213 (q_sA s 15 (upd (s.1 15) 7 (vp_nar .boolean 1))) c n (a2 + 1)).le (Nat.le_of_ble_eq_true rfl)) ?_
      generalize dz_M213 (q_sA s 15 (upd (s.1 15) 7 (vp_nar .boolean 1))) (a2 + 1) = r1151
      refine q_RP_let ?_
      show q_RP _ _ _ (434, [(0, .ref 64), (1, .int a1), (2, .int a2)], [.int r1151, .int 4, .ref 78], (q_kM (q_sA s 15 (upd (s.1 15) 7 (vp_nar .boolean 1))) c n)) _ _
      refine q_RP_seg (g2 := (435, [(0, .ref 64), (1, .int a1), (2, .int a2)], [], (q_kM (q_sA (q_sA s 15 (upd (s.1 15) 7 (vp_nar .boolean 1))) 14 (upd (s.1 14) 4 r1151)) c n))) 1 (fun _ _ => rfl) ?_
      exact q_RP_ret rfl rfl rfl
    | false =>
      refine q_RP_cF ?_
      cases h1347 : decide (a1 = 128) with
      | true =>
        refine q_RP_cT ?_
        refine q_RP_st1 (g2 := (120, [(0, .ref 64), (1, .int a1), (2, .int a2)], [], (q_kM s c n))) rfl (by rw [of_decide_eq_true h1347]; rfl) ?_
        refine q_RP_seg (g2 := (128, [(0, .ref 64), (1, .int a1), (2, .int a2)], [.int ((s.1 14) 1), .int 1, .ref 64], (q_kM s c n))) 6 (fun _ _ => rfl) ?_
        refine q_RP_seg (g2 := (134, [(0, .ref 64), (1, .int a1), (2, .int a2)], [.int ((((s.1 14) 1) + 1) &&& 255), .int 1, .ref 64], (q_kM s c n))) 4 (fun _ _ => rfl) ?_
        refine q_RP_bd fun r1152 er1152 => ?_
        refine q_RP_call (v := none) (h2 := (q_kM r1152 c n)) rfl rfl ((dzt_M262_64 s c n 1 ((((s.1 14) 1) + 1) &&& 255) r1152 er1152).le (Nat.le_of_ble_eq_true rfl)) ?_
        show q_RP _ _ _ (137, [(0, .ref 64), (1, .int a1), (2, .int a2)], [], (q_kM r1152 c n)) _ _
        refine q_RP_seg (g2 := (431, [(0, .ref 64), (1, .int a1), (2, .int a2)], [.int (a2 + 1), .int 4, .ref 78], (q_kM r1152 c n))) 7 (fun _ _ => rfl) ?_
        refine q_RP_call (v := (some (.int (dz_M213 r1152 (a2 + 1))))) (h2 := (q_kM r1152 c n)) rfl rfl ((dzt_M213 r1152 c n (a2 + 1)).le (Nat.le_of_ble_eq_true rfl)) ?_
        generalize dz_M213 r1152 (a2 + 1) = r1153
        refine q_RP_let ?_
        show q_RP _ _ _ (434, [(0, .ref 64), (1, .int a1), (2, .int a2)], [.int r1153, .int 4, .ref 78], (q_kM r1152 c n)) _ _
        refine q_RP_seg (g2 := (435, [(0, .ref 64), (1, .int a1), (2, .int a2)], [], (q_kM (q_sA r1152 14 (upd (r1152.1 14) 4 r1153)) c n))) 1 (fun _ _ => rfl) ?_
        exact q_RP_ret rfl rfl rfl
      | false =>
        refine q_RP_cF ?_
        cases h1348 : decide (a1 = 129) with
        | true =>
          refine q_RP_cT ?_
          refine q_RP_st1 (g2 := (140, [(0, .ref 64), (1, .int a1), (2, .int a2)], [], (q_kM s c n))) rfl (by rw [of_decide_eq_true h1348]; rfl) ?_
          refine q_RP_seg (g2 := (148, [(0, .ref 64), (1, .int a1), (2, .int a2)], [.int ((s.1 14) 1), .int 1, .ref 64], (q_kM s c n))) 6 (fun _ _ => rfl) ?_
          refine q_RP_seg (g2 := (154, [(0, .ref 64), (1, .int a1), (2, .int a2)], [.int ((((s.1 14) 1) - 1) &&& 255), .int 1, .ref 64], (q_kM s c n))) 4 (fun _ _ => rfl) ?_
          refine q_RP_bd fun r1154 er1154 => ?_
          refine q_RP_call (v := none) (h2 := (q_kM r1154 c n)) rfl rfl ((dzt_M262_64 s c n 1 ((((s.1 14) 1) - 1) &&& 255) r1154 er1154).le (Nat.le_of_ble_eq_true rfl)) ?_
          show q_RP _ _ _ (157, [(0, .ref 64), (1, .int a1), (2, .int a2)], [], (q_kM r1154 c n)) _ _
          refine q_RP_seg (g2 := (431, [(0, .ref 64), (1, .int a1), (2, .int a2)], [.int (a2 + 1), .int 4, .ref 78], (q_kM r1154 c n))) 7 (fun _ _ => rfl) ?_
          refine q_RP_call (v := (some (.int (dz_M213 r1154 (a2 + 1))))) (h2 := (q_kM r1154 c n)) rfl rfl ((dzt_M213 r1154 c n (a2 + 1)).le (Nat.le_of_ble_eq_true rfl)) ?_
          generalize dz_M213 r1154 (a2 + 1) = r1155
          refine q_RP_let ?_
          show q_RP _ _ _ (434, [(0, .ref 64), (1, .int a1), (2, .int a2)], [.int r1155, .int 4, .ref 78], (q_kM r1154 c n)) _ _
          refine q_RP_seg (g2 := (435, [(0, .ref 64), (1, .int a1), (2, .int a2)], [], (q_kM (q_sA r1154 14 (upd (r1154.1 14) 4 r1155)) c n))) 1 (fun _ _ => rfl) ?_
          exact q_RP_ret rfl rfl rfl
        | false =>
          refine q_RP_cF ?_
          cases h1349 : decide (a1 = 130) with
          | true =>
            refine q_RP_cT ?_
            refine q_RP_st1 (g2 := (160, [(0, .ref 64), (1, .int a1), (2, .int a2)], [], (q_kM s c n))) rfl (by rw [of_decide_eq_true h1349]; rfl) ?_
            refine q_RP_seg (g2 := (168, [(0, .ref 64), (1, .int a1), (2, .int a2)], [.int ((s.1 14) 2), .int 2, .ref 64], (q_kM s c n))) 6 (fun _ _ => rfl) ?_
            refine q_RP_seg (g2 := (174, [(0, .ref 64), (1, .int a1), (2, .int a2)], [.int ((((s.1 14) 2) + 1) &&& 255), .int 2, .ref 64], (q_kM s c n))) 4 (fun _ _ => rfl) ?_
            refine q_RP_bd fun r1156 er1156 => ?_
            refine q_RP_call (v := none) (h2 := (q_kM r1156 c n)) rfl rfl ((dzt_M262_64 s c n 2 ((((s.1 14) 2) + 1) &&& 255) r1156 er1156).le (Nat.le_of_ble_eq_true rfl)) ?_
            show q_RP _ _ _ (177, [(0, .ref 64), (1, .int a1), (2, .int a2)], [], (q_kM r1156 c n)) _ _
            refine q_RP_seg (g2 := (431, [(0, .ref 64), (1, .int a1), (2, .int a2)], [.int (a2 + 1), .int 4, .ref 78], (q_kM r1156 c n))) 7 (fun _ _ => rfl) ?_
            refine q_RP_call (v := (some (.int (dz_M213 r1156 (a2 + 1))))) (h2 := (q_kM r1156 c n)) rfl rfl ((dzt_M213 r1156 c n (a2 + 1)).le (Nat.le_of_ble_eq_true rfl)) ?_
            generalize dz_M213 r1156 (a2 + 1) = r1157
            refine q_RP_let ?_
            show q_RP _ _ _ (434, [(0, .ref 64), (1, .int a1), (2, .int a2)], [.int r1157, .int 4, .ref 78], (q_kM r1156 c n)) _ _
            refine q_RP_seg (g2 := (435, [(0, .ref 64), (1, .int a1), (2, .int a2)], [], (q_kM (q_sA r1156 14 (upd (r1156.1 14) 4 r1157)) c n))) 1 (fun _ _ => rfl) ?_
            exact q_RP_ret rfl rfl rfl
          | false =>
            refine q_RP_cF ?_
            cases h1350 : decide (a1 = 131) with
            | true =>
              refine q_RP_cT ?_
              refine q_RP_st1 (g2 := (180, [(0, .ref 64), (1, .int a1), (2, .int a2)], [], (q_kM s c n))) rfl (by rw [of_decide_eq_true h1350]; rfl) ?_
              refine q_RP_seg (g2 := (188, [(0, .ref 64), (1, .int a1), (2, .int a2)], [.int ((s.1 14) 2), .int 2, .ref 64], (q_kM s c n))) 6 (fun _ _ => rfl) ?_
              refine q_RP_seg (g2 := (194, [(0, .ref 64), (1, .int a1), (2, .int a2)], [.int ((((s.1 14) 2) - 1) &&& 255), .int 2, .ref 64], (q_kM s c n))) 4 (fun _ _ => rfl) ?_
              refine q_RP_bd fun r1158 er1158 => ?_
              refine q_RP_call (v := none) (h2 := (q_kM r1158 c n)) rfl rfl ((dzt_M262_64 s c n 2 ((((s.1 14) 2) - 1) &&& 255) r1158 er1158).le (Nat.le_of_ble_eq_true rfl)) ?_
              show q_RP _ _ _ (197, [(0, .ref 64), (1, .int a1), (2, .int a2)], [], (q_kM r1158 c n)) _ _
              refine q_RP_seg (g2 := (431, [(0, .ref 64), (1, .int a1), (2, .int a2)], [.int (a2 + 1), .int 4, .ref 78], (q_kM r1158 c n))) 7 (fun _ _ => rfl) ?_
              refine q_RP_call (v := (some (.int (dz_M213 r1158 (a2 + 1))))) (h2 := (q_kM r1158 c n)) rfl rfl ((dzt_M213 r1158 c n (a2 + 1)).le (Nat.le_of_ble_eq_true rfl)) ?_
              generalize dz_M213 r1158 (a2 + 1) = r1159
              refine q_RP_let ?_
              show q_RP _ _ _ (434, [(0, .ref 64), (1, .int a1), (2, .int a2)], [.int r1159, .int 4, .ref 78], (q_kM r1158 c n)) _ _
              refine q_RP_seg (g2 := (435, [(0, .ref 64), (1, .int a1), (2, .int a2)], [], (q_kM (q_sA r1158 14 (upd (r1158.1 14) 4 r1159)) c n))) 1 (fun _ _ => rfl) ?_
              exact q_RP_ret rfl rfl rfl
            | false =>
              refine q_RP_cF ?_
              cases h1351 : decide (a1 = 132) with
              | true =>
                refine q_RP_cT ?_
                refine q_RP_st1 (g2 := (200, [(0, .ref 64), (1, .int a1), (2, .int a2)], [], (q_kM s c n))) rfl (by rw [of_decide_eq_true h1351]; rfl) ?_
                refine q_RP_seg (g2 := (208, [(0, .ref 64), (1, .int a1), (2, .int a2)], [.int ((s.1 14) 0), .int 1, .ref 64], (q_kM s c n))) 6 (fun _ _ => rfl) ?_
                refine q_RP_bd fun r1160 er1160 => ?_
                refine q_RP_call (v := none) (h2 := (q_kM r1160 c n)) rfl rfl ((dzt_M262_64 s c n 1 ((s.1 14) 0) r1160 er1160).le (Nat.le_of_ble_eq_true rfl)) ?_
                show q_RP _ _ _ (211, [(0, .ref 64), (1, .int a1), (2, .int a2)], [], (q_kM r1160 c n)) _ _
                refine q_RP_seg (g2 := (431, [(0, .ref 64), (1, .int a1), (2, .int a2)], [.int (a2 + 1), .int 4, .ref 78], (q_kM r1160 c n))) 7 (fun _ _ => rfl) ?_
                refine q_RP_call (v := (some (.int (dz_M213 r1160 (a2 + 1))))) (h2 := (q_kM r1160 c n)) rfl rfl ((dzt_M213 r1160 c n (a2 + 1)).le (Nat.le_of_ble_eq_true rfl)) ?_
                generalize dz_M213 r1160 (a2 + 1) = r1161
                refine q_RP_let ?_
                show q_RP _ _ _ (434, [(0, .ref 64), (1, .int a1), (2, .int a2)], [.int r1161, .int 4, .ref 78], (q_kM r1160 c n)) _ _
                refine q_RP_seg (g2 := (435, [(0, .ref 64), (1, .int a1), (2, .int a2)], [], (q_kM (q_sA r1160 14 (upd (r1160.1 14) 4 r1161)) c n))) 1 (fun _ _ => rfl) ?_
                exact q_RP_ret rfl rfl rfl
              | false =>
                refine q_RP_cF ?_
                cases h1352 : decide (a1 = 133) with
                | true =>
                  refine q_RP_cT ?_
                  refine q_RP_st1 (g2 := (214, [(0, .ref 64), (1, .int a1), (2, .int a2)], [], (q_kM s c n))) rfl (by rw [of_decide_eq_true h1352]; rfl) ?_
                  refine q_RP_seg (g2 := (222, [(0, .ref 64), (1, .int a1), (2, .int a2)], [.int ((s.1 14) 1), .int 0, .ref 64], (q_kM s c n))) 6 (fun _ _ => rfl) ?_
                  refine q_RP_bd fun r1162 er1162 => ?_
                  refine q_RP_call (v := none) (h2 := (q_kM r1162 c n)) rfl rfl ((dzt_M262_64 s c n 0 ((s.1 14) 1) r1162 er1162).le (Nat.le_of_ble_eq_true rfl)) ?_
                  show q_RP _ _ _ (225, [(0, .ref 64), (1, .int a1), (2, .int a2)], [], (q_kM r1162 c n)) _ _
                  refine q_RP_seg (g2 := (431, [(0, .ref 64), (1, .int a1), (2, .int a2)], [.int (a2 + 1), .int 4, .ref 78], (q_kM r1162 c n))) 7 (fun _ _ => rfl) ?_
                  refine q_RP_call (v := (some (.int (dz_M213 r1162 (a2 + 1))))) (h2 := (q_kM r1162 c n)) rfl rfl ((dzt_M213 r1162 c n (a2 + 1)).le (Nat.le_of_ble_eq_true rfl)) ?_
                  generalize dz_M213 r1162 (a2 + 1) = r1163
                  refine q_RP_let ?_
                  show q_RP _ _ _ (434, [(0, .ref 64), (1, .int a1), (2, .int a2)], [.int r1163, .int 4, .ref 78], (q_kM r1162 c n)) _ _
                  refine q_RP_seg (g2 := (435, [(0, .ref 64), (1, .int a1), (2, .int a2)], [], (q_kM (q_sA r1162 14 (upd (r1162.1 14) 4 r1163)) c n))) 1 (fun _ _ => rfl) ?_
                  exact q_RP_ret rfl rfl rfl
                | false =>
                  refine q_RP_cF ?_
                  cases h1353 : decide (a1 = 134) with
                  | true =>
                    refine q_RP_cT ?_
                    refine q_RP_st1 (g2 := (228, [(0, .ref 64), (1, .int a1), (2, .int a2)], [], (q_kM s c n))) rfl (by rw [of_decide_eq_true h1353]; rfl) ?_
                    refine q_RP_seg (g2 := (236, [(0, .ref 64), (1, .int a1), (2, .int a2)], [.int ((s.1 14) 0), .int 2, .ref 64], (q_kM s c n))) 6 (fun _ _ => rfl) ?_
                    refine q_RP_bd fun r1164 er1164 => ?_
                    refine q_RP_call (v := none) (h2 := (q_kM r1164 c n)) rfl rfl ((dzt_M262_64 s c n 2 ((s.1 14) 0) r1164 er1164).le (Nat.le_of_ble_eq_true rfl)) ?_
                    show q_RP _ _ _ (239, [(0, .ref 64), (1, .int a1), (2, .int a2)], [], (q_kM r1164 c n)) _ _
                    refine q_RP_seg (g2 := (431, [(0, .ref 64), (1, .int a1), (2, .int a2)], [.int (a2 + 1), .int 4, .ref 78], (q_kM r1164 c n))) 7 (fun _ _ => rfl) ?_
                    refine q_RP_call (v := (some (.int (dz_M213 r1164 (a2 + 1))))) (h2 := (q_kM r1164 c n)) rfl rfl ((dzt_M213 r1164 c n (a2 + 1)).le (Nat.le_of_ble_eq_true rfl)) ?_
                    generalize dz_M213 r1164 (a2 + 1) = r1165
                    refine q_RP_let ?_
                    show q_RP _ _ _ (434, [(0, .ref 64), (1, .int a1), (2, .int a2)], [.int r1165, .int 4, .ref 78], (q_kM r1164 c n)) _ _
                    refine q_RP_seg (g2 := (435, [(0, .ref 64), (1, .int a1), (2, .int a2)], [], (q_kM (q_sA r1164 14 (upd (r1164.1 14) 4 r1165)) c n))) 1 (fun _ _ => rfl) ?_
                    exact q_RP_ret rfl rfl rfl
                  | false =>
                    refine q_RP_cF ?_
                    cases h1354 : decide (a1 = 135) with
                    | true =>
                      refine q_RP_cT ?_
                      refine q_RP_st1 (g2 := (242, [(0, .ref 64), (1, .int a1), (2, .int a2)], [], (q_kM s c n))) rfl (by rw [of_decide_eq_true h1354]; rfl) ?_
                      refine q_RP_seg (g2 := (250, [(0, .ref 64), (1, .int a1), (2, .int a2)], [.int ((s.1 14) 2), .int 0, .ref 64], (q_kM s c n))) 6 (fun _ _ => rfl) ?_
                      refine q_RP_bd fun r1166 er1166 => ?_
                      refine q_RP_call (v := none) (h2 := (q_kM r1166 c n)) rfl rfl ((dzt_M262_64 s c n 0 ((s.1 14) 2) r1166 er1166).le (Nat.le_of_ble_eq_true rfl)) ?_
                      show q_RP _ _ _ (253, [(0, .ref 64), (1, .int a1), (2, .int a2)], [], (q_kM r1166 c n)) _ _
                      refine q_RP_seg (g2 := (431, [(0, .ref 64), (1, .int a1), (2, .int a2)], [.int (a2 + 1), .int 4, .ref 78], (q_kM r1166 c n))) 7 (fun _ _ => rfl) ?_
                      refine q_RP_call (v := (some (.int (dz_M213 r1166 (a2 + 1))))) (h2 := (q_kM r1166 c n)) rfl rfl ((dzt_M213 r1166 c n (a2 + 1)).le (Nat.le_of_ble_eq_true rfl)) ?_
                      generalize dz_M213 r1166 (a2 + 1) = r1167
                      refine q_RP_let ?_
                      show q_RP _ _ _ (434, [(0, .ref 64), (1, .int a1), (2, .int a2)], [.int r1167, .int 4, .ref 78], (q_kM r1166 c n)) _ _
                      refine q_RP_seg (g2 := (435, [(0, .ref 64), (1, .int a1), (2, .int a2)], [], (q_kM (q_sA r1166 14 (upd (r1166.1 14) 4 r1167)) c n))) 1 (fun _ _ => rfl) ?_
                      exact q_RP_ret rfl rfl rfl
                    | false =>
                      refine q_RP_cF ?_
                      cases h1355 : decide (a1 = 136) with
                      | true =>
                        refine q_RP_cT ?_
                        refine q_RP_st1 (g2 := (256, [(0, .ref 64), (1, .int a1), (2, .int a2)], [], (q_kM s c n))) rfl (by rw [of_decide_eq_true h1355]; rfl) ?_
                        refine q_RP_seg (g2 := (264, [(0, .ref 64), (1, .int a1), (2, .int a2)], [.int ((s.1 14) 3), .int 1, .ref 64], (q_kM s c n))) 6 (fun _ _ => rfl) ?_
                        refine q_RP_bd fun r1168 er1168 => ?_
                        refine q_RP_call (v := none) (h2 := (q_kM r1168 c n)) rfl rfl ((dzt_M262_64 s c n 1 ((s.1 14) 3) r1168 er1168).le (Nat.le_of_ble_eq_true rfl)) ?_
                        show q_RP _ _ _ (267, [(0, .ref 64), (1, .int a1), (2, .int a2)], [], (q_kM r1168 c n)) _ _
                        refine q_RP_seg (g2 := (431, [(0, .ref 64), (1, .int a1), (2, .int a2)], [.int (a2 + 1), .int 4, .ref 78], (q_kM r1168 c n))) 7 (fun _ _ => rfl) ?_
                        refine q_RP_call (v := (some (.int (dz_M213 r1168 (a2 + 1))))) (h2 := (q_kM r1168 c n)) rfl rfl ((dzt_M213 r1168 c n (a2 + 1)).le (Nat.le_of_ble_eq_true rfl)) ?_
                        generalize dz_M213 r1168 (a2 + 1) = r1169
                        refine q_RP_let ?_
                        show q_RP _ _ _ (434, [(0, .ref 64), (1, .int a1), (2, .int a2)], [.int r1169, .int 4, .ref 78], (q_kM r1168 c n)) _ _
                        refine q_RP_seg (g2 := (435, [(0, .ref 64), (1, .int a1), (2, .int a2)], [], (q_kM (q_sA r1168 14 (upd (r1168.1 14) 4 r1169)) c n))) 1 (fun _ _ => rfl) ?_
                        exact q_RP_ret rfl rfl rfl
                      | false =>
                        refine q_RP_cF ?_
                        cases h1356 : decide (a1 = 137) with
                        | true =>
                          refine q_RP_cT ?_
                          refine q_RP_st1 (g2 := (270, [(0, .ref 64), (1, .int a1), (2, .int a2)], [], (q_kM s c n))) rfl (by rw [of_decide_eq_true h1356]; rfl) ?_
                          refine q_RP_seg (g2 := (281, [(0, .ref 64), (1, .int a1), (2, .int a2)], [.int ((s.1 14) 1), .int 3, .ref 78], (q_kM s c n))) 7 (fun _ _ => rfl) ?_
                          refine q_RP_seg (g2 := (431, [(0, .ref 64), (1, .int a1), (2, .int a2)], [.int (a2 + 1), .int 4, .ref 78], (q_kM (q_sA s 14 (upd (s.1 14) 3 ((s.1 14) 1))) c n))) 8 (fun _ _ => rfl) ?_
                          refine q_RP_call (v := (some (.int (dz_M213 (q_sA s 14 (upd (s.1 14) 3 ((s.1 14) 1))) (a2 + 1))))) (h2 := (q_kM (q_sA s 14 (upd (s.1 14) 3 ((s.1 14) 1))) c n)) rfl rfl ((dzt_M213 (q_sA s 14 (upd (s.1 14) 3 ((s.1 14) 1))) c n (a2 + 1)).le (Nat.le_of_ble_eq_true rfl)) ?_
                          generalize dz_M213 (q_sA s 14 (upd (s.1 14) 3 ((s.1 14) 1))) (a2 + 1) = r1170
                          refine q_RP_let ?_
                          show q_RP _ _ _ (434, [(0, .ref 64), (1, .int a1), (2, .int a2)], [.int r1170, .int 4, .ref 78], (q_kM (q_sA s 14 (upd (s.1 14) 3 ((s.1 14) 1))) c n)) _ _
                          generalize (q_sA s 14 (upd (s.1 14) 3 ((s.1 14) 1))) = r1171
                          refine q_RP_let ?_
                          show q_RP _ _ _ (434, [(0, .ref 64), (1, .int a1), (2, .int a2)], [.int r1170, .int 4, .ref 78], (q_kM r1171 c n)) _ _
                          refine q_RP_seg (g2 := (435, [(0, .ref 64), (1, .int a1), (2, .int a2)], [], (q_kM (q_sA r1171 14 (upd (r1171.1 14) 4 r1170)) c n))) 1 (fun _ _ => rfl) ?_
                          exact q_RP_ret rfl rfl rfl
                        | false =>
                          refine q_RP_cF ?_
                          cases h1357 : decide (a1 = 138) with
                          | true =>
                            refine q_RP_cT ?_
                            refine q_RP_st1 (g2 := (285, [(0, .ref 64), (1, .int a1), (2, .int a2)], [], (q_kM s c n))) rfl (by rw [of_decide_eq_true h1357]; rfl) ?_
                            refine q_RP_seg (g2 := (292, [(0, .ref 64), (1, .int a1), (2, .int a2)], [.int ((s.1 14) 0), .ref 64], (q_kM s c n))) 5 (fun _ _ => rfl) ?_
                            refine q_RP_bd fun r1172 er1172 => ?_
                            refine q_RP_call (v := none) (h2 := (q_kM r1172 c n)) rfl rfl ((dzt_M255_64 s c n ((s.1 14) 0) r1172 er1172).le (Nat.le_of_ble_eq_true rfl)) ?_
                            show q_RP _ _ _ (295, [(0, .ref 64), (1, .int a1), (2, .int a2)], [], (q_kM r1172 c n)) _ _
                            refine q_RP_seg (g2 := (431, [(0, .ref 64), (1, .int a1), (2, .int a2)], [.int (a2 + 1), .int 4, .ref 78], (q_kM r1172 c n))) 7 (fun _ _ => rfl) ?_
                            refine q_RP_call (v := (some (.int (dz_M213 r1172 (a2 + 1))))) (h2 := (q_kM r1172 c n)) rfl rfl ((dzt_M213 r1172 c n (a2 + 1)).le (Nat.le_of_ble_eq_true rfl)) ?_
                            generalize dz_M213 r1172 (a2 + 1) = r1173
                            refine q_RP_let ?_
                            show q_RP _ _ _ (434, [(0, .ref 64), (1, .int a1), (2, .int a2)], [.int r1173, .int 4, .ref 78], (q_kM r1172 c n)) _ _
                            refine q_RP_seg (g2 := (435, [(0, .ref 64), (1, .int a1), (2, .int a2)], [], (q_kM (q_sA r1172 14 (upd (r1172.1 14) 4 r1173)) c n))) 1 (fun _ _ => rfl) ?_
                            exact q_RP_ret rfl rfl rfl
                          | false =>
                            refine q_RP_cF ?_
                            cases h1358 : decide (a1 = 139) with
                            | true =>
                              refine q_RP_cT ?_
                              refine q_RP_st1 (g2 := (298, [(0, .ref 64), (1, .int a1), (2, .int a2)], [], (q_kM s c n))) rfl (by rw [of_decide_eq_true h1358]; rfl) ?_
                              refine q_RP_seg (g2 := (301, [(0, .ref 64), (1, .int a1), (2, .int a2)], [.ref 64, .int 0, .ref 64], (q_kM s c n))) 3 (fun _ _ => rfl) ?_
                              refine q_RP_bd fun r1174 er1174 => ?_
                              refine q_RP_call (v := (some (.int r1174.2))) (h2 := (q_kM r1174.1 c n)) rfl rfl ((dzt_M256_64 s c n r1174 er1174).le (Nat.le_of_ble_eq_true rfl)) ?_
                              show q_RP _ _ _ (304, [(0, .ref 64), (1, .int a1), (2, .int a2)], [.int r1174.2, .int 0, .ref 64], (q_kM r1174.1 c n)) _ _
                              refine q_RP_bd fun r1175 er1175 => ?_
                              refine q_RP_call (v := none) (h2 := (q_kM r1175 c n)) rfl rfl ((dzt_M262_64 r1174.1 c n 0 r1174.2 r1175 er1175).le (Nat.le_of_ble_eq_true rfl)) ?_
                              show q_RP _ _ _ (307, [(0, .ref 64), (1, .int a1), (2, .int a2)], [], (q_kM r1175 c n)) _ _
                              refine q_RP_seg (g2 := (431, [(0, .ref 64), (1, .int a1), (2, .int a2)], [.int (a2 + 1), .int 4, .ref 78], (q_kM r1175 c n))) 7 (fun _ _ => rfl) ?_
                              refine q_RP_call (v := (some (.int (dz_M213 r1175 (a2 + 1))))) (h2 := (q_kM r1175 c n)) rfl rfl ((dzt_M213 r1175 c n (a2 + 1)).le (Nat.le_of_ble_eq_true rfl)) ?_
                              generalize dz_M213 r1175 (a2 + 1) = r1176
                              refine q_RP_let ?_
                              show q_RP _ _ _ (434, [(0, .ref 64), (1, .int a1), (2, .int a2)], [.int r1176, .int 4, .ref 78], (q_kM r1175 c n)) _ _
                              refine q_RP_seg (g2 := (435, [(0, .ref 64), (1, .int a1), (2, .int a2)], [], (q_kM (q_sA r1175 14 (upd (r1175.1 14) 4 r1176)) c n))) 1 (fun _ _ => rfl) ?_
                              exact q_RP_ret rfl rfl rfl
                            | false =>
                              refine q_RP_cF ?_
                              cases h1359 : decide (a1 = 140) with
                              | true =>
                                refine q_RP_cT ?_
                                refine q_RP_st1 (g2 := (310, [(0, .ref 64), (1, .int a1), (2, .int a2)], [], (q_kM s c n))) rfl (by rw [of_decide_eq_true h1359]; rfl) ?_
                                refine q_RP_seg (g2 := (314, [(0, .ref 64), (1, .int a1), (2, .int a2)], [.int 16, .ref 64, .ref 64], (q_kM s c n))) 3 (fun _ _ => rfl) ?_
                                refine q_RP_bd fun r1177 er1177 => ?_
                                refine q_RP_call (v := (some (.int r1177))) (h2 := (q_kM s c n)) rfl rfl ((dzt_M258_64 s c n 16 r1177 er1177).le (Nat.le_of_ble_eq_true rfl)) ?_
                                show q_RP _ _ _ (317, [(0, .ref 64), (1, .int a1), (2, .int a2)], [.int r1177, .ref 64], (q_kM s c n)) _ _
                                refine q_RP_bd fun r1178 er1178 => ?_
                                refine q_RP_call (v := none) (h2 := (q_kM r1178 c n)) rfl rfl ((dzt_M255_64 s c n r1177 r1178 er1178).le (Nat.le_of_ble_eq_true rfl)) ?_
                                show q_RP _ _ _ (320, [(0, .ref 64), (1, .int a1), (2, .int a2)], [], (q_kM r1178 c n)) _ _
                                refine q_RP_seg (g2 := (431, [(0, .ref 64), (1, .int a1), (2, .int a2)], [.int (a2 + 1), .int 4, .ref 78], (q_kM r1178 c n))) 7 (fun _ _ => rfl) ?_
                                refine q_RP_call (v := (some (.int (dz_M213 r1178 (a2 + 1))))) (h2 := (q_kM r1178 c n)) rfl rfl ((dzt_M213 r1178 c n (a2 + 1)).le (Nat.le_of_ble_eq_true rfl)) ?_
                                generalize dz_M213 r1178 (a2 + 1) = r1179
                                refine q_RP_let ?_
                                show q_RP _ _ _ (434, [(0, .ref 64), (1, .int a1), (2, .int a2)], [.int r1179, .int 4, .ref 78], (q_kM r1178 c n)) _ _
                                refine q_RP_seg (g2 := (435, [(0, .ref 64), (1, .int a1), (2, .int a2)], [], (q_kM (q_sA r1178 14 (upd (r1178.1 14) 4 r1179)) c n))) 1 (fun _ _ => rfl) ?_
                                exact q_RP_ret rfl rfl rfl
                              | false =>
                                refine q_RP_cF ?_
                                cases h1360 : decide (a1 = 141) with
                                | true =>
                                  refine q_RP_cT ?_
                                  refine q_RP_st1 (g2 := (323, [(0, .ref 64), (1, .int a1), (2, .int a2)], [], (q_kM s c n))) rfl (by rw [of_decide_eq_true h1360]; rfl) ?_
                                  refine q_RP_seg (g2 := (325, [(0, .ref 64), (1, .int a1), (2, .int a2)], [.ref 64, .ref 64], (q_kM s c n))) 2 (fun _ _ => rfl) ?_
                                  refine q_RP_bd fun r1180 er1180 => ?_
                                  refine q_RP_call (v := (some (.int r1180.2))) (h2 := (q_kM r1180.1 c n)) rfl rfl ((dzt_M256_64 s c n r1180 er1180).le (Nat.le_of_ble_eq_true rfl)) ?_
                                  show q_RP _ _ _ (328, [(0, .ref 64), (1, .int a1), (2, .int a2)], [.int r1180.2, .ref 64], (q_kM r1180.1 c n)) _ _
                                  refine q_RP_call (v := none) (h2 := (q_kM (dz_M259_64 r1180.1 r1180.2) c n)) rfl rfl ((dzt_M259_64 r1180.1 c n r1180.2).le (Nat.le_of_ble_eq_true rfl)) ?_
                                  generalize dz_M259_64 r1180.1 r1180.2 = r1181
                                  refine q_RP_let ?_
                                  show q_RP _ _ _ (331, [(0, .ref 64), (1, .int a1), (2, .int a2)], [], (q_kM r1181 c n)) _ _
                                  refine q_RP_seg (g2 := (431, [(0, .ref 64), (1, .int a1), (2, .int a2)], [.int (a2 + 1), .int 4, .ref 78], (q_kM r1181 c n))) 7 (fun _ _ => rfl) ?_
                                  refine q_RP_call (v := (some (.int (dz_M213 r1181 (a2 + 1))))) (h2 := (q_kM r1181 c n)) rfl rfl ((dzt_M213 r1181 c n (a2 + 1)).le (Nat.le_of_ble_eq_true rfl)) ?_
                                  generalize dz_M213 r1181 (a2 + 1) = r1182
                                  refine q_RP_let ?_
                                  show q_RP _ _ _ (434, [(0, .ref 64), (1, .int a1), (2, .int a2)], [.int r1182, .int 4, .ref 78], (q_kM r1181 c n)) _ _
                                  refine q_RP_seg (g2 := (435, [(0, .ref 64), (1, .int a1), (2, .int a2)], [], (q_kM (q_sA r1181 14 (upd (r1181.1 14) 4 r1182)) c n))) 1 (fun _ _ => rfl) ?_
                                  exact q_RP_ret rfl rfl rfl
                                | false =>
                                  refine q_RP_cF ?_
                                  cases h1361 : decide (a1 = 142) with
                                  | true =>
                                    refine q_RP_cT ?_
                                    refine q_RP_st1 (g2 := (334, [(0, .ref 64), (1, .int a1), (2, .int a2)], [], (q_kM s c n))) rfl (by rw [of_decide_eq_true h1361]; rfl) ?_
                                    refine q_RP_seg (g2 := (431, [(0, .ref 64), (1, .int a1), (2, .int a2)], [.int (a2 + 1), .int 4, .ref 78], (q_kM (q_sA s 15 (upd (s.1 15) 5 (vp_nar .boolean 1))) c n))) 12 (fun _ _ => rfl) ?_
                                    refine q_RP_call (v := (some (.int (dz_M213 (q_sA s 15 (upd (s.1 15) 5 (vp_nar .boolean 1))) (a2 + 1))))) (h2 := (q_kM (q_sA s 15 (upd (s.1 15) 5 (vp_nar .boolean 1))) c n)) rfl rfl ((dzt_M213 (q_sA s 15 (upd (s.1 15) 5 (vp_nar .boolean 1))) c n (a2 + 1)).le (Nat.le_of_ble_eq_true rfl)) ?_
                                    generalize dz_M213 (q_sA s 15 (upd (s.1 15) 5 (vp_nar .boolean 1))) (a2 + 1) = r1183
                                    refine q_RP_let ?_
                                    show q_RP _ _ _ (434, [(0, .ref 64), (1, .int a1), (2, .int a2)], [.int r1183, .int 4, .ref 78], (q_kM (q_sA s 15 (upd (s.1 15) 5 (vp_nar .boolean 1))) c n)) _ _
                                    refine q_RP_seg (g2 := (435, [(0, .ref 64), (1, .int a1), (2, .int a2)], [], (q_kM (q_sA (q_sA s 15 (upd (s.1 15) 5 (vp_nar .boolean 1))) 14 (upd (s.1 14) 4 r1183)) c n))) 1 (fun _ _ => rfl) ?_
                                    exact q_RP_ret rfl rfl rfl
                                  | false =>
                                    refine q_RP_cF ?_
                                    cases h1362 : decide (a1 = 143) with
                                    | true =>
                                      refine q_RP_cT ?_
                                      refine q_RP_st1 (g2 := (344, [(0, .ref 64), (1, .int a1), (2, .int a2)], [], (q_kM s c n))) rfl (by rw [of_decide_eq_true h1362]; rfl) ?_
                                      refine q_RP_seg (g2 := (431, [(0, .ref 64), (1, .int a1), (2, .int a2)], [.int (a2 + 1), .int 4, .ref 78], (q_kM (q_sA s 15 (upd (s.1 15) 5 (vp_nar .boolean 0))) c n))) 12 (fun _ _ => rfl) ?_
                                      refine q_RP_call (v := (some (.int (dz_M213 (q_sA s 15 (upd (s.1 15) 5 (vp_nar .boolean 0))) (a2 + 1))))) (h2 := (q_kM (q_sA s 15 (upd (s.1 15) 5 (vp_nar .boolean 0))) c n)) rfl rfl ((dzt_M213 (q_sA s 15 (upd (s.1 15) 5 (vp_nar .boolean 0))) c n (a2 + 1)).le (Nat.le_of_ble_eq_true rfl)) ?_
                                      generalize dz_M213 (q_sA s 15 (upd (s.1 15) 5 (vp_nar .boolean 0))) (a2 + 1) = r1184
                                      refine q_RP_let ?_
                                      show q_RP _ _ _ (434, [(0, .ref 64), (1, .int a1), (2, .int a2)], [.int r1184, .int 4, .ref 78], (q_kM (q_sA s 15 (upd (s.1 15) 5 (vp_nar .boolean 0))) c n)) _ _
                                      refine q_RP_seg (g2 := (435, [(0, .ref 64), (1, .int a1), (2, .int a2)], [], (q_kM (q_sA (q_sA s 15 (upd (s.1 15) 5 (vp_nar .boolean 0))) 14 (upd (s.1 14) 4 r1184)) c n))) 1 (fun _ _ => rfl) ?_
                                      exact q_RP_ret rfl rfl rfl
                                    | false =>
                                      refine q_RP_cF ?_
                                      cases h1363 : decide (a1 = 144) with
                                      | true =>
                                        refine q_RP_cT ?_
                                        refine q_RP_st1 (g2 := (354, [(0, .ref 64), (1, .int a1), (2, .int a2)], [], (q_kM s c n))) rfl (by rw [of_decide_eq_true h1363]; rfl) ?_
                                        refine q_RP_seg (g2 := (431, [(0, .ref 64), (1, .int a1), (2, .int a2)], [.int (a2 + 1), .int 4, .ref 78], (q_kM (q_sA s 15 (upd (s.1 15) 2 (vp_nar .boolean 1))) c n))) 12 (fun _ _ => rfl) ?_
                                        refine q_RP_call (v := (some (.int (dz_M213 (q_sA s 15 (upd (s.1 15) 2 (vp_nar .boolean 1))) (a2 + 1))))) (h2 := (q_kM (q_sA s 15 (upd (s.1 15) 2 (vp_nar .boolean 1))) c n)) rfl rfl ((dzt_M213 (q_sA s 15 (upd (s.1 15) 2 (vp_nar .boolean 1))) c n (a2 + 1)).le (Nat.le_of_ble_eq_true rfl)) ?_
                                        generalize dz_M213 (q_sA s 15 (upd (s.1 15) 2 (vp_nar .boolean 1))) (a2 + 1) = r1185
                                        refine q_RP_let ?_
                                        show q_RP _ _ _ (434, [(0, .ref 64), (1, .int a1), (2, .int a2)], [.int r1185, .int 4, .ref 78], (q_kM (q_sA s 15 (upd (s.1 15) 2 (vp_nar .boolean 1))) c n)) _ _
                                        refine q_RP_seg (g2 := (435, [(0, .ref 64), (1, .int a1), (2, .int a2)], [], (q_kM (q_sA (q_sA s 15 (upd (s.1 15) 2 (vp_nar .boolean 1))) 14 (upd (s.1 14) 4 r1185)) c n))) 1 (fun _ _ => rfl) ?_
                                        exact q_RP_ret rfl rfl rfl
                                      | false =>
                                        refine q_RP_cF ?_
                                        cases h1364 : decide (a1 = 145) with
                                        | true =>
                                          refine q_RP_cT ?_
                                          refine q_RP_st1 (g2 := (364, [(0, .ref 64), (1, .int a1), (2, .int a2)], [], (q_kM s c n))) rfl (by rw [of_decide_eq_true h1364]; rfl) ?_
                                          refine q_RP_seg (g2 := (431, [(0, .ref 64), (1, .int a1), (2, .int a2)], [.int (a2 + 1), .int 4, .ref 78], (q_kM (q_sA s 15 (upd (s.1 15) 2 (vp_nar .boolean 0))) c n))) 12 (fun _ _ => rfl) ?_
                                          refine q_RP_call (v := (some (.int (dz_M213 (q_sA s 15 (upd (s.1 15) 2 (vp_nar .boolean 0))) (a2 + 1))))) (h2 := (q_kM (q_sA s 15 (upd (s.1 15) 2 (vp_nar .boolean 0))) c n)) rfl rfl ((dzt_M213 (q_sA s 15 (upd (s.1 15) 2 (vp_nar .boolean 0))) c n (a2 + 1)).le (Nat.le_of_ble_eq_true rfl)) ?_
                                          generalize dz_M213 (q_sA s 15 (upd (s.1 15) 2 (vp_nar .boolean 0))) (a2 + 1) = r1186
                                          refine q_RP_let ?_
                                          show q_RP _ _ _ (434, [(0, .ref 64), (1, .int a1), (2, .int a2)], [.int r1186, .int 4, .ref 78], (q_kM (q_sA s 15 (upd (s.1 15) 2 (vp_nar .boolean 0))) c n)) _ _
                                          refine q_RP_seg (g2 := (435, [(0, .ref 64), (1, .int a1), (2, .int a2)], [], (q_kM (q_sA (q_sA s 15 (upd (s.1 15) 2 (vp_nar .boolean 0))) 14 (upd (s.1 14) 4 r1186)) c n))) 1 (fun _ _ => rfl) ?_
                                          exact q_RP_ret rfl rfl rfl
                                        | false =>
                                          refine q_RP_cF ?_
                                          cases h1365 : decide (a1 = 146) with
                                          | true =>
                                            refine q_RP_cT ?_
                                            refine q_RP_st1 (g2 := (374, [(0, .ref 64), (1, .int a1), (2, .int a2)], [], (q_kM s c n))) rfl (by rw [of_decide_eq_true h1365]; rfl) ?_
                                            refine q_RP_seg (g2 := (431, [(0, .ref 64), (1, .int a1), (2, .int a2)], [.int (a2 + 1), .int 4, .ref 78], (q_kM (q_sA s 15 (upd (s.1 15) 3 (vp_nar .boolean 1))) c n))) 12 (fun _ _ => rfl) ?_
                                            refine q_RP_call (v := (some (.int (dz_M213 (q_sA s 15 (upd (s.1 15) 3 (vp_nar .boolean 1))) (a2 + 1))))) (h2 := (q_kM (q_sA s 15 (upd (s.1 15) 3 (vp_nar .boolean 1))) c n)) rfl rfl ((dzt_M213 (q_sA s 15 (upd (s.1 15) 3 (vp_nar .boolean 1))) c n (a2 + 1)).le (Nat.le_of_ble_eq_true rfl)) ?_
                                            generalize dz_M213 (q_sA s 15 (upd (s.1 15) 3 (vp_nar .boolean 1))) (a2 + 1) = r1187
                                            refine q_RP_let ?_
                                            show q_RP _ _ _ (434, [(0, .ref 64), (1, .int a1), (2, .int a2)], [.int r1187, .int 4, .ref 78], (q_kM (q_sA s 15 (upd (s.1 15) 3 (vp_nar .boolean 1))) c n)) _ _
                                            refine q_RP_seg (g2 := (435, [(0, .ref 64), (1, .int a1), (2, .int a2)], [], (q_kM (q_sA (q_sA s 15 (upd (s.1 15) 3 (vp_nar .boolean 1))) 14 (upd (s.1 14) 4 r1187)) c n))) 1 (fun _ _ => rfl) ?_
                                            exact q_RP_ret rfl rfl rfl
                                          | false =>
                                            refine q_RP_cF ?_
                                            cases h1366 : decide (a1 = 147) with
                                            | true =>
                                              refine q_RP_cT ?_
                                              refine q_RP_st1 (g2 := (384, [(0, .ref 64), (1, .int a1), (2, .int a2)], [], (q_kM s c n))) rfl (by rw [of_decide_eq_true h1366]; rfl) ?_
                                              refine q_RP_seg (g2 := (431, [(0, .ref 64), (1, .int a1), (2, .int a2)], [.int (a2 + 1), .int 4, .ref 78], (q_kM (q_sA s 15 (upd (s.1 15) 3 (vp_nar .boolean 0))) c n))) 12 (fun _ _ => rfl) ?_
                                              refine q_RP_call (v := (some (.int (dz_M213 (q_sA s 15 (upd (s.1 15) 3 (vp_nar .boolean 0))) (a2 + 1))))) (h2 := (q_kM (q_sA s 15 (upd (s.1 15) 3 (vp_nar .boolean 0))) c n)) rfl rfl ((dzt_M213 (q_sA s 15 (upd (s.1 15) 3 (vp_nar .boolean 0))) c n (a2 + 1)).le (Nat.le_of_ble_eq_true rfl)) ?_
                                              generalize dz_M213 (q_sA s 15 (upd (s.1 15) 3 (vp_nar .boolean 0))) (a2 + 1) = r1188
                                              refine q_RP_let ?_
                                              show q_RP _ _ _ (434, [(0, .ref 64), (1, .int a1), (2, .int a2)], [.int r1188, .int 4, .ref 78], (q_kM (q_sA s 15 (upd (s.1 15) 3 (vp_nar .boolean 0))) c n)) _ _
                                              refine q_RP_seg (g2 := (435, [(0, .ref 64), (1, .int a1), (2, .int a2)], [], (q_kM (q_sA (q_sA s 15 (upd (s.1 15) 3 (vp_nar .boolean 0))) 14 (upd (s.1 14) 4 r1188)) c n))) 1 (fun _ _ => rfl) ?_
                                              exact q_RP_ret rfl rfl rfl
                                            | false =>
                                              refine q_RP_cF ?_
                                              cases h1367 : decide (a1 = 148) with
                                              | true =>
                                                refine q_RP_cT ?_
                                                refine q_RP_st1 (g2 := (394, [(0, .ref 64), (1, .int a1), (2, .int a2)], [], (q_kM s c n))) rfl (by rw [of_decide_eq_true h1367]; rfl) ?_
                                                refine q_RP_seg (g2 := (431, [(0, .ref 64), (1, .int a1), (2, .int a2)], [.int (a2 + 1), .int 4, .ref 78], (q_kM (q_sA s 15 (upd (s.1 15) 1 (vp_nar .boolean 0))) c n))) 12 (fun _ _ => rfl) ?_
                                                refine q_RP_call (v := (some (.int (dz_M213 (q_sA s 15 (upd (s.1 15) 1 (vp_nar .boolean 0))) (a2 + 1))))) (h2 := (q_kM (q_sA s 15 (upd (s.1 15) 1 (vp_nar .boolean 0))) c n)) rfl rfl ((dzt_M213 (q_sA s 15 (upd (s.1 15) 1 (vp_nar .boolean 0))) c n (a2 + 1)).le (Nat.le_of_ble_eq_true rfl)) ?_
                                                generalize dz_M213 (q_sA s 15 (upd (s.1 15) 1 (vp_nar .boolean 0))) (a2 + 1) = r1189
                                                refine q_RP_let ?_
                                                show q_RP _ _ _ (434, [(0, .ref 64), (1, .int a1), (2, .int a2)], [.int r1189, .int 4, .ref 78], (q_kM (q_sA s 15 (upd (s.1 15) 1 (vp_nar .boolean 0))) c n)) _ _
                                                refine q_RP_seg (g2 := (435, [(0, .ref 64), (1, .int a1), (2, .int a2)], [], (q_kM (q_sA (q_sA s 15 (upd (s.1 15) 1 (vp_nar .boolean 0))) 14 (upd (s.1 14) 4 r1189)) c n))) 1 (fun _ _ => rfl) ?_
                                                exact q_RP_ret rfl rfl rfl
                                              | false =>
                                                refine q_RP_cF ?_
                                                cases h1368 : decide (a1 = 149) with
                                                | true =>
                                                  refine q_RP_cT ?_
                                                  refine q_RP_st1 (g2 := (404, [(0, .ref 64), (1, .int a1), (2, .int a2)], [], (q_kM s c n))) rfl (by rw [of_decide_eq_true h1368]; rfl) ?_
                                                  refine q_RP_seg (g2 := (431, [(0, .ref 64), (1, .int a1), (2, .int a2)], [.int (a2 + 1), .int 4, .ref 78], (q_kM s c n))) 7 (fun _ _ => rfl) ?_
                                                  refine q_RP_call (v := (some (.int (dz_M213 s (a2 + 1))))) (h2 := (q_kM s c n)) rfl rfl ((dzt_M213 s c n (a2 + 1)).le (Nat.le_of_ble_eq_true rfl)) ?_
                                                  generalize dz_M213 s (a2 + 1) = r1190
                                                  refine q_RP_let ?_
                                                  show q_RP _ _ _ (434, [(0, .ref 64), (1, .int a1), (2, .int a2)], [.int r1190, .int 4, .ref 78], (q_kM s c n)) _ _
                                                  refine q_RP_seg (g2 := (435, [(0, .ref 64), (1, .int a1), (2, .int a2)], [], (q_kM (q_sA s 14 (upd (s.1 14) 4 r1190)) c n))) 1 (fun _ _ => rfl) ?_
                                                  exact q_RP_ret rfl rfl rfl
                                                | false =>
                                                  refine q_RP_cF ?_
                                                  cases h1369 : decide (a1 = 150) with
                                                  | true =>
                                                    refine q_RP_cT ?_
                                                    refine q_RP_st1 (g2 := (407, [(0, .ref 64), (1, .int a1), (2, .int a2)], [], (q_kM s c n))) rfl (by rw [of_decide_eq_true h1369]; rfl) ?_
                                                    refine q_RP_seg (g2 := (409, [(0, .ref 64), (1, .int a1), (2, .int a2)], [.int a1, .ref 64], (q_kM s c n))) 2 (fun _ _ => rfl) ?_
                                                    refine q_RP_bd fun r1211 er1211 => ?_
                                                    refine q_RP_call (v := none) (h2 := (q_kM r1211 c n)) rfl rfl ((dzt_M272_64 s c n a1 r1211 er1211).le (Nat.le_of_ble_eq_true rfl)) ?_
                                                    show q_RP _ _ _ (412, [(0, .ref 64), (1, .int a1), (2, .int a2)], [], (q_kM r1211 c n)) _ _
                                                    refine q_RP_seg (g2 := (431, [(0, .ref 64), (1, .int a1), (2, .int a2)], [.int (a2 + 1), .int 4, .ref 78], (q_kM r1211 c n))) 7 (fun _ _ => rfl) ?_
                                                    refine q_RP_call (v := (some (.int (dz_M213 r1211 (a2 + 1))))) (h2 := (q_kM r1211 c n)) rfl rfl ((dzt_M213 r1211 c n (a2 + 1)).le (Nat.le_of_ble_eq_true rfl)) ?_
                                                    generalize dz_M213 r1211 (a2 + 1) = r1212
                                                    refine q_RP_let ?_
                                                    show q_RP _ _ _ (434, [(0, .ref 64), (1, .int a1), (2, .int a2)], [.int r1212, .int 4, .ref 78], (q_kM r1211 c n)) _ _
                                                    refine q_RP_seg (g2 := (435, [(0, .ref 64), (1, .int a1), (2, .int a2)], [], (q_kM (q_sA r1211 14 (upd (r1211.1 14) 4 r1212)) c n))) 1 (fun _ _ => rfl) ?_
                                                    exact q_RP_ret rfl rfl rfl
                                                  | false =>
                                                    refine q_RP_cF ?_
                                                    cases h1385 : decide (a1 = 151) with
                                                    | true =>
                                                      refine q_RP_cT ?_
                                                      refine q_RP_st1 (g2 := (407, [(0, .ref 64), (1, .int a1), (2, .int a2)], [], (q_kM s c n))) rfl (by rw [of_decide_eq_true h1385]; rfl) ?_
                                                      refine q_RP_seg (g2 := (409, [(0, .ref 64), (1, .int a1), (2, .int a2)], [.int a1, .ref 64], (q_kM s c n))) 2 (fun _ _ => rfl) ?_
                                                      refine q_RP_bd fun r1213 er1213 => ?_
                                                      refine q_RP_call (v := none) (h2 := (q_kM r1213 c n)) rfl rfl ((dzt_M272_64 s c n a1 r1213 er1213).le (Nat.le_of_ble_eq_true rfl)) ?_
                                                      show q_RP _ _ _ (412, [(0, .ref 64), (1, .int a1), (2, .int a2)], [], (q_kM r1213 c n)) _ _
                                                      refine q_RP_seg (g2 := (431, [(0, .ref 64), (1, .int a1), (2, .int a2)], [.int (a2 + 1), .int 4, .ref 78], (q_kM r1213 c n))) 7 (fun _ _ => rfl) ?_
                                                      refine q_RP_call (v := (some (.int (dz_M213 r1213 (a2 + 1))))) (h2 := (q_kM r1213 c n)) rfl rfl ((dzt_M213 r1213 c n (a2 + 1)).le (Nat.le_of_ble_eq_true rfl)) ?_
                                                      generalize dz_M213 r1213 (a2 + 1) = r1214
                                                      refine q_RP_let ?_
                                                      show q_RP _ _ _ (434, [(0, .ref 64), (1, .int a1), (2, .int a2)], [.int r1214, .int 4, .ref 78], (q_kM r1213 c n)) _ _
                                                      refine q_RP_seg (g2 := (435, [(0, .ref 64), (1, .int a1), (2, .int a2)], [], (q_kM (q_sA r1213 14 (upd (r1213.1 14) 4 r1214)) c n))) 1 (fun _ _ => rfl) ?_
                                                      exact q_RP_ret rfl rfl rfl
                                                    | false =>
                                                      refine q_RP_cF ?_
                                                      cases h1386 : decide (a1 = 152) with
                                                      | true =>
                                                        refine q_RP_cT ?_
                                                        refine q_RP_st1 (g2 := (407, [(0, .ref 64), (1, .int a1), (2, .int a2)], [], (q_kM s c n))) rfl (by rw [of_decide_eq_true h1386]; rfl) ?_
                                                        refine q_RP_seg (g2 := (409, [(0, .ref 64), (1, .int a1), (2, .int a2)], [.int a1, .ref 64], (q_kM s c n))) 2 (fun _ _ => rfl) ?_
                                                        refine q_RP_bd fun r1215 er1215 => ?_
                                                        refine q_RP_call (v := none) (h2 := (q_kM r1215 c n)) rfl rfl ((dzt_M272_64 s c n a1 r1215 er1215).le (Nat.le_of_ble_eq_true rfl)) ?_
                                                        show q_RP _ _ _ (412, [(0, .ref 64), (1, .int a1), (2, .int a2)], [], (q_kM r1215 c n)) _ _
                                                        refine q_RP_seg (g2 := (431, [(0, .ref 64), (1, .int a1), (2, .int a2)], [.int (a2 + 1), .int 4, .ref 78], (q_kM r1215 c n))) 7 (fun _ _ => rfl) ?_
                                                        refine q_RP_call (v := (some (.int (dz_M213 r1215 (a2 + 1))))) (h2 := (q_kM r1215 c n)) rfl rfl ((dzt_M213 r1215 c n (a2 + 1)).le (Nat.le_of_ble_eq_true rfl)) ?_
                                                        generalize dz_M213 r1215 (a2 + 1) = r1216
                                                        refine q_RP_let ?_
                                                        show q_RP _ _ _ (434, [(0, .ref 64), (1, .int a1), (2, .int a2)], [.int r1216, .int 4, .ref 78], (q_kM r1215 c n)) _ _
                                                        refine q_RP_seg (g2 := (435, [(0, .ref 64), (1, .int a1), (2, .int a2)], [], (q_kM (q_sA r1215 14 (upd (r1215.1 14) 4 r1216)) c n))) 1 (fun _ _ => rfl) ?_
                                                        exact q_RP_ret rfl rfl rfl
                                                      | false =>
                                                        refine q_RP_cF ?_
                                                        have h1387 : a1 = 153 := Int32.toInt_inj.mp (by have e0 := q_neI h1347 (n := 128); have e1 := q_neI h1348 (n := 129); have e2 := q_neI h1349 (n := 130); have e3 := q_neI h1350 (n := 131); have e4 := q_neI h1351 (n := 132); have e5 := q_neI h1352 (n := 133); have e6 := q_neI h1353 (n := 134); have e7 := q_neI h1354 (n := 135); have e8 := q_neI h1355 (n := 136); have e9 := q_neI h1356 (n := 137); have e10 := q_neI h1357 (n := 138); have e11 := q_neI h1358 (n := 139); have e12 := q_neI h1359 (n := 140); have e13 := q_neI h1360 (n := 141); have e14 := q_neI h1361 (n := 142); have e15 := q_neI h1362 (n := 143); have e16 := q_neI h1363 (n := 144); have e17 := q_neI h1364 (n := 145); have e18 := q_neI h1365 (n := 146); have e19 := q_neI h1366 (n := 147); have e20 := q_neI h1367 (n := 148); have e21 := q_neI h1368 (n := 149); have e22 := q_neI h1369 (n := 150); have e23 := q_neI h1385 (n := 151); have e24 := q_neI h1386 (n := 152); have l1 : 128 ≤ (a1).toInt := q_lo1 h1345; have l2 : (a1).toInt ≤ 153 := q_hi2 h1346; show (a1).toInt = 153; omega)
                                                        refine q_RP_st1 (g2 := (407, [(0, .ref 64), (1, .int a1), (2, .int a2)], [], (q_kM s c n))) rfl (by rw [h1387]; rfl) ?_
                                                        refine q_RP_seg (g2 := (409, [(0, .ref 64), (1, .int a1), (2, .int a2)], [.int a1, .ref 64], (q_kM s c n))) 2 (fun _ _ => rfl) ?_
                                                        refine q_RP_bd fun r1217 er1217 => ?_
                                                        refine q_RP_call (v := none) (h2 := (q_kM r1217 c n)) rfl rfl ((dzt_M272_64 s c n a1 r1217 er1217).le (Nat.le_of_ble_eq_true rfl)) ?_
                                                        show q_RP _ _ _ (412, [(0, .ref 64), (1, .int a1), (2, .int a2)], [], (q_kM r1217 c n)) _ _
                                                        refine q_RP_seg (g2 := (431, [(0, .ref 64), (1, .int a1), (2, .int a2)], [.int (a2 + 1), .int 4, .ref 78], (q_kM r1217 c n))) 7 (fun _ _ => rfl) ?_
                                                        refine q_RP_call (v := (some (.int (dz_M213 r1217 (a2 + 1))))) (h2 := (q_kM r1217 c n)) rfl rfl ((dzt_M213 r1217 c n (a2 + 1)).le (Nat.le_of_ble_eq_true rfl)) ?_
                                                        generalize dz_M213 r1217 (a2 + 1) = r1218
                                                        refine q_RP_let ?_
                                                        show q_RP _ _ _ (434, [(0, .ref 64), (1, .int a1), (2, .int a2)], [.int r1218, .int 4, .ref 78], (q_kM r1217 c n)) _ _
                                                        refine q_RP_seg (g2 := (435, [(0, .ref 64), (1, .int a1), (2, .int a2)], [], (q_kM (q_sA r1217 14 (upd (r1217.1 14) 4 r1218)) c n))) 1 (fun _ _ => rfl) ?_
                                                        exact q_RP_ret rfl rfl rfl
def dz_M246 (s : q_S) (a0 : Int32) : Int32 :=
  q_let (dz_M244 s a0) fun r1220 => cond (decide (r1220 < 0)) (q_let (dz_M202 s a0 157 159) fun r1221 => cond r1221 (3) (q_let (dz_M202 s a0 160 167) fun r1222 => cond r1222 (2) (1))) (q_let (dz_M202 s (a0 - a0 / 8 * 8) 3 5) fun r1223 => cond r1223 (3) (2))
set_option maxHeartbeats 4000000 in
theorem dzt_M246 (s : q_S) (c n : Nat) (a0 : Int32) : q_Ca q_TB0 3 245 [.int a0] (q_kM s c n) ((q_oP (q_kM s c n)) (dz_M246 s a0)) := by
  refine q_CaT_of (φ := (q_oP (q_kM s c n))) (Nat.le_of_ble_eq_true rfl) ?_
  unfold dz_M246
  refine q_RT_seg (g2 := (1, [(0, .int a0)], [.int a0], (q_kM s c n))) 1 (fun _ _ => rfl) ?_
  refine q_RT_call (v := (some (.int (dz_M244 s a0)))) (h2 := (q_kM s c n)) rfl rfl ((dzt_M244 s c n a0).le (Nat.le_of_ble_eq_true rfl)) ?_
  generalize dz_M244 s a0 = r1220
  refine q_RT_let ?_
  show q_RT _ _ _ (4, [(0, .int a0)], [.int r1220], (q_kM s c n)) _ _
  refine q_RT_seg (g2 := (6, [(1, .int r1220), (0, .int a0)], [.int r1220], (q_kM s c n))) 2 (fun _ _ => rfl) ?_
  cases h1388 : decide (r1220 < 0) with
  | true =>
    refine q_RT_cT ?_
    refine q_RT_rsT (g2 := (27, [(1, .int r1220), (0, .int a0)], [], (q_kM s c n))) rfl rfl h1388 ?_
    refine q_RT_seg (g2 := (34, [(1, .int r1220), (0, .int a0)], [.int 159, .int 157, .int a0], (q_kM s c n))) 3 (fun _ _ => rfl) ?_
    refine q_RT_call (v := (some (.int (q_b (dz_M202 s a0 157 159))))) (h2 := (q_kM s c n)) rfl rfl ((dzt_M202 s c n a0 157 159).le (Nat.le_of_ble_eq_true rfl)) ?_
    generalize dz_M202 s a0 157 159 = r1221
    refine q_RT_let ?_
    show q_RT _ _ _ (37, [(1, .int r1220), (0, .int a0)], [.int (q_b r1221)], (q_kM s c n)) _ _
    cases h1389 : r1221 with
    | true =>
      refine q_RT_cT ?_
      show q_RT _ _ _ (37, [(1, .int r1220), (0, .int a0)], [.int 1], (q_kM s c n)) _ _
      refine q_RT_seg (g2 := (41, [(1, .int r1220), (0, .int a0)], [.int 3], (q_kM s c n))) 2 (fun _ _ => rfl) ?_
      exact q_RT_ret rfl rfl rfl
    | false =>
      refine q_RT_cF ?_
      show q_RT _ _ _ (37, [(1, .int r1220), (0, .int a0)], [.int 0], (q_kM s c n)) _ _
      refine q_RT_seg (g2 := (49, [(1, .int r1220), (0, .int a0)], [.int 167, .int 160, .int a0], (q_kM s c n))) 4 (fun _ _ => rfl) ?_
      refine q_RT_call (v := (some (.int (q_b (dz_M202 s a0 160 167))))) (h2 := (q_kM s c n)) rfl rfl ((dzt_M202 s c n a0 160 167).le (Nat.le_of_ble_eq_true rfl)) ?_
      generalize dz_M202 s a0 160 167 = r1222
      refine q_RT_let ?_
      show q_RT _ _ _ (52, [(1, .int r1220), (0, .int a0)], [.int (q_b r1222)], (q_kM s c n)) _ _
      cases h1390 : r1222 with
      | true =>
        refine q_RT_cT ?_
        show q_RT _ _ _ (52, [(1, .int r1220), (0, .int a0)], [.int 1], (q_kM s c n)) _ _
        refine q_RT_seg (g2 := (60, [(1, .int r1220), (0, .int a0)], [.int 2], (q_kM s c n))) 3 (fun _ _ => rfl) ?_
        exact q_RT_ret rfl rfl rfl
      | false =>
        refine q_RT_cF ?_
        show q_RT _ _ _ (52, [(1, .int r1220), (0, .int a0)], [.int 0], (q_kM s c n)) _ _
        refine q_RT_seg (g2 := (60, [(1, .int r1220), (0, .int a0)], [.int 1], (q_kM s c n))) 2 (fun _ _ => rfl) ?_
        exact q_RT_ret rfl rfl rfl
  | false =>
    refine q_RT_cF ?_
    refine q_RT_rsF (g2 := (9, [(1, .int r1220), (0, .int a0)], [], (q_kM s c n))) rfl rfl h1388 ?_
    refine q_RT_seg (g2 := (15, [(1, .int r1220), (0, .int a0)], [.int 5, .int 3, .int (a0 - a0 / 8 * 8)], (q_kM s c n))) 5 (fun _ _ => rfl) ?_
    refine q_RT_call (v := (some (.int (q_b (dz_M202 s (a0 - a0 / 8 * 8) 3 5))))) (h2 := (q_kM s c n)) rfl rfl ((dzt_M202 s c n (a0 - a0 / 8 * 8) 3 5).le (Nat.le_of_ble_eq_true rfl)) ?_
    generalize dz_M202 s (a0 - a0 / 8 * 8) 3 5 = r1223
    refine q_RT_let ?_
    show q_RT _ _ _ (18, [(1, .int r1220), (0, .int a0)], [.int (q_b r1223)], (q_kM s c n)) _ _
    cases h1391 : r1223 with
    | true =>
      refine q_RT_cT ?_
      show q_RT _ _ _ (18, [(1, .int r1220), (0, .int a0)], [.int 1], (q_kM s c n)) _ _
      refine q_RT_seg (g2 := (26, [(1, .int r1220), (0, .int a0)], [.int 3], (q_kM s c n))) 3 (fun _ _ => rfl) ?_
      exact q_RT_ret rfl rfl rfl
    | false =>
      refine q_RT_cF ?_
      show q_RT _ _ _ (18, [(1, .int r1220), (0, .int a0)], [.int 0], (q_kM s c n)) _ _
      refine q_RT_seg (g2 := (26, [(1, .int r1220), (0, .int a0)], [.int 2], (q_kM s c n))) 2 (fun _ _ => rfl) ?_
      exact q_RT_ret rfl rfl rfl
def dz_M263_64 (s : q_S) (a1 : Int32) (a2 : Int32) : Option (q_S) :=
  cond (q_in a1 24) (cond (decide ((s.1 14) (a1.toNatClampNeg) < a2)) (q_let (dz_M261_64 (q_sA s 15 (upd (s.1 15) 5 (vp_nar .boolean 0))) ((((s.1 14) (a1.toNatClampNeg)) - a2) &&& 255)) fun r1235 => some r1235.1) (q_let (dz_M261_64 (q_sA s 15 (upd (s.1 15) 5 (vp_nar .boolean 1))) ((((s.1 14) (a1.toNatClampNeg)) - a2) &&& 255)) fun r1236 => some r1236.1)) none
set_option maxHeartbeats 4000000 in
theorem dzt_M263_64 (s : q_S) (c n : Nat) (a1 : Int32) (a2 : Int32) (x : q_S) (h : dz_M263_64 s a1 a2 = some x) : q_Ca q_TB0 2 262 [.ref 64, .int a1, .int a2] (q_kM s c n) ((q_oSM c n) x) := by
  refine q_CaP_of (φ := (q_oSM c n)) (Nat.le_of_ble_eq_true rfl) ?_ h
  clear h
  unfold dz_M263_64
  refine q_RP_seg (g2 := (10, [(0, .ref 64), (1, .int a1), (2, .int a2)], [.int a1, .ref 78, .int 5, .ref 79], (q_kM s c n))) 6 (fun _ _ => rfl) ?_
  refine q_RP_as fun i1406 => ?_
  refine q_RP_rsT (g2 := (11, [(0, .ref 64), (1, .int a1), (2, .int a2)], [.int ((s.1 14) (a1.toNatClampNeg)), .int 5, .ref 79], (q_kM s c n))) rfl rfl i1406 ?_
  refine q_RP_seg (g2 := (12, [(0, .ref 64), (1, .int a1), (2, .int a2)], [.int a2, .int ((s.1 14) (a1.toNatClampNeg)), .int 5, .ref 79], (q_kM s c n))) 1 (fun _ _ => rfl) ?_
  cases h1407 : decide ((s.1 14) (a1.toNatClampNeg) < a2) with
  | true =>
    refine q_RP_cT ?_
    refine q_RP_rsT (g2 := (19, [(0, .ref 64), (1, .int a1), (2, .int a2)], [.int 5, .ref 79], (q_kM s c n))) rfl rfl h1407 ?_
    refine q_RP_seg (g2 := (27, [(0, .ref 64), (1, .int a1), (2, .int a2)], [.int a1, .ref 78, .ref 64], (q_kM (q_sA s 15 (upd (s.1 15) 5 (vp_nar .boolean 0))) c n))) 6 (fun _ _ => rfl) ?_
    refine q_RP_rsT (g2 := (28, [(0, .ref 64), (1, .int a1), (2, .int a2)], [.int ((s.1 14) (a1.toNatClampNeg)), .ref 64], (q_kM (q_sA s 15 (upd (s.1 15) 5 (vp_nar .boolean 0))) c n))) rfl rfl i1406 ?_
    refine q_RP_seg (g2 := (34, [(0, .ref 64), (1, .int a1), (2, .int a2)], [.int ((((s.1 14) (a1.toNatClampNeg)) - a2) &&& 255), .ref 64], (q_kM (q_sA s 15 (upd (s.1 15) 5 (vp_nar .boolean 0))) c n))) 4 (fun _ _ => rfl) ?_
    refine q_RP_call (v := (some (.int (dz_M261_64 (q_sA s 15 (upd (s.1 15) 5 (vp_nar .boolean 0))) ((((s.1 14) (a1.toNatClampNeg)) - a2) &&& 255)).2))) (h2 := (q_kM (dz_M261_64 (q_sA s 15 (upd (s.1 15) 5 (vp_nar .boolean 0))) ((((s.1 14) (a1.toNatClampNeg)) - a2) &&& 255)).1 c n)) rfl rfl ((dzt_M261_64 (q_sA s 15 (upd (s.1 15) 5 (vp_nar .boolean 0))) c n ((((s.1 14) (a1.toNatClampNeg)) - a2) &&& 255)).le (Nat.le_of_ble_eq_true rfl)) ?_
    generalize dz_M261_64 (q_sA s 15 (upd (s.1 15) 5 (vp_nar .boolean 0))) ((((s.1 14) (a1.toNatClampNeg)) - a2) &&& 255) = r1235
    refine q_RP_let ?_
    show q_RP _ _ _ (37, [(0, .ref 64), (1, .int a1), (2, .int a2)], [.int r1235.2], (q_kM r1235.1 c n)) _ _
    refine q_RP_seg (g2 := (38, [(0, .ref 64), (1, .int a1), (2, .int a2)], [], (q_kM r1235.1 c n))) 1 (fun _ _ => rfl) ?_
    exact q_RP_ret rfl rfl rfl
  | false =>
    refine q_RP_cF ?_
    refine q_RP_rsF (g2 := (15, [(0, .ref 64), (1, .int a1), (2, .int a2)], [.int 5, .ref 79], (q_kM s c n))) rfl rfl h1407 ?_
    refine q_RP_seg (g2 := (27, [(0, .ref 64), (1, .int a1), (2, .int a2)], [.int a1, .ref 78, .ref 64], (q_kM (q_sA s 15 (upd (s.1 15) 5 (vp_nar .boolean 1))) c n))) 7 (fun _ _ => rfl) ?_
    refine q_RP_rsT (g2 := (28, [(0, .ref 64), (1, .int a1), (2, .int a2)], [.int ((s.1 14) (a1.toNatClampNeg)), .ref 64], (q_kM (q_sA s 15 (upd (s.1 15) 5 (vp_nar .boolean 1))) c n))) rfl rfl i1406 ?_
    refine q_RP_seg (g2 := (34, [(0, .ref 64), (1, .int a1), (2, .int a2)], [.int ((((s.1 14) (a1.toNatClampNeg)) - a2) &&& 255), .ref 64], (q_kM (q_sA s 15 (upd (s.1 15) 5 (vp_nar .boolean 1))) c n))) 4 (fun _ _ => rfl) ?_
    refine q_RP_call (v := (some (.int (dz_M261_64 (q_sA s 15 (upd (s.1 15) 5 (vp_nar .boolean 1))) ((((s.1 14) (a1.toNatClampNeg)) - a2) &&& 255)).2))) (h2 := (q_kM (dz_M261_64 (q_sA s 15 (upd (s.1 15) 5 (vp_nar .boolean 1))) ((((s.1 14) (a1.toNatClampNeg)) - a2) &&& 255)).1 c n)) rfl rfl ((dzt_M261_64 (q_sA s 15 (upd (s.1 15) 5 (vp_nar .boolean 1))) c n ((((s.1 14) (a1.toNatClampNeg)) - a2) &&& 255)).le (Nat.le_of_ble_eq_true rfl)) ?_
    generalize dz_M261_64 (q_sA s 15 (upd (s.1 15) 5 (vp_nar .boolean 1))) ((((s.1 14) (a1.toNatClampNeg)) - a2) &&& 255) = r1236
    refine q_RP_let ?_
    show q_RP _ _ _ (37, [(0, .ref 64), (1, .int a1), (2, .int a2)], [.int r1236.2], (q_kM r1236.1 c n)) _ _
    refine q_RP_seg (g2 := (38, [(0, .ref 64), (1, .int a1), (2, .int a2)], [], (q_kM r1236.1 c n))) 1 (fun _ _ => rfl) ?_
    exact q_RP_ret rfl rfl rfl
def dz_M264_64 (s : q_S) (a1 : Int32) : Option (q_S) :=
  (dz_M257_64 s 5 1).bind fun r1241 => cond (decide (((((s.1 14) 0) ^^^ ((((s.1 14) 0) + a1) + r1241)) &&& (a1 ^^^ ((((s.1 14) 0) + a1) + r1241))) &&& 128 = 0)) (cond (decide (255 < (((s.1 14) 0) + a1) + r1241)) (q_let ((q_sA s 15 (upd (s.1 15) 1 (vp_nar .boolean 0)))) fun r1242 => some (q_sA (q_sA r1242 15 (upd (r1242.1 15) 5 (vp_nar .boolean 1))) 14 (upd (r1242.1 14) 0 (((((s.1 14) 0) + a1) + r1241) - ((((s.1 14) 0) + a1) + r1241) / 256 * 256)))) (q_let ((q_sA s 15 (upd (s.1 15) 1 (vp_nar .boolean 0)))) fun r1243 => some (q_sA (q_sA r1243 15 (upd (r1243.1 15) 5 (vp_nar .boolean 0))) 14 (upd (r1243.1 14) 0 (((((s.1 14) 0) + a1) + r1241) - ((((s.1 14) 0) + a1) + r1241) / 256 * 256))))) (cond (decide (255 < (((s.1 14) 0) + a1) + r1241)) (q_let ((q_sA s 15 (upd (s.1 15) 1 (vp_nar .boolean 1)))) fun r1244 => some (q_sA (q_sA r1244 15 (upd (r1244.1 15) 5 (vp_nar .boolean 1))) 14 (upd (r1244.1 14) 0 (((((s.1 14) 0) + a1) + r1241) - ((((s.1 14) 0) + a1) + r1241) / 256 * 256)))) (q_let ((q_sA s 15 (upd (s.1 15) 1 (vp_nar .boolean 1)))) fun r1245 => some (q_sA (q_sA r1245 15 (upd (r1245.1 15) 5 (vp_nar .boolean 0))) 14 (upd (r1245.1 14) 0 (((((s.1 14) 0) + a1) + r1241) - ((((s.1 14) 0) + a1) + r1241) / 256 * 256)))))
set_option maxHeartbeats 4000000 in
theorem dzt_M264_64 (s : q_S) (c n : Nat) (a1 : Int32) (x : q_S) (h : dz_M264_64 s a1 = some x) : q_Ca q_TB0 2 263 [.ref 64, .int a1] (q_kM s c n) ((q_oSM c n) x) := by
  refine q_CaP_of (φ := (q_oSM c n)) (Nat.le_of_ble_eq_true rfl) ?_ h
  clear h
  unfold dz_M264_64
  refine q_RP_seg (g2 := (6, [(0, .ref 64), (1, .int a1)], [.int ((s.1 14) 0)], (q_kM s c n))) 4 (fun _ _ => rfl) ?_
  refine q_RP_seg (g2 := (11, [(0, .ref 64), (1, .int a1)], [.int 1, .int 5, .ref 64, .int (((s.1 14) 0) + a1)], (q_kM s c n))) 5 (fun _ _ => rfl) ?_
  refine q_RP_bd fun r1241 er1241 => ?_
  refine q_RP_call (v := (some (.int r1241))) (h2 := (q_kM s c n)) rfl rfl ((dzt_M257_64 s c n 5 1 r1241 er1241).le (Nat.le_of_ble_eq_true rfl)) ?_
  show q_RP _ _ _ (14, [(0, .ref 64), (1, .int a1)], [.int r1241, .int (((s.1 14) 0) + a1)], (q_kM s c n)) _ _
  refine q_RP_seg (g2 := (27, [(2, .int ((((s.1 14) 0) + a1) + r1241)), (0, .ref 64), (1, .int a1)], [.int ((s.1 14) 0), .int 1, .ref 79], (q_kM s c n))) 9 (fun _ _ => rfl) ?_
  refine q_RP_seg (g2 := (37, [(2, .int ((((s.1 14) 0) + a1) + r1241)), (0, .ref 64), (1, .int a1)], [.int (((((s.1 14) 0) ^^^ ((((s.1 14) 0) + a1) + r1241)) &&& (a1 ^^^ ((((s.1 14) 0) + a1) + r1241))) &&& 128), .int 1, .ref 79], (q_kM s c n))) 8 (fun _ _ => rfl) ?_
  cases h1409 : decide (((((s.1 14) 0) ^^^ ((((s.1 14) 0) + a1) + r1241)) &&& (a1 ^^^ ((((s.1 14) 0) + a1) + r1241))) &&& 128 = 0) with
  | true =>
    refine q_RP_cT ?_
    refine q_RP_rsT (g2 := (44, [(2, .int ((((s.1 14) 0) + a1) + r1241)), (0, .ref 64), (1, .int a1)], [.int 1, .ref 79], (q_kM s c n))) rfl rfl h1409 ?_
    refine q_RP_seg (g2 := (55, [(2, .int ((((s.1 14) 0) + a1) + r1241)), (0, .ref 64), (1, .int a1)], [.int 255, .int ((((s.1 14) 0) + a1) + r1241), .int 5, .ref 79], (q_kM (q_sA s 15 (upd (s.1 15) 1 (vp_nar .boolean 0))) c n))) 7 (fun _ _ => rfl) ?_
    cases h1410 : decide (255 < (((s.1 14) 0) + a1) + r1241) with
    | true =>
      refine q_RP_cT ?_
      refine q_RP_rsF (g2 := (58, [(2, .int ((((s.1 14) 0) + a1) + r1241)), (0, .ref 64), (1, .int a1)], [.int 5, .ref 79], (q_kM (q_sA s 15 (upd (s.1 15) 1 (vp_nar .boolean 0))) c n))) rfl rfl (q_d_geT h1410) ?_
      refine q_RP_seg (g2 := (63, [(2, .int ((((s.1 14) 0) + a1) + r1241)), (0, .ref 64), (1, .int a1)], [.int 1, .int 5, .ref 79], (q_kM (q_sA s 15 (upd (s.1 15) 1 (vp_nar .boolean 0))) c n))) 2 (fun _ _ => rfl) ?_
      generalize (q_sA s 15 (upd (s.1 15) 1 (vp_nar .boolean 0))) = r1242
      refine q_RP_let ?_
      show q_RP _ _ _ (63, [(2, .int ((((s.1 14) 0) + a1) + r1241)), (0, .ref 64), (1, .int a1)], [.int 1, .int 5, .ref 79], (q_kM r1242 c n)) _ _
      refine q_RP_seg (g2 := (75, [(2, .int ((((s.1 14) 0) + a1) + r1241)), (0, .ref 64), (1, .int a1)], [], (q_kM (q_sA (q_sA r1242 15 (upd (r1242.1 15) 5 (vp_nar .boolean 1))) 14 (upd (r1242.1 14) 0 (((((s.1 14) 0) + a1) + r1241) - ((((s.1 14) 0) + a1) + r1241) / 256 * 256))) c n))) 8 (fun _ _ => rfl) ?_
      exact q_RP_ret rfl rfl rfl
    | false =>
      refine q_RP_cF ?_
      refine q_RP_rsT (g2 := (62, [(2, .int ((((s.1 14) 0) + a1) + r1241)), (0, .ref 64), (1, .int a1)], [.int 5, .ref 79], (q_kM (q_sA s 15 (upd (s.1 15) 1 (vp_nar .boolean 0))) c n))) rfl rfl (q_d_geF h1410) ?_
      refine q_RP_seg (g2 := (63, [(2, .int ((((s.1 14) 0) + a1) + r1241)), (0, .ref 64), (1, .int a1)], [.int 0, .int 5, .ref 79], (q_kM (q_sA s 15 (upd (s.1 15) 1 (vp_nar .boolean 0))) c n))) 1 (fun _ _ => rfl) ?_
      generalize (q_sA s 15 (upd (s.1 15) 1 (vp_nar .boolean 0))) = r1243
      refine q_RP_let ?_
      show q_RP _ _ _ (63, [(2, .int ((((s.1 14) 0) + a1) + r1241)), (0, .ref 64), (1, .int a1)], [.int 0, .int 5, .ref 79], (q_kM r1243 c n)) _ _
      refine q_RP_seg (g2 := (75, [(2, .int ((((s.1 14) 0) + a1) + r1241)), (0, .ref 64), (1, .int a1)], [], (q_kM (q_sA (q_sA r1243 15 (upd (r1243.1 15) 5 (vp_nar .boolean 0))) 14 (upd (r1243.1 14) 0 (((((s.1 14) 0) + a1) + r1241) - ((((s.1 14) 0) + a1) + r1241) / 256 * 256))) c n))) 8 (fun _ _ => rfl) ?_
      exact q_RP_ret rfl rfl rfl
  | false =>
    refine q_RP_cF ?_
    refine q_RP_rsF (g2 := (40, [(2, .int ((((s.1 14) 0) + a1) + r1241)), (0, .ref 64), (1, .int a1)], [.int 1, .ref 79], (q_kM s c n))) rfl rfl h1409 ?_
    refine q_RP_seg (g2 := (55, [(2, .int ((((s.1 14) 0) + a1) + r1241)), (0, .ref 64), (1, .int a1)], [.int 255, .int ((((s.1 14) 0) + a1) + r1241), .int 5, .ref 79], (q_kM (q_sA s 15 (upd (s.1 15) 1 (vp_nar .boolean 1))) c n))) 8 (fun _ _ => rfl) ?_
    cases h1411 : decide (255 < (((s.1 14) 0) + a1) + r1241) with
    | true =>
      refine q_RP_cT ?_
      refine q_RP_rsF (g2 := (58, [(2, .int ((((s.1 14) 0) + a1) + r1241)), (0, .ref 64), (1, .int a1)], [.int 5, .ref 79], (q_kM (q_sA s 15 (upd (s.1 15) 1 (vp_nar .boolean 1))) c n))) rfl rfl (q_d_geT h1411) ?_
      refine q_RP_seg (g2 := (63, [(2, .int ((((s.1 14) 0) + a1) + r1241)), (0, .ref 64), (1, .int a1)], [.int 1, .int 5, .ref 79], (q_kM (q_sA s 15 (upd (s.1 15) 1 (vp_nar .boolean 1))) c n))) 2 (fun _ _ => rfl) ?_
      generalize (q_sA s 15 (upd (s.1 15) 1 (vp_nar .boolean 1))) = r1244
      refine q_RP_let ?_
      show q_RP _ _ _ (63, [(2, .int ((((s.1 14) 0) + a1) + r1241)), (0, .ref 64), (1, .int a1)], [.int 1, .int 5, .ref 79], (q_kM r1244 c n)) _ _
      refine q_RP_seg (g2 := (75, [(2, .int ((((s.1 14) 0) + a1) + r1241)), (0, .ref 64), (1, .int a1)], [], (q_kM (q_sA (q_sA r1244 15 (upd (r1244.1 15) 5 (vp_nar .boolean 1))) 14 (upd (r1244.1 14) 0 (((((s.1 14) 0) + a1) + r1241) - ((((s.1 14) 0) + a1) + r1241) / 256 * 256))) c n))) 8 (fun _ _ => rfl) ?_
      exact q_RP_ret rfl rfl rfl
    | false =>
      refine q_RP_cF ?_
      refine q_RP_rsT (g2 := (62, [(2, .int ((((s.1 14) 0) + a1) + r1241)), (0, .ref 64), (1, .int a1)], [.int 5, .ref 79], (q_kM (q_sA s 15 (upd (s.1 15) 1 (vp_nar .boolean 1))) c n))) rfl rfl (q_d_geF h1411) ?_
      refine q_RP_seg (g2 := (63, [(2, .int ((((s.1 14) 0) + a1) + r1241)), (0, .ref 64), (1, .int a1)], [.int 0, .int 5, .ref 79], (q_kM (q_sA s 15 (upd (s.1 15) 1 (vp_nar .boolean 1))) c n))) 1 (fun _ _ => rfl) ?_
      generalize (q_sA s 15 (upd (s.1 15) 1 (vp_nar .boolean 1))) = r1245
      refine q_RP_let ?_
      show q_RP _ _ _ (63, [(2, .int ((((s.1 14) 0) + a1) + r1241)), (0, .ref 64), (1, .int a1)], [.int 0, .int 5, .ref 79], (q_kM r1245 c n)) _ _
      refine q_RP_seg (g2 := (75, [(2, .int ((((s.1 14) 0) + a1) + r1241)), (0, .ref 64), (1, .int a1)], [], (q_kM (q_sA (q_sA r1245 15 (upd (r1245.1 15) 5 (vp_nar .boolean 0))) 14 (upd (r1245.1 14) 0 (((((s.1 14) 0) + a1) + r1241) - ((((s.1 14) 0) + a1) + r1241) / 256 * 256))) c n))) 8 (fun _ _ => rfl) ?_
      exact q_RP_ret rfl rfl rfl
def dz_M266_64 (s : q_S) (a1 : Int32) (a2 : Int32) (a3 : Int32) : q_S :=
  cond (decide ((((a1 - a1 / 16 * 16) - (a2 - a2 / 16 * 16)) - 1) + a3 < 0)) (q_let (((((a1 - a1 / 16 * 16) - (a2 - a2 / 16 * 16)) - 1) + a3) + 10) fun x1248 => cond (decide (((a1 / 16) - (a2 / 16)) - 1 < 0)) ((q_sA (q_sA s 15 (upd (s.1 15) 5 (vp_nar .boolean 0))) 14 (upd (s.1 14) 0 (((16 * ((((a1 / 16) - (a2 / 16)) - 1) + 10)) + x1248) &&& 255)))) ((q_sA (q_sA s 15 (upd (s.1 15) 5 (vp_nar .boolean 1))) 14 (upd (s.1 14) 0 (((16 * ((((a1 / 16) - (a2 / 16)) - 1) + 0)) + x1248) &&& 255))))) (cond (decide (((a1 / 16) - (a2 / 16)) - 0 < 0)) ((q_sA (q_sA s 15 (upd (s.1 15) 5 (vp_nar .boolean 0))) 14 (upd (s.1 14) 0 (((16 * ((((a1 / 16) - (a2 / 16)) - 0) + 10)) + (((((a1 - a1 / 16 * 16) - (a2 - a2 / 16 * 16)) - 1) + a3) + 0)) &&& 255)))) ((q_sA (q_sA s 15 (upd (s.1 15) 5 (vp_nar .boolean 1))) 14 (upd (s.1 14) 0 (((16 * ((((a1 / 16) - (a2 / 16)) - 0) + 0)) + (((((a1 - a1 / 16 * 16) - (a2 - a2 / 16 * 16)) - 1) + a3) + 0)) &&& 255)))))
set_option maxHeartbeats 4000000 in
theorem dzt_M266_64 (s : q_S) (c n : Nat) (a1 : Int32) (a2 : Int32) (a3 : Int32) : q_Ca q_TB0 1 265 [.ref 64, .int a1, .int a2, .int a3] (q_kM s c n) ((q_oSM c n) (dz_M266_64 s a1 a2 a3)) := by
  refine q_CaT_of (φ := (q_oSM c n)) (Nat.le_of_ble_eq_true rfl) ?_
  unfold dz_M266_64
  refine q_RT_seg (g2 := (26, [(4, .int ((((a1 - a1 / 16 * 16) - (a2 - a2 / 16 * 16)) - 1) + a3)), (0, .ref 64), (1, .int a1), (2, .int a2), (3, .int a3)], [.int ((((a1 - a1 / 16 * 16) - (a2 - a2 / 16 * 16)) - 1) + a3), .int ((a1 / 16) - (a2 / 16))], (q_kM s c n))) 20 (fun _ _ => rfl) ?_
  cases h1414 : decide ((((a1 - a1 / 16 * 16) - (a2 - a2 / 16 * 16)) - 1) + a3 < 0) with
  | true =>
    refine q_RT_cT ?_
    refine q_RT_rsF (g2 := (29, [(4, .int ((((a1 - a1 / 16 * 16) - (a2 - a2 / 16 * 16)) - 1) + a3)), (0, .ref 64), (1, .int a1), (2, .int a2), (3, .int a3)], [.int ((a1 / 16) - (a2 / 16))], (q_kM s c n))) rfl rfl (q_d_geT h1414) ?_
    refine q_RT_seg (g2 := (41, [(5, .int (((a1 / 16) - (a2 / 16)) - 1)), (4, .int ((((a1 - a1 / 16 * 16) - (a2 - a2 / 16 * 16)) - 1) + a3)), (0, .ref 64), (1, .int a1), (2, .int a2), (3, .int a3)], [.int ((((a1 - a1 / 16 * 16) - (a2 - a2 / 16 * 16)) - 1) + a3), .int ((((a1 - a1 / 16 * 16) - (a2 - a2 / 16 * 16)) - 1) + a3)], (q_kM s c n))) 6 (fun _ _ => rfl) ?_
    refine q_RT_rsF (g2 := (44, [(5, .int (((a1 / 16) - (a2 / 16)) - 1)), (4, .int ((((a1 - a1 / 16 * 16) - (a2 - a2 / 16 * 16)) - 1) + a3)), (0, .ref 64), (1, .int a1), (2, .int a2), (3, .int a3)], [.int ((((a1 - a1 / 16 * 16) - (a2 - a2 / 16 * 16)) - 1) + a3)], (q_kM s c n))) rfl rfl (q_d_geT h1414) ?_
    refine q_RT_seg (g2 := (51, [(5, .int (((a1 / 16) - (a2 / 16)) - 1)), (4, .int ((((a1 - a1 / 16 * 16) - (a2 - a2 / 16 * 16)) - 1) + a3)), (0, .ref 64), (1, .int a1), (2, .int a2), (3, .int a3)], [.int (((((a1 - a1 / 16 * 16) - (a2 - a2 / 16 * 16)) - 1) + a3) + 10)], (q_kM s c n))) 3 (fun _ _ => rfl) ?_
    generalize (((((a1 - a1 / 16 * 16) - (a2 - a2 / 16 * 16)) - 1) + a3) + 10) = x1248
    refine q_RT_let ?_
    show q_RT _ _ _ (51, [(5, .int (((a1 / 16) - (a2 / 16)) - 1)), (4, .int ((((a1 - a1 / 16 * 16) - (a2 - a2 / 16 * 16)) - 1) + a3)), (0, .ref 64), (1, .int a1), (2, .int a2), (3, .int a3)], [.int x1248], (q_kM s c n)) _ _
    refine q_RT_seg (g2 := (60, [(4, .int x1248), (5, .int (((a1 / 16) - (a2 / 16)) - 1)), (0, .ref 64), (1, .int a1), (2, .int a2), (3, .int a3)], [.int (((a1 / 16) - (a2 / 16)) - 1), .int 5, .ref 79], (q_kM s c n))) 5 (fun _ _ => rfl) ?_
    cases h1415 : decide (((a1 / 16) - (a2 / 16)) - 1 < 0) with
    | true =>
      refine q_RT_cT ?_
      refine q_RT_rsT (g2 := (67, [(4, .int x1248), (5, .int (((a1 / 16) - (a2 / 16)) - 1)), (0, .ref 64), (1, .int a1), (2, .int a2), (3, .int a3)], [.int 5, .ref 79], (q_kM s c n))) rfl rfl h1415 ?_
      refine q_RT_seg (g2 := (73, [(4, .int x1248), (5, .int (((a1 / 16) - (a2 / 16)) - 1)), (0, .ref 64), (1, .int a1), (2, .int a2), (3, .int a3)], [.int (((a1 / 16) - (a2 / 16)) - 1), .int (((a1 / 16) - (a2 / 16)) - 1)], (q_kM (q_sA s 15 (upd (s.1 15) 5 (vp_nar .boolean 0))) c n))) 4 (fun _ _ => rfl) ?_
      refine q_RT_rsF (g2 := (76, [(4, .int x1248), (5, .int (((a1 / 16) - (a2 / 16)) - 1)), (0, .ref 64), (1, .int a1), (2, .int a2), (3, .int a3)], [.int (((a1 / 16) - (a2 / 16)) - 1)], (q_kM (q_sA s 15 (upd (s.1 15) 5 (vp_nar .boolean 0))) c n))) rfl rfl (q_d_geT h1415) ?_
      refine q_RT_seg (g2 := (103, [(5, .int ((((a1 / 16) - (a2 / 16)) - 1) + 10)), (4, .int x1248), (0, .ref 64), (1, .int a1), (2, .int a2), (3, .int a3)], [], (q_kM (q_sA (q_sA s 15 (upd (s.1 15) 5 (vp_nar .boolean 0))) 14 (upd (s.1 14) 0 (((16 * ((((a1 / 16) - (a2 / 16)) - 1) + 10)) + x1248) &&& 255))) c n))) 15 (fun _ _ => rfl) ?_
      exact q_RT_ret rfl rfl rfl
    | false =>
      refine q_RT_cF ?_
      refine q_RT_rsF (g2 := (63, [(4, .int x1248), (5, .int (((a1 / 16) - (a2 / 16)) - 1)), (0, .ref 64), (1, .int a1), (2, .int a2), (3, .int a3)], [.int 5, .ref 79], (q_kM s c n))) rfl rfl h1415 ?_
      refine q_RT_seg (g2 := (73, [(4, .int x1248), (5, .int (((a1 / 16) - (a2 / 16)) - 1)), (0, .ref 64), (1, .int a1), (2, .int a2), (3, .int a3)], [.int (((a1 / 16) - (a2 / 16)) - 1), .int (((a1 / 16) - (a2 / 16)) - 1)], (q_kM (q_sA s 15 (upd (s.1 15) 5 (vp_nar .boolean 1))) c n))) 5 (fun _ _ => rfl) ?_
      refine q_RT_rsT (g2 := (81, [(4, .int x1248), (5, .int (((a1 / 16) - (a2 / 16)) - 1)), (0, .ref 64), (1, .int a1), (2, .int a2), (3, .int a3)], [.int (((a1 / 16) - (a2 / 16)) - 1)], (q_kM (q_sA s 15 (upd (s.1 15) 5 (vp_nar .boolean 1))) c n))) rfl rfl (q_d_geF h1415) ?_
      refine q_RT_seg (g2 := (103, [(5, .int ((((a1 / 16) - (a2 / 16)) - 1) + 0)), (4, .int x1248), (0, .ref 64), (1, .int a1), (2, .int a2), (3, .int a3)], [], (q_kM (q_sA (q_sA s 15 (upd (s.1 15) 5 (vp_nar .boolean 1))) 14 (upd (s.1 14) 0 (((16 * ((((a1 / 16) - (a2 / 16)) - 1) + 0)) + x1248) &&& 255))) c n))) 14 (fun _ _ => rfl) ?_
      exact q_RT_ret rfl rfl rfl
  | false =>
    refine q_RT_cF ?_
    refine q_RT_rsT (g2 := (33, [(4, .int ((((a1 - a1 / 16 * 16) - (a2 - a2 / 16 * 16)) - 1) + a3)), (0, .ref 64), (1, .int a1), (2, .int a2), (3, .int a3)], [.int ((a1 / 16) - (a2 / 16))], (q_kM s c n))) rfl rfl (q_d_geF h1414) ?_
    refine q_RT_seg (g2 := (41, [(5, .int (((a1 / 16) - (a2 / 16)) - 0)), (4, .int ((((a1 - a1 / 16 * 16) - (a2 - a2 / 16 * 16)) - 1) + a3)), (0, .ref 64), (1, .int a1), (2, .int a2), (3, .int a3)], [.int ((((a1 - a1 / 16 * 16) - (a2 - a2 / 16 * 16)) - 1) + a3), .int ((((a1 - a1 / 16 * 16) - (a2 - a2 / 16 * 16)) - 1) + a3)], (q_kM s c n))) 5 (fun _ _ => rfl) ?_
    refine q_RT_rsT (g2 := (49, [(5, .int (((a1 / 16) - (a2 / 16)) - 0)), (4, .int ((((a1 - a1 / 16 * 16) - (a2 - a2 / 16 * 16)) - 1) + a3)), (0, .ref 64), (1, .int a1), (2, .int a2), (3, .int a3)], [.int ((((a1 - a1 / 16 * 16) - (a2 - a2 / 16 * 16)) - 1) + a3)], (q_kM s c n))) rfl rfl (q_d_geF h1414) ?_
    refine q_RT_seg (g2 := (60, [(4, .int (((((a1 - a1 / 16 * 16) - (a2 - a2 / 16 * 16)) - 1) + a3) + 0)), (5, .int (((a1 / 16) - (a2 / 16)) - 0)), (0, .ref 64), (1, .int a1), (2, .int a2), (3, .int a3)], [.int (((a1 / 16) - (a2 / 16)) - 0), .int 5, .ref 79], (q_kM s c n))) 7 (fun _ _ => rfl) ?_
    cases h1416 : decide (((a1 / 16) - (a2 / 16)) - 0 < 0) with
    | true =>
      refine q_RT_cT ?_
      refine q_RT_rsT (g2 := (67, [(4, .int (((((a1 - a1 / 16 * 16) - (a2 - a2 / 16 * 16)) - 1) + a3) + 0)), (5, .int (((a1 / 16) - (a2 / 16)) - 0)), (0, .ref 64), (1, .int a1), (2, .int a2), (3, .int a3)], [.int 5, .ref 79], (q_kM s c n))) rfl rfl h1416 ?_
      refine q_RT_seg (g2 := (73, [(4, .int (((((a1 - a1 / 16 * 16) - (a2 - a2 / 16 * 16)) - 1) + a3) + 0)), (5, .int (((a1 / 16) - (a2 / 16)) - 0)), (0, .ref 64), (1, .int a1), (2, .int a2), (3, .int a3)], [.int (((a1 / 16) - (a2 / 16)) - 0), .int (((a1 / 16) - (a2 / 16)) - 0)], (q_kM (q_sA s 15 (upd (s.1 15) 5 (vp_nar .boolean 0))) c n))) 4 (fun _ _ => rfl) ?_
      refine q_RT_rsF (g2 := (76, [(4, .int (((((a1 - a1 / 16 * 16) - (a2 - a2 / 16 * 16)) - 1) + a3) + 0)), (5, .int (((a1 / 16) - (a2 / 16)) - 0)), (0, .ref 64), (1, .int a1), (2, .int a2), (3, .int a3)], [.int (((a1 / 16) - (a2 / 16)) - 0)], (q_kM (q_sA s 15 (upd (s.1 15) 5 (vp_nar .boolean 0))) c n))) rfl rfl (q_d_geT h1416) ?_
      refine q_RT_seg (g2 := (103, [(5, .int ((((a1 / 16) - (a2 / 16)) - 0) + 10)), (4, .int (((((a1 - a1 / 16 * 16) - (a2 - a2 / 16 * 16)) - 1) + a3) + 0)), (0, .ref 64), (1, .int a1), (2, .int a2), (3, .int a3)], [], (q_kM (q_sA (q_sA s 15 (upd (s.1 15) 5 (vp_nar .boolean 0))) 14 (upd (s.1 14) 0 (((16 * ((((a1 / 16) - (a2 / 16)) - 0) + 10)) + (((((a1 - a1 / 16 * 16) - (a2 - a2 / 16 * 16)) - 1) + a3) + 0)) &&& 255))) c n))) 15 (fun _ _ => rfl) ?_
      exact q_RT_ret rfl rfl rfl
    | false =>
      refine q_RT_cF ?_
      refine q_RT_rsF (g2 := (63, [(4, .int (((((a1 - a1 / 16 * 16) - (a2 - a2 / 16 * 16)) - 1) + a3) + 0)), (5, .int (((a1 / 16) - (a2 / 16)) - 0)), (0, .ref 64), (1, .int a1), (2, .int a2), (3, .int a3)], [.int 5, .ref 79], (q_kM s c n))) rfl rfl h1416 ?_
      refine q_RT_seg (g2 := (73, [(4, .int (((((a1 - a1 / 16 * 16) - (a2 - a2 / 16 * 16)) - 1) + a3) + 0)), (5, .int (((a1 / 16) - (a2 / 16)) - 0)), (0, .ref 64), (1, .int a1), (2, .int a2), (3, .int a3)], [.int (((a1 / 16) - (a2 / 16)) - 0), .int (((a1 / 16) - (a2 / 16)) - 0)], (q_kM (q_sA s 15 (upd (s.1 15) 5 (vp_nar .boolean 1))) c n))) 5 (fun _ _ => rfl) ?_
      refine q_RT_rsT (g2 := (81, [(4, .int (((((a1 - a1 / 16 * 16) - (a2 - a2 / 16 * 16)) - 1) + a3) + 0)), (5, .int (((a1 / 16) - (a2 / 16)) - 0)), (0, .ref 64), (1, .int a1), (2, .int a2), (3, .int a3)], [.int (((a1 / 16) - (a2 / 16)) - 0)], (q_kM (q_sA s 15 (upd (s.1 15) 5 (vp_nar .boolean 1))) c n))) rfl rfl (q_d_geF h1416) ?_
      refine q_RT_seg (g2 := (103, [(5, .int ((((a1 / 16) - (a2 / 16)) - 0) + 0)), (4, .int (((((a1 - a1 / 16 * 16) - (a2 - a2 / 16 * 16)) - 1) + a3) + 0)), (0, .ref 64), (1, .int a1), (2, .int a2), (3, .int a3)], [], (q_kM (q_sA (q_sA s 15 (upd (s.1 15) 5 (vp_nar .boolean 1))) 14 (upd (s.1 14) 0 (((16 * ((((a1 / 16) - (a2 / 16)) - 0) + 0)) + (((((a1 - a1 / 16 * 16) - (a2 - a2 / 16 * 16)) - 1) + a3) + 0)) &&& 255))) c n))) 14 (fun _ _ => rfl) ?_
      exact q_RT_ret rfl rfl rfl
def dz_M267_64_f_56 (s : q_S) (v2 : Int32) (v3 : Int32) (v4 : Int32) : Option (q_S) :=
  cond (decide ((s.1 15) 2 = 0)) (q_let (dz_M261_64 s ((s.1 14) 0)) fun r1247 => some r1247.1) (q_let (dz_M266_64 s v3 v2 v4) fun r1249 => q_let (dz_M261_64 r1249 ((r1249.1 14) 0)) fun r1250 => some r1250.1)
set_option maxHeartbeats 4000000 in
theorem dzt_M267_64_f_56 (c n : Nat) (s : q_S) (v2 : Int32) (v3 : Int32) (v4 : Int32) : q_RP q_TB0 2 266 (56, [(0, .ref 64), (2, .int v2), (3, .int v3), (4, .int v4)], [], (q_kM s c n)) (q_oSM c n) (dz_M267_64_f_56 s v2 v3 v4) := by
  unfold dz_M267_64_f_56
  refine q_RP_seg (g2 := (62, [(0, .ref 64), (2, .int v2), (3, .int v3), (4, .int v4)], [.int ((s.1 15) 2)], (q_kM s c n))) 4 (fun _ _ => rfl) ?_
  cases h1413 : decide ((s.1 15) 2 = 0) with
  | true =>
    refine q_RP_cT ?_
    refine q_RP_rsT (g2 := (73, [(0, .ref 64), (2, .int v2), (3, .int v3), (4, .int v4)], [], (q_kM s c n))) rfl rfl h1413 ?_
    refine q_RP_seg (g2 := (80, [(0, .ref 64), (2, .int v2), (3, .int v3), (4, .int v4)], [.int ((s.1 14) 0), .ref 64], (q_kM s c n))) 5 (fun _ _ => rfl) ?_
    refine q_RP_call (v := (some (.int (dz_M261_64 s ((s.1 14) 0)).2))) (h2 := (q_kM (dz_M261_64 s ((s.1 14) 0)).1 c n)) rfl rfl ((dzt_M261_64 s c n ((s.1 14) 0)).le (Nat.le_of_ble_eq_true rfl)) ?_
    generalize dz_M261_64 s ((s.1 14) 0) = r1247
    refine q_RP_let ?_
    show q_RP _ _ _ (83, [(0, .ref 64), (2, .int v2), (3, .int v3), (4, .int v4)], [.int r1247.2], (q_kM r1247.1 c n)) _ _
    refine q_RP_seg (g2 := (84, [(0, .ref 64), (2, .int v2), (3, .int v3), (4, .int v4)], [], (q_kM r1247.1 c n))) 1 (fun _ _ => rfl) ?_
    exact q_RP_ret rfl rfl rfl
  | false =>
    refine q_RP_cF ?_
    refine q_RP_rsF (g2 := (65, [(0, .ref 64), (2, .int v2), (3, .int v3), (4, .int v4)], [], (q_kM s c n))) rfl rfl h1413 ?_
    refine q_RP_seg (g2 := (70, [(0, .ref 64), (2, .int v2), (3, .int v3), (4, .int v4)], [.int v4, .int v2, .int v3, .ref 64], (q_kM s c n))) 4 (fun _ _ => rfl) ?_
    refine q_RP_call (v := none) (h2 := (q_kM (dz_M266_64 s v3 v2 v4) c n)) rfl rfl ((dzt_M266_64 s c n v3 v2 v4).le (Nat.le_of_ble_eq_true rfl)) ?_
    generalize dz_M266_64 s v3 v2 v4 = r1249
    refine q_RP_let ?_
    show q_RP _ _ _ (73, [(0, .ref 64), (2, .int v2), (3, .int v3), (4, .int v4)], [], (q_kM r1249 c n)) _ _
    refine q_RP_seg (g2 := (80, [(0, .ref 64), (2, .int v2), (3, .int v3), (4, .int v4)], [.int ((r1249.1 14) 0), .ref 64], (q_kM r1249 c n))) 5 (fun _ _ => rfl) ?_
    refine q_RP_call (v := (some (.int (dz_M261_64 r1249 ((r1249.1 14) 0)).2))) (h2 := (q_kM (dz_M261_64 r1249 ((r1249.1 14) 0)).1 c n)) rfl rfl ((dzt_M261_64 r1249 c n ((r1249.1 14) 0)).le (Nat.le_of_ble_eq_true rfl)) ?_
    generalize dz_M261_64 r1249 ((r1249.1 14) 0) = r1250
    refine q_RP_let ?_
    show q_RP _ _ _ (83, [(0, .ref 64), (2, .int v2), (3, .int v3), (4, .int v4)], [.int r1250.2], (q_kM r1250.1 c n)) _ _
    refine q_RP_seg (g2 := (84, [(0, .ref 64), (2, .int v2), (3, .int v3), (4, .int v4)], [], (q_kM r1250.1 c n))) 1 (fun _ _ => rfl) ?_
    exact q_RP_ret rfl rfl rfl
def dz_M267_64_f (s : q_S) (a2 : Int32) : Option (q_S) :=
  (dz_M257_64 s 5 1).bind fun r1239 => (dz_M264_64 s ((255 : Int32) - a2)).bind fun r1246 => cond (decide ((r1246.1 15) 2 = 0)) (dz_M267_64_f_56 r1246 a2 ((s.1 14) 0) r1239) (dz_M267_64_f_56 r1246 a2 ((s.1 14) 0) r1239)
set_option maxHeartbeats 4000000 in
theorem dzt_M267_64_f (s : q_S) (c n : Nat) (a2 : Int32) (x : q_S) (h : dz_M267_64_f s a2 = some x) : q_Ca q_TB0 3 266 [.ref 64, .int 0, .int a2] (q_kM s c n) ((q_oSM c n) x) := by
  refine q_CaP_of (φ := (q_oSM c n)) (Nat.le_of_ble_eq_true rfl) ?_ h
  clear h
  unfold dz_M267_64_f
  refine q_RP_seg (g2 := (6, [(0, .ref 64), (1, .int 0), (2, .int a2)], [.int ((s.1 14) 0)], (q_kM s c n))) 4 (fun _ _ => rfl) ?_
  refine q_RP_seg (g2 := (10, [(3, .int ((s.1 14) 0)), (0, .ref 64), (1, .int 0), (2, .int a2)], [.int 1, .int 5, .ref 64], (q_kM s c n))) 4 (fun _ _ => rfl) ?_
  refine q_RP_bd fun r1239 er1239 => ?_
  refine q_RP_call (v := (some (.int r1239))) (h2 := (q_kM s c n)) rfl rfl ((dzt_M257_64 s c n 5 1 r1239 er1239).le (Nat.le_of_ble_eq_true rfl)) ?_
  show q_RP _ _ _ (13, [(3, .int ((s.1 14) 0)), (0, .ref 64), (1, .int 0), (2, .int a2)], [.int r1239], (q_kM s c n)) _ _
  refine q_RP_seg (g2 := (29, [(4, .int r1239), (3, .int ((s.1 14) 0)), (0, .ref 64), (1, .int 0), (2, .int a2)], [.int ((255 : Int32) - a2), .ref 64], (q_kM s c n))) 7 (fun _ _ => rfl) ?_
  refine q_RP_bd fun r1246 er1246 => ?_
  refine q_RP_call (v := none) (h2 := (q_kM r1246 c n)) rfl rfl ((dzt_M264_64 s c n ((255 : Int32) - a2) r1246 er1246).le (Nat.le_of_ble_eq_true rfl)) ?_
  show q_RP _ _ _ (32, [(4, .int r1239), (3, .int ((s.1 14) 0)), (0, .ref 64), (1, .int 0), (2, .int a2)], [], (q_kM r1246 c n)) _ _
  refine q_RP_seg (g2 := (38, [(4, .int r1239), (3, .int ((s.1 14) 0)), (0, .ref 64), (1, .int 0), (2, .int a2)], [.int ((r1246.1 15) 2)], (q_kM r1246 c n))) 4 (fun _ _ => rfl) ?_
  cases h1412 : decide ((r1246.1 15) 2 = 0) with
  | true =>
    refine q_RP_cT ?_
    refine q_RP_rsT (g2 := (56, [(4, .int r1239), (3, .int ((s.1 14) 0)), (0, .ref 64), (1, .int 0), (2, .int a2)], [], (q_kM r1246 c n))) rfl rfl h1412 ?_
    exact q_RP_xt (q_xt_mk (q_mn1 2 rfl (q_mn1 4 rfl (q_mn1 1 rfl (q_mn1 0 rfl q_mn0)))) rfl) (dzt_M267_64_f_56 c n r1246 a2 ((s.1 14) 0) r1239)
  | false =>
    refine q_RP_cF ?_
    refine q_RP_rsF (g2 := (41, [(4, .int r1239), (3, .int ((s.1 14) 0)), (0, .ref 64), (1, .int 0), (2, .int a2)], [], (q_kM r1246 c n))) rfl rfl h1412 ?_
    refine q_RP_seg (g2 := (56, [(4, .int r1239), (3, .int ((s.1 14) 0)), (0, .ref 64), (1, .int 0), (2, .int a2)], [], (q_kM r1246 c n))) 2 (fun _ _ => rfl) ?_
    exact q_RP_xt (q_xt_mk (q_mn1 2 rfl (q_mn1 4 rfl (q_mn1 1 rfl (q_mn1 0 rfl q_mn0)))) rfl) (dzt_M267_64_f_56 c n r1246 a2 ((s.1 14) 0) r1239)
def dz_M268_64 (s : q_S) (a1 : Int32) : Option (q_S × Int32) :=
  (dz_M214_64 s a1).bind fun r1262 => cond (decide (a1 = 3869)) (cond (decide (a1 = 3870)) (q_let ((q_sA r1262.1 14 (upd (r1262.1.1 14) 10 0))) fun r1263 => some ((q_sA r1263 14 (upd (r1263.1 14) 11 0)), r1262.2)) (some ((q_sA r1262.1 14 (upd (r1262.1.1 14) 10 0)), r1262.2))) (cond (decide (a1 = 3870)) (some ((q_sA r1262.1 14 (upd (r1262.1.1 14) 11 0)), r1262.2)) (some (r1262.1, r1262.2)))
set_option maxHeartbeats 4000000 in
theorem dzt_M268_64 (s : q_S) (c n : Nat) (a1 : Int32) (x : q_S × Int32) (h : dz_M268_64 s a1 = some x) : q_Ca q_TB0 5 267 [.ref 64, .int a1] (q_kM s c n) ((q_oIM c n) x) := by
  refine q_CaP_of (φ := (q_oIM c n)) (Nat.le_of_ble_eq_true rfl) ?_ h
  clear h
  unfold dz_M268_64
  refine q_RP_seg (g2 := (2, [(0, .ref 64), (1, .int a1)], [.int a1, .ref 64], (q_kM s c n))) 2 (fun _ _ => rfl) ?_
  refine q_RP_bd fun r1262 er1262 => ?_
  refine q_RP_call (v := (some (.int r1262.2))) (h2 := (q_kM r1262.1 c n)) rfl rfl ((dzt_M214_64 s c n a1 r1262 er1262).le (Nat.le_of_ble_eq_true rfl)) ?_
  show q_RP _ _ _ (5, [(0, .ref 64), (1, .int a1)], [.int r1262.2], (q_kM r1262.1 c n)) _ _
  refine q_RP_seg (g2 := (10, [(2, .int r1262.2), (0, .ref 64), (1, .int a1)], [.int 3869, .int a1], (q_kM r1262.1 c n))) 3 (fun _ _ => rfl) ?_
  cases h1426 : decide (a1 = 3869) with
  | true =>
    refine q_RP_cT ?_
    refine q_RP_rsF (g2 := (13, [(2, .int r1262.2), (0, .ref 64), (1, .int a1)], [], (q_kM r1262.1 c n))) rfl rfl (q_d_neT h1426) ?_
    refine q_RP_seg (g2 := (25, [(2, .int r1262.2), (0, .ref 64), (1, .int a1)], [.int 3870, .int a1], (q_kM (q_sA r1262.1 14 (upd (r1262.1.1 14) 10 0)) c n))) 7 (fun _ _ => rfl) ?_
    cases h1427 : decide (a1 = 3870) with
    | true =>
      refine q_RP_cT ?_
      refine q_RP_rsF (g2 := (28, [(2, .int r1262.2), (0, .ref 64), (1, .int a1)], [], (q_kM (q_sA r1262.1 14 (upd (r1262.1.1 14) 10 0)) c n))) rfl rfl (q_d_neT h1427) ?_
      refine q_RP_seg (g2 := (35, [(2, .int r1262.2), (0, .ref 64), (1, .int a1)], [.int 0, .int 11, .ref 78], (q_kM (q_sA r1262.1 14 (upd (r1262.1.1 14) 10 0)) c n))) 4 (fun _ _ => rfl) ?_
      generalize (q_sA r1262.1 14 (upd (r1262.1.1 14) 10 0)) = r1263
      refine q_RP_let ?_
      show q_RP _ _ _ (35, [(2, .int r1262.2), (0, .ref 64), (1, .int a1)], [.int 0, .int 11, .ref 78], (q_kM r1263 c n)) _ _
      refine q_RP_seg (g2 := (37, [(2, .int r1262.2), (0, .ref 64), (1, .int a1)], [.int r1262.2], (q_kM (q_sA r1263 14 (upd (r1263.1 14) 11 0)) c n))) 2 (fun _ _ => rfl) ?_
      exact q_RP_ret rfl rfl rfl
    | false =>
      refine q_RP_cF ?_
      refine q_RP_rsT (g2 := (36, [(2, .int r1262.2), (0, .ref 64), (1, .int a1)], [], (q_kM (q_sA r1262.1 14 (upd (r1262.1.1 14) 10 0)) c n))) rfl rfl (q_d_neF h1427) ?_
      refine q_RP_seg (g2 := (37, [(2, .int r1262.2), (0, .ref 64), (1, .int a1)], [.int r1262.2], (q_kM (q_sA r1262.1 14 (upd (r1262.1.1 14) 10 0)) c n))) 1 (fun _ _ => rfl) ?_
      exact q_RP_ret rfl rfl rfl
  | false =>
    refine q_RP_cF ?_
    refine q_RP_rsT (g2 := (21, [(2, .int r1262.2), (0, .ref 64), (1, .int a1)], [], (q_kM r1262.1 c n))) rfl rfl (q_d_neF h1426) ?_
    refine q_RP_seg (g2 := (25, [(2, .int r1262.2), (0, .ref 64), (1, .int a1)], [.int 3870, .int a1], (q_kM r1262.1 c n))) 2 (fun _ _ => rfl) ?_
    cases h1428 : decide (a1 = 3870) with
    | true =>
      refine q_RP_cT ?_
      refine q_RP_rsF (g2 := (28, [(2, .int r1262.2), (0, .ref 64), (1, .int a1)], [], (q_kM r1262.1 c n))) rfl rfl (q_d_neT h1428) ?_
      refine q_RP_seg (g2 := (37, [(2, .int r1262.2), (0, .ref 64), (1, .int a1)], [.int r1262.2], (q_kM (q_sA r1262.1 14 (upd (r1262.1.1 14) 11 0)) c n))) 6 (fun _ _ => rfl) ?_
      exact q_RP_ret rfl rfl rfl
    | false =>
      refine q_RP_cF ?_
      refine q_RP_rsT (g2 := (36, [(2, .int r1262.2), (0, .ref 64), (1, .int a1)], [], (q_kM r1262.1 c n))) rfl rfl (q_d_neF h1428) ?_
      refine q_RP_seg (g2 := (37, [(2, .int r1262.2), (0, .ref 64), (1, .int a1)], [.int r1262.2], (q_kM r1262.1 c n))) 1 (fun _ _ => rfl) ?_
      exact q_RP_ret rfl rfl rfl
