def lp_W_law (xs : Nat → Int32) (nx : Nat) (k : Mem → RR) : Nat → Int32 → Mem → RR
  | 0, _, _ => none
  | n + 1, x4, s =>
    if ((nI nx) - ((6 : Int32))) < x4 then (
      k s
    ) else (
      mm_sx xs nx x4 fun v36 =>
      if v36 &&& ((31 : Int32)) = (0 : Int32) then (
        mm_sx xs nx (x4 + ((1 : Int32))) fun v142 =>
        mm_sx xs nx (x4 + ((2 : Int32))) fun v148 =>
        mm_sx xs nx (x4 + ((3 : Int32))) fun v154 =>
        mm_cI (f_W_stop v142 v148 v154 s) fun v156 s156 =>
        mm_sx xs nx (x4 + ((1 : Int32))) fun v167 =>
        mm_sx xs nx (x4 + ((2 : Int32))) fun v173 =>
        mm_sx xs nx (x4 + ((3 : Int32))) fun v179 =>
        mm_cI (f_M_stop v167 v173 v179 s156) fun v180 s180 =>
        mm_cI (f_M_thrown s180) fun v186 s186 =>
        if v186 = v156 then (
          if ¬ v156 = 0 then (
            lp_W_law xs nx k n (x4 + (6 : Int32)) s186
          ) else (
            mm_ldj s186 70 0 1 ((0 : Int32)) fun v203 =>
            if (lg_cmp v203 v180.toInt64) = 0 then (
              lp_W_law xs nx k n (x4 + (6 : Int32)) s186
            ) else (
              mm_rz ((0 : Int32)) s186
            )
          )
        ) else (
          mm_rz ((0 : Int32)) s186
        )
      ) else (
      if v36 &&& ((31 : Int32)) = (1 : Int32) then (
        mm_sx xs nx (x4 + ((1 : Int32))) fun v222 =>
        mm_sx xs nx (x4 + ((2 : Int32))) fun v228 =>
        mm_cI (f_X_cancel v222 v228 s) fun v229 s229 =>
        mm_sx xs nx (x4 + ((1 : Int32))) fun v238 =>
        mm_sx xs nx (x4 + ((2 : Int32))) fun v244 =>
        mm_cI (f_M_cancel v238 v244 s229) fun v245 s245 =>
        if v229 = v245 then (
          lp_W_law xs nx k n (x4 + (6 : Int32)) s245
        ) else (
          mm_rz ((0 : Int32)) s245
        )
      ) else (
      if v36 &&& ((31 : Int32)) = (2 : Int32) then (
        mm_cI (f_W_publish s) fun v255 s255 =>
        mm_cI (f_M_publish s255) fun v261 s261 =>
        mm_cI (f_M_thrown s261) fun v267 s267 =>
        if v267 = v255 then (
          if ¬ v255 = 0 then (
            lp_W_law xs nx k n (x4 + (6 : Int32)) s267
          ) else (
            mm_ldj s267 70 0 1 ((0 : Int32)) fun v284 =>
            if (lg_cmp v284 v261.toInt64) = 0 then (
              lp_W_law xs nx k n (x4 + (6 : Int32)) s267
            ) else (
              mm_rz ((0 : Int32)) s267
            )
          )
        ) else (
          mm_rz ((0 : Int32)) s267
        )
      ) else (
      if v36 &&& ((31 : Int32)) = (3 : Int32) then (
        mm_sx xs nx (x4 + ((1 : Int32))) fun v303 =>
        mm_sx xs nx (x4 + ((2 : Int32))) fun v309 =>
        mm_sx xs nx (x4 + ((3 : Int32))) fun v315 =>
        mm_cI (f_W_household v303 v309 v315 s) fun v316 s316 =>
        mm_sx xs nx (x4 + ((1 : Int32))) fun v327 =>
        mm_sx xs nx (x4 + ((2 : Int32))) fun v333 =>
        mm_sx xs nx (x4 + ((3 : Int32))) fun v339 =>
        mm_cV (f_M_household v327 v333 v339 s316) fun s340 =>
        mm_cI (f_M_thrown s340) fun v344 s344 =>
        if v344 = v316 then (
          lp_W_law xs nx k n (x4 + (6 : Int32)) s344
        ) else (
          mm_rz ((0 : Int32)) s344
        )
      ) else (
      if v36 &&& ((31 : Int32)) = (4 : Int32) then (
        mm_sx xs nx (x4 + ((1 : Int32))) fun v363 =>
        mm_sx xs nx (x4 + ((2 : Int32))) fun v369 =>
        mm_sx xs nx (x4 + ((3 : Int32))) fun v375 =>
        mm_cI (f_W_group v363 v369 v375 s) fun v377 s377 =>
        mm_sx xs nx (x4 + ((1 : Int32))) fun v388 =>
        mm_sx xs nx (x4 + ((2 : Int32))) fun v394 =>
        mm_sx xs nx (x4 + ((3 : Int32))) fun v400 =>
        mm_cI (f_M_group v388 v394 v400 s377) fun v401 s401 =>
        mm_cI (f_M_thrown s401) fun v407 s407 =>
        if v407 = v377 then (
          if ¬ v377 = 0 then (
            lp_W_law xs nx k n (x4 + (6 : Int32)) s407
          ) else (
            mm_ldj s407 70 0 1 ((0 : Int32)) fun v424 =>
            mm_jn (fun (y435 : Int64) s435 =>
              if (lg_cmp v424 y435) = 0 then (
                lp_W_law xs nx k n (x4 + (6 : Int32)) s435
              ) else (
                mm_rz ((0 : Int32)) s435
              )
            ) (fun r435 =>
            if v401 = 0 then (
              r435 ((0 : Int64)) s407
            ) else (
              r435 ((1 : Int64)) s407
            ))
          )
        ) else (
          mm_rz ((0 : Int32)) s407
        )
      ) else (
      if v36 &&& ((31 : Int32)) = (5 : Int32) then (
        mm_sx xs nx (x4 + ((1 : Int32))) fun v450 =>
        mm_cI (f_X_key v450 s) fun v451 s451 =>
        mm_sx xs nx (x4 + ((1 : Int32))) fun v460 =>
        mm_cI (f_M_key v460 s451) fun v461 s461 =>
        if v451 = v461 then (
          lp_W_law xs nx k n (x4 + (6 : Int32)) s461
        ) else (
          mm_rz ((0 : Int32)) s461
        )
      ) else (
      if v36 &&& ((31 : Int32)) = (6 : Int32) then (
        mm_sx xs nx (x4 + ((1 : Int32))) fun v475 =>
        mm_sx xs nx (x4 + ((2 : Int32))) fun v481 =>
        mm_sx xs nx (x4 + ((3 : Int32))) fun v487 =>
        mm_sx xs nx (x4 + ((4 : Int32))) fun v493 =>
        mm_cI (f_W_post v475 v481 v487 v493 s) fun v495 s495 =>
        mm_sx xs nx (x4 + ((1 : Int32))) fun v506 =>
        mm_sx xs nx (x4 + ((2 : Int32))) fun v512 =>
        mm_sx xs nx (x4 + ((3 : Int32))) fun v518 =>
        mm_sx xs nx (x4 + ((4 : Int32))) fun v524 =>
        mm_cI (f_M_post v506 v512 v518 v524 s495) fun v525 s525 =>
        mm_cI (f_M_thrown s525) fun v531 s531 =>
        if v531 = v495 then (
          if ¬ v495 = 0 then (
            lp_W_law xs nx k n (x4 + (6 : Int32)) s531
          ) else (
            mm_ldj s531 70 0 1 ((0 : Int32)) fun v548 =>
            if (lg_cmp v548 v525.toInt64) = 0 then (
              lp_W_law xs nx k n (x4 + (6 : Int32)) s531
            ) else (
              mm_rz ((0 : Int32)) s531
            )
          )
        ) else (
          mm_rz ((0 : Int32)) s531
        )
      ) else (
      if v36 &&& ((31 : Int32)) = (7 : Int32) then (
        mm_sx xs nx (x4 + ((1 : Int32))) fun v567 =>
        mm_cI (f_W_minute v567 s) fun v569 s569 =>
        mm_sx xs nx (x4 + ((1 : Int32))) fun v580 =>
        mm_cI (f_M_minute v580 s569) fun v581 s581 =>
        mm_cI (f_M_thrown s581) fun v587 s587 =>
        if v587 = v569 then (
          if ¬ v569 = 0 then (
            lp_W_law xs nx k n (x4 + (6 : Int32)) s587
          ) else (
            mm_ldj s587 70 0 1 ((0 : Int32)) fun v604 =>
            if (lg_cmp v604 v581.toInt64) = 0 then (
              lp_W_law xs nx k n (x4 + (6 : Int32)) s587
            ) else (
              mm_rz ((0 : Int32)) s587
            )
          )
        ) else (
          mm_rz ((0 : Int32)) s587
        )
      ) else (
      if v36 &&& ((31 : Int32)) = (8 : Int32) then (
        mm_sx xs nx (x4 + ((1 : Int32))) fun v623 =>
        mm_sx xs nx (x4 + ((2 : Int32))) fun v629 =>
        mm_sx xs nx (x4 + ((3 : Int32))) fun v635 =>
        mm_cI (f_W_meet v623 v629 v635 s) fun v637 s637 =>
        mm_sx xs nx (x4 + ((1 : Int32))) fun v648 =>
        mm_sx xs nx (x4 + ((2 : Int32))) fun v654 =>
        mm_sx xs nx (x4 + ((3 : Int32))) fun v660 =>
        mm_cI (f_M_meet v648 v654 v660 s637) fun v661 s661 =>
        mm_cI (f_M_thrown s661) fun v667 s667 =>
        if v667 = v637 then (
          if ¬ v637 = 0 then (
            lp_W_law xs nx k n (x4 + (6 : Int32)) s667
          ) else (
            mm_ldj s667 70 0 1 ((0 : Int32)) fun v684 =>
            if (lg_cmp v684 v661.toInt64) = 0 then (
              lp_W_law xs nx k n (x4 + (6 : Int32)) s667
            ) else (
              mm_rz ((0 : Int32)) s667
            )
          )
        ) else (
          mm_rz ((0 : Int32)) s667
        )
      ) else (
      if v36 &&& ((31 : Int32)) = (9 : Int32) then (
        mm_sx xs nx (x4 + ((1 : Int32))) fun v703 =>
        mm_sx xs nx (x4 + ((2 : Int32))) fun v709 =>
        mm_sx xs nx (x4 + ((3 : Int32))) fun v715 =>
        mm_cI (f_W_breakOff v703 v709 v715 s) fun v717 s717 =>
        mm_sx xs nx (x4 + ((1 : Int32))) fun v728 =>
        mm_sx xs nx (x4 + ((2 : Int32))) fun v734 =>
        mm_sx xs nx (x4 + ((3 : Int32))) fun v740 =>
        mm_cI (f_M_breakOff v728 v734 v740 s717) fun v741 s741 =>
        mm_cI (f_M_thrown s741) fun v747 s747 =>
        if v747 = v717 then (
          if ¬ v717 = 0 then (
            lp_W_law xs nx k n (x4 + (6 : Int32)) s747
          ) else (
            mm_ldj s747 70 0 1 ((0 : Int32)) fun v764 =>
            if (lg_cmp v764 v741.toInt64) = 0 then (
              lp_W_law xs nx k n (x4 + (6 : Int32)) s747
            ) else (
              mm_rz ((0 : Int32)) s747
            )
          )
        ) else (
          mm_rz ((0 : Int32)) s747
        )
      ) else (
      if v36 &&& ((31 : Int32)) = (10 : Int32) then (
        mm_sx xs nx (x4 + ((1 : Int32))) fun v783 =>
        mm_cI (f_W_reboot v783 s) fun v784 s784 =>
        mm_sx xs nx (x4 + ((1 : Int32))) fun v795 =>
        mm_cV (f_M_reboot v795 s784) fun s796 =>
        mm_cI (f_M_thrown s796) fun v800 s800 =>
        if v800 = v784 then (
          lp_W_law xs nx k n (x4 + (6 : Int32)) s800
        ) else (
          mm_rz ((0 : Int32)) s800
        )
      ) else (
      if v36 &&& ((31 : Int32)) = (11 : Int32) then (
        mm_sx xs nx (x4 + ((1 : Int32))) fun v819 =>
        mm_sx xs nx (x4 + ((2 : Int32))) fun v825 =>
        mm_sx xs nx (x4 + ((3 : Int32))) fun v831 =>
        mm_sx xs nx (x4 + ((4 : Int32))) fun v837 =>
        mm_sx xs nx (x4 + ((5 : Int32))) fun v843 =>
        mm_cI (f_W_spoil v819 v825 v831 v837 v843 s) fun v845 s845 =>
        mm_sx xs nx (x4 + ((1 : Int32))) fun v856 =>
        mm_sx xs nx (x4 + ((2 : Int32))) fun v862 =>
        mm_sx xs nx (x4 + ((3 : Int32))) fun v868 =>
        mm_sx xs nx (x4 + ((4 : Int32))) fun v874 =>
        mm_sx xs nx (x4 + ((5 : Int32))) fun v880 =>
        mm_cI (f_M_spoil v856 v862 v868 v874 v880 s845) fun v881 s881 =>
        mm_cI (f_M_thrown s881) fun v887 s887 =>
        if v887 = v845 then (
          if ¬ v845 = 0 then (
            lp_W_law xs nx k n (x4 + (6 : Int32)) s887
          ) else (
            mm_ldj s887 70 0 1 ((0 : Int32)) fun v904 =>
            if (lg_cmp v904 v881.toInt64) = 0 then (
              lp_W_law xs nx k n (x4 + (6 : Int32)) s887
            ) else (
              mm_rz ((0 : Int32)) s887
            )
          )
        ) else (
          mm_rz ((0 : Int32)) s887
        )
      ) else (
      if v36 &&& ((31 : Int32)) = (12 : Int32) then (
        mm_sx xs nx (x4 + ((1 : Int32))) fun v923 =>
        mm_sx xs nx (x4 + ((2 : Int32))) fun v929 =>
        mm_sx xs nx (x4 + ((3 : Int32))) fun v935 =>
        mm_cI (f_W_box v923 v929 v935 s) fun v937 s937 =>
        mm_sx xs nx (x4 + ((1 : Int32))) fun v948 =>
        mm_sx xs nx (x4 + ((2 : Int32))) fun v954 =>
        mm_sx xs nx (x4 + ((3 : Int32))) fun v960 =>
        mm_cI (f_M_box v948 v954 v960 s937) fun v961 s961 =>
        mm_cI (f_M_thrown s961) fun v967 s967 =>
        if v967 = v937 then (
          if ¬ v937 = 0 then (
            lp_W_law xs nx k n (x4 + (6 : Int32)) s967
          ) else (
            mm_ldj s967 70 0 1 ((0 : Int32)) fun v984 =>
            if (lg_cmp v984 v961.toInt64) = 0 then (
              lp_W_law xs nx k n (x4 + (6 : Int32)) s967
            ) else (
              mm_rz ((0 : Int32)) s967
            )
          )
        ) else (
          mm_rz ((0 : Int32)) s967
        )
      ) else (
      if v36 &&& ((31 : Int32)) = (13 : Int32) then (
        mm_sx xs nx (x4 + ((1 : Int32))) fun v1003 =>
        mm_sx xs nx (x4 + ((2 : Int32))) fun v1009 =>
        mm_sx xs nx (x4 + ((3 : Int32))) fun v1015 =>
        mm_sx xs nx (x4 + ((4 : Int32))) fun v1021 =>
        mm_cI (f_W_read v1003 v1009 v1015 v1021 s) fun v1023 s1023 =>
        mm_sx xs nx (x4 + ((1 : Int32))) fun v1034 =>
        mm_sx xs nx (x4 + ((2 : Int32))) fun v1040 =>
        mm_sx xs nx (x4 + ((3 : Int32))) fun v1046 =>
        mm_sx xs nx (x4 + ((4 : Int32))) fun v1052 =>
        mm_cI (f_M_read v1034 v1040 v1046 v1052 s1023) fun v1053 s1053 =>
        mm_cI (f_M_thrown s1053) fun v1059 s1059 =>
        if v1059 = v1023 then (
          if ¬ v1023 = 0 then (
            lp_W_law xs nx k n (x4 + (6 : Int32)) s1059
          ) else (
            mm_ldj s1059 70 0 1 ((0 : Int32)) fun v1076 =>
            if (lg_cmp v1076 v1053.toInt64) = 0 then (
              lp_W_law xs nx k n (x4 + (6 : Int32)) s1059
            ) else (
              mm_rz ((0 : Int32)) s1059
            )
          )
        ) else (
          mm_rz ((0 : Int32)) s1059
        )
      ) else (
      if v36 &&& ((31 : Int32)) = (14 : Int32) then (
        mm_sx xs nx (x4 + ((1 : Int32))) fun v1095 =>
        mm_sx xs nx (x4 + ((2 : Int32))) fun v1101 =>
        mm_sx xs nx (x4 + ((3 : Int32))) fun v1107 =>
        mm_cI (f_W_remove v1095 v1101 v1107 s) fun v1109 s1109 =>
        mm_sx xs nx (x4 + ((1 : Int32))) fun v1120 =>
        mm_sx xs nx (x4 + ((2 : Int32))) fun v1126 =>
        mm_sx xs nx (x4 + ((3 : Int32))) fun v1132 =>
        mm_cI (f_M_remove v1120 v1126 v1132 s1109) fun v1133 s1133 =>
        mm_cI (f_M_thrown s1133) fun v1139 s1139 =>
        if v1139 = v1109 then (
          if ¬ v1109 = 0 then (
            lp_W_law xs nx k n (x4 + (6 : Int32)) s1139
          ) else (
            mm_ldj s1139 70 0 1 ((0 : Int32)) fun v1156 =>
            if (lg_cmp v1156 v1133.toInt64) = 0 then (
              lp_W_law xs nx k n (x4 + (6 : Int32)) s1139
            ) else (
              mm_rz ((0 : Int32)) s1139
            )
          )
        ) else (
          mm_rz ((0 : Int32)) s1139
        )
      ) else (
      if v36 &&& ((31 : Int32)) = (15 : Int32) then (
        mm_sx xs nx (x4 + ((1 : Int32))) fun v1175 =>
        mm_cI (f_W_status v1175 s) fun v1177 s1177 =>
        mm_sx xs nx (x4 + ((1 : Int32))) fun v1188 =>
        mm_cI (f_M_status v1188 s1177) fun v1189 s1189 =>
        mm_cI (f_M_thrown s1189) fun v1195 s1195 =>
        if v1195 = v1177 then (
          if ¬ v1177 = 0 then (
            lp_W_law xs nx k n (x4 + (6 : Int32)) s1195
          ) else (
            mm_ldj s1195 70 0 1 ((0 : Int32)) fun v1212 =>
            if (lg_cmp v1212 v1189.toInt64) = 0 then (
              lp_W_law xs nx k n (x4 + (6 : Int32)) s1195
            ) else (
              mm_rz ((0 : Int32)) s1195
            )
          )
        ) else (
          mm_rz ((0 : Int32)) s1195
        )
      ) else (
      if v36 &&& ((31 : Int32)) = (16 : Int32) then (
        mm_sx xs nx (x4 + ((1 : Int32))) fun v1231 =>
        mm_cI (f_W_custodians v1231 s) fun v1233 s1233 =>
        mm_sx xs nx (x4 + ((1 : Int32))) fun v1244 =>
        mm_cI (f_M_custodians v1244 s1233) fun v1245 s1245 =>
        mm_cI (f_M_thrown s1245) fun v1251 s1251 =>
        if v1251 = v1233 then (
          if ¬ v1233 = 0 then (
            lp_W_law xs nx k n (x4 + (6 : Int32)) s1251
          ) else (
            mm_ldj s1251 70 0 1 ((0 : Int32)) fun v1268 =>
            if (lg_cmp v1268 v1245.toInt64) = 0 then (
              lp_W_law xs nx k n (x4 + (6 : Int32)) s1251
            ) else (
              mm_rz ((0 : Int32)) s1251
            )
          )
        ) else (
          mm_rz ((0 : Int32)) s1251
        )
      ) else (
      if v36 &&& ((31 : Int32)) = (17 : Int32) then (
        mm_sx xs nx (x4 + ((1 : Int32))) fun v1287 =>
        mm_cI (f_W_promise v1287 s) fun v1289 s1289 =>
        mm_sx xs nx (x4 + ((1 : Int32))) fun v1300 =>
        mm_cI (f_M_promise v1300 s1289) fun v1301 s1301 =>
        mm_cI (f_M_thrown s1301) fun v1307 s1307 =>
        if v1307 = v1289 then (
          if ¬ v1289 = 0 then (
            lp_W_law xs nx k n (x4 + (6 : Int32)) s1307
          ) else (
            mm_ldj s1307 70 0 1 ((0 : Int32)) fun v1324 =>
            if (lg_cmp v1324 v1301.toInt64) = 0 then (
              lp_W_law xs nx k n (x4 + (6 : Int32)) s1307
            ) else (
              mm_rz ((0 : Int32)) s1307
            )
          )
        ) else (
          mm_rz ((0 : Int32)) s1307
        )
      ) else (
      if v36 &&& ((31 : Int32)) = (18 : Int32) then (
        mm_sx xs nx (x4 + ((1 : Int32))) fun v1343 =>
        mm_sx xs nx (x4 + ((2 : Int32))) fun v1349 =>
        mm_sx xs nx (x4 + ((3 : Int32))) fun v1355 =>
        mm_cI (f_W_best v1343 v1349 v1355 s) fun v1357 s1357 =>
        mm_sx xs nx (x4 + ((1 : Int32))) fun v1368 =>
        mm_sx xs nx (x4 + ((2 : Int32))) fun v1374 =>
        mm_sx xs nx (x4 + ((3 : Int32))) fun v1380 =>
        mm_cI (f_M_best v1368 v1374 v1380 s1357) fun v1381 s1381 =>
        mm_cI (f_M_thrown s1381) fun v1387 s1387 =>
        if v1387 = v1357 then (
          if ¬ v1357 = 0 then (
            lp_W_law xs nx k n (x4 + (6 : Int32)) s1387
          ) else (
            mm_ldj s1387 70 0 1 ((0 : Int32)) fun v1404 =>
            if (lg_cmp v1404 v1381.toInt64) = 0 then (
              lp_W_law xs nx k n (x4 + (6 : Int32)) s1387
            ) else (
              mm_rz ((0 : Int32)) s1387
            )
          )
        ) else (
          mm_rz ((0 : Int32)) s1387
        )
      ) else (
      if v36 &&& ((31 : Int32)) = (19 : Int32) then (
        mm_sx xs nx (x4 + ((1 : Int32))) fun v1423 =>
        mm_sx xs nx (x4 + ((2 : Int32))) fun v1429 =>
        mm_cI (f_W_store v1423 v1429 s) fun v1431 s1431 =>
        mm_sx xs nx (x4 + ((1 : Int32))) fun v1442 =>
        mm_sx xs nx (x4 + ((2 : Int32))) fun v1448 =>
        mm_cI (f_M_store v1442 v1448 s1431) fun v1449 s1449 =>
        mm_cI (f_M_thrown s1449) fun v1455 s1455 =>
        if v1455 = v1431 then (
          if ¬ v1431 = 0 then (
            lp_W_law xs nx k n (x4 + (6 : Int32)) s1455
          ) else (
            mm_ldj s1455 70 0 1 ((0 : Int32)) fun v1472 =>
            if (lg_cmp v1472 v1449.toInt64) = 0 then (
              lp_W_law xs nx k n (x4 + (6 : Int32)) s1455
            ) else (
              mm_rz ((0 : Int32)) s1455
            )
          )
        ) else (
          mm_rz ((0 : Int32)) s1455
        )
      ) else (
      lp_W_law xs nx k n (x4 + (6 : Int32)) s
      ))))))))))))))))))))
    )
set_option maxRecDepth 100000 in
set_option maxHeartbeats 40000000 in
theorem lp_W_law_ok {K : KK} {Γ : Cx} {o : Oc} {q : Mem} (xs : Nat → Int32) (nx : Nat) (k : Mem → RR) (G : Good K Γ b_W_law "VillageMailLaw" 7 11 418) (SX : SXl K Γ xs nx) (NRB : ∀ m, m ≤ 600000 → NR Γ m)
    (RET : ∀ (n : Nat) (s : Mem) (pc : Nat) (L : List (Nat × Value)) (v : Int32), n ≤ 600000 → decode b_W_law pc = .ok (.ireturn, 1) → mm_rz v s = some (o, q) → WW K Γ n s pc L [.int v])
    (Kx : ∀ (n : Nat) (s : Mem), n ≤ 600000 → k s = some (o, q) → WW K Γ n s 1491 [] []) :
    ∀ (N n : Nat) (x4 : Int32) (s : Mem), n + N ≤ 600000 → lp_W_law xs nx k N x4 s = some (o, q) → WW K Γ n s 23 [(0, .ref (aa K 71 0)), (1, .ref (aa K 0 0)), (2, .ref (aa K 30 0)), (3, .ref (aa K 70 0)), (4, .int x4)] [] := by
  intro N
  induction N with
  | zero => intro _ _ _ _ h; exact nomatch h
  | succ N ih =>
    intro n x4 s hN h
    unfold lp_W_law at h
    refine ww_iload 4 G d_W_law_23 rfl ?_
    refine ww_aload_n 0 G d_W_law_25 rfl rfl ?_
    refine wl_slen G SX d_W_law_26 ?_
    refine ww_bipush (v := (6 : Int32)) G d_W_law_27 ib_6 ?_
    refine ww_isub G d_W_law_29 ?_
    refine ww_icmpgt (tgt := 1491) G d_W_law_30 (by decide) h (fun h => ?_) (fun h => ?_)
    · skip
      refine ww_sub [] rfl ?_
      exact Kx _ _ (by omega) h
    · skip
      refine ww_aload_n 0 G d_W_law_33 rfl rfl ?_
      refine ww_iload 4 G d_W_law_34 rfl ?_
      refine wl_sld G SX d_W_law_36 h (fun v36 h => ?_)
      refine ww_bipush (v := (31 : Int32)) G d_W_law_37 ib_31 ?_
      refine ww_iand G d_W_law_39 ?_
      refine ww_tab (w := (0 : Int32)) h (fun hc h => ?_) (fun hc0 h => ?_)
      · refine ww_tabIn (tgt := 136) G d_W_law_40 hc (by decide) (by decide) rfl (by decide) ?_
        refine ww_aload_n 1 G d_W_law_136 rfl rfl ?_
        refine ww_aload_n 0 G d_W_law_137 rfl rfl ?_
        refine ww_iload 4 G d_W_law_138 rfl ?_
        refine ww_iconst (v := (1 : Int32)) G d_W_law_140 ic_1 ?_
        refine ww_iadd G d_W_law_141 ?_
        refine wl_sld G SX d_W_law_142 h (fun v142 h => ?_)
        refine ww_aload_n 0 G d_W_law_143 rfl rfl ?_
        refine ww_iload 4 G d_W_law_144 rfl ?_
        refine ww_iconst (v := (2 : Int32)) G d_W_law_146 ic_2 ?_
        refine ww_iadd G d_W_law_147 ?_
        refine wl_sld G SX d_W_law_148 h (fun v148 h => ?_)
        refine ww_aload_n 0 G d_W_law_149 rfl rfl ?_
        refine ww_iload 4 G d_W_law_150 rfl ?_
        refine ww_iconst (v := (3 : Int32)) G d_W_law_152 ic_3 ?_
        refine ww_iadd G d_W_law_153 ?_
        refine wl_sld G SX d_W_law_154 h (fun v154 h => ?_)
        refine ww_aload_n 3 G d_W_law_155 rfl rfl ?_
        refine wl_help (As := [_, _, _, _, _]) G (NRB _ (by omega)) hs_84 (fun r q h => c_W_stop v142 v148 v154 _ r q h) rfl rfl (Nat.le_of_ble_eq_true rfl) d_W_law_156 (by decide) h (fun v156 s156 h => ?_)
        refine ww_istore (L' := [(5, _), (0, _), (1, _), (2, _), (3, _), (4, _)]) G d_W_law_159 (by decide) rfl ?_
        refine ww_aload_n 3 G d_W_law_161 rfl rfl ?_
        refine ww_aload_n 1 G d_W_law_162 rfl rfl ?_
        refine ww_iload 5 G d_W_law_163 rfl ?_
        refine ww_iconst (v := (1 : Int32)) G d_W_law_165 ic_1 ?_
        refine ww_iadd G d_W_law_166 ?_
        refine wl_sld G SX d_W_law_167 h (fun v167 h => ?_)
        refine ww_aload_n 1 G d_W_law_168 rfl rfl ?_
        refine ww_iload 5 G d_W_law_169 rfl ?_
        refine ww_iconst (v := (2 : Int32)) G d_W_law_171 ic_2 ?_
        refine ww_iadd G d_W_law_172 ?_
        refine wl_sld G SX d_W_law_173 h (fun v173 h => ?_)
        refine ww_aload_n 1 G d_W_law_174 rfl rfl ?_
        refine ww_iload 5 G d_W_law_175 rfl ?_
        refine ww_iconst (v := (3 : Int32)) G d_W_law_177 ic_3 ?_
        refine ww_iadd G d_W_law_178 ?_
        refine wl_sld G SX d_W_law_179 h (fun v179 h => ?_)
        refine wl_cvI (As := [_, _, _]) G (NRB _ (by omega)) cs_W_89 (by decide) (fun o q h => c_M_stop v167 v173 v179 _ _ _ h) rfl rfl (Nat.le_of_ble_eq_true rfl) d_W_law_180 (by decide) h (fun v180 s180 h => ?_)
        refine ww_istore (L' := [(6, _), (5, _), (0, _), (1, _), (2, _), (3, _), (4, _)]) G d_W_law_183 (by decide) rfl ?_
        refine ww_aload_n 4 G d_W_law_185 rfl rfl ?_
        refine wl_cvI (As := []) G (NRB _ (by omega)) cs_W_90 (by decide) (fun o q h => c_M_thrown _ _ _ h) rfl rfl (Nat.le_of_ble_eq_true rfl) d_W_law_186 (by decide) h (fun v186 s186 h => ?_)
        refine ww_iload 1 G d_W_law_189 rfl ?_
        refine ww_icmpeq (tgt := 196) G d_W_law_191 (by decide) h (fun h => ?_) (fun h => ?_)
        · skip
          refine ww_iload 1 G d_W_law_196 rfl ?_
          refine ww_ifne (tgt := 213) G d_W_law_198 (by decide) h (fun h => ?_) (fun h => ?_)
          · skip
            refine ww_goto (tgt := 1485) G d_W_law_213 (by decide) ?_
            refine ww_iinc 6 (L' := [(4, _), (6, _), (5, _), (0, _), (1, _), (2, _), (3, _)]) G d_W_law_1485 rfl ic_6 (by decide) rfl ?_
            refine ww_goto (tgt := 23) G d_W_law_1488 (by decide) ?_
            refine ww_sub [3, 4, 5, 6, 0] rfl ?_
            exact ih _ _ _ (by omega) h
          · skip
            refine ww_aload_n 5 G d_W_law_201 rfl rfl ?_
            refine ww_iconst (v := (0 : Int32)) G d_W_law_202 ic_0 ?_
            refine ww_laload G ar_70 (by decide) d_W_law_203 h (fun v203 h => ?_)
            refine ww_iload 0 G d_W_law_204 rfl ?_
            refine ww_i2l G d_W_law_206 ?_
            refine ww_lcmp G d_W_law_207 ?_
            refine ww_ifeq (tgt := 213) G d_W_law_208 (by decide) h (fun h => ?_) (fun h => ?_)
            · skip
              refine ww_goto (tgt := 1485) G d_W_law_213 (by decide) ?_
              refine ww_iinc 6 (L' := [(4, _), (6, _), (5, _), (0, _), (1, _), (2, _), (3, _)]) G d_W_law_1485 rfl ic_6 (by decide) rfl ?_
              refine ww_goto (tgt := 23) G d_W_law_1488 (by decide) ?_
              refine ww_sub [3, 4, 5, 6, 0] rfl ?_
              exact ih _ _ _ (by omega) h
            · skip
              refine ww_iconst (v := (0 : Int32)) G d_W_law_211 ic_0 ?_
              exact RET _ _ _ _ _ (by omega) d_W_law_212 h
        · skip
          refine ww_iconst (v := (0 : Int32)) G d_W_law_194 ic_0 ?_
          exact RET _ _ _ _ _ (by omega) d_W_law_195 h
      refine ww_tab (w := (1 : Int32)) h (fun hc h => ?_) (fun hc1 h => ?_)
      · refine ww_tabIn (tgt := 216) G d_W_law_40 hc (by decide) (by decide) rfl (by decide) ?_
        refine ww_aload_n 1 G d_W_law_216 rfl rfl ?_
        refine ww_aload_n 0 G d_W_law_217 rfl rfl ?_
        refine ww_iload 4 G d_W_law_218 rfl ?_
        refine ww_iconst (v := (1 : Int32)) G d_W_law_220 ic_1 ?_
        refine ww_iadd G d_W_law_221 ?_
        refine wl_sld G SX d_W_law_222 h (fun v222 h => ?_)
        refine ww_aload_n 0 G d_W_law_223 rfl rfl ?_
        refine ww_iload 4 G d_W_law_224 rfl ?_
        refine ww_iconst (v := (2 : Int32)) G d_W_law_226 ic_2 ?_
        refine ww_iadd G d_W_law_227 ?_
        refine wl_sld G SX d_W_law_228 h (fun v228 h => ?_)
        refine wl_cvI (As := [_, _]) G (NRB _ (by omega)) cs_W_93 (by decide) (fun o q h => c_X_cancel v222 v228 _ _ _ h) rfl rfl (Nat.le_of_ble_eq_true rfl) d_W_law_229 (by decide) h (fun v229 s229 h => ?_)
        refine ww_aload_n 2 G d_W_law_232 rfl rfl ?_
        refine ww_aload_n 0 G d_W_law_233 rfl rfl ?_
        refine ww_iload 4 G d_W_law_234 rfl ?_
        refine ww_iconst (v := (1 : Int32)) G d_W_law_236 ic_1 ?_
        refine ww_iadd G d_W_law_237 ?_
        refine wl_sld G SX d_W_law_238 h (fun v238 h => ?_)
        refine ww_aload_n 0 G d_W_law_239 rfl rfl ?_
        refine ww_iload 4 G d_W_law_240 rfl ?_
        refine ww_iconst (v := (2 : Int32)) G d_W_law_242 ic_2 ?_
        refine ww_iadd G d_W_law_243 ?_
        refine wl_sld G SX d_W_law_244 h (fun v244 h => ?_)
        refine wl_cvI (As := [_, _]) G (NRB _ (by omega)) cs_W_97 (by decide) (fun o q h => c_M_cancel v238 v244 _ _ _ h) rfl rfl (Nat.le_of_ble_eq_true rfl) d_W_law_245 (by decide) h (fun v245 s245 h => ?_)
        refine ww_icmpeq (tgt := 1485) G d_W_law_248 (by decide) h (fun h => ?_) (fun h => ?_)
        · skip
          refine ww_iinc 4 (L' := [(4, _), (0, _), (1, _), (2, _), (3, _)]) G d_W_law_1485 rfl ic_6 (by decide) rfl ?_
          refine ww_goto (tgt := 23) G d_W_law_1488 (by decide) ?_
          refine ww_sub [1, 2, 3, 4, 0] rfl ?_
          exact ih _ _ _ (by omega) h
        · skip
          refine ww_iconst (v := (0 : Int32)) G d_W_law_251 ic_0 ?_
          exact RET _ _ _ _ _ (by omega) d_W_law_252 h
      refine ww_tab (w := (2 : Int32)) h (fun hc h => ?_) (fun hc2 h => ?_)
      · refine ww_tabIn (tgt := 253) G d_W_law_40 hc (by decide) (by decide) rfl (by decide) ?_
        refine ww_aload_n 1 G d_W_law_253 rfl rfl ?_
        refine ww_aload_n 3 G d_W_law_254 rfl rfl ?_
        refine wl_help (As := [_, _]) G (NRB _ (by omega)) hs_98 (fun r q h => c_W_publish _ r q h) rfl rfl (Nat.le_of_ble_eq_true rfl) d_W_law_255 (by decide) h (fun v255 s255 h => ?_)
        refine ww_istore (L' := [(5, _), (0, _), (1, _), (2, _), (3, _), (4, _)]) G d_W_law_258 (by decide) rfl ?_
        refine ww_aload_n 3 G d_W_law_260 rfl rfl ?_
        refine wl_cvI (As := []) G (NRB _ (by omega)) cs_W_101 (by decide) (fun o q h => c_M_publish _ _ _ h) rfl rfl (Nat.le_of_ble_eq_true rfl) d_W_law_261 (by decide) h (fun v261 s261 h => ?_)
        refine ww_istore (L' := [(6, _), (5, _), (0, _), (1, _), (2, _), (3, _), (4, _)]) G d_W_law_264 (by decide) rfl ?_
        refine ww_aload_n 4 G d_W_law_266 rfl rfl ?_
        refine wl_cvI (As := []) G (NRB _ (by omega)) cs_W_90 (by decide) (fun o q h => c_M_thrown _ _ _ h) rfl rfl (Nat.le_of_ble_eq_true rfl) d_W_law_267 (by decide) h (fun v267 s267 h => ?_)
        refine ww_iload 1 G d_W_law_270 rfl ?_
        refine ww_icmpeq (tgt := 277) G d_W_law_272 (by decide) h (fun h => ?_) (fun h => ?_)
        · skip
          refine ww_iload 1 G d_W_law_277 rfl ?_
          refine ww_ifne (tgt := 294) G d_W_law_279 (by decide) h (fun h => ?_) (fun h => ?_)
          · skip
            refine ww_goto (tgt := 1485) G d_W_law_294 (by decide) ?_
            refine ww_iinc 6 (L' := [(4, _), (6, _), (5, _), (0, _), (1, _), (2, _), (3, _)]) G d_W_law_1485 rfl ic_6 (by decide) rfl ?_
            refine ww_goto (tgt := 23) G d_W_law_1488 (by decide) ?_
            refine ww_sub [3, 4, 5, 6, 0] rfl ?_
            exact ih _ _ _ (by omega) h
          · skip
            refine ww_aload_n 5 G d_W_law_282 rfl rfl ?_
            refine ww_iconst (v := (0 : Int32)) G d_W_law_283 ic_0 ?_
            refine ww_laload G ar_70 (by decide) d_W_law_284 h (fun v284 h => ?_)
            refine ww_iload 0 G d_W_law_285 rfl ?_
            refine ww_i2l G d_W_law_287 ?_
            refine ww_lcmp G d_W_law_288 ?_
            refine ww_ifeq (tgt := 294) G d_W_law_289 (by decide) h (fun h => ?_) (fun h => ?_)
            · skip
              refine ww_goto (tgt := 1485) G d_W_law_294 (by decide) ?_
              refine ww_iinc 6 (L' := [(4, _), (6, _), (5, _), (0, _), (1, _), (2, _), (3, _)]) G d_W_law_1485 rfl ic_6 (by decide) rfl ?_
              refine ww_goto (tgt := 23) G d_W_law_1488 (by decide) ?_
              refine ww_sub [3, 4, 5, 6, 0] rfl ?_
              exact ih _ _ _ (by omega) h
            · skip
              refine ww_iconst (v := (0 : Int32)) G d_W_law_292 ic_0 ?_
              exact RET _ _ _ _ _ (by omega) d_W_law_293 h
        · skip
          refine ww_iconst (v := (0 : Int32)) G d_W_law_275 ic_0 ?_
          exact RET _ _ _ _ _ (by omega) d_W_law_276 h
      refine ww_tab (w := (3 : Int32)) h (fun hc h => ?_) (fun hc3 h => ?_)
      · refine ww_tabIn (tgt := 297) G d_W_law_40 hc (by decide) (by decide) rfl (by decide) ?_
        refine ww_aload_n 1 G d_W_law_297 rfl rfl ?_
        refine ww_aload_n 0 G d_W_law_298 rfl rfl ?_
        refine ww_iload 4 G d_W_law_299 rfl ?_
        refine ww_iconst (v := (1 : Int32)) G d_W_law_301 ic_1 ?_
        refine ww_iadd G d_W_law_302 ?_
        refine wl_sld G SX d_W_law_303 h (fun v303 h => ?_)
        refine ww_aload_n 0 G d_W_law_304 rfl rfl ?_
        refine ww_iload 4 G d_W_law_305 rfl ?_
        refine ww_iconst (v := (2 : Int32)) G d_W_law_307 ic_2 ?_
        refine ww_iadd G d_W_law_308 ?_
        refine wl_sld G SX d_W_law_309 h (fun v309 h => ?_)
        refine ww_aload_n 0 G d_W_law_310 rfl rfl ?_
        refine ww_iload 4 G d_W_law_311 rfl ?_
        refine ww_iconst (v := (3 : Int32)) G d_W_law_313 ic_3 ?_
        refine ww_iadd G d_W_law_314 ?_
        refine wl_sld G SX d_W_law_315 h (fun v315 h => ?_)
        refine wl_help (As := [_, _, _, _]) G (NRB _ (by omega)) hs_102 (fun r q h => c_W_household v303 v309 v315 _ r q h) rfl rfl (Nat.le_of_ble_eq_true rfl) d_W_law_316 (by decide) h (fun v316 s316 h => ?_)
        refine ww_istore (L' := [(5, _), (0, _), (1, _), (2, _), (3, _), (4, _)]) G d_W_law_319 (by decide) rfl ?_
        refine ww_aload_n 3 G d_W_law_321 rfl rfl ?_
        refine ww_aload_n 1 G d_W_law_322 rfl rfl ?_
        refine ww_iload 5 G d_W_law_323 rfl ?_
        refine ww_iconst (v := (1 : Int32)) G d_W_law_325 ic_1 ?_
        refine ww_iadd G d_W_law_326 ?_
        refine wl_sld G SX d_W_law_327 h (fun v327 h => ?_)
        refine ww_aload_n 1 G d_W_law_328 rfl rfl ?_
        refine ww_iload 5 G d_W_law_329 rfl ?_
        refine ww_iconst (v := (2 : Int32)) G d_W_law_331 ic_2 ?_
        refine ww_iadd G d_W_law_332 ?_
        refine wl_sld G SX d_W_law_333 h (fun v333 h => ?_)
        refine ww_aload_n 1 G d_W_law_334 rfl rfl ?_
        refine ww_iload 5 G d_W_law_335 rfl ?_
        refine ww_iconst (v := (3 : Int32)) G d_W_law_337 ic_3 ?_
        refine ww_iadd G d_W_law_338 ?_
        refine wl_sld G SX d_W_law_339 h (fun v339 h => ?_)
        refine wl_cvV (As := [_, _, _]) G (NRB _ (by omega)) cs_W_105 (by decide) (fun o q h => c_M_household v327 v333 v339 _ _ _ h) rfl rfl (Nat.le_of_ble_eq_true rfl) d_W_law_340 (by decide) h (fun s340 h => ?_)
        refine ww_aload_n 3 G d_W_law_343 rfl rfl ?_
        refine wl_cvI (As := []) G (NRB _ (by omega)) cs_W_90 (by decide) (fun o q h => c_M_thrown _ _ _ h) rfl rfl (Nat.le_of_ble_eq_true rfl) d_W_law_344 (by decide) h (fun v344 s344 h => ?_)
        refine ww_iload 0 G d_W_law_347 rfl ?_
        refine ww_icmpeq (tgt := 354) G d_W_law_349 (by decide) h (fun h => ?_) (fun h => ?_)
        · skip
          refine ww_goto (tgt := 1485) G d_W_law_354 (by decide) ?_
          refine ww_iinc 5 (L' := [(4, _), (5, _), (0, _), (1, _), (2, _), (3, _)]) G d_W_law_1485 rfl ic_6 (by decide) rfl ?_
          refine ww_goto (tgt := 23) G d_W_law_1488 (by decide) ?_
          refine ww_sub [2, 3, 4, 5, 0] rfl ?_
          exact ih _ _ _ (by omega) h
        · skip
          refine ww_iconst (v := (0 : Int32)) G d_W_law_352 ic_0 ?_
          exact RET _ _ _ _ _ (by omega) d_W_law_353 h
      refine ww_tab (w := (4 : Int32)) h (fun hc h => ?_) (fun hc4 h => ?_)
      · refine ww_tabIn (tgt := 357) G d_W_law_40 hc (by decide) (by decide) rfl (by decide) ?_
        refine ww_aload_n 1 G d_W_law_357 rfl rfl ?_
        refine ww_aload_n 0 G d_W_law_358 rfl rfl ?_
        refine ww_iload 4 G d_W_law_359 rfl ?_
        refine ww_iconst (v := (1 : Int32)) G d_W_law_361 ic_1 ?_
        refine ww_iadd G d_W_law_362 ?_
        refine wl_sld G SX d_W_law_363 h (fun v363 h => ?_)
        refine ww_aload_n 0 G d_W_law_364 rfl rfl ?_
        refine ww_iload 4 G d_W_law_365 rfl ?_
        refine ww_iconst (v := (2 : Int32)) G d_W_law_367 ic_2 ?_
        refine ww_iadd G d_W_law_368 ?_
        refine wl_sld G SX d_W_law_369 h (fun v369 h => ?_)
        refine ww_aload_n 0 G d_W_law_370 rfl rfl ?_
        refine ww_iload 4 G d_W_law_371 rfl ?_
        refine ww_iconst (v := (3 : Int32)) G d_W_law_373 ic_3 ?_
        refine ww_iadd G d_W_law_374 ?_
        refine wl_sld G SX d_W_law_375 h (fun v375 h => ?_)
        refine ww_aload_n 3 G d_W_law_376 rfl rfl ?_
        refine wl_help (As := [_, _, _, _, _]) G (NRB _ (by omega)) hs_106 (fun r q h => c_W_group v363 v369 v375 _ r q h) rfl rfl (Nat.le_of_ble_eq_true rfl) d_W_law_377 (by decide) h (fun v377 s377 h => ?_)
        refine ww_istore (L' := [(5, _), (0, _), (1, _), (2, _), (3, _), (4, _)]) G d_W_law_380 (by decide) rfl ?_
        refine ww_aload_n 3 G d_W_law_382 rfl rfl ?_
        refine ww_aload_n 1 G d_W_law_383 rfl rfl ?_
        refine ww_iload 5 G d_W_law_384 rfl ?_
        refine ww_iconst (v := (1 : Int32)) G d_W_law_386 ic_1 ?_
        refine ww_iadd G d_W_law_387 ?_
        refine wl_sld G SX d_W_law_388 h (fun v388 h => ?_)
        refine ww_aload_n 1 G d_W_law_389 rfl rfl ?_
        refine ww_iload 5 G d_W_law_390 rfl ?_
        refine ww_iconst (v := (2 : Int32)) G d_W_law_392 ic_2 ?_
        refine ww_iadd G d_W_law_393 ?_
        refine wl_sld G SX d_W_law_394 h (fun v394 h => ?_)
        refine ww_aload_n 1 G d_W_law_395 rfl rfl ?_
        refine ww_iload 5 G d_W_law_396 rfl ?_
        refine ww_iconst (v := (3 : Int32)) G d_W_law_398 ic_3 ?_
        refine ww_iadd G d_W_law_399 ?_
        refine wl_sld G SX d_W_law_400 h (fun v400 h => ?_)
        refine wl_cvI (As := [_, _, _]) G (NRB _ (by omega)) cs_W_108 (by decide) (fun o q h => c_M_group v388 v394 v400 _ _ _ h) rfl rfl (Nat.le_of_ble_eq_true rfl) d_W_law_401 (by decide) h (fun v401 s401 h => ?_)
        refine ww_istore (L' := [(6, _), (5, _), (0, _), (1, _), (2, _), (3, _), (4, _)]) G d_W_law_404 (by decide) rfl ?_
        refine ww_aload_n 4 G d_W_law_406 rfl rfl ?_
        refine wl_cvI (As := []) G (NRB _ (by omega)) cs_W_90 (by decide) (fun o q h => c_M_thrown _ _ _ h) rfl rfl (Nat.le_of_ble_eq_true rfl) d_W_law_407 (by decide) h (fun v407 s407 h => ?_)
        refine ww_iload 1 G d_W_law_410 rfl ?_
        refine ww_icmpeq (tgt := 417) G d_W_law_412 (by decide) h (fun h => ?_) (fun h => ?_)
        · skip
          refine ww_iload 1 G d_W_law_417 rfl ?_
          refine ww_ifne (tgt := 441) G d_W_law_419 (by decide) h (fun h => ?_) (fun h => ?_)
          · skip
            refine ww_goto (tgt := 1485) G d_W_law_441 (by decide) ?_
            refine ww_iinc 6 (L' := [(4, _), (6, _), (5, _), (0, _), (1, _), (2, _), (3, _)]) G d_W_law_1485 rfl ic_6 (by decide) rfl ?_
            refine ww_goto (tgt := 23) G d_W_law_1488 (by decide) ?_
            refine ww_sub [3, 4, 5, 6, 0] rfl ?_
            exact ih _ _ _ (by omega) h
          · skip
            refine ww_aload_n 5 G d_W_law_422 rfl rfl ?_
            refine ww_iconst (v := (0 : Int32)) G d_W_law_423 ic_0 ?_
            refine ww_laload G ar_70 (by decide) d_W_law_424 h (fun v424 h => ?_)
            refine ww_iload 0 G d_W_law_425 rfl ?_
            refine ww_jn h (fun (y435 : Int64) (s435 : Mem) => WW K Γ (n + 1) s435 435 [(0, .ref (aa K 71 0)), (1, .ref (aa K 0 0)), (2, .ref (aa K 30 0)), (3, .ref (aa K 70 0)), (4, .int x4)] [.long y435, .long v424]) (fun y435 s435 h => ?_) (fun r435 J435 h => ?_)
            · skip
              refine ww_lcmp G d_W_law_435 ?_
              refine ww_ifeq (tgt := 441) G d_W_law_436 (by decide) h (fun h => ?_) (fun h => ?_)
              · skip
                refine ww_goto (tgt := 1485) G d_W_law_441 (by decide) ?_
                refine ww_iinc 4 (L' := [(4, _), (0, _), (1, _), (2, _), (3, _)]) G d_W_law_1485 rfl ic_6 (by decide) rfl ?_
                refine ww_goto (tgt := 23) G d_W_law_1488 (by decide) ?_
                refine ww_sub [1, 2, 3, 4, 0] rfl ?_
                exact ih _ _ _ (by omega) h
              · skip
                refine ww_iconst (v := (0 : Int32)) G d_W_law_439 ic_0 ?_
                exact RET _ _ _ _ _ (by omega) d_W_law_440 h
            refine ww_ifeq (tgt := 434) G d_W_law_427 (by decide) h (fun h => ?_) (fun h => ?_)
            · skip
              refine ww_lconst (v := (0 : Int64)) G d_W_law_434 lc_0 ?_
              refine ww_sub [2, 3, 4, 5, 6] rfl ?_
              exact J435 _ _ h
            · skip
              refine ww_lconst (v := (1 : Int64)) G d_W_law_430 lc_1 ?_
              refine ww_goto (tgt := 435) G d_W_law_431 (by decide) ?_
              refine ww_sub [2, 3, 4, 5, 6] rfl ?_
              exact J435 _ _ h
        · skip
          refine ww_iconst (v := (0 : Int32)) G d_W_law_415 ic_0 ?_
          exact RET _ _ _ _ _ (by omega) d_W_law_416 h
      refine ww_tab (w := (5 : Int32)) h (fun hc h => ?_) (fun hc5 h => ?_)
      · refine ww_tabIn (tgt := 444) G d_W_law_40 hc (by decide) (by decide) rfl (by decide) ?_
        refine ww_aload_n 1 G d_W_law_444 rfl rfl ?_
        refine ww_aload_n 0 G d_W_law_445 rfl rfl ?_
        refine ww_iload 4 G d_W_law_446 rfl ?_
        refine ww_iconst (v := (1 : Int32)) G d_W_law_448 ic_1 ?_
        refine ww_iadd G d_W_law_449 ?_
        refine wl_sld G SX d_W_law_450 h (fun v450 h => ?_)
        refine wl_cvI (As := [_]) G (NRB _ (by omega)) cs_W_109 (by decide) (fun o q h => c_X_key v450 _ _ _ h) rfl rfl (Nat.le_of_ble_eq_true rfl) d_W_law_451 (by decide) h (fun v451 s451 h => ?_)
        refine ww_aload_n 2 G d_W_law_454 rfl rfl ?_
        refine ww_aload_n 0 G d_W_law_455 rfl rfl ?_
        refine ww_iload 4 G d_W_law_456 rfl ?_
        refine ww_iconst (v := (1 : Int32)) G d_W_law_458 ic_1 ?_
        refine ww_iadd G d_W_law_459 ?_
        refine wl_sld G SX d_W_law_460 h (fun v460 h => ?_)
        refine wl_cvI (As := [_]) G (NRB _ (by omega)) cs_W_113 (by decide) (fun o q h => c_M_key v460 _ _ _ h) rfl rfl (Nat.le_of_ble_eq_true rfl) d_W_law_461 (by decide) h (fun v461 s461 h => ?_)
        refine ww_icmpeq (tgt := 1485) G d_W_law_464 (by decide) h (fun h => ?_) (fun h => ?_)
        · skip
          refine ww_iinc 4 (L' := [(4, _), (0, _), (1, _), (2, _), (3, _)]) G d_W_law_1485 rfl ic_6 (by decide) rfl ?_
          refine ww_goto (tgt := 23) G d_W_law_1488 (by decide) ?_
          refine ww_sub [1, 2, 3, 4, 0] rfl ?_
          exact ih _ _ _ (by omega) h
        · skip
          refine ww_iconst (v := (0 : Int32)) G d_W_law_467 ic_0 ?_
          exact RET _ _ _ _ _ (by omega) d_W_law_468 h
      refine ww_tab (w := (6 : Int32)) h (fun hc h => ?_) (fun hc6 h => ?_)
      · refine ww_tabIn (tgt := 469) G d_W_law_40 hc (by decide) (by decide) rfl (by decide) ?_
        refine ww_aload_n 1 G d_W_law_469 rfl rfl ?_
        refine ww_aload_n 0 G d_W_law_470 rfl rfl ?_
        refine ww_iload 4 G d_W_law_471 rfl ?_
        refine ww_iconst (v := (1 : Int32)) G d_W_law_473 ic_1 ?_
        refine ww_iadd G d_W_law_474 ?_
        refine wl_sld G SX d_W_law_475 h (fun v475 h => ?_)
        refine ww_aload_n 0 G d_W_law_476 rfl rfl ?_
        refine ww_iload 4 G d_W_law_477 rfl ?_
        refine ww_iconst (v := (2 : Int32)) G d_W_law_479 ic_2 ?_
        refine ww_iadd G d_W_law_480 ?_
        refine wl_sld G SX d_W_law_481 h (fun v481 h => ?_)
        refine ww_aload_n 0 G d_W_law_482 rfl rfl ?_
        refine ww_iload 4 G d_W_law_483 rfl ?_
        refine ww_iconst (v := (3 : Int32)) G d_W_law_485 ic_3 ?_
        refine ww_iadd G d_W_law_486 ?_
        refine wl_sld G SX d_W_law_487 h (fun v487 h => ?_)
        refine ww_aload_n 0 G d_W_law_488 rfl rfl ?_
        refine ww_iload 4 G d_W_law_489 rfl ?_
        refine ww_iconst (v := (4 : Int32)) G d_W_law_491 ic_4 ?_
        refine ww_iadd G d_W_law_492 ?_
        refine wl_sld G SX d_W_law_493 h (fun v493 h => ?_)
        refine ww_aload_n 3 G d_W_law_494 rfl rfl ?_
        refine wl_help (As := [_, _, _, _, _, _]) G (NRB _ (by omega)) hs_114 (fun r q h => c_W_post v475 v481 v487 v493 _ r q h) rfl rfl (Nat.le_of_ble_eq_true rfl) d_W_law_495 (by decide) h (fun v495 s495 h => ?_)
        refine ww_istore (L' := [(5, _), (0, _), (1, _), (2, _), (3, _), (4, _)]) G d_W_law_498 (by decide) rfl ?_
        refine ww_aload_n 3 G d_W_law_500 rfl rfl ?_
        refine ww_aload_n 1 G d_W_law_501 rfl rfl ?_
        refine ww_iload 5 G d_W_law_502 rfl ?_
        refine ww_iconst (v := (1 : Int32)) G d_W_law_504 ic_1 ?_
        refine ww_iadd G d_W_law_505 ?_
        refine wl_sld G SX d_W_law_506 h (fun v506 h => ?_)
        refine ww_aload_n 1 G d_W_law_507 rfl rfl ?_
        refine ww_iload 5 G d_W_law_508 rfl ?_
        refine ww_iconst (v := (2 : Int32)) G d_W_law_510 ic_2 ?_
        refine ww_iadd G d_W_law_511 ?_
        refine wl_sld G SX d_W_law_512 h (fun v512 h => ?_)
        refine ww_aload_n 1 G d_W_law_513 rfl rfl ?_
        refine ww_iload 5 G d_W_law_514 rfl ?_
        refine ww_iconst (v := (3 : Int32)) G d_W_law_516 ic_3 ?_
        refine ww_iadd G d_W_law_517 ?_
        refine wl_sld G SX d_W_law_518 h (fun v518 h => ?_)
        refine ww_aload_n 1 G d_W_law_519 rfl rfl ?_
        refine ww_iload 5 G d_W_law_520 rfl ?_
        refine ww_iconst (v := (4 : Int32)) G d_W_law_522 ic_4 ?_
        refine ww_iadd G d_W_law_523 ?_
        refine wl_sld G SX d_W_law_524 h (fun v524 h => ?_)
        refine wl_cvI (As := [_, _, _, _]) G (NRB _ (by omega)) cs_W_117 (by decide) (fun o q h => c_M_post v506 v512 v518 v524 _ _ _ h) rfl rfl (Nat.le_of_ble_eq_true rfl) d_W_law_525 (by decide) h (fun v525 s525 h => ?_)
        refine ww_istore (L' := [(6, _), (5, _), (0, _), (1, _), (2, _), (3, _), (4, _)]) G d_W_law_528 (by decide) rfl ?_
        refine ww_aload_n 4 G d_W_law_530 rfl rfl ?_
        refine wl_cvI (As := []) G (NRB _ (by omega)) cs_W_90 (by decide) (fun o q h => c_M_thrown _ _ _ h) rfl rfl (Nat.le_of_ble_eq_true rfl) d_W_law_531 (by decide) h (fun v531 s531 h => ?_)
        refine ww_iload 1 G d_W_law_534 rfl ?_
        refine ww_icmpeq (tgt := 541) G d_W_law_536 (by decide) h (fun h => ?_) (fun h => ?_)
        · skip
          refine ww_iload 1 G d_W_law_541 rfl ?_
          refine ww_ifne (tgt := 558) G d_W_law_543 (by decide) h (fun h => ?_) (fun h => ?_)
          · skip
            refine ww_goto (tgt := 1485) G d_W_law_558 (by decide) ?_
            refine ww_iinc 6 (L' := [(4, _), (6, _), (5, _), (0, _), (1, _), (2, _), (3, _)]) G d_W_law_1485 rfl ic_6 (by decide) rfl ?_
            refine ww_goto (tgt := 23) G d_W_law_1488 (by decide) ?_
            refine ww_sub [3, 4, 5, 6, 0] rfl ?_
            exact ih _ _ _ (by omega) h
          · skip
            refine ww_aload_n 5 G d_W_law_546 rfl rfl ?_
            refine ww_iconst (v := (0 : Int32)) G d_W_law_547 ic_0 ?_
            refine ww_laload G ar_70 (by decide) d_W_law_548 h (fun v548 h => ?_)
            refine ww_iload 0 G d_W_law_549 rfl ?_
            refine ww_i2l G d_W_law_551 ?_
            refine ww_lcmp G d_W_law_552 ?_
            refine ww_ifeq (tgt := 558) G d_W_law_553 (by decide) h (fun h => ?_) (fun h => ?_)
            · skip
              refine ww_goto (tgt := 1485) G d_W_law_558 (by decide) ?_
              refine ww_iinc 6 (L' := [(4, _), (6, _), (5, _), (0, _), (1, _), (2, _), (3, _)]) G d_W_law_1485 rfl ic_6 (by decide) rfl ?_
              refine ww_goto (tgt := 23) G d_W_law_1488 (by decide) ?_
              refine ww_sub [3, 4, 5, 6, 0] rfl ?_
              exact ih _ _ _ (by omega) h
            · skip
              refine ww_iconst (v := (0 : Int32)) G d_W_law_556 ic_0 ?_
              exact RET _ _ _ _ _ (by omega) d_W_law_557 h
        · skip
          refine ww_iconst (v := (0 : Int32)) G d_W_law_539 ic_0 ?_
          exact RET _ _ _ _ _ (by omega) d_W_law_540 h
      refine ww_tab (w := (7 : Int32)) h (fun hc h => ?_) (fun hc7 h => ?_)
      · refine ww_tabIn (tgt := 561) G d_W_law_40 hc (by decide) (by decide) rfl (by decide) ?_
        refine ww_aload_n 1 G d_W_law_561 rfl rfl ?_
        refine ww_aload_n 0 G d_W_law_562 rfl rfl ?_
        refine ww_iload 4 G d_W_law_563 rfl ?_
        refine ww_iconst (v := (1 : Int32)) G d_W_law_565 ic_1 ?_
        refine ww_iadd G d_W_law_566 ?_
        refine wl_sld G SX d_W_law_567 h (fun v567 h => ?_)
        refine ww_aload_n 3 G d_W_law_568 rfl rfl ?_
        refine wl_help (As := [_, _, _]) G (NRB _ (by omega)) hs_118 (fun r q h => c_W_minute v567 _ r q h) rfl rfl (Nat.le_of_ble_eq_true rfl) d_W_law_569 (by decide) h (fun v569 s569 h => ?_)
        refine ww_istore (L' := [(5, _), (0, _), (1, _), (2, _), (3, _), (4, _)]) G d_W_law_572 (by decide) rfl ?_
        refine ww_aload_n 3 G d_W_law_574 rfl rfl ?_
        refine ww_aload_n 1 G d_W_law_575 rfl rfl ?_
        refine ww_iload 5 G d_W_law_576 rfl ?_
        refine ww_iconst (v := (1 : Int32)) G d_W_law_578 ic_1 ?_
        refine ww_iadd G d_W_law_579 ?_
        refine wl_sld G SX d_W_law_580 h (fun v580 h => ?_)
        refine wl_cvI (As := [_]) G (NRB _ (by omega)) cs_W_121 (by decide) (fun o q h => c_M_minute v580 _ _ _ h) rfl rfl (Nat.le_of_ble_eq_true rfl) d_W_law_581 (by decide) h (fun v581 s581 h => ?_)
        refine ww_istore (L' := [(6, _), (5, _), (0, _), (1, _), (2, _), (3, _), (4, _)]) G d_W_law_584 (by decide) rfl ?_
        refine ww_aload_n 4 G d_W_law_586 rfl rfl ?_
        refine wl_cvI (As := []) G (NRB _ (by omega)) cs_W_90 (by decide) (fun o q h => c_M_thrown _ _ _ h) rfl rfl (Nat.le_of_ble_eq_true rfl) d_W_law_587 (by decide) h (fun v587 s587 h => ?_)
        refine ww_iload 1 G d_W_law_590 rfl ?_
        refine ww_icmpeq (tgt := 597) G d_W_law_592 (by decide) h (fun h => ?_) (fun h => ?_)
        · skip
          refine ww_iload 1 G d_W_law_597 rfl ?_
          refine ww_ifne (tgt := 614) G d_W_law_599 (by decide) h (fun h => ?_) (fun h => ?_)
          · skip
            refine ww_goto (tgt := 1485) G d_W_law_614 (by decide) ?_
            refine ww_iinc 6 (L' := [(4, _), (6, _), (5, _), (0, _), (1, _), (2, _), (3, _)]) G d_W_law_1485 rfl ic_6 (by decide) rfl ?_
            refine ww_goto (tgt := 23) G d_W_law_1488 (by decide) ?_
            refine ww_sub [3, 4, 5, 6, 0] rfl ?_
            exact ih _ _ _ (by omega) h
          · skip
            refine ww_aload_n 5 G d_W_law_602 rfl rfl ?_
            refine ww_iconst (v := (0 : Int32)) G d_W_law_603 ic_0 ?_
            refine ww_laload G ar_70 (by decide) d_W_law_604 h (fun v604 h => ?_)
            refine ww_iload 0 G d_W_law_605 rfl ?_
            refine ww_i2l G d_W_law_607 ?_
            refine ww_lcmp G d_W_law_608 ?_
            refine ww_ifeq (tgt := 614) G d_W_law_609 (by decide) h (fun h => ?_) (fun h => ?_)
            · skip
              refine ww_goto (tgt := 1485) G d_W_law_614 (by decide) ?_
              refine ww_iinc 6 (L' := [(4, _), (6, _), (5, _), (0, _), (1, _), (2, _), (3, _)]) G d_W_law_1485 rfl ic_6 (by decide) rfl ?_
              refine ww_goto (tgt := 23) G d_W_law_1488 (by decide) ?_
              refine ww_sub [3, 4, 5, 6, 0] rfl ?_
              exact ih _ _ _ (by omega) h
            · skip
              refine ww_iconst (v := (0 : Int32)) G d_W_law_612 ic_0 ?_
              exact RET _ _ _ _ _ (by omega) d_W_law_613 h
        · skip
          refine ww_iconst (v := (0 : Int32)) G d_W_law_595 ic_0 ?_
          exact RET _ _ _ _ _ (by omega) d_W_law_596 h
      refine ww_tab (w := (8 : Int32)) h (fun hc h => ?_) (fun hc8 h => ?_)
      · refine ww_tabIn (tgt := 617) G d_W_law_40 hc (by decide) (by decide) rfl (by decide) ?_
        refine ww_aload_n 1 G d_W_law_617 rfl rfl ?_
        refine ww_aload_n 0 G d_W_law_618 rfl rfl ?_
        refine ww_iload 4 G d_W_law_619 rfl ?_
        refine ww_iconst (v := (1 : Int32)) G d_W_law_621 ic_1 ?_
        refine ww_iadd G d_W_law_622 ?_
        refine wl_sld G SX d_W_law_623 h (fun v623 h => ?_)
        refine ww_aload_n 0 G d_W_law_624 rfl rfl ?_
        refine ww_iload 4 G d_W_law_625 rfl ?_
        refine ww_iconst (v := (2 : Int32)) G d_W_law_627 ic_2 ?_
        refine ww_iadd G d_W_law_628 ?_
        refine wl_sld G SX d_W_law_629 h (fun v629 h => ?_)
        refine ww_aload_n 0 G d_W_law_630 rfl rfl ?_
        refine ww_iload 4 G d_W_law_631 rfl ?_
        refine ww_iconst (v := (3 : Int32)) G d_W_law_633 ic_3 ?_
        refine ww_iadd G d_W_law_634 ?_
        refine wl_sld G SX d_W_law_635 h (fun v635 h => ?_)
        refine ww_aload_n 3 G d_W_law_636 rfl rfl ?_
        refine wl_help (As := [_, _, _, _, _]) G (NRB _ (by omega)) hs_122 (fun r q h => c_W_meet v623 v629 v635 _ r q h) rfl rfl (Nat.le_of_ble_eq_true rfl) d_W_law_637 (by decide) h (fun v637 s637 h => ?_)
        refine ww_istore (L' := [(5, _), (0, _), (1, _), (2, _), (3, _), (4, _)]) G d_W_law_640 (by decide) rfl ?_
        refine ww_aload_n 3 G d_W_law_642 rfl rfl ?_
        refine ww_aload_n 1 G d_W_law_643 rfl rfl ?_
        refine ww_iload 5 G d_W_law_644 rfl ?_
        refine ww_iconst (v := (1 : Int32)) G d_W_law_646 ic_1 ?_
        refine ww_iadd G d_W_law_647 ?_
        refine wl_sld G SX d_W_law_648 h (fun v648 h => ?_)
        refine ww_aload_n 1 G d_W_law_649 rfl rfl ?_
        refine ww_iload 5 G d_W_law_650 rfl ?_
        refine ww_iconst (v := (2 : Int32)) G d_W_law_652 ic_2 ?_
        refine ww_iadd G d_W_law_653 ?_
        refine wl_sld G SX d_W_law_654 h (fun v654 h => ?_)
        refine ww_aload_n 1 G d_W_law_655 rfl rfl ?_
        refine ww_iload 5 G d_W_law_656 rfl ?_
        refine ww_iconst (v := (3 : Int32)) G d_W_law_658 ic_3 ?_
        refine ww_iadd G d_W_law_659 ?_
        refine wl_sld G SX d_W_law_660 h (fun v660 h => ?_)
        refine wl_cvI (As := [_, _, _]) G (NRB _ (by omega)) cs_W_124 (by decide) (fun o q h => c_M_meet v648 v654 v660 _ _ _ h) rfl rfl (Nat.le_of_ble_eq_true rfl) d_W_law_661 (by decide) h (fun v661 s661 h => ?_)
        refine ww_istore (L' := [(6, _), (5, _), (0, _), (1, _), (2, _), (3, _), (4, _)]) G d_W_law_664 (by decide) rfl ?_
        refine ww_aload_n 4 G d_W_law_666 rfl rfl ?_
        refine wl_cvI (As := []) G (NRB _ (by omega)) cs_W_90 (by decide) (fun o q h => c_M_thrown _ _ _ h) rfl rfl (Nat.le_of_ble_eq_true rfl) d_W_law_667 (by decide) h (fun v667 s667 h => ?_)
        refine ww_iload 1 G d_W_law_670 rfl ?_
        refine ww_icmpeq (tgt := 677) G d_W_law_672 (by decide) h (fun h => ?_) (fun h => ?_)
        · skip
          refine ww_iload 1 G d_W_law_677 rfl ?_
          refine ww_ifne (tgt := 694) G d_W_law_679 (by decide) h (fun h => ?_) (fun h => ?_)
          · skip
            refine ww_goto (tgt := 1485) G d_W_law_694 (by decide) ?_
            refine ww_iinc 6 (L' := [(4, _), (6, _), (5, _), (0, _), (1, _), (2, _), (3, _)]) G d_W_law_1485 rfl ic_6 (by decide) rfl ?_
            refine ww_goto (tgt := 23) G d_W_law_1488 (by decide) ?_
            refine ww_sub [3, 4, 5, 6, 0] rfl ?_
            exact ih _ _ _ (by omega) h
          · skip
            refine ww_aload_n 5 G d_W_law_682 rfl rfl ?_
            refine ww_iconst (v := (0 : Int32)) G d_W_law_683 ic_0 ?_
            refine ww_laload G ar_70 (by decide) d_W_law_684 h (fun v684 h => ?_)
            refine ww_iload 0 G d_W_law_685 rfl ?_
            refine ww_i2l G d_W_law_687 ?_
            refine ww_lcmp G d_W_law_688 ?_
            refine ww_ifeq (tgt := 694) G d_W_law_689 (by decide) h (fun h => ?_) (fun h => ?_)
            · skip
              refine ww_goto (tgt := 1485) G d_W_law_694 (by decide) ?_
              refine ww_iinc 6 (L' := [(4, _), (6, _), (5, _), (0, _), (1, _), (2, _), (3, _)]) G d_W_law_1485 rfl ic_6 (by decide) rfl ?_
              refine ww_goto (tgt := 23) G d_W_law_1488 (by decide) ?_
              refine ww_sub [3, 4, 5, 6, 0] rfl ?_
              exact ih _ _ _ (by omega) h
            · skip
              refine ww_iconst (v := (0 : Int32)) G d_W_law_692 ic_0 ?_
              exact RET _ _ _ _ _ (by omega) d_W_law_693 h
        · skip
          refine ww_iconst (v := (0 : Int32)) G d_W_law_675 ic_0 ?_
          exact RET _ _ _ _ _ (by omega) d_W_law_676 h
      refine ww_tab (w := (9 : Int32)) h (fun hc h => ?_) (fun hc9 h => ?_)
      · refine ww_tabIn (tgt := 697) G d_W_law_40 hc (by decide) (by decide) rfl (by decide) ?_
        refine ww_aload_n 1 G d_W_law_697 rfl rfl ?_
        refine ww_aload_n 0 G d_W_law_698 rfl rfl ?_
        refine ww_iload 4 G d_W_law_699 rfl ?_
        refine ww_iconst (v := (1 : Int32)) G d_W_law_701 ic_1 ?_
        refine ww_iadd G d_W_law_702 ?_
        refine wl_sld G SX d_W_law_703 h (fun v703 h => ?_)
        refine ww_aload_n 0 G d_W_law_704 rfl rfl ?_
        refine ww_iload 4 G d_W_law_705 rfl ?_
        refine ww_iconst (v := (2 : Int32)) G d_W_law_707 ic_2 ?_
        refine ww_iadd G d_W_law_708 ?_
        refine wl_sld G SX d_W_law_709 h (fun v709 h => ?_)
        refine ww_aload_n 0 G d_W_law_710 rfl rfl ?_
        refine ww_iload 4 G d_W_law_711 rfl ?_
        refine ww_iconst (v := (3 : Int32)) G d_W_law_713 ic_3 ?_
        refine ww_iadd G d_W_law_714 ?_
        refine wl_sld G SX d_W_law_715 h (fun v715 h => ?_)
        refine ww_aload_n 3 G d_W_law_716 rfl rfl ?_
        refine wl_help (As := [_, _, _, _, _]) G (NRB _ (by omega)) hs_125 (fun r q h => c_W_breakOff v703 v709 v715 _ r q h) rfl rfl (Nat.le_of_ble_eq_true rfl) d_W_law_717 (by decide) h (fun v717 s717 h => ?_)
        refine ww_istore (L' := [(5, _), (0, _), (1, _), (2, _), (3, _), (4, _)]) G d_W_law_720 (by decide) rfl ?_
        refine ww_aload_n 3 G d_W_law_722 rfl rfl ?_
        refine ww_aload_n 1 G d_W_law_723 rfl rfl ?_
        refine ww_iload 5 G d_W_law_724 rfl ?_
        refine ww_iconst (v := (1 : Int32)) G d_W_law_726 ic_1 ?_
        refine ww_iadd G d_W_law_727 ?_
        refine wl_sld G SX d_W_law_728 h (fun v728 h => ?_)
        refine ww_aload_n 1 G d_W_law_729 rfl rfl ?_
        refine ww_iload 5 G d_W_law_730 rfl ?_
        refine ww_iconst (v := (2 : Int32)) G d_W_law_732 ic_2 ?_
        refine ww_iadd G d_W_law_733 ?_
        refine wl_sld G SX d_W_law_734 h (fun v734 h => ?_)
        refine ww_aload_n 1 G d_W_law_735 rfl rfl ?_
        refine ww_iload 5 G d_W_law_736 rfl ?_
        refine ww_iconst (v := (3 : Int32)) G d_W_law_738 ic_3 ?_
        refine ww_iadd G d_W_law_739 ?_
        refine wl_sld G SX d_W_law_740 h (fun v740 h => ?_)
        refine wl_cvI (As := [_, _, _]) G (NRB _ (by omega)) cs_W_127 (by decide) (fun o q h => c_M_breakOff v728 v734 v740 _ _ _ h) rfl rfl (Nat.le_of_ble_eq_true rfl) d_W_law_741 (by decide) h (fun v741 s741 h => ?_)
        refine ww_istore (L' := [(6, _), (5, _), (0, _), (1, _), (2, _), (3, _), (4, _)]) G d_W_law_744 (by decide) rfl ?_
        refine ww_aload_n 4 G d_W_law_746 rfl rfl ?_
        refine wl_cvI (As := []) G (NRB _ (by omega)) cs_W_90 (by decide) (fun o q h => c_M_thrown _ _ _ h) rfl rfl (Nat.le_of_ble_eq_true rfl) d_W_law_747 (by decide) h (fun v747 s747 h => ?_)
        refine ww_iload 1 G d_W_law_750 rfl ?_
        refine ww_icmpeq (tgt := 757) G d_W_law_752 (by decide) h (fun h => ?_) (fun h => ?_)
        · skip
          refine ww_iload 1 G d_W_law_757 rfl ?_
          refine ww_ifne (tgt := 774) G d_W_law_759 (by decide) h (fun h => ?_) (fun h => ?_)
          · skip
            refine ww_goto (tgt := 1485) G d_W_law_774 (by decide) ?_
            refine ww_iinc 6 (L' := [(4, _), (6, _), (5, _), (0, _), (1, _), (2, _), (3, _)]) G d_W_law_1485 rfl ic_6 (by decide) rfl ?_
            refine ww_goto (tgt := 23) G d_W_law_1488 (by decide) ?_
            refine ww_sub [3, 4, 5, 6, 0] rfl ?_
            exact ih _ _ _ (by omega) h
          · skip
            refine ww_aload_n 5 G d_W_law_762 rfl rfl ?_
            refine ww_iconst (v := (0 : Int32)) G d_W_law_763 ic_0 ?_
            refine ww_laload G ar_70 (by decide) d_W_law_764 h (fun v764 h => ?_)
            refine ww_iload 0 G d_W_law_765 rfl ?_
            refine ww_i2l G d_W_law_767 ?_
            refine ww_lcmp G d_W_law_768 ?_
            refine ww_ifeq (tgt := 774) G d_W_law_769 (by decide) h (fun h => ?_) (fun h => ?_)
            · skip
              refine ww_goto (tgt := 1485) G d_W_law_774 (by decide) ?_
              refine ww_iinc 6 (L' := [(4, _), (6, _), (5, _), (0, _), (1, _), (2, _), (3, _)]) G d_W_law_1485 rfl ic_6 (by decide) rfl ?_
              refine ww_goto (tgt := 23) G d_W_law_1488 (by decide) ?_
              refine ww_sub [3, 4, 5, 6, 0] rfl ?_
              exact ih _ _ _ (by omega) h
            · skip
              refine ww_iconst (v := (0 : Int32)) G d_W_law_772 ic_0 ?_
              exact RET _ _ _ _ _ (by omega) d_W_law_773 h
        · skip
          refine ww_iconst (v := (0 : Int32)) G d_W_law_755 ic_0 ?_
          exact RET _ _ _ _ _ (by omega) d_W_law_756 h
      refine ww_tab (w := (10 : Int32)) h (fun hc h => ?_) (fun hc10 h => ?_)
      · refine ww_tabIn (tgt := 777) G d_W_law_40 hc (by decide) (by decide) rfl (by decide) ?_
        refine ww_aload_n 1 G d_W_law_777 rfl rfl ?_
        refine ww_aload_n 0 G d_W_law_778 rfl rfl ?_
        refine ww_iload 4 G d_W_law_779 rfl ?_
        refine ww_iconst (v := (1 : Int32)) G d_W_law_781 ic_1 ?_
        refine ww_iadd G d_W_law_782 ?_
        refine wl_sld G SX d_W_law_783 h (fun v783 h => ?_)
        refine wl_help (As := [_, _]) G (NRB _ (by omega)) hs_128 (fun r q h => c_W_reboot v783 _ r q h) rfl rfl (Nat.le_of_ble_eq_true rfl) d_W_law_784 (by decide) h (fun v784 s784 h => ?_)
        refine ww_istore (L' := [(5, _), (0, _), (1, _), (2, _), (3, _), (4, _)]) G d_W_law_787 (by decide) rfl ?_
        refine ww_aload_n 3 G d_W_law_789 rfl rfl ?_
        refine ww_aload_n 1 G d_W_law_790 rfl rfl ?_
        refine ww_iload 5 G d_W_law_791 rfl ?_
        refine ww_iconst (v := (1 : Int32)) G d_W_law_793 ic_1 ?_
        refine ww_iadd G d_W_law_794 ?_
        refine wl_sld G SX d_W_law_795 h (fun v795 h => ?_)
        refine wl_cvV (As := [_]) G (NRB _ (by omega)) cs_W_131 (by decide) (fun o q h => c_M_reboot v795 _ _ _ h) rfl rfl (Nat.le_of_ble_eq_true rfl) d_W_law_796 (by decide) h (fun s796 h => ?_)
        refine ww_aload_n 3 G d_W_law_799 rfl rfl ?_
        refine wl_cvI (As := []) G (NRB _ (by omega)) cs_W_90 (by decide) (fun o q h => c_M_thrown _ _ _ h) rfl rfl (Nat.le_of_ble_eq_true rfl) d_W_law_800 (by decide) h (fun v800 s800 h => ?_)
        refine ww_iload 0 G d_W_law_803 rfl ?_
        refine ww_icmpeq (tgt := 810) G d_W_law_805 (by decide) h (fun h => ?_) (fun h => ?_)
        · skip
          refine ww_goto (tgt := 1485) G d_W_law_810 (by decide) ?_
          refine ww_iinc 5 (L' := [(4, _), (5, _), (0, _), (1, _), (2, _), (3, _)]) G d_W_law_1485 rfl ic_6 (by decide) rfl ?_
          refine ww_goto (tgt := 23) G d_W_law_1488 (by decide) ?_
          refine ww_sub [2, 3, 4, 5, 0] rfl ?_
          exact ih _ _ _ (by omega) h
        · skip
          refine ww_iconst (v := (0 : Int32)) G d_W_law_808 ic_0 ?_
          exact RET _ _ _ _ _ (by omega) d_W_law_809 h
      refine ww_tab (w := (11 : Int32)) h (fun hc h => ?_) (fun hc11 h => ?_)
      · refine ww_tabIn (tgt := 813) G d_W_law_40 hc (by decide) (by decide) rfl (by decide) ?_
        refine ww_aload_n 1 G d_W_law_813 rfl rfl ?_
        refine ww_aload_n 0 G d_W_law_814 rfl rfl ?_
        refine ww_iload 4 G d_W_law_815 rfl ?_
        refine ww_iconst (v := (1 : Int32)) G d_W_law_817 ic_1 ?_
        refine ww_iadd G d_W_law_818 ?_
        refine wl_sld G SX d_W_law_819 h (fun v819 h => ?_)
        refine ww_aload_n 0 G d_W_law_820 rfl rfl ?_
        refine ww_iload 4 G d_W_law_821 rfl ?_
        refine ww_iconst (v := (2 : Int32)) G d_W_law_823 ic_2 ?_
        refine ww_iadd G d_W_law_824 ?_
        refine wl_sld G SX d_W_law_825 h (fun v825 h => ?_)
        refine ww_aload_n 0 G d_W_law_826 rfl rfl ?_
        refine ww_iload 4 G d_W_law_827 rfl ?_
        refine ww_iconst (v := (3 : Int32)) G d_W_law_829 ic_3 ?_
        refine ww_iadd G d_W_law_830 ?_
        refine wl_sld G SX d_W_law_831 h (fun v831 h => ?_)
        refine ww_aload_n 0 G d_W_law_832 rfl rfl ?_
        refine ww_iload 4 G d_W_law_833 rfl ?_
        refine ww_iconst (v := (4 : Int32)) G d_W_law_835 ic_4 ?_
        refine ww_iadd G d_W_law_836 ?_
        refine wl_sld G SX d_W_law_837 h (fun v837 h => ?_)
        refine ww_aload_n 0 G d_W_law_838 rfl rfl ?_
        refine ww_iload 4 G d_W_law_839 rfl ?_
        refine ww_iconst (v := (5 : Int32)) G d_W_law_841 ic_5 ?_
        refine ww_iadd G d_W_law_842 ?_
        refine wl_sld G SX d_W_law_843 h (fun v843 h => ?_)
        refine ww_aload_n 3 G d_W_law_844 rfl rfl ?_
        refine wl_help (As := [_, _, _, _, _, _, _]) G (NRB _ (by omega)) hs_132 (fun r q h => c_W_spoil v819 v825 v831 v837 v843 _ r q h) rfl rfl (Nat.le_of_ble_eq_true rfl) d_W_law_845 (by decide) h (fun v845 s845 h => ?_)
        refine ww_istore (L' := [(5, _), (0, _), (1, _), (2, _), (3, _), (4, _)]) G d_W_law_848 (by decide) rfl ?_
        refine ww_aload_n 3 G d_W_law_850 rfl rfl ?_
        refine ww_aload_n 1 G d_W_law_851 rfl rfl ?_
        refine ww_iload 5 G d_W_law_852 rfl ?_
        refine ww_iconst (v := (1 : Int32)) G d_W_law_854 ic_1 ?_
        refine ww_iadd G d_W_law_855 ?_
        refine wl_sld G SX d_W_law_856 h (fun v856 h => ?_)
        refine ww_aload_n 1 G d_W_law_857 rfl rfl ?_
        refine ww_iload 5 G d_W_law_858 rfl ?_
        refine ww_iconst (v := (2 : Int32)) G d_W_law_860 ic_2 ?_
        refine ww_iadd G d_W_law_861 ?_
        refine wl_sld G SX d_W_law_862 h (fun v862 h => ?_)
        refine ww_aload_n 1 G d_W_law_863 rfl rfl ?_
        refine ww_iload 5 G d_W_law_864 rfl ?_
        refine ww_iconst (v := (3 : Int32)) G d_W_law_866 ic_3 ?_
        refine ww_iadd G d_W_law_867 ?_
        refine wl_sld G SX d_W_law_868 h (fun v868 h => ?_)
        refine ww_aload_n 1 G d_W_law_869 rfl rfl ?_
        refine ww_iload 5 G d_W_law_870 rfl ?_
        refine ww_iconst (v := (4 : Int32)) G d_W_law_872 ic_4 ?_
        refine ww_iadd G d_W_law_873 ?_
        refine wl_sld G SX d_W_law_874 h (fun v874 h => ?_)
        refine ww_aload_n 1 G d_W_law_875 rfl rfl ?_
        refine ww_iload 5 G d_W_law_876 rfl ?_
        refine ww_iconst (v := (5 : Int32)) G d_W_law_878 ic_5 ?_
        refine ww_iadd G d_W_law_879 ?_
        refine wl_sld G SX d_W_law_880 h (fun v880 h => ?_)
        refine wl_cvI (As := [_, _, _, _, _]) G (NRB _ (by omega)) cs_W_135 (by decide) (fun o q h => c_M_spoil v856 v862 v868 v874 v880 _ _ _ h) rfl rfl (Nat.le_of_ble_eq_true rfl) d_W_law_881 (by decide) h (fun v881 s881 h => ?_)
        refine ww_istore (L' := [(6, _), (5, _), (0, _), (1, _), (2, _), (3, _), (4, _)]) G d_W_law_884 (by decide) rfl ?_
        refine ww_aload_n 4 G d_W_law_886 rfl rfl ?_
        refine wl_cvI (As := []) G (NRB _ (by omega)) cs_W_90 (by decide) (fun o q h => c_M_thrown _ _ _ h) rfl rfl (Nat.le_of_ble_eq_true rfl) d_W_law_887 (by decide) h (fun v887 s887 h => ?_)
        refine ww_iload 1 G d_W_law_890 rfl ?_
        refine ww_icmpeq (tgt := 897) G d_W_law_892 (by decide) h (fun h => ?_) (fun h => ?_)
        · skip
          refine ww_iload 1 G d_W_law_897 rfl ?_
          refine ww_ifne (tgt := 914) G d_W_law_899 (by decide) h (fun h => ?_) (fun h => ?_)
          · skip
            refine ww_goto (tgt := 1485) G d_W_law_914 (by decide) ?_
            refine ww_iinc 6 (L' := [(4, _), (6, _), (5, _), (0, _), (1, _), (2, _), (3, _)]) G d_W_law_1485 rfl ic_6 (by decide) rfl ?_
            refine ww_goto (tgt := 23) G d_W_law_1488 (by decide) ?_
            refine ww_sub [3, 4, 5, 6, 0] rfl ?_
            exact ih _ _ _ (by omega) h
          · skip
            refine ww_aload_n 5 G d_W_law_902 rfl rfl ?_
            refine ww_iconst (v := (0 : Int32)) G d_W_law_903 ic_0 ?_
            refine ww_laload G ar_70 (by decide) d_W_law_904 h (fun v904 h => ?_)
            refine ww_iload 0 G d_W_law_905 rfl ?_
            refine ww_i2l G d_W_law_907 ?_
            refine ww_lcmp G d_W_law_908 ?_
            refine ww_ifeq (tgt := 914) G d_W_law_909 (by decide) h (fun h => ?_) (fun h => ?_)
            · skip
              refine ww_goto (tgt := 1485) G d_W_law_914 (by decide) ?_
              refine ww_iinc 6 (L' := [(4, _), (6, _), (5, _), (0, _), (1, _), (2, _), (3, _)]) G d_W_law_1485 rfl ic_6 (by decide) rfl ?_
              refine ww_goto (tgt := 23) G d_W_law_1488 (by decide) ?_
              refine ww_sub [3, 4, 5, 6, 0] rfl ?_
              exact ih _ _ _ (by omega) h
            · skip
              refine ww_iconst (v := (0 : Int32)) G d_W_law_912 ic_0 ?_
              exact RET _ _ _ _ _ (by omega) d_W_law_913 h
        · skip
          refine ww_iconst (v := (0 : Int32)) G d_W_law_895 ic_0 ?_
          exact RET _ _ _ _ _ (by omega) d_W_law_896 h
      refine ww_tab (w := (12 : Int32)) h (fun hc h => ?_) (fun hc12 h => ?_)
      · refine ww_tabIn (tgt := 917) G d_W_law_40 hc (by decide) (by decide) rfl (by decide) ?_
        refine ww_aload_n 1 G d_W_law_917 rfl rfl ?_
        refine ww_aload_n 0 G d_W_law_918 rfl rfl ?_
        refine ww_iload 4 G d_W_law_919 rfl ?_
        refine ww_iconst (v := (1 : Int32)) G d_W_law_921 ic_1 ?_
        refine ww_iadd G d_W_law_922 ?_
        refine wl_sld G SX d_W_law_923 h (fun v923 h => ?_)
        refine ww_aload_n 0 G d_W_law_924 rfl rfl ?_
        refine ww_iload 4 G d_W_law_925 rfl ?_
        refine ww_iconst (v := (2 : Int32)) G d_W_law_927 ic_2 ?_
        refine ww_iadd G d_W_law_928 ?_
        refine wl_sld G SX d_W_law_929 h (fun v929 h => ?_)
        refine ww_aload_n 0 G d_W_law_930 rfl rfl ?_
        refine ww_iload 4 G d_W_law_931 rfl ?_
        refine ww_iconst (v := (3 : Int32)) G d_W_law_933 ic_3 ?_
        refine ww_iadd G d_W_law_934 ?_
        refine wl_sld G SX d_W_law_935 h (fun v935 h => ?_)
        refine ww_aload_n 3 G d_W_law_936 rfl rfl ?_
        refine wl_help (As := [_, _, _, _, _]) G (NRB _ (by omega)) hs_136 (fun r q h => c_W_box v923 v929 v935 _ r q h) rfl rfl (Nat.le_of_ble_eq_true rfl) d_W_law_937 (by decide) h (fun v937 s937 h => ?_)
        refine ww_istore (L' := [(5, _), (0, _), (1, _), (2, _), (3, _), (4, _)]) G d_W_law_940 (by decide) rfl ?_
        refine ww_aload_n 3 G d_W_law_942 rfl rfl ?_
        refine ww_aload_n 1 G d_W_law_943 rfl rfl ?_
        refine ww_iload 5 G d_W_law_944 rfl ?_
        refine ww_iconst (v := (1 : Int32)) G d_W_law_946 ic_1 ?_
        refine ww_iadd G d_W_law_947 ?_
        refine wl_sld G SX d_W_law_948 h (fun v948 h => ?_)
        refine ww_aload_n 1 G d_W_law_949 rfl rfl ?_
        refine ww_iload 5 G d_W_law_950 rfl ?_
        refine ww_iconst (v := (2 : Int32)) G d_W_law_952 ic_2 ?_
        refine ww_iadd G d_W_law_953 ?_
        refine wl_sld G SX d_W_law_954 h (fun v954 h => ?_)
        refine ww_aload_n 1 G d_W_law_955 rfl rfl ?_
        refine ww_iload 5 G d_W_law_956 rfl ?_
        refine ww_iconst (v := (3 : Int32)) G d_W_law_958 ic_3 ?_
        refine ww_iadd G d_W_law_959 ?_
        refine wl_sld G SX d_W_law_960 h (fun v960 h => ?_)
        refine wl_cvI (As := [_, _, _]) G (NRB _ (by omega)) cs_W_138 (by decide) (fun o q h => c_M_box v948 v954 v960 _ _ _ h) rfl rfl (Nat.le_of_ble_eq_true rfl) d_W_law_961 (by decide) h (fun v961 s961 h => ?_)
        refine ww_istore (L' := [(6, _), (5, _), (0, _), (1, _), (2, _), (3, _), (4, _)]) G d_W_law_964 (by decide) rfl ?_
        refine ww_aload_n 4 G d_W_law_966 rfl rfl ?_
        refine wl_cvI (As := []) G (NRB _ (by omega)) cs_W_90 (by decide) (fun o q h => c_M_thrown _ _ _ h) rfl rfl (Nat.le_of_ble_eq_true rfl) d_W_law_967 (by decide) h (fun v967 s967 h => ?_)
        refine ww_iload 1 G d_W_law_970 rfl ?_
        refine ww_icmpeq (tgt := 977) G d_W_law_972 (by decide) h (fun h => ?_) (fun h => ?_)
        · skip
          refine ww_iload 1 G d_W_law_977 rfl ?_
          refine ww_ifne (tgt := 994) G d_W_law_979 (by decide) h (fun h => ?_) (fun h => ?_)
          · skip
            refine ww_goto (tgt := 1485) G d_W_law_994 (by decide) ?_
            refine ww_iinc 6 (L' := [(4, _), (6, _), (5, _), (0, _), (1, _), (2, _), (3, _)]) G d_W_law_1485 rfl ic_6 (by decide) rfl ?_
            refine ww_goto (tgt := 23) G d_W_law_1488 (by decide) ?_
            refine ww_sub [3, 4, 5, 6, 0] rfl ?_
            exact ih _ _ _ (by omega) h
          · skip
            refine ww_aload_n 5 G d_W_law_982 rfl rfl ?_
            refine ww_iconst (v := (0 : Int32)) G d_W_law_983 ic_0 ?_
            refine ww_laload G ar_70 (by decide) d_W_law_984 h (fun v984 h => ?_)
            refine ww_iload 0 G d_W_law_985 rfl ?_
            refine ww_i2l G d_W_law_987 ?_
            refine ww_lcmp G d_W_law_988 ?_
            refine ww_ifeq (tgt := 994) G d_W_law_989 (by decide) h (fun h => ?_) (fun h => ?_)
            · skip
              refine ww_goto (tgt := 1485) G d_W_law_994 (by decide) ?_
              refine ww_iinc 6 (L' := [(4, _), (6, _), (5, _), (0, _), (1, _), (2, _), (3, _)]) G d_W_law_1485 rfl ic_6 (by decide) rfl ?_
              refine ww_goto (tgt := 23) G d_W_law_1488 (by decide) ?_
              refine ww_sub [3, 4, 5, 6, 0] rfl ?_
              exact ih _ _ _ (by omega) h
            · skip
              refine ww_iconst (v := (0 : Int32)) G d_W_law_992 ic_0 ?_
              exact RET _ _ _ _ _ (by omega) d_W_law_993 h
        · skip
          refine ww_iconst (v := (0 : Int32)) G d_W_law_975 ic_0 ?_
          exact RET _ _ _ _ _ (by omega) d_W_law_976 h
      refine ww_tab (w := (13 : Int32)) h (fun hc h => ?_) (fun hc13 h => ?_)
      · refine ww_tabIn (tgt := 997) G d_W_law_40 hc (by decide) (by decide) rfl (by decide) ?_
        refine ww_aload_n 1 G d_W_law_997 rfl rfl ?_
        refine ww_aload_n 0 G d_W_law_998 rfl rfl ?_
        refine ww_iload 4 G d_W_law_999 rfl ?_
        refine ww_iconst (v := (1 : Int32)) G d_W_law_1001 ic_1 ?_
        refine ww_iadd G d_W_law_1002 ?_
        refine wl_sld G SX d_W_law_1003 h (fun v1003 h => ?_)
        refine ww_aload_n 0 G d_W_law_1004 rfl rfl ?_
        refine ww_iload 4 G d_W_law_1005 rfl ?_
        refine ww_iconst (v := (2 : Int32)) G d_W_law_1007 ic_2 ?_
        refine ww_iadd G d_W_law_1008 ?_
        refine wl_sld G SX d_W_law_1009 h (fun v1009 h => ?_)
        refine ww_aload_n 0 G d_W_law_1010 rfl rfl ?_
        refine ww_iload 4 G d_W_law_1011 rfl ?_
        refine ww_iconst (v := (3 : Int32)) G d_W_law_1013 ic_3 ?_
        refine ww_iadd G d_W_law_1014 ?_
        refine wl_sld G SX d_W_law_1015 h (fun v1015 h => ?_)
        refine ww_aload_n 0 G d_W_law_1016 rfl rfl ?_
        refine ww_iload 4 G d_W_law_1017 rfl ?_
        refine ww_iconst (v := (4 : Int32)) G d_W_law_1019 ic_4 ?_
        refine ww_iadd G d_W_law_1020 ?_
        refine wl_sld G SX d_W_law_1021 h (fun v1021 h => ?_)
        refine ww_aload_n 3 G d_W_law_1022 rfl rfl ?_
        refine wl_help (As := [_, _, _, _, _, _]) G (NRB _ (by omega)) hs_139 (fun r q h => c_W_read v1003 v1009 v1015 v1021 _ r q h) rfl rfl (Nat.le_of_ble_eq_true rfl) d_W_law_1023 (by decide) h (fun v1023 s1023 h => ?_)
        refine ww_istore (L' := [(5, _), (0, _), (1, _), (2, _), (3, _), (4, _)]) G d_W_law_1026 (by decide) rfl ?_
        refine ww_aload_n 3 G d_W_law_1028 rfl rfl ?_
        refine ww_aload_n 1 G d_W_law_1029 rfl rfl ?_
        refine ww_iload 5 G d_W_law_1030 rfl ?_
        refine ww_iconst (v := (1 : Int32)) G d_W_law_1032 ic_1 ?_
        refine ww_iadd G d_W_law_1033 ?_
        refine wl_sld G SX d_W_law_1034 h (fun v1034 h => ?_)
        refine ww_aload_n 1 G d_W_law_1035 rfl rfl ?_
        refine ww_iload 5 G d_W_law_1036 rfl ?_
        refine ww_iconst (v := (2 : Int32)) G d_W_law_1038 ic_2 ?_
        refine ww_iadd G d_W_law_1039 ?_
        refine wl_sld G SX d_W_law_1040 h (fun v1040 h => ?_)
        refine ww_aload_n 1 G d_W_law_1041 rfl rfl ?_
        refine ww_iload 5 G d_W_law_1042 rfl ?_
        refine ww_iconst (v := (3 : Int32)) G d_W_law_1044 ic_3 ?_
        refine ww_iadd G d_W_law_1045 ?_
        refine wl_sld G SX d_W_law_1046 h (fun v1046 h => ?_)
        refine ww_aload_n 1 G d_W_law_1047 rfl rfl ?_
        refine ww_iload 5 G d_W_law_1048 rfl ?_
        refine ww_iconst (v := (4 : Int32)) G d_W_law_1050 ic_4 ?_
        refine ww_iadd G d_W_law_1051 ?_
        refine wl_sld G SX d_W_law_1052 h (fun v1052 h => ?_)
        refine wl_cvI (As := [_, _, _, _]) G (NRB _ (by omega)) cs_W_141 (by decide) (fun o q h => c_M_read v1034 v1040 v1046 v1052 _ _ _ h) rfl rfl (Nat.le_of_ble_eq_true rfl) d_W_law_1053 (by decide) h (fun v1053 s1053 h => ?_)
        refine ww_istore (L' := [(6, _), (5, _), (0, _), (1, _), (2, _), (3, _), (4, _)]) G d_W_law_1056 (by decide) rfl ?_
        refine ww_aload_n 4 G d_W_law_1058 rfl rfl ?_
        refine wl_cvI (As := []) G (NRB _ (by omega)) cs_W_90 (by decide) (fun o q h => c_M_thrown _ _ _ h) rfl rfl (Nat.le_of_ble_eq_true rfl) d_W_law_1059 (by decide) h (fun v1059 s1059 h => ?_)
        refine ww_iload 1 G d_W_law_1062 rfl ?_
        refine ww_icmpeq (tgt := 1069) G d_W_law_1064 (by decide) h (fun h => ?_) (fun h => ?_)
        · skip
          refine ww_iload 1 G d_W_law_1069 rfl ?_
          refine ww_ifne (tgt := 1086) G d_W_law_1071 (by decide) h (fun h => ?_) (fun h => ?_)
          · skip
            refine ww_goto (tgt := 1485) G d_W_law_1086 (by decide) ?_
            refine ww_iinc 6 (L' := [(4, _), (6, _), (5, _), (0, _), (1, _), (2, _), (3, _)]) G d_W_law_1485 rfl ic_6 (by decide) rfl ?_
            refine ww_goto (tgt := 23) G d_W_law_1488 (by decide) ?_
            refine ww_sub [3, 4, 5, 6, 0] rfl ?_
            exact ih _ _ _ (by omega) h
          · skip
            refine ww_aload_n 5 G d_W_law_1074 rfl rfl ?_
            refine ww_iconst (v := (0 : Int32)) G d_W_law_1075 ic_0 ?_
            refine ww_laload G ar_70 (by decide) d_W_law_1076 h (fun v1076 h => ?_)
            refine ww_iload 0 G d_W_law_1077 rfl ?_
            refine ww_i2l G d_W_law_1079 ?_
            refine ww_lcmp G d_W_law_1080 ?_
            refine ww_ifeq (tgt := 1086) G d_W_law_1081 (by decide) h (fun h => ?_) (fun h => ?_)
            · skip
              refine ww_goto (tgt := 1485) G d_W_law_1086 (by decide) ?_
              refine ww_iinc 6 (L' := [(4, _), (6, _), (5, _), (0, _), (1, _), (2, _), (3, _)]) G d_W_law_1485 rfl ic_6 (by decide) rfl ?_
              refine ww_goto (tgt := 23) G d_W_law_1488 (by decide) ?_
              refine ww_sub [3, 4, 5, 6, 0] rfl ?_
              exact ih _ _ _ (by omega) h
            · skip
              refine ww_iconst (v := (0 : Int32)) G d_W_law_1084 ic_0 ?_
              exact RET _ _ _ _ _ (by omega) d_W_law_1085 h
        · skip
          refine ww_iconst (v := (0 : Int32)) G d_W_law_1067 ic_0 ?_
          exact RET _ _ _ _ _ (by omega) d_W_law_1068 h
      refine ww_tab (w := (14 : Int32)) h (fun hc h => ?_) (fun hc14 h => ?_)
      · refine ww_tabIn (tgt := 1089) G d_W_law_40 hc (by decide) (by decide) rfl (by decide) ?_
        refine ww_aload_n 1 G d_W_law_1089 rfl rfl ?_
        refine ww_aload_n 0 G d_W_law_1090 rfl rfl ?_
        refine ww_iload 4 G d_W_law_1091 rfl ?_
        refine ww_iconst (v := (1 : Int32)) G d_W_law_1093 ic_1 ?_
        refine ww_iadd G d_W_law_1094 ?_
        refine wl_sld G SX d_W_law_1095 h (fun v1095 h => ?_)
        refine ww_aload_n 0 G d_W_law_1096 rfl rfl ?_
        refine ww_iload 4 G d_W_law_1097 rfl ?_
        refine ww_iconst (v := (2 : Int32)) G d_W_law_1099 ic_2 ?_
        refine ww_iadd G d_W_law_1100 ?_
        refine wl_sld G SX d_W_law_1101 h (fun v1101 h => ?_)
        refine ww_aload_n 0 G d_W_law_1102 rfl rfl ?_
        refine ww_iload 4 G d_W_law_1103 rfl ?_
        refine ww_iconst (v := (3 : Int32)) G d_W_law_1105 ic_3 ?_
        refine ww_iadd G d_W_law_1106 ?_
        refine wl_sld G SX d_W_law_1107 h (fun v1107 h => ?_)
        refine ww_aload_n 3 G d_W_law_1108 rfl rfl ?_
        refine wl_help (As := [_, _, _, _, _]) G (NRB _ (by omega)) hs_142 (fun r q h => c_W_remove v1095 v1101 v1107 _ r q h) rfl rfl (Nat.le_of_ble_eq_true rfl) d_W_law_1109 (by decide) h (fun v1109 s1109 h => ?_)
        refine ww_istore (L' := [(5, _), (0, _), (1, _), (2, _), (3, _), (4, _)]) G d_W_law_1112 (by decide) rfl ?_
        refine ww_aload_n 3 G d_W_law_1114 rfl rfl ?_
        refine ww_aload_n 1 G d_W_law_1115 rfl rfl ?_
        refine ww_iload 5 G d_W_law_1116 rfl ?_
        refine ww_iconst (v := (1 : Int32)) G d_W_law_1118 ic_1 ?_
        refine ww_iadd G d_W_law_1119 ?_
        refine wl_sld G SX d_W_law_1120 h (fun v1120 h => ?_)
        refine ww_aload_n 1 G d_W_law_1121 rfl rfl ?_
        refine ww_iload 5 G d_W_law_1122 rfl ?_
        refine ww_iconst (v := (2 : Int32)) G d_W_law_1124 ic_2 ?_
        refine ww_iadd G d_W_law_1125 ?_
        refine wl_sld G SX d_W_law_1126 h (fun v1126 h => ?_)
        refine ww_aload_n 1 G d_W_law_1127 rfl rfl ?_
        refine ww_iload 5 G d_W_law_1128 rfl ?_
        refine ww_iconst (v := (3 : Int32)) G d_W_law_1130 ic_3 ?_
        refine ww_iadd G d_W_law_1131 ?_
        refine wl_sld G SX d_W_law_1132 h (fun v1132 h => ?_)
        refine wl_cvI (As := [_, _, _]) G (NRB _ (by omega)) cs_W_144 (by decide) (fun o q h => c_M_remove v1120 v1126 v1132 _ _ _ h) rfl rfl (Nat.le_of_ble_eq_true rfl) d_W_law_1133 (by decide) h (fun v1133 s1133 h => ?_)
        refine ww_istore (L' := [(6, _), (5, _), (0, _), (1, _), (2, _), (3, _), (4, _)]) G d_W_law_1136 (by decide) rfl ?_
        refine ww_aload_n 4 G d_W_law_1138 rfl rfl ?_
        refine wl_cvI (As := []) G (NRB _ (by omega)) cs_W_90 (by decide) (fun o q h => c_M_thrown _ _ _ h) rfl rfl (Nat.le_of_ble_eq_true rfl) d_W_law_1139 (by decide) h (fun v1139 s1139 h => ?_)
        refine ww_iload 1 G d_W_law_1142 rfl ?_
        refine ww_icmpeq (tgt := 1149) G d_W_law_1144 (by decide) h (fun h => ?_) (fun h => ?_)
        · skip
          refine ww_iload 1 G d_W_law_1149 rfl ?_
          refine ww_ifne (tgt := 1166) G d_W_law_1151 (by decide) h (fun h => ?_) (fun h => ?_)
          · skip
            refine ww_goto (tgt := 1485) G d_W_law_1166 (by decide) ?_
            refine ww_iinc 6 (L' := [(4, _), (6, _), (5, _), (0, _), (1, _), (2, _), (3, _)]) G d_W_law_1485 rfl ic_6 (by decide) rfl ?_
            refine ww_goto (tgt := 23) G d_W_law_1488 (by decide) ?_
            refine ww_sub [3, 4, 5, 6, 0] rfl ?_
            exact ih _ _ _ (by omega) h
          · skip
            refine ww_aload_n 5 G d_W_law_1154 rfl rfl ?_
            refine ww_iconst (v := (0 : Int32)) G d_W_law_1155 ic_0 ?_
            refine ww_laload G ar_70 (by decide) d_W_law_1156 h (fun v1156 h => ?_)
            refine ww_iload 0 G d_W_law_1157 rfl ?_
            refine ww_i2l G d_W_law_1159 ?_
            refine ww_lcmp G d_W_law_1160 ?_
            refine ww_ifeq (tgt := 1166) G d_W_law_1161 (by decide) h (fun h => ?_) (fun h => ?_)
            · skip
              refine ww_goto (tgt := 1485) G d_W_law_1166 (by decide) ?_
              refine ww_iinc 6 (L' := [(4, _), (6, _), (5, _), (0, _), (1, _), (2, _), (3, _)]) G d_W_law_1485 rfl ic_6 (by decide) rfl ?_
              refine ww_goto (tgt := 23) G d_W_law_1488 (by decide) ?_
              refine ww_sub [3, 4, 5, 6, 0] rfl ?_
              exact ih _ _ _ (by omega) h
            · skip
              refine ww_iconst (v := (0 : Int32)) G d_W_law_1164 ic_0 ?_
              exact RET _ _ _ _ _ (by omega) d_W_law_1165 h
        · skip
          refine ww_iconst (v := (0 : Int32)) G d_W_law_1147 ic_0 ?_
          exact RET _ _ _ _ _ (by omega) d_W_law_1148 h
      refine ww_tab (w := (15 : Int32)) h (fun hc h => ?_) (fun hc15 h => ?_)
      · refine ww_tabIn (tgt := 1169) G d_W_law_40 hc (by decide) (by decide) rfl (by decide) ?_
        refine ww_aload_n 1 G d_W_law_1169 rfl rfl ?_
        refine ww_aload_n 0 G d_W_law_1170 rfl rfl ?_
        refine ww_iload 4 G d_W_law_1171 rfl ?_
        refine ww_iconst (v := (1 : Int32)) G d_W_law_1173 ic_1 ?_
        refine ww_iadd G d_W_law_1174 ?_
        refine wl_sld G SX d_W_law_1175 h (fun v1175 h => ?_)
        refine ww_aload_n 3 G d_W_law_1176 rfl rfl ?_
        refine wl_help (As := [_, _, _]) G (NRB _ (by omega)) hs_145 (fun r q h => c_W_status v1175 _ r q h) rfl rfl (Nat.le_of_ble_eq_true rfl) d_W_law_1177 (by decide) h (fun v1177 s1177 h => ?_)
        refine ww_istore (L' := [(5, _), (0, _), (1, _), (2, _), (3, _), (4, _)]) G d_W_law_1180 (by decide) rfl ?_
        refine ww_aload_n 3 G d_W_law_1182 rfl rfl ?_
        refine ww_aload_n 1 G d_W_law_1183 rfl rfl ?_
        refine ww_iload 5 G d_W_law_1184 rfl ?_
        refine ww_iconst (v := (1 : Int32)) G d_W_law_1186 ic_1 ?_
        refine ww_iadd G d_W_law_1187 ?_
        refine wl_sld G SX d_W_law_1188 h (fun v1188 h => ?_)
        refine wl_cvI (As := [_]) G (NRB _ (by omega)) cs_W_147 (by decide) (fun o q h => c_M_status v1188 _ _ _ h) rfl rfl (Nat.le_of_ble_eq_true rfl) d_W_law_1189 (by decide) h (fun v1189 s1189 h => ?_)
        refine ww_istore (L' := [(6, _), (5, _), (0, _), (1, _), (2, _), (3, _), (4, _)]) G d_W_law_1192 (by decide) rfl ?_
        refine ww_aload_n 4 G d_W_law_1194 rfl rfl ?_
        refine wl_cvI (As := []) G (NRB _ (by omega)) cs_W_90 (by decide) (fun o q h => c_M_thrown _ _ _ h) rfl rfl (Nat.le_of_ble_eq_true rfl) d_W_law_1195 (by decide) h (fun v1195 s1195 h => ?_)
        refine ww_iload 1 G d_W_law_1198 rfl ?_
        refine ww_icmpeq (tgt := 1205) G d_W_law_1200 (by decide) h (fun h => ?_) (fun h => ?_)
        · skip
          refine ww_iload 1 G d_W_law_1205 rfl ?_
          refine ww_ifne (tgt := 1222) G d_W_law_1207 (by decide) h (fun h => ?_) (fun h => ?_)
          · skip
            refine ww_goto (tgt := 1485) G d_W_law_1222 (by decide) ?_
            refine ww_iinc 6 (L' := [(4, _), (6, _), (5, _), (0, _), (1, _), (2, _), (3, _)]) G d_W_law_1485 rfl ic_6 (by decide) rfl ?_
            refine ww_goto (tgt := 23) G d_W_law_1488 (by decide) ?_
            refine ww_sub [3, 4, 5, 6, 0] rfl ?_
            exact ih _ _ _ (by omega) h
          · skip
            refine ww_aload_n 5 G d_W_law_1210 rfl rfl ?_
            refine ww_iconst (v := (0 : Int32)) G d_W_law_1211 ic_0 ?_
            refine ww_laload G ar_70 (by decide) d_W_law_1212 h (fun v1212 h => ?_)
            refine ww_iload 0 G d_W_law_1213 rfl ?_
            refine ww_i2l G d_W_law_1215 ?_
            refine ww_lcmp G d_W_law_1216 ?_
            refine ww_ifeq (tgt := 1222) G d_W_law_1217 (by decide) h (fun h => ?_) (fun h => ?_)
            · skip
              refine ww_goto (tgt := 1485) G d_W_law_1222 (by decide) ?_
              refine ww_iinc 6 (L' := [(4, _), (6, _), (5, _), (0, _), (1, _), (2, _), (3, _)]) G d_W_law_1485 rfl ic_6 (by decide) rfl ?_
              refine ww_goto (tgt := 23) G d_W_law_1488 (by decide) ?_
              refine ww_sub [3, 4, 5, 6, 0] rfl ?_
              exact ih _ _ _ (by omega) h
            · skip
              refine ww_iconst (v := (0 : Int32)) G d_W_law_1220 ic_0 ?_
              exact RET _ _ _ _ _ (by omega) d_W_law_1221 h
        · skip
          refine ww_iconst (v := (0 : Int32)) G d_W_law_1203 ic_0 ?_
          exact RET _ _ _ _ _ (by omega) d_W_law_1204 h
      refine ww_tab (w := (16 : Int32)) h (fun hc h => ?_) (fun hc16 h => ?_)
      · refine ww_tabIn (tgt := 1225) G d_W_law_40 hc (by decide) (by decide) rfl (by decide) ?_
        refine ww_aload_n 1 G d_W_law_1225 rfl rfl ?_
        refine ww_aload_n 0 G d_W_law_1226 rfl rfl ?_
        refine ww_iload 4 G d_W_law_1227 rfl ?_
        refine ww_iconst (v := (1 : Int32)) G d_W_law_1229 ic_1 ?_
        refine ww_iadd G d_W_law_1230 ?_
        refine wl_sld G SX d_W_law_1231 h (fun v1231 h => ?_)
        refine ww_aload_n 3 G d_W_law_1232 rfl rfl ?_
        refine wl_help (As := [_, _, _]) G (NRB _ (by omega)) hs_148 (fun r q h => c_W_custodians v1231 _ r q h) rfl rfl (Nat.le_of_ble_eq_true rfl) d_W_law_1233 (by decide) h (fun v1233 s1233 h => ?_)
        refine ww_istore (L' := [(5, _), (0, _), (1, _), (2, _), (3, _), (4, _)]) G d_W_law_1236 (by decide) rfl ?_
        refine ww_aload_n 3 G d_W_law_1238 rfl rfl ?_
        refine ww_aload_n 1 G d_W_law_1239 rfl rfl ?_
        refine ww_iload 5 G d_W_law_1240 rfl ?_
        refine ww_iconst (v := (1 : Int32)) G d_W_law_1242 ic_1 ?_
        refine ww_iadd G d_W_law_1243 ?_
        refine wl_sld G SX d_W_law_1244 h (fun v1244 h => ?_)
        refine wl_cvI (As := [_]) G (NRB _ (by omega)) cs_W_150 (by decide) (fun o q h => c_M_custodians v1244 _ _ _ h) rfl rfl (Nat.le_of_ble_eq_true rfl) d_W_law_1245 (by decide) h (fun v1245 s1245 h => ?_)
        refine ww_istore (L' := [(6, _), (5, _), (0, _), (1, _), (2, _), (3, _), (4, _)]) G d_W_law_1248 (by decide) rfl ?_
        refine ww_aload_n 4 G d_W_law_1250 rfl rfl ?_
        refine wl_cvI (As := []) G (NRB _ (by omega)) cs_W_90 (by decide) (fun o q h => c_M_thrown _ _ _ h) rfl rfl (Nat.le_of_ble_eq_true rfl) d_W_law_1251 (by decide) h (fun v1251 s1251 h => ?_)
        refine ww_iload 1 G d_W_law_1254 rfl ?_
        refine ww_icmpeq (tgt := 1261) G d_W_law_1256 (by decide) h (fun h => ?_) (fun h => ?_)
        · skip
          refine ww_iload 1 G d_W_law_1261 rfl ?_
          refine ww_ifne (tgt := 1278) G d_W_law_1263 (by decide) h (fun h => ?_) (fun h => ?_)
          · skip
            refine ww_goto (tgt := 1485) G d_W_law_1278 (by decide) ?_
            refine ww_iinc 6 (L' := [(4, _), (6, _), (5, _), (0, _), (1, _), (2, _), (3, _)]) G d_W_law_1485 rfl ic_6 (by decide) rfl ?_
            refine ww_goto (tgt := 23) G d_W_law_1488 (by decide) ?_
            refine ww_sub [3, 4, 5, 6, 0] rfl ?_
            exact ih _ _ _ (by omega) h
          · skip
            refine ww_aload_n 5 G d_W_law_1266 rfl rfl ?_
            refine ww_iconst (v := (0 : Int32)) G d_W_law_1267 ic_0 ?_
            refine ww_laload G ar_70 (by decide) d_W_law_1268 h (fun v1268 h => ?_)
            refine ww_iload 0 G d_W_law_1269 rfl ?_
            refine ww_i2l G d_W_law_1271 ?_
            refine ww_lcmp G d_W_law_1272 ?_
            refine ww_ifeq (tgt := 1278) G d_W_law_1273 (by decide) h (fun h => ?_) (fun h => ?_)
            · skip
              refine ww_goto (tgt := 1485) G d_W_law_1278 (by decide) ?_
              refine ww_iinc 6 (L' := [(4, _), (6, _), (5, _), (0, _), (1, _), (2, _), (3, _)]) G d_W_law_1485 rfl ic_6 (by decide) rfl ?_
              refine ww_goto (tgt := 23) G d_W_law_1488 (by decide) ?_
              refine ww_sub [3, 4, 5, 6, 0] rfl ?_
              exact ih _ _ _ (by omega) h
            · skip
              refine ww_iconst (v := (0 : Int32)) G d_W_law_1276 ic_0 ?_
              exact RET _ _ _ _ _ (by omega) d_W_law_1277 h
        · skip
          refine ww_iconst (v := (0 : Int32)) G d_W_law_1259 ic_0 ?_
          exact RET _ _ _ _ _ (by omega) d_W_law_1260 h
      refine ww_tab (w := (17 : Int32)) h (fun hc h => ?_) (fun hc17 h => ?_)
      · refine ww_tabIn (tgt := 1281) G d_W_law_40 hc (by decide) (by decide) rfl (by decide) ?_
        refine ww_aload_n 1 G d_W_law_1281 rfl rfl ?_
        refine ww_aload_n 0 G d_W_law_1282 rfl rfl ?_
        refine ww_iload 4 G d_W_law_1283 rfl ?_
        refine ww_iconst (v := (1 : Int32)) G d_W_law_1285 ic_1 ?_
        refine ww_iadd G d_W_law_1286 ?_
        refine wl_sld G SX d_W_law_1287 h (fun v1287 h => ?_)
        refine ww_aload_n 3 G d_W_law_1288 rfl rfl ?_
        refine wl_help (As := [_, _, _]) G (NRB _ (by omega)) hs_151 (fun r q h => c_W_promise v1287 _ r q h) rfl rfl (Nat.le_of_ble_eq_true rfl) d_W_law_1289 (by decide) h (fun v1289 s1289 h => ?_)
        refine ww_istore (L' := [(5, _), (0, _), (1, _), (2, _), (3, _), (4, _)]) G d_W_law_1292 (by decide) rfl ?_
        refine ww_aload_n 3 G d_W_law_1294 rfl rfl ?_
        refine ww_aload_n 1 G d_W_law_1295 rfl rfl ?_
        refine ww_iload 5 G d_W_law_1296 rfl ?_
        refine ww_iconst (v := (1 : Int32)) G d_W_law_1298 ic_1 ?_
        refine ww_iadd G d_W_law_1299 ?_
        refine wl_sld G SX d_W_law_1300 h (fun v1300 h => ?_)
        refine wl_cvI (As := [_]) G (NRB _ (by omega)) cs_W_153 (by decide) (fun o q h => c_M_promise v1300 _ _ _ h) rfl rfl (Nat.le_of_ble_eq_true rfl) d_W_law_1301 (by decide) h (fun v1301 s1301 h => ?_)
        refine ww_istore (L' := [(6, _), (5, _), (0, _), (1, _), (2, _), (3, _), (4, _)]) G d_W_law_1304 (by decide) rfl ?_
        refine ww_aload_n 4 G d_W_law_1306 rfl rfl ?_
        refine wl_cvI (As := []) G (NRB _ (by omega)) cs_W_90 (by decide) (fun o q h => c_M_thrown _ _ _ h) rfl rfl (Nat.le_of_ble_eq_true rfl) d_W_law_1307 (by decide) h (fun v1307 s1307 h => ?_)
        refine ww_iload 1 G d_W_law_1310 rfl ?_
        refine ww_icmpeq (tgt := 1317) G d_W_law_1312 (by decide) h (fun h => ?_) (fun h => ?_)
        · skip
          refine ww_iload 1 G d_W_law_1317 rfl ?_
          refine ww_ifne (tgt := 1334) G d_W_law_1319 (by decide) h (fun h => ?_) (fun h => ?_)
          · skip
            refine ww_goto (tgt := 1485) G d_W_law_1334 (by decide) ?_
            refine ww_iinc 6 (L' := [(4, _), (6, _), (5, _), (0, _), (1, _), (2, _), (3, _)]) G d_W_law_1485 rfl ic_6 (by decide) rfl ?_
            refine ww_goto (tgt := 23) G d_W_law_1488 (by decide) ?_
            refine ww_sub [3, 4, 5, 6, 0] rfl ?_
            exact ih _ _ _ (by omega) h
          · skip
            refine ww_aload_n 5 G d_W_law_1322 rfl rfl ?_
            refine ww_iconst (v := (0 : Int32)) G d_W_law_1323 ic_0 ?_
            refine ww_laload G ar_70 (by decide) d_W_law_1324 h (fun v1324 h => ?_)
            refine ww_iload 0 G d_W_law_1325 rfl ?_
            refine ww_i2l G d_W_law_1327 ?_
            refine ww_lcmp G d_W_law_1328 ?_
            refine ww_ifeq (tgt := 1334) G d_W_law_1329 (by decide) h (fun h => ?_) (fun h => ?_)
            · skip
              refine ww_goto (tgt := 1485) G d_W_law_1334 (by decide) ?_
              refine ww_iinc 6 (L' := [(4, _), (6, _), (5, _), (0, _), (1, _), (2, _), (3, _)]) G d_W_law_1485 rfl ic_6 (by decide) rfl ?_
              refine ww_goto (tgt := 23) G d_W_law_1488 (by decide) ?_
              refine ww_sub [3, 4, 5, 6, 0] rfl ?_
              exact ih _ _ _ (by omega) h
            · skip
              refine ww_iconst (v := (0 : Int32)) G d_W_law_1332 ic_0 ?_
              exact RET _ _ _ _ _ (by omega) d_W_law_1333 h
        · skip
          refine ww_iconst (v := (0 : Int32)) G d_W_law_1315 ic_0 ?_
          exact RET _ _ _ _ _ (by omega) d_W_law_1316 h
      refine ww_tab (w := (18 : Int32)) h (fun hc h => ?_) (fun hc18 h => ?_)
      · refine ww_tabIn (tgt := 1337) G d_W_law_40 hc (by decide) (by decide) rfl (by decide) ?_
        refine ww_aload_n 1 G d_W_law_1337 rfl rfl ?_
        refine ww_aload_n 0 G d_W_law_1338 rfl rfl ?_
        refine ww_iload 4 G d_W_law_1339 rfl ?_
        refine ww_iconst (v := (1 : Int32)) G d_W_law_1341 ic_1 ?_
        refine ww_iadd G d_W_law_1342 ?_
        refine wl_sld G SX d_W_law_1343 h (fun v1343 h => ?_)
        refine ww_aload_n 0 G d_W_law_1344 rfl rfl ?_
        refine ww_iload 4 G d_W_law_1345 rfl ?_
        refine ww_iconst (v := (2 : Int32)) G d_W_law_1347 ic_2 ?_
        refine ww_iadd G d_W_law_1348 ?_
        refine wl_sld G SX d_W_law_1349 h (fun v1349 h => ?_)
        refine ww_aload_n 0 G d_W_law_1350 rfl rfl ?_
        refine ww_iload 4 G d_W_law_1351 rfl ?_
        refine ww_iconst (v := (3 : Int32)) G d_W_law_1353 ic_3 ?_
        refine ww_iadd G d_W_law_1354 ?_
        refine wl_sld G SX d_W_law_1355 h (fun v1355 h => ?_)
        refine ww_aload_n 3 G d_W_law_1356 rfl rfl ?_
        refine wl_help (As := [_, _, _, _, _]) G (NRB _ (by omega)) hs_154 (fun r q h => c_W_best v1343 v1349 v1355 _ r q h) rfl rfl (Nat.le_of_ble_eq_true rfl) d_W_law_1357 (by decide) h (fun v1357 s1357 h => ?_)
        refine ww_istore (L' := [(5, _), (0, _), (1, _), (2, _), (3, _), (4, _)]) G d_W_law_1360 (by decide) rfl ?_
        refine ww_aload_n 3 G d_W_law_1362 rfl rfl ?_
        refine ww_aload_n 1 G d_W_law_1363 rfl rfl ?_
        refine ww_iload 5 G d_W_law_1364 rfl ?_
        refine ww_iconst (v := (1 : Int32)) G d_W_law_1366 ic_1 ?_
        refine ww_iadd G d_W_law_1367 ?_
        refine wl_sld G SX d_W_law_1368 h (fun v1368 h => ?_)
        refine ww_aload_n 1 G d_W_law_1369 rfl rfl ?_
        refine ww_iload 5 G d_W_law_1370 rfl ?_
        refine ww_iconst (v := (2 : Int32)) G d_W_law_1372 ic_2 ?_
        refine ww_iadd G d_W_law_1373 ?_
        refine wl_sld G SX d_W_law_1374 h (fun v1374 h => ?_)
        refine ww_aload_n 1 G d_W_law_1375 rfl rfl ?_
        refine ww_iload 5 G d_W_law_1376 rfl ?_
        refine ww_iconst (v := (3 : Int32)) G d_W_law_1378 ic_3 ?_
        refine ww_iadd G d_W_law_1379 ?_
        refine wl_sld G SX d_W_law_1380 h (fun v1380 h => ?_)
        refine wl_cvI (As := [_, _, _]) G (NRB _ (by omega)) cs_W_156 (by decide) (fun o q h => c_M_best v1368 v1374 v1380 _ _ _ h) rfl rfl (Nat.le_of_ble_eq_true rfl) d_W_law_1381 (by decide) h (fun v1381 s1381 h => ?_)
        refine ww_istore (L' := [(6, _), (5, _), (0, _), (1, _), (2, _), (3, _), (4, _)]) G d_W_law_1384 (by decide) rfl ?_
        refine ww_aload_n 4 G d_W_law_1386 rfl rfl ?_
        refine wl_cvI (As := []) G (NRB _ (by omega)) cs_W_90 (by decide) (fun o q h => c_M_thrown _ _ _ h) rfl rfl (Nat.le_of_ble_eq_true rfl) d_W_law_1387 (by decide) h (fun v1387 s1387 h => ?_)
        refine ww_iload 1 G d_W_law_1390 rfl ?_
        refine ww_icmpeq (tgt := 1397) G d_W_law_1392 (by decide) h (fun h => ?_) (fun h => ?_)
        · skip
          refine ww_iload 1 G d_W_law_1397 rfl ?_
          refine ww_ifne (tgt := 1414) G d_W_law_1399 (by decide) h (fun h => ?_) (fun h => ?_)
          · skip
            refine ww_goto (tgt := 1485) G d_W_law_1414 (by decide) ?_
            refine ww_iinc 6 (L' := [(4, _), (6, _), (5, _), (0, _), (1, _), (2, _), (3, _)]) G d_W_law_1485 rfl ic_6 (by decide) rfl ?_
            refine ww_goto (tgt := 23) G d_W_law_1488 (by decide) ?_
            refine ww_sub [3, 4, 5, 6, 0] rfl ?_
            exact ih _ _ _ (by omega) h
          · skip
            refine ww_aload_n 5 G d_W_law_1402 rfl rfl ?_
            refine ww_iconst (v := (0 : Int32)) G d_W_law_1403 ic_0 ?_
            refine ww_laload G ar_70 (by decide) d_W_law_1404 h (fun v1404 h => ?_)
            refine ww_iload 0 G d_W_law_1405 rfl ?_
            refine ww_i2l G d_W_law_1407 ?_
            refine ww_lcmp G d_W_law_1408 ?_
            refine ww_ifeq (tgt := 1414) G d_W_law_1409 (by decide) h (fun h => ?_) (fun h => ?_)
            · skip
              refine ww_goto (tgt := 1485) G d_W_law_1414 (by decide) ?_
              refine ww_iinc 6 (L' := [(4, _), (6, _), (5, _), (0, _), (1, _), (2, _), (3, _)]) G d_W_law_1485 rfl ic_6 (by decide) rfl ?_
              refine ww_goto (tgt := 23) G d_W_law_1488 (by decide) ?_
              refine ww_sub [3, 4, 5, 6, 0] rfl ?_
              exact ih _ _ _ (by omega) h
            · skip
              refine ww_iconst (v := (0 : Int32)) G d_W_law_1412 ic_0 ?_
              exact RET _ _ _ _ _ (by omega) d_W_law_1413 h
        · skip
          refine ww_iconst (v := (0 : Int32)) G d_W_law_1395 ic_0 ?_
          exact RET _ _ _ _ _ (by omega) d_W_law_1396 h
      refine ww_tab (w := (19 : Int32)) h (fun hc h => ?_) (fun hc19 h => ?_)
      · refine ww_tabIn (tgt := 1417) G d_W_law_40 hc (by decide) (by decide) rfl (by decide) ?_
        refine ww_aload_n 1 G d_W_law_1417 rfl rfl ?_
        refine ww_aload_n 0 G d_W_law_1418 rfl rfl ?_
        refine ww_iload 4 G d_W_law_1419 rfl ?_
        refine ww_iconst (v := (1 : Int32)) G d_W_law_1421 ic_1 ?_
        refine ww_iadd G d_W_law_1422 ?_
        refine wl_sld G SX d_W_law_1423 h (fun v1423 h => ?_)
        refine ww_aload_n 0 G d_W_law_1424 rfl rfl ?_
        refine ww_iload 4 G d_W_law_1425 rfl ?_
        refine ww_iconst (v := (2 : Int32)) G d_W_law_1427 ic_2 ?_
        refine ww_iadd G d_W_law_1428 ?_
        refine wl_sld G SX d_W_law_1429 h (fun v1429 h => ?_)
        refine ww_aload_n 3 G d_W_law_1430 rfl rfl ?_
        refine wl_help (As := [_, _, _, _]) G (NRB _ (by omega)) hs_157 (fun r q h => c_W_store v1423 v1429 _ r q h) rfl rfl (Nat.le_of_ble_eq_true rfl) d_W_law_1431 (by decide) h (fun v1431 s1431 h => ?_)
        refine ww_istore (L' := [(5, _), (0, _), (1, _), (2, _), (3, _), (4, _)]) G d_W_law_1434 (by decide) rfl ?_
        refine ww_aload_n 3 G d_W_law_1436 rfl rfl ?_
        refine ww_aload_n 1 G d_W_law_1437 rfl rfl ?_
        refine ww_iload 5 G d_W_law_1438 rfl ?_
        refine ww_iconst (v := (1 : Int32)) G d_W_law_1440 ic_1 ?_
        refine ww_iadd G d_W_law_1441 ?_
        refine wl_sld G SX d_W_law_1442 h (fun v1442 h => ?_)
        refine ww_aload_n 1 G d_W_law_1443 rfl rfl ?_
        refine ww_iload 5 G d_W_law_1444 rfl ?_
        refine ww_iconst (v := (2 : Int32)) G d_W_law_1446 ic_2 ?_
        refine ww_iadd G d_W_law_1447 ?_
        refine wl_sld G SX d_W_law_1448 h (fun v1448 h => ?_)
        refine wl_cvI (As := [_, _]) G (NRB _ (by omega)) cs_W_160 (by decide) (fun o q h => c_M_store v1442 v1448 _ _ _ h) rfl rfl (Nat.le_of_ble_eq_true rfl) d_W_law_1449 (by decide) h (fun v1449 s1449 h => ?_)
        refine ww_istore (L' := [(6, _), (5, _), (0, _), (1, _), (2, _), (3, _), (4, _)]) G d_W_law_1452 (by decide) rfl ?_
        refine ww_aload_n 4 G d_W_law_1454 rfl rfl ?_
        refine wl_cvI (As := []) G (NRB _ (by omega)) cs_W_90 (by decide) (fun o q h => c_M_thrown _ _ _ h) rfl rfl (Nat.le_of_ble_eq_true rfl) d_W_law_1455 (by decide) h (fun v1455 s1455 h => ?_)
        refine ww_iload 1 G d_W_law_1458 rfl ?_
        refine ww_icmpeq (tgt := 1465) G d_W_law_1460 (by decide) h (fun h => ?_) (fun h => ?_)
        · skip
          refine ww_iload 1 G d_W_law_1465 rfl ?_
          refine ww_ifne (tgt := 1482) G d_W_law_1467 (by decide) h (fun h => ?_) (fun h => ?_)
          · skip
            refine ww_goto (tgt := 1485) G d_W_law_1482 (by decide) ?_
            refine ww_iinc 6 (L' := [(4, _), (6, _), (5, _), (0, _), (1, _), (2, _), (3, _)]) G d_W_law_1485 rfl ic_6 (by decide) rfl ?_
            refine ww_goto (tgt := 23) G d_W_law_1488 (by decide) ?_
            refine ww_sub [3, 4, 5, 6, 0] rfl ?_
            exact ih _ _ _ (by omega) h
          · skip
            refine ww_aload_n 5 G d_W_law_1470 rfl rfl ?_
            refine ww_iconst (v := (0 : Int32)) G d_W_law_1471 ic_0 ?_
            refine ww_laload G ar_70 (by decide) d_W_law_1472 h (fun v1472 h => ?_)
            refine ww_iload 0 G d_W_law_1473 rfl ?_
            refine ww_i2l G d_W_law_1475 ?_
            refine ww_lcmp G d_W_law_1476 ?_
            refine ww_ifeq (tgt := 1482) G d_W_law_1477 (by decide) h (fun h => ?_) (fun h => ?_)
            · skip
              refine ww_goto (tgt := 1485) G d_W_law_1482 (by decide) ?_
              refine ww_iinc 6 (L' := [(4, _), (6, _), (5, _), (0, _), (1, _), (2, _), (3, _)]) G d_W_law_1485 rfl ic_6 (by decide) rfl ?_
              refine ww_goto (tgt := 23) G d_W_law_1488 (by decide) ?_
              refine ww_sub [3, 4, 5, 6, 0] rfl ?_
              exact ih _ _ _ (by omega) h
            · skip
              refine ww_iconst (v := (0 : Int32)) G d_W_law_1480 ic_0 ?_
              exact RET _ _ _ _ _ (by omega) d_W_law_1481 h
        · skip
          refine ww_iconst (v := (0 : Int32)) G d_W_law_1463 ic_0 ?_
          exact RET _ _ _ _ _ (by omega) d_W_law_1464 h
      refine ww_tabOut (tgt := 1485) G d_W_law_40 (tab_out20 hc0 hc1 hc2 hc3 hc4 hc5 hc6 hc7 hc8 hc9 hc10 hc11 hc12 hc13 hc14 hc15 hc16 hc17 hc18 hc19) (by decide) ?_
      refine ww_iinc 4 (L' := [(4, _), (0, _), (1, _), (2, _), (3, _)]) G d_W_law_1485 rfl ic_6 (by decide) rfl ?_
      refine ww_goto (tgt := 23) G d_W_law_1488 (by decide) ?_
      refine ww_sub [1, 2, 3, 4, 0] rfl ?_
      exact ih _ _ _ (by omega) h
