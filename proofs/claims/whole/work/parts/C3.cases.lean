-- ===== the cases of the law =====
theorem cwnL : Cond.initialized RL ∈ gT := gT_tab 0 (by decide +kernel) rfl
theorem cwcX10_feed : Cond.code yX10_feed cX10_feed 6 (some .int) ∈ gT := gT_tab 507 (by decide +kernel) rfl
theorem cwiX10_feed : Cond.instanceMethod yX10_feed ∈ gT := gT_tab 505 (by decide +kernel) rfl
theorem cwsX10_feed : Cond.selects yX10_feed.cls yX10_feed yX10_feed ∈ gT := gT_tab 506 (by decide +kernel) rfl
theorem lkL_97 : LkV RL 97 yX10_feed cX10_feed 6 (some .int) 5 := ⟨⟨gT_tab 504 (by decide +kernel) rfl, cwiX10_feed, cwsX10_feed, cwnX10, cwcX10_feed⟩, ⟨by decide, by decide, by decide +kernel⟩, by decide⟩
theorem cwcX11_feed : Cond.code yX11_feed cX11_feed 6 (some .int) ∈ gT := gT_tab 1697 (by decide +kernel) rfl
theorem cwiX11_feed : Cond.instanceMethod yX11_feed ∈ gT := gT_tab 1695 (by decide +kernel) rfl
theorem cwsX11_feed : Cond.selects yX11_feed.cls yX11_feed yX11_feed ∈ gT := gT_tab 1696 (by decide +kernel) rfl
theorem lkL_101 : LkV RL 101 yX11_feed cX11_feed 6 (some .int) 5 := ⟨⟨gT_tab 1694 (by decide +kernel) rfl, cwiX11_feed, cwsX11_feed, cwnX11, cwcX11_feed⟩, ⟨by decide, by decide, by decide +kernel⟩, by decide⟩
theorem lkw_garden : LkW RL 102 yL_garden cL_garden 4 (some .int) [(0, 9, 12, 13)] 3 := ⟨⟨gT_tab 764 (by decide +kernel) rfl, gT_tab 765 (by decide +kernel) rfl, cwnL, gT_tab 766 (by decide +kernel) rfl⟩, ⟨by decide, by decide, by decide +kernel⟩, by decide⟩
theorem cwcX11_garden : Cond.code yX11_garden cX11_garden 2 (some .int) ∈ gT := gT_tab 1705 (by decide +kernel) rfl
theorem cwiX11_garden : Cond.instanceMethod yX11_garden ∈ gT := gT_tab 1703 (by decide +kernel) rfl
theorem cwsX11_garden : Cond.selects yX11_garden.cls yX11_garden yX11_garden ∈ gT := gT_tab 1704 (by decide +kernel) rfl
theorem lkL_107 : LkV RL 107 yX11_garden cX11_garden 2 (some .int) 1 := ⟨⟨gT_tab 1702 (by decide +kernel) rfl, cwiX11_garden, cwsX11_garden, cwnX11, cwcX11_garden⟩, ⟨by decide, by decide, by decide +kernel⟩, by decide⟩
theorem cwcX11_thrown : Cond.code yX11_thrown cX11_thrown 1 (some .int) ∈ gT := gT_tab 1693 (by decide +kernel) rfl
theorem cwiX11_thrown : Cond.instanceMethod yX11_thrown ∈ gT := gT_tab 1691 (by decide +kernel) rfl
theorem cwsX11_thrown : Cond.selects yX11_thrown.cls yX11_thrown yX11_thrown ∈ gT := gT_tab 1692 (by decide +kernel) rfl
theorem lkL_108 : LkV RL 108 yX11_thrown cX11_thrown 1 (some .int) 0 := ⟨⟨gT_tab 1690 (by decide +kernel) rfl, cwiX11_thrown, cwsX11_thrown, cwnX11, cwcX11_thrown⟩, ⟨by decide, by decide, by decide +kernel⟩, by decide⟩
theorem cwcX10_fault : Cond.code yX10_fault cX10_fault 1 (some .int) ∈ gT := gT_tab 515 (by decide +kernel) rfl
theorem cwiX10_fault : Cond.instanceMethod yX10_fault ∈ gT := gT_tab 513 (by decide +kernel) rfl
theorem cwsX10_fault : Cond.selects yX10_fault.cls yX10_fault yX10_fault ∈ gT := gT_tab 514 (by decide +kernel) rfl
theorem lkL_112 : LkV RL 112 yX10_fault cX10_fault 1 (some .int) 0 := ⟨⟨gT_tab 512 (by decide +kernel) rfl, cwiX10_fault, cwsX10_fault, cwnX10, cwcX10_fault⟩, ⟨by decide, by decide, by decide +kernel⟩, by decide⟩
theorem cwcX11_fault : Cond.code yX11_fault cX11_fault 1 (some .int) ∈ gT := gT_tab 1824 (by decide +kernel) rfl
theorem cwiX11_fault : Cond.instanceMethod yX11_fault ∈ gT := gT_tab 1822 (by decide +kernel) rfl
theorem cwsX11_fault : Cond.selects yX11_fault.cls yX11_fault yX11_fault ∈ gT := gT_tab 1823 (by decide +kernel) rfl
theorem lkL_115 : LkV RL 115 yX11_fault cX11_fault 1 (some .int) 0 := ⟨⟨gT_tab 1821 (by decide +kernel) rfl, cwiX11_fault, cwsX11_fault, cwnX11, cwcX11_fault⟩, ⟨by decide, by decide, by decide +kernel⟩, by decide⟩
theorem lkw_count : LkW RL 116 yL_count cL_count 4 (some .int) [(0, 9, 12, 18)] 3 := ⟨⟨gT_tab 1107 (by decide +kernel) rfl, gT_tab 1108 (by decide +kernel) rfl, cwnL, gT_tab 1109 (by decide +kernel) rfl⟩, ⟨by decide, by decide, by decide +kernel⟩, by decide⟩
theorem cwcX11_count : Cond.code yX11_count cX11_count 2 (some .int) ∈ gT := gT_tab 1828 (by decide +kernel) rfl
theorem cwiX11_count : Cond.instanceMethod yX11_count ∈ gT := gT_tab 1826 (by decide +kernel) rfl
theorem cwsX11_count : Cond.selects yX11_count.cls yX11_count yX11_count ∈ gT := gT_tab 1827 (by decide +kernel) rfl
theorem lkL_118 : LkV RL 118 yX11_count cX11_count 2 (some .int) 1 := ⟨⟨gT_tab 1825 (by decide +kernel) rfl, cwiX11_count, cwsX11_count, cwnX11, cwcX11_count⟩, ⟨by decide, by decide, by decide +kernel⟩, by decide⟩
theorem lkw_jumper : LkW RL 119 yL_jumper cL_jumper 5 (some .int) [(0, 10, 13, 18)] 4 := ⟨⟨gT_tab 1142 (by decide +kernel) rfl, gT_tab 1143 (by decide +kernel) rfl, cwnL, gT_tab 1144 (by decide +kernel) rfl⟩, ⟨by decide, by decide, by decide +kernel⟩, by decide⟩
theorem cwcX11_jumper : Cond.code yX11_jumper cX11_jumper 3 (some .int) ∈ gT := gT_tab 1835 (by decide +kernel) rfl
theorem cwiX11_jumper : Cond.instanceMethod yX11_jumper ∈ gT := gT_tab 1833 (by decide +kernel) rfl
theorem cwsX11_jumper : Cond.selects yX11_jumper.cls yX11_jumper yX11_jumper ∈ gT := gT_tab 1834 (by decide +kernel) rfl
theorem lkL_122 : LkV RL 122 yX11_jumper cX11_jumper 3 (some .int) 2 := ⟨⟨gT_tab 1832 (by decide +kernel) rfl, cwiX11_jumper, cwsX11_jumper, cwnX11, cwcX11_jumper⟩, ⟨by decide, by decide, by decide +kernel⟩, by decide⟩
theorem lkw_become : LkW RL 123 yL_become cL_become 6 (some .int) [(0, 12, 15, 18)] 5 := ⟨⟨gT_tab 1153 (by decide +kernel) rfl, gT_tab 1154 (by decide +kernel) rfl, cwnL, gT_tab 1155 (by decide +kernel) rfl⟩, ⟨by decide, by decide, by decide +kernel⟩, by decide⟩
theorem cwcX11_become : Cond.code yX11_become cX11_become 6 (some .int) ∈ gT := gT_tab 1847 (by decide +kernel) rfl
theorem cwiX11_become : Cond.instanceMethod yX11_become ∈ gT := gT_tab 1845 (by decide +kernel) rfl
theorem cwsX11_become : Cond.selects yX11_become.cls yX11_become yX11_become ∈ gT := gT_tab 1846 (by decide +kernel) rfl
theorem lkL_126 : LkV RL 126 yX11_become cX11_become 6 (some .int) 3 := ⟨⟨gT_tab 1844 (by decide +kernel) rfl, cwiX11_become, cwsX11_become, cwnX11, cwcX11_become⟩, ⟨by decide, by decide, by decide +kernel⟩, by decide⟩
theorem cwcX10_obey : Cond.code yX10_obey cX10_obey 2 (some .boolean) ∈ gT := gT_tab 519 (by decide +kernel) rfl
theorem cwiX10_obey : Cond.instanceMethod yX10_obey ∈ gT := gT_tab 517 (by decide +kernel) rfl
theorem cwsX10_obey : Cond.selects yX10_obey.cls yX10_obey yX10_obey ∈ gT := gT_tab 518 (by decide +kernel) rfl
theorem lkL_127 : LkV RL 127 yX10_obey cX10_obey 2 (some .boolean) 1 := ⟨⟨gT_tab 516 (by decide +kernel) rfl, cwiX10_obey, cwsX10_obey, cwnX10, cwcX10_obey⟩, ⟨by decide, by decide, by decide +kernel⟩, by decide⟩
theorem cwcX11_obey : Cond.code yX11_obey cX11_obey 2 (some .boolean) ∈ gT := gT_tab 1859 (by decide +kernel) rfl
theorem cwiX11_obey : Cond.instanceMethod yX11_obey ∈ gT := gT_tab 1857 (by decide +kernel) rfl
theorem cwsX11_obey : Cond.selects yX11_obey.cls yX11_obey yX11_obey ∈ gT := gT_tab 1858 (by decide +kernel) rfl
theorem lkL_131 : LkV RL 131 yX11_obey cX11_obey 2 (some .boolean) 1 := ⟨⟨gT_tab 1856 (by decide +kernel) rfl, cwiX11_obey, cwsX11_obey, cwnX11, cwcX11_obey⟩, ⟨by decide, by decide, by decide +kernel⟩, by decide⟩
theorem cwcX10_last : Cond.code yX10_last cX10_last 2 (some .boolean) ∈ gT := gT_tab 546 (by decide +kernel) rfl
theorem cwiX10_last : Cond.instanceMethod yX10_last ∈ gT := gT_tab 544 (by decide +kernel) rfl
theorem cwsX10_last : Cond.selects yX10_last.cls yX10_last yX10_last ∈ gT := gT_tab 545 (by decide +kernel) rfl
theorem lkL_132 : LkV RL 132 yX10_last cX10_last 2 (some .boolean) 1 := ⟨⟨gT_tab 543 (by decide +kernel) rfl, cwiX10_last, cwsX10_last, cwnX10, cwcX10_last⟩, ⟨by decide, by decide, by decide +kernel⟩, by decide⟩
theorem cwcX11_last : Cond.code yX11_last cX11_last 2 (some .boolean) ∈ gT := gT_tab 1863 (by decide +kernel) rfl
theorem cwiX11_last : Cond.instanceMethod yX11_last ∈ gT := gT_tab 1861 (by decide +kernel) rfl
theorem cwsX11_last : Cond.selects yX11_last.cls yX11_last yX11_last ∈ gT := gT_tab 1862 (by decide +kernel) rfl
theorem lkL_135 : LkV RL 135 yX11_last cX11_last 2 (some .boolean) 1 := ⟨⟨gT_tab 1860 (by decide +kernel) rfl, cwiX11_last, cwsX11_last, cwnX11, cwcX11_last⟩, ⟨by decide, by decide, by decide +kernel⟩, by decide⟩
theorem cwcX10_undo : Cond.code yX10_undo cX10_undo 1 (some .int) ∈ gT := gT_tab 550 (by decide +kernel) rfl
theorem cwiX10_undo : Cond.instanceMethod yX10_undo ∈ gT := gT_tab 548 (by decide +kernel) rfl
theorem cwsX10_undo : Cond.selects yX10_undo.cls yX10_undo yX10_undo ∈ gT := gT_tab 549 (by decide +kernel) rfl
theorem lkL_136 : LkV RL 136 yX10_undo cX10_undo 1 (some .int) 0 := ⟨⟨gT_tab 547 (by decide +kernel) rfl, cwiX10_undo, cwsX10_undo, cwnX10, cwcX10_undo⟩, ⟨by decide, by decide, by decide +kernel⟩, by decide⟩
theorem cwcX11_undo : Cond.code yX11_undo cX11_undo 3 (some .int) ∈ gT := gT_tab 1867 (by decide +kernel) rfl
theorem cwiX11_undo : Cond.instanceMethod yX11_undo ∈ gT := gT_tab 1865 (by decide +kernel) rfl
theorem cwsX11_undo : Cond.selects yX11_undo.cls yX11_undo yX11_undo ∈ gT := gT_tab 1866 (by decide +kernel) rfl
theorem lkL_139 : LkV RL 139 yX11_undo cX11_undo 3 (some .int) 0 := ⟨⟨gT_tab 1864 (by decide +kernel) rfl, cwiX11_undo, cwsX11_undo, cwnX11, cwcX11_undo⟩, ⟨by decide, by decide, by decide +kernel⟩, by decide⟩
theorem lkw_ran : LkW RL 140 yL_ran cL_ran 5 (some .int) [(0, 10, 13, 18)] 4 := ⟨⟨gT_tab 1163 (by decide +kernel) rfl, gT_tab 1164 (by decide +kernel) rfl, cwnL, gT_tab 1165 (by decide +kernel) rfl⟩, ⟨by decide, by decide, by decide +kernel⟩, by decide⟩
theorem cwcX11_ran : Cond.code yX11_ran cX11_ran 3 (some .int) ∈ gT := gT_tab 1871 (by decide +kernel) rfl
theorem cwiX11_ran : Cond.instanceMethod yX11_ran ∈ gT := gT_tab 1869 (by decide +kernel) rfl
theorem cwsX11_ran : Cond.selects yX11_ran.cls yX11_ran yX11_ran ∈ gT := gT_tab 1870 (by decide +kernel) rfl
theorem lkL_142 : LkV RL 142 yX11_ran cX11_ran 3 (some .int) 2 := ⟨⟨gT_tab 1868 (by decide +kernel) rfl, cwiX11_ran, cwsX11_ran, cwnX11, cwcX11_ran⟩, ⟨by decide, by decide, by decide +kernel⟩, by decide⟩
theorem lkw_lands : LkW RL 143 yL_lands cL_lands 5 (some .int) [(0, 10, 13, 18)] 4 := ⟨⟨gT_tab 1179 (by decide +kernel) rfl, gT_tab 1180 (by decide +kernel) rfl, cwnL, gT_tab 1181 (by decide +kernel) rfl⟩, ⟨by decide, by decide, by decide +kernel⟩, by decide⟩
theorem cwcX11_lands : Cond.code yX11_lands cX11_lands 3 (some .int) ∈ gT := gT_tab 1933 (by decide +kernel) rfl
theorem cwiX11_lands : Cond.instanceMethod yX11_lands ∈ gT := gT_tab 1931 (by decide +kernel) rfl
theorem cwsX11_lands : Cond.selects yX11_lands.cls yX11_lands yX11_lands ∈ gT := gT_tab 1932 (by decide +kernel) rfl
theorem lkL_145 : LkV RL 145 yX11_lands cX11_lands 3 (some .int) 2 := ⟨⟨gT_tab 1930 (by decide +kernel) rfl, cwiX11_lands, cwsX11_lands, cwnX11, cwcX11_lands⟩, ⟨by decide, by decide, by decide +kernel⟩, by decide⟩
theorem lkw_film : LkW RL 146 yL_film cL_film 5 (some .int) [(0, 10, 13, 18)] 4 := ⟨⟨gT_tab 1190 (by decide +kernel) rfl, gT_tab 1191 (by decide +kernel) rfl, cwnL, gT_tab 1192 (by decide +kernel) rfl⟩, ⟨by decide, by decide, by decide +kernel⟩, by decide⟩
theorem cwcX11_film : Cond.code yX11_film cX11_film 3 (some .int) ∈ gT := gT_tab 1937 (by decide +kernel) rfl
theorem cwiX11_film : Cond.instanceMethod yX11_film ∈ gT := gT_tab 1935 (by decide +kernel) rfl
theorem cwsX11_film : Cond.selects yX11_film.cls yX11_film yX11_film ∈ gT := gT_tab 1936 (by decide +kernel) rfl
theorem lkL_148 : LkV RL 148 yX11_film cX11_film 3 (some .int) 2 := ⟨⟨gT_tab 1934 (by decide +kernel) rfl, cwiX11_film, cwsX11_film, cwnX11, cwcX11_film⟩, ⟨by decide, by decide, by decide +kernel⟩, by decide⟩
theorem lkw_mat : LkW RL 149 yL_mat cL_mat 4 (some .int) [(0, 9, 12, 18)] 3 := ⟨⟨gT_tab 1205 (by decide +kernel) rfl, gT_tab 1206 (by decide +kernel) rfl, cwnL, gT_tab 1207 (by decide +kernel) rfl⟩, ⟨by decide, by decide, by decide +kernel⟩, by decide⟩
theorem cwcX11_mat : Cond.code yX11_mat cX11_mat 2 (some .int) ∈ gT := gT_tab 1945 (by decide +kernel) rfl
theorem cwiX11_mat : Cond.instanceMethod yX11_mat ∈ gT := gT_tab 1943 (by decide +kernel) rfl
theorem cwsX11_mat : Cond.selects yX11_mat.cls yX11_mat yX11_mat ∈ gT := gT_tab 1944 (by decide +kernel) rfl
theorem lkL_151 : LkV RL 151 yX11_mat cX11_mat 2 (some .int) 1 := ⟨⟨gT_tab 1942 (by decide +kernel) rfl, cwiX11_mat, cwsX11_mat, cwnX11, cwcX11_mat⟩, ⟨by decide, by decide, by decide +kernel⟩, by decide⟩
theorem lkw_landing : LkW RL 152 yL_landing cL_landing 5 (some .int) [(0, 10, 13, 18)] 4 := ⟨⟨gT_tab 1212 (by decide +kernel) rfl, gT_tab 1213 (by decide +kernel) rfl, cwnL, gT_tab 1214 (by decide +kernel) rfl⟩, ⟨by decide, by decide, by decide +kernel⟩, by decide⟩
theorem cwcX11_landing : Cond.code yX11_landing cX11_landing 3 (some .int) ∈ gT := gT_tab 1949 (by decide +kernel) rfl
theorem cwiX11_landing : Cond.instanceMethod yX11_landing ∈ gT := gT_tab 1947 (by decide +kernel) rfl
theorem cwsX11_landing : Cond.selects yX11_landing.cls yX11_landing yX11_landing ∈ gT := gT_tab 1948 (by decide +kernel) rfl
theorem lkL_154 : LkV RL 154 yX11_landing cX11_landing 3 (some .int) 2 := ⟨⟨gT_tab 1946 (by decide +kernel) rfl, cwiX11_landing, cwsX11_landing, cwnX11, cwcX11_landing⟩, ⟨by decide, by decide, by decide +kernel⟩, by decide⟩
theorem lkw_moment : LkW RL 155 yL_moment cL_moment 5 (some .int) [(0, 10, 13, 18)] 4 := ⟨⟨gT_tab 1223 (by decide +kernel) rfl, gT_tab 1224 (by decide +kernel) rfl, cwnL, gT_tab 1225 (by decide +kernel) rfl⟩, ⟨by decide, by decide, by decide +kernel⟩, by decide⟩
theorem cwcX11_moment : Cond.code yX11_moment cX11_moment 8 (some .int) ∈ gT := gT_tab 1953 (by decide +kernel) rfl
theorem cwiX11_moment : Cond.instanceMethod yX11_moment ∈ gT := gT_tab 1951 (by decide +kernel) rfl
theorem cwsX11_moment : Cond.selects yX11_moment.cls yX11_moment yX11_moment ∈ gT := gT_tab 1952 (by decide +kernel) rfl
theorem lkL_157 : LkV RL 157 yX11_moment cX11_moment 8 (some .int) 2 := ⟨⟨gT_tab 1950 (by decide +kernel) rfl, cwiX11_moment, cwsX11_moment, cwnX11, cwcX11_moment⟩, ⟨by decide, by decide, by decide +kernel⟩, by decide⟩
theorem lkw_step : LkW RL 158 yL_step cL_step 6 (some .int) [(0, 12, 15, 18), (0, 12, 19, 13)] 5 := ⟨⟨gT_tab 1234 (by decide +kernel) rfl, gT_tab 1235 (by decide +kernel) rfl, cwnL, gT_tab 1236 (by decide +kernel) rfl⟩, ⟨by decide, by decide, by decide +kernel⟩, by decide⟩
theorem cwcX11_step : Cond.code yX11_step cX11_step 10 (some .int) ∈ gT := gT_tab 1957 (by decide +kernel) rfl
theorem cwiX11_step : Cond.instanceMethod yX11_step ∈ gT := gT_tab 1955 (by decide +kernel) rfl
theorem cwsX11_step : Cond.selects yX11_step.cls yX11_step yX11_step ∈ gT := gT_tab 1956 (by decide +kernel) rfl
theorem lkL_160 : LkV RL 160 yX11_step cX11_step 10 (some .int) 3 := ⟨⟨gT_tab 1954 (by decide +kernel) rfl, cwiX11_step, cwsX11_step, cwnX11, cwcX11_step⟩, ⟨by decide, by decide, by decide +kernel⟩, by decide⟩
theorem lkw_danger : LkW RL 161 yL_danger cL_danger 4 (some .int) [(0, 9, 12, 18)] 3 := ⟨⟨gT_tab 1254 (by decide +kernel) rfl, gT_tab 1255 (by decide +kernel) rfl, cwnL, gT_tab 1256 (by decide +kernel) rfl⟩, ⟨by decide, by decide, by decide +kernel⟩, by decide⟩
theorem cwcX11_danger : Cond.code yX11_danger cX11_danger 5 (some .int) ∈ gT := gT_tab 1965 (by decide +kernel) rfl
theorem cwiX11_danger : Cond.instanceMethod yX11_danger ∈ gT := gT_tab 1963 (by decide +kernel) rfl
theorem cwsX11_danger : Cond.selects yX11_danger.cls yX11_danger yX11_danger ∈ gT := gT_tab 1964 (by decide +kernel) rfl
theorem lkL_163 : LkV RL 163 yX11_danger cX11_danger 5 (some .int) 1 := ⟨⟨gT_tab 1962 (by decide +kernel) rfl, cwiX11_danger, cwsX11_danger, cwnX11, cwcX11_danger⟩, ⟨by decide, by decide, by decide +kernel⟩, by decide⟩
theorem lkL_164 : LkV RL 164 yX10_pairs cX10_pairs 4 (some .int) 0 := ⟨⟨gT_tab 555 (by decide +kernel) rfl, cwiX10_pairs, cwsX10_pairs, cwnX10, cwcX10_pairs⟩, ⟨by decide, by decide, by decide +kernel⟩, by decide⟩
theorem cwcX11_pairs : Cond.code yX11_pairs cX11_pairs 1 (some .int) ∈ gT := gT_tab 1973 (by decide +kernel) rfl
theorem cwiX11_pairs : Cond.instanceMethod yX11_pairs ∈ gT := gT_tab 1971 (by decide +kernel) rfl
theorem cwsX11_pairs : Cond.selects yX11_pairs.cls yX11_pairs yX11_pairs ∈ gT := gT_tab 1972 (by decide +kernel) rfl
theorem lkL_167 : LkV RL 167 yX11_pairs cX11_pairs 1 (some .int) 0 := ⟨⟨gT_tab 1970 (by decide +kernel) rfl, cwiX11_pairs, cwsX11_pairs, cwnX11, cwcX11_pairs⟩, ⟨by decide, by decide, by decide +kernel⟩, by decide⟩
theorem cwcX10_apart : Cond.code yX10_apart cX10_apart 3 (some .int) ∈ gT := gT_tab 706 (by decide +kernel) rfl
theorem cwiX10_apart : Cond.instanceMethod yX10_apart ∈ gT := gT_tab 704 (by decide +kernel) rfl
theorem cwsX10_apart : Cond.selects yX10_apart.cls yX10_apart yX10_apart ∈ gT := gT_tab 705 (by decide +kernel) rfl
theorem lkL_168 : LkV RL 168 yX10_apart cX10_apart 3 (some .int) 0 := ⟨⟨gT_tab 703 (by decide +kernel) rfl, cwiX10_apart, cwsX10_apart, cwnX10, cwcX10_apart⟩, ⟨by decide, by decide, by decide +kernel⟩, by decide⟩
theorem cwcX11_apart : Cond.code yX11_apart cX11_apart 6 (some .int) ∈ gT := gT_tab 1981 (by decide +kernel) rfl
theorem cwiX11_apart : Cond.instanceMethod yX11_apart ∈ gT := gT_tab 1979 (by decide +kernel) rfl
theorem cwsX11_apart : Cond.selects yX11_apart.cls yX11_apart yX11_apart ∈ gT := gT_tab 1980 (by decide +kernel) rfl
theorem lkL_171 : LkV RL 171 yX11_apart cX11_apart 6 (some .int) 0 := ⟨⟨gT_tab 1978 (by decide +kernel) rfl, cwiX11_apart, cwsX11_apart, cwnX11, cwcX11_apart⟩, ⟨by decide, by decide, by decide +kernel⟩, by decide⟩
theorem lkw_without : LkW RL 172 yL_without cL_without 5 (some .int) [(0, 10, 13, 18), (0, 10, 17, 13)] 4 := ⟨⟨gT_tab 1262 (by decide +kernel) rfl, gT_tab 1263 (by decide +kernel) rfl, cwnL, gT_tab 1264 (by decide +kernel) rfl⟩, ⟨by decide, by decide, by decide +kernel⟩, by decide⟩
theorem cwcX11_without : Cond.code yX11_without cX11_without 4 (some .int) ∈ gT := gT_tab 1985 (by decide +kernel) rfl
theorem cwiX11_without : Cond.instanceMethod yX11_without ∈ gT := gT_tab 1983 (by decide +kernel) rfl
theorem cwsX11_without : Cond.selects yX11_without.cls yX11_without yX11_without ∈ gT := gT_tab 1984 (by decide +kernel) rfl
theorem lkL_174 : LkV RL 174 yX11_without cX11_without 4 (some .int) 2 := ⟨⟨gT_tab 1982 (by decide +kernel) rfl, cwiX11_without, cwsX11_without, cwnX11, cwcX11_without⟩, ⟨by decide, by decide, by decide +kernel⟩, by decide⟩
theorem lkw_falls : LkW RL 175 yL_falls cL_falls 8 (some .int) [(0, 15, 18, 18), (0, 15, 22, 13)] 7 := ⟨⟨gT_tab 1269 (by decide +kernel) rfl, gT_tab 1270 (by decide +kernel) rfl, cwnL, gT_tab 1271 (by decide +kernel) rfl⟩, ⟨by decide, by decide, by decide +kernel⟩, by decide⟩
theorem cwcX11_falls : Cond.code yX11_falls cX11_falls 6 (some .long) ∈ gT := gT_tab 2000 (by decide +kernel) rfl
theorem cwiX11_falls : Cond.instanceMethod yX11_falls ∈ gT := gT_tab 1998 (by decide +kernel) rfl
theorem cwsX11_falls : Cond.selects yX11_falls.cls yX11_falls yX11_falls ∈ gT := gT_tab 1999 (by decide +kernel) rfl
theorem lkL_178 : LkV RL 178 yX11_falls cX11_falls 6 (some .long) 5 := ⟨⟨gT_tab 1997 (by decide +kernel) rfl, cwiX11_falls, cwsX11_falls, cwnX11, cwcX11_falls⟩, ⟨by decide, by decide, by decide +kernel⟩, by decide⟩
theorem lkw_wanders : LkW RL 179 yL_wanders cL_wanders 9 (some .int) [(0, 17, 20, 18), (0, 17, 24, 13)] 8 := ⟨⟨gT_tab 1315 (by decide +kernel) rfl, gT_tab 1316 (by decide +kernel) rfl, cwnL, gT_tab 1317 (by decide +kernel) rfl⟩, ⟨by decide, by decide, by decide +kernel⟩, by decide⟩
theorem cwcX11_wanders : Cond.code yX11_wanders cX11_wanders 7 (some .long) ∈ gT := gT_tab 2022 (by decide +kernel) rfl
theorem cwiX11_wanders : Cond.instanceMethod yX11_wanders ∈ gT := gT_tab 2020 (by decide +kernel) rfl
theorem cwsX11_wanders : Cond.selects yX11_wanders.cls yX11_wanders yX11_wanders ∈ gT := gT_tab 2021 (by decide +kernel) rfl
theorem lkL_182 : LkV RL 182 yX11_wanders cX11_wanders 7 (some .long) 6 := ⟨⟨gT_tab 2019 (by decide +kernel) rfl, cwiX11_wanders, cwsX11_wanders, cwnX11, cwcX11_wanders⟩, ⟨by decide, by decide, by decide +kernel⟩, by decide⟩
theorem lkw_correct : LkW RL 183 yL_correct cL_correct 6 (some .int) [(0, 12, 15, 13)] 5 := ⟨⟨gT_tab 1326 (by decide +kernel) rfl, gT_tab 1327 (by decide +kernel) rfl, cwnL, gT_tab 1328 (by decide +kernel) rfl⟩, ⟨by decide, by decide, by decide +kernel⟩, by decide⟩
theorem cwcX11_correct : Cond.code yX11_correct cX11_correct 8 (some .int) ∈ gT := gT_tab 2026 (by decide +kernel) rfl
theorem cwiX11_correct : Cond.instanceMethod yX11_correct ∈ gT := gT_tab 2024 (by decide +kernel) rfl
theorem cwsX11_correct : Cond.selects yX11_correct.cls yX11_correct yX11_correct ∈ gT := gT_tab 2025 (by decide +kernel) rfl
theorem lkL_185 : LkV RL 185 yX11_correct cX11_correct 8 (some .int) 3 := ⟨⟨gT_tab 2023 (by decide +kernel) rfl, cwiX11_correct, cwsX11_correct, cwnX11, cwcX11_correct⟩, ⟨by decide, by decide, by decide +kernel⟩, by decide⟩
theorem cwcX10_find : Cond.code yX10_find cX10_find 2 (some .int) ∈ gT := gT_tab 743 (by decide +kernel) rfl
theorem cwiX10_find : Cond.instanceMethod yX10_find ∈ gT := gT_tab 741 (by decide +kernel) rfl
theorem cwsX10_find : Cond.selects yX10_find.cls yX10_find yX10_find ∈ gT := gT_tab 742 (by decide +kernel) rfl
theorem lkL_186 : LkV RL 186 yX10_find cX10_find 2 (some .int) 1 := ⟨⟨gT_tab 740 (by decide +kernel) rfl, cwiX10_find, cwsX10_find, cwnX10, cwcX10_find⟩, ⟨by decide, by decide, by decide +kernel⟩, by decide⟩
theorem cwcX11_find : Cond.code yX11_find cX11_find 2 (some .int) ∈ gT := gT_tab 2034 (by decide +kernel) rfl
theorem cwiX11_find : Cond.instanceMethod yX11_find ∈ gT := gT_tab 2032 (by decide +kernel) rfl
theorem cwsX11_find : Cond.selects yX11_find.cls yX11_find yX11_find ∈ gT := gT_tab 2033 (by decide +kernel) rfl
theorem lkL_189 : LkV RL 189 yX11_find cX11_find 2 (some .int) 1 := ⟨⟨gT_tab 2031 (by decide +kernel) rfl, cwiX11_find, cwsX11_find, cwnX11, cwcX11_find⟩, ⟨by decide, by decide, by decide +kernel⟩, by decide⟩
theorem cwcX10_forget : Cond.code yX10_forget cX10_forget 1 (some .int) ∈ gT := gT_tab 751 (by decide +kernel) rfl
theorem cwiX10_forget : Cond.instanceMethod yX10_forget ∈ gT := gT_tab 749 (by decide +kernel) rfl
theorem cwsX10_forget : Cond.selects yX10_forget.cls yX10_forget yX10_forget ∈ gT := gT_tab 750 (by decide +kernel) rfl
theorem lkL_190 : LkV RL 190 yX10_forget cX10_forget 1 (some .int) 0 := ⟨⟨gT_tab 748 (by decide +kernel) rfl, cwiX10_forget, cwsX10_forget, cwnX10, cwcX10_forget⟩, ⟨by decide, by decide, by decide +kernel⟩, by decide⟩
theorem cwcX11_forget : Cond.code yX11_forget cX11_forget 1 (some .int) ∈ gT := gT_tab 2038 (by decide +kernel) rfl
theorem cwiX11_forget : Cond.instanceMethod yX11_forget ∈ gT := gT_tab 2036 (by decide +kernel) rfl
theorem cwsX11_forget : Cond.selects yX11_forget.cls yX11_forget yX11_forget ∈ gT := gT_tab 2037 (by decide +kernel) rfl
theorem lkL_193 : LkV RL 193 yX11_forget cX11_forget 1 (some .int) 0 := ⟨⟨gT_tab 2035 (by decide +kernel) rfl, cwiX11_forget, cwsX11_forget, cwnX11, cwcX11_forget⟩, ⟨by decide, by decide, by decide +kernel⟩, by decide⟩
theorem lkw_broken : LkW RL 194 yL_broken cL_broken 4 (some .int) [(0, 9, 12, 13)] 3 := ⟨⟨gT_tab 1333 (by decide +kernel) rfl, gT_tab 1334 (by decide +kernel) rfl, cwnL, gT_tab 1335 (by decide +kernel) rfl⟩, ⟨by decide, by decide, by decide +kernel⟩, by decide⟩
theorem cwcX11_broken : Cond.code yX11_broken cX11_broken 6 (some .int) ∈ gT := gT_tab 2042 (by decide +kernel) rfl
theorem cwiX11_broken : Cond.instanceMethod yX11_broken ∈ gT := gT_tab 2040 (by decide +kernel) rfl
theorem cwsX11_broken : Cond.selects yX11_broken.cls yX11_broken yX11_broken ∈ gT := gT_tab 2041 (by decide +kernel) rfl
theorem lkL_196 : LkV RL 196 yX11_broken cX11_broken 6 (some .int) 1 := ⟨⟨gT_tab 2039 (by decide +kernel) rfl, cwiX11_broken, cwsX11_broken, cwnX11, cwcX11_broken⟩, ⟨by decide, by decide, by decide +kernel⟩, by decide⟩
theorem lkw_second : LkW RL 197 yL_second cL_second 9 (some .int) [(0, 18, 21, 18), (0, 18, 25, 13)] 8 := ⟨⟨gT_tab 1344 (by decide +kernel) rfl, gT_tab 1345 (by decide +kernel) rfl, cwnL, gT_tab 1346 (by decide +kernel) rfl⟩, ⟨by decide, by decide, by decide +kernel⟩, by decide⟩
theorem cwcX11_second : Cond.code yX11_second cX11_second 12 (some .int) ∈ gT := gT_tab 2046 (by decide +kernel) rfl
theorem cwiX11_second : Cond.instanceMethod yX11_second ∈ gT := gT_tab 2044 (by decide +kernel) rfl
theorem cwsX11_second : Cond.selects yX11_second.cls yX11_second yX11_second ∈ gT := gT_tab 2045 (by decide +kernel) rfl
theorem lkL_199 : LkV RL 199 yX11_second cX11_second 12 (some .int) 6 := ⟨⟨gT_tab 2043 (by decide +kernel) rfl, cwiX11_second, cwsX11_second, cwnX11, cwcX11_second⟩, ⟨by decide, by decide, by decide +kernel⟩, by decide⟩
theorem lkw_compare : LkW RL 200 yL_compare cL_compare 5 (some .int) [(0, 10, 13, 18)] 4 := ⟨⟨gT_tab 1351 (by decide +kernel) rfl, gT_tab 1352 (by decide +kernel) rfl, cwnL, gT_tab 1353 (by decide +kernel) rfl⟩, ⟨by decide, by decide, by decide +kernel⟩, by decide⟩
theorem cwcX11_compare : Cond.code yX11_compare cX11_compare 3 (some .int) ∈ gT := gT_tab 2050 (by decide +kernel) rfl
theorem cwiX11_compare : Cond.instanceMethod yX11_compare ∈ gT := gT_tab 2048 (by decide +kernel) rfl
theorem cwsX11_compare : Cond.selects yX11_compare.cls yX11_compare yX11_compare ∈ gT := gT_tab 2049 (by decide +kernel) rfl
theorem lkL_202 : LkV RL 202 yX11_compare cX11_compare 3 (some .int) 2 := ⟨⟨gT_tab 2047 (by decide +kernel) rfl, cwiX11_compare, cwsX11_compare, cwnX11, cwcX11_compare⟩, ⟨by decide, by decide, by decide +kernel⟩, by decide⟩
theorem cwcX10_best : Cond.code yX10_best cX10_best 7 (some .int) ∈ gT := gT_tab 717 (by decide +kernel) rfl
theorem cwiX10_best : Cond.instanceMethod yX10_best ∈ gT := gT_tab 715 (by decide +kernel) rfl
theorem cwsX10_best : Cond.selects yX10_best.cls yX10_best yX10_best ∈ gT := gT_tab 716 (by decide +kernel) rfl
theorem lkL_203 : LkV RL 203 yX10_best cX10_best 7 (some .int) 0 := ⟨⟨gT_tab 714 (by decide +kernel) rfl, cwiX10_best, cwsX10_best, cwnX10, cwcX10_best⟩, ⟨by decide, by decide, by decide +kernel⟩, by decide⟩
theorem cwcX11_best : Cond.code yX11_best cX11_best 5 (some .int) ∈ gT := gT_tab 2066 (by decide +kernel) rfl
theorem cwiX11_best : Cond.instanceMethod yX11_best ∈ gT := gT_tab 2064 (by decide +kernel) rfl
theorem cwsX11_best : Cond.selects yX11_best.cls yX11_best yX11_best ∈ gT := gT_tab 2065 (by decide +kernel) rfl
theorem lkL_206 : LkV RL 206 yX11_best cX11_best 5 (some .int) 0 := ⟨⟨gT_tab 2063 (by decide +kernel) rfl, cwiX11_best, cwsX11_best, cwnX11, cwcX11_best⟩, ⟨by decide, by decide, by decide +kernel⟩, by decide⟩
theorem lkw_egg : LkW RL 207 yL_egg cL_egg 4 (some .int) [(0, 8, 11, 18)] 3 := ⟨⟨gT_tab 1358 (by decide +kernel) rfl, gT_tab 1359 (by decide +kernel) rfl, cwnL, gT_tab 1360 (by decide +kernel) rfl⟩, ⟨by decide, by decide, by decide +kernel⟩, by decide⟩
theorem cwcX11_egg : Cond.code yX11_egg cX11_egg 20 (some .long) ∈ gT := gT_tab 2070 (by decide +kernel) rfl
theorem cwiX11_egg : Cond.instanceMethod yX11_egg ∈ gT := gT_tab 2068 (by decide +kernel) rfl
theorem cwsX11_egg : Cond.selects yX11_egg.cls yX11_egg yX11_egg ∈ gT := gT_tab 2069 (by decide +kernel) rfl
theorem lkL_209 : LkV RL 209 yX11_egg cX11_egg 20 (some .long) 1 := ⟨⟨gT_tab 2067 (by decide +kernel) rfl, cwiX11_egg, cwsX11_egg, cwnX11, cwcX11_egg⟩, ⟨by decide, by decide, by decide +kernel⟩, by decide⟩
theorem lkw_afternoons : LkW RL 210 yL_afternoons cL_afternoons 6 (some .int) [(0, 12, 15, 18), (0, 12, 19, 13)] 5 := ⟨⟨gT_tab 1374 (by decide +kernel) rfl, gT_tab 1375 (by decide +kernel) rfl, cwnL, gT_tab 1376 (by decide +kernel) rfl⟩, ⟨by decide, by decide, by decide +kernel⟩, by decide⟩
theorem cwcX11_afternoons : Cond.code yX11_afternoons cX11_afternoons 10 (some .int) ∈ gT := gT_tab 2077 (by decide +kernel) rfl
theorem cwiX11_afternoons : Cond.instanceMethod yX11_afternoons ∈ gT := gT_tab 2075 (by decide +kernel) rfl
theorem cwsX11_afternoons : Cond.selects yX11_afternoons.cls yX11_afternoons yX11_afternoons ∈ gT := gT_tab 2076 (by decide +kernel) rfl
theorem lkL_212 : LkV RL 212 yX11_afternoons cX11_afternoons 10 (some .int) 3 := ⟨⟨gT_tab 2074 (by decide +kernel) rfl, cwiX11_afternoons, cwsX11_afternoons, cwnX11, cwcX11_afternoons⟩, ⟨by decide, by decide, by decide +kernel⟩, by decide⟩
theorem lkw_safe : LkW RL 213 yL_safe cL_safe 6 (some .int) [(0, 11, 14, 13)] 5 := ⟨⟨gT_tab 1383 (by decide +kernel) rfl, gT_tab 1384 (by decide +kernel) rfl, cwnL, gT_tab 1385 (by decide +kernel) rfl⟩, ⟨by decide, by decide, by decide +kernel⟩, by decide⟩
theorem cwcX11_safe : Cond.code yX11_safe cX11_safe 9 (some .long) ∈ gT := gT_tab 2030 (by decide +kernel) rfl
theorem cwiX11_safe : Cond.instanceMethod yX11_safe ∈ gT := gT_tab 2028 (by decide +kernel) rfl
theorem cwsX11_safe : Cond.selects yX11_safe.cls yX11_safe yX11_safe ∈ gT := gT_tab 2029 (by decide +kernel) rfl
theorem lkL_215 : LkV RL 215 yX11_safe cX11_safe 9 (some .long) 3 := ⟨⟨gT_tab 2027 (by decide +kernel) rfl, cwiX11_safe, cwsX11_safe, cwnX11, cwcX11_safe⟩, ⟨by decide, by decide, by decide +kernel⟩, by decide⟩
theorem cwcX10_atOnce : Cond.code yX10_atOnce cX10_atOnce 3 (some .int) ∈ gT := gT_tab 733 (by decide +kernel) rfl
theorem cwiX10_atOnce : Cond.instanceMethod yX10_atOnce ∈ gT := gT_tab 731 (by decide +kernel) rfl
theorem cwsX10_atOnce : Cond.selects yX10_atOnce.cls yX10_atOnce yX10_atOnce ∈ gT := gT_tab 732 (by decide +kernel) rfl
theorem lkL_216 : LkV RL 216 yX10_atOnce cX10_atOnce 3 (some .int) 0 := ⟨⟨gT_tab 730 (by decide +kernel) rfl, cwiX10_atOnce, cwsX10_atOnce, cwnX10, cwcX10_atOnce⟩, ⟨by decide, by decide, by decide +kernel⟩, by decide⟩
theorem cwcX11_atOnce : Cond.code yX11_atOnce cX11_atOnce 3 (some .int) ∈ gT := gT_tab 1989 (by decide +kernel) rfl
theorem cwiX11_atOnce : Cond.instanceMethod yX11_atOnce ∈ gT := gT_tab 1987 (by decide +kernel) rfl
theorem cwsX11_atOnce : Cond.selects yX11_atOnce.cls yX11_atOnce yX11_atOnce ∈ gT := gT_tab 1988 (by decide +kernel) rfl
theorem lkL_219 : LkV RL 219 yX11_atOnce cX11_atOnce 3 (some .int) 0 := ⟨⟨gT_tab 1986 (by decide +kernel) rfl, cwiX11_atOnce, cwsX11_atOnce, cwnX11, cwcX11_atOnce⟩, ⟨by decide, by decide, by decide +kernel⟩, by decide⟩
theorem lkw_stop : LkW RL 220 yL_stop cL_stop 4 (some .int) [(0, 9, 12, 18)] 3 := ⟨⟨gT_tab 1395 (by decide +kernel) rfl, gT_tab 1396 (by decide +kernel) rfl, cwnL, gT_tab 1397 (by decide +kernel) rfl⟩, ⟨by decide, by decide, by decide +kernel⟩, by decide⟩
theorem cwcX11_stop : Cond.code yX11_stop cX11_stop 2 (some .int) ∈ gT := gT_tab 1996 (by decide +kernel) rfl
theorem cwiX11_stop : Cond.instanceMethod yX11_stop ∈ gT := gT_tab 1994 (by decide +kernel) rfl
theorem cwsX11_stop : Cond.selects yX11_stop.cls yX11_stop yX11_stop ∈ gT := gT_tab 1995 (by decide +kernel) rfl
theorem lkL_222 : LkV RL 222 yX11_stop cX11_stop 2 (some .int) 1 := ⟨⟨gT_tab 1993 (by decide +kernel) rfl, cwiX11_stop, cwsX11_stop, cwnX11, cwcX11_stop⟩, ⟨by decide, by decide, by decide +kernel⟩, by decide⟩
theorem lkw_over : LkW RL 223 yL_over cL_over 6 (some .int) [(0, 12, 15, 18), (0, 12, 19, 13)] 5 := ⟨⟨gT_tab 1402 (by decide +kernel) rfl, gT_tab 1403 (by decide +kernel) rfl, cwnL, gT_tab 1404 (by decide +kernel) rfl⟩, ⟨by decide, by decide, by decide +kernel⟩, by decide⟩
theorem cwcX11_over : Cond.code yX11_over cX11_over 7 (some .int) ∈ gT := gT_tab 1941 (by decide +kernel) rfl
theorem cwiX11_over : Cond.instanceMethod yX11_over ∈ gT := gT_tab 1939 (by decide +kernel) rfl
theorem cwsX11_over : Cond.selects yX11_over.cls yX11_over yX11_over ∈ gT := gT_tab 1940 (by decide +kernel) rfl
theorem lkL_225 : LkV RL 225 yX11_over cX11_over 7 (some .int) 3 := ⟨⟨gT_tab 1938 (by decide +kernel) rfl, cwiX11_over, cwsX11_over, cwnX11, cwcX11_over⟩, ⟨by decide, by decide, by decide +kernel⟩, by decide⟩
theorem cwcX10_image : Cond.code yX10_image cX10_image 1 none ∈ gT := gT_tab 755 (by decide +kernel) rfl
theorem cwiX10_image : Cond.instanceMethod yX10_image ∈ gT := gT_tab 753 (by decide +kernel) rfl
theorem cwsX10_image : Cond.selects yX10_image.cls yX10_image yX10_image ∈ gT := gT_tab 754 (by decide +kernel) rfl
theorem lkL_226 : LkV RL 226 yX10_image cX10_image 1 none 0 := ⟨⟨gT_tab 752 (by decide +kernel) rfl, cwiX10_image, cwsX10_image, cwnX10, cwcX10_image⟩, ⟨by decide, by decide, by decide +kernel⟩, by decide⟩
theorem cwcX11_image : Cond.code yX11_image cX11_image 1 none ∈ gT := gT_tab 2082 (by decide +kernel) rfl
theorem cwiX11_image : Cond.instanceMethod yX11_image ∈ gT := gT_tab 2080 (by decide +kernel) rfl
theorem cwsX11_image : Cond.selects yX11_image.cls yX11_image yX11_image ∈ gT := gT_tab 2081 (by decide +kernel) rfl
theorem lkL_229 : LkV RL 229 yX11_image cX11_image 1 none 0 := ⟨⟨gT_tab 2079 (by decide +kernel) rfl, cwiX11_image, cwsX11_image, cwnX11, cwcX11_image⟩, ⟨by decide, by decide, by decide +kernel⟩, by decide⟩
theorem cwcX10_restore : Cond.code yX10_restore cX10_restore 1 (some .boolean) ∈ gT := gT_tab 763 (by decide +kernel) rfl
theorem cwiX10_restore : Cond.instanceMethod yX10_restore ∈ gT := gT_tab 761 (by decide +kernel) rfl
theorem cwsX10_restore : Cond.selects yX10_restore.cls yX10_restore yX10_restore ∈ gT := gT_tab 762 (by decide +kernel) rfl
theorem lkL_230 : LkV RL 230 yX10_restore cX10_restore 1 (some .boolean) 0 := ⟨⟨gT_tab 760 (by decide +kernel) rfl, cwiX10_restore, cwsX10_restore, cwnX10, cwcX10_restore⟩, ⟨by decide, by decide, by decide +kernel⟩, by decide⟩
theorem cwcX11_restore : Cond.code yX11_restore cX11_restore 1 (some .boolean) ∈ gT := gT_tab 2086 (by decide +kernel) rfl
theorem cwiX11_restore : Cond.instanceMethod yX11_restore ∈ gT := gT_tab 2084 (by decide +kernel) rfl
theorem cwsX11_restore : Cond.selects yX11_restore.cls yX11_restore yX11_restore ∈ gT := gT_tab 2085 (by decide +kernel) rfl
theorem lkL_234 : LkV RL 234 yX11_restore cX11_restore 1 (some .boolean) 0 := ⟨⟨gT_tab 2083 (by decide +kernel) rfl, cwiX11_restore, cwsX11_restore, cwnX11, cwcX11_restore⟩, ⟨by decide, by decide, by decide +kernel⟩, by decide⟩
theorem cs_feed {ρ : Type} {Γ : Cx} {Q : ρ → State → Prop} {k n i L : Nat} {xs : Nat → Int32} {dn : Sg → Option ρ} (G : GG Γ RL cL_law 8 (some .boolean) 2000 k n) (X : SX Γ L xs) (hlt : (cLn Γ).stackTraces = false) (hR : k + 4 ≤ (cR Γ).cells ∧ n + 24 ≤ (cR Γ).slots) (hi : i + 7 ≤ L) (hL : L ≤ 3584) (K : Rz Γ 8 Q (k + 4) (n + 24) 2219 (lvL i) [] dn) : Rz Γ 8 Q k n 204 (lvL i) [] (dA (f_X10_feed (xs (i + 1)) (xs (i + 2)) (xs (i + 3)) (xs (i + 4)) (xs (i + 5))) (f_X11_feed (xs (i + 1)) (xs (i + 2)) (xs (i + 3)) (xs (i + 4)) (xs (i + 5))) dn) := by
  unfold dA
  refine rz_aload_n G 3 rfl rfl (dq jL_law_s1 0 rfl) ?_
  refine rz_arg G X hL 1 (by omega) rfl 4 0 rfl rfl (dq jL_law_s1 1 rfl) (dq jL_law_s1 2 rfl) (dq jL_law_s1 3 rfl) (dq jL_law_s1 4 rfl) (dq jL_law_s1 5 rfl) ?_
  refine rz_arg G X hL 2 (by omega) rfl 4 0 rfl rfl (dq jL_law_s1 6 rfl) (dq jL_law_s1 7 rfl) (dq jL_law_s1 8 rfl) (dq jL_law_s1 9 rfl) (dq jL_law_s1 10 rfl) ?_
  refine rz_arg G X hL 3 (by omega) rfl 4 0 rfl rfl (dq jL_law_s1 11 rfl) (dq jL_law_s1 12 rfl) (dq jL_law_s1 13 rfl) (dq jL_law_s1 14 rfl) (dq jL_law_s1 15 rfl) ?_
  refine rz_arg G X hL 4 (by omega) rfl 4 0 rfl rfl (dq jL_law_s1 16 rfl) (dq jL_law_s1 17 rfl) (dq jL_law_s1 18 rfl) (dq jL_law_s1 19 rfl) (dq jL_law_s1 20 rfl) ?_
  refine rz_arg G X hL 5 (by omega) rfl 4 0 rfl rfl (dq jL_law_s1 21 rfl) (dq jL_law_s1 22 rfl) (dq jL_law_s1 23 rfl) (dq jL_law_s1 24 rfl) (dq jL_law_s1 25 rfl) ?_
  refine rz_callVi G (st := []) (c_X10_feed (cLn Γ) (xs (i + 1)) (xs (i + 2)) (xs (i + 3)) (xs (i + 4)) (xs (i + 5))) lkL_97 sh0 rfl rfl rfl (Nat.le_of_ble_eq_true rfl) (Nat.le_of_ble_eq_true rfl) (dq jL_law_s1 26 rfl) rfl (fun r1 => ?_)
  refine rz_aload_n G 2 rfl rfl (dq jL_law_s1 27 rfl) ?_
  refine rz_arg G X hL 1 (by omega) rfl 4 0 rfl rfl (dq jL_law_s1 28 rfl) (dq jL_law_s1 29 rfl) (dq jL_law_s1 30 rfl) (dq jL_law_s1 31 rfl) (dq jL_law_s1 32 rfl) ?_
  refine rz_arg G X hL 2 (by omega) rfl 4 0 rfl rfl (dq jL_law_s1 33 rfl) (dq jL_law_s1 34 rfl) (dq jL_law_s1 35 rfl) (dq jL_law_s1 36 rfl) (dq jL_law_s1 37 rfl) ?_
  refine rz_arg G X hL 3 (by omega) rfl 4 0 rfl rfl (dq jL_law_s1 38 rfl) (dq jL_law_s1 39 rfl) (dq jL_law_s1 40 rfl) (dq jL_law_s1 41 rfl) (dq jL_law_s1 42 rfl) ?_
  refine rz_arg G X hL 4 (by omega) rfl 4 0 rfl rfl (dq jL_law_s1 43 rfl) (dq jL_law_s1 44 rfl) (dq jL_law_s1 45 rfl) (dq jL_law_s1 46 rfl) (dq jL_law_s1 47 rfl) ?_
  refine rz_arg G X hL 5 (by omega) rfl 4 0 rfl rfl (dq jL_law_s1 48 rfl) (dq jL_law_s1 49 rfl) (dq jL_law_s1 50 rfl) (dq jL_law_s1 51 rfl) (dq jL_law_s1 52 rfl) ?_
  refine rz_callVi G (st := [.int r1]) (c_X11_feed (cLn Γ) (xs (i + 1)) (xs (i + 2)) (xs (i + 3)) (xs (i + 4)) (xs (i + 5))) lkL_101 sh56 rfl rfl rfl (Nat.le_of_ble_eq_true rfl) (Nat.le_of_ble_eq_true rfl) (dq jL_law_s1 53 rfl) rfl (fun r2 => ?_)
  refine rz_icmp_eq G (tgt := 2219) rfl (dq jL_law_s1 54 rfl) (fun _ => ?_) (fun _ => rz_none)
  exact rz_wid (by omega) (by omega) K
theorem cs_garden {ρ : Type} {Γ : Cx} {Q : ρ → State → Prop} {k n i L : Nat} {xs : Nat → Int32} {dn : Sg → Option ρ} (G : GG Γ RL cL_law 8 (some .boolean) 2000 k n) (X : SX Γ L xs) (hlt : (cLn Γ).stackTraces = false) (hR : k + 4 ≤ (cR Γ).cells ∧ n + 24 ≤ (cR Γ).slots) (hi : i + 7 ≤ L) (hL : L ≤ 3584) (K : Rz Γ 8 Q (k + 4) (n + 24) 2219 (lvL i) [] dn) : Rz Γ 8 Q k n 277 (lvL i) [] (dB (f_L_garden (xs (i + 1))) (f_X11_garden (xs (i + 1))) dn) := by
  unfold dB
  refine rz_aload_n G 3 rfl rfl (dq jL_law_s1 57 rfl) ?_
  refine rz_arg G X hL 1 (by omega) rfl 4 0 rfl rfl (dq jL_law_s1 58 rfl) (dq jL_law_s1 59 rfl) (dq jL_law_s1 60 rfl) (dq jL_law_s1 61 rfl) (dq jL_law_s1 62 rfl) ?_
  refine rz_aload_n G 1 rfl rfl (dq jL_law_s1 63 rfl) ?_
  refine rz_callSW G (st := []) (As := [.ref 0, .int (xs (i + 1)), .ref 95]) (k' := k + 4) (n' := n + 24) (c_L_garden (cLn Γ) hlt (xs (i + 1))) lkw_garden rfl (Nat.le_of_ble_eq_true rfl) (Nat.le_of_ble_eq_true rfl) (dq jL_law_s1 64 rfl) rfl ⟨rfl, rfl⟩ hR (fun r1 => ?_)
  have G := G.upL (k' := k + 4) (n' := n + 24) hR.1 hR.2
  show Rz Γ 8 Q (k + 4) (n + 24) 288 [(4, .int (nI i)), (3, .ref 95), (2, .ref 56), (1, .ref 0), (0, .ref 999)] [.int r1] _
  refine rz_istore G (lv' := [(5, .int r1), (4, .int (nI i)), (3, .ref 95), (2, .ref 56), (1, .ref 0), (0, .ref 999)]) (by decide) rfl (dq jL_law_s1 65 rfl) ?_
  refine rz_aload_n G 3 rfl rfl (dq jL_law_s1 66 rfl) ?_
  refine rz_arg G X hL 1 (by omega) rfl 5 1 rfl rfl (dq jL_law_s1 67 rfl) (dq jL_law_s1 68 rfl) (dq jL_law_s1 69 rfl) (dq jL_law_s1 70 rfl) (dq jL_law_s1 71 rfl) ?_
  refine rz_callVi G (st := []) (c_X11_garden (cLn Γ) (xs (i + 1))) lkL_107 sh56 rfl rfl rfl (Nat.le_of_ble_eq_true rfl) (Nat.le_of_ble_eq_true rfl) (dq jL_law_s1 72 rfl) rfl (fun r2 => ?_)
  refine rz_istore G (lv' := [(6, .int r2), (5, .int r1), (4, .int (nI i)), (3, .ref 95), (2, .ref 56), (1, .ref 0), (0, .ref 999)]) (by decide) rfl (dq jL_law_s1 73 rfl) ?_
  refine rz_aload_n G 4 rfl rfl (dq jL_law_s1 74 rfl) ?_
  refine rz_callVi G (st := []) (c_X11_thrown (cLn Γ)) lkL_108 sh56 rfl rfl rfl (Nat.le_of_ble_eq_true rfl) (Nat.le_of_ble_eq_true rfl) (dq jL_law_s1 75 rfl) rfl (fun r3 => ?_)
  refine rz_iload G 1 rfl (dq jL_law_s1 76 rfl) ?_
  refine rz_icmp_eq G (tgt := 313) rfl (dq jL_law_s1 77 rfl) (fun _ => ?_) (fun _ => rz_none)
  refine rz_iload G 1 rfl (dq jL_law_s1 80 rfl) ?_
  refine rz_if_ne G (tgt := 330) rfl (dq jL_law_s1 81 rfl) (fun _ => ?_) (fun _ => ?_)
  · refine rz_aload_n G 3 rfl rfl (dq jL_law_s1 82 rfl) ?_
    refine rz_iconst G (v := 0) (dq jL_law_s1 83 rfl) rfl ?_
    refine rz_laldN G (by decide) sh95 (dq jL_law_s1 84 rfl) (fun r4 => ?_)
    refine rz_iload G 0 rfl (dq jL_law_s1 85 rfl) ?_
    refine rz_i2l G (dq jL_law_s1 86 rfl) ?_
    refine rz_lcmp G (dq jL_law_s1 87 rfl) ?_
    refine rz_if_eq G (tgt := 330) rfl (dq jL_law_s1 88 rfl) (fun _ => ?_) (fun _ => rz_none)
    refine rz_goto G (tgt := 2219) rfl (dq jL_law_s1 91 rfl) ?_
    exact rz_lv [2, 3, 4, 5, 6] rfl K
  · refine rz_goto G (tgt := 2219) rfl (dq jL_law_s1 91 rfl) ?_
    exact rz_lv [2, 3, 4, 5, 6] rfl K
theorem cs_fault {ρ : Type} {Γ : Cx} {Q : ρ → State → Prop} {k n i L : Nat} {xs : Nat → Int32} {dn : Sg → Option ρ} (G : GG Γ RL cL_law 8 (some .boolean) 2000 k n) (X : SX Γ L xs) (hlt : (cLn Γ).stackTraces = false) (hR : k + 4 ≤ (cR Γ).cells ∧ n + 24 ≤ (cR Γ).slots) (hi : i + 7 ≤ L) (hL : L ≤ 3584) (K : Rz Γ 8 Q (k + 4) (n + 24) 2219 (lvL i) [] dn) : Rz Γ 8 Q k n 333 (lvL i) [] (dA (f_X10_fault) (f_X11_fault) dn) := by
  unfold dA
  refine rz_aload_n G 3 rfl rfl (dq jL_law_s1 92 rfl) ?_
  refine rz_callVi G (st := []) (c_X10_fault (cLn Γ)) lkL_112 sh0 rfl rfl rfl (Nat.le_of_ble_eq_true rfl) (Nat.le_of_ble_eq_true rfl) (dq jL_law_s1 93 rfl) rfl (fun r1 => ?_)
  refine rz_aload_n G 2 rfl rfl (dq jL_law_s1 94 rfl) ?_
  refine rz_callVi G (st := [.int r1]) (c_X11_fault (cLn Γ)) lkL_115 sh56 rfl rfl rfl (Nat.le_of_ble_eq_true rfl) (Nat.le_of_ble_eq_true rfl) (dq jL_law_s1 95 rfl) rfl (fun r2 => ?_)
  refine rz_icmp_eq G (tgt := 2219) rfl (dq jL_law_s1 96 rfl) (fun _ => ?_) (fun _ => rz_none)
  exact rz_wid (by omega) (by omega) K
theorem cs_count {ρ : Type} {Γ : Cx} {Q : ρ → State → Prop} {k n i L : Nat} {xs : Nat → Int32} {dn : Sg → Option ρ} (G : GG Γ RL cL_law 8 (some .boolean) 2000 k n) (X : SX Γ L xs) (hlt : (cLn Γ).stackTraces = false) (hR : k + 4 ≤ (cR Γ).cells ∧ n + 24 ≤ (cR Γ).slots) (hi : i + 7 ≤ L) (hL : L ≤ 3584) (K : Rz Γ 8 Q (k + 4) (n + 24) 2219 (lvL i) [] dn) : Rz Γ 8 Q k n 346 (lvL i) [] (dB (f_L_count (xs (i + 1))) (f_X11_count (xs (i + 1))) dn) := by
  unfold dB
  refine rz_aload_n G 3 rfl rfl (dq jL_law_s1 99 rfl) ?_
  refine rz_arg G X hL 1 (by omega) rfl 4 0 rfl rfl (dq jL_law_s1 100 rfl) (dq jL_law_s1 101 rfl) (dq jL_law_s1 102 rfl) (dq jL_law_s1 103 rfl) (dq jL_law_s1 104 rfl) ?_
  refine rz_aload_n G 1 rfl rfl (dq jL_law_s1 105 rfl) ?_
  refine rz_callSW G (st := []) (As := [.ref 0, .int (xs (i + 1)), .ref 95]) (k' := k + 4) (n' := n + 24) (c_L_count (cLn Γ) hlt (xs (i + 1))) lkw_count rfl (Nat.le_of_ble_eq_true rfl) (Nat.le_of_ble_eq_true rfl) (dq jL_law_s1 106 rfl) rfl ⟨rfl, rfl⟩ hR (fun r1 => ?_)
  have G := G.upL (k' := k + 4) (n' := n + 24) hR.1 hR.2
  show Rz Γ 8 Q (k + 4) (n + 24) 357 [(4, .int (nI i)), (3, .ref 95), (2, .ref 56), (1, .ref 0), (0, .ref 999)] [.int r1] _
  refine rz_istore G (lv' := [(5, .int r1), (4, .int (nI i)), (3, .ref 95), (2, .ref 56), (1, .ref 0), (0, .ref 999)]) (by decide) rfl (dq jL_law_s1 107 rfl) ?_
  refine rz_aload_n G 3 rfl rfl (dq jL_law_s1 108 rfl) ?_
  refine rz_arg G X hL 1 (by omega) rfl 5 1 rfl rfl (dq jL_law_s1 109 rfl) (dq jL_law_s1 110 rfl) (dq jL_law_s1 111 rfl) (dq jL_law_s1 112 rfl) (dq jL_law_s1 113 rfl) ?_
  refine rz_callVi G (st := []) (c_X11_count (cLn Γ) (xs (i + 1))) lkL_118 sh56 rfl rfl rfl (Nat.le_of_ble_eq_true rfl) (Nat.le_of_ble_eq_true rfl) (dq jL_law_s1 114 rfl) rfl (fun r2 => ?_)
  refine rz_istore G (lv' := [(6, .int r2), (5, .int r1), (4, .int (nI i)), (3, .ref 95), (2, .ref 56), (1, .ref 0), (0, .ref 999)]) (by decide) rfl (dq jL_law_s1 115 rfl) ?_
  refine rz_aload_n G 4 rfl rfl (dq jL_law_s1 116 rfl) ?_
  refine rz_callVi G (st := []) (c_X11_thrown (cLn Γ)) lkL_108 sh56 rfl rfl rfl (Nat.le_of_ble_eq_true rfl) (Nat.le_of_ble_eq_true rfl) (dq jL_law_s1 117 rfl) rfl (fun r3 => ?_)
  refine rz_iload G 1 rfl (dq jL_law_s1 118 rfl) ?_
  refine rz_icmp_eq G (tgt := 382) rfl (dq jL_law_s1 119 rfl) (fun _ => ?_) (fun _ => rz_none)
  refine rz_iload G 1 rfl (dq jL_law_s1 122 rfl) ?_
  refine rz_if_ne G (tgt := 399) rfl (dq jL_law_s1 123 rfl) (fun _ => ?_) (fun _ => ?_)
  · refine rz_aload_n G 3 rfl rfl (dq jL_law_s1 124 rfl) ?_
    refine rz_iconst G (v := 0) (dq jL_law_s1 125 rfl) rfl ?_
    refine rz_laldN G (by decide) sh95 (dq jL_law_s1 126 rfl) (fun r4 => ?_)
    refine rz_iload G 0 rfl (dq jL_law_s1 127 rfl) ?_
    refine rz_i2l G (dq jL_law_s1 128 rfl) ?_
    refine rz_lcmp G (dq jL_law_s1 129 rfl) ?_
    refine rz_if_eq G (tgt := 399) rfl (dq jL_law_s1 130 rfl) (fun _ => ?_) (fun _ => rz_none)
    refine rz_goto G (tgt := 2219) rfl (dq jL_law_s1 133 rfl) ?_
    exact rz_lv [2, 3, 4, 5, 6] rfl K
  · refine rz_goto G (tgt := 2219) rfl (dq jL_law_s1 133 rfl) ?_
    exact rz_lv [2, 3, 4, 5, 6] rfl K
theorem cs_jumper {ρ : Type} {Γ : Cx} {Q : ρ → State → Prop} {k n i L : Nat} {xs : Nat → Int32} {dn : Sg → Option ρ} (G : GG Γ RL cL_law 8 (some .boolean) 2000 k n) (X : SX Γ L xs) (hlt : (cLn Γ).stackTraces = false) (hR : k + 4 ≤ (cR Γ).cells ∧ n + 24 ≤ (cR Γ).slots) (hi : i + 7 ≤ L) (hL : L ≤ 3584) (K : Rz Γ 8 Q (k + 4) (n + 24) 2219 (lvL i) [] dn) : Rz Γ 8 Q k n 402 (lvL i) [] (dB (f_L_jumper (xs (i + 1)) (xs (i + 2))) (f_X11_jumper (xs (i + 1)) (xs (i + 2))) dn) := by
  unfold dB
  refine rz_aload_n G 3 rfl rfl (dq jL_law_s1 134 rfl) ?_
  refine rz_arg G X hL 1 (by omega) rfl 4 0 rfl rfl (dq jL_law_s1 135 rfl) (dq jL_law_s1 136 rfl) (dq jL_law_s1 137 rfl) (dq jL_law_s1 138 rfl) (dq jL_law_s1 139 rfl) ?_
  refine rz_arg G X hL 2 (by omega) rfl 4 0 rfl rfl (dq jL_law_s1 140 rfl) (dq jL_law_s1 141 rfl) (dq jL_law_s1 142 rfl) (dq jL_law_s1 143 rfl) (dq jL_law_s1 144 rfl) ?_
  refine rz_aload_n G 1 rfl rfl (dq jL_law_s1 145 rfl) ?_
  refine rz_callSW G (st := []) (As := [.ref 0, .int (xs (i + 1)), .int (xs (i + 2)), .ref 95]) (k' := k + 4) (n' := n + 24) (c_L_jumper (cLn Γ) hlt (xs (i + 1)) (xs (i + 2))) lkw_jumper rfl (Nat.le_of_ble_eq_true rfl) (Nat.le_of_ble_eq_true rfl) (dq jL_law_s1 146 rfl) rfl ⟨rfl, rfl⟩ hR (fun r1 => ?_)
  have G := G.upL (k' := k + 4) (n' := n + 24) hR.1 hR.2
  show Rz Γ 8 Q (k + 4) (n + 24) 419 [(4, .int (nI i)), (3, .ref 95), (2, .ref 56), (1, .ref 0), (0, .ref 999)] [.int r1] _
  refine rz_istore G (lv' := [(5, .int r1), (4, .int (nI i)), (3, .ref 95), (2, .ref 56), (1, .ref 0), (0, .ref 999)]) (by decide) rfl (dq jL_law_s1 147 rfl) ?_
  refine rz_aload_n G 3 rfl rfl (dq jL_law_s1 148 rfl) ?_
  refine rz_arg G X hL 1 (by omega) rfl 5 1 rfl rfl (dq jL_law_s1 149 rfl) (dq jL_law_s2 0 rfl) (dq jL_law_s2 1 rfl) (dq jL_law_s2 2 rfl) (dq jL_law_s2 3 rfl) ?_
  refine rz_arg G X hL 2 (by omega) rfl 5 1 rfl rfl (dq jL_law_s2 4 rfl) (dq jL_law_s2 5 rfl) (dq jL_law_s2 6 rfl) (dq jL_law_s2 7 rfl) (dq jL_law_s2 8 rfl) ?_
  refine rz_callVi G (st := []) (c_X11_jumper (cLn Γ) (xs (i + 1)) (xs (i + 2))) lkL_122 sh56 rfl rfl rfl (Nat.le_of_ble_eq_true rfl) (Nat.le_of_ble_eq_true rfl) (dq jL_law_s2 9 rfl) rfl (fun r2 => ?_)
  refine rz_istore G (lv' := [(6, .int r2), (5, .int r1), (4, .int (nI i)), (3, .ref 95), (2, .ref 56), (1, .ref 0), (0, .ref 999)]) (by decide) rfl (dq jL_law_s2 10 rfl) ?_
  refine rz_aload_n G 4 rfl rfl (dq jL_law_s2 11 rfl) ?_
  refine rz_callVi G (st := []) (c_X11_thrown (cLn Γ)) lkL_108 sh56 rfl rfl rfl (Nat.le_of_ble_eq_true rfl) (Nat.le_of_ble_eq_true rfl) (dq jL_law_s2 12 rfl) rfl (fun r3 => ?_)
  refine rz_iload G 1 rfl (dq jL_law_s2 13 rfl) ?_
  refine rz_icmp_eq G (tgt := 450) rfl (dq jL_law_s2 14 rfl) (fun _ => ?_) (fun _ => rz_none)
  refine rz_iload G 1 rfl (dq jL_law_s2 17 rfl) ?_
  refine rz_if_ne G (tgt := 467) rfl (dq jL_law_s2 18 rfl) (fun _ => ?_) (fun _ => ?_)
  · refine rz_aload_n G 3 rfl rfl (dq jL_law_s2 19 rfl) ?_
    refine rz_iconst G (v := 0) (dq jL_law_s2 20 rfl) rfl ?_
    refine rz_laldN G (by decide) sh95 (dq jL_law_s2 21 rfl) (fun r4 => ?_)
    refine rz_iload G 0 rfl (dq jL_law_s2 22 rfl) ?_
    refine rz_i2l G (dq jL_law_s2 23 rfl) ?_
    refine rz_lcmp G (dq jL_law_s2 24 rfl) ?_
    refine rz_if_eq G (tgt := 467) rfl (dq jL_law_s2 25 rfl) (fun _ => ?_) (fun _ => rz_none)
    refine rz_goto G (tgt := 2219) rfl (dq jL_law_s2 28 rfl) ?_
    exact rz_lv [2, 3, 4, 5, 6] rfl K
  · refine rz_goto G (tgt := 2219) rfl (dq jL_law_s2 28 rfl) ?_
    exact rz_lv [2, 3, 4, 5, 6] rfl K
theorem cs_become {ρ : Type} {Γ : Cx} {Q : ρ → State → Prop} {k n i L : Nat} {xs : Nat → Int32} {dn : Sg → Option ρ} (G : GG Γ RL cL_law 8 (some .boolean) 2000 k n) (X : SX Γ L xs) (hlt : (cLn Γ).stackTraces = false) (hR : k + 4 ≤ (cR Γ).cells ∧ n + 24 ≤ (cR Γ).slots) (hi : i + 7 ≤ L) (hL : L ≤ 3584) (K : Rz Γ 8 Q (k + 4) (n + 24) 2219 (lvL i) [] dn) : Rz Γ 8 Q k n 470 (lvL i) [] (dB (f_L_become (xs (i + 1)) (xs (i + 2)) (xs (i + 3))) (f_X11_become (xs (i + 1)) (xs (i + 2)) (xs (i + 3))) dn) := by
  unfold dB
  refine rz_aload_n G 3 rfl rfl (dq jL_law_s2 29 rfl) ?_
  refine rz_arg G X hL 1 (by omega) rfl 4 0 rfl rfl (dq jL_law_s2 30 rfl) (dq jL_law_s2 31 rfl) (dq jL_law_s2 32 rfl) (dq jL_law_s2 33 rfl) (dq jL_law_s2 34 rfl) ?_
  refine rz_arg G X hL 2 (by omega) rfl 4 0 rfl rfl (dq jL_law_s2 35 rfl) (dq jL_law_s2 36 rfl) (dq jL_law_s2 37 rfl) (dq jL_law_s2 38 rfl) (dq jL_law_s2 39 rfl) ?_
  refine rz_arg G X hL 3 (by omega) rfl 4 0 rfl rfl (dq jL_law_s2 40 rfl) (dq jL_law_s2 41 rfl) (dq jL_law_s2 42 rfl) (dq jL_law_s2 43 rfl) (dq jL_law_s2 44 rfl) ?_
  refine rz_aload_n G 1 rfl rfl (dq jL_law_s2 45 rfl) ?_
  refine rz_callSW G (st := []) (As := [.ref 0, .int (xs (i + 1)), .int (xs (i + 2)), .int (xs (i + 3)), .ref 95]) (k' := k + 4) (n' := n + 24) (c_L_become (cLn Γ) hlt (xs (i + 1)) (xs (i + 2)) (xs (i + 3))) lkw_become rfl (Nat.le_of_ble_eq_true rfl) (Nat.le_of_ble_eq_true rfl) (dq jL_law_s2 46 rfl) rfl ⟨rfl, rfl⟩ hR (fun r1 => ?_)
  have G := G.upL (k' := k + 4) (n' := n + 24) hR.1 hR.2
  show Rz Γ 8 Q (k + 4) (n + 24) 493 [(4, .int (nI i)), (3, .ref 95), (2, .ref 56), (1, .ref 0), (0, .ref 999)] [.int r1] _
  refine rz_istore G (lv' := [(5, .int r1), (4, .int (nI i)), (3, .ref 95), (2, .ref 56), (1, .ref 0), (0, .ref 999)]) (by decide) rfl (dq jL_law_s2 47 rfl) ?_
  refine rz_aload_n G 3 rfl rfl (dq jL_law_s2 48 rfl) ?_
  refine rz_arg G X hL 1 (by omega) rfl 5 1 rfl rfl (dq jL_law_s2 49 rfl) (dq jL_law_s2 50 rfl) (dq jL_law_s2 51 rfl) (dq jL_law_s2 52 rfl) (dq jL_law_s2 53 rfl) ?_
  refine rz_arg G X hL 2 (by omega) rfl 5 1 rfl rfl (dq jL_law_s2 54 rfl) (dq jL_law_s2 55 rfl) (dq jL_law_s2 56 rfl) (dq jL_law_s2 57 rfl) (dq jL_law_s2 58 rfl) ?_
  refine rz_arg G X hL 3 (by omega) rfl 5 1 rfl rfl (dq jL_law_s2 59 rfl) (dq jL_law_s2 60 rfl) (dq jL_law_s2 61 rfl) (dq jL_law_s2 62 rfl) (dq jL_law_s2 63 rfl) ?_
  refine rz_callVi G (st := []) (c_X11_become (cLn Γ) (xs (i + 1)) (xs (i + 2)) (xs (i + 3))) lkL_126 sh56 rfl rfl rfl (Nat.le_of_ble_eq_true rfl) (Nat.le_of_ble_eq_true rfl) (dq jL_law_s2 64 rfl) rfl (fun r2 => ?_)
  refine rz_istore G (lv' := [(6, .int r2), (5, .int r1), (4, .int (nI i)), (3, .ref 95), (2, .ref 56), (1, .ref 0), (0, .ref 999)]) (by decide) rfl (dq jL_law_s2 65 rfl) ?_
  refine rz_aload_n G 4 rfl rfl (dq jL_law_s2 66 rfl) ?_
  refine rz_callVi G (st := []) (c_X11_thrown (cLn Γ)) lkL_108 sh56 rfl rfl rfl (Nat.le_of_ble_eq_true rfl) (Nat.le_of_ble_eq_true rfl) (dq jL_law_s2 67 rfl) rfl (fun r3 => ?_)
  refine rz_iload G 1 rfl (dq jL_law_s2 68 rfl) ?_
  refine rz_icmp_eq G (tgt := 530) rfl (dq jL_law_s2 69 rfl) (fun _ => ?_) (fun _ => rz_none)
  refine rz_iload G 1 rfl (dq jL_law_s2 72 rfl) ?_
  refine rz_if_ne G (tgt := 547) rfl (dq jL_law_s2 73 rfl) (fun _ => ?_) (fun _ => ?_)
  · refine rz_aload_n G 3 rfl rfl (dq jL_law_s2 74 rfl) ?_
    refine rz_iconst G (v := 0) (dq jL_law_s2 75 rfl) rfl ?_
    refine rz_laldN G (by decide) sh95 (dq jL_law_s2 76 rfl) (fun r4 => ?_)
    refine rz_iload G 0 rfl (dq jL_law_s2 77 rfl) ?_
    refine rz_i2l G (dq jL_law_s2 78 rfl) ?_
    refine rz_lcmp G (dq jL_law_s2 79 rfl) ?_
    refine rz_if_eq G (tgt := 547) rfl (dq jL_law_s2 80 rfl) (fun _ => ?_) (fun _ => rz_none)
    refine rz_goto G (tgt := 2219) rfl (dq jL_law_s2 83 rfl) ?_
    exact rz_lv [2, 3, 4, 5, 6] rfl K
  · refine rz_goto G (tgt := 2219) rfl (dq jL_law_s2 83 rfl) ?_
    exact rz_lv [2, 3, 4, 5, 6] rfl K
theorem cs_obey {ρ : Type} {Γ : Cx} {Q : ρ → State → Prop} {k n i L : Nat} {xs : Nat → Int32} {dn : Sg → Option ρ} (G : GG Γ RL cL_law 8 (some .boolean) 2000 k n) (X : SX Γ L xs) (hlt : (cLn Γ).stackTraces = false) (hR : k + 4 ≤ (cR Γ).cells ∧ n + 24 ≤ (cR Γ).slots) (hi : i + 7 ≤ L) (hL : L ≤ 3584) (K : Rz Γ 8 Q (k + 4) (n + 24) 2219 (lvL i) [] dn) : Rz Γ 8 Q k n 550 (lvL i) [] (dA (f_X10_obey (xs (i + 1))) (f_X11_obey (xs (i + 1))) dn) := by
  unfold dA
  refine rz_aload_n G 3 rfl rfl (dq jL_law_s2 84 rfl) ?_
  refine rz_arg G X hL 1 (by omega) rfl 4 0 rfl rfl (dq jL_law_s2 85 rfl) (dq jL_law_s2 86 rfl) (dq jL_law_s2 87 rfl) (dq jL_law_s2 88 rfl) (dq jL_law_s2 89 rfl) ?_
  refine rz_callVi G (st := []) (c_X10_obey (cLn Γ) (xs (i + 1))) lkL_127 sh0 rfl rfl rfl (Nat.le_of_ble_eq_true rfl) (Nat.le_of_ble_eq_true rfl) (dq jL_law_s2 90 rfl) rfl (fun r1 => ?_)
  refine rz_aload_n G 2 rfl rfl (dq jL_law_s2 91 rfl) ?_
  refine rz_arg G X hL 1 (by omega) rfl 4 0 rfl rfl (dq jL_law_s2 92 rfl) (dq jL_law_s2 93 rfl) (dq jL_law_s2 94 rfl) (dq jL_law_s2 95 rfl) (dq jL_law_s2 96 rfl) ?_
  refine rz_callVi G (st := [.int r1]) (c_X11_obey (cLn Γ) (xs (i + 1))) lkL_131 sh56 rfl rfl rfl (Nat.le_of_ble_eq_true rfl) (Nat.le_of_ble_eq_true rfl) (dq jL_law_s2 97 rfl) rfl (fun r2 => ?_)
  refine rz_icmp_eq G (tgt := 2219) rfl (dq jL_law_s2 98 rfl) (fun _ => ?_) (fun _ => rz_none)
  exact rz_wid (by omega) (by omega) K
theorem cs_last {ρ : Type} {Γ : Cx} {Q : ρ → State → Prop} {k n i L : Nat} {xs : Nat → Int32} {dn : Sg → Option ρ} (G : GG Γ RL cL_law 8 (some .boolean) 2000 k n) (X : SX Γ L xs) (hlt : (cLn Γ).stackTraces = false) (hR : k + 4 ≤ (cR Γ).cells ∧ n + 24 ≤ (cR Γ).slots) (hi : i + 7 ≤ L) (hL : L ≤ 3584) (K : Rz Γ 8 Q (k + 4) (n + 24) 2219 (lvL i) [] dn) : Rz Γ 8 Q k n 575 (lvL i) [] (dA (f_X10_last (xs (i + 1))) (f_X11_last (xs (i + 1))) dn) := by
  unfold dA
  refine rz_aload_n G 3 rfl rfl (dq jL_law_s2 101 rfl) ?_
  refine rz_arg G X hL 1 (by omega) rfl 4 0 rfl rfl (dq jL_law_s2 102 rfl) (dq jL_law_s2 103 rfl) (dq jL_law_s2 104 rfl) (dq jL_law_s2 105 rfl) (dq jL_law_s2 106 rfl) ?_
  refine rz_callVi G (st := []) (c_X10_last (cLn Γ) (xs (i + 1))) lkL_132 sh0 rfl rfl rfl (Nat.le_of_ble_eq_true rfl) (Nat.le_of_ble_eq_true rfl) (dq jL_law_s2 107 rfl) rfl (fun r1 => ?_)
  refine rz_aload_n G 2 rfl rfl (dq jL_law_s2 108 rfl) ?_
  refine rz_arg G X hL 1 (by omega) rfl 4 0 rfl rfl (dq jL_law_s2 109 rfl) (dq jL_law_s2 110 rfl) (dq jL_law_s2 111 rfl) (dq jL_law_s2 112 rfl) (dq jL_law_s2 113 rfl) ?_
  refine rz_callVi G (st := [.int r1]) (c_X11_last (cLn Γ) (xs (i + 1))) lkL_135 sh56 rfl rfl rfl (Nat.le_of_ble_eq_true rfl) (Nat.le_of_ble_eq_true rfl) (dq jL_law_s2 114 rfl) rfl (fun r2 => ?_)
  refine rz_icmp_eq G (tgt := 2219) rfl (dq jL_law_s2 115 rfl) (fun _ => ?_) (fun _ => rz_none)
  exact rz_wid (by omega) (by omega) K
theorem cs_undo {ρ : Type} {Γ : Cx} {Q : ρ → State → Prop} {k n i L : Nat} {xs : Nat → Int32} {dn : Sg → Option ρ} (G : GG Γ RL cL_law 8 (some .boolean) 2000 k n) (X : SX Γ L xs) (hlt : (cLn Γ).stackTraces = false) (hR : k + 4 ≤ (cR Γ).cells ∧ n + 24 ≤ (cR Γ).slots) (hi : i + 7 ≤ L) (hL : L ≤ 3584) (K : Rz Γ 8 Q (k + 4) (n + 24) 2219 (lvL i) [] dn) : Rz Γ 8 Q k n 600 (lvL i) [] (dA (f_X10_undo) (f_X11_undo) dn) := by
  unfold dA
  refine rz_aload_n G 3 rfl rfl (dq jL_law_s2 118 rfl) ?_
  refine rz_callVi G (st := []) (c_X10_undo (cLn Γ)) lkL_136 sh0 rfl rfl rfl (Nat.le_of_ble_eq_true rfl) (Nat.le_of_ble_eq_true rfl) (dq jL_law_s2 119 rfl) rfl (fun r1 => ?_)
  refine rz_aload_n G 2 rfl rfl (dq jL_law_s2 120 rfl) ?_
  refine rz_callVi G (st := [.int r1]) (c_X11_undo (cLn Γ)) lkL_139 sh56 rfl rfl rfl (Nat.le_of_ble_eq_true rfl) (Nat.le_of_ble_eq_true rfl) (dq jL_law_s2 121 rfl) rfl (fun r2 => ?_)
  refine rz_icmp_eq G (tgt := 2219) rfl (dq jL_law_s2 122 rfl) (fun _ => ?_) (fun _ => rz_none)
  exact rz_wid (by omega) (by omega) K
theorem cs_ran {ρ : Type} {Γ : Cx} {Q : ρ → State → Prop} {k n i L : Nat} {xs : Nat → Int32} {dn : Sg → Option ρ} (G : GG Γ RL cL_law 8 (some .boolean) 2000 k n) (X : SX Γ L xs) (hlt : (cLn Γ).stackTraces = false) (hR : k + 4 ≤ (cR Γ).cells ∧ n + 24 ≤ (cR Γ).slots) (hi : i + 7 ≤ L) (hL : L ≤ 3584) (K : Rz Γ 8 Q (k + 4) (n + 24) 2219 (lvL i) [] dn) : Rz Γ 8 Q k n 613 (lvL i) [] (dB (f_L_ran (xs (i + 1)) (xs (i + 2))) (f_X11_ran (xs (i + 1)) (xs (i + 2))) dn) := by
  unfold dB
  refine rz_aload_n G 3 rfl rfl (dq jL_law_s2 125 rfl) ?_
  refine rz_arg G X hL 1 (by omega) rfl 4 0 rfl rfl (dq jL_law_s2 126 rfl) (dq jL_law_s2 127 rfl) (dq jL_law_s2 128 rfl) (dq jL_law_s2 129 rfl) (dq jL_law_s2 130 rfl) ?_
  refine rz_arg G X hL 2 (by omega) rfl 4 0 rfl rfl (dq jL_law_s2 131 rfl) (dq jL_law_s2 132 rfl) (dq jL_law_s2 133 rfl) (dq jL_law_s2 134 rfl) (dq jL_law_s2 135 rfl) ?_
  refine rz_aload_n G 1 rfl rfl (dq jL_law_s2 136 rfl) ?_
  refine rz_callSW G (st := []) (As := [.ref 0, .int (xs (i + 1)), .int (xs (i + 2)), .ref 95]) (k' := k + 4) (n' := n + 24) (c_L_ran (cLn Γ) hlt (xs (i + 1)) (xs (i + 2))) lkw_ran rfl (Nat.le_of_ble_eq_true rfl) (Nat.le_of_ble_eq_true rfl) (dq jL_law_s2 137 rfl) rfl ⟨rfl, rfl⟩ hR (fun r1 => ?_)
  have G := G.upL (k' := k + 4) (n' := n + 24) hR.1 hR.2
  show Rz Γ 8 Q (k + 4) (n + 24) 630 [(4, .int (nI i)), (3, .ref 95), (2, .ref 56), (1, .ref 0), (0, .ref 999)] [.int r1] _
  refine rz_istore G (lv' := [(5, .int r1), (4, .int (nI i)), (3, .ref 95), (2, .ref 56), (1, .ref 0), (0, .ref 999)]) (by decide) rfl (dq jL_law_s2 138 rfl) ?_
  refine rz_aload_n G 3 rfl rfl (dq jL_law_s2 139 rfl) ?_
  refine rz_arg G X hL 1 (by omega) rfl 5 1 rfl rfl (dq jL_law_s2 140 rfl) (dq jL_law_s2 141 rfl) (dq jL_law_s2 142 rfl) (dq jL_law_s2 143 rfl) (dq jL_law_s2 144 rfl) ?_
  refine rz_arg G X hL 2 (by omega) rfl 5 1 rfl rfl (dq jL_law_s2 145 rfl) (dq jL_law_s2 146 rfl) (dq jL_law_s2 147 rfl) (dq jL_law_s2 148 rfl) (dq jL_law_s2 149 rfl) ?_
  refine rz_callVi G (st := []) (c_X11_ran (cLn Γ) (xs (i + 1)) (xs (i + 2))) lkL_142 sh56 rfl rfl rfl (Nat.le_of_ble_eq_true rfl) (Nat.le_of_ble_eq_true rfl) (dq jL_law_s3 0 rfl) rfl (fun r2 => ?_)
  refine rz_istore G (lv' := [(6, .int r2), (5, .int r1), (4, .int (nI i)), (3, .ref 95), (2, .ref 56), (1, .ref 0), (0, .ref 999)]) (by decide) rfl (dq jL_law_s3 1 rfl) ?_
  refine rz_aload_n G 4 rfl rfl (dq jL_law_s3 2 rfl) ?_
  refine rz_callVi G (st := []) (c_X11_thrown (cLn Γ)) lkL_108 sh56 rfl rfl rfl (Nat.le_of_ble_eq_true rfl) (Nat.le_of_ble_eq_true rfl) (dq jL_law_s3 3 rfl) rfl (fun r3 => ?_)
  refine rz_iload G 1 rfl (dq jL_law_s3 4 rfl) ?_
  refine rz_icmp_eq G (tgt := 661) rfl (dq jL_law_s3 5 rfl) (fun _ => ?_) (fun _ => rz_none)
  refine rz_iload G 1 rfl (dq jL_law_s3 8 rfl) ?_
  refine rz_if_ne G (tgt := 678) rfl (dq jL_law_s3 9 rfl) (fun _ => ?_) (fun _ => ?_)
  · refine rz_aload_n G 3 rfl rfl (dq jL_law_s3 10 rfl) ?_
    refine rz_iconst G (v := 0) (dq jL_law_s3 11 rfl) rfl ?_
    refine rz_laldN G (by decide) sh95 (dq jL_law_s3 12 rfl) (fun r4 => ?_)
    refine rz_iload G 0 rfl (dq jL_law_s3 13 rfl) ?_
    refine rz_i2l G (dq jL_law_s3 14 rfl) ?_
    refine rz_lcmp G (dq jL_law_s3 15 rfl) ?_
    refine rz_if_eq G (tgt := 678) rfl (dq jL_law_s3 16 rfl) (fun _ => ?_) (fun _ => rz_none)
    refine rz_goto G (tgt := 2219) rfl (dq jL_law_s3 19 rfl) ?_
    exact rz_lv [2, 3, 4, 5, 6] rfl K
  · refine rz_goto G (tgt := 2219) rfl (dq jL_law_s3 19 rfl) ?_
    exact rz_lv [2, 3, 4, 5, 6] rfl K
theorem cs_lands {ρ : Type} {Γ : Cx} {Q : ρ → State → Prop} {k n i L : Nat} {xs : Nat → Int32} {dn : Sg → Option ρ} (G : GG Γ RL cL_law 8 (some .boolean) 2000 k n) (X : SX Γ L xs) (hlt : (cLn Γ).stackTraces = false) (hR : k + 4 ≤ (cR Γ).cells ∧ n + 24 ≤ (cR Γ).slots) (hi : i + 7 ≤ L) (hL : L ≤ 3584) (K : Rz Γ 8 Q (k + 4) (n + 24) 2219 (lvL i) [] dn) : Rz Γ 8 Q k n 681 (lvL i) [] (dB (f_L_lands (xs (i + 1)) (xs (i + 2))) (f_X11_lands (xs (i + 1)) (xs (i + 2))) dn) := by
  unfold dB
  refine rz_aload_n G 3 rfl rfl (dq jL_law_s3 20 rfl) ?_
  refine rz_arg G X hL 1 (by omega) rfl 4 0 rfl rfl (dq jL_law_s3 21 rfl) (dq jL_law_s3 22 rfl) (dq jL_law_s3 23 rfl) (dq jL_law_s3 24 rfl) (dq jL_law_s3 25 rfl) ?_
  refine rz_arg G X hL 2 (by omega) rfl 4 0 rfl rfl (dq jL_law_s3 26 rfl) (dq jL_law_s3 27 rfl) (dq jL_law_s3 28 rfl) (dq jL_law_s3 29 rfl) (dq jL_law_s3 30 rfl) ?_
  refine rz_aload_n G 1 rfl rfl (dq jL_law_s3 31 rfl) ?_
  refine rz_callSW G (st := []) (As := [.ref 0, .int (xs (i + 1)), .int (xs (i + 2)), .ref 95]) (k' := k + 4) (n' := n + 24) (c_L_lands (cLn Γ) hlt (xs (i + 1)) (xs (i + 2))) lkw_lands rfl (Nat.le_of_ble_eq_true rfl) (Nat.le_of_ble_eq_true rfl) (dq jL_law_s3 32 rfl) rfl ⟨rfl, rfl⟩ hR (fun r1 => ?_)
  have G := G.upL (k' := k + 4) (n' := n + 24) hR.1 hR.2
  show Rz Γ 8 Q (k + 4) (n + 24) 698 [(4, .int (nI i)), (3, .ref 95), (2, .ref 56), (1, .ref 0), (0, .ref 999)] [.int r1] _
  refine rz_istore G (lv' := [(5, .int r1), (4, .int (nI i)), (3, .ref 95), (2, .ref 56), (1, .ref 0), (0, .ref 999)]) (by decide) rfl (dq jL_law_s3 33 rfl) ?_
  refine rz_aload_n G 3 rfl rfl (dq jL_law_s3 34 rfl) ?_
  refine rz_arg G X hL 1 (by omega) rfl 5 1 rfl rfl (dq jL_law_s3 35 rfl) (dq jL_law_s3 36 rfl) (dq jL_law_s3 37 rfl) (dq jL_law_s3 38 rfl) (dq jL_law_s3 39 rfl) ?_
  refine rz_arg G X hL 2 (by omega) rfl 5 1 rfl rfl (dq jL_law_s3 40 rfl) (dq jL_law_s3 41 rfl) (dq jL_law_s3 42 rfl) (dq jL_law_s3 43 rfl) (dq jL_law_s3 44 rfl) ?_
  refine rz_callVi G (st := []) (c_X11_lands (cLn Γ) (xs (i + 1)) (xs (i + 2))) lkL_145 sh56 rfl rfl rfl (Nat.le_of_ble_eq_true rfl) (Nat.le_of_ble_eq_true rfl) (dq jL_law_s3 45 rfl) rfl (fun r2 => ?_)
  refine rz_istore G (lv' := [(6, .int r2), (5, .int r1), (4, .int (nI i)), (3, .ref 95), (2, .ref 56), (1, .ref 0), (0, .ref 999)]) (by decide) rfl (dq jL_law_s3 46 rfl) ?_
  refine rz_aload_n G 4 rfl rfl (dq jL_law_s3 47 rfl) ?_
  refine rz_callVi G (st := []) (c_X11_thrown (cLn Γ)) lkL_108 sh56 rfl rfl rfl (Nat.le_of_ble_eq_true rfl) (Nat.le_of_ble_eq_true rfl) (dq jL_law_s3 48 rfl) rfl (fun r3 => ?_)
  refine rz_iload G 1 rfl (dq jL_law_s3 49 rfl) ?_
  refine rz_icmp_eq G (tgt := 729) rfl (dq jL_law_s3 50 rfl) (fun _ => ?_) (fun _ => rz_none)
  refine rz_iload G 1 rfl (dq jL_law_s3 53 rfl) ?_
  refine rz_if_ne G (tgt := 746) rfl (dq jL_law_s3 54 rfl) (fun _ => ?_) (fun _ => ?_)
  · refine rz_aload_n G 3 rfl rfl (dq jL_law_s3 55 rfl) ?_
    refine rz_iconst G (v := 0) (dq jL_law_s3 56 rfl) rfl ?_
    refine rz_laldN G (by decide) sh95 (dq jL_law_s3 57 rfl) (fun r4 => ?_)
    refine rz_iload G 0 rfl (dq jL_law_s3 58 rfl) ?_
    refine rz_i2l G (dq jL_law_s3 59 rfl) ?_
    refine rz_lcmp G (dq jL_law_s3 60 rfl) ?_
    refine rz_if_eq G (tgt := 746) rfl (dq jL_law_s3 61 rfl) (fun _ => ?_) (fun _ => rz_none)
    refine rz_goto G (tgt := 2219) rfl (dq jL_law_s3 64 rfl) ?_
    exact rz_lv [2, 3, 4, 5, 6] rfl K
  · refine rz_goto G (tgt := 2219) rfl (dq jL_law_s3 64 rfl) ?_
    exact rz_lv [2, 3, 4, 5, 6] rfl K
theorem cs_film {ρ : Type} {Γ : Cx} {Q : ρ → State → Prop} {k n i L : Nat} {xs : Nat → Int32} {dn : Sg → Option ρ} (G : GG Γ RL cL_law 8 (some .boolean) 2000 k n) (X : SX Γ L xs) (hlt : (cLn Γ).stackTraces = false) (hR : k + 4 ≤ (cR Γ).cells ∧ n + 24 ≤ (cR Γ).slots) (hi : i + 7 ≤ L) (hL : L ≤ 3584) (K : Rz Γ 8 Q (k + 4) (n + 24) 2219 (lvL i) [] dn) : Rz Γ 8 Q k n 749 (lvL i) [] (dB (f_L_film (xs (i + 1)) (xs (i + 2))) (f_X11_film (xs (i + 1)) (xs (i + 2))) dn) := by
  unfold dB
  refine rz_aload_n G 3 rfl rfl (dq jL_law_s3 65 rfl) ?_
  refine rz_arg G X hL 1 (by omega) rfl 4 0 rfl rfl (dq jL_law_s3 66 rfl) (dq jL_law_s3 67 rfl) (dq jL_law_s3 68 rfl) (dq jL_law_s3 69 rfl) (dq jL_law_s3 70 rfl) ?_
  refine rz_arg G X hL 2 (by omega) rfl 4 0 rfl rfl (dq jL_law_s3 71 rfl) (dq jL_law_s3 72 rfl) (dq jL_law_s3 73 rfl) (dq jL_law_s3 74 rfl) (dq jL_law_s3 75 rfl) ?_
  refine rz_aload_n G 1 rfl rfl (dq jL_law_s3 76 rfl) ?_
  refine rz_callSW G (st := []) (As := [.ref 0, .int (xs (i + 1)), .int (xs (i + 2)), .ref 95]) (k' := k + 4) (n' := n + 24) (c_L_film (cLn Γ) hlt (xs (i + 1)) (xs (i + 2))) lkw_film rfl (Nat.le_of_ble_eq_true rfl) (Nat.le_of_ble_eq_true rfl) (dq jL_law_s3 77 rfl) rfl ⟨rfl, rfl⟩ hR (fun r1 => ?_)
  have G := G.upL (k' := k + 4) (n' := n + 24) hR.1 hR.2
  show Rz Γ 8 Q (k + 4) (n + 24) 766 [(4, .int (nI i)), (3, .ref 95), (2, .ref 56), (1, .ref 0), (0, .ref 999)] [.int r1] _
  refine rz_istore G (lv' := [(5, .int r1), (4, .int (nI i)), (3, .ref 95), (2, .ref 56), (1, .ref 0), (0, .ref 999)]) (by decide) rfl (dq jL_law_s3 78 rfl) ?_
  refine rz_aload_n G 3 rfl rfl (dq jL_law_s3 79 rfl) ?_
  refine rz_arg G X hL 1 (by omega) rfl 5 1 rfl rfl (dq jL_law_s3 80 rfl) (dq jL_law_s3 81 rfl) (dq jL_law_s3 82 rfl) (dq jL_law_s3 83 rfl) (dq jL_law_s3 84 rfl) ?_
  refine rz_arg G X hL 2 (by omega) rfl 5 1 rfl rfl (dq jL_law_s3 85 rfl) (dq jL_law_s3 86 rfl) (dq jL_law_s3 87 rfl) (dq jL_law_s3 88 rfl) (dq jL_law_s3 89 rfl) ?_
  refine rz_callVi G (st := []) (c_X11_film (cLn Γ) (xs (i + 1)) (xs (i + 2))) lkL_148 sh56 rfl rfl rfl (Nat.le_of_ble_eq_true rfl) (Nat.le_of_ble_eq_true rfl) (dq jL_law_s3 90 rfl) rfl (fun r2 => ?_)
  refine rz_istore G (lv' := [(6, .int r2), (5, .int r1), (4, .int (nI i)), (3, .ref 95), (2, .ref 56), (1, .ref 0), (0, .ref 999)]) (by decide) rfl (dq jL_law_s3 91 rfl) ?_
  refine rz_aload_n G 4 rfl rfl (dq jL_law_s3 92 rfl) ?_
  refine rz_callVi G (st := []) (c_X11_thrown (cLn Γ)) lkL_108 sh56 rfl rfl rfl (Nat.le_of_ble_eq_true rfl) (Nat.le_of_ble_eq_true rfl) (dq jL_law_s3 93 rfl) rfl (fun r3 => ?_)
  refine rz_iload G 1 rfl (dq jL_law_s3 94 rfl) ?_
  refine rz_icmp_eq G (tgt := 797) rfl (dq jL_law_s3 95 rfl) (fun _ => ?_) (fun _ => rz_none)
  refine rz_iload G 1 rfl (dq jL_law_s3 98 rfl) ?_
  refine rz_if_ne G (tgt := 814) rfl (dq jL_law_s3 99 rfl) (fun _ => ?_) (fun _ => ?_)
  · refine rz_aload_n G 3 rfl rfl (dq jL_law_s3 100 rfl) ?_
    refine rz_iconst G (v := 0) (dq jL_law_s3 101 rfl) rfl ?_
    refine rz_laldN G (by decide) sh95 (dq jL_law_s3 102 rfl) (fun r4 => ?_)
    refine rz_iload G 0 rfl (dq jL_law_s3 103 rfl) ?_
    refine rz_i2l G (dq jL_law_s3 104 rfl) ?_
    refine rz_lcmp G (dq jL_law_s3 105 rfl) ?_
    refine rz_if_eq G (tgt := 814) rfl (dq jL_law_s3 106 rfl) (fun _ => ?_) (fun _ => rz_none)
    refine rz_goto G (tgt := 2219) rfl (dq jL_law_s3 109 rfl) ?_
    exact rz_lv [2, 3, 4, 5, 6] rfl K
  · refine rz_goto G (tgt := 2219) rfl (dq jL_law_s3 109 rfl) ?_
    exact rz_lv [2, 3, 4, 5, 6] rfl K
theorem cs_mat {ρ : Type} {Γ : Cx} {Q : ρ → State → Prop} {k n i L : Nat} {xs : Nat → Int32} {dn : Sg → Option ρ} (G : GG Γ RL cL_law 8 (some .boolean) 2000 k n) (X : SX Γ L xs) (hlt : (cLn Γ).stackTraces = false) (hR : k + 4 ≤ (cR Γ).cells ∧ n + 24 ≤ (cR Γ).slots) (hi : i + 7 ≤ L) (hL : L ≤ 3584) (K : Rz Γ 8 Q (k + 4) (n + 24) 2219 (lvL i) [] dn) : Rz Γ 8 Q k n 817 (lvL i) [] (dB (f_L_mat (xs (i + 1))) (f_X11_mat (xs (i + 1))) dn) := by
  unfold dB
  refine rz_aload_n G 3 rfl rfl (dq jL_law_s3 110 rfl) ?_
  refine rz_arg G X hL 1 (by omega) rfl 4 0 rfl rfl (dq jL_law_s3 111 rfl) (dq jL_law_s3 112 rfl) (dq jL_law_s3 113 rfl) (dq jL_law_s3 114 rfl) (dq jL_law_s3 115 rfl) ?_
  refine rz_aload_n G 1 rfl rfl (dq jL_law_s3 116 rfl) ?_
  refine rz_callSW G (st := []) (As := [.ref 0, .int (xs (i + 1)), .ref 95]) (k' := k + 4) (n' := n + 24) (c_L_mat (cLn Γ) hlt (xs (i + 1))) lkw_mat rfl (Nat.le_of_ble_eq_true rfl) (Nat.le_of_ble_eq_true rfl) (dq jL_law_s3 117 rfl) rfl ⟨rfl, rfl⟩ hR (fun r1 => ?_)
  have G := G.upL (k' := k + 4) (n' := n + 24) hR.1 hR.2
  show Rz Γ 8 Q (k + 4) (n + 24) 828 [(4, .int (nI i)), (3, .ref 95), (2, .ref 56), (1, .ref 0), (0, .ref 999)] [.int r1] _
  refine rz_istore G (lv' := [(5, .int r1), (4, .int (nI i)), (3, .ref 95), (2, .ref 56), (1, .ref 0), (0, .ref 999)]) (by decide) rfl (dq jL_law_s3 118 rfl) ?_
  refine rz_aload_n G 3 rfl rfl (dq jL_law_s3 119 rfl) ?_
  refine rz_arg G X hL 1 (by omega) rfl 5 1 rfl rfl (dq jL_law_s3 120 rfl) (dq jL_law_s3 121 rfl) (dq jL_law_s3 122 rfl) (dq jL_law_s3 123 rfl) (dq jL_law_s3 124 rfl) ?_
  refine rz_callVi G (st := []) (c_X11_mat (cLn Γ) (xs (i + 1))) lkL_151 sh56 rfl rfl rfl (Nat.le_of_ble_eq_true rfl) (Nat.le_of_ble_eq_true rfl) (dq jL_law_s3 125 rfl) rfl (fun r2 => ?_)
  refine rz_istore G (lv' := [(6, .int r2), (5, .int r1), (4, .int (nI i)), (3, .ref 95), (2, .ref 56), (1, .ref 0), (0, .ref 999)]) (by decide) rfl (dq jL_law_s3 126 rfl) ?_
  refine rz_aload_n G 4 rfl rfl (dq jL_law_s3 127 rfl) ?_
  refine rz_callVi G (st := []) (c_X11_thrown (cLn Γ)) lkL_108 sh56 rfl rfl rfl (Nat.le_of_ble_eq_true rfl) (Nat.le_of_ble_eq_true rfl) (dq jL_law_s3 128 rfl) rfl (fun r3 => ?_)
  refine rz_iload G 1 rfl (dq jL_law_s3 129 rfl) ?_
  refine rz_icmp_eq G (tgt := 853) rfl (dq jL_law_s3 130 rfl) (fun _ => ?_) (fun _ => rz_none)
  refine rz_iload G 1 rfl (dq jL_law_s3 133 rfl) ?_
  refine rz_if_ne G (tgt := 870) rfl (dq jL_law_s3 134 rfl) (fun _ => ?_) (fun _ => ?_)
  · refine rz_aload_n G 3 rfl rfl (dq jL_law_s3 135 rfl) ?_
    refine rz_iconst G (v := 0) (dq jL_law_s3 136 rfl) rfl ?_
    refine rz_laldN G (by decide) sh95 (dq jL_law_s3 137 rfl) (fun r4 => ?_)
    refine rz_iload G 0 rfl (dq jL_law_s3 138 rfl) ?_
    refine rz_i2l G (dq jL_law_s3 139 rfl) ?_
    refine rz_lcmp G (dq jL_law_s3 140 rfl) ?_
    refine rz_if_eq G (tgt := 870) rfl (dq jL_law_s3 141 rfl) (fun _ => ?_) (fun _ => rz_none)
    refine rz_goto G (tgt := 2219) rfl (dq jL_law_s3 144 rfl) ?_
    exact rz_lv [2, 3, 4, 5, 6] rfl K
  · refine rz_goto G (tgt := 2219) rfl (dq jL_law_s3 144 rfl) ?_
    exact rz_lv [2, 3, 4, 5, 6] rfl K
theorem cs_landing {ρ : Type} {Γ : Cx} {Q : ρ → State → Prop} {k n i L : Nat} {xs : Nat → Int32} {dn : Sg → Option ρ} (G : GG Γ RL cL_law 8 (some .boolean) 2000 k n) (X : SX Γ L xs) (hlt : (cLn Γ).stackTraces = false) (hR : k + 4 ≤ (cR Γ).cells ∧ n + 24 ≤ (cR Γ).slots) (hi : i + 7 ≤ L) (hL : L ≤ 3584) (K : Rz Γ 8 Q (k + 4) (n + 24) 2219 (lvL i) [] dn) : Rz Γ 8 Q k n 873 (lvL i) [] (dB (f_L_landing (xs (i + 1)) (xs (i + 2))) (f_X11_landing (xs (i + 1)) (xs (i + 2))) dn) := by
  unfold dB
  refine rz_aload_n G 3 rfl rfl (dq jL_law_s3 145 rfl) ?_
  refine rz_arg G X hL 1 (by omega) rfl 4 0 rfl rfl (dq jL_law_s3 146 rfl) (dq jL_law_s3 147 rfl) (dq jL_law_s3 148 rfl) (dq jL_law_s3 149 rfl) (dq jL_law_s4 0 rfl) ?_
  refine rz_arg G X hL 2 (by omega) rfl 4 0 rfl rfl (dq jL_law_s4 1 rfl) (dq jL_law_s4 2 rfl) (dq jL_law_s4 3 rfl) (dq jL_law_s4 4 rfl) (dq jL_law_s4 5 rfl) ?_
  refine rz_aload_n G 1 rfl rfl (dq jL_law_s4 6 rfl) ?_
  refine rz_callSW G (st := []) (As := [.ref 0, .int (xs (i + 1)), .int (xs (i + 2)), .ref 95]) (k' := k + 4) (n' := n + 24) (c_L_landing (cLn Γ) hlt (xs (i + 1)) (xs (i + 2))) lkw_landing rfl (Nat.le_of_ble_eq_true rfl) (Nat.le_of_ble_eq_true rfl) (dq jL_law_s4 7 rfl) rfl ⟨rfl, rfl⟩ hR (fun r1 => ?_)
  have G := G.upL (k' := k + 4) (n' := n + 24) hR.1 hR.2
  show Rz Γ 8 Q (k + 4) (n + 24) 890 [(4, .int (nI i)), (3, .ref 95), (2, .ref 56), (1, .ref 0), (0, .ref 999)] [.int r1] _
  refine rz_istore G (lv' := [(5, .int r1), (4, .int (nI i)), (3, .ref 95), (2, .ref 56), (1, .ref 0), (0, .ref 999)]) (by decide) rfl (dq jL_law_s4 8 rfl) ?_
  refine rz_aload_n G 3 rfl rfl (dq jL_law_s4 9 rfl) ?_
  refine rz_arg G X hL 1 (by omega) rfl 5 1 rfl rfl (dq jL_law_s4 10 rfl) (dq jL_law_s4 11 rfl) (dq jL_law_s4 12 rfl) (dq jL_law_s4 13 rfl) (dq jL_law_s4 14 rfl) ?_
  refine rz_arg G X hL 2 (by omega) rfl 5 1 rfl rfl (dq jL_law_s4 15 rfl) (dq jL_law_s4 16 rfl) (dq jL_law_s4 17 rfl) (dq jL_law_s4 18 rfl) (dq jL_law_s4 19 rfl) ?_
  refine rz_callVi G (st := []) (c_X11_landing (cLn Γ) (xs (i + 1)) (xs (i + 2))) lkL_154 sh56 rfl rfl rfl (Nat.le_of_ble_eq_true rfl) (Nat.le_of_ble_eq_true rfl) (dq jL_law_s4 20 rfl) rfl (fun r2 => ?_)
  refine rz_istore G (lv' := [(6, .int r2), (5, .int r1), (4, .int (nI i)), (3, .ref 95), (2, .ref 56), (1, .ref 0), (0, .ref 999)]) (by decide) rfl (dq jL_law_s4 21 rfl) ?_
  refine rz_aload_n G 4 rfl rfl (dq jL_law_s4 22 rfl) ?_
  refine rz_callVi G (st := []) (c_X11_thrown (cLn Γ)) lkL_108 sh56 rfl rfl rfl (Nat.le_of_ble_eq_true rfl) (Nat.le_of_ble_eq_true rfl) (dq jL_law_s4 23 rfl) rfl (fun r3 => ?_)
  refine rz_iload G 1 rfl (dq jL_law_s4 24 rfl) ?_
  refine rz_icmp_eq G (tgt := 921) rfl (dq jL_law_s4 25 rfl) (fun _ => ?_) (fun _ => rz_none)
  refine rz_iload G 1 rfl (dq jL_law_s4 28 rfl) ?_
  refine rz_if_ne G (tgt := 938) rfl (dq jL_law_s4 29 rfl) (fun _ => ?_) (fun _ => ?_)
  · refine rz_aload_n G 3 rfl rfl (dq jL_law_s4 30 rfl) ?_
    refine rz_iconst G (v := 0) (dq jL_law_s4 31 rfl) rfl ?_
    refine rz_laldN G (by decide) sh95 (dq jL_law_s4 32 rfl) (fun r4 => ?_)
    refine rz_iload G 0 rfl (dq jL_law_s4 33 rfl) ?_
    refine rz_i2l G (dq jL_law_s4 34 rfl) ?_
    refine rz_lcmp G (dq jL_law_s4 35 rfl) ?_
    refine rz_if_eq G (tgt := 938) rfl (dq jL_law_s4 36 rfl) (fun _ => ?_) (fun _ => rz_none)
    refine rz_goto G (tgt := 2219) rfl (dq jL_law_s4 39 rfl) ?_
    exact rz_lv [2, 3, 4, 5, 6] rfl K
  · refine rz_goto G (tgt := 2219) rfl (dq jL_law_s4 39 rfl) ?_
    exact rz_lv [2, 3, 4, 5, 6] rfl K
theorem cs_moment {ρ : Type} {Γ : Cx} {Q : ρ → State → Prop} {k n i L : Nat} {xs : Nat → Int32} {dn : Sg → Option ρ} (G : GG Γ RL cL_law 8 (some .boolean) 2000 k n) (X : SX Γ L xs) (hlt : (cLn Γ).stackTraces = false) (hR : k + 4 ≤ (cR Γ).cells ∧ n + 24 ≤ (cR Γ).slots) (hi : i + 7 ≤ L) (hL : L ≤ 3584) (K : Rz Γ 8 Q (k + 4) (n + 24) 2219 (lvL i) [] dn) : Rz Γ 8 Q k n 941 (lvL i) [] (dB (f_L_moment (xs (i + 1)) (xs (i + 2))) (f_X11_moment (xs (i + 1)) (xs (i + 2))) dn) := by
  unfold dB
  refine rz_aload_n G 3 rfl rfl (dq jL_law_s4 40 rfl) ?_
  refine rz_arg G X hL 1 (by omega) rfl 4 0 rfl rfl (dq jL_law_s4 41 rfl) (dq jL_law_s4 42 rfl) (dq jL_law_s4 43 rfl) (dq jL_law_s4 44 rfl) (dq jL_law_s4 45 rfl) ?_
  refine rz_arg G X hL 2 (by omega) rfl 4 0 rfl rfl (dq jL_law_s4 46 rfl) (dq jL_law_s4 47 rfl) (dq jL_law_s4 48 rfl) (dq jL_law_s4 49 rfl) (dq jL_law_s4 50 rfl) ?_
  refine rz_aload_n G 1 rfl rfl (dq jL_law_s4 51 rfl) ?_
  refine rz_callSW G (st := []) (As := [.ref 0, .int (xs (i + 1)), .int (xs (i + 2)), .ref 95]) (k' := k + 4) (n' := n + 24) (c_L_moment (cLn Γ) hlt (xs (i + 1)) (xs (i + 2))) lkw_moment rfl (Nat.le_of_ble_eq_true rfl) (Nat.le_of_ble_eq_true rfl) (dq jL_law_s4 52 rfl) rfl ⟨rfl, rfl⟩ hR (fun r1 => ?_)
  have G := G.upL (k' := k + 4) (n' := n + 24) hR.1 hR.2
  show Rz Γ 8 Q (k + 4) (n + 24) 958 [(4, .int (nI i)), (3, .ref 95), (2, .ref 56), (1, .ref 0), (0, .ref 999)] [.int r1] _
  refine rz_istore G (lv' := [(5, .int r1), (4, .int (nI i)), (3, .ref 95), (2, .ref 56), (1, .ref 0), (0, .ref 999)]) (by decide) rfl (dq jL_law_s4 53 rfl) ?_
  refine rz_aload_n G 3 rfl rfl (dq jL_law_s4 54 rfl) ?_
  refine rz_arg G X hL 1 (by omega) rfl 5 1 rfl rfl (dq jL_law_s4 55 rfl) (dq jL_law_s4 56 rfl) (dq jL_law_s4 57 rfl) (dq jL_law_s4 58 rfl) (dq jL_law_s4 59 rfl) ?_
  refine rz_arg G X hL 2 (by omega) rfl 5 1 rfl rfl (dq jL_law_s4 60 rfl) (dq jL_law_s4 61 rfl) (dq jL_law_s4 62 rfl) (dq jL_law_s4 63 rfl) (dq jL_law_s4 64 rfl) ?_
  refine rz_callVi G (st := []) (c_X11_moment (cLn Γ) (xs (i + 1)) (xs (i + 2))) lkL_157 sh56 rfl rfl rfl (Nat.le_of_ble_eq_true rfl) (Nat.le_of_ble_eq_true rfl) (dq jL_law_s4 65 rfl) rfl (fun r2 => ?_)
  refine rz_istore G (lv' := [(6, .int r2), (5, .int r1), (4, .int (nI i)), (3, .ref 95), (2, .ref 56), (1, .ref 0), (0, .ref 999)]) (by decide) rfl (dq jL_law_s4 66 rfl) ?_
  refine rz_aload_n G 4 rfl rfl (dq jL_law_s4 67 rfl) ?_
  refine rz_callVi G (st := []) (c_X11_thrown (cLn Γ)) lkL_108 sh56 rfl rfl rfl (Nat.le_of_ble_eq_true rfl) (Nat.le_of_ble_eq_true rfl) (dq jL_law_s4 68 rfl) rfl (fun r3 => ?_)
  refine rz_iload G 1 rfl (dq jL_law_s4 69 rfl) ?_
  refine rz_icmp_eq G (tgt := 989) rfl (dq jL_law_s4 70 rfl) (fun _ => ?_) (fun _ => rz_none)
  refine rz_iload G 1 rfl (dq jL_law_s4 73 rfl) ?_
  refine rz_if_ne G (tgt := 1006) rfl (dq jL_law_s4 74 rfl) (fun _ => ?_) (fun _ => ?_)
  · refine rz_aload_n G 3 rfl rfl (dq jL_law_s4 75 rfl) ?_
    refine rz_iconst G (v := 0) (dq jL_law_s4 76 rfl) rfl ?_
    refine rz_laldN G (by decide) sh95 (dq jL_law_s4 77 rfl) (fun r4 => ?_)
    refine rz_iload G 0 rfl (dq jL_law_s4 78 rfl) ?_
    refine rz_i2l G (dq jL_law_s4 79 rfl) ?_
    refine rz_lcmp G (dq jL_law_s4 80 rfl) ?_
    refine rz_if_eq G (tgt := 1006) rfl (dq jL_law_s4 81 rfl) (fun _ => ?_) (fun _ => rz_none)
    refine rz_goto G (tgt := 2219) rfl (dq jL_law_s4 84 rfl) ?_
    exact rz_lv [2, 3, 4, 5, 6] rfl K
  · refine rz_goto G (tgt := 2219) rfl (dq jL_law_s4 84 rfl) ?_
    exact rz_lv [2, 3, 4, 5, 6] rfl K
theorem cs_step {ρ : Type} {Γ : Cx} {Q : ρ → State → Prop} {k n i L : Nat} {xs : Nat → Int32} {dn : Sg → Option ρ} (G : GG Γ RL cL_law 8 (some .boolean) 2000 k n) (X : SX Γ L xs) (hlt : (cLn Γ).stackTraces = false) (hR : k + 4 ≤ (cR Γ).cells ∧ n + 24 ≤ (cR Γ).slots) (hi : i + 7 ≤ L) (hL : L ≤ 3584) (K : Rz Γ 8 Q (k + 4) (n + 24) 2219 (lvL i) [] dn) : Rz Γ 8 Q k n 1009 (lvL i) [] (dB (f_L_step (xs (i + 1)) (xs (i + 2)) (xs (i + 3))) (f_X11_step (xs (i + 1)) (xs (i + 2)) (xs (i + 3))) dn) := by
  unfold dB
  refine rz_aload_n G 3 rfl rfl (dq jL_law_s4 85 rfl) ?_
  refine rz_arg G X hL 1 (by omega) rfl 4 0 rfl rfl (dq jL_law_s4 86 rfl) (dq jL_law_s4 87 rfl) (dq jL_law_s4 88 rfl) (dq jL_law_s4 89 rfl) (dq jL_law_s4 90 rfl) ?_
  refine rz_arg G X hL 2 (by omega) rfl 4 0 rfl rfl (dq jL_law_s4 91 rfl) (dq jL_law_s4 92 rfl) (dq jL_law_s4 93 rfl) (dq jL_law_s4 94 rfl) (dq jL_law_s4 95 rfl) ?_
  refine rz_arg G X hL 3 (by omega) rfl 4 0 rfl rfl (dq jL_law_s4 96 rfl) (dq jL_law_s4 97 rfl) (dq jL_law_s4 98 rfl) (dq jL_law_s4 99 rfl) (dq jL_law_s4 100 rfl) ?_
  refine rz_aload_n G 1 rfl rfl (dq jL_law_s4 101 rfl) ?_
  refine rz_callSW G (st := []) (As := [.ref 0, .int (xs (i + 1)), .int (xs (i + 2)), .int (xs (i + 3)), .ref 95]) (k' := k + 4) (n' := n + 24) (c_L_step (cLn Γ) hlt (xs (i + 1)) (xs (i + 2)) (xs (i + 3))) lkw_step rfl (Nat.le_of_ble_eq_true rfl) (Nat.le_of_ble_eq_true rfl) (dq jL_law_s4 102 rfl) rfl ⟨rfl, rfl⟩ hR (fun r1 => ?_)
  have G := G.upL (k' := k + 4) (n' := n + 24) hR.1 hR.2
  show Rz Γ 8 Q (k + 4) (n + 24) 1032 [(4, .int (nI i)), (3, .ref 95), (2, .ref 56), (1, .ref 0), (0, .ref 999)] [.int r1] _
  refine rz_istore G (lv' := [(5, .int r1), (4, .int (nI i)), (3, .ref 95), (2, .ref 56), (1, .ref 0), (0, .ref 999)]) (by decide) rfl (dq jL_law_s4 103 rfl) ?_
  refine rz_aload_n G 3 rfl rfl (dq jL_law_s4 104 rfl) ?_
  refine rz_arg G X hL 1 (by omega) rfl 5 1 rfl rfl (dq jL_law_s4 105 rfl) (dq jL_law_s4 106 rfl) (dq jL_law_s4 107 rfl) (dq jL_law_s4 108 rfl) (dq jL_law_s4 109 rfl) ?_
  refine rz_arg G X hL 2 (by omega) rfl 5 1 rfl rfl (dq jL_law_s4 110 rfl) (dq jL_law_s4 111 rfl) (dq jL_law_s4 112 rfl) (dq jL_law_s4 113 rfl) (dq jL_law_s4 114 rfl) ?_
  refine rz_arg G X hL 3 (by omega) rfl 5 1 rfl rfl (dq jL_law_s4 115 rfl) (dq jL_law_s4 116 rfl) (dq jL_law_s4 117 rfl) (dq jL_law_s4 118 rfl) (dq jL_law_s4 119 rfl) ?_
  refine rz_callVi G (st := []) (c_X11_step (cLn Γ) (xs (i + 1)) (xs (i + 2)) (xs (i + 3))) lkL_160 sh56 rfl rfl rfl (Nat.le_of_ble_eq_true rfl) (Nat.le_of_ble_eq_true rfl) (dq jL_law_s4 120 rfl) rfl (fun r2 => ?_)
  refine rz_istore G (lv' := [(6, .int r2), (5, .int r1), (4, .int (nI i)), (3, .ref 95), (2, .ref 56), (1, .ref 0), (0, .ref 999)]) (by decide) rfl (dq jL_law_s4 121 rfl) ?_
  refine rz_aload_n G 4 rfl rfl (dq jL_law_s4 122 rfl) ?_
  refine rz_callVi G (st := []) (c_X11_thrown (cLn Γ)) lkL_108 sh56 rfl rfl rfl (Nat.le_of_ble_eq_true rfl) (Nat.le_of_ble_eq_true rfl) (dq jL_law_s4 123 rfl) rfl (fun r3 => ?_)
  refine rz_iload G 1 rfl (dq jL_law_s4 124 rfl) ?_
  refine rz_icmp_eq G (tgt := 1069) rfl (dq jL_law_s4 125 rfl) (fun _ => ?_) (fun _ => rz_none)
  refine rz_iload G 1 rfl (dq jL_law_s4 128 rfl) ?_
  refine rz_if_ne G (tgt := 1086) rfl (dq jL_law_s4 129 rfl) (fun _ => ?_) (fun _ => ?_)
  · refine rz_aload_n G 3 rfl rfl (dq jL_law_s4 130 rfl) ?_
    refine rz_iconst G (v := 0) (dq jL_law_s4 131 rfl) rfl ?_
    refine rz_laldN G (by decide) sh95 (dq jL_law_s4 132 rfl) (fun r4 => ?_)
    refine rz_iload G 0 rfl (dq jL_law_s4 133 rfl) ?_
    refine rz_i2l G (dq jL_law_s4 134 rfl) ?_
    refine rz_lcmp G (dq jL_law_s4 135 rfl) ?_
    refine rz_if_eq G (tgt := 1086) rfl (dq jL_law_s4 136 rfl) (fun _ => ?_) (fun _ => rz_none)
    refine rz_goto G (tgt := 2219) rfl (dq jL_law_s4 139 rfl) ?_
    exact rz_lv [2, 3, 4, 5, 6] rfl K
  · refine rz_goto G (tgt := 2219) rfl (dq jL_law_s4 139 rfl) ?_
    exact rz_lv [2, 3, 4, 5, 6] rfl K
theorem cs_danger {ρ : Type} {Γ : Cx} {Q : ρ → State → Prop} {k n i L : Nat} {xs : Nat → Int32} {dn : Sg → Option ρ} (G : GG Γ RL cL_law 8 (some .boolean) 2000 k n) (X : SX Γ L xs) (hlt : (cLn Γ).stackTraces = false) (hR : k + 4 ≤ (cR Γ).cells ∧ n + 24 ≤ (cR Γ).slots) (hi : i + 7 ≤ L) (hL : L ≤ 3584) (K : Rz Γ 8 Q (k + 4) (n + 24) 2219 (lvL i) [] dn) : Rz Γ 8 Q k n 1089 (lvL i) [] (dB (f_L_danger (xs (i + 1))) (f_X11_danger (xs (i + 1))) dn) := by
  unfold dB
  refine rz_aload_n G 3 rfl rfl (dq jL_law_s4 140 rfl) ?_
  refine rz_arg G X hL 1 (by omega) rfl 4 0 rfl rfl (dq jL_law_s4 141 rfl) (dq jL_law_s4 142 rfl) (dq jL_law_s4 143 rfl) (dq jL_law_s4 144 rfl) (dq jL_law_s4 145 rfl) ?_
  refine rz_aload_n G 1 rfl rfl (dq jL_law_s4 146 rfl) ?_
  refine rz_callSW G (st := []) (As := [.ref 0, .int (xs (i + 1)), .ref 95]) (k' := k + 4) (n' := n + 24) (c_L_danger (cLn Γ) hlt (xs (i + 1))) lkw_danger rfl (Nat.le_of_ble_eq_true rfl) (Nat.le_of_ble_eq_true rfl) (dq jL_law_s4 147 rfl) rfl ⟨rfl, rfl⟩ hR (fun r1 => ?_)
  have G := G.upL (k' := k + 4) (n' := n + 24) hR.1 hR.2
  show Rz Γ 8 Q (k + 4) (n + 24) 1100 [(4, .int (nI i)), (3, .ref 95), (2, .ref 56), (1, .ref 0), (0, .ref 999)] [.int r1] _
  refine rz_istore G (lv' := [(5, .int r1), (4, .int (nI i)), (3, .ref 95), (2, .ref 56), (1, .ref 0), (0, .ref 999)]) (by decide) rfl (dq jL_law_s4 148 rfl) ?_
  refine rz_aload_n G 3 rfl rfl (dq jL_law_s4 149 rfl) ?_
  refine rz_arg G X hL 1 (by omega) rfl 5 1 rfl rfl (dq jL_law_s5 0 rfl) (dq jL_law_s5 1 rfl) (dq jL_law_s5 2 rfl) (dq jL_law_s5 3 rfl) (dq jL_law_s5 4 rfl) ?_
  refine rz_callVi G (st := []) (c_X11_danger (cLn Γ) (xs (i + 1))) lkL_163 sh56 rfl rfl rfl (Nat.le_of_ble_eq_true rfl) (Nat.le_of_ble_eq_true rfl) (dq jL_law_s5 5 rfl) rfl (fun r2 => ?_)
  refine rz_istore G (lv' := [(6, .int r2), (5, .int r1), (4, .int (nI i)), (3, .ref 95), (2, .ref 56), (1, .ref 0), (0, .ref 999)]) (by decide) rfl (dq jL_law_s5 6 rfl) ?_
  refine rz_aload_n G 4 rfl rfl (dq jL_law_s5 7 rfl) ?_
  refine rz_callVi G (st := []) (c_X11_thrown (cLn Γ)) lkL_108 sh56 rfl rfl rfl (Nat.le_of_ble_eq_true rfl) (Nat.le_of_ble_eq_true rfl) (dq jL_law_s5 8 rfl) rfl (fun r3 => ?_)
  refine rz_iload G 1 rfl (dq jL_law_s5 9 rfl) ?_
  refine rz_icmp_eq G (tgt := 1125) rfl (dq jL_law_s5 10 rfl) (fun _ => ?_) (fun _ => rz_none)
  refine rz_iload G 1 rfl (dq jL_law_s5 13 rfl) ?_
  refine rz_if_ne G (tgt := 1142) rfl (dq jL_law_s5 14 rfl) (fun _ => ?_) (fun _ => ?_)
  · refine rz_aload_n G 3 rfl rfl (dq jL_law_s5 15 rfl) ?_
    refine rz_iconst G (v := 0) (dq jL_law_s5 16 rfl) rfl ?_
    refine rz_laldN G (by decide) sh95 (dq jL_law_s5 17 rfl) (fun r4 => ?_)
    refine rz_iload G 0 rfl (dq jL_law_s5 18 rfl) ?_
    refine rz_i2l G (dq jL_law_s5 19 rfl) ?_
    refine rz_lcmp G (dq jL_law_s5 20 rfl) ?_
    refine rz_if_eq G (tgt := 1142) rfl (dq jL_law_s5 21 rfl) (fun _ => ?_) (fun _ => rz_none)
    refine rz_goto G (tgt := 2219) rfl (dq jL_law_s5 24 rfl) ?_
    exact rz_lv [2, 3, 4, 5, 6] rfl K
  · refine rz_goto G (tgt := 2219) rfl (dq jL_law_s5 24 rfl) ?_
    exact rz_lv [2, 3, 4, 5, 6] rfl K
theorem cs_pairs {ρ : Type} {Γ : Cx} {Q : ρ → State → Prop} {k n i L : Nat} {xs : Nat → Int32} {dn : Sg → Option ρ} (G : GG Γ RL cL_law 8 (some .boolean) 2000 k n) (X : SX Γ L xs) (hlt : (cLn Γ).stackTraces = false) (hR : k + 4 ≤ (cR Γ).cells ∧ n + 24 ≤ (cR Γ).slots) (hi : i + 7 ≤ L) (hL : L ≤ 3584) (K : Rz Γ 8 Q (k + 4) (n + 24) 2219 (lvL i) [] dn) : Rz Γ 8 Q k n 1145 (lvL i) [] (dA (f_X10_pairs) (f_X11_pairs) dn) := by
  unfold dA
  refine rz_aload_n G 3 rfl rfl (dq jL_law_s5 25 rfl) ?_
  refine rz_callVi G (st := []) (c_X10_pairs (cLn Γ)) lkL_164 sh0 rfl rfl rfl (Nat.le_of_ble_eq_true rfl) (Nat.le_of_ble_eq_true rfl) (dq jL_law_s5 26 rfl) rfl (fun r1 => ?_)
  refine rz_aload_n G 2 rfl rfl (dq jL_law_s5 27 rfl) ?_
  refine rz_callVi G (st := [.int r1]) (c_X11_pairs (cLn Γ)) lkL_167 sh56 rfl rfl rfl (Nat.le_of_ble_eq_true rfl) (Nat.le_of_ble_eq_true rfl) (dq jL_law_s5 28 rfl) rfl (fun r2 => ?_)
  refine rz_icmp_eq G (tgt := 2219) rfl (dq jL_law_s5 29 rfl) (fun _ => ?_) (fun _ => rz_none)
  exact rz_wid (by omega) (by omega) K
theorem cs_apart {ρ : Type} {Γ : Cx} {Q : ρ → State → Prop} {k n i L : Nat} {xs : Nat → Int32} {dn : Sg → Option ρ} (G : GG Γ RL cL_law 8 (some .boolean) 2000 k n) (X : SX Γ L xs) (hlt : (cLn Γ).stackTraces = false) (hR : k + 4 ≤ (cR Γ).cells ∧ n + 24 ≤ (cR Γ).slots) (hi : i + 7 ≤ L) (hL : L ≤ 3584) (K : Rz Γ 8 Q (k + 4) (n + 24) 2219 (lvL i) [] dn) : Rz Γ 8 Q k n 1158 (lvL i) [] (dA (f_X10_apart) (f_X11_apart) dn) := by
  unfold dA
  refine rz_aload_n G 3 rfl rfl (dq jL_law_s5 32 rfl) ?_
  refine rz_callVi G (st := []) (c_X10_apart (cLn Γ)) lkL_168 sh0 rfl rfl rfl (Nat.le_of_ble_eq_true rfl) (Nat.le_of_ble_eq_true rfl) (dq jL_law_s5 33 rfl) rfl (fun r1 => ?_)
  refine rz_aload_n G 2 rfl rfl (dq jL_law_s5 34 rfl) ?_
  refine rz_callVi G (st := [.int r1]) (c_X11_apart (cLn Γ)) lkL_171 sh56 rfl rfl rfl (Nat.le_of_ble_eq_true rfl) (Nat.le_of_ble_eq_true rfl) (dq jL_law_s5 35 rfl) rfl (fun r2 => ?_)
  refine rz_icmp_eq G (tgt := 2219) rfl (dq jL_law_s5 36 rfl) (fun _ => ?_) (fun _ => rz_none)
  exact rz_wid (by omega) (by omega) K
theorem cs_without {ρ : Type} {Γ : Cx} {Q : ρ → State → Prop} {k n i L : Nat} {xs : Nat → Int32} {dn : Sg → Option ρ} (G : GG Γ RL cL_law 8 (some .boolean) 2000 k n) (X : SX Γ L xs) (hlt : (cLn Γ).stackTraces = false) (hR : k + 4 ≤ (cR Γ).cells ∧ n + 24 ≤ (cR Γ).slots) (hi : i + 7 ≤ L) (hL : L ≤ 3584) (K : Rz Γ 8 Q (k + 4) (n + 24) 2219 (lvL i) [] dn) : Rz Γ 8 Q k n 1171 (lvL i) [] (dB (f_L_without (xs (i + 1)) (xs (i + 2))) (f_X11_without (xs (i + 1)) (xs (i + 2))) dn) := by
  unfold dB
  refine rz_aload_n G 3 rfl rfl (dq jL_law_s5 39 rfl) ?_
  refine rz_arg G X hL 1 (by omega) rfl 4 0 rfl rfl (dq jL_law_s5 40 rfl) (dq jL_law_s5 41 rfl) (dq jL_law_s5 42 rfl) (dq jL_law_s5 43 rfl) (dq jL_law_s5 44 rfl) ?_
  refine rz_arg G X hL 2 (by omega) rfl 4 0 rfl rfl (dq jL_law_s5 45 rfl) (dq jL_law_s5 46 rfl) (dq jL_law_s5 47 rfl) (dq jL_law_s5 48 rfl) (dq jL_law_s5 49 rfl) ?_
  refine rz_aload_n G 1 rfl rfl (dq jL_law_s5 50 rfl) ?_
  refine rz_callSW G (st := []) (As := [.ref 0, .int (xs (i + 1)), .int (xs (i + 2)), .ref 95]) (k' := k + 4) (n' := n + 24) (c_L_without (cLn Γ) hlt (xs (i + 1)) (xs (i + 2))) lkw_without rfl (Nat.le_of_ble_eq_true rfl) (Nat.le_of_ble_eq_true rfl) (dq jL_law_s5 51 rfl) rfl ⟨rfl, rfl⟩ hR (fun r1 => ?_)
  have G := G.upL (k' := k + 4) (n' := n + 24) hR.1 hR.2
  show Rz Γ 8 Q (k + 4) (n + 24) 1188 [(4, .int (nI i)), (3, .ref 95), (2, .ref 56), (1, .ref 0), (0, .ref 999)] [.int r1] _
  refine rz_istore G (lv' := [(5, .int r1), (4, .int (nI i)), (3, .ref 95), (2, .ref 56), (1, .ref 0), (0, .ref 999)]) (by decide) rfl (dq jL_law_s5 52 rfl) ?_
  refine rz_aload_n G 3 rfl rfl (dq jL_law_s5 53 rfl) ?_
  refine rz_arg G X hL 1 (by omega) rfl 5 1 rfl rfl (dq jL_law_s5 54 rfl) (dq jL_law_s5 55 rfl) (dq jL_law_s5 56 rfl) (dq jL_law_s5 57 rfl) (dq jL_law_s5 58 rfl) ?_
  refine rz_arg G X hL 2 (by omega) rfl 5 1 rfl rfl (dq jL_law_s5 59 rfl) (dq jL_law_s5 60 rfl) (dq jL_law_s5 61 rfl) (dq jL_law_s5 62 rfl) (dq jL_law_s5 63 rfl) ?_
  refine rz_callVi G (st := []) (c_X11_without (cLn Γ) (xs (i + 1)) (xs (i + 2))) lkL_174 sh56 rfl rfl rfl (Nat.le_of_ble_eq_true rfl) (Nat.le_of_ble_eq_true rfl) (dq jL_law_s5 64 rfl) rfl (fun r2 => ?_)
  refine rz_istore G (lv' := [(6, .int r2), (5, .int r1), (4, .int (nI i)), (3, .ref 95), (2, .ref 56), (1, .ref 0), (0, .ref 999)]) (by decide) rfl (dq jL_law_s5 65 rfl) ?_
  refine rz_aload_n G 4 rfl rfl (dq jL_law_s5 66 rfl) ?_
  refine rz_callVi G (st := []) (c_X11_thrown (cLn Γ)) lkL_108 sh56 rfl rfl rfl (Nat.le_of_ble_eq_true rfl) (Nat.le_of_ble_eq_true rfl) (dq jL_law_s5 67 rfl) rfl (fun r3 => ?_)
  refine rz_iload G 1 rfl (dq jL_law_s5 68 rfl) ?_
  refine rz_icmp_eq G (tgt := 1219) rfl (dq jL_law_s5 69 rfl) (fun _ => ?_) (fun _ => rz_none)
  refine rz_iload G 1 rfl (dq jL_law_s5 72 rfl) ?_
  refine rz_if_ne G (tgt := 1236) rfl (dq jL_law_s5 73 rfl) (fun _ => ?_) (fun _ => ?_)
  · refine rz_aload_n G 3 rfl rfl (dq jL_law_s5 74 rfl) ?_
    refine rz_iconst G (v := 0) (dq jL_law_s5 75 rfl) rfl ?_
    refine rz_laldN G (by decide) sh95 (dq jL_law_s5 76 rfl) (fun r4 => ?_)
    refine rz_iload G 0 rfl (dq jL_law_s5 77 rfl) ?_
    refine rz_i2l G (dq jL_law_s5 78 rfl) ?_
    refine rz_lcmp G (dq jL_law_s5 79 rfl) ?_
    refine rz_if_eq G (tgt := 1236) rfl (dq jL_law_s5 80 rfl) (fun _ => ?_) (fun _ => rz_none)
    refine rz_goto G (tgt := 2219) rfl (dq jL_law_s5 83 rfl) ?_
    exact rz_lv [2, 3, 4, 5, 6] rfl K
  · refine rz_goto G (tgt := 2219) rfl (dq jL_law_s5 83 rfl) ?_
    exact rz_lv [2, 3, 4, 5, 6] rfl K
theorem cs_falls {ρ : Type} {Γ : Cx} {Q : ρ → State → Prop} {k n i L : Nat} {xs : Nat → Int32} {dn : Sg → Option ρ} (G : GG Γ RL cL_law 8 (some .boolean) 2000 k n) (X : SX Γ L xs) (hlt : (cLn Γ).stackTraces = false) (hR : k + 4 ≤ (cR Γ).cells ∧ n + 24 ≤ (cR Γ).slots) (hi : i + 7 ≤ L) (hL : L ≤ 3584) (K : Rz Γ 8 Q (k + 4) (n + 24) 2219 (lvL i) [] dn) : Rz Γ 8 Q k n 1239 (lvL i) [] (dB' (f_L_falls (xs (i + 1)) (xs (i + 2)) (xs (i + 3)) (xs (i + 4)) (xs (i + 5))) (f_X11_falls (xs (i + 1)) (xs (i + 2)) (xs (i + 3)) (xs (i + 4)) (xs (i + 5))) dn) := by
  unfold dB'
  refine rz_aload_n G 3 rfl rfl (dq jL_law_s5 84 rfl) ?_
  refine rz_arg G X hL 1 (by omega) rfl 4 0 rfl rfl (dq jL_law_s5 85 rfl) (dq jL_law_s5 86 rfl) (dq jL_law_s5 87 rfl) (dq jL_law_s5 88 rfl) (dq jL_law_s5 89 rfl) ?_
  refine rz_arg G X hL 2 (by omega) rfl 4 0 rfl rfl (dq jL_law_s5 90 rfl) (dq jL_law_s5 91 rfl) (dq jL_law_s5 92 rfl) (dq jL_law_s5 93 rfl) (dq jL_law_s5 94 rfl) ?_
  refine rz_arg G X hL 3 (by omega) rfl 4 0 rfl rfl (dq jL_law_s5 95 rfl) (dq jL_law_s5 96 rfl) (dq jL_law_s5 97 rfl) (dq jL_law_s5 98 rfl) (dq jL_law_s5 99 rfl) ?_
  refine rz_arg G X hL 4 (by omega) rfl 4 0 rfl rfl (dq jL_law_s5 100 rfl) (dq jL_law_s5 101 rfl) (dq jL_law_s5 102 rfl) (dq jL_law_s5 103 rfl) (dq jL_law_s5 104 rfl) ?_
  refine rz_arg G X hL 5 (by omega) rfl 4 0 rfl rfl (dq jL_law_s5 105 rfl) (dq jL_law_s5 106 rfl) (dq jL_law_s5 107 rfl) (dq jL_law_s5 108 rfl) (dq jL_law_s5 109 rfl) ?_
  refine rz_aload_n G 1 rfl rfl (dq jL_law_s5 110 rfl) ?_
  refine rz_callSW G (st := []) (As := [.ref 0, .int (xs (i + 1)), .int (xs (i + 2)), .int (xs (i + 3)), .int (xs (i + 4)), .int (xs (i + 5)), .ref 95]) (k' := k + 4) (n' := n + 24) (c_L_falls (cLn Γ) hlt (xs (i + 1)) (xs (i + 2)) (xs (i + 3)) (xs (i + 4)) (xs (i + 5))) lkw_falls rfl (Nat.le_of_ble_eq_true rfl) (Nat.le_of_ble_eq_true rfl) (dq jL_law_s5 111 rfl) rfl ⟨rfl, rfl⟩ hR (fun r1 => ?_)
  have G := G.upL (k' := k + 4) (n' := n + 24) hR.1 hR.2
  show Rz Γ 8 Q (k + 4) (n + 24) 1274 [(4, .int (nI i)), (3, .ref 95), (2, .ref 56), (1, .ref 0), (0, .ref 999)] [.int r1] _
  refine rz_istore G (lv' := [(5, .int r1), (4, .int (nI i)), (3, .ref 95), (2, .ref 56), (1, .ref 0), (0, .ref 999)]) (by decide) rfl (dq jL_law_s5 112 rfl) ?_
  refine rz_aload_n G 3 rfl rfl (dq jL_law_s5 113 rfl) ?_
  refine rz_arg G X hL 1 (by omega) rfl 5 1 rfl rfl (dq jL_law_s5 114 rfl) (dq jL_law_s5 115 rfl) (dq jL_law_s5 116 rfl) (dq jL_law_s5 117 rfl) (dq jL_law_s5 118 rfl) ?_
  refine rz_arg G X hL 2 (by omega) rfl 5 1 rfl rfl (dq jL_law_s5 119 rfl) (dq jL_law_s5 120 rfl) (dq jL_law_s5 121 rfl) (dq jL_law_s5 122 rfl) (dq jL_law_s5 123 rfl) ?_
  refine rz_arg G X hL 3 (by omega) rfl 5 1 rfl rfl (dq jL_law_s5 124 rfl) (dq jL_law_s5 125 rfl) (dq jL_law_s5 126 rfl) (dq jL_law_s5 127 rfl) (dq jL_law_s5 128 rfl) ?_
  refine rz_arg G X hL 4 (by omega) rfl 5 1 rfl rfl (dq jL_law_s5 129 rfl) (dq jL_law_s5 130 rfl) (dq jL_law_s5 131 rfl) (dq jL_law_s5 132 rfl) (dq jL_law_s5 133 rfl) ?_
  refine rz_arg G X hL 5 (by omega) rfl 5 1 rfl rfl (dq jL_law_s5 134 rfl) (dq jL_law_s5 135 rfl) (dq jL_law_s5 136 rfl) (dq jL_law_s5 137 rfl) (dq jL_law_s5 138 rfl) ?_
  refine rz_callVl G (st := []) (c_X11_falls (cLn Γ) (xs (i + 1)) (xs (i + 2)) (xs (i + 3)) (xs (i + 4)) (xs (i + 5))) lkL_178 sh56 rfl rfl rfl (Nat.le_of_ble_eq_true rfl) (Nat.le_of_ble_eq_true rfl) (dq jL_law_s5 139 rfl) rfl (fun r2 => ?_)
  refine rz_lstore G (lv' := [(6, .long r2), (5, .int r1), (4, .int (nI i)), (3, .ref 95), (2, .ref 56), (1, .ref 0), (0, .ref 999)]) (by decide) rfl (dq jL_law_s5 140 rfl) ?_
  refine rz_aload_n G 4 rfl rfl (dq jL_law_s5 141 rfl) ?_
  refine rz_callVi G (st := []) (c_X11_thrown (cLn Γ)) lkL_108 sh56 rfl rfl rfl (Nat.le_of_ble_eq_true rfl) (Nat.le_of_ble_eq_true rfl) (dq jL_law_s5 142 rfl) rfl (fun r3 => ?_)
  refine rz_iload G 1 rfl (dq jL_law_s5 143 rfl) ?_
  refine rz_icmp_eq G (tgt := 1323) rfl (dq jL_law_s5 144 rfl) (fun _ => ?_) (fun _ => rz_none)
  refine rz_iload G 1 rfl (dq jL_law_s5 147 rfl) ?_
  refine rz_if_ne G (tgt := 1339) rfl (dq jL_law_s5 148 rfl) (fun _ => ?_) (fun _ => ?_)
  · refine rz_aload_n G 3 rfl rfl (dq jL_law_s5 149 rfl) ?_
    refine rz_iconst G (v := 0) (dq jL_law_s6 0 rfl) rfl ?_
    refine rz_laldN G (by decide) sh95 (dq jL_law_s6 1 rfl) (fun r4 => ?_)
    refine rz_lload G 0 rfl (dq jL_law_s6 2 rfl) ?_
    refine rz_lcmp G (dq jL_law_s6 3 rfl) ?_
    refine rz_if_eq G (tgt := 1339) rfl (dq jL_law_s6 4 rfl) (fun _ => ?_) (fun _ => rz_none)
    refine rz_goto G (tgt := 2219) rfl (dq jL_law_s6 7 rfl) ?_
    exact rz_lv [2, 3, 4, 5, 6] rfl K
  · refine rz_goto G (tgt := 2219) rfl (dq jL_law_s6 7 rfl) ?_
    exact rz_lv [2, 3, 4, 5, 6] rfl K
theorem cs_wanders {ρ : Type} {Γ : Cx} {Q : ρ → State → Prop} {k n i L : Nat} {xs : Nat → Int32} {dn : Sg → Option ρ} (G : GG Γ RL cL_law 8 (some .boolean) 2000 k n) (X : SX Γ L xs) (hlt : (cLn Γ).stackTraces = false) (hR : k + 4 ≤ (cR Γ).cells ∧ n + 24 ≤ (cR Γ).slots) (hi : i + 7 ≤ L) (hL : L ≤ 3584) (K : Rz Γ 8 Q (k + 4) (n + 24) 2219 (lvL i) [] dn) : Rz Γ 8 Q k n 1342 (lvL i) [] (dB' (f_L_wanders (xs (i + 1)) (xs (i + 2)) (xs (i + 3)) (xs (i + 4)) (xs (i + 5)) (xs (i + 6))) (f_X11_wanders (xs (i + 1)) (xs (i + 2)) (xs (i + 3)) (xs (i + 4)) (xs (i + 5)) (xs (i + 6))) dn) := by
  unfold dB'
  refine rz_aload_n G 3 rfl rfl (dq jL_law_s6 8 rfl) ?_
  refine rz_arg G X hL 1 (by omega) rfl 4 0 rfl rfl (dq jL_law_s6 9 rfl) (dq jL_law_s6 10 rfl) (dq jL_law_s6 11 rfl) (dq jL_law_s6 12 rfl) (dq jL_law_s6 13 rfl) ?_
  refine rz_arg G X hL 2 (by omega) rfl 4 0 rfl rfl (dq jL_law_s6 14 rfl) (dq jL_law_s6 15 rfl) (dq jL_law_s6 16 rfl) (dq jL_law_s6 17 rfl) (dq jL_law_s6 18 rfl) ?_
  refine rz_arg G X hL 3 (by omega) rfl 4 0 rfl rfl (dq jL_law_s6 19 rfl) (dq jL_law_s6 20 rfl) (dq jL_law_s6 21 rfl) (dq jL_law_s6 22 rfl) (dq jL_law_s6 23 rfl) ?_
  refine rz_arg G X hL 4 (by omega) rfl 4 0 rfl rfl (dq jL_law_s6 24 rfl) (dq jL_law_s6 25 rfl) (dq jL_law_s6 26 rfl) (dq jL_law_s6 27 rfl) (dq jL_law_s6 28 rfl) ?_
  refine rz_arg G X hL 5 (by omega) rfl 4 0 rfl rfl (dq jL_law_s6 29 rfl) (dq jL_law_s6 30 rfl) (dq jL_law_s6 31 rfl) (dq jL_law_s6 32 rfl) (dq jL_law_s6 33 rfl) ?_
  refine rz_argB G X hL 6 (by omega) rfl 4 0 rfl rfl (dq jL_law_s6 34 rfl) (dq jL_law_s6 35 rfl) (dq jL_law_s6 36 rfl) (dq jL_law_s6 37 rfl) (dq jL_law_s6 38 rfl) ?_
  refine rz_aload_n G 1 rfl rfl (dq jL_law_s6 39 rfl) ?_
  refine rz_callSW G (st := []) (As := [.ref 0, .int (xs (i + 1)), .int (xs (i + 2)), .int (xs (i + 3)), .int (xs (i + 4)), .int (xs (i + 5)), .int (xs (i + 6)), .ref 95]) (k' := k + 4) (n' := n + 24) (c_L_wanders (cLn Γ) hlt (xs (i + 1)) (xs (i + 2)) (xs (i + 3)) (xs (i + 4)) (xs (i + 5)) (xs (i + 6))) lkw_wanders rfl (Nat.le_of_ble_eq_true rfl) (Nat.le_of_ble_eq_true rfl) (dq jL_law_s6 40 rfl) rfl ⟨rfl, rfl⟩ hR (fun r1 => ?_)
  have G := G.upL (k' := k + 4) (n' := n + 24) hR.1 hR.2
  show Rz Γ 8 Q (k + 4) (n + 24) 1384 [(4, .int (nI i)), (3, .ref 95), (2, .ref 56), (1, .ref 0), (0, .ref 999)] [.int r1] _
  refine rz_istore G (lv' := [(5, .int r1), (4, .int (nI i)), (3, .ref 95), (2, .ref 56), (1, .ref 0), (0, .ref 999)]) (by decide) rfl (dq jL_law_s6 41 rfl) ?_
  refine rz_aload_n G 3 rfl rfl (dq jL_law_s6 42 rfl) ?_
  refine rz_arg G X hL 1 (by omega) rfl 5 1 rfl rfl (dq jL_law_s6 43 rfl) (dq jL_law_s6 44 rfl) (dq jL_law_s6 45 rfl) (dq jL_law_s6 46 rfl) (dq jL_law_s6 47 rfl) ?_
  refine rz_arg G X hL 2 (by omega) rfl 5 1 rfl rfl (dq jL_law_s6 48 rfl) (dq jL_law_s6 49 rfl) (dq jL_law_s6 50 rfl) (dq jL_law_s6 51 rfl) (dq jL_law_s6 52 rfl) ?_
  refine rz_arg G X hL 3 (by omega) rfl 5 1 rfl rfl (dq jL_law_s6 53 rfl) (dq jL_law_s6 54 rfl) (dq jL_law_s6 55 rfl) (dq jL_law_s6 56 rfl) (dq jL_law_s6 57 rfl) ?_
  refine rz_arg G X hL 4 (by omega) rfl 5 1 rfl rfl (dq jL_law_s6 58 rfl) (dq jL_law_s6 59 rfl) (dq jL_law_s6 60 rfl) (dq jL_law_s6 61 rfl) (dq jL_law_s6 62 rfl) ?_
  refine rz_arg G X hL 5 (by omega) rfl 5 1 rfl rfl (dq jL_law_s6 63 rfl) (dq jL_law_s6 64 rfl) (dq jL_law_s6 65 rfl) (dq jL_law_s6 66 rfl) (dq jL_law_s6 67 rfl) ?_
  refine rz_argB G X hL 6 (by omega) rfl 5 1 rfl rfl (dq jL_law_s6 68 rfl) (dq jL_law_s6 69 rfl) (dq jL_law_s6 70 rfl) (dq jL_law_s6 71 rfl) (dq jL_law_s6 72 rfl) ?_
  refine rz_callVl G (st := []) (c_X11_wanders (cLn Γ) (xs (i + 1)) (xs (i + 2)) (xs (i + 3)) (xs (i + 4)) (xs (i + 5)) (xs (i + 6))) lkL_182 sh56 rfl rfl rfl (Nat.le_of_ble_eq_true rfl) (Nat.le_of_ble_eq_true rfl) (dq jL_law_s6 73 rfl) rfl (fun r2 => ?_)
  refine rz_lstore G (lv' := [(6, .long r2), (5, .int r1), (4, .int (nI i)), (3, .ref 95), (2, .ref 56), (1, .ref 0), (0, .ref 999)]) (by decide) rfl (dq jL_law_s6 74 rfl) ?_
  refine rz_aload_n G 4 rfl rfl (dq jL_law_s6 75 rfl) ?_
  refine rz_callVi G (st := []) (c_X11_thrown (cLn Γ)) lkL_108 sh56 rfl rfl rfl (Nat.le_of_ble_eq_true rfl) (Nat.le_of_ble_eq_true rfl) (dq jL_law_s6 76 rfl) rfl (fun r3 => ?_)
  refine rz_iload G 1 rfl (dq jL_law_s6 77 rfl) ?_
  refine rz_icmp_eq G (tgt := 1440) rfl (dq jL_law_s6 78 rfl) (fun _ => ?_) (fun _ => rz_none)
  refine rz_iload G 1 rfl (dq jL_law_s6 81 rfl) ?_
  refine rz_if_ne G (tgt := 1456) rfl (dq jL_law_s6 82 rfl) (fun _ => ?_) (fun _ => ?_)
  · refine rz_aload_n G 3 rfl rfl (dq jL_law_s6 83 rfl) ?_
    refine rz_iconst G (v := 0) (dq jL_law_s6 84 rfl) rfl ?_
    refine rz_laldN G (by decide) sh95 (dq jL_law_s6 85 rfl) (fun r4 => ?_)
    refine rz_lload G 0 rfl (dq jL_law_s6 86 rfl) ?_
    refine rz_lcmp G (dq jL_law_s6 87 rfl) ?_
    refine rz_if_eq G (tgt := 1456) rfl (dq jL_law_s6 88 rfl) (fun _ => ?_) (fun _ => rz_none)
    refine rz_goto G (tgt := 2219) rfl (dq jL_law_s6 91 rfl) ?_
    exact rz_lv [2, 3, 4, 5, 6] rfl K
  · refine rz_goto G (tgt := 2219) rfl (dq jL_law_s6 91 rfl) ?_
    exact rz_lv [2, 3, 4, 5, 6] rfl K
theorem cs_correct {ρ : Type} {Γ : Cx} {Q : ρ → State → Prop} {k n i L : Nat} {xs : Nat → Int32} {dn : Sg → Option ρ} (G : GG Γ RL cL_law 8 (some .boolean) 2000 k n) (X : SX Γ L xs) (hlt : (cLn Γ).stackTraces = false) (hR : k + 4 ≤ (cR Γ).cells ∧ n + 24 ≤ (cR Γ).slots) (hi : i + 7 ≤ L) (hL : L ≤ 3584) (K : Rz Γ 8 Q (k + 4) (n + 24) 2219 (lvL i) [] dn) : Rz Γ 8 Q k n 1459 (lvL i) [] (dB (f_L_correct (xs (i + 1)) (xs (i + 2)) (xs (i + 3))) (f_X11_correct (xs (i + 1)) (xs (i + 2)) (xs (i + 3))) dn) := by
  unfold dB
  refine rz_aload_n G 3 rfl rfl (dq jL_law_s6 92 rfl) ?_
  refine rz_arg G X hL 1 (by omega) rfl 4 0 rfl rfl (dq jL_law_s6 93 rfl) (dq jL_law_s6 94 rfl) (dq jL_law_s6 95 rfl) (dq jL_law_s6 96 rfl) (dq jL_law_s6 97 rfl) ?_
  refine rz_arg G X hL 2 (by omega) rfl 4 0 rfl rfl (dq jL_law_s6 98 rfl) (dq jL_law_s6 99 rfl) (dq jL_law_s6 100 rfl) (dq jL_law_s6 101 rfl) (dq jL_law_s6 102 rfl) ?_
  refine rz_arg G X hL 3 (by omega) rfl 4 0 rfl rfl (dq jL_law_s6 103 rfl) (dq jL_law_s6 104 rfl) (dq jL_law_s6 105 rfl) (dq jL_law_s6 106 rfl) (dq jL_law_s6 107 rfl) ?_
  refine rz_aload_n G 1 rfl rfl (dq jL_law_s6 108 rfl) ?_
  refine rz_callSW G (st := []) (As := [.ref 0, .int (xs (i + 1)), .int (xs (i + 2)), .int (xs (i + 3)), .ref 95]) (k' := k + 4) (n' := n + 24) (c_L_correct (cLn Γ) hlt (xs (i + 1)) (xs (i + 2)) (xs (i + 3))) lkw_correct rfl (Nat.le_of_ble_eq_true rfl) (Nat.le_of_ble_eq_true rfl) (dq jL_law_s6 109 rfl) rfl ⟨rfl, rfl⟩ hR (fun r1 => ?_)
  have G := G.upL (k' := k + 4) (n' := n + 24) hR.1 hR.2
  show Rz Γ 8 Q (k + 4) (n + 24) 1482 [(4, .int (nI i)), (3, .ref 95), (2, .ref 56), (1, .ref 0), (0, .ref 999)] [.int r1] _
  refine rz_istore G (lv' := [(5, .int r1), (4, .int (nI i)), (3, .ref 95), (2, .ref 56), (1, .ref 0), (0, .ref 999)]) (by decide) rfl (dq jL_law_s6 110 rfl) ?_
  refine rz_aload_n G 3 rfl rfl (dq jL_law_s6 111 rfl) ?_
  refine rz_arg G X hL 1 (by omega) rfl 5 1 rfl rfl (dq jL_law_s6 112 rfl) (dq jL_law_s6 113 rfl) (dq jL_law_s6 114 rfl) (dq jL_law_s6 115 rfl) (dq jL_law_s6 116 rfl) ?_
  refine rz_arg G X hL 2 (by omega) rfl 5 1 rfl rfl (dq jL_law_s6 117 rfl) (dq jL_law_s6 118 rfl) (dq jL_law_s6 119 rfl) (dq jL_law_s6 120 rfl) (dq jL_law_s6 121 rfl) ?_
  refine rz_arg G X hL 3 (by omega) rfl 5 1 rfl rfl (dq jL_law_s6 122 rfl) (dq jL_law_s6 123 rfl) (dq jL_law_s6 124 rfl) (dq jL_law_s6 125 rfl) (dq jL_law_s6 126 rfl) ?_
  refine rz_callVi G (st := []) (c_X11_correct (cLn Γ) (xs (i + 1)) (xs (i + 2)) (xs (i + 3))) lkL_185 sh56 rfl rfl rfl (Nat.le_of_ble_eq_true rfl) (Nat.le_of_ble_eq_true rfl) (dq jL_law_s6 127 rfl) rfl (fun r2 => ?_)
  refine rz_istore G (lv' := [(6, .int r2), (5, .int r1), (4, .int (nI i)), (3, .ref 95), (2, .ref 56), (1, .ref 0), (0, .ref 999)]) (by decide) rfl (dq jL_law_s6 128 rfl) ?_
  refine rz_aload_n G 4 rfl rfl (dq jL_law_s6 129 rfl) ?_
  refine rz_callVi G (st := []) (c_X11_thrown (cLn Γ)) lkL_108 sh56 rfl rfl rfl (Nat.le_of_ble_eq_true rfl) (Nat.le_of_ble_eq_true rfl) (dq jL_law_s6 130 rfl) rfl (fun r3 => ?_)
  refine rz_iload G 1 rfl (dq jL_law_s6 131 rfl) ?_
  refine rz_icmp_eq G (tgt := 1519) rfl (dq jL_law_s6 132 rfl) (fun _ => ?_) (fun _ => rz_none)
  refine rz_iload G 1 rfl (dq jL_law_s6 135 rfl) ?_
  refine rz_if_ne G (tgt := 1536) rfl (dq jL_law_s6 136 rfl) (fun _ => ?_) (fun _ => ?_)
  · refine rz_aload_n G 3 rfl rfl (dq jL_law_s6 137 rfl) ?_
    refine rz_iconst G (v := 0) (dq jL_law_s6 138 rfl) rfl ?_
    refine rz_laldN G (by decide) sh95 (dq jL_law_s6 139 rfl) (fun r4 => ?_)
    refine rz_iload G 0 rfl (dq jL_law_s6 140 rfl) ?_
    refine rz_i2l G (dq jL_law_s6 141 rfl) ?_
    refine rz_lcmp G (dq jL_law_s6 142 rfl) ?_
    refine rz_if_eq G (tgt := 1536) rfl (dq jL_law_s6 143 rfl) (fun _ => ?_) (fun _ => rz_none)
    refine rz_goto G (tgt := 2219) rfl (dq jL_law_s6 146 rfl) ?_
    exact rz_lv [2, 3, 4, 5, 6] rfl K
  · refine rz_goto G (tgt := 2219) rfl (dq jL_law_s6 146 rfl) ?_
    exact rz_lv [2, 3, 4, 5, 6] rfl K
theorem cs_find {ρ : Type} {Γ : Cx} {Q : ρ → State → Prop} {k n i L : Nat} {xs : Nat → Int32} {dn : Sg → Option ρ} (G : GG Γ RL cL_law 8 (some .boolean) 2000 k n) (X : SX Γ L xs) (hlt : (cLn Γ).stackTraces = false) (hR : k + 4 ≤ (cR Γ).cells ∧ n + 24 ≤ (cR Γ).slots) (hi : i + 7 ≤ L) (hL : L ≤ 3584) (K : Rz Γ 8 Q (k + 4) (n + 24) 2219 (lvL i) [] dn) : Rz Γ 8 Q k n 1539 (lvL i) [] (dA (f_X10_find (xs (i + 1))) (f_X11_find (xs (i + 1))) dn) := by
  unfold dA
  refine rz_aload_n G 3 rfl rfl (dq jL_law_s6 147 rfl) ?_
  refine rz_arg G X hL 1 (by omega) rfl 4 0 rfl rfl (dq jL_law_s6 148 rfl) (dq jL_law_s6 149 rfl) (dq jL_law_s7 0 rfl) (dq jL_law_s7 1 rfl) (dq jL_law_s7 2 rfl) ?_
  refine rz_callVi G (st := []) (c_X10_find (cLn Γ) (xs (i + 1))) lkL_186 sh0 rfl rfl rfl (Nat.le_of_ble_eq_true rfl) (Nat.le_of_ble_eq_true rfl) (dq jL_law_s7 3 rfl) rfl (fun r1 => ?_)
  refine rz_aload_n G 2 rfl rfl (dq jL_law_s7 4 rfl) ?_
  refine rz_arg G X hL 1 (by omega) rfl 4 0 rfl rfl (dq jL_law_s7 5 rfl) (dq jL_law_s7 6 rfl) (dq jL_law_s7 7 rfl) (dq jL_law_s7 8 rfl) (dq jL_law_s7 9 rfl) ?_
  refine rz_callVi G (st := [.int r1]) (c_X11_find (cLn Γ) (xs (i + 1))) lkL_189 sh56 rfl rfl rfl (Nat.le_of_ble_eq_true rfl) (Nat.le_of_ble_eq_true rfl) (dq jL_law_s7 10 rfl) rfl (fun r2 => ?_)
  refine rz_icmp_eq G (tgt := 2219) rfl (dq jL_law_s7 11 rfl) (fun _ => ?_) (fun _ => rz_none)
  exact rz_wid (by omega) (by omega) K
theorem cs_forget {ρ : Type} {Γ : Cx} {Q : ρ → State → Prop} {k n i L : Nat} {xs : Nat → Int32} {dn : Sg → Option ρ} (G : GG Γ RL cL_law 8 (some .boolean) 2000 k n) (X : SX Γ L xs) (hlt : (cLn Γ).stackTraces = false) (hR : k + 4 ≤ (cR Γ).cells ∧ n + 24 ≤ (cR Γ).slots) (hi : i + 7 ≤ L) (hL : L ≤ 3584) (K : Rz Γ 8 Q (k + 4) (n + 24) 2219 (lvL i) [] dn) : Rz Γ 8 Q k n 1564 (lvL i) [] (dA (f_X10_forget) (f_X11_forget) dn) := by
  unfold dA
  refine rz_aload_n G 3 rfl rfl (dq jL_law_s7 14 rfl) ?_
  refine rz_callVi G (st := []) (c_X10_forget (cLn Γ)) lkL_190 sh0 rfl rfl rfl (Nat.le_of_ble_eq_true rfl) (Nat.le_of_ble_eq_true rfl) (dq jL_law_s7 15 rfl) rfl (fun r1 => ?_)
  refine rz_aload_n G 2 rfl rfl (dq jL_law_s7 16 rfl) ?_
  refine rz_callVi G (st := [.int r1]) (c_X11_forget (cLn Γ)) lkL_193 sh56 rfl rfl rfl (Nat.le_of_ble_eq_true rfl) (Nat.le_of_ble_eq_true rfl) (dq jL_law_s7 17 rfl) rfl (fun r2 => ?_)
  refine rz_icmp_eq G (tgt := 2219) rfl (dq jL_law_s7 18 rfl) (fun _ => ?_) (fun _ => rz_none)
  exact rz_wid (by omega) (by omega) K
theorem cs_broken {ρ : Type} {Γ : Cx} {Q : ρ → State → Prop} {k n i L : Nat} {xs : Nat → Int32} {dn : Sg → Option ρ} (G : GG Γ RL cL_law 8 (some .boolean) 2000 k n) (X : SX Γ L xs) (hlt : (cLn Γ).stackTraces = false) (hR : k + 4 ≤ (cR Γ).cells ∧ n + 24 ≤ (cR Γ).slots) (hi : i + 7 ≤ L) (hL : L ≤ 3584) (K : Rz Γ 8 Q (k + 4) (n + 24) 2219 (lvL i) [] dn) : Rz Γ 8 Q k n 1577 (lvL i) [] (dB (f_L_broken (xs (i + 1))) (f_X11_broken (xs (i + 1))) dn) := by
  unfold dB
  refine rz_aload_n G 3 rfl rfl (dq jL_law_s7 21 rfl) ?_
  refine rz_arg G X hL 1 (by omega) rfl 4 0 rfl rfl (dq jL_law_s7 22 rfl) (dq jL_law_s7 23 rfl) (dq jL_law_s7 24 rfl) (dq jL_law_s7 25 rfl) (dq jL_law_s7 26 rfl) ?_
  refine rz_aload_n G 1 rfl rfl (dq jL_law_s7 27 rfl) ?_
  refine rz_callSW G (st := []) (As := [.ref 0, .int (xs (i + 1)), .ref 95]) (k' := k + 4) (n' := n + 24) (c_L_broken (cLn Γ) hlt (xs (i + 1))) lkw_broken rfl (Nat.le_of_ble_eq_true rfl) (Nat.le_of_ble_eq_true rfl) (dq jL_law_s7 28 rfl) rfl ⟨rfl, rfl⟩ hR (fun r1 => ?_)
  have G := G.upL (k' := k + 4) (n' := n + 24) hR.1 hR.2
  show Rz Γ 8 Q (k + 4) (n + 24) 1588 [(4, .int (nI i)), (3, .ref 95), (2, .ref 56), (1, .ref 0), (0, .ref 999)] [.int r1] _
  refine rz_istore G (lv' := [(5, .int r1), (4, .int (nI i)), (3, .ref 95), (2, .ref 56), (1, .ref 0), (0, .ref 999)]) (by decide) rfl (dq jL_law_s7 29 rfl) ?_
  refine rz_aload_n G 3 rfl rfl (dq jL_law_s7 30 rfl) ?_
  refine rz_arg G X hL 1 (by omega) rfl 5 1 rfl rfl (dq jL_law_s7 31 rfl) (dq jL_law_s7 32 rfl) (dq jL_law_s7 33 rfl) (dq jL_law_s7 34 rfl) (dq jL_law_s7 35 rfl) ?_
  refine rz_callVi G (st := []) (c_X11_broken (cLn Γ) (xs (i + 1))) lkL_196 sh56 rfl rfl rfl (Nat.le_of_ble_eq_true rfl) (Nat.le_of_ble_eq_true rfl) (dq jL_law_s7 36 rfl) rfl (fun r2 => ?_)
  refine rz_istore G (lv' := [(6, .int r2), (5, .int r1), (4, .int (nI i)), (3, .ref 95), (2, .ref 56), (1, .ref 0), (0, .ref 999)]) (by decide) rfl (dq jL_law_s7 37 rfl) ?_
  refine rz_aload_n G 4 rfl rfl (dq jL_law_s7 38 rfl) ?_
  refine rz_callVi G (st := []) (c_X11_thrown (cLn Γ)) lkL_108 sh56 rfl rfl rfl (Nat.le_of_ble_eq_true rfl) (Nat.le_of_ble_eq_true rfl) (dq jL_law_s7 39 rfl) rfl (fun r3 => ?_)
  refine rz_iload G 1 rfl (dq jL_law_s7 40 rfl) ?_
  refine rz_icmp_eq G (tgt := 1613) rfl (dq jL_law_s7 41 rfl) (fun _ => ?_) (fun _ => rz_none)
  refine rz_iload G 1 rfl (dq jL_law_s7 44 rfl) ?_
  refine rz_if_ne G (tgt := 1630) rfl (dq jL_law_s7 45 rfl) (fun _ => ?_) (fun _ => ?_)
  · refine rz_aload_n G 3 rfl rfl (dq jL_law_s7 46 rfl) ?_
    refine rz_iconst G (v := 0) (dq jL_law_s7 47 rfl) rfl ?_
    refine rz_laldN G (by decide) sh95 (dq jL_law_s7 48 rfl) (fun r4 => ?_)
    refine rz_iload G 0 rfl (dq jL_law_s7 49 rfl) ?_
    refine rz_i2l G (dq jL_law_s7 50 rfl) ?_
    refine rz_lcmp G (dq jL_law_s7 51 rfl) ?_
    refine rz_if_eq G (tgt := 1630) rfl (dq jL_law_s7 52 rfl) (fun _ => ?_) (fun _ => rz_none)
    refine rz_goto G (tgt := 2219) rfl (dq jL_law_s7 55 rfl) ?_
    exact rz_lv [2, 3, 4, 5, 6] rfl K
  · refine rz_goto G (tgt := 2219) rfl (dq jL_law_s7 55 rfl) ?_
    exact rz_lv [2, 3, 4, 5, 6] rfl K
theorem cs_second {ρ : Type} {Γ : Cx} {Q : ρ → State → Prop} {k n i L : Nat} {xs : Nat → Int32} {dn : Sg → Option ρ} (G : GG Γ RL cL_law 8 (some .boolean) 2000 k n) (X : SX Γ L xs) (hlt : (cLn Γ).stackTraces = false) (hR : k + 4 ≤ (cR Γ).cells ∧ n + 24 ≤ (cR Γ).slots) (hi : i + 7 ≤ L) (hL : L ≤ 3584) (K : Rz Γ 8 Q (k + 4) (n + 24) 2219 (lvL i) [] dn) : Rz Γ 8 Q k n 1633 (lvL i) [] (dB (f_L_second (xs (i + 1)) (xs (i + 2)) (xs (i + 3)) (xs (i + 4)) (xs (i + 5)) (xs (i + 6))) (f_X11_second (xs (i + 1)) (xs (i + 2)) (xs (i + 3)) (xs (i + 4)) (xs (i + 5)) (xs (i + 6))) dn) := by
  unfold dB
  refine rz_aload_n G 3 rfl rfl (dq jL_law_s7 56 rfl) ?_
  refine rz_arg G X hL 1 (by omega) rfl 4 0 rfl rfl (dq jL_law_s7 57 rfl) (dq jL_law_s7 58 rfl) (dq jL_law_s7 59 rfl) (dq jL_law_s7 60 rfl) (dq jL_law_s7 61 rfl) ?_
  refine rz_arg G X hL 2 (by omega) rfl 4 0 rfl rfl (dq jL_law_s7 62 rfl) (dq jL_law_s7 63 rfl) (dq jL_law_s7 64 rfl) (dq jL_law_s7 65 rfl) (dq jL_law_s7 66 rfl) ?_
  refine rz_arg G X hL 3 (by omega) rfl 4 0 rfl rfl (dq jL_law_s7 67 rfl) (dq jL_law_s7 68 rfl) (dq jL_law_s7 69 rfl) (dq jL_law_s7 70 rfl) (dq jL_law_s7 71 rfl) ?_
  refine rz_arg G X hL 4 (by omega) rfl 4 0 rfl rfl (dq jL_law_s7 72 rfl) (dq jL_law_s7 73 rfl) (dq jL_law_s7 74 rfl) (dq jL_law_s7 75 rfl) (dq jL_law_s7 76 rfl) ?_
  refine rz_arg G X hL 5 (by omega) rfl 4 0 rfl rfl (dq jL_law_s7 77 rfl) (dq jL_law_s7 78 rfl) (dq jL_law_s7 79 rfl) (dq jL_law_s7 80 rfl) (dq jL_law_s7 81 rfl) ?_
  refine rz_argB G X hL 6 (by omega) rfl 4 0 rfl rfl (dq jL_law_s7 82 rfl) (dq jL_law_s7 83 rfl) (dq jL_law_s7 84 rfl) (dq jL_law_s7 85 rfl) (dq jL_law_s7 86 rfl) ?_
  refine rz_aload_n G 1 rfl rfl (dq jL_law_s7 87 rfl) ?_
  refine rz_callSW G (st := []) (As := [.ref 0, .int (xs (i + 1)), .int (xs (i + 2)), .int (xs (i + 3)), .int (xs (i + 4)), .int (xs (i + 5)), .int (xs (i + 6)), .ref 95]) (k' := k + 4) (n' := n + 24) (c_L_second (cLn Γ) hlt (xs (i + 1)) (xs (i + 2)) (xs (i + 3)) (xs (i + 4)) (xs (i + 5)) (xs (i + 6))) lkw_second rfl (Nat.le_of_ble_eq_true rfl) (Nat.le_of_ble_eq_true rfl) (dq jL_law_s7 88 rfl) rfl ⟨rfl, rfl⟩ hR (fun r1 => ?_)
  have G := G.upL (k' := k + 4) (n' := n + 24) hR.1 hR.2
  show Rz Γ 8 Q (k + 4) (n + 24) 1675 [(4, .int (nI i)), (3, .ref 95), (2, .ref 56), (1, .ref 0), (0, .ref 999)] [.int r1] _
  refine rz_istore G (lv' := [(5, .int r1), (4, .int (nI i)), (3, .ref 95), (2, .ref 56), (1, .ref 0), (0, .ref 999)]) (by decide) rfl (dq jL_law_s7 89 rfl) ?_
  refine rz_aload_n G 3 rfl rfl (dq jL_law_s7 90 rfl) ?_
  refine rz_arg G X hL 1 (by omega) rfl 5 1 rfl rfl (dq jL_law_s7 91 rfl) (dq jL_law_s7 92 rfl) (dq jL_law_s7 93 rfl) (dq jL_law_s7 94 rfl) (dq jL_law_s7 95 rfl) ?_
  refine rz_arg G X hL 2 (by omega) rfl 5 1 rfl rfl (dq jL_law_s7 96 rfl) (dq jL_law_s7 97 rfl) (dq jL_law_s7 98 rfl) (dq jL_law_s7 99 rfl) (dq jL_law_s7 100 rfl) ?_
  refine rz_arg G X hL 3 (by omega) rfl 5 1 rfl rfl (dq jL_law_s7 101 rfl) (dq jL_law_s7 102 rfl) (dq jL_law_s7 103 rfl) (dq jL_law_s7 104 rfl) (dq jL_law_s7 105 rfl) ?_
  refine rz_arg G X hL 4 (by omega) rfl 5 1 rfl rfl (dq jL_law_s7 106 rfl) (dq jL_law_s7 107 rfl) (dq jL_law_s7 108 rfl) (dq jL_law_s7 109 rfl) (dq jL_law_s7 110 rfl) ?_
  refine rz_arg G X hL 5 (by omega) rfl 5 1 rfl rfl (dq jL_law_s7 111 rfl) (dq jL_law_s7 112 rfl) (dq jL_law_s7 113 rfl) (dq jL_law_s7 114 rfl) (dq jL_law_s7 115 rfl) ?_
  refine rz_argB G X hL 6 (by omega) rfl 5 1 rfl rfl (dq jL_law_s7 116 rfl) (dq jL_law_s7 117 rfl) (dq jL_law_s7 118 rfl) (dq jL_law_s7 119 rfl) (dq jL_law_s7 120 rfl) ?_
  refine rz_callVi G (st := []) (c_X11_second (cLn Γ) (xs (i + 1)) (xs (i + 2)) (xs (i + 3)) (xs (i + 4)) (xs (i + 5)) (xs (i + 6))) lkL_199 sh56 rfl rfl rfl (Nat.le_of_ble_eq_true rfl) (Nat.le_of_ble_eq_true rfl) (dq jL_law_s7 121 rfl) rfl (fun r2 => ?_)
  refine rz_istore G (lv' := [(6, .int r2), (5, .int r1), (4, .int (nI i)), (3, .ref 95), (2, .ref 56), (1, .ref 0), (0, .ref 999)]) (by decide) rfl (dq jL_law_s7 122 rfl) ?_
  refine rz_aload_n G 4 rfl rfl (dq jL_law_s7 123 rfl) ?_
  refine rz_callVi G (st := []) (c_X11_thrown (cLn Γ)) lkL_108 sh56 rfl rfl rfl (Nat.le_of_ble_eq_true rfl) (Nat.le_of_ble_eq_true rfl) (dq jL_law_s7 124 rfl) rfl (fun r3 => ?_)
  refine rz_iload G 1 rfl (dq jL_law_s7 125 rfl) ?_
  refine rz_icmp_eq G (tgt := 1731) rfl (dq jL_law_s7 126 rfl) (fun _ => ?_) (fun _ => rz_none)
  refine rz_iload G 1 rfl (dq jL_law_s7 129 rfl) ?_
  refine rz_if_ne G (tgt := 1748) rfl (dq jL_law_s7 130 rfl) (fun _ => ?_) (fun _ => ?_)
  · refine rz_aload_n G 3 rfl rfl (dq jL_law_s7 131 rfl) ?_
    refine rz_iconst G (v := 0) (dq jL_law_s7 132 rfl) rfl ?_
    refine rz_laldN G (by decide) sh95 (dq jL_law_s7 133 rfl) (fun r4 => ?_)
    refine rz_iload G 0 rfl (dq jL_law_s7 134 rfl) ?_
    refine rz_i2l G (dq jL_law_s7 135 rfl) ?_
    refine rz_lcmp G (dq jL_law_s7 136 rfl) ?_
    refine rz_if_eq G (tgt := 1748) rfl (dq jL_law_s7 137 rfl) (fun _ => ?_) (fun _ => rz_none)
    refine rz_goto G (tgt := 2219) rfl (dq jL_law_s7 140 rfl) ?_
    exact rz_lv [2, 3, 4, 5, 6] rfl K
  · refine rz_goto G (tgt := 2219) rfl (dq jL_law_s7 140 rfl) ?_
    exact rz_lv [2, 3, 4, 5, 6] rfl K
theorem cs_compare {ρ : Type} {Γ : Cx} {Q : ρ → State → Prop} {k n i L : Nat} {xs : Nat → Int32} {dn : Sg → Option ρ} (G : GG Γ RL cL_law 8 (some .boolean) 2000 k n) (X : SX Γ L xs) (hlt : (cLn Γ).stackTraces = false) (hR : k + 4 ≤ (cR Γ).cells ∧ n + 24 ≤ (cR Γ).slots) (hi : i + 7 ≤ L) (hL : L ≤ 3584) (K : Rz Γ 8 Q (k + 4) (n + 24) 2219 (lvL i) [] dn) : Rz Γ 8 Q k n 1751 (lvL i) [] (dB (f_L_compare (xs (i + 1)) (xs (i + 2))) (f_X11_compare (xs (i + 1)) (xs (i + 2))) dn) := by
  unfold dB
  refine rz_aload_n G 3 rfl rfl (dq jL_law_s7 141 rfl) ?_
  refine rz_arg G X hL 1 (by omega) rfl 4 0 rfl rfl (dq jL_law_s7 142 rfl) (dq jL_law_s7 143 rfl) (dq jL_law_s7 144 rfl) (dq jL_law_s7 145 rfl) (dq jL_law_s7 146 rfl) ?_
  refine rz_arg G X hL 2 (by omega) rfl 4 0 rfl rfl (dq jL_law_s7 147 rfl) (dq jL_law_s7 148 rfl) (dq jL_law_s7 149 rfl) (dq jL_law_s8 0 rfl) (dq jL_law_s8 1 rfl) ?_
  refine rz_aload_n G 1 rfl rfl (dq jL_law_s8 2 rfl) ?_
  refine rz_callSW G (st := []) (As := [.ref 0, .int (xs (i + 1)), .int (xs (i + 2)), .ref 95]) (k' := k + 4) (n' := n + 24) (c_L_compare (cLn Γ) hlt (xs (i + 1)) (xs (i + 2))) lkw_compare rfl (Nat.le_of_ble_eq_true rfl) (Nat.le_of_ble_eq_true rfl) (dq jL_law_s8 3 rfl) rfl ⟨rfl, rfl⟩ hR (fun r1 => ?_)
  have G := G.upL (k' := k + 4) (n' := n + 24) hR.1 hR.2
  show Rz Γ 8 Q (k + 4) (n + 24) 1768 [(4, .int (nI i)), (3, .ref 95), (2, .ref 56), (1, .ref 0), (0, .ref 999)] [.int r1] _
  refine rz_istore G (lv' := [(5, .int r1), (4, .int (nI i)), (3, .ref 95), (2, .ref 56), (1, .ref 0), (0, .ref 999)]) (by decide) rfl (dq jL_law_s8 4 rfl) ?_
  refine rz_aload_n G 3 rfl rfl (dq jL_law_s8 5 rfl) ?_
  refine rz_arg G X hL 1 (by omega) rfl 5 1 rfl rfl (dq jL_law_s8 6 rfl) (dq jL_law_s8 7 rfl) (dq jL_law_s8 8 rfl) (dq jL_law_s8 9 rfl) (dq jL_law_s8 10 rfl) ?_
  refine rz_arg G X hL 2 (by omega) rfl 5 1 rfl rfl (dq jL_law_s8 11 rfl) (dq jL_law_s8 12 rfl) (dq jL_law_s8 13 rfl) (dq jL_law_s8 14 rfl) (dq jL_law_s8 15 rfl) ?_
  refine rz_callVi G (st := []) (c_X11_compare (cLn Γ) (xs (i + 1)) (xs (i + 2))) lkL_202 sh56 rfl rfl rfl (Nat.le_of_ble_eq_true rfl) (Nat.le_of_ble_eq_true rfl) (dq jL_law_s8 16 rfl) rfl (fun r2 => ?_)
  refine rz_istore G (lv' := [(6, .int r2), (5, .int r1), (4, .int (nI i)), (3, .ref 95), (2, .ref 56), (1, .ref 0), (0, .ref 999)]) (by decide) rfl (dq jL_law_s8 17 rfl) ?_
  refine rz_aload_n G 4 rfl rfl (dq jL_law_s8 18 rfl) ?_
  refine rz_callVi G (st := []) (c_X11_thrown (cLn Γ)) lkL_108 sh56 rfl rfl rfl (Nat.le_of_ble_eq_true rfl) (Nat.le_of_ble_eq_true rfl) (dq jL_law_s8 19 rfl) rfl (fun r3 => ?_)
  refine rz_iload G 1 rfl (dq jL_law_s8 20 rfl) ?_
  refine rz_icmp_eq G (tgt := 1799) rfl (dq jL_law_s8 21 rfl) (fun _ => ?_) (fun _ => rz_none)
  refine rz_iload G 1 rfl (dq jL_law_s8 24 rfl) ?_
  refine rz_if_ne G (tgt := 1816) rfl (dq jL_law_s8 25 rfl) (fun _ => ?_) (fun _ => ?_)
  · refine rz_aload_n G 3 rfl rfl (dq jL_law_s8 26 rfl) ?_
    refine rz_iconst G (v := 0) (dq jL_law_s8 27 rfl) rfl ?_
    refine rz_laldN G (by decide) sh95 (dq jL_law_s8 28 rfl) (fun r4 => ?_)
    refine rz_iload G 0 rfl (dq jL_law_s8 29 rfl) ?_
    refine rz_i2l G (dq jL_law_s8 30 rfl) ?_
    refine rz_lcmp G (dq jL_law_s8 31 rfl) ?_
    refine rz_if_eq G (tgt := 1816) rfl (dq jL_law_s8 32 rfl) (fun _ => ?_) (fun _ => rz_none)
    refine rz_goto G (tgt := 2219) rfl (dq jL_law_s8 35 rfl) ?_
    exact rz_lv [2, 3, 4, 5, 6] rfl K
  · refine rz_goto G (tgt := 2219) rfl (dq jL_law_s8 35 rfl) ?_
    exact rz_lv [2, 3, 4, 5, 6] rfl K
theorem cs_best {ρ : Type} {Γ : Cx} {Q : ρ → State → Prop} {k n i L : Nat} {xs : Nat → Int32} {dn : Sg → Option ρ} (G : GG Γ RL cL_law 8 (some .boolean) 2000 k n) (X : SX Γ L xs) (hlt : (cLn Γ).stackTraces = false) (hR : k + 4 ≤ (cR Γ).cells ∧ n + 24 ≤ (cR Γ).slots) (hi : i + 7 ≤ L) (hL : L ≤ 3584) (K : Rz Γ 8 Q (k + 4) (n + 24) 2219 (lvL i) [] dn) : Rz Γ 8 Q k n 1819 (lvL i) [] (dA (f_X10_best) (f_X11_best) dn) := by
  unfold dA
  refine rz_aload_n G 3 rfl rfl (dq jL_law_s8 36 rfl) ?_
  refine rz_callVi G (st := []) (c_X10_best (cLn Γ)) lkL_203 sh0 rfl rfl rfl (Nat.le_of_ble_eq_true rfl) (Nat.le_of_ble_eq_true rfl) (dq jL_law_s8 37 rfl) rfl (fun r1 => ?_)
  refine rz_aload_n G 2 rfl rfl (dq jL_law_s8 38 rfl) ?_
  refine rz_callVi G (st := [.int r1]) (c_X11_best (cLn Γ)) lkL_206 sh56 rfl rfl rfl (Nat.le_of_ble_eq_true rfl) (Nat.le_of_ble_eq_true rfl) (dq jL_law_s8 39 rfl) rfl (fun r2 => ?_)
  refine rz_icmp_eq G (tgt := 2219) rfl (dq jL_law_s8 40 rfl) (fun _ => ?_) (fun _ => rz_none)
  exact rz_wid (by omega) (by omega) K
theorem cs_egg {ρ : Type} {Γ : Cx} {Q : ρ → State → Prop} {k n i L : Nat} {xs : Nat → Int32} {dn : Sg → Option ρ} (G : GG Γ RL cL_law 8 (some .boolean) 2000 k n) (X : SX Γ L xs) (hlt : (cLn Γ).stackTraces = false) (hR : k + 4 ≤ (cR Γ).cells ∧ n + 24 ≤ (cR Γ).slots) (hi : i + 7 ≤ L) (hL : L ≤ 3584) (K : Rz Γ 8 Q (k + 4) (n + 24) 2219 (lvL i) [] dn) : Rz Γ 8 Q k n 1832 (lvL i) [] (dB' (f_L_egg (xs (i + 1))) (f_X11_egg (xs (i + 1))) dn) := by
  unfold dB'
  refine rz_aload_n G 3 rfl rfl (dq jL_law_s8 43 rfl) ?_
  refine rz_arg G X hL 1 (by omega) rfl 4 0 rfl rfl (dq jL_law_s8 44 rfl) (dq jL_law_s8 45 rfl) (dq jL_law_s8 46 rfl) (dq jL_law_s8 47 rfl) (dq jL_law_s8 48 rfl) ?_
  refine rz_aload_n G 1 rfl rfl (dq jL_law_s8 49 rfl) ?_
  refine rz_callSW G (st := []) (As := [.ref 0, .int (xs (i + 1)), .ref 95]) (k' := k + 4) (n' := n + 24) (c_L_egg (cLn Γ) hlt (xs (i + 1))) lkw_egg rfl (Nat.le_of_ble_eq_true rfl) (Nat.le_of_ble_eq_true rfl) (dq jL_law_s8 50 rfl) rfl ⟨rfl, rfl⟩ hR (fun r1 => ?_)
  have G := G.upL (k' := k + 4) (n' := n + 24) hR.1 hR.2
  show Rz Γ 8 Q (k + 4) (n + 24) 1843 [(4, .int (nI i)), (3, .ref 95), (2, .ref 56), (1, .ref 0), (0, .ref 999)] [.int r1] _
  refine rz_istore G (lv' := [(5, .int r1), (4, .int (nI i)), (3, .ref 95), (2, .ref 56), (1, .ref 0), (0, .ref 999)]) (by decide) rfl (dq jL_law_s8 51 rfl) ?_
  refine rz_aload_n G 3 rfl rfl (dq jL_law_s8 52 rfl) ?_
  refine rz_arg G X hL 1 (by omega) rfl 5 1 rfl rfl (dq jL_law_s8 53 rfl) (dq jL_law_s8 54 rfl) (dq jL_law_s8 55 rfl) (dq jL_law_s8 56 rfl) (dq jL_law_s8 57 rfl) ?_
  refine rz_callVl G (st := []) (c_X11_egg (cLn Γ) (xs (i + 1))) lkL_209 sh56 rfl rfl rfl (Nat.le_of_ble_eq_true rfl) (Nat.le_of_ble_eq_true rfl) (dq jL_law_s8 58 rfl) rfl (fun r2 => ?_)
  refine rz_lstore G (lv' := [(6, .long r2), (5, .int r1), (4, .int (nI i)), (3, .ref 95), (2, .ref 56), (1, .ref 0), (0, .ref 999)]) (by decide) rfl (dq jL_law_s8 59 rfl) ?_
  refine rz_aload_n G 4 rfl rfl (dq jL_law_s8 60 rfl) ?_
  refine rz_callVi G (st := []) (c_X11_thrown (cLn Γ)) lkL_108 sh56 rfl rfl rfl (Nat.le_of_ble_eq_true rfl) (Nat.le_of_ble_eq_true rfl) (dq jL_law_s8 61 rfl) rfl (fun r3 => ?_)
  refine rz_iload G 1 rfl (dq jL_law_s8 62 rfl) ?_
  refine rz_icmp_eq G (tgt := 1868) rfl (dq jL_law_s8 63 rfl) (fun _ => ?_) (fun _ => rz_none)
  refine rz_iload G 1 rfl (dq jL_law_s8 66 rfl) ?_
  refine rz_if_ne G (tgt := 1884) rfl (dq jL_law_s8 67 rfl) (fun _ => ?_) (fun _ => ?_)
  · refine rz_aload_n G 3 rfl rfl (dq jL_law_s8 68 rfl) ?_
    refine rz_iconst G (v := 0) (dq jL_law_s8 69 rfl) rfl ?_
    refine rz_laldN G (by decide) sh95 (dq jL_law_s8 70 rfl) (fun r4 => ?_)
    refine rz_lload G 0 rfl (dq jL_law_s8 71 rfl) ?_
    refine rz_lcmp G (dq jL_law_s8 72 rfl) ?_
    refine rz_if_eq G (tgt := 1884) rfl (dq jL_law_s8 73 rfl) (fun _ => ?_) (fun _ => rz_none)
    refine rz_goto G (tgt := 2219) rfl (dq jL_law_s8 76 rfl) ?_
    exact rz_lv [2, 3, 4, 5, 6] rfl K
  · refine rz_goto G (tgt := 2219) rfl (dq jL_law_s8 76 rfl) ?_
    exact rz_lv [2, 3, 4, 5, 6] rfl K
theorem cs_afternoons {ρ : Type} {Γ : Cx} {Q : ρ → State → Prop} {k n i L : Nat} {xs : Nat → Int32} {dn : Sg → Option ρ} (G : GG Γ RL cL_law 8 (some .boolean) 2000 k n) (X : SX Γ L xs) (hlt : (cLn Γ).stackTraces = false) (hR : k + 4 ≤ (cR Γ).cells ∧ n + 24 ≤ (cR Γ).slots) (hi : i + 7 ≤ L) (hL : L ≤ 3584) (K : Rz Γ 8 Q (k + 4) (n + 24) 2219 (lvL i) [] dn) : Rz Γ 8 Q k n 1887 (lvL i) [] (dB (f_L_afternoons (xs (i + 1)) (xs (i + 2)) (xs (i + 3))) (f_X11_afternoons (xs (i + 1)) (xs (i + 2)) (xs (i + 3))) dn) := by
  unfold dB
  refine rz_aload_n G 3 rfl rfl (dq jL_law_s8 77 rfl) ?_
  refine rz_arg G X hL 1 (by omega) rfl 4 0 rfl rfl (dq jL_law_s8 78 rfl) (dq jL_law_s8 79 rfl) (dq jL_law_s8 80 rfl) (dq jL_law_s8 81 rfl) (dq jL_law_s8 82 rfl) ?_
  refine rz_arg G X hL 2 (by omega) rfl 4 0 rfl rfl (dq jL_law_s8 83 rfl) (dq jL_law_s8 84 rfl) (dq jL_law_s8 85 rfl) (dq jL_law_s8 86 rfl) (dq jL_law_s8 87 rfl) ?_
  refine rz_arg G X hL 3 (by omega) rfl 4 0 rfl rfl (dq jL_law_s8 88 rfl) (dq jL_law_s8 89 rfl) (dq jL_law_s8 90 rfl) (dq jL_law_s8 91 rfl) (dq jL_law_s8 92 rfl) ?_
  refine rz_aload_n G 1 rfl rfl (dq jL_law_s8 93 rfl) ?_
  refine rz_callSW G (st := []) (As := [.ref 0, .int (xs (i + 1)), .int (xs (i + 2)), .int (xs (i + 3)), .ref 95]) (k' := k + 4) (n' := n + 24) (c_L_afternoons (cLn Γ) hlt (xs (i + 1)) (xs (i + 2)) (xs (i + 3))) lkw_afternoons rfl (Nat.le_of_ble_eq_true rfl) (Nat.le_of_ble_eq_true rfl) (dq jL_law_s8 94 rfl) rfl ⟨rfl, rfl⟩ hR (fun r1 => ?_)
  have G := G.upL (k' := k + 4) (n' := n + 24) hR.1 hR.2
  show Rz Γ 8 Q (k + 4) (n + 24) 1910 [(4, .int (nI i)), (3, .ref 95), (2, .ref 56), (1, .ref 0), (0, .ref 999)] [.int r1] _
  refine rz_istore G (lv' := [(5, .int r1), (4, .int (nI i)), (3, .ref 95), (2, .ref 56), (1, .ref 0), (0, .ref 999)]) (by decide) rfl (dq jL_law_s8 95 rfl) ?_
  refine rz_aload_n G 3 rfl rfl (dq jL_law_s8 96 rfl) ?_
  refine rz_arg G X hL 1 (by omega) rfl 5 1 rfl rfl (dq jL_law_s8 97 rfl) (dq jL_law_s8 98 rfl) (dq jL_law_s8 99 rfl) (dq jL_law_s8 100 rfl) (dq jL_law_s8 101 rfl) ?_
  refine rz_arg G X hL 2 (by omega) rfl 5 1 rfl rfl (dq jL_law_s8 102 rfl) (dq jL_law_s8 103 rfl) (dq jL_law_s8 104 rfl) (dq jL_law_s8 105 rfl) (dq jL_law_s8 106 rfl) ?_
  refine rz_arg G X hL 3 (by omega) rfl 5 1 rfl rfl (dq jL_law_s8 107 rfl) (dq jL_law_s8 108 rfl) (dq jL_law_s8 109 rfl) (dq jL_law_s8 110 rfl) (dq jL_law_s8 111 rfl) ?_
  refine rz_callVi G (st := []) (c_X11_afternoons (cLn Γ) (xs (i + 1)) (xs (i + 2)) (xs (i + 3))) lkL_212 sh56 rfl rfl rfl (Nat.le_of_ble_eq_true rfl) (Nat.le_of_ble_eq_true rfl) (dq jL_law_s8 112 rfl) rfl (fun r2 => ?_)
  refine rz_istore G (lv' := [(6, .int r2), (5, .int r1), (4, .int (nI i)), (3, .ref 95), (2, .ref 56), (1, .ref 0), (0, .ref 999)]) (by decide) rfl (dq jL_law_s8 113 rfl) ?_
  refine rz_aload_n G 4 rfl rfl (dq jL_law_s8 114 rfl) ?_
  refine rz_callVi G (st := []) (c_X11_thrown (cLn Γ)) lkL_108 sh56 rfl rfl rfl (Nat.le_of_ble_eq_true rfl) (Nat.le_of_ble_eq_true rfl) (dq jL_law_s8 115 rfl) rfl (fun r3 => ?_)
  refine rz_iload G 1 rfl (dq jL_law_s8 116 rfl) ?_
  refine rz_icmp_eq G (tgt := 1947) rfl (dq jL_law_s8 117 rfl) (fun _ => ?_) (fun _ => rz_none)
  refine rz_iload G 1 rfl (dq jL_law_s8 120 rfl) ?_
  refine rz_if_ne G (tgt := 1964) rfl (dq jL_law_s8 121 rfl) (fun _ => ?_) (fun _ => ?_)
  · refine rz_aload_n G 3 rfl rfl (dq jL_law_s8 122 rfl) ?_
    refine rz_iconst G (v := 0) (dq jL_law_s8 123 rfl) rfl ?_
    refine rz_laldN G (by decide) sh95 (dq jL_law_s8 124 rfl) (fun r4 => ?_)
    refine rz_iload G 0 rfl (dq jL_law_s8 125 rfl) ?_
    refine rz_i2l G (dq jL_law_s8 126 rfl) ?_
    refine rz_lcmp G (dq jL_law_s8 127 rfl) ?_
    refine rz_if_eq G (tgt := 1964) rfl (dq jL_law_s8 128 rfl) (fun _ => ?_) (fun _ => rz_none)
    refine rz_goto G (tgt := 2219) rfl (dq jL_law_s8 131 rfl) ?_
    exact rz_lv [2, 3, 4, 5, 6] rfl K
  · refine rz_goto G (tgt := 2219) rfl (dq jL_law_s8 131 rfl) ?_
    exact rz_lv [2, 3, 4, 5, 6] rfl K
theorem cs_safe {ρ : Type} {Γ : Cx} {Q : ρ → State → Prop} {k n i L : Nat} {xs : Nat → Int32} {dn : Sg → Option ρ} (G : GG Γ RL cL_law 8 (some .boolean) 2000 k n) (X : SX Γ L xs) (hlt : (cLn Γ).stackTraces = false) (hR : k + 4 ≤ (cR Γ).cells ∧ n + 24 ≤ (cR Γ).slots) (hi : i + 7 ≤ L) (hL : L ≤ 3584) (K : Rz Γ 8 Q (k + 4) (n + 24) 2219 (lvL i) [] dn) : Rz Γ 8 Q k n 1967 (lvL i) [] (dB' (f_L_safe (xs (i + 1)) (xs (i + 2)) (xs (i + 3))) (f_X11_safe (xs (i + 1)) (xs (i + 2)) (xs (i + 3))) dn) := by
  unfold dB'
  refine rz_aload_n G 3 rfl rfl (dq jL_law_s8 132 rfl) ?_
  refine rz_arg G X hL 1 (by omega) rfl 4 0 rfl rfl (dq jL_law_s8 133 rfl) (dq jL_law_s8 134 rfl) (dq jL_law_s8 135 rfl) (dq jL_law_s8 136 rfl) (dq jL_law_s8 137 rfl) ?_
  refine rz_arg G X hL 2 (by omega) rfl 4 0 rfl rfl (dq jL_law_s8 138 rfl) (dq jL_law_s8 139 rfl) (dq jL_law_s8 140 rfl) (dq jL_law_s8 141 rfl) (dq jL_law_s8 142 rfl) ?_
  refine rz_arg G X hL 3 (by omega) rfl 4 0 rfl rfl (dq jL_law_s8 143 rfl) (dq jL_law_s8 144 rfl) (dq jL_law_s8 145 rfl) (dq jL_law_s8 146 rfl) (dq jL_law_s8 147 rfl) ?_
  refine rz_aload_n G 1 rfl rfl (dq jL_law_s8 148 rfl) ?_
  refine rz_callSW G (st := []) (As := [.ref 0, .int (xs (i + 1)), .int (xs (i + 2)), .int (xs (i + 3)), .ref 95]) (k' := k + 4) (n' := n + 24) (c_L_safe (cLn Γ) hlt (xs (i + 1)) (xs (i + 2)) (xs (i + 3))) lkw_safe rfl (Nat.le_of_ble_eq_true rfl) (Nat.le_of_ble_eq_true rfl) (dq jL_law_s8 149 rfl) rfl ⟨rfl, rfl⟩ hR (fun r1 => ?_)
  have G := G.upL (k' := k + 4) (n' := n + 24) hR.1 hR.2
  show Rz Γ 8 Q (k + 4) (n + 24) 1990 [(4, .int (nI i)), (3, .ref 95), (2, .ref 56), (1, .ref 0), (0, .ref 999)] [.int r1] _
  refine rz_istore G (lv' := [(5, .int r1), (4, .int (nI i)), (3, .ref 95), (2, .ref 56), (1, .ref 0), (0, .ref 999)]) (by decide) rfl (dq jL_law_s9 0 rfl) ?_
  refine rz_aload_n G 3 rfl rfl (dq jL_law_s9 1 rfl) ?_
  refine rz_arg G X hL 1 (by omega) rfl 5 1 rfl rfl (dq jL_law_s9 2 rfl) (dq jL_law_s9 3 rfl) (dq jL_law_s9 4 rfl) (dq jL_law_s9 5 rfl) (dq jL_law_s9 6 rfl) ?_
  refine rz_arg G X hL 2 (by omega) rfl 5 1 rfl rfl (dq jL_law_s9 7 rfl) (dq jL_law_s9 8 rfl) (dq jL_law_s9 9 rfl) (dq jL_law_s9 10 rfl) (dq jL_law_s9 11 rfl) ?_
  refine rz_arg G X hL 3 (by omega) rfl 5 1 rfl rfl (dq jL_law_s9 12 rfl) (dq jL_law_s9 13 rfl) (dq jL_law_s9 14 rfl) (dq jL_law_s9 15 rfl) (dq jL_law_s9 16 rfl) ?_
  refine rz_callVl G (st := []) (c_X11_safe (cLn Γ) (xs (i + 1)) (xs (i + 2)) (xs (i + 3))) lkL_215 sh56 rfl rfl rfl (Nat.le_of_ble_eq_true rfl) (Nat.le_of_ble_eq_true rfl) (dq jL_law_s9 17 rfl) rfl (fun r2 => ?_)
  refine rz_lstore G (lv' := [(6, .long r2), (5, .int r1), (4, .int (nI i)), (3, .ref 95), (2, .ref 56), (1, .ref 0), (0, .ref 999)]) (by decide) rfl (dq jL_law_s9 18 rfl) ?_
  refine rz_aload_n G 4 rfl rfl (dq jL_law_s9 19 rfl) ?_
  refine rz_callVi G (st := []) (c_X11_thrown (cLn Γ)) lkL_108 sh56 rfl rfl rfl (Nat.le_of_ble_eq_true rfl) (Nat.le_of_ble_eq_true rfl) (dq jL_law_s9 20 rfl) rfl (fun r3 => ?_)
  refine rz_iload G 1 rfl (dq jL_law_s9 21 rfl) ?_
  refine rz_icmp_eq G (tgt := 2027) rfl (dq jL_law_s9 22 rfl) (fun _ => ?_) (fun _ => rz_none)
  refine rz_iload G 1 rfl (dq jL_law_s9 25 rfl) ?_
  refine rz_if_ne G (tgt := 2043) rfl (dq jL_law_s9 26 rfl) (fun _ => ?_) (fun _ => ?_)
  · refine rz_aload_n G 3 rfl rfl (dq jL_law_s9 27 rfl) ?_
    refine rz_iconst G (v := 0) (dq jL_law_s9 28 rfl) rfl ?_
    refine rz_laldN G (by decide) sh95 (dq jL_law_s9 29 rfl) (fun r4 => ?_)
    refine rz_lload G 0 rfl (dq jL_law_s9 30 rfl) ?_
    refine rz_lcmp G (dq jL_law_s9 31 rfl) ?_
    refine rz_if_eq G (tgt := 2043) rfl (dq jL_law_s9 32 rfl) (fun _ => ?_) (fun _ => rz_none)
    refine rz_goto G (tgt := 2219) rfl (dq jL_law_s9 35 rfl) ?_
    exact rz_lv [2, 3, 4, 5, 6] rfl K
  · refine rz_goto G (tgt := 2219) rfl (dq jL_law_s9 35 rfl) ?_
    exact rz_lv [2, 3, 4, 5, 6] rfl K
theorem cs_atOnce {ρ : Type} {Γ : Cx} {Q : ρ → State → Prop} {k n i L : Nat} {xs : Nat → Int32} {dn : Sg → Option ρ} (G : GG Γ RL cL_law 8 (some .boolean) 2000 k n) (X : SX Γ L xs) (hlt : (cLn Γ).stackTraces = false) (hR : k + 4 ≤ (cR Γ).cells ∧ n + 24 ≤ (cR Γ).slots) (hi : i + 7 ≤ L) (hL : L ≤ 3584) (K : Rz Γ 8 Q (k + 4) (n + 24) 2219 (lvL i) [] dn) : Rz Γ 8 Q k n 2046 (lvL i) [] (dA (f_X10_atOnce) (f_X11_atOnce) dn) := by
  unfold dA
  refine rz_aload_n G 3 rfl rfl (dq jL_law_s9 36 rfl) ?_
  refine rz_callVi G (st := []) (c_X10_atOnce (cLn Γ)) lkL_216 sh0 rfl rfl rfl (Nat.le_of_ble_eq_true rfl) (Nat.le_of_ble_eq_true rfl) (dq jL_law_s9 37 rfl) rfl (fun r1 => ?_)
  refine rz_aload_n G 2 rfl rfl (dq jL_law_s9 38 rfl) ?_
  refine rz_callVi G (st := [.int r1]) (c_X11_atOnce (cLn Γ)) lkL_219 sh56 rfl rfl rfl (Nat.le_of_ble_eq_true rfl) (Nat.le_of_ble_eq_true rfl) (dq jL_law_s9 39 rfl) rfl (fun r2 => ?_)
  refine rz_icmp_eq G (tgt := 2219) rfl (dq jL_law_s9 40 rfl) (fun _ => ?_) (fun _ => rz_none)
  exact rz_wid (by omega) (by omega) K
theorem cs_stop {ρ : Type} {Γ : Cx} {Q : ρ → State → Prop} {k n i L : Nat} {xs : Nat → Int32} {dn : Sg → Option ρ} (G : GG Γ RL cL_law 8 (some .boolean) 2000 k n) (X : SX Γ L xs) (hlt : (cLn Γ).stackTraces = false) (hR : k + 4 ≤ (cR Γ).cells ∧ n + 24 ≤ (cR Γ).slots) (hi : i + 7 ≤ L) (hL : L ≤ 3584) (K : Rz Γ 8 Q (k + 4) (n + 24) 2219 (lvL i) [] dn) : Rz Γ 8 Q k n 2059 (lvL i) [] (dB (f_L_stop (xs (i + 1))) (f_X11_stop (xs (i + 1))) dn) := by
  unfold dB
  refine rz_aload_n G 3 rfl rfl (dq jL_law_s9 43 rfl) ?_
  refine rz_arg G X hL 1 (by omega) rfl 4 0 rfl rfl (dq jL_law_s9 44 rfl) (dq jL_law_s9 45 rfl) (dq jL_law_s9 46 rfl) (dq jL_law_s9 47 rfl) (dq jL_law_s9 48 rfl) ?_
  refine rz_aload_n G 1 rfl rfl (dq jL_law_s9 49 rfl) ?_
  refine rz_callSW G (st := []) (As := [.ref 0, .int (xs (i + 1)), .ref 95]) (k' := k + 4) (n' := n + 24) (c_L_stop (cLn Γ) hlt (xs (i + 1))) lkw_stop rfl (Nat.le_of_ble_eq_true rfl) (Nat.le_of_ble_eq_true rfl) (dq jL_law_s9 50 rfl) rfl ⟨rfl, rfl⟩ hR (fun r1 => ?_)
  have G := G.upL (k' := k + 4) (n' := n + 24) hR.1 hR.2
  show Rz Γ 8 Q (k + 4) (n + 24) 2070 [(4, .int (nI i)), (3, .ref 95), (2, .ref 56), (1, .ref 0), (0, .ref 999)] [.int r1] _
  refine rz_istore G (lv' := [(5, .int r1), (4, .int (nI i)), (3, .ref 95), (2, .ref 56), (1, .ref 0), (0, .ref 999)]) (by decide) rfl (dq jL_law_s9 51 rfl) ?_
  refine rz_aload_n G 3 rfl rfl (dq jL_law_s9 52 rfl) ?_
  refine rz_arg G X hL 1 (by omega) rfl 5 1 rfl rfl (dq jL_law_s9 53 rfl) (dq jL_law_s9 54 rfl) (dq jL_law_s9 55 rfl) (dq jL_law_s9 56 rfl) (dq jL_law_s9 57 rfl) ?_
  refine rz_callVi G (st := []) (c_X11_stop (cLn Γ) (xs (i + 1))) lkL_222 sh56 rfl rfl rfl (Nat.le_of_ble_eq_true rfl) (Nat.le_of_ble_eq_true rfl) (dq jL_law_s9 58 rfl) rfl (fun r2 => ?_)
  refine rz_istore G (lv' := [(6, .int r2), (5, .int r1), (4, .int (nI i)), (3, .ref 95), (2, .ref 56), (1, .ref 0), (0, .ref 999)]) (by decide) rfl (dq jL_law_s9 59 rfl) ?_
  refine rz_aload_n G 4 rfl rfl (dq jL_law_s9 60 rfl) ?_
  refine rz_callVi G (st := []) (c_X11_thrown (cLn Γ)) lkL_108 sh56 rfl rfl rfl (Nat.le_of_ble_eq_true rfl) (Nat.le_of_ble_eq_true rfl) (dq jL_law_s9 61 rfl) rfl (fun r3 => ?_)
  refine rz_iload G 1 rfl (dq jL_law_s9 62 rfl) ?_
  refine rz_icmp_eq G (tgt := 2095) rfl (dq jL_law_s9 63 rfl) (fun _ => ?_) (fun _ => rz_none)
  refine rz_iload G 1 rfl (dq jL_law_s9 66 rfl) ?_
  refine rz_if_ne G (tgt := 2112) rfl (dq jL_law_s9 67 rfl) (fun _ => ?_) (fun _ => ?_)
  · refine rz_aload_n G 3 rfl rfl (dq jL_law_s9 68 rfl) ?_
    refine rz_iconst G (v := 0) (dq jL_law_s9 69 rfl) rfl ?_
    refine rz_laldN G (by decide) sh95 (dq jL_law_s9 70 rfl) (fun r4 => ?_)
    refine rz_iload G 0 rfl (dq jL_law_s9 71 rfl) ?_
    refine rz_i2l G (dq jL_law_s9 72 rfl) ?_
    refine rz_lcmp G (dq jL_law_s9 73 rfl) ?_
    refine rz_if_eq G (tgt := 2112) rfl (dq jL_law_s9 74 rfl) (fun _ => ?_) (fun _ => rz_none)
    refine rz_goto G (tgt := 2219) rfl (dq jL_law_s9 77 rfl) ?_
    exact rz_lv [2, 3, 4, 5, 6] rfl K
  · refine rz_goto G (tgt := 2219) rfl (dq jL_law_s9 77 rfl) ?_
    exact rz_lv [2, 3, 4, 5, 6] rfl K
theorem cs_over {ρ : Type} {Γ : Cx} {Q : ρ → State → Prop} {k n i L : Nat} {xs : Nat → Int32} {dn : Sg → Option ρ} (G : GG Γ RL cL_law 8 (some .boolean) 2000 k n) (X : SX Γ L xs) (hlt : (cLn Γ).stackTraces = false) (hR : k + 4 ≤ (cR Γ).cells ∧ n + 24 ≤ (cR Γ).slots) (hi : i + 7 ≤ L) (hL : L ≤ 3584) (K : Rz Γ 8 Q (k + 4) (n + 24) 2219 (lvL i) [] dn) : Rz Γ 8 Q k n 2115 (lvL i) [] (dB (f_L_over (xs (i + 1)) (xs (i + 2)) (xs (i + 3))) (f_X11_over (xs (i + 1)) (xs (i + 2)) (xs (i + 3))) dn) := by
  unfold dB
  refine rz_aload_n G 3 rfl rfl (dq jL_law_s9 78 rfl) ?_
  refine rz_arg G X hL 1 (by omega) rfl 4 0 rfl rfl (dq jL_law_s9 79 rfl) (dq jL_law_s9 80 rfl) (dq jL_law_s9 81 rfl) (dq jL_law_s9 82 rfl) (dq jL_law_s9 83 rfl) ?_
  refine rz_arg G X hL 2 (by omega) rfl 4 0 rfl rfl (dq jL_law_s9 84 rfl) (dq jL_law_s9 85 rfl) (dq jL_law_s9 86 rfl) (dq jL_law_s9 87 rfl) (dq jL_law_s9 88 rfl) ?_
  refine rz_arg G X hL 3 (by omega) rfl 4 0 rfl rfl (dq jL_law_s9 89 rfl) (dq jL_law_s9 90 rfl) (dq jL_law_s9 91 rfl) (dq jL_law_s9 92 rfl) (dq jL_law_s9 93 rfl) ?_
  refine rz_aload_n G 1 rfl rfl (dq jL_law_s9 94 rfl) ?_
  refine rz_callSW G (st := []) (As := [.ref 0, .int (xs (i + 1)), .int (xs (i + 2)), .int (xs (i + 3)), .ref 95]) (k' := k + 4) (n' := n + 24) (c_L_over (cLn Γ) hlt (xs (i + 1)) (xs (i + 2)) (xs (i + 3))) lkw_over rfl (Nat.le_of_ble_eq_true rfl) (Nat.le_of_ble_eq_true rfl) (dq jL_law_s9 95 rfl) rfl ⟨rfl, rfl⟩ hR (fun r1 => ?_)
  have G := G.upL (k' := k + 4) (n' := n + 24) hR.1 hR.2
  show Rz Γ 8 Q (k + 4) (n + 24) 2138 [(4, .int (nI i)), (3, .ref 95), (2, .ref 56), (1, .ref 0), (0, .ref 999)] [.int r1] _
  refine rz_istore G (lv' := [(5, .int r1), (4, .int (nI i)), (3, .ref 95), (2, .ref 56), (1, .ref 0), (0, .ref 999)]) (by decide) rfl (dq jL_law_s9 96 rfl) ?_
  refine rz_aload_n G 3 rfl rfl (dq jL_law_s9 97 rfl) ?_
  refine rz_arg G X hL 1 (by omega) rfl 5 1 rfl rfl (dq jL_law_s9 98 rfl) (dq jL_law_s9 99 rfl) (dq jL_law_s9 100 rfl) (dq jL_law_s9 101 rfl) (dq jL_law_s9 102 rfl) ?_
  refine rz_arg G X hL 2 (by omega) rfl 5 1 rfl rfl (dq jL_law_s9 103 rfl) (dq jL_law_s9 104 rfl) (dq jL_law_s9 105 rfl) (dq jL_law_s9 106 rfl) (dq jL_law_s9 107 rfl) ?_
  refine rz_arg G X hL 3 (by omega) rfl 5 1 rfl rfl (dq jL_law_s9 108 rfl) (dq jL_law_s9 109 rfl) (dq jL_law_s9 110 rfl) (dq jL_law_s9 111 rfl) (dq jL_law_s9 112 rfl) ?_
  refine rz_callVi G (st := []) (c_X11_over (cLn Γ) (xs (i + 1)) (xs (i + 2)) (xs (i + 3))) lkL_225 sh56 rfl rfl rfl (Nat.le_of_ble_eq_true rfl) (Nat.le_of_ble_eq_true rfl) (dq jL_law_s9 113 rfl) rfl (fun r2 => ?_)
  refine rz_istore G (lv' := [(6, .int r2), (5, .int r1), (4, .int (nI i)), (3, .ref 95), (2, .ref 56), (1, .ref 0), (0, .ref 999)]) (by decide) rfl (dq jL_law_s9 114 rfl) ?_
  refine rz_aload_n G 4 rfl rfl (dq jL_law_s9 115 rfl) ?_
  refine rz_callVi G (st := []) (c_X11_thrown (cLn Γ)) lkL_108 sh56 rfl rfl rfl (Nat.le_of_ble_eq_true rfl) (Nat.le_of_ble_eq_true rfl) (dq jL_law_s9 116 rfl) rfl (fun r3 => ?_)
  refine rz_iload G 1 rfl (dq jL_law_s9 117 rfl) ?_
  refine rz_icmp_eq G (tgt := 2175) rfl (dq jL_law_s9 118 rfl) (fun _ => ?_) (fun _ => rz_none)
  refine rz_iload G 1 rfl (dq jL_law_s9 121 rfl) ?_
  refine rz_if_ne G (tgt := 2192) rfl (dq jL_law_s9 122 rfl) (fun _ => ?_) (fun _ => ?_)
  · refine rz_aload_n G 3 rfl rfl (dq jL_law_s9 123 rfl) ?_
    refine rz_iconst G (v := 0) (dq jL_law_s9 124 rfl) rfl ?_
    refine rz_laldN G (by decide) sh95 (dq jL_law_s9 125 rfl) (fun r4 => ?_)
    refine rz_iload G 0 rfl (dq jL_law_s9 126 rfl) ?_
    refine rz_i2l G (dq jL_law_s9 127 rfl) ?_
    refine rz_lcmp G (dq jL_law_s9 128 rfl) ?_
    refine rz_if_eq G (tgt := 2192) rfl (dq jL_law_s9 129 rfl) (fun _ => ?_) (fun _ => rz_none)
    refine rz_goto G (tgt := 2219) rfl (dq jL_law_s9 132 rfl) ?_
    exact rz_lv [2, 3, 4, 5, 6] rfl K
  · refine rz_goto G (tgt := 2219) rfl (dq jL_law_s9 132 rfl) ?_
    exact rz_lv [2, 3, 4, 5, 6] rfl K
theorem cs_image {ρ : Type} {Γ : Cx} {Q : ρ → State → Prop} {k n i L : Nat} {xs : Nat → Int32} {dn : Sg → Option ρ} (G : GG Γ RL cL_law 8 (some .boolean) 2000 k n) (X : SX Γ L xs) (hlt : (cLn Γ).stackTraces = false) (hR : k + 4 ≤ (cR Γ).cells ∧ n + 24 ≤ (cR Γ).slots) (hi : i + 7 ≤ L) (hL : L ≤ 3584) (K : Rz Γ 8 Q (k + 4) (n + 24) 2219 (lvL i) [] dn) : Rz Γ 8 Q k n 2195 (lvL i) [] (dC (f_X10_image) (f_X11_image) dn) := by
  unfold dC
  refine rz_aload_n G 3 rfl rfl (dq jL_law_s9 133 rfl) ?_
  refine rz_callVv G (st := []) (c_X10_image (cLn Γ)) lkL_226 sh0 rfl rfl rfl (Nat.le_of_ble_eq_true rfl) (Nat.le_of_ble_eq_true rfl) (dq jL_law_s9 134 rfl) rfl (fun _ => ?_)
  refine rz_aload_n G 2 rfl rfl (dq jL_law_s9 135 rfl) ?_
  refine rz_callVv G (st := []) (c_X11_image (cLn Γ)) lkL_229 sh56 rfl rfl rfl (Nat.le_of_ble_eq_true rfl) (Nat.le_of_ble_eq_true rfl) (dq jL_law_s9 136 rfl) rfl (fun _ => ?_)
  refine rz_goto G (tgt := 2219) rfl (dq jL_law_s9 137 rfl) ?_
  exact rz_wid (by omega) (by omega) K
theorem cs_restore {ρ : Type} {Γ : Cx} {Q : ρ → State → Prop} {k n i L : Nat} {xs : Nat → Int32} {dn : Sg → Option ρ} (G : GG Γ RL cL_law 8 (some .boolean) 2000 k n) (X : SX Γ L xs) (hlt : (cLn Γ).stackTraces = false) (hR : k + 4 ≤ (cR Γ).cells ∧ n + 24 ≤ (cR Γ).slots) (hi : i + 7 ≤ L) (hL : L ≤ 3584) (K : Rz Γ 8 Q (k + 4) (n + 24) 2219 (lvL i) [] dn) : Rz Γ 8 Q k n 2206 (lvL i) [] (dA (f_X10_restore) (f_X11_restore) dn) := by
  unfold dA
  refine rz_aload_n G 3 rfl rfl (dq jL_law_s9 138 rfl) ?_
  refine rz_callVi G (st := []) (c_X10_restore (cLn Γ)) lkL_230 sh0 rfl rfl rfl (Nat.le_of_ble_eq_true rfl) (Nat.le_of_ble_eq_true rfl) (dq jL_law_s9 139 rfl) rfl (fun r1 => ?_)
  refine rz_aload_n G 2 rfl rfl (dq jL_law_s9 140 rfl) ?_
  refine rz_callVi G (st := [.int r1]) (c_X11_restore (cLn Γ)) lkL_234 sh56 rfl rfl rfl (Nat.le_of_ble_eq_true rfl) (Nat.le_of_ble_eq_true rfl) (dq jL_law_s9 141 rfl) rfl (fun r2 => ?_)
  refine rz_icmp_eq G (tgt := 2219) rfl (dq jL_law_s9 142 rfl) (fun _ => ?_) (fun _ => rz_none)
  exact rz_wid (by omega) (by omega) K
