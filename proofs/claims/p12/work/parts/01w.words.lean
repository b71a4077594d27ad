def wsL_law0 : List Cond := lw_tbl.filter goodWord
theorem mkW {w : Cond} (h : w ∈ lw_tbl) (g : goodWord w = true) : w ∈ wsL_law0 := List.mem_filter.mpr ⟨h, g⟩
theorem mkT {w : Cond} (h : w ∈ tables_1) (g : goodWord w = true) : w ∈ wsL_law0 := mkW (List.mem_append_right _ h) g
theorem mP0 {y : MethodName} {n : Nat} (h : (y, n) ∈ lw_privs_1) : Cond.selects y.cls y y ∈ wsL_law0 := mkW (List.mem_append_left _ (List.mem_map.mpr ⟨(y, n), (show (y, n) ∈ lw_privs from List.mem_append_left _ h), rfl⟩)) rfl
theorem mP1 {y : MethodName} {n : Nat} (h : (y, n) ∈ lw_privs_2) : Cond.selects y.cls y y ∈ wsL_law0 := mkW (List.mem_append_left _ (List.mem_map.mpr ⟨(y, n), (show (y, n) ∈ lw_privs from List.mem_append_right _ (List.mem_append_left _ h)), rfl⟩)) rfl
theorem mP2 {y : MethodName} {n : Nat} (h : (y, n) ∈ lw_privs_3) : Cond.selects y.cls y y ∈ wsL_law0 := mkW (List.mem_append_left _ (List.mem_map.mpr ⟨(y, n), (show (y, n) ∈ lw_privs from List.mem_append_right _ (List.mem_append_right _ (List.mem_append_left _ h))), rfl⟩)) rfl
theorem mP3 {y : MethodName} {n : Nat} (h : (y, n) ∈ lw_privs_4) : Cond.selects y.cls y y ∈ wsL_law0 := mkW (List.mem_append_left _ (List.mem_map.mpr ⟨(y, n), (show (y, n) ∈ lw_privs from List.mem_append_right _ (List.mem_append_right _ (List.mem_append_right _ (List.mem_append_left _ h)))), rfl⟩)) rfl
theorem mP4 {y : MethodName} {n : Nat} (h : (y, n) ∈ lw_privs_5) : Cond.selects y.cls y y ∈ wsL_law0 := mkW (List.mem_append_left _ (List.mem_map.mpr ⟨(y, n), (show (y, n) ∈ lw_privs from List.mem_append_right _ (List.mem_append_right _ (List.mem_append_right _ (List.mem_append_right _ (List.mem_append_left _ h))))), rfl⟩)) rfl
theorem mP5 {y : MethodName} {n : Nat} (h : (y, n) ∈ lw_privs_6) : Cond.selects y.cls y y ∈ wsL_law0 := mkW (List.mem_append_left _ (List.mem_map.mpr ⟨(y, n), (show (y, n) ∈ lw_privs from List.mem_append_right _ (List.mem_append_right _ (List.mem_append_right _ (List.mem_append_right _ (List.mem_append_right _ (List.mem_append_left _ h)))))), rfl⟩)) rfl
theorem mP6 {y : MethodName} {n : Nat} (h : (y, n) ∈ lw_privs_7) : Cond.selects y.cls y y ∈ wsL_law0 := mkW (List.mem_append_left _ (List.mem_map.mpr ⟨(y, n), (show (y, n) ∈ lw_privs from List.mem_append_right _ (List.mem_append_right _ (List.mem_append_right _ (List.mem_append_right _ (List.mem_append_right _ (List.mem_append_right _ (List.mem_append_left _ h))))))), rfl⟩)) rfl
theorem mP7 {y : MethodName} {n : Nat} (h : (y, n) ∈ lw_privs_8) : Cond.selects y.cls y y ∈ wsL_law0 := mkW (List.mem_append_left _ (List.mem_map.mpr ⟨(y, n), (show (y, n) ∈ lw_privs from List.mem_append_right _ (List.mem_append_right _ (List.mem_append_right _ (List.mem_append_right _ (List.mem_append_right _ (List.mem_append_right _ (List.mem_append_right _ (h)))))))), rfl⟩)) rfl
theorem wsL_in : ∀ w ∈ wsL_law0, w ∈ lw_tbl := fun w h => (List.mem_filter.mp h).1
theorem goodL : ∀ w ∈ wsL_law0, (w.onTables && w.keeps) = true ∨ ∃ ty, w = .arrayClass ty := fun w h => good_of_word (List.mem_filter.mp h).2
theorem mw0 : Cond.classLink RL 8 RX10 ∈ wsL_law0 := mkT (mA1 (List.mem_of_getElem? (i := 8) rfl)) rfl
theorem mw1 : Cond.instantiable RX10 10 ∈ wsL_law0 := mkT (mA1 (List.mem_of_getElem? (i := 9) rfl)) rfl
theorem mw2 : Cond.initialized RX10 ∈ wsL_law0 := mkT (mA0 (List.mem_of_getElem? (i := 1) rfl)) rfl
theorem mw3 : Cond.classLink RL 16 RX11 ∈ wsL_law0 := mkT (mA78 (List.mem_of_getElem? (i := 1) rfl)) rfl
theorem mw4 : Cond.instantiable RX11 43 ∈ wsL_law0 := mkT (mA78 (List.mem_of_getElem? (i := 2) rfl)) rfl
theorem mw5 : Cond.initialized RX11 ∈ wsL_law0 := mkT (mA0 (List.mem_of_getElem? (i := 13) rfl)) rfl
theorem mw6 : Cond.arrayClass .long ∈ wsL_law0 := mkT (mA13 (List.mem_of_getElem? (i := 5) rfl)) rfl
theorem mw7 : Cond.methodLink RL 15 yX10_init ∈ wsL_law0 := mkT (mA1 (List.mem_of_getElem? (i := 10) rfl)) rfl
theorem mw8 : Cond.instanceMethod yX10_init ∈ wsL_law0 := mkT (mA1 (List.mem_of_getElem? (i := 11) rfl)) rfl
theorem mw9 : Cond.code yX10_init cX10_init 1 none ∈ wsL_law0 := mkT (mA1 (List.mem_of_getElem? (i := 12) rfl)) rfl
theorem mw10 : Cond.methodLink RX10 1 objectInit ∈ wsL_law0 := mkT (mA1 (List.mem_of_getElem? (i := 13) rfl)) rfl
theorem mw11 : Cond.instanceMethod objectInit ∈ wsL_law0 := mkT (mA1 (List.mem_of_getElem? (i := 14) rfl)) rfl
theorem mw12 : Cond.code objectInit ⟨#[0xb1]⟩ 1 none ∈ wsL_law0 := mkT (mA1 (List.mem_of_getElem? (i := 15) rfl)) rfl
theorem mw13 : Cond.classLink RX10 7 RX9 ∈ wsL_law0 := mkT (mA2 (List.mem_of_getElem? (i := 0) rfl)) rfl
theorem mw14 : Cond.instantiable RX9 15 ∈ wsL_law0 := mkT (mA2 (List.mem_of_getElem? (i := 1) rfl)) rfl
theorem mw15 : Cond.initialized RX9 ∈ wsL_law0 := mkT (mA0 (List.mem_of_getElem? (i := 2) rfl)) rfl
theorem mw16 : Cond.fieldLink RX10 10 "ReelChange" "text" "LReelChange$Text;" ∈ wsL_law0 := mkT (mA22 (List.mem_of_getElem? (i := 3) rfl)) rfl
theorem mw17 : Cond.classLink RX10 16 RX3 ∈ wsL_law0 := mkT (mA13 (List.mem_of_getElem? (i := 6) rfl)) rfl
theorem mw18 : Cond.instantiable RX3 8 ∈ wsL_law0 := mkT (mA2 (List.mem_of_getElem? (i := 7) rfl)) rfl
theorem mw19 : Cond.initialized RX3 ∈ wsL_law0 := mkT (mA0 (List.mem_of_getElem? (i := 3) rfl)) rfl
theorem mw20 : Cond.fieldLink RX10 19 "ReelChange" "told" "LReelChange$House;" ∈ wsL_law0 := mkT (mA22 (List.mem_of_getElem? (i := 4) rfl)) rfl
theorem mw21 : Cond.classLink RX10 23 RX7 ∈ wsL_law0 := mkT (mA13 (List.mem_of_getElem? (i := 8) rfl)) rfl
theorem mw22 : Cond.instantiable RX7 6 ∈ wsL_law0 := mkT (mA2 (List.mem_of_getElem? (i := 13) rfl)) rfl
theorem mw23 : Cond.initialized RX7 ∈ wsL_law0 := mkT (mA0 (List.mem_of_getElem? (i := 4) rfl)) rfl
theorem mw24 : Cond.fieldLink RX10 26 "ReelChange" "now" "LReelChange$State;" ∈ wsL_law0 := mkT (mA22 (List.mem_of_getElem? (i := 5) rfl)) rfl
theorem mw25 : Cond.classLink RX10 30 RX4 ∈ wsL_law0 := mkT (mA13 (List.mem_of_getElem? (i := 10) rfl)) rfl
theorem mw26 : Cond.instantiable RX4 5 ∈ wsL_law0 := mkT (mA13 (List.mem_of_getElem? (i := 11) rfl)) rfl
theorem mw27 : Cond.initialized RX4 ∈ wsL_law0 := mkT (mA0 (List.mem_of_getElem? (i := 7) rfl)) rfl
theorem mw28 : Cond.fieldLink RX10 33 "ReelChange" "kept" "LReelChange$Kept;" ∈ wsL_law0 := mkT (mA22 (List.mem_of_getElem? (i := 6) rfl)) rfl
theorem mw29 : Cond.classLink RX10 37 RX5 ∈ wsL_law0 := mkT (mA15 (List.mem_of_getElem? (i := 5) rfl)) rfl
theorem mw30 : Cond.instantiable RX5 9 ∈ wsL_law0 := mkT (mA15 (List.mem_of_getElem? (i := 6) rfl)) rfl
theorem mw31 : Cond.initialized RX5 ∈ wsL_law0 := mkT (mA0 (List.mem_of_getElem? (i := 8) rfl)) rfl
theorem mw32 : Cond.fieldLink RX10 40 "ReelChange" "night" "LReelChange$Night;" ∈ wsL_law0 := mkT (mA22 (List.mem_of_getElem? (i := 7) rfl)) rfl
theorem mw33 : Cond.classLink RX10 44 RX0 ∈ wsL_law0 := mkT (mA17 (List.mem_of_getElem? (i := 13) rfl)) rfl
theorem mw34 : Cond.instantiable RX0 2 ∈ wsL_law0 := mkT (mA17 (List.mem_of_getElem? (i := 14) rfl)) rfl
theorem mw35 : Cond.initialized RX0 ∈ wsL_law0 := mkT (mA0 (List.mem_of_getElem? (i := 9) rfl)) rfl
theorem mw36 : Cond.fieldLink RX10 47 "ReelChange" "arcs" "LReelChange$Arcs;" ∈ wsL_law0 := mkT (mA22 (List.mem_of_getElem? (i := 8) rfl)) rfl
theorem mw37 : Cond.classLink RX10 51 RX6 ∈ wsL_law0 := mkT (mA18 (List.mem_of_getElem? (i := 14) rfl)) rfl
theorem mw38 : Cond.instantiable RX6 3 ∈ wsL_law0 := mkT (mA18 (List.mem_of_getElem? (i := 15) rfl)) rfl
theorem mw39 : Cond.initialized RX6 ∈ wsL_law0 := mkT (mA0 (List.mem_of_getElem? (i := 10) rfl)) rfl
theorem mw40 : Cond.fieldLink RX10 54 "ReelChange" "riders" "LReelChange$Riders;" ∈ wsL_law0 := mkT (mA22 (List.mem_of_getElem? (i := 9) rfl)) rfl
theorem mw41 : Cond.classLink RX10 58 RX1 ∈ wsL_law0 := mkT (mA20 (List.mem_of_getElem? (i := 2) rfl)) rfl
theorem mw42 : Cond.instantiable RX1 3 ∈ wsL_law0 := mkT (mA20 (List.mem_of_getElem? (i := 3) rfl)) rfl
theorem mw43 : Cond.initialized RX1 ∈ wsL_law0 := mkT (mA0 (List.mem_of_getElem? (i := 11) rfl)) rfl
theorem mw44 : Cond.fieldLink RX10 61 "ReelChange" "exchanger" "LReelChange$Exchanger;" ∈ wsL_law0 := mkT (mA22 (List.mem_of_getElem? (i := 10) rfl)) rfl
theorem mw45 : Cond.classLink RX10 65 RX2 ∈ wsL_law0 := mkT (mA21 (List.mem_of_getElem? (i := 4) rfl)) rfl
theorem mw46 : Cond.instantiable RX2 2 ∈ wsL_law0 := mkT (mA21 (List.mem_of_getElem? (i := 5) rfl)) rfl
theorem mw47 : Cond.initialized RX2 ∈ wsL_law0 := mkT (mA0 (List.mem_of_getElem? (i := 12) rfl)) rfl
theorem mw48 : Cond.fieldLink RX10 68 "ReelChange" "fraction" "LReelChange$Fraction;" ∈ wsL_law0 := mkT (mA22 (List.mem_of_getElem? (i := 11) rfl)) rfl
theorem mw49 : Cond.fieldLink RX10 72 "ReelChange" "latestTrouble" "I" ∈ wsL_law0 := mkT (mA22 (List.mem_of_getElem? (i := 12) rfl)) rfl
theorem mw50 : Cond.instanceMethod yX9_init ∈ wsL_law0 := mkT (mA2 (List.mem_of_getElem? (i := 3) rfl)) rfl
theorem mw51 : Cond.code yX9_init cX9_init 1 none ∈ wsL_law0 := mkT (mA2 (List.mem_of_getElem? (i := 4) rfl)) rfl
theorem mw52 : Cond.methodLink RX9 3 objectInit ∈ wsL_law0 := mkT (mA2 (List.mem_of_getElem? (i := 5) rfl)) rfl
theorem mw53 : Cond.fieldLink RX9 9 "ReelChange$Text" "taped" "I" ∈ wsL_law0 := mkT (mA10 (List.mem_of_getElem? (i := 2) rfl)) rfl
theorem mw54 : Cond.classLink RX9 15 RX3 ∈ wsL_law0 := mkT (mA2 (List.mem_of_getElem? (i := 6) rfl)) rfl
theorem mw55 : Cond.fieldLink RX9 18 "ReelChange$Text" "house" "LReelChange$House;" ∈ wsL_law0 := mkT (mA10 (List.mem_of_getElem? (i := 4) rfl)) rfl
theorem mw56 : Cond.fieldLink RX9 22 "ReelChange$Text" "faultNumber" "I" ∈ wsL_law0 := mkT (mA10 (List.mem_of_getElem? (i := 6) rfl)) rfl
theorem mw57 : Cond.fieldLink RX9 25 "ReelChange$Text" "faultPlace" "I" ∈ wsL_law0 := mkT (mA10 (List.mem_of_getElem? (i := 8) rfl)) rfl
theorem mw58 : Cond.arrayClass .byte ∈ wsL_law0 := mkT (mA13 (List.mem_of_getElem? (i := 4) rfl)) rfl
theorem mw59 : Cond.fieldLink RX9 28 "ReelChange$Text" "tape" "[B" ∈ wsL_law0 := mkT (mA10 (List.mem_of_getElem? (i := 10) rfl)) rfl
theorem mw60 : Cond.fieldLink RX9 32 "ReelChange$Text" "end" "I" ∈ wsL_law0 := mkT (mA10 (List.mem_of_getElem? (i := 11) rfl)) rfl
theorem mw61 : Cond.fieldLink RX9 35 "ReelChange$Text" "names" "[J" ∈ wsL_law0 := mkT (mA10 (List.mem_of_getElem? (i := 12) rfl)) rfl
theorem mw62 : Cond.classLink RX9 39 RX8 ∈ wsL_law0 := mkT (mA10 (List.mem_of_getElem? (i := 0) rfl)) rfl
theorem mw63 : Cond.instantiable RX8 4 ∈ wsL_law0 := mkT (mA3 (List.mem_of_getElem? (i := 3) rfl)) rfl
theorem mw64 : Cond.initialized RX8 ∈ wsL_law0 := mkT (mA0 (List.mem_of_getElem? (i := 5) rfl)) rfl
theorem mw65 : Cond.fieldLink RX9 44 "ReelChange$Text" "named" "LReelChange$Table;" ∈ wsL_law0 := mkT (mA10 (List.mem_of_getElem? (i := 13) rfl)) rfl
theorem mw66 : Cond.fieldLink RX9 48 "ReelChange$Text" "kind" "I" ∈ wsL_law0 := mkT (mA10 (List.mem_of_getElem? (i := 14) rfl)) rfl
theorem mw67 : Cond.fieldLink RX9 51 "ReelChange$Text" "start" "I" ∈ wsL_law0 := mkT (mA10 (List.mem_of_getElem? (i := 15) rfl)) rfl
theorem mw68 : Cond.fieldLink RX9 54 "ReelChange$Text" "position" "I" ∈ wsL_law0 := mkT (mA11 (List.mem_of_getElem? (i := 0) rfl)) rfl
theorem mw69 : Cond.fieldLink RX9 57 "ReelChange$Text" "value" "I" ∈ wsL_law0 := mkT (mA11 (List.mem_of_getElem? (i := 1) rfl)) rfl
theorem mw70 : Cond.fieldLink RX9 60 "ReelChange$Text" "letters" "J" ∈ wsL_law0 := mkT (mA11 (List.mem_of_getElem? (i := 2) rfl)) rfl
theorem mw71 : Cond.fieldLink RX9 64 "ReelChange$Text" "taken" "I" ∈ wsL_law0 := mkT (mA11 (List.mem_of_getElem? (i := 3) rfl)) rfl
theorem mw72 : Cond.fieldLink RX9 67 "ReelChange$Text" "takenAt" "I" ∈ wsL_law0 := mkT (mA11 (List.mem_of_getElem? (i := 4) rfl)) rfl
theorem mw73 : Cond.instanceMethod yX3_init ∈ wsL_law0 := mkT (mA2 (List.mem_of_getElem? (i := 9) rfl)) rfl
theorem mw74 : Cond.code yX3_init cX3_init 1 none ∈ wsL_law0 := mkT (mA2 (List.mem_of_getElem? (i := 10) rfl)) rfl
theorem mw75 : Cond.methodLink RX3 1 objectInit ∈ wsL_law0 := mkT (mA2 (List.mem_of_getElem? (i := 11) rfl)) rfl
theorem mw76 : Cond.classLink RX3 7 RX7 ∈ wsL_law0 := mkT (mA2 (List.mem_of_getElem? (i := 12) rfl)) rfl
theorem mw77 : Cond.fieldLink RX3 10 "ReelChange$House" "atFirst" "LReelChange$State;" ∈ wsL_law0 := mkT (mA7 (List.mem_of_getElem? (i := 6) rfl)) rfl
theorem mw78 : Cond.classLink RX3 16 RX8 ∈ wsL_law0 := mkT (mA7 (List.mem_of_getElem? (i := 4) rfl)) rfl
theorem mw79 : Cond.fieldLink RX3 21 "ReelChange$House" "numbers" "LReelChange$Table;" ∈ wsL_law0 := mkT (mA7 (List.mem_of_getElem? (i := 9) rfl)) rfl
theorem mw80 : Cond.fieldLink RX3 25 "ReelChange$House" "towns" "LReelChange$Table;" ∈ wsL_law0 := mkT (mA7 (List.mem_of_getElem? (i := 11) rfl)) rfl
theorem mw81 : Cond.fieldLink RX3 28 "ReelChange$House" "joins" "LReelChange$Table;" ∈ wsL_law0 := mkT (mA7 (List.mem_of_getElem? (i := 14) rfl)) rfl
theorem mw82 : Cond.fieldLink RX3 31 "ReelChange$House" "men" "LReelChange$Table;" ∈ wsL_law0 := mkT (mA8 (List.mem_of_getElem? (i := 1) rfl)) rfl
theorem mw83 : Cond.fieldLink RX3 34 "ReelChange$House" "boys" "LReelChange$Table;" ∈ wsL_law0 := mkT (mA8 (List.mem_of_getElem? (i := 5) rfl)) rfl
theorem mw84 : Cond.fieldLink RX3 37 "ReelChange$House" "signs" "LReelChange$Table;" ∈ wsL_law0 := mkT (mA8 (List.mem_of_getElem? (i := 8) rfl)) rfl
theorem mw85 : Cond.fieldLink RX3 40 "ReelChange$House" "scratches" "LReelChange$Table;" ∈ wsL_law0 := mkT (mA8 (List.mem_of_getElem? (i := 12) rfl)) rfl
theorem mw86 : Cond.instanceMethod yX7_init ∈ wsL_law0 := mkT (mA2 (List.mem_of_getElem? (i := 15) rfl)) rfl
theorem mw87 : Cond.code yX7_init cX7_init 1 none ∈ wsL_law0 := mkT (mA3 (List.mem_of_getElem? (i := 0) rfl)) rfl
theorem mw88 : Cond.methodLink RX7 3 objectInit ∈ wsL_law0 := mkT (mA3 (List.mem_of_getElem? (i := 1) rfl)) rfl
theorem mw89 : Cond.classLink RX7 9 RX8 ∈ wsL_law0 := mkT (mA3 (List.mem_of_getElem? (i := 2) rfl)) rfl
theorem mw90 : Cond.fieldLink RX7 14 "ReelChange$State" "reels" "LReelChange$Table;" ∈ wsL_law0 := mkT (mA5 (List.mem_of_getElem? (i := 2) rfl)) rfl
theorem mw91 : Cond.fieldLink RX7 20 "ReelChange$State" "marks" "LReelChange$Table;" ∈ wsL_law0 := mkT (mA5 (List.mem_of_getElem? (i := 7) rfl)) rfl
theorem mw92 : Cond.fieldLink RX7 23 "ReelChange$State" "weaks" "LReelChange$Table;" ∈ wsL_law0 := mkT (mA5 (List.mem_of_getElem? (i := 10) rfl)) rfl
theorem mw93 : Cond.fieldLink RX7 26 "ReelChange$State" "places" "LReelChange$Table;" ∈ wsL_law0 := mkT (mA5 (List.mem_of_getElem? (i := 14) rfl)) rfl
theorem mw94 : Cond.fieldLink RX7 29 "ReelChange$State" "mended" "I" ∈ wsL_law0 := mkT (mA6 (List.mem_of_getElem? (i := 3) rfl)) rfl
theorem mw95 : Cond.fieldLink RX7 33 "ReelChange$State" "trims" "I" ∈ wsL_law0 := mkT (mA6 (List.mem_of_getElem? (i := 5) rfl)) rfl
theorem mw96 : Cond.methodLink RX7 11 yX8_init ∈ wsL_law0 := mkT (mA3 (List.mem_of_getElem? (i := 4) rfl)) rfl
theorem mw97 : Cond.instanceMethod yX8_init ∈ wsL_law0 := mkT (mA3 (List.mem_of_getElem? (i := 5) rfl)) rfl
theorem mw98 : Cond.code yX8_init cX8_init 3 none ∈ wsL_law0 := mkT (mA3 (List.mem_of_getElem? (i := 6) rfl)) rfl
theorem mw99 : Cond.methodLink RX8 1 objectInit ∈ wsL_law0 := mkT (mA3 (List.mem_of_getElem? (i := 7) rfl)) rfl
theorem mw100 : Cond.fieldLink RX8 7 "ReelChange$Table" "count" "I" ∈ wsL_law0 := mkT (mA4 (List.mem_of_getElem? (i := 0) rfl)) rfl
theorem mw101 : Cond.methodLink RX8 13 Lib.Math.max.name ∈ wsL_law0 := mkT (mA3 (List.mem_of_getElem? (i := 8) rfl)) rfl
theorem mw102 : Cond.static Lib.Math.max.name ∈ wsL_law0 := mkT (mA3 (List.mem_of_getElem? (i := 9) rfl)) rfl
theorem mw103 : Cond.initialized "java/lang/Math" ∈ wsL_law0 := mkT (mA0 (List.mem_of_getElem? (i := 6) rfl)) rfl
theorem mw104 : Cond.code Lib.Math.max.name Lib.Math.max.code 2 (some .int) ∈ wsL_law0 := mkT (mA3 (List.mem_of_getElem? (i := 10) rfl)) rfl
theorem mw105 : Cond.fieldLink RX8 19 "ReelChange$Table" "room" "I" ∈ wsL_law0 := mkT (mA3 (List.mem_of_getElem? (i := 11) rfl)) rfl
theorem mw106 : Cond.fieldLink RX8 22 "ReelChange$Table" "width" "I" ∈ wsL_law0 := mkT (mA3 (List.mem_of_getElem? (i := 14) rfl)) rfl
theorem mw107 : Cond.arrayClass .int ∈ wsL_law0 := mkT (mA5 (List.mem_of_getElem? (i := 1) rfl)) rfl
theorem mw108 : Cond.fieldLink RX8 25 "ReelChange$Table" "cells" "[I" ∈ wsL_law0 := mkT (mA3 (List.mem_of_getElem? (i := 15) rfl)) rfl
theorem mw109 : Cond.methodLink RX3 18 yX8_init ∈ wsL_law0 := mkT (mA7 (List.mem_of_getElem? (i := 5) rfl)) rfl
theorem mw110 : Cond.methodLink RX9 41 yX8_init ∈ wsL_law0 := mkT (mA10 (List.mem_of_getElem? (i := 1) rfl)) rfl
theorem mw111 : Cond.methodLink RX10 32 yX4_init ∈ wsL_law0 := mkT (mA13 (List.mem_of_getElem? (i := 12) rfl)) rfl
theorem mw112 : Cond.instanceMethod yX4_init ∈ wsL_law0 := mkT (mA13 (List.mem_of_getElem? (i := 13) rfl)) rfl
theorem mw113 : Cond.code yX4_init cX4_init 2 none ∈ wsL_law0 := mkT (mA13 (List.mem_of_getElem? (i := 14) rfl)) rfl
theorem mw114 : Cond.methodLink RX4 3 objectInit ∈ wsL_law0 := mkT (mA13 (List.mem_of_getElem? (i := 15) rfl)) rfl
theorem mw115 : Cond.classLink RX4 11 RX7 ∈ wsL_law0 := mkT (mA14 (List.mem_of_getElem? (i := 0) rfl)) rfl
theorem mw116 : Cond.fieldLink RX4 13 "ReelChange$Kept" "ahead" "[LReelChange$State;" ∈ wsL_law0 := mkT (mA14 (List.mem_of_getElem? (i := 3) rfl)) rfl
theorem mw117 : Cond.fieldLink RX4 17 "ReelChange$Kept" "images" "[LReelChange$State;" ∈ wsL_law0 := mkT (mA14 (List.mem_of_getElem? (i := 4) rfl)) rfl
theorem mw118 : Cond.fieldLink RX4 20 "ReelChange$Kept" "acts" "I" ∈ wsL_law0 := mkT (mA14 (List.mem_of_getElem? (i := 5) rfl)) rfl
theorem mw119 : Cond.fieldLink RX4 24 "ReelChange$Kept" "next" "I" ∈ wsL_law0 := mkT (mA14 (List.mem_of_getElem? (i := 7) rfl)) rfl
theorem mw120 : Cond.fieldLink RX4 27 "ReelChange$Kept" "imaged" "I" ∈ wsL_law0 := mkT (mA14 (List.mem_of_getElem? (i := 8) rfl)) rfl
theorem mw121 : Cond.instanceMethod yX5_init ∈ wsL_law0 := mkT (mA15 (List.mem_of_getElem? (i := 8) rfl)) rfl
theorem mw122 : Cond.code yX5_init cX5_init 1 none ∈ wsL_law0 := mkT (mA15 (List.mem_of_getElem? (i := 9) rfl)) rfl
theorem mw123 : Cond.methodLink RX5 3 objectInit ∈ wsL_law0 := mkT (mA15 (List.mem_of_getElem? (i := 10) rfl)) rfl
theorem mw124 : Cond.classLink RX5 9 RX8 ∈ wsL_law0 := mkT (mA15 (List.mem_of_getElem? (i := 11) rfl)) rfl
theorem mw125 : Cond.fieldLink RX5 14 "ReelChange$Night" "rows" "LReelChange$Table;" ∈ wsL_law0 := mkT (mA15 (List.mem_of_getElem? (i := 13) rfl)) rfl
theorem mw126 : Cond.fieldLink RX5 20 "ReelChange$Night" "snapped" "I" ∈ wsL_law0 := mkT (mA16 (List.mem_of_getElem? (i := 1) rfl)) rfl
theorem mw127 : Cond.fieldLink RX5 24 "ReelChange$Night" "mostSlip" "I" ∈ wsL_law0 := mkT (mA16 (List.mem_of_getElem? (i := 3) rfl)) rfl
theorem mw128 : Cond.fieldLink RX5 27 "ReelChange$Night" "slip" "I" ∈ wsL_law0 := mkT (mA16 (List.mem_of_getElem? (i := 4) rfl)) rfl
theorem mw129 : Cond.fieldLink RX5 30 "ReelChange$Night" "isDrawn" "Z" ∈ wsL_law0 := mkT (mA16 (List.mem_of_getElem? (i := 5) rfl)) rfl
theorem mw130 : Cond.fieldLink RX5 34 "ReelChange$Night" "seed" "I" ∈ wsL_law0 := mkT (mA16 (List.mem_of_getElem? (i := 6) rfl)) rfl
theorem mw131 : Cond.fieldLink RX5 37 "ReelChange$Night" "tick" "I" ∈ wsL_law0 := mkT (mA16 (List.mem_of_getElem? (i := 7) rfl)) rfl
theorem mw132 : Cond.fieldLink RX5 40 "ReelChange$Night" "motorTick" "I" ∈ wsL_law0 := mkT (mA16 (List.mem_of_getElem? (i := 8) rfl)) rfl
theorem mw133 : Cond.fieldLink RX5 43 "ReelChange$Night" "ahead" "I" ∈ wsL_law0 := mkT (mA16 (List.mem_of_getElem? (i := 9) rfl)) rfl
theorem mw134 : Cond.methodLink RX5 11 yX8_init ∈ wsL_law0 := mkT (mA15 (List.mem_of_getElem? (i := 12) rfl)) rfl
theorem mw135 : Cond.instanceMethod yX0_init ∈ wsL_law0 := mkT (mA18 (List.mem_of_getElem? (i := 0) rfl)) rfl
theorem mw136 : Cond.code yX0_init cX0_init 1 none ∈ wsL_law0 := mkT (mA18 (List.mem_of_getElem? (i := 1) rfl)) rfl
theorem mw137 : Cond.methodLink RX0 3 objectInit ∈ wsL_law0 := mkT (mA18 (List.mem_of_getElem? (i := 2) rfl)) rfl
theorem mw138 : Cond.classLink RX0 9 RX8 ∈ wsL_law0 := mkT (mA18 (List.mem_of_getElem? (i := 3) rfl)) rfl
theorem mw139 : Cond.fieldLink RX0 14 "ReelChange$Arcs" "left" "LReelChange$Table;" ∈ wsL_law0 := mkT (mA18 (List.mem_of_getElem? (i := 5) rfl)) rfl
theorem mw140 : Cond.fieldLink RX0 20 "ReelChange$Arcs" "dying" "I" ∈ wsL_law0 := mkT (mA18 (List.mem_of_getElem? (i := 7) rfl)) rfl
theorem mw141 : Cond.methodLink RX0 11 yX8_init ∈ wsL_law0 := mkT (mA18 (List.mem_of_getElem? (i := 4) rfl)) rfl
theorem mw142 : Cond.instanceMethod yX6_init ∈ wsL_law0 := mkT (mA19 (List.mem_of_getElem? (i := 1) rfl)) rfl
theorem mw143 : Cond.code yX6_init cX6_init 1 none ∈ wsL_law0 := mkT (mA19 (List.mem_of_getElem? (i := 2) rfl)) rfl
theorem mw144 : Cond.methodLink RX6 3 objectInit ∈ wsL_law0 := mkT (mA19 (List.mem_of_getElem? (i := 3) rfl)) rfl
theorem mw145 : Cond.classLink RX6 9 RX8 ∈ wsL_law0 := mkT (mA19 (List.mem_of_getElem? (i := 4) rfl)) rfl
theorem mw146 : Cond.fieldLink RX6 14 "ReelChange$Riders" "backAt" "LReelChange$Table;" ∈ wsL_law0 := mkT (mA19 (List.mem_of_getElem? (i := 6) rfl)) rfl
theorem mw147 : Cond.fieldLink RX6 20 "ReelChange$Riders" "apartNeeded" "I" ∈ wsL_law0 := mkT (mA19 (List.mem_of_getElem? (i := 7) rfl)) rfl
theorem mw148 : Cond.fieldLink RX6 24 "ReelChange$Riders" "waited" "I" ∈ wsL_law0 := mkT (mA19 (List.mem_of_getElem? (i := 9) rfl)) rfl
theorem mw149 : Cond.methodLink RX6 11 yX8_init ∈ wsL_law0 := mkT (mA19 (List.mem_of_getElem? (i := 5) rfl)) rfl
theorem mw150 : Cond.instanceMethod yX1_init ∈ wsL_law0 := mkT (mA20 (List.mem_of_getElem? (i := 5) rfl)) rfl
theorem mw151 : Cond.code yX1_init cX1_init 1 none ∈ wsL_law0 := mkT (mA20 (List.mem_of_getElem? (i := 6) rfl)) rfl
theorem mw152 : Cond.methodLink RX1 3 objectInit ∈ wsL_law0 := mkT (mA20 (List.mem_of_getElem? (i := 7) rfl)) rfl
theorem mw153 : Cond.classLink RX1 9 RX8 ∈ wsL_law0 := mkT (mA20 (List.mem_of_getElem? (i := 8) rfl)) rfl
theorem mw154 : Cond.fieldLink RX1 16 "ReelChange$Exchanger" "inOrder" "LReelChange$Table;" ∈ wsL_law0 := mkT (mA20 (List.mem_of_getElem? (i := 10) rfl)) rfl
theorem mw155 : Cond.fieldLink RX1 20 "ReelChange$Exchanger" "parts" "LReelChange$Table;" ∈ wsL_law0 := mkT (mA20 (List.mem_of_getElem? (i := 11) rfl)) rfl
theorem mw156 : Cond.fieldLink RX1 23 "ReelChange$Exchanger" "surplus" "[J" ∈ wsL_law0 := mkT (mA20 (List.mem_of_getElem? (i := 12) rfl)) rfl
theorem mw157 : Cond.methodLink RX1 13 yX8_init ∈ wsL_law0 := mkT (mA20 (List.mem_of_getElem? (i := 9) rfl)) rfl
theorem mw158 : Cond.instanceMethod yX2_init ∈ wsL_law0 := mkT (mA21 (List.mem_of_getElem? (i := 7) rfl)) rfl
theorem mw159 : Cond.code yX2_init cX2_init 1 none ∈ wsL_law0 := mkT (mA21 (List.mem_of_getElem? (i := 8) rfl)) rfl
theorem mw160 : Cond.methodLink RX2 1 objectInit ∈ wsL_law0 := mkT (mA21 (List.mem_of_getElem? (i := 9) rfl)) rfl
theorem mw161 : Cond.fieldLink RX2 7 "ReelChange$Fraction" "upper" "J" ∈ wsL_law0 := mkT (mA21 (List.mem_of_getElem? (i := 10) rfl)) rfl
theorem mw162 : Cond.fieldLink RX2 13 "ReelChange$Fraction" "lower" "J" ∈ wsL_law0 := mkT (mA21 (List.mem_of_getElem? (i := 12) rfl)) rfl
theorem mw163 : Cond.methodLink RL 18 yX11_init ∈ wsL_law0 := mkT (mA78 (List.mem_of_getElem? (i := 3) rfl)) rfl
theorem mw164 : Cond.instanceMethod yX11_init ∈ wsL_law0 := mkT (mA78 (List.mem_of_getElem? (i := 4) rfl)) rfl
theorem mw165 : Cond.code yX11_init cX11_init 1 none ∈ wsL_law0 := mkT (mA78 (List.mem_of_getElem? (i := 5) rfl)) rfl
theorem mw166 : Cond.methodLink RX11 1 objectInit ∈ wsL_law0 := mkT (mA78 (List.mem_of_getElem? (i := 6) rfl)) rfl
theorem mw167 : Cond.fieldLink RX11 7 "ReelChangeModel" "tape" "[I" ∈ wsL_law0 := mkT (mA78 (List.mem_of_getElem? (i := 8) rfl)) rfl
theorem mw168 : Cond.fieldLink RX11 13 "ReelChangeModel" "place" "I" ∈ wsL_law0 := mkT (mA79 (List.mem_of_getElem? (i := 1) rfl)) rfl
theorem mw169 : Cond.fieldLink RX11 17 "ReelChangeModel" "letters" "[I" ∈ wsL_law0 := mkT (mA79 (List.mem_of_getElem? (i := 3) rfl)) rfl
theorem mw170 : Cond.fieldLink RX11 20 "ReelChangeModel" "\x72" "[I" ∈ wsL_law0 := mkT (mA79 (List.mem_of_getElem? (i := 6) rfl)) rfl
theorem mw171 : Cond.fieldLink RX11 23 "ReelChangeModel" "fresh" "[I" ∈ wsL_law0 := mkT (mA79 (List.mem_of_getElem? (i := 7) rfl)) rfl
theorem mw172 : Cond.fieldLink RX11 26 "ReelChangeModel" "st" "[I" ∈ wsL_law0 := mkT (mA79 (List.mem_of_getElem? (i := 8) rfl)) rfl
theorem mw173 : Cond.fieldLink RX11 29 "ReelChangeModel" "undone" "[I" ∈ wsL_law0 := mkT (mA79 (List.mem_of_getElem? (i := 9) rfl)) rfl
theorem mw174 : Cond.fieldLink RX11 32 "ReelChangeModel" "kept" "[I" ∈ wsL_law0 := mkT (mA79 (List.mem_of_getElem? (i := 10) rfl)) rfl
theorem mw175 : Cond.fieldLink RX11 35 "ReelChangeModel" "from" "[I" ∈ wsL_law0 := mkT (mA79 (List.mem_of_getElem? (i := 13) rfl)) rfl
theorem mw176 : Cond.fieldLink RX11 38 "ReelChangeModel" "begin" "[I" ∈ wsL_law0 := mkT (mA79 (List.mem_of_getElem? (i := 14) rfl)) rfl
theorem mw177 : Cond.fieldLink RX11 41 "ReelChangeModel" "motor" "[I" ∈ wsL_law0 := mkT (mA79 (List.mem_of_getElem? (i := 15) rfl)) rfl
theorem mw178 : Cond.fieldLink RX11 44 "ReelChangeModel" "change" "[I" ∈ wsL_law0 := mkT (mA80 (List.mem_of_getElem? (i := 0) rfl)) rfl
theorem mw179 : Cond.fieldLink RX11 47 "ReelChangeModel" "startFrame" "[I" ∈ wsL_law0 := mkT (mA80 (List.mem_of_getElem? (i := 1) rfl)) rfl
theorem mw180 : Cond.fieldLink RX11 50 "ReelChangeModel" "changeFrame" "[I" ∈ wsL_law0 := mkT (mA80 (List.mem_of_getElem? (i := 2) rfl)) rfl
theorem mw181 : Cond.fieldLink RX11 53 "ReelChangeModel" "lostAt" "[I" ∈ wsL_law0 := mkT (mA80 (List.mem_of_getElem? (i := 3) rfl)) rfl
theorem mw182 : Cond.fieldLink RX11 56 "ReelChangeModel" "blackAt" "[I" ∈ wsL_law0 := mkT (mA80 (List.mem_of_getElem? (i := 4) rfl)) rfl
theorem mw183 : Cond.fieldLink RX11 59 "ReelChangeModel" "slips" "[I" ∈ wsL_law0 := mkT (mA80 (List.mem_of_getElem? (i := 5) rfl)) rfl
theorem mw184 : Cond.fieldLink RX11 62 "ReelChangeModel" "leftArc" "[I" ∈ wsL_law0 := mkT (mA80 (List.mem_of_getElem? (i := 6) rfl)) rfl
theorem mw185 : Cond.fieldLink RX11 65 "ReelChangeModel" "died" "[I" ∈ wsL_law0 := mkT (mA80 (List.mem_of_getElem? (i := 7) rfl)) rfl
theorem mw186 : Cond.fieldLink RX11 68 "ReelChangeModel" "arcs" "[I" ∈ wsL_law0 := mkT (mA80 (List.mem_of_getElem? (i := 8) rfl)) rfl
theorem mw187 : Cond.fieldLink RX11 71 "ReelChangeModel" "there" "[I" ∈ wsL_law0 := mkT (mA80 (List.mem_of_getElem? (i := 12) rfl)) rfl
theorem mw188 : Cond.fieldLink RX11 74 "ReelChangeModel" "backAt" "[I" ∈ wsL_law0 := mkT (mA80 (List.mem_of_getElem? (i := 13) rfl)) rfl
theorem mw189 : Cond.fieldLink RX11 77 "ReelChangeModel" "sorted" "[I" ∈ wsL_law0 := mkT (mA80 (List.mem_of_getElem? (i := 14) rfl)) rfl
theorem mw190 : Cond.fieldLink RX11 80 "ReelChangeModel" "parts" "[I" ∈ wsL_law0 := mkT (mA80 (List.mem_of_getElem? (i := 15) rfl)) rfl
theorem mw191 : Cond.methodLink RL 19 yX10_feed ∈ wsL_law0 := mkT (mA24 (List.mem_of_getElem? (i := 2) rfl)) rfl
theorem mw192 : Cond.instanceMethod yX10_feed ∈ wsL_law0 := mkT (mA24 (List.mem_of_getElem? (i := 3) rfl)) rfl
theorem mw193 : Cond.selects RX10 yX10_feed yX10_feed ∈ wsL_law0 := mkT (mA24 (List.mem_of_getElem? (i := 4) rfl)) rfl
theorem mw194 : Cond.code yX10_feed cX10_feed 6 (some .int) ∈ wsL_law0 := mkT (mA24 (List.mem_of_getElem? (i := 5) rfl)) rfl
theorem mw195 : Cond.fieldLink RX10 76 "ReelChange$Text" "taped" "I" ∈ wsL_law0 := mkT (mA10 (List.mem_of_getElem? (i := 3) rfl)) rfl
theorem mw196 : Cond.methodLink RX10 79 yX9_write ∈ wsL_law0 := mkT (mA24 (List.mem_of_getElem? (i := 6) rfl)) rfl
theorem mw197 : Cond.instanceMethod yX9_write ∈ wsL_law0 := mkT (mA24 (List.mem_of_getElem? (i := 7) rfl)) rfl
theorem mw198 : Cond.selects RX9 yX9_write yX9_write ∈ wsL_law0 := mkT (mA24 (List.mem_of_getElem? (i := 8) rfl)) rfl
theorem mw199 : Cond.code yX9_write cX9_write 3 none ∈ wsL_law0 := mkT (mA24 (List.mem_of_getElem? (i := 9) rfl)) rfl
theorem mw200 : Cond.methodLink RL 23 yX11_feed ∈ wsL_law0 := mkT (mA86 (List.mem_of_getElem? (i := 9) rfl)) rfl
theorem mw201 : Cond.instanceMethod yX11_feed ∈ wsL_law0 := mkT (mA86 (List.mem_of_getElem? (i := 10) rfl)) rfl
theorem mw202 : Cond.selects RX11 yX11_feed yX11_feed ∈ wsL_law0 := mkT (mA86 (List.mem_of_getElem? (i := 11) rfl)) rfl
theorem mw203 : Cond.code yX11_feed cX11_feed 8 (some .int) ∈ wsL_law0 := mkT (mA86 (List.mem_of_getElem? (i := 12) rfl)) rfl
theorem mw204 : Cond.fieldLink RX11 83 "ReelChangeModel" "thrown" "I" ∈ wsL_law0 := mkT (mA78 (List.mem_of_getElem? (i := 7) rfl)) rfl
theorem mw205 : Cond.fieldLink RX11 89 "ReelChangeModel" "taped" "I" ∈ wsL_law0 := mkT (mA78 (List.mem_of_getElem? (i := 9) rfl)) rfl
theorem mw206 : Cond.methodLink RL 24 yX10_house ∈ wsL_law0 := mkT (mA24 (List.mem_of_getElem? (i := 10) rfl)) rfl
theorem mw207 : Cond.instanceMethod yX10_house ∈ wsL_law0 := mkT (mA24 (List.mem_of_getElem? (i := 11) rfl)) rfl
theorem mw208 : Cond.selects RX10 yX10_house yX10_house ∈ wsL_law0 := mkT (mA24 (List.mem_of_getElem? (i := 12) rfl)) rfl
theorem mw209 : Cond.code yX10_house cX10_house 2 (some .int) ∈ wsL_law0 := mkT (mA24 (List.mem_of_getElem? (i := 13) rfl)) rfl
theorem mw210 : Cond.fieldLink RX10 90 "ReelChange$Text" "faultNumber" "I" ∈ wsL_law0 := mkT (mA10 (List.mem_of_getElem? (i := 7) rfl)) rfl
theorem mw211 : Cond.fieldLink RX10 93 "ReelChange$Text" "house" "LReelChange$House;" ∈ wsL_law0 := mkT (mA10 (List.mem_of_getElem? (i := 5) rfl)) rfl
theorem mw212 : Cond.fieldLink RX10 100 "ReelChange$House" "atFirst" "LReelChange$State;" ∈ wsL_law0 := mkT (mA7 (List.mem_of_getElem? (i := 7) rfl)) rfl
theorem mw213 : Cond.fieldLink RX10 109 "ReelChange$State" "places" "LReelChange$Table;" ∈ wsL_law0 := mkT (mA6 (List.mem_of_getElem? (i := 1) rfl)) rfl
theorem mw214 : Cond.fieldLink RX10 113 "ReelChange$Table" "count" "I" ∈ wsL_law0 := mkT (mA4 (List.mem_of_getElem? (i := 5) rfl)) rfl
theorem mw215 : Cond.methodLink RX10 83 yX10_refuse ∈ wsL_law0 := mkT (mA24 (List.mem_of_getElem? (i := 14) rfl)) rfl
theorem mw216 : Cond.instanceMethod yX10_refuse ∈ wsL_law0 := mkT (mA25 (List.mem_of_getElem? (i := 0) rfl)) rfl
theorem mw217 : Cond.selects RX10 yX10_refuse yX10_refuse ∈ wsL_law0 := mP0 (y := yX10_refuse) (n := 10) (List.mem_of_getElem? (i := 0) rfl)
theorem mw218 : Cond.code yX10_refuse cX10_refuse 2 (some .int) ∈ wsL_law0 := mkT (mA25 (List.mem_of_getElem? (i := 1) rfl)) rfl
theorem mw219 : Cond.methodLink RX10 87 yX9_read ∈ wsL_law0 := mkT (mA25 (List.mem_of_getElem? (i := 2) rfl)) rfl
theorem mw220 : Cond.instanceMethod yX9_read ∈ wsL_law0 := mkT (mA25 (List.mem_of_getElem? (i := 3) rfl)) rfl
theorem mw221 : Cond.selects RX9 yX9_read yX9_read ∈ wsL_law0 := mkT (mA25 (List.mem_of_getElem? (i := 4) rfl)) rfl
theorem mw222 : Cond.code yX9_read cX9_read 4 none ∈ wsL_law0 := mkT (mA25 (List.mem_of_getElem? (i := 5) rfl)) rfl
theorem mw223 : Cond.methodLink RX9 70 yX3_clear ∈ wsL_law0 := mkT (mA25 (List.mem_of_getElem? (i := 6) rfl)) rfl
theorem mw224 : Cond.instanceMethod yX3_clear ∈ wsL_law0 := mkT (mA25 (List.mem_of_getElem? (i := 7) rfl)) rfl
theorem mw225 : Cond.selects RX3 yX3_clear yX3_clear ∈ wsL_law0 := mkT (mA25 (List.mem_of_getElem? (i := 8) rfl)) rfl
theorem mw226 : Cond.code yX3_clear cX3_clear 1 none ∈ wsL_law0 := mkT (mA25 (List.mem_of_getElem? (i := 9) rfl)) rfl
theorem mw227 : Cond.methodLink RX3 47 yX7_clear ∈ wsL_law0 := mkT (mA25 (List.mem_of_getElem? (i := 10) rfl)) rfl
theorem mw228 : Cond.instanceMethod yX7_clear ∈ wsL_law0 := mkT (mA25 (List.mem_of_getElem? (i := 11) rfl)) rfl
theorem mw229 : Cond.selects RX7 yX7_clear yX7_clear ∈ wsL_law0 := mkT (mA25 (List.mem_of_getElem? (i := 12) rfl)) rfl
theorem mw230 : Cond.code yX7_clear cX7_clear 1 none ∈ wsL_law0 := mkT (mA25 (List.mem_of_getElem? (i := 13) rfl)) rfl
theorem mw231 : Cond.methodLink RX7 36 yX8_clear ∈ wsL_law0 := mkT (mA25 (List.mem_of_getElem? (i := 14) rfl)) rfl
theorem mw232 : Cond.instanceMethod yX8_clear ∈ wsL_law0 := mkT (mA25 (List.mem_of_getElem? (i := 15) rfl)) rfl
theorem mw233 : Cond.selects RX8 yX8_clear yX8_clear ∈ wsL_law0 := mkT (mA26 (List.mem_of_getElem? (i := 0) rfl)) rfl
theorem mw234 : Cond.code yX8_clear cX8_clear 1 none ∈ wsL_law0 := mkT (mA26 (List.mem_of_getElem? (i := 1) rfl)) rfl
theorem mw235 : Cond.methodLink RX3 50 yX8_clear ∈ wsL_law0 := mkT (mA26 (List.mem_of_getElem? (i := 2) rfl)) rfl
theorem mw236 : Cond.methodLink RX9 73 yX8_clear ∈ wsL_law0 := mkT (mA26 (List.mem_of_getElem? (i := 3) rfl)) rfl
theorem mw237 : Cond.methodLink RX9 74 yX9_next ∈ wsL_law0 := mkT (mA26 (List.mem_of_getElem? (i := 4) rfl)) rfl
theorem mw238 : Cond.instanceMethod yX9_next ∈ wsL_law0 := mkT (mA26 (List.mem_of_getElem? (i := 6) rfl)) rfl
theorem mw239 : Cond.selects RX9 yX9_next yX9_next ∈ wsL_law0 := mP0 (y := yX9_next) (n := 15) (List.mem_of_getElem? (i := 1) rfl)
theorem mw240 : Cond.code yX9_next cX9_next 1 none ∈ wsL_law0 := mkT (mA26 (List.mem_of_getElem? (i := 7) rfl)) rfl
theorem mw241 : Cond.constantLong RX9 301 (27) ∈ wsL_law0 := mkT (mA26 (List.mem_of_getElem? (i := 12) rfl)) rfl
theorem mw242 : Cond.methodLink RX9 298 yX9_kindAt ∈ wsL_law0 := mkT (mA26 (List.mem_of_getElem? (i := 8) rfl)) rfl
theorem mw243 : Cond.instanceMethod yX9_kindAt ∈ wsL_law0 := mkT (mA26 (List.mem_of_getElem? (i := 10) rfl)) rfl
theorem mw244 : Cond.selects RX9 yX9_kindAt yX9_kindAt ∈ wsL_law0 := mP0 (y := yX9_kindAt) (n := 15) (List.mem_of_getElem? (i := 2) rfl)
theorem mw245 : Cond.code yX9_kindAt cX9_kindAt 3 (some .int) ∈ wsL_law0 := mkT (mA26 (List.mem_of_getElem? (i := 11) rfl)) rfl
theorem mw246 : Cond.methodLink RX9 77 yX9_isLine ∈ wsL_law0 := mkT (mA26 (List.mem_of_getElem? (i := 13) rfl)) rfl
theorem mw247 : Cond.instanceMethod yX9_isLine ∈ wsL_law0 := mkT (mA26 (List.mem_of_getElem? (i := 15) rfl)) rfl
theorem mw248 : Cond.selects RX9 yX9_isLine yX9_isLine ∈ wsL_law0 := mP0 (y := yX9_isLine) (n := 15) (List.mem_of_getElem? (i := 3) rfl)
theorem mw249 : Cond.code yX9_isLine cX9_isLine 1 (some .boolean) ∈ wsL_law0 := mkT (mA27 (List.mem_of_getElem? (i := 0) rfl)) rfl
theorem mw250 : Cond.fieldLink RX9 116 "ReelChange$House" "numbers" "LReelChange$Table;" ∈ wsL_law0 := mkT (mA7 (List.mem_of_getElem? (i := 10) rfl)) rfl
theorem mw251 : Cond.fieldLink RX9 97 "ReelChange$Table" "count" "I" ∈ wsL_law0 := mkT (mA4 (List.mem_of_getElem? (i := 6) rfl)) rfl
theorem mw252 : Cond.methodLink RX9 104 yX9_is ∈ wsL_law0 := mkT (mA27 (List.mem_of_getElem? (i := 2) rfl)) rfl
theorem mw253 : Cond.instanceMethod yX9_is ∈ wsL_law0 := mkT (mA27 (List.mem_of_getElem? (i := 4) rfl)) rfl
theorem mw254 : Cond.selects RX9 yX9_is yX9_is ∈ wsL_law0 := mP0 (y := yX9_is) (n := 15) (List.mem_of_getElem? (i := 4) rfl)
theorem mw255 : Cond.code yX9_is cX9_is 3 (some .boolean) ∈ wsL_law0 := mkT (mA27 (List.mem_of_getElem? (i := 5) rfl)) rfl
theorem mw256 : Cond.methodLink RX9 289 yJ0_length_8abf5 ∈ wsL_law0 := mkT (mA27 (List.mem_of_getElem? (i := 6) rfl)) rfl
theorem mw257 : Cond.instanceMethod yJ0_length_8abf5 ∈ wsL_law0 := mkT (mA27 (List.mem_of_getElem? (i := 7) rfl)) rfl
theorem mw258 : Cond.selects RJ0 yJ0_length_8abf5 yJ0_length_8abf5 ∈ wsL_law0 := mkT (mA27 (List.mem_of_getElem? (i := 8) rfl)) rfl
theorem mw259 : Cond.initialized RJ0 ∈ wsL_law0 := mkT (mA0 (List.mem_of_getElem? (i := 14) rfl)) rfl
theorem mw260 : Cond.code yJ0_length_8abf5 cJ0_length_8abf5 1 (some .int) ∈ wsL_law0 := mkT (mA27 (List.mem_of_getElem? (i := 9) rfl)) rfl
theorem mw261 : Cond.fieldLink RJ0 9 "java/lang/String" "value" "[B" ∈ wsL_law0 := mkT (mA123 (List.mem_of_getElem? (i := 6) rfl)) rfl
theorem mw262 : Cond.methodLink RJ0 335 yJ0_coder_7d493 ∈ wsL_law0 := mkT (mA27 (List.mem_of_getElem? (i := 10) rfl)) rfl
theorem mw263 : Cond.instanceMethod yJ0_coder_7d493 ∈ wsL_law0 := mkT (mA27 (List.mem_of_getElem? (i := 11) rfl)) rfl
theorem mw264 : Cond.selects RJ0 yJ0_coder_7d493 yJ0_coder_7d493 ∈ wsL_law0 := mkT (mA27 (List.mem_of_getElem? (i := 12) rfl)) rfl
theorem mw265 : Cond.code yJ0_coder_7d493 cJ0_coder_7d493 1 (some .byte) ∈ wsL_law0 := mkT (mA27 (List.mem_of_getElem? (i := 13) rfl)) rfl
theorem mw266 : Cond.fieldLink RJ0 38 "java/lang/String" "COMPACT_STRINGS" "Z" ∈ wsL_law0 := mkT (mA27 (List.mem_of_getElem? (i := 14) rfl)) rfl
theorem mw267 : Cond.fieldLink RJ0 15 "java/lang/String" "coder" "B" ∈ wsL_law0 := mkT (mA123 (List.mem_of_getElem? (i := 7) rfl)) rfl
theorem mw268 : Cond.methodLink RX9 294 yJ0_charAt_5068e ∈ wsL_law0 := mkT (mA28 (List.mem_of_getElem? (i := 0) rfl)) rfl
theorem mw269 : Cond.instanceMethod yJ0_charAt_5068e ∈ wsL_law0 := mkT (mA28 (List.mem_of_getElem? (i := 1) rfl)) rfl
theorem mw270 : Cond.selects RJ0 yJ0_charAt_5068e yJ0_charAt_5068e ∈ wsL_law0 := mkT (mA28 (List.mem_of_getElem? (i := 2) rfl)) rfl
theorem mw271 : Cond.code yJ0_charAt_5068e cJ0_charAt_5068e 2 (some .char) ∈ wsL_law0 := mkT (mA28 (List.mem_of_getElem? (i := 3) rfl)) rfl
theorem mw272 : Cond.methodLink RJ0 492 yJ0_isLatin1_aae02 ∈ wsL_law0 := mkT (mA28 (List.mem_of_getElem? (i := 4) rfl)) rfl
theorem mw273 : Cond.instanceMethod yJ0_isLatin1_aae02 ∈ wsL_law0 := mkT (mA28 (List.mem_of_getElem? (i := 5) rfl)) rfl
theorem mw274 : Cond.selects RJ0 yJ0_isLatin1_aae02 yJ0_isLatin1_aae02 ∈ wsL_law0 := mkT (mA28 (List.mem_of_getElem? (i := 6) rfl)) rfl
theorem mw275 : Cond.code yJ0_isLatin1_aae02 cJ0_isLatin1_aae02 1 (some .boolean) ∈ wsL_law0 := mkT (mA28 (List.mem_of_getElem? (i := 7) rfl)) rfl
theorem mw276 : Cond.methodLink RJ0 495 yJ1_charAt_3b067 ∈ wsL_law0 := mkT (mA28 (List.mem_of_getElem? (i := 8) rfl)) rfl
theorem mw277 : Cond.static yJ1_charAt_3b067 ∈ wsL_law0 := mkT (mA28 (List.mem_of_getElem? (i := 9) rfl)) rfl
theorem mw278 : Cond.initialized RJ1 ∈ wsL_law0 := mkT (mA0 (List.mem_of_getElem? (i := 15) rfl)) rfl
theorem mw279 : Cond.code yJ1_charAt_3b067 cJ1_charAt_3b067 2 (some .char) ∈ wsL_law0 := mkT (mA28 (List.mem_of_getElem? (i := 10) rfl)) rfl
theorem mw280 : Cond.methodLink RJ1 9 yJ0_checkIndex_df160 ∈ wsL_law0 := mkT (mA28 (List.mem_of_getElem? (i := 11) rfl)) rfl
theorem mw281 : Cond.static yJ0_checkIndex_df160 ∈ wsL_law0 := mkT (mA28 (List.mem_of_getElem? (i := 12) rfl)) rfl
theorem mw282 : Cond.code yJ0_checkIndex_df160 cJ0_checkIndex_df160 2 none ∈ wsL_law0 := mkT (mA28 (List.mem_of_getElem? (i := 13) rfl)) rfl
theorem mw283 : Cond.fieldLink RJ0 1053 "jdk/internal/util/Preconditions" "SIOOBE_FORMATTER" "Ljava/util/function/BiFunction;" ∈ wsL_law0 := mkT (mA28 (List.mem_of_getElem? (i := 14) rfl)) rfl
theorem mw284 : Cond.methodLink RJ0 1059 yJ3_checkIndex_8e157 ∈ wsL_law0 := mkT (mA29 (List.mem_of_getElem? (i := 0) rfl)) rfl
theorem mw285 : Cond.static yJ3_checkIndex_8e157 ∈ wsL_law0 := mkT (mA29 (List.mem_of_getElem? (i := 1) rfl)) rfl
theorem mw286 : Cond.initialized RJ3 ∈ wsL_law0 := mkT (mA1 (List.mem_of_getElem? (i := 0) rfl)) rfl
theorem mw287 : Cond.code yJ3_checkIndex_8e157 cJ3_checkIndex_8e157 3 (some .int) ∈ wsL_law0 := mkT (mA29 (List.mem_of_getElem? (i := 2) rfl)) rfl
theorem mw305 : Cond.methodLink RX9 108 yX9_isHouseLine ∈ wsL_law0 := mkT (mA30 (List.mem_of_getElem? (i := 6) rfl)) rfl
theorem mw306 : Cond.instanceMethod yX9_isHouseLine ∈ wsL_law0 := mkT (mA30 (List.mem_of_getElem? (i := 8) rfl)) rfl
theorem mw307 : Cond.selects RX9 yX9_isHouseLine yX9_isHouseLine ∈ wsL_law0 := mP0 (y := yX9_isHouseLine) (n := 15) (List.mem_of_getElem? (i := 5) rfl)
theorem mw308 : Cond.code yX9_isHouseLine cX9_isHouseLine 1 (some .boolean) ∈ wsL_law0 := mkT (mA30 (List.mem_of_getElem? (i := 9) rfl)) rfl
theorem mw309 : Cond.methodLink RX9 84 yX9_refuseAt ∈ wsL_law0 := mkT (mA30 (List.mem_of_getElem? (i := 10) rfl)) rfl
theorem mw310 : Cond.instanceMethod yX9_refuseAt ∈ wsL_law0 := mkT (mA30 (List.mem_of_getElem? (i := 12) rfl)) rfl
theorem mw311 : Cond.selects RX9 yX9_refuseAt yX9_refuseAt ∈ wsL_law0 := mP0 (y := yX9_refuseAt) (n := 15) (List.mem_of_getElem? (i := 6) rfl)
theorem mw312 : Cond.code yX9_refuseAt cX9_refuseAt 3 (some .boolean) ∈ wsL_law0 := mkT (mA30 (List.mem_of_getElem? (i := 13) rfl)) rfl
theorem mw313 : Cond.methodLink RX9 169 yX9_isNumber ∈ wsL_law0 := mkT (mA30 (List.mem_of_getElem? (i := 15) rfl)) rfl
theorem mw314 : Cond.instanceMethod yX9_isNumber ∈ wsL_law0 := mkT (mA31 (List.mem_of_getElem? (i := 1) rfl)) rfl
theorem mw315 : Cond.selects RX9 yX9_isNumber yX9_isNumber ∈ wsL_law0 := mP0 (y := yX9_isNumber) (n := 15) (List.mem_of_getElem? (i := 7) rfl)
theorem mw316 : Cond.code yX9_isNumber cX9_isNumber 5 (some .boolean) ∈ wsL_law0 := mkT (mA31 (List.mem_of_getElem? (i := 2) rfl)) rfl
theorem mw317 : Cond.methodLink RX9 183 yX9_isLabel ∈ wsL_law0 := mkT (mA31 (List.mem_of_getElem? (i := 3) rfl)) rfl
theorem mw318 : Cond.instanceMethod yX9_isLabel ∈ wsL_law0 := mkT (mA31 (List.mem_of_getElem? (i := 5) rfl)) rfl
theorem mw319 : Cond.selects RX9 yX9_isLabel yX9_isLabel ∈ wsL_law0 := mP0 (y := yX9_isLabel) (n := 15) (List.mem_of_getElem? (i := 8) rfl)
theorem mw320 : Cond.code yX9_isLabel cX9_isLabel 2 (some .boolean) ∈ wsL_law0 := mkT (mA31 (List.mem_of_getElem? (i := 6) rfl)) rfl
theorem mw321 : Cond.methodLink RX9 186 yX9_isWhole ∈ wsL_law0 := mkT (mA31 (List.mem_of_getElem? (i := 7) rfl)) rfl
theorem mw322 : Cond.instanceMethod yX9_isWhole ∈ wsL_law0 := mkT (mA31 (List.mem_of_getElem? (i := 9) rfl)) rfl
theorem mw323 : Cond.selects RX9 yX9_isWhole yX9_isWhole ∈ wsL_law0 := mP0 (y := yX9_isWhole) (n := 15) (List.mem_of_getElem? (i := 9) rfl)
theorem mw324 : Cond.code yX9_isWhole cX9_isWhole 3 (some .boolean) ∈ wsL_law0 := mkT (mA31 (List.mem_of_getElem? (i := 10) rfl)) rfl
theorem mw325 : Cond.methodLink RX9 189 yX8_put ∈ wsL_law0 := mkT (mA31 (List.mem_of_getElem? (i := 11) rfl)) rfl
theorem mw326 : Cond.instanceMethod yX8_put ∈ wsL_law0 := mkT (mA31 (List.mem_of_getElem? (i := 12) rfl)) rfl
theorem mw327 : Cond.selects RX8 yX8_put yX8_put ∈ wsL_law0 := mkT (mA31 (List.mem_of_getElem? (i := 13) rfl)) rfl
theorem mw328 : Cond.code yX8_put cX8_put 4 none ∈ wsL_law0 := mkT (mA31 (List.mem_of_getElem? (i := 14) rfl)) rfl
theorem mw329 : Cond.methodLink RX9 113 yX9_isReserved ∈ wsL_law0 := mkT (mA32 (List.mem_of_getElem? (i := 5) rfl)) rfl
theorem mw330 : Cond.instanceMethod yX9_isReserved ∈ wsL_law0 := mkT (mA32 (List.mem_of_getElem? (i := 7) rfl)) rfl
theorem mw331 : Cond.selects RX9 yX9_isReserved yX9_isReserved ∈ wsL_law0 := mP0 (y := yX9_isReserved) (n := 15) (List.mem_of_getElem? (i := 10) rfl)
theorem mw332 : Cond.code yX9_isReserved cX9_isReserved 1 (some .boolean) ∈ wsL_law0 := mkT (mA32 (List.mem_of_getElem? (i := 8) rfl)) rfl
theorem mw333 : Cond.methodLink RX9 121 yX9_isReelLine ∈ wsL_law0 := mkT (mA33 (List.mem_of_getElem? (i := 3) rfl)) rfl
theorem mw334 : Cond.instanceMethod yX9_isReelLine ∈ wsL_law0 := mkT (mA33 (List.mem_of_getElem? (i := 5) rfl)) rfl
theorem mw335 : Cond.selects RX9 yX9_isReelLine yX9_isReelLine ∈ wsL_law0 := mP0 (y := yX9_isReelLine) (n := 15) (List.mem_of_getElem? (i := 11) rfl)
theorem mw336 : Cond.code yX9_isReelLine cX9_isReelLine 4 (some .boolean) ∈ wsL_law0 := mkT (mA33 (List.mem_of_getElem? (i := 6) rfl)) rfl
theorem mw337 : Cond.fieldLink RX9 88 "ReelChange$House" "atFirst" "LReelChange$State;" ∈ wsL_law0 := mkT (mA7 (List.mem_of_getElem? (i := 8) rfl)) rfl
theorem mw338 : Cond.fieldLink RX9 193 "ReelChange$State" "reels" "LReelChange$Table;" ∈ wsL_law0 := mkT (mA5 (List.mem_of_getElem? (i := 6) rfl)) rfl
theorem mw339 : Cond.methodLink RX9 196 yX9_hasRoom ∈ wsL_law0 := mkT (mA33 (List.mem_of_getElem? (i := 7) rfl)) rfl
theorem mw340 : Cond.instanceMethod yX9_hasRoom ∈ wsL_law0 := mkT (mA33 (List.mem_of_getElem? (i := 9) rfl)) rfl
theorem mw341 : Cond.selects RX9 yX9_hasRoom yX9_hasRoom ∈ wsL_law0 := mP0 (y := yX9_hasRoom) (n := 15) (List.mem_of_getElem? (i := 12) rfl)
theorem mw342 : Cond.code yX9_hasRoom cX9_hasRoom 2 (some .boolean) ∈ wsL_law0 := mkT (mA33 (List.mem_of_getElem? (i := 10) rfl)) rfl
theorem mw343 : Cond.methodLink RX9 262 yX8_isFull ∈ wsL_law0 := mkT (mA33 (List.mem_of_getElem? (i := 11) rfl)) rfl
theorem mw344 : Cond.instanceMethod yX8_isFull ∈ wsL_law0 := mkT (mA33 (List.mem_of_getElem? (i := 12) rfl)) rfl
theorem mw345 : Cond.selects RX8 yX8_isFull yX8_isFull ∈ wsL_law0 := mkT (mA33 (List.mem_of_getElem? (i := 13) rfl)) rfl
theorem mw346 : Cond.code yX8_isFull cX8_isFull 1 (some .boolean) ∈ wsL_law0 := mkT (mA33 (List.mem_of_getElem? (i := 14) rfl)) rfl
theorem mw347 : Cond.methodLink RX9 200 yX9_isNewName ∈ wsL_law0 := mkT (mA33 (List.mem_of_getElem? (i := 15) rfl)) rfl
theorem mw348 : Cond.instanceMethod yX9_isNewName ∈ wsL_law0 := mkT (mA34 (List.mem_of_getElem? (i := 1) rfl)) rfl
theorem mw349 : Cond.selects RX9 yX9_isNewName yX9_isNewName ∈ wsL_law0 := mP0 (y := yX9_isNewName) (n := 15) (List.mem_of_getElem? (i := 13) rfl)
theorem mw350 : Cond.code yX9_isNewName cX9_isNewName 4 (some .boolean) ∈ wsL_law0 := mkT (mA34 (List.mem_of_getElem? (i := 2) rfl)) rfl
theorem mw351 : Cond.methodLink RX9 284 yX9_findName ∈ wsL_law0 := mkT (mA34 (List.mem_of_getElem? (i := 3) rfl)) rfl
theorem mw352 : Cond.instanceMethod yX9_findName ∈ wsL_law0 := mkT (mA34 (List.mem_of_getElem? (i := 5) rfl)) rfl
theorem mw353 : Cond.selects RX9 yX9_findName yX9_findName ∈ wsL_law0 := mP0 (y := yX9_findName) (n := 15) (List.mem_of_getElem? (i := 14) rfl)
theorem mw354 : Cond.code yX9_findName cX9_findName 2 (some .int) ∈ wsL_law0 := mkT (mA34 (List.mem_of_getElem? (i := 6) rfl)) rfl
theorem mw355 : Cond.methodLink RX9 209 yX8_add ∈ wsL_law0 := mkT (mA34 (List.mem_of_getElem? (i := 7) rfl)) rfl
theorem mw356 : Cond.instanceMethod yX8_add ∈ wsL_law0 := mkT (mA34 (List.mem_of_getElem? (i := 8) rfl)) rfl
theorem mw357 : Cond.selects RX8 yX8_add yX8_add ∈ wsL_law0 := mkT (mA34 (List.mem_of_getElem? (i := 9) rfl)) rfl
theorem mw358 : Cond.code yX8_add cX8_add 4 none ∈ wsL_law0 := mkT (mA34 (List.mem_of_getElem? (i := 10) rfl)) rfl
theorem mw359 : Cond.methodLink RX8 29 yX8_isFull ∈ wsL_law0 := mkT (mA34 (List.mem_of_getElem? (i := 11) rfl)) rfl
theorem mw360 : Cond.methodLink RX8 33 yX8_put ∈ wsL_law0 := mkT (mA34 (List.mem_of_getElem? (i := 12) rfl)) rfl
theorem mw361 : Cond.methodLink RX9 126 yX9_isTownLine ∈ wsL_law0 := mkT (mA35 (List.mem_of_getElem? (i := 0) rfl)) rfl
theorem mw362 : Cond.instanceMethod yX9_isTownLine ∈ wsL_law0 := mkT (mA35 (List.mem_of_getElem? (i := 2) rfl)) rfl
theorem mw363 : Cond.selects RX9 yX9_isTownLine yX9_isTownLine ∈ wsL_law0 := mP0 (y := yX9_isTownLine) (n := 15) (List.mem_of_getElem? (i := 15) rfl)
theorem mw364 : Cond.code yX9_isTownLine cX9_isTownLine 1 (some .boolean) ∈ wsL_law0 := mkT (mA35 (List.mem_of_getElem? (i := 3) rfl)) rfl
theorem mw365 : Cond.fieldLink RX9 212 "ReelChange$House" "towns" "LReelChange$Table;" ∈ wsL_law0 := mkT (mA7 (List.mem_of_getElem? (i := 13) rfl)) rfl
theorem mw366 : Cond.methodLink RX9 131 yX9_isMarkLine ∈ wsL_law0 := mkT (mA35 (List.mem_of_getElem? (i := 5) rfl)) rfl
theorem mw367 : Cond.instanceMethod yX9_isMarkLine ∈ wsL_law0 := mkT (mA35 (List.mem_of_getElem? (i := 7) rfl)) rfl
theorem mw368 : Cond.selects RX9 yX9_isMarkLine yX9_isMarkLine ∈ wsL_law0 := mP1 (y := yX9_isMarkLine) (n := 15) (List.mem_of_getElem? (i := 0) rfl)
theorem mw369 : Cond.code yX9_isMarkLine cX9_isMarkLine 4 (some .boolean) ∈ wsL_law0 := mkT (mA35 (List.mem_of_getElem? (i := 8) rfl)) rfl
theorem mw370 : Cond.fieldLink RX9 217 "ReelChange$State" "marks" "LReelChange$Table;" ∈ wsL_law0 := mkT (mA5 (List.mem_of_getElem? (i := 9) rfl)) rfl
theorem mw371 : Cond.methodLink RX9 220 yX9_isOldName ∈ wsL_law0 := mkT (mA35 (List.mem_of_getElem? (i := 9) rfl)) rfl
theorem mw372 : Cond.instanceMethod yX9_isOldName ∈ wsL_law0 := mkT (mA35 (List.mem_of_getElem? (i := 11) rfl)) rfl
theorem mw373 : Cond.selects RX9 yX9_isOldName yX9_isOldName ∈ wsL_law0 := mP1 (y := yX9_isOldName) (n := 15) (List.mem_of_getElem? (i := 1) rfl)
theorem mw374 : Cond.code yX9_isOldName cX9_isOldName 3 (some .boolean) ∈ wsL_law0 := mkT (mA35 (List.mem_of_getElem? (i := 12) rfl)) rfl
theorem mw375 : Cond.methodLink RX9 240 yX8_at ∈ wsL_law0 := mkT (mA35 (List.mem_of_getElem? (i := 13) rfl)) rfl
theorem mw376 : Cond.instanceMethod yX8_at ∈ wsL_law0 := mkT (mA35 (List.mem_of_getElem? (i := 14) rfl)) rfl
theorem mw377 : Cond.selects RX8 yX8_at yX8_at ∈ wsL_law0 := mkT (mA35 (List.mem_of_getElem? (i := 15) rfl)) rfl
theorem mw378 : Cond.code yX8_at cX8_at 3 (some .int) ∈ wsL_law0 := mkT (mA36 (List.mem_of_getElem? (i := 0) rfl)) rfl
theorem mw379 : Cond.methodLink RX9 224 yX9_lastFrame ∈ wsL_law0 := mkT (mA36 (List.mem_of_getElem? (i := 1) rfl)) rfl
theorem mw380 : Cond.instanceMethod yX9_lastFrame ∈ wsL_law0 := mkT (mA36 (List.mem_of_getElem? (i := 3) rfl)) rfl
theorem mw381 : Cond.selects RX9 yX9_lastFrame yX9_lastFrame ∈ wsL_law0 := mP1 (y := yX9_lastFrame) (n := 15) (List.mem_of_getElem? (i := 2) rfl)
theorem mw382 : Cond.code yX9_lastFrame cX9_lastFrame 2 (some .int) ∈ wsL_law0 := mkT (mA36 (List.mem_of_getElem? (i := 4) rfl)) rfl
theorem mw383 : Cond.methodLink RX9 228 yX7_markBy ∈ wsL_law0 := mkT (mA36 (List.mem_of_getElem? (i := 5) rfl)) rfl
theorem mw384 : Cond.instanceMethod yX7_markBy ∈ wsL_law0 := mkT (mA36 (List.mem_of_getElem? (i := 6) rfl)) rfl
theorem mw385 : Cond.selects RX7 yX7_markBy yX7_markBy ∈ wsL_law0 := mkT (mA36 (List.mem_of_getElem? (i := 7) rfl)) rfl
theorem mw386 : Cond.code yX7_markBy cX7_markBy 4 (some .int) ∈ wsL_law0 := mkT (mA36 (List.mem_of_getElem? (i := 8) rfl)) rfl
theorem mw387 : Cond.fieldLink RX7 51 "ReelChange$Table" "count" "I" ∈ wsL_law0 := mkT (mA4 (List.mem_of_getElem? (i := 7) rfl)) rfl
theorem mw388 : Cond.methodLink RX7 43 yX8_at ∈ wsL_law0 := mkT (mA36 (List.mem_of_getElem? (i := 9) rfl)) rfl
theorem mw389 : Cond.methodLink RX9 136 yX9_isJoinLine ∈ wsL_law0 := mkT (mA36 (List.mem_of_getElem? (i := 10) rfl)) rfl
theorem mw390 : Cond.instanceMethod yX9_isJoinLine ∈ wsL_law0 := mkT (mA36 (List.mem_of_getElem? (i := 12) rfl)) rfl
theorem mw391 : Cond.selects RX9 yX9_isJoinLine yX9_isJoinLine ∈ wsL_law0 := mP1 (y := yX9_isJoinLine) (n := 15) (List.mem_of_getElem? (i := 3) rfl)
theorem mw392 : Cond.code yX9_isJoinLine cX9_isJoinLine 2 (some .boolean) ∈ wsL_law0 := mkT (mA36 (List.mem_of_getElem? (i := 13) rfl)) rfl
theorem mw393 : Cond.fieldLink RX9 232 "ReelChange$House" "joins" "LReelChange$Table;" ∈ wsL_law0 := mkT (mA8 (List.mem_of_getElem? (i := 0) rfl)) rfl
theorem mw394 : Cond.methodLink RX9 141 yX9_isWeakLine ∈ wsL_law0 := mkT (mA36 (List.mem_of_getElem? (i := 15) rfl)) rfl
theorem mw395 : Cond.instanceMethod yX9_isWeakLine ∈ wsL_law0 := mkT (mA37 (List.mem_of_getElem? (i := 1) rfl)) rfl
theorem mw396 : Cond.selects RX9 yX9_isWeakLine yX9_isWeakLine ∈ wsL_law0 := mP1 (y := yX9_isWeakLine) (n := 15) (List.mem_of_getElem? (i := 4) rfl)
theorem mw397 : Cond.code yX9_isWeakLine cX9_isWeakLine 5 (some .boolean) ∈ wsL_law0 := mkT (mA37 (List.mem_of_getElem? (i := 2) rfl)) rfl
theorem mw398 : Cond.fieldLink RX9 237 "ReelChange$State" "weaks" "LReelChange$Table;" ∈ wsL_law0 := mkT (mA5 (List.mem_of_getElem? (i := 13) rfl)) rfl
theorem mw399 : Cond.methodLink RX9 146 yX9_isManLine ∈ wsL_law0 := mkT (mA37 (List.mem_of_getElem? (i := 4) rfl)) rfl
theorem mw400 : Cond.instanceMethod yX9_isManLine ∈ wsL_law0 := mkT (mA37 (List.mem_of_getElem? (i := 6) rfl)) rfl
theorem mw401 : Cond.selects RX9 yX9_isManLine yX9_isManLine ∈ wsL_law0 := mP1 (y := yX9_isManLine) (n := 15) (List.mem_of_getElem? (i := 5) rfl)
theorem mw402 : Cond.code yX9_isManLine cX9_isManLine 3 (some .boolean) ∈ wsL_law0 := mkT (mA37 (List.mem_of_getElem? (i := 7) rfl)) rfl
theorem mw403 : Cond.fieldLink RX9 100 "ReelChange$House" "men" "LReelChange$Table;" ∈ wsL_law0 := mkT (mA8 (List.mem_of_getElem? (i := 3) rfl)) rfl
theorem mw404 : Cond.methodLink RX9 245 yX9_kindOfMan ∈ wsL_law0 := mkT (mA37 (List.mem_of_getElem? (i := 8) rfl)) rfl
theorem mw405 : Cond.instanceMethod yX9_kindOfMan ∈ wsL_law0 := mkT (mA37 (List.mem_of_getElem? (i := 10) rfl)) rfl
theorem mw406 : Cond.selects RX9 yX9_kindOfMan yX9_kindOfMan ∈ wsL_law0 := mP1 (y := yX9_kindOfMan) (n := 15) (List.mem_of_getElem? (i := 6) rfl)
theorem mw407 : Cond.code yX9_kindOfMan cX9_kindOfMan 1 (some .int) ∈ wsL_law0 := mkT (mA37 (List.mem_of_getElem? (i := 11) rfl)) rfl
theorem mw408 : Cond.methodLink RX9 151 yX9_isShowsLine ∈ wsL_law0 := mkT (mA38 (List.mem_of_getElem? (i := 1) rfl)) rfl
theorem mw409 : Cond.instanceMethod yX9_isShowsLine ∈ wsL_law0 := mkT (mA38 (List.mem_of_getElem? (i := 3) rfl)) rfl
theorem mw410 : Cond.selects RX9 yX9_isShowsLine yX9_isShowsLine ∈ wsL_law0 := mP1 (y := yX9_isShowsLine) (n := 15) (List.mem_of_getElem? (i := 7) rfl)
theorem mw411 : Cond.code yX9_isShowsLine cX9_isShowsLine 4 (some .boolean) ∈ wsL_law0 := mkT (mA38 (List.mem_of_getElem? (i := 4) rfl)) rfl
theorem mw412 : Cond.fieldLink RX9 92 "ReelChange$State" "places" "LReelChange$Table;" ∈ wsL_law0 := mkT (mA6 (List.mem_of_getElem? (i := 2) rfl)) rfl
theorem mw413 : Cond.fieldLink RX9 259 "ReelChange$Table" "room" "I" ∈ wsL_law0 := mkT (mA3 (List.mem_of_getElem? (i := 13) rfl)) rfl
theorem mw414 : Cond.methodLink RX9 265 yX3_number ∈ wsL_law0 := mkT (mA38 (List.mem_of_getElem? (i := 5) rfl)) rfl
theorem mw415 : Cond.instanceMethod yX3_number ∈ wsL_law0 := mkT (mA38 (List.mem_of_getElem? (i := 6) rfl)) rfl
theorem mw416 : Cond.selects RX3 yX3_number yX3_number ∈ wsL_law0 := mkT (mA38 (List.mem_of_getElem? (i := 7) rfl)) rfl
theorem mw417 : Cond.code yX3_number cX3_number 2 (some .int) ∈ wsL_law0 := mkT (mA38 (List.mem_of_getElem? (i := 8) rfl)) rfl
theorem mw418 : Cond.methodLink RX3 43 yX8_at ∈ wsL_law0 := mkT (mA38 (List.mem_of_getElem? (i := 9) rfl)) rfl
theorem mw419 : Cond.methodLink RX9 156 yX9_isBoysLine ∈ wsL_law0 := mkT (mA38 (List.mem_of_getElem? (i := 10) rfl)) rfl
theorem mw420 : Cond.instanceMethod yX9_isBoysLine ∈ wsL_law0 := mkT (mA38 (List.mem_of_getElem? (i := 12) rfl)) rfl
theorem mw421 : Cond.selects RX9 yX9_isBoysLine yX9_isBoysLine ∈ wsL_law0 := mP1 (y := yX9_isBoysLine) (n := 15) (List.mem_of_getElem? (i := 8) rfl)
theorem mw422 : Cond.code yX9_isBoysLine cX9_isBoysLine 3 (some .boolean) ∈ wsL_law0 := mkT (mA38 (List.mem_of_getElem? (i := 13) rfl)) rfl
theorem mw423 : Cond.fieldLink RX9 268 "ReelChange$House" "boys" "LReelChange$Table;" ∈ wsL_law0 := mkT (mA8 (List.mem_of_getElem? (i := 6) rfl)) rfl
theorem mw424 : Cond.methodLink RX9 161 yX9_isSeenLine ∈ wsL_law0 := mkT (mA39 (List.mem_of_getElem? (i := 0) rfl)) rfl
theorem mw425 : Cond.instanceMethod yX9_isSeenLine ∈ wsL_law0 := mkT (mA39 (List.mem_of_getElem? (i := 2) rfl)) rfl
theorem mw426 : Cond.selects RX9 yX9_isSeenLine yX9_isSeenLine ∈ wsL_law0 := mP1 (y := yX9_isSeenLine) (n := 15) (List.mem_of_getElem? (i := 9) rfl)
theorem mw427 : Cond.code yX9_isSeenLine cX9_isSeenLine 4 (some .boolean) ∈ wsL_law0 := mkT (mA39 (List.mem_of_getElem? (i := 3) rfl)) rfl
theorem mw428 : Cond.fieldLink RX9 274 "ReelChange$House" "signs" "LReelChange$Table;" ∈ wsL_law0 := mkT (mA8 (List.mem_of_getElem? (i := 10) rfl)) rfl
theorem mw429 : Cond.methodLink RX9 164 yX9_isScratchLine ∈ wsL_law0 := mkT (mA39 (List.mem_of_getElem? (i := 6) rfl)) rfl
theorem mw430 : Cond.instanceMethod yX9_isScratchLine ∈ wsL_law0 := mkT (mA39 (List.mem_of_getElem? (i := 8) rfl)) rfl
theorem mw431 : Cond.selects RX9 yX9_isScratchLine yX9_isScratchLine ∈ wsL_law0 := mP1 (y := yX9_isScratchLine) (n := 15) (List.mem_of_getElem? (i := 10) rfl)
theorem mw432 : Cond.code yX9_isScratchLine cX9_isScratchLine 2 (some .boolean) ∈ wsL_law0 := mkT (mA39 (List.mem_of_getElem? (i := 9) rfl)) rfl
theorem mw433 : Cond.fieldLink RX9 281 "ReelChange$House" "scratches" "LReelChange$Table;" ∈ wsL_law0 := mkT (mA8 (List.mem_of_getElem? (i := 13) rfl)) rfl
theorem mw434 : Cond.methodLink RX9 81 yX9_isFollowed ∈ wsL_law0 := mkT (mA39 (List.mem_of_getElem? (i := 10) rfl)) rfl
theorem mw435 : Cond.instanceMethod yX9_isFollowed ∈ wsL_law0 := mkT (mA39 (List.mem_of_getElem? (i := 12) rfl)) rfl
theorem mw436 : Cond.selects RX9 yX9_isFollowed yX9_isFollowed ∈ wsL_law0 := mP1 (y := yX9_isFollowed) (n := 15) (List.mem_of_getElem? (i := 11) rfl)
theorem mw437 : Cond.code yX9_isFollowed cX9_isFollowed 1 (some .boolean) ∈ wsL_law0 := mkT (mA39 (List.mem_of_getElem? (i := 13) rfl)) rfl
theorem mw438 : Cond.methodLink RX10 96 yX3_copyFrom ∈ wsL_law0 := mkT (mA39 (List.mem_of_getElem? (i := 14) rfl)) rfl
theorem mw439 : Cond.instanceMethod yX3_copyFrom ∈ wsL_law0 := mkT (mA39 (List.mem_of_getElem? (i := 15) rfl)) rfl
theorem mw440 : Cond.selects RX3 yX3_copyFrom yX3_copyFrom ∈ wsL_law0 := mkT (mA40 (List.mem_of_getElem? (i := 0) rfl)) rfl
theorem mw441 : Cond.code yX3_copyFrom cX3_copyFrom 2 none ∈ wsL_law0 := mkT (mA40 (List.mem_of_getElem? (i := 1) rfl)) rfl
theorem mw442 : Cond.methodLink RX3 51 yX7_copyFrom ∈ wsL_law0 := mkT (mA40 (List.mem_of_getElem? (i := 2) rfl)) rfl
theorem mw443 : Cond.instanceMethod yX7_copyFrom ∈ wsL_law0 := mkT (mA40 (List.mem_of_getElem? (i := 3) rfl)) rfl
theorem mw444 : Cond.selects RX7 yX7_copyFrom yX7_copyFrom ∈ wsL_law0 := mkT (mA40 (List.mem_of_getElem? (i := 4) rfl)) rfl
theorem mw445 : Cond.code yX7_copyFrom cX7_copyFrom 2 none ∈ wsL_law0 := mkT (mA40 (List.mem_of_getElem? (i := 5) rfl)) rfl
theorem mw446 : Cond.methodLink RX7 39 yX8_copyFrom ∈ wsL_law0 := mkT (mA40 (List.mem_of_getElem? (i := 6) rfl)) rfl
theorem mw447 : Cond.instanceMethod yX8_copyFrom ∈ wsL_law0 := mkT (mA40 (List.mem_of_getElem? (i := 7) rfl)) rfl
theorem mw448 : Cond.selects RX8 yX8_copyFrom yX8_copyFrom ∈ wsL_law0 := mkT (mA40 (List.mem_of_getElem? (i := 8) rfl)) rfl
theorem mw449 : Cond.code yX8_copyFrom cX8_copyFrom 2 none ∈ wsL_law0 := mkT (mA40 (List.mem_of_getElem? (i := 9) rfl)) rfl
theorem mw450 : Cond.methodLink RX8 40 arraycopyName ∈ wsL_law0 := mkT (mA40 (List.mem_of_getElem? (i := 10) rfl)) rfl
theorem mw451 : Cond.native arraycopyName ∈ wsL_law0 := mkT (mA40 (List.mem_of_getElem? (i := 12) rfl)) rfl
theorem mw452 : Cond.static arraycopyName ∈ wsL_law0 := mkT (mA40 (List.mem_of_getElem? (i := 11) rfl)) rfl
theorem mw453 : Cond.initialized "java/lang/System" ∈ wsL_law0 := mkT (mA1 (List.mem_of_getElem? (i := 2) rfl)) rfl
theorem mw454 : Cond.methodLink RX3 55 yX8_copyFrom ∈ wsL_law0 := mkT (mA40 (List.mem_of_getElem? (i := 13) rfl)) rfl
theorem mw455 : Cond.methodLink RX10 103 yX7_copyFrom ∈ wsL_law0 := mkT (mA40 (List.mem_of_getElem? (i := 14) rfl)) rfl
theorem mw456 : Cond.methodLink RX10 106 yX4_forget ∈ wsL_law0 := mkT (mA40 (List.mem_of_getElem? (i := 15) rfl)) rfl
theorem mw457 : Cond.instanceMethod yX4_forget ∈ wsL_law0 := mkT (mA41 (List.mem_of_getElem? (i := 0) rfl)) rfl
theorem mw458 : Cond.selects RX4 yX4_forget yX4_forget ∈ wsL_law0 := mkT (mA41 (List.mem_of_getElem? (i := 1) rfl)) rfl
theorem mw459 : Cond.code yX4_forget cX4_forget 1 none ∈ wsL_law0 := mkT (mA41 (List.mem_of_getElem? (i := 2) rfl)) rfl
theorem mw460 : Cond.methodLink RX10 118 yX10_tell ∈ wsL_law0 := mkT (mA41 (List.mem_of_getElem? (i := 3) rfl)) rfl
theorem mw461 : Cond.instanceMethod yX10_tell ∈ wsL_law0 := mkT (mA41 (List.mem_of_getElem? (i := 5) rfl)) rfl
theorem mw462 : Cond.selects RX10 yX10_tell yX10_tell ∈ wsL_law0 := mP1 (y := yX10_tell) (n := 10) (List.mem_of_getElem? (i := 12) rfl)
theorem mw463 : Cond.code yX10_tell cX10_tell 2 (some .int) ∈ wsL_law0 := mkT (mA41 (List.mem_of_getElem? (i := 6) rfl)) rfl
theorem mw464 : Cond.methodLink RL 27 yX11_house ∈ wsL_law0 := mkT (mA86 (List.mem_of_getElem? (i := 13) rfl)) rfl
theorem mw465 : Cond.instanceMethod yX11_house ∈ wsL_law0 := mkT (mA86 (List.mem_of_getElem? (i := 14) rfl)) rfl
theorem mw466 : Cond.selects RX11 yX11_house yX11_house ∈ wsL_law0 := mkT (mA86 (List.mem_of_getElem? (i := 15) rfl)) rfl
theorem mw467 : Cond.code yX11_house cX11_house 3 (some .int) ∈ wsL_law0 := mkT (mA87 (List.mem_of_getElem? (i := 0) rfl)) rfl
theorem mw468 : Cond.fieldLink RX11 125 "ReelChangeModel" "fault" "I" ∈ wsL_law0 := mkT (mA79 (List.mem_of_getElem? (i := 0) rfl)) rfl
theorem mw469 : Cond.fieldLink RX11 121 "ReelChangeModel" "failed" "Z" ∈ wsL_law0 := mkT (mA79 (List.mem_of_getElem? (i := 4) rfl)) rfl
theorem mw470 : Cond.fieldLink RX11 92 "ReelChangeModel" "size" "I" ∈ wsL_law0 := mkT (mA78 (List.mem_of_getElem? (i := 10) rfl)) rfl
theorem mw471 : Cond.fieldLink RX11 95 "ReelChangeModel" "end" "I" ∈ wsL_law0 := mkT (mA78 (List.mem_of_getElem? (i := 12) rfl)) rfl
theorem mw472 : Cond.fieldLink RX11 111 "ReelChangeModel" "token" "I" ∈ wsL_law0 := mkT (mA78 (List.mem_of_getElem? (i := 13) rfl)) rfl
theorem mw473 : Cond.fieldLink RX11 102 "ReelChangeModel" "at" "I" ∈ wsL_law0 := mkT (mA78 (List.mem_of_getElem? (i := 11) rfl)) rfl
theorem mw474 : Cond.fieldLink RX11 213 "ReelChangeModel" "hasHouse" "Z" ∈ wsL_law0 := mkT (mA79 (List.mem_of_getElem? (i := 5) rfl)) rfl
theorem mw475 : Cond.fieldLink RX11 216 "ReelChangeModel" "undos" "I" ∈ wsL_law0 := mkT (mA79 (List.mem_of_getElem? (i := 11) rfl)) rfl
theorem mw476 : Cond.fieldLink RX11 219 "ReelChangeModel" "images" "I" ∈ wsL_law0 := mkT (mA79 (List.mem_of_getElem? (i := 12) rfl)) rfl
theorem mw477 : Cond.methodLink RX11 200 yX11_good ∈ wsL_law0 := mkT (mA87 (List.mem_of_getElem? (i := 1) rfl)) rfl
theorem mw478 : Cond.instanceMethod yX11_good ∈ wsL_law0 := mkT (mA87 (List.mem_of_getElem? (i := 3) rfl)) rfl
theorem mw479 : Cond.selects RX11 yX11_good yX11_good ∈ wsL_law0 := mP3 (y := yX11_good) (n := 43) (List.mem_of_getElem? (i := 6) rfl)
theorem mw480 : Cond.code yX11_good cX11_good 1 none ∈ wsL_law0 := mkT (mA87 (List.mem_of_getElem? (i := 4) rfl)) rfl
theorem mw481 : Cond.fieldLink RX11 86 "ReelChangeModel" "trouble" "I" ∈ wsL_law0 := mkT (mA79 (List.mem_of_getElem? (i := 2) rfl)) rfl
theorem mw482 : Cond.methodLink RX11 182 yX11_in ∈ wsL_law0 := mkT (mA87 (List.mem_of_getElem? (i := 5) rfl)) rfl
theorem mw483 : Cond.static yX11_in ∈ wsL_law0 := mkT (mA87 (List.mem_of_getElem? (i := 6) rfl)) rfl
theorem mw484 : Cond.code yX11_in cX11_in 3 (some .boolean) ∈ wsL_law0 := mkT (mA87 (List.mem_of_getElem? (i := 7) rfl)) rfl
theorem mw485 : Cond.methodLink RX11 203 yX11_no ∈ wsL_law0 := mkT (mA87 (List.mem_of_getElem? (i := 8) rfl)) rfl
theorem mw486 : Cond.instanceMethod yX11_no ∈ wsL_law0 := mkT (mA87 (List.mem_of_getElem? (i := 10) rfl)) rfl
theorem mw487 : Cond.selects RX11 yX11_no yX11_no ∈ wsL_law0 := mP3 (y := yX11_no) (n := 43) (List.mem_of_getElem? (i := 7) rfl)
theorem mw488 : Cond.code yX11_no cX11_no 2 (some .int) ∈ wsL_law0 := mkT (mA87 (List.mem_of_getElem? (i := 11) rfl)) rfl
theorem mw489 : Cond.methodLink RX11 142 yX11_next ∈ wsL_law0 := mkT (mA87 (List.mem_of_getElem? (i := 12) rfl)) rfl
theorem mw490 : Cond.instanceMethod yX11_next ∈ wsL_law0 := mkT (mA87 (List.mem_of_getElem? (i := 14) rfl)) rfl
theorem mw491 : Cond.selects RX11 yX11_next yX11_next ∈ wsL_law0 := mP3 (y := yX11_next) (n := 43) (List.mem_of_getElem? (i := 8) rfl)
theorem mw492 : Cond.code yX11_next cX11_next 4 none ∈ wsL_law0 := mkT (mA87 (List.mem_of_getElem? (i := 15) rfl)) rfl
theorem mw493 : Cond.fieldLink RX11 105 "ReelChangeModel" "nameSize" "I" ∈ wsL_law0 := mkT (mA78 (List.mem_of_getElem? (i := 15) rfl)) rfl
theorem mw494 : Cond.fieldLink RX11 108 "ReelChangeModel" "whole" "I" ∈ wsL_law0 := mkT (mA78 (List.mem_of_getElem? (i := 14) rfl)) rfl
theorem mw495 : Cond.methodLink RX11 98 yX11_look ∈ wsL_law0 := mkT (mA88 (List.mem_of_getElem? (i := 0) rfl)) rfl
theorem mw496 : Cond.instanceMethod yX11_look ∈ wsL_law0 := mkT (mA88 (List.mem_of_getElem? (i := 2) rfl)) rfl
theorem mw497 : Cond.selects RX11 yX11_look yX11_look ∈ wsL_law0 := mP3 (y := yX11_look) (n := 43) (List.mem_of_getElem? (i := 9) rfl)
theorem mw498 : Cond.code yX11_look cX11_look 2 (some .int) ∈ wsL_law0 := mkT (mA88 (List.mem_of_getElem? (i := 3) rfl)) rfl
theorem mw499 : Cond.methodLink RX11 114 yX11_isSmall ∈ wsL_law0 := mkT (mA88 (List.mem_of_getElem? (i := 4) rfl)) rfl
theorem mw500 : Cond.static yX11_isSmall ∈ wsL_law0 := mkT (mA88 (List.mem_of_getElem? (i := 5) rfl)) rfl
theorem mw501 : Cond.code yX11_isSmall cX11_isSmall 1 (some .boolean) ∈ wsL_law0 := mkT (mA88 (List.mem_of_getElem? (i := 6) rfl)) rfl
theorem mw502 : Cond.methodLink RX11 118 yX11_isDigit ∈ wsL_law0 := mkT (mA88 (List.mem_of_getElem? (i := 7) rfl)) rfl
theorem mw503 : Cond.static yX11_isDigit ∈ wsL_law0 := mkT (mA88 (List.mem_of_getElem? (i := 8) rfl)) rfl
theorem mw504 : Cond.code yX11_isDigit cX11_isDigit 1 (some .boolean) ∈ wsL_law0 := mkT (mA88 (List.mem_of_getElem? (i := 9) rfl)) rfl
theorem mw505 : Cond.methodLink RX11 206 yX11_readLine ∈ wsL_law0 := mkT (mA88 (List.mem_of_getElem? (i := 10) rfl)) rfl
theorem mw506 : Cond.instanceMethod yX11_readLine ∈ wsL_law0 := mkT (mA88 (List.mem_of_getElem? (i := 12) rfl)) rfl
theorem mw507 : Cond.selects RX11 yX11_readLine yX11_readLine ∈ wsL_law0 := mP3 (y := yX11_readLine) (n := 43) (List.mem_of_getElem? (i := 10) rfl)
theorem mw508 : Cond.code yX11_readLine cX11_readLine 1 none ∈ wsL_law0 := mkT (mA88 (List.mem_of_getElem? (i := 13) rfl)) rfl
theorem mw509 : Cond.methodLink RX11 138 yX11_isWord ∈ wsL_law0 := mkT (mA88 (List.mem_of_getElem? (i := 15) rfl)) rfl
theorem mw510 : Cond.instanceMethod yX11_isWord ∈ wsL_law0 := mkT (mA89 (List.mem_of_getElem? (i := 1) rfl)) rfl
theorem mw511 : Cond.selects RX11 yX11_isWord yX11_isWord ∈ wsL_law0 := mP3 (y := yX11_isWord) (n := 43) (List.mem_of_getElem? (i := 11) rfl)
theorem mw512 : Cond.code yX11_isWord cX11_isWord 4 (some .boolean) ∈ wsL_law0 := mkT (mA89 (List.mem_of_getElem? (i := 2) rfl)) rfl
theorem mw513 : Cond.methodLink RX11 128 yJ0_length_8abf5 ∈ wsL_law0 := mkT (mA89 (List.mem_of_getElem? (i := 3) rfl)) rfl
theorem mw514 : Cond.methodLink RX11 134 yJ0_charAt_5068e ∈ wsL_law0 := mkT (mA89 (List.mem_of_getElem? (i := 4) rfl)) rfl
theorem mw515 : Cond.methodLink RX11 222 yX11_houseLine ∈ wsL_law0 := mkT (mA89 (List.mem_of_getElem? (i := 5) rfl)) rfl
theorem mw516 : Cond.instanceMethod yX11_houseLine ∈ wsL_law0 := mkT (mA89 (List.mem_of_getElem? (i := 7) rfl)) rfl
theorem mw517 : Cond.selects RX11 yX11_houseLine yX11_houseLine ∈ wsL_law0 := mP3 (y := yX11_houseLine) (n := 43) (List.mem_of_getElem? (i := 12) rfl)
theorem mw518 : Cond.code yX11_houseLine cX11_houseLine 1 none ∈ wsL_law0 := mkT (mA89 (List.mem_of_getElem? (i := 8) rfl)) rfl
theorem mw519 : Cond.methodLink RX11 148 yX11_bad ∈ wsL_law0 := mkT (mA89 (List.mem_of_getElem? (i := 9) rfl)) rfl
theorem mw520 : Cond.instanceMethod yX11_bad ∈ wsL_law0 := mkT (mA89 (List.mem_of_getElem? (i := 11) rfl)) rfl
theorem mw521 : Cond.selects RX11 yX11_bad yX11_bad ∈ wsL_law0 := mP3 (y := yX11_bad) (n := 43) (List.mem_of_getElem? (i := 13) rfl)
theorem mw522 : Cond.code yX11_bad cX11_bad 3 none ∈ wsL_law0 := mkT (mA89 (List.mem_of_getElem? (i := 12) rfl)) rfl
theorem mw523 : Cond.methodLink RX11 264 yX11_after ∈ wsL_law0 := mkT (mA89 (List.mem_of_getElem? (i := 14) rfl)) rfl
theorem mw524 : Cond.instanceMethod yX11_after ∈ wsL_law0 := mkT (mA90 (List.mem_of_getElem? (i := 0) rfl)) rfl
theorem mw525 : Cond.selects RX11 yX11_after yX11_after ∈ wsL_law0 := mP3 (y := yX11_after) (n := 43) (List.mem_of_getElem? (i := 14) rfl)
theorem mw526 : Cond.code yX11_after cX11_after 4 (some .int) ∈ wsL_law0 := mkT (mA90 (List.mem_of_getElem? (i := 1) rfl)) rfl
theorem mw527 : Cond.methodLink RX11 193 yX11_must ∈ wsL_law0 := mkT (mA90 (List.mem_of_getElem? (i := 2) rfl)) rfl
theorem mw528 : Cond.instanceMethod yX11_must ∈ wsL_law0 := mkT (mA90 (List.mem_of_getElem? (i := 4) rfl)) rfl
theorem mw529 : Cond.selects RX11 yX11_must yX11_must ∈ wsL_law0 := mP3 (y := yX11_must) (n := 43) (List.mem_of_getElem? (i := 15) rfl)
theorem mw530 : Cond.code yX11_must cX11_must 2 none ∈ wsL_law0 := mkT (mA90 (List.mem_of_getElem? (i := 5) rfl)) rfl
theorem mw531 : Cond.methodLink RX11 145 yX11_takesWord ∈ wsL_law0 := mkT (mA90 (List.mem_of_getElem? (i := 6) rfl)) rfl
theorem mw532 : Cond.instanceMethod yX11_takesWord ∈ wsL_law0 := mkT (mA90 (List.mem_of_getElem? (i := 8) rfl)) rfl
theorem mw533 : Cond.selects RX11 yX11_takesWord yX11_takesWord ∈ wsL_law0 := mP4 (y := yX11_takesWord) (n := 43) (List.mem_of_getElem? (i := 0) rfl)
theorem mw534 : Cond.code yX11_takesWord cX11_takesWord 2 (some .boolean) ∈ wsL_law0 := mkT (mA90 (List.mem_of_getElem? (i := 9) rfl)) rfl
theorem mw535 : Cond.methodLink RX11 197 yX11_number ∈ wsL_law0 := mkT (mA90 (List.mem_of_getElem? (i := 10) rfl)) rfl
theorem mw536 : Cond.instanceMethod yX11_number ∈ wsL_law0 := mkT (mA90 (List.mem_of_getElem? (i := 12) rfl)) rfl
theorem mw537 : Cond.selects RX11 yX11_number yX11_number ∈ wsL_law0 := mP4 (y := yX11_number) (n := 43) (List.mem_of_getElem? (i := 1) rfl)
theorem mw538 : Cond.code yX11_number cX11_number 4 (some .int) ∈ wsL_law0 := mkT (mA90 (List.mem_of_getElem? (i := 13) rfl)) rfl
theorem mw539 : Cond.methodLink RX11 190 yX11_numberHere ∈ wsL_law0 := mkT (mA90 (List.mem_of_getElem? (i := 14) rfl)) rfl
theorem mw540 : Cond.instanceMethod yX11_numberHere ∈ wsL_law0 := mkT (mA91 (List.mem_of_getElem? (i := 0) rfl)) rfl
theorem mw541 : Cond.selects RX11 yX11_numberHere yX11_numberHere ∈ wsL_law0 := mP4 (y := yX11_numberHere) (n := 43) (List.mem_of_getElem? (i := 2) rfl)
theorem mw542 : Cond.code yX11_numberHere cX11_numberHere 3 (some .int) ∈ wsL_law0 := mkT (mA91 (List.mem_of_getElem? (i := 1) rfl)) rfl
theorem mw543 : Cond.methodLink RX11 225 yX11_opens ∈ wsL_law0 := mkT (mA91 (List.mem_of_getElem? (i := 8) rfl)) rfl
theorem mw544 : Cond.instanceMethod yX11_opens ∈ wsL_law0 := mkT (mA91 (List.mem_of_getElem? (i := 10) rfl)) rfl
theorem mw545 : Cond.selects RX11 yX11_opens yX11_opens ∈ wsL_law0 := mP4 (y := yX11_opens) (n := 43) (List.mem_of_getElem? (i := 3) rfl)
theorem mw546 : Cond.code yX11_opens cX11_opens 3 (some .boolean) ∈ wsL_law0 := mkT (mA91 (List.mem_of_getElem? (i := 11) rfl)) rfl
theorem mw547 : Cond.methodLink RX11 229 yX11_reelLine ∈ wsL_law0 := mkT (mA91 (List.mem_of_getElem? (i := 12) rfl)) rfl
theorem mw548 : Cond.instanceMethod yX11_reelLine ∈ wsL_law0 := mkT (mA91 (List.mem_of_getElem? (i := 14) rfl)) rfl
theorem mw549 : Cond.selects RX11 yX11_reelLine yX11_reelLine ∈ wsL_law0 := mP4 (y := yX11_reelLine) (n := 43) (List.mem_of_getElem? (i := 4) rfl)
theorem mw550 : Cond.code yX11_reelLine cX11_reelLine 2 none ∈ wsL_law0 := mkT (mA91 (List.mem_of_getElem? (i := 15) rfl)) rfl
theorem mw551 : Cond.methodLink RX11 277 yX11_newName ∈ wsL_law0 := mkT (mA92 (List.mem_of_getElem? (i := 0) rfl)) rfl
theorem mw552 : Cond.instanceMethod yX11_newName ∈ wsL_law0 := mkT (mA92 (List.mem_of_getElem? (i := 2) rfl)) rfl
theorem mw553 : Cond.selects RX11 yX11_newName yX11_newName ∈ wsL_law0 := mP4 (y := yX11_newName) (n := 43) (List.mem_of_getElem? (i := 5) rfl)
theorem mw554 : Cond.code yX11_newName cX11_newName 3 none ∈ wsL_law0 := mkT (mA92 (List.mem_of_getElem? (i := 3) rfl)) rfl
theorem mw555 : Cond.methodLink RX11 176 yX11_mustName ∈ wsL_law0 := mkT (mA92 (List.mem_of_getElem? (i := 4) rfl)) rfl
theorem mw556 : Cond.instanceMethod yX11_mustName ∈ wsL_law0 := mkT (mA92 (List.mem_of_getElem? (i := 6) rfl)) rfl
theorem mw557 : Cond.selects RX11 yX11_mustName yX11_mustName ∈ wsL_law0 := mP4 (y := yX11_mustName) (n := 43) (List.mem_of_getElem? (i := 6) rfl)
theorem mw558 : Cond.code yX11_mustName cX11_mustName 2 none ∈ wsL_law0 := mkT (mA92 (List.mem_of_getElem? (i := 7) rfl)) rfl
theorem mw559 : Cond.methodLink RX11 179 yX11_find ∈ wsL_law0 := mkT (mA93 (List.mem_of_getElem? (i := 2) rfl)) rfl
theorem mw560 : Cond.instanceMethod yX11_find ∈ wsL_law0 := mkT (mA93 (List.mem_of_getElem? (i := 4) rfl)) rfl
theorem mw561 : Cond.selects RX11 yX11_find yX11_find ∈ wsL_law0 := mP4 (y := yX11_find) (n := 43) (List.mem_of_getElem? (i := 7) rfl)
theorem mw562 : Cond.code yX11_find cX11_find 4 (some .int) ∈ wsL_law0 := mkT (mA93 (List.mem_of_getElem? (i := 5) rfl)) rfl
theorem mw563 : Cond.methodLink RX11 232 yX11_townLine ∈ wsL_law0 := mkT (mA93 (List.mem_of_getElem? (i := 9) rfl)) rfl
theorem mw564 : Cond.instanceMethod yX11_townLine ∈ wsL_law0 := mkT (mA93 (List.mem_of_getElem? (i := 11) rfl)) rfl
theorem mw565 : Cond.selects RX11 yX11_townLine yX11_townLine ∈ wsL_law0 := mP4 (y := yX11_townLine) (n := 43) (List.mem_of_getElem? (i := 8) rfl)
theorem mw566 : Cond.code yX11_townLine cX11_townLine 1 none ∈ wsL_law0 := mkT (mA93 (List.mem_of_getElem? (i := 12) rfl)) rfl
theorem mw567 : Cond.methodLink RX11 235 yX11_markLine ∈ wsL_law0 := mkT (mA93 (List.mem_of_getElem? (i := 14) rfl)) rfl
theorem mw568 : Cond.instanceMethod yX11_markLine ∈ wsL_law0 := mkT (mA94 (List.mem_of_getElem? (i := 0) rfl)) rfl
theorem mw569 : Cond.selects RX11 yX11_markLine yX11_markLine ∈ wsL_law0 := mP4 (y := yX11_markLine) (n := 43) (List.mem_of_getElem? (i := 9) rfl)
theorem mw570 : Cond.code yX11_markLine cX11_markLine 6 none ∈ wsL_law0 := mkT (mA94 (List.mem_of_getElem? (i := 1) rfl)) rfl
theorem mw571 : Cond.methodLink RX11 288 yX11_reelPassed ∈ wsL_law0 := mkT (mA94 (List.mem_of_getElem? (i := 2) rfl)) rfl
theorem mw572 : Cond.instanceMethod yX11_reelPassed ∈ wsL_law0 := mkT (mA94 (List.mem_of_getElem? (i := 4) rfl)) rfl
theorem mw573 : Cond.selects RX11 yX11_reelPassed yX11_reelPassed ∈ wsL_law0 := mP4 (y := yX11_reelPassed) (n := 43) (List.mem_of_getElem? (i := 10) rfl)
theorem mw574 : Cond.code yX11_reelPassed cX11_reelPassed 2 (some .int) ∈ wsL_law0 := mkT (mA94 (List.mem_of_getElem? (i := 5) rfl)) rfl
theorem mw575 : Cond.methodLink RX11 186 yX11_named ∈ wsL_law0 := mkT (mA94 (List.mem_of_getElem? (i := 6) rfl)) rfl
theorem mw576 : Cond.instanceMethod yX11_named ∈ wsL_law0 := mkT (mA94 (List.mem_of_getElem? (i := 8) rfl)) rfl
theorem mw577 : Cond.selects RX11 yX11_named yX11_named ∈ wsL_law0 := mP4 (y := yX11_named) (n := 43) (List.mem_of_getElem? (i := 11) rfl)
theorem mw578 : Cond.code yX11_named cX11_named 4 (some .int) ∈ wsL_law0 := mkT (mA94 (List.mem_of_getElem? (i := 9) rfl)) rfl
theorem mw579 : Cond.methodLink RX11 291 yX11_frameOf ∈ wsL_law0 := mkT (mA94 (List.mem_of_getElem? (i := 10) rfl)) rfl
theorem mw580 : Cond.instanceMethod yX11_frameOf ∈ wsL_law0 := mkT (mA94 (List.mem_of_getElem? (i := 12) rfl)) rfl
theorem mw581 : Cond.selects RX11 yX11_frameOf yX11_frameOf ∈ wsL_law0 := mP4 (y := yX11_frameOf) (n := 43) (List.mem_of_getElem? (i := 12) rfl)
theorem mw582 : Cond.code yX11_frameOf cX11_frameOf 2 (some .int) ∈ wsL_law0 := mkT (mA94 (List.mem_of_getElem? (i := 13) rfl)) rfl
theorem mw583 : Cond.methodLink RX11 238 yX11_joinLine ∈ wsL_law0 := mkT (mA94 (List.mem_of_getElem? (i := 14) rfl)) rfl
theorem mw584 : Cond.instanceMethod yX11_joinLine ∈ wsL_law0 := mkT (mA95 (List.mem_of_getElem? (i := 0) rfl)) rfl
theorem mw585 : Cond.selects RX11 yX11_joinLine yX11_joinLine ∈ wsL_law0 := mP4 (y := yX11_joinLine) (n := 43) (List.mem_of_getElem? (i := 13) rfl)
theorem mw586 : Cond.code yX11_joinLine cX11_joinLine 2 none ∈ wsL_law0 := mkT (mA95 (List.mem_of_getElem? (i := 1) rfl)) rfl
theorem mw587 : Cond.methodLink RX11 241 yX11_weakLine ∈ wsL_law0 := mkT (mA95 (List.mem_of_getElem? (i := 3) rfl)) rfl
theorem mw588 : Cond.instanceMethod yX11_weakLine ∈ wsL_law0 := mkT (mA95 (List.mem_of_getElem? (i := 5) rfl)) rfl
theorem mw589 : Cond.selects RX11 yX11_weakLine yX11_weakLine ∈ wsL_law0 := mP4 (y := yX11_weakLine) (n := 43) (List.mem_of_getElem? (i := 14) rfl)
theorem mw590 : Cond.code yX11_weakLine cX11_weakLine 5 none ∈ wsL_law0 := mkT (mA95 (List.mem_of_getElem? (i := 6) rfl)) rfl
theorem mw591 : Cond.methodLink RX11 244 yX11_manLine ∈ wsL_law0 := mkT (mA95 (List.mem_of_getElem? (i := 8) rfl)) rfl
theorem mw592 : Cond.instanceMethod yX11_manLine ∈ wsL_law0 := mkT (mA95 (List.mem_of_getElem? (i := 10) rfl)) rfl
theorem mw593 : Cond.selects RX11 yX11_manLine yX11_manLine ∈ wsL_law0 := mP4 (y := yX11_manLine) (n := 43) (List.mem_of_getElem? (i := 15) rfl)
theorem mw594 : Cond.code yX11_manLine cX11_manLine 5 none ∈ wsL_law0 := mkT (mA95 (List.mem_of_getElem? (i := 11) rfl)) rfl
theorem mw595 : Cond.methodLink RX11 247 yX11_opensOnce ∈ wsL_law0 := mkT (mA96 (List.mem_of_getElem? (i := 1) rfl)) rfl
theorem mw596 : Cond.instanceMethod yX11_opensOnce ∈ wsL_law0 := mkT (mA96 (List.mem_of_getElem? (i := 3) rfl)) rfl
theorem mw597 : Cond.selects RX11 yX11_opensOnce yX11_opensOnce ∈ wsL_law0 := mP5 (y := yX11_opensOnce) (n := 43) (List.mem_of_getElem? (i := 0) rfl)
theorem mw598 : Cond.code yX11_opensOnce cX11_opensOnce 3 (some .boolean) ∈ wsL_law0 := mkT (mA96 (List.mem_of_getElem? (i := 4) rfl)) rfl
theorem mw599 : Cond.methodLink RX11 250 yX11_showsLine ∈ wsL_law0 := mkT (mA96 (List.mem_of_getElem? (i := 5) rfl)) rfl
theorem mw600 : Cond.instanceMethod yX11_showsLine ∈ wsL_law0 := mkT (mA96 (List.mem_of_getElem? (i := 7) rfl)) rfl
theorem mw601 : Cond.selects RX11 yX11_showsLine yX11_showsLine ∈ wsL_law0 := mP5 (y := yX11_showsLine) (n := 43) (List.mem_of_getElem? (i := 1) rfl)
theorem mw602 : Cond.code yX11_showsLine cX11_showsLine 4 none ∈ wsL_law0 := mkT (mA96 (List.mem_of_getElem? (i := 8) rfl)) rfl
theorem mw603 : Cond.methodLink RX11 308 yX11_comma ∈ wsL_law0 := mkT (mA96 (List.mem_of_getElem? (i := 9) rfl)) rfl
theorem mw604 : Cond.instanceMethod yX11_comma ∈ wsL_law0 := mkT (mA96 (List.mem_of_getElem? (i := 11) rfl)) rfl
theorem mw605 : Cond.selects RX11 yX11_comma yX11_comma ∈ wsL_law0 := mP5 (y := yX11_comma) (n := 43) (List.mem_of_getElem? (i := 2) rfl)
theorem mw606 : Cond.code yX11_comma cX11_comma 1 (some .boolean) ∈ wsL_law0 := mkT (mA96 (List.mem_of_getElem? (i := 12) rfl)) rfl
theorem mw607 : Cond.methodLink RX11 253 yX11_boysLine ∈ wsL_law0 := mkT (mA96 (List.mem_of_getElem? (i := 13) rfl)) rfl
theorem mw608 : Cond.instanceMethod yX11_boysLine ∈ wsL_law0 := mkT (mA96 (List.mem_of_getElem? (i := 15) rfl)) rfl
theorem mw609 : Cond.selects RX11 yX11_boysLine yX11_boysLine ∈ wsL_law0 := mP5 (y := yX11_boysLine) (n := 43) (List.mem_of_getElem? (i := 3) rfl)
theorem mw610 : Cond.code yX11_boysLine cX11_boysLine 2 none ∈ wsL_law0 := mkT (mA97 (List.mem_of_getElem? (i := 0) rfl)) rfl
theorem mw611 : Cond.methodLink RX11 256 yX11_seenLine ∈ wsL_law0 := mkT (mA97 (List.mem_of_getElem? (i := 3) rfl)) rfl
theorem mw612 : Cond.instanceMethod yX11_seenLine ∈ wsL_law0 := mkT (mA97 (List.mem_of_getElem? (i := 5) rfl)) rfl
theorem mw613 : Cond.selects RX11 yX11_seenLine yX11_seenLine ∈ wsL_law0 := mP5 (y := yX11_seenLine) (n := 43) (List.mem_of_getElem? (i := 4) rfl)
theorem mw614 : Cond.code yX11_seenLine cX11_seenLine 2 none ∈ wsL_law0 := mkT (mA97 (List.mem_of_getElem? (i := 6) rfl)) rfl
theorem mw615 : Cond.methodLink RX11 259 yX11_scratchLine ∈ wsL_law0 := mkT (mA97 (List.mem_of_getElem? (i := 9) rfl)) rfl
theorem mw616 : Cond.instanceMethod yX11_scratchLine ∈ wsL_law0 := mkT (mA97 (List.mem_of_getElem? (i := 11) rfl)) rfl
theorem mw617 : Cond.selects RX11 yX11_scratchLine yX11_scratchLine ∈ wsL_law0 := mP5 (y := yX11_scratchLine) (n := 43) (List.mem_of_getElem? (i := 5) rfl)
theorem mw618 : Cond.code yX11_scratchLine cX11_scratchLine 2 none ∈ wsL_law0 := mkT (mA97 (List.mem_of_getElem? (i := 12) rfl)) rfl
theorem mw619 : Cond.methodLink RX11 209 yX11_copy ∈ wsL_law0 := mkT (mA97 (List.mem_of_getElem? (i := 13) rfl)) rfl
theorem mw620 : Cond.static yX11_copy ∈ wsL_law0 := mkT (mA97 (List.mem_of_getElem? (i := 14) rfl)) rfl
theorem mw621 : Cond.code yX11_copy cX11_copy 6 none ∈ wsL_law0 := mkT (mA97 (List.mem_of_getElem? (i := 15) rfl)) rfl
theorem mw622 : Cond.methodLink RL 28 yX10_fault ∈ wsL_law0 := mkT (mA41 (List.mem_of_getElem? (i := 7) rfl)) rfl
theorem mw623 : Cond.instanceMethod yX10_fault ∈ wsL_law0 := mkT (mA41 (List.mem_of_getElem? (i := 8) rfl)) rfl
theorem mw624 : Cond.selects RX10 yX10_fault yX10_fault ∈ wsL_law0 := mkT (mA41 (List.mem_of_getElem? (i := 9) rfl)) rfl
theorem mw625 : Cond.code yX10_fault cX10_fault 1 (some .int) ∈ wsL_law0 := mkT (mA41 (List.mem_of_getElem? (i := 10) rfl)) rfl
theorem mw626 : Cond.methodLink RL 32 yX11_fault ∈ wsL_law0 := mkT (mA98 (List.mem_of_getElem? (i := 0) rfl)) rfl
theorem mw627 : Cond.instanceMethod yX11_fault ∈ wsL_law0 := mkT (mA98 (List.mem_of_getElem? (i := 1) rfl)) rfl
theorem mw628 : Cond.selects RX11 yX11_fault yX11_fault ∈ wsL_law0 := mkT (mA98 (List.mem_of_getElem? (i := 2) rfl)) rfl
theorem mw629 : Cond.code yX11_fault cX11_fault 1 (some .int) ∈ wsL_law0 := mkT (mA98 (List.mem_of_getElem? (i := 3) rfl)) rfl
theorem mw630 : Cond.methodLink RL 33 yX10_where ∈ wsL_law0 := mkT (mA41 (List.mem_of_getElem? (i := 11) rfl)) rfl
theorem mw631 : Cond.instanceMethod yX10_where ∈ wsL_law0 := mkT (mA41 (List.mem_of_getElem? (i := 12) rfl)) rfl
theorem mw632 : Cond.selects RX10 yX10_where yX10_where ∈ wsL_law0 := mkT (mA41 (List.mem_of_getElem? (i := 13) rfl)) rfl
theorem mw633 : Cond.code yX10_where cX10_where 1 (some .int) ∈ wsL_law0 := mkT (mA41 (List.mem_of_getElem? (i := 14) rfl)) rfl
theorem mw634 : Cond.fieldLink RX10 121 "ReelChange$Text" "faultPlace" "I" ∈ wsL_law0 := mkT (mA10 (List.mem_of_getElem? (i := 9) rfl)) rfl
theorem mw635 : Cond.methodLink RL 36 yX11_where ∈ wsL_law0 := mkT (mA98 (List.mem_of_getElem? (i := 4) rfl)) rfl
theorem mw636 : Cond.instanceMethod yX11_where ∈ wsL_law0 := mkT (mA98 (List.mem_of_getElem? (i := 5) rfl)) rfl
theorem mw637 : Cond.selects RX11 yX11_where yX11_where ∈ wsL_law0 := mkT (mA98 (List.mem_of_getElem? (i := 6) rfl)) rfl
theorem mw638 : Cond.code yX11_where cX11_where 1 (some .int) ∈ wsL_law0 := mkT (mA98 (List.mem_of_getElem? (i := 7) rfl)) rfl
theorem mw639 : Cond.methodLink RL 37 yX10_reel ∈ wsL_law0 := mkT (mA41 (List.mem_of_getElem? (i := 15) rfl)) rfl
theorem mw640 : Cond.instanceMethod yX10_reel ∈ wsL_law0 := mkT (mA42 (List.mem_of_getElem? (i := 0) rfl)) rfl
theorem mw641 : Cond.selects RX10 yX10_reel yX10_reel ∈ wsL_law0 := mkT (mA42 (List.mem_of_getElem? (i := 1) rfl)) rfl
theorem mw642 : Cond.code yX10_reel cX10_reel 3 (some .int) ∈ wsL_law0 := mkT (mA42 (List.mem_of_getElem? (i := 2) rfl)) rfl
theorem mw643 : Cond.fieldLink RX10 124 "ReelChange$State" "reels" "LReelChange$Table;" ∈ wsL_law0 := mkT (mA5 (List.mem_of_getElem? (i := 5) rfl)) rfl
theorem mw644 : Cond.fieldLink RX10 131 "ReelChange$State" "marks" "LReelChange$Table;" ∈ wsL_law0 := mkT (mA5 (List.mem_of_getElem? (i := 8) rfl)) rfl
theorem mw645 : Cond.fieldLink RX10 138 "ReelChange$House" "joins" "LReelChange$Table;" ∈ wsL_law0 := mkT (mA7 (List.mem_of_getElem? (i := 15) rfl)) rfl
theorem mw646 : Cond.fieldLink RX10 144 "ReelChange$State" "weaks" "LReelChange$Table;" ∈ wsL_law0 := mkT (mA5 (List.mem_of_getElem? (i := 11) rfl)) rfl
theorem mw647 : Cond.methodLink RX10 127 yX8_has ∈ wsL_law0 := mkT (mA42 (List.mem_of_getElem? (i := 3) rfl)) rfl
theorem mw648 : Cond.instanceMethod yX8_has ∈ wsL_law0 := mkT (mA42 (List.mem_of_getElem? (i := 4) rfl)) rfl
theorem mw649 : Cond.selects RX8 yX8_has yX8_has ∈ wsL_law0 := mkT (mA42 (List.mem_of_getElem? (i := 5) rfl)) rfl
theorem mw650 : Cond.code yX8_has cX8_has 2 (some .boolean) ∈ wsL_law0 := mkT (mA42 (List.mem_of_getElem? (i := 6) rfl)) rfl
theorem mw651 : Cond.methodLink RX10 134 yX8_howMany ∈ wsL_law0 := mkT (mA42 (List.mem_of_getElem? (i := 7) rfl)) rfl
theorem mw652 : Cond.instanceMethod yX8_howMany ∈ wsL_law0 := mkT (mA42 (List.mem_of_getElem? (i := 8) rfl)) rfl
theorem mw653 : Cond.selects RX8 yX8_howMany yX8_howMany ∈ wsL_law0 := mkT (mA42 (List.mem_of_getElem? (i := 9) rfl)) rfl
theorem mw654 : Cond.code yX8_howMany cX8_howMany 5 (some .int) ∈ wsL_law0 := mkT (mA42 (List.mem_of_getElem? (i := 10) rfl)) rfl
theorem mw655 : Cond.methodLink RX8 37 yX8_at ∈ wsL_law0 := mkT (mA42 (List.mem_of_getElem? (i := 11) rfl)) rfl
theorem mw656 : Cond.methodLink RX10 141 yX7_mendedOn ∈ wsL_law0 := mkT (mA42 (List.mem_of_getElem? (i := 12) rfl)) rfl
theorem mw657 : Cond.instanceMethod yX7_mendedOn ∈ wsL_law0 := mkT (mA42 (List.mem_of_getElem? (i := 13) rfl)) rfl
theorem mw658 : Cond.selects RX7 yX7_mendedOn yX7_mendedOn ∈ wsL_law0 := mkT (mA42 (List.mem_of_getElem? (i := 14) rfl)) rfl
theorem mw659 : Cond.code yX7_mendedOn cX7_mendedOn 4 (some .int) ∈ wsL_law0 := mkT (mA42 (List.mem_of_getElem? (i := 15) rfl)) rfl
theorem mw660 : Cond.methodLink RX7 54 yX7_isWeak ∈ wsL_law0 := mkT (mA43 (List.mem_of_getElem? (i := 0) rfl)) rfl
theorem mw661 : Cond.instanceMethod yX7_isWeak ∈ wsL_law0 := mkT (mA43 (List.mem_of_getElem? (i := 1) rfl)) rfl
theorem mw662 : Cond.selects RX7 yX7_isWeak yX7_isWeak ∈ wsL_law0 := mkT (mA43 (List.mem_of_getElem? (i := 2) rfl)) rfl
theorem mw663 : Cond.code yX7_isWeak cX7_isWeak 2 (some .boolean) ∈ wsL_law0 := mkT (mA43 (List.mem_of_getElem? (i := 3) rfl)) rfl
theorem mw664 : Cond.methodLink RX7 47 yX8_has ∈ wsL_law0 := mkT (mA43 (List.mem_of_getElem? (i := 4) rfl)) rfl
theorem mw665 : Cond.methodLink RX10 147 yX8_at ∈ wsL_law0 := mkT (mA43 (List.mem_of_getElem? (i := 5) rfl)) rfl
theorem mw666 : Cond.methodLink RL 41 yX11_reel ∈ wsL_law0 := mkT (mA98 (List.mem_of_getElem? (i := 8) rfl)) rfl
theorem mw667 : Cond.instanceMethod yX11_reel ∈ wsL_law0 := mkT (mA98 (List.mem_of_getElem? (i := 9) rfl)) rfl
theorem mw668 : Cond.selects RX11 yX11_reel yX11_reel ∈ wsL_law0 := mkT (mA98 (List.mem_of_getElem? (i := 10) rfl)) rfl
theorem mw669 : Cond.code yX11_reel cX11_reel 3 (some .int) ∈ wsL_law0 := mkT (mA98 (List.mem_of_getElem? (i := 11) rfl)) rfl
theorem mw670 : Cond.methodLink RX11 327 yX11_isReel ∈ wsL_law0 := mkT (mA98 (List.mem_of_getElem? (i := 12) rfl)) rfl
theorem mw671 : Cond.instanceMethod yX11_isReel ∈ wsL_law0 := mkT (mA98 (List.mem_of_getElem? (i := 14) rfl)) rfl
theorem mw672 : Cond.selects RX11 yX11_isReel yX11_isReel ∈ wsL_law0 := mP5 (y := yX11_isReel) (n := 43) (List.mem_of_getElem? (i := 6) rfl)
theorem mw673 : Cond.code yX11_isReel cX11_isReel 2 (some .boolean) ∈ wsL_law0 := mkT (mA98 (List.mem_of_getElem? (i := 15) rfl)) rfl
theorem mw674 : Cond.methodLink RX11 330 yX11_marksOf ∈ wsL_law0 := mkT (mA99 (List.mem_of_getElem? (i := 0) rfl)) rfl
theorem mw675 : Cond.instanceMethod yX11_marksOf ∈ wsL_law0 := mkT (mA99 (List.mem_of_getElem? (i := 2) rfl)) rfl
theorem mw676 : Cond.selects RX11 yX11_marksOf yX11_marksOf ∈ wsL_law0 := mP5 (y := yX11_marksOf) (n := 43) (List.mem_of_getElem? (i := 7) rfl)
theorem mw677 : Cond.code yX11_marksOf cX11_marksOf 4 (some .int) ∈ wsL_law0 := mkT (mA99 (List.mem_of_getElem? (i := 3) rfl)) rfl
theorem mw678 : Cond.methodLink RX11 333 yX11_joinsOf ∈ wsL_law0 := mkT (mA99 (List.mem_of_getElem? (i := 4) rfl)) rfl
theorem mw679 : Cond.instanceMethod yX11_joinsOf ∈ wsL_law0 := mkT (mA99 (List.mem_of_getElem? (i := 6) rfl)) rfl
theorem mw680 : Cond.selects RX11 yX11_joinsOf yX11_joinsOf ∈ wsL_law0 := mP5 (y := yX11_joinsOf) (n := 43) (List.mem_of_getElem? (i := 8) rfl)
theorem mw681 : Cond.code yX11_joinsOf cX11_joinsOf 4 (some .int) ∈ wsL_law0 := mkT (mA99 (List.mem_of_getElem? (i := 7) rfl)) rfl
theorem mw682 : Cond.methodLink RX11 339 yX11_isMended ∈ wsL_law0 := mkT (mA99 (List.mem_of_getElem? (i := 8) rfl)) rfl
theorem mw683 : Cond.instanceMethod yX11_isMended ∈ wsL_law0 := mkT (mA99 (List.mem_of_getElem? (i := 10) rfl)) rfl
theorem mw684 : Cond.selects RX11 yX11_isMended yX11_isMended ∈ wsL_law0 := mP5 (y := yX11_isMended) (n := 43) (List.mem_of_getElem? (i := 9) rfl)
theorem mw685 : Cond.code yX11_isMended cX11_isMended 2 (some .boolean) ∈ wsL_law0 := mkT (mA99 (List.mem_of_getElem? (i := 11) rfl)) rfl
theorem mw686 : Cond.methodLink RX11 320 yX11_hasBit ∈ wsL_law0 := mkT (mA99 (List.mem_of_getElem? (i := 12) rfl)) rfl
theorem mw687 : Cond.static yX11_hasBit ∈ wsL_law0 := mkT (mA99 (List.mem_of_getElem? (i := 13) rfl)) rfl
theorem mw688 : Cond.code yX11_hasBit cX11_hasBit 2 (some .boolean) ∈ wsL_law0 := mkT (mA99 (List.mem_of_getElem? (i := 14) rfl)) rfl
theorem mw689 : Cond.methodLink RX11 336 yX11_weaksOf ∈ wsL_law0 := mkT (mA99 (List.mem_of_getElem? (i := 15) rfl)) rfl
theorem mw690 : Cond.instanceMethod yX11_weaksOf ∈ wsL_law0 := mkT (mA100 (List.mem_of_getElem? (i := 1) rfl)) rfl
theorem mw691 : Cond.selects RX11 yX11_weaksOf yX11_weaksOf ∈ wsL_law0 := mP5 (y := yX11_weaksOf) (n := 43) (List.mem_of_getElem? (i := 10) rfl)
theorem mw692 : Cond.code yX11_weaksOf cX11_weaksOf 4 (some .int) ∈ wsL_law0 := mkT (mA100 (List.mem_of_getElem? (i := 2) rfl)) rfl
theorem mw693 : Cond.methodLink RL 42 yX10_mark ∈ wsL_law0 := mkT (mA43 (List.mem_of_getElem? (i := 6) rfl)) rfl
theorem mw694 : Cond.instanceMethod yX10_mark ∈ wsL_law0 := mkT (mA43 (List.mem_of_getElem? (i := 7) rfl)) rfl
theorem mw695 : Cond.selects RX10 yX10_mark yX10_mark ∈ wsL_law0 := mkT (mA43 (List.mem_of_getElem? (i := 8) rfl)) rfl
theorem mw696 : Cond.code yX10_mark cX10_mark 3 (some .int) ∈ wsL_law0 := mkT (mA43 (List.mem_of_getElem? (i := 9) rfl)) rfl
theorem mw697 : Cond.fieldLink RX10 150 "ReelChange$House" "towns" "LReelChange$Table;" ∈ wsL_law0 := mkT (mA7 (List.mem_of_getElem? (i := 12) rfl)) rfl
theorem mw698 : Cond.methodLink RX10 153 yX7_markBy ∈ wsL_law0 := mkT (mA43 (List.mem_of_getElem? (i := 10) rfl)) rfl
theorem mw699 : Cond.methodLink RL 45 yX11_mark ∈ wsL_law0 := mkT (mA100 (List.mem_of_getElem? (i := 3) rfl)) rfl
theorem mw700 : Cond.instanceMethod yX11_mark ∈ wsL_law0 := mkT (mA100 (List.mem_of_getElem? (i := 4) rfl)) rfl
theorem mw701 : Cond.selects RX11 yX11_mark yX11_mark ∈ wsL_law0 := mkT (mA100 (List.mem_of_getElem? (i := 5) rfl)) rfl
theorem mw702 : Cond.code yX11_mark cX11_mark 3 (some .int) ∈ wsL_law0 := mkT (mA100 (List.mem_of_getElem? (i := 6) rfl)) rfl
theorem mw703 : Cond.methodLink RX11 342 yX11_markOf ∈ wsL_law0 := mkT (mA100 (List.mem_of_getElem? (i := 7) rfl)) rfl
theorem mw704 : Cond.instanceMethod yX11_markOf ∈ wsL_law0 := mkT (mA100 (List.mem_of_getElem? (i := 9) rfl)) rfl
theorem mw705 : Cond.selects RX11 yX11_markOf yX11_markOf ∈ wsL_law0 := mP5 (y := yX11_markOf) (n := 43) (List.mem_of_getElem? (i := 11) rfl)
theorem mw706 : Cond.code yX11_markOf cX11_markOf 4 (some .int) ∈ wsL_law0 := mkT (mA100 (List.mem_of_getElem? (i := 10) rfl)) rfl
theorem mw707 : Cond.methodLink RL 46 yX10_shows ∈ wsL_law0 := mkT (mA43 (List.mem_of_getElem? (i := 11) rfl)) rfl
theorem mw708 : Cond.instanceMethod yX10_shows ∈ wsL_law0 := mkT (mA43 (List.mem_of_getElem? (i := 12) rfl)) rfl
theorem mw709 : Cond.selects RX10 yX10_shows yX10_shows ∈ wsL_law0 := mkT (mA43 (List.mem_of_getElem? (i := 13) rfl)) rfl
theorem mw710 : Cond.code yX10_shows cX10_shows 2 (some .int) ∈ wsL_law0 := mkT (mA43 (List.mem_of_getElem? (i := 14) rfl)) rfl
theorem mw711 : Cond.methodLink RX10 156 yX10_ofPlace ∈ wsL_law0 := mkT (mA43 (List.mem_of_getElem? (i := 15) rfl)) rfl
theorem mw712 : Cond.instanceMethod yX10_ofPlace ∈ wsL_law0 := mkT (mA44 (List.mem_of_getElem? (i := 1) rfl)) rfl
theorem mw713 : Cond.selects RX10 yX10_ofPlace yX10_ofPlace ∈ wsL_law0 := mP1 (y := yX10_ofPlace) (n := 10) (List.mem_of_getElem? (i := 13) rfl)
theorem mw714 : Cond.code yX10_ofPlace cX10_ofPlace 3 (some .int) ∈ wsL_law0 := mkT (mA44 (List.mem_of_getElem? (i := 2) rfl)) rfl
theorem mw715 : Cond.methodLink RL 49 yX11_shows ∈ wsL_law0 := mkT (mA100 (List.mem_of_getElem? (i := 11) rfl)) rfl
theorem mw716 : Cond.instanceMethod yX11_shows ∈ wsL_law0 := mkT (mA100 (List.mem_of_getElem? (i := 12) rfl)) rfl
theorem mw717 : Cond.selects RX11 yX11_shows yX11_shows ∈ wsL_law0 := mkT (mA100 (List.mem_of_getElem? (i := 13) rfl)) rfl
theorem mw718 : Cond.code yX11_shows cX11_shows 2 (some .int) ∈ wsL_law0 := mkT (mA100 (List.mem_of_getElem? (i := 14) rfl)) rfl
theorem mw719 : Cond.methodLink RX11 345 yX11_isPlace ∈ wsL_law0 := mkT (mA100 (List.mem_of_getElem? (i := 15) rfl)) rfl
theorem mw720 : Cond.instanceMethod yX11_isPlace ∈ wsL_law0 := mkT (mA101 (List.mem_of_getElem? (i := 1) rfl)) rfl
theorem mw721 : Cond.selects RX11 yX11_isPlace yX11_isPlace ∈ wsL_law0 := mP5 (y := yX11_isPlace) (n := 43) (List.mem_of_getElem? (i := 12) rfl)
theorem mw722 : Cond.code yX11_isPlace cX11_isPlace 2 (some .boolean) ∈ wsL_law0 := mkT (mA101 (List.mem_of_getElem? (i := 2) rfl)) rfl
theorem mw723 : Cond.methodLink RX11 324 yX11_reelAt ∈ wsL_law0 := mkT (mA101 (List.mem_of_getElem? (i := 3) rfl)) rfl
theorem mw724 : Cond.instanceMethod yX11_reelAt ∈ wsL_law0 := mkT (mA101 (List.mem_of_getElem? (i := 5) rfl)) rfl
theorem mw725 : Cond.selects RX11 yX11_reelAt yX11_reelAt ∈ wsL_law0 := mP5 (y := yX11_reelAt) (n := 43) (List.mem_of_getElem? (i := 13) rfl)
theorem mw726 : Cond.code yX11_reelAt cX11_reelAt 2 (some .int) ∈ wsL_law0 := mkT (mA101 (List.mem_of_getElem? (i := 6) rfl)) rfl
theorem mw727 : Cond.methodLink RL 50 yX10_thread ∈ wsL_law0 := mkT (mA44 (List.mem_of_getElem? (i := 3) rfl)) rfl
theorem mw728 : Cond.instanceMethod yX10_thread ∈ wsL_law0 := mkT (mA44 (List.mem_of_getElem? (i := 4) rfl)) rfl
theorem mw729 : Cond.selects RX10 yX10_thread yX10_thread ∈ wsL_law0 := mkT (mA44 (List.mem_of_getElem? (i := 5) rfl)) rfl
theorem mw730 : Cond.code yX10_thread cX10_thread 2 (some .int) ∈ wsL_law0 := mkT (mA44 (List.mem_of_getElem? (i := 6) rfl)) rfl
theorem mw731 : Cond.methodLink RL 53 yX11_thread ∈ wsL_law0 := mkT (mA101 (List.mem_of_getElem? (i := 7) rfl)) rfl
theorem mw732 : Cond.instanceMethod yX11_thread ∈ wsL_law0 := mkT (mA101 (List.mem_of_getElem? (i := 8) rfl)) rfl
theorem mw733 : Cond.selects RX11 yX11_thread yX11_thread ∈ wsL_law0 := mkT (mA101 (List.mem_of_getElem? (i := 9) rfl)) rfl
theorem mw734 : Cond.code yX11_thread cX11_thread 2 (some .int) ∈ wsL_law0 := mkT (mA101 (List.mem_of_getElem? (i := 10) rfl)) rfl
theorem mw735 : Cond.methodLink RL 54 yX10_believes ∈ wsL_law0 := mkT (mA44 (List.mem_of_getElem? (i := 7) rfl)) rfl
theorem mw736 : Cond.instanceMethod yX10_believes ∈ wsL_law0 := mkT (mA44 (List.mem_of_getElem? (i := 8) rfl)) rfl
theorem mw737 : Cond.selects RX10 yX10_believes yX10_believes ∈ wsL_law0 := mkT (mA44 (List.mem_of_getElem? (i := 9) rfl)) rfl
theorem mw738 : Cond.code yX10_believes cX10_believes 3 (some .int) ∈ wsL_law0 := mkT (mA44 (List.mem_of_getElem? (i := 10) rfl)) rfl
theorem mw739 : Cond.methodLink RX10 159 yX10_ofNight ∈ wsL_law0 := mkT (mA44 (List.mem_of_getElem? (i := 11) rfl)) rfl
theorem mw740 : Cond.instanceMethod yX10_ofNight ∈ wsL_law0 := mkT (mA44 (List.mem_of_getElem? (i := 13) rfl)) rfl
theorem mw741 : Cond.selects RX10 yX10_ofNight yX10_ofNight ∈ wsL_law0 := mP1 (y := yX10_ofNight) (n := 10) (List.mem_of_getElem? (i := 14) rfl)
theorem mw742 : Cond.code yX10_ofNight cX10_ofNight 4 (some .int) ∈ wsL_law0 := mkT (mA44 (List.mem_of_getElem? (i := 14) rfl)) rfl
theorem mw743 : Cond.fieldLink RX10 381 "ReelChange$Night" "rows" "LReelChange$Table;" ∈ wsL_law0 := mkT (mA16 (List.mem_of_getElem? (i := 0) rfl)) rfl
theorem mw744 : Cond.methodLink RX10 163 yX10_runNight ∈ wsL_law0 := mkT (mA44 (List.mem_of_getElem? (i := 15) rfl)) rfl
theorem mw745 : Cond.instanceMethod yX10_runNight ∈ wsL_law0 := mkT (mA45 (List.mem_of_getElem? (i := 1) rfl)) rfl
theorem mw746 : Cond.selects RX10 yX10_runNight yX10_runNight ∈ wsL_law0 := mP1 (y := yX10_runNight) (n := 10) (List.mem_of_getElem? (i := 15) rfl)
theorem mw747 : Cond.code yX10_runNight cX10_runNight 2 (some .boolean) ∈ wsL_law0 := mkT (mA45 (List.mem_of_getElem? (i := 2) rfl)) rfl
theorem mw748 : Cond.fieldLink RX10 191 "ReelChange$House" "men" "LReelChange$Table;" ∈ wsL_law0 := mkT (mA8 (List.mem_of_getElem? (i := 4) rfl)) rfl
theorem mw749 : Cond.methodLink RX10 321 yX5_meet ∈ wsL_law0 := mkT (mA45 (List.mem_of_getElem? (i := 3) rfl)) rfl
theorem mw750 : Cond.instanceMethod yX5_meet ∈ wsL_law0 := mkT (mA45 (List.mem_of_getElem? (i := 4) rfl)) rfl
theorem mw751 : Cond.selects RX5 yX5_meet yX5_meet ∈ wsL_law0 := mkT (mA45 (List.mem_of_getElem? (i := 5) rfl)) rfl
theorem mw752 : Cond.code yX5_meet cX5_meet 5 none ∈ wsL_law0 := mkT (mA45 (List.mem_of_getElem? (i := 6) rfl)) rfl
theorem mw753 : Cond.fieldLink RX5 46 "ReelChange$State" "places" "LReelChange$Table;" ∈ wsL_law0 := mkT (mA5 (List.mem_of_getElem? (i := 15) rfl)) rfl
theorem mw754 : Cond.fieldLink RX5 51 "ReelChange$Table" "count" "I" ∈ wsL_law0 := mkT (mA4 (List.mem_of_getElem? (i := 1) rfl)) rfl
theorem mw755 : Cond.fieldLink RX5 54 "ReelChange$House" "men" "LReelChange$Table;" ∈ wsL_law0 := mkT (mA8 (List.mem_of_getElem? (i := 2) rfl)) rfl
theorem mw756 : Cond.methodLink RX5 63 Lib.Math.max.name ∈ wsL_law0 := mkT (mA45 (List.mem_of_getElem? (i := 8) rfl)) rfl
theorem mw757 : Cond.methodLink RX5 59 yX8_at ∈ wsL_law0 := mkT (mA45 (List.mem_of_getElem? (i := 7) rfl)) rfl
theorem mw758 : Cond.methodLink RX5 68 yX7_reelAt ∈ wsL_law0 := mkT (mA45 (List.mem_of_getElem? (i := 9) rfl)) rfl
theorem mw759 : Cond.instanceMethod yX7_reelAt ∈ wsL_law0 := mkT (mA45 (List.mem_of_getElem? (i := 10) rfl)) rfl
theorem mw760 : Cond.selects RX7 yX7_reelAt yX7_reelAt ∈ wsL_law0 := mkT (mA45 (List.mem_of_getElem? (i := 11) rfl)) rfl
theorem mw761 : Cond.code yX7_reelAt cX7_reelAt 2 (some .int) ∈ wsL_law0 := mkT (mA45 (List.mem_of_getElem? (i := 12) rfl)) rfl
theorem mw762 : Cond.methodLink RX5 72 yX7_believedBy ∈ wsL_law0 := mkT (mA45 (List.mem_of_getElem? (i := 13) rfl)) rfl
theorem mw763 : Cond.instanceMethod yX7_believedBy ∈ wsL_law0 := mkT (mA45 (List.mem_of_getElem? (i := 14) rfl)) rfl
theorem mw764 : Cond.selects RX7 yX7_believedBy yX7_believedBy ∈ wsL_law0 := mkT (mA45 (List.mem_of_getElem? (i := 15) rfl)) rfl
theorem mw765 : Cond.code yX7_believedBy cX7_believedBy 8 (some .int) ∈ wsL_law0 := mkT (mA46 (List.mem_of_getElem? (i := 0) rfl)) rfl
theorem mw766 : Cond.methodLink RX5 76 yX8_put ∈ wsL_law0 := mkT (mA46 (List.mem_of_getElem? (i := 1) rfl)) rfl
theorem mw767 : Cond.methodLink RX10 197 yX5_slipBy ∈ wsL_law0 := mkT (mA46 (List.mem_of_getElem? (i := 2) rfl)) rfl
theorem mw768 : Cond.instanceMethod yX5_slipBy ∈ wsL_law0 := mkT (mA46 (List.mem_of_getElem? (i := 3) rfl)) rfl
theorem mw769 : Cond.selects RX5 yX5_slipBy yX5_slipBy ∈ wsL_law0 := mkT (mA46 (List.mem_of_getElem? (i := 4) rfl)) rfl
theorem mw770 : Cond.code yX5_slipBy cX5_slipBy 2 none ∈ wsL_law0 := mkT (mA46 (List.mem_of_getElem? (i := 5) rfl)) rfl
theorem mw771 : Cond.methodLink RX10 200 yX5_run ∈ wsL_law0 := mkT (mA46 (List.mem_of_getElem? (i := 6) rfl)) rfl
theorem mw772 : Cond.instanceMethod yX5_run ∈ wsL_law0 := mkT (mA46 (List.mem_of_getElem? (i := 7) rfl)) rfl
theorem mw773 : Cond.selects RX5 yX5_run yX5_run ∈ wsL_law0 := mkT (mA46 (List.mem_of_getElem? (i := 8) rfl)) rfl
theorem mw774 : Cond.code yX5_run cX5_run 5 none ∈ wsL_law0 := mkT (mA46 (List.mem_of_getElem? (i := 9) rfl)) rfl
theorem mw775 : Cond.fieldLink RX5 80 "ReelChange$State" "reels" "LReelChange$Table;" ∈ wsL_law0 := mkT (mA5 (List.mem_of_getElem? (i := 4) rfl)) rfl
theorem mw776 : Cond.methodLink RX5 83 yX5_goBy ∈ wsL_law0 := mkT (mA46 (List.mem_of_getElem? (i := 10) rfl)) rfl
theorem mw777 : Cond.instanceMethod yX5_goBy ∈ wsL_law0 := mkT (mA46 (List.mem_of_getElem? (i := 12) rfl)) rfl
theorem mw778 : Cond.selects RX5 yX5_goBy yX5_goBy ∈ wsL_law0 := mP2 (y := yX5_goBy) (n := 9) (List.mem_of_getElem? (i := 0) rfl)
theorem mw779 : Cond.code yX5_goBy cX5_goBy 3 none ∈ wsL_law0 := mkT (mA46 (List.mem_of_getElem? (i := 13) rfl)) rfl
theorem mw780 : Cond.methodLink RX5 86 yX5_showReel ∈ wsL_law0 := mkT (mA46 (List.mem_of_getElem? (i := 14) rfl)) rfl
theorem mw781 : Cond.instanceMethod yX5_showReel ∈ wsL_law0 := mkT (mA47 (List.mem_of_getElem? (i := 0) rfl)) rfl
theorem mw782 : Cond.selects RX5 yX5_showReel yX5_showReel ∈ wsL_law0 := mP2 (y := yX5_showReel) (n := 9) (List.mem_of_getElem? (i := 1) rfl)
theorem mw783 : Cond.code yX5_showReel cX5_showReel 11 none ∈ wsL_law0 := mkT (mA47 (List.mem_of_getElem? (i := 1) rfl)) rfl
theorem mw784 : Cond.methodLink RX5 98 Lib.Math.min.name ∈ wsL_law0 := mkT (mA47 (List.mem_of_getElem? (i := 11) rfl)) rfl
theorem mw785 : Cond.static Lib.Math.min.name ∈ wsL_law0 := mkT (mA47 (List.mem_of_getElem? (i := 12) rfl)) rfl
theorem mw786 : Cond.code Lib.Math.min.name Lib.Math.min.code 2 (some .int) ∈ wsL_law0 := mkT (mA47 (List.mem_of_getElem? (i := 13) rfl)) rfl
theorem mw787 : Cond.methodLink RX5 94 yX5_slipNow ∈ wsL_law0 := mkT (mA47 (List.mem_of_getElem? (i := 2) rfl)) rfl
theorem mw788 : Cond.instanceMethod yX5_slipNow ∈ wsL_law0 := mkT (mA47 (List.mem_of_getElem? (i := 4) rfl)) rfl
theorem mw789 : Cond.selects RX5 yX5_slipNow yX5_slipNow ∈ wsL_law0 := mP2 (y := yX5_slipNow) (n := 9) (List.mem_of_getElem? (i := 2) rfl)
theorem mw790 : Cond.code yX5_slipNow cX5_slipNow 1 (some .int) ∈ wsL_law0 := mkT (mA47 (List.mem_of_getElem? (i := 5) rfl)) rfl
theorem mw791 : Cond.methodLink RX5 104 yX5_draw ∈ wsL_law0 := mkT (mA47 (List.mem_of_getElem? (i := 6) rfl)) rfl
theorem mw792 : Cond.instanceMethod yX5_draw ∈ wsL_law0 := mkT (mA47 (List.mem_of_getElem? (i := 8) rfl)) rfl
theorem mw793 : Cond.selects RX5 yX5_draw yX5_draw ∈ wsL_law0 := mP2 (y := yX5_draw) (n := 9) (List.mem_of_getElem? (i := 3) rfl)
theorem mw794 : Cond.code yX5_draw cX5_draw 1 (some .int) ∈ wsL_law0 := mkT (mA47 (List.mem_of_getElem? (i := 9) rfl)) rfl
theorem mw795 : Cond.constant RX5 114 (65537) ∈ wsL_law0 := mkT (mA47 (List.mem_of_getElem? (i := 10) rfl)) rfl
theorem mw796 : Cond.methodLink RX5 101 yX3_number ∈ wsL_law0 := mkT (mA47 (List.mem_of_getElem? (i := 14) rfl)) rfl
theorem mw797 : Cond.methodLink RX5 90 yX5_snapWeakPlaces ∈ wsL_law0 := mkT (mA47 (List.mem_of_getElem? (i := 15) rfl)) rfl
theorem mw798 : Cond.instanceMethod yX5_snapWeakPlaces ∈ wsL_law0 := mkT (mA48 (List.mem_of_getElem? (i := 1) rfl)) rfl
theorem mw799 : Cond.selects RX5 yX5_snapWeakPlaces yX5_snapWeakPlaces ∈ wsL_law0 := mP2 (y := yX5_snapWeakPlaces) (n := 9) (List.mem_of_getElem? (i := 4) rfl)
theorem mw800 : Cond.code yX5_snapWeakPlaces cX5_snapWeakPlaces 5 none ∈ wsL_law0 := mkT (mA48 (List.mem_of_getElem? (i := 2) rfl)) rfl
theorem mw801 : Cond.fieldLink RX5 107 "ReelChange$State" "weaks" "LReelChange$Table;" ∈ wsL_law0 := mkT (mA5 (List.mem_of_getElem? (i := 12) rfl)) rfl
theorem mw802 : Cond.methodLink RX5 110 yX7_isWeak ∈ wsL_law0 := mkT (mA48 (List.mem_of_getElem? (i := 3) rfl)) rfl
theorem mw803 : Cond.methodLink RL 57 yX11_believes ∈ wsL_law0 := mkT (mA101 (List.mem_of_getElem? (i := 11) rfl)) rfl
theorem mw804 : Cond.instanceMethod yX11_believes ∈ wsL_law0 := mkT (mA101 (List.mem_of_getElem? (i := 12) rfl)) rfl
theorem mw805 : Cond.selects RX11 yX11_believes yX11_believes ∈ wsL_law0 := mkT (mA101 (List.mem_of_getElem? (i := 13) rfl)) rfl
theorem mw806 : Cond.code yX11_believes cX11_believes 3 (some .int) ∈ wsL_law0 := mkT (mA101 (List.mem_of_getElem? (i := 14) rfl)) rfl
theorem mw807 : Cond.methodLink RX11 376 yX11_canTell ∈ wsL_law0 := mkT (mA101 (List.mem_of_getElem? (i := 15) rfl)) rfl
theorem mw808 : Cond.instanceMethod yX11_canTell ∈ wsL_law0 := mkT (mA102 (List.mem_of_getElem? (i := 1) rfl)) rfl
theorem mw809 : Cond.selects RX11 yX11_canTell yX11_canTell ∈ wsL_law0 := mP5 (y := yX11_canTell) (n := 43) (List.mem_of_getElem? (i := 14) rfl)
theorem mw810 : Cond.code yX11_canTell cX11_canTell 3 (some .boolean) ∈ wsL_law0 := mkT (mA102 (List.mem_of_getElem? (i := 2) rfl)) rfl
theorem mw811 : Cond.methodLink RX11 370 yX11_isMan ∈ wsL_law0 := mkT (mA102 (List.mem_of_getElem? (i := 3) rfl)) rfl
theorem mw812 : Cond.instanceMethod yX11_isMan ∈ wsL_law0 := mkT (mA102 (List.mem_of_getElem? (i := 5) rfl)) rfl
theorem mw813 : Cond.selects RX11 yX11_isMan yX11_isMan ∈ wsL_law0 := mP5 (y := yX11_isMan) (n := 43) (List.mem_of_getElem? (i := 15) rfl)
theorem mw814 : Cond.code yX11_isMan cX11_isMan 2 (some .boolean) ∈ wsL_law0 := mkT (mA102 (List.mem_of_getElem? (i := 6) rfl)) rfl
theorem mw815 : Cond.methodLink RX11 373 yX11_layTold ∈ wsL_law0 := mkT (mA102 (List.mem_of_getElem? (i := 7) rfl)) rfl
theorem mw816 : Cond.instanceMethod yX11_layTold ∈ wsL_law0 := mkT (mA102 (List.mem_of_getElem? (i := 9) rfl)) rfl
theorem mw817 : Cond.selects RX11 yX11_layTold yX11_layTold ∈ wsL_law0 := mP6 (y := yX11_layTold) (n := 43) (List.mem_of_getElem? (i := 0) rfl)
theorem mw818 : Cond.code yX11_layTold cX11_layTold 3 none ∈ wsL_law0 := mkT (mA102 (List.mem_of_getElem? (i := 10) rfl)) rfl
theorem mw819 : Cond.methodLink RX11 367 yX11_layNight ∈ wsL_law0 := mkT (mA102 (List.mem_of_getElem? (i := 11) rfl)) rfl
theorem mw820 : Cond.instanceMethod yX11_layNight ∈ wsL_law0 := mkT (mA102 (List.mem_of_getElem? (i := 13) rfl)) rfl
theorem mw821 : Cond.selects RX11 yX11_layNight yX11_layNight ∈ wsL_law0 := mP6 (y := yX11_layNight) (n := 43) (List.mem_of_getElem? (i := 1) rfl)
theorem mw822 : Cond.code yX11_layNight cX11_layNight 6 none ∈ wsL_law0 := mkT (mA102 (List.mem_of_getElem? (i := 14) rfl)) rfl
theorem mw823 : Cond.methodLink RX11 354 yX11_framesAt ∈ wsL_law0 := mkT (mA102 (List.mem_of_getElem? (i := 15) rfl)) rfl
theorem mw824 : Cond.instanceMethod yX11_framesAt ∈ wsL_law0 := mkT (mA103 (List.mem_of_getElem? (i := 1) rfl)) rfl
theorem mw825 : Cond.selects RX11 yX11_framesAt yX11_framesAt ∈ wsL_law0 := mP6 (y := yX11_framesAt) (n := 43) (List.mem_of_getElem? (i := 2) rfl)
theorem mw826 : Cond.code yX11_framesAt cX11_framesAt 2 (some .int) ∈ wsL_law0 := mkT (mA103 (List.mem_of_getElem? (i := 2) rfl)) rfl
theorem mw827 : Cond.methodLink RX11 357 yX11_isGone ∈ wsL_law0 := mkT (mA103 (List.mem_of_getElem? (i := 3) rfl)) rfl
theorem mw828 : Cond.instanceMethod yX11_isGone ∈ wsL_law0 := mkT (mA103 (List.mem_of_getElem? (i := 5) rfl)) rfl
theorem mw829 : Cond.selects RX11 yX11_isGone yX11_isGone ∈ wsL_law0 := mP6 (y := yX11_isGone) (n := 43) (List.mem_of_getElem? (i := 3) rfl)
theorem mw830 : Cond.code yX11_isGone cX11_isGone 2 (some .boolean) ∈ wsL_law0 := mkT (mA103 (List.mem_of_getElem? (i := 6) rfl)) rfl
theorem mw831 : Cond.methodLink RX11 360 yX11_follows ∈ wsL_law0 := mkT (mA103 (List.mem_of_getElem? (i := 7) rfl)) rfl
theorem mw832 : Cond.instanceMethod yX11_follows ∈ wsL_law0 := mkT (mA103 (List.mem_of_getElem? (i := 9) rfl)) rfl
theorem mw833 : Cond.selects RX11 yX11_follows yX11_follows ∈ wsL_law0 := mP6 (y := yX11_follows) (n := 43) (List.mem_of_getElem? (i := 4) rfl)
theorem mw834 : Cond.code yX11_follows cX11_follows 7 none ∈ wsL_law0 := mkT (mA103 (List.mem_of_getElem? (i := 10) rfl)) rfl
theorem mw835 : Cond.methodLink RX11 364 yX11_believesOf ∈ wsL_law0 := mkT (mA103 (List.mem_of_getElem? (i := 11) rfl)) rfl
theorem mw836 : Cond.instanceMethod yX11_believesOf ∈ wsL_law0 := mkT (mA103 (List.mem_of_getElem? (i := 13) rfl)) rfl
theorem mw837 : Cond.selects RX11 yX11_believesOf yX11_believesOf ∈ wsL_law0 := mP6 (y := yX11_believesOf) (n := 43) (List.mem_of_getElem? (i := 5) rfl)
theorem mw838 : Cond.code yX11_believesOf cX11_believesOf 7 (some .int) ∈ wsL_law0 := mkT (mA103 (List.mem_of_getElem? (i := 14) rfl)) rfl
theorem mw839 : Cond.methodLink RX11 348 yX11_least ∈ wsL_law0 := mkT (mA103 (List.mem_of_getElem? (i := 15) rfl)) rfl
theorem mw840 : Cond.static yX11_least ∈ wsL_law0 := mkT (mA104 (List.mem_of_getElem? (i := 0) rfl)) rfl
theorem mw841 : Cond.code yX11_least cX11_least 2 (some .int) ∈ wsL_law0 := mkT (mA104 (List.mem_of_getElem? (i := 1) rfl)) rfl
theorem mw842 : Cond.methodLink RX11 351 yX11_most ∈ wsL_law0 := mkT (mA104 (List.mem_of_getElem? (i := 2) rfl)) rfl
theorem mw843 : Cond.static yX11_most ∈ wsL_law0 := mkT (mA104 (List.mem_of_getElem? (i := 3) rfl)) rfl
theorem mw844 : Cond.code yX11_most cX11_most 2 (some .int) ∈ wsL_law0 := mkT (mA104 (List.mem_of_getElem? (i := 4) rfl)) rfl
theorem mw845 : Cond.methodLink RL 58 yX10_starts ∈ wsL_law0 := mkT (mA48 (List.mem_of_getElem? (i := 4) rfl)) rfl
theorem mw846 : Cond.instanceMethod yX10_starts ∈ wsL_law0 := mkT (mA48 (List.mem_of_getElem? (i := 5) rfl)) rfl
theorem mw847 : Cond.selects RX10 yX10_starts yX10_starts ∈ wsL_law0 := mkT (mA48 (List.mem_of_getElem? (i := 6) rfl)) rfl
theorem mw848 : Cond.code yX10_starts cX10_starts 3 (some .int) ∈ wsL_law0 := mkT (mA48 (List.mem_of_getElem? (i := 7) rfl)) rfl
theorem mw849 : Cond.methodLink RL 61 yX11_starts ∈ wsL_law0 := mkT (mA104 (List.mem_of_getElem? (i := 5) rfl)) rfl
theorem mw850 : Cond.instanceMethod yX11_starts ∈ wsL_law0 := mkT (mA104 (List.mem_of_getElem? (i := 6) rfl)) rfl
theorem mw851 : Cond.selects RX11 yX11_starts yX11_starts ∈ wsL_law0 := mkT (mA104 (List.mem_of_getElem? (i := 7) rfl)) rfl
theorem mw852 : Cond.code yX11_starts cX11_starts 3 (some .int) ∈ wsL_law0 := mkT (mA104 (List.mem_of_getElem? (i := 8) rfl)) rfl
theorem mw853 : Cond.methodLink RL 62 yX10_changes ∈ wsL_law0 := mkT (mA48 (List.mem_of_getElem? (i := 8) rfl)) rfl
theorem mw854 : Cond.instanceMethod yX10_changes ∈ wsL_law0 := mkT (mA48 (List.mem_of_getElem? (i := 9) rfl)) rfl
theorem mw855 : Cond.selects RX10 yX10_changes yX10_changes ∈ wsL_law0 := mkT (mA48 (List.mem_of_getElem? (i := 10) rfl)) rfl
theorem mw856 : Cond.code yX10_changes cX10_changes 3 (some .int) ∈ wsL_law0 := mkT (mA48 (List.mem_of_getElem? (i := 11) rfl)) rfl
theorem mw857 : Cond.methodLink RL 65 yX11_changes ∈ wsL_law0 := mkT (mA104 (List.mem_of_getElem? (i := 9) rfl)) rfl
theorem mw858 : Cond.instanceMethod yX11_changes ∈ wsL_law0 := mkT (mA104 (List.mem_of_getElem? (i := 10) rfl)) rfl
theorem mw859 : Cond.selects RX11 yX11_changes yX11_changes ∈ wsL_law0 := mkT (mA104 (List.mem_of_getElem? (i := 11) rfl)) rfl
theorem mw860 : Cond.code yX11_changes cX11_changes 3 (some .int) ∈ wsL_law0 := mkT (mA104 (List.mem_of_getElem? (i := 12) rfl)) rfl
theorem mw861 : Cond.methodLink RL 66 yX10_lost ∈ wsL_law0 := mkT (mA48 (List.mem_of_getElem? (i := 12) rfl)) rfl
theorem mw862 : Cond.instanceMethod yX10_lost ∈ wsL_law0 := mkT (mA48 (List.mem_of_getElem? (i := 13) rfl)) rfl
theorem mw863 : Cond.selects RX10 yX10_lost yX10_lost ∈ wsL_law0 := mkT (mA48 (List.mem_of_getElem? (i := 14) rfl)) rfl
theorem mw864 : Cond.code yX10_lost cX10_lost 3 (some .int) ∈ wsL_law0 := mkT (mA48 (List.mem_of_getElem? (i := 15) rfl)) rfl
theorem mw865 : Cond.methodLink RL 69 yX11_lost ∈ wsL_law0 := mkT (mA104 (List.mem_of_getElem? (i := 13) rfl)) rfl
theorem mw866 : Cond.instanceMethod yX11_lost ∈ wsL_law0 := mkT (mA104 (List.mem_of_getElem? (i := 14) rfl)) rfl
theorem mw867 : Cond.selects RX11 yX11_lost yX11_lost ∈ wsL_law0 := mkT (mA104 (List.mem_of_getElem? (i := 15) rfl)) rfl
theorem mw868 : Cond.code yX11_lost cX11_lost 3 (some .int) ∈ wsL_law0 := mkT (mA105 (List.mem_of_getElem? (i := 0) rfl)) rfl
theorem mw869 : Cond.methodLink RL 70 yX10_black ∈ wsL_law0 := mkT (mA49 (List.mem_of_getElem? (i := 0) rfl)) rfl
theorem mw870 : Cond.instanceMethod yX10_black ∈ wsL_law0 := mkT (mA49 (List.mem_of_getElem? (i := 1) rfl)) rfl
theorem mw871 : Cond.selects RX10 yX10_black yX10_black ∈ wsL_law0 := mkT (mA49 (List.mem_of_getElem? (i := 2) rfl)) rfl
theorem mw872 : Cond.code yX10_black cX10_black 3 (some .int) ∈ wsL_law0 := mkT (mA49 (List.mem_of_getElem? (i := 3) rfl)) rfl
theorem mw873 : Cond.methodLink RL 73 yX11_black ∈ wsL_law0 := mkT (mA105 (List.mem_of_getElem? (i := 1) rfl)) rfl
theorem mw874 : Cond.instanceMethod yX11_black ∈ wsL_law0 := mkT (mA105 (List.mem_of_getElem? (i := 2) rfl)) rfl
theorem mw875 : Cond.selects RX11 yX11_black yX11_black ∈ wsL_law0 := mkT (mA105 (List.mem_of_getElem? (i := 3) rfl)) rfl
theorem mw876 : Cond.code yX11_black cX11_black 3 (some .int) ∈ wsL_law0 := mkT (mA105 (List.mem_of_getElem? (i := 4) rfl)) rfl
theorem mw877 : Cond.methodLink RL 74 yX10_tail ∈ wsL_law0 := mkT (mA49 (List.mem_of_getElem? (i := 4) rfl)) rfl
theorem mw878 : Cond.instanceMethod yX10_tail ∈ wsL_law0 := mkT (mA49 (List.mem_of_getElem? (i := 5) rfl)) rfl
theorem mw879 : Cond.selects RX10 yX10_tail yX10_tail ∈ wsL_law0 := mkT (mA49 (List.mem_of_getElem? (i := 6) rfl)) rfl
theorem mw880 : Cond.code yX10_tail cX10_tail 3 (some .int) ∈ wsL_law0 := mkT (mA49 (List.mem_of_getElem? (i := 7) rfl)) rfl
theorem mw881 : Cond.methodLink RL 77 yX11_tail ∈ wsL_law0 := mkT (mA105 (List.mem_of_getElem? (i := 5) rfl)) rfl
theorem mw882 : Cond.instanceMethod yX11_tail ∈ wsL_law0 := mkT (mA105 (List.mem_of_getElem? (i := 6) rfl)) rfl
theorem mw883 : Cond.selects RX11 yX11_tail yX11_tail ∈ wsL_law0 := mkT (mA105 (List.mem_of_getElem? (i := 7) rfl)) rfl
theorem mw884 : Cond.code yX11_tail cX11_tail 3 (some .int) ∈ wsL_law0 := mkT (mA105 (List.mem_of_getElem? (i := 8) rfl)) rfl
theorem mw885 : Cond.methodLink RX11 379 yX11_tailOf ∈ wsL_law0 := mkT (mA105 (List.mem_of_getElem? (i := 9) rfl)) rfl
theorem mw886 : Cond.instanceMethod yX11_tailOf ∈ wsL_law0 := mkT (mA105 (List.mem_of_getElem? (i := 11) rfl)) rfl
theorem mw887 : Cond.selects RX11 yX11_tailOf yX11_tailOf ∈ wsL_law0 := mP6 (y := yX11_tailOf) (n := 43) (List.mem_of_getElem? (i := 6) rfl)
theorem mw888 : Cond.code yX11_tailOf cX11_tailOf 2 (some .int) ∈ wsL_law0 := mkT (mA105 (List.mem_of_getElem? (i := 12) rfl)) rfl
theorem mw889 : Cond.methodLink RL 78 yX10_begins ∈ wsL_law0 := mkT (mA49 (List.mem_of_getElem? (i := 8) rfl)) rfl
theorem mw890 : Cond.instanceMethod yX10_begins ∈ wsL_law0 := mkT (mA49 (List.mem_of_getElem? (i := 9) rfl)) rfl
theorem mw891 : Cond.selects RX10 yX10_begins yX10_begins ∈ wsL_law0 := mkT (mA49 (List.mem_of_getElem? (i := 10) rfl)) rfl
theorem mw892 : Cond.code yX10_begins cX10_begins 3 (some .int) ∈ wsL_law0 := mkT (mA49 (List.mem_of_getElem? (i := 11) rfl)) rfl
theorem mw893 : Cond.methodLink RL 81 yX11_begins ∈ wsL_law0 := mkT (mA105 (List.mem_of_getElem? (i := 13) rfl)) rfl
theorem mw894 : Cond.instanceMethod yX11_begins ∈ wsL_law0 := mkT (mA105 (List.mem_of_getElem? (i := 14) rfl)) rfl
theorem mw895 : Cond.selects RX11 yX11_begins yX11_begins ∈ wsL_law0 := mkT (mA105 (List.mem_of_getElem? (i := 15) rfl)) rfl
theorem mw896 : Cond.code yX11_begins cX11_begins 3 (some .int) ∈ wsL_law0 := mkT (mA106 (List.mem_of_getElem? (i := 0) rfl)) rfl
theorem mw897 : Cond.methodLink RL 82 yX10_length ∈ wsL_law0 := mkT (mA49 (List.mem_of_getElem? (i := 12) rfl)) rfl
theorem mw898 : Cond.instanceMethod yX10_length ∈ wsL_law0 := mkT (mA49 (List.mem_of_getElem? (i := 13) rfl)) rfl
theorem mw899 : Cond.selects RX10 yX10_length yX10_length ∈ wsL_law0 := mkT (mA49 (List.mem_of_getElem? (i := 14) rfl)) rfl
theorem mw900 : Cond.code yX10_length cX10_length 2 (some .int) ∈ wsL_law0 := mkT (mA49 (List.mem_of_getElem? (i := 15) rfl)) rfl
theorem mw901 : Cond.methodLink RX10 166 yX5_endTick ∈ wsL_law0 := mkT (mA50 (List.mem_of_getElem? (i := 0) rfl)) rfl
theorem mw902 : Cond.instanceMethod yX5_endTick ∈ wsL_law0 := mkT (mA50 (List.mem_of_getElem? (i := 1) rfl)) rfl
theorem mw903 : Cond.selects RX5 yX5_endTick yX5_endTick ∈ wsL_law0 := mkT (mA50 (List.mem_of_getElem? (i := 2) rfl)) rfl
theorem mw904 : Cond.code yX5_endTick cX5_endTick 1 (some .int) ∈ wsL_law0 := mkT (mA50 (List.mem_of_getElem? (i := 3) rfl)) rfl
theorem mw905 : Cond.methodLink RL 85 yX11_length ∈ wsL_law0 := mkT (mA106 (List.mem_of_getElem? (i := 1) rfl)) rfl
theorem mw906 : Cond.instanceMethod yX11_length ∈ wsL_law0 := mkT (mA106 (List.mem_of_getElem? (i := 2) rfl)) rfl
theorem mw907 : Cond.selects RX11 yX11_length yX11_length ∈ wsL_law0 := mkT (mA106 (List.mem_of_getElem? (i := 3) rfl)) rfl
theorem mw908 : Cond.code yX11_length cX11_length 2 (some .int) ∈ wsL_law0 := mkT (mA106 (List.mem_of_getElem? (i := 4) rfl)) rfl
theorem mw909 : Cond.methodLink RL 86 yX10_all ∈ wsL_law0 := mkT (mA50 (List.mem_of_getElem? (i := 4) rfl)) rfl
theorem mw910 : Cond.instanceMethod yX10_all ∈ wsL_law0 := mkT (mA50 (List.mem_of_getElem? (i := 5) rfl)) rfl
theorem mw911 : Cond.selects RX10 yX10_all yX10_all ∈ wsL_law0 := mkT (mA50 (List.mem_of_getElem? (i := 6) rfl)) rfl
theorem mw912 : Cond.code yX10_all cX10_all 3 (some .int) ∈ wsL_law0 := mkT (mA50 (List.mem_of_getElem? (i := 7) rfl)) rfl
theorem mw913 : Cond.methodLink RX10 170 yX5_sum ∈ wsL_law0 := mkT (mA50 (List.mem_of_getElem? (i := 8) rfl)) rfl
theorem mw914 : Cond.instanceMethod yX5_sum ∈ wsL_law0 := mkT (mA50 (List.mem_of_getElem? (i := 9) rfl)) rfl
theorem mw915 : Cond.selects RX5 yX5_sum yX5_sum ∈ wsL_law0 := mkT (mA50 (List.mem_of_getElem? (i := 10) rfl)) rfl
theorem mw916 : Cond.code yX5_sum cX5_sum 4 (some .int) ∈ wsL_law0 := mkT (mA50 (List.mem_of_getElem? (i := 11) rfl)) rfl
theorem mw917 : Cond.methodLink RL 89 yX11_all ∈ wsL_law0 := mkT (mA106 (List.mem_of_getElem? (i := 5) rfl)) rfl
theorem mw918 : Cond.instanceMethod yX11_all ∈ wsL_law0 := mkT (mA106 (List.mem_of_getElem? (i := 6) rfl)) rfl
theorem mw919 : Cond.selects RX11 yX11_all yX11_all ∈ wsL_law0 := mkT (mA106 (List.mem_of_getElem? (i := 7) rfl)) rfl
theorem mw920 : Cond.code yX11_all cX11_all 3 (some .int) ∈ wsL_law0 := mkT (mA106 (List.mem_of_getElem? (i := 8) rfl)) rfl
theorem mw921 : Cond.methodLink RX11 382 yX11_sumOf ∈ wsL_law0 := mkT (mA106 (List.mem_of_getElem? (i := 9) rfl)) rfl
theorem mw922 : Cond.instanceMethod yX11_sumOf ∈ wsL_law0 := mkT (mA106 (List.mem_of_getElem? (i := 11) rfl)) rfl
theorem mw923 : Cond.selects RX11 yX11_sumOf yX11_sumOf ∈ wsL_law0 := mP6 (y := yX11_sumOf) (n := 43) (List.mem_of_getElem? (i := 7) rfl)
theorem mw924 : Cond.code yX11_sumOf cX11_sumOf 4 (some .int) ∈ wsL_law0 := mkT (mA106 (List.mem_of_getElem? (i := 12) rfl)) rfl
theorem mw925 : Cond.methodLink RL 90 yX10_worst ∈ wsL_law0 := mkT (mA50 (List.mem_of_getElem? (i := 12) rfl)) rfl
theorem mw926 : Cond.instanceMethod yX10_worst ∈ wsL_law0 := mkT (mA50 (List.mem_of_getElem? (i := 13) rfl)) rfl
theorem mw927 : Cond.selects RX10 yX10_worst yX10_worst ∈ wsL_law0 := mkT (mA50 (List.mem_of_getElem? (i := 14) rfl)) rfl
theorem mw928 : Cond.code yX10_worst cX10_worst 2 (some .int) ∈ wsL_law0 := mkT (mA50 (List.mem_of_getElem? (i := 15) rfl)) rfl
theorem mw929 : Cond.methodLink RX10 173 yX5_worstChange ∈ wsL_law0 := mkT (mA51 (List.mem_of_getElem? (i := 0) rfl)) rfl
theorem mw930 : Cond.instanceMethod yX5_worstChange ∈ wsL_law0 := mkT (mA51 (List.mem_of_getElem? (i := 1) rfl)) rfl
theorem mw931 : Cond.selects RX5 yX5_worstChange yX5_worstChange ∈ wsL_law0 := mkT (mA51 (List.mem_of_getElem? (i := 2) rfl)) rfl
theorem mw932 : Cond.code yX5_worstChange cX5_worstChange 5 (some .int) ∈ wsL_law0 := mkT (mA51 (List.mem_of_getElem? (i := 3) rfl)) rfl
theorem mw933 : Cond.methodLink RL 93 yX11_worst ∈ wsL_law0 := mkT (mA106 (List.mem_of_getElem? (i := 13) rfl)) rfl
theorem mw934 : Cond.instanceMethod yX11_worst ∈ wsL_law0 := mkT (mA106 (List.mem_of_getElem? (i := 14) rfl)) rfl
theorem mw935 : Cond.selects RX11 yX11_worst yX11_worst ∈ wsL_law0 := mkT (mA106 (List.mem_of_getElem? (i := 15) rfl)) rfl
theorem mw936 : Cond.code yX11_worst cX11_worst 6 (some .int) ∈ wsL_law0 := mkT (mA107 (List.mem_of_getElem? (i := 0) rfl)) rfl
theorem mw937 : Cond.methodLink RL 94 yX10_exact ∈ wsL_law0 := mkT (mA51 (List.mem_of_getElem? (i := 4) rfl)) rfl
theorem mw938 : Cond.instanceMethod yX10_exact ∈ wsL_law0 := mkT (mA51 (List.mem_of_getElem? (i := 5) rfl)) rfl
theorem mw939 : Cond.selects RX10 yX10_exact yX10_exact ∈ wsL_law0 := mkT (mA51 (List.mem_of_getElem? (i := 6) rfl)) rfl
theorem mw940 : Cond.code yX10_exact cX10_exact 3 (some .int) ∈ wsL_law0 := mkT (mA51 (List.mem_of_getElem? (i := 7) rfl)) rfl
theorem mw941 : Cond.methodLink RX10 176 yX5_exactThread ∈ wsL_law0 := mkT (mA51 (List.mem_of_getElem? (i := 8) rfl)) rfl
theorem mw942 : Cond.instanceMethod yX5_exactThread ∈ wsL_law0 := mkT (mA51 (List.mem_of_getElem? (i := 9) rfl)) rfl
theorem mw943 : Cond.selects RX5 yX5_exactThread yX5_exactThread ∈ wsL_law0 := mkT (mA51 (List.mem_of_getElem? (i := 10) rfl)) rfl
theorem mw944 : Cond.code yX5_exactThread cX5_exactThread 4 (some .int) ∈ wsL_law0 := mkT (mA51 (List.mem_of_getElem? (i := 11) rfl)) rfl
theorem mw945 : Cond.methodLink RL 97 yX11_exact ∈ wsL_law0 := mkT (mA107 (List.mem_of_getElem? (i := 1) rfl)) rfl
theorem mw946 : Cond.instanceMethod yX11_exact ∈ wsL_law0 := mkT (mA107 (List.mem_of_getElem? (i := 2) rfl)) rfl
theorem mw947 : Cond.selects RX11 yX11_exact yX11_exact ∈ wsL_law0 := mkT (mA107 (List.mem_of_getElem? (i := 3) rfl)) rfl
theorem mw948 : Cond.code yX11_exact cX11_exact 3 (some .int) ∈ wsL_law0 := mkT (mA107 (List.mem_of_getElem? (i := 4) rfl)) rfl
theorem mw949 : Cond.methodLink RL 98 yX10_signs ∈ wsL_law0 := mkT (mA51 (List.mem_of_getElem? (i := 12) rfl)) rfl
theorem mw950 : Cond.instanceMethod yX10_signs ∈ wsL_law0 := mkT (mA51 (List.mem_of_getElem? (i := 13) rfl)) rfl
theorem mw951 : Cond.selects RX10 yX10_signs yX10_signs ∈ wsL_law0 := mkT (mA51 (List.mem_of_getElem? (i := 14) rfl)) rfl
theorem mw952 : Cond.code yX10_signs cX10_signs 2 (some .int) ∈ wsL_law0 := mkT (mA51 (List.mem_of_getElem? (i := 15) rfl)) rfl
theorem mw953 : Cond.methodLink RX10 180 yX5_signsSo ∈ wsL_law0 := mkT (mA52 (List.mem_of_getElem? (i := 0) rfl)) rfl
theorem mw954 : Cond.instanceMethod yX5_signsSo ∈ wsL_law0 := mkT (mA52 (List.mem_of_getElem? (i := 1) rfl)) rfl
theorem mw955 : Cond.selects RX5 yX5_signsSo yX5_signsSo ∈ wsL_law0 := mkT (mA52 (List.mem_of_getElem? (i := 2) rfl)) rfl
theorem mw956 : Cond.code yX5_signsSo cX5_signsSo 5 (some .int) ∈ wsL_law0 := mkT (mA52 (List.mem_of_getElem? (i := 3) rfl)) rfl
theorem mw957 : Cond.fieldLink RX5 118 "ReelChange$House" "signs" "LReelChange$Table;" ∈ wsL_law0 := mkT (mA8 (List.mem_of_getElem? (i := 9) rfl)) rfl
theorem mw958 : Cond.methodLink RL 101 yX11_signs ∈ wsL_law0 := mkT (mA113 (List.mem_of_getElem? (i := 0) rfl)) rfl
theorem mw959 : Cond.instanceMethod yX11_signs ∈ wsL_law0 := mkT (mA113 (List.mem_of_getElem? (i := 1) rfl)) rfl
theorem mw960 : Cond.selects RX11 yX11_signs yX11_signs ∈ wsL_law0 := mkT (mA113 (List.mem_of_getElem? (i := 2) rfl)) rfl
theorem mw961 : Cond.code yX11_signs cX11_signs 2 (some .int) ∈ wsL_law0 := mkT (mA113 (List.mem_of_getElem? (i := 3) rfl)) rfl
theorem mw962 : Cond.methodLink RX11 422 yX11_signsOf ∈ wsL_law0 := mkT (mA113 (List.mem_of_getElem? (i := 4) rfl)) rfl
theorem mw963 : Cond.instanceMethod yX11_signsOf ∈ wsL_law0 := mkT (mA113 (List.mem_of_getElem? (i := 6) rfl)) rfl
theorem mw964 : Cond.selects RX11 yX11_signsOf yX11_signsOf ∈ wsL_law0 := mP6 (y := yX11_signsOf) (n := 43) (List.mem_of_getElem? (i := 15) rfl)
theorem mw965 : Cond.code yX11_signsOf cX11_signsOf 5 (some .int) ∈ wsL_law0 := mkT (mA113 (List.mem_of_getElem? (i := 7) rfl)) rfl
theorem mw966 : Cond.methodLink RL 102 yX10_fits ∈ wsL_law0 := mkT (mA52 (List.mem_of_getElem? (i := 4) rfl)) rfl
theorem mw967 : Cond.instanceMethod yX10_fits ∈ wsL_law0 := mkT (mA52 (List.mem_of_getElem? (i := 5) rfl)) rfl
theorem mw968 : Cond.selects RX10 yX10_fits yX10_fits ∈ wsL_law0 := mkT (mA52 (List.mem_of_getElem? (i := 6) rfl)) rfl
theorem mw969 : Cond.code yX10_fits cX10_fits 4 (some .int) ∈ wsL_law0 := mkT (mA52 (List.mem_of_getElem? (i := 7) rfl)) rfl
theorem mw970 : Cond.fieldLink RX10 188 "ReelChange$House" "signs" "LReelChange$Table;" ∈ wsL_law0 := mkT (mA8 (List.mem_of_getElem? (i := 11) rfl)) rfl
theorem mw971 : Cond.methodLink RX10 184 yX10_isOpen ∈ wsL_law0 := mkT (mA52 (List.mem_of_getElem? (i := 8) rfl)) rfl
theorem mw972 : Cond.instanceMethod yX10_isOpen ∈ wsL_law0 := mkT (mA52 (List.mem_of_getElem? (i := 10) rfl)) rfl
theorem mw973 : Cond.selects RX10 yX10_isOpen yX10_isOpen ∈ wsL_law0 := mP2 (y := yX10_isOpen) (n := 10) (List.mem_of_getElem? (i := 5) rfl)
theorem mw974 : Cond.code yX10_isOpen cX10_isOpen 1 (some .boolean) ∈ wsL_law0 := mkT (mA52 (List.mem_of_getElem? (i := 11) rfl)) rfl
theorem mw975 : Cond.methodLink RL 105 yX11_fits ∈ wsL_law0 := mkT (mA113 (List.mem_of_getElem? (i := 8) rfl)) rfl
theorem mw976 : Cond.instanceMethod yX11_fits ∈ wsL_law0 := mkT (mA113 (List.mem_of_getElem? (i := 9) rfl)) rfl
theorem mw977 : Cond.selects RX11 yX11_fits yX11_fits ∈ wsL_law0 := mkT (mA113 (List.mem_of_getElem? (i := 10) rfl)) rfl
theorem mw978 : Cond.code yX11_fits cX11_fits 3 (some .int) ∈ wsL_law0 := mkT (mA113 (List.mem_of_getElem? (i := 11) rfl)) rfl
theorem mw979 : Cond.methodLink RL 106 yX10_bestSlip ∈ wsL_law0 := mkT (mA52 (List.mem_of_getElem? (i := 12) rfl)) rfl
theorem mw980 : Cond.instanceMethod yX10_bestSlip ∈ wsL_law0 := mkT (mA52 (List.mem_of_getElem? (i := 13) rfl)) rfl
theorem mw981 : Cond.selects RX10 yX10_bestSlip yX10_bestSlip ∈ wsL_law0 := mkT (mA52 (List.mem_of_getElem? (i := 14) rfl)) rfl
theorem mw982 : Cond.code yX10_bestSlip cX10_bestSlip 2 (some .int) ∈ wsL_law0 := mkT (mA52 (List.mem_of_getElem? (i := 15) rfl)) rfl
theorem mw983 : Cond.methodLink RX10 194 yX10_leastSlip ∈ wsL_law0 := mkT (mA53 (List.mem_of_getElem? (i := 0) rfl)) rfl
theorem mw984 : Cond.instanceMethod yX10_leastSlip ∈ wsL_law0 := mkT (mA53 (List.mem_of_getElem? (i := 2) rfl)) rfl
theorem mw985 : Cond.selects RX10 yX10_leastSlip yX10_leastSlip ∈ wsL_law0 := mP2 (y := yX10_leastSlip) (n := 10) (List.mem_of_getElem? (i := 6) rfl)
theorem mw986 : Cond.code yX10_leastSlip cX10_leastSlip 6 (some .int) ∈ wsL_law0 := mkT (mA53 (List.mem_of_getElem? (i := 3) rfl)) rfl
theorem mw987 : Cond.constant RX10 333 (2147483647) ∈ wsL_law0 := mkT (mA53 (List.mem_of_getElem? (i := 4) rfl)) rfl
theorem mw988 : Cond.methodLink RX10 204 yX5_waste ∈ wsL_law0 := mkT (mA53 (List.mem_of_getElem? (i := 5) rfl)) rfl
theorem mw989 : Cond.instanceMethod yX5_waste ∈ wsL_law0 := mkT (mA53 (List.mem_of_getElem? (i := 6) rfl)) rfl
theorem mw990 : Cond.selects RX5 yX5_waste yX5_waste ∈ wsL_law0 := mkT (mA53 (List.mem_of_getElem? (i := 7) rfl)) rfl
theorem mw991 : Cond.code yX5_waste cX5_waste 1 (some .int) ∈ wsL_law0 := mkT (mA53 (List.mem_of_getElem? (i := 8) rfl)) rfl
theorem mw992 : Cond.methodLink RX5 115 yX5_sum ∈ wsL_law0 := mkT (mA53 (List.mem_of_getElem? (i := 9) rfl)) rfl
theorem mw993 : Cond.methodLink RL 109 yX11_bestSlip ∈ wsL_law0 := mkT (mA113 (List.mem_of_getElem? (i := 12) rfl)) rfl
theorem mw994 : Cond.instanceMethod yX11_bestSlip ∈ wsL_law0 := mkT (mA113 (List.mem_of_getElem? (i := 13) rfl)) rfl
theorem mw995 : Cond.selects RX11 yX11_bestSlip yX11_bestSlip ∈ wsL_law0 := mkT (mA113 (List.mem_of_getElem? (i := 14) rfl)) rfl
theorem mw996 : Cond.code yX11_bestSlip cX11_bestSlip 2 (some .int) ∈ wsL_law0 := mkT (mA113 (List.mem_of_getElem? (i := 15) rfl)) rfl
theorem mw997 : Cond.methodLink RX11 428 yX11_bestSlipOf ∈ wsL_law0 := mkT (mA114 (List.mem_of_getElem? (i := 0) rfl)) rfl
theorem mw998 : Cond.instanceMethod yX11_bestSlipOf ∈ wsL_law0 := mkT (mA114 (List.mem_of_getElem? (i := 2) rfl)) rfl
theorem mw999 : Cond.selects RX11 yX11_bestSlipOf yX11_bestSlipOf ∈ wsL_law0 := mP7 (y := yX11_bestSlipOf) (n := 43) (List.mem_of_getElem? (i := 0) rfl)
theorem mw1000 : Cond.code yX11_bestSlipOf cX11_bestSlipOf 5 (some .int) ∈ wsL_law0 := mkT (mA114 (List.mem_of_getElem? (i := 3) rfl)) rfl
theorem mw1001 : Cond.fieldLink RX11 425 "ReelChangeModel" "bestSum" "I" ∈ wsL_law0 := mkT (mA80 (List.mem_of_getElem? (i := 9) rfl)) rfl
theorem mw1002 : Cond.methodLink RL 110 yX10_bySlip ∈ wsL_law0 := mkT (mA53 (List.mem_of_getElem? (i := 10) rfl)) rfl
theorem mw1003 : Cond.instanceMethod yX10_bySlip ∈ wsL_law0 := mkT (mA53 (List.mem_of_getElem? (i := 11) rfl)) rfl
theorem mw1004 : Cond.selects RX10 yX10_bySlip yX10_bySlip ∈ wsL_law0 := mkT (mA53 (List.mem_of_getElem? (i := 12) rfl)) rfl
theorem mw1005 : Cond.code yX10_bySlip cX10_bySlip 2 (some .int) ∈ wsL_law0 := mkT (mA53 (List.mem_of_getElem? (i := 13) rfl)) rfl
theorem mw1006 : Cond.methodLink RL 113 yX11_bySlip ∈ wsL_law0 := mkT (mA114 (List.mem_of_getElem? (i := 4) rfl)) rfl
theorem mw1007 : Cond.instanceMethod yX11_bySlip ∈ wsL_law0 := mkT (mA114 (List.mem_of_getElem? (i := 5) rfl)) rfl
theorem mw1008 : Cond.selects RX11 yX11_bySlip yX11_bySlip ∈ wsL_law0 := mkT (mA114 (List.mem_of_getElem? (i := 6) rfl)) rfl
theorem mw1009 : Cond.code yX11_bySlip cX11_bySlip 2 (some .int) ∈ wsL_law0 := mkT (mA114 (List.mem_of_getElem? (i := 7) rfl)) rfl
theorem mw1010 : Cond.methodLink RL 114 yX10_needs ∈ wsL_law0 := mkT (mA53 (List.mem_of_getElem? (i := 14) rfl)) rfl
theorem mw1011 : Cond.instanceMethod yX10_needs ∈ wsL_law0 := mkT (mA53 (List.mem_of_getElem? (i := 15) rfl)) rfl
theorem mw1012 : Cond.selects RX10 yX10_needs yX10_needs ∈ wsL_law0 := mkT (mA54 (List.mem_of_getElem? (i := 0) rfl)) rfl
theorem mw1013 : Cond.code yX10_needs cX10_needs 3 (some .int) ∈ wsL_law0 := mkT (mA54 (List.mem_of_getElem? (i := 1) rfl)) rfl
theorem mw1014 : Cond.methodLink RX10 207 yX5_needed ∈ wsL_law0 := mkT (mA54 (List.mem_of_getElem? (i := 2) rfl)) rfl
theorem mw1015 : Cond.instanceMethod yX5_needed ∈ wsL_law0 := mkT (mA54 (List.mem_of_getElem? (i := 3) rfl)) rfl
theorem mw1016 : Cond.selects RX5 yX5_needed yX5_needed ∈ wsL_law0 := mkT (mA54 (List.mem_of_getElem? (i := 4) rfl)) rfl
theorem mw1017 : Cond.code yX5_needed cX5_needed 2 (some .int) ∈ wsL_law0 := mkT (mA54 (List.mem_of_getElem? (i := 5) rfl)) rfl
theorem mw1018 : Cond.methodLink RL 117 yX11_needs ∈ wsL_law0 := mkT (mA107 (List.mem_of_getElem? (i := 5) rfl)) rfl
theorem mw1019 : Cond.instanceMethod yX11_needs ∈ wsL_law0 := mkT (mA107 (List.mem_of_getElem? (i := 6) rfl)) rfl
theorem mw1020 : Cond.selects RX11 yX11_needs yX11_needs ∈ wsL_law0 := mkT (mA107 (List.mem_of_getElem? (i := 7) rfl)) rfl
theorem mw1021 : Cond.code yX11_needs cX11_needs 3 (some .int) ∈ wsL_law0 := mkT (mA107 (List.mem_of_getElem? (i := 8) rfl)) rfl
theorem mw1022 : Cond.methodLink RX11 388 yX11_needsOf ∈ wsL_law0 := mkT (mA107 (List.mem_of_getElem? (i := 9) rfl)) rfl
theorem mw1023 : Cond.instanceMethod yX11_needsOf ∈ wsL_law0 := mkT (mA107 (List.mem_of_getElem? (i := 11) rfl)) rfl
theorem mw1024 : Cond.selects RX11 yX11_needsOf yX11_needsOf ∈ wsL_law0 := mP6 (y := yX11_needsOf) (n := 43) (List.mem_of_getElem? (i := 8) rfl)
theorem mw1025 : Cond.code yX11_needsOf cX11_needsOf 2 (some .int) ∈ wsL_law0 := mkT (mA107 (List.mem_of_getElem? (i := 12) rfl)) rfl
theorem mw1026 : Cond.methodLink RL 118 yX10_dies ∈ wsL_law0 := mkT (mA54 (List.mem_of_getElem? (i := 6) rfl)) rfl
theorem mw1027 : Cond.instanceMethod yX10_dies ∈ wsL_law0 := mkT (mA54 (List.mem_of_getElem? (i := 7) rfl)) rfl
theorem mw1028 : Cond.selects RX10 yX10_dies yX10_dies ∈ wsL_law0 := mkT (mA54 (List.mem_of_getElem? (i := 8) rfl)) rfl
theorem mw1029 : Cond.code yX10_dies cX10_dies 3 (some .int) ∈ wsL_law0 := mkT (mA54 (List.mem_of_getElem? (i := 9) rfl)) rfl
theorem mw1030 : Cond.fieldLink RX10 210 "ReelChange$State" "trims" "I" ∈ wsL_law0 := mkT (mA6 (List.mem_of_getElem? (i := 6) rfl)) rfl
theorem mw1031 : Cond.fieldLink RX10 217 "ReelChange$Arcs" "dying" "I" ∈ wsL_law0 := mkT (mA18 (List.mem_of_getElem? (i := 8) rfl)) rfl
theorem mw1032 : Cond.methodLink RX10 213 yX0_burn ∈ wsL_law0 := mkT (mA54 (List.mem_of_getElem? (i := 10) rfl)) rfl
theorem mw1033 : Cond.instanceMethod yX0_burn ∈ wsL_law0 := mkT (mA54 (List.mem_of_getElem? (i := 11) rfl)) rfl
theorem mw1034 : Cond.selects RX0 yX0_burn yX0_burn ∈ wsL_law0 := mkT (mA54 (List.mem_of_getElem? (i := 12) rfl)) rfl
theorem mw1035 : Cond.code yX0_burn cX0_burn 9 none ∈ wsL_law0 := mkT (mA54 (List.mem_of_getElem? (i := 13) rfl)) rfl
theorem mw1036 : Cond.fieldLink RX0 30 "ReelChange$Night" "rows" "LReelChange$Table;" ∈ wsL_law0 := mkT (mA15 (List.mem_of_getElem? (i := 14) rfl)) rfl
theorem mw1037 : Cond.fieldLink RX0 35 "ReelChange$Table" "count" "I" ∈ wsL_law0 := mkT (mA4 (List.mem_of_getElem? (i := 3) rfl)) rfl
theorem mw1038 : Cond.methodLink RX0 24 yX3_number ∈ wsL_law0 := mkT (mA54 (List.mem_of_getElem? (i := 14) rfl)) rfl
theorem mw1039 : Cond.methodLink RX0 38 yX8_at ∈ wsL_law0 := mkT (mA54 (List.mem_of_getElem? (i := 15) rfl)) rfl
theorem mw1040 : Cond.methodLink RX0 42 yX5_idle ∈ wsL_law0 := mkT (mA55 (List.mem_of_getElem? (i := 0) rfl)) rfl
theorem mw1041 : Cond.instanceMethod yX5_idle ∈ wsL_law0 := mkT (mA55 (List.mem_of_getElem? (i := 1) rfl)) rfl
theorem mw1042 : Cond.selects RX5 yX5_idle yX5_idle ∈ wsL_law0 := mkT (mA55 (List.mem_of_getElem? (i := 2) rfl)) rfl
theorem mw1043 : Cond.code yX5_idle cX5_idle 2 (some .int) ∈ wsL_law0 := mkT (mA55 (List.mem_of_getElem? (i := 3) rfl)) rfl
theorem mw1044 : Cond.methodLink RX0 45 yX5_needed ∈ wsL_law0 := mkT (mA55 (List.mem_of_getElem? (i := 4) rfl)) rfl
theorem mw1045 : Cond.methodLink RX0 48 yX8_put ∈ wsL_law0 := mkT (mA55 (List.mem_of_getElem? (i := 5) rfl)) rfl
theorem mw1046 : Cond.methodLink RL 121 yX11_dies ∈ wsL_law0 := mkT (mA107 (List.mem_of_getElem? (i := 13) rfl)) rfl
theorem mw1047 : Cond.instanceMethod yX11_dies ∈ wsL_law0 := mkT (mA107 (List.mem_of_getElem? (i := 14) rfl)) rfl
theorem mw1048 : Cond.selects RX11 yX11_dies yX11_dies ∈ wsL_law0 := mkT (mA107 (List.mem_of_getElem? (i := 15) rfl)) rfl
theorem mw1049 : Cond.code yX11_dies cX11_dies 3 (some .int) ∈ wsL_law0 := mkT (mA108 (List.mem_of_getElem? (i := 0) rfl)) rfl
theorem mw1050 : Cond.methodLink RX11 391 yX11_burn ∈ wsL_law0 := mkT (mA108 (List.mem_of_getElem? (i := 1) rfl)) rfl
theorem mw1051 : Cond.instanceMethod yX11_burn ∈ wsL_law0 := mkT (mA108 (List.mem_of_getElem? (i := 3) rfl)) rfl
theorem mw1052 : Cond.selects RX11 yX11_burn yX11_burn ∈ wsL_law0 := mP6 (y := yX11_burn) (n := 43) (List.mem_of_getElem? (i := 9) rfl)
theorem mw1053 : Cond.code yX11_burn cX11_burn 6 (some .boolean) ∈ wsL_law0 := mkT (mA108 (List.mem_of_getElem? (i := 4) rfl)) rfl
theorem mw1054 : Cond.methodLink RX11 385 yX11_freeOf ∈ wsL_law0 := mkT (mA108 (List.mem_of_getElem? (i := 5) rfl)) rfl
theorem mw1055 : Cond.instanceMethod yX11_freeOf ∈ wsL_law0 := mkT (mA108 (List.mem_of_getElem? (i := 7) rfl)) rfl
theorem mw1056 : Cond.selects RX11 yX11_freeOf yX11_freeOf ∈ wsL_law0 := mP6 (y := yX11_freeOf) (n := 43) (List.mem_of_getElem? (i := 10) rfl)
theorem mw1057 : Cond.code yX11_freeOf cX11_freeOf 2 (some .int) ∈ wsL_law0 := mkT (mA108 (List.mem_of_getElem? (i := 8) rfl)) rfl
theorem mw1058 : Cond.methodLink RL 122 yX10_firstDies ∈ wsL_law0 := mkT (mA55 (List.mem_of_getElem? (i := 6) rfl)) rfl
theorem mw1059 : Cond.instanceMethod yX10_firstDies ∈ wsL_law0 := mkT (mA55 (List.mem_of_getElem? (i := 7) rfl)) rfl
theorem mw1060 : Cond.selects RX10 yX10_firstDies yX10_firstDies ∈ wsL_law0 := mkT (mA55 (List.mem_of_getElem? (i := 8) rfl)) rfl
theorem mw1061 : Cond.code yX10_firstDies cX10_firstDies 2 (some .int) ∈ wsL_law0 := mkT (mA55 (List.mem_of_getElem? (i := 9) rfl)) rfl
theorem mw1062 : Cond.methodLink RX10 220 yX0_firstDying ∈ wsL_law0 := mkT (mA55 (List.mem_of_getElem? (i := 10) rfl)) rfl
theorem mw1063 : Cond.instanceMethod yX0_firstDying ∈ wsL_law0 := mkT (mA55 (List.mem_of_getElem? (i := 11) rfl)) rfl
theorem mw1064 : Cond.selects RX0 yX0_firstDying yX0_firstDying ∈ wsL_law0 := mkT (mA55 (List.mem_of_getElem? (i := 12) rfl)) rfl
theorem mw1065 : Cond.code yX0_firstDying cX0_firstDying 2 (some .int) ∈ wsL_law0 := mkT (mA55 (List.mem_of_getElem? (i := 13) rfl)) rfl
theorem mw1066 : Cond.fieldLink RX0 52 "ReelChange$Table" "room" "I" ∈ wsL_law0 := mkT (mA3 (List.mem_of_getElem? (i := 12) rfl)) rfl
theorem mw1067 : Cond.methodLink RL 125 yX11_firstDies ∈ wsL_law0 := mkT (mA108 (List.mem_of_getElem? (i := 9) rfl)) rfl
theorem mw1068 : Cond.instanceMethod yX11_firstDies ∈ wsL_law0 := mkT (mA108 (List.mem_of_getElem? (i := 10) rfl)) rfl
theorem mw1069 : Cond.selects RX11 yX11_firstDies yX11_firstDies ∈ wsL_law0 := mkT (mA108 (List.mem_of_getElem? (i := 11) rfl)) rfl
theorem mw1070 : Cond.code yX11_firstDies cX11_firstDies 3 (some .int) ∈ wsL_law0 := mkT (mA108 (List.mem_of_getElem? (i := 12) rfl)) rfl
theorem mw1071 : Cond.methodLink RL 126 yX10_free ∈ wsL_law0 := mkT (mA55 (List.mem_of_getElem? (i := 14) rfl)) rfl
theorem mw1072 : Cond.instanceMethod yX10_free ∈ wsL_law0 := mkT (mA55 (List.mem_of_getElem? (i := 15) rfl)) rfl
theorem mw1073 : Cond.selects RX10 yX10_free yX10_free ∈ wsL_law0 := mkT (mA56 (List.mem_of_getElem? (i := 0) rfl)) rfl
theorem mw1074 : Cond.code yX10_free cX10_free 3 (some .int) ∈ wsL_law0 := mkT (mA56 (List.mem_of_getElem? (i := 1) rfl)) rfl
theorem mw1075 : Cond.methodLink RX10 223 yX5_idle ∈ wsL_law0 := mkT (mA56 (List.mem_of_getElem? (i := 2) rfl)) rfl
theorem mw1076 : Cond.methodLink RL 129 yX11_free ∈ wsL_law0 := mkT (mA109 (List.mem_of_getElem? (i := 1) rfl)) rfl
theorem mw1077 : Cond.instanceMethod yX11_free ∈ wsL_law0 := mkT (mA109 (List.mem_of_getElem? (i := 2) rfl)) rfl
theorem mw1078 : Cond.selects RX11 yX11_free yX11_free ∈ wsL_law0 := mkT (mA109 (List.mem_of_getElem? (i := 3) rfl)) rfl
theorem mw1079 : Cond.code yX11_free cX11_free 3 (some .int) ∈ wsL_law0 := mkT (mA109 (List.mem_of_getElem? (i := 4) rfl)) rfl
theorem mw1080 : Cond.methodLink RL 130 yX10_arc ∈ wsL_law0 := mkT (mA56 (List.mem_of_getElem? (i := 3) rfl)) rfl
theorem mw1081 : Cond.instanceMethod yX10_arc ∈ wsL_law0 := mkT (mA56 (List.mem_of_getElem? (i := 4) rfl)) rfl
theorem mw1082 : Cond.selects RX10 yX10_arc yX10_arc ∈ wsL_law0 := mkT (mA56 (List.mem_of_getElem? (i := 5) rfl)) rfl
theorem mw1083 : Cond.code yX10_arc cX10_arc 3 (some .int) ∈ wsL_law0 := mkT (mA56 (List.mem_of_getElem? (i := 6) rfl)) rfl
theorem mw1084 : Cond.fieldLink RX10 226 "ReelChange$Arcs" "left" "LReelChange$Table;" ∈ wsL_law0 := mkT (mA18 (List.mem_of_getElem? (i := 6) rfl)) rfl
theorem mw1085 : Cond.methodLink RL 133 yX11_arc ∈ wsL_law0 := mkT (mA108 (List.mem_of_getElem? (i := 13) rfl)) rfl
theorem mw1086 : Cond.instanceMethod yX11_arc ∈ wsL_law0 := mkT (mA108 (List.mem_of_getElem? (i := 14) rfl)) rfl
theorem mw1087 : Cond.selects RX11 yX11_arc yX11_arc ∈ wsL_law0 := mkT (mA108 (List.mem_of_getElem? (i := 15) rfl)) rfl
theorem mw1088 : Cond.code yX11_arc cX11_arc 3 (some .int) ∈ wsL_law0 := mkT (mA109 (List.mem_of_getElem? (i := 0) rfl)) rfl
theorem mw1089 : Cond.methodLink RL 134 yX10_never ∈ wsL_law0 := mkT (mA56 (List.mem_of_getElem? (i := 7) rfl)) rfl
theorem mw1090 : Cond.instanceMethod yX10_never ∈ wsL_law0 := mkT (mA56 (List.mem_of_getElem? (i := 8) rfl)) rfl
theorem mw1091 : Cond.selects RX10 yX10_never yX10_never ∈ wsL_law0 := mkT (mA56 (List.mem_of_getElem? (i := 9) rfl)) rfl
theorem mw1092 : Cond.code yX10_never cX10_never 2 (some .int) ∈ wsL_law0 := mkT (mA56 (List.mem_of_getElem? (i := 10) rfl)) rfl
theorem mw1093 : Cond.methodLink RX10 229 yX0_fewestTrims ∈ wsL_law0 := mkT (mA56 (List.mem_of_getElem? (i := 11) rfl)) rfl
theorem mw1094 : Cond.instanceMethod yX0_fewestTrims ∈ wsL_law0 := mkT (mA56 (List.mem_of_getElem? (i := 12) rfl)) rfl
theorem mw1095 : Cond.selects RX0 yX0_fewestTrims yX0_fewestTrims ∈ wsL_law0 := mkT (mA56 (List.mem_of_getElem? (i := 13) rfl)) rfl
theorem mw1096 : Cond.code yX0_fewestTrims cX0_fewestTrims 6 (some .int) ∈ wsL_law0 := mkT (mA56 (List.mem_of_getElem? (i := 14) rfl)) rfl
theorem mw1097 : Cond.constant RX0 57 (2147483647) ∈ wsL_law0 := mkT (mA56 (List.mem_of_getElem? (i := 15) rfl)) rfl
theorem mw1098 : Cond.methodLink RX0 58 yJ6_bitCount_0f7a4 ∈ wsL_law0 := mkT (mA57 (List.mem_of_getElem? (i := 0) rfl)) rfl
theorem mw1099 : Cond.static yJ6_bitCount_0f7a4 ∈ wsL_law0 := mkT (mA57 (List.mem_of_getElem? (i := 1) rfl)) rfl
theorem mw1100 : Cond.initialized RJ6 ∈ wsL_law0 := mkT (mA1 (List.mem_of_getElem? (i := 3) rfl)) rfl
theorem mw1101 : Cond.code yJ6_bitCount_0f7a4 cJ6_bitCount_0f7a4 1 (some .int) ∈ wsL_law0 := mkT (mA57 (List.mem_of_getElem? (i := 2) rfl)) rfl
theorem mw1102 : Cond.constant RJ6 265 (1431655765) ∈ wsL_law0 := mkT (mA57 (List.mem_of_getElem? (i := 3) rfl)) rfl
theorem mw1103 : Cond.constant RJ6 266 (858993459) ∈ wsL_law0 := mkT (mA57 (List.mem_of_getElem? (i := 4) rfl)) rfl
theorem mw1104 : Cond.constant RJ6 267 (252645135) ∈ wsL_law0 := mkT (mA57 (List.mem_of_getElem? (i := 5) rfl)) rfl
theorem mw1105 : Cond.methodLink RX0 61 yX0_burn ∈ wsL_law0 := mkT (mA57 (List.mem_of_getElem? (i := 6) rfl)) rfl
theorem mw1106 : Cond.methodLink RL 137 yX11_never ∈ wsL_law0 := mkT (mA109 (List.mem_of_getElem? (i := 5) rfl)) rfl
theorem mw1107 : Cond.instanceMethod yX11_never ∈ wsL_law0 := mkT (mA109 (List.mem_of_getElem? (i := 6) rfl)) rfl
theorem mw1108 : Cond.selects RX11 yX11_never yX11_never ∈ wsL_law0 := mkT (mA109 (List.mem_of_getElem? (i := 7) rfl)) rfl
theorem mw1109 : Cond.code yX11_never cX11_never 4 (some .int) ∈ wsL_law0 := mkT (mA109 (List.mem_of_getElem? (i := 8) rfl)) rfl
theorem mw1110 : Cond.methodLink RX11 394 yX11_ones ∈ wsL_law0 := mkT (mA109 (List.mem_of_getElem? (i := 9) rfl)) rfl
theorem mw1111 : Cond.static yX11_ones ∈ wsL_law0 := mkT (mA109 (List.mem_of_getElem? (i := 10) rfl)) rfl
theorem mw1112 : Cond.code yX11_ones cX11_ones 3 (some .int) ∈ wsL_law0 := mkT (mA109 (List.mem_of_getElem? (i := 11) rfl)) rfl
theorem mw1113 : Cond.methodLink RL 138 yX10_truly ∈ wsL_law0 := mkT (mA57 (List.mem_of_getElem? (i := 7) rfl)) rfl
theorem mw1114 : Cond.instanceMethod yX10_truly ∈ wsL_law0 := mkT (mA57 (List.mem_of_getElem? (i := 8) rfl)) rfl
theorem mw1115 : Cond.selects RX10 yX10_truly yX10_truly ∈ wsL_law0 := mkT (mA57 (List.mem_of_getElem? (i := 9) rfl)) rfl
theorem mw1116 : Cond.code yX10_truly cX10_truly 4 (some .long) ∈ wsL_law0 := mkT (mA57 (List.mem_of_getElem? (i := 10) rfl)) rfl
theorem mw1117 : Cond.methodLink RX10 233 yX7_isMeantPerhaps ∈ wsL_law0 := mkT (mA57 (List.mem_of_getElem? (i := 11) rfl)) rfl
theorem mw1118 : Cond.instanceMethod yX7_isMeantPerhaps ∈ wsL_law0 := mkT (mA57 (List.mem_of_getElem? (i := 12) rfl)) rfl
theorem mw1119 : Cond.selects RX7 yX7_isMeantPerhaps yX7_isMeantPerhaps ∈ wsL_law0 := mkT (mA57 (List.mem_of_getElem? (i := 13) rfl)) rfl
theorem mw1120 : Cond.code yX7_isMeantPerhaps cX7_isMeantPerhaps 3 (some .boolean) ∈ wsL_law0 := mkT (mA57 (List.mem_of_getElem? (i := 14) rfl)) rfl
theorem mw1121 : Cond.methodLink RX7 57 yX7_isMarked ∈ wsL_law0 := mkT (mA57 (List.mem_of_getElem? (i := 15) rfl)) rfl
theorem mw1122 : Cond.instanceMethod yX7_isMarked ∈ wsL_law0 := mkT (mA58 (List.mem_of_getElem? (i := 1) rfl)) rfl
theorem mw1123 : Cond.selects RX7 yX7_isMarked yX7_isMarked ∈ wsL_law0 := mP2 (y := yX7_isMarked) (n := 6) (List.mem_of_getElem? (i := 7) rfl)
theorem mw1124 : Cond.code yX7_isMarked cX7_isMarked 5 (some .boolean) ∈ wsL_law0 := mkT (mA58 (List.mem_of_getElem? (i := 2) rfl)) rfl
theorem mw1125 : Cond.methodLink RX10 237 yX7_weight ∈ wsL_law0 := mkT (mA58 (List.mem_of_getElem? (i := 3) rfl)) rfl
theorem mw1126 : Cond.instanceMethod yX7_weight ∈ wsL_law0 := mkT (mA58 (List.mem_of_getElem? (i := 4) rfl)) rfl
theorem mw1127 : Cond.selects RX7 yX7_weight yX7_weight ∈ wsL_law0 := mkT (mA58 (List.mem_of_getElem? (i := 5) rfl)) rfl
theorem mw1128 : Cond.code yX7_weight cX7_weight 7 (some .int) ∈ wsL_law0 := mkT (mA58 (List.mem_of_getElem? (i := 6) rfl)) rfl
theorem mw1129 : Cond.methodLink RX7 61 Lib.Math.abs.name ∈ wsL_law0 := mkT (mA58 (List.mem_of_getElem? (i := 7) rfl)) rfl
theorem mw1130 : Cond.static Lib.Math.abs.name ∈ wsL_law0 := mkT (mA58 (List.mem_of_getElem? (i := 8) rfl)) rfl
theorem mw1131 : Cond.code Lib.Math.abs.name Lib.Math.abs.code 1 (some .int) ∈ wsL_law0 := mkT (mA58 (List.mem_of_getElem? (i := 9) rfl)) rfl
theorem mw1132 : Cond.methodLink RX10 241 yX7_allWeights ∈ wsL_law0 := mkT (mA58 (List.mem_of_getElem? (i := 10) rfl)) rfl
theorem mw1133 : Cond.instanceMethod yX7_allWeights ∈ wsL_law0 := mkT (mA58 (List.mem_of_getElem? (i := 11) rfl)) rfl
theorem mw1134 : Cond.selects RX7 yX7_allWeights yX7_allWeights ∈ wsL_law0 := mkT (mA58 (List.mem_of_getElem? (i := 12) rfl)) rfl
theorem mw1135 : Cond.code yX7_allWeights cX7_allWeights 6 (some .int) ∈ wsL_law0 := mkT (mA58 (List.mem_of_getElem? (i := 13) rfl)) rfl
theorem mw1136 : Cond.methodLink RX7 67 yX7_weight ∈ wsL_law0 := mkT (mA58 (List.mem_of_getElem? (i := 14) rfl)) rfl
theorem mw1137 : Cond.methodLink RX10 245 yX2_set ∈ wsL_law0 := mkT (mA58 (List.mem_of_getElem? (i := 15) rfl)) rfl
theorem mw1138 : Cond.instanceMethod yX2_set ∈ wsL_law0 := mkT (mA59 (List.mem_of_getElem? (i := 0) rfl)) rfl
theorem mw1139 : Cond.selects RX2 yX2_set yX2_set ∈ wsL_law0 := mkT (mA59 (List.mem_of_getElem? (i := 1) rfl)) rfl
theorem mw1140 : Cond.code yX2_set cX2_set 5 none ∈ wsL_law0 := mkT (mA59 (List.mem_of_getElem? (i := 2) rfl)) rfl
theorem mw1141 : Cond.methodLink RX10 249 yX10_tellPart ∈ wsL_law0 := mkT (mA59 (List.mem_of_getElem? (i := 3) rfl)) rfl
theorem mw1142 : Cond.instanceMethod yX10_tellPart ∈ wsL_law0 := mkT (mA59 (List.mem_of_getElem? (i := 5) rfl)) rfl
theorem mw1143 : Cond.selects RX10 yX10_tellPart yX10_tellPart ∈ wsL_law0 := mP2 (y := yX10_tellPart) (n := 10) (List.mem_of_getElem? (i := 8) rfl)
theorem mw1144 : Cond.code yX10_tellPart cX10_tellPart 2 (some .long) ∈ wsL_law0 := mkT (mA59 (List.mem_of_getElem? (i := 6) rfl)) rfl
theorem mw1145 : Cond.fieldLink RX10 280 "ReelChange$Fraction" "lower" "J" ∈ wsL_law0 := mkT (mA21 (List.mem_of_getElem? (i := 13) rfl)) rfl
theorem mw1146 : Cond.fieldLink RX10 284 "ReelChange$Fraction" "upper" "J" ∈ wsL_law0 := mkT (mA21 (List.mem_of_getElem? (i := 11) rfl)) rfl
theorem mw1147 : Cond.methodLink RX10 378 yX2_reduce ∈ wsL_law0 := mkT (mA59 (List.mem_of_getElem? (i := 7) rfl)) rfl
theorem mw1148 : Cond.instanceMethod yX2_reduce ∈ wsL_law0 := mkT (mA59 (List.mem_of_getElem? (i := 8) rfl)) rfl
theorem mw1149 : Cond.selects RX2 yX2_reduce yX2_reduce ∈ wsL_law0 := mkT (mA59 (List.mem_of_getElem? (i := 9) rfl)) rfl
theorem mw1150 : Cond.code yX2_reduce cX2_reduce 8 none ∈ wsL_law0 := mkT (mA59 (List.mem_of_getElem? (i := 10) rfl)) rfl
theorem mw1151 : Cond.methodLink RL 142 yX11_truly ∈ wsL_law0 := mkT (mA109 (List.mem_of_getElem? (i := 12) rfl)) rfl
theorem mw1152 : Cond.instanceMethod yX11_truly ∈ wsL_law0 := mkT (mA109 (List.mem_of_getElem? (i := 13) rfl)) rfl
theorem mw1153 : Cond.selects RX11 yX11_truly yX11_truly ∈ wsL_law0 := mkT (mA109 (List.mem_of_getElem? (i := 14) rfl)) rfl
theorem mw1154 : Cond.code yX11_truly cX11_truly 4 (some .long) ∈ wsL_law0 := mkT (mA109 (List.mem_of_getElem? (i := 15) rfl)) rfl
theorem mw1155 : Cond.methodLink RX11 397 yX11_isDot ∈ wsL_law0 := mkT (mA110 (List.mem_of_getElem? (i := 0) rfl)) rfl
theorem mw1156 : Cond.instanceMethod yX11_isDot ∈ wsL_law0 := mkT (mA110 (List.mem_of_getElem? (i := 2) rfl)) rfl
theorem mw1157 : Cond.selects RX11 yX11_isDot yX11_isDot ∈ wsL_law0 := mP6 (y := yX11_isDot) (n := 43) (List.mem_of_getElem? (i := 11) rfl)
theorem mw1158 : Cond.code yX11_isDot cX11_isDot 5 (some .boolean) ∈ wsL_law0 := mkT (mA110 (List.mem_of_getElem? (i := 3) rfl)) rfl
theorem mw1159 : Cond.methodLink RX11 400 yX11_weightOf ∈ wsL_law0 := mkT (mA110 (List.mem_of_getElem? (i := 4) rfl)) rfl
theorem mw1160 : Cond.instanceMethod yX11_weightOf ∈ wsL_law0 := mkT (mA110 (List.mem_of_getElem? (i := 6) rfl)) rfl
theorem mw1161 : Cond.selects RX11 yX11_weightOf yX11_weightOf ∈ wsL_law0 := mP6 (y := yX11_weightOf) (n := 43) (List.mem_of_getElem? (i := 12) rfl)
theorem mw1162 : Cond.code yX11_weightOf cX11_weightOf 7 (some .long) ∈ wsL_law0 := mkT (mA110 (List.mem_of_getElem? (i := 7) rfl)) rfl
theorem mw1163 : Cond.methodLink RX11 404 yX11_allWeights ∈ wsL_law0 := mkT (mA110 (List.mem_of_getElem? (i := 8) rfl)) rfl
theorem mw1164 : Cond.instanceMethod yX11_allWeights ∈ wsL_law0 := mkT (mA110 (List.mem_of_getElem? (i := 10) rfl)) rfl
theorem mw1165 : Cond.selects RX11 yX11_allWeights yX11_allWeights ∈ wsL_law0 := mP6 (y := yX11_allWeights) (n := 43) (List.mem_of_getElem? (i := 13) rfl)
theorem mw1166 : Cond.code yX11_allWeights cX11_allWeights 5 (some .long) ∈ wsL_law0 := mkT (mA110 (List.mem_of_getElem? (i := 11) rfl)) rfl
theorem mw1167 : Cond.methodLink RX11 408 yX11_lowest ∈ wsL_law0 := mkT (mA110 (List.mem_of_getElem? (i := 12) rfl)) rfl
theorem mw1168 : Cond.static yX11_lowest ∈ wsL_law0 := mkT (mA110 (List.mem_of_getElem? (i := 13) rfl)) rfl
theorem mw1169 : Cond.code yX11_lowest cX11_lowest 11 (some .long) ∈ wsL_law0 := mkT (mA110 (List.mem_of_getElem? (i := 14) rfl)) rfl
theorem mw1170 : Cond.methodLink RL 143 yX10_likeliest ∈ wsL_law0 := mkT (mA59 (List.mem_of_getElem? (i := 11) rfl)) rfl
theorem mw1171 : Cond.instanceMethod yX10_likeliest ∈ wsL_law0 := mkT (mA59 (List.mem_of_getElem? (i := 12) rfl)) rfl
theorem mw1172 : Cond.selects RX10 yX10_likeliest yX10_likeliest ∈ wsL_law0 := mkT (mA59 (List.mem_of_getElem? (i := 13) rfl)) rfl
theorem mw1173 : Cond.code yX10_likeliest cX10_likeliest 2 (some .int) ∈ wsL_law0 := mkT (mA59 (List.mem_of_getElem? (i := 14) rfl)) rfl
theorem mw1174 : Cond.methodLink RX10 253 yX7_likeliestFrame ∈ wsL_law0 := mkT (mA59 (List.mem_of_getElem? (i := 15) rfl)) rfl
theorem mw1175 : Cond.instanceMethod yX7_likeliestFrame ∈ wsL_law0 := mkT (mA60 (List.mem_of_getElem? (i := 0) rfl)) rfl
theorem mw1176 : Cond.selects RX7 yX7_likeliestFrame yX7_likeliestFrame ∈ wsL_law0 := mkT (mA60 (List.mem_of_getElem? (i := 1) rfl)) rfl
theorem mw1177 : Cond.code yX7_likeliestFrame cX7_likeliestFrame 8 (some .int) ∈ wsL_law0 := mkT (mA60 (List.mem_of_getElem? (i := 2) rfl)) rfl
theorem mw1178 : Cond.methodLink RL 146 yX11_likeliest ∈ wsL_law0 := mkT (mA110 (List.mem_of_getElem? (i := 15) rfl)) rfl
theorem mw1179 : Cond.instanceMethod yX11_likeliest ∈ wsL_law0 := mkT (mA111 (List.mem_of_getElem? (i := 0) rfl)) rfl
theorem mw1180 : Cond.selects RX11 yX11_likeliest yX11_likeliest ∈ wsL_law0 := mkT (mA111 (List.mem_of_getElem? (i := 1) rfl)) rfl
theorem mw1181 : Cond.code yX11_likeliest cX11_likeliest 4 (some .int) ∈ wsL_law0 := mkT (mA111 (List.mem_of_getElem? (i := 2) rfl)) rfl
theorem mw1182 : Cond.methodLink RL 147 yX10_who ∈ wsL_law0 := mkT (mA60 (List.mem_of_getElem? (i := 3) rfl)) rfl
theorem mw1183 : Cond.instanceMethod yX10_who ∈ wsL_law0 := mkT (mA60 (List.mem_of_getElem? (i := 4) rfl)) rfl
theorem mw1184 : Cond.selects RX10 yX10_who yX10_who ∈ wsL_law0 := mkT (mA60 (List.mem_of_getElem? (i := 5) rfl)) rfl
theorem mw1185 : Cond.code yX10_who cX10_who 3 (some .int) ∈ wsL_law0 := mkT (mA60 (List.mem_of_getElem? (i := 6) rfl)) rfl
theorem mw1186 : Cond.fieldLink RX10 256 "ReelChange$House" "scratches" "LReelChange$Table;" ∈ wsL_law0 := mkT (mA8 (List.mem_of_getElem? (i := 14) rfl)) rfl
theorem mw1187 : Cond.methodLink RX10 259 yX10_nearestMark ∈ wsL_law0 := mkT (mA60 (List.mem_of_getElem? (i := 7) rfl)) rfl
theorem mw1188 : Cond.instanceMethod yX10_nearestMark ∈ wsL_law0 := mkT (mA60 (List.mem_of_getElem? (i := 9) rfl)) rfl
theorem mw1189 : Cond.selects RX10 yX10_nearestMark yX10_nearestMark ∈ wsL_law0 := mP2 (y := yX10_nearestMark) (n := 10) (List.mem_of_getElem? (i := 9) rfl)
theorem mw1190 : Cond.code yX10_nearestMark cX10_nearestMark 5 (some .int) ∈ wsL_law0 := mkT (mA60 (List.mem_of_getElem? (i := 10) rfl)) rfl
theorem mw1191 : Cond.methodLink RX10 262 yX10_farFrom ∈ wsL_law0 := mkT (mA60 (List.mem_of_getElem? (i := 11) rfl)) rfl
theorem mw1192 : Cond.instanceMethod yX10_farFrom ∈ wsL_law0 := mkT (mA60 (List.mem_of_getElem? (i := 13) rfl)) rfl
theorem mw1193 : Cond.selects RX10 yX10_farFrom yX10_farFrom ∈ wsL_law0 := mP2 (y := yX10_farFrom) (n := 10) (List.mem_of_getElem? (i := 10) rfl)
theorem mw1194 : Cond.code yX10_farFrom cX10_farFrom 5 (some .int) ∈ wsL_law0 := mkT (mA60 (List.mem_of_getElem? (i := 14) rfl)) rfl
theorem mw1195 : Cond.methodLink RX10 384 Lib.Math.abs.name ∈ wsL_law0 := mkT (mA60 (List.mem_of_getElem? (i := 15) rfl)) rfl
theorem mw1196 : Cond.methodLink RL 150 yX11_who ∈ wsL_law0 := mkT (mA114 (List.mem_of_getElem? (i := 8) rfl)) rfl
theorem mw1197 : Cond.instanceMethod yX11_who ∈ wsL_law0 := mkT (mA114 (List.mem_of_getElem? (i := 9) rfl)) rfl
theorem mw1198 : Cond.selects RX11 yX11_who yX11_who ∈ wsL_law0 := mkT (mA114 (List.mem_of_getElem? (i := 10) rfl)) rfl
theorem mw1199 : Cond.code yX11_who cX11_who 2 (some .int) ∈ wsL_law0 := mkT (mA114 (List.mem_of_getElem? (i := 11) rfl)) rfl
theorem mw1200 : Cond.fieldLink RX11 434 "ReelChangeModel" "nearestTown" "I" ∈ wsL_law0 := mkT (mA80 (List.mem_of_getElem? (i := 11) rfl)) rfl
theorem mw1201 : Cond.methodLink RX11 440 yX11_layScratch ∈ wsL_law0 := mkT (mA114 (List.mem_of_getElem? (i := 12) rfl)) rfl
theorem mw1202 : Cond.instanceMethod yX11_layScratch ∈ wsL_law0 := mkT (mA114 (List.mem_of_getElem? (i := 14) rfl)) rfl
theorem mw1203 : Cond.selects RX11 yX11_layScratch yX11_layScratch ∈ wsL_law0 := mP7 (y := yX11_layScratch) (n := 43) (List.mem_of_getElem? (i := 1) rfl)
theorem mw1204 : Cond.code yX11_layScratch cX11_layScratch 4 (some .boolean) ∈ wsL_law0 := mkT (mA114 (List.mem_of_getElem? (i := 15) rfl)) rfl
theorem mw1205 : Cond.fieldLink RX11 431 "ReelChangeModel" "nearest" "I" ∈ wsL_law0 := mkT (mA80 (List.mem_of_getElem? (i := 10) rfl)) rfl
theorem mw1206 : Cond.methodLink RX11 437 yX11_farOf ∈ wsL_law0 := mkT (mA115 (List.mem_of_getElem? (i := 0) rfl)) rfl
theorem mw1207 : Cond.instanceMethod yX11_farOf ∈ wsL_law0 := mkT (mA115 (List.mem_of_getElem? (i := 2) rfl)) rfl
theorem mw1208 : Cond.selects RX11 yX11_farOf yX11_farOf ∈ wsL_law0 := mP7 (y := yX11_farOf) (n := 43) (List.mem_of_getElem? (i := 2) rfl)
theorem mw1209 : Cond.code yX11_farOf cX11_farOf 8 (some .int) ∈ wsL_law0 := mkT (mA115 (List.mem_of_getElem? (i := 3) rfl)) rfl
theorem mw1210 : Cond.methodLink RL 151 yX10_far ∈ wsL_law0 := mkT (mA61 (List.mem_of_getElem? (i := 0) rfl)) rfl
theorem mw1211 : Cond.instanceMethod yX10_far ∈ wsL_law0 := mkT (mA61 (List.mem_of_getElem? (i := 1) rfl)) rfl
theorem mw1212 : Cond.selects RX10 yX10_far yX10_far ∈ wsL_law0 := mkT (mA61 (List.mem_of_getElem? (i := 2) rfl)) rfl
theorem mw1213 : Cond.code yX10_far cX10_far 3 (some .int) ∈ wsL_law0 := mkT (mA61 (List.mem_of_getElem? (i := 3) rfl)) rfl
theorem mw1214 : Cond.methodLink RL 154 yX11_far ∈ wsL_law0 := mkT (mA115 (List.mem_of_getElem? (i := 4) rfl)) rfl
theorem mw1215 : Cond.instanceMethod yX11_far ∈ wsL_law0 := mkT (mA115 (List.mem_of_getElem? (i := 5) rfl)) rfl
theorem mw1216 : Cond.selects RX11 yX11_far yX11_far ∈ wsL_law0 := mkT (mA115 (List.mem_of_getElem? (i := 6) rfl)) rfl
theorem mw1217 : Cond.code yX11_far cX11_far 2 (some .int) ∈ wsL_law0 := mkT (mA115 (List.mem_of_getElem? (i := 7) rfl)) rfl
theorem mw1218 : Cond.methodLink RL 155 yX10_missing ∈ wsL_law0 := mkT (mA61 (List.mem_of_getElem? (i := 4) rfl)) rfl
theorem mw1219 : Cond.instanceMethod yX10_missing ∈ wsL_law0 := mkT (mA61 (List.mem_of_getElem? (i := 5) rfl)) rfl
theorem mw1220 : Cond.selects RX10 yX10_missing yX10_missing ∈ wsL_law0 := mkT (mA61 (List.mem_of_getElem? (i := 6) rfl)) rfl
theorem mw1221 : Cond.code yX10_missing cX10_missing 4 (some .int) ∈ wsL_law0 := mkT (mA61 (List.mem_of_getElem? (i := 7) rfl)) rfl
theorem mw1222 : Cond.methodLink RX10 268 Lib.Math.max.name ∈ wsL_law0 := mkT (mA61 (List.mem_of_getElem? (i := 12) rfl)) rfl
theorem mw1223 : Cond.methodLink RX10 265 yX10_lackedBy ∈ wsL_law0 := mkT (mA61 (List.mem_of_getElem? (i := 8) rfl)) rfl
theorem mw1224 : Cond.instanceMethod yX10_lackedBy ∈ wsL_law0 := mkT (mA61 (List.mem_of_getElem? (i := 10) rfl)) rfl
theorem mw1225 : Cond.selects RX10 yX10_lackedBy yX10_lackedBy ∈ wsL_law0 := mP2 (y := yX10_lackedBy) (n := 10) (List.mem_of_getElem? (i := 11) rfl)
theorem mw1226 : Cond.code yX10_lackedBy cX10_lackedBy 4 (some .int) ∈ wsL_law0 := mkT (mA61 (List.mem_of_getElem? (i := 11) rfl)) rfl
theorem mw1227 : Cond.methodLink RL 159 yX11_missing ∈ wsL_law0 := mkT (mA111 (List.mem_of_getElem? (i := 3) rfl)) rfl
theorem mw1228 : Cond.instanceMethod yX11_missing ∈ wsL_law0 := mkT (mA111 (List.mem_of_getElem? (i := 4) rfl)) rfl
theorem mw1229 : Cond.selects RX11 yX11_missing yX11_missing ∈ wsL_law0 := mkT (mA111 (List.mem_of_getElem? (i := 5) rfl)) rfl
theorem mw1230 : Cond.code yX11_missing cX11_missing 5 (some .int) ∈ wsL_law0 := mkT (mA111 (List.mem_of_getElem? (i := 6) rfl)) rfl
theorem mw1231 : Cond.methodLink RL 160 yX10_words ∈ wsL_law0 := mkT (mA61 (List.mem_of_getElem? (i := 13) rfl)) rfl
theorem mw1232 : Cond.instanceMethod yX10_words ∈ wsL_law0 := mkT (mA61 (List.mem_of_getElem? (i := 14) rfl)) rfl
theorem mw1233 : Cond.selects RX10 yX10_words yX10_words ∈ wsL_law0 := mkT (mA61 (List.mem_of_getElem? (i := 15) rfl)) rfl
theorem mw1234 : Cond.code yX10_words cX10_words 4 (some .int) ∈ wsL_law0 := mkT (mA62 (List.mem_of_getElem? (i := 0) rfl)) rfl
theorem mw1235 : Cond.methodLink RL 163 yX11_words ∈ wsL_law0 := mkT (mA111 (List.mem_of_getElem? (i := 7) rfl)) rfl
theorem mw1236 : Cond.instanceMethod yX11_words ∈ wsL_law0 := mkT (mA111 (List.mem_of_getElem? (i := 8) rfl)) rfl
theorem mw1237 : Cond.selects RX11 yX11_words yX11_words ∈ wsL_law0 := mkT (mA111 (List.mem_of_getElem? (i := 9) rfl)) rfl
theorem mw1238 : Cond.code yX11_words cX11_words 4 (some .int) ∈ wsL_law0 := mkT (mA111 (List.mem_of_getElem? (i := 10) rfl)) rfl
theorem mw1239 : Cond.methodLink RL 164 yX10_holds ∈ wsL_law0 := mkT (mA62 (List.mem_of_getElem? (i := 1) rfl)) rfl
theorem mw1240 : Cond.instanceMethod yX10_holds ∈ wsL_law0 := mkT (mA62 (List.mem_of_getElem? (i := 2) rfl)) rfl
theorem mw1241 : Cond.selects RX10 yX10_holds yX10_holds ∈ wsL_law0 := mkT (mA62 (List.mem_of_getElem? (i := 3) rfl)) rfl
theorem mw1242 : Cond.code yX10_holds cX10_holds 4 (some .long) ∈ wsL_law0 := mkT (mA62 (List.mem_of_getElem? (i := 4) rfl)) rfl
theorem mw1243 : Cond.methodLink RX10 273 yX7_isWeak ∈ wsL_law0 := mkT (mA62 (List.mem_of_getElem? (i := 5) rfl)) rfl
theorem mw1244 : Cond.methodLink RX10 276 yX2_setPower ∈ wsL_law0 := mkT (mA62 (List.mem_of_getElem? (i := 6) rfl)) rfl
theorem mw1245 : Cond.instanceMethod yX2_setPower ∈ wsL_law0 := mkT (mA62 (List.mem_of_getElem? (i := 7) rfl)) rfl
theorem mw1246 : Cond.selects RX2 yX2_setPower yX2_setPower ∈ wsL_law0 := mkT (mA62 (List.mem_of_getElem? (i := 8) rfl)) rfl
theorem mw1247 : Cond.code yX2_setPower cX2_setPower 5 none ∈ wsL_law0 := mkT (mA62 (List.mem_of_getElem? (i := 9) rfl)) rfl
theorem mw1248 : Cond.methodLink RL 167 yX11_holds ∈ wsL_law0 := mkT (mA111 (List.mem_of_getElem? (i := 11) rfl)) rfl
theorem mw1249 : Cond.instanceMethod yX11_holds ∈ wsL_law0 := mkT (mA111 (List.mem_of_getElem? (i := 12) rfl)) rfl
theorem mw1250 : Cond.selects RX11 yX11_holds yX11_holds ∈ wsL_law0 := mkT (mA111 (List.mem_of_getElem? (i := 13) rfl)) rfl
theorem mw1251 : Cond.code yX11_holds cX11_holds 4 (some .long) ∈ wsL_law0 := mkT (mA111 (List.mem_of_getElem? (i := 14) rfl)) rfl
theorem mw1252 : Cond.methodLink RX11 412 yX11_isWeak ∈ wsL_law0 := mkT (mA111 (List.mem_of_getElem? (i := 15) rfl)) rfl
theorem mw1253 : Cond.instanceMethod yX11_isWeak ∈ wsL_law0 := mkT (mA112 (List.mem_of_getElem? (i := 1) rfl)) rfl
theorem mw1254 : Cond.selects RX11 yX11_isWeak yX11_isWeak ∈ wsL_law0 := mP6 (y := yX11_isWeak) (n := 43) (List.mem_of_getElem? (i := 14) rfl)
theorem mw1255 : Cond.code yX11_isWeak cX11_isWeak 2 (some .boolean) ∈ wsL_law0 := mkT (mA112 (List.mem_of_getElem? (i := 2) rfl)) rfl
theorem mw1256 : Cond.methodLink RX11 415 yX11_power ∈ wsL_law0 := mkT (mA112 (List.mem_of_getElem? (i := 3) rfl)) rfl
theorem mw1257 : Cond.static yX11_power ∈ wsL_law0 := mkT (mA112 (List.mem_of_getElem? (i := 4) rfl)) rfl
theorem mw1258 : Cond.code yX11_power cX11_power 5 (some .long) ∈ wsL_law0 := mkT (mA112 (List.mem_of_getElem? (i := 5) rfl)) rfl
theorem mw1259 : Cond.methodLink RL 168 yX10_pays ∈ wsL_law0 := mkT (mA62 (List.mem_of_getElem? (i := 10) rfl)) rfl
theorem mw1260 : Cond.instanceMethod yX10_pays ∈ wsL_law0 := mkT (mA62 (List.mem_of_getElem? (i := 11) rfl)) rfl
theorem mw1261 : Cond.selects RX10 yX10_pays yX10_pays ∈ wsL_law0 := mkT (mA62 (List.mem_of_getElem? (i := 12) rfl)) rfl
theorem mw1262 : Cond.code yX10_pays cX10_pays 5 (some .int) ∈ wsL_law0 := mkT (mA62 (List.mem_of_getElem? (i := 13) rfl)) rfl
theorem mw1263 : Cond.constantLong RX10 290 (2) ∈ wsL_law0 := mkT (mA62 (List.mem_of_getElem? (i := 15) rfl)) rfl
theorem mw1264 : Cond.methodLink RX10 287 yX3_number ∈ wsL_law0 := mkT (mA62 (List.mem_of_getElem? (i := 14) rfl)) rfl
theorem mw1265 : Cond.methodLink RL 171 yX11_pays ∈ wsL_law0 := mkT (mA112 (List.mem_of_getElem? (i := 6) rfl)) rfl
theorem mw1266 : Cond.instanceMethod yX11_pays ∈ wsL_law0 := mkT (mA112 (List.mem_of_getElem? (i := 7) rfl)) rfl
theorem mw1267 : Cond.selects RX11 yX11_pays yX11_pays ∈ wsL_law0 := mkT (mA112 (List.mem_of_getElem? (i := 8) rfl)) rfl
theorem mw1268 : Cond.code yX11_pays cX11_pays 5 (some .int) ∈ wsL_law0 := mkT (mA112 (List.mem_of_getElem? (i := 9) rfl)) rfl
theorem mw1269 : Cond.constantLong RX11 418 (2) ∈ wsL_law0 := mkT (mA112 (List.mem_of_getElem? (i := 10) rfl)) rfl
theorem mw1270 : Cond.methodLink RL 172 yX10_wears ∈ wsL_law0 := mkT (mA63 (List.mem_of_getElem? (i := 0) rfl)) rfl
theorem mw1271 : Cond.instanceMethod yX10_wears ∈ wsL_law0 := mkT (mA63 (List.mem_of_getElem? (i := 1) rfl)) rfl
theorem mw1272 : Cond.selects RX10 yX10_wears yX10_wears ∈ wsL_law0 := mkT (mA63 (List.mem_of_getElem? (i := 2) rfl)) rfl
theorem mw1273 : Cond.code yX10_wears cX10_wears 6 (some .long) ∈ wsL_law0 := mkT (mA63 (List.mem_of_getElem? (i := 3) rfl)) rfl
theorem mw1274 : Cond.constantLong RX10 292 (100) ∈ wsL_law0 := mkT (mA63 (List.mem_of_getElem? (i := 4) rfl)) rfl
theorem mw1275 : Cond.methodLink RL 175 yX11_wears ∈ wsL_law0 := mkT (mA112 (List.mem_of_getElem? (i := 11) rfl)) rfl
theorem mw1276 : Cond.instanceMethod yX11_wears ∈ wsL_law0 := mkT (mA112 (List.mem_of_getElem? (i := 12) rfl)) rfl
theorem mw1277 : Cond.selects RX11 yX11_wears yX11_wears ∈ wsL_law0 := mkT (mA112 (List.mem_of_getElem? (i := 13) rfl)) rfl
theorem mw1278 : Cond.code yX11_wears cX11_wears 7 (some .long) ∈ wsL_law0 := mkT (mA112 (List.mem_of_getElem? (i := 14) rfl)) rfl
theorem mw1279 : Cond.constantLong RX11 420 (100) ∈ wsL_law0 := mkT (mA112 (List.mem_of_getElem? (i := 15) rfl)) rfl
theorem mw1280 : Cond.methodLink RL 176 yX10_apart ∈ wsL_law0 := mkT (mA63 (List.mem_of_getElem? (i := 5) rfl)) rfl
theorem mw1281 : Cond.instanceMethod yX10_apart ∈ wsL_law0 := mkT (mA63 (List.mem_of_getElem? (i := 6) rfl)) rfl
theorem mw1282 : Cond.selects RX10 yX10_apart yX10_apart ∈ wsL_law0 := mkT (mA63 (List.mem_of_getElem? (i := 7) rfl)) rfl
theorem mw1283 : Cond.code yX10_apart cX10_apart 4 (some .int) ∈ wsL_law0 := mkT (mA63 (List.mem_of_getElem? (i := 8) rfl)) rfl
theorem mw1284 : Cond.methodLink RX10 294 yX10_rideTrouble ∈ wsL_law0 := mkT (mA63 (List.mem_of_getElem? (i := 9) rfl)) rfl
theorem mw1285 : Cond.instanceMethod yX10_rideTrouble ∈ wsL_law0 := mkT (mA63 (List.mem_of_getElem? (i := 11) rfl)) rfl
theorem mw1286 : Cond.selects RX10 yX10_rideTrouble yX10_rideTrouble ∈ wsL_law0 := mP2 (y := yX10_rideTrouble) (n := 10) (List.mem_of_getElem? (i := 12) rfl)
theorem mw1287 : Cond.code yX10_rideTrouble cX10_rideTrouble 4 (some .int) ∈ wsL_law0 := mkT (mA63 (List.mem_of_getElem? (i := 12) rfl)) rfl
theorem mw1288 : Cond.fieldLink RX10 303 "ReelChange$House" "boys" "LReelChange$Table;" ∈ wsL_law0 := mkT (mA8 (List.mem_of_getElem? (i := 7) rfl)) rfl
theorem mw1289 : Cond.methodLink RX10 297 yX10_boysMeant ∈ wsL_law0 := mkT (mA63 (List.mem_of_getElem? (i := 13) rfl)) rfl
theorem mw1290 : Cond.instanceMethod yX10_boysMeant ∈ wsL_law0 := mkT (mA63 (List.mem_of_getElem? (i := 15) rfl)) rfl
theorem mw1291 : Cond.selects RX10 yX10_boysMeant yX10_boysMeant ∈ wsL_law0 := mP2 (y := yX10_boysMeant) (n := 10) (List.mem_of_getElem? (i := 13) rfl)
theorem mw1292 : Cond.code yX10_boysMeant cX10_boysMeant 2 (some .int) ∈ wsL_law0 := mkT (mA64 (List.mem_of_getElem? (i := 0) rfl)) rfl
theorem mw1293 : Cond.methodLink RX10 300 yX10_apartBy ∈ wsL_law0 := mkT (mA64 (List.mem_of_getElem? (i := 1) rfl)) rfl
theorem mw1294 : Cond.instanceMethod yX10_apartBy ∈ wsL_law0 := mkT (mA64 (List.mem_of_getElem? (i := 3) rfl)) rfl
theorem mw1295 : Cond.selects RX10 yX10_apartBy yX10_apartBy ∈ wsL_law0 := mP2 (y := yX10_apartBy) (n := 10) (List.mem_of_getElem? (i := 14) rfl)
theorem mw1296 : Cond.code yX10_apartBy cX10_apartBy 2 (some .int) ∈ wsL_law0 := mkT (mA64 (List.mem_of_getElem? (i := 4) rfl)) rfl
theorem mw1297 : Cond.fieldLink RX10 387 "ReelChange$Riders" "apartNeeded" "I" ∈ wsL_law0 := mkT (mA19 (List.mem_of_getElem? (i := 8) rfl)) rfl
theorem mw1298 : Cond.methodLink RX10 306 yX6_carry ∈ wsL_law0 := mkT (mA64 (List.mem_of_getElem? (i := 5) rfl)) rfl
theorem mw1299 : Cond.instanceMethod yX6_carry ∈ wsL_law0 := mkT (mA64 (List.mem_of_getElem? (i := 6) rfl)) rfl
theorem mw1300 : Cond.selects RX6 yX6_carry yX6_carry ∈ wsL_law0 := mkT (mA64 (List.mem_of_getElem? (i := 7) rfl)) rfl
theorem mw1301 : Cond.code yX6_carry cX6_carry 10 none ∈ wsL_law0 := mkT (mA64 (List.mem_of_getElem? (i := 8) rfl)) rfl
theorem mw1302 : Cond.fieldLink RX6 31 "ReelChange$Night" "rows" "LReelChange$Table;" ∈ wsL_law0 := mkT (mA15 (List.mem_of_getElem? (i := 15) rfl)) rfl
theorem mw1303 : Cond.fieldLink RX6 36 "ReelChange$Table" "count" "I" ∈ wsL_law0 := mkT (mA4 (List.mem_of_getElem? (i := 4) rfl)) rfl
theorem mw1304 : Cond.methodLink RX6 47 Lib.Math.max.name ∈ wsL_law0 := mkT (mA64 (List.mem_of_getElem? (i := 15) rfl)) rfl
theorem mw1305 : Cond.methodLink RX6 27 yX8_put ∈ wsL_law0 := mkT (mA64 (List.mem_of_getElem? (i := 9) rfl)) rfl
theorem mw1306 : Cond.methodLink RX6 39 yX6_soonestBack ∈ wsL_law0 := mkT (mA64 (List.mem_of_getElem? (i := 10) rfl)) rfl
theorem mw1307 : Cond.instanceMethod yX6_soonestBack ∈ wsL_law0 := mkT (mA64 (List.mem_of_getElem? (i := 12) rfl)) rfl
theorem mw1308 : Cond.selects RX6 yX6_soonestBack yX6_soonestBack ∈ wsL_law0 := mP2 (y := yX6_soonestBack) (n := 3) (List.mem_of_getElem? (i := 15) rfl)
theorem mw1309 : Cond.code yX6_soonestBack cX6_soonestBack 4 (some .int) ∈ wsL_law0 := mkT (mA64 (List.mem_of_getElem? (i := 13) rfl)) rfl
theorem mw1310 : Cond.methodLink RX6 43 yX8_at ∈ wsL_law0 := mkT (mA64 (List.mem_of_getElem? (i := 14) rfl)) rfl
theorem mw1311 : Cond.methodLink RL 179 yX11_apart ∈ wsL_law0 := mkT (mA115 (List.mem_of_getElem? (i := 8) rfl)) rfl
theorem mw1312 : Cond.instanceMethod yX11_apart ∈ wsL_law0 := mkT (mA115 (List.mem_of_getElem? (i := 9) rfl)) rfl
theorem mw1313 : Cond.selects RX11 yX11_apart yX11_apart ∈ wsL_law0 := mkT (mA115 (List.mem_of_getElem? (i := 10) rfl)) rfl
theorem mw1314 : Cond.code yX11_apart cX11_apart 4 (some .int) ∈ wsL_law0 := mkT (mA115 (List.mem_of_getElem? (i := 11) rfl)) rfl
theorem mw1315 : Cond.methodLink RX11 446 yX11_boyWhy ∈ wsL_law0 := mkT (mA115 (List.mem_of_getElem? (i := 12) rfl)) rfl
theorem mw1316 : Cond.instanceMethod yX11_boyWhy ∈ wsL_law0 := mkT (mA115 (List.mem_of_getElem? (i := 14) rfl)) rfl
theorem mw1317 : Cond.selects RX11 yX11_boyWhy yX11_boyWhy ∈ wsL_law0 := mP7 (y := yX11_boyWhy) (n := 43) (List.mem_of_getElem? (i := 3) rfl)
theorem mw1318 : Cond.code yX11_boyWhy cX11_boyWhy 2 (some .int) ∈ wsL_law0 := mkT (mA115 (List.mem_of_getElem? (i := 15) rfl)) rfl
theorem mw1319 : Cond.methodLink RX11 449 yX11_apartOf ∈ wsL_law0 := mkT (mA116 (List.mem_of_getElem? (i := 0) rfl)) rfl
theorem mw1320 : Cond.instanceMethod yX11_apartOf ∈ wsL_law0 := mkT (mA116 (List.mem_of_getElem? (i := 2) rfl)) rfl
theorem mw1321 : Cond.selects RX11 yX11_apartOf yX11_apartOf ∈ wsL_law0 := mP7 (y := yX11_apartOf) (n := 43) (List.mem_of_getElem? (i := 4) rfl)
theorem mw1322 : Cond.code yX11_apartOf cX11_apartOf 5 (some .int) ∈ wsL_law0 := mkT (mA116 (List.mem_of_getElem? (i := 3) rfl)) rfl
theorem mw1323 : Cond.methodLink RX11 443 yX11_carry ∈ wsL_law0 := mkT (mA116 (List.mem_of_getElem? (i := 4) rfl)) rfl
theorem mw1324 : Cond.instanceMethod yX11_carry ∈ wsL_law0 := mkT (mA116 (List.mem_of_getElem? (i := 6) rfl)) rfl
theorem mw1325 : Cond.selects RX11 yX11_carry yX11_carry ∈ wsL_law0 := mP7 (y := yX11_carry) (n := 43) (List.mem_of_getElem? (i := 5) rfl)
theorem mw1326 : Cond.code yX11_carry cX11_carry 6 none ∈ wsL_law0 := mkT (mA116 (List.mem_of_getElem? (i := 7) rfl)) rfl
theorem mw1327 : Cond.methodLink RL 180 yX10_waits ∈ wsL_law0 := mkT (mA65 (List.mem_of_getElem? (i := 0) rfl)) rfl
theorem mw1328 : Cond.instanceMethod yX10_waits ∈ wsL_law0 := mkT (mA65 (List.mem_of_getElem? (i := 1) rfl)) rfl
theorem mw1329 : Cond.selects RX10 yX10_waits yX10_waits ∈ wsL_law0 := mkT (mA65 (List.mem_of_getElem? (i := 2) rfl)) rfl
theorem mw1330 : Cond.code yX10_waits cX10_waits 5 (some .int) ∈ wsL_law0 := mkT (mA65 (List.mem_of_getElem? (i := 3) rfl)) rfl
theorem mw1331 : Cond.fieldLink RX10 310 "ReelChange$Riders" "waited" "I" ∈ wsL_law0 := mkT (mA19 (List.mem_of_getElem? (i := 10) rfl)) rfl
theorem mw1332 : Cond.methodLink RL 184 yX11_waits ∈ wsL_law0 := mkT (mA116 (List.mem_of_getElem? (i := 12) rfl)) rfl
theorem mw1333 : Cond.instanceMethod yX11_waits ∈ wsL_law0 := mkT (mA116 (List.mem_of_getElem? (i := 13) rfl)) rfl
theorem mw1334 : Cond.selects RX11 yX11_waits yX11_waits ∈ wsL_law0 := mkT (mA116 (List.mem_of_getElem? (i := 14) rfl)) rfl
theorem mw1335 : Cond.code yX11_waits cX11_waits 9 (some .int) ∈ wsL_law0 := mkT (mA116 (List.mem_of_getElem? (i := 15) rfl)) rfl
theorem mw1336 : Cond.methodLink RL 185 yX10_boys ∈ wsL_law0 := mkT (mA65 (List.mem_of_getElem? (i := 4) rfl)) rfl
theorem mw1337 : Cond.instanceMethod yX10_boys ∈ wsL_law0 := mkT (mA65 (List.mem_of_getElem? (i := 5) rfl)) rfl
theorem mw1338 : Cond.selects RX10 yX10_boys yX10_boys ∈ wsL_law0 := mkT (mA65 (List.mem_of_getElem? (i := 6) rfl)) rfl
theorem mw1339 : Cond.code yX10_boys cX10_boys 5 (some .int) ∈ wsL_law0 := mkT (mA65 (List.mem_of_getElem? (i := 7) rfl)) rfl
theorem mw1340 : Cond.methodLink RL 188 yX11_boys ∈ wsL_law0 := mkT (mA116 (List.mem_of_getElem? (i := 8) rfl)) rfl
theorem mw1341 : Cond.instanceMethod yX11_boys ∈ wsL_law0 := mkT (mA116 (List.mem_of_getElem? (i := 9) rfl)) rfl
theorem mw1342 : Cond.selects RX11 yX11_boys yX11_boys ∈ wsL_law0 := mkT (mA116 (List.mem_of_getElem? (i := 10) rfl)) rfl
theorem mw1343 : Cond.code yX11_boys cX11_boys 5 (some .int) ∈ wsL_law0 := mkT (mA116 (List.mem_of_getElem? (i := 11) rfl)) rfl
theorem mw1344 : Cond.methodLink RL 189 yX10_well ∈ wsL_law0 := mkT (mA65 (List.mem_of_getElem? (i := 8) rfl)) rfl
theorem mw1345 : Cond.instanceMethod yX10_well ∈ wsL_law0 := mkT (mA65 (List.mem_of_getElem? (i := 9) rfl)) rfl
theorem mw1346 : Cond.selects RX10 yX10_well yX10_well ∈ wsL_law0 := mkT (mA65 (List.mem_of_getElem? (i := 10) rfl)) rfl
theorem mw1347 : Cond.code yX10_well cX10_well 2 (some .long) ∈ wsL_law0 := mkT (mA65 (List.mem_of_getElem? (i := 11) rfl)) rfl
theorem mw1348 : Cond.methodLink RL 193 yX11_well ∈ wsL_law0 := mkT (mA117 (List.mem_of_getElem? (i := 0) rfl)) rfl
theorem mw1349 : Cond.instanceMethod yX11_well ∈ wsL_law0 := mkT (mA117 (List.mem_of_getElem? (i := 1) rfl)) rfl
theorem mw1350 : Cond.selects RX11 yX11_well yX11_well ∈ wsL_law0 := mkT (mA117 (List.mem_of_getElem? (i := 2) rfl)) rfl
theorem mw1351 : Cond.code yX11_well cX11_well 2 (some .long) ∈ wsL_law0 := mkT (mA117 (List.mem_of_getElem? (i := 3) rfl)) rfl
theorem mw1352 : Cond.methodLink RL 194 yX10_wrong ∈ wsL_law0 := mkT (mA65 (List.mem_of_getElem? (i := 12) rfl)) rfl
theorem mw1353 : Cond.instanceMethod yX10_wrong ∈ wsL_law0 := mkT (mA65 (List.mem_of_getElem? (i := 13) rfl)) rfl
theorem mw1354 : Cond.selects RX10 yX10_wrong yX10_wrong ∈ wsL_law0 := mkT (mA65 (List.mem_of_getElem? (i := 14) rfl)) rfl
theorem mw1355 : Cond.code yX10_wrong cX10_wrong 1 (some .int) ∈ wsL_law0 := mkT (mA65 (List.mem_of_getElem? (i := 15) rfl)) rfl
theorem mw1356 : Cond.methodLink RX10 313 yX1_wrongPlaces ∈ wsL_law0 := mkT (mA66 (List.mem_of_getElem? (i := 0) rfl)) rfl
theorem mw1357 : Cond.instanceMethod yX1_wrongPlaces ∈ wsL_law0 := mkT (mA66 (List.mem_of_getElem? (i := 1) rfl)) rfl
theorem mw1358 : Cond.selects RX1 yX1_wrongPlaces yX1_wrongPlaces ∈ wsL_law0 := mkT (mA66 (List.mem_of_getElem? (i := 2) rfl)) rfl
theorem mw1359 : Cond.code yX1_wrongPlaces cX1_wrongPlaces 5 (some .int) ∈ wsL_law0 := mkT (mA66 (List.mem_of_getElem? (i := 3) rfl)) rfl
theorem mw1360 : Cond.fieldLink RX1 27 "ReelChange$State" "places" "LReelChange$Table;" ∈ wsL_law0 := mkT (mA6 (List.mem_of_getElem? (i := 0) rfl)) rfl
theorem mw1361 : Cond.fieldLink RX1 32 "ReelChange$Table" "count" "I" ∈ wsL_law0 := mkT (mA4 (List.mem_of_getElem? (i := 2) rfl)) rfl
theorem mw1362 : Cond.methodLink RX1 36 yX7_reelAt ∈ wsL_law0 := mkT (mA66 (List.mem_of_getElem? (i := 4) rfl)) rfl
theorem mw1363 : Cond.methodLink RL 197 yX11_wrong ∈ wsL_law0 := mkT (mA117 (List.mem_of_getElem? (i := 4) rfl)) rfl
theorem mw1364 : Cond.instanceMethod yX11_wrong ∈ wsL_law0 := mkT (mA117 (List.mem_of_getElem? (i := 5) rfl)) rfl
theorem mw1365 : Cond.selects RX11 yX11_wrong yX11_wrong ∈ wsL_law0 := mkT (mA117 (List.mem_of_getElem? (i := 6) rfl)) rfl
theorem mw1366 : Cond.code yX11_wrong cX11_wrong 4 (some .int) ∈ wsL_law0 := mkT (mA117 (List.mem_of_getElem? (i := 7) rfl)) rfl
theorem mw1367 : Cond.methodLink RL 198 yX10_exchanges ∈ wsL_law0 := mkT (mA66 (List.mem_of_getElem? (i := 5) rfl)) rfl
theorem mw1368 : Cond.instanceMethod yX10_exchanges ∈ wsL_law0 := mkT (mA66 (List.mem_of_getElem? (i := 6) rfl)) rfl
theorem mw1369 : Cond.selects RX10 yX10_exchanges yX10_exchanges ∈ wsL_law0 := mkT (mA66 (List.mem_of_getElem? (i := 7) rfl)) rfl
theorem mw1370 : Cond.code yX10_exchanges cX10_exchanges 1 (some .int) ∈ wsL_law0 := mkT (mA66 (List.mem_of_getElem? (i := 8) rfl)) rfl
theorem mw1371 : Cond.methodLink RX10 317 yX1_fewest ∈ wsL_law0 := mkT (mA66 (List.mem_of_getElem? (i := 9) rfl)) rfl
theorem mw1372 : Cond.instanceMethod yX1_fewest ∈ wsL_law0 := mkT (mA66 (List.mem_of_getElem? (i := 10) rfl)) rfl
theorem mw1373 : Cond.selects RX1 yX1_fewest yX1_fewest ∈ wsL_law0 := mkT (mA66 (List.mem_of_getElem? (i := 11) rfl)) rfl
theorem mw1374 : Cond.code yX1_fewest cX1_fewest 8 (some .int) ∈ wsL_law0 := mkT (mA66 (List.mem_of_getElem? (i := 12) rfl)) rfl
theorem mw1375 : Cond.methodLink RX1 40 Lib.Math.min.name ∈ wsL_law0 := mkT (mA66 (List.mem_of_getElem? (i := 13) rfl)) rfl
theorem mw1376 : Cond.methodLink RX1 56 Lib.Math.max.name ∈ wsL_law0 := mkT (mA67 (List.mem_of_getElem? (i := 13) rfl)) rfl
theorem mw1377 : Cond.methodLink RX1 46 yX1_sort ∈ wsL_law0 := mkT (mA66 (List.mem_of_getElem? (i := 14) rfl)) rfl
theorem mw1378 : Cond.instanceMethod yX1_sort ∈ wsL_law0 := mkT (mA67 (List.mem_of_getElem? (i := 0) rfl)) rfl
theorem mw1379 : Cond.selects RX1 yX1_sort yX1_sort ∈ wsL_law0 := mP3 (y := yX1_sort) (n := 3) (List.mem_of_getElem? (i := 0) rfl)
theorem mw1380 : Cond.code yX1_sort cX1_sort 4 none ∈ wsL_law0 := mkT (mA67 (List.mem_of_getElem? (i := 1) rfl)) rfl
theorem mw1381 : Cond.fieldLink RX1 66 "ReelChange$State" "reels" "LReelChange$Table;" ∈ wsL_law0 := mkT (mA5 (List.mem_of_getElem? (i := 3) rfl)) rfl
theorem mw1382 : Cond.methodLink RX1 63 yX8_clear ∈ wsL_law0 := mkT (mA67 (List.mem_of_getElem? (i := 2) rfl)) rfl
theorem mw1383 : Cond.methodLink RX1 69 yX8_howMany ∈ wsL_law0 := mkT (mA67 (List.mem_of_getElem? (i := 3) rfl)) rfl
theorem mw1384 : Cond.methodLink RX1 72 yX8_add ∈ wsL_law0 := mkT (mA67 (List.mem_of_getElem? (i := 4) rfl)) rfl
theorem mw1385 : Cond.methodLink RX1 50 yX1_weigh ∈ wsL_law0 := mkT (mA67 (List.mem_of_getElem? (i := 5) rfl)) rfl
theorem mw1386 : Cond.instanceMethod yX1_weigh ∈ wsL_law0 := mkT (mA67 (List.mem_of_getElem? (i := 7) rfl)) rfl
theorem mw1387 : Cond.selects RX1 yX1_weigh yX1_weigh ∈ wsL_law0 := mP3 (y := yX1_weigh) (n := 3) (List.mem_of_getElem? (i := 1) rfl)
theorem mw1388 : Cond.code yX1_weigh cX1_weigh 3 none ∈ wsL_law0 := mkT (mA67 (List.mem_of_getElem? (i := 8) rfl)) rfl
theorem mw1389 : Cond.methodLink RX1 75 yX1_unit ∈ wsL_law0 := mkT (mA67 (List.mem_of_getElem? (i := 9) rfl)) rfl
theorem mw1390 : Cond.static yX1_unit ∈ wsL_law0 := mkT (mA67 (List.mem_of_getElem? (i := 10) rfl)) rfl
theorem mw1391 : Cond.code yX1_unit cX1_unit 1 (some .long) ∈ wsL_law0 := mkT (mA67 (List.mem_of_getElem? (i := 11) rfl)) rfl
theorem mw1392 : Cond.methodLink RX1 53 yX8_at ∈ wsL_law0 := mkT (mA67 (List.mem_of_getElem? (i := 12) rfl)) rfl
theorem mw1393 : Cond.methodLink RX1 59 yX8_put ∈ wsL_law0 := mkT (mA67 (List.mem_of_getElem? (i := 14) rfl)) rfl
theorem mw1394 : Cond.methodLink RL 201 yX11_exchanges ∈ wsL_law0 := mkT (mA117 (List.mem_of_getElem? (i := 8) rfl)) rfl
theorem mw1395 : Cond.instanceMethod yX11_exchanges ∈ wsL_law0 := mkT (mA117 (List.mem_of_getElem? (i := 9) rfl)) rfl
theorem mw1396 : Cond.selects RX11 yX11_exchanges yX11_exchanges ∈ wsL_law0 := mkT (mA117 (List.mem_of_getElem? (i := 10) rfl)) rfl
theorem mw1397 : Cond.code yX11_exchanges cX11_exchanges 5 (some .int) ∈ wsL_law0 := mkT (mA117 (List.mem_of_getElem? (i := 11) rfl)) rfl
theorem mw1398 : Cond.methodLink RX11 452 yX11_laySorted ∈ wsL_law0 := mkT (mA117 (List.mem_of_getElem? (i := 12) rfl)) rfl
theorem mw1399 : Cond.instanceMethod yX11_laySorted ∈ wsL_law0 := mkT (mA117 (List.mem_of_getElem? (i := 14) rfl)) rfl
theorem mw1400 : Cond.selects RX11 yX11_laySorted yX11_laySorted ∈ wsL_law0 := mP7 (y := yX11_laySorted) (n := 43) (List.mem_of_getElem? (i := 6) rfl)
theorem mw1401 : Cond.code yX11_laySorted cX11_laySorted 3 none ∈ wsL_law0 := mkT (mA117 (List.mem_of_getElem? (i := 15) rfl)) rfl
theorem mw1402 : Cond.methodLink RX11 455 yX11_isEven ∈ wsL_law0 := mkT (mA118 (List.mem_of_getElem? (i := 0) rfl)) rfl
theorem mw1403 : Cond.instanceMethod yX11_isEven ∈ wsL_law0 := mkT (mA118 (List.mem_of_getElem? (i := 2) rfl)) rfl
theorem mw1404 : Cond.selects RX11 yX11_isEven yX11_isEven ∈ wsL_law0 := mP7 (y := yX11_isEven) (n := 43) (List.mem_of_getElem? (i := 7) rfl)
theorem mw1405 : Cond.code yX11_isEven cX11_isEven 6 (some .boolean) ∈ wsL_law0 := mkT (mA118 (List.mem_of_getElem? (i := 3) rfl)) rfl
theorem mw1406 : Cond.methodLink RL 202 yX10_dark ∈ wsL_law0 := mkT (mA67 (List.mem_of_getElem? (i := 15) rfl)) rfl
theorem mw1407 : Cond.instanceMethod yX10_dark ∈ wsL_law0 := mkT (mA68 (List.mem_of_getElem? (i := 0) rfl)) rfl
theorem mw1408 : Cond.selects RX10 yX10_dark yX10_dark ∈ wsL_law0 := mkT (mA68 (List.mem_of_getElem? (i := 1) rfl)) rfl
theorem mw1409 : Cond.code yX10_dark cX10_dark 3 (some .int) ∈ wsL_law0 := mkT (mA68 (List.mem_of_getElem? (i := 2) rfl)) rfl
theorem mw1410 : Cond.constant RX10 320 (65536) ∈ wsL_law0 := mkT (mA68 (List.mem_of_getElem? (i := 3) rfl)) rfl
theorem mw1411 : Cond.fieldLink RX10 328 "ReelChange$Night" "snapped" "I" ∈ wsL_law0 := mkT (mA16 (List.mem_of_getElem? (i := 2) rfl)) rfl
theorem mw1412 : Cond.methodLink RX10 325 yX5_drawBy ∈ wsL_law0 := mkT (mA68 (List.mem_of_getElem? (i := 4) rfl)) rfl
theorem mw1413 : Cond.instanceMethod yX5_drawBy ∈ wsL_law0 := mkT (mA68 (List.mem_of_getElem? (i := 5) rfl)) rfl
theorem mw1414 : Cond.selects RX5 yX5_drawBy yX5_drawBy ∈ wsL_law0 := mkT (mA68 (List.mem_of_getElem? (i := 6) rfl)) rfl
theorem mw1415 : Cond.code yX5_drawBy cX5_drawBy 2 none ∈ wsL_law0 := mkT (mA68 (List.mem_of_getElem? (i := 7) rfl)) rfl
theorem mw1416 : Cond.methodLink RL 205 yX11_dark ∈ wsL_law0 := mkT (mA118 (List.mem_of_getElem? (i := 4) rfl)) rfl
theorem mw1417 : Cond.instanceMethod yX11_dark ∈ wsL_law0 := mkT (mA118 (List.mem_of_getElem? (i := 5) rfl)) rfl
theorem mw1418 : Cond.selects RX11 yX11_dark yX11_dark ∈ wsL_law0 := mkT (mA118 (List.mem_of_getElem? (i := 6) rfl)) rfl
theorem mw1419 : Cond.code yX11_dark cX11_dark 3 (some .int) ∈ wsL_law0 := mkT (mA118 (List.mem_of_getElem? (i := 7) rfl)) rfl
theorem mw1420 : Cond.constant RX11 468 (65536) ∈ wsL_law0 := mkT (mA118 (List.mem_of_getElem? (i := 8) rfl)) rfl
theorem mw1421 : Cond.fieldLink RX11 458 "ReelChangeModel" "seed1" "I" ∈ wsL_law0 := mkT (mA81 (List.mem_of_getElem? (i := 0) rfl)) rfl
theorem mw1422 : Cond.fieldLink RX11 462 "ReelChangeModel" "darkNow" "I" ∈ wsL_law0 := mkT (mA81 (List.mem_of_getElem? (i := 1) rfl)) rfl
theorem mw1423 : Cond.methodLink RX11 469 yX11_drawNight ∈ wsL_law0 := mkT (mA118 (List.mem_of_getElem? (i := 9) rfl)) rfl
theorem mw1424 : Cond.instanceMethod yX11_drawNight ∈ wsL_law0 := mkT (mA118 (List.mem_of_getElem? (i := 11) rfl)) rfl
theorem mw1425 : Cond.selects RX11 yX11_drawNight yX11_drawNight ∈ wsL_law0 := mP7 (y := yX11_drawNight) (n := 43) (List.mem_of_getElem? (i := 8) rfl)
theorem mw1426 : Cond.code yX11_drawNight cX11_drawNight 5 none ∈ wsL_law0 := mkT (mA118 (List.mem_of_getElem? (i := 12) rfl)) rfl
theorem mw1427 : Cond.methodLink RX11 465 yX11_drawn ∈ wsL_law0 := mkT (mA118 (List.mem_of_getElem? (i := 13) rfl)) rfl
theorem mw1428 : Cond.instanceMethod yX11_drawn ∈ wsL_law0 := mkT (mA118 (List.mem_of_getElem? (i := 15) rfl)) rfl
theorem mw1429 : Cond.selects RX11 yX11_drawn yX11_drawn ∈ wsL_law0 := mP7 (y := yX11_drawn) (n := 43) (List.mem_of_getElem? (i := 9) rfl)
theorem mw1430 : Cond.code yX11_drawn cX11_drawn 1 (some .int) ∈ wsL_law0 := mkT (mA119 (List.mem_of_getElem? (i := 0) rfl)) rfl
theorem mw1431 : Cond.constant RX11 461 (65537) ∈ wsL_law0 := mkT (mA119 (List.mem_of_getElem? (i := 1) rfl)) rfl
theorem mw1432 : Cond.methodLink RL 206 yX10_bestMan ∈ wsL_law0 := mkT (mA68 (List.mem_of_getElem? (i := 8) rfl)) rfl
theorem mw1433 : Cond.instanceMethod yX10_bestMan ∈ wsL_law0 := mkT (mA68 (List.mem_of_getElem? (i := 9) rfl)) rfl
theorem mw1434 : Cond.selects RX10 yX10_bestMan yX10_bestMan ∈ wsL_law0 := mkT (mA68 (List.mem_of_getElem? (i := 10) rfl)) rfl
theorem mw1435 : Cond.code yX10_bestMan cX10_bestMan 7 (some .int) ∈ wsL_law0 := mkT (mA68 (List.mem_of_getElem? (i := 11) rfl)) rfl
theorem mw1436 : Cond.methodLink RX10 334 yX10_wasteByDraws ∈ wsL_law0 := mkT (mA68 (List.mem_of_getElem? (i := 12) rfl)) rfl
theorem mw1437 : Cond.instanceMethod yX10_wasteByDraws ∈ wsL_law0 := mkT (mA68 (List.mem_of_getElem? (i := 14) rfl)) rfl
theorem mw1438 : Cond.selects RX10 yX10_wasteByDraws yX10_wasteByDraws ∈ wsL_law0 := mP3 (y := yX10_wasteByDraws) (n := 10) (List.mem_of_getElem? (i := 2) rfl)
theorem mw1439 : Cond.code yX10_wasteByDraws cX10_wasteByDraws 6 (some .int) ∈ wsL_law0 := mkT (mA68 (List.mem_of_getElem? (i := 15) rfl)) rfl
theorem mw1440 : Cond.methodLink RL 209 yX11_bestMan ∈ wsL_law0 := mkT (mA119 (List.mem_of_getElem? (i := 2) rfl)) rfl
theorem mw1441 : Cond.instanceMethod yX11_bestMan ∈ wsL_law0 := mkT (mA119 (List.mem_of_getElem? (i := 3) rfl)) rfl
theorem mw1442 : Cond.selects RX11 yX11_bestMan yX11_bestMan ∈ wsL_law0 := mkT (mA119 (List.mem_of_getElem? (i := 4) rfl)) rfl
theorem mw1443 : Cond.code yX11_bestMan cX11_bestMan 8 (some .int) ∈ wsL_law0 := mkT (mA119 (List.mem_of_getElem? (i := 5) rfl)) rfl
theorem mw1444 : Cond.constant RX11 472 (100000000) ∈ wsL_law0 := mkT (mA119 (List.mem_of_getElem? (i := 6) rfl)) rfl
theorem mw1445 : Cond.methodLink RL 210 yX10_threads ∈ wsL_law0 := mkT (mA69 (List.mem_of_getElem? (i := 0) rfl)) rfl
theorem mw1446 : Cond.instanceMethod yX10_threads ∈ wsL_law0 := mkT (mA69 (List.mem_of_getElem? (i := 1) rfl)) rfl
theorem mw1447 : Cond.selects RX10 yX10_threads yX10_threads ∈ wsL_law0 := mkT (mA69 (List.mem_of_getElem? (i := 2) rfl)) rfl
theorem mw1448 : Cond.code yX10_threads cX10_threads 3 (some .boolean) ∈ wsL_law0 := mkT (mA69 (List.mem_of_getElem? (i := 3) rfl)) rfl
theorem mw1449 : Cond.methodLink RX10 337 yX10_refuseAct ∈ wsL_law0 := mkT (mA69 (List.mem_of_getElem? (i := 4) rfl)) rfl
theorem mw1450 : Cond.instanceMethod yX10_refuseAct ∈ wsL_law0 := mkT (mA69 (List.mem_of_getElem? (i := 6) rfl)) rfl
theorem mw1451 : Cond.selects RX10 yX10_refuseAct yX10_refuseAct ∈ wsL_law0 := mP3 (y := yX10_refuseAct) (n := 10) (List.mem_of_getElem? (i := 3) rfl)
theorem mw1452 : Cond.code yX10_refuseAct cX10_refuseAct 2 (some .boolean) ∈ wsL_law0 := mkT (mA69 (List.mem_of_getElem? (i := 7) rfl)) rfl
theorem mw1453 : Cond.methodLink RX10 340 yX4_keep ∈ wsL_law0 := mkT (mA69 (List.mem_of_getElem? (i := 8) rfl)) rfl
theorem mw1454 : Cond.instanceMethod yX4_keep ∈ wsL_law0 := mkT (mA69 (List.mem_of_getElem? (i := 9) rfl)) rfl
theorem mw1455 : Cond.selects RX4 yX4_keep yX4_keep ∈ wsL_law0 := mkT (mA69 (List.mem_of_getElem? (i := 10) rfl)) rfl
theorem mw1456 : Cond.code yX4_keep cX4_keep 3 none ∈ wsL_law0 := mkT (mA69 (List.mem_of_getElem? (i := 11) rfl)) rfl
theorem mw1457 : Cond.methodLink RX4 39 Lib.Math.min.name ∈ wsL_law0 := mkT (mA70 (List.mem_of_getElem? (i := 0) rfl)) rfl
theorem mw1458 : Cond.methodLink RX4 31 yX4_slot ∈ wsL_law0 := mkT (mA69 (List.mem_of_getElem? (i := 12) rfl)) rfl
theorem mw1459 : Cond.static yX4_slot ∈ wsL_law0 := mkT (mA69 (List.mem_of_getElem? (i := 13) rfl)) rfl
theorem mw1460 : Cond.code yX4_slot cX4_slot 2 (some (.object "ReelChange$State")) ∈ wsL_law0 := mkT (mA69 (List.mem_of_getElem? (i := 14) rfl)) rfl
theorem mw1461 : Cond.methodLink RX4 35 yX7_copyFrom ∈ wsL_law0 := mkT (mA69 (List.mem_of_getElem? (i := 15) rfl)) rfl
theorem mw1462 : Cond.methodLink RX10 343 yX8_put ∈ wsL_law0 := mkT (mA70 (List.mem_of_getElem? (i := 1) rfl)) rfl
theorem mw1463 : Cond.methodLink RX10 346 yX10_actDone ∈ wsL_law0 := mkT (mA70 (List.mem_of_getElem? (i := 2) rfl)) rfl
theorem mw1464 : Cond.instanceMethod yX10_actDone ∈ wsL_law0 := mkT (mA70 (List.mem_of_getElem? (i := 4) rfl)) rfl
theorem mw1465 : Cond.selects RX10 yX10_actDone yX10_actDone ∈ wsL_law0 := mP3 (y := yX10_actDone) (n := 10) (List.mem_of_getElem? (i := 4) rfl)
theorem mw1466 : Cond.code yX10_actDone cX10_actDone 1 (some .boolean) ∈ wsL_law0 := mkT (mA70 (List.mem_of_getElem? (i := 5) rfl)) rfl
theorem mw1467 : Cond.methodLink RL 214 yX11_threads ∈ wsL_law0 := mkT (mA119 (List.mem_of_getElem? (i := 7) rfl)) rfl
theorem mw1468 : Cond.instanceMethod yX11_threads ∈ wsL_law0 := mkT (mA119 (List.mem_of_getElem? (i := 8) rfl)) rfl
theorem mw1469 : Cond.selects RX11 yX11_threads yX11_threads ∈ wsL_law0 := mkT (mA119 (List.mem_of_getElem? (i := 9) rfl)) rfl
theorem mw1470 : Cond.code yX11_threads cX11_threads 3 (some .boolean) ∈ wsL_law0 := mkT (mA119 (List.mem_of_getElem? (i := 10) rfl)) rfl
theorem mw1471 : Cond.methodLink RX11 473 yX11_isNot ∈ wsL_law0 := mkT (mA119 (List.mem_of_getElem? (i := 11) rfl)) rfl
theorem mw1472 : Cond.instanceMethod yX11_isNot ∈ wsL_law0 := mkT (mA119 (List.mem_of_getElem? (i := 13) rfl)) rfl
theorem mw1473 : Cond.selects RX11 yX11_isNot yX11_isNot ∈ wsL_law0 := mP7 (y := yX11_isNot) (n := 43) (List.mem_of_getElem? (i := 10) rfl)
theorem mw1474 : Cond.code yX11_isNot cX11_isNot 2 (some .boolean) ∈ wsL_law0 := mkT (mA119 (List.mem_of_getElem? (i := 14) rfl)) rfl
theorem mw1475 : Cond.methodLink RX11 476 yX11_note ∈ wsL_law0 := mkT (mA119 (List.mem_of_getElem? (i := 15) rfl)) rfl
theorem mw1476 : Cond.instanceMethod yX11_note ∈ wsL_law0 := mkT (mA120 (List.mem_of_getElem? (i := 1) rfl)) rfl
theorem mw1477 : Cond.selects RX11 yX11_note yX11_note ∈ wsL_law0 := mP7 (y := yX11_note) (n := 43) (List.mem_of_getElem? (i := 11) rfl)
theorem mw1478 : Cond.code yX11_note cX11_note 2 none ∈ wsL_law0 := mkT (mA120 (List.mem_of_getElem? (i := 2) rfl)) rfl
theorem mw1479 : Cond.methodLink RL 215 yX10_trim ∈ wsL_law0 := mkT (mA70 (List.mem_of_getElem? (i := 6) rfl)) rfl
theorem mw1480 : Cond.instanceMethod yX10_trim ∈ wsL_law0 := mkT (mA70 (List.mem_of_getElem? (i := 7) rfl)) rfl
theorem mw1481 : Cond.selects RX10 yX10_trim yX10_trim ∈ wsL_law0 := mkT (mA70 (List.mem_of_getElem? (i := 8) rfl)) rfl
theorem mw1482 : Cond.code yX10_trim cX10_trim 3 (some .boolean) ∈ wsL_law0 := mkT (mA70 (List.mem_of_getElem? (i := 9) rfl)) rfl
theorem mw1483 : Cond.methodLink RL 219 yX11_trim ∈ wsL_law0 := mkT (mA120 (List.mem_of_getElem? (i := 3) rfl)) rfl
theorem mw1484 : Cond.instanceMethod yX11_trim ∈ wsL_law0 := mkT (mA120 (List.mem_of_getElem? (i := 4) rfl)) rfl
theorem mw1485 : Cond.selects RX11 yX11_trim yX11_trim ∈ wsL_law0 := mkT (mA120 (List.mem_of_getElem? (i := 5) rfl)) rfl
theorem mw1486 : Cond.code yX11_trim cX11_trim 3 (some .boolean) ∈ wsL_law0 := mkT (mA120 (List.mem_of_getElem? (i := 6) rfl)) rfl
theorem mw1487 : Cond.methodLink RL 220 yX10_mend ∈ wsL_law0 := mkT (mA70 (List.mem_of_getElem? (i := 10) rfl)) rfl
theorem mw1488 : Cond.instanceMethod yX10_mend ∈ wsL_law0 := mkT (mA70 (List.mem_of_getElem? (i := 11) rfl)) rfl
theorem mw1489 : Cond.selects RX10 yX10_mend yX10_mend ∈ wsL_law0 := mkT (mA70 (List.mem_of_getElem? (i := 12) rfl)) rfl
theorem mw1490 : Cond.code yX10_mend cX10_mend 3 (some .int) ∈ wsL_law0 := mkT (mA70 (List.mem_of_getElem? (i := 13) rfl)) rfl
theorem mw1491 : Cond.methodLink RX10 349 yX7_cutOut ∈ wsL_law0 := mkT (mA70 (List.mem_of_getElem? (i := 14) rfl)) rfl
theorem mw1492 : Cond.instanceMethod yX7_cutOut ∈ wsL_law0 := mkT (mA70 (List.mem_of_getElem? (i := 15) rfl)) rfl
theorem mw1493 : Cond.selects RX7 yX7_cutOut yX7_cutOut ∈ wsL_law0 := mkT (mA71 (List.mem_of_getElem? (i := 0) rfl)) rfl
theorem mw1494 : Cond.code yX7_cutOut cX7_cutOut 5 none ∈ wsL_law0 := mkT (mA71 (List.mem_of_getElem? (i := 1) rfl)) rfl
theorem mw1495 : Cond.methodLink RX7 71 yX8_put ∈ wsL_law0 := mkT (mA71 (List.mem_of_getElem? (i := 2) rfl)) rfl
theorem mw1496 : Cond.methodLink RX7 75 yX7_sooner ∈ wsL_law0 := mkT (mA71 (List.mem_of_getElem? (i := 3) rfl)) rfl
theorem mw1497 : Cond.static yX7_sooner ∈ wsL_law0 := mkT (mA71 (List.mem_of_getElem? (i := 4) rfl)) rfl
theorem mw1498 : Cond.code yX7_sooner cX7_sooner 4 (some .int) ∈ wsL_law0 := mkT (mA71 (List.mem_of_getElem? (i := 5) rfl)) rfl
theorem mw1499 : Cond.methodLink RX7 83 Lib.Math.max.name ∈ wsL_law0 := mkT (mA71 (List.mem_of_getElem? (i := 6) rfl)) rfl
theorem mw1500 : Cond.methodLink RX7 86 Lib.Math.min.name ∈ wsL_law0 := mkT (mA71 (List.mem_of_getElem? (i := 7) rfl)) rfl
theorem mw1501 : Cond.methodLink RX7 79 yX7_pull ∈ wsL_law0 := mkT (mA71 (List.mem_of_getElem? (i := 8) rfl)) rfl
theorem mw1502 : Cond.static yX7_pull ∈ wsL_law0 := mkT (mA71 (List.mem_of_getElem? (i := 9) rfl)) rfl
theorem mw1503 : Cond.code yX7_pull cX7_pull 5 none ∈ wsL_law0 := mkT (mA71 (List.mem_of_getElem? (i := 10) rfl)) rfl
theorem mw1504 : Cond.methodLink RL 223 yX11_mend ∈ wsL_law0 := mkT (mA120 (List.mem_of_getElem? (i := 7) rfl)) rfl
theorem mw1505 : Cond.instanceMethod yX11_mend ∈ wsL_law0 := mkT (mA120 (List.mem_of_getElem? (i := 8) rfl)) rfl
theorem mw1506 : Cond.selects RX11 yX11_mend yX11_mend ∈ wsL_law0 := mkT (mA120 (List.mem_of_getElem? (i := 9) rfl)) rfl
theorem mw1507 : Cond.code yX11_mend cX11_mend 6 (some .int) ∈ wsL_law0 := mkT (mA120 (List.mem_of_getElem? (i := 10) rfl)) rfl
theorem mw1508 : Cond.methodLink RX11 479 yX11_shifted ∈ wsL_law0 := mkT (mA120 (List.mem_of_getElem? (i := 11) rfl)) rfl
theorem mw1509 : Cond.static yX11_shifted ∈ wsL_law0 := mkT (mA120 (List.mem_of_getElem? (i := 12) rfl)) rfl
theorem mw1510 : Cond.code yX11_shifted cX11_shifted 4 (some .int) ∈ wsL_law0 := mkT (mA120 (List.mem_of_getElem? (i := 13) rfl)) rfl
theorem mw1511 : Cond.methodLink RL 224 yX10_undo ∈ wsL_law0 := mkT (mA71 (List.mem_of_getElem? (i := 11) rfl)) rfl
theorem mw1512 : Cond.instanceMethod yX10_undo ∈ wsL_law0 := mkT (mA71 (List.mem_of_getElem? (i := 12) rfl)) rfl
theorem mw1513 : Cond.selects RX10 yX10_undo yX10_undo ∈ wsL_law0 := mkT (mA71 (List.mem_of_getElem? (i := 13) rfl)) rfl
theorem mw1514 : Cond.code yX10_undo cX10_undo 1 (some .boolean) ∈ wsL_law0 := mkT (mA71 (List.mem_of_getElem? (i := 14) rfl)) rfl
theorem mw1515 : Cond.methodLink RX10 352 yX4_takeBack ∈ wsL_law0 := mkT (mA71 (List.mem_of_getElem? (i := 15) rfl)) rfl
theorem mw1516 : Cond.instanceMethod yX4_takeBack ∈ wsL_law0 := mkT (mA72 (List.mem_of_getElem? (i := 0) rfl)) rfl
theorem mw1517 : Cond.selects RX4 yX4_takeBack yX4_takeBack ∈ wsL_law0 := mkT (mA72 (List.mem_of_getElem? (i := 1) rfl)) rfl
theorem mw1518 : Cond.code yX4_takeBack cX4_takeBack 2 (some .boolean) ∈ wsL_law0 := mkT (mA72 (List.mem_of_getElem? (i := 2) rfl)) rfl
theorem mw1519 : Cond.methodLink RL 228 yX11_undo ∈ wsL_law0 := mkT (mA120 (List.mem_of_getElem? (i := 14) rfl)) rfl
theorem mw1520 : Cond.instanceMethod yX11_undo ∈ wsL_law0 := mkT (mA120 (List.mem_of_getElem? (i := 15) rfl)) rfl
theorem mw1521 : Cond.selects RX11 yX11_undo yX11_undo ∈ wsL_law0 := mkT (mA121 (List.mem_of_getElem? (i := 0) rfl)) rfl
theorem mw1522 : Cond.code yX11_undo cX11_undo 1 (some .boolean) ∈ wsL_law0 := mkT (mA121 (List.mem_of_getElem? (i := 1) rfl)) rfl
theorem mw1523 : Cond.methodLink RL 229 yX10_image ∈ wsL_law0 := mkT (mA72 (List.mem_of_getElem? (i := 3) rfl)) rfl
theorem mw1524 : Cond.instanceMethod yX10_image ∈ wsL_law0 := mkT (mA72 (List.mem_of_getElem? (i := 4) rfl)) rfl
theorem mw1525 : Cond.selects RX10 yX10_image yX10_image ∈ wsL_law0 := mkT (mA72 (List.mem_of_getElem? (i := 5) rfl)) rfl
theorem mw1526 : Cond.code yX10_image cX10_image 2 (some .int) ∈ wsL_law0 := mkT (mA72 (List.mem_of_getElem? (i := 6) rfl)) rfl
theorem mw1527 : Cond.methodLink RX10 356 yX4_takeImage ∈ wsL_law0 := mkT (mA72 (List.mem_of_getElem? (i := 7) rfl)) rfl
theorem mw1528 : Cond.instanceMethod yX4_takeImage ∈ wsL_law0 := mkT (mA72 (List.mem_of_getElem? (i := 8) rfl)) rfl
theorem mw1529 : Cond.selects RX4 yX4_takeImage yX4_takeImage ∈ wsL_law0 := mkT (mA72 (List.mem_of_getElem? (i := 9) rfl)) rfl
theorem mw1530 : Cond.code yX4_takeImage cX4_takeImage 3 (some .int) ∈ wsL_law0 := mkT (mA72 (List.mem_of_getElem? (i := 10) rfl)) rfl
theorem mw1531 : Cond.methodLink RL 232 yX11_image ∈ wsL_law0 := mkT (mA121 (List.mem_of_getElem? (i := 2) rfl)) rfl
theorem mw1532 : Cond.instanceMethod yX11_image ∈ wsL_law0 := mkT (mA121 (List.mem_of_getElem? (i := 3) rfl)) rfl
theorem mw1533 : Cond.selects RX11 yX11_image yX11_image ∈ wsL_law0 := mkT (mA121 (List.mem_of_getElem? (i := 4) rfl)) rfl
theorem mw1534 : Cond.code yX11_image cX11_image 1 (some .int) ∈ wsL_law0 := mkT (mA121 (List.mem_of_getElem? (i := 5) rfl)) rfl
theorem mw1535 : Cond.methodLink RL 233 yX10_back ∈ wsL_law0 := mkT (mA72 (List.mem_of_getElem? (i := 11) rfl)) rfl
theorem mw1536 : Cond.instanceMethod yX10_back ∈ wsL_law0 := mkT (mA72 (List.mem_of_getElem? (i := 12) rfl)) rfl
theorem mw1537 : Cond.selects RX10 yX10_back yX10_back ∈ wsL_law0 := mkT (mA72 (List.mem_of_getElem? (i := 13) rfl)) rfl
theorem mw1538 : Cond.code yX10_back cX10_back 2 (some .boolean) ∈ wsL_law0 := mkT (mA72 (List.mem_of_getElem? (i := 14) rfl)) rfl
theorem mw1539 : Cond.methodLink RX10 359 yX4_goBack ∈ wsL_law0 := mkT (mA72 (List.mem_of_getElem? (i := 15) rfl)) rfl
theorem mw1540 : Cond.instanceMethod yX4_goBack ∈ wsL_law0 := mkT (mA73 (List.mem_of_getElem? (i := 0) rfl)) rfl
theorem mw1541 : Cond.selects RX4 yX4_goBack yX4_goBack ∈ wsL_law0 := mkT (mA73 (List.mem_of_getElem? (i := 1) rfl)) rfl
theorem mw1542 : Cond.code yX4_goBack cX4_goBack 3 (some .boolean) ∈ wsL_law0 := mkT (mA73 (List.mem_of_getElem? (i := 2) rfl)) rfl
theorem mw1543 : Cond.methodLink RL 237 yX11_back ∈ wsL_law0 := mkT (mA121 (List.mem_of_getElem? (i := 6) rfl)) rfl
theorem mw1544 : Cond.instanceMethod yX11_back ∈ wsL_law0 := mkT (mA121 (List.mem_of_getElem? (i := 7) rfl)) rfl
theorem mw1545 : Cond.selects RX11 yX11_back yX11_back ∈ wsL_law0 := mkT (mA121 (List.mem_of_getElem? (i := 8) rfl)) rfl
theorem mw1546 : Cond.code yX11_back cX11_back 2 (some .boolean) ∈ wsL_law0 := mkT (mA121 (List.mem_of_getElem? (i := 9) rfl)) rfl
theorem mw1547 : Cond.methodLink RL 238 yL_led ∈ wsL_law0 := mkT (mA73 (List.mem_of_getElem? (i := 12) rfl)) rfl
theorem mw1548 : Cond.static yL_led ∈ wsL_law0 := mkT (mA73 (List.mem_of_getElem? (i := 13) rfl)) rfl
theorem mw1549 : Cond.initialized RL ∈ wsL_law0 := mkT (mA0 (List.mem_of_getElem? (i := 0) rfl)) rfl
theorem mw1550 : Cond.codeWith yL_led cL_led 4 (some .int) [(0, 9, 12, 13)] ∈ wsL_law0 := mkT (mA73 (List.mem_of_getElem? (i := 14) rfl)) rfl
theorem mw1551 : Cond.classLink RL 13 "java/util/NoSuchElementException" ∈ wsL_law0 := mkT (mA73 (List.mem_of_getElem? (i := 15) rfl)) rfl
theorem mw1552 : Cond.methodLink RL 7 yX10_led ∈ wsL_law0 := mkT (mA74 (List.mem_of_getElem? (i := 0) rfl)) rfl
theorem mw1553 : Cond.instanceMethod yX10_led ∈ wsL_law0 := mkT (mA74 (List.mem_of_getElem? (i := 1) rfl)) rfl
theorem mw1554 : Cond.selects RX10 yX10_led yX10_led ∈ wsL_law0 := mkT (mA74 (List.mem_of_getElem? (i := 2) rfl)) rfl
theorem mw1555 : Cond.code yX10_led cX10_led 4 (some .int) ∈ wsL_law0 := mkT (mA74 (List.mem_of_getElem? (i := 3) rfl)) rfl
theorem mw1556 : Cond.classLink RX10 363 "java/util/NoSuchElementException" ∈ wsL_law0 := mkT (mA74 (List.mem_of_getElem? (i := 4) rfl)) rfl
theorem mw1557 : Cond.initialized "java/util/NoSuchElementException" ∈ wsL_law0 := mkT (mA1 (List.mem_of_getElem? (i := 7) rfl)) rfl
theorem mw1558 : Cond.methodLink RL 243 yX11_led ∈ wsL_law0 := mkT (mA121 (List.mem_of_getElem? (i := 10) rfl)) rfl
theorem mw1559 : Cond.instanceMethod yX11_led ∈ wsL_law0 := mkT (mA121 (List.mem_of_getElem? (i := 11) rfl)) rfl
theorem mw1560 : Cond.selects RX11 yX11_led yX11_led ∈ wsL_law0 := mkT (mA121 (List.mem_of_getElem? (i := 12) rfl)) rfl
theorem mw1561 : Cond.code yX11_led cX11_led 4 (some .int) ∈ wsL_law0 := mkT (mA121 (List.mem_of_getElem? (i := 13) rfl)) rfl
theorem mw1562 : Cond.methodLink RL 244 yX10_size ∈ wsL_law0 := mkT (mA73 (List.mem_of_getElem? (i := 3) rfl)) rfl
theorem mw1563 : Cond.instanceMethod yX10_size ∈ wsL_law0 := mkT (mA73 (List.mem_of_getElem? (i := 4) rfl)) rfl
theorem mw1564 : Cond.selects RX10 yX10_size yX10_size ∈ wsL_law0 := mkT (mA73 (List.mem_of_getElem? (i := 5) rfl)) rfl
theorem mw1565 : Cond.code yX10_size cX10_size 2 (some .int) ∈ wsL_law0 := mkT (mA73 (List.mem_of_getElem? (i := 6) rfl)) rfl
theorem mw1566 : Cond.fieldLink RX10 366 "ReelChange$State" "mended" "I" ∈ wsL_law0 := mkT (mA6 (List.mem_of_getElem? (i := 4) rfl)) rfl
theorem mw1567 : Cond.fieldLink RX10 372 "ReelChange$Kept" "acts" "I" ∈ wsL_law0 := mkT (mA14 (List.mem_of_getElem? (i := 6) rfl)) rfl
theorem mw1568 : Cond.fieldLink RX10 375 "ReelChange$Kept" "imaged" "I" ∈ wsL_law0 := mkT (mA14 (List.mem_of_getElem? (i := 9) rfl)) rfl
theorem mw1569 : Cond.methodLink RX10 369 yJ6_bitCount_0f7a4 ∈ wsL_law0 := mkT (mA73 (List.mem_of_getElem? (i := 7) rfl)) rfl
theorem mw1570 : Cond.methodLink RL 247 yX11_size ∈ wsL_law0 := mkT (mA121 (List.mem_of_getElem? (i := 14) rfl)) rfl
theorem mw1571 : Cond.instanceMethod yX11_size ∈ wsL_law0 := mkT (mA121 (List.mem_of_getElem? (i := 15) rfl)) rfl
theorem mw1572 : Cond.selects RX11 yX11_size yX11_size ∈ wsL_law0 := mkT (mA122 (List.mem_of_getElem? (i := 0) rfl)) rfl
theorem mw1573 : Cond.code yX11_size cX11_size 2 (some .int) ∈ wsL_law0 := mkT (mA122 (List.mem_of_getElem? (i := 1) rfl)) rfl
theorem mw1574 : Cond.methodLink RL 248 yX10_trouble ∈ wsL_law0 := mkT (mA73 (List.mem_of_getElem? (i := 8) rfl)) rfl
theorem mw1575 : Cond.instanceMethod yX10_trouble ∈ wsL_law0 := mkT (mA73 (List.mem_of_getElem? (i := 9) rfl)) rfl
theorem mw1576 : Cond.selects RX10 yX10_trouble yX10_trouble ∈ wsL_law0 := mkT (mA73 (List.mem_of_getElem? (i := 10) rfl)) rfl
theorem mw1577 : Cond.code yX10_trouble cX10_trouble 1 (some .int) ∈ wsL_law0 := mkT (mA73 (List.mem_of_getElem? (i := 11) rfl)) rfl
theorem mw1578 : Cond.methodLink RL 251 yX11_trouble ∈ wsL_law0 := mkT (mA122 (List.mem_of_getElem? (i := 2) rfl)) rfl
theorem mw1579 : Cond.instanceMethod yX11_trouble ∈ wsL_law0 := mkT (mA122 (List.mem_of_getElem? (i := 3) rfl)) rfl
theorem mw1580 : Cond.selects RX11 yX11_trouble yX11_trouble ∈ wsL_law0 := mkT (mA122 (List.mem_of_getElem? (i := 4) rfl)) rfl
theorem mw1581 : Cond.code yX11_trouble cX11_trouble 1 (some .int) ∈ wsL_law0 := mkT (mA122 (List.mem_of_getElem? (i := 5) rfl)) rfl
theorem inlX0 : ∀ w ∈ wsX00, w ∈ wsL_law0 := show ∀ w ∈ ([Cond.laysFinal "ReelChange$Arcs" "ReelChange$Arcs" "left" "LReelChange$Table;", Cond.lays "ReelChange$Arcs" "ReelChange$Arcs" "dying" "I"] : List Cond), w ∈ wsL_law0 from List.forall_mem_cons.mpr ⟨mkT (mA18 (List.mem_of_getElem? (i := 9) rfl)) rfl, List.forall_mem_cons.mpr ⟨mkT (mA18 (List.mem_of_getElem? (i := 11) rfl)) rfl, fun _ h => absurd h List.not_mem_nil⟩⟩
theorem inlX1 : ∀ w ∈ wsX10, w ∈ wsL_law0 := show ∀ w ∈ ([Cond.laysFinal "ReelChange$Exchanger" "ReelChange$Exchanger" "inOrder" "LReelChange$Table;", Cond.laysFinal "ReelChange$Exchanger" "ReelChange$Exchanger" "parts" "LReelChange$Table;", Cond.laysFinal "ReelChange$Exchanger" "ReelChange$Exchanger" "surplus" "[J"] : List Cond), w ∈ wsL_law0 from List.forall_mem_cons.mpr ⟨mkT (mA20 (List.mem_of_getElem? (i := 13) rfl)) rfl, List.forall_mem_cons.mpr ⟨mkT (mA20 (List.mem_of_getElem? (i := 15) rfl)) rfl, List.forall_mem_cons.mpr ⟨mkT (mA21 (List.mem_of_getElem? (i := 1) rfl)) rfl, fun _ h => absurd h List.not_mem_nil⟩⟩⟩
theorem inlX2 : ∀ w ∈ wsX20, w ∈ wsL_law0 := show ∀ w ∈ ([Cond.lays "ReelChange$Fraction" "ReelChange$Fraction" "upper" "J", Cond.lays "ReelChange$Fraction" "ReelChange$Fraction" "lower" "J"] : List Cond), w ∈ wsL_law0 from List.forall_mem_cons.mpr ⟨mkT (mA21 (List.mem_of_getElem? (i := 14) rfl)) rfl, List.forall_mem_cons.mpr ⟨mkT (mA22 (List.mem_of_getElem? (i := 0) rfl)) rfl, fun _ h => absurd h List.not_mem_nil⟩⟩
theorem inlX3 : ∀ w ∈ wsX30, w ∈ wsL_law0 := show ∀ w ∈ ([Cond.laysFinal "ReelChange$House" "ReelChange$House" "atFirst" "LReelChange$State;", Cond.laysFinal "ReelChange$House" "ReelChange$House" "numbers" "LReelChange$Table;", Cond.laysFinal "ReelChange$House" "ReelChange$House" "towns" "LReelChange$Table;", Cond.laysFinal "ReelChange$House" "ReelChange$House" "joins" "LReelChange$Table;", Cond.laysFinal "ReelChange$House" "ReelChange$House" "men" "LReelChange$Table;", Cond.laysFinal "ReelChange$House" "ReelChange$House" "boys" "LReelChange$Table;", Cond.laysFinal "ReelChange$House" "ReelChange$House" "signs" "LReelChange$Table;", Cond.laysFinal "ReelChange$House" "ReelChange$House" "scratches" "LReelChange$Table;"] : List Cond), w ∈ wsL_law0 from List.forall_mem_cons.mpr ⟨mkT (mA8 (List.mem_of_getElem? (i := 15) rfl)) rfl, List.forall_mem_cons.mpr ⟨mkT (mA9 (List.mem_of_getElem? (i := 1) rfl)) rfl, List.forall_mem_cons.mpr ⟨mkT (mA9 (List.mem_of_getElem? (i := 3) rfl)) rfl, List.forall_mem_cons.mpr ⟨mkT (mA9 (List.mem_of_getElem? (i := 5) rfl)) rfl, List.forall_mem_cons.mpr ⟨mkT (mA9 (List.mem_of_getElem? (i := 7) rfl)) rfl, List.forall_mem_cons.mpr ⟨mkT (mA9 (List.mem_of_getElem? (i := 9) rfl)) rfl, List.forall_mem_cons.mpr ⟨mkT (mA9 (List.mem_of_getElem? (i := 11) rfl)) rfl, List.forall_mem_cons.mpr ⟨mkT (mA9 (List.mem_of_getElem? (i := 13) rfl)) rfl, fun _ h => absurd h List.not_mem_nil⟩⟩⟩⟩⟩⟩⟩⟩
theorem inlX4 : ∀ w ∈ wsX40, w ∈ wsL_law0 := show ∀ w ∈ ([Cond.laysFinal "ReelChange$Kept" "ReelChange$Kept" "ahead" "[LReelChange$State;", Cond.laysFinal "ReelChange$Kept" "ReelChange$Kept" "images" "[LReelChange$State;", Cond.lays "ReelChange$Kept" "ReelChange$Kept" "acts" "I", Cond.lays "ReelChange$Kept" "ReelChange$Kept" "next" "I", Cond.lays "ReelChange$Kept" "ReelChange$Kept" "imaged" "I"] : List Cond), w ∈ wsL_law0 from List.forall_mem_cons.mpr ⟨mkT (mA14 (List.mem_of_getElem? (i := 10) rfl)) rfl, List.forall_mem_cons.mpr ⟨mkT (mA14 (List.mem_of_getElem? (i := 12) rfl)) rfl, List.forall_mem_cons.mpr ⟨mkT (mA14 (List.mem_of_getElem? (i := 14) rfl)) rfl, List.forall_mem_cons.mpr ⟨mkT (mA15 (List.mem_of_getElem? (i := 0) rfl)) rfl, List.forall_mem_cons.mpr ⟨mkT (mA15 (List.mem_of_getElem? (i := 2) rfl)) rfl, fun _ h => absurd h List.not_mem_nil⟩⟩⟩⟩⟩
theorem inlX5 : ∀ w ∈ wsX50, w ∈ wsL_law0 := show ∀ w ∈ ([Cond.laysFinal "ReelChange$Night" "ReelChange$Night" "rows" "LReelChange$Table;", Cond.lays "ReelChange$Night" "ReelChange$Night" "snapped" "I", Cond.lays "ReelChange$Night" "ReelChange$Night" "mostSlip" "I", Cond.lays "ReelChange$Night" "ReelChange$Night" "slip" "I", Cond.lays "ReelChange$Night" "ReelChange$Night" "isDrawn" "Z", Cond.lays "ReelChange$Night" "ReelChange$Night" "seed" "I", Cond.lays "ReelChange$Night" "ReelChange$Night" "tick" "I", Cond.lays "ReelChange$Night" "ReelChange$Night" "motorTick" "I", Cond.lays "ReelChange$Night" "ReelChange$Night" "ahead" "I"] : List Cond), w ∈ wsL_law0 from List.forall_mem_cons.mpr ⟨mkT (mA16 (List.mem_of_getElem? (i := 10) rfl)) rfl, List.forall_mem_cons.mpr ⟨mkT (mA16 (List.mem_of_getElem? (i := 12) rfl)) rfl, List.forall_mem_cons.mpr ⟨mkT (mA16 (List.mem_of_getElem? (i := 14) rfl)) rfl, List.forall_mem_cons.mpr ⟨mkT (mA17 (List.mem_of_getElem? (i := 0) rfl)) rfl, List.forall_mem_cons.mpr ⟨mkT (mA17 (List.mem_of_getElem? (i := 2) rfl)) rfl, List.forall_mem_cons.mpr ⟨mkT (mA17 (List.mem_of_getElem? (i := 4) rfl)) rfl, List.forall_mem_cons.mpr ⟨mkT (mA17 (List.mem_of_getElem? (i := 6) rfl)) rfl, List.forall_mem_cons.mpr ⟨mkT (mA17 (List.mem_of_getElem? (i := 8) rfl)) rfl, List.forall_mem_cons.mpr ⟨mkT (mA17 (List.mem_of_getElem? (i := 10) rfl)) rfl, fun _ h => absurd h List.not_mem_nil⟩⟩⟩⟩⟩⟩⟩⟩⟩
theorem inlX6 : ∀ w ∈ wsX60, w ∈ wsL_law0 := show ∀ w ∈ ([Cond.laysFinal "ReelChange$Riders" "ReelChange$Riders" "backAt" "LReelChange$Table;", Cond.lays "ReelChange$Riders" "ReelChange$Riders" "apartNeeded" "I", Cond.lays "ReelChange$Riders" "ReelChange$Riders" "waited" "I"] : List Cond), w ∈ wsL_law0 from List.forall_mem_cons.mpr ⟨mkT (mA19 (List.mem_of_getElem? (i := 11) rfl)) rfl, List.forall_mem_cons.mpr ⟨mkT (mA19 (List.mem_of_getElem? (i := 13) rfl)) rfl, List.forall_mem_cons.mpr ⟨mkT (mA19 (List.mem_of_getElem? (i := 15) rfl)) rfl, fun _ h => absurd h List.not_mem_nil⟩⟩⟩
theorem inlX7 : ∀ w ∈ wsX70, w ∈ wsL_law0 := show ∀ w ∈ ([Cond.laysFinal "ReelChange$State" "ReelChange$State" "reels" "LReelChange$Table;", Cond.laysFinal "ReelChange$State" "ReelChange$State" "marks" "LReelChange$Table;", Cond.laysFinal "ReelChange$State" "ReelChange$State" "weaks" "LReelChange$Table;", Cond.laysFinal "ReelChange$State" "ReelChange$State" "places" "LReelChange$Table;", Cond.lays "ReelChange$State" "ReelChange$State" "mended" "I", Cond.lays "ReelChange$State" "ReelChange$State" "trims" "I"] : List Cond), w ∈ wsL_law0 from List.forall_mem_cons.mpr ⟨mkT (mA6 (List.mem_of_getElem? (i := 7) rfl)) rfl, List.forall_mem_cons.mpr ⟨mkT (mA6 (List.mem_of_getElem? (i := 9) rfl)) rfl, List.forall_mem_cons.mpr ⟨mkT (mA6 (List.mem_of_getElem? (i := 11) rfl)) rfl, List.forall_mem_cons.mpr ⟨mkT (mA6 (List.mem_of_getElem? (i := 13) rfl)) rfl, List.forall_mem_cons.mpr ⟨mkT (mA6 (List.mem_of_getElem? (i := 15) rfl)) rfl, List.forall_mem_cons.mpr ⟨mkT (mA7 (List.mem_of_getElem? (i := 1) rfl)) rfl, fun _ h => absurd h List.not_mem_nil⟩⟩⟩⟩⟩⟩
theorem inlX8 : ∀ w ∈ wsX80, w ∈ wsL_law0 := show ∀ w ∈ ([Cond.laysFinal "ReelChange$Table" "ReelChange$Table" "room" "I", Cond.laysFinal "ReelChange$Table" "ReelChange$Table" "width" "I", Cond.laysFinal "ReelChange$Table" "ReelChange$Table" "cells" "[I", Cond.lays "ReelChange$Table" "ReelChange$Table" "count" "I"] : List Cond), w ∈ wsL_law0 from List.forall_mem_cons.mpr ⟨mkT (mA4 (List.mem_of_getElem? (i := 8) rfl)) rfl, List.forall_mem_cons.mpr ⟨mkT (mA4 (List.mem_of_getElem? (i := 10) rfl)) rfl, List.forall_mem_cons.mpr ⟨mkT (mA4 (List.mem_of_getElem? (i := 12) rfl)) rfl, List.forall_mem_cons.mpr ⟨mkT (mA4 (List.mem_of_getElem? (i := 14) rfl)) rfl, fun _ h => absurd h List.not_mem_nil⟩⟩⟩⟩
theorem inlX9 : ∀ w ∈ wsX90, w ∈ wsL_law0 := show ∀ w ∈ ([Cond.lays "ReelChange$Text" "ReelChange$Text" "taped" "I", Cond.laysFinal "ReelChange$Text" "ReelChange$Text" "house" "LReelChange$House;", Cond.lays "ReelChange$Text" "ReelChange$Text" "faultNumber" "I", Cond.lays "ReelChange$Text" "ReelChange$Text" "faultPlace" "I", Cond.laysFinal "ReelChange$Text" "ReelChange$Text" "tape" "[B", Cond.lays "ReelChange$Text" "ReelChange$Text" "end" "I", Cond.laysFinal "ReelChange$Text" "ReelChange$Text" "names" "[J", Cond.laysFinal "ReelChange$Text" "ReelChange$Text" "named" "LReelChange$Table;", Cond.lays "ReelChange$Text" "ReelChange$Text" "kind" "I", Cond.lays "ReelChange$Text" "ReelChange$Text" "start" "I", Cond.lays "ReelChange$Text" "ReelChange$Text" "position" "I", Cond.lays "ReelChange$Text" "ReelChange$Text" "value" "I", Cond.lays "ReelChange$Text" "ReelChange$Text" "letters" "J", Cond.lays "ReelChange$Text" "ReelChange$Text" "taken" "I", Cond.lays "ReelChange$Text" "ReelChange$Text" "takenAt" "I"] : List Cond), w ∈ wsL_law0 from List.forall_mem_cons.mpr ⟨mkT (mA11 (List.mem_of_getElem? (i := 5) rfl)) rfl, List.forall_mem_cons.mpr ⟨mkT (mA11 (List.mem_of_getElem? (i := 7) rfl)) rfl, List.forall_mem_cons.mpr ⟨mkT (mA11 (List.mem_of_getElem? (i := 9) rfl)) rfl, List.forall_mem_cons.mpr ⟨mkT (mA11 (List.mem_of_getElem? (i := 11) rfl)) rfl, List.forall_mem_cons.mpr ⟨mkT (mA11 (List.mem_of_getElem? (i := 13) rfl)) rfl, List.forall_mem_cons.mpr ⟨mkT (mA11 (List.mem_of_getElem? (i := 15) rfl)) rfl, List.forall_mem_cons.mpr ⟨mkT (mA12 (List.mem_of_getElem? (i := 1) rfl)) rfl, List.forall_mem_cons.mpr ⟨mkT (mA12 (List.mem_of_getElem? (i := 3) rfl)) rfl, List.forall_mem_cons.mpr ⟨mkT (mA12 (List.mem_of_getElem? (i := 5) rfl)) rfl, List.forall_mem_cons.mpr ⟨mkT (mA12 (List.mem_of_getElem? (i := 7) rfl)) rfl, List.forall_mem_cons.mpr ⟨mkT (mA12 (List.mem_of_getElem? (i := 9) rfl)) rfl, List.forall_mem_cons.mpr ⟨mkT (mA12 (List.mem_of_getElem? (i := 11) rfl)) rfl, List.forall_mem_cons.mpr ⟨mkT (mA12 (List.mem_of_getElem? (i := 13) rfl)) rfl, List.forall_mem_cons.mpr ⟨mkT (mA12 (List.mem_of_getElem? (i := 15) rfl)) rfl, List.forall_mem_cons.mpr ⟨mkT (mA13 (List.mem_of_getElem? (i := 1) rfl)) rfl, fun _ h => absurd h List.not_mem_nil⟩⟩⟩⟩⟩⟩⟩⟩⟩⟩⟩⟩⟩⟩⟩
theorem inlX10 : ∀ w ∈ wsX100, w ∈ wsL_law0 := show ∀ w ∈ ([Cond.laysFinal "ReelChange" "ReelChange" "text" "LReelChange$Text;", Cond.laysFinal "ReelChange" "ReelChange" "told" "LReelChange$House;", Cond.laysFinal "ReelChange" "ReelChange" "now" "LReelChange$State;", Cond.laysFinal "ReelChange" "ReelChange" "kept" "LReelChange$Kept;", Cond.laysFinal "ReelChange" "ReelChange" "night" "LReelChange$Night;", Cond.laysFinal "ReelChange" "ReelChange" "arcs" "LReelChange$Arcs;", Cond.laysFinal "ReelChange" "ReelChange" "riders" "LReelChange$Riders;", Cond.laysFinal "ReelChange" "ReelChange" "exchanger" "LReelChange$Exchanger;", Cond.laysFinal "ReelChange" "ReelChange" "fraction" "LReelChange$Fraction;", Cond.lays "ReelChange" "ReelChange" "latestTrouble" "I"] : List Cond), w ∈ wsL_law0 from List.forall_mem_cons.mpr ⟨mkT (mA22 (List.mem_of_getElem? (i := 13) rfl)) rfl, List.forall_mem_cons.mpr ⟨mkT (mA22 (List.mem_of_getElem? (i := 15) rfl)) rfl, List.forall_mem_cons.mpr ⟨mkT (mA23 (List.mem_of_getElem? (i := 1) rfl)) rfl, List.forall_mem_cons.mpr ⟨mkT (mA23 (List.mem_of_getElem? (i := 3) rfl)) rfl, List.forall_mem_cons.mpr ⟨mkT (mA23 (List.mem_of_getElem? (i := 5) rfl)) rfl, List.forall_mem_cons.mpr ⟨mkT (mA23 (List.mem_of_getElem? (i := 7) rfl)) rfl, List.forall_mem_cons.mpr ⟨mkT (mA23 (List.mem_of_getElem? (i := 9) rfl)) rfl, List.forall_mem_cons.mpr ⟨mkT (mA23 (List.mem_of_getElem? (i := 11) rfl)) rfl, List.forall_mem_cons.mpr ⟨mkT (mA23 (List.mem_of_getElem? (i := 13) rfl)) rfl, List.forall_mem_cons.mpr ⟨mkT (mA23 (List.mem_of_getElem? (i := 15) rfl)) rfl, fun _ h => absurd h List.not_mem_nil⟩⟩⟩⟩⟩⟩⟩⟩⟩⟩
theorem inlX11 : ∀ w ∈ wsX110, w ∈ wsL_law0 := show ∀ w ∈ ([Cond.lays "ReelChangeModel" "ReelChangeModel" "thrown" "I", Cond.laysFinal "ReelChangeModel" "ReelChangeModel" "tape" "[I", Cond.lays "ReelChangeModel" "ReelChangeModel" "taped" "I", Cond.lays "ReelChangeModel" "ReelChangeModel" "size" "I", Cond.lays "ReelChangeModel" "ReelChangeModel" "at" "I", Cond.lays "ReelChangeModel" "ReelChangeModel" "end" "I", Cond.lays "ReelChangeModel" "ReelChangeModel" "token" "I", Cond.lays "ReelChangeModel" "ReelChangeModel" "whole" "I", Cond.lays "ReelChangeModel" "ReelChangeModel" "nameSize" "I", Cond.lays "ReelChangeModel" "ReelChangeModel" "fault" "I", Cond.lays "ReelChangeModel" "ReelChangeModel" "place" "I", Cond.lays "ReelChangeModel" "ReelChangeModel" "trouble" "I", Cond.laysFinal "ReelChangeModel" "ReelChangeModel" "letters" "[I", Cond.lays "ReelChangeModel" "ReelChangeModel" "failed" "Z", Cond.lays "ReelChangeModel" "ReelChangeModel" "hasHouse" "Z", Cond.laysFinal "ReelChangeModel" "ReelChangeModel" "\x72" "[I", Cond.laysFinal "ReelChangeModel" "ReelChangeModel" "fresh" "[I", Cond.laysFinal "ReelChangeModel" "ReelChangeModel" "st" "[I", Cond.laysFinal "ReelChangeModel" "ReelChangeModel" "undone" "[I", Cond.laysFinal "ReelChangeModel" "ReelChangeModel" "kept" "[I", Cond.lays "ReelChangeModel" "ReelChangeModel" "undos" "I", Cond.lays "ReelChangeModel" "ReelChangeModel" "images" "I", Cond.laysFinal "ReelChangeModel" "ReelChangeModel" "from" "[I", Cond.laysFinal "ReelChangeModel" "ReelChangeModel" "begin" "[I", Cond.laysFinal "ReelChangeModel" "ReelChangeModel" "motor" "[I", Cond.laysFinal "ReelChangeModel" "ReelChangeModel" "change" "[I", Cond.laysFinal "ReelChangeModel" "ReelChangeModel" "startFrame" "[I", Cond.laysFinal "ReelChangeModel" "ReelChangeModel" "changeFrame" "[I", Cond.laysFinal "ReelChangeModel" "ReelChangeModel" "lostAt" "[I", Cond.laysFinal "ReelChangeModel" "ReelChangeModel" "blackAt" "[I", Cond.laysFinal "ReelChangeModel" "ReelChangeModel" "slips" "[I", Cond.laysFinal "ReelChangeModel" "ReelChangeModel" "leftArc" "[I", Cond.laysFinal "ReelChangeModel" "ReelChangeModel" "died" "[I", Cond.laysFinal "ReelChangeModel" "ReelChangeModel" "arcs" "[I", Cond.lays "ReelChangeModel" "ReelChangeModel" "bestSum" "I", Cond.lays "ReelChangeModel" "ReelChangeModel" "nearest" "I", Cond.lays "ReelChangeModel" "ReelChangeModel" "nearestTown" "I", Cond.laysFinal "ReelChangeModel" "ReelChangeModel" "there" "[I", Cond.laysFinal "ReelChangeModel" "ReelChangeModel" "backAt" "[I", Cond.laysFinal "ReelChangeModel" "ReelChangeModel" "sorted" "[I", Cond.laysFinal "ReelChangeModel" "ReelChangeModel" "parts" "[I", Cond.lays "ReelChangeModel" "ReelChangeModel" "seed1" "I", Cond.lays "ReelChangeModel" "ReelChangeModel" "darkNow" "I"] : List Cond), w ∈ wsL_law0 from List.forall_mem_cons.mpr ⟨mkT (mA81 (List.mem_of_getElem? (i := 2) rfl)) rfl, List.forall_mem_cons.mpr ⟨mkT (mA81 (List.mem_of_getElem? (i := 4) rfl)) rfl, List.forall_mem_cons.mpr ⟨mkT (mA81 (List.mem_of_getElem? (i := 6) rfl)) rfl, List.forall_mem_cons.mpr ⟨mkT (mA81 (List.mem_of_getElem? (i := 8) rfl)) rfl, List.forall_mem_cons.mpr ⟨mkT (mA81 (List.mem_of_getElem? (i := 10) rfl)) rfl, List.forall_mem_cons.mpr ⟨mkT (mA81 (List.mem_of_getElem? (i := 12) rfl)) rfl, List.forall_mem_cons.mpr ⟨mkT (mA81 (List.mem_of_getElem? (i := 14) rfl)) rfl, List.forall_mem_cons.mpr ⟨mkT (mA82 (List.mem_of_getElem? (i := 0) rfl)) rfl, List.forall_mem_cons.mpr ⟨mkT (mA82 (List.mem_of_getElem? (i := 2) rfl)) rfl, List.forall_mem_cons.mpr ⟨mkT (mA82 (List.mem_of_getElem? (i := 4) rfl)) rfl, List.forall_mem_cons.mpr ⟨mkT (mA82 (List.mem_of_getElem? (i := 6) rfl)) rfl, List.forall_mem_cons.mpr ⟨mkT (mA82 (List.mem_of_getElem? (i := 8) rfl)) rfl, List.forall_mem_cons.mpr ⟨mkT (mA82 (List.mem_of_getElem? (i := 10) rfl)) rfl, List.forall_mem_cons.mpr ⟨mkT (mA82 (List.mem_of_getElem? (i := 12) rfl)) rfl, List.forall_mem_cons.mpr ⟨mkT (mA82 (List.mem_of_getElem? (i := 14) rfl)) rfl, List.forall_mem_cons.mpr ⟨mkT (mA83 (List.mem_of_getElem? (i := 0) rfl)) rfl, List.forall_mem_cons.mpr ⟨mkT (mA83 (List.mem_of_getElem? (i := 2) rfl)) rfl, List.forall_mem_cons.mpr ⟨mkT (mA83 (List.mem_of_getElem? (i := 4) rfl)) rfl, List.forall_mem_cons.mpr ⟨mkT (mA83 (List.mem_of_getElem? (i := 6) rfl)) rfl, List.forall_mem_cons.mpr ⟨mkT (mA83 (List.mem_of_getElem? (i := 8) rfl)) rfl, List.forall_mem_cons.mpr ⟨mkT (mA83 (List.mem_of_getElem? (i := 10) rfl)) rfl, List.forall_mem_cons.mpr ⟨mkT (mA83 (List.mem_of_getElem? (i := 12) rfl)) rfl, List.forall_mem_cons.mpr ⟨mkT (mA83 (List.mem_of_getElem? (i := 14) rfl)) rfl, List.forall_mem_cons.mpr ⟨mkT (mA84 (List.mem_of_getElem? (i := 0) rfl)) rfl, List.forall_mem_cons.mpr ⟨mkT (mA84 (List.mem_of_getElem? (i := 2) rfl)) rfl, List.forall_mem_cons.mpr ⟨mkT (mA84 (List.mem_of_getElem? (i := 4) rfl)) rfl, List.forall_mem_cons.mpr ⟨mkT (mA84 (List.mem_of_getElem? (i := 6) rfl)) rfl, List.forall_mem_cons.mpr ⟨mkT (mA84 (List.mem_of_getElem? (i := 8) rfl)) rfl, List.forall_mem_cons.mpr ⟨mkT (mA84 (List.mem_of_getElem? (i := 10) rfl)) rfl, List.forall_mem_cons.mpr ⟨mkT (mA84 (List.mem_of_getElem? (i := 12) rfl)) rfl, List.forall_mem_cons.mpr ⟨mkT (mA84 (List.mem_of_getElem? (i := 14) rfl)) rfl, List.forall_mem_cons.mpr ⟨mkT (mA85 (List.mem_of_getElem? (i := 0) rfl)) rfl, List.forall_mem_cons.mpr ⟨mkT (mA85 (List.mem_of_getElem? (i := 2) rfl)) rfl, List.forall_mem_cons.mpr ⟨mkT (mA85 (List.mem_of_getElem? (i := 4) rfl)) rfl, List.forall_mem_cons.mpr ⟨mkT (mA85 (List.mem_of_getElem? (i := 6) rfl)) rfl, List.forall_mem_cons.mpr ⟨mkT (mA85 (List.mem_of_getElem? (i := 8) rfl)) rfl, List.forall_mem_cons.mpr ⟨mkT (mA85 (List.mem_of_getElem? (i := 10) rfl)) rfl, List.forall_mem_cons.mpr ⟨mkT (mA85 (List.mem_of_getElem? (i := 12) rfl)) rfl, List.forall_mem_cons.mpr ⟨mkT (mA85 (List.mem_of_getElem? (i := 14) rfl)) rfl, List.forall_mem_cons.mpr ⟨mkT (mA86 (List.mem_of_getElem? (i := 0) rfl)) rfl, List.forall_mem_cons.mpr ⟨mkT (mA86 (List.mem_of_getElem? (i := 2) rfl)) rfl, List.forall_mem_cons.mpr ⟨mkT (mA86 (List.mem_of_getElem? (i := 4) rfl)) rfl, List.forall_mem_cons.mpr ⟨mkT (mA86 (List.mem_of_getElem? (i := 6) rfl)) rfl, fun _ h => absurd h List.not_mem_nil⟩⟩⟩⟩⟩⟩⟩⟩⟩⟩⟩⟩⟩⟩⟩⟩⟩⟩⟩⟩⟩⟩⟩⟩⟩⟩⟩⟩⟩⟩⟩⟩⟩⟩⟩⟩⟩⟩⟩⟩⟩⟩⟩
abbrev vwCl : List vw_C := [(RX0, TX0, 2), (RX1, TX1, 3), (RX2, TX2, 2), (RX3, TX3, 8), (RX4, TX4, 5), (RX5, TX5, 9), (RX6, TX6, 3), (RX7, TX7, 6), (RX8, TX8, 4), (RX9, TX9, 15), (RX10, TX10, 10), (RX11, TX11, 43)]
def strL : List (String × Nat × String) := [(RX9, 103, "house"), (RX9, 167, "apart"), (RX9, 173, "motor"), (RX9, 175, "leader"), (RX9, 177, "burns"), (RX9, 179, "trim"), (RX9, 181, "mend"), (RX9, 111, "by"), (RX9, 119, "reel"), (RX9, 124, "town"), (RX9, 129, "mark"), (RX9, 134, "join"), (RX9, 139, "weak"), (RX9, 144, "man"), (RX9, 149, "shows"), (RX9, 154, "boys"), (RX9, 159, "seen"), (RX9, 287, "scratch"), (RX9, 203, "frames"), (RX9, 205, "first"), (RX9, 207, "whole"), (RX9, 215, "trust"), (RX9, 235, "lacks"), (RX9, 243, "snaps"), (RX9, 251, "clean"), (RX9, 253, "early"), (RX9, 255, "late"), (RX9, 257, "misled"), (RX9, 249, "slip"), (RX9, 270, "ride"), (RX9, 272, "falls"), (RX9, 277, "black"), (RX9, 279, "lost"), (RX11, 152, "house"), (RX11, 262, "apart"), (RX11, 268, "motor"), (RX11, 269, "leader"), (RX11, 271, "burns"), (RX11, 273, "trim"), (RX11, 275, "mend"), (RX11, 154, "reel"), (RX11, 156, "town"), (RX11, 158, "mark"), (RX11, 160, "join"), (RX11, 162, "weak"), (RX11, 164, "man"), (RX11, 166, "shows"), (RX11, 168, "boys"), (RX11, 170, "by"), (RX11, 172, "seen"), (RX11, 174, "scratch"), (RX11, 281, "frames"), (RX11, 283, "first"), (RX11, 285, "whole"), (RX11, 286, "trust"), (RX11, 294, "lacks"), (RX11, 296, "snaps"), (RX11, 298, "clean"), (RX11, 300, "early"), (RX11, 302, "late"), (RX11, 304, "misled"), (RX11, 306, "slip"), (RX11, 312, "ride"), (RX11, 314, "falls"), (RX11, 316, "black"), (RX11, 318, "lost")]
def nestL : List (String × Nat × MethodName × String) := [(RX10, 9, yX9_init, RX10), (RX9, 17, yX3_init, RX10), (RX3, 9, yX7_init, RX10), (RX10, 18, yX3_init, RX10), (RX10, 25, yX7_init, RX10), (RX4, 30, yX7_init, RX10), (RX10, 39, yX5_init, RX10), (RX10, 46, yX0_init, RX10), (RX10, 53, yX6_init, RX10), (RX10, 60, yX1_init, RX10), (RX10, 67, yX2_init, RX10)]
