/-! FACTS of methods and pools (printed by wip/whole/gen_steps.py) -/
theorem ow0 : ip_own 0 = 7 := by decide +kernel
theorem mL0 : ip_mL 0 = 2 := by decide +kernel
theorem rt0 : ip_ret 0 = none := by decide +kernel
theorem hh0 : ip_hnd 0 = [] := by decide +kernel
theorem ow1 : ip_own 1 = 4 := by decide +kernel
theorem mL1 : ip_mL 1 = 1 := by decide +kernel
theorem rt1 : ip_ret 1 = none := by decide +kernel
theorem hh1 : ip_hnd 1 = [] := by decide +kernel
theorem ow2 : ip_own 2 = 5 := by decide +kernel
theorem mL2 : ip_mL 2 = 1 := by decide +kernel
theorem rt2 : ip_ret 2 = none := by decide +kernel
theorem hh2 : ip_hnd 2 = [] := by decide +kernel
theorem ow3 : ip_own 3 = 6 := by decide +kernel
theorem mL3 : ip_mL 3 = 1 := by decide +kernel
theorem rt3 : ip_ret 3 = none := by decide +kernel
theorem hh3 : ip_hnd 3 = [] := by decide +kernel
theorem ow4 : ip_own 4 = 6 := by decide +kernel
theorem mL4 : ip_mL 4 = 2 := by decide +kernel
theorem rt4 : ip_ret 4 = none := by decide +kernel
theorem hh4 : ip_hnd 4 = [] := by decide +kernel
theorem ow5 : ip_own 5 = 0 := by decide +kernel
theorem mL5 : ip_mL 5 = 1 := by decide +kernel
theorem rt5 : ip_ret 5 = none := by decide +kernel
theorem hh5 : ip_hnd 5 = [] := by decide +kernel
theorem ow6 : ip_own 6 = 1 := by decide +kernel
theorem mL6 : ip_mL 6 = 1 := by decide +kernel
theorem rt6 : ip_ret 6 = none := by decide +kernel
theorem hh6 : ip_hnd 6 = [] := by decide +kernel
theorem ow7 : ip_own 7 = 3 := by decide +kernel
theorem mL7 : ip_mL 7 = 1 := by decide +kernel
theorem rt7 : ip_ret 7 = none := by decide +kernel
theorem hh7 : ip_hnd 7 = [] := by decide +kernel
theorem ow8 : ip_own 8 = 2 := by decide +kernel
theorem mL8 : ip_mL 8 = 1 := by decide +kernel
theorem rt8 : ip_ret 8 = none := by decide +kernel
theorem hh8 : ip_hnd 8 = [] := by decide +kernel
theorem ow9 : ip_own 9 = 7 := by decide +kernel
theorem mL9 : ip_mL 9 = 1 := by decide +kernel
theorem rt9 : ip_ret 9 = none := by decide +kernel
theorem hh9 : ip_hnd 9 = [] := by decide +kernel
theorem ow10 : ip_own 10 = 6 := by decide +kernel
theorem mL10 : ip_mL 10 = 1 := by decide +kernel
theorem rt10 : ip_ret 10 = some .int := by decide +kernel
theorem hh10 : ip_hnd 10 = [] := by decide +kernel
theorem ow11 : ip_own 11 = 1 := by decide +kernel
theorem mL11 : ip_mL 11 = 2 := by decide +kernel
theorem rt11 : ip_ret 11 = none := by decide +kernel
theorem hh11 : ip_hnd 11 = [] := by decide +kernel
theorem ow12 : ip_own 12 = 1 := by decide +kernel
theorem mL12 : ip_mL 12 = 3 := by decide +kernel
theorem rt12 : ip_ret 12 = none := by decide +kernel
theorem hh12 : ip_hnd 12 = [] := by decide +kernel
theorem ow13 : ip_own 13 = 7 := by decide +kernel
theorem mL13 : ip_mL 13 = 6 := by decide +kernel
theorem rt13 : ip_ret 13 = some .int := by decide +kernel
theorem hh13 : ip_hnd 13 = [] := by decide +kernel
theorem ow14 : ip_own 14 = 7 := by decide +kernel
theorem mL14 : ip_mL 14 = 3 := by decide +kernel
theorem rt14 : ip_ret 14 = none := by decide +kernel
theorem hh14 : ip_hnd 14 = [] := by decide +kernel
theorem ow15 : ip_own 15 = 7 := by decide +kernel
theorem mL15 : ip_mL 15 = 2 := by decide +kernel
theorem rt15 : ip_ret 15 = some .boolean := by decide +kernel
theorem hh15 : ip_hnd 15 = [] := by decide +kernel
theorem ow16 : ip_own 16 = 7 := by decide +kernel
theorem mL16 : ip_mL 16 = 1 := by decide +kernel
theorem rt16 : ip_ret 16 = some .int := by decide +kernel
theorem hh16 : ip_hnd 16 = [] := by decide +kernel
theorem ow17 : ip_own 17 = 7 := by decide +kernel
theorem mL17 : ip_mL 17 = 9 := by decide +kernel
theorem rt17 : ip_ret 17 = some .int := by decide +kernel
theorem hh17 : ip_hnd 17 = [] := by decide +kernel
theorem ow18 : ip_own 18 = 6 := by decide +kernel
theorem mL18 : ip_mL 18 = 10 := by decide +kernel
theorem rt18 : ip_ret 18 = some .int := by decide +kernel
theorem hh18 : ip_hnd 18 = [] := by decide +kernel
theorem ow19 : ip_own 19 = 10 := by decide +kernel
theorem mL19 : ip_mL 19 = 1 := by decide +kernel
theorem rt19 : ip_ret 19 = some .int := by decide +kernel
theorem hh19 : ip_hnd 19 = [] := by decide +kernel
theorem ow20 : ip_own 20 = 7 := by decide +kernel
theorem mL20 : ip_mL 20 = 2 := by decide +kernel
theorem rt20 : ip_ret 20 = some .int := by decide +kernel
theorem hh20 : ip_hnd 20 = [] := by decide +kernel
theorem ow21 : ip_own 21 = 7 := by decide +kernel
theorem mL21 : ip_mL 21 = 7 := by decide +kernel
theorem rt21 : ip_ret 21 = some .int := by decide +kernel
theorem hh21 : ip_hnd 21 = [] := by decide +kernel
theorem ow22 : ip_own 22 = 7 := by decide +kernel
theorem mL22 : ip_mL 22 = 5 := by decide +kernel
theorem rt22 : ip_ret 22 = some .int := by decide +kernel
theorem hh22 : ip_hnd 22 = [] := by decide +kernel
theorem ow23 : ip_own 23 = 6 := by decide +kernel
theorem mL23 : ip_mL 23 = 6 := by decide +kernel
theorem rt23 : ip_ret 23 = some .int := by decide +kernel
theorem hh23 : ip_hnd 23 = [] := by decide +kernel
theorem ow24 : ip_own 24 = 6 := by decide +kernel
theorem mL24 : ip_mL 24 = 3 := by decide +kernel
theorem rt24 : ip_ret 24 = some .boolean := by decide +kernel
theorem hh24 : ip_hnd 24 = [] := by decide +kernel
theorem ow25 : ip_own 25 = 7 := by decide +kernel
theorem mL25 : ip_mL 25 = 2 := by decide +kernel
theorem rt25 : ip_ret 25 = some .int := by decide +kernel
theorem hh25 : ip_hnd 25 = [] := by decide +kernel
theorem ow26 : ip_own 26 = 7 := by decide +kernel
theorem mL26 : ip_mL 26 = 4 := by decide +kernel
theorem rt26 : ip_ret 26 = some .int := by decide +kernel
theorem hh26 : ip_hnd 26 = [] := by decide +kernel
theorem ow27 : ip_own 27 = 7 := by decide +kernel
theorem mL27 : ip_mL 27 = 4 := by decide +kernel
theorem rt27 : ip_ret 27 = some .int := by decide +kernel
theorem hh27 : ip_hnd 27 = [] := by decide +kernel
theorem ow28 : ip_own 28 = 7 := by decide +kernel
theorem mL28 : ip_mL 28 = 1 := by decide +kernel
theorem rt28 : ip_ret 28 = some .int := by decide +kernel
theorem hh28 : ip_hnd 28 = [] := by decide +kernel
theorem ow29 : ip_own 29 = 2 := by decide +kernel
theorem mL29 : ip_mL 29 = 1 := by decide +kernel
theorem rt29 : ip_ret 29 = none := by decide +kernel
theorem hh29 : ip_hnd 29 = [] := by decide +kernel
theorem ow30 : ip_own 30 = 7 := by decide +kernel
theorem mL30 : ip_mL 30 = 5 := by decide +kernel
theorem rt30 : ip_ret 30 = none := by decide +kernel
theorem hh30 : ip_hnd 30 = [] := by decide +kernel
theorem ow31 : ip_own 31 = 2 := by decide +kernel
theorem mL31 : ip_mL 31 = 2 := by decide +kernel
theorem rt31 : ip_ret 31 = none := by decide +kernel
theorem hh31 : ip_hnd 31 = [] := by decide +kernel
theorem ow32 : ip_own 32 = 2 := by decide +kernel
theorem mL32 : ip_mL 32 = 2 := by decide +kernel
theorem rt32 : ip_ret 32 = none := by decide +kernel
theorem hh32 : ip_hnd 32 = [] := by decide +kernel
theorem ow33 : ip_own 33 = 7 := by decide +kernel
theorem mL33 : ip_mL 33 = 1 := by decide +kernel
theorem rt33 : ip_ret 33 = some .int := by decide +kernel
theorem hh33 : ip_hnd 33 = [] := by decide +kernel
theorem ow34 : ip_own 34 = 7 := by decide +kernel
theorem mL34 : ip_mL 34 = 2 := by decide +kernel
theorem rt34 : ip_ret 34 = some .int := by decide +kernel
theorem hh34 : ip_hnd 34 = [] := by decide +kernel
theorem ow35 : ip_own 35 = 7 := by decide +kernel
theorem mL35 : ip_mL 35 = 4 := by decide +kernel
theorem rt35 : ip_ret 35 = some .int := by decide +kernel
theorem hh35 : ip_hnd 35 = [] := by decide +kernel
theorem ow36 : ip_own 36 = 9 := by decide +kernel
theorem mL36 : ip_mL 36 = 3 := by decide +kernel
theorem rt36 : ip_ret 36 = some .int := by decide +kernel
theorem ow37 : ip_own 37 = 7 := by decide +kernel
theorem mL37 : ip_mL 37 = 2 := by decide +kernel
theorem rt37 : ip_ret 37 = some .int := by decide +kernel
theorem hh37 : ip_hnd 37 = [] := by decide +kernel
theorem ow38 : ip_own 38 = 4 := by decide +kernel
theorem mL38 : ip_mL 38 = 5 := by decide +kernel
theorem rt38 : ip_ret 38 = some .int := by decide +kernel
theorem hh38 : ip_hnd 38 = [] := by decide +kernel
theorem ow39 : ip_own 39 = 5 := by decide +kernel
theorem mL39 : ip_mL 39 = 1 := by decide +kernel
theorem rt39 : ip_ret 39 = none := by decide +kernel
theorem hh39 : ip_hnd 39 = [] := by decide +kernel
theorem ow40 : ip_own 40 = 4 := by decide +kernel
theorem mL40 : ip_mL 40 = 2 := by decide +kernel
theorem rt40 : ip_ret 40 = none := by decide +kernel
theorem hh40 : ip_hnd 40 = [] := by decide +kernel
theorem ow41 : ip_own 41 = 4 := by decide +kernel
theorem mL41 : ip_mL 41 = 1 := by decide +kernel
theorem rt41 : ip_ret 41 = some .boolean := by decide +kernel
theorem hh41 : ip_hnd 41 = [] := by decide +kernel
theorem ow42 : ip_own 42 = 4 := by decide +kernel
theorem mL42 : ip_mL 42 = 1 := by decide +kernel
theorem rt42 : ip_ret 42 = some .boolean := by decide +kernel
theorem hh42 : ip_hnd 42 = [] := by decide +kernel
theorem ow43 : ip_own 43 = 4 := by decide +kernel
theorem mL43 : ip_mL 43 = 4 := by decide +kernel
theorem rt43 : ip_ret 43 = some .int := by decide +kernel
theorem hh43 : ip_hnd 43 = [] := by decide +kernel
theorem ow44 : ip_own 44 = 4 := by decide +kernel
theorem mL44 : ip_mL 44 = 4 := by decide +kernel
theorem rt44 : ip_ret 44 = some .boolean := by decide +kernel
theorem hh44 : ip_hnd 44 = [] := by decide +kernel
theorem ow45 : ip_own 45 = 4 := by decide +kernel
theorem mL45 : ip_mL 45 = 1 := by decide +kernel
theorem rt45 : ip_ret 45 = some .boolean := by decide +kernel
theorem hh45 : ip_hnd 45 = [] := by decide +kernel
theorem ow46 : ip_own 46 = 4 := by decide +kernel
theorem mL46 : ip_mL 46 = 1 := by decide +kernel
theorem rt46 : ip_ret 46 = some .boolean := by decide +kernel
theorem hh46 : ip_hnd 46 = [] := by decide +kernel
theorem ow47 : ip_own 47 = 4 := by decide +kernel
theorem mL47 : ip_mL 47 = 3 := by decide +kernel
theorem rt47 : ip_ret 47 = some .boolean := by decide +kernel
theorem hh47 : ip_hnd 47 = [] := by decide +kernel
theorem ow48 : ip_own 48 = 4 := by decide +kernel
theorem mL48 : ip_mL 48 = 2 := by decide +kernel
theorem rt48 : ip_ret 48 = some .int := by decide +kernel
theorem hh48 : ip_hnd 48 = [] := by decide +kernel
theorem ow49 : ip_own 49 = 4 := by decide +kernel
theorem mL49 : ip_mL 49 = 4 := by decide +kernel
theorem rt49 : ip_ret 49 = some .boolean := by decide +kernel
theorem hh49 : ip_hnd 49 = [] := by decide +kernel
theorem ow50 : ip_own 50 = 6 := by decide +kernel
theorem mL50 : ip_mL 50 = 3 := by decide +kernel
theorem rt50 : ip_ret 50 = some .int := by decide +kernel
theorem hh50 : ip_hnd 50 = [] := by decide +kernel
theorem ow51 : ip_own 51 = 4 := by decide +kernel
theorem mL51 : ip_mL 51 = 3 := by decide +kernel
theorem rt51 : ip_ret 51 = none := by decide +kernel
theorem hh51 : ip_hnd 51 = [] := by decide +kernel
theorem ow52 : ip_own 52 = 4 := by decide +kernel
theorem mL52 : ip_mL 52 = 4 := by decide +kernel
theorem rt52 : ip_ret 52 = some .int := by decide +kernel
theorem hh52 : ip_hnd 52 = [] := by decide +kernel
theorem ow53 : ip_own 53 = 4 := by decide +kernel
theorem mL53 : ip_mL 53 = 2 := by decide +kernel
theorem rt53 : ip_ret 53 = some .boolean := by decide +kernel
theorem hh53 : ip_hnd 53 = [] := by decide +kernel
theorem ow54 : ip_own 54 = 6 := by decide +kernel
theorem mL54 : ip_mL 54 = 4 := by decide +kernel
theorem rt54 : ip_ret 54 = none := by decide +kernel
theorem hh54 : ip_hnd 54 = [] := by decide +kernel
theorem ow55 : ip_own 55 = 4 := by decide +kernel
theorem mL55 : ip_mL 55 = 3 := by decide +kernel
theorem rt55 : ip_ret 55 = some .boolean := by decide +kernel
theorem hh55 : ip_hnd 55 = [] := by decide +kernel
theorem ow56 : ip_own 56 = 4 := by decide +kernel
theorem mL56 : ip_mL 56 = 1 := by decide +kernel
theorem rt56 : ip_ret 56 = some .boolean := by decide +kernel
theorem hh56 : ip_hnd 56 = [] := by decide +kernel
theorem ow57 : ip_own 57 = 4 := by decide +kernel
theorem mL57 : ip_mL 57 = 3 := by decide +kernel
theorem rt57 : ip_ret 57 = some .boolean := by decide +kernel
theorem hh57 : ip_hnd 57 = [] := by decide +kernel
theorem ow58 : ip_own 58 = 4 := by decide +kernel
theorem mL58 : ip_mL 58 = 3 := by decide +kernel
theorem rt58 : ip_ret 58 = some .boolean := by decide +kernel
theorem hh58 : ip_hnd 58 = [] := by decide +kernel
theorem ow59 : ip_own 59 = 4 := by decide +kernel
theorem mL59 : ip_mL 59 = 2 := by decide +kernel
theorem rt59 : ip_ret 59 = some .boolean := by decide +kernel
theorem hh59 : ip_hnd 59 = [] := by decide +kernel
theorem ow60 : ip_own 60 = 4 := by decide +kernel
theorem mL60 : ip_mL 60 = 2 := by decide +kernel
theorem rt60 : ip_ret 60 = some .boolean := by decide +kernel
theorem hh60 : ip_hnd 60 = [] := by decide +kernel
theorem ow61 : ip_own 61 = 5 := by decide +kernel
theorem mL61 : ip_mL 61 = 3 := by decide +kernel
theorem rt61 : ip_ret 61 = none := by decide +kernel
theorem hh61 : ip_hnd 61 = [] := by decide +kernel
theorem ow62 : ip_own 62 = 4 := by decide +kernel
theorem mL62 : ip_mL 62 = 2 := by decide +kernel
theorem rt62 : ip_ret 62 = some .boolean := by decide +kernel
theorem hh62 : ip_hnd 62 = [] := by decide +kernel
theorem ow63 : ip_own 63 = 5 := by decide +kernel
theorem mL63 : ip_mL 63 = 3 := by decide +kernel
theorem rt63 : ip_ret 63 = none := by decide +kernel
theorem hh63 : ip_hnd 63 = [] := by decide +kernel
theorem ow64 : ip_own 64 = 5 := by decide +kernel
theorem mL64 : ip_mL 64 = 2 := by decide +kernel
theorem rt64 : ip_ret 64 = some .long := by decide +kernel
theorem hh64 : ip_hnd 64 = [] := by decide +kernel
theorem ow65 : ip_own 65 = 4 := by decide +kernel
theorem mL65 : ip_mL 65 = 2 := by decide +kernel
theorem rt65 : ip_ret 65 = some .boolean := by decide +kernel
theorem hh65 : ip_hnd 65 = [] := by decide +kernel
theorem ow66 : ip_own 66 = 4 := by decide +kernel
theorem mL66 : ip_mL 66 = 4 := by decide +kernel
theorem rt66 : ip_ret 66 = some .boolean := by decide +kernel
theorem hh66 : ip_hnd 66 = [] := by decide +kernel
theorem ow67 : ip_own 67 = 5 := by decide +kernel
theorem mL67 : ip_mL 67 = 6 := by decide +kernel
theorem rt67 : ip_ret 67 = none := by decide +kernel
theorem hh67 : ip_hnd 67 = [] := by decide +kernel
theorem ow68 : ip_own 68 = 5 := by decide +kernel
theorem mL68 : ip_mL 68 = 3 := by decide +kernel
theorem rt68 : ip_ret 68 = none := by decide +kernel
theorem hh68 : ip_hnd 68 = [] := by decide +kernel
theorem ow69 : ip_own 69 = 5 := by decide +kernel
theorem mL69 : ip_mL 69 = 5 := by decide +kernel
theorem rt69 : ip_ret 69 = none := by decide +kernel
theorem hh69 : ip_hnd 69 = [] := by decide +kernel
theorem ow70 : ip_own 70 = 5 := by decide +kernel
theorem mL70 : ip_mL 70 = 6 := by decide +kernel
theorem rt70 : ip_ret 70 = none := by decide +kernel
theorem hh70 : ip_hnd 70 = [] := by decide +kernel
theorem ow71 : ip_own 71 = 5 := by decide +kernel
theorem mL71 : ip_mL 71 = 2 := by decide +kernel
theorem rt71 : ip_ret 71 = none := by decide +kernel
theorem hh71 : ip_hnd 71 = [] := by decide +kernel
theorem ow72 : ip_own 72 = 4 := by decide +kernel
theorem mL72 : ip_mL 72 = 3 := by decide +kernel
theorem rt72 : ip_ret 72 = some (.object "RemandTree$Text") := by decide +kernel
theorem hh72 : ip_hnd 72 = [] := by decide +kernel
theorem ow73 : ip_own 73 = 9 := by decide +kernel
theorem mL73 : ip_mL 73 = 5 := by decide +kernel
theorem rt73 : ip_ret 73 = some .int := by decide +kernel
theorem ow74 : ip_own 74 = 7 := by decide +kernel
theorem mL74 : ip_mL 74 = 3 := by decide +kernel
theorem rt74 : ip_ret 74 = some .int := by decide +kernel
theorem hh74 : ip_hnd 74 = [] := by decide +kernel
theorem ow75 : ip_own 75 = 7 := by decide +kernel
theorem mL75 : ip_mL 75 = 2 := by decide +kernel
theorem rt75 : ip_ret 75 = none := by decide +kernel
theorem hh75 : ip_hnd 75 = [] := by decide +kernel
theorem ow76 : ip_own 76 = 9 := by decide +kernel
theorem mL76 : ip_mL 76 = 5 := by decide +kernel
theorem rt76 : ip_ret 76 = some .int := by decide +kernel
theorem ow77 : ip_own 77 = 7 := by decide +kernel
theorem mL77 : ip_mL 77 = 3 := by decide +kernel
theorem rt77 : ip_ret 77 = some .int := by decide +kernel
theorem hh77 : ip_hnd 77 = [] := by decide +kernel
theorem ow78 : ip_own 78 = 9 := by decide +kernel
theorem mL78 : ip_mL 78 = 5 := by decide +kernel
theorem rt78 : ip_ret 78 = some .int := by decide +kernel
theorem ow79 : ip_own 79 = 7 := by decide +kernel
theorem mL79 : ip_mL 79 = 3 := by decide +kernel
theorem rt79 : ip_ret 79 = some .int := by decide +kernel
theorem hh79 : ip_hnd 79 = [] := by decide +kernel
theorem ow80 : ip_own 80 = 7 := by decide +kernel
theorem mL80 : ip_mL 80 = 2 := by decide +kernel
theorem rt80 : ip_ret 80 = none := by decide +kernel
theorem hh80 : ip_hnd 80 = [] := by decide +kernel
theorem ow81 : ip_own 81 = 7 := by decide +kernel
theorem mL81 : ip_mL 81 = 2 := by decide +kernel
theorem rt81 : ip_ret 81 = some .int := by decide +kernel
theorem hh81 : ip_hnd 81 = [] := by decide +kernel
theorem ow82 : ip_own 82 = 9 := by decide +kernel
theorem mL82 : ip_mL 82 = 6 := by decide +kernel
theorem rt82 : ip_ret 82 = some .int := by decide +kernel
theorem ow83 : ip_own 83 = 7 := by decide +kernel
theorem mL83 : ip_mL 83 = 6 := by decide +kernel
theorem rt83 : ip_ret 83 = some .int := by decide +kernel
theorem hh83 : ip_hnd 83 = [] := by decide +kernel
theorem ow84 : ip_own 84 = 9 := by decide +kernel
theorem mL84 : ip_mL 84 = 6 := by decide +kernel
theorem rt84 : ip_ret 84 = some .int := by decide +kernel
theorem ow85 : ip_own 85 = 7 := by decide +kernel
theorem mL85 : ip_mL 85 = 6 := by decide +kernel
theorem rt85 : ip_ret 85 = some .int := by decide +kernel
theorem hh85 : ip_hnd 85 = [] := by decide +kernel
theorem ow86 : ip_own 86 = 7 := by decide +kernel
theorem mL86 : ip_mL 86 = 1 := by decide +kernel
theorem rt86 : ip_ret 86 = none := by decide +kernel
theorem hh86 : ip_hnd 86 = [] := by decide +kernel
theorem ow87 : ip_own 87 = 1 := by decide +kernel
theorem mL87 : ip_mL 87 = 6 := by decide +kernel
theorem rt87 : ip_ret 87 = none := by decide +kernel
theorem hh87 : ip_hnd 87 = [] := by decide +kernel
theorem ow88 : ip_own 88 = 1 := by decide +kernel
theorem mL88 : ip_mL 88 = 2 := by decide +kernel
theorem rt88 : ip_ret 88 = none := by decide +kernel
theorem hh88 : ip_hnd 88 = [] := by decide +kernel
theorem ow89 : ip_own 89 = 9 := by decide +kernel
theorem mL89 : ip_mL 89 = 5 := by decide +kernel
theorem rt89 : ip_ret 89 = some .int := by decide +kernel
theorem ow90 : ip_own 90 = 7 := by decide +kernel
theorem mL90 : ip_mL 90 = 5 := by decide +kernel
theorem rt90 : ip_ret 90 = some .boolean := by decide +kernel
theorem hh90 : ip_hnd 90 = [] := by decide +kernel
theorem ow91 : ip_own 91 = 1 := by decide +kernel
theorem mL91 : ip_mL 91 = 1 := by decide +kernel
theorem rt91 : ip_ret 91 = some .int := by decide +kernel
theorem hh91 : ip_hnd 91 = [] := by decide +kernel
theorem ow92 : ip_own 92 = 1 := by decide +kernel
theorem mL92 : ip_mL 92 = 2 := by decide +kernel
theorem rt92 : ip_ret 92 = some .int := by decide +kernel
theorem hh92 : ip_hnd 92 = [] := by decide +kernel
theorem ow93 : ip_own 93 = 1 := by decide +kernel
theorem mL93 : ip_mL 93 = 4 := by decide +kernel
theorem rt93 : ip_ret 93 = some .boolean := by decide +kernel
theorem hh93 : ip_hnd 93 = [] := by decide +kernel
theorem ow94 : ip_own 94 = 9 := by decide +kernel
theorem mL94 : ip_mL 94 = 4 := by decide +kernel
theorem rt94 : ip_ret 94 = some .int := by decide +kernel
theorem ow95 : ip_own 95 = 7 := by decide +kernel
theorem mL95 : ip_mL 95 = 5 := by decide +kernel
theorem rt95 : ip_ret 95 = some .boolean := by decide +kernel
theorem hh95 : ip_hnd 95 = [] := by decide +kernel
theorem ow96 : ip_own 96 = 9 := by decide +kernel
theorem mL96 : ip_mL 96 = 5 := by decide +kernel
theorem rt96 : ip_ret 96 = some .int := by decide +kernel
theorem ow97 : ip_own 97 = 7 := by decide +kernel
theorem mL97 : ip_mL 97 = 3 := by decide +kernel
theorem rt97 : ip_ret 97 = some .int := by decide +kernel
theorem hh97 : ip_hnd 97 = [] := by decide +kernel
theorem ow98 : ip_own 98 = 7 := by decide +kernel
theorem mL98 : ip_mL 98 = 2 := by decide +kernel
theorem rt98 : ip_ret 98 = none := by decide +kernel
theorem hh98 : ip_hnd 98 = [] := by decide +kernel
theorem ow99 : ip_own 99 = 7 := by decide +kernel
theorem mL99 : ip_mL 99 = 3 := by decide +kernel
theorem rt99 : ip_ret 99 = none := by decide +kernel
theorem hh99 : ip_hnd 99 = [] := by decide +kernel
theorem ow100 : ip_own 100 = 0 := by decide +kernel
theorem mL100 : ip_mL 100 = 6 := by decide +kernel
theorem rt100 : ip_ret 100 = some .boolean := by decide +kernel
theorem hh100 : ip_hnd 100 = [] := by decide +kernel
theorem ow101 : ip_own 101 = 0 := by decide +kernel
theorem mL101 : ip_mL 101 = 1 := by decide +kernel
theorem rt101 : ip_ret 101 = some .int := by decide +kernel
theorem hh101 : ip_hnd 101 = [] := by decide +kernel
theorem ow102 : ip_own 102 = 6 := by decide +kernel
theorem mL102 : ip_mL 102 = 4 := by decide +kernel
theorem rt102 : ip_ret 102 = some .int := by decide +kernel
theorem hh102 : ip_hnd 102 = [] := by decide +kernel
theorem ow103 : ip_own 103 = 0 := by decide +kernel
theorem mL103 : ip_mL 103 = 3 := by decide +kernel
theorem rt103 : ip_ret 103 = none := by decide +kernel
theorem hh103 : ip_hnd 103 = [] := by decide +kernel
theorem ow104 : ip_own 104 = 0 := by decide +kernel
theorem mL104 : ip_mL 104 = 7 := by decide +kernel
theorem rt104 : ip_ret 104 = some .int := by decide +kernel
theorem hh104 : ip_hnd 104 = [] := by decide +kernel
theorem ow105 : ip_own 105 = 1 := by decide +kernel
theorem mL105 : ip_mL 105 = 2 := by decide +kernel
theorem rt105 : ip_ret 105 = some .int := by decide +kernel
theorem hh105 : ip_hnd 105 = [] := by decide +kernel
theorem ow106 : ip_own 106 = 1 := by decide +kernel
theorem mL106 : ip_mL 106 = 2 := by decide +kernel
theorem rt106 : ip_ret 106 = some .int := by decide +kernel
theorem hh106 : ip_hnd 106 = [] := by decide +kernel
theorem ow107 : ip_own 107 = 7 := by decide +kernel
theorem mL107 : ip_mL 107 = 1 := by decide +kernel
theorem rt107 : ip_ret 107 = none := by decide +kernel
theorem hh107 : ip_hnd 107 = [] := by decide +kernel
theorem ow108 : ip_own 108 = 0 := by decide +kernel
theorem mL108 : ip_mL 108 = 6 := by decide +kernel
theorem rt108 : ip_ret 108 = none := by decide +kernel
theorem hh108 : ip_hnd 108 = [] := by decide +kernel
theorem ow109 : ip_own 109 = 0 := by decide +kernel
theorem mL109 : ip_mL 109 = 1 := by decide +kernel
theorem rt109 : ip_ret 109 = some .int := by decide +kernel
theorem hh109 : ip_hnd 109 = [] := by decide +kernel
theorem ow110 : ip_own 110 = 0 := by decide +kernel
theorem mL110 : ip_mL 110 = 1 := by decide +kernel
theorem rt110 : ip_ret 110 = some .int := by decide +kernel
theorem hh110 : ip_hnd 110 = [] := by decide +kernel
theorem ow111 : ip_own 111 = 0 := by decide +kernel
theorem mL111 : ip_mL 111 = 4 := by decide +kernel
theorem rt111 : ip_ret 111 = some .int := by decide +kernel
theorem hh111 : ip_hnd 111 = [] := by decide +kernel
theorem ow112 : ip_own 112 = 0 := by decide +kernel
theorem mL112 : ip_mL 112 = 3 := by decide +kernel
theorem rt112 : ip_ret 112 = some .int := by decide +kernel
theorem hh112 : ip_hnd 112 = [] := by decide +kernel
theorem ow113 : ip_own 113 = 0 := by decide +kernel
theorem mL113 : ip_mL 113 = 4 := by decide +kernel
theorem rt113 : ip_ret 113 = some .int := by decide +kernel
theorem hh113 : ip_hnd 113 = [] := by decide +kernel
theorem ow114 : ip_own 114 = 0 := by decide +kernel
theorem mL114 : ip_mL 114 = 5 := by decide +kernel
theorem rt114 : ip_ret 114 = none := by decide +kernel
theorem hh114 : ip_hnd 114 = [] := by decide +kernel
theorem ow115 : ip_own 115 = 1 := by decide +kernel
theorem mL115 : ip_mL 115 = 2 := by decide +kernel
theorem rt115 : ip_ret 115 = none := by decide +kernel
theorem hh115 : ip_hnd 115 = [] := by decide +kernel
theorem ow116 : ip_own 116 = 1 := by decide +kernel
theorem mL116 : ip_mL 116 = 3 := by decide +kernel
theorem rt116 : ip_ret 116 = none := by decide +kernel
theorem hh116 : ip_hnd 116 = [] := by decide +kernel
theorem ow117 : ip_own 117 = 1 := by decide +kernel
theorem mL117 : ip_mL 117 = 2 := by decide +kernel
theorem rt117 : ip_ret 117 = some .int := by decide +kernel
theorem hh117 : ip_hnd 117 = [] := by decide +kernel
theorem ow118 : ip_own 118 = 7 := by decide +kernel
theorem mL118 : ip_mL 118 = 1 := by decide +kernel
theorem rt118 : ip_ret 118 = some .int := by decide +kernel
theorem hh118 : ip_hnd 118 = [] := by decide +kernel
theorem ow119 : ip_own 119 = 9 := by decide +kernel
theorem mL119 : ip_mL 119 = 3 := by decide +kernel
theorem rt119 : ip_ret 119 = some .int := by decide +kernel
theorem ow120 : ip_own 120 = 7 := by decide +kernel
theorem mL120 : ip_mL 120 = 2 := by decide +kernel
theorem rt120 : ip_ret 120 = some .int := by decide +kernel
theorem hh120 : ip_hnd 120 = [] := by decide +kernel
theorem ow121 : ip_own 121 = 1 := by decide +kernel
theorem mL121 : ip_mL 121 = 3 := by decide +kernel
theorem rt121 : ip_ret 121 = none := by decide +kernel
theorem hh121 : ip_hnd 121 = [] := by decide +kernel
theorem ow122 : ip_own 122 = 9 := by decide +kernel
theorem mL122 : ip_mL 122 = 4 := by decide +kernel
theorem rt122 : ip_ret 122 = some .int := by decide +kernel
theorem ow123 : ip_own 123 = 7 := by decide +kernel
theorem mL123 : ip_mL 123 = 3 := by decide +kernel
theorem rt123 : ip_ret 123 = some .int := by decide +kernel
theorem hh123 : ip_hnd 123 = [] := by decide +kernel
theorem ow124 : ip_own 124 = 7 := by decide +kernel
theorem mL124 : ip_mL 124 = 2 := by decide +kernel
theorem rt124 : ip_ret 124 = none := by decide +kernel
theorem hh124 : ip_hnd 124 = [] := by decide +kernel
theorem ow125 : ip_own 125 = 9 := by decide +kernel
theorem mL125 : ip_mL 125 = 6 := by decide +kernel
theorem rt125 : ip_ret 125 = some .int := by decide +kernel
theorem ow126 : ip_own 126 = 7 := by decide +kernel
theorem mL126 : ip_mL 126 = 4 := by decide +kernel
theorem rt126 : ip_ret 126 = some .int := by decide +kernel
theorem hh126 : ip_hnd 126 = [] := by decide +kernel
theorem ow127 : ip_own 127 = 9 := by decide +kernel
theorem mL127 : ip_mL 127 = 5 := by decide +kernel
theorem rt127 : ip_ret 127 = some .int := by decide +kernel
theorem ow128 : ip_own 128 = 7 := by decide +kernel
theorem mL128 : ip_mL 128 = 4 := by decide +kernel
theorem rt128 : ip_ret 128 = some .int := by decide +kernel
theorem hh128 : ip_hnd 128 = [] := by decide +kernel
theorem ow129 : ip_own 129 = 7 := by decide +kernel
theorem mL129 : ip_mL 129 = 1 := by decide +kernel
theorem rt129 : ip_ret 129 = none := by decide +kernel
theorem hh129 : ip_hnd 129 = [] := by decide +kernel
theorem ow130 : ip_own 130 = 0 := by decide +kernel
theorem mL130 : ip_mL 130 = 8 := by decide +kernel
theorem rt130 : ip_ret 130 = some .int := by decide +kernel
theorem hh130 : ip_hnd 130 = [] := by decide +kernel
theorem ow131 : ip_own 131 = 6 := by decide +kernel
theorem mL131 : ip_mL 131 = 4 := by decide +kernel
theorem rt131 : ip_ret 131 = some .int := by decide +kernel
theorem hh131 : ip_hnd 131 = [] := by decide +kernel
theorem ow132 : ip_own 132 = 7 := by decide +kernel
theorem mL132 : ip_mL 132 = 1 := by decide +kernel
theorem rt132 : ip_ret 132 = some .int := by decide +kernel
theorem hh132 : ip_hnd 132 = [] := by decide +kernel
theorem ow133 : ip_own 133 = 7 := by decide +kernel
theorem mL133 : ip_mL 133 = 3 := by decide +kernel
theorem rt133 : ip_ret 133 = some .boolean := by decide +kernel
theorem hh133 : ip_hnd 133 = [] := by decide +kernel
theorem ow134 : ip_own 134 = 9 := by decide +kernel
theorem mL134 : ip_mL 134 = 5 := by decide +kernel
theorem rt134 : ip_ret 134 = some .int := by decide +kernel
theorem ow135 : ip_own 135 = 7 := by decide +kernel
theorem mL135 : ip_mL 135 = 3 := by decide +kernel
theorem rt135 : ip_ret 135 = some .int := by decide +kernel
theorem hh135 : ip_hnd 135 = [] := by decide +kernel
theorem ow136 : ip_own 136 = 9 := by decide +kernel
theorem mL136 : ip_mL 136 = 5 := by decide +kernel
theorem rt136 : ip_ret 136 = some .int := by decide +kernel
theorem ow137 : ip_own 137 = 7 := by decide +kernel
theorem mL137 : ip_mL 137 = 3 := by decide +kernel
theorem rt137 : ip_ret 137 = some .int := by decide +kernel
theorem hh137 : ip_hnd 137 = [] := by decide +kernel
theorem ow138 : ip_own 138 = 9 := by decide +kernel
theorem mL138 : ip_mL 138 = 4 := by decide +kernel
theorem rt138 : ip_ret 138 = some .int := by decide +kernel
theorem ow139 : ip_own 139 = 7 := by decide +kernel
theorem mL139 : ip_mL 139 = 2 := by decide +kernel
theorem rt139 : ip_ret 139 = some .int := by decide +kernel
theorem hh139 : ip_hnd 139 = [] := by decide +kernel
theorem ow140 : ip_own 140 = 9 := by decide +kernel
theorem mL140 : ip_mL 140 = 6 := by decide +kernel
theorem rt140 : ip_ret 140 = some .int := by decide +kernel
theorem ow141 : ip_own 141 = 7 := by decide +kernel
theorem mL141 : ip_mL 141 = 4 := by decide +kernel
theorem rt141 : ip_ret 141 = some .int := by decide +kernel
theorem hh141 : ip_hnd 141 = [] := by decide +kernel
theorem ow142 : ip_own 142 = 3 := by decide +kernel
theorem mL142 : ip_mL 142 = 8 := by decide +kernel
theorem rt142 : ip_ret 142 = none := by decide +kernel
theorem hh142 : ip_hnd 142 = [] := by decide +kernel
theorem ow143 : ip_own 143 = 0 := by decide +kernel
theorem mL143 : ip_mL 143 = 1 := by decide +kernel
theorem rt143 : ip_ret 143 = some (.object "RemandTree$Text") := by decide +kernel
theorem hh143 : ip_hnd 143 = [] := by decide +kernel
theorem ow144 : ip_own 144 = 3 := by decide +kernel
theorem mL144 : ip_mL 144 = 8 := by decide +kernel
theorem rt144 : ip_ret 144 = none := by decide +kernel
theorem hh144 : ip_hnd 144 = [] := by decide +kernel
theorem ow145 : ip_own 145 = 9 := by decide +kernel
theorem mL145 : ip_mL 145 = 5 := by decide +kernel
theorem rt145 : ip_ret 145 = some .int := by decide +kernel
theorem ow146 : ip_own 146 = 7 := by decide +kernel
theorem mL146 : ip_mL 146 = 3 := by decide +kernel
theorem rt146 : ip_ret 146 = some .int := by decide +kernel
theorem hh146 : ip_hnd 146 = [] := by decide +kernel
theorem ow147 : ip_own 147 = 3 := by decide +kernel
theorem mL147 : ip_mL 147 = 8 := by decide +kernel
theorem rt147 : ip_ret 147 = none := by decide +kernel
theorem hh147 : ip_hnd 147 = [] := by decide +kernel
theorem ow148 : ip_own 148 = 0 := by decide +kernel
theorem mL148 : ip_mL 148 = 1 := by decide +kernel
theorem rt148 : ip_ret 148 = some .int := by decide +kernel
theorem hh148 : ip_hnd 148 = [] := by decide +kernel
theorem ow149 : ip_own 149 = 3 := by decide +kernel
theorem mL149 : ip_mL 149 = 7 := by decide +kernel
theorem rt149 : ip_ret 149 = none := by decide +kernel
theorem hh149 : ip_hnd 149 = [] := by decide +kernel
theorem ow150 : ip_own 150 = 0 := by decide +kernel
theorem mL150 : ip_mL 150 = 1 := by decide +kernel
theorem rt150 : ip_ret 150 = some .int := by decide +kernel
theorem hh150 : ip_hnd 150 = [] := by decide +kernel
theorem ow151 : ip_own 151 = 0 := by decide +kernel
theorem mL151 : ip_mL 151 = 1 := by decide +kernel
theorem rt151 : ip_ret 151 = some (.object "RemandTree$Node") := by decide +kernel
theorem hh151 : ip_hnd 151 = [] := by decide +kernel
theorem ow152 : ip_own 152 = 3 := by decide +kernel
theorem mL152 : ip_mL 152 = 5 := by decide +kernel
theorem rt152 : ip_ret 152 = none := by decide +kernel
theorem hh152 : ip_hnd 152 = [] := by decide +kernel
theorem ow153 : ip_own 153 = 9 := by decide +kernel
theorem mL153 : ip_mL 153 = 4 := by decide +kernel
theorem rt153 : ip_ret 153 = some .int := by decide +kernel
theorem ow154 : ip_own 154 = 7 := by decide +kernel
theorem mL154 : ip_mL 154 = 2 := by decide +kernel
theorem rt154 : ip_ret 154 = some .int := by decide +kernel
theorem hh154 : ip_hnd 154 = [] := by decide +kernel
theorem ow155 : ip_own 155 = 0 := by decide +kernel
theorem mL155 : ip_mL 155 = 6 := by decide +kernel
theorem rt155 : ip_ret 155 = some .int := by decide +kernel
theorem hh155 : ip_hnd 155 = [] := by decide +kernel
theorem ow156 : ip_own 156 = 9 := by decide +kernel
theorem mL156 : ip_mL 156 = 5 := by decide +kernel
theorem rt156 : ip_ret 156 = some .int := by decide +kernel
theorem ow157 : ip_own 157 = 7 := by decide +kernel
theorem mL157 : ip_mL 157 = 4 := by decide +kernel
theorem rt157 : ip_ret 157 = some .int := by decide +kernel
theorem hh157 : ip_hnd 157 = [] := by decide +kernel
theorem ow158 : ip_own 158 = 9 := by decide +kernel
theorem mL158 : ip_mL 158 = 6 := by decide +kernel
theorem rt158 : ip_ret 158 = some .int := by decide +kernel
theorem ow159 : ip_own 159 = 7 := by decide +kernel
theorem mL159 : ip_mL 159 = 5 := by decide +kernel
theorem rt159 : ip_ret 159 = some .int := by decide +kernel
theorem hh159 : ip_hnd 159 = [] := by decide +kernel
theorem ow160 : ip_own 160 = 9 := by decide +kernel
theorem mL160 : ip_mL 160 = 6 := by decide +kernel
theorem rt160 : ip_ret 160 = some .int := by decide +kernel
theorem ow161 : ip_own 161 = 7 := by decide +kernel
theorem mL161 : ip_mL 161 = 8 := by decide +kernel
theorem rt161 : ip_ret 161 = some .int := by decide +kernel
theorem hh161 : ip_hnd 161 = [] := by decide +kernel
theorem ow162 : ip_own 162 = 9 := by decide +kernel
theorem mL162 : ip_mL 162 = 4 := by decide +kernel
theorem rt162 : ip_ret 162 = some .int := by decide +kernel
theorem ow163 : ip_own 163 = 7 := by decide +kernel
theorem mL163 : ip_mL 163 = 6 := by decide +kernel
theorem rt163 : ip_ret 163 = some .int := by decide +kernel
theorem hh163 : ip_hnd 163 = [] := by decide +kernel
theorem ow164 : ip_own 164 = 9 := by decide +kernel
theorem mL164 : ip_mL 164 = 4 := by decide +kernel
theorem rt164 : ip_ret 164 = some .int := by decide +kernel
theorem ow165 : ip_own 165 = 7 := by decide +kernel
theorem mL165 : ip_mL 165 = 4 := by decide +kernel
theorem rt165 : ip_ret 165 = some .int := by decide +kernel
theorem hh165 : ip_hnd 165 = [] := by decide +kernel
theorem ow166 : ip_own 166 = 2 := by decide +kernel
theorem mL166 : ip_mL 166 = 3 := by decide +kernel
theorem rt166 : ip_ret 166 = none := by decide +kernel
theorem hh166 : ip_hnd 166 = [] := by decide +kernel
theorem ow167 : ip_own 167 = 7 := by decide +kernel
theorem mL167 : ip_mL 167 = 1 := by decide +kernel
theorem rt167 : ip_ret 167 = some (.object "java/lang/String") := by decide +kernel
theorem hh167 : ip_hnd 167 = [] := by decide +kernel
theorem ow168 : ip_own 168 = 7 := by decide +kernel
theorem mL168 : ip_mL 168 = 4 := by decide +kernel
theorem rt168 : ip_ret 168 = none := by decide +kernel
theorem hh168 : ip_hnd 168 = [] := by decide +kernel
theorem ow169 : ip_own 169 = 9 := by decide +kernel
theorem mL169 : ip_mL 169 = 6 := by decide +kernel
theorem rt169 : ip_ret 169 = some .int := by decide +kernel
theorem ow170 : ip_own 170 = 7 := by decide +kernel
theorem mL170 : ip_mL 170 = 6 := by decide +kernel
theorem rt170 : ip_ret 170 = some .int := by decide +kernel
theorem hh170 : ip_hnd 170 = [] := by decide +kernel
theorem ow171 : ip_own 171 = 9 := by decide +kernel
theorem mL171 : ip_mL 171 = 5 := by decide +kernel
theorem rt171 : ip_ret 171 = some .int := by decide +kernel
theorem ow172 : ip_own 172 = 7 := by decide +kernel
theorem mL172 : ip_mL 172 = 5 := by decide +kernel
theorem rt172 : ip_ret 172 = some .int := by decide +kernel
theorem hh172 : ip_hnd 172 = [] := by decide +kernel
theorem ow173 : ip_own 173 = 9 := by decide +kernel
theorem mL173 : ip_mL 173 = 4 := by decide +kernel
theorem rt173 : ip_ret 173 = some .int := by decide +kernel
theorem ow174 : ip_own 174 = 7 := by decide +kernel
theorem mL174 : ip_mL 174 = 6 := by decide +kernel
theorem rt174 : ip_ret 174 = some .int := by decide +kernel
theorem hh174 : ip_hnd 174 = [] := by decide +kernel
theorem ow175 : ip_own 175 = 9 := by decide +kernel
theorem mL175 : ip_mL 175 = 5 := by decide +kernel
theorem rt175 : ip_ret 175 = some .int := by decide +kernel
theorem ow176 : ip_own 176 = 7 := by decide +kernel
theorem mL176 : ip_mL 176 = 4 := by decide +kernel
theorem rt176 : ip_ret 176 = some .int := by decide +kernel
theorem hh176 : ip_hnd 176 = [] := by decide +kernel
theorem ow177 : ip_own 177 = 7 := by decide +kernel
theorem mL177 : ip_mL 177 = 5 := by decide +kernel
theorem rt177 : ip_ret 177 = some .int := by decide +kernel
theorem hh177 : ip_hnd 177 = [] := by decide +kernel
theorem ow178 : ip_own 178 = 7 := by decide +kernel
theorem mL178 : ip_mL 178 = 5 := by decide +kernel
theorem rt178 : ip_ret 178 = some .int := by decide +kernel
theorem hh178 : ip_hnd 178 = [] := by decide +kernel
theorem ow179 : ip_own 179 = 9 := by decide +kernel
theorem mL179 : ip_mL 179 = 5 := by decide +kernel
theorem rt179 : ip_ret 179 = some .int := by decide +kernel
theorem ow180 : ip_own 180 = 7 := by decide +kernel
theorem mL180 : ip_mL 180 = 7 := by decide +kernel
theorem rt180 : ip_ret 180 = some .int := by decide +kernel
theorem hh180 : ip_hnd 180 = [] := by decide +kernel
theorem ow181 : ip_own 181 = 9 := by decide +kernel
theorem mL181 : ip_mL 181 = 5 := by decide +kernel
theorem rt181 : ip_ret 181 = some .int := by decide +kernel
theorem ow182 : ip_own 182 = 7 := by decide +kernel
theorem mL182 : ip_mL 182 = 5 := by decide +kernel
theorem rt182 : ip_ret 182 = some .int := by decide +kernel
theorem hh182 : ip_hnd 182 = [] := by decide +kernel
theorem ow183 : ip_own 183 = 8 := by decide +kernel
theorem mL183 : ip_mL 183 = 1 := by decide +kernel
theorem rt183 : ip_ret 183 = none := by decide +kernel
theorem hh183 : ip_hnd 183 = [] := by decide +kernel
theorem ow184 : ip_own 184 = 8 := by decide +kernel
theorem mL184 : ip_mL 184 = 2 := by decide +kernel
theorem rt184 : ip_ret 184 = none := by decide +kernel
theorem hh184 : ip_hnd 184 = [] := by decide +kernel
theorem ow185 : ip_own 185 = 8 := by decide +kernel
theorem mL185 : ip_mL 185 = 6 := by decide +kernel
theorem rt185 : ip_ret 185 = some .boolean := by decide +kernel
theorem hh185 : ip_hnd 185 = [] := by decide +kernel
theorem ow186 : ip_own 186 = 8 := by decide +kernel
theorem mL186 : ip_mL 186 = 2 := by decide +kernel
theorem rt186 : ip_ret 186 = some .boolean := by decide +kernel
theorem hh186 : ip_hnd 186 = [] := by decide +kernel
theorem ow187 : ip_own 187 = 8 := by decide +kernel
theorem mL187 : ip_mL 187 = 1 := by decide +kernel
theorem rt187 : ip_ret 187 = some .int := by decide +kernel
theorem hh187 : ip_hnd 187 = [] := by decide +kernel
theorem ow188 : ip_own 188 = 8 := by decide +kernel
theorem mL188 : ip_mL 188 = 3 := by decide +kernel
theorem rt188 : ip_ret 188 = none := by decide +kernel
theorem hh188 : ip_hnd 188 = [] := by decide +kernel
theorem ow189 : ip_own 189 = 8 := by decide +kernel
theorem mL189 : ip_mL 189 = 1 := by decide +kernel
theorem rt189 : ip_ret 189 = some .int := by decide +kernel
theorem hh189 : ip_hnd 189 = [] := by decide +kernel
theorem ow190 : ip_own 190 = 8 := by decide +kernel
theorem mL190 : ip_mL 190 = 8 := by decide +kernel
theorem rt190 : ip_ret 190 = some .int := by decide +kernel
theorem hh190 : ip_hnd 190 = [] := by decide +kernel
theorem ow191 : ip_own 191 = 8 := by decide +kernel
theorem mL191 : ip_mL 191 = 2 := by decide +kernel
theorem rt191 : ip_ret 191 = some .boolean := by decide +kernel
theorem hh191 : ip_hnd 191 = [] := by decide +kernel
theorem ow192 : ip_own 192 = 8 := by decide +kernel
theorem mL192 : ip_mL 192 = 2 := by decide +kernel
theorem rt192 : ip_ret 192 = some .int := by decide +kernel
theorem hh192 : ip_hnd 192 = [] := by decide +kernel
theorem ow193 : ip_own 193 = 8 := by decide +kernel
theorem mL193 : ip_mL 193 = 1 := by decide +kernel
theorem rt193 : ip_ret 193 = some .int := by decide +kernel
theorem hh193 : ip_hnd 193 = [] := by decide +kernel
theorem ow194 : ip_own 194 = 8 := by decide +kernel
theorem mL194 : ip_mL 194 = 3 := by decide +kernel
theorem rt194 : ip_ret 194 = some .boolean := by decide +kernel
theorem hh194 : ip_hnd 194 = [] := by decide +kernel
theorem ow195 : ip_own 195 = 8 := by decide +kernel
theorem mL195 : ip_mL 195 = 3 := by decide +kernel
theorem rt195 : ip_ret 195 = some .int := by decide +kernel
theorem hh195 : ip_hnd 195 = [] := by decide +kernel
theorem ow196 : ip_own 196 = 8 := by decide +kernel
theorem mL196 : ip_mL 196 = 4 := by decide +kernel
theorem rt196 : ip_ret 196 = none := by decide +kernel
theorem hh196 : ip_hnd 196 = [] := by decide +kernel
theorem ow197 : ip_own 197 = 8 := by decide +kernel
theorem mL197 : ip_mL 197 = 1 := by decide +kernel
theorem rt197 : ip_ret 197 = none := by decide +kernel
theorem hh197 : ip_hnd 197 = [] := by decide +kernel
theorem ow198 : ip_own 198 = 8 := by decide +kernel
theorem mL198 : ip_mL 198 = 2 := by decide +kernel
theorem rt198 : ip_ret 198 = some .boolean := by decide +kernel
theorem hh198 : ip_hnd 198 = [] := by decide +kernel
theorem ow199 : ip_own 199 = 8 := by decide +kernel
theorem mL199 : ip_mL 199 = 1 := by decide +kernel
theorem rt199 : ip_ret 199 = some .boolean := by decide +kernel
theorem hh199 : ip_hnd 199 = [] := by decide +kernel
theorem ow200 : ip_own 200 = 8 := by decide +kernel
theorem mL200 : ip_mL 200 = 4 := by decide +kernel
theorem rt200 : ip_ret 200 = some .int := by decide +kernel
theorem hh200 : ip_hnd 200 = [] := by decide +kernel
theorem ow201 : ip_own 201 = 8 := by decide +kernel
theorem mL201 : ip_mL 201 = 5 := by decide +kernel
theorem rt201 : ip_ret 201 = some .long := by decide +kernel
theorem hh201 : ip_hnd 201 = [] := by decide +kernel
theorem ow202 : ip_own 202 = 8 := by decide +kernel
theorem mL202 : ip_mL 202 = 2 := by decide +kernel
theorem rt202 : ip_ret 202 = some .boolean := by decide +kernel
theorem hh202 : ip_hnd 202 = [] := by decide +kernel
theorem ow203 : ip_own 203 = 8 := by decide +kernel
theorem mL203 : ip_mL 203 = 3 := by decide +kernel
theorem rt203 : ip_ret 203 = none := by decide +kernel
theorem hh203 : ip_hnd 203 = [] := by decide +kernel
theorem ow204 : ip_own 204 = 8 := by decide +kernel
theorem mL204 : ip_mL 204 = 2 := by decide +kernel
theorem rt204 : ip_ret 204 = some .int := by decide +kernel
theorem hh204 : ip_hnd 204 = [] := by decide +kernel
theorem ow205 : ip_own 205 = 8 := by decide +kernel
theorem mL205 : ip_mL 205 = 2 := by decide +kernel
theorem rt205 : ip_ret 205 = some .boolean := by decide +kernel
theorem hh205 : ip_hnd 205 = [] := by decide +kernel
theorem ow206 : ip_own 206 = 8 := by decide +kernel
theorem mL206 : ip_mL 206 = 3 := by decide +kernel
theorem rt206 : ip_ret 206 = none := by decide +kernel
theorem hh206 : ip_hnd 206 = [] := by decide +kernel
theorem ow207 : ip_own 207 = 8 := by decide +kernel
theorem mL207 : ip_mL 207 = 3 := by decide +kernel
theorem rt207 : ip_ret 207 = none := by decide +kernel
theorem hh207 : ip_hnd 207 = [] := by decide +kernel
theorem ow208 : ip_own 208 = 8 := by decide +kernel
theorem mL208 : ip_mL 208 = 3 := by decide +kernel
theorem rt208 : ip_ret 208 = some .boolean := by decide +kernel
theorem hh208 : ip_hnd 208 = [] := by decide +kernel
theorem ow209 : ip_own 209 = 8 := by decide +kernel
theorem mL209 : ip_mL 209 = 1 := by decide +kernel
theorem rt209 : ip_ret 209 = none := by decide +kernel
theorem hh209 : ip_hnd 209 = [] := by decide +kernel
theorem ow210 : ip_own 210 = 8 := by decide +kernel
theorem mL210 : ip_mL 210 = 4 := by decide +kernel
theorem rt210 : ip_ret 210 = none := by decide +kernel
theorem hh210 : ip_hnd 210 = [] := by decide +kernel
theorem ow211 : ip_own 211 = 8 := by decide +kernel
theorem mL211 : ip_mL 211 = 1 := by decide +kernel
theorem rt211 : ip_ret 211 = none := by decide +kernel
theorem hh211 : ip_hnd 211 = [] := by decide +kernel
theorem ow212 : ip_own 212 = 8 := by decide +kernel
theorem mL212 : ip_mL 212 = 2 := by decide +kernel
theorem rt212 : ip_ret 212 = none := by decide +kernel
theorem hh212 : ip_hnd 212 = [] := by decide +kernel
theorem ow213 : ip_own 213 = 8 := by decide +kernel
theorem mL213 : ip_mL 213 = 2 := by decide +kernel
theorem rt213 : ip_ret 213 = none := by decide +kernel
theorem hh213 : ip_hnd 213 = [] := by decide +kernel
theorem ow214 : ip_own 214 = 8 := by decide +kernel
theorem mL214 : ip_mL 214 = 1 := by decide +kernel
theorem rt214 : ip_ret 214 = some .int := by decide +kernel
theorem hh214 : ip_hnd 214 = [] := by decide +kernel
theorem ow215 : ip_own 215 = 8 := by decide +kernel
theorem mL215 : ip_mL 215 = 3 := by decide +kernel
theorem rt215 : ip_ret 215 = some .int := by decide +kernel
theorem hh215 : ip_hnd 215 = [] := by decide +kernel
theorem ow216 : ip_own 216 = 8 := by decide +kernel
theorem mL216 : ip_mL 216 = 2 := by decide +kernel
theorem rt216 : ip_ret 216 = some .boolean := by decide +kernel
theorem hh216 : ip_hnd 216 = [] := by decide +kernel
theorem ow217 : ip_own 217 = 8 := by decide +kernel
theorem mL217 : ip_mL 217 = 3 := by decide +kernel
theorem rt217 : ip_ret 217 = some .boolean := by decide +kernel
theorem hh217 : ip_hnd 217 = [] := by decide +kernel
theorem ow218 : ip_own 218 = 8 := by decide +kernel
theorem mL218 : ip_mL 218 = 4 := by decide +kernel
theorem rt218 : ip_ret 218 = some .int := by decide +kernel
theorem hh218 : ip_hnd 218 = [] := by decide +kernel
theorem ow219 : ip_own 219 = 8 := by decide +kernel
theorem mL219 : ip_mL 219 = 3 := by decide +kernel
theorem rt219 : ip_ret 219 = some .int := by decide +kernel
theorem hh219 : ip_hnd 219 = [] := by decide +kernel
theorem ow220 : ip_own 220 = 8 := by decide +kernel
theorem mL220 : ip_mL 220 = 5 := by decide +kernel
theorem rt220 : ip_ret 220 = some .int := by decide +kernel
theorem hh220 : ip_hnd 220 = [] := by decide +kernel
theorem ow221 : ip_own 221 = 8 := by decide +kernel
theorem mL221 : ip_mL 221 = 6 := by decide +kernel
theorem rt221 : ip_ret 221 = some .int := by decide +kernel
theorem hh221 : ip_hnd 221 = [] := by decide +kernel
theorem ow222 : ip_own 222 = 8 := by decide +kernel
theorem mL222 : ip_mL 222 = 3 := by decide +kernel
theorem rt222 : ip_ret 222 = some .int := by decide +kernel
theorem hh222 : ip_hnd 222 = [] := by decide +kernel
theorem ow223 : ip_own 223 = 8 := by decide +kernel
theorem mL223 : ip_mL 223 = 5 := by decide +kernel
theorem rt223 : ip_ret 223 = some .int := by decide +kernel
theorem hh223 : ip_hnd 223 = [] := by decide +kernel
theorem ow224 : ip_own 224 = 8 := by decide +kernel
theorem mL224 : ip_mL 224 = 5 := by decide +kernel
theorem rt224 : ip_ret 224 = some .int := by decide +kernel
theorem hh224 : ip_hnd 224 = [] := by decide +kernel
theorem ow225 : ip_own 225 = 8 := by decide +kernel
theorem mL225 : ip_mL 225 = 1 := by decide +kernel
theorem rt225 : ip_ret 225 = some .boolean := by decide +kernel
theorem hh225 : ip_hnd 225 = [] := by decide +kernel
theorem ow226 : ip_own 226 = 8 := by decide +kernel
theorem mL226 : ip_mL 226 = 3 := by decide +kernel
theorem rt226 : ip_ret 226 = some .int := by decide +kernel
theorem hh226 : ip_hnd 226 = [] := by decide +kernel
theorem ow227 : ip_own 227 = 8 := by decide +kernel
theorem mL227 : ip_mL 227 = 4 := by decide +kernel
theorem rt227 : ip_ret 227 = some .boolean := by decide +kernel
theorem hh227 : ip_hnd 227 = [] := by decide +kernel
theorem ow228 : ip_own 228 = 8 := by decide +kernel
theorem mL228 : ip_mL 228 = 4 := by decide +kernel
theorem rt228 : ip_ret 228 = some .boolean := by decide +kernel
theorem hh228 : ip_hnd 228 = [] := by decide +kernel
theorem ow229 : ip_own 229 = 8 := by decide +kernel
theorem mL229 : ip_mL 229 = 3 := by decide +kernel
theorem rt229 : ip_ret 229 = some .boolean := by decide +kernel
theorem hh229 : ip_hnd 229 = [] := by decide +kernel
theorem ow230 : ip_own 230 = 8 := by decide +kernel
theorem mL230 : ip_mL 230 = 7 := by decide +kernel
theorem rt230 : ip_ret 230 = some .int := by decide +kernel
theorem hh230 : ip_hnd 230 = [] := by decide +kernel
theorem ow231 : ip_own 231 = 8 := by decide +kernel
theorem mL231 : ip_mL 231 = 2 := by decide +kernel
theorem rt231 : ip_ret 231 = some .boolean := by decide +kernel
theorem hh231 : ip_hnd 231 = [] := by decide +kernel
theorem ow232 : ip_own 232 = 8 := by decide +kernel
theorem mL232 : ip_mL 232 = 1 := by decide +kernel
theorem rt232 : ip_ret 232 = some .boolean := by decide +kernel
theorem hh232 : ip_hnd 232 = [] := by decide +kernel
theorem ow233 : ip_own 233 = 8 := by decide +kernel
theorem mL233 : ip_mL 233 = 2 := by decide +kernel
theorem rt233 : ip_ret 233 = some .int := by decide +kernel
theorem hh233 : ip_hnd 233 = [] := by decide +kernel
theorem ow234 : ip_own 234 = 8 := by decide +kernel
theorem mL234 : ip_mL 234 = 5 := by decide +kernel
theorem rt234 : ip_ret 234 = some .int := by decide +kernel
theorem hh234 : ip_hnd 234 = [] := by decide +kernel
theorem ow235 : ip_own 235 = 8 := by decide +kernel
theorem mL235 : ip_mL 235 = 5 := by decide +kernel
theorem rt235 : ip_ret 235 = some .int := by decide +kernel
theorem hh235 : ip_hnd 235 = [] := by decide +kernel
theorem ow236 : ip_own 236 = 8 := by decide +kernel
theorem mL236 : ip_mL 236 = 7 := by decide +kernel
theorem rt236 : ip_ret 236 = some .int := by decide +kernel
theorem hh236 : ip_hnd 236 = [] := by decide +kernel
theorem ow237 : ip_own 237 = 8 := by decide +kernel
theorem mL237 : ip_mL 237 = 6 := by decide +kernel
theorem rt237 : ip_ret 237 = some .int := by decide +kernel
theorem hh237 : ip_hnd 237 = [] := by decide +kernel
theorem ow238 : ip_own 238 = 8 := by decide +kernel
theorem mL238 : ip_mL 238 = 5 := by decide +kernel
theorem rt238 : ip_ret 238 = some .int := by decide +kernel
theorem hh238 : ip_hnd 238 = [] := by decide +kernel
theorem ow239 : ip_own 239 = 8 := by decide +kernel
theorem mL239 : ip_mL 239 = 4 := by decide +kernel
theorem rt239 : ip_ret 239 = none := by decide +kernel
theorem hh239 : ip_hnd 239 = [] := by decide +kernel
theorem ow240 : ip_own 240 = 8 := by decide +kernel
theorem mL240 : ip_mL 240 = 4 := by decide +kernel
theorem rt240 : ip_ret 240 = none := by decide +kernel
theorem hh240 : ip_hnd 240 = [] := by decide +kernel
theorem ow241 : ip_own 241 = 8 := by decide +kernel
theorem mL241 : ip_mL 241 = 4 := by decide +kernel
theorem rt241 : ip_ret 241 = some .int := by decide +kernel
theorem hh241 : ip_hnd 241 = [] := by decide +kernel
theorem ow242 : ip_own 242 = 8 := by decide +kernel
theorem mL242 : ip_mL 242 = 2 := by decide +kernel
theorem rt242 : ip_ret 242 = some .int := by decide +kernel
theorem hh242 : ip_hnd 242 = [] := by decide +kernel
theorem ow243 : ip_own 243 = 8 := by decide +kernel
theorem mL243 : ip_mL 243 = 3 := by decide +kernel
theorem rt243 : ip_ret 243 = some .int := by decide +kernel
theorem hh243 : ip_hnd 243 = [] := by decide +kernel
theorem ow244 : ip_own 244 = 8 := by decide +kernel
theorem mL244 : ip_mL 244 = 2 := by decide +kernel
theorem rt244 : ip_ret 244 = some .boolean := by decide +kernel
theorem hh244 : ip_hnd 244 = [] := by decide +kernel
theorem ow245 : ip_own 245 = 8 := by decide +kernel
theorem mL245 : ip_mL 245 = 6 := by decide +kernel
theorem rt245 : ip_ret 245 = some .int := by decide +kernel
theorem hh245 : ip_hnd 245 = [] := by decide +kernel
theorem ow246 : ip_own 246 = 8 := by decide +kernel
theorem mL246 : ip_mL 246 = 2 := by decide +kernel
theorem rt246 : ip_ret 246 = some .int := by decide +kernel
theorem hh246 : ip_hnd 246 = [] := by decide +kernel
theorem ow247 : ip_own 247 = 8 := by decide +kernel
theorem mL247 : ip_mL 247 = 4 := by decide +kernel
theorem rt247 : ip_ret 247 = some .int := by decide +kernel
theorem hh247 : ip_hnd 247 = [] := by decide +kernel
theorem ow248 : ip_own 248 = 8 := by decide +kernel
theorem mL248 : ip_mL 248 = 7 := by decide +kernel
theorem rt248 : ip_ret 248 = some .int := by decide +kernel
theorem hh248 : ip_hnd 248 = [] := by decide +kernel
theorem ow249 : ip_own 249 = 8 := by decide +kernel
theorem mL249 : ip_mL 249 = 4 := by decide +kernel
theorem rt249 : ip_ret 249 = some .int := by decide +kernel
theorem hh249 : ip_hnd 249 = [] := by decide +kernel
theorem ow250 : ip_own 250 = 8 := by decide +kernel
theorem mL250 : ip_mL 250 = 1 := by decide +kernel
theorem rt250 : ip_ret 250 = some .int := by decide +kernel
theorem hh250 : ip_hnd 250 = [] := by decide +kernel
theorem ow251 : ip_own 251 = 8 := by decide +kernel
theorem mL251 : ip_mL 251 = 3 := by decide +kernel
theorem rt251 : ip_ret 251 = some .int := by decide +kernel
theorem hh251 : ip_hnd 251 = [] := by decide +kernel
theorem ow252 : ip_own 252 = 8 := by decide +kernel
theorem mL252 : ip_mL 252 = 4 := by decide +kernel
theorem rt252 : ip_ret 252 = some .int := by decide +kernel
theorem hh252 : ip_hnd 252 = [] := by decide +kernel
theorem ow253 : ip_own 253 = 8 := by decide +kernel
theorem mL253 : ip_mL 253 = 14 := by decide +kernel
theorem rt253 : ip_ret 253 = some .int := by decide +kernel
theorem hh253 : ip_hnd 253 = [] := by decide +kernel
theorem ow254 : ip_own 254 = 8 := by decide +kernel
theorem mL254 : ip_mL 254 = 4 := by decide +kernel
theorem rt254 : ip_ret 254 = some .int := by decide +kernel
theorem hh254 : ip_hnd 254 = [] := by decide +kernel
theorem ow255 : ip_own 255 = 8 := by decide +kernel
theorem mL255 : ip_mL 255 = 9 := by decide +kernel
theorem rt255 : ip_ret 255 = some .int := by decide +kernel
theorem hh255 : ip_hnd 255 = [] := by decide +kernel
theorem ow256 : ip_own 256 = 8 := by decide +kernel
theorem mL256 : ip_mL 256 = 6 := by decide +kernel
theorem rt256 : ip_ret 256 = none := by decide +kernel
theorem hh256 : ip_hnd 256 = [] := by decide +kernel
theorem ow257 : ip_own 257 = 8 := by decide +kernel
theorem mL257 : ip_mL 257 = 2 := by decide +kernel
theorem rt257 : ip_ret 257 = some .int := by decide +kernel
theorem hh257 : ip_hnd 257 = [] := by decide +kernel
theorem ow258 : ip_own 258 = 8 := by decide +kernel
theorem mL258 : ip_mL 258 = 8 := by decide +kernel
theorem rt258 : ip_ret 258 = some .int := by decide +kernel
theorem hh258 : ip_hnd 258 = [] := by decide +kernel
theorem ow259 : ip_own 259 = 8 := by decide +kernel
theorem mL259 : ip_mL 259 = 4 := by decide +kernel
theorem rt259 : ip_ret 259 = some .int := by decide +kernel
theorem hh259 : ip_hnd 259 = [] := by decide +kernel
theorem ow260 : ip_own 260 = 8 := by decide +kernel
theorem mL260 : ip_mL 260 = 3 := by decide +kernel
theorem rt260 : ip_ret 260 = some .int := by decide +kernel
theorem hh260 : ip_hnd 260 = [] := by decide +kernel
theorem ow261 : ip_own 261 = 8 := by decide +kernel
theorem mL261 : ip_mL 261 = 4 := by decide +kernel
theorem rt261 : ip_ret 261 = some .int := by decide +kernel
theorem hh261 : ip_hnd 261 = [] := by decide +kernel
theorem ow262 : ip_own 262 = 8 := by decide +kernel
theorem mL262 : ip_mL 262 = 4 := by decide +kernel
theorem rt262 : ip_ret 262 = some .int := by decide +kernel
theorem hh262 : ip_hnd 262 = [] := by decide +kernel
theorem ow263 : ip_own 263 = 8 := by decide +kernel
theorem mL263 : ip_mL 263 = 5 := by decide +kernel
theorem rt263 : ip_ret 263 = some .int := by decide +kernel
theorem hh263 : ip_hnd 263 = [] := by decide +kernel
theorem ow264 : ip_own 264 = 8 := by decide +kernel
theorem mL264 : ip_mL 264 = 4 := by decide +kernel
theorem rt264 : ip_ret 264 = some .int := by decide +kernel
theorem hh264 : ip_hnd 264 = [] := by decide +kernel
theorem ow265 : ip_own 265 = 8 := by decide +kernel
theorem mL265 : ip_mL 265 = 3 := by decide +kernel
theorem rt265 : ip_ret 265 = some .int := by decide +kernel
theorem hh265 : ip_hnd 265 = [] := by decide +kernel
theorem ow266 : ip_own 266 = 8 := by decide +kernel
theorem mL266 : ip_mL 266 = 4 := by decide +kernel
theorem rt266 : ip_ret 266 = some .int := by decide +kernel
theorem hh266 : ip_hnd 266 = [] := by decide +kernel
theorem ow267 : ip_own 267 = 8 := by decide +kernel
theorem mL267 : ip_mL 267 = 5 := by decide +kernel
theorem rt267 : ip_ret 267 = some .int := by decide +kernel
theorem hh267 : ip_hnd 267 = [] := by decide +kernel
theorem ow268 : ip_own 268 = 8 := by decide +kernel
theorem mL268 : ip_mL 268 = 6 := by decide +kernel
theorem rt268 : ip_ret 268 = some .int := by decide +kernel
theorem hh268 : ip_hnd 268 = [] := by decide +kernel
theorem ow269 : ip_own 269 = 8 := by decide +kernel
theorem mL269 : ip_mL 269 = 4 := by decide +kernel
theorem rt269 : ip_ret 269 = some .int := by decide +kernel
theorem hh269 : ip_hnd 269 = [] := by decide +kernel
theorem ow270 : ip_own 270 = 8 := by decide +kernel
theorem mL270 : ip_mL 270 = 7 := by decide +kernel
theorem rt270 : ip_ret 270 = some .int := by decide +kernel
theorem hh270 : ip_hnd 270 = [] := by decide +kernel
theorem ow271 : ip_own 271 = 8 := by decide +kernel
theorem mL271 : ip_mL 271 = 5 := by decide +kernel
theorem rt271 : ip_ret 271 = some .int := by decide +kernel
theorem hh271 : ip_hnd 271 = [] := by decide +kernel
theorem ow272 : ip_own 272 = 8 := by decide +kernel
theorem mL272 : ip_mL 272 = 4 := by decide +kernel
theorem rt272 : ip_ret 272 = some .int := by decide +kernel
theorem hh272 : ip_hnd 272 = [] := by decide +kernel
theorem ow273 : ip_own 273 = 8 := by decide +kernel
theorem mL273 : ip_mL 273 = 3 := by decide +kernel
theorem rt273 : ip_ret 273 = none := by decide +kernel
theorem hh273 : ip_hnd 273 = [] := by decide +kernel
theorem ow274 : ip_own 274 = 8 := by decide +kernel
theorem mL274 : ip_mL 274 = 2 := by decide +kernel
theorem rt274 : ip_ret 274 = none := by decide +kernel
theorem hh274 : ip_hnd 274 = [] := by decide +kernel
theorem ow275 : ip_own 275 = 8 := by decide +kernel
theorem mL275 : ip_mL 275 = 2 := by decide +kernel
theorem rt275 : ip_ret 275 = some .int := by decide +kernel
theorem hh275 : ip_hnd 275 = [] := by decide +kernel
theorem ow276 : ip_own 276 = 8 := by decide +kernel
theorem mL276 : ip_mL 276 = 7 := by decide +kernel
theorem rt276 : ip_ret 276 = some .int := by decide +kernel
theorem hh276 : ip_hnd 276 = [] := by decide +kernel
theorem ow277 : ip_own 277 = 8 := by decide +kernel
theorem mL277 : ip_mL 277 = 5 := by decide +kernel
theorem rt277 : ip_ret 277 = some .int := by decide +kernel
theorem hh277 : ip_hnd 277 = [] := by decide +kernel
theorem ow278 : ip_own 278 = 8 := by decide +kernel
theorem mL278 : ip_mL 278 = 2 := by decide +kernel
theorem rt278 : ip_ret 278 = none := by decide +kernel
theorem hh278 : ip_hnd 278 = [] := by decide +kernel
theorem ow279 : ip_own 279 = 8 := by decide +kernel
theorem mL279 : ip_mL 279 = 6 := by decide +kernel
theorem rt279 : ip_ret 279 = some .int := by decide +kernel
theorem hh279 : ip_hnd 279 = [] := by decide +kernel
theorem ow280 : ip_own 280 = 8 := by decide +kernel
theorem mL280 : ip_mL 280 = 4 := by decide +kernel
theorem rt280 : ip_ret 280 = some .int := by decide +kernel
theorem hh280 : ip_hnd 280 = [] := by decide +kernel
theorem ow281 : ip_own 281 = 8 := by decide +kernel
theorem mL281 : ip_mL 281 = 5 := by decide +kernel
theorem rt281 : ip_ret 281 = some .int := by decide +kernel
theorem hh281 : ip_hnd 281 = [] := by decide +kernel
theorem ow282 : ip_own 282 = 8 := by decide +kernel
theorem mL282 : ip_mL 282 = 5 := by decide +kernel
theorem rt282 : ip_ret 282 = some .int := by decide +kernel
theorem hh282 : ip_hnd 282 = [] := by decide +kernel
theorem ow283 : ip_own 283 = 8 := by decide +kernel
theorem mL283 : ip_mL 283 = 5 := by decide +kernel
theorem rt283 : ip_ret 283 = some .int := by decide +kernel
theorem hh283 : ip_hnd 283 = [] := by decide +kernel
theorem ow284 : ip_own 284 = 9 := by decide +kernel
theorem mL284 : ip_mL 284 = 7 := by decide +kernel
theorem rt284 : ip_ret 284 = some .boolean := by decide +kernel
theorem hh284 : ip_hnd 284 = [] := by decide +kernel
theorem f_0_12 : ip_fld 0 12 = some (0, 0) := by decide +kernel
theorem f_0_21 : ip_fld 0 21 = some (0, 1) := by decide +kernel
theorem f_0_25 : ip_fld 0 25 = some (0, 2) := by decide +kernel
theorem f_0_28 : ip_fld 0 28 = some (0, 3) := by decide +kernel
theorem f_0_32 : ip_fld 0 32 = some (0, 4) := by decide +kernel
theorem f_0_35 : ip_fld 0 35 = some (0, 5) := by decide +kernel
theorem f_0_38 : ip_fld 0 38 = some (0, 6) := by decide +kernel
theorem f_0_42 : ip_fld 0 42 = some (0, 7) := by decide +kernel
theorem f_0_45 : ip_fld 0 45 = some (0, 13) := by decide +kernel
theorem f_0_52 : ip_fld 0 52 = some (1, 4) := by decide +kernel
theorem f_0_55 : ip_fld 0 55 = some (1, 6) := by decide +kernel
theorem f_0_70 : ip_fld 0 70 = some (1, 0) := by decide +kernel
theorem f_0_71 : ip_fld 0 71 = some (1, 3) := by decide +kernel
theorem f_0_74 : ip_fld 0 74 = some (1, 2) := by decide +kernel
theorem f_0_77 : ip_fld 0 77 = some (6, 6) := by decide +kernel
theorem f_0_83 : ip_fld 0 83 = some (1, 14) := by decide +kernel
theorem f_0_86 : ip_fld 0 86 = some (6, 4) := by decide +kernel
theorem f_0_89 : ip_fld 0 89 = some (6, 1) := by decide +kernel
theorem f_0_98 : ip_fld 0 98 = some (1, 7) := by decide +kernel
theorem f_0_101 : ip_fld 0 101 = some (1, 8) := by decide +kernel
theorem f_0_110 : ip_fld 0 110 = some (1, 10) := by decide +kernel
theorem f_0_113 : ip_fld 0 113 = some (6, 3) := by decide +kernel
theorem f_0_132 : ip_fld 0 132 = some (0, 8) := by decide +kernel
theorem f_0_133 : ip_fld 0 133 = some (0, 9) := by decide +kernel
theorem f_0_136 : ip_fld 0 136 = some (0, 10) := by decide +kernel
theorem f_0_139 : ip_fld 0 139 = some (0, 12) := by decide +kernel
theorem f_0_140 : ip_fld 0 140 = some (0, 11) := by decide +kernel
theorem f_0_145 : ip_fld 0 145 = some (1, 1) := by decide +kernel
theorem f_0_148 : ip_fld 0 148 = some (1, 9) := by decide +kernel
theorem f_1_9 : ip_fld 1 9 = some (1, 12) := by decide +kernel
theorem f_1_15 : ip_fld 1 15 = some (1, 13) := by decide +kernel
theorem f_1_18 : ip_fld 1 18 = some (1, 14) := by decide +kernel
theorem f_1_21 : ip_fld 1 21 = some (1, 15) := by decide +kernel
theorem f_1_28 : ip_fld 1 28 = some (1, 4) := by decide +kernel
theorem f_1_32 : ip_fld 1 32 = some (1, 5) := by decide +kernel
theorem f_1_35 : ip_fld 1 35 = some (1, 6) := by decide +kernel
theorem f_1_38 : ip_fld 1 38 = some (1, 7) := by decide +kernel
theorem f_1_41 : ip_fld 1 41 = some (1, 8) := by decide +kernel
theorem f_1_44 : ip_fld 1 44 = some (1, 11) := by decide +kernel
theorem f_1_51 : ip_fld 1 51 = some (1, 0) := by decide +kernel
theorem f_1_54 : ip_fld 1 54 = some (1, 1) := by decide +kernel
theorem f_1_57 : ip_fld 1 57 = some (1, 2) := by decide +kernel
theorem f_1_60 : ip_fld 1 60 = some (1, 3) := by decide +kernel
theorem f_1_63 : ip_fld 1 63 = some (1, 9) := by decide +kernel
theorem f_1_66 : ip_fld 1 66 = some (1, 10) := by decide +kernel
theorem f_2_9 : ip_fld 2 9 = some (2, 0) := by decide +kernel
theorem f_2_13 : ip_fld 2 13 = some (2, 1) := by decide +kernel
theorem f_3_12 : ip_fld 3 12 = some (3, 0) := by decide +kernel
theorem f_3_21 : ip_fld 3 21 = some (3, 1) := by decide +kernel
theorem f_3_25 : ip_fld 3 25 = some (3, 2) := by decide +kernel
theorem f_3_33 : ip_fld 3 33 = some (3, 6) := by decide +kernel
theorem f_3_56 : ip_fld 3 56 = some (3, 8) := by decide +kernel
theorem f_3_62 : ip_fld 3 62 = some (3, 4) := by decide +kernel
theorem f_3_69 : ip_fld 3 69 = some (3, 7) := by decide +kernel
theorem f_3_72 : ip_fld 3 72 = some (3, 5) := by decide +kernel
theorem f_3_75 : ip_fld 3 75 = some (3, 3) := by decide +kernel
theorem f_4_12 : ip_fld 4 12 = some (4, 0) := by decide +kernel
theorem f_4_18 : ip_fld 4 18 = some (4, 1) := by decide +kernel
theorem f_4_25 : ip_fld 4 25 = some (4, 2) := by decide +kernel
theorem f_4_35 : ip_fld 4 35 = some (4, 3) := by decide +kernel
theorem f_4_39 : ip_fld 4 39 = some (4, 4) := by decide +kernel
theorem f_4_51 : ip_fld 4 51 = some (4, 6) := by decide +kernel
theorem f_4_54 : ip_fld 4 54 = some (6, 6) := by decide +kernel
theorem f_4_64 : ip_fld 4 64 = some (6, 8) := by decide +kernel
theorem f_4_71 : ip_fld 4 71 = some (4, 5) := by decide +kernel
theorem f_4_92 : ip_fld 4 92 = some (6, 0) := by decide +kernel
theorem f_4_95 : ip_fld 4 95 = some (6, 4) := by decide +kernel
theorem f_4_101 : ip_fld 4 101 = some (6, 5) := by decide +kernel
theorem f_4_134 : ip_fld 4 134 = some (6, 7) := by decide +kernel
theorem f_5_9 : ip_fld 5 9 = some (5, 0) := by decide +kernel
theorem f_5_13 : ip_fld 5 13 = some (5, 1) := by decide +kernel
theorem f_5_16 : ip_fld 5 16 = some (5, 2) := by decide +kernel
theorem f_6_9 : ip_fld 6 9 = some (6, 0) := by decide +kernel
theorem f_6_15 : ip_fld 6 15 = some (6, 1) := by decide +kernel
theorem f_6_18 : ip_fld 6 18 = some (6, 2) := by decide +kernel
theorem f_6_21 : ip_fld 6 21 = some (6, 3) := by decide +kernel
theorem f_6_24 : ip_fld 6 24 = some (6, 4) := by decide +kernel
theorem f_6_29 : ip_fld 6 29 = some (6, 5) := by decide +kernel
theorem f_6_36 : ip_fld 6 36 = some (6, 6) := by decide +kernel
theorem f_6_40 : ip_fld 6 40 = some (6, 7) := by decide +kernel
theorem f_6_43 : ip_fld 6 43 = some (6, 8) := by decide +kernel
theorem f_7_9 : ip_fld 7 9 = some (7, 0) := by decide +kernel
theorem f_7_13 : ip_fld 7 13 = some (7, 1) := by decide +kernel
theorem f_7_17 : ip_fld 7 17 = some (7, 2) := by decide +kernel
theorem f_7_23 : ip_fld 7 23 = some (7, 3) := by decide +kernel
theorem f_7_30 : ip_fld 7 30 = some (7, 4) := by decide +kernel
theorem f_7_36 : ip_fld 7 36 = some (7, 5) := by decide +kernel
theorem f_7_40 : ip_fld 7 40 = some (7, 6) := by decide +kernel
theorem f_7_43 : ip_fld 7 43 = some (7, 7) := by decide +kernel
theorem f_7_49 : ip_fld 7 49 = some (7, 8) := by decide +kernel
theorem f_7_56 : ip_fld 7 56 = some (7, 9) := by decide +kernel
theorem f_7_63 : ip_fld 7 63 = some (7, 10) := by decide +kernel
theorem f_7_97 : ip_fld 7 97 = some (6, 6) := by decide +kernel
theorem f_7_103 : ip_fld 7 103 = some (6, 1) := by decide +kernel
theorem f_7_106 : ip_fld 7 106 = some (6, 2) := by decide +kernel
theorem f_7_109 : ip_fld 7 109 = some (6, 3) := by decide +kernel
theorem f_7_125 : ip_fld 7 125 = some (6, 4) := by decide +kernel
theorem f_7_138 : ip_fld 7 138 = some (1, 0) := by decide +kernel
theorem f_7_141 : ip_fld 7 141 = some (1, 3) := by decide +kernel
theorem f_7_144 : ip_fld 7 144 = some (1, 6) := by decide +kernel
theorem f_7_174 : ip_fld 7 174 = some (1, 7) := by decide +kernel
theorem f_7_179 : ip_fld 7 179 = some (1, 8) := by decide +kernel
theorem f_7_201 : ip_fld 7 201 = some (1, 2) := by decide +kernel
theorem f_7_213 : ip_fld 7 213 = some (0, 8) := by decide +kernel
theorem f_7_214 : ip_fld 7 214 = some (0, 10) := by decide +kernel
theorem f_7_217 : ip_fld 7 217 = some (0, 9) := by decide +kernel
theorem f_7_220 : ip_fld 7 220 = some (0, 11) := by decide +kernel
theorem f_7_223 : ip_fld 7 223 = some (0, 12) := by decide +kernel
theorem f_7_239 : ip_fld 7 239 = some (0, 7) := by decide +kernel
theorem f_7_242 : ip_fld 7 242 = some (0, 6) := by decide +kernel
theorem f_7_252 : ip_fld 7 252 = some (3, 4) := by decide +kernel
theorem f_7_255 : ip_fld 7 255 = some (3, 3) := by decide +kernel
theorem f_7_256 : ip_fld 7 256 = some (3, 5) := by decide +kernel
theorem f_7_265 : ip_fld 7 265 = some (1, 4) := by decide +kernel
theorem f_7_279 : ip_fld 7 279 = some (1, 1) := by decide +kernel
theorem f_7_282 : ip_fld 7 282 = some (1, 9) := by decide +kernel
theorem f_7_285 : ip_fld 7 285 = some (1, 10) := by decide +kernel
theorem f_7_292 : ip_fld 7 292 = some (1, 11) := by decide +kernel
theorem f_7_298 : ip_fld 7 298 = some (1, 14) := by decide +kernel
theorem f_7_301 : ip_fld 7 301 = some (1, 15) := by decide +kernel
theorem f_7_332 : ip_fld 7 332 = some (2, 1) := by decide +kernel
theorem f_7_346 : ip_fld 7 346 = some (2, 0) := by decide +kernel
theorem f_7_354 : ip_fld 7 354 = some (1, 5) := by decide +kernel
theorem f_7_384 : ip_fld 7 384 = some (6, 7) := by decide +kernel
theorem f_8_7 : ip_fld 8 7 = some (8, 1) := by decide +kernel
theorem f_8_13 : ip_fld 8 13 = some (8, 5) := by decide +kernel
theorem f_8_17 : ip_fld 8 17 = some (8, 10) := by decide +kernel
theorem f_8_21 : ip_fld 8 21 = some (8, 11) := by decide +kernel
theorem f_8_24 : ip_fld 8 24 = some (8, 12) := by decide +kernel
theorem f_8_27 : ip_fld 8 27 = some (8, 13) := by decide +kernel
theorem f_8_30 : ip_fld 8 30 = some (8, 14) := by decide +kernel
theorem f_8_33 : ip_fld 8 33 = some (8, 15) := by decide +kernel
theorem f_8_36 : ip_fld 8 36 = some (8, 16) := by decide +kernel
theorem f_8_39 : ip_fld 8 39 = some (8, 20) := by decide +kernel
theorem f_8_42 : ip_fld 8 42 = some (8, 21) := by decide +kernel
theorem f_8_45 : ip_fld 8 45 = some (8, 22) := by decide +kernel
theorem f_8_48 : ip_fld 8 48 = some (8, 23) := by decide +kernel
theorem f_8_51 : ip_fld 8 51 = some (8, 24) := by decide +kernel
theorem f_8_54 : ip_fld 8 54 = some (8, 25) := by decide +kernel
theorem f_8_57 : ip_fld 8 57 = some (8, 26) := by decide +kernel
theorem f_8_60 : ip_fld 8 60 = some (8, 27) := by decide +kernel
theorem f_8_63 : ip_fld 8 63 = some (8, 28) := by decide +kernel
theorem f_8_66 : ip_fld 8 66 = some (8, 29) := by decide +kernel
theorem f_8_69 : ip_fld 8 69 = some (8, 30) := by decide +kernel
theorem f_8_72 : ip_fld 8 72 = some (8, 31) := by decide +kernel
theorem f_8_76 : ip_fld 8 76 = some (8, 32) := by decide +kernel
theorem f_8_79 : ip_fld 8 79 = some (8, 35) := by decide +kernel
theorem f_8_82 : ip_fld 8 82 = some (8, 36) := by decide +kernel
theorem f_8_85 : ip_fld 8 85 = some (8, 39) := by decide +kernel
theorem f_8_88 : ip_fld 8 88 = some (8, 40) := by decide +kernel
theorem f_8_91 : ip_fld 8 91 = some (8, 41) := by decide +kernel
theorem f_8_94 : ip_fld 8 94 = some (8, 42) := by decide +kernel
theorem f_8_97 : ip_fld 8 97 = some (8, 43) := by decide +kernel
theorem f_8_100 : ip_fld 8 100 = some (8, 44) := by decide +kernel
theorem f_8_103 : ip_fld 8 103 = some (8, 45) := by decide +kernel
theorem f_8_106 : ip_fld 8 106 = some (8, 46) := by decide +kernel
theorem f_8_109 : ip_fld 8 109 = some (8, 47) := by decide +kernel
theorem f_8_112 : ip_fld 8 112 = some (8, 48) := by decide +kernel
theorem f_8_115 : ip_fld 8 115 = some (8, 49) := by decide +kernel
theorem f_8_118 : ip_fld 8 118 = some (8, 50) := by decide +kernel
theorem f_8_121 : ip_fld 8 121 = some (8, 51) := by decide +kernel
theorem f_8_124 : ip_fld 8 124 = some (8, 52) := by decide +kernel
theorem f_8_127 : ip_fld 8 127 = some (8, 53) := by decide +kernel
theorem f_8_130 : ip_fld 8 130 = some (8, 54) := by decide +kernel
theorem f_8_133 : ip_fld 8 133 = some (8, 64) := by decide +kernel
theorem f_8_136 : ip_fld 8 136 = some (8, 69) := by decide +kernel
theorem f_8_142 : ip_fld 8 142 = some (8, 0) := by decide +kernel
theorem f_8_145 : ip_fld 8 145 = some (8, 2) := by decide +kernel
theorem f_8_148 : ip_fld 8 148 = some (8, 4) := by decide +kernel
theorem f_8_151 : ip_fld 8 151 = some (8, 3) := by decide +kernel
theorem f_8_218 : ip_fld 8 218 = some (8, 6) := by decide +kernel
theorem f_8_241 : ip_fld 8 241 = some (8, 9) := by decide +kernel
theorem f_8_244 : ip_fld 8 244 = some (8, 33) := by decide +kernel
theorem f_8_251 : ip_fld 8 251 = some (8, 34) := by decide +kernel
theorem f_8_261 : ip_fld 8 261 = some (8, 8) := by decide +kernel
theorem f_8_267 : ip_fld 8 267 = some (8, 7) := by decide +kernel
theorem f_8_291 : ip_fld 8 291 = some (8, 17) := by decide +kernel
theorem f_8_294 : ip_fld 8 294 = some (8, 18) := by decide +kernel
theorem f_8_297 : ip_fld 8 297 = some (8, 19) := by decide +kernel
theorem f_8_303 : ip_fld 8 303 = some (8, 37) := by decide +kernel
theorem f_8_306 : ip_fld 8 306 = some (8, 38) := by decide +kernel
theorem f_8_347 : ip_fld 8 347 = some (8, 55) := by decide +kernel
theorem f_8_350 : ip_fld 8 350 = some (8, 56) := by decide +kernel
theorem f_8_353 : ip_fld 8 353 = some (8, 57) := by decide +kernel
theorem f_8_359 : ip_fld 8 359 = some (8, 58) := by decide +kernel
theorem f_8_362 : ip_fld 8 362 = some (8, 59) := by decide +kernel
theorem f_8_368 : ip_fld 8 368 = some (8, 60) := by decide +kernel
theorem f_8_371 : ip_fld 8 371 = some (8, 61) := by decide +kernel
theorem f_8_374 : ip_fld 8 374 = some (8, 62) := by decide +kernel
theorem f_8_380 : ip_fld 8 380 = some (8, 63) := by decide +kernel
theorem f_8_416 : ip_fld 8 416 = some (8, 65) := by decide +kernel
theorem f_8_419 : ip_fld 8 419 = some (8, 66) := by decide +kernel
theorem f_8_422 : ip_fld 8 422 = some (8, 67) := by decide +kernel
theorem f_8_428 : ip_fld 8 428 = some (8, 68) := by decide +kernel
theorem f_8_444 : ip_fld 8 444 = some (8, 70) := by decide +kernel
theorem ms_0_11 : ip_spc 0 11 = none := by decide +kernel
theorem mt_0_11 : ip_mth 0 11 = some (2, 3, 0) := by decide +kernel
theorem ms_0_20 : ip_spc 0 20 = none := by decide +kernel
theorem mt_0_20 : ip_mth 0 20 = some (3, 6, 0) := by decide +kernel
theorem ms_0_48 : ip_spc 0 48 = none := by decide +kernel
theorem mt_0_48 : ip_mth 0 48 = some (1, 101, 1) := by decide +kernel
theorem ms_0_58 : ip_spc 0 58 = none := by decide +kernel
theorem mt_0_58 : ip_mth 0 58 = some (0, 18, 2) := by decide +kernel
theorem ms_0_62 : ip_spc 0 62 = none := by decide +kernel
theorem mt_0_62 : ip_mth 0 62 = some (0, 102, 1) := by decide +kernel
theorem ms_0_66 : ip_spc 0 66 = none := by decide +kernel
theorem mt_0_66 : ip_mth 0 66 = some (0, 103, 1) := by decide +kernel
theorem ms_0_80 : ip_spc 0 80 = none := by decide +kernel
theorem mt_0_80 : ip_mth 0 80 = some (0, 104, 2) := by decide +kernel
theorem ms_0_92 : ip_spc 0 92 = none := by decide +kernel
theorem mt_0_92 : ip_mth 0 92 = some (4, 81, 2) := by decide +kernel
theorem ms_0_95 : ip_spc 0 95 = none := by decide +kernel
theorem mt_0_95 : ip_mth 0 95 = some (0, 92, 1) := by decide +kernel
theorem ms_0_104 : ip_spc 0 104 = none := by decide +kernel
theorem mt_0_104 : ip_mth 0 104 = some (0, 105, 1) := by decide +kernel
theorem ms_0_107 : ip_spc 0 107 = none := by decide +kernel
theorem mt_0_107 : ip_mth 0 107 = some (0, 106, 1) := by decide +kernel
theorem ms_0_116 : ip_spc 0 116 = none := by decide +kernel
theorem mt_0_116 : ip_mth 0 116 = some (0, 113, 1) := by decide +kernel
theorem ms_0_119 : ip_spc 0 119 = none := by decide +kernel
theorem mt_0_119 : ip_mth 0 119 = some (0, 112, 1) := by decide +kernel
theorem ms_0_122 : ip_spc 0 122 = none := by decide +kernel
theorem mt_0_122 : ip_mth 0 122 = some (0, 109, 0) := by decide +kernel
theorem ms_0_126 : ip_spc 0 126 = none := by decide +kernel
theorem mt_0_126 : ip_mth 0 126 = some (0, 110, 0) := by decide +kernel
theorem ms_0_129 : ip_spc 0 129 = none := by decide +kernel
theorem mt_0_129 : ip_mth 0 129 = some (0, 111, 2) := by decide +kernel
theorem ms_0_141 : ip_spc 0 141 = none := by decide +kernel
theorem mt_0_141 : ip_mth 0 141 = some (0, 115, 1) := by decide +kernel
theorem ms_0_151 : ip_spc 0 151 = none := by decide +kernel
theorem mt_0_151 : ip_mth 0 151 = some (0, 116, 2) := by decide +kernel
theorem ms_0_155 : ip_spc 0 155 = none := by decide +kernel
theorem mt_0_155 : ip_mth 0 155 = some (0, 117, 1) := by decide +kernel
theorem ms_0_158 : ip_spc 0 158 = none := by decide +kernel
theorem mt_0_158 : ip_mth 0 158 = some (0, 87, 4) := by decide +kernel
theorem ms_0_162 : ip_spc 0 162 = none := by decide +kernel
theorem mt_0_162 : ip_mth 0 162 = some (0, 88, 1) := by decide +kernel
theorem ms_0_165 : ip_spc 0 165 = none := by decide +kernel
theorem mt_0_165 : ip_mth 0 165 = some (1, 19, 1) := by decide +kernel
theorem ms_0_170 : ip_spc 0 170 = none := by decide +kernel
theorem mt_0_170 : ip_mth 0 170 = some (0, 131, 1) := by decide +kernel
theorem ms_0_173 : ip_spc 0 173 = none := by decide +kernel
theorem mt_0_173 : ip_mth 0 173 = some (4, 132, 1) := by decide +kernel
theorem ms_0_176 : ip_spc 0 176 = none := by decide +kernel
theorem mt_0_176 : ip_mth 0 176 = some (4, 133, 2) := by decide +kernel
theorem ms_0_180 : ip_spc 0 180 = none := by decide +kernel
theorem mt_0_180 : ip_mth 0 180 = some (4, 20, 2) := by decide +kernel
theorem ms_1_24 : ip_spc 1 24 = none := by decide +kernel
theorem mt_1_24 : ip_mth 1 24 = some (0, 12, 2) := by decide +kernel
theorem ms_1_47 : ip_spc 1 47 = none := by decide +kernel
theorem mt_1_47 : ip_mth 1 47 = some (0, 115, 1) := by decide +kernel
theorem ms_1_75 : ip_spc 1 75 = none := by decide +kernel
theorem mt_1_75 : ip_mth 1 75 = some (0, 88, 1) := by decide +kernel
theorem ms_2_26 : ip_spc 2 26 = none := by decide +kernel
theorem mt_2_26 : ip_mth 2 26 = some (0, 32, 1) := by decide +kernel
theorem ms_3_11 : ip_spc 3 11 = none := by decide +kernel
theorem mt_3_11 : ip_mth 3 11 = some (3, 5, 0) := by decide +kernel
theorem ms_3_20 : ip_spc 3 20 = none := by decide +kernel
theorem mt_3_20 : ip_mth 3 20 = some (3, 6, 0) := by decide +kernel
theorem ms_3_29 : ip_spc 3 29 = none := by decide +kernel
theorem mt_3_29 : ip_mth 3 29 = some (0, 109, 0) := by decide +kernel
theorem ms_3_37 : ip_spc 3 37 = none := by decide +kernel
theorem mt_3_37 : ip_mth 3 37 = some (1, 19, 1) := by decide +kernel
theorem ms_3_43 : ip_spc 3 43 = none := by decide +kernel
theorem mt_3_43 : ip_mth 3 43 = some (0, 143, 0) := by decide +kernel
theorem ms_3_47 : ip_spc 3 47 = none := by decide +kernel
theorem mt_3_47 : ip_mth 3 47 = some (0, 131, 1) := by decide +kernel
theorem ms_3_52 : ip_spc 3 52 = none := by decide +kernel
theorem mt_3_52 : ip_mth 3 52 = some (0, 144, 3) := by decide +kernel
theorem ms_3_59 : ip_spc 3 59 = none := by decide +kernel
theorem mt_3_59 : ip_mth 3 59 = some (4, 132, 1) := by decide +kernel
theorem ms_3_65 : ip_spc 3 65 = none := by decide +kernel
theorem mt_3_65 : ip_mth 3 65 = some (4, 133, 2) := by decide +kernel
theorem ms_3_78 : ip_spc 3 78 = none := by decide +kernel
theorem mt_3_78 : ip_mth 3 78 = some (4, 20, 2) := by decide +kernel
theorem ms_3_82 : ip_spc 3 82 = none := by decide +kernel
theorem mt_3_82 : ip_mth 3 82 = some (0, 110, 0) := by decide +kernel
theorem ms_3_85 : ip_spc 3 85 = none := by decide +kernel
theorem mt_3_85 : ip_mth 3 85 = some (0, 111, 2) := by decide +kernel
theorem ms_3_88 : ip_spc 3 88 = none := by decide +kernel
theorem mt_3_88 : ip_mth 3 88 = some (0, 148, 0) := by decide +kernel
theorem ms_3_91 : ip_spc 3 91 = none := by decide +kernel
theorem mt_3_91 : ip_mth 3 91 = some (0, 149, 3) := by decide +kernel
theorem ms_3_94 : ip_spc 3 94 = none := by decide +kernel
theorem mt_3_94 : ip_mth 3 94 = some (0, 152, 4) := by decide +kernel
theorem ms_3_98 : ip_spc 3 98 = none := by decide +kernel
theorem mt_3_98 : ip_mth 3 98 = some (0, 150, 0) := by decide +kernel
theorem ms_3_101 : ip_spc 3 101 = none := by decide +kernel
theorem mt_3_101 : ip_mth 3 101 = some (0, 108, 2) := by decide +kernel
theorem ms_3_105 : ip_spc 3 105 = none := by decide +kernel
theorem mt_3_105 : ip_mth 3 105 = some (0, 114, 3) := by decide +kernel
theorem ms_3_109 : ip_spc 3 109 = none := by decide +kernel
theorem mt_3_109 : ip_mth 3 109 = some (0, 151, 0) := by decide +kernel
theorem ms_3_113 : ip_spc 3 113 = none := by decide +kernel
theorem mt_3_113 : ip_mth 3 113 = some (0, 100, 3) := by decide +kernel
theorem ms_3_117 : ip_spc 3 117 = none := by decide +kernel
theorem mt_3_117 : ip_mth 3 117 = some (0, 130, 2) := by decide +kernel
theorem ms_4_11 : ip_spc 4 11 = none := by decide +kernel
theorem mt_4_11 : ip_mth 4 11 = some (3, 2, 0) := by decide +kernel
theorem ms_4_24 : ip_spc 4 24 = none := by decide +kernel
theorem mt_4_24 : ip_mth 4 24 = some (2, 3, 0) := by decide +kernel
theorem ms_4_42 : ip_spc 4 42 = none := by decide +kernel
theorem mt_4_42 : ip_mth 4 42 = some (0, 4, 0) := by decide +kernel
theorem ms_4_45 : ip_spc 4 45 = none := by decide +kernel
theorem mt_4_45 : ip_mth 4 45 = some (0, 39, 0) := by decide +kernel
theorem ms_4_48 : ip_spc 4 48 = none := by decide +kernel
theorem mt_4_48 : ip_mth 4 48 = some (0, 40, 0) := by decide +kernel
theorem ms_4_57 : ip_spc 4 57 = none := by decide +kernel
theorem mt_4_57 : ip_mth 4 57 = some (0, 47, 0) := by decide +kernel
theorem ms_4_61 : ip_spc 4 61 = none := by decide +kernel
theorem mt_4_61 : ip_mth 4 61 = some (0, 55, 0) := by decide +kernel
theorem ms_4_68 : ip_spc 4 68 = none := by decide +kernel
theorem mt_4_68 : ip_mth 4 68 = some (0, 56, 0) := by decide +kernel
theorem ms_4_74 : ip_spc 4 74 = none := by decide +kernel
theorem mt_4_74 : ip_mth 4 74 = some (0, 48, 0) := by decide +kernel
theorem ms_4_78 : ip_spc 4 78 = none := by decide +kernel
theorem mt_4_78 : ip_mth 4 78 = some (0, 51, 0) := by decide +kernel
theorem ms_4_81 : ip_spc 4 81 = none := by decide +kernel
theorem mt_4_81 : ip_mth 4 81 = some (0, 52, 0) := by decide +kernel
theorem ms_4_84 : ip_spc 4 84 = none := by decide +kernel
theorem mt_4_84 : ip_mth 4 84 = some (0, 53, 1) := by decide +kernel
theorem ms_4_88 : ip_spc 4 88 = none := by decide +kernel
theorem mt_4_88 : ip_mth 4 88 = some (0, 54, 2) := by decide +kernel
theorem ms_4_98 : ip_spc 4 98 = none := by decide +kernel
theorem mt_4_98 : ip_mth 4 98 = some (0, 57, 1) := by decide +kernel
theorem ms_4_105 : ip_spc 4 105 = none := by decide +kernel
theorem mt_4_105 : ip_mth 4 105 = some (0, 71, 1) := by decide +kernel
theorem ms_4_109 : ip_spc 4 109 = none := by decide +kernel
theorem mt_4_109 : ip_mth 4 109 = some (0, 58, 1) := by decide +kernel
theorem ms_4_112 : ip_spc 4 112 = none := by decide +kernel
theorem mt_4_112 : ip_mth 4 112 = some (0, 70, 1) := by decide +kernel
theorem ms_4_116 : ip_spc 4 116 = none := by decide +kernel
theorem mt_4_116 : ip_mth 4 116 = some (0, 59, 1) := by decide +kernel
theorem ms_4_119 : ip_spc 4 119 = none := by decide +kernel
theorem mt_4_119 : ip_mth 4 119 = some (0, 60, 1) := by decide +kernel
theorem ms_4_122 : ip_spc 4 122 = none := by decide +kernel
theorem mt_4_122 : ip_mth 4 122 = some (0, 62, 0) := by decide +kernel
theorem ms_4_125 : ip_spc 4 125 = none := by decide +kernel
theorem mt_4_125 : ip_mth 4 125 = some (0, 65, 1) := by decide +kernel
theorem ms_4_128 : ip_spc 4 128 = none := by decide +kernel
theorem mt_4_128 : ip_mth 4 128 = some (0, 66, 1) := by decide +kernel
theorem ms_4_131 : ip_spc 4 131 = none := by decide +kernel
theorem mt_4_131 : ip_mth 4 131 = some (0, 61, 0) := by decide +kernel
theorem ms_4_137 : ip_spc 4 137 = none := by decide +kernel
theorem mt_4_137 : ip_mth 4 137 = some (0, 63, 1) := by decide +kernel
theorem ms_4_141 : ip_spc 4 141 = none := by decide +kernel
theorem mt_4_141 : ip_mth 4 141 = some (0, 67, 2) := by decide +kernel
theorem ms_4_144 : ip_spc 4 144 = none := by decide +kernel
theorem mt_4_144 : ip_mth 4 144 = some (1, 41, 1) := by decide +kernel
theorem ms_4_147 : ip_spc 4 147 = none := by decide +kernel
theorem mt_4_147 : ip_mth 4 147 = some (1, 42, 1) := by decide +kernel
theorem ms_4_150 : ip_spc 4 150 = none := by decide +kernel
theorem mt_4_150 : ip_mth 4 150 = some (0, 43, 0) := by decide +kernel
theorem ms_4_153 : ip_spc 4 153 = none := by decide +kernel
theorem mt_4_153 : ip_mth 4 153 = some (1, 45, 1) := by decide +kernel
theorem ms_4_156 : ip_spc 4 156 = none := by decide +kernel
theorem mt_4_156 : ip_mth 4 156 = some (1, 46, 1) := by decide +kernel
theorem ms_4_169 : ip_spc 4 169 = none := by decide +kernel
theorem mt_4_169 : ip_mth 4 169 = some (0, 44, 2) := by decide +kernel
theorem ms_4_173 : ip_spc 4 173 = none := by decide +kernel
theorem mt_4_173 : ip_mth 4 173 = some (0, 49, 1) := by decide +kernel
theorem ms_4_176 : ip_spc 4 176 = none := by decide +kernel
theorem mt_4_176 : ip_mth 4 176 = some (0, 50, 2) := by decide +kernel
theorem ms_5_20 : ip_spc 5 20 = none := by decide +kernel
theorem mt_5_20 : ip_mth 5 20 = some (1, 64, 2) := by decide +kernel
theorem ms_5_29 : ip_spc 5 29 = none := by decide +kernel
theorem mt_5_29 : ip_mth 5 29 = some (0, 68, 1) := by decide +kernel
theorem ms_5_33 : ip_spc 5 33 = none := by decide +kernel
theorem mt_5_33 : ip_mth 5 33 = some (0, 69, 2) := by decide +kernel
theorem ms_6_33 : ip_spc 6 33 = none := by decide +kernel
theorem mt_6_33 : ip_mth 6 33 = some (0, 4, 0) := by decide +kernel
theorem ms_6_47 : ip_spc 6 47 = none := by decide +kernel
theorem mt_6_47 : ip_mth 6 47 = some (1, 19, 1) := by decide +kernel
theorem ms_6_55 : ip_spc 6 55 = none := by decide +kernel
theorem mt_6_55 : ip_mth 6 55 = some (0, 24, 1) := by decide +kernel
theorem ms_7_22 : ip_spc 7 22 = none := by decide +kernel
theorem mt_7_22 : ip_mth 7 22 = some (3, 1, 0) := by decide +kernel
theorem ms_7_29 : ip_spc 7 29 = none := by decide +kernel
theorem mt_7_29 : ip_mth 7 29 = some (2, 3, 0) := by decide +kernel
theorem ms_7_48 : ip_spc 7 48 = none := by decide +kernel
theorem mt_7_48 : ip_mth 7 48 = some (3, 5, 0) := by decide +kernel
theorem ms_7_55 : ip_spc 7 55 = none := by decide +kernel
theorem mt_7_55 : ip_mth 7 55 = some (3, 7, 0) := by decide +kernel
theorem ms_7_62 : ip_spc 7 62 = none := by decide +kernel
theorem mt_7_62 : ip_mth 7 62 = some (3, 8, 0) := by decide +kernel
theorem ms_7_67 : ip_spc 7 67 = none := by decide +kernel
theorem mt_7_67 : ip_mth 7 67 = some (3, 6, 0) := by decide +kernel
theorem ms_7_68 : ip_spc 7 68 = none := by decide +kernel
theorem mt_7_68 : ip_mth 7 68 = some (0, 9, 0) := by decide +kernel
theorem ms_7_71 : ip_spc 7 71 = none := by decide +kernel
theorem mt_7_71 : ip_mth 7 71 = some (0, 10, 0) := by decide +kernel
theorem ms_7_75 : ip_spc 7 75 = none := by decide +kernel
theorem mt_7_75 : ip_mth 7 75 = some (0, 11, 1) := by decide +kernel
theorem ms_7_79 : ip_spc 7 79 = none := by decide +kernel
theorem mt_7_79 : ip_mth 7 79 = some (0, 14, 1) := by decide +kernel
theorem ms_7_82 : ip_spc 7 82 = none := by decide +kernel
theorem mt_7_82 : ip_mth 7 82 = some (0, 38, 2) := by decide +kernel
theorem ms_7_93 : ip_spc 7 93 = none := by decide +kernel
theorem mt_7_93 : ip_mth 7 93 = some (0, 72, 1) := by decide +kernel
theorem ms_7_100 : ip_spc 7 100 = none := by decide +kernel
theorem mt_7_100 : ip_mth 7 100 = some (0, 75, 1) := by decide +kernel
theorem ms_7_117 : ip_spc 7 117 = none := by decide +kernel
theorem mt_7_117 : ip_mth 7 117 = some (0, 50, 2) := by decide +kernel
theorem ms_7_121 : ip_spc 7 121 = none := by decide +kernel
theorem mt_7_121 : ip_mth 7 121 = some (1, 80, 2) := by decide +kernel
theorem ms_7_128 : ip_spc 7 128 = none := by decide +kernel
theorem mt_7_128 : ip_mth 7 128 = some (1, 81, 2) := by decide +kernel
theorem ms_7_133 : ip_spc 7 133 = none := by decide +kernel
theorem mt_7_133 : ip_mth 7 133 = some (1, 86, 1) := by decide +kernel
theorem ms_7_152 : ip_spc 7 152 = none := by decide +kernel
theorem mt_7_152 : ip_mth 7 152 = some (0, 87, 4) := by decide +kernel
theorem ms_7_156 : ip_spc 7 156 = none := by decide +kernel
theorem mt_7_156 : ip_mth 7 156 = some (1, 19, 1) := by decide +kernel
theorem ms_7_162 : ip_spc 7 162 = none := by decide +kernel
theorem mt_7_162 : ip_mth 7 162 = some (0, 91, 0) := by decide +kernel
theorem ms_7_165 : ip_spc 7 165 = none := by decide +kernel
theorem mt_7_165 : ip_mth 7 165 = some (0, 92, 1) := by decide +kernel
theorem ms_7_170 : ip_spc 7 170 = none := by decide +kernel
theorem mt_7_170 : ip_mth 7 170 = some (0, 93, 2) := by decide +kernel
theorem ms_7_182 : ip_spc 7 182 = none := by decide +kernel
theorem mt_7_182 : ip_mth 7 182 = some (0, 98, 1) := by decide +kernel
theorem ms_7_185 : ip_spc 7 185 = none := by decide +kernel
theorem mt_7_185 : ip_mth 7 185 = some (0, 99, 0) := by decide +kernel
theorem ms_7_188 : ip_spc 7 188 = none := by decide +kernel
theorem mt_7_188 : ip_mth 7 188 = some (0, 107, 0) := by decide +kernel
theorem ms_7_191 : ip_spc 7 191 = none := by decide +kernel
theorem mt_7_191 : ip_mth 7 191 = some (0, 108, 2) := by decide +kernel
theorem ms_7_194 : ip_spc 7 194 = none := by decide +kernel
theorem mt_7_194 : ip_mth 7 194 = some (0, 114, 3) := by decide +kernel
theorem ms_7_198 : ip_spc 7 198 = none := by decide +kernel
theorem mt_7_198 : ip_mth 7 198 = some (0, 118, 0) := by decide +kernel
theorem ms_7_206 : ip_spc 7 206 = none := by decide +kernel
theorem mt_7_206 : ip_mth 7 206 = some (0, 121, 2) := by decide +kernel
theorem ms_7_210 : ip_spc 7 210 = none := by decide +kernel
theorem mt_7_210 : ip_mth 7 210 = some (0, 124, 1) := by decide +kernel
theorem ms_7_224 : ip_spc 7 224 = none := by decide +kernel
theorem mt_7_224 : ip_mth 7 224 = some (1, 129, 1) := by decide +kernel
theorem ms_7_227 : ip_spc 7 227 = none := by decide +kernel
theorem mt_7_227 : ip_mth 7 227 = some (0, 109, 0) := by decide +kernel
theorem ms_7_230 : ip_spc 7 230 = none := by decide +kernel
theorem mt_7_230 : ip_mth 7 230 = some (0, 130, 2) := by decide +kernel
theorem ms_7_233 : ip_spc 7 233 = none := by decide +kernel
theorem mt_7_233 : ip_mth 7 233 = some (0, 111, 2) := by decide +kernel
theorem ms_7_236 : ip_spc 7 236 = none := by decide +kernel
theorem mt_7_236 : ip_mth 7 236 = some (0, 104, 2) := by decide +kernel
theorem ms_7_245 : ip_spc 7 245 = none := by decide +kernel
theorem mt_7_245 : ip_mth 7 245 = some (0, 131, 1) := by decide +kernel
theorem ms_7_248 : ip_spc 7 248 = none := by decide +kernel
theorem mt_7_248 : ip_mth 7 248 = some (0, 142, 3) := by decide +kernel
theorem ms_7_261 : ip_spc 7 261 = none := by decide +kernel
theorem mt_7_261 : ip_mth 7 261 = some (0, 147, 2) := by decide +kernel
theorem ms_7_268 : ip_spc 7 268 = none := by decide +kernel
theorem mt_7_268 : ip_mth 7 268 = some (0, 18, 2) := by decide +kernel
theorem ms_7_271 : ip_spc 7 271 = none := by decide +kernel
theorem mt_7_271 : ip_mth 7 271 = some (1, 20, 2) := by decide +kernel
theorem ms_7_276 : ip_spc 7 276 = none := by decide +kernel
theorem mt_7_276 : ip_mth 7 276 = some (0, 155, 1) := by decide +kernel
theorem ms_7_286 : ip_spc 7 286 = none := by decide +kernel
theorem mt_7_286 : ip_mth 7 286 = some (0, 106, 1) := by decide +kernel
theorem ms_7_289 : ip_spc 7 289 = none := by decide +kernel
theorem mt_7_289 : ip_mth 7 289 = some (0, 105, 1) := by decide +kernel
theorem ms_7_295 : ip_spc 7 295 = none := by decide +kernel
theorem mt_7_295 : ip_mth 7 295 = some (0, 117, 1) := by decide +kernel
theorem ms_7_306 : ip_spc 7 306 = none := by decide +kernel
theorem mt_7_306 : ip_mth 7 306 = some (0, 23, 2) := by decide +kernel
theorem ms_7_309 : ip_spc 7 309 = none := by decide +kernel
theorem mt_7_309 : ip_mth 7 309 = some (0, 24, 1) := by decide +kernel
theorem ms_7_313 : ip_spc 7 313 = none := by decide +kernel
theorem mt_7_313 : ip_mth 7 313 = some (0, 29, 0) := by decide +kernel
theorem ms_7_322 : ip_spc 7 322 = none := by decide +kernel
theorem mt_7_322 : ip_mth 7 322 = some (0, 166, 1) := by decide +kernel
theorem ms_7_325 : ip_spc 7 325 = none := by decide +kernel
theorem mt_7_325 : ip_mth 7 325 = some (1, 167, 1) := by decide +kernel
theorem ms_7_329 : ip_spc 7 329 = none := by decide +kernel
theorem mt_7_329 : ip_mth 7 329 = some (0, 168, 2) := by decide +kernel
theorem ms_7_343 : ip_spc 7 343 = none := by decide +kernel
theorem mt_7_343 : ip_mth 7 343 = some (0, 32, 1) := by decide +kernel
theorem ms_7_351 : ip_spc 7 351 = none := by decide +kernel
theorem mt_7_351 : ip_mth 7 351 = some (0, 102, 1) := by decide +kernel
theorem ms_7_357 : ip_spc 7 357 = none := by decide +kernel
theorem mt_7_357 : ip_mth 7 357 = some (0, 27, 2) := by decide +kernel
theorem ms_7_360 : ip_spc 7 360 = none := by decide +kernel
theorem mt_7_360 : ip_mth 7 360 = some (0, 30, 2) := by decide +kernel
theorem ms_7_363 : ip_spc 7 363 = none := by decide +kernel
theorem mt_7_363 : ip_mth 7 363 = some (0, 31, 1) := by decide +kernel
theorem ms_7_366 : ip_spc 7 366 = none := by decide +kernel
theorem mt_7_366 : ip_mth 7 366 = some (1, 33, 1) := by decide +kernel
theorem ms_7_370 : ip_spc 7 370 = none := by decide +kernel
theorem mt_7_370 : ip_mth 7 370 = some (0, 177, 1) := by decide +kernel
theorem ms_7_373 : ip_spc 7 373 = none := by decide +kernel
theorem mt_7_373 : ip_mth 7 373 = some (0, 178, 2) := by decide +kernel
theorem ms_7_381 : ip_spc 7 381 = none := by decide +kernel
theorem mt_7_381 : ip_mth 7 381 = some (0, 35, 1) := by decide +kernel
theorem ms_7_404 : ip_spc 7 404 = none := by decide +kernel
theorem mt_7_404 : ip_mth 7 404 = some (0, 100, 3) := by decide +kernel
theorem ms_8_139 : ip_spc 8 139 = none := by decide +kernel
theorem mt_8_139 : ip_mth 8 139 = some (0, 184, 0) := by decide +kernel
theorem ms_8_154 : ip_spc 8 154 = none := by decide +kernel
theorem mt_8_154 : ip_mth 8 154 = some (0, 193, 0) := by decide +kernel
theorem ms_8_158 : ip_spc 8 158 = none := by decide +kernel
theorem mt_8_158 : ip_mth 8 158 = some (0, 195, 0) := by decide +kernel
theorem ms_8_170 : ip_spc 8 170 = none := by decide +kernel
theorem mt_8_170 : ip_mth 8 170 = some (0, 194, 1) := by decide +kernel
theorem ms_8_174 : ip_spc 8 174 = none := by decide +kernel
theorem mt_8_174 : ip_mth 8 174 = some (0, 197, 0) := by decide +kernel
theorem ms_8_202 : ip_spc 8 202 = none := by decide +kernel
theorem mt_8_202 : ip_mth 8 202 = some (0, 199, 0) := by decide +kernel
theorem ms_8_210 : ip_spc 8 210 = none := by decide +kernel
theorem mt_8_210 : ip_mth 8 210 = some (1, 220, 1) := by decide +kernel
theorem ms_8_214 : ip_spc 8 214 = none := by decide +kernel
theorem mt_8_214 : ip_mth 8 214 = some (0, 201, 0) := by decide +kernel
theorem ms_8_221 : ip_spc 8 221 = none := by decide +kernel
theorem mt_8_221 : ip_mth 8 221 = some (0, 205, 1) := by decide +kernel
theorem ms_8_225 : ip_spc 8 225 = none := by decide +kernel
theorem mt_8_225 : ip_mth 8 225 = some (0, 198, 0) := by decide +kernel
theorem ms_8_228 : ip_spc 8 228 = none := by decide +kernel
theorem mt_8_228 : ip_mth 8 228 = some (0, 200, 0) := by decide +kernel
theorem ms_8_231 : ip_spc 8 231 = none := by decide +kernel
theorem mt_8_231 : ip_mth 8 231 = some (0, 202, 1) := by decide +kernel
theorem ms_8_234 : ip_spc 8 234 = none := by decide +kernel
theorem mt_8_234 : ip_mth 8 234 = some (1, 186, 2) := by decide +kernel
theorem ms_8_238 : ip_spc 8 238 = none := by decide +kernel
theorem mt_8_238 : ip_mth 8 238 = some (0, 204, 0) := by decide +kernel
theorem ms_8_247 : ip_spc 8 247 = none := by decide +kernel
theorem mt_8_247 : ip_mth 8 247 = some (0, 210, 3) := by decide +kernel
theorem ms_8_254 : ip_spc 8 254 = none := by decide +kernel
theorem mt_8_254 : ip_mth 8 254 = some (0, 209, 0) := by decide +kernel
theorem ms_8_257 : ip_spc 8 257 = none := by decide +kernel
theorem mt_8_257 : ip_mth 8 257 = some (0, 207, 2) := by decide +kernel
theorem ms_8_264 : ip_spc 8 264 = none := by decide +kernel
theorem mt_8_264 : ip_mth 8 264 = some (0, 211, 0) := by decide +kernel
theorem ms_8_271 : ip_spc 8 271 = none := by decide +kernel
theorem mt_8_271 : ip_mth 8 271 = some (0, 208, 0) := by decide +kernel
theorem ms_8_274 : ip_spc 8 274 = none := by decide +kernel
theorem mt_8_274 : ip_mth 8 274 = some (0, 212, 1) := by decide +kernel
theorem ms_8_278 : ip_spc 8 278 = none := by decide +kernel
theorem mt_8_278 : ip_mth 8 278 = some (0, 213, 1) := by decide +kernel
theorem ms_8_282 : ip_spc 8 282 = none := by decide +kernel
theorem mt_8_282 : ip_mth 8 282 = some (0, 196, 0) := by decide +kernel
theorem ms_8_285 : ip_spc 8 285 = none := by decide +kernel
theorem mt_8_285 : ip_mth 8 285 = some (0, 203, 0) := by decide +kernel
theorem ms_8_288 : ip_spc 8 288 = none := by decide +kernel
theorem mt_8_288 : ip_mth 8 288 = some (0, 206, 0) := by decide +kernel
theorem ms_8_300 : ip_spc 8 300 = none := by decide +kernel
theorem mt_8_300 : ip_mth 8 300 = some (0, 185, 1) := by decide +kernel
theorem ms_8_309 : ip_spc 8 309 = none := by decide +kernel
theorem mt_8_309 : ip_mth 8 309 = some (0, 187, 0) := by decide +kernel
theorem ms_8_312 : ip_spc 8 312 = none := by decide +kernel
theorem mt_8_312 : ip_mth 8 312 = some (0, 188, 2) := by decide +kernel
theorem ms_8_315 : ip_spc 8 315 = none := by decide +kernel
theorem mt_8_315 : ip_mth 8 315 = some (1, 217, 3) := by decide +kernel
theorem ms_8_319 : ip_spc 8 319 = none := by decide +kernel
theorem mt_8_319 : ip_mth 8 319 = some (0, 216, 1) := by decide +kernel
theorem ms_8_322 : ip_spc 8 322 = none := by decide +kernel
theorem mt_8_322 : ip_mth 8 322 = some (0, 218, 1) := by decide +kernel
theorem ms_8_326 : ip_spc 8 326 = none := by decide +kernel
theorem mt_8_326 : ip_mth 8 326 = some (1, 221, 2) := by decide +kernel
theorem ms_8_330 : ip_spc 8 330 = none := by decide +kernel
theorem mt_8_330 : ip_mth 8 330 = some (1, 225, 1) := by decide +kernel
theorem ms_8_333 : ip_spc 8 333 = none := by decide +kernel
theorem mt_8_333 : ip_mth 8 333 = some (1, 226, 1) := by decide +kernel
theorem ms_8_336 : ip_spc 8 336 = none := by decide +kernel
theorem mt_8_336 : ip_mth 8 336 = some (0, 228, 3) := by decide +kernel
theorem ms_8_339 : ip_spc 8 339 = none := by decide +kernel
theorem mt_8_339 : ip_mth 8 339 = some (0, 234, 2) := by decide +kernel
theorem ms_8_343 : ip_spc 8 343 = none := by decide +kernel
theorem mt_8_343 : ip_mth 8 343 = some (0, 236, 3) := by decide +kernel
theorem ms_8_356 : ip_spc 8 356 = none := by decide +kernel
theorem mt_8_356 : ip_mth 8 356 = some (0, 233, 0) := by decide +kernel
theorem ms_8_365 : ip_spc 8 365 = none := by decide +kernel
theorem mt_8_365 : ip_mth 8 365 = some (0, 235, 2) := by decide +kernel
theorem ms_8_377 : ip_spc 8 377 = none := by decide +kernel
theorem mt_8_377 : ip_mth 8 377 = some (0, 238, 2) := by decide +kernel
theorem ms_8_383 : ip_spc 8 383 = none := by decide +kernel
theorem mt_8_383 : ip_mth 8 383 = some (0, 239, 1) := by decide +kernel
theorem ms_8_386 : ip_spc 8 386 = none := by decide +kernel
theorem mt_8_386 : ip_mth 8 386 = some (0, 231, 1) := by decide +kernel
theorem ms_8_389 : ip_spc 8 389 = none := by decide +kernel
theorem mt_8_389 : ip_mth 8 389 = some (0, 232, 0) := by decide +kernel
theorem ms_8_392 : ip_spc 8 392 = none := by decide +kernel
theorem mt_8_392 : ip_mth 8 392 = some (0, 237, 2) := by decide +kernel
theorem ms_8_395 : ip_spc 8 395 = none := by decide +kernel
theorem mt_8_395 : ip_mth 8 395 = some (0, 240, 2) := by decide +kernel
theorem ms_8_398 : ip_spc 8 398 = none := by decide +kernel
theorem mt_8_398 : ip_mth 8 398 = some (0, 241, 1) := by decide +kernel
theorem ms_8_401 : ip_spc 8 401 = none := by decide +kernel
theorem mt_8_401 : ip_mth 8 401 = some (0, 244, 1) := by decide +kernel
theorem ms_8_404 : ip_spc 8 404 = none := by decide +kernel
theorem mt_8_404 : ip_mth 8 404 = some (0, 247, 1) := by decide +kernel
theorem ms_8_407 : ip_spc 8 407 = none := by decide +kernel
theorem mt_8_407 : ip_mth 8 407 = some (0, 249, 2) := by decide +kernel
theorem ms_8_410 : ip_spc 8 410 = none := by decide +kernel
theorem mt_8_410 : ip_mth 8 410 = some (1, 250, 1) := by decide +kernel
theorem ms_8_413 : ip_spc 8 413 = none := by decide +kernel
theorem mt_8_413 : ip_mth 8 413 = some (0, 254, 2) := by decide +kernel
theorem ms_8_425 : ip_spc 8 425 = none := by decide +kernel
theorem mt_8_425 : ip_mth 8 425 = some (1, 257, 2) := by decide +kernel
theorem ms_8_431 : ip_spc 8 431 = none := by decide +kernel
theorem mt_8_431 : ip_mth 8 431 = some (0, 256, 4) := by decide +kernel
theorem ms_8_435 : ip_spc 8 435 = none := by decide +kernel
theorem mt_8_435 : ip_mth 8 435 = some (0, 258, 2) := by decide +kernel
theorem ms_8_438 : ip_spc 8 438 = none := by decide +kernel
theorem mt_8_438 : ip_mth 8 438 = some (0, 262, 2) := by decide +kernel
theorem ms_8_441 : ip_spc 8 441 = none := by decide +kernel
theorem mt_8_441 : ip_mth 8 441 = some (0, 266, 1) := by decide +kernel
theorem ms_8_447 : ip_spc 8 447 = none := by decide +kernel
theorem mt_8_447 : ip_mth 8 447 = some (0, 274, 1) := by decide +kernel
theorem ms_8_452 : ip_spc 8 452 = none := by decide +kernel
theorem mt_8_452 : ip_mth 8 452 = some (0, 273, 1) := by decide +kernel
theorem ms_8_464 : ip_spc 8 464 = none := by decide +kernel
theorem mt_8_464 : ip_mth 8 464 = some (0, 278, 1) := by decide +kernel
theorem ms_8_467 : ip_spc 8 467 = none := by decide +kernel
theorem mt_8_467 : ip_mth 8 467 = some (0, 280, 1) := by decide +kernel
theorem ms_9_7 : ip_spc 9 7 = none := by decide +kernel
theorem mt_9_7 : ip_mth 9 7 = some (0, 37, 0) := by decide +kernel
theorem ms_9_15 : ip_spc 9 15 = none := by decide +kernel
theorem mt_9_15 : ip_mth 9 15 = some (0, 74, 2) := by decide +kernel
theorem ms_9_23 : ip_spc 9 23 = none := by decide +kernel
theorem mt_9_23 : ip_mth 9 23 = some (0, 77, 2) := by decide +kernel
theorem ms_9_26 : ip_spc 9 26 = none := by decide +kernel
theorem mt_9_26 : ip_mth 9 26 = some (0, 79, 2) := by decide +kernel
theorem ms_9_29 : ip_spc 9 29 = none := by decide +kernel
theorem mt_9_29 : ip_mth 9 29 = some (0, 83, 3) := by decide +kernel
theorem ms_9_33 : ip_spc 9 33 = none := by decide +kernel
theorem mt_9_33 : ip_mth 9 33 = some (0, 85, 3) := by decide +kernel
theorem ms_9_38 : ip_spc 9 38 = none := by decide +kernel
theorem mt_9_38 : ip_mth 9 38 = some (0, 90, 2) := by decide +kernel
theorem ms_9_42 : ip_spc 9 42 = none := by decide +kernel
theorem mt_9_42 : ip_mth 9 42 = some (0, 95, 1) := by decide +kernel
theorem ms_9_46 : ip_spc 9 46 = none := by decide +kernel
theorem mt_9_46 : ip_mth 9 46 = some (0, 97, 2) := by decide +kernel
theorem ms_9_49 : ip_spc 9 49 = none := by decide +kernel
theorem mt_9_49 : ip_mth 9 49 = some (0, 120, 0) := by decide +kernel
theorem ms_9_52 : ip_spc 9 52 = none := by decide +kernel
theorem mt_9_52 : ip_mth 9 52 = some (0, 123, 1) := by decide +kernel
theorem ms_9_56 : ip_spc 9 56 = none := by decide +kernel
theorem mt_9_56 : ip_mth 9 56 = some (0, 126, 3) := by decide +kernel
theorem ms_9_59 : ip_spc 9 59 = none := by decide +kernel
theorem mt_9_59 : ip_mth 9 59 = some (0, 128, 2) := by decide +kernel
theorem ms_9_63 : ip_spc 9 63 = none := by decide +kernel
theorem mt_9_63 : ip_mth 9 63 = some (0, 135, 2) := by decide +kernel
theorem ms_9_66 : ip_spc 9 66 = none := by decide +kernel
theorem mt_9_66 : ip_mth 9 66 = some (0, 137, 2) := by decide +kernel
theorem ms_9_69 : ip_spc 9 69 = none := by decide +kernel
theorem mt_9_69 : ip_mth 9 69 = some (0, 139, 1) := by decide +kernel
theorem ms_9_72 : ip_spc 9 72 = none := by decide +kernel
theorem mt_9_72 : ip_mth 9 72 = some (0, 141, 3) := by decide +kernel
theorem ms_9_75 : ip_spc 9 75 = none := by decide +kernel
theorem mt_9_75 : ip_mth 9 75 = some (0, 146, 2) := by decide +kernel
theorem ms_9_78 : ip_spc 9 78 = none := by decide +kernel
theorem mt_9_78 : ip_mth 9 78 = some (0, 154, 1) := by decide +kernel
theorem ms_9_81 : ip_spc 9 81 = none := by decide +kernel
theorem mt_9_81 : ip_mth 9 81 = some (0, 157, 2) := by decide +kernel
theorem ms_9_84 : ip_spc 9 84 = none := by decide +kernel
theorem mt_9_84 : ip_mth 9 84 = some (0, 159, 3) := by decide +kernel
theorem ms_9_87 : ip_spc 9 87 = none := by decide +kernel
theorem mt_9_87 : ip_mth 9 87 = some (0, 161, 3) := by decide +kernel
theorem ms_9_90 : ip_spc 9 90 = none := by decide +kernel
theorem mt_9_90 : ip_mth 9 90 = some (0, 163, 1) := by decide +kernel
theorem ms_9_93 : ip_spc 9 93 = none := by decide +kernel
theorem mt_9_93 : ip_mth 9 93 = some (0, 165, 1) := by decide +kernel
theorem ms_9_96 : ip_spc 9 96 = none := by decide +kernel
theorem mt_9_96 : ip_mth 9 96 = some (0, 170, 3) := by decide +kernel
theorem ms_9_99 : ip_spc 9 99 = none := by decide +kernel
theorem mt_9_99 : ip_mth 9 99 = some (0, 172, 2) := by decide +kernel
theorem ms_9_102 : ip_spc 9 102 = none := by decide +kernel
theorem mt_9_102 : ip_mth 9 102 = some (0, 174, 1) := by decide +kernel
theorem ms_9_105 : ip_spc 9 105 = none := by decide +kernel
theorem mt_9_105 : ip_mth 9 105 = some (0, 176, 2) := by decide +kernel
theorem ms_9_108 : ip_spc 9 108 = none := by decide +kernel
theorem mt_9_108 : ip_mth 9 108 = some (0, 180, 2) := by decide +kernel
theorem ms_9_111 : ip_spc 9 111 = none := by decide +kernel
theorem mt_9_111 : ip_mth 9 111 = some (0, 182, 2) := by decide +kernel
theorem ms_9_114 : ip_spc 9 114 = none := by decide +kernel
theorem mt_9_114 : ip_mth 9 114 = some (2, 0, 0) := by decide +kernel
theorem ms_9_117 : ip_spc 9 117 = none := by decide +kernel
theorem mt_9_117 : ip_mth 9 117 = some (2, 183, 0) := by decide +kernel
theorem ms_9_118 : ip_spc 9 118 = none := by decide +kernel
theorem mt_9_118 : ip_mth 9 118 = some (0, 13, 5) := by decide +kernel
theorem ms_9_122 : ip_spc 9 122 = none := by decide +kernel
theorem mt_9_122 : ip_mth 9 122 = some (0, 190, 5) := by decide +kernel
theorem ms_9_123 : ip_spc 9 123 = none := by decide +kernel
theorem mt_9_123 : ip_mth 9 123 = some (0, 15, 1) := by decide +kernel
theorem ms_9_126 : ip_spc 9 126 = none := by decide +kernel
theorem mt_9_126 : ip_mth 9 126 = some (0, 191, 1) := by decide +kernel
theorem ms_9_127 : ip_spc 9 127 = none := by decide +kernel
theorem mt_9_127 : ip_mth 9 127 = some (10, 36, 2) := by decide +kernel
theorem ms_9_132 : ip_spc 9 132 = none := by decide +kernel
theorem mt_9_132 : ip_mth 9 132 = some (0, 192, 0) := by decide +kernel
theorem ms_9_133 : ip_spc 9 133 = none := by decide +kernel
theorem mt_9_133 : ip_mth 9 133 = some (0, 189, 0) := by decide +kernel
theorem ms_9_136 : ip_spc 9 136 = none := by decide +kernel
theorem mt_9_136 : ip_mth 9 136 = some (0, 16, 0) := by decide +kernel
theorem ms_9_139 : ip_spc 9 139 = none := by decide +kernel
theorem mt_9_139 : ip_mth 9 139 = some (0, 214, 0) := by decide +kernel
theorem ms_9_140 : ip_spc 9 140 = none := by decide +kernel
theorem mt_9_140 : ip_mth 9 140 = some (10, 73, 4) := by decide +kernel
theorem ms_9_143 : ip_spc 9 143 = none := by decide +kernel
theorem mt_9_143 : ip_mth 9 143 = some (0, 215, 2) := by decide +kernel
theorem ms_9_144 : ip_spc 9 144 = none := by decide +kernel
theorem mt_9_144 : ip_mth 9 144 = some (10, 76, 4) := by decide +kernel
theorem ms_9_146 : ip_spc 9 146 = none := by decide +kernel
theorem mt_9_146 : ip_mth 9 146 = some (0, 219, 2) := by decide +kernel
theorem ms_9_147 : ip_spc 9 147 = none := by decide +kernel
theorem mt_9_147 : ip_mth 9 147 = some (10, 78, 4) := by decide +kernel
theorem ms_9_149 : ip_spc 9 149 = none := by decide +kernel
theorem mt_9_149 : ip_mth 9 149 = some (0, 222, 2) := by decide +kernel
theorem ms_9_150 : ip_spc 9 150 = none := by decide +kernel
theorem mt_9_150 : ip_mth 9 150 = some (10, 82, 5) := by decide +kernel
theorem ms_9_153 : ip_spc 9 153 = none := by decide +kernel
theorem mt_9_153 : ip_mth 9 153 = some (0, 223, 3) := by decide +kernel
theorem ms_9_154 : ip_spc 9 154 = none := by decide +kernel
theorem mt_9_154 : ip_mth 9 154 = some (10, 84, 5) := by decide +kernel
theorem ms_9_156 : ip_spc 9 156 = none := by decide +kernel
theorem mt_9_156 : ip_mth 9 156 = some (0, 224, 3) := by decide +kernel
theorem ms_9_157 : ip_spc 9 157 = none := by decide +kernel
theorem mt_9_157 : ip_mth 9 157 = some (10, 89, 4) := by decide +kernel
theorem ms_9_159 : ip_spc 9 159 = none := by decide +kernel
theorem mt_9_159 : ip_mth 9 159 = some (0, 227, 2) := by decide +kernel
theorem ms_9_160 : ip_spc 9 160 = none := by decide +kernel
theorem mt_9_160 : ip_mth 9 160 = some (10, 94, 3) := by decide +kernel
theorem ms_9_163 : ip_spc 9 163 = none := by decide +kernel
theorem mt_9_163 : ip_mth 9 163 = some (0, 229, 1) := by decide +kernel
theorem ms_9_164 : ip_spc 9 164 = none := by decide +kernel
theorem mt_9_164 : ip_mth 9 164 = some (10, 96, 4) := by decide +kernel
theorem ms_9_166 : ip_spc 9 166 = none := by decide +kernel
theorem mt_9_166 : ip_mth 9 166 = some (0, 230, 2) := by decide +kernel
theorem ms_9_167 : ip_spc 9 167 = none := by decide +kernel
theorem mt_9_167 : ip_mth 9 167 = some (10, 119, 2) := by decide +kernel
theorem ms_9_169 : ip_spc 9 169 = none := by decide +kernel
theorem mt_9_169 : ip_mth 9 169 = some (0, 242, 0) := by decide +kernel
theorem ms_9_170 : ip_spc 9 170 = none := by decide +kernel
theorem mt_9_170 : ip_mth 9 170 = some (10, 122, 3) := by decide +kernel
theorem ms_9_172 : ip_spc 9 172 = none := by decide +kernel
theorem mt_9_172 : ip_mth 9 172 = some (0, 243, 1) := by decide +kernel
theorem ms_9_173 : ip_spc 9 173 = none := by decide +kernel
theorem mt_9_173 : ip_mth 9 173 = some (10, 125, 5) := by decide +kernel
theorem ms_9_175 : ip_spc 9 175 = none := by decide +kernel
theorem mt_9_175 : ip_mth 9 175 = some (0, 245, 3) := by decide +kernel
theorem ms_9_176 : ip_spc 9 176 = none := by decide +kernel
theorem mt_9_176 : ip_mth 9 176 = some (10, 127, 4) := by decide +kernel
theorem ms_9_179 : ip_spc 9 179 = none := by decide +kernel
theorem mt_9_179 : ip_mth 9 179 = some (0, 248, 2) := by decide +kernel
theorem ms_9_180 : ip_spc 9 180 = none := by decide +kernel
theorem mt_9_180 : ip_mth 9 180 = some (10, 134, 4) := by decide +kernel
theorem ms_9_182 : ip_spc 9 182 = none := by decide +kernel
theorem mt_9_182 : ip_mth 9 182 = some (0, 251, 2) := by decide +kernel
theorem ms_9_183 : ip_spc 9 183 = none := by decide +kernel
theorem mt_9_183 : ip_mth 9 183 = some (10, 136, 4) := by decide +kernel
theorem ms_9_185 : ip_spc 9 185 = none := by decide +kernel
theorem mt_9_185 : ip_mth 9 185 = some (0, 252, 2) := by decide +kernel
theorem ms_9_186 : ip_spc 9 186 = none := by decide +kernel
theorem mt_9_186 : ip_mth 9 186 = some (10, 138, 3) := by decide +kernel
theorem ms_9_188 : ip_spc 9 188 = none := by decide +kernel
theorem mt_9_188 : ip_mth 9 188 = some (0, 246, 1) := by decide +kernel
theorem ms_9_189 : ip_spc 9 189 = none := by decide +kernel
theorem mt_9_189 : ip_mth 9 189 = some (10, 140, 5) := by decide +kernel
theorem ms_9_191 : ip_spc 9 191 = none := by decide +kernel
theorem mt_9_191 : ip_mth 9 191 = some (0, 253, 3) := by decide +kernel
theorem ms_9_192 : ip_spc 9 192 = none := by decide +kernel
theorem mt_9_192 : ip_mth 9 192 = some (10, 145, 4) := by decide +kernel
theorem ms_9_194 : ip_spc 9 194 = none := by decide +kernel
theorem mt_9_194 : ip_mth 9 194 = some (0, 255, 2) := by decide +kernel
theorem ms_9_195 : ip_spc 9 195 = none := by decide +kernel
theorem mt_9_195 : ip_mth 9 195 = some (0, 17, 1) := by decide +kernel
theorem ms_9_199 : ip_spc 9 199 = none := by decide +kernel
theorem mt_9_199 : ip_mth 9 199 = some (0, 263, 1) := by decide +kernel
theorem ms_9_200 : ip_spc 9 200 = none := by decide +kernel
theorem mt_9_200 : ip_mth 9 200 = some (10, 153, 3) := by decide +kernel
theorem ms_9_202 : ip_spc 9 202 = none := by decide +kernel
theorem mt_9_202 : ip_mth 9 202 = some (0, 264, 1) := by decide +kernel
theorem ms_9_203 : ip_spc 9 203 = none := by decide +kernel
theorem mt_9_203 : ip_mth 9 203 = some (10, 156, 4) := by decide +kernel
theorem ms_9_205 : ip_spc 9 205 = none := by decide +kernel
theorem mt_9_205 : ip_mth 9 205 = some (0, 265, 2) := by decide +kernel
theorem ms_9_206 : ip_spc 9 206 = none := by decide +kernel
theorem mt_9_206 : ip_mth 9 206 = some (10, 158, 5) := by decide +kernel
theorem ms_9_208 : ip_spc 9 208 = none := by decide +kernel
theorem mt_9_208 : ip_mth 9 208 = some (0, 267, 3) := by decide +kernel
theorem ms_9_209 : ip_spc 9 209 = none := by decide +kernel
theorem mt_9_209 : ip_mth 9 209 = some (10, 160, 5) := by decide +kernel
theorem ms_9_211 : ip_spc 9 211 = none := by decide +kernel
theorem mt_9_211 : ip_mth 9 211 = some (0, 268, 3) := by decide +kernel
theorem ms_9_212 : ip_spc 9 212 = none := by decide +kernel
theorem mt_9_212 : ip_mth 9 212 = some (0, 21, 0) := by decide +kernel
theorem ms_9_215 : ip_spc 9 215 = none := by decide +kernel
theorem mt_9_215 : ip_mth 9 215 = some (0, 269, 0) := by decide +kernel
theorem ms_9_216 : ip_spc 9 216 = none := by decide +kernel
theorem mt_9_216 : ip_mth 9 216 = some (0, 22, 0) := by decide +kernel
theorem ms_9_219 : ip_spc 9 219 = none := by decide +kernel
theorem mt_9_219 : ip_mth 9 219 = some (0, 270, 0) := by decide +kernel
theorem ms_9_220 : ip_spc 9 220 = none := by decide +kernel
theorem mt_9_220 : ip_mth 9 220 = some (10, 162, 3) := by decide +kernel
theorem ms_9_222 : ip_spc 9 222 = none := by decide +kernel
theorem mt_9_222 : ip_mth 9 222 = some (0, 271, 1) := by decide +kernel
theorem ms_9_223 : ip_spc 9 223 = none := by decide +kernel
theorem mt_9_223 : ip_mth 9 223 = some (10, 164, 3) := by decide +kernel
theorem ms_9_225 : ip_spc 9 225 = none := by decide +kernel
theorem mt_9_225 : ip_mth 9 225 = some (0, 272, 1) := by decide +kernel
theorem ms_9_226 : ip_spc 9 226 = none := by decide +kernel
theorem mt_9_226 : ip_mth 9 226 = some (0, 25, 1) := by decide +kernel
theorem ms_9_229 : ip_spc 9 229 = none := by decide +kernel
theorem mt_9_229 : ip_mth 9 229 = some (0, 275, 1) := by decide +kernel
theorem ms_9_230 : ip_spc 9 230 = none := by decide +kernel
theorem mt_9_230 : ip_mth 9 230 = some (10, 169, 5) := by decide +kernel
theorem ms_9_232 : ip_spc 9 232 = none := by decide +kernel
theorem mt_9_232 : ip_mth 9 232 = some (0, 276, 3) := by decide +kernel
theorem ms_9_233 : ip_spc 9 233 = none := by decide +kernel
theorem mt_9_233 : ip_mth 9 233 = some (10, 171, 4) := by decide +kernel
theorem ms_9_235 : ip_spc 9 235 = none := by decide +kernel
theorem mt_9_235 : ip_mth 9 235 = some (0, 259, 2) := by decide +kernel
theorem ms_9_236 : ip_spc 9 236 = none := by decide +kernel
theorem mt_9_236 : ip_mth 9 236 = some (10, 173, 3) := by decide +kernel
theorem ms_9_238 : ip_spc 9 238 = none := by decide +kernel
theorem mt_9_238 : ip_mth 9 238 = some (0, 260, 1) := by decide +kernel
theorem ms_9_239 : ip_spc 9 239 = none := by decide +kernel
theorem mt_9_239 : ip_mth 9 239 = some (0, 26, 1) := by decide +kernel
theorem ms_9_242 : ip_spc 9 242 = none := by decide +kernel
theorem mt_9_242 : ip_mth 9 242 = some (0, 261, 1) := by decide +kernel
theorem ms_9_243 : ip_spc 9 243 = none := by decide +kernel
theorem mt_9_243 : ip_mth 9 243 = some (0, 28, 0) := by decide +kernel
theorem ms_9_246 : ip_spc 9 246 = none := by decide +kernel
theorem mt_9_246 : ip_mth 9 246 = some (0, 277, 0) := by decide +kernel
theorem ms_9_247 : ip_spc 9 247 = none := by decide +kernel
theorem mt_9_247 : ip_mth 9 247 = some (10, 175, 4) := by decide +kernel
theorem ms_9_249 : ip_spc 9 249 = none := by decide +kernel
theorem mt_9_249 : ip_mth 9 249 = some (0, 279, 2) := by decide +kernel
theorem ms_9_250 : ip_spc 9 250 = none := by decide +kernel
theorem mt_9_250 : ip_mth 9 250 = some (10, 179, 4) := by decide +kernel
theorem ms_9_252 : ip_spc 9 252 = none := by decide +kernel
theorem mt_9_252 : ip_mth 9 252 = some (0, 281, 2) := by decide +kernel
theorem ms_9_253 : ip_spc 9 253 = none := by decide +kernel
theorem mt_9_253 : ip_mth 9 253 = some (10, 181, 4) := by decide +kernel
theorem ms_9_255 : ip_spc 9 255 = none := by decide +kernel
theorem mt_9_255 : ip_mth 9 255 = some (0, 282, 2) := by decide +kernel
theorem ms_9_256 : ip_spc 9 256 = none := by decide +kernel
theorem mt_9_256 : ip_mth 9 256 = some (0, 34, 1) := by decide +kernel
theorem ms_9_259 : ip_spc 9 259 = none := by decide +kernel
theorem mt_9_259 : ip_mth 9 259 = some (0, 283, 1) := by decide +kernel
theorem kl_5_27 : ip_kjn 5 27 = some (-1) := by decide +kernel
theorem kl_6_53 : ip_kjn 6 53 = some (-1) := by decide +kernel
theorem kl_8_206 : ip_kjn 8 206 = some 32 := by decide +kernel
theorem kl_8_208 : ip_kjn 8 208 = some 97 := by decide +kernel
theorem ki_10_265 : ip_kin 10 265 = some 1431655765 := by decide +kernel
theorem ki_10_266 : ip_kin 10 266 = some 858993459 := by decide +kernel
theorem ki_10_267 : ip_kin 10 267 = some 252645135 := by decide +kernel
theorem kn_4_159 : ip_kin 4 159 = none := by decide +kernel
theorem ks_4_159 : ip_str 4 159 = some 0 := by decide +kernel
theorem kn_7_88 : ip_kin 7 88 = none := by decide +kernel
theorem ks_7_88 : ip_str 7 88 = some 1 := by decide +kernel
theorem kn_7_114 : ip_kin 7 114 = none := by decide +kernel
theorem ks_7_114 : ip_str 7 114 = some 3 := by decide +kernel
theorem kn_7_131 : ip_kin 7 131 = none := by decide +kernel
theorem ks_7_131 : ip_str 7 131 = some 5 := by decide +kernel
theorem kn_7_136 : ip_kin 7 136 = none := by decide +kernel
theorem ks_7_136 : ip_str 7 136 = some 7 := by decide +kernel
theorem kn_7_149 : ip_kin 7 149 = none := by decide +kernel
theorem ks_7_149 : ip_str 7 149 = some 8 := by decide +kernel
theorem kn_7_168 : ip_kin 7 168 = none := by decide +kernel
theorem ks_7_168 : ip_str 7 168 = some 9 := by decide +kernel
theorem kn_7_177 : ip_kin 7 177 = none := by decide +kernel
theorem ks_7_177 : ip_str 7 177 = some 10 := by decide +kernel
theorem kn_7_204 : ip_kin 7 204 = none := by decide +kernel
theorem ks_7_204 : ip_str 7 204 = some 14 := by decide +kernel
theorem kn_7_259 : ip_kin 7 259 = none := by decide +kernel
theorem ks_7_259 : ip_str 7 259 = some 17 := by decide +kernel
theorem kn_7_274 : ip_kin 7 274 = none := by decide +kernel
theorem ks_7_274 : ip_str 7 274 = some 18 := by decide +kernel
theorem kn_7_304 : ip_kin 7 304 = none := by decide +kernel
theorem ks_7_304 : ip_str 7 304 = some 19 := by decide +kernel
theorem kn_7_316 : ip_kin 7 316 = none := by decide +kernel
theorem ks_7_316 : ip_str 7 316 = some 20 := by decide +kernel
theorem kn_7_318 : ip_kin 7 318 = none := by decide +kernel
theorem ks_7_318 : ip_str 7 318 = some 21 := by decide +kernel
theorem kn_7_320 : ip_kin 7 320 = none := by decide +kernel
theorem ks_7_320 : ip_str 7 320 = some 22 := by decide +kernel
theorem kn_7_335 : ip_kin 7 335 = none := by decide +kernel
theorem ks_7_335 : ip_str 7 335 = some 23 := by decide +kernel
theorem kn_7_337 : ip_kin 7 337 = none := by decide +kernel
theorem ks_7_337 : ip_str 7 337 = some 24 := by decide +kernel
theorem kn_7_339 : ip_kin 7 339 = none := by decide +kernel
theorem ks_7_339 : ip_str 7 339 = some 25 := by decide +kernel
theorem kn_7_341 : ip_kin 7 341 = none := by decide +kernel
theorem ks_7_341 : ip_str 7 341 = some 26 := by decide +kernel
theorem kn_7_349 : ip_kin 7 349 = none := by decide +kernel
theorem ks_7_349 : ip_str 7 349 = some 27 := by decide +kernel
theorem kn_7_389 : ip_kin 7 389 = none := by decide +kernel
theorem ks_7_389 : ip_str 7 389 = some 2 := by decide +kernel
theorem kn_7_392 : ip_kin 7 392 = none := by decide +kernel
theorem ks_7_392 : ip_str 7 392 = some 15 := by decide +kernel
theorem kn_7_394 : ip_kin 7 394 = none := by decide +kernel
theorem ks_7_394 : ip_str 7 394 = some 6 := by decide +kernel
theorem kn_7_396 : ip_kin 7 396 = none := by decide +kernel
theorem ks_7_396 : ip_str 7 396 = some 4 := by decide +kernel
theorem kn_7_398 : ip_kin 7 398 = none := by decide +kernel
theorem ks_7_398 : ip_str 7 398 = some 11 := by decide +kernel
theorem kn_7_400 : ip_kin 7 400 = none := by decide +kernel
theorem ks_7_400 : ip_str 7 400 = some 16 := by decide +kernel
theorem kn_7_402 : ip_kin 7 402 = none := by decide +kernel
theorem ks_7_402 : ip_str 7 402 = some 13 := by decide +kernel
theorem kn_7_408 : ip_kin 7 408 = none := by decide +kernel
theorem ks_7_408 : ip_str 7 408 = some 12 := by decide +kernel
theorem kn_8_177 : ip_kin 8 177 = none := by decide +kernel
theorem ks_8_177 : ip_str 8 177 = some 28 := by decide +kernel
theorem kn_8_179 : ip_kin 8 179 = none := by decide +kernel
theorem ks_8_179 : ip_str 8 179 = some 29 := by decide +kernel
theorem kn_8_181 : ip_kin 8 181 = none := by decide +kernel
theorem ks_8_181 : ip_str 8 181 = some 30 := by decide +kernel
theorem kn_8_183 : ip_kin 8 183 = none := by decide +kernel
theorem ks_8_183 : ip_str 8 183 = some 31 := by decide +kernel
theorem kn_8_185 : ip_kin 8 185 = none := by decide +kernel
theorem ks_8_185 : ip_str 8 185 = some 32 := by decide +kernel
theorem kn_8_186 : ip_kin 8 186 = none := by decide +kernel
theorem ks_8_186 : ip_str 8 186 = some 33 := by decide +kernel
theorem kn_8_188 : ip_kin 8 188 = none := by decide +kernel
theorem ks_8_188 : ip_str 8 188 = some 21 := by decide +kernel
theorem kn_8_190 : ip_kin 8 190 = none := by decide +kernel
theorem ks_8_190 : ip_str 8 190 = some 22 := by decide +kernel
theorem kn_8_192 : ip_kin 8 192 = none := by decide +kernel
theorem ks_8_192 : ip_str 8 192 = some 34 := by decide +kernel
theorem kn_8_194 : ip_kin 8 194 = none := by decide +kernel
theorem ks_8_194 : ip_str 8 194 = some 35 := by decide +kernel
theorem kn_8_196 : ip_kin 8 196 = none := by decide +kernel
theorem ks_8_196 : ip_str 8 196 = some 36 := by decide +kernel
theorem kn_8_198 : ip_kin 8 198 = none := by decide +kernel
theorem ks_8_198 : ip_str 8 198 = some 37 := by decide +kernel
theorem kn_8_200 : ip_kin 8 200 = none := by decide +kernel
theorem ks_8_200 : ip_str 8 200 = some 38 := by decide +kernel
theorem kn_8_450 : ip_kin 8 450 = none := by decide +kernel
theorem ks_8_450 : ip_str 8 450 = some 20 := by decide +kernel
theorem kn_8_456 : ip_kin 8 456 = none := by decide +kernel
theorem ks_8_456 : ip_str 8 456 = some 23 := by decide +kernel
theorem kn_8_458 : ip_kin 8 458 = none := by decide +kernel
theorem ks_8_458 : ip_str 8 458 = some 24 := by decide +kernel
theorem kn_8_460 : ip_kin 8 460 = none := by decide +kernel
theorem ks_8_460 : ip_str 8 460 = some 25 := by decide +kernel
theorem kn_8_462 : ip_kin 8 462 = none := by decide +kernel
theorem ks_8_462 : ip_str 8 462 = some 26 := by decide +kernel
theorem cy4_6 : ip_cn.getD 6 "" = (ip_y 4).cls := by decide +kernel
theorem cy9_7 : ip_cn.getD 7 "" = (ip_y 9).cls := by decide +kernel
theorem cy10_6 : ip_cn.getD 6 "" = (ip_y 10).cls := by decide +kernel
theorem cy11_1 : ip_cn.getD 1 "" = (ip_y 11).cls := by decide +kernel
theorem cy12_1 : ip_cn.getD 1 "" = (ip_y 12).cls := by decide +kernel
theorem cy13_7 : ip_cn.getD 7 "" = (ip_y 13).cls := by decide +kernel
theorem cy14_7 : ip_cn.getD 7 "" = (ip_y 14).cls := by decide +kernel
theorem cy15_7 : ip_cn.getD 7 "" = (ip_y 15).cls := by decide +kernel
theorem cy16_7 : ip_cn.getD 7 "" = (ip_y 16).cls := by decide +kernel
theorem cy17_7 : ip_cn.getD 7 "" = (ip_y 17).cls := by decide +kernel
theorem cy18_6 : ip_cn.getD 6 "" = (ip_y 18).cls := by decide +kernel
theorem cy21_7 : ip_cn.getD 7 "" = (ip_y 21).cls := by decide +kernel
theorem cy22_7 : ip_cn.getD 7 "" = (ip_y 22).cls := by decide +kernel
theorem cy23_6 : ip_cn.getD 6 "" = (ip_y 23).cls := by decide +kernel
theorem cy24_6 : ip_cn.getD 6 "" = (ip_y 24).cls := by decide +kernel
theorem cy25_7 : ip_cn.getD 7 "" = (ip_y 25).cls := by decide +kernel
theorem cy26_7 : ip_cn.getD 7 "" = (ip_y 26).cls := by decide +kernel
theorem cy27_7 : ip_cn.getD 7 "" = (ip_y 27).cls := by decide +kernel
theorem cy28_7 : ip_cn.getD 7 "" = (ip_y 28).cls := by decide +kernel
theorem cy29_2 : ip_cn.getD 2 "" = (ip_y 29).cls := by decide +kernel
theorem cy30_7 : ip_cn.getD 7 "" = (ip_y 30).cls := by decide +kernel
theorem cy31_2 : ip_cn.getD 2 "" = (ip_y 31).cls := by decide +kernel
theorem cy32_2 : ip_cn.getD 2 "" = (ip_y 32).cls := by decide +kernel
theorem cy34_7 : ip_cn.getD 7 "" = (ip_y 34).cls := by decide +kernel
theorem cy35_7 : ip_cn.getD 7 "" = (ip_y 35).cls := by decide +kernel
theorem cy37_7 : ip_cn.getD 7 "" = (ip_y 37).cls := by decide +kernel
theorem cy38_4 : ip_cn.getD 4 "" = (ip_y 38).cls := by decide +kernel
theorem cy39_5 : ip_cn.getD 5 "" = (ip_y 39).cls := by decide +kernel
theorem cy40_4 : ip_cn.getD 4 "" = (ip_y 40).cls := by decide +kernel
theorem cy43_4 : ip_cn.getD 4 "" = (ip_y 43).cls := by decide +kernel
theorem cy44_4 : ip_cn.getD 4 "" = (ip_y 44).cls := by decide +kernel
theorem cy47_4 : ip_cn.getD 4 "" = (ip_y 47).cls := by decide +kernel
theorem cy48_4 : ip_cn.getD 4 "" = (ip_y 48).cls := by decide +kernel
theorem cy49_4 : ip_cn.getD 4 "" = (ip_y 49).cls := by decide +kernel
theorem cy50_6 : ip_cn.getD 6 "" = (ip_y 50).cls := by decide +kernel
theorem cy51_4 : ip_cn.getD 4 "" = (ip_y 51).cls := by decide +kernel
theorem cy52_4 : ip_cn.getD 4 "" = (ip_y 52).cls := by decide +kernel
theorem cy53_4 : ip_cn.getD 4 "" = (ip_y 53).cls := by decide +kernel
theorem cy54_6 : ip_cn.getD 6 "" = (ip_y 54).cls := by decide +kernel
theorem cy55_4 : ip_cn.getD 4 "" = (ip_y 55).cls := by decide +kernel
theorem cy56_4 : ip_cn.getD 4 "" = (ip_y 56).cls := by decide +kernel
theorem cy57_4 : ip_cn.getD 4 "" = (ip_y 57).cls := by decide +kernel
theorem cy58_4 : ip_cn.getD 4 "" = (ip_y 58).cls := by decide +kernel
theorem cy59_4 : ip_cn.getD 4 "" = (ip_y 59).cls := by decide +kernel
theorem cy60_4 : ip_cn.getD 4 "" = (ip_y 60).cls := by decide +kernel
theorem cy61_5 : ip_cn.getD 5 "" = (ip_y 61).cls := by decide +kernel
theorem cy62_4 : ip_cn.getD 4 "" = (ip_y 62).cls := by decide +kernel
theorem cy63_5 : ip_cn.getD 5 "" = (ip_y 63).cls := by decide +kernel
theorem cy65_4 : ip_cn.getD 4 "" = (ip_y 65).cls := by decide +kernel
theorem cy66_4 : ip_cn.getD 4 "" = (ip_y 66).cls := by decide +kernel
theorem cy67_5 : ip_cn.getD 5 "" = (ip_y 67).cls := by decide +kernel
theorem cy68_5 : ip_cn.getD 5 "" = (ip_y 68).cls := by decide +kernel
theorem cy69_5 : ip_cn.getD 5 "" = (ip_y 69).cls := by decide +kernel
theorem cy70_5 : ip_cn.getD 5 "" = (ip_y 70).cls := by decide +kernel
theorem cy71_5 : ip_cn.getD 5 "" = (ip_y 71).cls := by decide +kernel
theorem cy72_4 : ip_cn.getD 4 "" = (ip_y 72).cls := by decide +kernel
theorem cy74_7 : ip_cn.getD 7 "" = (ip_y 74).cls := by decide +kernel
theorem cy75_7 : ip_cn.getD 7 "" = (ip_y 75).cls := by decide +kernel
theorem cy77_7 : ip_cn.getD 7 "" = (ip_y 77).cls := by decide +kernel
theorem cy79_7 : ip_cn.getD 7 "" = (ip_y 79).cls := by decide +kernel
theorem cy83_7 : ip_cn.getD 7 "" = (ip_y 83).cls := by decide +kernel
theorem cy85_7 : ip_cn.getD 7 "" = (ip_y 85).cls := by decide +kernel
theorem cy87_1 : ip_cn.getD 1 "" = (ip_y 87).cls := by decide +kernel
theorem cy88_1 : ip_cn.getD 1 "" = (ip_y 88).cls := by decide +kernel
theorem cy90_7 : ip_cn.getD 7 "" = (ip_y 90).cls := by decide +kernel
theorem cy91_1 : ip_cn.getD 1 "" = (ip_y 91).cls := by decide +kernel
theorem cy92_1 : ip_cn.getD 1 "" = (ip_y 92).cls := by decide +kernel
theorem cy93_1 : ip_cn.getD 1 "" = (ip_y 93).cls := by decide +kernel
theorem cy95_7 : ip_cn.getD 7 "" = (ip_y 95).cls := by decide +kernel
theorem cy97_7 : ip_cn.getD 7 "" = (ip_y 97).cls := by decide +kernel
theorem cy98_7 : ip_cn.getD 7 "" = (ip_y 98).cls := by decide +kernel
theorem cy99_7 : ip_cn.getD 7 "" = (ip_y 99).cls := by decide +kernel
theorem cy100_0 : ip_cn.getD 0 "" = (ip_y 100).cls := by decide +kernel
theorem cy102_6 : ip_cn.getD 6 "" = (ip_y 102).cls := by decide +kernel
theorem cy103_0 : ip_cn.getD 0 "" = (ip_y 103).cls := by decide +kernel
theorem cy104_0 : ip_cn.getD 0 "" = (ip_y 104).cls := by decide +kernel
theorem cy105_1 : ip_cn.getD 1 "" = (ip_y 105).cls := by decide +kernel
theorem cy106_1 : ip_cn.getD 1 "" = (ip_y 106).cls := by decide +kernel
theorem cy107_7 : ip_cn.getD 7 "" = (ip_y 107).cls := by decide +kernel
theorem cy108_0 : ip_cn.getD 0 "" = (ip_y 108).cls := by decide +kernel
theorem cy109_0 : ip_cn.getD 0 "" = (ip_y 109).cls := by decide +kernel
theorem cy110_0 : ip_cn.getD 0 "" = (ip_y 110).cls := by decide +kernel
theorem cy111_0 : ip_cn.getD 0 "" = (ip_y 111).cls := by decide +kernel
theorem cy112_0 : ip_cn.getD 0 "" = (ip_y 112).cls := by decide +kernel
theorem cy113_0 : ip_cn.getD 0 "" = (ip_y 113).cls := by decide +kernel
theorem cy114_0 : ip_cn.getD 0 "" = (ip_y 114).cls := by decide +kernel
theorem cy115_1 : ip_cn.getD 1 "" = (ip_y 115).cls := by decide +kernel
theorem cy116_1 : ip_cn.getD 1 "" = (ip_y 116).cls := by decide +kernel
theorem cy117_1 : ip_cn.getD 1 "" = (ip_y 117).cls := by decide +kernel
theorem cy118_7 : ip_cn.getD 7 "" = (ip_y 118).cls := by decide +kernel
theorem cy120_7 : ip_cn.getD 7 "" = (ip_y 120).cls := by decide +kernel
theorem cy121_1 : ip_cn.getD 1 "" = (ip_y 121).cls := by decide +kernel
theorem cy123_7 : ip_cn.getD 7 "" = (ip_y 123).cls := by decide +kernel
theorem cy124_7 : ip_cn.getD 7 "" = (ip_y 124).cls := by decide +kernel
theorem cy126_7 : ip_cn.getD 7 "" = (ip_y 126).cls := by decide +kernel
theorem cy128_7 : ip_cn.getD 7 "" = (ip_y 128).cls := by decide +kernel
theorem cy130_0 : ip_cn.getD 0 "" = (ip_y 130).cls := by decide +kernel
theorem cy131_6 : ip_cn.getD 6 "" = (ip_y 131).cls := by decide +kernel
theorem cy135_7 : ip_cn.getD 7 "" = (ip_y 135).cls := by decide +kernel
theorem cy137_7 : ip_cn.getD 7 "" = (ip_y 137).cls := by decide +kernel
theorem cy139_7 : ip_cn.getD 7 "" = (ip_y 139).cls := by decide +kernel
theorem cy141_7 : ip_cn.getD 7 "" = (ip_y 141).cls := by decide +kernel
theorem cy142_3 : ip_cn.getD 3 "" = (ip_y 142).cls := by decide +kernel
theorem cy143_0 : ip_cn.getD 0 "" = (ip_y 143).cls := by decide +kernel
theorem cy144_3 : ip_cn.getD 3 "" = (ip_y 144).cls := by decide +kernel
theorem cy146_7 : ip_cn.getD 7 "" = (ip_y 146).cls := by decide +kernel
theorem cy147_3 : ip_cn.getD 3 "" = (ip_y 147).cls := by decide +kernel
theorem cy148_0 : ip_cn.getD 0 "" = (ip_y 148).cls := by decide +kernel
theorem cy149_3 : ip_cn.getD 3 "" = (ip_y 149).cls := by decide +kernel
theorem cy150_0 : ip_cn.getD 0 "" = (ip_y 150).cls := by decide +kernel
theorem cy151_0 : ip_cn.getD 0 "" = (ip_y 151).cls := by decide +kernel
theorem cy152_3 : ip_cn.getD 3 "" = (ip_y 152).cls := by decide +kernel
theorem cy154_7 : ip_cn.getD 7 "" = (ip_y 154).cls := by decide +kernel
theorem cy155_0 : ip_cn.getD 0 "" = (ip_y 155).cls := by decide +kernel
theorem cy157_7 : ip_cn.getD 7 "" = (ip_y 157).cls := by decide +kernel
theorem cy159_7 : ip_cn.getD 7 "" = (ip_y 159).cls := by decide +kernel
theorem cy161_7 : ip_cn.getD 7 "" = (ip_y 161).cls := by decide +kernel
theorem cy163_7 : ip_cn.getD 7 "" = (ip_y 163).cls := by decide +kernel
theorem cy165_7 : ip_cn.getD 7 "" = (ip_y 165).cls := by decide +kernel
theorem cy166_2 : ip_cn.getD 2 "" = (ip_y 166).cls := by decide +kernel
theorem cy168_7 : ip_cn.getD 7 "" = (ip_y 168).cls := by decide +kernel
theorem cy170_7 : ip_cn.getD 7 "" = (ip_y 170).cls := by decide +kernel
theorem cy172_7 : ip_cn.getD 7 "" = (ip_y 172).cls := by decide +kernel
theorem cy174_7 : ip_cn.getD 7 "" = (ip_y 174).cls := by decide +kernel
theorem cy176_7 : ip_cn.getD 7 "" = (ip_y 176).cls := by decide +kernel
theorem cy177_7 : ip_cn.getD 7 "" = (ip_y 177).cls := by decide +kernel
theorem cy178_7 : ip_cn.getD 7 "" = (ip_y 178).cls := by decide +kernel
theorem cy180_7 : ip_cn.getD 7 "" = (ip_y 180).cls := by decide +kernel
theorem cy182_7 : ip_cn.getD 7 "" = (ip_y 182).cls := by decide +kernel
theorem cy184_8 : ip_cn.getD 8 "" = (ip_y 184).cls := by decide +kernel
theorem cy185_8 : ip_cn.getD 8 "" = (ip_y 185).cls := by decide +kernel
theorem cy187_8 : ip_cn.getD 8 "" = (ip_y 187).cls := by decide +kernel
theorem cy188_8 : ip_cn.getD 8 "" = (ip_y 188).cls := by decide +kernel
theorem cy189_8 : ip_cn.getD 8 "" = (ip_y 189).cls := by decide +kernel
theorem cy190_8 : ip_cn.getD 8 "" = (ip_y 190).cls := by decide +kernel
theorem cy191_8 : ip_cn.getD 8 "" = (ip_y 191).cls := by decide +kernel
theorem cy192_8 : ip_cn.getD 8 "" = (ip_y 192).cls := by decide +kernel
theorem cy193_8 : ip_cn.getD 8 "" = (ip_y 193).cls := by decide +kernel
theorem cy194_8 : ip_cn.getD 8 "" = (ip_y 194).cls := by decide +kernel
theorem cy195_8 : ip_cn.getD 8 "" = (ip_y 195).cls := by decide +kernel
theorem cy196_8 : ip_cn.getD 8 "" = (ip_y 196).cls := by decide +kernel
theorem cy197_8 : ip_cn.getD 8 "" = (ip_y 197).cls := by decide +kernel
theorem cy198_8 : ip_cn.getD 8 "" = (ip_y 198).cls := by decide +kernel
theorem cy199_8 : ip_cn.getD 8 "" = (ip_y 199).cls := by decide +kernel
theorem cy200_8 : ip_cn.getD 8 "" = (ip_y 200).cls := by decide +kernel
theorem cy201_8 : ip_cn.getD 8 "" = (ip_y 201).cls := by decide +kernel
theorem cy202_8 : ip_cn.getD 8 "" = (ip_y 202).cls := by decide +kernel
theorem cy203_8 : ip_cn.getD 8 "" = (ip_y 203).cls := by decide +kernel
theorem cy204_8 : ip_cn.getD 8 "" = (ip_y 204).cls := by decide +kernel
theorem cy205_8 : ip_cn.getD 8 "" = (ip_y 205).cls := by decide +kernel
theorem cy206_8 : ip_cn.getD 8 "" = (ip_y 206).cls := by decide +kernel
theorem cy207_8 : ip_cn.getD 8 "" = (ip_y 207).cls := by decide +kernel
theorem cy208_8 : ip_cn.getD 8 "" = (ip_y 208).cls := by decide +kernel
theorem cy209_8 : ip_cn.getD 8 "" = (ip_y 209).cls := by decide +kernel
theorem cy210_8 : ip_cn.getD 8 "" = (ip_y 210).cls := by decide +kernel
theorem cy211_8 : ip_cn.getD 8 "" = (ip_y 211).cls := by decide +kernel
theorem cy212_8 : ip_cn.getD 8 "" = (ip_y 212).cls := by decide +kernel
theorem cy213_8 : ip_cn.getD 8 "" = (ip_y 213).cls := by decide +kernel
theorem cy214_8 : ip_cn.getD 8 "" = (ip_y 214).cls := by decide +kernel
theorem cy215_8 : ip_cn.getD 8 "" = (ip_y 215).cls := by decide +kernel
theorem cy216_8 : ip_cn.getD 8 "" = (ip_y 216).cls := by decide +kernel
theorem cy218_8 : ip_cn.getD 8 "" = (ip_y 218).cls := by decide +kernel
theorem cy219_8 : ip_cn.getD 8 "" = (ip_y 219).cls := by decide +kernel
theorem cy222_8 : ip_cn.getD 8 "" = (ip_y 222).cls := by decide +kernel
theorem cy223_8 : ip_cn.getD 8 "" = (ip_y 223).cls := by decide +kernel
theorem cy224_8 : ip_cn.getD 8 "" = (ip_y 224).cls := by decide +kernel
theorem cy227_8 : ip_cn.getD 8 "" = (ip_y 227).cls := by decide +kernel
theorem cy228_8 : ip_cn.getD 8 "" = (ip_y 228).cls := by decide +kernel
theorem cy229_8 : ip_cn.getD 8 "" = (ip_y 229).cls := by decide +kernel
theorem cy230_8 : ip_cn.getD 8 "" = (ip_y 230).cls := by decide +kernel
theorem cy231_8 : ip_cn.getD 8 "" = (ip_y 231).cls := by decide +kernel
theorem cy232_8 : ip_cn.getD 8 "" = (ip_y 232).cls := by decide +kernel
theorem cy233_8 : ip_cn.getD 8 "" = (ip_y 233).cls := by decide +kernel
theorem cy234_8 : ip_cn.getD 8 "" = (ip_y 234).cls := by decide +kernel
theorem cy235_8 : ip_cn.getD 8 "" = (ip_y 235).cls := by decide +kernel
theorem cy236_8 : ip_cn.getD 8 "" = (ip_y 236).cls := by decide +kernel
theorem cy237_8 : ip_cn.getD 8 "" = (ip_y 237).cls := by decide +kernel
theorem cy238_8 : ip_cn.getD 8 "" = (ip_y 238).cls := by decide +kernel
theorem cy239_8 : ip_cn.getD 8 "" = (ip_y 239).cls := by decide +kernel
theorem cy240_8 : ip_cn.getD 8 "" = (ip_y 240).cls := by decide +kernel
theorem cy241_8 : ip_cn.getD 8 "" = (ip_y 241).cls := by decide +kernel
theorem cy242_8 : ip_cn.getD 8 "" = (ip_y 242).cls := by decide +kernel
theorem cy243_8 : ip_cn.getD 8 "" = (ip_y 243).cls := by decide +kernel
theorem cy244_8 : ip_cn.getD 8 "" = (ip_y 244).cls := by decide +kernel
theorem cy245_8 : ip_cn.getD 8 "" = (ip_y 245).cls := by decide +kernel
theorem cy246_8 : ip_cn.getD 8 "" = (ip_y 246).cls := by decide +kernel
theorem cy247_8 : ip_cn.getD 8 "" = (ip_y 247).cls := by decide +kernel
theorem cy248_8 : ip_cn.getD 8 "" = (ip_y 248).cls := by decide +kernel
theorem cy249_8 : ip_cn.getD 8 "" = (ip_y 249).cls := by decide +kernel
theorem cy251_8 : ip_cn.getD 8 "" = (ip_y 251).cls := by decide +kernel
theorem cy252_8 : ip_cn.getD 8 "" = (ip_y 252).cls := by decide +kernel
theorem cy253_8 : ip_cn.getD 8 "" = (ip_y 253).cls := by decide +kernel
theorem cy254_8 : ip_cn.getD 8 "" = (ip_y 254).cls := by decide +kernel
theorem cy255_8 : ip_cn.getD 8 "" = (ip_y 255).cls := by decide +kernel
theorem cy256_8 : ip_cn.getD 8 "" = (ip_y 256).cls := by decide +kernel
theorem cy258_8 : ip_cn.getD 8 "" = (ip_y 258).cls := by decide +kernel
theorem cy259_8 : ip_cn.getD 8 "" = (ip_y 259).cls := by decide +kernel
theorem cy260_8 : ip_cn.getD 8 "" = (ip_y 260).cls := by decide +kernel
theorem cy261_8 : ip_cn.getD 8 "" = (ip_y 261).cls := by decide +kernel
theorem cy262_8 : ip_cn.getD 8 "" = (ip_y 262).cls := by decide +kernel
theorem cy263_8 : ip_cn.getD 8 "" = (ip_y 263).cls := by decide +kernel
theorem cy264_8 : ip_cn.getD 8 "" = (ip_y 264).cls := by decide +kernel
theorem cy265_8 : ip_cn.getD 8 "" = (ip_y 265).cls := by decide +kernel
theorem cy266_8 : ip_cn.getD 8 "" = (ip_y 266).cls := by decide +kernel
theorem cy267_8 : ip_cn.getD 8 "" = (ip_y 267).cls := by decide +kernel
theorem cy268_8 : ip_cn.getD 8 "" = (ip_y 268).cls := by decide +kernel
theorem cy269_8 : ip_cn.getD 8 "" = (ip_y 269).cls := by decide +kernel
theorem cy270_8 : ip_cn.getD 8 "" = (ip_y 270).cls := by decide +kernel
theorem cy271_8 : ip_cn.getD 8 "" = (ip_y 271).cls := by decide +kernel
theorem cy272_8 : ip_cn.getD 8 "" = (ip_y 272).cls := by decide +kernel
theorem cy273_8 : ip_cn.getD 8 "" = (ip_y 273).cls := by decide +kernel
theorem cy274_8 : ip_cn.getD 8 "" = (ip_y 274).cls := by decide +kernel
theorem cy275_8 : ip_cn.getD 8 "" = (ip_y 275).cls := by decide +kernel
theorem cy276_8 : ip_cn.getD 8 "" = (ip_y 276).cls := by decide +kernel
theorem cy277_8 : ip_cn.getD 8 "" = (ip_y 277).cls := by decide +kernel
theorem cy278_8 : ip_cn.getD 8 "" = (ip_y 278).cls := by decide +kernel
theorem cy279_8 : ip_cn.getD 8 "" = (ip_y 279).cls := by decide +kernel
theorem cy280_8 : ip_cn.getD 8 "" = (ip_y 280).cls := by decide +kernel
theorem cy281_8 : ip_cn.getD 8 "" = (ip_y 281).cls := by decide +kernel
theorem cy282_8 : ip_cn.getD 8 "" = (ip_y 282).cls := by decide +kernel
theorem cy283_8 : ip_cn.getD 8 "" = (ip_y 283).cls := by decide +kernel
